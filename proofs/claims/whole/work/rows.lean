section
-- ===== PART A: goes FIRST, ahead of the names: the tables' words, and 'selects' of the private methods out of them =====
/-- a private method of a class that the tables say can be made, by its rows of tables_1 -/
def lw_okq (q : MethodName × Nat) : Prop := (q.1.cls ≠ "java/lang/invoke/MethodHandle" ∧ q.1.cls ≠ "java/lang/invoke/VarHandle") ∧ Cond.instantiable q.1.cls q.2 ∈ tables_1 ∧ Cond.privateMethod q.1 ∈ tables_1 ∧ Cond.instanceMethod q.1 ∈ tables_1
theorem lw_p0 : lw_okq (⟨"LowerBows", "textOf", "(I)LLowerBows$Text;"⟩, 14) := ⟨⟨by decide +kernel, by decide +kernel⟩, List.mem_of_getElem? (i := 18) (by decide +kernel), List.mem_of_getElem? (i := 349) (by decide +kernel), List.mem_of_getElem? (i := 350) (by decide +kernel)⟩
theorem lw_p1 : lw_okq (⟨"LowerBows", "readAgain", "(I)V"⟩, 14) := ⟨⟨by decide +kernel, by decide +kernel⟩, List.mem_of_getElem? (i := 18) (by decide +kernel), List.mem_of_getElem? (i := 357) (by decide +kernel), List.mem_of_getElem? (i := 358) (by decide +kernel)⟩
theorem lw_p2 : lw_okq (⟨"LowerBows", "isPerson", "(I)Z"⟩, 14) := ⟨⟨by decide +kernel, by decide +kernel⟩, List.mem_of_getElem? (i := 18) (by decide +kernel), List.mem_of_getElem? (i := 399) (by decide +kernel), List.mem_of_getElem? (i := 400) (by decide +kernel)⟩
theorem lw_p3 : lw_okq (⟨"LowerBows", "found", "(I)I"⟩, 14) := ⟨⟨by decide +kernel, by decide +kernel⟩, List.mem_of_getElem? (i := 18) (by decide +kernel), List.mem_of_getElem? (i := 436) (by decide +kernel), List.mem_of_getElem? (i := 437) (by decide +kernel)⟩
theorem lw_p4 : lw_okq (⟨"LowerBows$Coast", "expectFirstBows", "()V"⟩, 13) := ⟨⟨by decide +kernel, by decide +kernel⟩, List.mem_of_getElem? (i := 141) (by decide +kernel), List.mem_of_getElem? (i := 456) (by decide +kernel), List.mem_of_getElem? (i := 457) (by decide +kernel)⟩
theorem lw_p5 : lw_okq (⟨"LowerBows$Coast", "expectAnswerTo", "(III)V"⟩, 13) := ⟨⟨by decide +kernel, by decide +kernel⟩, List.mem_of_getElem? (i := 141) (by decide +kernel), List.mem_of_getElem? (i := 460) (by decide +kernel), List.mem_of_getElem? (i := 461) (by decide +kernel)⟩
theorem lw_p6 : lw_okq (⟨"LowerBows$ShadePlan", "findOne", "(I)Z"⟩, 3) := ⟨⟨by decide +kernel, by decide +kernel⟩, List.mem_of_getElem? (i := 204) (by decide +kernel), List.mem_of_getElem? (i := 538) (by decide +kernel), List.mem_of_getElem? (i := 539) (by decide +kernel)⟩
theorem lw_p7 : lw_okq (⟨"LowerBows$ShadePlan", "numberThatHelps", "(II)I"⟩, 3) := ⟨⟨by decide +kernel, by decide +kernel⟩, List.mem_of_getElem? (i := 204) (by decide +kernel), List.mem_of_getElem? (i := 542) (by decide +kernel), List.mem_of_getElem? (i := 543) (by decide +kernel)⟩
theorem lw_p8 : lw_okq (⟨"LowerBows$ShadePlan", "isWorthHiding", "(I)Z"⟩, 3) := ⟨⟨by decide +kernel, by decide +kernel⟩, List.mem_of_getElem? (i := 204) (by decide +kernel), List.mem_of_getElem? (i := 546) (by decide +kernel), List.mem_of_getElem? (i := 547) (by decide +kernel)⟩
theorem lw_p9 : lw_okq (⟨"LowerBows$ShadePlan", "toggle", "(I)V"⟩, 3) := ⟨⟨by decide +kernel, by decide +kernel⟩, List.mem_of_getElem? (i := 204) (by decide +kernel), List.mem_of_getElem? (i := 550) (by decide +kernel), List.mem_of_getElem? (i := 551) (by decide +kernel)⟩
theorem lw_p10 : lw_okq (⟨"LowerBows$ShadePlan", "findTwo", "(I)Z"⟩, 3) := ⟨⟨by decide +kernel, by decide +kernel⟩, List.mem_of_getElem? (i := 204) (by decide +kernel), List.mem_of_getElem? (i := 554) (by decide +kernel), List.mem_of_getElem? (i := 555) (by decide +kernel)⟩
theorem lw_p11 : lw_okq (⟨"LowerBows$StrollPlan", "costFor", "(I)I"⟩, 4) := ⟨⟨by decide +kernel, by decide +kernel⟩, List.mem_of_getElem? (i := 222) (by decide +kernel), List.mem_of_getElem? (i := 567) (by decide +kernel), List.mem_of_getElem? (i := 568) (by decide +kernel)⟩
theorem lw_p12 : lw_okq (⟨"LowerBows$Clues", "comesOutAsSeen", "()Z"⟩, 3) := ⟨⟨by decide +kernel, by decide +kernel⟩, List.mem_of_getElem? (i := 242) (by decide +kernel), List.mem_of_getElem? (i := 602) (by decide +kernel), List.mem_of_getElem? (i := 603) (by decide +kernel)⟩
theorem lw_p13 : lw_okq (⟨"LowerBows$Clues", "isAsSeenBehind", "(I)Z"⟩, 3) := ⟨⟨by decide +kernel, by decide +kernel⟩, List.mem_of_getElem? (i := 242) (by decide +kernel), List.mem_of_getElem? (i := 608) (by decide +kernel), List.mem_of_getElem? (i := 609) (by decide +kernel)⟩
theorem lw_p14 : lw_okq (⟨"LowerBows$Clues", "greatestAlike", "(II)I"⟩, 3) := ⟨⟨by decide +kernel, by decide +kernel⟩, List.mem_of_getElem? (i := 242) (by decide +kernel), List.mem_of_getElem? (i := 626) (by decide +kernel), List.mem_of_getElem? (i := 627) (by decide +kernel)⟩
theorem lw_p15 : lw_okq (⟨"LowerBows$Clues", "lowestOf", "(II)I"⟩, 3) := ⟨⟨by decide +kernel, by decide +kernel⟩, List.mem_of_getElem? (i := 242) (by decide +kernel), List.mem_of_getElem? (i := 630) (by decide +kernel), List.mem_of_getElem? (i := 631) (by decide +kernel)⟩
def lw_privs_1 : List (MethodName × Nat) := [(⟨"LowerBows", "textOf", "(I)LLowerBows$Text;"⟩, 14), (⟨"LowerBows", "readAgain", "(I)V"⟩, 14), (⟨"LowerBows", "isPerson", "(I)Z"⟩, 14), (⟨"LowerBows", "found", "(I)I"⟩, 14), (⟨"LowerBows$Coast", "expectFirstBows", "()V"⟩, 13), (⟨"LowerBows$Coast", "expectAnswerTo", "(III)V"⟩, 13), (⟨"LowerBows$ShadePlan", "findOne", "(I)Z"⟩, 3), (⟨"LowerBows$ShadePlan", "numberThatHelps", "(II)I"⟩, 3), (⟨"LowerBows$ShadePlan", "isWorthHiding", "(I)Z"⟩, 3), (⟨"LowerBows$ShadePlan", "toggle", "(I)V"⟩, 3), (⟨"LowerBows$ShadePlan", "findTwo", "(I)Z"⟩, 3), (⟨"LowerBows$StrollPlan", "costFor", "(I)I"⟩, 4), (⟨"LowerBows$Clues", "comesOutAsSeen", "()Z"⟩, 3), (⟨"LowerBows$Clues", "isAsSeenBehind", "(I)Z"⟩, 3), (⟨"LowerBows$Clues", "greatestAlike", "(II)I"⟩, 3), (⟨"LowerBows$Clues", "lowestOf", "(II)I"⟩, 3)]
theorem lw_r1 : ∀ q ∈ lw_privs_1, lw_okq q := List.forall_mem_cons.mpr ⟨lw_p0, List.forall_mem_cons.mpr ⟨lw_p1, List.forall_mem_cons.mpr ⟨lw_p2, List.forall_mem_cons.mpr ⟨lw_p3, List.forall_mem_cons.mpr ⟨lw_p4, List.forall_mem_cons.mpr ⟨lw_p5, List.forall_mem_cons.mpr ⟨lw_p6, List.forall_mem_cons.mpr ⟨lw_p7, List.forall_mem_cons.mpr ⟨lw_p8, List.forall_mem_cons.mpr ⟨lw_p9, List.forall_mem_cons.mpr ⟨lw_p10, List.forall_mem_cons.mpr ⟨lw_p11, List.forall_mem_cons.mpr ⟨lw_p12, List.forall_mem_cons.mpr ⟨lw_p13, List.forall_mem_cons.mpr ⟨lw_p14, List.forall_mem_cons.mpr ⟨lw_p15, fun _ h => absurd h List.not_mem_nil⟩⟩⟩⟩⟩⟩⟩⟩⟩⟩⟩⟩⟩⟩⟩⟩
theorem lw_p16 : lw_okq (⟨"LowerBows$Chances", "weightOf", "(II)J"⟩, 2) := ⟨⟨by decide +kernel, by decide +kernel⟩, List.mem_of_getElem? (i := 258) (by decide +kernel), List.mem_of_getElem? (i := 647) (by decide +kernel), List.mem_of_getElem? (i := 648) (by decide +kernel)⟩
theorem lw_p17 : lw_okq (⟨"LowerBows$Chances", "addToGone", "(J)V"⟩, 2) := ⟨⟨by decide +kernel, by decide +kernel⟩, List.mem_of_getElem? (i := 258) (by decide +kernel), List.mem_of_getElem? (i := 654) (by decide +kernel), List.mem_of_getElem? (i := 655) (by decide +kernel)⟩
theorem lw_p18 : lw_okq (⟨"LowerBows$Chances", "halvings", "(I)I"⟩, 2) := ⟨⟨by decide +kernel, by decide +kernel⟩, List.mem_of_getElem? (i := 258) (by decide +kernel), List.mem_of_getElem? (i := 663) (by decide +kernel), List.mem_of_getElem? (i := 664) (by decide +kernel)⟩
theorem lw_p19 : lw_okq (⟨"LowerBows$Chances", "bitsOfWhole", "()I"⟩, 2) := ⟨⟨by decide +kernel, by decide +kernel⟩, List.mem_of_getElem? (i := 258) (by decide +kernel), List.mem_of_getElem? (i := 667) (by decide +kernel), List.mem_of_getElem? (i := 668) (by decide +kernel)⟩
theorem lw_p20 : lw_okq (⟨"LowerBows", "digestOfPerson", "(JI)J"⟩, 14) := ⟨⟨by decide +kernel, by decide +kernel⟩, List.mem_of_getElem? (i := 18) (by decide +kernel), List.mem_of_getElem? (i := 747) (by decide +kernel), List.mem_of_getElem? (i := 748) (by decide +kernel)⟩
theorem lw_p21 : lw_okq (⟨"LowerBows", "digestOfHour", "(JI)J"⟩, 14) := ⟨⟨by decide +kernel, by decide +kernel⟩, List.mem_of_getElem? (i := 18) (by decide +kernel), List.mem_of_getElem? (i := 756) (by decide +kernel), List.mem_of_getElem? (i := 757) (by decide +kernel)⟩
theorem lw_p22 : lw_okq (⟨"LowerBows", "digestOfPlans", "(J)J"⟩, 14) := ⟨⟨by decide +kernel, by decide +kernel⟩, List.mem_of_getElem? (i := 18) (by decide +kernel), List.mem_of_getElem? (i := 762) (by decide +kernel), List.mem_of_getElem? (i := 763) (by decide +kernel)⟩
theorem lw_p23 : lw_okq (⟨"LowerBowsModel", "finds", "(I)I"⟩, 31) := ⟨⟨by decide +kernel, by decide +kernel⟩, List.mem_of_getElem? (i := 768) (by decide +kernel), List.mem_of_getElem? (i := 880) (by decide +kernel), List.mem_of_getElem? (i := 881) (by decide +kernel)⟩
theorem lw_p24 : lw_okq (⟨"LowerBowsModel", "lacks", "(III)I"⟩, 31) := ⟨⟨by decide +kernel, by decide +kernel⟩, List.mem_of_getElem? (i := 768) (by decide +kernel), List.mem_of_getElem? (i := 892) (by decide +kernel), List.mem_of_getElem? (i := 893) (by decide +kernel)⟩
theorem lw_p25 : lw_okq (⟨"LowerBowsModel", "readsPeople", "()I"⟩, 31) := ⟨⟨by decide +kernel, by decide +kernel⟩, List.mem_of_getElem? (i := 768) (by decide +kernel), List.mem_of_getElem? (i := 928) (by decide +kernel), List.mem_of_getElem? (i := 929) (by decide +kernel)⟩
theorem lw_p26 : lw_okq (⟨"LowerBowsModel", "tells", "(III)V"⟩, 31) := ⟨⟨by decide +kernel, by decide +kernel⟩, List.mem_of_getElem? (i := 768) (by decide +kernel), List.mem_of_getElem? (i := 938) (by decide +kernel), List.mem_of_getElem? (i := 939) (by decide +kernel)⟩
theorem lw_p27 : lw_okq (⟨"LowerBowsModel", "readsWalks", "()I"⟩, 31) := ⟨⟨by decide +kernel, by decide +kernel⟩, List.mem_of_getElem? (i := 768) (by decide +kernel), List.mem_of_getElem? (i := 942) (by decide +kernel), List.mem_of_getElem? (i := 943) (by decide +kernel)⟩
theorem lw_p28 : lw_okq (⟨"LowerBowsModel", "clears", "()V"⟩, 31) := ⟨⟨by decide +kernel, by decide +kernel⟩, List.mem_of_getElem? (i := 768) (by decide +kernel), List.mem_of_getElem? (i := 946) (by decide +kernel), List.mem_of_getElem? (i := 947) (by decide +kernel)⟩
theorem lw_p29 : lw_okq (⟨"LowerBowsModel", "reads", "()V"⟩, 31) := ⟨⟨by decide +kernel, by decide +kernel⟩, List.mem_of_getElem? (i := 768) (by decide +kernel), List.mem_of_getElem? (i := 956) (by decide +kernel), List.mem_of_getElem? (i := 957) (by decide +kernel)⟩
theorem lw_p30 : lw_okq (⟨"LowerBowsModel", "isPerson", "(I)Z"⟩, 31) := ⟨⟨by decide +kernel, by decide +kernel⟩, List.mem_of_getElem? (i := 768) (by decide +kernel), List.mem_of_getElem? (i := 960) (by decide +kernel), List.mem_of_getElem? (i := 961) (by decide +kernel)⟩
theorem lw_p31 : lw_okq (⟨"LowerBowsModel", "shades", "(II)V"⟩, 31) := ⟨⟨by decide +kernel, by decide +kernel⟩, List.mem_of_getElem? (i := 768) (by decide +kernel), List.mem_of_getElem? (i := 981) (by decide +kernel), List.mem_of_getElem? (i := 982) (by decide +kernel)⟩
def lw_privs_2 : List (MethodName × Nat) := [(⟨"LowerBows$Chances", "weightOf", "(II)J"⟩, 2), (⟨"LowerBows$Chances", "addToGone", "(J)V"⟩, 2), (⟨"LowerBows$Chances", "halvings", "(I)I"⟩, 2), (⟨"LowerBows$Chances", "bitsOfWhole", "()I"⟩, 2), (⟨"LowerBows", "digestOfPerson", "(JI)J"⟩, 14), (⟨"LowerBows", "digestOfHour", "(JI)J"⟩, 14), (⟨"LowerBows", "digestOfPlans", "(J)J"⟩, 14), (⟨"LowerBowsModel", "finds", "(I)I"⟩, 31), (⟨"LowerBowsModel", "lacks", "(III)I"⟩, 31), (⟨"LowerBowsModel", "readsPeople", "()I"⟩, 31), (⟨"LowerBowsModel", "tells", "(III)V"⟩, 31), (⟨"LowerBowsModel", "readsWalks", "()I"⟩, 31), (⟨"LowerBowsModel", "clears", "()V"⟩, 31), (⟨"LowerBowsModel", "reads", "()V"⟩, 31), (⟨"LowerBowsModel", "isPerson", "(I)Z"⟩, 31), (⟨"LowerBowsModel", "shades", "(II)V"⟩, 31)]
theorem lw_r2 : ∀ q ∈ lw_privs_2, lw_okq q := List.forall_mem_cons.mpr ⟨lw_p16, List.forall_mem_cons.mpr ⟨lw_p17, List.forall_mem_cons.mpr ⟨lw_p18, List.forall_mem_cons.mpr ⟨lw_p19, List.forall_mem_cons.mpr ⟨lw_p20, List.forall_mem_cons.mpr ⟨lw_p21, List.forall_mem_cons.mpr ⟨lw_p22, List.forall_mem_cons.mpr ⟨lw_p23, List.forall_mem_cons.mpr ⟨lw_p24, List.forall_mem_cons.mpr ⟨lw_p25, List.forall_mem_cons.mpr ⟨lw_p26, List.forall_mem_cons.mpr ⟨lw_p27, List.forall_mem_cons.mpr ⟨lw_p28, List.forall_mem_cons.mpr ⟨lw_p29, List.forall_mem_cons.mpr ⟨lw_p30, List.forall_mem_cons.mpr ⟨lw_p31, fun _ h => absurd h List.not_mem_nil⟩⟩⟩⟩⟩⟩⟩⟩⟩⟩⟩⟩⟩⟩⟩⟩
theorem lw_p32 : lw_okq (⟨"LowerBowsModel", "streetOf", "(II)I"⟩, 31) := ⟨⟨by decide +kernel, by decide +kernel⟩, List.mem_of_getElem? (i := 768) (by decide +kernel), List.mem_of_getElem? (i := 998) (by decide +kernel), List.mem_of_getElem? (i := 999) (by decide +kernel)⟩
theorem lw_p33 : lw_okq (⟨"LowerBowsModel", "lowOf", "(II)I"⟩, 31) := ⟨⟨by decide +kernel, by decide +kernel⟩, List.mem_of_getElem? (i := 768) (by decide +kernel), List.mem_of_getElem? (i := 1006) (by decide +kernel), List.mem_of_getElem? (i := 1007) (by decide +kernel)⟩
theorem lw_p34 : lw_okq (⟨"LowerBowsModel", "lives", "(I)V"⟩, 31) := ⟨⟨by decide +kernel, by decide +kernel⟩, List.mem_of_getElem? (i := 768) (by decide +kernel), List.mem_of_getElem? (i := 1010) (by decide +kernel), List.mem_of_getElem? (i := 1011) (by decide +kernel)⟩
theorem lw_p35 : lw_okq (⟨"LowerBowsModel", "begins", "()V"⟩, 31) := ⟨⟨by decide +kernel, by decide +kernel⟩, List.mem_of_getElem? (i := 768) (by decide +kernel), List.mem_of_getElem? (i := 1014) (by decide +kernel), List.mem_of_getElem? (i := 1015) (by decide +kernel)⟩
theorem lw_p36 : lw_okq (⟨"LowerBowsModel", "may", "(II)Z"⟩, 31) := ⟨⟨by decide +kernel, by decide +kernel⟩, List.mem_of_getElem? (i := 768) (by decide +kernel), List.mem_of_getElem? (i := 1024) (by decide +kernel), List.mem_of_getElem? (i := 1025) (by decide +kernel)⟩
theorem lw_p37 : lw_okq (⟨"LowerBowsModel", "isClergy", "(I)Z"⟩, 31) := ⟨⟨by decide +kernel, by decide +kernel⟩, List.mem_of_getElem? (i := 768) (by decide +kernel), List.mem_of_getElem? (i := 1028) (by decide +kernel), List.mem_of_getElem? (i := 1029) (by decide +kernel)⟩
theorem lw_p38 : lw_okq (⟨"LowerBowsModel", "isSeenOn", "(II)Z"⟩, 31) := ⟨⟨by decide +kernel, by decide +kernel⟩, List.mem_of_getElem? (i := 768) (by decide +kernel), List.mem_of_getElem? (i := 1035) (by decide +kernel), List.mem_of_getElem? (i := 1036) (by decide +kernel)⟩
theorem lw_p39 : lw_okq (⟨"LowerBowsModel", "meets", "(III)Z"⟩, 31) := ⟨⟨by decide +kernel, by decide +kernel⟩, List.mem_of_getElem? (i := 768) (by decide +kernel), List.mem_of_getElem? (i := 1039) (by decide +kernel), List.mem_of_getElem? (i := 1040) (by decide +kernel)⟩
theorem lw_p40 : lw_okq (⟨"LowerBowsModel", "lessBows", "(II)Z"⟩, 31) := ⟨⟨by decide +kernel, by decide +kernel⟩, List.mem_of_getElem? (i := 768) (by decide +kernel), List.mem_of_getElem? (i := 1043) (by decide +kernel), List.mem_of_getElem? (i := 1044) (by decide +kernel)⟩
theorem lw_p41 : lw_okq (⟨"LowerBowsModel", "howLow", "(III)I"⟩, 31) := ⟨⟨by decide +kernel, by decide +kernel⟩, List.mem_of_getElem? (i := 768) (by decide +kernel), List.mem_of_getElem? (i := 1047) (by decide +kernel), List.mem_of_getElem? (i := 1048) (by decide +kernel)⟩
theorem lw_p42 : lw_okq (⟨"LowerBowsModel", "behindOf", "(II)I"⟩, 31) := ⟨⟨by decide +kernel, by decide +kernel⟩, List.mem_of_getElem? (i := 768) (by decide +kernel), List.mem_of_getElem? (i := 1055) (by decide +kernel), List.mem_of_getElem? (i := 1056) (by decide +kernel)⟩
theorem lw_p43 : lw_okq (⟨"LowerBowsModel", "owesOf", "(III)I"⟩, 31) := ⟨⟨by decide +kernel, by decide +kernel⟩, List.mem_of_getElem? (i := 768) (by decide +kernel), List.mem_of_getElem? (i := 1063) (by decide +kernel), List.mem_of_getElem? (i := 1064) (by decide +kernel)⟩
theorem lw_p44 : lw_okq (⟨"LowerBowsModel", "owesNow", "(II)I"⟩, 31) := ⟨⟨by decide +kernel, by decide +kernel⟩, List.mem_of_getElem? (i := 768) (by decide +kernel), List.mem_of_getElem? (i := 1067) (by decide +kernel), List.mem_of_getElem? (i := 1068) (by decide +kernel)⟩
theorem lw_p45 : lw_okq (⟨"LowerBowsModel", "firstOf", "(I)I"⟩, 31) := ⟨⟨by decide +kernel, by decide +kernel⟩, List.mem_of_getElem? (i := 768) (by decide +kernel), List.mem_of_getElem? (i := 1075) (by decide +kernel), List.mem_of_getElem? (i := 1076) (by decide +kernel)⟩
theorem lw_p46 : lw_okq (⟨"LowerBowsModel", "endsOf", "(III)I"⟩, 31) := ⟨⟨by decide +kernel, by decide +kernel⟩, List.mem_of_getElem? (i := 768) (by decide +kernel), List.mem_of_getElem? (i := 1083) (by decide +kernel), List.mem_of_getElem? (i := 1084) (by decide +kernel)⟩
theorem lw_p47 : lw_okq (⟨"LowerBowsModel", "ringsOf", "(II)I"⟩, 31) := ⟨⟨by decide +kernel, by decide +kernel⟩, List.mem_of_getElem? (i := 768) (by decide +kernel), List.mem_of_getElem? (i := 1091) (by decide +kernel), List.mem_of_getElem? (i := 1092) (by decide +kernel)⟩
def lw_privs_3 : List (MethodName × Nat) := [(⟨"LowerBowsModel", "streetOf", "(II)I"⟩, 31), (⟨"LowerBowsModel", "lowOf", "(II)I"⟩, 31), (⟨"LowerBowsModel", "lives", "(I)V"⟩, 31), (⟨"LowerBowsModel", "begins", "()V"⟩, 31), (⟨"LowerBowsModel", "may", "(II)Z"⟩, 31), (⟨"LowerBowsModel", "isClergy", "(I)Z"⟩, 31), (⟨"LowerBowsModel", "isSeenOn", "(II)Z"⟩, 31), (⟨"LowerBowsModel", "meets", "(III)Z"⟩, 31), (⟨"LowerBowsModel", "lessBows", "(II)Z"⟩, 31), (⟨"LowerBowsModel", "howLow", "(III)I"⟩, 31), (⟨"LowerBowsModel", "behindOf", "(II)I"⟩, 31), (⟨"LowerBowsModel", "owesOf", "(III)I"⟩, 31), (⟨"LowerBowsModel", "owesNow", "(II)I"⟩, 31), (⟨"LowerBowsModel", "firstOf", "(I)I"⟩, 31), (⟨"LowerBowsModel", "endsOf", "(III)I"⟩, 31), (⟨"LowerBowsModel", "ringsOf", "(II)I"⟩, 31)]
theorem lw_r3 : ∀ q ∈ lw_privs_3, lw_okq q := List.forall_mem_cons.mpr ⟨lw_p32, List.forall_mem_cons.mpr ⟨lw_p33, List.forall_mem_cons.mpr ⟨lw_p34, List.forall_mem_cons.mpr ⟨lw_p35, List.forall_mem_cons.mpr ⟨lw_p36, List.forall_mem_cons.mpr ⟨lw_p37, List.forall_mem_cons.mpr ⟨lw_p38, List.forall_mem_cons.mpr ⟨lw_p39, List.forall_mem_cons.mpr ⟨lw_p40, List.forall_mem_cons.mpr ⟨lw_p41, List.forall_mem_cons.mpr ⟨lw_p42, List.forall_mem_cons.mpr ⟨lw_p43, List.forall_mem_cons.mpr ⟨lw_p44, List.forall_mem_cons.mpr ⟨lw_p45, List.forall_mem_cons.mpr ⟨lw_p46, List.forall_mem_cons.mpr ⟨lw_p47, fun _ h => absurd h List.not_mem_nil⟩⟩⟩⟩⟩⟩⟩⟩⟩⟩⟩⟩⟩⟩⟩⟩
theorem lw_p48 : lw_okq (⟨"LowerBowsModel", "isRing", "(III)Z"⟩, 31) := ⟨⟨by decide +kernel, by decide +kernel⟩, List.mem_of_getElem? (i := 768) (by decide +kernel), List.mem_of_getElem? (i := 1095) (by decide +kernel), List.mem_of_getElem? (i := 1096) (by decide +kernel)⟩
theorem lw_p49 : lw_okq (⟨"LowerBowsModel", "shadeOf", "(I)I"⟩, 31) := ⟨⟨by decide +kernel, by decide +kernel⟩, List.mem_of_getElem? (i := 768) (by decide +kernel), List.mem_of_getElem? (i := 1104) (by decide +kernel), List.mem_of_getElem? (i := 1105) (by decide +kernel)⟩
theorem lw_p50 : lw_okq (⟨"LowerBowsModel", "isShaded", "(I)Z"⟩, 31) := ⟨⟨by decide +kernel, by decide +kernel⟩, List.mem_of_getElem? (i := 768) (by decide +kernel), List.mem_of_getElem? (i := 1108) (by decide +kernel), List.mem_of_getElem? (i := 1109) (by decide +kernel)⟩
theorem lw_p51 : lw_okq (⟨"LowerBowsModel", "strollOf", "(III)I"⟩, 31) := ⟨⟨by decide +kernel, by decide +kernel⟩, List.mem_of_getElem? (i := 768) (by decide +kernel), List.mem_of_getElem? (i := 1116) (by decide +kernel), List.mem_of_getElem? (i := 1117) (by decide +kernel)⟩
theorem lw_p52 : lw_okq (⟨"LowerBowsModel", "neverOf", "(I)I"⟩, 31) := ⟨⟨by decide +kernel, by decide +kernel⟩, List.mem_of_getElem? (i := 768) (by decide +kernel), List.mem_of_getElem? (i := 1135) (by decide +kernel), List.mem_of_getElem? (i := 1136) (by decide +kernel)⟩
theorem lw_p53 : lw_okq (⟨"LowerBowsModel", "isSeen", "()Z"⟩, 31) := ⟨⟨by decide +kernel, by decide +kernel⟩, List.mem_of_getElem? (i := 768) (by decide +kernel), List.mem_of_getElem? (i := 1139) (by decide +kernel), List.mem_of_getElem? (i := 1140) (by decide +kernel)⟩
theorem lw_p54 : lw_okq (⟨"LowerBowsModel", "passNow", "()I"⟩, 31) := ⟨⟨by decide +kernel, by decide +kernel⟩, List.mem_of_getElem? (i := 768) (by decide +kernel), List.mem_of_getElem? (i := 1147) (by decide +kernel), List.mem_of_getElem? (i := 1148) (by decide +kernel)⟩
theorem lw_p55 : lw_okq (⟨"LowerBowsModel", "mostAlike", "(II)I"⟩, 31) := ⟨⟨by decide +kernel, by decide +kernel⟩, List.mem_of_getElem? (i := 768) (by decide +kernel), List.mem_of_getElem? (i := 1151) (by decide +kernel), List.mem_of_getElem? (i := 1152) (by decide +kernel)⟩
theorem lw_p56 : lw_okq (⟨"LowerBowsModel", "forgetsOf", "(IIII)J"⟩, 31) := ⟨⟨by decide +kernel, by decide +kernel⟩, List.mem_of_getElem? (i := 768) (by decide +kernel), List.mem_of_getElem? (i := 1160) (by decide +kernel), List.mem_of_getElem? (i := 1161) (by decide +kernel)⟩
theorem lw_p57 : lw_okq (⟨"LowerBowsModel", "seasonOf", "(III)I"⟩, 31) := ⟨⟨by decide +kernel, by decide +kernel⟩, List.mem_of_getElem? (i := 768) (by decide +kernel), List.mem_of_getElem? (i := 1175) (by decide +kernel), List.mem_of_getElem? (i := 1176) (by decide +kernel)⟩
theorem lw_p58 : lw_okq (⟨"LowerBowsModel", "lot", "(I)I"⟩, 31) := ⟨⟨by decide +kernel, by decide +kernel⟩, List.mem_of_getElem? (i := 768) (by decide +kernel), List.mem_of_getElem? (i := 1179) (by decide +kernel), List.mem_of_getElem? (i := 1180) (by decide +kernel)⟩
theorem lw_p59 : lw_okq (⟨"LowerBowsModel", "tellsPerson", "(JI)J"⟩, 31) := ⟨⟨by decide +kernel, by decide +kernel⟩, List.mem_of_getElem? (i := 768) (by decide +kernel), List.mem_of_getElem? (i := 1199) (by decide +kernel), List.mem_of_getElem? (i := 1200) (by decide +kernel)⟩
theorem lw_p60 : lw_okq (⟨"LowerBowsModel", "tellsHour", "(JI)J"⟩, 31) := ⟨⟨by decide +kernel, by decide +kernel⟩, List.mem_of_getElem? (i := 768) (by decide +kernel), List.mem_of_getElem? (i := 1205) (by decide +kernel), List.mem_of_getElem? (i := 1206) (by decide +kernel)⟩
def lw_privs_4 : List (MethodName × Nat) := [(⟨"LowerBowsModel", "isRing", "(III)Z"⟩, 31), (⟨"LowerBowsModel", "shadeOf", "(I)I"⟩, 31), (⟨"LowerBowsModel", "isShaded", "(I)Z"⟩, 31), (⟨"LowerBowsModel", "strollOf", "(III)I"⟩, 31), (⟨"LowerBowsModel", "neverOf", "(I)I"⟩, 31), (⟨"LowerBowsModel", "isSeen", "()Z"⟩, 31), (⟨"LowerBowsModel", "passNow", "()I"⟩, 31), (⟨"LowerBowsModel", "mostAlike", "(II)I"⟩, 31), (⟨"LowerBowsModel", "forgetsOf", "(IIII)J"⟩, 31), (⟨"LowerBowsModel", "seasonOf", "(III)I"⟩, 31), (⟨"LowerBowsModel", "lot", "(I)I"⟩, 31), (⟨"LowerBowsModel", "tellsPerson", "(JI)J"⟩, 31), (⟨"LowerBowsModel", "tellsHour", "(JI)J"⟩, 31)]
theorem lw_r4 : ∀ q ∈ lw_privs_4, lw_okq q := List.forall_mem_cons.mpr ⟨lw_p48, List.forall_mem_cons.mpr ⟨lw_p49, List.forall_mem_cons.mpr ⟨lw_p50, List.forall_mem_cons.mpr ⟨lw_p51, List.forall_mem_cons.mpr ⟨lw_p52, List.forall_mem_cons.mpr ⟨lw_p53, List.forall_mem_cons.mpr ⟨lw_p54, List.forall_mem_cons.mpr ⟨lw_p55, List.forall_mem_cons.mpr ⟨lw_p56, List.forall_mem_cons.mpr ⟨lw_p57, List.forall_mem_cons.mpr ⟨lw_p58, List.forall_mem_cons.mpr ⟨lw_p59, List.forall_mem_cons.mpr ⟨lw_p60, fun _ h => absurd h List.not_mem_nil⟩⟩⟩⟩⟩⟩⟩⟩⟩⟩⟩⟩⟩
def lw_privs : List (MethodName × Nat) := lw_privs_1 ++ (lw_privs_2 ++ (lw_privs_3 ++ (lw_privs_4)))
def lw_tbl : List Cond := k2_sels lw_privs ++ tables_1
theorem lw_privs_ok : ∀ q ∈ lw_privs, lw_okq q := by
  show ∀ q ∈ lw_privs_1 ++ (lw_privs_2 ++ (lw_privs_3 ++ (lw_privs_4))), lw_okq q
  exact List.forall_mem_append.mpr ⟨lw_r1, List.forall_mem_append.mpr ⟨lw_r2, List.forall_mem_append.mpr ⟨lw_r3, lw_r4⟩⟩⟩
-- ===== end of PART A; then your names; then what follows =====
def RX0 : String := "LowerBows$Chances"
def TX0 : u_T := fun k => match k with
  | 0 => ("LowerBows$Chances", "coast", "LLowerBows$Coast;", true)
  | _ => ("LowerBows$Chances", "weights", "[J", true)
def tyX0 : Nat → FieldType := fun k => match k with
  | 0 => .object "LowerBows$Coast"
  | _ => .array .long
abbrev wsX00 : List Cond := u_ws RX0 TX0 2
theorem nmX0 : ∀ a, a < 2 → ∀ b, b < 2 → a ≠ b → (TX0 a).2.1 ≠ (TX0 b).2.1 := by decide +kernel
theorem tyX0_ok : ∀ k, k < 2 → parseFieldDescriptor (TX0 k).2.2.1 = some (tyX0 k) := by decide +kernel
abbrev cX0_init : ByteArray := prog_2_method_1_code
def yX0_init : MethodName := ⟨RX0, "<init>", "(LLowerBows$Coast;)V"⟩
abbrev cX0_weigh : ByteArray := prog_2_method_2_code
def yX0_weigh : MethodName := ⟨RX0, "weigh", "(II)V"⟩
abbrev cX0_above : ByteArray := prog_2_method_3_code
def yX0_above : MethodName := ⟨RX0, "above", "(I)J"⟩
abbrev cX0_below : ByteArray := prog_2_method_4_code
def yX0_below : MethodName := ⟨RX0, "below", "(I)J"⟩
abbrev cX0_weightOf : ByteArray := prog_2_method_5_code
def yX0_weightOf : MethodName := ⟨RX0, "weightOf", "(II)J"⟩
abbrev cX0_addToGone : ByteArray := prog_2_method_6_code
def yX0_addToGone : MethodName := ⟨RX0, "addToGone", "(J)V"⟩
abbrev cX0_bitsOfWhole : ByteArray := prog_2_method_7_code
def yX0_bitsOfWhole : MethodName := ⟨RX0, "bitsOfWhole", "()I"⟩
abbrev cX0_halvings : ByteArray := prog_2_method_8_code
def yX0_halvings : MethodName := ⟨RX0, "halvings", "(I)I"⟩
def RX1 : String := "LowerBows$Clues"
def TX1 : u_T := fun k => match k with
  | 0 => ("LowerBows$Clues", "coast", "LLowerBows$Coast;", true)
  | 1 => ("LowerBows$Clues", "sights", "LLowerBows$Ledger;", true)
  | _ => ("LowerBows$Clues", "lowestWithout", "[I", true)
def tyX1 : Nat → FieldType := fun k => match k with
  | 0 => .object "LowerBows$Coast"
  | 1 => .object "LowerBows$Ledger"
  | _ => .array .int
abbrev wsX10 : List Cond := u_ws RX1 TX1 3
theorem nmX1 : ∀ a, a < 3 → ∀ b, b < 3 → a ≠ b → (TX1 a).2.1 ≠ (TX1 b).2.1 := by decide +kernel
theorem tyX1_ok : ∀ k, k < 3 → parseFieldDescriptor (TX1 k).2.2.1 = some (tyX1 k) := by decide +kernel
abbrev cX1_init : ByteArray := prog_3_method_1_code
def yX1_init : MethodName := ⟨RX1, "<init>", "(LLowerBows$Coast;LLowerBows$Ledger;)V"⟩
abbrev cX1_oldBowsThatNeverWere : ByteArray := prog_3_method_2_code
def yX1_oldBowsThatNeverWere : MethodName := ⟨RX1, "oldBowsThatNeverWere", "()I"⟩
abbrev cX1_umbrellasLeft : ByteArray := prog_3_method_3_code
def yX1_umbrellasLeft : MethodName := ⟨RX1, "umbrellasLeft", "()I"⟩
abbrev cX1_nextToPass : ByteArray := prog_3_method_4_code
def yX1_nextToPass : MethodName := ⟨RX1, "nextToPass", "()I"⟩
abbrev cX1_comesOutAsSeen : ByteArray := prog_3_method_5_code
def yX1_comesOutAsSeen : MethodName := ⟨RX1, "comesOutAsSeen", "()Z"⟩
abbrev cX1_isAsSeenBehind : ByteArray := prog_3_method_6_code
def yX1_isAsSeenBehind : MethodName := ⟨RX1, "isAsSeenBehind", "(I)Z"⟩
abbrev cX1_greatestAlike : ByteArray := prog_3_method_7_code
def yX1_greatestAlike : MethodName := ⟨RX1, "greatestAlike", "(II)I"⟩
abbrev cX1_lowestOf : ByteArray := prog_3_method_8_code
def yX1_lowestOf : MethodName := ⟨RX1, "lowestOf", "(II)I"⟩
def RX2 : String := "LowerBows$Coast"
def TX2 : u_T := fun k => match k with
  | 0 => ("LowerBows$Coast", "people", "LLowerBows$People;", true)
  | 1 => ("LowerBows$Coast", "walks", "LLowerBows$Walks;", true)
  | 2 => ("LowerBows$Coast", "olds", "LLowerBows$Ledger;", true)
  | 3 => ("LowerBows$Coast", "umbrellas", "LLowerBows$Ledger;", true)
  | 4 => ("LowerBows$Coast", "streets", "[I", true)
  | 5 => ("LowerBows$Coast", "hidden", "[I", true)
  | 6 => ("LowerBows$Coast", "dueAtFirst", "[I", true)
  | 7 => ("LowerBows$Coast", "due", "[I", true)
  | 8 => ("LowerBows$Coast", "lowest", "[I", true)
  | 9 => ("LowerBows$Coast", "gone", "I", false)
  | 10 => ("LowerBows$Coast", "bows", "I", false)
  | 11 => ("LowerBows$Coast", "firstHour", "I", false)
  | _ => ("LowerBows$Coast", "firstWho", "I", false)
def tyX2 : Nat → FieldType := fun k => match k with
  | 0 => .object "LowerBows$People"
  | 1 => .object "LowerBows$Walks"
  | 2 => .object "LowerBows$Ledger"
  | 3 => .object "LowerBows$Ledger"
  | 4 => .array .int
  | 5 => .array .int
  | 6 => .array .int
  | 7 => .array .int
  | 8 => .array .int
  | 9 => .int
  | 10 => .int
  | 11 => .int
  | _ => .int
abbrev wsX20 : List Cond := u_ws RX2 TX2 13
theorem nmX2 : ∀ a, a < 13 → ∀ b, b < 13 → a ≠ b → (TX2 a).2.1 ≠ (TX2 b).2.1 := by decide +kernel
theorem tyX2_ok : ∀ k, k < 13 → parseFieldDescriptor (TX2 k).2.2.1 = some (tyX2 k) := by decide +kernel
abbrev cX2_init : ByteArray := prog_4_method_1_code
def yX2_init : MethodName := ⟨RX2, "<init>", "(LLowerBows$People;LLowerBows$Walks;LLowerBows$Ledger;LLowerBows$Ledger;)V"⟩
abbrev cX2_walkAsTold : ByteArray := prog_4_method_2_code
def yX2_walkAsTold : MethodName := ⟨RX2, "walkAsTold", "(I)V"⟩
abbrev cX2_layOut : ByteArray := prog_4_method_3_code
def yX2_layOut : MethodName := ⟨RX2, "layOut", "(II)V"⟩
abbrev cX2_expectFirstBows : ByteArray := prog_4_method_4_code
def yX2_expectFirstBows : MethodName := ⟨RX2, "expectFirstBows", "()V"⟩
abbrev cX2_expectAnswerTo : ByteArray := prog_4_method_5_code
def yX2_expectAnswerTo : MethodName := ⟨RX2, "expectAnswerTo", "(III)V"⟩
abbrev cX2_begin : ByteArray := prog_4_method_6_code
def yX2_begin : MethodName := ⟨RX2, "begin", "()V"⟩
abbrev cX2_walkTo : ByteArray := prog_4_method_7_code
def yX2_walkTo : MethodName := ⟨RX2, "walkTo", "(I)V"⟩
abbrev cX2_walkTillOneIsGone : ByteArray := prog_4_method_8_code
def yX2_walkTillOneIsGone : MethodName := ⟨RX2, "walkTillOneIsGone", "()I"⟩
abbrev cX2_walkThrough : ByteArray := prog_4_method_9_code
def yX2_walkThrough : MethodName := ⟨RX2, "walkThrough", "(I)V"⟩
abbrev cX2_mayMeet : ByteArray := prog_4_method_10_code
def yX2_mayMeet : MethodName := ⟨RX2, "mayMeet", "(II)Z"⟩
abbrev cX2_meet : ByteArray := prog_4_method_11_code
def yX2_meet : MethodName := ⟨RX2, "meet", "(II)V"⟩
abbrev cX2_debt : ByteArray := prog_4_method_12_code
def yX2_debt : MethodName := ⟨RX2, "debt", "(II)I"⟩
abbrev cX2_isRing : ByteArray := prog_4_method_13_code
def yX2_isRing : MethodName := ⟨RX2, "isRing", "(III)Z"⟩
abbrev cX2_isGone : ByteArray := prog_4_method_14_code
def yX2_isGone : MethodName := ⟨RX2, "isGone", "(I)Z"⟩
abbrev cX2_meetByLot : ByteArray := prog_4_method_15_code
def yX2_meetByLot : MethodName := ⟨RX2, "meetByLot", "(II)V"⟩
def RX3 : String := "LowerBows$Ledger"
def TX3 : u_T := fun k => match k with
  | 0 => ("LowerBows$Ledger", "one", "[I", true)
  | 1 => ("LowerBows$Ledger", "two", "[I", true)
  | 2 => ("LowerBows$Ledger", "three", "[I", true)
  | _ => ("LowerBows$Ledger", "size", "I", false)
def tyX3 : Nat → FieldType := fun k => match k with
  | 0 => .array .int
  | 1 => .array .int
  | 2 => .array .int
  | _ => .int
abbrev wsX30 : List Cond := u_ws RX3 TX3 4
theorem nmX3 : ∀ a, a < 4 → ∀ b, b < 4 → a ≠ b → (TX3 a).2.1 ≠ (TX3 b).2.1 := by decide +kernel
theorem tyX3_ok : ∀ k, k < 4 → parseFieldDescriptor (TX3 k).2.2.1 = some (tyX3 k) := by decide +kernel
abbrev cX3_init : ByteArray := prog_5_method_1_code
def yX3_init : MethodName := ⟨RX3, "<init>", "(I)V"⟩
abbrev cX3_enter : ByteArray := prog_5_method_2_code
def yX3_enter : MethodName := ⟨RX3, "enter", "(III)I"⟩
def RX4 : String := "LowerBows$People"
def TX4 : u_T := fun k => match k with
  | 0 => ("LowerBows$People", "kind", "[I", true)
  | 1 => ("LowerBows$People", "can", "[I", true)
  | 2 => ("LowerBows$People", "lower", "[I", true)
  | 3 => ("LowerBows$People", "step", "[I", true)
  | 4 => ("LowerBows$People", "size", "I", false)
  | 5 => ("LowerBows$People", "clergyBits", "I", false)
  | _ => ("LowerBows$People", "faultAt", "I", false)
def tyX4 : Nat → FieldType := fun k => match k with
  | 0 => .array .int
  | 1 => .array .int
  | 2 => .array .int
  | 3 => .array .int
  | 4 => .int
  | 5 => .int
  | _ => .int
abbrev wsX40 : List Cond := u_ws RX4 TX4 7
theorem nmX4 : ∀ a, a < 7 → ∀ b, b < 7 → a ≠ b → (TX4 a).2.1 ≠ (TX4 b).2.1 := by decide +kernel
theorem tyX4_ok : ∀ k, k < 7 → parseFieldDescriptor (TX4 k).2.2.1 = some (tyX4 k) := by decide +kernel
abbrev cX4_init : ByteArray := prog_6_method_1_code
def yX4_init : MethodName := ⟨RX4, "<init>", "()V"⟩
abbrev cX4_take : ByteArray := prog_6_method_2_code
def yX4_take : MethodName := ⟨RX4, "take", "(LLowerBows$Text;)V"⟩
abbrev cX4_faultOf : ByteArray := prog_6_method_3_code
def yX4_faultOf : MethodName := ⟨RX4, "faultOf", "(LLowerBows$Text;)I"⟩
abbrev cX4_goesOn : ByteArray := prog_6_method_4_code
def yX4_goesOn : MethodName := ⟨RX4, "goesOn", "(II)Z"⟩
abbrev cX4_kindOf : ByteArray := prog_6_method_5_code
def yX4_kindOf : MethodName := ⟨RX4, "kindOf", "(I)I"⟩
def RX5 : String := "LowerBows$ShadePlan"
def TX5 : u_T := fun k => match k with
  | 0 => ("LowerBows$ShadePlan", "coast", "LLowerBows$Coast;", true)
  | 1 => ("LowerBows$ShadePlan", "numbers", "[I", true)
  | _ => ("LowerBows$ShadePlan", "size", "I", false)
def tyX5 : Nat → FieldType := fun k => match k with
  | 0 => .object "LowerBows$Coast"
  | 1 => .array .int
  | _ => .int
abbrev wsX50 : List Cond := u_ws RX5 TX5 3
theorem nmX5 : ∀ a, a < 3 → ∀ b, b < 3 → a ≠ b → (TX5 a).2.1 ≠ (TX5 b).2.1 := by decide +kernel
theorem tyX5_ok : ∀ k, k < 3 → parseFieldDescriptor (TX5 k).2.2.1 = some (tyX5 k) := by decide +kernel
abbrev cX5_init : ByteArray := prog_7_method_1_code
def yX5_init : MethodName := ⟨RX5, "<init>", "(LLowerBows$Coast;)V"⟩
abbrev cX5_find : ByteArray := prog_7_method_2_code
def yX5_find : MethodName := ⟨RX5, "find", "()V"⟩
abbrev cX5_findOne : ByteArray := prog_7_method_3_code
def yX5_findOne : MethodName := ⟨RX5, "findOne", "(I)Z"⟩
abbrev cX5_findTwo : ByteArray := prog_7_method_4_code
def yX5_findTwo : MethodName := ⟨RX5, "findTwo", "(I)Z"⟩
abbrev cX5_numberThatHelps : ByteArray := prog_7_method_5_code
def yX5_numberThatHelps : MethodName := ⟨RX5, "numberThatHelps", "(II)I"⟩
abbrev cX5_isWorthHiding : ByteArray := prog_7_method_6_code
def yX5_isWorthHiding : MethodName := ⟨RX5, "isWorthHiding", "(I)Z"⟩
abbrev cX5_toggle : ByteArray := prog_7_method_7_code
def yX5_toggle : MethodName := ⟨RX5, "toggle", "(I)V"⟩
def RX6 : String := "LowerBows$Sheet"
def TX6 : u_T := fun k => match k with
  | 0 => ("LowerBows$Sheet", "items", "[I", true)
  | 1 => ("LowerBows$Sheet", "lost", "Z", false)
  | 2 => ("LowerBows$Sheet", "form", "I", false)
  | _ => ("LowerBows$Sheet", "size", "I", false)
def tyX6 : Nat → FieldType := fun k => match k with
  | 0 => .array .int
  | 1 => .boolean
  | 2 => .int
  | _ => .int
abbrev wsX60 : List Cond := u_ws RX6 TX6 4
theorem nmX6 : ∀ a, a < 4 → ∀ b, b < 4 → a ≠ b → (TX6 a).2.1 ≠ (TX6 b).2.1 := by decide +kernel
theorem tyX6_ok : ∀ k, k < 4 → parseFieldDescriptor (TX6 k).2.2.1 = some (tyX6 k) := by decide +kernel
abbrev cX6_init : ByteArray := prog_8_method_1_code
def yX6_init : MethodName := ⟨RX6, "<init>", "()V"⟩
abbrev cX6_begin : ByteArray := prog_8_method_2_code
def yX6_begin : MethodName := ⟨RX6, "begin", "(II)V"⟩
abbrev cX6_findingAt : ByteArray := prog_8_method_3_code
def yX6_findingAt : MethodName := ⟨RX6, "findingAt", "(II)I"⟩
abbrev cX6_hasItems : ByteArray := prog_8_method_4_code
def yX6_hasItems : MethodName := ⟨RX6, "hasItems", "(II)Z"⟩
abbrev cX6_put : ByteArray := prog_8_method_5_code
def yX6_put : MethodName := ⟨RX6, "put", "(II)V"⟩
def RX7 : String := "LowerBows$StrollPlan"
def TX7 : u_T := fun k => match k with
  | 0 => ("LowerBows$StrollPlan", "coast", "LLowerBows$Coast;", true)
  | 1 => ("LowerBows$StrollPlan", "row", "[I", true)
  | 2 => ("LowerBows$StrollPlan", "best", "[I", true)
  | _ => ("LowerBows$StrollPlan", "gone", "I", false)
def tyX7 : Nat → FieldType := fun k => match k with
  | 0 => .object "LowerBows$Coast"
  | 1 => .array .int
  | 2 => .array .int
  | _ => .int
abbrev wsX70 : List Cond := u_ws RX7 TX7 4
theorem nmX7 : ∀ a, a < 4 → ∀ b, b < 4 → a ≠ b → (TX7 a).2.1 ≠ (TX7 b).2.1 := by decide +kernel
theorem tyX7_ok : ∀ k, k < 4 → parseFieldDescriptor (TX7 k).2.2.1 = some (tyX7 k) := by decide +kernel
abbrev cX7_init : ByteArray := prog_9_method_1_code
def yX7_init : MethodName := ⟨RX7, "<init>", "(LLowerBows$Coast;)V"⟩
abbrev cX7_find : ByteArray := prog_9_method_2_code
def yX7_find : MethodName := ⟨RX7, "find", "(II)V"⟩
abbrev cX7_streetIn : ByteArray := prog_9_method_3_code
def yX7_streetIn : MethodName := ⟨RX7, "streetIn", "(I)I"⟩
abbrev cX7_costFor : ByteArray := prog_9_method_4_code
def yX7_costFor : MethodName := ⟨RX7, "costFor", "(I)I"⟩
def RX8 : String := "LowerBows$Text"
def TX8 : u_T := fun k => match k with
  | 0 => ("LowerBows$Text", "bytes", "[I", true)
  | _ => ("LowerBows$Text", "size", "I", false)
def tyX8 : Nat → FieldType := fun k => match k with
  | 0 => .array .int
  | _ => .int
abbrev wsX80 : List Cond := u_ws RX8 TX8 2
theorem nmX8 : ∀ a, a < 2 → ∀ b, b < 2 → a ≠ b → (TX8 a).2.1 ≠ (TX8 b).2.1 := by decide +kernel
theorem tyX8_ok : ∀ k, k < 2 → parseFieldDescriptor (TX8 k).2.2.1 = some (tyX8 k) := by decide +kernel
abbrev cX8_init : ByteArray := prog_10_method_1_code
def yX8_init : MethodName := ⟨RX8, "<init>", "(I)V"⟩
abbrev cX8_append : ByteArray := prog_10_method_2_code
def yX8_append : MethodName := ⟨RX8, "append", "(I)V"⟩
def RX9 : String := "LowerBows$Walks"
def TX9 : u_T := fun k => match k with
  | 0 => ("LowerBows$Walks", "streets", "[I", true)
  | 1 => ("LowerBows$Walks", "size", "I", false)
  | _ => ("LowerBows$Walks", "faultAt", "I", false)
def tyX9 : Nat → FieldType := fun k => match k with
  | 0 => .array .int
  | 1 => .int
  | _ => .int
abbrev wsX90 : List Cond := u_ws RX9 TX9 3
theorem nmX9 : ∀ a, a < 3 → ∀ b, b < 3 → a ≠ b → (TX9 a).2.1 ≠ (TX9 b).2.1 := by decide +kernel
theorem tyX9_ok : ∀ k, k < 3 → parseFieldDescriptor (TX9 k).2.2.1 = some (tyX9 k) := by decide +kernel
abbrev cX9_init : ByteArray := prog_11_method_1_code
def yX9_init : MethodName := ⟨RX9, "<init>", "()V"⟩
abbrev cX9_take : ByteArray := prog_11_method_2_code
def yX9_take : MethodName := ⟨RX9, "take", "(LLowerBows$Text;)V"⟩
def RX10 : String := "LowerBows"
def TX10 : u_T := fun k => match k with
  | 0 => ("LowerBows", "peopleText", "LLowerBows$Text;", true)
  | 1 => ("LowerBows", "walksText", "LLowerBows$Text;", true)
  | 2 => ("LowerBows", "people", "LLowerBows$People;", true)
  | 3 => ("LowerBows", "walks", "LLowerBows$Walks;", true)
  | 4 => ("LowerBows", "olds", "LLowerBows$Ledger;", true)
  | 5 => ("LowerBows", "umbrellas", "LLowerBows$Ledger;", true)
  | 6 => ("LowerBows", "sights", "LLowerBows$Ledger;", true)
  | 7 => ("LowerBows", "coast", "LLowerBows$Coast;", true)
  | 8 => ("LowerBows", "shadePlan", "LLowerBows$ShadePlan;", true)
  | 9 => ("LowerBows", "strollPlan", "LLowerBows$StrollPlan;", true)
  | 10 => ("LowerBows", "clues", "LLowerBows$Clues;", true)
  | 11 => ("LowerBows", "chances", "LLowerBows$Chances;", true)
  | 12 => ("LowerBows", "sheets", "[LLowerBows$Sheet;", true)
  | _ => ("LowerBows", "latestFinding", "I", false)
def tyX10 : Nat → FieldType := fun k => match k with
  | 0 => .object "LowerBows$Text"
  | 1 => .object "LowerBows$Text"
  | 2 => .object "LowerBows$People"
  | 3 => .object "LowerBows$Walks"
  | 4 => .object "LowerBows$Ledger"
  | 5 => .object "LowerBows$Ledger"
  | 6 => .object "LowerBows$Ledger"
  | 7 => .object "LowerBows$Coast"
  | 8 => .object "LowerBows$ShadePlan"
  | 9 => .object "LowerBows$StrollPlan"
  | 10 => .object "LowerBows$Clues"
  | 11 => .object "LowerBows$Chances"
  | 12 => .array (.object "LowerBows$Sheet")
  | _ => .int
abbrev wsX100 : List Cond := u_ws RX10 TX10 14
theorem nmX10 : ∀ a, a < 14 → ∀ b, b < 14 → a ≠ b → (TX10 a).2.1 ≠ (TX10 b).2.1 := by decide +kernel
theorem tyX10_ok : ∀ k, k < 14 → parseFieldDescriptor (TX10 k).2.2.1 = some (tyX10 k) := by decide +kernel
abbrev cX10_init : ByteArray := prog_1_method_1_code
def yX10_init : MethodName := ⟨RX10, "<init>", "()V"⟩
abbrev cX10_type : ByteArray := prog_1_method_2_code
def yX10_type : MethodName := ⟨RX10, "type", "(II)I"⟩
abbrev cX10_wipe : ByteArray := prog_1_method_3_code
def yX10_wipe : MethodName := ⟨RX10, "wipe", "(I)I"⟩
abbrev cX10_undo : ByteArray := prog_1_method_4_code
def yX10_undo : MethodName := ⟨RX10, "undo", "(I)I"⟩
abbrev cX10_fault : ByteArray := prog_1_method_5_code
def yX10_fault : MethodName := ⟨RX10, "fault", "(I)I"⟩
abbrev cX10_person : ByteArray := prog_1_method_6_code
def yX10_person : MethodName := ⟨RX10, "person", "(II)I"⟩
abbrev cX10_street : ByteArray := prog_1_method_7_code
def yX10_street : MethodName := ⟨RX10, "street", "(II)I"⟩
abbrev cX10_old : ByteArray := prog_1_method_8_code
def yX10_old : MethodName := ⟨RX10, "old", "(III)I"⟩
abbrev cX10_umbrella : ByteArray := prog_1_method_9_code
def yX10_umbrella : MethodName := ⟨RX10, "umbrella", "(II)I"⟩
abbrev cX10_back : ByteArray := prog_1_method_10_code
def yX10_back : MethodName := ⟨RX10, "back", "(I)I"⟩
abbrev cX10_read : ByteArray := prog_1_method_11_code
def yX10_read : MethodName := ⟨RX10, "read", "(I)I"⟩
abbrev cX10_low : ByteArray := prog_1_method_12_code
def yX10_low : MethodName := ⟨RX10, "low", "(II)I"⟩
abbrev cX10_behind : ByteArray := prog_1_method_13_code
def yX10_behind : MethodName := ⟨RX10, "behind", "(II)I"⟩
abbrev cX10_owes : ByteArray := prog_1_method_14_code
def yX10_owes : MethodName := ⟨RX10, "owes", "(III)I"⟩
abbrev cX10_first : ByteArray := prog_1_method_15_code
def yX10_first : MethodName := ⟨RX10, "first", "(I)I"⟩
abbrev cX10_ends : ByteArray := prog_1_method_16_code
def yX10_ends : MethodName := ⟨RX10, "ends", "(III)I"⟩
abbrev cX10_rings : ByteArray := prog_1_method_17_code
def yX10_rings : MethodName := ⟨RX10, "rings", "(II)I"⟩
abbrev cX10_shade : ByteArray := prog_1_method_18_code
def yX10_shade : MethodName := ⟨RX10, "shade", "(I)I"⟩
abbrev cX10_stroll : ByteArray := prog_1_method_19_code
def yX10_stroll : MethodName := ⟨RX10, "stroll", "(III)I"⟩
abbrev cX10_seen : ByteArray := prog_1_method_20_code
def yX10_seen : MethodName := ⟨RX10, "seen", "(III)I"⟩
abbrev cX10_forget : ByteArray := prog_1_method_21_code
def yX10_forget : MethodName := ⟨RX10, "forget", "()I"⟩
abbrev cX10_never : ByteArray := prog_1_method_22_code
def yX10_never : MethodName := ⟨RX10, "never", "(I)I"⟩
abbrev cX10_pass : ByteArray := prog_1_method_23_code
def yX10_pass : MethodName := ⟨RX10, "pass", "()I"⟩
abbrev cX10_forgets : ByteArray := prog_1_method_24_code
def yX10_forgets : MethodName := ⟨RX10, "forgets", "(IIII)J"⟩
abbrev cX10_season : ByteArray := prog_1_method_25_code
def yX10_season : MethodName := ⟨RX10, "season", "(III)I"⟩
abbrev cX10_sheet : ByteArray := prog_1_method_26_code
def yX10_sheet : MethodName := ⟨RX10, "sheet", "(III)I"⟩
abbrev cX10_lose : ByteArray := prog_1_method_27_code
def yX10_lose : MethodName := ⟨RX10, "lose", "(I)I"⟩
abbrev cX10_lay : ByteArray := prog_1_method_28_code
def yX10_lay : MethodName := ⟨RX10, "lay", "(IIII)I"⟩
abbrev cX10_get : ByteArray := prog_1_method_29_code
def yX10_get : MethodName := ⟨RX10, "get", "(III)I"⟩
abbrev cX10_copy : ByteArray := prog_1_method_30_code
def yX10_copy : MethodName := ⟨RX10, "copy", "(IIIII)I"⟩
abbrev cX10_write : ByteArray := prog_1_method_31_code
def yX10_write : MethodName := ⟨RX10, "write", "(II)I"⟩
abbrev cX10_count : ByteArray := prog_1_method_32_code
def yX10_count : MethodName := ⟨RX10, "count", "(I)I"⟩
abbrev cX10_digest : ByteArray := prog_1_method_33_code
def yX10_digest : MethodName := ⟨RX10, "digest", "()J"⟩
abbrev cX10_digestOfPerson : ByteArray := prog_1_method_34_code
def yX10_digestOfPerson : MethodName := ⟨RX10, "digestOfPerson", "(JI)J"⟩
abbrev cX10_digestOfHour : ByteArray := prog_1_method_35_code
def yX10_digestOfHour : MethodName := ⟨RX10, "digestOfHour", "(JI)J"⟩
abbrev cX10_digestOfPlans : ByteArray := prog_1_method_36_code
def yX10_digestOfPlans : MethodName := ⟨RX10, "digestOfPlans", "(J)J"⟩
abbrev cX10_within : ByteArray := prog_1_method_37_code
def yX10_within : MethodName := ⟨RX10, "within", "(III)Z"⟩
abbrev cX10_isText : ByteArray := prog_1_method_38_code
def yX10_isText : MethodName := ⟨RX10, "isText", "(I)Z"⟩
abbrev cX10_isHour : ByteArray := prog_1_method_39_code
def yX10_isHour : MethodName := ⟨RX10, "isHour", "(I)Z"⟩
abbrev cX10_isSheet : ByteArray := prog_1_method_40_code
def yX10_isSheet : MethodName := ⟨RX10, "isSheet", "(I)Z"⟩
abbrev cX10_isForm : ByteArray := prog_1_method_41_code
def yX10_isForm : MethodName := ⟨RX10, "isForm", "(I)Z"⟩
abbrev cX10_mayBeOld : ByteArray := prog_1_method_42_code
def yX10_mayBeOld : MethodName := ⟨RX10, "mayBeOld", "(III)Z"⟩
abbrev cX10_isPerson : ByteArray := prog_1_method_43_code
def yX10_isPerson : MethodName := ⟨RX10, "isPerson", "(I)Z"⟩
abbrev cX10_textOf : ByteArray := prog_1_method_44_code
def yX10_textOf : MethodName := ⟨RX10, "textOf", "(I)LLowerBows$Text;"⟩
abbrev cX10_readAgain : ByteArray := prog_1_method_45_code
def yX10_readAgain : MethodName := ⟨RX10, "readAgain", "(I)V"⟩
abbrev cX10_found : ByteArray := prog_1_method_46_code
def yX10_found : MethodName := ⟨RX10, "found", "(I)I"⟩
def RX11 : String := "LowerBowsModel"
def TX11 : u_T := fun k => match k with
  | 0 => ("LowerBowsModel", "forms", "[I", true)
  | 1 => ("LowerBowsModel", "sizes", "[I", true)
  | 2 => ("LowerBowsModel", "items", "[I", true)
  | 3 => ("LowerBowsModel", "moved", "[I", true)
  | 4 => ("LowerBowsModel", "latest", "I", false)
  | 5 => ("LowerBowsModel", "bytes", "[I", true)
  | 6 => ("LowerBowsModel", "typed", "[I", true)
  | 7 => ("LowerBowsModel", "people", "I", false)
  | 8 => ("LowerBowsModel", "person", "[I", true)
  | 9 => ("LowerBowsModel", "walks", "I", false)
  | 10 => ("LowerBowsModel", "walk", "[I", true)
  | 11 => ("LowerBowsModel", "olds", "I", false)
  | 12 => ("LowerBowsModel", "old", "[I", true)
  | 13 => ("LowerBowsModel", "umbrellas", "I", false)
  | 14 => ("LowerBowsModel", "umbrella", "[I", true)
  | 15 => ("LowerBowsModel", "last", "[I", true)
  | 16 => ("LowerBowsModel", "lessBowed", "[I", true)
  | 17 => ("LowerBowsModel", "most", "[I", true)
  | 18 => ("LowerBowsModel", "gone", "I", false)
  | 19 => ("LowerBowsModel", "bows", "I", false)
  | 20 => ("LowerBowsModel", "firstHour", "I", false)
  | 21 => ("LowerBowsModel", "firstWho", "I", false)
  | 22 => ("LowerBowsModel", "noOld", "I", false)
  | 23 => ("LowerBowsModel", "forgotten", "I", false)
  | 24 => ("LowerBowsModel", "strolls", "I", false)
  | 25 => ("LowerBowsModel", "stroll", "[I", true)
  | 26 => ("LowerBowsModel", "row", "[I", true)
  | 27 => ("LowerBowsModel", "sights", "I", false)
  | 28 => ("LowerBowsModel", "sight", "[I", true)
  | 29 => ("LowerBowsModel", "lows", "[I", true)
  | _ => ("LowerBowsModel", "drawn", "I", false)
def tyX11 : Nat → FieldType := fun k => match k with
  | 0 => .array .int
  | 1 => .array .int
  | 2 => .array .int
  | 3 => .array .int
  | 4 => .int
  | 5 => .array .int
  | 6 => .array .int
  | 7 => .int
  | 8 => .array .int
  | 9 => .int
  | 10 => .array .int
  | 11 => .int
  | 12 => .array .int
  | 13 => .int
  | 14 => .array .int
  | 15 => .array .int
  | 16 => .array .int
  | 17 => .array .int
  | 18 => .int
  | 19 => .int
  | 20 => .int
  | 21 => .int
  | 22 => .int
  | 23 => .int
  | 24 => .int
  | 25 => .array .int
  | 26 => .array .int
  | 27 => .int
  | 28 => .array .int
  | 29 => .array .int
  | _ => .int
abbrev wsX110 : List Cond := u_ws RX11 TX11 31
theorem nmX11 : ∀ a, a < 31 → ∀ b, b < 31 → a ≠ b → (TX11 a).2.1 ≠ (TX11 b).2.1 := by decide +kernel
theorem tyX11_ok : ∀ k, k < 31 → parseFieldDescriptor (TX11 k).2.2.1 = some (tyX11 k) := by decide +kernel
abbrev cX11_init : ByteArray := prog_13_method_1_code
def yX11_init : MethodName := ⟨RX11, "<init>", "()V"⟩
abbrev cX11_in : ByteArray := prog_13_method_3_code
def yX11_in : MethodName := ⟨RX11, "in", "(JJJ)Z"⟩
abbrev cX11_no : ByteArray := prog_13_method_4_code
def yX11_no : MethodName := ⟨RX11, "no", "(I)J"⟩
abbrev cX11_isTwo : ByteArray := prog_13_method_5_code
def yX11_isTwo : MethodName := ⟨RX11, "isTwo", "(I)Z"⟩
abbrev cX11_isIn : ByteArray := prog_13_method_6_code
def yX11_isIn : MethodName := ⟨RX11, "isIn", "(II)Z"⟩
abbrev cX11_ones : ByteArray := prog_13_method_7_code
def yX11_ones : MethodName := ⟨RX11, "ones", "(I)I"⟩
abbrev cX11_lesser : ByteArray := prog_13_method_8_code
def yX11_lesser : MethodName := ⟨RX11, "lesser", "(II)I"⟩
abbrev cX11_greater : ByteArray := prog_13_method_9_code
def yX11_greater : MethodName := ⟨RX11, "greater", "(II)I"⟩
abbrev cX11_part : ByteArray := prog_13_method_10_code
def yX11_part : MethodName := ⟨RX11, "part", "(JJI)J"⟩
abbrev cX11_finds : ByteArray := prog_13_method_11_code
def yX11_finds : MethodName := ⟨RX11, "finds", "(I)I"⟩
abbrev cX11_isSheet : ByteArray := prog_13_method_12_code
def yX11_isSheet : MethodName := ⟨RX11, "isSheet", "(I)Z"⟩
abbrev cX11_sheet : ByteArray := prog_13_method_13_code
def yX11_sheet : MethodName := ⟨RX11, "sheet", "(III)I"⟩
abbrev cX11_lose : ByteArray := prog_13_method_14_code
def yX11_lose : MethodName := ⟨RX11, "lose", "(I)I"⟩
abbrev cX11_lacks : ByteArray := prog_13_method_15_code
def yX11_lacks : MethodName := ⟨RX11, "lacks", "(III)I"⟩
abbrev cX11_cut : ByteArray := prog_13_method_16_code
def yX11_cut : MethodName := ⟨RX11, "cut", "(II)I"⟩
abbrev cX11_lay : ByteArray := prog_13_method_17_code
def yX11_lay : MethodName := ⟨RX11, "lay", "(IIII)I"⟩
abbrev cX11_get : ByteArray := prog_13_method_18_code
def yX11_get : MethodName := ⟨RX11, "get", "(III)I"⟩
abbrev cX11_copy : ByteArray := prog_13_method_19_code
def yX11_copy : MethodName := ⟨RX11, "copy", "(IIIII)I"⟩
abbrev cX11_type : ByteArray := prog_13_method_20_code
def yX11_type : MethodName := ⟨RX11, "type", "(II)I"⟩
abbrev cX11_wipe : ByteArray := prog_13_method_21_code
def yX11_wipe : MethodName := ⟨RX11, "wipe", "(I)I"⟩
abbrev cX11_undo : ByteArray := prog_13_method_22_code
def yX11_undo : MethodName := ⟨RX11, "undo", "(I)I"⟩
abbrev cX11_tellsOf : ByteArray := prog_13_method_23_code
def yX11_tellsOf : MethodName := ⟨RX11, "tellsOf", "(II)I"⟩
abbrev cX11_tells : ByteArray := prog_13_method_24_code
def yX11_tells : MethodName := ⟨RX11, "tells", "(III)V"⟩
abbrev cX11_readsPeople : ByteArray := prog_13_method_25_code
def yX11_readsPeople : MethodName := ⟨RX11, "readsPeople", "()I"⟩
abbrev cX11_clears : ByteArray := prog_13_method_26_code
def yX11_clears : MethodName := ⟨RX11, "clears", "()V"⟩
abbrev cX11_readsWalks : ByteArray := prog_13_method_27_code
def yX11_readsWalks : MethodName := ⟨RX11, "readsWalks", "()I"⟩
abbrev cX11_fault : ByteArray := prog_13_method_28_code
def yX11_fault : MethodName := ⟨RX11, "fault", "(I)I"⟩
abbrev cX11_reads : ByteArray := prog_13_method_29_code
def yX11_reads : MethodName := ⟨RX11, "reads", "()V"⟩
abbrev cX11_isPerson : ByteArray := prog_13_method_30_code
def yX11_isPerson : MethodName := ⟨RX11, "isPerson", "(I)Z"⟩
abbrev cX11_isAnyone : ByteArray := prog_13_method_31_code
def yX11_isAnyone : MethodName := ⟨RX11, "isAnyone", "(I)Z"⟩
abbrev cX11_isHour : ByteArray := prog_13_method_32_code
def yX11_isHour : MethodName := ⟨RX11, "isHour", "(I)Z"⟩
abbrev cX11_person : ByteArray := prog_13_method_33_code
def yX11_person : MethodName := ⟨RX11, "person", "(II)I"⟩
abbrev cX11_old : ByteArray := prog_13_method_34_code
def yX11_old : MethodName := ⟨RX11, "old", "(III)I"⟩
abbrev cX11_shades : ByteArray := prog_13_method_35_code
def yX11_shades : MethodName := ⟨RX11, "shades", "(II)V"⟩
abbrev cX11_umbrella : ByteArray := prog_13_method_36_code
def yX11_umbrella : MethodName := ⟨RX11, "umbrella", "(II)I"⟩
abbrev cX11_back : ByteArray := prog_13_method_37_code
def yX11_back : MethodName := ⟨RX11, "back", "(I)I"⟩
abbrev cX11_read : ByteArray := prog_13_method_38_code
def yX11_read : MethodName := ⟨RX11, "read", "(I)I"⟩
abbrev cX11_streetOf : ByteArray := prog_13_method_39_code
def yX11_streetOf : MethodName := ⟨RX11, "streetOf", "(II)I"⟩
abbrev cX11_street : ByteArray := prog_13_method_40_code
def yX11_street : MethodName := ⟨RX11, "street", "(II)I"⟩
abbrev cX11_isSeenOn : ByteArray := prog_13_method_41_code
def yX11_isSeenOn : MethodName := ⟨RX11, "isSeenOn", "(II)Z"⟩
abbrev cX11_begins : ByteArray := prog_13_method_42_code
def yX11_begins : MethodName := ⟨RX11, "begins", "()V"⟩
abbrev cX11_lessBows : ByteArray := prog_13_method_43_code
def yX11_lessBows : MethodName := ⟨RX11, "lessBows", "(II)Z"⟩
abbrev cX11_howLow : ByteArray := prog_13_method_44_code
def yX11_howLow : MethodName := ⟨RX11, "howLow", "(III)I"⟩
abbrev cX11_isClergy : ByteArray := prog_13_method_45_code
def yX11_isClergy : MethodName := ⟨RX11, "isClergy", "(I)Z"⟩
abbrev cX11_may : ByteArray := prog_13_method_46_code
def yX11_may : MethodName := ⟨RX11, "may", "(II)Z"⟩
abbrev cX11_meets : ByteArray := prog_13_method_47_code
def yX11_meets : MethodName := ⟨RX11, "meets", "(III)Z"⟩
abbrev cX11_lives : ByteArray := prog_13_method_48_code
def yX11_lives : MethodName := ⟨RX11, "lives", "(I)V"⟩
abbrev cX11_lowOf : ByteArray := prog_13_method_49_code
def yX11_lowOf : MethodName := ⟨RX11, "lowOf", "(II)I"⟩
abbrev cX11_low : ByteArray := prog_13_method_50_code
def yX11_low : MethodName := ⟨RX11, "low", "(II)I"⟩
abbrev cX11_behindOf : ByteArray := prog_13_method_51_code
def yX11_behindOf : MethodName := ⟨RX11, "behindOf", "(II)I"⟩
abbrev cX11_behind : ByteArray := prog_13_method_52_code
def yX11_behind : MethodName := ⟨RX11, "behind", "(II)I"⟩
abbrev cX11_owesNow : ByteArray := prog_13_method_53_code
def yX11_owesNow : MethodName := ⟨RX11, "owesNow", "(II)I"⟩
abbrev cX11_owesOf : ByteArray := prog_13_method_54_code
def yX11_owesOf : MethodName := ⟨RX11, "owesOf", "(III)I"⟩
abbrev cX11_owes : ByteArray := prog_13_method_55_code
def yX11_owes : MethodName := ⟨RX11, "owes", "(III)I"⟩
abbrev cX11_firstOf : ByteArray := prog_13_method_56_code
def yX11_firstOf : MethodName := ⟨RX11, "firstOf", "(I)I"⟩
abbrev cX11_first : ByteArray := prog_13_method_57_code
def yX11_first : MethodName := ⟨RX11, "first", "(I)I"⟩
abbrev cX11_endsOf : ByteArray := prog_13_method_58_code
def yX11_endsOf : MethodName := ⟨RX11, "endsOf", "(III)I"⟩
abbrev cX11_ends : ByteArray := prog_13_method_59_code
def yX11_ends : MethodName := ⟨RX11, "ends", "(III)I"⟩
abbrev cX11_isRing : ByteArray := prog_13_method_60_code
def yX11_isRing : MethodName := ⟨RX11, "isRing", "(III)Z"⟩
abbrev cX11_ringsOf : ByteArray := prog_13_method_61_code
def yX11_ringsOf : MethodName := ⟨RX11, "ringsOf", "(II)I"⟩
abbrev cX11_rings : ByteArray := prog_13_method_62_code
def yX11_rings : MethodName := ⟨RX11, "rings", "(II)I"⟩
abbrev cX11_isShaded : ByteArray := prog_13_method_63_code
def yX11_isShaded : MethodName := ⟨RX11, "isShaded", "(I)Z"⟩
abbrev cX11_shadeOf : ByteArray := prog_13_method_64_code
def yX11_shadeOf : MethodName := ⟨RX11, "shadeOf", "(I)I"⟩
abbrev cX11_shade : ByteArray := prog_13_method_65_code
def yX11_shade : MethodName := ⟨RX11, "shade", "(I)I"⟩
abbrev cX11_strollOf : ByteArray := prog_13_method_66_code
def yX11_strollOf : MethodName := ⟨RX11, "strollOf", "(III)I"⟩
abbrev cX11_stroll : ByteArray := prog_13_method_67_code
def yX11_stroll : MethodName := ⟨RX11, "stroll", "(III)I"⟩
abbrev cX11_seen : ByteArray := prog_13_method_68_code
def yX11_seen : MethodName := ⟨RX11, "seen", "(III)I"⟩
abbrev cX11_forget : ByteArray := prog_13_method_69_code
def yX11_forget : MethodName := ⟨RX11, "forget", "()I"⟩
abbrev cX11_isSeen : ByteArray := prog_13_method_70_code
def yX11_isSeen : MethodName := ⟨RX11, "isSeen", "()Z"⟩
abbrev cX11_neverOf : ByteArray := prog_13_method_71_code
def yX11_neverOf : MethodName := ⟨RX11, "neverOf", "(I)I"⟩
abbrev cX11_never : ByteArray := prog_13_method_72_code
def yX11_never : MethodName := ⟨RX11, "never", "(I)I"⟩
abbrev cX11_passNow : ByteArray := prog_13_method_73_code
def yX11_passNow : MethodName := ⟨RX11, "passNow", "()I"⟩
abbrev cX11_mostAlike : ByteArray := prog_13_method_74_code
def yX11_mostAlike : MethodName := ⟨RX11, "mostAlike", "(II)I"⟩
abbrev cX11_pass : ByteArray := prog_13_method_75_code
def yX11_pass : MethodName := ⟨RX11, "pass", "()I"⟩
abbrev cX11_forgetsOf : ByteArray := prog_13_method_76_code
def yX11_forgetsOf : MethodName := ⟨RX11, "forgetsOf", "(IIII)J"⟩
abbrev cX11_forgets : ByteArray := prog_13_method_77_code
def yX11_forgets : MethodName := ⟨RX11, "forgets", "(IIII)J"⟩
abbrev cX11_lot : ByteArray := prog_13_method_78_code
def yX11_lot : MethodName := ⟨RX11, "lot", "(I)I"⟩
abbrev cX11_seasonOf : ByteArray := prog_13_method_79_code
def yX11_seasonOf : MethodName := ⟨RX11, "seasonOf", "(III)I"⟩
abbrev cX11_season : ByteArray := prog_13_method_80_code
def yX11_season : MethodName := ⟨RX11, "season", "(III)I"⟩
abbrev cX11_write : ByteArray := prog_13_method_81_code
def yX11_write : MethodName := ⟨RX11, "write", "(II)I"⟩
abbrev cX11_count : ByteArray := prog_13_method_82_code
def yX11_count : MethodName := ⟨RX11, "count", "(I)I"⟩
abbrev cX11_tellsPerson : ByteArray := prog_13_method_83_code
def yX11_tellsPerson : MethodName := ⟨RX11, "tellsPerson", "(JI)J"⟩
abbrev cX11_tellsHour : ByteArray := prog_13_method_84_code
def yX11_tellsHour : MethodName := ⟨RX11, "tellsHour", "(JI)J"⟩
abbrev cX11_digest : ByteArray := prog_13_method_85_code
def yX11_digest : MethodName := ⟨RX11, "digest", "()J"⟩
def RJ6 : String := "java/lang/Integer"
def TJ6 : u_T := fun k => match k with
  | _ => ("", "", "", false)
def tyJ6 : Nat → FieldType := fun k => match k with
  | _ => .int
abbrev wsJ60 : List Cond := u_ws RJ6 TJ6 0
theorem nmJ6 : ∀ a, a < 0 → ∀ b, b < 0 → a ≠ b → (TJ6 a).2.1 ≠ (TJ6 b).2.1 := by decide +kernel
theorem tyJ6_ok : ∀ k, k < 0 → parseFieldDescriptor (TJ6 k).2.2.1 = some (tyJ6 k) := by decide +kernel
abbrev cJ6_bitCount_0f7a4 : ByteArray := prog_14_method_49_code
def yJ6_bitCount_0f7a4 : MethodName := ⟨RJ6, "bitCount", "(I)I"⟩
def RJ9 : String := "java/lang/Math"
def TJ9 : u_T := fun k => match k with
  | _ => ("", "", "", false)
def tyJ9 : Nat → FieldType := fun k => match k with
  | _ => .int
abbrev wsJ90 : List Cond := u_ws RJ9 TJ9 0
theorem nmJ9 : ∀ a, a < 0 → ∀ b, b < 0 → a ≠ b → (TJ9 a).2.1 ≠ (TJ9 b).2.1 := by decide +kernel
theorem tyJ9_ok : ∀ k, k < 0 → parseFieldDescriptor (TJ9 k).2.2.1 = some (tyJ9 k) := by decide +kernel
abbrev cJ9_abs_0f7a4 : ByteArray := prog_15_method_59_code
def yJ9_abs_0f7a4 : MethodName := ⟨RJ9, "abs", "(I)I"⟩
abbrev cJ9_max_7cf53 : ByteArray := prog_15_method_65_code
def yJ9_max_7cf53 : MethodName := ⟨RJ9, "max", "(II)I"⟩
abbrev cJ9_min_7cf53 : ByteArray := prog_15_method_69_code
def yJ9_min_7cf53 : MethodName := ⟨RJ9, "min", "(II)I"⟩
def RJ10 : String := "java/lang/System"
def TJ10 : u_T := fun k => match k with
  | _ => ("", "", "", false)
def tyJ10 : Nat → FieldType := fun k => match k with
  | _ => .int
abbrev wsJ100 : List Cond := u_ws RJ10 TJ10 0
theorem nmJ10 : ∀ a, a < 0 → ∀ b, b < 0 → a ≠ b → (TJ10 a).2.1 ≠ (TJ10 b).2.1 := by decide +kernel
theorem tyJ10_ok : ∀ k, k < 0 → parseFieldDescriptor (TJ10 k).2.2.1 = some (tyJ10 k) := by decide +kernel
def RJ7 : String := "java/util/Arrays"
def TJ7 : u_T := fun k => match k with
  | _ => ("", "", "", false)
def tyJ7 : Nat → FieldType := fun k => match k with
  | _ => .int
abbrev wsJ70 : List Cond := u_ws RJ7 TJ7 0
theorem nmJ7 : ∀ a, a < 0 → ∀ b, b < 0 → a ≠ b → (TJ7 a).2.1 ≠ (TJ7 b).2.1 := by decide +kernel
theorem tyJ7_ok : ∀ k, k < 0 → parseFieldDescriptor (TJ7 k).2.2.1 = some (tyJ7 k) := by decide +kernel
abbrev cJ7_fill_d0a16 : ByteArray := prog_17_method_101_code
def yJ7_fill_d0a16 : MethodName := ⟨RJ7, "fill", "([JJ)V"⟩
abbrev cJ7_fill_53178 : ByteArray := prog_17_method_103_code
def yJ7_fill_53178 : MethodName := ⟨RJ7, "fill", "([II)V"⟩
def RL : String := "LowerBowsLaw"
abbrev cL_law : ByteArray := code
def yL_law : MethodName := ⟨RL, "law", "([I)Z"⟩
abbrev vwCl : List vw_C := [(RX0, TX0, 2), (RX1, TX1, 3), (RX2, TX2, 13), (RX3, TX3, 4), (RX4, TX4, 7), (RX5, TX5, 3), (RX6, TX6, 4), (RX7, TX7, 4), (RX8, TX8, 2), (RX9, TX9, 3), (RX10, TX10, 14), (RX11, TX11, 31)]
end
section
/-! ===== the abstract machine: ints as Int, cells by number, one world of 66 cells (the class's 0..47, the reference's 48..65) ===== -/
abbrev zVal : Type := Int ⊕ Int ⊕ Nat
abbrev vi (x : Int) : zVal := Sum.inl x
abbrev vl (x : Int) : zVal := Sum.inr (Sum.inl x)
abbrev vr (k : Nat) : zVal := Sum.inr (Sum.inr k)
abbrev zMem : Type := Nat → Int → Int
abbrev zLs : Type := List (Option zVal)
abbrev zRow : Type := Nat × Instr × Nat × Nat
/-- class, name, code, locals, answer, frames, local words, rows -/
abbrev zMth : Type := String × MethodName × ByteArray × Nat × Option FieldType × Nat × Nat × List zRow
abbrev mOwn (M : zMth) : String := M.1
abbrev mY (M : zMth) : MethodName := M.2.1
abbrev mCode (M : zMth) : ByteArray := M.2.2.1
abbrev mL (M : zMth) : Nat := M.2.2.2.1
abbrev mRet (M : zMth) : Option FieldType := M.2.2.2.2.1
abbrev mFr (M : zMth) : Nat := M.2.2.2.2.2.1
abbrev mLo (M : zMth) : Nat := M.2.2.2.2.2.2.1
abbrev mTbl (M : zMth) : List zRow := M.2.2.2.2.2.2.2
def zlook : List zRow → Nat → Option (Instr × Nat × Nat)
  | [], _ => none
  | r :: t, q => bif Nat.beq r.1 q then some r.2 else zlook t q
def zALL : List Cond := lw_tbl.filter goodWord
def zws (M : zMth) : List Cond := Cond.code (mY M) (mCode M) (mL M) (mRet M) :: zALL
def zrm (M : zMth) : Room := { frames := mFr M, cells := 0, slots := 0, locals := mLo M }
def zchk (M : zMth) : Bool := (mTbl M).all (fun r => decide (decode (mCode M) r.1 = .ok (r.2.1, r.2.2.1)) && Nat.beq r.2.2.2 (r.1 + r.2.2.1))
def zOK (M : zMth) : Prop := zchk M = true ∧ plainName (mY M).cls = true ∧ mOwn M = (mY M).cls ∧ Cond.code (mY M) (mCode M) (mL M) (mRet M) ∈ lw_tbl
theorem zlook_mem : ∀ {t : List zRow} {q : Nat} {x : Instr × Nat × Nat}, zlook t q = some x → (q, x) ∈ t
  | [], q, x, h => by cases h
  | r :: t, q, x, h => by
    unfold zlook at h
    cases hb : Nat.beq r.1 q with
    | true =>
      rw [hb] at h
      have e1 : r.1 = q := Nat.eq_of_beq_eq_true hb
      have e2 : r.2 = x := Option.some.inj h
      rw [← e1, ← e2]
      exact List.mem_cons_self
    | false =>
      rw [hb] at h
      exact List.mem_cons_of_mem _ (zlook_mem h)
theorem zdec {M : zMth} {pc len nx : Nat} {ins : Instr} (hM : zOK M) (hd : zlook (mTbl M) pc = some (ins, len, nx)) : decode (mCode M) pc = .ok (ins, len) ∧ nx = pc + len := by
  have h := List.all_eq_true.mp hM.1 _ (zlook_mem hd)
  simp only [Bool.and_eq_true, decide_eq_true_eq] at h
  exact ⟨h.1, Nat.eq_of_beq_eq_true h.2⟩
theorem zALL_mem {w : Cond} (h : w ∈ zALL) : w ∈ lw_tbl ∧ goodWord w = true := List.mem_filter.mp h
theorem zmem_ALL {w : Cond} (h : w ∈ lw_tbl) (g : goodWord w = true) : w ∈ zALL := List.mem_filter.mpr ⟨h, g⟩
theorem zgood_code (M : zMth) : goodWord (Cond.code (mY M) (mCode M) (mL M) (mRet M)) = true := rfl
theorem zGood {M' : zMth} {Ts : List Cond} (hM' : zOK M') (hT : ∀ w ∈ zALL, w ∈ Ts) : GoodIn Ts (zws M') := by
  intro w hw
  rcases List.mem_cons.mp hw with rfl | hw
  · exact ⟨hT _ (zmem_ALL hM'.2.2.2 (zgood_code M')), good_of_word (zgood_code M')⟩
  · exact ⟨hT _ hw, good_of_word (zALL_mem hw).2⟩
/-! the cells: (0, n, _) ints, (1, n, _) longs, (2, n, cells) an array of cells, (3, class, fields) an object -/
abbrev zShp : Type := Nat × Nat × List (Option Nat)
def zCT : List zShp := [
  (3, 10, [some 1, some 3, some 5, some 10, some 12, some 16, some 20, some 24, some 30, some 32, some 35, some 37, some 39, none]),
  (3, 8, [some 2, none]), (0, 39, []),
  (3, 8, [some 4, none]), (0, 71, []),
  (3, 4, [some 6, some 7, some 8, some 9, none, none, none]), (0, 8, []), (0, 8, []), (0, 8, []), (0, 8, []),
  (3, 9, [some 11, none, none]), (0, 96, []),
  (3, 3, [some 13, some 14, some 15, none]), (0, 12, []), (0, 12, []), (0, 12, []),
  (3, 3, [some 17, some 18, some 19, none]), (0, 8, []), (0, 8, []), (0, 8, []),
  (3, 3, [some 21, some 22, some 23, none]), (0, 8, []), (0, 8, []), (0, 8, []),
  (3, 2, [some 5, some 10, some 12, some 16, some 25, some 26, some 27, some 28, some 29, none, none, none, none]), (0, 96, []), (0, 12, []), (0, 64, []), (0, 64, []), (0, 8, []),
  (3, 5, [some 24, some 31, none]), (0, 2, []),
  (3, 7, [some 24, some 33, some 34, none]), (0, 3, []), (0, 3, []),
  (3, 1, [some 24, some 20, some 36]), (0, 96, []),
  (3, 0, [some 24, some 38]), (1, 8, []),
  (2, 4, [some 40, some 42, some 44, some 46]),
  (3, 6, [some 41, none, none, none]), (0, 60, []), (3, 6, [some 43, none, none, none]), (0, 60, []), (3, 6, [some 45, none, none, none]), (0, 60, []), (3, 6, [some 47, none, none, none]), (0, 60, []),
  (3, 11, [some 49, some 50, some 51, some 52, none, some 53, some 54, none, some 55, none, some 56, none, some 57, none, some 58, some 59, some 60, some 61, none, none, none, none, none, none, none, some 62, some 63, none, some 64, some 65, none]),
  (0, 4, []), (0, 4, []), (0, 240, []), (0, 60, []), (0, 144, []), (0, 2, []), (0, 24, []), (0, 96, []), (0, 36, []), (0, 20, []), (0, 64, []), (0, 64, []), (0, 8, []), (0, 3, []), (0, 2, []), (0, 24, []), (0, 96, [])]
def zrow (k : Nat) : zShp := zCT.getD k (9, 9, [])
abbrev zEnv : Type := va_G × (ClassId × ClassId × ClassId) × (Nat → Nat)
def zcv (E : zEnv) : zVal → Value
  | .inl x => .int (Int32.ofInt x)
  | .inr (.inl x) => .long (Int64.ofInt x)
  | .inr (.inr k) => .ref (E.2.2 k)
def zF (ad : Nat → Nat) (f : Int → Int) : Nat → List (Option Nat) → List Value
  | _, [] => []
  | j, none :: t => .int (Int32.ofInt (f j)) :: zF ad f (j + 1) t
  | j, some k :: t => .ref (ad k) :: zF ad f (j + 1) t
def zE (E : zEnv) (r : zShp) (f : Int → Int) : va_E := match r.1 with
  | 0 => .inl (E.2.1.1, r.2.1, .inl (fun j => Int32.ofInt (f j)))
  | 1 => .inl (E.2.1.2.1, r.2.1, .inr (.inl (fun j => Int64.ofInt (f j))))
  | 2 => .inl (E.2.1.2.2, r.2.1, .inr (.inr (.inr (.inr (fun j => (r.2.2.getD j none).map E.2.2)))))
  | _ => .inr (r.2.1, zF E.2.2 f 0 r.2.2)
def zW (E : zEnv) (mem : zMem) : va_W := (List.range 66).map (fun k => (E.2.2 k, zE E (zrow k) (mem k)))
def zupd (f : Int → Int) (i v : Int) : Int → Int := fun j => if j = i then v else f j
def zput (mem : zMem) (k : Nat) (f : Int → Int) : zMem := fun k' => bif Nat.beq k' k then f else mem k'
def zset (mem : zMem) (k : Nat) (i v : Int) : zMem := zput mem k (zupd (mem k) i v)
def zA (E : zEnv) : Nat → Prop := fun q => ∃ k, k < 66 ∧ q = E.2.2 k
def zTys (E : zEnv) : List (ClassId × FieldType) := [(E.2.1.1, .int), (E.2.1.2.1, .long), (E.2.1.2.2, .object "LowerBows$Sheet")]
def zNest : List (String × Nat) := [(RX4, 52), (RX9, 33), (RX7, 42), (RX6, 32)]
def zNw (U : State) : Prop := ∀ q ∈ zNest, va_Nw (.methodLinkNest q.1 q.2 yX10_within "LowerBows") U
theorem zNw.warm {s U : State} (hW : s.WarmedH U.vm) (h : zNw s) : zNw U := fun q hq => va_Nw.warmM hW (h q hq)
theorem zNw.same {u U : State} (hv : u.vm = U.vm) (h : zNw u) : zNw U := fun q hq => va_Nw.same rfl hv (h q hq)
theorem zCT_small : ∀ r ∈ zCT, r.2.1 ≤ 240 := by decide
theorem zCT_len : zCT.length = 66 := by decide
theorem zrow_lt {k a n : Nat} {fs : List (Option Nat)} (h : zrow k = (a, n, fs)) (ha : a < 9) : k < 66 := by
  by_cases hk : k < 66
  · exact hk
  · have e : zrow k = (9, 9, []) := by
      unfold zrow
      rw [List.getD_eq_getElem?_getD, List.getElem?_eq_none (by rw [zCT_len]; omega)]
      rfl
    rw [e] at h
    cases h
    omega
theorem zrow_small {k a n : Nat} {fs : List (Option Nat)} (h : zrow k = (a, n, fs)) (ha : a < 9) : n ≤ 240 := by
  have hk := zrow_lt h ha
  have hm : zrow k ∈ zCT := by
    unfold zrow
    rw [List.getD_eq_getElem?_getD, List.getElem?_eq_getElem (by rw [zCT_len]; exact hk)]
    exact List.getElem_mem _
  have := zCT_small _ hm
  rw [h] at this
  exact this
theorem zW_get {E : zEnv} {mem : zMem} {k : Nat} (hk : k < 66) : (zW E mem)[k]? = some (E.2.2 k, zE E (zrow k) (mem k)) := by
  unfold zW
  rw [List.getElem?_map, List.getElem?_range hk]
  rfl
theorem zW_set {E : zEnv} {mem : zMem} {k : Nat} {f : Int → Int} {e : va_E} (hk : k < 66) (he : e = zE E (zrow k) f) : (zW E mem).set k (E.2.2 k, e) = zW E (zput mem k f) := by
  subst he
  apply List.ext_getElem?
  intro j
  by_cases hj : j < 66
  · rw [zW_get hj]
    by_cases h : j = k
    · subst h
      rw [List.getElem?_set_self (by simp [zW]; exact hj)]
      simp [zput]
    · rw [List.getElem?_set_ne (Ne.symm h), zW_get hj]
      have hb : Nat.beq j k = false := by
        cases hq : Nat.beq j k with
        | false => rfl
        | true => exact absurd (Nat.eq_of_beq_eq_true hq) h
      simp [zput, hb]
  · rw [List.getElem?_eq_none (by simp [zW]; omega), List.getElem?_eq_none (by simp [zW]; omega)]
theorem zF_get (ad : Nat → Nat) (f : Int → Int) : ∀ (fs : List (Option Nat)) (b j : Nat), (zF ad f b fs)[j]? = (fs[j]?).map (fun o => match o with | none => Value.int (Int32.ofInt (f ((b + j : Nat) : Int))) | some k => .ref (ad k))
  | [], b, j => by simp [zF]
  | none :: t, b, 0 => by simp [zF]
  | some k :: t, b, 0 => by simp [zF]
  | none :: t, b, j + 1 => by
    simp only [zF, List.getElem?_cons_succ, zF_get ad f t (b + 1) j]
    have : b + 1 + j = b + (j + 1) := by omega
    rw [this]
  | some k :: t, b, j + 1 => by
    simp only [zF, List.getElem?_cons_succ, zF_get ad f t (b + 1) j]
    have : b + 1 + j = b + (j + 1) := by omega
    rw [this]
theorem zF_set (ad : Nat → Nat) (f : Int → Int) (v : Int) {fs : List (Option Nat)} {j : Nat} (h : fs[j]? = some none) : (zF ad f 0 fs).set j (.int (Int32.ofInt v)) = zF ad (zupd f j v) 0 fs := by
  apply List.ext_getElem?
  intro i
  by_cases hij : i = j
  · subst hij
    have hl : i < (zF ad f 0 fs).length := by
      have := zF_get ad f fs 0 i
      rw [h] at this
      exact (List.getElem?_eq_some_iff.mp this).1
    rw [List.getElem?_set_self hl, zF_get, h]
    simp [zupd]
  · rw [List.getElem?_set_ne (Ne.symm hij), zF_get, zF_get]
    congr 1
    funext o
    cases o with
    | some k => rfl
    | none =>
      have : ¬ ((i : Int) = (j : Int)) := by omega
      simp [zupd, this]
theorem zF_len (ad : Nat → Nat) (f : Int → Int) {fs : List (Option Nat)} {j : Nat} (h : fs[j]? = some none) : j < (zF ad f 0 fs).length := by
  have := zF_get ad f fs 0 j
  rw [h] at this
  exact (List.getElem?_eq_some_iff.mp this).1
/-! locals -/
def zcl (E : zEnv) : Nat → zLs → List (Nat × Value)
  | _, [] => []
  | i, none :: t => zcl E (i + 1) t
  | i, some v :: t => (i, zcv E v) :: zcl E (i + 1) t
theorem zcl_mem {E : zEnv} : ∀ {ls : zLs} {b i : Nat} {v : zVal}, ls[i]? = some (some v) → (b + i, zcv E v) ∈ zcl E b ls
  | [], b, i, v, h => by simp at h
  | none :: t, b, 0, v, h => by simp at h
  | some w :: t, b, 0, v, h => by
    simp at h
    subst h
    simp [zcl]
  | none :: t, b, i + 1, v, h => by
    have := zcl_mem (E := E) (b := b + 1) (i := i) (v := v) (ls := t) (by simpa using h)
    have e : b + 1 + i = b + (i + 1) := by omega
    rw [e] at this
    simpa [zcl] using this
  | some w :: t, b, i + 1, v, h => by
    have := zcl_mem (E := E) (b := b + 1) (i := i) (v := v) (ls := t) (by simpa using h)
    have e : b + 1 + i = b + (i + 1) := by omega
    rw [e] at this
    simp only [zcl]
    exact List.mem_cons_of_mem _ this
theorem zcl_of {E : zEnv} : ∀ {ls : zLs} {b : Nat} {q : Nat × Value}, q ∈ zcl E b ls → ∃ (i : Nat) (v : zVal), q = (b + i, zcv E v) ∧ ls[i]? = some (some v)
  | [], b, q, h => by simp [zcl] at h
  | none :: t, b, q, h => by
    simp only [zcl] at h
    obtain ⟨i, v, h1, h2⟩ := zcl_of h
    exact ⟨i + 1, v, by rw [h1]; congr 1; omega, by simpa using h2⟩
  | some w :: t, b, q, h => by
    simp only [zcl] at h
    rcases List.mem_cons.mp h with rfl | h
    · exact ⟨0, w, rfl, rfl⟩
    · obtain ⟨i, v, h1, h2⟩ := zcl_of h
      exact ⟨i + 1, v, by rw [h1]; congr 1; omega, by simpa using h2⟩
theorem zhas {E : zEnv} {la : Array Slot} {nL : Nat} {ls : zLs} (h : lv_has la nL (zcl E 0 ls)) {i : Nat} {v : zVal} (hi : ls[i]? = some (some v)) : la[i]? = some (.val (zcv E v)) := by
  have := h.2.2 _ (zcl_mem (E := E) (b := 0) hi)
  simpa using this
theorem zhas_mk {E : zEnv} {la : Array Slot} {nL : Nat} {ls : zLs} {l : List (Nat × Value)} (h : lv_has la nL l) (hs : ∀ (i : Nat) (v : zVal), ls[i]? = some (some v) → (i, zcv E v) ∈ l) : lv_has la nL (zcl E 0 ls) := by
  refine ⟨h.1, h.2.1, fun q hq => ?_⟩
  obtain ⟨i, v, h1, h2⟩ := zcl_of hq
  rw [h1]
  simp only [Nat.zero_add]
  exact h.2.2 (i, zcv E v) (hs i v h2)
/-- v at place i; what stood there as the first half of a long is gone -/
def zst1 : zLs → Nat → zVal → Option zLs
  | [], _, _ => none
  | _ :: t, 0, v => some (some v :: t)
  | a :: t, i + 1, v => match i, t, a with
    | 0, _ :: t', some (.inr (.inl _)) => some (none :: some v :: t')
    | 0, _ :: t', a => some (a :: some v :: t')
    | _, t, a => match zst1 t i v with
      | some t' => some (a :: t')
      | none => none
/-- nothing known at place i -/
def zclr : zLs → Nat → Option zLs
  | [], _ => none
  | _ :: t, 0 => some (none :: t)
  | a :: t, i + 1 => match zclr t i with
    | some t' => some (a :: t')
    | none => none
/-- a long v at places i and i + 1 -/
def zst2 (ls : zLs) (i : Nat) (v : zVal) : Option zLs := match zst1 ls i v with
  | some l1 => zclr l1 (i + 1)
  | none => none
def zlk (ls : zLs) (i : Nat) : Option zVal := match ls, i with
  | [], _ => none
  | a :: _, 0 => a
  | _ :: t, i + 1 => zlk t i
theorem zlk_get : ∀ {ls : zLs} {i : Nat} {v : zVal}, zlk ls i = some v → ls[i]? = some (some v)
  | [], _, _, h => by simp [zlk] at h
  | a :: _, 0, v, h => by simp [zlk] at h; simp [h]
  | _ :: t, i + 1, v, h => by
    simp only [zlk] at h
    simpa using zlk_get h
end
section
/-! ===== AW: from this place of the method it returns with Q ===== -/
theorem zst1_spec : ∀ {ls ls' : zLs} {i : Nat} {v : zVal}, zst1 ls i v = some ls' → ∀ (j : Nat) (w : zVal), ls'[j]? = some (some w) → (j = i ∧ w = v) ∨ (j ≠ i ∧ ls[j]? = some (some w) ∧ ¬ (j + 1 = i ∧ ∃ x, w = vl x)) := by
  intro ls
  induction ls with
  | nil => intro ls' i v h; simp [zst1] at h
  | cons a t ih =>
    intro ls' i v h j w hj
    cases i with
    | zero =>
      simp only [zst1, Option.some.injEq] at h
      subst h
      cases j with
      | zero => left; simp at hj; exact ⟨rfl, hj.symm⟩
      | succ j => right; exact ⟨by omega, by simpa using hj, by omega⟩
    | succ i =>
      unfold zst1 at h
      split at h
      · simp only [Option.some.injEq] at h
        subst h
        rcases j with _ | _ | j
        · simp at hj
        · left; simp at hj; exact ⟨rfl, hj.symm⟩
        · right; exact ⟨by omega, by simpa using hj, by omega⟩
      · rename_i hne
        simp only [Option.some.injEq] at h
        subst h
        rcases j with _ | _ | j
        · right
          simp at hj
          refine ⟨by omega, by simp [hj], ?_⟩
          rintro ⟨-, x, rfl⟩
          exact hne x hj
        · left; simp at hj; exact ⟨rfl, hj.symm⟩
        · right; exact ⟨by omega, by simpa using hj, by omega⟩
      · rename_i hne1 hne2
        split at h
        · rename_i t' ht'
          simp only [Option.some.injEq] at h
          subst h
          cases j with
          | zero =>
            right
            simp at hj
            refine ⟨by omega, by simp [hj], ?_⟩
            rintro ⟨hi, x, rfl⟩
            have hi0 : i = 0 := by omega
            subst hi0
            cases t with
            | nil => simp [zst1] at ht'
            | cons b t2 => first | exact hne1 b t2 rfl rfl | exact hne2 b t2 x rfl rfl hj | exact hne1 b t2 rfl rfl hj
          | succ j =>
            have hj' : t'[j]? = some (some w) := by simpa using hj
            rcases ih ht' j w hj' with ⟨rfl, rfl⟩ | ⟨h1, h2, h3⟩
            · exact Or.inl ⟨rfl, rfl⟩
            · exact Or.inr ⟨by omega, by simpa using h2, fun ⟨q1, q2⟩ => h3 ⟨by omega, q2⟩⟩
        · cases h
theorem zclr_spec : ∀ {ls ls' : zLs} {i : Nat}, zclr ls i = some ls' → ∀ (j : Nat) (w : zVal), ls'[j]? = some (some w) → j ≠ i ∧ ls[j]? = some (some w) := by
  intro ls
  induction ls with
  | nil => intro ls' i h; simp [zclr] at h
  | cons a t ih =>
    intro ls' i h j w hj
    cases i with
    | zero =>
      simp only [zclr, Option.some.injEq] at h
      subst h
      cases j with
      | zero => simp at hj
      | succ j => exact ⟨by omega, by simpa using hj⟩
    | succ i =>
      simp only [zclr] at h
      split at h
      · rename_i t' ht'
        simp only [Option.some.injEq] at h
        subst h
        cases j with
        | zero => exact ⟨by omega, by simpa using hj⟩
        | succ j =>
          obtain ⟨h1, h2⟩ := ih ht' j w (by simpa using hj)
          exact ⟨by omega, by simpa using h2⟩
      · cases h
theorem zst2_spec {ls ls' : zLs} {i : Nat} {v : zVal} (h : zst2 ls i v = some ls') (j : Nat) (w : zVal) (hj : ls'[j]? = some (some w)) : (j = i ∧ w = v) ∨ (j ≠ i ∧ j ≠ i + 1 ∧ ls[j]? = some (some w) ∧ ¬ (j + 1 = i ∧ ∃ x, w = vl x)) := by
  unfold zst2 at h
  split at h
  · rename_i l1 h1
    obtain ⟨a1, a2⟩ := zclr_spec h j w hj
    rcases zst1_spec h1 j w a2 with ⟨rfl, rfl⟩ | ⟨b1, b2, b3⟩
    · exact Or.inl ⟨rfl, rfl⟩
    · exact Or.inr ⟨b1, a1, b2, b3⟩
  · cases h
theorem zcv_cat (E : zEnv) (w : zVal) : (zcv E w).category = 2 ↔ ∃ x, w = vl x := by
  rcases w with x | x | k
  · simp [zcv, Value.category]
  · simp [zcv, Value.category]
  · simp [zcv, Value.category]
def zCx (M : zMth) (p : Program) (s : State) (m : MethodId) (args : Array Value) (meth : Method) (c : Code) (E : zEnv) : Prop :=
  p.tables.exec = Jvm.exec ∧ c.code = mCode M ∧ meth.sig.returnType = mRet M ∧ c.maxLocals = mL M ∧ s.vm.findClass (mOwn M) = some m.cls ∧ (∀ w ∈ zws M, w.before args s = true) ∧ meth.locks = false ∧ va_K E.1 vwCl (zTys E) s ∧ zNw s
def zQc (E : zEnv) (Q : Option zVal → zMem → Prop) : Array Value → State → Outcome → State → Prop := fun _ st oc t =>
  (∃ (r : Option zVal) (mem : zMem), oc = .returned (r.map (zcv E)) ∧ Q r mem ∧ va_P E.1 vwCl (zW E mem) t.heap ∧ va_D (zA E) (zW E mem)) ∧ va_F (zA E) st t
def AW (M : zMth) (pc : Nat) (ls : zLs) (st : List zVal) (mem : zMem) (Q : Option zVal → zMem → Prop) : Prop :=
  ∀ (p : Program) (l : Launch) (e : Env) (s : State) (m : MethodId) (args : Array Value) (below : List Frame) (meth : Method) (c : Code) (E : zEnv) (H : Heap) (locs : List Loc) (la : Array Slot),
    zCx M p s m args meth c E → lv_has la (mL M) (zcl E 0 ls) → va_P E.1 vwCl (zW E mem) H → va_D (zA E) (zW E mem) → va_S (zA E) s.heap H locs →
    W p l e (zrm M) s m args below meth c H locs 0 0 (MQ below (zQc E Q) args s 0 0 (zA E)) (F0 m pc la (st.map (zcv E)))
section ZW
variable {M : zMth} {pc nx : Nat} {ls : zLs} {st : List zVal} {mem : zMem} {Q : Option zVal → zMem → Prop}
/-- fewer known locals, at a head -/
theorem zw_weak {ls' : zLs} (h : ∀ (i : Nat) (v : zVal), ls'[i]? = some (some v) → ls[i]? = some (some v)) (kk : AW M pc ls' st mem Q) : AW M pc ls st mem Q := by
  intro p l e s m args below meth c E H locs la C hl hP hD hS
  exact kk p l e s m args below meth c E H locs la C (zhas_mk hl (fun i v hi => by simpa using zcl_mem (E := E) (b := 0) (h i v hi))) hP hD hS
def zsub : zLs → zLs → Bool
  | [], _ => true
  | none :: t, _ :: t' => zsub t t'
  | none :: t, [] => zsub t []
  | some _ :: _, _ => false
theorem zw_eq {mem' : zMem} (h : mem = mem') (kk : AW M pc ls st mem' Q) : AW M pc ls st mem Q := h ▸ kk
theorem zw_post {Q' : Option zVal → zMem → Prop} (h : ∀ r m', Q' r m' → Q r m') (kk : AW M pc ls st mem Q') : AW M pc ls st mem Q := by
  intro p l e s m args below meth c E H locs la C hl hP hD hS T hT X
  obtain ⟨t, a, o, b1, b2, ⟨⟨r, m', h1, h2, h3⟩, h4⟩, b4⟩ := kk p l e s m args below meth c E H locs la C hl hP hD hS T hT X
  exact ⟨t, a, o, b1, b2, ⟨⟨r, m', h1, h _ _ h2, h3⟩, h4⟩, b4⟩
theorem zw_iconst {n : Int} (hM : zOK M) (hd : zlook (mTbl M) pc = some (.iconst n, 1, nx))  (kk : AW M nx ls (vi n :: st) mem Q) : AW M pc ls (st) mem Q := by
  intro p l e s m args below meth c E H locs la C hl hP hD hS
  obtain ⟨hx, hb, hr, hml, hown, hts, hlk, hK, hN⟩ := id C
  obtain ⟨hdg, rfl⟩ := zdec hM hd
  have kk := kk p l e s m args below meth c E H locs la C hl hP hD hS
  exact lv_iconst hx hb hdg rfl kk
theorem zw_bipush {n : Int} (hM : zOK M) (hd : zlook (mTbl M) pc = some (.bipush n, 2, nx)) (hv : (Int8.ofInt n).toInt32 = Int32.ofInt n) (kk : AW M nx ls (vi n :: st) mem Q) : AW M pc ls (st) mem Q := by
  intro p l e s m args below meth c E H locs la C hl hP hD hS
  obtain ⟨hx, hb, hr, hml, hown, hts, hlk, hK, hN⟩ := id C
  obtain ⟨hdg, rfl⟩ := zdec hM hd
  have kk := kk p l e s m args below meth c E H locs la C hl hP hD hS
  exact lv_bipush hx hb hdg hv kk
theorem zw_sipush {n : Int} (hM : zOK M) (hd : zlook (mTbl M) pc = some (.sipush n, 3, nx)) (hv : (Int16.ofInt n).toInt32 = Int32.ofInt n) (kk : AW M nx ls (vi n :: st) mem Q) : AW M pc ls (st) mem Q := by
  intro p l e s m args below meth c E H locs la C hl hP hD hS
  obtain ⟨hx, hb, hr, hml, hown, hts, hlk, hK, hN⟩ := id C
  obtain ⟨hdg, rfl⟩ := zdec hM hd
  have kk := kk p l e s m args below meth c E H locs la C hl hP hD hS
  exact lv_sipush hx hb hdg hv kk
theorem zw_lconst {k : Fin 2} (hM : zOK M) (hd : zlook (mTbl M) pc = some (.lconst k, 1, nx))  (kk : AW M nx ls (vl ((k : Nat) : Int) :: st) mem Q) : AW M pc ls (st) mem Q := by
  intro p l e s m args below meth c E H locs la C hl hP hD hS
  obtain ⟨hx, hb, hr, hml, hown, hts, hlk, hK, hN⟩ := id C
  obtain ⟨hdg, rfl⟩ := zdec hM hd
  have kk := kk p l e s m args below meth c E H locs la C hl hP hD hS
  exact lv_lconst hx hb hdg (by simp [Int64.ofInt_eq_ofNat]) kk
theorem zw_ldc {idx : Nat} {n : Int} (hM : zOK M) (hd : zlook (mTbl M) pc = some (.ldc idx, 2, nx)) (hc : Cond.constant (mOwn M) idx (Int32.ofInt n) ∈ zALL) (kk : AW M nx ls (vi n :: st) mem Q) : AW M pc ls (st) mem Q := by
  intro p l e s m args below meth c E H locs la C hl hP hD hS
  obtain ⟨hx, hb, hr, hml, hown, hts, hlk, hK, hN⟩ := id C
  obtain ⟨hdg, rfl⟩ := zdec hM hd
  have kk := kk p l e s m args below meth c E H locs la C hl hP hD hS
  exact lv_ldc hx hb hown (hts _ (List.mem_cons_of_mem _ hc)) hdg kk
theorem zw_ldcw {idx : Nat} {n : Int} (hM : zOK M) (hd : zlook (mTbl M) pc = some (.ldc_w idx, 3, nx)) (hc : Cond.constant (mOwn M) idx (Int32.ofInt n) ∈ zALL) (kk : AW M nx ls (vi n :: st) mem Q) : AW M pc ls (st) mem Q := by
  intro p l e s m args below meth c E H locs la C hl hP hD hS
  obtain ⟨hx, hb, hr, hml, hown, hts, hlk, hK, hN⟩ := id C
  obtain ⟨hdg, rfl⟩ := zdec hM hd
  have kk := kk p l e s m args below meth c E H locs la C hl hP hD hS
  exact lv_ldcw hx hb hown (hts _ (List.mem_cons_of_mem _ hc)) hdg kk
theorem zw_ldc2 {idx : Nat} {n : Int} (hM : zOK M) (hd : zlook (mTbl M) pc = some (.ldc2_w idx, 3, nx)) (hc : Cond.constantLong (mOwn M) idx (Int64.ofInt n) ∈ zALL) (kk : AW M nx ls (vl n :: st) mem Q) : AW M pc ls (st) mem Q := by
  intro p l e s m args below meth c E H locs la C hl hP hD hS
  obtain ⟨hx, hb, hr, hml, hown, hts, hlk, hK, hN⟩ := id C
  obtain ⟨hdg, rfl⟩ := zdec hM hd
  have kk := kk p l e s m args below meth c E H locs la C hl hP hD hS
  exact lv_ldc2 hx hb hown (hts _ (List.mem_cons_of_mem _ hc)) hdg kk
theorem zw_iload_n {k : Fin 4} {x : Int} (hM : zOK M) (hd : zlook (mTbl M) pc = some (.iload_n k, 1, nx)) (hv : zlk ls k = some (vi x)) (kk : AW M nx ls (vi x :: st) mem Q) : AW M pc ls (st) mem Q := by
  intro p l e s m args below meth c E H locs la C hl hP hD hS
  obtain ⟨hx, hb, hr, hml, hown, hts, hlk, hK, hN⟩ := id C
  obtain ⟨hdg, rfl⟩ := zdec hM hd
  have kk := kk p l e s m args below meth c E H locs la C hl hP hD hS
  exact lv_iload_n hx hb hdg rfl (zhas hl (zlk_get hv)) kk
theorem zw_iload {i : Nat} {x : Int} (hM : zOK M) (hd : zlook (mTbl M) pc = some (.iload i, 2, nx)) (hv : zlk ls i = some (vi x)) (kk : AW M nx ls (vi x :: st) mem Q) : AW M pc ls (st) mem Q := by
  intro p l e s m args below meth c E H locs la C hl hP hD hS
  obtain ⟨hx, hb, hr, hml, hown, hts, hlk, hK, hN⟩ := id C
  obtain ⟨hdg, rfl⟩ := zdec hM hd
  have kk := kk p l e s m args below meth c E H locs la C hl hP hD hS
  exact lv_iload hx hb hdg (zhas hl (zlk_get hv)) kk
theorem zw_lload_n {k : Fin 4} {x : Int} (hM : zOK M) (hd : zlook (mTbl M) pc = some (.lload_n k, 1, nx)) (hv : zlk ls k = some (vl x)) (kk : AW M nx ls (vl x :: st) mem Q) : AW M pc ls (st) mem Q := by
  intro p l e s m args below meth c E H locs la C hl hP hD hS
  obtain ⟨hx, hb, hr, hml, hown, hts, hlk, hK, hN⟩ := id C
  obtain ⟨hdg, rfl⟩ := zdec hM hd
  have kk := kk p l e s m args below meth c E H locs la C hl hP hD hS
  exact lv_lload_n hx hb hdg rfl (zhas hl (zlk_get hv)) kk
theorem zw_lload {i : Nat} {x : Int} (hM : zOK M) (hd : zlook (mTbl M) pc = some (.lload i, 2, nx)) (hv : zlk ls i = some (vl x)) (kk : AW M nx ls (vl x :: st) mem Q) : AW M pc ls (st) mem Q := by
  intro p l e s m args below meth c E H locs la C hl hP hD hS
  obtain ⟨hx, hb, hr, hml, hown, hts, hlk, hK, hN⟩ := id C
  obtain ⟨hdg, rfl⟩ := zdec hM hd
  have kk := kk p l e s m args below meth c E H locs la C hl hP hD hS
  exact lv_lload hx hb hdg (zhas hl (zlk_get hv)) kk
theorem zw_aload_n {k : Fin 4} {x : Nat} (hM : zOK M) (hd : zlook (mTbl M) pc = some (.aload_n k, 1, nx)) (hv : zlk ls k = some (vr x)) (kk : AW M nx ls (vr x :: st) mem Q) : AW M pc ls (st) mem Q := by
  intro p l e s m args below meth c E H locs la C hl hP hD hS
  obtain ⟨hx, hb, hr, hml, hown, hts, hlk, hK, hN⟩ := id C
  obtain ⟨hdg, rfl⟩ := zdec hM hd
  have kk := kk p l e s m args below meth c E H locs la C hl hP hD hS
  exact lv_aload_n hx hb hdg rfl (zhas hl (zlk_get hv)) kk
theorem zw_aload {i : Nat} {x : Nat} (hM : zOK M) (hd : zlook (mTbl M) pc = some (.aload i, 2, nx)) (hv : zlk ls i = some (vr x)) (kk : AW M nx ls (vr x :: st) mem Q) : AW M pc ls (st) mem Q := by
  intro p l e s m args below meth c E H locs la C hl hP hD hS
  obtain ⟨hx, hb, hr, hml, hown, hts, hlk, hK, hN⟩ := id C
  obtain ⟨hdg, rfl⟩ := zdec hM hd
  have kk := kk p l e s m args below meth c E H locs la C hl hP hD hS
  exact lv_aload hx hb hdg (zhas hl (zlk_get hv)) kk
theorem zw_istore_n {k : Fin 4} {x : Int} {ls' : zLs} (hM : zOK M) (hd : zlook (mTbl M) pc = some (.istore_n k, 1, nx)) (hv : zst1 ls (k : Nat) (vi x) = some ls') (hn : (k : Nat) < mL M) (kk : AW M nx ls' st mem Q) : AW M pc ls (vi x :: st) mem Q := by
  intro p l e s m args below meth c E H locs la C hl hP hD hS
  obtain ⟨hx, hb, hr, hml, hown, hts, hlk, hK, hN⟩ := id C
  obtain ⟨hdg, rfl⟩ := zdec hM hd
  refine lv_istore_n hx hb hdg rfl hl hn rfl (fun la' hl' => ?_)
  refine kk p l e s m args below meth c E H locs la' C (zhas_mk hl' (fun j u hj => ?_)) hP hD hS
  rcases zst1_spec hv j u hj with ⟨rfl, rfl⟩ | ⟨h1, h2, h3⟩
  · exact List.mem_cons_self
  · refine List.mem_cons_of_mem _ (List.mem_filter.mpr ⟨by simpa using zcl_mem (E := E) (b := 0) h2, ?_⟩)
    have h4 : ¬ (j + 1 = (k : Nat) ∧ (zcv E u).category = 2) := fun ⟨q1, q2⟩ => h3 ⟨q1, (zcv_cat E u).mp q2⟩
    simp [h1]
    omega
theorem zw_istore {i : Nat} {x : Int} {ls' : zLs} (hM : zOK M) (hd : zlook (mTbl M) pc = some (.istore i, 2, nx)) (hv : zst1 ls i (vi x) = some ls') (hn : i < mL M) (kk : AW M nx ls' st mem Q) : AW M pc ls (vi x :: st) mem Q := by
  intro p l e s m args below meth c E H locs la C hl hP hD hS
  obtain ⟨hx, hb, hr, hml, hown, hts, hlk, hK, hN⟩ := id C
  obtain ⟨hdg, rfl⟩ := zdec hM hd
  refine lv_istore hx hb hdg hl hn rfl (fun la' hl' => ?_)
  refine kk p l e s m args below meth c E H locs la' C (zhas_mk hl' (fun j u hj => ?_)) hP hD hS
  rcases zst1_spec hv j u hj with ⟨rfl, rfl⟩ | ⟨h1, h2, h3⟩
  · exact List.mem_cons_self
  · refine List.mem_cons_of_mem _ (List.mem_filter.mpr ⟨by simpa using zcl_mem (E := E) (b := 0) h2, ?_⟩)
    have h4 : ¬ (j + 1 = i ∧ (zcv E u).category = 2) := fun ⟨q1, q2⟩ => h3 ⟨q1, (zcv_cat E u).mp q2⟩
    simp [h1]
    omega
theorem zw_astore_n {k : Fin 4} {x : Nat} {ls' : zLs} (hM : zOK M) (hd : zlook (mTbl M) pc = some (.astore_n k, 1, nx)) (hv : zst1 ls (k : Nat) (vr x) = some ls') (hn : (k : Nat) < mL M) (kk : AW M nx ls' st mem Q) : AW M pc ls (vr x :: st) mem Q := by
  intro p l e s m args below meth c E H locs la C hl hP hD hS
  obtain ⟨hx, hb, hr, hml, hown, hts, hlk, hK, hN⟩ := id C
  obtain ⟨hdg, rfl⟩ := zdec hM hd
  refine lv_astore_n hx hb hdg rfl hl hn rfl (fun la' hl' => ?_)
  refine kk p l e s m args below meth c E H locs la' C (zhas_mk hl' (fun j u hj => ?_)) hP hD hS
  rcases zst1_spec hv j u hj with ⟨rfl, rfl⟩ | ⟨h1, h2, h3⟩
  · exact List.mem_cons_self
  · refine List.mem_cons_of_mem _ (List.mem_filter.mpr ⟨by simpa using zcl_mem (E := E) (b := 0) h2, ?_⟩)
    have h4 : ¬ (j + 1 = (k : Nat) ∧ (zcv E u).category = 2) := fun ⟨q1, q2⟩ => h3 ⟨q1, (zcv_cat E u).mp q2⟩
    simp [h1]
    omega
theorem zw_astore {i : Nat} {x : Nat} {ls' : zLs} (hM : zOK M) (hd : zlook (mTbl M) pc = some (.astore i, 2, nx)) (hv : zst1 ls i (vr x) = some ls') (hn : i < mL M) (kk : AW M nx ls' st mem Q) : AW M pc ls (vr x :: st) mem Q := by
  intro p l e s m args below meth c E H locs la C hl hP hD hS
  obtain ⟨hx, hb, hr, hml, hown, hts, hlk, hK, hN⟩ := id C
  obtain ⟨hdg, rfl⟩ := zdec hM hd
  refine lv_astore hx hb hdg hl hn rfl (fun la' hl' => ?_)
  refine kk p l e s m args below meth c E H locs la' C (zhas_mk hl' (fun j u hj => ?_)) hP hD hS
  rcases zst1_spec hv j u hj with ⟨rfl, rfl⟩ | ⟨h1, h2, h3⟩
  · exact List.mem_cons_self
  · refine List.mem_cons_of_mem _ (List.mem_filter.mpr ⟨by simpa using zcl_mem (E := E) (b := 0) h2, ?_⟩)
    have h4 : ¬ (j + 1 = i ∧ (zcv E u).category = 2) := fun ⟨q1, q2⟩ => h3 ⟨q1, (zcv_cat E u).mp q2⟩
    simp [h1]
    omega
theorem zw_lstore_n {k : Fin 4} {x : Int} {ls' : zLs} (hM : zOK M) (hd : zlook (mTbl M) pc = some (.lstore_n k, 1, nx)) (hv : zst2 ls (k : Nat) (vl x) = some ls') (hn : (k : Nat) + 1 < mL M) (kk : AW M nx ls' st mem Q) : AW M pc ls (vl x :: st) mem Q := by
  intro p l e s m args below meth c E H locs la C hl hP hD hS
  obtain ⟨hx, hb, hr, hml, hown, hts, hlk, hK, hN⟩ := id C
  obtain ⟨hdg, rfl⟩ := zdec hM hd
  refine lv_lstore_n hx hb hdg rfl hl hn rfl (fun la' hl' => ?_)
  refine kk p l e s m args below meth c E H locs la' C (zhas_mk hl' (fun j u hj => ?_)) hP hD hS
  rcases zst2_spec hv j u hj with ⟨rfl, rfl⟩ | ⟨h1, h1', h2, h3⟩
  · exact List.mem_cons_self
  · refine List.mem_cons_of_mem _ (List.mem_filter.mpr ⟨by simpa using zcl_mem (E := E) (b := 0) h2, ?_⟩)
    have h4 : ¬ (j + 1 = (k : Nat) ∧ (zcv E u).category = 2) := fun ⟨q1, q2⟩ => h3 ⟨q1, (zcv_cat E u).mp q2⟩
    simp [h1, h1']
    omega
theorem zw_lstore {i : Nat} {x : Int} {ls' : zLs} (hM : zOK M) (hd : zlook (mTbl M) pc = some (.lstore i, 2, nx)) (hv : zst2 ls i (vl x) = some ls') (hn : i + 1 < mL M) (kk : AW M nx ls' st mem Q) : AW M pc ls (vl x :: st) mem Q := by
  intro p l e s m args below meth c E H locs la C hl hP hD hS
  obtain ⟨hx, hb, hr, hml, hown, hts, hlk, hK, hN⟩ := id C
  obtain ⟨hdg, rfl⟩ := zdec hM hd
  refine lv_lstore hx hb hdg hl hn rfl (fun la' hl' => ?_)
  refine kk p l e s m args below meth c E H locs la' C (zhas_mk hl' (fun j u hj => ?_)) hP hD hS
  rcases zst2_spec hv j u hj with ⟨rfl, rfl⟩ | ⟨h1, h1', h2, h3⟩
  · exact List.mem_cons_self
  · refine List.mem_cons_of_mem _ (List.mem_filter.mpr ⟨by simpa using zcl_mem (E := E) (b := 0) h2, ?_⟩)
    have h4 : ¬ (j + 1 = i ∧ (zcv E u).category = 2) := fun ⟨q1, q2⟩ => h3 ⟨q1, (zcv_cat E u).mp q2⟩
    simp [h1, h1']
    omega
theorem zw_iinc {i : Nat} {n x : Int} {ls' : zLs} (hM : zOK M) (hd : zlook (mTbl M) pc = some (.iinc i n, 3, nx)) (hg : zlk ls i = some (vi x)) (hv : zst1 ls i (vi (x + n)) = some ls') (hn : i < mL M) (kk : AW M nx ls' st mem Q) : AW M pc ls st mem Q := by
  intro p l e s m args below meth c E H locs la C hl hP hD hS
  obtain ⟨hx, hb, hr, hml, hown, hts, hlk, hK, hN⟩ := id C
  obtain ⟨hdg, rfl⟩ := zdec hM hd
  obtain ⟨k, hk⟩ := List.getElem?_of_mem (zcl_mem (E := E) (b := 0) (zlk_get hg))
  rw [Nat.zero_add] at hk
  refine lv_iinc (k := k) (x := Int32.ofInt x) (v := Int32.ofInt (x + n)) hx hb hdg hl hk (Int32.ofInt_add x n).symm hn rfl (fun la' hl' => ?_)
  refine kk p l e s m args below meth c E H locs la' C (zhas_mk hl' (fun j u hj => ?_)) hP hD hS
  rcases zst1_spec hv j u hj with ⟨rfl, rfl⟩ | ⟨h1, h2, h3⟩
  · exact List.mem_cons_self
  · refine List.mem_cons_of_mem _ (List.mem_filter.mpr ⟨by simpa using zcl_mem (E := E) (b := 0) h2, ?_⟩)
    have h4 : ¬ (j + 1 = i ∧ (zcv E u).category = 2) := fun ⟨q1, q2⟩ => h3 ⟨q1, (zcv_cat E u).mp q2⟩
    simp [h1]
    omega
theorem zw_iadd {x y : Int} (hM : zOK M) (hd : zlook (mTbl M) pc = some (.iadd, 1, nx))  (kk : AW M nx ls (vi (x + y) :: st) mem Q) : AW M pc ls (vi y :: vi x :: st) mem Q := by
  intro p l e s m args below meth c E H locs la C hl hP hD hS
  obtain ⟨hx, hb, hr, hml, hown, hts, hlk, hK, hN⟩ := id C
  obtain ⟨hdg, rfl⟩ := zdec hM hd
  have kk := kk p l e s m args below meth c E H locs la C hl hP hD hS
  have kk2 := kk
  simp only [List.map_cons, zcv, Int32.ofInt_add] at kk2
  exact lv_iadd hx hb hdg kk2
theorem zw_isub {x y : Int} (hM : zOK M) (hd : zlook (mTbl M) pc = some (.isub, 1, nx))  (kk : AW M nx ls (vi (x - y) :: st) mem Q) : AW M pc ls (vi y :: vi x :: st) mem Q := by
  intro p l e s m args below meth c E H locs la C hl hP hD hS
  obtain ⟨hx, hb, hr, hml, hown, hts, hlk, hK, hN⟩ := id C
  obtain ⟨hdg, rfl⟩ := zdec hM hd
  have kk := kk p l e s m args below meth c E H locs la C hl hP hD hS
  have kk2 := kk
  simp only [List.map_cons, zcv, Int32.ofInt_sub] at kk2
  exact lv_isub hx hb hdg kk2
theorem zw_imul {x y : Int} (hM : zOK M) (hd : zlook (mTbl M) pc = some (.imul, 1, nx))  (kk : AW M nx ls (vi (x * y) :: st) mem Q) : AW M pc ls (vi y :: vi x :: st) mem Q := by
  intro p l e s m args below meth c E H locs la C hl hP hD hS
  obtain ⟨hx, hb, hr, hml, hown, hts, hlk, hK, hN⟩ := id C
  obtain ⟨hdg, rfl⟩ := zdec hM hd
  have kk := kk p l e s m args below meth c E H locs la C hl hP hD hS
  have kk2 := kk
  simp only [List.map_cons, zcv, Int32.ofInt_mul] at kk2
  exact lv_imul hx hb hdg kk2
theorem zw_ineg {x : Int} (hM : zOK M) (hd : zlook (mTbl M) pc = some (.ineg, 1, nx))  (kk : AW M nx ls (vi (-x) :: st) mem Q) : AW M pc ls (vi x :: st) mem Q := by
  intro p l e s m args below meth c E H locs la C hl hP hD hS
  obtain ⟨hx, hb, hr, hml, hown, hts, hlk, hK, hN⟩ := id C
  obtain ⟨hdg, rfl⟩ := zdec hM hd
  have kk := kk p l e s m args below meth c E H locs la C hl hP hD hS
  have kk2 := kk
  simp only [List.map_cons, zcv, Int32.ofInt_neg] at kk2
  exact lv_ineg hx hb hdg kk2
theorem zw_ladd {x y : Int} (hM : zOK M) (hd : zlook (mTbl M) pc = some (.ladd, 1, nx))  (kk : AW M nx ls (vl (x + y) :: st) mem Q) : AW M pc ls (vl y :: vl x :: st) mem Q := by
  intro p l e s m args below meth c E H locs la C hl hP hD hS
  obtain ⟨hx, hb, hr, hml, hown, hts, hlk, hK, hN⟩ := id C
  obtain ⟨hdg, rfl⟩ := zdec hM hd
  have kk := kk p l e s m args below meth c E H locs la C hl hP hD hS
  have kk2 := kk
  simp only [List.map_cons, zcv, Int64.ofInt_add] at kk2
  exact lv_ladd hx hb hdg kk2
theorem zw_lsub {x y : Int} (hM : zOK M) (hd : zlook (mTbl M) pc = some (.lsub, 1, nx))  (kk : AW M nx ls (vl (x - y) :: st) mem Q) : AW M pc ls (vl y :: vl x :: st) mem Q := by
  intro p l e s m args below meth c E H locs la C hl hP hD hS
  obtain ⟨hx, hb, hr, hml, hown, hts, hlk, hK, hN⟩ := id C
  obtain ⟨hdg, rfl⟩ := zdec hM hd
  have kk := kk p l e s m args below meth c E H locs la C hl hP hD hS
  have kk2 := kk
  simp only [List.map_cons, zcv, Int64.ofInt_sub] at kk2
  exact lv_lsub hx hb hdg kk2
theorem zw_lmul {x y : Int} (hM : zOK M) (hd : zlook (mTbl M) pc = some (.lmul, 1, nx))  (kk : AW M nx ls (vl (x * y) :: st) mem Q) : AW M pc ls (vl y :: vl x :: st) mem Q := by
  intro p l e s m args below meth c E H locs la C hl hP hD hS
  obtain ⟨hx, hb, hr, hml, hown, hts, hlk, hK, hN⟩ := id C
  obtain ⟨hdg, rfl⟩ := zdec hM hd
  have kk := kk p l e s m args below meth c E H locs la C hl hP hD hS
  have kk2 := kk
  simp only [List.map_cons, zcv, Int64.ofInt_mul] at kk2
  exact lv_lmul hx hb hdg kk2
end ZW
def zand (x y : Int) : Int := (Int32.ofInt x &&& Int32.ofInt y).toInt
def zor (x y : Int) : Int := (Int32.ofInt x ||| Int32.ofInt y).toInt
def zxor (x y : Int) : Int := (Int32.ofInt x ^^^ Int32.ofInt y).toInt
def zshl (x y : Int) : Int := (Int32.ofInt x <<< (Int32.ofInt y &&& 31)).toInt
def zshr (x y : Int) : Int := (Int32.ofInt x >>> (Int32.ofInt y &&& 31)).toInt
def zdiv (x y : Int) : Int := (Int32.ofInt x / Int32.ofInt y).toInt
def zrem (x y : Int) : Int := (Int32.ofInt x - Int32.ofInt x / Int32.ofInt y * Int32.ofInt y).toInt
def zi2b (x : Int) : Int := (Int32.ofInt x).toInt8.toInt32.toInt
def zi2s (x : Int) : Int := (Int32.ofInt x).toInt16.toInt32.toInt
def zland (x y : Int) : Int := (Int64.ofInt x &&& Int64.ofInt y).toInt
def zldiv (x y : Int) : Int := (Int64.ofInt x / Int64.ofInt y).toInt
def zlrem (x y : Int) : Int := (Int64.ofInt x - Int64.ofInt x / Int64.ofInt y * Int64.ofInt y).toInt
theorem zof32 (x : Int32) : Int32.ofInt x.toInt = x := by simp
theorem zof64 (x : Int64) : Int64.ofInt x.toInt = x := by simp
theorem zto32 {x : Int} (h : -2147483648 ≤ x ∧ x < 2147483648) : (Int32.ofInt x).toInt = x := by
  rw [Int32.toInt_ofInt]
  have e : (Int32.size : Int) = 4294967296 := rfl
  exact Int.bmod_eq_of_le (by omega) (by omega)
theorem zto64 {x : Int} (h : -9223372036854775808 ≤ x ∧ x < 9223372036854775808) : (Int64.ofInt x).toInt = x := by
  rw [Int64.toInt_ofInt]
  have e : (Int64.size : Int) = 18446744073709551616 := rfl
  exact Int.bmod_eq_of_le (by omega) (by omega)
theorem zne0 {y : Int} (h : -2147483648 ≤ y ∧ y < 2147483648) (h0 : y ≠ 0) : ¬ Int32.ofInt y = 0 := fun q => by
  have := congrArg Int32.toInt q
  rw [zto32 h] at this
  exact h0 (by simpa using this)
theorem zne0l {y : Int} (h : -9223372036854775808 ≤ y ∧ y < 9223372036854775808) (h0 : y ≠ 0) : ¬ Int64.ofInt y = 0 := fun q => by
  have := congrArg Int64.toInt q
  rw [zto64 h] at this
  exact h0 (by simpa using this)
section ZW2
variable {M : zMth} {pc nx : Nat} {ls : zLs} {st : List zVal} {mem : zMem} {Q : Option zVal → zMem → Prop}
theorem zw_iand {x y : Int} (hM : zOK M) (hd : zlook (mTbl M) pc = some (.iand, 1, nx))  (kk : AW M nx ls (vi (zand x y) :: st) mem Q) : AW M pc ls (vi y :: vi x :: st) mem Q := by
  intro p l e s m args below meth c E H locs la C hl hP hD hS
  obtain ⟨hx, hb, hr, hml, hown, hts, hlk, hK, hN⟩ := id C
  obtain ⟨hdg, rfl⟩ := zdec hM hd
  have kk := kk p l e s m args below meth c E H locs la C hl hP hD hS
  have kk2 := kk
  simp only [List.map_cons, zcv, zand, zof32] at kk2
  exact lv_iand hx hb hdg kk2
theorem zw_ior {x y : Int} (hM : zOK M) (hd : zlook (mTbl M) pc = some (.ior, 1, nx))  (kk : AW M nx ls (vi (zor x y) :: st) mem Q) : AW M pc ls (vi y :: vi x :: st) mem Q := by
  intro p l e s m args below meth c E H locs la C hl hP hD hS
  obtain ⟨hx, hb, hr, hml, hown, hts, hlk, hK, hN⟩ := id C
  obtain ⟨hdg, rfl⟩ := zdec hM hd
  have kk := kk p l e s m args below meth c E H locs la C hl hP hD hS
  have kk2 := kk
  simp only [List.map_cons, zcv, zor, zof32] at kk2
  exact lv_ior hx hb hdg kk2
theorem zw_ixor {x y : Int} (hM : zOK M) (hd : zlook (mTbl M) pc = some (.ixor, 1, nx))  (kk : AW M nx ls (vi (zxor x y) :: st) mem Q) : AW M pc ls (vi y :: vi x :: st) mem Q := by
  intro p l e s m args below meth c E H locs la C hl hP hD hS
  obtain ⟨hx, hb, hr, hml, hown, hts, hlk, hK, hN⟩ := id C
  obtain ⟨hdg, rfl⟩ := zdec hM hd
  have kk := kk p l e s m args below meth c E H locs la C hl hP hD hS
  have kk2 := kk
  simp only [List.map_cons, zcv, zxor, zof32] at kk2
  exact lv_ixor hx hb hdg kk2
theorem zw_ishl {x y : Int} (hM : zOK M) (hd : zlook (mTbl M) pc = some (.ishl, 1, nx))  (kk : AW M nx ls (vi (zshl x y) :: st) mem Q) : AW M pc ls (vi y :: vi x :: st) mem Q := by
  intro p l e s m args below meth c E H locs la C hl hP hD hS
  obtain ⟨hx, hb, hr, hml, hown, hts, hlk, hK, hN⟩ := id C
  obtain ⟨hdg, rfl⟩ := zdec hM hd
  have kk := kk p l e s m args below meth c E H locs la C hl hP hD hS
  have kk2 := kk
  simp only [List.map_cons, zcv, zshl, zof32] at kk2
  exact lv_ishl hx hb hdg kk2
theorem zw_ishr {x y : Int} (hM : zOK M) (hd : zlook (mTbl M) pc = some (.ishr, 1, nx))  (kk : AW M nx ls (vi (zshr x y) :: st) mem Q) : AW M pc ls (vi y :: vi x :: st) mem Q := by
  intro p l e s m args below meth c E H locs la C hl hP hD hS
  obtain ⟨hx, hb, hr, hml, hown, hts, hlk, hK, hN⟩ := id C
  obtain ⟨hdg, rfl⟩ := zdec hM hd
  have kk := kk p l e s m args below meth c E H locs la C hl hP hD hS
  have kk2 := kk
  simp only [List.map_cons, zcv, zshr, zof32] at kk2
  exact lv_ishr hx hb hdg kk2
theorem zw_idiv {x y : Int} (hM : zOK M) (hd : zlook (mTbl M) pc = some (.idiv, 1, nx)) (hy : (-2147483648 ≤ y ∧ y < 2147483648) ∧ y ≠ 0) (kk : AW M nx ls (vi (zdiv x y) :: st) mem Q) : AW M pc ls (vi y :: vi x :: st) mem Q := by
  intro p l e s m args below meth c E H locs la C hl hP hD hS
  obtain ⟨hx, hb, hr, hml, hown, hts, hlk, hK, hN⟩ := id C
  obtain ⟨hdg, rfl⟩ := zdec hM hd
  have kk := kk p l e s m args below meth c E H locs la C hl hP hD hS
  have kk2 := kk
  simp only [List.map_cons, zcv, zdiv, zof32] at kk2
  exact lv_idiv hx hb hdg (zne0 hy.1 hy.2) kk2
theorem zw_irem {x y : Int} (hM : zOK M) (hd : zlook (mTbl M) pc = some (.irem, 1, nx)) (hy : (-2147483648 ≤ y ∧ y < 2147483648) ∧ y ≠ 0) (kk : AW M nx ls (vi (zrem x y) :: st) mem Q) : AW M pc ls (vi y :: vi x :: st) mem Q := by
  intro p l e s m args below meth c E H locs la C hl hP hD hS
  obtain ⟨hx, hb, hr, hml, hown, hts, hlk, hK, hN⟩ := id C
  obtain ⟨hdg, rfl⟩ := zdec hM hd
  have kk := kk p l e s m args below meth c E H locs la C hl hP hD hS
  have kk2 := kk
  simp only [List.map_cons, zcv, zrem, zof32] at kk2
  exact lv_irem hx hb hdg (zne0 hy.1 hy.2) kk2
theorem zw_ldiv {x y : Int} (hM : zOK M) (hd : zlook (mTbl M) pc = some (.ldiv, 1, nx)) (hy : (-9223372036854775808 ≤ y ∧ y < 9223372036854775808) ∧ y ≠ 0) (kk : AW M nx ls (vl (zldiv x y) :: st) mem Q) : AW M pc ls (vl y :: vl x :: st) mem Q := by
  intro p l e s m args below meth c E H locs la C hl hP hD hS
  obtain ⟨hx, hb, hr, hml, hown, hts, hlk, hK, hN⟩ := id C
  obtain ⟨hdg, rfl⟩ := zdec hM hd
  have kk := kk p l e s m args below meth c E H locs la C hl hP hD hS
  have kk2 := kk
  simp only [List.map_cons, zcv, zldiv, zof64] at kk2
  exact lv_ldiv hx hb hdg (zne0l hy.1 hy.2) kk2
theorem zw_lrem {x y : Int} (hM : zOK M) (hd : zlook (mTbl M) pc = some (.lrem, 1, nx)) (hy : (-9223372036854775808 ≤ y ∧ y < 9223372036854775808) ∧ y ≠ 0) (kk : AW M nx ls (vl (zlrem x y) :: st) mem Q) : AW M pc ls (vl y :: vl x :: st) mem Q := by
  intro p l e s m args below meth c E H locs la C hl hP hD hS
  obtain ⟨hx, hb, hr, hml, hown, hts, hlk, hK, hN⟩ := id C
  obtain ⟨hdg, rfl⟩ := zdec hM hd
  have kk := kk p l e s m args below meth c E H locs la C hl hP hD hS
  have kk2 := kk
  simp only [List.map_cons, zcv, zlrem, zof64] at kk2
  exact lv_lrem hx hb hdg (zne0l hy.1 hy.2) kk2
theorem zw_land {x y : Int} (hM : zOK M) (hd : zlook (mTbl M) pc = some (.land, 1, nx))  (kk : AW M nx ls (vl (zland x y) :: st) mem Q) : AW M pc ls (vl y :: vl x :: st) mem Q := by
  intro p l e s m args below meth c E H locs la C hl hP hD hS
  obtain ⟨hx, hb, hr, hml, hown, hts, hlk, hK, hN⟩ := id C
  obtain ⟨hdg, rfl⟩ := zdec hM hd
  have kk := kk p l e s m args below meth c E H locs la C hl hP hD hS
  have kk2 := kk
  simp only [List.map_cons, zcv, zland, zof64] at kk2
  exact lv_land hx hb hdg kk2
theorem zw_i2b {x : Int} (hM : zOK M) (hd : zlook (mTbl M) pc = some (.i2b, 1, nx))  (kk : AW M nx ls (vi (zi2b x) :: st) mem Q) : AW M pc ls (vi x :: st) mem Q := by
  intro p l e s m args below meth c E H locs la C hl hP hD hS
  obtain ⟨hx, hb, hr, hml, hown, hts, hlk, hK, hN⟩ := id C
  obtain ⟨hdg, rfl⟩ := zdec hM hd
  have kk := kk p l e s m args below meth c E H locs la C hl hP hD hS
  have kk2 := kk
  simp only [List.map_cons, zcv, zi2b, zof32] at kk2
  exact lv_i2b hx hb hdg rfl kk2
theorem zw_i2s {x : Int} (hM : zOK M) (hd : zlook (mTbl M) pc = some (.i2s, 1, nx))  (kk : AW M nx ls (vi (zi2s x) :: st) mem Q) : AW M pc ls (vi x :: st) mem Q := by
  intro p l e s m args below meth c E H locs la C hl hP hD hS
  obtain ⟨hx, hb, hr, hml, hown, hts, hlk, hK, hN⟩ := id C
  obtain ⟨hdg, rfl⟩ := zdec hM hd
  have kk := kk p l e s m args below meth c E H locs la C hl hP hD hS
  have kk2 := kk
  simp only [List.map_cons, zcv, zi2s, zof32] at kk2
  exact lv_i2s hx hb hdg rfl kk2
theorem zw_i2l {x : Int} (hM : zOK M) (hd : zlook (mTbl M) pc = some (.i2l, 1, nx)) (hq : -2147483648 ≤ x ∧ x < 2147483648) (kk : AW M nx ls (vl x :: st) mem Q) : AW M pc ls (vi x :: st) mem Q := by
  intro p l e s m args below meth c E H locs la C hl hP hD hS
  obtain ⟨hx, hb, hr, hml, hown, hts, hlk, hK, hN⟩ := id C
  obtain ⟨hdg, rfl⟩ := zdec hM hd
  have kk := kk p l e s m args below meth c E H locs la C hl hP hD hS
  exact lv_i2l hx hb hdg (by apply Int64.toInt_inj.mp; rw [Int32.toInt_toInt64, zto32 hq, zto64 (by omega)]) kk
theorem zw_lcmp {x y : Int} (hM : zOK M) (hd : zlook (mTbl M) pc = some (.lcmp, 1, nx)) (hq : (-9223372036854775808 ≤ x ∧ x < 9223372036854775808) ∧ (-9223372036854775808 ≤ y ∧ y < 9223372036854775808)) (kk : AW M nx ls (vi (if x < y then -1 else if x = y then 0 else 1) :: st) mem Q) : AW M pc ls (vl y :: vl x :: st) mem Q := by
  intro p l e s m args below meth c E H locs la C hl hP hD hS
  obtain ⟨hx, hb, hr, hml, hown, hts, hlk, hK, hN⟩ := id C
  obtain ⟨hdg, rfl⟩ := zdec hM hd
  have kk := kk p l e s m args below meth c E H locs la C hl hP hD hS
  have e1 : Int32.ofInt (if x < y then -1 else if x = y then 0 else 1) = lg_cmp (Int64.ofInt x) (Int64.ofInt y) := by
    have q1 : Int64.ofInt y < Int64.ofInt x ↔ y < x := by rw [Int64.lt_iff_toInt_lt, zto64 hq.1, zto64 hq.2]
    have q2 : Int64.ofInt x = Int64.ofInt y ↔ x = y := by rw [← Int64.toInt_inj, zto64 hq.1, zto64 hq.2]
    unfold lg_cmp
    simp only [q1, q2]
    by_cases h1 : x < y
    · rw [if_pos h1, if_neg (by omega), if_neg (by omega)]; rfl
    · by_cases h2 : x = y
      · rw [if_neg h1, if_pos h2, if_neg (by omega), if_pos h2]; rfl
      · rw [if_neg h1, if_neg h2, if_pos (by omega)]; rfl
  have kk2 := kk
  simp only [List.map_cons, zcv] at kk2
  rw [e1] at kk2
  exact W.lcmp hx hb hdg kk2
theorem zw_dupi {x : Int} (hM : zOK M) (hd : zlook (mTbl M) pc = some (.dup, 1, nx))  (kk : AW M nx ls (vi x :: vi x :: st) mem Q) : AW M pc ls (vi x :: st) mem Q := by
  intro p l e s m args below meth c E H locs la C hl hP hD hS
  obtain ⟨hx, hb, hr, hml, hown, hts, hlk, hK, hN⟩ := id C
  obtain ⟨hdg, rfl⟩ := zdec hM hd
  have kk := kk p l e s m args below meth c E H locs la C hl hP hD hS
  exact lv_dup hx hb hdg rfl kk
theorem zw_dupr {x : Nat} (hM : zOK M) (hd : zlook (mTbl M) pc = some (.dup, 1, nx))  (kk : AW M nx ls (vr x :: vr x :: st) mem Q) : AW M pc ls (vr x :: st) mem Q := by
  intro p l e s m args below meth c E H locs la C hl hP hD hS
  obtain ⟨hx, hb, hr, hml, hown, hts, hlk, hK, hN⟩ := id C
  obtain ⟨hdg, rfl⟩ := zdec hM hd
  have kk := kk p l e s m args below meth c E H locs la C hl hP hD hS
  exact lv_dup hx hb hdg rfl kk
theorem zw_popi {x : Int} (hM : zOK M) (hd : zlook (mTbl M) pc = some (.pop, 1, nx))  (kk : AW M nx ls (st) mem Q) : AW M pc ls (vi x :: st) mem Q := by
  intro p l e s m args below meth c E H locs la C hl hP hD hS
  obtain ⟨hx, hb, hr, hml, hown, hts, hlk, hK, hN⟩ := id C
  obtain ⟨hdg, rfl⟩ := zdec hM hd
  have kk := kk p l e s m args below meth c E H locs la C hl hP hD hS
  exact lv_pop hx hb hdg rfl kk
theorem zw_dup2 {x : Int} {y : Nat} (hM : zOK M) (hd : zlook (mTbl M) pc = some (.dup2, 1, nx))  (kk : AW M nx ls (vi x :: vr y :: vi x :: vr y :: st) mem Q) : AW M pc ls (vi x :: vr y :: st) mem Q := by
  intro p l e s m args below meth c E H locs la C hl hP hD hS
  obtain ⟨hx, hb, hr, hml, hown, hts, hlk, hK, hN⟩ := id C
  obtain ⟨hdg, rfl⟩ := zdec hM hd
  have kk := kk p l e s m args below meth c E H locs la C hl hP hD hS
  exact lv_dup2_11 hx hb hdg rfl rfl kk
theorem zw_goto {off : Int} (tgt : Nat) (hM : zOK M) (hd : zlook (mTbl M) pc = some (.goto off, 3, nx)) (ht : (pc : Int) + off = (tgt : Int)) (kk : AW M tgt ls st mem Q) : AW M pc ls st mem Q := by
  intro p l e s m args below meth c E H locs la C hl hP hD hS
  obtain ⟨hx, hb, hr, hml, hown, hts, hlk, hK, hN⟩ := id C
  exact lv_goto hx hb (zdec hM hd).1 ht (kk p l e s m args below meth c E H locs la C hl hP hD hS)
theorem zw_icmp_eq {x y : Int} {off : Int} (tgt : Nat) (hM : zOK M) (hd : zlook (mTbl M) pc = some (.if_icmp .eq off, 3, nx)) (ht : (pc : Int) + off = (tgt : Int)) (hq : (-2147483648 ≤ x ∧ x < 2147483648) ∧ (-2147483648 ≤ y ∧ y < 2147483648)) (kt : x = y → AW M tgt ls st mem Q) (kf : ¬ (x = y) → AW M nx ls st mem Q) : AW M pc ls (vi y :: vi x :: st) mem Q := by
  intro p l e s m args below meth c E H locs la C hl hP hD hS
  obtain ⟨hx, hb, hr, hml, hown, hts, hlk, hK, hN⟩ := id C
  obtain ⟨hdg, rfl⟩ := zdec hM hd
  have e1 : (Int32.ofInt x = Int32.ofInt y) ↔ (x = y) := by rw [← Int32.toInt_inj, zto32 hq.1, zto32 hq.2]
  exact lv_icmp_eq hx hb hdg ht (fun h => kt (e1.mp h) p l e s m args below meth c E H locs la C hl hP hD hS) (fun h => kf (fun q => h (e1.mpr q)) p l e s m args below meth c E H locs la C hl hP hD hS)
theorem zw_if_eq {x : Int} {off : Int} (tgt : Nat) (hM : zOK M) (hd : zlook (mTbl M) pc = some (.ifCond .eq off, 3, nx)) (ht : (pc : Int) + off = (tgt : Int)) (hq : (-2147483648 ≤ x ∧ x < 2147483648)) (kt : x = 0 → AW M tgt ls st mem Q) (kf : ¬ (x = 0) → AW M nx ls st mem Q) : AW M pc ls (vi x :: st) mem Q := by
  intro p l e s m args below meth c E H locs la C hl hP hD hS
  obtain ⟨hx, hb, hr, hml, hown, hts, hlk, hK, hN⟩ := id C
  obtain ⟨hdg, rfl⟩ := zdec hM hd
  have e1 : (Int32.ofInt x = (0 : Int32)) ↔ (x = 0) := by rw [← Int32.toInt_inj, zto32 hq, Int32.toInt_zero]
  exact lv_if_eq hx hb hdg ht (fun h => kt (e1.mp h) p l e s m args below meth c E H locs la C hl hP hD hS) (fun h => kf (fun q => h (e1.mpr q)) p l e s m args below meth c E H locs la C hl hP hD hS)
theorem zw_icmp_ne {x y : Int} {off : Int} (tgt : Nat) (hM : zOK M) (hd : zlook (mTbl M) pc = some (.if_icmp .ne off, 3, nx)) (ht : (pc : Int) + off = (tgt : Int)) (hq : (-2147483648 ≤ x ∧ x < 2147483648) ∧ (-2147483648 ≤ y ∧ y < 2147483648)) (kt : ¬ x = y → AW M tgt ls st mem Q) (kf : x = y → AW M nx ls st mem Q) : AW M pc ls (vi y :: vi x :: st) mem Q := by
  intro p l e s m args below meth c E H locs la C hl hP hD hS
  obtain ⟨hx, hb, hr, hml, hown, hts, hlk, hK, hN⟩ := id C
  obtain ⟨hdg, rfl⟩ := zdec hM hd
  have e1 : (¬ Int32.ofInt x = Int32.ofInt y) ↔ (¬ x = y) := by rw [← Int32.toInt_inj, zto32 hq.1, zto32 hq.2]
  exact lv_icmp_ne hx hb hdg ht (fun h => kt (e1.mp h) p l e s m args below meth c E H locs la C hl hP hD hS) (fun h => kf (Decidable.of_not_not (fun q => (e1.mpr q) h)) p l e s m args below meth c E H locs la C hl hP hD hS)
theorem zw_if_ne {x : Int} {off : Int} (tgt : Nat) (hM : zOK M) (hd : zlook (mTbl M) pc = some (.ifCond .ne off, 3, nx)) (ht : (pc : Int) + off = (tgt : Int)) (hq : (-2147483648 ≤ x ∧ x < 2147483648)) (kt : ¬ x = 0 → AW M tgt ls st mem Q) (kf : x = 0 → AW M nx ls st mem Q) : AW M pc ls (vi x :: st) mem Q := by
  intro p l e s m args below meth c E H locs la C hl hP hD hS
  obtain ⟨hx, hb, hr, hml, hown, hts, hlk, hK, hN⟩ := id C
  obtain ⟨hdg, rfl⟩ := zdec hM hd
  have e1 : (¬ Int32.ofInt x = (0 : Int32)) ↔ (¬ x = 0) := by rw [← Int32.toInt_inj, zto32 hq, Int32.toInt_zero]
  exact lv_if_ne hx hb hdg ht (fun h => kt (e1.mp h) p l e s m args below meth c E H locs la C hl hP hD hS) (fun h => kf (Decidable.of_not_not (fun q => (e1.mpr q) h)) p l e s m args below meth c E H locs la C hl hP hD hS)
theorem zw_icmp_lt {x y : Int} {off : Int} (tgt : Nat) (hM : zOK M) (hd : zlook (mTbl M) pc = some (.if_icmp .lt off, 3, nx)) (ht : (pc : Int) + off = (tgt : Int)) (hq : (-2147483648 ≤ x ∧ x < 2147483648) ∧ (-2147483648 ≤ y ∧ y < 2147483648)) (kt : x < y → AW M tgt ls st mem Q) (kf : ¬ (x < y) → AW M nx ls st mem Q) : AW M pc ls (vi y :: vi x :: st) mem Q := by
  intro p l e s m args below meth c E H locs la C hl hP hD hS
  obtain ⟨hx, hb, hr, hml, hown, hts, hlk, hK, hN⟩ := id C
  obtain ⟨hdg, rfl⟩ := zdec hM hd
  have e1 : (Int32.ofInt x < Int32.ofInt y) ↔ (x < y) := by rw [Int32.lt_iff_toInt_lt, zto32 hq.1, zto32 hq.2]
  exact lv_icmp_lt hx hb hdg ht (fun h => kt (e1.mp h) p l e s m args below meth c E H locs la C hl hP hD hS) (fun h => kf (fun q => h (e1.mpr q)) p l e s m args below meth c E H locs la C hl hP hD hS)
theorem zw_if_lt {x : Int} {off : Int} (tgt : Nat) (hM : zOK M) (hd : zlook (mTbl M) pc = some (.ifCond .lt off, 3, nx)) (ht : (pc : Int) + off = (tgt : Int)) (hq : (-2147483648 ≤ x ∧ x < 2147483648)) (kt : x < 0 → AW M tgt ls st mem Q) (kf : ¬ (x < 0) → AW M nx ls st mem Q) : AW M pc ls (vi x :: st) mem Q := by
  intro p l e s m args below meth c E H locs la C hl hP hD hS
  obtain ⟨hx, hb, hr, hml, hown, hts, hlk, hK, hN⟩ := id C
  obtain ⟨hdg, rfl⟩ := zdec hM hd
  have e1 : (Int32.ofInt x < (0 : Int32)) ↔ (x < 0) := by rw [Int32.lt_iff_toInt_lt, zto32 hq, Int32.toInt_zero]
  exact lv_if_lt hx hb hdg ht (fun h => kt (e1.mp h) p l e s m args below meth c E H locs la C hl hP hD hS) (fun h => kf (fun q => h (e1.mpr q)) p l e s m args below meth c E H locs la C hl hP hD hS)
theorem zw_icmp_ge {x y : Int} {off : Int} (tgt : Nat) (hM : zOK M) (hd : zlook (mTbl M) pc = some (.if_icmp .ge off, 3, nx)) (ht : (pc : Int) + off = (tgt : Int)) (hq : (-2147483648 ≤ x ∧ x < 2147483648) ∧ (-2147483648 ≤ y ∧ y < 2147483648)) (kt : y ≤ x → AW M tgt ls st mem Q) (kf : ¬ (y ≤ x) → AW M nx ls st mem Q) : AW M pc ls (vi y :: vi x :: st) mem Q := by
  intro p l e s m args below meth c E H locs la C hl hP hD hS
  obtain ⟨hx, hb, hr, hml, hown, hts, hlk, hK, hN⟩ := id C
  obtain ⟨hdg, rfl⟩ := zdec hM hd
  have e1 : (Int32.ofInt y ≤ Int32.ofInt x) ↔ (y ≤ x) := by rw [Int32.le_iff_toInt_le, zto32 hq.1, zto32 hq.2]
  exact lv_icmp_ge hx hb hdg ht (fun h => kt (e1.mp h) p l e s m args below meth c E H locs la C hl hP hD hS) (fun h => kf (fun q => h (e1.mpr q)) p l e s m args below meth c E H locs la C hl hP hD hS)
theorem zw_if_ge {x : Int} {off : Int} (tgt : Nat) (hM : zOK M) (hd : zlook (mTbl M) pc = some (.ifCond .ge off, 3, nx)) (ht : (pc : Int) + off = (tgt : Int)) (hq : (-2147483648 ≤ x ∧ x < 2147483648)) (kt : 0 ≤ x → AW M tgt ls st mem Q) (kf : ¬ (0 ≤ x) → AW M nx ls st mem Q) : AW M pc ls (vi x :: st) mem Q := by
  intro p l e s m args below meth c E H locs la C hl hP hD hS
  obtain ⟨hx, hb, hr, hml, hown, hts, hlk, hK, hN⟩ := id C
  obtain ⟨hdg, rfl⟩ := zdec hM hd
  have e1 : ((0 : Int32) ≤ Int32.ofInt x) ↔ (0 ≤ x) := by rw [Int32.le_iff_toInt_le, zto32 hq, Int32.toInt_zero]
  exact lv_if_ge hx hb hdg ht (fun h => kt (e1.mp h) p l e s m args below meth c E H locs la C hl hP hD hS) (fun h => kf (fun q => h (e1.mpr q)) p l e s m args below meth c E H locs la C hl hP hD hS)
theorem zw_icmp_gt {x y : Int} {off : Int} (tgt : Nat) (hM : zOK M) (hd : zlook (mTbl M) pc = some (.if_icmp .gt off, 3, nx)) (ht : (pc : Int) + off = (tgt : Int)) (hq : (-2147483648 ≤ x ∧ x < 2147483648) ∧ (-2147483648 ≤ y ∧ y < 2147483648)) (kt : y < x → AW M tgt ls st mem Q) (kf : ¬ (y < x) → AW M nx ls st mem Q) : AW M pc ls (vi y :: vi x :: st) mem Q := by
  intro p l e s m args below meth c E H locs la C hl hP hD hS
  obtain ⟨hx, hb, hr, hml, hown, hts, hlk, hK, hN⟩ := id C
  obtain ⟨hdg, rfl⟩ := zdec hM hd
  have e1 : (Int32.ofInt y < Int32.ofInt x) ↔ (y < x) := by rw [Int32.lt_iff_toInt_lt, zto32 hq.1, zto32 hq.2]
  exact lv_icmp_gt hx hb hdg ht (fun h => kt (e1.mp h) p l e s m args below meth c E H locs la C hl hP hD hS) (fun h => kf (fun q => h (e1.mpr q)) p l e s m args below meth c E H locs la C hl hP hD hS)
theorem zw_if_gt {x : Int} {off : Int} (tgt : Nat) (hM : zOK M) (hd : zlook (mTbl M) pc = some (.ifCond .gt off, 3, nx)) (ht : (pc : Int) + off = (tgt : Int)) (hq : (-2147483648 ≤ x ∧ x < 2147483648)) (kt : 0 < x → AW M tgt ls st mem Q) (kf : ¬ (0 < x) → AW M nx ls st mem Q) : AW M pc ls (vi x :: st) mem Q := by
  intro p l e s m args below meth c E H locs la C hl hP hD hS
  obtain ⟨hx, hb, hr, hml, hown, hts, hlk, hK, hN⟩ := id C
  obtain ⟨hdg, rfl⟩ := zdec hM hd
  have e1 : ((0 : Int32) < Int32.ofInt x) ↔ (0 < x) := by rw [Int32.lt_iff_toInt_lt, zto32 hq, Int32.toInt_zero]
  exact lv_if_gt hx hb hdg ht (fun h => kt (e1.mp h) p l e s m args below meth c E H locs la C hl hP hD hS) (fun h => kf (fun q => h (e1.mpr q)) p l e s m args below meth c E H locs la C hl hP hD hS)
theorem zw_icmp_le {x y : Int} {off : Int} (tgt : Nat) (hM : zOK M) (hd : zlook (mTbl M) pc = some (.if_icmp .le off, 3, nx)) (ht : (pc : Int) + off = (tgt : Int)) (hq : (-2147483648 ≤ x ∧ x < 2147483648) ∧ (-2147483648 ≤ y ∧ y < 2147483648)) (kt : x ≤ y → AW M tgt ls st mem Q) (kf : ¬ (x ≤ y) → AW M nx ls st mem Q) : AW M pc ls (vi y :: vi x :: st) mem Q := by
  intro p l e s m args below meth c E H locs la C hl hP hD hS
  obtain ⟨hx, hb, hr, hml, hown, hts, hlk, hK, hN⟩ := id C
  obtain ⟨hdg, rfl⟩ := zdec hM hd
  have e1 : (Int32.ofInt x ≤ Int32.ofInt y) ↔ (x ≤ y) := by rw [Int32.le_iff_toInt_le, zto32 hq.1, zto32 hq.2]
  exact lv_icmp_le hx hb hdg ht (fun h => kt (e1.mp h) p l e s m args below meth c E H locs la C hl hP hD hS) (fun h => kf (fun q => h (e1.mpr q)) p l e s m args below meth c E H locs la C hl hP hD hS)
theorem zw_if_le {x : Int} {off : Int} (tgt : Nat) (hM : zOK M) (hd : zlook (mTbl M) pc = some (.ifCond .le off, 3, nx)) (ht : (pc : Int) + off = (tgt : Int)) (hq : (-2147483648 ≤ x ∧ x < 2147483648)) (kt : x ≤ 0 → AW M tgt ls st mem Q) (kf : ¬ (x ≤ 0) → AW M nx ls st mem Q) : AW M pc ls (vi x :: st) mem Q := by
  intro p l e s m args below meth c E H locs la C hl hP hD hS
  obtain ⟨hx, hb, hr, hml, hown, hts, hlk, hK, hN⟩ := id C
  obtain ⟨hdg, rfl⟩ := zdec hM hd
  have e1 : (Int32.ofInt x ≤ (0 : Int32)) ↔ (x ≤ 0) := by rw [Int32.le_iff_toInt_le, zto32 hq, Int32.toInt_zero]
  exact lv_if_le hx hb hdg ht (fun h => kt (e1.mp h) p l e s m args below meth c E H locs la C hl hP hD hS) (fun h => kf (fun q => h (e1.mpr q)) p l e s m args below meth c E H locs la C hl hP hD hS)
end ZW2
end
section
/-! ===== cells, answers, calls over the abstract machine ===== -/
theorem zIn_all : ∀ q ∈ vwCl, ∀ w ∈ u_ws q.1 q.2.1 q.2.2, w ∈ lw_tbl ∧ goodWord w = true := by decide +kernel
theorem zIn {ci : Nat} {C : String} {T : u_T} {N : Nat} (hc : vwCl[ci]? = some (C, T, N)) : ∀ w ∈ u_ws C T N, w ∈ zALL := fun w hw => by
  have h := zIn_all _ (List.mem_of_getElem? hc) w hw
  exact zmem_ALL h.1 h.2
def zTyp (q : vw_C) : Prop := ∃ ty : Nat → FieldType, (∀ k, k < q.2.2 → parseFieldDescriptor (q.2.1 k).2.2.1 = some (ty k)) ∧ ∀ a, a < q.2.2 → ∀ b, b < q.2.2 → a ≠ b → (q.2.1 a).2.1 ≠ (q.2.1 b).2.1
theorem zTyp_all : ∀ q ∈ vwCl, zTyp q := by
  intro q hq
  simp only [vwCl, List.mem_cons, List.not_mem_nil, or_false] at hq
  rcases hq with rfl | rfl | rfl | rfl | rfl | rfl | rfl | rfl | rfl | rfl | rfl | rfl
  · exact ⟨_, tyX0_ok, nmX0⟩
  · exact ⟨_, tyX1_ok, nmX1⟩
  · exact ⟨_, tyX2_ok, nmX2⟩
  · exact ⟨_, tyX3_ok, nmX3⟩
  · exact ⟨_, tyX4_ok, nmX4⟩
  · exact ⟨_, tyX5_ok, nmX5⟩
  · exact ⟨_, tyX6_ok, nmX6⟩
  · exact ⟨_, tyX7_ok, nmX7⟩
  · exact ⟨_, tyX8_ok, nmX8⟩
  · exact ⟨_, tyX9_ok, nmX9⟩
  · exact ⟨_, tyX10_ok, nmX10⟩
  · exact ⟨_, tyX11_ok, nmX11⟩
/-- a field by its pool entry: class ci, place j -/
def zFL (own : String) (idx ci j : Nat) (ji : Int) : Prop := ji = (j : Int) ∧ ∃ (C : String) (T : u_T) (N : Nat), vwCl[ci]? = some (C, T, N) ∧ j < N ∧ Cond.fieldLink own idx (T j).1 (T j).2.1 (T j).2.2.1 ∈ zALL
def zFP (own : String) (idx ci j : Nat) (ji : Int) (ty : FieldType) : Prop := ji = (j : Int) ∧ ∃ (C : String) (T : u_T) (N : Nat), vwCl[ci]? = some (C, T, N) ∧ j < N ∧ Cond.fieldLink own idx (T j).1 (T j).2.1 (T j).2.2.1 ∈ zALL ∧ (T j).2.2.2 = false ∧ parseFieldDescriptor (T j).2.2.1 = some ty
theorem zidx {i : Int} {n : Nat} (h : 0 ≤ i ∧ i < (n : Int)) (hn : n ≤ 1000) : vp_in (Int32.ofInt i) n ∧ (Int32.ofInt i).toNatClampNeg = i.toNat := by
  have e : (Int32.ofInt i).toInt = i := zto32 (by omega)
  refine ⟨vp_in_iff.mpr (by rw [e]; exact h), ?_⟩
  show (Int32.ofInt i).toInt.toNat = i.toNat
  rw [e]
theorem zE0 {E : zEnv} {k n : Nat} {fs : List (Option Nat)} {f : Int → Int} (h : zrow k = (0, n, fs)) : zE E (zrow k) f = .inl (E.2.1.1, n, .inl (fun j => Int32.ofInt (f j))) := by rw [h]; rfl
theorem zE1 {E : zEnv} {k n : Nat} {fs : List (Option Nat)} {f : Int → Int} (h : zrow k = (1, n, fs)) : zE E (zrow k) f = .inl (E.2.1.2.1, n, .inr (.inl (fun j => Int64.ofInt (f j)))) := by rw [h]; rfl
theorem zE2 {E : zEnv} {k n : Nat} {fs : List (Option Nat)} {f : Int → Int} (h : zrow k = (2, n, fs)) : zE E (zrow k) f = .inl (E.2.1.2.2, n, .inr (.inr (.inr (.inr (fun j => (fs.getD j none).map E.2.2))))) := by rw [h]; rfl
theorem zE3 {E : zEnv} {k n : Nat} {fs : List (Option Nat)} {f : Int → Int} (h : zrow k = (3, n, fs)) : zE E (zrow k) f = .inr (n, zF E.2.2 f 0 fs) := by rw [h]; rfl
def zcat : List zVal → Nat
  | [] => 0
  | .inl _ :: t => zcat t + 1
  | .inr (.inl _) :: t => zcat t + 2
  | .inr (.inr _) :: t => zcat t + 1
theorem zcat_eq (E : zEnv) : ∀ st : List zVal, ((st.map (zcv E)).map fun v => v.category).sum = zcat st
  | [] => rfl
  | .inl _ :: t => by simp [zcv, Value.category, zcat, ← zcat_eq E t, Nat.add_comm]
  | .inr (.inl _) :: t => by simp [zcv, Value.category, zcat, ← zcat_eq E t, Nat.add_comm]
  | .inr (.inr _) :: t => by simp [zcv, Value.category, zcat, ← zcat_eq E t, Nat.add_comm]
def zushr (x y : Int) : Int := ((Int32.ofInt x).toUInt32 >>> ((Int32.ofInt y).toUInt32 &&& Int32.toUInt32 31)).toInt32.toInt
def zlshl (x y : Int) : Int := (Int64.ofInt x <<< ((Int32.ofInt y).toInt64 &&& 63)).toInt
def zlshr (x y : Int) : Int := (Int64.ofInt x >>> ((Int32.ofInt y).toInt64 &&& 63)).toInt
def zcpy (f g : Int → Int) (sp dp n : Int) : Int → Int := fun j => if dp ≤ j ∧ j < dp + n then f (sp + (j - dp)) else g j
section ZC
variable {M : zMth} {pc nx : Nat} {ls : zLs} {st : List zVal} {mem : zMem} {Q : Option zVal → zMem → Prop}
theorem zw_iushr {x y : Int} (hM : zOK M) (hd : zlook (mTbl M) pc = some (.iushr, 1, nx)) (kk : AW M nx ls (vi (zushr x y) :: st) mem Q) : AW M pc ls (vi y :: vi x :: st) mem Q := by
  intro p l e s m args below meth c E H locs la C hl hP hD hS
  obtain ⟨hx, hb, hr, hml, hown, hts, hlk, hK, hN⟩ := id C
  obtain ⟨hdg, rfl⟩ := zdec hM hd
  exact lv_iushr hx hb hdg (zof32 _).symm (kk p l e s m args below meth c E H locs la C hl hP hD hS)
theorem zw_lshl {x y : Int} (hM : zOK M) (hd : zlook (mTbl M) pc = some (.lshl, 1, nx)) (kk : AW M nx ls (vl (zlshl x y) :: st) mem Q) : AW M pc ls (vi y :: vl x :: st) mem Q := by
  intro p l e s m args below meth c E H locs la C hl hP hD hS
  obtain ⟨hx, hb, hr, hml, hown, hts, hlk, hK, hN⟩ := id C
  obtain ⟨hdg, rfl⟩ := zdec hM hd
  exact lv_lshl hx hb hdg (zof64 _).symm (kk p l e s m args below meth c E H locs la C hl hP hD hS)
theorem zw_lshr {x y : Int} (hM : zOK M) (hd : zlook (mTbl M) pc = some (.lshr, 1, nx)) (kk : AW M nx ls (vl (zlshr x y) :: st) mem Q) : AW M pc ls (vi y :: vl x :: st) mem Q := by
  intro p l e s m args below meth c E H locs la C hl hP hD hS
  obtain ⟨hx, hb, hr, hml, hown, hts, hlk, hK, hN⟩ := id C
  obtain ⟨hdg, rfl⟩ := zdec hM hd
  exact lv_lshr hx hb hdg (zof64 _).symm (kk p l e s m args below meth c E H locs la C hl hP hD hS)
theorem zw_geti {idx ci j k : Nat} {ji : Int} {fs : List (Option Nat)} (hM : zOK M) (hd : zlook (mTbl M) pc = some (.getfield idx, 3, nx)) (hL : zFL (mOwn M) idx ci j ji) (hc : zrow k = (3, ci, fs)) (hj : fs[j]? = some none) (kk : AW M nx ls (vi (mem k ji) :: st) mem Q) : AW M pc ls (vr k :: st) mem Q := by
  intro p l e s m args below meth c E H locs la C hl hP hD hS
  obtain ⟨hx, hb, hr, hml, hown, hts, hlk, hK, hN⟩ := id C
  obtain ⟨hdg, rfl⟩ := zdec hM hd
  obtain ⟨rfl, Cn, T, N, h1, h2, h3⟩ := hL
  have hk := zrow_lt hc (by omega)
  have he := zW_get (E := E) (mem := mem) hk
  rw [zE3 hc] at he
  have hts' : ∀ w ∈ zALL, w.before args s = true := fun w hw => hts w (List.mem_cons_of_mem _ hw)
  refine va_get (v := .int (Int32.ofInt (mem k j))) hx hb hts' (zIn h1) hown hK hP k he h1 j h2 (hts' _ h3) (fun _ h => h) ?_ hdg (kk p l e s m args below meth c E H locs la C hl hP hD hS)
  rw [zF_get, hj]
  simp
theorem zw_getr {idx ci j k k2 : Nat} {ji : Int} {fs : List (Option Nat)} (hM : zOK M) (hd : zlook (mTbl M) pc = some (.getfield idx, 3, nx)) (hL : zFL (mOwn M) idx ci j ji) (hc : zrow k = (3, ci, fs)) (hj : fs[j]? = some (some k2)) (kk : AW M nx ls (vr k2 :: st) mem Q) : AW M pc ls (vr k :: st) mem Q := by
  intro p l e s m args below meth c E H locs la C hl hP hD hS
  obtain ⟨hx, hb, hr, hml, hown, hts, hlk, hK, hN⟩ := id C
  obtain ⟨hdg, rfl⟩ := zdec hM hd
  obtain ⟨rfl, Cn, T, N, h1, h2, h3⟩ := hL
  have hk := zrow_lt hc (by omega)
  have he := zW_get (E := E) (mem := mem) hk
  rw [zE3 hc] at he
  have hts' : ∀ w ∈ zALL, w.before args s = true := fun w hw => hts w (List.mem_cons_of_mem _ hw)
  refine va_get (v := .ref (E.2.2 k2)) hx hb hts' (zIn h1) hown hK hP k he h1 j h2 (hts' _ h3) (fun _ h => h) ?_ hdg (kk p l e s m args below meth c E H locs la C hl hP hD hS)
  rw [zF_get, hj]
  simp
theorem zw_putg {idx ci j k : Nat} {ji x : Int} {fs : List (Option Nat)} {ty : FieldType} (hM : zOK M) (hd : zlook (mTbl M) pc = some (.putfield idx, 3, nx)) (hL : zFP (mOwn M) idx ci j ji ty) (hc : zrow k = (3, ci, fs)) (hj : fs[j]? = some none) (hn : narrow ty (.int (Int32.ofInt x)) = .int (Int32.ofInt x)) (hf : fits ty (.int (Int32.ofInt x)) = true) (kk : AW M nx ls st (zset mem k ji x) Q) : AW M pc ls (vi x :: vr k :: st) mem Q := by
  intro p l e s m args below meth c E H locs la C hl hP hD hS
  obtain ⟨hx, hb, hr, hml, hown, hts, hlk, hK, hN⟩ := id C
  obtain ⟨hdg, rfl⟩ := zdec hM hd
  obtain ⟨rfl, Cn, T, N, h1, h2, h3, h4, h5⟩ := hL
  have hk := zrow_lt hc (by omega)
  have he := zW_get (E := E) (mem := mem) hk
  rw [zE3 hc] at he
  have hts' : ∀ w ∈ zALL, w.before args s = true := fun w hw => hts w (List.mem_cons_of_mem _ hw)
  obtain ⟨ty0, q1, q2⟩ := zTyp_all _ (List.mem_of_getElem? h1)
  refine va_put hx hb hts' (zIn h1) ty0 q1 q2 hown hK hP hD hS k he h1 j h2 (hts' _ h3) (fun _ h => h) h4 h5 hn hf (zF_len _ _ hj) hdg (fun H1 locs1 hP1 hD1 hS1 => ?_)
  have e2 : (zW E mem).set k (E.2.2 k, .inr (ci, (zF E.2.2 (mem k) 0 fs).set j (zcv E (vi x)))) = zW E (zset mem k j x) := zW_set hk (by rw [zE3 hc, ← zF_set _ _ _ hj]; rfl)
  rw [e2] at hP1 hD1
  exact kk p l e s m args below meth c E H1 locs1 la C hl hP1 hD1 hS1
theorem zw_puti {idx ci j k : Nat} {ji x : Int} {fs : List (Option Nat)} (hM : zOK M) (hd : zlook (mTbl M) pc = some (.putfield idx, 3, nx)) (hL : zFP (mOwn M) idx ci j ji .int) (hc : zrow k = (3, ci, fs)) (hj : fs[j]? = some none) (kk : AW M nx ls st (zset mem k ji x) Q) : AW M pc ls (vi x :: vr k :: st) mem Q := zw_putg hM hd hL hc hj rfl rfl kk
theorem zw_putz {idx ci j k : Nat} {ji x : Int} {fs : List (Option Nat)} (hM : zOK M) (hd : zlook (mTbl M) pc = some (.putfield idx, 3, nx)) (hL : zFP (mOwn M) idx ci j ji .boolean) (hc : zrow k = (3, ci, fs)) (hj : fs[j]? = some none) (hz : x = 0 ∨ x = 1) (kk : AW M nx ls st (zset mem k ji x) Q) : AW M pc ls (vi x :: vr k :: st) mem Q := by
  rcases hz with rfl | rfl
  · exact zw_putg hM hd hL hc hj (by decide) (by decide) kk
  · exact zw_putg hM hd hL hc hj (by decide) (by decide) kk
theorem zw_iald {k n : Nat} {i : Int} {fs : List (Option Nat)} (hM : zOK M) (hd : zlook (mTbl M) pc = some (.iaload, 1, nx)) (hc : zrow k = (0, n, fs)) (hi : 0 ≤ i ∧ i < (n : Int)) (kk : AW M nx ls (vi (mem k i) :: st) mem Q) : AW M pc ls (vi i :: vr k :: st) mem Q := by
  intro p l e s m args below meth c E H locs la C hl hP hD hS
  obtain ⟨hx, hb, hr, hml, hown, hts, hlk, hK, hN⟩ := id C
  obtain ⟨hdg, rfl⟩ := zdec hM hd
  have hk := zrow_lt hc (by omega)
  have he := zW_get (E := E) (mem := mem) hk
  rw [zE0 hc] at he
  obtain ⟨g1, g2⟩ := zidx hi (by have := zrow_small hc (by omega); omega)
  have kk := kk p l e s m args below meth c E H locs la C hl hP hD hS
  refine va_iald hx hb hK hP k 0 he rfl g1 hdg ?_
  have e2 : ((i.toNat : Nat) : Int) = i := by omega
  rw [g2, e2]
  exact kk
theorem zw_lald {k n : Nat} {i : Int} {fs : List (Option Nat)} (hM : zOK M) (hd : zlook (mTbl M) pc = some (.laload, 1, nx)) (hc : zrow k = (1, n, fs)) (hi : 0 ≤ i ∧ i < (n : Int)) (kk : AW M nx ls (vl (mem k i) :: st) mem Q) : AW M pc ls (vi i :: vr k :: st) mem Q := by
  intro p l e s m args below meth c E H locs la C hl hP hD hS
  obtain ⟨hx, hb, hr, hml, hown, hts, hlk, hK, hN⟩ := id C
  obtain ⟨hdg, rfl⟩ := zdec hM hd
  have hk := zrow_lt hc (by omega)
  have he := zW_get (E := E) (mem := mem) hk
  rw [zE1 hc] at he
  obtain ⟨g1, g2⟩ := zidx hi (by have := zrow_small hc (by omega); omega)
  have kk := kk p l e s m args below meth c E H locs la C hl hP hD hS
  refine va_lald hx hb hK hP k 1 he rfl g1 hdg ?_
  have e2 : ((i.toNat : Nat) : Int) = i := by omega
  rw [g2, e2]
  exact kk
theorem zw_aald {k n k2 : Nat} {i : Int} {fs : List (Option Nat)} (hM : zOK M) (hd : zlook (mTbl M) pc = some (.aaload, 1, nx)) (hc : zrow k = (2, n, fs)) (hi : 0 ≤ i ∧ i < (n : Int)) (hf : fs.getD i.toNat none = some k2) (kk : AW M nx ls (vr k2 :: st) mem Q) : AW M pc ls (vi i :: vr k :: st) mem Q := by
  intro p l e s m args below meth c E H locs la C hl hP hD hS
  obtain ⟨hx, hb, hr, hml, hown, hts, hlk, hK, hN⟩ := id C
  obtain ⟨hdg, rfl⟩ := zdec hM hd
  have hk := zrow_lt hc (by omega)
  have he := zW_get (E := E) (mem := mem) hk
  rw [zE2 hc] at he
  obtain ⟨g1, g2⟩ := zidx hi (by have := zrow_small hc (by omega); omega)
  have kk := kk p l e s m args below meth c E H locs la C hl hP hD hS
  refine va_aldq hx hb hK hP k 2 he rfl g1 hdg ?_
  rw [g2, hf]
  exact kk
theorem zw_iast {k n : Nat} {i x : Int} {fs : List (Option Nat)} (hM : zOK M) (hd : zlook (mTbl M) pc = some (.iastore, 1, nx)) (hc : zrow k = (0, n, fs)) (hi : 0 ≤ i ∧ i < (n : Int)) (kk : AW M nx ls st (zset mem k i x) Q) : AW M pc ls (vi x :: vi i :: vr k :: st) mem Q := by
  intro p l e s m args below meth c E H locs la C hl hP hD hS
  obtain ⟨hx, hb, hr, hml, hown, hts, hlk, hK, hN⟩ := id C
  obtain ⟨hdg, rfl⟩ := zdec hM hd
  have hk := zrow_lt hc (by omega)
  have he := zW_get (E := E) (mem := mem) hk
  rw [zE0 hc] at he
  obtain ⟨g1, g2⟩ := zidx hi (by have := zrow_small hc (by omega); omega)
  refine va_iast hx hb hK hP hD hS k 0 he rfl g1 hdg (fun H1 locs1 hP1 hD1 hS1 => ?_)
  have e2 : (zW E mem).set k (E.2.2 k, .inl (E.2.1.1, n, .inl (upd (fun j => Int32.ofInt (mem k j)) (Int32.ofInt i).toNatClampNeg (Int32.ofInt x)))) = zW E (zset mem k i x) := by
    refine zW_set hk ?_
    rw [zE0 hc, g2]
    congr 4
    funext j
    by_cases hj : j = i.toNat
    · have : (j : Int) = i := by omega
      simp [upd, zupd, ← hj, this]
    · have : ¬ (j : Int) = i := by omega
      simp [upd, zupd, hj, this]
  rw [e2] at hP1 hD1
  exact kk p l e s m args below meth c E H1 locs1 la C hl hP1 hD1 hS1
theorem zw_last {k n : Nat} {i x : Int} {fs : List (Option Nat)} (hM : zOK M) (hd : zlook (mTbl M) pc = some (.lastore, 1, nx)) (hc : zrow k = (1, n, fs)) (hi : 0 ≤ i ∧ i < (n : Int)) (kk : AW M nx ls st (zset mem k i x) Q) : AW M pc ls (vl x :: vi i :: vr k :: st) mem Q := by
  intro p l e s m args below meth c E H locs la C hl hP hD hS
  obtain ⟨hx, hb, hr, hml, hown, hts, hlk, hK, hN⟩ := id C
  obtain ⟨hdg, rfl⟩ := zdec hM hd
  have hk := zrow_lt hc (by omega)
  have he := zW_get (E := E) (mem := mem) hk
  rw [zE1 hc] at he
  obtain ⟨g1, g2⟩ := zidx hi (by have := zrow_small hc (by omega); omega)
  refine va_last hx hb hK hP hD hS k 1 he rfl g1 hdg (fun H1 locs1 hP1 hD1 hS1 => ?_)
  have e2 : (zW E mem).set k (E.2.2 k, .inl (E.2.1.2.1, n, .inr (.inl (vp_updL (fun j => Int64.ofInt (mem k j)) (Int32.ofInt i).toNatClampNeg (Int64.ofInt x))))) = zW E (zset mem k i x) := by
    refine zW_set hk ?_
    rw [zE1 hc, g2]
    congr 5
    funext j
    by_cases hj : j = i.toNat
    · have : (j : Int) = i := by omega
      simp [vp_updL, zupd, ← hj, this]
    · have : ¬ (j : Int) = i := by omega
      simp [vp_updL, zupd, hj, this]
  rw [e2] at hP1 hD1
  exact kk p l e s m args below meth c E H1 locs1 la C hl hP1 hD1 hS1
theorem zw_alen {k a n : Nat} {fs : List (Option Nat)} (hM : zOK M) (hd : zlook (mTbl M) pc = some (.arraylength, 1, nx)) (hc : zrow k = (a, n, fs)) (ha : a = 0 ∨ a = 1) (kk : AW M nx ls (vi (n : Int) :: st) mem Q) : AW M pc ls (vr k :: st) mem Q := by
  intro p l e s m args below meth c E H locs la C hl hP hD hS
  obtain ⟨hx, hb, hr, hml, hown, hts, hlk, hK, hN⟩ := id C
  obtain ⟨hdg, rfl⟩ := zdec hM hd
  have hk := zrow_lt hc (by omega)
  have he := zW_get (E := E) (mem := mem) hk
  rcases ha with rfl | rfl
  · rw [zE0 hc] at he
    exact va_alen (ty := .int) (v := Int32.ofInt n) hx hb hK hP k 0 he rfl (by simp [Int32.ofInt_eq_ofNat]) hdg (kk p l e s m args below meth c E H locs la C hl hP hD hS)
  · rw [zE1 hc] at he
    exact va_alen (ty := .long) (v := Int32.ofInt n) hx hb hK hP k 1 he rfl (by simp [Int32.ofInt_eq_ofNat]) hdg (kk p l e s m args below meth c E H locs la C hl hP hD hS)
/-! answers -/
theorem zend {M : zMth} {E : zEnv} {mem : zMem} {Q : Option zVal → zMem → Prop} {s : State} {args : Array Value} {H : Heap} {locs : List Loc} {r : Option zVal} (hP : va_P E.1 vwCl (zW E mem) H) (hD : va_D (zA E) (zW E mem)) (hS : va_S (zA E) s.heap H locs) (hq : Q r mem) : ∀ t : State, t.heap = H → s.WarmedH t.vm → zQc E Q args s (.returned (r.map (zcv E))) t :=
  fun t ht _ => ⟨⟨r, mem, rfl, hq, by rw [ht]; exact hP, hD⟩, hS.F ht⟩
theorem zw_iret {x : Int} (hM : zOK M) (hd : zlook (mTbl M) pc = some (.ireturn, 1, nx)) (hret : mRet M = some .int) (hq : Q (some (vi x)) mem) : AW M pc ls [vi x] mem Q := by
  intro p l e s m args below meth c E H locs la C hl hP hD hS
  obtain ⟨hx, hb, hr, hml, hown, hts, hlk, hK, hN⟩ := id C
  obtain ⟨hdg, rfl⟩ := zdec hM hd
  exact W.iret (free := zA E) hx hb (hr.trans hret) (zend (M := M) (r := some (vi x)) hP hD hS hq) hS.2.2 hdg hlk
theorem zw_zret {x : Int} (hM : zOK M) (hd : zlook (mTbl M) pc = some (.ireturn, 1, nx)) (hret : mRet M = some .boolean) (hz : x = 0 ∨ x = 1) (hq : Q (some (vi x)) mem) : AW M pc ls [vi x] mem Q := by
  intro p l e s m args below meth c E H locs la C hl hP hD hS
  obtain ⟨hx, hb, hr, hml, hown, hts, hlk, hK, hN⟩ := id C
  obtain ⟨hdg, rfl⟩ := zdec hM hd
  refine W.zret (ty := .boolean) (free := zA E) hx hb (hr.trans hret) ?_ (zend (M := M) (r := some (vi x)) hP hD hS hq) hS.2.2 hdg hlk
  rcases hz with rfl | rfl <;> decide
theorem zw_lret {x : Int} (hM : zOK M) (hd : zlook (mTbl M) pc = some (.lreturn, 1, nx)) (hret : mRet M = some .long) (hq : Q (some (vl x)) mem) : AW M pc ls [vl x] mem Q := by
  intro p l e s m args below meth c E H locs la C hl hP hD hS
  obtain ⟨hx, hb, hr, hml, hown, hts, hlk, hK, hN⟩ := id C
  obtain ⟨hdg, rfl⟩ := zdec hM hd
  exact W.lret (free := zA E) hx hb (hr.trans hret) (zend (M := M) (r := some (vl x)) hP hD hS hq) hS.2.2 hdg hlk
theorem zw_vret (hM : zOK M) (hd : zlook (mTbl M) pc = some (.return_, 1, nx)) (hret : mRet M = none) (hq : Q none mem) : AW M pc ls [] mem Q := by
  intro p l e s m args below meth c E H locs la C hl hP hD hS
  obtain ⟨hx, hb, hr, hml, hown, hts, hlk, hK, hN⟩ := id C
  obtain ⟨hdg, rfl⟩ := zdec hM hd
  exact W.vret (free := zA E) hx hb (hr.trans hret) (zend (M := M) (r := none) hP hD hS hq) hS.2.2 hdg hlk
theorem zw_aret {k : Nat} {C0 : String} (hM : zOK M) (hd : zlook (mTbl M) pc = some (.areturn, 1, nx)) (hret : mRet M = some (.object C0)) (hq : Q (some (vr k)) mem) : AW M pc ls [vr k] mem Q := by
  intro p l e s m args below meth c E H locs la C hl hP hD hS
  obtain ⟨hx, hb, hr, hml, hown, hts, hlk, hK, hN⟩ := id C
  obtain ⟨hdg, rfl⟩ := zdec hM hd
  exact W.aret (free := zA E) hx hb (hr.trans hret) (Or.inl ⟨_, rfl⟩) (Or.inr ⟨_, rfl⟩) (zend (M := M) (r := some (vr k)) hP hD hS hq) hS.2.2 hdg hlk
/-! switches -/
theorem zw_tin {x dflt lo hi off : Int} {offs : Array Int} {len : Nat} (tgt : Nat) (hM : zOK M) (hd : zlook (mTbl M) pc = some (.tableswitch dflt lo hi offs, len, nx)) (hq : -2147483648 ≤ x ∧ x < 2147483648) (h1 : lo ≤ x ∧ x ≤ hi) (ho : offs[(x - lo).toNat]? = some off) (ht : (pc : Int) + off = (tgt : Int)) (kk : AW M tgt ls st mem Q) : AW M pc ls (vi x :: st) mem Q := by
  intro p l e s m args below meth c E H locs la C hl hP hD hS
  obtain ⟨hx, hb, hr, hml, hown, hts, hlk, hK, hN⟩ := id C
  obtain ⟨hdg, rfl⟩ := zdec hM hd
  have e1 := zto32 hq
  exact lv_tableIn hx hb hdg (by rw [e1]; omega) (by rw [e1]; omega) (by rw [e1]; exact ho) ht (kk p l e s m args below meth c E H locs la C hl hP hD hS)
theorem zw_tout {x dflt lo hi : Int} {offs : Array Int} {len : Nat} (tgt : Nat) (hM : zOK M) (hd : zlook (mTbl M) pc = some (.tableswitch dflt lo hi offs, len, nx)) (hq : -2147483648 ≤ x ∧ x < 2147483648) (h1 : x < lo ∨ hi < x) (ht : (pc : Int) + dflt = (tgt : Int)) (kk : AW M tgt ls st mem Q) : AW M pc ls (vi x :: st) mem Q := by
  intro p l e s m args below meth c E H locs la C hl hP hD hS
  obtain ⟨hx, hb, hr, hml, hown, hts, hlk, hK, hN⟩ := id C
  obtain ⟨hdg, rfl⟩ := zdec hM hd
  have e1 := zto32 hq
  exact lv_tableOut hx hb hdg (by rw [e1]; exact h1) ht (kk p l e s m args below meth c E H locs la C hl hP hD hS)
theorem zw_lsw {x dflt off : Int} {ps : Array (Int × Int)} {len : Nat} (tgt : Nat) (hM : zOK M) (hd : zlook (mTbl M) pc = some (.lookupswitch dflt ps, len, nx)) (hq : -2147483648 ≤ x ∧ x < 2147483648) (hp : (ps.toList.zip (ps.toList.drop 1)).all (fun (a, next) => a.1 < next.1) = true) (ho : Op.lookupswitch.offset ps.toList dflt x = off) (ht : (pc : Int) + off = (tgt : Int)) (kk : AW M tgt ls st mem Q) : AW M pc ls (vi x :: st) mem Q := by
  intro p l e s m args below meth c E H locs la C hl hP hD hS
  obtain ⟨hx, hb, hr, hml, hown, hts, hlk, hK, hN⟩ := id C
  obtain ⟨hdg, rfl⟩ := zdec hM hd
  have e1 := zto32 hq
  exact lv_lookup hx hb hdg hp (by rw [e1]; exact ho) ht (kk p l e s m args below meth c E H locs la C hl hP hD hS)
end ZC
end
section
/-! ===== calls over the abstract machine; contracts ===== -/
def zK (E : zEnv) (mem : zMem) (U : State) : Prop := va_P E.1 vwCl (zW E mem) U.heap ∧ va_D (zA E) (zW E mem) ∧ va_K E.1 vwCl (zTys E) U ∧ zNw U
/-- the method, called with these arguments in this memory, returns with Q -/
def zCt (M : zMth) (av : List zVal) (mem : zMem) (Q : Option zVal → zMem → Prop) : Prop :=
  ∀ (l : Launch) (E : zEnv), Met l (mY M) (zws M) (zrm M) (va_Pc (av.map (zcv E)) (zK E mem)) (zQc E Q) 0 0 (zA E)
def zent : List zVal → zLs
  | [] => []
  | .inl x :: t => some (.inl x) :: zent t
  | .inr (.inl x) :: t => some (.inr (.inl x)) :: none :: zent t
  | .inr (.inr x) :: t => some (.inr (.inr x)) :: zent t
theorem zent_len (E : zEnv) : ∀ av : List zVal, (lg_sl (av.map (zcv E))).length = (zent av).length
  | [] => rfl
  | .inl x :: t => by
    have := zent_len E t
    simp only [List.map_cons, zcv, zent]
    simp [lg_sl, Value.category] at this ⊢
    exact this
  | .inr (.inl x) :: t => by
    have := zent_len E t
    simp only [List.map_cons, zcv, zent]
    simp [lg_sl, Value.category] at this ⊢
    omega
  | .inr (.inr x) :: t => by
    have := zent_len E t
    simp only [List.map_cons, zcv, zent]
    simp [lg_sl, Value.category] at this ⊢
    exact this
theorem zent_args (E : zEnv) : ∀ (av : List zVal) (b : Nat), zcl E b (zent av) = lv_args b (av.map (zcv E))
  | [], b => rfl
  | .inl x :: t, b => by
    have := zent_args E t (b + 1)
    simp [zent, zcl, lv_args, zcv, Value.category, this]
  | .inr (.inl x) :: t, b => by
    have := zent_args E t (b + 2)
    simp [zent, zcl, lv_args, zcv, Value.category, this]
  | .inr (.inr x) :: t, b => by
    have := zent_args E t (b + 1)
    simp [zent, zcl, lv_args, zcv, Value.category, this]
def zpad (ls : zLs) (n : Nat) : zLs := match n with
  | 0 => ls
  | n + 1 => zpad (ls ++ [none]) n
theorem zpad_get : ∀ (n : Nat) (ls : zLs) (i : Nat) (v : zVal), (zpad ls n)[i]? = some (some v) → ls[i]? = some (some v)
  | 0, ls, i, v, h => h
  | n + 1, ls, i, v, h => by
    have h1 := zpad_get n (ls ++ [none]) i v h
    by_cases hi : i < ls.length
    · rwa [List.getElem?_append_left hi] at h1
    · rw [List.getElem?_append_right (by omega)] at h1
      by_cases h0 : i - ls.length = 0
      · rw [h0] at h1; simp at h1
      · rw [List.getElem?_eq_none (by simp; omega)] at h1
        cases h1
theorem zCt.of {M : zMth} {av : List zVal} {mem : zMem} {Q : Option zVal → zMem → Prop} (ls : zLs) (hM : zOK M) (hn : (zent av).length ≤ mL M) (hls : zpad (zent av) (mL M - (zent av).length) = ls) (h : AW M 0 ls [] mem Q) : zCt M av mem Q := by
  intro l E
  subst hls
  refine Met.ofW (cc := mCode M) (maxL := mL M) (ret := mRet M) hM.2.1 rfl ?_
  intro p e s m args below meth c s₁ B hml hv
  obtain ⟨rfl, hP, hD, hK, hN⟩ := hv
  have hl := lv_entry (av.map (zcv E)) (n := mL M) (by rw [zent_len]; exact hn)
  rw [lg_entry_eq]
  generalize (lg_sl (av.map (zcv E)) ++ List.replicate (mL M - (lg_sl (av.map (zcv E))).length) Slot.unset).toArray = la at hl ⊢
  have C : zCx M p s m (av.map (zcv E)).toArray meth c E := ⟨B.exec, B.bytes, B.returns, hml, by rw [hM.2.2.1]; exact findClass_of_methodNamed B.named, atoms_spec (ws := zws M) B.pre, B.notSynchronized, hK, hN⟩
  refine h p l e s m _ below meth c E s.heap [] la C (zhas_mk hl (fun i v hi => ?_)) hP hD va_S.rf
  have h1 := zpad_get _ _ _ _ hi
  rw [← zent_args E av 0]
  simpa using zcl_mem (E := E) (b := 0) h1
def zsplit : Nat → List zVal → List zVal → Option (List zVal × List zVal)
  | 0, st, acc => some (acc, st)
  | n + 1, v :: st, acc => zsplit n st (v :: acc)
  | _ + 1, [], _ => none
theorem zsplit_eq : ∀ {n : Nat} {st acc a r : List zVal}, zsplit n st acc = some (a, r) → ∃ b, a = b ++ acc ∧ st = b.reverse ++ r ∧ b.length = n
  | 0, st, acc, a, r, h => by
    simp only [zsplit, Option.some.injEq, Prod.mk.injEq] at h
    exact ⟨[], by simp [h.1], by simp [h.2], rfl⟩
  | n + 1, [], acc, a, r, h => by simp [zsplit] at h
  | n + 1, v :: st, acc, a, r, h => by
    obtain ⟨b, h1, h2, h3⟩ := zsplit_eq (n := n) h
    exact ⟨b ++ [v], by simp [h1], by simp [h2], by simp [h3]⟩
def zplain (y : MethodName) (n : Nat) : Prop := y.cls ≠ "java/lang/invoke/MethodHandle" ∧ y.cls ≠ "java/lang/invoke/VarHandle" ∧ (parseMethodDescriptor y.desc).map (fun d => d.parameters.length) = some n
/-- a static method by its pool entry -/
def zLS (own : String) (idx : Nat) (M' : zMth) (n : Nat) : Prop := Cond.methodLink own idx (mY M') ∈ zALL ∧ Cond.static (mY M') ∈ zALL ∧ Cond.initialized (mY M').cls ∈ zALL ∧ zplain (mY M') n
/-- a private static method of the host -/
def zLN (own : String) (idx : Nat) (M' : zMth) (n : Nat) : Prop := (own, idx) ∈ zNest ∧ mY M' = yX10_within ∧ Cond.static (mY M') ∈ zALL ∧ Cond.initialized (mY M').cls ∈ zALL ∧ zplain (mY M') n
/-- a method of an object of class ci -/
def zLV (own : String) (idx : Nat) (M' : zMth) (ci n : Nat) : Prop := Cond.methodLink own idx (mY M') ∈ zALL ∧ Cond.instanceMethod (mY M') ∈ zALL ∧ Cond.selects (mY M').cls (mY M') (mY M') ∈ zALL ∧ Cond.initialized (mY M').cls ∈ zALL ∧ (vwCl[ci]?).map (fun q => q.1) = some (mY M').cls ∧ zplain (mY M') n
theorem zblind {E : zEnv} {mem : zMem} {av : List Value} : FrameBlind (va_Pc av (zK E mem)) := fun a U g mk q => by
  obtain ⟨q0, q1, q2, q3, q4⟩ := q
  exact ⟨q0, q1, q2, va_K.moved (u := U) (U := U.calling g mk a) (Vm.Alike.refl U.vm) q3, zNw.same rfl q4⟩
section ZCALL
variable {M M' : zMth} {pc nx : Nat} {ls : zLs} {st : List zVal} {mem : zMem} {Q Q' : Option zVal → zMem → Prop} {av rest : List zVal} {n idx : Nat}
theorem zafter {p : Program} {l : Launch} {e : Env} {s : State} {m : MethodId} {args : Array Value} {below : List Frame} {meth : Method} {c : Code} {E : zEnv} {H : Heap} {locs : List Loc} {la : Array Slot} {st0 : List Value} {a : Array Value}
    (C : zCx M p s m args meth c E) (hl : lv_has la (mL M) (zcl E 0 ls)) (hS : va_S (zA E) s.heap H locs)
    (hr : va_Run p l e (zrm M) s m args below meth c H locs 0 0 0 0 (F0 m pc la st0) (rest.map (zcv E)) (zQc E Q' a) (zA E))
    (kk : ∀ r mem', Q' r mem' → AW M (pc + 3) ls (r.toList ++ rest) mem' Q) :
    W p l e (zrm M) s m args below meth c H locs 0 0 (MQ below (zQc E Q) args s 0 0 (zA E)) (F0 m pc la st0) := by
  intro T hT X
  obtain ⟨v, st₀, t, T', L, h0, X', hL, e1, e2, ⟨⟨r, mem', hv, hQ, hP', hD'⟩, hz, hk⟩, stp⟩ := hr T hT X
  have hv' : v = r.map (zcv E) := by injection hv
  subst hv'
  rw [h0] at hz hk
  have hS' : va_S (zA E) s.heap T'.heap (locs ++ L) := ⟨Nat.le_trans hS.1 (by rw [e1]; exact hz), fun q h1 h2 => by rw [e1, hk q (Nat.lt_of_lt_of_le h1 hS.1) h2]; exact hS.2.1 q h1 h2, fun q hq => by
      rcases List.mem_append.mp hq with h | h
      · exact hS.2.2 q h
      · exact hL q h⟩
  obtain ⟨t2, a1, b1⟩ := kk r mem' hQ p l e s m args below meth c E T'.heap (locs ++ L) la C hl (by rw [e1]; exact hP') hD' hS' T' rfl X'
  refine ⟨t2, stp t2 ?_, b1⟩
  have e3 : (r.map (zcv E)).toList ++ rest.map (zcv E) = (r.toList ++ rest).map (zcv E) := by cases r <;> simp
  show Steps p.tables e below (T'.setTop (F0 m (pc + 3) la ((r.map (zcv E)).toList ++ rest.map (zcv E)))) t2
  rw [e3]
  exact a1
theorem zw_callS (hM : zOK M) (hd : zlook (mTbl M) pc = some (.invokestatic idx, 3, nx)) (hM' : zOK M') (hL : zLS (mOwn M) idx M' n) (hR : mFr M' + 1 ≤ mFr M ∧ 8 + (mL M' + 11) + mLo M' ≤ mLo M) (hst : zsplit n st [] = some (av, rest)) (hw : zcat rest ≤ 8) (hC : zCt M' av mem Q') (kk : ∀ r mem', Q' r mem' → AW M nx ls (r.toList ++ rest) mem' Q) : AW M pc ls st mem Q := by
  intro p l e s m args below meth c E H locs la C hl hP hD hS
  obtain ⟨hx, hb, hr, hml, hown, hts, hlk, hK, hN⟩ := id C
  obtain ⟨hdg, rfl⟩ := zdec hM hd
  obtain ⟨b, rfl, rfl, hbn⟩ := zsplit_eq hst
  rw [List.append_nil] at hC
  have hts' : ∀ w ∈ zALL, w.before args s = true := fun w hw => hts w (List.mem_cons_of_mem _ hw)
  obtain ⟨l1, l2, l3, l4⟩ := hL
  refine zafter C hl hS (va_runS (As := b.map (zcv E)) (n := n) ⟨hx, hb, hml, hown, hts⟩ (hC l E) ⟨callB_of n hts (zGood hM' (fun w hw => List.mem_cons_of_mem _ hw)) rfl rfl rfl (hts' _ l3) (hts' _ l1) l4 hR, hts' _ l2⟩ ⟨zblind, fun U hU hW => ⟨rfl, by rw [hU]; exact hP, hD, va_K.moved hW.alike hK, hN.warm hW⟩⟩ rfl (by simpa using hbn) hl.1 (by simp) ?_ hdg ⟨Nat.le_refl 0, Nat.le_refl 0⟩) kk
  exact lv_room (by rw [zcat_eq]; exact hw)
theorem zw_callN (hM : zOK M) (hd : zlook (mTbl M) pc = some (.invokestatic idx, 3, nx)) (hM' : zOK M') (hL : zLN (mOwn M) idx M' n) (hR : mFr M' + 1 ≤ mFr M ∧ 8 + (mL M' + 11) + mLo M' ≤ mLo M) (hst : zsplit n st [] = some (av, rest)) (hw : zcat rest ≤ 8) (hC : zCt M' av mem Q') (kk : ∀ r mem', Q' r mem' → AW M nx ls (r.toList ++ rest) mem' Q) : AW M pc ls st mem Q := by
  intro p l e s m args below meth c E H locs la C hl hP hD hS
  obtain ⟨hx, hb, hr, hml, hown, hts, hlk, hK, hN⟩ := id C
  obtain ⟨hdg, rfl⟩ := zdec hM hd
  obtain ⟨b, rfl, rfl, hbn⟩ := zsplit_eq hst
  rw [List.append_nil] at hC
  have hts' : ∀ w ∈ zALL, w.before args s = true := fun w hw => hts w (List.mem_cons_of_mem _ hw)
  obtain ⟨l1, l1', l2, l3, l4⟩ := hL
  have hnw : va_Nw (.methodLinkNest (mOwn M) idx (mY M') "LowerBows") s := by rw [l1']; exact hN _ l1
  refine zafter C hl hS (va_runSN (As := b.map (zcv E)) (n := n) ⟨hx, hb, hml, hown, hts⟩ (hC l E) ⟨va_cnB n hts (zGood hM' (fun w hw => List.mem_cons_of_mem _ hw)) rfl rfl rfl hnw (hts' _ l3) l4 hR, hts' _ l2, trivial⟩ ⟨zblind, fun U hU hW => ⟨rfl, by rw [hU]; exact hP, hD, va_K.moved hW.alike hK, hN.warm hW⟩⟩ rfl (by simpa using hbn) hl.1 (by simp) ?_ hdg ⟨Nat.le_refl 0, Nat.le_refl 0⟩) kk
  exact lv_room (by rw [zcat_eq]; exact hw)
theorem zw_callV {ci k : Nat} {fs : List (Option Nat)} (hM : zOK M) (hd : zlook (mTbl M) pc = some (.invokevirtual idx, 3, nx)) (hM' : zOK M') (hL : zLV (mOwn M) idx M' ci n) (hR : mFr M' + 1 ≤ mFr M ∧ 8 + (mL M' + 11) + mLo M' ≤ mLo M) (hst : zsplit n st [] = some (av, vr k :: rest)) (hc : zrow k = (3, ci, fs)) (hw : zcat rest ≤ 8) (hC : zCt M' (vr k :: av) mem Q') (kk : ∀ r mem', Q' r mem' → AW M nx ls (r.toList ++ rest) mem' Q) : AW M pc ls st mem Q := by
  intro p l e s m args below meth c E H locs la C hl hP hD hS
  obtain ⟨hx, hb, hr, hml, hown, hts, hlk, hK, hN⟩ := id C
  obtain ⟨hdg, rfl⟩ := zdec hM hd
  obtain ⟨b, rfl, rfl, hbn⟩ := zsplit_eq hst
  rw [List.append_nil] at hC
  have hts' : ∀ w ∈ zALL, w.before args s = true := fun w hw => hts w (List.mem_cons_of_mem _ hw)
  obtain ⟨l1, l2, l3, l4, l5, l6⟩ := hL
  have hk := zrow_lt hc (by omega)
  have he := zW_get (E := E) (mem := mem) hk
  rw [zE3 hc] at he
  obtain ⟨q, hq1, hq2⟩ := Option.map_eq_some_iff.mp l5
  have hrecv := va_recv hK hP hq1 he
  rw [hq2] at hrecv
  refine zafter C hl hS (va_runV (As := b.map (zcv E)) (n := n) (C := (mY M').cls) (b := E.2.2 k) ⟨hx, hb, hml, hown, hts⟩ (hC l E) ⟨callB_of n hts (zGood hM' (fun w hw => List.mem_cons_of_mem _ hw)) rfl rfl rfl (hts' _ l4) (hts' _ l1) l6 hR, hts' _ l2, hts' _ l3⟩ ⟨zblind, hrecv, fun U hU hW => ⟨rfl, by rw [hU]; exact hP, hD, va_K.moved hW.alike hK, hN.warm hW⟩⟩ rfl (by simpa using hbn) hl.1 (by simp [zcv]) ?_ hdg ⟨Nat.le_refl 0, Nat.le_refl 0⟩) kk
  exact lv_room (by rw [zcat_eq]; exact hw)
end ZCALL
end
section
/-! ===== Math, arraycopy; contracts by their answers; branches on booleans ===== -/
def bi (b : Bool) : Int := cond b 1 0
theorem bi01 (b : Bool) : bi b = 0 ∨ bi b = 1 := by cases b <;> simp [bi]
theorem bi_t {p : Prop} {i : Decidable p} (h : p) : bi (@decide p i) = 1 := by simp [bi, h]
theorem bi_f {p : Prop} {i : Decidable p} (h : ¬ p) : bi (@decide p i) = 0 := by simp [bi, h]
def zLM (own : String) (idx : Nat) (y : MethodName) (code : ByteArray) (k : Nat) : Prop := Cond.methodLink own idx y ∈ zALL ∧ Cond.static y ∈ zALL ∧ Cond.initialized "java/lang/Math" ∈ zALL ∧ Cond.code y code k (some .int) ∈ zALL
def zLA (own : String) (idx : Nat) : Prop := Cond.methodLink own idx arraycopyName ∈ zALL ∧ Cond.native arraycopyName ∈ zALL ∧ Cond.static arraycopyName ∈ zALL ∧ Cond.initialized "java/lang/System" ∈ zALL
section ZX
variable {M : zMth} {pc nx idx : Nat} {ls : zLs} {st : List zVal} {mem : zMem} {Q : Option zVal → zMem → Prop}
theorem zw_mmax {x y : Int} (hM : zOK M) (hd : zlook (mTbl M) pc = some (.invokestatic idx, 3, nx)) (hL : zLM (mOwn M) idx Lib.Math.max.name Lib.Math.max.code 2) (hR : 1 ≤ mFr M ∧ zcat st + 13 ≤ mLo M) (hq : (-2147483648 ≤ x ∧ x < 2147483648) ∧ (-2147483648 ≤ y ∧ y < 2147483648)) (kk : AW M nx ls (vi (max x y) :: st) mem Q) : AW M pc ls (vi y :: vi x :: st) mem Q := by
  intro p l e s m args below meth c E H locs la C hl hP hD hS
  obtain ⟨hx, hb, hr, hml, hown, hts, hlk, hK, hN⟩ := id C
  obtain ⟨hdg, rfl⟩ := zdec hM hd
  have hts' : ∀ w ∈ zALL, w.before args s = true := fun w hw => hts w (List.mem_cons_of_mem _ hw)
  have kk := kk p l e s m args below meth c E H locs la C hl hP hD hS
  have e1 : Int32.ofInt (max x y) = if Int32.ofInt x < Int32.ofInt y then Int32.ofInt y else Int32.ofInt x := by
    have q : Int32.ofInt x < Int32.ofInt y ↔ x < y := by rw [Int32.lt_iff_toInt_lt, zto32 hq.1, zto32 hq.2]
    by_cases h : x < y
    · rw [if_pos (q.mpr h), show max x y = y by omega]
    · rw [if_neg (fun z => h (q.mp z)), show max x y = x by omega]
  simp only [List.map_cons, zcv] at kk
  rw [e1] at kk
  exact va_mmax hx hb (hml.trans hl.1.symm) hown (hts' _ hL.1) (hts' _ hL.2.1) (hts' _ hL.2.2.1) (hts' _ hL.2.2.2) hR.1 (by rw [zcat_eq]; exact hR.2) (Nat.zero_le _) (Nat.zero_le _) hdg kk
theorem zw_mmin {x y : Int} (hM : zOK M) (hd : zlook (mTbl M) pc = some (.invokestatic idx, 3, nx)) (hL : zLM (mOwn M) idx Lib.Math.min.name Lib.Math.min.code 2) (hR : 1 ≤ mFr M ∧ zcat st + 13 ≤ mLo M) (hq : (-2147483648 ≤ x ∧ x < 2147483648) ∧ (-2147483648 ≤ y ∧ y < 2147483648)) (kk : AW M nx ls (vi (min x y) :: st) mem Q) : AW M pc ls (vi y :: vi x :: st) mem Q := by
  intro p l e s m args below meth c E H locs la C hl hP hD hS
  obtain ⟨hx, hb, hr, hml, hown, hts, hlk, hK, hN⟩ := id C
  obtain ⟨hdg, rfl⟩ := zdec hM hd
  have hts' : ∀ w ∈ zALL, w.before args s = true := fun w hw => hts w (List.mem_cons_of_mem _ hw)
  have kk := kk p l e s m args below meth c E H locs la C hl hP hD hS
  have e1 : Int32.ofInt (min x y) = if Int32.ofInt y < Int32.ofInt x then Int32.ofInt y else Int32.ofInt x := by
    have q : Int32.ofInt y < Int32.ofInt x ↔ y < x := by rw [Int32.lt_iff_toInt_lt, zto32 hq.1, zto32 hq.2]
    by_cases h : y < x
    · rw [if_pos (q.mpr h), show min x y = y by omega]
    · rw [if_neg (fun z => h (q.mp z)), show min x y = x by omega]
  simp only [List.map_cons, zcv] at kk
  rw [e1] at kk
  exact va_mmin hx hb (hml.trans hl.1.symm) hown (hts' _ hL.1) (hts' _ hL.2.1) (hts' _ hL.2.2.1) (hts' _ hL.2.2.2) hR.1 (by rw [zcat_eq]; exact hR.2) (Nat.zero_le _) (Nat.zero_le _) hdg kk
def zabs (x : Int) : Int := if 0 ≤ x then x else -x
theorem zw_mabs {x : Int} (hM : zOK M) (hd : zlook (mTbl M) pc = some (.invokestatic idx, 3, nx)) (hL : zLM (mOwn M) idx Lib.Math.abs.name Lib.Math.abs.code 1) (hR : 1 ≤ mFr M ∧ zcat st + 13 ≤ mLo M) (hq : -2147483648 ≤ x ∧ x < 2147483648) (kk : AW M nx ls (vi (zabs x) :: st) mem Q) : AW M pc ls (vi x :: st) mem Q := by
  intro p l e s m args below meth c E H locs la C hl hP hD hS
  obtain ⟨hx, hb, hr, hml, hown, hts, hlk, hK, hN⟩ := id C
  obtain ⟨hdg, rfl⟩ := zdec hM hd
  have hts' : ∀ w ∈ zALL, w.before args s = true := fun w hw => hts w (List.mem_cons_of_mem _ hw)
  have kk := kk p l e s m args below meth c E H locs la C hl hP hD hS
  have e1 : Int32.ofInt (zabs x) = if 0 ≤ Int32.ofInt x then Int32.ofInt x else 0 - Int32.ofInt x := by
    have q : 0 ≤ Int32.ofInt x ↔ 0 ≤ x := by rw [Int32.le_iff_toInt_le, zto32 hq, Int32.toInt_zero]
    unfold zabs
    by_cases h : 0 ≤ x
    · rw [if_pos (q.mpr h), if_pos h]
    · rw [if_neg (fun z => h (q.mp z)), if_neg h, Int32.ofInt_neg]; simp
  simp only [List.map_cons, zcv] at kk
  rw [e1] at kk
  exact va_mabs hx hb (hml.trans hl.1.symm) hown (hts' _ hL.1) (hts' _ hL.2.1) (hts' _ hL.2.2.1) (hts' _ hL.2.2.2) hR.1 (by rw [zcat_eq]; exact hR.2) (Nat.zero_le _) (Nat.zero_le _) hdg kk
theorem zw_copy {k0 k1 n0 n1 : Nat} {f0 f1 : List (Option Nat)} {sp dp n : Int} (hM : zOK M) (hd : zlook (mTbl M) pc = some (.invokestatic idx, 3, nx)) (hL : zLA (mOwn M) idx) (hc0 : zrow k0 = (0, n0, f0)) (hc1 : zrow k1 = (0, n1, f1)) (hi : (0 ≤ sp ∧ 0 ≤ dp ∧ 0 ≤ n) ∧ sp + n ≤ (n0 : Int) ∧ dp + n ≤ (n1 : Int)) (hR : 1 ≤ mFr M ∧ zcat st + (nativeFrameWords "java/lang/System" "arraycopy" 5 + 11) ≤ mLo M) (kk : AW M nx ls st (zput mem k1 (zcpy (mem k0) (mem k1) sp dp n)) Q) : AW M pc ls (vi n :: vi dp :: vr k1 :: vi sp :: vr k0 :: st) mem Q := by
  intro p l e s m args below meth c E H locs la C hl hP hD hS
  obtain ⟨hx, hb, hr, hml, hown, hts, hlk, hK, hN⟩ := id C
  obtain ⟨hdg, rfl⟩ := zdec hM hd
  have hts' : ∀ w ∈ zALL, w.before args s = true := fun w hw => hts w (List.mem_cons_of_mem _ hw)
  have hk0 := zrow_lt hc0 (by omega)
  have hk1 := zrow_lt hc1 (by omega)
  have s0 := zrow_small hc0 (by omega)
  have s1 := zrow_small hc1 (by omega)
  have he0 := zW_get (E := E) (mem := mem) hk0
  rw [zE0 hc0] at he0
  have he1 := zW_get (E := E) (mem := mem) hk1
  rw [zE0 hc1] at he1
  have cl : ∀ x : Int, 0 ≤ x → x ≤ 1000 → (Int32.ofInt x).toNatClampNeg = x.toNat ∧ ¬ Int32.ofInt x < 0 := by
    intro x h1 h2
    have e := zto32 (x := x) (by omega)
    refine ⟨?_, ?_⟩
    · show (Int32.ofInt x).toInt.toNat = x.toNat
      rw [e]
    · rw [Int32.lt_iff_toInt_lt, e, Int32.toInt_zero]
      omega
  obtain ⟨a1, a2⟩ := cl sp (by omega) (by omega)
  obtain ⟨b1, b2⟩ := cl dp (by omega) (by omega)
  obtain ⟨c1, c2⟩ := cl n (by omega) (by omega)
  refine va_copyi (ty := .int) hx hb (hml.trans hl.1.symm) hown (hts' _ hL.1) (hts' _ hL.2.1) (hts' _ hL.2.2.1) (hts' _ hL.2.2.2) hK hP hD hS k0 k1 0 0 he0 he1 rfl rfl rfl a2 b2 c2 (by rw [a1, c1]; omega) (by rw [b1, c1]; omega) (fun _ _ => rfl) hR.1 (by rw [zcat_eq]; exact hR.2) hdg (fun H1 locs1 hP1 hD1 hS1 => ?_)
  have e2 : (zW E mem).set k1 (E.2.2 k1, .inl (E.2.1.1, n1, .inl (va_cpy (fun j => Int32.ofInt (mem k0 j)) (fun j => Int32.ofInt (mem k1 j)) (Int32.ofInt sp).toNatClampNeg (Int32.ofInt dp).toNatClampNeg (Int32.ofInt n).toNatClampNeg))) = zW E (zput mem k1 (zcpy (mem k0) (mem k1) sp dp n)) := by
    refine zW_set hk1 ?_
    rw [zE0 hc1, a1, b1, c1]
    congr 4
    funext j
    simp only [va_cpy, zcpy]
    by_cases h : dp ≤ (j : Int) ∧ (j : Int) < dp + n
    · rw [if_pos h, if_pos (by omega)]
      have : ((sp.toNat + (j - dp.toNat) : Nat) : Int) = sp + (j - dp) := by omega
      rw [this]
    · rw [if_neg h, if_neg (by omega)]
  rw [e2] at hP1 hD1
  exact kk p l e s m args below meth c E H1 locs1 la C hl hP1 hD1 hS1
theorem zw_ifeq_b {b : Bool} {off : Int} (tgt : Nat) (hM : zOK M) (hd : zlook (mTbl M) pc = some (.ifCond .eq off, 3, nx)) (ht : (pc : Int) + off = (tgt : Int)) (kt : b = false → AW M tgt ls st mem Q) (kf : b = true → AW M nx ls st mem Q) : AW M pc ls (vi (bi b) :: st) mem Q := by
  refine zw_if_eq tgt hM hd ht (by rcases bi01 b with h | h <;> omega) (fun h => kt ?_) (fun h => kf ?_)
  · cases b <;> simp [bi] at h ⊢
  · cases b <;> simp [bi] at h ⊢
theorem zw_ifeq_d {p : Prop} {i : Decidable p} {off : Int} (tgt : Nat) (hM : zOK M) (hd : zlook (mTbl M) pc = some (.ifCond .eq off, 3, nx)) (ht : (pc : Int) + off = (tgt : Int)) (kt : ¬ p → AW M tgt ls st mem Q) (kf : p → AW M nx ls st mem Q) : AW M pc ls (vi (bi (@decide p i)) :: st) mem Q := by
  refine zw_ifeq_b tgt hM hd ht (fun h => kt ?_) (fun h => kf ?_)
  · simpa using h
  · simpa using h
theorem zw_ifne_b {b : Bool} {off : Int} (tgt : Nat) (hM : zOK M) (hd : zlook (mTbl M) pc = some (.ifCond .ne off, 3, nx)) (ht : (pc : Int) + off = (tgt : Int)) (kt : b = true → AW M tgt ls st mem Q) (kf : b = false → AW M nx ls st mem Q) : AW M pc ls (vi (bi b) :: st) mem Q := by
  refine zw_if_ne tgt hM hd ht (by rcases bi01 b with h | h <;> omega) (fun h => kt ?_) (fun h => kf ?_)
  · cases b <;> simp [bi] at h ⊢
  · cases b <;> simp [bi] at h ⊢
theorem zw_ifne_d {p : Prop} {i : Decidable p} {off : Int} (tgt : Nat) (hM : zOK M) (hd : zlook (mTbl M) pc = some (.ifCond .ne off, 3, nx)) (ht : (pc : Int) + off = (tgt : Int)) (kt : p → AW M tgt ls st mem Q) (kf : ¬ p → AW M nx ls st mem Q) : AW M pc ls (vi (bi (@decide p i)) :: st) mem Q := by
  refine zw_ifne_b tgt hM hd ht (fun h => kt ?_) (fun h => kf ?_)
  · simpa using h
  · simpa using h
end ZX
def zCi (M : zMth) (av : List zVal) (mem : zMem) (X : Int) (P : zMem → Prop) : Prop := zCt M av mem (fun r m2 => r = some (vi X) ∧ P m2)
def zCip (M : zMth) (av : List zVal) (mem : zMem) (X : Int) : Prop := zCt M av mem (fun r m2 => r = some (vi X) ∧ m2 = mem)
def zCbp (M : zMth) (av : List zVal) (mem : zMem) (b : Bool) : Prop := zCt M av mem (fun r m2 => r = some (vi (bi b)) ∧ m2 = mem)
def zCb (M : zMth) (av : List zVal) (mem : zMem) (b : Bool) (P : zMem → Prop) : Prop := zCt M av mem (fun r m2 => r = some (vi (bi b)) ∧ P m2)
def zCv (M : zMth) (av : List zVal) (mem : zMem) (P : zMem → Prop) : Prop := zCt M av mem (fun r m2 => r = none ∧ P m2)
def zCvp (M : zMth) (av : List zVal) (mem : zMem) (m3 : zMem) : Prop := zCt M av mem (fun r m2 => r = none ∧ m2 = m3)
def zCl (M : zMth) (av : List zVal) (mem : zMem) (X : Int) (P : zMem → Prop) : Prop := zCt M av mem (fun r m2 => r = some (vl X) ∧ P m2)
def zClp (M : zMth) (av : List zVal) (mem : zMem) (X : Int) : Prop := zCt M av mem (fun r m2 => r = some (vl X) ∧ m2 = mem)
def zCrp (M : zMth) (av : List zVal) (mem : zMem) (k : Nat) : Prop := zCt M av mem (fun r m2 => r = some (vr k) ∧ m2 = mem)
section ZCW
variable {M M' : zMth} {pc nx : Nat} {ls : zLs} {st : List zVal} {mem : zMem} {Q : Option zVal → zMem → Prop} {av rest : List zVal} {n idx : Nat}
theorem zw_Si  {X : Int} {P : zMem → Prop} (hM : zOK M) (hd : zlook (mTbl M) pc = some (.invokestatic idx, 3, nx)) (hM' : zOK M') (hL : zLS (mOwn M) idx M' n) (hR : mFr M' + 1 ≤ mFr M ∧ 8 + (mL M' + 11) + mLo M' ≤ mLo M) (hst : zsplit n st [] = some (av, rest)) (hw : zcat rest ≤ 8) (hC : zCi M' av mem X P) (kk : ∀ m2, P m2 → AW M nx ls (vi X :: rest) m2 Q) : AW M pc ls st mem Q := zw_callS hM hd hM' hL hR hst hw hC (fun r m2 h => by obtain ⟨rfl, h⟩ := h; exact kk _ h)
theorem zw_Sip  {X : Int} (hM : zOK M) (hd : zlook (mTbl M) pc = some (.invokestatic idx, 3, nx)) (hM' : zOK M') (hL : zLS (mOwn M) idx M' n) (hR : mFr M' + 1 ≤ mFr M ∧ 8 + (mL M' + 11) + mLo M' ≤ mLo M) (hst : zsplit n st [] = some (av, rest)) (hw : zcat rest ≤ 8) (hC : zCip M' av mem X) (kk : AW M nx ls (vi X :: rest) mem Q) : AW M pc ls st mem Q := zw_callS hM hd hM' hL hR hst hw hC (fun r m2 h => by obtain ⟨rfl, rfl⟩ := h; exact kk)
theorem zw_Sbp  {b : Bool} (hM : zOK M) (hd : zlook (mTbl M) pc = some (.invokestatic idx, 3, nx)) (hM' : zOK M') (hL : zLS (mOwn M) idx M' n) (hR : mFr M' + 1 ≤ mFr M ∧ 8 + (mL M' + 11) + mLo M' ≤ mLo M) (hst : zsplit n st [] = some (av, rest)) (hw : zcat rest ≤ 8) (hC : zCbp M' av mem b) (kk : AW M nx ls (vi (bi b) :: rest) mem Q) : AW M pc ls st mem Q := zw_callS hM hd hM' hL hR hst hw hC (fun r m2 h => by obtain ⟨rfl, rfl⟩ := h; exact kk)
theorem zw_Sb  {b : Bool} {P : zMem → Prop} (hM : zOK M) (hd : zlook (mTbl M) pc = some (.invokestatic idx, 3, nx)) (hM' : zOK M') (hL : zLS (mOwn M) idx M' n) (hR : mFr M' + 1 ≤ mFr M ∧ 8 + (mL M' + 11) + mLo M' ≤ mLo M) (hst : zsplit n st [] = some (av, rest)) (hw : zcat rest ≤ 8) (hC : zCb M' av mem b P) (kk : ∀ m2, P m2 → AW M nx ls (vi (bi b) :: rest) m2 Q) : AW M pc ls st mem Q := zw_callS hM hd hM' hL hR hst hw hC (fun r m2 h => by obtain ⟨rfl, h⟩ := h; exact kk _ h)
theorem zw_Sv  {P : zMem → Prop} (hM : zOK M) (hd : zlook (mTbl M) pc = some (.invokestatic idx, 3, nx)) (hM' : zOK M') (hL : zLS (mOwn M) idx M' n) (hR : mFr M' + 1 ≤ mFr M ∧ 8 + (mL M' + 11) + mLo M' ≤ mLo M) (hst : zsplit n st [] = some (av, rest)) (hw : zcat rest ≤ 8) (hC : zCv M' av mem P) (kk : ∀ m2, P m2 → AW M nx ls rest m2 Q) : AW M pc ls st mem Q := zw_callS hM hd hM' hL hR hst hw hC (fun r m2 h => by obtain ⟨rfl, h⟩ := h; exact kk _ h)
theorem zw_Svp  {m3 : zMem} (hM : zOK M) (hd : zlook (mTbl M) pc = some (.invokestatic idx, 3, nx)) (hM' : zOK M') (hL : zLS (mOwn M) idx M' n) (hR : mFr M' + 1 ≤ mFr M ∧ 8 + (mL M' + 11) + mLo M' ≤ mLo M) (hst : zsplit n st [] = some (av, rest)) (hw : zcat rest ≤ 8) (hC : zCvp M' av mem m3) (kk : AW M nx ls rest m3 Q) : AW M pc ls st mem Q := zw_callS hM hd hM' hL hR hst hw hC (fun r m2 h => by obtain ⟨rfl, rfl⟩ := h; exact kk)
theorem zw_Sl  {X : Int} {P : zMem → Prop} (hM : zOK M) (hd : zlook (mTbl M) pc = some (.invokestatic idx, 3, nx)) (hM' : zOK M') (hL : zLS (mOwn M) idx M' n) (hR : mFr M' + 1 ≤ mFr M ∧ 8 + (mL M' + 11) + mLo M' ≤ mLo M) (hst : zsplit n st [] = some (av, rest)) (hw : zcat rest ≤ 8) (hC : zCl M' av mem X P) (kk : ∀ m2, P m2 → AW M nx ls (vl X :: rest) m2 Q) : AW M pc ls st mem Q := zw_callS hM hd hM' hL hR hst hw hC (fun r m2 h => by obtain ⟨rfl, h⟩ := h; exact kk _ h)
theorem zw_Slp  {X : Int} (hM : zOK M) (hd : zlook (mTbl M) pc = some (.invokestatic idx, 3, nx)) (hM' : zOK M') (hL : zLS (mOwn M) idx M' n) (hR : mFr M' + 1 ≤ mFr M ∧ 8 + (mL M' + 11) + mLo M' ≤ mLo M) (hst : zsplit n st [] = some (av, rest)) (hw : zcat rest ≤ 8) (hC : zClp M' av mem X) (kk : AW M nx ls (vl X :: rest) mem Q) : AW M pc ls st mem Q := zw_callS hM hd hM' hL hR hst hw hC (fun r m2 h => by obtain ⟨rfl, rfl⟩ := h; exact kk)
theorem zw_Srp  {k2 : Nat} (hM : zOK M) (hd : zlook (mTbl M) pc = some (.invokestatic idx, 3, nx)) (hM' : zOK M') (hL : zLS (mOwn M) idx M' n) (hR : mFr M' + 1 ≤ mFr M ∧ 8 + (mL M' + 11) + mLo M' ≤ mLo M) (hst : zsplit n st [] = some (av, rest)) (hw : zcat rest ≤ 8) (hC : zCrp M' av mem k2) (kk : AW M nx ls (vr k2 :: rest) mem Q) : AW M pc ls st mem Q := zw_callS hM hd hM' hL hR hst hw hC (fun r m2 h => by obtain ⟨rfl, rfl⟩ := h; exact kk)
theorem zw_Ni  {X : Int} {P : zMem → Prop} (hM : zOK M) (hd : zlook (mTbl M) pc = some (.invokestatic idx, 3, nx)) (hM' : zOK M') (hL : zLN (mOwn M) idx M' n) (hR : mFr M' + 1 ≤ mFr M ∧ 8 + (mL M' + 11) + mLo M' ≤ mLo M) (hst : zsplit n st [] = some (av, rest)) (hw : zcat rest ≤ 8) (hC : zCi M' av mem X P) (kk : ∀ m2, P m2 → AW M nx ls (vi X :: rest) m2 Q) : AW M pc ls st mem Q := zw_callN hM hd hM' hL hR hst hw hC (fun r m2 h => by obtain ⟨rfl, h⟩ := h; exact kk _ h)
theorem zw_Nip  {X : Int} (hM : zOK M) (hd : zlook (mTbl M) pc = some (.invokestatic idx, 3, nx)) (hM' : zOK M') (hL : zLN (mOwn M) idx M' n) (hR : mFr M' + 1 ≤ mFr M ∧ 8 + (mL M' + 11) + mLo M' ≤ mLo M) (hst : zsplit n st [] = some (av, rest)) (hw : zcat rest ≤ 8) (hC : zCip M' av mem X) (kk : AW M nx ls (vi X :: rest) mem Q) : AW M pc ls st mem Q := zw_callN hM hd hM' hL hR hst hw hC (fun r m2 h => by obtain ⟨rfl, rfl⟩ := h; exact kk)
theorem zw_Nbp  {b : Bool} (hM : zOK M) (hd : zlook (mTbl M) pc = some (.invokestatic idx, 3, nx)) (hM' : zOK M') (hL : zLN (mOwn M) idx M' n) (hR : mFr M' + 1 ≤ mFr M ∧ 8 + (mL M' + 11) + mLo M' ≤ mLo M) (hst : zsplit n st [] = some (av, rest)) (hw : zcat rest ≤ 8) (hC : zCbp M' av mem b) (kk : AW M nx ls (vi (bi b) :: rest) mem Q) : AW M pc ls st mem Q := zw_callN hM hd hM' hL hR hst hw hC (fun r m2 h => by obtain ⟨rfl, rfl⟩ := h; exact kk)
theorem zw_Nb  {b : Bool} {P : zMem → Prop} (hM : zOK M) (hd : zlook (mTbl M) pc = some (.invokestatic idx, 3, nx)) (hM' : zOK M') (hL : zLN (mOwn M) idx M' n) (hR : mFr M' + 1 ≤ mFr M ∧ 8 + (mL M' + 11) + mLo M' ≤ mLo M) (hst : zsplit n st [] = some (av, rest)) (hw : zcat rest ≤ 8) (hC : zCb M' av mem b P) (kk : ∀ m2, P m2 → AW M nx ls (vi (bi b) :: rest) m2 Q) : AW M pc ls st mem Q := zw_callN hM hd hM' hL hR hst hw hC (fun r m2 h => by obtain ⟨rfl, h⟩ := h; exact kk _ h)
theorem zw_Nv  {P : zMem → Prop} (hM : zOK M) (hd : zlook (mTbl M) pc = some (.invokestatic idx, 3, nx)) (hM' : zOK M') (hL : zLN (mOwn M) idx M' n) (hR : mFr M' + 1 ≤ mFr M ∧ 8 + (mL M' + 11) + mLo M' ≤ mLo M) (hst : zsplit n st [] = some (av, rest)) (hw : zcat rest ≤ 8) (hC : zCv M' av mem P) (kk : ∀ m2, P m2 → AW M nx ls rest m2 Q) : AW M pc ls st mem Q := zw_callN hM hd hM' hL hR hst hw hC (fun r m2 h => by obtain ⟨rfl, h⟩ := h; exact kk _ h)
theorem zw_Nvp  {m3 : zMem} (hM : zOK M) (hd : zlook (mTbl M) pc = some (.invokestatic idx, 3, nx)) (hM' : zOK M') (hL : zLN (mOwn M) idx M' n) (hR : mFr M' + 1 ≤ mFr M ∧ 8 + (mL M' + 11) + mLo M' ≤ mLo M) (hst : zsplit n st [] = some (av, rest)) (hw : zcat rest ≤ 8) (hC : zCvp M' av mem m3) (kk : AW M nx ls rest m3 Q) : AW M pc ls st mem Q := zw_callN hM hd hM' hL hR hst hw hC (fun r m2 h => by obtain ⟨rfl, rfl⟩ := h; exact kk)
theorem zw_Nl  {X : Int} {P : zMem → Prop} (hM : zOK M) (hd : zlook (mTbl M) pc = some (.invokestatic idx, 3, nx)) (hM' : zOK M') (hL : zLN (mOwn M) idx M' n) (hR : mFr M' + 1 ≤ mFr M ∧ 8 + (mL M' + 11) + mLo M' ≤ mLo M) (hst : zsplit n st [] = some (av, rest)) (hw : zcat rest ≤ 8) (hC : zCl M' av mem X P) (kk : ∀ m2, P m2 → AW M nx ls (vl X :: rest) m2 Q) : AW M pc ls st mem Q := zw_callN hM hd hM' hL hR hst hw hC (fun r m2 h => by obtain ⟨rfl, h⟩ := h; exact kk _ h)
theorem zw_Nlp  {X : Int} (hM : zOK M) (hd : zlook (mTbl M) pc = some (.invokestatic idx, 3, nx)) (hM' : zOK M') (hL : zLN (mOwn M) idx M' n) (hR : mFr M' + 1 ≤ mFr M ∧ 8 + (mL M' + 11) + mLo M' ≤ mLo M) (hst : zsplit n st [] = some (av, rest)) (hw : zcat rest ≤ 8) (hC : zClp M' av mem X) (kk : AW M nx ls (vl X :: rest) mem Q) : AW M pc ls st mem Q := zw_callN hM hd hM' hL hR hst hw hC (fun r m2 h => by obtain ⟨rfl, rfl⟩ := h; exact kk)
theorem zw_Nrp  {k2 : Nat} (hM : zOK M) (hd : zlook (mTbl M) pc = some (.invokestatic idx, 3, nx)) (hM' : zOK M') (hL : zLN (mOwn M) idx M' n) (hR : mFr M' + 1 ≤ mFr M ∧ 8 + (mL M' + 11) + mLo M' ≤ mLo M) (hst : zsplit n st [] = some (av, rest)) (hw : zcat rest ≤ 8) (hC : zCrp M' av mem k2) (kk : AW M nx ls (vr k2 :: rest) mem Q) : AW M pc ls st mem Q := zw_callN hM hd hM' hL hR hst hw hC (fun r m2 h => by obtain ⟨rfl, rfl⟩ := h; exact kk)
theorem zw_Vi {ci k : Nat} {fs : List (Option Nat)} {X : Int} {P : zMem → Prop} (hM : zOK M) (hd : zlook (mTbl M) pc = some (.invokevirtual idx, 3, nx)) (hM' : zOK M') (hL : zLV (mOwn M) idx M' ci n) (hR : mFr M' + 1 ≤ mFr M ∧ 8 + (mL M' + 11) + mLo M' ≤ mLo M) (hst : zsplit n st [] = some (av, vr k :: rest)) (hc : zrow k = (3, ci, fs)) (hw : zcat rest ≤ 8) (hC : zCi M' (vr k :: av) mem X P) (kk : ∀ m2, P m2 → AW M nx ls (vi X :: rest) m2 Q) : AW M pc ls st mem Q := zw_callV hM hd hM' hL hR hst hc hw hC (fun r m2 h => by obtain ⟨rfl, h⟩ := h; exact kk _ h)
theorem zw_Vip {ci k : Nat} {fs : List (Option Nat)} {X : Int} (hM : zOK M) (hd : zlook (mTbl M) pc = some (.invokevirtual idx, 3, nx)) (hM' : zOK M') (hL : zLV (mOwn M) idx M' ci n) (hR : mFr M' + 1 ≤ mFr M ∧ 8 + (mL M' + 11) + mLo M' ≤ mLo M) (hst : zsplit n st [] = some (av, vr k :: rest)) (hc : zrow k = (3, ci, fs)) (hw : zcat rest ≤ 8) (hC : zCip M' (vr k :: av) mem X) (kk : AW M nx ls (vi X :: rest) mem Q) : AW M pc ls st mem Q := zw_callV hM hd hM' hL hR hst hc hw hC (fun r m2 h => by obtain ⟨rfl, rfl⟩ := h; exact kk)
theorem zw_Vbp {ci k : Nat} {fs : List (Option Nat)} {b : Bool} (hM : zOK M) (hd : zlook (mTbl M) pc = some (.invokevirtual idx, 3, nx)) (hM' : zOK M') (hL : zLV (mOwn M) idx M' ci n) (hR : mFr M' + 1 ≤ mFr M ∧ 8 + (mL M' + 11) + mLo M' ≤ mLo M) (hst : zsplit n st [] = some (av, vr k :: rest)) (hc : zrow k = (3, ci, fs)) (hw : zcat rest ≤ 8) (hC : zCbp M' (vr k :: av) mem b) (kk : AW M nx ls (vi (bi b) :: rest) mem Q) : AW M pc ls st mem Q := zw_callV hM hd hM' hL hR hst hc hw hC (fun r m2 h => by obtain ⟨rfl, rfl⟩ := h; exact kk)
theorem zw_Vb {ci k : Nat} {fs : List (Option Nat)} {b : Bool} {P : zMem → Prop} (hM : zOK M) (hd : zlook (mTbl M) pc = some (.invokevirtual idx, 3, nx)) (hM' : zOK M') (hL : zLV (mOwn M) idx M' ci n) (hR : mFr M' + 1 ≤ mFr M ∧ 8 + (mL M' + 11) + mLo M' ≤ mLo M) (hst : zsplit n st [] = some (av, vr k :: rest)) (hc : zrow k = (3, ci, fs)) (hw : zcat rest ≤ 8) (hC : zCb M' (vr k :: av) mem b P) (kk : ∀ m2, P m2 → AW M nx ls (vi (bi b) :: rest) m2 Q) : AW M pc ls st mem Q := zw_callV hM hd hM' hL hR hst hc hw hC (fun r m2 h => by obtain ⟨rfl, h⟩ := h; exact kk _ h)
theorem zw_Vv {ci k : Nat} {fs : List (Option Nat)} {P : zMem → Prop} (hM : zOK M) (hd : zlook (mTbl M) pc = some (.invokevirtual idx, 3, nx)) (hM' : zOK M') (hL : zLV (mOwn M) idx M' ci n) (hR : mFr M' + 1 ≤ mFr M ∧ 8 + (mL M' + 11) + mLo M' ≤ mLo M) (hst : zsplit n st [] = some (av, vr k :: rest)) (hc : zrow k = (3, ci, fs)) (hw : zcat rest ≤ 8) (hC : zCv M' (vr k :: av) mem P) (kk : ∀ m2, P m2 → AW M nx ls rest m2 Q) : AW M pc ls st mem Q := zw_callV hM hd hM' hL hR hst hc hw hC (fun r m2 h => by obtain ⟨rfl, h⟩ := h; exact kk _ h)
theorem zw_Vvp {ci k : Nat} {fs : List (Option Nat)} {m3 : zMem} (hM : zOK M) (hd : zlook (mTbl M) pc = some (.invokevirtual idx, 3, nx)) (hM' : zOK M') (hL : zLV (mOwn M) idx M' ci n) (hR : mFr M' + 1 ≤ mFr M ∧ 8 + (mL M' + 11) + mLo M' ≤ mLo M) (hst : zsplit n st [] = some (av, vr k :: rest)) (hc : zrow k = (3, ci, fs)) (hw : zcat rest ≤ 8) (hC : zCvp M' (vr k :: av) mem m3) (kk : AW M nx ls rest m3 Q) : AW M pc ls st mem Q := zw_callV hM hd hM' hL hR hst hc hw hC (fun r m2 h => by obtain ⟨rfl, rfl⟩ := h; exact kk)
theorem zw_Vl {ci k : Nat} {fs : List (Option Nat)} {X : Int} {P : zMem → Prop} (hM : zOK M) (hd : zlook (mTbl M) pc = some (.invokevirtual idx, 3, nx)) (hM' : zOK M') (hL : zLV (mOwn M) idx M' ci n) (hR : mFr M' + 1 ≤ mFr M ∧ 8 + (mL M' + 11) + mLo M' ≤ mLo M) (hst : zsplit n st [] = some (av, vr k :: rest)) (hc : zrow k = (3, ci, fs)) (hw : zcat rest ≤ 8) (hC : zCl M' (vr k :: av) mem X P) (kk : ∀ m2, P m2 → AW M nx ls (vl X :: rest) m2 Q) : AW M pc ls st mem Q := zw_callV hM hd hM' hL hR hst hc hw hC (fun r m2 h => by obtain ⟨rfl, h⟩ := h; exact kk _ h)
theorem zw_Vlp {ci k : Nat} {fs : List (Option Nat)} {X : Int} (hM : zOK M) (hd : zlook (mTbl M) pc = some (.invokevirtual idx, 3, nx)) (hM' : zOK M') (hL : zLV (mOwn M) idx M' ci n) (hR : mFr M' + 1 ≤ mFr M ∧ 8 + (mL M' + 11) + mLo M' ≤ mLo M) (hst : zsplit n st [] = some (av, vr k :: rest)) (hc : zrow k = (3, ci, fs)) (hw : zcat rest ≤ 8) (hC : zClp M' (vr k :: av) mem X) (kk : AW M nx ls (vl X :: rest) mem Q) : AW M pc ls st mem Q := zw_callV hM hd hM' hL hR hst hc hw hC (fun r m2 h => by obtain ⟨rfl, rfl⟩ := h; exact kk)
theorem zw_Vrp {ci k : Nat} {fs : List (Option Nat)} {k2 : Nat} (hM : zOK M) (hd : zlook (mTbl M) pc = some (.invokevirtual idx, 3, nx)) (hM' : zOK M') (hL : zLV (mOwn M) idx M' ci n) (hR : mFr M' + 1 ≤ mFr M ∧ 8 + (mL M' + 11) + mLo M' ≤ mLo M) (hst : zsplit n st [] = some (av, vr k :: rest)) (hc : zrow k = (3, ci, fs)) (hw : zcat rest ≤ 8) (hC : zCrp M' (vr k :: av) mem k2) (kk : AW M nx ls (vr k2 :: rest) mem Q) : AW M pc ls st mem Q := zw_callV hM hd hM' hL hR hst hc hw hC (fun r m2 h => by obtain ⟨rfl, rfl⟩ := h; exact kk)
end ZCW
end
section
/-! ===== the methods: their rows, rooms and links (by program) ===== -/
def m_Jarr_fill_d0a16 : zMth := (RJ7, yJ7_fill_d0a16, cJ7_fill_d0a16, 5, none, 0, 0, [(0, .iconst 0, 1, 1), (1, .istore_n 3, 1, 2), (2, .aload_n 0, 1, 3), (3, .arraylength, 1, 4), (4, .istore 4, 2, 6), (6, .iload_n 3, 1, 7), (7, .iload 4, 2, 9), (9, .if_icmp .ge 13, 3, 12), (12, .aload_n 0, 1, 13), (13, .iload_n 3, 1, 14), (14, .lload_n 1, 1, 15), (15, .lastore, 1, 16), (16, .iinc 3 1, 3, 19), (19, .goto (-13), 3, 22), (22, .return_, 1, 23)])
theorem ok_Jarr_fill_d0a16 : zOK m_Jarr_fill_d0a16 := ⟨by decide +kernel, by decide +kernel, rfl, by decide +kernel⟩
def m_Ch_weightOf : zMth := (RX0, yX0_weightOf, cX0_weightOf, 6, (some .long), 0, 0, [(0, .lconst 1, 1, 1), (1, .lstore_n 3, 1, 2), (2, .iconst 0, 1, 3), (3, .istore 5, 2, 5), (5, .iload 5, 2, 7), (7, .aload_n 0, 1, 8), (8, .getfield 15, 3, 11), (11, .getfield 25, 3, 14), (14, .getfield 31, 3, 17), (17, .if_icmp .ge 31, 3, 20), (20, .lload_n 3, 1, 21), (21, .iload_n 1, 1, 22), (22, .iload 5, 2, 24), (24, .ishr, 1, 25), (25, .iconst 1, 1, 26), (26, .iand, 1, 27), (27, .ifCond .eq 8, 3, 30), (30, .iload_n 2, 1, 31), (31, .i2l, 1, 32), (32, .goto 8, 3, 35), (35, .bipush 16, 2, 37), (37, .iload_n 2, 1, 38), (38, .isub, 1, 39), (39, .i2l, 1, 40), (40, .lmul, 1, 41), (41, .lstore_n 3, 1, 42), (42, .iinc 5 1, 3, 45), (45, .goto (-40), 3, 48), (48, .lload_n 3, 1, 49), (49, .lreturn, 1, 50)])
theorem ok_Ch_weightOf : zOK m_Ch_weightOf := ⟨by decide +kernel, by decide +kernel, rfl, by decide +kernel⟩
def m_Jarr_fill_53178 : zMth := (RJ7, yJ7_fill_53178, cJ7_fill_53178, 4, none, 0, 0, [(0, .iconst 0, 1, 1), (1, .istore_n 2, 1, 2), (2, .aload_n 0, 1, 3), (3, .arraylength, 1, 4), (4, .istore_n 3, 1, 5), (5, .iload_n 2, 1, 6), (6, .iload_n 3, 1, 7), (7, .if_icmp .ge 13, 3, 10), (10, .aload_n 0, 1, 11), (11, .iload_n 2, 1, 12), (12, .iload_n 1, 1, 13), (13, .iastore, 1, 14), (14, .iinc 2 1, 3, 17), (17, .goto (-12), 3, 20), (20, .return_, 1, 21)])
theorem ok_Jarr_fill_53178 : zOK m_Jarr_fill_53178 := ⟨by decide +kernel, by decide +kernel, rfl, by decide +kernel⟩
def m_Co_expectFirstBows : zMth := (RX2, yX2_expectFirstBows, cX2_expectFirstBows, 4, none, 0, 0, [(0, .iconst 0, 1, 1), (1, .istore_n 1, 1, 2), (2, .iload_n 1, 1, 3), (3, .aload_n 0, 1, 4), (4, .getfield 27, 3, 7), (7, .getfield 90, 3, 10), (10, .if_icmp .ge 82, 3, 13), (13, .iload_n 1, 1, 14), (14, .iconst 1, 1, 15), (15, .iadd, 1, 16), (16, .istore_n 2, 1, 17), (17, .iload_n 2, 1, 18), (18, .aload_n 0, 1, 19), (19, .getfield 27, 3, 22), (22, .getfield 90, 3, 25), (25, .if_icmp .ge 61, 3, 28), (28, .aload_n 0, 1, 29), (29, .getfield 27, 3, 32), (32, .getfield 93, 3, 35), (35, .iload_n 1, 1, 36), (36, .iaload, 1, 37), (37, .iconst 1, 1, 38), (38, .if_icmp .ne 20, 3, 41), (41, .aload_n 0, 1, 42), (42, .getfield 27, 3, 45), (45, .getfield 93, 3, 48), (48, .iload_n 2, 1, 49), (49, .iaload, 1, 50), (50, .iconst 1, 1, 51), (51, .if_icmp .eq 7, 3, 54), (54, .iconst 1, 1, 55), (55, .goto 4, 3, 58), (58, .iconst 0, 1, 59), (59, .istore_n 3, 1, 60), (60, .aload_n 0, 1, 61), (61, .getfield 18, 3, 64), (64, .iload_n 1, 1, 65), (65, .bipush 8, 2, 67), (67, .imul, 1, 68), (68, .iload_n 2, 1, 69), (69, .iadd, 1, 70), (70, .iload_n 3, 1, 71), (71, .ifCond .eq 7, 3, 74), (74, .iconst (-1), 1, 75), (75, .goto 4, 3, 78), (78, .iconst 1, 1, 79), (79, .iastore, 1, 80), (80, .iinc 2 1, 3, 83), (83, .goto (-66), 3, 86), (86, .iinc 1 1, 3, 89), (89, .goto (-87), 3, 92), (92, .return_, 1, 93)])
theorem ok_Co_expectFirstBows : zOK m_Co_expectFirstBows := ⟨by decide +kernel, by decide +kernel, rfl, by decide +kernel⟩
def m_Co_expectAnswerTo : zMth := (RX2, yX2_expectAnswerTo, cX2_expectAnswerTo, 5, none, 0, 0, [(0, .iload_n 3, 1, 1), (1, .aload_n 0, 1, 2), (2, .getfield 27, 3, 5), (5, .getfield 96, 3, 8), (8, .iload_n 2, 1, 9), (9, .iaload, 1, 10), (10, .iadd, 1, 11), (11, .istore 4, 2, 13), (13, .iload_n 1, 1, 14), (14, .iload_n 2, 1, 15), (15, .if_icmp .ge 20, 3, 18), (18, .aload_n 0, 1, 19), (19, .getfield 18, 3, 22), (22, .iload_n 1, 1, 23), (23, .bipush 8, 2, 25), (25, .imul, 1, 26), (26, .iload_n 2, 1, 27), (27, .iadd, 1, 28), (28, .iload 4, 2, 30), (30, .ineg, 1, 31), (31, .iastore, 1, 32), (32, .goto 16, 3, 35), (35, .aload_n 0, 1, 36), (36, .getfield 18, 3, 39), (39, .iload_n 2, 1, 40), (40, .bipush 8, 2, 42), (42, .imul, 1, 43), (43, .iload_n 1, 1, 44), (44, .iadd, 1, 45), (45, .iload 4, 2, 47), (47, .iastore, 1, 48), (48, .return_, 1, 49)])
theorem ok_Co_expectAnswerTo : zOK m_Co_expectAnswerTo := ⟨by decide +kernel, by decide +kernel, rfl, by decide +kernel⟩
def m_Co_layOut : zMth := (RX2, yX2_layOut, cX2_layOut, 4, none, 1, 48, [(0, .aload_n 0, 1, 1), (1, .getfield 31, 3, 4), (4, .getfield 53, 3, 7), (7, .iconst 0, 1, 8), (8, .aload_n 0, 1, 9), (9, .getfield 9, 3, 12), (12, .iconst 0, 1, 13), (13, .aload_n 0, 1, 14), (14, .getfield 9, 3, 17), (17, .arraylength, 1, 18), (18, .invokestatic 56, 3, 21), (21, .aload_n 0, 1, 22), (22, .getfield 15, 3, 25), (25, .iconst 0, 1, 26), (26, .invokestatic 62, 3, 29), (29, .iconst 0, 1, 30), (30, .istore_n 3, 1, 31), (31, .iload_n 3, 1, 32), (32, .aload_n 0, 1, 33), (33, .getfield 39, 3, 36), (36, .getfield 68, 3, 39), (39, .if_icmp .ge 45, 3, 42), (42, .iload_n 2, 1, 43), (43, .iload_n 3, 1, 44), (44, .ishr, 1, 45), (45, .iconst 1, 1, 46), (46, .iand, 1, 47), (47, .ifCond .ne 31, 3, 50), (50, .aload_n 0, 1, 51), (51, .getfield 15, 3, 54), (54, .aload_n 0, 1, 55), (55, .getfield 39, 3, 58), (58, .getfield 74, 3, 61), (61, .iload_n 3, 1, 62), (62, .iaload, 1, 63), (63, .dup2, 1, 64), (64, .iaload, 1, 65), (65, .iconst 1, 1, 66), (66, .aload_n 0, 1, 67), (67, .getfield 39, 3, 70), (70, .getfield 77, 3, 73), (73, .iload_n 3, 1, 74), (74, .iaload, 1, 75), (75, .ishl, 1, 76), (76, .ior, 1, 77), (77, .iastore, 1, 78), (78, .iinc 3 1, 3, 81), (81, .goto (-50), 3, 84), (84, .aload_n 0, 1, 85), (85, .invokevirtual 80, 3, 88), (88, .iconst 0, 1, 89), (89, .istore_n 3, 1, 90), (90, .iload_n 3, 1, 91), (91, .aload_n 0, 1, 92), (92, .getfield 35, 3, 95), (95, .getfield 68, 3, 98), (98, .if_icmp .ge 45, 3, 101), (101, .iload_n 3, 1, 102), (102, .iload_n 1, 1, 103), (103, .if_icmp .eq 34, 3, 106), (106, .aload_n 0, 1, 107), (107, .aload_n 0, 1, 108), (108, .getfield 35, 3, 111), (111, .getfield 74, 3, 114), (114, .iload_n 3, 1, 115), (115, .iaload, 1, 116), (116, .aload_n 0, 1, 117), (117, .getfield 35, 3, 120), (120, .getfield 77, 3, 123), (123, .iload_n 3, 1, 124), (124, .iaload, 1, 125), (125, .aload_n 0, 1, 126), (126, .getfield 35, 3, 129), (129, .getfield 83, 3, 132), (132, .iload_n 3, 1, 133), (133, .iaload, 1, 134), (134, .invokevirtual 86, 3, 137), (137, .iinc 3 1, 3, 140), (140, .goto (-50), 3, 143), (143, .return_, 1, 144)])
theorem ok_Co_layOut : zOK m_Co_layOut := ⟨by decide +kernel, by decide +kernel, rfl, by decide +kernel⟩
def m_Co_begin : zMth := (RX2, yX2_begin, cX2_begin, 1, none, 1, 48, [(0, .aload_n 0, 1, 1), (1, .getfield 18, 3, 4), (4, .iconst 0, 1, 5), (5, .aload_n 0, 1, 6), (6, .getfield 21, 3, 9), (9, .iconst 0, 1, 10), (10, .aload_n 0, 1, 11), (11, .getfield 21, 3, 14), (14, .arraylength, 1, 15), (15, .invokestatic 56, 3, 18), (18, .aload_n 0, 1, 19), (19, .getfield 24, 3, 22), (22, .iconst 0, 1, 23), (23, .invokestatic 62, 3, 26), (26, .aload_n 0, 1, 27), (27, .iconst 0, 1, 28), (28, .putfield 99, 3, 31), (31, .aload_n 0, 1, 32), (32, .iconst 0, 1, 33), (33, .putfield 102, 3, 36), (36, .aload_n 0, 1, 37), (37, .iconst (-1), 1, 38), (38, .putfield 105, 3, 41), (41, .aload_n 0, 1, 42), (42, .iconst (-1), 1, 43), (43, .putfield 108, 3, 46), (46, .return_, 1, 47)])
theorem ok_Co_begin : zOK m_Co_begin := ⟨by decide +kernel, by decide +kernel, rfl, by decide +kernel⟩
def m_Co_meet : zMth := (RX2, yX2_meet, cX2_meet, 9, none, 1, 21, [(0, .iload_n 1, 1, 1), (1, .iload_n 2, 1, 2), (2, .invokestatic 120, 3, 5), (5, .istore_n 3, 1, 6), (6, .iload_n 1, 1, 7), (7, .iload_n 2, 1, 8), (8, .invokestatic 126, 3, 11), (11, .istore 4, 2, 13), (13, .iload_n 3, 1, 14), (14, .bipush 8, 2, 16), (16, .imul, 1, 17), (17, .iload 4, 2, 19), (19, .iadd, 1, 20), (20, .istore 5, 2, 22), (22, .aload_n 0, 1, 23), (23, .getfield 21, 3, 26), (26, .iload 5, 2, 28), (28, .iaload, 1, 29), (29, .istore 6, 2, 31), (31, .iload 6, 2, 33), (33, .ifCond .le 7, 3, 36), (36, .iload_n 3, 1, 37), (37, .goto 5, 3, 40), (40, .iload 4, 2, 42), (42, .istore 7, 2, 44), (44, .iload 6, 2, 46), (46, .invokestatic 129, 3, 49), (49, .istore 8, 2, 51), (51, .iload 8, 2, 53), (53, .aload_n 0, 1, 54), (54, .getfield 27, 3, 57), (57, .getfield 133, 3, 60), (60, .iload 7, 2, 62), (62, .iaload, 1, 63), (63, .if_icmp .le 39, 3, 66), (66, .aload_n 0, 1, 67), (67, .aload_n 0, 1, 68), (68, .getfield 99, 3, 71), (71, .ifCond .ne 8, 3, 74), (74, .iload 7, 2, 76), (76, .goto 7, 3, 79), (79, .aload_n 0, 1, 80), (80, .getfield 108, 3, 83), (83, .putfield 108, 3, 86), (86, .aload_n 0, 1, 87), (87, .dup, 1, 88), (88, .getfield 99, 3, 91), (91, .iconst 1, 1, 92), (92, .iload 7, 2, 94), (94, .ishl, 1, 95), (95, .ior, 1, 96), (96, .putfield 99, 3, 99), (99, .goto 73, 3, 102), (102, .aload_n 0, 1, 103), (103, .getfield 21, 3, 106), (106, .iload 5, 2, 108), (108, .iload 6, 2, 110), (110, .ifCond .le 20, 3, 113), (113, .iload 8, 2, 115), (115, .aload_n 0, 1, 116), (116, .getfield 27, 3, 119), (119, .getfield 96, 3, 122), (122, .iload 4, 2, 124), (124, .iaload, 1, 125), (125, .iadd, 1, 126), (126, .ineg, 1, 127), (127, .goto 15, 3, 130), (130, .iload 8, 2, 132), (132, .aload_n 0, 1, 133), (133, .getfield 27, 3, 136), (136, .getfield 96, 3, 139), (139, .iload_n 3, 1, 140), (140, .iaload, 1, 141), (141, .iadd, 1, 142), (142, .iastore, 1, 143), (143, .aload_n 0, 1, 144), (144, .getfield 24, 3, 147), (147, .iload 7, 2, 149), (149, .aload_n 0, 1, 150), (150, .getfield 24, 3, 153), (153, .iload 7, 2, 155), (155, .iaload, 1, 156), (156, .iload 8, 2, 158), (158, .invokestatic 126, 3, 161), (161, .iastore, 1, 162), (162, .aload_n 0, 1, 163), (163, .dup, 1, 164), (164, .getfield 102, 3, 167), (167, .iconst 1, 1, 168), (168, .iadd, 1, 169), (169, .putfield 102, 3, 172), (172, .return_, 1, 173)])
theorem ok_Co_meet : zOK m_Co_meet := ⟨by decide +kernel, by decide +kernel, rfl, by decide +kernel⟩
def m_Co_walkThrough : zMth := (RX2, yX2_walkThrough, cX2_walkThrough, 8, none, 2, 49, [(0, .iload_n 1, 1, 1), (1, .bipush 8, 2, 3), (3, .imul, 1, 4), (4, .istore_n 2, 1, 5), (5, .aload_n 0, 1, 6), (6, .getfield 15, 3, 9), (9, .iload_n 1, 1, 10), (10, .iaload, 1, 11), (11, .aload_n 0, 1, 12), (12, .getfield 27, 3, 15), (15, .getfield 114, 3, 18), (18, .ior, 1, 19), (19, .istore_n 3, 1, 20), (20, .iconst 0, 1, 21), (21, .istore 4, 2, 23), (23, .iload 4, 2, 25), (25, .aload_n 0, 1, 26), (26, .getfield 27, 3, 29), (29, .getfield 90, 3, 32), (32, .if_icmp .ge 100, 3, 35), (35, .aload_n 0, 1, 36), (36, .getfield 9, 3, 39), (39, .iload_n 2, 1, 40), (40, .iload 4, 2, 42), (42, .iadd, 1, 43), (43, .iaload, 1, 44), (44, .istore 5, 2, 46), (46, .iload 4, 2, 48), (48, .iconst 1, 1, 49), (49, .iadd, 1, 50), (50, .istore 6, 2, 52), (52, .iload 5, 2, 54), (54, .iconst (-1), 1, 55), (55, .if_icmp .eq 71, 3, 58), (58, .iload 6, 2, 60), (60, .aload_n 0, 1, 61), (61, .getfield 27, 3, 64), (64, .getfield 90, 3, 67), (67, .if_icmp .ge 59, 3, 70), (70, .iload_n 3, 1, 71), (71, .aload_n 0, 1, 72), (72, .getfield 99, 3, 75), (75, .ior, 1, 76), (76, .istore 7, 2, 78), (78, .aload_n 0, 1, 79), (79, .getfield 9, 3, 82), (82, .iload_n 2, 1, 83), (83, .iload 6, 2, 85), (85, .iadd, 1, 86), (86, .iaload, 1, 87), (87, .iload 5, 2, 89), (89, .if_icmp .ne 31, 3, 92), (92, .iload 7, 2, 94), (94, .iload 4, 2, 96), (96, .ishr, 1, 97), (97, .iconst 1, 1, 98), (98, .iand, 1, 99), (99, .ifCond .ne 21, 3, 102), (102, .iload 7, 2, 104), (104, .iload 6, 2, 106), (106, .ishr, 1, 107), (107, .iconst 1, 1, 108), (108, .iand, 1, 109), (109, .ifCond .ne 11, 3, 112), (112, .aload_n 0, 1, 113), (113, .iload 4, 2, 115), (115, .iload 6, 2, 117), (117, .invokevirtual 117, 3, 120), (120, .iinc 6 1, 3, 123), (123, .goto (-71), 3, 126), (126, .iinc 4 1, 3, 129), (129, .goto (-106), 3, 132), (132, .aload_n 0, 1, 133), (133, .getfield 99, 3, 136), (136, .ifCond .eq 16, 3, 139), (139, .aload_n 0, 1, 140), (140, .getfield 105, 3, 143), (143, .iconst (-1), 1, 144), (144, .if_icmp .ne 8, 3, 147), (147, .aload_n 0, 1, 148), (148, .iload_n 1, 1, 149), (149, .putfield 105, 3, 152), (152, .return_, 1, 153)])
theorem ok_Co_walkThrough : zOK m_Co_walkThrough := ⟨by decide +kernel, by decide +kernel, rfl, by decide +kernel⟩
def m_Co_walkTo : zMth := (RX2, yX2_walkTo, cX2_walkTo, 3, none, 3, 76, [(0, .iconst 0, 1, 1), (1, .istore_n 2, 1, 2), (2, .iload_n 2, 1, 3), (3, .iload_n 1, 1, 4), (4, .if_icmp .gt 20, 3, 7), (7, .iload_n 2, 1, 8), (8, .bipush 12, 2, 10), (10, .if_icmp .ge 14, 3, 13), (13, .aload_n 0, 1, 14), (14, .iload_n 2, 1, 15), (15, .invokevirtual 111, 3, 18), (18, .iinc 2 1, 3, 21), (21, .goto (-19), 3, 24), (24, .return_, 1, 25)])
theorem ok_Co_walkTo : zOK m_Co_walkTo := ⟨by decide +kernel, by decide +kernel, rfl, by decide +kernel⟩
def m_Co_isGone : zMth := (RX2, yX2_isGone, cX2_isGone, 2, (some .boolean), 0, 0, [(0, .aload_n 0, 1, 1), (1, .getfield 99, 3, 4), (4, .iload_n 1, 1, 5), (5, .ishr, 1, 6), (6, .iconst 1, 1, 7), (7, .iand, 1, 8), (8, .ifCond .eq 7, 3, 11), (11, .iconst 1, 1, 12), (12, .goto 4, 3, 15), (15, .iconst 0, 1, 16), (16, .ireturn, 1, 17)])
theorem ok_Co_isGone : zOK m_Co_isGone := ⟨by decide +kernel, by decide +kernel, rfl, by decide +kernel⟩
def m_Ch_addToGone : zMth := (RX0, yX0_addToGone, cX0_addToGone, 4, none, 1, 21, [(0, .iconst 0, 1, 1), (1, .istore_n 3, 1, 2), (2, .iload_n 3, 1, 3), (3, .aload_n 0, 1, 4), (4, .getfield 15, 3, 7), (7, .getfield 64, 3, 10), (10, .getfield 68, 3, 13), (13, .if_icmp .ge 30, 3, 16), (16, .aload_n 0, 1, 17), (17, .getfield 15, 3, 20), (20, .iload_n 3, 1, 21), (21, .invokevirtual 71, 3, 24), (24, .ifCond .eq 13, 3, 27), (27, .aload_n 0, 1, 28), (28, .getfield 9, 3, 31), (31, .iload_n 3, 1, 32), (32, .dup2, 1, 33), (33, .laload, 1, 34), (34, .lload_n 1, 1, 35), (35, .ladd, 1, 36), (36, .lastore, 1, 37), (37, .iinc 3 1, 3, 40), (40, .goto (-38), 3, 43), (43, .return_, 1, 44)])
theorem ok_Ch_addToGone : zOK m_Ch_addToGone := ⟨by decide +kernel, by decide +kernel, rfl, by decide +kernel⟩
def m_Ch_weigh : zMth := (RX0, yX0_weigh, cX0_weigh, 7, none, 4, 98, [(0, .aload_n 0, 1, 1), (1, .getfield 9, 3, 4), (4, .lconst 0, 1, 5), (5, .invokestatic 19, 3, 8), (8, .iconst 1, 1, 9), (9, .aload_n 0, 1, 10), (10, .getfield 15, 3, 13), (13, .getfield 25, 3, 16), (16, .getfield 31, 3, 19), (19, .ishl, 1, 20), (20, .istore_n 3, 1, 21), (21, .iconst 0, 1, 22), (22, .istore 4, 2, 24), (24, .iload 4, 2, 26), (26, .iload_n 3, 1, 27), (27, .if_icmp .ge 56, 3, 30), (30, .aload_n 0, 1, 31), (31, .iload 4, 2, 33), (33, .iload_n 1, 1, 34), (34, .invokevirtual 37, 3, 37), (37, .lstore 5, 2, 39), (39, .lload 5, 2, 41), (41, .lconst 0, 1, 42), (42, .lcmp, 1, 43), (43, .ifCond .eq 34, 3, 46), (46, .aload_n 0, 1, 47), (47, .getfield 15, 3, 50), (50, .iconst (-1), 1, 51), (51, .iload 4, 2, 53), (53, .invokevirtual 41, 3, 56), (56, .aload_n 0, 1, 57), (57, .getfield 15, 3, 60), (60, .invokevirtual 45, 3, 63), (63, .aload_n 0, 1, 64), (64, .getfield 15, 3, 67), (67, .iload_n 2, 1, 68), (68, .invokevirtual 48, 3, 71), (71, .aload_n 0, 1, 72), (72, .lload 5, 2, 74), (74, .invokevirtual 52, 3, 77), (77, .iinc 4 1, 3, 80), (80, .goto (-56), 3, 83), (83, .return_, 1, 84)])
theorem ok_Ch_weigh : zOK m_Ch_weigh := ⟨by decide +kernel, by decide +kernel, rfl, by decide +kernel⟩
def m_Ch_bitsOfWhole : zMth := (RX0, yX0_bitsOfWhole, cX0_bitsOfWhole, 1, (some .int), 0, 0, [(0, .iconst 4, 1, 1), (1, .aload_n 0, 1, 2), (2, .getfield 15, 3, 5), (5, .getfield 25, 3, 8), (8, .getfield 31, 3, 11), (11, .imul, 1, 12), (12, .ireturn, 1, 13)])
theorem ok_Ch_bitsOfWhole : zOK m_Ch_bitsOfWhole := ⟨by decide +kernel, by decide +kernel, rfl, by decide +kernel⟩
def m_Ch_halvings : zMth := (RX0, yX0_halvings, cX0_halvings, 3, (some .int), 1, 20, [(0, .iconst 0, 1, 1), (1, .istore_n 2, 1, 2), (2, .iload_n 2, 1, 3), (3, .aload_n 0, 1, 4), (4, .invokevirtual 60, 3, 7), (7, .if_icmp .ge 24, 3, 10), (10, .aload_n 0, 1, 11), (11, .getfield 9, 3, 14), (14, .iload_n 1, 1, 15), (15, .laload, 1, 16), (16, .iload_n 2, 1, 17), (17, .lshr, 1, 18), (18, .lconst 1, 1, 19), (19, .land, 1, 20), (20, .lconst 0, 1, 21), (21, .lcmp, 1, 22), (22, .ifCond .ne 9, 3, 25), (25, .iinc 2 1, 3, 28), (28, .goto (-26), 3, 31), (31, .iload_n 2, 1, 32), (32, .ireturn, 1, 33)])
theorem ok_Ch_halvings : zOK m_Ch_halvings := ⟨by decide +kernel, by decide +kernel, rfl, by decide +kernel⟩
def m_Ch_above : zMth := (RX0, yX0_above, cX0_above, 2, (some .long), 2, 42, [(0, .aload_n 0, 1, 1), (1, .getfield 9, 3, 4), (4, .iload_n 1, 1, 5), (5, .laload, 1, 6), (6, .aload_n 0, 1, 7), (7, .iload_n 1, 1, 8), (8, .invokevirtual 56, 3, 11), (11, .lshr, 1, 12), (12, .lreturn, 1, 13)])
theorem ok_Ch_above : zOK m_Ch_above := ⟨by decide +kernel, by decide +kernel, rfl, by decide +kernel⟩
def m_Ch_below : zMth := (RX0, yX0_below, cX0_below, 2, (some .long), 2, 42, [(0, .lconst 1, 1, 1), (1, .aload_n 0, 1, 2), (2, .invokevirtual 60, 3, 5), (5, .aload_n 0, 1, 6), (6, .iload_n 1, 1, 7), (7, .invokevirtual 56, 3, 10), (10, .isub, 1, 11), (11, .lshl, 1, 12), (12, .lreturn, 1, 13)])
theorem ok_Ch_below : zOK m_Ch_below := ⟨by decide +kernel, by decide +kernel, rfl, by decide +kernel⟩
def m_Cl_isAsSeenBehind : zMth := (RX1, yX1_isAsSeenBehind, cX1_isAsSeenBehind, 4, (some .boolean), 0, 0, [(0, .iconst 0, 1, 1), (1, .istore_n 2, 1, 2), (2, .iload_n 2, 1, 3), (3, .aload_n 0, 1, 4), (4, .getfield 19, 3, 7), (7, .getfield 28, 3, 10), (10, .if_icmp .ge 69, 3, 13), (13, .aload_n 0, 1, 14), (14, .getfield 19, 3, 17), (17, .getfield 80, 3, 20), (20, .iload_n 2, 1, 21), (21, .iaload, 1, 22), (22, .istore_n 3, 1, 23), (23, .aload_n 0, 1, 24), (24, .getfield 19, 3, 27), (27, .getfield 83, 3, 30), (30, .iload_n 2, 1, 31), (31, .iaload, 1, 32), (32, .iload_n 1, 1, 33), (33, .if_icmp .ne 40, 3, 36), (36, .iload_n 3, 1, 37), (37, .aload_n 0, 1, 38), (38, .getfield 15, 3, 41), (41, .getfield 58, 3, 44), (44, .getfield 62, 3, 47), (47, .if_icmp .ge 24, 3, 50), (50, .aload_n 0, 1, 51), (51, .getfield 15, 3, 54), (54, .getfield 42, 3, 57), (57, .iload_n 3, 1, 58), (58, .iaload, 1, 59), (59, .aload_n 0, 1, 60), (60, .getfield 19, 3, 63), (63, .getfield 86, 3, 66), (66, .iload_n 2, 1, 67), (67, .iaload, 1, 68), (68, .if_icmp .eq 5, 3, 71), (71, .iconst 0, 1, 72), (72, .ireturn, 1, 73), (73, .iinc 2 1, 3, 76), (76, .goto (-74), 3, 79), (79, .iconst 1, 1, 80), (80, .ireturn, 1, 81)])
theorem ok_Cl_isAsSeenBehind : zOK m_Cl_isAsSeenBehind := ⟨by decide +kernel, by decide +kernel, rfl, by decide +kernel⟩
def m_Cl_comesOutAsSeen : zMth := (RX1, yX1_comesOutAsSeen, cX1_comesOutAsSeen, 3, (some .boolean), 3, 76, [(0, .iconst 1, 1, 1), (1, .istore_n 1, 1, 2), (2, .aload_n 0, 1, 3), (3, .getfield 15, 3, 6), (6, .invokevirtual 69, 3, 9), (9, .iconst 0, 1, 10), (10, .istore_n 2, 1, 11), (11, .iload_n 2, 1, 12), (12, .bipush 12, 2, 14), (14, .if_icmp .ge 27, 3, 17), (17, .iload_n 1, 1, 18), (18, .ifCond .eq 23, 3, 21), (21, .aload_n 0, 1, 22), (22, .getfield 15, 3, 25), (25, .iload_n 2, 1, 26), (26, .invokevirtual 72, 3, 29), (29, .aload_n 0, 1, 30), (30, .iload_n 2, 1, 31), (31, .invokevirtual 76, 3, 34), (34, .istore_n 1, 1, 35), (35, .iinc 2 1, 3, 38), (38, .goto (-27), 3, 41), (41, .iload_n 1, 1, 42), (42, .ireturn, 1, 43)])
theorem ok_Cl_comesOutAsSeen : zOK m_Cl_comesOutAsSeen := ⟨by decide +kernel, by decide +kernel, rfl, by decide +kernel⟩
def m_Cl_oldBowsThatNeverWere : zMth := (RX1, yX1_oldBowsThatNeverWere, cX1_oldBowsThatNeverWere, 3, (some .int), 4, 98, [(0, .iconst 0, 1, 1), (1, .istore_n 1, 1, 2), (2, .iconst 0, 1, 3), (3, .istore_n 2, 1, 4), (4, .iload_n 2, 1, 5), (5, .aload_n 0, 1, 6), (6, .getfield 15, 3, 9), (9, .getfield 23, 3, 12), (12, .getfield 28, 3, 15), (15, .if_icmp .ge 52, 3, 18), (18, .aload_n 0, 1, 19), (19, .getfield 15, 3, 22), (22, .iload_n 2, 1, 23), (23, .iconst 0, 1, 24), (24, .invokevirtual 34, 3, 27), (27, .aload_n 0, 1, 28), (28, .invokevirtual 38, 3, 31), (31, .ifCond .eq 30, 3, 34), (34, .iload_n 1, 1, 35), (35, .iconst 1, 1, 36), (36, .iload_n 2, 1, 37), (37, .ishl, 1, 38), (38, .ior, 1, 39), (39, .istore_n 1, 1, 40), (40, .aload_n 0, 1, 41), (41, .getfield 15, 3, 44), (44, .getfield 42, 3, 47), (47, .iconst 0, 1, 48), (48, .aload_n 0, 1, 49), (49, .getfield 9, 3, 52), (52, .iload_n 2, 1, 53), (53, .bipush 8, 2, 55), (55, .imul, 1, 56), (56, .bipush 8, 2, 58), (58, .invokestatic 45, 3, 61), (61, .iinc 2 1, 3, 64), (64, .goto (-60), 3, 67), (67, .iload_n 1, 1, 68), (68, .ireturn, 1, 69)])
theorem ok_Cl_oldBowsThatNeverWere : zOK m_Cl_oldBowsThatNeverWere := ⟨by decide +kernel, by decide +kernel, rfl, by decide +kernel⟩
def m_Cl_umbrellasLeft : zMth := (RX1, yX1_umbrellasLeft, cX1_umbrellasLeft, 3, (some .int), 4, 98, [(0, .iconst 0, 1, 1), (1, .istore_n 1, 1, 2), (2, .iconst 0, 1, 3), (3, .istore_n 2, 1, 4), (4, .iload_n 2, 1, 5), (5, .aload_n 0, 1, 6), (6, .getfield 15, 3, 9), (9, .getfield 51, 3, 12), (12, .getfield 28, 3, 15), (15, .if_icmp .ge 33, 3, 18), (18, .aload_n 0, 1, 19), (19, .getfield 15, 3, 22), (22, .iconst (-1), 1, 23), (23, .iconst 1, 1, 24), (24, .iload_n 2, 1, 25), (25, .ishl, 1, 26), (26, .invokevirtual 34, 3, 29), (29, .aload_n 0, 1, 30), (30, .invokevirtual 38, 3, 33), (33, .ifCond .eq 9, 3, 36), (36, .iload_n 1, 1, 37), (37, .iconst 1, 1, 38), (38, .iload_n 2, 1, 39), (39, .ishl, 1, 40), (40, .ior, 1, 41), (41, .istore_n 1, 1, 42), (42, .iinc 2 1, 3, 45), (45, .goto (-41), 3, 48), (48, .iload_n 1, 1, 49), (49, .ireturn, 1, 50)])
theorem ok_Cl_umbrellasLeft : zOK m_Cl_umbrellasLeft := ⟨by decide +kernel, by decide +kernel, rfl, by decide +kernel⟩
def m_Cl_lowestOf : zMth := (RX1, yX1_lowestOf, cX1_lowestOf, 3, (some .int), 0, 0, [(0, .aload_n 0, 1, 1), (1, .getfield 9, 3, 4), (4, .iload_n 1, 1, 5), (5, .bipush 8, 2, 7), (7, .imul, 1, 8), (8, .iload_n 2, 1, 9), (9, .iadd, 1, 10), (10, .iaload, 1, 11), (11, .ireturn, 1, 12)])
theorem ok_Cl_lowestOf : zOK m_Cl_lowestOf := ⟨by decide +kernel, by decide +kernel, rfl, by decide +kernel⟩
def m_Cl_greatestAlike : zMth := (RX1, yX1_greatestAlike, cX1_greatestAlike, 7, (some .int), 1, 22, [(0, .iconst 0, 1, 1), (1, .istore_n 3, 1, 2), (2, .iconst 0, 1, 3), (3, .istore 4, 2, 5), (5, .iload 4, 2, 7), (7, .bipush 12, 2, 9), (9, .if_icmp .ge 73, 3, 12), (12, .iconst 0, 1, 13), (13, .istore 5, 2, 15), (15, .iconst 0, 1, 16), (16, .istore 6, 2, 18), (18, .iload 6, 2, 20), (20, .bipush 12, 2, 22), (22, .if_icmp .ge 47, 3, 25), (25, .iload_n 2, 1, 26), (26, .iload 4, 2, 28), (28, .ishr, 1, 29), (29, .iconst 1, 1, 30), (30, .iand, 1, 31), (31, .ifCond .eq 38, 3, 34), (34, .iload_n 2, 1, 35), (35, .iload 6, 2, 37), (37, .ishr, 1, 38), (38, .iconst 1, 1, 39), (39, .iand, 1, 40), (40, .ifCond .eq 23, 3, 43), (43, .aload_n 0, 1, 44), (44, .iload 6, 2, 46), (46, .iload_n 1, 1, 47), (47, .invokevirtual 89, 3, 50), (50, .aload_n 0, 1, 51), (51, .iload 4, 2, 53), (53, .iload_n 1, 1, 54), (54, .invokevirtual 89, 3, 57), (57, .if_icmp .ne 6, 3, 60), (60, .iinc 5 1, 3, 63), (63, .iinc 6 1, 3, 66), (66, .goto (-48), 3, 69), (69, .iload_n 3, 1, 70), (70, .iload 5, 2, 72), (72, .invokestatic 92, 3, 75), (75, .istore_n 3, 1, 76), (76, .iinc 4 1, 3, 79), (79, .goto (-74), 3, 82), (82, .iload_n 3, 1, 83), (83, .ireturn, 1, 84)])
theorem ok_Cl_greatestAlike : zOK m_Cl_greatestAlike := ⟨by decide +kernel, by decide +kernel, rfl, by decide +kernel⟩
def m_Cl_nextToPass : zMth := (RX1, yX1_nextToPass, cX1_nextToPass, 6, (some .int), 5, 120, [(0, .aload_n 0, 1, 1), (1, .invokevirtual 54, 3, 4), (4, .istore_n 1, 1, 5), (5, .iconst (-1), 1, 6), (6, .istore_n 2, 1, 7), (7, .bipush 13, 2, 9), (9, .istore_n 3, 1, 10), (10, .iconst 0, 1, 11), (11, .istore 4, 2, 13), (13, .iload 4, 2, 15), (15, .aload_n 0, 1, 16), (16, .getfield 15, 3, 19), (19, .getfield 58, 3, 22), (22, .getfield 62, 3, 25), (25, .if_icmp .ge 30, 3, 28), (28, .aload_n 0, 1, 29), (29, .iload 4, 2, 31), (31, .iload_n 1, 1, 32), (32, .invokevirtual 65, 3, 35), (35, .istore 5, 2, 37), (37, .iload 5, 2, 39), (39, .iload_n 3, 1, 40), (40, .if_icmp .ge 9, 3, 43), (43, .iload 5, 2, 45), (45, .istore_n 3, 1, 46), (46, .iload 4, 2, 48), (48, .istore_n 2, 1, 49), (49, .iinc 4 1, 3, 52), (52, .goto (-39), 3, 55), (55, .iload_n 2, 1, 56), (56, .ireturn, 1, 57)])
theorem ok_Cl_nextToPass : zOK m_Cl_nextToPass := ⟨by decide +kernel, by decide +kernel, rfl, by decide +kernel⟩
def m_Co_walkAsTold : zMth := (RX2, yX2_walkAsTold, cX2_walkAsTold, 2, none, 4, 98, [(0, .aload_n 0, 1, 1), (1, .iconst (-1), 1, 2), (2, .iconst 0, 1, 3), (3, .invokevirtual 42, 3, 6), (6, .aload_n 0, 1, 7), (7, .invokevirtual 46, 3, 10), (10, .aload_n 0, 1, 11), (11, .iload_n 1, 1, 12), (12, .invokevirtual 49, 3, 15), (15, .return_, 1, 16)])
theorem ok_Co_walkAsTold : zOK m_Co_walkAsTold := ⟨by decide +kernel, by decide +kernel, rfl, by decide +kernel⟩
def m_Co_walkTillOneIsGone : zMth := (RX2, yX2_walkTillOneIsGone, cX2_walkTillOneIsGone, 2, (some .int), 3, 76, [(0, .aload_n 0, 1, 1), (1, .invokevirtual 46, 3, 4), (4, .iconst 0, 1, 5), (5, .istore_n 1, 1, 6), (6, .iload_n 1, 1, 7), (7, .bipush 12, 2, 9), (9, .if_icmp .ge 21, 3, 12), (12, .aload_n 0, 1, 13), (13, .getfield 99, 3, 16), (16, .ifCond .ne 14, 3, 19), (19, .aload_n 0, 1, 20), (20, .iload_n 1, 1, 21), (21, .invokevirtual 111, 3, 24), (24, .iinc 1 1, 3, 27), (27, .goto (-21), 3, 30), (30, .aload_n 0, 1, 31), (31, .getfield 105, 3, 34), (34, .ireturn, 1, 35)])
theorem ok_Co_walkTillOneIsGone : zOK m_Co_walkTillOneIsGone := ⟨by decide +kernel, by decide +kernel, rfl, by decide +kernel⟩
def m_Co_mayMeet : zMth := (RX2, yX2_mayMeet, cX2_mayMeet, 4, (some .boolean), 0, 0, [(0, .aload_n 0, 1, 1), (1, .getfield 27, 3, 4), (4, .getfield 114, 3, 7), (7, .aload_n 0, 1, 8), (8, .getfield 99, 3, 11), (11, .ior, 1, 12), (12, .istore_n 3, 1, 13), (13, .iload_n 1, 1, 14), (14, .iload_n 2, 1, 15), (15, .if_icmp .eq 23, 3, 18), (18, .iload_n 3, 1, 19), (19, .iload_n 1, 1, 20), (20, .ishr, 1, 21), (21, .iconst 1, 1, 22), (22, .iand, 1, 23), (23, .ifCond .ne 15, 3, 26), (26, .iload_n 3, 1, 27), (27, .iload_n 2, 1, 28), (28, .ishr, 1, 29), (29, .iconst 1, 1, 30), (30, .iand, 1, 31), (31, .ifCond .ne 7, 3, 34), (34, .iconst 1, 1, 35), (35, .goto 4, 3, 38), (38, .iconst 0, 1, 39), (39, .ireturn, 1, 40)])
theorem ok_Co_mayMeet : zOK m_Co_mayMeet := ⟨by decide +kernel, by decide +kernel, rfl, by decide +kernel⟩
def m_Co_debt : zMth := (RX2, yX2_debt, cX2_debt, 5, (some .int), 1, 21, [(0, .aload_n 0, 1, 1), (1, .getfield 27, 3, 4), (4, .getfield 114, 3, 7), (7, .istore_n 3, 1, 8), (8, .iload_n 3, 1, 9), (9, .iload_n 1, 1, 10), (10, .ishr, 1, 11), (11, .iconst 1, 1, 12), (12, .iand, 1, 13), (13, .ifCond .ne 11, 3, 16), (16, .iload_n 3, 1, 17), (17, .iload_n 2, 1, 18), (18, .ishr, 1, 19), (19, .iconst 1, 1, 20), (20, .iand, 1, 21), (21, .ifCond .eq 5, 3, 24), (24, .iconst 0, 1, 25), (25, .ireturn, 1, 26), (26, .iload_n 1, 1, 27), (27, .iload_n 2, 1, 28), (28, .if_icmp .ge 17, 3, 31), (31, .aload_n 0, 1, 32), (32, .getfield 21, 3, 35), (35, .iload_n 1, 1, 36), (36, .bipush 8, 2, 38), (38, .imul, 1, 39), (39, .iload_n 2, 1, 40), (40, .iadd, 1, 41), (41, .iaload, 1, 42), (42, .goto 15, 3, 45), (45, .aload_n 0, 1, 46), (46, .getfield 21, 3, 49), (49, .iload_n 2, 1, 50), (50, .bipush 8, 2, 52), (52, .imul, 1, 53), (53, .iload_n 1, 1, 54), (54, .iadd, 1, 55), (55, .iaload, 1, 56), (56, .ineg, 1, 57), (57, .istore 4, 2, 59), (59, .iload 4, 2, 61), (61, .iconst 0, 1, 62), (62, .invokestatic 126, 3, 65), (65, .ireturn, 1, 66)])
theorem ok_Co_debt : zOK m_Co_debt := ⟨by decide +kernel, by decide +kernel, rfl, by decide +kernel⟩
def m_Co_isRing : zMth := (RX2, yX2_isRing, cX2_isRing, 6, (some .boolean), 2, 45, [(0, .aload_n 0, 1, 1), (1, .iload_n 1, 1, 2), (2, .iload_n 2, 1, 3), (3, .invokevirtual 136, 3, 6), (6, .ifCond .le 25, 3, 9), (9, .aload_n 0, 1, 10), (10, .iload_n 2, 1, 11), (11, .iload_n 3, 1, 12), (12, .invokevirtual 136, 3, 15), (15, .ifCond .le 16, 3, 18), (18, .aload_n 0, 1, 19), (19, .iload_n 3, 1, 20), (20, .iload_n 1, 1, 21), (21, .invokevirtual 136, 3, 24), (24, .ifCond .le 7, 3, 27), (27, .iconst 1, 1, 28), (28, .goto 4, 3, 31), (31, .iconst 0, 1, 32), (32, .istore 4, 2, 34), (34, .aload_n 0, 1, 35), (35, .iload_n 2, 1, 36), (36, .iload_n 1, 1, 37), (37, .invokevirtual 136, 3, 40), (40, .ifCond .le 25, 3, 43), (43, .aload_n 0, 1, 44), (44, .iload_n 3, 1, 45), (45, .iload_n 2, 1, 46), (46, .invokevirtual 136, 3, 49), (49, .ifCond .le 16, 3, 52), (52, .aload_n 0, 1, 53), (53, .iload_n 1, 1, 54), (54, .iload_n 3, 1, 55), (55, .invokevirtual 136, 3, 58), (58, .ifCond .le 7, 3, 61), (61, .iconst 1, 1, 62), (62, .goto 4, 3, 65), (65, .iconst 0, 1, 66), (66, .istore 5, 2, 68), (68, .iload 4, 2, 70), (70, .ifCond .ne 8, 3, 73), (73, .iload 5, 2, 75), (75, .ifCond .eq 7, 3, 78), (78, .iconst 1, 1, 79), (79, .goto 4, 3, 82), (82, .iconst 0, 1, 83), (83, .ireturn, 1, 84)])
theorem ok_Co_isRing : zOK m_Co_isRing := ⟨by decide +kernel, by decide +kernel, rfl, by decide +kernel⟩
def m_Co_meetByLot : zMth := (RX2, yX2_meetByLot, cX2_meetByLot, 7, none, 2, 49, [(0, .aload_n 0, 1, 1), (1, .getfield 27, 3, 4), (4, .getfield 90, 3, 7), (7, .ifCond .ne 4, 3, 10), (10, .return_, 1, 11), (11, .iload_n 1, 1, 12), (12, .istore_n 3, 1, 13), (13, .iconst 0, 1, 14), (14, .istore 4, 2, 16), (16, .iload 4, 2, 18), (18, .iload_n 2, 1, 19), (19, .if_icmp .ge 74, 3, 22), (22, .ldc 139, 2, 24), (24, .iload_n 3, 1, 25), (25, .imul, 1, 26), (26, .sipush 12345, 3, 29), (29, .iadd, 1, 30), (30, .istore_n 3, 1, 31), (31, .iload_n 3, 1, 32), (32, .bipush 16, 2, 34), (34, .iushr, 1, 35), (35, .aload_n 0, 1, 36), (36, .getfield 27, 3, 39), (39, .getfield 90, 3, 42), (42, .irem, 1, 43), (43, .istore 5, 2, 45), (45, .ldc 139, 2, 47), (47, .iload_n 3, 1, 48), (48, .imul, 1, 49), (49, .sipush 12345, 3, 52), (52, .iadd, 1, 53), (53, .istore_n 3, 1, 54), (54, .iload_n 3, 1, 55), (55, .bipush 16, 2, 57), (57, .iushr, 1, 58), (58, .aload_n 0, 1, 59), (59, .getfield 27, 3, 62), (62, .getfield 90, 3, 65), (65, .irem, 1, 66), (66, .istore 6, 2, 68), (68, .aload_n 0, 1, 69), (69, .iload 5, 2, 71), (71, .iload 6, 2, 73), (73, .invokevirtual 140, 3, 76), (76, .ifCond .eq 11, 3, 79), (79, .aload_n 0, 1, 80), (80, .iload 5, 2, 82), (82, .iload 6, 2, 84), (84, .invokevirtual 117, 3, 87), (87, .iinc 4 1, 3, 90), (90, .goto (-74), 3, 93), (93, .return_, 1, 94)])
theorem ok_Co_meetByLot : zOK m_Co_meetByLot := ⟨by decide +kernel, by decide +kernel, rfl, by decide +kernel⟩
def m_Le_enter : zMth := (RX3, yX3_enter, cX3_enter, 4, (some .int), 0, 0, [(0, .aload_n 0, 1, 1), (1, .getfield 27, 3, 4), (4, .aload_n 0, 1, 5), (5, .getfield 15, 3, 8), (8, .arraylength, 1, 9), (9, .if_icmp .lt 6, 3, 12), (12, .bipush (-4), 2, 14), (14, .ireturn, 1, 15), (15, .aload_n 0, 1, 16), (16, .getfield 15, 3, 19), (19, .aload_n 0, 1, 20), (20, .getfield 27, 3, 23), (23, .iload_n 1, 1, 24), (24, .iastore, 1, 25), (25, .aload_n 0, 1, 26), (26, .getfield 21, 3, 29), (29, .aload_n 0, 1, 30), (30, .getfield 27, 3, 33), (33, .iload_n 2, 1, 34), (34, .iastore, 1, 35), (35, .aload_n 0, 1, 36), (36, .getfield 24, 3, 39), (39, .aload_n 0, 1, 40), (40, .getfield 27, 3, 43), (43, .iload_n 3, 1, 44), (44, .iastore, 1, 45), (45, .aload_n 0, 1, 46), (46, .dup, 1, 47), (47, .getfield 27, 3, 50), (50, .iconst 1, 1, 51), (51, .iadd, 1, 52), (52, .putfield 27, 3, 55), (55, .aload_n 0, 1, 56), (56, .getfield 27, 3, 59), (59, .ireturn, 1, 60)])
theorem ok_Le_enter : zOK m_Le_enter := ⟨by decide +kernel, by decide +kernel, rfl, by decide +kernel⟩
def m_B_within : zMth := (RX10, yX10_within, cX10_within, 3, (some .boolean), 0, 0, [(0, .iload_n 0, 1, 1), (1, .iload_n 1, 1, 2), (2, .if_icmp .lt 12, 3, 5), (5, .iload_n 0, 1, 6), (6, .iload_n 2, 1, 7), (7, .if_icmp .gt 7, 3, 10), (10, .iconst 1, 1, 11), (11, .goto 4, 3, 14), (14, .iconst 0, 1, 15), (15, .ireturn, 1, 16)])
theorem ok_B_within : zOK m_B_within := ⟨by decide +kernel, by decide +kernel, rfl, by decide +kernel⟩
def m_Pe_goesOn : zMth := (RX4, yX4_goesOn, cX4_goesOn, 2, (some .boolean), 1, 22, [(0, .iload_n 0, 1, 1), (1, .tableswitch 80 0 4 #[35, 80, 80, 59, 68], 35, 36), (36, .iload_n 1, 1, 37), (37, .bipush 111, 2, 39), (39, .if_icmp .eq 15, 3, 42), (42, .iload_n 1, 1, 43), (43, .bipush 112, 2, 45), (45, .if_icmp .eq 9, 3, 48), (48, .iload_n 1, 1, 49), (49, .bipush 99, 2, 51), (51, .if_icmp .ne 7, 3, 54), (54, .iconst 1, 1, 55), (55, .goto 4, 3, 58), (58, .iconst 0, 1, 59), (59, .ireturn, 1, 60), (60, .iload_n 1, 1, 61), (61, .bipush 49, 2, 63), (63, .bipush 57, 2, 65), (65, .invokestatic 52, 3, 68), (68, .ireturn, 1, 69), (69, .iload_n 1, 1, 70), (70, .bipush 59, 2, 72), (72, .if_icmp .ne 7, 3, 75), (75, .iconst 1, 1, 76), (76, .goto 4, 3, 79), (79, .iconst 0, 1, 80), (80, .ireturn, 1, 81), (81, .iload_n 1, 1, 82), (82, .bipush 48, 2, 84), (84, .bipush 57, 2, 86), (86, .invokestatic 52, 3, 89), (89, .ireturn, 1, 90)])
theorem ok_Pe_goesOn : zOK m_Pe_goesOn := ⟨by decide +kernel, by decide +kernel, rfl, by decide +kernel⟩
def m_Pe_faultOf : zMth := (RX4, yX4_faultOf, cX4_faultOf, 2, (some .int), 2, 43, [(0, .iconst 0, 1, 1), (1, .istore_n 1, 1, 2), (2, .iload_n 1, 1, 3), (3, .aload_n 0, 1, 4), (4, .getfield 38, 3, 7), (7, .if_icmp .ge 32, 3, 10), (10, .iload_n 1, 1, 11), (11, .bipush 40, 2, 13), (13, .if_icmp .ge 18, 3, 16), (16, .iload_n 1, 1, 17), (17, .iconst 5, 1, 18), (18, .irem, 1, 19), (19, .aload_n 0, 1, 20), (20, .getfield 41, 3, 23), (23, .iload_n 1, 1, 24), (24, .iaload, 1, 25), (25, .invokestatic 48, 3, 28), (28, .ifCond .ne 5, 3, 31), (31, .iload_n 1, 1, 32), (32, .ireturn, 1, 33), (33, .iinc 1 1, 3, 36), (36, .goto (-34), 3, 39), (39, .aload_n 0, 1, 40), (40, .getfield 38, 3, 43), (43, .ifCond .eq 13, 3, 46), (46, .aload_n 0, 1, 47), (47, .getfield 38, 3, 50), (50, .iconst 5, 1, 51), (51, .irem, 1, 52), (52, .iconst 4, 1, 53), (53, .if_icmp .ne 7, 3, 56), (56, .iconst 1, 1, 57), (57, .goto 4, 3, 60), (60, .iconst 0, 1, 61), (61, .istore_n 1, 1, 62), (62, .iload_n 1, 1, 63), (63, .ifCond .eq 7, 3, 66), (66, .iconst (-1), 1, 67), (67, .goto 7, 3, 70), (70, .aload_n 0, 1, 71), (71, .getfield 38, 3, 74), (74, .ireturn, 1, 75)])
theorem ok_Pe_faultOf : zOK m_Pe_faultOf := ⟨by decide +kernel, by decide +kernel, rfl, by decide +kernel⟩
def m_Pe_kindOf : zMth := (RX4, yX4_kindOf, cX4_kindOf, 1, (some .int), 0, 0, [(0, .iload_n 0, 1, 1), (1, .bipush 112, 2, 3), (3, .if_icmp .ne 5, 3, 6), (6, .iconst 1, 1, 7), (7, .ireturn, 1, 8), (8, .iload_n 0, 1, 9), (9, .bipush 99, 2, 11), (11, .if_icmp .ne 7, 3, 14), (14, .iconst 2, 1, 15), (15, .goto 4, 3, 18), (18, .iconst 0, 1, 19), (19, .ireturn, 1, 20)])
theorem ok_Pe_kindOf : zOK m_Pe_kindOf := ⟨by decide +kernel, by decide +kernel, rfl, by decide +kernel⟩
def m_Pe_take : zMth := (RX4, yX4_take, cX4_take, 4, none, 3, 64, [(0, .aload_n 0, 1, 1), (1, .aload_n 1, 1, 2), (2, .invokestatic 28, 3, 5), (5, .putfield 24, 3, 8), (8, .aload_n 0, 1, 9), (9, .iconst 0, 1, 10), (10, .putfield 32, 3, 13), (13, .aload_n 0, 1, 14), (14, .iconst 0, 1, 15), (15, .putfield 35, 3, 18), (18, .aload_n 0, 1, 19), (19, .getfield 24, 3, 22), (22, .iconst (-1), 1, 23), (23, .if_icmp .ne 10, 3, 26), (26, .aload_n 1, 1, 27), (27, .getfield 38, 3, 30), (30, .goto 4, 3, 33), (33, .iconst 0, 1, 34), (34, .istore_n 2, 1, 35), (35, .iconst 0, 1, 36), (36, .istore_n 3, 1, 37), (37, .iload_n 3, 1, 38), (38, .iconst 3, 1, 39), (39, .iadd, 1, 40), (40, .iload_n 2, 1, 41), (41, .if_icmp .ge 174, 3, 44), (44, .aload_n 0, 1, 45), (45, .getfield 32, 3, 48), (48, .bipush 8, 2, 50), (50, .if_icmp .ge 165, 3, 53), (53, .aload_n 0, 1, 54), (54, .getfield 9, 3, 57), (57, .aload_n 0, 1, 58), (58, .getfield 32, 3, 61), (61, .aload_n 1, 1, 62), (62, .getfield 41, 3, 65), (65, .iload_n 3, 1, 66), (66, .iaload, 1, 67), (67, .invokestatic 44, 3, 70), (70, .iastore, 1, 71), (71, .aload_n 0, 1, 72), (72, .getfield 15, 3, 75), (75, .aload_n 0, 1, 76), (76, .getfield 32, 3, 79), (79, .bipush 10, 2, 81), (81, .aload_n 1, 1, 82), (82, .getfield 41, 3, 85), (85, .iload_n 3, 1, 86), (86, .iconst 1, 1, 87), (87, .iadd, 1, 88), (88, .iaload, 1, 89), (89, .bipush 48, 2, 91), (91, .isub, 1, 92), (92, .imul, 1, 93), (93, .aload_n 1, 1, 94), (94, .getfield 41, 3, 97), (97, .iload_n 3, 1, 98), (98, .iconst 2, 1, 99), (99, .iadd, 1, 100), (100, .iaload, 1, 101), (101, .iadd, 1, 102), (102, .bipush 48, 2, 104), (104, .isub, 1, 105), (105, .iastore, 1, 106), (106, .aload_n 0, 1, 107), (107, .getfield 18, 3, 110), (110, .aload_n 0, 1, 111), (111, .getfield 32, 3, 114), (114, .aload_n 1, 1, 115), (115, .getfield 41, 3, 118), (118, .iload_n 3, 1, 119), (119, .iconst 3, 1, 120), (120, .iadd, 1, 121), (121, .iaload, 1, 122), (122, .bipush 48, 2, 124), (124, .isub, 1, 125), (125, .iastore, 1, 126), (126, .aload_n 0, 1, 127), (127, .getfield 21, 3, 130), (130, .aload_n 0, 1, 131), (131, .getfield 32, 3, 134), (134, .aload_n 0, 1, 135), (135, .getfield 9, 3, 138), (138, .aload_n 0, 1, 139), (139, .getfield 32, 3, 142), (142, .iaload, 1, 143), (143, .iconst 1, 1, 144), (144, .if_icmp .ne 17, 3, 147), (147, .aload_n 0, 1, 148), (148, .getfield 18, 3, 151), (151, .aload_n 0, 1, 152), (152, .getfield 32, 3, 155), (155, .iaload, 1, 156), (156, .iconst 1, 1, 157), (157, .iadd, 1, 158), (158, .goto 12, 3, 161), (161, .aload_n 0, 1, 162), (162, .getfield 18, 3, 165), (165, .aload_n 0, 1, 166), (166, .getfield 32, 3, 169), (169, .iaload, 1, 170), (170, .iastore, 1, 171), (171, .aload_n 0, 1, 172), (172, .getfield 9, 3, 175), (175, .aload_n 0, 1, 176), (176, .getfield 32, 3, 179), (179, .iaload, 1, 180), (180, .iconst 2, 1, 181), (181, .if_icmp .ne 18, 3, 184), (184, .aload_n 0, 1, 185), (185, .dup, 1, 186), (186, .getfield 35, 3, 189), (189, .iconst 1, 1, 190), (190, .aload_n 0, 1, 191), (191, .getfield 32, 3, 194), (194, .ishl, 1, 195), (195, .ior, 1, 196), (196, .putfield 35, 3, 199), (199, .aload_n 0, 1, 200), (200, .dup, 1, 201), (201, .getfield 32, 3, 204), (204, .iconst 1, 1, 205), (205, .iadd, 1, 206), (206, .putfield 32, 3, 209), (209, .iinc 3 5, 3, 212), (212, .goto (-175), 3, 215), (215, .return_, 1, 216)])
theorem ok_Pe_take : zOK m_Pe_take := ⟨by decide +kernel, by decide +kernel, rfl, by decide +kernel⟩
def m_Sh_isWorthHiding : zMth := (RX5, yX5_isWorthHiding, cX5_isWorthHiding, 4, (some .boolean), 0, 0, [(0, .aload_n 0, 1, 1), (1, .getfield 15, 3, 4), (4, .getfield 51, 3, 7), (7, .iload_n 1, 1, 8), (8, .bipush 8, 2, 10), (10, .idiv, 1, 11), (11, .iaload, 1, 12), (12, .aload_n 0, 1, 13), (13, .getfield 15, 3, 16), (16, .getfield 54, 3, 19), (19, .getfield 58, 3, 22), (22, .ior, 1, 23), (23, .istore_n 2, 1, 24), (24, .iload_n 1, 1, 25), (25, .bipush 8, 2, 27), (27, .irem, 1, 28), (28, .istore_n 3, 1, 29), (29, .iload_n 3, 1, 30), (30, .aload_n 0, 1, 31), (31, .getfield 15, 3, 34), (34, .getfield 54, 3, 37), (37, .getfield 63, 3, 40), (40, .if_icmp .ge 28, 3, 43), (43, .aload_n 0, 1, 44), (44, .getfield 15, 3, 47), (47, .getfield 64, 3, 50), (50, .iload_n 1, 1, 51), (51, .iaload, 1, 52), (52, .iconst (-1), 1, 53), (53, .if_icmp .eq 15, 3, 56), (56, .iload_n 2, 1, 57), (57, .iload_n 3, 1, 58), (58, .ishr, 1, 59), (59, .iconst 1, 1, 60), (60, .iand, 1, 61), (61, .ifCond .ne 7, 3, 64), (64, .iconst 1, 1, 65), (65, .goto 4, 3, 68), (68, .iconst 0, 1, 69), (69, .ireturn, 1, 70)])
theorem ok_Sh_isWorthHiding : zOK m_Sh_isWorthHiding := ⟨by decide +kernel, by decide +kernel, rfl, by decide +kernel⟩
def m_Sh_toggle : zMth := (RX5, yX5_toggle, cX5_toggle, 2, none, 0, 0, [(0, .aload_n 0, 1, 1), (1, .getfield 15, 3, 4), (4, .getfield 51, 3, 7), (7, .iload_n 1, 1, 8), (8, .bipush 8, 2, 10), (10, .idiv, 1, 11), (11, .dup2, 1, 12), (12, .iaload, 1, 13), (13, .iconst 1, 1, 14), (14, .iload_n 1, 1, 15), (15, .bipush 8, 2, 17), (17, .irem, 1, 18), (18, .ishl, 1, 19), (19, .ixor, 1, 20), (20, .iastore, 1, 21), (21, .return_, 1, 22)])
theorem ok_Sh_toggle : zOK m_Sh_toggle := ⟨by decide +kernel, by decide +kernel, rfl, by decide +kernel⟩
def m_Sh_numberThatHelps : zMth := (RX5, yX5_numberThatHelps, cX5_numberThatHelps, 6, (some .int), 4, 97, [(0, .bipush 8, 2, 2), (2, .iload_n 2, 1, 3), (3, .iconst 1, 1, 4), (4, .iadd, 1, 5), (5, .imul, 1, 6), (6, .istore_n 3, 1, 7), (7, .iload_n 1, 1, 8), (8, .istore 4, 2, 10), (10, .iload 4, 2, 12), (12, .iload_n 3, 1, 13), (13, .if_icmp .ge 56, 3, 16), (16, .aload_n 0, 1, 17), (17, .iload 4, 2, 19), (19, .invokevirtual 44, 3, 22), (22, .ifCond .eq 41, 3, 25), (25, .aload_n 0, 1, 26), (26, .iload 4, 2, 28), (28, .invokevirtual 47, 3, 31), (31, .aload_n 0, 1, 32), (32, .getfield 15, 3, 35), (35, .invokevirtual 25, 3, 38), (38, .iconst (-1), 1, 39), (39, .if_icmp .ne 7, 3, 42), (42, .iconst 1, 1, 43), (43, .goto 4, 3, 46), (46, .iconst 0, 1, 47), (47, .istore 5, 2, 49), (49, .aload_n 0, 1, 50), (50, .iload 4, 2, 52), (52, .invokevirtual 47, 3, 55), (55, .iload 5, 2, 57), (57, .ifCond .eq 6, 3, 60), (60, .iload 4, 2, 62), (62, .ireturn, 1, 63), (63, .iinc 4 1, 3, 66), (66, .goto (-56), 3, 69), (69, .iconst (-1), 1, 70), (70, .ireturn, 1, 71)])
theorem ok_Sh_numberThatHelps : zOK m_Sh_numberThatHelps := ⟨by decide +kernel, by decide +kernel, rfl, by decide +kernel⟩
def m_Sh_findOne : zMth := (RX5, yX5_findOne, cX5_findOne, 2, (some .boolean), 5, 122, [(0, .aload_n 0, 1, 1), (1, .getfield 9, 3, 4), (4, .iconst 0, 1, 5), (5, .aload_n 0, 1, 6), (6, .iconst 0, 1, 7), (7, .iload_n 1, 1, 8), (8, .invokevirtual 40, 3, 11), (11, .iastore, 1, 12), (12, .aload_n 0, 1, 13), (13, .getfield 9, 3, 16), (16, .iconst 0, 1, 17), (17, .iaload, 1, 18), (18, .iconst (-1), 1, 19), (19, .if_icmp .eq 7, 3, 22), (22, .iconst 1, 1, 23), (23, .goto 4, 3, 26), (26, .iconst 0, 1, 27), (27, .ireturn, 1, 28)])
theorem ok_Sh_findOne : zOK m_Sh_findOne := ⟨by decide +kernel, by decide +kernel, rfl, by decide +kernel⟩
def m_Sh_findTwo : zMth := (RX5, yX5_findTwo, cX5_findTwo, 4, (some .boolean), 5, 122, [(0, .bipush 8, 2, 2), (2, .iload_n 1, 1, 3), (3, .iconst 1, 1, 4), (4, .iadd, 1, 5), (5, .imul, 1, 6), (6, .istore_n 2, 1, 7), (7, .iconst 0, 1, 8), (8, .istore_n 3, 1, 9), (9, .iload_n 3, 1, 10), (10, .iload_n 2, 1, 11), (11, .if_icmp .ge 66, 3, 14), (14, .aload_n 0, 1, 15), (15, .iload_n 3, 1, 16), (16, .invokevirtual 44, 3, 19), (19, .ifCond .eq 52, 3, 22), (22, .aload_n 0, 1, 23), (23, .iload_n 3, 1, 24), (24, .invokevirtual 47, 3, 27), (27, .aload_n 0, 1, 28), (28, .getfield 9, 3, 31), (31, .iconst 1, 1, 32), (32, .aload_n 0, 1, 33), (33, .iload_n 3, 1, 34), (34, .iconst 1, 1, 35), (35, .iadd, 1, 36), (36, .aload_n 0, 1, 37), (37, .getfield 15, 3, 40), (40, .invokevirtual 25, 3, 43), (43, .invokevirtual 40, 3, 46), (46, .iastore, 1, 47), (47, .aload_n 0, 1, 48), (48, .iload_n 3, 1, 49), (49, .invokevirtual 47, 3, 52), (52, .aload_n 0, 1, 53), (53, .getfield 9, 3, 56), (56, .iconst 1, 1, 57), (57, .iaload, 1, 58), (58, .iconst (-1), 1, 59), (59, .if_icmp .eq 12, 3, 62), (62, .aload_n 0, 1, 63), (63, .getfield 9, 3, 66), (66, .iconst 0, 1, 67), (67, .iload_n 3, 1, 68), (68, .iastore, 1, 69), (69, .iconst 1, 1, 70), (70, .ireturn, 1, 71), (71, .iinc 3 1, 3, 74), (74, .goto (-65), 3, 77), (77, .iconst 0, 1, 78), (78, .ireturn, 1, 79)])
theorem ok_Sh_findTwo : zOK m_Sh_findTwo := ⟨by decide +kernel, by decide +kernel, rfl, by decide +kernel⟩
def m_Sh_find : zMth := (RX5, yX5_find, cX5_find, 2, none, 6, 145, [(0, .aload_n 0, 1, 1), (1, .getfield 9, 3, 4), (4, .iconst 0, 1, 5), (5, .iconst (-1), 1, 6), (6, .iastore, 1, 7), (7, .aload_n 0, 1, 8), (8, .getfield 9, 3, 11), (11, .iconst 1, 1, 12), (12, .iconst (-1), 1, 13), (13, .iastore, 1, 14), (14, .aload_n 0, 1, 15), (15, .getfield 15, 3, 18), (18, .iconst (-1), 1, 19), (19, .iconst 0, 1, 20), (20, .invokevirtual 19, 3, 23), (23, .aload_n 0, 1, 24), (24, .getfield 15, 3, 27), (27, .invokevirtual 25, 3, 30), (30, .istore_n 1, 1, 31), (31, .iload_n 1, 1, 32), (32, .iconst (-1), 1, 33), (33, .if_icmp .ne 11, 3, 36), (36, .aload_n 0, 1, 37), (37, .iconst 0, 1, 38), (38, .putfield 29, 3, 41), (41, .goto 40, 3, 44), (44, .aload_n 0, 1, 45), (45, .iload_n 1, 1, 46), (46, .invokevirtual 33, 3, 49), (49, .ifCond .eq 11, 3, 52), (52, .aload_n 0, 1, 53), (53, .iconst 1, 1, 54), (54, .putfield 29, 3, 57), (57, .goto 24, 3, 60), (60, .aload_n 0, 1, 61), (61, .iload_n 1, 1, 62), (62, .invokevirtual 37, 3, 65), (65, .ifCond .eq 11, 3, 68), (68, .aload_n 0, 1, 69), (69, .iconst 2, 1, 70), (70, .putfield 29, 3, 73), (73, .goto 8, 3, 76), (76, .aload_n 0, 1, 77), (77, .iconst (-1), 1, 78), (78, .putfield 29, 3, 81), (81, .return_, 1, 82)])
theorem ok_Sh_find : zOK m_Sh_find := ⟨by decide +kernel, by decide +kernel, rfl, by decide +kernel⟩
def m_Se_begin : zMth := (RX6, yX6_begin, cX6_begin, 3, none, 1, 23, [(0, .aload_n 0, 1, 1), (1, .getfield 9, 3, 4), (4, .iconst 0, 1, 5), (5, .invokestatic 19, 3, 8), (8, .aload_n 0, 1, 9), (9, .iload_n 1, 1, 10), (10, .putfield 25, 3, 13), (13, .aload_n 0, 1, 14), (14, .iload_n 2, 1, 15), (15, .putfield 29, 3, 18), (18, .aload_n 0, 1, 19), (19, .iconst 0, 1, 20), (20, .putfield 15, 3, 23), (23, .return_, 1, 24)])
theorem ok_Se_begin : zOK m_Se_begin := ⟨by decide +kernel, by decide +kernel, rfl, by decide +kernel⟩
def m_Se_findingAt : zMth := (RX6, yX6_findingAt, cX6_findingAt, 3, (some .int), 1, 22, [(0, .aload_n 0, 1, 1), (1, .getfield 15, 3, 4), (4, .ifCond .eq 5, 3, 7), (7, .iconst 1, 1, 8), (8, .ireturn, 1, 9), (9, .aload_n 0, 1, 10), (10, .getfield 25, 3, 13), (13, .iload_n 1, 1, 14), (14, .if_icmp .eq 5, 3, 17), (17, .iconst 3, 1, 18), (18, .ireturn, 1, 19), (19, .iload_n 2, 1, 20), (20, .iconst 0, 1, 21), (21, .aload_n 0, 1, 22), (22, .getfield 29, 3, 25), (25, .iconst 1, 1, 26), (26, .isub, 1, 27), (27, .invokestatic 32, 3, 30), (30, .ifCond .eq 7, 3, 33), (33, .iconst 0, 1, 34), (34, .goto 4, 3, 37), (37, .iconst 2, 1, 38), (38, .ireturn, 1, 39)])
theorem ok_Se_findingAt : zOK m_Se_findingAt := ⟨by decide +kernel, by decide +kernel, rfl, by decide +kernel⟩
def m_Se_hasItems : zMth := (RX6, yX6_hasItems, cX6_hasItems, 3, (some .boolean), 0, 0, [(0, .iload_n 1, 1, 1), (1, .ifCond .lt 21, 3, 4), (4, .iload_n 2, 1, 5), (5, .ifCond .lt 17, 3, 8), (8, .iload_n 2, 1, 9), (9, .aload_n 0, 1, 10), (10, .getfield 29, 3, 13), (13, .iload_n 1, 1, 14), (14, .isub, 1, 15), (15, .if_icmp .gt 7, 3, 18), (18, .iconst 1, 1, 19), (19, .goto 4, 3, 22), (22, .iconst 0, 1, 23), (23, .ireturn, 1, 24)])
theorem ok_Se_hasItems : zOK m_Se_hasItems := ⟨by decide +kernel, by decide +kernel, rfl, by decide +kernel⟩
def m_Se_put : zMth := (RX6, yX6_put, cX6_put, 3, none, 0, 0, [(0, .aload_n 0, 1, 1), (1, .getfield 25, 3, 4), (4, .lookupswitch 50 #[(0, 28), (1, 39)], 28, 32), (32, .aload_n 0, 1, 33), (33, .getfield 9, 3, 36), (36, .iload_n 1, 1, 37), (37, .iload_n 2, 1, 38), (38, .i2b, 1, 39), (39, .iastore, 1, 40), (40, .goto 21, 3, 43), (43, .aload_n 0, 1, 44), (44, .getfield 9, 3, 47), (47, .iload_n 1, 1, 48), (48, .iload_n 2, 1, 49), (49, .i2s, 1, 50), (50, .iastore, 1, 51), (51, .goto 10, 3, 54), (54, .aload_n 0, 1, 55), (55, .getfield 9, 3, 58), (58, .iload_n 1, 1, 59), (59, .iload_n 2, 1, 60), (60, .iastore, 1, 61), (61, .return_, 1, 62)])
theorem ok_Se_put : zOK m_Se_put := ⟨by decide +kernel, by decide +kernel, rfl, by decide +kernel⟩
def m_Jint_bitCount_0f7a4 : zMth := (RJ6, yJ6_bitCount_0f7a4, cJ6_bitCount_0f7a4, 1, (some .int), 0, 0, [(0, .iload_n 0, 1, 1), (1, .iload_n 0, 1, 2), (2, .iconst 1, 1, 3), (3, .iushr, 1, 4), (4, .ldc_w 265, 3, 7), (7, .iand, 1, 8), (8, .isub, 1, 9), (9, .istore_n 0, 1, 10), (10, .iload_n 0, 1, 11), (11, .ldc_w 266, 3, 14), (14, .iand, 1, 15), (15, .iload_n 0, 1, 16), (16, .iconst 2, 1, 17), (17, .iushr, 1, 18), (18, .ldc_w 266, 3, 21), (21, .iand, 1, 22), (22, .iadd, 1, 23), (23, .istore_n 0, 1, 24), (24, .iload_n 0, 1, 25), (25, .iload_n 0, 1, 26), (26, .iconst 4, 1, 27), (27, .iushr, 1, 28), (28, .iadd, 1, 29), (29, .ldc_w 267, 3, 32), (32, .iand, 1, 33), (33, .istore_n 0, 1, 34), (34, .iload_n 0, 1, 35), (35, .iload_n 0, 1, 36), (36, .bipush 8, 2, 38), (38, .iushr, 1, 39), (39, .iadd, 1, 40), (40, .istore_n 0, 1, 41), (41, .iload_n 0, 1, 42), (42, .iload_n 0, 1, 43), (43, .bipush 16, 2, 45), (45, .iushr, 1, 46), (46, .iadd, 1, 47), (47, .istore_n 0, 1, 48), (48, .iload_n 0, 1, 49), (49, .bipush 63, 2, 51), (51, .iand, 1, 52), (52, .ireturn, 1, 53)])
theorem ok_Jint_bitCount_0f7a4 : zOK m_Jint_bitCount_0f7a4 := ⟨by decide +kernel, by decide +kernel, rfl, by decide +kernel⟩
def m_St_costFor : zMth := (RX7, yX7_costFor, cX7_costFor, 3, (some .int), 4, 98, [(0, .iconst 0, 1, 1), (1, .istore_n 2, 1, 2), (2, .iload_n 2, 1, 3), (3, .iconst 3, 1, 4), (4, .if_icmp .ge 44, 3, 7), (7, .aload_n 0, 1, 8), (8, .getfield 18, 3, 11), (11, .getfield 46, 3, 14), (14, .iload_n 2, 1, 15), (15, .bipush 8, 2, 17), (17, .imul, 1, 18), (18, .iload_n 1, 1, 19), (19, .iadd, 1, 20), (20, .aload_n 0, 1, 21), (21, .getfield 11, 3, 24), (24, .iload_n 2, 1, 25), (25, .iaload, 1, 26), (26, .bipush 8, 2, 28), (28, .if_icmp .ne 7, 3, 31), (31, .iconst (-1), 1, 32), (32, .goto 9, 3, 35), (35, .aload_n 0, 1, 36), (36, .getfield 11, 3, 39), (39, .iload_n 2, 1, 40), (40, .iaload, 1, 41), (41, .iastore, 1, 42), (42, .iinc 2 1, 3, 45), (45, .goto (-43), 3, 48), (48, .aload_n 0, 1, 49), (49, .getfield 18, 3, 52), (52, .invokevirtual 49, 3, 55), (55, .aload_n 0, 1, 56), (56, .getfield 18, 3, 59), (59, .bipush 11, 2, 61), (61, .invokevirtual 52, 3, 64), (64, .bipush 100, 2, 66), (66, .aload_n 0, 1, 67), (67, .getfield 18, 3, 70), (70, .getfield 56, 3, 73), (73, .invokestatic 57, 3, 76), (76, .imul, 1, 77), (77, .aload_n 0, 1, 78), (78, .getfield 18, 3, 81), (81, .getfield 62, 3, 84), (84, .iload_n 1, 1, 85), (85, .iaload, 1, 86), (86, .iadd, 1, 87), (87, .ireturn, 1, 88)])
theorem ok_St_costFor : zOK m_St_costFor := ⟨by decide +kernel, by decide +kernel, rfl, by decide +kernel⟩
def m_St_find : zMth := (RX7, yX7_find, cX7_find, 6, none, 5, 120, [(0, .aload_n 0, 1, 1), (1, .getfield 18, 3, 4), (4, .iconst (-1), 1, 5), (5, .iconst 0, 1, 6), (6, .invokevirtual 22, 3, 9), (9, .sipush 900, 3, 12), (12, .istore_n 3, 1, 13), (13, .iconst 0, 1, 14), (14, .istore 4, 2, 16), (16, .iload 4, 2, 18), (18, .sipush 729, 3, 21), (21, .if_icmp .ge 105, 3, 24), (24, .aload_n 0, 1, 25), (25, .getfield 11, 3, 28), (28, .iconst 0, 1, 29), (29, .iload 4, 2, 31), (31, .bipush 81, 2, 33), (33, .idiv, 1, 34), (34, .iastore, 1, 35), (35, .aload_n 0, 1, 36), (36, .getfield 11, 3, 39), (39, .iconst 1, 1, 40), (40, .iload 4, 2, 42), (42, .bipush 9, 2, 44), (44, .idiv, 1, 45), (45, .bipush 9, 2, 47), (47, .irem, 1, 48), (48, .iastore, 1, 49), (49, .aload_n 0, 1, 50), (50, .getfield 11, 3, 53), (53, .iconst 2, 1, 54), (54, .iload 4, 2, 56), (56, .bipush 9, 2, 58), (58, .irem, 1, 59), (59, .iastore, 1, 60), (60, .aload_n 0, 1, 61), (61, .getfield 11, 3, 64), (64, .iconst 0, 1, 65), (65, .iaload, 1, 66), (66, .iload_n 2, 1, 67), (67, .if_icmp .eq 23, 3, 70), (70, .aload_n 0, 1, 71), (71, .getfield 11, 3, 74), (74, .iconst 1, 1, 75), (75, .iaload, 1, 76), (76, .iload_n 2, 1, 77), (77, .if_icmp .eq 13, 3, 80), (80, .aload_n 0, 1, 81), (81, .getfield 11, 3, 84), (84, .iconst 2, 1, 85), (85, .iaload, 1, 86), (86, .iload_n 2, 1, 87), (87, .if_icmp .ne 33, 3, 90), (90, .aload_n 0, 1, 91), (91, .iload_n 1, 1, 92), (92, .invokevirtual 28, 3, 95), (95, .istore 5, 2, 97), (97, .iload 5, 2, 99), (99, .iload_n 3, 1, 100), (100, .if_icmp .ge 20, 3, 103), (103, .iload 5, 2, 105), (105, .istore_n 3, 1, 106), (106, .aload_n 0, 1, 107), (107, .getfield 11, 3, 110), (110, .iconst 0, 1, 111), (111, .aload_n 0, 1, 112), (112, .getfield 15, 3, 115), (115, .iconst 0, 1, 116), (116, .iconst 3, 1, 117), (117, .invokestatic 32, 3, 120), (120, .iinc 4 1, 3, 123), (123, .goto (-107), 3, 126), (126, .aload_n 0, 1, 127), (127, .iload_n 3, 1, 128), (128, .bipush 100, 2, 130), (130, .idiv, 1, 131), (131, .putfield 38, 3, 134), (134, .return_, 1, 135)])
theorem ok_St_find : zOK m_St_find := ⟨by decide +kernel, by decide +kernel, rfl, by decide +kernel⟩
def m_St_streetIn : zMth := (RX7, yX7_streetIn, cX7_streetIn, 2, (some .int), 1, 22, [(0, .iload_n 1, 1, 1), (1, .iconst 0, 1, 2), (2, .iconst 2, 1, 3), (3, .invokestatic 42, 3, 6), (6, .ifCond .eq 12, 3, 9), (9, .aload_n 0, 1, 10), (10, .getfield 15, 3, 13), (13, .iload_n 1, 1, 14), (14, .iaload, 1, 15), (15, .goto 4, 3, 18), (18, .iconst (-1), 1, 19), (19, .ireturn, 1, 20)])
theorem ok_St_streetIn : zOK m_St_streetIn := ⟨by decide +kernel, by decide +kernel, rfl, by decide +kernel⟩
def m_Tx_append : zMth := (RX8, yX8_append, cX8_append, 2, none, 0, 0, [(0, .aload_n 0, 1, 1), (1, .getfield 19, 3, 4), (4, .aload_n 0, 1, 5), (5, .getfield 13, 3, 8), (8, .arraylength, 1, 9), (9, .if_icmp .ge 23, 3, 12), (12, .aload_n 0, 1, 13), (13, .getfield 13, 3, 16), (16, .aload_n 0, 1, 17), (17, .getfield 19, 3, 20), (20, .iload_n 1, 1, 21), (21, .iastore, 1, 22), (22, .aload_n 0, 1, 23), (23, .dup, 1, 24), (24, .getfield 19, 3, 27), (27, .iconst 1, 1, 28), (28, .iadd, 1, 29), (29, .putfield 19, 3, 32), (32, .return_, 1, 33)])
theorem ok_Tx_append : zOK m_Tx_append := ⟨by decide +kernel, by decide +kernel, rfl, by decide +kernel⟩
def m_Wa_take : zMth := (RX9, yX9_take, cX9_take, 6, none, 1, 23, [(0, .aload_n 0, 1, 1), (1, .getfield 9, 3, 4), (4, .iconst (-1), 1, 5), (5, .invokestatic 19, 3, 8), (8, .aload_n 0, 1, 9), (9, .iconst (-1), 1, 10), (10, .putfield 15, 3, 13), (13, .iconst 0, 1, 14), (14, .istore_n 2, 1, 15), (15, .iconst 0, 1, 16), (16, .istore_n 3, 1, 17), (17, .iconst 0, 1, 18), (18, .istore 4, 2, 20), (20, .iload 4, 2, 22), (22, .aload_n 1, 1, 23), (23, .getfield 25, 3, 26), (26, .if_icmp .ge 93, 3, 29), (29, .aload_n 0, 1, 30), (30, .getfield 15, 3, 33), (33, .iconst (-1), 1, 34), (34, .if_icmp .ne 85, 3, 37), (37, .aload_n 1, 1, 38), (38, .getfield 30, 3, 41), (41, .iload 4, 2, 43), (43, .iaload, 1, 44), (44, .istore 5, 2, 46), (46, .iload 5, 2, 48), (48, .bipush 59, 2, 50), (50, .if_icmp .ne 17, 3, 53), (53, .iload_n 2, 1, 54), (54, .bipush 7, 2, 56), (56, .if_icmp .ge 11, 3, 59), (59, .iinc 2 1, 3, 62), (62, .iconst 0, 1, 63), (63, .istore_n 3, 1, 64), (64, .goto 49, 3, 67), (67, .iload 5, 2, 69), (69, .bipush 97, 2, 71), (71, .bipush 104, 2, 73), (73, .invokestatic 33, 3, 76), (76, .ifCond .eq 31, 3, 79), (79, .iload_n 3, 1, 80), (80, .bipush 12, 2, 82), (82, .if_icmp .ge 25, 3, 85), (85, .aload_n 0, 1, 86), (86, .getfield 9, 3, 89), (89, .iload_n 3, 1, 90), (90, .bipush 8, 2, 92), (92, .imul, 1, 93), (93, .iload_n 2, 1, 94), (94, .iadd, 1, 95), (95, .iload 5, 2, 97), (97, .bipush 97, 2, 99), (99, .isub, 1, 100), (100, .iastore, 1, 101), (101, .iinc 3 1, 3, 104), (104, .goto 9, 3, 107), (107, .aload_n 0, 1, 108), (108, .iload 4, 2, 110), (110, .putfield 15, 3, 113), (113, .iinc 4 1, 3, 116), (116, .goto (-96), 3, 119), (119, .aload_n 0, 1, 120), (120, .aload_n 1, 1, 121), (121, .getfield 25, 3, 124), (124, .ifCond .eq 11, 3, 127), (127, .aload_n 0, 1, 128), (128, .getfield 15, 3, 131), (131, .iconst (-1), 1, 132), (132, .if_icmp .eq 7, 3, 135), (135, .iconst 0, 1, 136), (136, .goto 6, 3, 139), (139, .iload_n 2, 1, 140), (140, .iconst 1, 1, 141), (141, .iadd, 1, 142), (142, .putfield 37, 3, 145), (145, .aload_n 0, 1, 146), (146, .getfield 15, 3, 149), (149, .iconst (-1), 1, 150), (150, .if_icmp .eq 11, 3, 153), (153, .aload_n 0, 1, 154), (154, .getfield 9, 3, 157), (157, .iconst (-1), 1, 158), (158, .invokestatic 19, 3, 161), (161, .return_, 1, 162)])
theorem ok_Wa_take : zOK m_Wa_take := ⟨by decide +kernel, by decide +kernel, rfl, by decide +kernel⟩
def m_B_isText : zMth := (RX10, yX10_isText, cX10_isText, 1, (some .boolean), 1, 22, [(0, .iload_n 0, 1, 1), (1, .iconst 0, 1, 2), (2, .iconst 1, 1, 3), (3, .invokestatic 100, 3, 6), (6, .ireturn, 1, 7)])
theorem ok_B_isText : zOK m_B_isText := ⟨by decide +kernel, by decide +kernel, rfl, by decide +kernel⟩
def m_B_textOf : zMth := (RX10, yX10_textOf, cX10_textOf, 2, (some (.object "LowerBows$Text")), 0, 0, [(0, .iload_n 1, 1, 1), (1, .ifCond .ne 10, 3, 4), (4, .aload_n 0, 1, 5), (5, .getfield 14, 3, 8), (8, .goto 7, 3, 11), (11, .aload_n 0, 1, 12), (12, .getfield 18, 3, 15), (15, .areturn, 1, 16)])
theorem ok_B_textOf : zOK m_B_textOf := ⟨by decide +kernel, by decide +kernel, rfl, by decide +kernel⟩
def m_B_readAgain : zMth := (RX10, yX10_readAgain, cX10_readAgain, 2, none, 4, 87, [(0, .iload_n 1, 1, 1), (1, .ifCond .ne 17, 3, 4), (4, .aload_n 0, 1, 5), (5, .getfield 24, 3, 8), (8, .aload_n 0, 1, 9), (9, .getfield 14, 3, 12), (12, .invokevirtual 332, 3, 15), (15, .goto 14, 3, 18), (18, .aload_n 0, 1, 19), (19, .getfield 31, 3, 22), (22, .aload_n 0, 1, 23), (23, .getfield 18, 3, 26), (26, .invokevirtual 336, 3, 29), (29, .return_, 1, 30)])
theorem ok_B_readAgain : zOK m_B_readAgain := ⟨by decide +kernel, by decide +kernel, rfl, by decide +kernel⟩
def m_B_type : zMth := (RX10, yX10_type, cX10_type, 4, (some .int), 5, 108, [(0, .iload_n 1, 1, 1), (1, .invokestatic 96, 3, 4), (4, .ifCond .eq 14, 3, 7), (7, .iload_n 2, 1, 8), (8, .iconst 0, 1, 9), (9, .sipush 255, 3, 12), (12, .invokestatic 100, 3, 15), (15, .ifCond .ne 6, 3, 18), (18, .bipush (-2), 2, 20), (20, .ireturn, 1, 21), (21, .aload_n 0, 1, 22), (22, .iload_n 1, 1, 23), (23, .invokevirtual 104, 3, 26), (26, .astore_n 3, 1, 27), (27, .aload_n 3, 1, 28), (28, .getfield 108, 3, 31), (31, .aload_n 3, 1, 32), (32, .getfield 112, 3, 35), (35, .arraylength, 1, 36), (36, .if_icmp .lt 6, 3, 39), (39, .bipush (-4), 2, 41), (41, .ireturn, 1, 42), (42, .aload_n 3, 1, 43), (43, .iload_n 2, 1, 44), (44, .invokevirtual 116, 3, 47), (47, .aload_n 0, 1, 48), (48, .iload_n 1, 1, 49), (49, .invokevirtual 119, 3, 52), (52, .aload_n 3, 1, 53), (53, .getfield 108, 3, 56), (56, .ireturn, 1, 57)])
theorem ok_B_type : zOK m_B_type := ⟨by decide +kernel, by decide +kernel, rfl, by decide +kernel⟩
def m_B_wipe : zMth := (RX10, yX10_wipe, cX10_wipe, 4, (some .int), 5, 108, [(0, .iload_n 1, 1, 1), (1, .invokestatic 96, 3, 4), (4, .ifCond .ne 6, 3, 7), (7, .bipush (-2), 2, 9), (9, .ireturn, 1, 10), (10, .aload_n 0, 1, 11), (11, .iload_n 1, 1, 12), (12, .invokevirtual 104, 3, 15), (15, .astore_n 2, 1, 16), (16, .aload_n 2, 1, 17), (17, .getfield 108, 3, 20), (20, .istore_n 3, 1, 21), (21, .aload_n 2, 1, 22), (22, .iconst 0, 1, 23), (23, .putfield 108, 3, 26), (26, .aload_n 0, 1, 27), (27, .iload_n 1, 1, 28), (28, .invokevirtual 119, 3, 31), (31, .iload_n 3, 1, 32), (32, .ireturn, 1, 33)])
theorem ok_B_wipe : zOK m_B_wipe := ⟨by decide +kernel, by decide +kernel, rfl, by decide +kernel⟩
def m_B_undo : zMth := (RX10, yX10_undo, cX10_undo, 3, (some .int), 5, 108, [(0, .iload_n 1, 1, 1), (1, .invokestatic 96, 3, 4), (4, .ifCond .ne 6, 3, 7), (7, .bipush (-2), 2, 9), (9, .ireturn, 1, 10), (10, .aload_n 0, 1, 11), (11, .iload_n 1, 1, 12), (12, .invokevirtual 104, 3, 15), (15, .astore_n 2, 1, 16), (16, .aload_n 2, 1, 17), (17, .getfield 108, 3, 20), (20, .ifCond .ne 6, 3, 23), (23, .bipush (-3), 2, 25), (25, .ireturn, 1, 26), (26, .aload_n 2, 1, 27), (27, .dup, 1, 28), (28, .getfield 108, 3, 31), (31, .iconst 1, 1, 32), (32, .isub, 1, 33), (33, .putfield 108, 3, 36), (36, .aload_n 0, 1, 37), (37, .iload_n 1, 1, 38), (38, .invokevirtual 119, 3, 41), (41, .aload_n 2, 1, 42), (42, .getfield 108, 3, 45), (45, .ireturn, 1, 46)])
theorem ok_B_undo : zOK m_B_undo := ⟨by decide +kernel, by decide +kernel, rfl, by decide +kernel⟩
def m_B_fault : zMth := (RX10, yX10_fault, cX10_fault, 2, (some .int), 2, 42, [(0, .iload_n 1, 1, 1), (1, .invokestatic 96, 3, 4), (4, .ifCond .ne 6, 3, 7), (7, .bipush (-2), 2, 9), (9, .ireturn, 1, 10), (10, .iload_n 1, 1, 11), (11, .ifCond .ne 13, 3, 14), (14, .aload_n 0, 1, 15), (15, .getfield 24, 3, 18), (18, .getfield 122, 3, 21), (21, .goto 10, 3, 24), (24, .aload_n 0, 1, 25), (25, .getfield 31, 3, 28), (28, .getfield 125, 3, 31), (31, .ireturn, 1, 32)])
theorem ok_B_fault : zOK m_B_fault := ⟨by decide +kernel, by decide +kernel, rfl, by decide +kernel⟩
def m_B_isPerson : zMth := (RX10, yX10_isPerson, cX10_isPerson, 2, (some .boolean), 1, 22, [(0, .iload_n 1, 1, 1), (1, .iconst 0, 1, 2), (2, .aload_n 0, 1, 3), (3, .getfield 24, 3, 6), (6, .getfield 200, 3, 9), (9, .iconst 1, 1, 10), (10, .isub, 1, 11), (11, .invokestatic 100, 3, 14), (14, .ireturn, 1, 15)])
theorem ok_B_isPerson : zOK m_B_isPerson := ⟨by decide +kernel, by decide +kernel, rfl, by decide +kernel⟩
def m_B_person : zMth := (RX10, yX10_person, cX10_person, 3, (some .int), 2, 43, [(0, .aload_n 0, 1, 1), (1, .iload_n 1, 1, 2), (2, .invokevirtual 126, 3, 5), (5, .ifCond .ne 6, 3, 8), (8, .bipush (-2), 2, 10), (10, .ireturn, 1, 11), (11, .iload_n 2, 1, 12), (12, .tableswitch 58 0 2 #[28, 38, 48], 28, 40), (40, .aload_n 0, 1, 41), (41, .getfield 24, 3, 44), (44, .getfield 129, 3, 47), (47, .iload_n 1, 1, 48), (48, .iaload, 1, 49), (49, .ireturn, 1, 50), (50, .aload_n 0, 1, 51), (51, .getfield 24, 3, 54), (54, .getfield 132, 3, 57), (57, .iload_n 1, 1, 58), (58, .iaload, 1, 59), (59, .ireturn, 1, 60), (60, .aload_n 0, 1, 61), (61, .getfield 24, 3, 64), (64, .getfield 135, 3, 67), (67, .iload_n 1, 1, 68), (68, .iaload, 1, 69), (69, .ireturn, 1, 70), (70, .bipush (-2), 2, 72), (72, .ireturn, 1, 73)])
theorem ok_B_person : zOK m_B_person := ⟨by decide +kernel, by decide +kernel, rfl, by decide +kernel⟩
def m_B_isHour : zMth := (RX10, yX10_isHour, cX10_isHour, 1, (some .boolean), 1, 22, [(0, .iload_n 0, 1, 1), (1, .iconst 0, 1, 2), (2, .bipush 11, 2, 4), (4, .invokestatic 100, 3, 7), (7, .ireturn, 1, 8)])
theorem ok_B_isHour : zOK m_B_isHour := ⟨by decide +kernel, by decide +kernel, rfl, by decide +kernel⟩
def m_B_street : zMth := (RX10, yX10_street, cX10_street, 3, (some .int), 2, 43, [(0, .iload_n 1, 1, 1), (1, .invokestatic 138, 3, 4), (4, .ifCond .eq 11, 3, 7), (7, .aload_n 0, 1, 8), (8, .iload_n 2, 1, 9), (9, .invokevirtual 126, 3, 12), (12, .ifCond .ne 6, 3, 15), (15, .bipush (-2), 2, 17), (17, .ireturn, 1, 18), (18, .aload_n 0, 1, 19), (19, .getfield 31, 3, 22), (22, .getfield 141, 3, 25), (25, .iload_n 1, 1, 26), (26, .bipush 8, 2, 28), (28, .imul, 1, 29), (29, .iload_n 2, 1, 30), (30, .iadd, 1, 31), (31, .iaload, 1, 32), (32, .ireturn, 1, 33)])
theorem ok_B_street : zOK m_B_street := ⟨by decide +kernel, by decide +kernel, rfl, by decide +kernel⟩
def m_B_mayBeOld : zMth := (RX10, yX10_mayBeOld, cX10_mayBeOld, 3, (some .boolean), 1, 22, [(0, .iload_n 0, 1, 1), (1, .iconst 0, 1, 2), (2, .bipush 7, 2, 4), (4, .invokestatic 100, 3, 7), (7, .ifCond .eq 32, 3, 10), (10, .iload_n 1, 1, 11), (11, .iconst 0, 1, 12), (12, .bipush 7, 2, 14), (14, .invokestatic 100, 3, 17), (17, .ifCond .eq 22, 3, 20), (20, .iload_n 0, 1, 21), (21, .iload_n 1, 1, 22), (22, .if_icmp .eq 17, 3, 25), (25, .iload_n 2, 1, 26), (26, .iconst 1, 1, 27), (27, .bipush 99, 2, 29), (29, .invokestatic 100, 3, 32), (32, .ifCond .eq 7, 3, 35), (35, .iconst 1, 1, 36), (36, .goto 4, 3, 39), (39, .iconst 0, 1, 40), (40, .ireturn, 1, 41)])
theorem ok_B_mayBeOld : zOK m_B_mayBeOld := ⟨by decide +kernel, by decide +kernel, rfl, by decide +kernel⟩
def m_B_old : zMth := (RX10, yX10_old, cX10_old, 4, (some .int), 2, 44, [(0, .iload_n 1, 1, 1), (1, .iload_n 2, 1, 2), (2, .iload_n 3, 1, 3), (3, .invokestatic 144, 3, 6), (6, .ifCond .ne 6, 3, 9), (9, .bipush (-2), 2, 11), (11, .ireturn, 1, 12), (12, .aload_n 0, 1, 13), (13, .getfield 38, 3, 16), (16, .iload_n 1, 1, 17), (17, .iload_n 2, 1, 18), (18, .iload_n 3, 1, 19), (19, .invokevirtual 147, 3, 22), (22, .ireturn, 1, 23)])
theorem ok_B_old : zOK m_B_old := ⟨by decide +kernel, by decide +kernel, rfl, by decide +kernel⟩
def m_B_umbrella : zMth := (RX10, yX10_umbrella, cX10_umbrella, 3, (some .int), 2, 42, [(0, .iload_n 1, 1, 1), (1, .invokestatic 138, 3, 4), (4, .ifCond .eq 13, 3, 7), (7, .iload_n 2, 1, 8), (8, .iconst 0, 1, 9), (9, .bipush 7, 2, 11), (11, .invokestatic 100, 3, 14), (14, .ifCond .ne 6, 3, 17), (17, .bipush (-2), 2, 19), (19, .ireturn, 1, 20), (20, .aload_n 0, 1, 21), (21, .getfield 42, 3, 24), (24, .iload_n 1, 1, 25), (25, .iload_n 2, 1, 26), (26, .iconst 0, 1, 27), (27, .invokevirtual 147, 3, 30), (30, .ireturn, 1, 31)])
theorem ok_B_umbrella : zOK m_B_umbrella := ⟨by decide +kernel, by decide +kernel, rfl, by decide +kernel⟩
def m_B_back : zMth := (RX10, yX10_back, cX10_back, 3, (some .int), 1, 22, [(0, .iload_n 1, 1, 1), (1, .iconst 0, 1, 2), (2, .iconst 1, 1, 3), (3, .invokestatic 100, 3, 6), (6, .ifCond .ne 6, 3, 9), (9, .bipush (-2), 2, 11), (11, .ireturn, 1, 12), (12, .iload_n 1, 1, 13), (13, .ifCond .ne 10, 3, 16), (16, .aload_n 0, 1, 17), (17, .getfield 38, 3, 20), (20, .goto 7, 3, 23), (23, .aload_n 0, 1, 24), (24, .getfield 42, 3, 27), (27, .astore_n 2, 1, 28), (28, .aload_n 2, 1, 29), (29, .getfield 151, 3, 32), (32, .ifCond .ne 6, 3, 35), (35, .bipush (-3), 2, 37), (37, .ireturn, 1, 38), (38, .aload_n 2, 1, 39), (39, .dup, 1, 40), (40, .getfield 151, 3, 43), (43, .iconst 1, 1, 44), (44, .isub, 1, 45), (45, .putfield 151, 3, 48), (48, .aload_n 2, 1, 49), (49, .getfield 151, 3, 52), (52, .ireturn, 1, 53)])
theorem ok_B_back : zOK m_B_back := ⟨by decide +kernel, by decide +kernel, rfl, by decide +kernel⟩
def m_B_isSheet : zMth := (RX10, yX10_isSheet, cX10_isSheet, 1, (some .boolean), 1, 22, [(0, .iload_n 0, 1, 1), (1, .iconst 0, 1, 2), (2, .iconst 3, 1, 3), (3, .invokestatic 100, 3, 6), (6, .ireturn, 1, 7)])
theorem ok_B_isSheet : zOK m_B_isSheet := ⟨by decide +kernel, by decide +kernel, rfl, by decide +kernel⟩
def m_B_found : zMth := (RX10, yX10_found, cX10_found, 2, (some .int), 0, 0, [(0, .aload_n 0, 1, 1), (1, .iload_n 1, 1, 2), (2, .putfield 281, 3, 5), (5, .bipush (-10), 2, 7), (7, .iload_n 1, 1, 8), (8, .isub, 1, 9), (9, .ireturn, 1, 10)])
theorem ok_B_found : zOK m_B_found := ⟨by decide +kernel, by decide +kernel, rfl, by decide +kernel⟩
def m_B_read : zMth := (RX10, yX10_read, cX10_read, 8, (some .int), 2, 44, [(0, .iload_n 1, 1, 1), (1, .invokestatic 152, 3, 4), (4, .ifCond .ne 6, 3, 7), (7, .bipush (-2), 2, 9), (9, .ireturn, 1, 10), (10, .aload_n 0, 1, 11), (11, .getfield 91, 3, 14), (14, .iload_n 1, 1, 15), (15, .aaload, 1, 16), (16, .astore_n 2, 1, 17), (17, .aload_n 2, 1, 18), (18, .getfield 155, 3, 21), (21, .ifCond .eq 9, 3, 24), (24, .aload_n 0, 1, 25), (25, .iconst 1, 1, 26), (26, .invokevirtual 159, 3, 29), (29, .ireturn, 1, 30), (30, .iconst 0, 1, 31), (31, .istore_n 3, 1, 32), (32, .iconst 0, 1, 33), (33, .istore 4, 2, 35), (35, .iload 4, 2, 37), (37, .iconst 3, 1, 38), (38, .iadd, 1, 39), (39, .aload_n 2, 1, 40), (40, .getfield 163, 3, 43), (43, .if_icmp .gt 76, 3, 46), (46, .aload_n 2, 1, 47), (47, .getfield 164, 3, 50), (50, .iload 4, 2, 52), (52, .iaload, 1, 53), (53, .istore 5, 2, 55), (55, .aload_n 2, 1, 56), (56, .getfield 164, 3, 59), (59, .iload 4, 2, 61), (61, .iconst 1, 1, 62), (62, .iadd, 1, 63), (63, .iaload, 1, 64), (64, .istore 6, 2, 66), (66, .aload_n 2, 1, 67), (67, .getfield 164, 3, 70), (70, .iload 4, 2, 72), (72, .iconst 2, 1, 73), (73, .iadd, 1, 74), (74, .iaload, 1, 75), (75, .istore 7, 2, 77), (77, .iload 5, 2, 79), (79, .iload 6, 2, 81), (81, .iload 7, 2, 83), (83, .invokestatic 144, 3, 86), (86, .ifCond .eq 33, 3, 89), (89, .aload_n 0, 1, 90), (90, .getfield 38, 3, 93), (93, .iload 5, 2, 95), (95, .iload 6, 2, 97), (97, .iload 7, 2, 99), (99, .invokevirtual 147, 3, 102), (102, .bipush (-4), 2, 104), (104, .if_icmp .ne 6, 3, 107), (107, .goto 12, 3, 110), (110, .iinc 3 1, 3, 113), (113, .iinc 4 3, 3, 116), (116, .goto (-81), 3, 119), (119, .iload_n 3, 1, 120), (120, .ireturn, 1, 121)])
theorem ok_B_read : zOK m_B_read := ⟨by decide +kernel, by decide +kernel, rfl, by decide +kernel⟩
def m_B_low : zMth := (RX10, yX10_low, cX10_low, 3, (some .int), 5, 119, [(0, .iload_n 1, 1, 1), (1, .invokestatic 138, 3, 4), (4, .ifCond .eq 11, 3, 7), (7, .aload_n 0, 1, 8), (8, .iload_n 2, 1, 9), (9, .invokevirtual 126, 3, 12), (12, .ifCond .ne 6, 3, 15), (15, .bipush (-2), 2, 17), (17, .ireturn, 1, 18), (18, .aload_n 0, 1, 19), (19, .getfield 53, 3, 22), (22, .iload_n 1, 1, 23), (23, .invokevirtual 167, 3, 26), (26, .aload_n 0, 1, 27), (27, .getfield 53, 3, 30), (30, .getfield 170, 3, 33), (33, .iload_n 2, 1, 34), (34, .iaload, 1, 35), (35, .ireturn, 1, 36)])
theorem ok_B_low : zOK m_B_low := ⟨by decide +kernel, by decide +kernel, rfl, by decide +kernel⟩
def m_B_behind : zMth := (RX10, yX10_behind, cX10_behind, 3, (some .int), 5, 119, [(0, .iload_n 1, 1, 1), (1, .invokestatic 138, 3, 4), (4, .ifCond .eq 12, 3, 7), (7, .iload_n 2, 1, 8), (8, .iconst 0, 1, 9), (9, .iconst 1, 1, 10), (10, .invokestatic 100, 3, 13), (13, .ifCond .ne 6, 3, 16), (16, .bipush (-2), 2, 18), (18, .ireturn, 1, 19), (19, .aload_n 0, 1, 20), (20, .getfield 53, 3, 23), (23, .iload_n 1, 1, 24), (24, .invokevirtual 167, 3, 27), (27, .iload_n 2, 1, 28), (28, .ifCond .ne 13, 3, 31), (31, .aload_n 0, 1, 32), (32, .getfield 53, 3, 35), (35, .getfield 173, 3, 38), (38, .goto 10, 3, 41), (41, .aload_n 0, 1, 42), (42, .getfield 53, 3, 45), (45, .getfield 176, 3, 48), (48, .ireturn, 1, 49)])
theorem ok_B_behind : zOK m_B_behind := ⟨by decide +kernel, by decide +kernel, rfl, by decide +kernel⟩
def m_B_owes : zMth := (RX10, yX10_owes, cX10_owes, 4, (some .int), 5, 119, [(0, .iload_n 1, 1, 1), (1, .invokestatic 138, 3, 4), (4, .ifCond .eq 24, 3, 7), (7, .aload_n 0, 1, 8), (8, .iload_n 2, 1, 9), (9, .invokevirtual 126, 3, 12), (12, .ifCond .eq 16, 3, 15), (15, .aload_n 0, 1, 16), (16, .iload_n 3, 1, 17), (17, .invokevirtual 126, 3, 20), (20, .ifCond .eq 8, 3, 23), (23, .iload_n 2, 1, 24), (24, .iload_n 3, 1, 25), (25, .if_icmp .ne 6, 3, 28), (28, .bipush (-2), 2, 30), (30, .ireturn, 1, 31), (31, .aload_n 0, 1, 32), (32, .getfield 53, 3, 35), (35, .iload_n 1, 1, 36), (36, .invokevirtual 167, 3, 39), (39, .aload_n 0, 1, 40), (40, .getfield 53, 3, 43), (43, .iload_n 2, 1, 44), (44, .iload_n 3, 1, 45), (45, .invokevirtual 179, 3, 48), (48, .ireturn, 1, 49)])
theorem ok_B_owes : zOK m_B_owes := ⟨by decide +kernel, by decide +kernel, rfl, by decide +kernel⟩
def m_B_first : zMth := (RX10, yX10_first, cX10_first, 2, (some .int), 5, 119, [(0, .iload_n 1, 1, 1), (1, .iconst 0, 1, 2), (2, .iconst 1, 1, 3), (3, .invokestatic 100, 3, 6), (6, .ifCond .ne 6, 3, 9), (9, .bipush (-2), 2, 11), (11, .ireturn, 1, 12), (12, .aload_n 0, 1, 13), (13, .getfield 53, 3, 16), (16, .bipush 11, 2, 18), (18, .invokevirtual 167, 3, 21), (21, .iload_n 1, 1, 22), (22, .ifCond .ne 13, 3, 25), (25, .aload_n 0, 1, 26), (26, .getfield 53, 3, 29), (29, .getfield 183, 3, 32), (32, .goto 10, 3, 35), (35, .aload_n 0, 1, 36), (36, .getfield 53, 3, 39), (39, .getfield 186, 3, 42), (42, .ireturn, 1, 43)])
theorem ok_B_first : zOK m_B_first := ⟨by decide +kernel, by decide +kernel, rfl, by decide +kernel⟩
def m_B_ends : zMth := (RX10, yX10_ends, cX10_ends, 6, (some .int), 5, 119, [(0, .aload_n 0, 1, 1), (1, .iload_n 1, 1, 2), (2, .invokevirtual 126, 3, 5), (5, .ifCond .eq 25, 3, 8), (8, .aload_n 0, 1, 9), (9, .iload_n 2, 1, 10), (10, .invokevirtual 126, 3, 13), (13, .ifCond .eq 17, 3, 16), (16, .iload_n 1, 1, 17), (17, .iload_n 2, 1, 18), (18, .if_icmp .eq 12, 3, 21), (21, .iload_n 3, 1, 22), (22, .iconst 0, 1, 23), (23, .iconst 1, 1, 24), (24, .invokestatic 100, 3, 27), (27, .ifCond .ne 6, 3, 30), (30, .bipush (-2), 2, 32), (32, .ireturn, 1, 33), (33, .aload_n 0, 1, 34), (34, .getfield 53, 3, 37), (37, .bipush 11, 2, 39), (39, .invokevirtual 167, 3, 42), (42, .aload_n 0, 1, 43), (43, .getfield 53, 3, 46), (46, .iload_n 1, 1, 47), (47, .iload_n 2, 1, 48), (48, .invokevirtual 189, 3, 51), (51, .ifCond .ne 5, 3, 54), (54, .iconst (-1), 1, 55), (55, .ireturn, 1, 56), (56, .aload_n 0, 1, 57), (57, .getfield 53, 3, 60), (60, .getfield 176, 3, 63), (63, .istore 4, 2, 65), (65, .iconst 0, 1, 66), (66, .istore 5, 2, 68), (68, .iload 5, 2, 70), (70, .bipush 99, 2, 72), (72, .if_icmp .gt 30, 3, 75), (75, .aload_n 0, 1, 76), (76, .getfield 53, 3, 79), (79, .iload_n 1, 1, 80), (80, .iload_n 2, 1, 81), (81, .invokevirtual 189, 3, 84), (84, .ifCond .eq 18, 3, 87), (87, .aload_n 0, 1, 88), (88, .getfield 53, 3, 91), (91, .iload_n 1, 1, 92), (92, .iload_n 2, 1, 93), (93, .invokevirtual 193, 3, 96), (96, .iinc 5 1, 3, 99), (99, .goto (-31), 3, 102), (102, .iload_n 3, 1, 103), (103, .ifCond .ne 14, 3, 106), (106, .aload_n 0, 1, 107), (107, .getfield 53, 3, 110), (110, .getfield 176, 3, 113), (113, .iload 4, 2, 115), (115, .isub, 1, 116), (116, .ireturn, 1, 117), (117, .aload_n 0, 1, 118), (118, .getfield 53, 3, 121), (121, .iload_n 1, 1, 122), (122, .invokevirtual 197, 3, 125), (125, .ifCond .eq 7, 3, 128), (128, .iconst 0, 1, 129), (129, .goto 4, 3, 132), (132, .iconst 1, 1, 133), (133, .ireturn, 1, 134)])
theorem ok_B_ends : zOK m_B_ends := ⟨by decide +kernel, by decide +kernel, rfl, by decide +kernel⟩
def m_B_rings : zMth := (RX10, yX10_rings, cX10_rings, 8, (some .int), 5, 119, [(0, .iload_n 1, 1, 1), (1, .invokestatic 138, 3, 4), (4, .ifCond .eq 12, 3, 7), (7, .iload_n 2, 1, 8), (8, .iconst 0, 1, 9), (9, .iconst 1, 1, 10), (10, .invokestatic 100, 3, 13), (13, .ifCond .ne 6, 3, 16), (16, .bipush (-2), 2, 18), (18, .ireturn, 1, 19), (19, .aload_n 0, 1, 20), (20, .getfield 53, 3, 23), (23, .iload_n 1, 1, 24), (24, .invokevirtual 167, 3, 27), (27, .iconst 0, 1, 28), (28, .istore_n 3, 1, 29), (29, .iconst (-1), 1, 30), (30, .istore 4, 2, 32), (32, .iconst 0, 1, 33), (33, .istore 5, 2, 35), (35, .iload 5, 2, 37), (37, .aload_n 0, 1, 38), (38, .getfield 24, 3, 41), (41, .getfield 200, 3, 44), (44, .if_icmp .ge 101, 3, 47), (47, .iload 5, 2, 49), (49, .iconst 1, 1, 50), (50, .iadd, 1, 51), (51, .istore 6, 2, 53), (53, .iload 6, 2, 55), (55, .aload_n 0, 1, 56), (56, .getfield 24, 3, 59), (59, .getfield 200, 3, 62), (62, .if_icmp .ge 77, 3, 65), (65, .iload 6, 2, 67), (67, .iconst 1, 1, 68), (68, .iadd, 1, 69), (69, .istore 7, 2, 71), (71, .iload 7, 2, 73), (73, .aload_n 0, 1, 74), (74, .getfield 24, 3, 77), (77, .getfield 200, 3, 80), (80, .if_icmp .ge 53, 3, 83), (83, .aload_n 0, 1, 84), (84, .getfield 53, 3, 87), (87, .iload 5, 2, 89), (89, .iload 6, 2, 91), (91, .iload 7, 2, 93), (93, .invokevirtual 201, 3, 96), (96, .ifCond .eq 31, 3, 99), (99, .iload_n 3, 1, 100), (100, .ifCond .ne 20, 3, 103), (103, .bipush 64, 2, 105), (105, .iload 5, 2, 107), (107, .imul, 1, 108), (108, .bipush 8, 2, 110), (110, .iload 6, 2, 112), (112, .imul, 1, 113), (113, .iadd, 1, 114), (114, .iload 7, 2, 116), (116, .iadd, 1, 117), (117, .goto 5, 3, 120), (120, .iload 4, 2, 122), (122, .istore 4, 2, 124), (124, .iinc 3 1, 3, 127), (127, .iinc 7 1, 3, 130), (130, .goto (-59), 3, 133), (133, .iinc 6 1, 3, 136), (136, .goto (-83), 3, 139), (139, .iinc 5 1, 3, 142), (142, .goto (-107), 3, 145), (145, .iload_n 2, 1, 146), (146, .ifCond .ne 7, 3, 149), (149, .iload_n 3, 1, 150), (150, .goto 5, 3, 153), (153, .iload 4, 2, 155), (155, .ireturn, 1, 156)])
theorem ok_B_rings : zOK m_B_rings := ⟨by decide +kernel, by decide +kernel, rfl, by decide +kernel⟩
def m_B_shade : zMth := (RX10, yX10_shade, cX10_shade, 2, (some .int), 7, 166, [(0, .iload_n 1, 1, 1), (1, .iconst (-1), 1, 2), (2, .iconst 1, 1, 3), (3, .invokestatic 100, 3, 6), (6, .ifCond .ne 6, 3, 9), (9, .bipush (-2), 2, 11), (11, .ireturn, 1, 12), (12, .aload_n 0, 1, 13), (13, .getfield 62, 3, 16), (16, .invokevirtual 204, 3, 19), (19, .iload_n 1, 1, 20), (20, .iconst (-1), 1, 21), (21, .if_icmp .ne 13, 3, 24), (24, .aload_n 0, 1, 25), (25, .getfield 62, 3, 28), (28, .getfield 207, 3, 31), (31, .goto 12, 3, 34), (34, .aload_n 0, 1, 35), (35, .getfield 62, 3, 38), (38, .getfield 208, 3, 41), (41, .iload_n 1, 1, 42), (42, .iaload, 1, 43), (43, .ireturn, 1, 44)])
theorem ok_B_shade : zOK m_B_shade := ⟨by decide +kernel, by decide +kernel, rfl, by decide +kernel⟩
def m_B_stroll : zMth := (RX10, yX10_stroll, cX10_stroll, 4, (some .int), 6, 145, [(0, .aload_n 0, 1, 1), (1, .iload_n 1, 1, 2), (2, .invokevirtual 126, 3, 5), (5, .ifCond .eq 22, 3, 8), (8, .iload_n 2, 1, 9), (9, .iconst 0, 1, 10), (10, .bipush 7, 2, 12), (12, .invokestatic 100, 3, 15), (15, .ifCond .eq 12, 3, 18), (18, .iload_n 3, 1, 19), (19, .iconst (-1), 1, 20), (20, .iconst 2, 1, 21), (21, .invokestatic 100, 3, 24), (24, .ifCond .ne 6, 3, 27), (27, .bipush (-2), 2, 29), (29, .ireturn, 1, 30), (30, .aload_n 0, 1, 31), (31, .getfield 69, 3, 34), (34, .iload_n 1, 1, 35), (35, .iload_n 2, 1, 36), (36, .invokevirtual 211, 3, 39), (39, .iload_n 3, 1, 40), (40, .iconst (-1), 1, 41), (41, .if_icmp .ne 13, 3, 44), (44, .aload_n 0, 1, 45), (45, .getfield 69, 3, 48), (48, .getfield 213, 3, 51), (51, .goto 11, 3, 54), (54, .aload_n 0, 1, 55), (55, .getfield 69, 3, 58), (58, .iload_n 3, 1, 59), (59, .invokevirtual 214, 3, 62), (62, .ireturn, 1, 63)])
theorem ok_B_stroll : zOK m_B_stroll := ⟨by decide +kernel, by decide +kernel, rfl, by decide +kernel⟩
def m_B_seen : zMth := (RX10, yX10_seen, cX10_seen, 4, (some .int), 2, 42, [(0, .iload_n 1, 1, 1), (1, .invokestatic 138, 3, 4), (4, .ifCond .eq 23, 3, 7), (7, .iload_n 2, 1, 8), (8, .iconst 0, 1, 9), (9, .bipush 7, 2, 11), (11, .invokestatic 100, 3, 14), (14, .ifCond .eq 13, 3, 17), (17, .iload_n 3, 1, 18), (18, .iconst 0, 1, 19), (19, .bipush 99, 2, 21), (21, .invokestatic 100, 3, 24), (24, .ifCond .ne 6, 3, 27), (27, .bipush (-2), 2, 29), (29, .ireturn, 1, 30), (30, .aload_n 0, 1, 31), (31, .getfield 45, 3, 34), (34, .iload_n 1, 1, 35), (35, .iload_n 2, 1, 36), (36, .iload_n 3, 1, 37), (37, .invokevirtual 147, 3, 40), (40, .ireturn, 1, 41)])
theorem ok_B_seen : zOK m_B_seen := ⟨by decide +kernel, by decide +kernel, rfl, by decide +kernel⟩
def m_B_forget : zMth := (RX10, yX10_forget, cX10_forget, 2, (some .int), 0, 0, [(0, .aload_n 0, 1, 1), (1, .getfield 45, 3, 4), (4, .getfield 151, 3, 7), (7, .istore_n 1, 1, 8), (8, .aload_n 0, 1, 9), (9, .getfield 45, 3, 12), (12, .iconst 0, 1, 13), (13, .putfield 151, 3, 16), (16, .iload_n 1, 1, 17), (17, .ireturn, 1, 18)])
theorem ok_B_forget : zOK m_B_forget := ⟨by decide +kernel, by decide +kernel, rfl, by decide +kernel⟩
def m_B_never : zMth := (RX10, yX10_never, cX10_never, 2, (some .int), 5, 120, [(0, .iload_n 1, 1, 1), (1, .iconst 0, 1, 2), (2, .iconst 1, 1, 3), (3, .invokestatic 100, 3, 6), (6, .ifCond .ne 6, 3, 9), (9, .bipush (-2), 2, 11), (11, .ireturn, 1, 12), (12, .iload_n 1, 1, 13), (13, .ifCond .ne 13, 3, 16), (16, .aload_n 0, 1, 17), (17, .getfield 78, 3, 20), (20, .invokevirtual 217, 3, 23), (23, .goto 10, 3, 26), (26, .aload_n 0, 1, 27), (27, .getfield 78, 3, 30), (30, .invokevirtual 221, 3, 33), (33, .ireturn, 1, 34)])
theorem ok_B_never : zOK m_B_never := ⟨by decide +kernel, by decide +kernel, rfl, by decide +kernel⟩
def m_B_pass : zMth := (RX10, yX10_pass, cX10_pass, 1, (some .int), 6, 145, [(0, .aload_n 0, 1, 1), (1, .getfield 78, 3, 4), (4, .invokevirtual 224, 3, 7), (7, .ireturn, 1, 8)])
theorem ok_B_pass : zOK m_B_pass := ⟨by decide +kernel, by decide +kernel, rfl, by decide +kernel⟩
def m_B_forgets : zMth := (RX10, yX10_forgets, cX10_forgets, 5, (some .long), 5, 124, [(0, .iload_n 1, 1, 1), (1, .iconst 0, 1, 2), (2, .bipush 16, 2, 4), (4, .invokestatic 100, 3, 7), (7, .ifCond .eq 28, 3, 10), (10, .iload_n 2, 1, 11), (11, .invokestatic 138, 3, 14), (14, .ifCond .eq 21, 3, 17), (17, .aload_n 0, 1, 18), (18, .iload_n 3, 1, 19), (19, .invokevirtual 126, 3, 22), (22, .ifCond .eq 13, 3, 25), (25, .iload 4, 2, 27), (27, .iconst 0, 1, 28), (28, .iconst 1, 1, 29), (29, .invokestatic 100, 3, 32), (32, .ifCond .ne 7, 3, 35), (35, .ldc2_w 227, 3, 38), (38, .lreturn, 1, 39), (39, .aload_n 0, 1, 40), (40, .getfield 85, 3, 43), (43, .iload_n 1, 1, 44), (44, .iload_n 2, 1, 45), (45, .invokevirtual 229, 3, 48), (48, .iload 4, 2, 50), (50, .ifCond .ne 14, 3, 53), (53, .aload_n 0, 1, 54), (54, .getfield 85, 3, 57), (57, .iload_n 3, 1, 58), (58, .invokevirtual 232, 3, 61), (61, .goto 11, 3, 64), (64, .aload_n 0, 1, 65), (65, .getfield 85, 3, 68), (68, .iload_n 3, 1, 69), (69, .invokevirtual 236, 3, 72), (72, .lreturn, 1, 73)])
theorem ok_B_forgets : zOK m_B_forgets := ⟨by decide +kernel, by decide +kernel, rfl, by decide +kernel⟩
def m_B_season : zMth := (RX10, yX10_season, cX10_season, 4, (some .int), 5, 119, [(0, .iload_n 2, 1, 1), (1, .iconst 1, 1, 2), (2, .bipush 99, 2, 4), (4, .invokestatic 100, 3, 7), (7, .ifCond .eq 16, 3, 10), (10, .iload_n 3, 1, 11), (11, .iconst (-1), 1, 12), (12, .if_icmp .eq 14, 3, 15), (15, .aload_n 0, 1, 16), (16, .iload_n 3, 1, 17), (17, .invokevirtual 126, 3, 20), (20, .ifCond .ne 6, 3, 23), (23, .bipush (-2), 2, 25), (25, .ireturn, 1, 26), (26, .aload_n 0, 1, 27), (27, .getfield 53, 3, 30), (30, .bipush 11, 2, 32), (32, .invokevirtual 167, 3, 35), (35, .aload_n 0, 1, 36), (36, .getfield 53, 3, 39), (39, .iload_n 1, 1, 40), (40, .iload_n 2, 1, 41), (41, .invokevirtual 239, 3, 44), (44, .iload_n 3, 1, 45), (45, .iconst (-1), 1, 46), (46, .if_icmp .ne 16, 3, 49), (49, .aload_n 0, 1, 50), (50, .getfield 53, 3, 53), (53, .getfield 173, 3, 56), (56, .invokestatic 242, 3, 59), (59, .goto 12, 3, 62), (62, .aload_n 0, 1, 63), (63, .getfield 53, 3, 66), (66, .getfield 170, 3, 69), (69, .iload_n 3, 1, 70), (70, .iaload, 1, 71), (71, .ireturn, 1, 72)])
theorem ok_B_season : zOK m_B_season := ⟨by decide +kernel, by decide +kernel, rfl, by decide +kernel⟩
def m_B_isForm : zMth := (RX10, yX10_isForm, cX10_isForm, 1, (some .boolean), 1, 22, [(0, .iload_n 0, 1, 1), (1, .iconst 0, 1, 2), (2, .iconst 2, 1, 3), (3, .invokestatic 100, 3, 6), (6, .ireturn, 1, 7)])
theorem ok_B_isForm : zOK m_B_isForm := ⟨by decide +kernel, by decide +kernel, rfl, by decide +kernel⟩
def m_B_sheet : zMth := (RX10, yX10_sheet, cX10_sheet, 4, (some .int), 2, 45, [(0, .iload_n 1, 1, 1), (1, .invokestatic 152, 3, 4), (4, .ifCond .eq 16, 3, 7), (7, .iload_n 2, 1, 8), (8, .invokestatic 247, 3, 11), (11, .ifCond .eq 9, 3, 14), (14, .iload_n 3, 1, 15), (15, .bipush 60, 2, 17), (17, .if_icmp .le 6, 3, 20), (20, .bipush (-2), 2, 22), (22, .ireturn, 1, 23), (23, .iload_n 3, 1, 24), (24, .ifCond .ge 9, 3, 27), (27, .aload_n 0, 1, 28), (28, .iconst 5, 1, 29), (29, .invokevirtual 159, 3, 32), (32, .ireturn, 1, 33), (33, .aload_n 0, 1, 34), (34, .getfield 91, 3, 37), (37, .iload_n 1, 1, 38), (38, .aaload, 1, 39), (39, .iload_n 2, 1, 40), (40, .iload_n 3, 1, 41), (41, .invokevirtual 250, 3, 44), (44, .iload_n 3, 1, 45), (45, .ireturn, 1, 46)])
theorem ok_B_sheet : zOK m_B_sheet := ⟨by decide +kernel, by decide +kernel, rfl, by decide +kernel⟩
def m_B_lose : zMth := (RX10, yX10_lose, cX10_lose, 3, (some .int), 2, 42, [(0, .iload_n 1, 1, 1), (1, .invokestatic 152, 3, 4), (4, .ifCond .ne 6, 3, 7), (7, .bipush (-2), 2, 9), (9, .ireturn, 1, 10), (10, .aload_n 0, 1, 11), (11, .getfield 91, 3, 14), (14, .iload_n 1, 1, 15), (15, .aaload, 1, 16), (16, .astore_n 2, 1, 17), (17, .aload_n 2, 1, 18), (18, .getfield 155, 3, 21), (21, .ifCond .eq 9, 3, 24), (24, .aload_n 0, 1, 25), (25, .iconst 1, 1, 26), (26, .invokevirtual 159, 3, 29), (29, .ireturn, 1, 30), (30, .aload_n 2, 1, 31), (31, .iconst 1, 1, 32), (32, .putfield 155, 3, 35), (35, .aload_n 2, 1, 36), (36, .getfield 163, 3, 39), (39, .ireturn, 1, 40)])
theorem ok_B_lose : zOK m_B_lose := ⟨by decide +kernel, by decide +kernel, rfl, by decide +kernel⟩
def m_B_lay : zMth := (RX10, yX10_lay, cX10_lay, 6, (some .int), 2, 44, [(0, .iload_n 1, 1, 1), (1, .invokestatic 152, 3, 4), (4, .ifCond .eq 10, 3, 7), (7, .iload_n 2, 1, 8), (8, .invokestatic 247, 3, 11), (11, .ifCond .ne 6, 3, 14), (14, .bipush (-2), 2, 16), (16, .ireturn, 1, 17), (17, .aload_n 0, 1, 18), (18, .getfield 91, 3, 21), (21, .iload_n 1, 1, 22), (22, .aaload, 1, 23), (23, .iload_n 2, 1, 24), (24, .iload_n 3, 1, 25), (25, .invokevirtual 253, 3, 28), (28, .istore 5, 2, 30), (30, .iload 5, 2, 32), (32, .ifCond .eq 10, 3, 35), (35, .aload_n 0, 1, 36), (36, .iload 5, 2, 38), (38, .invokevirtual 159, 3, 41), (41, .ireturn, 1, 42), (42, .aload_n 0, 1, 43), (43, .getfield 91, 3, 46), (46, .iload_n 1, 1, 47), (47, .aaload, 1, 48), (48, .iload_n 3, 1, 49), (49, .iload 4, 2, 51), (51, .invokevirtual 256, 3, 54), (54, .iconst 1, 1, 55), (55, .ireturn, 1, 56)])
theorem ok_B_lay : zOK m_B_lay := ⟨by decide +kernel, by decide +kernel, rfl, by decide +kernel⟩
def m_B_get : zMth := (RX10, yX10_get, cX10_get, 5, (some .int), 2, 44, [(0, .iload_n 1, 1, 1), (1, .invokestatic 152, 3, 4), (4, .ifCond .eq 10, 3, 7), (7, .iload_n 2, 1, 8), (8, .invokestatic 247, 3, 11), (11, .ifCond .ne 7, 3, 14), (14, .ldc_w 259, 3, 17), (17, .ireturn, 1, 18), (18, .aload_n 0, 1, 19), (19, .getfield 91, 3, 22), (22, .iload_n 1, 1, 23), (23, .aaload, 1, 24), (24, .iload_n 2, 1, 25), (25, .iload_n 3, 1, 26), (26, .invokevirtual 253, 3, 29), (29, .istore 4, 2, 31), (31, .iload 4, 2, 33), (33, .ifCond .eq 14, 3, 36), (36, .aload_n 0, 1, 37), (37, .iload 4, 2, 39), (39, .invokevirtual 159, 3, 42), (42, .pop, 1, 43), (43, .ldc_w 259, 3, 46), (46, .ireturn, 1, 47), (47, .aload_n 0, 1, 48), (48, .getfield 91, 3, 51), (51, .iload_n 1, 1, 52), (52, .aaload, 1, 53), (53, .getfield 164, 3, 56), (56, .iload_n 3, 1, 57), (57, .iaload, 1, 58), (58, .ireturn, 1, 59)])
theorem ok_B_get : zOK m_B_get := ⟨by decide +kernel, by decide +kernel, rfl, by decide +kernel⟩
def m_B_copy : zMth := (RX10, yX10_copy, cX10_copy, 8, (some .int), 2, 48, [(0, .iload_n 1, 1, 1), (1, .invokestatic 152, 3, 4), (4, .ifCond .eq 10, 3, 7), (7, .iload_n 3, 1, 8), (8, .invokestatic 152, 3, 11), (11, .ifCond .ne 6, 3, 14), (14, .bipush (-2), 2, 16), (16, .ireturn, 1, 17), (17, .aload_n 0, 1, 18), (18, .getfield 91, 3, 21), (21, .iload_n 1, 1, 22), (22, .aaload, 1, 23), (23, .astore 6, 2, 25), (25, .aload_n 0, 1, 26), (26, .getfield 91, 3, 29), (29, .iload_n 3, 1, 30), (30, .aaload, 1, 31), (31, .astore 7, 2, 33), (33, .aload 6, 2, 35), (35, .getfield 155, 3, 38), (38, .ifCond .ne 11, 3, 41), (41, .aload 7, 2, 43), (43, .getfield 155, 3, 46), (46, .ifCond .eq 9, 3, 49), (49, .aload_n 0, 1, 50), (50, .iconst 1, 1, 51), (51, .invokevirtual 159, 3, 54), (54, .ireturn, 1, 55), (55, .aload 6, 2, 57), (57, .getfield 260, 3, 60), (60, .aload 7, 2, 62), (62, .getfield 260, 3, 65), (65, .if_icmp .eq 9, 3, 68), (68, .aload_n 0, 1, 69), (69, .iconst 4, 1, 70), (70, .invokevirtual 159, 3, 73), (73, .ireturn, 1, 74), (74, .aload 6, 2, 76), (76, .iload_n 2, 1, 77), (77, .iload 5, 2, 79), (79, .invokevirtual 263, 3, 82), (82, .ifCond .eq 15, 3, 85), (85, .aload 7, 2, 87), (87, .iload 4, 2, 89), (89, .iload 5, 2, 91), (91, .invokevirtual 263, 3, 94), (94, .ifCond .ne 9, 3, 97), (97, .aload_n 0, 1, 98), (98, .iconst 2, 1, 99), (99, .invokevirtual 159, 3, 102), (102, .ireturn, 1, 103), (103, .aload 6, 2, 105), (105, .getfield 164, 3, 108), (108, .iload_n 2, 1, 109), (109, .aload 7, 2, 111), (111, .getfield 164, 3, 114), (114, .iload 4, 2, 116), (116, .iload 5, 2, 118), (118, .invokestatic 266, 3, 121), (121, .iconst 1, 1, 122), (122, .ireturn, 1, 123)])
theorem ok_B_copy : zOK m_B_copy := ⟨by decide +kernel, by decide +kernel, rfl, by decide +kernel⟩
def m_B_write : zMth := (RX10, yX10_write, cX10_write, 6, (some .int), 5, 119, [(0, .iload_n 1, 1, 1), (1, .invokestatic 138, 3, 4), (4, .ifCond .eq 10, 3, 7), (7, .iload_n 2, 1, 8), (8, .invokestatic 152, 3, 11), (11, .ifCond .ne 6, 3, 14), (14, .bipush (-2), 2, 16), (16, .ireturn, 1, 17), (17, .aload_n 0, 1, 18), (18, .getfield 91, 3, 21), (21, .iload_n 2, 1, 22), (22, .aaload, 1, 23), (23, .astore_n 3, 1, 24), (24, .aload_n 3, 1, 25), (25, .getfield 155, 3, 28), (28, .ifCond .eq 9, 3, 31), (31, .aload_n 0, 1, 32), (32, .iconst 1, 1, 33), (33, .invokevirtual 159, 3, 36), (36, .ireturn, 1, 37), (37, .aload_n 0, 1, 38), (38, .getfield 53, 3, 41), (41, .iload_n 1, 1, 42), (42, .invokevirtual 167, 3, 45), (45, .aload_n 3, 1, 46), (46, .getfield 163, 3, 49), (49, .aload_n 0, 1, 50), (50, .getfield 24, 3, 53), (53, .getfield 200, 3, 56), (56, .invokestatic 272, 3, 59), (59, .istore 4, 2, 61), (61, .iconst 0, 1, 62), (62, .istore 5, 2, 64), (64, .iload 5, 2, 66), (66, .iload 4, 2, 68), (68, .if_icmp .ge 25, 3, 71), (71, .aload_n 3, 1, 72), (72, .iload 5, 2, 74), (74, .aload_n 0, 1, 75), (75, .getfield 53, 3, 78), (78, .getfield 170, 3, 81), (81, .iload 5, 2, 83), (83, .iaload, 1, 84), (84, .invokevirtual 256, 3, 87), (87, .iinc 5 1, 3, 90), (90, .goto (-26), 3, 93), (93, .iload 4, 2, 95), (95, .ireturn, 1, 96)])
theorem ok_B_write : zOK m_B_write := ⟨by decide +kernel, by decide +kernel, rfl, by decide +kernel⟩
def m_B_count : zMth := (RX10, yX10_count, cX10_count, 2, (some .int), 6, 141, [(0, .iload_n 1, 1, 1), (1, .tableswitch 120 0 8 #[51, 59, 67, 75, 83, 91, 99, 107, 115], 51, 52), (52, .aload_n 0, 1, 53), (53, .getfield 24, 3, 56), (56, .getfield 200, 3, 59), (59, .ireturn, 1, 60), (60, .aload_n 0, 1, 61), (61, .getfield 31, 3, 64), (64, .getfield 277, 3, 67), (67, .ireturn, 1, 68), (68, .aload_n 0, 1, 69), (69, .getfield 14, 3, 72), (72, .getfield 108, 3, 75), (75, .ireturn, 1, 76), (76, .aload_n 0, 1, 77), (77, .getfield 18, 3, 80), (80, .getfield 108, 3, 83), (83, .ireturn, 1, 84), (84, .aload_n 0, 1, 85), (85, .getfield 38, 3, 88), (88, .getfield 151, 3, 91), (91, .ireturn, 1, 92), (92, .aload_n 0, 1, 93), (93, .getfield 42, 3, 96), (96, .getfield 151, 3, 99), (99, .ireturn, 1, 100), (100, .aload_n 0, 1, 101), (101, .bipush 11, 2, 103), (103, .iconst 1, 1, 104), (104, .invokevirtual 278, 3, 107), (107, .ireturn, 1, 108), (108, .aload_n 0, 1, 109), (109, .getfield 45, 3, 112), (112, .getfield 151, 3, 115), (115, .ireturn, 1, 116), (116, .aload_n 0, 1, 117), (117, .getfield 281, 3, 120), (120, .ireturn, 1, 121), (121, .bipush (-2), 2, 123), (123, .ireturn, 1, 124)])
theorem ok_B_count : zOK m_B_count := ⟨by decide +kernel, by decide +kernel, rfl, by decide +kernel⟩
def m_B_digestOfPerson : zMth := (RX10, yX10_digestOfPerson, cX10_digestOfPerson, 7, (some .long), 6, 145, [(0, .lload_n 1, 1, 1), (1, .lstore 4, 2, 3), (3, .iconst 0, 1, 4), (4, .istore 6, 2, 6), (6, .iload 6, 2, 8), (8, .iconst 2, 1, 9), (9, .if_icmp .gt 26, 3, 12), (12, .ldc2_w 286, 3, 15), (15, .lload 4, 2, 17), (17, .lmul, 1, 18), (18, .aload_n 0, 1, 19), (19, .iload_n 3, 1, 20), (20, .iload 6, 2, 22), (22, .invokevirtual 305, 3, 25), (25, .i2l, 1, 26), (26, .ladd, 1, 27), (27, .lstore 4, 2, 29), (29, .iinc 6 1, 3, 32), (32, .goto (-26), 3, 35), (35, .ldc2_w 286, 3, 38), (38, .lload 4, 2, 40), (40, .lmul, 1, 41), (41, .aload_n 0, 1, 42), (42, .iconst 3, 1, 43), (43, .iload_n 3, 1, 44), (44, .invokevirtual 308, 3, 47), (47, .i2l, 1, 48), (48, .ladd, 1, 49), (49, .lstore 4, 2, 51), (51, .ldc2_w 286, 3, 54), (54, .lload 4, 2, 56), (56, .lmul, 1, 57), (57, .aload_n 0, 1, 58), (58, .bipush 11, 2, 60), (60, .iload_n 3, 1, 61), (61, .invokevirtual 308, 3, 64), (64, .i2l, 1, 65), (65, .ladd, 1, 66), (66, .lstore 4, 2, 68), (68, .ldc2_w 286, 3, 71), (71, .lload 4, 2, 73), (73, .lmul, 1, 74), (74, .aload_n 0, 1, 75), (75, .iconst 5, 1, 76), (76, .iconst 0, 1, 77), (77, .iload_n 3, 1, 78), (78, .invokevirtual 311, 3, 81), (81, .i2l, 1, 82), (82, .ladd, 1, 83), (83, .lstore 4, 2, 85), (85, .ldc2_w 286, 3, 88), (88, .lload 4, 2, 90), (90, .lmul, 1, 91), (91, .aload_n 0, 1, 92), (92, .iload_n 3, 1, 93), (93, .iconst 1, 1, 94), (94, .iconst 0, 1, 95), (95, .invokevirtual 314, 3, 98), (98, .i2l, 1, 99), (99, .ladd, 1, 100), (100, .lstore 4, 2, 102), (102, .ldc2_w 286, 3, 105), (105, .lload 4, 2, 107), (107, .lmul, 1, 108), (108, .aload_n 0, 1, 109), (109, .iload_n 3, 1, 110), (110, .iconst 1, 1, 111), (111, .iconst 1, 1, 112), (112, .invokevirtual 314, 3, 115), (115, .i2l, 1, 116), (116, .ladd, 1, 117), (117, .lstore 4, 2, 119), (119, .aload_n 0, 1, 120), (120, .getfield 69, 3, 123), (123, .iload_n 3, 1, 124), (124, .iconst 2, 1, 125), (125, .invokevirtual 211, 3, 128), (128, .ldc2_w 286, 3, 131), (131, .lload 4, 2, 133), (133, .lmul, 1, 134), (134, .aload_n 0, 1, 135), (135, .getfield 69, 3, 138), (138, .getfield 213, 3, 141), (141, .i2l, 1, 142), (142, .ladd, 1, 143), (143, .lstore 4, 2, 145), (145, .ldc2_w 286, 3, 148), (148, .lload 4, 2, 150), (150, .lmul, 1, 151), (151, .aload_n 0, 1, 152), (152, .getfield 69, 3, 155), (155, .iconst 0, 1, 156), (156, .invokevirtual 214, 3, 159), (159, .i2l, 1, 160), (160, .ladd, 1, 161), (161, .lstore 4, 2, 163), (163, .ldc2_w 286, 3, 166), (166, .lload 4, 2, 168), (168, .lmul, 1, 169), (169, .aload_n 0, 1, 170), (170, .getfield 85, 3, 173), (173, .iload_n 3, 1, 174), (174, .invokevirtual 232, 3, 177), (177, .ladd, 1, 178), (178, .lstore 4, 2, 180), (180, .ldc2_w 286, 3, 183), (183, .lload 4, 2, 185), (185, .lmul, 1, 186), (186, .aload_n 0, 1, 187), (187, .getfield 85, 3, 190), (190, .iload_n 3, 1, 191), (191, .invokevirtual 236, 3, 194), (194, .ladd, 1, 195), (195, .lstore 4, 2, 197), (197, .ldc2_w 286, 3, 200), (200, .lload 4, 2, 202), (202, .lmul, 1, 203), (203, .aload_n 0, 1, 204), (204, .bipush 7, 2, 206), (206, .bipush 30, 2, 208), (208, .iload_n 3, 1, 209), (209, .invokevirtual 317, 3, 212), (212, .i2l, 1, 213), (213, .ladd, 1, 214), (214, .lreturn, 1, 215)])
theorem ok_B_digestOfPerson : zOK m_B_digestOfPerson := ⟨by decide +kernel, by decide +kernel, rfl, by decide +kernel⟩
def m_B_digestOfHour : zMth := (RX10, yX10_digestOfHour, cX10_digestOfHour, 6, (some .long), 6, 146, [(0, .ldc2_w 286, 3, 3), (3, .lload_n 1, 1, 4), (4, .lmul, 1, 5), (5, .aload_n 0, 1, 6), (6, .iload_n 3, 1, 7), (7, .iconst 0, 1, 8), (8, .invokevirtual 320, 3, 11), (11, .i2l, 1, 12), (12, .ladd, 1, 13), (13, .lstore 4, 2, 15), (15, .ldc2_w 286, 3, 18), (18, .lload 4, 2, 20), (20, .lmul, 1, 21), (21, .aload_n 0, 1, 22), (22, .iload_n 3, 1, 23), (23, .iconst 0, 1, 24), (24, .invokevirtual 278, 3, 27), (27, .i2l, 1, 28), (28, .ladd, 1, 29), (29, .lstore 4, 2, 31), (31, .ldc2_w 286, 3, 34), (34, .lload 4, 2, 36), (36, .lmul, 1, 37), (37, .aload_n 0, 1, 38), (38, .iload_n 3, 1, 39), (39, .iconst 1, 1, 40), (40, .invokevirtual 278, 3, 43), (43, .i2l, 1, 44), (44, .ladd, 1, 45), (45, .lstore 4, 2, 47), (47, .ldc2_w 286, 3, 50), (50, .lload 4, 2, 52), (52, .lmul, 1, 53), (53, .aload_n 0, 1, 54), (54, .iload_n 3, 1, 55), (55, .iconst 0, 1, 56), (56, .invokevirtual 323, 3, 59), (59, .i2l, 1, 60), (60, .ladd, 1, 61), (61, .lstore 4, 2, 63), (63, .ldc2_w 286, 3, 66), (66, .lload 4, 2, 68), (68, .lmul, 1, 69), (69, .aload_n 0, 1, 70), (70, .iload_n 3, 1, 71), (71, .iconst 1, 1, 72), (72, .invokevirtual 323, 3, 75), (75, .i2l, 1, 76), (76, .ladd, 1, 77), (77, .lreturn, 1, 78)])
theorem ok_B_digestOfHour : zOK m_B_digestOfHour := ⟨by decide +kernel, by decide +kernel, rfl, by decide +kernel⟩
def m_B_digestOfPlans : zMth := (RX10, yX10_digestOfPlans, cX10_digestOfPlans, 5, (some .long), 6, 145, [(0, .ldc2_w 286, 3, 3), (3, .lload_n 1, 1, 4), (4, .lmul, 1, 5), (5, .aload_n 0, 1, 6), (6, .iconst 0, 1, 7), (7, .invokevirtual 326, 3, 10), (10, .i2l, 1, 11), (11, .ladd, 1, 12), (12, .lstore_n 3, 1, 13), (13, .ldc2_w 286, 3, 16), (16, .lload_n 3, 1, 17), (17, .lmul, 1, 18), (18, .aload_n 0, 1, 19), (19, .iconst 1, 1, 20), (20, .invokevirtual 326, 3, 23), (23, .i2l, 1, 24), (24, .ladd, 1, 25), (25, .lstore_n 3, 1, 26), (26, .ldc2_w 286, 3, 29), (29, .lload_n 3, 1, 30), (30, .lmul, 1, 31), (31, .aload_n 0, 1, 32), (32, .getfield 62, 3, 35), (35, .getfield 207, 3, 38), (38, .i2l, 1, 39), (39, .ladd, 1, 40), (40, .lstore_n 3, 1, 41), (41, .ldc2_w 286, 3, 44), (44, .lload_n 3, 1, 45), (45, .lmul, 1, 46), (46, .aload_n 0, 1, 47), (47, .getfield 62, 3, 50), (50, .getfield 208, 3, 53), (53, .iconst 0, 1, 54), (54, .iaload, 1, 55), (55, .i2l, 1, 56), (56, .ladd, 1, 57), (57, .lstore_n 3, 1, 58), (58, .ldc2_w 286, 3, 61), (61, .lload_n 3, 1, 62), (62, .lmul, 1, 63), (63, .aload_n 0, 1, 64), (64, .iconst 0, 1, 65), (65, .invokevirtual 329, 3, 68), (68, .i2l, 1, 69), (69, .ladd, 1, 70), (70, .lstore_n 3, 1, 71), (71, .ldc2_w 286, 3, 74), (74, .lload_n 3, 1, 75), (75, .lmul, 1, 76), (76, .aload_n 0, 1, 77), (77, .iconst 1, 1, 78), (78, .invokevirtual 329, 3, 81), (81, .i2l, 1, 82), (82, .ladd, 1, 83), (83, .lstore_n 3, 1, 84), (84, .ldc2_w 286, 3, 87), (87, .lload_n 3, 1, 88), (88, .lmul, 1, 89), (89, .aload_n 0, 1, 90), (90, .getfield 78, 3, 93), (93, .invokevirtual 224, 3, 96), (96, .i2l, 1, 97), (97, .ladd, 1, 98), (98, .lstore_n 3, 1, 99), (99, .ldc2_w 286, 3, 102), (102, .lload_n 3, 1, 103), (103, .lmul, 1, 104), (104, .aload_n 0, 1, 105), (105, .bipush 7, 2, 107), (107, .bipush 30, 2, 109), (109, .iconst (-1), 1, 110), (110, .invokevirtual 317, 3, 113), (113, .i2l, 1, 114), (114, .ladd, 1, 115), (115, .lreturn, 1, 116)])
theorem ok_B_digestOfPlans : zOK m_B_digestOfPlans := ⟨by decide +kernel, by decide +kernel, rfl, by decide +kernel⟩
def m_B_digest : zMth := (RX10, yX10_digest, cX10_digest, 4, (some .long), 7, 171, [(0, .ldc2_w 284, 3, 3), (3, .lstore_n 1, 1, 4), (4, .iconst 0, 1, 5), (5, .istore_n 3, 1, 6), (6, .iload_n 3, 1, 7), (7, .bipush 7, 2, 9), (9, .if_icmp .gt 22, 3, 12), (12, .ldc2_w 286, 3, 15), (15, .lload_n 1, 1, 16), (16, .lmul, 1, 17), (17, .aload_n 0, 1, 18), (18, .iload_n 3, 1, 19), (19, .invokevirtual 288, 3, 22), (22, .i2l, 1, 23), (23, .ladd, 1, 24), (24, .lstore_n 1, 1, 25), (25, .iinc 3 1, 3, 28), (28, .goto (-22), 3, 31), (31, .ldc2_w 286, 3, 34), (34, .lload_n 1, 1, 35), (35, .lmul, 1, 36), (36, .aload_n 0, 1, 37), (37, .iconst 0, 1, 38), (38, .invokevirtual 291, 3, 41), (41, .i2l, 1, 42), (42, .ladd, 1, 43), (43, .lstore_n 1, 1, 44), (44, .ldc2_w 286, 3, 47), (47, .lload_n 1, 1, 48), (48, .lmul, 1, 49), (49, .aload_n 0, 1, 50), (50, .iconst 1, 1, 51), (51, .invokevirtual 291, 3, 54), (54, .i2l, 1, 55), (55, .ladd, 1, 56), (56, .lstore_n 1, 1, 57), (57, .aload_n 0, 1, 58), (58, .getfield 85, 3, 61), (61, .iconst 5, 1, 62), (62, .bipush 11, 2, 64), (64, .invokevirtual 229, 3, 67), (67, .aload_n 0, 1, 68), (68, .getfield 62, 3, 71), (71, .invokevirtual 204, 3, 74), (74, .iconst 0, 1, 75), (75, .istore_n 3, 1, 76), (76, .iload_n 3, 1, 77), (77, .aload_n 0, 1, 78), (78, .getfield 24, 3, 81), (81, .getfield 200, 3, 84), (84, .if_icmp .ge 16, 3, 87), (87, .aload_n 0, 1, 88), (88, .lload_n 1, 1, 89), (89, .iload_n 3, 1, 90), (90, .invokevirtual 294, 3, 93), (93, .lstore_n 1, 1, 94), (94, .iinc 3 1, 3, 97), (97, .goto (-21), 3, 100), (100, .aload_n 0, 1, 101), (101, .lload_n 1, 1, 102), (102, .iconst 0, 1, 103), (103, .invokevirtual 298, 3, 106), (106, .lstore_n 1, 1, 107), (107, .aload_n 0, 1, 108), (108, .lload_n 1, 1, 109), (109, .iconst 3, 1, 110), (110, .invokevirtual 298, 3, 113), (113, .lstore_n 1, 1, 114), (114, .aload_n 0, 1, 115), (115, .lload_n 1, 1, 116), (116, .bipush 11, 2, 118), (118, .invokevirtual 298, 3, 121), (121, .lstore_n 1, 1, 122), (122, .aload_n 0, 1, 123), (123, .lload_n 1, 1, 124), (124, .invokevirtual 301, 3, 127), (127, .lreturn, 1, 128)])
theorem ok_B_digest : zOK m_B_digest := ⟨by decide +kernel, by decide +kernel, rfl, by decide +kernel⟩
def m_M_in : zMth := (RX11, yX11_in, cX11_in, 6, (some .boolean), 0, 0, [(0, .lload_n 0, 1, 1), (1, .lload_n 2, 1, 2), (2, .lcmp, 1, 3), (3, .ifCond .lt 14, 3, 6), (6, .lload_n 0, 1, 7), (7, .lload 4, 2, 9), (9, .lcmp, 1, 10), (10, .ifCond .gt 7, 3, 13), (13, .iconst 1, 1, 14), (14, .goto 4, 3, 17), (17, .iconst 0, 1, 18), (18, .ireturn, 1, 19)])
theorem ok_M_in : zOK m_M_in := ⟨by decide +kernel, by decide +kernel, rfl, by decide +kernel⟩
def m_M_no : zMth := (RX11, yX11_no, cX11_no, 1, (some .long), 0, 0, [(0, .ldc2_w 68, 3, 3), (3, .iload_n 0, 1, 4), (4, .i2l, 1, 5), (5, .lsub, 1, 6), (6, .lreturn, 1, 7)])
theorem ok_M_no : zOK m_M_no := ⟨by decide +kernel, by decide +kernel, rfl, by decide +kernel⟩
def m_M_isTwo : zMth := (RX11, yX11_isTwo, cX11_isTwo, 1, (some .boolean), 1, 25, [(0, .iload_n 0, 1, 1), (1, .i2l, 1, 2), (2, .lconst 0, 1, 3), (3, .lconst 1, 1, 4), (4, .invokestatic 70, 3, 7), (7, .ireturn, 1, 8)])
theorem ok_M_isTwo : zOK m_M_isTwo := ⟨by decide +kernel, by decide +kernel, rfl, by decide +kernel⟩
def m_M_isIn : zMth := (RX11, yX11_isIn, cX11_isIn, 2, (some .boolean), 0, 0, [(0, .iload_n 0, 1, 1), (1, .iload_n 1, 1, 2), (2, .ishr, 1, 3), (3, .iconst 1, 1, 4), (4, .iand, 1, 5), (5, .iconst 1, 1, 6), (6, .if_icmp .ne 7, 3, 9), (9, .iconst 1, 1, 10), (10, .goto 4, 3, 13), (13, .iconst 0, 1, 14), (14, .ireturn, 1, 15)])
theorem ok_M_isIn : zOK m_M_isIn := ⟨by decide +kernel, by decide +kernel, rfl, by decide +kernel⟩
def m_M_ones : zMth := (RX11, yX11_ones, cX11_ones, 3, (some .int), 0, 0, [(0, .iconst 0, 1, 1), (1, .istore_n 1, 1, 2), (2, .iload_n 0, 1, 3), (3, .istore_n 2, 1, 4), (4, .iload_n 2, 1, 5), (5, .ifCond .eq 15, 3, 8), (8, .iinc 1 1, 3, 11), (11, .iload_n 2, 1, 12), (12, .iload_n 2, 1, 13), (13, .iconst 1, 1, 14), (14, .isub, 1, 15), (15, .iand, 1, 16), (16, .istore_n 2, 1, 17), (17, .goto (-13), 3, 20), (20, .iload_n 1, 1, 21), (21, .ireturn, 1, 22)])
theorem ok_M_ones : zOK m_M_ones := ⟨by decide +kernel, by decide +kernel, rfl, by decide +kernel⟩
def m_M_lesser : zMth := (RX11, yX11_lesser, cX11_lesser, 2, (some .int), 0, 0, [(0, .iload_n 0, 1, 1), (1, .iload_n 1, 1, 2), (2, .if_icmp .ge 7, 3, 5), (5, .iload_n 0, 1, 6), (6, .goto 4, 3, 9), (9, .iload_n 1, 1, 10), (10, .ireturn, 1, 11)])
theorem ok_M_lesser : zOK m_M_lesser := ⟨by decide +kernel, by decide +kernel, rfl, by decide +kernel⟩
def m_M_greater : zMth := (RX11, yX11_greater, cX11_greater, 2, (some .int), 0, 0, [(0, .iload_n 0, 1, 1), (1, .iload_n 1, 1, 2), (2, .if_icmp .le 7, 3, 5), (5, .iload_n 0, 1, 6), (6, .goto 4, 3, 9), (9, .iload_n 1, 1, 10), (10, .ireturn, 1, 11)])
theorem ok_M_greater : zOK m_M_greater := ⟨by decide +kernel, by decide +kernel, rfl, by decide +kernel⟩
def m_M_part : zMth := (RX11, yX11_part, cX11_part, 11, (some .long), 0, 0, [(0, .lload_n 0, 1, 1), (1, .lstore 5, 2, 3), (3, .lload_n 2, 1, 4), (4, .lstore 7, 2, 6), (6, .lload 7, 2, 8), (8, .lconst 0, 1, 9), (9, .lcmp, 1, 10), (10, .ifCond .eq 21, 3, 13), (13, .lload 5, 2, 15), (15, .lload 7, 2, 17), (17, .lrem, 1, 18), (18, .lstore 9, 2, 20), (20, .lload 7, 2, 22), (22, .lstore 5, 2, 24), (24, .lload 9, 2, 26), (26, .lstore 7, 2, 28), (28, .goto (-22), 3, 31), (31, .iload 4, 2, 33), (33, .ifCond .ne 7, 3, 36), (36, .lload_n 0, 1, 37), (37, .goto 4, 3, 40), (40, .lload_n 2, 1, 41), (41, .lload 5, 2, 43), (43, .ldiv, 1, 44), (44, .lreturn, 1, 45)])
theorem ok_M_part : zOK m_M_part := ⟨by decide +kernel, by decide +kernel, rfl, by decide +kernel⟩
def m_M_finds : zMth := (RX11, yX11_finds, cX11_finds, 2, (some .int), 0, 0, [(0, .aload_n 0, 1, 1), (1, .iload_n 1, 1, 2), (2, .putfield 74, 3, 5), (5, .bipush (-10), 2, 7), (7, .iload_n 1, 1, 8), (8, .isub, 1, 9), (9, .ireturn, 1, 10)])
theorem ok_M_finds : zOK m_M_finds := ⟨by decide +kernel, by decide +kernel, rfl, by decide +kernel⟩
def m_M_isSheet : zMth := (RX11, yX11_isSheet, cX11_isSheet, 1, (some .boolean), 1, 25, [(0, .iload_n 0, 1, 1), (1, .i2l, 1, 2), (2, .lconst 0, 1, 3), (3, .ldc2_w 77, 3, 6), (6, .invokestatic 70, 3, 9), (9, .ireturn, 1, 10)])
theorem ok_M_isSheet : zOK m_M_isSheet := ⟨by decide +kernel, by decide +kernel, rfl, by decide +kernel⟩
def m_M_sheet : zMth := (RX11, yX11_sheet, cX11_sheet, 5, (some .int), 2, 45, [(0, .iload_n 1, 1, 1), (1, .invokestatic 79, 3, 4), (4, .ifCond .eq 21, 3, 7), (7, .iload_n 2, 1, 8), (8, .i2l, 1, 9), (9, .lconst 0, 1, 10), (10, .ldc2_w 83, 3, 13), (13, .invokestatic 70, 3, 16), (16, .ifCond .eq 9, 3, 19), (19, .iload_n 3, 1, 20), (20, .bipush 60, 2, 22), (22, .if_icmp .le 6, 3, 25), (25, .bipush (-2), 2, 27), (27, .ireturn, 1, 28), (28, .iload_n 3, 1, 29), (29, .ifCond .ge 9, 3, 32), (32, .aload_n 0, 1, 33), (33, .iconst 5, 1, 34), (34, .invokevirtual 85, 3, 37), (37, .ireturn, 1, 38), (38, .aload_n 0, 1, 39), (39, .getfield 7, 3, 42), (42, .iload_n 1, 1, 43), (43, .iload_n 2, 1, 44), (44, .iastore, 1, 45), (45, .aload_n 0, 1, 46), (46, .getfield 13, 3, 49), (49, .iload_n 1, 1, 50), (50, .iload_n 3, 1, 51), (51, .iastore, 1, 52), (52, .iconst 0, 1, 53), (53, .istore 4, 2, 55), (55, .iload 4, 2, 57), (57, .iload_n 3, 1, 58), (58, .if_icmp .ge 22, 3, 61), (61, .aload_n 0, 1, 62), (62, .getfield 16, 3, 65), (65, .bipush 60, 2, 67), (67, .iload_n 1, 1, 68), (68, .imul, 1, 69), (69, .iload 4, 2, 71), (71, .iadd, 1, 72), (72, .iconst 0, 1, 73), (73, .iastore, 1, 74), (74, .iinc 4 1, 3, 77), (77, .goto (-22), 3, 80), (80, .iload_n 3, 1, 81), (81, .ireturn, 1, 82)])
theorem ok_M_sheet : zOK m_M_sheet := ⟨by decide +kernel, by decide +kernel, rfl, by decide +kernel⟩
def m_M_lose : zMth := (RX11, yX11_lose, cX11_lose, 2, (some .int), 2, 45, [(0, .iload_n 1, 1, 1), (1, .invokestatic 79, 3, 4), (4, .ifCond .ne 6, 3, 7), (7, .bipush (-2), 2, 9), (9, .ireturn, 1, 10), (10, .aload_n 0, 1, 11), (11, .getfield 7, 3, 14), (14, .iload_n 1, 1, 15), (15, .iaload, 1, 16), (16, .ifCond .ge 9, 3, 19), (19, .aload_n 0, 1, 20), (20, .iconst 1, 1, 21), (21, .invokevirtual 85, 3, 24), (24, .ireturn, 1, 25), (25, .aload_n 0, 1, 26), (26, .getfield 7, 3, 29), (29, .iload_n 1, 1, 30), (30, .iconst (-1), 1, 31), (31, .iastore, 1, 32), (32, .aload_n 0, 1, 33), (33, .getfield 13, 3, 36), (36, .iload_n 1, 1, 37), (37, .iaload, 1, 38), (38, .ireturn, 1, 39)])
theorem ok_M_lose : zOK m_M_lose := ⟨by decide +kernel, by decide +kernel, rfl, by decide +kernel⟩
def m_M_lacks : zMth := (RX11, yX11_lacks, cX11_lacks, 4, (some .int), 1, 25, [(0, .aload_n 0, 1, 1), (1, .getfield 7, 3, 4), (4, .iload_n 1, 1, 5), (5, .iaload, 1, 6), (6, .ifCond .ge 9, 3, 9), (9, .aload_n 0, 1, 10), (10, .iconst 1, 1, 11), (11, .invokevirtual 85, 3, 14), (14, .ireturn, 1, 15), (15, .aload_n 0, 1, 16), (16, .getfield 7, 3, 19), (19, .iload_n 1, 1, 20), (20, .iaload, 1, 21), (21, .iload_n 2, 1, 22), (22, .if_icmp .eq 9, 3, 25), (25, .aload_n 0, 1, 26), (26, .iconst 3, 1, 27), (27, .invokevirtual 85, 3, 30), (30, .ireturn, 1, 31), (31, .iload_n 3, 1, 32), (32, .i2l, 1, 33), (33, .lconst 0, 1, 34), (34, .aload_n 0, 1, 35), (35, .getfield 13, 3, 38), (38, .iload_n 1, 1, 39), (39, .iaload, 1, 40), (40, .iconst 1, 1, 41), (41, .isub, 1, 42), (42, .i2l, 1, 43), (43, .invokestatic 70, 3, 46), (46, .ifCond .eq 7, 3, 49), (49, .iconst 0, 1, 50), (50, .goto 8, 3, 53), (53, .aload_n 0, 1, 54), (54, .iconst 2, 1, 55), (55, .invokevirtual 85, 3, 58), (58, .ireturn, 1, 59)])
theorem ok_M_lacks : zOK m_M_lacks := ⟨by decide +kernel, by decide +kernel, rfl, by decide +kernel⟩
def m_M_cut : zMth := (RX11, yX11_cut, cX11_cut, 2, (some .int), 0, 0, [(0, .iload_n 0, 1, 1), (1, .ifCond .ne 8, 3, 4), (4, .iload_n 1, 1, 5), (5, .i2b, 1, 6), (6, .goto 14, 3, 9), (9, .iload_n 0, 1, 10), (10, .iconst 1, 1, 11), (11, .if_icmp .ne 8, 3, 14), (14, .iload_n 1, 1, 15), (15, .i2s, 1, 16), (16, .goto 4, 3, 19), (19, .iload_n 1, 1, 20), (20, .ireturn, 1, 21)])
theorem ok_M_cut : zOK m_M_cut := ⟨by decide +kernel, by decide +kernel, rfl, by decide +kernel⟩
def m_M_lay : zMth := (RX11, yX11_lay, cX11_lay, 6, (some .int), 2, 48, [(0, .iload_n 1, 1, 1), (1, .invokestatic 79, 3, 4), (4, .ifCond .eq 15, 3, 7), (7, .iload_n 2, 1, 8), (8, .i2l, 1, 9), (9, .lconst 0, 1, 10), (10, .ldc2_w 83, 3, 13), (13, .invokestatic 70, 3, 16), (16, .ifCond .ne 6, 3, 19), (19, .bipush (-2), 2, 21), (21, .ireturn, 1, 22), (22, .aload_n 0, 1, 23), (23, .iload_n 1, 1, 24), (24, .iload_n 2, 1, 25), (25, .iload_n 3, 1, 26), (26, .invokevirtual 89, 3, 29), (29, .istore 5, 2, 31), (31, .iload 5, 2, 33), (33, .ifCond .eq 6, 3, 36), (36, .iload 5, 2, 38), (38, .ireturn, 1, 39), (39, .aload_n 0, 1, 40), (40, .getfield 16, 3, 43), (43, .bipush 60, 2, 45), (45, .iload_n 1, 1, 46), (46, .imul, 1, 47), (47, .iload_n 3, 1, 48), (48, .iadd, 1, 49), (49, .iload_n 2, 1, 50), (50, .iload 4, 2, 52), (52, .invokestatic 93, 3, 55), (55, .iastore, 1, 56), (56, .iconst 1, 1, 57), (57, .ireturn, 1, 58)])
theorem ok_M_lay : zOK m_M_lay := ⟨by decide +kernel, by decide +kernel, rfl, by decide +kernel⟩
def m_M_get : zMth := (RX11, yX11_get, cX11_get, 4, (some .int), 2, 48, [(0, .iload_n 1, 1, 1), (1, .invokestatic 79, 3, 4), (4, .ifCond .eq 25, 3, 7), (7, .iload_n 2, 1, 8), (8, .i2l, 1, 9), (9, .lconst 0, 1, 10), (10, .ldc2_w 83, 3, 13), (13, .invokestatic 70, 3, 16), (16, .ifCond .eq 13, 3, 19), (19, .aload_n 0, 1, 20), (20, .iload_n 1, 1, 21), (21, .iload_n 2, 1, 22), (22, .iload_n 3, 1, 23), (23, .invokevirtual 89, 3, 26), (26, .ifCond .eq 6, 3, 29), (29, .ldc 97, 2, 31), (31, .ireturn, 1, 32), (32, .aload_n 0, 1, 33), (33, .getfield 16, 3, 36), (36, .bipush 60, 2, 38), (38, .iload_n 1, 1, 39), (39, .imul, 1, 40), (40, .iload_n 3, 1, 41), (41, .iadd, 1, 42), (42, .iaload, 1, 43), (43, .ireturn, 1, 44)])
theorem ok_M_get : zOK m_M_get := ⟨by decide +kernel, by decide +kernel, rfl, by decide +kernel⟩
def m_M_copy : zMth := (RX11, yX11_copy, cX11_copy, 7, (some .int), 2, 45, [(0, .iload_n 1, 1, 1), (1, .invokestatic 79, 3, 4), (4, .ifCond .eq 10, 3, 7), (7, .iload_n 3, 1, 8), (8, .invokestatic 79, 3, 11), (11, .ifCond .ne 6, 3, 14), (14, .bipush (-2), 2, 16), (16, .ireturn, 1, 17), (17, .aload_n 0, 1, 18), (18, .getfield 7, 3, 21), (21, .iload_n 1, 1, 22), (22, .iaload, 1, 23), (23, .ifCond .lt 12, 3, 26), (26, .aload_n 0, 1, 27), (27, .getfield 7, 3, 30), (30, .iload_n 3, 1, 31), (31, .iaload, 1, 32), (32, .ifCond .ge 9, 3, 35), (35, .aload_n 0, 1, 36), (36, .iconst 1, 1, 37), (37, .invokevirtual 85, 3, 40), (40, .ireturn, 1, 41), (41, .aload_n 0, 1, 42), (42, .getfield 7, 3, 45), (45, .iload_n 1, 1, 46), (46, .iaload, 1, 47), (47, .aload_n 0, 1, 48), (48, .getfield 7, 3, 51), (51, .iload_n 3, 1, 52), (52, .iaload, 1, 53), (53, .if_icmp .eq 9, 3, 56), (56, .aload_n 0, 1, 57), (57, .iconst 4, 1, 58), (58, .invokevirtual 85, 3, 61), (61, .ireturn, 1, 62), (62, .iload_n 2, 1, 63), (63, .ifCond .lt 48, 3, 66), (66, .iload 4, 2, 68), (68, .ifCond .lt 43, 3, 71), (71, .iload 5, 2, 73), (73, .ifCond .lt 38, 3, 76), (76, .iload_n 2, 1, 77), (77, .i2l, 1, 78), (78, .iload 5, 2, 80), (80, .i2l, 1, 81), (81, .ladd, 1, 82), (82, .aload_n 0, 1, 83), (83, .getfield 13, 3, 86), (86, .iload_n 1, 1, 87), (87, .iaload, 1, 88), (88, .i2l, 1, 89), (89, .lcmp, 1, 90), (90, .ifCond .gt 21, 3, 93), (93, .iload 4, 2, 95), (95, .i2l, 1, 96), (96, .iload 5, 2, 98), (98, .i2l, 1, 99), (99, .ladd, 1, 100), (100, .aload_n 0, 1, 101), (101, .getfield 13, 3, 104), (104, .iload_n 3, 1, 105), (105, .iaload, 1, 106), (106, .i2l, 1, 107), (107, .lcmp, 1, 108), (108, .ifCond .le 9, 3, 111), (111, .aload_n 0, 1, 112), (112, .iconst 2, 1, 113), (113, .invokevirtual 85, 3, 116), (116, .ireturn, 1, 117), (117, .iconst 0, 1, 118), (118, .istore 6, 2, 120), (120, .iload 6, 2, 122), (122, .iload 5, 2, 124), (124, .if_icmp .ge 30, 3, 127), (127, .aload_n 0, 1, 128), (128, .getfield 19, 3, 131), (131, .iload 6, 2, 133), (133, .aload_n 0, 1, 134), (134, .getfield 16, 3, 137), (137, .bipush 60, 2, 139), (139, .iload_n 1, 1, 140), (140, .imul, 1, 141), (141, .iload_n 2, 1, 142), (142, .iadd, 1, 143), (143, .iload 6, 2, 145), (145, .iadd, 1, 146), (146, .iaload, 1, 147), (147, .iastore, 1, 148), (148, .iinc 6 1, 3, 151), (151, .goto (-31), 3, 154), (154, .iconst 0, 1, 155), (155, .istore 6, 2, 157), (157, .iload 6, 2, 159), (159, .iload 5, 2, 161), (161, .if_icmp .ge 31, 3, 164), (164, .aload_n 0, 1, 165), (165, .getfield 16, 3, 168), (168, .bipush 60, 2, 170), (170, .iload_n 3, 1, 171), (171, .imul, 1, 172), (172, .iload 4, 2, 174), (174, .iadd, 1, 175), (175, .iload 6, 2, 177), (177, .iadd, 1, 178), (178, .aload_n 0, 1, 179), (179, .getfield 19, 3, 182), (182, .iload 6, 2, 184), (184, .iaload, 1, 185), (185, .iastore, 1, 186), (186, .iinc 6 1, 3, 189), (189, .goto (-32), 3, 192), (192, .iconst 1, 1, 193), (193, .ireturn, 1, 194)])
theorem ok_M_copy : zOK m_M_copy := ⟨by decide +kernel, by decide +kernel, rfl, by decide +kernel⟩
def m_M_type : zMth := (RX11, yX11_type, cX11_type, 3, (some .int), 2, 45, [(0, .iload_n 1, 1, 1), (1, .invokestatic 98, 3, 4), (4, .ifCond .eq 15, 3, 7), (7, .iload_n 2, 1, 8), (8, .i2l, 1, 9), (9, .lconst 0, 1, 10), (10, .ldc2_w 101, 3, 13), (13, .invokestatic 70, 3, 16), (16, .ifCond .ne 6, 3, 19), (19, .bipush (-2), 2, 21), (21, .ireturn, 1, 22), (22, .aload_n 0, 1, 23), (23, .getfield 25, 3, 26), (26, .iload_n 1, 1, 27), (27, .iaload, 1, 28), (28, .iload_n 1, 1, 29), (29, .ifCond .ne 8, 3, 32), (32, .bipush 39, 2, 34), (34, .goto 5, 3, 37), (37, .bipush 71, 2, 39), (39, .if_icmp .ne 6, 3, 42), (42, .bipush (-4), 2, 44), (44, .ireturn, 1, 45), (45, .aload_n 0, 1, 46), (46, .getfield 22, 3, 49), (49, .bipush 72, 2, 51), (51, .iload_n 1, 1, 52), (52, .imul, 1, 53), (53, .aload_n 0, 1, 54), (54, .getfield 25, 3, 57), (57, .iload_n 1, 1, 58), (58, .iaload, 1, 59), (59, .iadd, 1, 60), (60, .iload_n 2, 1, 61), (61, .iastore, 1, 62), (62, .aload_n 0, 1, 63), (63, .getfield 25, 3, 66), (66, .iload_n 1, 1, 67), (67, .dup2, 1, 68), (68, .iaload, 1, 69), (69, .iconst 1, 1, 70), (70, .iadd, 1, 71), (71, .iastore, 1, 72), (72, .aload_n 0, 1, 73), (73, .getfield 25, 3, 76), (76, .iload_n 1, 1, 77), (77, .iaload, 1, 78), (78, .ireturn, 1, 79)])
theorem ok_M_type : zOK m_M_type := ⟨by decide +kernel, by decide +kernel, rfl, by decide +kernel⟩
def m_M_wipe : zMth := (RX11, yX11_wipe, cX11_wipe, 3, (some .int), 2, 45, [(0, .iload_n 1, 1, 1), (1, .invokestatic 98, 3, 4), (4, .ifCond .ne 6, 3, 7), (7, .bipush (-2), 2, 9), (9, .ireturn, 1, 10), (10, .aload_n 0, 1, 11), (11, .getfield 25, 3, 14), (14, .iload_n 1, 1, 15), (15, .iaload, 1, 16), (16, .istore_n 2, 1, 17), (17, .aload_n 0, 1, 18), (18, .getfield 25, 3, 21), (21, .iload_n 1, 1, 22), (22, .iconst 0, 1, 23), (23, .iastore, 1, 24), (24, .iload_n 2, 1, 25), (25, .ireturn, 1, 26)])
theorem ok_M_wipe : zOK m_M_wipe := ⟨by decide +kernel, by decide +kernel, rfl, by decide +kernel⟩
def m_M_undo : zMth := (RX11, yX11_undo, cX11_undo, 2, (some .int), 2, 45, [(0, .iload_n 1, 1, 1), (1, .invokestatic 98, 3, 4), (4, .ifCond .ne 6, 3, 7), (7, .bipush (-2), 2, 9), (9, .ireturn, 1, 10), (10, .aload_n 0, 1, 11), (11, .getfield 25, 3, 14), (14, .iload_n 1, 1, 15), (15, .iaload, 1, 16), (16, .ifCond .ne 6, 3, 19), (19, .bipush (-3), 2, 21), (21, .ireturn, 1, 22), (22, .aload_n 0, 1, 23), (23, .getfield 25, 3, 26), (26, .iload_n 1, 1, 27), (27, .dup2, 1, 28), (28, .iaload, 1, 29), (29, .iconst 1, 1, 30), (30, .isub, 1, 31), (31, .iastore, 1, 32), (32, .aload_n 0, 1, 33), (33, .getfield 25, 3, 36), (36, .iload_n 1, 1, 37), (37, .iaload, 1, 38), (38, .ireturn, 1, 39)])
theorem ok_M_undo : zOK m_M_undo := ⟨by decide +kernel, by decide +kernel, rfl, by decide +kernel⟩
def m_M_tellsOf : zMth := (RX11, yX11_tellsOf, cX11_tellsOf, 2, (some .int), 1, 25, [(0, .iload_n 0, 1, 1), (1, .tableswitch 105 0 4 #[35, 105, 105, 68, 92], 35, 36), (36, .iload_n 1, 1, 37), (37, .bipush 111, 2, 39), (39, .if_icmp .ne 7, 3, 42), (42, .iconst 0, 1, 43), (43, .goto 25, 3, 46), (46, .iload_n 1, 1, 47), (47, .bipush 112, 2, 49), (49, .if_icmp .ne 7, 3, 52), (52, .iconst 1, 1, 53), (53, .goto 15, 3, 56), (56, .iload_n 1, 1, 57), (57, .bipush 99, 2, 59), (59, .if_icmp .ne 7, 3, 62), (62, .iconst 2, 1, 63), (63, .goto 5, 3, 66), (66, .bipush (-9), 2, 68), (68, .ireturn, 1, 69), (69, .iload_n 1, 1, 70), (70, .i2l, 1, 71), (71, .ldc2_w 103, 3, 74), (74, .ldc2_w 105, 3, 77), (77, .invokestatic 70, 3, 80), (80, .ifCond .eq 10, 3, 83), (83, .iload_n 1, 1, 84), (84, .bipush 48, 2, 86), (86, .isub, 1, 87), (87, .goto 5, 3, 90), (90, .bipush (-9), 2, 92), (92, .ireturn, 1, 93), (93, .iload_n 1, 1, 94), (94, .bipush 59, 2, 96), (96, .if_icmp .ne 7, 3, 99), (99, .iconst 0, 1, 100), (100, .goto 5, 3, 103), (103, .bipush (-9), 2, 105), (105, .ireturn, 1, 106), (106, .iload_n 1, 1, 107), (107, .i2l, 1, 108), (108, .ldc2_w 107, 3, 111), (111, .ldc2_w 105, 3, 114), (114, .invokestatic 70, 3, 117), (117, .ifCond .eq 10, 3, 120), (120, .iload_n 1, 1, 121), (121, .bipush 48, 2, 123), (123, .isub, 1, 124), (124, .goto 5, 3, 127), (127, .bipush (-9), 2, 129), (129, .ireturn, 1, 130)])
theorem ok_M_tellsOf : zOK m_M_tellsOf := ⟨by decide +kernel, by decide +kernel, rfl, by decide +kernel⟩
def m_M_tells : zMth := (RX11, yX11_tells, cX11_tells, 4, none, 0, 0, [(0, .iload_n 2, 1, 1), (1, .ifCond .ne 13, 3, 4), (4, .aload_n 0, 1, 5), (5, .getfield 28, 3, 8), (8, .iload_n 1, 1, 9), (9, .iload_n 3, 1, 10), (10, .iastore, 1, 11), (11, .goto 57, 3, 14), (14, .iload_n 2, 1, 15), (15, .iconst 1, 1, 16), (16, .if_icmp .ne 18, 3, 19), (19, .aload_n 0, 1, 20), (20, .getfield 28, 3, 23), (23, .iload_n 1, 1, 24), (24, .iconst 1, 1, 25), (25, .iadd, 1, 26), (26, .bipush 10, 2, 28), (28, .iload_n 3, 1, 29), (29, .imul, 1, 30), (30, .iastore, 1, 31), (31, .goto 37, 3, 34), (34, .iload_n 2, 1, 35), (35, .iconst 2, 1, 36), (36, .if_icmp .ne 18, 3, 39), (39, .aload_n 0, 1, 40), (40, .getfield 28, 3, 43), (43, .iload_n 1, 1, 44), (44, .iconst 1, 1, 45), (45, .iadd, 1, 46), (46, .dup2, 1, 47), (47, .iaload, 1, 48), (48, .iload_n 3, 1, 49), (49, .iadd, 1, 50), (50, .iastore, 1, 51), (51, .goto 17, 3, 54), (54, .iload_n 2, 1, 55), (55, .iconst 3, 1, 56), (56, .if_icmp .ne 12, 3, 59), (59, .aload_n 0, 1, 60), (60, .getfield 28, 3, 63), (63, .iload_n 1, 1, 64), (64, .iconst 2, 1, 65), (65, .iadd, 1, 66), (66, .iload_n 3, 1, 67), (67, .iastore, 1, 68), (68, .return_, 1, 69)])
theorem ok_M_tells : zOK m_M_tells := ⟨by decide +kernel, by decide +kernel, rfl, by decide +kernel⟩
def m_M_readsPeople : zMth := (RX11, yX11_readsPeople, cX11_readsPeople, 5, (some .int), 2, 46, [(0, .aload_n 0, 1, 1), (1, .iconst 0, 1, 2), (2, .putfield 109, 3, 5), (5, .aload_n 0, 1, 6), (6, .getfield 25, 3, 9), (9, .iconst 0, 1, 10), (10, .iaload, 1, 11), (11, .istore_n 1, 1, 12), (12, .iconst 0, 1, 13), (13, .istore_n 2, 1, 14), (14, .iload_n 2, 1, 15), (15, .iload_n 1, 1, 16), (16, .if_icmp .ge 70, 3, 19), (19, .iload_n 2, 1, 20), (20, .iconst 5, 1, 21), (21, .irem, 1, 22), (22, .istore_n 3, 1, 23), (23, .iload_n 3, 1, 24), (24, .aload_n 0, 1, 25), (25, .getfield 22, 3, 28), (28, .iload_n 2, 1, 29), (29, .iaload, 1, 30), (30, .invokestatic 112, 3, 33), (33, .istore 4, 2, 35), (35, .iload 4, 2, 37), (37, .bipush (-9), 2, 39), (39, .if_icmp .ne 10, 3, 42), (42, .aload_n 0, 1, 43), (43, .iconst 0, 1, 44), (44, .putfield 109, 3, 47), (47, .iload_n 2, 1, 48), (48, .ireturn, 1, 49), (49, .aload_n 0, 1, 50), (50, .iconst 3, 1, 51), (51, .iload_n 2, 1, 52), (52, .iconst 5, 1, 53), (53, .idiv, 1, 54), (54, .imul, 1, 55), (55, .iload_n 3, 1, 56), (56, .iload 4, 2, 58), (58, .invokevirtual 115, 3, 61), (61, .aload_n 0, 1, 62), (62, .dup, 1, 63), (63, .getfield 109, 3, 66), (66, .iload_n 3, 1, 67), (67, .iconst 3, 1, 68), (68, .if_icmp .ne 7, 3, 71), (71, .iconst 1, 1, 72), (72, .goto 4, 3, 75), (75, .iconst 0, 1, 76), (76, .iadd, 1, 77), (77, .putfield 109, 3, 80), (80, .iinc 2 1, 3, 83), (83, .goto (-69), 3, 86), (86, .iload_n 1, 1, 87), (87, .ifCond .le 17, 3, 90), (90, .iload_n 1, 1, 91), (91, .iconst 5, 1, 92), (92, .irem, 1, 93), (93, .iconst 4, 1, 94), (94, .if_icmp .eq 10, 3, 97), (97, .aload_n 0, 1, 98), (98, .iconst 0, 1, 99), (99, .putfield 109, 3, 102), (102, .iload_n 1, 1, 103), (103, .ireturn, 1, 104), (104, .iconst (-1), 1, 105), (105, .ireturn, 1, 106)])
theorem ok_M_readsPeople : zOK m_M_readsPeople := ⟨by decide +kernel, by decide +kernel, rfl, by decide +kernel⟩
def m_M_clears : zMth := (RX11, yX11_clears, cX11_clears, 2, none, 0, 0, [(0, .iconst 0, 1, 1), (1, .istore_n 1, 1, 2), (2, .iload_n 1, 1, 3), (3, .bipush 96, 2, 5), (5, .if_icmp .ge 16, 3, 8), (8, .aload_n 0, 1, 9), (9, .getfield 31, 3, 12), (12, .iload_n 1, 1, 13), (13, .iconst (-1), 1, 14), (14, .iastore, 1, 15), (15, .iinc 1 1, 3, 18), (18, .goto (-16), 3, 21), (21, .return_, 1, 22)])
theorem ok_M_clears : zOK m_M_clears := ⟨by decide +kernel, by decide +kernel, rfl, by decide +kernel⟩
def m_M_readsWalks : zMth := (RX11, yX11_readsWalks, cX11_readsWalks, 6, (some .int), 1, 25, [(0, .aload_n 0, 1, 1), (1, .invokevirtual 119, 3, 4), (4, .aload_n 0, 1, 5), (5, .aload_n 0, 1, 6), (6, .getfield 25, 3, 9), (9, .iconst 1, 1, 10), (10, .iaload, 1, 11), (11, .ifCond .ne 7, 3, 14), (14, .iconst 0, 1, 15), (15, .goto 4, 3, 18), (18, .iconst 1, 1, 19), (19, .putfield 122, 3, 22), (22, .iconst 0, 1, 23), (23, .istore_n 1, 1, 24), (24, .iconst 0, 1, 25), (25, .istore_n 2, 1, 26), (26, .iload_n 2, 1, 27), (27, .aload_n 0, 1, 28), (28, .getfield 25, 3, 31), (31, .iconst 1, 1, 32), (32, .iaload, 1, 33), (33, .if_icmp .ge 146, 3, 36), (36, .aload_n 0, 1, 37), (37, .getfield 22, 3, 40), (40, .bipush 72, 2, 42), (42, .iload_n 2, 1, 43), (43, .iadd, 1, 44), (44, .iaload, 1, 45), (45, .istore_n 3, 1, 46), (46, .iload_n 3, 1, 47), (47, .bipush 59, 2, 49), (49, .if_icmp .ne 16, 3, 52), (52, .aload_n 0, 1, 53), (53, .getfield 122, 3, 56), (56, .bipush 8, 2, 58), (58, .if_icmp .ge 7, 3, 61), (61, .iconst 1, 1, 62), (62, .goto 4, 3, 65), (65, .iconst 0, 1, 66), (66, .istore 4, 2, 68), (68, .iload_n 3, 1, 69), (69, .i2l, 1, 70), (70, .ldc2_w 125, 3, 73), (73, .ldc2_w 127, 3, 76), (76, .invokestatic 70, 3, 79), (79, .ifCond .eq 13, 3, 82), (82, .iload_n 1, 1, 83), (83, .bipush 12, 2, 85), (85, .if_icmp .ge 7, 3, 88), (88, .iconst 1, 1, 89), (89, .goto 4, 3, 92), (92, .iconst 0, 1, 93), (93, .istore 5, 2, 95), (95, .iload 4, 2, 97), (97, .ifCond .ne 19, 3, 100), (100, .iload 5, 2, 102), (102, .ifCond .ne 14, 3, 105), (105, .aload_n 0, 1, 106), (106, .invokevirtual 119, 3, 109), (109, .aload_n 0, 1, 110), (110, .iconst 0, 1, 111), (111, .putfield 122, 3, 114), (114, .iload_n 2, 1, 115), (115, .ireturn, 1, 116), (116, .iload 5, 2, 118), (118, .ifCond .eq 23, 3, 121), (121, .aload_n 0, 1, 122), (122, .getfield 31, 3, 125), (125, .bipush 12, 2, 127), (127, .aload_n 0, 1, 128), (128, .getfield 122, 3, 131), (131, .iconst 1, 1, 132), (132, .isub, 1, 133), (133, .imul, 1, 134), (134, .iload_n 1, 1, 135), (135, .iadd, 1, 136), (136, .iload_n 3, 1, 137), (137, .bipush 97, 2, 139), (139, .isub, 1, 140), (140, .iastore, 1, 141), (141, .iload 4, 2, 143), (143, .ifCond .eq 7, 3, 146), (146, .iconst 0, 1, 147), (147, .goto 6, 3, 150), (150, .iload_n 1, 1, 151), (151, .iconst 1, 1, 152), (152, .iadd, 1, 153), (153, .istore_n 1, 1, 154), (154, .aload_n 0, 1, 155), (155, .dup, 1, 156), (156, .getfield 122, 3, 159), (159, .iload 4, 2, 161), (161, .ifCond .eq 7, 3, 164), (164, .iconst 1, 1, 165), (165, .goto 4, 3, 168), (168, .iconst 0, 1, 169), (169, .iadd, 1, 170), (170, .putfield 122, 3, 173), (173, .iinc 2 1, 3, 176), (176, .goto (-150), 3, 179), (179, .iconst (-1), 1, 180), (180, .ireturn, 1, 181)])
theorem ok_M_readsWalks : zOK m_M_readsWalks := ⟨by decide +kernel, by decide +kernel, rfl, by decide +kernel⟩
def m_M_fault : zMth := (RX11, yX11_fault, cX11_fault, 2, (some .int), 3, 70, [(0, .iload_n 1, 1, 1), (1, .invokestatic 98, 3, 4), (4, .ifCond .ne 8, 3, 7), (7, .bipush (-2), 2, 9), (9, .goto 18, 3, 12), (12, .iload_n 1, 1, 13), (13, .ifCond .ne 10, 3, 16), (16, .aload_n 0, 1, 17), (17, .invokevirtual 129, 3, 20), (20, .goto 7, 3, 23), (23, .aload_n 0, 1, 24), (24, .invokevirtual 133, 3, 27), (27, .ireturn, 1, 28)])
theorem ok_M_fault : zOK m_M_fault := ⟨by decide +kernel, by decide +kernel, rfl, by decide +kernel⟩
def m_M_reads : zMth := (RX11, yX11_reads, cX11_reads, 1, none, 3, 70, [(0, .aload_n 0, 1, 1), (1, .invokevirtual 129, 3, 4), (4, .pop, 1, 5), (5, .aload_n 0, 1, 6), (6, .invokevirtual 133, 3, 9), (9, .pop, 1, 10), (10, .return_, 1, 11)])
theorem ok_M_reads : zOK m_M_reads := ⟨by decide +kernel, by decide +kernel, rfl, by decide +kernel⟩
def m_M_isPerson : zMth := (RX11, yX11_isPerson, cX11_isPerson, 2, (some .boolean), 1, 25, [(0, .iload_n 1, 1, 1), (1, .i2l, 1, 2), (2, .lconst 0, 1, 3), (3, .aload_n 0, 1, 4), (4, .getfield 109, 3, 7), (7, .iconst 1, 1, 8), (8, .isub, 1, 9), (9, .i2l, 1, 10), (10, .invokestatic 70, 3, 13), (13, .ireturn, 1, 14)])
theorem ok_M_isPerson : zOK m_M_isPerson := ⟨by decide +kernel, by decide +kernel, rfl, by decide +kernel⟩
def m_M_isAnyone : zMth := (RX11, yX11_isAnyone, cX11_isAnyone, 1, (some .boolean), 1, 25, [(0, .iload_n 0, 1, 1), (1, .i2l, 1, 2), (2, .lconst 0, 1, 3), (3, .ldc2_w 136, 3, 6), (6, .invokestatic 70, 3, 9), (9, .ireturn, 1, 10)])
theorem ok_M_isAnyone : zOK m_M_isAnyone := ⟨by decide +kernel, by decide +kernel, rfl, by decide +kernel⟩
def m_M_isHour : zMth := (RX11, yX11_isHour, cX11_isHour, 1, (some .boolean), 1, 25, [(0, .iload_n 0, 1, 1), (1, .i2l, 1, 2), (2, .lconst 0, 1, 3), (3, .ldc2_w 138, 3, 6), (6, .invokestatic 70, 3, 9), (9, .ireturn, 1, 10)])
theorem ok_M_isHour : zOK m_M_isHour := ⟨by decide +kernel, by decide +kernel, rfl, by decide +kernel⟩
def m_M_person : zMth := (RX11, yX11_person, cX11_person, 3, (some .int), 4, 90, [(0, .aload_n 0, 1, 1), (1, .invokevirtual 140, 3, 4), (4, .aload_n 0, 1, 5), (5, .iload_n 1, 1, 6), (6, .invokevirtual 143, 3, 9), (9, .ifCond .eq 28, 3, 12), (12, .iload_n 2, 1, 13), (13, .i2l, 1, 14), (14, .lconst 0, 1, 15), (15, .ldc2_w 83, 3, 18), (18, .invokestatic 70, 3, 21), (21, .ifCond .eq 16, 3, 24), (24, .aload_n 0, 1, 25), (25, .getfield 28, 3, 28), (28, .iconst 3, 1, 29), (29, .iload_n 1, 1, 30), (30, .imul, 1, 31), (31, .iload_n 2, 1, 32), (32, .iadd, 1, 33), (33, .iaload, 1, 34), (34, .goto 5, 3, 37), (37, .bipush (-2), 2, 39), (39, .ireturn, 1, 40)])
theorem ok_M_person : zOK m_M_person := ⟨by decide +kernel, by decide +kernel, rfl, by decide +kernel⟩
def m_M_old : zMth := (RX11, yX11_old, cX11_old, 4, (some .int), 2, 45, [(0, .iload_n 1, 1, 1), (1, .invokestatic 146, 3, 4), (4, .ifCond .eq 27, 3, 7), (7, .iload_n 2, 1, 8), (8, .invokestatic 146, 3, 11), (11, .ifCond .eq 20, 3, 14), (14, .iload_n 1, 1, 15), (15, .iload_n 2, 1, 16), (16, .if_icmp .eq 15, 3, 19), (19, .iload_n 3, 1, 20), (20, .i2l, 1, 21), (21, .lconst 1, 1, 22), (22, .ldc2_w 149, 3, 25), (25, .invokestatic 70, 3, 28), (28, .ifCond .ne 6, 3, 31), (31, .bipush (-2), 2, 33), (33, .ireturn, 1, 34), (34, .aload_n 0, 1, 35), (35, .getfield 151, 3, 38), (38, .bipush 12, 2, 40), (40, .if_icmp .ne 6, 3, 43), (43, .bipush (-4), 2, 45), (45, .ireturn, 1, 46), (46, .aload_n 0, 1, 47), (47, .getfield 34, 3, 50), (50, .iconst 3, 1, 51), (51, .aload_n 0, 1, 52), (52, .getfield 151, 3, 55), (55, .imul, 1, 56), (56, .iload_n 1, 1, 57), (57, .iastore, 1, 58), (58, .aload_n 0, 1, 59), (59, .getfield 34, 3, 62), (62, .iconst 3, 1, 63), (63, .aload_n 0, 1, 64), (64, .getfield 151, 3, 67), (67, .imul, 1, 68), (68, .iconst 1, 1, 69), (69, .iadd, 1, 70), (70, .iload_n 2, 1, 71), (71, .iastore, 1, 72), (72, .aload_n 0, 1, 73), (73, .getfield 34, 3, 76), (76, .iconst 3, 1, 77), (77, .aload_n 0, 1, 78), (78, .getfield 151, 3, 81), (81, .imul, 1, 82), (82, .iconst 2, 1, 83), (83, .iadd, 1, 84), (84, .iload_n 3, 1, 85), (85, .iastore, 1, 86), (86, .aload_n 0, 1, 87), (87, .dup, 1, 88), (88, .getfield 151, 3, 91), (91, .iconst 1, 1, 92), (92, .iadd, 1, 93), (93, .putfield 151, 3, 96), (96, .aload_n 0, 1, 97), (97, .getfield 151, 3, 100), (100, .ireturn, 1, 101)])
theorem ok_M_old : zOK m_M_old := ⟨by decide +kernel, by decide +kernel, rfl, by decide +kernel⟩
def m_M_shades : zMth := (RX11, yX11_shades, cX11_shades, 3, none, 0, 0, [(0, .aload_n 0, 1, 1), (1, .getfield 37, 3, 4), (4, .iconst 2, 1, 5), (5, .aload_n 0, 1, 6), (6, .getfield 154, 3, 9), (9, .imul, 1, 10), (10, .iload_n 1, 1, 11), (11, .iastore, 1, 12), (12, .aload_n 0, 1, 13), (13, .getfield 37, 3, 16), (16, .iconst 2, 1, 17), (17, .aload_n 0, 1, 18), (18, .getfield 154, 3, 21), (21, .imul, 1, 22), (22, .iconst 1, 1, 23), (23, .iadd, 1, 24), (24, .iload_n 2, 1, 25), (25, .iastore, 1, 26), (26, .aload_n 0, 1, 27), (27, .dup, 1, 28), (28, .getfield 154, 3, 31), (31, .iconst 1, 1, 32), (32, .iadd, 1, 33), (33, .putfield 154, 3, 36), (36, .return_, 1, 37)])
theorem ok_M_shades : zOK m_M_shades := ⟨by decide +kernel, by decide +kernel, rfl, by decide +kernel⟩
def m_M_umbrella : zMth := (RX11, yX11_umbrella, cX11_umbrella, 3, (some .int), 2, 45, [(0, .iload_n 1, 1, 1), (1, .invokestatic 157, 3, 4), (4, .ifCond .eq 10, 3, 7), (7, .iload_n 2, 1, 8), (8, .invokestatic 146, 3, 11), (11, .ifCond .ne 6, 3, 14), (14, .bipush (-2), 2, 16), (16, .ireturn, 1, 17), (17, .aload_n 0, 1, 18), (18, .getfield 154, 3, 21), (21, .bipush 8, 2, 23), (23, .if_icmp .ne 6, 3, 26), (26, .bipush (-4), 2, 28), (28, .ireturn, 1, 29), (29, .aload_n 0, 1, 30), (30, .iload_n 1, 1, 31), (31, .iload_n 2, 1, 32), (32, .invokevirtual 160, 3, 35), (35, .aload_n 0, 1, 36), (36, .getfield 154, 3, 39), (39, .ireturn, 1, 40)])
theorem ok_M_umbrella : zOK m_M_umbrella := ⟨by decide +kernel, by decide +kernel, rfl, by decide +kernel⟩
def m_M_back : zMth := (RX11, yX11_back, cX11_back, 3, (some .int), 2, 45, [(0, .iload_n 1, 1, 1), (1, .invokestatic 98, 3, 4), (4, .ifCond .ne 6, 3, 7), (7, .bipush (-2), 2, 9), (9, .ireturn, 1, 10), (10, .iload_n 1, 1, 11), (11, .ifCond .ne 10, 3, 14), (14, .aload_n 0, 1, 15), (15, .getfield 151, 3, 18), (18, .goto 7, 3, 21), (21, .aload_n 0, 1, 22), (22, .getfield 154, 3, 25), (25, .istore_n 2, 1, 26), (26, .iload_n 2, 1, 27), (27, .ifCond .ne 6, 3, 30), (30, .bipush (-3), 2, 32), (32, .ireturn, 1, 33), (33, .aload_n 0, 1, 34), (34, .dup, 1, 35), (35, .getfield 151, 3, 38), (38, .iload_n 1, 1, 39), (39, .ifCond .ne 7, 3, 42), (42, .iconst 1, 1, 43), (43, .goto 4, 3, 46), (46, .iconst 0, 1, 47), (47, .isub, 1, 48), (48, .putfield 151, 3, 51), (51, .aload_n 0, 1, 52), (52, .dup, 1, 53), (53, .getfield 154, 3, 56), (56, .iload_n 1, 1, 57), (57, .isub, 1, 58), (58, .putfield 154, 3, 61), (61, .iload_n 2, 1, 62), (62, .iconst 1, 1, 63), (63, .isub, 1, 64), (64, .ireturn, 1, 65)])
theorem ok_M_back : zOK m_M_back := ⟨by decide +kernel, by decide +kernel, rfl, by decide +kernel⟩
def m_M_read : zMth := (RX11, yX11_read, cX11_read, 5, (some .int), 3, 68, [(0, .iload_n 1, 1, 1), (1, .invokestatic 79, 3, 4), (4, .ifCond .ne 6, 3, 7), (7, .bipush (-2), 2, 9), (9, .ireturn, 1, 10), (10, .aload_n 0, 1, 11), (11, .getfield 7, 3, 14), (14, .iload_n 1, 1, 15), (15, .iaload, 1, 16), (16, .ifCond .ge 9, 3, 19), (19, .aload_n 0, 1, 20), (20, .iconst 1, 1, 21), (21, .invokevirtual 85, 3, 24), (24, .ireturn, 1, 25), (25, .iconst 0, 1, 26), (26, .istore_n 2, 1, 27), (27, .iconst 1, 1, 28), (28, .istore_n 3, 1, 29), (29, .iload_n 3, 1, 30), (30, .ifCond .eq 80, 3, 33), (33, .iconst 3, 1, 34), (34, .iload_n 2, 1, 35), (35, .imul, 1, 36), (36, .iconst 3, 1, 37), (37, .iadd, 1, 38), (38, .aload_n 0, 1, 39), (39, .getfield 13, 3, 42), (42, .iload_n 1, 1, 43), (43, .iaload, 1, 44), (44, .if_icmp .gt 66, 3, 47), (47, .bipush 60, 2, 49), (49, .iload_n 1, 1, 50), (50, .imul, 1, 51), (51, .iconst 3, 1, 52), (52, .iload_n 2, 1, 53), (53, .imul, 1, 54), (54, .iadd, 1, 55), (55, .istore 4, 2, 57), (57, .aload_n 0, 1, 58), (58, .aload_n 0, 1, 59), (59, .getfield 16, 3, 62), (62, .iload 4, 2, 64), (64, .iaload, 1, 65), (65, .aload_n 0, 1, 66), (66, .getfield 16, 3, 69), (69, .iload 4, 2, 71), (71, .iconst 1, 1, 72), (72, .iadd, 1, 73), (73, .iaload, 1, 74), (74, .aload_n 0, 1, 75), (75, .getfield 16, 3, 78), (78, .iload 4, 2, 80), (80, .iconst 2, 1, 81), (81, .iadd, 1, 82), (82, .iaload, 1, 83), (83, .invokevirtual 164, 3, 86), (86, .ifCond .lt 7, 3, 89), (89, .iconst 1, 1, 90), (90, .goto 4, 3, 93), (93, .iconst 0, 1, 94), (94, .istore_n 3, 1, 95), (95, .iload_n 2, 1, 96), (96, .iload_n 3, 1, 97), (97, .ifCond .eq 7, 3, 100), (100, .iconst 1, 1, 101), (101, .goto 4, 3, 104), (104, .iconst 0, 1, 105), (105, .iadd, 1, 106), (106, .istore_n 2, 1, 107), (107, .goto (-78), 3, 110), (110, .iload_n 2, 1, 111), (111, .ireturn, 1, 112)])
theorem ok_M_read : zOK m_M_read := ⟨by decide +kernel, by decide +kernel, rfl, by decide +kernel⟩
def m_M_streetOf : zMth := (RX11, yX11_streetOf, cX11_streetOf, 3, (some .int), 0, 0, [(0, .iload_n 2, 1, 1), (1, .aload_n 0, 1, 2), (2, .getfield 65, 3, 5), (5, .if_icmp .ne 30, 3, 8), (8, .iload_n 1, 1, 9), (9, .iconst 3, 1, 10), (10, .if_icmp .ge 25, 3, 13), (13, .aload_n 0, 1, 14), (14, .getfield 49, 3, 17), (17, .iload_n 1, 1, 18), (18, .iaload, 1, 19), (19, .bipush 8, 2, 21), (21, .if_icmp .ne 7, 3, 24), (24, .iconst (-1), 1, 25), (25, .goto 9, 3, 28), (28, .aload_n 0, 1, 29), (29, .getfield 49, 3, 32), (32, .iload_n 1, 1, 33), (33, .iaload, 1, 34), (34, .ireturn, 1, 35), (35, .aload_n 0, 1, 36), (36, .getfield 31, 3, 39), (39, .bipush 12, 2, 41), (41, .iload_n 2, 1, 42), (42, .imul, 1, 43), (43, .iload_n 1, 1, 44), (44, .iadd, 1, 45), (45, .iaload, 1, 46), (46, .ireturn, 1, 47)])
theorem ok_M_streetOf : zOK m_M_streetOf := ⟨by decide +kernel, by decide +kernel, rfl, by decide +kernel⟩
def m_M_street : zMth := (RX11, yX11_street, cX11_street, 3, (some .int), 4, 90, [(0, .aload_n 0, 1, 1), (1, .invokevirtual 140, 3, 4), (4, .iload_n 1, 1, 5), (5, .invokestatic 157, 3, 8), (8, .ifCond .eq 20, 3, 11), (11, .aload_n 0, 1, 12), (12, .iload_n 2, 1, 13), (13, .invokevirtual 143, 3, 16), (16, .ifCond .eq 12, 3, 19), (19, .aload_n 0, 1, 20), (20, .iload_n 1, 1, 21), (21, .iload_n 2, 1, 22), (22, .invokevirtual 166, 3, 25), (25, .goto 5, 3, 28), (28, .bipush (-2), 2, 30), (30, .ireturn, 1, 31)])
theorem ok_M_street : zOK m_M_street := ⟨by decide +kernel, by decide +kernel, rfl, by decide +kernel⟩
def m_M_isSeenOn : zMth := (RX11, yX11_isSeenOn, cX11_isSeenOn, 5, (some .boolean), 1, 21, [(0, .iconst 1, 1, 1), (1, .istore_n 3, 1, 2), (2, .iconst 0, 1, 3), (3, .istore 4, 2, 5), (5, .iload 4, 2, 7), (7, .aload_n 0, 1, 8), (8, .getfield 154, 3, 11), (11, .if_icmp .ge 59, 3, 14), (14, .iload_n 3, 1, 15), (15, .ifCond .eq 47, 3, 18), (18, .aload_n 0, 1, 19), (19, .getfield 169, 3, 22), (22, .iload 4, 2, 24), (24, .invokestatic 172, 3, 27), (27, .ifCond .ne 31, 3, 30), (30, .aload_n 0, 1, 31), (31, .getfield 37, 3, 34), (34, .iconst 2, 1, 35), (35, .iload 4, 2, 37), (37, .imul, 1, 38), (38, .iaload, 1, 39), (39, .iload_n 1, 1, 40), (40, .if_icmp .ne 18, 3, 43), (43, .aload_n 0, 1, 44), (44, .getfield 37, 3, 47), (47, .iconst 2, 1, 48), (48, .iload 4, 2, 50), (50, .imul, 1, 51), (51, .iconst 1, 1, 52), (52, .iadd, 1, 53), (53, .iaload, 1, 54), (54, .iload_n 2, 1, 55), (55, .if_icmp .eq 7, 3, 58), (58, .iconst 1, 1, 59), (59, .goto 4, 3, 62), (62, .iconst 0, 1, 63), (63, .istore_n 3, 1, 64), (64, .iinc 4 1, 3, 67), (67, .goto (-62), 3, 70), (70, .iload_n 3, 1, 71), (71, .ireturn, 1, 72)])
theorem ok_M_isSeenOn : zOK m_M_isSeenOn := ⟨by decide +kernel, by decide +kernel, rfl, by decide +kernel⟩
def m_M_begins : zMth := (RX11, yX11_begins, cX11_begins, 4, none, 1, 21, [(0, .iconst 0, 1, 1), (1, .istore_n 1, 1, 2), (2, .iload_n 1, 1, 3), (3, .bipush 64, 2, 5), (5, .if_icmp .ge 16, 3, 8), (8, .aload_n 0, 1, 9), (9, .getfield 40, 3, 12), (12, .iload_n 1, 1, 13), (13, .iconst 0, 1, 14), (14, .iastore, 1, 15), (15, .iinc 1 1, 3, 18), (18, .goto (-16), 3, 21), (21, .iconst 0, 1, 22), (22, .istore_n 1, 1, 23), (23, .iload_n 1, 1, 24), (24, .bipush 8, 2, 26), (26, .if_icmp .ge 16, 3, 29), (29, .aload_n 0, 1, 30), (30, .getfield 46, 3, 33), (33, .iload_n 1, 1, 34), (34, .iconst 0, 1, 35), (35, .iastore, 1, 36), (36, .iinc 1 1, 3, 39), (39, .goto (-16), 3, 42), (42, .iconst 0, 1, 43), (43, .istore_n 1, 1, 44), (44, .iload_n 1, 1, 45), (45, .aload_n 0, 1, 46), (46, .getfield 151, 3, 49), (49, .if_icmp .ge 110, 3, 52), (52, .aload_n 0, 1, 53), (53, .getfield 34, 3, 56), (56, .iconst 3, 1, 57), (57, .iload_n 1, 1, 58), (58, .imul, 1, 59), (59, .iaload, 1, 60), (60, .aload_n 0, 1, 61), (61, .getfield 34, 3, 64), (64, .iconst 3, 1, 65), (65, .iload_n 1, 1, 66), (66, .imul, 1, 67), (67, .iconst 1, 1, 68), (68, .iadd, 1, 69), (69, .iaload, 1, 70), (70, .invokestatic 176, 3, 73), (73, .istore_n 2, 1, 74), (74, .aload_n 0, 1, 75), (75, .getfield 34, 3, 78), (78, .iconst 3, 1, 79), (79, .iload_n 1, 1, 80), (80, .imul, 1, 81), (81, .iaload, 1, 82), (82, .aload_n 0, 1, 83), (83, .getfield 34, 3, 86), (86, .iconst 3, 1, 87), (87, .iload_n 1, 1, 88), (88, .imul, 1, 89), (89, .iconst 1, 1, 90), (90, .iadd, 1, 91), (91, .iaload, 1, 92), (92, .invokestatic 179, 3, 95), (95, .istore_n 3, 1, 96), (96, .iload_n 1, 1, 97), (97, .aload_n 0, 1, 98), (98, .getfield 61, 3, 101), (101, .if_icmp .eq 52, 3, 104), (104, .aload_n 0, 1, 105), (105, .getfield 40, 3, 108), (108, .bipush 8, 2, 110), (110, .iload_n 2, 1, 111), (111, .imul, 1, 112), (112, .iload_n 3, 1, 113), (113, .iadd, 1, 114), (114, .aload_n 0, 1, 115), (115, .getfield 34, 3, 118), (118, .iconst 3, 1, 119), (119, .iload_n 1, 1, 120), (120, .imul, 1, 121), (121, .iconst 2, 1, 122), (122, .iadd, 1, 123), (123, .iaload, 1, 124), (124, .iastore, 1, 125), (125, .aload_n 0, 1, 126), (126, .getfield 43, 3, 129), (129, .bipush 8, 2, 131), (131, .iload_n 2, 1, 132), (132, .imul, 1, 133), (133, .iload_n 3, 1, 134), (134, .iadd, 1, 135), (135, .iload_n 2, 1, 136), (136, .aload_n 0, 1, 137), (137, .getfield 34, 3, 140), (140, .iconst 3, 1, 141), (141, .iload_n 1, 1, 142), (142, .imul, 1, 143), (143, .iaload, 1, 144), (144, .if_icmp .ne 7, 3, 147), (147, .iconst 1, 1, 148), (148, .goto 4, 3, 151), (151, .iconst 0, 1, 152), (152, .iastore, 1, 153), (153, .iinc 1 1, 3, 156), (156, .goto (-112), 3, 159), (159, .aload_n 0, 1, 160), (160, .iconst 0, 1, 161), (161, .putfield 182, 3, 164), (164, .aload_n 0, 1, 165), (165, .iconst 0, 1, 166), (166, .putfield 185, 3, 169), (169, .aload_n 0, 1, 170), (170, .iconst (-1), 1, 171), (171, .putfield 188, 3, 174), (174, .aload_n 0, 1, 175), (175, .iconst (-1), 1, 176), (176, .putfield 191, 3, 179), (179, .return_, 1, 180)])
theorem ok_M_begins : zOK m_M_begins := ⟨by decide +kernel, by decide +kernel, rfl, by decide +kernel⟩
def m_M_lessBows : zMth := (RX11, yX11_lessBows, cX11_lessBows, 3, (some .boolean), 0, 0, [(0, .aload_n 0, 1, 1), (1, .getfield 40, 3, 4), (4, .bipush 8, 2, 6), (6, .iload_n 1, 1, 7), (7, .imul, 1, 8), (8, .iload_n 2, 1, 9), (9, .iadd, 1, 10), (10, .iaload, 1, 11), (11, .ifCond .le 23, 3, 14), (14, .aload_n 0, 1, 15), (15, .getfield 43, 3, 18), (18, .bipush 8, 2, 20), (20, .iload_n 1, 1, 21), (21, .imul, 1, 22), (22, .iload_n 2, 1, 23), (23, .iadd, 1, 24), (24, .iaload, 1, 25), (25, .ifCond .ne 7, 3, 28), (28, .iconst 1, 1, 29), (29, .goto 4, 3, 32), (32, .iconst 0, 1, 33), (33, .ireturn, 1, 34), (34, .aload_n 0, 1, 35), (35, .getfield 28, 3, 38), (38, .iconst 3, 1, 39), (39, .iload_n 1, 1, 40), (40, .imul, 1, 41), (41, .iaload, 1, 42), (42, .iconst 1, 1, 43), (43, .if_icmp .ne 15, 3, 46), (46, .aload_n 0, 1, 47), (47, .getfield 28, 3, 50), (50, .iconst 3, 1, 51), (51, .iload_n 2, 1, 52), (52, .imul, 1, 53), (53, .iaload, 1, 54), (54, .iconst 1, 1, 55), (55, .if_icmp .ne 7, 3, 58), (58, .iconst 1, 1, 59), (59, .goto 4, 3, 62), (62, .iconst 0, 1, 63), (63, .ireturn, 1, 64)])
theorem ok_M_lessBows : zOK m_M_lessBows := ⟨by decide +kernel, by decide +kernel, rfl, by decide +kernel⟩
def m_M_howLow : zMth := (RX11, yX11_howLow, cX11_howLow, 5, (some .int), 0, 0, [(0, .aload_n 0, 1, 1), (1, .getfield 40, 3, 4), (4, .bipush 8, 2, 6), (6, .iload_n 1, 1, 7), (7, .imul, 1, 8), (8, .iload_n 2, 1, 9), (9, .iadd, 1, 10), (10, .iaload, 1, 11), (11, .istore 4, 2, 13), (13, .iload 4, 2, 15), (15, .ifCond .ne 7, 3, 18), (18, .iconst 1, 1, 19), (19, .goto 34, 3, 22), (22, .iload 4, 2, 24), (24, .aload_n 0, 1, 25), (25, .getfield 28, 3, 28), (28, .iconst 3, 1, 29), (29, .iload_n 3, 1, 30), (30, .imul, 1, 31), (31, .iconst 2, 1, 32), (32, .iadd, 1, 33), (33, .iaload, 1, 34), (34, .iadd, 1, 35), (35, .aload_n 0, 1, 36), (36, .getfield 28, 3, 39), (39, .iconst 3, 1, 40), (40, .iload_n 3, 1, 41), (41, .imul, 1, 42), (42, .iaload, 1, 43), (43, .iconst 1, 1, 44), (44, .if_icmp .ne 7, 3, 47), (47, .iconst 1, 1, 48), (48, .goto 4, 3, 51), (51, .iconst 0, 1, 52), (52, .iadd, 1, 53), (53, .ireturn, 1, 54)])
theorem ok_M_howLow : zOK m_M_howLow := ⟨by decide +kernel, by decide +kernel, rfl, by decide +kernel⟩
def m_M_isClergy : zMth := (RX11, yX11_isClergy, cX11_isClergy, 2, (some .boolean), 0, 0, [(0, .aload_n 0, 1, 1), (1, .getfield 28, 3, 4), (4, .iconst 3, 1, 5), (5, .iload_n 1, 1, 6), (6, .imul, 1, 7), (7, .iaload, 1, 8), (8, .iconst 2, 1, 9), (9, .if_icmp .ne 7, 3, 12), (12, .iconst 1, 1, 13), (13, .goto 4, 3, 16), (16, .iconst 0, 1, 17), (17, .ireturn, 1, 18)])
theorem ok_M_isClergy : zOK m_M_isClergy := ⟨by decide +kernel, by decide +kernel, rfl, by decide +kernel⟩
def m_M_may : zMth := (RX11, yX11_may, cX11_may, 3, (some .boolean), 1, 21, [(0, .aload_n 0, 1, 1), (1, .iload_n 1, 1, 2), (2, .invokevirtual 194, 3, 5), (5, .ifCond .ne 37, 3, 8), (8, .aload_n 0, 1, 9), (9, .iload_n 2, 1, 10), (10, .invokevirtual 194, 3, 13), (13, .ifCond .ne 29, 3, 16), (16, .aload_n 0, 1, 17), (17, .getfield 182, 3, 20), (20, .iload_n 1, 1, 21), (21, .invokestatic 172, 3, 24), (24, .ifCond .ne 18, 3, 27), (27, .aload_n 0, 1, 28), (28, .getfield 182, 3, 31), (31, .iload_n 2, 1, 32), (32, .invokestatic 172, 3, 35), (35, .ifCond .ne 7, 3, 38), (38, .iconst 1, 1, 39), (39, .goto 4, 3, 42), (42, .iconst 0, 1, 43), (43, .ireturn, 1, 44)])
theorem ok_M_may : zOK m_M_may := ⟨by decide +kernel, by decide +kernel, rfl, by decide +kernel⟩
def m_M_meets : zMth := (RX11, yX11_meets, cX11_meets, 7, (some .boolean), 1, 24, [(0, .aload_n 0, 1, 1), (1, .iload_n 1, 1, 2), (2, .iload_n 2, 1, 3), (3, .invokevirtual 197, 3, 6), (6, .istore 4, 2, 8), (8, .iload 4, 2, 10), (10, .ifCond .eq 7, 3, 13), (13, .iload_n 1, 1, 14), (14, .goto 4, 3, 17), (17, .iload_n 2, 1, 18), (18, .istore 5, 2, 20), (20, .aload_n 0, 1, 21), (21, .iload_n 1, 1, 22), (22, .iload_n 2, 1, 23), (23, .iload 5, 2, 25), (25, .invokevirtual 200, 3, 28), (28, .istore 6, 2, 30), (30, .iload 6, 2, 32), (32, .aload_n 0, 1, 33), (33, .getfield 28, 3, 36), (36, .iconst 3, 1, 37), (37, .iload 5, 2, 39), (39, .imul, 1, 40), (40, .iconst 1, 1, 41), (41, .iadd, 1, 42), (42, .iaload, 1, 43), (43, .if_icmp .le 57, 3, 46), (46, .aload_n 0, 1, 47), (47, .aload_n 0, 1, 48), (48, .getfield 182, 3, 51), (51, .ifCond .ne 7, 3, 54), (54, .iload_n 3, 1, 55), (55, .goto 7, 3, 58), (58, .aload_n 0, 1, 59), (59, .getfield 188, 3, 62), (62, .putfield 188, 3, 65), (65, .aload_n 0, 1, 66), (66, .aload_n 0, 1, 67), (67, .getfield 182, 3, 70), (70, .ifCond .ne 8, 3, 73), (73, .iload 5, 2, 75), (75, .goto 7, 3, 78), (78, .aload_n 0, 1, 79), (79, .getfield 191, 3, 82), (82, .putfield 191, 3, 85), (85, .aload_n 0, 1, 86), (86, .dup, 1, 87), (87, .getfield 182, 3, 90), (90, .iconst 1, 1, 91), (91, .iload 5, 2, 93), (93, .ishl, 1, 94), (94, .ior, 1, 95), (95, .putfield 182, 3, 98), (98, .iconst 0, 1, 99), (99, .ireturn, 1, 100), (100, .aload_n 0, 1, 101), (101, .getfield 40, 3, 104), (104, .bipush 8, 2, 106), (106, .iload_n 1, 1, 107), (107, .imul, 1, 108), (108, .iload_n 2, 1, 109), (109, .iadd, 1, 110), (110, .iload 6, 2, 112), (112, .iastore, 1, 113), (113, .aload_n 0, 1, 114), (114, .getfield 43, 3, 117), (117, .bipush 8, 2, 119), (119, .iload_n 1, 1, 120), (120, .imul, 1, 121), (121, .iload_n 2, 1, 122), (122, .iadd, 1, 123), (123, .iload 4, 2, 125), (125, .ifCond .eq 7, 3, 128), (128, .iconst 1, 1, 129), (129, .goto 4, 3, 132), (132, .iconst 0, 1, 133), (133, .iastore, 1, 134), (134, .aload_n 0, 1, 135), (135, .getfield 46, 3, 138), (138, .iload 5, 2, 140), (140, .iload 6, 2, 142), (142, .aload_n 0, 1, 143), (143, .getfield 46, 3, 146), (146, .iload 5, 2, 148), (148, .iaload, 1, 149), (149, .invokestatic 179, 3, 152), (152, .iastore, 1, 153), (153, .aload_n 0, 1, 154), (154, .dup, 1, 155), (155, .getfield 185, 3, 158), (158, .iconst 1, 1, 159), (159, .iadd, 1, 160), (160, .putfield 185, 3, 163), (163, .iconst 1, 1, 164), (164, .ireturn, 1, 165)])
theorem ok_M_meets : zOK m_M_meets := ⟨by decide +kernel, by decide +kernel, rfl, by decide +kernel⟩
def m_M_lives : zMth := (RX11, yX11_lives, cX11_lives, 6, none, 2, 50, [(0, .aload_n 0, 1, 1), (1, .invokevirtual 203, 3, 4), (4, .iconst 0, 1, 5), (5, .istore_n 2, 1, 6), (6, .iload_n 2, 1, 7), (7, .iload_n 1, 1, 8), (8, .if_icmp .gt 109, 3, 11), (11, .iconst 0, 1, 12), (12, .istore_n 3, 1, 13), (13, .iload_n 3, 1, 14), (14, .aload_n 0, 1, 15), (15, .getfield 109, 3, 18), (18, .if_icmp .ge 93, 3, 21), (21, .aload_n 0, 1, 22), (22, .iload_n 2, 1, 23), (23, .iload_n 3, 1, 24), (24, .invokevirtual 166, 3, 27), (27, .istore 4, 2, 29), (29, .iload_n 3, 1, 30), (30, .iconst 1, 1, 31), (31, .iadd, 1, 32), (32, .istore 5, 2, 34), (34, .iload 5, 2, 36), (36, .aload_n 0, 1, 37), (37, .getfield 109, 3, 40), (40, .if_icmp .ge 65, 3, 43), (43, .iload 4, 2, 45), (45, .iconst (-1), 1, 46), (46, .if_icmp .eq 59, 3, 49), (49, .aload_n 0, 1, 50), (50, .iload_n 2, 1, 51), (51, .iload 5, 2, 53), (53, .invokevirtual 166, 3, 56), (56, .iload 4, 2, 58), (58, .if_icmp .ne 41, 3, 61), (61, .aload_n 0, 1, 62), (62, .iload_n 3, 1, 63), (63, .iload 5, 2, 65), (65, .invokevirtual 206, 3, 68), (68, .ifCond .eq 31, 3, 71), (71, .aload_n 0, 1, 72), (72, .iload_n 2, 1, 73), (73, .iload_n 3, 1, 74), (74, .invokevirtual 209, 3, 77), (77, .ifCond .eq 22, 3, 80), (80, .aload_n 0, 1, 81), (81, .iload_n 2, 1, 82), (82, .iload 5, 2, 84), (84, .invokevirtual 209, 3, 87), (87, .ifCond .eq 12, 3, 90), (90, .aload_n 0, 1, 91), (91, .iload_n 3, 1, 92), (92, .iload 5, 2, 94), (94, .iload_n 2, 1, 95), (95, .invokevirtual 212, 3, 98), (98, .pop, 1, 99), (99, .iinc 5 1, 3, 102), (102, .goto (-68), 3, 105), (105, .iinc 3 1, 3, 108), (108, .goto (-95), 3, 111), (111, .iinc 2 1, 3, 114), (114, .goto (-108), 3, 117), (117, .return_, 1, 118)])
theorem ok_M_lives : zOK m_M_lives := ⟨by decide +kernel, by decide +kernel, rfl, by decide +kernel⟩
def m_M_lowOf : zMth := (RX11, yX11_lowOf, cX11_lowOf, 3, (some .int), 3, 75, [(0, .aload_n 0, 1, 1), (1, .iload_n 1, 1, 2), (2, .invokevirtual 216, 3, 5), (5, .aload_n 0, 1, 6), (6, .getfield 46, 3, 9), (9, .iload_n 2, 1, 10), (10, .iaload, 1, 11), (11, .ireturn, 1, 12)])
theorem ok_M_lowOf : zOK m_M_lowOf := ⟨by decide +kernel, by decide +kernel, rfl, by decide +kernel⟩
def m_M_low : zMth := (RX11, yX11_low, cX11_low, 3, (some .int), 4, 97, [(0, .aload_n 0, 1, 1), (1, .invokevirtual 140, 3, 4), (4, .iload_n 1, 1, 5), (5, .invokestatic 157, 3, 8), (8, .ifCond .eq 20, 3, 11), (11, .aload_n 0, 1, 12), (12, .iload_n 2, 1, 13), (13, .invokevirtual 143, 3, 16), (16, .ifCond .eq 12, 3, 19), (19, .aload_n 0, 1, 20), (20, .iload_n 1, 1, 21), (21, .iload_n 2, 1, 22), (22, .invokevirtual 220, 3, 25), (25, .goto 5, 3, 28), (28, .bipush (-2), 2, 30), (30, .ireturn, 1, 31)])
theorem ok_M_low : zOK m_M_low := ⟨by decide +kernel, by decide +kernel, rfl, by decide +kernel⟩
def m_M_behindOf : zMth := (RX11, yX11_behindOf, cX11_behindOf, 3, (some .int), 3, 75, [(0, .aload_n 0, 1, 1), (1, .iload_n 1, 1, 2), (2, .invokevirtual 216, 3, 5), (5, .iload_n 2, 1, 6), (6, .ifCond .ne 10, 3, 9), (9, .aload_n 0, 1, 10), (10, .getfield 182, 3, 13), (13, .goto 7, 3, 16), (16, .aload_n 0, 1, 17), (17, .getfield 185, 3, 20), (20, .ireturn, 1, 21)])
theorem ok_M_behindOf : zOK m_M_behindOf := ⟨by decide +kernel, by decide +kernel, rfl, by decide +kernel⟩
def m_M_behind : zMth := (RX11, yX11_behind, cX11_behind, 3, (some .int), 4, 97, [(0, .aload_n 0, 1, 1), (1, .invokevirtual 140, 3, 4), (4, .iload_n 1, 1, 5), (5, .invokestatic 157, 3, 8), (8, .ifCond .eq 19, 3, 11), (11, .iload_n 2, 1, 12), (12, .invokestatic 98, 3, 15), (15, .ifCond .eq 12, 3, 18), (18, .aload_n 0, 1, 19), (19, .iload_n 1, 1, 20), (20, .iload_n 2, 1, 21), (21, .invokevirtual 223, 3, 24), (24, .goto 5, 3, 27), (27, .bipush (-2), 2, 29), (29, .ireturn, 1, 30)])
theorem ok_M_behind : zOK m_M_behind := ⟨by decide +kernel, by decide +kernel, rfl, by decide +kernel⟩
def m_M_owesNow : zMth := (RX11, yX11_owesNow, cX11_owesNow, 5, (some .int), 1, 24, [(0, .iload_n 1, 1, 1), (1, .iload_n 2, 1, 2), (2, .invokestatic 176, 3, 5), (5, .istore_n 3, 1, 6), (6, .iload_n 1, 1, 7), (7, .iload_n 2, 1, 8), (8, .invokestatic 179, 3, 11), (11, .istore 4, 2, 13), (13, .aload_n 0, 1, 14), (14, .iload_n 1, 1, 15), (15, .invokevirtual 194, 3, 18), (18, .ifCond .ne 31, 3, 21), (21, .aload_n 0, 1, 22), (22, .iload_n 2, 1, 23), (23, .invokevirtual 194, 3, 26), (26, .ifCond .ne 23, 3, 29), (29, .aload_n 0, 1, 30), (30, .iload_n 3, 1, 31), (31, .iload 4, 2, 33), (33, .invokevirtual 197, 3, 36), (36, .iload_n 1, 1, 37), (37, .iload_n 3, 1, 38), (38, .if_icmp .ne 7, 3, 41), (41, .iconst 1, 1, 42), (42, .goto 4, 3, 45), (45, .iconst 0, 1, 46), (46, .if_icmp .eq 7, 3, 49), (49, .iconst 0, 1, 50), (50, .goto 11, 3, 53), (53, .aload_n 0, 1, 54), (54, .iload_n 3, 1, 55), (55, .iload 4, 2, 57), (57, .iload_n 1, 1, 58), (58, .invokevirtual 200, 3, 61), (61, .ireturn, 1, 62)])
theorem ok_M_owesNow : zOK m_M_owesNow := ⟨by decide +kernel, by decide +kernel, rfl, by decide +kernel⟩
def m_M_owesOf : zMth := (RX11, yX11_owesOf, cX11_owesOf, 4, (some .int), 3, 75, [(0, .aload_n 0, 1, 1), (1, .iload_n 1, 1, 2), (2, .invokevirtual 216, 3, 5), (5, .aload_n 0, 1, 6), (6, .iload_n 2, 1, 7), (7, .iload_n 3, 1, 8), (8, .invokevirtual 226, 3, 11), (11, .ireturn, 1, 12)])
theorem ok_M_owesOf : zOK m_M_owesOf := ⟨by decide +kernel, by decide +kernel, rfl, by decide +kernel⟩
def m_M_owes : zMth := (RX11, yX11_owes, cX11_owes, 4, (some .int), 4, 98, [(0, .aload_n 0, 1, 1), (1, .invokevirtual 140, 3, 4), (4, .iload_n 1, 1, 5), (5, .invokestatic 157, 3, 8), (8, .ifCond .eq 34, 3, 11), (11, .aload_n 0, 1, 12), (12, .iload_n 2, 1, 13), (13, .invokevirtual 143, 3, 16), (16, .ifCond .eq 26, 3, 19), (19, .aload_n 0, 1, 20), (20, .iload_n 3, 1, 21), (21, .invokevirtual 143, 3, 24), (24, .ifCond .eq 18, 3, 27), (27, .iload_n 2, 1, 28), (28, .iload_n 3, 1, 29), (29, .if_icmp .eq 13, 3, 32), (32, .aload_n 0, 1, 33), (33, .iload_n 1, 1, 34), (34, .iload_n 2, 1, 35), (35, .iload_n 3, 1, 36), (36, .invokevirtual 229, 3, 39), (39, .goto 5, 3, 42), (42, .bipush (-2), 2, 44), (44, .ireturn, 1, 45)])
theorem ok_M_owes : zOK m_M_owes := ⟨by decide +kernel, by decide +kernel, rfl, by decide +kernel⟩
def m_M_firstOf : zMth := (RX11, yX11_firstOf, cX11_firstOf, 2, (some .int), 3, 75, [(0, .aload_n 0, 1, 1), (1, .bipush 11, 2, 3), (3, .invokevirtual 216, 3, 6), (6, .iload_n 1, 1, 7), (7, .ifCond .ne 10, 3, 10), (10, .aload_n 0, 1, 11), (11, .getfield 188, 3, 14), (14, .goto 7, 3, 17), (17, .aload_n 0, 1, 18), (18, .getfield 191, 3, 21), (21, .ireturn, 1, 22)])
theorem ok_M_firstOf : zOK m_M_firstOf := ⟨by decide +kernel, by decide +kernel, rfl, by decide +kernel⟩
def m_M_first : zMth := (RX11, yX11_first, cX11_first, 2, (some .int), 4, 96, [(0, .aload_n 0, 1, 1), (1, .invokevirtual 140, 3, 4), (4, .iload_n 1, 1, 5), (5, .invokestatic 98, 3, 8), (8, .ifCond .eq 11, 3, 11), (11, .aload_n 0, 1, 12), (12, .iload_n 1, 1, 13), (13, .invokevirtual 232, 3, 16), (16, .goto 5, 3, 19), (19, .bipush (-2), 2, 21), (21, .ireturn, 1, 22)])
theorem ok_M_first : zOK m_M_first := ⟨by decide +kernel, by decide +kernel, rfl, by decide +kernel⟩
def m_M_endsOf : zMth := (RX11, yX11_endsOf, cX11_endsOf, 7, (some .int), 3, 75, [(0, .aload_n 0, 1, 1), (1, .bipush 11, 2, 3), (3, .invokevirtual 216, 3, 6), (6, .iload_n 1, 1, 7), (7, .iload_n 2, 1, 8), (8, .invokestatic 176, 3, 11), (11, .istore 4, 2, 13), (13, .iload_n 1, 1, 14), (14, .iload_n 2, 1, 15), (15, .invokestatic 179, 3, 18), (18, .istore 5, 2, 20), (20, .aload_n 0, 1, 21), (21, .iload 4, 2, 23), (23, .iload 5, 2, 25), (25, .invokevirtual 206, 3, 28), (28, .ifCond .ne 5, 3, 31), (31, .iconst (-1), 1, 32), (32, .ireturn, 1, 33), (33, .iconst 0, 1, 34), (34, .istore 6, 2, 36), (36, .aload_n 0, 1, 37), (37, .iload 4, 2, 39), (39, .iload 5, 2, 41), (41, .bipush 11, 2, 43), (43, .invokevirtual 212, 3, 46), (46, .ifCond .eq 9, 3, 49), (49, .iinc 6 1, 3, 52), (52, .goto (-16), 3, 55), (55, .iload_n 3, 1, 56), (56, .ifCond .ne 8, 3, 59), (59, .iload 6, 2, 61), (61, .goto 19, 3, 64), (64, .aload_n 0, 1, 65), (65, .getfield 182, 3, 68), (68, .iload_n 1, 1, 69), (69, .invokestatic 172, 3, 72), (72, .ifCond .eq 7, 3, 75), (75, .iconst 0, 1, 76), (76, .goto 4, 3, 79), (79, .iconst 1, 1, 80), (80, .ireturn, 1, 81)])
theorem ok_M_endsOf : zOK m_M_endsOf := ⟨by decide +kernel, by decide +kernel, rfl, by decide +kernel⟩
def m_M_ends : zMth := (RX11, yX11_ends, cX11_ends, 4, (some .int), 4, 101, [(0, .aload_n 0, 1, 1), (1, .invokevirtual 140, 3, 4), (4, .aload_n 0, 1, 5), (5, .iload_n 1, 1, 6), (6, .invokevirtual 143, 3, 9), (9, .ifCond .eq 33, 3, 12), (12, .aload_n 0, 1, 13), (13, .iload_n 2, 1, 14), (14, .invokevirtual 143, 3, 17), (17, .ifCond .eq 25, 3, 20), (20, .iload_n 1, 1, 21), (21, .iload_n 2, 1, 22), (22, .if_icmp .eq 20, 3, 25), (25, .iload_n 3, 1, 26), (26, .invokestatic 98, 3, 29), (29, .ifCond .eq 13, 3, 32), (32, .aload_n 0, 1, 33), (33, .iload_n 1, 1, 34), (34, .iload_n 2, 1, 35), (35, .iload_n 3, 1, 36), (36, .invokevirtual 235, 3, 39), (39, .goto 5, 3, 42), (42, .bipush (-2), 2, 44), (44, .ireturn, 1, 45)])
theorem ok_M_ends : zOK m_M_ends := ⟨by decide +kernel, by decide +kernel, rfl, by decide +kernel⟩
def m_M_isRing : zMth := (RX11, yX11_isRing, cX11_isRing, 5, (some .boolean), 2, 48, [(0, .aload_n 0, 1, 1), (1, .iload_n 1, 1, 2), (2, .iload_n 2, 1, 3), (3, .invokevirtual 226, 3, 6), (6, .ifCond .le 25, 3, 9), (9, .aload_n 0, 1, 10), (10, .iload_n 2, 1, 11), (11, .iload_n 3, 1, 12), (12, .invokevirtual 226, 3, 15), (15, .ifCond .le 16, 3, 18), (18, .aload_n 0, 1, 19), (19, .iload_n 3, 1, 20), (20, .iload_n 1, 1, 21), (21, .invokevirtual 226, 3, 24), (24, .ifCond .le 7, 3, 27), (27, .iconst 1, 1, 28), (28, .goto 4, 3, 31), (31, .iconst 0, 1, 32), (32, .istore 4, 2, 34), (34, .iload 4, 2, 36), (36, .ifCond .ne 30, 3, 39), (39, .aload_n 0, 1, 40), (40, .iload_n 1, 1, 41), (41, .iload_n 3, 1, 42), (42, .invokevirtual 226, 3, 45), (45, .ifCond .le 25, 3, 48), (48, .aload_n 0, 1, 49), (49, .iload_n 3, 1, 50), (50, .iload_n 2, 1, 51), (51, .invokevirtual 226, 3, 54), (54, .ifCond .le 16, 3, 57), (57, .aload_n 0, 1, 58), (58, .iload_n 2, 1, 59), (59, .iload_n 1, 1, 60), (60, .invokevirtual 226, 3, 63), (63, .ifCond .le 7, 3, 66), (66, .iconst 1, 1, 67), (67, .goto 4, 3, 70), (70, .iconst 0, 1, 71), (71, .ireturn, 1, 72)])
theorem ok_M_isRing : zOK m_M_isRing := ⟨by decide +kernel, by decide +kernel, rfl, by decide +kernel⟩
def m_M_ringsOf : zMth := (RX11, yX11_ringsOf, cX11_ringsOf, 9, (some .int), 3, 75, [(0, .aload_n 0, 1, 1), (1, .iload_n 1, 1, 2), (2, .invokevirtual 216, 3, 5), (5, .iconst 0, 1, 6), (6, .istore_n 3, 1, 7), (7, .iconst (-1), 1, 8), (8, .istore 4, 2, 10), (10, .iconst 0, 1, 11), (11, .istore 5, 2, 13), (13, .iload 5, 2, 15), (15, .sipush 512, 3, 18), (18, .if_icmp .ge 85, 3, 21), (21, .iload 5, 2, 23), (23, .bipush 64, 2, 25), (25, .idiv, 1, 26), (26, .istore 6, 2, 28), (28, .iload 5, 2, 30), (30, .bipush 8, 2, 32), (32, .idiv, 1, 33), (33, .bipush 8, 2, 35), (35, .irem, 1, 36), (36, .istore 7, 2, 38), (38, .iload 5, 2, 40), (40, .bipush 8, 2, 42), (42, .irem, 1, 43), (43, .istore 8, 2, 45), (45, .iload 6, 2, 47), (47, .iload 7, 2, 49), (49, .if_icmp .ge 48, 3, 52), (52, .iload 7, 2, 54), (54, .iload 8, 2, 56), (56, .if_icmp .ge 41, 3, 59), (59, .iload 8, 2, 61), (61, .aload_n 0, 1, 62), (62, .getfield 109, 3, 65), (65, .if_icmp .ge 32, 3, 68), (68, .aload_n 0, 1, 69), (69, .iload 6, 2, 71), (71, .iload 7, 2, 73), (73, .iload 8, 2, 75), (75, .invokevirtual 238, 3, 78), (78, .ifCond .eq 19, 3, 81), (81, .iload_n 3, 1, 82), (82, .ifCond .ne 8, 3, 85), (85, .iload 5, 2, 87), (87, .goto 5, 3, 90), (90, .iload 4, 2, 92), (92, .istore 4, 2, 94), (94, .iinc 3 1, 3, 97), (97, .iinc 5 1, 3, 100), (100, .goto (-87), 3, 103), (103, .iload_n 2, 1, 104), (104, .ifCond .ne 7, 3, 107), (107, .iload_n 3, 1, 108), (108, .goto 5, 3, 111), (111, .iload 4, 2, 113), (113, .ireturn, 1, 114)])
theorem ok_M_ringsOf : zOK m_M_ringsOf := ⟨by decide +kernel, by decide +kernel, rfl, by decide +kernel⟩
def m_M_rings : zMth := (RX11, yX11_rings, cX11_rings, 3, (some .int), 4, 103, [(0, .aload_n 0, 1, 1), (1, .invokevirtual 140, 3, 4), (4, .iload_n 1, 1, 5), (5, .invokestatic 157, 3, 8), (8, .ifCond .eq 19, 3, 11), (11, .iload_n 2, 1, 12), (12, .invokestatic 98, 3, 15), (15, .ifCond .eq 12, 3, 18), (18, .aload_n 0, 1, 19), (19, .iload_n 1, 1, 20), (20, .iload_n 2, 1, 21), (21, .invokevirtual 241, 3, 24), (24, .goto 5, 3, 27), (27, .bipush (-2), 2, 29), (29, .ireturn, 1, 30)])
theorem ok_M_rings : zOK m_M_rings := ⟨by decide +kernel, by decide +kernel, rfl, by decide +kernel⟩
def m_M_isShaded : zMth := (RX11, yX11_isShaded, cX11_isShaded, 7, (some .boolean), 3, 75, [(0, .aload_n 0, 1, 1), (1, .getfield 154, 3, 4), (4, .istore_n 2, 1, 5), (5, .iload_n 1, 1, 6), (6, .ifCond .ne 7, 3, 9), (9, .iconst 1, 1, 10), (10, .goto 16, 3, 13), (13, .iload_n 1, 1, 14), (14, .iconst 1, 1, 15), (15, .if_icmp .ne 8, 3, 18), (18, .bipush 96, 2, 20), (20, .goto 6, 3, 23), (23, .sipush 9216, 3, 26), (26, .istore_n 3, 1, 27), (27, .iconst 0, 1, 28), (28, .istore 4, 2, 30), (30, .iload 4, 2, 32), (32, .iload_n 3, 1, 33), (33, .if_icmp .ge 166, 3, 36), (36, .aload_n 0, 1, 37), (37, .getfield 52, 3, 40), (40, .iconst 0, 1, 41), (41, .iload_n 1, 1, 42), (42, .iconst 2, 1, 43), (43, .if_icmp .ne 11, 3, 46), (46, .iload 4, 2, 48), (48, .bipush 96, 2, 50), (50, .idiv, 1, 51), (51, .goto 5, 3, 54), (54, .iload 4, 2, 56), (56, .iastore, 1, 57), (57, .aload_n 0, 1, 58), (58, .getfield 52, 3, 61), (61, .iconst 1, 1, 62), (62, .iload 4, 2, 64), (64, .bipush 96, 2, 66), (66, .irem, 1, 67), (67, .iastore, 1, 68), (68, .iload_n 1, 1, 69), (69, .iconst 2, 1, 70), (70, .if_icmp .lt 18, 3, 73), (73, .aload_n 0, 1, 74), (74, .getfield 52, 3, 77), (77, .iconst 0, 1, 78), (78, .iaload, 1, 79), (79, .aload_n 0, 1, 80), (80, .getfield 52, 3, 83), (83, .iconst 1, 1, 84), (84, .iaload, 1, 85), (85, .if_icmp .ge 7, 3, 88), (88, .iconst 1, 1, 89), (89, .goto 4, 3, 92), (92, .iconst 0, 1, 93), (93, .istore 5, 2, 95), (95, .iconst 0, 1, 96), (96, .istore 6, 2, 98), (98, .iload 6, 2, 100), (100, .iload_n 1, 1, 101), (101, .if_icmp .ge 62, 3, 104), (104, .iload 5, 2, 106), (106, .ifCond .eq 57, 3, 109), (109, .aload_n 0, 1, 110), (110, .getfield 52, 3, 113), (113, .iload 6, 2, 115), (115, .iaload, 1, 116), (116, .bipush 8, 2, 118), (118, .irem, 1, 119), (119, .aload_n 0, 1, 120), (120, .getfield 109, 3, 123), (123, .if_icmp .ge 7, 3, 126), (126, .iconst 1, 1, 127), (127, .goto 4, 3, 130), (130, .iconst 0, 1, 131), (131, .istore 5, 2, 133), (133, .aload_n 0, 1, 134), (134, .aload_n 0, 1, 135), (135, .getfield 52, 3, 138), (138, .iload 6, 2, 140), (140, .iaload, 1, 141), (141, .bipush 8, 2, 143), (143, .idiv, 1, 144), (144, .aload_n 0, 1, 145), (145, .getfield 52, 3, 148), (148, .iload 6, 2, 150), (150, .iaload, 1, 151), (151, .bipush 8, 2, 153), (153, .irem, 1, 154), (154, .invokevirtual 160, 3, 157), (157, .iinc 6 1, 3, 160), (160, .goto (-62), 3, 163), (163, .iload 5, 2, 165), (165, .ifCond .eq 9, 3, 168), (168, .aload_n 0, 1, 169), (169, .bipush 11, 2, 171), (171, .invokevirtual 216, 3, 174), (174, .aload_n 0, 1, 175), (175, .iload_n 2, 1, 176), (176, .putfield 154, 3, 179), (179, .iload 5, 2, 181), (181, .ifCond .eq 12, 3, 184), (184, .aload_n 0, 1, 185), (185, .getfield 182, 3, 188), (188, .ifCond .ne 5, 3, 191), (191, .iconst 1, 1, 192), (192, .ireturn, 1, 193), (193, .iinc 4 1, 3, 196), (196, .goto (-166), 3, 199), (199, .iconst 0, 1, 200), (200, .ireturn, 1, 201)])
theorem ok_M_isShaded : zOK m_M_isShaded := ⟨by decide +kernel, by decide +kernel, rfl, by decide +kernel⟩
def m_M_shadeOf : zMth := (RX11, yX11_shadeOf, cX11_shadeOf, 3, (some .int), 4, 101, [(0, .iconst 0, 1, 1), (1, .istore_n 2, 1, 2), (2, .iload_n 2, 1, 3), (3, .iconst 3, 1, 4), (4, .if_icmp .ge 42, 3, 7), (7, .aload_n 0, 1, 8), (8, .iload_n 2, 1, 9), (9, .invokevirtual 244, 3, 12), (12, .ifCond .eq 28, 3, 15), (15, .iload_n 1, 1, 16), (16, .iconst (-1), 1, 17), (17, .if_icmp .ne 7, 3, 20), (20, .iload_n 2, 1, 21), (21, .goto 18, 3, 24), (24, .iload_n 1, 1, 25), (25, .iload_n 2, 1, 26), (26, .if_icmp .ge 12, 3, 29), (29, .aload_n 0, 1, 30), (30, .getfield 52, 3, 33), (33, .iload_n 1, 1, 34), (34, .iaload, 1, 35), (35, .goto 4, 3, 38), (38, .iconst (-1), 1, 39), (39, .ireturn, 1, 40), (40, .iinc 2 1, 3, 43), (43, .goto (-41), 3, 46), (46, .iconst (-1), 1, 47), (47, .ireturn, 1, 48)])
theorem ok_M_shadeOf : zOK m_M_shadeOf := ⟨by decide +kernel, by decide +kernel, rfl, by decide +kernel⟩
def m_M_shade : zMth := (RX11, yX11_shade, cX11_shade, 2, (some .int), 5, 123, [(0, .aload_n 0, 1, 1), (1, .invokevirtual 140, 3, 4), (4, .iload_n 1, 1, 5), (5, .i2l, 1, 6), (6, .ldc2_w 247, 3, 9), (9, .lconst 1, 1, 10), (10, .invokestatic 70, 3, 13), (13, .ifCond .eq 11, 3, 16), (16, .aload_n 0, 1, 17), (17, .iload_n 1, 1, 18), (18, .invokevirtual 249, 3, 21), (21, .goto 5, 3, 24), (24, .bipush (-2), 2, 26), (26, .ireturn, 1, 27)])
theorem ok_M_shade : zOK m_M_shade := ⟨by decide +kernel, by decide +kernel, rfl, by decide +kernel⟩
def m_M_strollOf : zMth := (RX11, yX11_strollOf, cX11_strollOf, 10, (some .int), 3, 75, [(0, .iconst (-1), 1, 1), (1, .istore 4, 2, 3), (3, .iconst 0, 1, 4), (4, .istore 5, 2, 6), (6, .iconst 0, 1, 7), (7, .istore 6, 2, 9), (9, .aload_n 0, 1, 10), (10, .iload_n 1, 1, 11), (11, .putfield 65, 3, 14), (14, .iconst 0, 1, 15), (15, .istore 7, 2, 17), (17, .iload 7, 2, 19), (19, .sipush 729, 3, 22), (22, .if_icmp .ge 174, 3, 25), (25, .aload_n 0, 1, 26), (26, .getfield 49, 3, 29), (29, .iconst 0, 1, 30), (30, .iload 7, 2, 32), (32, .bipush 81, 2, 34), (34, .idiv, 1, 35), (35, .iastore, 1, 36), (36, .aload_n 0, 1, 37), (37, .getfield 49, 3, 40), (40, .iconst 1, 1, 41), (41, .iload 7, 2, 43), (43, .bipush 9, 2, 45), (45, .idiv, 1, 46), (46, .bipush 9, 2, 48), (48, .irem, 1, 49), (49, .iastore, 1, 50), (50, .aload_n 0, 1, 51), (51, .getfield 49, 3, 54), (54, .iconst 2, 1, 55), (55, .iload 7, 2, 57), (57, .bipush 9, 2, 59), (59, .irem, 1, 60), (60, .iastore, 1, 61), (61, .aload_n 0, 1, 62), (62, .getfield 49, 3, 65), (65, .iconst 0, 1, 66), (66, .iaload, 1, 67), (67, .iload_n 2, 1, 68), (68, .if_icmp .eq 23, 3, 71), (71, .aload_n 0, 1, 72), (72, .getfield 49, 3, 75), (75, .iconst 1, 1, 76), (76, .iaload, 1, 77), (77, .iload_n 2, 1, 78), (78, .if_icmp .eq 13, 3, 81), (81, .aload_n 0, 1, 82), (82, .getfield 49, 3, 85), (85, .iconst 2, 1, 86), (86, .iaload, 1, 87), (87, .iload_n 2, 1, 88), (88, .if_icmp .ne 102, 3, 91), (91, .aload_n 0, 1, 92), (92, .bipush 11, 2, 94), (94, .invokevirtual 216, 3, 97), (97, .aload_n 0, 1, 98), (98, .getfield 182, 3, 101), (101, .invokestatic 252, 3, 104), (104, .istore 8, 2, 106), (106, .iload 4, 2, 108), (108, .iconst (-1), 1, 109), (109, .if_icmp .eq 28, 3, 112), (112, .iload 8, 2, 114), (114, .iload 5, 2, 116), (116, .if_icmp .lt 21, 3, 119), (119, .iload 8, 2, 121), (121, .iload 5, 2, 123), (123, .if_icmp .ne 18, 3, 126), (126, .aload_n 0, 1, 127), (127, .getfield 46, 3, 130), (130, .iload_n 1, 1, 131), (131, .iaload, 1, 132), (132, .iload 6, 2, 134), (134, .if_icmp .ge 7, 3, 137), (137, .iconst 1, 1, 138), (138, .goto 4, 3, 141), (141, .iconst 0, 1, 142), (142, .istore 9, 2, 144), (144, .iload 9, 2, 146), (146, .ifCond .eq 8, 3, 149), (149, .iload 7, 2, 151), (151, .goto 5, 3, 154), (154, .iload 4, 2, 156), (156, .istore 4, 2, 158), (158, .iload 9, 2, 160), (160, .ifCond .eq 8, 3, 163), (163, .iload 8, 2, 165), (165, .goto 5, 3, 168), (168, .iload 5, 2, 170), (170, .istore 5, 2, 172), (172, .iload 9, 2, 174), (174, .ifCond .eq 12, 3, 177), (177, .aload_n 0, 1, 178), (178, .getfield 46, 3, 181), (181, .iload_n 1, 1, 182), (182, .iaload, 1, 183), (183, .goto 5, 3, 186), (186, .iload 6, 2, 188), (188, .istore 6, 2, 190), (190, .iinc 7 1, 3, 193), (193, .goto (-176), 3, 196), (196, .aload_n 0, 1, 197), (197, .iconst (-1), 1, 198), (198, .putfield 65, 3, 201), (201, .iload_n 3, 1, 202), (202, .iconst (-1), 1, 203), (203, .if_icmp .ne 8, 3, 206), (206, .iload 5, 2, 208), (208, .goto 36, 3, 211), (211, .iload_n 3, 1, 212), (212, .ifCond .ne 11, 3, 215), (215, .iload 4, 2, 217), (217, .bipush 81, 2, 219), (219, .idiv, 1, 220), (220, .goto 24, 3, 223), (223, .iload_n 3, 1, 224), (224, .iconst 1, 1, 225), (225, .if_icmp .ne 14, 3, 228), (228, .iload 4, 2, 230), (230, .bipush 9, 2, 232), (232, .idiv, 1, 233), (233, .bipush 9, 2, 235), (235, .irem, 1, 236), (236, .goto 8, 3, 239), (239, .iload 4, 2, 241), (241, .bipush 9, 2, 243), (243, .irem, 1, 244), (244, .ireturn, 1, 245)])
theorem ok_M_strollOf : zOK m_M_strollOf := ⟨by decide +kernel, by decide +kernel, rfl, by decide +kernel⟩
def m_M_stroll : zMth := (RX11, yX11_stroll, cX11_stroll, 4, (some .int), 4, 104, [(0, .aload_n 0, 1, 1), (1, .invokevirtual 140, 3, 4), (4, .aload_n 0, 1, 5), (5, .iload_n 1, 1, 6), (6, .invokevirtual 143, 3, 9), (9, .ifCond .eq 39, 3, 12), (12, .iload_n 2, 1, 13), (13, .i2l, 1, 14), (14, .lconst 0, 1, 15), (15, .ldc2_w 136, 3, 18), (18, .invokestatic 70, 3, 21), (21, .ifCond .eq 27, 3, 24), (24, .iload_n 3, 1, 25), (25, .i2l, 1, 26), (26, .ldc2_w 247, 3, 29), (29, .ldc2_w 83, 3, 32), (32, .invokestatic 70, 3, 35), (35, .ifCond .eq 13, 3, 38), (38, .aload_n 0, 1, 39), (39, .iload_n 1, 1, 40), (40, .iload_n 2, 1, 41), (41, .iload_n 3, 1, 42), (42, .invokevirtual 255, 3, 45), (45, .goto 5, 3, 48), (48, .bipush (-2), 2, 50), (50, .ireturn, 1, 51)])
theorem ok_M_stroll : zOK m_M_stroll := ⟨by decide +kernel, by decide +kernel, rfl, by decide +kernel⟩
def m_M_seen : zMth := (RX11, yX11_seen, cX11_seen, 4, (some .int), 2, 45, [(0, .iload_n 1, 1, 1), (1, .invokestatic 157, 3, 4), (4, .ifCond .eq 22, 3, 7), (7, .iload_n 2, 1, 8), (8, .invokestatic 146, 3, 11), (11, .ifCond .eq 15, 3, 14), (14, .iload_n 3, 1, 15), (15, .i2l, 1, 16), (16, .lconst 0, 1, 17), (17, .ldc2_w 149, 3, 20), (20, .invokestatic 70, 3, 23), (23, .ifCond .ne 6, 3, 26), (26, .bipush (-2), 2, 28), (28, .ireturn, 1, 29), (29, .aload_n 0, 1, 30), (30, .getfield 258, 3, 33), (33, .bipush 8, 2, 35), (35, .if_icmp .ne 6, 3, 38), (38, .bipush (-4), 2, 40), (40, .ireturn, 1, 41), (41, .aload_n 0, 1, 42), (42, .getfield 55, 3, 45), (45, .iconst 3, 1, 46), (46, .aload_n 0, 1, 47), (47, .getfield 258, 3, 50), (50, .imul, 1, 51), (51, .iload_n 1, 1, 52), (52, .iastore, 1, 53), (53, .aload_n 0, 1, 54), (54, .getfield 55, 3, 57), (57, .iconst 3, 1, 58), (58, .aload_n 0, 1, 59), (59, .getfield 258, 3, 62), (62, .imul, 1, 63), (63, .iconst 1, 1, 64), (64, .iadd, 1, 65), (65, .iload_n 2, 1, 66), (66, .iastore, 1, 67), (67, .aload_n 0, 1, 68), (68, .getfield 55, 3, 71), (71, .iconst 3, 1, 72), (72, .aload_n 0, 1, 73), (73, .getfield 258, 3, 76), (76, .imul, 1, 77), (77, .iconst 2, 1, 78), (78, .iadd, 1, 79), (79, .iload_n 3, 1, 80), (80, .iastore, 1, 81), (81, .aload_n 0, 1, 82), (82, .dup, 1, 83), (83, .getfield 258, 3, 86), (86, .iconst 1, 1, 87), (87, .iadd, 1, 88), (88, .putfield 258, 3, 91), (91, .aload_n 0, 1, 92), (92, .getfield 258, 3, 95), (95, .ireturn, 1, 96)])
theorem ok_M_seen : zOK m_M_seen := ⟨by decide +kernel, by decide +kernel, rfl, by decide +kernel⟩
def m_M_forget : zMth := (RX11, yX11_forget, cX11_forget, 2, (some .int), 0, 0, [(0, .aload_n 0, 1, 1), (1, .getfield 258, 3, 4), (4, .istore_n 1, 1, 5), (5, .aload_n 0, 1, 6), (6, .iconst 0, 1, 7), (7, .putfield 258, 3, 10), (10, .iload_n 1, 1, 11), (11, .ireturn, 1, 12)])
theorem ok_M_forget : zOK m_M_forget := ⟨by decide +kernel, by decide +kernel, rfl, by decide +kernel⟩
def m_M_isSeen : zMth := (RX11, yX11_isSeen, cX11_isSeen, 3, (some .boolean), 4, 97, [(0, .iconst 1, 1, 1), (1, .istore_n 1, 1, 2), (2, .iconst 0, 1, 3), (3, .istore_n 2, 1, 4), (4, .iload_n 2, 1, 5), (5, .aload_n 0, 1, 6), (6, .getfield 258, 3, 9), (9, .if_icmp .ge 71, 3, 12), (12, .iload_n 1, 1, 13), (13, .ifCond .eq 67, 3, 16), (16, .aload_n 0, 1, 17), (17, .aload_n 0, 1, 18), (18, .getfield 55, 3, 21), (21, .iconst 3, 1, 22), (22, .iload_n 2, 1, 23), (23, .imul, 1, 24), (24, .iconst 1, 1, 25), (25, .iadd, 1, 26), (26, .iaload, 1, 27), (27, .invokevirtual 143, 3, 30), (30, .ifCond .eq 42, 3, 33), (33, .aload_n 0, 1, 34), (34, .aload_n 0, 1, 35), (35, .getfield 55, 3, 38), (38, .iconst 3, 1, 39), (39, .iload_n 2, 1, 40), (40, .imul, 1, 41), (41, .iaload, 1, 42), (42, .aload_n 0, 1, 43), (43, .getfield 55, 3, 46), (46, .iconst 3, 1, 47), (47, .iload_n 2, 1, 48), (48, .imul, 1, 49), (49, .iconst 1, 1, 50), (50, .iadd, 1, 51), (51, .iaload, 1, 52), (52, .invokevirtual 220, 3, 55), (55, .aload_n 0, 1, 56), (56, .getfield 55, 3, 59), (59, .iconst 3, 1, 60), (60, .iload_n 2, 1, 61), (61, .imul, 1, 62), (62, .iconst 2, 1, 63), (63, .iadd, 1, 64), (64, .iaload, 1, 65), (65, .if_icmp .ne 7, 3, 68), (68, .iconst 1, 1, 69), (69, .goto 4, 3, 72), (72, .iconst 0, 1, 73), (73, .istore_n 1, 1, 74), (74, .iinc 2 1, 3, 77), (77, .goto (-73), 3, 80), (80, .iload_n 1, 1, 81), (81, .ireturn, 1, 82)])
theorem ok_M_isSeen : zOK m_M_isSeen := ⟨by decide +kernel, by decide +kernel, rfl, by decide +kernel⟩
def m_M_neverOf : zMth := (RX11, yX11_neverOf, cX11_neverOf, 4, (some .int), 5, 119, [(0, .iconst 0, 1, 1), (1, .istore_n 2, 1, 2), (2, .iconst 0, 1, 3), (3, .istore_n 3, 1, 4), (4, .iload_n 3, 1, 5), (5, .iload_n 1, 1, 6), (6, .ifCond .ne 10, 3, 9), (9, .aload_n 0, 1, 10), (10, .getfield 151, 3, 13), (13, .goto 7, 3, 16), (16, .aload_n 0, 1, 17), (17, .getfield 154, 3, 20), (20, .if_icmp .ge 55, 3, 23), (23, .aload_n 0, 1, 24), (24, .iload_n 1, 1, 25), (25, .ifCond .ne 7, 3, 28), (28, .iload_n 3, 1, 29), (29, .goto 4, 3, 32), (32, .iconst (-1), 1, 33), (33, .putfield 61, 3, 36), (36, .aload_n 0, 1, 37), (37, .iload_n 1, 1, 38), (38, .iconst 1, 1, 39), (39, .if_icmp .ne 9, 3, 42), (42, .iconst 1, 1, 43), (43, .iload_n 3, 1, 44), (44, .ishl, 1, 45), (45, .goto 4, 3, 48), (48, .iconst 0, 1, 49), (49, .putfield 169, 3, 52), (52, .iload_n 2, 1, 53), (53, .aload_n 0, 1, 54), (54, .invokevirtual 261, 3, 57), (57, .ifCond .eq 9, 3, 60), (60, .iconst 1, 1, 61), (61, .iload_n 3, 1, 62), (62, .ishl, 1, 63), (63, .goto 4, 3, 66), (66, .iconst 0, 1, 67), (67, .ior, 1, 68), (68, .istore_n 2, 1, 69), (69, .iinc 3 1, 3, 72), (72, .goto (-68), 3, 75), (75, .aload_n 0, 1, 76), (76, .iconst (-1), 1, 77), (77, .putfield 61, 3, 80), (80, .aload_n 0, 1, 81), (81, .iconst 0, 1, 82), (82, .putfield 169, 3, 85), (85, .iload_n 2, 1, 86), (86, .ireturn, 1, 87)])
theorem ok_M_neverOf : zOK m_M_neverOf := ⟨by decide +kernel, by decide +kernel, rfl, by decide +kernel⟩
def m_M_never : zMth := (RX11, yX11_never, cX11_never, 2, (some .int), 6, 142, [(0, .aload_n 0, 1, 1), (1, .invokevirtual 140, 3, 4), (4, .iload_n 1, 1, 5), (5, .invokestatic 98, 3, 8), (8, .ifCond .eq 11, 3, 11), (11, .aload_n 0, 1, 12), (12, .iload_n 1, 1, 13), (13, .invokevirtual 265, 3, 16), (16, .goto 5, 3, 19), (19, .bipush (-2), 2, 21), (21, .ireturn, 1, 22)])
theorem ok_M_never : zOK m_M_never := ⟨by decide +kernel, by decide +kernel, rfl, by decide +kernel⟩
def m_M_mostAlike : zMth := (RX11, yX11_mostAlike, cX11_mostAlike, 7, (some .int), 1, 21, [(0, .iconst 0, 1, 1), (1, .istore_n 3, 1, 2), (2, .iconst 0, 1, 3), (3, .istore 4, 2, 5), (5, .iload 4, 2, 7), (7, .aload_n 0, 1, 8), (8, .getfield 151, 3, 11), (11, .if_icmp .ge 92, 3, 14), (14, .iconst 0, 1, 15), (15, .istore 5, 2, 17), (17, .iconst 0, 1, 18), (18, .istore 6, 2, 20), (20, .iload 6, 2, 22), (22, .aload_n 0, 1, 23), (23, .getfield 151, 3, 26), (26, .if_icmp .ge 64, 3, 29), (29, .iload 5, 2, 31), (31, .iload_n 2, 1, 32), (32, .iload 4, 2, 34), (34, .invokestatic 172, 3, 37), (37, .ifCond .eq 43, 3, 40), (40, .iload_n 2, 1, 41), (41, .iload 6, 2, 43), (43, .invokestatic 172, 3, 46), (46, .ifCond .eq 34, 3, 49), (49, .aload_n 0, 1, 50), (50, .getfield 58, 3, 53), (53, .bipush 8, 2, 55), (55, .iload 4, 2, 57), (57, .imul, 1, 58), (58, .iload_n 1, 1, 59), (59, .iadd, 1, 60), (60, .iaload, 1, 61), (61, .aload_n 0, 1, 62), (62, .getfield 58, 3, 65), (65, .bipush 8, 2, 67), (67, .iload 6, 2, 69), (69, .imul, 1, 70), (70, .iload_n 1, 1, 71), (71, .iadd, 1, 72), (72, .iaload, 1, 73), (73, .if_icmp .ne 7, 3, 76), (76, .iconst 1, 1, 77), (77, .goto 4, 3, 80), (80, .iconst 0, 1, 81), (81, .iadd, 1, 82), (82, .istore 5, 2, 84), (84, .iinc 6 1, 3, 87), (87, .goto (-67), 3, 90), (90, .iload 5, 2, 92), (92, .iload_n 3, 1, 93), (93, .invokestatic 179, 3, 96), (96, .istore_n 3, 1, 97), (97, .iinc 4 1, 3, 100), (100, .goto (-95), 3, 103), (103, .iload_n 3, 1, 104), (104, .ireturn, 1, 105)])
theorem ok_M_mostAlike : zOK m_M_mostAlike := ⟨by decide +kernel, by decide +kernel, rfl, by decide +kernel⟩
def m_M_passNow : zMth := (RX11, yX11_passNow, cX11_passNow, 7, (some .int), 6, 142, [(0, .aload_n 0, 1, 1), (1, .iconst 0, 1, 2), (2, .invokevirtual 265, 3, 5), (5, .istore_n 1, 1, 6), (6, .iconst 0, 1, 7), (7, .istore_n 2, 1, 8), (8, .iload_n 2, 1, 9), (9, .aload_n 0, 1, 10), (10, .getfield 151, 3, 13), (13, .if_icmp .ge 53, 3, 16), (16, .aload_n 0, 1, 17), (17, .iload_n 2, 1, 18), (18, .putfield 61, 3, 21), (21, .aload_n 0, 1, 22), (22, .bipush 11, 2, 24), (24, .invokevirtual 216, 3, 27), (27, .iconst 0, 1, 28), (28, .istore_n 3, 1, 29), (29, .iload_n 3, 1, 30), (30, .aload_n 0, 1, 31), (31, .getfield 109, 3, 34), (34, .if_icmp .ge 26, 3, 37), (37, .aload_n 0, 1, 38), (38, .getfield 58, 3, 41), (41, .bipush 8, 2, 43), (43, .iload_n 2, 1, 44), (44, .imul, 1, 45), (45, .iload_n 3, 1, 46), (46, .iadd, 1, 47), (47, .aload_n 0, 1, 48), (48, .getfield 46, 3, 51), (51, .iload_n 3, 1, 52), (52, .iaload, 1, 53), (53, .iastore, 1, 54), (54, .iinc 3 1, 3, 57), (57, .goto (-28), 3, 60), (60, .iinc 2 1, 3, 63), (63, .goto (-55), 3, 66), (66, .aload_n 0, 1, 67), (67, .iconst (-1), 1, 68), (68, .putfield 61, 3, 71), (71, .iconst (-1), 1, 72), (72, .istore_n 2, 1, 73), (73, .iconst 0, 1, 74), (74, .istore_n 3, 1, 75), (75, .iconst 0, 1, 76), (76, .istore 4, 2, 78), (78, .iload 4, 2, 80), (80, .aload_n 0, 1, 81), (81, .getfield 109, 3, 84), (84, .if_icmp .ge 60, 3, 87), (87, .aload_n 0, 1, 88), (88, .iload 4, 2, 90), (90, .iload_n 1, 1, 91), (91, .invokevirtual 268, 3, 94), (94, .istore 5, 2, 96), (96, .iload_n 2, 1, 97), (97, .iconst (-1), 1, 98), (98, .if_icmp .eq 9, 3, 101), (101, .iload 5, 2, 103), (103, .iload_n 3, 1, 104), (104, .if_icmp .ge 7, 3, 107), (107, .iconst 1, 1, 108), (108, .goto 4, 3, 111), (111, .iconst 0, 1, 112), (112, .istore 6, 2, 114), (114, .iload 6, 2, 116), (116, .ifCond .eq 8, 3, 119), (119, .iload 4, 2, 121), (121, .goto 4, 3, 124), (124, .iload_n 2, 1, 125), (125, .istore_n 2, 1, 126), (126, .iload 6, 2, 128), (128, .ifCond .eq 8, 3, 131), (131, .iload 5, 2, 133), (133, .goto 4, 3, 136), (136, .iload_n 3, 1, 137), (137, .istore_n 3, 1, 138), (138, .iinc 4 1, 3, 141), (141, .goto (-63), 3, 144), (144, .iload_n 2, 1, 145), (145, .ireturn, 1, 146)])
theorem ok_M_passNow : zOK m_M_passNow := ⟨by decide +kernel, by decide +kernel, rfl, by decide +kernel⟩
def m_M_pass : zMth := (RX11, yX11_pass, cX11_pass, 1, (some .int), 7, 168, [(0, .aload_n 0, 1, 1), (1, .invokevirtual 140, 3, 4), (4, .aload_n 0, 1, 5), (5, .invokevirtual 271, 3, 8), (8, .ireturn, 1, 9)])
theorem ok_M_pass : zOK m_M_pass := ⟨by decide +kernel, by decide +kernel, rfl, by decide +kernel⟩
def m_M_forgetsOf : zMth := (RX11, yX11_forgetsOf, cX11_forgetsOf, 13, (some .long), 3, 75, [(0, .lconst 0, 1, 1), (1, .lstore 5, 2, 3), (3, .lconst 1, 1, 4), (4, .lstore 7, 2, 6), (6, .iconst 0, 1, 7), (7, .istore 9, 2, 9), (9, .iload 9, 2, 11), (11, .aload_n 0, 1, 12), (12, .getfield 154, 3, 15), (15, .if_icmp .ge 17, 3, 18), (18, .lload 7, 2, 20), (20, .ldc2_w 274, 3, 23), (23, .lmul, 1, 24), (24, .lstore 7, 2, 26), (26, .iinc 9 1, 3, 29), (29, .goto (-20), 3, 32), (32, .iconst 0, 1, 33), (33, .istore 9, 2, 35), (35, .iload 9, 2, 37), (37, .iconst 1, 1, 38), (38, .aload_n 0, 1, 39), (39, .getfield 154, 3, 42), (42, .ishl, 1, 43), (43, .if_icmp .ge 84, 3, 46), (46, .aload_n 0, 1, 47), (47, .iload 9, 2, 49), (49, .putfield 169, 3, 52), (52, .aload_n 0, 1, 53), (53, .iload_n 2, 1, 54), (54, .invokevirtual 216, 3, 57), (57, .aload_n 0, 1, 58), (58, .getfield 182, 3, 61), (61, .iload_n 3, 1, 62), (62, .invokestatic 172, 3, 65), (65, .ifCond .eq 56, 3, 68), (68, .lconst 1, 1, 69), (69, .lstore 10, 2, 71), (71, .iconst 0, 1, 72), (72, .istore 12, 2, 74), (74, .iload 12, 2, 76), (76, .aload_n 0, 1, 77), (77, .getfield 154, 3, 80), (80, .if_icmp .ge 34, 3, 83), (83, .lload 10, 2, 85), (85, .iload 9, 2, 87), (87, .iload 12, 2, 89), (89, .invokestatic 172, 3, 92), (92, .ifCond .eq 8, 3, 95), (95, .iload_n 1, 1, 96), (96, .i2l, 1, 97), (97, .goto 8, 3, 100), (100, .bipush 16, 2, 102), (102, .iload_n 1, 1, 103), (103, .isub, 1, 104), (104, .i2l, 1, 105), (105, .lmul, 1, 106), (106, .lstore 10, 2, 108), (108, .iinc 12 1, 3, 111), (111, .goto (-37), 3, 114), (114, .lload 5, 2, 116), (116, .lload 10, 2, 118), (118, .ladd, 1, 119), (119, .lstore 5, 2, 121), (121, .iinc 9 1, 3, 124), (124, .goto (-89), 3, 127), (127, .aload_n 0, 1, 128), (128, .iconst 0, 1, 129), (129, .putfield 169, 3, 132), (132, .lload 5, 2, 134), (134, .lload 7, 2, 136), (136, .iload 4, 2, 138), (138, .invokestatic 276, 3, 141), (141, .lreturn, 1, 142)])
theorem ok_M_forgetsOf : zOK m_M_forgetsOf := ⟨by decide +kernel, by decide +kernel, rfl, by decide +kernel⟩
def m_M_forgets : zMth := (RX11, yX11_forgets, cX11_forgets, 5, (some .long), 4, 107, [(0, .aload_n 0, 1, 1), (1, .invokevirtual 140, 3, 4), (4, .iload_n 1, 1, 5), (5, .i2l, 1, 6), (6, .lconst 0, 1, 7), (7, .ldc2_w 274, 3, 10), (10, .invokestatic 70, 3, 13), (13, .ifCond .eq 38, 3, 16), (16, .iload_n 2, 1, 17), (17, .invokestatic 157, 3, 20), (20, .ifCond .eq 31, 3, 23), (23, .aload_n 0, 1, 24), (24, .iload_n 3, 1, 25), (25, .invokevirtual 143, 3, 28), (28, .ifCond .eq 23, 3, 31), (31, .iload 4, 2, 33), (33, .invokestatic 98, 3, 36), (36, .ifCond .eq 15, 3, 39), (39, .aload_n 0, 1, 40), (40, .iload_n 1, 1, 41), (41, .iload_n 2, 1, 42), (42, .iload_n 3, 1, 43), (43, .iload 4, 2, 45), (45, .invokevirtual 280, 3, 48), (48, .goto 8, 3, 51), (51, .bipush (-2), 2, 53), (53, .invokestatic 284, 3, 56), (56, .lreturn, 1, 57)])
theorem ok_M_forgets : zOK m_M_forgets := ⟨by decide +kernel, by decide +kernel, rfl, by decide +kernel⟩
def m_M_lot : zMth := (RX11, yX11_lot, cX11_lot, 2, (some .int), 0, 0, [(0, .aload_n 0, 1, 1), (1, .ldc_w 288, 3, 4), (4, .aload_n 0, 1, 5), (5, .getfield 289, 3, 8), (8, .imul, 1, 9), (9, .sipush 12345, 3, 12), (12, .iadd, 1, 13), (13, .putfield 289, 3, 16), (16, .aload_n 0, 1, 17), (17, .getfield 289, 3, 20), (20, .bipush 16, 2, 22), (22, .iushr, 1, 23), (23, .iload_n 1, 1, 24), (24, .irem, 1, 25), (25, .ireturn, 1, 26)])
theorem ok_M_lot : zOK m_M_lot := ⟨by decide +kernel, by decide +kernel, rfl, by decide +kernel⟩
def m_M_seasonOf : zMth := (RX11, yX11_seasonOf, cX11_seasonOf, 9, (some .int), 3, 75, [(0, .aload_n 0, 1, 1), (1, .iload_n 1, 1, 2), (2, .putfield 289, 3, 5), (5, .aload_n 0, 1, 6), (6, .bipush 11, 2, 8), (8, .invokevirtual 216, 3, 11), (11, .iconst 0, 1, 12), (12, .istore 4, 2, 14), (14, .iload 4, 2, 16), (16, .iload_n 2, 1, 17), (17, .if_icmp .ge 83, 3, 20), (20, .aload_n 0, 1, 21), (21, .getfield 109, 3, 24), (24, .ifCond .le 76, 3, 27), (27, .aload_n 0, 1, 28), (28, .aload_n 0, 1, 29), (29, .getfield 109, 3, 32), (32, .invokevirtual 292, 3, 35), (35, .istore 5, 2, 37), (37, .aload_n 0, 1, 38), (38, .aload_n 0, 1, 39), (39, .getfield 109, 3, 42), (42, .invokevirtual 292, 3, 45), (45, .istore 6, 2, 47), (47, .iload 5, 2, 49), (49, .iload 6, 2, 51), (51, .invokestatic 176, 3, 54), (54, .istore 7, 2, 56), (56, .iload 5, 2, 58), (58, .iload 6, 2, 60), (60, .invokestatic 179, 3, 63), (63, .istore 8, 2, 65), (65, .iload 7, 2, 67), (67, .iload 8, 2, 69), (69, .if_icmp .eq 25, 3, 72), (72, .aload_n 0, 1, 73), (73, .iload 7, 2, 75), (75, .iload 8, 2, 77), (77, .invokevirtual 206, 3, 80), (80, .ifCond .eq 14, 3, 83), (83, .aload_n 0, 1, 84), (84, .iload 7, 2, 86), (86, .iload 8, 2, 88), (88, .bipush 11, 2, 90), (90, .invokevirtual 212, 3, 93), (93, .pop, 1, 94), (94, .iinc 4 1, 3, 97), (97, .goto (-83), 3, 100), (100, .iload_n 3, 1, 101), (101, .iconst (-1), 1, 102), (102, .if_icmp .ne 13, 3, 105), (105, .aload_n 0, 1, 106), (106, .getfield 182, 3, 109), (109, .invokestatic 252, 3, 112), (112, .goto 9, 3, 115), (115, .aload_n 0, 1, 116), (116, .getfield 46, 3, 119), (119, .iload_n 3, 1, 120), (120, .iaload, 1, 121), (121, .ireturn, 1, 122)])
theorem ok_M_seasonOf : zOK m_M_seasonOf := ⟨by decide +kernel, by decide +kernel, rfl, by decide +kernel⟩
def m_M_season : zMth := (RX11, yX11_season, cX11_season, 4, (some .int), 4, 103, [(0, .aload_n 0, 1, 1), (1, .invokevirtual 140, 3, 4), (4, .iload_n 2, 1, 5), (5, .i2l, 1, 6), (6, .lconst 1, 1, 7), (7, .ldc2_w 149, 3, 10), (10, .invokestatic 70, 3, 13), (13, .ifCond .eq 26, 3, 16), (16, .iload_n 3, 1, 17), (17, .iconst (-1), 1, 18), (18, .if_icmp .eq 11, 3, 21), (21, .aload_n 0, 1, 22), (22, .iload_n 3, 1, 23), (23, .invokevirtual 143, 3, 26), (26, .ifCond .eq 13, 3, 29), (29, .aload_n 0, 1, 30), (30, .iload_n 1, 1, 31), (31, .iload_n 2, 1, 32), (32, .iload_n 3, 1, 33), (33, .invokevirtual 295, 3, 36), (36, .goto 5, 3, 39), (39, .bipush (-2), 2, 41), (41, .ireturn, 1, 42)])
theorem ok_M_season : zOK m_M_season := ⟨by decide +kernel, by decide +kernel, rfl, by decide +kernel⟩
def m_M_write : zMth := (RX11, yX11_write, cX11_write, 5, (some .int), 4, 90, [(0, .iload_n 1, 1, 1), (1, .invokestatic 157, 3, 4), (4, .ifCond .eq 10, 3, 7), (7, .iload_n 2, 1, 8), (8, .invokestatic 79, 3, 11), (11, .ifCond .ne 6, 3, 14), (14, .bipush (-2), 2, 16), (16, .ireturn, 1, 17), (17, .aload_n 0, 1, 18), (18, .getfield 7, 3, 21), (21, .iload_n 2, 1, 22), (22, .iaload, 1, 23), (23, .ifCond .ge 9, 3, 26), (26, .aload_n 0, 1, 27), (27, .iconst 1, 1, 28), (28, .invokevirtual 85, 3, 31), (31, .ireturn, 1, 32), (32, .aload_n 0, 1, 33), (33, .invokevirtual 140, 3, 36), (36, .aload_n 0, 1, 37), (37, .iload_n 1, 1, 38), (38, .invokevirtual 216, 3, 41), (41, .aload_n 0, 1, 42), (42, .getfield 13, 3, 45), (45, .iload_n 2, 1, 46), (46, .iaload, 1, 47), (47, .aload_n 0, 1, 48), (48, .getfield 109, 3, 51), (51, .invokestatic 176, 3, 54), (54, .istore_n 3, 1, 55), (55, .iconst 0, 1, 56), (56, .istore 4, 2, 58), (58, .iload 4, 2, 60), (60, .iload_n 3, 1, 61), (61, .if_icmp .ge 37, 3, 64), (64, .aload_n 0, 1, 65), (65, .getfield 16, 3, 68), (68, .bipush 60, 2, 70), (70, .iload_n 2, 1, 71), (71, .imul, 1, 72), (72, .iload 4, 2, 74), (74, .iadd, 1, 75), (75, .aload_n 0, 1, 76), (76, .getfield 7, 3, 79), (79, .iload_n 2, 1, 80), (80, .iaload, 1, 81), (81, .aload_n 0, 1, 82), (82, .getfield 46, 3, 85), (85, .iload 4, 2, 87), (87, .iaload, 1, 88), (88, .invokestatic 93, 3, 91), (91, .iastore, 1, 92), (92, .iinc 4 1, 3, 95), (95, .goto (-37), 3, 98), (98, .iload_n 3, 1, 99), (99, .ireturn, 1, 100)])
theorem ok_M_write : zOK m_M_write := ⟨by decide +kernel, by decide +kernel, rfl, by decide +kernel⟩
def m_M_count : zMth := (RX11, yX11_count, cX11_count, 2, (some .int), 4, 97, [(0, .aload_n 0, 1, 1), (1, .invokevirtual 140, 3, 4), (4, .iload_n 1, 1, 5), (5, .tableswitch 98 0 8 #[51, 56, 61, 61, 70, 75, 80, 88, 93], 51, 56), (56, .aload_n 0, 1, 57), (57, .getfield 109, 3, 60), (60, .ireturn, 1, 61), (61, .aload_n 0, 1, 62), (62, .getfield 122, 3, 65), (65, .ireturn, 1, 66), (66, .aload_n 0, 1, 67), (67, .getfield 25, 3, 70), (70, .iload_n 1, 1, 71), (71, .iconst 2, 1, 72), (72, .isub, 1, 73), (73, .iaload, 1, 74), (74, .ireturn, 1, 75), (75, .aload_n 0, 1, 76), (76, .getfield 151, 3, 79), (79, .ireturn, 1, 80), (80, .aload_n 0, 1, 81), (81, .getfield 154, 3, 84), (84, .ireturn, 1, 85), (85, .aload_n 0, 1, 86), (86, .bipush 11, 2, 88), (88, .iconst 1, 1, 89), (89, .invokevirtual 223, 3, 92), (92, .ireturn, 1, 93), (93, .aload_n 0, 1, 94), (94, .getfield 258, 3, 97), (97, .ireturn, 1, 98), (98, .aload_n 0, 1, 99), (99, .getfield 74, 3, 102), (102, .ireturn, 1, 103), (103, .bipush (-2), 2, 105), (105, .ireturn, 1, 106)])
theorem ok_M_count : zOK m_M_count := ⟨by decide +kernel, by decide +kernel, rfl, by decide +kernel⟩
def m_M_tellsPerson : zMth := (RX11, yX11_tellsPerson, cX11_tellsPerson, 7, (some .long), 5, 124, [(0, .lload_n 1, 1, 1), (1, .lstore 4, 2, 3), (3, .iconst 0, 1, 4), (4, .istore 6, 2, 6), (6, .iload 6, 2, 8), (8, .iconst 3, 1, 9), (9, .if_icmp .ge 30, 3, 12), (12, .ldc2_w 298, 3, 15), (15, .lload 4, 2, 17), (17, .lmul, 1, 18), (18, .aload_n 0, 1, 19), (19, .getfield 28, 3, 22), (22, .iconst 3, 1, 23), (23, .iload_n 3, 1, 24), (24, .imul, 1, 25), (25, .iload 6, 2, 27), (27, .iadd, 1, 28), (28, .iaload, 1, 29), (29, .i2l, 1, 30), (30, .ladd, 1, 31), (31, .lstore 4, 2, 33), (33, .iinc 6 1, 3, 36), (36, .goto (-30), 3, 39), (39, .ldc2_w 298, 3, 42), (42, .lload 4, 2, 44), (44, .lmul, 1, 45), (45, .aload_n 0, 1, 46), (46, .iconst 3, 1, 47), (47, .iload_n 3, 1, 48), (48, .invokevirtual 220, 3, 51), (51, .i2l, 1, 52), (52, .ladd, 1, 53), (53, .lstore 4, 2, 55), (55, .ldc2_w 298, 3, 58), (58, .lload 4, 2, 60), (60, .lmul, 1, 61), (61, .aload_n 0, 1, 62), (62, .bipush 11, 2, 64), (64, .iload_n 3, 1, 65), (65, .invokevirtual 220, 3, 68), (68, .i2l, 1, 69), (69, .ladd, 1, 70), (70, .lstore 4, 2, 72), (72, .ldc2_w 298, 3, 75), (75, .lload 4, 2, 77), (77, .lmul, 1, 78), (78, .aload_n 0, 1, 79), (79, .iconst 5, 1, 80), (80, .iconst 0, 1, 81), (81, .iload_n 3, 1, 82), (82, .invokevirtual 300, 3, 85), (85, .i2l, 1, 86), (86, .ladd, 1, 87), (87, .lstore 4, 2, 89), (89, .ldc2_w 298, 3, 92), (92, .lload 4, 2, 94), (94, .lmul, 1, 95), (95, .aload_n 0, 1, 96), (96, .iload_n 3, 1, 97), (97, .iconst 1, 1, 98), (98, .iconst 0, 1, 99), (99, .invokevirtual 303, 3, 102), (102, .i2l, 1, 103), (103, .ladd, 1, 104), (104, .lstore 4, 2, 106), (106, .ldc2_w 298, 3, 109), (109, .lload 4, 2, 111), (111, .lmul, 1, 112), (112, .aload_n 0, 1, 113), (113, .iload_n 3, 1, 114), (114, .iconst 1, 1, 115), (115, .iconst 1, 1, 116), (116, .invokevirtual 303, 3, 119), (119, .i2l, 1, 120), (120, .ladd, 1, 121), (121, .lstore 4, 2, 123), (123, .ldc2_w 298, 3, 126), (126, .lload 4, 2, 128), (128, .lmul, 1, 129), (129, .aload_n 0, 1, 130), (130, .iload_n 3, 1, 131), (131, .iconst 2, 1, 132), (132, .iconst (-1), 1, 133), (133, .invokevirtual 255, 3, 136), (136, .i2l, 1, 137), (137, .ladd, 1, 138), (138, .lstore 4, 2, 140), (140, .ldc2_w 298, 3, 143), (143, .lload 4, 2, 145), (145, .lmul, 1, 146), (146, .aload_n 0, 1, 147), (147, .iload_n 3, 1, 148), (148, .iconst 2, 1, 149), (149, .iconst 0, 1, 150), (150, .invokevirtual 255, 3, 153), (153, .i2l, 1, 154), (154, .ladd, 1, 155), (155, .lstore 4, 2, 157), (157, .ldc2_w 298, 3, 160), (160, .lload 4, 2, 162), (162, .lmul, 1, 163), (163, .aload_n 0, 1, 164), (164, .iconst 5, 1, 165), (165, .bipush 11, 2, 167), (167, .iload_n 3, 1, 168), (168, .iconst 0, 1, 169), (169, .invokevirtual 280, 3, 172), (172, .ladd, 1, 173), (173, .lstore 4, 2, 175), (175, .ldc2_w 298, 3, 178), (178, .lload 4, 2, 180), (180, .lmul, 1, 181), (181, .aload_n 0, 1, 182), (182, .iconst 5, 1, 183), (183, .bipush 11, 2, 185), (185, .iload_n 3, 1, 186), (186, .iconst 1, 1, 187), (187, .invokevirtual 280, 3, 190), (190, .ladd, 1, 191), (191, .lstore 4, 2, 193), (193, .ldc2_w 298, 3, 196), (196, .lload 4, 2, 198), (198, .lmul, 1, 199), (199, .aload_n 0, 1, 200), (200, .bipush 7, 2, 202), (202, .bipush 30, 2, 204), (204, .iload_n 3, 1, 205), (205, .invokevirtual 295, 3, 208), (208, .i2l, 1, 209), (209, .ladd, 1, 210), (210, .lreturn, 1, 211)])
theorem ok_M_tellsPerson : zOK m_M_tellsPerson := ⟨by decide +kernel, by decide +kernel, rfl, by decide +kernel⟩
def m_M_tellsHour : zMth := (RX11, yX11_tellsHour, cX11_tellsHour, 6, (some .long), 5, 112, [(0, .ldc2_w 298, 3, 3), (3, .lload_n 1, 1, 4), (4, .lmul, 1, 5), (5, .aload_n 0, 1, 6), (6, .iload_n 3, 1, 7), (7, .iconst 0, 1, 8), (8, .invokevirtual 306, 3, 11), (11, .i2l, 1, 12), (12, .ladd, 1, 13), (13, .lstore 4, 2, 15), (15, .ldc2_w 298, 3, 18), (18, .lload 4, 2, 20), (20, .lmul, 1, 21), (21, .aload_n 0, 1, 22), (22, .iload_n 3, 1, 23), (23, .iconst 0, 1, 24), (24, .invokevirtual 223, 3, 27), (27, .i2l, 1, 28), (28, .ladd, 1, 29), (29, .lstore 4, 2, 31), (31, .ldc2_w 298, 3, 34), (34, .lload 4, 2, 36), (36, .lmul, 1, 37), (37, .aload_n 0, 1, 38), (38, .iload_n 3, 1, 39), (39, .iconst 1, 1, 40), (40, .invokevirtual 223, 3, 43), (43, .i2l, 1, 44), (44, .ladd, 1, 45), (45, .lstore 4, 2, 47), (47, .ldc2_w 298, 3, 50), (50, .lload 4, 2, 52), (52, .lmul, 1, 53), (53, .aload_n 0, 1, 54), (54, .iload_n 3, 1, 55), (55, .iconst 0, 1, 56), (56, .invokevirtual 241, 3, 59), (59, .i2l, 1, 60), (60, .ladd, 1, 61), (61, .lstore 4, 2, 63), (63, .ldc2_w 298, 3, 66), (66, .lload 4, 2, 68), (68, .lmul, 1, 69), (69, .aload_n 0, 1, 70), (70, .iload_n 3, 1, 71), (71, .iconst 1, 1, 72), (72, .invokevirtual 241, 3, 75), (75, .i2l, 1, 76), (76, .ladd, 1, 77), (77, .lreturn, 1, 78)])
theorem ok_M_tellsHour : zOK m_M_tellsHour := ⟨by decide +kernel, by decide +kernel, rfl, by decide +kernel⟩
def m_M_digest : zMth := (RX11, yX11_digest, cX11_digest, 4, (some .long), 7, 168, [(0, .ldc2_w 309, 3, 3), (3, .lstore_n 1, 1, 4), (4, .iconst 0, 1, 5), (5, .istore_n 3, 1, 6), (6, .iload_n 3, 1, 7), (7, .bipush 8, 2, 9), (9, .if_icmp .ge 22, 3, 12), (12, .ldc2_w 298, 3, 15), (15, .lload_n 1, 1, 16), (16, .lmul, 1, 17), (17, .aload_n 0, 1, 18), (18, .iload_n 3, 1, 19), (19, .invokevirtual 311, 3, 22), (22, .i2l, 1, 23), (23, .ladd, 1, 24), (24, .lstore_n 1, 1, 25), (25, .iinc 3 1, 3, 28), (28, .goto (-22), 3, 31), (31, .ldc2_w 298, 3, 34), (34, .lload_n 1, 1, 35), (35, .lmul, 1, 36), (36, .aload_n 0, 1, 37), (37, .invokevirtual 129, 3, 40), (40, .i2l, 1, 41), (41, .ladd, 1, 42), (42, .lstore_n 1, 1, 43), (43, .ldc2_w 298, 3, 46), (46, .lload_n 1, 1, 47), (47, .lmul, 1, 48), (48, .aload_n 0, 1, 49), (49, .invokevirtual 133, 3, 52), (52, .i2l, 1, 53), (53, .ladd, 1, 54), (54, .lstore_n 1, 1, 55), (55, .iconst 0, 1, 56), (56, .istore_n 3, 1, 57), (57, .iload_n 3, 1, 58), (58, .aload_n 0, 1, 59), (59, .getfield 109, 3, 62), (62, .if_icmp .ge 16, 3, 65), (65, .aload_n 0, 1, 66), (66, .lload_n 1, 1, 67), (67, .iload_n 3, 1, 68), (68, .invokevirtual 314, 3, 71), (71, .lstore_n 1, 1, 72), (72, .iinc 3 1, 3, 75), (75, .goto (-18), 3, 78), (78, .aload_n 0, 1, 79), (79, .aload_n 0, 1, 80), (80, .aload_n 0, 1, 81), (81, .lload_n 1, 1, 82), (82, .iconst 0, 1, 83), (83, .invokevirtual 318, 3, 86), (86, .iconst 3, 1, 87), (87, .invokevirtual 318, 3, 90), (90, .bipush 11, 2, 92), (92, .invokevirtual 318, 3, 95), (95, .lstore_n 1, 1, 96), (96, .ldc2_w 298, 3, 99), (99, .lload_n 1, 1, 100), (100, .lmul, 1, 101), (101, .aload_n 0, 1, 102), (102, .iconst 0, 1, 103), (103, .invokevirtual 232, 3, 106), (106, .i2l, 1, 107), (107, .ladd, 1, 108), (108, .lstore_n 1, 1, 109), (109, .ldc2_w 298, 3, 112), (112, .lload_n 1, 1, 113), (113, .lmul, 1, 114), (114, .aload_n 0, 1, 115), (115, .iconst 1, 1, 116), (116, .invokevirtual 232, 3, 119), (119, .i2l, 1, 120), (120, .ladd, 1, 121), (121, .lstore_n 1, 1, 122), (122, .ldc2_w 298, 3, 125), (125, .lload_n 1, 1, 126), (126, .lmul, 1, 127), (127, .aload_n 0, 1, 128), (128, .iconst (-1), 1, 129), (129, .invokevirtual 249, 3, 132), (132, .i2l, 1, 133), (133, .ladd, 1, 134), (134, .lstore_n 1, 1, 135), (135, .ldc2_w 298, 3, 138), (138, .lload_n 1, 1, 139), (139, .lmul, 1, 140), (140, .aload_n 0, 1, 141), (141, .iconst 0, 1, 142), (142, .invokevirtual 249, 3, 145), (145, .i2l, 1, 146), (146, .ladd, 1, 147), (147, .lstore_n 1, 1, 148), (148, .ldc2_w 298, 3, 151), (151, .lload_n 1, 1, 152), (152, .lmul, 1, 153), (153, .aload_n 0, 1, 154), (154, .iconst 0, 1, 155), (155, .invokevirtual 265, 3, 158), (158, .i2l, 1, 159), (159, .ladd, 1, 160), (160, .lstore_n 1, 1, 161), (161, .ldc2_w 298, 3, 164), (164, .lload_n 1, 1, 165), (165, .lmul, 1, 166), (166, .aload_n 0, 1, 167), (167, .iconst 1, 1, 168), (168, .invokevirtual 265, 3, 171), (171, .i2l, 1, 172), (172, .ladd, 1, 173), (173, .lstore_n 1, 1, 174), (174, .ldc2_w 298, 3, 177), (177, .lload_n 1, 1, 178), (178, .lmul, 1, 179), (179, .aload_n 0, 1, 180), (180, .invokevirtual 271, 3, 183), (183, .i2l, 1, 184), (184, .ladd, 1, 185), (185, .lstore_n 1, 1, 186), (186, .ldc2_w 298, 3, 189), (189, .lload_n 1, 1, 190), (190, .lmul, 1, 191), (191, .aload_n 0, 1, 192), (192, .bipush 7, 2, 194), (194, .bipush 30, 2, 196), (196, .iconst (-1), 1, 197), (197, .invokevirtual 295, 3, 200), (200, .i2l, 1, 201), (201, .ladd, 1, 202), (202, .lreturn, 1, 203)])
theorem ok_M_digest : zOK m_M_digest := ⟨by decide +kernel, by decide +kernel, rfl, by decide +kernel⟩
end
section
/-! ===== links (by program) ===== -/
theorem zin_ALL {w : Cond} (h : (decide (w ∈ lw_tbl) && goodWord w) = true) : w ∈ zALL := by
  simp only [Bool.and_eq_true, decide_eq_true_eq] at h
  exact zmem_ALL h.1 h.2
theorem kc_Jint_265 : Cond.constant RJ6 265 (Int32.ofInt (1431655765)) ∈ zALL := zin_ALL (by decide +kernel)
theorem kc_Jint_266 : Cond.constant RJ6 266 (Int32.ofInt (858993459)) ∈ zALL := zin_ALL (by decide +kernel)
theorem kc_Jint_267 : Cond.constant RJ6 267 (Int32.ofInt (252645135)) ∈ zALL := zin_ALL (by decide +kernel)
theorem fl_Ch_9 : zFL RX0 9 0 1 1 := ⟨rfl, _, _, _, rfl, by decide, zin_ALL (by decide +kernel)⟩ -- LowerBows$Chances.weights
theorem fl_Ch_15 : zFL RX0 15 0 0 0 := ⟨rfl, _, _, _, rfl, by decide, zin_ALL (by decide +kernel)⟩ -- LowerBows$Chances.coast
theorem fl_Ch_25 : zFL RX0 25 2 3 3 := ⟨rfl, _, _, _, rfl, by decide, zin_ALL (by decide +kernel)⟩ -- LowerBows$Coast.umbrellas
theorem fl_Ch_31 : zFL RX0 31 3 3 3 := ⟨rfl, _, _, _, rfl, by decide, zin_ALL (by decide +kernel)⟩ -- LowerBows$Ledger.size
theorem fl_Ch_64 : zFL RX0 64 2 0 0 := ⟨rfl, _, _, _, rfl, by decide, zin_ALL (by decide +kernel)⟩ -- LowerBows$Coast.people
theorem fl_Ch_68 : zFL RX0 68 4 4 4 := ⟨rfl, _, _, _, rfl, by decide, zin_ALL (by decide +kernel)⟩ -- LowerBows$People.size
theorem lk_Ch_19 : zLS RX0 19 m_Jarr_fill_d0a16 2 := ⟨zin_ALL (by decide +kernel), zin_ALL (by decide +kernel), zin_ALL (by decide +kernel), ⟨by decide +kernel, by decide +kernel, by decide +kernel⟩⟩
theorem lk_Ch_37 : zLV RX0 37 m_Ch_weightOf 0 2 := ⟨zin_ALL (by decide +kernel), zin_ALL (by decide +kernel), zin_ALL (by decide +kernel), zin_ALL (by decide +kernel), rfl, ⟨by decide +kernel, by decide +kernel, by decide +kernel⟩⟩
theorem lk_Ch_41 : zLV RX0 41 m_Co_layOut 2 2 := ⟨zin_ALL (by decide +kernel), zin_ALL (by decide +kernel), zin_ALL (by decide +kernel), zin_ALL (by decide +kernel), rfl, ⟨by decide +kernel, by decide +kernel, by decide +kernel⟩⟩
theorem lk_Ch_45 : zLV RX0 45 m_Co_begin 2 0 := ⟨zin_ALL (by decide +kernel), zin_ALL (by decide +kernel), zin_ALL (by decide +kernel), zin_ALL (by decide +kernel), rfl, ⟨by decide +kernel, by decide +kernel, by decide +kernel⟩⟩
theorem lk_Ch_48 : zLV RX0 48 m_Co_walkTo 2 1 := ⟨zin_ALL (by decide +kernel), zin_ALL (by decide +kernel), zin_ALL (by decide +kernel), zin_ALL (by decide +kernel), rfl, ⟨by decide +kernel, by decide +kernel, by decide +kernel⟩⟩
theorem lk_Ch_52 : zLV RX0 52 m_Ch_addToGone 0 1 := ⟨zin_ALL (by decide +kernel), zin_ALL (by decide +kernel), zin_ALL (by decide +kernel), zin_ALL (by decide +kernel), rfl, ⟨by decide +kernel, by decide +kernel, by decide +kernel⟩⟩
theorem lk_Ch_56 : zLV RX0 56 m_Ch_halvings 0 1 := ⟨zin_ALL (by decide +kernel), zin_ALL (by decide +kernel), zin_ALL (by decide +kernel), zin_ALL (by decide +kernel), rfl, ⟨by decide +kernel, by decide +kernel, by decide +kernel⟩⟩
theorem lk_Ch_60 : zLV RX0 60 m_Ch_bitsOfWhole 0 0 := ⟨zin_ALL (by decide +kernel), zin_ALL (by decide +kernel), zin_ALL (by decide +kernel), zin_ALL (by decide +kernel), rfl, ⟨by decide +kernel, by decide +kernel, by decide +kernel⟩⟩
theorem lk_Ch_71 : zLV RX0 71 m_Co_isGone 2 1 := ⟨zin_ALL (by decide +kernel), zin_ALL (by decide +kernel), zin_ALL (by decide +kernel), zin_ALL (by decide +kernel), rfl, ⟨by decide +kernel, by decide +kernel, by decide +kernel⟩⟩
theorem fl_Cl_9 : zFL RX1 9 1 2 2 := ⟨rfl, _, _, _, rfl, by decide, zin_ALL (by decide +kernel)⟩ -- LowerBows$Clues.lowestWithout
theorem fl_Cl_15 : zFL RX1 15 1 0 0 := ⟨rfl, _, _, _, rfl, by decide, zin_ALL (by decide +kernel)⟩ -- LowerBows$Clues.coast
theorem fl_Cl_19 : zFL RX1 19 1 1 1 := ⟨rfl, _, _, _, rfl, by decide, zin_ALL (by decide +kernel)⟩ -- LowerBows$Clues.sights
theorem fl_Cl_23 : zFL RX1 23 2 2 2 := ⟨rfl, _, _, _, rfl, by decide, zin_ALL (by decide +kernel)⟩ -- LowerBows$Coast.olds
theorem fl_Cl_28 : zFL RX1 28 3 3 3 := ⟨rfl, _, _, _, rfl, by decide, zin_ALL (by decide +kernel)⟩ -- LowerBows$Ledger.size
theorem fl_Cl_42 : zFL RX1 42 2 8 8 := ⟨rfl, _, _, _, rfl, by decide, zin_ALL (by decide +kernel)⟩ -- LowerBows$Coast.lowest
theorem fl_Cl_51 : zFL RX1 51 2 3 3 := ⟨rfl, _, _, _, rfl, by decide, zin_ALL (by decide +kernel)⟩ -- LowerBows$Coast.umbrellas
theorem fl_Cl_58 : zFL RX1 58 2 0 0 := ⟨rfl, _, _, _, rfl, by decide, zin_ALL (by decide +kernel)⟩ -- LowerBows$Coast.people
theorem fl_Cl_62 : zFL RX1 62 4 4 4 := ⟨rfl, _, _, _, rfl, by decide, zin_ALL (by decide +kernel)⟩ -- LowerBows$People.size
theorem fl_Cl_80 : zFL RX1 80 3 1 1 := ⟨rfl, _, _, _, rfl, by decide, zin_ALL (by decide +kernel)⟩ -- LowerBows$Ledger.two
theorem fl_Cl_83 : zFL RX1 83 3 0 0 := ⟨rfl, _, _, _, rfl, by decide, zin_ALL (by decide +kernel)⟩ -- LowerBows$Ledger.one
theorem fl_Cl_86 : zFL RX1 86 3 2 2 := ⟨rfl, _, _, _, rfl, by decide, zin_ALL (by decide +kernel)⟩ -- LowerBows$Ledger.three
theorem la_Cl_45 : zLA RX1 45 := ⟨zin_ALL (by decide +kernel), zin_ALL (by decide +kernel), zin_ALL (by decide +kernel), zin_ALL (by decide +kernel)⟩
theorem lm_Cl_92 : zLM RX1 92 Lib.Math.max.name Lib.Math.max.code 2 := ⟨zin_ALL (by decide +kernel), zin_ALL (by decide +kernel), zin_ALL (by decide +kernel), zin_ALL (by decide +kernel)⟩
theorem lk_Cl_34 : zLV RX1 34 m_Co_layOut 2 2 := ⟨zin_ALL (by decide +kernel), zin_ALL (by decide +kernel), zin_ALL (by decide +kernel), zin_ALL (by decide +kernel), rfl, ⟨by decide +kernel, by decide +kernel, by decide +kernel⟩⟩
theorem lk_Cl_38 : zLV RX1 38 m_Cl_comesOutAsSeen 1 0 := ⟨zin_ALL (by decide +kernel), zin_ALL (by decide +kernel), zin_ALL (by decide +kernel), zin_ALL (by decide +kernel), rfl, ⟨by decide +kernel, by decide +kernel, by decide +kernel⟩⟩
theorem lk_Cl_54 : zLV RX1 54 m_Cl_oldBowsThatNeverWere 1 0 := ⟨zin_ALL (by decide +kernel), zin_ALL (by decide +kernel), zin_ALL (by decide +kernel), zin_ALL (by decide +kernel), rfl, ⟨by decide +kernel, by decide +kernel, by decide +kernel⟩⟩
theorem lk_Cl_65 : zLV RX1 65 m_Cl_greatestAlike 1 2 := ⟨zin_ALL (by decide +kernel), zin_ALL (by decide +kernel), zin_ALL (by decide +kernel), zin_ALL (by decide +kernel), rfl, ⟨by decide +kernel, by decide +kernel, by decide +kernel⟩⟩
theorem lk_Cl_69 : zLV RX1 69 m_Co_begin 2 0 := ⟨zin_ALL (by decide +kernel), zin_ALL (by decide +kernel), zin_ALL (by decide +kernel), zin_ALL (by decide +kernel), rfl, ⟨by decide +kernel, by decide +kernel, by decide +kernel⟩⟩
theorem lk_Cl_72 : zLV RX1 72 m_Co_walkThrough 2 1 := ⟨zin_ALL (by decide +kernel), zin_ALL (by decide +kernel), zin_ALL (by decide +kernel), zin_ALL (by decide +kernel), rfl, ⟨by decide +kernel, by decide +kernel, by decide +kernel⟩⟩
theorem lk_Cl_76 : zLV RX1 76 m_Cl_isAsSeenBehind 1 1 := ⟨zin_ALL (by decide +kernel), zin_ALL (by decide +kernel), zin_ALL (by decide +kernel), zin_ALL (by decide +kernel), rfl, ⟨by decide +kernel, by decide +kernel, by decide +kernel⟩⟩
theorem lk_Cl_89 : zLV RX1 89 m_Cl_lowestOf 1 2 := ⟨zin_ALL (by decide +kernel), zin_ALL (by decide +kernel), zin_ALL (by decide +kernel), zin_ALL (by decide +kernel), rfl, ⟨by decide +kernel, by decide +kernel, by decide +kernel⟩⟩
theorem fl_B_14 : zFL RX10 14 10 0 0 := ⟨rfl, _, _, _, rfl, by decide, zin_ALL (by decide +kernel)⟩ -- LowerBows.peopleText
theorem fl_B_18 : zFL RX10 18 10 1 1 := ⟨rfl, _, _, _, rfl, by decide, zin_ALL (by decide +kernel)⟩ -- LowerBows.walksText
theorem fl_B_24 : zFL RX10 24 10 2 2 := ⟨rfl, _, _, _, rfl, by decide, zin_ALL (by decide +kernel)⟩ -- LowerBows.people
theorem fl_B_31 : zFL RX10 31 10 3 3 := ⟨rfl, _, _, _, rfl, by decide, zin_ALL (by decide +kernel)⟩ -- LowerBows.walks
theorem fl_B_38 : zFL RX10 38 10 4 4 := ⟨rfl, _, _, _, rfl, by decide, zin_ALL (by decide +kernel)⟩ -- LowerBows.olds
theorem fl_B_42 : zFL RX10 42 10 5 5 := ⟨rfl, _, _, _, rfl, by decide, zin_ALL (by decide +kernel)⟩ -- LowerBows.umbrellas
theorem fl_B_45 : zFL RX10 45 10 6 6 := ⟨rfl, _, _, _, rfl, by decide, zin_ALL (by decide +kernel)⟩ -- LowerBows.sights
theorem fl_B_53 : zFL RX10 53 10 7 7 := ⟨rfl, _, _, _, rfl, by decide, zin_ALL (by decide +kernel)⟩ -- LowerBows.coast
theorem fl_B_62 : zFL RX10 62 10 8 8 := ⟨rfl, _, _, _, rfl, by decide, zin_ALL (by decide +kernel)⟩ -- LowerBows.shadePlan
theorem fl_B_69 : zFL RX10 69 10 9 9 := ⟨rfl, _, _, _, rfl, by decide, zin_ALL (by decide +kernel)⟩ -- LowerBows.strollPlan
theorem fl_B_78 : zFL RX10 78 10 10 10 := ⟨rfl, _, _, _, rfl, by decide, zin_ALL (by decide +kernel)⟩ -- LowerBows.clues
theorem fl_B_85 : zFL RX10 85 10 11 11 := ⟨rfl, _, _, _, rfl, by decide, zin_ALL (by decide +kernel)⟩ -- LowerBows.chances
theorem fl_B_91 : zFL RX10 91 10 12 12 := ⟨rfl, _, _, _, rfl, by decide, zin_ALL (by decide +kernel)⟩ -- LowerBows.sheets
theorem fl_B_108 : zFL RX10 108 8 1 1 := ⟨rfl, _, _, _, rfl, by decide, zin_ALL (by decide +kernel)⟩ -- LowerBows$Text.size
theorem fl_B_112 : zFL RX10 112 8 0 0 := ⟨rfl, _, _, _, rfl, by decide, zin_ALL (by decide +kernel)⟩ -- LowerBows$Text.bytes
theorem fl_B_122 : zFL RX10 122 4 6 6 := ⟨rfl, _, _, _, rfl, by decide, zin_ALL (by decide +kernel)⟩ -- LowerBows$People.faultAt
theorem fl_B_125 : zFL RX10 125 9 2 2 := ⟨rfl, _, _, _, rfl, by decide, zin_ALL (by decide +kernel)⟩ -- LowerBows$Walks.faultAt
theorem fl_B_129 : zFL RX10 129 4 0 0 := ⟨rfl, _, _, _, rfl, by decide, zin_ALL (by decide +kernel)⟩ -- LowerBows$People.kind
theorem fl_B_132 : zFL RX10 132 4 1 1 := ⟨rfl, _, _, _, rfl, by decide, zin_ALL (by decide +kernel)⟩ -- LowerBows$People.can
theorem fl_B_135 : zFL RX10 135 4 2 2 := ⟨rfl, _, _, _, rfl, by decide, zin_ALL (by decide +kernel)⟩ -- LowerBows$People.lower
theorem fl_B_141 : zFL RX10 141 9 0 0 := ⟨rfl, _, _, _, rfl, by decide, zin_ALL (by decide +kernel)⟩ -- LowerBows$Walks.streets
theorem fl_B_151 : zFL RX10 151 3 3 3 := ⟨rfl, _, _, _, rfl, by decide, zin_ALL (by decide +kernel)⟩ -- LowerBows$Ledger.size
theorem fl_B_155 : zFL RX10 155 6 1 1 := ⟨rfl, _, _, _, rfl, by decide, zin_ALL (by decide +kernel)⟩ -- LowerBows$Sheet.lost
theorem fl_B_163 : zFL RX10 163 6 3 3 := ⟨rfl, _, _, _, rfl, by decide, zin_ALL (by decide +kernel)⟩ -- LowerBows$Sheet.size
theorem fl_B_164 : zFL RX10 164 6 0 0 := ⟨rfl, _, _, _, rfl, by decide, zin_ALL (by decide +kernel)⟩ -- LowerBows$Sheet.items
theorem fl_B_170 : zFL RX10 170 2 8 8 := ⟨rfl, _, _, _, rfl, by decide, zin_ALL (by decide +kernel)⟩ -- LowerBows$Coast.lowest
theorem fl_B_173 : zFL RX10 173 2 9 9 := ⟨rfl, _, _, _, rfl, by decide, zin_ALL (by decide +kernel)⟩ -- LowerBows$Coast.gone
theorem fl_B_176 : zFL RX10 176 2 10 10 := ⟨rfl, _, _, _, rfl, by decide, zin_ALL (by decide +kernel)⟩ -- LowerBows$Coast.bows
theorem fl_B_183 : zFL RX10 183 2 11 11 := ⟨rfl, _, _, _, rfl, by decide, zin_ALL (by decide +kernel)⟩ -- LowerBows$Coast.firstHour
theorem fl_B_186 : zFL RX10 186 2 12 12 := ⟨rfl, _, _, _, rfl, by decide, zin_ALL (by decide +kernel)⟩ -- LowerBows$Coast.firstWho
theorem fl_B_200 : zFL RX10 200 4 4 4 := ⟨rfl, _, _, _, rfl, by decide, zin_ALL (by decide +kernel)⟩ -- LowerBows$People.size
theorem fl_B_207 : zFL RX10 207 5 2 2 := ⟨rfl, _, _, _, rfl, by decide, zin_ALL (by decide +kernel)⟩ -- LowerBows$ShadePlan.size
theorem fl_B_208 : zFL RX10 208 5 1 1 := ⟨rfl, _, _, _, rfl, by decide, zin_ALL (by decide +kernel)⟩ -- LowerBows$ShadePlan.numbers
theorem fl_B_213 : zFL RX10 213 7 3 3 := ⟨rfl, _, _, _, rfl, by decide, zin_ALL (by decide +kernel)⟩ -- LowerBows$StrollPlan.gone
theorem fl_B_260 : zFL RX10 260 6 2 2 := ⟨rfl, _, _, _, rfl, by decide, zin_ALL (by decide +kernel)⟩ -- LowerBows$Sheet.form
theorem fl_B_277 : zFL RX10 277 9 1 1 := ⟨rfl, _, _, _, rfl, by decide, zin_ALL (by decide +kernel)⟩ -- LowerBows$Walks.size
theorem fl_B_281 : zFL RX10 281 10 13 13 := ⟨rfl, _, _, _, rfl, by decide, zin_ALL (by decide +kernel)⟩ -- LowerBows.latestFinding
theorem lk_B_96 : zLS RX10 96 m_B_isText 1 := ⟨zin_ALL (by decide +kernel), zin_ALL (by decide +kernel), zin_ALL (by decide +kernel), ⟨by decide +kernel, by decide +kernel, by decide +kernel⟩⟩
theorem lk_B_100 : zLS RX10 100 m_B_within 3 := ⟨zin_ALL (by decide +kernel), zin_ALL (by decide +kernel), zin_ALL (by decide +kernel), ⟨by decide +kernel, by decide +kernel, by decide +kernel⟩⟩
theorem lk_B_138 : zLS RX10 138 m_B_isHour 1 := ⟨zin_ALL (by decide +kernel), zin_ALL (by decide +kernel), zin_ALL (by decide +kernel), ⟨by decide +kernel, by decide +kernel, by decide +kernel⟩⟩
theorem lk_B_144 : zLS RX10 144 m_B_mayBeOld 3 := ⟨zin_ALL (by decide +kernel), zin_ALL (by decide +kernel), zin_ALL (by decide +kernel), ⟨by decide +kernel, by decide +kernel, by decide +kernel⟩⟩
theorem lk_B_152 : zLS RX10 152 m_B_isSheet 1 := ⟨zin_ALL (by decide +kernel), zin_ALL (by decide +kernel), zin_ALL (by decide +kernel), ⟨by decide +kernel, by decide +kernel, by decide +kernel⟩⟩
theorem lk_B_242 : zLS RX10 242 m_Jint_bitCount_0f7a4 1 := ⟨zin_ALL (by decide +kernel), zin_ALL (by decide +kernel), zin_ALL (by decide +kernel), ⟨by decide +kernel, by decide +kernel, by decide +kernel⟩⟩
theorem lk_B_247 : zLS RX10 247 m_B_isForm 1 := ⟨zin_ALL (by decide +kernel), zin_ALL (by decide +kernel), zin_ALL (by decide +kernel), ⟨by decide +kernel, by decide +kernel, by decide +kernel⟩⟩
theorem la_B_266 : zLA RX10 266 := ⟨zin_ALL (by decide +kernel), zin_ALL (by decide +kernel), zin_ALL (by decide +kernel), zin_ALL (by decide +kernel)⟩
theorem lm_B_272 : zLM RX10 272 Lib.Math.min.name Lib.Math.min.code 2 := ⟨zin_ALL (by decide +kernel), zin_ALL (by decide +kernel), zin_ALL (by decide +kernel), zin_ALL (by decide +kernel)⟩
theorem lk_B_104 : zLV RX10 104 m_B_textOf 10 1 := ⟨zin_ALL (by decide +kernel), zin_ALL (by decide +kernel), zin_ALL (by decide +kernel), zin_ALL (by decide +kernel), rfl, ⟨by decide +kernel, by decide +kernel, by decide +kernel⟩⟩
theorem lk_B_116 : zLV RX10 116 m_Tx_append 8 1 := ⟨zin_ALL (by decide +kernel), zin_ALL (by decide +kernel), zin_ALL (by decide +kernel), zin_ALL (by decide +kernel), rfl, ⟨by decide +kernel, by decide +kernel, by decide +kernel⟩⟩
theorem lk_B_119 : zLV RX10 119 m_B_readAgain 10 1 := ⟨zin_ALL (by decide +kernel), zin_ALL (by decide +kernel), zin_ALL (by decide +kernel), zin_ALL (by decide +kernel), rfl, ⟨by decide +kernel, by decide +kernel, by decide +kernel⟩⟩
theorem lk_B_126 : zLV RX10 126 m_B_isPerson 10 1 := ⟨zin_ALL (by decide +kernel), zin_ALL (by decide +kernel), zin_ALL (by decide +kernel), zin_ALL (by decide +kernel), rfl, ⟨by decide +kernel, by decide +kernel, by decide +kernel⟩⟩
theorem lk_B_147 : zLV RX10 147 m_Le_enter 3 3 := ⟨zin_ALL (by decide +kernel), zin_ALL (by decide +kernel), zin_ALL (by decide +kernel), zin_ALL (by decide +kernel), rfl, ⟨by decide +kernel, by decide +kernel, by decide +kernel⟩⟩
theorem lk_B_159 : zLV RX10 159 m_B_found 10 1 := ⟨zin_ALL (by decide +kernel), zin_ALL (by decide +kernel), zin_ALL (by decide +kernel), zin_ALL (by decide +kernel), rfl, ⟨by decide +kernel, by decide +kernel, by decide +kernel⟩⟩
theorem lk_B_167 : zLV RX10 167 m_Co_walkAsTold 2 1 := ⟨zin_ALL (by decide +kernel), zin_ALL (by decide +kernel), zin_ALL (by decide +kernel), zin_ALL (by decide +kernel), rfl, ⟨by decide +kernel, by decide +kernel, by decide +kernel⟩⟩
theorem lk_B_179 : zLV RX10 179 m_Co_debt 2 2 := ⟨zin_ALL (by decide +kernel), zin_ALL (by decide +kernel), zin_ALL (by decide +kernel), zin_ALL (by decide +kernel), rfl, ⟨by decide +kernel, by decide +kernel, by decide +kernel⟩⟩
theorem lk_B_189 : zLV RX10 189 m_Co_mayMeet 2 2 := ⟨zin_ALL (by decide +kernel), zin_ALL (by decide +kernel), zin_ALL (by decide +kernel), zin_ALL (by decide +kernel), rfl, ⟨by decide +kernel, by decide +kernel, by decide +kernel⟩⟩
theorem lk_B_193 : zLV RX10 193 m_Co_meet 2 2 := ⟨zin_ALL (by decide +kernel), zin_ALL (by decide +kernel), zin_ALL (by decide +kernel), zin_ALL (by decide +kernel), rfl, ⟨by decide +kernel, by decide +kernel, by decide +kernel⟩⟩
theorem lk_B_197 : zLV RX10 197 m_Co_isGone 2 1 := ⟨zin_ALL (by decide +kernel), zin_ALL (by decide +kernel), zin_ALL (by decide +kernel), zin_ALL (by decide +kernel), rfl, ⟨by decide +kernel, by decide +kernel, by decide +kernel⟩⟩
theorem lk_B_201 : zLV RX10 201 m_Co_isRing 2 3 := ⟨zin_ALL (by decide +kernel), zin_ALL (by decide +kernel), zin_ALL (by decide +kernel), zin_ALL (by decide +kernel), rfl, ⟨by decide +kernel, by decide +kernel, by decide +kernel⟩⟩
theorem lk_B_204 : zLV RX10 204 m_Sh_find 5 0 := ⟨zin_ALL (by decide +kernel), zin_ALL (by decide +kernel), zin_ALL (by decide +kernel), zin_ALL (by decide +kernel), rfl, ⟨by decide +kernel, by decide +kernel, by decide +kernel⟩⟩
theorem lk_B_211 : zLV RX10 211 m_St_find 7 2 := ⟨zin_ALL (by decide +kernel), zin_ALL (by decide +kernel), zin_ALL (by decide +kernel), zin_ALL (by decide +kernel), rfl, ⟨by decide +kernel, by decide +kernel, by decide +kernel⟩⟩
theorem lk_B_214 : zLV RX10 214 m_St_streetIn 7 1 := ⟨zin_ALL (by decide +kernel), zin_ALL (by decide +kernel), zin_ALL (by decide +kernel), zin_ALL (by decide +kernel), rfl, ⟨by decide +kernel, by decide +kernel, by decide +kernel⟩⟩
theorem lk_B_217 : zLV RX10 217 m_Cl_oldBowsThatNeverWere 1 0 := ⟨zin_ALL (by decide +kernel), zin_ALL (by decide +kernel), zin_ALL (by decide +kernel), zin_ALL (by decide +kernel), rfl, ⟨by decide +kernel, by decide +kernel, by decide +kernel⟩⟩
theorem lk_B_221 : zLV RX10 221 m_Cl_umbrellasLeft 1 0 := ⟨zin_ALL (by decide +kernel), zin_ALL (by decide +kernel), zin_ALL (by decide +kernel), zin_ALL (by decide +kernel), rfl, ⟨by decide +kernel, by decide +kernel, by decide +kernel⟩⟩
theorem lk_B_224 : zLV RX10 224 m_Cl_nextToPass 1 0 := ⟨zin_ALL (by decide +kernel), zin_ALL (by decide +kernel), zin_ALL (by decide +kernel), zin_ALL (by decide +kernel), rfl, ⟨by decide +kernel, by decide +kernel, by decide +kernel⟩⟩
theorem lk_B_229 : zLV RX10 229 m_Ch_weigh 0 2 := ⟨zin_ALL (by decide +kernel), zin_ALL (by decide +kernel), zin_ALL (by decide +kernel), zin_ALL (by decide +kernel), rfl, ⟨by decide +kernel, by decide +kernel, by decide +kernel⟩⟩
theorem lk_B_232 : zLV RX10 232 m_Ch_above 0 1 := ⟨zin_ALL (by decide +kernel), zin_ALL (by decide +kernel), zin_ALL (by decide +kernel), zin_ALL (by decide +kernel), rfl, ⟨by decide +kernel, by decide +kernel, by decide +kernel⟩⟩
theorem lk_B_236 : zLV RX10 236 m_Ch_below 0 1 := ⟨zin_ALL (by decide +kernel), zin_ALL (by decide +kernel), zin_ALL (by decide +kernel), zin_ALL (by decide +kernel), rfl, ⟨by decide +kernel, by decide +kernel, by decide +kernel⟩⟩
theorem lk_B_239 : zLV RX10 239 m_Co_meetByLot 2 2 := ⟨zin_ALL (by decide +kernel), zin_ALL (by decide +kernel), zin_ALL (by decide +kernel), zin_ALL (by decide +kernel), rfl, ⟨by decide +kernel, by decide +kernel, by decide +kernel⟩⟩
theorem lk_B_250 : zLV RX10 250 m_Se_begin 6 2 := ⟨zin_ALL (by decide +kernel), zin_ALL (by decide +kernel), zin_ALL (by decide +kernel), zin_ALL (by decide +kernel), rfl, ⟨by decide +kernel, by decide +kernel, by decide +kernel⟩⟩
theorem lk_B_253 : zLV RX10 253 m_Se_findingAt 6 2 := ⟨zin_ALL (by decide +kernel), zin_ALL (by decide +kernel), zin_ALL (by decide +kernel), zin_ALL (by decide +kernel), rfl, ⟨by decide +kernel, by decide +kernel, by decide +kernel⟩⟩
theorem lk_B_256 : zLV RX10 256 m_Se_put 6 2 := ⟨zin_ALL (by decide +kernel), zin_ALL (by decide +kernel), zin_ALL (by decide +kernel), zin_ALL (by decide +kernel), rfl, ⟨by decide +kernel, by decide +kernel, by decide +kernel⟩⟩
theorem lk_B_263 : zLV RX10 263 m_Se_hasItems 6 2 := ⟨zin_ALL (by decide +kernel), zin_ALL (by decide +kernel), zin_ALL (by decide +kernel), zin_ALL (by decide +kernel), rfl, ⟨by decide +kernel, by decide +kernel, by decide +kernel⟩⟩
theorem lk_B_278 : zLV RX10 278 m_B_behind 10 2 := ⟨zin_ALL (by decide +kernel), zin_ALL (by decide +kernel), zin_ALL (by decide +kernel), zin_ALL (by decide +kernel), rfl, ⟨by decide +kernel, by decide +kernel, by decide +kernel⟩⟩
theorem lk_B_288 : zLV RX10 288 m_B_count 10 1 := ⟨zin_ALL (by decide +kernel), zin_ALL (by decide +kernel), zin_ALL (by decide +kernel), zin_ALL (by decide +kernel), rfl, ⟨by decide +kernel, by decide +kernel, by decide +kernel⟩⟩
theorem lk_B_291 : zLV RX10 291 m_B_fault 10 1 := ⟨zin_ALL (by decide +kernel), zin_ALL (by decide +kernel), zin_ALL (by decide +kernel), zin_ALL (by decide +kernel), rfl, ⟨by decide +kernel, by decide +kernel, by decide +kernel⟩⟩
theorem lk_B_294 : zLV RX10 294 m_B_digestOfPerson 10 2 := ⟨zin_ALL (by decide +kernel), zin_ALL (by decide +kernel), zin_ALL (by decide +kernel), zin_ALL (by decide +kernel), rfl, ⟨by decide +kernel, by decide +kernel, by decide +kernel⟩⟩
theorem lk_B_298 : zLV RX10 298 m_B_digestOfHour 10 2 := ⟨zin_ALL (by decide +kernel), zin_ALL (by decide +kernel), zin_ALL (by decide +kernel), zin_ALL (by decide +kernel), rfl, ⟨by decide +kernel, by decide +kernel, by decide +kernel⟩⟩
theorem lk_B_301 : zLV RX10 301 m_B_digestOfPlans 10 1 := ⟨zin_ALL (by decide +kernel), zin_ALL (by decide +kernel), zin_ALL (by decide +kernel), zin_ALL (by decide +kernel), rfl, ⟨by decide +kernel, by decide +kernel, by decide +kernel⟩⟩
theorem lk_B_305 : zLV RX10 305 m_B_person 10 2 := ⟨zin_ALL (by decide +kernel), zin_ALL (by decide +kernel), zin_ALL (by decide +kernel), zin_ALL (by decide +kernel), rfl, ⟨by decide +kernel, by decide +kernel, by decide +kernel⟩⟩
theorem lk_B_308 : zLV RX10 308 m_B_low 10 2 := ⟨zin_ALL (by decide +kernel), zin_ALL (by decide +kernel), zin_ALL (by decide +kernel), zin_ALL (by decide +kernel), rfl, ⟨by decide +kernel, by decide +kernel, by decide +kernel⟩⟩
theorem lk_B_311 : zLV RX10 311 m_B_owes 10 3 := ⟨zin_ALL (by decide +kernel), zin_ALL (by decide +kernel), zin_ALL (by decide +kernel), zin_ALL (by decide +kernel), rfl, ⟨by decide +kernel, by decide +kernel, by decide +kernel⟩⟩
theorem lk_B_314 : zLV RX10 314 m_B_ends 10 3 := ⟨zin_ALL (by decide +kernel), zin_ALL (by decide +kernel), zin_ALL (by decide +kernel), zin_ALL (by decide +kernel), rfl, ⟨by decide +kernel, by decide +kernel, by decide +kernel⟩⟩
theorem lk_B_317 : zLV RX10 317 m_B_season 10 3 := ⟨zin_ALL (by decide +kernel), zin_ALL (by decide +kernel), zin_ALL (by decide +kernel), zin_ALL (by decide +kernel), rfl, ⟨by decide +kernel, by decide +kernel, by decide +kernel⟩⟩
theorem lk_B_320 : zLV RX10 320 m_B_street 10 2 := ⟨zin_ALL (by decide +kernel), zin_ALL (by decide +kernel), zin_ALL (by decide +kernel), zin_ALL (by decide +kernel), rfl, ⟨by decide +kernel, by decide +kernel, by decide +kernel⟩⟩
theorem lk_B_323 : zLV RX10 323 m_B_rings 10 2 := ⟨zin_ALL (by decide +kernel), zin_ALL (by decide +kernel), zin_ALL (by decide +kernel), zin_ALL (by decide +kernel), rfl, ⟨by decide +kernel, by decide +kernel, by decide +kernel⟩⟩
theorem lk_B_326 : zLV RX10 326 m_B_first 10 1 := ⟨zin_ALL (by decide +kernel), zin_ALL (by decide +kernel), zin_ALL (by decide +kernel), zin_ALL (by decide +kernel), rfl, ⟨by decide +kernel, by decide +kernel, by decide +kernel⟩⟩
theorem lk_B_329 : zLV RX10 329 m_B_never 10 1 := ⟨zin_ALL (by decide +kernel), zin_ALL (by decide +kernel), zin_ALL (by decide +kernel), zin_ALL (by decide +kernel), rfl, ⟨by decide +kernel, by decide +kernel, by decide +kernel⟩⟩
theorem lk_B_332 : zLV RX10 332 m_Pe_take 4 1 := ⟨zin_ALL (by decide +kernel), zin_ALL (by decide +kernel), zin_ALL (by decide +kernel), zin_ALL (by decide +kernel), rfl, ⟨by decide +kernel, by decide +kernel, by decide +kernel⟩⟩
theorem lk_B_336 : zLV RX10 336 m_Wa_take 9 1 := ⟨zin_ALL (by decide +kernel), zin_ALL (by decide +kernel), zin_ALL (by decide +kernel), zin_ALL (by decide +kernel), rfl, ⟨by decide +kernel, by decide +kernel, by decide +kernel⟩⟩
theorem kc_B_227 : Cond.constantLong RX10 227 (Int64.ofInt (-9223372036854775806)) ∈ zALL := zin_ALL (by decide +kernel)
theorem kc_B_284 : Cond.constantLong RX10 284 (Int64.ofInt (17)) ∈ zALL := zin_ALL (by decide +kernel)
theorem kc_B_286 : Cond.constantLong RX10 286 (Int64.ofInt (31)) ∈ zALL := zin_ALL (by decide +kernel)
theorem kc_B_259 : Cond.constant RX10 259 (Int32.ofInt (-2147483648)) ∈ zALL := zin_ALL (by decide +kernel)
theorem fp_B_108 : zFP RX10 108 8 1 1 .int := ⟨rfl, _, _, _, rfl, by decide, zin_ALL (by decide +kernel), rfl, by decide +kernel⟩ -- LowerBows$Text.size
theorem fp_B_151 : zFP RX10 151 3 3 3 .int := ⟨rfl, _, _, _, rfl, by decide, zin_ALL (by decide +kernel), rfl, by decide +kernel⟩ -- LowerBows$Ledger.size
theorem fp_B_155 : zFP RX10 155 6 1 1 .boolean := ⟨rfl, _, _, _, rfl, by decide, zin_ALL (by decide +kernel), rfl, by decide +kernel⟩ -- LowerBows$Sheet.lost
theorem fp_B_281 : zFP RX10 281 10 13 13 .int := ⟨rfl, _, _, _, rfl, by decide, zin_ALL (by decide +kernel), rfl, by decide +kernel⟩ -- LowerBows.latestFinding
theorem fl_M_7 : zFL RX11 7 11 0 0 := ⟨rfl, _, _, _, rfl, by decide, zin_ALL (by decide +kernel)⟩ -- LowerBowsModel.forms
theorem fl_M_13 : zFL RX11 13 11 1 1 := ⟨rfl, _, _, _, rfl, by decide, zin_ALL (by decide +kernel)⟩ -- LowerBowsModel.sizes
theorem fl_M_16 : zFL RX11 16 11 2 2 := ⟨rfl, _, _, _, rfl, by decide, zin_ALL (by decide +kernel)⟩ -- LowerBowsModel.items
theorem fl_M_19 : zFL RX11 19 11 3 3 := ⟨rfl, _, _, _, rfl, by decide, zin_ALL (by decide +kernel)⟩ -- LowerBowsModel.moved
theorem fl_M_22 : zFL RX11 22 11 5 5 := ⟨rfl, _, _, _, rfl, by decide, zin_ALL (by decide +kernel)⟩ -- LowerBowsModel.bytes
theorem fl_M_25 : zFL RX11 25 11 6 6 := ⟨rfl, _, _, _, rfl, by decide, zin_ALL (by decide +kernel)⟩ -- LowerBowsModel.typed
theorem fl_M_28 : zFL RX11 28 11 8 8 := ⟨rfl, _, _, _, rfl, by decide, zin_ALL (by decide +kernel)⟩ -- LowerBowsModel.person
theorem fl_M_31 : zFL RX11 31 11 10 10 := ⟨rfl, _, _, _, rfl, by decide, zin_ALL (by decide +kernel)⟩ -- LowerBowsModel.walk
theorem fl_M_34 : zFL RX11 34 11 12 12 := ⟨rfl, _, _, _, rfl, by decide, zin_ALL (by decide +kernel)⟩ -- LowerBowsModel.old
theorem fl_M_37 : zFL RX11 37 11 14 14 := ⟨rfl, _, _, _, rfl, by decide, zin_ALL (by decide +kernel)⟩ -- LowerBowsModel.umbrella
theorem fl_M_40 : zFL RX11 40 11 15 15 := ⟨rfl, _, _, _, rfl, by decide, zin_ALL (by decide +kernel)⟩ -- LowerBowsModel.last
theorem fl_M_43 : zFL RX11 43 11 16 16 := ⟨rfl, _, _, _, rfl, by decide, zin_ALL (by decide +kernel)⟩ -- LowerBowsModel.lessBowed
theorem fl_M_46 : zFL RX11 46 11 17 17 := ⟨rfl, _, _, _, rfl, by decide, zin_ALL (by decide +kernel)⟩ -- LowerBowsModel.most
theorem fl_M_49 : zFL RX11 49 11 25 25 := ⟨rfl, _, _, _, rfl, by decide, zin_ALL (by decide +kernel)⟩ -- LowerBowsModel.stroll
theorem fl_M_52 : zFL RX11 52 11 26 26 := ⟨rfl, _, _, _, rfl, by decide, zin_ALL (by decide +kernel)⟩ -- LowerBowsModel.row
theorem fl_M_55 : zFL RX11 55 11 28 28 := ⟨rfl, _, _, _, rfl, by decide, zin_ALL (by decide +kernel)⟩ -- LowerBowsModel.sight
theorem fl_M_58 : zFL RX11 58 11 29 29 := ⟨rfl, _, _, _, rfl, by decide, zin_ALL (by decide +kernel)⟩ -- LowerBowsModel.lows
theorem fl_M_61 : zFL RX11 61 11 22 22 := ⟨rfl, _, _, _, rfl, by decide, zin_ALL (by decide +kernel)⟩ -- LowerBowsModel.noOld
theorem fl_M_65 : zFL RX11 65 11 24 24 := ⟨rfl, _, _, _, rfl, by decide, zin_ALL (by decide +kernel)⟩ -- LowerBowsModel.strolls
theorem fl_M_74 : zFL RX11 74 11 4 4 := ⟨rfl, _, _, _, rfl, by decide, zin_ALL (by decide +kernel)⟩ -- LowerBowsModel.latest
theorem fl_M_109 : zFL RX11 109 11 7 7 := ⟨rfl, _, _, _, rfl, by decide, zin_ALL (by decide +kernel)⟩ -- LowerBowsModel.people
theorem fl_M_122 : zFL RX11 122 11 9 9 := ⟨rfl, _, _, _, rfl, by decide, zin_ALL (by decide +kernel)⟩ -- LowerBowsModel.walks
theorem fl_M_151 : zFL RX11 151 11 11 11 := ⟨rfl, _, _, _, rfl, by decide, zin_ALL (by decide +kernel)⟩ -- LowerBowsModel.olds
theorem fl_M_154 : zFL RX11 154 11 13 13 := ⟨rfl, _, _, _, rfl, by decide, zin_ALL (by decide +kernel)⟩ -- LowerBowsModel.umbrellas
theorem fl_M_169 : zFL RX11 169 11 23 23 := ⟨rfl, _, _, _, rfl, by decide, zin_ALL (by decide +kernel)⟩ -- LowerBowsModel.forgotten
theorem fl_M_182 : zFL RX11 182 11 18 18 := ⟨rfl, _, _, _, rfl, by decide, zin_ALL (by decide +kernel)⟩ -- LowerBowsModel.gone
theorem fl_M_185 : zFL RX11 185 11 19 19 := ⟨rfl, _, _, _, rfl, by decide, zin_ALL (by decide +kernel)⟩ -- LowerBowsModel.bows
theorem fl_M_188 : zFL RX11 188 11 20 20 := ⟨rfl, _, _, _, rfl, by decide, zin_ALL (by decide +kernel)⟩ -- LowerBowsModel.firstHour
theorem fl_M_191 : zFL RX11 191 11 21 21 := ⟨rfl, _, _, _, rfl, by decide, zin_ALL (by decide +kernel)⟩ -- LowerBowsModel.firstWho
theorem fl_M_258 : zFL RX11 258 11 27 27 := ⟨rfl, _, _, _, rfl, by decide, zin_ALL (by decide +kernel)⟩ -- LowerBowsModel.sights
theorem fl_M_289 : zFL RX11 289 11 30 30 := ⟨rfl, _, _, _, rfl, by decide, zin_ALL (by decide +kernel)⟩ -- LowerBowsModel.drawn
theorem lk_M_70 : zLS RX11 70 m_M_in 3 := ⟨zin_ALL (by decide +kernel), zin_ALL (by decide +kernel), zin_ALL (by decide +kernel), ⟨by decide +kernel, by decide +kernel, by decide +kernel⟩⟩
theorem lk_M_79 : zLS RX11 79 m_M_isSheet 1 := ⟨zin_ALL (by decide +kernel), zin_ALL (by decide +kernel), zin_ALL (by decide +kernel), ⟨by decide +kernel, by decide +kernel, by decide +kernel⟩⟩
theorem lk_M_93 : zLS RX11 93 m_M_cut 2 := ⟨zin_ALL (by decide +kernel), zin_ALL (by decide +kernel), zin_ALL (by decide +kernel), ⟨by decide +kernel, by decide +kernel, by decide +kernel⟩⟩
theorem lk_M_98 : zLS RX11 98 m_M_isTwo 1 := ⟨zin_ALL (by decide +kernel), zin_ALL (by decide +kernel), zin_ALL (by decide +kernel), ⟨by decide +kernel, by decide +kernel, by decide +kernel⟩⟩
theorem lk_M_112 : zLS RX11 112 m_M_tellsOf 2 := ⟨zin_ALL (by decide +kernel), zin_ALL (by decide +kernel), zin_ALL (by decide +kernel), ⟨by decide +kernel, by decide +kernel, by decide +kernel⟩⟩
theorem lk_M_146 : zLS RX11 146 m_M_isAnyone 1 := ⟨zin_ALL (by decide +kernel), zin_ALL (by decide +kernel), zin_ALL (by decide +kernel), ⟨by decide +kernel, by decide +kernel, by decide +kernel⟩⟩
theorem lk_M_157 : zLS RX11 157 m_M_isHour 1 := ⟨zin_ALL (by decide +kernel), zin_ALL (by decide +kernel), zin_ALL (by decide +kernel), ⟨by decide +kernel, by decide +kernel, by decide +kernel⟩⟩
theorem lk_M_172 : zLS RX11 172 m_M_isIn 2 := ⟨zin_ALL (by decide +kernel), zin_ALL (by decide +kernel), zin_ALL (by decide +kernel), ⟨by decide +kernel, by decide +kernel, by decide +kernel⟩⟩
theorem lk_M_176 : zLS RX11 176 m_M_lesser 2 := ⟨zin_ALL (by decide +kernel), zin_ALL (by decide +kernel), zin_ALL (by decide +kernel), ⟨by decide +kernel, by decide +kernel, by decide +kernel⟩⟩
theorem lk_M_179 : zLS RX11 179 m_M_greater 2 := ⟨zin_ALL (by decide +kernel), zin_ALL (by decide +kernel), zin_ALL (by decide +kernel), ⟨by decide +kernel, by decide +kernel, by decide +kernel⟩⟩
theorem lk_M_252 : zLS RX11 252 m_M_ones 1 := ⟨zin_ALL (by decide +kernel), zin_ALL (by decide +kernel), zin_ALL (by decide +kernel), ⟨by decide +kernel, by decide +kernel, by decide +kernel⟩⟩
theorem lk_M_276 : zLS RX11 276 m_M_part 3 := ⟨zin_ALL (by decide +kernel), zin_ALL (by decide +kernel), zin_ALL (by decide +kernel), ⟨by decide +kernel, by decide +kernel, by decide +kernel⟩⟩
theorem lk_M_284 : zLS RX11 284 m_M_no 1 := ⟨zin_ALL (by decide +kernel), zin_ALL (by decide +kernel), zin_ALL (by decide +kernel), ⟨by decide +kernel, by decide +kernel, by decide +kernel⟩⟩
theorem lk_M_85 : zLV RX11 85 m_M_finds 11 1 := ⟨zin_ALL (by decide +kernel), zin_ALL (by decide +kernel), zin_ALL (by decide +kernel), zin_ALL (by decide +kernel), rfl, ⟨by decide +kernel, by decide +kernel, by decide +kernel⟩⟩
theorem lk_M_89 : zLV RX11 89 m_M_lacks 11 3 := ⟨zin_ALL (by decide +kernel), zin_ALL (by decide +kernel), zin_ALL (by decide +kernel), zin_ALL (by decide +kernel), rfl, ⟨by decide +kernel, by decide +kernel, by decide +kernel⟩⟩
theorem lk_M_115 : zLV RX11 115 m_M_tells 11 3 := ⟨zin_ALL (by decide +kernel), zin_ALL (by decide +kernel), zin_ALL (by decide +kernel), zin_ALL (by decide +kernel), rfl, ⟨by decide +kernel, by decide +kernel, by decide +kernel⟩⟩
theorem lk_M_119 : zLV RX11 119 m_M_clears 11 0 := ⟨zin_ALL (by decide +kernel), zin_ALL (by decide +kernel), zin_ALL (by decide +kernel), zin_ALL (by decide +kernel), rfl, ⟨by decide +kernel, by decide +kernel, by decide +kernel⟩⟩
theorem lk_M_129 : zLV RX11 129 m_M_readsPeople 11 0 := ⟨zin_ALL (by decide +kernel), zin_ALL (by decide +kernel), zin_ALL (by decide +kernel), zin_ALL (by decide +kernel), rfl, ⟨by decide +kernel, by decide +kernel, by decide +kernel⟩⟩
theorem lk_M_133 : zLV RX11 133 m_M_readsWalks 11 0 := ⟨zin_ALL (by decide +kernel), zin_ALL (by decide +kernel), zin_ALL (by decide +kernel), zin_ALL (by decide +kernel), rfl, ⟨by decide +kernel, by decide +kernel, by decide +kernel⟩⟩
theorem lk_M_140 : zLV RX11 140 m_M_reads 11 0 := ⟨zin_ALL (by decide +kernel), zin_ALL (by decide +kernel), zin_ALL (by decide +kernel), zin_ALL (by decide +kernel), rfl, ⟨by decide +kernel, by decide +kernel, by decide +kernel⟩⟩
theorem lk_M_143 : zLV RX11 143 m_M_isPerson 11 1 := ⟨zin_ALL (by decide +kernel), zin_ALL (by decide +kernel), zin_ALL (by decide +kernel), zin_ALL (by decide +kernel), rfl, ⟨by decide +kernel, by decide +kernel, by decide +kernel⟩⟩
theorem lk_M_160 : zLV RX11 160 m_M_shades 11 2 := ⟨zin_ALL (by decide +kernel), zin_ALL (by decide +kernel), zin_ALL (by decide +kernel), zin_ALL (by decide +kernel), rfl, ⟨by decide +kernel, by decide +kernel, by decide +kernel⟩⟩
theorem lk_M_164 : zLV RX11 164 m_M_old 11 3 := ⟨zin_ALL (by decide +kernel), zin_ALL (by decide +kernel), zin_ALL (by decide +kernel), zin_ALL (by decide +kernel), rfl, ⟨by decide +kernel, by decide +kernel, by decide +kernel⟩⟩
theorem lk_M_166 : zLV RX11 166 m_M_streetOf 11 2 := ⟨zin_ALL (by decide +kernel), zin_ALL (by decide +kernel), zin_ALL (by decide +kernel), zin_ALL (by decide +kernel), rfl, ⟨by decide +kernel, by decide +kernel, by decide +kernel⟩⟩
theorem lk_M_194 : zLV RX11 194 m_M_isClergy 11 1 := ⟨zin_ALL (by decide +kernel), zin_ALL (by decide +kernel), zin_ALL (by decide +kernel), zin_ALL (by decide +kernel), rfl, ⟨by decide +kernel, by decide +kernel, by decide +kernel⟩⟩
theorem lk_M_197 : zLV RX11 197 m_M_lessBows 11 2 := ⟨zin_ALL (by decide +kernel), zin_ALL (by decide +kernel), zin_ALL (by decide +kernel), zin_ALL (by decide +kernel), rfl, ⟨by decide +kernel, by decide +kernel, by decide +kernel⟩⟩
theorem lk_M_200 : zLV RX11 200 m_M_howLow 11 3 := ⟨zin_ALL (by decide +kernel), zin_ALL (by decide +kernel), zin_ALL (by decide +kernel), zin_ALL (by decide +kernel), rfl, ⟨by decide +kernel, by decide +kernel, by decide +kernel⟩⟩
theorem lk_M_203 : zLV RX11 203 m_M_begins 11 0 := ⟨zin_ALL (by decide +kernel), zin_ALL (by decide +kernel), zin_ALL (by decide +kernel), zin_ALL (by decide +kernel), rfl, ⟨by decide +kernel, by decide +kernel, by decide +kernel⟩⟩
theorem lk_M_206 : zLV RX11 206 m_M_may 11 2 := ⟨zin_ALL (by decide +kernel), zin_ALL (by decide +kernel), zin_ALL (by decide +kernel), zin_ALL (by decide +kernel), rfl, ⟨by decide +kernel, by decide +kernel, by decide +kernel⟩⟩
theorem lk_M_209 : zLV RX11 209 m_M_isSeenOn 11 2 := ⟨zin_ALL (by decide +kernel), zin_ALL (by decide +kernel), zin_ALL (by decide +kernel), zin_ALL (by decide +kernel), rfl, ⟨by decide +kernel, by decide +kernel, by decide +kernel⟩⟩
theorem lk_M_212 : zLV RX11 212 m_M_meets 11 3 := ⟨zin_ALL (by decide +kernel), zin_ALL (by decide +kernel), zin_ALL (by decide +kernel), zin_ALL (by decide +kernel), rfl, ⟨by decide +kernel, by decide +kernel, by decide +kernel⟩⟩
theorem lk_M_216 : zLV RX11 216 m_M_lives 11 1 := ⟨zin_ALL (by decide +kernel), zin_ALL (by decide +kernel), zin_ALL (by decide +kernel), zin_ALL (by decide +kernel), rfl, ⟨by decide +kernel, by decide +kernel, by decide +kernel⟩⟩
theorem lk_M_220 : zLV RX11 220 m_M_lowOf 11 2 := ⟨zin_ALL (by decide +kernel), zin_ALL (by decide +kernel), zin_ALL (by decide +kernel), zin_ALL (by decide +kernel), rfl, ⟨by decide +kernel, by decide +kernel, by decide +kernel⟩⟩
theorem lk_M_223 : zLV RX11 223 m_M_behindOf 11 2 := ⟨zin_ALL (by decide +kernel), zin_ALL (by decide +kernel), zin_ALL (by decide +kernel), zin_ALL (by decide +kernel), rfl, ⟨by decide +kernel, by decide +kernel, by decide +kernel⟩⟩
theorem lk_M_226 : zLV RX11 226 m_M_owesNow 11 2 := ⟨zin_ALL (by decide +kernel), zin_ALL (by decide +kernel), zin_ALL (by decide +kernel), zin_ALL (by decide +kernel), rfl, ⟨by decide +kernel, by decide +kernel, by decide +kernel⟩⟩
theorem lk_M_229 : zLV RX11 229 m_M_owesOf 11 3 := ⟨zin_ALL (by decide +kernel), zin_ALL (by decide +kernel), zin_ALL (by decide +kernel), zin_ALL (by decide +kernel), rfl, ⟨by decide +kernel, by decide +kernel, by decide +kernel⟩⟩
theorem lk_M_232 : zLV RX11 232 m_M_firstOf 11 1 := ⟨zin_ALL (by decide +kernel), zin_ALL (by decide +kernel), zin_ALL (by decide +kernel), zin_ALL (by decide +kernel), rfl, ⟨by decide +kernel, by decide +kernel, by decide +kernel⟩⟩
theorem lk_M_235 : zLV RX11 235 m_M_endsOf 11 3 := ⟨zin_ALL (by decide +kernel), zin_ALL (by decide +kernel), zin_ALL (by decide +kernel), zin_ALL (by decide +kernel), rfl, ⟨by decide +kernel, by decide +kernel, by decide +kernel⟩⟩
theorem lk_M_238 : zLV RX11 238 m_M_isRing 11 3 := ⟨zin_ALL (by decide +kernel), zin_ALL (by decide +kernel), zin_ALL (by decide +kernel), zin_ALL (by decide +kernel), rfl, ⟨by decide +kernel, by decide +kernel, by decide +kernel⟩⟩
theorem lk_M_241 : zLV RX11 241 m_M_ringsOf 11 2 := ⟨zin_ALL (by decide +kernel), zin_ALL (by decide +kernel), zin_ALL (by decide +kernel), zin_ALL (by decide +kernel), rfl, ⟨by decide +kernel, by decide +kernel, by decide +kernel⟩⟩
theorem lk_M_244 : zLV RX11 244 m_M_isShaded 11 1 := ⟨zin_ALL (by decide +kernel), zin_ALL (by decide +kernel), zin_ALL (by decide +kernel), zin_ALL (by decide +kernel), rfl, ⟨by decide +kernel, by decide +kernel, by decide +kernel⟩⟩
theorem lk_M_249 : zLV RX11 249 m_M_shadeOf 11 1 := ⟨zin_ALL (by decide +kernel), zin_ALL (by decide +kernel), zin_ALL (by decide +kernel), zin_ALL (by decide +kernel), rfl, ⟨by decide +kernel, by decide +kernel, by decide +kernel⟩⟩
theorem lk_M_255 : zLV RX11 255 m_M_strollOf 11 3 := ⟨zin_ALL (by decide +kernel), zin_ALL (by decide +kernel), zin_ALL (by decide +kernel), zin_ALL (by decide +kernel), rfl, ⟨by decide +kernel, by decide +kernel, by decide +kernel⟩⟩
theorem lk_M_261 : zLV RX11 261 m_M_isSeen 11 0 := ⟨zin_ALL (by decide +kernel), zin_ALL (by decide +kernel), zin_ALL (by decide +kernel), zin_ALL (by decide +kernel), rfl, ⟨by decide +kernel, by decide +kernel, by decide +kernel⟩⟩
theorem lk_M_265 : zLV RX11 265 m_M_neverOf 11 1 := ⟨zin_ALL (by decide +kernel), zin_ALL (by decide +kernel), zin_ALL (by decide +kernel), zin_ALL (by decide +kernel), rfl, ⟨by decide +kernel, by decide +kernel, by decide +kernel⟩⟩
theorem lk_M_268 : zLV RX11 268 m_M_mostAlike 11 2 := ⟨zin_ALL (by decide +kernel), zin_ALL (by decide +kernel), zin_ALL (by decide +kernel), zin_ALL (by decide +kernel), rfl, ⟨by decide +kernel, by decide +kernel, by decide +kernel⟩⟩
theorem lk_M_271 : zLV RX11 271 m_M_passNow 11 0 := ⟨zin_ALL (by decide +kernel), zin_ALL (by decide +kernel), zin_ALL (by decide +kernel), zin_ALL (by decide +kernel), rfl, ⟨by decide +kernel, by decide +kernel, by decide +kernel⟩⟩
theorem lk_M_280 : zLV RX11 280 m_M_forgetsOf 11 4 := ⟨zin_ALL (by decide +kernel), zin_ALL (by decide +kernel), zin_ALL (by decide +kernel), zin_ALL (by decide +kernel), rfl, ⟨by decide +kernel, by decide +kernel, by decide +kernel⟩⟩
theorem lk_M_292 : zLV RX11 292 m_M_lot 11 1 := ⟨zin_ALL (by decide +kernel), zin_ALL (by decide +kernel), zin_ALL (by decide +kernel), zin_ALL (by decide +kernel), rfl, ⟨by decide +kernel, by decide +kernel, by decide +kernel⟩⟩
theorem lk_M_295 : zLV RX11 295 m_M_seasonOf 11 3 := ⟨zin_ALL (by decide +kernel), zin_ALL (by decide +kernel), zin_ALL (by decide +kernel), zin_ALL (by decide +kernel), rfl, ⟨by decide +kernel, by decide +kernel, by decide +kernel⟩⟩
theorem lk_M_300 : zLV RX11 300 m_M_owes 11 3 := ⟨zin_ALL (by decide +kernel), zin_ALL (by decide +kernel), zin_ALL (by decide +kernel), zin_ALL (by decide +kernel), rfl, ⟨by decide +kernel, by decide +kernel, by decide +kernel⟩⟩
theorem lk_M_303 : zLV RX11 303 m_M_ends 11 3 := ⟨zin_ALL (by decide +kernel), zin_ALL (by decide +kernel), zin_ALL (by decide +kernel), zin_ALL (by decide +kernel), rfl, ⟨by decide +kernel, by decide +kernel, by decide +kernel⟩⟩
theorem lk_M_306 : zLV RX11 306 m_M_street 11 2 := ⟨zin_ALL (by decide +kernel), zin_ALL (by decide +kernel), zin_ALL (by decide +kernel), zin_ALL (by decide +kernel), rfl, ⟨by decide +kernel, by decide +kernel, by decide +kernel⟩⟩
theorem lk_M_311 : zLV RX11 311 m_M_count 11 1 := ⟨zin_ALL (by decide +kernel), zin_ALL (by decide +kernel), zin_ALL (by decide +kernel), zin_ALL (by decide +kernel), rfl, ⟨by decide +kernel, by decide +kernel, by decide +kernel⟩⟩
theorem lk_M_314 : zLV RX11 314 m_M_tellsPerson 11 2 := ⟨zin_ALL (by decide +kernel), zin_ALL (by decide +kernel), zin_ALL (by decide +kernel), zin_ALL (by decide +kernel), rfl, ⟨by decide +kernel, by decide +kernel, by decide +kernel⟩⟩
theorem lk_M_318 : zLV RX11 318 m_M_tellsHour 11 2 := ⟨zin_ALL (by decide +kernel), zin_ALL (by decide +kernel), zin_ALL (by decide +kernel), zin_ALL (by decide +kernel), rfl, ⟨by decide +kernel, by decide +kernel, by decide +kernel⟩⟩
theorem kc_M_97 : Cond.constant RX11 97 (Int32.ofInt (-2147483648)) ∈ zALL := zin_ALL (by decide +kernel)
theorem kc_M_68 : Cond.constantLong RX11 68 (Int64.ofInt (-9223372036854775808)) ∈ zALL := zin_ALL (by decide +kernel)
theorem kc_M_77 : Cond.constantLong RX11 77 (Int64.ofInt (3)) ∈ zALL := zin_ALL (by decide +kernel)
theorem kc_M_83 : Cond.constantLong RX11 83 (Int64.ofInt (2)) ∈ zALL := zin_ALL (by decide +kernel)
theorem kc_M_101 : Cond.constantLong RX11 101 (Int64.ofInt (255)) ∈ zALL := zin_ALL (by decide +kernel)
theorem kc_M_103 : Cond.constantLong RX11 103 (Int64.ofInt (49)) ∈ zALL := zin_ALL (by decide +kernel)
theorem kc_M_105 : Cond.constantLong RX11 105 (Int64.ofInt (57)) ∈ zALL := zin_ALL (by decide +kernel)
theorem kc_M_107 : Cond.constantLong RX11 107 (Int64.ofInt (48)) ∈ zALL := zin_ALL (by decide +kernel)
theorem kc_M_125 : Cond.constantLong RX11 125 (Int64.ofInt (97)) ∈ zALL := zin_ALL (by decide +kernel)
theorem kc_M_127 : Cond.constantLong RX11 127 (Int64.ofInt (104)) ∈ zALL := zin_ALL (by decide +kernel)
theorem kc_M_136 : Cond.constantLong RX11 136 (Int64.ofInt (7)) ∈ zALL := zin_ALL (by decide +kernel)
theorem kc_M_138 : Cond.constantLong RX11 138 (Int64.ofInt (11)) ∈ zALL := zin_ALL (by decide +kernel)
theorem kc_M_149 : Cond.constantLong RX11 149 (Int64.ofInt (99)) ∈ zALL := zin_ALL (by decide +kernel)
theorem kc_M_247 : Cond.constantLong RX11 247 (Int64.ofInt (-1)) ∈ zALL := zin_ALL (by decide +kernel)
theorem kc_M_274 : Cond.constantLong RX11 274 (Int64.ofInt (16)) ∈ zALL := zin_ALL (by decide +kernel)
theorem kc_M_298 : Cond.constantLong RX11 298 (Int64.ofInt (31)) ∈ zALL := zin_ALL (by decide +kernel)
theorem kc_M_309 : Cond.constantLong RX11 309 (Int64.ofInt (17)) ∈ zALL := zin_ALL (by decide +kernel)
theorem kc_M_288 : Cond.constant RX11 288 (Int32.ofInt (1103515245)) ∈ zALL := zin_ALL (by decide +kernel)
theorem fp_M_61 : zFP RX11 61 11 22 22 .int := ⟨rfl, _, _, _, rfl, by decide, zin_ALL (by decide +kernel), rfl, by decide +kernel⟩ -- LowerBowsModel.noOld
theorem fp_M_65 : zFP RX11 65 11 24 24 .int := ⟨rfl, _, _, _, rfl, by decide, zin_ALL (by decide +kernel), rfl, by decide +kernel⟩ -- LowerBowsModel.strolls
theorem fp_M_74 : zFP RX11 74 11 4 4 .int := ⟨rfl, _, _, _, rfl, by decide, zin_ALL (by decide +kernel), rfl, by decide +kernel⟩ -- LowerBowsModel.latest
theorem fp_M_109 : zFP RX11 109 11 7 7 .int := ⟨rfl, _, _, _, rfl, by decide, zin_ALL (by decide +kernel), rfl, by decide +kernel⟩ -- LowerBowsModel.people
theorem fp_M_122 : zFP RX11 122 11 9 9 .int := ⟨rfl, _, _, _, rfl, by decide, zin_ALL (by decide +kernel), rfl, by decide +kernel⟩ -- LowerBowsModel.walks
theorem fp_M_151 : zFP RX11 151 11 11 11 .int := ⟨rfl, _, _, _, rfl, by decide, zin_ALL (by decide +kernel), rfl, by decide +kernel⟩ -- LowerBowsModel.olds
theorem fp_M_154 : zFP RX11 154 11 13 13 .int := ⟨rfl, _, _, _, rfl, by decide, zin_ALL (by decide +kernel), rfl, by decide +kernel⟩ -- LowerBowsModel.umbrellas
theorem fp_M_169 : zFP RX11 169 11 23 23 .int := ⟨rfl, _, _, _, rfl, by decide, zin_ALL (by decide +kernel), rfl, by decide +kernel⟩ -- LowerBowsModel.forgotten
theorem fp_M_182 : zFP RX11 182 11 18 18 .int := ⟨rfl, _, _, _, rfl, by decide, zin_ALL (by decide +kernel), rfl, by decide +kernel⟩ -- LowerBowsModel.gone
theorem fp_M_185 : zFP RX11 185 11 19 19 .int := ⟨rfl, _, _, _, rfl, by decide, zin_ALL (by decide +kernel), rfl, by decide +kernel⟩ -- LowerBowsModel.bows
theorem fp_M_188 : zFP RX11 188 11 20 20 .int := ⟨rfl, _, _, _, rfl, by decide, zin_ALL (by decide +kernel), rfl, by decide +kernel⟩ -- LowerBowsModel.firstHour
theorem fp_M_191 : zFP RX11 191 11 21 21 .int := ⟨rfl, _, _, _, rfl, by decide, zin_ALL (by decide +kernel), rfl, by decide +kernel⟩ -- LowerBowsModel.firstWho
theorem fp_M_258 : zFP RX11 258 11 27 27 .int := ⟨rfl, _, _, _, rfl, by decide, zin_ALL (by decide +kernel), rfl, by decide +kernel⟩ -- LowerBowsModel.sights
theorem fp_M_289 : zFP RX11 289 11 30 30 .int := ⟨rfl, _, _, _, rfl, by decide, zin_ALL (by decide +kernel), rfl, by decide +kernel⟩ -- LowerBowsModel.drawn
theorem fl_Co_9 : zFL RX2 9 2 4 4 := ⟨rfl, _, _, _, rfl, by decide, zin_ALL (by decide +kernel)⟩ -- LowerBows$Coast.streets
theorem fl_Co_15 : zFL RX2 15 2 5 5 := ⟨rfl, _, _, _, rfl, by decide, zin_ALL (by decide +kernel)⟩ -- LowerBows$Coast.hidden
theorem fl_Co_18 : zFL RX2 18 2 6 6 := ⟨rfl, _, _, _, rfl, by decide, zin_ALL (by decide +kernel)⟩ -- LowerBows$Coast.dueAtFirst
theorem fl_Co_21 : zFL RX2 21 2 7 7 := ⟨rfl, _, _, _, rfl, by decide, zin_ALL (by decide +kernel)⟩ -- LowerBows$Coast.due
theorem fl_Co_24 : zFL RX2 24 2 8 8 := ⟨rfl, _, _, _, rfl, by decide, zin_ALL (by decide +kernel)⟩ -- LowerBows$Coast.lowest
theorem fl_Co_27 : zFL RX2 27 2 0 0 := ⟨rfl, _, _, _, rfl, by decide, zin_ALL (by decide +kernel)⟩ -- LowerBows$Coast.people
theorem fl_Co_31 : zFL RX2 31 2 1 1 := ⟨rfl, _, _, _, rfl, by decide, zin_ALL (by decide +kernel)⟩ -- LowerBows$Coast.walks
theorem fl_Co_35 : zFL RX2 35 2 2 2 := ⟨rfl, _, _, _, rfl, by decide, zin_ALL (by decide +kernel)⟩ -- LowerBows$Coast.olds
theorem fl_Co_39 : zFL RX2 39 2 3 3 := ⟨rfl, _, _, _, rfl, by decide, zin_ALL (by decide +kernel)⟩ -- LowerBows$Coast.umbrellas
theorem fl_Co_53 : zFL RX2 53 9 0 0 := ⟨rfl, _, _, _, rfl, by decide, zin_ALL (by decide +kernel)⟩ -- LowerBows$Walks.streets
theorem fl_Co_68 : zFL RX2 68 3 3 3 := ⟨rfl, _, _, _, rfl, by decide, zin_ALL (by decide +kernel)⟩ -- LowerBows$Ledger.size
theorem fl_Co_74 : zFL RX2 74 3 0 0 := ⟨rfl, _, _, _, rfl, by decide, zin_ALL (by decide +kernel)⟩ -- LowerBows$Ledger.one
theorem fl_Co_77 : zFL RX2 77 3 1 1 := ⟨rfl, _, _, _, rfl, by decide, zin_ALL (by decide +kernel)⟩ -- LowerBows$Ledger.two
theorem fl_Co_83 : zFL RX2 83 3 2 2 := ⟨rfl, _, _, _, rfl, by decide, zin_ALL (by decide +kernel)⟩ -- LowerBows$Ledger.three
theorem fl_Co_90 : zFL RX2 90 4 4 4 := ⟨rfl, _, _, _, rfl, by decide, zin_ALL (by decide +kernel)⟩ -- LowerBows$People.size
theorem fl_Co_93 : zFL RX2 93 4 0 0 := ⟨rfl, _, _, _, rfl, by decide, zin_ALL (by decide +kernel)⟩ -- LowerBows$People.kind
theorem fl_Co_96 : zFL RX2 96 4 3 3 := ⟨rfl, _, _, _, rfl, by decide, zin_ALL (by decide +kernel)⟩ -- LowerBows$People.step
theorem fl_Co_99 : zFL RX2 99 2 9 9 := ⟨rfl, _, _, _, rfl, by decide, zin_ALL (by decide +kernel)⟩ -- LowerBows$Coast.gone
theorem fl_Co_102 : zFL RX2 102 2 10 10 := ⟨rfl, _, _, _, rfl, by decide, zin_ALL (by decide +kernel)⟩ -- LowerBows$Coast.bows
theorem fl_Co_105 : zFL RX2 105 2 11 11 := ⟨rfl, _, _, _, rfl, by decide, zin_ALL (by decide +kernel)⟩ -- LowerBows$Coast.firstHour
theorem fl_Co_108 : zFL RX2 108 2 12 12 := ⟨rfl, _, _, _, rfl, by decide, zin_ALL (by decide +kernel)⟩ -- LowerBows$Coast.firstWho
theorem fl_Co_114 : zFL RX2 114 4 5 5 := ⟨rfl, _, _, _, rfl, by decide, zin_ALL (by decide +kernel)⟩ -- LowerBows$People.clergyBits
theorem fl_Co_133 : zFL RX2 133 4 1 1 := ⟨rfl, _, _, _, rfl, by decide, zin_ALL (by decide +kernel)⟩ -- LowerBows$People.can
theorem la_Co_56 : zLA RX2 56 := ⟨zin_ALL (by decide +kernel), zin_ALL (by decide +kernel), zin_ALL (by decide +kernel), zin_ALL (by decide +kernel)⟩
theorem lk_Co_62 : zLS RX2 62 m_Jarr_fill_53178 2 := ⟨zin_ALL (by decide +kernel), zin_ALL (by decide +kernel), zin_ALL (by decide +kernel), ⟨by decide +kernel, by decide +kernel, by decide +kernel⟩⟩
theorem lm_Co_120 : zLM RX2 120 Lib.Math.min.name Lib.Math.min.code 2 := ⟨zin_ALL (by decide +kernel), zin_ALL (by decide +kernel), zin_ALL (by decide +kernel), zin_ALL (by decide +kernel)⟩
theorem lm_Co_126 : zLM RX2 126 Lib.Math.max.name Lib.Math.max.code 2 := ⟨zin_ALL (by decide +kernel), zin_ALL (by decide +kernel), zin_ALL (by decide +kernel), zin_ALL (by decide +kernel)⟩
theorem lm_Co_129 : zLM RX2 129 Lib.Math.abs.name Lib.Math.abs.code 1 := ⟨zin_ALL (by decide +kernel), zin_ALL (by decide +kernel), zin_ALL (by decide +kernel), zin_ALL (by decide +kernel)⟩
theorem lk_Co_42 : zLV RX2 42 m_Co_layOut 2 2 := ⟨zin_ALL (by decide +kernel), zin_ALL (by decide +kernel), zin_ALL (by decide +kernel), zin_ALL (by decide +kernel), rfl, ⟨by decide +kernel, by decide +kernel, by decide +kernel⟩⟩
theorem lk_Co_46 : zLV RX2 46 m_Co_begin 2 0 := ⟨zin_ALL (by decide +kernel), zin_ALL (by decide +kernel), zin_ALL (by decide +kernel), zin_ALL (by decide +kernel), rfl, ⟨by decide +kernel, by decide +kernel, by decide +kernel⟩⟩
theorem lk_Co_49 : zLV RX2 49 m_Co_walkTo 2 1 := ⟨zin_ALL (by decide +kernel), zin_ALL (by decide +kernel), zin_ALL (by decide +kernel), zin_ALL (by decide +kernel), rfl, ⟨by decide +kernel, by decide +kernel, by decide +kernel⟩⟩
theorem lk_Co_80 : zLV RX2 80 m_Co_expectFirstBows 2 0 := ⟨zin_ALL (by decide +kernel), zin_ALL (by decide +kernel), zin_ALL (by decide +kernel), zin_ALL (by decide +kernel), rfl, ⟨by decide +kernel, by decide +kernel, by decide +kernel⟩⟩
theorem lk_Co_86 : zLV RX2 86 m_Co_expectAnswerTo 2 3 := ⟨zin_ALL (by decide +kernel), zin_ALL (by decide +kernel), zin_ALL (by decide +kernel), zin_ALL (by decide +kernel), rfl, ⟨by decide +kernel, by decide +kernel, by decide +kernel⟩⟩
theorem lk_Co_111 : zLV RX2 111 m_Co_walkThrough 2 1 := ⟨zin_ALL (by decide +kernel), zin_ALL (by decide +kernel), zin_ALL (by decide +kernel), zin_ALL (by decide +kernel), rfl, ⟨by decide +kernel, by decide +kernel, by decide +kernel⟩⟩
theorem lk_Co_117 : zLV RX2 117 m_Co_meet 2 2 := ⟨zin_ALL (by decide +kernel), zin_ALL (by decide +kernel), zin_ALL (by decide +kernel), zin_ALL (by decide +kernel), rfl, ⟨by decide +kernel, by decide +kernel, by decide +kernel⟩⟩
theorem lk_Co_136 : zLV RX2 136 m_Co_debt 2 2 := ⟨zin_ALL (by decide +kernel), zin_ALL (by decide +kernel), zin_ALL (by decide +kernel), zin_ALL (by decide +kernel), rfl, ⟨by decide +kernel, by decide +kernel, by decide +kernel⟩⟩
theorem lk_Co_140 : zLV RX2 140 m_Co_mayMeet 2 2 := ⟨zin_ALL (by decide +kernel), zin_ALL (by decide +kernel), zin_ALL (by decide +kernel), zin_ALL (by decide +kernel), rfl, ⟨by decide +kernel, by decide +kernel, by decide +kernel⟩⟩
theorem kc_Co_139 : Cond.constant RX2 139 (Int32.ofInt (1103515245)) ∈ zALL := zin_ALL (by decide +kernel)
theorem fp_Co_99 : zFP RX2 99 2 9 9 .int := ⟨rfl, _, _, _, rfl, by decide, zin_ALL (by decide +kernel), rfl, by decide +kernel⟩ -- LowerBows$Coast.gone
theorem fp_Co_102 : zFP RX2 102 2 10 10 .int := ⟨rfl, _, _, _, rfl, by decide, zin_ALL (by decide +kernel), rfl, by decide +kernel⟩ -- LowerBows$Coast.bows
theorem fp_Co_105 : zFP RX2 105 2 11 11 .int := ⟨rfl, _, _, _, rfl, by decide, zin_ALL (by decide +kernel), rfl, by decide +kernel⟩ -- LowerBows$Coast.firstHour
theorem fp_Co_108 : zFP RX2 108 2 12 12 .int := ⟨rfl, _, _, _, rfl, by decide, zin_ALL (by decide +kernel), rfl, by decide +kernel⟩ -- LowerBows$Coast.firstWho
theorem fl_Le_15 : zFL RX3 15 3 0 0 := ⟨rfl, _, _, _, rfl, by decide, zin_ALL (by decide +kernel)⟩ -- LowerBows$Ledger.one
theorem fl_Le_21 : zFL RX3 21 3 1 1 := ⟨rfl, _, _, _, rfl, by decide, zin_ALL (by decide +kernel)⟩ -- LowerBows$Ledger.two
theorem fl_Le_24 : zFL RX3 24 3 2 2 := ⟨rfl, _, _, _, rfl, by decide, zin_ALL (by decide +kernel)⟩ -- LowerBows$Ledger.three
theorem fl_Le_27 : zFL RX3 27 3 3 3 := ⟨rfl, _, _, _, rfl, by decide, zin_ALL (by decide +kernel)⟩ -- LowerBows$Ledger.size
theorem fp_Le_27 : zFP RX3 27 3 3 3 .int := ⟨rfl, _, _, _, rfl, by decide, zin_ALL (by decide +kernel), rfl, by decide +kernel⟩ -- LowerBows$Ledger.size
theorem fl_Pe_9 : zFL RX4 9 4 0 0 := ⟨rfl, _, _, _, rfl, by decide, zin_ALL (by decide +kernel)⟩ -- LowerBows$People.kind
theorem fl_Pe_15 : zFL RX4 15 4 1 1 := ⟨rfl, _, _, _, rfl, by decide, zin_ALL (by decide +kernel)⟩ -- LowerBows$People.can
theorem fl_Pe_18 : zFL RX4 18 4 2 2 := ⟨rfl, _, _, _, rfl, by decide, zin_ALL (by decide +kernel)⟩ -- LowerBows$People.lower
theorem fl_Pe_21 : zFL RX4 21 4 3 3 := ⟨rfl, _, _, _, rfl, by decide, zin_ALL (by decide +kernel)⟩ -- LowerBows$People.step
theorem fl_Pe_24 : zFL RX4 24 4 6 6 := ⟨rfl, _, _, _, rfl, by decide, zin_ALL (by decide +kernel)⟩ -- LowerBows$People.faultAt
theorem fl_Pe_32 : zFL RX4 32 4 4 4 := ⟨rfl, _, _, _, rfl, by decide, zin_ALL (by decide +kernel)⟩ -- LowerBows$People.size
theorem fl_Pe_35 : zFL RX4 35 4 5 5 := ⟨rfl, _, _, _, rfl, by decide, zin_ALL (by decide +kernel)⟩ -- LowerBows$People.clergyBits
theorem fl_Pe_38 : zFL RX4 38 8 1 1 := ⟨rfl, _, _, _, rfl, by decide, zin_ALL (by decide +kernel)⟩ -- LowerBows$Text.size
theorem fl_Pe_41 : zFL RX4 41 8 0 0 := ⟨rfl, _, _, _, rfl, by decide, zin_ALL (by decide +kernel)⟩ -- LowerBows$Text.bytes
theorem lk_Pe_28 : zLS RX4 28 m_Pe_faultOf 1 := ⟨zin_ALL (by decide +kernel), zin_ALL (by decide +kernel), zin_ALL (by decide +kernel), ⟨by decide +kernel, by decide +kernel, by decide +kernel⟩⟩
theorem lk_Pe_44 : zLS RX4 44 m_Pe_kindOf 1 := ⟨zin_ALL (by decide +kernel), zin_ALL (by decide +kernel), zin_ALL (by decide +kernel), ⟨by decide +kernel, by decide +kernel, by decide +kernel⟩⟩
theorem lk_Pe_48 : zLS RX4 48 m_Pe_goesOn 2 := ⟨zin_ALL (by decide +kernel), zin_ALL (by decide +kernel), zin_ALL (by decide +kernel), ⟨by decide +kernel, by decide +kernel, by decide +kernel⟩⟩
theorem lk_Pe_52 : zLN RX4 52 m_B_within 3 := ⟨by decide +kernel, rfl, zin_ALL (by decide +kernel), zin_ALL (by decide +kernel), ⟨by decide +kernel, by decide +kernel, by decide +kernel⟩⟩
theorem fp_Pe_24 : zFP RX4 24 4 6 6 .int := ⟨rfl, _, _, _, rfl, by decide, zin_ALL (by decide +kernel), rfl, by decide +kernel⟩ -- LowerBows$People.faultAt
theorem fp_Pe_32 : zFP RX4 32 4 4 4 .int := ⟨rfl, _, _, _, rfl, by decide, zin_ALL (by decide +kernel), rfl, by decide +kernel⟩ -- LowerBows$People.size
theorem fp_Pe_35 : zFP RX4 35 4 5 5 .int := ⟨rfl, _, _, _, rfl, by decide, zin_ALL (by decide +kernel), rfl, by decide +kernel⟩ -- LowerBows$People.clergyBits
theorem fl_Sh_9 : zFL RX5 9 5 1 1 := ⟨rfl, _, _, _, rfl, by decide, zin_ALL (by decide +kernel)⟩ -- LowerBows$ShadePlan.numbers
theorem fl_Sh_15 : zFL RX5 15 5 0 0 := ⟨rfl, _, _, _, rfl, by decide, zin_ALL (by decide +kernel)⟩ -- LowerBows$ShadePlan.coast
theorem fl_Sh_51 : zFL RX5 51 2 5 5 := ⟨rfl, _, _, _, rfl, by decide, zin_ALL (by decide +kernel)⟩ -- LowerBows$Coast.hidden
theorem fl_Sh_54 : zFL RX5 54 2 0 0 := ⟨rfl, _, _, _, rfl, by decide, zin_ALL (by decide +kernel)⟩ -- LowerBows$Coast.people
theorem fl_Sh_58 : zFL RX5 58 4 5 5 := ⟨rfl, _, _, _, rfl, by decide, zin_ALL (by decide +kernel)⟩ -- LowerBows$People.clergyBits
theorem fl_Sh_63 : zFL RX5 63 4 4 4 := ⟨rfl, _, _, _, rfl, by decide, zin_ALL (by decide +kernel)⟩ -- LowerBows$People.size
theorem fl_Sh_64 : zFL RX5 64 2 4 4 := ⟨rfl, _, _, _, rfl, by decide, zin_ALL (by decide +kernel)⟩ -- LowerBows$Coast.streets
theorem lk_Sh_19 : zLV RX5 19 m_Co_layOut 2 2 := ⟨zin_ALL (by decide +kernel), zin_ALL (by decide +kernel), zin_ALL (by decide +kernel), zin_ALL (by decide +kernel), rfl, ⟨by decide +kernel, by decide +kernel, by decide +kernel⟩⟩
theorem lk_Sh_25 : zLV RX5 25 m_Co_walkTillOneIsGone 2 0 := ⟨zin_ALL (by decide +kernel), zin_ALL (by decide +kernel), zin_ALL (by decide +kernel), zin_ALL (by decide +kernel), rfl, ⟨by decide +kernel, by decide +kernel, by decide +kernel⟩⟩
theorem lk_Sh_33 : zLV RX5 33 m_Sh_findOne 5 1 := ⟨zin_ALL (by decide +kernel), zin_ALL (by decide +kernel), zin_ALL (by decide +kernel), zin_ALL (by decide +kernel), rfl, ⟨by decide +kernel, by decide +kernel, by decide +kernel⟩⟩
theorem lk_Sh_37 : zLV RX5 37 m_Sh_findTwo 5 1 := ⟨zin_ALL (by decide +kernel), zin_ALL (by decide +kernel), zin_ALL (by decide +kernel), zin_ALL (by decide +kernel), rfl, ⟨by decide +kernel, by decide +kernel, by decide +kernel⟩⟩
theorem lk_Sh_40 : zLV RX5 40 m_Sh_numberThatHelps 5 2 := ⟨zin_ALL (by decide +kernel), zin_ALL (by decide +kernel), zin_ALL (by decide +kernel), zin_ALL (by decide +kernel), rfl, ⟨by decide +kernel, by decide +kernel, by decide +kernel⟩⟩
theorem lk_Sh_44 : zLV RX5 44 m_Sh_isWorthHiding 5 1 := ⟨zin_ALL (by decide +kernel), zin_ALL (by decide +kernel), zin_ALL (by decide +kernel), zin_ALL (by decide +kernel), rfl, ⟨by decide +kernel, by decide +kernel, by decide +kernel⟩⟩
theorem lk_Sh_47 : zLV RX5 47 m_Sh_toggle 5 1 := ⟨zin_ALL (by decide +kernel), zin_ALL (by decide +kernel), zin_ALL (by decide +kernel), zin_ALL (by decide +kernel), rfl, ⟨by decide +kernel, by decide +kernel, by decide +kernel⟩⟩
theorem fp_Sh_29 : zFP RX5 29 5 2 2 .int := ⟨rfl, _, _, _, rfl, by decide, zin_ALL (by decide +kernel), rfl, by decide +kernel⟩ -- LowerBows$ShadePlan.size
theorem fl_Se_9 : zFL RX6 9 6 0 0 := ⟨rfl, _, _, _, rfl, by decide, zin_ALL (by decide +kernel)⟩ -- LowerBows$Sheet.items
theorem fl_Se_15 : zFL RX6 15 6 1 1 := ⟨rfl, _, _, _, rfl, by decide, zin_ALL (by decide +kernel)⟩ -- LowerBows$Sheet.lost
theorem fl_Se_25 : zFL RX6 25 6 2 2 := ⟨rfl, _, _, _, rfl, by decide, zin_ALL (by decide +kernel)⟩ -- LowerBows$Sheet.form
theorem fl_Se_29 : zFL RX6 29 6 3 3 := ⟨rfl, _, _, _, rfl, by decide, zin_ALL (by decide +kernel)⟩ -- LowerBows$Sheet.size
theorem lk_Se_19 : zLS RX6 19 m_Jarr_fill_53178 2 := ⟨zin_ALL (by decide +kernel), zin_ALL (by decide +kernel), zin_ALL (by decide +kernel), ⟨by decide +kernel, by decide +kernel, by decide +kernel⟩⟩
theorem lk_Se_32 : zLN RX6 32 m_B_within 3 := ⟨by decide +kernel, rfl, zin_ALL (by decide +kernel), zin_ALL (by decide +kernel), ⟨by decide +kernel, by decide +kernel, by decide +kernel⟩⟩
theorem fp_Se_15 : zFP RX6 15 6 1 1 .boolean := ⟨rfl, _, _, _, rfl, by decide, zin_ALL (by decide +kernel), rfl, by decide +kernel⟩ -- LowerBows$Sheet.lost
theorem fp_Se_25 : zFP RX6 25 6 2 2 .int := ⟨rfl, _, _, _, rfl, by decide, zin_ALL (by decide +kernel), rfl, by decide +kernel⟩ -- LowerBows$Sheet.form
theorem fp_Se_29 : zFP RX6 29 6 3 3 .int := ⟨rfl, _, _, _, rfl, by decide, zin_ALL (by decide +kernel), rfl, by decide +kernel⟩ -- LowerBows$Sheet.size
theorem fl_St_11 : zFL RX7 11 7 1 1 := ⟨rfl, _, _, _, rfl, by decide, zin_ALL (by decide +kernel)⟩ -- LowerBows$StrollPlan.row
theorem fl_St_15 : zFL RX7 15 7 2 2 := ⟨rfl, _, _, _, rfl, by decide, zin_ALL (by decide +kernel)⟩ -- LowerBows$StrollPlan.best
theorem fl_St_18 : zFL RX7 18 7 0 0 := ⟨rfl, _, _, _, rfl, by decide, zin_ALL (by decide +kernel)⟩ -- LowerBows$StrollPlan.coast
theorem fl_St_46 : zFL RX7 46 2 4 4 := ⟨rfl, _, _, _, rfl, by decide, zin_ALL (by decide +kernel)⟩ -- LowerBows$Coast.streets
theorem fl_St_56 : zFL RX7 56 2 9 9 := ⟨rfl, _, _, _, rfl, by decide, zin_ALL (by decide +kernel)⟩ -- LowerBows$Coast.gone
theorem fl_St_62 : zFL RX7 62 2 8 8 := ⟨rfl, _, _, _, rfl, by decide, zin_ALL (by decide +kernel)⟩ -- LowerBows$Coast.lowest
theorem la_St_32 : zLA RX7 32 := ⟨zin_ALL (by decide +kernel), zin_ALL (by decide +kernel), zin_ALL (by decide +kernel), zin_ALL (by decide +kernel)⟩
theorem lk_St_42 : zLN RX7 42 m_B_within 3 := ⟨by decide +kernel, rfl, zin_ALL (by decide +kernel), zin_ALL (by decide +kernel), ⟨by decide +kernel, by decide +kernel, by decide +kernel⟩⟩
theorem lk_St_57 : zLS RX7 57 m_Jint_bitCount_0f7a4 1 := ⟨zin_ALL (by decide +kernel), zin_ALL (by decide +kernel), zin_ALL (by decide +kernel), ⟨by decide +kernel, by decide +kernel, by decide +kernel⟩⟩
theorem lk_St_22 : zLV RX7 22 m_Co_layOut 2 2 := ⟨zin_ALL (by decide +kernel), zin_ALL (by decide +kernel), zin_ALL (by decide +kernel), zin_ALL (by decide +kernel), rfl, ⟨by decide +kernel, by decide +kernel, by decide +kernel⟩⟩
theorem lk_St_28 : zLV RX7 28 m_St_costFor 7 1 := ⟨zin_ALL (by decide +kernel), zin_ALL (by decide +kernel), zin_ALL (by decide +kernel), zin_ALL (by decide +kernel), rfl, ⟨by decide +kernel, by decide +kernel, by decide +kernel⟩⟩
theorem lk_St_49 : zLV RX7 49 m_Co_begin 2 0 := ⟨zin_ALL (by decide +kernel), zin_ALL (by decide +kernel), zin_ALL (by decide +kernel), zin_ALL (by decide +kernel), rfl, ⟨by decide +kernel, by decide +kernel, by decide +kernel⟩⟩
theorem lk_St_52 : zLV RX7 52 m_Co_walkTo 2 1 := ⟨zin_ALL (by decide +kernel), zin_ALL (by decide +kernel), zin_ALL (by decide +kernel), zin_ALL (by decide +kernel), rfl, ⟨by decide +kernel, by decide +kernel, by decide +kernel⟩⟩
theorem fp_St_38 : zFP RX7 38 7 3 3 .int := ⟨rfl, _, _, _, rfl, by decide, zin_ALL (by decide +kernel), rfl, by decide +kernel⟩ -- LowerBows$StrollPlan.gone
theorem fl_Tx_13 : zFL RX8 13 8 0 0 := ⟨rfl, _, _, _, rfl, by decide, zin_ALL (by decide +kernel)⟩ -- LowerBows$Text.bytes
theorem fl_Tx_19 : zFL RX8 19 8 1 1 := ⟨rfl, _, _, _, rfl, by decide, zin_ALL (by decide +kernel)⟩ -- LowerBows$Text.size
theorem fp_Tx_19 : zFP RX8 19 8 1 1 .int := ⟨rfl, _, _, _, rfl, by decide, zin_ALL (by decide +kernel), rfl, by decide +kernel⟩ -- LowerBows$Text.size
theorem fl_Wa_9 : zFL RX9 9 9 0 0 := ⟨rfl, _, _, _, rfl, by decide, zin_ALL (by decide +kernel)⟩ -- LowerBows$Walks.streets
theorem fl_Wa_15 : zFL RX9 15 9 2 2 := ⟨rfl, _, _, _, rfl, by decide, zin_ALL (by decide +kernel)⟩ -- LowerBows$Walks.faultAt
theorem fl_Wa_25 : zFL RX9 25 8 1 1 := ⟨rfl, _, _, _, rfl, by decide, zin_ALL (by decide +kernel)⟩ -- LowerBows$Text.size
theorem fl_Wa_30 : zFL RX9 30 8 0 0 := ⟨rfl, _, _, _, rfl, by decide, zin_ALL (by decide +kernel)⟩ -- LowerBows$Text.bytes
theorem lk_Wa_19 : zLS RX9 19 m_Jarr_fill_53178 2 := ⟨zin_ALL (by decide +kernel), zin_ALL (by decide +kernel), zin_ALL (by decide +kernel), ⟨by decide +kernel, by decide +kernel, by decide +kernel⟩⟩
theorem lk_Wa_33 : zLN RX9 33 m_B_within 3 := ⟨by decide +kernel, rfl, zin_ALL (by decide +kernel), zin_ALL (by decide +kernel), ⟨by decide +kernel, by decide +kernel, by decide +kernel⟩⟩
theorem fp_Wa_15 : zFP RX9 15 9 2 2 .int := ⟨rfl, _, _, _, rfl, by decide, zin_ALL (by decide +kernel), rfl, by decide +kernel⟩ -- LowerBows$Walks.faultAt
theorem fp_Wa_37 : zFP RX9 37 9 1 1 .int := ⟨rfl, _, _, _, rfl, by decide, zin_ALL (by decide +kernel), rfl, by decide +kernel⟩ -- LowerBows$Walks.size
end
section
/-! ===== Int32 by its bits: bt x i ===== -/
def bt (x : Int32) (i : Nat) : Bool := x.toBitVec.getLsbD i
theorem b_ext {x y : Int32} (h : ∀ i, i < 32 → bt x i = bt y i) : x = y := Int32.toBitVec_inj.mp (BitVec.eq_of_getLsbD_eq (fun i hi => h i hi))
theorem b_or (x y : Int32) (i : Nat) : bt (x ||| y) i = (bt x i || bt y i) := by unfold bt; rw [Int32.toBitVec_or, BitVec.getLsbD_or]
theorem b_and (x y : Int32) (i : Nat) : bt (x &&& y) i = (bt x i && bt y i) := by unfold bt; rw [Int32.toBitVec_and, BitVec.getLsbD_and]
theorem b_xor (x y : Int32) (i : Nat) : bt (x ^^^ y) i = (bt x i ^^ bt y i) := by unfold bt; rw [Int32.toBitVec_xor, BitVec.getLsbD_xor]
theorem b_big {x : Int32} {i : Nat} (h : 32 ≤ i) : bt x i = false := BitVec.getLsbD_of_ge _ _ h
theorem b_255 (i : Nat) : bt 255 i = decide (i < 8) := by
  rcases Nat.lt_or_ge i 32 with h | h
  · exact (by decide +kernel : ∀ i, i < 32 → bt 255 i = decide (i < 8)) i h
  · rw [b_big h, decide_eq_false (by omega)]
theorem b_65535 (i : Nat) : bt 65535 i = decide (i < 16) := by
  rcases Nat.lt_or_ge i 32 with h | h
  · exact (by decide +kernel : ∀ i, i < 32 → bt 65535 i = decide (i < 16)) i h
  · rw [b_big h, decide_eq_false (by omega)]
theorem b_m1 : ∀ i, i < 32 → bt (-1) i = true := by decide +kernel
theorem b_0 (i : Nat) : bt 0 i = false := BitVec.getLsbD_zero
theorem s_l : ∀ n, n < 32 → ((nI n &&& 31).toBitVec.smod 32).toNat = n := by decide +kernel
theorem s_u : ∀ n, n < 32 → (((nI n).toUInt32 &&& Int32.toUInt32 31).toBitVec % 32).toNat = n := by decide +kernel
theorem b_shl (n : Nat) (hn : n < 32) (x : Int32) {i : Nat} (hi : i < 32) : bt (x <<< (nI n &&& 31)) i = (decide (n ≤ i) && bt x (i - n)) := by
  unfold bt
  rw [Int32.toBitVec_shiftLeft]
  show (x.toBitVec <<< ((nI n &&& 31).toBitVec.smod 32).toNat).getLsbD i = _
  rw [s_l n hn, BitVec.getLsbD_shiftLeft]
  rcases Nat.lt_or_ge i n with h | h
  · simp [h, Nat.not_le.mpr h]
  · simp [hi, h, Nat.not_lt.mpr h]
theorem b_ushr (n : Nat) (hn : n < 32) (x : Int32) (i : Nat) : bt ((x.toUInt32 >>> ((nI n).toUInt32 &&& Int32.toUInt32 31)).toInt32) i = bt x (n + i) := by
  show (x.toUInt32 >>> ((nI n).toUInt32 &&& Int32.toUInt32 31)).toBitVec.getLsbD i = x.toUInt32.toBitVec.getLsbD (n + i)
  rw [UInt32.toBitVec_shiftRight]
  show (x.toUInt32.toBitVec >>> (((nI n).toUInt32 &&& Int32.toUInt32 31).toBitVec % 32).toNat).getLsbD i = _
  rw [s_u n hn, BitVec.getLsbD_ushiftRight]
theorem b_sshr (n : Nat) (hn : n < 32) (x : Int32) {i : Nat} (hi : i < 32) : bt (x >>> (nI n &&& 31)) i = if n + i < 32 then bt x (n + i) else bt x 31 := by
  unfold bt
  rw [Int32.toBitVec_shiftRight]
  show (x.toBitVec.sshiftRight ((nI n &&& 31).toBitVec.smod 32).toNat).getLsbD i = _
  rw [s_l n hn, BitVec.getLsbD_sshiftRight, BitVec.msb_eq_getLsbD_last]
  simp [hi]
/-! ===== numbers: the machine's and, or, shifts, division in Int; memory; loops ===== -/
theorem znI {x : Int} (h : 0 ≤ x) : Int32.ofInt x = nI x.toNat := by
  obtain ⟨n, rfl⟩ := Int.eq_ofNat_of_zero_le h
  simp [nI, Int32.ofInt_eq_ofNat]
theorem zdiv_nn {x y : Int} (hx : 0 ≤ x ∧ x < 2147483648) (hy : 0 < y ∧ y < 2147483648) : zdiv x y = x / y := by
  have e : Int32.ofInt x / Int32.ofInt y = nI (x.toNat / y.toNat) := by
    rw [znI hx.1, znI (by omega : 0 ≤ y), pk_div (by omega) (by omega) (by omega)]
  have hle : x.toNat / y.toNat ≤ x.toNat := Nat.div_le_self _ _
  unfold zdiv
  rw [e, nI_toInt (by omega), Int.natCast_ediv, Int.toNat_of_nonneg hx.1, Int.toNat_of_nonneg (by omega : 0 ≤ y)]
theorem zrem_nn {x y : Int} (hx : 0 ≤ x ∧ x < 2147483648) (hy : 0 < y ∧ y < 2147483648) : zrem x y = x % y := by
  have e : Int32.ofInt x - Int32.ofInt x / Int32.ofInt y * Int32.ofInt y = nI (x.toNat % y.toNat) := by
    rw [znI hx.1, znI (by omega : 0 ≤ y), pk_rem (by omega) (by omega) (by omega)]
  have hle : x.toNat % y.toNat ≤ x.toNat := Nat.mod_le _ _
  unfold zrem
  rw [e, nI_toInt (by omega), Int.natCast_emod, Int.toNat_of_nonneg hx.1, Int.toNat_of_nonneg (by omega : 0 ≤ y)]
theorem zR32 (x : Int32) : -2147483648 ≤ x.toInt ∧ x.toInt < 2147483648 := by
  have h1 := Int32.le_toInt x
  have h2 := Int32.toInt_lt x
  omega
theorem zR_and (x y : Int) : -2147483648 ≤ zand x y ∧ zand x y < 2147483648 := zR32 _
theorem zR_or (x y : Int) : -2147483648 ≤ zor x y ∧ zor x y < 2147483648 := zR32 _
theorem zR_xor (x y : Int) : -2147483648 ≤ zxor x y ∧ zxor x y < 2147483648 := zR32 _
theorem zR_shl (x y : Int) : -2147483648 ≤ zshl x y ∧ zshl x y < 2147483648 := zR32 _
theorem zR_shr (x y : Int) : -2147483648 ≤ zshr x y ∧ zshr x y < 2147483648 := zR32 _
/-- the bits of an int -/
def tb (x : Int) (i : Nat) : Bool := bt (Int32.ofInt x) i
theorem tb_and (x y : Int) (i : Nat) : tb (zand x y) i = (tb x i && tb y i) := by unfold tb zand; rw [zof32, b_and]
theorem tb_or (x y : Int) (i : Nat) : tb (zor x y) i = (tb x i || tb y i) := by unfold tb zor; rw [zof32, b_or]
theorem tb_xor (x y : Int) (i : Nat) : tb (zxor x y) i = (tb x i ^^ tb y i) := by unfold tb zxor; rw [zof32, b_xor]
theorem tb_0 (i : Nat) : tb 0 i = false := b_0 i
theorem tb_1 (i : Nat) : tb 1 i = decide (i = 0) := by
  rcases Nat.lt_or_ge i 32 with h | h
  · exact (by decide +kernel : ∀ i, i < 32 → tb 1 i = decide (i = 0)) i h
  · unfold tb; rw [b_big h, decide_eq_false (by omega)]
theorem tb_shl1 {k : Int} (hk : 0 ≤ k ∧ k < 32) {i : Nat} (hi : i < 32) : tb (zshl 1 k) i = decide (i = k.toNat) := by
  unfold tb zshl
  rw [zof32, znI hk.1, b_shl _ (by omega) _ hi]
  have h1 : bt (Int32.ofInt 1) (i - k.toNat) = decide (i - k.toNat = 0) := tb_1 _
  rw [h1]
  by_cases h : i = k.toNat
  · simp [h]
  · simp only [h, decide_false]
    by_cases h2 : k.toNat ≤ i
    · have : ¬ (i - k.toNat = 0) := by omega
      simp [this]
    · simp [h2]
theorem tb_ext {x y : Int} (hx : -2147483648 ≤ x ∧ x < 2147483648) (hy : -2147483648 ≤ y ∧ y < 2147483648) (h : ∀ i, i < 32 → tb x i = tb y i) : x = y := by
  have := b_ext (x := Int32.ofInt x) (y := Int32.ofInt y) h
  have := congrArg Int32.toInt this
  rwa [zto32 hx, zto32 hy] at this
/-- one bit, as the programs ask for it -/
theorem tb_ask {k : Int} (x : Int) (hk : 0 ≤ k ∧ k < 32) : zand (zshr x k) 1 = if tb x k.toNat then 1 else 0 := by
  apply tb_ext (zR_and _ _)
  · split <;> omega
  · intro i hi
    rw [tb_and, tb_1]
    unfold zshr
    have h1 : tb (Int32.ofInt x >>> (Int32.ofInt k &&& 31)).toInt i = if k.toNat + i < 32 then bt (Int32.ofInt x) (k.toNat + i) else bt (Int32.ofInt x) 31 := by
      unfold tb
      rw [zof32, znI hk.1, b_sshr _ (by omega) _ hi]
    rw [h1]
    by_cases h0 : i = 0
    · subst h0
      rw [if_pos (by omega), Nat.add_zero]
      show (tb x k.toNat && _) = _
      cases htb : tb x k.toNat <;> simp [tb_0, tb_1]
    · simp only [h0, decide_false, Bool.and_false]
      cases htb : tb x k.toNat <;> simp [tb_0, tb_1, h0]
theorem tb_ask0 {k : Int} (x : Int) (hk : 0 ≤ k ∧ k < 32) : zand (zshr x k) 1 = 0 ↔ tb x k.toNat = false := by
  rw [tb_ask x hk]; cases tb x k.toNat <;> simp
theorem tb_ask1 {k : Int} (x : Int) (hk : 0 ≤ k ∧ k < 32) : zand (zshr x k) 1 = 1 ↔ tb x k.toNat = true := by
  rw [tb_ask x hk]; cases tb x k.toNat <;> simp
theorem z8or : ∀ g, g < 256 → ∀ k, k < 8 → 0 ≤ zor ((g : Nat) : Int) (zshl 1 ((k : Nat) : Int)) ∧ zor ((g : Nat) : Int) (zshl 1 ((k : Nat) : Int)) < 256 := by decide +kernel
theorem z8or' {g k : Int} (hg : 0 ≤ g ∧ g < 256) (hk : 0 ≤ k ∧ k < 8) : 0 ≤ zor g (zshl 1 k) ∧ zor g (zshl 1 k) < 256 := by
  have := z8or g.toNat (by omega) k.toNat (by omega)
  rwa [Int.toNat_of_nonneg hg.1, Int.toNat_of_nonneg hk.1] at this
theorem tb_zero {x : Int} (hx : 0 ≤ x ∧ x < 256) : x = 0 ↔ ∀ i, i < 8 → tb x i = false := by
  have h : ∀ n, n < 256 → (((n : Nat) : Int) = 0 ↔ ∀ i, i < 8 → tb ((n : Nat) : Int) i = false) := by decide +kernel
  have := h x.toNat (by omega)
  rwa [Int.toNat_of_nonneg hx.1] at this
theorem tb_high {x : Int} (hx : 0 ≤ x ∧ x < 256) {i : Nat} (hi : 8 ≤ i ∧ i < 32) : tb x i = false := by
  have h : ∀ n, n < 256 → ∀ i, i < 32 → 8 ≤ i → tb ((n : Nat) : Int) i = false := by decide +kernel
  have := h x.toNat (by omega) i hi.2 hi.1
  rwa [Int.toNat_of_nonneg hx.1] at this
/-! memory -/
theorem zset_ne {mem : zMem} {k k2 : Nat} {i v : Int} (h : k2 ≠ k) : zset mem k i v k2 = mem k2 := by
  have hb : Nat.beq k2 k = false := by
    cases hq : Nat.beq k2 k with
    | false => rfl
    | true => exact absurd (Nat.eq_of_beq_eq_true hq) h
  simp [zset, zput, hb]
theorem zset_eq {mem : zMem} {k : Nat} {i v : Int} : zset mem k i v k = zupd (mem k) i v := by simp [zset, zput]
theorem zput_ne {mem : zMem} {k k2 : Nat} {f : Int → Int} (h : k2 ≠ k) : zput mem k f k2 = mem k2 := by
  have hb : Nat.beq k2 k = false := by
    cases hq : Nat.beq k2 k with
    | false => rfl
    | true => exact absurd (Nat.eq_of_beq_eq_true hq) h
  simp [zput, hb]
theorem zput_eq {mem : zMem} {k : Nat} {f : Int → Int} : zput mem k f k = f := by simp [zput]
theorem zupd_eq {f : Int → Int} {i v : Int} : zupd f i v i = v := by simp [zupd]
theorem zupd_ne {f : Int → Int} {i v j : Int} (h : j ≠ i) : zupd f i v j = f j := by simp [zupd, h]
/-- the same but for these cells -/
def zfr (L : List Nat) (mem m2 : zMem) : Prop := ∀ k, k ∉ L → m2 k = mem k
theorem zfr.rf {L : List Nat} {mem : zMem} : zfr L mem mem := fun _ _ => rfl
theorem zfr.set {L : List Nat} {mem m2 : zMem} {k : Nat} {i v : Int} (h : zfr L mem m2) (hk : k ∈ L) : zfr L mem (zset m2 k i v) := fun j hj => (zset_ne (fun e : j = k => hj (by rw [e]; exact hk))).trans (h j hj)
theorem zfr.put {L : List Nat} {mem m2 : zMem} {k : Nat} {f : Int → Int} (h : zfr L mem m2) (hk : k ∈ L) : zfr L mem (zput m2 k f) := fun j hj => (zput_ne (fun e : j = k => hj (by rw [e]; exact hk))).trans (h j hj)
theorem zfr.trans {L : List Nat} {mem m2 m3 : zMem} (h : zfr L mem m2) (h2 : zfr L m2 m3) : zfr L mem m3 := fun j hj => (h2 j hj).trans (h j hj)
theorem zfr.mono {L L2 : List Nat} {mem m2 : zMem} (h : zfr L mem m2) (hs : ∀ k ∈ L, k ∈ L2) : zfr L2 mem m2 := fun j hj => h j (fun q => hj (hs j q))
/-- a loop: k rounds from i on -/
def lp {σ : Type} (f : Int → σ → σ) : Nat → Int → σ → σ
  | 0, _, s => s
  | k + 1, i, s => lp f k (i + 1) (f i s)
theorem lp_s {σ : Type} (f : Int → σ → σ) (k : Nat) (i : Int) (s : σ) : lp f (k + 1) i s = lp f k (i + 1) (f i s) := rfl
theorem lp_inv {σ : Type} {f : Int → σ → σ} {I : σ → Prop} : ∀ (k : Nat) (i : Int) (s : σ), (∀ j s, i ≤ j → j < i + k → I s → I (f j s)) → I s → I (lp f k i s)
  | 0, _, _, _, h => h
  | k + 1, i, s, hf, h => lp_inv k (i + 1) (f i s) (fun j s h1 h2 => hf j s (by omega) (by omega)) (hf i s (by omega) (by omega) h)
theorem lp_congr {σ : Type} {f g : Int → σ → σ} : ∀ (k : Nat) (i : Int) (s : σ), (∀ j s, i ≤ j → j < i + k → f j s = g j s) → lp f k i s = lp g k i s
  | 0, _, _, _ => rfl
  | k + 1, i, s, h => by
    rw [lp_s, lp_s, h i s (by omega) (by omega)]
    exact lp_congr k (i + 1) _ (fun j s h1 h2 => h j s (by omega) (by omega))
end
section
/-! ===== the class's small methods ===== -/
abbrev zR (x : Int) : Prop := -2147483648 ≤ x ∧ x < 2147483648
section
variable {mem : zMem}
theorem ct_B_within {v a b : Int} (h : (zR v ∧ zR a) ∧ zR b) : zCbp m_B_within [vi v, vi a, vi b] mem (decide (a ≤ v ∧ v ≤ b)) := by
  refine zCt.of [some (vi v), some (vi a), some (vi b)] ok_B_within (Nat.le_of_ble_eq_true rfl) rfl ?_
  refine zw_iload_n ok_B_within rfl rfl ?_
  refine zw_iload_n ok_B_within rfl rfl ?_
  refine zw_icmp_lt 14 ok_B_within rfl (by decide) (by omega) (fun h2 => ?_) (fun h2 => ?_)
  · refine zw_iconst ok_B_within rfl ?_
    exact zw_zret ok_B_within rfl rfl (by first | exact Or.inl rfl | exact Or.inr rfl | exact bi01 _) (⟨by first | rw [bi_t (by omega)] | rw [bi_f (by omega)], rfl⟩)
  · refine zw_iload_n ok_B_within rfl rfl ?_
    refine zw_iload_n ok_B_within rfl rfl ?_
    refine zw_icmp_gt 14 ok_B_within rfl (by decide) (by omega) (fun h7 => ?_) (fun h7 => ?_)
    · refine zw_iconst ok_B_within rfl ?_
      exact zw_zret ok_B_within rfl rfl (by first | exact Or.inl rfl | exact Or.inr rfl | exact bi01 _) (⟨by first | rw [bi_t (by omega)] | rw [bi_f (by omega)], rfl⟩)
    · refine zw_iconst ok_B_within rfl ?_
      refine zw_goto 15 ok_B_within rfl (by decide) ?_
      exact zw_zret ok_B_within rfl rfl (by first | exact Or.inl rfl | exact Or.inr rfl | exact bi01 _) (⟨by first | rw [bi_t (by omega)] | rw [bi_f (by omega)], rfl⟩)
theorem ct_B_isText {v : Int} (h : zR v) : zCbp m_B_isText [vi v] mem (decide (0 ≤ v ∧ v ≤ 1)) := by
  refine zCt.of [some (vi v)] ok_B_isText (Nat.le_of_ble_eq_true rfl) rfl ?_
  refine zw_iload_n ok_B_isText rfl rfl ?_
  refine zw_iconst ok_B_isText rfl ?_
  refine zw_iconst ok_B_isText rfl ?_
  refine zw_Sbp ok_B_isText rfl ok_B_within lk_B_100 (by decide) rfl (Nat.le_of_ble_eq_true rfl) (ct_B_within (by omega)) ?_
  exact zw_zret ok_B_isText rfl rfl (by first | exact Or.inl rfl | exact Or.inr rfl | exact bi01 _) (⟨rfl, rfl⟩)
theorem ct_B_isHour {v : Int} (h : zR v) : zCbp m_B_isHour [vi v] mem (decide (0 ≤ v ∧ v ≤ 11)) := by
  refine zCt.of [some (vi v)] ok_B_isHour (Nat.le_of_ble_eq_true rfl) rfl ?_
  refine zw_iload_n ok_B_isHour rfl rfl ?_
  refine zw_iconst ok_B_isHour rfl ?_
  refine zw_bipush ok_B_isHour rfl (by decide) ?_
  refine zw_Sbp ok_B_isHour rfl ok_B_within lk_B_100 (by decide) rfl (Nat.le_of_ble_eq_true rfl) (ct_B_within (by omega)) ?_
  exact zw_zret ok_B_isHour rfl rfl (by first | exact Or.inl rfl | exact Or.inr rfl | exact bi01 _) (⟨rfl, rfl⟩)
theorem ct_B_isSheet {v : Int} (h : zR v) : zCbp m_B_isSheet [vi v] mem (decide (0 ≤ v ∧ v ≤ 3)) := by
  refine zCt.of [some (vi v)] ok_B_isSheet (Nat.le_of_ble_eq_true rfl) rfl ?_
  refine zw_iload_n ok_B_isSheet rfl rfl ?_
  refine zw_iconst ok_B_isSheet rfl ?_
  refine zw_iconst ok_B_isSheet rfl ?_
  refine zw_Sbp ok_B_isSheet rfl ok_B_within lk_B_100 (by decide) rfl (Nat.le_of_ble_eq_true rfl) (ct_B_within (by omega)) ?_
  exact zw_zret ok_B_isSheet rfl rfl (by first | exact Or.inl rfl | exact Or.inr rfl | exact bi01 _) (⟨rfl, rfl⟩)
theorem ct_B_isForm {v : Int} (h : zR v) : zCbp m_B_isForm [vi v] mem (decide (0 ≤ v ∧ v ≤ 2)) := by
  refine zCt.of [some (vi v)] ok_B_isForm (Nat.le_of_ble_eq_true rfl) rfl ?_
  refine zw_iload_n ok_B_isForm rfl rfl ?_
  refine zw_iconst ok_B_isForm rfl ?_
  refine zw_iconst ok_B_isForm rfl ?_
  refine zw_Sbp ok_B_isForm rfl ok_B_within lk_B_100 (by decide) rfl (Nat.le_of_ble_eq_true rfl) (ct_B_within (by omega)) ?_
  exact zw_zret ok_B_isForm rfl rfl (by first | exact Or.inl rfl | exact Or.inr rfl | exact bi01 _) (⟨rfl, rfl⟩)
theorem ct_B_mayBeOld {a b c : Int} (h : (zR a ∧ zR b) ∧ zR c) : zCbp m_B_mayBeOld [vi a, vi b, vi c] mem (decide ((0 ≤ a ∧ a ≤ 7) ∧ (0 ≤ b ∧ b ≤ 7) ∧ a ≠ b ∧ 1 ≤ c ∧ c ≤ 99)) := by
  refine zCt.of [some (vi a), some (vi b), some (vi c)] ok_B_mayBeOld (Nat.le_of_ble_eq_true rfl) rfl ?_
  refine zw_iload_n ok_B_mayBeOld rfl rfl ?_
  refine zw_iconst ok_B_mayBeOld rfl ?_
  refine zw_bipush ok_B_mayBeOld rfl (by decide) ?_
  refine zw_Sbp ok_B_mayBeOld rfl ok_B_within lk_B_100 (by decide) rfl (Nat.le_of_ble_eq_true rfl) (ct_B_within (by omega)) ?_
  first | refine zw_ifeq_d 39 ok_B_mayBeOld rfl (by decide) (fun h7 => ?_) (fun h7 => ?_) | refine zw_ifeq_b 39 ok_B_mayBeOld rfl (by decide) (fun h7 => ?_) (fun h7 => ?_) | refine zw_if_eq 39 ok_B_mayBeOld rfl (by decide) (by omega) (fun h7 => ?_) (fun h7 => ?_)
  · refine zw_iconst ok_B_mayBeOld rfl ?_
    exact zw_zret ok_B_mayBeOld rfl rfl (by first | exact Or.inl rfl | exact Or.inr rfl | exact bi01 _) (⟨by first | rw [bi_t (by omega)] | rw [bi_f (by omega)], rfl⟩)
  · refine zw_iload_n ok_B_mayBeOld rfl rfl ?_
    refine zw_iconst ok_B_mayBeOld rfl ?_
    refine zw_bipush ok_B_mayBeOld rfl (by decide) ?_
    refine zw_Sbp ok_B_mayBeOld rfl ok_B_within lk_B_100 (by decide) rfl (Nat.le_of_ble_eq_true rfl) (ct_B_within (by omega)) ?_
    first | refine zw_ifeq_d 39 ok_B_mayBeOld rfl (by decide) (fun h17 => ?_) (fun h17 => ?_) | refine zw_ifeq_b 39 ok_B_mayBeOld rfl (by decide) (fun h17 => ?_) (fun h17 => ?_) | refine zw_if_eq 39 ok_B_mayBeOld rfl (by decide) (by omega) (fun h17 => ?_) (fun h17 => ?_)
    · refine zw_iconst ok_B_mayBeOld rfl ?_
      exact zw_zret ok_B_mayBeOld rfl rfl (by first | exact Or.inl rfl | exact Or.inr rfl | exact bi01 _) (⟨by first | rw [bi_t (by omega)] | rw [bi_f (by omega)], rfl⟩)
    · refine zw_iload_n ok_B_mayBeOld rfl rfl ?_
      refine zw_iload_n ok_B_mayBeOld rfl rfl ?_
      refine zw_icmp_eq 39 ok_B_mayBeOld rfl (by decide) (by omega) (fun h22 => ?_) (fun h22 => ?_)
      · refine zw_iconst ok_B_mayBeOld rfl ?_
        exact zw_zret ok_B_mayBeOld rfl rfl (by first | exact Or.inl rfl | exact Or.inr rfl | exact bi01 _) (⟨by first | rw [bi_t (by omega)] | rw [bi_f (by omega)], rfl⟩)
      · refine zw_iload_n ok_B_mayBeOld rfl rfl ?_
        refine zw_iconst ok_B_mayBeOld rfl ?_
        refine zw_bipush ok_B_mayBeOld rfl (by decide) ?_
        refine zw_Sbp ok_B_mayBeOld rfl ok_B_within lk_B_100 (by decide) rfl (Nat.le_of_ble_eq_true rfl) (ct_B_within (by omega)) ?_
        first | refine zw_ifeq_d 39 ok_B_mayBeOld rfl (by decide) (fun h32 => ?_) (fun h32 => ?_) | refine zw_ifeq_b 39 ok_B_mayBeOld rfl (by decide) (fun h32 => ?_) (fun h32 => ?_) | refine zw_if_eq 39 ok_B_mayBeOld rfl (by decide) (by omega) (fun h32 => ?_) (fun h32 => ?_)
        · refine zw_iconst ok_B_mayBeOld rfl ?_
          exact zw_zret ok_B_mayBeOld rfl rfl (by first | exact Or.inl rfl | exact Or.inr rfl | exact bi01 _) (⟨by first | rw [bi_t (by omega)] | rw [bi_f (by omega)], rfl⟩)
        · refine zw_iconst ok_B_mayBeOld rfl ?_
          refine zw_goto 40 ok_B_mayBeOld rfl (by decide) ?_
          exact zw_zret ok_B_mayBeOld rfl rfl (by first | exact Or.inl rfl | exact Or.inr rfl | exact bi01 _) (⟨by first | rw [bi_t (by omega)] | rw [bi_f (by omega)], rfl⟩)
theorem ct_B_isPerson {v : Int} (h : zR v ∧ (0 ≤ mem 5 4 ∧ mem 5 4 ≤ 8)) : zCbp m_B_isPerson [vr 0, vi v] mem (decide (0 ≤ v ∧ v ≤ mem 5 4 - 1)) := by
  refine zCt.of [some (vr 0), some (vi v)] ok_B_isPerson (Nat.le_of_ble_eq_true rfl) rfl ?_
  refine zw_iload_n ok_B_isPerson rfl rfl ?_
  refine zw_iconst ok_B_isPerson rfl ?_
  refine zw_aload_n ok_B_isPerson rfl rfl ?_
  refine zw_getr ok_B_isPerson rfl fl_B_24 rfl rfl ?_
  refine zw_geti ok_B_isPerson rfl fl_B_200 rfl rfl ?_
  refine zw_iconst ok_B_isPerson rfl ?_
  refine zw_isub ok_B_isPerson rfl ?_
  refine zw_Sbp ok_B_isPerson rfl ok_B_within lk_B_100 (by decide) rfl (Nat.le_of_ble_eq_true rfl) (ct_B_within (by omega)) ?_
  exact zw_zret ok_B_isPerson rfl rfl (by first | exact Or.inl rfl | exact Or.inr rfl | exact bi01 _) (⟨rfl, rfl⟩)
theorem ct_B_found {v : Int} : zCi m_B_found [vr 0, vi v] mem (-10 - v) (fun m2 => m2 = zset mem 0 13 v) := by
  refine zCt.of [some (vr 0), some (vi v)] ok_B_found (Nat.le_of_ble_eq_true rfl) rfl ?_
  refine zw_aload_n ok_B_found rfl rfl ?_
  refine zw_iload_n ok_B_found rfl rfl ?_
  refine zw_puti ok_B_found rfl fp_B_281 rfl rfl ?_
  refine zw_bipush ok_B_found rfl (by decide) ?_
  refine zw_iload_n ok_B_found rfl rfl ?_
  refine zw_isub ok_B_found rfl ?_
  exact zw_iret ok_B_found rfl rfl (⟨rfl, rfl⟩)
theorem ct_B_textOf {v : Int} (h : zR v) : zCrp m_B_textOf [vr 0, vi v] mem (if v = 0 then 1 else 3) := by
  refine zCt.of [some (vr 0), some (vi v)] ok_B_textOf (Nat.le_of_ble_eq_true rfl) rfl ?_
  refine zw_iload_n ok_B_textOf rfl rfl ?_
  first | refine zw_ifne_d 11 ok_B_textOf rfl (by decide) (fun h1 => ?_) (fun h1 => ?_) | refine zw_ifne_b 11 ok_B_textOf rfl (by decide) (fun h1 => ?_) (fun h1 => ?_) | refine zw_if_ne 11 ok_B_textOf rfl (by decide) (by omega) (fun h1 => ?_) (fun h1 => ?_)
  · refine zw_aload_n ok_B_textOf rfl rfl ?_
    refine zw_getr ok_B_textOf rfl fl_B_18 rfl rfl ?_
    exact zw_aret ok_B_textOf rfl rfl (⟨by simp [*], rfl⟩)
  · refine zw_aload_n ok_B_textOf rfl rfl ?_
    refine zw_getr ok_B_textOf rfl fl_B_14 rfl rfl ?_
    refine zw_goto 15 ok_B_textOf rfl (by decide) ?_
    exact zw_aret ok_B_textOf rfl rfl (⟨by simp [*], rfl⟩)
end
end
section
/-! ===== the coast: its cells as a value; the class's functions on it ===== -/
abbrev zL : Type := (Int → Int) × (Int → Int) × (Int → Int)
/-- due, lowest, gone, bows, first hour, first who -/
abbrev zS : Type := (Int → Int) × (Int → Int) × Int × Int × Int × Int
def cRow (f : Int → Int) (s : zS) : Int → Int := fun j => if j = 9 then s.2.2.1 else if j = 10 then s.2.2.2.1 else if j = 11 then s.2.2.2.2.1 else if j = 12 then s.2.2.2.2.2 else f j
def putC (mem : zMem) (L : zL) (s : zS) : zMem := zput (zput (zput (zput (zput (zput mem 25 L.1) 26 L.2.1) 27 L.2.2) 28 s.1) 29 s.2.1) 24 (cRow (mem 24) s)
section
variable {mem : zMem} {L : zL} {s : zS} {st hd df d l f : Int → Int} {g n fh fw i v : Int}
theorem rd_C9 : putC mem L (d, l, g, n, fh, fw) 24 9 = g := rfl
theorem rd_C10 : putC mem L (d, l, g, n, fh, fw) 24 10 = n := rfl
theorem rd_C11 : putC mem L (d, l, g, n, fh, fw) 24 11 = fh := rfl
theorem rd_C12 : putC mem L (d, l, g, n, fh, fw) 24 12 = fw := rfl
theorem rd_C25 : putC mem (st, hd, df) s 25 = st := rfl
theorem rd_C26 : putC mem (st, hd, df) s 26 = hd := rfl
theorem rd_C27 : putC mem (st, hd, df) s 27 = df := rfl
theorem rd_C28 : putC mem L (d, l, g, n, fh, fw) 28 = d := rfl
theorem rd_C29 : putC mem L (d, l, g, n, fh, fw) 29 = l := rfl
theorem rd_C_0 : putC mem L s 0 = mem 0 := rfl
theorem rd_C_1 : putC mem L s 1 = mem 1 := rfl
theorem rd_C_2 : putC mem L s 2 = mem 2 := rfl
theorem rd_C_3 : putC mem L s 3 = mem 3 := rfl
theorem rd_C_4 : putC mem L s 4 = mem 4 := rfl
theorem rd_C_5 : putC mem L s 5 = mem 5 := rfl
theorem rd_C_6 : putC mem L s 6 = mem 6 := rfl
theorem rd_C_7 : putC mem L s 7 = mem 7 := rfl
theorem rd_C_8 : putC mem L s 8 = mem 8 := rfl
theorem rd_C_9 : putC mem L s 9 = mem 9 := rfl
theorem rd_C_10 : putC mem L s 10 = mem 10 := rfl
theorem rd_C_11 : putC mem L s 11 = mem 11 := rfl
theorem rd_C_12 : putC mem L s 12 = mem 12 := rfl
theorem rd_C_13 : putC mem L s 13 = mem 13 := rfl
theorem rd_C_14 : putC mem L s 14 = mem 14 := rfl
theorem rd_C_15 : putC mem L s 15 = mem 15 := rfl
theorem rd_C_16 : putC mem L s 16 = mem 16 := rfl
theorem rd_C_17 : putC mem L s 17 = mem 17 := rfl
theorem rd_C_18 : putC mem L s 18 = mem 18 := rfl
theorem rd_C_19 : putC mem L s 19 = mem 19 := rfl
theorem rd_C_20 : putC mem L s 20 = mem 20 := rfl
theorem rd_C_21 : putC mem L s 21 = mem 21 := rfl
theorem rd_C_22 : putC mem L s 22 = mem 22 := rfl
theorem rd_C_23 : putC mem L s 23 = mem 23 := rfl
theorem rd_C_30 : putC mem L s 30 = mem 30 := rfl
theorem rd_C_31 : putC mem L s 31 = mem 31 := rfl
theorem rd_C_32 : putC mem L s 32 = mem 32 := rfl
theorem rd_C_33 : putC mem L s 33 = mem 33 := rfl
theorem rd_C_34 : putC mem L s 34 = mem 34 := rfl
theorem rd_C_35 : putC mem L s 35 = mem 35 := rfl
theorem rd_C_36 : putC mem L s 36 = mem 36 := rfl
theorem rd_C_37 : putC mem L s 37 = mem 37 := rfl
theorem rd_C_38 : putC mem L s 38 = mem 38 := rfl
theorem rd_C_39 : putC mem L s 39 = mem 39 := rfl
theorem rd_C_40 : putC mem L s 40 = mem 40 := rfl
theorem rd_C_41 : putC mem L s 41 = mem 41 := rfl
theorem rd_C_42 : putC mem L s 42 = mem 42 := rfl
theorem rd_C_43 : putC mem L s 43 = mem 43 := rfl
theorem rd_C_44 : putC mem L s 44 = mem 44 := rfl
theorem rd_C_45 : putC mem L s 45 = mem 45 := rfl
theorem rd_C_46 : putC mem L s 46 = mem 46 := rfl
theorem rd_C_47 : putC mem L s 47 = mem 47 := rfl
theorem rd_C_48 : putC mem L s 48 = mem 48 := rfl
theorem rd_C_49 : putC mem L s 49 = mem 49 := rfl
theorem rd_C_50 : putC mem L s 50 = mem 50 := rfl
theorem rd_C_51 : putC mem L s 51 = mem 51 := rfl
theorem rd_C_52 : putC mem L s 52 = mem 52 := rfl
theorem rd_C_53 : putC mem L s 53 = mem 53 := rfl
theorem rd_C_54 : putC mem L s 54 = mem 54 := rfl
theorem rd_C_55 : putC mem L s 55 = mem 55 := rfl
theorem rd_C_56 : putC mem L s 56 = mem 56 := rfl
theorem rd_C_57 : putC mem L s 57 = mem 57 := rfl
theorem rd_C_58 : putC mem L s 58 = mem 58 := rfl
theorem rd_C_59 : putC mem L s 59 = mem 59 := rfl
theorem rd_C_60 : putC mem L s 60 = mem 60 := rfl
theorem rd_C_61 : putC mem L s 61 = mem 61 := rfl
theorem rd_C_62 : putC mem L s 62 = mem 62 := rfl
theorem rd_C_63 : putC mem L s 63 = mem 63 := rfl
theorem rd_C_64 : putC mem L s 64 = mem 64 := rfl
theorem rd_C_65 : putC mem L s 65 = mem 65 := rfl
theorem putC_ne {k : Nat} (h : k < 24 ∨ 29 < k) : putC mem L s k = mem k := by
  unfold putC
  rw [zput_ne (by omega), zput_ne (by omega), zput_ne (by omega), zput_ne (by omega), zput_ne (by omega), zput_ne (by omega)]
theorem zm_ext {a b : zMem} (h : ∀ k, a k = b k) : a = b := funext h
theorem putC_cases {a b : zMem} (h : ∀ k, (k < 24 ∨ 29 < k) → a k = b k) (h4 : a 24 = b 24) (h5 : a 25 = b 25) (h6 : a 26 = b 26) (h7 : a 27 = b 27) (h8 : a 28 = b 28) (h9 : a 29 = b 29) : a = b := by
  funext k
  by_cases hk : k < 24 ∨ 29 < k
  · exact h k hk
  · have : k = 24 ∨ k = 25 ∨ k = 26 ∨ k = 27 ∨ k = 28 ∨ k = 29 := by omega
    rcases this with rfl | rfl | rfl | rfl | rfl | rfl <;> assumption
theorem wr_C9 : zset (putC mem L (d, l, g, n, fh, fw)) 24 9 v = putC mem L (d, l, v, n, fh, fw) := by
  refine putC_cases (fun k hk => by rw [zset_ne (by omega), putC_ne hk, putC_ne hk]) ?_ rfl rfl rfl rfl rfl
  rw [zset_eq]
  funext q
  show zupd (cRow (mem 24) (d, l, g, n, fh, fw)) 9 v q = cRow (mem 24) (d, l, v, n, fh, fw) q
  simp only [zupd, cRow]
  (repeat' split) <;> first | rfl | omega
theorem wr_C10 : zset (putC mem L (d, l, g, n, fh, fw)) 24 10 v = putC mem L (d, l, g, v, fh, fw) := by
  refine putC_cases (fun k hk => by rw [zset_ne (by omega), putC_ne hk, putC_ne hk]) ?_ rfl rfl rfl rfl rfl
  rw [zset_eq]
  funext q
  show zupd (cRow (mem 24) (d, l, g, n, fh, fw)) 10 v q = cRow (mem 24) (d, l, g, v, fh, fw) q
  simp only [zupd, cRow]
  (repeat' split) <;> first | rfl | omega
theorem wr_C11 : zset (putC mem L (d, l, g, n, fh, fw)) 24 11 v = putC mem L (d, l, g, n, v, fw) := by
  refine putC_cases (fun k hk => by rw [zset_ne (by omega), putC_ne hk, putC_ne hk]) ?_ rfl rfl rfl rfl rfl
  rw [zset_eq]
  funext q
  show zupd (cRow (mem 24) (d, l, g, n, fh, fw)) 11 v q = cRow (mem 24) (d, l, g, n, v, fw) q
  simp only [zupd, cRow]
  (repeat' split) <;> first | rfl | omega
theorem wr_C12 : zset (putC mem L (d, l, g, n, fh, fw)) 24 12 v = putC mem L (d, l, g, n, fh, v) := by
  refine putC_cases (fun k hk => by rw [zset_ne (by omega), putC_ne hk, putC_ne hk]) ?_ rfl rfl rfl rfl rfl
  rw [zset_eq]
  funext q
  show zupd (cRow (mem 24) (d, l, g, n, fh, fw)) 12 v q = cRow (mem 24) (d, l, g, n, fh, v) q
  simp only [zupd, cRow]
  (repeat' split) <;> first | rfl | omega
theorem wr_C25 : zset (putC mem (st, hd, df) s) 25 i v = putC mem (zupd st i v, hd, df) s := putC_cases (fun k hk => by rw [zset_ne (by omega), putC_ne hk, putC_ne hk]) rfl rfl rfl rfl rfl rfl
theorem wr_C26 : zset (putC mem (st, hd, df) s) 26 i v = putC mem (st, zupd hd i v, df) s := putC_cases (fun k hk => by rw [zset_ne (by omega), putC_ne hk, putC_ne hk]) rfl rfl rfl rfl rfl rfl
theorem wr_C27 : zset (putC mem (st, hd, df) s) 27 i v = putC mem (st, hd, zupd df i v) s := putC_cases (fun k hk => by rw [zset_ne (by omega), putC_ne hk, putC_ne hk]) rfl rfl rfl rfl rfl rfl
theorem wr_C28 : zset (putC mem L (d, l, g, n, fh, fw)) 28 i v = putC mem L (zupd d i v, l, g, n, fh, fw) := putC_cases (fun k hk => by rw [zset_ne (by omega), putC_ne hk, putC_ne hk]) rfl rfl rfl rfl rfl rfl
theorem wr_C29 : zset (putC mem L (d, l, g, n, fh, fw)) 29 i v = putC mem L (d, zupd l i v, g, n, fh, fw) := putC_cases (fun k hk => by rw [zset_ne (by omega), putC_ne hk, putC_ne hk]) rfl rfl rfl rfl rfl rfl
theorem wp_C25 : zput (putC mem (st, hd, df) s) 25 f = putC mem (f, hd, df) s := putC_cases (fun k hk => by rw [zput_ne (by omega), putC_ne hk, putC_ne hk]) rfl rfl rfl rfl rfl rfl
theorem wp_C26 : zput (putC mem (st, hd, df) s) 26 f = putC mem (st, f, df) s := putC_cases (fun k hk => by rw [zput_ne (by omega), putC_ne hk, putC_ne hk]) rfl rfl rfl rfl rfl rfl
theorem wp_C27 : zput (putC mem (st, hd, df) s) 27 f = putC mem (st, hd, f) s := putC_cases (fun k hk => by rw [zput_ne (by omega), putC_ne hk, putC_ne hk]) rfl rfl rfl rfl rfl rfl
theorem wp_C28 : zput (putC mem L (d, l, g, n, fh, fw)) 28 f = putC mem L (f, l, g, n, fh, fw) := putC_cases (fun k hk => by rw [zput_ne (by omega), putC_ne hk, putC_ne hk]) rfl rfl rfl rfl rfl rfl
theorem wp_C29 : zput (putC mem L (d, l, g, n, fh, fw)) 29 f = putC mem L (d, f, g, n, fh, fw) := putC_cases (fun k hk => by rw [zput_ne (by omega), putC_ne hk, putC_ne hk]) rfl rfl rfl rfl rfl rfl
theorem putC_self : putC mem (mem 25, mem 26, mem 27) (mem 28, mem 29, mem 24 9, mem 24 10, mem 24 11, mem 24 12) = mem := by
  refine putC_cases (fun k hk => putC_ne hk) ?_ rfl rfl rfl rfl rfl
  show cRow (mem 24) _ = mem 24
  funext q
  simp only [cRow]
  (repeat' split) <;> first | rfl | (rename_i h; rw [h]) | (rename_i h _; rw [h]) | skip
end
/-- a meets b, a being less -/
def meetS (can step : Int → Int) (a b : Int) (s : zS) : zS :=
  if zabs (s.1 (a * 8 + b)) ≤ can (if s.1 (a * 8 + b) ≤ 0 then b else a) then
    (zupd s.1 (a * 8 + b) (if s.1 (a * 8 + b) ≤ 0 then zabs (s.1 (a * 8 + b)) + step a else -(zabs (s.1 (a * 8 + b)) + step b)), zupd s.2.1 (if s.1 (a * 8 + b) ≤ 0 then b else a) (max (s.2.1 (if s.1 (a * 8 + b) ≤ 0 then b else a)) (zabs (s.1 (a * 8 + b)))), s.2.2.1, s.2.2.2.1 + 1, s.2.2.2.2.1, s.2.2.2.2.2)
  else (s.1, s.2.1, zor s.2.2.1 (zshl 1 (if s.1 (a * 8 + b) ≤ 0 then b else a)), s.2.2.2.1, s.2.2.2.2.1, if s.2.2.1 ≠ 0 then s.2.2.2.2.2 else (if s.1 (a * 8 + b) ≤ 0 then b else a))
def sInv (P : Int) (s : zS) : Prop := (∀ a b, 0 ≤ a → a < b → b < P → (1 ≤ s.1 (a * 8 + b) ∧ s.1 (a * 8 + b) ≤ 109) ∨ (-109 ≤ s.1 (a * 8 + b) ∧ s.1 (a * 8 + b) ≤ -1)) ∧ (∀ p, 0 ≤ p → p < P → 0 ≤ s.2.1 p ∧ s.2.1 p ≤ 99) ∧ 0 ≤ s.2.2.1 ∧ s.2.2.1 < 256
def pInv (P : Int) (can step : Int → Int) : Prop := 0 ≤ P ∧ P ≤ 8 ∧ ∀ p, 0 ≤ p → p < P → (0 ≤ can p ∧ can p ≤ 99) ∧ (1 ≤ step p ∧ step p ≤ 10)
theorem zabs_1 {x : Int} (h : x ≤ 0) : zabs x = -x := by unfold zabs; split <;> omega
theorem zabs_2 {x : Int} (h : ¬ x ≤ 0) : zabs x = x := by unfold zabs; split <;> omega
theorem meetS_inv {P : Int} {can step : Int → Int} {a b : Int} {s : zS} (hp : pInv P can step) (ha : 0 ≤ a) (hab : a < b) (hb : b < P) (hs : sInv P s) : sInv P (meetS can step a b s) := by
  obtain ⟨d, l, g, n, fh, fw⟩ := s
  obtain ⟨h1, h2, h3, h4⟩ := hs
  obtain ⟨p1, p2, p3⟩ := hp
  dsimp only at h1 h2 h3 h4
  have ca := p3 a ha (by omega)
  have cb := p3 b (by omega) hb
  have e := h1 a b ha hab hb
  unfold meetS
  dsimp only
  by_cases hz : d (a * 8 + b) ≤ 0
  · simp only [hz, if_true, zabs_1 hz]
    split
    · refine ⟨fun a' b' q1 q2 q3 => ?_, fun p q1 q2 => ?_, h3, h4⟩
      · dsimp only
        by_cases hq : a' * 8 + b' = a * 8 + b
        · rw [hq, zupd_eq]; omega
        · rw [zupd_ne hq]; exact h1 a' b' q1 q2 q3
      · dsimp only
        have := h2 p q1 q2
        by_cases hq : p = b
        · subst hq; rw [zupd_eq]; omega
        · rw [zupd_ne hq]; exact this
    · refine ⟨h1, h2, ?_⟩
      exact z8or' ⟨h3, h4⟩ (by omega)
  · simp only [hz, if_false, zabs_2 hz]
    split
    · refine ⟨fun a' b' q1 q2 q3 => ?_, fun p q1 q2 => ?_, h3, h4⟩
      · dsimp only
        by_cases hq : a' * 8 + b' = a * 8 + b
        · rw [hq, zupd_eq]; omega
        · rw [zupd_ne hq]; exact h1 a' b' q1 q2 q3
      · dsimp only
        have := h2 p q1 q2
        by_cases hq : p = a
        · subst hq; rw [zupd_eq]; omega
        · rw [zupd_ne hq]; exact this
    · refine ⟨h1, h2, ?_⟩
      exact z8or' ⟨h3, h4⟩ (by omega)
end
section
/-! ===== Coast: meet, isGone, mayMeet, debt, isRing ===== -/
section
variable {mem : zMem} {L : zL} {s : zS} {d l : Int → Int} {g n fh fw : Int}
theorem ct_Co_meet {P a b : Int} (hP : pInv P (mem 7) (mem 9)) (ha : 0 ≤ a ∧ a < P) (hb : 0 ≤ b ∧ b < P) (hab : a ≠ b) (hs : sInv P s) : zCvp m_Co_meet [vr 24, vi a, vi b] (putC mem L s) (putC mem L (meetS (mem 7) (mem 9) (min a b) (max a b) s)) := by
  obtain ⟨d, l, g, n, fh, fw⟩ := s
  obtain ⟨p1, p2, p3⟩ := hP
  have hbow := hs.1 (min a b) (max a b) (by omega) (by omega) (by omega)
  have hl := fun p q1 q2 => hs.2.1 p q1 q2
  have hg := hs.2.2
  dsimp only at hbow hl hg
  refine zCt.of [some (vr 24), some (vi a), some (vi b), none, none, none, none, none, none] ok_Co_meet (Nat.le_of_ble_eq_true rfl) rfl ?_
  have hx : 0 ≤ min a b ∧ min a b < P := by omega
  have hy : 0 ≤ max a b ∧ max a b < P := by omega
  have ux := p3 (min a b) hx.1 hx.2
  have uy := p3 (max a b) hy.1 hy.2
  have vx := hl (min a b) hx.1 hx.2
  have vy := hl (max a b) hy.1 hy.2
  generalize hX : meetS (mem 7) (mem 9) (min a b) (max a b) (d, l, g, n, fh, fw) = X
  unfold meetS at hX
  dsimp only at hX
  refine zw_iload_n ok_Co_meet rfl rfl ?_
  refine zw_iload_n ok_Co_meet rfl rfl ?_
  refine zw_mmin ok_Co_meet rfl lm_Co_120 ⟨by decide, Nat.le_of_ble_eq_true rfl⟩ (by omega) ?_
  refine zw_istore_n ok_Co_meet rfl rfl (by decide) ?_
  refine zw_iload_n ok_Co_meet rfl rfl ?_
  refine zw_iload_n ok_Co_meet rfl rfl ?_
  refine zw_mmax ok_Co_meet rfl lm_Co_126 ⟨by decide, Nat.le_of_ble_eq_true rfl⟩ (by omega) ?_
  refine zw_istore ok_Co_meet rfl rfl (by decide) ?_
  refine zw_iload_n ok_Co_meet rfl rfl ?_
  refine zw_bipush ok_Co_meet rfl (by decide) ?_
  refine zw_imul ok_Co_meet rfl ?_
  refine zw_iload ok_Co_meet rfl rfl ?_
  refine zw_iadd ok_Co_meet rfl ?_
  refine zw_istore ok_Co_meet rfl rfl (by decide) ?_
  refine zw_aload_n ok_Co_meet rfl rfl ?_
  refine zw_getr ok_Co_meet rfl fl_Co_21 rfl rfl ?_
  refine zw_iload ok_Co_meet rfl rfl ?_
  refine zw_iald ok_Co_meet rfl rfl (by omega) ?_
  try simp only [rd_C9, rd_C10, rd_C11, rd_C12, rd_C25, rd_C26, rd_C27, rd_C28, rd_C29, rd_C_0, rd_C_1, rd_C_2, rd_C_3, rd_C_4, rd_C_5, rd_C_6, rd_C_7, rd_C_8, rd_C_9, rd_C_10, rd_C_11, rd_C_12, rd_C_13, rd_C_14, rd_C_15, rd_C_16, rd_C_17, rd_C_18, rd_C_19, rd_C_20, rd_C_21, rd_C_22, rd_C_23, rd_C_30, rd_C_31, rd_C_32, rd_C_33, rd_C_34, rd_C_35, rd_C_36, rd_C_37, rd_C_38, rd_C_39, rd_C_40, rd_C_41, rd_C_42, rd_C_43, rd_C_44, rd_C_45, rd_C_46, rd_C_47, rd_C_48, rd_C_49, rd_C_50, rd_C_51, rd_C_52, rd_C_53, rd_C_54, rd_C_55, rd_C_56, rd_C_57, rd_C_58, rd_C_59, rd_C_60, rd_C_61, rd_C_62, rd_C_63, rd_C_64, rd_C_65, wr_C9, wr_C10, wr_C11, wr_C12, wr_C25, wr_C26, wr_C27, wr_C28, wr_C29, wp_C25, wp_C26, wp_C27, wp_C28, wp_C29]
  refine zw_istore ok_Co_meet rfl rfl (by decide) ?_
  refine zw_iload ok_Co_meet rfl rfl ?_
  refine zw_if_le 40 ok_Co_meet rfl (by decide) (by omega) (fun h33 => ?_) (fun h33 => ?_)
  · have z1 := zabs_1 h33
    simp only [h33, if_true] at hX
    refine zw_iload ok_Co_meet rfl rfl ?_
    refine zw_istore ok_Co_meet rfl rfl (by decide) ?_
    refine zw_iload ok_Co_meet rfl rfl ?_
    refine zw_mabs ok_Co_meet rfl lm_Co_129 ⟨by decide, Nat.le_of_ble_eq_true rfl⟩ (by omega) ?_
    refine zw_istore ok_Co_meet rfl rfl (by decide) ?_
    refine zw_iload ok_Co_meet rfl rfl ?_
    refine zw_aload_n ok_Co_meet rfl rfl ?_
    refine zw_getr ok_Co_meet rfl fl_Co_27 rfl rfl ?_
    refine zw_getr ok_Co_meet rfl fl_Co_133 rfl rfl ?_
    refine zw_iload ok_Co_meet rfl rfl ?_
    refine zw_iald ok_Co_meet rfl rfl (by omega) ?_
    try simp only [rd_C9, rd_C10, rd_C11, rd_C12, rd_C25, rd_C26, rd_C27, rd_C28, rd_C29, rd_C_0, rd_C_1, rd_C_2, rd_C_3, rd_C_4, rd_C_5, rd_C_6, rd_C_7, rd_C_8, rd_C_9, rd_C_10, rd_C_11, rd_C_12, rd_C_13, rd_C_14, rd_C_15, rd_C_16, rd_C_17, rd_C_18, rd_C_19, rd_C_20, rd_C_21, rd_C_22, rd_C_23, rd_C_30, rd_C_31, rd_C_32, rd_C_33, rd_C_34, rd_C_35, rd_C_36, rd_C_37, rd_C_38, rd_C_39, rd_C_40, rd_C_41, rd_C_42, rd_C_43, rd_C_44, rd_C_45, rd_C_46, rd_C_47, rd_C_48, rd_C_49, rd_C_50, rd_C_51, rd_C_52, rd_C_53, rd_C_54, rd_C_55, rd_C_56, rd_C_57, rd_C_58, rd_C_59, rd_C_60, rd_C_61, rd_C_62, rd_C_63, rd_C_64, rd_C_65, wr_C9, wr_C10, wr_C11, wr_C12, wr_C25, wr_C26, wr_C27, wr_C28, wr_C29, wp_C25, wp_C26, wp_C27, wp_C28, wp_C29]
    refine zw_icmp_le 102 ok_Co_meet rfl (by decide) (by omega) (fun h63 => ?_) (fun h63 => ?_)
    · rw [if_pos h63] at hX
      refine zw_aload_n ok_Co_meet rfl rfl ?_
      refine zw_getr ok_Co_meet rfl fl_Co_21 rfl rfl ?_
      refine zw_iload ok_Co_meet rfl rfl ?_
      refine zw_iload ok_Co_meet rfl rfl ?_
      refine zw_if_le 130 ok_Co_meet rfl (by decide) (by omega) (fun h110 => ?_) (fun h110 => ?_)
      · try (exfalso; omega)
        all_goals
          refine zw_iload ok_Co_meet rfl rfl ?_
          refine zw_aload_n ok_Co_meet rfl rfl ?_
          refine zw_getr ok_Co_meet rfl fl_Co_27 rfl rfl ?_
          refine zw_getr ok_Co_meet rfl fl_Co_96 rfl rfl ?_
          refine zw_iload_n ok_Co_meet rfl rfl ?_
          refine zw_iald ok_Co_meet rfl rfl (by omega) ?_
          try simp only [rd_C9, rd_C10, rd_C11, rd_C12, rd_C25, rd_C26, rd_C27, rd_C28, rd_C29, rd_C_0, rd_C_1, rd_C_2, rd_C_3, rd_C_4, rd_C_5, rd_C_6, rd_C_7, rd_C_8, rd_C_9, rd_C_10, rd_C_11, rd_C_12, rd_C_13, rd_C_14, rd_C_15, rd_C_16, rd_C_17, rd_C_18, rd_C_19, rd_C_20, rd_C_21, rd_C_22, rd_C_23, rd_C_30, rd_C_31, rd_C_32, rd_C_33, rd_C_34, rd_C_35, rd_C_36, rd_C_37, rd_C_38, rd_C_39, rd_C_40, rd_C_41, rd_C_42, rd_C_43, rd_C_44, rd_C_45, rd_C_46, rd_C_47, rd_C_48, rd_C_49, rd_C_50, rd_C_51, rd_C_52, rd_C_53, rd_C_54, rd_C_55, rd_C_56, rd_C_57, rd_C_58, rd_C_59, rd_C_60, rd_C_61, rd_C_62, rd_C_63, rd_C_64, rd_C_65, wr_C9, wr_C10, wr_C11, wr_C12, wr_C25, wr_C26, wr_C27, wr_C28, wr_C29, wp_C25, wp_C26, wp_C27, wp_C28, wp_C29]
          refine zw_iadd ok_Co_meet rfl ?_
          refine zw_iast ok_Co_meet rfl rfl (by omega) ?_
          try simp only [rd_C9, rd_C10, rd_C11, rd_C12, rd_C25, rd_C26, rd_C27, rd_C28, rd_C29, rd_C_0, rd_C_1, rd_C_2, rd_C_3, rd_C_4, rd_C_5, rd_C_6, rd_C_7, rd_C_8, rd_C_9, rd_C_10, rd_C_11, rd_C_12, rd_C_13, rd_C_14, rd_C_15, rd_C_16, rd_C_17, rd_C_18, rd_C_19, rd_C_20, rd_C_21, rd_C_22, rd_C_23, rd_C_30, rd_C_31, rd_C_32, rd_C_33, rd_C_34, rd_C_35, rd_C_36, rd_C_37, rd_C_38, rd_C_39, rd_C_40, rd_C_41, rd_C_42, rd_C_43, rd_C_44, rd_C_45, rd_C_46, rd_C_47, rd_C_48, rd_C_49, rd_C_50, rd_C_51, rd_C_52, rd_C_53, rd_C_54, rd_C_55, rd_C_56, rd_C_57, rd_C_58, rd_C_59, rd_C_60, rd_C_61, rd_C_62, rd_C_63, rd_C_64, rd_C_65, wr_C9, wr_C10, wr_C11, wr_C12, wr_C25, wr_C26, wr_C27, wr_C28, wr_C29, wp_C25, wp_C26, wp_C27, wp_C28, wp_C29]
          refine zw_aload_n ok_Co_meet rfl rfl ?_
          refine zw_getr ok_Co_meet rfl fl_Co_24 rfl rfl ?_
          refine zw_iload ok_Co_meet rfl rfl ?_
          refine zw_aload_n ok_Co_meet rfl rfl ?_
          refine zw_getr ok_Co_meet rfl fl_Co_24 rfl rfl ?_
          refine zw_iload ok_Co_meet rfl rfl ?_
          refine zw_iald ok_Co_meet rfl rfl (by omega) ?_
          try simp only [rd_C9, rd_C10, rd_C11, rd_C12, rd_C25, rd_C26, rd_C27, rd_C28, rd_C29, rd_C_0, rd_C_1, rd_C_2, rd_C_3, rd_C_4, rd_C_5, rd_C_6, rd_C_7, rd_C_8, rd_C_9, rd_C_10, rd_C_11, rd_C_12, rd_C_13, rd_C_14, rd_C_15, rd_C_16, rd_C_17, rd_C_18, rd_C_19, rd_C_20, rd_C_21, rd_C_22, rd_C_23, rd_C_30, rd_C_31, rd_C_32, rd_C_33, rd_C_34, rd_C_35, rd_C_36, rd_C_37, rd_C_38, rd_C_39, rd_C_40, rd_C_41, rd_C_42, rd_C_43, rd_C_44, rd_C_45, rd_C_46, rd_C_47, rd_C_48, rd_C_49, rd_C_50, rd_C_51, rd_C_52, rd_C_53, rd_C_54, rd_C_55, rd_C_56, rd_C_57, rd_C_58, rd_C_59, rd_C_60, rd_C_61, rd_C_62, rd_C_63, rd_C_64, rd_C_65, wr_C9, wr_C10, wr_C11, wr_C12, wr_C25, wr_C26, wr_C27, wr_C28, wr_C29, wp_C25, wp_C26, wp_C27, wp_C28, wp_C29]
          refine zw_iload ok_Co_meet rfl rfl ?_
          refine zw_mmax ok_Co_meet rfl lm_Co_126 ⟨by decide, Nat.le_of_ble_eq_true rfl⟩ (by omega) ?_
          refine zw_iast ok_Co_meet rfl rfl (by omega) ?_
          try simp only [rd_C9, rd_C10, rd_C11, rd_C12, rd_C25, rd_C26, rd_C27, rd_C28, rd_C29, rd_C_0, rd_C_1, rd_C_2, rd_C_3, rd_C_4, rd_C_5, rd_C_6, rd_C_7, rd_C_8, rd_C_9, rd_C_10, rd_C_11, rd_C_12, rd_C_13, rd_C_14, rd_C_15, rd_C_16, rd_C_17, rd_C_18, rd_C_19, rd_C_20, rd_C_21, rd_C_22, rd_C_23, rd_C_30, rd_C_31, rd_C_32, rd_C_33, rd_C_34, rd_C_35, rd_C_36, rd_C_37, rd_C_38, rd_C_39, rd_C_40, rd_C_41, rd_C_42, rd_C_43, rd_C_44, rd_C_45, rd_C_46, rd_C_47, rd_C_48, rd_C_49, rd_C_50, rd_C_51, rd_C_52, rd_C_53, rd_C_54, rd_C_55, rd_C_56, rd_C_57, rd_C_58, rd_C_59, rd_C_60, rd_C_61, rd_C_62, rd_C_63, rd_C_64, rd_C_65, wr_C9, wr_C10, wr_C11, wr_C12, wr_C25, wr_C26, wr_C27, wr_C28, wr_C29, wp_C25, wp_C26, wp_C27, wp_C28, wp_C29]
          refine zw_aload_n ok_Co_meet rfl rfl ?_
          first | refine zw_dupi ok_Co_meet rfl ?_ | refine zw_dupr ok_Co_meet rfl ?_
          refine zw_geti ok_Co_meet rfl fl_Co_102 rfl rfl ?_
          try simp only [rd_C9, rd_C10, rd_C11, rd_C12, rd_C25, rd_C26, rd_C27, rd_C28, rd_C29, rd_C_0, rd_C_1, rd_C_2, rd_C_3, rd_C_4, rd_C_5, rd_C_6, rd_C_7, rd_C_8, rd_C_9, rd_C_10, rd_C_11, rd_C_12, rd_C_13, rd_C_14, rd_C_15, rd_C_16, rd_C_17, rd_C_18, rd_C_19, rd_C_20, rd_C_21, rd_C_22, rd_C_23, rd_C_30, rd_C_31, rd_C_32, rd_C_33, rd_C_34, rd_C_35, rd_C_36, rd_C_37, rd_C_38, rd_C_39, rd_C_40, rd_C_41, rd_C_42, rd_C_43, rd_C_44, rd_C_45, rd_C_46, rd_C_47, rd_C_48, rd_C_49, rd_C_50, rd_C_51, rd_C_52, rd_C_53, rd_C_54, rd_C_55, rd_C_56, rd_C_57, rd_C_58, rd_C_59, rd_C_60, rd_C_61, rd_C_62, rd_C_63, rd_C_64, rd_C_65, wr_C9, wr_C10, wr_C11, wr_C12, wr_C25, wr_C26, wr_C27, wr_C28, wr_C29, wp_C25, wp_C26, wp_C27, wp_C28, wp_C29]
          refine zw_iconst ok_Co_meet rfl ?_
          refine zw_iadd ok_Co_meet rfl ?_
          refine zw_puti ok_Co_meet rfl fp_Co_102 rfl rfl ?_
          try simp only [rd_C9, rd_C10, rd_C11, rd_C12, rd_C25, rd_C26, rd_C27, rd_C28, rd_C29, rd_C_0, rd_C_1, rd_C_2, rd_C_3, rd_C_4, rd_C_5, rd_C_6, rd_C_7, rd_C_8, rd_C_9, rd_C_10, rd_C_11, rd_C_12, rd_C_13, rd_C_14, rd_C_15, rd_C_16, rd_C_17, rd_C_18, rd_C_19, rd_C_20, rd_C_21, rd_C_22, rd_C_23, rd_C_30, rd_C_31, rd_C_32, rd_C_33, rd_C_34, rd_C_35, rd_C_36, rd_C_37, rd_C_38, rd_C_39, rd_C_40, rd_C_41, rd_C_42, rd_C_43, rd_C_44, rd_C_45, rd_C_46, rd_C_47, rd_C_48, rd_C_49, rd_C_50, rd_C_51, rd_C_52, rd_C_53, rd_C_54, rd_C_55, rd_C_56, rd_C_57, rd_C_58, rd_C_59, rd_C_60, rd_C_61, rd_C_62, rd_C_63, rd_C_64, rd_C_65, wr_C9, wr_C10, wr_C11, wr_C12, wr_C25, wr_C26, wr_C27, wr_C28, wr_C29, wp_C25, wp_C26, wp_C27, wp_C28, wp_C29]
          exact zw_vret ok_Co_meet rfl rfl (⟨rfl, by subst hX; first | rfl | rw [if_pos h71] | rw [if_neg (fun q => q h71)]⟩)
      · try (exfalso; omega)
        all_goals
          refine zw_iload ok_Co_meet rfl rfl ?_
          refine zw_aload_n ok_Co_meet rfl rfl ?_
          refine zw_getr ok_Co_meet rfl fl_Co_27 rfl rfl ?_
          refine zw_getr ok_Co_meet rfl fl_Co_96 rfl rfl ?_
          refine zw_iload ok_Co_meet rfl rfl ?_
          refine zw_iald ok_Co_meet rfl rfl (by omega) ?_
          try simp only [rd_C9, rd_C10, rd_C11, rd_C12, rd_C25, rd_C26, rd_C27, rd_C28, rd_C29, rd_C_0, rd_C_1, rd_C_2, rd_C_3, rd_C_4, rd_C_5, rd_C_6, rd_C_7, rd_C_8, rd_C_9, rd_C_10, rd_C_11, rd_C_12, rd_C_13, rd_C_14, rd_C_15, rd_C_16, rd_C_17, rd_C_18, rd_C_19, rd_C_20, rd_C_21, rd_C_22, rd_C_23, rd_C_30, rd_C_31, rd_C_32, rd_C_33, rd_C_34, rd_C_35, rd_C_36, rd_C_37, rd_C_38, rd_C_39, rd_C_40, rd_C_41, rd_C_42, rd_C_43, rd_C_44, rd_C_45, rd_C_46, rd_C_47, rd_C_48, rd_C_49, rd_C_50, rd_C_51, rd_C_52, rd_C_53, rd_C_54, rd_C_55, rd_C_56, rd_C_57, rd_C_58, rd_C_59, rd_C_60, rd_C_61, rd_C_62, rd_C_63, rd_C_64, rd_C_65, wr_C9, wr_C10, wr_C11, wr_C12, wr_C25, wr_C26, wr_C27, wr_C28, wr_C29, wp_C25, wp_C26, wp_C27, wp_C28, wp_C29]
          refine zw_iadd ok_Co_meet rfl ?_
          refine zw_ineg ok_Co_meet rfl ?_
          refine zw_goto 142 ok_Co_meet rfl (by decide) ?_
          refine zw_iast ok_Co_meet rfl rfl (by omega) ?_
          try simp only [rd_C9, rd_C10, rd_C11, rd_C12, rd_C25, rd_C26, rd_C27, rd_C28, rd_C29, rd_C_0, rd_C_1, rd_C_2, rd_C_3, rd_C_4, rd_C_5, rd_C_6, rd_C_7, rd_C_8, rd_C_9, rd_C_10, rd_C_11, rd_C_12, rd_C_13, rd_C_14, rd_C_15, rd_C_16, rd_C_17, rd_C_18, rd_C_19, rd_C_20, rd_C_21, rd_C_22, rd_C_23, rd_C_30, rd_C_31, rd_C_32, rd_C_33, rd_C_34, rd_C_35, rd_C_36, rd_C_37, rd_C_38, rd_C_39, rd_C_40, rd_C_41, rd_C_42, rd_C_43, rd_C_44, rd_C_45, rd_C_46, rd_C_47, rd_C_48, rd_C_49, rd_C_50, rd_C_51, rd_C_52, rd_C_53, rd_C_54, rd_C_55, rd_C_56, rd_C_57, rd_C_58, rd_C_59, rd_C_60, rd_C_61, rd_C_62, rd_C_63, rd_C_64, rd_C_65, wr_C9, wr_C10, wr_C11, wr_C12, wr_C25, wr_C26, wr_C27, wr_C28, wr_C29, wp_C25, wp_C26, wp_C27, wp_C28, wp_C29]
          refine zw_aload_n ok_Co_meet rfl rfl ?_
          refine zw_getr ok_Co_meet rfl fl_Co_24 rfl rfl ?_
          refine zw_iload ok_Co_meet rfl rfl ?_
          refine zw_aload_n ok_Co_meet rfl rfl ?_
          refine zw_getr ok_Co_meet rfl fl_Co_24 rfl rfl ?_
          refine zw_iload ok_Co_meet rfl rfl ?_
          refine zw_iald ok_Co_meet rfl rfl (by omega) ?_
          try simp only [rd_C9, rd_C10, rd_C11, rd_C12, rd_C25, rd_C26, rd_C27, rd_C28, rd_C29, rd_C_0, rd_C_1, rd_C_2, rd_C_3, rd_C_4, rd_C_5, rd_C_6, rd_C_7, rd_C_8, rd_C_9, rd_C_10, rd_C_11, rd_C_12, rd_C_13, rd_C_14, rd_C_15, rd_C_16, rd_C_17, rd_C_18, rd_C_19, rd_C_20, rd_C_21, rd_C_22, rd_C_23, rd_C_30, rd_C_31, rd_C_32, rd_C_33, rd_C_34, rd_C_35, rd_C_36, rd_C_37, rd_C_38, rd_C_39, rd_C_40, rd_C_41, rd_C_42, rd_C_43, rd_C_44, rd_C_45, rd_C_46, rd_C_47, rd_C_48, rd_C_49, rd_C_50, rd_C_51, rd_C_52, rd_C_53, rd_C_54, rd_C_55, rd_C_56, rd_C_57, rd_C_58, rd_C_59, rd_C_60, rd_C_61, rd_C_62, rd_C_63, rd_C_64, rd_C_65, wr_C9, wr_C10, wr_C11, wr_C12, wr_C25, wr_C26, wr_C27, wr_C28, wr_C29, wp_C25, wp_C26, wp_C27, wp_C28, wp_C29]
          refine zw_iload ok_Co_meet rfl rfl ?_
          refine zw_mmax ok_Co_meet rfl lm_Co_126 ⟨by decide, Nat.le_of_ble_eq_true rfl⟩ (by omega) ?_
          refine zw_iast ok_Co_meet rfl rfl (by omega) ?_
          try simp only [rd_C9, rd_C10, rd_C11, rd_C12, rd_C25, rd_C26, rd_C27, rd_C28, rd_C29, rd_C_0, rd_C_1, rd_C_2, rd_C_3, rd_C_4, rd_C_5, rd_C_6, rd_C_7, rd_C_8, rd_C_9, rd_C_10, rd_C_11, rd_C_12, rd_C_13, rd_C_14, rd_C_15, rd_C_16, rd_C_17, rd_C_18, rd_C_19, rd_C_20, rd_C_21, rd_C_22, rd_C_23, rd_C_30, rd_C_31, rd_C_32, rd_C_33, rd_C_34, rd_C_35, rd_C_36, rd_C_37, rd_C_38, rd_C_39, rd_C_40, rd_C_41, rd_C_42, rd_C_43, rd_C_44, rd_C_45, rd_C_46, rd_C_47, rd_C_48, rd_C_49, rd_C_50, rd_C_51, rd_C_52, rd_C_53, rd_C_54, rd_C_55, rd_C_56, rd_C_57, rd_C_58, rd_C_59, rd_C_60, rd_C_61, rd_C_62, rd_C_63, rd_C_64, rd_C_65, wr_C9, wr_C10, wr_C11, wr_C12, wr_C25, wr_C26, wr_C27, wr_C28, wr_C29, wp_C25, wp_C26, wp_C27, wp_C28, wp_C29]
          refine zw_aload_n ok_Co_meet rfl rfl ?_
          first | refine zw_dupi ok_Co_meet rfl ?_ | refine zw_dupr ok_Co_meet rfl ?_
          refine zw_geti ok_Co_meet rfl fl_Co_102 rfl rfl ?_
          try simp only [rd_C9, rd_C10, rd_C11, rd_C12, rd_C25, rd_C26, rd_C27, rd_C28, rd_C29, rd_C_0, rd_C_1, rd_C_2, rd_C_3, rd_C_4, rd_C_5, rd_C_6, rd_C_7, rd_C_8, rd_C_9, rd_C_10, rd_C_11, rd_C_12, rd_C_13, rd_C_14, rd_C_15, rd_C_16, rd_C_17, rd_C_18, rd_C_19, rd_C_20, rd_C_21, rd_C_22, rd_C_23, rd_C_30, rd_C_31, rd_C_32, rd_C_33, rd_C_34, rd_C_35, rd_C_36, rd_C_37, rd_C_38, rd_C_39, rd_C_40, rd_C_41, rd_C_42, rd_C_43, rd_C_44, rd_C_45, rd_C_46, rd_C_47, rd_C_48, rd_C_49, rd_C_50, rd_C_51, rd_C_52, rd_C_53, rd_C_54, rd_C_55, rd_C_56, rd_C_57, rd_C_58, rd_C_59, rd_C_60, rd_C_61, rd_C_62, rd_C_63, rd_C_64, rd_C_65, wr_C9, wr_C10, wr_C11, wr_C12, wr_C25, wr_C26, wr_C27, wr_C28, wr_C29, wp_C25, wp_C26, wp_C27, wp_C28, wp_C29]
          refine zw_iconst ok_Co_meet rfl ?_
          refine zw_iadd ok_Co_meet rfl ?_
          refine zw_puti ok_Co_meet rfl fp_Co_102 rfl rfl ?_
          try simp only [rd_C9, rd_C10, rd_C11, rd_C12, rd_C25, rd_C26, rd_C27, rd_C28, rd_C29, rd_C_0, rd_C_1, rd_C_2, rd_C_3, rd_C_4, rd_C_5, rd_C_6, rd_C_7, rd_C_8, rd_C_9, rd_C_10, rd_C_11, rd_C_12, rd_C_13, rd_C_14, rd_C_15, rd_C_16, rd_C_17, rd_C_18, rd_C_19, rd_C_20, rd_C_21, rd_C_22, rd_C_23, rd_C_30, rd_C_31, rd_C_32, rd_C_33, rd_C_34, rd_C_35, rd_C_36, rd_C_37, rd_C_38, rd_C_39, rd_C_40, rd_C_41, rd_C_42, rd_C_43, rd_C_44, rd_C_45, rd_C_46, rd_C_47, rd_C_48, rd_C_49, rd_C_50, rd_C_51, rd_C_52, rd_C_53, rd_C_54, rd_C_55, rd_C_56, rd_C_57, rd_C_58, rd_C_59, rd_C_60, rd_C_61, rd_C_62, rd_C_63, rd_C_64, rd_C_65, wr_C9, wr_C10, wr_C11, wr_C12, wr_C25, wr_C26, wr_C27, wr_C28, wr_C29, wp_C25, wp_C26, wp_C27, wp_C28, wp_C29]
          exact zw_vret ok_Co_meet rfl rfl (⟨rfl, by subst hX; first | rfl | rw [if_pos h71] | rw [if_neg (fun q => q h71)]⟩)
    · rw [if_neg h63] at hX
      refine zw_aload_n ok_Co_meet rfl rfl ?_
      refine zw_aload_n ok_Co_meet rfl rfl ?_
      refine zw_geti ok_Co_meet rfl fl_Co_99 rfl rfl ?_
      try simp only [rd_C9, rd_C10, rd_C11, rd_C12, rd_C25, rd_C26, rd_C27, rd_C28, rd_C29, rd_C_0, rd_C_1, rd_C_2, rd_C_3, rd_C_4, rd_C_5, rd_C_6, rd_C_7, rd_C_8, rd_C_9, rd_C_10, rd_C_11, rd_C_12, rd_C_13, rd_C_14, rd_C_15, rd_C_16, rd_C_17, rd_C_18, rd_C_19, rd_C_20, rd_C_21, rd_C_22, rd_C_23, rd_C_30, rd_C_31, rd_C_32, rd_C_33, rd_C_34, rd_C_35, rd_C_36, rd_C_37, rd_C_38, rd_C_39, rd_C_40, rd_C_41, rd_C_42, rd_C_43, rd_C_44, rd_C_45, rd_C_46, rd_C_47, rd_C_48, rd_C_49, rd_C_50, rd_C_51, rd_C_52, rd_C_53, rd_C_54, rd_C_55, rd_C_56, rd_C_57, rd_C_58, rd_C_59, rd_C_60, rd_C_61, rd_C_62, rd_C_63, rd_C_64, rd_C_65, wr_C9, wr_C10, wr_C11, wr_C12, wr_C25, wr_C26, wr_C27, wr_C28, wr_C29, wp_C25, wp_C26, wp_C27, wp_C28, wp_C29]
      first | refine zw_ifne_d 79 ok_Co_meet rfl (by decide) (fun h71 => ?_) (fun h71 => ?_) | refine zw_ifne_b 79 ok_Co_meet rfl (by decide) (fun h71 => ?_) (fun h71 => ?_) | refine zw_if_ne 79 ok_Co_meet rfl (by decide) (by omega) (fun h71 => ?_) (fun h71 => ?_)
      · refine zw_aload_n ok_Co_meet rfl rfl ?_
        refine zw_geti ok_Co_meet rfl fl_Co_108 rfl rfl ?_
        try simp only [rd_C9, rd_C10, rd_C11, rd_C12, rd_C25, rd_C26, rd_C27, rd_C28, rd_C29, rd_C_0, rd_C_1, rd_C_2, rd_C_3, rd_C_4, rd_C_5, rd_C_6, rd_C_7, rd_C_8, rd_C_9, rd_C_10, rd_C_11, rd_C_12, rd_C_13, rd_C_14, rd_C_15, rd_C_16, rd_C_17, rd_C_18, rd_C_19, rd_C_20, rd_C_21, rd_C_22, rd_C_23, rd_C_30, rd_C_31, rd_C_32, rd_C_33, rd_C_34, rd_C_35, rd_C_36, rd_C_37, rd_C_38, rd_C_39, rd_C_40, rd_C_41, rd_C_42, rd_C_43, rd_C_44, rd_C_45, rd_C_46, rd_C_47, rd_C_48, rd_C_49, rd_C_50, rd_C_51, rd_C_52, rd_C_53, rd_C_54, rd_C_55, rd_C_56, rd_C_57, rd_C_58, rd_C_59, rd_C_60, rd_C_61, rd_C_62, rd_C_63, rd_C_64, rd_C_65, wr_C9, wr_C10, wr_C11, wr_C12, wr_C25, wr_C26, wr_C27, wr_C28, wr_C29, wp_C25, wp_C26, wp_C27, wp_C28, wp_C29]
        refine zw_puti ok_Co_meet rfl fp_Co_108 rfl rfl ?_
        try simp only [rd_C9, rd_C10, rd_C11, rd_C12, rd_C25, rd_C26, rd_C27, rd_C28, rd_C29, rd_C_0, rd_C_1, rd_C_2, rd_C_3, rd_C_4, rd_C_5, rd_C_6, rd_C_7, rd_C_8, rd_C_9, rd_C_10, rd_C_11, rd_C_12, rd_C_13, rd_C_14, rd_C_15, rd_C_16, rd_C_17, rd_C_18, rd_C_19, rd_C_20, rd_C_21, rd_C_22, rd_C_23, rd_C_30, rd_C_31, rd_C_32, rd_C_33, rd_C_34, rd_C_35, rd_C_36, rd_C_37, rd_C_38, rd_C_39, rd_C_40, rd_C_41, rd_C_42, rd_C_43, rd_C_44, rd_C_45, rd_C_46, rd_C_47, rd_C_48, rd_C_49, rd_C_50, rd_C_51, rd_C_52, rd_C_53, rd_C_54, rd_C_55, rd_C_56, rd_C_57, rd_C_58, rd_C_59, rd_C_60, rd_C_61, rd_C_62, rd_C_63, rd_C_64, rd_C_65, wr_C9, wr_C10, wr_C11, wr_C12, wr_C25, wr_C26, wr_C27, wr_C28, wr_C29, wp_C25, wp_C26, wp_C27, wp_C28, wp_C29]
        refine zw_aload_n ok_Co_meet rfl rfl ?_
        first | refine zw_dupi ok_Co_meet rfl ?_ | refine zw_dupr ok_Co_meet rfl ?_
        refine zw_geti ok_Co_meet rfl fl_Co_99 rfl rfl ?_
        try simp only [rd_C9, rd_C10, rd_C11, rd_C12, rd_C25, rd_C26, rd_C27, rd_C28, rd_C29, rd_C_0, rd_C_1, rd_C_2, rd_C_3, rd_C_4, rd_C_5, rd_C_6, rd_C_7, rd_C_8, rd_C_9, rd_C_10, rd_C_11, rd_C_12, rd_C_13, rd_C_14, rd_C_15, rd_C_16, rd_C_17, rd_C_18, rd_C_19, rd_C_20, rd_C_21, rd_C_22, rd_C_23, rd_C_30, rd_C_31, rd_C_32, rd_C_33, rd_C_34, rd_C_35, rd_C_36, rd_C_37, rd_C_38, rd_C_39, rd_C_40, rd_C_41, rd_C_42, rd_C_43, rd_C_44, rd_C_45, rd_C_46, rd_C_47, rd_C_48, rd_C_49, rd_C_50, rd_C_51, rd_C_52, rd_C_53, rd_C_54, rd_C_55, rd_C_56, rd_C_57, rd_C_58, rd_C_59, rd_C_60, rd_C_61, rd_C_62, rd_C_63, rd_C_64, rd_C_65, wr_C9, wr_C10, wr_C11, wr_C12, wr_C25, wr_C26, wr_C27, wr_C28, wr_C29, wp_C25, wp_C26, wp_C27, wp_C28, wp_C29]
        refine zw_iconst ok_Co_meet rfl ?_
        refine zw_iload ok_Co_meet rfl rfl ?_
        refine zw_ishl ok_Co_meet rfl ?_
        refine zw_ior ok_Co_meet rfl ?_
        refine zw_puti ok_Co_meet rfl fp_Co_99 rfl rfl ?_
        try simp only [rd_C9, rd_C10, rd_C11, rd_C12, rd_C25, rd_C26, rd_C27, rd_C28, rd_C29, rd_C_0, rd_C_1, rd_C_2, rd_C_3, rd_C_4, rd_C_5, rd_C_6, rd_C_7, rd_C_8, rd_C_9, rd_C_10, rd_C_11, rd_C_12, rd_C_13, rd_C_14, rd_C_15, rd_C_16, rd_C_17, rd_C_18, rd_C_19, rd_C_20, rd_C_21, rd_C_22, rd_C_23, rd_C_30, rd_C_31, rd_C_32, rd_C_33, rd_C_34, rd_C_35, rd_C_36, rd_C_37, rd_C_38, rd_C_39, rd_C_40, rd_C_41, rd_C_42, rd_C_43, rd_C_44, rd_C_45, rd_C_46, rd_C_47, rd_C_48, rd_C_49, rd_C_50, rd_C_51, rd_C_52, rd_C_53, rd_C_54, rd_C_55, rd_C_56, rd_C_57, rd_C_58, rd_C_59, rd_C_60, rd_C_61, rd_C_62, rd_C_63, rd_C_64, rd_C_65, wr_C9, wr_C10, wr_C11, wr_C12, wr_C25, wr_C26, wr_C27, wr_C28, wr_C29, wp_C25, wp_C26, wp_C27, wp_C28, wp_C29]
        refine zw_goto 172 ok_Co_meet rfl (by decide) ?_
        exact zw_vret ok_Co_meet rfl rfl (⟨rfl, by subst hX; first | rfl | rw [if_pos h71] | rw [if_neg (fun q => q h71)]⟩)
      · refine zw_iload ok_Co_meet rfl rfl ?_
        refine zw_goto 83 ok_Co_meet rfl (by decide) ?_
        refine zw_puti ok_Co_meet rfl fp_Co_108 rfl rfl ?_
        try simp only [rd_C9, rd_C10, rd_C11, rd_C12, rd_C25, rd_C26, rd_C27, rd_C28, rd_C29, rd_C_0, rd_C_1, rd_C_2, rd_C_3, rd_C_4, rd_C_5, rd_C_6, rd_C_7, rd_C_8, rd_C_9, rd_C_10, rd_C_11, rd_C_12, rd_C_13, rd_C_14, rd_C_15, rd_C_16, rd_C_17, rd_C_18, rd_C_19, rd_C_20, rd_C_21, rd_C_22, rd_C_23, rd_C_30, rd_C_31, rd_C_32, rd_C_33, rd_C_34, rd_C_35, rd_C_36, rd_C_37, rd_C_38, rd_C_39, rd_C_40, rd_C_41, rd_C_42, rd_C_43, rd_C_44, rd_C_45, rd_C_46, rd_C_47, rd_C_48, rd_C_49, rd_C_50, rd_C_51, rd_C_52, rd_C_53, rd_C_54, rd_C_55, rd_C_56, rd_C_57, rd_C_58, rd_C_59, rd_C_60, rd_C_61, rd_C_62, rd_C_63, rd_C_64, rd_C_65, wr_C9, wr_C10, wr_C11, wr_C12, wr_C25, wr_C26, wr_C27, wr_C28, wr_C29, wp_C25, wp_C26, wp_C27, wp_C28, wp_C29]
        refine zw_aload_n ok_Co_meet rfl rfl ?_
        first | refine zw_dupi ok_Co_meet rfl ?_ | refine zw_dupr ok_Co_meet rfl ?_
        refine zw_geti ok_Co_meet rfl fl_Co_99 rfl rfl ?_
        try simp only [rd_C9, rd_C10, rd_C11, rd_C12, rd_C25, rd_C26, rd_C27, rd_C28, rd_C29, rd_C_0, rd_C_1, rd_C_2, rd_C_3, rd_C_4, rd_C_5, rd_C_6, rd_C_7, rd_C_8, rd_C_9, rd_C_10, rd_C_11, rd_C_12, rd_C_13, rd_C_14, rd_C_15, rd_C_16, rd_C_17, rd_C_18, rd_C_19, rd_C_20, rd_C_21, rd_C_22, rd_C_23, rd_C_30, rd_C_31, rd_C_32, rd_C_33, rd_C_34, rd_C_35, rd_C_36, rd_C_37, rd_C_38, rd_C_39, rd_C_40, rd_C_41, rd_C_42, rd_C_43, rd_C_44, rd_C_45, rd_C_46, rd_C_47, rd_C_48, rd_C_49, rd_C_50, rd_C_51, rd_C_52, rd_C_53, rd_C_54, rd_C_55, rd_C_56, rd_C_57, rd_C_58, rd_C_59, rd_C_60, rd_C_61, rd_C_62, rd_C_63, rd_C_64, rd_C_65, wr_C9, wr_C10, wr_C11, wr_C12, wr_C25, wr_C26, wr_C27, wr_C28, wr_C29, wp_C25, wp_C26, wp_C27, wp_C28, wp_C29]
        refine zw_iconst ok_Co_meet rfl ?_
        refine zw_iload ok_Co_meet rfl rfl ?_
        refine zw_ishl ok_Co_meet rfl ?_
        refine zw_ior ok_Co_meet rfl ?_
        refine zw_puti ok_Co_meet rfl fp_Co_99 rfl rfl ?_
        try simp only [rd_C9, rd_C10, rd_C11, rd_C12, rd_C25, rd_C26, rd_C27, rd_C28, rd_C29, rd_C_0, rd_C_1, rd_C_2, rd_C_3, rd_C_4, rd_C_5, rd_C_6, rd_C_7, rd_C_8, rd_C_9, rd_C_10, rd_C_11, rd_C_12, rd_C_13, rd_C_14, rd_C_15, rd_C_16, rd_C_17, rd_C_18, rd_C_19, rd_C_20, rd_C_21, rd_C_22, rd_C_23, rd_C_30, rd_C_31, rd_C_32, rd_C_33, rd_C_34, rd_C_35, rd_C_36, rd_C_37, rd_C_38, rd_C_39, rd_C_40, rd_C_41, rd_C_42, rd_C_43, rd_C_44, rd_C_45, rd_C_46, rd_C_47, rd_C_48, rd_C_49, rd_C_50, rd_C_51, rd_C_52, rd_C_53, rd_C_54, rd_C_55, rd_C_56, rd_C_57, rd_C_58, rd_C_59, rd_C_60, rd_C_61, rd_C_62, rd_C_63, rd_C_64, rd_C_65, wr_C9, wr_C10, wr_C11, wr_C12, wr_C25, wr_C26, wr_C27, wr_C28, wr_C29, wp_C25, wp_C26, wp_C27, wp_C28, wp_C29]
        refine zw_goto 172 ok_Co_meet rfl (by decide) ?_
        exact zw_vret ok_Co_meet rfl rfl (⟨rfl, by subst hX; first | rfl | rw [if_pos h71] | rw [if_neg (fun q => q h71)]⟩)
  · have z1 := zabs_2 h33
    simp only [h33, if_false] at hX
    refine zw_iload_n ok_Co_meet rfl rfl ?_
    refine zw_goto 42 ok_Co_meet rfl (by decide) ?_
    refine zw_istore ok_Co_meet rfl rfl (by decide) ?_
    refine zw_iload ok_Co_meet rfl rfl ?_
    refine zw_mabs ok_Co_meet rfl lm_Co_129 ⟨by decide, Nat.le_of_ble_eq_true rfl⟩ (by omega) ?_
    refine zw_istore ok_Co_meet rfl rfl (by decide) ?_
    refine zw_iload ok_Co_meet rfl rfl ?_
    refine zw_aload_n ok_Co_meet rfl rfl ?_
    refine zw_getr ok_Co_meet rfl fl_Co_27 rfl rfl ?_
    refine zw_getr ok_Co_meet rfl fl_Co_133 rfl rfl ?_
    refine zw_iload ok_Co_meet rfl rfl ?_
    refine zw_iald ok_Co_meet rfl rfl (by omega) ?_
    try simp only [rd_C9, rd_C10, rd_C11, rd_C12, rd_C25, rd_C26, rd_C27, rd_C28, rd_C29, rd_C_0, rd_C_1, rd_C_2, rd_C_3, rd_C_4, rd_C_5, rd_C_6, rd_C_7, rd_C_8, rd_C_9, rd_C_10, rd_C_11, rd_C_12, rd_C_13, rd_C_14, rd_C_15, rd_C_16, rd_C_17, rd_C_18, rd_C_19, rd_C_20, rd_C_21, rd_C_22, rd_C_23, rd_C_30, rd_C_31, rd_C_32, rd_C_33, rd_C_34, rd_C_35, rd_C_36, rd_C_37, rd_C_38, rd_C_39, rd_C_40, rd_C_41, rd_C_42, rd_C_43, rd_C_44, rd_C_45, rd_C_46, rd_C_47, rd_C_48, rd_C_49, rd_C_50, rd_C_51, rd_C_52, rd_C_53, rd_C_54, rd_C_55, rd_C_56, rd_C_57, rd_C_58, rd_C_59, rd_C_60, rd_C_61, rd_C_62, rd_C_63, rd_C_64, rd_C_65, wr_C9, wr_C10, wr_C11, wr_C12, wr_C25, wr_C26, wr_C27, wr_C28, wr_C29, wp_C25, wp_C26, wp_C27, wp_C28, wp_C29]
    refine zw_icmp_le 102 ok_Co_meet rfl (by decide) (by omega) (fun h63 => ?_) (fun h63 => ?_)
    · rw [if_pos h63] at hX
      refine zw_aload_n ok_Co_meet rfl rfl ?_
      refine zw_getr ok_Co_meet rfl fl_Co_21 rfl rfl ?_
      refine zw_iload ok_Co_meet rfl rfl ?_
      refine zw_iload ok_Co_meet rfl rfl ?_
      refine zw_if_le 130 ok_Co_meet rfl (by decide) (by omega) (fun h110 => ?_) (fun h110 => ?_)
      · try (exfalso; omega)
        all_goals
          refine zw_iload ok_Co_meet rfl rfl ?_
          refine zw_aload_n ok_Co_meet rfl rfl ?_
          refine zw_getr ok_Co_meet rfl fl_Co_27 rfl rfl ?_
          refine zw_getr ok_Co_meet rfl fl_Co_96 rfl rfl ?_
          refine zw_iload_n ok_Co_meet rfl rfl ?_
          refine zw_iald ok_Co_meet rfl rfl (by omega) ?_
          try simp only [rd_C9, rd_C10, rd_C11, rd_C12, rd_C25, rd_C26, rd_C27, rd_C28, rd_C29, rd_C_0, rd_C_1, rd_C_2, rd_C_3, rd_C_4, rd_C_5, rd_C_6, rd_C_7, rd_C_8, rd_C_9, rd_C_10, rd_C_11, rd_C_12, rd_C_13, rd_C_14, rd_C_15, rd_C_16, rd_C_17, rd_C_18, rd_C_19, rd_C_20, rd_C_21, rd_C_22, rd_C_23, rd_C_30, rd_C_31, rd_C_32, rd_C_33, rd_C_34, rd_C_35, rd_C_36, rd_C_37, rd_C_38, rd_C_39, rd_C_40, rd_C_41, rd_C_42, rd_C_43, rd_C_44, rd_C_45, rd_C_46, rd_C_47, rd_C_48, rd_C_49, rd_C_50, rd_C_51, rd_C_52, rd_C_53, rd_C_54, rd_C_55, rd_C_56, rd_C_57, rd_C_58, rd_C_59, rd_C_60, rd_C_61, rd_C_62, rd_C_63, rd_C_64, rd_C_65, wr_C9, wr_C10, wr_C11, wr_C12, wr_C25, wr_C26, wr_C27, wr_C28, wr_C29, wp_C25, wp_C26, wp_C27, wp_C28, wp_C29]
          refine zw_iadd ok_Co_meet rfl ?_
          refine zw_iast ok_Co_meet rfl rfl (by omega) ?_
          try simp only [rd_C9, rd_C10, rd_C11, rd_C12, rd_C25, rd_C26, rd_C27, rd_C28, rd_C29, rd_C_0, rd_C_1, rd_C_2, rd_C_3, rd_C_4, rd_C_5, rd_C_6, rd_C_7, rd_C_8, rd_C_9, rd_C_10, rd_C_11, rd_C_12, rd_C_13, rd_C_14, rd_C_15, rd_C_16, rd_C_17, rd_C_18, rd_C_19, rd_C_20, rd_C_21, rd_C_22, rd_C_23, rd_C_30, rd_C_31, rd_C_32, rd_C_33, rd_C_34, rd_C_35, rd_C_36, rd_C_37, rd_C_38, rd_C_39, rd_C_40, rd_C_41, rd_C_42, rd_C_43, rd_C_44, rd_C_45, rd_C_46, rd_C_47, rd_C_48, rd_C_49, rd_C_50, rd_C_51, rd_C_52, rd_C_53, rd_C_54, rd_C_55, rd_C_56, rd_C_57, rd_C_58, rd_C_59, rd_C_60, rd_C_61, rd_C_62, rd_C_63, rd_C_64, rd_C_65, wr_C9, wr_C10, wr_C11, wr_C12, wr_C25, wr_C26, wr_C27, wr_C28, wr_C29, wp_C25, wp_C26, wp_C27, wp_C28, wp_C29]
          refine zw_aload_n ok_Co_meet rfl rfl ?_
          refine zw_getr ok_Co_meet rfl fl_Co_24 rfl rfl ?_
          refine zw_iload ok_Co_meet rfl rfl ?_
          refine zw_aload_n ok_Co_meet rfl rfl ?_
          refine zw_getr ok_Co_meet rfl fl_Co_24 rfl rfl ?_
          refine zw_iload ok_Co_meet rfl rfl ?_
          refine zw_iald ok_Co_meet rfl rfl (by omega) ?_
          try simp only [rd_C9, rd_C10, rd_C11, rd_C12, rd_C25, rd_C26, rd_C27, rd_C28, rd_C29, rd_C_0, rd_C_1, rd_C_2, rd_C_3, rd_C_4, rd_C_5, rd_C_6, rd_C_7, rd_C_8, rd_C_9, rd_C_10, rd_C_11, rd_C_12, rd_C_13, rd_C_14, rd_C_15, rd_C_16, rd_C_17, rd_C_18, rd_C_19, rd_C_20, rd_C_21, rd_C_22, rd_C_23, rd_C_30, rd_C_31, rd_C_32, rd_C_33, rd_C_34, rd_C_35, rd_C_36, rd_C_37, rd_C_38, rd_C_39, rd_C_40, rd_C_41, rd_C_42, rd_C_43, rd_C_44, rd_C_45, rd_C_46, rd_C_47, rd_C_48, rd_C_49, rd_C_50, rd_C_51, rd_C_52, rd_C_53, rd_C_54, rd_C_55, rd_C_56, rd_C_57, rd_C_58, rd_C_59, rd_C_60, rd_C_61, rd_C_62, rd_C_63, rd_C_64, rd_C_65, wr_C9, wr_C10, wr_C11, wr_C12, wr_C25, wr_C26, wr_C27, wr_C28, wr_C29, wp_C25, wp_C26, wp_C27, wp_C28, wp_C29]
          refine zw_iload ok_Co_meet rfl rfl ?_
          refine zw_mmax ok_Co_meet rfl lm_Co_126 ⟨by decide, Nat.le_of_ble_eq_true rfl⟩ (by omega) ?_
          refine zw_iast ok_Co_meet rfl rfl (by omega) ?_
          try simp only [rd_C9, rd_C10, rd_C11, rd_C12, rd_C25, rd_C26, rd_C27, rd_C28, rd_C29, rd_C_0, rd_C_1, rd_C_2, rd_C_3, rd_C_4, rd_C_5, rd_C_6, rd_C_7, rd_C_8, rd_C_9, rd_C_10, rd_C_11, rd_C_12, rd_C_13, rd_C_14, rd_C_15, rd_C_16, rd_C_17, rd_C_18, rd_C_19, rd_C_20, rd_C_21, rd_C_22, rd_C_23, rd_C_30, rd_C_31, rd_C_32, rd_C_33, rd_C_34, rd_C_35, rd_C_36, rd_C_37, rd_C_38, rd_C_39, rd_C_40, rd_C_41, rd_C_42, rd_C_43, rd_C_44, rd_C_45, rd_C_46, rd_C_47, rd_C_48, rd_C_49, rd_C_50, rd_C_51, rd_C_52, rd_C_53, rd_C_54, rd_C_55, rd_C_56, rd_C_57, rd_C_58, rd_C_59, rd_C_60, rd_C_61, rd_C_62, rd_C_63, rd_C_64, rd_C_65, wr_C9, wr_C10, wr_C11, wr_C12, wr_C25, wr_C26, wr_C27, wr_C28, wr_C29, wp_C25, wp_C26, wp_C27, wp_C28, wp_C29]
          refine zw_aload_n ok_Co_meet rfl rfl ?_
          first | refine zw_dupi ok_Co_meet rfl ?_ | refine zw_dupr ok_Co_meet rfl ?_
          refine zw_geti ok_Co_meet rfl fl_Co_102 rfl rfl ?_
          try simp only [rd_C9, rd_C10, rd_C11, rd_C12, rd_C25, rd_C26, rd_C27, rd_C28, rd_C29, rd_C_0, rd_C_1, rd_C_2, rd_C_3, rd_C_4, rd_C_5, rd_C_6, rd_C_7, rd_C_8, rd_C_9, rd_C_10, rd_C_11, rd_C_12, rd_C_13, rd_C_14, rd_C_15, rd_C_16, rd_C_17, rd_C_18, rd_C_19, rd_C_20, rd_C_21, rd_C_22, rd_C_23, rd_C_30, rd_C_31, rd_C_32, rd_C_33, rd_C_34, rd_C_35, rd_C_36, rd_C_37, rd_C_38, rd_C_39, rd_C_40, rd_C_41, rd_C_42, rd_C_43, rd_C_44, rd_C_45, rd_C_46, rd_C_47, rd_C_48, rd_C_49, rd_C_50, rd_C_51, rd_C_52, rd_C_53, rd_C_54, rd_C_55, rd_C_56, rd_C_57, rd_C_58, rd_C_59, rd_C_60, rd_C_61, rd_C_62, rd_C_63, rd_C_64, rd_C_65, wr_C9, wr_C10, wr_C11, wr_C12, wr_C25, wr_C26, wr_C27, wr_C28, wr_C29, wp_C25, wp_C26, wp_C27, wp_C28, wp_C29]
          refine zw_iconst ok_Co_meet rfl ?_
          refine zw_iadd ok_Co_meet rfl ?_
          refine zw_puti ok_Co_meet rfl fp_Co_102 rfl rfl ?_
          try simp only [rd_C9, rd_C10, rd_C11, rd_C12, rd_C25, rd_C26, rd_C27, rd_C28, rd_C29, rd_C_0, rd_C_1, rd_C_2, rd_C_3, rd_C_4, rd_C_5, rd_C_6, rd_C_7, rd_C_8, rd_C_9, rd_C_10, rd_C_11, rd_C_12, rd_C_13, rd_C_14, rd_C_15, rd_C_16, rd_C_17, rd_C_18, rd_C_19, rd_C_20, rd_C_21, rd_C_22, rd_C_23, rd_C_30, rd_C_31, rd_C_32, rd_C_33, rd_C_34, rd_C_35, rd_C_36, rd_C_37, rd_C_38, rd_C_39, rd_C_40, rd_C_41, rd_C_42, rd_C_43, rd_C_44, rd_C_45, rd_C_46, rd_C_47, rd_C_48, rd_C_49, rd_C_50, rd_C_51, rd_C_52, rd_C_53, rd_C_54, rd_C_55, rd_C_56, rd_C_57, rd_C_58, rd_C_59, rd_C_60, rd_C_61, rd_C_62, rd_C_63, rd_C_64, rd_C_65, wr_C9, wr_C10, wr_C11, wr_C12, wr_C25, wr_C26, wr_C27, wr_C28, wr_C29, wp_C25, wp_C26, wp_C27, wp_C28, wp_C29]
          exact zw_vret ok_Co_meet rfl rfl (⟨rfl, by subst hX; first | rfl | rw [if_pos h71] | rw [if_neg (fun q => q h71)]⟩)
      · try (exfalso; omega)
        all_goals
          refine zw_iload ok_Co_meet rfl rfl ?_
          refine zw_aload_n ok_Co_meet rfl rfl ?_
          refine zw_getr ok_Co_meet rfl fl_Co_27 rfl rfl ?_
          refine zw_getr ok_Co_meet rfl fl_Co_96 rfl rfl ?_
          refine zw_iload ok_Co_meet rfl rfl ?_
          refine zw_iald ok_Co_meet rfl rfl (by omega) ?_
          try simp only [rd_C9, rd_C10, rd_C11, rd_C12, rd_C25, rd_C26, rd_C27, rd_C28, rd_C29, rd_C_0, rd_C_1, rd_C_2, rd_C_3, rd_C_4, rd_C_5, rd_C_6, rd_C_7, rd_C_8, rd_C_9, rd_C_10, rd_C_11, rd_C_12, rd_C_13, rd_C_14, rd_C_15, rd_C_16, rd_C_17, rd_C_18, rd_C_19, rd_C_20, rd_C_21, rd_C_22, rd_C_23, rd_C_30, rd_C_31, rd_C_32, rd_C_33, rd_C_34, rd_C_35, rd_C_36, rd_C_37, rd_C_38, rd_C_39, rd_C_40, rd_C_41, rd_C_42, rd_C_43, rd_C_44, rd_C_45, rd_C_46, rd_C_47, rd_C_48, rd_C_49, rd_C_50, rd_C_51, rd_C_52, rd_C_53, rd_C_54, rd_C_55, rd_C_56, rd_C_57, rd_C_58, rd_C_59, rd_C_60, rd_C_61, rd_C_62, rd_C_63, rd_C_64, rd_C_65, wr_C9, wr_C10, wr_C11, wr_C12, wr_C25, wr_C26, wr_C27, wr_C28, wr_C29, wp_C25, wp_C26, wp_C27, wp_C28, wp_C29]
          refine zw_iadd ok_Co_meet rfl ?_
          refine zw_ineg ok_Co_meet rfl ?_
          refine zw_goto 142 ok_Co_meet rfl (by decide) ?_
          refine zw_iast ok_Co_meet rfl rfl (by omega) ?_
          try simp only [rd_C9, rd_C10, rd_C11, rd_C12, rd_C25, rd_C26, rd_C27, rd_C28, rd_C29, rd_C_0, rd_C_1, rd_C_2, rd_C_3, rd_C_4, rd_C_5, rd_C_6, rd_C_7, rd_C_8, rd_C_9, rd_C_10, rd_C_11, rd_C_12, rd_C_13, rd_C_14, rd_C_15, rd_C_16, rd_C_17, rd_C_18, rd_C_19, rd_C_20, rd_C_21, rd_C_22, rd_C_23, rd_C_30, rd_C_31, rd_C_32, rd_C_33, rd_C_34, rd_C_35, rd_C_36, rd_C_37, rd_C_38, rd_C_39, rd_C_40, rd_C_41, rd_C_42, rd_C_43, rd_C_44, rd_C_45, rd_C_46, rd_C_47, rd_C_48, rd_C_49, rd_C_50, rd_C_51, rd_C_52, rd_C_53, rd_C_54, rd_C_55, rd_C_56, rd_C_57, rd_C_58, rd_C_59, rd_C_60, rd_C_61, rd_C_62, rd_C_63, rd_C_64, rd_C_65, wr_C9, wr_C10, wr_C11, wr_C12, wr_C25, wr_C26, wr_C27, wr_C28, wr_C29, wp_C25, wp_C26, wp_C27, wp_C28, wp_C29]
          refine zw_aload_n ok_Co_meet rfl rfl ?_
          refine zw_getr ok_Co_meet rfl fl_Co_24 rfl rfl ?_
          refine zw_iload ok_Co_meet rfl rfl ?_
          refine zw_aload_n ok_Co_meet rfl rfl ?_
          refine zw_getr ok_Co_meet rfl fl_Co_24 rfl rfl ?_
          refine zw_iload ok_Co_meet rfl rfl ?_
          refine zw_iald ok_Co_meet rfl rfl (by omega) ?_
          try simp only [rd_C9, rd_C10, rd_C11, rd_C12, rd_C25, rd_C26, rd_C27, rd_C28, rd_C29, rd_C_0, rd_C_1, rd_C_2, rd_C_3, rd_C_4, rd_C_5, rd_C_6, rd_C_7, rd_C_8, rd_C_9, rd_C_10, rd_C_11, rd_C_12, rd_C_13, rd_C_14, rd_C_15, rd_C_16, rd_C_17, rd_C_18, rd_C_19, rd_C_20, rd_C_21, rd_C_22, rd_C_23, rd_C_30, rd_C_31, rd_C_32, rd_C_33, rd_C_34, rd_C_35, rd_C_36, rd_C_37, rd_C_38, rd_C_39, rd_C_40, rd_C_41, rd_C_42, rd_C_43, rd_C_44, rd_C_45, rd_C_46, rd_C_47, rd_C_48, rd_C_49, rd_C_50, rd_C_51, rd_C_52, rd_C_53, rd_C_54, rd_C_55, rd_C_56, rd_C_57, rd_C_58, rd_C_59, rd_C_60, rd_C_61, rd_C_62, rd_C_63, rd_C_64, rd_C_65, wr_C9, wr_C10, wr_C11, wr_C12, wr_C25, wr_C26, wr_C27, wr_C28, wr_C29, wp_C25, wp_C26, wp_C27, wp_C28, wp_C29]
          refine zw_iload ok_Co_meet rfl rfl ?_
          refine zw_mmax ok_Co_meet rfl lm_Co_126 ⟨by decide, Nat.le_of_ble_eq_true rfl⟩ (by omega) ?_
          refine zw_iast ok_Co_meet rfl rfl (by omega) ?_
          try simp only [rd_C9, rd_C10, rd_C11, rd_C12, rd_C25, rd_C26, rd_C27, rd_C28, rd_C29, rd_C_0, rd_C_1, rd_C_2, rd_C_3, rd_C_4, rd_C_5, rd_C_6, rd_C_7, rd_C_8, rd_C_9, rd_C_10, rd_C_11, rd_C_12, rd_C_13, rd_C_14, rd_C_15, rd_C_16, rd_C_17, rd_C_18, rd_C_19, rd_C_20, rd_C_21, rd_C_22, rd_C_23, rd_C_30, rd_C_31, rd_C_32, rd_C_33, rd_C_34, rd_C_35, rd_C_36, rd_C_37, rd_C_38, rd_C_39, rd_C_40, rd_C_41, rd_C_42, rd_C_43, rd_C_44, rd_C_45, rd_C_46, rd_C_47, rd_C_48, rd_C_49, rd_C_50, rd_C_51, rd_C_52, rd_C_53, rd_C_54, rd_C_55, rd_C_56, rd_C_57, rd_C_58, rd_C_59, rd_C_60, rd_C_61, rd_C_62, rd_C_63, rd_C_64, rd_C_65, wr_C9, wr_C10, wr_C11, wr_C12, wr_C25, wr_C26, wr_C27, wr_C28, wr_C29, wp_C25, wp_C26, wp_C27, wp_C28, wp_C29]
          refine zw_aload_n ok_Co_meet rfl rfl ?_
          first | refine zw_dupi ok_Co_meet rfl ?_ | refine zw_dupr ok_Co_meet rfl ?_
          refine zw_geti ok_Co_meet rfl fl_Co_102 rfl rfl ?_
          try simp only [rd_C9, rd_C10, rd_C11, rd_C12, rd_C25, rd_C26, rd_C27, rd_C28, rd_C29, rd_C_0, rd_C_1, rd_C_2, rd_C_3, rd_C_4, rd_C_5, rd_C_6, rd_C_7, rd_C_8, rd_C_9, rd_C_10, rd_C_11, rd_C_12, rd_C_13, rd_C_14, rd_C_15, rd_C_16, rd_C_17, rd_C_18, rd_C_19, rd_C_20, rd_C_21, rd_C_22, rd_C_23, rd_C_30, rd_C_31, rd_C_32, rd_C_33, rd_C_34, rd_C_35, rd_C_36, rd_C_37, rd_C_38, rd_C_39, rd_C_40, rd_C_41, rd_C_42, rd_C_43, rd_C_44, rd_C_45, rd_C_46, rd_C_47, rd_C_48, rd_C_49, rd_C_50, rd_C_51, rd_C_52, rd_C_53, rd_C_54, rd_C_55, rd_C_56, rd_C_57, rd_C_58, rd_C_59, rd_C_60, rd_C_61, rd_C_62, rd_C_63, rd_C_64, rd_C_65, wr_C9, wr_C10, wr_C11, wr_C12, wr_C25, wr_C26, wr_C27, wr_C28, wr_C29, wp_C25, wp_C26, wp_C27, wp_C28, wp_C29]
          refine zw_iconst ok_Co_meet rfl ?_
          refine zw_iadd ok_Co_meet rfl ?_
          refine zw_puti ok_Co_meet rfl fp_Co_102 rfl rfl ?_
          try simp only [rd_C9, rd_C10, rd_C11, rd_C12, rd_C25, rd_C26, rd_C27, rd_C28, rd_C29, rd_C_0, rd_C_1, rd_C_2, rd_C_3, rd_C_4, rd_C_5, rd_C_6, rd_C_7, rd_C_8, rd_C_9, rd_C_10, rd_C_11, rd_C_12, rd_C_13, rd_C_14, rd_C_15, rd_C_16, rd_C_17, rd_C_18, rd_C_19, rd_C_20, rd_C_21, rd_C_22, rd_C_23, rd_C_30, rd_C_31, rd_C_32, rd_C_33, rd_C_34, rd_C_35, rd_C_36, rd_C_37, rd_C_38, rd_C_39, rd_C_40, rd_C_41, rd_C_42, rd_C_43, rd_C_44, rd_C_45, rd_C_46, rd_C_47, rd_C_48, rd_C_49, rd_C_50, rd_C_51, rd_C_52, rd_C_53, rd_C_54, rd_C_55, rd_C_56, rd_C_57, rd_C_58, rd_C_59, rd_C_60, rd_C_61, rd_C_62, rd_C_63, rd_C_64, rd_C_65, wr_C9, wr_C10, wr_C11, wr_C12, wr_C25, wr_C26, wr_C27, wr_C28, wr_C29, wp_C25, wp_C26, wp_C27, wp_C28, wp_C29]
          exact zw_vret ok_Co_meet rfl rfl (⟨rfl, by subst hX; first | rfl | rw [if_pos h71] | rw [if_neg (fun q => q h71)]⟩)
    · rw [if_neg h63] at hX
      refine zw_aload_n ok_Co_meet rfl rfl ?_
      refine zw_aload_n ok_Co_meet rfl rfl ?_
      refine zw_geti ok_Co_meet rfl fl_Co_99 rfl rfl ?_
      try simp only [rd_C9, rd_C10, rd_C11, rd_C12, rd_C25, rd_C26, rd_C27, rd_C28, rd_C29, rd_C_0, rd_C_1, rd_C_2, rd_C_3, rd_C_4, rd_C_5, rd_C_6, rd_C_7, rd_C_8, rd_C_9, rd_C_10, rd_C_11, rd_C_12, rd_C_13, rd_C_14, rd_C_15, rd_C_16, rd_C_17, rd_C_18, rd_C_19, rd_C_20, rd_C_21, rd_C_22, rd_C_23, rd_C_30, rd_C_31, rd_C_32, rd_C_33, rd_C_34, rd_C_35, rd_C_36, rd_C_37, rd_C_38, rd_C_39, rd_C_40, rd_C_41, rd_C_42, rd_C_43, rd_C_44, rd_C_45, rd_C_46, rd_C_47, rd_C_48, rd_C_49, rd_C_50, rd_C_51, rd_C_52, rd_C_53, rd_C_54, rd_C_55, rd_C_56, rd_C_57, rd_C_58, rd_C_59, rd_C_60, rd_C_61, rd_C_62, rd_C_63, rd_C_64, rd_C_65, wr_C9, wr_C10, wr_C11, wr_C12, wr_C25, wr_C26, wr_C27, wr_C28, wr_C29, wp_C25, wp_C26, wp_C27, wp_C28, wp_C29]
      first | refine zw_ifne_d 79 ok_Co_meet rfl (by decide) (fun h71 => ?_) (fun h71 => ?_) | refine zw_ifne_b 79 ok_Co_meet rfl (by decide) (fun h71 => ?_) (fun h71 => ?_) | refine zw_if_ne 79 ok_Co_meet rfl (by decide) (by omega) (fun h71 => ?_) (fun h71 => ?_)
      · refine zw_aload_n ok_Co_meet rfl rfl ?_
        refine zw_geti ok_Co_meet rfl fl_Co_108 rfl rfl ?_
        try simp only [rd_C9, rd_C10, rd_C11, rd_C12, rd_C25, rd_C26, rd_C27, rd_C28, rd_C29, rd_C_0, rd_C_1, rd_C_2, rd_C_3, rd_C_4, rd_C_5, rd_C_6, rd_C_7, rd_C_8, rd_C_9, rd_C_10, rd_C_11, rd_C_12, rd_C_13, rd_C_14, rd_C_15, rd_C_16, rd_C_17, rd_C_18, rd_C_19, rd_C_20, rd_C_21, rd_C_22, rd_C_23, rd_C_30, rd_C_31, rd_C_32, rd_C_33, rd_C_34, rd_C_35, rd_C_36, rd_C_37, rd_C_38, rd_C_39, rd_C_40, rd_C_41, rd_C_42, rd_C_43, rd_C_44, rd_C_45, rd_C_46, rd_C_47, rd_C_48, rd_C_49, rd_C_50, rd_C_51, rd_C_52, rd_C_53, rd_C_54, rd_C_55, rd_C_56, rd_C_57, rd_C_58, rd_C_59, rd_C_60, rd_C_61, rd_C_62, rd_C_63, rd_C_64, rd_C_65, wr_C9, wr_C10, wr_C11, wr_C12, wr_C25, wr_C26, wr_C27, wr_C28, wr_C29, wp_C25, wp_C26, wp_C27, wp_C28, wp_C29]
        refine zw_puti ok_Co_meet rfl fp_Co_108 rfl rfl ?_
        try simp only [rd_C9, rd_C10, rd_C11, rd_C12, rd_C25, rd_C26, rd_C27, rd_C28, rd_C29, rd_C_0, rd_C_1, rd_C_2, rd_C_3, rd_C_4, rd_C_5, rd_C_6, rd_C_7, rd_C_8, rd_C_9, rd_C_10, rd_C_11, rd_C_12, rd_C_13, rd_C_14, rd_C_15, rd_C_16, rd_C_17, rd_C_18, rd_C_19, rd_C_20, rd_C_21, rd_C_22, rd_C_23, rd_C_30, rd_C_31, rd_C_32, rd_C_33, rd_C_34, rd_C_35, rd_C_36, rd_C_37, rd_C_38, rd_C_39, rd_C_40, rd_C_41, rd_C_42, rd_C_43, rd_C_44, rd_C_45, rd_C_46, rd_C_47, rd_C_48, rd_C_49, rd_C_50, rd_C_51, rd_C_52, rd_C_53, rd_C_54, rd_C_55, rd_C_56, rd_C_57, rd_C_58, rd_C_59, rd_C_60, rd_C_61, rd_C_62, rd_C_63, rd_C_64, rd_C_65, wr_C9, wr_C10, wr_C11, wr_C12, wr_C25, wr_C26, wr_C27, wr_C28, wr_C29, wp_C25, wp_C26, wp_C27, wp_C28, wp_C29]
        refine zw_aload_n ok_Co_meet rfl rfl ?_
        first | refine zw_dupi ok_Co_meet rfl ?_ | refine zw_dupr ok_Co_meet rfl ?_
        refine zw_geti ok_Co_meet rfl fl_Co_99 rfl rfl ?_
        try simp only [rd_C9, rd_C10, rd_C11, rd_C12, rd_C25, rd_C26, rd_C27, rd_C28, rd_C29, rd_C_0, rd_C_1, rd_C_2, rd_C_3, rd_C_4, rd_C_5, rd_C_6, rd_C_7, rd_C_8, rd_C_9, rd_C_10, rd_C_11, rd_C_12, rd_C_13, rd_C_14, rd_C_15, rd_C_16, rd_C_17, rd_C_18, rd_C_19, rd_C_20, rd_C_21, rd_C_22, rd_C_23, rd_C_30, rd_C_31, rd_C_32, rd_C_33, rd_C_34, rd_C_35, rd_C_36, rd_C_37, rd_C_38, rd_C_39, rd_C_40, rd_C_41, rd_C_42, rd_C_43, rd_C_44, rd_C_45, rd_C_46, rd_C_47, rd_C_48, rd_C_49, rd_C_50, rd_C_51, rd_C_52, rd_C_53, rd_C_54, rd_C_55, rd_C_56, rd_C_57, rd_C_58, rd_C_59, rd_C_60, rd_C_61, rd_C_62, rd_C_63, rd_C_64, rd_C_65, wr_C9, wr_C10, wr_C11, wr_C12, wr_C25, wr_C26, wr_C27, wr_C28, wr_C29, wp_C25, wp_C26, wp_C27, wp_C28, wp_C29]
        refine zw_iconst ok_Co_meet rfl ?_
        refine zw_iload ok_Co_meet rfl rfl ?_
        refine zw_ishl ok_Co_meet rfl ?_
        refine zw_ior ok_Co_meet rfl ?_
        refine zw_puti ok_Co_meet rfl fp_Co_99 rfl rfl ?_
        try simp only [rd_C9, rd_C10, rd_C11, rd_C12, rd_C25, rd_C26, rd_C27, rd_C28, rd_C29, rd_C_0, rd_C_1, rd_C_2, rd_C_3, rd_C_4, rd_C_5, rd_C_6, rd_C_7, rd_C_8, rd_C_9, rd_C_10, rd_C_11, rd_C_12, rd_C_13, rd_C_14, rd_C_15, rd_C_16, rd_C_17, rd_C_18, rd_C_19, rd_C_20, rd_C_21, rd_C_22, rd_C_23, rd_C_30, rd_C_31, rd_C_32, rd_C_33, rd_C_34, rd_C_35, rd_C_36, rd_C_37, rd_C_38, rd_C_39, rd_C_40, rd_C_41, rd_C_42, rd_C_43, rd_C_44, rd_C_45, rd_C_46, rd_C_47, rd_C_48, rd_C_49, rd_C_50, rd_C_51, rd_C_52, rd_C_53, rd_C_54, rd_C_55, rd_C_56, rd_C_57, rd_C_58, rd_C_59, rd_C_60, rd_C_61, rd_C_62, rd_C_63, rd_C_64, rd_C_65, wr_C9, wr_C10, wr_C11, wr_C12, wr_C25, wr_C26, wr_C27, wr_C28, wr_C29, wp_C25, wp_C26, wp_C27, wp_C28, wp_C29]
        refine zw_goto 172 ok_Co_meet rfl (by decide) ?_
        exact zw_vret ok_Co_meet rfl rfl (⟨rfl, by subst hX; first | rfl | rw [if_pos h71] | rw [if_neg (fun q => q h71)]⟩)
      · refine zw_iload ok_Co_meet rfl rfl ?_
        refine zw_goto 83 ok_Co_meet rfl (by decide) ?_
        refine zw_puti ok_Co_meet rfl fp_Co_108 rfl rfl ?_
        try simp only [rd_C9, rd_C10, rd_C11, rd_C12, rd_C25, rd_C26, rd_C27, rd_C28, rd_C29, rd_C_0, rd_C_1, rd_C_2, rd_C_3, rd_C_4, rd_C_5, rd_C_6, rd_C_7, rd_C_8, rd_C_9, rd_C_10, rd_C_11, rd_C_12, rd_C_13, rd_C_14, rd_C_15, rd_C_16, rd_C_17, rd_C_18, rd_C_19, rd_C_20, rd_C_21, rd_C_22, rd_C_23, rd_C_30, rd_C_31, rd_C_32, rd_C_33, rd_C_34, rd_C_35, rd_C_36, rd_C_37, rd_C_38, rd_C_39, rd_C_40, rd_C_41, rd_C_42, rd_C_43, rd_C_44, rd_C_45, rd_C_46, rd_C_47, rd_C_48, rd_C_49, rd_C_50, rd_C_51, rd_C_52, rd_C_53, rd_C_54, rd_C_55, rd_C_56, rd_C_57, rd_C_58, rd_C_59, rd_C_60, rd_C_61, rd_C_62, rd_C_63, rd_C_64, rd_C_65, wr_C9, wr_C10, wr_C11, wr_C12, wr_C25, wr_C26, wr_C27, wr_C28, wr_C29, wp_C25, wp_C26, wp_C27, wp_C28, wp_C29]
        refine zw_aload_n ok_Co_meet rfl rfl ?_
        first | refine zw_dupi ok_Co_meet rfl ?_ | refine zw_dupr ok_Co_meet rfl ?_
        refine zw_geti ok_Co_meet rfl fl_Co_99 rfl rfl ?_
        try simp only [rd_C9, rd_C10, rd_C11, rd_C12, rd_C25, rd_C26, rd_C27, rd_C28, rd_C29, rd_C_0, rd_C_1, rd_C_2, rd_C_3, rd_C_4, rd_C_5, rd_C_6, rd_C_7, rd_C_8, rd_C_9, rd_C_10, rd_C_11, rd_C_12, rd_C_13, rd_C_14, rd_C_15, rd_C_16, rd_C_17, rd_C_18, rd_C_19, rd_C_20, rd_C_21, rd_C_22, rd_C_23, rd_C_30, rd_C_31, rd_C_32, rd_C_33, rd_C_34, rd_C_35, rd_C_36, rd_C_37, rd_C_38, rd_C_39, rd_C_40, rd_C_41, rd_C_42, rd_C_43, rd_C_44, rd_C_45, rd_C_46, rd_C_47, rd_C_48, rd_C_49, rd_C_50, rd_C_51, rd_C_52, rd_C_53, rd_C_54, rd_C_55, rd_C_56, rd_C_57, rd_C_58, rd_C_59, rd_C_60, rd_C_61, rd_C_62, rd_C_63, rd_C_64, rd_C_65, wr_C9, wr_C10, wr_C11, wr_C12, wr_C25, wr_C26, wr_C27, wr_C28, wr_C29, wp_C25, wp_C26, wp_C27, wp_C28, wp_C29]
        refine zw_iconst ok_Co_meet rfl ?_
        refine zw_iload ok_Co_meet rfl rfl ?_
        refine zw_ishl ok_Co_meet rfl ?_
        refine zw_ior ok_Co_meet rfl ?_
        refine zw_puti ok_Co_meet rfl fp_Co_99 rfl rfl ?_
        try simp only [rd_C9, rd_C10, rd_C11, rd_C12, rd_C25, rd_C26, rd_C27, rd_C28, rd_C29, rd_C_0, rd_C_1, rd_C_2, rd_C_3, rd_C_4, rd_C_5, rd_C_6, rd_C_7, rd_C_8, rd_C_9, rd_C_10, rd_C_11, rd_C_12, rd_C_13, rd_C_14, rd_C_15, rd_C_16, rd_C_17, rd_C_18, rd_C_19, rd_C_20, rd_C_21, rd_C_22, rd_C_23, rd_C_30, rd_C_31, rd_C_32, rd_C_33, rd_C_34, rd_C_35, rd_C_36, rd_C_37, rd_C_38, rd_C_39, rd_C_40, rd_C_41, rd_C_42, rd_C_43, rd_C_44, rd_C_45, rd_C_46, rd_C_47, rd_C_48, rd_C_49, rd_C_50, rd_C_51, rd_C_52, rd_C_53, rd_C_54, rd_C_55, rd_C_56, rd_C_57, rd_C_58, rd_C_59, rd_C_60, rd_C_61, rd_C_62, rd_C_63, rd_C_64, rd_C_65, wr_C9, wr_C10, wr_C11, wr_C12, wr_C25, wr_C26, wr_C27, wr_C28, wr_C29, wp_C25, wp_C26, wp_C27, wp_C28, wp_C29]
        refine zw_goto 172 ok_Co_meet rfl (by decide) ?_
        exact zw_vret ok_Co_meet rfl rfl (⟨rfl, by subst hX; first | rfl | rw [if_pos h71] | rw [if_neg (fun q => q h71)]⟩)
theorem ct_Co_isGone {p : Int} (hp : 0 ≤ p ∧ p < 8) : zCbp m_Co_isGone [vr 24, vi p] (putC mem L s) (tb s.2.2.1 p.toNat) := by
  obtain ⟨d, l, g, n, fh, fw⟩ := s
  refine zCt.of [some (vr 24), some (vi p)] ok_Co_isGone (Nat.le_of_ble_eq_true rfl) rfl ?_
  refine zw_aload_n ok_Co_isGone rfl rfl ?_
  refine zw_geti ok_Co_isGone rfl fl_Co_99 rfl rfl ?_
  try simp only [rd_C9, rd_C10, rd_C11, rd_C12, rd_C25, rd_C26, rd_C27, rd_C28, rd_C29, rd_C_0, rd_C_1, rd_C_2, rd_C_3, rd_C_4, rd_C_5, rd_C_6, rd_C_7, rd_C_8, rd_C_9, rd_C_10, rd_C_11, rd_C_12, rd_C_13, rd_C_14, rd_C_15, rd_C_16, rd_C_17, rd_C_18, rd_C_19, rd_C_20, rd_C_21, rd_C_22, rd_C_23, rd_C_30, rd_C_31, rd_C_32, rd_C_33, rd_C_34, rd_C_35, rd_C_36, rd_C_37, rd_C_38, rd_C_39, rd_C_40, rd_C_41, rd_C_42, rd_C_43, rd_C_44, rd_C_45, rd_C_46, rd_C_47, rd_C_48, rd_C_49, rd_C_50, rd_C_51, rd_C_52, rd_C_53, rd_C_54, rd_C_55, rd_C_56, rd_C_57, rd_C_58, rd_C_59, rd_C_60, rd_C_61, rd_C_62, rd_C_63, rd_C_64, rd_C_65, wr_C9, wr_C10, wr_C11, wr_C12, wr_C25, wr_C26, wr_C27, wr_C28, wr_C29, wp_C25, wp_C26, wp_C27, wp_C28, wp_C29]
  refine zw_iload_n ok_Co_isGone rfl rfl ?_
  refine zw_ishr ok_Co_isGone rfl ?_
  refine zw_iconst ok_Co_isGone rfl ?_
  refine zw_iand ok_Co_isGone rfl ?_
  refine zw_if_eq 15 ok_Co_isGone rfl (by decide) (zR_and _ _) (fun h8 => ?_) (fun h8 => ?_)
  · rw [tb_ask0 _ (by omega)] at h8
    refine zw_iconst ok_Co_isGone rfl ?_
    exact zw_zret ok_Co_isGone rfl rfl (by first | exact Or.inl rfl | exact Or.inr rfl | exact bi01 _) (⟨by simp [bi, h8], rfl⟩)
  · rw [tb_ask0 _ (by omega)] at h8
    refine zw_iconst ok_Co_isGone rfl ?_
    refine zw_goto 16 ok_Co_isGone rfl (by decide) ?_
    exact zw_zret ok_Co_isGone rfl rfl (by first | exact Or.inl rfl | exact Or.inr rfl | exact bi01 _) (⟨by simp [bi, h8], rfl⟩)
theorem ct_Co_mayMeet {a b : Int} (ha : 0 ≤ a ∧ a < 8) (hb : 0 ≤ b ∧ b < 8) : zCbp m_Co_mayMeet [vr 24, vi a, vi b] (putC mem L s) (decide (a ≠ b ∧ (tb (mem 5 5) a.toNat = false ∧ tb s.2.2.1 a.toNat = false) ∧ (tb (mem 5 5) b.toNat = false ∧ tb s.2.2.1 b.toNat = false))) := by
  obtain ⟨d, l, g, n, fh, fw⟩ := s
  refine zCt.of [some (vr 24), some (vi a), some (vi b), none] ok_Co_mayMeet (Nat.le_of_ble_eq_true rfl) rfl ?_
  refine zw_aload_n ok_Co_mayMeet rfl rfl ?_
  refine zw_getr ok_Co_mayMeet rfl fl_Co_27 rfl rfl ?_
  refine zw_geti ok_Co_mayMeet rfl fl_Co_114 rfl rfl ?_
  try simp only [rd_C9, rd_C10, rd_C11, rd_C12, rd_C25, rd_C26, rd_C27, rd_C28, rd_C29, rd_C_0, rd_C_1, rd_C_2, rd_C_3, rd_C_4, rd_C_5, rd_C_6, rd_C_7, rd_C_8, rd_C_9, rd_C_10, rd_C_11, rd_C_12, rd_C_13, rd_C_14, rd_C_15, rd_C_16, rd_C_17, rd_C_18, rd_C_19, rd_C_20, rd_C_21, rd_C_22, rd_C_23, rd_C_30, rd_C_31, rd_C_32, rd_C_33, rd_C_34, rd_C_35, rd_C_36, rd_C_37, rd_C_38, rd_C_39, rd_C_40, rd_C_41, rd_C_42, rd_C_43, rd_C_44, rd_C_45, rd_C_46, rd_C_47, rd_C_48, rd_C_49, rd_C_50, rd_C_51, rd_C_52, rd_C_53, rd_C_54, rd_C_55, rd_C_56, rd_C_57, rd_C_58, rd_C_59, rd_C_60, rd_C_61, rd_C_62, rd_C_63, rd_C_64, rd_C_65, wr_C9, wr_C10, wr_C11, wr_C12, wr_C25, wr_C26, wr_C27, wr_C28, wr_C29, wp_C25, wp_C26, wp_C27, wp_C28, wp_C29]
  refine zw_aload_n ok_Co_mayMeet rfl rfl ?_
  refine zw_geti ok_Co_mayMeet rfl fl_Co_99 rfl rfl ?_
  try simp only [rd_C9, rd_C10, rd_C11, rd_C12, rd_C25, rd_C26, rd_C27, rd_C28, rd_C29, rd_C_0, rd_C_1, rd_C_2, rd_C_3, rd_C_4, rd_C_5, rd_C_6, rd_C_7, rd_C_8, rd_C_9, rd_C_10, rd_C_11, rd_C_12, rd_C_13, rd_C_14, rd_C_15, rd_C_16, rd_C_17, rd_C_18, rd_C_19, rd_C_20, rd_C_21, rd_C_22, rd_C_23, rd_C_30, rd_C_31, rd_C_32, rd_C_33, rd_C_34, rd_C_35, rd_C_36, rd_C_37, rd_C_38, rd_C_39, rd_C_40, rd_C_41, rd_C_42, rd_C_43, rd_C_44, rd_C_45, rd_C_46, rd_C_47, rd_C_48, rd_C_49, rd_C_50, rd_C_51, rd_C_52, rd_C_53, rd_C_54, rd_C_55, rd_C_56, rd_C_57, rd_C_58, rd_C_59, rd_C_60, rd_C_61, rd_C_62, rd_C_63, rd_C_64, rd_C_65, wr_C9, wr_C10, wr_C11, wr_C12, wr_C25, wr_C26, wr_C27, wr_C28, wr_C29, wp_C25, wp_C26, wp_C27, wp_C28, wp_C29]
  refine zw_ior ok_Co_mayMeet rfl ?_
  refine zw_istore_n ok_Co_mayMeet rfl rfl (by decide) ?_
  refine zw_iload_n ok_Co_mayMeet rfl rfl ?_
  refine zw_iload_n ok_Co_mayMeet rfl rfl ?_
  refine zw_icmp_eq 38 ok_Co_mayMeet rfl (by decide) (by omega) (fun h15 => ?_) (fun h15 => ?_)
  · refine zw_iconst ok_Co_mayMeet rfl ?_
    exact zw_zret ok_Co_mayMeet rfl rfl (by first | exact Or.inl rfl | exact Or.inr rfl | exact bi01 _) (⟨by refine congrArg (fun z => some (vi z)) ?_; first | exact (bi_f (by simp_all)).symm | exact (bi_t (by simp_all)).symm, rfl⟩)
  · refine zw_iload_n ok_Co_mayMeet rfl rfl ?_
    refine zw_iload_n ok_Co_mayMeet rfl rfl ?_
    refine zw_ishr ok_Co_mayMeet rfl ?_
    refine zw_iconst ok_Co_mayMeet rfl ?_
    refine zw_iand ok_Co_mayMeet rfl ?_
    refine zw_if_ne 38 ok_Co_mayMeet rfl (by decide) (zR_and _ _) (fun h23 => ?_) (fun h23 => ?_)
    · rw [tb_ask0 _ (by omega), tb_or] at h23
      refine zw_iconst ok_Co_mayMeet rfl ?_
      exact zw_zret ok_Co_mayMeet rfl rfl (by first | exact Or.inl rfl | exact Or.inr rfl | exact bi01 _) (⟨by refine congrArg (fun z => some (vi z)) ?_; first | exact (bi_f (by simp_all)).symm | exact (bi_t (by simp_all)).symm, rfl⟩)
    · rw [tb_ask0 _ (by omega), tb_or] at h23
      refine zw_iload_n ok_Co_mayMeet rfl rfl ?_
      refine zw_iload_n ok_Co_mayMeet rfl rfl ?_
      refine zw_ishr ok_Co_mayMeet rfl ?_
      refine zw_iconst ok_Co_mayMeet rfl ?_
      refine zw_iand ok_Co_mayMeet rfl ?_
      refine zw_if_ne 38 ok_Co_mayMeet rfl (by decide) (zR_and _ _) (fun h31 => ?_) (fun h31 => ?_)
      · rw [tb_ask0 _ (by omega), tb_or] at h31
        refine zw_iconst ok_Co_mayMeet rfl ?_
        exact zw_zret ok_Co_mayMeet rfl rfl (by first | exact Or.inl rfl | exact Or.inr rfl | exact bi01 _) (⟨by refine congrArg (fun z => some (vi z)) ?_; first | exact (bi_f (by simp_all)).symm | exact (bi_t (by simp_all)).symm, rfl⟩)
      · rw [tb_ask0 _ (by omega), tb_or] at h31
        refine zw_iconst ok_Co_mayMeet rfl ?_
        refine zw_goto 39 ok_Co_mayMeet rfl (by decide) ?_
        exact zw_zret ok_Co_mayMeet rfl rfl (by first | exact Or.inl rfl | exact Or.inr rfl | exact bi01 _) (⟨by refine congrArg (fun z => some (vi z)) ?_; first | exact (bi_f (by simp_all)).symm | exact (bi_t (by simp_all)).symm, rfl⟩)
/-- what person owes to another -/
def debtS (cl : Int) (d : Int → Int) (p q : Int) : Int := if tb cl p.toNat = true ∨ tb cl q.toNat = true then 0 else max (if p < q then d (p * 8 + q) else -(d (q * 8 + p))) 0
theorem ct_Co_debt {P p q : Int} (hP : 0 ≤ P ∧ P ≤ 8) (hp : 0 ≤ p ∧ p < P) (hq : 0 ≤ q ∧ q < P) (hpq : p ≠ q) (hs : sInv P s) : zCip m_Co_debt [vr 24, vi p, vi q] (putC mem L s) (debtS (mem 5 5) s.1 p q) := by
  obtain ⟨d, l, g, n, fh, fw⟩ := s
  have e1 := hs.1 p q hp.1
  have e2 := hs.1 q p hq.1
  dsimp only at e1 e2 ⊢
  refine zCt.of [some (vr 24), some (vi p), some (vi q), none, none] ok_Co_debt (Nat.le_of_ble_eq_true rfl) rfl ?_
  unfold debtS
  refine zw_aload_n ok_Co_debt rfl rfl ?_
  refine zw_getr ok_Co_debt rfl fl_Co_27 rfl rfl ?_
  refine zw_geti ok_Co_debt rfl fl_Co_114 rfl rfl ?_
  try simp only [rd_C9, rd_C10, rd_C11, rd_C12, rd_C25, rd_C26, rd_C27, rd_C28, rd_C29, rd_C_0, rd_C_1, rd_C_2, rd_C_3, rd_C_4, rd_C_5, rd_C_6, rd_C_7, rd_C_8, rd_C_9, rd_C_10, rd_C_11, rd_C_12, rd_C_13, rd_C_14, rd_C_15, rd_C_16, rd_C_17, rd_C_18, rd_C_19, rd_C_20, rd_C_21, rd_C_22, rd_C_23, rd_C_30, rd_C_31, rd_C_32, rd_C_33, rd_C_34, rd_C_35, rd_C_36, rd_C_37, rd_C_38, rd_C_39, rd_C_40, rd_C_41, rd_C_42, rd_C_43, rd_C_44, rd_C_45, rd_C_46, rd_C_47, rd_C_48, rd_C_49, rd_C_50, rd_C_51, rd_C_52, rd_C_53, rd_C_54, rd_C_55, rd_C_56, rd_C_57, rd_C_58, rd_C_59, rd_C_60, rd_C_61, rd_C_62, rd_C_63, rd_C_64, rd_C_65, wr_C9, wr_C10, wr_C11, wr_C12, wr_C25, wr_C26, wr_C27, wr_C28, wr_C29, wp_C25, wp_C26, wp_C27, wp_C28, wp_C29]
  refine zw_istore_n ok_Co_debt rfl rfl (by decide) ?_
  refine zw_iload_n ok_Co_debt rfl rfl ?_
  refine zw_iload_n ok_Co_debt rfl rfl ?_
  refine zw_ishr ok_Co_debt rfl ?_
  refine zw_iconst ok_Co_debt rfl ?_
  refine zw_iand ok_Co_debt rfl ?_
  refine zw_if_ne 24 ok_Co_debt rfl (by decide) (zR_and _ _) (fun h13 => ?_) (fun h13 => ?_)
  · rw [tb_ask0 _ (by omega)] at h13
    refine zw_iconst ok_Co_debt rfl ?_
    exact zw_iret ok_Co_debt rfl rfl (⟨by simp_all, rfl⟩)
  · rw [tb_ask0 _ (by omega)] at h13
    refine zw_iload_n ok_Co_debt rfl rfl ?_
    refine zw_iload_n ok_Co_debt rfl rfl ?_
    refine zw_ishr ok_Co_debt rfl ?_
    refine zw_iconst ok_Co_debt rfl ?_
    refine zw_iand ok_Co_debt rfl ?_
    refine zw_if_eq 26 ok_Co_debt rfl (by decide) (zR_and _ _) (fun h21 => ?_) (fun h21 => ?_)
    · rw [tb_ask0 _ (by omega)] at h21
      refine zw_iload_n ok_Co_debt rfl rfl ?_
      refine zw_iload_n ok_Co_debt rfl rfl ?_
      refine zw_icmp_ge 45 ok_Co_debt rfl (by decide) (by omega) (fun h28 => ?_) (fun h28 => ?_)
      · have e2 := e2 (by omega) (by omega)
        refine zw_aload_n ok_Co_debt rfl rfl ?_
        refine zw_getr ok_Co_debt rfl fl_Co_21 rfl rfl ?_
        refine zw_iload_n ok_Co_debt rfl rfl ?_
        refine zw_bipush ok_Co_debt rfl (by decide) ?_
        refine zw_imul ok_Co_debt rfl ?_
        refine zw_iload_n ok_Co_debt rfl rfl ?_
        refine zw_iadd ok_Co_debt rfl ?_
        refine zw_iald ok_Co_debt rfl rfl (by omega) ?_
        try simp only [rd_C9, rd_C10, rd_C11, rd_C12, rd_C25, rd_C26, rd_C27, rd_C28, rd_C29, rd_C_0, rd_C_1, rd_C_2, rd_C_3, rd_C_4, rd_C_5, rd_C_6, rd_C_7, rd_C_8, rd_C_9, rd_C_10, rd_C_11, rd_C_12, rd_C_13, rd_C_14, rd_C_15, rd_C_16, rd_C_17, rd_C_18, rd_C_19, rd_C_20, rd_C_21, rd_C_22, rd_C_23, rd_C_30, rd_C_31, rd_C_32, rd_C_33, rd_C_34, rd_C_35, rd_C_36, rd_C_37, rd_C_38, rd_C_39, rd_C_40, rd_C_41, rd_C_42, rd_C_43, rd_C_44, rd_C_45, rd_C_46, rd_C_47, rd_C_48, rd_C_49, rd_C_50, rd_C_51, rd_C_52, rd_C_53, rd_C_54, rd_C_55, rd_C_56, rd_C_57, rd_C_58, rd_C_59, rd_C_60, rd_C_61, rd_C_62, rd_C_63, rd_C_64, rd_C_65, wr_C9, wr_C10, wr_C11, wr_C12, wr_C25, wr_C26, wr_C27, wr_C28, wr_C29, wp_C25, wp_C26, wp_C27, wp_C28, wp_C29]
        refine zw_ineg ok_Co_debt rfl ?_
        refine zw_istore ok_Co_debt rfl rfl (by decide) ?_
        refine zw_iload ok_Co_debt rfl rfl ?_
        refine zw_iconst ok_Co_debt rfl ?_
        refine zw_mmax ok_Co_debt rfl lm_Co_126 ⟨by decide, Nat.le_of_ble_eq_true rfl⟩ (by omega) ?_
        exact zw_iret ok_Co_debt rfl rfl (⟨by rw [if_neg (by simp_all)]; first | rw [if_pos (by omega)] | rw [if_neg (by omega)], rfl⟩)
      · have e1 := e1 (by omega) (by omega)
        refine zw_aload_n ok_Co_debt rfl rfl ?_
        refine zw_getr ok_Co_debt rfl fl_Co_21 rfl rfl ?_
        refine zw_iload_n ok_Co_debt rfl rfl ?_
        refine zw_bipush ok_Co_debt rfl (by decide) ?_
        refine zw_imul ok_Co_debt rfl ?_
        refine zw_iload_n ok_Co_debt rfl rfl ?_
        refine zw_iadd ok_Co_debt rfl ?_
        refine zw_iald ok_Co_debt rfl rfl (by omega) ?_
        try simp only [rd_C9, rd_C10, rd_C11, rd_C12, rd_C25, rd_C26, rd_C27, rd_C28, rd_C29, rd_C_0, rd_C_1, rd_C_2, rd_C_3, rd_C_4, rd_C_5, rd_C_6, rd_C_7, rd_C_8, rd_C_9, rd_C_10, rd_C_11, rd_C_12, rd_C_13, rd_C_14, rd_C_15, rd_C_16, rd_C_17, rd_C_18, rd_C_19, rd_C_20, rd_C_21, rd_C_22, rd_C_23, rd_C_30, rd_C_31, rd_C_32, rd_C_33, rd_C_34, rd_C_35, rd_C_36, rd_C_37, rd_C_38, rd_C_39, rd_C_40, rd_C_41, rd_C_42, rd_C_43, rd_C_44, rd_C_45, rd_C_46, rd_C_47, rd_C_48, rd_C_49, rd_C_50, rd_C_51, rd_C_52, rd_C_53, rd_C_54, rd_C_55, rd_C_56, rd_C_57, rd_C_58, rd_C_59, rd_C_60, rd_C_61, rd_C_62, rd_C_63, rd_C_64, rd_C_65, wr_C9, wr_C10, wr_C11, wr_C12, wr_C25, wr_C26, wr_C27, wr_C28, wr_C29, wp_C25, wp_C26, wp_C27, wp_C28, wp_C29]
        refine zw_goto 57 ok_Co_debt rfl (by decide) ?_
        refine zw_istore ok_Co_debt rfl rfl (by decide) ?_
        refine zw_iload ok_Co_debt rfl rfl ?_
        refine zw_iconst ok_Co_debt rfl ?_
        refine zw_mmax ok_Co_debt rfl lm_Co_126 ⟨by decide, Nat.le_of_ble_eq_true rfl⟩ (by omega) ?_
        exact zw_iret ok_Co_debt rfl rfl (⟨by rw [if_neg (by simp_all)]; first | rw [if_pos (by omega)] | rw [if_neg (by omega)], rfl⟩)
    · rw [tb_ask0 _ (by omega)] at h21
      refine zw_iconst ok_Co_debt rfl ?_
      exact zw_iret ok_Co_debt rfl rfl (⟨by simp_all, rfl⟩)
def ringS (cl : Int) (d : Int → Int) (a b c : Int) : Prop := (0 < debtS cl d a b ∧ 0 < debtS cl d b c ∧ 0 < debtS cl d c a) ∨ (0 < debtS cl d b a ∧ 0 < debtS cl d c b ∧ 0 < debtS cl d a c)
theorem debtS_r {P p q : Int} {cl : Int} {s : zS} (hp : 0 ≤ p ∧ p < P) (hq : 0 ≤ q ∧ q < P) (hpq : p ≠ q) (hs : sInv P s) : 0 ≤ debtS cl s.1 p q ∧ debtS cl s.1 p q ≤ 109 := by
  have e1 := hs.1 p q hp.1
  have e2 := hs.1 q p hq.1
  unfold debtS
  split
  · omega
  · split
    · have e1 := e1 (by omega) (by omega); omega
    · have e2 := e2 (by omega) (by omega); omega
theorem ct_Co_isRing {P a b c : Int} (hP : 0 ≤ P ∧ P ≤ 8) (ha : 0 ≤ a ∧ a < P) (hb : 0 ≤ b ∧ b < P) (hc : 0 ≤ c ∧ c < P) (hab : a < b) (hbc : b < c) (hs : sInv P s) : zCt m_Co_isRing [vr 24, vi a, vi b, vi c] (putC mem L s) (fun r m2 => (∃ x, (x = 0 ∧ ¬ ringS (mem 5 5) s.1 a b c ∨ x = 1 ∧ ringS (mem 5 5) s.1 a b c) ∧ r = some (vi x)) ∧ m2 = putC mem L s) := by
  refine zCt.of [some (vr 24), some (vi a), some (vi b), some (vi c), none, none] ok_Co_isRing (Nat.le_of_ble_eq_true rfl) rfl ?_
  have r1 := debtS_r (cl := mem 5 5) ha hb (by omega) hs
  have r2 := debtS_r (cl := mem 5 5) hb hc (by omega) hs
  have r3 := debtS_r (cl := mem 5 5) hc ha (by omega) hs
  have r4 := debtS_r (cl := mem 5 5) hb ha (by omega) hs
  have r5 := debtS_r (cl := mem 5 5) hc hb (by omega) hs
  have r6 := debtS_r (cl := mem 5 5) ha hc (by omega) hs
  have J2 : ∀ x y : Int, (x = 0 ∨ x = 1) → (y = 0 ∨ y = 1) → (x = 1 ↔ (0 < debtS (mem 5 5) s.1 a b ∧ 0 < debtS (mem 5 5) s.1 b c ∧ 0 < debtS (mem 5 5) s.1 c a)) → (y = 1 ↔ (0 < debtS (mem 5 5) s.1 b a ∧ 0 < debtS (mem 5 5) s.1 c b ∧ 0 < debtS (mem 5 5) s.1 a c)) → AW m_Co_isRing 66 [some (vr 24), some (vi a), some (vi b), some (vi c), some (vi x), none] [vi y] (putC mem L s) (fun r m2 => (∃ x, (x = 0 ∧ ¬ ringS (mem 5 5) s.1 a b c ∨ x = 1 ∧ ringS (mem 5 5) s.1 a b c) ∧ r = some (vi x)) ∧ m2 = putC mem L s) := by
    intro x y hx hy hx2 hy2
    refine zw_istore ok_Co_isRing rfl rfl (by decide) ?_
    refine zw_iload ok_Co_isRing rfl rfl ?_
    refine zw_if_ne 78 ok_Co_isRing rfl (by decide) (by omega) (fun h70 => ?_) (fun h70 => ?_)
    · refine zw_iconst ok_Co_isRing rfl ?_
      refine zw_goto 83 ok_Co_isRing rfl (by decide) ?_
      exact zw_zret ok_Co_isRing rfl rfl (by first | exact Or.inl rfl | exact Or.inr rfl | exact bi01 _) (⟨⟨_, by unfold ringS; omega, rfl⟩, rfl⟩)
    · refine zw_iload ok_Co_isRing rfl rfl ?_
      refine zw_if_eq 82 ok_Co_isRing rfl (by decide) (by omega) (fun h75 => ?_) (fun h75 => ?_)
      · refine zw_iconst ok_Co_isRing rfl ?_
        exact zw_zret ok_Co_isRing rfl rfl (by first | exact Or.inl rfl | exact Or.inr rfl | exact bi01 _) (⟨⟨_, by unfold ringS; omega, rfl⟩, rfl⟩)
      · refine zw_iconst ok_Co_isRing rfl ?_
        refine zw_goto 83 ok_Co_isRing rfl (by decide) ?_
        exact zw_zret ok_Co_isRing rfl rfl (by first | exact Or.inl rfl | exact Or.inr rfl | exact bi01 _) (⟨⟨_, by unfold ringS; omega, rfl⟩, rfl⟩)
  have J1 : ∀ x : Int, (x = 0 ∨ x = 1) → (x = 1 ↔ (0 < debtS (mem 5 5) s.1 a b ∧ 0 < debtS (mem 5 5) s.1 b c ∧ 0 < debtS (mem 5 5) s.1 c a)) → AW m_Co_isRing 32 [some (vr 24), some (vi a), some (vi b), some (vi c), none, none] [vi x] (putC mem L s) (fun r m2 => (∃ x, (x = 0 ∧ ¬ ringS (mem 5 5) s.1 a b c ∨ x = 1 ∧ ringS (mem 5 5) s.1 a b c) ∧ r = some (vi x)) ∧ m2 = putC mem L s) := by
    intro x hx hx2
    refine zw_istore ok_Co_isRing rfl rfl (by decide) ?_
    refine zw_aload_n ok_Co_isRing rfl rfl ?_
    refine zw_iload_n ok_Co_isRing rfl rfl ?_
    refine zw_iload_n ok_Co_isRing rfl rfl ?_
    refine zw_Vip ok_Co_isRing rfl ok_Co_debt lk_Co_136 (by decide) rfl rfl (Nat.le_of_ble_eq_true rfl) (ct_Co_debt hP hb ha (by omega) hs) ?_
    refine zw_if_le 65 ok_Co_isRing rfl (by decide) (by omega) (fun h40 => ?_) (fun h40 => ?_)
    · refine zw_iconst ok_Co_isRing rfl ?_
      exact J2 _ _ hx (by omega) hx2 (by omega)
    · refine zw_aload_n ok_Co_isRing rfl rfl ?_
      refine zw_iload_n ok_Co_isRing rfl rfl ?_
      refine zw_iload_n ok_Co_isRing rfl rfl ?_
      refine zw_Vip ok_Co_isRing rfl ok_Co_debt lk_Co_136 (by decide) rfl rfl (Nat.le_of_ble_eq_true rfl) (ct_Co_debt hP hc hb (by omega) hs) ?_
      refine zw_if_le 65 ok_Co_isRing rfl (by decide) (by omega) (fun h49 => ?_) (fun h49 => ?_)
      · refine zw_iconst ok_Co_isRing rfl ?_
        exact J2 _ _ hx (by omega) hx2 (by omega)
      · refine zw_aload_n ok_Co_isRing rfl rfl ?_
        refine zw_iload_n ok_Co_isRing rfl rfl ?_
        refine zw_iload_n ok_Co_isRing rfl rfl ?_
        refine zw_Vip ok_Co_isRing rfl ok_Co_debt lk_Co_136 (by decide) rfl rfl (Nat.le_of_ble_eq_true rfl) (ct_Co_debt hP ha hc (by omega) hs) ?_
        refine zw_if_le 65 ok_Co_isRing rfl (by decide) (by omega) (fun h58 => ?_) (fun h58 => ?_)
        · refine zw_iconst ok_Co_isRing rfl ?_
          exact J2 _ _ hx (by omega) hx2 (by omega)
        · refine zw_iconst ok_Co_isRing rfl ?_
          refine zw_goto 66 ok_Co_isRing rfl (by decide) ?_
          exact J2 _ _ hx (by omega) hx2 (by omega)
  refine zw_aload_n ok_Co_isRing rfl rfl ?_
  refine zw_iload_n ok_Co_isRing rfl rfl ?_
  refine zw_iload_n ok_Co_isRing rfl rfl ?_
  refine zw_Vip ok_Co_isRing rfl ok_Co_debt lk_Co_136 (by decide) rfl rfl (Nat.le_of_ble_eq_true rfl) (ct_Co_debt hP ha hb (by omega) hs) ?_
  refine zw_if_le 31 ok_Co_isRing rfl (by decide) (by omega) (fun h6 => ?_) (fun h6 => ?_)
  · refine zw_iconst ok_Co_isRing rfl ?_
    exact J1 _ (by omega) (by omega)
  · refine zw_aload_n ok_Co_isRing rfl rfl ?_
    refine zw_iload_n ok_Co_isRing rfl rfl ?_
    refine zw_iload_n ok_Co_isRing rfl rfl ?_
    refine zw_Vip ok_Co_isRing rfl ok_Co_debt lk_Co_136 (by decide) rfl rfl (Nat.le_of_ble_eq_true rfl) (ct_Co_debt hP hb hc (by omega) hs) ?_
    refine zw_if_le 31 ok_Co_isRing rfl (by decide) (by omega) (fun h15 => ?_) (fun h15 => ?_)
    · refine zw_iconst ok_Co_isRing rfl ?_
      exact J1 _ (by omega) (by omega)
    · refine zw_aload_n ok_Co_isRing rfl rfl ?_
      refine zw_iload_n ok_Co_isRing rfl rfl ?_
      refine zw_iload_n ok_Co_isRing rfl rfl ?_
      refine zw_Vip ok_Co_isRing rfl ok_Co_debt lk_Co_136 (by decide) rfl rfl (Nat.le_of_ble_eq_true rfl) (ct_Co_debt hP hc ha (by omega) hs) ?_
      refine zw_if_le 31 ok_Co_isRing rfl (by decide) (by omega) (fun h24 => ?_) (fun h24 => ?_)
      · refine zw_iconst ok_Co_isRing rfl ?_
        exact J1 _ (by omega) (by omega)
      · refine zw_iconst ok_Co_isRing rfl ?_
        refine zw_goto 32 ok_Co_isRing rfl (by decide) ?_
        exact J1 _ (by omega) (by omega)
end
end
section
/-! ===== Coast: Arrays.fill, walkThrough, walkTo, begin ===== -/
/-- forget locals -/
def zmask : List Bool → zLs → Option zLs
  | [], [] => some []
  | true :: m, a :: t => match zmask m t with
    | some t2 => some (a :: t2)
    | none => none
  | false :: m, _ :: t => match zmask m t with
    | some t2 => some (none :: t2)
    | none => none
  | _, _ => none
theorem zmask_get : ∀ {m : List Bool} {ls l2 : zLs}, zmask m ls = some l2 → ∀ (i : Nat) (v : zVal), l2[i]? = some (some v) → ls[i]? = some (some v)
  | [], [], l2, h, i, v, hi => by simp [zmask] at h; subst h; simp at hi
  | [], _ :: _, l2, h, i, v, hi => by simp [zmask] at h
  | true :: m, [], l2, h, i, v, hi => by simp [zmask] at h
  | false :: m, [], l2, h, i, v, hi => by simp [zmask] at h
  | true :: m, a :: t, l2, h, i, v, hi => by
    simp only [zmask] at h
    split at h
    · rename_i t2 ht2
      simp only [Option.some.injEq] at h
      subst h
      cases i with
      | zero => simpa using hi
      | succ i => simpa using zmask_get ht2 i v (by simpa using hi)
    · cases h
  | false :: m, a :: t, l2, h, i, v, hi => by
    simp only [zmask] at h
    split at h
    · rename_i t2 ht2
      simp only [Option.some.injEq] at h
      subst h
      cases i with
      | zero => simp at hi
      | succ i => simpa using zmask_get ht2 i v (by simpa using hi)
    · cases h
theorem zw_mask {M : zMth} {pc : Nat} {ls l2 : zLs} {st : List zVal} {mem : zMem} {Q : Option zVal → zMem → Prop} (m : List Bool) (h : zmask m ls = some l2) (kk : AW M pc l2 st mem Q) : AW M pc ls st mem Q := zw_weak (zmask_get h) kk
def zfil (n v : Int) (f : Int → Int) : Int → Int := fun j => if 0 ≤ j ∧ j < n then v else f j
theorem zfil_s {mem : zMem} {k : Nat} {i v : Int} (hi : 0 ≤ i) : zset (zput mem k (zfil i v (mem k))) k i v = zput mem k (zfil (i + 1) v (mem k)) := by
  funext q
  by_cases hq : q = k
  · subst hq
    rw [zset_eq, zput_eq, zput_eq]
    funext j
    simp only [zupd, zfil]
    (repeat' split) <;> first | rfl | omega
  · rw [zset_ne hq, zput_ne hq, zput_ne hq]
theorem zfil_0 {mem : zMem} {k : Nat} {v : Int} : zput mem k (zfil 0 v (mem k)) = mem := by
  funext q
  by_cases hq : q = k
  · subst hq
    rw [zput_eq]
    funext j
    simp only [zfil]
    split <;> first | rfl | omega
  · rw [zput_ne hq]
section
variable {mem : zMem}
theorem fill_loop {k n : Nat} {fs : List (Option Nat)} {v : Int} {Q : Option zVal → zMem → Prop} (hc : zrow k = (0, n, fs)) (hn : n ≤ 240) (hx : Q none (zput mem k (zfil n v (mem k)))) :
    ∀ (j : Nat) (i : Int), 0 ≤ i → i + j = (n : Int) → AW m_Jarr_fill_53178 5 [some (vr k), some (vi v), some (vi i), some (vi (n : Int))] [] (zput mem k (zfil i v (mem k))) Q := by
  intro j
  induction j with
  | zero =>
    intro i h0 hi
    have e : i = (n : Int) := by omega
    subst e
    refine zw_iload_n ok_Jarr_fill_53178 rfl rfl ?_
    refine zw_iload_n ok_Jarr_fill_53178 rfl rfl ?_
    refine zw_icmp_ge 20 ok_Jarr_fill_53178 rfl (by decide) (by omega) (fun h7 => ?_) (fun h7 => ?_)
    · exact zw_vret ok_Jarr_fill_53178 rfl rfl (hx)
    · exact absurd (Int.le_refl _) h7
  | succ j ih =>
    intro i h0 hi
    refine zw_iload_n ok_Jarr_fill_53178 rfl rfl ?_
    refine zw_iload_n ok_Jarr_fill_53178 rfl rfl ?_
    refine zw_icmp_ge 20 ok_Jarr_fill_53178 rfl (by decide) (by omega) (fun h7 => ?_) (fun h7 => ?_)
    · exfalso; omega
    · refine zw_aload_n ok_Jarr_fill_53178 rfl rfl ?_
      refine zw_iload_n ok_Jarr_fill_53178 rfl rfl ?_
      refine zw_iload_n ok_Jarr_fill_53178 rfl rfl ?_
      refine zw_iast ok_Jarr_fill_53178 rfl hc (by omega) ?_
      refine zw_iinc ok_Jarr_fill_53178 rfl rfl rfl (by decide) ?_
      refine zw_goto 5 ok_Jarr_fill_53178 rfl (by decide) ?_
      rw [zfil_s h0]
      exact ih (i + 1) (by omega) (by omega)
theorem ct_Jarr_fill_53178 {k n : Nat} {fs : List (Option Nat)} {v : Int} (hc : zrow k = (0, n, fs)) : zCvp m_Jarr_fill_53178 [vr k, vi v] mem (zput mem k (zfil n v (mem k))) := by
  have hn := zrow_small hc (by omega)
  refine zCt.of [some (vr k), some (vi v), none, none] ok_Jarr_fill_53178 (Nat.le_of_ble_eq_true rfl) rfl ?_
  refine zw_iconst ok_Jarr_fill_53178 rfl ?_
  refine zw_istore_n ok_Jarr_fill_53178 rfl rfl (by decide) ?_
  refine zw_aload_n ok_Jarr_fill_53178 rfl rfl ?_
  refine zw_alen ok_Jarr_fill_53178 rfl hc (Or.inl rfl) ?_
  refine zw_istore_n ok_Jarr_fill_53178 rfl rfl (by decide) ?_
  have h := fill_loop (mem := mem) (v := v) (Q := fun r m2 => r = none ∧ m2 = zput mem k (zfil n v (mem k))) hc hn ⟨rfl, rfl⟩ n 0 (by omega) (by omega)
  rw [zfil_0] at h
  exact h
end
/-- an hour: a, then those behind a -/
def inS (can step st : Int → Int) (un row a : Int) (b : Int) (s : zS) : zS := if st (row + b) = st (row + a) ∧ tb (zor un s.2.2.1) a.toNat = false ∧ tb (zor un s.2.2.1) b.toNat = false then meetS can step a b s else s
def outS (P : Int) (can step st : Int → Int) (un row : Int) (a : Int) (s : zS) : zS := if st (row + a) = -1 then s else lp (inS can step st un row a) (P - (a + 1)).toNat (a + 1) s
def endS (h : Int) (s : zS) : zS := if s.2.2.1 = 0 then s else if s.2.2.2.2.1 ≠ -1 then s else (s.1, s.2.1, s.2.2.1, s.2.2.2.1, h, s.2.2.2.2.2)
def hourS (P : Int) (can step st : Int → Int) (un : Int → Int) (h : Int) (s : zS) : zS := endS h (lp (outS P can step st (un h) (h * 8)) P.toNat 0 s)
def walkS (P : Int) (can step st : Int → Int) (un : Int → Int) (n : Nat) (s : zS) : zS := lp (hourS P can step st un) n 0 s
theorem inS_inv {P : Int} {can step st : Int → Int} {un row a b : Int} {s : zS} (hp : pInv P can step) (ha : 0 ≤ a) (hab : a < b) (hb : b < P) (hs : sInv P s) : sInv P (inS can step st un row a b s) := by
  unfold inS
  split
  · exact meetS_inv hp ha hab hb hs
  · exact hs
theorem lpIn_inv {P : Int} {can step st : Int → Int} {un row a : Int} (hp : pInv P can step) (ha : 0 ≤ a) (k : Nat) (b : Int) (s : zS) (hk : b + k ≤ P) (hab : a < b) (hs : sInv P s) : sInv P (lp (inS can step st un row a) k b s) :=
  lp_inv k b s (fun j s h1 h2 hs => inS_inv hp ha (by omega) (by omega) hs) hs
theorem outS_inv {P : Int} {can step st : Int → Int} {un row a : Int} {s : zS} (hp : pInv P can step) (ha : 0 ≤ a) (haP : a < P) (hs : sInv P s) : sInv P (outS P can step st un row a s) := by
  unfold outS
  split
  · exact hs
  · exact lpIn_inv hp ha _ _ _ (by omega) (by omega) hs
theorem endS_inv {P h : Int} {s : zS} (hs : sInv P s) : sInv P (endS h s) := by
  unfold endS
  split
  · exact hs
  · split <;> exact hs
theorem hourS_inv {P : Int} {can step st : Int → Int} {un : Int → Int} {h : Int} {s : zS} (hp : pInv P can step) (hs : sInv P s) : sInv P (hourS P can step st un h s) :=
  endS_inv (lp_inv _ _ _ (fun j s h1 h2 hs => outS_inv hp h1 (by have := hp.1; omega) hs) hs)
theorem walkS_inv {P : Int} {can step st : Int → Int} {un : Int → Int} {n : Nat} {s : zS} (hp : pInv P can step) (hs : sInv P s) : sInv P (walkS P can step st un n s) :=
  lp_inv _ _ _ (fun _ _ _ _ hs => hourS_inv hp hs) hs
section
variable {mem : zMem} {st hd df : Int → Int} {Q : Option zVal → zMem → Prop}
theorem wt_in {P h un a : Int} (hP : pInv P (mem 7) (mem 9)) (eP : mem 5 4 = P) (hh : 0 ≤ h ∧ h ≤ 11) (hst : ∀ i, 0 ≤ i → i < 96 → -1 ≤ st i ∧ st i ≤ 7) (ha : 0 ≤ a ∧ a < P) (hne : st (h * 8 + a) ≠ -1) :
    ∀ (k : Nat) (b : Int) (s : zS), b + k = P → a < b → sInv P s → AW m_Co_walkThrough 126 [some (vr 24), some (vi h), some (vi (h * 8)), some (vi un), some (vi a), none, none, none] [] (putC mem (st, hd, df) (lp (inS (mem 7) (mem 9) st un (h * 8) a) k b s)) Q →
      AW m_Co_walkThrough 52 [some (vr 24), some (vi h), some (vi (h * 8)), some (vi un), some (vi a), some (vi (st (h * 8 + a))), some (vi b), none] [] (putC mem (st, hd, df) s) Q := by
  have q1 := hst (h * 8 + a) (by have := hP.2.1; omega) (by have := hP.2.1; omega)
  have q2 := hP.2.1
  intro k
  induction k with
  | zero =>
    intro b s hk hab hs hx
    refine zw_iload ok_Co_walkThrough rfl rfl ?_
    refine zw_iconst ok_Co_walkThrough rfl ?_
    refine zw_icmp_eq 126 ok_Co_walkThrough rfl (by decide) (by omega) (fun h55 => ?_) (fun h55 => ?_)
    · exact absurd h55 hne
    · refine zw_iload ok_Co_walkThrough rfl rfl ?_
      refine zw_aload_n ok_Co_walkThrough rfl rfl ?_
      refine zw_getr ok_Co_walkThrough rfl fl_Co_27 rfl rfl ?_
      refine zw_geti ok_Co_walkThrough rfl fl_Co_90 rfl rfl ?_
      try simp only [rd_C9, rd_C10, rd_C11, rd_C12, rd_C25, rd_C26, rd_C27, rd_C28, rd_C29, rd_C_0, rd_C_1, rd_C_2, rd_C_3, rd_C_4, rd_C_5, rd_C_6, rd_C_7, rd_C_8, rd_C_9, rd_C_10, rd_C_11, rd_C_12, rd_C_13, rd_C_14, rd_C_15, rd_C_16, rd_C_17, rd_C_18, rd_C_19, rd_C_20, rd_C_21, rd_C_22, rd_C_23, rd_C_30, rd_C_31, rd_C_32, rd_C_33, rd_C_34, rd_C_35, rd_C_36, rd_C_37, rd_C_38, rd_C_39, rd_C_40, rd_C_41, rd_C_42, rd_C_43, rd_C_44, rd_C_45, rd_C_46, rd_C_47, rd_C_48, rd_C_49, rd_C_50, rd_C_51, rd_C_52, rd_C_53, rd_C_54, rd_C_55, rd_C_56, rd_C_57, rd_C_58, rd_C_59, rd_C_60, rd_C_61, rd_C_62, rd_C_63, rd_C_64, rd_C_65, wr_C9, wr_C10, wr_C11, wr_C12, wr_C25, wr_C26, wr_C27, wr_C28, wr_C29, wp_C25, wp_C26, wp_C27, wp_C28, wp_C29]
      refine zw_icmp_ge 126 ok_Co_walkThrough rfl (by decide) (by omega) (fun h67 => ?_) (fun h67 => ?_)
      · refine zw_mask [true, true, true, true, true, false, false, false] rfl ?_
        exact hx
      · exfalso; omega
  | succ k ih =>
    intro b s hk hab hs hx
    have q3 := hst (h * 8 + b) (by omega) (by omega)
    rw [lp_s] at hx
    obtain ⟨d, l, g, n, fh, fw⟩ := s
    have e1 : min a b = a := by omega
    have e2 : max a b = b := by omega
    refine zw_iload ok_Co_walkThrough rfl rfl ?_
    refine zw_iconst ok_Co_walkThrough rfl ?_
    refine zw_icmp_eq 126 ok_Co_walkThrough rfl (by decide) (by omega) (fun h55 => ?_) (fun h55 => ?_)
    · exact absurd h55 hne
    · refine zw_iload ok_Co_walkThrough rfl rfl ?_
      refine zw_aload_n ok_Co_walkThrough rfl rfl ?_
      refine zw_getr ok_Co_walkThrough rfl fl_Co_27 rfl rfl ?_
      refine zw_geti ok_Co_walkThrough rfl fl_Co_90 rfl rfl ?_
      try simp only [rd_C9, rd_C10, rd_C11, rd_C12, rd_C25, rd_C26, rd_C27, rd_C28, rd_C29, rd_C_0, rd_C_1, rd_C_2, rd_C_3, rd_C_4, rd_C_5, rd_C_6, rd_C_7, rd_C_8, rd_C_9, rd_C_10, rd_C_11, rd_C_12, rd_C_13, rd_C_14, rd_C_15, rd_C_16, rd_C_17, rd_C_18, rd_C_19, rd_C_20, rd_C_21, rd_C_22, rd_C_23, rd_C_30, rd_C_31, rd_C_32, rd_C_33, rd_C_34, rd_C_35, rd_C_36, rd_C_37, rd_C_38, rd_C_39, rd_C_40, rd_C_41, rd_C_42, rd_C_43, rd_C_44, rd_C_45, rd_C_46, rd_C_47, rd_C_48, rd_C_49, rd_C_50, rd_C_51, rd_C_52, rd_C_53, rd_C_54, rd_C_55, rd_C_56, rd_C_57, rd_C_58, rd_C_59, rd_C_60, rd_C_61, rd_C_62, rd_C_63, rd_C_64, rd_C_65, wr_C9, wr_C10, wr_C11, wr_C12, wr_C25, wr_C26, wr_C27, wr_C28, wr_C29, wp_C25, wp_C26, wp_C27, wp_C28, wp_C29]
      refine zw_icmp_ge 126 ok_Co_walkThrough rfl (by decide) (by omega) (fun h67 => ?_) (fun h67 => ?_)
      · exfalso; omega
      · refine zw_iload_n ok_Co_walkThrough rfl rfl ?_
        refine zw_aload_n ok_Co_walkThrough rfl rfl ?_
        refine zw_geti ok_Co_walkThrough rfl fl_Co_99 rfl rfl ?_
        try simp only [rd_C9, rd_C10, rd_C11, rd_C12, rd_C25, rd_C26, rd_C27, rd_C28, rd_C29, rd_C_0, rd_C_1, rd_C_2, rd_C_3, rd_C_4, rd_C_5, rd_C_6, rd_C_7, rd_C_8, rd_C_9, rd_C_10, rd_C_11, rd_C_12, rd_C_13, rd_C_14, rd_C_15, rd_C_16, rd_C_17, rd_C_18, rd_C_19, rd_C_20, rd_C_21, rd_C_22, rd_C_23, rd_C_30, rd_C_31, rd_C_32, rd_C_33, rd_C_34, rd_C_35, rd_C_36, rd_C_37, rd_C_38, rd_C_39, rd_C_40, rd_C_41, rd_C_42, rd_C_43, rd_C_44, rd_C_45, rd_C_46, rd_C_47, rd_C_48, rd_C_49, rd_C_50, rd_C_51, rd_C_52, rd_C_53, rd_C_54, rd_C_55, rd_C_56, rd_C_57, rd_C_58, rd_C_59, rd_C_60, rd_C_61, rd_C_62, rd_C_63, rd_C_64, rd_C_65, wr_C9, wr_C10, wr_C11, wr_C12, wr_C25, wr_C26, wr_C27, wr_C28, wr_C29, wp_C25, wp_C26, wp_C27, wp_C28, wp_C29]
        refine zw_ior ok_Co_walkThrough rfl ?_
        refine zw_istore ok_Co_walkThrough rfl rfl (by decide) ?_
        refine zw_aload_n ok_Co_walkThrough rfl rfl ?_
        refine zw_getr ok_Co_walkThrough rfl fl_Co_9 rfl rfl ?_
        refine zw_iload_n ok_Co_walkThrough rfl rfl ?_
        refine zw_iload ok_Co_walkThrough rfl rfl ?_
        refine zw_iadd ok_Co_walkThrough rfl ?_
        refine zw_iald ok_Co_walkThrough rfl rfl (by omega) ?_
        try simp only [rd_C9, rd_C10, rd_C11, rd_C12, rd_C25, rd_C26, rd_C27, rd_C28, rd_C29, rd_C_0, rd_C_1, rd_C_2, rd_C_3, rd_C_4, rd_C_5, rd_C_6, rd_C_7, rd_C_8, rd_C_9, rd_C_10, rd_C_11, rd_C_12, rd_C_13, rd_C_14, rd_C_15, rd_C_16, rd_C_17, rd_C_18, rd_C_19, rd_C_20, rd_C_21, rd_C_22, rd_C_23, rd_C_30, rd_C_31, rd_C_32, rd_C_33, rd_C_34, rd_C_35, rd_C_36, rd_C_37, rd_C_38, rd_C_39, rd_C_40, rd_C_41, rd_C_42, rd_C_43, rd_C_44, rd_C_45, rd_C_46, rd_C_47, rd_C_48, rd_C_49, rd_C_50, rd_C_51, rd_C_52, rd_C_53, rd_C_54, rd_C_55, rd_C_56, rd_C_57, rd_C_58, rd_C_59, rd_C_60, rd_C_61, rd_C_62, rd_C_63, rd_C_64, rd_C_65, wr_C9, wr_C10, wr_C11, wr_C12, wr_C25, wr_C26, wr_C27, wr_C28, wr_C29, wp_C25, wp_C26, wp_C27, wp_C28, wp_C29]
        refine zw_iload ok_Co_walkThrough rfl rfl ?_
        refine zw_icmp_ne 120 ok_Co_walkThrough rfl (by decide) (by omega) (fun h89 => ?_) (fun h89 => ?_)
        · refine zw_iinc ok_Co_walkThrough rfl rfl rfl (by decide) ?_
          refine zw_goto 52 ok_Co_walkThrough rfl (by decide) ?_
          refine zw_mask [true, true, true, true, true, true, true, false] rfl ?_
          first
            | exact ih (b + 1) _ (by omega) (by omega) hs (by rw [inS, if_neg (fun q => h89 q.1)] at hx; exact hx)
            | exact ih (b + 1) _ (by omega) (by omega) hs (by rw [inS, if_neg (fun q => h99 q.2.1)] at hx; exact hx)
            | exact ih (b + 1) _ (by omega) (by omega) hs (by rw [inS, if_neg (fun q => h109 q.2.2)] at hx; exact hx)
            | exact ih (b + 1) _ (by omega) (by omega) (meetS_inv hP ha.1 hab (by omega) hs) (by rw [inS, if_pos ⟨h89, h99, h109⟩] at hx; exact hx)
        · refine zw_iload ok_Co_walkThrough rfl rfl ?_
          refine zw_iload ok_Co_walkThrough rfl rfl ?_
          refine zw_ishr ok_Co_walkThrough rfl ?_
          refine zw_iconst ok_Co_walkThrough rfl ?_
          refine zw_iand ok_Co_walkThrough rfl ?_
          refine zw_if_ne 120 ok_Co_walkThrough rfl (by decide) (zR_and _ _) (fun h99 => ?_) (fun h99 => ?_)
          · rw [tb_ask0 _ (by omega)] at h99
            refine zw_iinc ok_Co_walkThrough rfl rfl rfl (by decide) ?_
            refine zw_goto 52 ok_Co_walkThrough rfl (by decide) ?_
            refine zw_mask [true, true, true, true, true, true, true, false] rfl ?_
            first
              | exact ih (b + 1) _ (by omega) (by omega) hs (by rw [inS, if_neg (fun q => h89 q.1)] at hx; exact hx)
              | exact ih (b + 1) _ (by omega) (by omega) hs (by rw [inS, if_neg (fun q => h99 q.2.1)] at hx; exact hx)
              | exact ih (b + 1) _ (by omega) (by omega) hs (by rw [inS, if_neg (fun q => h109 q.2.2)] at hx; exact hx)
              | exact ih (b + 1) _ (by omega) (by omega) (meetS_inv hP ha.1 hab (by omega) hs) (by rw [inS, if_pos ⟨h89, h99, h109⟩] at hx; exact hx)
          · rw [tb_ask0 _ (by omega)] at h99
            refine zw_iload ok_Co_walkThrough rfl rfl ?_
            refine zw_iload ok_Co_walkThrough rfl rfl ?_
            refine zw_ishr ok_Co_walkThrough rfl ?_
            refine zw_iconst ok_Co_walkThrough rfl ?_
            refine zw_iand ok_Co_walkThrough rfl ?_
            refine zw_if_ne 120 ok_Co_walkThrough rfl (by decide) (zR_and _ _) (fun h109 => ?_) (fun h109 => ?_)
            · rw [tb_ask0 _ (by omega)] at h109
              refine zw_iinc ok_Co_walkThrough rfl rfl rfl (by decide) ?_
              refine zw_goto 52 ok_Co_walkThrough rfl (by decide) ?_
              refine zw_mask [true, true, true, true, true, true, true, false] rfl ?_
              first
                | exact ih (b + 1) _ (by omega) (by omega) hs (by rw [inS, if_neg (fun q => h89 q.1)] at hx; exact hx)
                | exact ih (b + 1) _ (by omega) (by omega) hs (by rw [inS, if_neg (fun q => h99 q.2.1)] at hx; exact hx)
                | exact ih (b + 1) _ (by omega) (by omega) hs (by rw [inS, if_neg (fun q => h109 q.2.2)] at hx; exact hx)
                | exact ih (b + 1) _ (by omega) (by omega) (meetS_inv hP ha.1 hab (by omega) hs) (by rw [inS, if_pos ⟨h89, h99, h109⟩] at hx; exact hx)
            · rw [tb_ask0 _ (by omega)] at h109
              refine zw_aload_n ok_Co_walkThrough rfl rfl ?_
              refine zw_iload ok_Co_walkThrough rfl rfl ?_
              refine zw_iload ok_Co_walkThrough rfl rfl ?_
              refine zw_Vvp ok_Co_walkThrough rfl ok_Co_meet lk_Co_117 (by decide) rfl rfl (Nat.le_of_ble_eq_true rfl) (ct_Co_meet hP ha (by omega) (by omega) hs) ?_
              rw [e1, e2]
              refine zw_iinc ok_Co_walkThrough rfl rfl rfl (by decide) ?_
              refine zw_goto 52 ok_Co_walkThrough rfl (by decide) ?_
              refine zw_mask [true, true, true, true, true, true, true, false] rfl ?_
              first
                | exact ih (b + 1) _ (by omega) (by omega) hs (by rw [inS, if_neg (fun q => h89 q.1)] at hx; exact hx)
                | exact ih (b + 1) _ (by omega) (by omega) hs (by rw [inS, if_neg (fun q => h99 q.2.1)] at hx; exact hx)
                | exact ih (b + 1) _ (by omega) (by omega) hs (by rw [inS, if_neg (fun q => h109 q.2.2)] at hx; exact hx)
                | exact ih (b + 1) _ (by omega) (by omega) (meetS_inv hP ha.1 hab (by omega) hs) (by rw [inS, if_pos ⟨h89, h99, h109⟩] at hx; exact hx)
end
end
section
/-! ===== Coast: walkThrough, walkTo, begin, walkTillOneIsGone ===== -/
theorem meetS_fh (can step : Int → Int) (a b : Int) (s : zS) : (meetS can step a b s).2.2.2.2.1 = s.2.2.2.2.1 := by
  unfold meetS
  (repeat' split) <;> rfl
theorem lpOut_fh {P : Int} {can step st : Int → Int} {un row : Int} {s : zS} (hf : -1 ≤ s.2.2.2.2.1 ∧ s.2.2.2.2.1 ≤ 11) (k : Nat) (a : Int) : -1 ≤ (lp (outS P can step st un row) k a s).2.2.2.2.1 ∧ (lp (outS P can step st un row) k a s).2.2.2.2.1 ≤ 11 := by
  have h1 : ∀ a b s, (inS can step st un row a b s).2.2.2.2.1 = s.2.2.2.2.1 := by
    intro a b s
    unfold inS
    split
    · exact meetS_fh _ _ _ _ _
    · rfl
  refine lp_inv (I := fun s : zS => -1 ≤ s.2.2.2.2.1 ∧ s.2.2.2.2.1 ≤ 11) _ _ _ (fun a s _ _ hs => ?_) hf
  unfold outS
  split
  · exact hs
  · exact lp_inv (I := fun s : zS => -1 ≤ s.2.2.2.2.1 ∧ s.2.2.2.2.1 ≤ 11) _ _ _ (fun b s _ _ hs => by rw [h1]; exact hs) hs
section
variable {mem : zMem} {st hd df : Int → Int} {Q : Option zVal → zMem → Prop}
theorem wt_out {P h un : Int} (hP : pInv P (mem 7) (mem 9)) (eP : mem 5 4 = P) (hh : 0 ≤ h ∧ h ≤ 11) (hst : ∀ i, 0 ≤ i → i < 96 → -1 ≤ st i ∧ st i ≤ 7) :
    ∀ (k : Nat) (a : Int) (s : zS), 0 ≤ a → a + k = P → sInv P s → AW m_Co_walkThrough 132 [some (vr 24), some (vi h), some (vi (h * 8)), some (vi un), none, none, none, none] [] (putC mem (st, hd, df) (lp (outS P (mem 7) (mem 9) st un (h * 8)) k a s)) Q →
      AW m_Co_walkThrough 23 [some (vr 24), some (vi h), some (vi (h * 8)), some (vi un), some (vi a), none, none, none] [] (putC mem (st, hd, df) s) Q := by
  have q2 := hP.2.1
  intro k
  induction k with
  | zero =>
    intro a s h0 hk hs hx
    refine zw_iload ok_Co_walkThrough rfl rfl ?_
    refine zw_aload_n ok_Co_walkThrough rfl rfl ?_
    refine zw_getr ok_Co_walkThrough rfl fl_Co_27 rfl rfl ?_
    refine zw_geti ok_Co_walkThrough rfl fl_Co_90 rfl rfl ?_
    try simp only [rd_C9, rd_C10, rd_C11, rd_C12, rd_C25, rd_C26, rd_C27, rd_C28, rd_C29, rd_C_0, rd_C_1, rd_C_2, rd_C_3, rd_C_4, rd_C_5, rd_C_6, rd_C_7, rd_C_8, rd_C_9, rd_C_10, rd_C_11, rd_C_12, rd_C_13, rd_C_14, rd_C_15, rd_C_16, rd_C_17, rd_C_18, rd_C_19, rd_C_20, rd_C_21, rd_C_22, rd_C_23, rd_C_30, rd_C_31, rd_C_32, rd_C_33, rd_C_34, rd_C_35, rd_C_36, rd_C_37, rd_C_38, rd_C_39, rd_C_40, rd_C_41, rd_C_42, rd_C_43, rd_C_44, rd_C_45, rd_C_46, rd_C_47, rd_C_48, rd_C_49, rd_C_50, rd_C_51, rd_C_52, rd_C_53, rd_C_54, rd_C_55, rd_C_56, rd_C_57, rd_C_58, rd_C_59, rd_C_60, rd_C_61, rd_C_62, rd_C_63, rd_C_64, rd_C_65, wr_C9, wr_C10, wr_C11, wr_C12, wr_C25, wr_C26, wr_C27, wr_C28, wr_C29, wp_C25, wp_C26, wp_C27, wp_C28, wp_C29]
    refine zw_icmp_ge 132 ok_Co_walkThrough rfl (by decide) (by omega) (fun h32 => ?_) (fun h32 => ?_)
    · refine zw_mask [true, true, true, true, false, false, false, false] rfl ?_
      exact hx
    · exfalso; omega
  | succ k ih =>
    intro a s h0 hk hs hx
    rw [lp_s] at hx
    have q3 := hst (h * 8 + a) (by omega) (by omega)
    have K : AW m_Co_walkThrough 126 [some (vr 24), some (vi h), some (vi (h * 8)), some (vi un), some (vi a), none, none, none] [] (putC mem (st, hd, df) (outS P (mem 7) (mem 9) st un (h * 8) a s)) Q := by
      refine zw_iinc ok_Co_walkThrough rfl rfl rfl (by decide) ?_
      refine zw_goto 23 ok_Co_walkThrough rfl (by decide) ?_
      exact ih (a + 1) _ (by omega) (by omega) (outS_inv hP h0 (by omega) hs) hx
    refine zw_iload ok_Co_walkThrough rfl rfl ?_
    refine zw_aload_n ok_Co_walkThrough rfl rfl ?_
    refine zw_getr ok_Co_walkThrough rfl fl_Co_27 rfl rfl ?_
    refine zw_geti ok_Co_walkThrough rfl fl_Co_90 rfl rfl ?_
    try simp only [rd_C9, rd_C10, rd_C11, rd_C12, rd_C25, rd_C26, rd_C27, rd_C28, rd_C29, rd_C_0, rd_C_1, rd_C_2, rd_C_3, rd_C_4, rd_C_5, rd_C_6, rd_C_7, rd_C_8, rd_C_9, rd_C_10, rd_C_11, rd_C_12, rd_C_13, rd_C_14, rd_C_15, rd_C_16, rd_C_17, rd_C_18, rd_C_19, rd_C_20, rd_C_21, rd_C_22, rd_C_23, rd_C_30, rd_C_31, rd_C_32, rd_C_33, rd_C_34, rd_C_35, rd_C_36, rd_C_37, rd_C_38, rd_C_39, rd_C_40, rd_C_41, rd_C_42, rd_C_43, rd_C_44, rd_C_45, rd_C_46, rd_C_47, rd_C_48, rd_C_49, rd_C_50, rd_C_51, rd_C_52, rd_C_53, rd_C_54, rd_C_55, rd_C_56, rd_C_57, rd_C_58, rd_C_59, rd_C_60, rd_C_61, rd_C_62, rd_C_63, rd_C_64, rd_C_65, wr_C9, wr_C10, wr_C11, wr_C12, wr_C25, wr_C26, wr_C27, wr_C28, wr_C29, wp_C25, wp_C26, wp_C27, wp_C28, wp_C29]
    refine zw_icmp_ge 132 ok_Co_walkThrough rfl (by decide) (by omega) (fun h32 => ?_) (fun h32 => ?_)
    · exfalso; omega
    · refine zw_aload_n ok_Co_walkThrough rfl rfl ?_
      refine zw_getr ok_Co_walkThrough rfl fl_Co_9 rfl rfl ?_
      refine zw_iload_n ok_Co_walkThrough rfl rfl ?_
      refine zw_iload ok_Co_walkThrough rfl rfl ?_
      refine zw_iadd ok_Co_walkThrough rfl ?_
      refine zw_iald ok_Co_walkThrough rfl rfl (by omega) ?_
      try simp only [rd_C9, rd_C10, rd_C11, rd_C12, rd_C25, rd_C26, rd_C27, rd_C28, rd_C29, rd_C_0, rd_C_1, rd_C_2, rd_C_3, rd_C_4, rd_C_5, rd_C_6, rd_C_7, rd_C_8, rd_C_9, rd_C_10, rd_C_11, rd_C_12, rd_C_13, rd_C_14, rd_C_15, rd_C_16, rd_C_17, rd_C_18, rd_C_19, rd_C_20, rd_C_21, rd_C_22, rd_C_23, rd_C_30, rd_C_31, rd_C_32, rd_C_33, rd_C_34, rd_C_35, rd_C_36, rd_C_37, rd_C_38, rd_C_39, rd_C_40, rd_C_41, rd_C_42, rd_C_43, rd_C_44, rd_C_45, rd_C_46, rd_C_47, rd_C_48, rd_C_49, rd_C_50, rd_C_51, rd_C_52, rd_C_53, rd_C_54, rd_C_55, rd_C_56, rd_C_57, rd_C_58, rd_C_59, rd_C_60, rd_C_61, rd_C_62, rd_C_63, rd_C_64, rd_C_65, wr_C9, wr_C10, wr_C11, wr_C12, wr_C25, wr_C26, wr_C27, wr_C28, wr_C29, wp_C25, wp_C26, wp_C27, wp_C28, wp_C29]
      refine zw_istore ok_Co_walkThrough rfl rfl (by decide) ?_
      refine zw_iload ok_Co_walkThrough rfl rfl ?_
      refine zw_iconst ok_Co_walkThrough rfl ?_
      refine zw_iadd ok_Co_walkThrough rfl ?_
      refine zw_istore ok_Co_walkThrough rfl rfl (by decide) ?_
      by_cases hq : st (h * 8 + a) = -1
      · refine zw_iload ok_Co_walkThrough rfl rfl ?_
        refine zw_iconst ok_Co_walkThrough rfl ?_
        refine zw_icmp_eq 126 ok_Co_walkThrough rfl (by decide) (by omega) (fun h55 => ?_) (fun h55 => absurd hq h55)
        refine zw_mask [true, true, true, true, true, false, false, false] rfl ?_
        rw [outS, if_pos hq] at K
        exact K
      · refine wt_in hP eP hh hst ⟨h0, by omega⟩ hq (P - (a + 1)).toNat (a + 1) s (by omega) (by omega) hs ?_
        rw [outS, if_neg hq] at K
        exact K
theorem ct_Co_walkThrough {P h : Int} {s : zS} (hP : pInv P (mem 7) (mem 9)) (eP : mem 5 4 = P) (hh : 0 ≤ h ∧ h ≤ 11) (hst : ∀ i, 0 ≤ i → i < 96 → -1 ≤ st i ∧ st i ≤ 7) (hs : sInv P s) (hfh : -1 ≤ s.2.2.2.2.1 ∧ s.2.2.2.2.1 ≤ 11) : zCvp m_Co_walkThrough [vr 24, vi h] (putC mem (st, hd, df) s) (putC mem (st, hd, df) (hourS P (mem 7) (mem 9) st (fun h => zor (hd h) (mem 5 5)) h s)) := by
  refine zCt.of [some (vr 24), some (vi h), none, none, none, none, none, none] ok_Co_walkThrough (Nat.le_of_ble_eq_true rfl) rfl ?_
  have hi := hourS_inv (st := st) (un := fun h => zor (hd h) (mem 5 5)) (h := h) hP hs
  have hf : -1 ≤ (lp (outS P (mem 7) (mem 9) st (zor (hd h) (mem 5 5)) (h * 8)) P.toNat 0 s).2.2.2.2.1 ∧ (lp (outS P (mem 7) (mem 9) st (zor (hd h) (mem 5 5)) (h * 8)) P.toNat 0 s).2.2.2.2.1 ≤ 11 := lpOut_fh hfh _ _
  have hs2 : sInv P (lp (outS P (mem 7) (mem 9) st (zor (hd h) (mem 5 5)) (h * 8)) P.toNat 0 s) := lp_inv _ _ _ (fun j s h1 h2 hs => outS_inv hP h1 (by have := hP.1; omega) hs) hs
  have K : AW m_Co_walkThrough 132 [some (vr 24), some (vi h), some (vi (h * 8)), some (vi (zor (hd h) (mem 5 5))), none, none, none, none] [] (putC mem (st, hd, df) (lp (outS P (mem 7) (mem 9) st (zor (hd h) (mem 5 5)) (h * 8)) P.toNat 0 s)) (fun r m2 => r = none ∧ m2 = putC mem (st, hd, df) (hourS P (mem 7) (mem 9) st (fun h => zor (hd h) (mem 5 5)) h s)) := by
    unfold hourS endS
    have hg := hs2.2.2
    generalize lp (outS P (mem 7) (mem 9) st (zor (hd h) (mem 5 5)) (h * 8)) P.toNat 0 s = s2 at hf hg ⊢
    obtain ⟨d, l, g, n, fh, fw⟩ := s2
    dsimp only at hf hg ⊢
    refine zw_aload_n ok_Co_walkThrough rfl rfl ?_
    refine zw_geti ok_Co_walkThrough rfl fl_Co_99 rfl rfl ?_
    try simp only [rd_C9, rd_C10, rd_C11, rd_C12, rd_C25, rd_C26, rd_C27, rd_C28, rd_C29, rd_C_0, rd_C_1, rd_C_2, rd_C_3, rd_C_4, rd_C_5, rd_C_6, rd_C_7, rd_C_8, rd_C_9, rd_C_10, rd_C_11, rd_C_12, rd_C_13, rd_C_14, rd_C_15, rd_C_16, rd_C_17, rd_C_18, rd_C_19, rd_C_20, rd_C_21, rd_C_22, rd_C_23, rd_C_30, rd_C_31, rd_C_32, rd_C_33, rd_C_34, rd_C_35, rd_C_36, rd_C_37, rd_C_38, rd_C_39, rd_C_40, rd_C_41, rd_C_42, rd_C_43, rd_C_44, rd_C_45, rd_C_46, rd_C_47, rd_C_48, rd_C_49, rd_C_50, rd_C_51, rd_C_52, rd_C_53, rd_C_54, rd_C_55, rd_C_56, rd_C_57, rd_C_58, rd_C_59, rd_C_60, rd_C_61, rd_C_62, rd_C_63, rd_C_64, rd_C_65, wr_C9, wr_C10, wr_C11, wr_C12, wr_C25, wr_C26, wr_C27, wr_C28, wr_C29, wp_C25, wp_C26, wp_C27, wp_C28, wp_C29]
    refine zw_if_eq 152 ok_Co_walkThrough rfl (by decide) (by omega) (fun h136 => ?_) (fun h136 => ?_)
    · rw [if_pos h136]
      exact zw_vret ok_Co_walkThrough rfl rfl (⟨rfl, rfl⟩)
    · rw [if_neg h136]
      refine zw_aload_n ok_Co_walkThrough rfl rfl ?_
      refine zw_geti ok_Co_walkThrough rfl fl_Co_105 rfl rfl ?_
      try simp only [rd_C9, rd_C10, rd_C11, rd_C12, rd_C25, rd_C26, rd_C27, rd_C28, rd_C29, rd_C_0, rd_C_1, rd_C_2, rd_C_3, rd_C_4, rd_C_5, rd_C_6, rd_C_7, rd_C_8, rd_C_9, rd_C_10, rd_C_11, rd_C_12, rd_C_13, rd_C_14, rd_C_15, rd_C_16, rd_C_17, rd_C_18, rd_C_19, rd_C_20, rd_C_21, rd_C_22, rd_C_23, rd_C_30, rd_C_31, rd_C_32, rd_C_33, rd_C_34, rd_C_35, rd_C_36, rd_C_37, rd_C_38, rd_C_39, rd_C_40, rd_C_41, rd_C_42, rd_C_43, rd_C_44, rd_C_45, rd_C_46, rd_C_47, rd_C_48, rd_C_49, rd_C_50, rd_C_51, rd_C_52, rd_C_53, rd_C_54, rd_C_55, rd_C_56, rd_C_57, rd_C_58, rd_C_59, rd_C_60, rd_C_61, rd_C_62, rd_C_63, rd_C_64, rd_C_65, wr_C9, wr_C10, wr_C11, wr_C12, wr_C25, wr_C26, wr_C27, wr_C28, wr_C29, wp_C25, wp_C26, wp_C27, wp_C28, wp_C29]
      refine zw_iconst ok_Co_walkThrough rfl ?_
      refine zw_icmp_ne 152 ok_Co_walkThrough rfl (by decide) (by omega) (fun h144 => ?_) (fun h144 => ?_)
      · rw [if_pos h144]
        exact zw_vret ok_Co_walkThrough rfl rfl (⟨rfl, rfl⟩)
      · rw [if_neg (fun q => q h144)]
        refine zw_aload_n ok_Co_walkThrough rfl rfl ?_
        refine zw_iload_n ok_Co_walkThrough rfl rfl ?_
        refine zw_puti ok_Co_walkThrough rfl fp_Co_105 rfl rfl ?_
        try simp only [rd_C9, rd_C10, rd_C11, rd_C12, rd_C25, rd_C26, rd_C27, rd_C28, rd_C29, rd_C_0, rd_C_1, rd_C_2, rd_C_3, rd_C_4, rd_C_5, rd_C_6, rd_C_7, rd_C_8, rd_C_9, rd_C_10, rd_C_11, rd_C_12, rd_C_13, rd_C_14, rd_C_15, rd_C_16, rd_C_17, rd_C_18, rd_C_19, rd_C_20, rd_C_21, rd_C_22, rd_C_23, rd_C_30, rd_C_31, rd_C_32, rd_C_33, rd_C_34, rd_C_35, rd_C_36, rd_C_37, rd_C_38, rd_C_39, rd_C_40, rd_C_41, rd_C_42, rd_C_43, rd_C_44, rd_C_45, rd_C_46, rd_C_47, rd_C_48, rd_C_49, rd_C_50, rd_C_51, rd_C_52, rd_C_53, rd_C_54, rd_C_55, rd_C_56, rd_C_57, rd_C_58, rd_C_59, rd_C_60, rd_C_61, rd_C_62, rd_C_63, rd_C_64, rd_C_65, wr_C9, wr_C10, wr_C11, wr_C12, wr_C25, wr_C26, wr_C27, wr_C28, wr_C29, wp_C25, wp_C26, wp_C27, wp_C28, wp_C29]
        exact zw_vret ok_Co_walkThrough rfl rfl (⟨rfl, rfl⟩)
  have hP1 := hP.1
  refine zw_iload_n ok_Co_walkThrough rfl rfl ?_
  refine zw_bipush ok_Co_walkThrough rfl (by decide) ?_
  refine zw_imul ok_Co_walkThrough rfl ?_
  refine zw_istore_n ok_Co_walkThrough rfl rfl (by decide) ?_
  refine zw_aload_n ok_Co_walkThrough rfl rfl ?_
  refine zw_getr ok_Co_walkThrough rfl fl_Co_15 rfl rfl ?_
  refine zw_iload_n ok_Co_walkThrough rfl rfl ?_
  refine zw_iald ok_Co_walkThrough rfl rfl (by omega) ?_
  try simp only [rd_C9, rd_C10, rd_C11, rd_C12, rd_C25, rd_C26, rd_C27, rd_C28, rd_C29, rd_C_0, rd_C_1, rd_C_2, rd_C_3, rd_C_4, rd_C_5, rd_C_6, rd_C_7, rd_C_8, rd_C_9, rd_C_10, rd_C_11, rd_C_12, rd_C_13, rd_C_14, rd_C_15, rd_C_16, rd_C_17, rd_C_18, rd_C_19, rd_C_20, rd_C_21, rd_C_22, rd_C_23, rd_C_30, rd_C_31, rd_C_32, rd_C_33, rd_C_34, rd_C_35, rd_C_36, rd_C_37, rd_C_38, rd_C_39, rd_C_40, rd_C_41, rd_C_42, rd_C_43, rd_C_44, rd_C_45, rd_C_46, rd_C_47, rd_C_48, rd_C_49, rd_C_50, rd_C_51, rd_C_52, rd_C_53, rd_C_54, rd_C_55, rd_C_56, rd_C_57, rd_C_58, rd_C_59, rd_C_60, rd_C_61, rd_C_62, rd_C_63, rd_C_64, rd_C_65, wr_C9, wr_C10, wr_C11, wr_C12, wr_C25, wr_C26, wr_C27, wr_C28, wr_C29, wp_C25, wp_C26, wp_C27, wp_C28, wp_C29]
  refine zw_aload_n ok_Co_walkThrough rfl rfl ?_
  refine zw_getr ok_Co_walkThrough rfl fl_Co_27 rfl rfl ?_
  refine zw_geti ok_Co_walkThrough rfl fl_Co_114 rfl rfl ?_
  try simp only [rd_C9, rd_C10, rd_C11, rd_C12, rd_C25, rd_C26, rd_C27, rd_C28, rd_C29, rd_C_0, rd_C_1, rd_C_2, rd_C_3, rd_C_4, rd_C_5, rd_C_6, rd_C_7, rd_C_8, rd_C_9, rd_C_10, rd_C_11, rd_C_12, rd_C_13, rd_C_14, rd_C_15, rd_C_16, rd_C_17, rd_C_18, rd_C_19, rd_C_20, rd_C_21, rd_C_22, rd_C_23, rd_C_30, rd_C_31, rd_C_32, rd_C_33, rd_C_34, rd_C_35, rd_C_36, rd_C_37, rd_C_38, rd_C_39, rd_C_40, rd_C_41, rd_C_42, rd_C_43, rd_C_44, rd_C_45, rd_C_46, rd_C_47, rd_C_48, rd_C_49, rd_C_50, rd_C_51, rd_C_52, rd_C_53, rd_C_54, rd_C_55, rd_C_56, rd_C_57, rd_C_58, rd_C_59, rd_C_60, rd_C_61, rd_C_62, rd_C_63, rd_C_64, rd_C_65, wr_C9, wr_C10, wr_C11, wr_C12, wr_C25, wr_C26, wr_C27, wr_C28, wr_C29, wp_C25, wp_C26, wp_C27, wp_C28, wp_C29]
  refine zw_ior ok_Co_walkThrough rfl ?_
  refine zw_istore_n ok_Co_walkThrough rfl rfl (by decide) ?_
  refine zw_iconst ok_Co_walkThrough rfl ?_
  refine zw_istore ok_Co_walkThrough rfl rfl (by decide) ?_
  exact wt_out hP eP hh hst P.toNat 0 s (by omega) (by omega) hs K
theorem hourS_fh {P : Int} {can step st : Int → Int} {un : Int → Int} {h : Int} {s : zS} (hh : -1 ≤ h ∧ h ≤ 11) (hf : -1 ≤ s.2.2.2.2.1 ∧ s.2.2.2.2.1 ≤ 11) : -1 ≤ (hourS P can step st un h s).2.2.2.2.1 ∧ (hourS P can step st un h s).2.2.2.2.1 ≤ 11 := by
  have h2 := lpOut_fh (P := P) (can := can) (step := step) (st := st) (un := un h) (row := h * 8) hf P.toNat 0
  unfold hourS endS
  split
  · exact h2
  · split
    · exact h2
    · exact hh
theorem walkTo_loop {P lh : Int} (hP : pInv P (mem 7) (mem 9)) (eP : mem 5 4 = P) (hlh : 0 ≤ lh ∧ lh ≤ 11) (hst : ∀ i, 0 ≤ i → i < 96 → -1 ≤ st i ∧ st i ≤ 7) :
    ∀ (k : Nat) (h : Int) (s : zS), 0 ≤ h → h + k = lh + 1 → sInv P s → (-1 ≤ s.2.2.2.2.1 ∧ s.2.2.2.2.1 ≤ 11) → Q none (putC mem (st, hd, df) (lp (hourS P (mem 7) (mem 9) st (fun h => zor (hd h) (mem 5 5))) k h s)) →
      AW m_Co_walkTo 2 [some (vr 24), some (vi lh), some (vi h)] [] (putC mem (st, hd, df) s) Q := by
  intro k
  induction k with
  | zero =>
    intro h s h0 hk hs hf hx
    refine zw_iload_n ok_Co_walkTo rfl rfl ?_
    refine zw_iload_n ok_Co_walkTo rfl rfl ?_
    refine zw_icmp_gt 24 ok_Co_walkTo rfl (by decide) (by omega) (fun h4 => ?_) (fun h4 => ?_)
    · exact zw_vret ok_Co_walkTo rfl rfl (hx)
    · exfalso; omega
  | succ k ih =>
    intro h s h0 hk hs hf hx
    refine zw_iload_n ok_Co_walkTo rfl rfl ?_
    refine zw_iload_n ok_Co_walkTo rfl rfl ?_
    refine zw_icmp_gt 24 ok_Co_walkTo rfl (by decide) (by omega) (fun h4 => ?_) (fun h4 => ?_)
    · exfalso; omega
    · refine zw_iload_n ok_Co_walkTo rfl rfl ?_
      refine zw_bipush ok_Co_walkTo rfl (by decide) ?_
      refine zw_icmp_ge 24 ok_Co_walkTo rfl (by decide) (by omega) (fun h10 => ?_) (fun h10 => ?_)
      · exfalso; omega
      · refine zw_aload_n ok_Co_walkTo rfl rfl ?_
        refine zw_iload_n ok_Co_walkTo rfl rfl ?_
        refine zw_Vvp ok_Co_walkTo rfl ok_Co_walkThrough lk_Co_111 (by decide) rfl rfl (Nat.le_of_ble_eq_true rfl) (ct_Co_walkThrough hP eP (by omega) hst hs hf) ?_
        refine zw_iinc ok_Co_walkTo rfl rfl rfl (by decide) ?_
        refine zw_goto 2 ok_Co_walkTo rfl (by decide) ?_
        exact ih (h + 1) _ (by omega) (by omega) (hourS_inv hP hs) (hourS_fh (by omega) hf) hx
theorem ct_Co_walkTo {P lh : Int} {s : zS} (hP : pInv P (mem 7) (mem 9)) (eP : mem 5 4 = P) (hlh : 0 ≤ lh ∧ lh ≤ 11) (hst : ∀ i, 0 ≤ i → i < 96 → -1 ≤ st i ∧ st i ≤ 7) (hs : sInv P s) (hf : -1 ≤ s.2.2.2.2.1 ∧ s.2.2.2.2.1 ≤ 11) : zCvp m_Co_walkTo [vr 24, vi lh] (putC mem (st, hd, df) s) (putC mem (st, hd, df) (walkS P (mem 7) (mem 9) st (fun h => zor (hd h) (mem 5 5)) (lh + 1).toNat s)) := by
  refine zCt.of [some (vr 24), some (vi lh), none] ok_Co_walkTo (Nat.le_of_ble_eq_true rfl) rfl ?_
  refine zw_iconst ok_Co_walkTo rfl ?_
  refine zw_istore_n ok_Co_walkTo rfl rfl (by decide) ?_
  exact walkTo_loop hP eP hlh hst (lh + 1).toNat 0 s (by omega) (by omega) hs hf ⟨rfl, rfl⟩
/-- the start of the hours -/
def begS (df d l : Int → Int) : zS := (zcpy df d 0 0 64, zfil 8 0 l, 0, 0, -1, -1)
theorem ct_Co_begin {s : zS} : zCvp m_Co_begin [vr 24] (putC mem (st, hd, df) s) (putC mem (st, hd, df) (begS df s.1 s.2.1)) := by
  obtain ⟨d, l, g, n, fh, fw⟩ := s
  refine zCt.of [some (vr 24)] ok_Co_begin (Nat.le_of_ble_eq_true rfl) rfl ?_
  refine zw_aload_n ok_Co_begin rfl rfl ?_
  refine zw_getr ok_Co_begin rfl fl_Co_18 rfl rfl ?_
  refine zw_iconst ok_Co_begin rfl ?_
  refine zw_aload_n ok_Co_begin rfl rfl ?_
  refine zw_getr ok_Co_begin rfl fl_Co_21 rfl rfl ?_
  refine zw_iconst ok_Co_begin rfl ?_
  refine zw_aload_n ok_Co_begin rfl rfl ?_
  refine zw_getr ok_Co_begin rfl fl_Co_21 rfl rfl ?_
  refine zw_alen ok_Co_begin rfl rfl (by decide) ?_
  refine zw_copy ok_Co_begin rfl la_Co_56 rfl rfl (by decide) ⟨by decide, Nat.le_of_ble_eq_true rfl⟩ ?_
  try simp only [rd_C9, rd_C10, rd_C11, rd_C12, rd_C25, rd_C26, rd_C27, rd_C28, rd_C29, rd_C_0, rd_C_1, rd_C_2, rd_C_3, rd_C_4, rd_C_5, rd_C_6, rd_C_7, rd_C_8, rd_C_9, rd_C_10, rd_C_11, rd_C_12, rd_C_13, rd_C_14, rd_C_15, rd_C_16, rd_C_17, rd_C_18, rd_C_19, rd_C_20, rd_C_21, rd_C_22, rd_C_23, rd_C_30, rd_C_31, rd_C_32, rd_C_33, rd_C_34, rd_C_35, rd_C_36, rd_C_37, rd_C_38, rd_C_39, rd_C_40, rd_C_41, rd_C_42, rd_C_43, rd_C_44, rd_C_45, rd_C_46, rd_C_47, rd_C_48, rd_C_49, rd_C_50, rd_C_51, rd_C_52, rd_C_53, rd_C_54, rd_C_55, rd_C_56, rd_C_57, rd_C_58, rd_C_59, rd_C_60, rd_C_61, rd_C_62, rd_C_63, rd_C_64, rd_C_65, wr_C9, wr_C10, wr_C11, wr_C12, wr_C25, wr_C26, wr_C27, wr_C28, wr_C29, wp_C25, wp_C26, wp_C27, wp_C28, wp_C29]
  refine zw_aload_n ok_Co_begin rfl rfl ?_
  refine zw_getr ok_Co_begin rfl fl_Co_24 rfl rfl ?_
  refine zw_iconst ok_Co_begin rfl ?_
  refine zw_Svp ok_Co_begin rfl ok_Jarr_fill_53178 lk_Co_62 (by decide) rfl (Nat.le_of_ble_eq_true rfl) (ct_Jarr_fill_53178 rfl) ?_
  simp only [rd_C9, rd_C10, rd_C11, rd_C12, rd_C25, rd_C26, rd_C27, rd_C28, rd_C29, rd_C_0, rd_C_1, rd_C_2, rd_C_3, rd_C_4, rd_C_5, rd_C_6, rd_C_7, rd_C_8, rd_C_9, rd_C_10, rd_C_11, rd_C_12, rd_C_13, rd_C_14, rd_C_15, rd_C_16, rd_C_17, rd_C_18, rd_C_19, rd_C_20, rd_C_21, rd_C_22, rd_C_23, rd_C_30, rd_C_31, rd_C_32, rd_C_33, rd_C_34, rd_C_35, rd_C_36, rd_C_37, rd_C_38, rd_C_39, rd_C_40, rd_C_41, rd_C_42, rd_C_43, rd_C_44, rd_C_45, rd_C_46, rd_C_47, rd_C_48, rd_C_49, rd_C_50, rd_C_51, rd_C_52, rd_C_53, rd_C_54, rd_C_55, rd_C_56, rd_C_57, rd_C_58, rd_C_59, rd_C_60, rd_C_61, rd_C_62, rd_C_63, rd_C_64, rd_C_65, wr_C9, wr_C10, wr_C11, wr_C12, wr_C25, wr_C26, wr_C27, wr_C28, wr_C29, wp_C25, wp_C26, wp_C27, wp_C28, wp_C29]
  refine zw_aload_n ok_Co_begin rfl rfl ?_
  refine zw_iconst ok_Co_begin rfl ?_
  refine zw_puti ok_Co_begin rfl fp_Co_99 rfl rfl ?_
  try simp only [rd_C9, rd_C10, rd_C11, rd_C12, rd_C25, rd_C26, rd_C27, rd_C28, rd_C29, rd_C_0, rd_C_1, rd_C_2, rd_C_3, rd_C_4, rd_C_5, rd_C_6, rd_C_7, rd_C_8, rd_C_9, rd_C_10, rd_C_11, rd_C_12, rd_C_13, rd_C_14, rd_C_15, rd_C_16, rd_C_17, rd_C_18, rd_C_19, rd_C_20, rd_C_21, rd_C_22, rd_C_23, rd_C_30, rd_C_31, rd_C_32, rd_C_33, rd_C_34, rd_C_35, rd_C_36, rd_C_37, rd_C_38, rd_C_39, rd_C_40, rd_C_41, rd_C_42, rd_C_43, rd_C_44, rd_C_45, rd_C_46, rd_C_47, rd_C_48, rd_C_49, rd_C_50, rd_C_51, rd_C_52, rd_C_53, rd_C_54, rd_C_55, rd_C_56, rd_C_57, rd_C_58, rd_C_59, rd_C_60, rd_C_61, rd_C_62, rd_C_63, rd_C_64, rd_C_65, wr_C9, wr_C10, wr_C11, wr_C12, wr_C25, wr_C26, wr_C27, wr_C28, wr_C29, wp_C25, wp_C26, wp_C27, wp_C28, wp_C29]
  refine zw_aload_n ok_Co_begin rfl rfl ?_
  refine zw_iconst ok_Co_begin rfl ?_
  refine zw_puti ok_Co_begin rfl fp_Co_102 rfl rfl ?_
  try simp only [rd_C9, rd_C10, rd_C11, rd_C12, rd_C25, rd_C26, rd_C27, rd_C28, rd_C29, rd_C_0, rd_C_1, rd_C_2, rd_C_3, rd_C_4, rd_C_5, rd_C_6, rd_C_7, rd_C_8, rd_C_9, rd_C_10, rd_C_11, rd_C_12, rd_C_13, rd_C_14, rd_C_15, rd_C_16, rd_C_17, rd_C_18, rd_C_19, rd_C_20, rd_C_21, rd_C_22, rd_C_23, rd_C_30, rd_C_31, rd_C_32, rd_C_33, rd_C_34, rd_C_35, rd_C_36, rd_C_37, rd_C_38, rd_C_39, rd_C_40, rd_C_41, rd_C_42, rd_C_43, rd_C_44, rd_C_45, rd_C_46, rd_C_47, rd_C_48, rd_C_49, rd_C_50, rd_C_51, rd_C_52, rd_C_53, rd_C_54, rd_C_55, rd_C_56, rd_C_57, rd_C_58, rd_C_59, rd_C_60, rd_C_61, rd_C_62, rd_C_63, rd_C_64, rd_C_65, wr_C9, wr_C10, wr_C11, wr_C12, wr_C25, wr_C26, wr_C27, wr_C28, wr_C29, wp_C25, wp_C26, wp_C27, wp_C28, wp_C29]
  refine zw_aload_n ok_Co_begin rfl rfl ?_
  refine zw_iconst ok_Co_begin rfl ?_
  refine zw_puti ok_Co_begin rfl fp_Co_105 rfl rfl ?_
  try simp only [rd_C9, rd_C10, rd_C11, rd_C12, rd_C25, rd_C26, rd_C27, rd_C28, rd_C29, rd_C_0, rd_C_1, rd_C_2, rd_C_3, rd_C_4, rd_C_5, rd_C_6, rd_C_7, rd_C_8, rd_C_9, rd_C_10, rd_C_11, rd_C_12, rd_C_13, rd_C_14, rd_C_15, rd_C_16, rd_C_17, rd_C_18, rd_C_19, rd_C_20, rd_C_21, rd_C_22, rd_C_23, rd_C_30, rd_C_31, rd_C_32, rd_C_33, rd_C_34, rd_C_35, rd_C_36, rd_C_37, rd_C_38, rd_C_39, rd_C_40, rd_C_41, rd_C_42, rd_C_43, rd_C_44, rd_C_45, rd_C_46, rd_C_47, rd_C_48, rd_C_49, rd_C_50, rd_C_51, rd_C_52, rd_C_53, rd_C_54, rd_C_55, rd_C_56, rd_C_57, rd_C_58, rd_C_59, rd_C_60, rd_C_61, rd_C_62, rd_C_63, rd_C_64, rd_C_65, wr_C9, wr_C10, wr_C11, wr_C12, wr_C25, wr_C26, wr_C27, wr_C28, wr_C29, wp_C25, wp_C26, wp_C27, wp_C28, wp_C29]
  refine zw_aload_n ok_Co_begin rfl rfl ?_
  refine zw_iconst ok_Co_begin rfl ?_
  refine zw_puti ok_Co_begin rfl fp_Co_108 rfl rfl ?_
  try simp only [rd_C9, rd_C10, rd_C11, rd_C12, rd_C25, rd_C26, rd_C27, rd_C28, rd_C29, rd_C_0, rd_C_1, rd_C_2, rd_C_3, rd_C_4, rd_C_5, rd_C_6, rd_C_7, rd_C_8, rd_C_9, rd_C_10, rd_C_11, rd_C_12, rd_C_13, rd_C_14, rd_C_15, rd_C_16, rd_C_17, rd_C_18, rd_C_19, rd_C_20, rd_C_21, rd_C_22, rd_C_23, rd_C_30, rd_C_31, rd_C_32, rd_C_33, rd_C_34, rd_C_35, rd_C_36, rd_C_37, rd_C_38, rd_C_39, rd_C_40, rd_C_41, rd_C_42, rd_C_43, rd_C_44, rd_C_45, rd_C_46, rd_C_47, rd_C_48, rd_C_49, rd_C_50, rd_C_51, rd_C_52, rd_C_53, rd_C_54, rd_C_55, rd_C_56, rd_C_57, rd_C_58, rd_C_59, rd_C_60, rd_C_61, rd_C_62, rd_C_63, rd_C_64, rd_C_65, wr_C9, wr_C10, wr_C11, wr_C12, wr_C25, wr_C26, wr_C27, wr_C28, wr_C29, wp_C25, wp_C26, wp_C27, wp_C28, wp_C29]
  exact zw_vret ok_Co_begin rfl rfl (⟨rfl, rfl⟩)
theorem begS_inv {P : Int} {d l : Int → Int} (hP : P ≤ 8) (h : ∀ a b, 0 ≤ a → a < b → b < P → (1 ≤ df (a * 8 + b) ∧ df (a * 8 + b) ≤ 109) ∨ (-109 ≤ df (a * 8 + b) ∧ df (a * 8 + b) ≤ -1)) : sInv P (begS df d l) := by
  refine ⟨fun a b h1 h2 h3 => ?_, fun p h1 h2 => ?_, Int.le_refl 0, (show (0 : Int) < 256 by decide)⟩
  · show (1 ≤ zcpy df d 0 0 64 (a * 8 + b) ∧ zcpy df d 0 0 64 (a * 8 + b) ≤ 109) ∨ (-109 ≤ zcpy df d 0 0 64 (a * 8 + b) ∧ zcpy df d 0 0 64 (a * 8 + b) ≤ -1)
    have e : zcpy df d 0 0 64 (a * 8 + b) = df (a * 8 + b) := by
      unfold zcpy
      rw [if_pos (by omega)]
      congr 1
      omega
    rw [e]
    exact h a b h1 h2 h3
  · show 0 ≤ zfil 8 0 l p ∧ zfil 8 0 l p ≤ 99
    unfold zfil
    rw [if_pos (by omega)]
    omega
end
end
section
/-! ===== Coast: walkTillOneIsGone, layOut, walkAsTold, meetByLot ===== -/
def tillS (P : Int) (can step st : Int → Int) (un : Int → Int) : Nat → Int → zS → zS
  | 0, _, s => s
  | k + 1, h, s => if s.2.2.1 ≠ 0 then s else tillS P can step st un k (h + 1) (hourS P can step st un h s)
def eaS (step : Int → Int) (who to low : Int) (df : Int → Int) : Int → Int := if who < to then zupd df (who * 8 + to) (-(low + step to)) else zupd df (to * 8 + who) (low + step to)
def fbS (kind : Int → Int) (a b : Int) (df : Int → Int) : Int → Int := zupd df (a * 8 + b) (if kind a = 1 ∧ kind b ≠ 1 then -1 else 1)
def fbO (P : Int) (kind : Int → Int) (a : Int) (df : Int → Int) : Int → Int := lp (fbS kind a) (P - (a + 1)).toNat (a + 1) df
def efbS (P : Int) (kind : Int → Int) (df : Int → Int) : Int → Int := lp (fbO P kind) P.toNat 0 df
def hdS (less : Int) (uh uw : Int → Int) (u : Int) (hd : Int → Int) : Int → Int := if tb less u.toNat = true then hd else zupd hd (uh u) (zor (hd (uh u)) (zshl 1 (uw u)))
def odS (step : Int → Int) (oless : Int) (ow ot ol : Int → Int) (k : Int) (df : Int → Int) : Int → Int := if k = oless then df else eaS step (ow k) (ot k) (ol k) df
/-- the layout out of what was told -/
def layS (mem : zMem) (oless less : Int) (L : zL) : zL :=
  (zcpy (mem 11) L.1 0 0 96, lp (hdS less (mem 17) (mem 18)) (mem 16 3).toNat 0 (zfil 12 0 L.2.1), lp (odS (mem 9) oless (mem 13) (mem 14) (mem 15)) (mem 12 3).toNat 0 (efbS (mem 5 4) (mem 6) L.2.2))
section
variable {mem : zMem} {st hd df : Int → Int} {Q : Option zVal → zMem → Prop}
theorem till_loop {P : Int} (hP : pInv P (mem 7) (mem 9)) (eP : mem 5 4 = P) (hst : ∀ i, 0 ≤ i → i < 96 → -1 ≤ st i ∧ st i ≤ 7) :
    ∀ (k : Nat) (h : Int) (s : zS), 0 ≤ h → h + k = 12 → sInv P s → (-1 ≤ s.2.2.2.2.1 ∧ s.2.2.2.2.1 ≤ 11) → Q (some (vi (tillS P (mem 7) (mem 9) st (fun h => zor (hd h) (mem 5 5)) k h s).2.2.2.2.1)) (putC mem (st, hd, df) (tillS P (mem 7) (mem 9) st (fun h => zor (hd h) (mem 5 5)) k h s)) →
      AW m_Co_walkTillOneIsGone 6 [some (vr 24), some (vi h)] [] (putC mem (st, hd, df) s) Q := by
  intro k
  induction k with
  | zero =>
    intro h s h0 hk hs hf hx
    obtain ⟨d, l, g, n, fh, fw⟩ := s
    refine zw_iload_n ok_Co_walkTillOneIsGone rfl rfl ?_
    refine zw_bipush ok_Co_walkTillOneIsGone rfl (by decide) ?_
    refine zw_icmp_ge 30 ok_Co_walkTillOneIsGone rfl (by decide) (by omega) (fun h9 => ?_) (fun h9 => ?_)
    · refine zw_aload_n ok_Co_walkTillOneIsGone rfl rfl ?_
      refine zw_geti ok_Co_walkTillOneIsGone rfl fl_Co_105 rfl rfl ?_
      try simp only [rd_C9, rd_C10, rd_C11, rd_C12, rd_C25, rd_C26, rd_C27, rd_C28, rd_C29, rd_C_0, rd_C_1, rd_C_2, rd_C_3, rd_C_4, rd_C_5, rd_C_6, rd_C_7, rd_C_8, rd_C_9, rd_C_10, rd_C_11, rd_C_12, rd_C_13, rd_C_14, rd_C_15, rd_C_16, rd_C_17, rd_C_18, rd_C_19, rd_C_20, rd_C_21, rd_C_22, rd_C_23, rd_C_30, rd_C_31, rd_C_32, rd_C_33, rd_C_34, rd_C_35, rd_C_36, rd_C_37, rd_C_38, rd_C_39, rd_C_40, rd_C_41, rd_C_42, rd_C_43, rd_C_44, rd_C_45, rd_C_46, rd_C_47, rd_C_48, rd_C_49, rd_C_50, rd_C_51, rd_C_52, rd_C_53, rd_C_54, rd_C_55, rd_C_56, rd_C_57, rd_C_58, rd_C_59, rd_C_60, rd_C_61, rd_C_62, rd_C_63, rd_C_64, rd_C_65, wr_C9, wr_C10, wr_C11, wr_C12, wr_C25, wr_C26, wr_C27, wr_C28, wr_C29, wp_C25, wp_C26, wp_C27, wp_C28, wp_C29]
      exact zw_iret ok_Co_walkTillOneIsGone rfl rfl (hx)
    · exfalso; omega
  | succ k ih =>
    intro h s h0 hk hs hf hx
    obtain ⟨d, l, g, n, fh, fw⟩ := s
    have hg := hs.2.2
    dsimp only at hg
    unfold tillS at hx
    refine zw_iload_n ok_Co_walkTillOneIsGone rfl rfl ?_
    refine zw_bipush ok_Co_walkTillOneIsGone rfl (by decide) ?_
    refine zw_icmp_ge 30 ok_Co_walkTillOneIsGone rfl (by decide) (by omega) (fun h9 => ?_) (fun h9 => ?_)
    · exfalso; omega
    · refine zw_aload_n ok_Co_walkTillOneIsGone rfl rfl ?_
      refine zw_geti ok_Co_walkTillOneIsGone rfl fl_Co_99 rfl rfl ?_
      try simp only [rd_C9, rd_C10, rd_C11, rd_C12, rd_C25, rd_C26, rd_C27, rd_C28, rd_C29, rd_C_0, rd_C_1, rd_C_2, rd_C_3, rd_C_4, rd_C_5, rd_C_6, rd_C_7, rd_C_8, rd_C_9, rd_C_10, rd_C_11, rd_C_12, rd_C_13, rd_C_14, rd_C_15, rd_C_16, rd_C_17, rd_C_18, rd_C_19, rd_C_20, rd_C_21, rd_C_22, rd_C_23, rd_C_30, rd_C_31, rd_C_32, rd_C_33, rd_C_34, rd_C_35, rd_C_36, rd_C_37, rd_C_38, rd_C_39, rd_C_40, rd_C_41, rd_C_42, rd_C_43, rd_C_44, rd_C_45, rd_C_46, rd_C_47, rd_C_48, rd_C_49, rd_C_50, rd_C_51, rd_C_52, rd_C_53, rd_C_54, rd_C_55, rd_C_56, rd_C_57, rd_C_58, rd_C_59, rd_C_60, rd_C_61, rd_C_62, rd_C_63, rd_C_64, rd_C_65, wr_C9, wr_C10, wr_C11, wr_C12, wr_C25, wr_C26, wr_C27, wr_C28, wr_C29, wp_C25, wp_C26, wp_C27, wp_C28, wp_C29]
      refine zw_if_ne 30 ok_Co_walkTillOneIsGone rfl (by decide) (by omega) (fun h16 => ?_) (fun h16 => ?_)
      · rw [if_pos h16] at hx
        refine zw_aload_n ok_Co_walkTillOneIsGone rfl rfl ?_
        refine zw_geti ok_Co_walkTillOneIsGone rfl fl_Co_105 rfl rfl ?_
        try simp only [rd_C9, rd_C10, rd_C11, rd_C12, rd_C25, rd_C26, rd_C27, rd_C28, rd_C29, rd_C_0, rd_C_1, rd_C_2, rd_C_3, rd_C_4, rd_C_5, rd_C_6, rd_C_7, rd_C_8, rd_C_9, rd_C_10, rd_C_11, rd_C_12, rd_C_13, rd_C_14, rd_C_15, rd_C_16, rd_C_17, rd_C_18, rd_C_19, rd_C_20, rd_C_21, rd_C_22, rd_C_23, rd_C_30, rd_C_31, rd_C_32, rd_C_33, rd_C_34, rd_C_35, rd_C_36, rd_C_37, rd_C_38, rd_C_39, rd_C_40, rd_C_41, rd_C_42, rd_C_43, rd_C_44, rd_C_45, rd_C_46, rd_C_47, rd_C_48, rd_C_49, rd_C_50, rd_C_51, rd_C_52, rd_C_53, rd_C_54, rd_C_55, rd_C_56, rd_C_57, rd_C_58, rd_C_59, rd_C_60, rd_C_61, rd_C_62, rd_C_63, rd_C_64, rd_C_65, wr_C9, wr_C10, wr_C11, wr_C12, wr_C25, wr_C26, wr_C27, wr_C28, wr_C29, wp_C25, wp_C26, wp_C27, wp_C28, wp_C29]
        exact zw_iret ok_Co_walkTillOneIsGone rfl rfl (hx)
      · rw [if_neg (fun q => q h16)] at hx
        refine zw_aload_n ok_Co_walkTillOneIsGone rfl rfl ?_
        refine zw_iload_n ok_Co_walkTillOneIsGone rfl rfl ?_
        refine zw_Vvp ok_Co_walkTillOneIsGone rfl ok_Co_walkThrough lk_Co_111 (by decide) rfl rfl (Nat.le_of_ble_eq_true rfl) (ct_Co_walkThrough hP eP (by omega) hst hs hf) ?_
        refine zw_iinc ok_Co_walkTillOneIsGone rfl rfl rfl (by decide) ?_
        refine zw_goto 6 ok_Co_walkTillOneIsGone rfl (by decide) ?_
        exact ih (h + 1) _ (by omega) (by omega) (hourS_inv hP hs) (hourS_fh (by omega) hf) hx
theorem ct_Co_walkTillOneIsGone {P : Int} {s : zS} (hP : pInv P (mem 7) (mem 9)) (eP : mem 5 4 = P) (hst : ∀ i, 0 ≤ i → i < 96 → -1 ≤ st i ∧ st i ≤ 7) (hs : sInv P (begS df s.1 s.2.1)) : zCi m_Co_walkTillOneIsGone [vr 24] (putC mem (st, hd, df) s) (tillS P (mem 7) (mem 9) st (fun h => zor (hd h) (mem 5 5)) 12 0 (begS df s.1 s.2.1)).2.2.2.2.1 (fun m2 => m2 = putC mem (st, hd, df) (tillS P (mem 7) (mem 9) st (fun h => zor (hd h) (mem 5 5)) 12 0 (begS df s.1 s.2.1))) := by
  refine zCt.of [some (vr 24), none] ok_Co_walkTillOneIsGone (Nat.le_of_ble_eq_true rfl) rfl ?_
  refine zw_aload_n ok_Co_walkTillOneIsGone rfl rfl ?_
  refine zw_Vvp ok_Co_walkTillOneIsGone rfl ok_Co_begin lk_Co_46 (by decide) rfl rfl (Nat.le_of_ble_eq_true rfl) (ct_Co_begin) ?_
  refine zw_iconst ok_Co_walkTillOneIsGone rfl ?_
  refine zw_istore_n ok_Co_walkTillOneIsGone rfl rfl (by decide) ?_
  exact till_loop hP eP hst 12 0 _ (by omega) (by omega) hs ⟨Int.le_refl _, (show (-1 : Int) ≤ 11 by decide)⟩ ⟨rfl, rfl⟩
theorem ct_Co_expectAnswerTo {s : zS} {a b c : Int} (ha : 0 ≤ a ∧ a ≤ 7) (hb : 0 ≤ b ∧ b ≤ 7) : zCvp m_Co_expectAnswerTo [vr 24, vi a, vi b, vi c] (putC mem (st, hd, df) s) (putC mem (st, hd, eaS (mem 9) a b c df) s) := by
  refine zCt.of [some (vr 24), some (vi a), some (vi b), some (vi c), none] ok_Co_expectAnswerTo (Nat.le_of_ble_eq_true rfl) rfl ?_
  unfold eaS
  refine zw_iload_n ok_Co_expectAnswerTo rfl rfl ?_
  refine zw_aload_n ok_Co_expectAnswerTo rfl rfl ?_
  refine zw_getr ok_Co_expectAnswerTo rfl fl_Co_27 rfl rfl ?_
  refine zw_getr ok_Co_expectAnswerTo rfl fl_Co_96 rfl rfl ?_
  refine zw_iload_n ok_Co_expectAnswerTo rfl rfl ?_
  refine zw_iald ok_Co_expectAnswerTo rfl rfl (by omega) ?_
  try simp only [rd_C9, rd_C10, rd_C11, rd_C12, rd_C25, rd_C26, rd_C27, rd_C28, rd_C29, rd_C_0, rd_C_1, rd_C_2, rd_C_3, rd_C_4, rd_C_5, rd_C_6, rd_C_7, rd_C_8, rd_C_9, rd_C_10, rd_C_11, rd_C_12, rd_C_13, rd_C_14, rd_C_15, rd_C_16, rd_C_17, rd_C_18, rd_C_19, rd_C_20, rd_C_21, rd_C_22, rd_C_23, rd_C_30, rd_C_31, rd_C_32, rd_C_33, rd_C_34, rd_C_35, rd_C_36, rd_C_37, rd_C_38, rd_C_39, rd_C_40, rd_C_41, rd_C_42, rd_C_43, rd_C_44, rd_C_45, rd_C_46, rd_C_47, rd_C_48, rd_C_49, rd_C_50, rd_C_51, rd_C_52, rd_C_53, rd_C_54, rd_C_55, rd_C_56, rd_C_57, rd_C_58, rd_C_59, rd_C_60, rd_C_61, rd_C_62, rd_C_63, rd_C_64, rd_C_65, wr_C9, wr_C10, wr_C11, wr_C12, wr_C25, wr_C26, wr_C27, wr_C28, wr_C29, wp_C25, wp_C26, wp_C27, wp_C28, wp_C29]
  refine zw_iadd ok_Co_expectAnswerTo rfl ?_
  refine zw_istore ok_Co_expectAnswerTo rfl rfl (by decide) ?_
  refine zw_iload_n ok_Co_expectAnswerTo rfl rfl ?_
  refine zw_iload_n ok_Co_expectAnswerTo rfl rfl ?_
  refine zw_icmp_ge 35 ok_Co_expectAnswerTo rfl (by decide) (by omega) (fun h15 => ?_) (fun h15 => ?_)
  · refine zw_aload_n ok_Co_expectAnswerTo rfl rfl ?_
    refine zw_getr ok_Co_expectAnswerTo rfl fl_Co_18 rfl rfl ?_
    refine zw_iload_n ok_Co_expectAnswerTo rfl rfl ?_
    refine zw_bipush ok_Co_expectAnswerTo rfl (by decide) ?_
    refine zw_imul ok_Co_expectAnswerTo rfl ?_
    refine zw_iload_n ok_Co_expectAnswerTo rfl rfl ?_
    refine zw_iadd ok_Co_expectAnswerTo rfl ?_
    refine zw_iload ok_Co_expectAnswerTo rfl rfl ?_
    refine zw_iast ok_Co_expectAnswerTo rfl rfl (by omega) ?_
    try simp only [rd_C9, rd_C10, rd_C11, rd_C12, rd_C25, rd_C26, rd_C27, rd_C28, rd_C29, rd_C_0, rd_C_1, rd_C_2, rd_C_3, rd_C_4, rd_C_5, rd_C_6, rd_C_7, rd_C_8, rd_C_9, rd_C_10, rd_C_11, rd_C_12, rd_C_13, rd_C_14, rd_C_15, rd_C_16, rd_C_17, rd_C_18, rd_C_19, rd_C_20, rd_C_21, rd_C_22, rd_C_23, rd_C_30, rd_C_31, rd_C_32, rd_C_33, rd_C_34, rd_C_35, rd_C_36, rd_C_37, rd_C_38, rd_C_39, rd_C_40, rd_C_41, rd_C_42, rd_C_43, rd_C_44, rd_C_45, rd_C_46, rd_C_47, rd_C_48, rd_C_49, rd_C_50, rd_C_51, rd_C_52, rd_C_53, rd_C_54, rd_C_55, rd_C_56, rd_C_57, rd_C_58, rd_C_59, rd_C_60, rd_C_61, rd_C_62, rd_C_63, rd_C_64, rd_C_65, wr_C9, wr_C10, wr_C11, wr_C12, wr_C25, wr_C26, wr_C27, wr_C28, wr_C29, wp_C25, wp_C26, wp_C27, wp_C28, wp_C29]
    exact zw_vret ok_Co_expectAnswerTo rfl rfl (⟨rfl, by first | rw [if_pos (by omega)] | rw [if_neg (by omega)]⟩)
  · refine zw_aload_n ok_Co_expectAnswerTo rfl rfl ?_
    refine zw_getr ok_Co_expectAnswerTo rfl fl_Co_18 rfl rfl ?_
    refine zw_iload_n ok_Co_expectAnswerTo rfl rfl ?_
    refine zw_bipush ok_Co_expectAnswerTo rfl (by decide) ?_
    refine zw_imul ok_Co_expectAnswerTo rfl ?_
    refine zw_iload_n ok_Co_expectAnswerTo rfl rfl ?_
    refine zw_iadd ok_Co_expectAnswerTo rfl ?_
    refine zw_iload ok_Co_expectAnswerTo rfl rfl ?_
    refine zw_ineg ok_Co_expectAnswerTo rfl ?_
    refine zw_iast ok_Co_expectAnswerTo rfl rfl (by omega) ?_
    try simp only [rd_C9, rd_C10, rd_C11, rd_C12, rd_C25, rd_C26, rd_C27, rd_C28, rd_C29, rd_C_0, rd_C_1, rd_C_2, rd_C_3, rd_C_4, rd_C_5, rd_C_6, rd_C_7, rd_C_8, rd_C_9, rd_C_10, rd_C_11, rd_C_12, rd_C_13, rd_C_14, rd_C_15, rd_C_16, rd_C_17, rd_C_18, rd_C_19, rd_C_20, rd_C_21, rd_C_22, rd_C_23, rd_C_30, rd_C_31, rd_C_32, rd_C_33, rd_C_34, rd_C_35, rd_C_36, rd_C_37, rd_C_38, rd_C_39, rd_C_40, rd_C_41, rd_C_42, rd_C_43, rd_C_44, rd_C_45, rd_C_46, rd_C_47, rd_C_48, rd_C_49, rd_C_50, rd_C_51, rd_C_52, rd_C_53, rd_C_54, rd_C_55, rd_C_56, rd_C_57, rd_C_58, rd_C_59, rd_C_60, rd_C_61, rd_C_62, rd_C_63, rd_C_64, rd_C_65, wr_C9, wr_C10, wr_C11, wr_C12, wr_C25, wr_C26, wr_C27, wr_C28, wr_C29, wp_C25, wp_C26, wp_C27, wp_C28, wp_C29]
    refine zw_goto 48 ok_Co_expectAnswerTo rfl (by decide) ?_
    exact zw_vret ok_Co_expectAnswerTo rfl rfl (⟨rfl, by first | rw [if_pos (by omega)] | rw [if_neg (by omega)]⟩)
theorem fb_in {P a : Int} {s : zS} (eP : mem 5 4 = P) (hP : 0 ≤ P ∧ P ≤ 8) (hk : ∀ p, 0 ≤ p → p < P → 0 ≤ mem 6 p ∧ mem 6 p ≤ 2) (ha : 0 ≤ a ∧ a < P) :
    ∀ (k : Nat) (b : Int) (df : Int → Int), b + k = P → a < b → AW m_Co_expectFirstBows 86 [some (vr 24), some (vi a), none, none] [] (putC mem (st, hd, lp (fbS (mem 6) a) k b df) s) Q → AW m_Co_expectFirstBows 17 [some (vr 24), some (vi a), some (vi b), none] [] (putC mem (st, hd, df) s) Q := by
  have q1 := hk a ha.1 ha.2
  intro k
  induction k with
  | zero =>
    intro b df hb hab hx
    refine zw_iload_n ok_Co_expectFirstBows rfl rfl ?_
    refine zw_aload_n ok_Co_expectFirstBows rfl rfl ?_
    refine zw_getr ok_Co_expectFirstBows rfl fl_Co_27 rfl rfl ?_
    refine zw_geti ok_Co_expectFirstBows rfl fl_Co_90 rfl rfl ?_
    try simp only [rd_C9, rd_C10, rd_C11, rd_C12, rd_C25, rd_C26, rd_C27, rd_C28, rd_C29, rd_C_0, rd_C_1, rd_C_2, rd_C_3, rd_C_4, rd_C_5, rd_C_6, rd_C_7, rd_C_8, rd_C_9, rd_C_10, rd_C_11, rd_C_12, rd_C_13, rd_C_14, rd_C_15, rd_C_16, rd_C_17, rd_C_18, rd_C_19, rd_C_20, rd_C_21, rd_C_22, rd_C_23, rd_C_30, rd_C_31, rd_C_32, rd_C_33, rd_C_34, rd_C_35, rd_C_36, rd_C_37, rd_C_38, rd_C_39, rd_C_40, rd_C_41, rd_C_42, rd_C_43, rd_C_44, rd_C_45, rd_C_46, rd_C_47, rd_C_48, rd_C_49, rd_C_50, rd_C_51, rd_C_52, rd_C_53, rd_C_54, rd_C_55, rd_C_56, rd_C_57, rd_C_58, rd_C_59, rd_C_60, rd_C_61, rd_C_62, rd_C_63, rd_C_64, rd_C_65, wr_C9, wr_C10, wr_C11, wr_C12, wr_C25, wr_C26, wr_C27, wr_C28, wr_C29, wp_C25, wp_C26, wp_C27, wp_C28, wp_C29]
    refine zw_icmp_ge 86 ok_Co_expectFirstBows rfl (by decide) (by omega) (fun h25 => ?_) (fun h25 => ?_)
    · refine zw_mask [true, true, false, false] rfl ?_
      exact hx
    · exfalso; omega
  | succ k ih =>
    intro b df hb hab hx
    rw [lp_s] at hx
    have q2 := hk b (by omega) (by omega)
    unfold fbS at hx
    refine zw_iload_n ok_Co_expectFirstBows rfl rfl ?_
    refine zw_aload_n ok_Co_expectFirstBows rfl rfl ?_
    refine zw_getr ok_Co_expectFirstBows rfl fl_Co_27 rfl rfl ?_
    refine zw_geti ok_Co_expectFirstBows rfl fl_Co_90 rfl rfl ?_
    try simp only [rd_C9, rd_C10, rd_C11, rd_C12, rd_C25, rd_C26, rd_C27, rd_C28, rd_C29, rd_C_0, rd_C_1, rd_C_2, rd_C_3, rd_C_4, rd_C_5, rd_C_6, rd_C_7, rd_C_8, rd_C_9, rd_C_10, rd_C_11, rd_C_12, rd_C_13, rd_C_14, rd_C_15, rd_C_16, rd_C_17, rd_C_18, rd_C_19, rd_C_20, rd_C_21, rd_C_22, rd_C_23, rd_C_30, rd_C_31, rd_C_32, rd_C_33, rd_C_34, rd_C_35, rd_C_36, rd_C_37, rd_C_38, rd_C_39, rd_C_40, rd_C_41, rd_C_42, rd_C_43, rd_C_44, rd_C_45, rd_C_46, rd_C_47, rd_C_48, rd_C_49, rd_C_50, rd_C_51, rd_C_52, rd_C_53, rd_C_54, rd_C_55, rd_C_56, rd_C_57, rd_C_58, rd_C_59, rd_C_60, rd_C_61, rd_C_62, rd_C_63, rd_C_64, rd_C_65, wr_C9, wr_C10, wr_C11, wr_C12, wr_C25, wr_C26, wr_C27, wr_C28, wr_C29, wp_C25, wp_C26, wp_C27, wp_C28, wp_C29]
    refine zw_icmp_ge 86 ok_Co_expectFirstBows rfl (by decide) (by omega) (fun h25 => ?_) (fun h25 => ?_)
    · exfalso; omega
    · refine zw_aload_n ok_Co_expectFirstBows rfl rfl ?_
      refine zw_getr ok_Co_expectFirstBows rfl fl_Co_27 rfl rfl ?_
      refine zw_getr ok_Co_expectFirstBows rfl fl_Co_93 rfl rfl ?_
      refine zw_iload_n ok_Co_expectFirstBows rfl rfl ?_
      refine zw_iald ok_Co_expectFirstBows rfl rfl (by omega) ?_
      try simp only [rd_C9, rd_C10, rd_C11, rd_C12, rd_C25, rd_C26, rd_C27, rd_C28, rd_C29, rd_C_0, rd_C_1, rd_C_2, rd_C_3, rd_C_4, rd_C_5, rd_C_6, rd_C_7, rd_C_8, rd_C_9, rd_C_10, rd_C_11, rd_C_12, rd_C_13, rd_C_14, rd_C_15, rd_C_16, rd_C_17, rd_C_18, rd_C_19, rd_C_20, rd_C_21, rd_C_22, rd_C_23, rd_C_30, rd_C_31, rd_C_32, rd_C_33, rd_C_34, rd_C_35, rd_C_36, rd_C_37, rd_C_38, rd_C_39, rd_C_40, rd_C_41, rd_C_42, rd_C_43, rd_C_44, rd_C_45, rd_C_46, rd_C_47, rd_C_48, rd_C_49, rd_C_50, rd_C_51, rd_C_52, rd_C_53, rd_C_54, rd_C_55, rd_C_56, rd_C_57, rd_C_58, rd_C_59, rd_C_60, rd_C_61, rd_C_62, rd_C_63, rd_C_64, rd_C_65, wr_C9, wr_C10, wr_C11, wr_C12, wr_C25, wr_C26, wr_C27, wr_C28, wr_C29, wp_C25, wp_C26, wp_C27, wp_C28, wp_C29]
      refine zw_iconst ok_Co_expectFirstBows rfl ?_
      refine zw_icmp_ne 58 ok_Co_expectFirstBows rfl (by decide) (by omega) (fun h38 => ?_) (fun h38 => ?_)
      · refine zw_iconst ok_Co_expectFirstBows rfl ?_
        refine zw_istore_n ok_Co_expectFirstBows rfl rfl (by decide) ?_
        refine zw_aload_n ok_Co_expectFirstBows rfl rfl ?_
        refine zw_getr ok_Co_expectFirstBows rfl fl_Co_18 rfl rfl ?_
        refine zw_iload_n ok_Co_expectFirstBows rfl rfl ?_
        refine zw_bipush ok_Co_expectFirstBows rfl (by decide) ?_
        refine zw_imul ok_Co_expectFirstBows rfl ?_
        refine zw_iload_n ok_Co_expectFirstBows rfl rfl ?_
        refine zw_iadd ok_Co_expectFirstBows rfl ?_
        refine zw_iload_n ok_Co_expectFirstBows rfl rfl ?_
        refine zw_if_eq 78 ok_Co_expectFirstBows rfl (by decide) (by omega) (fun h71 => ?_) (fun h71 => ?_)
        · try (exfalso; omega)
          all_goals
            refine zw_iconst ok_Co_expectFirstBows rfl ?_
            refine zw_iast ok_Co_expectFirstBows rfl rfl (by omega) ?_
            try simp only [rd_C9, rd_C10, rd_C11, rd_C12, rd_C25, rd_C26, rd_C27, rd_C28, rd_C29, rd_C_0, rd_C_1, rd_C_2, rd_C_3, rd_C_4, rd_C_5, rd_C_6, rd_C_7, rd_C_8, rd_C_9, rd_C_10, rd_C_11, rd_C_12, rd_C_13, rd_C_14, rd_C_15, rd_C_16, rd_C_17, rd_C_18, rd_C_19, rd_C_20, rd_C_21, rd_C_22, rd_C_23, rd_C_30, rd_C_31, rd_C_32, rd_C_33, rd_C_34, rd_C_35, rd_C_36, rd_C_37, rd_C_38, rd_C_39, rd_C_40, rd_C_41, rd_C_42, rd_C_43, rd_C_44, rd_C_45, rd_C_46, rd_C_47, rd_C_48, rd_C_49, rd_C_50, rd_C_51, rd_C_52, rd_C_53, rd_C_54, rd_C_55, rd_C_56, rd_C_57, rd_C_58, rd_C_59, rd_C_60, rd_C_61, rd_C_62, rd_C_63, rd_C_64, rd_C_65, wr_C9, wr_C10, wr_C11, wr_C12, wr_C25, wr_C26, wr_C27, wr_C28, wr_C29, wp_C25, wp_C26, wp_C27, wp_C28, wp_C29]
            refine zw_iinc ok_Co_expectFirstBows rfl rfl rfl (by decide) ?_
            refine zw_goto 17 ok_Co_expectFirstBows rfl (by decide) ?_
            refine zw_mask [true, true, true, false] rfl ?_
            refine ih (b + 1) _ (by omega) (by omega) ?_
            first
              | (rw [if_pos (by omega)] at hx; exact hx)
              | (rw [if_neg (by omega)] at hx; exact hx)
        · try (exfalso; omega)
          all_goals
            refine zw_iconst ok_Co_expectFirstBows rfl ?_
            refine zw_goto 79 ok_Co_expectFirstBows rfl (by decide) ?_
            refine zw_iast ok_Co_expectFirstBows rfl rfl (by omega) ?_
            try simp only [rd_C9, rd_C10, rd_C11, rd_C12, rd_C25, rd_C26, rd_C27, rd_C28, rd_C29, rd_C_0, rd_C_1, rd_C_2, rd_C_3, rd_C_4, rd_C_5, rd_C_6, rd_C_7, rd_C_8, rd_C_9, rd_C_10, rd_C_11, rd_C_12, rd_C_13, rd_C_14, rd_C_15, rd_C_16, rd_C_17, rd_C_18, rd_C_19, rd_C_20, rd_C_21, rd_C_22, rd_C_23, rd_C_30, rd_C_31, rd_C_32, rd_C_33, rd_C_34, rd_C_35, rd_C_36, rd_C_37, rd_C_38, rd_C_39, rd_C_40, rd_C_41, rd_C_42, rd_C_43, rd_C_44, rd_C_45, rd_C_46, rd_C_47, rd_C_48, rd_C_49, rd_C_50, rd_C_51, rd_C_52, rd_C_53, rd_C_54, rd_C_55, rd_C_56, rd_C_57, rd_C_58, rd_C_59, rd_C_60, rd_C_61, rd_C_62, rd_C_63, rd_C_64, rd_C_65, wr_C9, wr_C10, wr_C11, wr_C12, wr_C25, wr_C26, wr_C27, wr_C28, wr_C29, wp_C25, wp_C26, wp_C27, wp_C28, wp_C29]
            refine zw_iinc ok_Co_expectFirstBows rfl rfl rfl (by decide) ?_
            refine zw_goto 17 ok_Co_expectFirstBows rfl (by decide) ?_
            refine zw_mask [true, true, true, false] rfl ?_
            refine ih (b + 1) _ (by omega) (by omega) ?_
            first
              | (rw [if_pos (by omega)] at hx; exact hx)
              | (rw [if_neg (by omega)] at hx; exact hx)
      · refine zw_aload_n ok_Co_expectFirstBows rfl rfl ?_
        refine zw_getr ok_Co_expectFirstBows rfl fl_Co_27 rfl rfl ?_
        refine zw_getr ok_Co_expectFirstBows rfl fl_Co_93 rfl rfl ?_
        refine zw_iload_n ok_Co_expectFirstBows rfl rfl ?_
        refine zw_iald ok_Co_expectFirstBows rfl rfl (by omega) ?_
        try simp only [rd_C9, rd_C10, rd_C11, rd_C12, rd_C25, rd_C26, rd_C27, rd_C28, rd_C29, rd_C_0, rd_C_1, rd_C_2, rd_C_3, rd_C_4, rd_C_5, rd_C_6, rd_C_7, rd_C_8, rd_C_9, rd_C_10, rd_C_11, rd_C_12, rd_C_13, rd_C_14, rd_C_15, rd_C_16, rd_C_17, rd_C_18, rd_C_19, rd_C_20, rd_C_21, rd_C_22, rd_C_23, rd_C_30, rd_C_31, rd_C_32, rd_C_33, rd_C_34, rd_C_35, rd_C_36, rd_C_37, rd_C_38, rd_C_39, rd_C_40, rd_C_41, rd_C_42, rd_C_43, rd_C_44, rd_C_45, rd_C_46, rd_C_47, rd_C_48, rd_C_49, rd_C_50, rd_C_51, rd_C_52, rd_C_53, rd_C_54, rd_C_55, rd_C_56, rd_C_57, rd_C_58, rd_C_59, rd_C_60, rd_C_61, rd_C_62, rd_C_63, rd_C_64, rd_C_65, wr_C9, wr_C10, wr_C11, wr_C12, wr_C25, wr_C26, wr_C27, wr_C28, wr_C29, wp_C25, wp_C26, wp_C27, wp_C28, wp_C29]
        refine zw_iconst ok_Co_expectFirstBows rfl ?_
        refine zw_icmp_eq 58 ok_Co_expectFirstBows rfl (by decide) (by omega) (fun h51 => ?_) (fun h51 => ?_)
        · refine zw_iconst ok_Co_expectFirstBows rfl ?_
          refine zw_istore_n ok_Co_expectFirstBows rfl rfl (by decide) ?_
          refine zw_aload_n ok_Co_expectFirstBows rfl rfl ?_
          refine zw_getr ok_Co_expectFirstBows rfl fl_Co_18 rfl rfl ?_
          refine zw_iload_n ok_Co_expectFirstBows rfl rfl ?_
          refine zw_bipush ok_Co_expectFirstBows rfl (by decide) ?_
          refine zw_imul ok_Co_expectFirstBows rfl ?_
          refine zw_iload_n ok_Co_expectFirstBows rfl rfl ?_
          refine zw_iadd ok_Co_expectFirstBows rfl ?_
          refine zw_iload_n ok_Co_expectFirstBows rfl rfl ?_
          refine zw_if_eq 78 ok_Co_expectFirstBows rfl (by decide) (by omega) (fun h71 => ?_) (fun h71 => ?_)
          · try (exfalso; omega)
            all_goals
              refine zw_iconst ok_Co_expectFirstBows rfl ?_
              refine zw_iast ok_Co_expectFirstBows rfl rfl (by omega) ?_
              try simp only [rd_C9, rd_C10, rd_C11, rd_C12, rd_C25, rd_C26, rd_C27, rd_C28, rd_C29, rd_C_0, rd_C_1, rd_C_2, rd_C_3, rd_C_4, rd_C_5, rd_C_6, rd_C_7, rd_C_8, rd_C_9, rd_C_10, rd_C_11, rd_C_12, rd_C_13, rd_C_14, rd_C_15, rd_C_16, rd_C_17, rd_C_18, rd_C_19, rd_C_20, rd_C_21, rd_C_22, rd_C_23, rd_C_30, rd_C_31, rd_C_32, rd_C_33, rd_C_34, rd_C_35, rd_C_36, rd_C_37, rd_C_38, rd_C_39, rd_C_40, rd_C_41, rd_C_42, rd_C_43, rd_C_44, rd_C_45, rd_C_46, rd_C_47, rd_C_48, rd_C_49, rd_C_50, rd_C_51, rd_C_52, rd_C_53, rd_C_54, rd_C_55, rd_C_56, rd_C_57, rd_C_58, rd_C_59, rd_C_60, rd_C_61, rd_C_62, rd_C_63, rd_C_64, rd_C_65, wr_C9, wr_C10, wr_C11, wr_C12, wr_C25, wr_C26, wr_C27, wr_C28, wr_C29, wp_C25, wp_C26, wp_C27, wp_C28, wp_C29]
              refine zw_iinc ok_Co_expectFirstBows rfl rfl rfl (by decide) ?_
              refine zw_goto 17 ok_Co_expectFirstBows rfl (by decide) ?_
              refine zw_mask [true, true, true, false] rfl ?_
              refine ih (b + 1) _ (by omega) (by omega) ?_
              first
                | (rw [if_pos (by omega)] at hx; exact hx)
                | (rw [if_neg (by omega)] at hx; exact hx)
          · try (exfalso; omega)
            all_goals
              refine zw_iconst ok_Co_expectFirstBows rfl ?_
              refine zw_goto 79 ok_Co_expectFirstBows rfl (by decide) ?_
              refine zw_iast ok_Co_expectFirstBows rfl rfl (by omega) ?_
              try simp only [rd_C9, rd_C10, rd_C11, rd_C12, rd_C25, rd_C26, rd_C27, rd_C28, rd_C29, rd_C_0, rd_C_1, rd_C_2, rd_C_3, rd_C_4, rd_C_5, rd_C_6, rd_C_7, rd_C_8, rd_C_9, rd_C_10, rd_C_11, rd_C_12, rd_C_13, rd_C_14, rd_C_15, rd_C_16, rd_C_17, rd_C_18, rd_C_19, rd_C_20, rd_C_21, rd_C_22, rd_C_23, rd_C_30, rd_C_31, rd_C_32, rd_C_33, rd_C_34, rd_C_35, rd_C_36, rd_C_37, rd_C_38, rd_C_39, rd_C_40, rd_C_41, rd_C_42, rd_C_43, rd_C_44, rd_C_45, rd_C_46, rd_C_47, rd_C_48, rd_C_49, rd_C_50, rd_C_51, rd_C_52, rd_C_53, rd_C_54, rd_C_55, rd_C_56, rd_C_57, rd_C_58, rd_C_59, rd_C_60, rd_C_61, rd_C_62, rd_C_63, rd_C_64, rd_C_65, wr_C9, wr_C10, wr_C11, wr_C12, wr_C25, wr_C26, wr_C27, wr_C28, wr_C29, wp_C25, wp_C26, wp_C27, wp_C28, wp_C29]
              refine zw_iinc ok_Co_expectFirstBows rfl rfl rfl (by decide) ?_
              refine zw_goto 17 ok_Co_expectFirstBows rfl (by decide) ?_
              refine zw_mask [true, true, true, false] rfl ?_
              refine ih (b + 1) _ (by omega) (by omega) ?_
              first
                | (rw [if_pos (by omega)] at hx; exact hx)
                | (rw [if_neg (by omega)] at hx; exact hx)
        · refine zw_iconst ok_Co_expectFirstBows rfl ?_
          refine zw_goto 59 ok_Co_expectFirstBows rfl (by decide) ?_
          refine zw_istore_n ok_Co_expectFirstBows rfl rfl (by decide) ?_
          refine zw_aload_n ok_Co_expectFirstBows rfl rfl ?_
          refine zw_getr ok_Co_expectFirstBows rfl fl_Co_18 rfl rfl ?_
          refine zw_iload_n ok_Co_expectFirstBows rfl rfl ?_
          refine zw_bipush ok_Co_expectFirstBows rfl (by decide) ?_
          refine zw_imul ok_Co_expectFirstBows rfl ?_
          refine zw_iload_n ok_Co_expectFirstBows rfl rfl ?_
          refine zw_iadd ok_Co_expectFirstBows rfl ?_
          refine zw_iload_n ok_Co_expectFirstBows rfl rfl ?_
          refine zw_if_eq 78 ok_Co_expectFirstBows rfl (by decide) (by omega) (fun h71 => ?_) (fun h71 => ?_)
          · try (exfalso; omega)
            all_goals
              refine zw_iconst ok_Co_expectFirstBows rfl ?_
              refine zw_iast ok_Co_expectFirstBows rfl rfl (by omega) ?_
              try simp only [rd_C9, rd_C10, rd_C11, rd_C12, rd_C25, rd_C26, rd_C27, rd_C28, rd_C29, rd_C_0, rd_C_1, rd_C_2, rd_C_3, rd_C_4, rd_C_5, rd_C_6, rd_C_7, rd_C_8, rd_C_9, rd_C_10, rd_C_11, rd_C_12, rd_C_13, rd_C_14, rd_C_15, rd_C_16, rd_C_17, rd_C_18, rd_C_19, rd_C_20, rd_C_21, rd_C_22, rd_C_23, rd_C_30, rd_C_31, rd_C_32, rd_C_33, rd_C_34, rd_C_35, rd_C_36, rd_C_37, rd_C_38, rd_C_39, rd_C_40, rd_C_41, rd_C_42, rd_C_43, rd_C_44, rd_C_45, rd_C_46, rd_C_47, rd_C_48, rd_C_49, rd_C_50, rd_C_51, rd_C_52, rd_C_53, rd_C_54, rd_C_55, rd_C_56, rd_C_57, rd_C_58, rd_C_59, rd_C_60, rd_C_61, rd_C_62, rd_C_63, rd_C_64, rd_C_65, wr_C9, wr_C10, wr_C11, wr_C12, wr_C25, wr_C26, wr_C27, wr_C28, wr_C29, wp_C25, wp_C26, wp_C27, wp_C28, wp_C29]
              refine zw_iinc ok_Co_expectFirstBows rfl rfl rfl (by decide) ?_
              refine zw_goto 17 ok_Co_expectFirstBows rfl (by decide) ?_
              refine zw_mask [true, true, true, false] rfl ?_
              refine ih (b + 1) _ (by omega) (by omega) ?_
              first
                | (rw [if_pos (by omega)] at hx; exact hx)
                | (rw [if_neg (by omega)] at hx; exact hx)
          · try (exfalso; omega)
            all_goals
              refine zw_iconst ok_Co_expectFirstBows rfl ?_
              refine zw_goto 79 ok_Co_expectFirstBows rfl (by decide) ?_
              refine zw_iast ok_Co_expectFirstBows rfl rfl (by omega) ?_
              try simp only [rd_C9, rd_C10, rd_C11, rd_C12, rd_C25, rd_C26, rd_C27, rd_C28, rd_C29, rd_C_0, rd_C_1, rd_C_2, rd_C_3, rd_C_4, rd_C_5, rd_C_6, rd_C_7, rd_C_8, rd_C_9, rd_C_10, rd_C_11, rd_C_12, rd_C_13, rd_C_14, rd_C_15, rd_C_16, rd_C_17, rd_C_18, rd_C_19, rd_C_20, rd_C_21, rd_C_22, rd_C_23, rd_C_30, rd_C_31, rd_C_32, rd_C_33, rd_C_34, rd_C_35, rd_C_36, rd_C_37, rd_C_38, rd_C_39, rd_C_40, rd_C_41, rd_C_42, rd_C_43, rd_C_44, rd_C_45, rd_C_46, rd_C_47, rd_C_48, rd_C_49, rd_C_50, rd_C_51, rd_C_52, rd_C_53, rd_C_54, rd_C_55, rd_C_56, rd_C_57, rd_C_58, rd_C_59, rd_C_60, rd_C_61, rd_C_62, rd_C_63, rd_C_64, rd_C_65, wr_C9, wr_C10, wr_C11, wr_C12, wr_C25, wr_C26, wr_C27, wr_C28, wr_C29, wp_C25, wp_C26, wp_C27, wp_C28, wp_C29]
              refine zw_iinc ok_Co_expectFirstBows rfl rfl rfl (by decide) ?_
              refine zw_goto 17 ok_Co_expectFirstBows rfl (by decide) ?_
              refine zw_mask [true, true, true, false] rfl ?_
              refine ih (b + 1) _ (by omega) (by omega) ?_
              first
                | (rw [if_pos (by omega)] at hx; exact hx)
                | (rw [if_neg (by omega)] at hx; exact hx)
theorem fb_out {P : Int} {s : zS} (eP : mem 5 4 = P) (hP : 0 ≤ P ∧ P ≤ 8) (hk : ∀ p, 0 ≤ p → p < P → 0 ≤ mem 6 p ∧ mem 6 p ≤ 2) :
    ∀ (k : Nat) (a : Int) (df : Int → Int), 0 ≤ a → a + k = P → Q none (putC mem (st, hd, lp (fbO P (mem 6)) k a df) s) → AW m_Co_expectFirstBows 2 [some (vr 24), some (vi a), none, none] [] (putC mem (st, hd, df) s) Q := by
  intro k
  induction k with
  | zero =>
    intro a df h0 ha hx
    refine zw_iload_n ok_Co_expectFirstBows rfl rfl ?_
    refine zw_aload_n ok_Co_expectFirstBows rfl rfl ?_
    refine zw_getr ok_Co_expectFirstBows rfl fl_Co_27 rfl rfl ?_
    refine zw_geti ok_Co_expectFirstBows rfl fl_Co_90 rfl rfl ?_
    try simp only [rd_C9, rd_C10, rd_C11, rd_C12, rd_C25, rd_C26, rd_C27, rd_C28, rd_C29, rd_C_0, rd_C_1, rd_C_2, rd_C_3, rd_C_4, rd_C_5, rd_C_6, rd_C_7, rd_C_8, rd_C_9, rd_C_10, rd_C_11, rd_C_12, rd_C_13, rd_C_14, rd_C_15, rd_C_16, rd_C_17, rd_C_18, rd_C_19, rd_C_20, rd_C_21, rd_C_22, rd_C_23, rd_C_30, rd_C_31, rd_C_32, rd_C_33, rd_C_34, rd_C_35, rd_C_36, rd_C_37, rd_C_38, rd_C_39, rd_C_40, rd_C_41, rd_C_42, rd_C_43, rd_C_44, rd_C_45, rd_C_46, rd_C_47, rd_C_48, rd_C_49, rd_C_50, rd_C_51, rd_C_52, rd_C_53, rd_C_54, rd_C_55, rd_C_56, rd_C_57, rd_C_58, rd_C_59, rd_C_60, rd_C_61, rd_C_62, rd_C_63, rd_C_64, rd_C_65, wr_C9, wr_C10, wr_C11, wr_C12, wr_C25, wr_C26, wr_C27, wr_C28, wr_C29, wp_C25, wp_C26, wp_C27, wp_C28, wp_C29]
    refine zw_icmp_ge 92 ok_Co_expectFirstBows rfl (by decide) (by omega) (fun h10 => ?_) (fun h10 => ?_)
    · exact zw_vret ok_Co_expectFirstBows rfl rfl (hx)
    · exfalso; omega
  | succ k ih =>
    intro a df h0 ha hx
    rw [lp_s] at hx
    refine zw_iload_n ok_Co_expectFirstBows rfl rfl ?_
    refine zw_aload_n ok_Co_expectFirstBows rfl rfl ?_
    refine zw_getr ok_Co_expectFirstBows rfl fl_Co_27 rfl rfl ?_
    refine zw_geti ok_Co_expectFirstBows rfl fl_Co_90 rfl rfl ?_
    try simp only [rd_C9, rd_C10, rd_C11, rd_C12, rd_C25, rd_C26, rd_C27, rd_C28, rd_C29, rd_C_0, rd_C_1, rd_C_2, rd_C_3, rd_C_4, rd_C_5, rd_C_6, rd_C_7, rd_C_8, rd_C_9, rd_C_10, rd_C_11, rd_C_12, rd_C_13, rd_C_14, rd_C_15, rd_C_16, rd_C_17, rd_C_18, rd_C_19, rd_C_20, rd_C_21, rd_C_22, rd_C_23, rd_C_30, rd_C_31, rd_C_32, rd_C_33, rd_C_34, rd_C_35, rd_C_36, rd_C_37, rd_C_38, rd_C_39, rd_C_40, rd_C_41, rd_C_42, rd_C_43, rd_C_44, rd_C_45, rd_C_46, rd_C_47, rd_C_48, rd_C_49, rd_C_50, rd_C_51, rd_C_52, rd_C_53, rd_C_54, rd_C_55, rd_C_56, rd_C_57, rd_C_58, rd_C_59, rd_C_60, rd_C_61, rd_C_62, rd_C_63, rd_C_64, rd_C_65, wr_C9, wr_C10, wr_C11, wr_C12, wr_C25, wr_C26, wr_C27, wr_C28, wr_C29, wp_C25, wp_C26, wp_C27, wp_C28, wp_C29]
    refine zw_icmp_ge 92 ok_Co_expectFirstBows rfl (by decide) (by omega) (fun h10 => ?_) (fun h10 => ?_)
    · exfalso; omega
    · refine zw_iload_n ok_Co_expectFirstBows rfl rfl ?_
      refine zw_iconst ok_Co_expectFirstBows rfl ?_
      refine zw_iadd ok_Co_expectFirstBows rfl ?_
      refine zw_istore_n ok_Co_expectFirstBows rfl rfl (by decide) ?_
      refine fb_in eP hP hk ⟨h0, by omega⟩ (P - (a + 1)).toNat (a + 1) df (by omega) (by omega) ?_
      refine zw_iinc ok_Co_expectFirstBows rfl rfl rfl (by decide) ?_
      refine zw_goto 2 ok_Co_expectFirstBows rfl (by decide) ?_
      exact ih (a + 1) _ (by omega) (by omega) hx
theorem ct_Co_expectFirstBows {P : Int} {s : zS} (eP : mem 5 4 = P) (hP : 0 ≤ P ∧ P ≤ 8) (hk : ∀ p, 0 ≤ p → p < P → 0 ≤ mem 6 p ∧ mem 6 p ≤ 2) : zCvp m_Co_expectFirstBows [vr 24] (putC mem (st, hd, df) s) (putC mem (st, hd, efbS P (mem 6) df) s) := by
  refine zCt.of [some (vr 24), none, none, none] ok_Co_expectFirstBows (Nat.le_of_ble_eq_true rfl) rfl ?_
  refine zw_iconst ok_Co_expectFirstBows rfl ?_
  refine zw_istore_n ok_Co_expectFirstBows rfl rfl (by decide) ?_
  exact fb_out eP hP hk P.toNat 0 df (by omega) (by omega) ⟨rfl, rfl⟩
/-- what was told lies in its bounds (the class's cells) -/
def toldC (mem : zMem) : Prop := (0 ≤ mem 5 4 ∧ mem 5 4 ≤ 8) ∧ (∀ p, 0 ≤ p → p < mem 5 4 → 0 ≤ mem 6 p ∧ mem 6 p ≤ 2) ∧ (0 ≤ mem 16 3 ∧ mem 16 3 ≤ 8) ∧ (∀ u, 0 ≤ u → u < mem 16 3 → (0 ≤ mem 17 u ∧ mem 17 u ≤ 11) ∧ (0 ≤ mem 18 u ∧ mem 18 u ≤ 7)) ∧ (0 ≤ mem 12 3 ∧ mem 12 3 ≤ 12) ∧ (∀ k, 0 ≤ k → k < mem 12 3 → (0 ≤ mem 13 k ∧ mem 13 k ≤ 7) ∧ (0 ≤ mem 14 k ∧ mem 14 k ≤ 7))
theorem lay_olds {P ol : Int} {s : zS} (hT : toldC mem) (hol : -1 ≤ ol ∧ ol ≤ 11) (ll : Int) :
    ∀ (k : Nat) (j : Int) (df : Int → Int), 0 ≤ j → j + k = mem 12 3 → Q none (putC mem (st, hd, lp (odS (mem 9) ol (mem 13) (mem 14) (mem 15)) k j df) s) → AW m_Co_layOut 90 [some (vr 24), some (vi ol), some (vi ll), some (vi j)] [] (putC mem (st, hd, df) s) Q := by
  obtain ⟨t1, t2, t3, t4, t5, t6⟩ := hT
  intro k
  induction k with
  | zero =>
    intro j df h0 hj hx
    refine zw_iload_n ok_Co_layOut rfl rfl ?_
    refine zw_aload_n ok_Co_layOut rfl rfl ?_
    refine zw_getr ok_Co_layOut rfl fl_Co_35 rfl rfl ?_
    refine zw_geti ok_Co_layOut rfl fl_Co_68 rfl rfl ?_
    try simp only [rd_C9, rd_C10, rd_C11, rd_C12, rd_C25, rd_C26, rd_C27, rd_C28, rd_C29, rd_C_0, rd_C_1, rd_C_2, rd_C_3, rd_C_4, rd_C_5, rd_C_6, rd_C_7, rd_C_8, rd_C_9, rd_C_10, rd_C_11, rd_C_12, rd_C_13, rd_C_14, rd_C_15, rd_C_16, rd_C_17, rd_C_18, rd_C_19, rd_C_20, rd_C_21, rd_C_22, rd_C_23, rd_C_30, rd_C_31, rd_C_32, rd_C_33, rd_C_34, rd_C_35, rd_C_36, rd_C_37, rd_C_38, rd_C_39, rd_C_40, rd_C_41, rd_C_42, rd_C_43, rd_C_44, rd_C_45, rd_C_46, rd_C_47, rd_C_48, rd_C_49, rd_C_50, rd_C_51, rd_C_52, rd_C_53, rd_C_54, rd_C_55, rd_C_56, rd_C_57, rd_C_58, rd_C_59, rd_C_60, rd_C_61, rd_C_62, rd_C_63, rd_C_64, rd_C_65, wr_C9, wr_C10, wr_C11, wr_C12, wr_C25, wr_C26, wr_C27, wr_C28, wr_C29, wp_C25, wp_C26, wp_C27, wp_C28, wp_C29]
    refine zw_icmp_ge 143 ok_Co_layOut rfl (by decide) (by omega) (fun h98 => ?_) (fun h98 => ?_)
    · exact zw_vret ok_Co_layOut rfl rfl (hx)
    · exfalso; omega
  | succ k ih =>
    intro j df h0 hj hx
    rw [lp_s] at hx
    unfold odS at hx
    have q := t6 j h0 (by omega)
    refine zw_iload_n ok_Co_layOut rfl rfl ?_
    refine zw_aload_n ok_Co_layOut rfl rfl ?_
    refine zw_getr ok_Co_layOut rfl fl_Co_35 rfl rfl ?_
    refine zw_geti ok_Co_layOut rfl fl_Co_68 rfl rfl ?_
    try simp only [rd_C9, rd_C10, rd_C11, rd_C12, rd_C25, rd_C26, rd_C27, rd_C28, rd_C29, rd_C_0, rd_C_1, rd_C_2, rd_C_3, rd_C_4, rd_C_5, rd_C_6, rd_C_7, rd_C_8, rd_C_9, rd_C_10, rd_C_11, rd_C_12, rd_C_13, rd_C_14, rd_C_15, rd_C_16, rd_C_17, rd_C_18, rd_C_19, rd_C_20, rd_C_21, rd_C_22, rd_C_23, rd_C_30, rd_C_31, rd_C_32, rd_C_33, rd_C_34, rd_C_35, rd_C_36, rd_C_37, rd_C_38, rd_C_39, rd_C_40, rd_C_41, rd_C_42, rd_C_43, rd_C_44, rd_C_45, rd_C_46, rd_C_47, rd_C_48, rd_C_49, rd_C_50, rd_C_51, rd_C_52, rd_C_53, rd_C_54, rd_C_55, rd_C_56, rd_C_57, rd_C_58, rd_C_59, rd_C_60, rd_C_61, rd_C_62, rd_C_63, rd_C_64, rd_C_65, wr_C9, wr_C10, wr_C11, wr_C12, wr_C25, wr_C26, wr_C27, wr_C28, wr_C29, wp_C25, wp_C26, wp_C27, wp_C28, wp_C29]
    refine zw_icmp_ge 143 ok_Co_layOut rfl (by decide) (by omega) (fun h98 => ?_) (fun h98 => ?_)
    · exfalso; omega
    · refine zw_iload_n ok_Co_layOut rfl rfl ?_
      refine zw_iload_n ok_Co_layOut rfl rfl ?_
      refine zw_icmp_eq 137 ok_Co_layOut rfl (by decide) (by omega) (fun h103 => ?_) (fun h103 => ?_)
      · refine zw_iinc ok_Co_layOut rfl rfl rfl (by decide) ?_
        refine zw_goto 90 ok_Co_layOut rfl (by decide) ?_
        first
        | (rw [if_pos h103] at hx; exact ih (j + 1) _ (by omega) (by omega) hx)
        | (rw [if_neg h103] at hx; exact ih (j + 1) _ (by omega) (by omega) hx)
      · refine zw_aload_n ok_Co_layOut rfl rfl ?_
        refine zw_aload_n ok_Co_layOut rfl rfl ?_
        refine zw_getr ok_Co_layOut rfl fl_Co_35 rfl rfl ?_
        refine zw_getr ok_Co_layOut rfl fl_Co_74 rfl rfl ?_
        refine zw_iload_n ok_Co_layOut rfl rfl ?_
        refine zw_iald ok_Co_layOut rfl rfl (by omega) ?_
        try simp only [rd_C9, rd_C10, rd_C11, rd_C12, rd_C25, rd_C26, rd_C27, rd_C28, rd_C29, rd_C_0, rd_C_1, rd_C_2, rd_C_3, rd_C_4, rd_C_5, rd_C_6, rd_C_7, rd_C_8, rd_C_9, rd_C_10, rd_C_11, rd_C_12, rd_C_13, rd_C_14, rd_C_15, rd_C_16, rd_C_17, rd_C_18, rd_C_19, rd_C_20, rd_C_21, rd_C_22, rd_C_23, rd_C_30, rd_C_31, rd_C_32, rd_C_33, rd_C_34, rd_C_35, rd_C_36, rd_C_37, rd_C_38, rd_C_39, rd_C_40, rd_C_41, rd_C_42, rd_C_43, rd_C_44, rd_C_45, rd_C_46, rd_C_47, rd_C_48, rd_C_49, rd_C_50, rd_C_51, rd_C_52, rd_C_53, rd_C_54, rd_C_55, rd_C_56, rd_C_57, rd_C_58, rd_C_59, rd_C_60, rd_C_61, rd_C_62, rd_C_63, rd_C_64, rd_C_65, wr_C9, wr_C10, wr_C11, wr_C12, wr_C25, wr_C26, wr_C27, wr_C28, wr_C29, wp_C25, wp_C26, wp_C27, wp_C28, wp_C29]
        refine zw_aload_n ok_Co_layOut rfl rfl ?_
        refine zw_getr ok_Co_layOut rfl fl_Co_35 rfl rfl ?_
        refine zw_getr ok_Co_layOut rfl fl_Co_77 rfl rfl ?_
        refine zw_iload_n ok_Co_layOut rfl rfl ?_
        refine zw_iald ok_Co_layOut rfl rfl (by omega) ?_
        try simp only [rd_C9, rd_C10, rd_C11, rd_C12, rd_C25, rd_C26, rd_C27, rd_C28, rd_C29, rd_C_0, rd_C_1, rd_C_2, rd_C_3, rd_C_4, rd_C_5, rd_C_6, rd_C_7, rd_C_8, rd_C_9, rd_C_10, rd_C_11, rd_C_12, rd_C_13, rd_C_14, rd_C_15, rd_C_16, rd_C_17, rd_C_18, rd_C_19, rd_C_20, rd_C_21, rd_C_22, rd_C_23, rd_C_30, rd_C_31, rd_C_32, rd_C_33, rd_C_34, rd_C_35, rd_C_36, rd_C_37, rd_C_38, rd_C_39, rd_C_40, rd_C_41, rd_C_42, rd_C_43, rd_C_44, rd_C_45, rd_C_46, rd_C_47, rd_C_48, rd_C_49, rd_C_50, rd_C_51, rd_C_52, rd_C_53, rd_C_54, rd_C_55, rd_C_56, rd_C_57, rd_C_58, rd_C_59, rd_C_60, rd_C_61, rd_C_62, rd_C_63, rd_C_64, rd_C_65, wr_C9, wr_C10, wr_C11, wr_C12, wr_C25, wr_C26, wr_C27, wr_C28, wr_C29, wp_C25, wp_C26, wp_C27, wp_C28, wp_C29]
        refine zw_aload_n ok_Co_layOut rfl rfl ?_
        refine zw_getr ok_Co_layOut rfl fl_Co_35 rfl rfl ?_
        refine zw_getr ok_Co_layOut rfl fl_Co_83 rfl rfl ?_
        refine zw_iload_n ok_Co_layOut rfl rfl ?_
        refine zw_iald ok_Co_layOut rfl rfl (by omega) ?_
        try simp only [rd_C9, rd_C10, rd_C11, rd_C12, rd_C25, rd_C26, rd_C27, rd_C28, rd_C29, rd_C_0, rd_C_1, rd_C_2, rd_C_3, rd_C_4, rd_C_5, rd_C_6, rd_C_7, rd_C_8, rd_C_9, rd_C_10, rd_C_11, rd_C_12, rd_C_13, rd_C_14, rd_C_15, rd_C_16, rd_C_17, rd_C_18, rd_C_19, rd_C_20, rd_C_21, rd_C_22, rd_C_23, rd_C_30, rd_C_31, rd_C_32, rd_C_33, rd_C_34, rd_C_35, rd_C_36, rd_C_37, rd_C_38, rd_C_39, rd_C_40, rd_C_41, rd_C_42, rd_C_43, rd_C_44, rd_C_45, rd_C_46, rd_C_47, rd_C_48, rd_C_49, rd_C_50, rd_C_51, rd_C_52, rd_C_53, rd_C_54, rd_C_55, rd_C_56, rd_C_57, rd_C_58, rd_C_59, rd_C_60, rd_C_61, rd_C_62, rd_C_63, rd_C_64, rd_C_65, wr_C9, wr_C10, wr_C11, wr_C12, wr_C25, wr_C26, wr_C27, wr_C28, wr_C29, wp_C25, wp_C26, wp_C27, wp_C28, wp_C29]
        refine zw_Vvp ok_Co_layOut rfl ok_Co_expectAnswerTo lk_Co_86 (by decide) rfl rfl (Nat.le_of_ble_eq_true rfl) (ct_Co_expectAnswerTo (by omega) (by omega)) ?_
        refine zw_iinc ok_Co_layOut rfl rfl rfl (by decide) ?_
        refine zw_goto 90 ok_Co_layOut rfl (by decide) ?_
        first
        | (rw [if_pos h103] at hx; exact ih (j + 1) _ (by omega) (by omega) hx)
        | (rw [if_neg h103] at hx; exact ih (j + 1) _ (by omega) (by omega) hx)
theorem lay_umb {s : zS} {ol ll : Int} (hT : toldC mem) :
    ∀ (k : Nat) (u : Int) (hd : Int → Int), 0 ≤ u → u + k = mem 16 3 → AW m_Co_layOut 84 [some (vr 24), some (vi ol), some (vi ll), none] [] (putC mem (st, lp (hdS ll (mem 17) (mem 18)) k u hd, df) s) Q → AW m_Co_layOut 31 [some (vr 24), some (vi ol), some (vi ll), some (vi u)] [] (putC mem (st, hd, df) s) Q := by
  obtain ⟨t1, t2, t3, t4, t5, t6⟩ := hT
  intro k
  induction k with
  | zero =>
    intro u hd h0 hu hx
    refine zw_iload_n ok_Co_layOut rfl rfl ?_
    refine zw_aload_n ok_Co_layOut rfl rfl ?_
    refine zw_getr ok_Co_layOut rfl fl_Co_39 rfl rfl ?_
    refine zw_geti ok_Co_layOut rfl fl_Co_68 rfl rfl ?_
    try simp only [rd_C9, rd_C10, rd_C11, rd_C12, rd_C25, rd_C26, rd_C27, rd_C28, rd_C29, rd_C_0, rd_C_1, rd_C_2, rd_C_3, rd_C_4, rd_C_5, rd_C_6, rd_C_7, rd_C_8, rd_C_9, rd_C_10, rd_C_11, rd_C_12, rd_C_13, rd_C_14, rd_C_15, rd_C_16, rd_C_17, rd_C_18, rd_C_19, rd_C_20, rd_C_21, rd_C_22, rd_C_23, rd_C_30, rd_C_31, rd_C_32, rd_C_33, rd_C_34, rd_C_35, rd_C_36, rd_C_37, rd_C_38, rd_C_39, rd_C_40, rd_C_41, rd_C_42, rd_C_43, rd_C_44, rd_C_45, rd_C_46, rd_C_47, rd_C_48, rd_C_49, rd_C_50, rd_C_51, rd_C_52, rd_C_53, rd_C_54, rd_C_55, rd_C_56, rd_C_57, rd_C_58, rd_C_59, rd_C_60, rd_C_61, rd_C_62, rd_C_63, rd_C_64, rd_C_65, wr_C9, wr_C10, wr_C11, wr_C12, wr_C25, wr_C26, wr_C27, wr_C28, wr_C29, wp_C25, wp_C26, wp_C27, wp_C28, wp_C29]
    refine zw_icmp_ge 84 ok_Co_layOut rfl (by decide) (by omega) (fun h39 => ?_) (fun h39 => ?_)
    · refine zw_mask [true, true, true, false] rfl ?_
      exact hx
    · exfalso; omega
  | succ k ih =>
    intro u hd h0 hu hx
    rw [lp_s] at hx
    unfold hdS at hx
    have q := t4 u h0 (by omega)
    refine zw_iload_n ok_Co_layOut rfl rfl ?_
    refine zw_aload_n ok_Co_layOut rfl rfl ?_
    refine zw_getr ok_Co_layOut rfl fl_Co_39 rfl rfl ?_
    refine zw_geti ok_Co_layOut rfl fl_Co_68 rfl rfl ?_
    try simp only [rd_C9, rd_C10, rd_C11, rd_C12, rd_C25, rd_C26, rd_C27, rd_C28, rd_C29, rd_C_0, rd_C_1, rd_C_2, rd_C_3, rd_C_4, rd_C_5, rd_C_6, rd_C_7, rd_C_8, rd_C_9, rd_C_10, rd_C_11, rd_C_12, rd_C_13, rd_C_14, rd_C_15, rd_C_16, rd_C_17, rd_C_18, rd_C_19, rd_C_20, rd_C_21, rd_C_22, rd_C_23, rd_C_30, rd_C_31, rd_C_32, rd_C_33, rd_C_34, rd_C_35, rd_C_36, rd_C_37, rd_C_38, rd_C_39, rd_C_40, rd_C_41, rd_C_42, rd_C_43, rd_C_44, rd_C_45, rd_C_46, rd_C_47, rd_C_48, rd_C_49, rd_C_50, rd_C_51, rd_C_52, rd_C_53, rd_C_54, rd_C_55, rd_C_56, rd_C_57, rd_C_58, rd_C_59, rd_C_60, rd_C_61, rd_C_62, rd_C_63, rd_C_64, rd_C_65, wr_C9, wr_C10, wr_C11, wr_C12, wr_C25, wr_C26, wr_C27, wr_C28, wr_C29, wp_C25, wp_C26, wp_C27, wp_C28, wp_C29]
    refine zw_icmp_ge 84 ok_Co_layOut rfl (by decide) (by omega) (fun h39 => ?_) (fun h39 => ?_)
    · exfalso; omega
    · refine zw_iload_n ok_Co_layOut rfl rfl ?_
      refine zw_iload_n ok_Co_layOut rfl rfl ?_
      refine zw_ishr ok_Co_layOut rfl ?_
      refine zw_iconst ok_Co_layOut rfl ?_
      refine zw_iand ok_Co_layOut rfl ?_
      refine zw_if_ne 78 ok_Co_layOut rfl (by decide) (zR_and _ _) (fun h47 => ?_) (fun h47 => ?_)
      · rw [tb_ask0 _ (by omega)] at h47
        refine zw_iinc ok_Co_layOut rfl rfl rfl (by decide) ?_
        refine zw_goto 31 ok_Co_layOut rfl (by decide) ?_
        first
        | (rw [if_pos (by simpa using h47)] at hx; exact ih (u + 1) _ (by omega) (by omega) hx)
        | (rw [if_neg (by simp [h47])] at hx; exact ih (u + 1) _ (by omega) (by omega) hx)
      · rw [tb_ask0 _ (by omega)] at h47
        refine zw_aload_n ok_Co_layOut rfl rfl ?_
        refine zw_getr ok_Co_layOut rfl fl_Co_15 rfl rfl ?_
        refine zw_aload_n ok_Co_layOut rfl rfl ?_
        refine zw_getr ok_Co_layOut rfl fl_Co_39 rfl rfl ?_
        refine zw_getr ok_Co_layOut rfl fl_Co_74 rfl rfl ?_
        refine zw_iload_n ok_Co_layOut rfl rfl ?_
        refine zw_iald ok_Co_layOut rfl rfl (by omega) ?_
        try simp only [rd_C9, rd_C10, rd_C11, rd_C12, rd_C25, rd_C26, rd_C27, rd_C28, rd_C29, rd_C_0, rd_C_1, rd_C_2, rd_C_3, rd_C_4, rd_C_5, rd_C_6, rd_C_7, rd_C_8, rd_C_9, rd_C_10, rd_C_11, rd_C_12, rd_C_13, rd_C_14, rd_C_15, rd_C_16, rd_C_17, rd_C_18, rd_C_19, rd_C_20, rd_C_21, rd_C_22, rd_C_23, rd_C_30, rd_C_31, rd_C_32, rd_C_33, rd_C_34, rd_C_35, rd_C_36, rd_C_37, rd_C_38, rd_C_39, rd_C_40, rd_C_41, rd_C_42, rd_C_43, rd_C_44, rd_C_45, rd_C_46, rd_C_47, rd_C_48, rd_C_49, rd_C_50, rd_C_51, rd_C_52, rd_C_53, rd_C_54, rd_C_55, rd_C_56, rd_C_57, rd_C_58, rd_C_59, rd_C_60, rd_C_61, rd_C_62, rd_C_63, rd_C_64, rd_C_65, wr_C9, wr_C10, wr_C11, wr_C12, wr_C25, wr_C26, wr_C27, wr_C28, wr_C29, wp_C25, wp_C26, wp_C27, wp_C28, wp_C29]
        refine zw_dup2 ok_Co_layOut rfl ?_
        refine zw_iald ok_Co_layOut rfl rfl (by omega) ?_
        try simp only [rd_C9, rd_C10, rd_C11, rd_C12, rd_C25, rd_C26, rd_C27, rd_C28, rd_C29, rd_C_0, rd_C_1, rd_C_2, rd_C_3, rd_C_4, rd_C_5, rd_C_6, rd_C_7, rd_C_8, rd_C_9, rd_C_10, rd_C_11, rd_C_12, rd_C_13, rd_C_14, rd_C_15, rd_C_16, rd_C_17, rd_C_18, rd_C_19, rd_C_20, rd_C_21, rd_C_22, rd_C_23, rd_C_30, rd_C_31, rd_C_32, rd_C_33, rd_C_34, rd_C_35, rd_C_36, rd_C_37, rd_C_38, rd_C_39, rd_C_40, rd_C_41, rd_C_42, rd_C_43, rd_C_44, rd_C_45, rd_C_46, rd_C_47, rd_C_48, rd_C_49, rd_C_50, rd_C_51, rd_C_52, rd_C_53, rd_C_54, rd_C_55, rd_C_56, rd_C_57, rd_C_58, rd_C_59, rd_C_60, rd_C_61, rd_C_62, rd_C_63, rd_C_64, rd_C_65, wr_C9, wr_C10, wr_C11, wr_C12, wr_C25, wr_C26, wr_C27, wr_C28, wr_C29, wp_C25, wp_C26, wp_C27, wp_C28, wp_C29]
        refine zw_iconst ok_Co_layOut rfl ?_
        refine zw_aload_n ok_Co_layOut rfl rfl ?_
        refine zw_getr ok_Co_layOut rfl fl_Co_39 rfl rfl ?_
        refine zw_getr ok_Co_layOut rfl fl_Co_77 rfl rfl ?_
        refine zw_iload_n ok_Co_layOut rfl rfl ?_
        refine zw_iald ok_Co_layOut rfl rfl (by omega) ?_
        try simp only [rd_C9, rd_C10, rd_C11, rd_C12, rd_C25, rd_C26, rd_C27, rd_C28, rd_C29, rd_C_0, rd_C_1, rd_C_2, rd_C_3, rd_C_4, rd_C_5, rd_C_6, rd_C_7, rd_C_8, rd_C_9, rd_C_10, rd_C_11, rd_C_12, rd_C_13, rd_C_14, rd_C_15, rd_C_16, rd_C_17, rd_C_18, rd_C_19, rd_C_20, rd_C_21, rd_C_22, rd_C_23, rd_C_30, rd_C_31, rd_C_32, rd_C_33, rd_C_34, rd_C_35, rd_C_36, rd_C_37, rd_C_38, rd_C_39, rd_C_40, rd_C_41, rd_C_42, rd_C_43, rd_C_44, rd_C_45, rd_C_46, rd_C_47, rd_C_48, rd_C_49, rd_C_50, rd_C_51, rd_C_52, rd_C_53, rd_C_54, rd_C_55, rd_C_56, rd_C_57, rd_C_58, rd_C_59, rd_C_60, rd_C_61, rd_C_62, rd_C_63, rd_C_64, rd_C_65, wr_C9, wr_C10, wr_C11, wr_C12, wr_C25, wr_C26, wr_C27, wr_C28, wr_C29, wp_C25, wp_C26, wp_C27, wp_C28, wp_C29]
        refine zw_ishl ok_Co_layOut rfl ?_
        refine zw_ior ok_Co_layOut rfl ?_
        refine zw_iast ok_Co_layOut rfl rfl (by omega) ?_
        try simp only [rd_C9, rd_C10, rd_C11, rd_C12, rd_C25, rd_C26, rd_C27, rd_C28, rd_C29, rd_C_0, rd_C_1, rd_C_2, rd_C_3, rd_C_4, rd_C_5, rd_C_6, rd_C_7, rd_C_8, rd_C_9, rd_C_10, rd_C_11, rd_C_12, rd_C_13, rd_C_14, rd_C_15, rd_C_16, rd_C_17, rd_C_18, rd_C_19, rd_C_20, rd_C_21, rd_C_22, rd_C_23, rd_C_30, rd_C_31, rd_C_32, rd_C_33, rd_C_34, rd_C_35, rd_C_36, rd_C_37, rd_C_38, rd_C_39, rd_C_40, rd_C_41, rd_C_42, rd_C_43, rd_C_44, rd_C_45, rd_C_46, rd_C_47, rd_C_48, rd_C_49, rd_C_50, rd_C_51, rd_C_52, rd_C_53, rd_C_54, rd_C_55, rd_C_56, rd_C_57, rd_C_58, rd_C_59, rd_C_60, rd_C_61, rd_C_62, rd_C_63, rd_C_64, rd_C_65, wr_C9, wr_C10, wr_C11, wr_C12, wr_C25, wr_C26, wr_C27, wr_C28, wr_C29, wp_C25, wp_C26, wp_C27, wp_C28, wp_C29]
        refine zw_iinc ok_Co_layOut rfl rfl rfl (by decide) ?_
        refine zw_goto 31 ok_Co_layOut rfl (by decide) ?_
        first
        | (rw [if_pos (by simpa using h47)] at hx; exact ih (u + 1) _ (by omega) (by omega) hx)
        | (rw [if_neg (by simp [h47])] at hx; exact ih (u + 1) _ (by omega) (by omega) hx)
theorem ct_Co_layOut {s : zS} {ol ll : Int} (hT : toldC mem) (hol : -1 ≤ ol ∧ ol ≤ 11) : zCvp m_Co_layOut [vr 24, vi ol, vi ll] (putC mem (st, hd, df) s) (putC mem (layS mem ol ll (st, hd, df)) s) := by
  refine zCt.of [some (vr 24), some (vi ol), some (vi ll), none] ok_Co_layOut (Nat.le_of_ble_eq_true rfl) rfl ?_
  have t1 := hT.1
  have t3 := hT.2.2.1
  have t5 := hT.2.2.2.2.1
  have K : ∀ hd2 : Int → Int, AW m_Co_layOut 84 [some (vr 24), some (vi ol), some (vi ll), none] [] (putC mem (zcpy (mem 11) st 0 0 96, hd2, df) s) (fun r m2 => r = none ∧ m2 = putC mem (zcpy (mem 11) st 0 0 96, hd2, lp (odS (mem 9) ol (mem 13) (mem 14) (mem 15)) (mem 12 3).toNat 0 (efbS (mem 5 4) (mem 6) df)) s) := by
    intro hd2
    refine zw_aload_n ok_Co_layOut rfl rfl ?_
    refine zw_Vvp ok_Co_layOut rfl ok_Co_expectFirstBows lk_Co_80 (by decide) rfl rfl (Nat.le_of_ble_eq_true rfl) (ct_Co_expectFirstBows rfl t1 hT.2.1) ?_
    refine zw_iconst ok_Co_layOut rfl ?_
    refine zw_istore_n ok_Co_layOut rfl rfl (by decide) ?_
    exact lay_olds (P := 0) hT hol ll (mem 12 3).toNat 0 _ (by omega) (by omega) ⟨rfl, rfl⟩
  refine zw_aload_n ok_Co_layOut rfl rfl ?_
  refine zw_getr ok_Co_layOut rfl fl_Co_31 rfl rfl ?_
  refine zw_getr ok_Co_layOut rfl fl_Co_53 rfl rfl ?_
  refine zw_iconst ok_Co_layOut rfl ?_
  refine zw_aload_n ok_Co_layOut rfl rfl ?_
  refine zw_getr ok_Co_layOut rfl fl_Co_9 rfl rfl ?_
  refine zw_iconst ok_Co_layOut rfl ?_
  refine zw_aload_n ok_Co_layOut rfl rfl ?_
  refine zw_getr ok_Co_layOut rfl fl_Co_9 rfl rfl ?_
  refine zw_alen ok_Co_layOut rfl rfl (by decide) ?_
  refine zw_copy ok_Co_layOut rfl la_Co_56 rfl rfl (by decide) ⟨by decide, Nat.le_of_ble_eq_true rfl⟩ ?_
  try simp only [rd_C9, rd_C10, rd_C11, rd_C12, rd_C25, rd_C26, rd_C27, rd_C28, rd_C29, rd_C_0, rd_C_1, rd_C_2, rd_C_3, rd_C_4, rd_C_5, rd_C_6, rd_C_7, rd_C_8, rd_C_9, rd_C_10, rd_C_11, rd_C_12, rd_C_13, rd_C_14, rd_C_15, rd_C_16, rd_C_17, rd_C_18, rd_C_19, rd_C_20, rd_C_21, rd_C_22, rd_C_23, rd_C_30, rd_C_31, rd_C_32, rd_C_33, rd_C_34, rd_C_35, rd_C_36, rd_C_37, rd_C_38, rd_C_39, rd_C_40, rd_C_41, rd_C_42, rd_C_43, rd_C_44, rd_C_45, rd_C_46, rd_C_47, rd_C_48, rd_C_49, rd_C_50, rd_C_51, rd_C_52, rd_C_53, rd_C_54, rd_C_55, rd_C_56, rd_C_57, rd_C_58, rd_C_59, rd_C_60, rd_C_61, rd_C_62, rd_C_63, rd_C_64, rd_C_65, wr_C9, wr_C10, wr_C11, wr_C12, wr_C25, wr_C26, wr_C27, wr_C28, wr_C29, wp_C25, wp_C26, wp_C27, wp_C28, wp_C29]
  refine zw_aload_n ok_Co_layOut rfl rfl ?_
  refine zw_getr ok_Co_layOut rfl fl_Co_15 rfl rfl ?_
  refine zw_iconst ok_Co_layOut rfl ?_
  refine zw_Svp ok_Co_layOut rfl ok_Jarr_fill_53178 lk_Co_62 (by decide) rfl (Nat.le_of_ble_eq_true rfl) (ct_Jarr_fill_53178 rfl) ?_
  simp only [rd_C9, rd_C10, rd_C11, rd_C12, rd_C25, rd_C26, rd_C27, rd_C28, rd_C29, rd_C_0, rd_C_1, rd_C_2, rd_C_3, rd_C_4, rd_C_5, rd_C_6, rd_C_7, rd_C_8, rd_C_9, rd_C_10, rd_C_11, rd_C_12, rd_C_13, rd_C_14, rd_C_15, rd_C_16, rd_C_17, rd_C_18, rd_C_19, rd_C_20, rd_C_21, rd_C_22, rd_C_23, rd_C_30, rd_C_31, rd_C_32, rd_C_33, rd_C_34, rd_C_35, rd_C_36, rd_C_37, rd_C_38, rd_C_39, rd_C_40, rd_C_41, rd_C_42, rd_C_43, rd_C_44, rd_C_45, rd_C_46, rd_C_47, rd_C_48, rd_C_49, rd_C_50, rd_C_51, rd_C_52, rd_C_53, rd_C_54, rd_C_55, rd_C_56, rd_C_57, rd_C_58, rd_C_59, rd_C_60, rd_C_61, rd_C_62, rd_C_63, rd_C_64, rd_C_65, wr_C9, wr_C10, wr_C11, wr_C12, wr_C25, wr_C26, wr_C27, wr_C28, wr_C29, wp_C25, wp_C26, wp_C27, wp_C28, wp_C29]
  refine zw_iconst ok_Co_layOut rfl ?_
  refine zw_istore_n ok_Co_layOut rfl rfl (by decide) ?_
  exact lay_umb hT (mem 16 3).toNat 0 _ (by omega) (by omega) (K _)
/-- all that the coast needs of what was told -/
def okC (mem : zMem) : Prop := toldC mem ∧ pInv (mem 5 4) (mem 7) (mem 9) ∧ (∀ i, 0 ≤ i → i < 96 → -1 ≤ mem 11 i ∧ mem 11 i ≤ 7) ∧ (∀ k, 0 ≤ k → k < mem 12 3 → mem 13 k ≠ mem 14 k ∧ (1 ≤ mem 15 k ∧ mem 15 k ≤ 99))
theorem zcpy96 {f g : Int → Int} {i : Int} (h : 0 ≤ i ∧ i < 96) : zcpy f g 0 0 96 i = f i := by
  unfold zcpy
  rw [if_pos (by omega)]
  congr 1
  omega
theorem layS_st {L : zL} {ol ll : Int} (h : okC mem) : ∀ i, 0 ≤ i → i < 96 → -1 ≤ (layS mem ol ll L).1 i ∧ (layS mem ol ll L).1 i ≤ 7 := by
  intro i h1 h2
  show -1 ≤ zcpy (mem 11) L.1 0 0 96 i ∧ zcpy (mem 11) L.1 0 0 96 i ≤ 7
  rw [zcpy96 ⟨h1, h2⟩]
  exact h.2.2.1 i h1 h2
def dfI (P : Int) (df : Int → Int) : Prop := ∀ a b, 0 ≤ a → a < b → b < P → (1 ≤ df (a * 8 + b) ∧ df (a * 8 + b) ≤ 109) ∨ (-109 ≤ df (a * 8 + b) ∧ df (a * 8 + b) ≤ -1)
theorem efb_at {P : Int} {kind : Int → Int} (hP : P ≤ 8) {df : Int → Int} {a b : Int} (ha : 0 ≤ a) (hab : a < b) (hb : b < P) : efbS P kind df (a * 8 + b) = if kind a = 1 ∧ kind b ≠ 1 then -1 else 1 := by
  have fbv : ∀ df, fbS kind a b df = zupd df (a * 8 + b) (if kind a = 1 ∧ kind b ≠ 1 then -1 else 1) := fun _ => rfl
  generalize (if kind a = 1 ∧ kind b ≠ 1 then (-1 : Int) else 1) = v at fbv ⊢
  have inn : ∀ (k : Nat) (c b' : Int) (df : Int → Int), 0 ≤ c → c < b' → b' + k = P → (lp (fbS kind c) k b' df) (a * 8 + b) = if c = a ∧ b' ≤ b then v else df (a * 8 + b) := by
    intro k
    induction k with
    | zero =>
      intro c b' df h0 h1 h2
      rw [if_neg (by omega)]
      rfl
    | succ k ih =>
      intro c b' df h0 h1 h2
      rw [lp_s, ih c (b' + 1) _ h0 (by omega) (by omega)]
      by_cases hc : c = a
      · subst hc
        by_cases hb1 : b' + 1 ≤ b
        · rw [if_pos ⟨rfl, hb1⟩, if_pos ⟨rfl, by omega⟩]
        · rw [if_neg (by omega)]
          by_cases hb2 : b' = b
          · subst hb2
            rw [if_pos ⟨rfl, Int.le_refl _⟩, fbv, zupd_eq]
          · rw [if_neg (by omega), fbS, zupd_ne (by omega)]
      · rw [if_neg (by omega), if_neg (by omega), fbS, zupd_ne (by omega)]
  have out : ∀ (k : Nat) (c : Int) (df : Int → Int), 0 ≤ c → c + k = P → (lp (fbO P kind) k c df) (a * 8 + b) = if c ≤ a then v else df (a * 8 + b) := by
    intro k
    induction k with
    | zero =>
      intro c df h0 h1
      rw [if_neg (by omega)]
      rfl
    | succ k ih =>
      intro c df h0 h1
      rw [lp_s, ih (c + 1) _ (by omega) (by omega)]
      by_cases hc : c + 1 ≤ a
      · rw [if_pos hc, if_pos (by omega)]
      · rw [if_neg hc, fbO, inn _ c (c + 1) df h0 (by omega) (by omega)]
        by_cases hc2 : c = a
        · rw [if_pos ⟨hc2, by omega⟩, if_pos (by omega)]
        · rw [if_neg (by omega), if_neg (by omega)]
  have := out P.toNat 0 df (by omega) (by omega)
  rw [if_pos ha] at this
  exact this
theorem layS_df {L : zL} {ol ll : Int} (h : okC mem) : dfI (mem 5 4) (layS mem ol ll L).2.2 := by
  obtain ⟨⟨t1, t2, t3, t4, t5, t6⟩, ⟨p1, p2, p3⟩, -, ho⟩ := h
  have h0 : dfI (mem 5 4) (efbS (mem 5 4) (mem 6) L.2.2) := by
    intro a b ha hab hb
    rw [efb_at p2 ha hab hb]
    split <;> omega
  show dfI (mem 5 4) (lp (odS (mem 9) ol (mem 13) (mem 14) (mem 15)) (mem 12 3).toNat 0 (efbS (mem 5 4) (mem 6) L.2.2))
  refine lp_inv (I := dfI (mem 5 4)) _ _ _ (fun k df hk1 hk2 hd => ?_) h0
  unfold odS
  split
  · exact hd
  · have q1 := t6 k hk1 (by omega)
    have q2 := ho k hk1 (by omega)
    intro a b ha hab hb
    have pb := p3 b (by omega) hb
    have pa := p3 a ha (by omega)
    unfold eaS
    split
    · by_cases e : a * 8 + b = mem 13 k * 8 + mem 14 k
      · have e1 : a = mem 13 k ∧ b = mem 14 k := by omega
        rw [e, zupd_eq, ← e1.2]
        omega
      · rw [zupd_ne e]; exact hd a b ha hab hb
    · by_cases e : a * 8 + b = mem 14 k * 8 + mem 13 k
      · have e1 : a = mem 14 k ∧ b = mem 13 k := by omega
        rw [e, zupd_eq, ← e1.1]
        omega
      · rw [zupd_ne e]; exact hd a b ha hab hb
/-- the coast behind an hour, as told but for an old bow and some umbrellas -/
def simC (mem : zMem) (ol ll : Int) (n : Nat) (L : zL) (s : zS) : zS := walkS (mem 5 4) (mem 7) (mem 9) (layS mem ol ll L).1 (fun h => zor ((layS mem ol ll L).2.1 h) (mem 5 5)) n (begS (layS mem ol ll L).2.2 s.1 s.2.1)
theorem simB_inv {L : zL} {s : zS} {ol ll : Int} (h : okC mem) : sInv (mem 5 4) (begS (layS mem ol ll L).2.2 s.1 s.2.1) := begS_inv h.2.1.2.1 (layS_df h)
theorem simC_inv {L : zL} {s : zS} {ol ll : Int} {n : Nat} (h : okC mem) : sInv (mem 5 4) (simC mem ol ll n L s) := walkS_inv h.2.1 (simB_inv h)
theorem ct_Co_walkAsTold {L : zL} {s : zS} {h : Int} (hh : 0 ≤ h ∧ h ≤ 11) (hC : okC mem) : zCvp m_Co_walkAsTold [vr 24, vi h] (putC mem L s) (putC mem (layS mem (-1) 0 L) (simC mem (-1) 0 (h + 1).toNat L s)) := by
  obtain ⟨st, hd, df⟩ := L
  refine zCt.of [some (vr 24), some (vi h)] ok_Co_walkAsTold (Nat.le_of_ble_eq_true rfl) rfl ?_
  refine zw_aload_n ok_Co_walkAsTold rfl rfl ?_
  refine zw_iconst ok_Co_walkAsTold rfl ?_
  refine zw_iconst ok_Co_walkAsTold rfl ?_
  refine zw_Vvp ok_Co_walkAsTold rfl ok_Co_layOut lk_Co_42 (by decide) rfl rfl (Nat.le_of_ble_eq_true rfl) (ct_Co_layOut hC.1 (by omega)) ?_
  refine zw_aload_n ok_Co_walkAsTold rfl rfl ?_
  refine zw_Vvp ok_Co_walkAsTold rfl ok_Co_begin lk_Co_46 (by decide) rfl rfl (Nat.le_of_ble_eq_true rfl) (ct_Co_begin) ?_
  refine zw_aload_n ok_Co_walkAsTold rfl rfl ?_
  refine zw_iload_n ok_Co_walkAsTold rfl rfl ?_
  refine zw_Vvp ok_Co_walkAsTold rfl ok_Co_walkTo lk_Co_49 (by decide) rfl rfl (Nat.le_of_ble_eq_true rfl) (ct_Co_walkTo hC.2.1 rfl hh (layS_st (ol := -1) (ll := 0) (L := (st, hd, df)) hC) (simB_inv (ol := -1) (ll := 0) (L := (st, hd, df)) hC) ⟨Int.le_refl _, (show (-1 : Int) ≤ 11 by decide)⟩) ?_
  exact zw_vret ok_Co_walkAsTold rfl rfl (⟨rfl, rfl⟩)
/-- a season: n meetings by lot -/
def mayS (cl : Int) (a b : Int) (s : zS) : Bool := decide (a ≠ b ∧ (tb cl a.toNat = false ∧ tb s.2.2.1 a.toNat = false) ∧ (tb cl b.toNat = false ∧ tb s.2.2.1 b.toNat = false))
def lotS (P : Int) (can step : Int → Int) (cl : Int) : Nat → Int → zS → zS
  | 0, _, s => s
  | k + 1, x, s => lotS P can step cl k (1103515245 * (1103515245 * x + 12345) + 12345)
      (if mayS cl (zushr (1103515245 * x + 12345) 16 % P) (zushr (1103515245 * (1103515245 * x + 12345) + 12345) 16 % P) s = true then
        meetS can step (min (zushr (1103515245 * x + 12345) 16 % P) (zushr (1103515245 * (1103515245 * x + 12345) + 12345) 16 % P)) (max (zushr (1103515245 * x + 12345) 16 % P) (zushr (1103515245 * (1103515245 * x + 12345) + 12345) 16 % P)) s
      else s)
theorem zushr16 (x : Int) : 0 ≤ zushr x 16 ∧ zushr x 16 < 65536 := by
  have e : zushr x 16 = (((Int32.ofInt x).toUInt32.toNat / 65536 : Nat) : Int) := by
    unfold zushr
    generalize (Int32.ofInt x).toUInt32 = y
    have h1 : ((Int32.ofInt 16).toUInt32 &&& Int32.toUInt32 31) = 16 := by decide +kernel
    rw [h1]
    have h2 : (y >>> 16).toNat = y.toNat / 65536 := by
      rw [UInt32.toNat_shiftRight]
      show y.toNat >>> 16 = _
      rw [Nat.shiftRight_eq_div_pow]
    have h3 : (y >>> 16).toNat < 65536 := by rw [h2]; have := y.toNat_lt; omega
    rw [← h2]
    generalize y >>> 16 = w at h3
    have h5 : UInt32.ofNat w.toNat = w := by
      apply UInt32.toNat_inj.1
      exact Nat.mod_eq_of_lt w.toNat_lt
    have h4 : w.toInt32 = nI w.toNat := by
      have h6 : (UInt32.ofNat w.toNat).toInt32 = nI w.toNat := rfl
      rw [h5] at h6
      exact h6
    rw [h4, nI_toInt (by omega)]
  have := (Int32.ofInt x).toUInt32.toNat_lt
  omega
theorem lot_loop {P times : Int} {L : zL} (hC : okC mem) (eP : mem 5 4 = P) (hP0 : 0 < P) (ht : 0 ≤ times ∧ times ≤ 99) (sd : Int) :
    ∀ (k : Nat) (i x : Int) (s : zS), 0 ≤ i → i + k = times → sInv P s → Q none (putC mem L (lotS P (mem 7) (mem 9) (mem 5 5) k x s)) → AW m_Co_meetByLot 16 [some (vr 24), some (vi sd), some (vi times), some (vi x), some (vi i), none, none] [] (putC mem L s) Q := by
  have hP := hC.2.1
  have hP8 := hP.2.1
  rw [eP] at hP hP8
  intro k
  induction k with
  | zero =>
    intro i x s h0 hi hs hx
    refine zw_iload ok_Co_meetByLot rfl rfl ?_
    refine zw_iload_n ok_Co_meetByLot rfl rfl ?_
    refine zw_icmp_ge 93 ok_Co_meetByLot rfl (by decide) (by omega) (fun h19 => ?_) (fun h19 => ?_)
    · exact zw_vret ok_Co_meetByLot rfl rfl (hx)
    · exfalso; omega
  | succ k ih =>
    intro i x s h0 hi hs hx
    rw [lotS] at hx
    unfold mayS at hx
    have u1 := zushr16 (1103515245 * x + 12345)
    have u2 := zushr16 (1103515245 * (1103515245 * x + 12345) + 12345)
    have v1 := Int.emod_nonneg (zushr (1103515245 * x + 12345) 16) (show P ≠ 0 by omega)
    have v2 := Int.emod_lt_of_pos (zushr (1103515245 * x + 12345) 16) hP0
    have v3 := Int.emod_nonneg (zushr (1103515245 * (1103515245 * x + 12345) + 12345) 16) (show P ≠ 0 by omega)
    have v4 := Int.emod_lt_of_pos (zushr (1103515245 * (1103515245 * x + 12345) + 12345) 16) hP0
    refine zw_iload ok_Co_meetByLot rfl rfl ?_
    refine zw_iload_n ok_Co_meetByLot rfl rfl ?_
    refine zw_icmp_ge 93 ok_Co_meetByLot rfl (by decide) (by omega) (fun h19 => ?_) (fun h19 => ?_)
    · exfalso; omega
    · refine zw_ldc ok_Co_meetByLot rfl kc_Co_139 ?_
      refine zw_iload_n ok_Co_meetByLot rfl rfl ?_
      refine zw_imul ok_Co_meetByLot rfl ?_
      refine zw_sipush ok_Co_meetByLot rfl (by decide) ?_
      refine zw_iadd ok_Co_meetByLot rfl ?_
      refine zw_istore_n ok_Co_meetByLot rfl rfl (by decide) ?_
      refine zw_iload_n ok_Co_meetByLot rfl rfl ?_
      refine zw_bipush ok_Co_meetByLot rfl (by decide) ?_
      refine zw_iushr ok_Co_meetByLot rfl ?_
      refine zw_aload_n ok_Co_meetByLot rfl rfl ?_
      refine zw_getr ok_Co_meetByLot rfl fl_Co_27 rfl rfl ?_
      refine zw_geti ok_Co_meetByLot rfl fl_Co_90 rfl rfl ?_
      simp only [rd_C9, rd_C10, rd_C11, rd_C12, rd_C25, rd_C26, rd_C27, rd_C28, rd_C29, rd_C_0, rd_C_1, rd_C_2, rd_C_3, rd_C_4, rd_C_5, rd_C_6, rd_C_7, rd_C_8, rd_C_9, rd_C_10, rd_C_11, rd_C_12, rd_C_13, rd_C_14, rd_C_15, rd_C_16, rd_C_17, rd_C_18, rd_C_19, rd_C_20, rd_C_21, rd_C_22, rd_C_23, rd_C_30, rd_C_31, rd_C_32, rd_C_33, rd_C_34, rd_C_35, rd_C_36, rd_C_37, rd_C_38, rd_C_39, rd_C_40, rd_C_41, rd_C_42, rd_C_43, rd_C_44, rd_C_45, rd_C_46, rd_C_47, rd_C_48, rd_C_49, rd_C_50, rd_C_51, rd_C_52, rd_C_53, rd_C_54, rd_C_55, rd_C_56, rd_C_57, rd_C_58, rd_C_59, rd_C_60, rd_C_61, rd_C_62, rd_C_63, rd_C_64, rd_C_65, wr_C9, wr_C10, wr_C11, wr_C12, wr_C25, wr_C26, wr_C27, wr_C28, wr_C29, wp_C25, wp_C26, wp_C27, wp_C28, wp_C29, eP]
      refine zw_irem ok_Co_meetByLot rfl (by omega) ?_
      rw [zrem_nn (by omega) (by omega)]
      refine zw_istore ok_Co_meetByLot rfl rfl (by decide) ?_
      refine zw_ldc ok_Co_meetByLot rfl kc_Co_139 ?_
      refine zw_iload_n ok_Co_meetByLot rfl rfl ?_
      refine zw_imul ok_Co_meetByLot rfl ?_
      refine zw_sipush ok_Co_meetByLot rfl (by decide) ?_
      refine zw_iadd ok_Co_meetByLot rfl ?_
      refine zw_istore_n ok_Co_meetByLot rfl rfl (by decide) ?_
      refine zw_iload_n ok_Co_meetByLot rfl rfl ?_
      refine zw_bipush ok_Co_meetByLot rfl (by decide) ?_
      refine zw_iushr ok_Co_meetByLot rfl ?_
      refine zw_aload_n ok_Co_meetByLot rfl rfl ?_
      refine zw_getr ok_Co_meetByLot rfl fl_Co_27 rfl rfl ?_
      refine zw_geti ok_Co_meetByLot rfl fl_Co_90 rfl rfl ?_
      simp only [rd_C9, rd_C10, rd_C11, rd_C12, rd_C25, rd_C26, rd_C27, rd_C28, rd_C29, rd_C_0, rd_C_1, rd_C_2, rd_C_3, rd_C_4, rd_C_5, rd_C_6, rd_C_7, rd_C_8, rd_C_9, rd_C_10, rd_C_11, rd_C_12, rd_C_13, rd_C_14, rd_C_15, rd_C_16, rd_C_17, rd_C_18, rd_C_19, rd_C_20, rd_C_21, rd_C_22, rd_C_23, rd_C_30, rd_C_31, rd_C_32, rd_C_33, rd_C_34, rd_C_35, rd_C_36, rd_C_37, rd_C_38, rd_C_39, rd_C_40, rd_C_41, rd_C_42, rd_C_43, rd_C_44, rd_C_45, rd_C_46, rd_C_47, rd_C_48, rd_C_49, rd_C_50, rd_C_51, rd_C_52, rd_C_53, rd_C_54, rd_C_55, rd_C_56, rd_C_57, rd_C_58, rd_C_59, rd_C_60, rd_C_61, rd_C_62, rd_C_63, rd_C_64, rd_C_65, wr_C9, wr_C10, wr_C11, wr_C12, wr_C25, wr_C26, wr_C27, wr_C28, wr_C29, wp_C25, wp_C26, wp_C27, wp_C28, wp_C29, eP]
      refine zw_irem ok_Co_meetByLot rfl (by omega) ?_
      rw [zrem_nn (by omega) (by omega)]
      refine zw_istore ok_Co_meetByLot rfl rfl (by decide) ?_
      refine zw_aload_n ok_Co_meetByLot rfl rfl ?_
      refine zw_iload ok_Co_meetByLot rfl rfl ?_
      refine zw_iload ok_Co_meetByLot rfl rfl ?_
      refine zw_Vbp ok_Co_meetByLot rfl ok_Co_mayMeet lk_Co_140 (by decide) rfl rfl (Nat.le_of_ble_eq_true rfl) (ct_Co_mayMeet (by omega) (by omega)) ?_
      first | refine zw_ifeq_d 87 ok_Co_meetByLot rfl (by decide) (fun h76 => ?_) (fun h76 => ?_) | refine zw_ifeq_b 87 ok_Co_meetByLot rfl (by decide) (fun h76 => ?_) (fun h76 => ?_) | refine zw_if_eq 87 ok_Co_meetByLot rfl (by decide) (by omega) (fun h76 => ?_) (fun h76 => ?_)
      · refine zw_iinc ok_Co_meetByLot rfl rfl rfl (by decide) ?_
        refine zw_goto 16 ok_Co_meetByLot rfl (by decide) ?_
        refine zw_mask [true, true, true, true, true, false, false] rfl ?_
        first
          | (rw [if_neg (fun q => h76 (of_decide_eq_true q))] at hx; exact ih (i + 1) _ s (by omega) (by omega) hs hx)
          | (rw [if_pos (decide_eq_true h76)] at hx; exact ih (i + 1) _ _ (by omega) (by omega) (meetS_inv hP (by omega) (by have := h76.1; omega) (by omega) hs) hx)
      · refine zw_aload_n ok_Co_meetByLot rfl rfl ?_
        refine zw_iload ok_Co_meetByLot rfl rfl ?_
        refine zw_iload ok_Co_meetByLot rfl rfl ?_
        refine zw_Vvp ok_Co_meetByLot rfl ok_Co_meet lk_Co_117 (by decide) rfl rfl (Nat.le_of_ble_eq_true rfl) (ct_Co_meet hP ⟨v1, v2⟩ ⟨v3, v4⟩ h76.1 hs) ?_
        refine zw_iinc ok_Co_meetByLot rfl rfl rfl (by decide) ?_
        refine zw_goto 16 ok_Co_meetByLot rfl (by decide) ?_
        refine zw_mask [true, true, true, true, true, false, false] rfl ?_
        first
          | (rw [if_neg (fun q => h76 (of_decide_eq_true q))] at hx; exact ih (i + 1) _ s (by omega) (by omega) hs hx)
          | (rw [if_pos (decide_eq_true h76)] at hx; exact ih (i + 1) _ _ (by omega) (by omega) (meetS_inv hP (by omega) (by have := h76.1; omega) (by omega) hs) hx)
theorem ct_Co_meetByLot {L : zL} {s : zS} {x times : Int} (hC : okC mem) (ht : 0 ≤ times ∧ times ≤ 99) (hs : sInv (mem 5 4) s) : zCvp m_Co_meetByLot [vr 24, vi x, vi times] (putC mem L s) (putC mem L (if mem 5 4 = 0 then s else lotS (mem 5 4) (mem 7) (mem 9) (mem 5 5) times.toNat x s)) := by
  refine zCt.of [some (vr 24), some (vi x), some (vi times), none, none, none, none] ok_Co_meetByLot (Nat.le_of_ble_eq_true rfl) rfl ?_
  have hP1 := hC.2.1.1
  have hP2 := hC.2.1.2.1
  refine zw_aload_n ok_Co_meetByLot rfl rfl ?_
  refine zw_getr ok_Co_meetByLot rfl fl_Co_27 rfl rfl ?_
  refine zw_geti ok_Co_meetByLot rfl fl_Co_90 rfl rfl ?_
  try simp only [rd_C9, rd_C10, rd_C11, rd_C12, rd_C25, rd_C26, rd_C27, rd_C28, rd_C29, rd_C_0, rd_C_1, rd_C_2, rd_C_3, rd_C_4, rd_C_5, rd_C_6, rd_C_7, rd_C_8, rd_C_9, rd_C_10, rd_C_11, rd_C_12, rd_C_13, rd_C_14, rd_C_15, rd_C_16, rd_C_17, rd_C_18, rd_C_19, rd_C_20, rd_C_21, rd_C_22, rd_C_23, rd_C_30, rd_C_31, rd_C_32, rd_C_33, rd_C_34, rd_C_35, rd_C_36, rd_C_37, rd_C_38, rd_C_39, rd_C_40, rd_C_41, rd_C_42, rd_C_43, rd_C_44, rd_C_45, rd_C_46, rd_C_47, rd_C_48, rd_C_49, rd_C_50, rd_C_51, rd_C_52, rd_C_53, rd_C_54, rd_C_55, rd_C_56, rd_C_57, rd_C_58, rd_C_59, rd_C_60, rd_C_61, rd_C_62, rd_C_63, rd_C_64, rd_C_65, wr_C9, wr_C10, wr_C11, wr_C12, wr_C25, wr_C26, wr_C27, wr_C28, wr_C29, wp_C25, wp_C26, wp_C27, wp_C28, wp_C29]
  refine zw_if_ne 11 ok_Co_meetByLot rfl (by decide) (by omega) (fun h7 => ?_) (fun h7 => ?_)
  · refine zw_iload_n ok_Co_meetByLot rfl rfl ?_
    refine zw_istore_n ok_Co_meetByLot rfl rfl (by decide) ?_
    refine zw_iconst ok_Co_meetByLot rfl ?_
    refine zw_istore ok_Co_meetByLot rfl rfl (by decide) ?_
    refine lot_loop hC rfl (by omega) ht x times.toNat 0 x s (by omega) (by omega) hs ⟨rfl, ?_⟩
    rw [if_neg h7]
  · exact zw_vret ok_Co_meetByLot rfl rfl (⟨rfl, by rw [if_pos h7]⟩)
end
end
section
/-! ===== the hours as told: the same whatever lies outside ===== -/
theorem lp_rel {σ ρ : Type} {f : Int → σ → σ} {g : Int → ρ → ρ} {R : σ → ρ → Prop} : ∀ (k : Nat) (i : Int) (s : σ) (t : ρ), (∀ j s t, i ≤ j → j < i + k → R s t → R (f j s) (g j t)) → R s t → R (lp f k i s) (lp g k i t)
  | 0, _, _, _, _, h => h
  | k + 1, i, s, t, hf, h => lp_rel k (i + 1) (f i s) (g i t) (fun j s t h1 h2 => hf j s t (by omega) (by omega)) (hf i s t (by omega) (by omega) h)
def eqP (P : Int) (s t : zS) : Prop := (∀ a b, 0 ≤ a → a < b → b < P → s.1 (a * 8 + b) = t.1 (a * 8 + b)) ∧ (∀ p, 0 ≤ p → p < P → s.2.1 p = t.2.1 p) ∧ s.2.2 = t.2.2
theorem eqP.rf {P : Int} {s : zS} : eqP P s s := ⟨fun _ _ _ _ _ => rfl, fun _ _ _ => rfl, rfl⟩
theorem eqP.tr {P : Int} {s t u : zS} (h : eqP P s t) (h2 : eqP P t u) : eqP P s u := ⟨fun a b q1 q2 q3 => (h.1 a b q1 q2 q3).trans (h2.1 a b q1 q2 q3), fun p q1 q2 => (h.2.1 p q1 q2).trans (h2.2.1 p q1 q2), h.2.2.trans h2.2.2⟩
theorem eqP.sy {P : Int} {s t : zS} (h : eqP P s t) : eqP P t s := ⟨fun a b q1 q2 q3 => (h.1 a b q1 q2 q3).symm, fun p q1 q2 => (h.2.1 p q1 q2).symm, h.2.2.symm⟩
theorem eqP.inv {P : Int} {s t : zS} (h : eqP P s t) (hs : sInv P s) : sInv P t := by
  refine ⟨fun a b q1 q2 q3 => ?_, fun p q1 q2 => ?_, ?_⟩
  · rw [← h.1 a b q1 q2 q3]; exact hs.1 a b q1 q2 q3
  · rw [← h.2.1 p q1 q2]; exact hs.2.1 p q1 q2
  · rw [← h.2.2]; exact hs.2.2
theorem meetS_eq {P : Int} {can step can2 step2 : Int → Int} {a b : Int} {s t : zS} (hp : ∀ p, 0 ≤ p → p < P → can p = can2 p ∧ step p = step2 p) (ha : 0 ≤ a) (hab : a < b) (hb : b < P) (h : eqP P s t) : eqP P (meetS can step a b s) (meetS can2 step2 a b t) := by
  obtain ⟨d, l, g, n, fh, fw⟩ := s
  obtain ⟨d2, l2, x⟩ := t
  obtain ⟨h1, h2, h3⟩ := h
  dsimp only at h1 h2 h3
  subst h3
  have e := h1 a b ha hab hb
  have pa := hp a ha (by omega)
  have pb := hp b (by omega) hb
  have la := h2 a ha (by omega)
  have lb := h2 b (by omega) hb
  have hw : can (if d2 (a * 8 + b) ≤ 0 then b else a) = can2 (if d2 (a * 8 + b) ≤ 0 then b else a) := by split <;> simp [pa, pb]
  have hl : l (if d2 (a * 8 + b) ≤ 0 then b else a) = l2 (if d2 (a * 8 + b) ≤ 0 then b else a) := by split <;> simp [la, lb]
  unfold meetS
  dsimp only
  simp only [e, hw, hl]
  by_cases hcd : zabs (d2 (a * 8 + b)) ≤ can2 (if d2 (a * 8 + b) ≤ 0 then b else a)
  · rw [if_pos hcd, if_pos hcd]
    refine ⟨fun a' b' q1 q2 q3 => ?_, fun p q1 q2 => ?_, rfl⟩
    · dsimp only
      by_cases hq : a' * 8 + b' = a * 8 + b
      · rw [hq, zupd_eq, zupd_eq, pa.2, pb.2]
      · rw [zupd_ne hq, zupd_ne hq]; exact h1 a' b' q1 q2 q3
    · dsimp only
      by_cases hq : p = (if d2 (a * 8 + b) ≤ 0 then b else a)
      · rw [← hq, zupd_eq, zupd_eq]
      · rw [zupd_ne hq, zupd_ne hq]; exact h2 p q1 q2
  · rw [if_neg hcd, if_neg hcd]
    exact ⟨h1, h2, rfl⟩
/-! the hours over streets and who is not seen -/
def tIn (can step : Int → Int) (sr : Int → Int → Int) (hid : Int → Int → Bool) (h a b : Int) (s : zS) : zS := if sr h b = sr h a ∧ (hid h a = false ∧ tb s.2.2.1 a.toNat = false) ∧ (hid h b = false ∧ tb s.2.2.1 b.toNat = false) then meetS can step a b s else s
def tOut (P : Int) (can step : Int → Int) (sr : Int → Int → Int) (hid : Int → Int → Bool) (h a : Int) (s : zS) : zS := if sr h a = -1 then s else lp (tIn can step sr hid h a) (P - (a + 1)).toNat (a + 1) s
def tHour (P : Int) (can step : Int → Int) (sr : Int → Int → Int) (hid : Int → Int → Bool) (h : Int) (s : zS) : zS := endS h (lp (tOut P can step sr hid h) P.toNat 0 s)
def tWalk (P : Int) (can step : Int → Int) (sr : Int → Int → Int) (hid : Int → Int → Bool) (n : Nat) (s : zS) : zS := lp (tHour P can step sr hid) n 0 s
def tTill (P : Int) (can step : Int → Int) (sr : Int → Int → Int) (hid : Int → Int → Bool) : Nat → Int → zS → zS
  | 0, _, s => s
  | k + 1, h, s => if s.2.2.1 ≠ 0 then s else tTill P can step sr hid k (h + 1) (tHour P can step sr hid h s)
def beg0 (df : Int → Int) : zS := (df, fun _ => 0, 0, 0, -1, -1)
def pEq (P : Int) (can step st un can2 step2 : Int → Int) (sr : Int → Int → Int) (hid : Int → Int → Bool) : Prop :=
  (∀ p, 0 ≤ p → p < P → can p = can2 p ∧ step p = step2 p) ∧ (∀ h p, 0 ≤ h → h < 12 → 0 ≤ p → p < P → st (h * 8 + p) = sr h p) ∧ (∀ h p, 0 ≤ h → h < 12 → 0 ≤ p → p < P → tb (un h) p.toNat = hid h p)
section
variable {P : Int} {can step st un can2 step2 : Int → Int} {sr : Int → Int → Int} {hid : Int → Int → Bool}
theorem in_t {h a b : Int} {s t : zS} (hq : pEq P can step st un can2 step2 sr hid) (hh : 0 ≤ h ∧ h < 12) (ha : 0 ≤ a) (hab : a < b) (hb : b < P) (he : eqP P s t) : eqP P (inS can step st (un h) (h * 8) a b s) (tIn can2 step2 sr hid h a b t) := by
  have e1 := hq.2.1 h a hh.1 hh.2 ha (by omega)
  have e2 := hq.2.1 h b hh.1 hh.2 (by omega) hb
  have e3 := hq.2.2 h a hh.1 hh.2 ha (by omega)
  have e4 := hq.2.2 h b hh.1 hh.2 (by omega) hb
  have eg : s.2.2.1 = t.2.2.1 := by rw [he.2.2]
  unfold inS tIn
  rw [e1, e2, tb_or, tb_or, e3, e4, eg]
  by_cases hc : sr h b = sr h a ∧ (hid h a = false ∧ tb t.2.2.1 a.toNat = false) ∧ (hid h b = false ∧ tb t.2.2.1 b.toNat = false)
  · rw [if_pos hc, if_pos (by simp [hc])]
    exact meetS_eq hq.1 ha hab hb he
  · rw [if_neg hc, if_neg (by simpa using hc)]
    exact he
theorem out_t {h a : Int} {s t : zS} (hq : pEq P can step st un can2 step2 sr hid) (hh : 0 ≤ h ∧ h < 12) (ha : 0 ≤ a) (haP : a < P) (he : eqP P s t) : eqP P (outS P can step st (un h) (h * 8) a s) (tOut P can2 step2 sr hid h a t) := by
  have e1 := hq.2.1 h a hh.1 hh.2 ha haP
  unfold outS tOut
  rw [e1]
  split
  · exact he
  · exact lp_rel (R := eqP P) _ _ _ _ (fun j s t h1 h2 he => in_t hq hh ha (by omega) (by omega) he) he
theorem end_t {h : Int} {s t : zS} (he : eqP P s t) : eqP P (endS h s) (endS h t) := by
  have eg := he.2.2
  unfold endS
  rw [eg]
  split
  · exact he
  · split
    · exact he
    · exact ⟨he.1, he.2.1, rfl⟩
theorem hour_t {h : Int} {s t : zS} (hq : pEq P can step st un can2 step2 sr hid) (hP : 0 ≤ P) (hh : 0 ≤ h ∧ h < 12) (he : eqP P s t) : eqP P (hourS P can step st un h s) (tHour P can2 step2 sr hid h t) :=
  end_t (lp_rel (R := eqP P) _ _ _ _ (fun j s t h1 h2 he => out_t hq hh h1 (by omega) he) he)
theorem walk_t {n : Nat} {s t : zS} (hq : pEq P can step st un can2 step2 sr hid) (hP : 0 ≤ P) (hn : n ≤ 12) (he : eqP P s t) : eqP P (walkS P can step st un n s) (tWalk P can2 step2 sr hid n t) :=
  lp_rel (R := eqP P) _ _ _ _ (fun j s t h1 h2 he => hour_t hq hP ⟨h1, by omega⟩ he) he
theorem till_t (hq : pEq P can step st un can2 step2 sr hid) (hP : 0 ≤ P) : ∀ (k : Nat) (h : Int) (s t : zS), 0 ≤ h → h + k ≤ 12 → eqP P s t → eqP P (tillS P can step st un k h s) (tTill P can2 step2 sr hid k h t)
  | 0, _, _, _, _, _, he => he
  | k + 1, h, s, t, h0, hk, he => by
    unfold tillS tTill
    rw [he.2.2]
    split
    · exact he
    · exact till_t hq hP k (h + 1) _ _ (by omega) (by omega) (hour_t hq hP ⟨h0, by omega⟩ he)
theorem begS_eq {df df2 d l : Int → Int} (hP : P ≤ 8) (h : ∀ a b, 0 ≤ a → a < b → b < P → df (a * 8 + b) = df2 (a * 8 + b)) : eqP P (begS df d l) (beg0 df2) := by
  refine ⟨fun a b h1 h2 h3 => ?_, fun p h1 h2 => ?_, rfl⟩
  · show zcpy df d 0 0 64 (a * 8 + b) = df2 (a * 8 + b)
    unfold zcpy
    rw [if_pos (by omega), ← h a b h1 h2 h3]
    congr 1
    omega
  · show zfil 8 0 l p = 0
    unfold zfil
    rw [if_pos (by omega)]
theorem lot_eq {cl cl2 : Int} (hP : 0 < P) (hp : ∀ p, 0 ≤ p → p < P → can p = can2 p ∧ step p = step2 p) (hc : ∀ p, 0 ≤ p → p < P → tb cl p.toNat = tb cl2 p.toNat) : ∀ (k : Nat) (x : Int) (s t : zS), eqP P s t → eqP P (lotS P can step cl k x s) (lotS P can2 step2 cl2 k x t)
  | 0, _, _, _, he => he
  | k + 1, x, s, t, he => by
    unfold lotS
    refine lot_eq hP hp hc k _ _ _ ?_
    have v1 := Int.emod_nonneg (zushr (1103515245 * x + 12345) 16) (show P ≠ 0 by omega)
    have v2 := Int.emod_lt_of_pos (zushr (1103515245 * x + 12345) 16) hP
    have v3 := Int.emod_nonneg (zushr (1103515245 * (1103515245 * x + 12345) + 12345) 16) (show P ≠ 0 by omega)
    have v4 := Int.emod_lt_of_pos (zushr (1103515245 * (1103515245 * x + 12345) + 12345) 16) hP
    generalize zushr (1103515245 * x + 12345) 16 % P = a at v1 v2 ⊢
    generalize zushr (1103515245 * (1103515245 * x + 12345) + 12345) 16 % P = b at v3 v4 ⊢
    have em : mayS cl a b s = mayS cl2 a b t := by
      unfold mayS
      rw [hc a v1 v2, hc b v3 v4, he.2.2]
    rw [em]
    split
    · rename_i hm
      have hab : a ≠ b := by unfold mayS at hm; exact (of_decide_eq_true hm).1
      exact meetS_eq hp (by omega) (by omega) (by omega) he
    · exact he
end
end
section
/-! ===== ShadePlan ===== -/
theorem wrC_out {mem : zMem} {L : zL} {s : zS} {k : Nat} {i v : Int} (h : k < 24 ∨ 29 < k) : zset (putC mem L s) k i v = putC (zset mem k i v) L s := by
  refine putC_cases (fun q hq => ?_) ?_ ?_ ?_ ?_ ?_ ?_
  · rw [putC_ne hq]
    by_cases e : q = k
    · subst e; rw [zset_eq, zset_eq, putC_ne hq]
    · rw [zset_ne e, zset_ne e, putC_ne hq]
  · rw [zset_ne (by omega)]
    show cRow (mem 24) s = cRow (zset mem k i v 24) s
    rw [zset_ne (by omega)]
  all_goals (rw [zset_ne (by omega)]; rfl)
def tog (hd : Int → Int) (u : Int) : Int → Int := zupd hd (u / 8) (zxor (hd (u / 8)) (zshl 1 (u % 8)))
theorem zxor_2 {x y : Int} (h : -2147483648 ≤ x ∧ x < 2147483648) : zxor (zxor x y) y = x := by
  apply tb_ext (zR_xor _ _) h
  intro i _
  rw [tb_xor, tb_xor]
  cases tb x i <;> cases tb y i <;> rfl
theorem tog_2 {hd : Int → Int} {u : Int} (h : -2147483648 ≤ hd (u / 8) ∧ hd (u / 8) < 2147483648) : tog (tog hd u) u = hd := by
  unfold tog
  rw [zupd_eq, zxor_2 h]
  funext j
  simp only [zupd]
  split
  · rename_i e; rw [e]
  · rfl
theorem tog_R {hd : Int → Int} {u h : Int} (hr : -2147483648 ≤ hd h ∧ hd h < 2147483648) : -2147483648 ≤ tog hd u h ∧ tog hd u h < 2147483648 := by
  unfold tog
  by_cases e : h = u / 8
  · subst e; rw [zupd_eq]; exact zR_xor _ _
  · rw [zupd_ne e]; exact hr
theorem till_self {P : Int} {can step st un : Int → Int} {s t : zS} (hP : 0 ≤ P) (he : eqP P s t) : eqP P (tillS P can step st un 12 0 s) (tillS P can step st un 12 0 t) := by
  have pe : pEq P can step st un can step (fun h p => st (h * 8 + p)) (fun h p => tb (un h) p.toNat) := ⟨fun _ _ _ => ⟨rfl, rfl⟩, fun _ _ _ _ _ _ => rfl, fun _ _ _ _ _ _ => rfl⟩
  exact (till_t pe hP 12 0 s t (by omega) (by omega) he).tr (till_t pe hP 12 0 t t (by omega) (by omega) eqP.rf).sy
/-- the hour in which one is gone first, on this layout -/
def fhC (mem : zMem) (st hd df : Int → Int) : Int := (tillS (mem 5 4) (mem 7) (mem 9) st (fun h => zor (hd h) (mem 5 5)) 12 0 (beg0 df)).2.2.2.2.1
theorem fhC_eq {mem : zMem} {st hd df d l : Int → Int} (hC : okC mem) : (tillS (mem 5 4) (mem 7) (mem 9) st (fun h => zor (hd h) (mem 5 5)) 12 0 (begS df d l)).2.2.2.2.1 = fhC mem st hd df := by
  have h := till_self (can := mem 7) (step := mem 9) (st := st) (un := fun h => zor (hd h) (mem 5 5)) hC.2.1.1 (begS_eq (df := df) (df2 := df) (d := d) (l := l) hC.2.1.2.1 (fun _ _ _ _ _ => rfl))
  rw [h.2.2]
  rfl
theorem till_fh {P : Int} {can step st un : Int → Int} : ∀ (k : Nat) (h : Int) (s : zS), 0 ≤ h → h + k ≤ 12 → (-1 ≤ s.2.2.2.2.1 ∧ s.2.2.2.2.1 ≤ 11) → -1 ≤ (tillS P can step st un k h s).2.2.2.2.1 ∧ (tillS P can step st un k h s).2.2.2.2.1 ≤ 11
  | 0, _, _, _, _, hf => hf
  | k + 1, h, s, h0, hk, hf => by
    unfold tillS
    split
    · exact hf
    · exact till_fh k (h + 1) _ (by omega) (by omega) (hourS_fh (by omega) hf)
theorem fhC_r {mem : zMem} {st hd df : Int → Int} : -1 ≤ fhC mem st hd df ∧ fhC mem st hd df ≤ 11 := till_fh 12 0 _ (by omega) (by omega) ⟨Int.le_refl _, (show (-1 : Int) ≤ 11 by decide)⟩
def wrth (mem : zMem) (st hd : Int → Int) (u : Int) : Bool := decide (u % 8 < mem 5 4 ∧ st u ≠ -1 ∧ tb (zor (hd (u / 8)) (mem 5 5)) (u % 8).toNat = false)
def nthS (mem : zMem) (st hd df : Int → Int) : Nat → Int → Int
  | 0, _ => -1
  | k + 1, u => if wrth mem st hd u = true ∧ fhC mem st (tog hd u) df = -1 then u else nthS mem st hd df k (u + 1)
theorem nthS_r {mem : zMem} {st hd df : Int → Int} : ∀ (k : Nat) (u : Int), 0 ≤ u → -1 ≤ nthS mem st hd df k u ∧ nthS mem st hd df k u < u + k
  | 0, u, h => by unfold nthS; omega
  | k + 1, u, h => by
    unfold nthS
    split
    · omega
    · have := nthS_r (mem := mem) (st := st) (hd := hd) (df := df) k (u + 1) (by omega)
      omega
section
variable {mem : zMem} {st hd df : Int → Int} {s : zS} {Q : Option zVal → zMem → Prop}
theorem ct_Sh_toggle {u : Int} (hu : 0 ≤ u ∧ u < 96) : zCvp m_Sh_toggle [vr 30, vi u] (putC mem (st, hd, df) s) (putC mem (st, tog hd u, df) s) := by
  refine zCt.of [some (vr 30), some (vi u)] ok_Sh_toggle (Nat.le_of_ble_eq_true rfl) rfl ?_
  refine zw_aload_n ok_Sh_toggle rfl rfl ?_
  refine zw_getr ok_Sh_toggle rfl fl_Sh_15 rfl rfl ?_
  refine zw_getr ok_Sh_toggle rfl fl_Sh_51 rfl rfl ?_
  refine zw_iload_n ok_Sh_toggle rfl rfl ?_
  refine zw_bipush ok_Sh_toggle rfl (by decide) ?_
  refine zw_idiv ok_Sh_toggle rfl (by omega) ?_
  rw [zdiv_nn (by omega) (by omega)]
  refine zw_dup2 ok_Sh_toggle rfl ?_
  refine zw_iald ok_Sh_toggle rfl rfl (by omega) ?_
  try simp only [rd_C9, rd_C10, rd_C11, rd_C12, rd_C25, rd_C26, rd_C27, rd_C28, rd_C29, rd_C_0, rd_C_1, rd_C_2, rd_C_3, rd_C_4, rd_C_5, rd_C_6, rd_C_7, rd_C_8, rd_C_9, rd_C_10, rd_C_11, rd_C_12, rd_C_13, rd_C_14, rd_C_15, rd_C_16, rd_C_17, rd_C_18, rd_C_19, rd_C_20, rd_C_21, rd_C_22, rd_C_23, rd_C_30, rd_C_31, rd_C_32, rd_C_33, rd_C_34, rd_C_35, rd_C_36, rd_C_37, rd_C_38, rd_C_39, rd_C_40, rd_C_41, rd_C_42, rd_C_43, rd_C_44, rd_C_45, rd_C_46, rd_C_47, rd_C_48, rd_C_49, rd_C_50, rd_C_51, rd_C_52, rd_C_53, rd_C_54, rd_C_55, rd_C_56, rd_C_57, rd_C_58, rd_C_59, rd_C_60, rd_C_61, rd_C_62, rd_C_63, rd_C_64, rd_C_65, wr_C9, wr_C10, wr_C11, wr_C12, wr_C25, wr_C26, wr_C27, wr_C28, wr_C29, wp_C25, wp_C26, wp_C27, wp_C28, wp_C29]
  refine zw_iconst ok_Sh_toggle rfl ?_
  refine zw_iload_n ok_Sh_toggle rfl rfl ?_
  refine zw_bipush ok_Sh_toggle rfl (by decide) ?_
  refine zw_irem ok_Sh_toggle rfl (by omega) ?_
  rw [zrem_nn (by omega) (by omega)]
  refine zw_ishl ok_Sh_toggle rfl ?_
  refine zw_ixor ok_Sh_toggle rfl ?_
  refine zw_iast ok_Sh_toggle rfl rfl (by omega) ?_
  try simp only [rd_C9, rd_C10, rd_C11, rd_C12, rd_C25, rd_C26, rd_C27, rd_C28, rd_C29, rd_C_0, rd_C_1, rd_C_2, rd_C_3, rd_C_4, rd_C_5, rd_C_6, rd_C_7, rd_C_8, rd_C_9, rd_C_10, rd_C_11, rd_C_12, rd_C_13, rd_C_14, rd_C_15, rd_C_16, rd_C_17, rd_C_18, rd_C_19, rd_C_20, rd_C_21, rd_C_22, rd_C_23, rd_C_30, rd_C_31, rd_C_32, rd_C_33, rd_C_34, rd_C_35, rd_C_36, rd_C_37, rd_C_38, rd_C_39, rd_C_40, rd_C_41, rd_C_42, rd_C_43, rd_C_44, rd_C_45, rd_C_46, rd_C_47, rd_C_48, rd_C_49, rd_C_50, rd_C_51, rd_C_52, rd_C_53, rd_C_54, rd_C_55, rd_C_56, rd_C_57, rd_C_58, rd_C_59, rd_C_60, rd_C_61, rd_C_62, rd_C_63, rd_C_64, rd_C_65, wr_C9, wr_C10, wr_C11, wr_C12, wr_C25, wr_C26, wr_C27, wr_C28, wr_C29, wp_C25, wp_C26, wp_C27, wp_C28, wp_C29]
  exact zw_vret ok_Sh_toggle rfl rfl (⟨rfl, rfl⟩)
theorem ct_Sh_isWorthHiding {u : Int} (hu : 0 ≤ u ∧ u < 96) (hP : 0 ≤ mem 5 4 ∧ mem 5 4 ≤ 8) (hst : -1 ≤ st u ∧ st u ≤ 7) : zCbp m_Sh_isWorthHiding [vr 30, vi u] (putC mem (st, hd, df) s) (wrth mem st hd u) := by
  refine zCt.of [some (vr 30), some (vi u), none, none] ok_Sh_isWorthHiding (Nat.le_of_ble_eq_true rfl) rfl ?_
  unfold wrth
  refine zw_aload_n ok_Sh_isWorthHiding rfl rfl ?_
  refine zw_getr ok_Sh_isWorthHiding rfl fl_Sh_15 rfl rfl ?_
  refine zw_getr ok_Sh_isWorthHiding rfl fl_Sh_51 rfl rfl ?_
  refine zw_iload_n ok_Sh_isWorthHiding rfl rfl ?_
  refine zw_bipush ok_Sh_isWorthHiding rfl (by decide) ?_
  refine zw_idiv ok_Sh_isWorthHiding rfl (by omega) ?_
  rw [zdiv_nn (by omega) (by omega)]
  refine zw_iald ok_Sh_isWorthHiding rfl rfl (by omega) ?_
  try simp only [rd_C9, rd_C10, rd_C11, rd_C12, rd_C25, rd_C26, rd_C27, rd_C28, rd_C29, rd_C_0, rd_C_1, rd_C_2, rd_C_3, rd_C_4, rd_C_5, rd_C_6, rd_C_7, rd_C_8, rd_C_9, rd_C_10, rd_C_11, rd_C_12, rd_C_13, rd_C_14, rd_C_15, rd_C_16, rd_C_17, rd_C_18, rd_C_19, rd_C_20, rd_C_21, rd_C_22, rd_C_23, rd_C_30, rd_C_31, rd_C_32, rd_C_33, rd_C_34, rd_C_35, rd_C_36, rd_C_37, rd_C_38, rd_C_39, rd_C_40, rd_C_41, rd_C_42, rd_C_43, rd_C_44, rd_C_45, rd_C_46, rd_C_47, rd_C_48, rd_C_49, rd_C_50, rd_C_51, rd_C_52, rd_C_53, rd_C_54, rd_C_55, rd_C_56, rd_C_57, rd_C_58, rd_C_59, rd_C_60, rd_C_61, rd_C_62, rd_C_63, rd_C_64, rd_C_65, wr_C9, wr_C10, wr_C11, wr_C12, wr_C25, wr_C26, wr_C27, wr_C28, wr_C29, wp_C25, wp_C26, wp_C27, wp_C28, wp_C29]
  refine zw_aload_n ok_Sh_isWorthHiding rfl rfl ?_
  refine zw_getr ok_Sh_isWorthHiding rfl fl_Sh_15 rfl rfl ?_
  refine zw_getr ok_Sh_isWorthHiding rfl fl_Sh_54 rfl rfl ?_
  refine zw_geti ok_Sh_isWorthHiding rfl fl_Sh_58 rfl rfl ?_
  try simp only [rd_C9, rd_C10, rd_C11, rd_C12, rd_C25, rd_C26, rd_C27, rd_C28, rd_C29, rd_C_0, rd_C_1, rd_C_2, rd_C_3, rd_C_4, rd_C_5, rd_C_6, rd_C_7, rd_C_8, rd_C_9, rd_C_10, rd_C_11, rd_C_12, rd_C_13, rd_C_14, rd_C_15, rd_C_16, rd_C_17, rd_C_18, rd_C_19, rd_C_20, rd_C_21, rd_C_22, rd_C_23, rd_C_30, rd_C_31, rd_C_32, rd_C_33, rd_C_34, rd_C_35, rd_C_36, rd_C_37, rd_C_38, rd_C_39, rd_C_40, rd_C_41, rd_C_42, rd_C_43, rd_C_44, rd_C_45, rd_C_46, rd_C_47, rd_C_48, rd_C_49, rd_C_50, rd_C_51, rd_C_52, rd_C_53, rd_C_54, rd_C_55, rd_C_56, rd_C_57, rd_C_58, rd_C_59, rd_C_60, rd_C_61, rd_C_62, rd_C_63, rd_C_64, rd_C_65, wr_C9, wr_C10, wr_C11, wr_C12, wr_C25, wr_C26, wr_C27, wr_C28, wr_C29, wp_C25, wp_C26, wp_C27, wp_C28, wp_C29]
  refine zw_ior ok_Sh_isWorthHiding rfl ?_
  refine zw_istore_n ok_Sh_isWorthHiding rfl rfl (by decide) ?_
  refine zw_iload_n ok_Sh_isWorthHiding rfl rfl ?_
  refine zw_bipush ok_Sh_isWorthHiding rfl (by decide) ?_
  refine zw_irem ok_Sh_isWorthHiding rfl (by omega) ?_
  rw [zrem_nn (by omega) (by omega)]
  refine zw_istore_n ok_Sh_isWorthHiding rfl rfl (by decide) ?_
  refine zw_iload_n ok_Sh_isWorthHiding rfl rfl ?_
  refine zw_aload_n ok_Sh_isWorthHiding rfl rfl ?_
  refine zw_getr ok_Sh_isWorthHiding rfl fl_Sh_15 rfl rfl ?_
  refine zw_getr ok_Sh_isWorthHiding rfl fl_Sh_54 rfl rfl ?_
  refine zw_geti ok_Sh_isWorthHiding rfl fl_Sh_63 rfl rfl ?_
  try simp only [rd_C9, rd_C10, rd_C11, rd_C12, rd_C25, rd_C26, rd_C27, rd_C28, rd_C29, rd_C_0, rd_C_1, rd_C_2, rd_C_3, rd_C_4, rd_C_5, rd_C_6, rd_C_7, rd_C_8, rd_C_9, rd_C_10, rd_C_11, rd_C_12, rd_C_13, rd_C_14, rd_C_15, rd_C_16, rd_C_17, rd_C_18, rd_C_19, rd_C_20, rd_C_21, rd_C_22, rd_C_23, rd_C_30, rd_C_31, rd_C_32, rd_C_33, rd_C_34, rd_C_35, rd_C_36, rd_C_37, rd_C_38, rd_C_39, rd_C_40, rd_C_41, rd_C_42, rd_C_43, rd_C_44, rd_C_45, rd_C_46, rd_C_47, rd_C_48, rd_C_49, rd_C_50, rd_C_51, rd_C_52, rd_C_53, rd_C_54, rd_C_55, rd_C_56, rd_C_57, rd_C_58, rd_C_59, rd_C_60, rd_C_61, rd_C_62, rd_C_63, rd_C_64, rd_C_65, wr_C9, wr_C10, wr_C11, wr_C12, wr_C25, wr_C26, wr_C27, wr_C28, wr_C29, wp_C25, wp_C26, wp_C27, wp_C28, wp_C29]
  refine zw_icmp_ge 68 ok_Sh_isWorthHiding rfl (by decide) (by omega) (fun h40 => ?_) (fun h40 => ?_)
  · refine zw_iconst ok_Sh_isWorthHiding rfl ?_
    exact zw_zret ok_Sh_isWorthHiding rfl rfl (by first | exact Or.inl rfl | exact Or.inr rfl | exact bi01 _) (⟨by refine congrArg (fun z => some (vi z)) ?_; first | exact (bi_f (fun q => by omega)).symm | exact (bi_t ⟨by omega, h53, h61⟩).symm | exact (bi_f (fun q => h61 q.2.2)).symm, rfl⟩)
  · refine zw_aload_n ok_Sh_isWorthHiding rfl rfl ?_
    refine zw_getr ok_Sh_isWorthHiding rfl fl_Sh_15 rfl rfl ?_
    refine zw_getr ok_Sh_isWorthHiding rfl fl_Sh_64 rfl rfl ?_
    refine zw_iload_n ok_Sh_isWorthHiding rfl rfl ?_
    refine zw_iald ok_Sh_isWorthHiding rfl rfl (by omega) ?_
    try simp only [rd_C9, rd_C10, rd_C11, rd_C12, rd_C25, rd_C26, rd_C27, rd_C28, rd_C29, rd_C_0, rd_C_1, rd_C_2, rd_C_3, rd_C_4, rd_C_5, rd_C_6, rd_C_7, rd_C_8, rd_C_9, rd_C_10, rd_C_11, rd_C_12, rd_C_13, rd_C_14, rd_C_15, rd_C_16, rd_C_17, rd_C_18, rd_C_19, rd_C_20, rd_C_21, rd_C_22, rd_C_23, rd_C_30, rd_C_31, rd_C_32, rd_C_33, rd_C_34, rd_C_35, rd_C_36, rd_C_37, rd_C_38, rd_C_39, rd_C_40, rd_C_41, rd_C_42, rd_C_43, rd_C_44, rd_C_45, rd_C_46, rd_C_47, rd_C_48, rd_C_49, rd_C_50, rd_C_51, rd_C_52, rd_C_53, rd_C_54, rd_C_55, rd_C_56, rd_C_57, rd_C_58, rd_C_59, rd_C_60, rd_C_61, rd_C_62, rd_C_63, rd_C_64, rd_C_65, wr_C9, wr_C10, wr_C11, wr_C12, wr_C25, wr_C26, wr_C27, wr_C28, wr_C29, wp_C25, wp_C26, wp_C27, wp_C28, wp_C29]
    refine zw_iconst ok_Sh_isWorthHiding rfl ?_
    refine zw_icmp_eq 68 ok_Sh_isWorthHiding rfl (by decide) (by omega) (fun h53 => ?_) (fun h53 => ?_)
    · refine zw_iconst ok_Sh_isWorthHiding rfl ?_
      exact zw_zret ok_Sh_isWorthHiding rfl rfl (by first | exact Or.inl rfl | exact Or.inr rfl | exact bi01 _) (⟨by refine congrArg (fun z => some (vi z)) ?_; first | exact (bi_f (fun q => by omega)).symm | exact (bi_t ⟨by omega, h53, h61⟩).symm | exact (bi_f (fun q => h61 q.2.2)).symm, rfl⟩)
    · refine zw_iload_n ok_Sh_isWorthHiding rfl rfl ?_
      refine zw_iload_n ok_Sh_isWorthHiding rfl rfl ?_
      refine zw_ishr ok_Sh_isWorthHiding rfl ?_
      refine zw_iconst ok_Sh_isWorthHiding rfl ?_
      refine zw_iand ok_Sh_isWorthHiding rfl ?_
      refine zw_if_ne 68 ok_Sh_isWorthHiding rfl (by decide) (zR_and _ _) (fun h61 => ?_) (fun h61 => ?_)
      · rw [tb_ask0 _ (by omega)] at h61
        refine zw_iconst ok_Sh_isWorthHiding rfl ?_
        exact zw_zret ok_Sh_isWorthHiding rfl rfl (by first | exact Or.inl rfl | exact Or.inr rfl | exact bi01 _) (⟨by refine congrArg (fun z => some (vi z)) ?_; first | exact (bi_f (fun q => by omega)).symm | exact (bi_t ⟨by omega, h53, h61⟩).symm | exact (bi_f (fun q => h61 q.2.2)).symm, rfl⟩)
      · rw [tb_ask0 _ (by omega)] at h61
        refine zw_iconst ok_Sh_isWorthHiding rfl ?_
        refine zw_goto 69 ok_Sh_isWorthHiding rfl (by decide) ?_
        exact zw_zret ok_Sh_isWorthHiding rfl rfl (by first | exact Or.inl rfl | exact Or.inr rfl | exact bi01 _) (⟨by refine congrArg (fun z => some (vi z)) ?_; first | exact (bi_f (fun q => by omega)).symm | exact (bi_t ⟨by omega, h53, h61⟩).symm | exact (bi_f (fun q => h61 q.2.2)).symm, rfl⟩)
theorem nth_loop {fr la : Int} (hC : okC mem) (hst : ∀ i, 0 ≤ i → i < 96 → -1 ≤ st i ∧ st i ≤ 7) (hdf : dfI (mem 5 4) df) (hR : ∀ h, 0 ≤ h → h < 12 → -2147483648 ≤ hd h ∧ hd h < 2147483648) (hla : -1 ≤ la ∧ la ≤ 11) :
    ∀ (k : Nat) (u : Int) (s : zS), 0 ≤ u → (u + k = 8 * (la + 1) ∨ (k = 0 ∧ 8 * (la + 1) ≤ u)) → u ≤ 96 → (∀ s2, Q (some (vi (nthS mem st hd df k u))) (putC mem (st, hd, df) s2)) → AW m_Sh_numberThatHelps 10 [some (vr 30), some (vi fr), some (vi la), some (vi (8 * (la + 1))), some (vi u), none] [] (putC mem (st, hd, df) s) Q := by
  intro k
  induction k with
  | zero =>
    intro u s h0 hk hu hx
    refine zw_iload ok_Sh_numberThatHelps rfl rfl ?_
    refine zw_iload_n ok_Sh_numberThatHelps rfl rfl ?_
    refine zw_icmp_ge 69 ok_Sh_numberThatHelps rfl (by decide) (by omega) (fun h13 => ?_) (fun h13 => ?_)
    · refine zw_iconst ok_Sh_numberThatHelps rfl ?_
      exact zw_iret ok_Sh_numberThatHelps rfl rfl (hx _)
    · exfalso; omega
  | succ k ih =>
    intro u s h0 hk hu hx
    have hu8 : 0 ≤ u / 8 ∧ u / 8 < 12 := by omega
    have ht := tog_2 (hd := hd) (u := u) (hR _ hu8.1 hu8.2)
    have hfr := fhC_r (mem := mem) (st := st) (hd := tog hd u) (df := df)
    unfold nthS at hx
    have next : ∀ s3, ¬ (wrth mem st hd u = true ∧ fhC mem st (tog hd u) df = -1) → AW m_Sh_numberThatHelps 63 [some (vr 30), some (vi fr), some (vi la), some (vi (8 * (la + 1))), some (vi u), none] [] (putC mem (st, hd, df) s3) Q := by
      intro s3 hn
      refine zw_iinc ok_Sh_numberThatHelps rfl rfl rfl (by decide) ?_
      refine zw_goto 10 ok_Sh_numberThatHelps rfl (by decide) ?_
      exact ih (u + 1) _ (by omega) (by omega) (by omega) (fun s2 => by have := hx s2; rw [if_neg hn] at this; exact this)
    refine zw_iload ok_Sh_numberThatHelps rfl rfl ?_
    refine zw_iload_n ok_Sh_numberThatHelps rfl rfl ?_
    refine zw_icmp_ge 69 ok_Sh_numberThatHelps rfl (by decide) (by omega) (fun h13 => ?_) (fun h13 => ?_)
    · exfalso; omega
    · refine zw_aload_n ok_Sh_numberThatHelps rfl rfl ?_
      refine zw_iload ok_Sh_numberThatHelps rfl rfl ?_
      refine zw_Vbp ok_Sh_numberThatHelps rfl ok_Sh_isWorthHiding lk_Sh_44 (by decide) rfl rfl (Nat.le_of_ble_eq_true rfl) (ct_Sh_isWorthHiding (by omega) hC.1.1 (hst u (by omega) (by omega))) ?_
      first | refine zw_ifeq_d 63 ok_Sh_numberThatHelps rfl (by decide) (fun h22 => ?_) (fun h22 => ?_) | refine zw_ifeq_b 63 ok_Sh_numberThatHelps rfl (by decide) (fun h22 => ?_) (fun h22 => ?_) | refine zw_if_eq 63 ok_Sh_numberThatHelps rfl (by decide) (by omega) (fun h22 => ?_) (fun h22 => ?_)
      · exact next s (fun q => by have h22 := h22; unfold wrth at q; exact h22 (of_decide_eq_true q.1))
      · refine zw_aload_n ok_Sh_numberThatHelps rfl rfl ?_
        refine zw_iload ok_Sh_numberThatHelps rfl rfl ?_
        refine zw_Vvp ok_Sh_numberThatHelps rfl ok_Sh_toggle lk_Sh_47 (by decide) rfl rfl (Nat.le_of_ble_eq_true rfl) (ct_Sh_toggle (by omega)) ?_
        refine zw_aload_n ok_Sh_numberThatHelps rfl rfl ?_
        refine zw_getr ok_Sh_numberThatHelps rfl fl_Sh_15 rfl rfl ?_
        refine zw_Vi ok_Sh_numberThatHelps rfl ok_Co_walkTillOneIsGone lk_Sh_25 (by decide) rfl rfl (Nat.le_of_ble_eq_true rfl) (ct_Co_walkTillOneIsGone hC.2.1 rfl hst (begS_inv hC.2.1.2.1 hdf)) (fun m35 h35 => ?_)
        subst h35
        rw [fhC_eq hC]
        generalize tillS _ _ _ _ _ _ _ _ = s4
        refine zw_iconst ok_Sh_numberThatHelps rfl ?_
        refine zw_icmp_ne 46 ok_Sh_numberThatHelps rfl (by decide) (by omega) (fun h39 => ?_) (fun h39 => ?_)
        · refine zw_iconst ok_Sh_numberThatHelps rfl ?_
          refine zw_istore ok_Sh_numberThatHelps rfl rfl (by decide) ?_
          refine zw_aload_n ok_Sh_numberThatHelps rfl rfl ?_
          refine zw_iload ok_Sh_numberThatHelps rfl rfl ?_
          refine zw_Vvp ok_Sh_numberThatHelps rfl ok_Sh_toggle lk_Sh_47 (by decide) rfl rfl (Nat.le_of_ble_eq_true rfl) (ct_Sh_toggle (by omega)) ?_
          rw [ht]
          refine zw_iload ok_Sh_numberThatHelps rfl rfl ?_
          refine zw_if_eq 63 ok_Sh_numberThatHelps rfl (by decide) (by omega) (fun h57 => ?_) (fun h57 => ?_)
          · try (exfalso; omega)
            all_goals
              refine zw_mask [true, true, true, true, true, false] rfl ?_
              exact next _ (fun q => by omega)
          · try (exfalso; omega)
            all_goals
              refine zw_iload ok_Sh_numberThatHelps rfl rfl ?_
              exact zw_iret ok_Sh_numberThatHelps rfl rfl ((by have := hx s4; rw [if_pos ⟨decide_eq_true h22, by omega⟩] at this; exact this))
        · refine zw_iconst ok_Sh_numberThatHelps rfl ?_
          refine zw_goto 47 ok_Sh_numberThatHelps rfl (by decide) ?_
          refine zw_istore ok_Sh_numberThatHelps rfl rfl (by decide) ?_
          refine zw_aload_n ok_Sh_numberThatHelps rfl rfl ?_
          refine zw_iload ok_Sh_numberThatHelps rfl rfl ?_
          refine zw_Vvp ok_Sh_numberThatHelps rfl ok_Sh_toggle lk_Sh_47 (by decide) rfl rfl (Nat.le_of_ble_eq_true rfl) (ct_Sh_toggle (by omega)) ?_
          rw [ht]
          refine zw_iload ok_Sh_numberThatHelps rfl rfl ?_
          refine zw_if_eq 63 ok_Sh_numberThatHelps rfl (by decide) (by omega) (fun h57 => ?_) (fun h57 => ?_)
          · try (exfalso; omega)
            all_goals
              refine zw_mask [true, true, true, true, true, false] rfl ?_
              exact next _ (fun q => by omega)
          · try (exfalso; omega)
            all_goals
              refine zw_iload ok_Sh_numberThatHelps rfl rfl ?_
              exact zw_iret ok_Sh_numberThatHelps rfl rfl ((by have := hx s4; rw [if_pos ⟨decide_eq_true h22, by omega⟩] at this; exact this))
theorem ct_Sh_numberThatHelps {fr la : Int} (hC : okC mem) (hst : ∀ i, 0 ≤ i → i < 96 → -1 ≤ st i ∧ st i ≤ 7) (hdf : dfI (mem 5 4) df) (hR : ∀ h, 0 ≤ h → h < 12 → -2147483648 ≤ hd h ∧ hd h < 2147483648) (hla : -1 ≤ la ∧ la ≤ 11) (hfr : 0 ≤ fr ∧ fr ≤ 96) : zCi m_Sh_numberThatHelps [vr 30, vi fr, vi la] (putC mem (st, hd, df) s) (nthS mem st hd df (8 * (la + 1) - fr).toNat fr) (fun m2 => ∃ s2, m2 = putC mem (st, hd, df) s2) := by
  refine zCt.of [some (vr 30), some (vi fr), some (vi la), none, none, none] ok_Sh_numberThatHelps (Nat.le_of_ble_eq_true rfl) rfl ?_
  refine zw_bipush ok_Sh_numberThatHelps rfl (by decide) ?_
  refine zw_iload_n ok_Sh_numberThatHelps rfl rfl ?_
  refine zw_iconst ok_Sh_numberThatHelps rfl ?_
  refine zw_iadd ok_Sh_numberThatHelps rfl ?_
  refine zw_imul ok_Sh_numberThatHelps rfl ?_
  refine zw_istore_n ok_Sh_numberThatHelps rfl rfl (by decide) ?_
  refine zw_iload_n ok_Sh_numberThatHelps rfl rfl ?_
  refine zw_istore ok_Sh_numberThatHelps rfl rfl (by decide) ?_
  exact nth_loop hC hst hdf hR hla (8 * (la + 1) - fr).toNat fr s (by omega) (by omega) (by omega) (fun s2 => ⟨rfl, s2, rfl⟩)
/-- the least pair of numbers, as the class looks for it -/
def two0 (mem : zMem) (st hd df : Int → Int) : Nat → Int → Int × Int
  | 0, _ => (-1, -1)
  | k + 1, u => if wrth mem st hd u = true ∧ nthS mem st (tog hd u) df (8 * (fhC mem st (tog hd u) df + 1) - (u + 1)).toNat (u + 1) ≠ -1 then (u, nthS mem st (tog hd u) df (8 * (fhC mem st (tog hd u) df + 1) - (u + 1)).toNat (u + 1)) else two0 mem st hd df k (u + 1)
theorem okC_of {mem m2 : zMem} (h : ∀ k, k < 24 → m2 k = mem k) (hC : okC mem) : okC m2 := by
  unfold okC toldC pInv at *
  rw [h 5 (by omega), h 6 (by omega), h 7 (by omega), h 9 (by omega), h 11 (by omega), h 12 (by omega), h 13 (by omega), h 14 (by omega), h 15 (by omega), h 16 (by omega), h 17 (by omega), h 18 (by omega)]
  exact hC
theorem fhC_of {mem m2 : zMem} (h : ∀ k, k < 24 → m2 k = mem k) (st hd df : Int → Int) : fhC m2 st hd df = fhC mem st hd df := by
  unfold fhC
  rw [h 5 (by omega), h 7 (by omega), h 9 (by omega)]
theorem wrth_of {mem m2 : zMem} (h : ∀ k, k < 24 → m2 k = mem k) (st hd : Int → Int) (u : Int) : wrth m2 st hd u = wrth mem st hd u := by
  unfold wrth
  rw [h 5 (by omega)]
theorem nthS_of {mem m2 : zMem} (h : ∀ k, k < 24 → m2 k = mem k) (st hd df : Int → Int) : ∀ (k : Nat) (u : Int), nthS m2 st hd df k u = nthS mem st hd df k u
  | 0, _ => rfl
  | k + 1, u => by
    unfold nthS
    rw [wrth_of h, fhC_of h, nthS_of h st hd df k (u + 1)]
theorem zset_2 {mem : zMem} {k : Nat} {i v w : Int} : zset (zset mem k i v) k i w = zset mem k i w := by
  funext q
  by_cases e : q = k
  · subst e
    rw [zset_eq, zset_eq, zset_eq]
    funext j
    simp only [zupd]
    split <;> rfl
  · rw [zset_ne e, zset_ne e, zset_ne e]
theorem setlo {mem : zMem} {k : Nat} {i v : Int} (h : 24 ≤ k) : ∀ q, q < 24 → zset mem k i v q = mem q := fun q hq => zset_ne (by omega)
theorem ct_Sh_findOne {la : Int} (hC : okC mem) (hst : ∀ i, 0 ≤ i → i < 96 → -1 ≤ st i ∧ st i ≤ 7) (hdf : dfI (mem 5 4) df) (hR : ∀ h, 0 ≤ h → h < 12 → -2147483648 ≤ hd h ∧ hd h < 2147483648) (hla : -1 ≤ la ∧ la ≤ 11) : zCb m_Sh_findOne [vr 30, vi la] (putC mem (st, hd, df) s) (decide (nthS mem st hd df (8 * (la + 1)).toNat 0 ≠ -1)) (fun m2 => ∃ s2, m2 = putC (zset mem 31 0 (nthS mem st hd df (8 * (la + 1)).toNat 0)) (st, hd, df) s2) := by
  refine zCt.of [some (vr 30), some (vi la)] ok_Sh_findOne (Nat.le_of_ble_eq_true rfl) rfl ?_
  have hr := nthS_r (mem := mem) (st := st) (hd := hd) (df := df) (8 * (la + 1)).toNat 0 (by omega)
  have e0 : (8 * (la + 1) - 0).toNat = (8 * (la + 1)).toNat := by congr 1; omega
  refine zw_aload_n ok_Sh_findOne rfl rfl ?_
  refine zw_getr ok_Sh_findOne rfl fl_Sh_9 rfl rfl ?_
  refine zw_iconst ok_Sh_findOne rfl ?_
  refine zw_aload_n ok_Sh_findOne rfl rfl ?_
  refine zw_iconst ok_Sh_findOne rfl ?_
  refine zw_iload_n ok_Sh_findOne rfl rfl ?_
  refine zw_Vi ok_Sh_findOne rfl ok_Sh_numberThatHelps lk_Sh_40 (by decide) rfl rfl (Nat.le_of_ble_eq_true rfl) (ct_Sh_numberThatHelps hC hst hdf hR hla (by omega)) (fun m8 h8 => ?_)
  obtain ⟨s2, rfl⟩ := h8
  rw [e0]
  refine zw_iast ok_Sh_findOne rfl rfl (by omega) ?_
  rw [wrC_out (by omega)]
  refine zw_aload_n ok_Sh_findOne rfl rfl ?_
  refine zw_getr ok_Sh_findOne rfl fl_Sh_9 rfl rfl ?_
  refine zw_iconst ok_Sh_findOne rfl ?_
  refine zw_iald ok_Sh_findOne rfl rfl (by omega) ?_
  simp only [rd_C9, rd_C10, rd_C11, rd_C12, rd_C25, rd_C26, rd_C27, rd_C28, rd_C29, rd_C_0, rd_C_1, rd_C_2, rd_C_3, rd_C_4, rd_C_5, rd_C_6, rd_C_7, rd_C_8, rd_C_9, rd_C_10, rd_C_11, rd_C_12, rd_C_13, rd_C_14, rd_C_15, rd_C_16, rd_C_17, rd_C_18, rd_C_19, rd_C_20, rd_C_21, rd_C_22, rd_C_23, rd_C_30, rd_C_31, rd_C_32, rd_C_33, rd_C_34, rd_C_35, rd_C_36, rd_C_37, rd_C_38, rd_C_39, rd_C_40, rd_C_41, rd_C_42, rd_C_43, rd_C_44, rd_C_45, rd_C_46, rd_C_47, rd_C_48, rd_C_49, rd_C_50, rd_C_51, rd_C_52, rd_C_53, rd_C_54, rd_C_55, rd_C_56, rd_C_57, rd_C_58, rd_C_59, rd_C_60, rd_C_61, rd_C_62, rd_C_63, rd_C_64, rd_C_65, wr_C9, wr_C10, wr_C11, wr_C12, wr_C25, wr_C26, wr_C27, wr_C28, wr_C29, wp_C25, wp_C26, wp_C27, wp_C28, wp_C29, zset_eq, zupd_eq]
  refine zw_iconst ok_Sh_findOne rfl ?_
  refine zw_icmp_eq 26 ok_Sh_findOne rfl (by decide) (by omega) (fun h19 => ?_) (fun h19 => ?_)
  · refine zw_iconst ok_Sh_findOne rfl ?_
    exact zw_zret ok_Sh_findOne rfl rfl (by first | exact Or.inl rfl | exact Or.inr rfl | exact bi01 _) (⟨by first | rw [bi_t (by omega)] | rw [bi_f (by omega)], s2, rfl⟩)
  · refine zw_iconst ok_Sh_findOne rfl ?_
    refine zw_goto 27 ok_Sh_findOne rfl (by decide) ?_
    exact zw_zret ok_Sh_findOne rfl rfl (by first | exact Or.inl rfl | exact Or.inr rfl | exact bi01 _) (⟨by first | rw [bi_t (by omega)] | rw [bi_f (by omega)], s2, rfl⟩)
theorem two_loop {la en : Int} (hC : okC mem) (hst : ∀ i, 0 ≤ i → i < 96 → -1 ≤ st i ∧ st i ≤ 7) (hdf : dfI (mem 5 4) df) (hR : ∀ h, 0 ≤ h → h < 12 → -2147483648 ≤ hd h ∧ hd h < 2147483648) (hla : -1 ≤ la ∧ la ≤ 11) (hen : 0 ≤ en ∧ en ≤ 96) :
    ∀ (k : Nat) (u : Int) (s : zS), 0 ≤ u → u + k = en → (∀ s2, ((two0 mem st hd df k u).1 = -1 → Q (some (vi 0)) (putC (zset mem 31 1 (-1)) (st, hd, df) s2)) ∧ ((two0 mem st hd df k u).1 ≠ -1 → Q (some (vi 1)) (putC (zset (zset mem 31 1 (two0 mem st hd df k u).2) 31 0 (two0 mem st hd df k u).1) (st, hd, df) s2))) → AW m_Sh_findTwo 9 [some (vr 30), some (vi la), some (vi en), some (vi u)] [] (putC (zset mem 31 1 (-1)) (st, hd, df) s) Q := by
  intro k
  induction k with
  | zero =>
    intro u s h0 hk hx
    refine zw_iload_n ok_Sh_findTwo rfl rfl ?_
    refine zw_iload_n ok_Sh_findTwo rfl rfl ?_
    refine zw_icmp_ge 77 ok_Sh_findTwo rfl (by decide) (by omega) (fun h11 => ?_) (fun h11 => ?_)
    · refine zw_iconst ok_Sh_findTwo rfl ?_
      exact zw_zret ok_Sh_findTwo rfl rfl (by first | exact Or.inl rfl | exact Or.inr rfl | exact bi01 _) ((hx _).1 rfl)
    · exfalso; omega
  | succ k ih =>
    intro u s h0 hk hx
    have lo := setlo (mem := mem) (k := 31) (i := 1) (v := -1) (by omega)
    have hC1 := okC_of lo hC
    have hdf1 : dfI (zset mem 31 1 (-1) 5 4) df := by rw [lo 5 (by omega)]; exact hdf
    have hu8 : 0 ≤ u / 8 ∧ u / 8 < 12 := by omega
    have ht := tog_2 (hd := hd) (u := u) (hR _ hu8.1 hu8.2)
    have hR2 : ∀ h, 0 ≤ h → h < 12 → -2147483648 ≤ tog hd u h ∧ tog hd u h < 2147483648 := fun h q1 q2 => tog_R (hR h q1 q2)
    have hfr := fhC_r (mem := mem) (st := st) (hd := tog hd u) (df := df)
    have hnr := nthS_r (mem := mem) (st := st) (hd := tog hd u) (df := df) (8 * (fhC mem st (tog hd u) df + 1) - (u + 1)).toNat (u + 1) (by omega)
    unfold two0 at hx
    generalize hN : nthS mem st (tog hd u) df (8 * (fhC mem st (tog hd u) df + 1) - (u + 1)).toNat (u + 1) = N at hx hnr
    have e19 : (u % 8 < zset mem 31 1 (-1) 5 4 ∧ st u ≠ -1 ∧ tb (zor (hd (u / 8)) (zset mem 31 1 (-1) 5 5)) (u % 8).toNat = false) ↔ wrth mem st hd u = true := by
      rw [lo 5 (by omega)]
      exact (decide_eq_true_iff).symm
    have next : ∀ s3, ¬ (wrth mem st hd u = true ∧ N ≠ -1) → AW m_Sh_findTwo 71 [some (vr 30), some (vi la), some (vi en), some (vi u)] [] (putC (zset mem 31 1 (-1)) (st, hd, df) s3) Q := by
      intro s3 hn
      refine zw_iinc ok_Sh_findTwo rfl rfl rfl (by decide) ?_
      refine zw_goto 9 ok_Sh_findTwo rfl (by decide) ?_
      exact ih (u + 1) _ (by omega) (by omega) (fun s2 => by have := hx s2; rw [if_neg hn] at this; exact this)
    refine zw_iload_n ok_Sh_findTwo rfl rfl ?_
    refine zw_iload_n ok_Sh_findTwo rfl rfl ?_
    refine zw_icmp_ge 77 ok_Sh_findTwo rfl (by decide) (by omega) (fun h11 => ?_) (fun h11 => ?_)
    · exfalso; omega
    · refine zw_aload_n ok_Sh_findTwo rfl rfl ?_
      refine zw_iload_n ok_Sh_findTwo rfl rfl ?_
      refine zw_Vbp ok_Sh_findTwo rfl ok_Sh_isWorthHiding lk_Sh_44 (by decide) rfl rfl (Nat.le_of_ble_eq_true rfl) (ct_Sh_isWorthHiding (by omega) hC1.1.1 (hst u (by omega) (by omega))) ?_
      first | refine zw_ifeq_d 71 ok_Sh_findTwo rfl (by decide) (fun h19 => ?_) (fun h19 => ?_) | refine zw_ifeq_b 71 ok_Sh_findTwo rfl (by decide) (fun h19 => ?_) (fun h19 => ?_) | refine zw_if_eq 71 ok_Sh_findTwo rfl (by decide) (by omega) (fun h19 => ?_) (fun h19 => ?_)
      · exact next _ (fun q => h19 (e19.mpr q.1))
      · refine zw_aload_n ok_Sh_findTwo rfl rfl ?_
        refine zw_iload_n ok_Sh_findTwo rfl rfl ?_
        refine zw_Vvp ok_Sh_findTwo rfl ok_Sh_toggle lk_Sh_47 (by decide) rfl rfl (Nat.le_of_ble_eq_true rfl) (ct_Sh_toggle (by omega)) ?_
        refine zw_aload_n ok_Sh_findTwo rfl rfl ?_
        refine zw_getr ok_Sh_findTwo rfl fl_Sh_9 rfl rfl ?_
        refine zw_iconst ok_Sh_findTwo rfl ?_
        refine zw_aload_n ok_Sh_findTwo rfl rfl ?_
        refine zw_iload_n ok_Sh_findTwo rfl rfl ?_
        refine zw_iconst ok_Sh_findTwo rfl ?_
        refine zw_iadd ok_Sh_findTwo rfl ?_
        refine zw_aload_n ok_Sh_findTwo rfl rfl ?_
        refine zw_getr ok_Sh_findTwo rfl fl_Sh_15 rfl rfl ?_
        refine zw_Vi ok_Sh_findTwo rfl ok_Co_walkTillOneIsGone lk_Sh_25 (by decide) rfl rfl (Nat.le_of_ble_eq_true rfl) (ct_Co_walkTillOneIsGone hC1.2.1 rfl hst (begS_inv hC1.2.1.2.1 hdf1)) (fun m40 h40 => ?_)
        subst h40
        rw [fhC_eq hC1, fhC_of lo]
        generalize tillS _ _ _ _ _ _ _ _ = s4
        refine zw_Vi ok_Sh_findTwo rfl ok_Sh_numberThatHelps lk_Sh_40 (by decide) rfl rfl (Nat.le_of_ble_eq_true rfl) (ct_Sh_numberThatHelps hC1 hst hdf1 hR2 hfr (by omega)) (fun m43 h43 => ?_)
        obtain ⟨s5, rfl⟩ := h43
        rw [nthS_of lo, hN]
        refine zw_iast ok_Sh_findTwo rfl rfl (by omega) ?_
        rw [wrC_out (by omega), zset_2]
        refine zw_aload_n ok_Sh_findTwo rfl rfl ?_
        refine zw_iload_n ok_Sh_findTwo rfl rfl ?_
        refine zw_Vvp ok_Sh_findTwo rfl ok_Sh_toggle lk_Sh_47 (by decide) rfl rfl (Nat.le_of_ble_eq_true rfl) (ct_Sh_toggle (by omega)) ?_
        rw [ht]
        refine zw_aload_n ok_Sh_findTwo rfl rfl ?_
        refine zw_getr ok_Sh_findTwo rfl fl_Sh_9 rfl rfl ?_
        refine zw_iconst ok_Sh_findTwo rfl ?_
        refine zw_iald ok_Sh_findTwo rfl rfl (by omega) ?_
        simp only [rd_C9, rd_C10, rd_C11, rd_C12, rd_C25, rd_C26, rd_C27, rd_C28, rd_C29, rd_C_0, rd_C_1, rd_C_2, rd_C_3, rd_C_4, rd_C_5, rd_C_6, rd_C_7, rd_C_8, rd_C_9, rd_C_10, rd_C_11, rd_C_12, rd_C_13, rd_C_14, rd_C_15, rd_C_16, rd_C_17, rd_C_18, rd_C_19, rd_C_20, rd_C_21, rd_C_22, rd_C_23, rd_C_30, rd_C_31, rd_C_32, rd_C_33, rd_C_34, rd_C_35, rd_C_36, rd_C_37, rd_C_38, rd_C_39, rd_C_40, rd_C_41, rd_C_42, rd_C_43, rd_C_44, rd_C_45, rd_C_46, rd_C_47, rd_C_48, rd_C_49, rd_C_50, rd_C_51, rd_C_52, rd_C_53, rd_C_54, rd_C_55, rd_C_56, rd_C_57, rd_C_58, rd_C_59, rd_C_60, rd_C_61, rd_C_62, rd_C_63, rd_C_64, rd_C_65, wr_C9, wr_C10, wr_C11, wr_C12, wr_C25, wr_C26, wr_C27, wr_C28, wr_C29, wp_C25, wp_C26, wp_C27, wp_C28, wp_C29, zset_eq, zupd_eq]
        refine zw_iconst ok_Sh_findTwo rfl ?_
        refine zw_icmp_eq 71 ok_Sh_findTwo rfl (by decide) (by omega) (fun h59 => ?_) (fun h59 => ?_)
        · rw [h59]
          exact next _ (fun q => q.2 h59)
        · refine zw_aload_n ok_Sh_findTwo rfl rfl ?_
          refine zw_getr ok_Sh_findTwo rfl fl_Sh_9 rfl rfl ?_
          refine zw_iconst ok_Sh_findTwo rfl ?_
          refine zw_iload_n ok_Sh_findTwo rfl rfl ?_
          refine zw_iast ok_Sh_findTwo rfl rfl (by omega) ?_
          rw [wrC_out (by omega)]
          refine zw_iconst ok_Sh_findTwo rfl ?_
          exact zw_zret ok_Sh_findTwo rfl rfl (by first | exact Or.inl rfl | exact Or.inr rfl | exact bi01 _) ((by have := (hx s5).2; rw [if_pos ⟨e19.mp h19, h59⟩] at this; exact this (by show u ≠ -1; omega)))
theorem ct_Sh_findTwo {la : Int} (hC : okC mem) (hst : ∀ i, 0 ≤ i → i < 96 → -1 ≤ st i ∧ st i ≤ 7) (hdf : dfI (mem 5 4) df) (hR : ∀ h, 0 ≤ h → h < 12 → -2147483648 ≤ hd h ∧ hd h < 2147483648) (hla : -1 ≤ la ∧ la ≤ 11) : zCb m_Sh_findTwo [vr 30, vi la] (putC (zset mem 31 1 (-1)) (st, hd, df) s) (decide ((two0 mem st hd df (8 * (la + 1)).toNat 0).1 ≠ -1)) (fun m2 => ∃ s2, ((two0 mem st hd df (8 * (la + 1)).toNat 0).1 = -1 ∧ m2 = putC (zset mem 31 1 (-1)) (st, hd, df) s2) ∨ ((two0 mem st hd df (8 * (la + 1)).toNat 0).1 ≠ -1 ∧ m2 = putC (zset (zset mem 31 1 (two0 mem st hd df (8 * (la + 1)).toNat 0).2) 31 0 (two0 mem st hd df (8 * (la + 1)).toNat 0).1) (st, hd, df) s2)) := by
  refine zCt.of [some (vr 30), some (vi la), none, none] ok_Sh_findTwo (Nat.le_of_ble_eq_true rfl) rfl ?_
  refine zw_bipush ok_Sh_findTwo rfl (by decide) ?_
  refine zw_iload_n ok_Sh_findTwo rfl rfl ?_
  refine zw_iconst ok_Sh_findTwo rfl ?_
  refine zw_iadd ok_Sh_findTwo rfl ?_
  refine zw_imul ok_Sh_findTwo rfl ?_
  refine zw_istore_n ok_Sh_findTwo rfl rfl (by decide) ?_
  refine zw_iconst ok_Sh_findTwo rfl ?_
  refine zw_istore_n ok_Sh_findTwo rfl rfl (by decide) ?_
  refine two_loop hC hst hdf hR hla (by omega) (8 * (la + 1)).toNat 0 s (by omega) (by omega) (fun s2 => ⟨fun h => ⟨?_, s2, Or.inl ⟨h, rfl⟩⟩, fun h => ⟨?_, s2, Or.inr ⟨h, rfl⟩⟩⟩)
  · rw [bi_f (fun q => q h)]
  · rw [bi_t h]
/-- what SHADE finds on a layout: how many, the two numbers -/
def shdS (mem : zMem) (st hd df : Int → Int) : Int × Int × Int :=
  if fhC mem st hd df = -1 then (0, -1, -1)
  else if nthS mem st hd df (8 * (fhC mem st hd df + 1)).toNat 0 ≠ -1 then (1, nthS mem st hd df (8 * (fhC mem st hd df + 1)).toNat 0, -1)
  else if (two0 mem st hd df (8 * (fhC mem st hd df + 1)).toNat 0).1 ≠ -1 then (2, two0 mem st hd df (8 * (fhC mem st hd df + 1)).toNat 0)
  else (-1, -1, -1)
theorem two0_of {mem m2 : zMem} (h : ∀ k, k < 24 → m2 k = mem k) (st hd df : Int → Int) : ∀ (k : Nat) (u : Int), two0 m2 st hd df k u = two0 mem st hd df k u
  | 0, _ => rfl
  | k + 1, u => by
    unfold two0
    rw [wrth_of h, fhC_of h, nthS_of h, two0_of h st hd df k (u + 1)]
theorem layS_of {mem m2 : zMem} (h : ∀ k, k < 24 → m2 k = mem k) (ol ll : Int) (L : zL) : layS m2 ol ll L = layS mem ol ll L := by
  unfold layS
  rw [h 5 (by omega), h 6 (by omega), h 9 (by omega), h 11 (by omega), h 12 (by omega), h 13 (by omega), h 14 (by omega), h 15 (by omega), h 16 (by omega), h 17 (by omega), h 18 (by omega)]
theorem layS_R {mem : zMem} {ol ll : Int} {L : zL} : ∀ h, 0 ≤ h → h < 12 → -2147483648 ≤ (layS mem ol ll L).2.1 h ∧ (layS mem ol ll L).2.1 h < 2147483648 := by
  show ∀ h, 0 ≤ h → h < 12 → -2147483648 ≤ lp (hdS ll (mem 17) (mem 18)) (mem 16 3).toNat 0 (zfil 12 0 L.2.1) h ∧ lp (hdS ll (mem 17) (mem 18)) (mem 16 3).toNat 0 (zfil 12 0 L.2.1) h < 2147483648
  refine lp_inv (I := fun hd : Int → Int => ∀ h, 0 ≤ h → h < 12 → -2147483648 ≤ hd h ∧ hd h < 2147483648) _ _ _ (fun u hd _ _ hi h h0 h1 => ?_) (fun h h0 h1 => by unfold zfil; rw [if_pos ⟨h0, h1⟩]; omega)
  unfold hdS
  split
  · exact hi h h0 h1
  · by_cases e : h = mem 17 u
    · subst e; rw [zupd_eq]; exact zR_or _ _
    · rw [zupd_ne e]; exact hi h h0 h1
theorem putC_fr {mem : zMem} {L : zL} {s : zS} : zfr [24, 25, 26, 27, 28, 29] mem (putC mem L s) := fun k hk => putC_ne (by simp at hk; omega)
abbrev scr : List Nat := [24, 25, 26, 27, 28, 29, 30, 31, 32, 33, 34, 36, 38]
theorem putC_scr {mem m3 : zMem} {L : zL} {s : zS} (h : zfr scr mem m3) : zfr scr mem (putC m3 L s) := fun k hk => (putC_ne (by simp at hk; omega)).trans (h k hk)
theorem ct_Sh_find {L : zL} (hC : okC mem) : zCv m_Sh_find [vr 30] (putC mem L s) (fun m2 => (m2 30 2 = (shdS mem (layS mem (-1) 0 L).1 (layS mem (-1) 0 L).2.1 (layS mem (-1) 0 L).2.2).1 ∧ m2 31 0 = (shdS mem (layS mem (-1) 0 L).1 (layS mem (-1) 0 L).2.1 (layS mem (-1) 0 L).2.2).2.1 ∧ m2 31 1 = (shdS mem (layS mem (-1) 0 L).1 (layS mem (-1) 0 L).2.1 (layS mem (-1) 0 L).2.2).2.2) ∧ zfr scr mem m2) := by
  obtain ⟨st0, hd0, df0⟩ := L
  refine zCt.of [some (vr 30), none] ok_Sh_find (Nat.le_of_ble_eq_true rfl) rfl ?_
  have lo : ∀ q, q < 24 → zset (zset mem 31 0 (-1)) 31 1 (-1) q = mem q := fun q hq => by rw [zset_ne (by omega), zset_ne (by omega)]
  have lo0 : ∀ q, q < 24 → zset mem 31 0 (-1) q = mem q := fun q hq => zset_ne (by omega)
  have hC1 := okC_of lo hC
  have hC0 := okC_of lo0 hC
  have hst := layS_st (ol := -1) (ll := 0) (L := (st0, hd0, df0)) hC
  have hdf := layS_df (ol := -1) (ll := 0) (L := (st0, hd0, df0)) hC
  have hR := layS_R (mem := mem) (ol := -1) (ll := 0) (L := (st0, hd0, df0))
  have eL := layS_of lo (-1) 0 (st0, hd0, df0)
  generalize layS mem (-1) 0 (st0, hd0, df0) = L1 at hst hdf hR eL ⊢
  obtain ⟨st, hd, df⟩ := L1
  dsimp only at hst hdf hR ⊢
  have hdf1 : dfI (zset (zset mem 31 0 (-1)) 31 1 (-1) 5 4) df := by rw [lo 5 (by omega)]; exact hdf
  have hdf0 : dfI (zset mem 31 0 (-1) 5 4) df := by rw [lo0 5 (by omega)]; exact hdf
  have hfr := fhC_r (mem := mem) (st := st) (hd := hd) (df := df)
  have f0 : zfr scr mem (zset mem 31 0 (-1)) := zfr.rf.set (by decide)
  have f1 : zfr scr mem (zset (zset mem 31 0 (-1)) 31 1 (-1)) := f0.set (by decide)
  unfold shdS
  generalize hF : fhC mem st hd df = F at hfr ⊢
  refine zw_aload_n ok_Sh_find rfl rfl ?_
  refine zw_getr ok_Sh_find rfl fl_Sh_9 rfl rfl ?_
  refine zw_iconst ok_Sh_find rfl ?_
  refine zw_iconst ok_Sh_find rfl ?_
  refine zw_iast ok_Sh_find rfl rfl (by omega) ?_
  rw [wrC_out (by omega)]
  refine zw_aload_n ok_Sh_find rfl rfl ?_
  refine zw_getr ok_Sh_find rfl fl_Sh_9 rfl rfl ?_
  refine zw_iconst ok_Sh_find rfl ?_
  refine zw_iconst ok_Sh_find rfl ?_
  refine zw_iast ok_Sh_find rfl rfl (by omega) ?_
  rw [wrC_out (by omega)]
  refine zw_aload_n ok_Sh_find rfl rfl ?_
  refine zw_getr ok_Sh_find rfl fl_Sh_15 rfl rfl ?_
  refine zw_iconst ok_Sh_find rfl ?_
  refine zw_iconst ok_Sh_find rfl ?_
  refine zw_Vvp ok_Sh_find rfl ok_Co_layOut lk_Sh_19 (by decide) rfl rfl (Nat.le_of_ble_eq_true rfl) (ct_Co_layOut hC1.1 (by omega)) ?_
  rw [eL]
  refine zw_aload_n ok_Sh_find rfl rfl ?_
  refine zw_getr ok_Sh_find rfl fl_Sh_15 rfl rfl ?_
  refine zw_Vi ok_Sh_find rfl ok_Co_walkTillOneIsGone lk_Sh_25 (by decide) rfl rfl (Nat.le_of_ble_eq_true rfl) (ct_Co_walkTillOneIsGone hC1.2.1 rfl hst (begS_inv hC1.2.1.2.1 hdf1)) (fun m27 h27 => ?_)
  subst h27
  rw [fhC_eq hC1, fhC_of lo, hF]
  generalize tillS _ _ _ _ _ _ _ _ = s4
  refine zw_istore_n ok_Sh_find rfl rfl (by decide) ?_
  refine zw_iload_n ok_Sh_find rfl rfl ?_
  refine zw_iconst ok_Sh_find rfl ?_
  refine zw_icmp_ne 44 ok_Sh_find rfl (by decide) (by omega) (fun h33 => ?_) (fun h33 => ?_)
  · rw [if_neg h33]
    refine zw_aload_n ok_Sh_find rfl rfl ?_
    refine zw_iload_n ok_Sh_find rfl rfl ?_
    refine zw_Vb ok_Sh_find rfl ok_Sh_findOne lk_Sh_33 (by decide) rfl rfl (Nat.le_of_ble_eq_true rfl) (ct_Sh_findOne hC1 hst hdf1 hR hfr) (fun m46 h46 => ?_)
    obtain ⟨s5, rfl⟩ := h46
    simp only [nthS_of lo]
    first | refine zw_ifeq_d 60 ok_Sh_find rfl (by decide) (fun h49 => ?_) (fun h49 => ?_) | refine zw_ifeq_b 60 ok_Sh_find rfl (by decide) (fun h49 => ?_) (fun h49 => ?_) | refine zw_if_eq 60 ok_Sh_find rfl (by decide) (by omega) (fun h49 => ?_) (fun h49 => ?_)
    · rw [if_neg h49]
      have h49b : nthS mem st hd df (8 * (F + 1)).toNat 0 = -1 := Decidable.of_not_not h49
      rw [h49b, show zset (zset (zset mem 31 0 (-1)) 31 1 (-1)) 31 0 (-1) = zset (zset mem 31 0 (-1)) 31 1 (-1) by funext q; by_cases e : q = 31; (subst e; rw [zset_eq, zset_eq, zset_eq]; funext j; simp only [zupd]; split <;> split <;> rfl); rw [zset_ne e]]
      refine zw_aload_n ok_Sh_find rfl rfl ?_
      refine zw_iload_n ok_Sh_find rfl rfl ?_
      refine zw_Vb ok_Sh_find rfl ok_Sh_findTwo lk_Sh_37 (by decide) rfl rfl (Nat.le_of_ble_eq_true rfl) (ct_Sh_findTwo hC0 hst hdf0 hR hfr) (fun m62 h62 => ?_)
      obtain ⟨s6, h62⟩ := h62
      simp only [two0_of lo0] at h62 ⊢
      first | refine zw_ifeq_d 76 ok_Sh_find rfl (by decide) (fun h65 => ?_) (fun h65 => ?_) | refine zw_ifeq_b 76 ok_Sh_find rfl (by decide) (fun h65 => ?_) (fun h65 => ?_) | refine zw_if_eq 76 ok_Sh_find rfl (by decide) (by omega) (fun h65 => ?_) (fun h65 => ?_)
      · rw [if_neg h65]
        obtain ⟨-, rfl⟩ | ⟨h66, -⟩ := h62
        rotate_left
        · exact absurd h66 h65
        refine zw_aload_n ok_Sh_find rfl rfl ?_
        refine zw_iconst ok_Sh_find rfl ?_
        refine zw_puti ok_Sh_find rfl fp_Sh_29 rfl rfl ?_
        rw [wrC_out (by omega)]
        exact zw_vret ok_Sh_find rfl rfl (⟨rfl, ⟨rfl, rfl, rfl⟩, putC_scr (by first | exact f1.set (by decide) | exact (f1.set (by decide)).set (by decide) | exact ((f0.set (by decide)).set (by decide)).set (by decide))⟩)
      · rw [if_pos h65]
        obtain ⟨h66, -⟩ | ⟨-, rfl⟩ := h62
        · exact absurd h66 h65
        refine zw_aload_n ok_Sh_find rfl rfl ?_
        refine zw_iconst ok_Sh_find rfl ?_
        refine zw_puti ok_Sh_find rfl fp_Sh_29 rfl rfl ?_
        rw [wrC_out (by omega)]
        refine zw_goto 81 ok_Sh_find rfl (by decide) ?_
        exact zw_vret ok_Sh_find rfl rfl (⟨rfl, ⟨rfl, rfl, rfl⟩, putC_scr (by first | exact f1.set (by decide) | exact (f1.set (by decide)).set (by decide) | exact ((f0.set (by decide)).set (by decide)).set (by decide))⟩)
    · rw [if_pos h49]
      refine zw_aload_n ok_Sh_find rfl rfl ?_
      refine zw_iconst ok_Sh_find rfl ?_
      refine zw_puti ok_Sh_find rfl fp_Sh_29 rfl rfl ?_
      rw [wrC_out (by omega)]
      refine zw_goto 81 ok_Sh_find rfl (by decide) ?_
      exact zw_vret ok_Sh_find rfl rfl (⟨rfl, ⟨rfl, rfl, rfl⟩, putC_scr (by first | exact f1.set (by decide) | exact (f1.set (by decide)).set (by decide) | exact ((f0.set (by decide)).set (by decide)).set (by decide))⟩)
  · rw [if_pos h33]
    refine zw_aload_n ok_Sh_find rfl rfl ?_
    refine zw_iconst ok_Sh_find rfl ?_
    refine zw_puti ok_Sh_find rfl fp_Sh_29 rfl rfl ?_
    rw [wrC_out (by omega)]
    refine zw_goto 81 ok_Sh_find rfl (by decide) ?_
    exact zw_vret ok_Sh_find rfl rfl (⟨rfl, ⟨rfl, rfl, rfl⟩, putC_scr (by first | exact f1.set (by decide) | exact (f1.set (by decide)).set (by decide) | exact ((f0.set (by decide)).set (by decide)).set (by decide))⟩)
end
end
section
/-! ===== Integer.bitCount, StrollPlan ===== -/
def pcN (x : Int) : Int := bi (tb x 0) + bi (tb x 1) + bi (tb x 2) + bi (tb x 3) + bi (tb x 4) + bi (tb x 5) + bi (tb x 6) + bi (tb x 7)
theorem pcN_r (x : Int) : 0 ≤ pcN x ∧ pcN x ≤ 8 := by
  unfold pcN
  have h0 := bi01 (tb x 0); have h1 := bi01 (tb x 1); have h2 := bi01 (tb x 2); have h3 := bi01 (tb x 3); have h4 := bi01 (tb x 4); have h5 := bi01 (tb x 5); have h6 := bi01 (tb x 6); have h7 := bi01 (tb x 7)
  omega
def bcA (x : Int) : Int := x - zand (zushr x 1) 1431655765
def bcB (a : Int) : Int := zand a 858993459 + zand (zushr a 2) 858993459
def bcC (b : Int) : Int := zand (b + zushr b 4) 252645135
def bcD (c : Int) : Int := c + zushr c 8
def bcE (d : Int) : Int := zand (d + zushr d 16) 63
theorem bc8 : ∀ n, n < 256 → bcE (bcD (bcC (bcB (bcA ((n : Nat) : Int))))) = pcN ((n : Nat) : Int) := by decide +kernel
theorem ct_Jint_bitCount_0f7a4 {mem : zMem} {x : Int} (hx : 0 ≤ x ∧ x < 256) : zCip m_Jint_bitCount_0f7a4 [vi x] mem (pcN x) := by
  refine zCt.of [some (vi x)] ok_Jint_bitCount_0f7a4 (Nat.le_of_ble_eq_true rfl) rfl ?_
  have h := bc8 x.toNat (by omega)
  rw [Int.toNat_of_nonneg hx.1] at h
  refine zw_iload_n ok_Jint_bitCount_0f7a4 rfl rfl ?_
  refine zw_iload_n ok_Jint_bitCount_0f7a4 rfl rfl ?_
  refine zw_iconst ok_Jint_bitCount_0f7a4 rfl ?_
  refine zw_iushr ok_Jint_bitCount_0f7a4 rfl ?_
  refine zw_ldcw ok_Jint_bitCount_0f7a4 rfl kc_Jint_265 ?_
  refine zw_iand ok_Jint_bitCount_0f7a4 rfl ?_
  refine zw_isub ok_Jint_bitCount_0f7a4 rfl ?_
  refine zw_istore_n ok_Jint_bitCount_0f7a4 rfl rfl (by decide) ?_
  refine zw_iload_n ok_Jint_bitCount_0f7a4 rfl rfl ?_
  refine zw_ldcw ok_Jint_bitCount_0f7a4 rfl kc_Jint_266 ?_
  refine zw_iand ok_Jint_bitCount_0f7a4 rfl ?_
  refine zw_iload_n ok_Jint_bitCount_0f7a4 rfl rfl ?_
  refine zw_iconst ok_Jint_bitCount_0f7a4 rfl ?_
  refine zw_iushr ok_Jint_bitCount_0f7a4 rfl ?_
  refine zw_ldcw ok_Jint_bitCount_0f7a4 rfl kc_Jint_266 ?_
  refine zw_iand ok_Jint_bitCount_0f7a4 rfl ?_
  refine zw_iadd ok_Jint_bitCount_0f7a4 rfl ?_
  refine zw_istore_n ok_Jint_bitCount_0f7a4 rfl rfl (by decide) ?_
  refine zw_iload_n ok_Jint_bitCount_0f7a4 rfl rfl ?_
  refine zw_iload_n ok_Jint_bitCount_0f7a4 rfl rfl ?_
  refine zw_iconst ok_Jint_bitCount_0f7a4 rfl ?_
  refine zw_iushr ok_Jint_bitCount_0f7a4 rfl ?_
  refine zw_iadd ok_Jint_bitCount_0f7a4 rfl ?_
  refine zw_ldcw ok_Jint_bitCount_0f7a4 rfl kc_Jint_267 ?_
  refine zw_iand ok_Jint_bitCount_0f7a4 rfl ?_
  refine zw_istore_n ok_Jint_bitCount_0f7a4 rfl rfl (by decide) ?_
  refine zw_iload_n ok_Jint_bitCount_0f7a4 rfl rfl ?_
  refine zw_iload_n ok_Jint_bitCount_0f7a4 rfl rfl ?_
  refine zw_bipush ok_Jint_bitCount_0f7a4 rfl (by decide) ?_
  refine zw_iushr ok_Jint_bitCount_0f7a4 rfl ?_
  refine zw_iadd ok_Jint_bitCount_0f7a4 rfl ?_
  refine zw_istore_n ok_Jint_bitCount_0f7a4 rfl rfl (by decide) ?_
  refine zw_iload_n ok_Jint_bitCount_0f7a4 rfl rfl ?_
  refine zw_iload_n ok_Jint_bitCount_0f7a4 rfl rfl ?_
  refine zw_bipush ok_Jint_bitCount_0f7a4 rfl (by decide) ?_
  refine zw_iushr ok_Jint_bitCount_0f7a4 rfl ?_
  refine zw_iadd ok_Jint_bitCount_0f7a4 rfl ?_
  refine zw_istore_n ok_Jint_bitCount_0f7a4 rfl rfl (by decide) ?_
  refine zw_iload_n ok_Jint_bitCount_0f7a4 rfl rfl ?_
  refine zw_bipush ok_Jint_bitCount_0f7a4 rfl (by decide) ?_
  refine zw_iand ok_Jint_bitCount_0f7a4 rfl ?_
  exact zw_iret ok_Jint_bitCount_0f7a4 rfl rfl (⟨congrArg (fun z => some (vi z)) h, rfl⟩)
theorem walk_self {P : Int} {can step st un : Int → Int} {n : Nat} {s t : zS} (hP : 0 ≤ P) (hn : n ≤ 12) (he : eqP P s t) : eqP P (walkS P can step st un n s) (walkS P can step st un n t) := by
  have pe : pEq P can step st un can step (fun h p => st (h * 8 + p)) (fun h p => tb (un h) p.toNat) := ⟨fun _ _ _ => ⟨rfl, rfl⟩, fun _ _ _ _ _ _ => rfl, fun _ _ _ _ _ _ => rfl⟩
  exact (walk_t pe hP hn he).tr (walk_t pe hP hn eqP.rf).sy
/-- the day on this layout -/
def dayC (mem : zMem) (st hd df : Int → Int) : zS := walkS (mem 5 4) (mem 7) (mem 9) st (fun h => zor (hd h) (mem 5 5)) 12 (beg0 df)
theorem dayC_eq {mem : zMem} {st hd df d l : Int → Int} (hC : okC mem) : eqP (mem 5 4) (walkS (mem 5 4) (mem 7) (mem 9) st (fun h => zor (hd h) (mem 5 5)) 12 (begS df d l)) (dayC mem st hd df) :=
  walk_self hC.2.1.1 (by omega) (begS_eq hC.2.1.2.1 (fun _ _ _ _ _ => rfl))
theorem dayC_inv {mem : zMem} {st hd df : Int → Int} (hC : okC mem) (hdf : dfI (mem 5 4) df) : sInv (mem 5 4) (dayC mem st hd df) := by
  refine walkS_inv hC.2.1 ⟨hdf, fun p _ _ => ⟨Int.le_refl _, ?_⟩, Int.le_refl 0, (show (0 : Int) < 256 by decide)⟩
  show (0 : Int) ≤ 99
  decide
def rwU (row : Int → Int) (p h : Int) (st : Int → Int) : Int → Int := zupd st (h * 8 + p) (if row h = 8 then -1 else row h)
def rwS (row : Int → Int) (p : Int) (st : Int → Int) : Int → Int := lp (rwU row p) 3 0 st
def cstC (mem : zMem) (st hd df : Int → Int) (p : Int) : Int := 100 * pcN (dayC mem st hd df).2.2.1 + (dayC mem st hd df).2.1 p
section
variable {mem : zMem} {st hd df : Int → Int} {s : zS} {Q : Option zVal → zMem → Prop}
theorem cost_loop {p : Int} (hp : 0 ≤ p ∧ p < 8) (hrow : ∀ h, 0 ≤ h → h < 3 → 0 ≤ mem 33 h ∧ mem 33 h ≤ 8) :
    ∀ (k : Nat) (h : Int) (st : Int → Int), 0 ≤ h → h + k = 3 → AW m_St_costFor 48 [some (vr 32), some (vi p), none] [] (putC mem (lp (rwU (mem 33) p) k h st, hd, df) s) Q → AW m_St_costFor 2 [some (vr 32), some (vi p), some (vi h)] [] (putC mem (st, hd, df) s) Q := by
  intro k
  induction k with
  | zero =>
    intro h st h0 hk hx
    refine zw_iload_n ok_St_costFor rfl rfl ?_
    refine zw_iconst ok_St_costFor rfl ?_
    refine zw_icmp_ge 48 ok_St_costFor rfl (by decide) (by omega) (fun h4 => ?_) (fun h4 => ?_)
    · refine zw_mask [true, true, false] rfl ?_
      exact hx
    · exfalso; omega
  | succ k ih =>
    intro h st h0 hk hx
    rw [lp_s] at hx
    have hr := hrow h h0 (by omega)
    unfold rwU at hx
    by_cases h8 : mem 33 h = 8
    · rw [if_pos h8] at hx
      refine zw_iload_n ok_St_costFor rfl rfl ?_
      refine zw_iconst ok_St_costFor rfl ?_
      refine zw_icmp_ge 48 ok_St_costFor rfl (by decide) (by omega) (fun h4 => ?_) (fun h4 => ?_)
      · exfalso; omega
      · refine zw_aload_n ok_St_costFor rfl rfl ?_
        refine zw_getr ok_St_costFor rfl fl_St_18 rfl rfl ?_
        refine zw_getr ok_St_costFor rfl fl_St_46 rfl rfl ?_
        refine zw_iload_n ok_St_costFor rfl rfl ?_
        refine zw_bipush ok_St_costFor rfl (by decide) ?_
        refine zw_imul ok_St_costFor rfl ?_
        refine zw_iload_n ok_St_costFor rfl rfl ?_
        refine zw_iadd ok_St_costFor rfl ?_
        refine zw_aload_n ok_St_costFor rfl rfl ?_
        refine zw_getr ok_St_costFor rfl fl_St_11 rfl rfl ?_
        refine zw_iload_n ok_St_costFor rfl rfl ?_
        refine zw_iald ok_St_costFor rfl rfl (by omega) ?_
        try simp only [rd_C9, rd_C10, rd_C11, rd_C12, rd_C25, rd_C26, rd_C27, rd_C28, rd_C29, rd_C_0, rd_C_1, rd_C_2, rd_C_3, rd_C_4, rd_C_5, rd_C_6, rd_C_7, rd_C_8, rd_C_9, rd_C_10, rd_C_11, rd_C_12, rd_C_13, rd_C_14, rd_C_15, rd_C_16, rd_C_17, rd_C_18, rd_C_19, rd_C_20, rd_C_21, rd_C_22, rd_C_23, rd_C_30, rd_C_31, rd_C_32, rd_C_33, rd_C_34, rd_C_35, rd_C_36, rd_C_37, rd_C_38, rd_C_39, rd_C_40, rd_C_41, rd_C_42, rd_C_43, rd_C_44, rd_C_45, rd_C_46, rd_C_47, rd_C_48, rd_C_49, rd_C_50, rd_C_51, rd_C_52, rd_C_53, rd_C_54, rd_C_55, rd_C_56, rd_C_57, rd_C_58, rd_C_59, rd_C_60, rd_C_61, rd_C_62, rd_C_63, rd_C_64, rd_C_65, wr_C9, wr_C10, wr_C11, wr_C12, wr_C25, wr_C26, wr_C27, wr_C28, wr_C29, wp_C25, wp_C26, wp_C27, wp_C28, wp_C29]
        refine zw_bipush ok_St_costFor rfl (by decide) ?_
        refine zw_icmp_ne 35 ok_St_costFor rfl (by decide) (by omega) (fun h28 => ?_) (fun h28 => ?_)
        · exact absurd h8 h28
        · refine zw_iconst ok_St_costFor rfl ?_
          refine zw_goto 41 ok_St_costFor rfl (by decide) ?_
          refine zw_iast ok_St_costFor rfl rfl (by omega) ?_
          try simp only [rd_C9, rd_C10, rd_C11, rd_C12, rd_C25, rd_C26, rd_C27, rd_C28, rd_C29, rd_C_0, rd_C_1, rd_C_2, rd_C_3, rd_C_4, rd_C_5, rd_C_6, rd_C_7, rd_C_8, rd_C_9, rd_C_10, rd_C_11, rd_C_12, rd_C_13, rd_C_14, rd_C_15, rd_C_16, rd_C_17, rd_C_18, rd_C_19, rd_C_20, rd_C_21, rd_C_22, rd_C_23, rd_C_30, rd_C_31, rd_C_32, rd_C_33, rd_C_34, rd_C_35, rd_C_36, rd_C_37, rd_C_38, rd_C_39, rd_C_40, rd_C_41, rd_C_42, rd_C_43, rd_C_44, rd_C_45, rd_C_46, rd_C_47, rd_C_48, rd_C_49, rd_C_50, rd_C_51, rd_C_52, rd_C_53, rd_C_54, rd_C_55, rd_C_56, rd_C_57, rd_C_58, rd_C_59, rd_C_60, rd_C_61, rd_C_62, rd_C_63, rd_C_64, rd_C_65, wr_C9, wr_C10, wr_C11, wr_C12, wr_C25, wr_C26, wr_C27, wr_C28, wr_C29, wp_C25, wp_C26, wp_C27, wp_C28, wp_C29]
          refine zw_iinc ok_St_costFor rfl rfl rfl (by decide) ?_
          refine zw_goto 2 ok_St_costFor rfl (by decide) ?_
          exact ih (h + 1) _ (by omega) (by omega) hx
    · rw [if_neg h8] at hx
      refine zw_iload_n ok_St_costFor rfl rfl ?_
      refine zw_iconst ok_St_costFor rfl ?_
      refine zw_icmp_ge 48 ok_St_costFor rfl (by decide) (by omega) (fun h4 => ?_) (fun h4 => ?_)
      · exfalso; omega
      · refine zw_aload_n ok_St_costFor rfl rfl ?_
        refine zw_getr ok_St_costFor rfl fl_St_18 rfl rfl ?_
        refine zw_getr ok_St_costFor rfl fl_St_46 rfl rfl ?_
        refine zw_iload_n ok_St_costFor rfl rfl ?_
        refine zw_bipush ok_St_costFor rfl (by decide) ?_
        refine zw_imul ok_St_costFor rfl ?_
        refine zw_iload_n ok_St_costFor rfl rfl ?_
        refine zw_iadd ok_St_costFor rfl ?_
        refine zw_aload_n ok_St_costFor rfl rfl ?_
        refine zw_getr ok_St_costFor rfl fl_St_11 rfl rfl ?_
        refine zw_iload_n ok_St_costFor rfl rfl ?_
        refine zw_iald ok_St_costFor rfl rfl (by omega) ?_
        try simp only [rd_C9, rd_C10, rd_C11, rd_C12, rd_C25, rd_C26, rd_C27, rd_C28, rd_C29, rd_C_0, rd_C_1, rd_C_2, rd_C_3, rd_C_4, rd_C_5, rd_C_6, rd_C_7, rd_C_8, rd_C_9, rd_C_10, rd_C_11, rd_C_12, rd_C_13, rd_C_14, rd_C_15, rd_C_16, rd_C_17, rd_C_18, rd_C_19, rd_C_20, rd_C_21, rd_C_22, rd_C_23, rd_C_30, rd_C_31, rd_C_32, rd_C_33, rd_C_34, rd_C_35, rd_C_36, rd_C_37, rd_C_38, rd_C_39, rd_C_40, rd_C_41, rd_C_42, rd_C_43, rd_C_44, rd_C_45, rd_C_46, rd_C_47, rd_C_48, rd_C_49, rd_C_50, rd_C_51, rd_C_52, rd_C_53, rd_C_54, rd_C_55, rd_C_56, rd_C_57, rd_C_58, rd_C_59, rd_C_60, rd_C_61, rd_C_62, rd_C_63, rd_C_64, rd_C_65, wr_C9, wr_C10, wr_C11, wr_C12, wr_C25, wr_C26, wr_C27, wr_C28, wr_C29, wp_C25, wp_C26, wp_C27, wp_C28, wp_C29]
        refine zw_bipush ok_St_costFor rfl (by decide) ?_
        refine zw_icmp_ne 35 ok_St_costFor rfl (by decide) (by omega) (fun h28 => ?_) (fun h28 => ?_)
        · refine zw_aload_n ok_St_costFor rfl rfl ?_
          refine zw_getr ok_St_costFor rfl fl_St_11 rfl rfl ?_
          refine zw_iload_n ok_St_costFor rfl rfl ?_
          refine zw_iald ok_St_costFor rfl rfl (by omega) ?_
          try simp only [rd_C9, rd_C10, rd_C11, rd_C12, rd_C25, rd_C26, rd_C27, rd_C28, rd_C29, rd_C_0, rd_C_1, rd_C_2, rd_C_3, rd_C_4, rd_C_5, rd_C_6, rd_C_7, rd_C_8, rd_C_9, rd_C_10, rd_C_11, rd_C_12, rd_C_13, rd_C_14, rd_C_15, rd_C_16, rd_C_17, rd_C_18, rd_C_19, rd_C_20, rd_C_21, rd_C_22, rd_C_23, rd_C_30, rd_C_31, rd_C_32, rd_C_33, rd_C_34, rd_C_35, rd_C_36, rd_C_37, rd_C_38, rd_C_39, rd_C_40, rd_C_41, rd_C_42, rd_C_43, rd_C_44, rd_C_45, rd_C_46, rd_C_47, rd_C_48, rd_C_49, rd_C_50, rd_C_51, rd_C_52, rd_C_53, rd_C_54, rd_C_55, rd_C_56, rd_C_57, rd_C_58, rd_C_59, rd_C_60, rd_C_61, rd_C_62, rd_C_63, rd_C_64, rd_C_65, wr_C9, wr_C10, wr_C11, wr_C12, wr_C25, wr_C26, wr_C27, wr_C28, wr_C29, wp_C25, wp_C26, wp_C27, wp_C28, wp_C29]
          refine zw_iast ok_St_costFor rfl rfl (by omega) ?_
          try simp only [rd_C9, rd_C10, rd_C11, rd_C12, rd_C25, rd_C26, rd_C27, rd_C28, rd_C29, rd_C_0, rd_C_1, rd_C_2, rd_C_3, rd_C_4, rd_C_5, rd_C_6, rd_C_7, rd_C_8, rd_C_9, rd_C_10, rd_C_11, rd_C_12, rd_C_13, rd_C_14, rd_C_15, rd_C_16, rd_C_17, rd_C_18, rd_C_19, rd_C_20, rd_C_21, rd_C_22, rd_C_23, rd_C_30, rd_C_31, rd_C_32, rd_C_33, rd_C_34, rd_C_35, rd_C_36, rd_C_37, rd_C_38, rd_C_39, rd_C_40, rd_C_41, rd_C_42, rd_C_43, rd_C_44, rd_C_45, rd_C_46, rd_C_47, rd_C_48, rd_C_49, rd_C_50, rd_C_51, rd_C_52, rd_C_53, rd_C_54, rd_C_55, rd_C_56, rd_C_57, rd_C_58, rd_C_59, rd_C_60, rd_C_61, rd_C_62, rd_C_63, rd_C_64, rd_C_65, wr_C9, wr_C10, wr_C11, wr_C12, wr_C25, wr_C26, wr_C27, wr_C28, wr_C29, wp_C25, wp_C26, wp_C27, wp_C28, wp_C29]
          refine zw_iinc ok_St_costFor rfl rfl rfl (by decide) ?_
          refine zw_goto 2 ok_St_costFor rfl (by decide) ?_
          exact ih (h + 1) _ (by omega) (by omega) hx
        · exact absurd h28 h8
theorem rw_st {p : Int} (hp : 0 ≤ p ∧ p < 8) (hst : ∀ i, 0 ≤ i → i < 96 → -1 ≤ st i ∧ st i ≤ 7) {row : Int → Int} (hrow : ∀ h, 0 ≤ h → h < 3 → 0 ≤ row h ∧ row h ≤ 8) : ∀ i, 0 ≤ i → i < 96 → -1 ≤ rwS row p st i ∧ rwS row p st i ≤ 7 := by
  refine lp_inv (I := fun st : Int → Int => ∀ i, 0 ≤ i → i < 96 → -1 ≤ st i ∧ st i ≤ 7) _ _ _ (fun h st h1 h2 hs i q1 q2 => ?_) hst
  have := hrow h h1 (by omega)
  unfold rwU
  by_cases e : i = h * 8 + p
  · subst e; rw [zupd_eq]; split <;> omega
  · rw [zupd_ne e]; exact hs i q1 q2
theorem ct_St_costFor {p : Int} (hC : okC mem) (hp : 0 ≤ p ∧ p < mem 5 4) (hrow : ∀ h, 0 ≤ h → h < 3 → 0 ≤ mem 33 h ∧ mem 33 h ≤ 8) (hst : ∀ i, 0 ≤ i → i < 96 → -1 ≤ st i ∧ st i ≤ 7) (hdf : dfI (mem 5 4) df) : zCi m_St_costFor [vr 32, vi p] (putC mem (st, hd, df) s) (cstC mem (rwS (mem 33) p st) hd df p) (fun m2 => ∃ s2, m2 = putC mem (rwS (mem 33) p st, hd, df) s2) := by
  refine zCt.of [some (vr 32), some (vi p), none] ok_St_costFor (Nat.le_of_ble_eq_true rfl) rfl ?_
  have hP8 := hC.2.1.2.1
  have hst2 := rw_st (st := st) ⟨hp.1, by omega⟩ hst hrow
  have hd1 := dayC_inv (st := rwS (mem 33) p st) (hd := hd) hC hdf
  have hde := dayC_eq (st := rwS (mem 33) p st) (hd := hd) (df := df) (d := s.1) (l := s.2.1) hC
  have K : AW m_St_costFor 48 [some (vr 32), some (vi p), none] [] (putC mem (rwS (mem 33) p st, hd, df) s) (fun r m2 => r = some (vi (cstC mem (rwS (mem 33) p st) hd df p)) ∧ ∃ s2, m2 = putC mem (rwS (mem 33) p st, hd, df) s2) := by
    unfold cstC
    generalize rwS (mem 33) p st = st2 at hst2 hd1 hde ⊢
    have eg : (walkS (mem 5 4) (mem 7) (mem 9) st2 (fun h => zor (hd h) (mem 5 5)) 12 (begS df s.1 s.2.1)).2.2.1 = (dayC mem st2 hd df).2.2.1 := by rw [hde.2.2]
    have el := hde.2.1 p hp.1 hp.2
    have hg := hd1.2.2
    refine zw_aload_n ok_St_costFor rfl rfl ?_
    refine zw_getr ok_St_costFor rfl fl_St_18 rfl rfl ?_
    refine zw_Vvp ok_St_costFor rfl ok_Co_begin lk_St_49 (by decide) rfl rfl (Nat.le_of_ble_eq_true rfl) (ct_Co_begin) ?_
    refine zw_aload_n ok_St_costFor rfl rfl ?_
    refine zw_getr ok_St_costFor rfl fl_St_18 rfl rfl ?_
    refine zw_bipush ok_St_costFor rfl (by decide) ?_
    refine zw_Vvp ok_St_costFor rfl ok_Co_walkTo lk_St_52 (by decide) rfl rfl (Nat.le_of_ble_eq_true rfl) (ct_Co_walkTo hC.2.1 rfl (by omega) hst2 (begS_inv hC.2.1.2.1 hdf) ⟨Int.le_refl _, (show (-1 : Int) ≤ 11 by decide)⟩) ?_
    rw [show ((11 : Int) + 1).toNat = 12 from rfl]
    generalize hS : walkS (mem 5 4) (mem 7) (mem 9) st2 (fun h => zor (hd h) (mem 5 5)) 12 (begS df s.1 s.2.1) = S at eg el ⊢
    obtain ⟨xd, xl, xg, xn, xfh, xfw⟩ := S
    dsimp only at eg el
    subst eg
    refine zw_bipush ok_St_costFor rfl (by decide) ?_
    refine zw_aload_n ok_St_costFor rfl rfl ?_
    refine zw_getr ok_St_costFor rfl fl_St_18 rfl rfl ?_
    refine zw_geti ok_St_costFor rfl fl_St_56 rfl rfl ?_
    try simp only [rd_C9, rd_C10, rd_C11, rd_C12, rd_C25, rd_C26, rd_C27, rd_C28, rd_C29, rd_C_0, rd_C_1, rd_C_2, rd_C_3, rd_C_4, rd_C_5, rd_C_6, rd_C_7, rd_C_8, rd_C_9, rd_C_10, rd_C_11, rd_C_12, rd_C_13, rd_C_14, rd_C_15, rd_C_16, rd_C_17, rd_C_18, rd_C_19, rd_C_20, rd_C_21, rd_C_22, rd_C_23, rd_C_30, rd_C_31, rd_C_32, rd_C_33, rd_C_34, rd_C_35, rd_C_36, rd_C_37, rd_C_38, rd_C_39, rd_C_40, rd_C_41, rd_C_42, rd_C_43, rd_C_44, rd_C_45, rd_C_46, rd_C_47, rd_C_48, rd_C_49, rd_C_50, rd_C_51, rd_C_52, rd_C_53, rd_C_54, rd_C_55, rd_C_56, rd_C_57, rd_C_58, rd_C_59, rd_C_60, rd_C_61, rd_C_62, rd_C_63, rd_C_64, rd_C_65, wr_C9, wr_C10, wr_C11, wr_C12, wr_C25, wr_C26, wr_C27, wr_C28, wr_C29, wp_C25, wp_C26, wp_C27, wp_C28, wp_C29]
    refine zw_Sip ok_St_costFor rfl ok_Jint_bitCount_0f7a4 lk_St_57 (by decide) rfl (Nat.le_of_ble_eq_true rfl) (ct_Jint_bitCount_0f7a4 hg) ?_
    refine zw_imul ok_St_costFor rfl ?_
    refine zw_aload_n ok_St_costFor rfl rfl ?_
    refine zw_getr ok_St_costFor rfl fl_St_18 rfl rfl ?_
    refine zw_getr ok_St_costFor rfl fl_St_62 rfl rfl ?_
    refine zw_iload_n ok_St_costFor rfl rfl ?_
    refine zw_iald ok_St_costFor rfl rfl (by omega) ?_
    try simp only [rd_C9, rd_C10, rd_C11, rd_C12, rd_C25, rd_C26, rd_C27, rd_C28, rd_C29, rd_C_0, rd_C_1, rd_C_2, rd_C_3, rd_C_4, rd_C_5, rd_C_6, rd_C_7, rd_C_8, rd_C_9, rd_C_10, rd_C_11, rd_C_12, rd_C_13, rd_C_14, rd_C_15, rd_C_16, rd_C_17, rd_C_18, rd_C_19, rd_C_20, rd_C_21, rd_C_22, rd_C_23, rd_C_30, rd_C_31, rd_C_32, rd_C_33, rd_C_34, rd_C_35, rd_C_36, rd_C_37, rd_C_38, rd_C_39, rd_C_40, rd_C_41, rd_C_42, rd_C_43, rd_C_44, rd_C_45, rd_C_46, rd_C_47, rd_C_48, rd_C_49, rd_C_50, rd_C_51, rd_C_52, rd_C_53, rd_C_54, rd_C_55, rd_C_56, rd_C_57, rd_C_58, rd_C_59, rd_C_60, rd_C_61, rd_C_62, rd_C_63, rd_C_64, rd_C_65, wr_C9, wr_C10, wr_C11, wr_C12, wr_C25, wr_C26, wr_C27, wr_C28, wr_C29, wp_C25, wp_C26, wp_C27, wp_C28, wp_C29]
    rw [el]
    refine zw_iadd ok_St_costFor rfl ?_
    exact zw_iret ok_St_costFor rfl rfl (⟨rfl, _, rfl⟩)
  refine zw_iconst ok_St_costFor rfl ?_
  refine zw_istore_n ok_St_costFor rfl rfl (by decide) ?_
  exact cost_loop ⟨hp.1, by omega⟩ hrow 3 0 st (by omega) (by omega) K
end
end
section
/-! ===== StrollPlan.find, streetIn ===== -/
def dgt (r : Int) : Int → Int := fun j => if j = 0 then r / 81 else if j = 1 then r / 9 % 9 else if j = 2 then r % 9 else 0
def rowHas (e r : Int) : Prop := r / 81 = e ∨ r / 9 % 9 = e ∨ r % 9 = e
theorem dgt_r {r : Int} (h : 0 ≤ r ∧ r < 729) : ∀ j, 0 ≤ j → j < 3 → 0 ≤ dgt r j ∧ dgt r j ≤ 8 := by
  intro j h1 h2
  have : j = 0 ∨ j = 1 ∨ j = 2 := by omega
  rcases this with rfl | rfl | rfl
  · show 0 ≤ r / 81 ∧ r / 81 ≤ 8; omega
  · show 0 ≤ r / 9 % 9 ∧ r / 9 % 9 ≤ 8; omega
  · show 0 ≤ r % 9 ∧ r % 9 ≤ 8; omega
theorem rwS_ext {row row2 : Int → Int} {p : Int} {st st2 : Int → Int} (h : ∀ j, 0 ≤ j → j < 3 → row j = row2 j) (hs : ∀ i, i ≠ p → i ≠ 8 + p → i ≠ 16 + p → st i = st2 i) : rwS row p st = rwS row2 p st2 := by
  have e0 := h 0 (by omega) (by omega)
  have e1 := h 1 (by omega) (by omega)
  have e2 := h 2 (by omega) (by omega)
  show rwU row p (0 + 1 + 1) (rwU row p (0 + 1) (rwU row p 0 st)) = rwU row2 p (0 + 1 + 1) (rwU row2 p (0 + 1) (rwU row2 p 0 st2))
  funext i
  simp only [rwU, zupd, Int.zero_add, e0, e1, show (1 : Int) + 1 = 2 from rfl, e2]
  by_cases a2 : i = 2 * 8 + p
  · simp only [a2, if_true]
  · by_cases a1 : i = 1 * 8 + p
    · simp only [a1, if_true]
    · by_cases a0 : i = 0 * 8 + p
      · simp only [a0, if_true]
      · rw [if_neg a2, if_neg a1, if_neg a0, if_neg a2, if_neg a1, if_neg a0]
        exact hs i (by omega) (by omega) (by omega)
theorem rwS_off {row : Int → Int} {p : Int} {st : Int → Int} (i : Int) (h0 : i ≠ p) (h1 : i ≠ 8 + p) (h2 : i ≠ 16 + p) : rwS row p st i = st i := by
  show rwU row p (0 + 1 + 1) (rwU row p (0 + 1) (rwU row p 0 st)) i = st i
  unfold rwU
  rw [zupd_ne (by omega), zupd_ne (by omega), zupd_ne (by omega)]
theorem cstC_of {mem m2 : zMem} (h : ∀ k, k < 24 → m2 k = mem k) (st hd df : Int → Int) (p : Int) : cstC m2 st hd df p = cstC mem st hd df p := by
  unfold cstC dayC
  rw [h 5 (by omega), h 7 (by omega), h 9 (by omega)]
theorem wpC_out {mem : zMem} {L : zL} {s : zS} {k : Nat} {f : Int → Int} (h : k < 24 ∨ 29 < k) : zput (putC mem L s) k f = putC (zput mem k f) L s := by
  refine putC_cases (fun q hq => ?_) ?_ ?_ ?_ ?_ ?_ ?_
  · rw [putC_ne hq]
    by_cases e : q = k
    · subst e; rw [zput_eq, zput_eq]
    · rw [zput_ne e, zput_ne e, putC_ne hq]
  · rw [zput_ne (by omega)]
    show cRow (mem 24) s = cRow (zput mem k f 24) s
    rw [zput_ne (by omega)]
  all_goals (rw [zput_ne (by omega)]; rfl)
/-- one row more: the least cost and its row -/
def strF (mem : zMem) (st hd df : Int → Int) (p e r : Int) (x : Int × Int) : Int × Int := if (r / 81 = e ∨ r / 9 % 9 = e ∨ r % 9 = e) ∧ cstC mem (rwS (dgt r) p st) hd df p < x.1 then (cstC mem (rwS (dgt r) p st) hd df p, r) else x
theorem cstC_r {mem : zMem} {st hd df : Int → Int} {p : Int} (hC : okC mem) (hdf : dfI (mem 5 4) df) (hp : 0 ≤ p ∧ p < mem 5 4) : 0 ≤ cstC mem st hd df p ∧ cstC mem st hd df p ≤ 899 := by
  have h1 := pcN_r (dayC mem st hd df).2.2.1
  have h2 := (dayC_inv (st := st) (hd := hd) hC hdf).2.1 p hp.1 hp.2
  unfold cstC
  omega
section
variable {mem : zMem} {st hd df : Int → Int} {s : zS} {Q : Option zVal → zMem → Prop}
theorem ct_St_streetIn {i : Int} (hi : 0 ≤ i ∧ i ≤ 2) : zCip m_St_streetIn [vr 32, vi i] mem (mem 34 i) := by
  refine zCt.of [some (vr 32), some (vi i)] ok_St_streetIn (Nat.le_of_ble_eq_true rfl) rfl ?_
  refine zw_iload_n ok_St_streetIn rfl rfl ?_
  refine zw_iconst ok_St_streetIn rfl ?_
  refine zw_iconst ok_St_streetIn rfl ?_
  refine zw_Nbp ok_St_streetIn rfl ok_B_within lk_St_42 (by decide) rfl (Nat.le_of_ble_eq_true rfl) (ct_B_within (by omega)) ?_
  first | refine zw_ifeq_d 18 ok_St_streetIn rfl (by decide) (fun h6 => ?_) (fun h6 => ?_) | refine zw_ifeq_b 18 ok_St_streetIn rfl (by decide) (fun h6 => ?_) (fun h6 => ?_) | refine zw_if_eq 18 ok_St_streetIn rfl (by decide) (by omega) (fun h6 => ?_) (fun h6 => ?_)
  · exact absurd hi h6
  · refine zw_aload_n ok_St_streetIn rfl rfl ?_
    refine zw_getr ok_St_streetIn rfl fl_St_15 rfl rfl ?_
    refine zw_iload_n ok_St_streetIn rfl rfl ?_
    refine zw_iald ok_St_streetIn rfl rfl (by omega) ?_
    refine zw_goto 19 ok_St_streetIn rfl (by decide) ?_
    exact zw_iret ok_St_streetIn rfl rfl (⟨rfl, rfl⟩)
theorem find_loop {p e : Int} (hC : okC mem) (hp : 0 ≤ p ∧ p < mem 5 4) (he : 0 ≤ e ∧ e ≤ 7) (hst : ∀ i, 0 ≤ i → i < 96 → -1 ≤ st i ∧ st i ≤ 7) (hdf : dfI (mem 5 4) df)
    (hx : ∀ m3 L2 s2 (x : Int × Int), x = lp (strF mem st hd df p e) 729 0 (900, -1) → (0 ≤ x.1 ∧ x.1 ≤ 900) → (x.2 ≠ -1 → ∀ j, 0 ≤ j → j < 3 → m3 34 j = dgt x.2 j) → zfr scr mem m3 → AW m_St_find 126 [some (vr 32), some (vi p), some (vi e), some (vi x.1), none, none] [] (putC m3 L2 s2) Q) :
    ∀ (k : Nat) (r : Int) (x : Int × Int) (m3 : zMem) (st3 : Int → Int) (s : zS), 0 ≤ r → r + k = 729 → lp (strF mem st hd df p e) k r x = lp (strF mem st hd df p e) 729 0 (900, -1) → (0 ≤ x.1 ∧ x.1 ≤ 900) → (x.2 ≠ -1 → ∀ j, 0 ≤ j → j < 3 → m3 34 j = dgt x.2 j) → zfr scr mem m3 → (∀ i, i ≠ p → i ≠ 8 + p → i ≠ 16 + p → st3 i = st i) → (∀ i, 0 ≤ i → i < 96 → -1 ≤ st3 i ∧ st3 i ≤ 7) →
      AW m_St_find 16 [some (vr 32), some (vi p), some (vi e), some (vi x.1), some (vi r), none] [] (putC m3 (st3, hd, df) s) Q := by
  intro k
  induction k with
  | zero =>
    intro r x m3 st3 s h0 hk hlp hx1 hx2 hf hs3 hst3
    refine zw_iload ok_St_find rfl rfl ?_
    refine zw_sipush ok_St_find rfl (by decide) ?_
    refine zw_icmp_ge 126 ok_St_find rfl (by decide) (by omega) (fun h21 => ?_) (fun h21 => ?_)
    · refine zw_mask [true, true, true, true, false, false] rfl ?_
      exact hx m3 _ s x hlp hx1 hx2 hf
    · exfalso; omega
  | succ k ih =>
    intro r x m3 st3 s h0 hk hlp hx1 hx2 hf hs3 hst3
    rw [lp_s] at hlp
    have hr : 0 ≤ r ∧ r < 729 := by omega
    have hdr := dgt_r hr
    generalize hm4 : zset (zset (zset m3 33 0 (r / 81)) 33 1 (r / 9 % 9)) 33 2 (r % 9) = m4
    have f4 : zfr scr mem m4 := by rw [← hm4]; exact ((hf.set (by decide)).set (by decide)).set (by decide)
    have lo4 : ∀ q, q < 24 → m4 q = mem q := fun q hq => f4 q (by simp; omega)
    have hC4 := okC_of lo4 hC
    have r0 : m4 33 0 = r / 81 := by rw [← hm4, zset_eq, zupd_ne (by decide), zset_eq, zupd_ne (by decide), zset_eq, zupd_eq]
    have r1 : m4 33 1 = r / 9 % 9 := by rw [← hm4, zset_eq, zupd_ne (by decide), zset_eq, zupd_eq]
    have r2 : m4 33 2 = r % 9 := by rw [← hm4, zset_eq, zupd_eq]
    have rd : ∀ j, 0 ≤ j → j < 3 → m4 33 j = dgt r j := by
      intro j q1 q2
      have : j = 0 ∨ j = 1 ∨ j = 2 := by omega
      rcases this with rfl | rfl | rfl
      · exact r0
      · exact r1
      · exact r2
    have h34 : ∀ j, m4 34 j = m3 34 j := fun j => by rw [← hm4, zset_ne (by decide), zset_ne (by decide), zset_ne (by decide)]
    have hp4 : 0 ≤ p ∧ p < m4 5 4 := by rw [lo4 5 (by omega)]; exact hp
    have hdf4 : dfI (m4 5 4) df := by rw [lo4 5 (by omega)]; exact hdf
    have hcr := cstC_r (st := rwS (dgt r) p st) (hd := hd) hC hdf hp
    have ec : cstC m4 (rwS (m4 33) p st3) hd df p = cstC mem (rwS (dgt r) p st) hd df p := by
      rw [cstC_of lo4, rwS_ext rd hs3]
    have est : rwS (m4 33) p st3 = rwS (dgt r) p st := rwS_ext rd hs3
    have hP8 := hC.2.1.2.1
    have skip : ∀ s3 st4 m5, (m5 34 = m3 34) → zfr scr mem m5 → (∀ i, i ≠ p → i ≠ 8 + p → i ≠ 16 + p → st4 i = st i) → (∀ i, 0 ≤ i → i < 96 → -1 ≤ st4 i ∧ st4 i ≤ 7) → ¬ ((r / 81 = e ∨ r / 9 % 9 = e ∨ r % 9 = e) ∧ cstC mem (rwS (dgt r) p st) hd df p < x.1) → AW m_St_find 120 [some (vr 32), some (vi p), some (vi e), some (vi x.1), some (vi r), none] [] (putC m5 (st4, hd, df) s3) Q := by
      intro s3 st4 m5 h5 f5 q1 q2 hn
      refine zw_iinc ok_St_find rfl rfl rfl (by decide) ?_
      refine zw_goto 16 ok_St_find rfl (by decide) ?_
      refine ih (r + 1) x m5 st4 s3 (by omega) (by omega) ?_ hx1 (by rw [h5]; exact hx2) f5 q1 q2
      rw [strF, if_neg hn] at hlp
      exact hlp
    have go : (r / 81 = e ∨ r / 9 % 9 = e ∨ r % 9 = e) → AW m_St_find 90 [some (vr 32), some (vi p), some (vi e), some (vi x.1), some (vi r), none] [] (putC m4 (st3, hd, df) s) Q := by
      intro hh
      refine zw_aload_n ok_St_find rfl rfl ?_
      refine zw_iload_n ok_St_find rfl rfl ?_
      refine zw_Vi ok_St_find rfl ok_St_costFor lk_St_28 (by decide) rfl rfl (Nat.le_of_ble_eq_true rfl) (ct_St_costFor hC4 hp4 (fun h q1 q2 => by rw [rd h q1 q2]; exact hdr h q1 q2) hst3 hdf4) (fun m92 h92 => ?_)
      obtain ⟨s5, rfl⟩ := h92
      rw [ec, est]
      refine zw_istore ok_St_find rfl rfl (by decide) ?_
      refine zw_iload ok_St_find rfl rfl ?_
      refine zw_iload_n ok_St_find rfl rfl ?_
      refine zw_icmp_ge 120 ok_St_find rfl (by decide) (by omega) (fun h100 => ?_) (fun h100 => ?_)
      · refine zw_mask [true, true, true, true, true, false] rfl ?_
        exact skip _ _ m4 (funext h34) f4 (fun i q1 q2 q3 => rwS_off i q1 q2 q3) (rw_st ⟨hp.1, by omega⟩ hst hdr) (fun q => by omega)
      · refine zw_iload ok_St_find rfl rfl ?_
        refine zw_istore_n ok_St_find rfl rfl (by decide) ?_
        refine zw_aload_n ok_St_find rfl rfl ?_
        refine zw_getr ok_St_find rfl fl_St_11 rfl rfl ?_
        refine zw_iconst ok_St_find rfl ?_
        refine zw_aload_n ok_St_find rfl rfl ?_
        refine zw_getr ok_St_find rfl fl_St_15 rfl rfl ?_
        refine zw_iconst ok_St_find rfl ?_
        refine zw_iconst ok_St_find rfl ?_
        refine zw_copy ok_St_find rfl la_St_32 rfl rfl (by decide) ⟨by decide, Nat.le_of_ble_eq_true rfl⟩ ?_
        simp only [rd_C_33, rd_C_34]
        rw [wpC_out (by omega)]
        refine zw_iinc ok_St_find rfl rfl rfl (by decide) ?_
        refine zw_goto 16 ok_St_find rfl (by decide) ?_
        refine zw_mask [true, true, true, true, true, false] rfl ?_
        refine ih (r + 1) (cstC mem (rwS (dgt r) p st) hd df p, r) _ _ _ (by omega) (by omega) ?_ (by omega) ?_ (f4.put (by decide)) (fun i q1 q2 q3 => rwS_off i q1 q2 q3) (rw_st ⟨hp.1, by omega⟩ hst hdr)
        · rw [strF, if_pos ⟨hh, by omega⟩] at hlp
          exact hlp
        · intro _ j q1 q2
          rw [zput_eq]
          show zcpy (m4 33) (m4 34) 0 0 3 j = dgt r j
          unfold zcpy
          rw [if_pos (by omega), ← rd j q1 q2]
          congr 1
          omega
    refine zw_iload ok_St_find rfl rfl ?_
    refine zw_sipush ok_St_find rfl (by decide) ?_
    refine zw_icmp_ge 126 ok_St_find rfl (by decide) (by omega) (fun h21 => ?_) (fun h21 => ?_)
    · exfalso; omega
    · refine zw_aload_n ok_St_find rfl rfl ?_
      refine zw_getr ok_St_find rfl fl_St_11 rfl rfl ?_
      refine zw_iconst ok_St_find rfl ?_
      refine zw_iload ok_St_find rfl rfl ?_
      refine zw_bipush ok_St_find rfl (by decide) ?_
      refine zw_idiv ok_St_find rfl (by omega) ?_
      rw [zdiv_nn (by omega) (by omega)]
      refine zw_iast ok_St_find rfl rfl (by omega) ?_
      rw [wrC_out (by omega)]
      refine zw_aload_n ok_St_find rfl rfl ?_
      refine zw_getr ok_St_find rfl fl_St_11 rfl rfl ?_
      refine zw_iconst ok_St_find rfl ?_
      refine zw_iload ok_St_find rfl rfl ?_
      refine zw_bipush ok_St_find rfl (by decide) ?_
      refine zw_idiv ok_St_find rfl (by omega) ?_
      rw [zdiv_nn (by omega) (by omega)]
      refine zw_bipush ok_St_find rfl (by decide) ?_
      refine zw_irem ok_St_find rfl (by omega) ?_
      rw [zrem_nn (by omega) (by omega)]
      refine zw_iast ok_St_find rfl rfl (by omega) ?_
      rw [wrC_out (by omega)]
      refine zw_aload_n ok_St_find rfl rfl ?_
      refine zw_getr ok_St_find rfl fl_St_11 rfl rfl ?_
      refine zw_iconst ok_St_find rfl ?_
      refine zw_iload ok_St_find rfl rfl ?_
      refine zw_bipush ok_St_find rfl (by decide) ?_
      refine zw_irem ok_St_find rfl (by omega) ?_
      rw [zrem_nn (by omega) (by omega)]
      refine zw_iast ok_St_find rfl rfl (by omega) ?_
      rw [wrC_out (by omega), hm4]
      refine zw_aload_n ok_St_find rfl rfl ?_
      refine zw_getr ok_St_find rfl fl_St_11 rfl rfl ?_
      refine zw_iconst ok_St_find rfl ?_
      refine zw_iald ok_St_find rfl rfl (by omega) ?_
      simp only [rd_C_33, r0]
      refine zw_iload_n ok_St_find rfl rfl ?_
      refine zw_icmp_eq 90 ok_St_find rfl (by decide) (by omega) (fun h67 => ?_) (fun h67 => ?_)
      · exact go (Or.inl h67)
      · refine zw_aload_n ok_St_find rfl rfl ?_
        refine zw_getr ok_St_find rfl fl_St_11 rfl rfl ?_
        refine zw_iconst ok_St_find rfl ?_
        refine zw_iald ok_St_find rfl rfl (by omega) ?_
        simp only [rd_C_33, r1]
        refine zw_iload_n ok_St_find rfl rfl ?_
        refine zw_icmp_eq 90 ok_St_find rfl (by decide) (by omega) (fun h77 => ?_) (fun h77 => ?_)
        · exact go (Or.inr (Or.inl h77))
        · refine zw_aload_n ok_St_find rfl rfl ?_
          refine zw_getr ok_St_find rfl fl_St_11 rfl rfl ?_
          refine zw_iconst ok_St_find rfl ?_
          refine zw_iald ok_St_find rfl rfl (by omega) ?_
          simp only [rd_C_33, r2]
          refine zw_iload_n ok_St_find rfl rfl ?_
          refine zw_icmp_ne 120 ok_St_find rfl (by decide) (by omega) (fun h87 => ?_) (fun h87 => ?_)
          · exact skip _ _ m4 (funext h34) f4 hs3 hst3 (fun q => by omega)
          · exact go (Or.inr (Or.inr h87))
theorem ct_St_find {p e : Int} {L : zL} (hC : okC mem) (hp : 0 ≤ p ∧ p < mem 5 4) (he : 0 ≤ e ∧ e ≤ 7) : zCv m_St_find [vr 32, vi p, vi e] (putC mem L s) (fun m2 => (∀ x : Int × Int, x = lp (strF mem (layS mem (-1) 0 L).1 (layS mem (-1) 0 L).2.1 (layS mem (-1) 0 L).2.2 p e) 729 0 (900, -1) → m2 32 3 = x.1 / 100 ∧ (x.2 ≠ -1 → ∀ j, 0 ≤ j → j < 3 → m2 34 j = dgt x.2 j)) ∧ zfr scr mem m2) := by
  obtain ⟨st0, hd0, df0⟩ := L
  refine zCt.of [some (vr 32), some (vi p), some (vi e), none, none, none] ok_St_find (Nat.le_of_ble_eq_true rfl) rfl ?_
  have hst := layS_st (ol := -1) (ll := 0) (L := (st0, hd0, df0)) hC
  have hdf := layS_df (ol := -1) (ll := 0) (L := (st0, hd0, df0)) hC
  generalize hL : layS mem (-1) 0 (st0, hd0, df0) = L1 at hst hdf ⊢
  obtain ⟨st, hd, df⟩ := L1
  dsimp only at hst hdf ⊢
  have K : ∀ m3 L2 s2 (x : Int × Int), x = lp (strF mem st hd df p e) 729 0 (900, -1) → (0 ≤ x.1 ∧ x.1 ≤ 900) → (x.2 ≠ -1 → ∀ j, 0 ≤ j → j < 3 → m3 34 j = dgt x.2 j) → zfr scr mem m3 → AW m_St_find 126 [some (vr 32), some (vi p), some (vi e), some (vi x.1), none, none] [] (putC m3 L2 s2) (fun r m2 => r = none ∧ (∀ x : Int × Int, x = lp (strF mem st hd df p e) 729 0 (900, -1) → m2 32 3 = x.1 / 100 ∧ (x.2 ≠ -1 → ∀ j, 0 ≤ j → j < 3 → m2 34 j = dgt x.2 j)) ∧ zfr scr mem m2) := by
    intro m3 L2 s2 x hx1 hx2 hx3 hf
    refine zw_aload_n ok_St_find rfl rfl ?_
    refine zw_iload_n ok_St_find rfl rfl ?_
    refine zw_bipush ok_St_find rfl (by decide) ?_
    refine zw_idiv ok_St_find rfl (by omega) ?_
    rw [zdiv_nn (by omega) (by omega)]
    refine zw_puti ok_St_find rfl fp_St_38 rfl rfl ?_
    rw [wrC_out (by omega)]
    exact zw_vret ok_St_find rfl rfl (⟨rfl, fun y hy => by rw [hx1.trans hy.symm] at *; exact ⟨rfl, hx3⟩, putC_scr (hf.set (by decide))⟩)
  refine zw_aload_n ok_St_find rfl rfl ?_
  refine zw_getr ok_St_find rfl fl_St_18 rfl rfl ?_
  refine zw_iconst ok_St_find rfl ?_
  refine zw_iconst ok_St_find rfl ?_
  refine zw_Vvp ok_St_find rfl ok_Co_layOut lk_St_22 (by decide) rfl rfl (Nat.le_of_ble_eq_true rfl) (ct_Co_layOut hC.1 (by omega)) ?_
  rw [hL]
  refine zw_sipush ok_St_find rfl (by decide) ?_
  refine zw_istore_n ok_St_find rfl rfl (by decide) ?_
  refine zw_iconst ok_St_find rfl ?_
  refine zw_istore ok_St_find rfl rfl (by decide) ?_
  refine find_loop hC hp he hst hdf ?_ 729 0 (900, -1) mem st s (by omega) (by omega) rfl (by decide) (fun q => absurd rfl q) zfr.rf (fun _ _ _ _ => rfl) hst
  intro m3 L2 s2 x hx1 hx2 hx3 hf
  exact K m3 L2 s2 x hx1 hx2 hx3 hf
end
end
section
/-! ===== Clues ===== -/
/-- behind hour h all that was seen is so: k sights from i on -/
def asB (mem : zMem) (h : Int) (l : Int → Int) : Nat → Int → Bool
  | 0, _ => true
  | k + 1, i => if mem 21 i = h ∧ ¬ (mem 22 i < mem 5 4 ∧ l (mem 22 i) = mem 23 i) then false else asB mem h l k (i + 1)
/-- hour by hour while it is as seen -/
def coB (mem : zMem) (st un : Int → Int) : Nat → Int → zS → Bool × zS
  | 0, _, s => (true, s)
  | k + 1, h, s => if asB mem h (hourS (mem 5 4) (mem 7) (mem 9) st un h s).2.1 (mem 20 3).toNat 0 = true then coB mem st un k (h + 1) (hourS (mem 5 4) (mem 7) (mem 9) st un h s) else (false, hourS (mem 5 4) (mem 7) (mem 9) st un h s)
def sghC (mem : zMem) : Prop := (0 ≤ mem 20 3 ∧ mem 20 3 ≤ 8) ∧ ∀ i, 0 ≤ i → i < mem 20 3 → (0 ≤ mem 21 i ∧ mem 21 i ≤ 11) ∧ (0 ≤ mem 22 i ∧ mem 22 i ≤ 7) ∧ (0 ≤ mem 23 i ∧ mem 23 i ≤ 99)
section
variable {mem : zMem} {st hd df : Int → Int} {s : zS} {L : zL} {Q : Option zVal → zMem → Prop}
theorem as_loop {h : Int} (hS : sghC mem) (hP : 0 ≤ mem 5 4 ∧ mem 5 4 ≤ 8) (hh : 0 ≤ h ∧ h ≤ 11) (hs : sInv (mem 5 4) s) :
    ∀ (k : Nat) (i : Int), 0 ≤ i → i + k = mem 20 3 → Q (some (vi (bi (asB mem h s.2.1 k i)))) (putC mem L s) → AW m_Cl_isAsSeenBehind 2 [some (vr 35), some (vi h), some (vi i), none] [] (putC mem L s) Q := by
  obtain ⟨d, l, g, n, fh, fw⟩ := s
  have hl := hs.2.1
  dsimp only at hl ⊢
  intro k
  induction k with
  | zero =>
    intro i h0 hi hx
    have h20 := hS.1
    refine zw_iload_n ok_Cl_isAsSeenBehind rfl rfl ?_
    refine zw_aload_n ok_Cl_isAsSeenBehind rfl rfl ?_
    refine zw_getr ok_Cl_isAsSeenBehind rfl fl_Cl_19 rfl rfl ?_
    refine zw_geti ok_Cl_isAsSeenBehind rfl fl_Cl_28 rfl rfl ?_
    try simp only [rd_C9, rd_C10, rd_C11, rd_C12, rd_C25, rd_C26, rd_C27, rd_C28, rd_C29, rd_C_0, rd_C_1, rd_C_2, rd_C_3, rd_C_4, rd_C_5, rd_C_6, rd_C_7, rd_C_8, rd_C_9, rd_C_10, rd_C_11, rd_C_12, rd_C_13, rd_C_14, rd_C_15, rd_C_16, rd_C_17, rd_C_18, rd_C_19, rd_C_20, rd_C_21, rd_C_22, rd_C_23, rd_C_30, rd_C_31, rd_C_32, rd_C_33, rd_C_34, rd_C_35, rd_C_36, rd_C_37, rd_C_38, rd_C_39, rd_C_40, rd_C_41, rd_C_42, rd_C_43, rd_C_44, rd_C_45, rd_C_46, rd_C_47, rd_C_48, rd_C_49, rd_C_50, rd_C_51, rd_C_52, rd_C_53, rd_C_54, rd_C_55, rd_C_56, rd_C_57, rd_C_58, rd_C_59, rd_C_60, rd_C_61, rd_C_62, rd_C_63, rd_C_64, rd_C_65, wr_C9, wr_C10, wr_C11, wr_C12, wr_C25, wr_C26, wr_C27, wr_C28, wr_C29, wp_C25, wp_C26, wp_C27, wp_C28, wp_C29]
    refine zw_icmp_ge 79 ok_Cl_isAsSeenBehind rfl (by decide) (by omega) (fun h10 => ?_) (fun h10 => ?_)
    · refine zw_iconst ok_Cl_isAsSeenBehind rfl ?_
      exact zw_zret ok_Cl_isAsSeenBehind rfl rfl (by first | exact Or.inl rfl | exact Or.inr rfl | exact bi01 _) (hx)
    · exfalso; omega
  | succ k ih =>
    intro i h0 hi hx
    have h20 := hS.1
    have q := hS.2 i h0 (by omega)
    unfold asB at hx
    have next : ¬ (mem 21 i = h ∧ ¬ (mem 22 i < mem 5 4 ∧ l (mem 22 i) = mem 23 i)) → AW m_Cl_isAsSeenBehind 73 [some (vr 35), some (vi h), some (vi i), none] [] (putC mem L (d, l, g, n, fh, fw)) Q := by
      intro hn
      rw [if_neg hn] at hx
      refine zw_iinc ok_Cl_isAsSeenBehind rfl rfl rfl (by decide) ?_
      refine zw_goto 2 ok_Cl_isAsSeenBehind rfl (by decide) ?_
      exact ih (i + 1) (by omega) (by omega) hx
    refine zw_iload_n ok_Cl_isAsSeenBehind rfl rfl ?_
    refine zw_aload_n ok_Cl_isAsSeenBehind rfl rfl ?_
    refine zw_getr ok_Cl_isAsSeenBehind rfl fl_Cl_19 rfl rfl ?_
    refine zw_geti ok_Cl_isAsSeenBehind rfl fl_Cl_28 rfl rfl ?_
    try simp only [rd_C9, rd_C10, rd_C11, rd_C12, rd_C25, rd_C26, rd_C27, rd_C28, rd_C29, rd_C_0, rd_C_1, rd_C_2, rd_C_3, rd_C_4, rd_C_5, rd_C_6, rd_C_7, rd_C_8, rd_C_9, rd_C_10, rd_C_11, rd_C_12, rd_C_13, rd_C_14, rd_C_15, rd_C_16, rd_C_17, rd_C_18, rd_C_19, rd_C_20, rd_C_21, rd_C_22, rd_C_23, rd_C_30, rd_C_31, rd_C_32, rd_C_33, rd_C_34, rd_C_35, rd_C_36, rd_C_37, rd_C_38, rd_C_39, rd_C_40, rd_C_41, rd_C_42, rd_C_43, rd_C_44, rd_C_45, rd_C_46, rd_C_47, rd_C_48, rd_C_49, rd_C_50, rd_C_51, rd_C_52, rd_C_53, rd_C_54, rd_C_55, rd_C_56, rd_C_57, rd_C_58, rd_C_59, rd_C_60, rd_C_61, rd_C_62, rd_C_63, rd_C_64, rd_C_65, wr_C9, wr_C10, wr_C11, wr_C12, wr_C25, wr_C26, wr_C27, wr_C28, wr_C29, wp_C25, wp_C26, wp_C27, wp_C28, wp_C29]
    refine zw_icmp_ge 79 ok_Cl_isAsSeenBehind rfl (by decide) (by omega) (fun h10 => ?_) (fun h10 => ?_)
    · exfalso; omega
    · refine zw_aload_n ok_Cl_isAsSeenBehind rfl rfl ?_
      refine zw_getr ok_Cl_isAsSeenBehind rfl fl_Cl_19 rfl rfl ?_
      refine zw_getr ok_Cl_isAsSeenBehind rfl fl_Cl_80 rfl rfl ?_
      refine zw_iload_n ok_Cl_isAsSeenBehind rfl rfl ?_
      refine zw_iald ok_Cl_isAsSeenBehind rfl rfl (by omega) ?_
      try simp only [rd_C9, rd_C10, rd_C11, rd_C12, rd_C25, rd_C26, rd_C27, rd_C28, rd_C29, rd_C_0, rd_C_1, rd_C_2, rd_C_3, rd_C_4, rd_C_5, rd_C_6, rd_C_7, rd_C_8, rd_C_9, rd_C_10, rd_C_11, rd_C_12, rd_C_13, rd_C_14, rd_C_15, rd_C_16, rd_C_17, rd_C_18, rd_C_19, rd_C_20, rd_C_21, rd_C_22, rd_C_23, rd_C_30, rd_C_31, rd_C_32, rd_C_33, rd_C_34, rd_C_35, rd_C_36, rd_C_37, rd_C_38, rd_C_39, rd_C_40, rd_C_41, rd_C_42, rd_C_43, rd_C_44, rd_C_45, rd_C_46, rd_C_47, rd_C_48, rd_C_49, rd_C_50, rd_C_51, rd_C_52, rd_C_53, rd_C_54, rd_C_55, rd_C_56, rd_C_57, rd_C_58, rd_C_59, rd_C_60, rd_C_61, rd_C_62, rd_C_63, rd_C_64, rd_C_65, wr_C9, wr_C10, wr_C11, wr_C12, wr_C25, wr_C26, wr_C27, wr_C28, wr_C29, wp_C25, wp_C26, wp_C27, wp_C28, wp_C29]
      refine zw_istore_n ok_Cl_isAsSeenBehind rfl rfl (by decide) ?_
      refine zw_aload_n ok_Cl_isAsSeenBehind rfl rfl ?_
      refine zw_getr ok_Cl_isAsSeenBehind rfl fl_Cl_19 rfl rfl ?_
      refine zw_getr ok_Cl_isAsSeenBehind rfl fl_Cl_83 rfl rfl ?_
      refine zw_iload_n ok_Cl_isAsSeenBehind rfl rfl ?_
      refine zw_iald ok_Cl_isAsSeenBehind rfl rfl (by omega) ?_
      try simp only [rd_C9, rd_C10, rd_C11, rd_C12, rd_C25, rd_C26, rd_C27, rd_C28, rd_C29, rd_C_0, rd_C_1, rd_C_2, rd_C_3, rd_C_4, rd_C_5, rd_C_6, rd_C_7, rd_C_8, rd_C_9, rd_C_10, rd_C_11, rd_C_12, rd_C_13, rd_C_14, rd_C_15, rd_C_16, rd_C_17, rd_C_18, rd_C_19, rd_C_20, rd_C_21, rd_C_22, rd_C_23, rd_C_30, rd_C_31, rd_C_32, rd_C_33, rd_C_34, rd_C_35, rd_C_36, rd_C_37, rd_C_38, rd_C_39, rd_C_40, rd_C_41, rd_C_42, rd_C_43, rd_C_44, rd_C_45, rd_C_46, rd_C_47, rd_C_48, rd_C_49, rd_C_50, rd_C_51, rd_C_52, rd_C_53, rd_C_54, rd_C_55, rd_C_56, rd_C_57, rd_C_58, rd_C_59, rd_C_60, rd_C_61, rd_C_62, rd_C_63, rd_C_64, rd_C_65, wr_C9, wr_C10, wr_C11, wr_C12, wr_C25, wr_C26, wr_C27, wr_C28, wr_C29, wp_C25, wp_C26, wp_C27, wp_C28, wp_C29]
      refine zw_iload_n ok_Cl_isAsSeenBehind rfl rfl ?_
      refine zw_icmp_ne 73 ok_Cl_isAsSeenBehind rfl (by decide) (by omega) (fun h33 => ?_) (fun h33 => ?_)
      · refine zw_mask [true, true, true, false] rfl ?_
        exact next (fun z => h33 z.1)
      · refine zw_iload_n ok_Cl_isAsSeenBehind rfl rfl ?_
        refine zw_aload_n ok_Cl_isAsSeenBehind rfl rfl ?_
        refine zw_getr ok_Cl_isAsSeenBehind rfl fl_Cl_15 rfl rfl ?_
        refine zw_getr ok_Cl_isAsSeenBehind rfl fl_Cl_58 rfl rfl ?_
        refine zw_geti ok_Cl_isAsSeenBehind rfl fl_Cl_62 rfl rfl ?_
        try simp only [rd_C9, rd_C10, rd_C11, rd_C12, rd_C25, rd_C26, rd_C27, rd_C28, rd_C29, rd_C_0, rd_C_1, rd_C_2, rd_C_3, rd_C_4, rd_C_5, rd_C_6, rd_C_7, rd_C_8, rd_C_9, rd_C_10, rd_C_11, rd_C_12, rd_C_13, rd_C_14, rd_C_15, rd_C_16, rd_C_17, rd_C_18, rd_C_19, rd_C_20, rd_C_21, rd_C_22, rd_C_23, rd_C_30, rd_C_31, rd_C_32, rd_C_33, rd_C_34, rd_C_35, rd_C_36, rd_C_37, rd_C_38, rd_C_39, rd_C_40, rd_C_41, rd_C_42, rd_C_43, rd_C_44, rd_C_45, rd_C_46, rd_C_47, rd_C_48, rd_C_49, rd_C_50, rd_C_51, rd_C_52, rd_C_53, rd_C_54, rd_C_55, rd_C_56, rd_C_57, rd_C_58, rd_C_59, rd_C_60, rd_C_61, rd_C_62, rd_C_63, rd_C_64, rd_C_65, wr_C9, wr_C10, wr_C11, wr_C12, wr_C25, wr_C26, wr_C27, wr_C28, wr_C29, wp_C25, wp_C26, wp_C27, wp_C28, wp_C29]
        refine zw_icmp_ge 71 ok_Cl_isAsSeenBehind rfl (by decide) (by omega) (fun h47 => ?_) (fun h47 => ?_)
        · refine zw_iconst ok_Cl_isAsSeenBehind rfl ?_
          exact zw_zret ok_Cl_isAsSeenBehind rfl rfl (by first | exact Or.inl rfl | exact Or.inr rfl | exact bi01 _) ((by rw [if_pos ⟨h33, fun z => by omega⟩] at hx; exact hx))
        · have ql := hl (mem 22 i) (by omega) (by omega)
          refine zw_aload_n ok_Cl_isAsSeenBehind rfl rfl ?_
          refine zw_getr ok_Cl_isAsSeenBehind rfl fl_Cl_15 rfl rfl ?_
          refine zw_getr ok_Cl_isAsSeenBehind rfl fl_Cl_42 rfl rfl ?_
          refine zw_iload_n ok_Cl_isAsSeenBehind rfl rfl ?_
          refine zw_iald ok_Cl_isAsSeenBehind rfl rfl (by omega) ?_
          try simp only [rd_C9, rd_C10, rd_C11, rd_C12, rd_C25, rd_C26, rd_C27, rd_C28, rd_C29, rd_C_0, rd_C_1, rd_C_2, rd_C_3, rd_C_4, rd_C_5, rd_C_6, rd_C_7, rd_C_8, rd_C_9, rd_C_10, rd_C_11, rd_C_12, rd_C_13, rd_C_14, rd_C_15, rd_C_16, rd_C_17, rd_C_18, rd_C_19, rd_C_20, rd_C_21, rd_C_22, rd_C_23, rd_C_30, rd_C_31, rd_C_32, rd_C_33, rd_C_34, rd_C_35, rd_C_36, rd_C_37, rd_C_38, rd_C_39, rd_C_40, rd_C_41, rd_C_42, rd_C_43, rd_C_44, rd_C_45, rd_C_46, rd_C_47, rd_C_48, rd_C_49, rd_C_50, rd_C_51, rd_C_52, rd_C_53, rd_C_54, rd_C_55, rd_C_56, rd_C_57, rd_C_58, rd_C_59, rd_C_60, rd_C_61, rd_C_62, rd_C_63, rd_C_64, rd_C_65, wr_C9, wr_C10, wr_C11, wr_C12, wr_C25, wr_C26, wr_C27, wr_C28, wr_C29, wp_C25, wp_C26, wp_C27, wp_C28, wp_C29]
          refine zw_aload_n ok_Cl_isAsSeenBehind rfl rfl ?_
          refine zw_getr ok_Cl_isAsSeenBehind rfl fl_Cl_19 rfl rfl ?_
          refine zw_getr ok_Cl_isAsSeenBehind rfl fl_Cl_86 rfl rfl ?_
          refine zw_iload_n ok_Cl_isAsSeenBehind rfl rfl ?_
          refine zw_iald ok_Cl_isAsSeenBehind rfl rfl (by omega) ?_
          try simp only [rd_C9, rd_C10, rd_C11, rd_C12, rd_C25, rd_C26, rd_C27, rd_C28, rd_C29, rd_C_0, rd_C_1, rd_C_2, rd_C_3, rd_C_4, rd_C_5, rd_C_6, rd_C_7, rd_C_8, rd_C_9, rd_C_10, rd_C_11, rd_C_12, rd_C_13, rd_C_14, rd_C_15, rd_C_16, rd_C_17, rd_C_18, rd_C_19, rd_C_20, rd_C_21, rd_C_22, rd_C_23, rd_C_30, rd_C_31, rd_C_32, rd_C_33, rd_C_34, rd_C_35, rd_C_36, rd_C_37, rd_C_38, rd_C_39, rd_C_40, rd_C_41, rd_C_42, rd_C_43, rd_C_44, rd_C_45, rd_C_46, rd_C_47, rd_C_48, rd_C_49, rd_C_50, rd_C_51, rd_C_52, rd_C_53, rd_C_54, rd_C_55, rd_C_56, rd_C_57, rd_C_58, rd_C_59, rd_C_60, rd_C_61, rd_C_62, rd_C_63, rd_C_64, rd_C_65, wr_C9, wr_C10, wr_C11, wr_C12, wr_C25, wr_C26, wr_C27, wr_C28, wr_C29, wp_C25, wp_C26, wp_C27, wp_C28, wp_C29]
          refine zw_icmp_eq 73 ok_Cl_isAsSeenBehind rfl (by decide) (by omega) (fun h68 => ?_) (fun h68 => ?_)
          · refine zw_mask [true, true, true, false] rfl ?_
            exact next (fun z => z.2 ⟨by omega, h68⟩)
          · refine zw_iconst ok_Cl_isAsSeenBehind rfl ?_
            exact zw_zret ok_Cl_isAsSeenBehind rfl rfl (by first | exact Or.inl rfl | exact Or.inr rfl | exact bi01 _) ((by rw [if_pos ⟨h33, fun z => by omega⟩] at hx; exact hx))
theorem ct_Cl_isAsSeenBehind {h : Int} (hS : sghC mem) (hP : 0 ≤ mem 5 4 ∧ mem 5 4 ≤ 8) (hh : 0 ≤ h ∧ h ≤ 11) (hs : sInv (mem 5 4) s) : zCbp m_Cl_isAsSeenBehind [vr 35, vi h] (putC mem L s) (asB mem h s.2.1 (mem 20 3).toNat 0) := by
  refine zCt.of [some (vr 35), some (vi h), none, none] ok_Cl_isAsSeenBehind (Nat.le_of_ble_eq_true rfl) rfl ?_
  have h20 := hS.1
  refine zw_iconst ok_Cl_isAsSeenBehind rfl ?_
  refine zw_istore_n ok_Cl_isAsSeenBehind rfl rfl (by decide) ?_
  exact as_loop hS hP hh hs (mem 20 3).toNat 0 (by omega) (by omega) ⟨rfl, rfl⟩
theorem co_loop (hC : okC mem) (hS : sghC mem) (hst : ∀ i, 0 ≤ i → i < 96 → -1 ≤ st i ∧ st i ≤ 7) :
    ∀ (k : Nat) (h : Int) (s : zS), 0 ≤ h → h + k = 12 → sInv (mem 5 4) s → (-1 ≤ s.2.2.2.2.1 ∧ s.2.2.2.2.1 ≤ 11) → Q (some (vi (bi (coB mem st (fun h => zor (hd h) (mem 5 5)) k h s).1))) (putC mem (st, hd, df) (coB mem st (fun h => zor (hd h) (mem 5 5)) k h s).2) → AW m_Cl_comesOutAsSeen 11 [some (vr 35), some (vi (bi true)), some (vi h)] [] (putC mem (st, hd, df) s) Q := by
  intro k
  induction k with
  | zero =>
    intro h s h0 hk hs hf hx
    refine zw_iload_n ok_Cl_comesOutAsSeen rfl rfl ?_
    refine zw_bipush ok_Cl_comesOutAsSeen rfl (by decide) ?_
    refine zw_icmp_ge 41 ok_Cl_comesOutAsSeen rfl (by decide) (by omega) (fun h14 => ?_) (fun h14 => ?_)
    · refine zw_iload_n ok_Cl_comesOutAsSeen rfl rfl ?_
      exact zw_zret ok_Cl_comesOutAsSeen rfl rfl (by first | exact Or.inl rfl | exact Or.inr rfl | exact bi01 _) (hx)
    · exfalso; omega
  | succ k ih =>
    intro h s h0 hk hs hf hx
    unfold coB at hx
    have hs2 := hourS_inv (st := st) (un := fun h => zor (hd h) (mem 5 5)) (h := h) hC.2.1 hs
    have hf2 := hourS_fh (P := mem 5 4) (can := mem 7) (step := mem 9) (st := st) (un := fun h => zor (hd h) (mem 5 5)) (h := h) (by omega) hf
    have ex : Q (some (vi (bi false))) (putC mem (st, hd, df) (hourS (mem 5 4) (mem 7) (mem 9) st (fun h => zor (hd h) (mem 5 5)) h s)) → AW m_Cl_comesOutAsSeen 11 [some (vr 35), some (vi (bi false)), some (vi (h + 1))] [] (putC mem (st, hd, df) (hourS (mem 5 4) (mem 7) (mem 9) st (fun h => zor (hd h) (mem 5 5)) h s)) Q := by
      intro hq
      refine zw_iload_n ok_Cl_comesOutAsSeen rfl rfl ?_
      refine zw_bipush ok_Cl_comesOutAsSeen rfl (by decide) ?_
      refine zw_icmp_ge 41 ok_Cl_comesOutAsSeen rfl (by decide) (by omega) (fun h14 => ?_) (fun h14 => ?_)
      · refine zw_iload_n ok_Cl_comesOutAsSeen rfl rfl ?_
        exact zw_zret ok_Cl_comesOutAsSeen rfl rfl (by first | exact Or.inl rfl | exact Or.inr rfl | exact bi01 _) (hq)
      · refine zw_iload_n ok_Cl_comesOutAsSeen rfl rfl ?_
        first | refine zw_ifeq_d 41 ok_Cl_comesOutAsSeen rfl (by decide) (fun h18 => ?_) (fun h18 => ?_) | refine zw_ifeq_b 41 ok_Cl_comesOutAsSeen rfl (by decide) (fun h18 => ?_) (fun h18 => ?_) | refine zw_if_eq 41 ok_Cl_comesOutAsSeen rfl (by decide) (by omega) (fun h18 => ?_) (fun h18 => ?_)
        · refine zw_iload_n ok_Cl_comesOutAsSeen rfl rfl ?_
          exact zw_zret ok_Cl_comesOutAsSeen rfl rfl (by first | exact Or.inl rfl | exact Or.inr rfl | exact bi01 _) (hq)
        · cases h18
    refine zw_iload_n ok_Cl_comesOutAsSeen rfl rfl ?_
    refine zw_bipush ok_Cl_comesOutAsSeen rfl (by decide) ?_
    refine zw_icmp_ge 41 ok_Cl_comesOutAsSeen rfl (by decide) (by omega) (fun h14 => ?_) (fun h14 => ?_)
    · exfalso; omega
    · refine zw_iload_n ok_Cl_comesOutAsSeen rfl rfl ?_
      first | refine zw_ifeq_d 41 ok_Cl_comesOutAsSeen rfl (by decide) (fun h18 => ?_) (fun h18 => ?_) | refine zw_ifeq_b 41 ok_Cl_comesOutAsSeen rfl (by decide) (fun h18 => ?_) (fun h18 => ?_) | refine zw_if_eq 41 ok_Cl_comesOutAsSeen rfl (by decide) (by omega) (fun h18 => ?_) (fun h18 => ?_)
      · cases h18
      · refine zw_aload_n ok_Cl_comesOutAsSeen rfl rfl ?_
        refine zw_getr ok_Cl_comesOutAsSeen rfl fl_Cl_15 rfl rfl ?_
        refine zw_iload_n ok_Cl_comesOutAsSeen rfl rfl ?_
        refine zw_Vvp ok_Cl_comesOutAsSeen rfl ok_Co_walkThrough lk_Cl_72 (by decide) rfl rfl (Nat.le_of_ble_eq_true rfl) (ct_Co_walkThrough hC.2.1 rfl (by omega) hst hs hf) ?_
        refine zw_aload_n ok_Cl_comesOutAsSeen rfl rfl ?_
        refine zw_iload_n ok_Cl_comesOutAsSeen rfl rfl ?_
        refine zw_Vbp ok_Cl_comesOutAsSeen rfl ok_Cl_isAsSeenBehind lk_Cl_76 (by decide) rfl rfl (Nat.le_of_ble_eq_true rfl) (ct_Cl_isAsSeenBehind hS hC.1.1 (by omega) hs2) ?_
        refine zw_istore_n ok_Cl_comesOutAsSeen rfl rfl (by decide) ?_
        refine zw_iinc ok_Cl_comesOutAsSeen rfl rfl rfl (by decide) ?_
        refine zw_goto 11 ok_Cl_comesOutAsSeen rfl (by decide) ?_
        cases hb : asB mem h (hourS (mem 5 4) (mem 7) (mem 9) st (fun h => zor (hd h) (mem 5 5)) h s).2.1 (mem 20 3).toNat 0
        · rw [if_neg (by rw [hb]; decide)] at hx
          exact ex hx
        · rw [if_pos hb] at hx
          exact ih (h + 1) _ (by omega) (by omega) hs2 hf2 hx
theorem ct_Cl_comesOutAsSeen (hC : okC mem) (hS : sghC mem) (hst : ∀ i, 0 ≤ i → i < 96 → -1 ≤ st i ∧ st i ≤ 7) (hdf : dfI (mem 5 4) df) : zCb m_Cl_comesOutAsSeen [vr 35] (putC mem (st, hd, df) s) (coB mem st (fun h => zor (hd h) (mem 5 5)) 12 0 (begS df s.1 s.2.1)).1 (fun m2 => m2 = putC mem (st, hd, df) (coB mem st (fun h => zor (hd h) (mem 5 5)) 12 0 (begS df s.1 s.2.1)).2) := by
  refine zCt.of [some (vr 35), none, none] ok_Cl_comesOutAsSeen (Nat.le_of_ble_eq_true rfl) rfl ?_
  refine zw_iconst ok_Cl_comesOutAsSeen rfl ?_
  refine zw_istore_n ok_Cl_comesOutAsSeen rfl rfl (by decide) ?_
  refine zw_aload_n ok_Cl_comesOutAsSeen rfl rfl ?_
  refine zw_getr ok_Cl_comesOutAsSeen rfl fl_Cl_15 rfl rfl ?_
  refine zw_Vvp ok_Cl_comesOutAsSeen rfl ok_Co_begin lk_Cl_69 (by decide) rfl rfl (Nat.le_of_ble_eq_true rfl) (ct_Co_begin) ?_
  refine zw_iconst ok_Cl_comesOutAsSeen rfl ?_
  refine zw_istore_n ok_Cl_comesOutAsSeen rfl rfl (by decide) ?_
  exact co_loop hC hS hst 12 0 _ (by omega) (by omega) (begS_inv hC.2.1.2.1 hdf) ⟨Int.le_refl _, (show (-1 : Int) ≤ 11 by decide)⟩ ⟨rfl, rfl⟩
theorem asB_of {mem m2 : zMem} (h : ∀ k, k < 24 → m2 k = mem k) (hh : Int) (l : Int → Int) : ∀ (k : Nat) (i : Int), asB m2 hh l k i = asB mem hh l k i
  | 0, _ => rfl
  | k + 1, i => by
    unfold asB
    rw [h 21 (by omega), h 22 (by omega), h 23 (by omega), h 5 (by omega), asB_of h hh l k (i + 1)]
theorem coB_of {mem m2 : zMem} (h : ∀ k, k < 24 → m2 k = mem k) (st un : Int → Int) : ∀ (k : Nat) (i : Int) (s : zS), coB m2 st un k i s = coB mem st un k i s
  | 0, _, _ => rfl
  | k + 1, i, s => by
    unfold coB
    rw [h 5 (by omega), h 7 (by omega), h 9 (by omega), h 20 (by omega), asB_of h, coB_of h st un k (i + 1)]
/-- the bits of those that hold -/
def bitsS (nv : Int → Bool) (k : Int) (b : Int) : Int := if nv k = true then zor b (zshl 1 k) else b
/-- without old bow k: as seen or not, and how low each then bows -/
def nvC (mem : zMem) (ol ll : Int) (b : Bool) (lw : Int → Int) : Prop := ∀ (L : zL) (d l : Int → Int), (coB mem (layS mem ol ll L).1 (fun h => zor ((layS mem ol ll L).2.1 h) (mem 5 5)) 12 0 (begS (layS mem ol ll L).2.2 d l)).1 = b ∧ (b = true → ∀ p, 0 ≤ p → p < mem 5 4 → (coB mem (layS mem ol ll L).1 (fun h => zor ((layS mem ol ll L).2.1 h) (mem 5 5)) 12 0 (begS (layS mem ol ll L).2.2 d l)).2.2.1 p = lw p)
theorem old_loop {nv : Int → Bool} {lw : Int → Int → Int} (hC : okC mem) (hS : sghC mem) (hnv : ∀ k, 0 ≤ k → k < mem 12 3 → nvC mem k 0 (nv k) (lw k)) :
    ∀ (k : Nat) (j b : Int) (f : Int → Int) (L : zL) (s : zS), 0 ≤ j → j + k = mem 12 3 → (∀ i p, 0 ≤ i → i < j → nv i = true → 0 ≤ p → p < mem 5 4 → f (i * 8 + p) = lw i p) → (∀ f L s, (∀ i p, 0 ≤ i → i < mem 12 3 → nv i = true → 0 ≤ p → p < mem 5 4 → f (i * 8 + p) = lw i p) → Q (some (vi (lp (bitsS nv) k j b))) (putC (zput mem 36 f) L s)) → AW m_Cl_oldBowsThatNeverWere 4 [some (vr 35), some (vi b), some (vi j)] [] (putC (zput mem 36 f) L s) Q := by
  have h12 := hC.1.2.2.2.2.1
  intro k
  induction k with
  | zero =>
    intro j b f L s h0 hj hf hx
    refine zw_iload_n ok_Cl_oldBowsThatNeverWere rfl rfl ?_
    refine zw_aload_n ok_Cl_oldBowsThatNeverWere rfl rfl ?_
    refine zw_getr ok_Cl_oldBowsThatNeverWere rfl fl_Cl_15 rfl rfl ?_
    refine zw_getr ok_Cl_oldBowsThatNeverWere rfl fl_Cl_23 rfl rfl ?_
    refine zw_geti ok_Cl_oldBowsThatNeverWere rfl fl_Cl_28 rfl rfl ?_
    try simp only [rd_C9, rd_C10, rd_C11, rd_C12, rd_C25, rd_C26, rd_C27, rd_C28, rd_C29, rd_C_0, rd_C_1, rd_C_2, rd_C_3, rd_C_4, rd_C_5, rd_C_6, rd_C_7, rd_C_8, rd_C_9, rd_C_10, rd_C_11, rd_C_12, rd_C_13, rd_C_14, rd_C_15, rd_C_16, rd_C_17, rd_C_18, rd_C_19, rd_C_20, rd_C_21, rd_C_22, rd_C_23, rd_C_30, rd_C_31, rd_C_32, rd_C_33, rd_C_34, rd_C_35, rd_C_36, rd_C_37, rd_C_38, rd_C_39, rd_C_40, rd_C_41, rd_C_42, rd_C_43, rd_C_44, rd_C_45, rd_C_46, rd_C_47, rd_C_48, rd_C_49, rd_C_50, rd_C_51, rd_C_52, rd_C_53, rd_C_54, rd_C_55, rd_C_56, rd_C_57, rd_C_58, rd_C_59, rd_C_60, rd_C_61, rd_C_62, rd_C_63, rd_C_64, rd_C_65, wr_C9, wr_C10, wr_C11, wr_C12, wr_C25, wr_C26, wr_C27, wr_C28, wr_C29, wp_C25, wp_C26, wp_C27, wp_C28, wp_C29, zput_ne (show (12 : Nat) ≠ 36 by decide)]
    refine zw_icmp_ge 67 ok_Cl_oldBowsThatNeverWere rfl (by decide) (by omega) (fun h15 => ?_) (fun h15 => ?_)
    · refine zw_iload_n ok_Cl_oldBowsThatNeverWere rfl rfl ?_
      exact zw_iret ok_Cl_oldBowsThatNeverWere rfl rfl (hx f L s (fun i p q1 q2 => hf i p q1 (by omega)))
    · exfalso; omega
  | succ k ih =>
    intro j b f L s h0 hj hf hx
    have lo : ∀ q, q < 24 → zput mem 36 f q = mem q := fun q hq => zput_ne (by omega)
    have hC1 := okC_of lo hC
    have hS1 : sghC (zput mem 36 f) := hS
    obtain ⟨st0, hd0, df0⟩ := L
    have hst := layS_st (ol := j) (ll := 0) (L := (st0, hd0, df0)) hC
    have hdf := layS_df (ol := j) (ll := 0) (L := (st0, hd0, df0)) hC
    have eL := layS_of lo j 0 (st0, hd0, df0)
    have hnj := hnv j h0 (by omega) (st0, hd0, df0) s.1 s.2.1
    have hP8 := hC.2.1.2.1
    generalize layS mem j 0 (st0, hd0, df0) = L1 at hst hdf eL hnj
    obtain ⟨st, hd, df⟩ := L1
    dsimp only at hst hdf hnj
    have hdf1 : dfI (zput mem 36 f 5 4) df := hdf
    rw [lp_s] at hx
    have next : ∀ b2 f2 s2, b2 = bitsS nv j b → (∀ i p, 0 ≤ i → i < j + 1 → nv i = true → 0 ≤ p → p < mem 5 4 → f2 (i * 8 + p) = lw i p) → AW m_Cl_oldBowsThatNeverWere 61 [some (vr 35), some (vi b2), some (vi j)] [] (putC (zput mem 36 f2) (st, hd, df) s2) Q := by
      intro b2 f2 s2 hb2 hf2
      subst hb2
      refine zw_iinc ok_Cl_oldBowsThatNeverWere rfl rfl rfl (by decide) ?_
      refine zw_goto 4 ok_Cl_oldBowsThatNeverWere rfl (by decide) ?_
      exact ih (j + 1) _ f2 _ _ (by omega) (by omega) hf2 hx
    unfold bitsS at next
    refine zw_iload_n ok_Cl_oldBowsThatNeverWere rfl rfl ?_
    refine zw_aload_n ok_Cl_oldBowsThatNeverWere rfl rfl ?_
    refine zw_getr ok_Cl_oldBowsThatNeverWere rfl fl_Cl_15 rfl rfl ?_
    refine zw_getr ok_Cl_oldBowsThatNeverWere rfl fl_Cl_23 rfl rfl ?_
    refine zw_geti ok_Cl_oldBowsThatNeverWere rfl fl_Cl_28 rfl rfl ?_
    try simp only [rd_C9, rd_C10, rd_C11, rd_C12, rd_C25, rd_C26, rd_C27, rd_C28, rd_C29, rd_C_0, rd_C_1, rd_C_2, rd_C_3, rd_C_4, rd_C_5, rd_C_6, rd_C_7, rd_C_8, rd_C_9, rd_C_10, rd_C_11, rd_C_12, rd_C_13, rd_C_14, rd_C_15, rd_C_16, rd_C_17, rd_C_18, rd_C_19, rd_C_20, rd_C_21, rd_C_22, rd_C_23, rd_C_30, rd_C_31, rd_C_32, rd_C_33, rd_C_34, rd_C_35, rd_C_36, rd_C_37, rd_C_38, rd_C_39, rd_C_40, rd_C_41, rd_C_42, rd_C_43, rd_C_44, rd_C_45, rd_C_46, rd_C_47, rd_C_48, rd_C_49, rd_C_50, rd_C_51, rd_C_52, rd_C_53, rd_C_54, rd_C_55, rd_C_56, rd_C_57, rd_C_58, rd_C_59, rd_C_60, rd_C_61, rd_C_62, rd_C_63, rd_C_64, rd_C_65, wr_C9, wr_C10, wr_C11, wr_C12, wr_C25, wr_C26, wr_C27, wr_C28, wr_C29, wp_C25, wp_C26, wp_C27, wp_C28, wp_C29, zput_ne (show (12 : Nat) ≠ 36 by decide)]
    refine zw_icmp_ge 67 ok_Cl_oldBowsThatNeverWere rfl (by decide) (by omega) (fun h15 => ?_) (fun h15 => ?_)
    · exfalso; omega
    · refine zw_aload_n ok_Cl_oldBowsThatNeverWere rfl rfl ?_
      refine zw_getr ok_Cl_oldBowsThatNeverWere rfl fl_Cl_15 rfl rfl ?_
      refine zw_iload_n ok_Cl_oldBowsThatNeverWere rfl rfl ?_
      refine zw_iconst ok_Cl_oldBowsThatNeverWere rfl ?_
      refine zw_Vvp ok_Cl_oldBowsThatNeverWere rfl ok_Co_layOut lk_Cl_34 (by decide) rfl rfl (Nat.le_of_ble_eq_true rfl) (ct_Co_layOut hC1.1 (by omega)) ?_
      rw [eL]
      refine zw_aload_n ok_Cl_oldBowsThatNeverWere rfl rfl ?_
      refine zw_Vb ok_Cl_oldBowsThatNeverWere rfl ok_Cl_comesOutAsSeen lk_Cl_38 (by decide) rfl rfl (Nat.le_of_ble_eq_true rfl) (ct_Cl_comesOutAsSeen hC1 hS1 hst hdf1) (fun m28 h28 => ?_)
      subst h28
      rw [coB_of lo, lo 5 (by omega)]
      generalize coB mem st (fun h => zor (hd h) (mem 5 5)) 12 0 (begS df s.1 s.2.1) = X at hnj ⊢
      obtain ⟨xb, xd, xl, xg, xn, xfh, xfw⟩ := X
      dsimp only at hnj ⊢
      obtain ⟨hxb, hnl⟩ := hnj
      subst hxb
      refine zw_ifeq_b 61 ok_Cl_oldBowsThatNeverWere rfl (by decide) (fun h31 => ?_) (fun h31 => ?_)
      · refine next b f _ (by rw [if_neg (by simp [h31])]) (fun i p q1 q2 q3 q4 q5 => ?_)
        by_cases e : i = j
        · subst e; rw [h31] at q3; cases q3
        · exact hf i p q1 (by omega) q3 q4 q5
      · refine zw_iload_n ok_Cl_oldBowsThatNeverWere rfl rfl ?_
        refine zw_iconst ok_Cl_oldBowsThatNeverWere rfl ?_
        refine zw_iload_n ok_Cl_oldBowsThatNeverWere rfl rfl ?_
        refine zw_ishl ok_Cl_oldBowsThatNeverWere rfl ?_
        refine zw_ior ok_Cl_oldBowsThatNeverWere rfl ?_
        refine zw_istore_n ok_Cl_oldBowsThatNeverWere rfl rfl (by decide) ?_
        refine zw_aload_n ok_Cl_oldBowsThatNeverWere rfl rfl ?_
        refine zw_getr ok_Cl_oldBowsThatNeverWere rfl fl_Cl_15 rfl rfl ?_
        refine zw_getr ok_Cl_oldBowsThatNeverWere rfl fl_Cl_42 rfl rfl ?_
        refine zw_iconst ok_Cl_oldBowsThatNeverWere rfl ?_
        refine zw_aload_n ok_Cl_oldBowsThatNeverWere rfl rfl ?_
        refine zw_getr ok_Cl_oldBowsThatNeverWere rfl fl_Cl_9 rfl rfl ?_
        refine zw_iload_n ok_Cl_oldBowsThatNeverWere rfl rfl ?_
        refine zw_bipush ok_Cl_oldBowsThatNeverWere rfl (by decide) ?_
        refine zw_imul ok_Cl_oldBowsThatNeverWere rfl ?_
        refine zw_bipush ok_Cl_oldBowsThatNeverWere rfl (by decide) ?_
        refine zw_copy ok_Cl_oldBowsThatNeverWere rfl la_Cl_45 rfl rfl (by omega) ⟨by decide, Nat.le_of_ble_eq_true rfl⟩ ?_
        try simp only [rd_C9, rd_C10, rd_C11, rd_C12, rd_C25, rd_C26, rd_C27, rd_C28, rd_C29, rd_C_0, rd_C_1, rd_C_2, rd_C_3, rd_C_4, rd_C_5, rd_C_6, rd_C_7, rd_C_8, rd_C_9, rd_C_10, rd_C_11, rd_C_12, rd_C_13, rd_C_14, rd_C_15, rd_C_16, rd_C_17, rd_C_18, rd_C_19, rd_C_20, rd_C_21, rd_C_22, rd_C_23, rd_C_30, rd_C_31, rd_C_32, rd_C_33, rd_C_34, rd_C_35, rd_C_36, rd_C_37, rd_C_38, rd_C_39, rd_C_40, rd_C_41, rd_C_42, rd_C_43, rd_C_44, rd_C_45, rd_C_46, rd_C_47, rd_C_48, rd_C_49, rd_C_50, rd_C_51, rd_C_52, rd_C_53, rd_C_54, rd_C_55, rd_C_56, rd_C_57, rd_C_58, rd_C_59, rd_C_60, rd_C_61, rd_C_62, rd_C_63, rd_C_64, rd_C_65, wr_C9, wr_C10, wr_C11, wr_C12, wr_C25, wr_C26, wr_C27, wr_C28, wr_C29, wp_C25, wp_C26, wp_C27, wp_C28, wp_C29, zput_ne (show (12 : Nat) ≠ 36 by decide)]
        simp only [rd_C29, rd_C_36, zput_eq]
        rw [wpC_out (by omega), show ∀ g2 : Int → Int, zput (zput mem 36 f) 36 g2 = zput mem 36 g2 from fun g2 => by funext q; by_cases e : q = 36; (subst e; rw [zput_eq, zput_eq]); rw [zput_ne e, zput_ne e, zput_ne e]]
        refine next _ _ _ (by rw [if_pos h31]) (fun i p q1 q2 q3 q4 q5 => ?_)
        unfold zcpy
        by_cases e : i = j
        · subst e
          rw [if_pos (by omega), ← hnl h31 p q4 q5]
          congr 1
          omega
        · rw [if_neg (by omega)]
          exact hf i p q1 (by omega) q3 q4 q5
end
end
section
/-! ===== Clues: the rest ===== -/
theorem bits_R {nv : Int → Bool} {b : Int} (hb : -2147483648 ≤ b ∧ b < 2147483648) (k : Nat) (j : Int) : -2147483648 ≤ lp (bitsS nv) k j b ∧ lp (bitsS nv) k j b < 2147483648 := by
  refine lp_inv (I := fun b : Int => -2147483648 ≤ b ∧ b < 2147483648) _ _ _ (fun j b _ _ h => ?_) hb
  unfold bitsS
  split
  · exact zR_or _ _
  · exact h
/-- how many of the candidates bow as with k -/
def alkS (b : Int) (f : Int → Int) (p k : Int) (j n : Int) : Int := if tb b j.toNat = true ∧ f (j * 8 + p) = f (k * 8 + p) then n + 1 else n
def gaS (b : Int) (f : Int → Int) (p : Int) (k g : Int) : Int := max g (if tb b k.toNat = true then lp (alkS b f p k) 12 0 0 else 0)
def passS (b : Int) (f : Int → Int) (p : Int) (x : Int × Int) : Int × Int := if lp (gaS b f p) 12 0 0 < x.1 then (lp (gaS b f p) 12 0 0, p) else x
theorem alk_r {b : Int} {f : Int → Int} {p k : Int} : ∀ (m : Nat) (j n : Int), 0 ≤ n → 0 ≤ lp (alkS b f p k) m j n ∧ lp (alkS b f p k) m j n ≤ n + m
  | 0, _, n, h => by show 0 ≤ n ∧ n ≤ n + 0; omega
  | m + 1, j, n, h => by
    rw [lp_s]
    have := alk_r (b := b) (f := f) (p := p) (k := k) m (j + 1) (alkS b f p k j n) (by unfold alkS; split <;> omega)
    have h2 : alkS b f p k j n ≤ n + 1 := by unfold alkS; split <;> omega
    omega
theorem ga_r {b : Int} {f : Int → Int} {p : Int} (m : Nat) (k : Int) (g : Int) (hg : 0 ≤ g ∧ g ≤ 12) : 0 ≤ lp (gaS b f p) m k g ∧ lp (gaS b f p) m k g ≤ 12 := by
  refine lp_inv (I := fun g : Int => 0 ≤ g ∧ g ≤ 12) _ _ _ (fun k g _ _ h => ?_) hg
  have := alk_r (b := b) (f := f) (p := p) (k := k) 12 0 0 (by omega)
  unfold gaS
  split <;> omega
section
variable {mem : zMem} {st hd df : Int → Int} {s : zS} {L : zL} {Q : Option zVal → zMem → Prop}
theorem putC_z36 {L : zL} {s : zS} : putC mem L s = putC (zput mem 36 (mem 36)) L s := by
  congr 1
  funext q
  by_cases e : q = 36
  · subst e; rw [zput_eq]
  · rw [zput_ne e]
theorem ct_Cl_oldBowsThatNeverWere {nv : Int → Bool} {lw : Int → Int → Int} (hC : okC mem) (hS : sghC mem) (hnv : ∀ k, 0 ≤ k → k < mem 12 3 → nvC mem k 0 (nv k) (lw k)) : zCi m_Cl_oldBowsThatNeverWere [vr 35] (putC mem L s) (lp (bitsS nv) (mem 12 3).toNat 0 0) (fun m2 => ∃ f L2 s2, m2 = putC (zput mem 36 f) L2 s2 ∧ ∀ i p, 0 ≤ i → i < mem 12 3 → nv i = true → 0 ≤ p → p < mem 5 4 → f (i * 8 + p) = lw i p) := by
  have h12 := hC.1.2.2.2.2.1
  rw [putC_z36]
  refine zCt.of [some (vr 35), none, none] ok_Cl_oldBowsThatNeverWere (Nat.le_of_ble_eq_true rfl) rfl ?_
  refine zw_iconst ok_Cl_oldBowsThatNeverWere rfl ?_
  refine zw_istore_n ok_Cl_oldBowsThatNeverWere rfl rfl (by decide) ?_
  refine zw_iconst ok_Cl_oldBowsThatNeverWere rfl ?_
  refine zw_istore_n ok_Cl_oldBowsThatNeverWere rfl rfl (by decide) ?_
  exact old_loop hC hS hnv (mem 12 3).toNat 0 0 _ L s (by omega) (by omega) (fun i p q1 q2 => by omega) (fun f L s hf => ⟨rfl, f, L, s, rfl, hf⟩)
theorem umb_loop {nv : Int → Bool} (hC : okC mem) (hS : sghC mem) (hnv : ∀ k, 0 ≤ k → k < mem 16 3 → ∃ lw, nvC mem (-1) (zshl 1 k) (nv k) lw) :
    ∀ (k : Nat) (j b : Int) (L : zL) (s : zS), 0 ≤ j → j + k = mem 16 3 → (∀ L s, Q (some (vi (lp (bitsS nv) k j b))) (putC mem L s)) → AW m_Cl_umbrellasLeft 4 [some (vr 35), some (vi b), some (vi j)] [] (putC mem L s) Q := by
  have h16 := hC.1.2.2.1
  intro k
  induction k with
  | zero =>
    intro j b L s h0 hj hx
    refine zw_iload_n ok_Cl_umbrellasLeft rfl rfl ?_
    refine zw_aload_n ok_Cl_umbrellasLeft rfl rfl ?_
    refine zw_getr ok_Cl_umbrellasLeft rfl fl_Cl_15 rfl rfl ?_
    refine zw_getr ok_Cl_umbrellasLeft rfl fl_Cl_51 rfl rfl ?_
    refine zw_geti ok_Cl_umbrellasLeft rfl fl_Cl_28 rfl rfl ?_
    try simp only [rd_C9, rd_C10, rd_C11, rd_C12, rd_C25, rd_C26, rd_C27, rd_C28, rd_C29, rd_C_0, rd_C_1, rd_C_2, rd_C_3, rd_C_4, rd_C_5, rd_C_6, rd_C_7, rd_C_8, rd_C_9, rd_C_10, rd_C_11, rd_C_12, rd_C_13, rd_C_14, rd_C_15, rd_C_16, rd_C_17, rd_C_18, rd_C_19, rd_C_20, rd_C_21, rd_C_22, rd_C_23, rd_C_30, rd_C_31, rd_C_32, rd_C_33, rd_C_34, rd_C_35, rd_C_36, rd_C_37, rd_C_38, rd_C_39, rd_C_40, rd_C_41, rd_C_42, rd_C_43, rd_C_44, rd_C_45, rd_C_46, rd_C_47, rd_C_48, rd_C_49, rd_C_50, rd_C_51, rd_C_52, rd_C_53, rd_C_54, rd_C_55, rd_C_56, rd_C_57, rd_C_58, rd_C_59, rd_C_60, rd_C_61, rd_C_62, rd_C_63, rd_C_64, rd_C_65, wr_C9, wr_C10, wr_C11, wr_C12, wr_C25, wr_C26, wr_C27, wr_C28, wr_C29, wp_C25, wp_C26, wp_C27, wp_C28, wp_C29]
    refine zw_icmp_ge 48 ok_Cl_umbrellasLeft rfl (by decide) (by omega) (fun h15 => ?_) (fun h15 => ?_)
    · refine zw_iload_n ok_Cl_umbrellasLeft rfl rfl ?_
      exact zw_iret ok_Cl_umbrellasLeft rfl rfl (hx L s)
    · exfalso; omega
  | succ k ih =>
    intro j b L s h0 hj hx
    obtain ⟨st0, hd0, df0⟩ := L
    have hst := layS_st (ol := -1) (ll := zshl 1 j) (L := (st0, hd0, df0)) hC
    have hdf := layS_df (ol := -1) (ll := zshl 1 j) (L := (st0, hd0, df0)) hC
    obtain ⟨lw, hnj⟩ := hnv j h0 (by omega)
    have hnj := (hnj (st0, hd0, df0) s.1 s.2.1).1
    generalize hL1 : layS mem (-1) (zshl 1 j) (st0, hd0, df0) = L1 at hst hdf hnj
    obtain ⟨st, hd, df⟩ := L1
    dsimp only at hst hdf hnj
    rw [lp_s] at hx
    have next : ∀ b2 s2, b2 = bitsS nv j b → AW m_Cl_umbrellasLeft 42 [some (vr 35), some (vi b2), some (vi j)] [] (putC mem (st, hd, df) s2) Q := by
      intro b2 s2 hb2
      subst hb2
      refine zw_iinc ok_Cl_umbrellasLeft rfl rfl rfl (by decide) ?_
      refine zw_goto 4 ok_Cl_umbrellasLeft rfl (by decide) ?_
      exact ih (j + 1) _ _ _ (by omega) (by omega) hx
    unfold bitsS at next
    refine zw_iload_n ok_Cl_umbrellasLeft rfl rfl ?_
    refine zw_aload_n ok_Cl_umbrellasLeft rfl rfl ?_
    refine zw_getr ok_Cl_umbrellasLeft rfl fl_Cl_15 rfl rfl ?_
    refine zw_getr ok_Cl_umbrellasLeft rfl fl_Cl_51 rfl rfl ?_
    refine zw_geti ok_Cl_umbrellasLeft rfl fl_Cl_28 rfl rfl ?_
    try simp only [rd_C9, rd_C10, rd_C11, rd_C12, rd_C25, rd_C26, rd_C27, rd_C28, rd_C29, rd_C_0, rd_C_1, rd_C_2, rd_C_3, rd_C_4, rd_C_5, rd_C_6, rd_C_7, rd_C_8, rd_C_9, rd_C_10, rd_C_11, rd_C_12, rd_C_13, rd_C_14, rd_C_15, rd_C_16, rd_C_17, rd_C_18, rd_C_19, rd_C_20, rd_C_21, rd_C_22, rd_C_23, rd_C_30, rd_C_31, rd_C_32, rd_C_33, rd_C_34, rd_C_35, rd_C_36, rd_C_37, rd_C_38, rd_C_39, rd_C_40, rd_C_41, rd_C_42, rd_C_43, rd_C_44, rd_C_45, rd_C_46, rd_C_47, rd_C_48, rd_C_49, rd_C_50, rd_C_51, rd_C_52, rd_C_53, rd_C_54, rd_C_55, rd_C_56, rd_C_57, rd_C_58, rd_C_59, rd_C_60, rd_C_61, rd_C_62, rd_C_63, rd_C_64, rd_C_65, wr_C9, wr_C10, wr_C11, wr_C12, wr_C25, wr_C26, wr_C27, wr_C28, wr_C29, wp_C25, wp_C26, wp_C27, wp_C28, wp_C29]
    refine zw_icmp_ge 48 ok_Cl_umbrellasLeft rfl (by decide) (by omega) (fun h15 => ?_) (fun h15 => ?_)
    · exfalso; omega
    · refine zw_aload_n ok_Cl_umbrellasLeft rfl rfl ?_
      refine zw_getr ok_Cl_umbrellasLeft rfl fl_Cl_15 rfl rfl ?_
      refine zw_iconst ok_Cl_umbrellasLeft rfl ?_
      refine zw_iconst ok_Cl_umbrellasLeft rfl ?_
      refine zw_iload_n ok_Cl_umbrellasLeft rfl rfl ?_
      refine zw_ishl ok_Cl_umbrellasLeft rfl ?_
      refine zw_Vvp ok_Cl_umbrellasLeft rfl ok_Co_layOut lk_Cl_34 (by decide) rfl rfl (Nat.le_of_ble_eq_true rfl) (ct_Co_layOut hC.1 (by omega)) ?_
      rw [hL1]
      refine zw_aload_n ok_Cl_umbrellasLeft rfl rfl ?_
      refine zw_Vb ok_Cl_umbrellasLeft rfl ok_Cl_comesOutAsSeen lk_Cl_38 (by decide) rfl rfl (Nat.le_of_ble_eq_true rfl) (ct_Cl_comesOutAsSeen hC hS hst hdf) (fun m30 h30 => ?_)
      subst h30
      rw [hnj]
      generalize (coB mem st (fun h => zor (hd h) (mem 5 5)) 12 0 (begS df s.1 s.2.1)).2 = s2
      refine zw_ifeq_b 42 ok_Cl_umbrellasLeft rfl (by decide) (fun h33 => ?_) (fun h33 => ?_)
      · exact next b _ (by rw [if_neg (by simp [h33])])
      · refine zw_iload_n ok_Cl_umbrellasLeft rfl rfl ?_
        refine zw_iconst ok_Cl_umbrellasLeft rfl ?_
        refine zw_iload_n ok_Cl_umbrellasLeft rfl rfl ?_
        refine zw_ishl ok_Cl_umbrellasLeft rfl ?_
        refine zw_ior ok_Cl_umbrellasLeft rfl ?_
        refine zw_istore_n ok_Cl_umbrellasLeft rfl rfl (by decide) ?_
        exact next _ _ (by rw [if_pos h33])
theorem ct_Cl_umbrellasLeft {nv : Int → Bool} (hC : okC mem) (hS : sghC mem) (hnv : ∀ k, 0 ≤ k → k < mem 16 3 → ∃ lw, nvC mem (-1) (zshl 1 k) (nv k) lw) : zCi m_Cl_umbrellasLeft [vr 35] (putC mem L s) (lp (bitsS nv) (mem 16 3).toNat 0 0) (fun m2 => ∃ L2 s2, m2 = putC mem L2 s2) := by
  have h16 := hC.1.2.2.1
  refine zCt.of [some (vr 35), none, none] ok_Cl_umbrellasLeft (Nat.le_of_ble_eq_true rfl) rfl ?_
  refine zw_iconst ok_Cl_umbrellasLeft rfl ?_
  refine zw_istore_n ok_Cl_umbrellasLeft rfl rfl (by decide) ?_
  refine zw_iconst ok_Cl_umbrellasLeft rfl ?_
  refine zw_istore_n ok_Cl_umbrellasLeft rfl rfl (by decide) ?_
  exact umb_loop hC hS hnv (mem 16 3).toNat 0 0 L s (by omega) (by omega) (fun L s => ⟨rfl, L, s, rfl⟩)
theorem ct_Cl_lowestOf {k p : Int} (h : (0 ≤ k ∧ k < 12) ∧ 0 ≤ p ∧ p < 8) : zCip m_Cl_lowestOf [vr 35, vi k, vi p] mem (mem 36 (k * 8 + p)) := by
  refine zCt.of [some (vr 35), some (vi k), some (vi p)] ok_Cl_lowestOf (Nat.le_of_ble_eq_true rfl) rfl ?_
  refine zw_aload_n ok_Cl_lowestOf rfl rfl ?_
  refine zw_getr ok_Cl_lowestOf rfl fl_Cl_9 rfl rfl ?_
  refine zw_iload_n ok_Cl_lowestOf rfl rfl ?_
  refine zw_bipush ok_Cl_lowestOf rfl (by decide) ?_
  refine zw_imul ok_Cl_lowestOf rfl ?_
  refine zw_iload_n ok_Cl_lowestOf rfl rfl ?_
  refine zw_iadd ok_Cl_lowestOf rfl ?_
  refine zw_iald ok_Cl_lowestOf rfl rfl (by omega) ?_
  exact zw_iret ok_Cl_lowestOf rfl rfl (⟨rfl, rfl⟩)
theorem alk_loop {b p k g : Int} (hp : 0 ≤ p ∧ p < 8) (hk : 0 ≤ k ∧ k < 12) (hbk : tb b k.toNat = true) (hf : ∀ i, 0 ≤ i → i < 12 → tb b i.toNat = true → 0 ≤ mem 36 (i * 8 + p) ∧ mem 36 (i * 8 + p) ≤ 99) :
    ∀ (m : Nat) (j n : Int), 0 ≤ j → j + m = 12 → 0 ≤ n → AW m_Cl_greatestAlike 69 [some (vr 35), some (vi p), some (vi b), some (vi g), some (vi k), some (vi (lp (alkS b (mem 36) p k) m j n)), none] [] mem Q → AW m_Cl_greatestAlike 18 [some (vr 35), some (vi p), some (vi b), some (vi g), some (vi k), some (vi n), some (vi j)] [] mem Q := by
  have qk := hf k hk.1 hk.2 hbk
  intro m
  induction m with
  | zero =>
    intro j n h0 hj hn hx
    refine zw_iload ok_Cl_greatestAlike rfl rfl ?_
    refine zw_bipush ok_Cl_greatestAlike rfl (by decide) ?_
    refine zw_icmp_ge 69 ok_Cl_greatestAlike rfl (by decide) (by omega) (fun h22 => ?_) (fun h22 => ?_)
    · refine zw_mask [true, true, true, true, true, true, false] rfl ?_
      exact hx
    · exfalso; omega
  | succ m ih =>
    intro j n h0 hj hn hx
    rw [lp_s] at hx
    unfold alkS at hx
    have next : ∀ n2, n2 = (if tb b j.toNat = true ∧ mem 36 (j * 8 + p) = mem 36 (k * 8 + p) then n + 1 else n) → AW m_Cl_greatestAlike 63 [some (vr 35), some (vi p), some (vi b), some (vi g), some (vi k), some (vi n2), some (vi j)] [] mem Q := by
      intro n2 hn2
      subst hn2
      refine zw_iinc ok_Cl_greatestAlike rfl rfl rfl (by decide) ?_
      refine zw_goto 18 ok_Cl_greatestAlike rfl (by decide) ?_
      exact ih (j + 1) _ (by omega) (by omega) (by split <;> omega) hx
    refine zw_iload ok_Cl_greatestAlike rfl rfl ?_
    refine zw_bipush ok_Cl_greatestAlike rfl (by decide) ?_
    refine zw_icmp_ge 69 ok_Cl_greatestAlike rfl (by decide) (by omega) (fun h22 => ?_) (fun h22 => ?_)
    · exfalso; omega
    · refine zw_iload_n ok_Cl_greatestAlike rfl rfl ?_
      refine zw_iload ok_Cl_greatestAlike rfl rfl ?_
      refine zw_ishr ok_Cl_greatestAlike rfl ?_
      refine zw_iconst ok_Cl_greatestAlike rfl ?_
      refine zw_iand ok_Cl_greatestAlike rfl ?_
      refine zw_if_eq 69 ok_Cl_greatestAlike rfl (by decide) (zR_and _ _) (fun h31 => ?_) (fun h31 => ?_)
      · rw [tb_ask0 _ (by omega)] at h31
        rw [hbk] at h31
        cases h31
      · rw [tb_ask0 _ (by omega)] at h31
        refine zw_iload_n ok_Cl_greatestAlike rfl rfl ?_
        refine zw_iload ok_Cl_greatestAlike rfl rfl ?_
        refine zw_ishr ok_Cl_greatestAlike rfl ?_
        refine zw_iconst ok_Cl_greatestAlike rfl ?_
        refine zw_iand ok_Cl_greatestAlike rfl ?_
        refine zw_if_eq 63 ok_Cl_greatestAlike rfl (by decide) (zR_and _ _) (fun h40 => ?_) (fun h40 => ?_)
        · rw [tb_ask0 _ (by omega)] at h40
          exact next _ (by rw [if_neg (by simp [h40])])
        · rw [tb_ask0 _ (by omega)] at h40
          have h40b : tb b j.toNat = true := by simpa using h40
          have qj := hf j h0 (by omega) h40b
          refine zw_aload_n ok_Cl_greatestAlike rfl rfl ?_
          refine zw_iload ok_Cl_greatestAlike rfl rfl ?_
          refine zw_iload_n ok_Cl_greatestAlike rfl rfl ?_
          refine zw_Vip ok_Cl_greatestAlike rfl ok_Cl_lowestOf lk_Cl_89 (by decide) rfl rfl (Nat.le_of_ble_eq_true rfl) (ct_Cl_lowestOf (by omega)) ?_
          refine zw_aload_n ok_Cl_greatestAlike rfl rfl ?_
          refine zw_iload ok_Cl_greatestAlike rfl rfl ?_
          refine zw_iload_n ok_Cl_greatestAlike rfl rfl ?_
          refine zw_Vip ok_Cl_greatestAlike rfl ok_Cl_lowestOf lk_Cl_89 (by decide) rfl rfl (Nat.le_of_ble_eq_true rfl) (ct_Cl_lowestOf (by omega)) ?_
          refine zw_icmp_ne 63 ok_Cl_greatestAlike rfl (by decide) (by omega) (fun h57 => ?_) (fun h57 => ?_)
          · exact next _ (by rw [if_neg (fun q => h57 q.2)])
          · refine zw_iinc ok_Cl_greatestAlike rfl rfl rfl (by decide) ?_
            exact next _ (by rw [if_pos ⟨h40b, h57⟩])
theorem ga_loop {b p : Int} (hp : 0 ≤ p ∧ p < 8) (hf : ∀ i, 0 ≤ i → i < 12 → tb b i.toNat = true → 0 ≤ mem 36 (i * 8 + p) ∧ mem 36 (i * 8 + p) ≤ 99) :
    ∀ (m : Nat) (k g : Int), 0 ≤ k → k + m = 12 → (0 ≤ g ∧ g ≤ 12) → Q (some (vi (lp (gaS b (mem 36) p) m k g))) mem → AW m_Cl_greatestAlike 5 [some (vr 35), some (vi p), some (vi b), some (vi g), some (vi k), none, none] [] mem Q := by
  intro m
  induction m with
  | zero =>
    intro k g h0 hk hg hx
    refine zw_iload ok_Cl_greatestAlike rfl rfl ?_
    refine zw_bipush ok_Cl_greatestAlike rfl (by decide) ?_
    refine zw_icmp_ge 82 ok_Cl_greatestAlike rfl (by decide) (by omega) (fun h9 => ?_) (fun h9 => ?_)
    · refine zw_iload_n ok_Cl_greatestAlike rfl rfl ?_
      exact zw_iret ok_Cl_greatestAlike rfl rfl (hx)
    · exfalso; omega
  | succ m ih =>
    intro k g h0 hk hg hx
    rw [lp_s] at hx
    have hr := alk_r (b := b) (f := mem 36) (p := p) (k := k) 12 0 0 (by omega)
    have hg2 := ga_r (b := b) (f := mem 36) (p := p) 1 k g hg
    have next : ∀ n, n = (if tb b k.toNat = true then lp (alkS b (mem 36) p k) 12 0 0 else 0) → AW m_Cl_greatestAlike 69 [some (vr 35), some (vi p), some (vi b), some (vi g), some (vi k), some (vi n), none] [] mem Q := by
      intro n hn
      have hn2 : 0 ≤ n ∧ n ≤ 12 := by rw [hn]; split <;> omega
      unfold gaS at hx
      rw [← hn] at hx
      refine zw_iload_n ok_Cl_greatestAlike rfl rfl ?_
      refine zw_iload ok_Cl_greatestAlike rfl rfl ?_
      refine zw_mmax ok_Cl_greatestAlike rfl lm_Cl_92 ⟨by decide, Nat.le_of_ble_eq_true rfl⟩ (by omega) ?_
      refine zw_istore_n ok_Cl_greatestAlike rfl rfl (by decide) ?_
      refine zw_iinc ok_Cl_greatestAlike rfl rfl rfl (by decide) ?_
      refine zw_goto 5 ok_Cl_greatestAlike rfl (by decide) ?_
      refine zw_mask [true, true, true, true, true, false, false] rfl ?_
      exact ih (k + 1) _ (by omega) (by omega) (by omega) hx
    by_cases hb : tb b k.toNat = true
    · refine zw_iload ok_Cl_greatestAlike rfl rfl ?_
      refine zw_bipush ok_Cl_greatestAlike rfl (by decide) ?_
      refine zw_icmp_ge 82 ok_Cl_greatestAlike rfl (by decide) (by omega) (fun h9 => ?_) (fun h9 => ?_)
      · exfalso; omega
      · refine zw_iconst ok_Cl_greatestAlike rfl ?_
        refine zw_istore ok_Cl_greatestAlike rfl rfl (by decide) ?_
        refine zw_iconst ok_Cl_greatestAlike rfl ?_
        refine zw_istore ok_Cl_greatestAlike rfl rfl (by decide) ?_
        exact alk_loop hp ⟨h0, by omega⟩ hb hf 12 0 0 (by omega) (by omega) (by omega) (next _ (by rw [if_pos hb]))
    · have hz : zand (zshr b k) 1 = 0 := (tb_ask0 _ (by omega)).mpr (by simpa using hb)
      refine zw_iload ok_Cl_greatestAlike rfl rfl ?_
      refine zw_bipush ok_Cl_greatestAlike rfl (by decide) ?_
      refine zw_icmp_ge 82 ok_Cl_greatestAlike rfl (by decide) (by omega) (fun h9 => ?_) (fun h9 => ?_)
      · exfalso; omega
      · refine zw_iconst ok_Cl_greatestAlike rfl ?_
        refine zw_istore ok_Cl_greatestAlike rfl rfl (by decide) ?_
        refine zw_iconst ok_Cl_greatestAlike rfl ?_
        refine zw_istore ok_Cl_greatestAlike rfl rfl (by decide) ?_
        refine zw_iload ok_Cl_greatestAlike rfl rfl ?_
        refine zw_bipush ok_Cl_greatestAlike rfl (by decide) ?_
        refine zw_icmp_ge 69 ok_Cl_greatestAlike rfl (by decide) (by omega) (fun h22 => ?_) (fun h22 => ?_)
        · exfalso; omega
        · refine zw_iload_n ok_Cl_greatestAlike rfl rfl ?_
          refine zw_iload ok_Cl_greatestAlike rfl rfl ?_
          refine zw_ishr ok_Cl_greatestAlike rfl ?_
          refine zw_iconst ok_Cl_greatestAlike rfl ?_
          refine zw_iand ok_Cl_greatestAlike rfl ?_
          refine zw_if_eq 69 ok_Cl_greatestAlike rfl (by decide) (zR_and _ _) (fun h31 => ?_) (fun h31 => ?_)
          · refine zw_mask [true, true, true, true, true, true, false] rfl ?_
            exact next _ (by rw [if_neg hb])
          · exact absurd hz h31
theorem ct_Cl_greatestAlike {b p : Int} (hp : 0 ≤ p ∧ p < 8) (hf : ∀ i, 0 ≤ i → i < 12 → tb b i.toNat = true → 0 ≤ mem 36 (i * 8 + p) ∧ mem 36 (i * 8 + p) ≤ 99) : zCip m_Cl_greatestAlike [vr 35, vi p, vi b] mem (lp (gaS b (mem 36) p) 12 0 0) := by
  refine zCt.of [some (vr 35), some (vi p), some (vi b), none, none, none, none] ok_Cl_greatestAlike (Nat.le_of_ble_eq_true rfl) rfl ?_
  refine zw_iconst ok_Cl_greatestAlike rfl ?_
  refine zw_istore_n ok_Cl_greatestAlike rfl rfl (by decide) ?_
  refine zw_iconst ok_Cl_greatestAlike rfl ?_
  refine zw_istore ok_Cl_greatestAlike rfl rfl (by decide) ?_
  exact ga_loop hp hf 12 0 0 (by omega) (by omega) (by omega) ⟨rfl, rfl⟩
theorem pass_loop {b : Int} (hP : 0 ≤ mem 5 4 ∧ mem 5 4 ≤ 8) (hf : ∀ p i, 0 ≤ p → p < mem 5 4 → 0 ≤ i → i < 12 → tb b i.toNat = true → 0 ≤ mem 36 (i * 8 + p) ∧ mem 36 (i * 8 + p) ≤ 99) :
    ∀ (k : Nat) (p : Int) (x : Int × Int), 0 ≤ p → p + k = mem 5 4 → (0 ≤ x.1 ∧ x.1 ≤ 13) → Q (some (vi (lp (passS b (mem 36)) k p x).2)) mem → AW m_Cl_nextToPass 13 [some (vr 35), some (vi b), some (vi x.2), some (vi x.1), some (vi p), none] [] mem Q := by
  intro k
  induction k with
  | zero =>
    intro p x h0 hk hx1 hx
    refine zw_iload ok_Cl_nextToPass rfl rfl ?_
    refine zw_aload_n ok_Cl_nextToPass rfl rfl ?_
    refine zw_getr ok_Cl_nextToPass rfl fl_Cl_15 rfl rfl ?_
    refine zw_getr ok_Cl_nextToPass rfl fl_Cl_58 rfl rfl ?_
    refine zw_geti ok_Cl_nextToPass rfl fl_Cl_62 rfl rfl ?_
    refine zw_icmp_ge 55 ok_Cl_nextToPass rfl (by decide) (by omega) (fun h25 => ?_) (fun h25 => ?_)
    · refine zw_iload_n ok_Cl_nextToPass rfl rfl ?_
      exact zw_iret ok_Cl_nextToPass rfl rfl (hx)
    · exfalso; omega
  | succ k ih =>
    intro p x h0 hk hx1 hx
    rw [lp_s] at hx
    unfold passS at hx
    have hr := ga_r (b := b) (f := mem 36) (p := p) 12 0 0 (by omega)
    refine zw_iload ok_Cl_nextToPass rfl rfl ?_
    refine zw_aload_n ok_Cl_nextToPass rfl rfl ?_
    refine zw_getr ok_Cl_nextToPass rfl fl_Cl_15 rfl rfl ?_
    refine zw_getr ok_Cl_nextToPass rfl fl_Cl_58 rfl rfl ?_
    refine zw_geti ok_Cl_nextToPass rfl fl_Cl_62 rfl rfl ?_
    refine zw_icmp_ge 55 ok_Cl_nextToPass rfl (by decide) (by omega) (fun h25 => ?_) (fun h25 => ?_)
    · exfalso; omega
    · refine zw_aload_n ok_Cl_nextToPass rfl rfl ?_
      refine zw_iload ok_Cl_nextToPass rfl rfl ?_
      refine zw_iload_n ok_Cl_nextToPass rfl rfl ?_
      refine zw_Vip ok_Cl_nextToPass rfl ok_Cl_greatestAlike lk_Cl_65 (by decide) rfl rfl (Nat.le_of_ble_eq_true rfl) (ct_Cl_greatestAlike (by omega) (fun i => hf p i h0 (by omega))) ?_
      refine zw_istore ok_Cl_nextToPass rfl rfl (by decide) ?_
      refine zw_iload ok_Cl_nextToPass rfl rfl ?_
      refine zw_iload_n ok_Cl_nextToPass rfl rfl ?_
      refine zw_icmp_ge 49 ok_Cl_nextToPass rfl (by decide) (by omega) (fun h40 => ?_) (fun h40 => ?_)
      · refine zw_iinc ok_Cl_nextToPass rfl rfl rfl (by decide) ?_
        refine zw_goto 13 ok_Cl_nextToPass rfl (by decide) ?_
        refine zw_mask [true, true, true, true, true, false] rfl ?_
        first
          | exact ih (p + 1) x (by omega) (by omega) hx1 (by rw [if_neg (by omega)] at hx; exact hx)
          | exact ih (p + 1) (lp (gaS b (mem 36) p) 12 0 0, p) (by omega) (by omega) (by omega) (by rw [if_pos (by omega)] at hx; exact hx)
      · refine zw_iload ok_Cl_nextToPass rfl rfl ?_
        refine zw_istore_n ok_Cl_nextToPass rfl rfl (by decide) ?_
        refine zw_iload ok_Cl_nextToPass rfl rfl ?_
        refine zw_istore_n ok_Cl_nextToPass rfl rfl (by decide) ?_
        refine zw_iinc ok_Cl_nextToPass rfl rfl rfl (by decide) ?_
        refine zw_goto 13 ok_Cl_nextToPass rfl (by decide) ?_
        refine zw_mask [true, true, true, true, true, false] rfl ?_
        first
          | exact ih (p + 1) x (by omega) (by omega) hx1 (by rw [if_neg (by omega)] at hx; exact hx)
          | exact ih (p + 1) (lp (gaS b (mem 36) p) 12 0 0, p) (by omega) (by omega) (by omega) (by rw [if_pos (by omega)] at hx; exact hx)
theorem ct_Cl_nextToPass {nv : Int → Bool} {lw : Int → Int → Int} {pr : Int} (hC : okC mem) (hS : sghC mem) (hnv : ∀ k, 0 ≤ k → k < mem 12 3 → nvC mem k 0 (nv k) (lw k)) (hlw : ∀ k p, 0 ≤ k → k < mem 12 3 → nv k = true → 0 ≤ p → p < mem 5 4 → 0 ≤ lw k p ∧ lw k p ≤ 99) (hb : ∀ i, 0 ≤ i → i < 12 → tb (lp (bitsS nv) (mem 12 3).toNat 0 0) i.toNat = true → i < mem 12 3 ∧ nv i = true) (hpr : ∀ f : Int → Int, (∀ i p, 0 ≤ i → i < mem 12 3 → nv i = true → 0 ≤ p → p < mem 5 4 → f (i * 8 + p) = lw i p) → (lp (passS (lp (bitsS nv) (mem 12 3).toNat 0 0) f) (mem 5 4).toNat 0 (13, -1)).2 = pr) : zCi m_Cl_nextToPass [vr 35] (putC mem L s) pr (fun m2 => zfr scr mem m2) := by
  have hP := hC.1.1
  refine zCt.of [some (vr 35), none, none, none, none, none] ok_Cl_nextToPass (Nat.le_of_ble_eq_true rfl) rfl ?_
  refine zw_aload_n ok_Cl_nextToPass rfl rfl ?_
  refine zw_Vi ok_Cl_nextToPass rfl ok_Cl_oldBowsThatNeverWere lk_Cl_54 (by decide) rfl rfl (Nat.le_of_ble_eq_true rfl) (ct_Cl_oldBowsThatNeverWere hC hS hnv) (fun m1 h1 => ?_)
  obtain ⟨f, L2, s2, rfl, hf⟩ := h1
  refine zw_istore_n ok_Cl_nextToPass rfl rfl (by decide) ?_
  refine zw_iconst ok_Cl_nextToPass rfl ?_
  refine zw_istore_n ok_Cl_nextToPass rfl rfl (by decide) ?_
  refine zw_bipush ok_Cl_nextToPass rfl (by decide) ?_
  refine zw_istore_n ok_Cl_nextToPass rfl rfl (by decide) ?_
  refine zw_iconst ok_Cl_nextToPass rfl ?_
  refine zw_istore ok_Cl_nextToPass rfl rfl (by decide) ?_
  refine pass_loop (mem := putC (zput mem 36 f) L2 s2) (Q := fun r m2 => r = some (vi pr) ∧ zfr scr mem m2) hP ?_ (mem 5 4).toNat 0 (13, -1) (by omega) ?_ (by omega) ⟨?_, putC_scr (zfr.put (k := 36) zfr.rf (by decide))⟩
  · intro p i q1 q2 q3 q4 q5
    obtain ⟨z1, z2⟩ := hb i q3 q4 q5
    show 0 ≤ f (i * 8 + p) ∧ f (i * 8 + p) ≤ 99
    rw [hf i p q3 z1 z2 q1 q2]
    exact hlw i p q3 z1 z2 q1 q2
  · show (0 : Int) + ((mem 5 4).toNat : Int) = mem 5 4
    omega
  · show some (vi (lp (passS (lp (bitsS nv) (mem 12 3).toNat 0 0) f) (mem 5 4).toNat 0 (13, -1)).2) = some (vi pr)
    rw [hpr f hf]
end
end
section
/-! ===== Chances ===== -/
def wtF (f c : Int) (u w : Int) : Int := w * (if tb f u.toNat = true then c else 16 - c)
theorem wt_r {f c : Int} (hc : 0 ≤ c ∧ c ≤ 16) : ∀ (k : Nat) (u w : Int), 0 ≤ w → 0 ≤ lp (wtF f c) k u w ∧ lp (wtF f c) k u w ≤ w * 16 ^ k
  | 0, u, w, h => by show 0 ≤ w ∧ w ≤ w * 16 ^ 0; simp; exact h
  | k + 1, u, w, h => by
    have hx : 0 ≤ wtF f c u w ∧ wtF f c u w ≤ w * 16 := by
      unfold wtF
      constructor
      · exact Int.mul_nonneg h (by split <;> omega)
      · exact Int.mul_le_mul_of_nonneg_left (by split <;> omega) h
    have := wt_r (f := f) (c := c) hc k (u + 1) (wtF f c u w) hx.1
    rw [lp_s]
    refine ⟨this.1, Int.le_trans this.2 ?_⟩
    rw [Int.pow_succ, Int.mul_comm (16 ^ k) 16, ← Int.mul_assoc]
    exact Int.mul_le_mul_of_nonneg_right hx.2 (Int.pow_nonneg (by omega))
theorem wt_r8 {f c : Int} (hc : 0 ≤ c ∧ c ≤ 16) {k : Nat} (hk : k ≤ 8) {u : Int} : 0 ≤ lp (wtF f c) k u 1 ∧ lp (wtF f c) k u 1 ≤ 4294967296 := by
  have h := wt_r (f := f) (c := c) hc k u 1 (by omega)
  have h2 : (16 : Int) ^ k ≤ 4294967296 := by
    have : k = 0 ∨ k = 1 ∨ k = 2 ∨ k = 3 ∨ k = 4 ∨ k = 5 ∨ k = 6 ∨ k = 7 ∨ k = 8 := by omega
    rcases this with rfl | rfl | rfl | rfl | rfl | rfl | rfl | rfl | rfl <;> decide
  omega
section
variable {mem : zMem} {st hd df : Int → Int} {s : zS} {L : zL} {Q : Option zVal → zMem → Prop}
theorem fillL_loop {n : Nat} {v : Int} (hc : zrow 38 = (1, n, [])) (hn : n ≤ 240) (hx : Q none (zput mem 38 (zfil n v (mem 38)))) :
    ∀ (j : Nat) (i : Int), 0 ≤ i → i + j = (n : Int) → AW m_Jarr_fill_d0a16 6 [some (vr 38), some (vl v), none, some (vi i), some (vi (n : Int))] [] (zput mem 38 (zfil i v (mem 38))) Q := by
  intro j
  induction j with
  | zero =>
    intro i h0 hi
    have e : i = (n : Int) := by omega
    subst e
    refine zw_iload_n ok_Jarr_fill_d0a16 rfl rfl ?_
    refine zw_iload ok_Jarr_fill_d0a16 rfl rfl ?_
    refine zw_icmp_ge 22 ok_Jarr_fill_d0a16 rfl (by decide) (by omega) (fun h9 => ?_) (fun h9 => ?_)
    · exact zw_vret ok_Jarr_fill_d0a16 rfl rfl (hx)
    · exact absurd (Int.le_refl _) h9
  | succ j ih =>
    intro i h0 hi
    refine zw_iload_n ok_Jarr_fill_d0a16 rfl rfl ?_
    refine zw_iload ok_Jarr_fill_d0a16 rfl rfl ?_
    refine zw_icmp_ge 22 ok_Jarr_fill_d0a16 rfl (by decide) (by omega) (fun h9 => ?_) (fun h9 => ?_)
    · exfalso; omega
    · refine zw_aload_n ok_Jarr_fill_d0a16 rfl rfl ?_
      refine zw_iload_n ok_Jarr_fill_d0a16 rfl rfl ?_
      refine zw_lload_n ok_Jarr_fill_d0a16 rfl rfl ?_
      refine zw_last ok_Jarr_fill_d0a16 rfl hc (by omega) ?_
      refine zw_iinc ok_Jarr_fill_d0a16 rfl rfl rfl (by decide) ?_
      refine zw_goto 6 ok_Jarr_fill_d0a16 rfl (by decide) ?_
      rw [zfil_s h0]
      exact ih (i + 1) (by omega) (by omega)
theorem ct_Jarr_fill_d0a16 {v : Int} : zCvp m_Jarr_fill_d0a16 [vr 38, vl v] mem (zput mem 38 (zfil 8 v (mem 38))) := by
  refine zCt.of [some (vr 38), some (vl v), none, none, none] ok_Jarr_fill_d0a16 (Nat.le_of_ble_eq_true rfl) rfl ?_
  refine zw_iconst ok_Jarr_fill_d0a16 rfl ?_
  refine zw_istore_n ok_Jarr_fill_d0a16 rfl rfl (by decide) ?_
  refine zw_aload_n ok_Jarr_fill_d0a16 rfl rfl ?_
  refine zw_alen ok_Jarr_fill_d0a16 rfl rfl (by decide) ?_
  refine zw_istore ok_Jarr_fill_d0a16 rfl rfl (by decide) ?_
  have h := fillL_loop (mem := mem) (v := v) (n := 8) (Q := fun r m2 => r = none ∧ m2 = zput mem 38 (zfil 8 v (mem 38))) rfl (by omega) ⟨rfl, rfl⟩ 8 0 (by omega) (by omega)
  rw [zfil_0] at h
  exact h
theorem wt_loop {f c : Int} (hC : okC mem) (hc : 0 ≤ c ∧ c ≤ 16) :
    ∀ (k : Nat) (u w : Int), 0 ≤ u → u + k = mem 16 3 → Q (some (vl (lp (wtF f c) k u w))) (putC mem L s) → AW m_Ch_weightOf 5 [some (vr 37), some (vi f), some (vi c), some (vl w), none, some (vi u)] [] (putC mem L s) Q := by
  have h16 := hC.1.2.2.1
  intro k
  induction k with
  | zero =>
    intro u w h0 hu hx
    refine zw_iload ok_Ch_weightOf rfl rfl ?_
    refine zw_aload_n ok_Ch_weightOf rfl rfl ?_
    refine zw_getr ok_Ch_weightOf rfl fl_Ch_15 rfl rfl ?_
    refine zw_getr ok_Ch_weightOf rfl fl_Ch_25 rfl rfl ?_
    refine zw_geti ok_Ch_weightOf rfl fl_Ch_31 rfl rfl ?_
    try simp only [rd_C9, rd_C10, rd_C11, rd_C12, rd_C25, rd_C26, rd_C27, rd_C28, rd_C29, rd_C_0, rd_C_1, rd_C_2, rd_C_3, rd_C_4, rd_C_5, rd_C_6, rd_C_7, rd_C_8, rd_C_9, rd_C_10, rd_C_11, rd_C_12, rd_C_13, rd_C_14, rd_C_15, rd_C_16, rd_C_17, rd_C_18, rd_C_19, rd_C_20, rd_C_21, rd_C_22, rd_C_23, rd_C_30, rd_C_31, rd_C_32, rd_C_33, rd_C_34, rd_C_35, rd_C_36, rd_C_37, rd_C_38, rd_C_39, rd_C_40, rd_C_41, rd_C_42, rd_C_43, rd_C_44, rd_C_45, rd_C_46, rd_C_47, rd_C_48, rd_C_49, rd_C_50, rd_C_51, rd_C_52, rd_C_53, rd_C_54, rd_C_55, rd_C_56, rd_C_57, rd_C_58, rd_C_59, rd_C_60, rd_C_61, rd_C_62, rd_C_63, rd_C_64, rd_C_65, wr_C9, wr_C10, wr_C11, wr_C12, wr_C25, wr_C26, wr_C27, wr_C28, wr_C29, wp_C25, wp_C26, wp_C27, wp_C28, wp_C29]
    refine zw_icmp_ge 48 ok_Ch_weightOf rfl (by decide) (by omega) (fun h17 => ?_) (fun h17 => ?_)
    · refine zw_lload_n ok_Ch_weightOf rfl rfl ?_
      exact zw_lret ok_Ch_weightOf rfl rfl (hx)
    · exfalso; omega
  | succ k ih =>
    intro u w h0 hu hx
    rw [lp_s] at hx
    unfold wtF at hx
    refine zw_iload ok_Ch_weightOf rfl rfl ?_
    refine zw_aload_n ok_Ch_weightOf rfl rfl ?_
    refine zw_getr ok_Ch_weightOf rfl fl_Ch_15 rfl rfl ?_
    refine zw_getr ok_Ch_weightOf rfl fl_Ch_25 rfl rfl ?_
    refine zw_geti ok_Ch_weightOf rfl fl_Ch_31 rfl rfl ?_
    try simp only [rd_C9, rd_C10, rd_C11, rd_C12, rd_C25, rd_C26, rd_C27, rd_C28, rd_C29, rd_C_0, rd_C_1, rd_C_2, rd_C_3, rd_C_4, rd_C_5, rd_C_6, rd_C_7, rd_C_8, rd_C_9, rd_C_10, rd_C_11, rd_C_12, rd_C_13, rd_C_14, rd_C_15, rd_C_16, rd_C_17, rd_C_18, rd_C_19, rd_C_20, rd_C_21, rd_C_22, rd_C_23, rd_C_30, rd_C_31, rd_C_32, rd_C_33, rd_C_34, rd_C_35, rd_C_36, rd_C_37, rd_C_38, rd_C_39, rd_C_40, rd_C_41, rd_C_42, rd_C_43, rd_C_44, rd_C_45, rd_C_46, rd_C_47, rd_C_48, rd_C_49, rd_C_50, rd_C_51, rd_C_52, rd_C_53, rd_C_54, rd_C_55, rd_C_56, rd_C_57, rd_C_58, rd_C_59, rd_C_60, rd_C_61, rd_C_62, rd_C_63, rd_C_64, rd_C_65, wr_C9, wr_C10, wr_C11, wr_C12, wr_C25, wr_C26, wr_C27, wr_C28, wr_C29, wp_C25, wp_C26, wp_C27, wp_C28, wp_C29]
    refine zw_icmp_ge 48 ok_Ch_weightOf rfl (by decide) (by omega) (fun h17 => ?_) (fun h17 => ?_)
    · exfalso; omega
    · refine zw_lload_n ok_Ch_weightOf rfl rfl ?_
      refine zw_iload_n ok_Ch_weightOf rfl rfl ?_
      refine zw_iload ok_Ch_weightOf rfl rfl ?_
      refine zw_ishr ok_Ch_weightOf rfl ?_
      refine zw_iconst ok_Ch_weightOf rfl ?_
      refine zw_iand ok_Ch_weightOf rfl ?_
      refine zw_if_eq 35 ok_Ch_weightOf rfl (by decide) (zR_and _ _) (fun h27 => ?_) (fun h27 => ?_)
      · rw [tb_ask0 _ (by omega)] at h27
        rw [if_neg (by simp [h27])] at hx
        refine zw_bipush ok_Ch_weightOf rfl (by decide) ?_
        refine zw_iload_n ok_Ch_weightOf rfl rfl ?_
        refine zw_isub ok_Ch_weightOf rfl ?_
        refine zw_i2l ok_Ch_weightOf rfl (by omega) ?_
        refine zw_lmul ok_Ch_weightOf rfl ?_
        refine zw_lstore_n ok_Ch_weightOf rfl rfl (by decide) ?_
        refine zw_iinc ok_Ch_weightOf rfl rfl rfl (by decide) ?_
        refine zw_goto 5 ok_Ch_weightOf rfl (by decide) ?_
        exact ih (u + 1) _ (by omega) (by omega) hx
      · rw [tb_ask0 _ (by omega)] at h27
        rw [if_pos (by simpa using h27)] at hx
        refine zw_iload_n ok_Ch_weightOf rfl rfl ?_
        refine zw_i2l ok_Ch_weightOf rfl (by omega) ?_
        refine zw_goto 40 ok_Ch_weightOf rfl (by decide) ?_
        refine zw_lmul ok_Ch_weightOf rfl ?_
        refine zw_lstore_n ok_Ch_weightOf rfl rfl (by decide) ?_
        refine zw_iinc ok_Ch_weightOf rfl rfl rfl (by decide) ?_
        refine zw_goto 5 ok_Ch_weightOf rfl (by decide) ?_
        exact ih (u + 1) _ (by omega) (by omega) hx
theorem ct_Ch_weightOf {f c : Int} (hC : okC mem) (hc : 0 ≤ c ∧ c ≤ 16) : zClp m_Ch_weightOf [vr 37, vi f, vi c] (putC mem L s) (lp (wtF f c) (mem 16 3).toNat 0 1) := by
  have h16 := hC.1.2.2.1
  refine zCt.of [some (vr 37), some (vi f), some (vi c), none, none, none] ok_Ch_weightOf (Nat.le_of_ble_eq_true rfl) rfl ?_
  refine zw_lconst ok_Ch_weightOf rfl ?_
  refine zw_lstore_n ok_Ch_weightOf rfl rfl (by decide) ?_
  refine zw_iconst ok_Ch_weightOf rfl ?_
  refine zw_istore ok_Ch_weightOf rfl rfl (by decide) ?_
  exact wt_loop hC hc (mem 16 3).toNat 0 1 (by omega) (by omega) ⟨rfl, rfl⟩
def addF (g w : Int) (p : Int) (f : Int → Int) : Int → Int := if tb g p.toNat = true then zupd f p (f p + w) else f
theorem add_loop {w : Int} (hP : 0 ≤ mem 5 4 ∧ mem 5 4 ≤ 8) :
    ∀ (k : Nat) (p : Int) (f : Int → Int), 0 ≤ p → p + k = mem 5 4 → Q none (putC (zput mem 38 (lp (addF s.2.2.1 w) k p f)) L s) → AW m_Ch_addToGone 2 [some (vr 37), some (vl w), none, some (vi p)] [] (putC (zput mem 38 f) L s) Q := by
  intro k
  induction k with
  | zero =>
    intro p f h0 hp hx
    refine zw_iload_n ok_Ch_addToGone rfl rfl ?_
    refine zw_aload_n ok_Ch_addToGone rfl rfl ?_
    refine zw_getr ok_Ch_addToGone rfl fl_Ch_15 rfl rfl ?_
    refine zw_getr ok_Ch_addToGone rfl fl_Ch_64 rfl rfl ?_
    refine zw_geti ok_Ch_addToGone rfl fl_Ch_68 rfl rfl ?_
    try simp only [rd_C9, rd_C10, rd_C11, rd_C12, rd_C25, rd_C26, rd_C27, rd_C28, rd_C29, rd_C_0, rd_C_1, rd_C_2, rd_C_3, rd_C_4, rd_C_5, rd_C_6, rd_C_7, rd_C_8, rd_C_9, rd_C_10, rd_C_11, rd_C_12, rd_C_13, rd_C_14, rd_C_15, rd_C_16, rd_C_17, rd_C_18, rd_C_19, rd_C_20, rd_C_21, rd_C_22, rd_C_23, rd_C_30, rd_C_31, rd_C_32, rd_C_33, rd_C_34, rd_C_35, rd_C_36, rd_C_37, rd_C_38, rd_C_39, rd_C_40, rd_C_41, rd_C_42, rd_C_43, rd_C_44, rd_C_45, rd_C_46, rd_C_47, rd_C_48, rd_C_49, rd_C_50, rd_C_51, rd_C_52, rd_C_53, rd_C_54, rd_C_55, rd_C_56, rd_C_57, rd_C_58, rd_C_59, rd_C_60, rd_C_61, rd_C_62, rd_C_63, rd_C_64, rd_C_65, wr_C9, wr_C10, wr_C11, wr_C12, wr_C25, wr_C26, wr_C27, wr_C28, wr_C29, wp_C25, wp_C26, wp_C27, wp_C28, wp_C29, zput_ne (show (5 : Nat) ≠ 38 by decide)]
    refine zw_icmp_ge 43 ok_Ch_addToGone rfl (by decide) (by omega) (fun h13 => ?_) (fun h13 => ?_)
    · exact zw_vret ok_Ch_addToGone rfl rfl (hx)
    · exfalso; omega
  | succ k ih =>
    intro p f h0 hp hx
    rw [lp_s] at hx
    unfold addF at hx
    refine zw_iload_n ok_Ch_addToGone rfl rfl ?_
    refine zw_aload_n ok_Ch_addToGone rfl rfl ?_
    refine zw_getr ok_Ch_addToGone rfl fl_Ch_15 rfl rfl ?_
    refine zw_getr ok_Ch_addToGone rfl fl_Ch_64 rfl rfl ?_
    refine zw_geti ok_Ch_addToGone rfl fl_Ch_68 rfl rfl ?_
    try simp only [rd_C9, rd_C10, rd_C11, rd_C12, rd_C25, rd_C26, rd_C27, rd_C28, rd_C29, rd_C_0, rd_C_1, rd_C_2, rd_C_3, rd_C_4, rd_C_5, rd_C_6, rd_C_7, rd_C_8, rd_C_9, rd_C_10, rd_C_11, rd_C_12, rd_C_13, rd_C_14, rd_C_15, rd_C_16, rd_C_17, rd_C_18, rd_C_19, rd_C_20, rd_C_21, rd_C_22, rd_C_23, rd_C_30, rd_C_31, rd_C_32, rd_C_33, rd_C_34, rd_C_35, rd_C_36, rd_C_37, rd_C_38, rd_C_39, rd_C_40, rd_C_41, rd_C_42, rd_C_43, rd_C_44, rd_C_45, rd_C_46, rd_C_47, rd_C_48, rd_C_49, rd_C_50, rd_C_51, rd_C_52, rd_C_53, rd_C_54, rd_C_55, rd_C_56, rd_C_57, rd_C_58, rd_C_59, rd_C_60, rd_C_61, rd_C_62, rd_C_63, rd_C_64, rd_C_65, wr_C9, wr_C10, wr_C11, wr_C12, wr_C25, wr_C26, wr_C27, wr_C28, wr_C29, wp_C25, wp_C26, wp_C27, wp_C28, wp_C29, zput_ne (show (5 : Nat) ≠ 38 by decide), zput_eq]
    refine zw_icmp_ge 43 ok_Ch_addToGone rfl (by decide) (by omega) (fun h13 => ?_) (fun h13 => ?_)
    · exfalso; omega
    · refine zw_aload_n ok_Ch_addToGone rfl rfl ?_
      refine zw_getr ok_Ch_addToGone rfl fl_Ch_15 rfl rfl ?_
      refine zw_iload_n ok_Ch_addToGone rfl rfl ?_
      refine zw_Vbp ok_Ch_addToGone rfl ok_Co_isGone lk_Ch_71 (by decide) rfl rfl (Nat.le_of_ble_eq_true rfl) (ct_Co_isGone (by omega)) ?_
      refine zw_ifeq_b 37 ok_Ch_addToGone rfl (by decide) (fun h24 => ?_) (fun h24 => ?_)
      · rw [if_neg (by simp [h24])] at hx
        refine zw_iinc ok_Ch_addToGone rfl rfl rfl (by decide) ?_
        refine zw_goto 2 ok_Ch_addToGone rfl (by decide) ?_
        exact ih (p + 1) _ (by omega) (by omega) hx
      · rw [if_pos h24] at hx
        refine zw_aload_n ok_Ch_addToGone rfl rfl ?_
        refine zw_getr ok_Ch_addToGone rfl fl_Ch_9 rfl rfl ?_
        refine zw_iload_n ok_Ch_addToGone rfl rfl ?_
        refine zw_dup2 ok_Ch_addToGone rfl ?_
        refine zw_lald ok_Ch_addToGone rfl rfl (by omega) ?_
        try simp only [rd_C9, rd_C10, rd_C11, rd_C12, rd_C25, rd_C26, rd_C27, rd_C28, rd_C29, rd_C_0, rd_C_1, rd_C_2, rd_C_3, rd_C_4, rd_C_5, rd_C_6, rd_C_7, rd_C_8, rd_C_9, rd_C_10, rd_C_11, rd_C_12, rd_C_13, rd_C_14, rd_C_15, rd_C_16, rd_C_17, rd_C_18, rd_C_19, rd_C_20, rd_C_21, rd_C_22, rd_C_23, rd_C_30, rd_C_31, rd_C_32, rd_C_33, rd_C_34, rd_C_35, rd_C_36, rd_C_37, rd_C_38, rd_C_39, rd_C_40, rd_C_41, rd_C_42, rd_C_43, rd_C_44, rd_C_45, rd_C_46, rd_C_47, rd_C_48, rd_C_49, rd_C_50, rd_C_51, rd_C_52, rd_C_53, rd_C_54, rd_C_55, rd_C_56, rd_C_57, rd_C_58, rd_C_59, rd_C_60, rd_C_61, rd_C_62, rd_C_63, rd_C_64, rd_C_65, wr_C9, wr_C10, wr_C11, wr_C12, wr_C25, wr_C26, wr_C27, wr_C28, wr_C29, wp_C25, wp_C26, wp_C27, wp_C28, wp_C29, zput_ne (show (5 : Nat) ≠ 38 by decide), zput_eq]
        refine zw_lload_n ok_Ch_addToGone rfl rfl ?_
        refine zw_ladd ok_Ch_addToGone rfl ?_
        refine zw_last ok_Ch_addToGone rfl rfl (by omega) ?_
        try simp only [rd_C9, rd_C10, rd_C11, rd_C12, rd_C25, rd_C26, rd_C27, rd_C28, rd_C29, rd_C_0, rd_C_1, rd_C_2, rd_C_3, rd_C_4, rd_C_5, rd_C_6, rd_C_7, rd_C_8, rd_C_9, rd_C_10, rd_C_11, rd_C_12, rd_C_13, rd_C_14, rd_C_15, rd_C_16, rd_C_17, rd_C_18, rd_C_19, rd_C_20, rd_C_21, rd_C_22, rd_C_23, rd_C_30, rd_C_31, rd_C_32, rd_C_33, rd_C_34, rd_C_35, rd_C_36, rd_C_37, rd_C_38, rd_C_39, rd_C_40, rd_C_41, rd_C_42, rd_C_43, rd_C_44, rd_C_45, rd_C_46, rd_C_47, rd_C_48, rd_C_49, rd_C_50, rd_C_51, rd_C_52, rd_C_53, rd_C_54, rd_C_55, rd_C_56, rd_C_57, rd_C_58, rd_C_59, rd_C_60, rd_C_61, rd_C_62, rd_C_63, rd_C_64, rd_C_65, wr_C9, wr_C10, wr_C11, wr_C12, wr_C25, wr_C26, wr_C27, wr_C28, wr_C29, wp_C25, wp_C26, wp_C27, wp_C28, wp_C29, zput_ne (show (5 : Nat) ≠ 38 by decide), zput_eq]
        rw [wrC_out (by omega), show zset (zput mem 38 f) 38 p (f p + w) = zput mem 38 (zupd f p (f p + w)) by funext q; by_cases e : q = 38; (subst e; rw [zset_eq, zput_eq, zput_eq]); rw [zset_ne e, zput_ne e, zput_ne e]]
        refine zw_iinc ok_Ch_addToGone rfl rfl rfl (by decide) ?_
        refine zw_goto 2 ok_Ch_addToGone rfl (by decide) ?_
        exact ih (p + 1) _ (by omega) (by omega) hx
theorem ct_Ch_addToGone {w : Int} {f : Int → Int} (hP : 0 ≤ mem 5 4 ∧ mem 5 4 ≤ 8) : zCvp m_Ch_addToGone [vr 37, vl w] (putC (zput mem 38 f) L s) (putC (zput mem 38 (lp (addF s.2.2.1 w) (mem 5 4).toNat 0 f)) L s) := by
  refine zCt.of [some (vr 37), some (vl w), none, none] ok_Ch_addToGone (Nat.le_of_ble_eq_true rfl) rfl ?_
  refine zw_iconst ok_Ch_addToGone rfl ?_
  refine zw_istore_n ok_Ch_addToGone rfl rfl (by decide) ?_
  exact add_loop hP (mem 5 4).toNat 0 f (by omega) (by omega) ⟨rfl, rfl⟩
theorem add_at {g w : Int} {p : Int} : ∀ (k : Nat) (i : Int) (f : Int → Int), 0 ≤ i → lp (addF g w) k i f p = if i ≤ p ∧ p < i + k ∧ tb g p.toNat = true then f p + w else f p
  | 0, i, f, h => by rw [if_neg (by omega)]; rfl
  | k + 1, i, f, h => by
    rw [lp_s, add_at k (i + 1) _ (by omega)]
    unfold addF
    by_cases e : p = i
    · subst e
      rw [if_neg (by omega)]
      by_cases hg : tb g p.toNat = true
      · rw [if_pos hg, zupd_eq, if_pos ⟨by omega, by omega, hg⟩]
      · rw [if_neg hg, if_neg (fun q => hg q.2.2)]
    · have e2 : (if tb g i.toNat = true then zupd f i (f i + w) else f) p = f p := by
        split
        · exact zupd_ne e
        · rfl
      rw [e2]
      by_cases hc : i + 1 ≤ p ∧ p < i + 1 + k ∧ tb g p.toNat = true
      · rw [if_pos hc, if_pos ⟨by omega, by omega, hc.2.2⟩]
      · rw [if_neg hc, if_neg (fun q => hc ⟨by omega, by omega, q.2.2⟩)]
end
end
section
/-! ===== lN n to 2^64: shifts, and, or, masks, one bit ===== -/
theorem wb_tb (n : Nat) : (lN n).toBitVec = BitVec.ofNat 64 n := rfl
theorem wb_inj {a b : Int64} (h : a.toBitVec = b.toBitVec) : a = b := Int64.toBitVec_inj.mp h
theorem wb_tn {n : Nat} (h : n < 2 ^ 64) : (lN n).toBitVec.toNat = n := by rw [wb_tb, BitVec.toNat_ofNat, Nat.mod_eq_of_lt h]
theorem wb_of (x : Int64) : ∃ n, n < 2 ^ 64 ∧ x = lN n := ⟨x.toBitVec.toNat, x.toBitVec.isLt, wb_inj (by rw [wb_tb]; simp)⟩
theorem wb_of32 (x : Int32) : ∃ n, n < 2 ^ 32 ∧ x = nI n := ⟨x.toBitVec.toNat, x.toBitVec.isLt, Int32.toBitVec_inj.mp (by show _ = BitVec.ofNat 32 _; simp)⟩
theorem wb_c : ∀ k, k < 64 → ((nI k).toInt64 &&& 63) = lN k := by decide +kernel
theorem wb_cu : ∀ k, k < 64 → ((nI k).toInt64.toUInt64 &&& Int64.toUInt64 63) = UInt64.ofNat k := by decide +kernel
theorem wb_sm : ∀ k, k < 64 → (BitVec.ofNat 64 k).smod 64 = BitVec.ofNat 64 k := by decide +kernel
theorem wb_pw {a b : Nat} (h : a ≤ b) : 2 ^ b = 2 ^ a * 2 ^ (b - a) := by rw [← Nat.pow_add]; congr 1; omega
theorem wb_lt2 {a b : Nat} (h : a < b) : 2 ^ a < 2 ^ b := Nat.pow_lt_pow_right (by decide) h
theorem wb_mod (n : Nat) : lN n = lN (n % 2 ^ 64) := wb_inj (by rw [wb_tb, wb_tb]; apply BitVec.eq_of_toNat_eq; rw [BitVec.toNat_ofNat, BitVec.toNat_ofNat, Nat.mod_mod])
theorem wb_shr {n k : Nat} (hn : n < 2 ^ 64) (hk : k < 64) : ((lN n).toUInt64 >>> ((nI k).toInt64.toUInt64 &&& Int64.toUInt64 63)).toInt64 = lN (n / 2 ^ k) := by
  rw [wb_cu k hk]
  apply wb_inj
  apply BitVec.eq_of_toNat_eq
  show ((lN n).toUInt64 >>> UInt64.ofNat k).toNat = (BitVec.ofNat 64 _).toNat
  have h1 : (UInt64.ofNat k).toNat = k := by
    show (BitVec.ofNat 64 k).toNat = k
    rw [BitVec.toNat_ofNat, Nat.mod_eq_of_lt (by omega)]
  have h2 : (lN n).toUInt64.toNat = n := wb_tn hn
  rw [UInt64.toNat_shiftRight, h1, h2, Nat.mod_eq_of_lt hk, Nat.shiftRight_eq_div_pow, BitVec.toNat_ofNat, Nat.mod_eq_of_lt (Nat.lt_of_le_of_lt (Nat.div_le_self _ _) hn)]
theorem wb_shl (n : Nat) {k : Nat} (hk : k < 64) : lN n <<< ((nI k).toInt64 &&& 63) = lN (n * 2 ^ k) := by
  rw [wb_c k hk]
  apply wb_inj
  rw [Int64.toBitVec_shiftLeft, wb_tb, wb_tb, wb_tb, wb_sm k hk]
  apply BitVec.eq_of_toNat_eq
  rw [BitVec.shiftLeft_eq', BitVec.toNat_shiftLeft, BitVec.toNat_ofNat, BitVec.toNat_ofNat, BitVec.toNat_ofNat, Nat.mod_eq_of_lt (show k < 2 ^ 64 by omega), Nat.shiftLeft_eq, Nat.mul_mod, Nat.mod_mod, ← Nat.mul_mod]
theorem wb_and {a b : Nat} (ha : a < 2 ^ 64) (hb : b < 2 ^ 64) : lN a &&& lN b = lN (a &&& b) := by
  apply wb_inj
  rw [Int64.toBitVec_and, wb_tb, wb_tb, wb_tb]
  apply BitVec.eq_of_toNat_eq
  rw [BitVec.toNat_and, BitVec.toNat_ofNat, BitVec.toNat_ofNat, BitVec.toNat_ofNat, Nat.mod_eq_of_lt ha, Nat.mod_eq_of_lt hb, Nat.mod_eq_of_lt (Nat.and_lt_two_pow _ hb)]
theorem wb_or {a b : Nat} (ha : a < 2 ^ 64) (hb : b < 2 ^ 64) : lN a ||| lN b = lN (a ||| b) := by
  apply wb_inj
  rw [Int64.toBitVec_or, wb_tb, wb_tb, wb_tb]
  apply BitVec.eq_of_toNat_eq
  rw [BitVec.toNat_or, BitVec.toNat_ofNat, BitVec.toNat_ofNat, BitVec.toNat_ofNat, Nat.mod_eq_of_lt ha, Nat.mod_eq_of_lt hb, Nat.mod_eq_of_lt (Nat.or_lt_two_pow ha hb)]
theorem wb_mask {n k : Nat} (hn : n < 2 ^ 64) (hk : k < 64) : lN n &&& lN (2 ^ k - 1) = lN (n % 2 ^ k) := by
  rw [wb_and hn (by have := wb_lt2 hk; omega), Nat.and_two_pow_sub_one_eq_mod]
theorem wb_a1 {n : Nat} (hn : n < 2 ^ 64) : lN n &&& 1 = lN (n % 2) := wb_mask (k := 1) hn (by decide)
theorem wb_bit {n k : Nat} (hn : n < 2 ^ 64) (hk : k < 64) : ((lN n).toUInt64 >>> ((nI k).toInt64.toUInt64 &&& Int64.toUInt64 63)).toInt64 &&& 1 = lN (n / 2 ^ k % 2) := by
  rw [wb_shr hn hk, wb_a1 (Nat.lt_of_le_of_lt (Nat.div_le_self _ _) hn)]
theorem wb_xor {q k : Nat} (hk : k < 63) (h : 2 ^ k ≤ q) (h2 : q < 2 ^ (k + 1)) : lN q ^^^ lN (2 ^ k) = lN (q - 2 ^ k) := by
  obtain ⟨r, rfl⟩ : ∃ r, q = 2 ^ k + r := ⟨q - 2 ^ k, by omega⟩
  have hr : r < 2 ^ k := by rw [Nat.pow_succ] at h2; omega
  have hx : (2 ^ k + r) ^^^ 2 ^ k = r := by
    apply Nat.eq_of_testBit_eq
    intro i
    rw [Nat.testBit_xor, Nat.testBit_two_pow]
    rcases Nat.lt_trichotomy i k with h | h | h
    · rw [Nat.testBit_two_pow_add_gt h]
      simp [show ¬ k = i by omega]
    · subst h
      rw [Nat.testBit_two_pow_add_eq]
      simp
    · have a1 : 2 ^ (k + 1) ≤ 2 ^ i := Nat.pow_le_pow_right (by decide) h
      rw [Nat.testBit_lt_two_pow (show 2 ^ k + r < 2 ^ i by omega), Nat.testBit_lt_two_pow (show r < 2 ^ i by omega)]
      simp [show ¬ k = i by omega]
  have b1 := wb_lt2 (show k + 1 < 64 by omega)
  have b2 := wb_lt2 (show k < 64 by omega)
  apply wb_inj
  rw [Int64.toBitVec_xor, wb_tb, wb_tb, wb_tb]
  apply BitVec.eq_of_toNat_eq
  rw [BitVec.toNat_xor, BitVec.toNat_ofNat, BitVec.toNat_ofNat, BitVec.toNat_ofNat, Nat.mod_eq_of_lt (by omega : 2 ^ k + r < 2 ^ 64), Nat.mod_eq_of_lt b2, hx, Nat.add_sub_cancel_left, Nat.mod_eq_of_lt (by omega)]
/-! ===== lN to 2^62 under >> and >>> ===== -/
theorem pf_lI {a : Nat} (h : a < 2 ^ 63) : (lN a).toInt = (a : Int) := lg_ofNat_toInt h
theorem pf_shr {a d : Nat} {D : Int64} (hD : (D.toBitVec.smod 64).toNat = d) (h : a < 2 ^ 62) : lN a >>> D = lN (a / 2 ^ d) := by
  have hd : a / 2 ^ d ≤ a := Nat.div_le_self _ _
  apply Int64.toInt_inj.mp
  have e : (lN a >>> D).toInt = (lN a).toInt >>> d := by
    rw [← hD]
    exact BitVec.toInt_sshiftRight ..
  rw [e, Int.shiftRight_eq_div_pow, pf_lI (by omega), pf_lI (by omega)]
  rfl
theorem pf_ushr {a d : Nat} {D : UInt64} (hD : D.toNat % 64 = d) (h : a < 2 ^ 62) : ((lN a).toUInt64 >>> D).toInt64 = lN (a / 2 ^ d) := by
  have hd : a / 2 ^ d ≤ a := Nat.div_le_self _ _
  have e : (lN a).toUInt64 >>> D = UInt64.ofNat (a / 2 ^ d) := UInt64.toNat_inj.mp (by
    rw [UInt64.toNat_shiftRight, hD, Nat.shiftRight_eq_div_pow, UInt64.toNat_ofNat']
    show (UInt64.ofNat a).toNat / 2 ^ d = _
    rw [UInt64.toNat_ofNat', Nat.mod_eq_of_lt (by omega), Nat.mod_eq_of_lt (by omega)])
  rw [e]
  rfl
theorem pf_andw (x : Int64) : ∃ m, m < 2 ^ 32 ∧ x &&& 4294967295 = lN m := ⟨x.toBitVec.toNat % 2 ^ 32, Nat.mod_lt _ (by decide), Int64.toBitVec_inj.mp (BitVec.eq_of_toNat_eq (by
  show (x.toBitVec &&& 4294967295#64).toNat = (BitVec.ofNat 64 (x.toBitVec.toNat % 2 ^ 32)).toNat
  rw [BitVec.toNat_and, show (4294967295#64).toNat = 2 ^ 32 - 1 from by decide, Nat.and_two_pow_sub_one_eq_mod, BitVec.toNat_ofNat]
  omega))⟩
theorem zlN {x : Int} (h : 0 ≤ x) : Int64.ofInt x = lN x.toNat := by
  obtain ⟨n, rfl⟩ := Int.eq_ofNat_of_zero_le h
  simp [lN, Int64.ofInt_eq_ofNat]
theorem zlshr_nn {w h : Int} (hw : 0 ≤ w ∧ w < 4611686018427387904) (hh : 0 ≤ h ∧ h < 64) : zlshr w h = w / 2 ^ h.toNat := by
  unfold zlshr
  rw [zlN hw.1, znI hh.1, wb_c _ (by omega), pf_shr (d := h.toNat) (by rw [wb_tb, wb_sm _ (by omega), BitVec.toNat_ofNat, Nat.mod_eq_of_lt (by omega)]) (by omega)]
  have h1 : w.toNat / 2 ^ h.toNat ≤ w.toNat := Nat.div_le_self _ _
  rw [pf_lI (by omega), Int.natCast_ediv, Int.toNat_of_nonneg hw.1]
  congr 1
theorem zland1 {x : Int} (hx : 0 ≤ x ∧ x < 4611686018427387904) : zland x 1 = x % 2 := by
  unfold zland
  rw [zlN hx.1]
  show (lN x.toNat &&& 1).toInt = x % 2
  rw [wb_a1 (by omega), pf_lI (by omega)]
  omega
theorem zlshl_1 {k : Int} (hk : 0 ≤ k ∧ k < 62) : zlshl 1 k = 2 ^ k.toNat := by
  unfold zlshl
  rw [zlN (by omega : (0 : Int) ≤ 1), znI hk.1, wb_shl _ (by omega)]
  have h1 : 2 ^ k.toNat < 2 ^ 62 := wb_lt2 (by omega)
  show (lN (1 * 2 ^ k.toNat)).toInt = _
  rw [Nat.one_mul, pf_lI (by omega)]
  simp
theorem zR64 (x : Int64) : -9223372036854775808 ≤ x.toInt ∧ x.toInt < 9223372036854775808 := by
  have h1 := Int64.le_toInt x
  have h2 := Int64.toInt_lt x
  omega
theorem lp_snoc {σ : Type} (f : Int → σ → σ) : ∀ (k : Nat) (i : Int) (s : σ), lp f (k + 1) i s = f (i + k) (lp f k i s)
  | 0, i, s => by show f i s = f (i + 0) s; rw [Int.add_zero]
  | k + 1, i, s => by
    rw [lp_s, lp_snoc f k (i + 1) (f i s), lp_s]
    congr 1
    omega
end
section
/-! ===== Chances: weigh, halvings, above, below ===== -/
theorem zshl_pow : ∀ n, n ≤ 8 → zshl 1 ((n : Nat) : Int) = 2 ^ n := by decide +kernel
def grF (gn : Int → Int → Bool) (c nu : Int) (p : Int) (f w : Int) : Int := if gn f p = true then w + lp (wtF f c) nu.toNat 0 1 else w
/-- with some umbrellas forgotten: who is gone behind hour h -/
def gnC (mem : zMem) (n : Nat) (f : Int) (gn : Int → Bool) : Prop := ∀ (L : zL) (d l : Int → Int) (p : Int), 0 ≤ p → p < mem 5 4 → tb (walkS (mem 5 4) (mem 7) (mem 9) (layS mem (-1) f L).1 (fun h => zor ((layS mem (-1) f L).2.1 h) (mem 5 5)) n (begS (layS mem (-1) f L).2.2 d l)).2.2.1 p.toNat = gn p
def hvS (w : Int) : Nat → Int → Int
  | 0, h => h
  | k + 1, h => if w / 2 ^ h.toNat % 2 = 0 then hvS w k (h + 1) else h
theorem hvS_r {w : Int} : ∀ (k : Nat) (h : Int), h ≤ hvS w k h ∧ hvS w k h ≤ h + k
  | 0, h => by unfold hvS; omega
  | k + 1, h => by
    unfold hvS
    split
    · have := hvS_r (w := w) k (h + 1); omega
    · omega
section
variable {mem : zMem} {st hd df : Int → Int} {s : zS} {L : zL} {Q : Option zVal → zMem → Prop}
theorem weigh_loop {c h N : Int} {gn : Int → Int → Bool} (hC : okC mem) (hc : 0 ≤ c ∧ c ≤ 16) (hh : 0 ≤ h ∧ h ≤ 11) (hN : 0 ≤ N ∧ N ≤ 256) (hgn : ∀ f, 0 ≤ f → f < N → gnC mem (h + 1).toNat f (gn f)) :
    ∀ (k : Nat) (i : Int) (fw : Int → Int) (L : zL) (s : zS), 0 ≤ i → i + k = N → (∀ p, 0 ≤ p → p < mem 5 4 → fw p = lp (grF gn c (mem 16 3) p) i.toNat 0 0) → (∀ fw L s, (∀ p, 0 ≤ p → p < mem 5 4 → fw p = lp (grF gn c (mem 16 3) p) N.toNat 0 0) → Q none (putC (zput mem 38 fw) L s)) → AW m_Ch_weigh 24 [some (vr 37), some (vi c), some (vi h), some (vi N), some (vi i), none, none] [] (putC (zput mem 38 fw) L s) Q := by
  have h16 := hC.1.2.2.1
  have hP8 := hC.2.1.2.1
  intro k
  induction k with
  | zero =>
    intro i fw L s h0 hi hf hx
    have e : i = N := by omega
    subst e
    refine zw_iload ok_Ch_weigh rfl rfl ?_
    refine zw_iload_n ok_Ch_weigh rfl rfl ?_
    refine zw_icmp_ge 83 ok_Ch_weigh rfl (by decide) (by omega) (fun h27 => ?_) (fun h27 => ?_)
    · exact zw_vret ok_Ch_weigh rfl rfl (hx fw L s hf)
    · exfalso; omega
  | succ k ih =>
    intro i fw L s h0 hi hf hx
    have lo : ∀ q, q < 24 → zput mem 38 fw q = mem q := fun q hq => zput_ne (by omega)
    have hC1 := okC_of lo hC
    obtain ⟨st0, hd0, df0⟩ := L
    have hst := layS_st (ol := -1) (ll := i) (L := (st0, hd0, df0)) hC
    have hdf := layS_df (ol := -1) (ll := i) (L := (st0, hd0, df0)) hC
    have eL := layS_of lo (-1) i (st0, hd0, df0)
    have hg := hgn i h0 (by omega) (st0, hd0, df0) s.1 s.2.1
    generalize layS mem (-1) i (st0, hd0, df0) = L1 at hst hdf eL hg
    obtain ⟨st, hd, df⟩ := L1
    dsimp only at hst hdf hg
    have hdf1 : dfI (zput mem 38 fw 5 4) df := hdf
    have hwr := wt_r8 (f := i) (c := c) hc (k := (mem 16 3).toNat) (by omega) (u := 0)
    have hstep : ∀ p, 0 ≤ p → p < mem 5 4 → lp (grF gn c (mem 16 3) p) (i + 1).toNat 0 0 = if gn i p = true then fw p + lp (wtF i c) (mem 16 3).toNat 0 1 else fw p := by
      intro p q1 q2
      rw [show (i + 1).toNat = i.toNat + 1 by omega, lp_snoc, ← hf p q1 q2]
      unfold grF
      rw [show (0 : Int) + (i.toNat : Int) = i by omega]
    generalize hw : lp (wtF i c) (mem 16 3).toNat 0 1 = w at hwr hstep
    have next : ∀ f2 L2 s2, (∀ p, 0 ≤ p → p < mem 5 4 → f2 p = if gn i p = true then fw p + w else fw p) → AW m_Ch_weigh 77 [some (vr 37), some (vi c), some (vi h), some (vi N), some (vi i), none, none] [] (putC (zput mem 38 f2) L2 s2) Q := by
      intro f2 L2 s2 hf2
      refine zw_iinc ok_Ch_weigh rfl rfl rfl (by decide) ?_
      refine zw_goto 24 ok_Ch_weigh rfl (by decide) ?_
      exact ih (i + 1) f2 L2 s2 (by omega) (by omega) (fun p q1 q2 => by rw [hstep p q1 q2]; exact hf2 p q1 q2) hx
    refine zw_iload ok_Ch_weigh rfl rfl ?_
    refine zw_iload_n ok_Ch_weigh rfl rfl ?_
    refine zw_icmp_ge 83 ok_Ch_weigh rfl (by decide) (by omega) (fun h27 => ?_) (fun h27 => ?_)
    · exfalso; omega
    · refine zw_aload_n ok_Ch_weigh rfl rfl ?_
      refine zw_iload ok_Ch_weigh rfl rfl ?_
      refine zw_iload_n ok_Ch_weigh rfl rfl ?_
      refine zw_Vlp ok_Ch_weigh rfl ok_Ch_weightOf lk_Ch_37 (by decide) rfl rfl (Nat.le_of_ble_eq_true rfl) (ct_Ch_weightOf hC1 hc) ?_
      rw [lo 16 (by omega), hw]
      refine zw_lstore ok_Ch_weigh rfl rfl (by decide) ?_
      refine zw_lload ok_Ch_weigh rfl rfl ?_
      refine zw_lconst ok_Ch_weigh rfl ?_
      refine zw_lcmp ok_Ch_weigh rfl (by omega) ?_
      refine zw_if_eq 77 ok_Ch_weigh rfl (by decide) (by (repeat' split) <;> omega) (fun h43 => ?_) (fun h43 => ?_)
      · refine zw_mask [true, true, true, true, true, false, false] rfl ?_
        have hw0 : w = 0 := by split at h43 <;> first | omega | (split at h43 <;> omega)
        exact next fw _ _ (fun p _ _ => by rw [hw0, Int.add_zero]; split <;> rfl)
      · refine zw_aload_n ok_Ch_weigh rfl rfl ?_
        refine zw_getr ok_Ch_weigh rfl fl_Ch_15 rfl rfl ?_
        refine zw_iconst ok_Ch_weigh rfl ?_
        refine zw_iload ok_Ch_weigh rfl rfl ?_
        refine zw_Vvp ok_Ch_weigh rfl ok_Co_layOut lk_Ch_41 (by decide) rfl rfl (Nat.le_of_ble_eq_true rfl) (ct_Co_layOut hC1.1 (by omega)) ?_
        rw [eL]
        refine zw_aload_n ok_Ch_weigh rfl rfl ?_
        refine zw_getr ok_Ch_weigh rfl fl_Ch_15 rfl rfl ?_
        refine zw_Vvp ok_Ch_weigh rfl ok_Co_begin lk_Ch_45 (by decide) rfl rfl (Nat.le_of_ble_eq_true rfl) (ct_Co_begin) ?_
        refine zw_aload_n ok_Ch_weigh rfl rfl ?_
        refine zw_getr ok_Ch_weigh rfl fl_Ch_15 rfl rfl ?_
        refine zw_iload_n ok_Ch_weigh rfl rfl ?_
        refine zw_Vvp ok_Ch_weigh rfl ok_Co_walkTo lk_Ch_48 (by decide) rfl rfl (Nat.le_of_ble_eq_true rfl) (ct_Co_walkTo hC1.2.1 rfl hh hst (begS_inv hC1.2.1.2.1 hdf1) ⟨Int.le_refl _, (show (-1 : Int) ≤ 11 by decide)⟩) ?_
        rw [lo 5 (by omega), lo 7 (by omega), lo 9 (by omega)]
        generalize walkS (mem 5 4) (mem 7) (mem 9) st (fun h => zor (hd h) (mem 5 5)) (h + 1).toNat (begS df s.1 s.2.1) = S at hg ⊢
        refine zw_aload_n ok_Ch_weigh rfl rfl ?_
        refine zw_lload ok_Ch_weigh rfl rfl ?_
        refine zw_Vvp ok_Ch_weigh rfl ok_Ch_addToGone lk_Ch_52 (by decide) rfl rfl (Nat.le_of_ble_eq_true rfl) (ct_Ch_addToGone hC.1.1) ?_
        refine zw_mask [true, true, true, true, true, false, false] rfl ?_
        refine next _ _ _ (fun p q1 q2 => ?_)
        rw [add_at _ _ _ (by omega), hg p q1 q2]
        by_cases hgp : gn i p = true
        · rw [if_pos ⟨q1, by omega, hgp⟩, if_pos hgp]
        · rw [if_neg (fun q => hgp q.2.2), if_neg hgp]
theorem ct_Ch_weigh {c h : Int} {gn : Int → Int → Bool} (hC : okC mem) (hc : 0 ≤ c ∧ c ≤ 16) (hh : 0 ≤ h ∧ h ≤ 11) (hgn : ∀ f, 0 ≤ f → f < 2 ^ (mem 16 3).toNat → gnC mem (h + 1).toNat f (gn f)) : zCv m_Ch_weigh [vr 37, vi c, vi h] (putC mem L s) (fun m2 => ∃ fw L2 s2, m2 = putC (zput mem 38 fw) L2 s2 ∧ ∀ p, 0 ≤ p → p < mem 5 4 → fw p = lp (grF gn c (mem 16 3) p) (2 ^ (mem 16 3).toNat) 0 0) := by
  have h16 := hC.1.2.2.1
  have hP8 := hC.2.1.2.1
  refine zCt.of [some (vr 37), some (vi c), some (vi h), none, none, none, none] ok_Ch_weigh (Nat.le_of_ble_eq_true rfl) rfl ?_
  have ez : zshl 1 (mem 16 3) = 2 ^ (mem 16 3).toNat := by
    have := zshl_pow (mem 16 3).toNat (by omega)
    rwa [Int.toNat_of_nonneg h16.1] at this
  have ep : (0 : Int) ≤ 2 ^ (mem 16 3).toNat ∧ (2 : Int) ^ (mem 16 3).toNat ≤ 256 := by
    have : ∀ n, n ≤ 8 → (0 : Int) ≤ 2 ^ n ∧ (2 : Int) ^ n ≤ 256 := by decide
    exact this _ (by omega)
  have et : ((2 : Int) ^ (mem 16 3).toNat).toNat = 2 ^ (mem 16 3).toNat := by
    have : ∀ n, n ≤ 8 → ((2 : Int) ^ n).toNat = 2 ^ n := by decide
    exact this _ (by omega)
  refine zw_aload_n ok_Ch_weigh rfl rfl ?_
  refine zw_getr ok_Ch_weigh rfl fl_Ch_9 rfl rfl ?_
  refine zw_lconst ok_Ch_weigh rfl ?_
  refine zw_Svp ok_Ch_weigh rfl ok_Jarr_fill_d0a16 lk_Ch_19 (by decide) rfl (Nat.le_of_ble_eq_true rfl) (ct_Jarr_fill_d0a16) ?_
  rw [wpC_out (by omega)]
  refine zw_iconst ok_Ch_weigh rfl ?_
  refine zw_aload_n ok_Ch_weigh rfl rfl ?_
  refine zw_getr ok_Ch_weigh rfl fl_Ch_15 rfl rfl ?_
  refine zw_getr ok_Ch_weigh rfl fl_Ch_25 rfl rfl ?_
  refine zw_geti ok_Ch_weigh rfl fl_Ch_31 rfl rfl ?_
  try simp only [rd_C9, rd_C10, rd_C11, rd_C12, rd_C25, rd_C26, rd_C27, rd_C28, rd_C29, rd_C_0, rd_C_1, rd_C_2, rd_C_3, rd_C_4, rd_C_5, rd_C_6, rd_C_7, rd_C_8, rd_C_9, rd_C_10, rd_C_11, rd_C_12, rd_C_13, rd_C_14, rd_C_15, rd_C_16, rd_C_17, rd_C_18, rd_C_19, rd_C_20, rd_C_21, rd_C_22, rd_C_23, rd_C_30, rd_C_31, rd_C_32, rd_C_33, rd_C_34, rd_C_35, rd_C_36, rd_C_37, rd_C_38, rd_C_39, rd_C_40, rd_C_41, rd_C_42, rd_C_43, rd_C_44, rd_C_45, rd_C_46, rd_C_47, rd_C_48, rd_C_49, rd_C_50, rd_C_51, rd_C_52, rd_C_53, rd_C_54, rd_C_55, rd_C_56, rd_C_57, rd_C_58, rd_C_59, rd_C_60, rd_C_61, rd_C_62, rd_C_63, rd_C_64, rd_C_65, wr_C9, wr_C10, wr_C11, wr_C12, wr_C25, wr_C26, wr_C27, wr_C28, wr_C29, wp_C25, wp_C26, wp_C27, wp_C28, wp_C29, zput_ne (show (16 : Nat) ≠ 38 by decide)]
  refine zw_ishl ok_Ch_weigh rfl ?_
  rw [ez]
  refine zw_istore_n ok_Ch_weigh rfl rfl (by decide) ?_
  refine zw_iconst ok_Ch_weigh rfl ?_
  refine zw_istore ok_Ch_weigh rfl rfl (by decide) ?_
  refine weigh_loop hC hc hh ep hgn (2 ^ (mem 16 3).toNat) 0 _ L s (by omega) (by rw [← et]; omega) (fun p q1 q2 => ?_) (fun fw L s hf => ⟨rfl, fw, L, s, rfl, fun p q1 q2 => by rw [hf p q1 q2, et]⟩)
  show zfil 8 0 (mem 38) p = 0
  unfold zfil
  rw [if_pos (by omega)]
theorem ct_Ch_bitsOfWhole : zCip m_Ch_bitsOfWhole [vr 37] mem (4 * mem 16 3) := by
  refine zCt.of [some (vr 37)] ok_Ch_bitsOfWhole (Nat.le_of_ble_eq_true rfl) rfl ?_
  refine zw_iconst ok_Ch_bitsOfWhole rfl ?_
  refine zw_aload_n ok_Ch_bitsOfWhole rfl rfl ?_
  refine zw_getr ok_Ch_bitsOfWhole rfl fl_Ch_15 rfl rfl ?_
  refine zw_getr ok_Ch_bitsOfWhole rfl fl_Ch_25 rfl rfl ?_
  refine zw_geti ok_Ch_bitsOfWhole rfl fl_Ch_31 rfl rfl ?_
  refine zw_imul ok_Ch_bitsOfWhole rfl ?_
  exact zw_iret ok_Ch_bitsOfWhole rfl rfl (⟨rfl, rfl⟩)
theorem hv_loop {p : Int} (h16 : 0 ≤ mem 16 3 ∧ mem 16 3 ≤ 8) (hp : 0 ≤ p ∧ p < 8) (hw : 0 ≤ mem 38 p ∧ mem 38 p < 4611686018427387904) :
    ∀ (k : Nat) (h : Int), 0 ≤ h → h + k = 4 * mem 16 3 → Q (some (vi (hvS (mem 38 p) k h))) mem → AW m_Ch_halvings 2 [some (vr 37), some (vi p), some (vi h)] [] mem Q := by
  intro k
  induction k with
  | zero =>
    intro h h0 hk hx
    refine zw_iload_n ok_Ch_halvings rfl rfl ?_
    refine zw_aload_n ok_Ch_halvings rfl rfl ?_
    refine zw_Vip ok_Ch_halvings rfl ok_Ch_bitsOfWhole lk_Ch_60 (by decide) rfl rfl (Nat.le_of_ble_eq_true rfl) (ct_Ch_bitsOfWhole) ?_
    refine zw_icmp_ge 31 ok_Ch_halvings rfl (by decide) (by omega) (fun h7 => ?_) (fun h7 => ?_)
    · refine zw_iload_n ok_Ch_halvings rfl rfl ?_
      exact zw_iret ok_Ch_halvings rfl rfl (hx)
    · exfalso; omega
  | succ k ih =>
    intro h h0 hk hx
    have hd1 : 0 ≤ mem 38 p / 2 ^ h.toNat := Int.ediv_nonneg hw.1 (Int.pow_nonneg (by omega))
    have hd2 : mem 38 p / 2 ^ h.toNat ≤ mem 38 p := Int.ediv_le_self _ hw.1
    unfold hvS at hx
    refine zw_iload_n ok_Ch_halvings rfl rfl ?_
    refine zw_aload_n ok_Ch_halvings rfl rfl ?_
    refine zw_Vip ok_Ch_halvings rfl ok_Ch_bitsOfWhole lk_Ch_60 (by decide) rfl rfl (Nat.le_of_ble_eq_true rfl) (ct_Ch_bitsOfWhole) ?_
    refine zw_icmp_ge 31 ok_Ch_halvings rfl (by decide) (by omega) (fun h7 => ?_) (fun h7 => ?_)
    · exfalso; omega
    · refine zw_aload_n ok_Ch_halvings rfl rfl ?_
      refine zw_getr ok_Ch_halvings rfl fl_Ch_9 rfl rfl ?_
      refine zw_iload_n ok_Ch_halvings rfl rfl ?_
      refine zw_lald ok_Ch_halvings rfl rfl (by omega) ?_
      refine zw_iload_n ok_Ch_halvings rfl rfl ?_
      refine zw_lshr ok_Ch_halvings rfl ?_
      rw [zlshr_nn hw (by omega)]
      refine zw_lconst ok_Ch_halvings rfl ?_
      refine zw_land ok_Ch_halvings rfl ?_
      rw [show ((1 : Fin 2) : Nat) = 1 from rfl, show ((1 : Nat) : Int) = 1 from rfl, zland1 (by omega)]
      refine zw_lconst ok_Ch_halvings rfl ?_
      refine zw_lcmp ok_Ch_halvings rfl (by omega) ?_
      refine zw_if_ne 31 ok_Ch_halvings rfl (by decide) (by (repeat' split) <;> omega) (fun h22 => ?_) (fun h22 => ?_)
      · rw [if_neg (by intro q; rw [q] at h22; exact h22 rfl)] at hx
        refine zw_iload_n ok_Ch_halvings rfl rfl ?_
        exact zw_iret ok_Ch_halvings rfl rfl (hx)
      · rw [if_pos (by split at h22 <;> first | omega | (split at h22 <;> omega))] at hx
        refine zw_iinc ok_Ch_halvings rfl rfl rfl (by decide) ?_
        refine zw_goto 2 ok_Ch_halvings rfl (by decide) ?_
        exact ih (h + 1) (by omega) (by omega) hx
theorem ct_Ch_halvings {p : Int} (h16 : 0 ≤ mem 16 3 ∧ mem 16 3 ≤ 8) (hp : 0 ≤ p ∧ p < 8) (hw : 0 ≤ mem 38 p ∧ mem 38 p < 4611686018427387904) : zCip m_Ch_halvings [vr 37, vi p] mem (hvS (mem 38 p) (4 * mem 16 3).toNat 0) := by
  refine zCt.of [some (vr 37), some (vi p), none] ok_Ch_halvings (Nat.le_of_ble_eq_true rfl) rfl ?_
  refine zw_iconst ok_Ch_halvings rfl ?_
  refine zw_istore_n ok_Ch_halvings rfl rfl (by decide) ?_
  exact hv_loop h16 hp hw (4 * mem 16 3).toNat 0 (by omega) (by omega) ⟨rfl, rfl⟩
theorem ct_Ch_above {p : Int} (h16 : 0 ≤ mem 16 3 ∧ mem 16 3 ≤ 8) (hp : 0 ≤ p ∧ p < 8) (hw : 0 ≤ mem 38 p ∧ mem 38 p < 4611686018427387904) : zClp m_Ch_above [vr 37, vi p] mem (mem 38 p / 2 ^ (hvS (mem 38 p) (4 * mem 16 3).toNat 0).toNat) := by
  refine zCt.of [some (vr 37), some (vi p)] ok_Ch_above (Nat.le_of_ble_eq_true rfl) rfl ?_
  have hr := hvS_r (w := mem 38 p) (4 * mem 16 3).toNat 0
  refine zw_aload_n ok_Ch_above rfl rfl ?_
  refine zw_getr ok_Ch_above rfl fl_Ch_9 rfl rfl ?_
  refine zw_iload_n ok_Ch_above rfl rfl ?_
  refine zw_lald ok_Ch_above rfl rfl (by omega) ?_
  refine zw_aload_n ok_Ch_above rfl rfl ?_
  refine zw_iload_n ok_Ch_above rfl rfl ?_
  refine zw_Vip ok_Ch_above rfl ok_Ch_halvings lk_Ch_56 (by decide) rfl rfl (Nat.le_of_ble_eq_true rfl) (ct_Ch_halvings h16 hp hw) ?_
  refine zw_lshr ok_Ch_above rfl ?_
  rw [zlshr_nn hw (by omega)]
  exact zw_lret ok_Ch_above rfl rfl (⟨rfl, rfl⟩)
theorem ct_Ch_below {p : Int} (h16 : 0 ≤ mem 16 3 ∧ mem 16 3 ≤ 8) (hp : 0 ≤ p ∧ p < 8) (hw : 0 ≤ mem 38 p ∧ mem 38 p < 4611686018427387904) : zClp m_Ch_below [vr 37, vi p] mem (2 ^ (4 * mem 16 3 - hvS (mem 38 p) (4 * mem 16 3).toNat 0).toNat) := by
  refine zCt.of [some (vr 37), some (vi p)] ok_Ch_below (Nat.le_of_ble_eq_true rfl) rfl ?_
  have hr := hvS_r (w := mem 38 p) (4 * mem 16 3).toNat 0
  refine zw_lconst ok_Ch_below rfl ?_
  refine zw_aload_n ok_Ch_below rfl rfl ?_
  refine zw_Vip ok_Ch_below rfl ok_Ch_bitsOfWhole lk_Ch_60 (by decide) rfl rfl (Nat.le_of_ble_eq_true rfl) (ct_Ch_bitsOfWhole) ?_
  refine zw_aload_n ok_Ch_below rfl rfl ?_
  refine zw_iload_n ok_Ch_below rfl rfl ?_
  refine zw_Vip ok_Ch_below rfl ok_Ch_halvings lk_Ch_56 (by decide) rfl rfl (Nat.le_of_ble_eq_true rfl) (ct_Ch_halvings h16 hp hw) ?_
  refine zw_isub ok_Ch_below rfl ?_
  refine zw_lshl ok_Ch_below rfl ?_
  rw [show ((1 : Fin 2) : Nat) = 1 from rfl, show ((1 : Nat) : Int) = 1 from rfl, zlshl_1 (by omega)]
  exact zw_lret ok_Ch_below rfl rfl (⟨rfl, rfl⟩)
end
end
section
/-! ===== what the people's text tells; People.take ===== -/
def sGo (k b : Int) : Bool := if k = 0 then decide (b = 111 ∨ b = 112 ∨ b = 99) else if k = 3 then decide (49 ≤ b ∧ b ≤ 57) else if k = 4 then decide (b = 59) else decide (48 ≤ b ∧ b ≤ 57)
/-- the first place from i on that cannot go on, among k; -1: none -/
def sScan (t : Int → Int) : Nat → Int → Int
  | 0, _ => -1
  | k + 1, i => if sGo (i % 5) (t i) = true then sScan t k (i + 1) else i
def sFp (n : Int) (t : Int → Int) : Int := if sScan t n.toNat 0 ≠ -1 then sScan t n.toNat 0 else if n = 0 ∨ n % 5 = 4 then -1 else n
def sP (n : Int) (t : Int → Int) : Int := if sFp n t = -1 then (n + 1) / 5 else 0
def sK (t : Int → Int) (p : Int) : Int := if t (5 * p) = 112 then 1 else if t (5 * p) = 99 then 2 else 0
def sCan (t : Int → Int) (p : Int) : Int := 10 * (t (5 * p + 1) - 48) + t (5 * p + 2) - 48
def sLo (t : Int → Int) (p : Int) : Int := t (5 * p + 3) - 48
def sSt (t : Int → Int) (p : Int) : Int := if sK t p = 1 then sLo t p + 1 else sLo t p
def clF (t : Int → Int) (p b : Int) : Int := if sK t p = 2 then zor b (zshl 1 p) else b
theorem sScan_r {t : Int → Int} : ∀ (k : Nat) (i : Int), 0 ≤ i → sScan t k i = -1 ∨ (i ≤ sScan t k i ∧ sScan t k i < i + k)
  | 0, _, _ => Or.inl rfl
  | k + 1, i, h => by
    unfold sScan
    split
    · rcases sScan_r (t := t) k (i + 1) (by omega) with h1 | h1
      · exact Or.inl h1
      · right; omega
    · right; omega
theorem sScan_ok {t : Int → Int} : ∀ (k : Nat) (i : Int), 0 ≤ i → sScan t k i = -1 → ∀ j, i ≤ j → j < i + k → sGo (j % 5) (t j) = true
  | 0, i, _, _, j, h1, h2 => by omega
  | k + 1, i, h, he, j, h1, h2 => by
    unfold sScan at he
    split at he
    · rename_i hg
      by_cases e : j = i
      · subst e; exact hg
      · exact sScan_ok k (i + 1) (by omega) he j (by omega) (by omega)
    · omega
theorem sFp_r {n : Int} {t : Int → Int} (hn : 0 ≤ n) : -1 ≤ sFp n t ∧ sFp n t ≤ n := by
  unfold sFp
  rcases sScan_r (t := t) n.toNat 0 (by omega) with h | h
  · rw [if_neg (by omega)]; split <;> omega
  · rw [if_pos (by omega)]; omega
theorem sP_r {n : Int} {t : Int → Int} (hn : 0 ≤ n ∧ n ≤ 39) : 0 ≤ sP n t ∧ sP n t ≤ 8 := by
  unfold sP; split <;> omega
theorem sFp_ok {n : Int} {t : Int → Int} (hn : 0 ≤ n) (h : sFp n t = -1) : (n = 0 ∨ n % 5 = 4) ∧ ∀ j, 0 ≤ j → j < n → sGo (j % 5) (t j) = true := by
  have h0 : sScan t n.toNat 0 = -1 := by
    rcases sScan_r (t := t) n.toNat 0 (by omega) with h1 | h1
    · exact h1
    · unfold sFp at h; rw [if_pos (by omega)] at h; omega
  refine ⟨?_, fun j h1 h2 => sScan_ok n.toNat 0 (by omega) h0 j h1 (by omega)⟩
  unfold sFp at h
  rw [if_neg (by omega)] at h
  split at h
  · assumption
  · omega
/-- of those that there are: bounds -/
theorem sMan {n : Int} {t : Int → Int} (hn : 0 ≤ n ∧ n ≤ 39) {p : Int} (hp : 0 ≤ p) (hp2 : p < sP n t) : (0 ≤ sK t p ∧ sK t p ≤ 2) ∧ (0 ≤ sCan t p ∧ sCan t p ≤ 99) ∧ (1 ≤ sLo t p ∧ sLo t p ≤ 9) ∧ (1 ≤ sSt t p ∧ sSt t p ≤ 10) := by
  have hf : sFp n t = -1 := by
    unfold sP at hp2
    split at hp2
    · assumption
    · omega
  have hP : sP n t = (n + 1) / 5 := by unfold sP; rw [if_pos hf]
  obtain ⟨h1, h2⟩ := sFp_ok hn.1 hf
  have g1 := h2 (5 * p + 1) (by omega) (by omega)
  have g2 := h2 (5 * p + 2) (by omega) (by omega)
  have g3 := h2 (5 * p + 3) (by omega) (by omega)
  rw [show (5 * p + 1) % 5 = 1 by omega] at g1
  rw [show (5 * p + 2) % 5 = 2 by omega] at g2
  rw [show (5 * p + 3) % 5 = 3 by omega] at g3
  have g1 : 48 ≤ t (5 * p + 1) ∧ t (5 * p + 1) ≤ 57 := by simpa [sGo] using g1
  have g2 : 48 ≤ t (5 * p + 2) ∧ t (5 * p + 2) ≤ 57 := by simpa [sGo] using g2
  have g3 : 49 ≤ t (5 * p + 3) ∧ t (5 * p + 3) ≤ 57 := by simpa [sGo] using g3
  have k : 0 ≤ sK t p ∧ sK t p ≤ 2 := by unfold sK; (repeat' split) <;> omega
  refine ⟨k, by unfold sCan; omega, by unfold sLo; omega, ?_⟩
  unfold sSt sLo
  split <;> omega
section
variable {mem : zMem} {Q : Option zVal → zMem → Prop}
theorem ct_Pe_kindOf {b : Int} (hb : 0 ≤ b ∧ b ≤ 255) : zCip m_Pe_kindOf [vi b] mem (if b = 112 then 1 else if b = 99 then 2 else 0) := by
  refine zCt.of [some (vi b)] ok_Pe_kindOf (Nat.le_of_ble_eq_true rfl) rfl ?_
  refine zw_iload_n ok_Pe_kindOf rfl rfl ?_
  refine zw_bipush ok_Pe_kindOf rfl (by decide) ?_
  refine zw_icmp_ne 8 ok_Pe_kindOf rfl (by decide) (by omega) (fun h3 => ?_) (fun h3 => ?_)
  · rw [if_neg h3]
    refine zw_iload_n ok_Pe_kindOf rfl rfl ?_
    refine zw_bipush ok_Pe_kindOf rfl (by decide) ?_
    refine zw_icmp_ne 18 ok_Pe_kindOf rfl (by decide) (by omega) (fun h11 => ?_) (fun h11 => ?_)
    · rw [if_neg h11]
      refine zw_iconst ok_Pe_kindOf rfl ?_
      exact zw_iret ok_Pe_kindOf rfl rfl (⟨rfl, rfl⟩)
    · rw [if_pos h11]
      refine zw_iconst ok_Pe_kindOf rfl ?_
      refine zw_goto 19 ok_Pe_kindOf rfl (by decide) ?_
      exact zw_iret ok_Pe_kindOf rfl rfl (⟨rfl, rfl⟩)
  · rw [if_pos h3]
    refine zw_iconst ok_Pe_kindOf rfl ?_
    exact zw_iret ok_Pe_kindOf rfl rfl (⟨rfl, rfl⟩)
theorem ct_Pe_goesOn {k b : Int} (hk : 0 ≤ k ∧ k ≤ 4) (hb : 0 ≤ b ∧ b ≤ 255) : zCbp m_Pe_goesOn [vi k, vi b] mem (sGo k b) := by
  refine zCt.of [some (vi k), some (vi b)] ok_Pe_goesOn (Nat.le_of_ble_eq_true rfl) rfl ?_
  refine zw_iload_n ok_Pe_goesOn rfl rfl ?_
  have : k = 0 ∨ k = 3 ∨ k = 4 ∨ k = 1 ∨ k = 2 := by omega
  rcases this with rfl | rfl | rfl | rfl | rfl
  · refine zw_tin 36 ok_Pe_goesOn rfl (by omega) (by omega) rfl (by decide) ?_
    show AW _ _ _ _ _ (fun r m2 => r = some (vi (bi (decide (b = 111 ∨ b = 112 ∨ b = 99)))) ∧ m2 = mem)
    refine zw_iload_n ok_Pe_goesOn rfl rfl ?_
    refine zw_bipush ok_Pe_goesOn rfl (by decide) ?_
    refine zw_icmp_eq 54 ok_Pe_goesOn rfl (by decide) (by omega) (fun h39 => ?_) (fun h39 => ?_)
    · refine zw_iconst ok_Pe_goesOn rfl ?_
      refine zw_goto 59 ok_Pe_goesOn rfl (by decide) ?_
      exact zw_zret ok_Pe_goesOn rfl rfl (by first | exact Or.inl rfl | exact Or.inr rfl | exact bi01 _) (⟨by first | rw [bi_t (by omega)] | rw [bi_f (by omega)], rfl⟩)
    · refine zw_iload_n ok_Pe_goesOn rfl rfl ?_
      refine zw_bipush ok_Pe_goesOn rfl (by decide) ?_
      refine zw_icmp_eq 54 ok_Pe_goesOn rfl (by decide) (by omega) (fun h45 => ?_) (fun h45 => ?_)
      · refine zw_iconst ok_Pe_goesOn rfl ?_
        refine zw_goto 59 ok_Pe_goesOn rfl (by decide) ?_
        exact zw_zret ok_Pe_goesOn rfl rfl (by first | exact Or.inl rfl | exact Or.inr rfl | exact bi01 _) (⟨by first | rw [bi_t (by omega)] | rw [bi_f (by omega)], rfl⟩)
      · refine zw_iload_n ok_Pe_goesOn rfl rfl ?_
        refine zw_bipush ok_Pe_goesOn rfl (by decide) ?_
        refine zw_icmp_ne 58 ok_Pe_goesOn rfl (by decide) (by omega) (fun h51 => ?_) (fun h51 => ?_)
        · refine zw_iconst ok_Pe_goesOn rfl ?_
          exact zw_zret ok_Pe_goesOn rfl rfl (by first | exact Or.inl rfl | exact Or.inr rfl | exact bi01 _) (⟨by first | rw [bi_t (by omega)] | rw [bi_f (by omega)], rfl⟩)
        · refine zw_iconst ok_Pe_goesOn rfl ?_
          refine zw_goto 59 ok_Pe_goesOn rfl (by decide) ?_
          exact zw_zret ok_Pe_goesOn rfl rfl (by first | exact Or.inl rfl | exact Or.inr rfl | exact bi01 _) (⟨by first | rw [bi_t (by omega)] | rw [bi_f (by omega)], rfl⟩)
  · refine zw_tin 60 ok_Pe_goesOn rfl (by omega) (by omega) rfl (by decide) ?_
    show AW _ _ _ _ _ (fun r m2 => r = some (vi (bi (decide (49 ≤ b ∧ b ≤ 57)))) ∧ m2 = mem)
    refine zw_iload_n ok_Pe_goesOn rfl rfl ?_
    refine zw_bipush ok_Pe_goesOn rfl (by decide) ?_
    refine zw_bipush ok_Pe_goesOn rfl (by decide) ?_
    refine zw_Nbp ok_Pe_goesOn rfl ok_B_within lk_Pe_52 (by decide) rfl (Nat.le_of_ble_eq_true rfl) (ct_B_within (by omega)) ?_
    exact zw_zret ok_Pe_goesOn rfl rfl (by first | exact Or.inl rfl | exact Or.inr rfl | exact bi01 _) (⟨rfl, rfl⟩)
  · refine zw_tin 69 ok_Pe_goesOn rfl (by omega) (by omega) rfl (by decide) ?_
    show AW _ _ _ _ _ (fun r m2 => r = some (vi (bi (decide (b = 59)))) ∧ m2 = mem)
    refine zw_iload_n ok_Pe_goesOn rfl rfl ?_
    refine zw_bipush ok_Pe_goesOn rfl (by decide) ?_
    refine zw_icmp_ne 79 ok_Pe_goesOn rfl (by decide) (by omega) (fun h72 => ?_) (fun h72 => ?_)
    · refine zw_iconst ok_Pe_goesOn rfl ?_
      exact zw_zret ok_Pe_goesOn rfl rfl (by first | exact Or.inl rfl | exact Or.inr rfl | exact bi01 _) (⟨by first | rw [bi_t (by omega)] | rw [bi_f (by omega)], rfl⟩)
    · refine zw_iconst ok_Pe_goesOn rfl ?_
      refine zw_goto 80 ok_Pe_goesOn rfl (by decide) ?_
      exact zw_zret ok_Pe_goesOn rfl rfl (by first | exact Or.inl rfl | exact Or.inr rfl | exact bi01 _) (⟨by first | rw [bi_t (by omega)] | rw [bi_f (by omega)], rfl⟩)
  · refine zw_tin 81 ok_Pe_goesOn rfl (by omega) (by omega) rfl (by decide) ?_
    show AW _ _ _ _ _ (fun r m2 => r = some (vi (bi (decide (48 ≤ b ∧ b ≤ 57)))) ∧ m2 = mem)
    refine zw_iload_n ok_Pe_goesOn rfl rfl ?_
    refine zw_bipush ok_Pe_goesOn rfl (by decide) ?_
    refine zw_bipush ok_Pe_goesOn rfl (by decide) ?_
    refine zw_Nbp ok_Pe_goesOn rfl ok_B_within lk_Pe_52 (by decide) rfl (Nat.le_of_ble_eq_true rfl) (ct_B_within (by omega)) ?_
    exact zw_zret ok_Pe_goesOn rfl rfl (by first | exact Or.inl rfl | exact Or.inr rfl | exact bi01 _) (⟨rfl, rfl⟩)
  · refine zw_tin 81 ok_Pe_goesOn rfl (by omega) (by omega) rfl (by decide) ?_
    show AW _ _ _ _ _ (fun r m2 => r = some (vi (bi (decide (48 ≤ b ∧ b ≤ 57)))) ∧ m2 = mem)
    refine zw_iload_n ok_Pe_goesOn rfl rfl ?_
    refine zw_bipush ok_Pe_goesOn rfl (by decide) ?_
    refine zw_bipush ok_Pe_goesOn rfl (by decide) ?_
    refine zw_Nbp ok_Pe_goesOn rfl ok_B_within lk_Pe_52 (by decide) rfl (Nat.le_of_ble_eq_true rfl) (ct_B_within (by omega)) ?_
    exact zw_zret ok_Pe_goesOn rfl rfl (by first | exact Or.inl rfl | exact Or.inr rfl | exact bi01 _) (⟨rfl, rfl⟩)
/-- the text 0 in the class's cells -/
def tx0 (mem : zMem) (n : Int) (t : Int → Int) : Prop := mem 1 1 = n ∧ (0 ≤ n ∧ n ≤ 39) ∧ ∀ i, 0 ≤ i → i < n → mem 2 i = t i ∧ (0 ≤ t i ∧ t i ≤ 255)
theorem flt_loop {n : Int} {t : Int → Int} (h : tx0 mem n t) :
    ∀ (k : Nat) (i : Int), 0 ≤ i → i + k = n → (sScan t k i ≠ -1 → Q (some (vi (sScan t k i))) mem) → (sScan t k i = -1 → Q (some (vi (if n = 0 ∨ n % 5 = 4 then -1 else n))) mem) → AW m_Pe_faultOf 2 [some (vr 1), some (vi i)] [] mem Q := by
  obtain ⟨e, hn, ht⟩ := h
  intro k
  induction k with
  | zero =>
    intro i h0 hi hx hy
    have hy := hy rfl
    refine zw_iload_n ok_Pe_faultOf rfl rfl ?_
    refine zw_aload_n ok_Pe_faultOf rfl rfl ?_
    refine zw_geti ok_Pe_faultOf rfl fl_Pe_38 rfl rfl ?_
    refine zw_icmp_ge 39 ok_Pe_faultOf rfl (by decide) (by omega) (fun h7 => ?_) (fun h7 => ?_)
    · refine zw_aload_n ok_Pe_faultOf rfl rfl ?_
      refine zw_geti ok_Pe_faultOf rfl fl_Pe_38 rfl rfl ?_
      refine zw_if_eq 56 ok_Pe_faultOf rfl (by decide) (by omega) (fun h43 => ?_) (fun h43 => ?_)
      · refine zw_iconst ok_Pe_faultOf rfl ?_
        refine zw_goto 61 ok_Pe_faultOf rfl (by decide) ?_
        refine zw_istore_n ok_Pe_faultOf rfl rfl (by decide) ?_
        refine zw_iload_n ok_Pe_faultOf rfl rfl ?_
        refine zw_if_eq 70 ok_Pe_faultOf rfl (by decide) (by omega) (fun h63 => ?_) (fun h63 => ?_)
        · try (exfalso; omega)
          all_goals
            refine zw_aload_n ok_Pe_faultOf rfl rfl ?_
            refine zw_geti ok_Pe_faultOf rfl fl_Pe_38 rfl rfl ?_
            exact zw_iret ok_Pe_faultOf rfl rfl ((by first | (rw [if_pos (by omega)] at hy; exact hy) | (rw [if_neg (by omega)] at hy; rw [e]; exact hy)))
        · try (exfalso; omega)
          all_goals
            refine zw_iconst ok_Pe_faultOf rfl ?_
            refine zw_goto 74 ok_Pe_faultOf rfl (by decide) ?_
            exact zw_iret ok_Pe_faultOf rfl rfl ((by first | (rw [if_pos (by omega)] at hy; exact hy) | (rw [if_neg (by omega)] at hy; rw [e]; exact hy)))
      · refine zw_aload_n ok_Pe_faultOf rfl rfl ?_
        refine zw_geti ok_Pe_faultOf rfl fl_Pe_38 rfl rfl ?_
        refine zw_iconst ok_Pe_faultOf rfl ?_
        refine zw_irem ok_Pe_faultOf rfl (by omega) ?_
        rw [zrem_nn (by omega) (by omega), e]
        refine zw_iconst ok_Pe_faultOf rfl ?_
        refine zw_icmp_ne 60 ok_Pe_faultOf rfl (by decide) (by omega) (fun h53 => ?_) (fun h53 => ?_)
        · refine zw_iconst ok_Pe_faultOf rfl ?_
          refine zw_istore_n ok_Pe_faultOf rfl rfl (by decide) ?_
          refine zw_iload_n ok_Pe_faultOf rfl rfl ?_
          refine zw_if_eq 70 ok_Pe_faultOf rfl (by decide) (by omega) (fun h63 => ?_) (fun h63 => ?_)
          · try (exfalso; omega)
            all_goals
              refine zw_aload_n ok_Pe_faultOf rfl rfl ?_
              refine zw_geti ok_Pe_faultOf rfl fl_Pe_38 rfl rfl ?_
              exact zw_iret ok_Pe_faultOf rfl rfl ((by first | (rw [if_pos (by omega)] at hy; exact hy) | (rw [if_neg (by omega)] at hy; rw [e]; exact hy)))
          · try (exfalso; omega)
            all_goals
              refine zw_iconst ok_Pe_faultOf rfl ?_
              refine zw_goto 74 ok_Pe_faultOf rfl (by decide) ?_
              exact zw_iret ok_Pe_faultOf rfl rfl ((by first | (rw [if_pos (by omega)] at hy; exact hy) | (rw [if_neg (by omega)] at hy; rw [e]; exact hy)))
        · refine zw_iconst ok_Pe_faultOf rfl ?_
          refine zw_goto 61 ok_Pe_faultOf rfl (by decide) ?_
          refine zw_istore_n ok_Pe_faultOf rfl rfl (by decide) ?_
          refine zw_iload_n ok_Pe_faultOf rfl rfl ?_
          refine zw_if_eq 70 ok_Pe_faultOf rfl (by decide) (by omega) (fun h63 => ?_) (fun h63 => ?_)
          · try (exfalso; omega)
            all_goals
              refine zw_aload_n ok_Pe_faultOf rfl rfl ?_
              refine zw_geti ok_Pe_faultOf rfl fl_Pe_38 rfl rfl ?_
              exact zw_iret ok_Pe_faultOf rfl rfl ((by first | (rw [if_pos (by omega)] at hy; exact hy) | (rw [if_neg (by omega)] at hy; rw [e]; exact hy)))
          · try (exfalso; omega)
            all_goals
              refine zw_iconst ok_Pe_faultOf rfl ?_
              refine zw_goto 74 ok_Pe_faultOf rfl (by decide) ?_
              exact zw_iret ok_Pe_faultOf rfl rfl ((by first | (rw [if_pos (by omega)] at hy; exact hy) | (rw [if_neg (by omega)] at hy; rw [e]; exact hy)))
    · exfalso; omega
  | succ k ih =>
    intro i h0 hi hx hy
    have q := ht i h0 (by omega)
    unfold sScan at hx hy
    refine zw_iload_n ok_Pe_faultOf rfl rfl ?_
    refine zw_aload_n ok_Pe_faultOf rfl rfl ?_
    refine zw_geti ok_Pe_faultOf rfl fl_Pe_38 rfl rfl ?_
    refine zw_icmp_ge 39 ok_Pe_faultOf rfl (by decide) (by omega) (fun h7 => ?_) (fun h7 => ?_)
    · exfalso; omega
    · refine zw_iload_n ok_Pe_faultOf rfl rfl ?_
      refine zw_bipush ok_Pe_faultOf rfl (by decide) ?_
      refine zw_icmp_ge 31 ok_Pe_faultOf rfl (by decide) (by omega) (fun h13 => ?_) (fun h13 => ?_)
      · exfalso; omega
      · refine zw_iload_n ok_Pe_faultOf rfl rfl ?_
        refine zw_iconst ok_Pe_faultOf rfl ?_
        refine zw_irem ok_Pe_faultOf rfl (by omega) ?_
        rw [zrem_nn (by omega) (by omega)]
        refine zw_aload_n ok_Pe_faultOf rfl rfl ?_
        refine zw_getr ok_Pe_faultOf rfl fl_Pe_41 rfl rfl ?_
        refine zw_iload_n ok_Pe_faultOf rfl rfl ?_
        refine zw_iald ok_Pe_faultOf rfl rfl (by omega) ?_
        rw [q.1]
        refine zw_Sbp ok_Pe_faultOf rfl ok_Pe_goesOn lk_Pe_48 (by decide) rfl (Nat.le_of_ble_eq_true rfl) (ct_Pe_goesOn (by omega) (by omega)) ?_
        refine zw_ifne_b 33 ok_Pe_faultOf rfl (by decide) (fun h28 => ?_) (fun h28 => ?_)
        · rw [if_pos h28] at hx hy
          refine zw_iinc ok_Pe_faultOf rfl rfl rfl (by decide) ?_
          refine zw_goto 2 ok_Pe_faultOf rfl (by decide) ?_
          exact ih (i + 1) (by omega) (by omega) hx hy
        · rw [if_neg (by simp [h28])] at hx hy
          refine zw_iload_n ok_Pe_faultOf rfl rfl ?_
          exact zw_iret ok_Pe_faultOf rfl rfl (hx (by omega))
theorem ct_Pe_faultOf {n : Int} {t : Int → Int} (h : tx0 mem n t) : zCip m_Pe_faultOf [vr 1] mem (sFp n t) := by
  have hn := h.2.1
  refine zCt.of [some (vr 1), none] ok_Pe_faultOf (Nat.le_of_ble_eq_true rfl) rfl ?_
  refine zw_iconst ok_Pe_faultOf rfl ?_
  refine zw_istore_n ok_Pe_faultOf rfl rfl (by decide) ?_
  exact flt_loop h n.toNat 0 (by omega) (by omega) (fun q => ⟨by unfold sFp; rw [if_pos q], rfl⟩) (fun q => ⟨congrArg (fun z => some (vi z)) (by unfold sFp; rw [q]; simp), rfl⟩)
end
end
section
/-! ===== People.take, Walks.take, Text.append, Ledger.enter ===== -/
/-- the first p of the people in the class's cells -/
def manC (m : zMem) (t : Int → Int) (p : Int) : Prop := ∀ q, 0 ≤ q → q < p → (m 6 q = sK t q ∧ m 7 q = sCan t q) ∧ m 8 q = sLo t q ∧ m 9 q = sSt t q
/-- the people's cells as their text tells them -/
def pplC (m : zMem) (n : Int) (t : Int → Int) : Prop := (m 5 4 = sP n t ∧ m 5 5 = lp (clF t) (sP n t).toNat 0 0 ∧ m 5 6 = sFp n t) ∧ manC m t (sP n t)
/-- the state of the walk's reading: walk, hour, streets, fault -/
abbrev zWk : Type := Int × Int × (Int → Int) × Int
def wkF (t : Int → Int) (i : Int) (x : zWk) : zWk :=
  if x.2.2.2 ≠ -1 then x else if t i = 59 ∧ x.1 < 7 then (x.1 + 1, 0, x.2.2.1, -1) else if (97 ≤ t i ∧ t i ≤ 104) ∧ x.2.1 < 12 then (x.1, x.2.1 + 1, zupd x.2.2.1 (x.2.1 * 8 + x.1) (t i - 97), -1) else (x.1, x.2.1, x.2.2.1, i)
def wk0 : zWk := (0, 0, fun _ => -1, -1)
def sWk (n : Int) (t : Int → Int) : zWk := lp (wkF t) n.toNat 0 wk0
def sFw (n : Int) (t : Int → Int) : Int := (sWk n t).2.2.2
def sWn (n : Int) (t : Int → Int) : Int := if n = 0 ∨ sFw n t ≠ -1 then 0 else (sWk n t).1 + 1
def sStr (n : Int) (t : Int → Int) (h p : Int) : Int := if sFw n t ≠ -1 then -1 else (sWk n t).2.2.1 (h * 8 + p)
def wkI (i : Int) (x : zWk) : Prop := (0 ≤ x.1 ∧ x.1 ≤ 7) ∧ (0 ≤ x.2.1 ∧ x.2.1 ≤ 12) ∧ (∀ j, -1 ≤ x.2.2.1 j ∧ x.2.2.1 j ≤ 7) ∧ (-1 ≤ x.2.2.2 ∧ x.2.2.2 < i)
theorem wkF_inv {t : Int → Int} {i : Int} {x : zWk} (hi : 0 ≤ i) (h : wkI i x) : wkI (i + 1) (wkF t i x) := by
  obtain ⟨w, hr, st, f⟩ := x
  obtain ⟨h1, h2, h3, h4⟩ := h
  dsimp only at h1 h2 h3 h4
  unfold wkF
  dsimp only
  split
  · exact ⟨h1, h2, h3, by dsimp only; omega⟩
  · split
    · exact ⟨by dsimp only; omega, by dsimp only; omega, h3, by dsimp only; omega⟩
    · split
      · refine ⟨h1, by dsimp only; omega, fun j => ?_, by dsimp only; omega⟩
        dsimp only
        by_cases e : j = hr * 8 + w
        · subst e; rw [zupd_eq]; omega
        · rw [zupd_ne e]; exact h3 j
      · exact ⟨h1, h2, h3, by dsimp only; omega⟩
theorem wkF_stop {t : Int → Int} {x : zWk} (h : x.2.2.2 ≠ -1) : ∀ (k : Nat) (i : Int), lp (wkF t) k i x = x
  | 0, _ => rfl
  | k + 1, i => by
    rw [lp_s, show wkF t i x = x by unfold wkF; rw [if_pos h]]
    exact wkF_stop h k (i + 1)
theorem lp_wkI {t : Int → Int} : ∀ (k : Nat) (i : Int) (x : zWk), 0 ≤ i → wkI i x → wkI (i + k) (lp (wkF t) k i x)
  | 0, i, x, _, h => by
    show wkI (i + 0) x
    rw [Int.add_zero]
    exact h
  | k + 1, i, x, hi, h => by
    rw [lp_s]
    have := lp_wkI (t := t) k (i + 1) (wkF t i x) (by omega) (wkF_inv hi h)
    rw [show i + ((k + 1 : Nat) : Int) = i + 1 + (k : Int) by omega]
    exact this
theorem wk0_I : wkI 0 wk0 := ⟨by decide, by decide, fun _ => ⟨Int.le_refl _, (show (-1 : Int) ≤ 7 by decide)⟩, by decide⟩
theorem sWk_I {n : Int} {t : Int → Int} (hn : 0 ≤ n) : wkI n (sWk n t) := by
  have := lp_wkI (t := t) n.toNat 0 wk0 (by omega) wk0_I
  rwa [show (0 : Int) + (n.toNat : Int) = n by omega] at this
theorem sFw_r {n : Int} {t : Int → Int} (hn : 0 ≤ n) : -1 ≤ sFw n t ∧ sFw n t < n ∨ (n = 0 ∧ sFw n t = -1) := by
  have := (sWk_I (t := t) hn).2.2.2
  unfold sFw
  omega
theorem sStr_r {n : Int} {t : Int → Int} (hn : 0 ≤ n) (h p : Int) : -1 ≤ sStr n t h p ∧ sStr n t h p ≤ 7 := by
  unfold sStr
  split
  · omega
  · exact (sWk_I hn).2.2.1 _
theorem sWn_r {n : Int} {t : Int → Int} (hn : 0 ≤ n) : 0 ≤ sWn n t ∧ sWn n t ≤ 8 := by
  have := (sWk_I (t := t) hn).1
  unfold sWn
  split <;> omega
/-- the walks' cells as their text tells them -/
def wlkC (m : zMem) (n : Int) (t : Int → Int) : Prop := (m 10 1 = sWn n t ∧ m 10 2 = sFw n t) ∧ ∀ h p, 0 ≤ h → h < 12 → 0 ≤ p → p < 8 → m 11 (h * 8 + p) = sStr n t h p
def tx1 (mem : zMem) (n : Int) (t : Int → Int) : Prop := mem 3 1 = n ∧ (0 ≤ n ∧ n ≤ 71) ∧ ∀ i, 0 ≤ i → i < n → mem 4 i = t i ∧ (0 ≤ t i ∧ t i ≤ 255)
section
variable {mem : zMem} {Q : Option zVal → zMem → Prop}
theorem take_loop {n : Int} {t : Int → Int} (h : tx0 mem n t) (hP : sFp n t = -1) :
    ∀ (k : Nat) (p : Int) (m : zMem), 0 ≤ p → p + k = sP n t → (m 5 4 = p ∧ m 5 5 = lp (clF t) p.toNat 0 0 ∧ m 5 6 = sFp n t) → manC m t p → zfr [5, 6, 7, 8, 9] mem m → (∀ m2, pplC m2 n t → zfr [5, 6, 7, 8, 9] mem m2 → Q none m2) → AW m_Pe_take 37 [some (vr 5), some (vr 1), some (vi n), some (vi (5 * p))] [] m Q := by
  obtain ⟨e, hn, ht⟩ := h
  have hPe : sP n t = (n + 1) / 5 := by unfold sP; rw [if_pos hP]
  obtain ⟨hn5, -⟩ := sFp_ok hn.1 hP
  intro k
  induction k with
  | zero =>
    intro p m h0 hk hm hman hf hx
    refine zw_iload_n ok_Pe_take rfl rfl ?_
    refine zw_iconst ok_Pe_take rfl ?_
    refine zw_iadd ok_Pe_take rfl ?_
    refine zw_iload_n ok_Pe_take rfl rfl ?_
    refine zw_icmp_ge 215 ok_Pe_take rfl (by decide) (by omega) (fun h41 => ?_) (fun h41 => ?_)
    · exact zw_vret ok_Pe_take rfl rfl (hx m ⟨⟨by omega, by rw [hm.2.1, show p = sP n t by omega], hm.2.2⟩, by rw [← show p = sP n t by omega]; exact hman⟩ hf)
    · exfalso; omega
  | succ k ih =>
    intro p m h0 hk hm hman hf hx
    have m2 : m 2 = mem 2 := hf 2 (by decide)
    have t0 := ht (5 * p) (by omega) (by omega)
    have t1 := ht (5 * p + 1) (by omega) (by omega)
    have t2 := ht (5 * p + 2) (by omega) (by omega)
    have t3 := ht (5 * p + 3) (by omega) (by omega)
    have hM := sMan (n := n) (t := t) hn h0 (by omega)
    have ek : (if t (5 * p) = 112 then (1 : Int) else if t (5 * p) = 99 then 2 else 0) = sK t p := rfl
    have fin : ∀ m3 : zMem, (m3 5 4 = p ∧ m3 5 6 = sFp n t) → m3 5 5 = clF t p (m 5 5) → (m3 6 = zupd (m 6) p (sK t p) ∧ m3 7 = zupd (m 7) p (sCan t p) ∧ m3 8 = zupd (m 8) p (sLo t p) ∧ m3 9 = zupd (m 9) p (sSt t p)) → zfr [5, 6, 7, 8, 9] mem m3 → AW m_Pe_take 199 [some (vr 5), some (vr 1), some (vi n), some (vi (5 * p))] [] m3 Q := by
      intro m3 h54 h55 ha hf3
      refine zw_aload_n ok_Pe_take rfl rfl ?_
      first | refine zw_dupi ok_Pe_take rfl ?_ | refine zw_dupr ok_Pe_take rfl ?_
      refine zw_geti ok_Pe_take rfl fl_Pe_32 rfl rfl ?_
      rw [h54.1]
      refine zw_iconst ok_Pe_take rfl ?_
      refine zw_iadd ok_Pe_take rfl ?_
      refine zw_puti ok_Pe_take rfl fp_Pe_32 rfl rfl ?_
      refine zw_iinc ok_Pe_take rfl rfl rfl (by decide) ?_
      refine zw_goto 37 ok_Pe_take rfl (by decide) ?_
      rw [show 5 * p + 5 = 5 * (p + 1) by omega]
      refine ih (p + 1) _ (by omega) (by omega) ⟨?_, ?_, ?_⟩ ?_ (hf3.set (by decide)) hx
      · rw [zset_eq, zupd_eq]
      · rw [zset_eq, zupd_ne (by decide), h55, hm.2.1, show (p + 1).toNat = p.toNat + 1 by omega, lp_snoc, show (0 : Int) + (p.toNat : Int) = p by omega]
      · rw [zset_eq, zupd_ne (by decide)]; exact h54.2
      · intro q q1 q2
        rw [zset_ne (by decide), zset_ne (by decide), zset_ne (by decide), zset_ne (by decide), ha.1, ha.2.1, ha.2.2.1, ha.2.2.2]
        by_cases eq : q = p
        · subst eq
          rw [zupd_eq, zupd_eq, zupd_eq, zupd_eq]
          exact ⟨⟨rfl, rfl⟩, rfl, rfl⟩
        · rw [zupd_ne eq, zupd_ne eq, zupd_ne eq, zupd_ne eq]
          exact hman q q1 (by omega)
    have mid : ∀ m3 : zMem, (m3 5 4 = p ∧ m3 5 6 = sFp n t) → m3 5 5 = m 5 5 → (m3 6 = zupd (m 6) p (sK t p) ∧ m3 7 = zupd (m 7) p (sCan t p) ∧ m3 8 = zupd (m 8) p (sLo t p) ∧ m3 9 = zupd (m 9) p (sSt t p)) → zfr [5, 6, 7, 8, 9] mem m3 → AW m_Pe_take 171 [some (vr 5), some (vr 1), some (vi n), some (vi (5 * p))] [] m3 Q := by
      intro m3 h54 h55 ha hf3
      refine zw_aload_n ok_Pe_take rfl rfl ?_
      refine zw_getr ok_Pe_take rfl fl_Pe_9 rfl rfl ?_
      refine zw_aload_n ok_Pe_take rfl rfl ?_
      refine zw_geti ok_Pe_take rfl fl_Pe_32 rfl rfl ?_
      rw [h54.1]
      refine zw_iald ok_Pe_take rfl rfl (by omega) ?_
      rw [ha.1, zupd_eq]
      refine zw_iconst ok_Pe_take rfl ?_
      refine zw_icmp_ne 199 ok_Pe_take rfl (by decide) (by omega) (fun h181 => ?_) (fun h181 => ?_)
      · exact fin m3 h54 (by rw [h55]; unfold clF; rw [if_neg h181]) ha hf3
      · refine zw_aload_n ok_Pe_take rfl rfl ?_
        first | refine zw_dupi ok_Pe_take rfl ?_ | refine zw_dupr ok_Pe_take rfl ?_
        refine zw_geti ok_Pe_take rfl fl_Pe_35 rfl rfl ?_
        refine zw_iconst ok_Pe_take rfl ?_
        refine zw_aload_n ok_Pe_take rfl rfl ?_
        refine zw_geti ok_Pe_take rfl fl_Pe_32 rfl rfl ?_
        rw [h54.1]
        refine zw_ishl ok_Pe_take rfl ?_
        refine zw_ior ok_Pe_take rfl ?_
        refine zw_puti ok_Pe_take rfl fp_Pe_35 rfl rfl ?_
        refine fin _ ⟨?_, ?_⟩ ?_ ⟨?_, ?_, ?_, ?_⟩ (hf3.set (by decide))
        · rw [zset_eq, zupd_ne (by decide)]; exact h54.1
        · rw [zset_eq, zupd_ne (by decide)]; exact h54.2
        · rw [zset_eq, zupd_eq, h55]; unfold clF; rw [if_pos h181]
        · rw [zset_ne (by decide)]; exact ha.1
        · rw [zset_ne (by decide)]; exact ha.2.1
        · rw [zset_ne (by decide)]; exact ha.2.2.1
        · rw [zset_ne (by decide)]; exact ha.2.2.2
    refine zw_iload_n ok_Pe_take rfl rfl ?_
    refine zw_iconst ok_Pe_take rfl ?_
    refine zw_iadd ok_Pe_take rfl ?_
    refine zw_iload_n ok_Pe_take rfl rfl ?_
    refine zw_icmp_ge 215 ok_Pe_take rfl (by decide) (by omega) (fun h41 => ?_) (fun h41 => ?_)
    · exfalso; omega
    · refine zw_aload_n ok_Pe_take rfl rfl ?_
      refine zw_geti ok_Pe_take rfl fl_Pe_32 rfl rfl ?_
      try simp (decide := true) only [zset_ne, zset_eq, zupd_eq, ne_eq, not_false_eq_true, hm.1, m2, t0.1, t1.1, t2.1, t3.1]
      refine zw_bipush ok_Pe_take rfl (by decide) ?_
      refine zw_icmp_ge 215 ok_Pe_take rfl (by decide) (by omega) (fun h50 => ?_) (fun h50 => ?_)
      · exfalso; omega
      · refine zw_aload_n ok_Pe_take rfl rfl ?_
        refine zw_getr ok_Pe_take rfl fl_Pe_9 rfl rfl ?_
        refine zw_aload_n ok_Pe_take rfl rfl ?_
        refine zw_geti ok_Pe_take rfl fl_Pe_32 rfl rfl ?_
        try simp (decide := true) only [zset_ne, zset_eq, zupd_eq, ne_eq, not_false_eq_true, hm.1, m2, t0.1, t1.1, t2.1, t3.1]
        refine zw_aload_n ok_Pe_take rfl rfl ?_
        refine zw_getr ok_Pe_take rfl fl_Pe_41 rfl rfl ?_
        refine zw_iload_n ok_Pe_take rfl rfl ?_
        refine zw_iald ok_Pe_take rfl rfl (by omega) ?_
        try simp (decide := true) only [zset_ne, zset_eq, zupd_eq, ne_eq, not_false_eq_true, hm.1, m2, t0.1, t1.1, t2.1, t3.1]
        refine zw_Sip ok_Pe_take rfl ok_Pe_kindOf lk_Pe_44 (by decide) rfl (Nat.le_of_ble_eq_true rfl) (ct_Pe_kindOf t0.2) ?_
        rw [ek]
        refine zw_iast ok_Pe_take rfl rfl (by omega) ?_
        try simp (decide := true) only [zset_ne, zset_eq, zupd_eq, ne_eq, not_false_eq_true, hm.1, m2, t0.1, t1.1, t2.1, t3.1]
        refine zw_aload_n ok_Pe_take rfl rfl ?_
        refine zw_getr ok_Pe_take rfl fl_Pe_15 rfl rfl ?_
        refine zw_aload_n ok_Pe_take rfl rfl ?_
        refine zw_geti ok_Pe_take rfl fl_Pe_32 rfl rfl ?_
        try simp (decide := true) only [zset_ne, zset_eq, zupd_eq, ne_eq, not_false_eq_true, hm.1, m2, t0.1, t1.1, t2.1, t3.1]
        refine zw_bipush ok_Pe_take rfl (by decide) ?_
        refine zw_aload_n ok_Pe_take rfl rfl ?_
        refine zw_getr ok_Pe_take rfl fl_Pe_41 rfl rfl ?_
        refine zw_iload_n ok_Pe_take rfl rfl ?_
        refine zw_iconst ok_Pe_take rfl ?_
        refine zw_iadd ok_Pe_take rfl ?_
        refine zw_iald ok_Pe_take rfl rfl (by omega) ?_
        try simp (decide := true) only [zset_ne, zset_eq, zupd_eq, ne_eq, not_false_eq_true, hm.1, m2, t0.1, t1.1, t2.1, t3.1]
        refine zw_bipush ok_Pe_take rfl (by decide) ?_
        refine zw_isub ok_Pe_take rfl ?_
        refine zw_imul ok_Pe_take rfl ?_
        refine zw_aload_n ok_Pe_take rfl rfl ?_
        refine zw_getr ok_Pe_take rfl fl_Pe_41 rfl rfl ?_
        refine zw_iload_n ok_Pe_take rfl rfl ?_
        refine zw_iconst ok_Pe_take rfl ?_
        refine zw_iadd ok_Pe_take rfl ?_
        refine zw_iald ok_Pe_take rfl rfl (by omega) ?_
        try simp (decide := true) only [zset_ne, zset_eq, zupd_eq, ne_eq, not_false_eq_true, hm.1, m2, t0.1, t1.1, t2.1, t3.1]
        refine zw_iadd ok_Pe_take rfl ?_
        refine zw_bipush ok_Pe_take rfl (by decide) ?_
        refine zw_isub ok_Pe_take rfl ?_
        refine zw_iast ok_Pe_take rfl rfl (by omega) ?_
        try simp (decide := true) only [zset_ne, zset_eq, zupd_eq, ne_eq, not_false_eq_true, hm.1, m2, t0.1, t1.1, t2.1, t3.1]
        refine zw_aload_n ok_Pe_take rfl rfl ?_
        refine zw_getr ok_Pe_take rfl fl_Pe_18 rfl rfl ?_
        refine zw_aload_n ok_Pe_take rfl rfl ?_
        refine zw_geti ok_Pe_take rfl fl_Pe_32 rfl rfl ?_
        try simp (decide := true) only [zset_ne, zset_eq, zupd_eq, ne_eq, not_false_eq_true, hm.1, m2, t0.1, t1.1, t2.1, t3.1]
        refine zw_aload_n ok_Pe_take rfl rfl ?_
        refine zw_getr ok_Pe_take rfl fl_Pe_41 rfl rfl ?_
        refine zw_iload_n ok_Pe_take rfl rfl ?_
        refine zw_iconst ok_Pe_take rfl ?_
        refine zw_iadd ok_Pe_take rfl ?_
        refine zw_iald ok_Pe_take rfl rfl (by omega) ?_
        try simp (decide := true) only [zset_ne, zset_eq, zupd_eq, ne_eq, not_false_eq_true, hm.1, m2, t0.1, t1.1, t2.1, t3.1]
        refine zw_bipush ok_Pe_take rfl (by decide) ?_
        refine zw_isub ok_Pe_take rfl ?_
        refine zw_iast ok_Pe_take rfl rfl (by omega) ?_
        try simp (decide := true) only [zset_ne, zset_eq, zupd_eq, ne_eq, not_false_eq_true, hm.1, m2, t0.1, t1.1, t2.1, t3.1]
        refine zw_aload_n ok_Pe_take rfl rfl ?_
        refine zw_getr ok_Pe_take rfl fl_Pe_21 rfl rfl ?_
        refine zw_aload_n ok_Pe_take rfl rfl ?_
        refine zw_geti ok_Pe_take rfl fl_Pe_32 rfl rfl ?_
        try simp (decide := true) only [zset_ne, zset_eq, zupd_eq, ne_eq, not_false_eq_true, hm.1, m2, t0.1, t1.1, t2.1, t3.1]
        refine zw_aload_n ok_Pe_take rfl rfl ?_
        refine zw_getr ok_Pe_take rfl fl_Pe_9 rfl rfl ?_
        refine zw_aload_n ok_Pe_take rfl rfl ?_
        refine zw_geti ok_Pe_take rfl fl_Pe_32 rfl rfl ?_
        try simp (decide := true) only [zset_ne, zset_eq, zupd_eq, ne_eq, not_false_eq_true, hm.1, m2, t0.1, t1.1, t2.1, t3.1]
        refine zw_iald ok_Pe_take rfl rfl (by omega) ?_
        try simp (decide := true) only [zset_ne, zset_eq, zupd_eq, ne_eq, not_false_eq_true, hm.1, m2, t0.1, t1.1, t2.1, t3.1]
        refine zw_iconst ok_Pe_take rfl ?_
        refine zw_icmp_ne 161 ok_Pe_take rfl (by decide) (by omega) (fun h144 => ?_) (fun h144 => ?_)
        · refine zw_aload_n ok_Pe_take rfl rfl ?_
          refine zw_getr ok_Pe_take rfl fl_Pe_18 rfl rfl ?_
          refine zw_aload_n ok_Pe_take rfl rfl ?_
          refine zw_geti ok_Pe_take rfl fl_Pe_32 rfl rfl ?_
          try simp (decide := true) only [zset_ne, zset_eq, zupd_eq, ne_eq, not_false_eq_true, hm.1, m2, t0.1, t1.1, t2.1, t3.1]
          refine zw_iald ok_Pe_take rfl rfl (by omega) ?_
          try simp (decide := true) only [zset_ne, zset_eq, zupd_eq, ne_eq, not_false_eq_true, hm.1, m2, t0.1, t1.1, t2.1, t3.1]
          refine zw_iast ok_Pe_take rfl rfl (by omega) ?_
          refine mid _ ⟨?_, ?_⟩ ?_ ⟨?_, ?_, ?_, ?_⟩ ((((hf.set (by decide)).set (by decide)).set (by decide)).set (by decide))
          all_goals (simp (decide := true) only [zset_ne, zset_eq, ne_eq, not_false_eq_true] <;> first | rfl | exact hm.1 | exact hm.2.2 | (unfold sSt; rw [if_pos h144]; rfl) | (unfold sSt; rw [if_neg h144]; rfl))
        · refine zw_aload_n ok_Pe_take rfl rfl ?_
          refine zw_getr ok_Pe_take rfl fl_Pe_18 rfl rfl ?_
          refine zw_aload_n ok_Pe_take rfl rfl ?_
          refine zw_geti ok_Pe_take rfl fl_Pe_32 rfl rfl ?_
          try simp (decide := true) only [zset_ne, zset_eq, zupd_eq, ne_eq, not_false_eq_true, hm.1, m2, t0.1, t1.1, t2.1, t3.1]
          refine zw_iald ok_Pe_take rfl rfl (by omega) ?_
          try simp (decide := true) only [zset_ne, zset_eq, zupd_eq, ne_eq, not_false_eq_true, hm.1, m2, t0.1, t1.1, t2.1, t3.1]
          refine zw_iconst ok_Pe_take rfl ?_
          refine zw_iadd ok_Pe_take rfl ?_
          refine zw_goto 170 ok_Pe_take rfl (by decide) ?_
          refine zw_iast ok_Pe_take rfl rfl (by omega) ?_
          refine mid _ ⟨?_, ?_⟩ ?_ ⟨?_, ?_, ?_, ?_⟩ ((((hf.set (by decide)).set (by decide)).set (by decide)).set (by decide))
          all_goals (simp (decide := true) only [zset_ne, zset_eq, ne_eq, not_false_eq_true] <;> first | rfl | exact hm.1 | exact hm.2.2 | (unfold sSt; rw [if_pos h144]; rfl) | (unfold sSt; rw [if_neg h144]; rfl))
theorem ct_Pe_take {n : Int} {t : Int → Int} (h : tx0 mem n t) : zCv m_Pe_take [vr 5, vr 1] mem (fun m2 => pplC m2 n t ∧ zfr [5, 6, 7, 8, 9] mem m2) := by
  refine zCt.of [some (vr 5), some (vr 1), none, none] ok_Pe_take (Nat.le_of_ble_eq_true rfl) rfl ?_
  have hfr := sFp_r (t := t) h.2.1.1
  have e := h.1
  have hn := h.2.1
  have f3 : ∀ v : Int, zfr [5, 6, 7, 8, 9] mem (zset (zset (zset mem 5 6 v) 5 4 0) 5 5 0) := fun v => ((zfr.rf.set (by decide)).set (by decide)).set (by decide)
  by_cases hq : sFp n t = -1
  · refine zw_aload_n ok_Pe_take rfl rfl ?_
    refine zw_aload_n ok_Pe_take rfl rfl ?_
    refine zw_Sip ok_Pe_take rfl ok_Pe_faultOf lk_Pe_28 (by decide) rfl (Nat.le_of_ble_eq_true rfl) (ct_Pe_faultOf h) ?_
    refine zw_puti ok_Pe_take rfl fp_Pe_24 rfl rfl ?_
    try simp (decide := true) only [zset_ne, zset_eq, zupd_eq, zupd_ne, ne_eq, not_false_eq_true, e]
    refine zw_aload_n ok_Pe_take rfl rfl ?_
    refine zw_iconst ok_Pe_take rfl ?_
    refine zw_puti ok_Pe_take rfl fp_Pe_32 rfl rfl ?_
    try simp (decide := true) only [zset_ne, zset_eq, zupd_eq, zupd_ne, ne_eq, not_false_eq_true, e]
    refine zw_aload_n ok_Pe_take rfl rfl ?_
    refine zw_iconst ok_Pe_take rfl ?_
    refine zw_puti ok_Pe_take rfl fp_Pe_35 rfl rfl ?_
    try simp (decide := true) only [zset_ne, zset_eq, zupd_eq, zupd_ne, ne_eq, not_false_eq_true, e]
    refine zw_aload_n ok_Pe_take rfl rfl ?_
    refine zw_geti ok_Pe_take rfl fl_Pe_24 rfl rfl ?_
    try simp (decide := true) only [zset_ne, zset_eq, zupd_eq, zupd_ne, ne_eq, not_false_eq_true, e]
    refine zw_iconst ok_Pe_take rfl ?_
    refine zw_icmp_ne 33 ok_Pe_take rfl (by decide) (by omega) (fun h23 => ?_) (fun h23 => ?_)
    · exact absurd hq h23
    · refine zw_aload_n ok_Pe_take rfl rfl ?_
      refine zw_geti ok_Pe_take rfl fl_Pe_38 rfl rfl ?_
      try simp (decide := true) only [zset_ne, zset_eq, zupd_eq, zupd_ne, ne_eq, not_false_eq_true, e]
      refine zw_goto 34 ok_Pe_take rfl (by decide) ?_
      refine zw_istore_n ok_Pe_take rfl rfl (by decide) ?_
      refine zw_iconst ok_Pe_take rfl ?_
      refine zw_istore_n ok_Pe_take rfl rfl (by decide) ?_
      refine take_loop h hq (sP n t).toNat 0 _ (by omega) (by have := sP_r (t := t) hn; omega) ⟨rfl, rfl, rfl⟩ (fun q q1 q2 => by omega) (f3 _) (fun m2 a b => ⟨rfl, a, b⟩)
  · have hP0 : sP n t = 0 := by unfold sP; rw [if_neg hq]
    refine zw_aload_n ok_Pe_take rfl rfl ?_
    refine zw_aload_n ok_Pe_take rfl rfl ?_
    refine zw_Sip ok_Pe_take rfl ok_Pe_faultOf lk_Pe_28 (by decide) rfl (Nat.le_of_ble_eq_true rfl) (ct_Pe_faultOf h) ?_
    refine zw_puti ok_Pe_take rfl fp_Pe_24 rfl rfl ?_
    try simp (decide := true) only [zset_ne, zset_eq, zupd_eq, zupd_ne, ne_eq, not_false_eq_true, e]
    refine zw_aload_n ok_Pe_take rfl rfl ?_
    refine zw_iconst ok_Pe_take rfl ?_
    refine zw_puti ok_Pe_take rfl fp_Pe_32 rfl rfl ?_
    try simp (decide := true) only [zset_ne, zset_eq, zupd_eq, zupd_ne, ne_eq, not_false_eq_true, e]
    refine zw_aload_n ok_Pe_take rfl rfl ?_
    refine zw_iconst ok_Pe_take rfl ?_
    refine zw_puti ok_Pe_take rfl fp_Pe_35 rfl rfl ?_
    try simp (decide := true) only [zset_ne, zset_eq, zupd_eq, zupd_ne, ne_eq, not_false_eq_true, e]
    refine zw_aload_n ok_Pe_take rfl rfl ?_
    refine zw_geti ok_Pe_take rfl fl_Pe_24 rfl rfl ?_
    try simp (decide := true) only [zset_ne, zset_eq, zupd_eq, zupd_ne, ne_eq, not_false_eq_true, e]
    refine zw_iconst ok_Pe_take rfl ?_
    refine zw_icmp_ne 33 ok_Pe_take rfl (by decide) (by omega) (fun h23 => ?_) (fun h23 => ?_)
    · refine zw_iconst ok_Pe_take rfl ?_
      refine zw_istore_n ok_Pe_take rfl rfl (by decide) ?_
      refine zw_iconst ok_Pe_take rfl ?_
      refine zw_istore_n ok_Pe_take rfl rfl (by decide) ?_
      refine zw_iload_n ok_Pe_take rfl rfl ?_
      refine zw_iconst ok_Pe_take rfl ?_
      refine zw_iadd ok_Pe_take rfl ?_
      refine zw_iload_n ok_Pe_take rfl rfl ?_
      refine zw_icmp_ge 215 ok_Pe_take rfl (by decide) (by omega) (fun h41 => ?_) (fun h41 => ?_)
      · exact zw_vret ok_Pe_take rfl rfl (⟨rfl, ⟨⟨by rw [hP0]; rfl, by rw [hP0]; rfl, rfl⟩, fun q q1 q2 => by omega⟩, f3 _⟩)
      · exfalso; omega
    · exact absurd h23 hq
theorem wtake_loop {n : Int} {t : Int → Int} (h : tx1 mem n t) :
    ∀ (k : Nat) (i : Int) (x : zWk) (m : zMem), 0 ≤ i → i + k = n → wkI i x → (m 10 2 = x.2.2.2 ∧ ∀ j, 0 ≤ j → j < 96 → m 11 j = x.2.2.1 j) → zfr [10, 11] mem m → (∀ m2 : zMem, (m2 10 2 = (lp (wkF t) k i x).2.2.2 ∧ ∀ j, 0 ≤ j → j < 96 → m2 11 j = (lp (wkF t) k i x).2.2.1 j) → zfr [10, 11] mem m2 → AW m_Wa_take 119 [some (vr 10), some (vr 3), some (vi (lp (wkF t) k i x).1), none, none, none] [] m2 Q) → AW m_Wa_take 20 [some (vr 10), some (vr 3), some (vi x.1), some (vi x.2.1), some (vi i), none] [] m Q := by
  obtain ⟨e, hn, ht⟩ := h
  intro k
  induction k with
  | zero =>
    intro i x m h0 hk hI hm hf hx
    have m3 : m 3 = mem 3 := hf 3 (by decide)
    refine zw_iload ok_Wa_take rfl rfl ?_
    refine zw_aload_n ok_Wa_take rfl rfl ?_
    refine zw_geti ok_Wa_take rfl fl_Wa_25 rfl rfl ?_
    try simp only [m3, e]
    refine zw_icmp_ge 119 ok_Wa_take rfl (by decide) (by omega) (fun h26 => ?_) (fun h26 => ?_)
    · refine zw_mask [true, true, true, false, false, false] rfl ?_
      exact hx m hm hf
    · exfalso; omega
  | succ k ih =>
    intro i x m h0 hk hI hm hf hx
    have m3 : m 3 = mem 3 := hf 3 (by decide)
    have m4 : m 4 = mem 4 := hf 4 (by decide)
    have q := ht i h0 (by omega)
    have hI2 := wkF_inv (t := t) h0 hI
    obtain ⟨w, hr, st, f⟩ := x
    obtain ⟨i1, i2, i3, i4⟩ := id hI
    dsimp only at i1 i2 i3 i4 hm ⊢
    by_cases hf1 : f = -1
    · subst hf1
      rw [lp_s] at hx
      have ew : wkF t i (w, hr, st, -1) = if t i = 59 ∧ w < 7 then (w + 1, 0, st, -1) else if (97 ≤ t i ∧ t i ≤ 104) ∧ hr < 12 then (w, hr + 1, zupd st (hr * 8 + w) (t i - 97), -1) else (w, hr, st, i) := by
        unfold wkF
        rw [if_neg (by simp)]
      have flt : ¬ (t i = 59 ∧ w < 7) → ¬ ((97 ≤ t i ∧ t i ≤ 104) ∧ hr < 12) → AW m_Wa_take 107 [some (vr 10), some (vr 3), some (vi w), some (vi hr), some (vi i), none] [] m Q := by
        intro c1 c2
        rw [if_neg c1, if_neg c2] at ew
        rw [ew] at hx hI2
        refine zw_aload_n ok_Wa_take rfl rfl ?_
        refine zw_iload ok_Wa_take rfl rfl ?_
        refine zw_puti ok_Wa_take rfl fp_Wa_15 rfl rfl ?_
        refine zw_iinc ok_Wa_take rfl rfl rfl (by decide) ?_
        refine zw_goto 20 ok_Wa_take rfl (by decide) ?_
        refine ih (i + 1) (w, hr, st, i) _ (by omega) (by omega) hI2 ⟨?_, fun j q1 q2 => ?_⟩ (hf.set (by decide)) hx
        · rw [zset_eq, zupd_eq]
        · rw [zset_ne (by decide)]; exact hm.2 j q1 q2
      have let_ : ¬ (t i = 59 ∧ w < 7) → AW m_Wa_take 67 [some (vr 10), some (vr 3), some (vi w), some (vi hr), some (vi i), some (vi (t i))] [] m Q := by
        intro c1
        refine zw_iload ok_Wa_take rfl rfl ?_
        refine zw_bipush ok_Wa_take rfl (by decide) ?_
        refine zw_bipush ok_Wa_take rfl (by decide) ?_
        refine zw_Nbp ok_Wa_take rfl ok_B_within lk_Wa_33 (by decide) rfl (Nat.le_of_ble_eq_true rfl) (ct_B_within (by omega)) ?_
        first | refine zw_ifeq_d 107 ok_Wa_take rfl (by decide) (fun h76 => ?_) (fun h76 => ?_) | refine zw_ifeq_b 107 ok_Wa_take rfl (by decide) (fun h76 => ?_) (fun h76 => ?_) | refine zw_if_eq 107 ok_Wa_take rfl (by decide) (by omega) (fun h76 => ?_) (fun h76 => ?_)
        · refine zw_mask [true, true, true, true, true, false] rfl ?_
          exact flt c1 (fun z => h76 z.1)
        · refine zw_iload_n ok_Wa_take rfl rfl ?_
          refine zw_bipush ok_Wa_take rfl (by decide) ?_
          refine zw_icmp_ge 107 ok_Wa_take rfl (by decide) (by omega) (fun h82 => ?_) (fun h82 => ?_)
          · refine zw_mask [true, true, true, true, true, false] rfl ?_
            exact flt c1 (fun z => by omega)
          · refine zw_aload_n ok_Wa_take rfl rfl ?_
            refine zw_getr ok_Wa_take rfl fl_Wa_9 rfl rfl ?_
            refine zw_iload_n ok_Wa_take rfl rfl ?_
            refine zw_bipush ok_Wa_take rfl (by decide) ?_
            refine zw_imul ok_Wa_take rfl ?_
            refine zw_iload_n ok_Wa_take rfl rfl ?_
            refine zw_iadd ok_Wa_take rfl ?_
            refine zw_iload ok_Wa_take rfl rfl ?_
            refine zw_bipush ok_Wa_take rfl (by decide) ?_
            refine zw_isub ok_Wa_take rfl ?_
            refine zw_iast ok_Wa_take rfl rfl (by omega) ?_
            refine zw_iinc ok_Wa_take rfl rfl rfl (by decide) ?_
            refine zw_goto 113 ok_Wa_take rfl (by decide) ?_
            refine zw_iinc ok_Wa_take rfl rfl rfl (by decide) ?_
            refine zw_goto 20 ok_Wa_take rfl (by decide) ?_
            refine zw_mask [true, true, true, true, true, false] rfl ?_
            rw [if_neg c1, if_pos ⟨h76, by omega⟩] at ew
            rw [ew] at hx hI2
            refine ih (i + 1) (w, hr + 1, zupd st (hr * 8 + w) (t i - 97), -1) _ (by omega) (by omega) hI2 ⟨?_, fun j q1 q2 => ?_⟩ (hf.set (by decide)) hx
            · rw [zset_ne (by decide)]; exact hm.1
            · rw [zset_eq]
              dsimp only
              by_cases ej : j = hr * 8 + w
              · subst ej; rw [zupd_eq, zupd_eq]
              · rw [zupd_ne ej, zupd_ne ej]; exact hm.2 j q1 q2
      refine zw_iload ok_Wa_take rfl rfl ?_
      refine zw_aload_n ok_Wa_take rfl rfl ?_
      refine zw_geti ok_Wa_take rfl fl_Wa_25 rfl rfl ?_
      try simp only [m3, m4, e, hm.1, q.1]
      refine zw_icmp_ge 119 ok_Wa_take rfl (by decide) (by omega) (fun h26 => ?_) (fun h26 => ?_)
      · exfalso; omega
      · refine zw_aload_n ok_Wa_take rfl rfl ?_
        refine zw_geti ok_Wa_take rfl fl_Wa_15 rfl rfl ?_
        try simp only [m3, m4, e, hm.1, q.1]
        refine zw_iconst ok_Wa_take rfl ?_
        refine zw_icmp_ne 119 ok_Wa_take rfl (by decide) (by omega) (fun h34 => ?_) (fun h34 => ?_)
        · exact absurd rfl h34
        · refine zw_aload_n ok_Wa_take rfl rfl ?_
          refine zw_getr ok_Wa_take rfl fl_Wa_30 rfl rfl ?_
          refine zw_iload ok_Wa_take rfl rfl ?_
          refine zw_iald ok_Wa_take rfl rfl (by omega) ?_
          try simp only [m3, m4, e, hm.1, q.1]
          refine zw_istore ok_Wa_take rfl rfl (by decide) ?_
          refine zw_iload ok_Wa_take rfl rfl ?_
          refine zw_bipush ok_Wa_take rfl (by decide) ?_
          refine zw_icmp_ne 67 ok_Wa_take rfl (by decide) (by omega) (fun h50 => ?_) (fun h50 => ?_)
          · exact let_ (fun z => h50 z.1)
          · refine zw_iload_n ok_Wa_take rfl rfl ?_
            refine zw_bipush ok_Wa_take rfl (by decide) ?_
            refine zw_icmp_ge 67 ok_Wa_take rfl (by decide) (by omega) (fun h56 => ?_) (fun h56 => ?_)
            · exact let_ (fun z => by omega)
            · refine zw_iinc ok_Wa_take rfl rfl rfl (by decide) ?_
              refine zw_iconst ok_Wa_take rfl ?_
              refine zw_istore_n ok_Wa_take rfl rfl (by decide) ?_
              refine zw_goto 113 ok_Wa_take rfl (by decide) ?_
              refine zw_iinc ok_Wa_take rfl rfl rfl (by decide) ?_
              refine zw_goto 20 ok_Wa_take rfl (by decide) ?_
              refine zw_mask [true, true, true, true, true, false] rfl ?_
              rw [if_pos ⟨h50, by omega⟩] at ew
              rw [ew] at hx hI2
              exact ih (i + 1) (w + 1, 0, st, -1) m (by omega) (by omega) hI2 hm hf hx
    · rw [wkF_stop hf1] at hx
      refine zw_iload ok_Wa_take rfl rfl ?_
      refine zw_aload_n ok_Wa_take rfl rfl ?_
      refine zw_geti ok_Wa_take rfl fl_Wa_25 rfl rfl ?_
      try simp only [m3, m4, e, hm.1, q.1]
      refine zw_icmp_ge 119 ok_Wa_take rfl (by decide) (by omega) (fun h26 => ?_) (fun h26 => ?_)
      · exfalso; omega
      · refine zw_aload_n ok_Wa_take rfl rfl ?_
        refine zw_geti ok_Wa_take rfl fl_Wa_15 rfl rfl ?_
        try simp only [m3, m4, e, hm.1, q.1]
        refine zw_iconst ok_Wa_take rfl ?_
        refine zw_icmp_ne 119 ok_Wa_take rfl (by decide) (by omega) (fun h34 => ?_) (fun h34 => ?_)
        · refine zw_mask [true, true, true, false, false, false] rfl ?_
          exact hx m hm hf
        · exact absurd h34 hf1
theorem ct_Wa_take {n : Int} {t : Int → Int} (h : tx1 mem n t) : zCv m_Wa_take [vr 10, vr 3] mem (fun m2 => wlkC m2 n t ∧ zfr [10, 11] mem m2) := by
  refine zCt.of [some (vr 10), some (vr 3), none, none, none, none] ok_Wa_take (Nat.le_of_ble_eq_true rfl) rfl ?_
  have e := h.1
  have hn := h.2.1
  have hI := sWk_I (t := t) hn.1
  have K : ∀ m2 : zMem, (m2 10 2 = (sWk n t).2.2.2 ∧ ∀ j, 0 ≤ j → j < 96 → m2 11 j = (sWk n t).2.2.1 j) → zfr [10, 11] mem m2 → AW m_Wa_take 119 [some (vr 10), some (vr 3), some (vi (sWk n t).1), none, none, none] [] m2 (fun r m2 => r = none ∧ wlkC m2 n t ∧ zfr [10, 11] mem m2) := by
    intro m hm hf
    have m3 : m 3 = mem 3 := hf 3 (by decide)
    have i4 := hI.2.2.2
    have i1 := hI.1
    have fin : ∀ v, v = sWn n t → AW m_Wa_take 142 [some (vr 10), some (vr 3), some (vi (sWk n t).1), none, none, none] [vi v, vr 10] m (fun r m2 => r = none ∧ wlkC m2 n t ∧ zfr [10, 11] mem m2) := by
      intro v hv
      refine zw_puti ok_Wa_take rfl fp_Wa_37 rfl rfl ?_
      try simp (decide := true) only [zset_ne, zset_eq, zupd_eq, zupd_ne, ne_eq, not_false_eq_true, hm.1]
      refine zw_aload_n ok_Wa_take rfl rfl ?_
      refine zw_geti ok_Wa_take rfl fl_Wa_15 rfl rfl ?_
      try simp (decide := true) only [zset_ne, zset_eq, zupd_eq, zupd_ne, ne_eq, not_false_eq_true, hm.1]
      refine zw_iconst ok_Wa_take rfl ?_
      refine zw_icmp_eq 161 ok_Wa_take rfl (by decide) (by omega) (fun h150 => ?_) (fun h150 => ?_)
      · exact zw_vret ok_Wa_take rfl rfl ((by
first
  | exact ⟨rfl, ⟨⟨by rw [zset_eq, zupd_eq]; exact hv, by rw [zset_eq, zupd_ne (by decide)]; exact hm.1⟩, fun h p q1 q2 q3 q4 => by rw [zset_ne (by decide), hm.2 _ (by omega) (by omega)]; unfold sStr sFw; rw [if_neg (fun z => z h150)]⟩, hf.set (by decide)⟩
  | exact ⟨rfl, ⟨⟨by rw [zput_ne (by decide), zset_eq, zupd_eq]; exact hv, by rw [zput_ne (by decide), zset_eq, zupd_ne (by decide)]; exact hm.1⟩, fun h p q1 q2 q3 q4 => by rw [zput_eq]; unfold zfil; rw [if_pos (by constructor <;> omega)]; unfold sStr sFw; rw [if_pos h150]⟩, (hf.set (by decide)).put (by decide)⟩))
      · refine zw_aload_n ok_Wa_take rfl rfl ?_
        refine zw_getr ok_Wa_take rfl fl_Wa_9 rfl rfl ?_
        refine zw_iconst ok_Wa_take rfl ?_
        refine zw_Svp ok_Wa_take rfl ok_Jarr_fill_53178 lk_Wa_19 (by decide) rfl (Nat.le_of_ble_eq_true rfl) (ct_Jarr_fill_53178 rfl) ?_
        exact zw_vret ok_Wa_take rfl rfl ((by
first
  | exact ⟨rfl, ⟨⟨by rw [zset_eq, zupd_eq]; exact hv, by rw [zset_eq, zupd_ne (by decide)]; exact hm.1⟩, fun h p q1 q2 q3 q4 => by rw [zset_ne (by decide), hm.2 _ (by omega) (by omega)]; unfold sStr sFw; rw [if_neg (fun z => z h150)]⟩, hf.set (by decide)⟩
  | exact ⟨rfl, ⟨⟨by rw [zput_ne (by decide), zset_eq, zupd_eq]; exact hv, by rw [zput_ne (by decide), zset_eq, zupd_ne (by decide)]; exact hm.1⟩, fun h p q1 q2 q3 q4 => by rw [zput_eq]; unfold zfil; rw [if_pos (by constructor <;> omega)]; unfold sStr sFw; rw [if_pos h150]⟩, (hf.set (by decide)).put (by decide)⟩))
    refine zw_aload_n ok_Wa_take rfl rfl ?_
    refine zw_aload_n ok_Wa_take rfl rfl ?_
    refine zw_geti ok_Wa_take rfl fl_Wa_25 rfl rfl ?_
    try simp only [m3, e, hm.1]
    refine zw_if_eq 135 ok_Wa_take rfl (by decide) (by omega) (fun h124 => ?_) (fun h124 => ?_)
    · refine zw_iconst ok_Wa_take rfl ?_
      refine zw_goto 142 ok_Wa_take rfl (by decide) ?_
      refine fin _ ?_
      unfold sWn sFw
      first
        | rw [if_pos (Or.inl h124)]
        | rw [if_pos (Or.inr h132)]
        | rw [if_neg (fun z => z.elim h124 (fun y => y h132))]
    · refine zw_aload_n ok_Wa_take rfl rfl ?_
      refine zw_geti ok_Wa_take rfl fl_Wa_15 rfl rfl ?_
      try simp only [m3, e, hm.1]
      refine zw_iconst ok_Wa_take rfl ?_
      refine zw_icmp_eq 139 ok_Wa_take rfl (by decide) (by omega) (fun h132 => ?_) (fun h132 => ?_)
      · refine zw_iload_n ok_Wa_take rfl rfl ?_
        refine zw_iconst ok_Wa_take rfl ?_
        refine zw_iadd ok_Wa_take rfl ?_
        refine fin _ ?_
        unfold sWn sFw
        first
          | rw [if_pos (Or.inl h124)]
          | rw [if_pos (Or.inr h132)]
          | rw [if_neg (fun z => z.elim h124 (fun y => y h132))]
      · refine zw_iconst ok_Wa_take rfl ?_
        refine zw_goto 142 ok_Wa_take rfl (by decide) ?_
        refine fin _ ?_
        unfold sWn sFw
        first
          | rw [if_pos (Or.inl h124)]
          | rw [if_pos (Or.inr h132)]
          | rw [if_neg (fun z => z.elim h124 (fun y => y h132))]
  refine zw_aload_n ok_Wa_take rfl rfl ?_
  refine zw_getr ok_Wa_take rfl fl_Wa_9 rfl rfl ?_
  refine zw_iconst ok_Wa_take rfl ?_
  refine zw_Svp ok_Wa_take rfl ok_Jarr_fill_53178 lk_Wa_19 (by decide) rfl (Nat.le_of_ble_eq_true rfl) (ct_Jarr_fill_53178 rfl) ?_
  refine zw_aload_n ok_Wa_take rfl rfl ?_
  refine zw_iconst ok_Wa_take rfl ?_
  refine zw_puti ok_Wa_take rfl fp_Wa_15 rfl rfl ?_
  refine zw_iconst ok_Wa_take rfl ?_
  refine zw_istore_n ok_Wa_take rfl rfl (by decide) ?_
  refine zw_iconst ok_Wa_take rfl ?_
  refine zw_istore_n ok_Wa_take rfl rfl (by decide) ?_
  refine zw_iconst ok_Wa_take rfl ?_
  refine zw_istore ok_Wa_take rfl rfl (by decide) ?_
  refine wtake_loop h n.toNat 0 wk0 _ (by omega) (by omega) wk0_I ⟨?_, fun j q1 q2 => ?_⟩ ((zfr.rf.put (by decide)).set (by decide)) K
  · rw [zset_eq, zupd_eq]; rfl
  · rw [zset_ne (by decide), zput_eq]
    unfold zfil
    rw [if_pos (by constructor <;> omega)]
    rfl
theorem ct_Tx_append {k c : Nat} {b : Int} (hk : (k = 1 ∧ c = 39) ∨ (k = 3 ∧ c = 71)) (hs : 0 ≤ mem k 1 ∧ mem k 1 < c) : zCv m_Tx_append [vr k, vi b] mem (fun m2 => m2 = zset (zset mem (k + 1) (mem k 1) b) k 1 (mem k 1 + 1)) := by
  rcases hk with ⟨rfl, rfl⟩ | ⟨rfl, rfl⟩
  · refine zCt.of [some (vr 1), some (vi b)] ok_Tx_append (Nat.le_of_ble_eq_true rfl) rfl ?_
    refine zw_aload_n ok_Tx_append rfl rfl ?_
    refine zw_geti ok_Tx_append rfl fl_Tx_19 rfl rfl ?_
    try simp (decide := true) only [zset_ne, ne_eq, not_false_eq_true]
    refine zw_aload_n ok_Tx_append rfl rfl ?_
    refine zw_getr ok_Tx_append rfl fl_Tx_13 rfl rfl ?_
    refine zw_alen ok_Tx_append rfl rfl (by decide) ?_
    refine zw_icmp_ge 32 ok_Tx_append rfl (by decide) (by omega) (fun h9 => ?_) (fun h9 => ?_)
    · exfalso; omega
    · refine zw_aload_n ok_Tx_append rfl rfl ?_
      refine zw_getr ok_Tx_append rfl fl_Tx_13 rfl rfl ?_
      refine zw_aload_n ok_Tx_append rfl rfl ?_
      refine zw_geti ok_Tx_append rfl fl_Tx_19 rfl rfl ?_
      try simp (decide := true) only [zset_ne, ne_eq, not_false_eq_true]
      refine zw_iload_n ok_Tx_append rfl rfl ?_
      refine zw_iast ok_Tx_append rfl rfl (by omega) ?_
      try simp (decide := true) only [zset_ne, ne_eq, not_false_eq_true]
      refine zw_aload_n ok_Tx_append rfl rfl ?_
      first | refine zw_dupi ok_Tx_append rfl ?_ | refine zw_dupr ok_Tx_append rfl ?_
      refine zw_geti ok_Tx_append rfl fl_Tx_19 rfl rfl ?_
      try simp (decide := true) only [zset_ne, ne_eq, not_false_eq_true]
      refine zw_iconst ok_Tx_append rfl ?_
      refine zw_iadd ok_Tx_append rfl ?_
      refine zw_puti ok_Tx_append rfl fp_Tx_19 rfl rfl ?_
      try simp (decide := true) only [zset_ne, ne_eq, not_false_eq_true]
      exact zw_vret ok_Tx_append rfl rfl (⟨rfl, rfl⟩)
  · refine zCt.of [some (vr 3), some (vi b)] ok_Tx_append (Nat.le_of_ble_eq_true rfl) rfl ?_
    refine zw_aload_n ok_Tx_append rfl rfl ?_
    refine zw_geti ok_Tx_append rfl fl_Tx_19 rfl rfl ?_
    try simp (decide := true) only [zset_ne, ne_eq, not_false_eq_true]
    refine zw_aload_n ok_Tx_append rfl rfl ?_
    refine zw_getr ok_Tx_append rfl fl_Tx_13 rfl rfl ?_
    refine zw_alen ok_Tx_append rfl rfl (by decide) ?_
    refine zw_icmp_ge 32 ok_Tx_append rfl (by decide) (by omega) (fun h9 => ?_) (fun h9 => ?_)
    · exfalso; omega
    · refine zw_aload_n ok_Tx_append rfl rfl ?_
      refine zw_getr ok_Tx_append rfl fl_Tx_13 rfl rfl ?_
      refine zw_aload_n ok_Tx_append rfl rfl ?_
      refine zw_geti ok_Tx_append rfl fl_Tx_19 rfl rfl ?_
      try simp (decide := true) only [zset_ne, ne_eq, not_false_eq_true]
      refine zw_iload_n ok_Tx_append rfl rfl ?_
      refine zw_iast ok_Tx_append rfl rfl (by omega) ?_
      try simp (decide := true) only [zset_ne, ne_eq, not_false_eq_true]
      refine zw_aload_n ok_Tx_append rfl rfl ?_
      first | refine zw_dupi ok_Tx_append rfl ?_ | refine zw_dupr ok_Tx_append rfl ?_
      refine zw_geti ok_Tx_append rfl fl_Tx_19 rfl rfl ?_
      try simp (decide := true) only [zset_ne, ne_eq, not_false_eq_true]
      refine zw_iconst ok_Tx_append rfl ?_
      refine zw_iadd ok_Tx_append rfl ?_
      refine zw_puti ok_Tx_append rfl fp_Tx_19 rfl rfl ?_
      try simp (decide := true) only [zset_ne, ne_eq, not_false_eq_true]
      exact zw_vret ok_Tx_append rfl rfl (⟨rfl, rfl⟩)
theorem ct_Le_enter {k c : Nat} {x y z : Int} (hk : (k = 12 ∧ c = 12) ∨ (k = 16 ∧ c = 8) ∨ (k = 20 ∧ c = 8)) (hs : 0 ≤ mem k 3 ∧ mem k 3 ≤ c) : zCi m_Le_enter [vr k, vi x, vi y, vi z] mem (if mem k 3 < c then mem k 3 + 1 else -4) (fun m2 => m2 = if mem k 3 < c then zset (zset (zset (zset mem (k + 1) (mem k 3) x) (k + 2) (mem k 3) y) (k + 3) (mem k 3) z) k 3 (mem k 3 + 1) else mem) := by
  rcases hk with ⟨rfl, rfl⟩ | ⟨rfl, rfl⟩ | ⟨rfl, rfl⟩
  · refine zCt.of [some (vr 12), some (vi x), some (vi y), some (vi z)] ok_Le_enter (Nat.le_of_ble_eq_true rfl) rfl ?_
    refine zw_aload_n ok_Le_enter rfl rfl ?_
    refine zw_geti ok_Le_enter rfl fl_Le_27 rfl rfl ?_
    try simp (decide := true) only [zset_ne, zset_eq, zupd_eq, ne_eq, not_false_eq_true]
    refine zw_aload_n ok_Le_enter rfl rfl ?_
    refine zw_getr ok_Le_enter rfl fl_Le_15 rfl rfl ?_
    refine zw_alen ok_Le_enter rfl rfl (by decide) ?_
    refine zw_icmp_lt 15 ok_Le_enter rfl (by decide) (by omega) (fun h9 => ?_) (fun h9 => ?_)
    · rw [if_pos h9, if_pos h9]
      refine zw_aload_n ok_Le_enter rfl rfl ?_
      refine zw_getr ok_Le_enter rfl fl_Le_15 rfl rfl ?_
      refine zw_aload_n ok_Le_enter rfl rfl ?_
      refine zw_geti ok_Le_enter rfl fl_Le_27 rfl rfl ?_
      try simp (decide := true) only [zset_ne, zset_eq, zupd_eq, ne_eq, not_false_eq_true]
      refine zw_iload_n ok_Le_enter rfl rfl ?_
      refine zw_iast ok_Le_enter rfl rfl (by omega) ?_
      try simp (decide := true) only [zset_ne, zset_eq, zupd_eq, ne_eq, not_false_eq_true]
      refine zw_aload_n ok_Le_enter rfl rfl ?_
      refine zw_getr ok_Le_enter rfl fl_Le_21 rfl rfl ?_
      refine zw_aload_n ok_Le_enter rfl rfl ?_
      refine zw_geti ok_Le_enter rfl fl_Le_27 rfl rfl ?_
      try simp (decide := true) only [zset_ne, zset_eq, zupd_eq, ne_eq, not_false_eq_true]
      refine zw_iload_n ok_Le_enter rfl rfl ?_
      refine zw_iast ok_Le_enter rfl rfl (by omega) ?_
      try simp (decide := true) only [zset_ne, zset_eq, zupd_eq, ne_eq, not_false_eq_true]
      refine zw_aload_n ok_Le_enter rfl rfl ?_
      refine zw_getr ok_Le_enter rfl fl_Le_24 rfl rfl ?_
      refine zw_aload_n ok_Le_enter rfl rfl ?_
      refine zw_geti ok_Le_enter rfl fl_Le_27 rfl rfl ?_
      try simp (decide := true) only [zset_ne, zset_eq, zupd_eq, ne_eq, not_false_eq_true]
      refine zw_iload_n ok_Le_enter rfl rfl ?_
      refine zw_iast ok_Le_enter rfl rfl (by omega) ?_
      try simp (decide := true) only [zset_ne, zset_eq, zupd_eq, ne_eq, not_false_eq_true]
      refine zw_aload_n ok_Le_enter rfl rfl ?_
      first | refine zw_dupi ok_Le_enter rfl ?_ | refine zw_dupr ok_Le_enter rfl ?_
      refine zw_geti ok_Le_enter rfl fl_Le_27 rfl rfl ?_
      try simp (decide := true) only [zset_ne, zset_eq, zupd_eq, ne_eq, not_false_eq_true]
      refine zw_iconst ok_Le_enter rfl ?_
      refine zw_iadd ok_Le_enter rfl ?_
      refine zw_puti ok_Le_enter rfl fp_Le_27 rfl rfl ?_
      try simp (decide := true) only [zset_ne, zset_eq, zupd_eq, ne_eq, not_false_eq_true]
      refine zw_aload_n ok_Le_enter rfl rfl ?_
      refine zw_geti ok_Le_enter rfl fl_Le_27 rfl rfl ?_
      try simp (decide := true) only [zset_ne, zset_eq, zupd_eq, ne_eq, not_false_eq_true]
      exact zw_iret ok_Le_enter rfl rfl (⟨rfl, rfl⟩)
    · rw [if_neg h9, if_neg h9]
      refine zw_bipush ok_Le_enter rfl (by decide) ?_
      exact zw_iret ok_Le_enter rfl rfl (⟨rfl, rfl⟩)
  · refine zCt.of [some (vr 16), some (vi x), some (vi y), some (vi z)] ok_Le_enter (Nat.le_of_ble_eq_true rfl) rfl ?_
    refine zw_aload_n ok_Le_enter rfl rfl ?_
    refine zw_geti ok_Le_enter rfl fl_Le_27 rfl rfl ?_
    try simp (decide := true) only [zset_ne, zset_eq, zupd_eq, ne_eq, not_false_eq_true]
    refine zw_aload_n ok_Le_enter rfl rfl ?_
    refine zw_getr ok_Le_enter rfl fl_Le_15 rfl rfl ?_
    refine zw_alen ok_Le_enter rfl rfl (by decide) ?_
    refine zw_icmp_lt 15 ok_Le_enter rfl (by decide) (by omega) (fun h9 => ?_) (fun h9 => ?_)
    · rw [if_pos h9, if_pos h9]
      refine zw_aload_n ok_Le_enter rfl rfl ?_
      refine zw_getr ok_Le_enter rfl fl_Le_15 rfl rfl ?_
      refine zw_aload_n ok_Le_enter rfl rfl ?_
      refine zw_geti ok_Le_enter rfl fl_Le_27 rfl rfl ?_
      try simp (decide := true) only [zset_ne, zset_eq, zupd_eq, ne_eq, not_false_eq_true]
      refine zw_iload_n ok_Le_enter rfl rfl ?_
      refine zw_iast ok_Le_enter rfl rfl (by omega) ?_
      try simp (decide := true) only [zset_ne, zset_eq, zupd_eq, ne_eq, not_false_eq_true]
      refine zw_aload_n ok_Le_enter rfl rfl ?_
      refine zw_getr ok_Le_enter rfl fl_Le_21 rfl rfl ?_
      refine zw_aload_n ok_Le_enter rfl rfl ?_
      refine zw_geti ok_Le_enter rfl fl_Le_27 rfl rfl ?_
      try simp (decide := true) only [zset_ne, zset_eq, zupd_eq, ne_eq, not_false_eq_true]
      refine zw_iload_n ok_Le_enter rfl rfl ?_
      refine zw_iast ok_Le_enter rfl rfl (by omega) ?_
      try simp (decide := true) only [zset_ne, zset_eq, zupd_eq, ne_eq, not_false_eq_true]
      refine zw_aload_n ok_Le_enter rfl rfl ?_
      refine zw_getr ok_Le_enter rfl fl_Le_24 rfl rfl ?_
      refine zw_aload_n ok_Le_enter rfl rfl ?_
      refine zw_geti ok_Le_enter rfl fl_Le_27 rfl rfl ?_
      try simp (decide := true) only [zset_ne, zset_eq, zupd_eq, ne_eq, not_false_eq_true]
      refine zw_iload_n ok_Le_enter rfl rfl ?_
      refine zw_iast ok_Le_enter rfl rfl (by omega) ?_
      try simp (decide := true) only [zset_ne, zset_eq, zupd_eq, ne_eq, not_false_eq_true]
      refine zw_aload_n ok_Le_enter rfl rfl ?_
      first | refine zw_dupi ok_Le_enter rfl ?_ | refine zw_dupr ok_Le_enter rfl ?_
      refine zw_geti ok_Le_enter rfl fl_Le_27 rfl rfl ?_
      try simp (decide := true) only [zset_ne, zset_eq, zupd_eq, ne_eq, not_false_eq_true]
      refine zw_iconst ok_Le_enter rfl ?_
      refine zw_iadd ok_Le_enter rfl ?_
      refine zw_puti ok_Le_enter rfl fp_Le_27 rfl rfl ?_
      try simp (decide := true) only [zset_ne, zset_eq, zupd_eq, ne_eq, not_false_eq_true]
      refine zw_aload_n ok_Le_enter rfl rfl ?_
      refine zw_geti ok_Le_enter rfl fl_Le_27 rfl rfl ?_
      try simp (decide := true) only [zset_ne, zset_eq, zupd_eq, ne_eq, not_false_eq_true]
      exact zw_iret ok_Le_enter rfl rfl (⟨rfl, rfl⟩)
    · rw [if_neg h9, if_neg h9]
      refine zw_bipush ok_Le_enter rfl (by decide) ?_
      exact zw_iret ok_Le_enter rfl rfl (⟨rfl, rfl⟩)
  · refine zCt.of [some (vr 20), some (vi x), some (vi y), some (vi z)] ok_Le_enter (Nat.le_of_ble_eq_true rfl) rfl ?_
    refine zw_aload_n ok_Le_enter rfl rfl ?_
    refine zw_geti ok_Le_enter rfl fl_Le_27 rfl rfl ?_
    try simp (decide := true) only [zset_ne, zset_eq, zupd_eq, ne_eq, not_false_eq_true]
    refine zw_aload_n ok_Le_enter rfl rfl ?_
    refine zw_getr ok_Le_enter rfl fl_Le_15 rfl rfl ?_
    refine zw_alen ok_Le_enter rfl rfl (by decide) ?_
    refine zw_icmp_lt 15 ok_Le_enter rfl (by decide) (by omega) (fun h9 => ?_) (fun h9 => ?_)
    · rw [if_pos h9, if_pos h9]
      refine zw_aload_n ok_Le_enter rfl rfl ?_
      refine zw_getr ok_Le_enter rfl fl_Le_15 rfl rfl ?_
      refine zw_aload_n ok_Le_enter rfl rfl ?_
      refine zw_geti ok_Le_enter rfl fl_Le_27 rfl rfl ?_
      try simp (decide := true) only [zset_ne, zset_eq, zupd_eq, ne_eq, not_false_eq_true]
      refine zw_iload_n ok_Le_enter rfl rfl ?_
      refine zw_iast ok_Le_enter rfl rfl (by omega) ?_
      try simp (decide := true) only [zset_ne, zset_eq, zupd_eq, ne_eq, not_false_eq_true]
      refine zw_aload_n ok_Le_enter rfl rfl ?_
      refine zw_getr ok_Le_enter rfl fl_Le_21 rfl rfl ?_
      refine zw_aload_n ok_Le_enter rfl rfl ?_
      refine zw_geti ok_Le_enter rfl fl_Le_27 rfl rfl ?_
      try simp (decide := true) only [zset_ne, zset_eq, zupd_eq, ne_eq, not_false_eq_true]
      refine zw_iload_n ok_Le_enter rfl rfl ?_
      refine zw_iast ok_Le_enter rfl rfl (by omega) ?_
      try simp (decide := true) only [zset_ne, zset_eq, zupd_eq, ne_eq, not_false_eq_true]
      refine zw_aload_n ok_Le_enter rfl rfl ?_
      refine zw_getr ok_Le_enter rfl fl_Le_24 rfl rfl ?_
      refine zw_aload_n ok_Le_enter rfl rfl ?_
      refine zw_geti ok_Le_enter rfl fl_Le_27 rfl rfl ?_
      try simp (decide := true) only [zset_ne, zset_eq, zupd_eq, ne_eq, not_false_eq_true]
      refine zw_iload_n ok_Le_enter rfl rfl ?_
      refine zw_iast ok_Le_enter rfl rfl (by omega) ?_
      try simp (decide := true) only [zset_ne, zset_eq, zupd_eq, ne_eq, not_false_eq_true]
      refine zw_aload_n ok_Le_enter rfl rfl ?_
      first | refine zw_dupi ok_Le_enter rfl ?_ | refine zw_dupr ok_Le_enter rfl ?_
      refine zw_geti ok_Le_enter rfl fl_Le_27 rfl rfl ?_
      try simp (decide := true) only [zset_ne, zset_eq, zupd_eq, ne_eq, not_false_eq_true]
      refine zw_iconst ok_Le_enter rfl ?_
      refine zw_iadd ok_Le_enter rfl ?_
      refine zw_puti ok_Le_enter rfl fp_Le_27 rfl rfl ?_
      try simp (decide := true) only [zset_ne, zset_eq, zupd_eq, ne_eq, not_false_eq_true]
      refine zw_aload_n ok_Le_enter rfl rfl ?_
      refine zw_geti ok_Le_enter rfl fl_Le_27 rfl rfl ?_
      try simp (decide := true) only [zset_ne, zset_eq, zupd_eq, ne_eq, not_false_eq_true]
      exact zw_iret ok_Le_enter rfl rfl (⟨rfl, rfl⟩)
    · rw [if_neg h9, if_neg h9]
      refine zw_bipush ok_Le_enter rfl (by decide) ?_
      exact zw_iret ok_Le_enter rfl rfl (⟨rfl, rfl⟩)
end
end
section
/-! ===== Sheet ===== -/
def cutS (f v : Int) : Int := if f = 0 then zi2b v else if f = 1 then zi2s v else v
theorem zR_i2b (v : Int) : -2147483648 ≤ zi2b v ∧ zi2b v < 2147483648 := zR32 _
theorem zR_i2s (v : Int) : -2147483648 ≤ zi2s v ∧ zi2s v < 2147483648 := zR32 _
theorem zR_cut {f v : Int} (h : -2147483648 ≤ v ∧ v < 2147483648) : -2147483648 ≤ cutS f v ∧ cutS f v < 2147483648 := by
  unfold cutS
  split
  · exact zR_i2b v
  · split
    · exact zR_i2s v
    · exact h
def shK (k : Nat) : Prop := k = 40 ∨ k = 42 ∨ k = 44 ∨ k = 46
section
variable {mem : zMem}
theorem ct_Se_begin {k : Nat} {f n : Int} (hk : shK k) : zCvp m_Se_begin [vr k, vi f, vi n] mem (zset (zset (zset (zput mem (k + 1) (zfil 60 0 (mem (k + 1)))) k 2 f) k 3 n) k 1 0) := by
  rcases hk with rfl | rfl | rfl | rfl
  · refine zCt.of [some (vr 40), some (vi f), some (vi n)] ok_Se_begin (Nat.le_of_ble_eq_true rfl) rfl ?_
    refine zw_aload_n ok_Se_begin rfl rfl ?_
    refine zw_getr ok_Se_begin rfl fl_Se_9 rfl rfl ?_
    refine zw_iconst ok_Se_begin rfl ?_
    refine zw_Svp ok_Se_begin rfl ok_Jarr_fill_53178 lk_Se_19 (by decide) rfl (Nat.le_of_ble_eq_true rfl) (ct_Jarr_fill_53178 rfl) ?_
    refine zw_aload_n ok_Se_begin rfl rfl ?_
    refine zw_iload_n ok_Se_begin rfl rfl ?_
    refine zw_puti ok_Se_begin rfl fp_Se_25 rfl rfl ?_
    refine zw_aload_n ok_Se_begin rfl rfl ?_
    refine zw_iload_n ok_Se_begin rfl rfl ?_
    refine zw_puti ok_Se_begin rfl fp_Se_29 rfl rfl ?_
    refine zw_aload_n ok_Se_begin rfl rfl ?_
    refine zw_iconst ok_Se_begin rfl ?_
    refine zw_putz ok_Se_begin rfl fp_Se_15 rfl rfl (by first | exact Or.inl rfl | exact Or.inr rfl) ?_
    exact zw_vret ok_Se_begin rfl rfl (⟨rfl, rfl⟩)
  · refine zCt.of [some (vr 42), some (vi f), some (vi n)] ok_Se_begin (Nat.le_of_ble_eq_true rfl) rfl ?_
    refine zw_aload_n ok_Se_begin rfl rfl ?_
    refine zw_getr ok_Se_begin rfl fl_Se_9 rfl rfl ?_
    refine zw_iconst ok_Se_begin rfl ?_
    refine zw_Svp ok_Se_begin rfl ok_Jarr_fill_53178 lk_Se_19 (by decide) rfl (Nat.le_of_ble_eq_true rfl) (ct_Jarr_fill_53178 rfl) ?_
    refine zw_aload_n ok_Se_begin rfl rfl ?_
    refine zw_iload_n ok_Se_begin rfl rfl ?_
    refine zw_puti ok_Se_begin rfl fp_Se_25 rfl rfl ?_
    refine zw_aload_n ok_Se_begin rfl rfl ?_
    refine zw_iload_n ok_Se_begin rfl rfl ?_
    refine zw_puti ok_Se_begin rfl fp_Se_29 rfl rfl ?_
    refine zw_aload_n ok_Se_begin rfl rfl ?_
    refine zw_iconst ok_Se_begin rfl ?_
    refine zw_putz ok_Se_begin rfl fp_Se_15 rfl rfl (by first | exact Or.inl rfl | exact Or.inr rfl) ?_
    exact zw_vret ok_Se_begin rfl rfl (⟨rfl, rfl⟩)
  · refine zCt.of [some (vr 44), some (vi f), some (vi n)] ok_Se_begin (Nat.le_of_ble_eq_true rfl) rfl ?_
    refine zw_aload_n ok_Se_begin rfl rfl ?_
    refine zw_getr ok_Se_begin rfl fl_Se_9 rfl rfl ?_
    refine zw_iconst ok_Se_begin rfl ?_
    refine zw_Svp ok_Se_begin rfl ok_Jarr_fill_53178 lk_Se_19 (by decide) rfl (Nat.le_of_ble_eq_true rfl) (ct_Jarr_fill_53178 rfl) ?_
    refine zw_aload_n ok_Se_begin rfl rfl ?_
    refine zw_iload_n ok_Se_begin rfl rfl ?_
    refine zw_puti ok_Se_begin rfl fp_Se_25 rfl rfl ?_
    refine zw_aload_n ok_Se_begin rfl rfl ?_
    refine zw_iload_n ok_Se_begin rfl rfl ?_
    refine zw_puti ok_Se_begin rfl fp_Se_29 rfl rfl ?_
    refine zw_aload_n ok_Se_begin rfl rfl ?_
    refine zw_iconst ok_Se_begin rfl ?_
    refine zw_putz ok_Se_begin rfl fp_Se_15 rfl rfl (by first | exact Or.inl rfl | exact Or.inr rfl) ?_
    exact zw_vret ok_Se_begin rfl rfl (⟨rfl, rfl⟩)
  · refine zCt.of [some (vr 46), some (vi f), some (vi n)] ok_Se_begin (Nat.le_of_ble_eq_true rfl) rfl ?_
    refine zw_aload_n ok_Se_begin rfl rfl ?_
    refine zw_getr ok_Se_begin rfl fl_Se_9 rfl rfl ?_
    refine zw_iconst ok_Se_begin rfl ?_
    refine zw_Svp ok_Se_begin rfl ok_Jarr_fill_53178 lk_Se_19 (by decide) rfl (Nat.le_of_ble_eq_true rfl) (ct_Jarr_fill_53178 rfl) ?_
    refine zw_aload_n ok_Se_begin rfl rfl ?_
    refine zw_iload_n ok_Se_begin rfl rfl ?_
    refine zw_puti ok_Se_begin rfl fp_Se_25 rfl rfl ?_
    refine zw_aload_n ok_Se_begin rfl rfl ?_
    refine zw_iload_n ok_Se_begin rfl rfl ?_
    refine zw_puti ok_Se_begin rfl fp_Se_29 rfl rfl ?_
    refine zw_aload_n ok_Se_begin rfl rfl ?_
    refine zw_iconst ok_Se_begin rfl ?_
    refine zw_putz ok_Se_begin rfl fp_Se_15 rfl rfl (by first | exact Or.inl rfl | exact Or.inr rfl) ?_
    exact zw_vret ok_Se_begin rfl rfl (⟨rfl, rfl⟩)
def fndS (mem : zMem) (k : Nat) (f i : Int) : Int := if mem k 1 ≠ 0 then 1 else if mem k 2 ≠ f then 3 else if 0 ≤ i ∧ i ≤ mem k 3 - 1 then 0 else 2
def shR (mem : zMem) (k : Nat) : Prop := (mem k 1 = 0 ∨ mem k 1 = 1) ∧ (0 ≤ mem k 2 ∧ mem k 2 ≤ 2) ∧ (0 ≤ mem k 3 ∧ mem k 3 ≤ 60)
theorem ct_Se_findingAt {k : Nat} {f i : Int} (hk : shK k) (hr : shR mem k) (hf : 0 ≤ f ∧ f ≤ 2) (hi : zR i) : zCip m_Se_findingAt [vr k, vi f, vi i] mem (fndS mem k f i) := by
  obtain ⟨r1, r2, r3⟩ := hr
  unfold fndS
  rcases hk with rfl | rfl | rfl | rfl
  · refine zCt.of [some (vr 40), some (vi f), some (vi i)] ok_Se_findingAt (Nat.le_of_ble_eq_true rfl) rfl ?_
    refine zw_aload_n ok_Se_findingAt rfl rfl ?_
    refine zw_geti ok_Se_findingAt rfl fl_Se_15 rfl rfl ?_
    refine zw_if_eq 9 ok_Se_findingAt rfl (by decide) (by omega) (fun h4 => ?_) (fun h4 => ?_)
    · rw [if_neg (fun z => z h4)]
      refine zw_aload_n ok_Se_findingAt rfl rfl ?_
      refine zw_geti ok_Se_findingAt rfl fl_Se_25 rfl rfl ?_
      refine zw_iload_n ok_Se_findingAt rfl rfl ?_
      refine zw_icmp_eq 19 ok_Se_findingAt rfl (by decide) (by omega) (fun h14 => ?_) (fun h14 => ?_)
      · rw [if_neg (fun z => z h14)]
        refine zw_iload_n ok_Se_findingAt rfl rfl ?_
        refine zw_iconst ok_Se_findingAt rfl ?_
        refine zw_aload_n ok_Se_findingAt rfl rfl ?_
        refine zw_geti ok_Se_findingAt rfl fl_Se_29 rfl rfl ?_
        refine zw_iconst ok_Se_findingAt rfl ?_
        refine zw_isub ok_Se_findingAt rfl ?_
        refine zw_Nbp ok_Se_findingAt rfl ok_B_within lk_Se_32 (by decide) rfl (Nat.le_of_ble_eq_true rfl) (ct_B_within (by omega)) ?_
        refine zw_ifeq_d 37 ok_Se_findingAt rfl (by decide) (fun h30 => ?_) (fun h30 => ?_)
        · rw [if_neg h30]
          refine zw_iconst ok_Se_findingAt rfl ?_
          exact zw_iret ok_Se_findingAt rfl rfl (⟨rfl, rfl⟩)
        · rw [if_pos h30]
          refine zw_iconst ok_Se_findingAt rfl ?_
          refine zw_goto 38 ok_Se_findingAt rfl (by decide) ?_
          exact zw_iret ok_Se_findingAt rfl rfl (⟨rfl, rfl⟩)
      · rw [if_pos h14]
        refine zw_iconst ok_Se_findingAt rfl ?_
        exact zw_iret ok_Se_findingAt rfl rfl (⟨rfl, rfl⟩)
    · rw [if_pos h4]
      refine zw_iconst ok_Se_findingAt rfl ?_
      exact zw_iret ok_Se_findingAt rfl rfl (⟨rfl, rfl⟩)
  · refine zCt.of [some (vr 42), some (vi f), some (vi i)] ok_Se_findingAt (Nat.le_of_ble_eq_true rfl) rfl ?_
    refine zw_aload_n ok_Se_findingAt rfl rfl ?_
    refine zw_geti ok_Se_findingAt rfl fl_Se_15 rfl rfl ?_
    refine zw_if_eq 9 ok_Se_findingAt rfl (by decide) (by omega) (fun h4 => ?_) (fun h4 => ?_)
    · rw [if_neg (fun z => z h4)]
      refine zw_aload_n ok_Se_findingAt rfl rfl ?_
      refine zw_geti ok_Se_findingAt rfl fl_Se_25 rfl rfl ?_
      refine zw_iload_n ok_Se_findingAt rfl rfl ?_
      refine zw_icmp_eq 19 ok_Se_findingAt rfl (by decide) (by omega) (fun h14 => ?_) (fun h14 => ?_)
      · rw [if_neg (fun z => z h14)]
        refine zw_iload_n ok_Se_findingAt rfl rfl ?_
        refine zw_iconst ok_Se_findingAt rfl ?_
        refine zw_aload_n ok_Se_findingAt rfl rfl ?_
        refine zw_geti ok_Se_findingAt rfl fl_Se_29 rfl rfl ?_
        refine zw_iconst ok_Se_findingAt rfl ?_
        refine zw_isub ok_Se_findingAt rfl ?_
        refine zw_Nbp ok_Se_findingAt rfl ok_B_within lk_Se_32 (by decide) rfl (Nat.le_of_ble_eq_true rfl) (ct_B_within (by omega)) ?_
        refine zw_ifeq_d 37 ok_Se_findingAt rfl (by decide) (fun h30 => ?_) (fun h30 => ?_)
        · rw [if_neg h30]
          refine zw_iconst ok_Se_findingAt rfl ?_
          exact zw_iret ok_Se_findingAt rfl rfl (⟨rfl, rfl⟩)
        · rw [if_pos h30]
          refine zw_iconst ok_Se_findingAt rfl ?_
          refine zw_goto 38 ok_Se_findingAt rfl (by decide) ?_
          exact zw_iret ok_Se_findingAt rfl rfl (⟨rfl, rfl⟩)
      · rw [if_pos h14]
        refine zw_iconst ok_Se_findingAt rfl ?_
        exact zw_iret ok_Se_findingAt rfl rfl (⟨rfl, rfl⟩)
    · rw [if_pos h4]
      refine zw_iconst ok_Se_findingAt rfl ?_
      exact zw_iret ok_Se_findingAt rfl rfl (⟨rfl, rfl⟩)
  · refine zCt.of [some (vr 44), some (vi f), some (vi i)] ok_Se_findingAt (Nat.le_of_ble_eq_true rfl) rfl ?_
    refine zw_aload_n ok_Se_findingAt rfl rfl ?_
    refine zw_geti ok_Se_findingAt rfl fl_Se_15 rfl rfl ?_
    refine zw_if_eq 9 ok_Se_findingAt rfl (by decide) (by omega) (fun h4 => ?_) (fun h4 => ?_)
    · rw [if_neg (fun z => z h4)]
      refine zw_aload_n ok_Se_findingAt rfl rfl ?_
      refine zw_geti ok_Se_findingAt rfl fl_Se_25 rfl rfl ?_
      refine zw_iload_n ok_Se_findingAt rfl rfl ?_
      refine zw_icmp_eq 19 ok_Se_findingAt rfl (by decide) (by omega) (fun h14 => ?_) (fun h14 => ?_)
      · rw [if_neg (fun z => z h14)]
        refine zw_iload_n ok_Se_findingAt rfl rfl ?_
        refine zw_iconst ok_Se_findingAt rfl ?_
        refine zw_aload_n ok_Se_findingAt rfl rfl ?_
        refine zw_geti ok_Se_findingAt rfl fl_Se_29 rfl rfl ?_
        refine zw_iconst ok_Se_findingAt rfl ?_
        refine zw_isub ok_Se_findingAt rfl ?_
        refine zw_Nbp ok_Se_findingAt rfl ok_B_within lk_Se_32 (by decide) rfl (Nat.le_of_ble_eq_true rfl) (ct_B_within (by omega)) ?_
        refine zw_ifeq_d 37 ok_Se_findingAt rfl (by decide) (fun h30 => ?_) (fun h30 => ?_)
        · rw [if_neg h30]
          refine zw_iconst ok_Se_findingAt rfl ?_
          exact zw_iret ok_Se_findingAt rfl rfl (⟨rfl, rfl⟩)
        · rw [if_pos h30]
          refine zw_iconst ok_Se_findingAt rfl ?_
          refine zw_goto 38 ok_Se_findingAt rfl (by decide) ?_
          exact zw_iret ok_Se_findingAt rfl rfl (⟨rfl, rfl⟩)
      · rw [if_pos h14]
        refine zw_iconst ok_Se_findingAt rfl ?_
        exact zw_iret ok_Se_findingAt rfl rfl (⟨rfl, rfl⟩)
    · rw [if_pos h4]
      refine zw_iconst ok_Se_findingAt rfl ?_
      exact zw_iret ok_Se_findingAt rfl rfl (⟨rfl, rfl⟩)
  · refine zCt.of [some (vr 46), some (vi f), some (vi i)] ok_Se_findingAt (Nat.le_of_ble_eq_true rfl) rfl ?_
    refine zw_aload_n ok_Se_findingAt rfl rfl ?_
    refine zw_geti ok_Se_findingAt rfl fl_Se_15 rfl rfl ?_
    refine zw_if_eq 9 ok_Se_findingAt rfl (by decide) (by omega) (fun h4 => ?_) (fun h4 => ?_)
    · rw [if_neg (fun z => z h4)]
      refine zw_aload_n ok_Se_findingAt rfl rfl ?_
      refine zw_geti ok_Se_findingAt rfl fl_Se_25 rfl rfl ?_
      refine zw_iload_n ok_Se_findingAt rfl rfl ?_
      refine zw_icmp_eq 19 ok_Se_findingAt rfl (by decide) (by omega) (fun h14 => ?_) (fun h14 => ?_)
      · rw [if_neg (fun z => z h14)]
        refine zw_iload_n ok_Se_findingAt rfl rfl ?_
        refine zw_iconst ok_Se_findingAt rfl ?_
        refine zw_aload_n ok_Se_findingAt rfl rfl ?_
        refine zw_geti ok_Se_findingAt rfl fl_Se_29 rfl rfl ?_
        refine zw_iconst ok_Se_findingAt rfl ?_
        refine zw_isub ok_Se_findingAt rfl ?_
        refine zw_Nbp ok_Se_findingAt rfl ok_B_within lk_Se_32 (by decide) rfl (Nat.le_of_ble_eq_true rfl) (ct_B_within (by omega)) ?_
        refine zw_ifeq_d 37 ok_Se_findingAt rfl (by decide) (fun h30 => ?_) (fun h30 => ?_)
        · rw [if_neg h30]
          refine zw_iconst ok_Se_findingAt rfl ?_
          exact zw_iret ok_Se_findingAt rfl rfl (⟨rfl, rfl⟩)
        · rw [if_pos h30]
          refine zw_iconst ok_Se_findingAt rfl ?_
          refine zw_goto 38 ok_Se_findingAt rfl (by decide) ?_
          exact zw_iret ok_Se_findingAt rfl rfl (⟨rfl, rfl⟩)
      · rw [if_pos h14]
        refine zw_iconst ok_Se_findingAt rfl ?_
        exact zw_iret ok_Se_findingAt rfl rfl (⟨rfl, rfl⟩)
    · rw [if_pos h4]
      refine zw_iconst ok_Se_findingAt rfl ?_
      exact zw_iret ok_Se_findingAt rfl rfl (⟨rfl, rfl⟩)
theorem ct_Se_hasItems {k : Nat} {f n : Int} (hk : shK k) (hr : shR mem k) (hf : zR f) (hn : zR n) : zCbp m_Se_hasItems [vr k, vi f, vi n] mem (decide (0 ≤ f ∧ 0 ≤ n ∧ n ≤ mem k 3 - f)) := by
  obtain ⟨r1, r2, r3⟩ := hr
  rcases hk with rfl | rfl | rfl | rfl
  · refine zCt.of [some (vr 40), some (vi f), some (vi n)] ok_Se_hasItems (Nat.le_of_ble_eq_true rfl) rfl ?_
    refine zw_iload_n ok_Se_hasItems rfl rfl ?_
    refine zw_if_lt 22 ok_Se_hasItems rfl (by decide) (by omega) (fun h1 => ?_) (fun h1 => ?_)
    · refine zw_iconst ok_Se_hasItems rfl ?_
      exact zw_zret ok_Se_hasItems rfl rfl (by first | exact Or.inl rfl | exact Or.inr rfl | exact bi01 _) (⟨by first | rw [bi_t (by omega)] | rw [bi_f (by omega)], rfl⟩)
    · refine zw_iload_n ok_Se_hasItems rfl rfl ?_
      refine zw_if_lt 22 ok_Se_hasItems rfl (by decide) (by omega) (fun h5 => ?_) (fun h5 => ?_)
      · refine zw_iconst ok_Se_hasItems rfl ?_
        exact zw_zret ok_Se_hasItems rfl rfl (by first | exact Or.inl rfl | exact Or.inr rfl | exact bi01 _) (⟨by first | rw [bi_t (by omega)] | rw [bi_f (by omega)], rfl⟩)
      · refine zw_iload_n ok_Se_hasItems rfl rfl ?_
        refine zw_aload_n ok_Se_hasItems rfl rfl ?_
        refine zw_geti ok_Se_hasItems rfl fl_Se_29 rfl rfl ?_
        refine zw_iload_n ok_Se_hasItems rfl rfl ?_
        refine zw_isub ok_Se_hasItems rfl ?_
        refine zw_icmp_gt 22 ok_Se_hasItems rfl (by decide) (by omega) (fun h15 => ?_) (fun h15 => ?_)
        · refine zw_iconst ok_Se_hasItems rfl ?_
          exact zw_zret ok_Se_hasItems rfl rfl (by first | exact Or.inl rfl | exact Or.inr rfl | exact bi01 _) (⟨by first | rw [bi_t (by omega)] | rw [bi_f (by omega)], rfl⟩)
        · refine zw_iconst ok_Se_hasItems rfl ?_
          refine zw_goto 23 ok_Se_hasItems rfl (by decide) ?_
          exact zw_zret ok_Se_hasItems rfl rfl (by first | exact Or.inl rfl | exact Or.inr rfl | exact bi01 _) (⟨by first | rw [bi_t (by omega)] | rw [bi_f (by omega)], rfl⟩)
  · refine zCt.of [some (vr 42), some (vi f), some (vi n)] ok_Se_hasItems (Nat.le_of_ble_eq_true rfl) rfl ?_
    refine zw_iload_n ok_Se_hasItems rfl rfl ?_
    refine zw_if_lt 22 ok_Se_hasItems rfl (by decide) (by omega) (fun h1 => ?_) (fun h1 => ?_)
    · refine zw_iconst ok_Se_hasItems rfl ?_
      exact zw_zret ok_Se_hasItems rfl rfl (by first | exact Or.inl rfl | exact Or.inr rfl | exact bi01 _) (⟨by first | rw [bi_t (by omega)] | rw [bi_f (by omega)], rfl⟩)
    · refine zw_iload_n ok_Se_hasItems rfl rfl ?_
      refine zw_if_lt 22 ok_Se_hasItems rfl (by decide) (by omega) (fun h5 => ?_) (fun h5 => ?_)
      · refine zw_iconst ok_Se_hasItems rfl ?_
        exact zw_zret ok_Se_hasItems rfl rfl (by first | exact Or.inl rfl | exact Or.inr rfl | exact bi01 _) (⟨by first | rw [bi_t (by omega)] | rw [bi_f (by omega)], rfl⟩)
      · refine zw_iload_n ok_Se_hasItems rfl rfl ?_
        refine zw_aload_n ok_Se_hasItems rfl rfl ?_
        refine zw_geti ok_Se_hasItems rfl fl_Se_29 rfl rfl ?_
        refine zw_iload_n ok_Se_hasItems rfl rfl ?_
        refine zw_isub ok_Se_hasItems rfl ?_
        refine zw_icmp_gt 22 ok_Se_hasItems rfl (by decide) (by omega) (fun h15 => ?_) (fun h15 => ?_)
        · refine zw_iconst ok_Se_hasItems rfl ?_
          exact zw_zret ok_Se_hasItems rfl rfl (by first | exact Or.inl rfl | exact Or.inr rfl | exact bi01 _) (⟨by first | rw [bi_t (by omega)] | rw [bi_f (by omega)], rfl⟩)
        · refine zw_iconst ok_Se_hasItems rfl ?_
          refine zw_goto 23 ok_Se_hasItems rfl (by decide) ?_
          exact zw_zret ok_Se_hasItems rfl rfl (by first | exact Or.inl rfl | exact Or.inr rfl | exact bi01 _) (⟨by first | rw [bi_t (by omega)] | rw [bi_f (by omega)], rfl⟩)
  · refine zCt.of [some (vr 44), some (vi f), some (vi n)] ok_Se_hasItems (Nat.le_of_ble_eq_true rfl) rfl ?_
    refine zw_iload_n ok_Se_hasItems rfl rfl ?_
    refine zw_if_lt 22 ok_Se_hasItems rfl (by decide) (by omega) (fun h1 => ?_) (fun h1 => ?_)
    · refine zw_iconst ok_Se_hasItems rfl ?_
      exact zw_zret ok_Se_hasItems rfl rfl (by first | exact Or.inl rfl | exact Or.inr rfl | exact bi01 _) (⟨by first | rw [bi_t (by omega)] | rw [bi_f (by omega)], rfl⟩)
    · refine zw_iload_n ok_Se_hasItems rfl rfl ?_
      refine zw_if_lt 22 ok_Se_hasItems rfl (by decide) (by omega) (fun h5 => ?_) (fun h5 => ?_)
      · refine zw_iconst ok_Se_hasItems rfl ?_
        exact zw_zret ok_Se_hasItems rfl rfl (by first | exact Or.inl rfl | exact Or.inr rfl | exact bi01 _) (⟨by first | rw [bi_t (by omega)] | rw [bi_f (by omega)], rfl⟩)
      · refine zw_iload_n ok_Se_hasItems rfl rfl ?_
        refine zw_aload_n ok_Se_hasItems rfl rfl ?_
        refine zw_geti ok_Se_hasItems rfl fl_Se_29 rfl rfl ?_
        refine zw_iload_n ok_Se_hasItems rfl rfl ?_
        refine zw_isub ok_Se_hasItems rfl ?_
        refine zw_icmp_gt 22 ok_Se_hasItems rfl (by decide) (by omega) (fun h15 => ?_) (fun h15 => ?_)
        · refine zw_iconst ok_Se_hasItems rfl ?_
          exact zw_zret ok_Se_hasItems rfl rfl (by first | exact Or.inl rfl | exact Or.inr rfl | exact bi01 _) (⟨by first | rw [bi_t (by omega)] | rw [bi_f (by omega)], rfl⟩)
        · refine zw_iconst ok_Se_hasItems rfl ?_
          refine zw_goto 23 ok_Se_hasItems rfl (by decide) ?_
          exact zw_zret ok_Se_hasItems rfl rfl (by first | exact Or.inl rfl | exact Or.inr rfl | exact bi01 _) (⟨by first | rw [bi_t (by omega)] | rw [bi_f (by omega)], rfl⟩)
  · refine zCt.of [some (vr 46), some (vi f), some (vi n)] ok_Se_hasItems (Nat.le_of_ble_eq_true rfl) rfl ?_
    refine zw_iload_n ok_Se_hasItems rfl rfl ?_
    refine zw_if_lt 22 ok_Se_hasItems rfl (by decide) (by omega) (fun h1 => ?_) (fun h1 => ?_)
    · refine zw_iconst ok_Se_hasItems rfl ?_
      exact zw_zret ok_Se_hasItems rfl rfl (by first | exact Or.inl rfl | exact Or.inr rfl | exact bi01 _) (⟨by first | rw [bi_t (by omega)] | rw [bi_f (by omega)], rfl⟩)
    · refine zw_iload_n ok_Se_hasItems rfl rfl ?_
      refine zw_if_lt 22 ok_Se_hasItems rfl (by decide) (by omega) (fun h5 => ?_) (fun h5 => ?_)
      · refine zw_iconst ok_Se_hasItems rfl ?_
        exact zw_zret ok_Se_hasItems rfl rfl (by first | exact Or.inl rfl | exact Or.inr rfl | exact bi01 _) (⟨by first | rw [bi_t (by omega)] | rw [bi_f (by omega)], rfl⟩)
      · refine zw_iload_n ok_Se_hasItems rfl rfl ?_
        refine zw_aload_n ok_Se_hasItems rfl rfl ?_
        refine zw_geti ok_Se_hasItems rfl fl_Se_29 rfl rfl ?_
        refine zw_iload_n ok_Se_hasItems rfl rfl ?_
        refine zw_isub ok_Se_hasItems rfl ?_
        refine zw_icmp_gt 22 ok_Se_hasItems rfl (by decide) (by omega) (fun h15 => ?_) (fun h15 => ?_)
        · refine zw_iconst ok_Se_hasItems rfl ?_
          exact zw_zret ok_Se_hasItems rfl rfl (by first | exact Or.inl rfl | exact Or.inr rfl | exact bi01 _) (⟨by first | rw [bi_t (by omega)] | rw [bi_f (by omega)], rfl⟩)
        · refine zw_iconst ok_Se_hasItems rfl ?_
          refine zw_goto 23 ok_Se_hasItems rfl (by decide) ?_
          exact zw_zret ok_Se_hasItems rfl rfl (by first | exact Or.inl rfl | exact Or.inr rfl | exact bi01 _) (⟨by first | rw [bi_t (by omega)] | rw [bi_f (by omega)], rfl⟩)
theorem ct_Se_put {k : Nat} {i v : Int} (hk : shK k) (hr : shR mem k) (hi : 0 ≤ i ∧ i < 60) : zCvp m_Se_put [vr k, vi i, vi v] mem (zset mem (k + 1) i (cutS (mem k 2) v)) := by
  obtain ⟨r1, r2, r3⟩ := hr
  unfold cutS
  have h2 : mem k 2 = 0 ∨ mem k 2 = 1 ∨ mem k 2 = 2 := by omega
  rcases hk with rfl | rfl | rfl | rfl
  · refine zCt.of [some (vr 40), some (vi i), some (vi v)] ok_Se_put (Nat.le_of_ble_eq_true rfl) rfl ?_
    refine zw_aload_n ok_Se_put rfl rfl ?_
    refine zw_geti ok_Se_put rfl fl_Se_25 rfl rfl ?_
    rcases h2 with h2 | h2 | h2
    · rw [h2, if_pos rfl]
      refine zw_lsw 32 ok_Se_put rfl (by decide) (by decide) rfl (by decide) ?_
      refine zw_aload_n ok_Se_put rfl rfl ?_
      refine zw_getr ok_Se_put rfl fl_Se_9 rfl rfl ?_
      refine zw_iload_n ok_Se_put rfl rfl ?_
      refine zw_iload_n ok_Se_put rfl rfl ?_
      refine zw_i2b ok_Se_put rfl ?_
      refine zw_iast ok_Se_put rfl rfl (by omega) ?_
      refine zw_goto 61 ok_Se_put rfl (by decide) ?_
      exact zw_vret ok_Se_put rfl rfl (⟨rfl, rfl⟩)
    · rw [h2, if_neg (by decide), if_pos rfl]
      refine zw_lsw 43 ok_Se_put rfl (by decide) (by decide) rfl (by decide) ?_
      refine zw_aload_n ok_Se_put rfl rfl ?_
      refine zw_getr ok_Se_put rfl fl_Se_9 rfl rfl ?_
      refine zw_iload_n ok_Se_put rfl rfl ?_
      refine zw_iload_n ok_Se_put rfl rfl ?_
      refine zw_i2s ok_Se_put rfl ?_
      refine zw_iast ok_Se_put rfl rfl (by omega) ?_
      refine zw_goto 61 ok_Se_put rfl (by decide) ?_
      exact zw_vret ok_Se_put rfl rfl (⟨rfl, rfl⟩)
    · rw [h2, if_neg (by decide), if_neg (by decide)]
      refine zw_lsw 54 ok_Se_put rfl (by decide) (by decide) rfl (by decide) ?_
      refine zw_aload_n ok_Se_put rfl rfl ?_
      refine zw_getr ok_Se_put rfl fl_Se_9 rfl rfl ?_
      refine zw_iload_n ok_Se_put rfl rfl ?_
      refine zw_iload_n ok_Se_put rfl rfl ?_
      refine zw_iast ok_Se_put rfl rfl (by omega) ?_
      exact zw_vret ok_Se_put rfl rfl (⟨rfl, rfl⟩)
  · refine zCt.of [some (vr 42), some (vi i), some (vi v)] ok_Se_put (Nat.le_of_ble_eq_true rfl) rfl ?_
    refine zw_aload_n ok_Se_put rfl rfl ?_
    refine zw_geti ok_Se_put rfl fl_Se_25 rfl rfl ?_
    rcases h2 with h2 | h2 | h2
    · rw [h2, if_pos rfl]
      refine zw_lsw 32 ok_Se_put rfl (by decide) (by decide) rfl (by decide) ?_
      refine zw_aload_n ok_Se_put rfl rfl ?_
      refine zw_getr ok_Se_put rfl fl_Se_9 rfl rfl ?_
      refine zw_iload_n ok_Se_put rfl rfl ?_
      refine zw_iload_n ok_Se_put rfl rfl ?_
      refine zw_i2b ok_Se_put rfl ?_
      refine zw_iast ok_Se_put rfl rfl (by omega) ?_
      refine zw_goto 61 ok_Se_put rfl (by decide) ?_
      exact zw_vret ok_Se_put rfl rfl (⟨rfl, rfl⟩)
    · rw [h2, if_neg (by decide), if_pos rfl]
      refine zw_lsw 43 ok_Se_put rfl (by decide) (by decide) rfl (by decide) ?_
      refine zw_aload_n ok_Se_put rfl rfl ?_
      refine zw_getr ok_Se_put rfl fl_Se_9 rfl rfl ?_
      refine zw_iload_n ok_Se_put rfl rfl ?_
      refine zw_iload_n ok_Se_put rfl rfl ?_
      refine zw_i2s ok_Se_put rfl ?_
      refine zw_iast ok_Se_put rfl rfl (by omega) ?_
      refine zw_goto 61 ok_Se_put rfl (by decide) ?_
      exact zw_vret ok_Se_put rfl rfl (⟨rfl, rfl⟩)
    · rw [h2, if_neg (by decide), if_neg (by decide)]
      refine zw_lsw 54 ok_Se_put rfl (by decide) (by decide) rfl (by decide) ?_
      refine zw_aload_n ok_Se_put rfl rfl ?_
      refine zw_getr ok_Se_put rfl fl_Se_9 rfl rfl ?_
      refine zw_iload_n ok_Se_put rfl rfl ?_
      refine zw_iload_n ok_Se_put rfl rfl ?_
      refine zw_iast ok_Se_put rfl rfl (by omega) ?_
      exact zw_vret ok_Se_put rfl rfl (⟨rfl, rfl⟩)
  · refine zCt.of [some (vr 44), some (vi i), some (vi v)] ok_Se_put (Nat.le_of_ble_eq_true rfl) rfl ?_
    refine zw_aload_n ok_Se_put rfl rfl ?_
    refine zw_geti ok_Se_put rfl fl_Se_25 rfl rfl ?_
    rcases h2 with h2 | h2 | h2
    · rw [h2, if_pos rfl]
      refine zw_lsw 32 ok_Se_put rfl (by decide) (by decide) rfl (by decide) ?_
      refine zw_aload_n ok_Se_put rfl rfl ?_
      refine zw_getr ok_Se_put rfl fl_Se_9 rfl rfl ?_
      refine zw_iload_n ok_Se_put rfl rfl ?_
      refine zw_iload_n ok_Se_put rfl rfl ?_
      refine zw_i2b ok_Se_put rfl ?_
      refine zw_iast ok_Se_put rfl rfl (by omega) ?_
      refine zw_goto 61 ok_Se_put rfl (by decide) ?_
      exact zw_vret ok_Se_put rfl rfl (⟨rfl, rfl⟩)
    · rw [h2, if_neg (by decide), if_pos rfl]
      refine zw_lsw 43 ok_Se_put rfl (by decide) (by decide) rfl (by decide) ?_
      refine zw_aload_n ok_Se_put rfl rfl ?_
      refine zw_getr ok_Se_put rfl fl_Se_9 rfl rfl ?_
      refine zw_iload_n ok_Se_put rfl rfl ?_
      refine zw_iload_n ok_Se_put rfl rfl ?_
      refine zw_i2s ok_Se_put rfl ?_
      refine zw_iast ok_Se_put rfl rfl (by omega) ?_
      refine zw_goto 61 ok_Se_put rfl (by decide) ?_
      exact zw_vret ok_Se_put rfl rfl (⟨rfl, rfl⟩)
    · rw [h2, if_neg (by decide), if_neg (by decide)]
      refine zw_lsw 54 ok_Se_put rfl (by decide) (by decide) rfl (by decide) ?_
      refine zw_aload_n ok_Se_put rfl rfl ?_
      refine zw_getr ok_Se_put rfl fl_Se_9 rfl rfl ?_
      refine zw_iload_n ok_Se_put rfl rfl ?_
      refine zw_iload_n ok_Se_put rfl rfl ?_
      refine zw_iast ok_Se_put rfl rfl (by omega) ?_
      exact zw_vret ok_Se_put rfl rfl (⟨rfl, rfl⟩)
  · refine zCt.of [some (vr 46), some (vi i), some (vi v)] ok_Se_put (Nat.le_of_ble_eq_true rfl) rfl ?_
    refine zw_aload_n ok_Se_put rfl rfl ?_
    refine zw_geti ok_Se_put rfl fl_Se_25 rfl rfl ?_
    rcases h2 with h2 | h2 | h2
    · rw [h2, if_pos rfl]
      refine zw_lsw 32 ok_Se_put rfl (by decide) (by decide) rfl (by decide) ?_
      refine zw_aload_n ok_Se_put rfl rfl ?_
      refine zw_getr ok_Se_put rfl fl_Se_9 rfl rfl ?_
      refine zw_iload_n ok_Se_put rfl rfl ?_
      refine zw_iload_n ok_Se_put rfl rfl ?_
      refine zw_i2b ok_Se_put rfl ?_
      refine zw_iast ok_Se_put rfl rfl (by omega) ?_
      refine zw_goto 61 ok_Se_put rfl (by decide) ?_
      exact zw_vret ok_Se_put rfl rfl (⟨rfl, rfl⟩)
    · rw [h2, if_neg (by decide), if_pos rfl]
      refine zw_lsw 43 ok_Se_put rfl (by decide) (by decide) rfl (by decide) ?_
      refine zw_aload_n ok_Se_put rfl rfl ?_
      refine zw_getr ok_Se_put rfl fl_Se_9 rfl rfl ?_
      refine zw_iload_n ok_Se_put rfl rfl ?_
      refine zw_iload_n ok_Se_put rfl rfl ?_
      refine zw_i2s ok_Se_put rfl ?_
      refine zw_iast ok_Se_put rfl rfl (by omega) ?_
      refine zw_goto 61 ok_Se_put rfl (by decide) ?_
      exact zw_vret ok_Se_put rfl rfl (⟨rfl, rfl⟩)
    · rw [h2, if_neg (by decide), if_neg (by decide)]
      refine zw_lsw 54 ok_Se_put rfl (by decide) (by decide) rfl (by decide) ?_
      refine zw_aload_n ok_Se_put rfl rfl ?_
      refine zw_getr ok_Se_put rfl fl_Se_9 rfl rfl ?_
      refine zw_iload_n ok_Se_put rfl rfl ?_
      refine zw_iload_n ok_Se_put rfl rfl ?_
      refine zw_iast ok_Se_put rfl rfl (by omega) ?_
      exact zw_vret ok_Se_put rfl rfl (⟨rfl, rfl⟩)
end
end
section
/-! ===== what was told (tau), the class's invariant, the hours as told ===== -/
abbrev aP (τ : zMem) : Int := sP (τ 2 0) (τ 0)
abbrev aCan (τ : zMem) : Int → Int := sCan (τ 0)
abbrev aSt (τ : zMem) : Int → Int := sSt (τ 0)
abbrev aK (τ : zMem) : Int → Int := sK (τ 0)
abbrev aSr (τ : zMem) : Int → Int → Int := sStr (τ 2 1) (τ 1)
/-- the sheets' bounds -/
def shI (τ : zMem) : Prop := ∀ s, 0 ≤ s → s ≤ 3 → (-1 ≤ τ 11 s ∧ τ 11 s ≤ 2) ∧ (0 ≤ τ 12 s ∧ τ 12 s ≤ 60) ∧ ∀ i, 0 ≤ i → i < τ 12 s → τ 11 s ≠ -1 → zR (τ (13 + s.toNat) i)
theorem shI_of {τ τ2 : zMem} (h : ∀ k, 11 ≤ k → τ2 k = τ k) (hs : shI τ) : shI τ2 := by
  intro s q1 q2
  rw [h 11 (by omega), h 12 (by omega), h (13 + s.toNat) (by omega)]
  exact hs s q1 q2
/-- what was told keeps its bounds -/
def tauI (τ : zMem) : Prop :=
  ((0 ≤ τ 2 0 ∧ τ 2 0 ≤ 39) ∧ (0 ≤ τ 2 1 ∧ τ 2 1 ≤ 71) ∧ (0 ≤ τ 2 2 ∧ τ 2 2 ≤ 12) ∧ (0 ≤ τ 2 3 ∧ τ 2 3 ≤ 8) ∧ (0 ≤ τ 2 4 ∧ τ 2 4 ≤ 8) ∧ (0 ≤ τ 2 5 ∧ τ 2 5 ≤ 5)) ∧
  (∀ i, 0 ≤ i → i < τ 2 0 → 0 ≤ τ 0 i ∧ τ 0 i ≤ 255) ∧ (∀ i, 0 ≤ i → i < τ 2 1 → 0 ≤ τ 1 i ∧ τ 1 i ≤ 255) ∧
  (∀ k, 0 ≤ k → k < τ 2 2 → ((0 ≤ τ 3 k ∧ τ 3 k ≤ 7) ∧ (0 ≤ τ 4 k ∧ τ 4 k ≤ 7)) ∧ τ 3 k ≠ τ 4 k ∧ (1 ≤ τ 5 k ∧ τ 5 k ≤ 99)) ∧
  (∀ u, 0 ≤ u → u < τ 2 3 → (0 ≤ τ 6 u ∧ τ 6 u ≤ 11) ∧ (0 ≤ τ 7 u ∧ τ 7 u ≤ 7)) ∧
  (∀ i, 0 ≤ i → i < τ 2 4 → (0 ≤ τ 8 i ∧ τ 8 i ≤ 11) ∧ (0 ≤ τ 9 i ∧ τ 9 i ≤ 7) ∧ (0 ≤ τ 10 i ∧ τ 10 i ≤ 99)) ∧
  shI τ
/-- a sheet of the class -/
def shC (mem τ : zMem) (s : Int) : Prop := shR mem (40 + 2 * s.toNat) ∧ (mem (40 + 2 * s.toNat) 1 = 1 ↔ τ 11 s = -1) ∧ (τ 11 s ≠ -1 → mem (40 + 2 * s.toNat) 2 = τ 11 s) ∧ mem (40 + 2 * s.toNat) 3 = τ 12 s ∧ (τ 11 s ≠ -1 → ∀ i, 0 ≤ i → i < τ 12 s → mem (41 + 2 * s.toNat) i = τ (13 + s.toNat) i)
/-- the class's cells hold what was told -/
def CI (mem τ : zMem) : Prop :=
  tauI τ ∧ (tx0 mem (τ 2 0) (τ 0) ∧ tx1 mem (τ 2 1) (τ 1)) ∧ (pplC mem (τ 2 0) (τ 0) ∧ wlkC mem (τ 2 1) (τ 1)) ∧
  (mem 12 3 = τ 2 2 ∧ mem 16 3 = τ 2 3 ∧ mem 20 3 = τ 2 4 ∧ mem 0 13 = τ 2 5) ∧
  (∀ k, 0 ≤ k → k < τ 2 2 → mem 13 k = τ 3 k ∧ mem 14 k = τ 4 k ∧ mem 15 k = τ 5 k) ∧ (∀ u, 0 ≤ u → u < τ 2 3 → mem 17 u = τ 6 u ∧ mem 18 u = τ 7 u) ∧
  (∀ i, 0 ≤ i → i < τ 2 4 → mem 21 i = τ 8 i ∧ mem 22 i = τ 9 i ∧ mem 23 i = τ 10 i) ∧ (∀ s, 0 ≤ s → s ≤ 3 → shC mem τ s)
theorem CI_of {mem m2 τ : zMem} (h : zfr scr mem m2) (hI : CI mem τ) : CI m2 τ := by
  have hk : ∀ k, k ∉ scr → m2 k = mem k := h
  unfold CI shC tx0 tx1 pplC wlkC manC shR at *
  rw [hk 0 (by decide), hk 1 (by decide), hk 2 (by decide), hk 3 (by decide), hk 4 (by decide), hk 5 (by decide), hk 6 (by decide), hk 7 (by decide), hk 8 (by decide), hk 9 (by decide), hk 10 (by decide), hk 11 (by decide), hk 12 (by decide), hk 13 (by decide), hk 14 (by decide), hk 15 (by decide), hk 16 (by decide), hk 17 (by decide), hk 18 (by decide), hk 20 (by decide), hk 21 (by decide), hk 22 (by decide), hk 23 (by decide)]
  refine ⟨hI.1, hI.2.1, hI.2.2.1, hI.2.2.2.1, hI.2.2.2.2.1, hI.2.2.2.2.2.1, hI.2.2.2.2.2.2.1, fun s h0 h3 => ?_⟩
  have hs := hI.2.2.2.2.2.2.2 s h0 h3
  rw [hk (40 + 2 * s.toNat) (by simp; omega), hk (41 + 2 * s.toNat) (by simp; omega)]
  exact hs
theorem okC_CI {mem τ : zMem} (h : CI mem τ) : okC mem := by
  obtain ⟨⟨hb, h0, h1, ho, hu, hs, hsh⟩, ⟨t0, t1⟩, ⟨hp, hw⟩, ⟨e12, e16, e20, e0⟩, co, cu, cs, csh⟩ := h
  have hP := sP_r (n := τ 2 0) (t := τ 0) hb.1
  have eP := hp.1.1
  refine ⟨⟨by rw [eP]; exact hP, fun p q1 q2 => ?_, by rw [e16]; exact hb.2.2.2.1, fun u q1 q2 => ?_, by rw [e12]; exact hb.2.2.1, fun k q1 q2 => ?_⟩, ⟨by omega, by omega, fun p q1 q2 => ?_⟩, fun i q1 q2 => ?_, fun k q1 q2 => ?_⟩
  · rw [(hp.2 p q1 (by omega)).1.1]; exact (sMan hb.1 q1 (by omega)).1
  · rw [(cu u q1 (by omega)).1, (cu u q1 (by omega)).2]; exact hu u q1 (by omega)
  · rw [(co k q1 (by omega)).1, (co k q1 (by omega)).2.1]; exact (ho k q1 (by omega)).1
  · rw [(hp.2 p q1 (by omega)).1.2, (hp.2 p q1 (by omega)).2.2]
    have := sMan (t := τ 0) hb.1 q1 (by omega)
    exact ⟨this.2.1, this.2.2.2⟩
  · have := hw.2 (i / 8) (i % 8) (by omega) (by omega) (by omega) (by omega)
    rw [show i / 8 * 8 + i % 8 = i by omega] at this
    rw [this]
    exact sStr_r hb.2.1.1 _ _
  · rw [(co k q1 (by omega)).1, (co k q1 (by omega)).2.1, (co k q1 (by omega)).2.2]; exact (ho k q1 (by omega)).2
theorem sgh_CI {mem τ : zMem} (h : CI mem τ) : sghC mem := by
  obtain ⟨⟨hb, h0, h1, ho, hu, hs, hsh⟩, ⟨t0, t1⟩, ⟨hp, hw⟩, ⟨e12, e16, e20, e0⟩, co, cu, cs, csh⟩ := h
  refine ⟨by rw [e20]; exact hb.2.2.2.2.1, fun i q1 q2 => ?_⟩
  rw [(cs i q1 (by omega)).1, (cs i q1 (by omega)).2.1, (cs i q1 (by omega)).2.2]
  exact hs i q1 (by omega)
/-! who is not seen -/
def hidB (ll : Int) (uh uw : Int → Int) (h p : Int) : Nat → Int → Bool
  | 0, _ => false
  | k + 1, u => (!(tb ll u.toNat) && decide (uh u = h) && decide (uw u = p)) || hidB ll uh uw h p k (u + 1)
theorem hidB_ext {ll : Int} {uh uw uh2 uw2 : Int → Int} {h p : Int} : ∀ (k : Nat) (u : Int), (∀ j, u ≤ j → j < u + k → uh j = uh2 j ∧ uw j = uw2 j) → hidB ll uh uw h p k u = hidB ll uh2 uw2 h p k u
  | 0, _, _ => rfl
  | k + 1, u, he => by
    unfold hidB
    rw [(he u (by omega) (by omega)).1, (he u (by omega) (by omega)).2, hidB_ext k (u + 1) (fun j q1 q2 => he j (by omega) (by omega))]
theorem hid_lay {ll : Int} {uh uw : Int → Int} {h p : Int} (hp : 0 ≤ p ∧ p < 8) : ∀ (k : Nat) (u : Int) (hd : Int → Int), (∀ j, u ≤ j → j < u + k → 0 ≤ uw j ∧ uw j ≤ 7) → tb (lp (hdS ll uh uw) k u hd h) p.toNat = (tb (hd h) p.toNat || hidB ll uh uw h p k u)
  | 0, _, _, _ => by simp [lp, hidB]
  | k + 1, u, hd, hu => by
    rw [lp_s, hid_lay hp k (u + 1) _ (fun j q1 q2 => hu j (by omega) (by omega))]
    have hw := hu u (by omega) (by omega)
    show _ = (tb (hd h) p.toNat || ((!(tb ll u.toNat) && decide (uh u = h) && decide (uw u = p)) || hidB ll uh uw h p k (u + 1)))
    rw [← Bool.or_assoc]
    congr 1
    unfold hdS
    split
    · rename_i hl; simp [hl]
    · rename_i hl
      have hl : tb ll u.toNat = false := by simpa using hl
      by_cases e : h = uh u
      · subst e
        rw [zupd_eq, tb_or, tb_shl1 (by omega) (by omega)]
        congr 1
        simp only [hl, Bool.not_false, Bool.true_and, decide_true]
        by_cases e2 : uw u = p
        · subst e2; simp
        · have : ¬ p.toNat = (uw u).toNat := by omega
          simp [e2, this]
      · have : ¬ uh u = h := fun q => e q.symm
        rw [zupd_ne e]
        simp [this]
theorem cl_tb {t : Int → Int} {p : Int} (hp : 0 ≤ p ∧ p < 8) : ∀ (k : Nat) (i b : Int), 0 ≤ i → i + k ≤ 8 → tb (lp (clF t) k i b) p.toNat = (tb b p.toNat || decide (i ≤ p ∧ p < i + k ∧ sK t p = 2))
  | 0, i, b, h0, h8 => by
    have : ¬ (i ≤ p ∧ p < i + ((0 : Nat) : Int) ∧ sK t p = 2) := by omega
    simp only [this, decide_false, Bool.or_false]
    rfl
  | k + 1, i, b, h0, h8 => by
    rw [lp_s, cl_tb hp k (i + 1) _ (by omega) (by omega)]
    unfold clF
    by_cases e : p = i
    · subst e
      have n1 : ¬ (p + 1 ≤ p ∧ p < p + 1 + (k : Int) ∧ sK t p = 2) := by omega
      rw [decide_eq_false n1, Bool.or_false]
      split
      · rename_i h2
        have n2 : p ≤ p ∧ p < p + ((k + 1 : Nat) : Int) ∧ sK t p = 2 := ⟨by omega, by omega, h2⟩
        rw [decide_eq_true n2, tb_or, tb_shl1 (by omega) (by omega)]
        simp
      · rename_i h2
        have n2 : ¬ (p ≤ p ∧ p < p + ((k + 1 : Nat) : Int) ∧ sK t p = 2) := fun q => h2 q.2.2
        rw [decide_eq_false n2, Bool.or_false]
    · have e1 : tb (if sK t i = 2 then zor b (zshl 1 i) else b) p.toNat = tb b p.toNat := by
        split
        · rw [tb_or, tb_shl1 (by omega) (by omega)]
          have : ¬ p.toNat = i.toNat := by omega
          simp [this]
        · rfl
      rw [e1]
      congr 1
      apply decide_eq_decide.mpr
      constructor
      · intro q; exact ⟨by omega, by omega, q.2.2⟩
      · intro q; exact ⟨by omega, by omega, q.2.2⟩
def aHid (τ : zMem) (ll : Int) (h p : Int) : Bool := hidB ll (τ 6) (τ 7) h p (τ 2 3).toNat 0 || decide (sK (τ 0) p = 2)
/-- the bows that are due first, without old bow ol -/
def aDf (τ : zMem) (ol : Int) : Int → Int := lp (odS (aSt τ) ol (τ 3) (τ 4) (τ 5)) (τ 2 2).toNat 0 (efbS (aP τ) (aK τ) (fun _ => 0))
theorem layT {mem τ : zMem} (hI : CI mem τ) (ol ll : Int) (L : zL) : pEq (mem 5 4) (mem 7) (mem 9) (layS mem ol ll L).1 (fun h => zor ((layS mem ol ll L).2.1 h) (mem 5 5)) (aCan τ) (aSt τ) (aSr τ) (aHid τ ll) ∧ (∀ a b, 0 ≤ a → a < b → b < mem 5 4 → (layS mem ol ll L).2.2 (a * 8 + b) = aDf τ ol (a * 8 + b)) ∧ mem 5 4 = aP τ := by
  obtain ⟨⟨hb, h0, h1, ho, hu, hs, hsh⟩, ⟨t0, t1⟩, ⟨hp, hw⟩, ⟨e12, e16, e20, e0⟩, co, cu, cs, csh⟩ := hI
  have hP := sP_r (n := τ 2 0) (t := τ 0) hb.1
  have eP := hp.1.1
  refine ⟨⟨fun p q1 q2 => ⟨(hp.2 p q1 (by omega)).1.2, (hp.2 p q1 (by omega)).2.2⟩, fun h p q1 q2 q3 q4 => ?_, fun h p q1 q2 q3 q4 => ?_⟩, fun a b q1 q2 q3 => ?_, eP⟩
  · show zcpy (mem 11) L.1 0 0 96 (h * 8 + p) = _
    rw [zcpy96 (by omega)]
    exact hw.2 h p q1 q2 q3 (by omega)
  · show tb (zor (lp (hdS ll (mem 17) (mem 18)) (mem 16 3).toNat 0 (zfil 12 0 L.2.1) h) (mem 5 5)) p.toNat = _
    rw [tb_or, hid_lay (by omega) _ _ _ (fun j z1 z2 => by rw [(cu j z1 (by omega)).2]; exact (hu j z1 (by omega)).2), hp.1.2.1, cl_tb (by omega) _ _ _ (by omega) (by omega)]
    unfold zfil aHid
    rw [if_pos ⟨q1, q2⟩, tb_0, Bool.false_or, Bool.false_or, e16, hidB_ext _ _ (fun j z1 z2 => cu j z1 (by omega))]
    congr 1
    apply decide_eq_decide.mpr
    constructor
    · intro q; exact q.2.2
    · intro q; exact ⟨by omega, by omega, q⟩
  · show lp (odS (mem 9) ol (mem 13) (mem 14) (mem 15)) (mem 12 3).toNat 0 (efbS (mem 5 4) (mem 6) L.2.2) (a * 8 + b) = _
    unfold aDf
    rw [e12]
    have key := lp_rel (f := odS (mem 9) ol (mem 13) (mem 14) (mem 15)) (g := odS (aSt τ) ol (τ 3) (τ 4) (τ 5)) (R := fun x y : Int → Int => ∀ a b, 0 ≤ a → a < b → b < mem 5 4 → x (a * 8 + b) = y (a * 8 + b)) (τ 2 2).toNat 0 (efbS (mem 5 4) (mem 6) L.2.2) (efbS (aP τ) (aK τ) (fun _ => 0)) (fun j x y z1 z2 hxy a b q1 q2 q3 => ?_) (fun a b q1 q2 q3 => ?_)
    · exact key a b q1 q2 q3
    · have c := co j z1 (by omega)
      have o := ho j z1 (by omega)
      unfold odS eaS
      rw [c.1, c.2.1, c.2.2]
      split
      · exact hxy a b q1 q2 q3
      · have sa : mem 9 a = aSt τ a := (hp.2 a q1 (by omega)).2.2
        have sb : mem 9 b = aSt τ b := (hp.2 b (by omega) (by omega)).2.2
        split
        · by_cases e : a * 8 + b = τ 3 j * 8 + τ 4 j
          · have e1 : a = τ 3 j ∧ b = τ 4 j := by omega
            rw [e, zupd_eq, zupd_eq, ← e1.2, sb]
          · rw [zupd_ne e, zupd_ne e]; exact hxy a b q1 q2 q3
        · by_cases e : a * 8 + b = τ 4 j * 8 + τ 3 j
          · have e1 : a = τ 4 j ∧ b = τ 3 j := by omega
            rw [e, zupd_eq, zupd_eq, ← e1.1, sa]
          · rw [zupd_ne e, zupd_ne e]; exact hxy a b q1 q2 q3
    · rw [efb_at (by omega) q1 q2 q3, efb_at (show aP τ ≤ 8 from hP.2) q1 q2 (show b < sP (τ 2 0) (τ 0) by omega), (hp.2 a q1 (by omega)).1.1, (hp.2 b (by omega) (by omega)).1.1]
/-- the day as told, behind n hours -/
def aSim (τ : zMem) (ol ll : Int) (n : Nat) : zS := tWalk (aP τ) (aCan τ) (aSt τ) (aSr τ) (aHid τ ll) n (beg0 (aDf τ ol))
theorem simT {mem τ : zMem} (hI : CI mem τ) (ol ll : Int) {n : Nat} (hn : n ≤ 12) (L : zL) (d l : Int → Int) : eqP (aP τ) (walkS (mem 5 4) (mem 7) (mem 9) (layS mem ol ll L).1 (fun h => zor ((layS mem ol ll L).2.1 h) (mem 5 5)) n (begS (layS mem ol ll L).2.2 d l)) (aSim τ ol ll n) := by
  obtain ⟨h1, h2, h3⟩ := layT hI ol ll L
  have hC := okC_CI hI
  have := walk_t h1 hC.2.1.1 hn (begS_eq hC.2.1.2.1 h2 (d := d) (l := l))
  rw [h3] at this ⊢
  exact this
end
section
/-! ===== LowerBows: texts, ledgers ===== -/
/-- class cells only -/
def cls48 (mem m2 : zMem) : Prop := ∀ k, 48 ≤ k → m2 k = mem k
theorem cls48.tr {a b c : zMem} (h : cls48 a b) (h2 : cls48 b c) : cls48 a c := fun k hk => (h2 k hk).trans (h k hk)
theorem cls48.fr {L : List Nat} {a b : zMem} (h : zfr L a b) (hL : ∀ k ∈ L, k < 48) : cls48 a b := fun k hk => h k (fun q => by have := hL k q; omega)
theorem cls48.st {a : zMem} {k : Nat} {i v : Int} (hk : k < 48) : cls48 a (zset a k i v) := fun q hq => zset_ne (by omega)
section
variable {mem τ : zMem} {Q : Option zVal → zMem → Prop}
/-- behind a change of text 0 that people and walks' cells follow -/
theorem CI_t0 {m m2 τ2 : zMem} (hI : CI mem τ) (hτ : tauI τ2) (h1 : τ2 1 = τ 1) (hk : ∀ k, 3 ≤ k → τ2 k = τ k) (h2 : ∀ j, 1 ≤ j → τ2 2 j = τ 2 j) (hm : ∀ k, k ≠ 1 → k ≠ 2 → m k = mem k) (ht : tx0 m (τ2 2 0) (τ2 0)) (hp : pplC m2 (τ2 2 0) (τ2 0)) (hf : zfr [5, 6, 7, 8, 9] m m2) : CI m2 τ2 := by
  have hf2 : ∀ k, k ∉ [5, 6, 7, 8, 9] → k ≠ 1 → k ≠ 2 → m2 k = mem k := fun k a b c => (hf k a).trans (hm k b c)
  obtain ⟨-, ⟨t0, t1⟩, ⟨hp0, hw⟩, ⟨e12, e16, e20, e0⟩, co, cu, cs, csh⟩ := hI
  refine ⟨hτ, ⟨⟨?_, ht.2.1, ?_⟩, ?_⟩, ⟨hp, ?_⟩, ⟨?_, ?_, ?_, ?_⟩, ?_, ?_, ?_, ?_⟩
  · rw [hf 1 (by decide)]; exact ht.1
  · rw [hf 2 (by decide)]; exact ht.2.2
  · unfold tx1; rw [h2 1 (by decide), h1, hf2 3 (by decide) (by decide) (by decide), hf2 4 (by decide) (by decide) (by decide)]; exact t1
  · unfold wlkC; rw [h2 1 (by decide), h1, hf2 10 (by decide) (by decide) (by decide), hf2 11 (by decide) (by decide) (by decide)]; exact hw
  · rw [h2 2 (by decide), hf2 12 (by decide) (by decide) (by decide)]; exact e12
  · rw [h2 3 (by decide), hf2 16 (by decide) (by decide) (by decide)]; exact e16
  · rw [h2 4 (by decide), hf2 20 (by decide) (by decide) (by decide)]; exact e20
  · rw [h2 5 (by decide), hf2 0 (by decide) (by decide) (by decide)]; exact e0
  · rw [h2 2 (by decide), hk 3 (by decide), hk 4 (by decide), hk 5 (by decide), hf2 13 (by decide) (by decide) (by decide), hf2 14 (by decide) (by decide) (by decide), hf2 15 (by decide) (by decide) (by decide)]; exact co
  · rw [h2 3 (by decide), hk 6 (by decide), hk 7 (by decide), hf2 17 (by decide) (by decide) (by decide), hf2 18 (by decide) (by decide) (by decide)]; exact cu
  · rw [h2 4 (by decide), hk 8 (by decide), hk 9 (by decide), hk 10 (by decide), hf2 21 (by decide) (by decide) (by decide), hf2 22 (by decide) (by decide) (by decide), hf2 23 (by decide) (by decide) (by decide)]; exact cs
  · intro s q1 q2
    have := csh s q1 q2
    unfold shC shR at *
    rw [hk 11 (by decide), hk 12 (by decide), hk (13 + s.toNat) (by omega), hf2 (40 + 2 * s.toNat) (by simp; omega) (by omega) (by omega), hf2 (41 + 2 * s.toNat) (by simp; omega) (by omega) (by omega)]
    exact this
theorem CI_t1 {m m2 τ2 : zMem} (hI : CI mem τ) (hτ : tauI τ2) (h1 : τ2 0 = τ 0) (hk : ∀ k, 3 ≤ k → τ2 k = τ k) (h2 : ∀ j, j ≠ 1 → τ2 2 j = τ 2 j) (hm : ∀ k, k ≠ 3 → k ≠ 4 → m k = mem k) (ht : tx1 m (τ2 2 1) (τ2 1)) (hp : wlkC m2 (τ2 2 1) (τ2 1)) (hf : zfr [10, 11] m m2) : CI m2 τ2 := by
  have hf2 : ∀ k, k ∉ [10, 11] → k ≠ 3 → k ≠ 4 → m2 k = mem k := fun k a b c => (hf k a).trans (hm k b c)
  obtain ⟨-, ⟨t0, t1⟩, ⟨hp0, hw⟩, ⟨e12, e16, e20, e0⟩, co, cu, cs, csh⟩ := hI
  refine ⟨hτ, ⟨?_, ⟨?_, ht.2.1, ?_⟩⟩, ⟨?_, hp⟩, ⟨?_, ?_, ?_, ?_⟩, ?_, ?_, ?_, ?_⟩
  · unfold tx0; rw [h2 0 (by decide), h1, hf2 1 (by decide) (by decide) (by decide), hf2 2 (by decide) (by decide) (by decide)]; exact t0
  · rw [hf 3 (by decide)]; exact ht.1
  · rw [hf 4 (by decide)]; exact ht.2.2
  · unfold pplC manC; rw [h2 0 (by decide), h1, hf2 5 (by decide) (by decide) (by decide), hf2 6 (by decide) (by decide) (by decide), hf2 7 (by decide) (by decide) (by decide), hf2 8 (by decide) (by decide) (by decide), hf2 9 (by decide) (by decide) (by decide)]; exact hp0
  · rw [h2 2 (by decide), hf2 12 (by decide) (by decide) (by decide)]; exact e12
  · rw [h2 3 (by decide), hf2 16 (by decide) (by decide) (by decide)]; exact e16
  · rw [h2 4 (by decide), hf2 20 (by decide) (by decide) (by decide)]; exact e20
  · rw [h2 5 (by decide), hf2 0 (by decide) (by decide) (by decide)]; exact e0
  · rw [h2 2 (by decide), hk 3 (by decide), hk 4 (by decide), hk 5 (by decide), hf2 13 (by decide) (by decide) (by decide), hf2 14 (by decide) (by decide) (by decide), hf2 15 (by decide) (by decide) (by decide)]; exact co
  · rw [h2 3 (by decide), hk 6 (by decide), hk 7 (by decide), hf2 17 (by decide) (by decide) (by decide), hf2 18 (by decide) (by decide) (by decide)]; exact cu
  · rw [h2 4 (by decide), hk 8 (by decide), hk 9 (by decide), hk 10 (by decide), hf2 21 (by decide) (by decide) (by decide), hf2 22 (by decide) (by decide) (by decide), hf2 23 (by decide) (by decide) (by decide)]; exact cs
  · intro s q1 q2
    have := csh s q1 q2
    unfold shC shR at *
    rw [hk 11 (by decide), hk 12 (by decide), hk (13 + s.toNat) (by omega), hf2 (40 + 2 * s.toNat) (by simp; omega) (by omega) (by omega), hf2 (41 + 2 * s.toNat) (by simp; omega) (by omega) (by omega)]
    exact this
theorem ct_B_readAgain0 {n : Int} {t : Int → Int} (h : tx0 mem n t) : zCv m_B_readAgain [vr 0, vi 0] mem (fun m2 => pplC m2 n t ∧ zfr [5, 6, 7, 8, 9] mem m2) := by
  refine zCt.of [some (vr 0), some (vi 0)] ok_B_readAgain (Nat.le_of_ble_eq_true rfl) rfl ?_
  refine zw_iload_n ok_B_readAgain rfl rfl ?_
  refine zw_if_ne 18 ok_B_readAgain rfl (by decide) (by omega) (fun h1 => ?_) (fun h1 => ?_)
  · exact absurd rfl h1
  · refine zw_aload_n ok_B_readAgain rfl rfl ?_
    refine zw_getr ok_B_readAgain rfl fl_B_24 rfl rfl ?_
    refine zw_aload_n ok_B_readAgain rfl rfl ?_
    refine zw_getr ok_B_readAgain rfl fl_B_14 rfl rfl ?_
    refine zw_Vv ok_B_readAgain rfl ok_Pe_take lk_B_332 (by decide) rfl rfl (Nat.le_of_ble_eq_true rfl) (ct_Pe_take h) (fun m12 h12 => ?_)
    refine zw_goto 29 ok_B_readAgain rfl (by decide) ?_
    exact zw_vret ok_B_readAgain rfl rfl (⟨rfl, h12⟩)
theorem ct_B_readAgain1 {n : Int} {t : Int → Int} (h : tx1 mem n t) : zCv m_B_readAgain [vr 0, vi 1] mem (fun m2 => wlkC m2 n t ∧ zfr [10, 11] mem m2) := by
  refine zCt.of [some (vr 0), some (vi 1)] ok_B_readAgain (Nat.le_of_ble_eq_true rfl) rfl ?_
  refine zw_iload_n ok_B_readAgain rfl rfl ?_
  refine zw_if_ne 18 ok_B_readAgain rfl (by decide) (by omega) (fun h1 => ?_) (fun h1 => ?_)
  · refine zw_aload_n ok_B_readAgain rfl rfl ?_
    refine zw_getr ok_B_readAgain rfl fl_B_31 rfl rfl ?_
    refine zw_aload_n ok_B_readAgain rfl rfl ?_
    refine zw_getr ok_B_readAgain rfl fl_B_18 rfl rfl ?_
    refine zw_Vv ok_B_readAgain rfl ok_Wa_take lk_B_336 (by decide) rfl rfl (Nat.le_of_ble_eq_true rfl) (ct_Wa_take h) (fun m26 h26 => ?_)
    exact zw_vret ok_B_readAgain rfl rfl (⟨rfl, h26⟩)
  · exact absurd h1 (by decide)
/-! a text with one byte more, none, one less -/
def cap (t : Int) : Int := if t = 0 then 39 else 71
def typT (τ : zMem) (t b : Int) : zMem := zset (zset τ t.toNat (τ 2 t) b) 2 t (τ 2 t + 1)
def sizT (τ : zMem) (t n : Int) : zMem := zset τ 2 t n
theorem typT_I {t b : Int} (hτ : tauI τ) (ht : t = 0 ∨ t = 1) (hb : 0 ≤ b ∧ b ≤ 255) (hc : τ 2 t < cap t) : tauI (typT τ t b) := by
  obtain ⟨hb0, h0, h1, ho, hu, hs, hsh⟩ := hτ
  unfold cap at hc
  rcases ht with rfl | rfl
  · rw [if_pos rfl] at hc
    refine ⟨⟨?_, hb0.2⟩, ?_, h1, ho, hu, hs, shI_of (fun k hk => by first | (show zset _ _ _ _ k = _; rw [zset_ne (by omega), zset_ne (show k ≠ Int.toNat _ by simp; omega)]) | exact zset_ne (by omega)) hsh⟩
    · show 0 ≤ τ 2 0 + 1 ∧ τ 2 0 + 1 ≤ 39; omega
    · intro i q1 q2
      have q2 : i < τ 2 0 + 1 := q2
      show 0 ≤ zupd (τ 0) (τ 2 0) b i ∧ zupd (τ 0) (τ 2 0) b i ≤ 255
      by_cases e : i = τ 2 0
      · subst e; rw [zupd_eq]; exact hb
      · rw [zupd_ne e]; exact h0 i q1 (by omega)
  · rw [if_neg (by decide)] at hc
    refine ⟨⟨hb0.1, ?_, hb0.2.2⟩, h0, ?_, ho, hu, hs, shI_of (fun k hk => by first | (show zset _ _ _ _ k = _; rw [zset_ne (by omega), zset_ne (show k ≠ Int.toNat _ by simp; omega)]) | exact zset_ne (by omega)) hsh⟩
    · show 0 ≤ τ 2 1 + 1 ∧ τ 2 1 + 1 ≤ 71; omega
    · intro i q1 q2
      have q2 : i < τ 2 1 + 1 := q2
      show 0 ≤ zupd (τ 1) (τ 2 1) b i ∧ zupd (τ 1) (τ 2 1) b i ≤ 255
      by_cases e : i = τ 2 1
      · subst e; rw [zupd_eq]; exact hb
      · rw [zupd_ne e]; exact h1 i q1 (by omega)
theorem sizT_I {t n : Int} (hτ : tauI τ) (ht : t = 0 ∨ t = 1) (hn : 0 ≤ n ∧ n ≤ τ 2 t) : tauI (sizT τ t n) := by
  obtain ⟨hb0, h0, h1, ho, hu, hs, hsh⟩ := hτ
  rcases ht with rfl | rfl
  · refine ⟨⟨?_, hb0.2⟩, ?_, h1, ho, hu, hs, shI_of (fun k hk => by first | (show zset _ _ _ _ k = _; rw [zset_ne (by omega), zset_ne (show k ≠ Int.toNat _ by simp; omega)]) | exact zset_ne (by omega)) hsh⟩
    · show 0 ≤ n ∧ n ≤ 39; omega
    · intro i q1 q2
      have q2 : i < n := q2
      exact h0 i q1 (by omega)
  · refine ⟨⟨hb0.1, ?_, hb0.2.2⟩, h0, ?_, ho, hu, hs, shI_of (fun k hk => by first | (show zset _ _ _ _ k = _; rw [zset_ne (by omega), zset_ne (show k ≠ Int.toNat _ by simp; omega)]) | exact zset_ne (by omega)) hsh⟩
    · show 0 ≤ n ∧ n ≤ 71; omega
    · intro i q1 q2
      have q2 : i < n := q2
      exact h1 i q1 (by omega)
end
end
section
/-! ===== LowerBows: type, wipe, undo, fault, person, street ===== -/
def qType (τ : zMem) (t b : Int) : Int := if (0 ≤ t ∧ t ≤ 1) ∧ (0 ≤ b ∧ b ≤ 255) then (if τ 2 t < cap t then τ 2 t + 1 else -4) else -2
def nType (τ : zMem) (t b : Int) : zMem := if ((0 ≤ t ∧ t ≤ 1) ∧ (0 ≤ b ∧ b ≤ 255)) ∧ τ 2 t < cap t then typT τ t b else τ
def qWipe (τ : zMem) (t : Int) : Int := if 0 ≤ t ∧ t ≤ 1 then τ 2 t else -2
def nWipe (τ : zMem) (t : Int) : zMem := if 0 ≤ t ∧ t ≤ 1 then sizT τ t 0 else τ
def qUndo (τ : zMem) (t : Int) : Int := if 0 ≤ t ∧ t ≤ 1 then (if τ 2 t = 0 then -3 else τ 2 t - 1) else -2
def nUndo (τ : zMem) (t : Int) : zMem := if (0 ≤ t ∧ t ≤ 1) ∧ τ 2 t ≠ 0 then sizT τ t (τ 2 t - 1) else τ
def qFault (τ : zMem) (t : Int) : Int := if 0 ≤ t ∧ t ≤ 1 then (if t = 0 then sFp (τ 2 0) (τ 0) else sFw (τ 2 1) (τ 1)) else -2
def qPerson (τ : zMem) (p w : Int) : Int := if 0 ≤ p ∧ p < aP τ then (if w = 0 then sK (τ 0) p else if w = 1 then sCan (τ 0) p else if w = 2 then sLo (τ 0) p else -2) else -2
def qStreet (τ : zMem) (h p : Int) : Int := if (0 ≤ h ∧ h ≤ 11) ∧ (0 ≤ p ∧ p < aP τ) then aSr τ h p else -2
section
variable {mem τ : zMem}
theorem tx0_typ {b : Int} (h : tx0 mem (τ 2 0) (τ 0)) (hb : 0 ≤ b ∧ b ≤ 255) (hc : τ 2 0 < 39) : tx0 (zset (zset mem 2 (mem 1 1) b) 1 1 (mem 1 1 + 1)) (typT τ 0 b 2 0) (typT τ 0 b 0) := by
  obtain ⟨e, hn, ht⟩ := h
  refine ⟨?_, ?_, fun i q1 q2 => ?_⟩
  · show mem 1 1 + 1 = τ 2 0 + 1; rw [e]
  · show 0 ≤ τ 2 0 + 1 ∧ τ 2 0 + 1 ≤ 39; omega
  · have q2 : i < τ 2 0 + 1 := q2
    show zupd (mem 2) (mem 1 1) b i = zupd (τ 0) (τ 2 0) b i ∧ 0 ≤ zupd (τ 0) (τ 2 0) b i ∧ zupd (τ 0) (τ 2 0) b i ≤ 255
    rw [e]
    by_cases ei : i = τ 2 0
    · subst ei; rw [zupd_eq, zupd_eq]; exact ⟨rfl, hb⟩
    · rw [zupd_ne ei, zupd_ne ei]; exact ht i q1 (by omega)
theorem tx1_typ {b : Int} (h : tx1 mem (τ 2 1) (τ 1)) (hb : 0 ≤ b ∧ b ≤ 255) (hc : τ 2 1 < 71) : tx1 (zset (zset mem 4 (mem 3 1) b) 3 1 (mem 3 1 + 1)) (typT τ 1 b 2 1) (typT τ 1 b 1) := by
  obtain ⟨e, hn, ht⟩ := h
  refine ⟨?_, ?_, fun i q1 q2 => ?_⟩
  · show mem 3 1 + 1 = τ 2 1 + 1; rw [e]
  · show 0 ≤ τ 2 1 + 1 ∧ τ 2 1 + 1 ≤ 71; omega
  · have q2 : i < τ 2 1 + 1 := q2
    show zupd (mem 4) (mem 3 1) b i = zupd (τ 1) (τ 2 1) b i ∧ 0 ≤ zupd (τ 1) (τ 2 1) b i ∧ zupd (τ 1) (τ 2 1) b i ≤ 255
    rw [e]
    by_cases ei : i = τ 2 1
    · subst ei; rw [zupd_eq, zupd_eq]; exact ⟨rfl, hb⟩
    · rw [zupd_ne ei, zupd_ne ei]; exact ht i q1 (by omega)
theorem tx0_siz {n v : Int} (h : tx0 mem (τ 2 0) (τ 0)) (hn : 0 ≤ n ∧ n ≤ τ 2 0) (hv : v = n) : tx0 (zset mem 1 1 v) (sizT τ 0 n 2 0) (sizT τ 0 n 0) := by
  obtain ⟨e, hn2, ht⟩ := h
  refine ⟨hv, ?_, fun i q1 q2 => ?_⟩
  · show 0 ≤ n ∧ n ≤ 39; omega
  · have q2 : i < n := q2
    exact ht i q1 (by omega)
theorem tx1_siz {n v : Int} (h : tx1 mem (τ 2 1) (τ 1)) (hn : 0 ≤ n ∧ n ≤ τ 2 1) (hv : v = n) : tx1 (zset mem 3 1 v) (sizT τ 1 n 2 1) (sizT τ 1 n 1) := by
  obtain ⟨e, hn2, ht⟩ := h
  refine ⟨hv, ?_, fun i q1 q2 => ?_⟩
  · show 0 ≤ n ∧ n ≤ 71; omega
  · have q2 : i < n := q2
    exact ht i q1 (by omega)
theorem CI_typ0 {b : Int} {m2 : zMem} (hI : CI mem τ) (hb : 0 ≤ b ∧ b ≤ 255) (hc : τ 2 0 < 39) (h : pplC m2 (typT τ 0 b 2 0) (typT τ 0 b 0) ∧ zfr [5, 6, 7, 8, 9] (zset (zset mem 2 (mem 1 1) b) 1 1 (mem 1 1 + 1)) m2) : CI m2 (typT τ 0 b) ∧ cls48 mem m2 := by
  refine ⟨CI_t0 hI (typT_I hI.1 (Or.inl rfl) hb (by unfold cap; rw [if_pos rfl]; exact hc)) rfl (fun k hk => ?_) (fun j hj => ?_) (fun k h1 h2 => ?_) (tx0_typ hI.2.1.1 hb hc) h.1 h.2, (cls48.tr (cls48.st (by omega)) (cls48.st (by omega))).tr (cls48.fr h.2 (by decide))⟩
  · show zset (zset τ 0 (τ 2 0) b) 2 0 (τ 2 0 + 1) k = τ k
    rw [zset_ne (by omega), zset_ne (by omega)]
  · show zupd (τ 2) 0 (τ 2 0 + 1) j = τ 2 j
    exact zupd_ne (by omega)
  · rw [zset_ne h1, zset_ne h2]
theorem CI_typ1 {b : Int} {m2 : zMem} (hI : CI mem τ) (hb : 0 ≤ b ∧ b ≤ 255) (hc : τ 2 1 < 71) (h : wlkC m2 (typT τ 1 b 2 1) (typT τ 1 b 1) ∧ zfr [10, 11] (zset (zset mem 4 (mem 3 1) b) 3 1 (mem 3 1 + 1)) m2) : CI m2 (typT τ 1 b) ∧ cls48 mem m2 := by
  refine ⟨CI_t1 hI (typT_I hI.1 (Or.inr rfl) hb (by unfold cap; rw [if_neg (by decide)]; exact hc)) rfl (fun k hk => ?_) (fun j hj => ?_) (fun k h1 h2 => ?_) (tx1_typ hI.2.1.2 hb hc) h.1 h.2, (cls48.tr (cls48.st (by omega)) (cls48.st (by omega))).tr (cls48.fr h.2 (by decide))⟩
  · show zset (zset τ 1 (τ 2 1) b) 2 1 (τ 2 1 + 1) k = τ k
    rw [zset_ne (by omega), zset_ne (by omega)]
  · show zupd (τ 2) 1 (τ 2 1 + 1) j = τ 2 j
    exact zupd_ne (by omega)
  · rw [zset_ne h1, zset_ne h2]
theorem CI_siz0 {n v : Int} {m2 : zMem} (hI : CI mem τ) (hn : 0 ≤ n ∧ n ≤ τ 2 0) (hv : v = n) (h : pplC m2 (sizT τ 0 n 2 0) (sizT τ 0 n 0) ∧ zfr [5, 6, 7, 8, 9] (zset mem 1 1 v) m2) : CI m2 (sizT τ 0 n) ∧ cls48 mem m2 := by
  refine ⟨CI_t0 hI (sizT_I hI.1 (Or.inl rfl) hn) rfl (fun k hk => ?_) (fun j hj => ?_) (fun k h1 h2 => zset_ne h1) (tx0_siz hI.2.1.1 hn hv) h.1 h.2, (cls48.st (by omega)).tr (cls48.fr h.2 (by decide))⟩
  · exact zset_ne (by omega)
  · show zupd (τ 2) 0 n j = τ 2 j
    exact zupd_ne (by omega)
theorem CI_siz1 {n v : Int} {m2 : zMem} (hI : CI mem τ) (hn : 0 ≤ n ∧ n ≤ τ 2 1) (hv : v = n) (h : wlkC m2 (sizT τ 1 n 2 1) (sizT τ 1 n 1) ∧ zfr [10, 11] (zset mem 3 1 v) m2) : CI m2 (sizT τ 1 n) ∧ cls48 mem m2 := by
  refine ⟨CI_t1 hI (sizT_I hI.1 (Or.inr rfl) hn) rfl (fun k hk => ?_) (fun j hj => ?_) (fun k h1 h2 => zset_ne h1) (tx1_siz hI.2.1.2 hn hv) h.1 h.2, (cls48.st (by omega)).tr (cls48.fr h.2 (by decide))⟩
  · exact zset_ne (by omega)
  · show zupd (τ 2) 1 n j = τ 2 j
    exact zupd_ne (by omega)
theorem ct_B_type {t b : Int} (hI : CI mem τ) (ht : zR t) (hb : zR b) : zCi m_B_type [vr 0, vi t, vi b] mem (qType τ t b) (fun m2 => CI m2 (nType τ t b) ∧ cls48 mem m2) := by
  refine zCt.of [some (vr 0), some (vi t), some (vi b), none] ok_B_type (Nat.le_of_ble_eq_true rfl) rfl ?_
  have e0 := hI.2.1.1.1
  have e1 := hI.2.1.2.1
  have b0 := hI.1.1.1
  have b1 := hI.1.1.2.1
  unfold qType nType cap
  by_cases hg : (0 ≤ t ∧ t ≤ 1) ∧ (0 ≤ b ∧ b ≤ 255)
  · rw [if_pos hg]
    have hb2 := hg.2
    have : t = 0 ∨ t = 1 := by omega
    rcases this with rfl | rfl
    · rw [if_pos rfl]
      refine zw_iload_n ok_B_type rfl rfl ?_
      refine zw_Sbp ok_B_type rfl ok_B_isText lk_B_96 (by decide) rfl (Nat.le_of_ble_eq_true rfl) (ct_B_isText (by omega)) ?_
      first | refine zw_ifeq_d 18 ok_B_type rfl (by decide) (fun h4 => ?_) (fun h4 => ?_) | refine zw_ifeq_b 18 ok_B_type rfl (by decide) (fun h4 => ?_) (fun h4 => ?_) | refine zw_if_eq 18 ok_B_type rfl (by decide) (by omega) (fun h4 => ?_) (fun h4 => ?_)
      · exact absurd hg.1 h4
      · refine zw_iload_n ok_B_type rfl rfl ?_
        refine zw_iconst ok_B_type rfl ?_
        refine zw_sipush ok_B_type rfl (by decide) ?_
        refine zw_Sbp ok_B_type rfl ok_B_within lk_B_100 (by decide) rfl (Nat.le_of_ble_eq_true rfl) (ct_B_within (by omega)) ?_
        first | refine zw_ifne_d 21 ok_B_type rfl (by decide) (fun h15 => ?_) (fun h15 => ?_) | refine zw_ifne_b 21 ok_B_type rfl (by decide) (fun h15 => ?_) (fun h15 => ?_) | refine zw_if_ne 21 ok_B_type rfl (by decide) (by omega) (fun h15 => ?_) (fun h15 => ?_)
        · refine zw_aload_n ok_B_type rfl rfl ?_
          refine zw_iload_n ok_B_type rfl rfl ?_
          refine zw_Vrp ok_B_type rfl ok_B_textOf lk_B_104 (by decide) rfl rfl (Nat.le_of_ble_eq_true rfl) (ct_B_textOf (by omega)) ?_
          rw [if_pos rfl]
          refine zw_astore_n ok_B_type rfl rfl (by decide) ?_
          refine zw_aload_n ok_B_type rfl rfl ?_
          refine zw_geti ok_B_type rfl fl_B_108 rfl rfl ?_
          refine zw_aload_n ok_B_type rfl rfl ?_
          refine zw_getr ok_B_type rfl fl_B_112 rfl rfl ?_
          refine zw_alen ok_B_type rfl rfl (by decide) ?_
          refine zw_icmp_lt 42 ok_B_type rfl (by decide) (by omega) (fun h36 => ?_) (fun h36 => ?_)
          · have hc : τ 2 0 < 39 := by omega
            rw [if_pos hc, if_pos ⟨hg, hc⟩]
            refine zw_aload_n ok_B_type rfl rfl ?_
            refine zw_iload_n ok_B_type rfl rfl ?_
            refine zw_Vv ok_B_type rfl ok_Tx_append lk_B_116 (by decide) rfl rfl (Nat.le_of_ble_eq_true rfl) (ct_Tx_append (Or.inl ⟨rfl, rfl⟩) (by omega)) (fun m44 h44 => ?_)
            subst h44
            refine zw_aload_n ok_B_type rfl rfl ?_
            refine zw_iload_n ok_B_type rfl rfl ?_
            refine zw_Vv ok_B_type rfl ok_B_readAgain lk_B_119 (by decide) rfl rfl (Nat.le_of_ble_eq_true rfl) (ct_B_readAgain0 (tx0_typ hI.2.1.1 hb2 hc)) (fun m49 h49 => ?_)
            refine zw_aload_n ok_B_type rfl rfl ?_
            refine zw_geti ok_B_type rfl fl_B_108 rfl rfl ?_
            rw [h49.2 1 (by decide), zset_eq, zupd_eq]
            exact zw_iret ok_B_type rfl rfl (⟨by rw [e0], CI_typ0 hI hb2 hc h49⟩)
          · rw [if_neg (by omega), if_neg (by omega)]
            refine zw_bipush ok_B_type rfl (by decide) ?_
            exact zw_iret ok_B_type rfl rfl (⟨rfl, hI, fun _ _ => rfl⟩)
        · exact absurd hg.2 h15
    · rw [show (if (1 : Int) = 0 then (39 : Int) else 71) = 71 from rfl]
      refine zw_iload_n ok_B_type rfl rfl ?_
      refine zw_Sbp ok_B_type rfl ok_B_isText lk_B_96 (by decide) rfl (Nat.le_of_ble_eq_true rfl) (ct_B_isText (by omega)) ?_
      first | refine zw_ifeq_d 18 ok_B_type rfl (by decide) (fun h4 => ?_) (fun h4 => ?_) | refine zw_ifeq_b 18 ok_B_type rfl (by decide) (fun h4 => ?_) (fun h4 => ?_) | refine zw_if_eq 18 ok_B_type rfl (by decide) (by omega) (fun h4 => ?_) (fun h4 => ?_)
      · exact absurd hg.1 h4
      · refine zw_iload_n ok_B_type rfl rfl ?_
        refine zw_iconst ok_B_type rfl ?_
        refine zw_sipush ok_B_type rfl (by decide) ?_
        refine zw_Sbp ok_B_type rfl ok_B_within lk_B_100 (by decide) rfl (Nat.le_of_ble_eq_true rfl) (ct_B_within (by omega)) ?_
        first | refine zw_ifne_d 21 ok_B_type rfl (by decide) (fun h15 => ?_) (fun h15 => ?_) | refine zw_ifne_b 21 ok_B_type rfl (by decide) (fun h15 => ?_) (fun h15 => ?_) | refine zw_if_ne 21 ok_B_type rfl (by decide) (by omega) (fun h15 => ?_) (fun h15 => ?_)
        · refine zw_aload_n ok_B_type rfl rfl ?_
          refine zw_iload_n ok_B_type rfl rfl ?_
          refine zw_Vrp ok_B_type rfl ok_B_textOf lk_B_104 (by decide) rfl rfl (Nat.le_of_ble_eq_true rfl) (ct_B_textOf (by omega)) ?_
          rw [if_neg (by decide)]
          refine zw_astore_n ok_B_type rfl rfl (by decide) ?_
          refine zw_aload_n ok_B_type rfl rfl ?_
          refine zw_geti ok_B_type rfl fl_B_108 rfl rfl ?_
          refine zw_aload_n ok_B_type rfl rfl ?_
          refine zw_getr ok_B_type rfl fl_B_112 rfl rfl ?_
          refine zw_alen ok_B_type rfl rfl (by decide) ?_
          refine zw_icmp_lt 42 ok_B_type rfl (by decide) (by omega) (fun h36 => ?_) (fun h36 => ?_)
          · have hc : τ 2 1 < 71 := by omega
            rw [if_pos hc, if_pos ⟨hg, hc⟩]
            refine zw_aload_n ok_B_type rfl rfl ?_
            refine zw_iload_n ok_B_type rfl rfl ?_
            refine zw_Vv ok_B_type rfl ok_Tx_append lk_B_116 (by decide) rfl rfl (Nat.le_of_ble_eq_true rfl) (ct_Tx_append (Or.inr ⟨rfl, rfl⟩) (by omega)) (fun m44 h44 => ?_)
            subst h44
            refine zw_aload_n ok_B_type rfl rfl ?_
            refine zw_iload_n ok_B_type rfl rfl ?_
            refine zw_Vv ok_B_type rfl ok_B_readAgain lk_B_119 (by decide) rfl rfl (Nat.le_of_ble_eq_true rfl) (ct_B_readAgain1 (tx1_typ hI.2.1.2 hb2 hc)) (fun m49 h49 => ?_)
            refine zw_aload_n ok_B_type rfl rfl ?_
            refine zw_geti ok_B_type rfl fl_B_108 rfl rfl ?_
            rw [h49.2 3 (by decide), zset_eq, zupd_eq]
            exact zw_iret ok_B_type rfl rfl (⟨by rw [e1], CI_typ1 hI hb2 hc h49⟩)
          · rw [if_neg (by omega), if_neg (by omega)]
            refine zw_bipush ok_B_type rfl (by decide) ?_
            exact zw_iret ok_B_type rfl rfl (⟨rfl, hI, fun _ _ => rfl⟩)
        · exact absurd hg.2 h15
  · rw [if_neg hg, if_neg (fun q => hg q.1)]
    refine zw_iload_n ok_B_type rfl rfl ?_
    refine zw_Sbp ok_B_type rfl ok_B_isText lk_B_96 (by decide) rfl (Nat.le_of_ble_eq_true rfl) (ct_B_isText (by omega)) ?_
    first | refine zw_ifeq_d 18 ok_B_type rfl (by decide) (fun h4 => ?_) (fun h4 => ?_) | refine zw_ifeq_b 18 ok_B_type rfl (by decide) (fun h4 => ?_) (fun h4 => ?_) | refine zw_if_eq 18 ok_B_type rfl (by decide) (by omega) (fun h4 => ?_) (fun h4 => ?_)
    · refine zw_bipush ok_B_type rfl (by decide) ?_
      exact zw_iret ok_B_type rfl rfl (⟨rfl, hI, fun _ _ => rfl⟩)
    · refine zw_iload_n ok_B_type rfl rfl ?_
      refine zw_iconst ok_B_type rfl ?_
      refine zw_sipush ok_B_type rfl (by decide) ?_
      refine zw_Sbp ok_B_type rfl ok_B_within lk_B_100 (by decide) rfl (Nat.le_of_ble_eq_true rfl) (ct_B_within (by omega)) ?_
      first | refine zw_ifne_d 21 ok_B_type rfl (by decide) (fun h15 => ?_) (fun h15 => ?_) | refine zw_ifne_b 21 ok_B_type rfl (by decide) (fun h15 => ?_) (fun h15 => ?_) | refine zw_if_ne 21 ok_B_type rfl (by decide) (by omega) (fun h15 => ?_) (fun h15 => ?_)
      · exact absurd ⟨h4, h15⟩ hg
      · refine zw_bipush ok_B_type rfl (by decide) ?_
        exact zw_iret ok_B_type rfl rfl (⟨rfl, hI, fun _ _ => rfl⟩)
theorem ct_B_wipe {t : Int} (hI : CI mem τ) (ht : zR t) : zCi m_B_wipe [vr 0, vi t] mem (qWipe τ t) (fun m2 => CI m2 (nWipe τ t) ∧ cls48 mem m2) := by
  refine zCt.of [some (vr 0), some (vi t), none, none] ok_B_wipe (Nat.le_of_ble_eq_true rfl) rfl ?_
  have e0 := hI.2.1.1.1
  have e1 := hI.2.1.2.1
  have b0 := hI.1.1.1
  have b1 := hI.1.1.2.1
  unfold qWipe nWipe
  by_cases hg : 0 ≤ t ∧ t ≤ 1
  · rw [if_pos hg, if_pos hg]
    have : t = 0 ∨ t = 1 := by omega
    rcases this with rfl | rfl
    · refine zw_iload_n ok_B_wipe rfl rfl ?_
      refine zw_Sbp ok_B_wipe rfl ok_B_isText lk_B_96 (by decide) rfl (Nat.le_of_ble_eq_true rfl) (ct_B_isText (by omega)) ?_
      first | refine zw_ifne_d 10 ok_B_wipe rfl (by decide) (fun h4 => ?_) (fun h4 => ?_) | refine zw_ifne_b 10 ok_B_wipe rfl (by decide) (fun h4 => ?_) (fun h4 => ?_) | refine zw_if_ne 10 ok_B_wipe rfl (by decide) (by omega) (fun h4 => ?_) (fun h4 => ?_)
      · refine zw_aload_n ok_B_wipe rfl rfl ?_
        refine zw_iload_n ok_B_wipe rfl rfl ?_
        refine zw_Vrp ok_B_wipe rfl ok_B_textOf lk_B_104 (by decide) rfl rfl (Nat.le_of_ble_eq_true rfl) (ct_B_textOf (by omega)) ?_
        rw [if_pos rfl]
        refine zw_astore_n ok_B_wipe rfl rfl (by decide) ?_
        refine zw_aload_n ok_B_wipe rfl rfl ?_
        refine zw_geti ok_B_wipe rfl fl_B_108 rfl rfl ?_
        refine zw_istore_n ok_B_wipe rfl rfl (by decide) ?_
        refine zw_aload_n ok_B_wipe rfl rfl ?_
        refine zw_iconst ok_B_wipe rfl ?_
        refine zw_puti ok_B_wipe rfl fp_B_108 rfl rfl ?_
        refine zw_aload_n ok_B_wipe rfl rfl ?_
        refine zw_iload_n ok_B_wipe rfl rfl ?_
        refine zw_Vv ok_B_wipe rfl ok_B_readAgain lk_B_119 (by decide) rfl rfl (Nat.le_of_ble_eq_true rfl) (ct_B_readAgain0 (tx0_siz (v := 0) (n := 0) hI.2.1.1 (by omega) rfl)) (fun m28 h28 => ?_)
        refine zw_iload_n ok_B_wipe rfl rfl ?_
        exact zw_iret ok_B_wipe rfl rfl (⟨by rw [e0], CI_siz0 hI (by omega) rfl h28⟩)
      · exact absurd hg h4
    · refine zw_iload_n ok_B_wipe rfl rfl ?_
      refine zw_Sbp ok_B_wipe rfl ok_B_isText lk_B_96 (by decide) rfl (Nat.le_of_ble_eq_true rfl) (ct_B_isText (by omega)) ?_
      first | refine zw_ifne_d 10 ok_B_wipe rfl (by decide) (fun h4 => ?_) (fun h4 => ?_) | refine zw_ifne_b 10 ok_B_wipe rfl (by decide) (fun h4 => ?_) (fun h4 => ?_) | refine zw_if_ne 10 ok_B_wipe rfl (by decide) (by omega) (fun h4 => ?_) (fun h4 => ?_)
      · refine zw_aload_n ok_B_wipe rfl rfl ?_
        refine zw_iload_n ok_B_wipe rfl rfl ?_
        refine zw_Vrp ok_B_wipe rfl ok_B_textOf lk_B_104 (by decide) rfl rfl (Nat.le_of_ble_eq_true rfl) (ct_B_textOf (by omega)) ?_
        rw [if_neg (by decide)]
        refine zw_astore_n ok_B_wipe rfl rfl (by decide) ?_
        refine zw_aload_n ok_B_wipe rfl rfl ?_
        refine zw_geti ok_B_wipe rfl fl_B_108 rfl rfl ?_
        refine zw_istore_n ok_B_wipe rfl rfl (by decide) ?_
        refine zw_aload_n ok_B_wipe rfl rfl ?_
        refine zw_iconst ok_B_wipe rfl ?_
        refine zw_puti ok_B_wipe rfl fp_B_108 rfl rfl ?_
        refine zw_aload_n ok_B_wipe rfl rfl ?_
        refine zw_iload_n ok_B_wipe rfl rfl ?_
        refine zw_Vv ok_B_wipe rfl ok_B_readAgain lk_B_119 (by decide) rfl rfl (Nat.le_of_ble_eq_true rfl) (ct_B_readAgain1 (tx1_siz (v := 0) (n := 0) hI.2.1.2 (by omega) rfl)) (fun m28 h28 => ?_)
        refine zw_iload_n ok_B_wipe rfl rfl ?_
        exact zw_iret ok_B_wipe rfl rfl (⟨by rw [e1], CI_siz1 hI (by omega) rfl h28⟩)
      · exact absurd hg h4
  · rw [if_neg hg, if_neg hg]
    refine zw_iload_n ok_B_wipe rfl rfl ?_
    refine zw_Sbp ok_B_wipe rfl ok_B_isText lk_B_96 (by decide) rfl (Nat.le_of_ble_eq_true rfl) (ct_B_isText (by omega)) ?_
    first | refine zw_ifne_d 10 ok_B_wipe rfl (by decide) (fun h4 => ?_) (fun h4 => ?_) | refine zw_ifne_b 10 ok_B_wipe rfl (by decide) (fun h4 => ?_) (fun h4 => ?_) | refine zw_if_ne 10 ok_B_wipe rfl (by decide) (by omega) (fun h4 => ?_) (fun h4 => ?_)
    · exact absurd h4 hg
    · refine zw_bipush ok_B_wipe rfl (by decide) ?_
      exact zw_iret ok_B_wipe rfl rfl (⟨rfl, hI, fun _ _ => rfl⟩)
theorem ct_B_undo {t : Int} (hI : CI mem τ) (ht : zR t) : zCi m_B_undo [vr 0, vi t] mem (qUndo τ t) (fun m2 => CI m2 (nUndo τ t) ∧ cls48 mem m2) := by
  refine zCt.of [some (vr 0), some (vi t), none] ok_B_undo (Nat.le_of_ble_eq_true rfl) rfl ?_
  have e0 := hI.2.1.1.1
  have e1 := hI.2.1.2.1
  have b0 := hI.1.1.1
  have b1 := hI.1.1.2.1
  unfold qUndo nUndo
  by_cases hg : 0 ≤ t ∧ t ≤ 1
  · rw [if_pos hg]
    have : t = 0 ∨ t = 1 := by omega
    rcases this with rfl | rfl
    · refine zw_iload_n ok_B_undo rfl rfl ?_
      refine zw_Sbp ok_B_undo rfl ok_B_isText lk_B_96 (by decide) rfl (Nat.le_of_ble_eq_true rfl) (ct_B_isText (by omega)) ?_
      first | refine zw_ifne_d 10 ok_B_undo rfl (by decide) (fun h4 => ?_) (fun h4 => ?_) | refine zw_ifne_b 10 ok_B_undo rfl (by decide) (fun h4 => ?_) (fun h4 => ?_) | refine zw_if_ne 10 ok_B_undo rfl (by decide) (by omega) (fun h4 => ?_) (fun h4 => ?_)
      · refine zw_aload_n ok_B_undo rfl rfl ?_
        refine zw_iload_n ok_B_undo rfl rfl ?_
        refine zw_Vrp ok_B_undo rfl ok_B_textOf lk_B_104 (by decide) rfl rfl (Nat.le_of_ble_eq_true rfl) (ct_B_textOf (by omega)) ?_
        rw [if_pos rfl]
        refine zw_astore_n ok_B_undo rfl rfl (by decide) ?_
        refine zw_aload_n ok_B_undo rfl rfl ?_
        refine zw_geti ok_B_undo rfl fl_B_108 rfl rfl ?_
        refine zw_if_ne 26 ok_B_undo rfl (by decide) (by omega) (fun h20 => ?_) (fun h20 => ?_)
        · rw [if_neg (by omega), if_pos ⟨hg, by omega⟩]
          refine zw_aload_n ok_B_undo rfl rfl ?_
          first | refine zw_dupi ok_B_undo rfl ?_ | refine zw_dupr ok_B_undo rfl ?_
          refine zw_geti ok_B_undo rfl fl_B_108 rfl rfl ?_
          refine zw_iconst ok_B_undo rfl ?_
          refine zw_isub ok_B_undo rfl ?_
          refine zw_puti ok_B_undo rfl fp_B_108 rfl rfl ?_
          refine zw_aload_n ok_B_undo rfl rfl ?_
          refine zw_iload_n ok_B_undo rfl rfl ?_
          refine zw_Vv ok_B_undo rfl ok_B_readAgain lk_B_119 (by decide) rfl rfl (Nat.le_of_ble_eq_true rfl) (ct_B_readAgain0 (tx0_siz (v := mem 1 1 - 1) (n := τ 2 0 - 1) hI.2.1.1 (by omega) (by omega))) (fun m38 h38 => ?_)
          refine zw_aload_n ok_B_undo rfl rfl ?_
          refine zw_geti ok_B_undo rfl fl_B_108 rfl rfl ?_
          rw [h38.2 1 (by decide), zset_eq, zupd_eq]
          exact zw_iret ok_B_undo rfl rfl (⟨by rw [e0], CI_siz0 hI (by omega) (by omega) h38⟩)
        · rw [if_pos (by omega), if_neg (by omega)]
          refine zw_bipush ok_B_undo rfl (by decide) ?_
          exact zw_iret ok_B_undo rfl rfl (⟨rfl, hI, fun _ _ => rfl⟩)
      · exact absurd hg h4
    · refine zw_iload_n ok_B_undo rfl rfl ?_
      refine zw_Sbp ok_B_undo rfl ok_B_isText lk_B_96 (by decide) rfl (Nat.le_of_ble_eq_true rfl) (ct_B_isText (by omega)) ?_
      first | refine zw_ifne_d 10 ok_B_undo rfl (by decide) (fun h4 => ?_) (fun h4 => ?_) | refine zw_ifne_b 10 ok_B_undo rfl (by decide) (fun h4 => ?_) (fun h4 => ?_) | refine zw_if_ne 10 ok_B_undo rfl (by decide) (by omega) (fun h4 => ?_) (fun h4 => ?_)
      · refine zw_aload_n ok_B_undo rfl rfl ?_
        refine zw_iload_n ok_B_undo rfl rfl ?_
        refine zw_Vrp ok_B_undo rfl ok_B_textOf lk_B_104 (by decide) rfl rfl (Nat.le_of_ble_eq_true rfl) (ct_B_textOf (by omega)) ?_
        rw [if_neg (by decide)]
        refine zw_astore_n ok_B_undo rfl rfl (by decide) ?_
        refine zw_aload_n ok_B_undo rfl rfl ?_
        refine zw_geti ok_B_undo rfl fl_B_108 rfl rfl ?_
        refine zw_if_ne 26 ok_B_undo rfl (by decide) (by omega) (fun h20 => ?_) (fun h20 => ?_)
        · rw [if_neg (by omega), if_pos ⟨hg, by omega⟩]
          refine zw_aload_n ok_B_undo rfl rfl ?_
          first | refine zw_dupi ok_B_undo rfl ?_ | refine zw_dupr ok_B_undo rfl ?_
          refine zw_geti ok_B_undo rfl fl_B_108 rfl rfl ?_
          refine zw_iconst ok_B_undo rfl ?_
          refine zw_isub ok_B_undo rfl ?_
          refine zw_puti ok_B_undo rfl fp_B_108 rfl rfl ?_
          refine zw_aload_n ok_B_undo rfl rfl ?_
          refine zw_iload_n ok_B_undo rfl rfl ?_
          refine zw_Vv ok_B_undo rfl ok_B_readAgain lk_B_119 (by decide) rfl rfl (Nat.le_of_ble_eq_true rfl) (ct_B_readAgain1 (tx1_siz (v := mem 3 1 - 1) (n := τ 2 1 - 1) hI.2.1.2 (by omega) (by omega))) (fun m38 h38 => ?_)
          refine zw_aload_n ok_B_undo rfl rfl ?_
          refine zw_geti ok_B_undo rfl fl_B_108 rfl rfl ?_
          rw [h38.2 3 (by decide), zset_eq, zupd_eq]
          exact zw_iret ok_B_undo rfl rfl (⟨by rw [e1], CI_siz1 hI (by omega) (by omega) h38⟩)
        · rw [if_pos (by omega), if_neg (by omega)]
          refine zw_bipush ok_B_undo rfl (by decide) ?_
          exact zw_iret ok_B_undo rfl rfl (⟨rfl, hI, fun _ _ => rfl⟩)
      · exact absurd hg h4
  · rw [if_neg hg, if_neg (fun q => hg q.1)]
    refine zw_iload_n ok_B_undo rfl rfl ?_
    refine zw_Sbp ok_B_undo rfl ok_B_isText lk_B_96 (by decide) rfl (Nat.le_of_ble_eq_true rfl) (ct_B_isText (by omega)) ?_
    first | refine zw_ifne_d 10 ok_B_undo rfl (by decide) (fun h4 => ?_) (fun h4 => ?_) | refine zw_ifne_b 10 ok_B_undo rfl (by decide) (fun h4 => ?_) (fun h4 => ?_) | refine zw_if_ne 10 ok_B_undo rfl (by decide) (by omega) (fun h4 => ?_) (fun h4 => ?_)
    · exact absurd h4 hg
    · refine zw_bipush ok_B_undo rfl (by decide) ?_
      exact zw_iret ok_B_undo rfl rfl (⟨rfl, hI, fun _ _ => rfl⟩)
theorem ct_B_fault {t : Int} (hI : CI mem τ) (ht : zR t) : zCip m_B_fault [vr 0, vi t] mem (qFault τ t) := by
  refine zCt.of [some (vr 0), some (vi t)] ok_B_fault (Nat.le_of_ble_eq_true rfl) rfl ?_
  have e0 := hI.2.2.1.1.1.2.2
  have e1 := hI.2.2.1.2.1.2
  unfold qFault
  refine zw_iload_n ok_B_fault rfl rfl ?_
  refine zw_Sbp ok_B_fault rfl ok_B_isText lk_B_96 (by decide) rfl (Nat.le_of_ble_eq_true rfl) (ct_B_isText (by omega)) ?_
  first | refine zw_ifne_d 10 ok_B_fault rfl (by decide) (fun h4 => ?_) (fun h4 => ?_) | refine zw_ifne_b 10 ok_B_fault rfl (by decide) (fun h4 => ?_) (fun h4 => ?_) | refine zw_if_ne 10 ok_B_fault rfl (by decide) (by omega) (fun h4 => ?_) (fun h4 => ?_)
  · rw [if_pos h4]
    refine zw_iload_n ok_B_fault rfl rfl ?_
    refine zw_if_ne 24 ok_B_fault rfl (by decide) (by omega) (fun h11 => ?_) (fun h11 => ?_)
    · rw [if_neg h11]
      refine zw_aload_n ok_B_fault rfl rfl ?_
      refine zw_getr ok_B_fault rfl fl_B_31 rfl rfl ?_
      refine zw_geti ok_B_fault rfl fl_B_125 rfl rfl ?_
      rw [e1]
      exact zw_iret ok_B_fault rfl rfl (⟨rfl, rfl⟩)
    · rw [if_pos h11]
      refine zw_aload_n ok_B_fault rfl rfl ?_
      refine zw_getr ok_B_fault rfl fl_B_24 rfl rfl ?_
      refine zw_geti ok_B_fault rfl fl_B_122 rfl rfl ?_
      rw [e0]
      refine zw_goto 31 ok_B_fault rfl (by decide) ?_
      exact zw_iret ok_B_fault rfl rfl (⟨rfl, rfl⟩)
  · rw [if_neg h4]
    refine zw_bipush ok_B_fault rfl (by decide) ?_
    exact zw_iret ok_B_fault rfl rfl (⟨rfl, rfl⟩)
theorem isP_CI (hI : CI mem τ) : 0 ≤ mem 5 4 ∧ mem 5 4 ≤ 8 := (okC_CI hI).1.1
theorem eP_CI (hI : CI mem τ) : mem 5 4 = aP τ := hI.2.2.1.1.1.1
theorem ct_B_person {p w : Int} (hI : CI mem τ) (hp : zR p) (hw : zR w) : zCip m_B_person [vr 0, vi p, vi w] mem (qPerson τ p w) := by
  refine zCt.of [some (vr 0), some (vi p), some (vi w)] ok_B_person (Nat.le_of_ble_eq_true rfl) rfl ?_
  have hP := isP_CI hI
  have eP := eP_CI hI
  unfold qPerson
  rw [← eP]
  have fin : (0 ≤ p ∧ p ≤ mem 5 4 - 1) → AW m_B_person 11 [some (vr 0), some (vi p), some (vi w)] [] mem (fun r m2 => r = some (vi (if 0 ≤ p ∧ p < mem 5 4 then (if w = 0 then sK (τ 0) p else if w = 1 then sCan (τ 0) p else if w = 2 then sLo (τ 0) p else -2) else -2)) ∧ m2 = mem) := by
    intro hg
    have hm := hI.2.2.1.1.2 p hg.1 (show p < aP τ by omega)
    rw [if_pos (by omega)]
    refine zw_iload_n ok_B_person rfl rfl ?_
    by_cases w0 : w = 0
    · subst w0
      refine zw_tin 40 ok_B_person rfl (by decide) (by decide) rfl (by decide) ?_
      rw [if_pos rfl, ← hm.1.1]
      refine zw_aload_n ok_B_person rfl rfl ?_
      refine zw_getr ok_B_person rfl fl_B_24 rfl rfl ?_
      refine zw_getr ok_B_person rfl fl_B_129 rfl rfl ?_
      refine zw_iload_n ok_B_person rfl rfl ?_
      refine zw_iald ok_B_person rfl rfl (by omega) ?_
      exact zw_iret ok_B_person rfl rfl (⟨rfl, rfl⟩)
    · rw [if_neg w0]
      by_cases w1 : w = 1
      · subst w1
        refine zw_tin 50 ok_B_person rfl (by decide) (by decide) rfl (by decide) ?_
        rw [if_pos rfl, ← hm.1.2]
        refine zw_aload_n ok_B_person rfl rfl ?_
        refine zw_getr ok_B_person rfl fl_B_24 rfl rfl ?_
        refine zw_getr ok_B_person rfl fl_B_132 rfl rfl ?_
        refine zw_iload_n ok_B_person rfl rfl ?_
        refine zw_iald ok_B_person rfl rfl (by omega) ?_
        exact zw_iret ok_B_person rfl rfl (⟨rfl, rfl⟩)
      · rw [if_neg w1]
        by_cases w2 : w = 2
        · subst w2
          refine zw_tin 60 ok_B_person rfl (by decide) (by decide) rfl (by decide) ?_
          rw [if_pos rfl, ← hm.2.1]
          refine zw_aload_n ok_B_person rfl rfl ?_
          refine zw_getr ok_B_person rfl fl_B_24 rfl rfl ?_
          refine zw_getr ok_B_person rfl fl_B_135 rfl rfl ?_
          refine zw_iload_n ok_B_person rfl rfl ?_
          refine zw_iald ok_B_person rfl rfl (by omega) ?_
          exact zw_iret ok_B_person rfl rfl (⟨rfl, rfl⟩)
        · rw [if_neg w2]
          refine zw_tout 70 ok_B_person rfl hw (by omega) (by decide) ?_
          refine zw_bipush ok_B_person rfl (by decide) ?_
          exact zw_iret ok_B_person rfl rfl (⟨rfl, rfl⟩)
  refine zw_aload_n ok_B_person rfl rfl ?_
  refine zw_iload_n ok_B_person rfl rfl ?_
  refine zw_Vbp ok_B_person rfl ok_B_isPerson lk_B_126 (by decide) rfl rfl (Nat.le_of_ble_eq_true rfl) (ct_B_isPerson ⟨hp, hP⟩) ?_
  refine zw_ifne_d 11 ok_B_person rfl (by decide) (fun h5 => ?_) (fun h5 => ?_)
  · exact fin h5
  · refine zw_bipush ok_B_person rfl (by decide) ?_
    exact zw_iret ok_B_person rfl rfl (⟨by rw [if_neg (by omega)], rfl⟩)
theorem ct_B_street {h p : Int} (hI : CI mem τ) (hh : zR h) (hp : zR p) : zCip m_B_street [vr 0, vi h, vi p] mem (qStreet τ h p) := by
  refine zCt.of [some (vr 0), some (vi h), some (vi p)] ok_B_street (Nat.le_of_ble_eq_true rfl) rfl ?_
  have hP := isP_CI hI
  have eP := eP_CI hI
  unfold qStreet
  rw [← eP]
  refine zw_iload_n ok_B_street rfl rfl ?_
  refine zw_Sbp ok_B_street rfl ok_B_isHour lk_B_138 (by decide) rfl (Nat.le_of_ble_eq_true rfl) (ct_B_isHour (by omega)) ?_
  refine zw_ifeq_d 15 ok_B_street rfl (by decide) (fun h4 => ?_) (fun h4 => ?_)
  · refine zw_bipush ok_B_street rfl (by decide) ?_
    exact zw_iret ok_B_street rfl rfl (⟨by rw [if_neg (by omega)], rfl⟩)
  · refine zw_aload_n ok_B_street rfl rfl ?_
    refine zw_iload_n ok_B_street rfl rfl ?_
    refine zw_Vbp ok_B_street rfl ok_B_isPerson lk_B_126 (by decide) rfl rfl (Nat.le_of_ble_eq_true rfl) (ct_B_isPerson ⟨hp, hP⟩) ?_
    refine zw_ifne_d 18 ok_B_street rfl (by decide) (fun h12 => ?_) (fun h12 => ?_)
    · refine zw_aload_n ok_B_street rfl rfl ?_
      refine zw_getr ok_B_street rfl fl_B_31 rfl rfl ?_
      refine zw_getr ok_B_street rfl fl_B_141 rfl rfl ?_
      refine zw_iload_n ok_B_street rfl rfl ?_
      refine zw_bipush ok_B_street rfl (by decide) ?_
      refine zw_imul ok_B_street rfl ?_
      refine zw_iload_n ok_B_street rfl rfl ?_
      refine zw_iadd ok_B_street rfl ?_
      refine zw_iald ok_B_street rfl rfl (by omega) ?_
      exact zw_iret ok_B_street rfl rfl (⟨by rw [if_pos (by omega)]; rw [hI.2.2.1.2.2 h p h4.1 (by omega) h12.1 (by omega)], rfl⟩)
    · refine zw_bipush ok_B_street rfl (by decide) ?_
      exact zw_iret ok_B_street rfl rfl (⟨by rw [if_neg (by omega)], rfl⟩)
end
end
section
/-! ===== LowerBows: old, umbrella, back, seen, forget ===== -/
section
variable {mem τ m2 τ2 : zMem}
theorem CI_old (hI : CI mem τ) (hτ : tauI τ2) (hm : ∀ k, k ∉ [12, 13, 14, 15] → m2 k = mem k) (hk : ∀ k, k ∉ [2, 3, 4, 5] → τ2 k = τ k) (h2 : ∀ j, j ≠ 2 → τ2 2 j = τ 2 j) (e : m2 12 3 = τ2 2 2) (co2 : ∀ k, 0 ≤ k → k < τ2 2 2 → m2 13 k = τ2 3 k ∧ m2 14 k = τ2 4 k ∧ m2 15 k = τ2 5 k) : CI m2 τ2 := by
  obtain ⟨-, ⟨t0, t1⟩, ⟨hp0, hw⟩, ⟨e12, e16, e20, e0⟩, co, cu, cs, csh⟩ := hI
  refine ⟨hτ, ⟨?_, ?_⟩, ⟨?_, ?_⟩, ⟨e, ?_, ?_, ?_⟩, co2, ?_, ?_, fun s q1 q2 => ?_⟩
  · unfold tx0; rw [h2 0 (by decide), hk 0 (by decide), hm 1 (by decide), hm 2 (by decide)]; exact t0
  · unfold tx1; rw [h2 1 (by decide), hk 1 (by decide), hm 3 (by decide), hm 4 (by decide)]; exact t1
  · unfold pplC manC; rw [h2 0 (by decide), hk 0 (by decide), hm 5 (by decide), hm 6 (by decide), hm 7 (by decide), hm 8 (by decide), hm 9 (by decide)]; exact hp0
  · unfold wlkC; rw [h2 1 (by decide), hk 1 (by decide), hm 10 (by decide), hm 11 (by decide)]; exact hw
  · rw [h2 3 (by decide), hm 16 (by decide)]; exact e16
  · rw [h2 4 (by decide), hm 20 (by decide)]; exact e20
  · rw [h2 5 (by decide), hm 0 (by decide)]; exact e0
  · rw [h2 3 (by decide), hk 6 (by decide), hk 7 (by decide), hm 17 (by decide), hm 18 (by decide)]; exact cu
  · rw [h2 4 (by decide), hk 8 (by decide), hk 9 (by decide), hk 10 (by decide), hm 21 (by decide), hm 22 (by decide), hm 23 (by decide)]; exact cs
  · have := csh s q1 q2
    unfold shC shR at *
    rw [hk 11 (by decide), hk 12 (by decide), hk (13 + s.toNat) (by simp; omega), hm (40 + 2 * s.toNat) (by simp; omega), hm (41 + 2 * s.toNat) (by simp; omega)]
    exact this
theorem CI_umb (hI : CI mem τ) (hτ : tauI τ2) (hm : ∀ k, k ∉ [16, 17, 18, 19] → m2 k = mem k) (hk : ∀ k, k ∉ [2, 6, 7] → τ2 k = τ k) (h2 : ∀ j, j ≠ 3 → τ2 2 j = τ 2 j) (e : m2 16 3 = τ2 2 3) (cu2 : ∀ u, 0 ≤ u → u < τ2 2 3 → m2 17 u = τ2 6 u ∧ m2 18 u = τ2 7 u) : CI m2 τ2 := by
  obtain ⟨-, ⟨t0, t1⟩, ⟨hp0, hw⟩, ⟨e12, e16, e20, e0⟩, co, cu, cs, csh⟩ := hI
  refine ⟨hτ, ⟨?_, ?_⟩, ⟨?_, ?_⟩, ⟨?_, e, ?_, ?_⟩, ?_, cu2, ?_, fun s q1 q2 => ?_⟩
  · unfold tx0; rw [h2 0 (by decide), hk 0 (by decide), hm 1 (by decide), hm 2 (by decide)]; exact t0
  · unfold tx1; rw [h2 1 (by decide), hk 1 (by decide), hm 3 (by decide), hm 4 (by decide)]; exact t1
  · unfold pplC manC; rw [h2 0 (by decide), hk 0 (by decide), hm 5 (by decide), hm 6 (by decide), hm 7 (by decide), hm 8 (by decide), hm 9 (by decide)]; exact hp0
  · unfold wlkC; rw [h2 1 (by decide), hk 1 (by decide), hm 10 (by decide), hm 11 (by decide)]; exact hw
  · rw [h2 2 (by decide), hm 12 (by decide)]; exact e12
  · rw [h2 4 (by decide), hm 20 (by decide)]; exact e20
  · rw [h2 5 (by decide), hm 0 (by decide)]; exact e0
  · rw [h2 2 (by decide), hk 3 (by decide), hk 4 (by decide), hk 5 (by decide), hm 13 (by decide), hm 14 (by decide), hm 15 (by decide)]; exact co
  · rw [h2 4 (by decide), hk 8 (by decide), hk 9 (by decide), hk 10 (by decide), hm 21 (by decide), hm 22 (by decide), hm 23 (by decide)]; exact cs
  · have := csh s q1 q2
    unfold shC shR at *
    rw [hk 11 (by decide), hk 12 (by decide), hk (13 + s.toNat) (by simp; omega), hm (40 + 2 * s.toNat) (by simp; omega), hm (41 + 2 * s.toNat) (by simp; omega)]
    exact this
theorem CI_see (hI : CI mem τ) (hτ : tauI τ2) (hm : ∀ k, k ∉ [20, 21, 22, 23] → m2 k = mem k) (hk : ∀ k, k ∉ [2, 8, 9, 10] → τ2 k = τ k) (h2 : ∀ j, j ≠ 4 → τ2 2 j = τ 2 j) (e : m2 20 3 = τ2 2 4) (cs2 : ∀ i, 0 ≤ i → i < τ2 2 4 → m2 21 i = τ2 8 i ∧ m2 22 i = τ2 9 i ∧ m2 23 i = τ2 10 i) : CI m2 τ2 := by
  obtain ⟨-, ⟨t0, t1⟩, ⟨hp0, hw⟩, ⟨e12, e16, e20, e0⟩, co, cu, cs, csh⟩ := hI
  refine ⟨hτ, ⟨?_, ?_⟩, ⟨?_, ?_⟩, ⟨?_, ?_, e, ?_⟩, ?_, ?_, cs2, fun s q1 q2 => ?_⟩
  · unfold tx0; rw [h2 0 (by decide), hk 0 (by decide), hm 1 (by decide), hm 2 (by decide)]; exact t0
  · unfold tx1; rw [h2 1 (by decide), hk 1 (by decide), hm 3 (by decide), hm 4 (by decide)]; exact t1
  · unfold pplC manC; rw [h2 0 (by decide), hk 0 (by decide), hm 5 (by decide), hm 6 (by decide), hm 7 (by decide), hm 8 (by decide), hm 9 (by decide)]; exact hp0
  · unfold wlkC; rw [h2 1 (by decide), hk 1 (by decide), hm 10 (by decide), hm 11 (by decide)]; exact hw
  · rw [h2 2 (by decide), hm 12 (by decide)]; exact e12
  · rw [h2 3 (by decide), hm 16 (by decide)]; exact e16
  · rw [h2 5 (by decide), hm 0 (by decide)]; exact e0
  · rw [h2 2 (by decide), hk 3 (by decide), hk 4 (by decide), hk 5 (by decide), hm 13 (by decide), hm 14 (by decide), hm 15 (by decide)]; exact co
  · rw [h2 3 (by decide), hk 6 (by decide), hk 7 (by decide), hm 17 (by decide), hm 18 (by decide)]; exact cu
  · have := csh s q1 q2
    unfold shC shR at *
    rw [hk 11 (by decide), hk 12 (by decide), hk (13 + s.toNat) (by simp; omega), hm (40 + 2 * s.toNat) (by simp; omega), hm (41 + 2 * s.toNat) (by simp; omega)]
    exact this
/-- the sheets and the latest finding change -/
theorem CI_shs (hI : CI mem τ) (hτ : tauI τ2) (hm : ∀ k, k ≠ 0 → k < 40 → m2 k = mem k) (hk : ∀ k, k ≠ 2 → k < 11 → τ2 k = τ k) (h2 : ∀ j, j ≠ 5 → τ2 2 j = τ 2 j) (e : m2 0 13 = τ2 2 5) (sh2 : ∀ s, 0 ≤ s → s ≤ 3 → shC m2 τ2 s) : CI m2 τ2 := by
  obtain ⟨-, ⟨t0, t1⟩, ⟨hp0, hw⟩, ⟨e12, e16, e20, e0⟩, co, cu, cs, csh⟩ := hI
  refine ⟨hτ, ⟨?_, ?_⟩, ⟨?_, ?_⟩, ⟨?_, ?_, ?_, e⟩, ?_, ?_, ?_, sh2⟩
  · unfold tx0; rw [h2 0 (by decide), hk 0 (by decide) (by decide), hm 1 (by decide) (by decide), hm 2 (by decide) (by decide)]; exact t0
  · unfold tx1; rw [h2 1 (by decide), hk 1 (by decide) (by decide), hm 3 (by decide) (by decide), hm 4 (by decide) (by decide)]; exact t1
  · unfold pplC manC; rw [h2 0 (by decide), hk 0 (by decide) (by decide), hm 5 (by decide) (by decide), hm 6 (by decide) (by decide), hm 7 (by decide) (by decide), hm 8 (by decide) (by decide), hm 9 (by decide) (by decide)]; exact hp0
  · unfold wlkC; rw [h2 1 (by decide), hk 1 (by decide) (by decide), hm 10 (by decide) (by decide), hm 11 (by decide) (by decide)]; exact hw
  · rw [h2 2 (by decide), hm 12 (by decide) (by decide)]; exact e12
  · rw [h2 3 (by decide), hm 16 (by decide) (by decide)]; exact e16
  · rw [h2 4 (by decide), hm 20 (by decide) (by decide)]; exact e20
  · rw [h2 2 (by decide), hk 3 (by decide) (by decide), hk 4 (by decide) (by decide), hk 5 (by decide) (by decide), hm 13 (by decide) (by decide), hm 14 (by decide) (by decide), hm 15 (by decide) (by decide)]; exact co
  · rw [h2 3 (by decide), hk 6 (by decide) (by decide), hk 7 (by decide) (by decide), hm 17 (by decide) (by decide), hm 18 (by decide) (by decide)]; exact cu
  · rw [h2 4 (by decide), hk 8 (by decide) (by decide), hk 9 (by decide) (by decide), hk 10 (by decide) (by decide), hm 21 (by decide) (by decide), hm 22 (by decide) (by decide), hm 23 (by decide) (by decide)]; exact cs
end
def goodO (a b c : Int) : Prop := (0 ≤ a ∧ a ≤ 7) ∧ (0 ≤ b ∧ b ≤ 7) ∧ a ≠ b ∧ 1 ≤ c ∧ c ≤ 99
def addO (τ : zMem) (a b c : Int) : zMem := zset (zset (zset (zset τ 3 (τ 2 2) a) 4 (τ 2 2) b) 5 (τ 2 2) c) 2 2 (τ 2 2 + 1)
def addU (τ : zMem) (h p : Int) : zMem := zset (zset (zset τ 6 (τ 2 3) h) 7 (τ 2 3) p) 2 3 (τ 2 3 + 1)
def addS (τ : zMem) (h p l : Int) : zMem := zset (zset (zset (zset τ 8 (τ 2 4) h) 9 (τ 2 4) p) 10 (τ 2 4) l) 2 4 (τ 2 4 + 1)
def qOld (τ : zMem) (a b c : Int) : Int := if (0 ≤ a ∧ a ≤ 7) ∧ (0 ≤ b ∧ b ≤ 7) ∧ a ≠ b ∧ 1 ≤ c ∧ c ≤ 99 then (if τ 2 2 < 12 then τ 2 2 + 1 else -4) else -2
def nOld (τ : zMem) (a b c : Int) : zMem := if ((0 ≤ a ∧ a ≤ 7) ∧ (0 ≤ b ∧ b ≤ 7) ∧ a ≠ b ∧ 1 ≤ c ∧ c ≤ 99) ∧ τ 2 2 < 12 then addO τ a b c else τ
def qUmb (τ : zMem) (h p : Int) : Int := if (0 ≤ h ∧ h ≤ 11) ∧ (0 ≤ p ∧ p ≤ 7) then (if τ 2 3 < 8 then τ 2 3 + 1 else -4) else -2
def nUmb (τ : zMem) (h p : Int) : zMem := if ((0 ≤ h ∧ h ≤ 11) ∧ (0 ≤ p ∧ p ≤ 7)) ∧ τ 2 3 < 8 then addU τ h p else τ
def qSeen (τ : zMem) (h p l : Int) : Int := if (0 ≤ h ∧ h ≤ 11) ∧ (0 ≤ p ∧ p ≤ 7) ∧ (0 ≤ l ∧ l ≤ 99) then (if τ 2 4 < 8 then τ 2 4 + 1 else -4) else -2
def nSeen (τ : zMem) (h p l : Int) : zMem := if ((0 ≤ h ∧ h ≤ 11) ∧ (0 ≤ p ∧ p ≤ 7) ∧ (0 ≤ l ∧ l ≤ 99)) ∧ τ 2 4 < 8 then addS τ h p l else τ
def qBack (τ : zMem) (w : Int) : Int := if 0 ≤ w ∧ w ≤ 1 then (if w = 0 then (if τ 2 2 = 0 then -3 else τ 2 2 - 1) else (if τ 2 3 = 0 then -3 else τ 2 3 - 1)) else -2
def nBack (τ : zMem) (w : Int) : zMem := if w = 0 ∧ τ 2 2 ≠ 0 then zset τ 2 2 (τ 2 2 - 1) else if w = 1 ∧ τ 2 3 ≠ 0 then zset τ 2 3 (τ 2 3 - 1) else τ
theorem addO_I {τ : zMem} {a b c : Int} (hτ : tauI τ) (hg : (0 ≤ a ∧ a ≤ 7) ∧ (0 ≤ b ∧ b ≤ 7) ∧ a ≠ b ∧ 1 ≤ c ∧ c ≤ 99) (hc : τ 2 2 < 12) : tauI (addO τ a b c) := by
  obtain ⟨hb0, h0, h1, ho, hu, hs, hsh⟩ := hτ
  refine ⟨⟨hb0.1, hb0.2.1, ?_, hb0.2.2.2⟩, h0, h1, ?_, hu, hs, shI_of (fun k hk => ?_) hsh⟩
  · show 0 ≤ τ 2 2 + 1 ∧ τ 2 2 + 1 ≤ 12; omega
  · intro k q1 q2
    have q2 : k < τ 2 2 + 1 := q2
    show ((0 ≤ zupd (τ 3) (τ 2 2) a k ∧ zupd (τ 3) (τ 2 2) a k ≤ 7) ∧ (0 ≤ zupd (τ 4) (τ 2 2) b k ∧ zupd (τ 4) (τ 2 2) b k ≤ 7)) ∧ zupd (τ 3) (τ 2 2) a k ≠ zupd (τ 4) (τ 2 2) b k ∧ (1 ≤ zupd (τ 5) (τ 2 2) c k ∧ zupd (τ 5) (τ 2 2) c k ≤ 99)
    by_cases e : k = τ 2 2
    · subst e; rw [zupd_eq, zupd_eq, zupd_eq]; exact ⟨⟨hg.1, hg.2.1⟩, hg.2.2.1, hg.2.2.2⟩
    · rw [zupd_ne e, zupd_ne e, zupd_ne e]; exact ho k q1 (by omega)
  · unfold addO; rw [zset_ne (by omega), zset_ne (by omega), zset_ne (by omega), zset_ne (by omega)]
theorem addU_I {τ : zMem} {h p : Int} (hτ : tauI τ) (hg : (0 ≤ h ∧ h ≤ 11) ∧ (0 ≤ p ∧ p ≤ 7)) (hc : τ 2 3 < 8) : tauI (addU τ h p) := by
  obtain ⟨hb0, h0, h1, ho, hu, hs, hsh⟩ := hτ
  refine ⟨⟨hb0.1, hb0.2.1, hb0.2.2.1, ?_, hb0.2.2.2.2⟩, h0, h1, ho, ?_, hs, shI_of (fun k hk => ?_) hsh⟩
  · show 0 ≤ τ 2 3 + 1 ∧ τ 2 3 + 1 ≤ 8; omega
  · intro k q1 q2
    have q2 : k < τ 2 3 + 1 := q2
    show (0 ≤ zupd (τ 6) (τ 2 3) h k ∧ zupd (τ 6) (τ 2 3) h k ≤ 11) ∧ (0 ≤ zupd (τ 7) (τ 2 3) p k ∧ zupd (τ 7) (τ 2 3) p k ≤ 7)
    by_cases e : k = τ 2 3
    · subst e; rw [zupd_eq, zupd_eq]; exact hg
    · rw [zupd_ne e, zupd_ne e]; exact hu k q1 (by omega)
  · unfold addU; rw [zset_ne (by omega), zset_ne (by omega), zset_ne (by omega)]
theorem addS_I {τ : zMem} {h p l : Int} (hτ : tauI τ) (hg : (0 ≤ h ∧ h ≤ 11) ∧ (0 ≤ p ∧ p ≤ 7) ∧ (0 ≤ l ∧ l ≤ 99)) (hc : τ 2 4 < 8) : tauI (addS τ h p l) := by
  obtain ⟨hb0, h0, h1, ho, hu, hs, hsh⟩ := hτ
  refine ⟨⟨hb0.1, hb0.2.1, hb0.2.2.1, hb0.2.2.2.1, ?_, hb0.2.2.2.2.2⟩, h0, h1, ho, hu, ?_, shI_of (fun k hk => ?_) hsh⟩
  · show 0 ≤ τ 2 4 + 1 ∧ τ 2 4 + 1 ≤ 8; omega
  · intro k q1 q2
    have q2 : k < τ 2 4 + 1 := q2
    show (0 ≤ zupd (τ 8) (τ 2 4) h k ∧ zupd (τ 8) (τ 2 4) h k ≤ 11) ∧ (0 ≤ zupd (τ 9) (τ 2 4) p k ∧ zupd (τ 9) (τ 2 4) p k ≤ 7) ∧ (0 ≤ zupd (τ 10) (τ 2 4) l k ∧ zupd (τ 10) (τ 2 4) l k ≤ 99)
    by_cases e : k = τ 2 4
    · subst e; rw [zupd_eq, zupd_eq, zupd_eq]; exact hg
    · rw [zupd_ne e, zupd_ne e, zupd_ne e]; exact hs k q1 (by omega)
  · unfold addS; rw [zset_ne (by omega), zset_ne (by omega), zset_ne (by omega), zset_ne (by omega)]
theorem n2_I {τ : zMem} {j n : Int} (hτ : tauI τ) (hj : j = 2 ∨ j = 3 ∨ j = 4) (hn : 0 ≤ n ∧ n ≤ τ 2 j) : tauI (zset τ 2 j n) := by
  obtain ⟨hb0, h0, h1, ho, hu, hs, hsh⟩ := hτ
  have hsh2 : shI (zset τ 2 j n) := shI_of (fun k hk => zset_ne (by omega)) hsh
  rcases hj with rfl | rfl | rfl
  · refine ⟨⟨hb0.1, hb0.2.1, ?_, hb0.2.2.2⟩, h0, h1, fun k q1 q2 => ho k q1 ?_, hu, hs, hsh2⟩
    · show 0 ≤ n ∧ n ≤ 12; omega
    · have q2 : k < n := q2; omega
  · refine ⟨⟨hb0.1, hb0.2.1, hb0.2.2.1, ?_, hb0.2.2.2.2⟩, h0, h1, ho, fun k q1 q2 => hu k q1 ?_, hs, hsh2⟩
    · show 0 ≤ n ∧ n ≤ 8; omega
    · have q2 : k < n := q2; omega
  · refine ⟨⟨hb0.1, hb0.2.1, hb0.2.2.1, hb0.2.2.2.1, ?_, hb0.2.2.2.2.2⟩, h0, h1, ho, hu, fun k q1 q2 => hs k q1 ?_, hsh2⟩
    · show 0 ≤ n ∧ n ≤ 8; omega
    · have q2 : k < n := q2; omega
end
section
/-! ===== LowerBows: old, umbrella, back, seen, forget: contracts ===== -/
section
variable {mem τ : zMem}
theorem CI_addO {a b c : Int} (hI : CI mem τ) (hg : (0 ≤ a ∧ a ≤ 7) ∧ (0 ≤ b ∧ b ≤ 7) ∧ a ≠ b ∧ 1 ≤ c ∧ c ≤ 99) (hc : τ 2 2 < 12) : CI (zset (zset (zset (zset mem 13 (mem 12 3) a) 14 (mem 12 3) b) 15 (mem 12 3) c) 12 3 (mem 12 3 + 1)) (addO τ a b c) := by
  have e12 := hI.2.2.2.1.1
  have co := hI.2.2.2.2.1
  refine CI_old hI (addO_I hI.1 hg hc) (fun k hk => ?_) (fun k hk => ?_) (fun j hj => ?_) ?_ (fun k q1 q2 => ?_)
  · simp at hk; rw [zset_ne (by omega), zset_ne (by omega), zset_ne (by omega), zset_ne (by omega)]
  · simp at hk; unfold addO; rw [zset_ne (by omega), zset_ne (by omega), zset_ne (by omega), zset_ne (by omega)]
  · exact zupd_ne hj
  · show mem 12 3 + 1 = τ 2 2 + 1; rw [e12]
  · have q2 : k < τ 2 2 + 1 := q2
    show zupd (mem 13) (mem 12 3) a k = zupd (τ 3) (τ 2 2) a k ∧ zupd (mem 14) (mem 12 3) b k = zupd (τ 4) (τ 2 2) b k ∧ zupd (mem 15) (mem 12 3) c k = zupd (τ 5) (τ 2 2) c k
    rw [e12]
    by_cases e : k = τ 2 2
    · subst e; rw [zupd_eq, zupd_eq, zupd_eq, zupd_eq, zupd_eq, zupd_eq]; exact ⟨rfl, rfl, rfl⟩
    · rw [zupd_ne e, zupd_ne e, zupd_ne e, zupd_ne e, zupd_ne e, zupd_ne e]; exact co k q1 (by omega)
theorem CI_addU {h p z : Int} (hI : CI mem τ) (hg : (0 ≤ h ∧ h ≤ 11) ∧ (0 ≤ p ∧ p ≤ 7)) (hc : τ 2 3 < 8) : CI (zset (zset (zset (zset mem 17 (mem 16 3) h) 18 (mem 16 3) p) 19 (mem 16 3) z) 16 3 (mem 16 3 + 1)) (addU τ h p) := by
  have e16 := hI.2.2.2.1.2.1
  have cu := hI.2.2.2.2.2.1
  refine CI_umb hI (addU_I hI.1 hg hc) (fun k hk => ?_) (fun k hk => ?_) (fun j hj => ?_) ?_ (fun k q1 q2 => ?_)
  · simp at hk; rw [zset_ne (by omega), zset_ne (by omega), zset_ne (by omega), zset_ne (by omega)]
  · simp at hk; unfold addU; rw [zset_ne (by omega), zset_ne (by omega), zset_ne (by omega)]
  · exact zupd_ne hj
  · show mem 16 3 + 1 = τ 2 3 + 1; rw [e16]
  · have q2 : k < τ 2 3 + 1 := q2
    show zupd (mem 17) (mem 16 3) h k = zupd (τ 6) (τ 2 3) h k ∧ zupd (mem 18) (mem 16 3) p k = zupd (τ 7) (τ 2 3) p k
    rw [e16]
    by_cases e : k = τ 2 3
    · subst e; rw [zupd_eq, zupd_eq, zupd_eq, zupd_eq]; exact ⟨rfl, rfl⟩
    · rw [zupd_ne e, zupd_ne e, zupd_ne e, zupd_ne e]; exact cu k q1 (by omega)
theorem CI_addS {h p l : Int} (hI : CI mem τ) (hg : (0 ≤ h ∧ h ≤ 11) ∧ (0 ≤ p ∧ p ≤ 7) ∧ (0 ≤ l ∧ l ≤ 99)) (hc : τ 2 4 < 8) : CI (zset (zset (zset (zset mem 21 (mem 20 3) h) 22 (mem 20 3) p) 23 (mem 20 3) l) 20 3 (mem 20 3 + 1)) (addS τ h p l) := by
  have e20 := hI.2.2.2.1.2.2.1
  have cs := hI.2.2.2.2.2.2.1
  refine CI_see hI (addS_I hI.1 hg hc) (fun k hk => ?_) (fun k hk => ?_) (fun j hj => ?_) ?_ (fun k q1 q2 => ?_)
  · simp at hk; rw [zset_ne (by omega), zset_ne (by omega), zset_ne (by omega), zset_ne (by omega)]
  · simp at hk; unfold addS; rw [zset_ne (by omega), zset_ne (by omega), zset_ne (by omega), zset_ne (by omega)]
  · exact zupd_ne hj
  · show mem 20 3 + 1 = τ 2 4 + 1; rw [e20]
  · have q2 : k < τ 2 4 + 1 := q2
    show zupd (mem 21) (mem 20 3) h k = zupd (τ 8) (τ 2 4) h k ∧ zupd (mem 22) (mem 20 3) p k = zupd (τ 9) (τ 2 4) p k ∧ zupd (mem 23) (mem 20 3) l k = zupd (τ 10) (τ 2 4) l k
    rw [e20]
    by_cases e : k = τ 2 4
    · subst e; rw [zupd_eq, zupd_eq, zupd_eq, zupd_eq, zupd_eq, zupd_eq]; exact ⟨rfl, rfl, rfl⟩
    · rw [zupd_ne e, zupd_ne e, zupd_ne e, zupd_ne e, zupd_ne e, zupd_ne e]; exact cs k q1 (by omega)
theorem CI_n2 {n v : Int} (hI : CI mem τ) (hn : 0 ≤ n ∧ n ≤ τ 2 2) (hv : v = n) : CI (zset mem 12 3 v) (zset τ 2 2 n) := by
  refine CI_old hI (n2_I hI.1 (Or.inl rfl) hn) (fun k hk => ?_) (fun k hk => ?_) (fun j hj => ?_) ?_ (fun k q1 q2 => ?_)
  · simp at hk; exact zset_ne (by omega)
  · simp at hk; exact zset_ne (by omega)
  · exact zupd_ne hj
  · exact hv
  · have q2 : k < n := q2
    exact hI.2.2.2.2.1 k q1 (by omega)
theorem CI_n3 {n v : Int} (hI : CI mem τ) (hn : 0 ≤ n ∧ n ≤ τ 2 3) (hv : v = n) : CI (zset mem 16 3 v) (zset τ 2 3 n) := by
  refine CI_umb hI (n2_I hI.1 (Or.inr (Or.inl rfl)) hn) (fun k hk => ?_) (fun k hk => ?_) (fun j hj => ?_) ?_ (fun k q1 q2 => ?_)
  · simp at hk; exact zset_ne (by omega)
  · simp at hk; exact zset_ne (by omega)
  · exact zupd_ne hj
  · exact hv
  · have q2 : k < n := q2
    exact hI.2.2.2.2.2.1 k q1 (by omega)
theorem CI_n4 {n v : Int} (hI : CI mem τ) (hn : 0 ≤ n ∧ n ≤ τ 2 4) (hv : v = n) : CI (zset mem 20 3 v) (zset τ 2 4 n) := by
  refine CI_see hI (n2_I hI.1 (Or.inr (Or.inr rfl)) hn) (fun k hk => ?_) (fun k hk => ?_) (fun j hj => ?_) ?_ (fun k q1 q2 => ?_)
  · simp at hk; exact zset_ne (by omega)
  · simp at hk; exact zset_ne (by omega)
  · exact zupd_ne hj
  · exact hv
  · have q2 : k < n := q2
    exact hI.2.2.2.2.2.2.1 k q1 (by omega)
theorem cls4 {k1 k2 k3 k4 : Nat} {i1 i2 i3 i4 v1 v2 v3 v4 : Int} (h : (k1 < 48 ∧ k2 < 48) ∧ k3 < 48 ∧ k4 < 48) : cls48 mem (zset (zset (zset (zset mem k1 i1 v1) k2 i2 v2) k3 i3 v3) k4 i4 v4) := fun k hk => by rw [zset_ne (by omega), zset_ne (by omega), zset_ne (by omega), zset_ne (by omega)]
theorem ct_B_old {a b c : Int} (hI : CI mem τ) (ha : zR a) (hb : zR b) (hc : zR c) : zCi m_B_old [vr 0, vi a, vi b, vi c] mem (qOld τ a b c) (fun m2 => CI m2 (nOld τ a b c) ∧ cls48 mem m2) := by
  refine zCt.of [some (vr 0), some (vi a), some (vi b), some (vi c)] ok_B_old (Nat.le_of_ble_eq_true rfl) rfl ?_
  have e12 := hI.2.2.2.1.1
  have b2 := hI.1.1.2.2.1
  unfold qOld nOld
  by_cases hg : (0 ≤ a ∧ a ≤ 7) ∧ (0 ≤ b ∧ b ≤ 7) ∧ a ≠ b ∧ 1 ≤ c ∧ c ≤ 99
  · rw [if_pos hg]
    by_cases hc2 : τ 2 2 < 12
    · rw [if_pos hc2, if_pos ⟨hg, hc2⟩]
      refine zw_iload_n ok_B_old rfl rfl ?_
      refine zw_iload_n ok_B_old rfl rfl ?_
      refine zw_iload_n ok_B_old rfl rfl ?_
      refine zw_Sbp ok_B_old rfl ok_B_mayBeOld lk_B_144 (by decide) rfl (Nat.le_of_ble_eq_true rfl) (ct_B_mayBeOld (by omega)) ?_
      first | refine zw_ifne_d 12 ok_B_old rfl (by decide) (fun h6 => ?_) (fun h6 => ?_) | refine zw_ifne_b 12 ok_B_old rfl (by decide) (fun h6 => ?_) (fun h6 => ?_) | refine zw_if_ne 12 ok_B_old rfl (by decide) (by omega) (fun h6 => ?_) (fun h6 => ?_)
      · refine zw_aload_n ok_B_old rfl rfl ?_
        refine zw_getr ok_B_old rfl fl_B_38 rfl rfl ?_
        refine zw_iload_n ok_B_old rfl rfl ?_
        refine zw_iload_n ok_B_old rfl rfl ?_
        refine zw_iload_n ok_B_old rfl rfl ?_
        refine zw_Vi ok_B_old rfl ok_Le_enter lk_B_147 (by decide) rfl rfl (Nat.le_of_ble_eq_true rfl) (ct_Le_enter (k := 12) (c := 12) (Or.inl ⟨rfl, rfl⟩) (by omega)) (fun m19 h19 => ?_)
        rw [if_pos (by omega)] at h19 ⊢
        subst h19
        exact zw_iret ok_B_old rfl rfl (⟨by rw [e12], CI_addO hI hg hc2, cls4 (by omega)⟩)
      · exact absurd hg h6
    · rw [if_neg hc2, if_neg (fun q => hc2 q.2)]
      refine zw_iload_n ok_B_old rfl rfl ?_
      refine zw_iload_n ok_B_old rfl rfl ?_
      refine zw_iload_n ok_B_old rfl rfl ?_
      refine zw_Sbp ok_B_old rfl ok_B_mayBeOld lk_B_144 (by decide) rfl (Nat.le_of_ble_eq_true rfl) (ct_B_mayBeOld (by omega)) ?_
      first | refine zw_ifne_d 12 ok_B_old rfl (by decide) (fun h6 => ?_) (fun h6 => ?_) | refine zw_ifne_b 12 ok_B_old rfl (by decide) (fun h6 => ?_) (fun h6 => ?_) | refine zw_if_ne 12 ok_B_old rfl (by decide) (by omega) (fun h6 => ?_) (fun h6 => ?_)
      · refine zw_aload_n ok_B_old rfl rfl ?_
        refine zw_getr ok_B_old rfl fl_B_38 rfl rfl ?_
        refine zw_iload_n ok_B_old rfl rfl ?_
        refine zw_iload_n ok_B_old rfl rfl ?_
        refine zw_iload_n ok_B_old rfl rfl ?_
        refine zw_Vi ok_B_old rfl ok_Le_enter lk_B_147 (by decide) rfl rfl (Nat.le_of_ble_eq_true rfl) (ct_Le_enter (k := 12) (c := 12) (Or.inl ⟨rfl, rfl⟩) (by omega)) (fun m19 h19 => ?_)
        rw [if_neg (by omega)] at h19 ⊢
        subst h19
        exact zw_iret ok_B_old rfl rfl (⟨rfl, hI, fun _ _ => rfl⟩)
      · exact absurd hg h6
  · rw [if_neg hg, if_neg (fun q => hg q.1)]
    refine zw_iload_n ok_B_old rfl rfl ?_
    refine zw_iload_n ok_B_old rfl rfl ?_
    refine zw_iload_n ok_B_old rfl rfl ?_
    refine zw_Sbp ok_B_old rfl ok_B_mayBeOld lk_B_144 (by decide) rfl (Nat.le_of_ble_eq_true rfl) (ct_B_mayBeOld (by omega)) ?_
    first | refine zw_ifne_d 12 ok_B_old rfl (by decide) (fun h6 => ?_) (fun h6 => ?_) | refine zw_ifne_b 12 ok_B_old rfl (by decide) (fun h6 => ?_) (fun h6 => ?_) | refine zw_if_ne 12 ok_B_old rfl (by decide) (by omega) (fun h6 => ?_) (fun h6 => ?_)
    · exact absurd h6 hg
    · refine zw_bipush ok_B_old rfl (by decide) ?_
      exact zw_iret ok_B_old rfl rfl (⟨rfl, hI, fun _ _ => rfl⟩)
theorem ct_B_umbrella {h p : Int} (hI : CI mem τ) (hh : zR h) (hp : zR p) : zCi m_B_umbrella [vr 0, vi h, vi p] mem (qUmb τ h p) (fun m2 => CI m2 (nUmb τ h p) ∧ cls48 mem m2) := by
  refine zCt.of [some (vr 0), some (vi h), some (vi p)] ok_B_umbrella (Nat.le_of_ble_eq_true rfl) rfl ?_
  have e16 := hI.2.2.2.1.2.1
  have b2 := hI.1.1.2.2.2.1
  unfold qUmb nUmb
  by_cases hg : (0 ≤ h ∧ h ≤ 11) ∧ (0 ≤ p ∧ p ≤ 7)
  · rw [if_pos hg]
    by_cases hc2 : τ 2 3 < 8
    · rw [if_pos hc2, if_pos ⟨hg, hc2⟩]
      refine zw_iload_n ok_B_umbrella rfl rfl ?_
      refine zw_Sbp ok_B_umbrella rfl ok_B_isHour lk_B_138 (by decide) rfl (Nat.le_of_ble_eq_true rfl) (ct_B_isHour (by omega)) ?_
      first | refine zw_ifeq_d 17 ok_B_umbrella rfl (by decide) (fun h4 => ?_) (fun h4 => ?_) | refine zw_ifeq_b 17 ok_B_umbrella rfl (by decide) (fun h4 => ?_) (fun h4 => ?_) | refine zw_if_eq 17 ok_B_umbrella rfl (by decide) (by omega) (fun h4 => ?_) (fun h4 => ?_)
      · exact absurd hg.1 h4
      · refine zw_iload_n ok_B_umbrella rfl rfl ?_
        refine zw_iconst ok_B_umbrella rfl ?_
        refine zw_bipush ok_B_umbrella rfl (by decide) ?_
        refine zw_Sbp ok_B_umbrella rfl ok_B_within lk_B_100 (by decide) rfl (Nat.le_of_ble_eq_true rfl) (ct_B_within (by omega)) ?_
        first | refine zw_ifne_d 20 ok_B_umbrella rfl (by decide) (fun h14 => ?_) (fun h14 => ?_) | refine zw_ifne_b 20 ok_B_umbrella rfl (by decide) (fun h14 => ?_) (fun h14 => ?_) | refine zw_if_ne 20 ok_B_umbrella rfl (by decide) (by omega) (fun h14 => ?_) (fun h14 => ?_)
        · refine zw_aload_n ok_B_umbrella rfl rfl ?_
          refine zw_getr ok_B_umbrella rfl fl_B_42 rfl rfl ?_
          refine zw_iload_n ok_B_umbrella rfl rfl ?_
          refine zw_iload_n ok_B_umbrella rfl rfl ?_
          refine zw_iconst ok_B_umbrella rfl ?_
          refine zw_Vi ok_B_umbrella rfl ok_Le_enter lk_B_147 (by decide) rfl rfl (Nat.le_of_ble_eq_true rfl) (ct_Le_enter (k := 16) (c := 8) (Or.inr (Or.inl ⟨rfl, rfl⟩)) (by omega)) (fun m27 h27 => ?_)
          rw [if_pos (by omega)] at h27 ⊢
          subst h27
          exact zw_iret ok_B_umbrella rfl rfl (⟨by rw [e16], CI_addU hI hg hc2, cls4 (by omega)⟩)
        · exact absurd hg.2 h14
    · rw [if_neg hc2, if_neg (fun q => hc2 q.2)]
      refine zw_iload_n ok_B_umbrella rfl rfl ?_
      refine zw_Sbp ok_B_umbrella rfl ok_B_isHour lk_B_138 (by decide) rfl (Nat.le_of_ble_eq_true rfl) (ct_B_isHour (by omega)) ?_
      first | refine zw_ifeq_d 17 ok_B_umbrella rfl (by decide) (fun h4 => ?_) (fun h4 => ?_) | refine zw_ifeq_b 17 ok_B_umbrella rfl (by decide) (fun h4 => ?_) (fun h4 => ?_) | refine zw_if_eq 17 ok_B_umbrella rfl (by decide) (by omega) (fun h4 => ?_) (fun h4 => ?_)
      · exact absurd hg.1 h4
      · refine zw_iload_n ok_B_umbrella rfl rfl ?_
        refine zw_iconst ok_B_umbrella rfl ?_
        refine zw_bipush ok_B_umbrella rfl (by decide) ?_
        refine zw_Sbp ok_B_umbrella rfl ok_B_within lk_B_100 (by decide) rfl (Nat.le_of_ble_eq_true rfl) (ct_B_within (by omega)) ?_
        first | refine zw_ifne_d 20 ok_B_umbrella rfl (by decide) (fun h14 => ?_) (fun h14 => ?_) | refine zw_ifne_b 20 ok_B_umbrella rfl (by decide) (fun h14 => ?_) (fun h14 => ?_) | refine zw_if_ne 20 ok_B_umbrella rfl (by decide) (by omega) (fun h14 => ?_) (fun h14 => ?_)
        · refine zw_aload_n ok_B_umbrella rfl rfl ?_
          refine zw_getr ok_B_umbrella rfl fl_B_42 rfl rfl ?_
          refine zw_iload_n ok_B_umbrella rfl rfl ?_
          refine zw_iload_n ok_B_umbrella rfl rfl ?_
          refine zw_iconst ok_B_umbrella rfl ?_
          refine zw_Vi ok_B_umbrella rfl ok_Le_enter lk_B_147 (by decide) rfl rfl (Nat.le_of_ble_eq_true rfl) (ct_Le_enter (k := 16) (c := 8) (Or.inr (Or.inl ⟨rfl, rfl⟩)) (by omega)) (fun m27 h27 => ?_)
          rw [if_neg (by omega)] at h27 ⊢
          subst h27
          exact zw_iret ok_B_umbrella rfl rfl (⟨rfl, hI, fun _ _ => rfl⟩)
        · exact absurd hg.2 h14
  · rw [if_neg hg, if_neg (fun q => hg q.1)]
    refine zw_iload_n ok_B_umbrella rfl rfl ?_
    refine zw_Sbp ok_B_umbrella rfl ok_B_isHour lk_B_138 (by decide) rfl (Nat.le_of_ble_eq_true rfl) (ct_B_isHour (by omega)) ?_
    first | refine zw_ifeq_d 17 ok_B_umbrella rfl (by decide) (fun h4 => ?_) (fun h4 => ?_) | refine zw_ifeq_b 17 ok_B_umbrella rfl (by decide) (fun h4 => ?_) (fun h4 => ?_) | refine zw_if_eq 17 ok_B_umbrella rfl (by decide) (by omega) (fun h4 => ?_) (fun h4 => ?_)
    · refine zw_bipush ok_B_umbrella rfl (by decide) ?_
      exact zw_iret ok_B_umbrella rfl rfl (⟨rfl, hI, fun _ _ => rfl⟩)
    · refine zw_iload_n ok_B_umbrella rfl rfl ?_
      refine zw_iconst ok_B_umbrella rfl ?_
      refine zw_bipush ok_B_umbrella rfl (by decide) ?_
      refine zw_Sbp ok_B_umbrella rfl ok_B_within lk_B_100 (by decide) rfl (Nat.le_of_ble_eq_true rfl) (ct_B_within (by omega)) ?_
      first | refine zw_ifne_d 20 ok_B_umbrella rfl (by decide) (fun h14 => ?_) (fun h14 => ?_) | refine zw_ifne_b 20 ok_B_umbrella rfl (by decide) (fun h14 => ?_) (fun h14 => ?_) | refine zw_if_ne 20 ok_B_umbrella rfl (by decide) (by omega) (fun h14 => ?_) (fun h14 => ?_)
      · exact absurd ⟨h4, h14⟩ hg
      · refine zw_bipush ok_B_umbrella rfl (by decide) ?_
        exact zw_iret ok_B_umbrella rfl rfl (⟨rfl, hI, fun _ _ => rfl⟩)
theorem ct_B_seen {h p l : Int} (hI : CI mem τ) (hh : zR h) (hp : zR p) (hl : zR l) : zCi m_B_seen [vr 0, vi h, vi p, vi l] mem (qSeen τ h p l) (fun m2 => CI m2 (nSeen τ h p l) ∧ cls48 mem m2) := by
  refine zCt.of [some (vr 0), some (vi h), some (vi p), some (vi l)] ok_B_seen (Nat.le_of_ble_eq_true rfl) rfl ?_
  have e20 := hI.2.2.2.1.2.2.1
  have b2 := hI.1.1.2.2.2.2.1
  unfold qSeen nSeen
  by_cases hg : (0 ≤ h ∧ h ≤ 11) ∧ (0 ≤ p ∧ p ≤ 7) ∧ (0 ≤ l ∧ l ≤ 99)
  · rw [if_pos hg]
    by_cases hc2 : τ 2 4 < 8
    · rw [if_pos hc2, if_pos ⟨hg, hc2⟩]
      refine zw_iload_n ok_B_seen rfl rfl ?_
      refine zw_Sbp ok_B_seen rfl ok_B_isHour lk_B_138 (by decide) rfl (Nat.le_of_ble_eq_true rfl) (ct_B_isHour (by omega)) ?_
      first | refine zw_ifeq_d 27 ok_B_seen rfl (by decide) (fun h4 => ?_) (fun h4 => ?_) | refine zw_ifeq_b 27 ok_B_seen rfl (by decide) (fun h4 => ?_) (fun h4 => ?_) | refine zw_if_eq 27 ok_B_seen rfl (by decide) (by omega) (fun h4 => ?_) (fun h4 => ?_)
      · exact absurd hg.1 h4
      · refine zw_iload_n ok_B_seen rfl rfl ?_
        refine zw_iconst ok_B_seen rfl ?_
        refine zw_bipush ok_B_seen rfl (by decide) ?_
        refine zw_Sbp ok_B_seen rfl ok_B_within lk_B_100 (by decide) rfl (Nat.le_of_ble_eq_true rfl) (ct_B_within (by omega)) ?_
        first | refine zw_ifeq_d 27 ok_B_seen rfl (by decide) (fun h14 => ?_) (fun h14 => ?_) | refine zw_ifeq_b 27 ok_B_seen rfl (by decide) (fun h14 => ?_) (fun h14 => ?_) | refine zw_if_eq 27 ok_B_seen rfl (by decide) (by omega) (fun h14 => ?_) (fun h14 => ?_)
        · exact absurd hg.2.1 h14
        · refine zw_iload_n ok_B_seen rfl rfl ?_
          refine zw_iconst ok_B_seen rfl ?_
          refine zw_bipush ok_B_seen rfl (by decide) ?_
          refine zw_Sbp ok_B_seen rfl ok_B_within lk_B_100 (by decide) rfl (Nat.le_of_ble_eq_true rfl) (ct_B_within (by omega)) ?_
          first | refine zw_ifne_d 30 ok_B_seen rfl (by decide) (fun h24 => ?_) (fun h24 => ?_) | refine zw_ifne_b 30 ok_B_seen rfl (by decide) (fun h24 => ?_) (fun h24 => ?_) | refine zw_if_ne 30 ok_B_seen rfl (by decide) (by omega) (fun h24 => ?_) (fun h24 => ?_)
          · refine zw_aload_n ok_B_seen rfl rfl ?_
            refine zw_getr ok_B_seen rfl fl_B_45 rfl rfl ?_
            refine zw_iload_n ok_B_seen rfl rfl ?_
            refine zw_iload_n ok_B_seen rfl rfl ?_
            refine zw_iload_n ok_B_seen rfl rfl ?_
            refine zw_Vi ok_B_seen rfl ok_Le_enter lk_B_147 (by decide) rfl rfl (Nat.le_of_ble_eq_true rfl) (ct_Le_enter (k := 20) (c := 8) (Or.inr (Or.inr ⟨rfl, rfl⟩)) (by omega)) (fun m37 h37 => ?_)
            rw [if_pos (by omega)] at h37 ⊢
            subst h37
            exact zw_iret ok_B_seen rfl rfl (⟨by rw [e20], CI_addS hI hg hc2, cls4 (by omega)⟩)
          · exact absurd hg.2.2 h24
    · rw [if_neg hc2, if_neg (fun q => hc2 q.2)]
      refine zw_iload_n ok_B_seen rfl rfl ?_
      refine zw_Sbp ok_B_seen rfl ok_B_isHour lk_B_138 (by decide) rfl (Nat.le_of_ble_eq_true rfl) (ct_B_isHour (by omega)) ?_
      first | refine zw_ifeq_d 27 ok_B_seen rfl (by decide) (fun h4 => ?_) (fun h4 => ?_) | refine zw_ifeq_b 27 ok_B_seen rfl (by decide) (fun h4 => ?_) (fun h4 => ?_) | refine zw_if_eq 27 ok_B_seen rfl (by decide) (by omega) (fun h4 => ?_) (fun h4 => ?_)
      · exact absurd hg.1 h4
      · refine zw_iload_n ok_B_seen rfl rfl ?_
        refine zw_iconst ok_B_seen rfl ?_
        refine zw_bipush ok_B_seen rfl (by decide) ?_
        refine zw_Sbp ok_B_seen rfl ok_B_within lk_B_100 (by decide) rfl (Nat.le_of_ble_eq_true rfl) (ct_B_within (by omega)) ?_
        first | refine zw_ifeq_d 27 ok_B_seen rfl (by decide) (fun h14 => ?_) (fun h14 => ?_) | refine zw_ifeq_b 27 ok_B_seen rfl (by decide) (fun h14 => ?_) (fun h14 => ?_) | refine zw_if_eq 27 ok_B_seen rfl (by decide) (by omega) (fun h14 => ?_) (fun h14 => ?_)
        · exact absurd hg.2.1 h14
        · refine zw_iload_n ok_B_seen rfl rfl ?_
          refine zw_iconst ok_B_seen rfl ?_
          refine zw_bipush ok_B_seen rfl (by decide) ?_
          refine zw_Sbp ok_B_seen rfl ok_B_within lk_B_100 (by decide) rfl (Nat.le_of_ble_eq_true rfl) (ct_B_within (by omega)) ?_
          first | refine zw_ifne_d 30 ok_B_seen rfl (by decide) (fun h24 => ?_) (fun h24 => ?_) | refine zw_ifne_b 30 ok_B_seen rfl (by decide) (fun h24 => ?_) (fun h24 => ?_) | refine zw_if_ne 30 ok_B_seen rfl (by decide) (by omega) (fun h24 => ?_) (fun h24 => ?_)
          · refine zw_aload_n ok_B_seen rfl rfl ?_
            refine zw_getr ok_B_seen rfl fl_B_45 rfl rfl ?_
            refine zw_iload_n ok_B_seen rfl rfl ?_
            refine zw_iload_n ok_B_seen rfl rfl ?_
            refine zw_iload_n ok_B_seen rfl rfl ?_
            refine zw_Vi ok_B_seen rfl ok_Le_enter lk_B_147 (by decide) rfl rfl (Nat.le_of_ble_eq_true rfl) (ct_Le_enter (k := 20) (c := 8) (Or.inr (Or.inr ⟨rfl, rfl⟩)) (by omega)) (fun m37 h37 => ?_)
            rw [if_neg (by omega)] at h37 ⊢
            subst h37
            exact zw_iret ok_B_seen rfl rfl (⟨rfl, hI, fun _ _ => rfl⟩)
          · exact absurd hg.2.2 h24
  · rw [if_neg hg, if_neg (fun q => hg q.1)]
    refine zw_iload_n ok_B_seen rfl rfl ?_
    refine zw_Sbp ok_B_seen rfl ok_B_isHour lk_B_138 (by decide) rfl (Nat.le_of_ble_eq_true rfl) (ct_B_isHour (by omega)) ?_
    first | refine zw_ifeq_d 27 ok_B_seen rfl (by decide) (fun h4 => ?_) (fun h4 => ?_) | refine zw_ifeq_b 27 ok_B_seen rfl (by decide) (fun h4 => ?_) (fun h4 => ?_) | refine zw_if_eq 27 ok_B_seen rfl (by decide) (by omega) (fun h4 => ?_) (fun h4 => ?_)
    · refine zw_bipush ok_B_seen rfl (by decide) ?_
      exact zw_iret ok_B_seen rfl rfl (⟨rfl, hI, fun _ _ => rfl⟩)
    · refine zw_iload_n ok_B_seen rfl rfl ?_
      refine zw_iconst ok_B_seen rfl ?_
      refine zw_bipush ok_B_seen rfl (by decide) ?_
      refine zw_Sbp ok_B_seen rfl ok_B_within lk_B_100 (by decide) rfl (Nat.le_of_ble_eq_true rfl) (ct_B_within (by omega)) ?_
      first | refine zw_ifeq_d 27 ok_B_seen rfl (by decide) (fun h14 => ?_) (fun h14 => ?_) | refine zw_ifeq_b 27 ok_B_seen rfl (by decide) (fun h14 => ?_) (fun h14 => ?_) | refine zw_if_eq 27 ok_B_seen rfl (by decide) (by omega) (fun h14 => ?_) (fun h14 => ?_)
      · refine zw_bipush ok_B_seen rfl (by decide) ?_
        exact zw_iret ok_B_seen rfl rfl (⟨rfl, hI, fun _ _ => rfl⟩)
      · refine zw_iload_n ok_B_seen rfl rfl ?_
        refine zw_iconst ok_B_seen rfl ?_
        refine zw_bipush ok_B_seen rfl (by decide) ?_
        refine zw_Sbp ok_B_seen rfl ok_B_within lk_B_100 (by decide) rfl (Nat.le_of_ble_eq_true rfl) (ct_B_within (by omega)) ?_
        first | refine zw_ifne_d 30 ok_B_seen rfl (by decide) (fun h24 => ?_) (fun h24 => ?_) | refine zw_ifne_b 30 ok_B_seen rfl (by decide) (fun h24 => ?_) (fun h24 => ?_) | refine zw_if_ne 30 ok_B_seen rfl (by decide) (by omega) (fun h24 => ?_) (fun h24 => ?_)
        · exact absurd ⟨h4, h14, h24⟩ hg
        · refine zw_bipush ok_B_seen rfl (by decide) ?_
          exact zw_iret ok_B_seen rfl rfl (⟨rfl, hI, fun _ _ => rfl⟩)
theorem ct_B_forget (hI : CI mem τ) : zCi m_B_forget [vr 0] mem (τ 2 4) (fun m2 => CI m2 (zset τ 2 4 0) ∧ cls48 mem m2) := by
  refine zCt.of [some (vr 0), none] ok_B_forget (Nat.le_of_ble_eq_true rfl) rfl ?_
  have e20 := hI.2.2.2.1.2.2.1
  have b2 := hI.1.1.2.2.2.2.1
  refine zw_aload_n ok_B_forget rfl rfl ?_
  refine zw_getr ok_B_forget rfl fl_B_45 rfl rfl ?_
  refine zw_geti ok_B_forget rfl fl_B_151 rfl rfl ?_
  refine zw_istore_n ok_B_forget rfl rfl (by decide) ?_
  refine zw_aload_n ok_B_forget rfl rfl ?_
  refine zw_getr ok_B_forget rfl fl_B_45 rfl rfl ?_
  refine zw_iconst ok_B_forget rfl ?_
  refine zw_puti ok_B_forget rfl fp_B_151 rfl rfl ?_
  refine zw_iload_n ok_B_forget rfl rfl ?_
  exact zw_iret ok_B_forget rfl rfl (⟨by rw [e20], CI_n4 hI (by omega) rfl, cls48.st (by omega)⟩)
theorem ct_B_back {w : Int} (hI : CI mem τ) (hw : zR w) : zCi m_B_back [vr 0, vi w] mem (qBack τ w) (fun m2 => CI m2 (nBack τ w) ∧ cls48 mem m2) := by
  refine zCt.of [some (vr 0), some (vi w), none] ok_B_back (Nat.le_of_ble_eq_true rfl) rfl ?_
  have e12 := hI.2.2.2.1.1
  have e16 := hI.2.2.2.1.2.1
  have b2 := hI.1.1.2.2.1
  have b3 := hI.1.1.2.2.2.1
  by_cases w0 : w = 0
  · subst w0
    by_cases hz : τ 2 2 = 0
    · have hq : qBack τ 0 = -3 := by simp [qBack, hz]
      have hn : nBack τ 0 = τ := by simp [nBack, hz]
      rw [hq, hn]
      refine zw_iload_n ok_B_back rfl rfl ?_
      refine zw_iconst ok_B_back rfl ?_
      refine zw_iconst ok_B_back rfl ?_
      refine zw_Sbp ok_B_back rfl ok_B_within lk_B_100 (by decide) rfl (Nat.le_of_ble_eq_true rfl) (ct_B_within (by omega)) ?_
      first | refine zw_ifne_d 12 ok_B_back rfl (by decide) (fun h6 => ?_) (fun h6 => ?_) | refine zw_ifne_b 12 ok_B_back rfl (by decide) (fun h6 => ?_) (fun h6 => ?_) | refine zw_if_ne 12 ok_B_back rfl (by decide) (by omega) (fun h6 => ?_) (fun h6 => ?_)
      · refine zw_iload_n ok_B_back rfl rfl ?_
        refine zw_if_ne 23 ok_B_back rfl (by decide) (by omega) (fun h13 => ?_) (fun h13 => ?_)
        · exact absurd rfl h13
        · refine zw_aload_n ok_B_back rfl rfl ?_
          refine zw_getr ok_B_back rfl fl_B_38 rfl rfl ?_
          refine zw_goto 27 ok_B_back rfl (by decide) ?_
          refine zw_astore_n ok_B_back rfl rfl (by decide) ?_
          refine zw_aload_n ok_B_back rfl rfl ?_
          refine zw_geti ok_B_back rfl fl_B_151 rfl rfl ?_
          refine zw_if_ne 38 ok_B_back rfl (by decide) (by omega) (fun h32 => ?_) (fun h32 => ?_)
          · exact absurd (e12.trans hz) h32
          · refine zw_bipush ok_B_back rfl (by decide) ?_
            exact zw_iret ok_B_back rfl rfl (⟨rfl, hI, fun _ _ => rfl⟩)
      · exact absurd (by decide) h6
    · have hq : qBack τ 0 = τ 2 2 - 1 := by simp [qBack, hz]
      have hn : nBack τ 0 = zset τ 2 2 (τ 2 2 - 1) := by simp [nBack, hz]
      rw [hq, hn]
      refine zw_iload_n ok_B_back rfl rfl ?_
      refine zw_iconst ok_B_back rfl ?_
      refine zw_iconst ok_B_back rfl ?_
      refine zw_Sbp ok_B_back rfl ok_B_within lk_B_100 (by decide) rfl (Nat.le_of_ble_eq_true rfl) (ct_B_within (by omega)) ?_
      first | refine zw_ifne_d 12 ok_B_back rfl (by decide) (fun h6 => ?_) (fun h6 => ?_) | refine zw_ifne_b 12 ok_B_back rfl (by decide) (fun h6 => ?_) (fun h6 => ?_) | refine zw_if_ne 12 ok_B_back rfl (by decide) (by omega) (fun h6 => ?_) (fun h6 => ?_)
      · refine zw_iload_n ok_B_back rfl rfl ?_
        refine zw_if_ne 23 ok_B_back rfl (by decide) (by omega) (fun h13 => ?_) (fun h13 => ?_)
        · exact absurd rfl h13
        · refine zw_aload_n ok_B_back rfl rfl ?_
          refine zw_getr ok_B_back rfl fl_B_38 rfl rfl ?_
          refine zw_goto 27 ok_B_back rfl (by decide) ?_
          refine zw_astore_n ok_B_back rfl rfl (by decide) ?_
          refine zw_aload_n ok_B_back rfl rfl ?_
          refine zw_geti ok_B_back rfl fl_B_151 rfl rfl ?_
          try simp only [zset_eq, zupd_eq]
          refine zw_if_ne 38 ok_B_back rfl (by decide) (by omega) (fun h32 => ?_) (fun h32 => ?_)
          · refine zw_aload_n ok_B_back rfl rfl ?_
            first | refine zw_dupi ok_B_back rfl ?_ | refine zw_dupr ok_B_back rfl ?_
            refine zw_geti ok_B_back rfl fl_B_151 rfl rfl ?_
            try simp only [zset_eq, zupd_eq]
            refine zw_iconst ok_B_back rfl ?_
            refine zw_isub ok_B_back rfl ?_
            refine zw_puti ok_B_back rfl fp_B_151 rfl rfl ?_
            try simp only [zset_eq, zupd_eq]
            refine zw_aload_n ok_B_back rfl rfl ?_
            refine zw_geti ok_B_back rfl fl_B_151 rfl rfl ?_
            try simp only [zset_eq, zupd_eq]
            exact zw_iret ok_B_back rfl rfl (⟨by rw [e12], CI_n2 hI (by omega) (by omega), cls48.st (by omega)⟩)
          · exact absurd (e12.symm.trans h32) hz
      · exact absurd (by decide) h6
  · by_cases w1 : w = 1
    · subst w1
      by_cases hz : τ 2 3 = 0
      · have hq : qBack τ 1 = -3 := by simp [qBack, hz]
        have hn : nBack τ 1 = τ := by simp [nBack, hz]
        rw [hq, hn]
        refine zw_iload_n ok_B_back rfl rfl ?_
        refine zw_iconst ok_B_back rfl ?_
        refine zw_iconst ok_B_back rfl ?_
        refine zw_Sbp ok_B_back rfl ok_B_within lk_B_100 (by decide) rfl (Nat.le_of_ble_eq_true rfl) (ct_B_within (by omega)) ?_
        first | refine zw_ifne_d 12 ok_B_back rfl (by decide) (fun h6 => ?_) (fun h6 => ?_) | refine zw_ifne_b 12 ok_B_back rfl (by decide) (fun h6 => ?_) (fun h6 => ?_) | refine zw_if_ne 12 ok_B_back rfl (by decide) (by omega) (fun h6 => ?_) (fun h6 => ?_)
        · refine zw_iload_n ok_B_back rfl rfl ?_
          refine zw_if_ne 23 ok_B_back rfl (by decide) (by omega) (fun h13 => ?_) (fun h13 => ?_)
          · refine zw_aload_n ok_B_back rfl rfl ?_
            refine zw_getr ok_B_back rfl fl_B_42 rfl rfl ?_
            refine zw_astore_n ok_B_back rfl rfl (by decide) ?_
            refine zw_aload_n ok_B_back rfl rfl ?_
            refine zw_geti ok_B_back rfl fl_B_151 rfl rfl ?_
            refine zw_if_ne 38 ok_B_back rfl (by decide) (by omega) (fun h32 => ?_) (fun h32 => ?_)
            · exact absurd (e16.trans hz) h32
            · refine zw_bipush ok_B_back rfl (by decide) ?_
              exact zw_iret ok_B_back rfl rfl (⟨rfl, hI, fun _ _ => rfl⟩)
          · exact absurd h13 (by decide)
        · exact absurd (by decide) h6
      · have hq : qBack τ 1 = τ 2 3 - 1 := by simp [qBack, hz]
        have hn : nBack τ 1 = zset τ 2 3 (τ 2 3 - 1) := by simp [nBack, hz]
        rw [hq, hn]
        refine zw_iload_n ok_B_back rfl rfl ?_
        refine zw_iconst ok_B_back rfl ?_
        refine zw_iconst ok_B_back rfl ?_
        refine zw_Sbp ok_B_back rfl ok_B_within lk_B_100 (by decide) rfl (Nat.le_of_ble_eq_true rfl) (ct_B_within (by omega)) ?_
        first | refine zw_ifne_d 12 ok_B_back rfl (by decide) (fun h6 => ?_) (fun h6 => ?_) | refine zw_ifne_b 12 ok_B_back rfl (by decide) (fun h6 => ?_) (fun h6 => ?_) | refine zw_if_ne 12 ok_B_back rfl (by decide) (by omega) (fun h6 => ?_) (fun h6 => ?_)
        · refine zw_iload_n ok_B_back rfl rfl ?_
          refine zw_if_ne 23 ok_B_back rfl (by decide) (by omega) (fun h13 => ?_) (fun h13 => ?_)
          · refine zw_aload_n ok_B_back rfl rfl ?_
            refine zw_getr ok_B_back rfl fl_B_42 rfl rfl ?_
            refine zw_astore_n ok_B_back rfl rfl (by decide) ?_
            refine zw_aload_n ok_B_back rfl rfl ?_
            refine zw_geti ok_B_back rfl fl_B_151 rfl rfl ?_
            try simp only [zset_eq, zupd_eq]
            refine zw_if_ne 38 ok_B_back rfl (by decide) (by omega) (fun h32 => ?_) (fun h32 => ?_)
            · refine zw_aload_n ok_B_back rfl rfl ?_
              first | refine zw_dupi ok_B_back rfl ?_ | refine zw_dupr ok_B_back rfl ?_
              refine zw_geti ok_B_back rfl fl_B_151 rfl rfl ?_
              try simp only [zset_eq, zupd_eq]
              refine zw_iconst ok_B_back rfl ?_
              refine zw_isub ok_B_back rfl ?_
              refine zw_puti ok_B_back rfl fp_B_151 rfl rfl ?_
              try simp only [zset_eq, zupd_eq]
              refine zw_aload_n ok_B_back rfl rfl ?_
              refine zw_geti ok_B_back rfl fl_B_151 rfl rfl ?_
              try simp only [zset_eq, zupd_eq]
              exact zw_iret ok_B_back rfl rfl (⟨by rw [e16], CI_n3 hI (by omega) (by omega), cls48.st (by omega)⟩)
            · exact absurd (e16.symm.trans h32) hz
          · exact absurd h13 (by decide)
        · exact absurd (by decide) h6
    · have hq : qBack τ w = -2 := by unfold qBack; exact if_neg (by omega)
      have hn : nBack τ w = τ := by unfold nBack; rw [if_neg (fun q => w0 q.1), if_neg (fun q => w1 q.1)]
      rw [hq, hn]
      refine zw_iload_n ok_B_back rfl rfl ?_
      refine zw_iconst ok_B_back rfl ?_
      refine zw_iconst ok_B_back rfl ?_
      refine zw_Sbp ok_B_back rfl ok_B_within lk_B_100 (by decide) rfl (Nat.le_of_ble_eq_true rfl) (ct_B_within (by omega)) ?_
      first | refine zw_ifne_d 12 ok_B_back rfl (by decide) (fun h6 => ?_) (fun h6 => ?_) | refine zw_ifne_b 12 ok_B_back rfl (by decide) (fun h6 => ?_) (fun h6 => ?_) | refine zw_if_ne 12 ok_B_back rfl (by decide) (by omega) (fun h6 => ?_) (fun h6 => ?_)
      · exfalso; omega
      · refine zw_bipush ok_B_back rfl (by decide) ?_
        exact zw_iret ok_B_back rfl rfl (⟨rfl, hI, fun _ _ => rfl⟩)
end
end
