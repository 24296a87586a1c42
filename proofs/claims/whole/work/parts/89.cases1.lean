/-! ===== the law: what a class call leaves of the reference, and the other way ===== -/
theorem MI_48 {mem m2 τ : zMem} (h : cls48 mem m2) (hI : MI mem τ) : MI m2 τ := by
  have hk : ∀ k, 48 ≤ k → m2 k = mem k := h
  unfold MI at *
  rw [hk 54 (by decide), hk 53 (by decide), hk 57 (by decide), hk 58 (by decide), hk 64 (by decide), hk 49 (by decide), hk 50 (by decide), hk 51 (by decide), hk 48 (by decide)]
  exact hI
theorem CI_47 {mem m2 τ : zMem} (h : ref47 mem m2) (hI : CI mem τ) : CI m2 τ := by
  have hk : ∀ k, k < 48 → m2 k = mem k := h
  unfold CI shC tx0 tx1 pplC wlkC manC shR at *
  rw [hk 0 (by decide), hk 1 (by decide), hk 2 (by decide), hk 3 (by decide), hk 4 (by decide), hk 5 (by decide), hk 6 (by decide), hk 7 (by decide), hk 8 (by decide), hk 9 (by decide), hk 10 (by decide), hk 11 (by decide), hk 12 (by decide), hk 13 (by decide), hk 14 (by decide), hk 15 (by decide), hk 16 (by decide), hk 17 (by decide), hk 18 (by decide), hk 20 (by decide), hk 21 (by decide), hk 22 (by decide), hk 23 (by decide)]
  refine ⟨hI.1, hI.2.1, hI.2.2.1, hI.2.2.2.1, hI.2.2.2.2.1, hI.2.2.2.2.2.1, hI.2.2.2.2.2.2.1, fun s h0 h3 => ?_⟩
  have hs := hI.2.2.2.2.2.2.2 s h0 h3
  rw [hk (40 + 2 * s.toNat) (by omega), hk (41 + 2 * s.toNat) (by omega)]
  exact hs
def lt_type : List zRow := [(176, .aload_n 1, 1, 177), (177, .aload_n 0, 1, 178), (178, .iload_n 3, 1, 179), (179, .iconst 1, 1, 180), (180, .iadd, 1, 181), (181, .iaload, 1, 182), (182, .aload_n 0, 1, 183), (183, .iload_n 3, 1, 184), (184, .iconst 2, 1, 185), (185, .iadd, 1, 186), (186, .iaload, 1, 187), (187, .invokevirtual 13, 3, 190), (190, .aload_n 2, 1, 191), (191, .aload_n 0, 1, 192), (192, .iload_n 3, 1, 193), (193, .iconst 1, 1, 194), (194, .iadd, 1, 195), (195, .iaload, 1, 196), (196, .aload_n 0, 1, 197), (197, .iload_n 3, 1, 198), (198, .iconst 2, 1, 199), (199, .iadd, 1, 200), (200, .iaload, 1, 201), (201, .invokevirtual 17, 3, 204), (204, .if_icmp .eq 1020, 3, 207), (207, .iconst 0, 1, 208), (208, .ireturn, 1, 209)]
theorem lt_type_ok : lchk lt_type = true := by decide +kernel
theorem ll_13 : zLV R_law 13 m_B_type 10 2 := ⟨zin_ALL (by decide +kernel), zin_ALL (by decide +kernel), zin_ALL (by decide +kernel), zin_ALL (by decide +kernel), rfl, ⟨by decide +kernel, by decide +kernel, by decide +kernel⟩⟩
theorem ll_17 : zLV R_law 17 m_M_type 11 2 := ⟨zin_ALL (by decide +kernel), zin_ALL (by decide +kernel), zin_ALL (by decide +kernel), zin_ALL (by decide +kernel), rfl, ⟨by decide +kernel, by decide +kernel, by decide +kernel⟩⟩
theorem lc_type {b L i : Nat} {xs : Nat → Int32} {mem τ : zMem} (hi : i + 6 ≤ L) (hI : CI mem τ) (hJ : MI mem τ) (kk : ∀ mem' τ', CI mem' τ' → MI mem' τ' → LW b L xs 1224 i [] mem') : LW b L xs 176 i [] mem := by
  refine lj_a1 lt_type_ok rfl ?_
  refine lj_arg 1 lt_type_ok rfl rfl rfl rfl rfl (by omega) ?_
  refine lj_arg 2 lt_type_ok rfl rfl rfl rfl rfl (by omega) ?_
  refine lj_Vi lt_type_ok rfl ok_B_type ll_13 (by decide) rfl rfl (Nat.le_of_ble_eq_true rfl) (ct_B_type hI (lbnd _) (lbnd _)) (fun m1 h1 => ?_)
  obtain ⟨hI1, hc1⟩ := h1
  have hJ1 := MI_48 hc1 hJ
  refine lj_a2 lt_type_ok rfl ?_
  refine lj_arg 1 lt_type_ok rfl rfl rfl rfl rfl (by omega) ?_
  refine lj_arg 2 lt_type_ok rfl rfl rfl rfl rfl (by omega) ?_
  refine lj_Vi lt_type_ok rfl ok_M_type ll_17 (by decide) rfl rfl (Nat.le_of_ble_eq_true rfl) (ct_M_type hJ1 hI1.1 (lbnd _) (lbnd _)) (fun m2 h2 => ?_)
  obtain ⟨hJ2, hc2⟩ := h2
  refine lj_ieq 1224 lt_type_ok rfl (by decide) ?_
  exact kk _ _ (CI_47 hc2 hI1) hJ2
def lt_wipe : List zRow := [(209, .aload_n 1, 1, 210), (210, .aload_n 0, 1, 211), (211, .iload_n 3, 1, 212), (212, .iconst 1, 1, 213), (213, .iadd, 1, 214), (214, .iaload, 1, 215), (215, .invokevirtual 18, 3, 218), (218, .aload_n 2, 1, 219), (219, .aload_n 0, 1, 220), (220, .iload_n 3, 1, 221), (221, .iconst 1, 1, 222), (222, .iadd, 1, 223), (223, .iaload, 1, 224), (224, .invokevirtual 22, 3, 227), (227, .if_icmp .eq 997, 3, 230), (230, .iconst 0, 1, 231), (231, .ireturn, 1, 232)]
theorem lt_wipe_ok : lchk lt_wipe = true := by decide +kernel
theorem ll_18 : zLV R_law 18 m_B_wipe 10 1 := ⟨zin_ALL (by decide +kernel), zin_ALL (by decide +kernel), zin_ALL (by decide +kernel), zin_ALL (by decide +kernel), rfl, ⟨by decide +kernel, by decide +kernel, by decide +kernel⟩⟩
theorem ll_22 : zLV R_law 22 m_M_wipe 11 1 := ⟨zin_ALL (by decide +kernel), zin_ALL (by decide +kernel), zin_ALL (by decide +kernel), zin_ALL (by decide +kernel), rfl, ⟨by decide +kernel, by decide +kernel, by decide +kernel⟩⟩
theorem lc_wipe {b L i : Nat} {xs : Nat → Int32} {mem τ : zMem} (hi : i + 6 ≤ L) (hI : CI mem τ) (hJ : MI mem τ) (kk : ∀ mem' τ', CI mem' τ' → MI mem' τ' → LW b L xs 1224 i [] mem') : LW b L xs 209 i [] mem := by
  refine lj_a1 lt_wipe_ok rfl ?_
  refine lj_arg 1 lt_wipe_ok rfl rfl rfl rfl rfl (by omega) ?_
  refine lj_Vi lt_wipe_ok rfl ok_B_wipe ll_18 (by decide) rfl rfl (Nat.le_of_ble_eq_true rfl) (ct_B_wipe hI (lbnd _)) (fun m1 h1 => ?_)
  obtain ⟨hI1, hc1⟩ := h1
  have hJ1 := MI_48 hc1 hJ
  refine lj_a2 lt_wipe_ok rfl ?_
  refine lj_arg 1 lt_wipe_ok rfl rfl rfl rfl rfl (by omega) ?_
  refine lj_Vi lt_wipe_ok rfl ok_M_wipe ll_22 (by decide) rfl rfl (Nat.le_of_ble_eq_true rfl) (ct_M_wipe hJ1 hI1.1 (lbnd _)) (fun m2 h2 => ?_)
  obtain ⟨hJ2, hc2⟩ := h2
  refine lj_ieq 1224 lt_wipe_ok rfl (by decide) ?_
  exact kk _ _ (CI_47 hc2 hI1) hJ2
def lt_undo : List zRow := [(232, .aload_n 1, 1, 233), (233, .aload_n 0, 1, 234), (234, .iload_n 3, 1, 235), (235, .iconst 1, 1, 236), (236, .iadd, 1, 237), (237, .iaload, 1, 238), (238, .invokevirtual 23, 3, 241), (241, .aload_n 2, 1, 242), (242, .aload_n 0, 1, 243), (243, .iload_n 3, 1, 244), (244, .iconst 1, 1, 245), (245, .iadd, 1, 246), (246, .iaload, 1, 247), (247, .invokevirtual 26, 3, 250), (250, .if_icmp .eq 974, 3, 253), (253, .iconst 0, 1, 254), (254, .ireturn, 1, 255)]
theorem lt_undo_ok : lchk lt_undo = true := by decide +kernel
theorem ll_23 : zLV R_law 23 m_B_undo 10 1 := ⟨zin_ALL (by decide +kernel), zin_ALL (by decide +kernel), zin_ALL (by decide +kernel), zin_ALL (by decide +kernel), rfl, ⟨by decide +kernel, by decide +kernel, by decide +kernel⟩⟩
theorem ll_26 : zLV R_law 26 m_M_undo 11 1 := ⟨zin_ALL (by decide +kernel), zin_ALL (by decide +kernel), zin_ALL (by decide +kernel), zin_ALL (by decide +kernel), rfl, ⟨by decide +kernel, by decide +kernel, by decide +kernel⟩⟩
theorem lc_undo {b L i : Nat} {xs : Nat → Int32} {mem τ : zMem} (hi : i + 6 ≤ L) (hI : CI mem τ) (hJ : MI mem τ) (kk : ∀ mem' τ', CI mem' τ' → MI mem' τ' → LW b L xs 1224 i [] mem') : LW b L xs 232 i [] mem := by
  refine lj_a1 lt_undo_ok rfl ?_
  refine lj_arg 1 lt_undo_ok rfl rfl rfl rfl rfl (by omega) ?_
  refine lj_Vi lt_undo_ok rfl ok_B_undo ll_23 (by decide) rfl rfl (Nat.le_of_ble_eq_true rfl) (ct_B_undo hI (lbnd _)) (fun m1 h1 => ?_)
  obtain ⟨hI1, hc1⟩ := h1
  have hJ1 := MI_48 hc1 hJ
  refine lj_a2 lt_undo_ok rfl ?_
  refine lj_arg 1 lt_undo_ok rfl rfl rfl rfl rfl (by omega) ?_
  refine lj_Vi lt_undo_ok rfl ok_M_undo ll_26 (by decide) rfl rfl (Nat.le_of_ble_eq_true rfl) (ct_M_undo hJ1 hI1.1 (lbnd _)) (fun m2 h2 => ?_)
  obtain ⟨hJ2, hc2⟩ := h2
  refine lj_ieq 1224 lt_undo_ok rfl (by decide) ?_
  exact kk _ _ (CI_47 hc2 hI1) hJ2
def lt_fault : List zRow := [(255, .aload_n 1, 1, 256), (256, .aload_n 0, 1, 257), (257, .iload_n 3, 1, 258), (258, .iconst 1, 1, 259), (259, .iadd, 1, 260), (260, .iaload, 1, 261), (261, .invokevirtual 27, 3, 264), (264, .aload_n 2, 1, 265), (265, .aload_n 0, 1, 266), (266, .iload_n 3, 1, 267), (267, .iconst 1, 1, 268), (268, .iadd, 1, 269), (269, .iaload, 1, 270), (270, .invokevirtual 30, 3, 273), (273, .if_icmp .eq 951, 3, 276), (276, .iconst 0, 1, 277), (277, .ireturn, 1, 278)]
theorem lt_fault_ok : lchk lt_fault = true := by decide +kernel
theorem ll_27 : zLV R_law 27 m_B_fault 10 1 := ⟨zin_ALL (by decide +kernel), zin_ALL (by decide +kernel), zin_ALL (by decide +kernel), zin_ALL (by decide +kernel), rfl, ⟨by decide +kernel, by decide +kernel, by decide +kernel⟩⟩
theorem ll_30 : zLV R_law 30 m_M_fault 11 1 := ⟨zin_ALL (by decide +kernel), zin_ALL (by decide +kernel), zin_ALL (by decide +kernel), zin_ALL (by decide +kernel), rfl, ⟨by decide +kernel, by decide +kernel, by decide +kernel⟩⟩
theorem lc_fault {b L i : Nat} {xs : Nat → Int32} {mem τ : zMem} (hi : i + 6 ≤ L) (hI : CI mem τ) (hJ : MI mem τ) (kk : ∀ mem' τ', CI mem' τ' → MI mem' τ' → LW b L xs 1224 i [] mem') : LW b L xs 255 i [] mem := by
  refine lj_a1 lt_fault_ok rfl ?_
  refine lj_arg 1 lt_fault_ok rfl rfl rfl rfl rfl (by omega) ?_
  refine lj_Vip lt_fault_ok rfl ok_B_fault ll_27 (by decide) rfl rfl (Nat.le_of_ble_eq_true rfl) (ct_B_fault hI (lbnd _)) ?_
  have hI1 := hI
  have hJ1 := hJ
  refine lj_a2 lt_fault_ok rfl ?_
  refine lj_arg 1 lt_fault_ok rfl rfl rfl rfl rfl (by omega) ?_
  refine lj_Vi lt_fault_ok rfl ok_M_fault ll_30 (by decide) rfl rfl (Nat.le_of_ble_eq_true rfl) (ct_M_fault hJ1 (lbnd _)) (fun m2 h2 => ?_)
  obtain ⟨hJ2, hc2⟩ := h2
  refine lj_ieq 1224 lt_fault_ok rfl (by decide) ?_
  exact kk _ _ (CI_47 hc2 hI1) hJ2
def lt_person : List zRow := [(278, .aload_n 1, 1, 279), (279, .aload_n 0, 1, 280), (280, .iload_n 3, 1, 281), (281, .iconst 1, 1, 282), (282, .iadd, 1, 283), (283, .iaload, 1, 284), (284, .aload_n 0, 1, 285), (285, .iload_n 3, 1, 286), (286, .iconst 2, 1, 287), (287, .iadd, 1, 288), (288, .iaload, 1, 289), (289, .invokevirtual 31, 3, 292), (292, .aload_n 2, 1, 293), (293, .aload_n 0, 1, 294), (294, .iload_n 3, 1, 295), (295, .iconst 1, 1, 296), (296, .iadd, 1, 297), (297, .iaload, 1, 298), (298, .aload_n 0, 1, 299), (299, .iload_n 3, 1, 300), (300, .iconst 2, 1, 301), (301, .iadd, 1, 302), (302, .iaload, 1, 303), (303, .invokevirtual 34, 3, 306), (306, .if_icmp .eq 918, 3, 309), (309, .iconst 0, 1, 310), (310, .ireturn, 1, 311)]
theorem lt_person_ok : lchk lt_person = true := by decide +kernel
theorem ll_31 : zLV R_law 31 m_B_person 10 2 := ⟨zin_ALL (by decide +kernel), zin_ALL (by decide +kernel), zin_ALL (by decide +kernel), zin_ALL (by decide +kernel), rfl, ⟨by decide +kernel, by decide +kernel, by decide +kernel⟩⟩
theorem ll_34 : zLV R_law 34 m_M_person 11 2 := ⟨zin_ALL (by decide +kernel), zin_ALL (by decide +kernel), zin_ALL (by decide +kernel), zin_ALL (by decide +kernel), rfl, ⟨by decide +kernel, by decide +kernel, by decide +kernel⟩⟩
theorem lc_person {b L i : Nat} {xs : Nat → Int32} {mem τ : zMem} (hi : i + 6 ≤ L) (hI : CI mem τ) (hJ : MI mem τ) (kk : ∀ mem' τ', CI mem' τ' → MI mem' τ' → LW b L xs 1224 i [] mem') : LW b L xs 278 i [] mem := by
  refine lj_a1 lt_person_ok rfl ?_
  refine lj_arg 1 lt_person_ok rfl rfl rfl rfl rfl (by omega) ?_
  refine lj_arg 2 lt_person_ok rfl rfl rfl rfl rfl (by omega) ?_
  refine lj_Vip lt_person_ok rfl ok_B_person ll_31 (by decide) rfl rfl (Nat.le_of_ble_eq_true rfl) (ct_B_person hI (lbnd _) (lbnd _)) ?_
  have hI1 := hI
  have hJ1 := hJ
  refine lj_a2 lt_person_ok rfl ?_
  refine lj_arg 1 lt_person_ok rfl rfl rfl rfl rfl (by omega) ?_
  refine lj_arg 2 lt_person_ok rfl rfl rfl rfl rfl (by omega) ?_
  refine lj_Vi lt_person_ok rfl ok_M_person ll_34 (by decide) rfl rfl (Nat.le_of_ble_eq_true rfl) (ct_M_person hJ1 (lbnd _) (lbnd _)) (fun m2 h2 => ?_)
  obtain ⟨hJ2, hc2⟩ := h2
  refine lj_ieq 1224 lt_person_ok rfl (by decide) ?_
  exact kk _ _ (CI_47 hc2 hI1) hJ2
def lt_street : List zRow := [(311, .aload_n 1, 1, 312), (312, .aload_n 0, 1, 313), (313, .iload_n 3, 1, 314), (314, .iconst 1, 1, 315), (315, .iadd, 1, 316), (316, .iaload, 1, 317), (317, .aload_n 0, 1, 318), (318, .iload_n 3, 1, 319), (319, .iconst 2, 1, 320), (320, .iadd, 1, 321), (321, .iaload, 1, 322), (322, .invokevirtual 35, 3, 325), (325, .aload_n 2, 1, 326), (326, .aload_n 0, 1, 327), (327, .iload_n 3, 1, 328), (328, .iconst 1, 1, 329), (329, .iadd, 1, 330), (330, .iaload, 1, 331), (331, .aload_n 0, 1, 332), (332, .iload_n 3, 1, 333), (333, .iconst 2, 1, 334), (334, .iadd, 1, 335), (335, .iaload, 1, 336), (336, .invokevirtual 38, 3, 339), (339, .if_icmp .eq 885, 3, 342), (342, .iconst 0, 1, 343), (343, .ireturn, 1, 344)]
theorem lt_street_ok : lchk lt_street = true := by decide +kernel
theorem ll_35 : zLV R_law 35 m_B_street 10 2 := ⟨zin_ALL (by decide +kernel), zin_ALL (by decide +kernel), zin_ALL (by decide +kernel), zin_ALL (by decide +kernel), rfl, ⟨by decide +kernel, by decide +kernel, by decide +kernel⟩⟩
theorem ll_38 : zLV R_law 38 m_M_street 11 2 := ⟨zin_ALL (by decide +kernel), zin_ALL (by decide +kernel), zin_ALL (by decide +kernel), zin_ALL (by decide +kernel), rfl, ⟨by decide +kernel, by decide +kernel, by decide +kernel⟩⟩
theorem lc_street {b L i : Nat} {xs : Nat → Int32} {mem τ : zMem} (hi : i + 6 ≤ L) (hI : CI mem τ) (hJ : MI mem τ) (kk : ∀ mem' τ', CI mem' τ' → MI mem' τ' → LW b L xs 1224 i [] mem') : LW b L xs 311 i [] mem := by
  refine lj_a1 lt_street_ok rfl ?_
  refine lj_arg 1 lt_street_ok rfl rfl rfl rfl rfl (by omega) ?_
  refine lj_arg 2 lt_street_ok rfl rfl rfl rfl rfl (by omega) ?_
  refine lj_Vip lt_street_ok rfl ok_B_street ll_35 (by decide) rfl rfl (Nat.le_of_ble_eq_true rfl) (ct_B_street hI (lbnd _) (lbnd _)) ?_
  have hI1 := hI
  have hJ1 := hJ
  refine lj_a2 lt_street_ok rfl ?_
  refine lj_arg 1 lt_street_ok rfl rfl rfl rfl rfl (by omega) ?_
  refine lj_arg 2 lt_street_ok rfl rfl rfl rfl rfl (by omega) ?_
  refine lj_Vi lt_street_ok rfl ok_M_street ll_38 (by decide) rfl rfl (Nat.le_of_ble_eq_true rfl) (ct_M_street hJ1 (lbnd _) (lbnd _)) (fun m2 h2 => ?_)
  obtain ⟨hJ2, hc2⟩ := h2
  refine lj_ieq 1224 lt_street_ok rfl (by decide) ?_
  exact kk _ _ (CI_47 hc2 hI1) hJ2.1
def lt_old : List zRow := [(344, .aload_n 1, 1, 345), (345, .aload_n 0, 1, 346), (346, .iload_n 3, 1, 347), (347, .iconst 1, 1, 348), (348, .iadd, 1, 349), (349, .iaload, 1, 350), (350, .aload_n 0, 1, 351), (351, .iload_n 3, 1, 352), (352, .iconst 2, 1, 353), (353, .iadd, 1, 354), (354, .iaload, 1, 355), (355, .aload_n 0, 1, 356), (356, .iload_n 3, 1, 357), (357, .iconst 3, 1, 358), (358, .iadd, 1, 359), (359, .iaload, 1, 360), (360, .invokevirtual 39, 3, 363), (363, .aload_n 2, 1, 364), (364, .aload_n 0, 1, 365), (365, .iload_n 3, 1, 366), (366, .iconst 1, 1, 367), (367, .iadd, 1, 368), (368, .iaload, 1, 369), (369, .aload_n 0, 1, 370), (370, .iload_n 3, 1, 371), (371, .iconst 2, 1, 372), (372, .iadd, 1, 373), (373, .iaload, 1, 374), (374, .aload_n 0, 1, 375), (375, .iload_n 3, 1, 376), (376, .iconst 3, 1, 377), (377, .iadd, 1, 378), (378, .iaload, 1, 379), (379, .invokevirtual 43, 3, 382), (382, .if_icmp .eq 842, 3, 385), (385, .iconst 0, 1, 386), (386, .ireturn, 1, 387)]
theorem lt_old_ok : lchk lt_old = true := by decide +kernel
theorem ll_39 : zLV R_law 39 m_B_old 10 3 := ⟨zin_ALL (by decide +kernel), zin_ALL (by decide +kernel), zin_ALL (by decide +kernel), zin_ALL (by decide +kernel), rfl, ⟨by decide +kernel, by decide +kernel, by decide +kernel⟩⟩
theorem ll_43 : zLV R_law 43 m_M_old 11 3 := ⟨zin_ALL (by decide +kernel), zin_ALL (by decide +kernel), zin_ALL (by decide +kernel), zin_ALL (by decide +kernel), rfl, ⟨by decide +kernel, by decide +kernel, by decide +kernel⟩⟩
theorem lc_old {b L i : Nat} {xs : Nat → Int32} {mem τ : zMem} (hi : i + 6 ≤ L) (hI : CI mem τ) (hJ : MI mem τ) (kk : ∀ mem' τ', CI mem' τ' → MI mem' τ' → LW b L xs 1224 i [] mem') : LW b L xs 344 i [] mem := by
  refine lj_a1 lt_old_ok rfl ?_
  refine lj_arg 1 lt_old_ok rfl rfl rfl rfl rfl (by omega) ?_
  refine lj_arg 2 lt_old_ok rfl rfl rfl rfl rfl (by omega) ?_
  refine lj_arg 3 lt_old_ok rfl rfl rfl rfl rfl (by omega) ?_
  refine lj_Vi lt_old_ok rfl ok_B_old ll_39 (by decide) rfl rfl (Nat.le_of_ble_eq_true rfl) (ct_B_old hI (lbnd _) (lbnd _) (lbnd _)) (fun m1 h1 => ?_)
  obtain ⟨hI1, hc1⟩ := h1
  have hJ1 := MI_48 hc1 hJ
  refine lj_a2 lt_old_ok rfl ?_
  refine lj_arg 1 lt_old_ok rfl rfl rfl rfl rfl (by omega) ?_
  refine lj_arg 2 lt_old_ok rfl rfl rfl rfl rfl (by omega) ?_
  refine lj_arg 3 lt_old_ok rfl rfl rfl rfl rfl (by omega) ?_
  refine lj_Vi lt_old_ok rfl ok_M_old ll_43 (by decide) rfl rfl (Nat.le_of_ble_eq_true rfl) (ct_M_old hJ1 hI1.1 (lbnd _) (lbnd _) (lbnd _)) (fun m2 h2 => ?_)
  obtain ⟨hJ2, hc2⟩ := h2
  refine lj_ieq 1224 lt_old_ok rfl (by decide) ?_
  exact kk _ _ (CI_47 hc2 hI1) hJ2
def lt_umbrella : List zRow := [(387, .aload_n 1, 1, 388), (388, .aload_n 0, 1, 389), (389, .iload_n 3, 1, 390), (390, .iconst 1, 1, 391), (391, .iadd, 1, 392), (392, .iaload, 1, 393), (393, .aload_n 0, 1, 394), (394, .iload_n 3, 1, 395), (395, .iconst 2, 1, 396), (396, .iadd, 1, 397), (397, .iaload, 1, 398), (398, .invokevirtual 44, 3, 401), (401, .aload_n 2, 1, 402), (402, .aload_n 0, 1, 403), (403, .iload_n 3, 1, 404), (404, .iconst 1, 1, 405), (405, .iadd, 1, 406), (406, .iaload, 1, 407), (407, .aload_n 0, 1, 408), (408, .iload_n 3, 1, 409), (409, .iconst 2, 1, 410), (410, .iadd, 1, 411), (411, .iaload, 1, 412), (412, .invokevirtual 47, 3, 415), (415, .if_icmp .eq 809, 3, 418), (418, .iconst 0, 1, 419), (419, .ireturn, 1, 420)]
theorem lt_umbrella_ok : lchk lt_umbrella = true := by decide +kernel
theorem ll_44 : zLV R_law 44 m_B_umbrella 10 2 := ⟨zin_ALL (by decide +kernel), zin_ALL (by decide +kernel), zin_ALL (by decide +kernel), zin_ALL (by decide +kernel), rfl, ⟨by decide +kernel, by decide +kernel, by decide +kernel⟩⟩
theorem ll_47 : zLV R_law 47 m_M_umbrella 11 2 := ⟨zin_ALL (by decide +kernel), zin_ALL (by decide +kernel), zin_ALL (by decide +kernel), zin_ALL (by decide +kernel), rfl, ⟨by decide +kernel, by decide +kernel, by decide +kernel⟩⟩
theorem lc_umbrella {b L i : Nat} {xs : Nat → Int32} {mem τ : zMem} (hi : i + 6 ≤ L) (hI : CI mem τ) (hJ : MI mem τ) (kk : ∀ mem' τ', CI mem' τ' → MI mem' τ' → LW b L xs 1224 i [] mem') : LW b L xs 387 i [] mem := by
  refine lj_a1 lt_umbrella_ok rfl ?_
  refine lj_arg 1 lt_umbrella_ok rfl rfl rfl rfl rfl (by omega) ?_
  refine lj_arg 2 lt_umbrella_ok rfl rfl rfl rfl rfl (by omega) ?_
  refine lj_Vi lt_umbrella_ok rfl ok_B_umbrella ll_44 (by decide) rfl rfl (Nat.le_of_ble_eq_true rfl) (ct_B_umbrella hI (lbnd _) (lbnd _)) (fun m1 h1 => ?_)
  obtain ⟨hI1, hc1⟩ := h1
  have hJ1 := MI_48 hc1 hJ
  refine lj_a2 lt_umbrella_ok rfl ?_
  refine lj_arg 1 lt_umbrella_ok rfl rfl rfl rfl rfl (by omega) ?_
  refine lj_arg 2 lt_umbrella_ok rfl rfl rfl rfl rfl (by omega) ?_
  refine lj_Vi lt_umbrella_ok rfl ok_M_umbrella ll_47 (by decide) rfl rfl (Nat.le_of_ble_eq_true rfl) (ct_M_umbrella hJ1 hI1.1 (lbnd _) (lbnd _)) (fun m2 h2 => ?_)
  obtain ⟨hJ2, hc2⟩ := h2
  refine lj_ieq 1224 lt_umbrella_ok rfl (by decide) ?_
  exact kk _ _ (CI_47 hc2 hI1) hJ2
def lt_back : List zRow := [(420, .aload_n 1, 1, 421), (421, .aload_n 0, 1, 422), (422, .iload_n 3, 1, 423), (423, .iconst 1, 1, 424), (424, .iadd, 1, 425), (425, .iaload, 1, 426), (426, .invokevirtual 48, 3, 429), (429, .aload_n 2, 1, 430), (430, .aload_n 0, 1, 431), (431, .iload_n 3, 1, 432), (432, .iconst 1, 1, 433), (433, .iadd, 1, 434), (434, .iaload, 1, 435), (435, .invokevirtual 51, 3, 438), (438, .if_icmp .eq 786, 3, 441), (441, .iconst 0, 1, 442), (442, .ireturn, 1, 443)]
theorem lt_back_ok : lchk lt_back = true := by decide +kernel
theorem ll_48 : zLV R_law 48 m_B_back 10 1 := ⟨zin_ALL (by decide +kernel), zin_ALL (by decide +kernel), zin_ALL (by decide +kernel), zin_ALL (by decide +kernel), rfl, ⟨by decide +kernel, by decide +kernel, by decide +kernel⟩⟩
theorem ll_51 : zLV R_law 51 m_M_back 11 1 := ⟨zin_ALL (by decide +kernel), zin_ALL (by decide +kernel), zin_ALL (by decide +kernel), zin_ALL (by decide +kernel), rfl, ⟨by decide +kernel, by decide +kernel, by decide +kernel⟩⟩
theorem lc_back {b L i : Nat} {xs : Nat → Int32} {mem τ : zMem} (hi : i + 6 ≤ L) (hI : CI mem τ) (hJ : MI mem τ) (kk : ∀ mem' τ', CI mem' τ' → MI mem' τ' → LW b L xs 1224 i [] mem') : LW b L xs 420 i [] mem := by
  refine lj_a1 lt_back_ok rfl ?_
  refine lj_arg 1 lt_back_ok rfl rfl rfl rfl rfl (by omega) ?_
  refine lj_Vi lt_back_ok rfl ok_B_back ll_48 (by decide) rfl rfl (Nat.le_of_ble_eq_true rfl) (ct_B_back hI (lbnd _)) (fun m1 h1 => ?_)
  obtain ⟨hI1, hc1⟩ := h1
  have hJ1 := MI_48 hc1 hJ
  refine lj_a2 lt_back_ok rfl ?_
  refine lj_arg 1 lt_back_ok rfl rfl rfl rfl rfl (by omega) ?_
  refine lj_Vi lt_back_ok rfl ok_M_back ll_51 (by decide) rfl rfl (Nat.le_of_ble_eq_true rfl) (ct_M_back hJ1 hI1.1 (lbnd _)) (fun m2 h2 => ?_)
  obtain ⟨hJ2, hc2⟩ := h2
  refine lj_ieq 1224 lt_back_ok rfl (by decide) ?_
  exact kk _ _ (CI_47 hc2 hI1) hJ2
def lt_read : List zRow := [(443, .aload_n 1, 1, 444), (444, .aload_n 0, 1, 445), (445, .iload_n 3, 1, 446), (446, .iconst 1, 1, 447), (447, .iadd, 1, 448), (448, .iaload, 1, 449), (449, .invokevirtual 52, 3, 452), (452, .aload_n 2, 1, 453), (453, .aload_n 0, 1, 454), (454, .iload_n 3, 1, 455), (455, .iconst 1, 1, 456), (456, .iadd, 1, 457), (457, .iaload, 1, 458), (458, .invokevirtual 55, 3, 461), (461, .if_icmp .eq 763, 3, 464), (464, .iconst 0, 1, 465), (465, .ireturn, 1, 466)]
theorem lt_read_ok : lchk lt_read = true := by decide +kernel
theorem ll_52 : zLV R_law 52 m_B_read 10 1 := ⟨zin_ALL (by decide +kernel), zin_ALL (by decide +kernel), zin_ALL (by decide +kernel), zin_ALL (by decide +kernel), rfl, ⟨by decide +kernel, by decide +kernel, by decide +kernel⟩⟩
theorem ll_55 : zLV R_law 55 m_M_read 11 1 := ⟨zin_ALL (by decide +kernel), zin_ALL (by decide +kernel), zin_ALL (by decide +kernel), zin_ALL (by decide +kernel), rfl, ⟨by decide +kernel, by decide +kernel, by decide +kernel⟩⟩
theorem lc_read {b L i : Nat} {xs : Nat → Int32} {mem τ : zMem} (hi : i + 6 ≤ L) (hI : CI mem τ) (hJ : MI mem τ) (kk : ∀ mem' τ', CI mem' τ' → MI mem' τ' → LW b L xs 1224 i [] mem') : LW b L xs 443 i [] mem := by
  refine lj_a1 lt_read_ok rfl ?_
  refine lj_arg 1 lt_read_ok rfl rfl rfl rfl rfl (by omega) ?_
  refine lj_Vi lt_read_ok rfl ok_B_read ll_52 (by decide) rfl rfl (Nat.le_of_ble_eq_true rfl) (ct_B_read hI (lbnd _)) (fun m1 h1 => ?_)
  obtain ⟨hI1, hc1⟩ := h1
  have hJ1 := MI_48 hc1 hJ
  refine lj_a2 lt_read_ok rfl ?_
  refine lj_arg 1 lt_read_ok rfl rfl rfl rfl rfl (by omega) ?_
  refine lj_Vi lt_read_ok rfl ok_M_read ll_55 (by decide) rfl rfl (Nat.le_of_ble_eq_true rfl) (ct_M_read hJ1 hI1.1 (lbnd _)) (fun m2 h2 => ?_)
  obtain ⟨hJ2, hc2⟩ := h2
  refine lj_ieq 1224 lt_read_ok rfl (by decide) ?_
  exact kk _ _ (CI_47 hc2 hI1) hJ2
def lt_low : List zRow := [(466, .aload_n 1, 1, 467), (467, .aload_n 0, 1, 468), (468, .iload_n 3, 1, 469), (469, .iconst 1, 1, 470), (470, .iadd, 1, 471), (471, .iaload, 1, 472), (472, .aload_n 0, 1, 473), (473, .iload_n 3, 1, 474), (474, .iconst 2, 1, 475), (475, .iadd, 1, 476), (476, .iaload, 1, 477), (477, .invokevirtual 56, 3, 480), (480, .aload_n 2, 1, 481), (481, .aload_n 0, 1, 482), (482, .iload_n 3, 1, 483), (483, .iconst 1, 1, 484), (484, .iadd, 1, 485), (485, .iaload, 1, 486), (486, .aload_n 0, 1, 487), (487, .iload_n 3, 1, 488), (488, .iconst 2, 1, 489), (489, .iadd, 1, 490), (490, .iaload, 1, 491), (491, .invokevirtual 59, 3, 494), (494, .if_icmp .eq 730, 3, 497), (497, .iconst 0, 1, 498), (498, .ireturn, 1, 499)]
theorem lt_low_ok : lchk lt_low = true := by decide +kernel
theorem ll_56 : zLV R_law 56 m_B_low 10 2 := ⟨zin_ALL (by decide +kernel), zin_ALL (by decide +kernel), zin_ALL (by decide +kernel), zin_ALL (by decide +kernel), rfl, ⟨by decide +kernel, by decide +kernel, by decide +kernel⟩⟩
theorem ll_59 : zLV R_law 59 m_M_low 11 2 := ⟨zin_ALL (by decide +kernel), zin_ALL (by decide +kernel), zin_ALL (by decide +kernel), zin_ALL (by decide +kernel), rfl, ⟨by decide +kernel, by decide +kernel, by decide +kernel⟩⟩
theorem lc_low {b L i : Nat} {xs : Nat → Int32} {mem τ : zMem} (hi : i + 6 ≤ L) (hI : CI mem τ) (hJ : MI mem τ) (kk : ∀ mem' τ', CI mem' τ' → MI mem' τ' → LW b L xs 1224 i [] mem') : LW b L xs 466 i [] mem := by
  refine lj_a1 lt_low_ok rfl ?_
  refine lj_arg 1 lt_low_ok rfl rfl rfl rfl rfl (by omega) ?_
  refine lj_arg 2 lt_low_ok rfl rfl rfl rfl rfl (by omega) ?_
  refine lj_Vi lt_low_ok rfl ok_B_low ll_56 (by decide) rfl rfl (Nat.le_of_ble_eq_true rfl) (ct_B_low hI (lbnd _) (lbnd _)) (fun m1 h1 => ?_)
  obtain ⟨hI1, hc1⟩ := h1
  have hJ1 := MI_48 hc1.c48 hJ
  refine lj_a2 lt_low_ok rfl ?_
  refine lj_arg 1 lt_low_ok rfl rfl rfl rfl rfl (by omega) ?_
  refine lj_arg 2 lt_low_ok rfl rfl rfl rfl rfl (by omega) ?_
  refine lj_Vi lt_low_ok rfl ok_M_low ll_59 (by decide) rfl rfl (Nat.le_of_ble_eq_true rfl) (ct_M_low hJ1 (lbnd _) (lbnd _)) (fun m2 h2 => ?_)
  obtain ⟨hJ2, hc2⟩ := h2
  refine lj_ieq 1224 lt_low_ok rfl (by decide) ?_
  exact kk _ _ (CI_47 hc2 hI1) hJ2
