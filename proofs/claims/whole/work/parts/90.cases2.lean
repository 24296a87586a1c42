/-! ===== the law: its cases, 2 ===== -/
def lt_behind : List zRow := [(499, .aload_n 1, 1, 500), (500, .aload_n 0, 1, 501), (501, .iload_n 3, 1, 502), (502, .iconst 1, 1, 503), (503, .iadd, 1, 504), (504, .iaload, 1, 505), (505, .aload_n 0, 1, 506), (506, .iload_n 3, 1, 507), (507, .iconst 2, 1, 508), (508, .iadd, 1, 509), (509, .iaload, 1, 510), (510, .invokevirtual 60, 3, 513), (513, .aload_n 2, 1, 514), (514, .aload_n 0, 1, 515), (515, .iload_n 3, 1, 516), (516, .iconst 1, 1, 517), (517, .iadd, 1, 518), (518, .iaload, 1, 519), (519, .aload_n 0, 1, 520), (520, .iload_n 3, 1, 521), (521, .iconst 2, 1, 522), (522, .iadd, 1, 523), (523, .iaload, 1, 524), (524, .invokevirtual 63, 3, 527), (527, .if_icmp .eq 697, 3, 530), (530, .iconst 0, 1, 531), (531, .ireturn, 1, 532)]
theorem lt_behind_ok : lchk lt_behind = true := by decide +kernel
theorem ll_60 : zLV R_law 60 m_B_behind 10 2 := ⟨zin_ALL (by decide +kernel), zin_ALL (by decide +kernel), zin_ALL (by decide +kernel), zin_ALL (by decide +kernel), rfl, ⟨by decide +kernel, by decide +kernel, by decide +kernel⟩⟩
theorem ll_63 : zLV R_law 63 m_M_behind 11 2 := ⟨zin_ALL (by decide +kernel), zin_ALL (by decide +kernel), zin_ALL (by decide +kernel), zin_ALL (by decide +kernel), rfl, ⟨by decide +kernel, by decide +kernel, by decide +kernel⟩⟩
theorem lc_behind {b L i : Nat} {xs : Nat → Int32} {mem τ : zMem} (hi : i + 6 ≤ L) (hI : CI mem τ) (hJ : MI mem τ) (kk : ∀ mem' τ', CI mem' τ' → MI mem' τ' → LW b L xs 1224 i [] mem') : LW b L xs 499 i [] mem := by
  refine lj_a1 lt_behind_ok rfl ?_
  refine lj_arg 1 lt_behind_ok rfl rfl rfl rfl rfl (by omega) ?_
  refine lj_arg 2 lt_behind_ok rfl rfl rfl rfl rfl (by omega) ?_
  refine lj_Vi lt_behind_ok rfl ok_B_behind ll_60 (by decide) rfl rfl (Nat.le_of_ble_eq_true rfl) (ct_B_behind hI (lbnd _) (lbnd _)) (fun m1 h1 => ?_)
  obtain ⟨hI1, hc1⟩ := h1
  have hJ1 := MI_48 hc1.c48 hJ
  refine lj_a2 lt_behind_ok rfl ?_
  refine lj_arg 1 lt_behind_ok rfl rfl rfl rfl rfl (by omega) ?_
  refine lj_arg 2 lt_behind_ok rfl rfl rfl rfl rfl (by omega) ?_
  refine lj_Vi lt_behind_ok rfl ok_M_behind ll_63 (by decide) rfl rfl (Nat.le_of_ble_eq_true rfl) (ct_M_behind hJ1 (lbnd _) (lbnd _)) (fun m2 h2 => ?_)
  obtain ⟨hJ2, hc2⟩ := h2
  refine lj_ieq 1224 lt_behind_ok rfl (by decide) ?_
  exact kk _ _ (CI_47 hc2 hI1) hJ2
def lt_owes : List zRow := [(532, .aload_n 1, 1, 533), (533, .aload_n 0, 1, 534), (534, .iload_n 3, 1, 535), (535, .iconst 1, 1, 536), (536, .iadd, 1, 537), (537, .iaload, 1, 538), (538, .aload_n 0, 1, 539), (539, .iload_n 3, 1, 540), (540, .iconst 2, 1, 541), (541, .iadd, 1, 542), (542, .iaload, 1, 543), (543, .aload_n 0, 1, 544), (544, .iload_n 3, 1, 545), (545, .iconst 3, 1, 546), (546, .iadd, 1, 547), (547, .iaload, 1, 548), (548, .invokevirtual 64, 3, 551), (551, .aload_n 2, 1, 552), (552, .aload_n 0, 1, 553), (553, .iload_n 3, 1, 554), (554, .iconst 1, 1, 555), (555, .iadd, 1, 556), (556, .iaload, 1, 557), (557, .aload_n 0, 1, 558), (558, .iload_n 3, 1, 559), (559, .iconst 2, 1, 560), (560, .iadd, 1, 561), (561, .iaload, 1, 562), (562, .aload_n 0, 1, 563), (563, .iload_n 3, 1, 564), (564, .iconst 3, 1, 565), (565, .iadd, 1, 566), (566, .iaload, 1, 567), (567, .invokevirtual 67, 3, 570), (570, .if_icmp .eq 654, 3, 573), (573, .iconst 0, 1, 574), (574, .ireturn, 1, 575)]
theorem lt_owes_ok : lchk lt_owes = true := by decide +kernel
theorem ll_64 : zLV R_law 64 m_B_owes 10 3 := ⟨zin_ALL (by decide +kernel), zin_ALL (by decide +kernel), zin_ALL (by decide +kernel), zin_ALL (by decide +kernel), rfl, ⟨by decide +kernel, by decide +kernel, by decide +kernel⟩⟩
theorem ll_67 : zLV R_law 67 m_M_owes 11 3 := ⟨zin_ALL (by decide +kernel), zin_ALL (by decide +kernel), zin_ALL (by decide +kernel), zin_ALL (by decide +kernel), rfl, ⟨by decide +kernel, by decide +kernel, by decide +kernel⟩⟩
theorem lc_owes {b L i : Nat} {xs : Nat → Int32} {mem τ : zMem} (hi : i + 6 ≤ L) (hI : CI mem τ) (hJ : MI mem τ) (kk : ∀ mem' τ', CI mem' τ' → MI mem' τ' → LW b L xs 1224 i [] mem') : LW b L xs 532 i [] mem := by
  refine lj_a1 lt_owes_ok rfl ?_
  refine lj_arg 1 lt_owes_ok rfl rfl rfl rfl rfl (by omega) ?_
  refine lj_arg 2 lt_owes_ok rfl rfl rfl rfl rfl (by omega) ?_
  refine lj_arg 3 lt_owes_ok rfl rfl rfl rfl rfl (by omega) ?_
  refine lj_Vi lt_owes_ok rfl ok_B_owes ll_64 (by decide) rfl rfl (Nat.le_of_ble_eq_true rfl) (ct_B_owes hI (lbnd _) (lbnd _) (lbnd _)) (fun m1 h1 => ?_)
  obtain ⟨hI1, hc1⟩ := h1
  have hJ1 := MI_48 hc1.c48 hJ
  refine lj_a2 lt_owes_ok rfl ?_
  refine lj_arg 1 lt_owes_ok rfl rfl rfl rfl rfl (by omega) ?_
  refine lj_arg 2 lt_owes_ok rfl rfl rfl rfl rfl (by omega) ?_
  refine lj_arg 3 lt_owes_ok rfl rfl rfl rfl rfl (by omega) ?_
  refine lj_Vi lt_owes_ok rfl ok_M_owes ll_67 (by decide) rfl rfl (Nat.le_of_ble_eq_true rfl) (ct_M_owes hJ1 (lbnd _) (lbnd _) (lbnd _)) (fun m2 h2 => ?_)
  obtain ⟨hJ2, hc2⟩ := h2
  refine lj_ieq 1224 lt_owes_ok rfl (by decide) ?_
  exact kk _ _ (CI_47 hc2 hI1) hJ2.1
def lt_first : List zRow := [(575, .aload_n 1, 1, 576), (576, .aload_n 0, 1, 577), (577, .iload_n 3, 1, 578), (578, .iconst 1, 1, 579), (579, .iadd, 1, 580), (580, .iaload, 1, 581), (581, .invokevirtual 68, 3, 584), (584, .aload_n 2, 1, 585), (585, .aload_n 0, 1, 586), (586, .iload_n 3, 1, 587), (587, .iconst 1, 1, 588), (588, .iadd, 1, 589), (589, .iaload, 1, 590), (590, .invokevirtual 71, 3, 593), (593, .if_icmp .eq 631, 3, 596), (596, .iconst 0, 1, 597), (597, .ireturn, 1, 598)]
theorem lt_first_ok : lchk lt_first = true := by decide +kernel
theorem ll_68 : zLV R_law 68 m_B_first 10 1 := ⟨zin_ALL (by decide +kernel), zin_ALL (by decide +kernel), zin_ALL (by decide +kernel), zin_ALL (by decide +kernel), rfl, ⟨by decide +kernel, by decide +kernel, by decide +kernel⟩⟩
theorem ll_71 : zLV R_law 71 m_M_first 11 1 := ⟨zin_ALL (by decide +kernel), zin_ALL (by decide +kernel), zin_ALL (by decide +kernel), zin_ALL (by decide +kernel), rfl, ⟨by decide +kernel, by decide +kernel, by decide +kernel⟩⟩
theorem lc_first {b L i : Nat} {xs : Nat → Int32} {mem τ : zMem} (hi : i + 6 ≤ L) (hI : CI mem τ) (hJ : MI mem τ) (kk : ∀ mem' τ', CI mem' τ' → MI mem' τ' → LW b L xs 1224 i [] mem') : LW b L xs 575 i [] mem := by
  refine lj_a1 lt_first_ok rfl ?_
  refine lj_arg 1 lt_first_ok rfl rfl rfl rfl rfl (by omega) ?_
  refine lj_Vi lt_first_ok rfl ok_B_first ll_68 (by decide) rfl rfl (Nat.le_of_ble_eq_true rfl) (ct_B_first hI (lbnd _)) (fun m1 h1 => ?_)
  obtain ⟨hI1, hc1⟩ := h1
  have hJ1 := MI_48 hc1.c48 hJ
  refine lj_a2 lt_first_ok rfl ?_
  refine lj_arg 1 lt_first_ok rfl rfl rfl rfl rfl (by omega) ?_
  refine lj_Vi lt_first_ok rfl ok_M_first ll_71 (by decide) rfl rfl (Nat.le_of_ble_eq_true rfl) (ct_M_first hJ1 (lbnd _)) (fun m2 h2 => ?_)
  obtain ⟨hJ2, hc2⟩ := h2
  refine lj_ieq 1224 lt_first_ok rfl (by decide) ?_
  exact kk _ _ (CI_47 hc2 hI1) hJ2
def lt_ends : List zRow := [(598, .aload_n 1, 1, 599), (599, .aload_n 0, 1, 600), (600, .iload_n 3, 1, 601), (601, .iconst 1, 1, 602), (602, .iadd, 1, 603), (603, .iaload, 1, 604), (604, .aload_n 0, 1, 605), (605, .iload_n 3, 1, 606), (606, .iconst 2, 1, 607), (607, .iadd, 1, 608), (608, .iaload, 1, 609), (609, .aload_n 0, 1, 610), (610, .iload_n 3, 1, 611), (611, .iconst 3, 1, 612), (612, .iadd, 1, 613), (613, .iaload, 1, 614), (614, .invokevirtual 72, 3, 617), (617, .aload_n 2, 1, 618), (618, .aload_n 0, 1, 619), (619, .iload_n 3, 1, 620), (620, .iconst 1, 1, 621), (621, .iadd, 1, 622), (622, .iaload, 1, 623), (623, .aload_n 0, 1, 624), (624, .iload_n 3, 1, 625), (625, .iconst 2, 1, 626), (626, .iadd, 1, 627), (627, .iaload, 1, 628), (628, .aload_n 0, 1, 629), (629, .iload_n 3, 1, 630), (630, .iconst 3, 1, 631), (631, .iadd, 1, 632), (632, .iaload, 1, 633), (633, .invokevirtual 75, 3, 636), (636, .if_icmp .eq 588, 3, 639), (639, .iconst 0, 1, 640), (640, .ireturn, 1, 641)]
theorem lt_ends_ok : lchk lt_ends = true := by decide +kernel
theorem ll_72 : zLV R_law 72 m_B_ends 10 3 := ⟨zin_ALL (by decide +kernel), zin_ALL (by decide +kernel), zin_ALL (by decide +kernel), zin_ALL (by decide +kernel), rfl, ⟨by decide +kernel, by decide +kernel, by decide +kernel⟩⟩
theorem ll_75 : zLV R_law 75 m_M_ends 11 3 := ⟨zin_ALL (by decide +kernel), zin_ALL (by decide +kernel), zin_ALL (by decide +kernel), zin_ALL (by decide +kernel), rfl, ⟨by decide +kernel, by decide +kernel, by decide +kernel⟩⟩
theorem lc_ends {b L i : Nat} {xs : Nat → Int32} {mem τ : zMem} (hi : i + 6 ≤ L) (hI : CI mem τ) (hJ : MI mem τ) (kk : ∀ mem' τ', CI mem' τ' → MI mem' τ' → LW b L xs 1224 i [] mem') : LW b L xs 598 i [] mem := by
  refine lj_a1 lt_ends_ok rfl ?_
  refine lj_arg 1 lt_ends_ok rfl rfl rfl rfl rfl (by omega) ?_
  refine lj_arg 2 lt_ends_ok rfl rfl rfl rfl rfl (by omega) ?_
  refine lj_arg 3 lt_ends_ok rfl rfl rfl rfl rfl (by omega) ?_
  refine lj_Vi lt_ends_ok rfl ok_B_ends ll_72 (by decide) rfl rfl (Nat.le_of_ble_eq_true rfl) (ct_B_ends hI (lbnd _) (lbnd _) (lbnd _)) (fun m1 h1 => ?_)
  obtain ⟨hI1, hc1⟩ := h1
  have hJ1 := MI_48 hc1.c48 hJ
  refine lj_a2 lt_ends_ok rfl ?_
  refine lj_arg 1 lt_ends_ok rfl rfl rfl rfl rfl (by omega) ?_
  refine lj_arg 2 lt_ends_ok rfl rfl rfl rfl rfl (by omega) ?_
  refine lj_arg 3 lt_ends_ok rfl rfl rfl rfl rfl (by omega) ?_
  refine lj_Vi lt_ends_ok rfl ok_M_ends ll_75 (by decide) rfl rfl (Nat.le_of_ble_eq_true rfl) (ct_M_ends hJ1 (lbnd _) (lbnd _) (lbnd _)) (fun m2 h2 => ?_)
  obtain ⟨hJ2, hc2⟩ := h2
  refine lj_ieq 1224 lt_ends_ok rfl (by decide) ?_
  exact kk _ _ (CI_47 hc2 hI1) hJ2.1
def lt_rings : List zRow := [(641, .aload_n 1, 1, 642), (642, .aload_n 0, 1, 643), (643, .iload_n 3, 1, 644), (644, .iconst 1, 1, 645), (645, .iadd, 1, 646), (646, .iaload, 1, 647), (647, .aload_n 0, 1, 648), (648, .iload_n 3, 1, 649), (649, .iconst 2, 1, 650), (650, .iadd, 1, 651), (651, .iaload, 1, 652), (652, .invokevirtual 76, 3, 655), (655, .aload_n 2, 1, 656), (656, .aload_n 0, 1, 657), (657, .iload_n 3, 1, 658), (658, .iconst 1, 1, 659), (659, .iadd, 1, 660), (660, .iaload, 1, 661), (661, .aload_n 0, 1, 662), (662, .iload_n 3, 1, 663), (663, .iconst 2, 1, 664), (664, .iadd, 1, 665), (665, .iaload, 1, 666), (666, .invokevirtual 79, 3, 669), (669, .if_icmp .eq 555, 3, 672), (672, .iconst 0, 1, 673), (673, .ireturn, 1, 674)]
theorem lt_rings_ok : lchk lt_rings = true := by decide +kernel
theorem ll_76 : zLV R_law 76 m_B_rings 10 2 := ⟨zin_ALL (by decide +kernel), zin_ALL (by decide +kernel), zin_ALL (by decide +kernel), zin_ALL (by decide +kernel), rfl, ⟨by decide +kernel, by decide +kernel, by decide +kernel⟩⟩
theorem ll_79 : zLV R_law 79 m_M_rings 11 2 := ⟨zin_ALL (by decide +kernel), zin_ALL (by decide +kernel), zin_ALL (by decide +kernel), zin_ALL (by decide +kernel), rfl, ⟨by decide +kernel, by decide +kernel, by decide +kernel⟩⟩
theorem lc_rings {b L i : Nat} {xs : Nat → Int32} {mem τ : zMem} (hi : i + 6 ≤ L) (hI : CI mem τ) (hJ : MI mem τ) (kk : ∀ mem' τ', CI mem' τ' → MI mem' τ' → LW b L xs 1224 i [] mem') : LW b L xs 641 i [] mem := by
  refine lj_a1 lt_rings_ok rfl ?_
  refine lj_arg 1 lt_rings_ok rfl rfl rfl rfl rfl (by omega) ?_
  refine lj_arg 2 lt_rings_ok rfl rfl rfl rfl rfl (by omega) ?_
  refine lj_Vi lt_rings_ok rfl ok_B_rings ll_76 (by decide) rfl rfl (Nat.le_of_ble_eq_true rfl) (ct_B_rings hI (lbnd _) (lbnd _)) (fun m1 h1 => ?_)
  obtain ⟨hI1, hc1⟩ := h1
  have hJ1 := MI_48 hc1.c48 hJ
  refine lj_a2 lt_rings_ok rfl ?_
  refine lj_arg 1 lt_rings_ok rfl rfl rfl rfl rfl (by omega) ?_
  refine lj_arg 2 lt_rings_ok rfl rfl rfl rfl rfl (by omega) ?_
  refine lj_Vi lt_rings_ok rfl ok_M_rings ll_79 (by decide) rfl rfl (Nat.le_of_ble_eq_true rfl) (ct_M_rings hJ1 (lbnd _) (lbnd _)) (fun m2 h2 => ?_)
  obtain ⟨hJ2, hc2⟩ := h2
  refine lj_ieq 1224 lt_rings_ok rfl (by decide) ?_
  exact kk _ _ (CI_47 hc2 hI1) hJ2
def lt_shade : List zRow := [(674, .aload_n 1, 1, 675), (675, .aload_n 0, 1, 676), (676, .iload_n 3, 1, 677), (677, .iconst 1, 1, 678), (678, .iadd, 1, 679), (679, .iaload, 1, 680), (680, .invokevirtual 80, 3, 683), (683, .aload_n 2, 1, 684), (684, .aload_n 0, 1, 685), (685, .iload_n 3, 1, 686), (686, .iconst 1, 1, 687), (687, .iadd, 1, 688), (688, .iaload, 1, 689), (689, .invokevirtual 83, 3, 692), (692, .if_icmp .eq 532, 3, 695), (695, .iconst 0, 1, 696), (696, .ireturn, 1, 697)]
theorem lt_shade_ok : lchk lt_shade = true := by decide +kernel
theorem ll_80 : zLV R_law 80 m_B_shade 10 1 := ⟨zin_ALL (by decide +kernel), zin_ALL (by decide +kernel), zin_ALL (by decide +kernel), zin_ALL (by decide +kernel), rfl, ⟨by decide +kernel, by decide +kernel, by decide +kernel⟩⟩
theorem ll_83 : zLV R_law 83 m_M_shade 11 1 := ⟨zin_ALL (by decide +kernel), zin_ALL (by decide +kernel), zin_ALL (by decide +kernel), zin_ALL (by decide +kernel), rfl, ⟨by decide +kernel, by decide +kernel, by decide +kernel⟩⟩
theorem lc_shade {b L i : Nat} {xs : Nat → Int32} {mem τ : zMem} (hi : i + 6 ≤ L) (hI : CI mem τ) (hJ : MI mem τ) (kk : ∀ mem' τ', CI mem' τ' → MI mem' τ' → LW b L xs 1224 i [] mem') : LW b L xs 674 i [] mem := by
  refine lj_a1 lt_shade_ok rfl ?_
  refine lj_arg 1 lt_shade_ok rfl rfl rfl rfl rfl (by omega) ?_
  refine lj_Vi lt_shade_ok rfl ok_B_shade ll_80 (by decide) rfl rfl (Nat.le_of_ble_eq_true rfl) (ct_B_shade hI (lbnd _)) (fun m1 h1 => ?_)
  obtain ⟨hI1, hc1⟩ := h1
  have hJ1 := MI_48 hc1 hJ
  refine lj_a2 lt_shade_ok rfl ?_
  refine lj_arg 1 lt_shade_ok rfl rfl rfl rfl rfl (by omega) ?_
  refine lj_Vi lt_shade_ok rfl ok_M_shade ll_83 (by decide) rfl rfl (Nat.le_of_ble_eq_true rfl) (ct_M_shade hJ1 (lbnd _)) (fun m2 h2 => ?_)
  obtain ⟨hJ2, hc2⟩ := h2
  refine lj_ieq 1224 lt_shade_ok rfl (by decide) ?_
  exact kk _ _ (CI_47 hc2 hI1) hJ2
def lt_stroll : List zRow := [(697, .aload_n 1, 1, 698), (698, .aload_n 0, 1, 699), (699, .iload_n 3, 1, 700), (700, .iconst 1, 1, 701), (701, .iadd, 1, 702), (702, .iaload, 1, 703), (703, .aload_n 0, 1, 704), (704, .iload_n 3, 1, 705), (705, .iconst 2, 1, 706), (706, .iadd, 1, 707), (707, .iaload, 1, 708), (708, .aload_n 0, 1, 709), (709, .iload_n 3, 1, 710), (710, .iconst 3, 1, 711), (711, .iadd, 1, 712), (712, .iaload, 1, 713), (713, .invokevirtual 84, 3, 716), (716, .aload_n 2, 1, 717), (717, .aload_n 0, 1, 718), (718, .iload_n 3, 1, 719), (719, .iconst 1, 1, 720), (720, .iadd, 1, 721), (721, .iaload, 1, 722), (722, .aload_n 0, 1, 723), (723, .iload_n 3, 1, 724), (724, .iconst 2, 1, 725), (725, .iadd, 1, 726), (726, .iaload, 1, 727), (727, .aload_n 0, 1, 728), (728, .iload_n 3, 1, 729), (729, .iconst 3, 1, 730), (730, .iadd, 1, 731), (731, .iaload, 1, 732), (732, .invokevirtual 87, 3, 735), (735, .if_icmp .eq 489, 3, 738), (738, .iconst 0, 1, 739), (739, .ireturn, 1, 740)]
theorem lt_stroll_ok : lchk lt_stroll = true := by decide +kernel
theorem ll_84 : zLV R_law 84 m_B_stroll 10 3 := ⟨zin_ALL (by decide +kernel), zin_ALL (by decide +kernel), zin_ALL (by decide +kernel), zin_ALL (by decide +kernel), rfl, ⟨by decide +kernel, by decide +kernel, by decide +kernel⟩⟩
theorem ll_87 : zLV R_law 87 m_M_stroll 11 3 := ⟨zin_ALL (by decide +kernel), zin_ALL (by decide +kernel), zin_ALL (by decide +kernel), zin_ALL (by decide +kernel), rfl, ⟨by decide +kernel, by decide +kernel, by decide +kernel⟩⟩
theorem lc_stroll {b L i : Nat} {xs : Nat → Int32} {mem τ : zMem} (hi : i + 6 ≤ L) (hI : CI mem τ) (hJ : MI mem τ) (kk : ∀ mem' τ', CI mem' τ' → MI mem' τ' → LW b L xs 1224 i [] mem') : LW b L xs 697 i [] mem := by
  refine lj_a1 lt_stroll_ok rfl ?_
  refine lj_arg 1 lt_stroll_ok rfl rfl rfl rfl rfl (by omega) ?_
  refine lj_arg 2 lt_stroll_ok rfl rfl rfl rfl rfl (by omega) ?_
  refine lj_arg 3 lt_stroll_ok rfl rfl rfl rfl rfl (by omega) ?_
  refine lj_Vi lt_stroll_ok rfl ok_B_stroll ll_84 (by decide) rfl rfl (Nat.le_of_ble_eq_true rfl) (ct_B_stroll hI (lbnd _) (lbnd _) (lbnd _)) (fun m1 h1 => ?_)
  obtain ⟨hI1, hc1⟩ := h1
  have hJ1 := MI_48 hc1 hJ
  refine lj_a2 lt_stroll_ok rfl ?_
  refine lj_arg 1 lt_stroll_ok rfl rfl rfl rfl rfl (by omega) ?_
  refine lj_arg 2 lt_stroll_ok rfl rfl rfl rfl rfl (by omega) ?_
  refine lj_arg 3 lt_stroll_ok rfl rfl rfl rfl rfl (by omega) ?_
  refine lj_Vi lt_stroll_ok rfl ok_M_stroll ll_87 (by decide) rfl rfl (Nat.le_of_ble_eq_true rfl) (ct_M_stroll hJ1 (fun p r hp => cstT_r hI1 hp r) (lbnd _) (lbnd _) (lbnd _)) (fun m2 h2 => ?_)
  obtain ⟨hJ2, hc2⟩ := h2
  refine lj_ieq 1224 lt_stroll_ok rfl (by decide) ?_
  exact kk _ _ (CI_47 hc2 hI1) hJ2
def lt_seen : List zRow := [(740, .aload_n 1, 1, 741), (741, .aload_n 0, 1, 742), (742, .iload_n 3, 1, 743), (743, .iconst 1, 1, 744), (744, .iadd, 1, 745), (745, .iaload, 1, 746), (746, .aload_n 0, 1, 747), (747, .iload_n 3, 1, 748), (748, .iconst 2, 1, 749), (749, .iadd, 1, 750), (750, .iaload, 1, 751), (751, .aload_n 0, 1, 752), (752, .iload_n 3, 1, 753), (753, .iconst 3, 1, 754), (754, .iadd, 1, 755), (755, .iaload, 1, 756), (756, .invokevirtual 88, 3, 759), (759, .aload_n 2, 1, 760), (760, .aload_n 0, 1, 761), (761, .iload_n 3, 1, 762), (762, .iconst 1, 1, 763), (763, .iadd, 1, 764), (764, .iaload, 1, 765), (765, .aload_n 0, 1, 766), (766, .iload_n 3, 1, 767), (767, .iconst 2, 1, 768), (768, .iadd, 1, 769), (769, .iaload, 1, 770), (770, .aload_n 0, 1, 771), (771, .iload_n 3, 1, 772), (772, .iconst 3, 1, 773), (773, .iadd, 1, 774), (774, .iaload, 1, 775), (775, .invokevirtual 91, 3, 778), (778, .if_icmp .eq 446, 3, 781), (781, .iconst 0, 1, 782), (782, .ireturn, 1, 783)]
theorem lt_seen_ok : lchk lt_seen = true := by decide +kernel
theorem ll_88 : zLV R_law 88 m_B_seen 10 3 := ⟨zin_ALL (by decide +kernel), zin_ALL (by decide +kernel), zin_ALL (by decide +kernel), zin_ALL (by decide +kernel), rfl, ⟨by decide +kernel, by decide +kernel, by decide +kernel⟩⟩
theorem ll_91 : zLV R_law 91 m_M_seen 11 3 := ⟨zin_ALL (by decide +kernel), zin_ALL (by decide +kernel), zin_ALL (by decide +kernel), zin_ALL (by decide +kernel), rfl, ⟨by decide +kernel, by decide +kernel, by decide +kernel⟩⟩
theorem lc_seen {b L i : Nat} {xs : Nat → Int32} {mem τ : zMem} (hi : i + 6 ≤ L) (hI : CI mem τ) (hJ : MI mem τ) (kk : ∀ mem' τ', CI mem' τ' → MI mem' τ' → LW b L xs 1224 i [] mem') : LW b L xs 740 i [] mem := by
  refine lj_a1 lt_seen_ok rfl ?_
  refine lj_arg 1 lt_seen_ok rfl rfl rfl rfl rfl (by omega) ?_
  refine lj_arg 2 lt_seen_ok rfl rfl rfl rfl rfl (by omega) ?_
  refine lj_arg 3 lt_seen_ok rfl rfl rfl rfl rfl (by omega) ?_
  refine lj_Vi lt_seen_ok rfl ok_B_seen ll_88 (by decide) rfl rfl (Nat.le_of_ble_eq_true rfl) (ct_B_seen hI (lbnd _) (lbnd _) (lbnd _)) (fun m1 h1 => ?_)
  obtain ⟨hI1, hc1⟩ := h1
  have hJ1 := MI_48 hc1 hJ
  refine lj_a2 lt_seen_ok rfl ?_
  refine lj_arg 1 lt_seen_ok rfl rfl rfl rfl rfl (by omega) ?_
  refine lj_arg 2 lt_seen_ok rfl rfl rfl rfl rfl (by omega) ?_
  refine lj_arg 3 lt_seen_ok rfl rfl rfl rfl rfl (by omega) ?_
  refine lj_Vi lt_seen_ok rfl ok_M_seen ll_91 (by decide) rfl rfl (Nat.le_of_ble_eq_true rfl) (ct_M_seen hJ1 hI1.1 (lbnd _) (lbnd _) (lbnd _)) (fun m2 h2 => ?_)
  obtain ⟨hJ2, hc2⟩ := h2
  refine lj_ieq 1224 lt_seen_ok rfl (by decide) ?_
  exact kk _ _ (CI_47 hc2 hI1) hJ2
def lt_forget : List zRow := [(783, .aload_n 1, 1, 784), (784, .invokevirtual 92, 3, 787), (787, .aload_n 2, 1, 788), (788, .invokevirtual 96, 3, 791), (791, .if_icmp .eq 433, 3, 794), (794, .iconst 0, 1, 795), (795, .ireturn, 1, 796)]
theorem lt_forget_ok : lchk lt_forget = true := by decide +kernel
theorem ll_92 : zLV R_law 92 m_B_forget 10 0 := ⟨zin_ALL (by decide +kernel), zin_ALL (by decide +kernel), zin_ALL (by decide +kernel), zin_ALL (by decide +kernel), rfl, ⟨by decide +kernel, by decide +kernel, by decide +kernel⟩⟩
theorem ll_96 : zLV R_law 96 m_M_forget 11 0 := ⟨zin_ALL (by decide +kernel), zin_ALL (by decide +kernel), zin_ALL (by decide +kernel), zin_ALL (by decide +kernel), rfl, ⟨by decide +kernel, by decide +kernel, by decide +kernel⟩⟩
theorem lc_forget {b L i : Nat} {xs : Nat → Int32} {mem τ : zMem} (hi : i + 6 ≤ L) (hI : CI mem τ) (hJ : MI mem τ) (kk : ∀ mem' τ', CI mem' τ' → MI mem' τ' → LW b L xs 1224 i [] mem') : LW b L xs 783 i [] mem := by
  refine lj_a1 lt_forget_ok rfl ?_
  refine lj_Vi lt_forget_ok rfl ok_B_forget ll_92 (by decide) rfl rfl (Nat.le_of_ble_eq_true rfl) (ct_B_forget hI ) (fun m1 h1 => ?_)
  obtain ⟨hI1, hc1⟩ := h1
  have hJ1 := MI_48 hc1 hJ
  refine lj_a2 lt_forget_ok rfl ?_
  refine lj_Vi lt_forget_ok rfl ok_M_forget ll_96 (by decide) rfl rfl (Nat.le_of_ble_eq_true rfl) (ct_M_forget hJ1 hI1.1 ) (fun m2 h2 => ?_)
  obtain ⟨hJ2, hc2⟩ := h2
  refine lj_ieq 1224 lt_forget_ok rfl (by decide) ?_
  exact kk _ _ (CI_47 hc2 hI1) hJ2
def lt_never : List zRow := [(796, .aload_n 1, 1, 797), (797, .aload_n 0, 1, 798), (798, .iload_n 3, 1, 799), (799, .iconst 1, 1, 800), (800, .iadd, 1, 801), (801, .iaload, 1, 802), (802, .invokevirtual 97, 3, 805), (805, .aload_n 2, 1, 806), (806, .aload_n 0, 1, 807), (807, .iload_n 3, 1, 808), (808, .iconst 1, 1, 809), (809, .iadd, 1, 810), (810, .iaload, 1, 811), (811, .invokevirtual 100, 3, 814), (814, .if_icmp .eq 410, 3, 817), (817, .iconst 0, 1, 818), (818, .ireturn, 1, 819)]
theorem lt_never_ok : lchk lt_never = true := by decide +kernel
theorem ll_97 : zLV R_law 97 m_B_never 10 1 := ⟨zin_ALL (by decide +kernel), zin_ALL (by decide +kernel), zin_ALL (by decide +kernel), zin_ALL (by decide +kernel), rfl, ⟨by decide +kernel, by decide +kernel, by decide +kernel⟩⟩
theorem ll_100 : zLV R_law 100 m_M_never 11 1 := ⟨zin_ALL (by decide +kernel), zin_ALL (by decide +kernel), zin_ALL (by decide +kernel), zin_ALL (by decide +kernel), rfl, ⟨by decide +kernel, by decide +kernel, by decide +kernel⟩⟩
theorem lc_never {b L i : Nat} {xs : Nat → Int32} {mem τ : zMem} (hi : i + 6 ≤ L) (hI : CI mem τ) (hJ : MI mem τ) (kk : ∀ mem' τ', CI mem' τ' → MI mem' τ' → LW b L xs 1224 i [] mem') : LW b L xs 796 i [] mem := by
  refine lj_a1 lt_never_ok rfl ?_
  refine lj_arg 1 lt_never_ok rfl rfl rfl rfl rfl (by omega) ?_
  refine lj_Vi lt_never_ok rfl ok_B_never ll_97 (by decide) rfl rfl (Nat.le_of_ble_eq_true rfl) (ct_B_never hI (lbnd _)) (fun m1 h1 => ?_)
  obtain ⟨hI1, hc1⟩ := h1
  have hJ1 := MI_48 hc1 hJ
  refine lj_a2 lt_never_ok rfl ?_
  refine lj_arg 1 lt_never_ok rfl rfl rfl rfl rfl (by omega) ?_
  refine lj_Vi lt_never_ok rfl ok_M_never ll_100 (by decide) rfl rfl (Nat.le_of_ble_eq_true rfl) (ct_M_never hJ1 (lbnd _)) (fun m2 h2 => ?_)
  obtain ⟨hJ2, hc2⟩ := h2
  refine lj_ieq 1224 lt_never_ok rfl (by decide) ?_
  exact kk _ _ (CI_47 hc2 hI1) hJ2
def lt_pass : List zRow := [(819, .aload_n 1, 1, 820), (820, .invokevirtual 101, 3, 823), (823, .aload_n 2, 1, 824), (824, .invokevirtual 104, 3, 827), (827, .if_icmp .eq 397, 3, 830), (830, .iconst 0, 1, 831), (831, .ireturn, 1, 832)]
theorem lt_pass_ok : lchk lt_pass = true := by decide +kernel
theorem ll_101 : zLV R_law 101 m_B_pass 10 0 := ⟨zin_ALL (by decide +kernel), zin_ALL (by decide +kernel), zin_ALL (by decide +kernel), zin_ALL (by decide +kernel), rfl, ⟨by decide +kernel, by decide +kernel, by decide +kernel⟩⟩
theorem ll_104 : zLV R_law 104 m_M_pass 11 0 := ⟨zin_ALL (by decide +kernel), zin_ALL (by decide +kernel), zin_ALL (by decide +kernel), zin_ALL (by decide +kernel), rfl, ⟨by decide +kernel, by decide +kernel, by decide +kernel⟩⟩
theorem lc_pass {b L i : Nat} {xs : Nat → Int32} {mem τ : zMem} (hi : i + 6 ≤ L) (hI : CI mem τ) (hJ : MI mem τ) (kk : ∀ mem' τ', CI mem' τ' → MI mem' τ' → LW b L xs 1224 i [] mem') : LW b L xs 819 i [] mem := by
  refine lj_a1 lt_pass_ok rfl ?_
  refine lj_Vi lt_pass_ok rfl ok_B_pass ll_101 (by decide) rfl rfl (Nat.le_of_ble_eq_true rfl) (ct_B_pass hI ) (fun m1 h1 => ?_)
  obtain ⟨hI1, hc1⟩ := h1
  have hJ1 := MI_48 hc1 hJ
  refine lj_a2 lt_pass_ok rfl ?_
  refine lj_Vi lt_pass_ok rfl ok_M_pass ll_104 (by decide) rfl rfl (Nat.le_of_ble_eq_true rfl) (ct_M_pass hJ1 ) (fun m2 h2 => ?_)
  obtain ⟨hJ2, hc2⟩ := h2
  refine lj_ieq 1224 lt_pass_ok rfl (by decide) ?_
  exact kk _ _ (CI_47 hc2 hI1) hJ2
