/-! ===== the law: its cases, 3 ===== -/
def lt_forgets : List zRow := [(832, .aload_n 1, 1, 833), (833, .aload_n 0, 1, 834), (834, .iload_n 3, 1, 835), (835, .iconst 1, 1, 836), (836, .iadd, 1, 837), (837, .iaload, 1, 838), (838, .aload_n 0, 1, 839), (839, .iload_n 3, 1, 840), (840, .iconst 2, 1, 841), (841, .iadd, 1, 842), (842, .iaload, 1, 843), (843, .aload_n 0, 1, 844), (844, .iload_n 3, 1, 845), (845, .iconst 3, 1, 846), (846, .iadd, 1, 847), (847, .iaload, 1, 848), (848, .aload_n 0, 1, 849), (849, .iload_n 3, 1, 850), (850, .iconst 4, 1, 851), (851, .iadd, 1, 852), (852, .iaload, 1, 853), (853, .invokevirtual 105, 3, 856), (856, .aload_n 2, 1, 857), (857, .aload_n 0, 1, 858), (858, .iload_n 3, 1, 859), (859, .iconst 1, 1, 860), (860, .iadd, 1, 861), (861, .iaload, 1, 862), (862, .aload_n 0, 1, 863), (863, .iload_n 3, 1, 864), (864, .iconst 2, 1, 865), (865, .iadd, 1, 866), (866, .iaload, 1, 867), (867, .aload_n 0, 1, 868), (868, .iload_n 3, 1, 869), (869, .iconst 3, 1, 870), (870, .iadd, 1, 871), (871, .iaload, 1, 872), (872, .aload_n 0, 1, 873), (873, .iload_n 3, 1, 874), (874, .iconst 4, 1, 875), (875, .iadd, 1, 876), (876, .iaload, 1, 877), (877, .invokevirtual 109, 3, 880), (880, .lcmp, 1, 881), (881, .ifCond .eq 343, 3, 884), (884, .iconst 0, 1, 885), (885, .ireturn, 1, 886)]
theorem lt_forgets_ok : lchk lt_forgets = true := by decide +kernel
theorem ll_105 : zLV R_law 105 m_B_forgets 10 4 := ⟨zin_ALL (by decide +kernel), zin_ALL (by decide +kernel), zin_ALL (by decide +kernel), zin_ALL (by decide +kernel), rfl, ⟨by decide +kernel, by decide +kernel, by decide +kernel⟩⟩
theorem ll_109 : zLV R_law 109 m_M_forgets 11 4 := ⟨zin_ALL (by decide +kernel), zin_ALL (by decide +kernel), zin_ALL (by decide +kernel), zin_ALL (by decide +kernel), rfl, ⟨by decide +kernel, by decide +kernel, by decide +kernel⟩⟩
theorem lc_forgets {b L i : Nat} {xs : Nat → Int32} {mem τ : zMem} (hi : i + 6 ≤ L) (hI : CI mem τ) (hJ : MI mem τ) (kk : ∀ mem' τ', CI mem' τ' → MI mem' τ' → LW b L xs 1224 i [] mem') : LW b L xs 832 i [] mem := by
  refine lj_a1 lt_forgets_ok rfl ?_
  refine lj_arg 1 lt_forgets_ok rfl rfl rfl rfl rfl (by omega) ?_
  refine lj_arg 2 lt_forgets_ok rfl rfl rfl rfl rfl (by omega) ?_
  refine lj_arg 3 lt_forgets_ok rfl rfl rfl rfl rfl (by omega) ?_
  refine lj_arg 4 lt_forgets_ok rfl rfl rfl rfl rfl (by omega) ?_
  refine lj_Vl lt_forgets_ok rfl ok_B_forgets ll_105 (by decide) rfl rfl (Nat.le_of_ble_eq_true rfl) (ct_B_forgets hI (lbnd _) (lbnd _) (lbnd _) (lbnd _)) (fun m1 h1 => ?_)
  obtain ⟨hI1, hc1⟩ := h1
  have hJ1 := MI_48 hc1 hJ
  refine lj_a2 lt_forgets_ok rfl ?_
  refine lj_arg 1 lt_forgets_ok rfl rfl rfl rfl rfl (by omega) ?_
  refine lj_arg 2 lt_forgets_ok rfl rfl rfl rfl rfl (by omega) ?_
  refine lj_arg 3 lt_forgets_ok rfl rfl rfl rfl rfl (by omega) ?_
  refine lj_arg 4 lt_forgets_ok rfl rfl rfl rfl rfl (by omega) ?_
  refine lj_Vl lt_forgets_ok rfl ok_M_forgets ll_109 (by decide) rfl rfl (Nat.le_of_ble_eq_true rfl) (ct_M_forgets hJ1 (lbnd _) (lbnd _) (lbnd _) (lbnd _)) (fun m2 h2 => ?_)
  obtain ⟨hJ2, hc2⟩ := h2
  refine lj_leq 1224 lt_forgets_ok rfl rfl (by decide) ?_
  exact kk _ _ (CI_47 hc2 hI1) hJ2
def lt_season : List zRow := [(886, .aload_n 1, 1, 887), (887, .aload_n 0, 1, 888), (888, .iload_n 3, 1, 889), (889, .iconst 1, 1, 890), (890, .iadd, 1, 891), (891, .iaload, 1, 892), (892, .aload_n 0, 1, 893), (893, .iload_n 3, 1, 894), (894, .iconst 2, 1, 895), (895, .iadd, 1, 896), (896, .iaload, 1, 897), (897, .aload_n 0, 1, 898), (898, .iload_n 3, 1, 899), (899, .iconst 3, 1, 900), (900, .iadd, 1, 901), (901, .iaload, 1, 902), (902, .invokevirtual 110, 3, 905), (905, .aload_n 2, 1, 906), (906, .aload_n 0, 1, 907), (907, .iload_n 3, 1, 908), (908, .iconst 1, 1, 909), (909, .iadd, 1, 910), (910, .iaload, 1, 911), (911, .aload_n 0, 1, 912), (912, .iload_n 3, 1, 913), (913, .iconst 2, 1, 914), (914, .iadd, 1, 915), (915, .iaload, 1, 916), (916, .aload_n 0, 1, 917), (917, .iload_n 3, 1, 918), (918, .iconst 3, 1, 919), (919, .iadd, 1, 920), (920, .iaload, 1, 921), (921, .invokevirtual 113, 3, 924), (924, .if_icmp .eq 300, 3, 927), (927, .iconst 0, 1, 928), (928, .ireturn, 1, 929)]
theorem lt_season_ok : lchk lt_season = true := by decide +kernel
theorem ll_110 : zLV R_law 110 m_B_season 10 3 := ⟨zin_ALL (by decide +kernel), zin_ALL (by decide +kernel), zin_ALL (by decide +kernel), zin_ALL (by decide +kernel), rfl, ⟨by decide +kernel, by decide +kernel, by decide +kernel⟩⟩
theorem ll_113 : zLV R_law 113 m_M_season 11 3 := ⟨zin_ALL (by decide +kernel), zin_ALL (by decide +kernel), zin_ALL (by decide +kernel), zin_ALL (by decide +kernel), rfl, ⟨by decide +kernel, by decide +kernel, by decide +kernel⟩⟩
theorem lc_season {b L i : Nat} {xs : Nat → Int32} {mem τ : zMem} (hi : i + 6 ≤ L) (hI : CI mem τ) (hJ : MI mem τ) (kk : ∀ mem' τ', CI mem' τ' → MI mem' τ' → LW b L xs 1224 i [] mem') : LW b L xs 886 i [] mem := by
  refine lj_a1 lt_season_ok rfl ?_
  refine lj_arg 1 lt_season_ok rfl rfl rfl rfl rfl (by omega) ?_
  refine lj_arg 2 lt_season_ok rfl rfl rfl rfl rfl (by omega) ?_
  refine lj_arg 3 lt_season_ok rfl rfl rfl rfl rfl (by omega) ?_
  refine lj_Vi lt_season_ok rfl ok_B_season ll_110 (by decide) rfl rfl (Nat.le_of_ble_eq_true rfl) (ct_B_season hI (lbnd _) (lbnd _) (lbnd _)) (fun m1 h1 => ?_)
  obtain ⟨hI1, hc1⟩ := h1
  have hJ1 := MI_48 hc1.c48 hJ
  refine lj_a2 lt_season_ok rfl ?_
  refine lj_arg 1 lt_season_ok rfl rfl rfl rfl rfl (by omega) ?_
  refine lj_arg 2 lt_season_ok rfl rfl rfl rfl rfl (by omega) ?_
  refine lj_arg 3 lt_season_ok rfl rfl rfl rfl rfl (by omega) ?_
  refine lj_Vi lt_season_ok rfl ok_M_season ll_113 (by decide) rfl rfl (Nat.le_of_ble_eq_true rfl) (ct_M_season hJ1 (lbnd _) (lbnd _) (lbnd _)) (fun m2 h2 => ?_)
  obtain ⟨hJ2, hc2⟩ := h2
  refine lj_ieq 1224 lt_season_ok rfl (by decide) ?_
  exact kk _ _ (CI_47 hc2 hI1) hJ2
def lt_sheet : List zRow := [(929, .aload_n 1, 1, 930), (930, .aload_n 0, 1, 931), (931, .iload_n 3, 1, 932), (932, .iconst 1, 1, 933), (933, .iadd, 1, 934), (934, .iaload, 1, 935), (935, .aload_n 0, 1, 936), (936, .iload_n 3, 1, 937), (937, .iconst 2, 1, 938), (938, .iadd, 1, 939), (939, .iaload, 1, 940), (940, .aload_n 0, 1, 941), (941, .iload_n 3, 1, 942), (942, .iconst 3, 1, 943), (943, .iadd, 1, 944), (944, .iaload, 1, 945), (945, .invokevirtual 114, 3, 948), (948, .aload_n 2, 1, 949), (949, .aload_n 0, 1, 950), (950, .iload_n 3, 1, 951), (951, .iconst 1, 1, 952), (952, .iadd, 1, 953), (953, .iaload, 1, 954), (954, .aload_n 0, 1, 955), (955, .iload_n 3, 1, 956), (956, .iconst 2, 1, 957), (957, .iadd, 1, 958), (958, .iaload, 1, 959), (959, .aload_n 0, 1, 960), (960, .iload_n 3, 1, 961), (961, .iconst 3, 1, 962), (962, .iadd, 1, 963), (963, .iaload, 1, 964), (964, .invokevirtual 117, 3, 967), (967, .if_icmp .eq 257, 3, 970), (970, .iconst 0, 1, 971), (971, .ireturn, 1, 972)]
theorem lt_sheet_ok : lchk lt_sheet = true := by decide +kernel
theorem ll_114 : zLV R_law 114 m_B_sheet 10 3 := ⟨zin_ALL (by decide +kernel), zin_ALL (by decide +kernel), zin_ALL (by decide +kernel), zin_ALL (by decide +kernel), rfl, ⟨by decide +kernel, by decide +kernel, by decide +kernel⟩⟩
theorem ll_117 : zLV R_law 117 m_M_sheet 11 3 := ⟨zin_ALL (by decide +kernel), zin_ALL (by decide +kernel), zin_ALL (by decide +kernel), zin_ALL (by decide +kernel), rfl, ⟨by decide +kernel, by decide +kernel, by decide +kernel⟩⟩
theorem lc_sheet {b L i : Nat} {xs : Nat → Int32} {mem τ : zMem} (hi : i + 6 ≤ L) (hI : CI mem τ) (hJ : MI mem τ) (kk : ∀ mem' τ', CI mem' τ' → MI mem' τ' → LW b L xs 1224 i [] mem') : LW b L xs 929 i [] mem := by
  refine lj_a1 lt_sheet_ok rfl ?_
  refine lj_arg 1 lt_sheet_ok rfl rfl rfl rfl rfl (by omega) ?_
  refine lj_arg 2 lt_sheet_ok rfl rfl rfl rfl rfl (by omega) ?_
  refine lj_arg 3 lt_sheet_ok rfl rfl rfl rfl rfl (by omega) ?_
  refine lj_Vi lt_sheet_ok rfl ok_B_sheet ll_114 (by decide) rfl rfl (Nat.le_of_ble_eq_true rfl) (ct_B_sheet hI (lbnd _) (lbnd _) (lbnd _)) (fun m1 h1 => ?_)
  obtain ⟨hI1, hc1⟩ := h1
  have hJ1 := MI_48 hc1 hJ
  refine lj_a2 lt_sheet_ok rfl ?_
  refine lj_arg 1 lt_sheet_ok rfl rfl rfl rfl rfl (by omega) ?_
  refine lj_arg 2 lt_sheet_ok rfl rfl rfl rfl rfl (by omega) ?_
  refine lj_arg 3 lt_sheet_ok rfl rfl rfl rfl rfl (by omega) ?_
  refine lj_Vi lt_sheet_ok rfl ok_M_sheet ll_117 (by decide) rfl rfl (Nat.le_of_ble_eq_true rfl) (ct_M_sheet hJ1 hI1.1 (lbnd _) (lbnd _) (lbnd _)) (fun m2 h2 => ?_)
  obtain ⟨hJ2, hc2⟩ := h2
  refine lj_ieq 1224 lt_sheet_ok rfl (by decide) ?_
  exact kk _ _ (CI_47 hc2 hI1) hJ2
def lt_lose : List zRow := [(972, .aload_n 1, 1, 973), (973, .aload_n 0, 1, 974), (974, .iload_n 3, 1, 975), (975, .iconst 1, 1, 976), (976, .iadd, 1, 977), (977, .iaload, 1, 978), (978, .invokevirtual 118, 3, 981), (981, .aload_n 2, 1, 982), (982, .aload_n 0, 1, 983), (983, .iload_n 3, 1, 984), (984, .iconst 1, 1, 985), (985, .iadd, 1, 986), (986, .iaload, 1, 987), (987, .invokevirtual 121, 3, 990), (990, .if_icmp .eq 234, 3, 993), (993, .iconst 0, 1, 994), (994, .ireturn, 1, 995)]
theorem lt_lose_ok : lchk lt_lose = true := by decide +kernel
theorem ll_118 : zLV R_law 118 m_B_lose 10 1 := ⟨zin_ALL (by decide +kernel), zin_ALL (by decide +kernel), zin_ALL (by decide +kernel), zin_ALL (by decide +kernel), rfl, ⟨by decide +kernel, by decide +kernel, by decide +kernel⟩⟩
theorem ll_121 : zLV R_law 121 m_M_lose 11 1 := ⟨zin_ALL (by decide +kernel), zin_ALL (by decide +kernel), zin_ALL (by decide +kernel), zin_ALL (by decide +kernel), rfl, ⟨by decide +kernel, by decide +kernel, by decide +kernel⟩⟩
theorem lc_lose {b L i : Nat} {xs : Nat → Int32} {mem τ : zMem} (hi : i + 6 ≤ L) (hI : CI mem τ) (hJ : MI mem τ) (kk : ∀ mem' τ', CI mem' τ' → MI mem' τ' → LW b L xs 1224 i [] mem') : LW b L xs 972 i [] mem := by
  refine lj_a1 lt_lose_ok rfl ?_
  refine lj_arg 1 lt_lose_ok rfl rfl rfl rfl rfl (by omega) ?_
  refine lj_Vi lt_lose_ok rfl ok_B_lose ll_118 (by decide) rfl rfl (Nat.le_of_ble_eq_true rfl) (ct_B_lose hI (lbnd _)) (fun m1 h1 => ?_)
  obtain ⟨hI1, hc1⟩ := h1
  have hJ1 := MI_48 hc1 hJ
  refine lj_a2 lt_lose_ok rfl ?_
  refine lj_arg 1 lt_lose_ok rfl rfl rfl rfl rfl (by omega) ?_
  refine lj_Vi lt_lose_ok rfl ok_M_lose ll_121 (by decide) rfl rfl (Nat.le_of_ble_eq_true rfl) (ct_M_lose hJ1 hI1.1 (lbnd _)) (fun m2 h2 => ?_)
  obtain ⟨hJ2, hc2⟩ := h2
  refine lj_ieq 1224 lt_lose_ok rfl (by decide) ?_
  exact kk _ _ (CI_47 hc2 hI1) hJ2
def lt_lay : List zRow := [(995, .aload_n 1, 1, 996), (996, .aload_n 0, 1, 997), (997, .iload_n 3, 1, 998), (998, .iconst 1, 1, 999), (999, .iadd, 1, 1000), (1000, .iaload, 1, 1001), (1001, .aload_n 0, 1, 1002), (1002, .iload_n 3, 1, 1003), (1003, .iconst 2, 1, 1004), (1004, .iadd, 1, 1005), (1005, .iaload, 1, 1006), (1006, .aload_n 0, 1, 1007), (1007, .iload_n 3, 1, 1008), (1008, .iconst 3, 1, 1009), (1009, .iadd, 1, 1010), (1010, .iaload, 1, 1011), (1011, .aload_n 0, 1, 1012), (1012, .iload_n 3, 1, 1013), (1013, .iconst 4, 1, 1014), (1014, .iadd, 1, 1015), (1015, .iaload, 1, 1016), (1016, .invokevirtual 122, 3, 1019), (1019, .aload_n 2, 1, 1020), (1020, .aload_n 0, 1, 1021), (1021, .iload_n 3, 1, 1022), (1022, .iconst 1, 1, 1023), (1023, .iadd, 1, 1024), (1024, .iaload, 1, 1025), (1025, .aload_n 0, 1, 1026), (1026, .iload_n 3, 1, 1027), (1027, .iconst 2, 1, 1028), (1028, .iadd, 1, 1029), (1029, .iaload, 1, 1030), (1030, .aload_n 0, 1, 1031), (1031, .iload_n 3, 1, 1032), (1032, .iconst 3, 1, 1033), (1033, .iadd, 1, 1034), (1034, .iaload, 1, 1035), (1035, .aload_n 0, 1, 1036), (1036, .iload_n 3, 1, 1037), (1037, .iconst 4, 1, 1038), (1038, .iadd, 1, 1039), (1039, .iaload, 1, 1040), (1040, .invokevirtual 126, 3, 1043), (1043, .if_icmp .eq 181, 3, 1046), (1046, .iconst 0, 1, 1047), (1047, .ireturn, 1, 1048)]
theorem lt_lay_ok : lchk lt_lay = true := by decide +kernel
theorem ll_122 : zLV R_law 122 m_B_lay 10 4 := ⟨zin_ALL (by decide +kernel), zin_ALL (by decide +kernel), zin_ALL (by decide +kernel), zin_ALL (by decide +kernel), rfl, ⟨by decide +kernel, by decide +kernel, by decide +kernel⟩⟩
theorem ll_126 : zLV R_law 126 m_M_lay 11 4 := ⟨zin_ALL (by decide +kernel), zin_ALL (by decide +kernel), zin_ALL (by decide +kernel), zin_ALL (by decide +kernel), rfl, ⟨by decide +kernel, by decide +kernel, by decide +kernel⟩⟩
theorem lc_lay {b L i : Nat} {xs : Nat → Int32} {mem τ : zMem} (hi : i + 6 ≤ L) (hI : CI mem τ) (hJ : MI mem τ) (kk : ∀ mem' τ', CI mem' τ' → MI mem' τ' → LW b L xs 1224 i [] mem') : LW b L xs 995 i [] mem := by
  refine lj_a1 lt_lay_ok rfl ?_
  refine lj_arg 1 lt_lay_ok rfl rfl rfl rfl rfl (by omega) ?_
  refine lj_arg 2 lt_lay_ok rfl rfl rfl rfl rfl (by omega) ?_
  refine lj_arg 3 lt_lay_ok rfl rfl rfl rfl rfl (by omega) ?_
  refine lj_arg 4 lt_lay_ok rfl rfl rfl rfl rfl (by omega) ?_
  refine lj_Vi lt_lay_ok rfl ok_B_lay ll_122 (by decide) rfl rfl (Nat.le_of_ble_eq_true rfl) (ct_B_lay hI (lbnd _) (lbnd _) (lbnd _) (lbnd _)) (fun m1 h1 => ?_)
  obtain ⟨hI1, hc1⟩ := h1
  have hJ1 := MI_48 hc1 hJ
  refine lj_a2 lt_lay_ok rfl ?_
  refine lj_arg 1 lt_lay_ok rfl rfl rfl rfl rfl (by omega) ?_
  refine lj_arg 2 lt_lay_ok rfl rfl rfl rfl rfl (by omega) ?_
  refine lj_arg 3 lt_lay_ok rfl rfl rfl rfl rfl (by omega) ?_
  refine lj_arg 4 lt_lay_ok rfl rfl rfl rfl rfl (by omega) ?_
  refine lj_Vi lt_lay_ok rfl ok_M_lay ll_126 (by decide) rfl rfl (Nat.le_of_ble_eq_true rfl) (ct_M_lay hJ1 hI1.1 (lbnd _) (lbnd _) (lbnd _) (lbnd _)) (fun m2 h2 => ?_)
  obtain ⟨hJ2, hc2⟩ := h2
  refine lj_ieq 1224 lt_lay_ok rfl (by decide) ?_
  exact kk _ _ (CI_47 hc2 hI1) hJ2
def lt_get : List zRow := [(1048, .aload_n 1, 1, 1049), (1049, .aload_n 0, 1, 1050), (1050, .iload_n 3, 1, 1051), (1051, .iconst 1, 1, 1052), (1052, .iadd, 1, 1053), (1053, .iaload, 1, 1054), (1054, .aload_n 0, 1, 1055), (1055, .iload_n 3, 1, 1056), (1056, .iconst 2, 1, 1057), (1057, .iadd, 1, 1058), (1058, .iaload, 1, 1059), (1059, .aload_n 0, 1, 1060), (1060, .iload_n 3, 1, 1061), (1061, .iconst 3, 1, 1062), (1062, .iadd, 1, 1063), (1063, .iaload, 1, 1064), (1064, .invokevirtual 127, 3, 1067), (1067, .aload_n 2, 1, 1068), (1068, .aload_n 0, 1, 1069), (1069, .iload_n 3, 1, 1070), (1070, .iconst 1, 1, 1071), (1071, .iadd, 1, 1072), (1072, .iaload, 1, 1073), (1073, .aload_n 0, 1, 1074), (1074, .iload_n 3, 1, 1075), (1075, .iconst 2, 1, 1076), (1076, .iadd, 1, 1077), (1077, .iaload, 1, 1078), (1078, .aload_n 0, 1, 1079), (1079, .iload_n 3, 1, 1080), (1080, .iconst 3, 1, 1081), (1081, .iadd, 1, 1082), (1082, .iaload, 1, 1083), (1083, .invokevirtual 130, 3, 1086), (1086, .if_icmp .eq 138, 3, 1089), (1089, .iconst 0, 1, 1090), (1090, .ireturn, 1, 1091)]
theorem lt_get_ok : lchk lt_get = true := by decide +kernel
theorem ll_127 : zLV R_law 127 m_B_get 10 3 := ⟨zin_ALL (by decide +kernel), zin_ALL (by decide +kernel), zin_ALL (by decide +kernel), zin_ALL (by decide +kernel), rfl, ⟨by decide +kernel, by decide +kernel, by decide +kernel⟩⟩
theorem ll_130 : zLV R_law 130 m_M_get 11 3 := ⟨zin_ALL (by decide +kernel), zin_ALL (by decide +kernel), zin_ALL (by decide +kernel), zin_ALL (by decide +kernel), rfl, ⟨by decide +kernel, by decide +kernel, by decide +kernel⟩⟩
theorem lc_get {b L i : Nat} {xs : Nat → Int32} {mem τ : zMem} (hi : i + 6 ≤ L) (hI : CI mem τ) (hJ : MI mem τ) (kk : ∀ mem' τ', CI mem' τ' → MI mem' τ' → LW b L xs 1224 i [] mem') : LW b L xs 1048 i [] mem := by
  refine lj_a1 lt_get_ok rfl ?_
  refine lj_arg 1 lt_get_ok rfl rfl rfl rfl rfl (by omega) ?_
  refine lj_arg 2 lt_get_ok rfl rfl rfl rfl rfl (by omega) ?_
  refine lj_arg 3 lt_get_ok rfl rfl rfl rfl rfl (by omega) ?_
  refine lj_Vi lt_get_ok rfl ok_B_get ll_127 (by decide) rfl rfl (Nat.le_of_ble_eq_true rfl) (ct_B_get hI (lbnd _) (lbnd _) (lbnd _)) (fun m1 h1 => ?_)
  obtain ⟨hI1, hc1⟩ := h1
  have hJ1 := MI_48 hc1 hJ
  refine lj_a2 lt_get_ok rfl ?_
  refine lj_arg 1 lt_get_ok rfl rfl rfl rfl rfl (by omega) ?_
  refine lj_arg 2 lt_get_ok rfl rfl rfl rfl rfl (by omega) ?_
  refine lj_arg 3 lt_get_ok rfl rfl rfl rfl rfl (by omega) ?_
  refine lj_Vi lt_get_ok rfl ok_M_get ll_130 (by decide) rfl rfl (Nat.le_of_ble_eq_true rfl) (ct_M_get hJ1 hI1.1 (lbnd _) (lbnd _) (lbnd _)) (fun m2 h2 => ?_)
  obtain ⟨hJ2, hc2⟩ := h2
  refine lj_ieq 1224 lt_get_ok rfl (by decide) ?_
  exact kk _ _ (CI_47 hc2 hI1) hJ2
def lt_copy : List zRow := [(1091, .aload_n 1, 1, 1092), (1092, .aload_n 0, 1, 1093), (1093, .iload_n 3, 1, 1094), (1094, .iconst 1, 1, 1095), (1095, .iadd, 1, 1096), (1096, .iaload, 1, 1097), (1097, .aload_n 0, 1, 1098), (1098, .iload_n 3, 1, 1099), (1099, .iconst 2, 1, 1100), (1100, .iadd, 1, 1101), (1101, .iaload, 1, 1102), (1102, .aload_n 0, 1, 1103), (1103, .iload_n 3, 1, 1104), (1104, .iconst 3, 1, 1105), (1105, .iadd, 1, 1106), (1106, .iaload, 1, 1107), (1107, .aload_n 0, 1, 1108), (1108, .iload_n 3, 1, 1109), (1109, .iconst 4, 1, 1110), (1110, .iadd, 1, 1111), (1111, .iaload, 1, 1112), (1112, .aload_n 0, 1, 1113), (1113, .iload_n 3, 1, 1114), (1114, .iconst 5, 1, 1115), (1115, .iadd, 1, 1116), (1116, .iaload, 1, 1117), (1117, .invokevirtual 131, 3, 1120), (1120, .aload_n 2, 1, 1121), (1121, .aload_n 0, 1, 1122), (1122, .iload_n 3, 1, 1123), (1123, .iconst 1, 1, 1124), (1124, .iadd, 1, 1125), (1125, .iaload, 1, 1126), (1126, .aload_n 0, 1, 1127), (1127, .iload_n 3, 1, 1128), (1128, .iconst 2, 1, 1129), (1129, .iadd, 1, 1130), (1130, .iaload, 1, 1131), (1131, .aload_n 0, 1, 1132), (1132, .iload_n 3, 1, 1133), (1133, .iconst 3, 1, 1134), (1134, .iadd, 1, 1135), (1135, .iaload, 1, 1136), (1136, .aload_n 0, 1, 1137), (1137, .iload_n 3, 1, 1138), (1138, .iconst 4, 1, 1139), (1139, .iadd, 1, 1140), (1140, .iaload, 1, 1141), (1141, .aload_n 0, 1, 1142), (1142, .iload_n 3, 1, 1143), (1143, .iconst 5, 1, 1144), (1144, .iadd, 1, 1145), (1145, .iaload, 1, 1146), (1146, .invokevirtual 135, 3, 1149), (1149, .if_icmp .eq 75, 3, 1152), (1152, .iconst 0, 1, 1153), (1153, .ireturn, 1, 1154)]
theorem lt_copy_ok : lchk lt_copy = true := by decide +kernel
theorem ll_131 : zLV R_law 131 m_B_copy 10 5 := ⟨zin_ALL (by decide +kernel), zin_ALL (by decide +kernel), zin_ALL (by decide +kernel), zin_ALL (by decide +kernel), rfl, ⟨by decide +kernel, by decide +kernel, by decide +kernel⟩⟩
theorem ll_135 : zLV R_law 135 m_M_copy 11 5 := ⟨zin_ALL (by decide +kernel), zin_ALL (by decide +kernel), zin_ALL (by decide +kernel), zin_ALL (by decide +kernel), rfl, ⟨by decide +kernel, by decide +kernel, by decide +kernel⟩⟩
theorem lc_copy {b L i : Nat} {xs : Nat → Int32} {mem τ : zMem} (hi : i + 6 ≤ L) (hI : CI mem τ) (hJ : MI mem τ) (kk : ∀ mem' τ', CI mem' τ' → MI mem' τ' → LW b L xs 1224 i [] mem') : LW b L xs 1091 i [] mem := by
  refine lj_a1 lt_copy_ok rfl ?_
  refine lj_arg 1 lt_copy_ok rfl rfl rfl rfl rfl (by omega) ?_
  refine lj_arg 2 lt_copy_ok rfl rfl rfl rfl rfl (by omega) ?_
  refine lj_arg 3 lt_copy_ok rfl rfl rfl rfl rfl (by omega) ?_
  refine lj_arg 4 lt_copy_ok rfl rfl rfl rfl rfl (by omega) ?_
  refine lj_arg 5 lt_copy_ok rfl rfl rfl rfl rfl (by omega) ?_
  refine lj_Vi lt_copy_ok rfl ok_B_copy ll_131 (by decide) rfl rfl (Nat.le_of_ble_eq_true rfl) (ct_B_copy hI (lbnd _) (lbnd _) (lbnd _) (lbnd _) (lbnd _)) (fun m1 h1 => ?_)
  obtain ⟨hI1, hc1⟩ := h1
  have hJ1 := MI_48 hc1 hJ
  refine lj_a2 lt_copy_ok rfl ?_
  refine lj_arg 1 lt_copy_ok rfl rfl rfl rfl rfl (by omega) ?_
  refine lj_arg 2 lt_copy_ok rfl rfl rfl rfl rfl (by omega) ?_
  refine lj_arg 3 lt_copy_ok rfl rfl rfl rfl rfl (by omega) ?_
  refine lj_arg 4 lt_copy_ok rfl rfl rfl rfl rfl (by omega) ?_
  refine lj_arg 5 lt_copy_ok rfl rfl rfl rfl rfl (by omega) ?_
  refine lj_Vi lt_copy_ok rfl ok_M_copy ll_135 (by decide) rfl rfl (Nat.le_of_ble_eq_true rfl) (ct_M_copy hJ1 hI1.1 (lbnd _) (lbnd _) (lbnd _) (lbnd _) (lbnd _)) (fun m2 h2 => ?_)
  obtain ⟨hJ2, hc2⟩ := h2
  refine lj_ieq 1224 lt_copy_ok rfl (by decide) ?_
  exact kk _ _ (CI_47 hc2 hI1) hJ2
def lt_write : List zRow := [(1154, .aload_n 1, 1, 1155), (1155, .aload_n 0, 1, 1156), (1156, .iload_n 3, 1, 1157), (1157, .iconst 1, 1, 1158), (1158, .iadd, 1, 1159), (1159, .iaload, 1, 1160), (1160, .aload_n 0, 1, 1161), (1161, .iload_n 3, 1, 1162), (1162, .iconst 2, 1, 1163), (1163, .iadd, 1, 1164), (1164, .iaload, 1, 1165), (1165, .invokevirtual 136, 3, 1168), (1168, .aload_n 2, 1, 1169), (1169, .aload_n 0, 1, 1170), (1170, .iload_n 3, 1, 1171), (1171, .iconst 1, 1, 1172), (1172, .iadd, 1, 1173), (1173, .iaload, 1, 1174), (1174, .aload_n 0, 1, 1175), (1175, .iload_n 3, 1, 1176), (1176, .iconst 2, 1, 1177), (1177, .iadd, 1, 1178), (1178, .iaload, 1, 1179), (1179, .invokevirtual 139, 3, 1182), (1182, .if_icmp .eq 42, 3, 1185), (1185, .iconst 0, 1, 1186), (1186, .ireturn, 1, 1187)]
theorem lt_write_ok : lchk lt_write = true := by decide +kernel
theorem ll_136 : zLV R_law 136 m_B_write 10 2 := ⟨zin_ALL (by decide +kernel), zin_ALL (by decide +kernel), zin_ALL (by decide +kernel), zin_ALL (by decide +kernel), rfl, ⟨by decide +kernel, by decide +kernel, by decide +kernel⟩⟩
theorem ll_139 : zLV R_law 139 m_M_write 11 2 := ⟨zin_ALL (by decide +kernel), zin_ALL (by decide +kernel), zin_ALL (by decide +kernel), zin_ALL (by decide +kernel), rfl, ⟨by decide +kernel, by decide +kernel, by decide +kernel⟩⟩
theorem lc_write {b L i : Nat} {xs : Nat → Int32} {mem τ : zMem} (hi : i + 6 ≤ L) (hI : CI mem τ) (hJ : MI mem τ) (kk : ∀ mem' τ', CI mem' τ' → MI mem' τ' → LW b L xs 1224 i [] mem') : LW b L xs 1154 i [] mem := by
  refine lj_a1 lt_write_ok rfl ?_
  refine lj_arg 1 lt_write_ok rfl rfl rfl rfl rfl (by omega) ?_
  refine lj_arg 2 lt_write_ok rfl rfl rfl rfl rfl (by omega) ?_
  refine lj_Vi lt_write_ok rfl ok_B_write ll_136 (by decide) rfl rfl (Nat.le_of_ble_eq_true rfl) (ct_B_write hI (lbnd _) (lbnd _)) (fun m1 h1 => ?_)
  obtain ⟨hI1, hc1⟩ := h1
  have hJ1 := MI_48 hc1 hJ
  refine lj_a2 lt_write_ok rfl ?_
  refine lj_arg 1 lt_write_ok rfl rfl rfl rfl rfl (by omega) ?_
  refine lj_arg 2 lt_write_ok rfl rfl rfl rfl rfl (by omega) ?_
  refine lj_Vi lt_write_ok rfl ok_M_write ll_139 (by decide) rfl rfl (Nat.le_of_ble_eq_true rfl) (ct_M_write hJ1 hI1.1 (lbnd _) (lbnd _)) (fun m2 h2 => ?_)
  obtain ⟨hJ2, hc2⟩ := h2
  refine lj_ieq 1224 lt_write_ok rfl (by decide) ?_
  exact kk _ _ (CI_47 hc2 hI1) hJ2
def lt_count : List zRow := [(1187, .aload_n 1, 1, 1188), (1188, .aload_n 0, 1, 1189), (1189, .iload_n 3, 1, 1190), (1190, .iconst 1, 1, 1191), (1191, .iadd, 1, 1192), (1192, .iaload, 1, 1193), (1193, .invokevirtual 140, 3, 1196), (1196, .aload_n 2, 1, 1197), (1197, .aload_n 0, 1, 1198), (1198, .iload_n 3, 1, 1199), (1199, .iconst 1, 1, 1200), (1200, .iadd, 1, 1201), (1201, .iaload, 1, 1202), (1202, .invokevirtual 143, 3, 1205), (1205, .if_icmp .eq 19, 3, 1208), (1208, .iconst 0, 1, 1209), (1209, .ireturn, 1, 1210)]
theorem lt_count_ok : lchk lt_count = true := by decide +kernel
theorem ll_140 : zLV R_law 140 m_B_count 10 1 := ⟨zin_ALL (by decide +kernel), zin_ALL (by decide +kernel), zin_ALL (by decide +kernel), zin_ALL (by decide +kernel), rfl, ⟨by decide +kernel, by decide +kernel, by decide +kernel⟩⟩
theorem ll_143 : zLV R_law 143 m_M_count 11 1 := ⟨zin_ALL (by decide +kernel), zin_ALL (by decide +kernel), zin_ALL (by decide +kernel), zin_ALL (by decide +kernel), rfl, ⟨by decide +kernel, by decide +kernel, by decide +kernel⟩⟩
theorem lc_count {b L i : Nat} {xs : Nat → Int32} {mem τ : zMem} (hi : i + 6 ≤ L) (hI : CI mem τ) (hJ : MI mem τ) (kk : ∀ mem' τ', CI mem' τ' → MI mem' τ' → LW b L xs 1224 i [] mem') : LW b L xs 1187 i [] mem := by
  refine lj_a1 lt_count_ok rfl ?_
  refine lj_arg 1 lt_count_ok rfl rfl rfl rfl rfl (by omega) ?_
  refine lj_Vi lt_count_ok rfl ok_B_count ll_140 (by decide) rfl rfl (Nat.le_of_ble_eq_true rfl) (ct_B_count hI (lbnd _)) (fun m1 h1 => ?_)
  obtain ⟨hI1, hc1⟩ := h1
  have hJ1 := MI_48 hc1 hJ
  refine lj_a2 lt_count_ok rfl ?_
  refine lj_arg 1 lt_count_ok rfl rfl rfl rfl rfl (by omega) ?_
  refine lj_Vi lt_count_ok rfl ok_M_count ll_143 (by decide) rfl rfl (Nat.le_of_ble_eq_true rfl) (ct_M_count hJ1 (lbnd _)) (fun m2 h2 => ?_)
  obtain ⟨hJ2, hc2⟩ := h2
  refine lj_ieq 1224 lt_count_ok rfl (by decide) ?_
  exact kk _ _ (CI_47 (hc2.r47 (by decide)) hI1) hJ2.1
def lt_digest : List zRow := [(1210, .aload_n 1, 1, 1211), (1211, .invokevirtual 144, 3, 1214), (1214, .aload_n 2, 1, 1215), (1215, .invokevirtual 148, 3, 1218), (1218, .lcmp, 1, 1219), (1219, .ifCond .eq 5, 3, 1222), (1222, .iconst 0, 1, 1223), (1223, .ireturn, 1, 1224)]
theorem lt_digest_ok : lchk lt_digest = true := by decide +kernel
theorem ll_144 : zLV R_law 144 m_B_digest 10 0 := ⟨zin_ALL (by decide +kernel), zin_ALL (by decide +kernel), zin_ALL (by decide +kernel), zin_ALL (by decide +kernel), rfl, ⟨by decide +kernel, by decide +kernel, by decide +kernel⟩⟩
theorem ll_148 : zLV R_law 148 m_M_digest 11 0 := ⟨zin_ALL (by decide +kernel), zin_ALL (by decide +kernel), zin_ALL (by decide +kernel), zin_ALL (by decide +kernel), rfl, ⟨by decide +kernel, by decide +kernel, by decide +kernel⟩⟩
theorem lc_digest {b L i : Nat} {xs : Nat → Int32} {mem τ : zMem} (hi : i + 6 ≤ L) (hI : CI mem τ) (hJ : MI mem τ) (kk : ∀ mem' τ', CI mem' τ' → MI mem' τ' → LW b L xs 1224 i [] mem') : LW b L xs 1210 i [] mem := by
  refine lj_a1 lt_digest_ok rfl ?_
  refine lj_Vl lt_digest_ok rfl ok_B_digest ll_144 (by decide) rfl rfl (Nat.le_of_ble_eq_true rfl) (ct_B_digest hI ) (fun m1 h1 => ?_)
  obtain ⟨hI1, hc1⟩ := h1
  have hJ1 := MI_48 hc1 hJ
  refine lj_a2 lt_digest_ok rfl ?_
  refine lj_Vl lt_digest_ok rfl ok_M_digest ll_148 (by decide) rfl rfl (Nat.le_of_ble_eq_true rfl) (ct_M_digest hJ1 (fun p r hp => cstT_r hI1 hp r) ) (fun m2 h2 => ?_)
  obtain ⟨hJ2, hc2⟩ := h2
  refine lj_leq 1224 lt_digest_ok rfl rfl (by decide) ?_
  exact kk _ _ (CI_47 hc2 hI1) hJ2
