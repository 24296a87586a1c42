/-! ===== Coast: meet, isGone, mayMeet, debt, isRing ===== -/
section
variable {mem : zMem} {L : zL} {s : zS} {d l : Int → Int} {g n fh fw : Int}
theorem ct_Co_meet {P a b : Int} (hP : pInv P (mem 7) (mem 9)) (ha : 0 ≤ a ∧ a < P) (hb : 0 ≤ b ∧ b < P) (hab : a ≠ b) (hs : sInv P s) : zCvp m_Co_meet [vr 24, vi a, vi b] (putC mem L s) (putC mem L (meetS (mem 7) (mem 9) (min a b) (max a b) s)) := by
  obtain ⟨d, l, g, n, fh, fw⟩ := s
  obtain ⟨p1, p2, p3⟩ := hP
  have hbow := hs.1 (min a b) (max a b) (by omega) (by omega) (by omega)
  have hl := fun p q1 q2 => hs.2.1 p q1 q2
  have hg := hs.2.2
  dsimp only at hbow hl hg
  refine zCt.of [some (vr 24), some (vi a), some (vi b), none, none, none, none, none, none] ok_Co_meet (Nat.le_of_ble_eq_true rfl) rfl ?_
  have hx : 0 ≤ min a b ∧ min a b < P := by omega
  have hy : 0 ≤ max a b ∧ max a b < P := by omega
  have ux := p3 (min a b) hx.1 hx.2
  have uy := p3 (max a b) hy.1 hy.2
  have vx := hl (min a b) hx.1 hx.2
  have vy := hl (max a b) hy.1 hy.2
  generalize hX : meetS (mem 7) (mem 9) (min a b) (max a b) (d, l, g, n, fh, fw) = X
  unfold meetS at hX
  dsimp only at hX
  refine zw_iload_n ok_Co_meet rfl rfl ?_
  refine zw_iload_n ok_Co_meet rfl rfl ?_
  refine zw_mmin ok_Co_meet rfl lm_Co_120 ⟨by decide, Nat.le_of_ble_eq_true rfl⟩ (by omega) ?_
  refine zw_istore_n ok_Co_meet rfl rfl (by decide) ?_
  refine zw_iload_n ok_Co_meet rfl rfl ?_
  refine zw_iload_n ok_Co_meet rfl rfl ?_
  refine zw_mmax ok_Co_meet rfl lm_Co_126 ⟨by decide, Nat.le_of_ble_eq_true rfl⟩ (by omega) ?_
  refine zw_istore ok_Co_meet rfl rfl (by decide) ?_
  refine zw_iload_n ok_Co_meet rfl rfl ?_
  refine zw_bipush ok_Co_meet rfl (by decide) ?_
  refine zw_imul ok_Co_meet rfl ?_
  refine zw_iload ok_Co_meet rfl rfl ?_
  refine zw_iadd ok_Co_meet rfl ?_
  refine zw_istore ok_Co_meet rfl rfl (by decide) ?_
  refine zw_aload_n ok_Co_meet rfl rfl ?_
  refine zw_getr ok_Co_meet rfl fl_Co_21 rfl rfl ?_
  refine zw_iload ok_Co_meet rfl rfl ?_
  refine zw_iald ok_Co_meet rfl rfl (by omega) ?_
  try simp only [rd_C9, rd_C10, rd_C11, rd_C12, rd_C25, rd_C26, rd_C27, rd_C28, rd_C29, rd_C_0, rd_C_1, rd_C_2, rd_C_3, rd_C_4, rd_C_5, rd_C_6, rd_C_7, rd_C_8, rd_C_9, rd_C_10, rd_C_11, rd_C_12, rd_C_13, rd_C_14, rd_C_15, rd_C_16, rd_C_17, rd_C_18, rd_C_19, rd_C_20, rd_C_21, rd_C_22, rd_C_23, rd_C_30, rd_C_31, rd_C_32, rd_C_33, rd_C_34, rd_C_35, rd_C_36, rd_C_37, rd_C_38, rd_C_39, rd_C_40, rd_C_41, rd_C_42, rd_C_43, rd_C_44, rd_C_45, rd_C_46, rd_C_47, rd_C_48, rd_C_49, rd_C_50, rd_C_51, rd_C_52, rd_C_53, rd_C_54, rd_C_55, rd_C_56, rd_C_57, rd_C_58, rd_C_59, rd_C_60, rd_C_61, rd_C_62, rd_C_63, rd_C_64, rd_C_65, wr_C9, wr_C10, wr_C11, wr_C12, wr_C25, wr_C26, wr_C27, wr_C28, wr_C29, wp_C25, wp_C26, wp_C27, wp_C28, wp_C29]
  refine zw_istore ok_Co_meet rfl rfl (by decide) ?_
  refine zw_iload ok_Co_meet rfl rfl ?_
  refine zw_if_le 40 ok_Co_meet rfl (by decide) (by omega) (fun h33 => ?_) (fun h33 => ?_)
  · have z1 := zabs_1 h33
    simp only [h33, if_true] at hX
    refine zw_iload ok_Co_meet rfl rfl ?_
    refine zw_istore ok_Co_meet rfl rfl (by decide) ?_
    refine zw_iload ok_Co_meet rfl rfl ?_
    refine zw_mabs ok_Co_meet rfl lm_Co_129 ⟨by decide, Nat.le_of_ble_eq_true rfl⟩ (by omega) ?_
    refine zw_istore ok_Co_meet rfl rfl (by decide) ?_
    refine zw_iload ok_Co_meet rfl rfl ?_
    refine zw_aload_n ok_Co_meet rfl rfl ?_
    refine zw_getr ok_Co_meet rfl fl_Co_27 rfl rfl ?_
    refine zw_getr ok_Co_meet rfl fl_Co_133 rfl rfl ?_
    refine zw_iload ok_Co_meet rfl rfl ?_
    refine zw_iald ok_Co_meet rfl rfl (by omega) ?_
    try simp only [rd_C9, rd_C10, rd_C11, rd_C12, rd_C25, rd_C26, rd_C27, rd_C28, rd_C29, rd_C_0, rd_C_1, rd_C_2, rd_C_3, rd_C_4, rd_C_5, rd_C_6, rd_C_7, rd_C_8, rd_C_9, rd_C_10, rd_C_11, rd_C_12, rd_C_13, rd_C_14, rd_C_15, rd_C_16, rd_C_17, rd_C_18, rd_C_19, rd_C_20, rd_C_21, rd_C_22, rd_C_23, rd_C_30, rd_C_31, rd_C_32, rd_C_33, rd_C_34, rd_C_35, rd_C_36, rd_C_37, rd_C_38, rd_C_39, rd_C_40, rd_C_41, rd_C_42, rd_C_43, rd_C_44, rd_C_45, rd_C_46, rd_C_47, rd_C_48, rd_C_49, rd_C_50, rd_C_51, rd_C_52, rd_C_53, rd_C_54, rd_C_55, rd_C_56, rd_C_57, rd_C_58, rd_C_59, rd_C_60, rd_C_61, rd_C_62, rd_C_63, rd_C_64, rd_C_65, wr_C9, wr_C10, wr_C11, wr_C12, wr_C25, wr_C26, wr_C27, wr_C28, wr_C29, wp_C25, wp_C26, wp_C27, wp_C28, wp_C29]
    refine zw_icmp_le 102 ok_Co_meet rfl (by decide) (by omega) (fun h63 => ?_) (fun h63 => ?_)
    · rw [if_pos h63] at hX
      refine zw_aload_n ok_Co_meet rfl rfl ?_
      refine zw_getr ok_Co_meet rfl fl_Co_21 rfl rfl ?_
      refine zw_iload ok_Co_meet rfl rfl ?_
      refine zw_iload ok_Co_meet rfl rfl ?_
      refine zw_if_le 130 ok_Co_meet rfl (by decide) (by omega) (fun h110 => ?_) (fun h110 => ?_)
      · try (exfalso; omega)
        all_goals
          refine zw_iload ok_Co_meet rfl rfl ?_
          refine zw_aload_n ok_Co_meet rfl rfl ?_
          refine zw_getr ok_Co_meet rfl fl_Co_27 rfl rfl ?_
          refine zw_getr ok_Co_meet rfl fl_Co_96 rfl rfl ?_
          refine zw_iload_n ok_Co_meet rfl rfl ?_
          refine zw_iald ok_Co_meet rfl rfl (by omega) ?_
          try simp only [rd_C9, rd_C10, rd_C11, rd_C12, rd_C25, rd_C26, rd_C27, rd_C28, rd_C29, rd_C_0, rd_C_1, rd_C_2, rd_C_3, rd_C_4, rd_C_5, rd_C_6, rd_C_7, rd_C_8, rd_C_9, rd_C_10, rd_C_11, rd_C_12, rd_C_13, rd_C_14, rd_C_15, rd_C_16, rd_C_17, rd_C_18, rd_C_19, rd_C_20, rd_C_21, rd_C_22, rd_C_23, rd_C_30, rd_C_31, rd_C_32, rd_C_33, rd_C_34, rd_C_35, rd_C_36, rd_C_37, rd_C_38, rd_C_39, rd_C_40, rd_C_41, rd_C_42, rd_C_43, rd_C_44, rd_C_45, rd_C_46, rd_C_47, rd_C_48, rd_C_49, rd_C_50, rd_C_51, rd_C_52, rd_C_53, rd_C_54, rd_C_55, rd_C_56, rd_C_57, rd_C_58, rd_C_59, rd_C_60, rd_C_61, rd_C_62, rd_C_63, rd_C_64, rd_C_65, wr_C9, wr_C10, wr_C11, wr_C12, wr_C25, wr_C26, wr_C27, wr_C28, wr_C29, wp_C25, wp_C26, wp_C27, wp_C28, wp_C29]
          refine zw_iadd ok_Co_meet rfl ?_
          refine zw_iast ok_Co_meet rfl rfl (by omega) ?_
          try simp only [rd_C9, rd_C10, rd_C11, rd_C12, rd_C25, rd_C26, rd_C27, rd_C28, rd_C29, rd_C_0, rd_C_1, rd_C_2, rd_C_3, rd_C_4, rd_C_5, rd_C_6, rd_C_7, rd_C_8, rd_C_9, rd_C_10, rd_C_11, rd_C_12, rd_C_13, rd_C_14, rd_C_15, rd_C_16, rd_C_17, rd_C_18, rd_C_19, rd_C_20, rd_C_21, rd_C_22, rd_C_23, rd_C_30, rd_C_31, rd_C_32, rd_C_33, rd_C_34, rd_C_35, rd_C_36, rd_C_37, rd_C_38, rd_C_39, rd_C_40, rd_C_41, rd_C_42, rd_C_43, rd_C_44, rd_C_45, rd_C_46, rd_C_47, rd_C_48, rd_C_49, rd_C_50, rd_C_51, rd_C_52, rd_C_53, rd_C_54, rd_C_55, rd_C_56, rd_C_57, rd_C_58, rd_C_59, rd_C_60, rd_C_61, rd_C_62, rd_C_63, rd_C_64, rd_C_65, wr_C9, wr_C10, wr_C11, wr_C12, wr_C25, wr_C26, wr_C27, wr_C28, wr_C29, wp_C25, wp_C26, wp_C27, wp_C28, wp_C29]
          refine zw_aload_n ok_Co_meet rfl rfl ?_
          refine zw_getr ok_Co_meet rfl fl_Co_24 rfl rfl ?_
          refine zw_iload ok_Co_meet rfl rfl ?_
          refine zw_aload_n ok_Co_meet rfl rfl ?_
          refine zw_getr ok_Co_meet rfl fl_Co_24 rfl rfl ?_
          refine zw_iload ok_Co_meet rfl rfl ?_
          refine zw_iald ok_Co_meet rfl rfl (by omega) ?_
          try simp only [rd_C9, rd_C10, rd_C11, rd_C12, rd_C25, rd_C26, rd_C27, rd_C28, rd_C29, rd_C_0, rd_C_1, rd_C_2, rd_C_3, rd_C_4, rd_C_5, rd_C_6, rd_C_7, rd_C_8, rd_C_9, rd_C_10, rd_C_11, rd_C_12, rd_C_13, rd_C_14, rd_C_15, rd_C_16, rd_C_17, rd_C_18, rd_C_19, rd_C_20, rd_C_21, rd_C_22, rd_C_23, rd_C_30, rd_C_31, rd_C_32, rd_C_33, rd_C_34, rd_C_35, rd_C_36, rd_C_37, rd_C_38, rd_C_39, rd_C_40, rd_C_41, rd_C_42, rd_C_43, rd_C_44, rd_C_45, rd_C_46, rd_C_47, rd_C_48, rd_C_49, rd_C_50, rd_C_51, rd_C_52, rd_C_53, rd_C_54, rd_C_55, rd_C_56, rd_C_57, rd_C_58, rd_C_59, rd_C_60, rd_C_61, rd_C_62, rd_C_63, rd_C_64, rd_C_65, wr_C9, wr_C10, wr_C11, wr_C12, wr_C25, wr_C26, wr_C27, wr_C28, wr_C29, wp_C25, wp_C26, wp_C27, wp_C28, wp_C29]
          refine zw_iload ok_Co_meet rfl rfl ?_
          refine zw_mmax ok_Co_meet rfl lm_Co_126 ⟨by decide, Nat.le_of_ble_eq_true rfl⟩ (by omega) ?_
          refine zw_iast ok_Co_meet rfl rfl (by omega) ?_
          try simp only [rd_C9, rd_C10, rd_C11, rd_C12, rd_C25, rd_C26, rd_C27, rd_C28, rd_C29, rd_C_0, rd_C_1, rd_C_2, rd_C_3, rd_C_4, rd_C_5, rd_C_6, rd_C_7, rd_C_8, rd_C_9, rd_C_10, rd_C_11, rd_C_12, rd_C_13, rd_C_14, rd_C_15, rd_C_16, rd_C_17, rd_C_18, rd_C_19, rd_C_20, rd_C_21, rd_C_22, rd_C_23, rd_C_30, rd_C_31, rd_C_32, rd_C_33, rd_C_34, rd_C_35, rd_C_36, rd_C_37, rd_C_38, rd_C_39, rd_C_40, rd_C_41, rd_C_42, rd_C_43, rd_C_44, rd_C_45, rd_C_46, rd_C_47, rd_C_48, rd_C_49, rd_C_50, rd_C_51, rd_C_52, rd_C_53, rd_C_54, rd_C_55, rd_C_56, rd_C_57, rd_C_58, rd_C_59, rd_C_60, rd_C_61, rd_C_62, rd_C_63, rd_C_64, rd_C_65, wr_C9, wr_C10, wr_C11, wr_C12, wr_C25, wr_C26, wr_C27, wr_C28, wr_C29, wp_C25, wp_C26, wp_C27, wp_C28, wp_C29]
          refine zw_aload_n ok_Co_meet rfl rfl ?_
          first | refine zw_dupi ok_Co_meet rfl ?_ | refine zw_dupr ok_Co_meet rfl ?_
          refine zw_geti ok_Co_meet rfl fl_Co_102 rfl rfl ?_
          try simp only [rd_C9, rd_C10, rd_C11, rd_C12, rd_C25, rd_C26, rd_C27, rd_C28, rd_C29, rd_C_0, rd_C_1, rd_C_2, rd_C_3, rd_C_4, rd_C_5, rd_C_6, rd_C_7, rd_C_8, rd_C_9, rd_C_10, rd_C_11, rd_C_12, rd_C_13, rd_C_14, rd_C_15, rd_C_16, rd_C_17, rd_C_18, rd_C_19, rd_C_20, rd_C_21, rd_C_22, rd_C_23, rd_C_30, rd_C_31, rd_C_32, rd_C_33, rd_C_34, rd_C_35, rd_C_36, rd_C_37, rd_C_38, rd_C_39, rd_C_40, rd_C_41, rd_C_42, rd_C_43, rd_C_44, rd_C_45, rd_C_46, rd_C_47, rd_C_48, rd_C_49, rd_C_50, rd_C_51, rd_C_52, rd_C_53, rd_C_54, rd_C_55, rd_C_56, rd_C_57, rd_C_58, rd_C_59, rd_C_60, rd_C_61, rd_C_62, rd_C_63, rd_C_64, rd_C_65, wr_C9, wr_C10, wr_C11, wr_C12, wr_C25, wr_C26, wr_C27, wr_C28, wr_C29, wp_C25, wp_C26, wp_C27, wp_C28, wp_C29]
          refine zw_iconst ok_Co_meet rfl ?_
          refine zw_iadd ok_Co_meet rfl ?_
          refine zw_puti ok_Co_meet rfl fp_Co_102 rfl rfl ?_
          try simp only [rd_C9, rd_C10, rd_C11, rd_C12, rd_C25, rd_C26, rd_C27, rd_C28, rd_C29, rd_C_0, rd_C_1, rd_C_2, rd_C_3, rd_C_4, rd_C_5, rd_C_6, rd_C_7, rd_C_8, rd_C_9, rd_C_10, rd_C_11, rd_C_12, rd_C_13, rd_C_14, rd_C_15, rd_C_16, rd_C_17, rd_C_18, rd_C_19, rd_C_20, rd_C_21, rd_C_22, rd_C_23, rd_C_30, rd_C_31, rd_C_32, rd_C_33, rd_C_34, rd_C_35, rd_C_36, rd_C_37, rd_C_38, rd_C_39, rd_C_40, rd_C_41, rd_C_42, rd_C_43, rd_C_44, rd_C_45, rd_C_46, rd_C_47, rd_C_48, rd_C_49, rd_C_50, rd_C_51, rd_C_52, rd_C_53, rd_C_54, rd_C_55, rd_C_56, rd_C_57, rd_C_58, rd_C_59, rd_C_60, rd_C_61, rd_C_62, rd_C_63, rd_C_64, rd_C_65, wr_C9, wr_C10, wr_C11, wr_C12, wr_C25, wr_C26, wr_C27, wr_C28, wr_C29, wp_C25, wp_C26, wp_C27, wp_C28, wp_C29]
          exact zw_vret ok_Co_meet rfl rfl (⟨rfl, by subst hX; first | rfl | rw [if_pos h71] | rw [if_neg (fun q => q h71)]⟩)
      · try (exfalso; omega)
        all_goals
          refine zw_iload ok_Co_meet rfl rfl ?_
          refine zw_aload_n ok_Co_meet rfl rfl ?_
          refine zw_getr ok_Co_meet rfl fl_Co_27 rfl rfl ?_
          refine zw_getr ok_Co_meet rfl fl_Co_96 rfl rfl ?_
          refine zw_iload ok_Co_meet rfl rfl ?_
          refine zw_iald ok_Co_meet rfl rfl (by omega) ?_
          try simp only [rd_C9, rd_C10, rd_C11, rd_C12, rd_C25, rd_C26, rd_C27, rd_C28, rd_C29, rd_C_0, rd_C_1, rd_C_2, rd_C_3, rd_C_4, rd_C_5, rd_C_6, rd_C_7, rd_C_8, rd_C_9, rd_C_10, rd_C_11, rd_C_12, rd_C_13, rd_C_14, rd_C_15, rd_C_16, rd_C_17, rd_C_18, rd_C_19, rd_C_20, rd_C_21, rd_C_22, rd_C_23, rd_C_30, rd_C_31, rd_C_32, rd_C_33, rd_C_34, rd_C_35, rd_C_36, rd_C_37, rd_C_38, rd_C_39, rd_C_40, rd_C_41, rd_C_42, rd_C_43, rd_C_44, rd_C_45, rd_C_46, rd_C_47, rd_C_48, rd_C_49, rd_C_50, rd_C_51, rd_C_52, rd_C_53, rd_C_54, rd_C_55, rd_C_56, rd_C_57, rd_C_58, rd_C_59, rd_C_60, rd_C_61, rd_C_62, rd_C_63, rd_C_64, rd_C_65, wr_C9, wr_C10, wr_C11, wr_C12, wr_C25, wr_C26, wr_C27, wr_C28, wr_C29, wp_C25, wp_C26, wp_C27, wp_C28, wp_C29]
          refine zw_iadd ok_Co_meet rfl ?_
          refine zw_ineg ok_Co_meet rfl ?_
          refine zw_goto 142 ok_Co_meet rfl (by decide) ?_
          refine zw_iast ok_Co_meet rfl rfl (by omega) ?_
          try simp only [rd_C9, rd_C10, rd_C11, rd_C12, rd_C25, rd_C26, rd_C27, rd_C28, rd_C29, rd_C_0, rd_C_1, rd_C_2, rd_C_3, rd_C_4, rd_C_5, rd_C_6, rd_C_7, rd_C_8, rd_C_9, rd_C_10, rd_C_11, rd_C_12, rd_C_13, rd_C_14, rd_C_15, rd_C_16, rd_C_17, rd_C_18, rd_C_19, rd_C_20, rd_C_21, rd_C_22, rd_C_23, rd_C_30, rd_C_31, rd_C_32, rd_C_33, rd_C_34, rd_C_35, rd_C_36, rd_C_37, rd_C_38, rd_C_39, rd_C_40, rd_C_41, rd_C_42, rd_C_43, rd_C_44, rd_C_45, rd_C_46, rd_C_47, rd_C_48, rd_C_49, rd_C_50, rd_C_51, rd_C_52, rd_C_53, rd_C_54, rd_C_55, rd_C_56, rd_C_57, rd_C_58, rd_C_59, rd_C_60, rd_C_61, rd_C_62, rd_C_63, rd_C_64, rd_C_65, wr_C9, wr_C10, wr_C11, wr_C12, wr_C25, wr_C26, wr_C27, wr_C28, wr_C29, wp_C25, wp_C26, wp_C27, wp_C28, wp_C29]
          refine zw_aload_n ok_Co_meet rfl rfl ?_
          refine zw_getr ok_Co_meet rfl fl_Co_24 rfl rfl ?_
          refine zw_iload ok_Co_meet rfl rfl ?_
          refine zw_aload_n ok_Co_meet rfl rfl ?_
          refine zw_getr ok_Co_meet rfl fl_Co_24 rfl rfl ?_
          refine zw_iload ok_Co_meet rfl rfl ?_
          refine zw_iald ok_Co_meet rfl rfl (by omega) ?_
          try simp only [rd_C9, rd_C10, rd_C11, rd_C12, rd_C25, rd_C26, rd_C27, rd_C28, rd_C29, rd_C_0, rd_C_1, rd_C_2, rd_C_3, rd_C_4, rd_C_5, rd_C_6, rd_C_7, rd_C_8, rd_C_9, rd_C_10, rd_C_11, rd_C_12, rd_C_13, rd_C_14, rd_C_15, rd_C_16, rd_C_17, rd_C_18, rd_C_19, rd_C_20, rd_C_21, rd_C_22, rd_C_23, rd_C_30, rd_C_31, rd_C_32, rd_C_33, rd_C_34, rd_C_35, rd_C_36, rd_C_37, rd_C_38, rd_C_39, rd_C_40, rd_C_41, rd_C_42, rd_C_43, rd_C_44, rd_C_45, rd_C_46, rd_C_47, rd_C_48, rd_C_49, rd_C_50, rd_C_51, rd_C_52, rd_C_53, rd_C_54, rd_C_55, rd_C_56, rd_C_57, rd_C_58, rd_C_59, rd_C_60, rd_C_61, rd_C_62, rd_C_63, rd_C_64, rd_C_65, wr_C9, wr_C10, wr_C11, wr_C12, wr_C25, wr_C26, wr_C27, wr_C28, wr_C29, wp_C25, wp_C26, wp_C27, wp_C28, wp_C29]
          refine zw_iload ok_Co_meet rfl rfl ?_
          refine zw_mmax ok_Co_meet rfl lm_Co_126 ⟨by decide, Nat.le_of_ble_eq_true rfl⟩ (by omega) ?_
          refine zw_iast ok_Co_meet rfl rfl (by omega) ?_
          try simp only [rd_C9, rd_C10, rd_C11, rd_C12, rd_C25, rd_C26, rd_C27, rd_C28, rd_C29, rd_C_0, rd_C_1, rd_C_2, rd_C_3, rd_C_4, rd_C_5, rd_C_6, rd_C_7, rd_C_8, rd_C_9, rd_C_10, rd_C_11, rd_C_12, rd_C_13, rd_C_14, rd_C_15, rd_C_16, rd_C_17, rd_C_18, rd_C_19, rd_C_20, rd_C_21, rd_C_22, rd_C_23, rd_C_30, rd_C_31, rd_C_32, rd_C_33, rd_C_34, rd_C_35, rd_C_36, rd_C_37, rd_C_38, rd_C_39, rd_C_40, rd_C_41, rd_C_42, rd_C_43, rd_C_44, rd_C_45, rd_C_46, rd_C_47, rd_C_48, rd_C_49, rd_C_50, rd_C_51, rd_C_52, rd_C_53, rd_C_54, rd_C_55, rd_C_56, rd_C_57, rd_C_58, rd_C_59, rd_C_60, rd_C_61, rd_C_62, rd_C_63, rd_C_64, rd_C_65, wr_C9, wr_C10, wr_C11, wr_C12, wr_C25, wr_C26, wr_C27, wr_C28, wr_C29, wp_C25, wp_C26, wp_C27, wp_C28, wp_C29]
          refine zw_aload_n ok_Co_meet rfl rfl ?_
          first | refine zw_dupi ok_Co_meet rfl ?_ | refine zw_dupr ok_Co_meet rfl ?_
          refine zw_geti ok_Co_meet rfl fl_Co_102 rfl rfl ?_
          try simp only [rd_C9, rd_C10, rd_C11, rd_C12, rd_C25, rd_C26, rd_C27, rd_C28, rd_C29, rd_C_0, rd_C_1, rd_C_2, rd_C_3, rd_C_4, rd_C_5, rd_C_6, rd_C_7, rd_C_8, rd_C_9, rd_C_10, rd_C_11, rd_C_12, rd_C_13, rd_C_14, rd_C_15, rd_C_16, rd_C_17, rd_C_18, rd_C_19, rd_C_20, rd_C_21, rd_C_22, rd_C_23, rd_C_30, rd_C_31, rd_C_32, rd_C_33, rd_C_34, rd_C_35, rd_C_36, rd_C_37, rd_C_38, rd_C_39, rd_C_40, rd_C_41, rd_C_42, rd_C_43, rd_C_44, rd_C_45, rd_C_46, rd_C_47, rd_C_48, rd_C_49, rd_C_50, rd_C_51, rd_C_52, rd_C_53, rd_C_54, rd_C_55, rd_C_56, rd_C_57, rd_C_58, rd_C_59, rd_C_60, rd_C_61, rd_C_62, rd_C_63, rd_C_64, rd_C_65, wr_C9, wr_C10, wr_C11, wr_C12, wr_C25, wr_C26, wr_C27, wr_C28, wr_C29, wp_C25, wp_C26, wp_C27, wp_C28, wp_C29]
          refine zw_iconst ok_Co_meet rfl ?_
          refine zw_iadd ok_Co_meet rfl ?_
          refine zw_puti ok_Co_meet rfl fp_Co_102 rfl rfl ?_
          try simp only [rd_C9, rd_C10, rd_C11, rd_C12, rd_C25, rd_C26, rd_C27, rd_C28, rd_C29, rd_C_0, rd_C_1, rd_C_2, rd_C_3, rd_C_4, rd_C_5, rd_C_6, rd_C_7, rd_C_8, rd_C_9, rd_C_10, rd_C_11, rd_C_12, rd_C_13, rd_C_14, rd_C_15, rd_C_16, rd_C_17, rd_C_18, rd_C_19, rd_C_20, rd_C_21, rd_C_22, rd_C_23, rd_C_30, rd_C_31, rd_C_32, rd_C_33, rd_C_34, rd_C_35, rd_C_36, rd_C_37, rd_C_38, rd_C_39, rd_C_40, rd_C_41, rd_C_42, rd_C_43, rd_C_44, rd_C_45, rd_C_46, rd_C_47, rd_C_48, rd_C_49, rd_C_50, rd_C_51, rd_C_52, rd_C_53, rd_C_54, rd_C_55, rd_C_56, rd_C_57, rd_C_58, rd_C_59, rd_C_60, rd_C_61, rd_C_62, rd_C_63, rd_C_64, rd_C_65, wr_C9, wr_C10, wr_C11, wr_C12, wr_C25, wr_C26, wr_C27, wr_C28, wr_C29, wp_C25, wp_C26, wp_C27, wp_C28, wp_C29]
          exact zw_vret ok_Co_meet rfl rfl (⟨rfl, by subst hX; first | rfl | rw [if_pos h71] | rw [if_neg (fun q => q h71)]⟩)
    · rw [if_neg h63] at hX
      refine zw_aload_n ok_Co_meet rfl rfl ?_
      refine zw_aload_n ok_Co_meet rfl rfl ?_
      refine zw_geti ok_Co_meet rfl fl_Co_99 rfl rfl ?_
      try simp only [rd_C9, rd_C10, rd_C11, rd_C12, rd_C25, rd_C26, rd_C27, rd_C28, rd_C29, rd_C_0, rd_C_1, rd_C_2, rd_C_3, rd_C_4, rd_C_5, rd_C_6, rd_C_7, rd_C_8, rd_C_9, rd_C_10, rd_C_11, rd_C_12, rd_C_13, rd_C_14, rd_C_15, rd_C_16, rd_C_17, rd_C_18, rd_C_19, rd_C_20, rd_C_21, rd_C_22, rd_C_23, rd_C_30, rd_C_31, rd_C_32, rd_C_33, rd_C_34, rd_C_35, rd_C_36, rd_C_37, rd_C_38, rd_C_39, rd_C_40, rd_C_41, rd_C_42, rd_C_43, rd_C_44, rd_C_45, rd_C_46, rd_C_47, rd_C_48, rd_C_49, rd_C_50, rd_C_51, rd_C_52, rd_C_53, rd_C_54, rd_C_55, rd_C_56, rd_C_57, rd_C_58, rd_C_59, rd_C_60, rd_C_61, rd_C_62, rd_C_63, rd_C_64, rd_C_65, wr_C9, wr_C10, wr_C11, wr_C12, wr_C25, wr_C26, wr_C27, wr_C28, wr_C29, wp_C25, wp_C26, wp_C27, wp_C28, wp_C29]
      first | refine zw_ifne_d 79 ok_Co_meet rfl (by decide) (fun h71 => ?_) (fun h71 => ?_) | refine zw_ifne_b 79 ok_Co_meet rfl (by decide) (fun h71 => ?_) (fun h71 => ?_) | refine zw_if_ne 79 ok_Co_meet rfl (by decide) (by omega) (fun h71 => ?_) (fun h71 => ?_)
      · refine zw_aload_n ok_Co_meet rfl rfl ?_
        refine zw_geti ok_Co_meet rfl fl_Co_108 rfl rfl ?_
        try simp only [rd_C9, rd_C10, rd_C11, rd_C12, rd_C25, rd_C26, rd_C27, rd_C28, rd_C29, rd_C_0, rd_C_1, rd_C_2, rd_C_3, rd_C_4, rd_C_5, rd_C_6, rd_C_7, rd_C_8, rd_C_9, rd_C_10, rd_C_11, rd_C_12, rd_C_13, rd_C_14, rd_C_15, rd_C_16, rd_C_17, rd_C_18, rd_C_19, rd_C_20, rd_C_21, rd_C_22, rd_C_23, rd_C_30, rd_C_31, rd_C_32, rd_C_33, rd_C_34, rd_C_35, rd_C_36, rd_C_37, rd_C_38, rd_C_39, rd_C_40, rd_C_41, rd_C_42, rd_C_43, rd_C_44, rd_C_45, rd_C_46, rd_C_47, rd_C_48, rd_C_49, rd_C_50, rd_C_51, rd_C_52, rd_C_53, rd_C_54, rd_C_55, rd_C_56, rd_C_57, rd_C_58, rd_C_59, rd_C_60, rd_C_61, rd_C_62, rd_C_63, rd_C_64, rd_C_65, wr_C9, wr_C10, wr_C11, wr_C12, wr_C25, wr_C26, wr_C27, wr_C28, wr_C29, wp_C25, wp_C26, wp_C27, wp_C28, wp_C29]
        refine zw_puti ok_Co_meet rfl fp_Co_108 rfl rfl ?_
        try simp only [rd_C9, rd_C10, rd_C11, rd_C12, rd_C25, rd_C26, rd_C27, rd_C28, rd_C29, rd_C_0, rd_C_1, rd_C_2, rd_C_3, rd_C_4, rd_C_5, rd_C_6, rd_C_7, rd_C_8, rd_C_9, rd_C_10, rd_C_11, rd_C_12, rd_C_13, rd_C_14, rd_C_15, rd_C_16, rd_C_17, rd_C_18, rd_C_19, rd_C_20, rd_C_21, rd_C_22, rd_C_23, rd_C_30, rd_C_31, rd_C_32, rd_C_33, rd_C_34, rd_C_35, rd_C_36, rd_C_37, rd_C_38, rd_C_39, rd_C_40, rd_C_41, rd_C_42, rd_C_43, rd_C_44, rd_C_45, rd_C_46, rd_C_47, rd_C_48, rd_C_49, rd_C_50, rd_C_51, rd_C_52, rd_C_53, rd_C_54, rd_C_55, rd_C_56, rd_C_57, rd_C_58, rd_C_59, rd_C_60, rd_C_61, rd_C_62, rd_C_63, rd_C_64, rd_C_65, wr_C9, wr_C10, wr_C11, wr_C12, wr_C25, wr_C26, wr_C27, wr_C28, wr_C29, wp_C25, wp_C26, wp_C27, wp_C28, wp_C29]
        refine zw_aload_n ok_Co_meet rfl rfl ?_
        first | refine zw_dupi ok_Co_meet rfl ?_ | refine zw_dupr ok_Co_meet rfl ?_
        refine zw_geti ok_Co_meet rfl fl_Co_99 rfl rfl ?_
        try simp only [rd_C9, rd_C10, rd_C11, rd_C12, rd_C25, rd_C26, rd_C27, rd_C28, rd_C29, rd_C_0, rd_C_1, rd_C_2, rd_C_3, rd_C_4, rd_C_5, rd_C_6, rd_C_7, rd_C_8, rd_C_9, rd_C_10, rd_C_11, rd_C_12, rd_C_13, rd_C_14, rd_C_15, rd_C_16, rd_C_17, rd_C_18, rd_C_19, rd_C_20, rd_C_21, rd_C_22, rd_C_23, rd_C_30, rd_C_31, rd_C_32, rd_C_33, rd_C_34, rd_C_35, rd_C_36, rd_C_37, rd_C_38, rd_C_39, rd_C_40, rd_C_41, rd_C_42, rd_C_43, rd_C_44, rd_C_45, rd_C_46, rd_C_47, rd_C_48, rd_C_49, rd_C_50, rd_C_51, rd_C_52, rd_C_53, rd_C_54, rd_C_55, rd_C_56, rd_C_57, rd_C_58, rd_C_59, rd_C_60, rd_C_61, rd_C_62, rd_C_63, rd_C_64, rd_C_65, wr_C9, wr_C10, wr_C11, wr_C12, wr_C25, wr_C26, wr_C27, wr_C28, wr_C29, wp_C25, wp_C26, wp_C27, wp_C28, wp_C29]
        refine zw_iconst ok_Co_meet rfl ?_
        refine zw_iload ok_Co_meet rfl rfl ?_
        refine zw_ishl ok_Co_meet rfl ?_
        refine zw_ior ok_Co_meet rfl ?_
        refine zw_puti ok_Co_meet rfl fp_Co_99 rfl rfl ?_
        try simp only [rd_C9, rd_C10, rd_C11, rd_C12, rd_C25, rd_C26, rd_C27, rd_C28, rd_C29, rd_C_0, rd_C_1, rd_C_2, rd_C_3, rd_C_4, rd_C_5, rd_C_6, rd_C_7, rd_C_8, rd_C_9, rd_C_10, rd_C_11, rd_C_12, rd_C_13, rd_C_14, rd_C_15, rd_C_16, rd_C_17, rd_C_18, rd_C_19, rd_C_20, rd_C_21, rd_C_22, rd_C_23, rd_C_30, rd_C_31, rd_C_32, rd_C_33, rd_C_34, rd_C_35, rd_C_36, rd_C_37, rd_C_38, rd_C_39, rd_C_40, rd_C_41, rd_C_42, rd_C_43, rd_C_44, rd_C_45, rd_C_46, rd_C_47, rd_C_48, rd_C_49, rd_C_50, rd_C_51, rd_C_52, rd_C_53, rd_C_54, rd_C_55, rd_C_56, rd_C_57, rd_C_58, rd_C_59, rd_C_60, rd_C_61, rd_C_62, rd_C_63, rd_C_64, rd_C_65, wr_C9, wr_C10, wr_C11, wr_C12, wr_C25, wr_C26, wr_C27, wr_C28, wr_C29, wp_C25, wp_C26, wp_C27, wp_C28, wp_C29]
        refine zw_goto 172 ok_Co_meet rfl (by decide) ?_
        exact zw_vret ok_Co_meet rfl rfl (⟨rfl, by subst hX; first | rfl | rw [if_pos h71] | rw [if_neg (fun q => q h71)]⟩)
      · refine zw_iload ok_Co_meet rfl rfl ?_
        refine zw_goto 83 ok_Co_meet rfl (by decide) ?_
        refine zw_puti ok_Co_meet rfl fp_Co_108 rfl rfl ?_
        try simp only [rd_C9, rd_C10, rd_C11, rd_C12, rd_C25, rd_C26, rd_C27, rd_C28, rd_C29, rd_C_0, rd_C_1, rd_C_2, rd_C_3, rd_C_4, rd_C_5, rd_C_6, rd_C_7, rd_C_8, rd_C_9, rd_C_10, rd_C_11, rd_C_12, rd_C_13, rd_C_14, rd_C_15, rd_C_16, rd_C_17, rd_C_18, rd_C_19, rd_C_20, rd_C_21, rd_C_22, rd_C_23, rd_C_30, rd_C_31, rd_C_32, rd_C_33, rd_C_34, rd_C_35, rd_C_36, rd_C_37, rd_C_38, rd_C_39, rd_C_40, rd_C_41, rd_C_42, rd_C_43, rd_C_44, rd_C_45, rd_C_46, rd_C_47, rd_C_48, rd_C_49, rd_C_50, rd_C_51, rd_C_52, rd_C_53, rd_C_54, rd_C_55, rd_C_56, rd_C_57, rd_C_58, rd_C_59, rd_C_60, rd_C_61, rd_C_62, rd_C_63, rd_C_64, rd_C_65, wr_C9, wr_C10, wr_C11, wr_C12, wr_C25, wr_C26, wr_C27, wr_C28, wr_C29, wp_C25, wp_C26, wp_C27, wp_C28, wp_C29]
        refine zw_aload_n ok_Co_meet rfl rfl ?_
        first | refine zw_dupi ok_Co_meet rfl ?_ | refine zw_dupr ok_Co_meet rfl ?_
        refine zw_geti ok_Co_meet rfl fl_Co_99 rfl rfl ?_
        try simp only [rd_C9, rd_C10, rd_C11, rd_C12, rd_C25, rd_C26, rd_C27, rd_C28, rd_C29, rd_C_0, rd_C_1, rd_C_2, rd_C_3, rd_C_4, rd_C_5, rd_C_6, rd_C_7, rd_C_8, rd_C_9, rd_C_10, rd_C_11, rd_C_12, rd_C_13, rd_C_14, rd_C_15, rd_C_16, rd_C_17, rd_C_18, rd_C_19, rd_C_20, rd_C_21, rd_C_22, rd_C_23, rd_C_30, rd_C_31, rd_C_32, rd_C_33, rd_C_34, rd_C_35, rd_C_36, rd_C_37, rd_C_38, rd_C_39, rd_C_40, rd_C_41, rd_C_42, rd_C_43, rd_C_44, rd_C_45, rd_C_46, rd_C_47, rd_C_48, rd_C_49, rd_C_50, rd_C_51, rd_C_52, rd_C_53, rd_C_54, rd_C_55, rd_C_56, rd_C_57, rd_C_58, rd_C_59, rd_C_60, rd_C_61, rd_C_62, rd_C_63, rd_C_64, rd_C_65, wr_C9, wr_C10, wr_C11, wr_C12, wr_C25, wr_C26, wr_C27, wr_C28, wr_C29, wp_C25, wp_C26, wp_C27, wp_C28, wp_C29]
        refine zw_iconst ok_Co_meet rfl ?_
        refine zw_iload ok_Co_meet rfl rfl ?_
        refine zw_ishl ok_Co_meet rfl ?_
        refine zw_ior ok_Co_meet rfl ?_
        refine zw_puti ok_Co_meet rfl fp_Co_99 rfl rfl ?_
        try simp only [rd_C9, rd_C10, rd_C11, rd_C12, rd_C25, rd_C26, rd_C27, rd_C28, rd_C29, rd_C_0, rd_C_1, rd_C_2, rd_C_3, rd_C_4, rd_C_5, rd_C_6, rd_C_7, rd_C_8, rd_C_9, rd_C_10, rd_C_11, rd_C_12, rd_C_13, rd_C_14, rd_C_15, rd_C_16, rd_C_17, rd_C_18, rd_C_19, rd_C_20, rd_C_21, rd_C_22, rd_C_23, rd_C_30, rd_C_31, rd_C_32, rd_C_33, rd_C_34, rd_C_35, rd_C_36, rd_C_37, rd_C_38, rd_C_39, rd_C_40, rd_C_41, rd_C_42, rd_C_43, rd_C_44, rd_C_45, rd_C_46, rd_C_47, rd_C_48, rd_C_49, rd_C_50, rd_C_51, rd_C_52, rd_C_53, rd_C_54, rd_C_55, rd_C_56, rd_C_57, rd_C_58, rd_C_59, rd_C_60, rd_C_61, rd_C_62, rd_C_63, rd_C_64, rd_C_65, wr_C9, wr_C10, wr_C11, wr_C12, wr_C25, wr_C26, wr_C27, wr_C28, wr_C29, wp_C25, wp_C26, wp_C27, wp_C28, wp_C29]
        refine zw_goto 172 ok_Co_meet rfl (by decide) ?_
        exact zw_vret ok_Co_meet rfl rfl (⟨rfl, by subst hX; first | rfl | rw [if_pos h71] | rw [if_neg (fun q => q h71)]⟩)
  · have z1 := zabs_2 h33
    simp only [h33, if_false] at hX
    refine zw_iload_n ok_Co_meet rfl rfl ?_
    refine zw_goto 42 ok_Co_meet rfl (by decide) ?_
    refine zw_istore ok_Co_meet rfl rfl (by decide) ?_
    refine zw_iload ok_Co_meet rfl rfl ?_
    refine zw_mabs ok_Co_meet rfl lm_Co_129 ⟨by decide, Nat.le_of_ble_eq_true rfl⟩ (by omega) ?_
    refine zw_istore ok_Co_meet rfl rfl (by decide) ?_
    refine zw_iload ok_Co_meet rfl rfl ?_
    refine zw_aload_n ok_Co_meet rfl rfl ?_
    refine zw_getr ok_Co_meet rfl fl_Co_27 rfl rfl ?_
    refine zw_getr ok_Co_meet rfl fl_Co_133 rfl rfl ?_
    refine zw_iload ok_Co_meet rfl rfl ?_
    refine zw_iald ok_Co_meet rfl rfl (by omega) ?_
    try simp only [rd_C9, rd_C10, rd_C11, rd_C12, rd_C25, rd_C26, rd_C27, rd_C28, rd_C29, rd_C_0, rd_C_1, rd_C_2, rd_C_3, rd_C_4, rd_C_5, rd_C_6, rd_C_7, rd_C_8, rd_C_9, rd_C_10, rd_C_11, rd_C_12, rd_C_13, rd_C_14, rd_C_15, rd_C_16, rd_C_17, rd_C_18, rd_C_19, rd_C_20, rd_C_21, rd_C_22, rd_C_23, rd_C_30, rd_C_31, rd_C_32, rd_C_33, rd_C_34, rd_C_35, rd_C_36, rd_C_37, rd_C_38, rd_C_39, rd_C_40, rd_C_41, rd_C_42, rd_C_43, rd_C_44, rd_C_45, rd_C_46, rd_C_47, rd_C_48, rd_C_49, rd_C_50, rd_C_51, rd_C_52, rd_C_53, rd_C_54, rd_C_55, rd_C_56, rd_C_57, rd_C_58, rd_C_59, rd_C_60, rd_C_61, rd_C_62, rd_C_63, rd_C_64, rd_C_65, wr_C9, wr_C10, wr_C11, wr_C12, wr_C25, wr_C26, wr_C27, wr_C28, wr_C29, wp_C25, wp_C26, wp_C27, wp_C28, wp_C29]
    refine zw_icmp_le 102 ok_Co_meet rfl (by decide) (by omega) (fun h63 => ?_) (fun h63 => ?_)
    · rw [if_pos h63] at hX
      refine zw_aload_n ok_Co_meet rfl rfl ?_
      refine zw_getr ok_Co_meet rfl fl_Co_21 rfl rfl ?_
      refine zw_iload ok_Co_meet rfl rfl ?_
      refine zw_iload ok_Co_meet rfl rfl ?_
      refine zw_if_le 130 ok_Co_meet rfl (by decide) (by omega) (fun h110 => ?_) (fun h110 => ?_)
      · try (exfalso; omega)
        all_goals
          refine zw_iload ok_Co_meet rfl rfl ?_
          refine zw_aload_n ok_Co_meet rfl rfl ?_
          refine zw_getr ok_Co_meet rfl fl_Co_27 rfl rfl ?_
          refine zw_getr ok_Co_meet rfl fl_Co_96 rfl rfl ?_
          refine zw_iload_n ok_Co_meet rfl rfl ?_
          refine zw_iald ok_Co_meet rfl rfl (by omega) ?_
          try simp only [rd_C9, rd_C10, rd_C11, rd_C12, rd_C25, rd_C26, rd_C27, rd_C28, rd_C29, rd_C_0, rd_C_1, rd_C_2, rd_C_3, rd_C_4, rd_C_5, rd_C_6, rd_C_7, rd_C_8, rd_C_9, rd_C_10, rd_C_11, rd_C_12, rd_C_13, rd_C_14, rd_C_15, rd_C_16, rd_C_17, rd_C_18, rd_C_19, rd_C_20, rd_C_21, rd_C_22, rd_C_23, rd_C_30, rd_C_31, rd_C_32, rd_C_33, rd_C_34, rd_C_35, rd_C_36, rd_C_37, rd_C_38, rd_C_39, rd_C_40, rd_C_41, rd_C_42, rd_C_43, rd_C_44, rd_C_45, rd_C_46, rd_C_47, rd_C_48, rd_C_49, rd_C_50, rd_C_51, rd_C_52, rd_C_53, rd_C_54, rd_C_55, rd_C_56, rd_C_57, rd_C_58, rd_C_59, rd_C_60, rd_C_61, rd_C_62, rd_C_63, rd_C_64, rd_C_65, wr_C9, wr_C10, wr_C11, wr_C12, wr_C25, wr_C26, wr_C27, wr_C28, wr_C29, wp_C25, wp_C26, wp_C27, wp_C28, wp_C29]
          refine zw_iadd ok_Co_meet rfl ?_
          refine zw_iast ok_Co_meet rfl rfl (by omega) ?_
          try simp only [rd_C9, rd_C10, rd_C11, rd_C12, rd_C25, rd_C26, rd_C27, rd_C28, rd_C29, rd_C_0, rd_C_1, rd_C_2, rd_C_3, rd_C_4, rd_C_5, rd_C_6, rd_C_7, rd_C_8, rd_C_9, rd_C_10, rd_C_11, rd_C_12, rd_C_13, rd_C_14, rd_C_15, rd_C_16, rd_C_17, rd_C_18, rd_C_19, rd_C_20, rd_C_21, rd_C_22, rd_C_23, rd_C_30, rd_C_31, rd_C_32, rd_C_33, rd_C_34, rd_C_35, rd_C_36, rd_C_37, rd_C_38, rd_C_39, rd_C_40, rd_C_41, rd_C_42, rd_C_43, rd_C_44, rd_C_45, rd_C_46, rd_C_47, rd_C_48, rd_C_49, rd_C_50, rd_C_51, rd_C_52, rd_C_53, rd_C_54, rd_C_55, rd_C_56, rd_C_57, rd_C_58, rd_C_59, rd_C_60, rd_C_61, rd_C_62, rd_C_63, rd_C_64, rd_C_65, wr_C9, wr_C10, wr_C11, wr_C12, wr_C25, wr_C26, wr_C27, wr_C28, wr_C29, wp_C25, wp_C26, wp_C27, wp_C28, wp_C29]
          refine zw_aload_n ok_Co_meet rfl rfl ?_
          refine zw_getr ok_Co_meet rfl fl_Co_24 rfl rfl ?_
          refine zw_iload ok_Co_meet rfl rfl ?_
          refine zw_aload_n ok_Co_meet rfl rfl ?_
          refine zw_getr ok_Co_meet rfl fl_Co_24 rfl rfl ?_
          refine zw_iload ok_Co_meet rfl rfl ?_
          refine zw_iald ok_Co_meet rfl rfl (by omega) ?_
          try simp only [rd_C9, rd_C10, rd_C11, rd_C12, rd_C25, rd_C26, rd_C27, rd_C28, rd_C29, rd_C_0, rd_C_1, rd_C_2, rd_C_3, rd_C_4, rd_C_5, rd_C_6, rd_C_7, rd_C_8, rd_C_9, rd_C_10, rd_C_11, rd_C_12, rd_C_13, rd_C_14, rd_C_15, rd_C_16, rd_C_17, rd_C_18, rd_C_19, rd_C_20, rd_C_21, rd_C_22, rd_C_23, rd_C_30, rd_C_31, rd_C_32, rd_C_33, rd_C_34, rd_C_35, rd_C_36, rd_C_37, rd_C_38, rd_C_39, rd_C_40, rd_C_41, rd_C_42, rd_C_43, rd_C_44, rd_C_45, rd_C_46, rd_C_47, rd_C_48, rd_C_49, rd_C_50, rd_C_51, rd_C_52, rd_C_53, rd_C_54, rd_C_55, rd_C_56, rd_C_57, rd_C_58, rd_C_59, rd_C_60, rd_C_61, rd_C_62, rd_C_63, rd_C_64, rd_C_65, wr_C9, wr_C10, wr_C11, wr_C12, wr_C25, wr_C26, wr_C27, wr_C28, wr_C29, wp_C25, wp_C26, wp_C27, wp_C28, wp_C29]
          refine zw_iload ok_Co_meet rfl rfl ?_
          refine zw_mmax ok_Co_meet rfl lm_Co_126 ⟨by decide, Nat.le_of_ble_eq_true rfl⟩ (by omega) ?_
          refine zw_iast ok_Co_meet rfl rfl (by omega) ?_
          try simp only [rd_C9, rd_C10, rd_C11, rd_C12, rd_C25, rd_C26, rd_C27, rd_C28, rd_C29, rd_C_0, rd_C_1, rd_C_2, rd_C_3, rd_C_4, rd_C_5, rd_C_6, rd_C_7, rd_C_8, rd_C_9, rd_C_10, rd_C_11, rd_C_12, rd_C_13, rd_C_14, rd_C_15, rd_C_16, rd_C_17, rd_C_18, rd_C_19, rd_C_20, rd_C_21, rd_C_22, rd_C_23, rd_C_30, rd_C_31, rd_C_32, rd_C_33, rd_C_34, rd_C_35, rd_C_36, rd_C_37, rd_C_38, rd_C_39, rd_C_40, rd_C_41, rd_C_42, rd_C_43, rd_C_44, rd_C_45, rd_C_46, rd_C_47, rd_C_48, rd_C_49, rd_C_50, rd_C_51, rd_C_52, rd_C_53, rd_C_54, rd_C_55, rd_C_56, rd_C_57, rd_C_58, rd_C_59, rd_C_60, rd_C_61, rd_C_62, rd_C_63, rd_C_64, rd_C_65, wr_C9, wr_C10, wr_C11, wr_C12, wr_C25, wr_C26, wr_C27, wr_C28, wr_C29, wp_C25, wp_C26, wp_C27, wp_C28, wp_C29]
          refine zw_aload_n ok_Co_meet rfl rfl ?_
          first | refine zw_dupi ok_Co_meet rfl ?_ | refine zw_dupr ok_Co_meet rfl ?_
          refine zw_geti ok_Co_meet rfl fl_Co_102 rfl rfl ?_
          try simp only [rd_C9, rd_C10, rd_C11, rd_C12, rd_C25, rd_C26, rd_C27, rd_C28, rd_C29, rd_C_0, rd_C_1, rd_C_2, rd_C_3, rd_C_4, rd_C_5, rd_C_6, rd_C_7, rd_C_8, rd_C_9, rd_C_10, rd_C_11, rd_C_12, rd_C_13, rd_C_14, rd_C_15, rd_C_16, rd_C_17, rd_C_18, rd_C_19, rd_C_20, rd_C_21, rd_C_22, rd_C_23, rd_C_30, rd_C_31, rd_C_32, rd_C_33, rd_C_34, rd_C_35, rd_C_36, rd_C_37, rd_C_38, rd_C_39, rd_C_40, rd_C_41, rd_C_42, rd_C_43, rd_C_44, rd_C_45, rd_C_46, rd_C_47, rd_C_48, rd_C_49, rd_C_50, rd_C_51, rd_C_52, rd_C_53, rd_C_54, rd_C_55, rd_C_56, rd_C_57, rd_C_58, rd_C_59, rd_C_60, rd_C_61, rd_C_62, rd_C_63, rd_C_64, rd_C_65, wr_C9, wr_C10, wr_C11, wr_C12, wr_C25, wr_C26, wr_C27, wr_C28, wr_C29, wp_C25, wp_C26, wp_C27, wp_C28, wp_C29]
          refine zw_iconst ok_Co_meet rfl ?_
          refine zw_iadd ok_Co_meet rfl ?_
          refine zw_puti ok_Co_meet rfl fp_Co_102 rfl rfl ?_
          try simp only [rd_C9, rd_C10, rd_C11, rd_C12, rd_C25, rd_C26, rd_C27, rd_C28, rd_C29, rd_C_0, rd_C_1, rd_C_2, rd_C_3, rd_C_4, rd_C_5, rd_C_6, rd_C_7, rd_C_8, rd_C_9, rd_C_10, rd_C_11, rd_C_12, rd_C_13, rd_C_14, rd_C_15, rd_C_16, rd_C_17, rd_C_18, rd_C_19, rd_C_20, rd_C_21, rd_C_22, rd_C_23, rd_C_30, rd_C_31, rd_C_32, rd_C_33, rd_C_34, rd_C_35, rd_C_36, rd_C_37, rd_C_38, rd_C_39, rd_C_40, rd_C_41, rd_C_42, rd_C_43, rd_C_44, rd_C_45, rd_C_46, rd_C_47, rd_C_48, rd_C_49, rd_C_50, rd_C_51, rd_C_52, rd_C_53, rd_C_54, rd_C_55, rd_C_56, rd_C_57, rd_C_58, rd_C_59, rd_C_60, rd_C_61, rd_C_62, rd_C_63, rd_C_64, rd_C_65, wr_C9, wr_C10, wr_C11, wr_C12, wr_C25, wr_C26, wr_C27, wr_C28, wr_C29, wp_C25, wp_C26, wp_C27, wp_C28, wp_C29]
          exact zw_vret ok_Co_meet rfl rfl (⟨rfl, by subst hX; first | rfl | rw [if_pos h71] | rw [if_neg (fun q => q h71)]⟩)
      · try (exfalso; omega)
        all_goals
          refine zw_iload ok_Co_meet rfl rfl ?_
          refine zw_aload_n ok_Co_meet rfl rfl ?_
          refine zw_getr ok_Co_meet rfl fl_Co_27 rfl rfl ?_
          refine zw_getr ok_Co_meet rfl fl_Co_96 rfl rfl ?_
          refine zw_iload ok_Co_meet rfl rfl ?_
          refine zw_iald ok_Co_meet rfl rfl (by omega) ?_
          try simp only [rd_C9, rd_C10, rd_C11, rd_C12, rd_C25, rd_C26, rd_C27, rd_C28, rd_C29, rd_C_0, rd_C_1, rd_C_2, rd_C_3, rd_C_4, rd_C_5, rd_C_6, rd_C_7, rd_C_8, rd_C_9, rd_C_10, rd_C_11, rd_C_12, rd_C_13, rd_C_14, rd_C_15, rd_C_16, rd_C_17, rd_C_18, rd_C_19, rd_C_20, rd_C_21, rd_C_22, rd_C_23, rd_C_30, rd_C_31, rd_C_32, rd_C_33, rd_C_34, rd_C_35, rd_C_36, rd_C_37, rd_C_38, rd_C_39, rd_C_40, rd_C_41, rd_C_42, rd_C_43, rd_C_44, rd_C_45, rd_C_46, rd_C_47, rd_C_48, rd_C_49, rd_C_50, rd_C_51, rd_C_52, rd_C_53, rd_C_54, rd_C_55, rd_C_56, rd_C_57, rd_C_58, rd_C_59, rd_C_60, rd_C_61, rd_C_62, rd_C_63, rd_C_64, rd_C_65, wr_C9, wr_C10, wr_C11, wr_C12, wr_C25, wr_C26, wr_C27, wr_C28, wr_C29, wp_C25, wp_C26, wp_C27, wp_C28, wp_C29]
          refine zw_iadd ok_Co_meet rfl ?_
          refine zw_ineg ok_Co_meet rfl ?_
          refine zw_goto 142 ok_Co_meet rfl (by decide) ?_
          refine zw_iast ok_Co_meet rfl rfl (by omega) ?_
          try simp only [rd_C9, rd_C10, rd_C11, rd_C12, rd_C25, rd_C26, rd_C27, rd_C28, rd_C29, rd_C_0, rd_C_1, rd_C_2, rd_C_3, rd_C_4, rd_C_5, rd_C_6, rd_C_7, rd_C_8, rd_C_9, rd_C_10, rd_C_11, rd_C_12, rd_C_13, rd_C_14, rd_C_15, rd_C_16, rd_C_17, rd_C_18, rd_C_19, rd_C_20, rd_C_21, rd_C_22, rd_C_23, rd_C_30, rd_C_31, rd_C_32, rd_C_33, rd_C_34, rd_C_35, rd_C_36, rd_C_37, rd_C_38, rd_C_39, rd_C_40, rd_C_41, rd_C_42, rd_C_43, rd_C_44, rd_C_45, rd_C_46, rd_C_47, rd_C_48, rd_C_49, rd_C_50, rd_C_51, rd_C_52, rd_C_53, rd_C_54, rd_C_55, rd_C_56, rd_C_57, rd_C_58, rd_C_59, rd_C_60, rd_C_61, rd_C_62, rd_C_63, rd_C_64, rd_C_65, wr_C9, wr_C10, wr_C11, wr_C12, wr_C25, wr_C26, wr_C27, wr_C28, wr_C29, wp_C25, wp_C26, wp_C27, wp_C28, wp_C29]
          refine zw_aload_n ok_Co_meet rfl rfl ?_
          refine zw_getr ok_Co_meet rfl fl_Co_24 rfl rfl ?_
          refine zw_iload ok_Co_meet rfl rfl ?_
          refine zw_aload_n ok_Co_meet rfl rfl ?_
          refine zw_getr ok_Co_meet rfl fl_Co_24 rfl rfl ?_
          refine zw_iload ok_Co_meet rfl rfl ?_
          refine zw_iald ok_Co_meet rfl rfl (by omega) ?_
          try simp only [rd_C9, rd_C10, rd_C11, rd_C12, rd_C25, rd_C26, rd_C27, rd_C28, rd_C29, rd_C_0, rd_C_1, rd_C_2, rd_C_3, rd_C_4, rd_C_5, rd_C_6, rd_C_7, rd_C_8, rd_C_9, rd_C_10, rd_C_11, rd_C_12, rd_C_13, rd_C_14, rd_C_15, rd_C_16, rd_C_17, rd_C_18, rd_C_19, rd_C_20, rd_C_21, rd_C_22, rd_C_23, rd_C_30, rd_C_31, rd_C_32, rd_C_33, rd_C_34, rd_C_35, rd_C_36, rd_C_37, rd_C_38, rd_C_39, rd_C_40, rd_C_41, rd_C_42, rd_C_43, rd_C_44, rd_C_45, rd_C_46, rd_C_47, rd_C_48, rd_C_49, rd_C_50, rd_C_51, rd_C_52, rd_C_53, rd_C_54, rd_C_55, rd_C_56, rd_C_57, rd_C_58, rd_C_59, rd_C_60, rd_C_61, rd_C_62, rd_C_63, rd_C_64, rd_C_65, wr_C9, wr_C10, wr_C11, wr_C12, wr_C25, wr_C26, wr_C27, wr_C28, wr_C29, wp_C25, wp_C26, wp_C27, wp_C28, wp_C29]
          refine zw_iload ok_Co_meet rfl rfl ?_
          refine zw_mmax ok_Co_meet rfl lm_Co_126 ⟨by decide, Nat.le_of_ble_eq_true rfl⟩ (by omega) ?_
          refine zw_iast ok_Co_meet rfl rfl (by omega) ?_
          try simp only [rd_C9, rd_C10, rd_C11, rd_C12, rd_C25, rd_C26, rd_C27, rd_C28, rd_C29, rd_C_0, rd_C_1, rd_C_2, rd_C_3, rd_C_4, rd_C_5, rd_C_6, rd_C_7, rd_C_8, rd_C_9, rd_C_10, rd_C_11, rd_C_12, rd_C_13, rd_C_14, rd_C_15, rd_C_16, rd_C_17, rd_C_18, rd_C_19, rd_C_20, rd_C_21, rd_C_22, rd_C_23, rd_C_30, rd_C_31, rd_C_32, rd_C_33, rd_C_34, rd_C_35, rd_C_36, rd_C_37, rd_C_38, rd_C_39, rd_C_40, rd_C_41, rd_C_42, rd_C_43, rd_C_44, rd_C_45, rd_C_46, rd_C_47, rd_C_48, rd_C_49, rd_C_50, rd_C_51, rd_C_52, rd_C_53, rd_C_54, rd_C_55, rd_C_56, rd_C_57, rd_C_58, rd_C_59, rd_C_60, rd_C_61, rd_C_62, rd_C_63, rd_C_64, rd_C_65, wr_C9, wr_C10, wr_C11, wr_C12, wr_C25, wr_C26, wr_C27, wr_C28, wr_C29, wp_C25, wp_C26, wp_C27, wp_C28, wp_C29]
          refine zw_aload_n ok_Co_meet rfl rfl ?_
          first | refine zw_dupi ok_Co_meet rfl ?_ | refine zw_dupr ok_Co_meet rfl ?_
          refine zw_geti ok_Co_meet rfl fl_Co_102 rfl rfl ?_
          try simp only [rd_C9, rd_C10, rd_C11, rd_C12, rd_C25, rd_C26, rd_C27, rd_C28, rd_C29, rd_C_0, rd_C_1, rd_C_2, rd_C_3, rd_C_4, rd_C_5, rd_C_6, rd_C_7, rd_C_8, rd_C_9, rd_C_10, rd_C_11, rd_C_12, rd_C_13, rd_C_14, rd_C_15, rd_C_16, rd_C_17, rd_C_18, rd_C_19, rd_C_20, rd_C_21, rd_C_22, rd_C_23, rd_C_30, rd_C_31, rd_C_32, rd_C_33, rd_C_34, rd_C_35, rd_C_36, rd_C_37, rd_C_38, rd_C_39, rd_C_40, rd_C_41, rd_C_42, rd_C_43, rd_C_44, rd_C_45, rd_C_46, rd_C_47, rd_C_48, rd_C_49, rd_C_50, rd_C_51, rd_C_52, rd_C_53, rd_C_54, rd_C_55, rd_C_56, rd_C_57, rd_C_58, rd_C_59, rd_C_60, rd_C_61, rd_C_62, rd_C_63, rd_C_64, rd_C_65, wr_C9, wr_C10, wr_C11, wr_C12, wr_C25, wr_C26, wr_C27, wr_C28, wr_C29, wp_C25, wp_C26, wp_C27, wp_C28, wp_C29]
          refine zw_iconst ok_Co_meet rfl ?_
          refine zw_iadd ok_Co_meet rfl ?_
          refine zw_puti ok_Co_meet rfl fp_Co_102 rfl rfl ?_
          try simp only [rd_C9, rd_C10, rd_C11, rd_C12, rd_C25, rd_C26, rd_C27, rd_C28, rd_C29, rd_C_0, rd_C_1, rd_C_2, rd_C_3, rd_C_4, rd_C_5, rd_C_6, rd_C_7, rd_C_8, rd_C_9, rd_C_10, rd_C_11, rd_C_12, rd_C_13, rd_C_14, rd_C_15, rd_C_16, rd_C_17, rd_C_18, rd_C_19, rd_C_20, rd_C_21, rd_C_22, rd_C_23, rd_C_30, rd_C_31, rd_C_32, rd_C_33, rd_C_34, rd_C_35, rd_C_36, rd_C_37, rd_C_38, rd_C_39, rd_C_40, rd_C_41, rd_C_42, rd_C_43, rd_C_44, rd_C_45, rd_C_46, rd_C_47, rd_C_48, rd_C_49, rd_C_50, rd_C_51, rd_C_52, rd_C_53, rd_C_54, rd_C_55, rd_C_56, rd_C_57, rd_C_58, rd_C_59, rd_C_60, rd_C_61, rd_C_62, rd_C_63, rd_C_64, rd_C_65, wr_C9, wr_C10, wr_C11, wr_C12, wr_C25, wr_C26, wr_C27, wr_C28, wr_C29, wp_C25, wp_C26, wp_C27, wp_C28, wp_C29]
          exact zw_vret ok_Co_meet rfl rfl (⟨rfl, by subst hX; first | rfl | rw [if_pos h71] | rw [if_neg (fun q => q h71)]⟩)
    · rw [if_neg h63] at hX
      refine zw_aload_n ok_Co_meet rfl rfl ?_
      refine zw_aload_n ok_Co_meet rfl rfl ?_
      refine zw_geti ok_Co_meet rfl fl_Co_99 rfl rfl ?_
      try simp only [rd_C9, rd_C10, rd_C11, rd_C12, rd_C25, rd_C26, rd_C27, rd_C28, rd_C29, rd_C_0, rd_C_1, rd_C_2, rd_C_3, rd_C_4, rd_C_5, rd_C_6, rd_C_7, rd_C_8, rd_C_9, rd_C_10, rd_C_11, rd_C_12, rd_C_13, rd_C_14, rd_C_15, rd_C_16, rd_C_17, rd_C_18, rd_C_19, rd_C_20, rd_C_21, rd_C_22, rd_C_23, rd_C_30, rd_C_31, rd_C_32, rd_C_33, rd_C_34, rd_C_35, rd_C_36, rd_C_37, rd_C_38, rd_C_39, rd_C_40, rd_C_41, rd_C_42, rd_C_43, rd_C_44, rd_C_45, rd_C_46, rd_C_47, rd_C_48, rd_C_49, rd_C_50, rd_C_51, rd_C_52, rd_C_53, rd_C_54, rd_C_55, rd_C_56, rd_C_57, rd_C_58, rd_C_59, rd_C_60, rd_C_61, rd_C_62, rd_C_63, rd_C_64, rd_C_65, wr_C9, wr_C10, wr_C11, wr_C12, wr_C25, wr_C26, wr_C27, wr_C28, wr_C29, wp_C25, wp_C26, wp_C27, wp_C28, wp_C29]
      first | refine zw_ifne_d 79 ok_Co_meet rfl (by decide) (fun h71 => ?_) (fun h71 => ?_) | refine zw_ifne_b 79 ok_Co_meet rfl (by decide) (fun h71 => ?_) (fun h71 => ?_) | refine zw_if_ne 79 ok_Co_meet rfl (by decide) (by omega) (fun h71 => ?_) (fun h71 => ?_)
      · refine zw_aload_n ok_Co_meet rfl rfl ?_
        refine zw_geti ok_Co_meet rfl fl_Co_108 rfl rfl ?_
        try simp only [rd_C9, rd_C10, rd_C11, rd_C12, rd_C25, rd_C26, rd_C27, rd_C28, rd_C29, rd_C_0, rd_C_1, rd_C_2, rd_C_3, rd_C_4, rd_C_5, rd_C_6, rd_C_7, rd_C_8, rd_C_9, rd_C_10, rd_C_11, rd_C_12, rd_C_13, rd_C_14, rd_C_15, rd_C_16, rd_C_17, rd_C_18, rd_C_19, rd_C_20, rd_C_21, rd_C_22, rd_C_23, rd_C_30, rd_C_31, rd_C_32, rd_C_33, rd_C_34, rd_C_35, rd_C_36, rd_C_37, rd_C_38, rd_C_39, rd_C_40, rd_C_41, rd_C_42, rd_C_43, rd_C_44, rd_C_45, rd_C_46, rd_C_47, rd_C_48, rd_C_49, rd_C_50, rd_C_51, rd_C_52, rd_C_53, rd_C_54, rd_C_55, rd_C_56, rd_C_57, rd_C_58, rd_C_59, rd_C_60, rd_C_61, rd_C_62, rd_C_63, rd_C_64, rd_C_65, wr_C9, wr_C10, wr_C11, wr_C12, wr_C25, wr_C26, wr_C27, wr_C28, wr_C29, wp_C25, wp_C26, wp_C27, wp_C28, wp_C29]
        refine zw_puti ok_Co_meet rfl fp_Co_108 rfl rfl ?_
        try simp only [rd_C9, rd_C10, rd_C11, rd_C12, rd_C25, rd_C26, rd_C27, rd_C28, rd_C29, rd_C_0, rd_C_1, rd_C_2, rd_C_3, rd_C_4, rd_C_5, rd_C_6, rd_C_7, rd_C_8, rd_C_9, rd_C_10, rd_C_11, rd_C_12, rd_C_13, rd_C_14, rd_C_15, rd_C_16, rd_C_17, rd_C_18, rd_C_19, rd_C_20, rd_C_21, rd_C_22, rd_C_23, rd_C_30, rd_C_31, rd_C_32, rd_C_33, rd_C_34, rd_C_35, rd_C_36, rd_C_37, rd_C_38, rd_C_39, rd_C_40, rd_C_41, rd_C_42, rd_C_43, rd_C_44, rd_C_45, rd_C_46, rd_C_47, rd_C_48, rd_C_49, rd_C_50, rd_C_51, rd_C_52, rd_C_53, rd_C_54, rd_C_55, rd_C_56, rd_C_57, rd_C_58, rd_C_59, rd_C_60, rd_C_61, rd_C_62, rd_C_63, rd_C_64, rd_C_65, wr_C9, wr_C10, wr_C11, wr_C12, wr_C25, wr_C26, wr_C27, wr_C28, wr_C29, wp_C25, wp_C26, wp_C27, wp_C28, wp_C29]
        refine zw_aload_n ok_Co_meet rfl rfl ?_
        first | refine zw_dupi ok_Co_meet rfl ?_ | refine zw_dupr ok_Co_meet rfl ?_
        refine zw_geti ok_Co_meet rfl fl_Co_99 rfl rfl ?_
        try simp only [rd_C9, rd_C10, rd_C11, rd_C12, rd_C25, rd_C26, rd_C27, rd_C28, rd_C29, rd_C_0, rd_C_1, rd_C_2, rd_C_3, rd_C_4, rd_C_5, rd_C_6, rd_C_7, rd_C_8, rd_C_9, rd_C_10, rd_C_11, rd_C_12, rd_C_13, rd_C_14, rd_C_15, rd_C_16, rd_C_17, rd_C_18, rd_C_19, rd_C_20, rd_C_21, rd_C_22, rd_C_23, rd_C_30, rd_C_31, rd_C_32, rd_C_33, rd_C_34, rd_C_35, rd_C_36, rd_C_37, rd_C_38, rd_C_39, rd_C_40, rd_C_41, rd_C_42, rd_C_43, rd_C_44, rd_C_45, rd_C_46, rd_C_47, rd_C_48, rd_C_49, rd_C_50, rd_C_51, rd_C_52, rd_C_53, rd_C_54, rd_C_55, rd_C_56, rd_C_57, rd_C_58, rd_C_59, rd_C_60, rd_C_61, rd_C_62, rd_C_63, rd_C_64, rd_C_65, wr_C9, wr_C10, wr_C11, wr_C12, wr_C25, wr_C26, wr_C27, wr_C28, wr_C29, wp_C25, wp_C26, wp_C27, wp_C28, wp_C29]
        refine zw_iconst ok_Co_meet rfl ?_
        refine zw_iload ok_Co_meet rfl rfl ?_
        refine zw_ishl ok_Co_meet rfl ?_
        refine zw_ior ok_Co_meet rfl ?_
        refine zw_puti ok_Co_meet rfl fp_Co_99 rfl rfl ?_
        try simp only [rd_C9, rd_C10, rd_C11, rd_C12, rd_C25, rd_C26, rd_C27, rd_C28, rd_C29, rd_C_0, rd_C_1, rd_C_2, rd_C_3, rd_C_4, rd_C_5, rd_C_6, rd_C_7, rd_C_8, rd_C_9, rd_C_10, rd_C_11, rd_C_12, rd_C_13, rd_C_14, rd_C_15, rd_C_16, rd_C_17, rd_C_18, rd_C_19, rd_C_20, rd_C_21, rd_C_22, rd_C_23, rd_C_30, rd_C_31, rd_C_32, rd_C_33, rd_C_34, rd_C_35, rd_C_36, rd_C_37, rd_C_38, rd_C_39, rd_C_40, rd_C_41, rd_C_42, rd_C_43, rd_C_44, rd_C_45, rd_C_46, rd_C_47, rd_C_48, rd_C_49, rd_C_50, rd_C_51, rd_C_52, rd_C_53, rd_C_54, rd_C_55, rd_C_56, rd_C_57, rd_C_58, rd_C_59, rd_C_60, rd_C_61, rd_C_62, rd_C_63, rd_C_64, rd_C_65, wr_C9, wr_C10, wr_C11, wr_C12, wr_C25, wr_C26, wr_C27, wr_C28, wr_C29, wp_C25, wp_C26, wp_C27, wp_C28, wp_C29]
        refine zw_goto 172 ok_Co_meet rfl (by decide) ?_
        exact zw_vret ok_Co_meet rfl rfl (⟨rfl, by subst hX; first | rfl | rw [if_pos h71] | rw [if_neg (fun q => q h71)]⟩)
      · refine zw_iload ok_Co_meet rfl rfl ?_
        refine zw_goto 83 ok_Co_meet rfl (by decide) ?_
        refine zw_puti ok_Co_meet rfl fp_Co_108 rfl rfl ?_
        try simp only [rd_C9, rd_C10, rd_C11, rd_C12, rd_C25, rd_C26, rd_C27, rd_C28, rd_C29, rd_C_0, rd_C_1, rd_C_2, rd_C_3, rd_C_4, rd_C_5, rd_C_6, rd_C_7, rd_C_8, rd_C_9, rd_C_10, rd_C_11, rd_C_12, rd_C_13, rd_C_14, rd_C_15, rd_C_16, rd_C_17, rd_C_18, rd_C_19, rd_C_20, rd_C_21, rd_C_22, rd_C_23, rd_C_30, rd_C_31, rd_C_32, rd_C_33, rd_C_34, rd_C_35, rd_C_36, rd_C_37, rd_C_38, rd_C_39, rd_C_40, rd_C_41, rd_C_42, rd_C_43, rd_C_44, rd_C_45, rd_C_46, rd_C_47, rd_C_48, rd_C_49, rd_C_50, rd_C_51, rd_C_52, rd_C_53, rd_C_54, rd_C_55, rd_C_56, rd_C_57, rd_C_58, rd_C_59, rd_C_60, rd_C_61, rd_C_62, rd_C_63, rd_C_64, rd_C_65, wr_C9, wr_C10, wr_C11, wr_C12, wr_C25, wr_C26, wr_C27, wr_C28, wr_C29, wp_C25, wp_C26, wp_C27, wp_C28, wp_C29]
        refine zw_aload_n ok_Co_meet rfl rfl ?_
        first | refine zw_dupi ok_Co_meet rfl ?_ | refine zw_dupr ok_Co_meet rfl ?_
        refine zw_geti ok_Co_meet rfl fl_Co_99 rfl rfl ?_
        try simp only [rd_C9, rd_C10, rd_C11, rd_C12, rd_C25, rd_C26, rd_C27, rd_C28, rd_C29, rd_C_0, rd_C_1, rd_C_2, rd_C_3, rd_C_4, rd_C_5, rd_C_6, rd_C_7, rd_C_8, rd_C_9, rd_C_10, rd_C_11, rd_C_12, rd_C_13, rd_C_14, rd_C_15, rd_C_16, rd_C_17, rd_C_18, rd_C_19, rd_C_20, rd_C_21, rd_C_22, rd_C_23, rd_C_30, rd_C_31, rd_C_32, rd_C_33, rd_C_34, rd_C_35, rd_C_36, rd_C_37, rd_C_38, rd_C_39, rd_C_40, rd_C_41, rd_C_42, rd_C_43, rd_C_44, rd_C_45, rd_C_46, rd_C_47, rd_C_48, rd_C_49, rd_C_50, rd_C_51, rd_C_52, rd_C_53, rd_C_54, rd_C_55, rd_C_56, rd_C_57, rd_C_58, rd_C_59, rd_C_60, rd_C_61, rd_C_62, rd_C_63, rd_C_64, rd_C_65, wr_C9, wr_C10, wr_C11, wr_C12, wr_C25, wr_C26, wr_C27, wr_C28, wr_C29, wp_C25, wp_C26, wp_C27, wp_C28, wp_C29]
        refine zw_iconst ok_Co_meet rfl ?_
        refine zw_iload ok_Co_meet rfl rfl ?_
        refine zw_ishl ok_Co_meet rfl ?_
        refine zw_ior ok_Co_meet rfl ?_
        refine zw_puti ok_Co_meet rfl fp_Co_99 rfl rfl ?_
        try simp only [rd_C9, rd_C10, rd_C11, rd_C12, rd_C25, rd_C26, rd_C27, rd_C28, rd_C29, rd_C_0, rd_C_1, rd_C_2, rd_C_3, rd_C_4, rd_C_5, rd_C_6, rd_C_7, rd_C_8, rd_C_9, rd_C_10, rd_C_11, rd_C_12, rd_C_13, rd_C_14, rd_C_15, rd_C_16, rd_C_17, rd_C_18, rd_C_19, rd_C_20, rd_C_21, rd_C_22, rd_C_23, rd_C_30, rd_C_31, rd_C_32, rd_C_33, rd_C_34, rd_C_35, rd_C_36, rd_C_37, rd_C_38, rd_C_39, rd_C_40, rd_C_41, rd_C_42, rd_C_43, rd_C_44, rd_C_45, rd_C_46, rd_C_47, rd_C_48, rd_C_49, rd_C_50, rd_C_51, rd_C_52, rd_C_53, rd_C_54, rd_C_55, rd_C_56, rd_C_57, rd_C_58, rd_C_59, rd_C_60, rd_C_61, rd_C_62, rd_C_63, rd_C_64, rd_C_65, wr_C9, wr_C10, wr_C11, wr_C12, wr_C25, wr_C26, wr_C27, wr_C28, wr_C29, wp_C25, wp_C26, wp_C27, wp_C28, wp_C29]
        refine zw_goto 172 ok_Co_meet rfl (by decide) ?_
        exact zw_vret ok_Co_meet rfl rfl (⟨rfl, by subst hX; first | rfl | rw [if_pos h71] | rw [if_neg (fun q => q h71)]⟩)
theorem ct_Co_isGone {p : Int} (hp : 0 ≤ p ∧ p < 8) : zCbp m_Co_isGone [vr 24, vi p] (putC mem L s) (tb s.2.2.1 p.toNat) := by
  obtain ⟨d, l, g, n, fh, fw⟩ := s
  refine zCt.of [some (vr 24), some (vi p)] ok_Co_isGone (Nat.le_of_ble_eq_true rfl) rfl ?_
  refine zw_aload_n ok_Co_isGone rfl rfl ?_
  refine zw_geti ok_Co_isGone rfl fl_Co_99 rfl rfl ?_
  try simp only [rd_C9, rd_C10, rd_C11, rd_C12, rd_C25, rd_C26, rd_C27, rd_C28, rd_C29, rd_C_0, rd_C_1, rd_C_2, rd_C_3, rd_C_4, rd_C_5, rd_C_6, rd_C_7, rd_C_8, rd_C_9, rd_C_10, rd_C_11, rd_C_12, rd_C_13, rd_C_14, rd_C_15, rd_C_16, rd_C_17, rd_C_18, rd_C_19, rd_C_20, rd_C_21, rd_C_22, rd_C_23, rd_C_30, rd_C_31, rd_C_32, rd_C_33, rd_C_34, rd_C_35, rd_C_36, rd_C_37, rd_C_38, rd_C_39, rd_C_40, rd_C_41, rd_C_42, rd_C_43, rd_C_44, rd_C_45, rd_C_46, rd_C_47, rd_C_48, rd_C_49, rd_C_50, rd_C_51, rd_C_52, rd_C_53, rd_C_54, rd_C_55, rd_C_56, rd_C_57, rd_C_58, rd_C_59, rd_C_60, rd_C_61, rd_C_62, rd_C_63, rd_C_64, rd_C_65, wr_C9, wr_C10, wr_C11, wr_C12, wr_C25, wr_C26, wr_C27, wr_C28, wr_C29, wp_C25, wp_C26, wp_C27, wp_C28, wp_C29]
  refine zw_iload_n ok_Co_isGone rfl rfl ?_
  refine zw_ishr ok_Co_isGone rfl ?_
  refine zw_iconst ok_Co_isGone rfl ?_
  refine zw_iand ok_Co_isGone rfl ?_
  refine zw_if_eq 15 ok_Co_isGone rfl (by decide) (zR_and _ _) (fun h8 => ?_) (fun h8 => ?_)
  · rw [tb_ask0 _ (by omega)] at h8
    refine zw_iconst ok_Co_isGone rfl ?_
    exact zw_zret ok_Co_isGone rfl rfl (by first | exact Or.inl rfl | exact Or.inr rfl | exact bi01 _) (⟨by simp [bi, h8], rfl⟩)
  · rw [tb_ask0 _ (by omega)] at h8
    refine zw_iconst ok_Co_isGone rfl ?_
    refine zw_goto 16 ok_Co_isGone rfl (by decide) ?_
    exact zw_zret ok_Co_isGone rfl rfl (by first | exact Or.inl rfl | exact Or.inr rfl | exact bi01 _) (⟨by simp [bi, h8], rfl⟩)
theorem ct_Co_mayMeet {a b : Int} (ha : 0 ≤ a ∧ a < 8) (hb : 0 ≤ b ∧ b < 8) : zCbp m_Co_mayMeet [vr 24, vi a, vi b] (putC mem L s) (decide (a ≠ b ∧ (tb (mem 5 5) a.toNat = false ∧ tb s.2.2.1 a.toNat = false) ∧ (tb (mem 5 5) b.toNat = false ∧ tb s.2.2.1 b.toNat = false))) := by
  obtain ⟨d, l, g, n, fh, fw⟩ := s
  refine zCt.of [some (vr 24), some (vi a), some (vi b), none] ok_Co_mayMeet (Nat.le_of_ble_eq_true rfl) rfl ?_
  refine zw_aload_n ok_Co_mayMeet rfl rfl ?_
  refine zw_getr ok_Co_mayMeet rfl fl_Co_27 rfl rfl ?_
  refine zw_geti ok_Co_mayMeet rfl fl_Co_114 rfl rfl ?_
  try simp only [rd_C9, rd_C10, rd_C11, rd_C12, rd_C25, rd_C26, rd_C27, rd_C28, rd_C29, rd_C_0, rd_C_1, rd_C_2, rd_C_3, rd_C_4, rd_C_5, rd_C_6, rd_C_7, rd_C_8, rd_C_9, rd_C_10, rd_C_11, rd_C_12, rd_C_13, rd_C_14, rd_C_15, rd_C_16, rd_C_17, rd_C_18, rd_C_19, rd_C_20, rd_C_21, rd_C_22, rd_C_23, rd_C_30, rd_C_31, rd_C_32, rd_C_33, rd_C_34, rd_C_35, rd_C_36, rd_C_37, rd_C_38, rd_C_39, rd_C_40, rd_C_41, rd_C_42, rd_C_43, rd_C_44, rd_C_45, rd_C_46, rd_C_47, rd_C_48, rd_C_49, rd_C_50, rd_C_51, rd_C_52, rd_C_53, rd_C_54, rd_C_55, rd_C_56, rd_C_57, rd_C_58, rd_C_59, rd_C_60, rd_C_61, rd_C_62, rd_C_63, rd_C_64, rd_C_65, wr_C9, wr_C10, wr_C11, wr_C12, wr_C25, wr_C26, wr_C27, wr_C28, wr_C29, wp_C25, wp_C26, wp_C27, wp_C28, wp_C29]
  refine zw_aload_n ok_Co_mayMeet rfl rfl ?_
  refine zw_geti ok_Co_mayMeet rfl fl_Co_99 rfl rfl ?_
  try simp only [rd_C9, rd_C10, rd_C11, rd_C12, rd_C25, rd_C26, rd_C27, rd_C28, rd_C29, rd_C_0, rd_C_1, rd_C_2, rd_C_3, rd_C_4, rd_C_5, rd_C_6, rd_C_7, rd_C_8, rd_C_9, rd_C_10, rd_C_11, rd_C_12, rd_C_13, rd_C_14, rd_C_15, rd_C_16, rd_C_17, rd_C_18, rd_C_19, rd_C_20, rd_C_21, rd_C_22, rd_C_23, rd_C_30, rd_C_31, rd_C_32, rd_C_33, rd_C_34, rd_C_35, rd_C_36, rd_C_37, rd_C_38, rd_C_39, rd_C_40, rd_C_41, rd_C_42, rd_C_43, rd_C_44, rd_C_45, rd_C_46, rd_C_47, rd_C_48, rd_C_49, rd_C_50, rd_C_51, rd_C_52, rd_C_53, rd_C_54, rd_C_55, rd_C_56, rd_C_57, rd_C_58, rd_C_59, rd_C_60, rd_C_61, rd_C_62, rd_C_63, rd_C_64, rd_C_65, wr_C9, wr_C10, wr_C11, wr_C12, wr_C25, wr_C26, wr_C27, wr_C28, wr_C29, wp_C25, wp_C26, wp_C27, wp_C28, wp_C29]
  refine zw_ior ok_Co_mayMeet rfl ?_
  refine zw_istore_n ok_Co_mayMeet rfl rfl (by decide) ?_
  refine zw_iload_n ok_Co_mayMeet rfl rfl ?_
  refine zw_iload_n ok_Co_mayMeet rfl rfl ?_
  refine zw_icmp_eq 38 ok_Co_mayMeet rfl (by decide) (by omega) (fun h15 => ?_) (fun h15 => ?_)
  · refine zw_iconst ok_Co_mayMeet rfl ?_
    exact zw_zret ok_Co_mayMeet rfl rfl (by first | exact Or.inl rfl | exact Or.inr rfl | exact bi01 _) (⟨by refine congrArg (fun z => some (vi z)) ?_; first | exact (bi_f (by simp_all)).symm | exact (bi_t (by simp_all)).symm, rfl⟩)
  · refine zw_iload_n ok_Co_mayMeet rfl rfl ?_
    refine zw_iload_n ok_Co_mayMeet rfl rfl ?_
    refine zw_ishr ok_Co_mayMeet rfl ?_
    refine zw_iconst ok_Co_mayMeet rfl ?_
    refine zw_iand ok_Co_mayMeet rfl ?_
    refine zw_if_ne 38 ok_Co_mayMeet rfl (by decide) (zR_and _ _) (fun h23 => ?_) (fun h23 => ?_)
    · rw [tb_ask0 _ (by omega), tb_or] at h23
      refine zw_iconst ok_Co_mayMeet rfl ?_
      exact zw_zret ok_Co_mayMeet rfl rfl (by first | exact Or.inl rfl | exact Or.inr rfl | exact bi01 _) (⟨by refine congrArg (fun z => some (vi z)) ?_; first | exact (bi_f (by simp_all)).symm | exact (bi_t (by simp_all)).symm, rfl⟩)
    · rw [tb_ask0 _ (by omega), tb_or] at h23
      refine zw_iload_n ok_Co_mayMeet rfl rfl ?_
      refine zw_iload_n ok_Co_mayMeet rfl rfl ?_
      refine zw_ishr ok_Co_mayMeet rfl ?_
      refine zw_iconst ok_Co_mayMeet rfl ?_
      refine zw_iand ok_Co_mayMeet rfl ?_
      refine zw_if_ne 38 ok_Co_mayMeet rfl (by decide) (zR_and _ _) (fun h31 => ?_) (fun h31 => ?_)
      · rw [tb_ask0 _ (by omega), tb_or] at h31
        refine zw_iconst ok_Co_mayMeet rfl ?_
        exact zw_zret ok_Co_mayMeet rfl rfl (by first | exact Or.inl rfl | exact Or.inr rfl | exact bi01 _) (⟨by refine congrArg (fun z => some (vi z)) ?_; first | exact (bi_f (by simp_all)).symm | exact (bi_t (by simp_all)).symm, rfl⟩)
      · rw [tb_ask0 _ (by omega), tb_or] at h31
        refine zw_iconst ok_Co_mayMeet rfl ?_
        refine zw_goto 39 ok_Co_mayMeet rfl (by decide) ?_
        exact zw_zret ok_Co_mayMeet rfl rfl (by first | exact Or.inl rfl | exact Or.inr rfl | exact bi01 _) (⟨by refine congrArg (fun z => some (vi z)) ?_; first | exact (bi_f (by simp_all)).symm | exact (bi_t (by simp_all)).symm, rfl⟩)
/-- what person owes to another -/
def debtS (cl : Int) (d : Int → Int) (p q : Int) : Int := if tb cl p.toNat = true ∨ tb cl q.toNat = true then 0 else max (if p < q then d (p * 8 + q) else -(d (q * 8 + p))) 0
theorem ct_Co_debt {P p q : Int} (hP : 0 ≤ P ∧ P ≤ 8) (hp : 0 ≤ p ∧ p < P) (hq : 0 ≤ q ∧ q < P) (hpq : p ≠ q) (hs : sInv P s) : zCip m_Co_debt [vr 24, vi p, vi q] (putC mem L s) (debtS (mem 5 5) s.1 p q) := by
  obtain ⟨d, l, g, n, fh, fw⟩ := s
  have e1 := hs.1 p q hp.1
  have e2 := hs.1 q p hq.1
  dsimp only at e1 e2 ⊢
  refine zCt.of [some (vr 24), some (vi p), some (vi q), none, none] ok_Co_debt (Nat.le_of_ble_eq_true rfl) rfl ?_
  unfold debtS
  refine zw_aload_n ok_Co_debt rfl rfl ?_
  refine zw_getr ok_Co_debt rfl fl_Co_27 rfl rfl ?_
  refine zw_geti ok_Co_debt rfl fl_Co_114 rfl rfl ?_
  try simp only [rd_C9, rd_C10, rd_C11, rd_C12, rd_C25, rd_C26, rd_C27, rd_C28, rd_C29, rd_C_0, rd_C_1, rd_C_2, rd_C_3, rd_C_4, rd_C_5, rd_C_6, rd_C_7, rd_C_8, rd_C_9, rd_C_10, rd_C_11, rd_C_12, rd_C_13, rd_C_14, rd_C_15, rd_C_16, rd_C_17, rd_C_18, rd_C_19, rd_C_20, rd_C_21, rd_C_22, rd_C_23, rd_C_30, rd_C_31, rd_C_32, rd_C_33, rd_C_34, rd_C_35, rd_C_36, rd_C_37, rd_C_38, rd_C_39, rd_C_40, rd_C_41, rd_C_42, rd_C_43, rd_C_44, rd_C_45, rd_C_46, rd_C_47, rd_C_48, rd_C_49, rd_C_50, rd_C_51, rd_C_52, rd_C_53, rd_C_54, rd_C_55, rd_C_56, rd_C_57, rd_C_58, rd_C_59, rd_C_60, rd_C_61, rd_C_62, rd_C_63, rd_C_64, rd_C_65, wr_C9, wr_C10, wr_C11, wr_C12, wr_C25, wr_C26, wr_C27, wr_C28, wr_C29, wp_C25, wp_C26, wp_C27, wp_C28, wp_C29]
  refine zw_istore_n ok_Co_debt rfl rfl (by decide) ?_
  refine zw_iload_n ok_Co_debt rfl rfl ?_
  refine zw_iload_n ok_Co_debt rfl rfl ?_
  refine zw_ishr ok_Co_debt rfl ?_
  refine zw_iconst ok_Co_debt rfl ?_
  refine zw_iand ok_Co_debt rfl ?_
  refine zw_if_ne 24 ok_Co_debt rfl (by decide) (zR_and _ _) (fun h13 => ?_) (fun h13 => ?_)
  · rw [tb_ask0 _ (by omega)] at h13
    refine zw_iconst ok_Co_debt rfl ?_
    exact zw_iret ok_Co_debt rfl rfl (⟨by simp_all, rfl⟩)
  · rw [tb_ask0 _ (by omega)] at h13
    refine zw_iload_n ok_Co_debt rfl rfl ?_
    refine zw_iload_n ok_Co_debt rfl rfl ?_
    refine zw_ishr ok_Co_debt rfl ?_
    refine zw_iconst ok_Co_debt rfl ?_
    refine zw_iand ok_Co_debt rfl ?_
    refine zw_if_eq 26 ok_Co_debt rfl (by decide) (zR_and _ _) (fun h21 => ?_) (fun h21 => ?_)
    · rw [tb_ask0 _ (by omega)] at h21
      refine zw_iload_n ok_Co_debt rfl rfl ?_
      refine zw_iload_n ok_Co_debt rfl rfl ?_
      refine zw_icmp_ge 45 ok_Co_debt rfl (by decide) (by omega) (fun h28 => ?_) (fun h28 => ?_)
      · have e2 := e2 (by omega) (by omega)
        refine zw_aload_n ok_Co_debt rfl rfl ?_
        refine zw_getr ok_Co_debt rfl fl_Co_21 rfl rfl ?_
        refine zw_iload_n ok_Co_debt rfl rfl ?_
        refine zw_bipush ok_Co_debt rfl (by decide) ?_
        refine zw_imul ok_Co_debt rfl ?_
        refine zw_iload_n ok_Co_debt rfl rfl ?_
        refine zw_iadd ok_Co_debt rfl ?_
        refine zw_iald ok_Co_debt rfl rfl (by omega) ?_
        try simp only [rd_C9, rd_C10, rd_C11, rd_C12, rd_C25, rd_C26, rd_C27, rd_C28, rd_C29, rd_C_0, rd_C_1, rd_C_2, rd_C_3, rd_C_4, rd_C_5, rd_C_6, rd_C_7, rd_C_8, rd_C_9, rd_C_10, rd_C_11, rd_C_12, rd_C_13, rd_C_14, rd_C_15, rd_C_16, rd_C_17, rd_C_18, rd_C_19, rd_C_20, rd_C_21, rd_C_22, rd_C_23, rd_C_30, rd_C_31, rd_C_32, rd_C_33, rd_C_34, rd_C_35, rd_C_36, rd_C_37, rd_C_38, rd_C_39, rd_C_40, rd_C_41, rd_C_42, rd_C_43, rd_C_44, rd_C_45, rd_C_46, rd_C_47, rd_C_48, rd_C_49, rd_C_50, rd_C_51, rd_C_52, rd_C_53, rd_C_54, rd_C_55, rd_C_56, rd_C_57, rd_C_58, rd_C_59, rd_C_60, rd_C_61, rd_C_62, rd_C_63, rd_C_64, rd_C_65, wr_C9, wr_C10, wr_C11, wr_C12, wr_C25, wr_C26, wr_C27, wr_C28, wr_C29, wp_C25, wp_C26, wp_C27, wp_C28, wp_C29]
        refine zw_ineg ok_Co_debt rfl ?_
        refine zw_istore ok_Co_debt rfl rfl (by decide) ?_
        refine zw_iload ok_Co_debt rfl rfl ?_
        refine zw_iconst ok_Co_debt rfl ?_
        refine zw_mmax ok_Co_debt rfl lm_Co_126 ⟨by decide, Nat.le_of_ble_eq_true rfl⟩ (by omega) ?_
        exact zw_iret ok_Co_debt rfl rfl (⟨by rw [if_neg (by simp_all)]; first | rw [if_pos (by omega)] | rw [if_neg (by omega)], rfl⟩)
      · have e1 := e1 (by omega) (by omega)
        refine zw_aload_n ok_Co_debt rfl rfl ?_
        refine zw_getr ok_Co_debt rfl fl_Co_21 rfl rfl ?_
        refine zw_iload_n ok_Co_debt rfl rfl ?_
        refine zw_bipush ok_Co_debt rfl (by decide) ?_
        refine zw_imul ok_Co_debt rfl ?_
        refine zw_iload_n ok_Co_debt rfl rfl ?_
        refine zw_iadd ok_Co_debt rfl ?_
        refine zw_iald ok_Co_debt rfl rfl (by omega) ?_
        try simp only [rd_C9, rd_C10, rd_C11, rd_C12, rd_C25, rd_C26, rd_C27, rd_C28, rd_C29, rd_C_0, rd_C_1, rd_C_2, rd_C_3, rd_C_4, rd_C_5, rd_C_6, rd_C_7, rd_C_8, rd_C_9, rd_C_10, rd_C_11, rd_C_12, rd_C_13, rd_C_14, rd_C_15, rd_C_16, rd_C_17, rd_C_18, rd_C_19, rd_C_20, rd_C_21, rd_C_22, rd_C_23, rd_C_30, rd_C_31, rd_C_32, rd_C_33, rd_C_34, rd_C_35, rd_C_36, rd_C_37, rd_C_38, rd_C_39, rd_C_40, rd_C_41, rd_C_42, rd_C_43, rd_C_44, rd_C_45, rd_C_46, rd_C_47, rd_C_48, rd_C_49, rd_C_50, rd_C_51, rd_C_52, rd_C_53, rd_C_54, rd_C_55, rd_C_56, rd_C_57, rd_C_58, rd_C_59, rd_C_60, rd_C_61, rd_C_62, rd_C_63, rd_C_64, rd_C_65, wr_C9, wr_C10, wr_C11, wr_C12, wr_C25, wr_C26, wr_C27, wr_C28, wr_C29, wp_C25, wp_C26, wp_C27, wp_C28, wp_C29]
        refine zw_goto 57 ok_Co_debt rfl (by decide) ?_
        refine zw_istore ok_Co_debt rfl rfl (by decide) ?_
        refine zw_iload ok_Co_debt rfl rfl ?_
        refine zw_iconst ok_Co_debt rfl ?_
        refine zw_mmax ok_Co_debt rfl lm_Co_126 ⟨by decide, Nat.le_of_ble_eq_true rfl⟩ (by omega) ?_
        exact zw_iret ok_Co_debt rfl rfl (⟨by rw [if_neg (by simp_all)]; first | rw [if_pos (by omega)] | rw [if_neg (by omega)], rfl⟩)
    · rw [tb_ask0 _ (by omega)] at h21
      refine zw_iconst ok_Co_debt rfl ?_
      exact zw_iret ok_Co_debt rfl rfl (⟨by simp_all, rfl⟩)
def ringS (cl : Int) (d : Int → Int) (a b c : Int) : Prop := (0 < debtS cl d a b ∧ 0 < debtS cl d b c ∧ 0 < debtS cl d c a) ∨ (0 < debtS cl d b a ∧ 0 < debtS cl d c b ∧ 0 < debtS cl d a c)
theorem debtS_r {P p q : Int} {cl : Int} {s : zS} (hp : 0 ≤ p ∧ p < P) (hq : 0 ≤ q ∧ q < P) (hpq : p ≠ q) (hs : sInv P s) : 0 ≤ debtS cl s.1 p q ∧ debtS cl s.1 p q ≤ 109 := by
  have e1 := hs.1 p q hp.1
  have e2 := hs.1 q p hq.1
  unfold debtS
  split
  · omega
  · split
    · have e1 := e1 (by omega) (by omega); omega
    · have e2 := e2 (by omega) (by omega); omega
theorem ct_Co_isRing {P a b c : Int} (hP : 0 ≤ P ∧ P ≤ 8) (ha : 0 ≤ a ∧ a < P) (hb : 0 ≤ b ∧ b < P) (hc : 0 ≤ c ∧ c < P) (hab : a < b) (hbc : b < c) (hs : sInv P s) : zCt m_Co_isRing [vr 24, vi a, vi b, vi c] (putC mem L s) (fun r m2 => (∃ x, (x = 0 ∧ ¬ ringS (mem 5 5) s.1 a b c ∨ x = 1 ∧ ringS (mem 5 5) s.1 a b c) ∧ r = some (vi x)) ∧ m2 = putC mem L s) := by
  refine zCt.of [some (vr 24), some (vi a), some (vi b), some (vi c), none, none] ok_Co_isRing (Nat.le_of_ble_eq_true rfl) rfl ?_
  have r1 := debtS_r (cl := mem 5 5) ha hb (by omega) hs
  have r2 := debtS_r (cl := mem 5 5) hb hc (by omega) hs
  have r3 := debtS_r (cl := mem 5 5) hc ha (by omega) hs
  have r4 := debtS_r (cl := mem 5 5) hb ha (by omega) hs
  have r5 := debtS_r (cl := mem 5 5) hc hb (by omega) hs
  have r6 := debtS_r (cl := mem 5 5) ha hc (by omega) hs
  have J2 : ∀ x y : Int, (x = 0 ∨ x = 1) → (y = 0 ∨ y = 1) → (x = 1 ↔ (0 < debtS (mem 5 5) s.1 a b ∧ 0 < debtS (mem 5 5) s.1 b c ∧ 0 < debtS (mem 5 5) s.1 c a)) → (y = 1 ↔ (0 < debtS (mem 5 5) s.1 b a ∧ 0 < debtS (mem 5 5) s.1 c b ∧ 0 < debtS (mem 5 5) s.1 a c)) → AW m_Co_isRing 66 [some (vr 24), some (vi a), some (vi b), some (vi c), some (vi x), none] [vi y] (putC mem L s) (fun r m2 => (∃ x, (x = 0 ∧ ¬ ringS (mem 5 5) s.1 a b c ∨ x = 1 ∧ ringS (mem 5 5) s.1 a b c) ∧ r = some (vi x)) ∧ m2 = putC mem L s) := by
    intro x y hx hy hx2 hy2
    refine zw_istore ok_Co_isRing rfl rfl (by decide) ?_
    refine zw_iload ok_Co_isRing rfl rfl ?_
    refine zw_if_ne 78 ok_Co_isRing rfl (by decide) (by omega) (fun h70 => ?_) (fun h70 => ?_)
    · refine zw_iconst ok_Co_isRing rfl ?_
      refine zw_goto 83 ok_Co_isRing rfl (by decide) ?_
      exact zw_zret ok_Co_isRing rfl rfl (by first | exact Or.inl rfl | exact Or.inr rfl | exact bi01 _) (⟨⟨_, by unfold ringS; omega, rfl⟩, rfl⟩)
    · refine zw_iload ok_Co_isRing rfl rfl ?_
      refine zw_if_eq 82 ok_Co_isRing rfl (by decide) (by omega) (fun h75 => ?_) (fun h75 => ?_)
      · refine zw_iconst ok_Co_isRing rfl ?_
        exact zw_zret ok_Co_isRing rfl rfl (by first | exact Or.inl rfl | exact Or.inr rfl | exact bi01 _) (⟨⟨_, by unfold ringS; omega, rfl⟩, rfl⟩)
      · refine zw_iconst ok_Co_isRing rfl ?_
        refine zw_goto 83 ok_Co_isRing rfl (by decide) ?_
        exact zw_zret ok_Co_isRing rfl rfl (by first | exact Or.inl rfl | exact Or.inr rfl | exact bi01 _) (⟨⟨_, by unfold ringS; omega, rfl⟩, rfl⟩)
  have J1 : ∀ x : Int, (x = 0 ∨ x = 1) → (x = 1 ↔ (0 < debtS (mem 5 5) s.1 a b ∧ 0 < debtS (mem 5 5) s.1 b c ∧ 0 < debtS (mem 5 5) s.1 c a)) → AW m_Co_isRing 32 [some (vr 24), some (vi a), some (vi b), some (vi c), none, none] [vi x] (putC mem L s) (fun r m2 => (∃ x, (x = 0 ∧ ¬ ringS (mem 5 5) s.1 a b c ∨ x = 1 ∧ ringS (mem 5 5) s.1 a b c) ∧ r = some (vi x)) ∧ m2 = putC mem L s) := by
    intro x hx hx2
    refine zw_istore ok_Co_isRing rfl rfl (by decide) ?_
    refine zw_aload_n ok_Co_isRing rfl rfl ?_
    refine zw_iload_n ok_Co_isRing rfl rfl ?_
    refine zw_iload_n ok_Co_isRing rfl rfl ?_
    refine zw_Vip ok_Co_isRing rfl ok_Co_debt lk_Co_136 (by decide) rfl rfl (Nat.le_of_ble_eq_true rfl) (ct_Co_debt hP hb ha (by omega) hs) ?_
    refine zw_if_le 65 ok_Co_isRing rfl (by decide) (by omega) (fun h40 => ?_) (fun h40 => ?_)
    · refine zw_iconst ok_Co_isRing rfl ?_
      exact J2 _ _ hx (by omega) hx2 (by omega)
    · refine zw_aload_n ok_Co_isRing rfl rfl ?_
      refine zw_iload_n ok_Co_isRing rfl rfl ?_
      refine zw_iload_n ok_Co_isRing rfl rfl ?_
      refine zw_Vip ok_Co_isRing rfl ok_Co_debt lk_Co_136 (by decide) rfl rfl (Nat.le_of_ble_eq_true rfl) (ct_Co_debt hP hc hb (by omega) hs) ?_
      refine zw_if_le 65 ok_Co_isRing rfl (by decide) (by omega) (fun h49 => ?_) (fun h49 => ?_)
      · refine zw_iconst ok_Co_isRing rfl ?_
        exact J2 _ _ hx (by omega) hx2 (by omega)
      · refine zw_aload_n ok_Co_isRing rfl rfl ?_
        refine zw_iload_n ok_Co_isRing rfl rfl ?_
        refine zw_iload_n ok_Co_isRing rfl rfl ?_
        refine zw_Vip ok_Co_isRing rfl ok_Co_debt lk_Co_136 (by decide) rfl rfl (Nat.le_of_ble_eq_true rfl) (ct_Co_debt hP ha hc (by omega) hs) ?_
        refine zw_if_le 65 ok_Co_isRing rfl (by decide) (by omega) (fun h58 => ?_) (fun h58 => ?_)
        · refine zw_iconst ok_Co_isRing rfl ?_
          exact J2 _ _ hx (by omega) hx2 (by omega)
        · refine zw_iconst ok_Co_isRing rfl ?_
          refine zw_goto 66 ok_Co_isRing rfl (by decide) ?_
          exact J2 _ _ hx (by omega) hx2 (by omega)
  refine zw_aload_n ok_Co_isRing rfl rfl ?_
  refine zw_iload_n ok_Co_isRing rfl rfl ?_
  refine zw_iload_n ok_Co_isRing rfl rfl ?_
  refine zw_Vip ok_Co_isRing rfl ok_Co_debt lk_Co_136 (by decide) rfl rfl (Nat.le_of_ble_eq_true rfl) (ct_Co_debt hP ha hb (by omega) hs) ?_
  refine zw_if_le 31 ok_Co_isRing rfl (by decide) (by omega) (fun h6 => ?_) (fun h6 => ?_)
  · refine zw_iconst ok_Co_isRing rfl ?_
    exact J1 _ (by omega) (by omega)
  · refine zw_aload_n ok_Co_isRing rfl rfl ?_
    refine zw_iload_n ok_Co_isRing rfl rfl ?_
    refine zw_iload_n ok_Co_isRing rfl rfl ?_
    refine zw_Vip ok_Co_isRing rfl ok_Co_debt lk_Co_136 (by decide) rfl rfl (Nat.le_of_ble_eq_true rfl) (ct_Co_debt hP hb hc (by omega) hs) ?_
    refine zw_if_le 31 ok_Co_isRing rfl (by decide) (by omega) (fun h15 => ?_) (fun h15 => ?_)
    · refine zw_iconst ok_Co_isRing rfl ?_
      exact J1 _ (by omega) (by omega)
    · refine zw_aload_n ok_Co_isRing rfl rfl ?_
      refine zw_iload_n ok_Co_isRing rfl rfl ?_
      refine zw_iload_n ok_Co_isRing rfl rfl ?_
      refine zw_Vip ok_Co_isRing rfl ok_Co_debt lk_Co_136 (by decide) rfl rfl (Nat.le_of_ble_eq_true rfl) (ct_Co_debt hP hc ha (by omega) hs) ?_
      refine zw_if_le 31 ok_Co_isRing rfl (by decide) (by omega) (fun h24 => ?_) (fun h24 => ?_)
      · refine zw_iconst ok_Co_isRing rfl ?_
        exact J1 _ (by omega) (by omega)
      · refine zw_iconst ok_Co_isRing rfl ?_
        refine zw_goto 32 ok_Co_isRing rfl (by decide) ?_
        exact J1 _ (by omega) (by omega)
end
