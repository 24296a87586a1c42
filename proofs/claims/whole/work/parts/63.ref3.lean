/-! ===== the reference's day: meets ===== -/
def meW (mem : zMem) (a b h : Int) (less : Bool) (w low : Int) (x : zM) : Bool × zM :=
  if mem 55 (3 * w + 1) < low then (false, x.1, x.2.1, x.2.2.1, zor x.2.2.2.1 (zshl 1 w), x.2.2.2.2.1, (if x.2.2.2.1 = 0 then h else x.2.2.2.2.2.1), (if x.2.2.2.1 = 0 then w else x.2.2.2.2.2.2))
  else (true, zupd x.1 (8 * a + b) low, zupd x.2.1 (8 * a + b) (bi less), zupd x.2.2.1 w (max low (x.2.2.1 w)), x.2.2.2.1, x.2.2.2.2.1 + 1, x.2.2.2.2.2.1, x.2.2.2.2.2.2)
def meM (mem : zMem) (a b h : Int) (x : zM) : Bool × zM := meW mem a b h (lsM mem x a b) (if lsM mem x a b = true then a else b) (hwM mem x a b (if lsM mem x a b = true then a else b)) x
section
variable {mem : zMem} {Q : Option zVal → zMem → Prop}
theorem me_tail {a b h w : Int} {less : Bool} {x : zM} (hC : okM mem) (ha : 0 ≤ a) (hab : a < b) (hb : b < mem 48 7) (hw : 0 ≤ w ∧ w < mem 48 7) (hI : mInv (mem 48 7) x) (hx : ∀ r y, (r, y) = meW mem a b h less w (hwM mem x a b w) x → Q (some (vi (bi r))) (putM mem y)) : AW m_M_meets 20 [some (vr 48), some (vi a), some (vi b), some (vi h), some (vi (bi less)), some (vi w), none] [] (putM mem x) Q := by
  have hr := hwM_r hC ha hab hb hw hI
  have kl := ct_M_howLow hC ha hab hb hw hI
  have hP := hC.1
  have kw := (hC.2.1 w hw.1 hw.2).2.1
  obtain ⟨la, lb, mo, g, n, fh, fw⟩ := x
  generalize hwM mem (la, lb, mo, g, n, fh, fw) a b w = low at hr kl hx
  have hm : 0 ≤ mo w ∧ mo w ≤ 99 := hI.2.1 w hw.1 hw.2
  have hg : 0 ≤ g ∧ g < 256 := hI.2.2
  unfold meW at hx
  dsimp only at hx
  refine zw_aload_n ok_M_meets rfl rfl ?_
  refine zw_iload_n ok_M_meets rfl rfl ?_
  refine zw_iload_n ok_M_meets rfl rfl ?_
  refine zw_iload ok_M_meets rfl rfl ?_
  refine zw_Vip ok_M_meets rfl ok_M_howLow lk_M_200 (by decide) rfl rfl (Nat.le_of_ble_eq_true rfl) (kl) ?_
  refine zw_istore ok_M_meets rfl rfl (by decide) ?_
  refine zw_iload ok_M_meets rfl rfl ?_
  refine zw_aload_n ok_M_meets rfl rfl ?_
  refine zw_getr ok_M_meets rfl fl_M_28 rfl rfl ?_
  refine zw_iconst ok_M_meets rfl ?_
  refine zw_iload ok_M_meets rfl rfl ?_
  refine zw_imul ok_M_meets rfl ?_
  refine zw_iconst ok_M_meets rfl ?_
  refine zw_iadd ok_M_meets rfl ?_
  refine zw_iald ok_M_meets rfl rfl (by omega) ?_
  try simp only [rd_M18, rd_M19, rd_M20, rd_M21, rd_M59, rd_M60, rd_M61, rd_Mj4, rd_Mj7, rd_Mj9, rd_Mj11, rd_Mj13, rd_Mj22, rd_Mj23, rd_Mj24, rd_Mj27, rd_Mj30, rd_M_49, rd_M_50, rd_M_51, rd_M_52, rd_M_53, rd_M_54, rd_M_55, rd_M_56, rd_M_57, rd_M_58, rd_M_62, rd_M_63, rd_M_64, rd_M_65, wr_M18, wr_M19, wr_M20, wr_M21, wr_M59, wr_M60, wr_M61]
  refine zw_icmp_le 100 ok_M_meets rfl (by decide) (by omega) (fun h43 => ?_) (fun h43 => ?_)
  · rw [if_neg (by omega)] at hx
    refine zw_aload_n ok_M_meets rfl rfl ?_
    refine zw_getr ok_M_meets rfl fl_M_40 rfl rfl ?_
    refine zw_bipush ok_M_meets rfl (by decide) ?_
    refine zw_iload_n ok_M_meets rfl rfl ?_
    refine zw_imul ok_M_meets rfl ?_
    refine zw_iload_n ok_M_meets rfl rfl ?_
    refine zw_iadd ok_M_meets rfl ?_
    refine zw_iload ok_M_meets rfl rfl ?_
    refine zw_iast ok_M_meets rfl rfl (by omega) ?_
    try simp only [rd_M18, rd_M19, rd_M20, rd_M21, rd_M59, rd_M60, rd_M61, rd_Mj4, rd_Mj7, rd_Mj9, rd_Mj11, rd_Mj13, rd_Mj22, rd_Mj23, rd_Mj24, rd_Mj27, rd_Mj30, rd_M_49, rd_M_50, rd_M_51, rd_M_52, rd_M_53, rd_M_54, rd_M_55, rd_M_56, rd_M_57, rd_M_58, rd_M_62, rd_M_63, rd_M_64, rd_M_65, wr_M18, wr_M19, wr_M20, wr_M21, wr_M59, wr_M60, wr_M61]
    refine zw_aload_n ok_M_meets rfl rfl ?_
    refine zw_getr ok_M_meets rfl fl_M_43 rfl rfl ?_
    refine zw_bipush ok_M_meets rfl (by decide) ?_
    refine zw_iload_n ok_M_meets rfl rfl ?_
    refine zw_imul ok_M_meets rfl ?_
    refine zw_iload_n ok_M_meets rfl rfl ?_
    refine zw_iadd ok_M_meets rfl ?_
    refine zw_iload ok_M_meets rfl rfl ?_
    refine zw_ifeq_b 132 ok_M_meets rfl (by decide) (fun h125 => ?_) (fun h125 => ?_)
    · refine zw_iconst ok_M_meets rfl ?_
      refine zw_iast ok_M_meets rfl rfl (by omega) ?_
      try simp only [rd_M18, rd_M19, rd_M20, rd_M21, rd_M59, rd_M60, rd_M61, rd_Mj4, rd_Mj7, rd_Mj9, rd_Mj11, rd_Mj13, rd_Mj22, rd_Mj23, rd_Mj24, rd_Mj27, rd_Mj30, rd_M_49, rd_M_50, rd_M_51, rd_M_52, rd_M_53, rd_M_54, rd_M_55, rd_M_56, rd_M_57, rd_M_58, rd_M_62, rd_M_63, rd_M_64, rd_M_65, wr_M18, wr_M19, wr_M20, wr_M21, wr_M59, wr_M60, wr_M61]
      refine zw_aload_n ok_M_meets rfl rfl ?_
      refine zw_getr ok_M_meets rfl fl_M_46 rfl rfl ?_
      refine zw_iload ok_M_meets rfl rfl ?_
      refine zw_iload ok_M_meets rfl rfl ?_
      refine zw_aload_n ok_M_meets rfl rfl ?_
      refine zw_getr ok_M_meets rfl fl_M_46 rfl rfl ?_
      refine zw_iload ok_M_meets rfl rfl ?_
      refine zw_iald ok_M_meets rfl rfl (by omega) ?_
      try simp only [rd_M18, rd_M19, rd_M20, rd_M21, rd_M59, rd_M60, rd_M61, rd_Mj4, rd_Mj7, rd_Mj9, rd_Mj11, rd_Mj13, rd_Mj22, rd_Mj23, rd_Mj24, rd_Mj27, rd_Mj30, rd_M_49, rd_M_50, rd_M_51, rd_M_52, rd_M_53, rd_M_54, rd_M_55, rd_M_56, rd_M_57, rd_M_58, rd_M_62, rd_M_63, rd_M_64, rd_M_65, wr_M18, wr_M19, wr_M20, wr_M21, wr_M59, wr_M60, wr_M61]
      refine zw_Sip ok_M_meets rfl ok_M_greater lk_M_179 (by decide) rfl (Nat.le_of_ble_eq_true rfl) (ct_M_greater (by omega)) ?_
      refine zw_iast ok_M_meets rfl rfl (by omega) ?_
      try simp only [rd_M18, rd_M19, rd_M20, rd_M21, rd_M59, rd_M60, rd_M61, rd_Mj4, rd_Mj7, rd_Mj9, rd_Mj11, rd_Mj13, rd_Mj22, rd_Mj23, rd_Mj24, rd_Mj27, rd_Mj30, rd_M_49, rd_M_50, rd_M_51, rd_M_52, rd_M_53, rd_M_54, rd_M_55, rd_M_56, rd_M_57, rd_M_58, rd_M_62, rd_M_63, rd_M_64, rd_M_65, wr_M18, wr_M19, wr_M20, wr_M21, wr_M59, wr_M60, wr_M61]
      refine zw_aload_n ok_M_meets rfl rfl ?_
      first | refine zw_dupi ok_M_meets rfl ?_ | refine zw_dupr ok_M_meets rfl ?_
      refine zw_geti ok_M_meets rfl fl_M_185 rfl rfl ?_
      try simp only [rd_M18, rd_M19, rd_M20, rd_M21, rd_M59, rd_M60, rd_M61, rd_Mj4, rd_Mj7, rd_Mj9, rd_Mj11, rd_Mj13, rd_Mj22, rd_Mj23, rd_Mj24, rd_Mj27, rd_Mj30, rd_M_49, rd_M_50, rd_M_51, rd_M_52, rd_M_53, rd_M_54, rd_M_55, rd_M_56, rd_M_57, rd_M_58, rd_M_62, rd_M_63, rd_M_64, rd_M_65, wr_M18, wr_M19, wr_M20, wr_M21, wr_M59, wr_M60, wr_M61]
      refine zw_iconst ok_M_meets rfl ?_
      refine zw_iadd ok_M_meets rfl ?_
      refine zw_puti ok_M_meets rfl fp_M_185 rfl rfl ?_
      try simp only [rd_M18, rd_M19, rd_M20, rd_M21, rd_M59, rd_M60, rd_M61, rd_Mj4, rd_Mj7, rd_Mj9, rd_Mj11, rd_Mj13, rd_Mj22, rd_Mj23, rd_Mj24, rd_Mj27, rd_Mj30, rd_M_49, rd_M_50, rd_M_51, rd_M_52, rd_M_53, rd_M_54, rd_M_55, rd_M_56, rd_M_57, rd_M_58, rd_M_62, rd_M_63, rd_M_64, rd_M_65, wr_M18, wr_M19, wr_M20, wr_M21, wr_M59, wr_M60, wr_M61]
      refine zw_iconst ok_M_meets rfl ?_
      exact zw_zret ok_M_meets rfl rfl (by first | exact Or.inl rfl | exact Or.inr rfl | exact bi01 _) (hx true _ (by simp [*, bi]))
    · refine zw_iconst ok_M_meets rfl ?_
      refine zw_goto 133 ok_M_meets rfl (by decide) ?_
      refine zw_iast ok_M_meets rfl rfl (by omega) ?_
      try simp only [rd_M18, rd_M19, rd_M20, rd_M21, rd_M59, rd_M60, rd_M61, rd_Mj4, rd_Mj7, rd_Mj9, rd_Mj11, rd_Mj13, rd_Mj22, rd_Mj23, rd_Mj24, rd_Mj27, rd_Mj30, rd_M_49, rd_M_50, rd_M_51, rd_M_52, rd_M_53, rd_M_54, rd_M_55, rd_M_56, rd_M_57, rd_M_58, rd_M_62, rd_M_63, rd_M_64, rd_M_65, wr_M18, wr_M19, wr_M20, wr_M21, wr_M59, wr_M60, wr_M61]
      refine zw_aload_n ok_M_meets rfl rfl ?_
      refine zw_getr ok_M_meets rfl fl_M_46 rfl rfl ?_
      refine zw_iload ok_M_meets rfl rfl ?_
      refine zw_iload ok_M_meets rfl rfl ?_
      refine zw_aload_n ok_M_meets rfl rfl ?_
      refine zw_getr ok_M_meets rfl fl_M_46 rfl rfl ?_
      refine zw_iload ok_M_meets rfl rfl ?_
      refine zw_iald ok_M_meets rfl rfl (by omega) ?_
      try simp only [rd_M18, rd_M19, rd_M20, rd_M21, rd_M59, rd_M60, rd_M61, rd_Mj4, rd_Mj7, rd_Mj9, rd_Mj11, rd_Mj13, rd_Mj22, rd_Mj23, rd_Mj24, rd_Mj27, rd_Mj30, rd_M_49, rd_M_50, rd_M_51, rd_M_52, rd_M_53, rd_M_54, rd_M_55, rd_M_56, rd_M_57, rd_M_58, rd_M_62, rd_M_63, rd_M_64, rd_M_65, wr_M18, wr_M19, wr_M20, wr_M21, wr_M59, wr_M60, wr_M61]
      refine zw_Sip ok_M_meets rfl ok_M_greater lk_M_179 (by decide) rfl (Nat.le_of_ble_eq_true rfl) (ct_M_greater (by omega)) ?_
      refine zw_iast ok_M_meets rfl rfl (by omega) ?_
      try simp only [rd_M18, rd_M19, rd_M20, rd_M21, rd_M59, rd_M60, rd_M61, rd_Mj4, rd_Mj7, rd_Mj9, rd_Mj11, rd_Mj13, rd_Mj22, rd_Mj23, rd_Mj24, rd_Mj27, rd_Mj30, rd_M_49, rd_M_50, rd_M_51, rd_M_52, rd_M_53, rd_M_54, rd_M_55, rd_M_56, rd_M_57, rd_M_58, rd_M_62, rd_M_63, rd_M_64, rd_M_65, wr_M18, wr_M19, wr_M20, wr_M21, wr_M59, wr_M60, wr_M61]
      refine zw_aload_n ok_M_meets rfl rfl ?_
      first | refine zw_dupi ok_M_meets rfl ?_ | refine zw_dupr ok_M_meets rfl ?_
      refine zw_geti ok_M_meets rfl fl_M_185 rfl rfl ?_
      try simp only [rd_M18, rd_M19, rd_M20, rd_M21, rd_M59, rd_M60, rd_M61, rd_Mj4, rd_Mj7, rd_Mj9, rd_Mj11, rd_Mj13, rd_Mj22, rd_Mj23, rd_Mj24, rd_Mj27, rd_Mj30, rd_M_49, rd_M_50, rd_M_51, rd_M_52, rd_M_53, rd_M_54, rd_M_55, rd_M_56, rd_M_57, rd_M_58, rd_M_62, rd_M_63, rd_M_64, rd_M_65, wr_M18, wr_M19, wr_M20, wr_M21, wr_M59, wr_M60, wr_M61]
      refine zw_iconst ok_M_meets rfl ?_
      refine zw_iadd ok_M_meets rfl ?_
      refine zw_puti ok_M_meets rfl fp_M_185 rfl rfl ?_
      try simp only [rd_M18, rd_M19, rd_M20, rd_M21, rd_M59, rd_M60, rd_M61, rd_Mj4, rd_Mj7, rd_Mj9, rd_Mj11, rd_Mj13, rd_Mj22, rd_Mj23, rd_Mj24, rd_Mj27, rd_Mj30, rd_M_49, rd_M_50, rd_M_51, rd_M_52, rd_M_53, rd_M_54, rd_M_55, rd_M_56, rd_M_57, rd_M_58, rd_M_62, rd_M_63, rd_M_64, rd_M_65, wr_M18, wr_M19, wr_M20, wr_M21, wr_M59, wr_M60, wr_M61]
      refine zw_iconst ok_M_meets rfl ?_
      exact zw_zret ok_M_meets rfl rfl (by first | exact Or.inl rfl | exact Or.inr rfl | exact bi01 _) (hx true _ (by simp [*, bi]))
  · rw [if_pos (by omega)] at hx
    refine zw_aload_n ok_M_meets rfl rfl ?_
    refine zw_aload_n ok_M_meets rfl rfl ?_
    refine zw_geti ok_M_meets rfl fl_M_182 rfl rfl ?_
    try simp only [rd_M18, rd_M19, rd_M20, rd_M21, rd_M59, rd_M60, rd_M61, rd_Mj4, rd_Mj7, rd_Mj9, rd_Mj11, rd_Mj13, rd_Mj22, rd_Mj23, rd_Mj24, rd_Mj27, rd_Mj30, rd_M_49, rd_M_50, rd_M_51, rd_M_52, rd_M_53, rd_M_54, rd_M_55, rd_M_56, rd_M_57, rd_M_58, rd_M_62, rd_M_63, rd_M_64, rd_M_65, wr_M18, wr_M19, wr_M20, wr_M21, wr_M59, wr_M60, wr_M61]
    refine zw_if_ne 58 ok_M_meets rfl (by decide) (by omega) (fun h51 => ?_) (fun h51 => ?_)
    · refine zw_aload_n ok_M_meets rfl rfl ?_
      refine zw_geti ok_M_meets rfl fl_M_188 rfl rfl ?_
      try simp only [rd_M18, rd_M19, rd_M20, rd_M21, rd_M59, rd_M60, rd_M61, rd_Mj4, rd_Mj7, rd_Mj9, rd_Mj11, rd_Mj13, rd_Mj22, rd_Mj23, rd_Mj24, rd_Mj27, rd_Mj30, rd_M_49, rd_M_50, rd_M_51, rd_M_52, rd_M_53, rd_M_54, rd_M_55, rd_M_56, rd_M_57, rd_M_58, rd_M_62, rd_M_63, rd_M_64, rd_M_65, wr_M18, wr_M19, wr_M20, wr_M21, wr_M59, wr_M60, wr_M61]
      refine zw_puti ok_M_meets rfl fp_M_188 rfl rfl ?_
      try simp only [rd_M18, rd_M19, rd_M20, rd_M21, rd_M59, rd_M60, rd_M61, rd_Mj4, rd_Mj7, rd_Mj9, rd_Mj11, rd_Mj13, rd_Mj22, rd_Mj23, rd_Mj24, rd_Mj27, rd_Mj30, rd_M_49, rd_M_50, rd_M_51, rd_M_52, rd_M_53, rd_M_54, rd_M_55, rd_M_56, rd_M_57, rd_M_58, rd_M_62, rd_M_63, rd_M_64, rd_M_65, wr_M18, wr_M19, wr_M20, wr_M21, wr_M59, wr_M60, wr_M61]
      refine zw_aload_n ok_M_meets rfl rfl ?_
      refine zw_aload_n ok_M_meets rfl rfl ?_
      refine zw_geti ok_M_meets rfl fl_M_182 rfl rfl ?_
      try simp only [rd_M18, rd_M19, rd_M20, rd_M21, rd_M59, rd_M60, rd_M61, rd_Mj4, rd_Mj7, rd_Mj9, rd_Mj11, rd_Mj13, rd_Mj22, rd_Mj23, rd_Mj24, rd_Mj27, rd_Mj30, rd_M_49, rd_M_50, rd_M_51, rd_M_52, rd_M_53, rd_M_54, rd_M_55, rd_M_56, rd_M_57, rd_M_58, rd_M_62, rd_M_63, rd_M_64, rd_M_65, wr_M18, wr_M19, wr_M20, wr_M21, wr_M59, wr_M60, wr_M61]
      refine zw_if_ne 78 ok_M_meets rfl (by decide) (by omega) (fun h70 => ?_) (fun h70 => ?_)
      · try (exfalso; omega)
        all_goals
          refine zw_aload_n ok_M_meets rfl rfl ?_
          refine zw_geti ok_M_meets rfl fl_M_191 rfl rfl ?_
          try simp only [rd_M18, rd_M19, rd_M20, rd_M21, rd_M59, rd_M60, rd_M61, rd_Mj4, rd_Mj7, rd_Mj9, rd_Mj11, rd_Mj13, rd_Mj22, rd_Mj23, rd_Mj24, rd_Mj27, rd_Mj30, rd_M_49, rd_M_50, rd_M_51, rd_M_52, rd_M_53, rd_M_54, rd_M_55, rd_M_56, rd_M_57, rd_M_58, rd_M_62, rd_M_63, rd_M_64, rd_M_65, wr_M18, wr_M19, wr_M20, wr_M21, wr_M59, wr_M60, wr_M61]
          refine zw_puti ok_M_meets rfl fp_M_191 rfl rfl ?_
          try simp only [rd_M18, rd_M19, rd_M20, rd_M21, rd_M59, rd_M60, rd_M61, rd_Mj4, rd_Mj7, rd_Mj9, rd_Mj11, rd_Mj13, rd_Mj22, rd_Mj23, rd_Mj24, rd_Mj27, rd_Mj30, rd_M_49, rd_M_50, rd_M_51, rd_M_52, rd_M_53, rd_M_54, rd_M_55, rd_M_56, rd_M_57, rd_M_58, rd_M_62, rd_M_63, rd_M_64, rd_M_65, wr_M18, wr_M19, wr_M20, wr_M21, wr_M59, wr_M60, wr_M61]
          refine zw_aload_n ok_M_meets rfl rfl ?_
          first | refine zw_dupi ok_M_meets rfl ?_ | refine zw_dupr ok_M_meets rfl ?_
          refine zw_geti ok_M_meets rfl fl_M_182 rfl rfl ?_
          try simp only [rd_M18, rd_M19, rd_M20, rd_M21, rd_M59, rd_M60, rd_M61, rd_Mj4, rd_Mj7, rd_Mj9, rd_Mj11, rd_Mj13, rd_Mj22, rd_Mj23, rd_Mj24, rd_Mj27, rd_Mj30, rd_M_49, rd_M_50, rd_M_51, rd_M_52, rd_M_53, rd_M_54, rd_M_55, rd_M_56, rd_M_57, rd_M_58, rd_M_62, rd_M_63, rd_M_64, rd_M_65, wr_M18, wr_M19, wr_M20, wr_M21, wr_M59, wr_M60, wr_M61]
          refine zw_iconst ok_M_meets rfl ?_
          refine zw_iload ok_M_meets rfl rfl ?_
          refine zw_ishl ok_M_meets rfl ?_
          refine zw_ior ok_M_meets rfl ?_
          refine zw_puti ok_M_meets rfl fp_M_182 rfl rfl ?_
          try simp only [rd_M18, rd_M19, rd_M20, rd_M21, rd_M59, rd_M60, rd_M61, rd_Mj4, rd_Mj7, rd_Mj9, rd_Mj11, rd_Mj13, rd_Mj22, rd_Mj23, rd_Mj24, rd_Mj27, rd_Mj30, rd_M_49, rd_M_50, rd_M_51, rd_M_52, rd_M_53, rd_M_54, rd_M_55, rd_M_56, rd_M_57, rd_M_58, rd_M_62, rd_M_63, rd_M_64, rd_M_65, wr_M18, wr_M19, wr_M20, wr_M21, wr_M59, wr_M60, wr_M61]
          refine zw_iconst ok_M_meets rfl ?_
          exact zw_zret ok_M_meets rfl rfl (by first | exact Or.inl rfl | exact Or.inr rfl | exact bi01 _) (hx false _ (by simp [*]))
      · try (exfalso; omega)
        all_goals
          refine zw_iload ok_M_meets rfl rfl ?_
          refine zw_goto 82 ok_M_meets rfl (by decide) ?_
          refine zw_puti ok_M_meets rfl fp_M_191 rfl rfl ?_
          try simp only [rd_M18, rd_M19, rd_M20, rd_M21, rd_M59, rd_M60, rd_M61, rd_Mj4, rd_Mj7, rd_Mj9, rd_Mj11, rd_Mj13, rd_Mj22, rd_Mj23, rd_Mj24, rd_Mj27, rd_Mj30, rd_M_49, rd_M_50, rd_M_51, rd_M_52, rd_M_53, rd_M_54, rd_M_55, rd_M_56, rd_M_57, rd_M_58, rd_M_62, rd_M_63, rd_M_64, rd_M_65, wr_M18, wr_M19, wr_M20, wr_M21, wr_M59, wr_M60, wr_M61]
          refine zw_aload_n ok_M_meets rfl rfl ?_
          first | refine zw_dupi ok_M_meets rfl ?_ | refine zw_dupr ok_M_meets rfl ?_
          refine zw_geti ok_M_meets rfl fl_M_182 rfl rfl ?_
          try simp only [rd_M18, rd_M19, rd_M20, rd_M21, rd_M59, rd_M60, rd_M61, rd_Mj4, rd_Mj7, rd_Mj9, rd_Mj11, rd_Mj13, rd_Mj22, rd_Mj23, rd_Mj24, rd_Mj27, rd_Mj30, rd_M_49, rd_M_50, rd_M_51, rd_M_52, rd_M_53, rd_M_54, rd_M_55, rd_M_56, rd_M_57, rd_M_58, rd_M_62, rd_M_63, rd_M_64, rd_M_65, wr_M18, wr_M19, wr_M20, wr_M21, wr_M59, wr_M60, wr_M61]
          refine zw_iconst ok_M_meets rfl ?_
          refine zw_iload ok_M_meets rfl rfl ?_
          refine zw_ishl ok_M_meets rfl ?_
          refine zw_ior ok_M_meets rfl ?_
          refine zw_puti ok_M_meets rfl fp_M_182 rfl rfl ?_
          try simp only [rd_M18, rd_M19, rd_M20, rd_M21, rd_M59, rd_M60, rd_M61, rd_Mj4, rd_Mj7, rd_Mj9, rd_Mj11, rd_Mj13, rd_Mj22, rd_Mj23, rd_Mj24, rd_Mj27, rd_Mj30, rd_M_49, rd_M_50, rd_M_51, rd_M_52, rd_M_53, rd_M_54, rd_M_55, rd_M_56, rd_M_57, rd_M_58, rd_M_62, rd_M_63, rd_M_64, rd_M_65, wr_M18, wr_M19, wr_M20, wr_M21, wr_M59, wr_M60, wr_M61]
          refine zw_iconst ok_M_meets rfl ?_
          exact zw_zret ok_M_meets rfl rfl (by first | exact Or.inl rfl | exact Or.inr rfl | exact bi01 _) (hx false _ (by simp [*]))
    · refine zw_iload_n ok_M_meets rfl rfl ?_
      refine zw_goto 62 ok_M_meets rfl (by decide) ?_
      refine zw_puti ok_M_meets rfl fp_M_188 rfl rfl ?_
      try simp only [rd_M18, rd_M19, rd_M20, rd_M21, rd_M59, rd_M60, rd_M61, rd_Mj4, rd_Mj7, rd_Mj9, rd_Mj11, rd_Mj13, rd_Mj22, rd_Mj23, rd_Mj24, rd_Mj27, rd_Mj30, rd_M_49, rd_M_50, rd_M_51, rd_M_52, rd_M_53, rd_M_54, rd_M_55, rd_M_56, rd_M_57, rd_M_58, rd_M_62, rd_M_63, rd_M_64, rd_M_65, wr_M18, wr_M19, wr_M20, wr_M21, wr_M59, wr_M60, wr_M61]
      refine zw_aload_n ok_M_meets rfl rfl ?_
      refine zw_aload_n ok_M_meets rfl rfl ?_
      refine zw_geti ok_M_meets rfl fl_M_182 rfl rfl ?_
      try simp only [rd_M18, rd_M19, rd_M20, rd_M21, rd_M59, rd_M60, rd_M61, rd_Mj4, rd_Mj7, rd_Mj9, rd_Mj11, rd_Mj13, rd_Mj22, rd_Mj23, rd_Mj24, rd_Mj27, rd_Mj30, rd_M_49, rd_M_50, rd_M_51, rd_M_52, rd_M_53, rd_M_54, rd_M_55, rd_M_56, rd_M_57, rd_M_58, rd_M_62, rd_M_63, rd_M_64, rd_M_65, wr_M18, wr_M19, wr_M20, wr_M21, wr_M59, wr_M60, wr_M61]
      refine zw_if_ne 78 ok_M_meets rfl (by decide) (by omega) (fun h70 => ?_) (fun h70 => ?_)
      · try (exfalso; omega)
        all_goals
          refine zw_aload_n ok_M_meets rfl rfl ?_
          refine zw_geti ok_M_meets rfl fl_M_191 rfl rfl ?_
          try simp only [rd_M18, rd_M19, rd_M20, rd_M21, rd_M59, rd_M60, rd_M61, rd_Mj4, rd_Mj7, rd_Mj9, rd_Mj11, rd_Mj13, rd_Mj22, rd_Mj23, rd_Mj24, rd_Mj27, rd_Mj30, rd_M_49, rd_M_50, rd_M_51, rd_M_52, rd_M_53, rd_M_54, rd_M_55, rd_M_56, rd_M_57, rd_M_58, rd_M_62, rd_M_63, rd_M_64, rd_M_65, wr_M18, wr_M19, wr_M20, wr_M21, wr_M59, wr_M60, wr_M61]
          refine zw_puti ok_M_meets rfl fp_M_191 rfl rfl ?_
          try simp only [rd_M18, rd_M19, rd_M20, rd_M21, rd_M59, rd_M60, rd_M61, rd_Mj4, rd_Mj7, rd_Mj9, rd_Mj11, rd_Mj13, rd_Mj22, rd_Mj23, rd_Mj24, rd_Mj27, rd_Mj30, rd_M_49, rd_M_50, rd_M_51, rd_M_52, rd_M_53, rd_M_54, rd_M_55, rd_M_56, rd_M_57, rd_M_58, rd_M_62, rd_M_63, rd_M_64, rd_M_65, wr_M18, wr_M19, wr_M20, wr_M21, wr_M59, wr_M60, wr_M61]
          refine zw_aload_n ok_M_meets rfl rfl ?_
          first | refine zw_dupi ok_M_meets rfl ?_ | refine zw_dupr ok_M_meets rfl ?_
          refine zw_geti ok_M_meets rfl fl_M_182 rfl rfl ?_
          try simp only [rd_M18, rd_M19, rd_M20, rd_M21, rd_M59, rd_M60, rd_M61, rd_Mj4, rd_Mj7, rd_Mj9, rd_Mj11, rd_Mj13, rd_Mj22, rd_Mj23, rd_Mj24, rd_Mj27, rd_Mj30, rd_M_49, rd_M_50, rd_M_51, rd_M_52, rd_M_53, rd_M_54, rd_M_55, rd_M_56, rd_M_57, rd_M_58, rd_M_62, rd_M_63, rd_M_64, rd_M_65, wr_M18, wr_M19, wr_M20, wr_M21, wr_M59, wr_M60, wr_M61]
          refine zw_iconst ok_M_meets rfl ?_
          refine zw_iload ok_M_meets rfl rfl ?_
          refine zw_ishl ok_M_meets rfl ?_
          refine zw_ior ok_M_meets rfl ?_
          refine zw_puti ok_M_meets rfl fp_M_182 rfl rfl ?_
          try simp only [rd_M18, rd_M19, rd_M20, rd_M21, rd_M59, rd_M60, rd_M61, rd_Mj4, rd_Mj7, rd_Mj9, rd_Mj11, rd_Mj13, rd_Mj22, rd_Mj23, rd_Mj24, rd_Mj27, rd_Mj30, rd_M_49, rd_M_50, rd_M_51, rd_M_52, rd_M_53, rd_M_54, rd_M_55, rd_M_56, rd_M_57, rd_M_58, rd_M_62, rd_M_63, rd_M_64, rd_M_65, wr_M18, wr_M19, wr_M20, wr_M21, wr_M59, wr_M60, wr_M61]
          refine zw_iconst ok_M_meets rfl ?_
          exact zw_zret ok_M_meets rfl rfl (by first | exact Or.inl rfl | exact Or.inr rfl | exact bi01 _) (hx false _ (by simp [*]))
      · try (exfalso; omega)
        all_goals
          refine zw_iload ok_M_meets rfl rfl ?_
          refine zw_goto 82 ok_M_meets rfl (by decide) ?_
          refine zw_puti ok_M_meets rfl fp_M_191 rfl rfl ?_
          try simp only [rd_M18, rd_M19, rd_M20, rd_M21, rd_M59, rd_M60, rd_M61, rd_Mj4, rd_Mj7, rd_Mj9, rd_Mj11, rd_Mj13, rd_Mj22, rd_Mj23, rd_Mj24, rd_Mj27, rd_Mj30, rd_M_49, rd_M_50, rd_M_51, rd_M_52, rd_M_53, rd_M_54, rd_M_55, rd_M_56, rd_M_57, rd_M_58, rd_M_62, rd_M_63, rd_M_64, rd_M_65, wr_M18, wr_M19, wr_M20, wr_M21, wr_M59, wr_M60, wr_M61]
          refine zw_aload_n ok_M_meets rfl rfl ?_
          first | refine zw_dupi ok_M_meets rfl ?_ | refine zw_dupr ok_M_meets rfl ?_
          refine zw_geti ok_M_meets rfl fl_M_182 rfl rfl ?_
          try simp only [rd_M18, rd_M19, rd_M20, rd_M21, rd_M59, rd_M60, rd_M61, rd_Mj4, rd_Mj7, rd_Mj9, rd_Mj11, rd_Mj13, rd_Mj22, rd_Mj23, rd_Mj24, rd_Mj27, rd_Mj30, rd_M_49, rd_M_50, rd_M_51, rd_M_52, rd_M_53, rd_M_54, rd_M_55, rd_M_56, rd_M_57, rd_M_58, rd_M_62, rd_M_63, rd_M_64, rd_M_65, wr_M18, wr_M19, wr_M20, wr_M21, wr_M59, wr_M60, wr_M61]
          refine zw_iconst ok_M_meets rfl ?_
          refine zw_iload ok_M_meets rfl rfl ?_
          refine zw_ishl ok_M_meets rfl ?_
          refine zw_ior ok_M_meets rfl ?_
          refine zw_puti ok_M_meets rfl fp_M_182 rfl rfl ?_
          try simp only [rd_M18, rd_M19, rd_M20, rd_M21, rd_M59, rd_M60, rd_M61, rd_Mj4, rd_Mj7, rd_Mj9, rd_Mj11, rd_Mj13, rd_Mj22, rd_Mj23, rd_Mj24, rd_Mj27, rd_Mj30, rd_M_49, rd_M_50, rd_M_51, rd_M_52, rd_M_53, rd_M_54, rd_M_55, rd_M_56, rd_M_57, rd_M_58, rd_M_62, rd_M_63, rd_M_64, rd_M_65, wr_M18, wr_M19, wr_M20, wr_M21, wr_M59, wr_M60, wr_M61]
          refine zw_iconst ok_M_meets rfl ?_
          exact zw_zret ok_M_meets rfl rfl (by first | exact Or.inl rfl | exact Or.inr rfl | exact bi01 _) (hx false _ (by simp [*]))
theorem ct_M_meets {a b h : Int} {x : zM} (hC : okM mem) (ha : 0 ≤ a) (hab : a < b) (hb : b < mem 48 7) (hI : mInv (mem 48 7) x) : zCb m_M_meets [vr 48, vi a, vi b, vi h] (putM mem x) (meM mem a b h x).1 (fun m2 => m2 = putM mem (meM mem a b h x).2) := by
  refine zCt.of [some (vr 48), some (vi a), some (vi b), some (vi h), none, none, none] ok_M_meets (Nat.le_of_ble_eq_true rfl) rfl ?_
  have kl := ct_M_lessBows hC ha hab hb hI
  have hP := hC.1
  unfold meM
  generalize lsM mem x a b = less at kl ⊢
  refine zw_aload_n ok_M_meets rfl rfl ?_
  refine zw_iload_n ok_M_meets rfl rfl ?_
  refine zw_iload_n ok_M_meets rfl rfl ?_
  refine zw_Vbp ok_M_meets rfl ok_M_lessBows lk_M_197 (by decide) rfl rfl (Nat.le_of_ble_eq_true rfl) (kl) ?_
  refine zw_istore ok_M_meets rfl rfl (by decide) ?_
  refine zw_iload ok_M_meets rfl rfl ?_
  refine zw_ifeq_b 17 ok_M_meets rfl (by decide) (fun h10 => ?_) (fun h10 => ?_)
  · subst h10
    rw [if_neg (by decide)]
    refine zw_iload_n ok_M_meets rfl rfl ?_
    refine zw_istore ok_M_meets rfl rfl (by decide) ?_
    refine me_tail hC ha hab hb (by omega) hI (fun r y hy => ?_)
    rw [← hy]
    exact ⟨rfl, rfl⟩
  · subst h10
    rw [if_pos rfl]
    refine zw_iload_n ok_M_meets rfl rfl ?_
    refine zw_goto 18 ok_M_meets rfl (by decide) ?_
    refine zw_istore ok_M_meets rfl rfl (by decide) ?_
    refine me_tail hC ha hab hb (by omega) hI (fun r y hy => ?_)
    rw [← hy]
    exact ⟨rfl, rfl⟩
theorem meW_inv {a b h w low : Int} {less : Bool} {x : zM} (hC : okM mem) (ha : 0 ≤ a) (hab : a < b) (hb : b < mem 48 7) (hw : 0 ≤ w ∧ w < mem 48 7) (hl : 1 ≤ low) (hI : mInv (mem 48 7) x) : mInv (mem 48 7) (meW mem a b h less w low x).2 := by
  have hP := hC.1
  have kw := (hC.2.1 w hw.1 hw.2).2.1
  obtain ⟨la, lb, mo, g, n, fh, fw⟩ := x
  unfold meW
  split
  · exact ⟨hI.1, hI.2.1, z8or' hI.2.2 (by omega)⟩
  · rename_i hn
    refine ⟨fun p q p0 pq qP => ?_, fun p p0 pP => ?_, hI.2.2⟩
    · show (0 ≤ zupd la (8 * a + b) low (8 * p + q) ∧ zupd la (8 * a + b) low (8 * p + q) ≤ 99) ∧ (zupd la (8 * a + b) low (8 * p + q) ≠ 0 → zupd lb (8 * a + b) (bi less) (8 * p + q) = 0 ∨ zupd lb (8 * a + b) (bi less) (8 * p + q) = 1)
      by_cases e : 8 * p + q = 8 * a + b
      · rw [e, zupd_eq, zupd_eq]
        exact ⟨by omega, fun _ => bi01 less⟩
      · rw [zupd_ne e, zupd_ne e]
        exact hI.1 p q p0 pq qP
    · have hm : 0 ≤ mo p ∧ mo p ≤ 99 := hI.2.1 p p0 pP
      show 0 ≤ zupd mo w (max low (mo w)) p ∧ zupd mo w (max low (mo w)) p ≤ 99
      by_cases e : p = w
      · subst e; rw [zupd_eq]; omega
      · rw [zupd_ne e]; exact hm
theorem meM_inv {a b h : Int} {x : zM} (hC : okM mem) (ha : 0 ≤ a) (hab : a < b) (hb : b < mem 48 7) (hI : mInv (mem 48 7) x) : mInv (mem 48 7) (meM mem a b h x).2 := by
  unfold meM
  have hw : 0 ≤ (if lsM mem x a b = true then a else b) ∧ (if lsM mem x a b = true then a else b) < mem 48 7 := by split <;> omega
  exact meW_inv hC ha hab hb hw (hwM_r hC ha hab hb hw hI).1 hI
/-! the hours -/
def inM (mem : zMem) (h a b : Int) (x : zM) : zM := if srM mem h b = srM mem h a ∧ mayM mem x.2.2.2.1 a b = true ∧ hdM mem h a = false ∧ hdM mem h b = false then (meM mem a b h x).2 else x
def ouM (mem : zMem) (h a : Int) (x : zM) : zM := if srM mem h a = -1 then x else lp (inM mem h a) (mem 48 7 - (a + 1)).toNat (a + 1) x
def hoM (mem : zMem) (h : Int) (x : zM) : zM := lp (ouM mem h) (mem 48 7).toNat 0 x
theorem inM_inv {h a b : Int} {x : zM} (hC : okM mem) (ha : 0 ≤ a) (hab : a < b) (hb : b < mem 48 7) (hI : mInv (mem 48 7) x) : mInv (mem 48 7) (inM mem h a b x) := by
  unfold inM
  split
  · exact meM_inv hC ha hab hb hI
  · exact hI
theorem ouM_inv {h a : Int} {x : zM} (hC : okM mem) (ha : 0 ≤ a) (haP : a < mem 48 7) (hI : mInv (mem 48 7) x) : mInv (mem 48 7) (ouM mem h a x) := by
  unfold ouM
  split
  · exact hI
  · exact lp_inv (I := mInv (mem 48 7)) _ _ _ (fun j s h1 h2 hs => inM_inv hC ha (by omega) (by omega) hs) hI
theorem hoM_inv {h : Int} {x : zM} (hC : okM mem) (hI : mInv (mem 48 7) x) : mInv (mem 48 7) (hoM mem h x) := by
  have := hC.1
  exact lp_inv (I := mInv (mem 48 7)) _ _ _ (fun j s h1 h2 hs => ouM_inv hC h1 (by omega) hs) hI
theorem okM_put {x : zM} (hC : okM mem) : okM (putM mem x) := hC
theorem lin_loop {h a t : Int} (hC : okM mem) (hh : 0 ≤ h ∧ h ≤ 11) (ha : 0 ≤ a ∧ a < mem 48 7) (hne : srM mem h a ≠ -1) : ∀ (k : Nat) (b : Int) (x : zM), a < b → b + k = mem 48 7 → mInv (mem 48 7) x → AW m_M_lives 105 [some (vr 48), some (vi t), some (vi h), some (vi a), none, none] [] (putM mem (lp (inM mem h a) k b x)) Q → AW m_M_lives 34 [some (vr 48), some (vi t), some (vi h), some (vi a), some (vi (srM mem h a)), some (vi b)] [] (putM mem x) Q := by
  have hP := hC.1
  have sa := srM_r hC hh (p := a) (by omega)
  intro k
  induction k with
  | zero =>
    intro b x h0 h1 hI hx
    refine zw_iload ok_M_lives rfl rfl ?_
    refine zw_aload_n ok_M_lives rfl rfl ?_
    refine zw_geti ok_M_lives rfl fl_M_109 rfl rfl ?_
    try simp only [rd_M18, rd_M19, rd_M20, rd_M21, rd_M59, rd_M60, rd_M61, rd_Mj4, rd_Mj7, rd_Mj9, rd_Mj11, rd_Mj13, rd_Mj22, rd_Mj23, rd_Mj24, rd_Mj27, rd_Mj30, rd_M_49, rd_M_50, rd_M_51, rd_M_52, rd_M_53, rd_M_54, rd_M_55, rd_M_56, rd_M_57, rd_M_58, rd_M_62, rd_M_63, rd_M_64, rd_M_65, wr_M18, wr_M19, wr_M20, wr_M21, wr_M59, wr_M60, wr_M61]
    refine zw_icmp_ge 105 ok_M_lives rfl (by decide) (by omega) (fun h40 => ?_) (fun h40 => ?_)
    · exact zw_mask [true, true, true, true, false, false] rfl hx
    · exfalso; omega
  | succ k ih =>
    intro b x h0 h1 hI hx
    have sb := srM_r hC hh (p := b) (by omega)
    have hJ := inM_inv (h := h) hC ha.1 h0 (by omega) hI
    rw [lp_s] at hx
    have nx : ∀ y, y = inM mem h a b x → AW m_M_lives 99 [some (vr 48), some (vi t), some (vi h), some (vi a), some (vi (srM mem h a)), some (vi b)] [] (putM mem y) Q := by
      intro y hy
      subst hy
      refine zw_iinc ok_M_lives rfl rfl rfl (by decide) ?_
      refine zw_goto 34 ok_M_lives rfl (by decide) ?_
      exact ih (b + 1) _ (by omega) (by omega) hJ hx
    unfold inM at nx
    refine zw_iload ok_M_lives rfl rfl ?_
    refine zw_aload_n ok_M_lives rfl rfl ?_
    refine zw_geti ok_M_lives rfl fl_M_109 rfl rfl ?_
    try simp only [rd_M18, rd_M19, rd_M20, rd_M21, rd_M59, rd_M60, rd_M61, rd_Mj4, rd_Mj7, rd_Mj9, rd_Mj11, rd_Mj13, rd_Mj22, rd_Mj23, rd_Mj24, rd_Mj27, rd_Mj30, rd_M_49, rd_M_50, rd_M_51, rd_M_52, rd_M_53, rd_M_54, rd_M_55, rd_M_56, rd_M_57, rd_M_58, rd_M_62, rd_M_63, rd_M_64, rd_M_65, wr_M18, wr_M19, wr_M20, wr_M21, wr_M59, wr_M60, wr_M61]
    refine zw_icmp_ge 105 ok_M_lives rfl (by decide) (by omega) (fun h40 => ?_) (fun h40 => ?_)
    · exfalso; omega
    · refine zw_iload ok_M_lives rfl rfl ?_
      refine zw_iconst ok_M_lives rfl ?_
      refine zw_icmp_eq 105 ok_M_lives rfl (by decide) (by omega) (fun h46 => ?_) (fun h46 => ?_)
      · exact absurd h46 hne
      · refine zw_aload_n ok_M_lives rfl rfl ?_
        refine zw_iload_n ok_M_lives rfl rfl ?_
        refine zw_iload ok_M_lives rfl rfl ?_
        refine zw_Vip ok_M_lives rfl ok_M_streetOf lk_M_166 (by decide) rfl rfl (Nat.le_of_ble_eq_true rfl) (ct_M_streetOf (okM_put hC) hh (by omega)) ?_
        rw [show srM (putM mem x) h b = srM mem h b from rfl]
        refine zw_iload ok_M_lives rfl rfl ?_
        refine zw_icmp_ne 99 ok_M_lives rfl (by decide) (by omega) (fun h58 => ?_) (fun h58 => ?_)
        · exact nx _ (by rw [if_neg (fun z => h58 z.1)])
        · refine zw_aload_n ok_M_lives rfl rfl ?_
          refine zw_iload_n ok_M_lives rfl rfl ?_
          refine zw_iload ok_M_lives rfl rfl ?_
          refine zw_Vbp ok_M_lives rfl ok_M_may lk_M_206 (by decide) rfl rfl (Nat.le_of_ble_eq_true rfl) (ct_M_may hC ha (by omega)) ?_
          refine zw_ifeq_b 99 ok_M_lives rfl (by decide) (fun h68 => ?_) (fun h68 => ?_)
          · exact nx _ (by rw [if_neg (fun z => by rw [z.2.1] at h68; cases h68)])
          · refine zw_aload_n ok_M_lives rfl rfl ?_
            refine zw_iload_n ok_M_lives rfl rfl ?_
            refine zw_iload_n ok_M_lives rfl rfl ?_
            refine zw_Vbp ok_M_lives rfl ok_M_isSeenOn lk_M_209 (by decide) rfl rfl (Nat.le_of_ble_eq_true rfl) (ct_M_isSeenOn (okM_put hC) hh (by omega)) ?_
            rw [show hdM (putM mem x) h a = hdM mem h a from rfl]
            refine zw_ifeq_b 99 ok_M_lives rfl (by decide) (fun h77 => ?_) (fun h77 => ?_)
            · exact nx _ (by rw [if_neg (fun z => by rw [z.2.2.1] at h77; cases h77)])
            · refine zw_aload_n ok_M_lives rfl rfl ?_
              refine zw_iload_n ok_M_lives rfl rfl ?_
              refine zw_iload ok_M_lives rfl rfl ?_
              refine zw_Vbp ok_M_lives rfl ok_M_isSeenOn lk_M_209 (by decide) rfl rfl (Nat.le_of_ble_eq_true rfl) (ct_M_isSeenOn (okM_put hC) hh (by omega)) ?_
              rw [show hdM (putM mem x) h b = hdM mem h b from rfl]
              refine zw_ifeq_b 99 ok_M_lives rfl (by decide) (fun h87 => ?_) (fun h87 => ?_)
              · exact nx _ (by rw [if_neg (fun z => by rw [z.2.2.2] at h87; cases h87)])
              · refine zw_aload_n ok_M_lives rfl rfl ?_
                refine zw_iload_n ok_M_lives rfl rfl ?_
                refine zw_iload ok_M_lives rfl rfl ?_
                refine zw_iload_n ok_M_lives rfl rfl ?_
                refine zw_Vb ok_M_lives rfl ok_M_meets lk_M_212 (by decide) rfl rfl (Nat.le_of_ble_eq_true rfl) (ct_M_meets hC ha.1 h0 (by omega) hI) (fun m95 h95 => ?_)
                subst h95
                refine zw_popi ok_M_lives rfl ?_
                exact nx _ (by rw [if_pos ⟨h58, h68, by simpa using h77, by simpa using h87⟩])
theorem lou_loop {h t : Int} (hC : okM mem) (hh : 0 ≤ h ∧ h ≤ 11) : ∀ (k : Nat) (a : Int) (x : zM), 0 ≤ a → a + k = mem 48 7 → mInv (mem 48 7) x → AW m_M_lives 111 [some (vr 48), some (vi t), some (vi h), none, none, none] [] (putM mem (lp (ouM mem h) k a x)) Q → AW m_M_lives 13 [some (vr 48), some (vi t), some (vi h), some (vi a), none, none] [] (putM mem x) Q := by
  have hP := hC.1
  intro k
  induction k with
  | zero =>
    intro a x h0 h1 hI hx
    refine zw_iload_n ok_M_lives rfl rfl ?_
    refine zw_aload_n ok_M_lives rfl rfl ?_
    refine zw_geti ok_M_lives rfl fl_M_109 rfl rfl ?_
    try simp only [rd_M18, rd_M19, rd_M20, rd_M21, rd_M59, rd_M60, rd_M61, rd_Mj4, rd_Mj7, rd_Mj9, rd_Mj11, rd_Mj13, rd_Mj22, rd_Mj23, rd_Mj24, rd_Mj27, rd_Mj30, rd_M_49, rd_M_50, rd_M_51, rd_M_52, rd_M_53, rd_M_54, rd_M_55, rd_M_56, rd_M_57, rd_M_58, rd_M_62, rd_M_63, rd_M_64, rd_M_65, wr_M18, wr_M19, wr_M20, wr_M21, wr_M59, wr_M60, wr_M61]
    refine zw_icmp_ge 111 ok_M_lives rfl (by decide) (by omega) (fun h18 => ?_) (fun h18 => ?_)
    · exact zw_mask [true, true, true, false, false, false] rfl hx
    · exfalso; omega
  | succ k ih =>
    intro a x h0 h1 hI hx
    have sa := srM_r hC hh (p := a) (by omega)
    have hJ := ouM_inv (h := h) hC h0 (by omega) hI
    rw [lp_s] at hx
    have nx : ∀ y, y = ouM mem h a x → AW m_M_lives 105 [some (vr 48), some (vi t), some (vi h), some (vi a), none, none] [] (putM mem y) Q := by
      intro y hy
      subst hy
      refine zw_iinc ok_M_lives rfl rfl rfl (by decide) ?_
      refine zw_goto 13 ok_M_lives rfl (by decide) ?_
      exact ih (a + 1) _ (by omega) (by omega) hJ hx
    unfold ouM at nx
    by_cases hs : srM mem h a = -1
    · refine zw_iload_n ok_M_lives rfl rfl ?_
      refine zw_aload_n ok_M_lives rfl rfl ?_
      refine zw_geti ok_M_lives rfl fl_M_109 rfl rfl ?_
      try simp only [rd_M18, rd_M19, rd_M20, rd_M21, rd_M59, rd_M60, rd_M61, rd_Mj4, rd_Mj7, rd_Mj9, rd_Mj11, rd_Mj13, rd_Mj22, rd_Mj23, rd_Mj24, rd_Mj27, rd_Mj30, rd_M_49, rd_M_50, rd_M_51, rd_M_52, rd_M_53, rd_M_54, rd_M_55, rd_M_56, rd_M_57, rd_M_58, rd_M_62, rd_M_63, rd_M_64, rd_M_65, wr_M18, wr_M19, wr_M20, wr_M21, wr_M59, wr_M60, wr_M61]
      refine zw_icmp_ge 111 ok_M_lives rfl (by decide) (by omega) (fun h18 => ?_) (fun h18 => ?_)
      · exfalso; omega
      · refine zw_aload_n ok_M_lives rfl rfl ?_
        refine zw_iload_n ok_M_lives rfl rfl ?_
        refine zw_iload_n ok_M_lives rfl rfl ?_
        refine zw_Vip ok_M_lives rfl ok_M_streetOf lk_M_166 (by decide) rfl rfl (Nat.le_of_ble_eq_true rfl) (ct_M_streetOf (okM_put hC) hh (by omega)) ?_
        rw [show srM (putM mem x) h a = srM mem h a from rfl]
        refine zw_istore ok_M_lives rfl rfl (by decide) ?_
        refine zw_iload_n ok_M_lives rfl rfl ?_
        refine zw_iconst ok_M_lives rfl ?_
        refine zw_iadd ok_M_lives rfl ?_
        refine zw_istore ok_M_lives rfl rfl (by decide) ?_
        refine zw_iload ok_M_lives rfl rfl ?_
        refine zw_aload_n ok_M_lives rfl rfl ?_
        refine zw_geti ok_M_lives rfl fl_M_109 rfl rfl ?_
        try simp only [rd_M18, rd_M19, rd_M20, rd_M21, rd_M59, rd_M60, rd_M61, rd_Mj4, rd_Mj7, rd_Mj9, rd_Mj11, rd_Mj13, rd_Mj22, rd_Mj23, rd_Mj24, rd_Mj27, rd_Mj30, rd_M_49, rd_M_50, rd_M_51, rd_M_52, rd_M_53, rd_M_54, rd_M_55, rd_M_56, rd_M_57, rd_M_58, rd_M_62, rd_M_63, rd_M_64, rd_M_65, wr_M18, wr_M19, wr_M20, wr_M21, wr_M59, wr_M60, wr_M61]
        refine zw_icmp_ge 105 ok_M_lives rfl (by decide) (by omega) (fun h40 => ?_) (fun h40 => ?_)
        · refine zw_mask [true, true, true, true, false, false] rfl (nx _ ?_)
          rw [if_pos hs]
        · refine zw_iload ok_M_lives rfl rfl ?_
          refine zw_iconst ok_M_lives rfl ?_
          refine zw_icmp_eq 105 ok_M_lives rfl (by decide) (by omega) (fun h46 => ?_) (fun h46 => ?_)
          · refine zw_mask [true, true, true, true, false, false] rfl (nx _ ?_)
            rw [if_pos hs]
          · exact absurd hs h46
    · refine zw_iload_n ok_M_lives rfl rfl ?_
      refine zw_aload_n ok_M_lives rfl rfl ?_
      refine zw_geti ok_M_lives rfl fl_M_109 rfl rfl ?_
      try simp only [rd_M18, rd_M19, rd_M20, rd_M21, rd_M59, rd_M60, rd_M61, rd_Mj4, rd_Mj7, rd_Mj9, rd_Mj11, rd_Mj13, rd_Mj22, rd_Mj23, rd_Mj24, rd_Mj27, rd_Mj30, rd_M_49, rd_M_50, rd_M_51, rd_M_52, rd_M_53, rd_M_54, rd_M_55, rd_M_56, rd_M_57, rd_M_58, rd_M_62, rd_M_63, rd_M_64, rd_M_65, wr_M18, wr_M19, wr_M20, wr_M21, wr_M59, wr_M60, wr_M61]
      refine zw_icmp_ge 111 ok_M_lives rfl (by decide) (by omega) (fun h18 => ?_) (fun h18 => ?_)
      · exfalso; omega
      · refine zw_aload_n ok_M_lives rfl rfl ?_
        refine zw_iload_n ok_M_lives rfl rfl ?_
        refine zw_iload_n ok_M_lives rfl rfl ?_
        refine zw_Vip ok_M_lives rfl ok_M_streetOf lk_M_166 (by decide) rfl rfl (Nat.le_of_ble_eq_true rfl) (ct_M_streetOf (okM_put hC) hh (by omega)) ?_
        rw [show srM (putM mem x) h a = srM mem h a from rfl]
        refine zw_istore ok_M_lives rfl rfl (by decide) ?_
        refine zw_iload_n ok_M_lives rfl rfl ?_
        refine zw_iconst ok_M_lives rfl ?_
        refine zw_iadd ok_M_lives rfl ?_
        refine zw_istore ok_M_lives rfl rfl (by decide) ?_
        refine lin_loop hC hh (by omega) hs (mem 48 7 - (a + 1)).toNat (a + 1) x (by omega) (by omega) hI (nx _ ?_)
        rw [if_neg hs]
theorem lho_loop {t : Int} (hC : okM mem) (ht : -1 ≤ t ∧ t ≤ 11) : ∀ (k : Nat) (h : Int) (x : zM), 0 ≤ h → h + k = t + 1 → mInv (mem 48 7) x → Q none (putM mem (lp (hoM mem) k h x)) → AW m_M_lives 6 [some (vr 48), some (vi t), some (vi h), none, none, none] [] (putM mem x) Q := by
  have hP := hC.1
  intro k
  induction k with
  | zero =>
    intro h x h0 h1 hI hx
    refine zw_iload_n ok_M_lives rfl rfl ?_
    refine zw_iload_n ok_M_lives rfl rfl ?_
    refine zw_icmp_gt 117 ok_M_lives rfl (by decide) (by omega) (fun h8 => ?_) (fun h8 => ?_)
    · exact zw_vret ok_M_lives rfl rfl (hx)
    · exfalso; omega
  | succ k ih =>
    intro h x h0 h1 hI hx
    have hJ := hoM_inv (h := h) hC hI
    rw [lp_s] at hx
    have nx : AW m_M_lives 111 [some (vr 48), some (vi t), some (vi h), none, none, none] [] (putM mem (hoM mem h x)) Q := by
      refine zw_iinc ok_M_lives rfl rfl rfl (by decide) ?_
      refine zw_goto 6 ok_M_lives rfl (by decide) ?_
      exact ih (h + 1) _ (by omega) (by omega) hJ hx
    refine zw_iload_n ok_M_lives rfl rfl ?_
    refine zw_iload_n ok_M_lives rfl rfl ?_
    refine zw_icmp_gt 117 ok_M_lives rfl (by decide) (by omega) (fun h8 => ?_) (fun h8 => ?_)
    · exfalso; omega
    · refine zw_iconst ok_M_lives rfl ?_
      refine zw_istore_n ok_M_lives rfl rfl (by decide) ?_
      exact lou_loop hC (by omega) (mem 48 7).toNat 0 x (by omega) (by omega) hI nx
end
