/-! ===== the reference's day: begins, lives ===== -/
theorem zfil_u {i v : Int} {f : Int → Int} (hi : 0 ≤ i) : zupd (zfil i v f) i v = zfil (i + 1) v f := by
  funext j
  unfold zupd zfil
  (repeat' split) <;> first | rfl | omega
theorem zfil_z {v : Int} {f : Int → Int} : zfil 0 v f = f := by
  funext j
  unfold zfil
  rw [if_neg (by omega)]
def odM (mem : zMem) (k : Int) (y : (Int → Int) × (Int → Int)) : (Int → Int) × (Int → Int) :=
  if k = mem 48 22 then y else (zupd y.1 (8 * min (mem 57 (3 * k)) (mem 57 (3 * k + 1)) + max (mem 57 (3 * k)) (mem 57 (3 * k + 1))) (mem 57 (3 * k + 2)), zupd y.2 (8 * min (mem 57 (3 * k)) (mem 57 (3 * k + 1)) + max (mem 57 (3 * k)) (mem 57 (3 * k + 1))) (if min (mem 57 (3 * k)) (mem 57 (3 * k + 1)) = mem 57 (3 * k) then 1 else 0))
def begM (mem : zMem) (x : zM) : zM := ((lp (odM mem) (mem 48 11).toNat 0 (zfil 64 0 x.1, x.2.1)).1, (lp (odM mem) (mem 48 11).toNat 0 (zfil 64 0 x.1, x.2.1)).2, zfil 8 0 x.2.2.1, 0, 0, -1, -1)
section
variable {mem : zMem} {Q : Option zVal → zMem → Prop} {la lb mo : Int → Int} {g n fh fw : Int}
theorem bg1_loop : ∀ (k : Nat) (i : Int), 0 ≤ i → i + k = 64 → AW m_M_begins 21 [some (vr 48), none, none, none] [] (putM mem (zfil 64 0 la, lb, mo, g, n, fh, fw)) Q → AW m_M_begins 2 [some (vr 48), some (vi i), none, none] [] (putM mem (zfil i 0 la, lb, mo, g, n, fh, fw)) Q := by
  intro k
  induction k with
  | zero =>
    intro i h0 h1 hx
    have e : i = 64 := by omega
    subst e
    refine zw_iload_n ok_M_begins rfl rfl ?_
    refine zw_bipush ok_M_begins rfl (by decide) ?_
    refine zw_icmp_ge 21 ok_M_begins rfl (by decide) (by omega) (fun h5 => ?_) (fun h5 => ?_)
    · exact zw_mask [true, false, false, false] rfl hx
    · exfalso; omega
  | succ k ih =>
    intro i h0 h1 hx
    refine zw_iload_n ok_M_begins rfl rfl ?_
    refine zw_bipush ok_M_begins rfl (by decide) ?_
    refine zw_icmp_ge 21 ok_M_begins rfl (by decide) (by omega) (fun h5 => ?_) (fun h5 => ?_)
    · exfalso; omega
    · refine zw_aload_n ok_M_begins rfl rfl ?_
      refine zw_getr ok_M_begins rfl fl_M_40 rfl rfl ?_
      refine zw_iload_n ok_M_begins rfl rfl ?_
      refine zw_iconst ok_M_begins rfl ?_
      refine zw_iast ok_M_begins rfl rfl (by omega) ?_
      try simp only [rd_M18, rd_M19, rd_M20, rd_M21, rd_M59, rd_M60, rd_M61, rd_Mj4, rd_Mj7, rd_Mj9, rd_Mj11, rd_Mj13, rd_Mj22, rd_Mj23, rd_Mj24, rd_Mj27, rd_Mj30, rd_M_49, rd_M_50, rd_M_51, rd_M_52, rd_M_53, rd_M_54, rd_M_55, rd_M_56, rd_M_57, rd_M_58, rd_M_62, rd_M_63, rd_M_64, rd_M_65, wr_M18, wr_M19, wr_M20, wr_M21, wr_M59, wr_M60, wr_M61]
      rw [zfil_u h0]
      refine zw_iinc ok_M_begins rfl rfl rfl (by decide) ?_
      refine zw_goto 2 ok_M_begins rfl (by decide) ?_
      exact ih (i + 1) (by omega) (by omega) hx
theorem bg2_loop : ∀ (k : Nat) (i : Int), 0 ≤ i → i + k = 8 → AW m_M_begins 42 [some (vr 48), none, none, none] [] (putM mem (la, lb, zfil 8 0 mo, g, n, fh, fw)) Q → AW m_M_begins 23 [some (vr 48), some (vi i), none, none] [] (putM mem (la, lb, zfil i 0 mo, g, n, fh, fw)) Q := by
  intro k
  induction k with
  | zero =>
    intro i h0 h1 hx
    have e : i = 8 := by omega
    subst e
    refine zw_iload_n ok_M_begins rfl rfl ?_
    refine zw_bipush ok_M_begins rfl (by decide) ?_
    refine zw_icmp_ge 42 ok_M_begins rfl (by decide) (by omega) (fun h26 => ?_) (fun h26 => ?_)
    · exact zw_mask [true, false, false, false] rfl hx
    · exfalso; omega
  | succ k ih =>
    intro i h0 h1 hx
    refine zw_iload_n ok_M_begins rfl rfl ?_
    refine zw_bipush ok_M_begins rfl (by decide) ?_
    refine zw_icmp_ge 42 ok_M_begins rfl (by decide) (by omega) (fun h26 => ?_) (fun h26 => ?_)
    · exfalso; omega
    · refine zw_aload_n ok_M_begins rfl rfl ?_
      refine zw_getr ok_M_begins rfl fl_M_46 rfl rfl ?_
      refine zw_iload_n ok_M_begins rfl rfl ?_
      refine zw_iconst ok_M_begins rfl ?_
      refine zw_iast ok_M_begins rfl rfl (by omega) ?_
      try simp only [rd_M18, rd_M19, rd_M20, rd_M21, rd_M59, rd_M60, rd_M61, rd_Mj4, rd_Mj7, rd_Mj9, rd_Mj11, rd_Mj13, rd_Mj22, rd_Mj23, rd_Mj24, rd_Mj27, rd_Mj30, rd_M_49, rd_M_50, rd_M_51, rd_M_52, rd_M_53, rd_M_54, rd_M_55, rd_M_56, rd_M_57, rd_M_58, rd_M_62, rd_M_63, rd_M_64, rd_M_65, wr_M18, wr_M19, wr_M20, wr_M21, wr_M59, wr_M60, wr_M61]
      rw [zfil_u h0]
      refine zw_iinc ok_M_begins rfl rfl rfl (by decide) ?_
      refine zw_goto 23 ok_M_begins rfl (by decide) ?_
      exact ih (i + 1) (by omega) (by omega) hx
theorem bg3_loop (hC : okM mem) : ∀ (k : Nat) (i : Int) (y : (Int → Int) × (Int → Int)), 0 ≤ i → i + k = mem 48 11 → (∀ z, z = lp (odM mem) k i y → Q none (putM mem (z.1, z.2, mo, 0, 0, -1, -1))) → AW m_M_begins 44 [some (vr 48), some (vi i), none, none] [] (putM mem (y.1, y.2, mo, g, n, fh, fw)) Q := by
  have h11 := hC.2.2.2.1
  have h22 := hC.2.2.2.2.1.1
  intro k
  induction k with
  | zero =>
    intro i y h0 h1 hx
    refine zw_iload_n ok_M_begins rfl rfl ?_
    refine zw_aload_n ok_M_begins rfl rfl ?_
    refine zw_geti ok_M_begins rfl fl_M_151 rfl rfl ?_
    try simp only [rd_M18, rd_M19, rd_M20, rd_M21, rd_M59, rd_M60, rd_M61, rd_Mj4, rd_Mj7, rd_Mj9, rd_Mj11, rd_Mj13, rd_Mj22, rd_Mj23, rd_Mj24, rd_Mj27, rd_Mj30, rd_M_49, rd_M_50, rd_M_51, rd_M_52, rd_M_53, rd_M_54, rd_M_55, rd_M_56, rd_M_57, rd_M_58, rd_M_62, rd_M_63, rd_M_64, rd_M_65, wr_M18, wr_M19, wr_M20, wr_M21, wr_M59, wr_M60, wr_M61]
    refine zw_icmp_ge 159 ok_M_begins rfl (by decide) (by omega) (fun h49 => ?_) (fun h49 => ?_)
    · refine zw_aload_n ok_M_begins rfl rfl ?_
      refine zw_iconst ok_M_begins rfl ?_
      refine zw_puti ok_M_begins rfl fp_M_182 rfl rfl ?_
      try simp only [rd_M18, rd_M19, rd_M20, rd_M21, rd_M59, rd_M60, rd_M61, rd_Mj4, rd_Mj7, rd_Mj9, rd_Mj11, rd_Mj13, rd_Mj22, rd_Mj23, rd_Mj24, rd_Mj27, rd_Mj30, rd_M_49, rd_M_50, rd_M_51, rd_M_52, rd_M_53, rd_M_54, rd_M_55, rd_M_56, rd_M_57, rd_M_58, rd_M_62, rd_M_63, rd_M_64, rd_M_65, wr_M18, wr_M19, wr_M20, wr_M21, wr_M59, wr_M60, wr_M61]
      refine zw_aload_n ok_M_begins rfl rfl ?_
      refine zw_iconst ok_M_begins rfl ?_
      refine zw_puti ok_M_begins rfl fp_M_185 rfl rfl ?_
      try simp only [rd_M18, rd_M19, rd_M20, rd_M21, rd_M59, rd_M60, rd_M61, rd_Mj4, rd_Mj7, rd_Mj9, rd_Mj11, rd_Mj13, rd_Mj22, rd_Mj23, rd_Mj24, rd_Mj27, rd_Mj30, rd_M_49, rd_M_50, rd_M_51, rd_M_52, rd_M_53, rd_M_54, rd_M_55, rd_M_56, rd_M_57, rd_M_58, rd_M_62, rd_M_63, rd_M_64, rd_M_65, wr_M18, wr_M19, wr_M20, wr_M21, wr_M59, wr_M60, wr_M61]
      refine zw_aload_n ok_M_begins rfl rfl ?_
      refine zw_iconst ok_M_begins rfl ?_
      refine zw_puti ok_M_begins rfl fp_M_188 rfl rfl ?_
      try simp only [rd_M18, rd_M19, rd_M20, rd_M21, rd_M59, rd_M60, rd_M61, rd_Mj4, rd_Mj7, rd_Mj9, rd_Mj11, rd_Mj13, rd_Mj22, rd_Mj23, rd_Mj24, rd_Mj27, rd_Mj30, rd_M_49, rd_M_50, rd_M_51, rd_M_52, rd_M_53, rd_M_54, rd_M_55, rd_M_56, rd_M_57, rd_M_58, rd_M_62, rd_M_63, rd_M_64, rd_M_65, wr_M18, wr_M19, wr_M20, wr_M21, wr_M59, wr_M60, wr_M61]
      refine zw_aload_n ok_M_begins rfl rfl ?_
      refine zw_iconst ok_M_begins rfl ?_
      refine zw_puti ok_M_begins rfl fp_M_191 rfl rfl ?_
      try simp only [rd_M18, rd_M19, rd_M20, rd_M21, rd_M59, rd_M60, rd_M61, rd_Mj4, rd_Mj7, rd_Mj9, rd_Mj11, rd_Mj13, rd_Mj22, rd_Mj23, rd_Mj24, rd_Mj27, rd_Mj30, rd_M_49, rd_M_50, rd_M_51, rd_M_52, rd_M_53, rd_M_54, rd_M_55, rd_M_56, rd_M_57, rd_M_58, rd_M_62, rd_M_63, rd_M_64, rd_M_65, wr_M18, wr_M19, wr_M20, wr_M21, wr_M59, wr_M60, wr_M61]
      exact zw_vret ok_M_begins rfl rfl (hx y rfl)
    · exfalso; omega
  | succ k ih =>
    intro i y h0 h1 hx
    have o := h11.2 i h0 (by omega)
    have hb := h11.1
    rw [lp_s] at hx
    have nx : ∀ z, z = odM mem i y → AW m_M_begins 153 [some (vr 48), some (vi i), some (vi (min (mem 57 (3 * i)) (mem 57 (3 * i + 1)))), some (vi (max (mem 57 (3 * i)) (mem 57 (3 * i + 1))))] [] (putM mem (z.1, z.2, mo, g, n, fh, fw)) Q := by
      intro z hz
      subst hz
      refine zw_iinc ok_M_begins rfl rfl rfl (by decide) ?_
      refine zw_goto 44 ok_M_begins rfl (by decide) ?_
      exact zw_mask [true, true, false, false] rfl (ih (i + 1) _ (by omega) (by omega) hx)
    unfold odM at nx
    refine zw_iload_n ok_M_begins rfl rfl ?_
    refine zw_aload_n ok_M_begins rfl rfl ?_
    refine zw_geti ok_M_begins rfl fl_M_151 rfl rfl ?_
    try simp only [rd_M18, rd_M19, rd_M20, rd_M21, rd_M59, rd_M60, rd_M61, rd_Mj4, rd_Mj7, rd_Mj9, rd_Mj11, rd_Mj13, rd_Mj22, rd_Mj23, rd_Mj24, rd_Mj27, rd_Mj30, rd_M_49, rd_M_50, rd_M_51, rd_M_52, rd_M_53, rd_M_54, rd_M_55, rd_M_56, rd_M_57, rd_M_58, rd_M_62, rd_M_63, rd_M_64, rd_M_65, wr_M18, wr_M19, wr_M20, wr_M21, wr_M59, wr_M60, wr_M61]
    refine zw_icmp_ge 159 ok_M_begins rfl (by decide) (by omega) (fun h49 => ?_) (fun h49 => ?_)
    · exfalso; omega
    · refine zw_aload_n ok_M_begins rfl rfl ?_
      refine zw_getr ok_M_begins rfl fl_M_34 rfl rfl ?_
      refine zw_iconst ok_M_begins rfl ?_
      refine zw_iload_n ok_M_begins rfl rfl ?_
      refine zw_imul ok_M_begins rfl ?_
      refine zw_iald ok_M_begins rfl rfl (by omega) ?_
      try simp only [rd_M18, rd_M19, rd_M20, rd_M21, rd_M59, rd_M60, rd_M61, rd_Mj4, rd_Mj7, rd_Mj9, rd_Mj11, rd_Mj13, rd_Mj22, rd_Mj23, rd_Mj24, rd_Mj27, rd_Mj30, rd_M_49, rd_M_50, rd_M_51, rd_M_52, rd_M_53, rd_M_54, rd_M_55, rd_M_56, rd_M_57, rd_M_58, rd_M_62, rd_M_63, rd_M_64, rd_M_65, wr_M18, wr_M19, wr_M20, wr_M21, wr_M59, wr_M60, wr_M61]
      refine zw_aload_n ok_M_begins rfl rfl ?_
      refine zw_getr ok_M_begins rfl fl_M_34 rfl rfl ?_
      refine zw_iconst ok_M_begins rfl ?_
      refine zw_iload_n ok_M_begins rfl rfl ?_
      refine zw_imul ok_M_begins rfl ?_
      refine zw_iconst ok_M_begins rfl ?_
      refine zw_iadd ok_M_begins rfl ?_
      refine zw_iald ok_M_begins rfl rfl (by omega) ?_
      try simp only [rd_M18, rd_M19, rd_M20, rd_M21, rd_M59, rd_M60, rd_M61, rd_Mj4, rd_Mj7, rd_Mj9, rd_Mj11, rd_Mj13, rd_Mj22, rd_Mj23, rd_Mj24, rd_Mj27, rd_Mj30, rd_M_49, rd_M_50, rd_M_51, rd_M_52, rd_M_53, rd_M_54, rd_M_55, rd_M_56, rd_M_57, rd_M_58, rd_M_62, rd_M_63, rd_M_64, rd_M_65, wr_M18, wr_M19, wr_M20, wr_M21, wr_M59, wr_M60, wr_M61]
      refine zw_Sip ok_M_begins rfl ok_M_lesser lk_M_176 (by decide) rfl (Nat.le_of_ble_eq_true rfl) (ct_M_lesser (by omega)) ?_
      refine zw_istore_n ok_M_begins rfl rfl (by decide) ?_
      refine zw_aload_n ok_M_begins rfl rfl ?_
      refine zw_getr ok_M_begins rfl fl_M_34 rfl rfl ?_
      refine zw_iconst ok_M_begins rfl ?_
      refine zw_iload_n ok_M_begins rfl rfl ?_
      refine zw_imul ok_M_begins rfl ?_
      refine zw_iald ok_M_begins rfl rfl (by omega) ?_
      try simp only [rd_M18, rd_M19, rd_M20, rd_M21, rd_M59, rd_M60, rd_M61, rd_Mj4, rd_Mj7, rd_Mj9, rd_Mj11, rd_Mj13, rd_Mj22, rd_Mj23, rd_Mj24, rd_Mj27, rd_Mj30, rd_M_49, rd_M_50, rd_M_51, rd_M_52, rd_M_53, rd_M_54, rd_M_55, rd_M_56, rd_M_57, rd_M_58, rd_M_62, rd_M_63, rd_M_64, rd_M_65, wr_M18, wr_M19, wr_M20, wr_M21, wr_M59, wr_M60, wr_M61]
      refine zw_aload_n ok_M_begins rfl rfl ?_
      refine zw_getr ok_M_begins rfl fl_M_34 rfl rfl ?_
      refine zw_iconst ok_M_begins rfl ?_
      refine zw_iload_n ok_M_begins rfl rfl ?_
      refine zw_imul ok_M_begins rfl ?_
      refine zw_iconst ok_M_begins rfl ?_
      refine zw_iadd ok_M_begins rfl ?_
      refine zw_iald ok_M_begins rfl rfl (by omega) ?_
      try simp only [rd_M18, rd_M19, rd_M20, rd_M21, rd_M59, rd_M60, rd_M61, rd_Mj4, rd_Mj7, rd_Mj9, rd_Mj11, rd_Mj13, rd_Mj22, rd_Mj23, rd_Mj24, rd_Mj27, rd_Mj30, rd_M_49, rd_M_50, rd_M_51, rd_M_52, rd_M_53, rd_M_54, rd_M_55, rd_M_56, rd_M_57, rd_M_58, rd_M_62, rd_M_63, rd_M_64, rd_M_65, wr_M18, wr_M19, wr_M20, wr_M21, wr_M59, wr_M60, wr_M61]
      refine zw_Sip ok_M_begins rfl ok_M_greater lk_M_179 (by decide) rfl (Nat.le_of_ble_eq_true rfl) (ct_M_greater (by omega)) ?_
      refine zw_istore_n ok_M_begins rfl rfl (by decide) ?_
      refine zw_iload_n ok_M_begins rfl rfl ?_
      refine zw_aload_n ok_M_begins rfl rfl ?_
      refine zw_geti ok_M_begins rfl fl_M_61 rfl rfl ?_
      try simp only [rd_M18, rd_M19, rd_M20, rd_M21, rd_M59, rd_M60, rd_M61, rd_Mj4, rd_Mj7, rd_Mj9, rd_Mj11, rd_Mj13, rd_Mj22, rd_Mj23, rd_Mj24, rd_Mj27, rd_Mj30, rd_M_49, rd_M_50, rd_M_51, rd_M_52, rd_M_53, rd_M_54, rd_M_55, rd_M_56, rd_M_57, rd_M_58, rd_M_62, rd_M_63, rd_M_64, rd_M_65, wr_M18, wr_M19, wr_M20, wr_M21, wr_M59, wr_M60, wr_M61]
      refine zw_icmp_eq 153 ok_M_begins rfl (by decide) (by omega) (fun h101 => ?_) (fun h101 => ?_)
      · exact nx y (by rw [if_pos h101])
      · refine zw_aload_n ok_M_begins rfl rfl ?_
        refine zw_getr ok_M_begins rfl fl_M_40 rfl rfl ?_
        refine zw_bipush ok_M_begins rfl (by decide) ?_
        refine zw_iload_n ok_M_begins rfl rfl ?_
        refine zw_imul ok_M_begins rfl ?_
        refine zw_iload_n ok_M_begins rfl rfl ?_
        refine zw_iadd ok_M_begins rfl ?_
        refine zw_aload_n ok_M_begins rfl rfl ?_
        refine zw_getr ok_M_begins rfl fl_M_34 rfl rfl ?_
        refine zw_iconst ok_M_begins rfl ?_
        refine zw_iload_n ok_M_begins rfl rfl ?_
        refine zw_imul ok_M_begins rfl ?_
        refine zw_iconst ok_M_begins rfl ?_
        refine zw_iadd ok_M_begins rfl ?_
        refine zw_iald ok_M_begins rfl rfl (by omega) ?_
        try simp only [rd_M18, rd_M19, rd_M20, rd_M21, rd_M59, rd_M60, rd_M61, rd_Mj4, rd_Mj7, rd_Mj9, rd_Mj11, rd_Mj13, rd_Mj22, rd_Mj23, rd_Mj24, rd_Mj27, rd_Mj30, rd_M_49, rd_M_50, rd_M_51, rd_M_52, rd_M_53, rd_M_54, rd_M_55, rd_M_56, rd_M_57, rd_M_58, rd_M_62, rd_M_63, rd_M_64, rd_M_65, wr_M18, wr_M19, wr_M20, wr_M21, wr_M59, wr_M60, wr_M61]
        refine zw_iast ok_M_begins rfl rfl (by omega) ?_
        try simp only [rd_M18, rd_M19, rd_M20, rd_M21, rd_M59, rd_M60, rd_M61, rd_Mj4, rd_Mj7, rd_Mj9, rd_Mj11, rd_Mj13, rd_Mj22, rd_Mj23, rd_Mj24, rd_Mj27, rd_Mj30, rd_M_49, rd_M_50, rd_M_51, rd_M_52, rd_M_53, rd_M_54, rd_M_55, rd_M_56, rd_M_57, rd_M_58, rd_M_62, rd_M_63, rd_M_64, rd_M_65, wr_M18, wr_M19, wr_M20, wr_M21, wr_M59, wr_M60, wr_M61]
        refine zw_aload_n ok_M_begins rfl rfl ?_
        refine zw_getr ok_M_begins rfl fl_M_43 rfl rfl ?_
        refine zw_bipush ok_M_begins rfl (by decide) ?_
        refine zw_iload_n ok_M_begins rfl rfl ?_
        refine zw_imul ok_M_begins rfl ?_
        refine zw_iload_n ok_M_begins rfl rfl ?_
        refine zw_iadd ok_M_begins rfl ?_
        refine zw_iload_n ok_M_begins rfl rfl ?_
        refine zw_aload_n ok_M_begins rfl rfl ?_
        refine zw_getr ok_M_begins rfl fl_M_34 rfl rfl ?_
        refine zw_iconst ok_M_begins rfl ?_
        refine zw_iload_n ok_M_begins rfl rfl ?_
        refine zw_imul ok_M_begins rfl ?_
        refine zw_iald ok_M_begins rfl rfl (by omega) ?_
        try simp only [rd_M18, rd_M19, rd_M20, rd_M21, rd_M59, rd_M60, rd_M61, rd_Mj4, rd_Mj7, rd_Mj9, rd_Mj11, rd_Mj13, rd_Mj22, rd_Mj23, rd_Mj24, rd_Mj27, rd_Mj30, rd_M_49, rd_M_50, rd_M_51, rd_M_52, rd_M_53, rd_M_54, rd_M_55, rd_M_56, rd_M_57, rd_M_58, rd_M_62, rd_M_63, rd_M_64, rd_M_65, wr_M18, wr_M19, wr_M20, wr_M21, wr_M59, wr_M60, wr_M61]
        refine zw_icmp_ne 151 ok_M_begins rfl (by decide) (by omega) (fun h144 => ?_) (fun h144 => ?_)
        · refine zw_iconst ok_M_begins rfl ?_
          refine zw_iast ok_M_begins rfl rfl (by omega) ?_
          try simp only [rd_M18, rd_M19, rd_M20, rd_M21, rd_M59, rd_M60, rd_M61, rd_Mj4, rd_Mj7, rd_Mj9, rd_Mj11, rd_Mj13, rd_Mj22, rd_Mj23, rd_Mj24, rd_Mj27, rd_Mj30, rd_M_49, rd_M_50, rd_M_51, rd_M_52, rd_M_53, rd_M_54, rd_M_55, rd_M_56, rd_M_57, rd_M_58, rd_M_62, rd_M_63, rd_M_64, rd_M_65, wr_M18, wr_M19, wr_M20, wr_M21, wr_M59, wr_M60, wr_M61]
          exact nx (_, _) (by rw [if_neg h101]; first | (rw [if_neg h144]; rfl) | (rw [if_pos h144]; rfl))
        · refine zw_iconst ok_M_begins rfl ?_
          refine zw_goto 152 ok_M_begins rfl (by decide) ?_
          refine zw_iast ok_M_begins rfl rfl (by omega) ?_
          try simp only [rd_M18, rd_M19, rd_M20, rd_M21, rd_M59, rd_M60, rd_M61, rd_Mj4, rd_Mj7, rd_Mj9, rd_Mj11, rd_Mj13, rd_Mj22, rd_Mj23, rd_Mj24, rd_Mj27, rd_Mj30, rd_M_49, rd_M_50, rd_M_51, rd_M_52, rd_M_53, rd_M_54, rd_M_55, rd_M_56, rd_M_57, rd_M_58, rd_M_62, rd_M_63, rd_M_64, rd_M_65, wr_M18, wr_M19, wr_M20, wr_M21, wr_M59, wr_M60, wr_M61]
          exact nx (_, _) (by rw [if_neg h101]; first | (rw [if_neg h144]; rfl) | (rw [if_pos h144]; rfl))
theorem ct_M_begins {x : zM} (hC : okM mem) : zCvp m_M_begins [vr 48] (putM mem x) (putM mem (begM mem x)) := by
  refine zCt.of [some (vr 48), none, none, none] ok_M_begins (Nat.le_of_ble_eq_true rfl) rfl ?_
  obtain ⟨la, lb, mo, g, n, fh, fw⟩ := x
  have h11 := hC.2.2.2.1.1
  have t3 : AW m_M_begins 42 [some (vr 48), none, none, none] [] (putM mem (zfil 64 0 la, lb, zfil 8 0 mo, g, n, fh, fw)) (fun r m2 => r = none ∧ m2 = putM mem (begM mem (la, lb, mo, g, n, fh, fw))) := by
    refine zw_iconst ok_M_begins rfl ?_
    refine zw_istore_n ok_M_begins rfl rfl (by decide) ?_
    exact bg3_loop hC (mem 48 11).toNat 0 (zfil 64 0 la, lb) (by omega) (by omega) (fun z hz => ⟨rfl, by unfold begM; rw [hz]⟩)
  have t2 : AW m_M_begins 21 [some (vr 48), none, none, none] [] (putM mem (zfil 64 0 la, lb, mo, g, n, fh, fw)) (fun r m2 => r = none ∧ m2 = putM mem (begM mem (la, lb, mo, g, n, fh, fw))) := by
    have b2 := bg2_loop (mem := mem) (la := zfil 64 0 la) (lb := lb) (mo := mo) (g := g) (n := n) (fh := fh) (fw := fw) 8 0 (by omega) (by omega) t3
    rw [zfil_z] at b2
    refine zw_iconst ok_M_begins rfl ?_
    refine zw_istore_n ok_M_begins rfl rfl (by decide) ?_
    exact b2
  have b1 := bg1_loop (mem := mem) (la := la) (lb := lb) (mo := mo) (g := g) (n := n) (fh := fh) (fw := fw) 64 0 (by omega) (by omega) t2
  rw [zfil_z] at b1
  refine zw_iconst ok_M_begins rfl ?_
  refine zw_istore_n ok_M_begins rfl rfl (by decide) ?_
  exact b1
theorem begM_inv {x : zM} (hC : okM mem) : mInv (mem 48 7) (begM mem x) := by
  have hP := hC.1
  have h11 := hC.2.2.2.1
  have key := lp_inv (f := odM mem) (I := fun y : (Int → Int) × (Int → Int) => ∀ j, 0 ≤ j → j < 64 → (0 ≤ y.1 j ∧ y.1 j ≤ 99) ∧ (y.1 j ≠ 0 → y.2 j = 0 ∨ y.2 j = 1)) (mem 48 11).toNat 0 (zfil 64 0 x.1, x.2.1) (fun k y k0 k1 hy j j0 j1 => by
    have o := h11.2 k k0 (by omega)
    unfold odM
    split
    · exact hy j j0 j1
    · show (0 ≤ zupd y.1 _ _ j ∧ zupd y.1 _ _ j ≤ 99) ∧ (zupd y.1 _ _ j ≠ 0 → zupd y.2 _ _ j = 0 ∨ zupd y.2 _ _ j = 1)
      by_cases e : j = 8 * min (mem 57 (3 * k)) (mem 57 (3 * k + 1)) + max (mem 57 (3 * k)) (mem 57 (3 * k + 1))
      · rw [← e, zupd_eq, zupd_eq]
        exact ⟨by omega, fun _ => by split <;> omega⟩
      · rw [zupd_ne e, zupd_ne e]
        exact hy j j0 j1) (fun j j0 j1 => by
    have e : zfil 64 0 x.1 j = 0 := by unfold zfil; rw [if_pos ⟨j0, j1⟩]
    show (0 ≤ zfil 64 0 x.1 j ∧ zfil 64 0 x.1 j ≤ 99) ∧ (zfil 64 0 x.1 j ≠ 0 → _)
    rw [e]
    exact ⟨by omega, fun z => absurd rfl z⟩)
  refine ⟨fun a b a0 ab bP => key (8 * a + b) (by omega) (by omega), fun p p0 pP => ?_, ⟨(show (0 : Int) ≤ 0 by decide), (show (0 : Int) < 256 by decide)⟩⟩
  show 0 ≤ zfil 8 0 x.2.2.1 p ∧ zfil 8 0 x.2.2.1 p ≤ 99
  unfold zfil
  rw [if_pos (by omega)]
  omega
/-- the reference's day to hour t -/
def liM (mem : zMem) (t : Int) (x : zM) : zM := lp (hoM mem) (t + 1).toNat 0 (begM mem x)
theorem liM_inv {t : Int} {x : zM} (hC : okM mem) : mInv (mem 48 7) (liM mem t x) := lp_inv (I := mInv (mem 48 7)) _ _ _ (fun _ _ _ _ h => hoM_inv hC h) (begM_inv hC)
theorem ct_M_lives {t : Int} {x : zM} (hC : okM mem) (ht : 0 ≤ t ∧ t ≤ 11) : zCvp m_M_lives [vr 48, vi t] (putM mem x) (putM mem (liM mem t x)) := by
  refine zCt.of [some (vr 48), some (vi t), none, none, none, none] ok_M_lives (Nat.le_of_ble_eq_true rfl) rfl ?_
  refine zw_aload_n ok_M_lives rfl rfl ?_
  refine zw_Vvp ok_M_lives rfl ok_M_begins lk_M_203 (by decide) rfl rfl (Nat.le_of_ble_eq_true rfl) (ct_M_begins hC) ?_
  refine zw_iconst ok_M_lives rfl ?_
  refine zw_istore_n ok_M_lives rfl rfl (by decide) ?_
  exact lho_loop hC (by omega) (t + 1).toNat 0 _ (by omega) (by omega) (begM_inv hC) ⟨rfl, rfl⟩
end
