/-! ===== Integer.bitCount, StrollPlan ===== -/
def pcN (x : Int) : Int := bi (tb x 0) + bi (tb x 1) + bi (tb x 2) + bi (tb x 3) + bi (tb x 4) + bi (tb x 5) + bi (tb x 6) + bi (tb x 7)
theorem pcN_r (x : Int) : 0 ≤ pcN x ∧ pcN x ≤ 8 := by
  unfold pcN
  have h0 := bi01 (tb x 0); have h1 := bi01 (tb x 1); have h2 := bi01 (tb x 2); have h3 := bi01 (tb x 3); have h4 := bi01 (tb x 4); have h5 := bi01 (tb x 5); have h6 := bi01 (tb x 6); have h7 := bi01 (tb x 7)
  omega
def bcA (x : Int) : Int := x - zand (zushr x 1) 1431655765
def bcB (a : Int) : Int := zand a 858993459 + zand (zushr a 2) 858993459
def bcC (b : Int) : Int := zand (b + zushr b 4) 252645135
def bcD (c : Int) : Int := c + zushr c 8
def bcE (d : Int) : Int := zand (d + zushr d 16) 63
theorem bc8 : ∀ n, n < 256 → bcE (bcD (bcC (bcB (bcA ((n : Nat) : Int))))) = pcN ((n : Nat) : Int) := by decide +kernel
theorem ct_Jint_bitCount_0f7a4 {mem : zMem} {x : Int} (hx : 0 ≤ x ∧ x < 256) : zCip m_Jint_bitCount_0f7a4 [vi x] mem (pcN x) := by
  refine zCt.of [some (vi x)] ok_Jint_bitCount_0f7a4 (Nat.le_of_ble_eq_true rfl) rfl ?_
  have h := bc8 x.toNat (by omega)
  rw [Int.toNat_of_nonneg hx.1] at h
  refine zw_iload_n ok_Jint_bitCount_0f7a4 rfl rfl ?_
  refine zw_iload_n ok_Jint_bitCount_0f7a4 rfl rfl ?_
  refine zw_iconst ok_Jint_bitCount_0f7a4 rfl ?_
  refine zw_iushr ok_Jint_bitCount_0f7a4 rfl ?_
  refine zw_ldcw ok_Jint_bitCount_0f7a4 rfl kc_Jint_265 ?_
  refine zw_iand ok_Jint_bitCount_0f7a4 rfl ?_
  refine zw_isub ok_Jint_bitCount_0f7a4 rfl ?_
  refine zw_istore_n ok_Jint_bitCount_0f7a4 rfl rfl (by decide) ?_
  refine zw_iload_n ok_Jint_bitCount_0f7a4 rfl rfl ?_
  refine zw_ldcw ok_Jint_bitCount_0f7a4 rfl kc_Jint_266 ?_
  refine zw_iand ok_Jint_bitCount_0f7a4 rfl ?_
  refine zw_iload_n ok_Jint_bitCount_0f7a4 rfl rfl ?_
  refine zw_iconst ok_Jint_bitCount_0f7a4 rfl ?_
  refine zw_iushr ok_Jint_bitCount_0f7a4 rfl ?_
  refine zw_ldcw ok_Jint_bitCount_0f7a4 rfl kc_Jint_266 ?_
  refine zw_iand ok_Jint_bitCount_0f7a4 rfl ?_
  refine zw_iadd ok_Jint_bitCount_0f7a4 rfl ?_
  refine zw_istore_n ok_Jint_bitCount_0f7a4 rfl rfl (by decide) ?_
  refine zw_iload_n ok_Jint_bitCount_0f7a4 rfl rfl ?_
  refine zw_iload_n ok_Jint_bitCount_0f7a4 rfl rfl ?_
  refine zw_iconst ok_Jint_bitCount_0f7a4 rfl ?_
  refine zw_iushr ok_Jint_bitCount_0f7a4 rfl ?_
  refine zw_iadd ok_Jint_bitCount_0f7a4 rfl ?_
  refine zw_ldcw ok_Jint_bitCount_0f7a4 rfl kc_Jint_267 ?_
  refine zw_iand ok_Jint_bitCount_0f7a4 rfl ?_
  refine zw_istore_n ok_Jint_bitCount_0f7a4 rfl rfl (by decide) ?_
  refine zw_iload_n ok_Jint_bitCount_0f7a4 rfl rfl ?_
  refine zw_iload_n ok_Jint_bitCount_0f7a4 rfl rfl ?_
  refine zw_bipush ok_Jint_bitCount_0f7a4 rfl (by decide) ?_
  refine zw_iushr ok_Jint_bitCount_0f7a4 rfl ?_
  refine zw_iadd ok_Jint_bitCount_0f7a4 rfl ?_
  refine zw_istore_n ok_Jint_bitCount_0f7a4 rfl rfl (by decide) ?_
  refine zw_iload_n ok_Jint_bitCount_0f7a4 rfl rfl ?_
  refine zw_iload_n ok_Jint_bitCount_0f7a4 rfl rfl ?_
  refine zw_bipush ok_Jint_bitCount_0f7a4 rfl (by decide) ?_
  refine zw_iushr ok_Jint_bitCount_0f7a4 rfl ?_
  refine zw_iadd ok_Jint_bitCount_0f7a4 rfl ?_
  refine zw_istore_n ok_Jint_bitCount_0f7a4 rfl rfl (by decide) ?_
  refine zw_iload_n ok_Jint_bitCount_0f7a4 rfl rfl ?_
  refine zw_bipush ok_Jint_bitCount_0f7a4 rfl (by decide) ?_
  refine zw_iand ok_Jint_bitCount_0f7a4 rfl ?_
  exact zw_iret ok_Jint_bitCount_0f7a4 rfl rfl (⟨congrArg (fun z => some (vi z)) h, rfl⟩)
theorem walk_self {P : Int} {can step st un : Int → Int} {n : Nat} {s t : zS} (hP : 0 ≤ P) (hn : n ≤ 12) (he : eqP P s t) : eqP P (walkS P can step st un n s) (walkS P can step st un n t) := by
  have pe : pEq P can step st un can step (fun h p => st (h * 8 + p)) (fun h p => tb (un h) p.toNat) := ⟨fun _ _ _ => ⟨rfl, rfl⟩, fun _ _ _ _ _ _ => rfl, fun _ _ _ _ _ _ => rfl⟩
  exact (walk_t pe hP hn he).tr (walk_t pe hP hn eqP.rf).sy
/-- the day on this layout -/
def dayC (mem : zMem) (st hd df : Int → Int) : zS := walkS (mem 5 4) (mem 7) (mem 9) st (fun h => zor (hd h) (mem 5 5)) 12 (beg0 df)
theorem dayC_eq {mem : zMem} {st hd df d l : Int → Int} (hC : okC mem) : eqP (mem 5 4) (walkS (mem 5 4) (mem 7) (mem 9) st (fun h => zor (hd h) (mem 5 5)) 12 (begS df d l)) (dayC mem st hd df) :=
  walk_self hC.2.1.1 (by omega) (begS_eq hC.2.1.2.1 (fun _ _ _ _ _ => rfl))
theorem dayC_inv {mem : zMem} {st hd df : Int → Int} (hC : okC mem) (hdf : dfI (mem 5 4) df) : sInv (mem 5 4) (dayC mem st hd df) := by
  refine walkS_inv hC.2.1 ⟨hdf, fun p _ _ => ⟨Int.le_refl _, ?_⟩, Int.le_refl 0, (show (0 : Int) < 256 by decide)⟩
  show (0 : Int) ≤ 99
  decide
def rwU (row : Int → Int) (p h : Int) (st : Int → Int) : Int → Int := zupd st (h * 8 + p) (if row h = 8 then -1 else row h)
def rwS (row : Int → Int) (p : Int) (st : Int → Int) : Int → Int := lp (rwU row p) 3 0 st
def cstC (mem : zMem) (st hd df : Int → Int) (p : Int) : Int := 100 * pcN (dayC mem st hd df).2.2.1 + (dayC mem st hd df).2.1 p
section
variable {mem : zMem} {st hd df : Int → Int} {s : zS} {Q : Option zVal → zMem → Prop}
theorem cost_loop {p : Int} (hp : 0 ≤ p ∧ p < 8) (hrow : ∀ h, 0 ≤ h → h < 3 → 0 ≤ mem 33 h ∧ mem 33 h ≤ 8) :
    ∀ (k : Nat) (h : Int) (st : Int → Int), 0 ≤ h → h + k = 3 → AW m_St_costFor 48 [some (vr 32), some (vi p), none] [] (putC mem (lp (rwU (mem 33) p) k h st, hd, df) s) Q → AW m_St_costFor 2 [some (vr 32), some (vi p), some (vi h)] [] (putC mem (st, hd, df) s) Q := by
  intro k
  induction k with
  | zero =>
    intro h st h0 hk hx
    refine zw_iload_n ok_St_costFor rfl rfl ?_
    refine zw_iconst ok_St_costFor rfl ?_
    refine zw_icmp_ge 48 ok_St_costFor rfl (by decide) (by omega) (fun h4 => ?_) (fun h4 => ?_)
    · refine zw_mask [true, true, false] rfl ?_
      exact hx
    · exfalso; omega
  | succ k ih =>
    intro h st h0 hk hx
    rw [lp_s] at hx
    have hr := hrow h h0 (by omega)
    unfold rwU at hx
    by_cases h8 : mem 33 h = 8
    · rw [if_pos h8] at hx
      refine zw_iload_n ok_St_costFor rfl rfl ?_
      refine zw_iconst ok_St_costFor rfl ?_
      refine zw_icmp_ge 48 ok_St_costFor rfl (by decide) (by omega) (fun h4 => ?_) (fun h4 => ?_)
      · exfalso; omega
      · refine zw_aload_n ok_St_costFor rfl rfl ?_
        refine zw_getr ok_St_costFor rfl fl_St_18 rfl rfl ?_
        refine zw_getr ok_St_costFor rfl fl_St_46 rfl rfl ?_
        refine zw_iload_n ok_St_costFor rfl rfl ?_
        refine zw_bipush ok_St_costFor rfl (by decide) ?_
        refine zw_imul ok_St_costFor rfl ?_
        refine zw_iload_n ok_St_costFor rfl rfl ?_
        refine zw_iadd ok_St_costFor rfl ?_
        refine zw_aload_n ok_St_costFor rfl rfl ?_
        refine zw_getr ok_St_costFor rfl fl_St_11 rfl rfl ?_
        refine zw_iload_n ok_St_costFor rfl rfl ?_
        refine zw_iald ok_St_costFor rfl rfl (by omega) ?_
        try simp only [rd_C9, rd_C10, rd_C11, rd_C12, rd_C25, rd_C26, rd_C27, rd_C28, rd_C29, rd_C_0, rd_C_1, rd_C_2, rd_C_3, rd_C_4, rd_C_5, rd_C_6, rd_C_7, rd_C_8, rd_C_9, rd_C_10, rd_C_11, rd_C_12, rd_C_13, rd_C_14, rd_C_15, rd_C_16, rd_C_17, rd_C_18, rd_C_19, rd_C_20, rd_C_21, rd_C_22, rd_C_23, rd_C_30, rd_C_31, rd_C_32, rd_C_33, rd_C_34, rd_C_35, rd_C_36, rd_C_37, rd_C_38, rd_C_39, rd_C_40, rd_C_41, rd_C_42, rd_C_43, rd_C_44, rd_C_45, rd_C_46, rd_C_47, rd_C_48, rd_C_49, rd_C_50, rd_C_51, rd_C_52, rd_C_53, rd_C_54, rd_C_55, rd_C_56, rd_C_57, rd_C_58, rd_C_59, rd_C_60, rd_C_61, rd_C_62, rd_C_63, rd_C_64, rd_C_65, wr_C9, wr_C10, wr_C11, wr_C12, wr_C25, wr_C26, wr_C27, wr_C28, wr_C29, wp_C25, wp_C26, wp_C27, wp_C28, wp_C29]
        refine zw_bipush ok_St_costFor rfl (by decide) ?_
        refine zw_icmp_ne 35 ok_St_costFor rfl (by decide) (by omega) (fun h28 => ?_) (fun h28 => ?_)
        · exact absurd h8 h28
        · refine zw_iconst ok_St_costFor rfl ?_
          refine zw_goto 41 ok_St_costFor rfl (by decide) ?_
          refine zw_iast ok_St_costFor rfl rfl (by omega) ?_
          try simp only [rd_C9, rd_C10, rd_C11, rd_C12, rd_C25, rd_C26, rd_C27, rd_C28, rd_C29, rd_C_0, rd_C_1, rd_C_2, rd_C_3, rd_C_4, rd_C_5, rd_C_6, rd_C_7, rd_C_8, rd_C_9, rd_C_10, rd_C_11, rd_C_12, rd_C_13, rd_C_14, rd_C_15, rd_C_16, rd_C_17, rd_C_18, rd_C_19, rd_C_20, rd_C_21, rd_C_22, rd_C_23, rd_C_30, rd_C_31, rd_C_32, rd_C_33, rd_C_34, rd_C_35, rd_C_36, rd_C_37, rd_C_38, rd_C_39, rd_C_40, rd_C_41, rd_C_42, rd_C_43, rd_C_44, rd_C_45, rd_C_46, rd_C_47, rd_C_48, rd_C_49, rd_C_50, rd_C_51, rd_C_52, rd_C_53, rd_C_54, rd_C_55, rd_C_56, rd_C_57, rd_C_58, rd_C_59, rd_C_60, rd_C_61, rd_C_62, rd_C_63, rd_C_64, rd_C_65, wr_C9, wr_C10, wr_C11, wr_C12, wr_C25, wr_C26, wr_C27, wr_C28, wr_C29, wp_C25, wp_C26, wp_C27, wp_C28, wp_C29]
          refine zw_iinc ok_St_costFor rfl rfl rfl (by decide) ?_
          refine zw_goto 2 ok_St_costFor rfl (by decide) ?_
          exact ih (h + 1) _ (by omega) (by omega) hx
    · rw [if_neg h8] at hx
      refine zw_iload_n ok_St_costFor rfl rfl ?_
      refine zw_iconst ok_St_costFor rfl ?_
      refine zw_icmp_ge 48 ok_St_costFor rfl (by decide) (by omega) (fun h4 => ?_) (fun h4 => ?_)
      · exfalso; omega
      · refine zw_aload_n ok_St_costFor rfl rfl ?_
        refine zw_getr ok_St_costFor rfl fl_St_18 rfl rfl ?_
        refine zw_getr ok_St_costFor rfl fl_St_46 rfl rfl ?_
        refine zw_iload_n ok_St_costFor rfl rfl ?_
        refine zw_bipush ok_St_costFor rfl (by decide) ?_
        refine zw_imul ok_St_costFor rfl ?_
        refine zw_iload_n ok_St_costFor rfl rfl ?_
        refine zw_iadd ok_St_costFor rfl ?_
        refine zw_aload_n ok_St_costFor rfl rfl ?_
        refine zw_getr ok_St_costFor rfl fl_St_11 rfl rfl ?_
        refine zw_iload_n ok_St_costFor rfl rfl ?_
        refine zw_iald ok_St_costFor rfl rfl (by omega) ?_
        try simp only [rd_C9, rd_C10, rd_C11, rd_C12, rd_C25, rd_C26, rd_C27, rd_C28, rd_C29, rd_C_0, rd_C_1, rd_C_2, rd_C_3, rd_C_4, rd_C_5, rd_C_6, rd_C_7, rd_C_8, rd_C_9, rd_C_10, rd_C_11, rd_C_12, rd_C_13, rd_C_14, rd_C_15, rd_C_16, rd_C_17, rd_C_18, rd_C_19, rd_C_20, rd_C_21, rd_C_22, rd_C_23, rd_C_30, rd_C_31, rd_C_32, rd_C_33, rd_C_34, rd_C_35, rd_C_36, rd_C_37, rd_C_38, rd_C_39, rd_C_40, rd_C_41, rd_C_42, rd_C_43, rd_C_44, rd_C_45, rd_C_46, rd_C_47, rd_C_48, rd_C_49, rd_C_50, rd_C_51, rd_C_52, rd_C_53, rd_C_54, rd_C_55, rd_C_56, rd_C_57, rd_C_58, rd_C_59, rd_C_60, rd_C_61, rd_C_62, rd_C_63, rd_C_64, rd_C_65, wr_C9, wr_C10, wr_C11, wr_C12, wr_C25, wr_C26, wr_C27, wr_C28, wr_C29, wp_C25, wp_C26, wp_C27, wp_C28, wp_C29]
        refine zw_bipush ok_St_costFor rfl (by decide) ?_
        refine zw_icmp_ne 35 ok_St_costFor rfl (by decide) (by omega) (fun h28 => ?_) (fun h28 => ?_)
        · refine zw_aload_n ok_St_costFor rfl rfl ?_
          refine zw_getr ok_St_costFor rfl fl_St_11 rfl rfl ?_
          refine zw_iload_n ok_St_costFor rfl rfl ?_
          refine zw_iald ok_St_costFor rfl rfl (by omega) ?_
          try simp only [rd_C9, rd_C10, rd_C11, rd_C12, rd_C25, rd_C26, rd_C27, rd_C28, rd_C29, rd_C_0, rd_C_1, rd_C_2, rd_C_3, rd_C_4, rd_C_5, rd_C_6, rd_C_7, rd_C_8, rd_C_9, rd_C_10, rd_C_11, rd_C_12, rd_C_13, rd_C_14, rd_C_15, rd_C_16, rd_C_17, rd_C_18, rd_C_19, rd_C_20, rd_C_21, rd_C_22, rd_C_23, rd_C_30, rd_C_31, rd_C_32, rd_C_33, rd_C_34, rd_C_35, rd_C_36, rd_C_37, rd_C_38, rd_C_39, rd_C_40, rd_C_41, rd_C_42, rd_C_43, rd_C_44, rd_C_45, rd_C_46, rd_C_47, rd_C_48, rd_C_49, rd_C_50, rd_C_51, rd_C_52, rd_C_53, rd_C_54, rd_C_55, rd_C_56, rd_C_57, rd_C_58, rd_C_59, rd_C_60, rd_C_61, rd_C_62, rd_C_63, rd_C_64, rd_C_65, wr_C9, wr_C10, wr_C11, wr_C12, wr_C25, wr_C26, wr_C27, wr_C28, wr_C29, wp_C25, wp_C26, wp_C27, wp_C28, wp_C29]
          refine zw_iast ok_St_costFor rfl rfl (by omega) ?_
          try simp only [rd_C9, rd_C10, rd_C11, rd_C12, rd_C25, rd_C26, rd_C27, rd_C28, rd_C29, rd_C_0, rd_C_1, rd_C_2, rd_C_3, rd_C_4, rd_C_5, rd_C_6, rd_C_7, rd_C_8, rd_C_9, rd_C_10, rd_C_11, rd_C_12, rd_C_13, rd_C_14, rd_C_15, rd_C_16, rd_C_17, rd_C_18, rd_C_19, rd_C_20, rd_C_21, rd_C_22, rd_C_23, rd_C_30, rd_C_31, rd_C_32, rd_C_33, rd_C_34, rd_C_35, rd_C_36, rd_C_37, rd_C_38, rd_C_39, rd_C_40, rd_C_41, rd_C_42, rd_C_43, rd_C_44, rd_C_45, rd_C_46, rd_C_47, rd_C_48, rd_C_49, rd_C_50, rd_C_51, rd_C_52, rd_C_53, rd_C_54, rd_C_55, rd_C_56, rd_C_57, rd_C_58, rd_C_59, rd_C_60, rd_C_61, rd_C_62, rd_C_63, rd_C_64, rd_C_65, wr_C9, wr_C10, wr_C11, wr_C12, wr_C25, wr_C26, wr_C27, wr_C28, wr_C29, wp_C25, wp_C26, wp_C27, wp_C28, wp_C29]
          refine zw_iinc ok_St_costFor rfl rfl rfl (by decide) ?_
          refine zw_goto 2 ok_St_costFor rfl (by decide) ?_
          exact ih (h + 1) _ (by omega) (by omega) hx
        · exact absurd h28 h8
theorem rw_st {p : Int} (hp : 0 ≤ p ∧ p < 8) (hst : ∀ i, 0 ≤ i → i < 96 → -1 ≤ st i ∧ st i ≤ 7) {row : Int → Int} (hrow : ∀ h, 0 ≤ h → h < 3 → 0 ≤ row h ∧ row h ≤ 8) : ∀ i, 0 ≤ i → i < 96 → -1 ≤ rwS row p st i ∧ rwS row p st i ≤ 7 := by
  refine lp_inv (I := fun st : Int → Int => ∀ i, 0 ≤ i → i < 96 → -1 ≤ st i ∧ st i ≤ 7) _ _ _ (fun h st h1 h2 hs i q1 q2 => ?_) hst
  have := hrow h h1 (by omega)
  unfold rwU
  by_cases e : i = h * 8 + p
  · subst e; rw [zupd_eq]; split <;> omega
  · rw [zupd_ne e]; exact hs i q1 q2
theorem ct_St_costFor {p : Int} (hC : okC mem) (hp : 0 ≤ p ∧ p < mem 5 4) (hrow : ∀ h, 0 ≤ h → h < 3 → 0 ≤ mem 33 h ∧ mem 33 h ≤ 8) (hst : ∀ i, 0 ≤ i → i < 96 → -1 ≤ st i ∧ st i ≤ 7) (hdf : dfI (mem 5 4) df) : zCi m_St_costFor [vr 32, vi p] (putC mem (st, hd, df) s) (cstC mem (rwS (mem 33) p st) hd df p) (fun m2 => ∃ s2, m2 = putC mem (rwS (mem 33) p st, hd, df) s2) := by
  refine zCt.of [some (vr 32), some (vi p), none] ok_St_costFor (Nat.le_of_ble_eq_true rfl) rfl ?_
  have hP8 := hC.2.1.2.1
  have hst2 := rw_st (st := st) ⟨hp.1, by omega⟩ hst hrow
  have hd1 := dayC_inv (st := rwS (mem 33) p st) (hd := hd) hC hdf
  have hde := dayC_eq (st := rwS (mem 33) p st) (hd := hd) (df := df) (d := s.1) (l := s.2.1) hC
  have K : AW m_St_costFor 48 [some (vr 32), some (vi p), none] [] (putC mem (rwS (mem 33) p st, hd, df) s) (fun r m2 => r = some (vi (cstC mem (rwS (mem 33) p st) hd df p)) ∧ ∃ s2, m2 = putC mem (rwS (mem 33) p st, hd, df) s2) := by
    unfold cstC
    generalize rwS (mem 33) p st = st2 at hst2 hd1 hde ⊢
    have eg : (walkS (mem 5 4) (mem 7) (mem 9) st2 (fun h => zor (hd h) (mem 5 5)) 12 (begS df s.1 s.2.1)).2.2.1 = (dayC mem st2 hd df).2.2.1 := by rw [hde.2.2]
    have el := hde.2.1 p hp.1 hp.2
    have hg := hd1.2.2
    refine zw_aload_n ok_St_costFor rfl rfl ?_
    refine zw_getr ok_St_costFor rfl fl_St_18 rfl rfl ?_
    refine zw_Vvp ok_St_costFor rfl ok_Co_begin lk_St_49 (by decide) rfl rfl (Nat.le_of_ble_eq_true rfl) (ct_Co_begin) ?_
    refine zw_aload_n ok_St_costFor rfl rfl ?_
    refine zw_getr ok_St_costFor rfl fl_St_18 rfl rfl ?_
    refine zw_bipush ok_St_costFor rfl (by decide) ?_
    refine zw_Vvp ok_St_costFor rfl ok_Co_walkTo lk_St_52 (by decide) rfl rfl (Nat.le_of_ble_eq_true rfl) (ct_Co_walkTo hC.2.1 rfl (by omega) hst2 (begS_inv hC.2.1.2.1 hdf) ⟨Int.le_refl _, (show (-1 : Int) ≤ 11 by decide)⟩) ?_
    rw [show ((11 : Int) + 1).toNat = 12 from rfl]
    generalize hS : walkS (mem 5 4) (mem 7) (mem 9) st2 (fun h => zor (hd h) (mem 5 5)) 12 (begS df s.1 s.2.1) = S at eg el ⊢
    obtain ⟨xd, xl, xg, xn, xfh, xfw⟩ := S
    dsimp only at eg el
    subst eg
    refine zw_bipush ok_St_costFor rfl (by decide) ?_
    refine zw_aload_n ok_St_costFor rfl rfl ?_
    refine zw_getr ok_St_costFor rfl fl_St_18 rfl rfl ?_
    refine zw_geti ok_St_costFor rfl fl_St_56 rfl rfl ?_
    try simp only [rd_C9, rd_C10, rd_C11, rd_C12, rd_C25, rd_C26, rd_C27, rd_C28, rd_C29, rd_C_0, rd_C_1, rd_C_2, rd_C_3, rd_C_4, rd_C_5, rd_C_6, rd_C_7, rd_C_8, rd_C_9, rd_C_10, rd_C_11, rd_C_12, rd_C_13, rd_C_14, rd_C_15, rd_C_16, rd_C_17, rd_C_18, rd_C_19, rd_C_20, rd_C_21, rd_C_22, rd_C_23, rd_C_30, rd_C_31, rd_C_32, rd_C_33, rd_C_34, rd_C_35, rd_C_36, rd_C_37, rd_C_38, rd_C_39, rd_C_40, rd_C_41, rd_C_42, rd_C_43, rd_C_44, rd_C_45, rd_C_46, rd_C_47, rd_C_48, rd_C_49, rd_C_50, rd_C_51, rd_C_52, rd_C_53, rd_C_54, rd_C_55, rd_C_56, rd_C_57, rd_C_58, rd_C_59, rd_C_60, rd_C_61, rd_C_62, rd_C_63, rd_C_64, rd_C_65, wr_C9, wr_C10, wr_C11, wr_C12, wr_C25, wr_C26, wr_C27, wr_C28, wr_C29, wp_C25, wp_C26, wp_C27, wp_C28, wp_C29]
    refine zw_Sip ok_St_costFor rfl ok_Jint_bitCount_0f7a4 lk_St_57 (by decide) rfl (Nat.le_of_ble_eq_true rfl) (ct_Jint_bitCount_0f7a4 hg) ?_
    refine zw_imul ok_St_costFor rfl ?_
    refine zw_aload_n ok_St_costFor rfl rfl ?_
    refine zw_getr ok_St_costFor rfl fl_St_18 rfl rfl ?_
    refine zw_getr ok_St_costFor rfl fl_St_62 rfl rfl ?_
    refine zw_iload_n ok_St_costFor rfl rfl ?_
    refine zw_iald ok_St_costFor rfl rfl (by omega) ?_
    try simp only [rd_C9, rd_C10, rd_C11, rd_C12, rd_C25, rd_C26, rd_C27, rd_C28, rd_C29, rd_C_0, rd_C_1, rd_C_2, rd_C_3, rd_C_4, rd_C_5, rd_C_6, rd_C_7, rd_C_8, rd_C_9, rd_C_10, rd_C_11, rd_C_12, rd_C_13, rd_C_14, rd_C_15, rd_C_16, rd_C_17, rd_C_18, rd_C_19, rd_C_20, rd_C_21, rd_C_22, rd_C_23, rd_C_30, rd_C_31, rd_C_32, rd_C_33, rd_C_34, rd_C_35, rd_C_36, rd_C_37, rd_C_38, rd_C_39, rd_C_40, rd_C_41, rd_C_42, rd_C_43, rd_C_44, rd_C_45, rd_C_46, rd_C_47, rd_C_48, rd_C_49, rd_C_50, rd_C_51, rd_C_52, rd_C_53, rd_C_54, rd_C_55, rd_C_56, rd_C_57, rd_C_58, rd_C_59, rd_C_60, rd_C_61, rd_C_62, rd_C_63, rd_C_64, rd_C_65, wr_C9, wr_C10, wr_C11, wr_C12, wr_C25, wr_C26, wr_C27, wr_C28, wr_C29, wp_C25, wp_C26, wp_C27, wp_C28, wp_C29]
    rw [el]
    refine zw_iadd ok_St_costFor rfl ?_
    exact zw_iret ok_St_costFor rfl rfl (⟨rfl, _, rfl⟩)
  refine zw_iconst ok_St_costFor rfl ?_
  refine zw_istore_n ok_St_costFor rfl rfl (by decide) ?_
  exact cost_loop ⟨hp.1, by omega⟩ hrow 3 0 st (by omega) (by omega) K
end
