/-! ===== Coast: walkThrough, walkTo, begin, walkTillOneIsGone ===== -/
theorem meetS_fh (can step : Int → Int) (a b : Int) (s : zS) : (meetS can step a b s).2.2.2.2.1 = s.2.2.2.2.1 := by
  unfold meetS
  (repeat' split) <;> rfl
theorem lpOut_fh {P : Int} {can step st : Int → Int} {un row : Int} {s : zS} (hf : -1 ≤ s.2.2.2.2.1 ∧ s.2.2.2.2.1 ≤ 11) (k : Nat) (a : Int) : -1 ≤ (lp (outS P can step st un row) k a s).2.2.2.2.1 ∧ (lp (outS P can step st un row) k a s).2.2.2.2.1 ≤ 11 := by
  have h1 : ∀ a b s, (inS can step st un row a b s).2.2.2.2.1 = s.2.2.2.2.1 := by
    intro a b s
    unfold inS
    split
    · exact meetS_fh _ _ _ _ _
    · rfl
  refine lp_inv (I := fun s : zS => -1 ≤ s.2.2.2.2.1 ∧ s.2.2.2.2.1 ≤ 11) _ _ _ (fun a s _ _ hs => ?_) hf
  unfold outS
  split
  · exact hs
  · exact lp_inv (I := fun s : zS => -1 ≤ s.2.2.2.2.1 ∧ s.2.2.2.2.1 ≤ 11) _ _ _ (fun b s _ _ hs => by rw [h1]; exact hs) hs
section
variable {mem : zMem} {st hd df : Int → Int} {Q : Option zVal → zMem → Prop}
theorem wt_out {P h un : Int} (hP : pInv P (mem 7) (mem 9)) (eP : mem 5 4 = P) (hh : 0 ≤ h ∧ h ≤ 11) (hst : ∀ i, 0 ≤ i → i < 96 → -1 ≤ st i ∧ st i ≤ 7) :
    ∀ (k : Nat) (a : Int) (s : zS), 0 ≤ a → a + k = P → sInv P s → AW m_Co_walkThrough 132 [some (vr 24), some (vi h), some (vi (h * 8)), some (vi un), none, none, none, none] [] (putC mem (st, hd, df) (lp (outS P (mem 7) (mem 9) st un (h * 8)) k a s)) Q →
      AW m_Co_walkThrough 23 [some (vr 24), some (vi h), some (vi (h * 8)), some (vi un), some (vi a), none, none, none] [] (putC mem (st, hd, df) s) Q := by
  have q2 := hP.2.1
  intro k
  induction k with
  | zero =>
    intro a s h0 hk hs hx
    refine zw_iload ok_Co_walkThrough rfl rfl ?_
    refine zw_aload_n ok_Co_walkThrough rfl rfl ?_
    refine zw_getr ok_Co_walkThrough rfl fl_Co_27 rfl rfl ?_
    refine zw_geti ok_Co_walkThrough rfl fl_Co_90 rfl rfl ?_
    try simp only [rd_C9, rd_C10, rd_C11, rd_C12, rd_C25, rd_C26, rd_C27, rd_C28, rd_C29, rd_C_0, rd_C_1, rd_C_2, rd_C_3, rd_C_4, rd_C_5, rd_C_6, rd_C_7, rd_C_8, rd_C_9, rd_C_10, rd_C_11, rd_C_12, rd_C_13, rd_C_14, rd_C_15, rd_C_16, rd_C_17, rd_C_18, rd_C_19, rd_C_20, rd_C_21, rd_C_22, rd_C_23, rd_C_30, rd_C_31, rd_C_32, rd_C_33, rd_C_34, rd_C_35, rd_C_36, rd_C_37, rd_C_38, rd_C_39, rd_C_40, rd_C_41, rd_C_42, rd_C_43, rd_C_44, rd_C_45, rd_C_46, rd_C_47, rd_C_48, rd_C_49, rd_C_50, rd_C_51, rd_C_52, rd_C_53, rd_C_54, rd_C_55, rd_C_56, rd_C_57, rd_C_58, rd_C_59, rd_C_60, rd_C_61, rd_C_62, rd_C_63, rd_C_64, rd_C_65, wr_C9, wr_C10, wr_C11, wr_C12, wr_C25, wr_C26, wr_C27, wr_C28, wr_C29, wp_C25, wp_C26, wp_C27, wp_C28, wp_C29]
    refine zw_icmp_ge 132 ok_Co_walkThrough rfl (by decide) (by omega) (fun h32 => ?_) (fun h32 => ?_)
    · refine zw_mask [true, true, true, true, false, false, false, false] rfl ?_
      exact hx
    · exfalso; omega
  | succ k ih =>
    intro a s h0 hk hs hx
    rw [lp_s] at hx
    have q3 := hst (h * 8 + a) (by omega) (by omega)
    have K : AW m_Co_walkThrough 126 [some (vr 24), some (vi h), some (vi (h * 8)), some (vi un), some (vi a), none, none, none] [] (putC mem (st, hd, df) (outS P (mem 7) (mem 9) st un (h * 8) a s)) Q := by
      refine zw_iinc ok_Co_walkThrough rfl rfl rfl (by decide) ?_
      refine zw_goto 23 ok_Co_walkThrough rfl (by decide) ?_
      exact ih (a + 1) _ (by omega) (by omega) (outS_inv hP h0 (by omega) hs) hx
    refine zw_iload ok_Co_walkThrough rfl rfl ?_
    refine zw_aload_n ok_Co_walkThrough rfl rfl ?_
    refine zw_getr ok_Co_walkThrough rfl fl_Co_27 rfl rfl ?_
    refine zw_geti ok_Co_walkThrough rfl fl_Co_90 rfl rfl ?_
    try simp only [rd_C9, rd_C10, rd_C11, rd_C12, rd_C25, rd_C26, rd_C27, rd_C28, rd_C29, rd_C_0, rd_C_1, rd_C_2, rd_C_3, rd_C_4, rd_C_5, rd_C_6, rd_C_7, rd_C_8, rd_C_9, rd_C_10, rd_C_11, rd_C_12, rd_C_13, rd_C_14, rd_C_15, rd_C_16, rd_C_17, rd_C_18, rd_C_19, rd_C_20, rd_C_21, rd_C_22, rd_C_23, rd_C_30, rd_C_31, rd_C_32, rd_C_33, rd_C_34, rd_C_35, rd_C_36, rd_C_37, rd_C_38, rd_C_39, rd_C_40, rd_C_41, rd_C_42, rd_C_43, rd_C_44, rd_C_45, rd_C_46, rd_C_47, rd_C_48, rd_C_49, rd_C_50, rd_C_51, rd_C_52, rd_C_53, rd_C_54, rd_C_55, rd_C_56, rd_C_57, rd_C_58, rd_C_59, rd_C_60, rd_C_61, rd_C_62, rd_C_63, rd_C_64, rd_C_65, wr_C9, wr_C10, wr_C11, wr_C12, wr_C25, wr_C26, wr_C27, wr_C28, wr_C29, wp_C25, wp_C26, wp_C27, wp_C28, wp_C29]
    refine zw_icmp_ge 132 ok_Co_walkThrough rfl (by decide) (by omega) (fun h32 => ?_) (fun h32 => ?_)
    · exfalso; omega
    · refine zw_aload_n ok_Co_walkThrough rfl rfl ?_
      refine zw_getr ok_Co_walkThrough rfl fl_Co_9 rfl rfl ?_
      refine zw_iload_n ok_Co_walkThrough rfl rfl ?_
      refine zw_iload ok_Co_walkThrough rfl rfl ?_
      refine zw_iadd ok_Co_walkThrough rfl ?_
      refine zw_iald ok_Co_walkThrough rfl rfl (by omega) ?_
      try simp only [rd_C9, rd_C10, rd_C11, rd_C12, rd_C25, rd_C26, rd_C27, rd_C28, rd_C29, rd_C_0, rd_C_1, rd_C_2, rd_C_3, rd_C_4, rd_C_5, rd_C_6, rd_C_7, rd_C_8, rd_C_9, rd_C_10, rd_C_11, rd_C_12, rd_C_13, rd_C_14, rd_C_15, rd_C_16, rd_C_17, rd_C_18, rd_C_19, rd_C_20, rd_C_21, rd_C_22, rd_C_23, rd_C_30, rd_C_31, rd_C_32, rd_C_33, rd_C_34, rd_C_35, rd_C_36, rd_C_37, rd_C_38, rd_C_39, rd_C_40, rd_C_41, rd_C_42, rd_C_43, rd_C_44, rd_C_45, rd_C_46, rd_C_47, rd_C_48, rd_C_49, rd_C_50, rd_C_51, rd_C_52, rd_C_53, rd_C_54, rd_C_55, rd_C_56, rd_C_57, rd_C_58, rd_C_59, rd_C_60, rd_C_61, rd_C_62, rd_C_63, rd_C_64, rd_C_65, wr_C9, wr_C10, wr_C11, wr_C12, wr_C25, wr_C26, wr_C27, wr_C28, wr_C29, wp_C25, wp_C26, wp_C27, wp_C28, wp_C29]
      refine zw_istore ok_Co_walkThrough rfl rfl (by decide) ?_
      refine zw_iload ok_Co_walkThrough rfl rfl ?_
      refine zw_iconst ok_Co_walkThrough rfl ?_
      refine zw_iadd ok_Co_walkThrough rfl ?_
      refine zw_istore ok_Co_walkThrough rfl rfl (by decide) ?_
      by_cases hq : st (h * 8 + a) = -1
      · refine zw_iload ok_Co_walkThrough rfl rfl ?_
        refine zw_iconst ok_Co_walkThrough rfl ?_
        refine zw_icmp_eq 126 ok_Co_walkThrough rfl (by decide) (by omega) (fun h55 => ?_) (fun h55 => absurd hq h55)
        refine zw_mask [true, true, true, true, true, false, false, false] rfl ?_
        rw [outS, if_pos hq] at K
        exact K
      · refine wt_in hP eP hh hst ⟨h0, by omega⟩ hq (P - (a + 1)).toNat (a + 1) s (by omega) (by omega) hs ?_
        rw [outS, if_neg hq] at K
        exact K
theorem ct_Co_walkThrough {P h : Int} {s : zS} (hP : pInv P (mem 7) (mem 9)) (eP : mem 5 4 = P) (hh : 0 ≤ h ∧ h ≤ 11) (hst : ∀ i, 0 ≤ i → i < 96 → -1 ≤ st i ∧ st i ≤ 7) (hs : sInv P s) (hfh : -1 ≤ s.2.2.2.2.1 ∧ s.2.2.2.2.1 ≤ 11) : zCvp m_Co_walkThrough [vr 24, vi h] (putC mem (st, hd, df) s) (putC mem (st, hd, df) (hourS P (mem 7) (mem 9) st (fun h => zor (hd h) (mem 5 5)) h s)) := by
  refine zCt.of [some (vr 24), some (vi h), none, none, none, none, none, none] ok_Co_walkThrough (Nat.le_of_ble_eq_true rfl) rfl ?_
  have hi := hourS_inv (st := st) (un := fun h => zor (hd h) (mem 5 5)) (h := h) hP hs
  have hf : -1 ≤ (lp (outS P (mem 7) (mem 9) st (zor (hd h) (mem 5 5)) (h * 8)) P.toNat 0 s).2.2.2.2.1 ∧ (lp (outS P (mem 7) (mem 9) st (zor (hd h) (mem 5 5)) (h * 8)) P.toNat 0 s).2.2.2.2.1 ≤ 11 := lpOut_fh hfh _ _
  have hs2 : sInv P (lp (outS P (mem 7) (mem 9) st (zor (hd h) (mem 5 5)) (h * 8)) P.toNat 0 s) := lp_inv _ _ _ (fun j s h1 h2 hs => outS_inv hP h1 (by have := hP.1; omega) hs) hs
  have K : AW m_Co_walkThrough 132 [some (vr 24), some (vi h), some (vi (h * 8)), some (vi (zor (hd h) (mem 5 5))), none, none, none, none] [] (putC mem (st, hd, df) (lp (outS P (mem 7) (mem 9) st (zor (hd h) (mem 5 5)) (h * 8)) P.toNat 0 s)) (fun r m2 => r = none ∧ m2 = putC mem (st, hd, df) (hourS P (mem 7) (mem 9) st (fun h => zor (hd h) (mem 5 5)) h s)) := by
    unfold hourS endS
    have hg := hs2.2.2
    generalize lp (outS P (mem 7) (mem 9) st (zor (hd h) (mem 5 5)) (h * 8)) P.toNat 0 s = s2 at hf hg ⊢
    obtain ⟨d, l, g, n, fh, fw⟩ := s2
    dsimp only at hf hg ⊢
    refine zw_aload_n ok_Co_walkThrough rfl rfl ?_
    refine zw_geti ok_Co_walkThrough rfl fl_Co_99 rfl rfl ?_
    try simp only [rd_C9, rd_C10, rd_C11, rd_C12, rd_C25, rd_C26, rd_C27, rd_C28, rd_C29, rd_C_0, rd_C_1, rd_C_2, rd_C_3, rd_C_4, rd_C_5, rd_C_6, rd_C_7, rd_C_8, rd_C_9, rd_C_10, rd_C_11, rd_C_12, rd_C_13, rd_C_14, rd_C_15, rd_C_16, rd_C_17, rd_C_18, rd_C_19, rd_C_20, rd_C_21, rd_C_22, rd_C_23, rd_C_30, rd_C_31, rd_C_32, rd_C_33, rd_C_34, rd_C_35, rd_C_36, rd_C_37, rd_C_38, rd_C_39, rd_C_40, rd_C_41, rd_C_42, rd_C_43, rd_C_44, rd_C_45, rd_C_46, rd_C_47, rd_C_48, rd_C_49, rd_C_50, rd_C_51, rd_C_52, rd_C_53, rd_C_54, rd_C_55, rd_C_56, rd_C_57, rd_C_58, rd_C_59, rd_C_60, rd_C_61, rd_C_62, rd_C_63, rd_C_64, rd_C_65, wr_C9, wr_C10, wr_C11, wr_C12, wr_C25, wr_C26, wr_C27, wr_C28, wr_C29, wp_C25, wp_C26, wp_C27, wp_C28, wp_C29]
    refine zw_if_eq 152 ok_Co_walkThrough rfl (by decide) (by omega) (fun h136 => ?_) (fun h136 => ?_)
    · rw [if_pos h136]
      exact zw_vret ok_Co_walkThrough rfl rfl (⟨rfl, rfl⟩)
    · rw [if_neg h136]
      refine zw_aload_n ok_Co_walkThrough rfl rfl ?_
      refine zw_geti ok_Co_walkThrough rfl fl_Co_105 rfl rfl ?_
      try simp only [rd_C9, rd_C10, rd_C11, rd_C12, rd_C25, rd_C26, rd_C27, rd_C28, rd_C29, rd_C_0, rd_C_1, rd_C_2, rd_C_3, rd_C_4, rd_C_5, rd_C_6, rd_C_7, rd_C_8, rd_C_9, rd_C_10, rd_C_11, rd_C_12, rd_C_13, rd_C_14, rd_C_15, rd_C_16, rd_C_17, rd_C_18, rd_C_19, rd_C_20, rd_C_21, rd_C_22, rd_C_23, rd_C_30, rd_C_31, rd_C_32, rd_C_33, rd_C_34, rd_C_35, rd_C_36, rd_C_37, rd_C_38, rd_C_39, rd_C_40, rd_C_41, rd_C_42, rd_C_43, rd_C_44, rd_C_45, rd_C_46, rd_C_47, rd_C_48, rd_C_49, rd_C_50, rd_C_51, rd_C_52, rd_C_53, rd_C_54, rd_C_55, rd_C_56, rd_C_57, rd_C_58, rd_C_59, rd_C_60, rd_C_61, rd_C_62, rd_C_63, rd_C_64, rd_C_65, wr_C9, wr_C10, wr_C11, wr_C12, wr_C25, wr_C26, wr_C27, wr_C28, wr_C29, wp_C25, wp_C26, wp_C27, wp_C28, wp_C29]
      refine zw_iconst ok_Co_walkThrough rfl ?_
      refine zw_icmp_ne 152 ok_Co_walkThrough rfl (by decide) (by omega) (fun h144 => ?_) (fun h144 => ?_)
      · rw [if_pos h144]
        exact zw_vret ok_Co_walkThrough rfl rfl (⟨rfl, rfl⟩)
      · rw [if_neg (fun q => q h144)]
        refine zw_aload_n ok_Co_walkThrough rfl rfl ?_
        refine zw_iload_n ok_Co_walkThrough rfl rfl ?_
        refine zw_puti ok_Co_walkThrough rfl fp_Co_105 rfl rfl ?_
        try simp only [rd_C9, rd_C10, rd_C11, rd_C12, rd_C25, rd_C26, rd_C27, rd_C28, rd_C29, rd_C_0, rd_C_1, rd_C_2, rd_C_3, rd_C_4, rd_C_5, rd_C_6, rd_C_7, rd_C_8, rd_C_9, rd_C_10, rd_C_11, rd_C_12, rd_C_13, rd_C_14, rd_C_15, rd_C_16, rd_C_17, rd_C_18, rd_C_19, rd_C_20, rd_C_21, rd_C_22, rd_C_23, rd_C_30, rd_C_31, rd_C_32, rd_C_33, rd_C_34, rd_C_35, rd_C_36, rd_C_37, rd_C_38, rd_C_39, rd_C_40, rd_C_41, rd_C_42, rd_C_43, rd_C_44, rd_C_45, rd_C_46, rd_C_47, rd_C_48, rd_C_49, rd_C_50, rd_C_51, rd_C_52, rd_C_53, rd_C_54, rd_C_55, rd_C_56, rd_C_57, rd_C_58, rd_C_59, rd_C_60, rd_C_61, rd_C_62, rd_C_63, rd_C_64, rd_C_65, wr_C9, wr_C10, wr_C11, wr_C12, wr_C25, wr_C26, wr_C27, wr_C28, wr_C29, wp_C25, wp_C26, wp_C27, wp_C28, wp_C29]
        exact zw_vret ok_Co_walkThrough rfl rfl (⟨rfl, rfl⟩)
  have hP1 := hP.1
  refine zw_iload_n ok_Co_walkThrough rfl rfl ?_
  refine zw_bipush ok_Co_walkThrough rfl (by decide) ?_
  refine zw_imul ok_Co_walkThrough rfl ?_
  refine zw_istore_n ok_Co_walkThrough rfl rfl (by decide) ?_
  refine zw_aload_n ok_Co_walkThrough rfl rfl ?_
  refine zw_getr ok_Co_walkThrough rfl fl_Co_15 rfl rfl ?_
  refine zw_iload_n ok_Co_walkThrough rfl rfl ?_
  refine zw_iald ok_Co_walkThrough rfl rfl (by omega) ?_
  try simp only [rd_C9, rd_C10, rd_C11, rd_C12, rd_C25, rd_C26, rd_C27, rd_C28, rd_C29, rd_C_0, rd_C_1, rd_C_2, rd_C_3, rd_C_4, rd_C_5, rd_C_6, rd_C_7, rd_C_8, rd_C_9, rd_C_10, rd_C_11, rd_C_12, rd_C_13, rd_C_14, rd_C_15, rd_C_16, rd_C_17, rd_C_18, rd_C_19, rd_C_20, rd_C_21, rd_C_22, rd_C_23, rd_C_30, rd_C_31, rd_C_32, rd_C_33, rd_C_34, rd_C_35, rd_C_36, rd_C_37, rd_C_38, rd_C_39, rd_C_40, rd_C_41, rd_C_42, rd_C_43, rd_C_44, rd_C_45, rd_C_46, rd_C_47, rd_C_48, rd_C_49, rd_C_50, rd_C_51, rd_C_52, rd_C_53, rd_C_54, rd_C_55, rd_C_56, rd_C_57, rd_C_58, rd_C_59, rd_C_60, rd_C_61, rd_C_62, rd_C_63, rd_C_64, rd_C_65, wr_C9, wr_C10, wr_C11, wr_C12, wr_C25, wr_C26, wr_C27, wr_C28, wr_C29, wp_C25, wp_C26, wp_C27, wp_C28, wp_C29]
  refine zw_aload_n ok_Co_walkThrough rfl rfl ?_
  refine zw_getr ok_Co_walkThrough rfl fl_Co_27 rfl rfl ?_
  refine zw_geti ok_Co_walkThrough rfl fl_Co_114 rfl rfl ?_
  try simp only [rd_C9, rd_C10, rd_C11, rd_C12, rd_C25, rd_C26, rd_C27, rd_C28, rd_C29, rd_C_0, rd_C_1, rd_C_2, rd_C_3, rd_C_4, rd_C_5, rd_C_6, rd_C_7, rd_C_8, rd_C_9, rd_C_10, rd_C_11, rd_C_12, rd_C_13, rd_C_14, rd_C_15, rd_C_16, rd_C_17, rd_C_18, rd_C_19, rd_C_20, rd_C_21, rd_C_22, rd_C_23, rd_C_30, rd_C_31, rd_C_32, rd_C_33, rd_C_34, rd_C_35, rd_C_36, rd_C_37, rd_C_38, rd_C_39, rd_C_40, rd_C_41, rd_C_42, rd_C_43, rd_C_44, rd_C_45, rd_C_46, rd_C_47, rd_C_48, rd_C_49, rd_C_50, rd_C_51, rd_C_52, rd_C_53, rd_C_54, rd_C_55, rd_C_56, rd_C_57, rd_C_58, rd_C_59, rd_C_60, rd_C_61, rd_C_62, rd_C_63, rd_C_64, rd_C_65, wr_C9, wr_C10, wr_C11, wr_C12, wr_C25, wr_C26, wr_C27, wr_C28, wr_C29, wp_C25, wp_C26, wp_C27, wp_C28, wp_C29]
  refine zw_ior ok_Co_walkThrough rfl ?_
  refine zw_istore_n ok_Co_walkThrough rfl rfl (by decide) ?_
  refine zw_iconst ok_Co_walkThrough rfl ?_
  refine zw_istore ok_Co_walkThrough rfl rfl (by decide) ?_
  exact wt_out hP eP hh hst P.toNat 0 s (by omega) (by omega) hs K
theorem hourS_fh {P : Int} {can step st : Int → Int} {un : Int → Int} {h : Int} {s : zS} (hh : -1 ≤ h ∧ h ≤ 11) (hf : -1 ≤ s.2.2.2.2.1 ∧ s.2.2.2.2.1 ≤ 11) : -1 ≤ (hourS P can step st un h s).2.2.2.2.1 ∧ (hourS P can step st un h s).2.2.2.2.1 ≤ 11 := by
  have h2 := lpOut_fh (P := P) (can := can) (step := step) (st := st) (un := un h) (row := h * 8) hf P.toNat 0
  unfold hourS endS
  split
  · exact h2
  · split
    · exact h2
    · exact hh
theorem walkTo_loop {P lh : Int} (hP : pInv P (mem 7) (mem 9)) (eP : mem 5 4 = P) (hlh : 0 ≤ lh ∧ lh ≤ 11) (hst : ∀ i, 0 ≤ i → i < 96 → -1 ≤ st i ∧ st i ≤ 7) :
    ∀ (k : Nat) (h : Int) (s : zS), 0 ≤ h → h + k = lh + 1 → sInv P s → (-1 ≤ s.2.2.2.2.1 ∧ s.2.2.2.2.1 ≤ 11) → Q none (putC mem (st, hd, df) (lp (hourS P (mem 7) (mem 9) st (fun h => zor (hd h) (mem 5 5))) k h s)) →
      AW m_Co_walkTo 2 [some (vr 24), some (vi lh), some (vi h)] [] (putC mem (st, hd, df) s) Q := by
  intro k
  induction k with
  | zero =>
    intro h s h0 hk hs hf hx
    refine zw_iload_n ok_Co_walkTo rfl rfl ?_
    refine zw_iload_n ok_Co_walkTo rfl rfl ?_
    refine zw_icmp_gt 24 ok_Co_walkTo rfl (by decide) (by omega) (fun h4 => ?_) (fun h4 => ?_)
    · exact zw_vret ok_Co_walkTo rfl rfl (hx)
    · exfalso; omega
  | succ k ih =>
    intro h s h0 hk hs hf hx
    refine zw_iload_n ok_Co_walkTo rfl rfl ?_
    refine zw_iload_n ok_Co_walkTo rfl rfl ?_
    refine zw_icmp_gt 24 ok_Co_walkTo rfl (by decide) (by omega) (fun h4 => ?_) (fun h4 => ?_)
    · exfalso; omega
    · refine zw_iload_n ok_Co_walkTo rfl rfl ?_
      refine zw_bipush ok_Co_walkTo rfl (by decide) ?_
      refine zw_icmp_ge 24 ok_Co_walkTo rfl (by decide) (by omega) (fun h10 => ?_) (fun h10 => ?_)
      · exfalso; omega
      · refine zw_aload_n ok_Co_walkTo rfl rfl ?_
        refine zw_iload_n ok_Co_walkTo rfl rfl ?_
        refine zw_Vvp ok_Co_walkTo rfl ok_Co_walkThrough lk_Co_111 (by decide) rfl rfl (Nat.le_of_ble_eq_true rfl) (ct_Co_walkThrough hP eP (by omega) hst hs hf) ?_
        refine zw_iinc ok_Co_walkTo rfl rfl rfl (by decide) ?_
        refine zw_goto 2 ok_Co_walkTo rfl (by decide) ?_
        exact ih (h + 1) _ (by omega) (by omega) (hourS_inv hP hs) (hourS_fh (by omega) hf) hx
theorem ct_Co_walkTo {P lh : Int} {s : zS} (hP : pInv P (mem 7) (mem 9)) (eP : mem 5 4 = P) (hlh : 0 ≤ lh ∧ lh ≤ 11) (hst : ∀ i, 0 ≤ i → i < 96 → -1 ≤ st i ∧ st i ≤ 7) (hs : sInv P s) (hf : -1 ≤ s.2.2.2.2.1 ∧ s.2.2.2.2.1 ≤ 11) : zCvp m_Co_walkTo [vr 24, vi lh] (putC mem (st, hd, df) s) (putC mem (st, hd, df) (walkS P (mem 7) (mem 9) st (fun h => zor (hd h) (mem 5 5)) (lh + 1).toNat s)) := by
  refine zCt.of [some (vr 24), some (vi lh), none] ok_Co_walkTo (Nat.le_of_ble_eq_true rfl) rfl ?_
  refine zw_iconst ok_Co_walkTo rfl ?_
  refine zw_istore_n ok_Co_walkTo rfl rfl (by decide) ?_
  exact walkTo_loop hP eP hlh hst (lh + 1).toNat 0 s (by omega) (by omega) hs hf ⟨rfl, rfl⟩
/-- the start of the hours -/
def begS (df d l : Int → Int) : zS := (zcpy df d 0 0 64, zfil 8 0 l, 0, 0, -1, -1)
theorem ct_Co_begin {s : zS} : zCvp m_Co_begin [vr 24] (putC mem (st, hd, df) s) (putC mem (st, hd, df) (begS df s.1 s.2.1)) := by
  obtain ⟨d, l, g, n, fh, fw⟩ := s
  refine zCt.of [some (vr 24)] ok_Co_begin (Nat.le_of_ble_eq_true rfl) rfl ?_
  refine zw_aload_n ok_Co_begin rfl rfl ?_
  refine zw_getr ok_Co_begin rfl fl_Co_18 rfl rfl ?_
  refine zw_iconst ok_Co_begin rfl ?_
  refine zw_aload_n ok_Co_begin rfl rfl ?_
  refine zw_getr ok_Co_begin rfl fl_Co_21 rfl rfl ?_
  refine zw_iconst ok_Co_begin rfl ?_
  refine zw_aload_n ok_Co_begin rfl rfl ?_
  refine zw_getr ok_Co_begin rfl fl_Co_21 rfl rfl ?_
  refine zw_alen ok_Co_begin rfl rfl (by decide) ?_
  refine zw_copy ok_Co_begin rfl la_Co_56 rfl rfl (by decide) ⟨by decide, Nat.le_of_ble_eq_true rfl⟩ ?_
  try simp only [rd_C9, rd_C10, rd_C11, rd_C12, rd_C25, rd_C26, rd_C27, rd_C28, rd_C29, rd_C_0, rd_C_1, rd_C_2, rd_C_3, rd_C_4, rd_C_5, rd_C_6, rd_C_7, rd_C_8, rd_C_9, rd_C_10, rd_C_11, rd_C_12, rd_C_13, rd_C_14, rd_C_15, rd_C_16, rd_C_17, rd_C_18, rd_C_19, rd_C_20, rd_C_21, rd_C_22, rd_C_23, rd_C_30, rd_C_31, rd_C_32, rd_C_33, rd_C_34, rd_C_35, rd_C_36, rd_C_37, rd_C_38, rd_C_39, rd_C_40, rd_C_41, rd_C_42, rd_C_43, rd_C_44, rd_C_45, rd_C_46, rd_C_47, rd_C_48, rd_C_49, rd_C_50, rd_C_51, rd_C_52, rd_C_53, rd_C_54, rd_C_55, rd_C_56, rd_C_57, rd_C_58, rd_C_59, rd_C_60, rd_C_61, rd_C_62, rd_C_63, rd_C_64, rd_C_65, wr_C9, wr_C10, wr_C11, wr_C12, wr_C25, wr_C26, wr_C27, wr_C28, wr_C29, wp_C25, wp_C26, wp_C27, wp_C28, wp_C29]
  refine zw_aload_n ok_Co_begin rfl rfl ?_
  refine zw_getr ok_Co_begin rfl fl_Co_24 rfl rfl ?_
  refine zw_iconst ok_Co_begin rfl ?_
  refine zw_Svp ok_Co_begin rfl ok_Jarr_fill_53178 lk_Co_62 (by decide) rfl (Nat.le_of_ble_eq_true rfl) (ct_Jarr_fill_53178 rfl) ?_
  simp only [rd_C9, rd_C10, rd_C11, rd_C12, rd_C25, rd_C26, rd_C27, rd_C28, rd_C29, rd_C_0, rd_C_1, rd_C_2, rd_C_3, rd_C_4, rd_C_5, rd_C_6, rd_C_7, rd_C_8, rd_C_9, rd_C_10, rd_C_11, rd_C_12, rd_C_13, rd_C_14, rd_C_15, rd_C_16, rd_C_17, rd_C_18, rd_C_19, rd_C_20, rd_C_21, rd_C_22, rd_C_23, rd_C_30, rd_C_31, rd_C_32, rd_C_33, rd_C_34, rd_C_35, rd_C_36, rd_C_37, rd_C_38, rd_C_39, rd_C_40, rd_C_41, rd_C_42, rd_C_43, rd_C_44, rd_C_45, rd_C_46, rd_C_47, rd_C_48, rd_C_49, rd_C_50, rd_C_51, rd_C_52, rd_C_53, rd_C_54, rd_C_55, rd_C_56, rd_C_57, rd_C_58, rd_C_59, rd_C_60, rd_C_61, rd_C_62, rd_C_63, rd_C_64, rd_C_65, wr_C9, wr_C10, wr_C11, wr_C12, wr_C25, wr_C26, wr_C27, wr_C28, wr_C29, wp_C25, wp_C26, wp_C27, wp_C28, wp_C29]
  refine zw_aload_n ok_Co_begin rfl rfl ?_
  refine zw_iconst ok_Co_begin rfl ?_
  refine zw_puti ok_Co_begin rfl fp_Co_99 rfl rfl ?_
  try simp only [rd_C9, rd_C10, rd_C11, rd_C12, rd_C25, rd_C26, rd_C27, rd_C28, rd_C29, rd_C_0, rd_C_1, rd_C_2, rd_C_3, rd_C_4, rd_C_5, rd_C_6, rd_C_7, rd_C_8, rd_C_9, rd_C_10, rd_C_11, rd_C_12, rd_C_13, rd_C_14, rd_C_15, rd_C_16, rd_C_17, rd_C_18, rd_C_19, rd_C_20, rd_C_21, rd_C_22, rd_C_23, rd_C_30, rd_C_31, rd_C_32, rd_C_33, rd_C_34, rd_C_35, rd_C_36, rd_C_37, rd_C_38, rd_C_39, rd_C_40, rd_C_41, rd_C_42, rd_C_43, rd_C_44, rd_C_45, rd_C_46, rd_C_47, rd_C_48, rd_C_49, rd_C_50, rd_C_51, rd_C_52, rd_C_53, rd_C_54, rd_C_55, rd_C_56, rd_C_57, rd_C_58, rd_C_59, rd_C_60, rd_C_61, rd_C_62, rd_C_63, rd_C_64, rd_C_65, wr_C9, wr_C10, wr_C11, wr_C12, wr_C25, wr_C26, wr_C27, wr_C28, wr_C29, wp_C25, wp_C26, wp_C27, wp_C28, wp_C29]
  refine zw_aload_n ok_Co_begin rfl rfl ?_
  refine zw_iconst ok_Co_begin rfl ?_
  refine zw_puti ok_Co_begin rfl fp_Co_102 rfl rfl ?_
  try simp only [rd_C9, rd_C10, rd_C11, rd_C12, rd_C25, rd_C26, rd_C27, rd_C28, rd_C29, rd_C_0, rd_C_1, rd_C_2, rd_C_3, rd_C_4, rd_C_5, rd_C_6, rd_C_7, rd_C_8, rd_C_9, rd_C_10, rd_C_11, rd_C_12, rd_C_13, rd_C_14, rd_C_15, rd_C_16, rd_C_17, rd_C_18, rd_C_19, rd_C_20, rd_C_21, rd_C_22, rd_C_23, rd_C_30, rd_C_31, rd_C_32, rd_C_33, rd_C_34, rd_C_35, rd_C_36, rd_C_37, rd_C_38, rd_C_39, rd_C_40, rd_C_41, rd_C_42, rd_C_43, rd_C_44, rd_C_45, rd_C_46, rd_C_47, rd_C_48, rd_C_49, rd_C_50, rd_C_51, rd_C_52, rd_C_53, rd_C_54, rd_C_55, rd_C_56, rd_C_57, rd_C_58, rd_C_59, rd_C_60, rd_C_61, rd_C_62, rd_C_63, rd_C_64, rd_C_65, wr_C9, wr_C10, wr_C11, wr_C12, wr_C25, wr_C26, wr_C27, wr_C28, wr_C29, wp_C25, wp_C26, wp_C27, wp_C28, wp_C29]
  refine zw_aload_n ok_Co_begin rfl rfl ?_
  refine zw_iconst ok_Co_begin rfl ?_
  refine zw_puti ok_Co_begin rfl fp_Co_105 rfl rfl ?_
  try simp only [rd_C9, rd_C10, rd_C11, rd_C12, rd_C25, rd_C26, rd_C27, rd_C28, rd_C29, rd_C_0, rd_C_1, rd_C_2, rd_C_3, rd_C_4, rd_C_5, rd_C_6, rd_C_7, rd_C_8, rd_C_9, rd_C_10, rd_C_11, rd_C_12, rd_C_13, rd_C_14, rd_C_15, rd_C_16, rd_C_17, rd_C_18, rd_C_19, rd_C_20, rd_C_21, rd_C_22, rd_C_23, rd_C_30, rd_C_31, rd_C_32, rd_C_33, rd_C_34, rd_C_35, rd_C_36, rd_C_37, rd_C_38, rd_C_39, rd_C_40, rd_C_41, rd_C_42, rd_C_43, rd_C_44, rd_C_45, rd_C_46, rd_C_47, rd_C_48, rd_C_49, rd_C_50, rd_C_51, rd_C_52, rd_C_53, rd_C_54, rd_C_55, rd_C_56, rd_C_57, rd_C_58, rd_C_59, rd_C_60, rd_C_61, rd_C_62, rd_C_63, rd_C_64, rd_C_65, wr_C9, wr_C10, wr_C11, wr_C12, wr_C25, wr_C26, wr_C27, wr_C28, wr_C29, wp_C25, wp_C26, wp_C27, wp_C28, wp_C29]
  refine zw_aload_n ok_Co_begin rfl rfl ?_
  refine zw_iconst ok_Co_begin rfl ?_
  refine zw_puti ok_Co_begin rfl fp_Co_108 rfl rfl ?_
  try simp only [rd_C9, rd_C10, rd_C11, rd_C12, rd_C25, rd_C26, rd_C27, rd_C28, rd_C29, rd_C_0, rd_C_1, rd_C_2, rd_C_3, rd_C_4, rd_C_5, rd_C_6, rd_C_7, rd_C_8, rd_C_9, rd_C_10, rd_C_11, rd_C_12, rd_C_13, rd_C_14, rd_C_15, rd_C_16, rd_C_17, rd_C_18, rd_C_19, rd_C_20, rd_C_21, rd_C_22, rd_C_23, rd_C_30, rd_C_31, rd_C_32, rd_C_33, rd_C_34, rd_C_35, rd_C_36, rd_C_37, rd_C_38, rd_C_39, rd_C_40, rd_C_41, rd_C_42, rd_C_43, rd_C_44, rd_C_45, rd_C_46, rd_C_47, rd_C_48, rd_C_49, rd_C_50, rd_C_51, rd_C_52, rd_C_53, rd_C_54, rd_C_55, rd_C_56, rd_C_57, rd_C_58, rd_C_59, rd_C_60, rd_C_61, rd_C_62, rd_C_63, rd_C_64, rd_C_65, wr_C9, wr_C10, wr_C11, wr_C12, wr_C25, wr_C26, wr_C27, wr_C28, wr_C29, wp_C25, wp_C26, wp_C27, wp_C28, wp_C29]
  exact zw_vret ok_Co_begin rfl rfl (⟨rfl, rfl⟩)
theorem begS_inv {P : Int} {d l : Int → Int} (hP : P ≤ 8) (h : ∀ a b, 0 ≤ a → a < b → b < P → (1 ≤ df (a * 8 + b) ∧ df (a * 8 + b) ≤ 109) ∨ (-109 ≤ df (a * 8 + b) ∧ df (a * 8 + b) ≤ -1)) : sInv P (begS df d l) := by
  refine ⟨fun a b h1 h2 h3 => ?_, fun p h1 h2 => ?_, Int.le_refl 0, (show (0 : Int) < 256 by decide)⟩
  · show (1 ≤ zcpy df d 0 0 64 (a * 8 + b) ∧ zcpy df d 0 0 64 (a * 8 + b) ≤ 109) ∨ (-109 ≤ zcpy df d 0 0 64 (a * 8 + b) ∧ zcpy df d 0 0 64 (a * 8 + b) ≤ -1)
    have e : zcpy df d 0 0 64 (a * 8 + b) = df (a * 8 + b) := by
      unfold zcpy
      rw [if_pos (by omega)]
      congr 1
      omega
    rw [e]
    exact h a b h1 h2 h3
  · show 0 ≤ zfil 8 0 l p ∧ zfil 8 0 l p ≤ 99
    unfold zfil
    rw [if_pos (by omega)]
    omega
end
