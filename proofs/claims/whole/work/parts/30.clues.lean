/-! ===== Clues ===== -/
/-- behind hour h all that was seen is so: k sights from i on -/
def asB (mem : zMem) (h : Int) (l : Int → Int) : Nat → Int → Bool
  | 0, _ => true
  | k + 1, i => if mem 21 i = h ∧ ¬ (mem 22 i < mem 5 4 ∧ l (mem 22 i) = mem 23 i) then false else asB mem h l k (i + 1)
/-- hour by hour while it is as seen -/
def coB (mem : zMem) (st un : Int → Int) : Nat → Int → zS → Bool × zS
  | 0, _, s => (true, s)
  | k + 1, h, s => if asB mem h (hourS (mem 5 4) (mem 7) (mem 9) st un h s).2.1 (mem 20 3).toNat 0 = true then coB mem st un k (h + 1) (hourS (mem 5 4) (mem 7) (mem 9) st un h s) else (false, hourS (mem 5 4) (mem 7) (mem 9) st un h s)
def sghC (mem : zMem) : Prop := (0 ≤ mem 20 3 ∧ mem 20 3 ≤ 8) ∧ ∀ i, 0 ≤ i → i < mem 20 3 → (0 ≤ mem 21 i ∧ mem 21 i ≤ 11) ∧ (0 ≤ mem 22 i ∧ mem 22 i ≤ 7) ∧ (0 ≤ mem 23 i ∧ mem 23 i ≤ 99)
section
variable {mem : zMem} {st hd df : Int → Int} {s : zS} {L : zL} {Q : Option zVal → zMem → Prop}
theorem as_loop {h : Int} (hS : sghC mem) (hP : 0 ≤ mem 5 4 ∧ mem 5 4 ≤ 8) (hh : 0 ≤ h ∧ h ≤ 11) (hs : sInv (mem 5 4) s) :
    ∀ (k : Nat) (i : Int), 0 ≤ i → i + k = mem 20 3 → Q (some (vi (bi (asB mem h s.2.1 k i)))) (putC mem L s) → AW m_Cl_isAsSeenBehind 2 [some (vr 35), some (vi h), some (vi i), none] [] (putC mem L s) Q := by
  obtain ⟨d, l, g, n, fh, fw⟩ := s
  have hl := hs.2.1
  dsimp only at hl ⊢
  intro k
  induction k with
  | zero =>
    intro i h0 hi hx
    have h20 := hS.1
    refine zw_iload_n ok_Cl_isAsSeenBehind rfl rfl ?_
    refine zw_aload_n ok_Cl_isAsSeenBehind rfl rfl ?_
    refine zw_getr ok_Cl_isAsSeenBehind rfl fl_Cl_19 rfl rfl ?_
    refine zw_geti ok_Cl_isAsSeenBehind rfl fl_Cl_28 rfl rfl ?_
    try simp only [rd_C9, rd_C10, rd_C11, rd_C12, rd_C25, rd_C26, rd_C27, rd_C28, rd_C29, rd_C_0, rd_C_1, rd_C_2, rd_C_3, rd_C_4, rd_C_5, rd_C_6, rd_C_7, rd_C_8, rd_C_9, rd_C_10, rd_C_11, rd_C_12, rd_C_13, rd_C_14, rd_C_15, rd_C_16, rd_C_17, rd_C_18, rd_C_19, rd_C_20, rd_C_21, rd_C_22, rd_C_23, rd_C_30, rd_C_31, rd_C_32, rd_C_33, rd_C_34, rd_C_35, rd_C_36, rd_C_37, rd_C_38, rd_C_39, rd_C_40, rd_C_41, rd_C_42, rd_C_43, rd_C_44, rd_C_45, rd_C_46, rd_C_47, rd_C_48, rd_C_49, rd_C_50, rd_C_51, rd_C_52, rd_C_53, rd_C_54, rd_C_55, rd_C_56, rd_C_57, rd_C_58, rd_C_59, rd_C_60, rd_C_61, rd_C_62, rd_C_63, rd_C_64, rd_C_65, wr_C9, wr_C10, wr_C11, wr_C12, wr_C25, wr_C26, wr_C27, wr_C28, wr_C29, wp_C25, wp_C26, wp_C27, wp_C28, wp_C29]
    refine zw_icmp_ge 79 ok_Cl_isAsSeenBehind rfl (by decide) (by omega) (fun h10 => ?_) (fun h10 => ?_)
    · refine zw_iconst ok_Cl_isAsSeenBehind rfl ?_
      exact zw_zret ok_Cl_isAsSeenBehind rfl rfl (by first | exact Or.inl rfl | exact Or.inr rfl | exact bi01 _) (hx)
    · exfalso; omega
  | succ k ih =>
    intro i h0 hi hx
    have h20 := hS.1
    have q := hS.2 i h0 (by omega)
    unfold asB at hx
    have next : ¬ (mem 21 i = h ∧ ¬ (mem 22 i < mem 5 4 ∧ l (mem 22 i) = mem 23 i)) → AW m_Cl_isAsSeenBehind 73 [some (vr 35), some (vi h), some (vi i), none] [] (putC mem L (d, l, g, n, fh, fw)) Q := by
      intro hn
      rw [if_neg hn] at hx
      refine zw_iinc ok_Cl_isAsSeenBehind rfl rfl rfl (by decide) ?_
      refine zw_goto 2 ok_Cl_isAsSeenBehind rfl (by decide) ?_
      exact ih (i + 1) (by omega) (by omega) hx
    refine zw_iload_n ok_Cl_isAsSeenBehind rfl rfl ?_
    refine zw_aload_n ok_Cl_isAsSeenBehind rfl rfl ?_
    refine zw_getr ok_Cl_isAsSeenBehind rfl fl_Cl_19 rfl rfl ?_
    refine zw_geti ok_Cl_isAsSeenBehind rfl fl_Cl_28 rfl rfl ?_
    try simp only [rd_C9, rd_C10, rd_C11, rd_C12, rd_C25, rd_C26, rd_C27, rd_C28, rd_C29, rd_C_0, rd_C_1, rd_C_2, rd_C_3, rd_C_4, rd_C_5, rd_C_6, rd_C_7, rd_C_8, rd_C_9, rd_C_10, rd_C_11, rd_C_12, rd_C_13, rd_C_14, rd_C_15, rd_C_16, rd_C_17, rd_C_18, rd_C_19, rd_C_20, rd_C_21, rd_C_22, rd_C_23, rd_C_30, rd_C_31, rd_C_32, rd_C_33, rd_C_34, rd_C_35, rd_C_36, rd_C_37, rd_C_38, rd_C_39, rd_C_40, rd_C_41, rd_C_42, rd_C_43, rd_C_44, rd_C_45, rd_C_46, rd_C_47, rd_C_48, rd_C_49, rd_C_50, rd_C_51, rd_C_52, rd_C_53, rd_C_54, rd_C_55, rd_C_56, rd_C_57, rd_C_58, rd_C_59, rd_C_60, rd_C_61, rd_C_62, rd_C_63, rd_C_64, rd_C_65, wr_C9, wr_C10, wr_C11, wr_C12, wr_C25, wr_C26, wr_C27, wr_C28, wr_C29, wp_C25, wp_C26, wp_C27, wp_C28, wp_C29]
    refine zw_icmp_ge 79 ok_Cl_isAsSeenBehind rfl (by decide) (by omega) (fun h10 => ?_) (fun h10 => ?_)
    · exfalso; omega
    · refine zw_aload_n ok_Cl_isAsSeenBehind rfl rfl ?_
      refine zw_getr ok_Cl_isAsSeenBehind rfl fl_Cl_19 rfl rfl ?_
      refine zw_getr ok_Cl_isAsSeenBehind rfl fl_Cl_80 rfl rfl ?_
      refine zw_iload_n ok_Cl_isAsSeenBehind rfl rfl ?_
      refine zw_iald ok_Cl_isAsSeenBehind rfl rfl (by omega) ?_
      try simp only [rd_C9, rd_C10, rd_C11, rd_C12, rd_C25, rd_C26, rd_C27, rd_C28, rd_C29, rd_C_0, rd_C_1, rd_C_2, rd_C_3, rd_C_4, rd_C_5, rd_C_6, rd_C_7, rd_C_8, rd_C_9, rd_C_10, rd_C_11, rd_C_12, rd_C_13, rd_C_14, rd_C_15, rd_C_16, rd_C_17, rd_C_18, rd_C_19, rd_C_20, rd_C_21, rd_C_22, rd_C_23, rd_C_30, rd_C_31, rd_C_32, rd_C_33, rd_C_34, rd_C_35, rd_C_36, rd_C_37, rd_C_38, rd_C_39, rd_C_40, rd_C_41, rd_C_42, rd_C_43, rd_C_44, rd_C_45, rd_C_46, rd_C_47, rd_C_48, rd_C_49, rd_C_50, rd_C_51, rd_C_52, rd_C_53, rd_C_54, rd_C_55, rd_C_56, rd_C_57, rd_C_58, rd_C_59, rd_C_60, rd_C_61, rd_C_62, rd_C_63, rd_C_64, rd_C_65, wr_C9, wr_C10, wr_C11, wr_C12, wr_C25, wr_C26, wr_C27, wr_C28, wr_C29, wp_C25, wp_C26, wp_C27, wp_C28, wp_C29]
      refine zw_istore_n ok_Cl_isAsSeenBehind rfl rfl (by decide) ?_
      refine zw_aload_n ok_Cl_isAsSeenBehind rfl rfl ?_
      refine zw_getr ok_Cl_isAsSeenBehind rfl fl_Cl_19 rfl rfl ?_
      refine zw_getr ok_Cl_isAsSeenBehind rfl fl_Cl_83 rfl rfl ?_
      refine zw_iload_n ok_Cl_isAsSeenBehind rfl rfl ?_
      refine zw_iald ok_Cl_isAsSeenBehind rfl rfl (by omega) ?_
      try simp only [rd_C9, rd_C10, rd_C11, rd_C12, rd_C25, rd_C26, rd_C27, rd_C28, rd_C29, rd_C_0, rd_C_1, rd_C_2, rd_C_3, rd_C_4, rd_C_5, rd_C_6, rd_C_7, rd_C_8, rd_C_9, rd_C_10, rd_C_11, rd_C_12, rd_C_13, rd_C_14, rd_C_15, rd_C_16, rd_C_17, rd_C_18, rd_C_19, rd_C_20, rd_C_21, rd_C_22, rd_C_23, rd_C_30, rd_C_31, rd_C_32, rd_C_33, rd_C_34, rd_C_35, rd_C_36, rd_C_37, rd_C_38, rd_C_39, rd_C_40, rd_C_41, rd_C_42, rd_C_43, rd_C_44, rd_C_45, rd_C_46, rd_C_47, rd_C_48, rd_C_49, rd_C_50, rd_C_51, rd_C_52, rd_C_53, rd_C_54, rd_C_55, rd_C_56, rd_C_57, rd_C_58, rd_C_59, rd_C_60, rd_C_61, rd_C_62, rd_C_63, rd_C_64, rd_C_65, wr_C9, wr_C10, wr_C11, wr_C12, wr_C25, wr_C26, wr_C27, wr_C28, wr_C29, wp_C25, wp_C26, wp_C27, wp_C28, wp_C29]
      refine zw_iload_n ok_Cl_isAsSeenBehind rfl rfl ?_
      refine zw_icmp_ne 73 ok_Cl_isAsSeenBehind rfl (by decide) (by omega) (fun h33 => ?_) (fun h33 => ?_)
      · refine zw_mask [true, true, true, false] rfl ?_
        exact next (fun z => h33 z.1)
      · refine zw_iload_n ok_Cl_isAsSeenBehind rfl rfl ?_
        refine zw_aload_n ok_Cl_isAsSeenBehind rfl rfl ?_
        refine zw_getr ok_Cl_isAsSeenBehind rfl fl_Cl_15 rfl rfl ?_
        refine zw_getr ok_Cl_isAsSeenBehind rfl fl_Cl_58 rfl rfl ?_
        refine zw_geti ok_Cl_isAsSeenBehind rfl fl_Cl_62 rfl rfl ?_
        try simp only [rd_C9, rd_C10, rd_C11, rd_C12, rd_C25, rd_C26, rd_C27, rd_C28, rd_C29, rd_C_0, rd_C_1, rd_C_2, rd_C_3, rd_C_4, rd_C_5, rd_C_6, rd_C_7, rd_C_8, rd_C_9, rd_C_10, rd_C_11, rd_C_12, rd_C_13, rd_C_14, rd_C_15, rd_C_16, rd_C_17, rd_C_18, rd_C_19, rd_C_20, rd_C_21, rd_C_22, rd_C_23, rd_C_30, rd_C_31, rd_C_32, rd_C_33, rd_C_34, rd_C_35, rd_C_36, rd_C_37, rd_C_38, rd_C_39, rd_C_40, rd_C_41, rd_C_42, rd_C_43, rd_C_44, rd_C_45, rd_C_46, rd_C_47, rd_C_48, rd_C_49, rd_C_50, rd_C_51, rd_C_52, rd_C_53, rd_C_54, rd_C_55, rd_C_56, rd_C_57, rd_C_58, rd_C_59, rd_C_60, rd_C_61, rd_C_62, rd_C_63, rd_C_64, rd_C_65, wr_C9, wr_C10, wr_C11, wr_C12, wr_C25, wr_C26, wr_C27, wr_C28, wr_C29, wp_C25, wp_C26, wp_C27, wp_C28, wp_C29]
        refine zw_icmp_ge 71 ok_Cl_isAsSeenBehind rfl (by decide) (by omega) (fun h47 => ?_) (fun h47 => ?_)
        · refine zw_iconst ok_Cl_isAsSeenBehind rfl ?_
          exact zw_zret ok_Cl_isAsSeenBehind rfl rfl (by first | exact Or.inl rfl | exact Or.inr rfl | exact bi01 _) ((by rw [if_pos ⟨h33, fun z => by omega⟩] at hx; exact hx))
        · have ql := hl (mem 22 i) (by omega) (by omega)
          refine zw_aload_n ok_Cl_isAsSeenBehind rfl rfl ?_
          refine zw_getr ok_Cl_isAsSeenBehind rfl fl_Cl_15 rfl rfl ?_
          refine zw_getr ok_Cl_isAsSeenBehind rfl fl_Cl_42 rfl rfl ?_
          refine zw_iload_n ok_Cl_isAsSeenBehind rfl rfl ?_
          refine zw_iald ok_Cl_isAsSeenBehind rfl rfl (by omega) ?_
          try simp only [rd_C9, rd_C10, rd_C11, rd_C12, rd_C25, rd_C26, rd_C27, rd_C28, rd_C29, rd_C_0, rd_C_1, rd_C_2, rd_C_3, rd_C_4, rd_C_5, rd_C_6, rd_C_7, rd_C_8, rd_C_9, rd_C_10, rd_C_11, rd_C_12, rd_C_13, rd_C_14, rd_C_15, rd_C_16, rd_C_17, rd_C_18, rd_C_19, rd_C_20, rd_C_21, rd_C_22, rd_C_23, rd_C_30, rd_C_31, rd_C_32, rd_C_33, rd_C_34, rd_C_35, rd_C_36, rd_C_37, rd_C_38, rd_C_39, rd_C_40, rd_C_41, rd_C_42, rd_C_43, rd_C_44, rd_C_45, rd_C_46, rd_C_47, rd_C_48, rd_C_49, rd_C_50, rd_C_51, rd_C_52, rd_C_53, rd_C_54, rd_C_55, rd_C_56, rd_C_57, rd_C_58, rd_C_59, rd_C_60, rd_C_61, rd_C_62, rd_C_63, rd_C_64, rd_C_65, wr_C9, wr_C10, wr_C11, wr_C12, wr_C25, wr_C26, wr_C27, wr_C28, wr_C29, wp_C25, wp_C26, wp_C27, wp_C28, wp_C29]
          refine zw_aload_n ok_Cl_isAsSeenBehind rfl rfl ?_
          refine zw_getr ok_Cl_isAsSeenBehind rfl fl_Cl_19 rfl rfl ?_
          refine zw_getr ok_Cl_isAsSeenBehind rfl fl_Cl_86 rfl rfl ?_
          refine zw_iload_n ok_Cl_isAsSeenBehind rfl rfl ?_
          refine zw_iald ok_Cl_isAsSeenBehind rfl rfl (by omega) ?_
          try simp only [rd_C9, rd_C10, rd_C11, rd_C12, rd_C25, rd_C26, rd_C27, rd_C28, rd_C29, rd_C_0, rd_C_1, rd_C_2, rd_C_3, rd_C_4, rd_C_5, rd_C_6, rd_C_7, rd_C_8, rd_C_9, rd_C_10, rd_C_11, rd_C_12, rd_C_13, rd_C_14, rd_C_15, rd_C_16, rd_C_17, rd_C_18, rd_C_19, rd_C_20, rd_C_21, rd_C_22, rd_C_23, rd_C_30, rd_C_31, rd_C_32, rd_C_33, rd_C_34, rd_C_35, rd_C_36, rd_C_37, rd_C_38, rd_C_39, rd_C_40, rd_C_41, rd_C_42, rd_C_43, rd_C_44, rd_C_45, rd_C_46, rd_C_47, rd_C_48, rd_C_49, rd_C_50, rd_C_51, rd_C_52, rd_C_53, rd_C_54, rd_C_55, rd_C_56, rd_C_57, rd_C_58, rd_C_59, rd_C_60, rd_C_61, rd_C_62, rd_C_63, rd_C_64, rd_C_65, wr_C9, wr_C10, wr_C11, wr_C12, wr_C25, wr_C26, wr_C27, wr_C28, wr_C29, wp_C25, wp_C26, wp_C27, wp_C28, wp_C29]
          refine zw_icmp_eq 73 ok_Cl_isAsSeenBehind rfl (by decide) (by omega) (fun h68 => ?_) (fun h68 => ?_)
          · refine zw_mask [true, true, true, false] rfl ?_
            exact next (fun z => z.2 ⟨by omega, h68⟩)
          · refine zw_iconst ok_Cl_isAsSeenBehind rfl ?_
            exact zw_zret ok_Cl_isAsSeenBehind rfl rfl (by first | exact Or.inl rfl | exact Or.inr rfl | exact bi01 _) ((by rw [if_pos ⟨h33, fun z => by omega⟩] at hx; exact hx))
theorem ct_Cl_isAsSeenBehind {h : Int} (hS : sghC mem) (hP : 0 ≤ mem 5 4 ∧ mem 5 4 ≤ 8) (hh : 0 ≤ h ∧ h ≤ 11) (hs : sInv (mem 5 4) s) : zCbp m_Cl_isAsSeenBehind [vr 35, vi h] (putC mem L s) (asB mem h s.2.1 (mem 20 3).toNat 0) := by
  refine zCt.of [some (vr 35), some (vi h), none, none] ok_Cl_isAsSeenBehind (Nat.le_of_ble_eq_true rfl) rfl ?_
  have h20 := hS.1
  refine zw_iconst ok_Cl_isAsSeenBehind rfl ?_
  refine zw_istore_n ok_Cl_isAsSeenBehind rfl rfl (by decide) ?_
  exact as_loop hS hP hh hs (mem 20 3).toNat 0 (by omega) (by omega) ⟨rfl, rfl⟩
theorem co_loop (hC : okC mem) (hS : sghC mem) (hst : ∀ i, 0 ≤ i → i < 96 → -1 ≤ st i ∧ st i ≤ 7) :
    ∀ (k : Nat) (h : Int) (s : zS), 0 ≤ h → h + k = 12 → sInv (mem 5 4) s → (-1 ≤ s.2.2.2.2.1 ∧ s.2.2.2.2.1 ≤ 11) → Q (some (vi (bi (coB mem st (fun h => zor (hd h) (mem 5 5)) k h s).1))) (putC mem (st, hd, df) (coB mem st (fun h => zor (hd h) (mem 5 5)) k h s).2) → AW m_Cl_comesOutAsSeen 11 [some (vr 35), some (vi (bi true)), some (vi h)] [] (putC mem (st, hd, df) s) Q := by
  intro k
  induction k with
  | zero =>
    intro h s h0 hk hs hf hx
    refine zw_iload_n ok_Cl_comesOutAsSeen rfl rfl ?_
    refine zw_bipush ok_Cl_comesOutAsSeen rfl (by decide) ?_
    refine zw_icmp_ge 41 ok_Cl_comesOutAsSeen rfl (by decide) (by omega) (fun h14 => ?_) (fun h14 => ?_)
    · refine zw_iload_n ok_Cl_comesOutAsSeen rfl rfl ?_
      exact zw_zret ok_Cl_comesOutAsSeen rfl rfl (by first | exact Or.inl rfl | exact Or.inr rfl | exact bi01 _) (hx)
    · exfalso; omega
  | succ k ih =>
    intro h s h0 hk hs hf hx
    unfold coB at hx
    have hs2 := hourS_inv (st := st) (un := fun h => zor (hd h) (mem 5 5)) (h := h) hC.2.1 hs
    have hf2 := hourS_fh (P := mem 5 4) (can := mem 7) (step := mem 9) (st := st) (un := fun h => zor (hd h) (mem 5 5)) (h := h) (by omega) hf
    have ex : Q (some (vi (bi false))) (putC mem (st, hd, df) (hourS (mem 5 4) (mem 7) (mem 9) st (fun h => zor (hd h) (mem 5 5)) h s)) → AW m_Cl_comesOutAsSeen 11 [some (vr 35), some (vi (bi false)), some (vi (h + 1))] [] (putC mem (st, hd, df) (hourS (mem 5 4) (mem 7) (mem 9) st (fun h => zor (hd h) (mem 5 5)) h s)) Q := by
      intro hq
      refine zw_iload_n ok_Cl_comesOutAsSeen rfl rfl ?_
      refine zw_bipush ok_Cl_comesOutAsSeen rfl (by decide) ?_
      refine zw_icmp_ge 41 ok_Cl_comesOutAsSeen rfl (by decide) (by omega) (fun h14 => ?_) (fun h14 => ?_)
      · refine zw_iload_n ok_Cl_comesOutAsSeen rfl rfl ?_
        exact zw_zret ok_Cl_comesOutAsSeen rfl rfl (by first | exact Or.inl rfl | exact Or.inr rfl | exact bi01 _) (hq)
      · refine zw_iload_n ok_Cl_comesOutAsSeen rfl rfl ?_
        first | refine zw_ifeq_d 41 ok_Cl_comesOutAsSeen rfl (by decide) (fun h18 => ?_) (fun h18 => ?_) | refine zw_ifeq_b 41 ok_Cl_comesOutAsSeen rfl (by decide) (fun h18 => ?_) (fun h18 => ?_) | refine zw_if_eq 41 ok_Cl_comesOutAsSeen rfl (by decide) (by omega) (fun h18 => ?_) (fun h18 => ?_)
        · refine zw_iload_n ok_Cl_comesOutAsSeen rfl rfl ?_
          exact zw_zret ok_Cl_comesOutAsSeen rfl rfl (by first | exact Or.inl rfl | exact Or.inr rfl | exact bi01 _) (hq)
        · cases h18
    refine zw_iload_n ok_Cl_comesOutAsSeen rfl rfl ?_
    refine zw_bipush ok_Cl_comesOutAsSeen rfl (by decide) ?_
    refine zw_icmp_ge 41 ok_Cl_comesOutAsSeen rfl (by decide) (by omega) (fun h14 => ?_) (fun h14 => ?_)
    · exfalso; omega
    · refine zw_iload_n ok_Cl_comesOutAsSeen rfl rfl ?_
      first | refine zw_ifeq_d 41 ok_Cl_comesOutAsSeen rfl (by decide) (fun h18 => ?_) (fun h18 => ?_) | refine zw_ifeq_b 41 ok_Cl_comesOutAsSeen rfl (by decide) (fun h18 => ?_) (fun h18 => ?_) | refine zw_if_eq 41 ok_Cl_comesOutAsSeen rfl (by decide) (by omega) (fun h18 => ?_) (fun h18 => ?_)
      · cases h18
      · refine zw_aload_n ok_Cl_comesOutAsSeen rfl rfl ?_
        refine zw_getr ok_Cl_comesOutAsSeen rfl fl_Cl_15 rfl rfl ?_
        refine zw_iload_n ok_Cl_comesOutAsSeen rfl rfl ?_
        refine zw_Vvp ok_Cl_comesOutAsSeen rfl ok_Co_walkThrough lk_Cl_72 (by decide) rfl rfl (Nat.le_of_ble_eq_true rfl) (ct_Co_walkThrough hC.2.1 rfl (by omega) hst hs hf) ?_
        refine zw_aload_n ok_Cl_comesOutAsSeen rfl rfl ?_
        refine zw_iload_n ok_Cl_comesOutAsSeen rfl rfl ?_
        refine zw_Vbp ok_Cl_comesOutAsSeen rfl ok_Cl_isAsSeenBehind lk_Cl_76 (by decide) rfl rfl (Nat.le_of_ble_eq_true rfl) (ct_Cl_isAsSeenBehind hS hC.1.1 (by omega) hs2) ?_
        refine zw_istore_n ok_Cl_comesOutAsSeen rfl rfl (by decide) ?_
        refine zw_iinc ok_Cl_comesOutAsSeen rfl rfl rfl (by decide) ?_
        refine zw_goto 11 ok_Cl_comesOutAsSeen rfl (by decide) ?_
        cases hb : asB mem h (hourS (mem 5 4) (mem 7) (mem 9) st (fun h => zor (hd h) (mem 5 5)) h s).2.1 (mem 20 3).toNat 0
        · rw [if_neg (by rw [hb]; decide)] at hx
          exact ex hx
        · rw [if_pos hb] at hx
          exact ih (h + 1) _ (by omega) (by omega) hs2 hf2 hx
theorem ct_Cl_comesOutAsSeen (hC : okC mem) (hS : sghC mem) (hst : ∀ i, 0 ≤ i → i < 96 → -1 ≤ st i ∧ st i ≤ 7) (hdf : dfI (mem 5 4) df) : zCb m_Cl_comesOutAsSeen [vr 35] (putC mem (st, hd, df) s) (coB mem st (fun h => zor (hd h) (mem 5 5)) 12 0 (begS df s.1 s.2.1)).1 (fun m2 => m2 = putC mem (st, hd, df) (coB mem st (fun h => zor (hd h) (mem 5 5)) 12 0 (begS df s.1 s.2.1)).2) := by
  refine zCt.of [some (vr 35), none, none] ok_Cl_comesOutAsSeen (Nat.le_of_ble_eq_true rfl) rfl ?_
  refine zw_iconst ok_Cl_comesOutAsSeen rfl ?_
  refine zw_istore_n ok_Cl_comesOutAsSeen rfl rfl (by decide) ?_
  refine zw_aload_n ok_Cl_comesOutAsSeen rfl rfl ?_
  refine zw_getr ok_Cl_comesOutAsSeen rfl fl_Cl_15 rfl rfl ?_
  refine zw_Vvp ok_Cl_comesOutAsSeen rfl ok_Co_begin lk_Cl_69 (by decide) rfl rfl (Nat.le_of_ble_eq_true rfl) (ct_Co_begin) ?_
  refine zw_iconst ok_Cl_comesOutAsSeen rfl ?_
  refine zw_istore_n ok_Cl_comesOutAsSeen rfl rfl (by decide) ?_
  exact co_loop hC hS hst 12 0 _ (by omega) (by omega) (begS_inv hC.2.1.2.1 hdf) ⟨Int.le_refl _, (show (-1 : Int) ≤ 11 by decide)⟩ ⟨rfl, rfl⟩
theorem asB_of {mem m2 : zMem} (h : ∀ k, k < 24 → m2 k = mem k) (hh : Int) (l : Int → Int) : ∀ (k : Nat) (i : Int), asB m2 hh l k i = asB mem hh l k i
  | 0, _ => rfl
  | k + 1, i => by
    unfold asB
    rw [h 21 (by omega), h 22 (by omega), h 23 (by omega), h 5 (by omega), asB_of h hh l k (i + 1)]
theorem coB_of {mem m2 : zMem} (h : ∀ k, k < 24 → m2 k = mem k) (st un : Int → Int) : ∀ (k : Nat) (i : Int) (s : zS), coB m2 st un k i s = coB mem st un k i s
  | 0, _, _ => rfl
  | k + 1, i, s => by
    unfold coB
    rw [h 5 (by omega), h 7 (by omega), h 9 (by omega), h 20 (by omega), asB_of h, coB_of h st un k (i + 1)]
/-- the bits of those that hold -/
def bitsS (nv : Int → Bool) (k : Int) (b : Int) : Int := if nv k = true then zor b (zshl 1 k) else b
/-- without old bow k: as seen or not, and how low each then bows -/
def nvC (mem : zMem) (ol ll : Int) (b : Bool) (lw : Int → Int) : Prop := ∀ (L : zL) (d l : Int → Int), (coB mem (layS mem ol ll L).1 (fun h => zor ((layS mem ol ll L).2.1 h) (mem 5 5)) 12 0 (begS (layS mem ol ll L).2.2 d l)).1 = b ∧ (b = true → ∀ p, 0 ≤ p → p < mem 5 4 → (coB mem (layS mem ol ll L).1 (fun h => zor ((layS mem ol ll L).2.1 h) (mem 5 5)) 12 0 (begS (layS mem ol ll L).2.2 d l)).2.2.1 p = lw p)
theorem old_loop {nv : Int → Bool} {lw : Int → Int → Int} (hC : okC mem) (hS : sghC mem) (hnv : ∀ k, 0 ≤ k → k < mem 12 3 → nvC mem k 0 (nv k) (lw k)) :
    ∀ (k : Nat) (j b : Int) (f : Int → Int) (L : zL) (s : zS), 0 ≤ j → j + k = mem 12 3 → (∀ i p, 0 ≤ i → i < j → nv i = true → 0 ≤ p → p < mem 5 4 → f (i * 8 + p) = lw i p) → (∀ f L s, (∀ i p, 0 ≤ i → i < mem 12 3 → nv i = true → 0 ≤ p → p < mem 5 4 → f (i * 8 + p) = lw i p) → Q (some (vi (lp (bitsS nv) k j b))) (putC (zput mem 36 f) L s)) → AW m_Cl_oldBowsThatNeverWere 4 [some (vr 35), some (vi b), some (vi j)] [] (putC (zput mem 36 f) L s) Q := by
  have h12 := hC.1.2.2.2.2.1
  intro k
  induction k with
  | zero =>
    intro j b f L s h0 hj hf hx
    refine zw_iload_n ok_Cl_oldBowsThatNeverWere rfl rfl ?_
    refine zw_aload_n ok_Cl_oldBowsThatNeverWere rfl rfl ?_
    refine zw_getr ok_Cl_oldBowsThatNeverWere rfl fl_Cl_15 rfl rfl ?_
    refine zw_getr ok_Cl_oldBowsThatNeverWere rfl fl_Cl_23 rfl rfl ?_
    refine zw_geti ok_Cl_oldBowsThatNeverWere rfl fl_Cl_28 rfl rfl ?_
    try simp only [rd_C9, rd_C10, rd_C11, rd_C12, rd_C25, rd_C26, rd_C27, rd_C28, rd_C29, rd_C_0, rd_C_1, rd_C_2, rd_C_3, rd_C_4, rd_C_5, rd_C_6, rd_C_7, rd_C_8, rd_C_9, rd_C_10, rd_C_11, rd_C_12, rd_C_13, rd_C_14, rd_C_15, rd_C_16, rd_C_17, rd_C_18, rd_C_19, rd_C_20, rd_C_21, rd_C_22, rd_C_23, rd_C_30, rd_C_31, rd_C_32, rd_C_33, rd_C_34, rd_C_35, rd_C_36, rd_C_37, rd_C_38, rd_C_39, rd_C_40, rd_C_41, rd_C_42, rd_C_43, rd_C_44, rd_C_45, rd_C_46, rd_C_47, rd_C_48, rd_C_49, rd_C_50, rd_C_51, rd_C_52, rd_C_53, rd_C_54, rd_C_55, rd_C_56, rd_C_57, rd_C_58, rd_C_59, rd_C_60, rd_C_61, rd_C_62, rd_C_63, rd_C_64, rd_C_65, wr_C9, wr_C10, wr_C11, wr_C12, wr_C25, wr_C26, wr_C27, wr_C28, wr_C29, wp_C25, wp_C26, wp_C27, wp_C28, wp_C29, zput_ne (show (12 : Nat) ≠ 36 by decide)]
    refine zw_icmp_ge 67 ok_Cl_oldBowsThatNeverWere rfl (by decide) (by omega) (fun h15 => ?_) (fun h15 => ?_)
    · refine zw_iload_n ok_Cl_oldBowsThatNeverWere rfl rfl ?_
      exact zw_iret ok_Cl_oldBowsThatNeverWere rfl rfl (hx f L s (fun i p q1 q2 => hf i p q1 (by omega)))
    · exfalso; omega
  | succ k ih =>
    intro j b f L s h0 hj hf hx
    have lo : ∀ q, q < 24 → zput mem 36 f q = mem q := fun q hq => zput_ne (by omega)
    have hC1 := okC_of lo hC
    have hS1 : sghC (zput mem 36 f) := hS
    obtain ⟨st0, hd0, df0⟩ := L
    have hst := layS_st (ol := j) (ll := 0) (L := (st0, hd0, df0)) hC
    have hdf := layS_df (ol := j) (ll := 0) (L := (st0, hd0, df0)) hC
    have eL := layS_of lo j 0 (st0, hd0, df0)
    have hnj := hnv j h0 (by omega) (st0, hd0, df0) s.1 s.2.1
    have hP8 := hC.2.1.2.1
    generalize layS mem j 0 (st0, hd0, df0) = L1 at hst hdf eL hnj
    obtain ⟨st, hd, df⟩ := L1
    dsimp only at hst hdf hnj
    have hdf1 : dfI (zput mem 36 f 5 4) df := hdf
    rw [lp_s] at hx
    have next : ∀ b2 f2 s2, b2 = bitsS nv j b → (∀ i p, 0 ≤ i → i < j + 1 → nv i = true → 0 ≤ p → p < mem 5 4 → f2 (i * 8 + p) = lw i p) → AW m_Cl_oldBowsThatNeverWere 61 [some (vr 35), some (vi b2), some (vi j)] [] (putC (zput mem 36 f2) (st, hd, df) s2) Q := by
      intro b2 f2 s2 hb2 hf2
      subst hb2
      refine zw_iinc ok_Cl_oldBowsThatNeverWere rfl rfl rfl (by decide) ?_
      refine zw_goto 4 ok_Cl_oldBowsThatNeverWere rfl (by decide) ?_
      exact ih (j + 1) _ f2 _ _ (by omega) (by omega) hf2 hx
    unfold bitsS at next
    refine zw_iload_n ok_Cl_oldBowsThatNeverWere rfl rfl ?_
    refine zw_aload_n ok_Cl_oldBowsThatNeverWere rfl rfl ?_
    refine zw_getr ok_Cl_oldBowsThatNeverWere rfl fl_Cl_15 rfl rfl ?_
    refine zw_getr ok_Cl_oldBowsThatNeverWere rfl fl_Cl_23 rfl rfl ?_
    refine zw_geti ok_Cl_oldBowsThatNeverWere rfl fl_Cl_28 rfl rfl ?_
    try simp only [rd_C9, rd_C10, rd_C11, rd_C12, rd_C25, rd_C26, rd_C27, rd_C28, rd_C29, rd_C_0, rd_C_1, rd_C_2, rd_C_3, rd_C_4, rd_C_5, rd_C_6, rd_C_7, rd_C_8, rd_C_9, rd_C_10, rd_C_11, rd_C_12, rd_C_13, rd_C_14, rd_C_15, rd_C_16, rd_C_17, rd_C_18, rd_C_19, rd_C_20, rd_C_21, rd_C_22, rd_C_23, rd_C_30, rd_C_31, rd_C_32, rd_C_33, rd_C_34, rd_C_35, rd_C_36, rd_C_37, rd_C_38, rd_C_39, rd_C_40, rd_C_41, rd_C_42, rd_C_43, rd_C_44, rd_C_45, rd_C_46, rd_C_47, rd_C_48, rd_C_49, rd_C_50, rd_C_51, rd_C_52, rd_C_53, rd_C_54, rd_C_55, rd_C_56, rd_C_57, rd_C_58, rd_C_59, rd_C_60, rd_C_61, rd_C_62, rd_C_63, rd_C_64, rd_C_65, wr_C9, wr_C10, wr_C11, wr_C12, wr_C25, wr_C26, wr_C27, wr_C28, wr_C29, wp_C25, wp_C26, wp_C27, wp_C28, wp_C29, zput_ne (show (12 : Nat) ≠ 36 by decide)]
    refine zw_icmp_ge 67 ok_Cl_oldBowsThatNeverWere rfl (by decide) (by omega) (fun h15 => ?_) (fun h15 => ?_)
    · exfalso; omega
    · refine zw_aload_n ok_Cl_oldBowsThatNeverWere rfl rfl ?_
      refine zw_getr ok_Cl_oldBowsThatNeverWere rfl fl_Cl_15 rfl rfl ?_
      refine zw_iload_n ok_Cl_oldBowsThatNeverWere rfl rfl ?_
      refine zw_iconst ok_Cl_oldBowsThatNeverWere rfl ?_
      refine zw_Vvp ok_Cl_oldBowsThatNeverWere rfl ok_Co_layOut lk_Cl_34 (by decide) rfl rfl (Nat.le_of_ble_eq_true rfl) (ct_Co_layOut hC1.1 (by omega)) ?_
      rw [eL]
      refine zw_aload_n ok_Cl_oldBowsThatNeverWere rfl rfl ?_
      refine zw_Vb ok_Cl_oldBowsThatNeverWere rfl ok_Cl_comesOutAsSeen lk_Cl_38 (by decide) rfl rfl (Nat.le_of_ble_eq_true rfl) (ct_Cl_comesOutAsSeen hC1 hS1 hst hdf1) (fun m28 h28 => ?_)
      subst h28
      rw [coB_of lo, lo 5 (by omega)]
      generalize coB mem st (fun h => zor (hd h) (mem 5 5)) 12 0 (begS df s.1 s.2.1) = X at hnj ⊢
      obtain ⟨xb, xd, xl, xg, xn, xfh, xfw⟩ := X
      dsimp only at hnj ⊢
      obtain ⟨hxb, hnl⟩ := hnj
      subst hxb
      refine zw_ifeq_b 61 ok_Cl_oldBowsThatNeverWere rfl (by decide) (fun h31 => ?_) (fun h31 => ?_)
      · refine next b f _ (by rw [if_neg (by simp [h31])]) (fun i p q1 q2 q3 q4 q5 => ?_)
        by_cases e : i = j
        · subst e; rw [h31] at q3; cases q3
        · exact hf i p q1 (by omega) q3 q4 q5
      · refine zw_iload_n ok_Cl_oldBowsThatNeverWere rfl rfl ?_
        refine zw_iconst ok_Cl_oldBowsThatNeverWere rfl ?_
        refine zw_iload_n ok_Cl_oldBowsThatNeverWere rfl rfl ?_
        refine zw_ishl ok_Cl_oldBowsThatNeverWere rfl ?_
        refine zw_ior ok_Cl_oldBowsThatNeverWere rfl ?_
        refine zw_istore_n ok_Cl_oldBowsThatNeverWere rfl rfl (by decide) ?_
        refine zw_aload_n ok_Cl_oldBowsThatNeverWere rfl rfl ?_
        refine zw_getr ok_Cl_oldBowsThatNeverWere rfl fl_Cl_15 rfl rfl ?_
        refine zw_getr ok_Cl_oldBowsThatNeverWere rfl fl_Cl_42 rfl rfl ?_
        refine zw_iconst ok_Cl_oldBowsThatNeverWere rfl ?_
        refine zw_aload_n ok_Cl_oldBowsThatNeverWere rfl rfl ?_
        refine zw_getr ok_Cl_oldBowsThatNeverWere rfl fl_Cl_9 rfl rfl ?_
        refine zw_iload_n ok_Cl_oldBowsThatNeverWere rfl rfl ?_
        refine zw_bipush ok_Cl_oldBowsThatNeverWere rfl (by decide) ?_
        refine zw_imul ok_Cl_oldBowsThatNeverWere rfl ?_
        refine zw_bipush ok_Cl_oldBowsThatNeverWere rfl (by decide) ?_
        refine zw_copy ok_Cl_oldBowsThatNeverWere rfl la_Cl_45 rfl rfl (by omega) ⟨by decide, Nat.le_of_ble_eq_true rfl⟩ ?_
        try simp only [rd_C9, rd_C10, rd_C11, rd_C12, rd_C25, rd_C26, rd_C27, rd_C28, rd_C29, rd_C_0, rd_C_1, rd_C_2, rd_C_3, rd_C_4, rd_C_5, rd_C_6, rd_C_7, rd_C_8, rd_C_9, rd_C_10, rd_C_11, rd_C_12, rd_C_13, rd_C_14, rd_C_15, rd_C_16, rd_C_17, rd_C_18, rd_C_19, rd_C_20, rd_C_21, rd_C_22, rd_C_23, rd_C_30, rd_C_31, rd_C_32, rd_C_33, rd_C_34, rd_C_35, rd_C_36, rd_C_37, rd_C_38, rd_C_39, rd_C_40, rd_C_41, rd_C_42, rd_C_43, rd_C_44, rd_C_45, rd_C_46, rd_C_47, rd_C_48, rd_C_49, rd_C_50, rd_C_51, rd_C_52, rd_C_53, rd_C_54, rd_C_55, rd_C_56, rd_C_57, rd_C_58, rd_C_59, rd_C_60, rd_C_61, rd_C_62, rd_C_63, rd_C_64, rd_C_65, wr_C9, wr_C10, wr_C11, wr_C12, wr_C25, wr_C26, wr_C27, wr_C28, wr_C29, wp_C25, wp_C26, wp_C27, wp_C28, wp_C29, zput_ne (show (12 : Nat) ≠ 36 by decide)]
        simp only [rd_C29, rd_C_36, zput_eq]
        rw [wpC_out (by omega), show ∀ g2 : Int → Int, zput (zput mem 36 f) 36 g2 = zput mem 36 g2 from fun g2 => by funext q; by_cases e : q = 36; (subst e; rw [zput_eq, zput_eq]); rw [zput_ne e, zput_ne e, zput_ne e]]
        refine next _ _ _ (by rw [if_pos h31]) (fun i p q1 q2 q3 q4 q5 => ?_)
        unfold zcpy
        by_cases e : i = j
        · subst e
          rw [if_pos (by omega), ← hnl h31 p q4 q5]
          congr 1
          omega
        · rw [if_neg (by omega)]
          exact hf i p q1 (by omega) q3 q4 q5
end
