/-! ===== Coast: walkTillOneIsGone, layOut, walkAsTold, meetByLot ===== -/
def tillS (P : Int) (can step st : Int → Int) (un : Int → Int) : Nat → Int → zS → zS
  | 0, _, s => s
  | k + 1, h, s => if s.2.2.1 ≠ 0 then s else tillS P can step st un k (h + 1) (hourS P can step st un h s)
def eaS (step : Int → Int) (who to low : Int) (df : Int → Int) : Int → Int := if who < to then zupd df (who * 8 + to) (-(low + step to)) else zupd df (to * 8 + who) (low + step to)
def fbS (kind : Int → Int) (a b : Int) (df : Int → Int) : Int → Int := zupd df (a * 8 + b) (if kind a = 1 ∧ kind b ≠ 1 then -1 else 1)
def fbO (P : Int) (kind : Int → Int) (a : Int) (df : Int → Int) : Int → Int := lp (fbS kind a) (P - (a + 1)).toNat (a + 1) df
def efbS (P : Int) (kind : Int → Int) (df : Int → Int) : Int → Int := lp (fbO P kind) P.toNat 0 df
def hdS (less : Int) (uh uw : Int → Int) (u : Int) (hd : Int → Int) : Int → Int := if tb less u.toNat = true then hd else zupd hd (uh u) (zor (hd (uh u)) (zshl 1 (uw u)))
def odS (step : Int → Int) (oless : Int) (ow ot ol : Int → Int) (k : Int) (df : Int → Int) : Int → Int := if k = oless then df else eaS step (ow k) (ot k) (ol k) df
/-- the layout out of what was told -/
def layS (mem : zMem) (oless less : Int) (L : zL) : zL :=
  (zcpy (mem 11) L.1 0 0 96, lp (hdS less (mem 17) (mem 18)) (mem 16 3).toNat 0 (zfil 12 0 L.2.1), lp (odS (mem 9) oless (mem 13) (mem 14) (mem 15)) (mem 12 3).toNat 0 (efbS (mem 5 4) (mem 6) L.2.2))
section
variable {mem : zMem} {st hd df : Int → Int} {Q : Option zVal → zMem → Prop}
theorem till_loop {P : Int} (hP : pInv P (mem 7) (mem 9)) (eP : mem 5 4 = P) (hst : ∀ i, 0 ≤ i → i < 96 → -1 ≤ st i ∧ st i ≤ 7) :
    ∀ (k : Nat) (h : Int) (s : zS), 0 ≤ h → h + k = 12 → sInv P s → (-1 ≤ s.2.2.2.2.1 ∧ s.2.2.2.2.1 ≤ 11) → Q (some (vi (tillS P (mem 7) (mem 9) st (fun h => zor (hd h) (mem 5 5)) k h s).2.2.2.2.1)) (putC mem (st, hd, df) (tillS P (mem 7) (mem 9) st (fun h => zor (hd h) (mem 5 5)) k h s)) →
      AW m_Co_walkTillOneIsGone 6 [some (vr 24), some (vi h)] [] (putC mem (st, hd, df) s) Q := by
  intro k
  induction k with
  | zero =>
    intro h s h0 hk hs hf hx
    obtain ⟨d, l, g, n, fh, fw⟩ := s
    refine zw_iload_n ok_Co_walkTillOneIsGone rfl rfl ?_
    refine zw_bipush ok_Co_walkTillOneIsGone rfl (by decide) ?_
    refine zw_icmp_ge 30 ok_Co_walkTillOneIsGone rfl (by decide) (by omega) (fun h9 => ?_) (fun h9 => ?_)
    · refine zw_aload_n ok_Co_walkTillOneIsGone rfl rfl ?_
      refine zw_geti ok_Co_walkTillOneIsGone rfl fl_Co_105 rfl rfl ?_
      try simp only [rd_C9, rd_C10, rd_C11, rd_C12, rd_C25, rd_C26, rd_C27, rd_C28, rd_C29, rd_C_0, rd_C_1, rd_C_2, rd_C_3, rd_C_4, rd_C_5, rd_C_6, rd_C_7, rd_C_8, rd_C_9, rd_C_10, rd_C_11, rd_C_12, rd_C_13, rd_C_14, rd_C_15, rd_C_16, rd_C_17, rd_C_18, rd_C_19, rd_C_20, rd_C_21, rd_C_22, rd_C_23, rd_C_30, rd_C_31, rd_C_32, rd_C_33, rd_C_34, rd_C_35, rd_C_36, rd_C_37, rd_C_38, rd_C_39, rd_C_40, rd_C_41, rd_C_42, rd_C_43, rd_C_44, rd_C_45, rd_C_46, rd_C_47, rd_C_48, rd_C_49, rd_C_50, rd_C_51, rd_C_52, rd_C_53, rd_C_54, rd_C_55, rd_C_56, rd_C_57, rd_C_58, rd_C_59, rd_C_60, rd_C_61, rd_C_62, rd_C_63, rd_C_64, rd_C_65, wr_C9, wr_C10, wr_C11, wr_C12, wr_C25, wr_C26, wr_C27, wr_C28, wr_C29, wp_C25, wp_C26, wp_C27, wp_C28, wp_C29]
      exact zw_iret ok_Co_walkTillOneIsGone rfl rfl (hx)
    · exfalso; omega
  | succ k ih =>
    intro h s h0 hk hs hf hx
    obtain ⟨d, l, g, n, fh, fw⟩ := s
    have hg := hs.2.2
    dsimp only at hg
    unfold tillS at hx
    refine zw_iload_n ok_Co_walkTillOneIsGone rfl rfl ?_
    refine zw_bipush ok_Co_walkTillOneIsGone rfl (by decide) ?_
    refine zw_icmp_ge 30 ok_Co_walkTillOneIsGone rfl (by decide) (by omega) (fun h9 => ?_) (fun h9 => ?_)
    · exfalso; omega
    · refine zw_aload_n ok_Co_walkTillOneIsGone rfl rfl ?_
      refine zw_geti ok_Co_walkTillOneIsGone rfl fl_Co_99 rfl rfl ?_
      try simp only [rd_C9, rd_C10, rd_C11, rd_C12, rd_C25, rd_C26, rd_C27, rd_C28, rd_C29, rd_C_0, rd_C_1, rd_C_2, rd_C_3, rd_C_4, rd_C_5, rd_C_6, rd_C_7, rd_C_8, rd_C_9, rd_C_10, rd_C_11, rd_C_12, rd_C_13, rd_C_14, rd_C_15, rd_C_16, rd_C_17, rd_C_18, rd_C_19, rd_C_20, rd_C_21, rd_C_22, rd_C_23, rd_C_30, rd_C_31, rd_C_32, rd_C_33, rd_C_34, rd_C_35, rd_C_36, rd_C_37, rd_C_38, rd_C_39, rd_C_40, rd_C_41, rd_C_42, rd_C_43, rd_C_44, rd_C_45, rd_C_46, rd_C_47, rd_C_48, rd_C_49, rd_C_50, rd_C_51, rd_C_52, rd_C_53, rd_C_54, rd_C_55, rd_C_56, rd_C_57, rd_C_58, rd_C_59, rd_C_60, rd_C_61, rd_C_62, rd_C_63, rd_C_64, rd_C_65, wr_C9, wr_C10, wr_C11, wr_C12, wr_C25, wr_C26, wr_C27, wr_C28, wr_C29, wp_C25, wp_C26, wp_C27, wp_C28, wp_C29]
      refine zw_if_ne 30 ok_Co_walkTillOneIsGone rfl (by decide) (by omega) (fun h16 => ?_) (fun h16 => ?_)
      · rw [if_pos h16] at hx
        refine zw_aload_n ok_Co_walkTillOneIsGone rfl rfl ?_
        refine zw_geti ok_Co_walkTillOneIsGone rfl fl_Co_105 rfl rfl ?_
        try simp only [rd_C9, rd_C10, rd_C11, rd_C12, rd_C25, rd_C26, rd_C27, rd_C28, rd_C29, rd_C_0, rd_C_1, rd_C_2, rd_C_3, rd_C_4, rd_C_5, rd_C_6, rd_C_7, rd_C_8, rd_C_9, rd_C_10, rd_C_11, rd_C_12, rd_C_13, rd_C_14, rd_C_15, rd_C_16, rd_C_17, rd_C_18, rd_C_19, rd_C_20, rd_C_21, rd_C_22, rd_C_23, rd_C_30, rd_C_31, rd_C_32, rd_C_33, rd_C_34, rd_C_35, rd_C_36, rd_C_37, rd_C_38, rd_C_39, rd_C_40, rd_C_41, rd_C_42, rd_C_43, rd_C_44, rd_C_45, rd_C_46, rd_C_47, rd_C_48, rd_C_49, rd_C_50, rd_C_51, rd_C_52, rd_C_53, rd_C_54, rd_C_55, rd_C_56, rd_C_57, rd_C_58, rd_C_59, rd_C_60, rd_C_61, rd_C_62, rd_C_63, rd_C_64, rd_C_65, wr_C9, wr_C10, wr_C11, wr_C12, wr_C25, wr_C26, wr_C27, wr_C28, wr_C29, wp_C25, wp_C26, wp_C27, wp_C28, wp_C29]
        exact zw_iret ok_Co_walkTillOneIsGone rfl rfl (hx)
      · rw [if_neg (fun q => q h16)] at hx
        refine zw_aload_n ok_Co_walkTillOneIsGone rfl rfl ?_
        refine zw_iload_n ok_Co_walkTillOneIsGone rfl rfl ?_
        refine zw_Vvp ok_Co_walkTillOneIsGone rfl ok_Co_walkThrough lk_Co_111 (by decide) rfl rfl (Nat.le_of_ble_eq_true rfl) (ct_Co_walkThrough hP eP (by omega) hst hs hf) ?_
        refine zw_iinc ok_Co_walkTillOneIsGone rfl rfl rfl (by decide) ?_
        refine zw_goto 6 ok_Co_walkTillOneIsGone rfl (by decide) ?_
        exact ih (h + 1) _ (by omega) (by omega) (hourS_inv hP hs) (hourS_fh (by omega) hf) hx
theorem ct_Co_walkTillOneIsGone {P : Int} {s : zS} (hP : pInv P (mem 7) (mem 9)) (eP : mem 5 4 = P) (hst : ∀ i, 0 ≤ i → i < 96 → -1 ≤ st i ∧ st i ≤ 7) (hs : sInv P (begS df s.1 s.2.1)) : zCi m_Co_walkTillOneIsGone [vr 24] (putC mem (st, hd, df) s) (tillS P (mem 7) (mem 9) st (fun h => zor (hd h) (mem 5 5)) 12 0 (begS df s.1 s.2.1)).2.2.2.2.1 (fun m2 => m2 = putC mem (st, hd, df) (tillS P (mem 7) (mem 9) st (fun h => zor (hd h) (mem 5 5)) 12 0 (begS df s.1 s.2.1))) := by
  refine zCt.of [some (vr 24), none] ok_Co_walkTillOneIsGone (Nat.le_of_ble_eq_true rfl) rfl ?_
  refine zw_aload_n ok_Co_walkTillOneIsGone rfl rfl ?_
  refine zw_Vvp ok_Co_walkTillOneIsGone rfl ok_Co_begin lk_Co_46 (by decide) rfl rfl (Nat.le_of_ble_eq_true rfl) (ct_Co_begin) ?_
  refine zw_iconst ok_Co_walkTillOneIsGone rfl ?_
  refine zw_istore_n ok_Co_walkTillOneIsGone rfl rfl (by decide) ?_
  exact till_loop hP eP hst 12 0 _ (by omega) (by omega) hs ⟨Int.le_refl _, (show (-1 : Int) ≤ 11 by decide)⟩ ⟨rfl, rfl⟩
theorem ct_Co_expectAnswerTo {s : zS} {a b c : Int} (ha : 0 ≤ a ∧ a ≤ 7) (hb : 0 ≤ b ∧ b ≤ 7) : zCvp m_Co_expectAnswerTo [vr 24, vi a, vi b, vi c] (putC mem (st, hd, df) s) (putC mem (st, hd, eaS (mem 9) a b c df) s) := by
  refine zCt.of [some (vr 24), some (vi a), some (vi b), some (vi c), none] ok_Co_expectAnswerTo (Nat.le_of_ble_eq_true rfl) rfl ?_
  unfold eaS
  refine zw_iload_n ok_Co_expectAnswerTo rfl rfl ?_
  refine zw_aload_n ok_Co_expectAnswerTo rfl rfl ?_
  refine zw_getr ok_Co_expectAnswerTo rfl fl_Co_27 rfl rfl ?_
  refine zw_getr ok_Co_expectAnswerTo rfl fl_Co_96 rfl rfl ?_
  refine zw_iload_n ok_Co_expectAnswerTo rfl rfl ?_
  refine zw_iald ok_Co_expectAnswerTo rfl rfl (by omega) ?_
  try simp only [rd_C9, rd_C10, rd_C11, rd_C12, rd_C25, rd_C26, rd_C27, rd_C28, rd_C29, rd_C_0, rd_C_1, rd_C_2, rd_C_3, rd_C_4, rd_C_5, rd_C_6, rd_C_7, rd_C_8, rd_C_9, rd_C_10, rd_C_11, rd_C_12, rd_C_13, rd_C_14, rd_C_15, rd_C_16, rd_C_17, rd_C_18, rd_C_19, rd_C_20, rd_C_21, rd_C_22, rd_C_23, rd_C_30, rd_C_31, rd_C_32, rd_C_33, rd_C_34, rd_C_35, rd_C_36, rd_C_37, rd_C_38, rd_C_39, rd_C_40, rd_C_41, rd_C_42, rd_C_43, rd_C_44, rd_C_45, rd_C_46, rd_C_47, rd_C_48, rd_C_49, rd_C_50, rd_C_51, rd_C_52, rd_C_53, rd_C_54, rd_C_55, rd_C_56, rd_C_57, rd_C_58, rd_C_59, rd_C_60, rd_C_61, rd_C_62, rd_C_63, rd_C_64, rd_C_65, wr_C9, wr_C10, wr_C11, wr_C12, wr_C25, wr_C26, wr_C27, wr_C28, wr_C29, wp_C25, wp_C26, wp_C27, wp_C28, wp_C29]
  refine zw_iadd ok_Co_expectAnswerTo rfl ?_
  refine zw_istore ok_Co_expectAnswerTo rfl rfl (by decide) ?_
  refine zw_iload_n ok_Co_expectAnswerTo rfl rfl ?_
  refine zw_iload_n ok_Co_expectAnswerTo rfl rfl ?_
  refine zw_icmp_ge 35 ok_Co_expectAnswerTo rfl (by decide) (by omega) (fun h15 => ?_) (fun h15 => ?_)
  · refine zw_aload_n ok_Co_expectAnswerTo rfl rfl ?_
    refine zw_getr ok_Co_expectAnswerTo rfl fl_Co_18 rfl rfl ?_
    refine zw_iload_n ok_Co_expectAnswerTo rfl rfl ?_
    refine zw_bipush ok_Co_expectAnswerTo rfl (by decide) ?_
    refine zw_imul ok_Co_expectAnswerTo rfl ?_
    refine zw_iload_n ok_Co_expectAnswerTo rfl rfl ?_
    refine zw_iadd ok_Co_expectAnswerTo rfl ?_
    refine zw_iload ok_Co_expectAnswerTo rfl rfl ?_
    refine zw_iast ok_Co_expectAnswerTo rfl rfl (by omega) ?_
    try simp only [rd_C9, rd_C10, rd_C11, rd_C12, rd_C25, rd_C26, rd_C27, rd_C28, rd_C29, rd_C_0, rd_C_1, rd_C_2, rd_C_3, rd_C_4, rd_C_5, rd_C_6, rd_C_7, rd_C_8, rd_C_9, rd_C_10, rd_C_11, rd_C_12, rd_C_13, rd_C_14, rd_C_15, rd_C_16, rd_C_17, rd_C_18, rd_C_19, rd_C_20, rd_C_21, rd_C_22, rd_C_23, rd_C_30, rd_C_31, rd_C_32, rd_C_33, rd_C_34, rd_C_35, rd_C_36, rd_C_37, rd_C_38, rd_C_39, rd_C_40, rd_C_41, rd_C_42, rd_C_43, rd_C_44, rd_C_45, rd_C_46, rd_C_47, rd_C_48, rd_C_49, rd_C_50, rd_C_51, rd_C_52, rd_C_53, rd_C_54, rd_C_55, rd_C_56, rd_C_57, rd_C_58, rd_C_59, rd_C_60, rd_C_61, rd_C_62, rd_C_63, rd_C_64, rd_C_65, wr_C9, wr_C10, wr_C11, wr_C12, wr_C25, wr_C26, wr_C27, wr_C28, wr_C29, wp_C25, wp_C26, wp_C27, wp_C28, wp_C29]
    exact zw_vret ok_Co_expectAnswerTo rfl rfl (⟨rfl, by first | rw [if_pos (by omega)] | rw [if_neg (by omega)]⟩)
  · refine zw_aload_n ok_Co_expectAnswerTo rfl rfl ?_
    refine zw_getr ok_Co_expectAnswerTo rfl fl_Co_18 rfl rfl ?_
    refine zw_iload_n ok_Co_expectAnswerTo rfl rfl ?_
    refine zw_bipush ok_Co_expectAnswerTo rfl (by decide) ?_
    refine zw_imul ok_Co_expectAnswerTo rfl ?_
    refine zw_iload_n ok_Co_expectAnswerTo rfl rfl ?_
    refine zw_iadd ok_Co_expectAnswerTo rfl ?_
    refine zw_iload ok_Co_expectAnswerTo rfl rfl ?_
    refine zw_ineg ok_Co_expectAnswerTo rfl ?_
    refine zw_iast ok_Co_expectAnswerTo rfl rfl (by omega) ?_
    try simp only [rd_C9, rd_C10, rd_C11, rd_C12, rd_C25, rd_C26, rd_C27, rd_C28, rd_C29, rd_C_0, rd_C_1, rd_C_2, rd_C_3, rd_C_4, rd_C_5, rd_C_6, rd_C_7, rd_C_8, rd_C_9, rd_C_10, rd_C_11, rd_C_12, rd_C_13, rd_C_14, rd_C_15, rd_C_16, rd_C_17, rd_C_18, rd_C_19, rd_C_20, rd_C_21, rd_C_22, rd_C_23, rd_C_30, rd_C_31, rd_C_32, rd_C_33, rd_C_34, rd_C_35, rd_C_36, rd_C_37, rd_C_38, rd_C_39, rd_C_40, rd_C_41, rd_C_42, rd_C_43, rd_C_44, rd_C_45, rd_C_46, rd_C_47, rd_C_48, rd_C_49, rd_C_50, rd_C_51, rd_C_52, rd_C_53, rd_C_54, rd_C_55, rd_C_56, rd_C_57, rd_C_58, rd_C_59, rd_C_60, rd_C_61, rd_C_62, rd_C_63, rd_C_64, rd_C_65, wr_C9, wr_C10, wr_C11, wr_C12, wr_C25, wr_C26, wr_C27, wr_C28, wr_C29, wp_C25, wp_C26, wp_C27, wp_C28, wp_C29]
    refine zw_goto 48 ok_Co_expectAnswerTo rfl (by decide) ?_
    exact zw_vret ok_Co_expectAnswerTo rfl rfl (⟨rfl, by first | rw [if_pos (by omega)] | rw [if_neg (by omega)]⟩)
theorem fb_in {P a : Int} {s : zS} (eP : mem 5 4 = P) (hP : 0 ≤ P ∧ P ≤ 8) (hk : ∀ p, 0 ≤ p → p < P → 0 ≤ mem 6 p ∧ mem 6 p ≤ 2) (ha : 0 ≤ a ∧ a < P) :
    ∀ (k : Nat) (b : Int) (df : Int → Int), b + k = P → a < b → AW m_Co_expectFirstBows 86 [some (vr 24), some (vi a), none, none] [] (putC mem (st, hd, lp (fbS (mem 6) a) k b df) s) Q → AW m_Co_expectFirstBows 17 [some (vr 24), some (vi a), some (vi b), none] [] (putC mem (st, hd, df) s) Q := by
  have q1 := hk a ha.1 ha.2
  intro k
  induction k with
  | zero =>
    intro b df hb hab hx
    refine zw_iload_n ok_Co_expectFirstBows rfl rfl ?_
    refine zw_aload_n ok_Co_expectFirstBows rfl rfl ?_
    refine zw_getr ok_Co_expectFirstBows rfl fl_Co_27 rfl rfl ?_
    refine zw_geti ok_Co_expectFirstBows rfl fl_Co_90 rfl rfl ?_
    try simp only [rd_C9, rd_C10, rd_C11, rd_C12, rd_C25, rd_C26, rd_C27, rd_C28, rd_C29, rd_C_0, rd_C_1, rd_C_2, rd_C_3, rd_C_4, rd_C_5, rd_C_6, rd_C_7, rd_C_8, rd_C_9, rd_C_10, rd_C_11, rd_C_12, rd_C_13, rd_C_14, rd_C_15, rd_C_16, rd_C_17, rd_C_18, rd_C_19, rd_C_20, rd_C_21, rd_C_22, rd_C_23, rd_C_30, rd_C_31, rd_C_32, rd_C_33, rd_C_34, rd_C_35, rd_C_36, rd_C_37, rd_C_38, rd_C_39, rd_C_40, rd_C_41, rd_C_42, rd_C_43, rd_C_44, rd_C_45, rd_C_46, rd_C_47, rd_C_48, rd_C_49, rd_C_50, rd_C_51, rd_C_52, rd_C_53, rd_C_54, rd_C_55, rd_C_56, rd_C_57, rd_C_58, rd_C_59, rd_C_60, rd_C_61, rd_C_62, rd_C_63, rd_C_64, rd_C_65, wr_C9, wr_C10, wr_C11, wr_C12, wr_C25, wr_C26, wr_C27, wr_C28, wr_C29, wp_C25, wp_C26, wp_C27, wp_C28, wp_C29]
    refine zw_icmp_ge 86 ok_Co_expectFirstBows rfl (by decide) (by omega) (fun h25 => ?_) (fun h25 => ?_)
    · refine zw_mask [true, true, false, false] rfl ?_
      exact hx
    · exfalso; omega
  | succ k ih =>
    intro b df hb hab hx
    rw [lp_s] at hx
    have q2 := hk b (by omega) (by omega)
    unfold fbS at hx
    refine zw_iload_n ok_Co_expectFirstBows rfl rfl ?_
    refine zw_aload_n ok_Co_expectFirstBows rfl rfl ?_
    refine zw_getr ok_Co_expectFirstBows rfl fl_Co_27 rfl rfl ?_
    refine zw_geti ok_Co_expectFirstBows rfl fl_Co_90 rfl rfl ?_
    try simp only [rd_C9, rd_C10, rd_C11, rd_C12, rd_C25, rd_C26, rd_C27, rd_C28, rd_C29, rd_C_0, rd_C_1, rd_C_2, rd_C_3, rd_C_4, rd_C_5, rd_C_6, rd_C_7, rd_C_8, rd_C_9, rd_C_10, rd_C_11, rd_C_12, rd_C_13, rd_C_14, rd_C_15, rd_C_16, rd_C_17, rd_C_18, rd_C_19, rd_C_20, rd_C_21, rd_C_22, rd_C_23, rd_C_30, rd_C_31, rd_C_32, rd_C_33, rd_C_34, rd_C_35, rd_C_36, rd_C_37, rd_C_38, rd_C_39, rd_C_40, rd_C_41, rd_C_42, rd_C_43, rd_C_44, rd_C_45, rd_C_46, rd_C_47, rd_C_48, rd_C_49, rd_C_50, rd_C_51, rd_C_52, rd_C_53, rd_C_54, rd_C_55, rd_C_56, rd_C_57, rd_C_58, rd_C_59, rd_C_60, rd_C_61, rd_C_62, rd_C_63, rd_C_64, rd_C_65, wr_C9, wr_C10, wr_C11, wr_C12, wr_C25, wr_C26, wr_C27, wr_C28, wr_C29, wp_C25, wp_C26, wp_C27, wp_C28, wp_C29]
    refine zw_icmp_ge 86 ok_Co_expectFirstBows rfl (by decide) (by omega) (fun h25 => ?_) (fun h25 => ?_)
    · exfalso; omega
    · refine zw_aload_n ok_Co_expectFirstBows rfl rfl ?_
      refine zw_getr ok_Co_expectFirstBows rfl fl_Co_27 rfl rfl ?_
      refine zw_getr ok_Co_expectFirstBows rfl fl_Co_93 rfl rfl ?_
      refine zw_iload_n ok_Co_expectFirstBows rfl rfl ?_
      refine zw_iald ok_Co_expectFirstBows rfl rfl (by omega) ?_
      try simp only [rd_C9, rd_C10, rd_C11, rd_C12, rd_C25, rd_C26, rd_C27, rd_C28, rd_C29, rd_C_0, rd_C_1, rd_C_2, rd_C_3, rd_C_4, rd_C_5, rd_C_6, rd_C_7, rd_C_8, rd_C_9, rd_C_10, rd_C_11, rd_C_12, rd_C_13, rd_C_14, rd_C_15, rd_C_16, rd_C_17, rd_C_18, rd_C_19, rd_C_20, rd_C_21, rd_C_22, rd_C_23, rd_C_30, rd_C_31, rd_C_32, rd_C_33, rd_C_34, rd_C_35, rd_C_36, rd_C_37, rd_C_38, rd_C_39, rd_C_40, rd_C_41, rd_C_42, rd_C_43, rd_C_44, rd_C_45, rd_C_46, rd_C_47, rd_C_48, rd_C_49, rd_C_50, rd_C_51, rd_C_52, rd_C_53, rd_C_54, rd_C_55, rd_C_56, rd_C_57, rd_C_58, rd_C_59, rd_C_60, rd_C_61, rd_C_62, rd_C_63, rd_C_64, rd_C_65, wr_C9, wr_C10, wr_C11, wr_C12, wr_C25, wr_C26, wr_C27, wr_C28, wr_C29, wp_C25, wp_C26, wp_C27, wp_C28, wp_C29]
      refine zw_iconst ok_Co_expectFirstBows rfl ?_
      refine zw_icmp_ne 58 ok_Co_expectFirstBows rfl (by decide) (by omega) (fun h38 => ?_) (fun h38 => ?_)
      · refine zw_iconst ok_Co_expectFirstBows rfl ?_
        refine zw_istore_n ok_Co_expectFirstBows rfl rfl (by decide) ?_
        refine zw_aload_n ok_Co_expectFirstBows rfl rfl ?_
        refine zw_getr ok_Co_expectFirstBows rfl fl_Co_18 rfl rfl ?_
        refine zw_iload_n ok_Co_expectFirstBows rfl rfl ?_
        refine zw_bipush ok_Co_expectFirstBows rfl (by decide) ?_
        refine zw_imul ok_Co_expectFirstBows rfl ?_
        refine zw_iload_n ok_Co_expectFirstBows rfl rfl ?_
        refine zw_iadd ok_Co_expectFirstBows rfl ?_
        refine zw_iload_n ok_Co_expectFirstBows rfl rfl ?_
        refine zw_if_eq 78 ok_Co_expectFirstBows rfl (by decide) (by omega) (fun h71 => ?_) (fun h71 => ?_)
        · try (exfalso; omega)
          all_goals
            refine zw_iconst ok_Co_expectFirstBows rfl ?_
            refine zw_iast ok_Co_expectFirstBows rfl rfl (by omega) ?_
            try simp only [rd_C9, rd_C10, rd_C11, rd_C12, rd_C25, rd_C26, rd_C27, rd_C28, rd_C29, rd_C_0, rd_C_1, rd_C_2, rd_C_3, rd_C_4, rd_C_5, rd_C_6, rd_C_7, rd_C_8, rd_C_9, rd_C_10, rd_C_11, rd_C_12, rd_C_13, rd_C_14, rd_C_15, rd_C_16, rd_C_17, rd_C_18, rd_C_19, rd_C_20, rd_C_21, rd_C_22, rd_C_23, rd_C_30, rd_C_31, rd_C_32, rd_C_33, rd_C_34, rd_C_35, rd_C_36, rd_C_37, rd_C_38, rd_C_39, rd_C_40, rd_C_41, rd_C_42, rd_C_43, rd_C_44, rd_C_45, rd_C_46, rd_C_47, rd_C_48, rd_C_49, rd_C_50, rd_C_51, rd_C_52, rd_C_53, rd_C_54, rd_C_55, rd_C_56, rd_C_57, rd_C_58, rd_C_59, rd_C_60, rd_C_61, rd_C_62, rd_C_63, rd_C_64, rd_C_65, wr_C9, wr_C10, wr_C11, wr_C12, wr_C25, wr_C26, wr_C27, wr_C28, wr_C29, wp_C25, wp_C26, wp_C27, wp_C28, wp_C29]
            refine zw_iinc ok_Co_expectFirstBows rfl rfl rfl (by decide) ?_
            refine zw_goto 17 ok_Co_expectFirstBows rfl (by decide) ?_
            refine zw_mask [true, true, true, false] rfl ?_
            refine ih (b + 1) _ (by omega) (by omega) ?_
            first
              | (rw [if_pos (by omega)] at hx; exact hx)
              | (rw [if_neg (by omega)] at hx; exact hx)
        · try (exfalso; omega)
          all_goals
            refine zw_iconst ok_Co_expectFirstBows rfl ?_
            refine zw_goto 79 ok_Co_expectFirstBows rfl (by decide) ?_
            refine zw_iast ok_Co_expectFirstBows rfl rfl (by omega) ?_
            try simp only [rd_C9, rd_C10, rd_C11, rd_C12, rd_C25, rd_C26, rd_C27, rd_C28, rd_C29, rd_C_0, rd_C_1, rd_C_2, rd_C_3, rd_C_4, rd_C_5, rd_C_6, rd_C_7, rd_C_8, rd_C_9, rd_C_10, rd_C_11, rd_C_12, rd_C_13, rd_C_14, rd_C_15, rd_C_16, rd_C_17, rd_C_18, rd_C_19, rd_C_20, rd_C_21, rd_C_22, rd_C_23, rd_C_30, rd_C_31, rd_C_32, rd_C_33, rd_C_34, rd_C_35, rd_C_36, rd_C_37, rd_C_38, rd_C_39, rd_C_40, rd_C_41, rd_C_42, rd_C_43, rd_C_44, rd_C_45, rd_C_46, rd_C_47, rd_C_48, rd_C_49, rd_C_50, rd_C_51, rd_C_52, rd_C_53, rd_C_54, rd_C_55, rd_C_56, rd_C_57, rd_C_58, rd_C_59, rd_C_60, rd_C_61, rd_C_62, rd_C_63, rd_C_64, rd_C_65, wr_C9, wr_C10, wr_C11, wr_C12, wr_C25, wr_C26, wr_C27, wr_C28, wr_C29, wp_C25, wp_C26, wp_C27, wp_C28, wp_C29]
            refine zw_iinc ok_Co_expectFirstBows rfl rfl rfl (by decide) ?_
            refine zw_goto 17 ok_Co_expectFirstBows rfl (by decide) ?_
            refine zw_mask [true, true, true, false] rfl ?_
            refine ih (b + 1) _ (by omega) (by omega) ?_
            first
              | (rw [if_pos (by omega)] at hx; exact hx)
              | (rw [if_neg (by omega)] at hx; exact hx)
      · refine zw_aload_n ok_Co_expectFirstBows rfl rfl ?_
        refine zw_getr ok_Co_expectFirstBows rfl fl_Co_27 rfl rfl ?_
        refine zw_getr ok_Co_expectFirstBows rfl fl_Co_93 rfl rfl ?_
        refine zw_iload_n ok_Co_expectFirstBows rfl rfl ?_
        refine zw_iald ok_Co_expectFirstBows rfl rfl (by omega) ?_
        try simp only [rd_C9, rd_C10, rd_C11, rd_C12, rd_C25, rd_C26, rd_C27, rd_C28, rd_C29, rd_C_0, rd_C_1, rd_C_2, rd_C_3, rd_C_4, rd_C_5, rd_C_6, rd_C_7, rd_C_8, rd_C_9, rd_C_10, rd_C_11, rd_C_12, rd_C_13, rd_C_14, rd_C_15, rd_C_16, rd_C_17, rd_C_18, rd_C_19, rd_C_20, rd_C_21, rd_C_22, rd_C_23, rd_C_30, rd_C_31, rd_C_32, rd_C_33, rd_C_34, rd_C_35, rd_C_36, rd_C_37, rd_C_38, rd_C_39, rd_C_40, rd_C_41, rd_C_42, rd_C_43, rd_C_44, rd_C_45, rd_C_46, rd_C_47, rd_C_48, rd_C_49, rd_C_50, rd_C_51, rd_C_52, rd_C_53, rd_C_54, rd_C_55, rd_C_56, rd_C_57, rd_C_58, rd_C_59, rd_C_60, rd_C_61, rd_C_62, rd_C_63, rd_C_64, rd_C_65, wr_C9, wr_C10, wr_C11, wr_C12, wr_C25, wr_C26, wr_C27, wr_C28, wr_C29, wp_C25, wp_C26, wp_C27, wp_C28, wp_C29]
        refine zw_iconst ok_Co_expectFirstBows rfl ?_
        refine zw_icmp_eq 58 ok_Co_expectFirstBows rfl (by decide) (by omega) (fun h51 => ?_) (fun h51 => ?_)
        · refine zw_iconst ok_Co_expectFirstBows rfl ?_
          refine zw_istore_n ok_Co_expectFirstBows rfl rfl (by decide) ?_
          refine zw_aload_n ok_Co_expectFirstBows rfl rfl ?_
          refine zw_getr ok_Co_expectFirstBows rfl fl_Co_18 rfl rfl ?_
          refine zw_iload_n ok_Co_expectFirstBows rfl rfl ?_
          refine zw_bipush ok_Co_expectFirstBows rfl (by decide) ?_
          refine zw_imul ok_Co_expectFirstBows rfl ?_
          refine zw_iload_n ok_Co_expectFirstBows rfl rfl ?_
          refine zw_iadd ok_Co_expectFirstBows rfl ?_
          refine zw_iload_n ok_Co_expectFirstBows rfl rfl ?_
          refine zw_if_eq 78 ok_Co_expectFirstBows rfl (by decide) (by omega) (fun h71 => ?_) (fun h71 => ?_)
          · try (exfalso; omega)
            all_goals
              refine zw_iconst ok_Co_expectFirstBows rfl ?_
              refine zw_iast ok_Co_expectFirstBows rfl rfl (by omega) ?_
              try simp only [rd_C9, rd_C10, rd_C11, rd_C12, rd_C25, rd_C26, rd_C27, rd_C28, rd_C29, rd_C_0, rd_C_1, rd_C_2, rd_C_3, rd_C_4, rd_C_5, rd_C_6, rd_C_7, rd_C_8, rd_C_9, rd_C_10, rd_C_11, rd_C_12, rd_C_13, rd_C_14, rd_C_15, rd_C_16, rd_C_17, rd_C_18, rd_C_19, rd_C_20, rd_C_21, rd_C_22, rd_C_23, rd_C_30, rd_C_31, rd_C_32, rd_C_33, rd_C_34, rd_C_35, rd_C_36, rd_C_37, rd_C_38, rd_C_39, rd_C_40, rd_C_41, rd_C_42, rd_C_43, rd_C_44, rd_C_45, rd_C_46, rd_C_47, rd_C_48, rd_C_49, rd_C_50, rd_C_51, rd_C_52, rd_C_53, rd_C_54, rd_C_55, rd_C_56, rd_C_57, rd_C_58, rd_C_59, rd_C_60, rd_C_61, rd_C_62, rd_C_63, rd_C_64, rd_C_65, wr_C9, wr_C10, wr_C11, wr_C12, wr_C25, wr_C26, wr_C27, wr_C28, wr_C29, wp_C25, wp_C26, wp_C27, wp_C28, wp_C29]
              refine zw_iinc ok_Co_expectFirstBows rfl rfl rfl (by decide) ?_
              refine zw_goto 17 ok_Co_expectFirstBows rfl (by decide) ?_
              refine zw_mask [true, true, true, false] rfl ?_
              refine ih (b + 1) _ (by omega) (by omega) ?_
              first
                | (rw [if_pos (by omega)] at hx; exact hx)
                | (rw [if_neg (by omega)] at hx; exact hx)
          · try (exfalso; omega)
            all_goals
              refine zw_iconst ok_Co_expectFirstBows rfl ?_
              refine zw_goto 79 ok_Co_expectFirstBows rfl (by decide) ?_
              refine zw_iast ok_Co_expectFirstBows rfl rfl (by omega) ?_
              try simp only [rd_C9, rd_C10, rd_C11, rd_C12, rd_C25, rd_C26, rd_C27, rd_C28, rd_C29, rd_C_0, rd_C_1, rd_C_2, rd_C_3, rd_C_4, rd_C_5, rd_C_6, rd_C_7, rd_C_8, rd_C_9, rd_C_10, rd_C_11, rd_C_12, rd_C_13, rd_C_14, rd_C_15, rd_C_16, rd_C_17, rd_C_18, rd_C_19, rd_C_20, rd_C_21, rd_C_22, rd_C_23, rd_C_30, rd_C_31, rd_C_32, rd_C_33, rd_C_34, rd_C_35, rd_C_36, rd_C_37, rd_C_38, rd_C_39, rd_C_40, rd_C_41, rd_C_42, rd_C_43, rd_C_44, rd_C_45, rd_C_46, rd_C_47, rd_C_48, rd_C_49, rd_C_50, rd_C_51, rd_C_52, rd_C_53, rd_C_54, rd_C_55, rd_C_56, rd_C_57, rd_C_58, rd_C_59, rd_C_60, rd_C_61, rd_C_62, rd_C_63, rd_C_64, rd_C_65, wr_C9, wr_C10, wr_C11, wr_C12, wr_C25, wr_C26, wr_C27, wr_C28, wr_C29, wp_C25, wp_C26, wp_C27, wp_C28, wp_C29]
              refine zw_iinc ok_Co_expectFirstBows rfl rfl rfl (by decide) ?_
              refine zw_goto 17 ok_Co_expectFirstBows rfl (by decide) ?_
              refine zw_mask [true, true, true, false] rfl ?_
              refine ih (b + 1) _ (by omega) (by omega) ?_
              first
                | (rw [if_pos (by omega)] at hx; exact hx)
                | (rw [if_neg (by omega)] at hx; exact hx)
        · refine zw_iconst ok_Co_expectFirstBows rfl ?_
          refine zw_goto 59 ok_Co_expectFirstBows rfl (by decide) ?_
          refine zw_istore_n ok_Co_expectFirstBows rfl rfl (by decide) ?_
          refine zw_aload_n ok_Co_expectFirstBows rfl rfl ?_
          refine zw_getr ok_Co_expectFirstBows rfl fl_Co_18 rfl rfl ?_
          refine zw_iload_n ok_Co_expectFirstBows rfl rfl ?_
          refine zw_bipush ok_Co_expectFirstBows rfl (by decide) ?_
          refine zw_imul ok_Co_expectFirstBows rfl ?_
          refine zw_iload_n ok_Co_expectFirstBows rfl rfl ?_
          refine zw_iadd ok_Co_expectFirstBows rfl ?_
          refine zw_iload_n ok_Co_expectFirstBows rfl rfl ?_
          refine zw_if_eq 78 ok_Co_expectFirstBows rfl (by decide) (by omega) (fun h71 => ?_) (fun h71 => ?_)
          · try (exfalso; omega)
            all_goals
              refine zw_iconst ok_Co_expectFirstBows rfl ?_
              refine zw_iast ok_Co_expectFirstBows rfl rfl (by omega) ?_
              try simp only [rd_C9, rd_C10, rd_C11, rd_C12, rd_C25, rd_C26, rd_C27, rd_C28, rd_C29, rd_C_0, rd_C_1, rd_C_2, rd_C_3, rd_C_4, rd_C_5, rd_C_6, rd_C_7, rd_C_8, rd_C_9, rd_C_10, rd_C_11, rd_C_12, rd_C_13, rd_C_14, rd_C_15, rd_C_16, rd_C_17, rd_C_18, rd_C_19, rd_C_20, rd_C_21, rd_C_22, rd_C_23, rd_C_30, rd_C_31, rd_C_32, rd_C_33, rd_C_34, rd_C_35, rd_C_36, rd_C_37, rd_C_38, rd_C_39, rd_C_40, rd_C_41, rd_C_42, rd_C_43, rd_C_44, rd_C_45, rd_C_46, rd_C_47, rd_C_48, rd_C_49, rd_C_50, rd_C_51, rd_C_52, rd_C_53, rd_C_54, rd_C_55, rd_C_56, rd_C_57, rd_C_58, rd_C_59, rd_C_60, rd_C_61, rd_C_62, rd_C_63, rd_C_64, rd_C_65, wr_C9, wr_C10, wr_C11, wr_C12, wr_C25, wr_C26, wr_C27, wr_C28, wr_C29, wp_C25, wp_C26, wp_C27, wp_C28, wp_C29]
              refine zw_iinc ok_Co_expectFirstBows rfl rfl rfl (by decide) ?_
              refine zw_goto 17 ok_Co_expectFirstBows rfl (by decide) ?_
              refine zw_mask [true, true, true, false] rfl ?_
              refine ih (b + 1) _ (by omega) (by omega) ?_
              first
                | (rw [if_pos (by omega)] at hx; exact hx)
                | (rw [if_neg (by omega)] at hx; exact hx)
          · try (exfalso; omega)
            all_goals
              refine zw_iconst ok_Co_expectFirstBows rfl ?_
              refine zw_goto 79 ok_Co_expectFirstBows rfl (by decide) ?_
              refine zw_iast ok_Co_expectFirstBows rfl rfl (by omega) ?_
              try simp only [rd_C9, rd_C10, rd_C11, rd_C12, rd_C25, rd_C26, rd_C27, rd_C28, rd_C29, rd_C_0, rd_C_1, rd_C_2, rd_C_3, rd_C_4, rd_C_5, rd_C_6, rd_C_7, rd_C_8, rd_C_9, rd_C_10, rd_C_11, rd_C_12, rd_C_13, rd_C_14, rd_C_15, rd_C_16, rd_C_17, rd_C_18, rd_C_19, rd_C_20, rd_C_21, rd_C_22, rd_C_23, rd_C_30, rd_C_31, rd_C_32, rd_C_33, rd_C_34, rd_C_35, rd_C_36, rd_C_37, rd_C_38, rd_C_39, rd_C_40, rd_C_41, rd_C_42, rd_C_43, rd_C_44, rd_C_45, rd_C_46, rd_C_47, rd_C_48, rd_C_49, rd_C_50, rd_C_51, rd_C_52, rd_C_53, rd_C_54, rd_C_55, rd_C_56, rd_C_57, rd_C_58, rd_C_59, rd_C_60, rd_C_61, rd_C_62, rd_C_63, rd_C_64, rd_C_65, wr_C9, wr_C10, wr_C11, wr_C12, wr_C25, wr_C26, wr_C27, wr_C28, wr_C29, wp_C25, wp_C26, wp_C27, wp_C28, wp_C29]
              refine zw_iinc ok_Co_expectFirstBows rfl rfl rfl (by decide) ?_
              refine zw_goto 17 ok_Co_expectFirstBows rfl (by decide) ?_
              refine zw_mask [true, true, true, false] rfl ?_
              refine ih (b + 1) _ (by omega) (by omega) ?_
              first
                | (rw [if_pos (by omega)] at hx; exact hx)
                | (rw [if_neg (by omega)] at hx; exact hx)
theorem fb_out {P : Int} {s : zS} (eP : mem 5 4 = P) (hP : 0 ≤ P ∧ P ≤ 8) (hk : ∀ p, 0 ≤ p → p < P → 0 ≤ mem 6 p ∧ mem 6 p ≤ 2) :
    ∀ (k : Nat) (a : Int) (df : Int → Int), 0 ≤ a → a + k = P → Q none (putC mem (st, hd, lp (fbO P (mem 6)) k a df) s) → AW m_Co_expectFirstBows 2 [some (vr 24), some (vi a), none, none] [] (putC mem (st, hd, df) s) Q := by
  intro k
  induction k with
  | zero =>
    intro a df h0 ha hx
    refine zw_iload_n ok_Co_expectFirstBows rfl rfl ?_
    refine zw_aload_n ok_Co_expectFirstBows rfl rfl ?_
    refine zw_getr ok_Co_expectFirstBows rfl fl_Co_27 rfl rfl ?_
    refine zw_geti ok_Co_expectFirstBows rfl fl_Co_90 rfl rfl ?_
    try simp only [rd_C9, rd_C10, rd_C11, rd_C12, rd_C25, rd_C26, rd_C27, rd_C28, rd_C29, rd_C_0, rd_C_1, rd_C_2, rd_C_3, rd_C_4, rd_C_5, rd_C_6, rd_C_7, rd_C_8, rd_C_9, rd_C_10, rd_C_11, rd_C_12, rd_C_13, rd_C_14, rd_C_15, rd_C_16, rd_C_17, rd_C_18, rd_C_19, rd_C_20, rd_C_21, rd_C_22, rd_C_23, rd_C_30, rd_C_31, rd_C_32, rd_C_33, rd_C_34, rd_C_35, rd_C_36, rd_C_37, rd_C_38, rd_C_39, rd_C_40, rd_C_41, rd_C_42, rd_C_43, rd_C_44, rd_C_45, rd_C_46, rd_C_47, rd_C_48, rd_C_49, rd_C_50, rd_C_51, rd_C_52, rd_C_53, rd_C_54, rd_C_55, rd_C_56, rd_C_57, rd_C_58, rd_C_59, rd_C_60, rd_C_61, rd_C_62, rd_C_63, rd_C_64, rd_C_65, wr_C9, wr_C10, wr_C11, wr_C12, wr_C25, wr_C26, wr_C27, wr_C28, wr_C29, wp_C25, wp_C26, wp_C27, wp_C28, wp_C29]
    refine zw_icmp_ge 92 ok_Co_expectFirstBows rfl (by decide) (by omega) (fun h10 => ?_) (fun h10 => ?_)
    · exact zw_vret ok_Co_expectFirstBows rfl rfl (hx)
    · exfalso; omega
  | succ k ih =>
    intro a df h0 ha hx
    rw [lp_s] at hx
    refine zw_iload_n ok_Co_expectFirstBows rfl rfl ?_
    refine zw_aload_n ok_Co_expectFirstBows rfl rfl ?_
    refine zw_getr ok_Co_expectFirstBows rfl fl_Co_27 rfl rfl ?_
    refine zw_geti ok_Co_expectFirstBows rfl fl_Co_90 rfl rfl ?_
    try simp only [rd_C9, rd_C10, rd_C11, rd_C12, rd_C25, rd_C26, rd_C27, rd_C28, rd_C29, rd_C_0, rd_C_1, rd_C_2, rd_C_3, rd_C_4, rd_C_5, rd_C_6, rd_C_7, rd_C_8, rd_C_9, rd_C_10, rd_C_11, rd_C_12, rd_C_13, rd_C_14, rd_C_15, rd_C_16, rd_C_17, rd_C_18, rd_C_19, rd_C_20, rd_C_21, rd_C_22, rd_C_23, rd_C_30, rd_C_31, rd_C_32, rd_C_33, rd_C_34, rd_C_35, rd_C_36, rd_C_37, rd_C_38, rd_C_39, rd_C_40, rd_C_41, rd_C_42, rd_C_43, rd_C_44, rd_C_45, rd_C_46, rd_C_47, rd_C_48, rd_C_49, rd_C_50, rd_C_51, rd_C_52, rd_C_53, rd_C_54, rd_C_55, rd_C_56, rd_C_57, rd_C_58, rd_C_59, rd_C_60, rd_C_61, rd_C_62, rd_C_63, rd_C_64, rd_C_65, wr_C9, wr_C10, wr_C11, wr_C12, wr_C25, wr_C26, wr_C27, wr_C28, wr_C29, wp_C25, wp_C26, wp_C27, wp_C28, wp_C29]
    refine zw_icmp_ge 92 ok_Co_expectFirstBows rfl (by decide) (by omega) (fun h10 => ?_) (fun h10 => ?_)
    · exfalso; omega
    · refine zw_iload_n ok_Co_expectFirstBows rfl rfl ?_
      refine zw_iconst ok_Co_expectFirstBows rfl ?_
      refine zw_iadd ok_Co_expectFirstBows rfl ?_
      refine zw_istore_n ok_Co_expectFirstBows rfl rfl (by decide) ?_
      refine fb_in eP hP hk ⟨h0, by omega⟩ (P - (a + 1)).toNat (a + 1) df (by omega) (by omega) ?_
      refine zw_iinc ok_Co_expectFirstBows rfl rfl rfl (by decide) ?_
      refine zw_goto 2 ok_Co_expectFirstBows rfl (by decide) ?_
      exact ih (a + 1) _ (by omega) (by omega) hx
theorem ct_Co_expectFirstBows {P : Int} {s : zS} (eP : mem 5 4 = P) (hP : 0 ≤ P ∧ P ≤ 8) (hk : ∀ p, 0 ≤ p → p < P → 0 ≤ mem 6 p ∧ mem 6 p ≤ 2) : zCvp m_Co_expectFirstBows [vr 24] (putC mem (st, hd, df) s) (putC mem (st, hd, efbS P (mem 6) df) s) := by
  refine zCt.of [some (vr 24), none, none, none] ok_Co_expectFirstBows (Nat.le_of_ble_eq_true rfl) rfl ?_
  refine zw_iconst ok_Co_expectFirstBows rfl ?_
  refine zw_istore_n ok_Co_expectFirstBows rfl rfl (by decide) ?_
  exact fb_out eP hP hk P.toNat 0 df (by omega) (by omega) ⟨rfl, rfl⟩
/-- what was told lies in its bounds (the class's cells) -/
def toldC (mem : zMem) : Prop := (0 ≤ mem 5 4 ∧ mem 5 4 ≤ 8) ∧ (∀ p, 0 ≤ p → p < mem 5 4 → 0 ≤ mem 6 p ∧ mem 6 p ≤ 2) ∧ (0 ≤ mem 16 3 ∧ mem 16 3 ≤ 8) ∧ (∀ u, 0 ≤ u → u < mem 16 3 → (0 ≤ mem 17 u ∧ mem 17 u ≤ 11) ∧ (0 ≤ mem 18 u ∧ mem 18 u ≤ 7)) ∧ (0 ≤ mem 12 3 ∧ mem 12 3 ≤ 12) ∧ (∀ k, 0 ≤ k → k < mem 12 3 → (0 ≤ mem 13 k ∧ mem 13 k ≤ 7) ∧ (0 ≤ mem 14 k ∧ mem 14 k ≤ 7))
theorem lay_olds {P ol : Int} {s : zS} (hT : toldC mem) (hol : -1 ≤ ol ∧ ol ≤ 11) (ll : Int) :
    ∀ (k : Nat) (j : Int) (df : Int → Int), 0 ≤ j → j + k = mem 12 3 → Q none (putC mem (st, hd, lp (odS (mem 9) ol (mem 13) (mem 14) (mem 15)) k j df) s) → AW m_Co_layOut 90 [some (vr 24), some (vi ol), some (vi ll), some (vi j)] [] (putC mem (st, hd, df) s) Q := by
  obtain ⟨t1, t2, t3, t4, t5, t6⟩ := hT
  intro k
  induction k with
  | zero =>
    intro j df h0 hj hx
    refine zw_iload_n ok_Co_layOut rfl rfl ?_
    refine zw_aload_n ok_Co_layOut rfl rfl ?_
    refine zw_getr ok_Co_layOut rfl fl_Co_35 rfl rfl ?_
    refine zw_geti ok_Co_layOut rfl fl_Co_68 rfl rfl ?_
    try simp only [rd_C9, rd_C10, rd_C11, rd_C12, rd_C25, rd_C26, rd_C27, rd_C28, rd_C29, rd_C_0, rd_C_1, rd_C_2, rd_C_3, rd_C_4, rd_C_5, rd_C_6, rd_C_7, rd_C_8, rd_C_9, rd_C_10, rd_C_11, rd_C_12, rd_C_13, rd_C_14, rd_C_15, rd_C_16, rd_C_17, rd_C_18, rd_C_19, rd_C_20, rd_C_21, rd_C_22, rd_C_23, rd_C_30, rd_C_31, rd_C_32, rd_C_33, rd_C_34, rd_C_35, rd_C_36, rd_C_37, rd_C_38, rd_C_39, rd_C_40, rd_C_41, rd_C_42, rd_C_43, rd_C_44, rd_C_45, rd_C_46, rd_C_47, rd_C_48, rd_C_49, rd_C_50, rd_C_51, rd_C_52, rd_C_53, rd_C_54, rd_C_55, rd_C_56, rd_C_57, rd_C_58, rd_C_59, rd_C_60, rd_C_61, rd_C_62, rd_C_63, rd_C_64, rd_C_65, wr_C9, wr_C10, wr_C11, wr_C12, wr_C25, wr_C26, wr_C27, wr_C28, wr_C29, wp_C25, wp_C26, wp_C27, wp_C28, wp_C29]
    refine zw_icmp_ge 143 ok_Co_layOut rfl (by decide) (by omega) (fun h98 => ?_) (fun h98 => ?_)
    · exact zw_vret ok_Co_layOut rfl rfl (hx)
    · exfalso; omega
  | succ k ih =>
    intro j df h0 hj hx
    rw [lp_s] at hx
    unfold odS at hx
    have q := t6 j h0 (by omega)
    refine zw_iload_n ok_Co_layOut rfl rfl ?_
    refine zw_aload_n ok_Co_layOut rfl rfl ?_
    refine zw_getr ok_Co_layOut rfl fl_Co_35 rfl rfl ?_
    refine zw_geti ok_Co_layOut rfl fl_Co_68 rfl rfl ?_
    try simp only [rd_C9, rd_C10, rd_C11, rd_C12, rd_C25, rd_C26, rd_C27, rd_C28, rd_C29, rd_C_0, rd_C_1, rd_C_2, rd_C_3, rd_C_4, rd_C_5, rd_C_6, rd_C_7, rd_C_8, rd_C_9, rd_C_10, rd_C_11, rd_C_12, rd_C_13, rd_C_14, rd_C_15, rd_C_16, rd_C_17, rd_C_18, rd_C_19, rd_C_20, rd_C_21, rd_C_22, rd_C_23, rd_C_30, rd_C_31, rd_C_32, rd_C_33, rd_C_34, rd_C_35, rd_C_36, rd_C_37, rd_C_38, rd_C_39, rd_C_40, rd_C_41, rd_C_42, rd_C_43, rd_C_44, rd_C_45, rd_C_46, rd_C_47, rd_C_48, rd_C_49, rd_C_50, rd_C_51, rd_C_52, rd_C_53, rd_C_54, rd_C_55, rd_C_56, rd_C_57, rd_C_58, rd_C_59, rd_C_60, rd_C_61, rd_C_62, rd_C_63, rd_C_64, rd_C_65, wr_C9, wr_C10, wr_C11, wr_C12, wr_C25, wr_C26, wr_C27, wr_C28, wr_C29, wp_C25, wp_C26, wp_C27, wp_C28, wp_C29]
    refine zw_icmp_ge 143 ok_Co_layOut rfl (by decide) (by omega) (fun h98 => ?_) (fun h98 => ?_)
    · exfalso; omega
    · refine zw_iload_n ok_Co_layOut rfl rfl ?_
      refine zw_iload_n ok_Co_layOut rfl rfl ?_
      refine zw_icmp_eq 137 ok_Co_layOut rfl (by decide) (by omega) (fun h103 => ?_) (fun h103 => ?_)
      · refine zw_iinc ok_Co_layOut rfl rfl rfl (by decide) ?_
        refine zw_goto 90 ok_Co_layOut rfl (by decide) ?_
        first
        | (rw [if_pos h103] at hx; exact ih (j + 1) _ (by omega) (by omega) hx)
        | (rw [if_neg h103] at hx; exact ih (j + 1) _ (by omega) (by omega) hx)
      · refine zw_aload_n ok_Co_layOut rfl rfl ?_
        refine zw_aload_n ok_Co_layOut rfl rfl ?_
        refine zw_getr ok_Co_layOut rfl fl_Co_35 rfl rfl ?_
        refine zw_getr ok_Co_layOut rfl fl_Co_74 rfl rfl ?_
        refine zw_iload_n ok_Co_layOut rfl rfl ?_
        refine zw_iald ok_Co_layOut rfl rfl (by omega) ?_
        try simp only [rd_C9, rd_C10, rd_C11, rd_C12, rd_C25, rd_C26, rd_C27, rd_C28, rd_C29, rd_C_0, rd_C_1, rd_C_2, rd_C_3, rd_C_4, rd_C_5, rd_C_6, rd_C_7, rd_C_8, rd_C_9, rd_C_10, rd_C_11, rd_C_12, rd_C_13, rd_C_14, rd_C_15, rd_C_16, rd_C_17, rd_C_18, rd_C_19, rd_C_20, rd_C_21, rd_C_22, rd_C_23, rd_C_30, rd_C_31, rd_C_32, rd_C_33, rd_C_34, rd_C_35, rd_C_36, rd_C_37, rd_C_38, rd_C_39, rd_C_40, rd_C_41, rd_C_42, rd_C_43, rd_C_44, rd_C_45, rd_C_46, rd_C_47, rd_C_48, rd_C_49, rd_C_50, rd_C_51, rd_C_52, rd_C_53, rd_C_54, rd_C_55, rd_C_56, rd_C_57, rd_C_58, rd_C_59, rd_C_60, rd_C_61, rd_C_62, rd_C_63, rd_C_64, rd_C_65, wr_C9, wr_C10, wr_C11, wr_C12, wr_C25, wr_C26, wr_C27, wr_C28, wr_C29, wp_C25, wp_C26, wp_C27, wp_C28, wp_C29]
        refine zw_aload_n ok_Co_layOut rfl rfl ?_
        refine zw_getr ok_Co_layOut rfl fl_Co_35 rfl rfl ?_
        refine zw_getr ok_Co_layOut rfl fl_Co_77 rfl rfl ?_
        refine zw_iload_n ok_Co_layOut rfl rfl ?_
        refine zw_iald ok_Co_layOut rfl rfl (by omega) ?_
        try simp only [rd_C9, rd_C10, rd_C11, rd_C12, rd_C25, rd_C26, rd_C27, rd_C28, rd_C29, rd_C_0, rd_C_1, rd_C_2, rd_C_3, rd_C_4, rd_C_5, rd_C_6, rd_C_7, rd_C_8, rd_C_9, rd_C_10, rd_C_11, rd_C_12, rd_C_13, rd_C_14, rd_C_15, rd_C_16, rd_C_17, rd_C_18, rd_C_19, rd_C_20, rd_C_21, rd_C_22, rd_C_23, rd_C_30, rd_C_31, rd_C_32, rd_C_33, rd_C_34, rd_C_35, rd_C_36, rd_C_37, rd_C_38, rd_C_39, rd_C_40, rd_C_41, rd_C_42, rd_C_43, rd_C_44, rd_C_45, rd_C_46, rd_C_47, rd_C_48, rd_C_49, rd_C_50, rd_C_51, rd_C_52, rd_C_53, rd_C_54, rd_C_55, rd_C_56, rd_C_57, rd_C_58, rd_C_59, rd_C_60, rd_C_61, rd_C_62, rd_C_63, rd_C_64, rd_C_65, wr_C9, wr_C10, wr_C11, wr_C12, wr_C25, wr_C26, wr_C27, wr_C28, wr_C29, wp_C25, wp_C26, wp_C27, wp_C28, wp_C29]
        refine zw_aload_n ok_Co_layOut rfl rfl ?_
        refine zw_getr ok_Co_layOut rfl fl_Co_35 rfl rfl ?_
        refine zw_getr ok_Co_layOut rfl fl_Co_83 rfl rfl ?_
        refine zw_iload_n ok_Co_layOut rfl rfl ?_
        refine zw_iald ok_Co_layOut rfl rfl (by omega) ?_
        try simp only [rd_C9, rd_C10, rd_C11, rd_C12, rd_C25, rd_C26, rd_C27, rd_C28, rd_C29, rd_C_0, rd_C_1, rd_C_2, rd_C_3, rd_C_4, rd_C_5, rd_C_6, rd_C_7, rd_C_8, rd_C_9, rd_C_10, rd_C_11, rd_C_12, rd_C_13, rd_C_14, rd_C_15, rd_C_16, rd_C_17, rd_C_18, rd_C_19, rd_C_20, rd_C_21, rd_C_22, rd_C_23, rd_C_30, rd_C_31, rd_C_32, rd_C_33, rd_C_34, rd_C_35, rd_C_36, rd_C_37, rd_C_38, rd_C_39, rd_C_40, rd_C_41, rd_C_42, rd_C_43, rd_C_44, rd_C_45, rd_C_46, rd_C_47, rd_C_48, rd_C_49, rd_C_50, rd_C_51, rd_C_52, rd_C_53, rd_C_54, rd_C_55, rd_C_56, rd_C_57, rd_C_58, rd_C_59, rd_C_60, rd_C_61, rd_C_62, rd_C_63, rd_C_64, rd_C_65, wr_C9, wr_C10, wr_C11, wr_C12, wr_C25, wr_C26, wr_C27, wr_C28, wr_C29, wp_C25, wp_C26, wp_C27, wp_C28, wp_C29]
        refine zw_Vvp ok_Co_layOut rfl ok_Co_expectAnswerTo lk_Co_86 (by decide) rfl rfl (Nat.le_of_ble_eq_true rfl) (ct_Co_expectAnswerTo (by omega) (by omega)) ?_
        refine zw_iinc ok_Co_layOut rfl rfl rfl (by decide) ?_
        refine zw_goto 90 ok_Co_layOut rfl (by decide) ?_
        first
        | (rw [if_pos h103] at hx; exact ih (j + 1) _ (by omega) (by omega) hx)
        | (rw [if_neg h103] at hx; exact ih (j + 1) _ (by omega) (by omega) hx)
theorem lay_umb {s : zS} {ol ll : Int} (hT : toldC mem) :
    ∀ (k : Nat) (u : Int) (hd : Int → Int), 0 ≤ u → u + k = mem 16 3 → AW m_Co_layOut 84 [some (vr 24), some (vi ol), some (vi ll), none] [] (putC mem (st, lp (hdS ll (mem 17) (mem 18)) k u hd, df) s) Q → AW m_Co_layOut 31 [some (vr 24), some (vi ol), some (vi ll), some (vi u)] [] (putC mem (st, hd, df) s) Q := by
  obtain ⟨t1, t2, t3, t4, t5, t6⟩ := hT
  intro k
  induction k with
  | zero =>
    intro u hd h0 hu hx
    refine zw_iload_n ok_Co_layOut rfl rfl ?_
    refine zw_aload_n ok_Co_layOut rfl rfl ?_
    refine zw_getr ok_Co_layOut rfl fl_Co_39 rfl rfl ?_
    refine zw_geti ok_Co_layOut rfl fl_Co_68 rfl rfl ?_
    try simp only [rd_C9, rd_C10, rd_C11, rd_C12, rd_C25, rd_C26, rd_C27, rd_C28, rd_C29, rd_C_0, rd_C_1, rd_C_2, rd_C_3, rd_C_4, rd_C_5, rd_C_6, rd_C_7, rd_C_8, rd_C_9, rd_C_10, rd_C_11, rd_C_12, rd_C_13, rd_C_14, rd_C_15, rd_C_16, rd_C_17, rd_C_18, rd_C_19, rd_C_20, rd_C_21, rd_C_22, rd_C_23, rd_C_30, rd_C_31, rd_C_32, rd_C_33, rd_C_34, rd_C_35, rd_C_36, rd_C_37, rd_C_38, rd_C_39, rd_C_40, rd_C_41, rd_C_42, rd_C_43, rd_C_44, rd_C_45, rd_C_46, rd_C_47, rd_C_48, rd_C_49, rd_C_50, rd_C_51, rd_C_52, rd_C_53, rd_C_54, rd_C_55, rd_C_56, rd_C_57, rd_C_58, rd_C_59, rd_C_60, rd_C_61, rd_C_62, rd_C_63, rd_C_64, rd_C_65, wr_C9, wr_C10, wr_C11, wr_C12, wr_C25, wr_C26, wr_C27, wr_C28, wr_C29, wp_C25, wp_C26, wp_C27, wp_C28, wp_C29]
    refine zw_icmp_ge 84 ok_Co_layOut rfl (by decide) (by omega) (fun h39 => ?_) (fun h39 => ?_)
    · refine zw_mask [true, true, true, false] rfl ?_
      exact hx
    · exfalso; omega
  | succ k ih =>
    intro u hd h0 hu hx
    rw [lp_s] at hx
    unfold hdS at hx
    have q := t4 u h0 (by omega)
    refine zw_iload_n ok_Co_layOut rfl rfl ?_
    refine zw_aload_n ok_Co_layOut rfl rfl ?_
    refine zw_getr ok_Co_layOut rfl fl_Co_39 rfl rfl ?_
    refine zw_geti ok_Co_layOut rfl fl_Co_68 rfl rfl ?_
    try simp only [rd_C9, rd_C10, rd_C11, rd_C12, rd_C25, rd_C26, rd_C27, rd_C28, rd_C29, rd_C_0, rd_C_1, rd_C_2, rd_C_3, rd_C_4, rd_C_5, rd_C_6, rd_C_7, rd_C_8, rd_C_9, rd_C_10, rd_C_11, rd_C_12, rd_C_13, rd_C_14, rd_C_15, rd_C_16, rd_C_17, rd_C_18, rd_C_19, rd_C_20, rd_C_21, rd_C_22, rd_C_23, rd_C_30, rd_C_31, rd_C_32, rd_C_33, rd_C_34, rd_C_35, rd_C_36, rd_C_37, rd_C_38, rd_C_39, rd_C_40, rd_C_41, rd_C_42, rd_C_43, rd_C_44, rd_C_45, rd_C_46, rd_C_47, rd_C_48, rd_C_49, rd_C_50, rd_C_51, rd_C_52, rd_C_53, rd_C_54, rd_C_55, rd_C_56, rd_C_57, rd_C_58, rd_C_59, rd_C_60, rd_C_61, rd_C_62, rd_C_63, rd_C_64, rd_C_65, wr_C9, wr_C10, wr_C11, wr_C12, wr_C25, wr_C26, wr_C27, wr_C28, wr_C29, wp_C25, wp_C26, wp_C27, wp_C28, wp_C29]
    refine zw_icmp_ge 84 ok_Co_layOut rfl (by decide) (by omega) (fun h39 => ?_) (fun h39 => ?_)
    · exfalso; omega
    · refine zw_iload_n ok_Co_layOut rfl rfl ?_
      refine zw_iload_n ok_Co_layOut rfl rfl ?_
      refine zw_ishr ok_Co_layOut rfl ?_
      refine zw_iconst ok_Co_layOut rfl ?_
      refine zw_iand ok_Co_layOut rfl ?_
      refine zw_if_ne 78 ok_Co_layOut rfl (by decide) (zR_and _ _) (fun h47 => ?_) (fun h47 => ?_)
      · rw [tb_ask0 _ (by omega)] at h47
        refine zw_iinc ok_Co_layOut rfl rfl rfl (by decide) ?_
        refine zw_goto 31 ok_Co_layOut rfl (by decide) ?_
        first
        | (rw [if_pos (by simpa using h47)] at hx; exact ih (u + 1) _ (by omega) (by omega) hx)
        | (rw [if_neg (by simp [h47])] at hx; exact ih (u + 1) _ (by omega) (by omega) hx)
      · rw [tb_ask0 _ (by omega)] at h47
        refine zw_aload_n ok_Co_layOut rfl rfl ?_
        refine zw_getr ok_Co_layOut rfl fl_Co_15 rfl rfl ?_
        refine zw_aload_n ok_Co_layOut rfl rfl ?_
        refine zw_getr ok_Co_layOut rfl fl_Co_39 rfl rfl ?_
        refine zw_getr ok_Co_layOut rfl fl_Co_74 rfl rfl ?_
        refine zw_iload_n ok_Co_layOut rfl rfl ?_
        refine zw_iald ok_Co_layOut rfl rfl (by omega) ?_
        try simp only [rd_C9, rd_C10, rd_C11, rd_C12, rd_C25, rd_C26, rd_C27, rd_C28, rd_C29, rd_C_0, rd_C_1, rd_C_2, rd_C_3, rd_C_4, rd_C_5, rd_C_6, rd_C_7, rd_C_8, rd_C_9, rd_C_10, rd_C_11, rd_C_12, rd_C_13, rd_C_14, rd_C_15, rd_C_16, rd_C_17, rd_C_18, rd_C_19, rd_C_20, rd_C_21, rd_C_22, rd_C_23, rd_C_30, rd_C_31, rd_C_32, rd_C_33, rd_C_34, rd_C_35, rd_C_36, rd_C_37, rd_C_38, rd_C_39, rd_C_40, rd_C_41, rd_C_42, rd_C_43, rd_C_44, rd_C_45, rd_C_46, rd_C_47, rd_C_48, rd_C_49, rd_C_50, rd_C_51, rd_C_52, rd_C_53, rd_C_54, rd_C_55, rd_C_56, rd_C_57, rd_C_58, rd_C_59, rd_C_60, rd_C_61, rd_C_62, rd_C_63, rd_C_64, rd_C_65, wr_C9, wr_C10, wr_C11, wr_C12, wr_C25, wr_C26, wr_C27, wr_C28, wr_C29, wp_C25, wp_C26, wp_C27, wp_C28, wp_C29]
        refine zw_dup2 ok_Co_layOut rfl ?_
        refine zw_iald ok_Co_layOut rfl rfl (by omega) ?_
        try simp only [rd_C9, rd_C10, rd_C11, rd_C12, rd_C25, rd_C26, rd_C27, rd_C28, rd_C29, rd_C_0, rd_C_1, rd_C_2, rd_C_3, rd_C_4, rd_C_5, rd_C_6, rd_C_7, rd_C_8, rd_C_9, rd_C_10, rd_C_11, rd_C_12, rd_C_13, rd_C_14, rd_C_15, rd_C_16, rd_C_17, rd_C_18, rd_C_19, rd_C_20, rd_C_21, rd_C_22, rd_C_23, rd_C_30, rd_C_31, rd_C_32, rd_C_33, rd_C_34, rd_C_35, rd_C_36, rd_C_37, rd_C_38, rd_C_39, rd_C_40, rd_C_41, rd_C_42, rd_C_43, rd_C_44, rd_C_45, rd_C_46, rd_C_47, rd_C_48, rd_C_49, rd_C_50, rd_C_51, rd_C_52, rd_C_53, rd_C_54, rd_C_55, rd_C_56, rd_C_57, rd_C_58, rd_C_59, rd_C_60, rd_C_61, rd_C_62, rd_C_63, rd_C_64, rd_C_65, wr_C9, wr_C10, wr_C11, wr_C12, wr_C25, wr_C26, wr_C27, wr_C28, wr_C29, wp_C25, wp_C26, wp_C27, wp_C28, wp_C29]
        refine zw_iconst ok_Co_layOut rfl ?_
        refine zw_aload_n ok_Co_layOut rfl rfl ?_
        refine zw_getr ok_Co_layOut rfl fl_Co_39 rfl rfl ?_
        refine zw_getr ok_Co_layOut rfl fl_Co_77 rfl rfl ?_
        refine zw_iload_n ok_Co_layOut rfl rfl ?_
        refine zw_iald ok_Co_layOut rfl rfl (by omega) ?_
        try simp only [rd_C9, rd_C10, rd_C11, rd_C12, rd_C25, rd_C26, rd_C27, rd_C28, rd_C29, rd_C_0, rd_C_1, rd_C_2, rd_C_3, rd_C_4, rd_C_5, rd_C_6, rd_C_7, rd_C_8, rd_C_9, rd_C_10, rd_C_11, rd_C_12, rd_C_13, rd_C_14, rd_C_15, rd_C_16, rd_C_17, rd_C_18, rd_C_19, rd_C_20, rd_C_21, rd_C_22, rd_C_23, rd_C_30, rd_C_31, rd_C_32, rd_C_33, rd_C_34, rd_C_35, rd_C_36, rd_C_37, rd_C_38, rd_C_39, rd_C_40, rd_C_41, rd_C_42, rd_C_43, rd_C_44, rd_C_45, rd_C_46, rd_C_47, rd_C_48, rd_C_49, rd_C_50, rd_C_51, rd_C_52, rd_C_53, rd_C_54, rd_C_55, rd_C_56, rd_C_57, rd_C_58, rd_C_59, rd_C_60, rd_C_61, rd_C_62, rd_C_63, rd_C_64, rd_C_65, wr_C9, wr_C10, wr_C11, wr_C12, wr_C25, wr_C26, wr_C27, wr_C28, wr_C29, wp_C25, wp_C26, wp_C27, wp_C28, wp_C29]
        refine zw_ishl ok_Co_layOut rfl ?_
        refine zw_ior ok_Co_layOut rfl ?_
        refine zw_iast ok_Co_layOut rfl rfl (by omega) ?_
        try simp only [rd_C9, rd_C10, rd_C11, rd_C12, rd_C25, rd_C26, rd_C27, rd_C28, rd_C29, rd_C_0, rd_C_1, rd_C_2, rd_C_3, rd_C_4, rd_C_5, rd_C_6, rd_C_7, rd_C_8, rd_C_9, rd_C_10, rd_C_11, rd_C_12, rd_C_13, rd_C_14, rd_C_15, rd_C_16, rd_C_17, rd_C_18, rd_C_19, rd_C_20, rd_C_21, rd_C_22, rd_C_23, rd_C_30, rd_C_31, rd_C_32, rd_C_33, rd_C_34, rd_C_35, rd_C_36, rd_C_37, rd_C_38, rd_C_39, rd_C_40, rd_C_41, rd_C_42, rd_C_43, rd_C_44, rd_C_45, rd_C_46, rd_C_47, rd_C_48, rd_C_49, rd_C_50, rd_C_51, rd_C_52, rd_C_53, rd_C_54, rd_C_55, rd_C_56, rd_C_57, rd_C_58, rd_C_59, rd_C_60, rd_C_61, rd_C_62, rd_C_63, rd_C_64, rd_C_65, wr_C9, wr_C10, wr_C11, wr_C12, wr_C25, wr_C26, wr_C27, wr_C28, wr_C29, wp_C25, wp_C26, wp_C27, wp_C28, wp_C29]
        refine zw_iinc ok_Co_layOut rfl rfl rfl (by decide) ?_
        refine zw_goto 31 ok_Co_layOut rfl (by decide) ?_
        first
        | (rw [if_pos (by simpa using h47)] at hx; exact ih (u + 1) _ (by omega) (by omega) hx)
        | (rw [if_neg (by simp [h47])] at hx; exact ih (u + 1) _ (by omega) (by omega) hx)
theorem ct_Co_layOut {s : zS} {ol ll : Int} (hT : toldC mem) (hol : -1 ≤ ol ∧ ol ≤ 11) : zCvp m_Co_layOut [vr 24, vi ol, vi ll] (putC mem (st, hd, df) s) (putC mem (layS mem ol ll (st, hd, df)) s) := by
  refine zCt.of [some (vr 24), some (vi ol), some (vi ll), none] ok_Co_layOut (Nat.le_of_ble_eq_true rfl) rfl ?_
  have t1 := hT.1
  have t3 := hT.2.2.1
  have t5 := hT.2.2.2.2.1
  have K : ∀ hd2 : Int → Int, AW m_Co_layOut 84 [some (vr 24), some (vi ol), some (vi ll), none] [] (putC mem (zcpy (mem 11) st 0 0 96, hd2, df) s) (fun r m2 => r = none ∧ m2 = putC mem (zcpy (mem 11) st 0 0 96, hd2, lp (odS (mem 9) ol (mem 13) (mem 14) (mem 15)) (mem 12 3).toNat 0 (efbS (mem 5 4) (mem 6) df)) s) := by
    intro hd2
    refine zw_aload_n ok_Co_layOut rfl rfl ?_
    refine zw_Vvp ok_Co_layOut rfl ok_Co_expectFirstBows lk_Co_80 (by decide) rfl rfl (Nat.le_of_ble_eq_true rfl) (ct_Co_expectFirstBows rfl t1 hT.2.1) ?_
    refine zw_iconst ok_Co_layOut rfl ?_
    refine zw_istore_n ok_Co_layOut rfl rfl (by decide) ?_
    exact lay_olds (P := 0) hT hol ll (mem 12 3).toNat 0 _ (by omega) (by omega) ⟨rfl, rfl⟩
  refine zw_aload_n ok_Co_layOut rfl rfl ?_
  refine zw_getr ok_Co_layOut rfl fl_Co_31 rfl rfl ?_
  refine zw_getr ok_Co_layOut rfl fl_Co_53 rfl rfl ?_
  refine zw_iconst ok_Co_layOut rfl ?_
  refine zw_aload_n ok_Co_layOut rfl rfl ?_
  refine zw_getr ok_Co_layOut rfl fl_Co_9 rfl rfl ?_
  refine zw_iconst ok_Co_layOut rfl ?_
  refine zw_aload_n ok_Co_layOut rfl rfl ?_
  refine zw_getr ok_Co_layOut rfl fl_Co_9 rfl rfl ?_
  refine zw_alen ok_Co_layOut rfl rfl (by decide) ?_
  refine zw_copy ok_Co_layOut rfl la_Co_56 rfl rfl (by decide) ⟨by decide, Nat.le_of_ble_eq_true rfl⟩ ?_
  try simp only [rd_C9, rd_C10, rd_C11, rd_C12, rd_C25, rd_C26, rd_C27, rd_C28, rd_C29, rd_C_0, rd_C_1, rd_C_2, rd_C_3, rd_C_4, rd_C_5, rd_C_6, rd_C_7, rd_C_8, rd_C_9, rd_C_10, rd_C_11, rd_C_12, rd_C_13, rd_C_14, rd_C_15, rd_C_16, rd_C_17, rd_C_18, rd_C_19, rd_C_20, rd_C_21, rd_C_22, rd_C_23, rd_C_30, rd_C_31, rd_C_32, rd_C_33, rd_C_34, rd_C_35, rd_C_36, rd_C_37, rd_C_38, rd_C_39, rd_C_40, rd_C_41, rd_C_42, rd_C_43, rd_C_44, rd_C_45, rd_C_46, rd_C_47, rd_C_48, rd_C_49, rd_C_50, rd_C_51, rd_C_52, rd_C_53, rd_C_54, rd_C_55, rd_C_56, rd_C_57, rd_C_58, rd_C_59, rd_C_60, rd_C_61, rd_C_62, rd_C_63, rd_C_64, rd_C_65, wr_C9, wr_C10, wr_C11, wr_C12, wr_C25, wr_C26, wr_C27, wr_C28, wr_C29, wp_C25, wp_C26, wp_C27, wp_C28, wp_C29]
  refine zw_aload_n ok_Co_layOut rfl rfl ?_
  refine zw_getr ok_Co_layOut rfl fl_Co_15 rfl rfl ?_
  refine zw_iconst ok_Co_layOut rfl ?_
  refine zw_Svp ok_Co_layOut rfl ok_Jarr_fill_53178 lk_Co_62 (by decide) rfl (Nat.le_of_ble_eq_true rfl) (ct_Jarr_fill_53178 rfl) ?_
  simp only [rd_C9, rd_C10, rd_C11, rd_C12, rd_C25, rd_C26, rd_C27, rd_C28, rd_C29, rd_C_0, rd_C_1, rd_C_2, rd_C_3, rd_C_4, rd_C_5, rd_C_6, rd_C_7, rd_C_8, rd_C_9, rd_C_10, rd_C_11, rd_C_12, rd_C_13, rd_C_14, rd_C_15, rd_C_16, rd_C_17, rd_C_18, rd_C_19, rd_C_20, rd_C_21, rd_C_22, rd_C_23, rd_C_30, rd_C_31, rd_C_32, rd_C_33, rd_C_34, rd_C_35, rd_C_36, rd_C_37, rd_C_38, rd_C_39, rd_C_40, rd_C_41, rd_C_42, rd_C_43, rd_C_44, rd_C_45, rd_C_46, rd_C_47, rd_C_48, rd_C_49, rd_C_50, rd_C_51, rd_C_52, rd_C_53, rd_C_54, rd_C_55, rd_C_56, rd_C_57, rd_C_58, rd_C_59, rd_C_60, rd_C_61, rd_C_62, rd_C_63, rd_C_64, rd_C_65, wr_C9, wr_C10, wr_C11, wr_C12, wr_C25, wr_C26, wr_C27, wr_C28, wr_C29, wp_C25, wp_C26, wp_C27, wp_C28, wp_C29]
  refine zw_iconst ok_Co_layOut rfl ?_
  refine zw_istore_n ok_Co_layOut rfl rfl (by decide) ?_
  exact lay_umb hT (mem 16 3).toNat 0 _ (by omega) (by omega) (K _)
/-- all that the coast needs of what was told -/
def okC (mem : zMem) : Prop := toldC mem ∧ pInv (mem 5 4) (mem 7) (mem 9) ∧ (∀ i, 0 ≤ i → i < 96 → -1 ≤ mem 11 i ∧ mem 11 i ≤ 7) ∧ (∀ k, 0 ≤ k → k < mem 12 3 → mem 13 k ≠ mem 14 k ∧ (1 ≤ mem 15 k ∧ mem 15 k ≤ 99))
theorem zcpy96 {f g : Int → Int} {i : Int} (h : 0 ≤ i ∧ i < 96) : zcpy f g 0 0 96 i = f i := by
  unfold zcpy
  rw [if_pos (by omega)]
  congr 1
  omega
theorem layS_st {L : zL} {ol ll : Int} (h : okC mem) : ∀ i, 0 ≤ i → i < 96 → -1 ≤ (layS mem ol ll L).1 i ∧ (layS mem ol ll L).1 i ≤ 7 := by
  intro i h1 h2
  show -1 ≤ zcpy (mem 11) L.1 0 0 96 i ∧ zcpy (mem 11) L.1 0 0 96 i ≤ 7
  rw [zcpy96 ⟨h1, h2⟩]
  exact h.2.2.1 i h1 h2
def dfI (P : Int) (df : Int → Int) : Prop := ∀ a b, 0 ≤ a → a < b → b < P → (1 ≤ df (a * 8 + b) ∧ df (a * 8 + b) ≤ 109) ∨ (-109 ≤ df (a * 8 + b) ∧ df (a * 8 + b) ≤ -1)
theorem efb_at {P : Int} {kind : Int → Int} (hP : P ≤ 8) {df : Int → Int} {a b : Int} (ha : 0 ≤ a) (hab : a < b) (hb : b < P) : efbS P kind df (a * 8 + b) = if kind a = 1 ∧ kind b ≠ 1 then -1 else 1 := by
  have fbv : ∀ df, fbS kind a b df = zupd df (a * 8 + b) (if kind a = 1 ∧ kind b ≠ 1 then -1 else 1) := fun _ => rfl
  generalize (if kind a = 1 ∧ kind b ≠ 1 then (-1 : Int) else 1) = v at fbv ⊢
  have inn : ∀ (k : Nat) (c b' : Int) (df : Int → Int), 0 ≤ c → c < b' → b' + k = P → (lp (fbS kind c) k b' df) (a * 8 + b) = if c = a ∧ b' ≤ b then v else df (a * 8 + b) := by
    intro k
    induction k with
    | zero =>
      intro c b' df h0 h1 h2
      rw [if_neg (by omega)]
      rfl
    | succ k ih =>
      intro c b' df h0 h1 h2
      rw [lp_s, ih c (b' + 1) _ h0 (by omega) (by omega)]
      by_cases hc : c = a
      · subst hc
        by_cases hb1 : b' + 1 ≤ b
        · rw [if_pos ⟨rfl, hb1⟩, if_pos ⟨rfl, by omega⟩]
        · rw [if_neg (by omega)]
          by_cases hb2 : b' = b
          · subst hb2
            rw [if_pos ⟨rfl, Int.le_refl _⟩, fbv, zupd_eq]
          · rw [if_neg (by omega), fbS, zupd_ne (by omega)]
      · rw [if_neg (by omega), if_neg (by omega), fbS, zupd_ne (by omega)]
  have out : ∀ (k : Nat) (c : Int) (df : Int → Int), 0 ≤ c → c + k = P → (lp (fbO P kind) k c df) (a * 8 + b) = if c ≤ a then v else df (a * 8 + b) := by
    intro k
    induction k with
    | zero =>
      intro c df h0 h1
      rw [if_neg (by omega)]
      rfl
    | succ k ih =>
      intro c df h0 h1
      rw [lp_s, ih (c + 1) _ (by omega) (by omega)]
      by_cases hc : c + 1 ≤ a
      · rw [if_pos hc, if_pos (by omega)]
      · rw [if_neg hc, fbO, inn _ c (c + 1) df h0 (by omega) (by omega)]
        by_cases hc2 : c = a
        · rw [if_pos ⟨hc2, by omega⟩, if_pos (by omega)]
        · rw [if_neg (by omega), if_neg (by omega)]
  have := out P.toNat 0 df (by omega) (by omega)
  rw [if_pos ha] at this
  exact this
theorem layS_df {L : zL} {ol ll : Int} (h : okC mem) : dfI (mem 5 4) (layS mem ol ll L).2.2 := by
  obtain ⟨⟨t1, t2, t3, t4, t5, t6⟩, ⟨p1, p2, p3⟩, -, ho⟩ := h
  have h0 : dfI (mem 5 4) (efbS (mem 5 4) (mem 6) L.2.2) := by
    intro a b ha hab hb
    rw [efb_at p2 ha hab hb]
    split <;> omega
  show dfI (mem 5 4) (lp (odS (mem 9) ol (mem 13) (mem 14) (mem 15)) (mem 12 3).toNat 0 (efbS (mem 5 4) (mem 6) L.2.2))
  refine lp_inv (I := dfI (mem 5 4)) _ _ _ (fun k df hk1 hk2 hd => ?_) h0
  unfold odS
  split
  · exact hd
  · have q1 := t6 k hk1 (by omega)
    have q2 := ho k hk1 (by omega)
    intro a b ha hab hb
    have pb := p3 b (by omega) hb
    have pa := p3 a ha (by omega)
    unfold eaS
    split
    · by_cases e : a * 8 + b = mem 13 k * 8 + mem 14 k
      · have e1 : a = mem 13 k ∧ b = mem 14 k := by omega
        rw [e, zupd_eq, ← e1.2]
        omega
      · rw [zupd_ne e]; exact hd a b ha hab hb
    · by_cases e : a * 8 + b = mem 14 k * 8 + mem 13 k
      · have e1 : a = mem 14 k ∧ b = mem 13 k := by omega
        rw [e, zupd_eq, ← e1.1]
        omega
      · rw [zupd_ne e]; exact hd a b ha hab hb
/-- the coast behind an hour, as told but for an old bow and some umbrellas -/
def simC (mem : zMem) (ol ll : Int) (n : Nat) (L : zL) (s : zS) : zS := walkS (mem 5 4) (mem 7) (mem 9) (layS mem ol ll L).1 (fun h => zor ((layS mem ol ll L).2.1 h) (mem 5 5)) n (begS (layS mem ol ll L).2.2 s.1 s.2.1)
theorem simB_inv {L : zL} {s : zS} {ol ll : Int} (h : okC mem) : sInv (mem 5 4) (begS (layS mem ol ll L).2.2 s.1 s.2.1) := begS_inv h.2.1.2.1 (layS_df h)
theorem simC_inv {L : zL} {s : zS} {ol ll : Int} {n : Nat} (h : okC mem) : sInv (mem 5 4) (simC mem ol ll n L s) := walkS_inv h.2.1 (simB_inv h)
theorem ct_Co_walkAsTold {L : zL} {s : zS} {h : Int} (hh : 0 ≤ h ∧ h ≤ 11) (hC : okC mem) : zCvp m_Co_walkAsTold [vr 24, vi h] (putC mem L s) (putC mem (layS mem (-1) 0 L) (simC mem (-1) 0 (h + 1).toNat L s)) := by
  obtain ⟨st, hd, df⟩ := L
  refine zCt.of [some (vr 24), some (vi h)] ok_Co_walkAsTold (Nat.le_of_ble_eq_true rfl) rfl ?_
  refine zw_aload_n ok_Co_walkAsTold rfl rfl ?_
  refine zw_iconst ok_Co_walkAsTold rfl ?_
  refine zw_iconst ok_Co_walkAsTold rfl ?_
  refine zw_Vvp ok_Co_walkAsTold rfl ok_Co_layOut lk_Co_42 (by decide) rfl rfl (Nat.le_of_ble_eq_true rfl) (ct_Co_layOut hC.1 (by omega)) ?_
  refine zw_aload_n ok_Co_walkAsTold rfl rfl ?_
  refine zw_Vvp ok_Co_walkAsTold rfl ok_Co_begin lk_Co_46 (by decide) rfl rfl (Nat.le_of_ble_eq_true rfl) (ct_Co_begin) ?_
  refine zw_aload_n ok_Co_walkAsTold rfl rfl ?_
  refine zw_iload_n ok_Co_walkAsTold rfl rfl ?_
  refine zw_Vvp ok_Co_walkAsTold rfl ok_Co_walkTo lk_Co_49 (by decide) rfl rfl (Nat.le_of_ble_eq_true rfl) (ct_Co_walkTo hC.2.1 rfl hh (layS_st (ol := -1) (ll := 0) (L := (st, hd, df)) hC) (simB_inv (ol := -1) (ll := 0) (L := (st, hd, df)) hC) ⟨Int.le_refl _, (show (-1 : Int) ≤ 11 by decide)⟩) ?_
  exact zw_vret ok_Co_walkAsTold rfl rfl (⟨rfl, rfl⟩)
/-- a season: n meetings by lot -/
def mayS (cl : Int) (a b : Int) (s : zS) : Bool := decide (a ≠ b ∧ (tb cl a.toNat = false ∧ tb s.2.2.1 a.toNat = false) ∧ (tb cl b.toNat = false ∧ tb s.2.2.1 b.toNat = false))
def lotS (P : Int) (can step : Int → Int) (cl : Int) : Nat → Int → zS → zS
  | 0, _, s => s
  | k + 1, x, s => lotS P can step cl k (1103515245 * (1103515245 * x + 12345) + 12345)
      (if mayS cl (zushr (1103515245 * x + 12345) 16 % P) (zushr (1103515245 * (1103515245 * x + 12345) + 12345) 16 % P) s = true then
        meetS can step (min (zushr (1103515245 * x + 12345) 16 % P) (zushr (1103515245 * (1103515245 * x + 12345) + 12345) 16 % P)) (max (zushr (1103515245 * x + 12345) 16 % P) (zushr (1103515245 * (1103515245 * x + 12345) + 12345) 16 % P)) s
      else s)
theorem zushr16 (x : Int) : 0 ≤ zushr x 16 ∧ zushr x 16 < 65536 := by
  have e : zushr x 16 = (((Int32.ofInt x).toUInt32.toNat / 65536 : Nat) : Int) := by
    unfold zushr
    generalize (Int32.ofInt x).toUInt32 = y
    have h1 : ((Int32.ofInt 16).toUInt32 &&& Int32.toUInt32 31) = 16 := by decide +kernel
    rw [h1]
    have h2 : (y >>> 16).toNat = y.toNat / 65536 := by
      rw [UInt32.toNat_shiftRight]
      show y.toNat >>> 16 = _
      rw [Nat.shiftRight_eq_div_pow]
    have h3 : (y >>> 16).toNat < 65536 := by rw [h2]; have := y.toNat_lt; omega
    rw [← h2]
    generalize y >>> 16 = w at h3
    have h5 : UInt32.ofNat w.toNat = w := by
      apply UInt32.toNat_inj.1
      exact Nat.mod_eq_of_lt w.toNat_lt
    have h4 : w.toInt32 = nI w.toNat := by
      have h6 : (UInt32.ofNat w.toNat).toInt32 = nI w.toNat := rfl
      rw [h5] at h6
      exact h6
    rw [h4, nI_toInt (by omega)]
  have := (Int32.ofInt x).toUInt32.toNat_lt
  omega
theorem lot_loop {P times : Int} {L : zL} (hC : okC mem) (eP : mem 5 4 = P) (hP0 : 0 < P) (ht : 0 ≤ times ∧ times ≤ 99) (sd : Int) :
    ∀ (k : Nat) (i x : Int) (s : zS), 0 ≤ i → i + k = times → sInv P s → Q none (putC mem L (lotS P (mem 7) (mem 9) (mem 5 5) k x s)) → AW m_Co_meetByLot 16 [some (vr 24), some (vi sd), some (vi times), some (vi x), some (vi i), none, none] [] (putC mem L s) Q := by
  have hP := hC.2.1
  have hP8 := hP.2.1
  rw [eP] at hP hP8
  intro k
  induction k with
  | zero =>
    intro i x s h0 hi hs hx
    refine zw_iload ok_Co_meetByLot rfl rfl ?_
    refine zw_iload_n ok_Co_meetByLot rfl rfl ?_
    refine zw_icmp_ge 93 ok_Co_meetByLot rfl (by decide) (by omega) (fun h19 => ?_) (fun h19 => ?_)
    · exact zw_vret ok_Co_meetByLot rfl rfl (hx)
    · exfalso; omega
  | succ k ih =>
    intro i x s h0 hi hs hx
    rw [lotS] at hx
    unfold mayS at hx
    have u1 := zushr16 (1103515245 * x + 12345)
    have u2 := zushr16 (1103515245 * (1103515245 * x + 12345) + 12345)
    have v1 := Int.emod_nonneg (zushr (1103515245 * x + 12345) 16) (show P ≠ 0 by omega)
    have v2 := Int.emod_lt_of_pos (zushr (1103515245 * x + 12345) 16) hP0
    have v3 := Int.emod_nonneg (zushr (1103515245 * (1103515245 * x + 12345) + 12345) 16) (show P ≠ 0 by omega)
    have v4 := Int.emod_lt_of_pos (zushr (1103515245 * (1103515245 * x + 12345) + 12345) 16) hP0
    refine zw_iload ok_Co_meetByLot rfl rfl ?_
    refine zw_iload_n ok_Co_meetByLot rfl rfl ?_
    refine zw_icmp_ge 93 ok_Co_meetByLot rfl (by decide) (by omega) (fun h19 => ?_) (fun h19 => ?_)
    · exfalso; omega
    · refine zw_ldc ok_Co_meetByLot rfl kc_Co_139 ?_
      refine zw_iload_n ok_Co_meetByLot rfl rfl ?_
      refine zw_imul ok_Co_meetByLot rfl ?_
      refine zw_sipush ok_Co_meetByLot rfl (by decide) ?_
      refine zw_iadd ok_Co_meetByLot rfl ?_
      refine zw_istore_n ok_Co_meetByLot rfl rfl (by decide) ?_
      refine zw_iload_n ok_Co_meetByLot rfl rfl ?_
      refine zw_bipush ok_Co_meetByLot rfl (by decide) ?_
      refine zw_iushr ok_Co_meetByLot rfl ?_
      refine zw_aload_n ok_Co_meetByLot rfl rfl ?_
      refine zw_getr ok_Co_meetByLot rfl fl_Co_27 rfl rfl ?_
      refine zw_geti ok_Co_meetByLot rfl fl_Co_90 rfl rfl ?_
      simp only [rd_C9, rd_C10, rd_C11, rd_C12, rd_C25, rd_C26, rd_C27, rd_C28, rd_C29, rd_C_0, rd_C_1, rd_C_2, rd_C_3, rd_C_4, rd_C_5, rd_C_6, rd_C_7, rd_C_8, rd_C_9, rd_C_10, rd_C_11, rd_C_12, rd_C_13, rd_C_14, rd_C_15, rd_C_16, rd_C_17, rd_C_18, rd_C_19, rd_C_20, rd_C_21, rd_C_22, rd_C_23, rd_C_30, rd_C_31, rd_C_32, rd_C_33, rd_C_34, rd_C_35, rd_C_36, rd_C_37, rd_C_38, rd_C_39, rd_C_40, rd_C_41, rd_C_42, rd_C_43, rd_C_44, rd_C_45, rd_C_46, rd_C_47, rd_C_48, rd_C_49, rd_C_50, rd_C_51, rd_C_52, rd_C_53, rd_C_54, rd_C_55, rd_C_56, rd_C_57, rd_C_58, rd_C_59, rd_C_60, rd_C_61, rd_C_62, rd_C_63, rd_C_64, rd_C_65, wr_C9, wr_C10, wr_C11, wr_C12, wr_C25, wr_C26, wr_C27, wr_C28, wr_C29, wp_C25, wp_C26, wp_C27, wp_C28, wp_C29, eP]
      refine zw_irem ok_Co_meetByLot rfl (by omega) ?_
      rw [zrem_nn (by omega) (by omega)]
      refine zw_istore ok_Co_meetByLot rfl rfl (by decide) ?_
      refine zw_ldc ok_Co_meetByLot rfl kc_Co_139 ?_
      refine zw_iload_n ok_Co_meetByLot rfl rfl ?_
      refine zw_imul ok_Co_meetByLot rfl ?_
      refine zw_sipush ok_Co_meetByLot rfl (by decide) ?_
      refine zw_iadd ok_Co_meetByLot rfl ?_
      refine zw_istore_n ok_Co_meetByLot rfl rfl (by decide) ?_
      refine zw_iload_n ok_Co_meetByLot rfl rfl ?_
      refine zw_bipush ok_Co_meetByLot rfl (by decide) ?_
      refine zw_iushr ok_Co_meetByLot rfl ?_
      refine zw_aload_n ok_Co_meetByLot rfl rfl ?_
      refine zw_getr ok_Co_meetByLot rfl fl_Co_27 rfl rfl ?_
      refine zw_geti ok_Co_meetByLot rfl fl_Co_90 rfl rfl ?_
      simp only [rd_C9, rd_C10, rd_C11, rd_C12, rd_C25, rd_C26, rd_C27, rd_C28, rd_C29, rd_C_0, rd_C_1, rd_C_2, rd_C_3, rd_C_4, rd_C_5, rd_C_6, rd_C_7, rd_C_8, rd_C_9, rd_C_10, rd_C_11, rd_C_12, rd_C_13, rd_C_14, rd_C_15, rd_C_16, rd_C_17, rd_C_18, rd_C_19, rd_C_20, rd_C_21, rd_C_22, rd_C_23, rd_C_30, rd_C_31, rd_C_32, rd_C_33, rd_C_34, rd_C_35, rd_C_36, rd_C_37, rd_C_38, rd_C_39, rd_C_40, rd_C_41, rd_C_42, rd_C_43, rd_C_44, rd_C_45, rd_C_46, rd_C_47, rd_C_48, rd_C_49, rd_C_50, rd_C_51, rd_C_52, rd_C_53, rd_C_54, rd_C_55, rd_C_56, rd_C_57, rd_C_58, rd_C_59, rd_C_60, rd_C_61, rd_C_62, rd_C_63, rd_C_64, rd_C_65, wr_C9, wr_C10, wr_C11, wr_C12, wr_C25, wr_C26, wr_C27, wr_C28, wr_C29, wp_C25, wp_C26, wp_C27, wp_C28, wp_C29, eP]
      refine zw_irem ok_Co_meetByLot rfl (by omega) ?_
      rw [zrem_nn (by omega) (by omega)]
      refine zw_istore ok_Co_meetByLot rfl rfl (by decide) ?_
      refine zw_aload_n ok_Co_meetByLot rfl rfl ?_
      refine zw_iload ok_Co_meetByLot rfl rfl ?_
      refine zw_iload ok_Co_meetByLot rfl rfl ?_
      refine zw_Vbp ok_Co_meetByLot rfl ok_Co_mayMeet lk_Co_140 (by decide) rfl rfl (Nat.le_of_ble_eq_true rfl) (ct_Co_mayMeet (by omega) (by omega)) ?_
      first | refine zw_ifeq_d 87 ok_Co_meetByLot rfl (by decide) (fun h76 => ?_) (fun h76 => ?_) | refine zw_ifeq_b 87 ok_Co_meetByLot rfl (by decide) (fun h76 => ?_) (fun h76 => ?_) | refine zw_if_eq 87 ok_Co_meetByLot rfl (by decide) (by omega) (fun h76 => ?_) (fun h76 => ?_)
      · refine zw_iinc ok_Co_meetByLot rfl rfl rfl (by decide) ?_
        refine zw_goto 16 ok_Co_meetByLot rfl (by decide) ?_
        refine zw_mask [true, true, true, true, true, false, false] rfl ?_
        first
          | (rw [if_neg (fun q => h76 (of_decide_eq_true q))] at hx; exact ih (i + 1) _ s (by omega) (by omega) hs hx)
          | (rw [if_pos (decide_eq_true h76)] at hx; exact ih (i + 1) _ _ (by omega) (by omega) (meetS_inv hP (by omega) (by have := h76.1; omega) (by omega) hs) hx)
      · refine zw_aload_n ok_Co_meetByLot rfl rfl ?_
        refine zw_iload ok_Co_meetByLot rfl rfl ?_
        refine zw_iload ok_Co_meetByLot rfl rfl ?_
        refine zw_Vvp ok_Co_meetByLot rfl ok_Co_meet lk_Co_117 (by decide) rfl rfl (Nat.le_of_ble_eq_true rfl) (ct_Co_meet hP ⟨v1, v2⟩ ⟨v3, v4⟩ h76.1 hs) ?_
        refine zw_iinc ok_Co_meetByLot rfl rfl rfl (by decide) ?_
        refine zw_goto 16 ok_Co_meetByLot rfl (by decide) ?_
        refine zw_mask [true, true, true, true, true, false, false] rfl ?_
        first
          | (rw [if_neg (fun q => h76 (of_decide_eq_true q))] at hx; exact ih (i + 1) _ s (by omega) (by omega) hs hx)
          | (rw [if_pos (decide_eq_true h76)] at hx; exact ih (i + 1) _ _ (by omega) (by omega) (meetS_inv hP (by omega) (by have := h76.1; omega) (by omega) hs) hx)
theorem ct_Co_meetByLot {L : zL} {s : zS} {x times : Int} (hC : okC mem) (ht : 0 ≤ times ∧ times ≤ 99) (hs : sInv (mem 5 4) s) : zCvp m_Co_meetByLot [vr 24, vi x, vi times] (putC mem L s) (putC mem L (if mem 5 4 = 0 then s else lotS (mem 5 4) (mem 7) (mem 9) (mem 5 5) times.toNat x s)) := by
  refine zCt.of [some (vr 24), some (vi x), some (vi times), none, none, none, none] ok_Co_meetByLot (Nat.le_of_ble_eq_true rfl) rfl ?_
  have hP1 := hC.2.1.1
  have hP2 := hC.2.1.2.1
  refine zw_aload_n ok_Co_meetByLot rfl rfl ?_
  refine zw_getr ok_Co_meetByLot rfl fl_Co_27 rfl rfl ?_
  refine zw_geti ok_Co_meetByLot rfl fl_Co_90 rfl rfl ?_
  try simp only [rd_C9, rd_C10, rd_C11, rd_C12, rd_C25, rd_C26, rd_C27, rd_C28, rd_C29, rd_C_0, rd_C_1, rd_C_2, rd_C_3, rd_C_4, rd_C_5, rd_C_6, rd_C_7, rd_C_8, rd_C_9, rd_C_10, rd_C_11, rd_C_12, rd_C_13, rd_C_14, rd_C_15, rd_C_16, rd_C_17, rd_C_18, rd_C_19, rd_C_20, rd_C_21, rd_C_22, rd_C_23, rd_C_30, rd_C_31, rd_C_32, rd_C_33, rd_C_34, rd_C_35, rd_C_36, rd_C_37, rd_C_38, rd_C_39, rd_C_40, rd_C_41, rd_C_42, rd_C_43, rd_C_44, rd_C_45, rd_C_46, rd_C_47, rd_C_48, rd_C_49, rd_C_50, rd_C_51, rd_C_52, rd_C_53, rd_C_54, rd_C_55, rd_C_56, rd_C_57, rd_C_58, rd_C_59, rd_C_60, rd_C_61, rd_C_62, rd_C_63, rd_C_64, rd_C_65, wr_C9, wr_C10, wr_C11, wr_C12, wr_C25, wr_C26, wr_C27, wr_C28, wr_C29, wp_C25, wp_C26, wp_C27, wp_C28, wp_C29]
  refine zw_if_ne 11 ok_Co_meetByLot rfl (by decide) (by omega) (fun h7 => ?_) (fun h7 => ?_)
  · refine zw_iload_n ok_Co_meetByLot rfl rfl ?_
    refine zw_istore_n ok_Co_meetByLot rfl rfl (by decide) ?_
    refine zw_iconst ok_Co_meetByLot rfl ?_
    refine zw_istore ok_Co_meetByLot rfl rfl (by decide) ?_
    refine lot_loop hC rfl (by omega) ht x times.toNat 0 x s (by omega) (by omega) hs ⟨rfl, ?_⟩
    rw [if_neg h7]
  · exact zw_vret ok_Co_meetByLot rfl rfl (⟨rfl, by rw [if_pos h7]⟩)
end
