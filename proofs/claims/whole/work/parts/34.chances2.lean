/-! ===== Chances: weigh, halvings, above, below ===== -/
theorem zshl_pow : ∀ n, n ≤ 8 → zshl 1 ((n : Nat) : Int) = 2 ^ n := by decide +kernel
def grF (gn : Int → Int → Bool) (c nu : Int) (p : Int) (f w : Int) : Int := if gn f p = true then w + lp (wtF f c) nu.toNat 0 1 else w
/-- with some umbrellas forgotten: who is gone behind hour h -/
def gnC (mem : zMem) (n : Nat) (f : Int) (gn : Int → Bool) : Prop := ∀ (L : zL) (d l : Int → Int) (p : Int), 0 ≤ p → p < mem 5 4 → tb (walkS (mem 5 4) (mem 7) (mem 9) (layS mem (-1) f L).1 (fun h => zor ((layS mem (-1) f L).2.1 h) (mem 5 5)) n (begS (layS mem (-1) f L).2.2 d l)).2.2.1 p.toNat = gn p
def hvS (w : Int) : Nat → Int → Int
  | 0, h => h
  | k + 1, h => if w / 2 ^ h.toNat % 2 = 0 then hvS w k (h + 1) else h
theorem hvS_r {w : Int} : ∀ (k : Nat) (h : Int), h ≤ hvS w k h ∧ hvS w k h ≤ h + k
  | 0, h => by unfold hvS; omega
  | k + 1, h => by
    unfold hvS
    split
    · have := hvS_r (w := w) k (h + 1); omega
    · omega
section
variable {mem : zMem} {st hd df : Int → Int} {s : zS} {L : zL} {Q : Option zVal → zMem → Prop}
theorem weigh_loop {c h N : Int} {gn : Int → Int → Bool} (hC : okC mem) (hc : 0 ≤ c ∧ c ≤ 16) (hh : 0 ≤ h ∧ h ≤ 11) (hN : 0 ≤ N ∧ N ≤ 256) (hgn : ∀ f, 0 ≤ f → f < N → gnC mem (h + 1).toNat f (gn f)) :
    ∀ (k : Nat) (i : Int) (fw : Int → Int) (L : zL) (s : zS), 0 ≤ i → i + k = N → (∀ p, 0 ≤ p → p < mem 5 4 → fw p = lp (grF gn c (mem 16 3) p) i.toNat 0 0) → (∀ fw L s, (∀ p, 0 ≤ p → p < mem 5 4 → fw p = lp (grF gn c (mem 16 3) p) N.toNat 0 0) → Q none (putC (zput mem 38 fw) L s)) → AW m_Ch_weigh 24 [some (vr 37), some (vi c), some (vi h), some (vi N), some (vi i), none, none] [] (putC (zput mem 38 fw) L s) Q := by
  have h16 := hC.1.2.2.1
  have hP8 := hC.2.1.2.1
  intro k
  induction k with
  | zero =>
    intro i fw L s h0 hi hf hx
    have e : i = N := by omega
    subst e
    refine zw_iload ok_Ch_weigh rfl rfl ?_
    refine zw_iload_n ok_Ch_weigh rfl rfl ?_
    refine zw_icmp_ge 83 ok_Ch_weigh rfl (by decide) (by omega) (fun h27 => ?_) (fun h27 => ?_)
    · exact zw_vret ok_Ch_weigh rfl rfl (hx fw L s hf)
    · exfalso; omega
  | succ k ih =>
    intro i fw L s h0 hi hf hx
    have lo : ∀ q, q < 24 → zput mem 38 fw q = mem q := fun q hq => zput_ne (by omega)
    have hC1 := okC_of lo hC
    obtain ⟨st0, hd0, df0⟩ := L
    have hst := layS_st (ol := -1) (ll := i) (L := (st0, hd0, df0)) hC
    have hdf := layS_df (ol := -1) (ll := i) (L := (st0, hd0, df0)) hC
    have eL := layS_of lo (-1) i (st0, hd0, df0)
    have hg := hgn i h0 (by omega) (st0, hd0, df0) s.1 s.2.1
    generalize layS mem (-1) i (st0, hd0, df0) = L1 at hst hdf eL hg
    obtain ⟨st, hd, df⟩ := L1
    dsimp only at hst hdf hg
    have hdf1 : dfI (zput mem 38 fw 5 4) df := hdf
    have hwr := wt_r8 (f := i) (c := c) hc (k := (mem 16 3).toNat) (by omega) (u := 0)
    have hstep : ∀ p, 0 ≤ p → p < mem 5 4 → lp (grF gn c (mem 16 3) p) (i + 1).toNat 0 0 = if gn i p = true then fw p + lp (wtF i c) (mem 16 3).toNat 0 1 else fw p := by
      intro p q1 q2
      rw [show (i + 1).toNat = i.toNat + 1 by omega, lp_snoc, ← hf p q1 q2]
      unfold grF
      rw [show (0 : Int) + (i.toNat : Int) = i by omega]
    generalize hw : lp (wtF i c) (mem 16 3).toNat 0 1 = w at hwr hstep
    have next : ∀ f2 L2 s2, (∀ p, 0 ≤ p → p < mem 5 4 → f2 p = if gn i p = true then fw p + w else fw p) → AW m_Ch_weigh 77 [some (vr 37), some (vi c), some (vi h), some (vi N), some (vi i), none, none] [] (putC (zput mem 38 f2) L2 s2) Q := by
      intro f2 L2 s2 hf2
      refine zw_iinc ok_Ch_weigh rfl rfl rfl (by decide) ?_
      refine zw_goto 24 ok_Ch_weigh rfl (by decide) ?_
      exact ih (i + 1) f2 L2 s2 (by omega) (by omega) (fun p q1 q2 => by rw [hstep p q1 q2]; exact hf2 p q1 q2) hx
    refine zw_iload ok_Ch_weigh rfl rfl ?_
    refine zw_iload_n ok_Ch_weigh rfl rfl ?_
    refine zw_icmp_ge 83 ok_Ch_weigh rfl (by decide) (by omega) (fun h27 => ?_) (fun h27 => ?_)
    · exfalso; omega
    · refine zw_aload_n ok_Ch_weigh rfl rfl ?_
      refine zw_iload ok_Ch_weigh rfl rfl ?_
      refine zw_iload_n ok_Ch_weigh rfl rfl ?_
      refine zw_Vlp ok_Ch_weigh rfl ok_Ch_weightOf lk_Ch_37 (by decide) rfl rfl (Nat.le_of_ble_eq_true rfl) (ct_Ch_weightOf hC1 hc) ?_
      rw [lo 16 (by omega), hw]
      refine zw_lstore ok_Ch_weigh rfl rfl (by decide) ?_
      refine zw_lload ok_Ch_weigh rfl rfl ?_
      refine zw_lconst ok_Ch_weigh rfl ?_
      refine zw_lcmp ok_Ch_weigh rfl (by omega) ?_
      refine zw_if_eq 77 ok_Ch_weigh rfl (by decide) (by (repeat' split) <;> omega) (fun h43 => ?_) (fun h43 => ?_)
      · refine zw_mask [true, true, true, true, true, false, false] rfl ?_
        have hw0 : w = 0 := by split at h43 <;> first | omega | (split at h43 <;> omega)
        exact next fw _ _ (fun p _ _ => by rw [hw0, Int.add_zero]; split <;> rfl)
      · refine zw_aload_n ok_Ch_weigh rfl rfl ?_
        refine zw_getr ok_Ch_weigh rfl fl_Ch_15 rfl rfl ?_
        refine zw_iconst ok_Ch_weigh rfl ?_
        refine zw_iload ok_Ch_weigh rfl rfl ?_
        refine zw_Vvp ok_Ch_weigh rfl ok_Co_layOut lk_Ch_41 (by decide) rfl rfl (Nat.le_of_ble_eq_true rfl) (ct_Co_layOut hC1.1 (by omega)) ?_
        rw [eL]
        refine zw_aload_n ok_Ch_weigh rfl rfl ?_
        refine zw_getr ok_Ch_weigh rfl fl_Ch_15 rfl rfl ?_
        refine zw_Vvp ok_Ch_weigh rfl ok_Co_begin lk_Ch_45 (by decide) rfl rfl (Nat.le_of_ble_eq_true rfl) (ct_Co_begin) ?_
        refine zw_aload_n ok_Ch_weigh rfl rfl ?_
        refine zw_getr ok_Ch_weigh rfl fl_Ch_15 rfl rfl ?_
        refine zw_iload_n ok_Ch_weigh rfl rfl ?_
        refine zw_Vvp ok_Ch_weigh rfl ok_Co_walkTo lk_Ch_48 (by decide) rfl rfl (Nat.le_of_ble_eq_true rfl) (ct_Co_walkTo hC1.2.1 rfl hh hst (begS_inv hC1.2.1.2.1 hdf1) ⟨Int.le_refl _, (show (-1 : Int) ≤ 11 by decide)⟩) ?_
        rw [lo 5 (by omega), lo 7 (by omega), lo 9 (by omega)]
        generalize walkS (mem 5 4) (mem 7) (mem 9) st (fun h => zor (hd h) (mem 5 5)) (h + 1).toNat (begS df s.1 s.2.1) = S at hg ⊢
        refine zw_aload_n ok_Ch_weigh rfl rfl ?_
        refine zw_lload ok_Ch_weigh rfl rfl ?_
        refine zw_Vvp ok_Ch_weigh rfl ok_Ch_addToGone lk_Ch_52 (by decide) rfl rfl (Nat.le_of_ble_eq_true rfl) (ct_Ch_addToGone hC.1.1) ?_
        refine zw_mask [true, true, true, true, true, false, false] rfl ?_
        refine next _ _ _ (fun p q1 q2 => ?_)
        rw [add_at _ _ _ (by omega), hg p q1 q2]
        by_cases hgp : gn i p = true
        · rw [if_pos ⟨q1, by omega, hgp⟩, if_pos hgp]
        · rw [if_neg (fun q => hgp q.2.2), if_neg hgp]
theorem ct_Ch_weigh {c h : Int} {gn : Int → Int → Bool} (hC : okC mem) (hc : 0 ≤ c ∧ c ≤ 16) (hh : 0 ≤ h ∧ h ≤ 11) (hgn : ∀ f, 0 ≤ f → f < 2 ^ (mem 16 3).toNat → gnC mem (h + 1).toNat f (gn f)) : zCv m_Ch_weigh [vr 37, vi c, vi h] (putC mem L s) (fun m2 => ∃ fw L2 s2, m2 = putC (zput mem 38 fw) L2 s2 ∧ ∀ p, 0 ≤ p → p < mem 5 4 → fw p = lp (grF gn c (mem 16 3) p) (2 ^ (mem 16 3).toNat) 0 0) := by
  have h16 := hC.1.2.2.1
  have hP8 := hC.2.1.2.1
  refine zCt.of [some (vr 37), some (vi c), some (vi h), none, none, none, none] ok_Ch_weigh (Nat.le_of_ble_eq_true rfl) rfl ?_
  have ez : zshl 1 (mem 16 3) = 2 ^ (mem 16 3).toNat := by
    have := zshl_pow (mem 16 3).toNat (by omega)
    rwa [Int.toNat_of_nonneg h16.1] at this
  have ep : (0 : Int) ≤ 2 ^ (mem 16 3).toNat ∧ (2 : Int) ^ (mem 16 3).toNat ≤ 256 := by
    have : ∀ n, n ≤ 8 → (0 : Int) ≤ 2 ^ n ∧ (2 : Int) ^ n ≤ 256 := by decide
    exact this _ (by omega)
  have et : ((2 : Int) ^ (mem 16 3).toNat).toNat = 2 ^ (mem 16 3).toNat := by
    have : ∀ n, n ≤ 8 → ((2 : Int) ^ n).toNat = 2 ^ n := by decide
    exact this _ (by omega)
  refine zw_aload_n ok_Ch_weigh rfl rfl ?_
  refine zw_getr ok_Ch_weigh rfl fl_Ch_9 rfl rfl ?_
  refine zw_lconst ok_Ch_weigh rfl ?_
  refine zw_Svp ok_Ch_weigh rfl ok_Jarr_fill_d0a16 lk_Ch_19 (by decide) rfl (Nat.le_of_ble_eq_true rfl) (ct_Jarr_fill_d0a16) ?_
  rw [wpC_out (by omega)]
  refine zw_iconst ok_Ch_weigh rfl ?_
  refine zw_aload_n ok_Ch_weigh rfl rfl ?_
  refine zw_getr ok_Ch_weigh rfl fl_Ch_15 rfl rfl ?_
  refine zw_getr ok_Ch_weigh rfl fl_Ch_25 rfl rfl ?_
  refine zw_geti ok_Ch_weigh rfl fl_Ch_31 rfl rfl ?_
  try simp only [rd_C9, rd_C10, rd_C11, rd_C12, rd_C25, rd_C26, rd_C27, rd_C28, rd_C29, rd_C_0, rd_C_1, rd_C_2, rd_C_3, rd_C_4, rd_C_5, rd_C_6, rd_C_7, rd_C_8, rd_C_9, rd_C_10, rd_C_11, rd_C_12, rd_C_13, rd_C_14, rd_C_15, rd_C_16, rd_C_17, rd_C_18, rd_C_19, rd_C_20, rd_C_21, rd_C_22, rd_C_23, rd_C_30, rd_C_31, rd_C_32, rd_C_33, rd_C_34, rd_C_35, rd_C_36, rd_C_37, rd_C_38, rd_C_39, rd_C_40, rd_C_41, rd_C_42, rd_C_43, rd_C_44, rd_C_45, rd_C_46, rd_C_47, rd_C_48, rd_C_49, rd_C_50, rd_C_51, rd_C_52, rd_C_53, rd_C_54, rd_C_55, rd_C_56, rd_C_57, rd_C_58, rd_C_59, rd_C_60, rd_C_61, rd_C_62, rd_C_63, rd_C_64, rd_C_65, wr_C9, wr_C10, wr_C11, wr_C12, wr_C25, wr_C26, wr_C27, wr_C28, wr_C29, wp_C25, wp_C26, wp_C27, wp_C28, wp_C29, zput_ne (show (16 : Nat) ≠ 38 by decide)]
  refine zw_ishl ok_Ch_weigh rfl ?_
  rw [ez]
  refine zw_istore_n ok_Ch_weigh rfl rfl (by decide) ?_
  refine zw_iconst ok_Ch_weigh rfl ?_
  refine zw_istore ok_Ch_weigh rfl rfl (by decide) ?_
  refine weigh_loop hC hc hh ep hgn (2 ^ (mem 16 3).toNat) 0 _ L s (by omega) (by rw [← et]; omega) (fun p q1 q2 => ?_) (fun fw L s hf => ⟨rfl, fw, L, s, rfl, fun p q1 q2 => by rw [hf p q1 q2, et]⟩)
  show zfil 8 0 (mem 38) p = 0
  unfold zfil
  rw [if_pos (by omega)]
theorem ct_Ch_bitsOfWhole : zCip m_Ch_bitsOfWhole [vr 37] mem (4 * mem 16 3) := by
  refine zCt.of [some (vr 37)] ok_Ch_bitsOfWhole (Nat.le_of_ble_eq_true rfl) rfl ?_
  refine zw_iconst ok_Ch_bitsOfWhole rfl ?_
  refine zw_aload_n ok_Ch_bitsOfWhole rfl rfl ?_
  refine zw_getr ok_Ch_bitsOfWhole rfl fl_Ch_15 rfl rfl ?_
  refine zw_getr ok_Ch_bitsOfWhole rfl fl_Ch_25 rfl rfl ?_
  refine zw_geti ok_Ch_bitsOfWhole rfl fl_Ch_31 rfl rfl ?_
  refine zw_imul ok_Ch_bitsOfWhole rfl ?_
  exact zw_iret ok_Ch_bitsOfWhole rfl rfl (⟨rfl, rfl⟩)
theorem hv_loop {p : Int} (h16 : 0 ≤ mem 16 3 ∧ mem 16 3 ≤ 8) (hp : 0 ≤ p ∧ p < 8) (hw : 0 ≤ mem 38 p ∧ mem 38 p < 4611686018427387904) :
    ∀ (k : Nat) (h : Int), 0 ≤ h → h + k = 4 * mem 16 3 → Q (some (vi (hvS (mem 38 p) k h))) mem → AW m_Ch_halvings 2 [some (vr 37), some (vi p), some (vi h)] [] mem Q := by
  intro k
  induction k with
  | zero =>
    intro h h0 hk hx
    refine zw_iload_n ok_Ch_halvings rfl rfl ?_
    refine zw_aload_n ok_Ch_halvings rfl rfl ?_
    refine zw_Vip ok_Ch_halvings rfl ok_Ch_bitsOfWhole lk_Ch_60 (by decide) rfl rfl (Nat.le_of_ble_eq_true rfl) (ct_Ch_bitsOfWhole) ?_
    refine zw_icmp_ge 31 ok_Ch_halvings rfl (by decide) (by omega) (fun h7 => ?_) (fun h7 => ?_)
    · refine zw_iload_n ok_Ch_halvings rfl rfl ?_
      exact zw_iret ok_Ch_halvings rfl rfl (hx)
    · exfalso; omega
  | succ k ih =>
    intro h h0 hk hx
    have hd1 : 0 ≤ mem 38 p / 2 ^ h.toNat := Int.ediv_nonneg hw.1 (Int.pow_nonneg (by omega))
    have hd2 : mem 38 p / 2 ^ h.toNat ≤ mem 38 p := Int.ediv_le_self _ hw.1
    unfold hvS at hx
    refine zw_iload_n ok_Ch_halvings rfl rfl ?_
    refine zw_aload_n ok_Ch_halvings rfl rfl ?_
    refine zw_Vip ok_Ch_halvings rfl ok_Ch_bitsOfWhole lk_Ch_60 (by decide) rfl rfl (Nat.le_of_ble_eq_true rfl) (ct_Ch_bitsOfWhole) ?_
    refine zw_icmp_ge 31 ok_Ch_halvings rfl (by decide) (by omega) (fun h7 => ?_) (fun h7 => ?_)
    · exfalso; omega
    · refine zw_aload_n ok_Ch_halvings rfl rfl ?_
      refine zw_getr ok_Ch_halvings rfl fl_Ch_9 rfl rfl ?_
      refine zw_iload_n ok_Ch_halvings rfl rfl ?_
      refine zw_lald ok_Ch_halvings rfl rfl (by omega) ?_
      refine zw_iload_n ok_Ch_halvings rfl rfl ?_
      refine zw_lshr ok_Ch_halvings rfl ?_
      rw [zlshr_nn hw (by omega)]
      refine zw_lconst ok_Ch_halvings rfl ?_
      refine zw_land ok_Ch_halvings rfl ?_
      rw [show ((1 : Fin 2) : Nat) = 1 from rfl, show ((1 : Nat) : Int) = 1 from rfl, zland1 (by omega)]
      refine zw_lconst ok_Ch_halvings rfl ?_
      refine zw_lcmp ok_Ch_halvings rfl (by omega) ?_
      refine zw_if_ne 31 ok_Ch_halvings rfl (by decide) (by (repeat' split) <;> omega) (fun h22 => ?_) (fun h22 => ?_)
      · rw [if_neg (by intro q; rw [q] at h22; exact h22 rfl)] at hx
        refine zw_iload_n ok_Ch_halvings rfl rfl ?_
        exact zw_iret ok_Ch_halvings rfl rfl (hx)
      · rw [if_pos (by split at h22 <;> first | omega | (split at h22 <;> omega))] at hx
        refine zw_iinc ok_Ch_halvings rfl rfl rfl (by decide) ?_
        refine zw_goto 2 ok_Ch_halvings rfl (by decide) ?_
        exact ih (h + 1) (by omega) (by omega) hx
theorem ct_Ch_halvings {p : Int} (h16 : 0 ≤ mem 16 3 ∧ mem 16 3 ≤ 8) (hp : 0 ≤ p ∧ p < 8) (hw : 0 ≤ mem 38 p ∧ mem 38 p < 4611686018427387904) : zCip m_Ch_halvings [vr 37, vi p] mem (hvS (mem 38 p) (4 * mem 16 3).toNat 0) := by
  refine zCt.of [some (vr 37), some (vi p), none] ok_Ch_halvings (Nat.le_of_ble_eq_true rfl) rfl ?_
  refine zw_iconst ok_Ch_halvings rfl ?_
  refine zw_istore_n ok_Ch_halvings rfl rfl (by decide) ?_
  exact hv_loop h16 hp hw (4 * mem 16 3).toNat 0 (by omega) (by omega) ⟨rfl, rfl⟩
theorem ct_Ch_above {p : Int} (h16 : 0 ≤ mem 16 3 ∧ mem 16 3 ≤ 8) (hp : 0 ≤ p ∧ p < 8) (hw : 0 ≤ mem 38 p ∧ mem 38 p < 4611686018427387904) : zClp m_Ch_above [vr 37, vi p] mem (mem 38 p / 2 ^ (hvS (mem 38 p) (4 * mem 16 3).toNat 0).toNat) := by
  refine zCt.of [some (vr 37), some (vi p)] ok_Ch_above (Nat.le_of_ble_eq_true rfl) rfl ?_
  have hr := hvS_r (w := mem 38 p) (4 * mem 16 3).toNat 0
  refine zw_aload_n ok_Ch_above rfl rfl ?_
  refine zw_getr ok_Ch_above rfl fl_Ch_9 rfl rfl ?_
  refine zw_iload_n ok_Ch_above rfl rfl ?_
  refine zw_lald ok_Ch_above rfl rfl (by omega) ?_
  refine zw_aload_n ok_Ch_above rfl rfl ?_
  refine zw_iload_n ok_Ch_above rfl rfl ?_
  refine zw_Vip ok_Ch_above rfl ok_Ch_halvings lk_Ch_56 (by decide) rfl rfl (Nat.le_of_ble_eq_true rfl) (ct_Ch_halvings h16 hp hw) ?_
  refine zw_lshr ok_Ch_above rfl ?_
  rw [zlshr_nn hw (by omega)]
  exact zw_lret ok_Ch_above rfl rfl (⟨rfl, rfl⟩)
theorem ct_Ch_below {p : Int} (h16 : 0 ≤ mem 16 3 ∧ mem 16 3 ≤ 8) (hp : 0 ≤ p ∧ p < 8) (hw : 0 ≤ mem 38 p ∧ mem 38 p < 4611686018427387904) : zClp m_Ch_below [vr 37, vi p] mem (2 ^ (4 * mem 16 3 - hvS (mem 38 p) (4 * mem 16 3).toNat 0).toNat) := by
  refine zCt.of [some (vr 37), some (vi p)] ok_Ch_below (Nat.le_of_ble_eq_true rfl) rfl ?_
  have hr := hvS_r (w := mem 38 p) (4 * mem 16 3).toNat 0
  refine zw_lconst ok_Ch_below rfl ?_
  refine zw_aload_n ok_Ch_below rfl rfl ?_
  refine zw_Vip ok_Ch_below rfl ok_Ch_bitsOfWhole lk_Ch_60 (by decide) rfl rfl (Nat.le_of_ble_eq_true rfl) (ct_Ch_bitsOfWhole) ?_
  refine zw_aload_n ok_Ch_below rfl rfl ?_
  refine zw_iload_n ok_Ch_below rfl rfl ?_
  refine zw_Vip ok_Ch_below rfl ok_Ch_halvings lk_Ch_56 (by decide) rfl rfl (Nat.le_of_ble_eq_true rfl) (ct_Ch_halvings h16 hp hw) ?_
  refine zw_isub ok_Ch_below rfl ?_
  refine zw_lshl ok_Ch_below rfl ?_
  rw [show ((1 : Fin 2) : Nat) = 1 from rfl, show ((1 : Nat) : Int) = 1 from rfl, zlshl_1 (by omega)]
  exact zw_lret ok_Ch_below rfl rfl (⟨rfl, rfl⟩)
end
