/-! ===== Chances ===== -/
def wtF (f c : Int) (u w : Int) : Int := w * (if tb f u.toNat = true then c else 16 - c)
theorem wt_r {f c : Int} (hc : 0 ≤ c ∧ c ≤ 16) : ∀ (k : Nat) (u w : Int), 0 ≤ w → 0 ≤ lp (wtF f c) k u w ∧ lp (wtF f c) k u w ≤ w * 16 ^ k
  | 0, u, w, h => by show 0 ≤ w ∧ w ≤ w * 16 ^ 0; simp; exact h
  | k + 1, u, w, h => by
    have hx : 0 ≤ wtF f c u w ∧ wtF f c u w ≤ w * 16 := by
      unfold wtF
      constructor
      · exact Int.mul_nonneg h (by split <;> omega)
      · exact Int.mul_le_mul_of_nonneg_left (by split <;> omega) h
    have := wt_r (f := f) (c := c) hc k (u + 1) (wtF f c u w) hx.1
    rw [lp_s]
    refine ⟨this.1, Int.le_trans this.2 ?_⟩
    rw [Int.pow_succ, Int.mul_comm (16 ^ k) 16, ← Int.mul_assoc]
    exact Int.mul_le_mul_of_nonneg_right hx.2 (Int.pow_nonneg (by omega))
theorem wt_r8 {f c : Int} (hc : 0 ≤ c ∧ c ≤ 16) {k : Nat} (hk : k ≤ 8) {u : Int} : 0 ≤ lp (wtF f c) k u 1 ∧ lp (wtF f c) k u 1 ≤ 4294967296 := by
  have h := wt_r (f := f) (c := c) hc k u 1 (by omega)
  have h2 : (16 : Int) ^ k ≤ 4294967296 := by
    have : k = 0 ∨ k = 1 ∨ k = 2 ∨ k = 3 ∨ k = 4 ∨ k = 5 ∨ k = 6 ∨ k = 7 ∨ k = 8 := by omega
    rcases this with rfl | rfl | rfl | rfl | rfl | rfl | rfl | rfl | rfl <;> decide
  omega
section
variable {mem : zMem} {st hd df : Int → Int} {s : zS} {L : zL} {Q : Option zVal → zMem → Prop}
theorem fillL_loop {n : Nat} {v : Int} (hc : zrow 38 = (1, n, [])) (hn : n ≤ 240) (hx : Q none (zput mem 38 (zfil n v (mem 38)))) :
    ∀ (j : Nat) (i : Int), 0 ≤ i → i + j = (n : Int) → AW m_Jarr_fill_d0a16 6 [some (vr 38), some (vl v), none, some (vi i), some (vi (n : Int))] [] (zput mem 38 (zfil i v (mem 38))) Q := by
  intro j
  induction j with
  | zero =>
    intro i h0 hi
    have e : i = (n : Int) := by omega
    subst e
    refine zw_iload_n ok_Jarr_fill_d0a16 rfl rfl ?_
    refine zw_iload ok_Jarr_fill_d0a16 rfl rfl ?_
    refine zw_icmp_ge 22 ok_Jarr_fill_d0a16 rfl (by decide) (by omega) (fun h9 => ?_) (fun h9 => ?_)
    · exact zw_vret ok_Jarr_fill_d0a16 rfl rfl (hx)
    · exact absurd (Int.le_refl _) h9
  | succ j ih =>
    intro i h0 hi
    refine zw_iload_n ok_Jarr_fill_d0a16 rfl rfl ?_
    refine zw_iload ok_Jarr_fill_d0a16 rfl rfl ?_
    refine zw_icmp_ge 22 ok_Jarr_fill_d0a16 rfl (by decide) (by omega) (fun h9 => ?_) (fun h9 => ?_)
    · exfalso; omega
    · refine zw_aload_n ok_Jarr_fill_d0a16 rfl rfl ?_
      refine zw_iload_n ok_Jarr_fill_d0a16 rfl rfl ?_
      refine zw_lload_n ok_Jarr_fill_d0a16 rfl rfl ?_
      refine zw_last ok_Jarr_fill_d0a16 rfl hc (by omega) ?_
      refine zw_iinc ok_Jarr_fill_d0a16 rfl rfl rfl (by decide) ?_
      refine zw_goto 6 ok_Jarr_fill_d0a16 rfl (by decide) ?_
      rw [zfil_s h0]
      exact ih (i + 1) (by omega) (by omega)
theorem ct_Jarr_fill_d0a16 {v : Int} : zCvp m_Jarr_fill_d0a16 [vr 38, vl v] mem (zput mem 38 (zfil 8 v (mem 38))) := by
  refine zCt.of [some (vr 38), some (vl v), none, none, none] ok_Jarr_fill_d0a16 (Nat.le_of_ble_eq_true rfl) rfl ?_
  refine zw_iconst ok_Jarr_fill_d0a16 rfl ?_
  refine zw_istore_n ok_Jarr_fill_d0a16 rfl rfl (by decide) ?_
  refine zw_aload_n ok_Jarr_fill_d0a16 rfl rfl ?_
  refine zw_alen ok_Jarr_fill_d0a16 rfl rfl (by decide) ?_
  refine zw_istore ok_Jarr_fill_d0a16 rfl rfl (by decide) ?_
  have h := fillL_loop (mem := mem) (v := v) (n := 8) (Q := fun r m2 => r = none ∧ m2 = zput mem 38 (zfil 8 v (mem 38))) rfl (by omega) ⟨rfl, rfl⟩ 8 0 (by omega) (by omega)
  rw [zfil_0] at h
  exact h
theorem wt_loop {f c : Int} (hC : okC mem) (hc : 0 ≤ c ∧ c ≤ 16) :
    ∀ (k : Nat) (u w : Int), 0 ≤ u → u + k = mem 16 3 → Q (some (vl (lp (wtF f c) k u w))) (putC mem L s) → AW m_Ch_weightOf 5 [some (vr 37), some (vi f), some (vi c), some (vl w), none, some (vi u)] [] (putC mem L s) Q := by
  have h16 := hC.1.2.2.1
  intro k
  induction k with
  | zero =>
    intro u w h0 hu hx
    refine zw_iload ok_Ch_weightOf rfl rfl ?_
    refine zw_aload_n ok_Ch_weightOf rfl rfl ?_
    refine zw_getr ok_Ch_weightOf rfl fl_Ch_15 rfl rfl ?_
    refine zw_getr ok_Ch_weightOf rfl fl_Ch_25 rfl rfl ?_
    refine zw_geti ok_Ch_weightOf rfl fl_Ch_31 rfl rfl ?_
    try simp only [rd_C9, rd_C10, rd_C11, rd_C12, rd_C25, rd_C26, rd_C27, rd_C28, rd_C29, rd_C_0, rd_C_1, rd_C_2, rd_C_3, rd_C_4, rd_C_5, rd_C_6, rd_C_7, rd_C_8, rd_C_9, rd_C_10, rd_C_11, rd_C_12, rd_C_13, rd_C_14, rd_C_15, rd_C_16, rd_C_17, rd_C_18, rd_C_19, rd_C_20, rd_C_21, rd_C_22, rd_C_23, rd_C_30, rd_C_31, rd_C_32, rd_C_33, rd_C_34, rd_C_35, rd_C_36, rd_C_37, rd_C_38, rd_C_39, rd_C_40, rd_C_41, rd_C_42, rd_C_43, rd_C_44, rd_C_45, rd_C_46, rd_C_47, rd_C_48, rd_C_49, rd_C_50, rd_C_51, rd_C_52, rd_C_53, rd_C_54, rd_C_55, rd_C_56, rd_C_57, rd_C_58, rd_C_59, rd_C_60, rd_C_61, rd_C_62, rd_C_63, rd_C_64, rd_C_65, wr_C9, wr_C10, wr_C11, wr_C12, wr_C25, wr_C26, wr_C27, wr_C28, wr_C29, wp_C25, wp_C26, wp_C27, wp_C28, wp_C29]
    refine zw_icmp_ge 48 ok_Ch_weightOf rfl (by decide) (by omega) (fun h17 => ?_) (fun h17 => ?_)
    · refine zw_lload_n ok_Ch_weightOf rfl rfl ?_
      exact zw_lret ok_Ch_weightOf rfl rfl (hx)
    · exfalso; omega
  | succ k ih =>
    intro u w h0 hu hx
    rw [lp_s] at hx
    unfold wtF at hx
    refine zw_iload ok_Ch_weightOf rfl rfl ?_
    refine zw_aload_n ok_Ch_weightOf rfl rfl ?_
    refine zw_getr ok_Ch_weightOf rfl fl_Ch_15 rfl rfl ?_
    refine zw_getr ok_Ch_weightOf rfl fl_Ch_25 rfl rfl ?_
    refine zw_geti ok_Ch_weightOf rfl fl_Ch_31 rfl rfl ?_
    try simp only [rd_C9, rd_C10, rd_C11, rd_C12, rd_C25, rd_C26, rd_C27, rd_C28, rd_C29, rd_C_0, rd_C_1, rd_C_2, rd_C_3, rd_C_4, rd_C_5, rd_C_6, rd_C_7, rd_C_8, rd_C_9, rd_C_10, rd_C_11, rd_C_12, rd_C_13, rd_C_14, rd_C_15, rd_C_16, rd_C_17, rd_C_18, rd_C_19, rd_C_20, rd_C_21, rd_C_22, rd_C_23, rd_C_30, rd_C_31, rd_C_32, rd_C_33, rd_C_34, rd_C_35, rd_C_36, rd_C_37, rd_C_38, rd_C_39, rd_C_40, rd_C_41, rd_C_42, rd_C_43, rd_C_44, rd_C_45, rd_C_46, rd_C_47, rd_C_48, rd_C_49, rd_C_50, rd_C_51, rd_C_52, rd_C_53, rd_C_54, rd_C_55, rd_C_56, rd_C_57, rd_C_58, rd_C_59, rd_C_60, rd_C_61, rd_C_62, rd_C_63, rd_C_64, rd_C_65, wr_C9, wr_C10, wr_C11, wr_C12, wr_C25, wr_C26, wr_C27, wr_C28, wr_C29, wp_C25, wp_C26, wp_C27, wp_C28, wp_C29]
    refine zw_icmp_ge 48 ok_Ch_weightOf rfl (by decide) (by omega) (fun h17 => ?_) (fun h17 => ?_)
    · exfalso; omega
    · refine zw_lload_n ok_Ch_weightOf rfl rfl ?_
      refine zw_iload_n ok_Ch_weightOf rfl rfl ?_
      refine zw_iload ok_Ch_weightOf rfl rfl ?_
      refine zw_ishr ok_Ch_weightOf rfl ?_
      refine zw_iconst ok_Ch_weightOf rfl ?_
      refine zw_iand ok_Ch_weightOf rfl ?_
      refine zw_if_eq 35 ok_Ch_weightOf rfl (by decide) (zR_and _ _) (fun h27 => ?_) (fun h27 => ?_)
      · rw [tb_ask0 _ (by omega)] at h27
        rw [if_neg (by simp [h27])] at hx
        refine zw_bipush ok_Ch_weightOf rfl (by decide) ?_
        refine zw_iload_n ok_Ch_weightOf rfl rfl ?_
        refine zw_isub ok_Ch_weightOf rfl ?_
        refine zw_i2l ok_Ch_weightOf rfl (by omega) ?_
        refine zw_lmul ok_Ch_weightOf rfl ?_
        refine zw_lstore_n ok_Ch_weightOf rfl rfl (by decide) ?_
        refine zw_iinc ok_Ch_weightOf rfl rfl rfl (by decide) ?_
        refine zw_goto 5 ok_Ch_weightOf rfl (by decide) ?_
        exact ih (u + 1) _ (by omega) (by omega) hx
      · rw [tb_ask0 _ (by omega)] at h27
        rw [if_pos (by simpa using h27)] at hx
        refine zw_iload_n ok_Ch_weightOf rfl rfl ?_
        refine zw_i2l ok_Ch_weightOf rfl (by omega) ?_
        refine zw_goto 40 ok_Ch_weightOf rfl (by decide) ?_
        refine zw_lmul ok_Ch_weightOf rfl ?_
        refine zw_lstore_n ok_Ch_weightOf rfl rfl (by decide) ?_
        refine zw_iinc ok_Ch_weightOf rfl rfl rfl (by decide) ?_
        refine zw_goto 5 ok_Ch_weightOf rfl (by decide) ?_
        exact ih (u + 1) _ (by omega) (by omega) hx
theorem ct_Ch_weightOf {f c : Int} (hC : okC mem) (hc : 0 ≤ c ∧ c ≤ 16) : zClp m_Ch_weightOf [vr 37, vi f, vi c] (putC mem L s) (lp (wtF f c) (mem 16 3).toNat 0 1) := by
  have h16 := hC.1.2.2.1
  refine zCt.of [some (vr 37), some (vi f), some (vi c), none, none, none] ok_Ch_weightOf (Nat.le_of_ble_eq_true rfl) rfl ?_
  refine zw_lconst ok_Ch_weightOf rfl ?_
  refine zw_lstore_n ok_Ch_weightOf rfl rfl (by decide) ?_
  refine zw_iconst ok_Ch_weightOf rfl ?_
  refine zw_istore ok_Ch_weightOf rfl rfl (by decide) ?_
  exact wt_loop hC hc (mem 16 3).toNat 0 1 (by omega) (by omega) ⟨rfl, rfl⟩
def addF (g w : Int) (p : Int) (f : Int → Int) : Int → Int := if tb g p.toNat = true then zupd f p (f p + w) else f
theorem add_loop {w : Int} (hP : 0 ≤ mem 5 4 ∧ mem 5 4 ≤ 8) :
    ∀ (k : Nat) (p : Int) (f : Int → Int), 0 ≤ p → p + k = mem 5 4 → Q none (putC (zput mem 38 (lp (addF s.2.2.1 w) k p f)) L s) → AW m_Ch_addToGone 2 [some (vr 37), some (vl w), none, some (vi p)] [] (putC (zput mem 38 f) L s) Q := by
  intro k
  induction k with
  | zero =>
    intro p f h0 hp hx
    refine zw_iload_n ok_Ch_addToGone rfl rfl ?_
    refine zw_aload_n ok_Ch_addToGone rfl rfl ?_
    refine zw_getr ok_Ch_addToGone rfl fl_Ch_15 rfl rfl ?_
    refine zw_getr ok_Ch_addToGone rfl fl_Ch_64 rfl rfl ?_
    refine zw_geti ok_Ch_addToGone rfl fl_Ch_68 rfl rfl ?_
    try simp only [rd_C9, rd_C10, rd_C11, rd_C12, rd_C25, rd_C26, rd_C27, rd_C28, rd_C29, rd_C_0, rd_C_1, rd_C_2, rd_C_3, rd_C_4, rd_C_5, rd_C_6, rd_C_7, rd_C_8, rd_C_9, rd_C_10, rd_C_11, rd_C_12, rd_C_13, rd_C_14, rd_C_15, rd_C_16, rd_C_17, rd_C_18, rd_C_19, rd_C_20, rd_C_21, rd_C_22, rd_C_23, rd_C_30, rd_C_31, rd_C_32, rd_C_33, rd_C_34, rd_C_35, rd_C_36, rd_C_37, rd_C_38, rd_C_39, rd_C_40, rd_C_41, rd_C_42, rd_C_43, rd_C_44, rd_C_45, rd_C_46, rd_C_47, rd_C_48, rd_C_49, rd_C_50, rd_C_51, rd_C_52, rd_C_53, rd_C_54, rd_C_55, rd_C_56, rd_C_57, rd_C_58, rd_C_59, rd_C_60, rd_C_61, rd_C_62, rd_C_63, rd_C_64, rd_C_65, wr_C9, wr_C10, wr_C11, wr_C12, wr_C25, wr_C26, wr_C27, wr_C28, wr_C29, wp_C25, wp_C26, wp_C27, wp_C28, wp_C29, zput_ne (show (5 : Nat) ≠ 38 by decide)]
    refine zw_icmp_ge 43 ok_Ch_addToGone rfl (by decide) (by omega) (fun h13 => ?_) (fun h13 => ?_)
    · exact zw_vret ok_Ch_addToGone rfl rfl (hx)
    · exfalso; omega
  | succ k ih =>
    intro p f h0 hp hx
    rw [lp_s] at hx
    unfold addF at hx
    refine zw_iload_n ok_Ch_addToGone rfl rfl ?_
    refine zw_aload_n ok_Ch_addToGone rfl rfl ?_
    refine zw_getr ok_Ch_addToGone rfl fl_Ch_15 rfl rfl ?_
    refine zw_getr ok_Ch_addToGone rfl fl_Ch_64 rfl rfl ?_
    refine zw_geti ok_Ch_addToGone rfl fl_Ch_68 rfl rfl ?_
    try simp only [rd_C9, rd_C10, rd_C11, rd_C12, rd_C25, rd_C26, rd_C27, rd_C28, rd_C29, rd_C_0, rd_C_1, rd_C_2, rd_C_3, rd_C_4, rd_C_5, rd_C_6, rd_C_7, rd_C_8, rd_C_9, rd_C_10, rd_C_11, rd_C_12, rd_C_13, rd_C_14, rd_C_15, rd_C_16, rd_C_17, rd_C_18, rd_C_19, rd_C_20, rd_C_21, rd_C_22, rd_C_23, rd_C_30, rd_C_31, rd_C_32, rd_C_33, rd_C_34, rd_C_35, rd_C_36, rd_C_37, rd_C_38, rd_C_39, rd_C_40, rd_C_41, rd_C_42, rd_C_43, rd_C_44, rd_C_45, rd_C_46, rd_C_47, rd_C_48, rd_C_49, rd_C_50, rd_C_51, rd_C_52, rd_C_53, rd_C_54, rd_C_55, rd_C_56, rd_C_57, rd_C_58, rd_C_59, rd_C_60, rd_C_61, rd_C_62, rd_C_63, rd_C_64, rd_C_65, wr_C9, wr_C10, wr_C11, wr_C12, wr_C25, wr_C26, wr_C27, wr_C28, wr_C29, wp_C25, wp_C26, wp_C27, wp_C28, wp_C29, zput_ne (show (5 : Nat) ≠ 38 by decide), zput_eq]
    refine zw_icmp_ge 43 ok_Ch_addToGone rfl (by decide) (by omega) (fun h13 => ?_) (fun h13 => ?_)
    · exfalso; omega
    · refine zw_aload_n ok_Ch_addToGone rfl rfl ?_
      refine zw_getr ok_Ch_addToGone rfl fl_Ch_15 rfl rfl ?_
      refine zw_iload_n ok_Ch_addToGone rfl rfl ?_
      refine zw_Vbp ok_Ch_addToGone rfl ok_Co_isGone lk_Ch_71 (by decide) rfl rfl (Nat.le_of_ble_eq_true rfl) (ct_Co_isGone (by omega)) ?_
      refine zw_ifeq_b 37 ok_Ch_addToGone rfl (by decide) (fun h24 => ?_) (fun h24 => ?_)
      · rw [if_neg (by simp [h24])] at hx
        refine zw_iinc ok_Ch_addToGone rfl rfl rfl (by decide) ?_
        refine zw_goto 2 ok_Ch_addToGone rfl (by decide) ?_
        exact ih (p + 1) _ (by omega) (by omega) hx
      · rw [if_pos h24] at hx
        refine zw_aload_n ok_Ch_addToGone rfl rfl ?_
        refine zw_getr ok_Ch_addToGone rfl fl_Ch_9 rfl rfl ?_
        refine zw_iload_n ok_Ch_addToGone rfl rfl ?_
        refine zw_dup2 ok_Ch_addToGone rfl ?_
        refine zw_lald ok_Ch_addToGone rfl rfl (by omega) ?_
        try simp only [rd_C9, rd_C10, rd_C11, rd_C12, rd_C25, rd_C26, rd_C27, rd_C28, rd_C29, rd_C_0, rd_C_1, rd_C_2, rd_C_3, rd_C_4, rd_C_5, rd_C_6, rd_C_7, rd_C_8, rd_C_9, rd_C_10, rd_C_11, rd_C_12, rd_C_13, rd_C_14, rd_C_15, rd_C_16, rd_C_17, rd_C_18, rd_C_19, rd_C_20, rd_C_21, rd_C_22, rd_C_23, rd_C_30, rd_C_31, rd_C_32, rd_C_33, rd_C_34, rd_C_35, rd_C_36, rd_C_37, rd_C_38, rd_C_39, rd_C_40, rd_C_41, rd_C_42, rd_C_43, rd_C_44, rd_C_45, rd_C_46, rd_C_47, rd_C_48, rd_C_49, rd_C_50, rd_C_51, rd_C_52, rd_C_53, rd_C_54, rd_C_55, rd_C_56, rd_C_57, rd_C_58, rd_C_59, rd_C_60, rd_C_61, rd_C_62, rd_C_63, rd_C_64, rd_C_65, wr_C9, wr_C10, wr_C11, wr_C12, wr_C25, wr_C26, wr_C27, wr_C28, wr_C29, wp_C25, wp_C26, wp_C27, wp_C28, wp_C29, zput_ne (show (5 : Nat) ≠ 38 by decide), zput_eq]
        refine zw_lload_n ok_Ch_addToGone rfl rfl ?_
        refine zw_ladd ok_Ch_addToGone rfl ?_
        refine zw_last ok_Ch_addToGone rfl rfl (by omega) ?_
        try simp only [rd_C9, rd_C10, rd_C11, rd_C12, rd_C25, rd_C26, rd_C27, rd_C28, rd_C29, rd_C_0, rd_C_1, rd_C_2, rd_C_3, rd_C_4, rd_C_5, rd_C_6, rd_C_7, rd_C_8, rd_C_9, rd_C_10, rd_C_11, rd_C_12, rd_C_13, rd_C_14, rd_C_15, rd_C_16, rd_C_17, rd_C_18, rd_C_19, rd_C_20, rd_C_21, rd_C_22, rd_C_23, rd_C_30, rd_C_31, rd_C_32, rd_C_33, rd_C_34, rd_C_35, rd_C_36, rd_C_37, rd_C_38, rd_C_39, rd_C_40, rd_C_41, rd_C_42, rd_C_43, rd_C_44, rd_C_45, rd_C_46, rd_C_47, rd_C_48, rd_C_49, rd_C_50, rd_C_51, rd_C_52, rd_C_53, rd_C_54, rd_C_55, rd_C_56, rd_C_57, rd_C_58, rd_C_59, rd_C_60, rd_C_61, rd_C_62, rd_C_63, rd_C_64, rd_C_65, wr_C9, wr_C10, wr_C11, wr_C12, wr_C25, wr_C26, wr_C27, wr_C28, wr_C29, wp_C25, wp_C26, wp_C27, wp_C28, wp_C29, zput_ne (show (5 : Nat) ≠ 38 by decide), zput_eq]
        rw [wrC_out (by omega), show zset (zput mem 38 f) 38 p (f p + w) = zput mem 38 (zupd f p (f p + w)) by funext q; by_cases e : q = 38; (subst e; rw [zset_eq, zput_eq, zput_eq]); rw [zset_ne e, zput_ne e, zput_ne e]]
        refine zw_iinc ok_Ch_addToGone rfl rfl rfl (by decide) ?_
        refine zw_goto 2 ok_Ch_addToGone rfl (by decide) ?_
        exact ih (p + 1) _ (by omega) (by omega) hx
theorem ct_Ch_addToGone {w : Int} {f : Int → Int} (hP : 0 ≤ mem 5 4 ∧ mem 5 4 ≤ 8) : zCvp m_Ch_addToGone [vr 37, vl w] (putC (zput mem 38 f) L s) (putC (zput mem 38 (lp (addF s.2.2.1 w) (mem 5 4).toNat 0 f)) L s) := by
  refine zCt.of [some (vr 37), some (vl w), none, none] ok_Ch_addToGone (Nat.le_of_ble_eq_true rfl) rfl ?_
  refine zw_iconst ok_Ch_addToGone rfl ?_
  refine zw_istore_n ok_Ch_addToGone rfl rfl (by decide) ?_
  exact add_loop hP (mem 5 4).toNat 0 f (by omega) (by omega) ⟨rfl, rfl⟩
theorem add_at {g w : Int} {p : Int} : ∀ (k : Nat) (i : Int) (f : Int → Int), 0 ≤ i → lp (addF g w) k i f p = if i ≤ p ∧ p < i + k ∧ tb g p.toNat = true then f p + w else f p
  | 0, i, f, h => by rw [if_neg (by omega)]; rfl
  | k + 1, i, f, h => by
    rw [lp_s, add_at k (i + 1) _ (by omega)]
    unfold addF
    by_cases e : p = i
    · subst e
      rw [if_neg (by omega)]
      by_cases hg : tb g p.toNat = true
      · rw [if_pos hg, zupd_eq, if_pos ⟨by omega, by omega, hg⟩]
      · rw [if_neg hg, if_neg (fun q => hg q.2.2)]
    · have e2 : (if tb g i.toNat = true then zupd f i (f i + w) else f) p = f p := by
        split
        · exact zupd_ne e
        · rfl
      rw [e2]
      by_cases hc : i + 1 ≤ p ∧ p < i + 1 + k ∧ tb g p.toNat = true
      · rw [if_pos hc, if_pos ⟨by omega, by omega, hc.2.2⟩]
      · rw [if_neg hc, if_neg (fun q => hc ⟨by omega, by omega, q.2.2⟩)]
end
