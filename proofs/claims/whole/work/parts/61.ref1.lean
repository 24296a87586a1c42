/-! ===== the reference's small methods ===== -/
section
variable {M : zMth} {pc nx : Nat} {ls : zLs} {st : List zVal} {mem : zMem} {Q : Option zVal → zMem → Prop}
theorem zw_lconst0 (hM : zOK M) (hd : zlook (mTbl M) pc = some (.lconst 0, 1, nx)) (kk : AW M nx ls (vl 0 :: st) mem Q) : AW M pc ls st mem Q := zw_lconst hM hd kk
theorem zw_lconst1 (hM : zOK M) (hd : zlook (mTbl M) pc = some (.lconst 1, 1, nx)) (kk : AW M nx ls (vl 1 :: st) mem Q) : AW M pc ls st mem Q := zw_lconst hM hd kk
end
theorem lc_lt {x y : Int} : (if x < y then (-1 : Int) else if x = y then 0 else 1) < 0 ↔ x < y := by (repeat' split) <;> omega
theorem lc_gt {x y : Int} : 0 < (if x < y then (-1 : Int) else if x = y then 0 else 1) ↔ y < x := by (repeat' split) <;> omega
theorem lc_0 {x y : Int} : (if x < y then (-1 : Int) else if x = y then 0 else 1) = 0 ↔ x = y := by (repeat' split) <;> omega
abbrev zRL (x : Int) : Prop := -9223372036854775808 ≤ x ∧ x < 9223372036854775808
section
variable {mem : zMem}
theorem ct_M_in {v a b : Int} (h : (zRL v ∧ zRL a) ∧ zRL b) : zCbp m_M_in [vl v, vl a, vl b] mem (decide (a ≤ v ∧ v ≤ b)) := by
  refine zCt.of [some (vl v), none, some (vl a), none, some (vl b), none] ok_M_in (Nat.le_of_ble_eq_true rfl) rfl ?_
  refine zw_lload_n ok_M_in rfl rfl ?_
  refine zw_lload_n ok_M_in rfl rfl ?_
  refine zw_lcmp ok_M_in rfl (by omega) ?_
  refine zw_if_lt 17 ok_M_in rfl (by decide) (by (repeat' split) <;> omega) (fun h3 => ?_) (fun h3 => ?_)
  · have h3 := lc_lt.mp h3
    refine zw_iconst ok_M_in rfl ?_
    exact zw_zret ok_M_in rfl rfl (by first | exact Or.inl rfl | exact Or.inr rfl | exact bi01 _) (⟨by first | rw [bi_t (by omega)] | rw [bi_f (by omega)], rfl⟩)
  · have h3 : ¬ v < a := fun z => h3 (lc_lt.mpr z)
    refine zw_lload_n ok_M_in rfl rfl ?_
    refine zw_lload ok_M_in rfl rfl ?_
    refine zw_lcmp ok_M_in rfl (by omega) ?_
    refine zw_if_gt 17 ok_M_in rfl (by decide) (by (repeat' split) <;> omega) (fun h10 => ?_) (fun h10 => ?_)
    · have h10 := lc_gt.mp h10
      refine zw_iconst ok_M_in rfl ?_
      exact zw_zret ok_M_in rfl rfl (by first | exact Or.inl rfl | exact Or.inr rfl | exact bi01 _) (⟨by first | rw [bi_t (by omega)] | rw [bi_f (by omega)], rfl⟩)
    · have h10 : ¬ b < v := fun z => h10 (lc_gt.mpr z)
      refine zw_iconst ok_M_in rfl ?_
      refine zw_goto 18 ok_M_in rfl (by decide) ?_
      exact zw_zret ok_M_in rfl rfl (by first | exact Or.inl rfl | exact Or.inr rfl | exact bi01 _) (⟨by first | rw [bi_t (by omega)] | rw [bi_f (by omega)], rfl⟩)
theorem ct_M_no {v : Int} (h : zR v) : zClp m_M_no [vi v] mem (-9223372036854775808 - v) := by
  refine zCt.of [some (vi v)] ok_M_no (Nat.le_of_ble_eq_true rfl) rfl ?_
  refine zw_ldc2 ok_M_no rfl kc_M_68 ?_
  refine zw_iload_n ok_M_no rfl rfl ?_
  refine zw_i2l ok_M_no rfl (by omega) ?_
  refine zw_lsub ok_M_no rfl ?_
  exact zw_lret ok_M_no rfl rfl (⟨rfl, rfl⟩)
theorem ct_M_isTwo {v : Int} (h : zR v) : zCbp m_M_isTwo [vi v] mem (decide (0 ≤ v ∧ v ≤ 1)) := by
  refine zCt.of [some (vi v)] ok_M_isTwo (Nat.le_of_ble_eq_true rfl) rfl ?_
  refine zw_iload_n ok_M_isTwo rfl rfl ?_
  refine zw_i2l ok_M_isTwo rfl (by omega) ?_
  refine zw_lconst0 ok_M_isTwo rfl ?_
  refine zw_lconst1 ok_M_isTwo rfl ?_
  refine zw_Sbp ok_M_isTwo rfl ok_M_in lk_M_70 (by decide) rfl (Nat.le_of_ble_eq_true rfl) (ct_M_in (by omega)) ?_
  exact zw_zret ok_M_isTwo rfl rfl (by first | exact Or.inl rfl | exact Or.inr rfl | exact bi01 _) (⟨rfl, rfl⟩)
theorem ct_M_isSheet {v : Int} (h : zR v) : zCbp m_M_isSheet [vi v] mem (decide (0 ≤ v ∧ v ≤ 3)) := by
  refine zCt.of [some (vi v)] ok_M_isSheet (Nat.le_of_ble_eq_true rfl) rfl ?_
  refine zw_iload_n ok_M_isSheet rfl rfl ?_
  refine zw_i2l ok_M_isSheet rfl (by omega) ?_
  refine zw_lconst0 ok_M_isSheet rfl ?_
  refine zw_ldc2 ok_M_isSheet rfl kc_M_77 ?_
  refine zw_Sbp ok_M_isSheet rfl ok_M_in lk_M_70 (by decide) rfl (Nat.le_of_ble_eq_true rfl) (ct_M_in (by omega)) ?_
  exact zw_zret ok_M_isSheet rfl rfl (by first | exact Or.inl rfl | exact Or.inr rfl | exact bi01 _) (⟨rfl, rfl⟩)
theorem ct_M_isAnyone {v : Int} (h : zR v) : zCbp m_M_isAnyone [vi v] mem (decide (0 ≤ v ∧ v ≤ 7)) := by
  refine zCt.of [some (vi v)] ok_M_isAnyone (Nat.le_of_ble_eq_true rfl) rfl ?_
  refine zw_iload_n ok_M_isAnyone rfl rfl ?_
  refine zw_i2l ok_M_isAnyone rfl (by omega) ?_
  refine zw_lconst0 ok_M_isAnyone rfl ?_
  refine zw_ldc2 ok_M_isAnyone rfl kc_M_136 ?_
  refine zw_Sbp ok_M_isAnyone rfl ok_M_in lk_M_70 (by decide) rfl (Nat.le_of_ble_eq_true rfl) (ct_M_in (by omega)) ?_
  exact zw_zret ok_M_isAnyone rfl rfl (by first | exact Or.inl rfl | exact Or.inr rfl | exact bi01 _) (⟨rfl, rfl⟩)
theorem ct_M_isHour {v : Int} (h : zR v) : zCbp m_M_isHour [vi v] mem (decide (0 ≤ v ∧ v ≤ 11)) := by
  refine zCt.of [some (vi v)] ok_M_isHour (Nat.le_of_ble_eq_true rfl) rfl ?_
  refine zw_iload_n ok_M_isHour rfl rfl ?_
  refine zw_i2l ok_M_isHour rfl (by omega) ?_
  refine zw_lconst0 ok_M_isHour rfl ?_
  refine zw_ldc2 ok_M_isHour rfl kc_M_138 ?_
  refine zw_Sbp ok_M_isHour rfl ok_M_in lk_M_70 (by decide) rfl (Nat.le_of_ble_eq_true rfl) (ct_M_in (by omega)) ?_
  exact zw_zret ok_M_isHour rfl rfl (by first | exact Or.inl rfl | exact Or.inr rfl | exact bi01 _) (⟨rfl, rfl⟩)
theorem ct_M_isPerson {v : Int} (h : zR v) (hP : 0 ≤ mem 48 7 ∧ mem 48 7 ≤ 8) : zCbp m_M_isPerson [vr 48, vi v] mem (decide (0 ≤ v ∧ v ≤ mem 48 7 - 1)) := by
  refine zCt.of [some (vr 48), some (vi v)] ok_M_isPerson (Nat.le_of_ble_eq_true rfl) rfl ?_
  refine zw_iload_n ok_M_isPerson rfl rfl ?_
  refine zw_i2l ok_M_isPerson rfl (by omega) ?_
  refine zw_lconst0 ok_M_isPerson rfl ?_
  refine zw_aload_n ok_M_isPerson rfl rfl ?_
  refine zw_geti ok_M_isPerson rfl fl_M_109 rfl rfl ?_
  refine zw_iconst ok_M_isPerson rfl ?_
  refine zw_isub ok_M_isPerson rfl ?_
  refine zw_i2l ok_M_isPerson rfl (by omega) ?_
  refine zw_Sbp ok_M_isPerson rfl ok_M_in lk_M_70 (by decide) rfl (Nat.le_of_ble_eq_true rfl) (ct_M_in (by omega)) ?_
  exact zw_zret ok_M_isPerson rfl rfl (by first | exact Or.inl rfl | exact Or.inr rfl | exact bi01 _) (⟨rfl, rfl⟩)
theorem ct_M_isIn {x k : Int} (hk : 0 ≤ k ∧ k < 32) : zCbp m_M_isIn [vi x, vi k] mem (tb x k.toNat) := by
  refine zCt.of [some (vi x), some (vi k)] ok_M_isIn (Nat.le_of_ble_eq_true rfl) rfl ?_
  cases htb : tb x k.toNat
  · have e := (tb_ask0 x hk).mpr htb
    refine zw_iload_n ok_M_isIn rfl rfl ?_
    refine zw_iload_n ok_M_isIn rfl rfl ?_
    refine zw_ishr ok_M_isIn rfl ?_
    refine zw_iconst ok_M_isIn rfl ?_
    refine zw_iand ok_M_isIn rfl ?_
    rw [e]
    refine zw_iconst ok_M_isIn rfl ?_
    refine zw_icmp_ne 13 ok_M_isIn rfl (by decide) (by omega) (fun h6 => ?_) (fun h6 => ?_)
    · refine zw_iconst ok_M_isIn rfl ?_
      exact zw_zret ok_M_isIn rfl rfl (by first | exact Or.inl rfl | exact Or.inr rfl | exact bi01 _) (⟨rfl, rfl⟩)
    · exfalso; omega
  · have e := (tb_ask1 x hk).mpr htb
    refine zw_iload_n ok_M_isIn rfl rfl ?_
    refine zw_iload_n ok_M_isIn rfl rfl ?_
    refine zw_ishr ok_M_isIn rfl ?_
    refine zw_iconst ok_M_isIn rfl ?_
    refine zw_iand ok_M_isIn rfl ?_
    rw [e]
    refine zw_iconst ok_M_isIn rfl ?_
    refine zw_icmp_ne 13 ok_M_isIn rfl (by decide) (by omega) (fun h6 => ?_) (fun h6 => ?_)
    · exfalso; omega
    · refine zw_iconst ok_M_isIn rfl ?_
      refine zw_goto 14 ok_M_isIn rfl (by decide) ?_
      exact zw_zret ok_M_isIn rfl rfl (by first | exact Or.inl rfl | exact Or.inr rfl | exact bi01 _) (⟨rfl, rfl⟩)
theorem ones8 : ∀ n, n < 256 → n ≠ 0 → pcN (zand ((n : Nat) : Int) (((n : Nat) : Int) - 1)) + 1 = pcN ((n : Nat) : Int) ∧ 0 ≤ zand ((n : Nat) : Int) (((n : Nat) : Int) - 1) ∧ zand ((n : Nat) : Int) (((n : Nat) : Int) - 1) < ((n : Nat) : Int) := by decide +kernel
theorem ones_loop {b : Int} {Q : Option zVal → zMem → Prop} : ∀ (k : Nat) (x n : Int), (0 ≤ x ∧ x < 256) → x < k → Q (some (vi (n + pcN x))) mem → AW m_M_ones 4 [some (vi b), some (vi n), some (vi x)] [] mem Q := by
  intro k
  induction k with
  | zero => intro x n h1 h2; exfalso; omega
  | succ k ih =>
    intro x n h1 h2 hx
    by_cases h0 : x = 0
    · subst h0
      rw [show pcN 0 = 0 by decide +kernel, Int.add_zero] at hx
      refine zw_iload_n ok_M_ones rfl rfl ?_
      first | refine zw_ifeq_d 20 ok_M_ones rfl (by decide) (fun h5 => ?_) (fun h5 => ?_) | refine zw_ifeq_b 20 ok_M_ones rfl (by decide) (fun h5 => ?_) (fun h5 => ?_) | refine zw_if_eq 20 ok_M_ones rfl (by decide) (by omega) (fun h5 => ?_) (fun h5 => ?_)
      · refine zw_iload_n ok_M_ones rfl rfl ?_
        exact zw_iret ok_M_ones rfl rfl (hx)
      · exfalso; omega
    · have o := ones8 x.toNat (by omega) (by omega)
      rw [Int.toNat_of_nonneg h1.1] at o
      refine zw_iload_n ok_M_ones rfl rfl ?_
      first | refine zw_ifeq_d 20 ok_M_ones rfl (by decide) (fun h5 => ?_) (fun h5 => ?_) | refine zw_ifeq_b 20 ok_M_ones rfl (by decide) (fun h5 => ?_) (fun h5 => ?_) | refine zw_if_eq 20 ok_M_ones rfl (by decide) (by omega) (fun h5 => ?_) (fun h5 => ?_)
      · exfalso; omega
      · refine zw_iinc ok_M_ones rfl rfl rfl (by decide) ?_
        refine zw_iload_n ok_M_ones rfl rfl ?_
        refine zw_iload_n ok_M_ones rfl rfl ?_
        refine zw_iconst ok_M_ones rfl ?_
        refine zw_isub ok_M_ones rfl ?_
        refine zw_iand ok_M_ones rfl ?_
        refine zw_istore_n ok_M_ones rfl rfl (by decide) ?_
        refine zw_goto 4 ok_M_ones rfl (by decide) ?_
        refine ih _ _ ⟨o.2.1, by omega⟩ (by omega) ?_
        rw [show n + 1 + pcN (zand x (x - 1)) = n + pcN x by omega]
        exact hx
theorem ct_M_ones {x : Int} (hx : 0 ≤ x ∧ x < 256) : zCip m_M_ones [vi x] mem (pcN x) := by
  refine zCt.of [some (vi x), none, none] ok_M_ones (Nat.le_of_ble_eq_true rfl) rfl ?_
  refine zw_iconst ok_M_ones rfl ?_
  refine zw_istore_n ok_M_ones rfl rfl (by decide) ?_
  refine zw_iload_n ok_M_ones rfl rfl ?_
  refine zw_istore_n ok_M_ones rfl rfl (by decide) ?_
  exact ones_loop 256 x 0 hx (by omega) ⟨by rw [Int.zero_add], rfl⟩
theorem ct_M_lesser {a b : Int} (h : zR a ∧ zR b) : zCip m_M_lesser [vi a, vi b] mem (min a b) := by
  refine zCt.of [some (vi a), some (vi b)] ok_M_lesser (Nat.le_of_ble_eq_true rfl) rfl ?_
  refine zw_iload_n ok_M_lesser rfl rfl ?_
  refine zw_iload_n ok_M_lesser rfl rfl ?_
  refine zw_icmp_ge 9 ok_M_lesser rfl (by decide) (by omega) (fun h2 => ?_) (fun h2 => ?_)
  · rw [show min a b = b by omega]
    refine zw_iload_n ok_M_lesser rfl rfl ?_
    exact zw_iret ok_M_lesser rfl rfl (⟨rfl, rfl⟩)
  · rw [show min a b = a by omega]
    refine zw_iload_n ok_M_lesser rfl rfl ?_
    refine zw_goto 10 ok_M_lesser rfl (by decide) ?_
    exact zw_iret ok_M_lesser rfl rfl (⟨rfl, rfl⟩)
theorem ct_M_greater {a b : Int} (h : zR a ∧ zR b) : zCip m_M_greater [vi a, vi b] mem (max a b) := by
  refine zCt.of [some (vi a), some (vi b)] ok_M_greater (Nat.le_of_ble_eq_true rfl) rfl ?_
  refine zw_iload_n ok_M_greater rfl rfl ?_
  refine zw_iload_n ok_M_greater rfl rfl ?_
  refine zw_icmp_le 9 ok_M_greater rfl (by decide) (by omega) (fun h2 => ?_) (fun h2 => ?_)
  · rw [show max a b = b by omega]
    refine zw_iload_n ok_M_greater rfl rfl ?_
    exact zw_iret ok_M_greater rfl rfl (⟨rfl, rfl⟩)
  · rw [show max a b = a by omega]
    refine zw_iload_n ok_M_greater rfl rfl ?_
    refine zw_goto 10 ok_M_greater rfl (by decide) ?_
    exact zw_iret ok_M_greater rfl rfl (⟨rfl, rfl⟩)
theorem ct_M_finds {v : Int} : zCi m_M_finds [vr 48, vi v] mem (-10 - v) (fun m2 => m2 = zset mem 48 4 v) := by
  refine zCt.of [some (vr 48), some (vi v)] ok_M_finds (Nat.le_of_ble_eq_true rfl) rfl ?_
  refine zw_aload_n ok_M_finds rfl rfl ?_
  refine zw_iload_n ok_M_finds rfl rfl ?_
  refine zw_puti ok_M_finds rfl fp_M_74 rfl rfl ?_
  refine zw_bipush ok_M_finds rfl (by decide) ?_
  refine zw_iload_n ok_M_finds rfl rfl ?_
  refine zw_isub ok_M_finds rfl ?_
  exact zw_iret ok_M_finds rfl rfl (⟨rfl, rfl⟩)
theorem ct_M_cut {f v : Int} (hf : zR f) : zCip m_M_cut [vi f, vi v] mem (cutS f v) := by
  refine zCt.of [some (vi f), some (vi v)] ok_M_cut (Nat.le_of_ble_eq_true rfl) rfl ?_
  unfold cutS
  refine zw_iload_n ok_M_cut rfl rfl ?_
  refine zw_if_ne 9 ok_M_cut rfl (by decide) (by omega) (fun h1 => ?_) (fun h1 => ?_)
  · rw [if_neg h1]
    refine zw_iload_n ok_M_cut rfl rfl ?_
    refine zw_iconst ok_M_cut rfl ?_
    refine zw_icmp_ne 19 ok_M_cut rfl (by decide) (by omega) (fun h11 => ?_) (fun h11 => ?_)
    · rw [if_neg h11]
      refine zw_iload_n ok_M_cut rfl rfl ?_
      exact zw_iret ok_M_cut rfl rfl (⟨rfl, rfl⟩)
    · rw [if_pos h11]
      refine zw_iload_n ok_M_cut rfl rfl ?_
      refine zw_i2s ok_M_cut rfl ?_
      refine zw_goto 20 ok_M_cut rfl (by decide) ?_
      exact zw_iret ok_M_cut rfl rfl (⟨rfl, rfl⟩)
  · rw [if_pos h1]
    refine zw_iload_n ok_M_cut rfl rfl ?_
    refine zw_i2b ok_M_cut rfl ?_
    refine zw_goto 20 ok_M_cut rfl (by decide) ?_
    exact zw_iret ok_M_cut rfl rfl (⟨rfl, rfl⟩)
theorem ct_M_shades {h p : Int} (hu : 0 ≤ mem 48 13 ∧ mem 48 13 ≤ 9) : zCvp m_M_shades [vr 48, vi h, vi p] mem (zset (zset (zset mem 58 (2 * mem 48 13) h) 58 (2 * mem 48 13 + 1) p) 48 13 (mem 48 13 + 1)) := by
  refine zCt.of [some (vr 48), some (vi h), some (vi p)] ok_M_shades (Nat.le_of_ble_eq_true rfl) rfl ?_
  refine zw_aload_n ok_M_shades rfl rfl ?_
  refine zw_getr ok_M_shades rfl fl_M_37 rfl rfl ?_
  refine zw_iconst ok_M_shades rfl ?_
  refine zw_aload_n ok_M_shades rfl rfl ?_
  refine zw_geti ok_M_shades rfl fl_M_154 rfl rfl ?_
  refine zw_imul ok_M_shades rfl ?_
  refine zw_iload_n ok_M_shades rfl rfl ?_
  refine zw_iast ok_M_shades rfl rfl (by omega) ?_
  refine zw_aload_n ok_M_shades rfl rfl ?_
  refine zw_getr ok_M_shades rfl fl_M_37 rfl rfl ?_
  refine zw_iconst ok_M_shades rfl ?_
  refine zw_aload_n ok_M_shades rfl rfl ?_
  refine zw_geti ok_M_shades rfl fl_M_154 rfl rfl ?_
  rw [zset_ne (show (48 : Nat) ≠ 58 by decide)]
  refine zw_imul ok_M_shades rfl ?_
  refine zw_iconst ok_M_shades rfl ?_
  refine zw_iadd ok_M_shades rfl ?_
  refine zw_iload_n ok_M_shades rfl rfl ?_
  refine zw_iast ok_M_shades rfl rfl (by omega) ?_
  refine zw_aload_n ok_M_shades rfl rfl ?_
  first | refine zw_dupi ok_M_shades rfl ?_ | refine zw_dupr ok_M_shades rfl ?_
  refine zw_geti ok_M_shades rfl fl_M_154 rfl rfl ?_
  rw [zset_ne (show (48 : Nat) ≠ 58 by decide), zset_ne (show (48 : Nat) ≠ 58 by decide)]
  refine zw_iconst ok_M_shades rfl ?_
  refine zw_iadd ok_M_shades rfl ?_
  refine zw_puti ok_M_shades rfl fp_M_154 rfl rfl ?_
  exact zw_vret ok_M_shades rfl rfl (⟨rfl, rfl⟩)
theorem ct_M_lot {m : Int} (hm : 0 < m ∧ m ≤ 8) : zCi m_M_lot [vr 48, vi m] mem (zushr (1103515245 * mem 48 30 + 12345) 16 % m) (fun m2 => m2 = zset mem 48 30 (1103515245 * mem 48 30 + 12345)) := by
  refine zCt.of [some (vr 48), some (vi m)] ok_M_lot (Nat.le_of_ble_eq_true rfl) rfl ?_
  have z := zushr16 (1103515245 * mem 48 30 + 12345)
  refine zw_aload_n ok_M_lot rfl rfl ?_
  refine zw_ldcw ok_M_lot rfl kc_M_288 ?_
  refine zw_aload_n ok_M_lot rfl rfl ?_
  refine zw_geti ok_M_lot rfl fl_M_289 rfl rfl ?_
  refine zw_imul ok_M_lot rfl ?_
  refine zw_sipush ok_M_lot rfl (by decide) ?_
  refine zw_iadd ok_M_lot rfl ?_
  refine zw_puti ok_M_lot rfl fp_M_289 rfl rfl ?_
  refine zw_aload_n ok_M_lot rfl rfl ?_
  refine zw_geti ok_M_lot rfl fl_M_289 rfl rfl ?_
  rw [show zset mem 48 30 (1103515245 * mem 48 30 + 12345) 48 30 = 1103515245 * mem 48 30 + 12345 from by rw [zset_eq, zupd_eq]]
  refine zw_bipush ok_M_lot rfl (by decide) ?_
  refine zw_iushr ok_M_lot rfl ?_
  refine zw_iload_n ok_M_lot rfl rfl ?_
  refine zw_irem ok_M_lot rfl (by omega) ?_
  rw [zrem_nn (by omega) (by omega)]
  exact zw_iret ok_M_lot rfl rfl (⟨rfl, rfl⟩)
end
