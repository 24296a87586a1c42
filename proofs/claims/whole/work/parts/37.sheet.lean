/-! ===== Sheet ===== -/
def cutS (f v : Int) : Int := if f = 0 then zi2b v else if f = 1 then zi2s v else v
theorem zR_i2b (v : Int) : -2147483648 ≤ zi2b v ∧ zi2b v < 2147483648 := zR32 _
theorem zR_i2s (v : Int) : -2147483648 ≤ zi2s v ∧ zi2s v < 2147483648 := zR32 _
theorem zR_cut {f v : Int} (h : -2147483648 ≤ v ∧ v < 2147483648) : -2147483648 ≤ cutS f v ∧ cutS f v < 2147483648 := by
  unfold cutS
  split
  · exact zR_i2b v
  · split
    · exact zR_i2s v
    · exact h
def shK (k : Nat) : Prop := k = 40 ∨ k = 42 ∨ k = 44 ∨ k = 46
section
variable {mem : zMem}
theorem ct_Se_begin {k : Nat} {f n : Int} (hk : shK k) : zCvp m_Se_begin [vr k, vi f, vi n] mem (zset (zset (zset (zput mem (k + 1) (zfil 60 0 (mem (k + 1)))) k 2 f) k 3 n) k 1 0) := by
  rcases hk with rfl | rfl | rfl | rfl
  · refine zCt.of [some (vr 40), some (vi f), some (vi n)] ok_Se_begin (Nat.le_of_ble_eq_true rfl) rfl ?_
    refine zw_aload_n ok_Se_begin rfl rfl ?_
    refine zw_getr ok_Se_begin rfl fl_Se_9 rfl rfl ?_
    refine zw_iconst ok_Se_begin rfl ?_
    refine zw_Svp ok_Se_begin rfl ok_Jarr_fill_53178 lk_Se_19 (by decide) rfl (Nat.le_of_ble_eq_true rfl) (ct_Jarr_fill_53178 rfl) ?_
    refine zw_aload_n ok_Se_begin rfl rfl ?_
    refine zw_iload_n ok_Se_begin rfl rfl ?_
    refine zw_puti ok_Se_begin rfl fp_Se_25 rfl rfl ?_
    refine zw_aload_n ok_Se_begin rfl rfl ?_
    refine zw_iload_n ok_Se_begin rfl rfl ?_
    refine zw_puti ok_Se_begin rfl fp_Se_29 rfl rfl ?_
    refine zw_aload_n ok_Se_begin rfl rfl ?_
    refine zw_iconst ok_Se_begin rfl ?_
    refine zw_putz ok_Se_begin rfl fp_Se_15 rfl rfl (by first | exact Or.inl rfl | exact Or.inr rfl) ?_
    exact zw_vret ok_Se_begin rfl rfl (⟨rfl, rfl⟩)
  · refine zCt.of [some (vr 42), some (vi f), some (vi n)] ok_Se_begin (Nat.le_of_ble_eq_true rfl) rfl ?_
    refine zw_aload_n ok_Se_begin rfl rfl ?_
    refine zw_getr ok_Se_begin rfl fl_Se_9 rfl rfl ?_
    refine zw_iconst ok_Se_begin rfl ?_
    refine zw_Svp ok_Se_begin rfl ok_Jarr_fill_53178 lk_Se_19 (by decide) rfl (Nat.le_of_ble_eq_true rfl) (ct_Jarr_fill_53178 rfl) ?_
    refine zw_aload_n ok_Se_begin rfl rfl ?_
    refine zw_iload_n ok_Se_begin rfl rfl ?_
    refine zw_puti ok_Se_begin rfl fp_Se_25 rfl rfl ?_
    refine zw_aload_n ok_Se_begin rfl rfl ?_
    refine zw_iload_n ok_Se_begin rfl rfl ?_
    refine zw_puti ok_Se_begin rfl fp_Se_29 rfl rfl ?_
    refine zw_aload_n ok_Se_begin rfl rfl ?_
    refine zw_iconst ok_Se_begin rfl ?_
    refine zw_putz ok_Se_begin rfl fp_Se_15 rfl rfl (by first | exact Or.inl rfl | exact Or.inr rfl) ?_
    exact zw_vret ok_Se_begin rfl rfl (⟨rfl, rfl⟩)
  · refine zCt.of [some (vr 44), some (vi f), some (vi n)] ok_Se_begin (Nat.le_of_ble_eq_true rfl) rfl ?_
    refine zw_aload_n ok_Se_begin rfl rfl ?_
    refine zw_getr ok_Se_begin rfl fl_Se_9 rfl rfl ?_
    refine zw_iconst ok_Se_begin rfl ?_
    refine zw_Svp ok_Se_begin rfl ok_Jarr_fill_53178 lk_Se_19 (by decide) rfl (Nat.le_of_ble_eq_true rfl) (ct_Jarr_fill_53178 rfl) ?_
    refine zw_aload_n ok_Se_begin rfl rfl ?_
    refine zw_iload_n ok_Se_begin rfl rfl ?_
    refine zw_puti ok_Se_begin rfl fp_Se_25 rfl rfl ?_
    refine zw_aload_n ok_Se_begin rfl rfl ?_
    refine zw_iload_n ok_Se_begin rfl rfl ?_
    refine zw_puti ok_Se_begin rfl fp_Se_29 rfl rfl ?_
    refine zw_aload_n ok_Se_begin rfl rfl ?_
    refine zw_iconst ok_Se_begin rfl ?_
    refine zw_putz ok_Se_begin rfl fp_Se_15 rfl rfl (by first | exact Or.inl rfl | exact Or.inr rfl) ?_
    exact zw_vret ok_Se_begin rfl rfl (⟨rfl, rfl⟩)
  · refine zCt.of [some (vr 46), some (vi f), some (vi n)] ok_Se_begin (Nat.le_of_ble_eq_true rfl) rfl ?_
    refine zw_aload_n ok_Se_begin rfl rfl ?_
    refine zw_getr ok_Se_begin rfl fl_Se_9 rfl rfl ?_
    refine zw_iconst ok_Se_begin rfl ?_
    refine zw_Svp ok_Se_begin rfl ok_Jarr_fill_53178 lk_Se_19 (by decide) rfl (Nat.le_of_ble_eq_true rfl) (ct_Jarr_fill_53178 rfl) ?_
    refine zw_aload_n ok_Se_begin rfl rfl ?_
    refine zw_iload_n ok_Se_begin rfl rfl ?_
    refine zw_puti ok_Se_begin rfl fp_Se_25 rfl rfl ?_
    refine zw_aload_n ok_Se_begin rfl rfl ?_
    refine zw_iload_n ok_Se_begin rfl rfl ?_
    refine zw_puti ok_Se_begin rfl fp_Se_29 rfl rfl ?_
    refine zw_aload_n ok_Se_begin rfl rfl ?_
    refine zw_iconst ok_Se_begin rfl ?_
    refine zw_putz ok_Se_begin rfl fp_Se_15 rfl rfl (by first | exact Or.inl rfl | exact Or.inr rfl) ?_
    exact zw_vret ok_Se_begin rfl rfl (⟨rfl, rfl⟩)
def fndS (mem : zMem) (k : Nat) (f i : Int) : Int := if mem k 1 ≠ 0 then 1 else if mem k 2 ≠ f then 3 else if 0 ≤ i ∧ i ≤ mem k 3 - 1 then 0 else 2
def shR (mem : zMem) (k : Nat) : Prop := (mem k 1 = 0 ∨ mem k 1 = 1) ∧ (0 ≤ mem k 2 ∧ mem k 2 ≤ 2) ∧ (0 ≤ mem k 3 ∧ mem k 3 ≤ 60)
theorem ct_Se_findingAt {k : Nat} {f i : Int} (hk : shK k) (hr : shR mem k) (hf : 0 ≤ f ∧ f ≤ 2) (hi : zR i) : zCip m_Se_findingAt [vr k, vi f, vi i] mem (fndS mem k f i) := by
  obtain ⟨r1, r2, r3⟩ := hr
  unfold fndS
  rcases hk with rfl | rfl | rfl | rfl
  · refine zCt.of [some (vr 40), some (vi f), some (vi i)] ok_Se_findingAt (Nat.le_of_ble_eq_true rfl) rfl ?_
    refine zw_aload_n ok_Se_findingAt rfl rfl ?_
    refine zw_geti ok_Se_findingAt rfl fl_Se_15 rfl rfl ?_
    refine zw_if_eq 9 ok_Se_findingAt rfl (by decide) (by omega) (fun h4 => ?_) (fun h4 => ?_)
    · rw [if_neg (fun z => z h4)]
      refine zw_aload_n ok_Se_findingAt rfl rfl ?_
      refine zw_geti ok_Se_findingAt rfl fl_Se_25 rfl rfl ?_
      refine zw_iload_n ok_Se_findingAt rfl rfl ?_
      refine zw_icmp_eq 19 ok_Se_findingAt rfl (by decide) (by omega) (fun h14 => ?_) (fun h14 => ?_)
      · rw [if_neg (fun z => z h14)]
        refine zw_iload_n ok_Se_findingAt rfl rfl ?_
        refine zw_iconst ok_Se_findingAt rfl ?_
        refine zw_aload_n ok_Se_findingAt rfl rfl ?_
        refine zw_geti ok_Se_findingAt rfl fl_Se_29 rfl rfl ?_
        refine zw_iconst ok_Se_findingAt rfl ?_
        refine zw_isub ok_Se_findingAt rfl ?_
        refine zw_Nbp ok_Se_findingAt rfl ok_B_within lk_Se_32 (by decide) rfl (Nat.le_of_ble_eq_true rfl) (ct_B_within (by omega)) ?_
        refine zw_ifeq_d 37 ok_Se_findingAt rfl (by decide) (fun h30 => ?_) (fun h30 => ?_)
        · rw [if_neg h30]
          refine zw_iconst ok_Se_findingAt rfl ?_
          exact zw_iret ok_Se_findingAt rfl rfl (⟨rfl, rfl⟩)
        · rw [if_pos h30]
          refine zw_iconst ok_Se_findingAt rfl ?_
          refine zw_goto 38 ok_Se_findingAt rfl (by decide) ?_
          exact zw_iret ok_Se_findingAt rfl rfl (⟨rfl, rfl⟩)
      · rw [if_pos h14]
        refine zw_iconst ok_Se_findingAt rfl ?_
        exact zw_iret ok_Se_findingAt rfl rfl (⟨rfl, rfl⟩)
    · rw [if_pos h4]
      refine zw_iconst ok_Se_findingAt rfl ?_
      exact zw_iret ok_Se_findingAt rfl rfl (⟨rfl, rfl⟩)
  · refine zCt.of [some (vr 42), some (vi f), some (vi i)] ok_Se_findingAt (Nat.le_of_ble_eq_true rfl) rfl ?_
    refine zw_aload_n ok_Se_findingAt rfl rfl ?_
    refine zw_geti ok_Se_findingAt rfl fl_Se_15 rfl rfl ?_
    refine zw_if_eq 9 ok_Se_findingAt rfl (by decide) (by omega) (fun h4 => ?_) (fun h4 => ?_)
    · rw [if_neg (fun z => z h4)]
      refine zw_aload_n ok_Se_findingAt rfl rfl ?_
      refine zw_geti ok_Se_findingAt rfl fl_Se_25 rfl rfl ?_
      refine zw_iload_n ok_Se_findingAt rfl rfl ?_
      refine zw_icmp_eq 19 ok_Se_findingAt rfl (by decide) (by omega) (fun h14 => ?_) (fun h14 => ?_)
      · rw [if_neg (fun z => z h14)]
        refine zw_iload_n ok_Se_findingAt rfl rfl ?_
        refine zw_iconst ok_Se_findingAt rfl ?_
        refine zw_aload_n ok_Se_findingAt rfl rfl ?_
        refine zw_geti ok_Se_findingAt rfl fl_Se_29 rfl rfl ?_
        refine zw_iconst ok_Se_findingAt rfl ?_
        refine zw_isub ok_Se_findingAt rfl ?_
        refine zw_Nbp ok_Se_findingAt rfl ok_B_within lk_Se_32 (by decide) rfl (Nat.le_of_ble_eq_true rfl) (ct_B_within (by omega)) ?_
        refine zw_ifeq_d 37 ok_Se_findingAt rfl (by decide) (fun h30 => ?_) (fun h30 => ?_)
        · rw [if_neg h30]
          refine zw_iconst ok_Se_findingAt rfl ?_
          exact zw_iret ok_Se_findingAt rfl rfl (⟨rfl, rfl⟩)
        · rw [if_pos h30]
          refine zw_iconst ok_Se_findingAt rfl ?_
          refine zw_goto 38 ok_Se_findingAt rfl (by decide) ?_
          exact zw_iret ok_Se_findingAt rfl rfl (⟨rfl, rfl⟩)
      · rw [if_pos h14]
        refine zw_iconst ok_Se_findingAt rfl ?_
        exact zw_iret ok_Se_findingAt rfl rfl (⟨rfl, rfl⟩)
    · rw [if_pos h4]
      refine zw_iconst ok_Se_findingAt rfl ?_
      exact zw_iret ok_Se_findingAt rfl rfl (⟨rfl, rfl⟩)
  · refine zCt.of [some (vr 44), some (vi f), some (vi i)] ok_Se_findingAt (Nat.le_of_ble_eq_true rfl) rfl ?_
    refine zw_aload_n ok_Se_findingAt rfl rfl ?_
    refine zw_geti ok_Se_findingAt rfl fl_Se_15 rfl rfl ?_
    refine zw_if_eq 9 ok_Se_findingAt rfl (by decide) (by omega) (fun h4 => ?_) (fun h4 => ?_)
    · rw [if_neg (fun z => z h4)]
      refine zw_aload_n ok_Se_findingAt rfl rfl ?_
      refine zw_geti ok_Se_findingAt rfl fl_Se_25 rfl rfl ?_
      refine zw_iload_n ok_Se_findingAt rfl rfl ?_
      refine zw_icmp_eq 19 ok_Se_findingAt rfl (by decide) (by omega) (fun h14 => ?_) (fun h14 => ?_)
      · rw [if_neg (fun z => z h14)]
        refine zw_iload_n ok_Se_findingAt rfl rfl ?_
        refine zw_iconst ok_Se_findingAt rfl ?_
        refine zw_aload_n ok_Se_findingAt rfl rfl ?_
        refine zw_geti ok_Se_findingAt rfl fl_Se_29 rfl rfl ?_
        refine zw_iconst ok_Se_findingAt rfl ?_
        refine zw_isub ok_Se_findingAt rfl ?_
        refine zw_Nbp ok_Se_findingAt rfl ok_B_within lk_Se_32 (by decide) rfl (Nat.le_of_ble_eq_true rfl) (ct_B_within (by omega)) ?_
        refine zw_ifeq_d 37 ok_Se_findingAt rfl (by decide) (fun h30 => ?_) (fun h30 => ?_)
        · rw [if_neg h30]
          refine zw_iconst ok_Se_findingAt rfl ?_
          exact zw_iret ok_Se_findingAt rfl rfl (⟨rfl, rfl⟩)
        · rw [if_pos h30]
          refine zw_iconst ok_Se_findingAt rfl ?_
          refine zw_goto 38 ok_Se_findingAt rfl (by decide) ?_
          exact zw_iret ok_Se_findingAt rfl rfl (⟨rfl, rfl⟩)
      · rw [if_pos h14]
        refine zw_iconst ok_Se_findingAt rfl ?_
        exact zw_iret ok_Se_findingAt rfl rfl (⟨rfl, rfl⟩)
    · rw [if_pos h4]
      refine zw_iconst ok_Se_findingAt rfl ?_
      exact zw_iret ok_Se_findingAt rfl rfl (⟨rfl, rfl⟩)
  · refine zCt.of [some (vr 46), some (vi f), some (vi i)] ok_Se_findingAt (Nat.le_of_ble_eq_true rfl) rfl ?_
    refine zw_aload_n ok_Se_findingAt rfl rfl ?_
    refine zw_geti ok_Se_findingAt rfl fl_Se_15 rfl rfl ?_
    refine zw_if_eq 9 ok_Se_findingAt rfl (by decide) (by omega) (fun h4 => ?_) (fun h4 => ?_)
    · rw [if_neg (fun z => z h4)]
      refine zw_aload_n ok_Se_findingAt rfl rfl ?_
      refine zw_geti ok_Se_findingAt rfl fl_Se_25 rfl rfl ?_
      refine zw_iload_n ok_Se_findingAt rfl rfl ?_
      refine zw_icmp_eq 19 ok_Se_findingAt rfl (by decide) (by omega) (fun h14 => ?_) (fun h14 => ?_)
      · rw [if_neg (fun z => z h14)]
        refine zw_iload_n ok_Se_findingAt rfl rfl ?_
        refine zw_iconst ok_Se_findingAt rfl ?_
        refine zw_aload_n ok_Se_findingAt rfl rfl ?_
        refine zw_geti ok_Se_findingAt rfl fl_Se_29 rfl rfl ?_
        refine zw_iconst ok_Se_findingAt rfl ?_
        refine zw_isub ok_Se_findingAt rfl ?_
        refine zw_Nbp ok_Se_findingAt rfl ok_B_within lk_Se_32 (by decide) rfl (Nat.le_of_ble_eq_true rfl) (ct_B_within (by omega)) ?_
        refine zw_ifeq_d 37 ok_Se_findingAt rfl (by decide) (fun h30 => ?_) (fun h30 => ?_)
        · rw [if_neg h30]
          refine zw_iconst ok_Se_findingAt rfl ?_
          exact zw_iret ok_Se_findingAt rfl rfl (⟨rfl, rfl⟩)
        · rw [if_pos h30]
          refine zw_iconst ok_Se_findingAt rfl ?_
          refine zw_goto 38 ok_Se_findingAt rfl (by decide) ?_
          exact zw_iret ok_Se_findingAt rfl rfl (⟨rfl, rfl⟩)
      · rw [if_pos h14]
        refine zw_iconst ok_Se_findingAt rfl ?_
        exact zw_iret ok_Se_findingAt rfl rfl (⟨rfl, rfl⟩)
    · rw [if_pos h4]
      refine zw_iconst ok_Se_findingAt rfl ?_
      exact zw_iret ok_Se_findingAt rfl rfl (⟨rfl, rfl⟩)
theorem ct_Se_hasItems {k : Nat} {f n : Int} (hk : shK k) (hr : shR mem k) (hf : zR f) (hn : zR n) : zCbp m_Se_hasItems [vr k, vi f, vi n] mem (decide (0 ≤ f ∧ 0 ≤ n ∧ n ≤ mem k 3 - f)) := by
  obtain ⟨r1, r2, r3⟩ := hr
  rcases hk with rfl | rfl | rfl | rfl
  · refine zCt.of [some (vr 40), some (vi f), some (vi n)] ok_Se_hasItems (Nat.le_of_ble_eq_true rfl) rfl ?_
    refine zw_iload_n ok_Se_hasItems rfl rfl ?_
    refine zw_if_lt 22 ok_Se_hasItems rfl (by decide) (by omega) (fun h1 => ?_) (fun h1 => ?_)
    · refine zw_iconst ok_Se_hasItems rfl ?_
      exact zw_zret ok_Se_hasItems rfl rfl (by first | exact Or.inl rfl | exact Or.inr rfl | exact bi01 _) (⟨by first | rw [bi_t (by omega)] | rw [bi_f (by omega)], rfl⟩)
    · refine zw_iload_n ok_Se_hasItems rfl rfl ?_
      refine zw_if_lt 22 ok_Se_hasItems rfl (by decide) (by omega) (fun h5 => ?_) (fun h5 => ?_)
      · refine zw_iconst ok_Se_hasItems rfl ?_
        exact zw_zret ok_Se_hasItems rfl rfl (by first | exact Or.inl rfl | exact Or.inr rfl | exact bi01 _) (⟨by first | rw [bi_t (by omega)] | rw [bi_f (by omega)], rfl⟩)
      · refine zw_iload_n ok_Se_hasItems rfl rfl ?_
        refine zw_aload_n ok_Se_hasItems rfl rfl ?_
        refine zw_geti ok_Se_hasItems rfl fl_Se_29 rfl rfl ?_
        refine zw_iload_n ok_Se_hasItems rfl rfl ?_
        refine zw_isub ok_Se_hasItems rfl ?_
        refine zw_icmp_gt 22 ok_Se_hasItems rfl (by decide) (by omega) (fun h15 => ?_) (fun h15 => ?_)
        · refine zw_iconst ok_Se_hasItems rfl ?_
          exact zw_zret ok_Se_hasItems rfl rfl (by first | exact Or.inl rfl | exact Or.inr rfl | exact bi01 _) (⟨by first | rw [bi_t (by omega)] | rw [bi_f (by omega)], rfl⟩)
        · refine zw_iconst ok_Se_hasItems rfl ?_
          refine zw_goto 23 ok_Se_hasItems rfl (by decide) ?_
          exact zw_zret ok_Se_hasItems rfl rfl (by first | exact Or.inl rfl | exact Or.inr rfl | exact bi01 _) (⟨by first | rw [bi_t (by omega)] | rw [bi_f (by omega)], rfl⟩)
  · refine zCt.of [some (vr 42), some (vi f), some (vi n)] ok_Se_hasItems (Nat.le_of_ble_eq_true rfl) rfl ?_
    refine zw_iload_n ok_Se_hasItems rfl rfl ?_
    refine zw_if_lt 22 ok_Se_hasItems rfl (by decide) (by omega) (fun h1 => ?_) (fun h1 => ?_)
    · refine zw_iconst ok_Se_hasItems rfl ?_
      exact zw_zret ok_Se_hasItems rfl rfl (by first | exact Or.inl rfl | exact Or.inr rfl | exact bi01 _) (⟨by first | rw [bi_t (by omega)] | rw [bi_f (by omega)], rfl⟩)
    · refine zw_iload_n ok_Se_hasItems rfl rfl ?_
      refine zw_if_lt 22 ok_Se_hasItems rfl (by decide) (by omega) (fun h5 => ?_) (fun h5 => ?_)
      · refine zw_iconst ok_Se_hasItems rfl ?_
        exact zw_zret ok_Se_hasItems rfl rfl (by first | exact Or.inl rfl | exact Or.inr rfl | exact bi01 _) (⟨by first | rw [bi_t (by omega)] | rw [bi_f (by omega)], rfl⟩)
      · refine zw_iload_n ok_Se_hasItems rfl rfl ?_
        refine zw_aload_n ok_Se_hasItems rfl rfl ?_
        refine zw_geti ok_Se_hasItems rfl fl_Se_29 rfl rfl ?_
        refine zw_iload_n ok_Se_hasItems rfl rfl ?_
        refine zw_isub ok_Se_hasItems rfl ?_
        refine zw_icmp_gt 22 ok_Se_hasItems rfl (by decide) (by omega) (fun h15 => ?_) (fun h15 => ?_)
        · refine zw_iconst ok_Se_hasItems rfl ?_
          exact zw_zret ok_Se_hasItems rfl rfl (by first | exact Or.inl rfl | exact Or.inr rfl | exact bi01 _) (⟨by first | rw [bi_t (by omega)] | rw [bi_f (by omega)], rfl⟩)
        · refine zw_iconst ok_Se_hasItems rfl ?_
          refine zw_goto 23 ok_Se_hasItems rfl (by decide) ?_
          exact zw_zret ok_Se_hasItems rfl rfl (by first | exact Or.inl rfl | exact Or.inr rfl | exact bi01 _) (⟨by first | rw [bi_t (by omega)] | rw [bi_f (by omega)], rfl⟩)
  · refine zCt.of [some (vr 44), some (vi f), some (vi n)] ok_Se_hasItems (Nat.le_of_ble_eq_true rfl) rfl ?_
    refine zw_iload_n ok_Se_hasItems rfl rfl ?_
    refine zw_if_lt 22 ok_Se_hasItems rfl (by decide) (by omega) (fun h1 => ?_) (fun h1 => ?_)
    · refine zw_iconst ok_Se_hasItems rfl ?_
      exact zw_zret ok_Se_hasItems rfl rfl (by first | exact Or.inl rfl | exact Or.inr rfl | exact bi01 _) (⟨by first | rw [bi_t (by omega)] | rw [bi_f (by omega)], rfl⟩)
    · refine zw_iload_n ok_Se_hasItems rfl rfl ?_
      refine zw_if_lt 22 ok_Se_hasItems rfl (by decide) (by omega) (fun h5 => ?_) (fun h5 => ?_)
      · refine zw_iconst ok_Se_hasItems rfl ?_
        exact zw_zret ok_Se_hasItems rfl rfl (by first | exact Or.inl rfl | exact Or.inr rfl | exact bi01 _) (⟨by first | rw [bi_t (by omega)] | rw [bi_f (by omega)], rfl⟩)
      · refine zw_iload_n ok_Se_hasItems rfl rfl ?_
        refine zw_aload_n ok_Se_hasItems rfl rfl ?_
        refine zw_geti ok_Se_hasItems rfl fl_Se_29 rfl rfl ?_
        refine zw_iload_n ok_Se_hasItems rfl rfl ?_
        refine zw_isub ok_Se_hasItems rfl ?_
        refine zw_icmp_gt 22 ok_Se_hasItems rfl (by decide) (by omega) (fun h15 => ?_) (fun h15 => ?_)
        · refine zw_iconst ok_Se_hasItems rfl ?_
          exact zw_zret ok_Se_hasItems rfl rfl (by first | exact Or.inl rfl | exact Or.inr rfl | exact bi01 _) (⟨by first | rw [bi_t (by omega)] | rw [bi_f (by omega)], rfl⟩)
        · refine zw_iconst ok_Se_hasItems rfl ?_
          refine zw_goto 23 ok_Se_hasItems rfl (by decide) ?_
          exact zw_zret ok_Se_hasItems rfl rfl (by first | exact Or.inl rfl | exact Or.inr rfl | exact bi01 _) (⟨by first | rw [bi_t (by omega)] | rw [bi_f (by omega)], rfl⟩)
  · refine zCt.of [some (vr 46), some (vi f), some (vi n)] ok_Se_hasItems (Nat.le_of_ble_eq_true rfl) rfl ?_
    refine zw_iload_n ok_Se_hasItems rfl rfl ?_
    refine zw_if_lt 22 ok_Se_hasItems rfl (by decide) (by omega) (fun h1 => ?_) (fun h1 => ?_)
    · refine zw_iconst ok_Se_hasItems rfl ?_
      exact zw_zret ok_Se_hasItems rfl rfl (by first | exact Or.inl rfl | exact Or.inr rfl | exact bi01 _) (⟨by first | rw [bi_t (by omega)] | rw [bi_f (by omega)], rfl⟩)
    · refine zw_iload_n ok_Se_hasItems rfl rfl ?_
      refine zw_if_lt 22 ok_Se_hasItems rfl (by decide) (by omega) (fun h5 => ?_) (fun h5 => ?_)
      · refine zw_iconst ok_Se_hasItems rfl ?_
        exact zw_zret ok_Se_hasItems rfl rfl (by first | exact Or.inl rfl | exact Or.inr rfl | exact bi01 _) (⟨by first | rw [bi_t (by omega)] | rw [bi_f (by omega)], rfl⟩)
      · refine zw_iload_n ok_Se_hasItems rfl rfl ?_
        refine zw_aload_n ok_Se_hasItems rfl rfl ?_
        refine zw_geti ok_Se_hasItems rfl fl_Se_29 rfl rfl ?_
        refine zw_iload_n ok_Se_hasItems rfl rfl ?_
        refine zw_isub ok_Se_hasItems rfl ?_
        refine zw_icmp_gt 22 ok_Se_hasItems rfl (by decide) (by omega) (fun h15 => ?_) (fun h15 => ?_)
        · refine zw_iconst ok_Se_hasItems rfl ?_
          exact zw_zret ok_Se_hasItems rfl rfl (by first | exact Or.inl rfl | exact Or.inr rfl | exact bi01 _) (⟨by first | rw [bi_t (by omega)] | rw [bi_f (by omega)], rfl⟩)
        · refine zw_iconst ok_Se_hasItems rfl ?_
          refine zw_goto 23 ok_Se_hasItems rfl (by decide) ?_
          exact zw_zret ok_Se_hasItems rfl rfl (by first | exact Or.inl rfl | exact Or.inr rfl | exact bi01 _) (⟨by first | rw [bi_t (by omega)] | rw [bi_f (by omega)], rfl⟩)
theorem ct_Se_put {k : Nat} {i v : Int} (hk : shK k) (hr : shR mem k) (hi : 0 ≤ i ∧ i < 60) : zCvp m_Se_put [vr k, vi i, vi v] mem (zset mem (k + 1) i (cutS (mem k 2) v)) := by
  obtain ⟨r1, r2, r3⟩ := hr
  unfold cutS
  have h2 : mem k 2 = 0 ∨ mem k 2 = 1 ∨ mem k 2 = 2 := by omega
  rcases hk with rfl | rfl | rfl | rfl
  · refine zCt.of [some (vr 40), some (vi i), some (vi v)] ok_Se_put (Nat.le_of_ble_eq_true rfl) rfl ?_
    refine zw_aload_n ok_Se_put rfl rfl ?_
    refine zw_geti ok_Se_put rfl fl_Se_25 rfl rfl ?_
    rcases h2 with h2 | h2 | h2
    · rw [h2, if_pos rfl]
      refine zw_lsw 32 ok_Se_put rfl (by decide) (by decide) rfl (by decide) ?_
      refine zw_aload_n ok_Se_put rfl rfl ?_
      refine zw_getr ok_Se_put rfl fl_Se_9 rfl rfl ?_
      refine zw_iload_n ok_Se_put rfl rfl ?_
      refine zw_iload_n ok_Se_put rfl rfl ?_
      refine zw_i2b ok_Se_put rfl ?_
      refine zw_iast ok_Se_put rfl rfl (by omega) ?_
      refine zw_goto 61 ok_Se_put rfl (by decide) ?_
      exact zw_vret ok_Se_put rfl rfl (⟨rfl, rfl⟩)
    · rw [h2, if_neg (by decide), if_pos rfl]
      refine zw_lsw 43 ok_Se_put rfl (by decide) (by decide) rfl (by decide) ?_
      refine zw_aload_n ok_Se_put rfl rfl ?_
      refine zw_getr ok_Se_put rfl fl_Se_9 rfl rfl ?_
      refine zw_iload_n ok_Se_put rfl rfl ?_
      refine zw_iload_n ok_Se_put rfl rfl ?_
      refine zw_i2s ok_Se_put rfl ?_
      refine zw_iast ok_Se_put rfl rfl (by omega) ?_
      refine zw_goto 61 ok_Se_put rfl (by decide) ?_
      exact zw_vret ok_Se_put rfl rfl (⟨rfl, rfl⟩)
    · rw [h2, if_neg (by decide), if_neg (by decide)]
      refine zw_lsw 54 ok_Se_put rfl (by decide) (by decide) rfl (by decide) ?_
      refine zw_aload_n ok_Se_put rfl rfl ?_
      refine zw_getr ok_Se_put rfl fl_Se_9 rfl rfl ?_
      refine zw_iload_n ok_Se_put rfl rfl ?_
      refine zw_iload_n ok_Se_put rfl rfl ?_
      refine zw_iast ok_Se_put rfl rfl (by omega) ?_
      exact zw_vret ok_Se_put rfl rfl (⟨rfl, rfl⟩)
  · refine zCt.of [some (vr 42), some (vi i), some (vi v)] ok_Se_put (Nat.le_of_ble_eq_true rfl) rfl ?_
    refine zw_aload_n ok_Se_put rfl rfl ?_
    refine zw_geti ok_Se_put rfl fl_Se_25 rfl rfl ?_
    rcases h2 with h2 | h2 | h2
    · rw [h2, if_pos rfl]
      refine zw_lsw 32 ok_Se_put rfl (by decide) (by decide) rfl (by decide) ?_
      refine zw_aload_n ok_Se_put rfl rfl ?_
      refine zw_getr ok_Se_put rfl fl_Se_9 rfl rfl ?_
      refine zw_iload_n ok_Se_put rfl rfl ?_
      refine zw_iload_n ok_Se_put rfl rfl ?_
      refine zw_i2b ok_Se_put rfl ?_
      refine zw_iast ok_Se_put rfl rfl (by omega) ?_
      refine zw_goto 61 ok_Se_put rfl (by decide) ?_
      exact zw_vret ok_Se_put rfl rfl (⟨rfl, rfl⟩)
    · rw [h2, if_neg (by decide), if_pos rfl]
      refine zw_lsw 43 ok_Se_put rfl (by decide) (by decide) rfl (by decide) ?_
      refine zw_aload_n ok_Se_put rfl rfl ?_
      refine zw_getr ok_Se_put rfl fl_Se_9 rfl rfl ?_
      refine zw_iload_n ok_Se_put rfl rfl ?_
      refine zw_iload_n ok_Se_put rfl rfl ?_
      refine zw_i2s ok_Se_put rfl ?_
      refine zw_iast ok_Se_put rfl rfl (by omega) ?_
      refine zw_goto 61 ok_Se_put rfl (by decide) ?_
      exact zw_vret ok_Se_put rfl rfl (⟨rfl, rfl⟩)
    · rw [h2, if_neg (by decide), if_neg (by decide)]
      refine zw_lsw 54 ok_Se_put rfl (by decide) (by decide) rfl (by decide) ?_
      refine zw_aload_n ok_Se_put rfl rfl ?_
      refine zw_getr ok_Se_put rfl fl_Se_9 rfl rfl ?_
      refine zw_iload_n ok_Se_put rfl rfl ?_
      refine zw_iload_n ok_Se_put rfl rfl ?_
      refine zw_iast ok_Se_put rfl rfl (by omega) ?_
      exact zw_vret ok_Se_put rfl rfl (⟨rfl, rfl⟩)
  · refine zCt.of [some (vr 44), some (vi i), some (vi v)] ok_Se_put (Nat.le_of_ble_eq_true rfl) rfl ?_
    refine zw_aload_n ok_Se_put rfl rfl ?_
    refine zw_geti ok_Se_put rfl fl_Se_25 rfl rfl ?_
    rcases h2 with h2 | h2 | h2
    · rw [h2, if_pos rfl]
      refine zw_lsw 32 ok_Se_put rfl (by decide) (by decide) rfl (by decide) ?_
      refine zw_aload_n ok_Se_put rfl rfl ?_
      refine zw_getr ok_Se_put rfl fl_Se_9 rfl rfl ?_
      refine zw_iload_n ok_Se_put rfl rfl ?_
      refine zw_iload_n ok_Se_put rfl rfl ?_
      refine zw_i2b ok_Se_put rfl ?_
      refine zw_iast ok_Se_put rfl rfl (by omega) ?_
      refine zw_goto 61 ok_Se_put rfl (by decide) ?_
      exact zw_vret ok_Se_put rfl rfl (⟨rfl, rfl⟩)
    · rw [h2, if_neg (by decide), if_pos rfl]
      refine zw_lsw 43 ok_Se_put rfl (by decide) (by decide) rfl (by decide) ?_
      refine zw_aload_n ok_Se_put rfl rfl ?_
      refine zw_getr ok_Se_put rfl fl_Se_9 rfl rfl ?_
      refine zw_iload_n ok_Se_put rfl rfl ?_
      refine zw_iload_n ok_Se_put rfl rfl ?_
      refine zw_i2s ok_Se_put rfl ?_
      refine zw_iast ok_Se_put rfl rfl (by omega) ?_
      refine zw_goto 61 ok_Se_put rfl (by decide) ?_
      exact zw_vret ok_Se_put rfl rfl (⟨rfl, rfl⟩)
    · rw [h2, if_neg (by decide), if_neg (by decide)]
      refine zw_lsw 54 ok_Se_put rfl (by decide) (by decide) rfl (by decide) ?_
      refine zw_aload_n ok_Se_put rfl rfl ?_
      refine zw_getr ok_Se_put rfl fl_Se_9 rfl rfl ?_
      refine zw_iload_n ok_Se_put rfl rfl ?_
      refine zw_iload_n ok_Se_put rfl rfl ?_
      refine zw_iast ok_Se_put rfl rfl (by omega) ?_
      exact zw_vret ok_Se_put rfl rfl (⟨rfl, rfl⟩)
  · refine zCt.of [some (vr 46), some (vi i), some (vi v)] ok_Se_put (Nat.le_of_ble_eq_true rfl) rfl ?_
    refine zw_aload_n ok_Se_put rfl rfl ?_
    refine zw_geti ok_Se_put rfl fl_Se_25 rfl rfl ?_
    rcases h2 with h2 | h2 | h2
    · rw [h2, if_pos rfl]
      refine zw_lsw 32 ok_Se_put rfl (by decide) (by decide) rfl (by decide) ?_
      refine zw_aload_n ok_Se_put rfl rfl ?_
      refine zw_getr ok_Se_put rfl fl_Se_9 rfl rfl ?_
      refine zw_iload_n ok_Se_put rfl rfl ?_
      refine zw_iload_n ok_Se_put rfl rfl ?_
      refine zw_i2b ok_Se_put rfl ?_
      refine zw_iast ok_Se_put rfl rfl (by omega) ?_
      refine zw_goto 61 ok_Se_put rfl (by decide) ?_
      exact zw_vret ok_Se_put rfl rfl (⟨rfl, rfl⟩)
    · rw [h2, if_neg (by decide), if_pos rfl]
      refine zw_lsw 43 ok_Se_put rfl (by decide) (by decide) rfl (by decide) ?_
      refine zw_aload_n ok_Se_put rfl rfl ?_
      refine zw_getr ok_Se_put rfl fl_Se_9 rfl rfl ?_
      refine zw_iload_n ok_Se_put rfl rfl ?_
      refine zw_iload_n ok_Se_put rfl rfl ?_
      refine zw_i2s ok_Se_put rfl ?_
      refine zw_iast ok_Se_put rfl rfl (by omega) ?_
      refine zw_goto 61 ok_Se_put rfl (by decide) ?_
      exact zw_vret ok_Se_put rfl rfl (⟨rfl, rfl⟩)
    · rw [h2, if_neg (by decide), if_neg (by decide)]
      refine zw_lsw 54 ok_Se_put rfl (by decide) (by decide) rfl (by decide) ?_
      refine zw_aload_n ok_Se_put rfl rfl ?_
      refine zw_getr ok_Se_put rfl fl_Se_9 rfl rfl ?_
      refine zw_iload_n ok_Se_put rfl rfl ?_
      refine zw_iload_n ok_Se_put rfl rfl ?_
      refine zw_iast ok_Se_put rfl rfl (by omega) ?_
      exact zw_vret ok_Se_put rfl rfl (⟨rfl, rfl⟩)
end
