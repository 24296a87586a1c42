/-! ===== the class's small methods ===== -/
abbrev zR (x : Int) : Prop := -2147483648 ≤ x ∧ x < 2147483648
section
variable {mem : zMem}
theorem ct_B_within {v a b : Int} (h : (zR v ∧ zR a) ∧ zR b) : zCbp m_B_within [vi v, vi a, vi b] mem (decide (a ≤ v ∧ v ≤ b)) := by
  refine zCt.of [some (vi v), some (vi a), some (vi b)] ok_B_within (Nat.le_of_ble_eq_true rfl) rfl ?_
  refine zw_iload_n ok_B_within rfl rfl ?_
  refine zw_iload_n ok_B_within rfl rfl ?_
  refine zw_icmp_lt 14 ok_B_within rfl (by decide) (by omega) (fun h2 => ?_) (fun h2 => ?_)
  · refine zw_iconst ok_B_within rfl ?_
    exact zw_zret ok_B_within rfl rfl (by first | exact Or.inl rfl | exact Or.inr rfl | exact bi01 _) (⟨by first | rw [bi_t (by omega)] | rw [bi_f (by omega)], rfl⟩)
  · refine zw_iload_n ok_B_within rfl rfl ?_
    refine zw_iload_n ok_B_within rfl rfl ?_
    refine zw_icmp_gt 14 ok_B_within rfl (by decide) (by omega) (fun h7 => ?_) (fun h7 => ?_)
    · refine zw_iconst ok_B_within rfl ?_
      exact zw_zret ok_B_within rfl rfl (by first | exact Or.inl rfl | exact Or.inr rfl | exact bi01 _) (⟨by first | rw [bi_t (by omega)] | rw [bi_f (by omega)], rfl⟩)
    · refine zw_iconst ok_B_within rfl ?_
      refine zw_goto 15 ok_B_within rfl (by decide) ?_
      exact zw_zret ok_B_within rfl rfl (by first | exact Or.inl rfl | exact Or.inr rfl | exact bi01 _) (⟨by first | rw [bi_t (by omega)] | rw [bi_f (by omega)], rfl⟩)
theorem ct_B_isText {v : Int} (h : zR v) : zCbp m_B_isText [vi v] mem (decide (0 ≤ v ∧ v ≤ 1)) := by
  refine zCt.of [some (vi v)] ok_B_isText (Nat.le_of_ble_eq_true rfl) rfl ?_
  refine zw_iload_n ok_B_isText rfl rfl ?_
  refine zw_iconst ok_B_isText rfl ?_
  refine zw_iconst ok_B_isText rfl ?_
  refine zw_Sbp ok_B_isText rfl ok_B_within lk_B_100 (by decide) rfl (Nat.le_of_ble_eq_true rfl) (ct_B_within (by omega)) ?_
  exact zw_zret ok_B_isText rfl rfl (by first | exact Or.inl rfl | exact Or.inr rfl | exact bi01 _) (⟨rfl, rfl⟩)
theorem ct_B_isHour {v : Int} (h : zR v) : zCbp m_B_isHour [vi v] mem (decide (0 ≤ v ∧ v ≤ 11)) := by
  refine zCt.of [some (vi v)] ok_B_isHour (Nat.le_of_ble_eq_true rfl) rfl ?_
  refine zw_iload_n ok_B_isHour rfl rfl ?_
  refine zw_iconst ok_B_isHour rfl ?_
  refine zw_bipush ok_B_isHour rfl (by decide) ?_
  refine zw_Sbp ok_B_isHour rfl ok_B_within lk_B_100 (by decide) rfl (Nat.le_of_ble_eq_true rfl) (ct_B_within (by omega)) ?_
  exact zw_zret ok_B_isHour rfl rfl (by first | exact Or.inl rfl | exact Or.inr rfl | exact bi01 _) (⟨rfl, rfl⟩)
theorem ct_B_isSheet {v : Int} (h : zR v) : zCbp m_B_isSheet [vi v] mem (decide (0 ≤ v ∧ v ≤ 3)) := by
  refine zCt.of [some (vi v)] ok_B_isSheet (Nat.le_of_ble_eq_true rfl) rfl ?_
  refine zw_iload_n ok_B_isSheet rfl rfl ?_
  refine zw_iconst ok_B_isSheet rfl ?_
  refine zw_iconst ok_B_isSheet rfl ?_
  refine zw_Sbp ok_B_isSheet rfl ok_B_within lk_B_100 (by decide) rfl (Nat.le_of_ble_eq_true rfl) (ct_B_within (by omega)) ?_
  exact zw_zret ok_B_isSheet rfl rfl (by first | exact Or.inl rfl | exact Or.inr rfl | exact bi01 _) (⟨rfl, rfl⟩)
theorem ct_B_isForm {v : Int} (h : zR v) : zCbp m_B_isForm [vi v] mem (decide (0 ≤ v ∧ v ≤ 2)) := by
  refine zCt.of [some (vi v)] ok_B_isForm (Nat.le_of_ble_eq_true rfl) rfl ?_
  refine zw_iload_n ok_B_isForm rfl rfl ?_
  refine zw_iconst ok_B_isForm rfl ?_
  refine zw_iconst ok_B_isForm rfl ?_
  refine zw_Sbp ok_B_isForm rfl ok_B_within lk_B_100 (by decide) rfl (Nat.le_of_ble_eq_true rfl) (ct_B_within (by omega)) ?_
  exact zw_zret ok_B_isForm rfl rfl (by first | exact Or.inl rfl | exact Or.inr rfl | exact bi01 _) (⟨rfl, rfl⟩)
theorem ct_B_mayBeOld {a b c : Int} (h : (zR a ∧ zR b) ∧ zR c) : zCbp m_B_mayBeOld [vi a, vi b, vi c] mem (decide ((0 ≤ a ∧ a ≤ 7) ∧ (0 ≤ b ∧ b ≤ 7) ∧ a ≠ b ∧ 1 ≤ c ∧ c ≤ 99)) := by
  refine zCt.of [some (vi a), some (vi b), some (vi c)] ok_B_mayBeOld (Nat.le_of_ble_eq_true rfl) rfl ?_
  refine zw_iload_n ok_B_mayBeOld rfl rfl ?_
  refine zw_iconst ok_B_mayBeOld rfl ?_
  refine zw_bipush ok_B_mayBeOld rfl (by decide) ?_
  refine zw_Sbp ok_B_mayBeOld rfl ok_B_within lk_B_100 (by decide) rfl (Nat.le_of_ble_eq_true rfl) (ct_B_within (by omega)) ?_
  first | refine zw_ifeq_d 39 ok_B_mayBeOld rfl (by decide) (fun h7 => ?_) (fun h7 => ?_) | refine zw_ifeq_b 39 ok_B_mayBeOld rfl (by decide) (fun h7 => ?_) (fun h7 => ?_) | refine zw_if_eq 39 ok_B_mayBeOld rfl (by decide) (by omega) (fun h7 => ?_) (fun h7 => ?_)
  · refine zw_iconst ok_B_mayBeOld rfl ?_
    exact zw_zret ok_B_mayBeOld rfl rfl (by first | exact Or.inl rfl | exact Or.inr rfl | exact bi01 _) (⟨by first | rw [bi_t (by omega)] | rw [bi_f (by omega)], rfl⟩)
  · refine zw_iload_n ok_B_mayBeOld rfl rfl ?_
    refine zw_iconst ok_B_mayBeOld rfl ?_
    refine zw_bipush ok_B_mayBeOld rfl (by decide) ?_
    refine zw_Sbp ok_B_mayBeOld rfl ok_B_within lk_B_100 (by decide) rfl (Nat.le_of_ble_eq_true rfl) (ct_B_within (by omega)) ?_
    first | refine zw_ifeq_d 39 ok_B_mayBeOld rfl (by decide) (fun h17 => ?_) (fun h17 => ?_) | refine zw_ifeq_b 39 ok_B_mayBeOld rfl (by decide) (fun h17 => ?_) (fun h17 => ?_) | refine zw_if_eq 39 ok_B_mayBeOld rfl (by decide) (by omega) (fun h17 => ?_) (fun h17 => ?_)
    · refine zw_iconst ok_B_mayBeOld rfl ?_
      exact zw_zret ok_B_mayBeOld rfl rfl (by first | exact Or.inl rfl | exact Or.inr rfl | exact bi01 _) (⟨by first | rw [bi_t (by omega)] | rw [bi_f (by omega)], rfl⟩)
    · refine zw_iload_n ok_B_mayBeOld rfl rfl ?_
      refine zw_iload_n ok_B_mayBeOld rfl rfl ?_
      refine zw_icmp_eq 39 ok_B_mayBeOld rfl (by decide) (by omega) (fun h22 => ?_) (fun h22 => ?_)
      · refine zw_iconst ok_B_mayBeOld rfl ?_
        exact zw_zret ok_B_mayBeOld rfl rfl (by first | exact Or.inl rfl | exact Or.inr rfl | exact bi01 _) (⟨by first | rw [bi_t (by omega)] | rw [bi_f (by omega)], rfl⟩)
      · refine zw_iload_n ok_B_mayBeOld rfl rfl ?_
        refine zw_iconst ok_B_mayBeOld rfl ?_
        refine zw_bipush ok_B_mayBeOld rfl (by decide) ?_
        refine zw_Sbp ok_B_mayBeOld rfl ok_B_within lk_B_100 (by decide) rfl (Nat.le_of_ble_eq_true rfl) (ct_B_within (by omega)) ?_
        first | refine zw_ifeq_d 39 ok_B_mayBeOld rfl (by decide) (fun h32 => ?_) (fun h32 => ?_) | refine zw_ifeq_b 39 ok_B_mayBeOld rfl (by decide) (fun h32 => ?_) (fun h32 => ?_) | refine zw_if_eq 39 ok_B_mayBeOld rfl (by decide) (by omega) (fun h32 => ?_) (fun h32 => ?_)
        · refine zw_iconst ok_B_mayBeOld rfl ?_
          exact zw_zret ok_B_mayBeOld rfl rfl (by first | exact Or.inl rfl | exact Or.inr rfl | exact bi01 _) (⟨by first | rw [bi_t (by omega)] | rw [bi_f (by omega)], rfl⟩)
        · refine zw_iconst ok_B_mayBeOld rfl ?_
          refine zw_goto 40 ok_B_mayBeOld rfl (by decide) ?_
          exact zw_zret ok_B_mayBeOld rfl rfl (by first | exact Or.inl rfl | exact Or.inr rfl | exact bi01 _) (⟨by first | rw [bi_t (by omega)] | rw [bi_f (by omega)], rfl⟩)
theorem ct_B_isPerson {v : Int} (h : zR v ∧ (0 ≤ mem 5 4 ∧ mem 5 4 ≤ 8)) : zCbp m_B_isPerson [vr 0, vi v] mem (decide (0 ≤ v ∧ v ≤ mem 5 4 - 1)) := by
  refine zCt.of [some (vr 0), some (vi v)] ok_B_isPerson (Nat.le_of_ble_eq_true rfl) rfl ?_
  refine zw_iload_n ok_B_isPerson rfl rfl ?_
  refine zw_iconst ok_B_isPerson rfl ?_
  refine zw_aload_n ok_B_isPerson rfl rfl ?_
  refine zw_getr ok_B_isPerson rfl fl_B_24 rfl rfl ?_
  refine zw_geti ok_B_isPerson rfl fl_B_200 rfl rfl ?_
  refine zw_iconst ok_B_isPerson rfl ?_
  refine zw_isub ok_B_isPerson rfl ?_
  refine zw_Sbp ok_B_isPerson rfl ok_B_within lk_B_100 (by decide) rfl (Nat.le_of_ble_eq_true rfl) (ct_B_within (by omega)) ?_
  exact zw_zret ok_B_isPerson rfl rfl (by first | exact Or.inl rfl | exact Or.inr rfl | exact bi01 _) (⟨rfl, rfl⟩)
theorem ct_B_found {v : Int} : zCi m_B_found [vr 0, vi v] mem (-10 - v) (fun m2 => m2 = zset mem 0 13 v) := by
  refine zCt.of [some (vr 0), some (vi v)] ok_B_found (Nat.le_of_ble_eq_true rfl) rfl ?_
  refine zw_aload_n ok_B_found rfl rfl ?_
  refine zw_iload_n ok_B_found rfl rfl ?_
  refine zw_puti ok_B_found rfl fp_B_281 rfl rfl ?_
  refine zw_bipush ok_B_found rfl (by decide) ?_
  refine zw_iload_n ok_B_found rfl rfl ?_
  refine zw_isub ok_B_found rfl ?_
  exact zw_iret ok_B_found rfl rfl (⟨rfl, rfl⟩)
theorem ct_B_textOf {v : Int} (h : zR v) : zCrp m_B_textOf [vr 0, vi v] mem (if v = 0 then 1 else 3) := by
  refine zCt.of [some (vr 0), some (vi v)] ok_B_textOf (Nat.le_of_ble_eq_true rfl) rfl ?_
  refine zw_iload_n ok_B_textOf rfl rfl ?_
  first | refine zw_ifne_d 11 ok_B_textOf rfl (by decide) (fun h1 => ?_) (fun h1 => ?_) | refine zw_ifne_b 11 ok_B_textOf rfl (by decide) (fun h1 => ?_) (fun h1 => ?_) | refine zw_if_ne 11 ok_B_textOf rfl (by decide) (by omega) (fun h1 => ?_) (fun h1 => ?_)
  · refine zw_aload_n ok_B_textOf rfl rfl ?_
    refine zw_getr ok_B_textOf rfl fl_B_18 rfl rfl ?_
    exact zw_aret ok_B_textOf rfl rfl (⟨by simp [*], rfl⟩)
  · refine zw_aload_n ok_B_textOf rfl rfl ?_
    refine zw_getr ok_B_textOf rfl fl_B_14 rfl rfl ?_
    refine zw_goto 15 ok_B_textOf rfl (by decide) ?_
    exact zw_aret ok_B_textOf rfl rfl (⟨by simp [*], rfl⟩)
end
