/-! ===== the reference: old, umbrella, back, seen, forget ===== -/
section
variable {mem m2 τ τ2 : zMem} {Q : Option zVal → zMem → Prop}
theorem MI_addO {a b c : Int} (hI : MI mem τ) (hT : tauI (addO τ a b c)) : MI (zset (zset (zset (zset mem 57 (3 * mem 48 11) a) 57 (3 * mem 48 11 + 1) b) 57 (3 * mem 48 11 + 2) c) 48 11 (mem 48 11 + 1)) (addO τ a b c) := by
  obtain ⟨-, hx, ⟨c1, c2, c3, c4⟩, ho, hu, hs, hf, hsh⟩ := hI
  rw [c1]
  refine ⟨hT, hx, ⟨rfl, c2, c3, c4⟩, fun k q1 q2 => ?_, hu, hs, hf, shM_of hsh rfl rfl rfl (fun k hk => by unfold addO; rw [zset_ne (by omega), zset_ne (by omega), zset_ne (by omega), zset_ne (by omega)])⟩
  have q2 : k < τ 2 2 + 1 := q2
  show zupd (zupd (zupd (mem 57) (3 * τ 2 2) a) (3 * τ 2 2 + 1) b) (3 * τ 2 2 + 2) c (3 * k) = zupd (τ 3) (τ 2 2) a k ∧ zupd (zupd (zupd (mem 57) (3 * τ 2 2) a) (3 * τ 2 2 + 1) b) (3 * τ 2 2 + 2) c (3 * k + 1) = zupd (τ 4) (τ 2 2) b k ∧ zupd (zupd (zupd (mem 57) (3 * τ 2 2) a) (3 * τ 2 2 + 1) b) (3 * τ 2 2 + 2) c (3 * k + 2) = zupd (τ 5) (τ 2 2) c k
  by_cases e : k = τ 2 2
  · subst e
    refine ⟨?_, ?_, ?_⟩
    · rw [zupd_ne (by omega), zupd_ne (by omega), zupd_eq, zupd_eq]
    · rw [zupd_ne (by omega), zupd_eq, zupd_eq]
    · rw [zupd_eq, zupd_eq]
  · rw [zupd_ne e, zupd_ne e, zupd_ne e, zupd_ne (by omega), zupd_ne (by omega), zupd_ne (by omega), zupd_ne (by omega), zupd_ne (by omega), zupd_ne (by omega), zupd_ne (by omega), zupd_ne (by omega), zupd_ne (by omega)]
    exact ho k q1 (by omega)
theorem MI_addU {h p : Int} (hI : MI mem τ) (hT : tauI (addU τ h p)) : MI (zset (zset (zset mem 58 (2 * mem 48 13) h) 58 (2 * mem 48 13 + 1) p) 48 13 (mem 48 13 + 1)) (addU τ h p) := by
  obtain ⟨-, hx, ⟨c1, c2, c3, c4⟩, ho, hu, hs, hf, hsh⟩ := hI
  rw [c2]
  refine ⟨hT, hx, ⟨c1, rfl, c3, c4⟩, ho, fun k q1 q2 => ?_, hs, hf, shM_of hsh rfl rfl rfl (fun k hk => by unfold addU; rw [zset_ne (by omega), zset_ne (by omega), zset_ne (by omega)])⟩
  have q2 : k < τ 2 3 + 1 := q2
  show zupd (zupd (mem 58) (2 * τ 2 3) h) (2 * τ 2 3 + 1) p (2 * k) = zupd (τ 6) (τ 2 3) h k ∧ zupd (zupd (mem 58) (2 * τ 2 3) h) (2 * τ 2 3 + 1) p (2 * k + 1) = zupd (τ 7) (τ 2 3) p k
  by_cases e : k = τ 2 3
  · subst e
    refine ⟨?_, ?_⟩
    · rw [zupd_ne (by omega), zupd_eq, zupd_eq]
    · rw [zupd_eq, zupd_eq]
  · rw [zupd_ne e, zupd_ne e, zupd_ne (by omega), zupd_ne (by omega), zupd_ne (by omega), zupd_ne (by omega)]
    exact hu k q1 (by omega)
theorem MI_addS {h p l : Int} (hI : MI mem τ) (hT : tauI (addS τ h p l)) : MI (zset (zset (zset (zset mem 64 (3 * mem 48 27) h) 64 (3 * mem 48 27 + 1) p) 64 (3 * mem 48 27 + 2) l) 48 27 (mem 48 27 + 1)) (addS τ h p l) := by
  obtain ⟨-, hx, ⟨c1, c2, c3, c4⟩, ho, hu, hs, hf, hsh⟩ := hI
  rw [c3]
  refine ⟨hT, hx, ⟨c1, c2, rfl, c4⟩, ho, hu, fun k q1 q2 => ?_, hf, shM_of hsh rfl rfl rfl (fun k hk => by unfold addS; rw [zset_ne (by omega), zset_ne (by omega), zset_ne (by omega), zset_ne (by omega)])⟩
  have q2 : k < τ 2 4 + 1 := q2
  show zupd (zupd (zupd (mem 64) (3 * τ 2 4) h) (3 * τ 2 4 + 1) p) (3 * τ 2 4 + 2) l (3 * k) = zupd (τ 8) (τ 2 4) h k ∧ zupd (zupd (zupd (mem 64) (3 * τ 2 4) h) (3 * τ 2 4 + 1) p) (3 * τ 2 4 + 2) l (3 * k + 1) = zupd (τ 9) (τ 2 4) p k ∧ zupd (zupd (zupd (mem 64) (3 * τ 2 4) h) (3 * τ 2 4 + 1) p) (3 * τ 2 4 + 2) l (3 * k + 2) = zupd (τ 10) (τ 2 4) l k
  by_cases e : k = τ 2 4
  · subst e
    refine ⟨?_, ?_, ?_⟩
    · rw [zupd_ne (by omega), zupd_ne (by omega), zupd_eq, zupd_eq]
    · rw [zupd_ne (by omega), zupd_eq, zupd_eq]
    · rw [zupd_eq, zupd_eq]
  · rw [zupd_ne e, zupd_ne e, zupd_ne e, zupd_ne (by omega), zupd_ne (by omega), zupd_ne (by omega), zupd_ne (by omega), zupd_ne (by omega), zupd_ne (by omega), zupd_ne (by omega), zupd_ne (by omega), zupd_ne (by omega)]
    exact hs k q1 (by omega)
theorem MI_n2 {n : Int} (hI : MI mem τ) (hT : tauI (zset τ 2 2 n)) (hn : n ≤ τ 2 2) : MI (zset mem 48 11 n) (zset τ 2 2 n) := by
  obtain ⟨-, hx, ⟨c1, c2, c3, c4⟩, ho, hu, hs, hf, hsh⟩ := hI
  exact ⟨hT, hx, ⟨rfl, c2, c3, c4⟩, fun k q1 q2 => ho k q1 (by have q2 : k < n := q2; omega), hu, hs, hf, shM_of hsh rfl rfl rfl (fun k hk => zset_ne (by omega))⟩
theorem MI_n3 {n : Int} (hI : MI mem τ) (hT : tauI (zset τ 2 3 n)) (hn : n ≤ τ 2 3) : MI (zset mem 48 13 n) (zset τ 2 3 n) := by
  obtain ⟨-, hx, ⟨c1, c2, c3, c4⟩, ho, hu, hs, hf, hsh⟩ := hI
  exact ⟨hT, hx, ⟨c1, rfl, c3, c4⟩, ho, fun k q1 q2 => hu k q1 (by have q2 : k < n := q2; omega), hs, hf, shM_of hsh rfl rfl rfl (fun k hk => zset_ne (by omega))⟩
theorem MI_n4 (hI : MI mem τ) (hT : tauI (zset τ 2 4 0)) : MI (zset mem 48 27 0) (zset τ 2 4 0) := by
  obtain ⟨-, hx, ⟨c1, c2, c3, c4⟩, ho, hu, hs, hf, hsh⟩ := hI
  exact ⟨hT, hx, ⟨c1, c2, rfl, c4⟩, ho, hu, fun k q1 q2 => by have q2 : k < 0 := q2; omega, hf, shM_of hsh rfl rfl rfl (fun k hk => zset_ne (by omega))⟩
theorem zset_self {k : Nat} {i v : Int} (h : mem k i = v) : zset mem k i v = mem := by
  unfold zset
  have : zupd (mem k) i v = mem k := by
    funext j
    unfold zupd
    split
    · rename_i e; rw [e, h]
    · rfl
  rw [this, zput_same]
theorem ct_M_old {a b c : Int} (hI : MI mem τ) (hT : tauI (nOld τ a b c)) (ha : zR a) (hb : zR b) (hc : zR c) : zCi m_M_old [vr 48, vi a, vi b, vi c] mem (qOld τ a b c) (fun m2 => MI m2 (nOld τ a b c) ∧ ref47 mem m2) := by
  refine zCt.of [some (vr 48), some (vi a), some (vi b), some (vi c)] ok_M_old (Nat.le_of_ble_eq_true rfl) rfl ?_
  have b2 := hI.1.1.2.2.1
  have c1 := hI.2.2.1.1
  unfold qOld nOld at *
  by_cases hg : (0 ≤ a ∧ a ≤ 7) ∧ (0 ≤ b ∧ b ≤ 7) ∧ a ≠ b ∧ 1 ≤ c ∧ c ≤ 99
  · rw [if_pos hg]
    by_cases hl : τ 2 2 < 12
    · rw [if_pos hl, if_pos ⟨hg, hl⟩]
      rw [if_pos ⟨hg, hl⟩] at hT
      have key := MI_addO hI hT
      refine zw_iload_n ok_M_old rfl rfl ?_
      refine zw_Sbp ok_M_old rfl ok_M_isAnyone lk_M_146 (by decide) rfl (Nat.le_of_ble_eq_true rfl) (ct_M_isAnyone (by omega)) ?_
      first | refine zw_ifeq_d 31 ok_M_old rfl (by decide) (fun h4 => ?_) (fun h4 => ?_) | refine zw_ifeq_b 31 ok_M_old rfl (by decide) (fun h4 => ?_) (fun h4 => ?_) | refine zw_if_eq 31 ok_M_old rfl (by decide) (by omega) (fun h4 => ?_) (fun h4 => ?_)
      · exact absurd hg.1 h4
      · refine zw_iload_n ok_M_old rfl rfl ?_
        refine zw_Sbp ok_M_old rfl ok_M_isAnyone lk_M_146 (by decide) rfl (Nat.le_of_ble_eq_true rfl) (ct_M_isAnyone (by omega)) ?_
        first | refine zw_ifeq_d 31 ok_M_old rfl (by decide) (fun h11 => ?_) (fun h11 => ?_) | refine zw_ifeq_b 31 ok_M_old rfl (by decide) (fun h11 => ?_) (fun h11 => ?_) | refine zw_if_eq 31 ok_M_old rfl (by decide) (by omega) (fun h11 => ?_) (fun h11 => ?_)
        · exact absurd hg.2.1 h11
        · refine zw_iload_n ok_M_old rfl rfl ?_
          refine zw_iload_n ok_M_old rfl rfl ?_
          refine zw_icmp_eq 31 ok_M_old rfl (by decide) (by omega) (fun h16 => ?_) (fun h16 => ?_)
          · exact absurd h16 hg.2.2.1
          · refine zw_iload_n ok_M_old rfl rfl ?_
            refine zw_i2l ok_M_old rfl (by omega) ?_
            refine zw_lconst1 ok_M_old rfl ?_
            refine zw_ldc2 ok_M_old rfl kc_M_149 ?_
            refine zw_Sbp ok_M_old rfl ok_M_in lk_M_70 (by decide) rfl (Nat.le_of_ble_eq_true rfl) (ct_M_in (by omega)) ?_
            first | refine zw_ifne_d 34 ok_M_old rfl (by decide) (fun h28 => ?_) (fun h28 => ?_) | refine zw_ifne_b 34 ok_M_old rfl (by decide) (fun h28 => ?_) (fun h28 => ?_) | refine zw_if_ne 34 ok_M_old rfl (by decide) (by omega) (fun h28 => ?_) (fun h28 => ?_)
            · refine zw_aload_n ok_M_old rfl rfl ?_
              refine zw_geti ok_M_old rfl fl_M_151 rfl rfl ?_
              refine zw_bipush ok_M_old rfl (by decide) ?_
              refine zw_icmp_ne 46 ok_M_old rfl (by decide) (by omega) (fun h40 => ?_) (fun h40 => ?_)
              · refine zw_aload_n ok_M_old rfl rfl ?_
                refine zw_getr ok_M_old rfl fl_M_34 rfl rfl ?_
                refine zw_iconst ok_M_old rfl ?_
                refine zw_aload_n ok_M_old rfl rfl ?_
                refine zw_geti ok_M_old rfl fl_M_151 rfl rfl ?_
                refine zw_imul ok_M_old rfl ?_
                refine zw_iload_n ok_M_old rfl rfl ?_
                refine zw_iast ok_M_old rfl rfl (by omega) ?_
                refine zw_aload_n ok_M_old rfl rfl ?_
                refine zw_getr ok_M_old rfl fl_M_34 rfl rfl ?_
                refine zw_iconst ok_M_old rfl ?_
                refine zw_aload_n ok_M_old rfl rfl ?_
                refine zw_geti ok_M_old rfl fl_M_151 rfl rfl ?_
                rw [zset_ne (show (48 : Nat) ≠ 57 by decide)]
                refine zw_imul ok_M_old rfl ?_
                refine zw_iconst ok_M_old rfl ?_
                refine zw_iadd ok_M_old rfl ?_
                refine zw_iload_n ok_M_old rfl rfl ?_
                refine zw_iast ok_M_old rfl rfl (by omega) ?_
                refine zw_aload_n ok_M_old rfl rfl ?_
                refine zw_getr ok_M_old rfl fl_M_34 rfl rfl ?_
                refine zw_iconst ok_M_old rfl ?_
                refine zw_aload_n ok_M_old rfl rfl ?_
                refine zw_geti ok_M_old rfl fl_M_151 rfl rfl ?_
                rw [zset_ne (show (48 : Nat) ≠ 57 by decide), zset_ne (show (48 : Nat) ≠ 57 by decide)]
                refine zw_imul ok_M_old rfl ?_
                refine zw_iconst ok_M_old rfl ?_
                refine zw_iadd ok_M_old rfl ?_
                refine zw_iload_n ok_M_old rfl rfl ?_
                refine zw_iast ok_M_old rfl rfl (by omega) ?_
                refine zw_aload_n ok_M_old rfl rfl ?_
                first | refine zw_dupi ok_M_old rfl ?_ | refine zw_dupr ok_M_old rfl ?_
                refine zw_geti ok_M_old rfl fl_M_151 rfl rfl ?_
                rw [zset_ne (show (48 : Nat) ≠ 57 by decide), zset_ne (show (48 : Nat) ≠ 57 by decide), zset_ne (show (48 : Nat) ≠ 57 by decide)]
                refine zw_iconst ok_M_old rfl ?_
                refine zw_iadd ok_M_old rfl ?_
                refine zw_puti ok_M_old rfl fp_M_151 rfl rfl ?_
                refine zw_aload_n ok_M_old rfl rfl ?_
                refine zw_geti ok_M_old rfl fl_M_151 rfl rfl ?_
                rw [zset_eq, zupd_eq]
                exact zw_iret ok_M_old rfl rfl (⟨by rw [c1], key, (((r47_set (by decide)).tr (r47_set (by decide))).tr (r47_set (by decide))).tr (r47_set (by decide))⟩)
              · exfalso; omega
            · exact absurd hg.2.2.2 h28
    · rw [if_neg hl, if_neg (fun z => hl z.2)]
      refine zw_iload_n ok_M_old rfl rfl ?_
      refine zw_Sbp ok_M_old rfl ok_M_isAnyone lk_M_146 (by decide) rfl (Nat.le_of_ble_eq_true rfl) (ct_M_isAnyone (by omega)) ?_
      first | refine zw_ifeq_d 31 ok_M_old rfl (by decide) (fun h4 => ?_) (fun h4 => ?_) | refine zw_ifeq_b 31 ok_M_old rfl (by decide) (fun h4 => ?_) (fun h4 => ?_) | refine zw_if_eq 31 ok_M_old rfl (by decide) (by omega) (fun h4 => ?_) (fun h4 => ?_)
      · exact absurd hg.1 h4
      · refine zw_iload_n ok_M_old rfl rfl ?_
        refine zw_Sbp ok_M_old rfl ok_M_isAnyone lk_M_146 (by decide) rfl (Nat.le_of_ble_eq_true rfl) (ct_M_isAnyone (by omega)) ?_
        first | refine zw_ifeq_d 31 ok_M_old rfl (by decide) (fun h11 => ?_) (fun h11 => ?_) | refine zw_ifeq_b 31 ok_M_old rfl (by decide) (fun h11 => ?_) (fun h11 => ?_) | refine zw_if_eq 31 ok_M_old rfl (by decide) (by omega) (fun h11 => ?_) (fun h11 => ?_)
        · exact absurd hg.2.1 h11
        · refine zw_iload_n ok_M_old rfl rfl ?_
          refine zw_iload_n ok_M_old rfl rfl ?_
          refine zw_icmp_eq 31 ok_M_old rfl (by decide) (by omega) (fun h16 => ?_) (fun h16 => ?_)
          · exact absurd h16 hg.2.2.1
          · refine zw_iload_n ok_M_old rfl rfl ?_
            refine zw_i2l ok_M_old rfl (by omega) ?_
            refine zw_lconst1 ok_M_old rfl ?_
            refine zw_ldc2 ok_M_old rfl kc_M_149 ?_
            refine zw_Sbp ok_M_old rfl ok_M_in lk_M_70 (by decide) rfl (Nat.le_of_ble_eq_true rfl) (ct_M_in (by omega)) ?_
            first | refine zw_ifne_d 34 ok_M_old rfl (by decide) (fun h28 => ?_) (fun h28 => ?_) | refine zw_ifne_b 34 ok_M_old rfl (by decide) (fun h28 => ?_) (fun h28 => ?_) | refine zw_if_ne 34 ok_M_old rfl (by decide) (by omega) (fun h28 => ?_) (fun h28 => ?_)
            · refine zw_aload_n ok_M_old rfl rfl ?_
              refine zw_geti ok_M_old rfl fl_M_151 rfl rfl ?_
              refine zw_bipush ok_M_old rfl (by decide) ?_
              refine zw_icmp_ne 46 ok_M_old rfl (by decide) (by omega) (fun h40 => ?_) (fun h40 => ?_)
              · exfalso; omega
              · refine zw_bipush ok_M_old rfl (by decide) ?_
                exact zw_iret ok_M_old rfl rfl (⟨rfl, hI, r47_rf⟩)
            · exact absurd hg.2.2.2 h28
  · rw [if_neg hg, if_neg (fun z => hg z.1)]
    refine zw_iload_n ok_M_old rfl rfl ?_
    refine zw_Sbp ok_M_old rfl ok_M_isAnyone lk_M_146 (by decide) rfl (Nat.le_of_ble_eq_true rfl) (ct_M_isAnyone (by omega)) ?_
    first | refine zw_ifeq_d 31 ok_M_old rfl (by decide) (fun h4 => ?_) (fun h4 => ?_) | refine zw_ifeq_b 31 ok_M_old rfl (by decide) (fun h4 => ?_) (fun h4 => ?_) | refine zw_if_eq 31 ok_M_old rfl (by decide) (by omega) (fun h4 => ?_) (fun h4 => ?_)
    · refine zw_bipush ok_M_old rfl (by decide) ?_
      exact zw_iret ok_M_old rfl rfl (⟨rfl, hI, r47_rf⟩)
    · refine zw_iload_n ok_M_old rfl rfl ?_
      refine zw_Sbp ok_M_old rfl ok_M_isAnyone lk_M_146 (by decide) rfl (Nat.le_of_ble_eq_true rfl) (ct_M_isAnyone (by omega)) ?_
      first | refine zw_ifeq_d 31 ok_M_old rfl (by decide) (fun h11 => ?_) (fun h11 => ?_) | refine zw_ifeq_b 31 ok_M_old rfl (by decide) (fun h11 => ?_) (fun h11 => ?_) | refine zw_if_eq 31 ok_M_old rfl (by decide) (by omega) (fun h11 => ?_) (fun h11 => ?_)
      · refine zw_bipush ok_M_old rfl (by decide) ?_
        exact zw_iret ok_M_old rfl rfl (⟨rfl, hI, r47_rf⟩)
      · refine zw_iload_n ok_M_old rfl rfl ?_
        refine zw_iload_n ok_M_old rfl rfl ?_
        refine zw_icmp_eq 31 ok_M_old rfl (by decide) (by omega) (fun h16 => ?_) (fun h16 => ?_)
        · refine zw_bipush ok_M_old rfl (by decide) ?_
          exact zw_iret ok_M_old rfl rfl (⟨rfl, hI, r47_rf⟩)
        · refine zw_iload_n ok_M_old rfl rfl ?_
          refine zw_i2l ok_M_old rfl (by omega) ?_
          refine zw_lconst1 ok_M_old rfl ?_
          refine zw_ldc2 ok_M_old rfl kc_M_149 ?_
          refine zw_Sbp ok_M_old rfl ok_M_in lk_M_70 (by decide) rfl (Nat.le_of_ble_eq_true rfl) (ct_M_in (by omega)) ?_
          first | refine zw_ifne_d 34 ok_M_old rfl (by decide) (fun h28 => ?_) (fun h28 => ?_) | refine zw_ifne_b 34 ok_M_old rfl (by decide) (fun h28 => ?_) (fun h28 => ?_) | refine zw_if_ne 34 ok_M_old rfl (by decide) (by omega) (fun h28 => ?_) (fun h28 => ?_)
          · exact absurd ⟨h4, h11, h16, h28⟩ hg
          · refine zw_bipush ok_M_old rfl (by decide) ?_
            exact zw_iret ok_M_old rfl rfl (⟨rfl, hI, r47_rf⟩)
theorem ct_M_umbrella {h p : Int} (hI : MI mem τ) (hT : tauI (nUmb τ h p)) (hh : zR h) (hp : zR p) : zCi m_M_umbrella [vr 48, vi h, vi p] mem (qUmb τ h p) (fun m2 => MI m2 (nUmb τ h p) ∧ ref47 mem m2) := by
  refine zCt.of [some (vr 48), some (vi h), some (vi p)] ok_M_umbrella (Nat.le_of_ble_eq_true rfl) rfl ?_
  have b2 := hI.1.1.2.2.2.1
  have c1 := hI.2.2.1.2.1
  unfold qUmb nUmb at *
  by_cases hg : (0 ≤ h ∧ h ≤ 11) ∧ (0 ≤ p ∧ p ≤ 7)
  · rw [if_pos hg]
    by_cases hl : τ 2 3 < 8
    · rw [if_pos hl, if_pos ⟨hg, hl⟩]
      rw [if_pos ⟨hg, hl⟩] at hT
      have key := MI_addU hI hT
      refine zw_iload_n ok_M_umbrella rfl rfl ?_
      refine zw_Sbp ok_M_umbrella rfl ok_M_isHour lk_M_157 (by decide) rfl (Nat.le_of_ble_eq_true rfl) (ct_M_isHour (by omega)) ?_
      first | refine zw_ifeq_d 14 ok_M_umbrella rfl (by decide) (fun h4 => ?_) (fun h4 => ?_) | refine zw_ifeq_b 14 ok_M_umbrella rfl (by decide) (fun h4 => ?_) (fun h4 => ?_) | refine zw_if_eq 14 ok_M_umbrella rfl (by decide) (by omega) (fun h4 => ?_) (fun h4 => ?_)
      · exact absurd hg.1 h4
      · refine zw_iload_n ok_M_umbrella rfl rfl ?_
        refine zw_Sbp ok_M_umbrella rfl ok_M_isAnyone lk_M_146 (by decide) rfl (Nat.le_of_ble_eq_true rfl) (ct_M_isAnyone (by omega)) ?_
        first | refine zw_ifne_d 17 ok_M_umbrella rfl (by decide) (fun h11 => ?_) (fun h11 => ?_) | refine zw_ifne_b 17 ok_M_umbrella rfl (by decide) (fun h11 => ?_) (fun h11 => ?_) | refine zw_if_ne 17 ok_M_umbrella rfl (by decide) (by omega) (fun h11 => ?_) (fun h11 => ?_)
        · refine zw_aload_n ok_M_umbrella rfl rfl ?_
          refine zw_geti ok_M_umbrella rfl fl_M_154 rfl rfl ?_
          refine zw_bipush ok_M_umbrella rfl (by decide) ?_
          refine zw_icmp_ne 29 ok_M_umbrella rfl (by decide) (by omega) (fun h23 => ?_) (fun h23 => ?_)
          · refine zw_aload_n ok_M_umbrella rfl rfl ?_
            refine zw_iload_n ok_M_umbrella rfl rfl ?_
            refine zw_iload_n ok_M_umbrella rfl rfl ?_
            refine zw_Vvp ok_M_umbrella rfl ok_M_shades lk_M_160 (by decide) rfl rfl (Nat.le_of_ble_eq_true rfl) (ct_M_shades (by omega)) ?_
            refine zw_aload_n ok_M_umbrella rfl rfl ?_
            refine zw_geti ok_M_umbrella rfl fl_M_154 rfl rfl ?_
            rw [zset_eq, zupd_eq]
            exact zw_iret ok_M_umbrella rfl rfl (⟨by rw [c1], key, ((r47_set (by decide)).tr (r47_set (by decide))).tr (r47_set (by decide))⟩)
          · exfalso; omega
        · exact absurd hg.2 h11
    · rw [if_neg hl, if_neg (fun z => hl z.2)]
      refine zw_iload_n ok_M_umbrella rfl rfl ?_
      refine zw_Sbp ok_M_umbrella rfl ok_M_isHour lk_M_157 (by decide) rfl (Nat.le_of_ble_eq_true rfl) (ct_M_isHour (by omega)) ?_
      first | refine zw_ifeq_d 14 ok_M_umbrella rfl (by decide) (fun h4 => ?_) (fun h4 => ?_) | refine zw_ifeq_b 14 ok_M_umbrella rfl (by decide) (fun h4 => ?_) (fun h4 => ?_) | refine zw_if_eq 14 ok_M_umbrella rfl (by decide) (by omega) (fun h4 => ?_) (fun h4 => ?_)
      · exact absurd hg.1 h4
      · refine zw_iload_n ok_M_umbrella rfl rfl ?_
        refine zw_Sbp ok_M_umbrella rfl ok_M_isAnyone lk_M_146 (by decide) rfl (Nat.le_of_ble_eq_true rfl) (ct_M_isAnyone (by omega)) ?_
        first | refine zw_ifne_d 17 ok_M_umbrella rfl (by decide) (fun h11 => ?_) (fun h11 => ?_) | refine zw_ifne_b 17 ok_M_umbrella rfl (by decide) (fun h11 => ?_) (fun h11 => ?_) | refine zw_if_ne 17 ok_M_umbrella rfl (by decide) (by omega) (fun h11 => ?_) (fun h11 => ?_)
        · refine zw_aload_n ok_M_umbrella rfl rfl ?_
          refine zw_geti ok_M_umbrella rfl fl_M_154 rfl rfl ?_
          refine zw_bipush ok_M_umbrella rfl (by decide) ?_
          refine zw_icmp_ne 29 ok_M_umbrella rfl (by decide) (by omega) (fun h23 => ?_) (fun h23 => ?_)
          · exfalso; omega
          · refine zw_bipush ok_M_umbrella rfl (by decide) ?_
            exact zw_iret ok_M_umbrella rfl rfl (⟨rfl, hI, r47_rf⟩)
        · exact absurd hg.2 h11
  · rw [if_neg hg, if_neg (fun z => hg z.1)]
    refine zw_iload_n ok_M_umbrella rfl rfl ?_
    refine zw_Sbp ok_M_umbrella rfl ok_M_isHour lk_M_157 (by decide) rfl (Nat.le_of_ble_eq_true rfl) (ct_M_isHour (by omega)) ?_
    first | refine zw_ifeq_d 14 ok_M_umbrella rfl (by decide) (fun h4 => ?_) (fun h4 => ?_) | refine zw_ifeq_b 14 ok_M_umbrella rfl (by decide) (fun h4 => ?_) (fun h4 => ?_) | refine zw_if_eq 14 ok_M_umbrella rfl (by decide) (by omega) (fun h4 => ?_) (fun h4 => ?_)
    · refine zw_bipush ok_M_umbrella rfl (by decide) ?_
      exact zw_iret ok_M_umbrella rfl rfl (⟨rfl, hI, r47_rf⟩)
    · refine zw_iload_n ok_M_umbrella rfl rfl ?_
      refine zw_Sbp ok_M_umbrella rfl ok_M_isAnyone lk_M_146 (by decide) rfl (Nat.le_of_ble_eq_true rfl) (ct_M_isAnyone (by omega)) ?_
      first | refine zw_ifne_d 17 ok_M_umbrella rfl (by decide) (fun h11 => ?_) (fun h11 => ?_) | refine zw_ifne_b 17 ok_M_umbrella rfl (by decide) (fun h11 => ?_) (fun h11 => ?_) | refine zw_if_ne 17 ok_M_umbrella rfl (by decide) (by omega) (fun h11 => ?_) (fun h11 => ?_)
      · exact absurd ⟨h4, h11⟩ hg
      · refine zw_bipush ok_M_umbrella rfl (by decide) ?_
        exact zw_iret ok_M_umbrella rfl rfl (⟨rfl, hI, r47_rf⟩)
theorem ct_M_seen {h p l : Int} (hI : MI mem τ) (hT : tauI (nSeen τ h p l)) (hh : zR h) (hp : zR p) (hl : zR l) : zCi m_M_seen [vr 48, vi h, vi p, vi l] mem (qSeen τ h p l) (fun m2 => MI m2 (nSeen τ h p l) ∧ ref47 mem m2) := by
  refine zCt.of [some (vr 48), some (vi h), some (vi p), some (vi l)] ok_M_seen (Nat.le_of_ble_eq_true rfl) rfl ?_
  have b2 := hI.1.1.2.2.2.2.1
  have c1 := hI.2.2.1.2.2.1
  unfold qSeen nSeen at *
  by_cases hg : (0 ≤ h ∧ h ≤ 11) ∧ (0 ≤ p ∧ p ≤ 7) ∧ (0 ≤ l ∧ l ≤ 99)
  · rw [if_pos hg]
    by_cases hl : τ 2 4 < 8
    · rw [if_pos hl, if_pos ⟨hg, hl⟩]
      rw [if_pos ⟨hg, hl⟩] at hT
      have key := MI_addS hI hT
      refine zw_iload_n ok_M_seen rfl rfl ?_
      refine zw_Sbp ok_M_seen rfl ok_M_isHour lk_M_157 (by decide) rfl (Nat.le_of_ble_eq_true rfl) (ct_M_isHour (by omega)) ?_
      first | refine zw_ifeq_d 26 ok_M_seen rfl (by decide) (fun h4 => ?_) (fun h4 => ?_) | refine zw_ifeq_b 26 ok_M_seen rfl (by decide) (fun h4 => ?_) (fun h4 => ?_) | refine zw_if_eq 26 ok_M_seen rfl (by decide) (by omega) (fun h4 => ?_) (fun h4 => ?_)
      · exact absurd hg.1 h4
      · refine zw_iload_n ok_M_seen rfl rfl ?_
        refine zw_Sbp ok_M_seen rfl ok_M_isAnyone lk_M_146 (by decide) rfl (Nat.le_of_ble_eq_true rfl) (ct_M_isAnyone (by omega)) ?_
        first | refine zw_ifeq_d 26 ok_M_seen rfl (by decide) (fun h11 => ?_) (fun h11 => ?_) | refine zw_ifeq_b 26 ok_M_seen rfl (by decide) (fun h11 => ?_) (fun h11 => ?_) | refine zw_if_eq 26 ok_M_seen rfl (by decide) (by omega) (fun h11 => ?_) (fun h11 => ?_)
        · exact absurd hg.2.1 h11
        · refine zw_iload_n ok_M_seen rfl rfl ?_
          refine zw_i2l ok_M_seen rfl (by omega) ?_
          refine zw_lconst0 ok_M_seen rfl ?_
          refine zw_ldc2 ok_M_seen rfl kc_M_149 ?_
          refine zw_Sbp ok_M_seen rfl ok_M_in lk_M_70 (by decide) rfl (Nat.le_of_ble_eq_true rfl) (ct_M_in (by omega)) ?_
          first | refine zw_ifne_d 29 ok_M_seen rfl (by decide) (fun h23 => ?_) (fun h23 => ?_) | refine zw_ifne_b 29 ok_M_seen rfl (by decide) (fun h23 => ?_) (fun h23 => ?_) | refine zw_if_ne 29 ok_M_seen rfl (by decide) (by omega) (fun h23 => ?_) (fun h23 => ?_)
          · refine zw_aload_n ok_M_seen rfl rfl ?_
            refine zw_geti ok_M_seen rfl fl_M_258 rfl rfl ?_
            refine zw_bipush ok_M_seen rfl (by decide) ?_
            refine zw_icmp_ne 41 ok_M_seen rfl (by decide) (by omega) (fun h35 => ?_) (fun h35 => ?_)
            · refine zw_aload_n ok_M_seen rfl rfl ?_
              refine zw_getr ok_M_seen rfl fl_M_55 rfl rfl ?_
              refine zw_iconst ok_M_seen rfl ?_
              refine zw_aload_n ok_M_seen rfl rfl ?_
              refine zw_geti ok_M_seen rfl fl_M_258 rfl rfl ?_
              refine zw_imul ok_M_seen rfl ?_
              refine zw_iload_n ok_M_seen rfl rfl ?_
              refine zw_iast ok_M_seen rfl rfl (by omega) ?_
              refine zw_aload_n ok_M_seen rfl rfl ?_
              refine zw_getr ok_M_seen rfl fl_M_55 rfl rfl ?_
              refine zw_iconst ok_M_seen rfl ?_
              refine zw_aload_n ok_M_seen rfl rfl ?_
              refine zw_geti ok_M_seen rfl fl_M_258 rfl rfl ?_
              rw [zset_ne (show (48 : Nat) ≠ 64 by decide)]
              refine zw_imul ok_M_seen rfl ?_
              refine zw_iconst ok_M_seen rfl ?_
              refine zw_iadd ok_M_seen rfl ?_
              refine zw_iload_n ok_M_seen rfl rfl ?_
              refine zw_iast ok_M_seen rfl rfl (by omega) ?_
              refine zw_aload_n ok_M_seen rfl rfl ?_
              refine zw_getr ok_M_seen rfl fl_M_55 rfl rfl ?_
              refine zw_iconst ok_M_seen rfl ?_
              refine zw_aload_n ok_M_seen rfl rfl ?_
              refine zw_geti ok_M_seen rfl fl_M_258 rfl rfl ?_
              rw [zset_ne (show (48 : Nat) ≠ 64 by decide), zset_ne (show (48 : Nat) ≠ 64 by decide)]
              refine zw_imul ok_M_seen rfl ?_
              refine zw_iconst ok_M_seen rfl ?_
              refine zw_iadd ok_M_seen rfl ?_
              refine zw_iload_n ok_M_seen rfl rfl ?_
              refine zw_iast ok_M_seen rfl rfl (by omega) ?_
              refine zw_aload_n ok_M_seen rfl rfl ?_
              first | refine zw_dupi ok_M_seen rfl ?_ | refine zw_dupr ok_M_seen rfl ?_
              refine zw_geti ok_M_seen rfl fl_M_258 rfl rfl ?_
              rw [zset_ne (show (48 : Nat) ≠ 64 by decide), zset_ne (show (48 : Nat) ≠ 64 by decide), zset_ne (show (48 : Nat) ≠ 64 by decide)]
              refine zw_iconst ok_M_seen rfl ?_
              refine zw_iadd ok_M_seen rfl ?_
              refine zw_puti ok_M_seen rfl fp_M_258 rfl rfl ?_
              refine zw_aload_n ok_M_seen rfl rfl ?_
              refine zw_geti ok_M_seen rfl fl_M_258 rfl rfl ?_
              rw [zset_eq, zupd_eq]
              exact zw_iret ok_M_seen rfl rfl (⟨by rw [c1], key, (((r47_set (by decide)).tr (r47_set (by decide))).tr (r47_set (by decide))).tr (r47_set (by decide))⟩)
            · exfalso; omega
          · exact absurd hg.2.2 h23
    · rw [if_neg hl, if_neg (fun z => hl z.2)]
      refine zw_iload_n ok_M_seen rfl rfl ?_
      refine zw_Sbp ok_M_seen rfl ok_M_isHour lk_M_157 (by decide) rfl (Nat.le_of_ble_eq_true rfl) (ct_M_isHour (by omega)) ?_
      first | refine zw_ifeq_d 26 ok_M_seen rfl (by decide) (fun h4 => ?_) (fun h4 => ?_) | refine zw_ifeq_b 26 ok_M_seen rfl (by decide) (fun h4 => ?_) (fun h4 => ?_) | refine zw_if_eq 26 ok_M_seen rfl (by decide) (by omega) (fun h4 => ?_) (fun h4 => ?_)
      · exact absurd hg.1 h4
      · refine zw_iload_n ok_M_seen rfl rfl ?_
        refine zw_Sbp ok_M_seen rfl ok_M_isAnyone lk_M_146 (by decide) rfl (Nat.le_of_ble_eq_true rfl) (ct_M_isAnyone (by omega)) ?_
        first | refine zw_ifeq_d 26 ok_M_seen rfl (by decide) (fun h11 => ?_) (fun h11 => ?_) | refine zw_ifeq_b 26 ok_M_seen rfl (by decide) (fun h11 => ?_) (fun h11 => ?_) | refine zw_if_eq 26 ok_M_seen rfl (by decide) (by omega) (fun h11 => ?_) (fun h11 => ?_)
        · exact absurd hg.2.1 h11
        · refine zw_iload_n ok_M_seen rfl rfl ?_
          refine zw_i2l ok_M_seen rfl (by omega) ?_
          refine zw_lconst0 ok_M_seen rfl ?_
          refine zw_ldc2 ok_M_seen rfl kc_M_149 ?_
          refine zw_Sbp ok_M_seen rfl ok_M_in lk_M_70 (by decide) rfl (Nat.le_of_ble_eq_true rfl) (ct_M_in (by omega)) ?_
          first | refine zw_ifne_d 29 ok_M_seen rfl (by decide) (fun h23 => ?_) (fun h23 => ?_) | refine zw_ifne_b 29 ok_M_seen rfl (by decide) (fun h23 => ?_) (fun h23 => ?_) | refine zw_if_ne 29 ok_M_seen rfl (by decide) (by omega) (fun h23 => ?_) (fun h23 => ?_)
          · refine zw_aload_n ok_M_seen rfl rfl ?_
            refine zw_geti ok_M_seen rfl fl_M_258 rfl rfl ?_
            refine zw_bipush ok_M_seen rfl (by decide) ?_
            refine zw_icmp_ne 41 ok_M_seen rfl (by decide) (by omega) (fun h35 => ?_) (fun h35 => ?_)
            · exfalso; omega
            · refine zw_bipush ok_M_seen rfl (by decide) ?_
              exact zw_iret ok_M_seen rfl rfl (⟨rfl, hI, r47_rf⟩)
          · exact absurd hg.2.2 h23
  · rw [if_neg hg, if_neg (fun z => hg z.1)]
    refine zw_iload_n ok_M_seen rfl rfl ?_
    refine zw_Sbp ok_M_seen rfl ok_M_isHour lk_M_157 (by decide) rfl (Nat.le_of_ble_eq_true rfl) (ct_M_isHour (by omega)) ?_
    first | refine zw_ifeq_d 26 ok_M_seen rfl (by decide) (fun h4 => ?_) (fun h4 => ?_) | refine zw_ifeq_b 26 ok_M_seen rfl (by decide) (fun h4 => ?_) (fun h4 => ?_) | refine zw_if_eq 26 ok_M_seen rfl (by decide) (by omega) (fun h4 => ?_) (fun h4 => ?_)
    · refine zw_bipush ok_M_seen rfl (by decide) ?_
      exact zw_iret ok_M_seen rfl rfl (⟨rfl, hI, r47_rf⟩)
    · refine zw_iload_n ok_M_seen rfl rfl ?_
      refine zw_Sbp ok_M_seen rfl ok_M_isAnyone lk_M_146 (by decide) rfl (Nat.le_of_ble_eq_true rfl) (ct_M_isAnyone (by omega)) ?_
      first | refine zw_ifeq_d 26 ok_M_seen rfl (by decide) (fun h11 => ?_) (fun h11 => ?_) | refine zw_ifeq_b 26 ok_M_seen rfl (by decide) (fun h11 => ?_) (fun h11 => ?_) | refine zw_if_eq 26 ok_M_seen rfl (by decide) (by omega) (fun h11 => ?_) (fun h11 => ?_)
      · refine zw_bipush ok_M_seen rfl (by decide) ?_
        exact zw_iret ok_M_seen rfl rfl (⟨rfl, hI, r47_rf⟩)
      · refine zw_iload_n ok_M_seen rfl rfl ?_
        refine zw_i2l ok_M_seen rfl (by omega) ?_
        refine zw_lconst0 ok_M_seen rfl ?_
        refine zw_ldc2 ok_M_seen rfl kc_M_149 ?_
        refine zw_Sbp ok_M_seen rfl ok_M_in lk_M_70 (by decide) rfl (Nat.le_of_ble_eq_true rfl) (ct_M_in (by omega)) ?_
        first | refine zw_ifne_d 29 ok_M_seen rfl (by decide) (fun h23 => ?_) (fun h23 => ?_) | refine zw_ifne_b 29 ok_M_seen rfl (by decide) (fun h23 => ?_) (fun h23 => ?_) | refine zw_if_ne 29 ok_M_seen rfl (by decide) (by omega) (fun h23 => ?_) (fun h23 => ?_)
        · exact absurd ⟨h4, h11, h23⟩ hg
        · refine zw_bipush ok_M_seen rfl (by decide) ?_
          exact zw_iret ok_M_seen rfl rfl (⟨rfl, hI, r47_rf⟩)
theorem ct_M_forget (hI : MI mem τ) (hT : tauI (zset τ 2 4 0)) : zCi m_M_forget [vr 48] mem (τ 2 4) (fun m2 => MI m2 (zset τ 2 4 0) ∧ ref47 mem m2) := by
  refine zCt.of [some (vr 48), none] ok_M_forget (Nat.le_of_ble_eq_true rfl) rfl ?_
  refine zw_aload_n ok_M_forget rfl rfl ?_
  refine zw_geti ok_M_forget rfl fl_M_258 rfl rfl ?_
  refine zw_istore_n ok_M_forget rfl rfl (by decide) ?_
  refine zw_aload_n ok_M_forget rfl rfl ?_
  refine zw_iconst ok_M_forget rfl ?_
  refine zw_puti ok_M_forget rfl fp_M_258 rfl rfl ?_
  refine zw_iload_n ok_M_forget rfl rfl ?_
  exact zw_iret ok_M_forget rfl rfl (⟨by rw [hI.2.2.1.2.2.1], MI_n4 hI hT, r47_set (by decide)⟩)
theorem ct_M_back {w : Int} (hI : MI mem τ) (hT : tauI (nBack τ w)) (hw : zR w) : zCi m_M_back [vr 48, vi w] mem (qBack τ w) (fun m2 => MI m2 (nBack τ w) ∧ ref47 mem m2) := by
  refine zCt.of [some (vr 48), some (vi w), none] ok_M_back (Nat.le_of_ble_eq_true rfl) rfl ?_
  have b2 := hI.1.1.2.2.1
  have b3 := hI.1.1.2.2.2.1
  have c1 := hI.2.2.1.1
  have c2 := hI.2.2.1.2.1
  by_cases hg : 0 ≤ w ∧ w ≤ 1
  · have : w = 0 ∨ w = 1 := by omega
    rcases this with rfl | rfl
    · by_cases h0 : τ 2 2 = 0
      · have e1 : qBack τ 0 = -3 := by unfold qBack; rw [if_pos hg, if_pos rfl, if_pos h0]
        have e2 : nBack τ 0 = τ := by unfold nBack; rw [if_neg (fun z => z.2 h0), if_neg (fun z => by omega)]
        rw [e1, e2]
        refine zw_iload_n ok_M_back rfl rfl ?_
        refine zw_Sbp ok_M_back rfl ok_M_isTwo lk_M_98 (by decide) rfl (Nat.le_of_ble_eq_true rfl) (ct_M_isTwo (by omega)) ?_
        first | refine zw_ifne_d 10 ok_M_back rfl (by decide) (fun h4 => ?_) (fun h4 => ?_) | refine zw_ifne_b 10 ok_M_back rfl (by decide) (fun h4 => ?_) (fun h4 => ?_) | refine zw_if_ne 10 ok_M_back rfl (by decide) (by omega) (fun h4 => ?_) (fun h4 => ?_)
        · refine zw_iload_n ok_M_back rfl rfl ?_
          refine zw_if_ne 21 ok_M_back rfl (by decide) (by omega) (fun h11 => ?_) (fun h11 => ?_)
          · exfalso; omega
          · refine zw_aload_n ok_M_back rfl rfl ?_
            refine zw_geti ok_M_back rfl fl_M_151 rfl rfl ?_
            rw [c1]
            refine zw_goto 25 ok_M_back rfl (by decide) ?_
            refine zw_istore_n ok_M_back rfl rfl (by decide) ?_
            refine zw_iload_n ok_M_back rfl rfl ?_
            refine zw_if_ne 33 ok_M_back rfl (by decide) (by omega) (fun h27 => ?_) (fun h27 => ?_)
            · exact absurd h0 h27
            · refine zw_bipush ok_M_back rfl (by decide) ?_
              exact zw_iret ok_M_back rfl rfl (⟨rfl, hI, r47_rf⟩)
        · exact absurd hg h4
      · have e1 : qBack τ 0 = τ 2 2 - 1 := by unfold qBack; rw [if_pos hg, if_pos rfl, if_neg h0]
        have e2 : nBack τ 0 = zset τ 2 2 (τ 2 2 - 1) := by unfold nBack; rw [if_pos ⟨rfl, h0⟩]
        rw [e2] at hT
        rw [e1, e2]
        have key := MI_n2 hI hT (by omega)
        refine zw_iload_n ok_M_back rfl rfl ?_
        refine zw_Sbp ok_M_back rfl ok_M_isTwo lk_M_98 (by decide) rfl (Nat.le_of_ble_eq_true rfl) (ct_M_isTwo (by omega)) ?_
        first | refine zw_ifne_d 10 ok_M_back rfl (by decide) (fun h4 => ?_) (fun h4 => ?_) | refine zw_ifne_b 10 ok_M_back rfl (by decide) (fun h4 => ?_) (fun h4 => ?_) | refine zw_if_ne 10 ok_M_back rfl (by decide) (by omega) (fun h4 => ?_) (fun h4 => ?_)
        · refine zw_iload_n ok_M_back rfl rfl ?_
          refine zw_if_ne 21 ok_M_back rfl (by decide) (by omega) (fun h11 => ?_) (fun h11 => ?_)
          · exfalso; omega
          · refine zw_aload_n ok_M_back rfl rfl ?_
            refine zw_geti ok_M_back rfl fl_M_151 rfl rfl ?_
            rw [c1]
            refine zw_goto 25 ok_M_back rfl (by decide) ?_
            refine zw_istore_n ok_M_back rfl rfl (by decide) ?_
            refine zw_iload_n ok_M_back rfl rfl ?_
            refine zw_if_ne 33 ok_M_back rfl (by decide) (by omega) (fun h27 => ?_) (fun h27 => ?_)
            · refine zw_aload_n ok_M_back rfl rfl ?_
              first | refine zw_dupi ok_M_back rfl ?_ | refine zw_dupr ok_M_back rfl ?_
              refine zw_geti ok_M_back rfl fl_M_151 rfl rfl ?_
              rw [c1]
              refine zw_iload_n ok_M_back rfl rfl ?_
              refine zw_if_ne 46 ok_M_back rfl (by decide) (by omega) (fun h39 => ?_) (fun h39 => ?_)
              · exfalso; omega
              · refine zw_iconst ok_M_back rfl ?_
                refine zw_goto 47 ok_M_back rfl (by decide) ?_
                refine zw_isub ok_M_back rfl ?_
                refine zw_puti ok_M_back rfl fp_M_151 rfl rfl ?_
                refine zw_aload_n ok_M_back rfl rfl ?_
                first | refine zw_dupi ok_M_back rfl ?_ | refine zw_dupr ok_M_back rfl ?_
                refine zw_geti ok_M_back rfl fl_M_154 rfl rfl ?_
                rw [zset_eq, zupd_ne (by decide), c2]
                refine zw_iload_n ok_M_back rfl rfl ?_
                refine zw_isub ok_M_back rfl ?_
                refine zw_puti ok_M_back rfl fp_M_154 rfl rfl ?_
                rw [Int.sub_zero, zset_self (mem := zset mem 48 11 (τ 2 2 - 1)) (k := 48) (i := 13) (v := τ 2 3) (by rw [zset_eq, zupd_ne (by decide), c2])]
                refine zw_iload_n ok_M_back rfl rfl ?_
                refine zw_iconst ok_M_back rfl ?_
                refine zw_isub ok_M_back rfl ?_
                exact zw_iret ok_M_back rfl rfl (⟨rfl, key, r47_set (by decide)⟩)
            · exact absurd h27 h0
        · exact absurd hg h4
    · by_cases h0 : τ 2 3 = 0
      · have e1 : qBack τ 1 = -3 := by unfold qBack; rw [if_pos hg, if_neg (by decide), if_pos h0]
        have e2 : nBack τ 1 = τ := by unfold nBack; rw [if_neg (fun z => by omega), if_neg (fun z => z.2 h0)]
        rw [e1, e2]
        refine zw_iload_n ok_M_back rfl rfl ?_
        refine zw_Sbp ok_M_back rfl ok_M_isTwo lk_M_98 (by decide) rfl (Nat.le_of_ble_eq_true rfl) (ct_M_isTwo (by omega)) ?_
        first | refine zw_ifne_d 10 ok_M_back rfl (by decide) (fun h4 => ?_) (fun h4 => ?_) | refine zw_ifne_b 10 ok_M_back rfl (by decide) (fun h4 => ?_) (fun h4 => ?_) | refine zw_if_ne 10 ok_M_back rfl (by decide) (by omega) (fun h4 => ?_) (fun h4 => ?_)
        · refine zw_iload_n ok_M_back rfl rfl ?_
          refine zw_if_ne 21 ok_M_back rfl (by decide) (by omega) (fun h11 => ?_) (fun h11 => ?_)
          · refine zw_aload_n ok_M_back rfl rfl ?_
            refine zw_geti ok_M_back rfl fl_M_154 rfl rfl ?_
            rw [c2]
            refine zw_istore_n ok_M_back rfl rfl (by decide) ?_
            refine zw_iload_n ok_M_back rfl rfl ?_
            refine zw_if_ne 33 ok_M_back rfl (by decide) (by omega) (fun h27 => ?_) (fun h27 => ?_)
            · exact absurd h0 h27
            · refine zw_bipush ok_M_back rfl (by decide) ?_
              exact zw_iret ok_M_back rfl rfl (⟨rfl, hI, r47_rf⟩)
          · exfalso; omega
        · exact absurd hg h4
      · have e1 : qBack τ 1 = τ 2 3 - 1 := by unfold qBack; rw [if_pos hg, if_neg (by decide), if_neg h0]
        have e2 : nBack τ 1 = zset τ 2 3 (τ 2 3 - 1) := by unfold nBack; rw [if_neg (fun z => by omega), if_pos ⟨rfl, h0⟩]
        rw [e2] at hT
        rw [e1, e2]
        have key := MI_n3 hI hT (by omega)
        refine zw_iload_n ok_M_back rfl rfl ?_
        refine zw_Sbp ok_M_back rfl ok_M_isTwo lk_M_98 (by decide) rfl (Nat.le_of_ble_eq_true rfl) (ct_M_isTwo (by omega)) ?_
        first | refine zw_ifne_d 10 ok_M_back rfl (by decide) (fun h4 => ?_) (fun h4 => ?_) | refine zw_ifne_b 10 ok_M_back rfl (by decide) (fun h4 => ?_) (fun h4 => ?_) | refine zw_if_ne 10 ok_M_back rfl (by decide) (by omega) (fun h4 => ?_) (fun h4 => ?_)
        · refine zw_iload_n ok_M_back rfl rfl ?_
          refine zw_if_ne 21 ok_M_back rfl (by decide) (by omega) (fun h11 => ?_) (fun h11 => ?_)
          · refine zw_aload_n ok_M_back rfl rfl ?_
            refine zw_geti ok_M_back rfl fl_M_154 rfl rfl ?_
            rw [c2]
            refine zw_istore_n ok_M_back rfl rfl (by decide) ?_
            refine zw_iload_n ok_M_back rfl rfl ?_
            refine zw_if_ne 33 ok_M_back rfl (by decide) (by omega) (fun h27 => ?_) (fun h27 => ?_)
            · refine zw_aload_n ok_M_back rfl rfl ?_
              first | refine zw_dupi ok_M_back rfl ?_ | refine zw_dupr ok_M_back rfl ?_
              refine zw_geti ok_M_back rfl fl_M_151 rfl rfl ?_
              rw [c1]
              refine zw_iload_n ok_M_back rfl rfl ?_
              refine zw_if_ne 46 ok_M_back rfl (by decide) (by omega) (fun h39 => ?_) (fun h39 => ?_)
              · refine zw_iconst ok_M_back rfl ?_
                refine zw_isub ok_M_back rfl ?_
                refine zw_puti ok_M_back rfl fp_M_151 rfl rfl ?_
                rw [Int.sub_zero, zset_self (mem := mem) (k := 48) (i := 11) (v := τ 2 2) c1]
                refine zw_aload_n ok_M_back rfl rfl ?_
                first | refine zw_dupi ok_M_back rfl ?_ | refine zw_dupr ok_M_back rfl ?_
                refine zw_geti ok_M_back rfl fl_M_154 rfl rfl ?_
                rw [c2]
                refine zw_iload_n ok_M_back rfl rfl ?_
                refine zw_isub ok_M_back rfl ?_
                refine zw_puti ok_M_back rfl fp_M_154 rfl rfl ?_
                refine zw_iload_n ok_M_back rfl rfl ?_
                refine zw_iconst ok_M_back rfl ?_
                refine zw_isub ok_M_back rfl ?_
                exact zw_iret ok_M_back rfl rfl (⟨rfl, key, r47_set (by decide)⟩)
              · exfalso; omega
            · exact absurd h27 h0
          · exfalso; omega
        · exact absurd hg h4
  · have e1 : qBack τ w = -2 := by unfold qBack; rw [if_neg hg]
    have e2 : nBack τ w = τ := by unfold nBack; rw [if_neg (fun z => by omega), if_neg (fun z => by omega)]
    rw [e1, e2]
    refine zw_iload_n ok_M_back rfl rfl ?_
    refine zw_Sbp ok_M_back rfl ok_M_isTwo lk_M_98 (by decide) rfl (Nat.le_of_ble_eq_true rfl) (ct_M_isTwo (by omega)) ?_
    first | refine zw_ifne_d 10 ok_M_back rfl (by decide) (fun h4 => ?_) (fun h4 => ?_) | refine zw_ifne_b 10 ok_M_back rfl (by decide) (fun h4 => ?_) (fun h4 => ?_) | refine zw_if_ne 10 ok_M_back rfl (by decide) (by omega) (fun h4 => ?_) (fun h4 => ?_)
    · exact absurd h4 hg
    · refine zw_bipush ok_M_back rfl (by decide) ?_
      exact zw_iret ok_M_back rfl rfl (⟨rfl, hI, r47_rf⟩)
end
