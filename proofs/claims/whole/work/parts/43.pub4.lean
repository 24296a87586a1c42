/-! ===== LowerBows: old, umbrella, back, seen, forget: contracts ===== -/
section
variable {mem τ : zMem}
theorem CI_addO {a b c : Int} (hI : CI mem τ) (hg : (0 ≤ a ∧ a ≤ 7) ∧ (0 ≤ b ∧ b ≤ 7) ∧ a ≠ b ∧ 1 ≤ c ∧ c ≤ 99) (hc : τ 2 2 < 12) : CI (zset (zset (zset (zset mem 13 (mem 12 3) a) 14 (mem 12 3) b) 15 (mem 12 3) c) 12 3 (mem 12 3 + 1)) (addO τ a b c) := by
  have e12 := hI.2.2.2.1.1
  have co := hI.2.2.2.2.1
  refine CI_old hI (addO_I hI.1 hg hc) (fun k hk => ?_) (fun k hk => ?_) (fun j hj => ?_) ?_ (fun k q1 q2 => ?_)
  · simp at hk; rw [zset_ne (by omega), zset_ne (by omega), zset_ne (by omega), zset_ne (by omega)]
  · simp at hk; unfold addO; rw [zset_ne (by omega), zset_ne (by omega), zset_ne (by omega), zset_ne (by omega)]
  · exact zupd_ne hj
  · show mem 12 3 + 1 = τ 2 2 + 1; rw [e12]
  · have q2 : k < τ 2 2 + 1 := q2
    show zupd (mem 13) (mem 12 3) a k = zupd (τ 3) (τ 2 2) a k ∧ zupd (mem 14) (mem 12 3) b k = zupd (τ 4) (τ 2 2) b k ∧ zupd (mem 15) (mem 12 3) c k = zupd (τ 5) (τ 2 2) c k
    rw [e12]
    by_cases e : k = τ 2 2
    · subst e; rw [zupd_eq, zupd_eq, zupd_eq, zupd_eq, zupd_eq, zupd_eq]; exact ⟨rfl, rfl, rfl⟩
    · rw [zupd_ne e, zupd_ne e, zupd_ne e, zupd_ne e, zupd_ne e, zupd_ne e]; exact co k q1 (by omega)
theorem CI_addU {h p z : Int} (hI : CI mem τ) (hg : (0 ≤ h ∧ h ≤ 11) ∧ (0 ≤ p ∧ p ≤ 7)) (hc : τ 2 3 < 8) : CI (zset (zset (zset (zset mem 17 (mem 16 3) h) 18 (mem 16 3) p) 19 (mem 16 3) z) 16 3 (mem 16 3 + 1)) (addU τ h p) := by
  have e16 := hI.2.2.2.1.2.1
  have cu := hI.2.2.2.2.2.1
  refine CI_umb hI (addU_I hI.1 hg hc) (fun k hk => ?_) (fun k hk => ?_) (fun j hj => ?_) ?_ (fun k q1 q2 => ?_)
  · simp at hk; rw [zset_ne (by omega), zset_ne (by omega), zset_ne (by omega), zset_ne (by omega)]
  · simp at hk; unfold addU; rw [zset_ne (by omega), zset_ne (by omega), zset_ne (by omega)]
  · exact zupd_ne hj
  · show mem 16 3 + 1 = τ 2 3 + 1; rw [e16]
  · have q2 : k < τ 2 3 + 1 := q2
    show zupd (mem 17) (mem 16 3) h k = zupd (τ 6) (τ 2 3) h k ∧ zupd (mem 18) (mem 16 3) p k = zupd (τ 7) (τ 2 3) p k
    rw [e16]
    by_cases e : k = τ 2 3
    · subst e; rw [zupd_eq, zupd_eq, zupd_eq, zupd_eq]; exact ⟨rfl, rfl⟩
    · rw [zupd_ne e, zupd_ne e, zupd_ne e, zupd_ne e]; exact cu k q1 (by omega)
theorem CI_addS {h p l : Int} (hI : CI mem τ) (hg : (0 ≤ h ∧ h ≤ 11) ∧ (0 ≤ p ∧ p ≤ 7) ∧ (0 ≤ l ∧ l ≤ 99)) (hc : τ 2 4 < 8) : CI (zset (zset (zset (zset mem 21 (mem 20 3) h) 22 (mem 20 3) p) 23 (mem 20 3) l) 20 3 (mem 20 3 + 1)) (addS τ h p l) := by
  have e20 := hI.2.2.2.1.2.2.1
  have cs := hI.2.2.2.2.2.2.1
  refine CI_see hI (addS_I hI.1 hg hc) (fun k hk => ?_) (fun k hk => ?_) (fun j hj => ?_) ?_ (fun k q1 q2 => ?_)
  · simp at hk; rw [zset_ne (by omega), zset_ne (by omega), zset_ne (by omega), zset_ne (by omega)]
  · simp at hk; unfold addS; rw [zset_ne (by omega), zset_ne (by omega), zset_ne (by omega), zset_ne (by omega)]
  · exact zupd_ne hj
  · show mem 20 3 + 1 = τ 2 4 + 1; rw [e20]
  · have q2 : k < τ 2 4 + 1 := q2
    show zupd (mem 21) (mem 20 3) h k = zupd (τ 8) (τ 2 4) h k ∧ zupd (mem 22) (mem 20 3) p k = zupd (τ 9) (τ 2 4) p k ∧ zupd (mem 23) (mem 20 3) l k = zupd (τ 10) (τ 2 4) l k
    rw [e20]
    by_cases e : k = τ 2 4
    · subst e; rw [zupd_eq, zupd_eq, zupd_eq, zupd_eq, zupd_eq, zupd_eq]; exact ⟨rfl, rfl, rfl⟩
    · rw [zupd_ne e, zupd_ne e, zupd_ne e, zupd_ne e, zupd_ne e, zupd_ne e]; exact cs k q1 (by omega)
theorem CI_n2 {n v : Int} (hI : CI mem τ) (hn : 0 ≤ n ∧ n ≤ τ 2 2) (hv : v = n) : CI (zset mem 12 3 v) (zset τ 2 2 n) := by
  refine CI_old hI (n2_I hI.1 (Or.inl rfl) hn) (fun k hk => ?_) (fun k hk => ?_) (fun j hj => ?_) ?_ (fun k q1 q2 => ?_)
  · simp at hk; exact zset_ne (by omega)
  · simp at hk; exact zset_ne (by omega)
  · exact zupd_ne hj
  · exact hv
  · have q2 : k < n := q2
    exact hI.2.2.2.2.1 k q1 (by omega)
theorem CI_n3 {n v : Int} (hI : CI mem τ) (hn : 0 ≤ n ∧ n ≤ τ 2 3) (hv : v = n) : CI (zset mem 16 3 v) (zset τ 2 3 n) := by
  refine CI_umb hI (n2_I hI.1 (Or.inr (Or.inl rfl)) hn) (fun k hk => ?_) (fun k hk => ?_) (fun j hj => ?_) ?_ (fun k q1 q2 => ?_)
  · simp at hk; exact zset_ne (by omega)
  · simp at hk; exact zset_ne (by omega)
  · exact zupd_ne hj
  · exact hv
  · have q2 : k < n := q2
    exact hI.2.2.2.2.2.1 k q1 (by omega)
theorem CI_n4 {n v : Int} (hI : CI mem τ) (hn : 0 ≤ n ∧ n ≤ τ 2 4) (hv : v = n) : CI (zset mem 20 3 v) (zset τ 2 4 n) := by
  refine CI_see hI (n2_I hI.1 (Or.inr (Or.inr rfl)) hn) (fun k hk => ?_) (fun k hk => ?_) (fun j hj => ?_) ?_ (fun k q1 q2 => ?_)
  · simp at hk; exact zset_ne (by omega)
  · simp at hk; exact zset_ne (by omega)
  · exact zupd_ne hj
  · exact hv
  · have q2 : k < n := q2
    exact hI.2.2.2.2.2.2.1 k q1 (by omega)
theorem cls4 {k1 k2 k3 k4 : Nat} {i1 i2 i3 i4 v1 v2 v3 v4 : Int} (h : (k1 < 48 ∧ k2 < 48) ∧ k3 < 48 ∧ k4 < 48) : cls48 mem (zset (zset (zset (zset mem k1 i1 v1) k2 i2 v2) k3 i3 v3) k4 i4 v4) := fun k hk => by rw [zset_ne (by omega), zset_ne (by omega), zset_ne (by omega), zset_ne (by omega)]
theorem ct_B_old {a b c : Int} (hI : CI mem τ) (ha : zR a) (hb : zR b) (hc : zR c) : zCi m_B_old [vr 0, vi a, vi b, vi c] mem (qOld τ a b c) (fun m2 => CI m2 (nOld τ a b c) ∧ cls48 mem m2) := by
  refine zCt.of [some (vr 0), some (vi a), some (vi b), some (vi c)] ok_B_old (Nat.le_of_ble_eq_true rfl) rfl ?_
  have e12 := hI.2.2.2.1.1
  have b2 := hI.1.1.2.2.1
  unfold qOld nOld
  by_cases hg : (0 ≤ a ∧ a ≤ 7) ∧ (0 ≤ b ∧ b ≤ 7) ∧ a ≠ b ∧ 1 ≤ c ∧ c ≤ 99
  · rw [if_pos hg]
    by_cases hc2 : τ 2 2 < 12
    · rw [if_pos hc2, if_pos ⟨hg, hc2⟩]
      refine zw_iload_n ok_B_old rfl rfl ?_
      refine zw_iload_n ok_B_old rfl rfl ?_
      refine zw_iload_n ok_B_old rfl rfl ?_
      refine zw_Sbp ok_B_old rfl ok_B_mayBeOld lk_B_144 (by decide) rfl (Nat.le_of_ble_eq_true rfl) (ct_B_mayBeOld (by omega)) ?_
      first | refine zw_ifne_d 12 ok_B_old rfl (by decide) (fun h6 => ?_) (fun h6 => ?_) | refine zw_ifne_b 12 ok_B_old rfl (by decide) (fun h6 => ?_) (fun h6 => ?_) | refine zw_if_ne 12 ok_B_old rfl (by decide) (by omega) (fun h6 => ?_) (fun h6 => ?_)
      · refine zw_aload_n ok_B_old rfl rfl ?_
        refine zw_getr ok_B_old rfl fl_B_38 rfl rfl ?_
        refine zw_iload_n ok_B_old rfl rfl ?_
        refine zw_iload_n ok_B_old rfl rfl ?_
        refine zw_iload_n ok_B_old rfl rfl ?_
        refine zw_Vi ok_B_old rfl ok_Le_enter lk_B_147 (by decide) rfl rfl (Nat.le_of_ble_eq_true rfl) (ct_Le_enter (k := 12) (c := 12) (Or.inl ⟨rfl, rfl⟩) (by omega)) (fun m19 h19 => ?_)
        rw [if_pos (by omega)] at h19 ⊢
        subst h19
        exact zw_iret ok_B_old rfl rfl (⟨by rw [e12], CI_addO hI hg hc2, cls4 (by omega)⟩)
      · exact absurd hg h6
    · rw [if_neg hc2, if_neg (fun q => hc2 q.2)]
      refine zw_iload_n ok_B_old rfl rfl ?_
      refine zw_iload_n ok_B_old rfl rfl ?_
      refine zw_iload_n ok_B_old rfl rfl ?_
      refine zw_Sbp ok_B_old rfl ok_B_mayBeOld lk_B_144 (by decide) rfl (Nat.le_of_ble_eq_true rfl) (ct_B_mayBeOld (by omega)) ?_
      first | refine zw_ifne_d 12 ok_B_old rfl (by decide) (fun h6 => ?_) (fun h6 => ?_) | refine zw_ifne_b 12 ok_B_old rfl (by decide) (fun h6 => ?_) (fun h6 => ?_) | refine zw_if_ne 12 ok_B_old rfl (by decide) (by omega) (fun h6 => ?_) (fun h6 => ?_)
      · refine zw_aload_n ok_B_old rfl rfl ?_
        refine zw_getr ok_B_old rfl fl_B_38 rfl rfl ?_
        refine zw_iload_n ok_B_old rfl rfl ?_
        refine zw_iload_n ok_B_old rfl rfl ?_
        refine zw_iload_n ok_B_old rfl rfl ?_
        refine zw_Vi ok_B_old rfl ok_Le_enter lk_B_147 (by decide) rfl rfl (Nat.le_of_ble_eq_true rfl) (ct_Le_enter (k := 12) (c := 12) (Or.inl ⟨rfl, rfl⟩) (by omega)) (fun m19 h19 => ?_)
        rw [if_neg (by omega)] at h19 ⊢
        subst h19
        exact zw_iret ok_B_old rfl rfl (⟨rfl, hI, fun _ _ => rfl⟩)
      · exact absurd hg h6
  · rw [if_neg hg, if_neg (fun q => hg q.1)]
    refine zw_iload_n ok_B_old rfl rfl ?_
    refine zw_iload_n ok_B_old rfl rfl ?_
    refine zw_iload_n ok_B_old rfl rfl ?_
    refine zw_Sbp ok_B_old rfl ok_B_mayBeOld lk_B_144 (by decide) rfl (Nat.le_of_ble_eq_true rfl) (ct_B_mayBeOld (by omega)) ?_
    first | refine zw_ifne_d 12 ok_B_old rfl (by decide) (fun h6 => ?_) (fun h6 => ?_) | refine zw_ifne_b 12 ok_B_old rfl (by decide) (fun h6 => ?_) (fun h6 => ?_) | refine zw_if_ne 12 ok_B_old rfl (by decide) (by omega) (fun h6 => ?_) (fun h6 => ?_)
    · exact absurd h6 hg
    · refine zw_bipush ok_B_old rfl (by decide) ?_
      exact zw_iret ok_B_old rfl rfl (⟨rfl, hI, fun _ _ => rfl⟩)
theorem ct_B_umbrella {h p : Int} (hI : CI mem τ) (hh : zR h) (hp : zR p) : zCi m_B_umbrella [vr 0, vi h, vi p] mem (qUmb τ h p) (fun m2 => CI m2 (nUmb τ h p) ∧ cls48 mem m2) := by
  refine zCt.of [some (vr 0), some (vi h), some (vi p)] ok_B_umbrella (Nat.le_of_ble_eq_true rfl) rfl ?_
  have e16 := hI.2.2.2.1.2.1
  have b2 := hI.1.1.2.2.2.1
  unfold qUmb nUmb
  by_cases hg : (0 ≤ h ∧ h ≤ 11) ∧ (0 ≤ p ∧ p ≤ 7)
  · rw [if_pos hg]
    by_cases hc2 : τ 2 3 < 8
    · rw [if_pos hc2, if_pos ⟨hg, hc2⟩]
      refine zw_iload_n ok_B_umbrella rfl rfl ?_
      refine zw_Sbp ok_B_umbrella rfl ok_B_isHour lk_B_138 (by decide) rfl (Nat.le_of_ble_eq_true rfl) (ct_B_isHour (by omega)) ?_
      first | refine zw_ifeq_d 17 ok_B_umbrella rfl (by decide) (fun h4 => ?_) (fun h4 => ?_) | refine zw_ifeq_b 17 ok_B_umbrella rfl (by decide) (fun h4 => ?_) (fun h4 => ?_) | refine zw_if_eq 17 ok_B_umbrella rfl (by decide) (by omega) (fun h4 => ?_) (fun h4 => ?_)
      · exact absurd hg.1 h4
      · refine zw_iload_n ok_B_umbrella rfl rfl ?_
        refine zw_iconst ok_B_umbrella rfl ?_
        refine zw_bipush ok_B_umbrella rfl (by decide) ?_
        refine zw_Sbp ok_B_umbrella rfl ok_B_within lk_B_100 (by decide) rfl (Nat.le_of_ble_eq_true rfl) (ct_B_within (by omega)) ?_
        first | refine zw_ifne_d 20 ok_B_umbrella rfl (by decide) (fun h14 => ?_) (fun h14 => ?_) | refine zw_ifne_b 20 ok_B_umbrella rfl (by decide) (fun h14 => ?_) (fun h14 => ?_) | refine zw_if_ne 20 ok_B_umbrella rfl (by decide) (by omega) (fun h14 => ?_) (fun h14 => ?_)
        · refine zw_aload_n ok_B_umbrella rfl rfl ?_
          refine zw_getr ok_B_umbrella rfl fl_B_42 rfl rfl ?_
          refine zw_iload_n ok_B_umbrella rfl rfl ?_
          refine zw_iload_n ok_B_umbrella rfl rfl ?_
          refine zw_iconst ok_B_umbrella rfl ?_
          refine zw_Vi ok_B_umbrella rfl ok_Le_enter lk_B_147 (by decide) rfl rfl (Nat.le_of_ble_eq_true rfl) (ct_Le_enter (k := 16) (c := 8) (Or.inr (Or.inl ⟨rfl, rfl⟩)) (by omega)) (fun m27 h27 => ?_)
          rw [if_pos (by omega)] at h27 ⊢
          subst h27
          exact zw_iret ok_B_umbrella rfl rfl (⟨by rw [e16], CI_addU hI hg hc2, cls4 (by omega)⟩)
        · exact absurd hg.2 h14
    · rw [if_neg hc2, if_neg (fun q => hc2 q.2)]
      refine zw_iload_n ok_B_umbrella rfl rfl ?_
      refine zw_Sbp ok_B_umbrella rfl ok_B_isHour lk_B_138 (by decide) rfl (Nat.le_of_ble_eq_true rfl) (ct_B_isHour (by omega)) ?_
      first | refine zw_ifeq_d 17 ok_B_umbrella rfl (by decide) (fun h4 => ?_) (fun h4 => ?_) | refine zw_ifeq_b 17 ok_B_umbrella rfl (by decide) (fun h4 => ?_) (fun h4 => ?_) | refine zw_if_eq 17 ok_B_umbrella rfl (by decide) (by omega) (fun h4 => ?_) (fun h4 => ?_)
      · exact absurd hg.1 h4
      · refine zw_iload_n ok_B_umbrella rfl rfl ?_
        refine zw_iconst ok_B_umbrella rfl ?_
        refine zw_bipush ok_B_umbrella rfl (by decide) ?_
        refine zw_Sbp ok_B_umbrella rfl ok_B_within lk_B_100 (by decide) rfl (Nat.le_of_ble_eq_true rfl) (ct_B_within (by omega)) ?_
        first | refine zw_ifne_d 20 ok_B_umbrella rfl (by decide) (fun h14 => ?_) (fun h14 => ?_) | refine zw_ifne_b 20 ok_B_umbrella rfl (by decide) (fun h14 => ?_) (fun h14 => ?_) | refine zw_if_ne 20 ok_B_umbrella rfl (by decide) (by omega) (fun h14 => ?_) (fun h14 => ?_)
        · refine zw_aload_n ok_B_umbrella rfl rfl ?_
          refine zw_getr ok_B_umbrella rfl fl_B_42 rfl rfl ?_
          refine zw_iload_n ok_B_umbrella rfl rfl ?_
          refine zw_iload_n ok_B_umbrella rfl rfl ?_
          refine zw_iconst ok_B_umbrella rfl ?_
          refine zw_Vi ok_B_umbrella rfl ok_Le_enter lk_B_147 (by decide) rfl rfl (Nat.le_of_ble_eq_true rfl) (ct_Le_enter (k := 16) (c := 8) (Or.inr (Or.inl ⟨rfl, rfl⟩)) (by omega)) (fun m27 h27 => ?_)
          rw [if_neg (by omega)] at h27 ⊢
          subst h27
          exact zw_iret ok_B_umbrella rfl rfl (⟨rfl, hI, fun _ _ => rfl⟩)
        · exact absurd hg.2 h14
  · rw [if_neg hg, if_neg (fun q => hg q.1)]
    refine zw_iload_n ok_B_umbrella rfl rfl ?_
    refine zw_Sbp ok_B_umbrella rfl ok_B_isHour lk_B_138 (by decide) rfl (Nat.le_of_ble_eq_true rfl) (ct_B_isHour (by omega)) ?_
    first | refine zw_ifeq_d 17 ok_B_umbrella rfl (by decide) (fun h4 => ?_) (fun h4 => ?_) | refine zw_ifeq_b 17 ok_B_umbrella rfl (by decide) (fun h4 => ?_) (fun h4 => ?_) | refine zw_if_eq 17 ok_B_umbrella rfl (by decide) (by omega) (fun h4 => ?_) (fun h4 => ?_)
    · refine zw_bipush ok_B_umbrella rfl (by decide) ?_
      exact zw_iret ok_B_umbrella rfl rfl (⟨rfl, hI, fun _ _ => rfl⟩)
    · refine zw_iload_n ok_B_umbrella rfl rfl ?_
      refine zw_iconst ok_B_umbrella rfl ?_
      refine zw_bipush ok_B_umbrella rfl (by decide) ?_
      refine zw_Sbp ok_B_umbrella rfl ok_B_within lk_B_100 (by decide) rfl (Nat.le_of_ble_eq_true rfl) (ct_B_within (by omega)) ?_
      first | refine zw_ifne_d 20 ok_B_umbrella rfl (by decide) (fun h14 => ?_) (fun h14 => ?_) | refine zw_ifne_b 20 ok_B_umbrella rfl (by decide) (fun h14 => ?_) (fun h14 => ?_) | refine zw_if_ne 20 ok_B_umbrella rfl (by decide) (by omega) (fun h14 => ?_) (fun h14 => ?_)
      · exact absurd ⟨h4, h14⟩ hg
      · refine zw_bipush ok_B_umbrella rfl (by decide) ?_
        exact zw_iret ok_B_umbrella rfl rfl (⟨rfl, hI, fun _ _ => rfl⟩)
theorem ct_B_seen {h p l : Int} (hI : CI mem τ) (hh : zR h) (hp : zR p) (hl : zR l) : zCi m_B_seen [vr 0, vi h, vi p, vi l] mem (qSeen τ h p l) (fun m2 => CI m2 (nSeen τ h p l) ∧ cls48 mem m2) := by
  refine zCt.of [some (vr 0), some (vi h), some (vi p), some (vi l)] ok_B_seen (Nat.le_of_ble_eq_true rfl) rfl ?_
  have e20 := hI.2.2.2.1.2.2.1
  have b2 := hI.1.1.2.2.2.2.1
  unfold qSeen nSeen
  by_cases hg : (0 ≤ h ∧ h ≤ 11) ∧ (0 ≤ p ∧ p ≤ 7) ∧ (0 ≤ l ∧ l ≤ 99)
  · rw [if_pos hg]
    by_cases hc2 : τ 2 4 < 8
    · rw [if_pos hc2, if_pos ⟨hg, hc2⟩]
      refine zw_iload_n ok_B_seen rfl rfl ?_
      refine zw_Sbp ok_B_seen rfl ok_B_isHour lk_B_138 (by decide) rfl (Nat.le_of_ble_eq_true rfl) (ct_B_isHour (by omega)) ?_
      first | refine zw_ifeq_d 27 ok_B_seen rfl (by decide) (fun h4 => ?_) (fun h4 => ?_) | refine zw_ifeq_b 27 ok_B_seen rfl (by decide) (fun h4 => ?_) (fun h4 => ?_) | refine zw_if_eq 27 ok_B_seen rfl (by decide) (by omega) (fun h4 => ?_) (fun h4 => ?_)
      · exact absurd hg.1 h4
      · refine zw_iload_n ok_B_seen rfl rfl ?_
        refine zw_iconst ok_B_seen rfl ?_
        refine zw_bipush ok_B_seen rfl (by decide) ?_
        refine zw_Sbp ok_B_seen rfl ok_B_within lk_B_100 (by decide) rfl (Nat.le_of_ble_eq_true rfl) (ct_B_within (by omega)) ?_
        first | refine zw_ifeq_d 27 ok_B_seen rfl (by decide) (fun h14 => ?_) (fun h14 => ?_) | refine zw_ifeq_b 27 ok_B_seen rfl (by decide) (fun h14 => ?_) (fun h14 => ?_) | refine zw_if_eq 27 ok_B_seen rfl (by decide) (by omega) (fun h14 => ?_) (fun h14 => ?_)
        · exact absurd hg.2.1 h14
        · refine zw_iload_n ok_B_seen rfl rfl ?_
          refine zw_iconst ok_B_seen rfl ?_
          refine zw_bipush ok_B_seen rfl (by decide) ?_
          refine zw_Sbp ok_B_seen rfl ok_B_within lk_B_100 (by decide) rfl (Nat.le_of_ble_eq_true rfl) (ct_B_within (by omega)) ?_
          first | refine zw_ifne_d 30 ok_B_seen rfl (by decide) (fun h24 => ?_) (fun h24 => ?_) | refine zw_ifne_b 30 ok_B_seen rfl (by decide) (fun h24 => ?_) (fun h24 => ?_) | refine zw_if_ne 30 ok_B_seen rfl (by decide) (by omega) (fun h24 => ?_) (fun h24 => ?_)
          · refine zw_aload_n ok_B_seen rfl rfl ?_
            refine zw_getr ok_B_seen rfl fl_B_45 rfl rfl ?_
            refine zw_iload_n ok_B_seen rfl rfl ?_
            refine zw_iload_n ok_B_seen rfl rfl ?_
            refine zw_iload_n ok_B_seen rfl rfl ?_
            refine zw_Vi ok_B_seen rfl ok_Le_enter lk_B_147 (by decide) rfl rfl (Nat.le_of_ble_eq_true rfl) (ct_Le_enter (k := 20) (c := 8) (Or.inr (Or.inr ⟨rfl, rfl⟩)) (by omega)) (fun m37 h37 => ?_)
            rw [if_pos (by omega)] at h37 ⊢
            subst h37
            exact zw_iret ok_B_seen rfl rfl (⟨by rw [e20], CI_addS hI hg hc2, cls4 (by omega)⟩)
          · exact absurd hg.2.2 h24
    · rw [if_neg hc2, if_neg (fun q => hc2 q.2)]
      refine zw_iload_n ok_B_seen rfl rfl ?_
      refine zw_Sbp ok_B_seen rfl ok_B_isHour lk_B_138 (by decide) rfl (Nat.le_of_ble_eq_true rfl) (ct_B_isHour (by omega)) ?_
      first | refine zw_ifeq_d 27 ok_B_seen rfl (by decide) (fun h4 => ?_) (fun h4 => ?_) | refine zw_ifeq_b 27 ok_B_seen rfl (by decide) (fun h4 => ?_) (fun h4 => ?_) | refine zw_if_eq 27 ok_B_seen rfl (by decide) (by omega) (fun h4 => ?_) (fun h4 => ?_)
      · exact absurd hg.1 h4
      · refine zw_iload_n ok_B_seen rfl rfl ?_
        refine zw_iconst ok_B_seen rfl ?_
        refine zw_bipush ok_B_seen rfl (by decide) ?_
        refine zw_Sbp ok_B_seen rfl ok_B_within lk_B_100 (by decide) rfl (Nat.le_of_ble_eq_true rfl) (ct_B_within (by omega)) ?_
        first | refine zw_ifeq_d 27 ok_B_seen rfl (by decide) (fun h14 => ?_) (fun h14 => ?_) | refine zw_ifeq_b 27 ok_B_seen rfl (by decide) (fun h14 => ?_) (fun h14 => ?_) | refine zw_if_eq 27 ok_B_seen rfl (by decide) (by omega) (fun h14 => ?_) (fun h14 => ?_)
        · exact absurd hg.2.1 h14
        · refine zw_iload_n ok_B_seen rfl rfl ?_
          refine zw_iconst ok_B_seen rfl ?_
          refine zw_bipush ok_B_seen rfl (by decide) ?_
          refine zw_Sbp ok_B_seen rfl ok_B_within lk_B_100 (by decide) rfl (Nat.le_of_ble_eq_true rfl) (ct_B_within (by omega)) ?_
          first | refine zw_ifne_d 30 ok_B_seen rfl (by decide) (fun h24 => ?_) (fun h24 => ?_) | refine zw_ifne_b 30 ok_B_seen rfl (by decide) (fun h24 => ?_) (fun h24 => ?_) | refine zw_if_ne 30 ok_B_seen rfl (by decide) (by omega) (fun h24 => ?_) (fun h24 => ?_)
          · refine zw_aload_n ok_B_seen rfl rfl ?_
            refine zw_getr ok_B_seen rfl fl_B_45 rfl rfl ?_
            refine zw_iload_n ok_B_seen rfl rfl ?_
            refine zw_iload_n ok_B_seen rfl rfl ?_
            refine zw_iload_n ok_B_seen rfl rfl ?_
            refine zw_Vi ok_B_seen rfl ok_Le_enter lk_B_147 (by decide) rfl rfl (Nat.le_of_ble_eq_true rfl) (ct_Le_enter (k := 20) (c := 8) (Or.inr (Or.inr ⟨rfl, rfl⟩)) (by omega)) (fun m37 h37 => ?_)
            rw [if_neg (by omega)] at h37 ⊢
            subst h37
            exact zw_iret ok_B_seen rfl rfl (⟨rfl, hI, fun _ _ => rfl⟩)
          · exact absurd hg.2.2 h24
  · rw [if_neg hg, if_neg (fun q => hg q.1)]
    refine zw_iload_n ok_B_seen rfl rfl ?_
    refine zw_Sbp ok_B_seen rfl ok_B_isHour lk_B_138 (by decide) rfl (Nat.le_of_ble_eq_true rfl) (ct_B_isHour (by omega)) ?_
    first | refine zw_ifeq_d 27 ok_B_seen rfl (by decide) (fun h4 => ?_) (fun h4 => ?_) | refine zw_ifeq_b 27 ok_B_seen rfl (by decide) (fun h4 => ?_) (fun h4 => ?_) | refine zw_if_eq 27 ok_B_seen rfl (by decide) (by omega) (fun h4 => ?_) (fun h4 => ?_)
    · refine zw_bipush ok_B_seen rfl (by decide) ?_
      exact zw_iret ok_B_seen rfl rfl (⟨rfl, hI, fun _ _ => rfl⟩)
    · refine zw_iload_n ok_B_seen rfl rfl ?_
      refine zw_iconst ok_B_seen rfl ?_
      refine zw_bipush ok_B_seen rfl (by decide) ?_
      refine zw_Sbp ok_B_seen rfl ok_B_within lk_B_100 (by decide) rfl (Nat.le_of_ble_eq_true rfl) (ct_B_within (by omega)) ?_
      first | refine zw_ifeq_d 27 ok_B_seen rfl (by decide) (fun h14 => ?_) (fun h14 => ?_) | refine zw_ifeq_b 27 ok_B_seen rfl (by decide) (fun h14 => ?_) (fun h14 => ?_) | refine zw_if_eq 27 ok_B_seen rfl (by decide) (by omega) (fun h14 => ?_) (fun h14 => ?_)
      · refine zw_bipush ok_B_seen rfl (by decide) ?_
        exact zw_iret ok_B_seen rfl rfl (⟨rfl, hI, fun _ _ => rfl⟩)
      · refine zw_iload_n ok_B_seen rfl rfl ?_
        refine zw_iconst ok_B_seen rfl ?_
        refine zw_bipush ok_B_seen rfl (by decide) ?_
        refine zw_Sbp ok_B_seen rfl ok_B_within lk_B_100 (by decide) rfl (Nat.le_of_ble_eq_true rfl) (ct_B_within (by omega)) ?_
        first | refine zw_ifne_d 30 ok_B_seen rfl (by decide) (fun h24 => ?_) (fun h24 => ?_) | refine zw_ifne_b 30 ok_B_seen rfl (by decide) (fun h24 => ?_) (fun h24 => ?_) | refine zw_if_ne 30 ok_B_seen rfl (by decide) (by omega) (fun h24 => ?_) (fun h24 => ?_)
        · exact absurd ⟨h4, h14, h24⟩ hg
        · refine zw_bipush ok_B_seen rfl (by decide) ?_
          exact zw_iret ok_B_seen rfl rfl (⟨rfl, hI, fun _ _ => rfl⟩)
theorem ct_B_forget (hI : CI mem τ) : zCi m_B_forget [vr 0] mem (τ 2 4) (fun m2 => CI m2 (zset τ 2 4 0) ∧ cls48 mem m2) := by
  refine zCt.of [some (vr 0), none] ok_B_forget (Nat.le_of_ble_eq_true rfl) rfl ?_
  have e20 := hI.2.2.2.1.2.2.1
  have b2 := hI.1.1.2.2.2.2.1
  refine zw_aload_n ok_B_forget rfl rfl ?_
  refine zw_getr ok_B_forget rfl fl_B_45 rfl rfl ?_
  refine zw_geti ok_B_forget rfl fl_B_151 rfl rfl ?_
  refine zw_istore_n ok_B_forget rfl rfl (by decide) ?_
  refine zw_aload_n ok_B_forget rfl rfl ?_
  refine zw_getr ok_B_forget rfl fl_B_45 rfl rfl ?_
  refine zw_iconst ok_B_forget rfl ?_
  refine zw_puti ok_B_forget rfl fp_B_151 rfl rfl ?_
  refine zw_iload_n ok_B_forget rfl rfl ?_
  exact zw_iret ok_B_forget rfl rfl (⟨by rw [e20], CI_n4 hI (by omega) rfl, cls48.st (by omega)⟩)
theorem ct_B_back {w : Int} (hI : CI mem τ) (hw : zR w) : zCi m_B_back [vr 0, vi w] mem (qBack τ w) (fun m2 => CI m2 (nBack τ w) ∧ cls48 mem m2) := by
  refine zCt.of [some (vr 0), some (vi w), none] ok_B_back (Nat.le_of_ble_eq_true rfl) rfl ?_
  have e12 := hI.2.2.2.1.1
  have e16 := hI.2.2.2.1.2.1
  have b2 := hI.1.1.2.2.1
  have b3 := hI.1.1.2.2.2.1
  by_cases w0 : w = 0
  · subst w0
    by_cases hz : τ 2 2 = 0
    · have hq : qBack τ 0 = -3 := by simp [qBack, hz]
      have hn : nBack τ 0 = τ := by simp [nBack, hz]
      rw [hq, hn]
      refine zw_iload_n ok_B_back rfl rfl ?_
      refine zw_iconst ok_B_back rfl ?_
      refine zw_iconst ok_B_back rfl ?_
      refine zw_Sbp ok_B_back rfl ok_B_within lk_B_100 (by decide) rfl (Nat.le_of_ble_eq_true rfl) (ct_B_within (by omega)) ?_
      first | refine zw_ifne_d 12 ok_B_back rfl (by decide) (fun h6 => ?_) (fun h6 => ?_) | refine zw_ifne_b 12 ok_B_back rfl (by decide) (fun h6 => ?_) (fun h6 => ?_) | refine zw_if_ne 12 ok_B_back rfl (by decide) (by omega) (fun h6 => ?_) (fun h6 => ?_)
      · refine zw_iload_n ok_B_back rfl rfl ?_
        refine zw_if_ne 23 ok_B_back rfl (by decide) (by omega) (fun h13 => ?_) (fun h13 => ?_)
        · exact absurd rfl h13
        · refine zw_aload_n ok_B_back rfl rfl ?_
          refine zw_getr ok_B_back rfl fl_B_38 rfl rfl ?_
          refine zw_goto 27 ok_B_back rfl (by decide) ?_
          refine zw_astore_n ok_B_back rfl rfl (by decide) ?_
          refine zw_aload_n ok_B_back rfl rfl ?_
          refine zw_geti ok_B_back rfl fl_B_151 rfl rfl ?_
          refine zw_if_ne 38 ok_B_back rfl (by decide) (by omega) (fun h32 => ?_) (fun h32 => ?_)
          · exact absurd (e12.trans hz) h32
          · refine zw_bipush ok_B_back rfl (by decide) ?_
            exact zw_iret ok_B_back rfl rfl (⟨rfl, hI, fun _ _ => rfl⟩)
      · exact absurd (by decide) h6
    · have hq : qBack τ 0 = τ 2 2 - 1 := by simp [qBack, hz]
      have hn : nBack τ 0 = zset τ 2 2 (τ 2 2 - 1) := by simp [nBack, hz]
      rw [hq, hn]
      refine zw_iload_n ok_B_back rfl rfl ?_
      refine zw_iconst ok_B_back rfl ?_
      refine zw_iconst ok_B_back rfl ?_
      refine zw_Sbp ok_B_back rfl ok_B_within lk_B_100 (by decide) rfl (Nat.le_of_ble_eq_true rfl) (ct_B_within (by omega)) ?_
      first | refine zw_ifne_d 12 ok_B_back rfl (by decide) (fun h6 => ?_) (fun h6 => ?_) | refine zw_ifne_b 12 ok_B_back rfl (by decide) (fun h6 => ?_) (fun h6 => ?_) | refine zw_if_ne 12 ok_B_back rfl (by decide) (by omega) (fun h6 => ?_) (fun h6 => ?_)
      · refine zw_iload_n ok_B_back rfl rfl ?_
        refine zw_if_ne 23 ok_B_back rfl (by decide) (by omega) (fun h13 => ?_) (fun h13 => ?_)
        · exact absurd rfl h13
        · refine zw_aload_n ok_B_back rfl rfl ?_
          refine zw_getr ok_B_back rfl fl_B_38 rfl rfl ?_
          refine zw_goto 27 ok_B_back rfl (by decide) ?_
          refine zw_astore_n ok_B_back rfl rfl (by decide) ?_
          refine zw_aload_n ok_B_back rfl rfl ?_
          refine zw_geti ok_B_back rfl fl_B_151 rfl rfl ?_
          try simp only [zset_eq, zupd_eq]
          refine zw_if_ne 38 ok_B_back rfl (by decide) (by omega) (fun h32 => ?_) (fun h32 => ?_)
          · refine zw_aload_n ok_B_back rfl rfl ?_
            first | refine zw_dupi ok_B_back rfl ?_ | refine zw_dupr ok_B_back rfl ?_
            refine zw_geti ok_B_back rfl fl_B_151 rfl rfl ?_
            try simp only [zset_eq, zupd_eq]
            refine zw_iconst ok_B_back rfl ?_
            refine zw_isub ok_B_back rfl ?_
            refine zw_puti ok_B_back rfl fp_B_151 rfl rfl ?_
            try simp only [zset_eq, zupd_eq]
            refine zw_aload_n ok_B_back rfl rfl ?_
            refine zw_geti ok_B_back rfl fl_B_151 rfl rfl ?_
            try simp only [zset_eq, zupd_eq]
            exact zw_iret ok_B_back rfl rfl (⟨by rw [e12], CI_n2 hI (by omega) (by omega), cls48.st (by omega)⟩)
          · exact absurd (e12.symm.trans h32) hz
      · exact absurd (by decide) h6
  · by_cases w1 : w = 1
    · subst w1
      by_cases hz : τ 2 3 = 0
      · have hq : qBack τ 1 = -3 := by simp [qBack, hz]
        have hn : nBack τ 1 = τ := by simp [nBack, hz]
        rw [hq, hn]
        refine zw_iload_n ok_B_back rfl rfl ?_
        refine zw_iconst ok_B_back rfl ?_
        refine zw_iconst ok_B_back rfl ?_
        refine zw_Sbp ok_B_back rfl ok_B_within lk_B_100 (by decide) rfl (Nat.le_of_ble_eq_true rfl) (ct_B_within (by omega)) ?_
        first | refine zw_ifne_d 12 ok_B_back rfl (by decide) (fun h6 => ?_) (fun h6 => ?_) | refine zw_ifne_b 12 ok_B_back rfl (by decide) (fun h6 => ?_) (fun h6 => ?_) | refine zw_if_ne 12 ok_B_back rfl (by decide) (by omega) (fun h6 => ?_) (fun h6 => ?_)
        · refine zw_iload_n ok_B_back rfl rfl ?_
          refine zw_if_ne 23 ok_B_back rfl (by decide) (by omega) (fun h13 => ?_) (fun h13 => ?_)
          · refine zw_aload_n ok_B_back rfl rfl ?_
            refine zw_getr ok_B_back rfl fl_B_42 rfl rfl ?_
            refine zw_astore_n ok_B_back rfl rfl (by decide) ?_
            refine zw_aload_n ok_B_back rfl rfl ?_
            refine zw_geti ok_B_back rfl fl_B_151 rfl rfl ?_
            refine zw_if_ne 38 ok_B_back rfl (by decide) (by omega) (fun h32 => ?_) (fun h32 => ?_)
            · exact absurd (e16.trans hz) h32
            · refine zw_bipush ok_B_back rfl (by decide) ?_
              exact zw_iret ok_B_back rfl rfl (⟨rfl, hI, fun _ _ => rfl⟩)
          · exact absurd h13 (by decide)
        · exact absurd (by decide) h6
      · have hq : qBack τ 1 = τ 2 3 - 1 := by simp [qBack, hz]
        have hn : nBack τ 1 = zset τ 2 3 (τ 2 3 - 1) := by simp [nBack, hz]
        rw [hq, hn]
        refine zw_iload_n ok_B_back rfl rfl ?_
        refine zw_iconst ok_B_back rfl ?_
        refine zw_iconst ok_B_back rfl ?_
        refine zw_Sbp ok_B_back rfl ok_B_within lk_B_100 (by decide) rfl (Nat.le_of_ble_eq_true rfl) (ct_B_within (by omega)) ?_
        first | refine zw_ifne_d 12 ok_B_back rfl (by decide) (fun h6 => ?_) (fun h6 => ?_) | refine zw_ifne_b 12 ok_B_back rfl (by decide) (fun h6 => ?_) (fun h6 => ?_) | refine zw_if_ne 12 ok_B_back rfl (by decide) (by omega) (fun h6 => ?_) (fun h6 => ?_)
        · refine zw_iload_n ok_B_back rfl rfl ?_
          refine zw_if_ne 23 ok_B_back rfl (by decide) (by omega) (fun h13 => ?_) (fun h13 => ?_)
          · refine zw_aload_n ok_B_back rfl rfl ?_
            refine zw_getr ok_B_back rfl fl_B_42 rfl rfl ?_
            refine zw_astore_n ok_B_back rfl rfl (by decide) ?_
            refine zw_aload_n ok_B_back rfl rfl ?_
            refine zw_geti ok_B_back rfl fl_B_151 rfl rfl ?_
            try simp only [zset_eq, zupd_eq]
            refine zw_if_ne 38 ok_B_back rfl (by decide) (by omega) (fun h32 => ?_) (fun h32 => ?_)
            · refine zw_aload_n ok_B_back rfl rfl ?_
              first | refine zw_dupi ok_B_back rfl ?_ | refine zw_dupr ok_B_back rfl ?_
              refine zw_geti ok_B_back rfl fl_B_151 rfl rfl ?_
              try simp only [zset_eq, zupd_eq]
              refine zw_iconst ok_B_back rfl ?_
              refine zw_isub ok_B_back rfl ?_
              refine zw_puti ok_B_back rfl fp_B_151 rfl rfl ?_
              try simp only [zset_eq, zupd_eq]
              refine zw_aload_n ok_B_back rfl rfl ?_
              refine zw_geti ok_B_back rfl fl_B_151 rfl rfl ?_
              try simp only [zset_eq, zupd_eq]
              exact zw_iret ok_B_back rfl rfl (⟨by rw [e16], CI_n3 hI (by omega) (by omega), cls48.st (by omega)⟩)
            · exact absurd (e16.symm.trans h32) hz
          · exact absurd h13 (by decide)
        · exact absurd (by decide) h6
    · have hq : qBack τ w = -2 := by unfold qBack; exact if_neg (by omega)
      have hn : nBack τ w = τ := by unfold nBack; rw [if_neg (fun q => w0 q.1), if_neg (fun q => w1 q.1)]
      rw [hq, hn]
      refine zw_iload_n ok_B_back rfl rfl ?_
      refine zw_iconst ok_B_back rfl ?_
      refine zw_iconst ok_B_back rfl ?_
      refine zw_Sbp ok_B_back rfl ok_B_within lk_B_100 (by decide) rfl (Nat.le_of_ble_eq_true rfl) (ct_B_within (by omega)) ?_
      first | refine zw_ifne_d 12 ok_B_back rfl (by decide) (fun h6 => ?_) (fun h6 => ?_) | refine zw_ifne_b 12 ok_B_back rfl (by decide) (fun h6 => ?_) (fun h6 => ?_) | refine zw_if_ne 12 ok_B_back rfl (by decide) (by omega) (fun h6 => ?_) (fun h6 => ?_)
      · exfalso; omega
      · refine zw_bipush ok_B_back rfl (by decide) ?_
        exact zw_iret ok_B_back rfl rfl (⟨rfl, hI, fun _ _ => rfl⟩)
end
