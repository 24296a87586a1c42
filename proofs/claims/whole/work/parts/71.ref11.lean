/-! ===== the reference: the sheets ===== -/
section
variable {mem m2 τ τ2 : zMem} {Q : Option zVal → zMem → Prop} {s : Int}
theorem MI_sh1 (hI : MI mem τ) (hs : 0 ≤ s ∧ s ≤ 3) (hT : tauI τ2) (hm : mfr [] [49, 50, 51, 52] mem m2) (hk : ∀ k, k < 11 → τ2 k = τ k) (h11 : ∀ j, j ≠ s → (τ2 11 j = τ 11 j ∧ τ2 12 j = τ 12 j) ∧ (m2 49 j = mem 49 j ∧ m2 50 j = mem 50 j)) (h13 : ∀ k, 13 ≤ k → k ≠ 13 + s.toNat → τ2 k = τ k) (h51 : ∀ j, (j < 60 * s ∨ 60 * s + 60 ≤ j) → m2 51 j = mem 51 j) (hc : m2 49 s = τ2 11 s ∧ m2 50 s = τ2 12 s ∧ (τ2 11 s ≠ -1 → ∀ i, 0 ≤ i → i < τ2 12 s → m2 51 (60 * s + i) = τ2 (13 + s.toNat) i)) : MI m2 τ2 ∧ ref47 mem m2 := by
  have hI0 := hI
  obtain ⟨hT0, hx, hc0, ho, hu, hss, hf, hsh⟩ := hI0
  refine ⟨⟨hT, ?_, ?_, ?_, ?_, ?_, ?_, fun t q1 q2 => ?_⟩, hm.r47 (by decide)⟩
  · rw [hm.1 54 (by decide) (by decide), hm.1 53 (by decide) (by decide), hk 2 (by omega), hk 0 (by omega), hk 1 (by omega)]; exact hx
  · rw [hm.2 11 (by decide), hm.2 13 (by decide), hm.2 27 (by decide), hm.2 4 (by decide), hk 2 (by omega)]; exact hc0
  · rw [hm.1 57 (by decide) (by decide), hk 2 (by omega), hk 3 (by omega), hk 4 (by omega), hk 5 (by omega)]; exact ho
  · rw [hm.1 58 (by decide) (by decide), hk 2 (by omega), hk 6 (by omega), hk 7 (by omega)]; exact hu
  · rw [hm.1 64 (by decide) (by decide), hk 2 (by omega), hk 8 (by omega), hk 9 (by omega), hk 10 (by omega)]; exact hss
  · rw [hm.2 22 (by decide), hm.2 23 (by decide), hm.2 24 (by decide)]; exact hf
  · by_cases e : t = s
    · subst e; exact hc
    · have a := h11 t e
      have c := hsh t q1 q2
      have b := hT0.2.2.2.2.2.2 t q1 q2
      rw [a.1.1, a.1.2, a.2.1, a.2.2, h13 _ (by omega) (by omega)]
      refine ⟨c.1, c.2.1, fun z i i0 i1 => ?_⟩
      rw [h51 _ (by omega)]
      exact c.2.2 z i i0 i1
theorem MI_fnd {x : Int} (hI : MI mem τ) (hT : tauI (fnd τ x)) : MI (zset mem 48 4 x) (fnd τ x) ∧ ref47 mem (zset mem 48 4 x) := by
  obtain ⟨-, hx, ⟨c1, c2, c3, c4⟩, ho, hu, hs, hf, hsh⟩ := hI
  exact ⟨⟨hT, hx, ⟨c1, c2, c3, rfl⟩, ho, hu, hs, hf, shM_of hsh rfl rfl rfl (fun k hk => zset_ne (by omega))⟩, r47_set (by decide)⟩
theorem shM_at (hI : MI mem τ) (hs : 0 ≤ s ∧ s ≤ 3) : mem 49 s = τ 11 s ∧ mem 50 s = τ 12 s ∧ (τ 11 s ≠ -1 → ∀ i, 0 ≤ i → i < τ 12 s → mem 51 (60 * s + i) = τ (13 + s.toNat) i) := hI.2.2.2.2.2.2.2 s hs.1 hs.2
theorem shB_m (hI : MI mem τ) (hs : 0 ≤ s ∧ s ≤ 3) : shB (τ 11 s) (τ 12 s) (τ (13 + s.toNat)) := hI.1.2.2.2.2.2.2 s hs.1 hs.2
theorem sh_loop {f n : Int} {m0 : zMem} (hs : 0 ≤ s ∧ s ≤ 3) (hn : n ≤ 60) : ∀ (k : Nat) (i : Int) (m : zMem), 0 ≤ i → i + k = n → mfr [] [51] m0 m → (∀ j, m 51 j = if 60 * s ≤ j ∧ j < 60 * s + i then 0 else m0 51 j) → (∀ m2, mfr [] [51] m0 m2 → (∀ j, m2 51 j = if 60 * s ≤ j ∧ j < 60 * s + n then 0 else m0 51 j) → Q (some (vi n)) m2) → AW m_M_sheet 55 [some (vr 48), some (vi s), some (vi f), some (vi n), some (vi i)] [] m Q := by
  intro k
  induction k with
  | zero =>
    intro i m h0 h1 hf hj hx
    have e : i = n := by omega
    subst e
    refine zw_iload ok_M_sheet rfl rfl ?_
    refine zw_iload_n ok_M_sheet rfl rfl ?_
    refine zw_icmp_ge 80 ok_M_sheet rfl (by decide) (by omega) (fun h58 => ?_) (fun h58 => ?_)
    · refine zw_iload_n ok_M_sheet rfl rfl ?_
      exact zw_iret ok_M_sheet rfl rfl (hx m hf hj)
    · exfalso; omega
  | succ k ih =>
    intro i m h0 h1 hf hj hx
    refine zw_iload ok_M_sheet rfl rfl ?_
    refine zw_iload_n ok_M_sheet rfl rfl ?_
    refine zw_icmp_ge 80 ok_M_sheet rfl (by decide) (by omega) (fun h58 => ?_) (fun h58 => ?_)
    · exfalso; omega
    · refine zw_aload_n ok_M_sheet rfl rfl ?_
      refine zw_getr ok_M_sheet rfl fl_M_16 rfl rfl ?_
      refine zw_bipush ok_M_sheet rfl (by decide) ?_
      refine zw_iload_n ok_M_sheet rfl rfl ?_
      refine zw_imul ok_M_sheet rfl ?_
      refine zw_iload ok_M_sheet rfl rfl ?_
      refine zw_iadd ok_M_sheet rfl ?_
      refine zw_iconst ok_M_sheet rfl ?_
      refine zw_iast ok_M_sheet rfl rfl (by omega) ?_
      refine zw_iinc ok_M_sheet rfl rfl rfl (by decide) ?_
      refine zw_goto 55 ok_M_sheet rfl (by decide) ?_
      refine ih (i + 1) _ (by omega) (by omega) (mfr.set hf (by decide) (by decide)) (fun j => ?_) hx
      rw [zset_eq]
      by_cases e : j = 60 * s + i
      · subst e; rw [zupd_eq, if_pos (by omega)]
      · rw [zupd_ne e, hj j]
        by_cases w : 60 * s ≤ j ∧ j < 60 * s + i
        · rw [if_pos w, if_pos (by omega)]
        · rw [if_neg w, if_neg (by omega)]
theorem ct_M_sheet {f n : Int} (hI : MI mem τ) (hT : tauI (nSheet τ s f n)) (hs : zR s) (hf : zR f) (hn : zR n) : zCi m_M_sheet [vr 48, vi s, vi f, vi n] mem (qSheet s f n) (fun m2 => MI m2 (nSheet τ s f n) ∧ ref47 mem m2) := by
  refine zCt.of [some (vr 48), some (vi s), some (vi f), some (vi n), none] ok_M_sheet (Nat.le_of_ble_eq_true rfl) rfl ?_
  unfold qSheet nSheet at *
  by_cases hg : (0 ≤ s ∧ s ≤ 3) ∧ (0 ≤ f ∧ f ≤ 2) ∧ n ≤ 60
  · rw [if_pos hg, if_pos hg]
    rw [if_pos hg] at hT
    by_cases h0 : n < 0
    · rw [if_pos h0, if_pos h0]
      rw [if_pos h0] at hT
      refine zw_iload_n ok_M_sheet rfl rfl ?_
      refine zw_Sbp ok_M_sheet rfl ok_M_isSheet lk_M_79 (by decide) rfl (Nat.le_of_ble_eq_true rfl) (ct_M_isSheet (by omega)) ?_
      first | refine zw_ifeq_d 25 ok_M_sheet rfl (by decide) (fun h4 => ?_) (fun h4 => ?_) | refine zw_ifeq_b 25 ok_M_sheet rfl (by decide) (fun h4 => ?_) (fun h4 => ?_) | refine zw_if_eq 25 ok_M_sheet rfl (by decide) (by omega) (fun h4 => ?_) (fun h4 => ?_)
      · exact absurd hg.1 h4
      · refine zw_iload_n ok_M_sheet rfl rfl ?_
        refine zw_i2l ok_M_sheet rfl (by omega) ?_
        refine zw_lconst0 ok_M_sheet rfl ?_
        refine zw_ldc2 ok_M_sheet rfl kc_M_83 ?_
        refine zw_Sbp ok_M_sheet rfl ok_M_in lk_M_70 (by decide) rfl (Nat.le_of_ble_eq_true rfl) (ct_M_in (by omega)) ?_
        first | refine zw_ifeq_d 25 ok_M_sheet rfl (by decide) (fun h16 => ?_) (fun h16 => ?_) | refine zw_ifeq_b 25 ok_M_sheet rfl (by decide) (fun h16 => ?_) (fun h16 => ?_) | refine zw_if_eq 25 ok_M_sheet rfl (by decide) (by omega) (fun h16 => ?_) (fun h16 => ?_)
        · exact absurd hg.2.1 h16
        · refine zw_iload_n ok_M_sheet rfl rfl ?_
          refine zw_bipush ok_M_sheet rfl (by decide) ?_
          refine zw_icmp_le 28 ok_M_sheet rfl (by decide) (by omega) (fun h22 => ?_) (fun h22 => ?_)
          · refine zw_iload_n ok_M_sheet rfl rfl ?_
            refine zw_if_ge 38 ok_M_sheet rfl (by decide) (by omega) (fun h29 => ?_) (fun h29 => ?_)
            · exfalso; omega
            · refine zw_aload_n ok_M_sheet rfl rfl ?_
              refine zw_iconst ok_M_sheet rfl ?_
              refine zw_Vi ok_M_sheet rfl ok_M_finds lk_M_85 (by decide) rfl rfl (Nat.le_of_ble_eq_true rfl) (ct_M_finds) (fun m34 h34 => ?_)
              subst h34
              exact zw_iret ok_M_sheet rfl rfl (⟨rfl, MI_fnd hI hT⟩)
          · exfalso; omega
    · rw [if_neg h0, if_neg h0]
      rw [if_neg h0] at hT
      have e11 : newS τ s f n 11 = zupd (τ 11) s f := by unfold newS; rw [zput_ne (by omega), zset_ne (by omega), zset_eq]
      have e12 : newS τ s f n 12 = zupd (τ 12) s n := by unfold newS; rw [zput_ne (by omega), zset_eq, zset_ne (by omega)]
      have e13 : newS τ s f n (13 + s.toNat) = fun _ => 0 := zput_eq
      have fin : ∀ m2, mfr [] [51] (zset (zset mem 49 s f) 50 s n) m2 → (∀ j, m2 51 j = if 60 * s ≤ j ∧ j < 60 * s + n then 0 else (zset (zset mem 49 s f) 50 s n) 51 j) → MI m2 (newS τ s f n) ∧ ref47 mem m2 := by
        intro m2 hf2 hj
        have hm : mfr [] [49, 50, 51, 52] mem m2 := mfr.tr (b := zset (zset mem 49 s f) 50 s n) (mfr.set (mfr.set mfr.rf (by decide) (by decide)) (by decide) (by decide)) (hf2.mono (by decide) (by decide))
        have f49 : m2 49 = zupd (mem 49) s f := by rw [hf2.1 49 (by decide) (by decide)]; rfl
        have f50 : m2 50 = zupd (mem 50) s n := by rw [hf2.1 50 (by decide) (by decide)]; rfl
        refine MI_sh1 hI hg.1 hT hm (fun k q => ?_) (fun j hj => ?_) (fun k q1 q2 => ?_) (fun j hj2 => ?_) ⟨?_, ?_, fun _ i i0 i1 => ?_⟩
        · unfold newS; rw [zput_ne (by omega), zset_ne (by omega), zset_ne (by omega)]
        · rw [e11, e12, zupd_ne hj, zupd_ne hj, f49, f50, zupd_ne hj, zupd_ne hj]; exact ⟨⟨rfl, rfl⟩, rfl, rfl⟩
        · unfold newS; rw [zput_ne q2, zset_ne (by omega), zset_ne (by omega)]
        · rw [hj j, if_neg (by omega)]; rfl
        · rw [f49, e11, zupd_eq, zupd_eq]
        · rw [f50, e12, zupd_eq, zupd_eq]
        · rw [e12, zupd_eq] at i1
          rw [e13, hj, if_pos (by omega)]
      refine zw_iload_n ok_M_sheet rfl rfl ?_
      refine zw_Sbp ok_M_sheet rfl ok_M_isSheet lk_M_79 (by decide) rfl (Nat.le_of_ble_eq_true rfl) (ct_M_isSheet (by omega)) ?_
      first | refine zw_ifeq_d 25 ok_M_sheet rfl (by decide) (fun h4 => ?_) (fun h4 => ?_) | refine zw_ifeq_b 25 ok_M_sheet rfl (by decide) (fun h4 => ?_) (fun h4 => ?_) | refine zw_if_eq 25 ok_M_sheet rfl (by decide) (by omega) (fun h4 => ?_) (fun h4 => ?_)
      · exact absurd hg.1 h4
      · refine zw_iload_n ok_M_sheet rfl rfl ?_
        refine zw_i2l ok_M_sheet rfl (by omega) ?_
        refine zw_lconst0 ok_M_sheet rfl ?_
        refine zw_ldc2 ok_M_sheet rfl kc_M_83 ?_
        refine zw_Sbp ok_M_sheet rfl ok_M_in lk_M_70 (by decide) rfl (Nat.le_of_ble_eq_true rfl) (ct_M_in (by omega)) ?_
        first | refine zw_ifeq_d 25 ok_M_sheet rfl (by decide) (fun h16 => ?_) (fun h16 => ?_) | refine zw_ifeq_b 25 ok_M_sheet rfl (by decide) (fun h16 => ?_) (fun h16 => ?_) | refine zw_if_eq 25 ok_M_sheet rfl (by decide) (by omega) (fun h16 => ?_) (fun h16 => ?_)
        · exact absurd hg.2.1 h16
        · refine zw_iload_n ok_M_sheet rfl rfl ?_
          refine zw_bipush ok_M_sheet rfl (by decide) ?_
          refine zw_icmp_le 28 ok_M_sheet rfl (by decide) (by omega) (fun h22 => ?_) (fun h22 => ?_)
          · refine zw_iload_n ok_M_sheet rfl rfl ?_
            refine zw_if_ge 38 ok_M_sheet rfl (by decide) (by omega) (fun h29 => ?_) (fun h29 => ?_)
            · refine zw_aload_n ok_M_sheet rfl rfl ?_
              refine zw_getr ok_M_sheet rfl fl_M_7 rfl rfl ?_
              refine zw_iload_n ok_M_sheet rfl rfl ?_
              refine zw_iload_n ok_M_sheet rfl rfl ?_
              refine zw_iast ok_M_sheet rfl rfl (by omega) ?_
              refine zw_aload_n ok_M_sheet rfl rfl ?_
              refine zw_getr ok_M_sheet rfl fl_M_13 rfl rfl ?_
              refine zw_iload_n ok_M_sheet rfl rfl ?_
              refine zw_iload_n ok_M_sheet rfl rfl ?_
              refine zw_iast ok_M_sheet rfl rfl (by omega) ?_
              refine zw_iconst ok_M_sheet rfl ?_
              refine zw_istore ok_M_sheet rfl rfl (by decide) ?_
              refine sh_loop hg.1 hg.2.2 n.toNat 0 _ (by omega) (by omega) mfr.rf (fun j => ?_) (fun m2 hf hj => ⟨rfl, fin m2 hf hj⟩)
              rw [if_neg (by omega)]
            · exfalso; omega
          · exfalso; omega
  · rw [if_neg hg, if_neg hg]
    refine zw_iload_n ok_M_sheet rfl rfl ?_
    refine zw_Sbp ok_M_sheet rfl ok_M_isSheet lk_M_79 (by decide) rfl (Nat.le_of_ble_eq_true rfl) (ct_M_isSheet (by omega)) ?_
    first | refine zw_ifeq_d 25 ok_M_sheet rfl (by decide) (fun h4 => ?_) (fun h4 => ?_) | refine zw_ifeq_b 25 ok_M_sheet rfl (by decide) (fun h4 => ?_) (fun h4 => ?_) | refine zw_if_eq 25 ok_M_sheet rfl (by decide) (by omega) (fun h4 => ?_) (fun h4 => ?_)
    · refine zw_bipush ok_M_sheet rfl (by decide) ?_
      exact zw_iret ok_M_sheet rfl rfl (⟨rfl, hI, r47_rf⟩)
    · refine zw_iload_n ok_M_sheet rfl rfl ?_
      refine zw_i2l ok_M_sheet rfl (by omega) ?_
      refine zw_lconst0 ok_M_sheet rfl ?_
      refine zw_ldc2 ok_M_sheet rfl kc_M_83 ?_
      refine zw_Sbp ok_M_sheet rfl ok_M_in lk_M_70 (by decide) rfl (Nat.le_of_ble_eq_true rfl) (ct_M_in (by omega)) ?_
      first | refine zw_ifeq_d 25 ok_M_sheet rfl (by decide) (fun h16 => ?_) (fun h16 => ?_) | refine zw_ifeq_b 25 ok_M_sheet rfl (by decide) (fun h16 => ?_) (fun h16 => ?_) | refine zw_if_eq 25 ok_M_sheet rfl (by decide) (by omega) (fun h16 => ?_) (fun h16 => ?_)
      · refine zw_bipush ok_M_sheet rfl (by decide) ?_
        exact zw_iret ok_M_sheet rfl rfl (⟨rfl, hI, r47_rf⟩)
      · refine zw_iload_n ok_M_sheet rfl rfl ?_
        refine zw_bipush ok_M_sheet rfl (by decide) ?_
        refine zw_icmp_le 28 ok_M_sheet rfl (by decide) (by omega) (fun h22 => ?_) (fun h22 => ?_)
        · exact absurd ⟨h4, h16, h22⟩ hg
        · refine zw_bipush ok_M_sheet rfl (by decide) ?_
          exact zw_iret ok_M_sheet rfl rfl (⟨rfl, hI, r47_rf⟩)
theorem ct_M_lose (hI : MI mem τ) (hT : tauI (nLose τ s)) (hs : zR s) : zCi m_M_lose [vr 48, vi s] mem (qLose τ s) (fun m2 => MI m2 (nLose τ s) ∧ ref47 mem m2) := by
  refine zCt.of [some (vr 48), some (vi s)] ok_M_lose (Nat.le_of_ble_eq_true rfl) rfl ?_
  unfold qLose nLose at *
  by_cases hg : 0 ≤ s ∧ s ≤ 3
  · rw [if_pos hg, if_pos hg]
    rw [if_pos hg] at hT
    have c := shM_at hI hg
    have b := shB_m hI hg
    have b1 := b.1
    by_cases h0 : τ 11 s = -1
    · rw [if_pos h0, if_pos h0]
      rw [if_pos h0] at hT
      refine zw_iload_n ok_M_lose rfl rfl ?_
      refine zw_Sbp ok_M_lose rfl ok_M_isSheet lk_M_79 (by decide) rfl (Nat.le_of_ble_eq_true rfl) (ct_M_isSheet (by omega)) ?_
      first | refine zw_ifne_d 10 ok_M_lose rfl (by decide) (fun h4 => ?_) (fun h4 => ?_) | refine zw_ifne_b 10 ok_M_lose rfl (by decide) (fun h4 => ?_) (fun h4 => ?_) | refine zw_if_ne 10 ok_M_lose rfl (by decide) (by omega) (fun h4 => ?_) (fun h4 => ?_)
      · refine zw_aload_n ok_M_lose rfl rfl ?_
        refine zw_getr ok_M_lose rfl fl_M_7 rfl rfl ?_
        refine zw_iload_n ok_M_lose rfl rfl ?_
        refine zw_iald ok_M_lose rfl rfl (by omega) ?_
        rw [c.1]
        refine zw_if_ge 25 ok_M_lose rfl (by decide) (by omega) (fun h16 => ?_) (fun h16 => ?_)
        · exfalso; omega
        · refine zw_aload_n ok_M_lose rfl rfl ?_
          refine zw_iconst ok_M_lose rfl ?_
          refine zw_Vi ok_M_lose rfl ok_M_finds lk_M_85 (by decide) rfl rfl (Nat.le_of_ble_eq_true rfl) (ct_M_finds) (fun m21 h21 => ?_)
          subst h21
          exact zw_iret ok_M_lose rfl rfl (⟨rfl, MI_fnd hI hT⟩)
      · exact absurd hg h4
    · rw [if_neg h0, if_neg h0]
      rw [if_neg h0] at hT
      have key : MI (zset mem 49 s (-1)) (zset τ 11 s (-1)) ∧ ref47 mem (zset mem 49 s (-1)) := by
        refine MI_sh1 hI hg hT (mfr.set mfr.rf (by decide) (by decide)) (fun k q => zset_ne (by omega)) (fun j hj => ?_) (fun k q1 q2 => zset_ne (by omega)) (fun j hj => rfl) ⟨?_, c.2.1, fun z => ?_⟩
        · rw [zset_eq, zset_eq, zupd_ne hj, zupd_ne hj]; exact ⟨⟨rfl, rfl⟩, rfl, rfl⟩
        · rw [zset_eq, zset_eq, zupd_eq, zupd_eq]
        · exact absurd (by rw [zset_eq, zupd_eq]) z
      refine zw_iload_n ok_M_lose rfl rfl ?_
      refine zw_Sbp ok_M_lose rfl ok_M_isSheet lk_M_79 (by decide) rfl (Nat.le_of_ble_eq_true rfl) (ct_M_isSheet (by omega)) ?_
      first | refine zw_ifne_d 10 ok_M_lose rfl (by decide) (fun h4 => ?_) (fun h4 => ?_) | refine zw_ifne_b 10 ok_M_lose rfl (by decide) (fun h4 => ?_) (fun h4 => ?_) | refine zw_if_ne 10 ok_M_lose rfl (by decide) (by omega) (fun h4 => ?_) (fun h4 => ?_)
      · refine zw_aload_n ok_M_lose rfl rfl ?_
        refine zw_getr ok_M_lose rfl fl_M_7 rfl rfl ?_
        refine zw_iload_n ok_M_lose rfl rfl ?_
        refine zw_iald ok_M_lose rfl rfl (by omega) ?_
        rw [c.1]
        refine zw_if_ge 25 ok_M_lose rfl (by decide) (by omega) (fun h16 => ?_) (fun h16 => ?_)
        · refine zw_aload_n ok_M_lose rfl rfl ?_
          refine zw_getr ok_M_lose rfl fl_M_7 rfl rfl ?_
          refine zw_iload_n ok_M_lose rfl rfl ?_
          refine zw_iconst ok_M_lose rfl ?_
          refine zw_iast ok_M_lose rfl rfl (by omega) ?_
          refine zw_aload_n ok_M_lose rfl rfl ?_
          refine zw_getr ok_M_lose rfl fl_M_13 rfl rfl ?_
          refine zw_iload_n ok_M_lose rfl rfl ?_
          refine zw_iald ok_M_lose rfl rfl (by omega) ?_
          rw [zset_ne (show (50 : Nat) ≠ 49 by decide), c.2.1]
          exact zw_iret ok_M_lose rfl rfl (⟨rfl, key⟩)
        · exfalso; omega
      · exact absurd hg h4
  · rw [if_neg hg, if_neg hg]
    refine zw_iload_n ok_M_lose rfl rfl ?_
    refine zw_Sbp ok_M_lose rfl ok_M_isSheet lk_M_79 (by decide) rfl (Nat.le_of_ble_eq_true rfl) (ct_M_isSheet (by omega)) ?_
    first | refine zw_ifne_d 10 ok_M_lose rfl (by decide) (fun h4 => ?_) (fun h4 => ?_) | refine zw_ifne_b 10 ok_M_lose rfl (by decide) (fun h4 => ?_) (fun h4 => ?_) | refine zw_if_ne 10 ok_M_lose rfl (by decide) (by omega) (fun h4 => ?_) (fun h4 => ?_)
    · exact absurd h4 hg
    · refine zw_bipush ok_M_lose rfl (by decide) ?_
      exact zw_iret ok_M_lose rfl rfl (⟨rfl, hI, r47_rf⟩)
theorem ct_M_lacks {f i : Int} (hI : MI mem τ) (hs : 0 ≤ s ∧ s ≤ 3) (hf : 0 ≤ f ∧ f ≤ 2) (hi : zR i) : zCi m_M_lacks [vr 48, vi s, vi f, vi i] mem (if shF τ s f i = 0 then 0 else -10 - shF τ s f i) (fun m2 => m2 = if shF τ s f i = 0 then mem else zset mem 48 4 (shF τ s f i)) := by
  refine zCt.of [some (vr 48), some (vi s), some (vi f), some (vi i)] ok_M_lacks (Nat.le_of_ble_eq_true rfl) rfl ?_
  have c := shM_at hI hs
  have b := shB_m hI hs
  have b1 := b.1
  have b2 := b.2.1
  refine zw_aload_n ok_M_lacks rfl rfl ?_
  refine zw_getr ok_M_lacks rfl fl_M_7 rfl rfl ?_
  refine zw_iload_n ok_M_lacks rfl rfl ?_
  refine zw_iald ok_M_lacks rfl rfl (by omega) ?_
  rw [c.1]
  refine zw_if_ge 15 ok_M_lacks rfl (by decide) (by omega) (fun h6 => ?_) (fun h6 => ?_)
  · refine zw_aload_n ok_M_lacks rfl rfl ?_
    refine zw_getr ok_M_lacks rfl fl_M_7 rfl rfl ?_
    refine zw_iload_n ok_M_lacks rfl rfl ?_
    refine zw_iald ok_M_lacks rfl rfl (by omega) ?_
    rw [c.1]
    refine zw_iload_n ok_M_lacks rfl rfl ?_
    refine zw_icmp_eq 31 ok_M_lacks rfl (by decide) (by omega) (fun h22 => ?_) (fun h22 => ?_)
    · refine zw_iload_n ok_M_lacks rfl rfl ?_
      refine zw_i2l ok_M_lacks rfl (by omega) ?_
      refine zw_lconst0 ok_M_lacks rfl ?_
      refine zw_aload_n ok_M_lacks rfl rfl ?_
      refine zw_getr ok_M_lacks rfl fl_M_13 rfl rfl ?_
      refine zw_iload_n ok_M_lacks rfl rfl ?_
      refine zw_iald ok_M_lacks rfl rfl (by omega) ?_
      rw [c.2.1]
      refine zw_iconst ok_M_lacks rfl ?_
      refine zw_isub ok_M_lacks rfl ?_
      refine zw_i2l ok_M_lacks rfl (by omega) ?_
      refine zw_Sbp ok_M_lacks rfl ok_M_in lk_M_70 (by decide) rfl (Nat.le_of_ble_eq_true rfl) (ct_M_in (by omega)) ?_
      first | refine zw_ifeq_d 53 ok_M_lacks rfl (by decide) (fun h46 => ?_) (fun h46 => ?_) | refine zw_ifeq_b 53 ok_M_lacks rfl (by decide) (fun h46 => ?_) (fun h46 => ?_) | refine zw_if_eq 53 ok_M_lacks rfl (by decide) (by omega) (fun h46 => ?_) (fun h46 => ?_)
      · have e : shF τ s f i = 2 := by unfold shF; rw [if_neg (by omega), if_neg (fun z => z h22), if_neg (by omega)]
        rw [e]
        refine zw_aload_n ok_M_lacks rfl rfl ?_
        refine zw_iconst ok_M_lacks rfl ?_
        refine zw_Vi ok_M_lacks rfl ok_M_finds lk_M_85 (by decide) rfl rfl (Nat.le_of_ble_eq_true rfl) (ct_M_finds) (fun m55 h55 => ?_)
        exact zw_iret ok_M_lacks rfl rfl (⟨rfl, by first | rfl | exact h55⟩)
      · have e : shF τ s f i = 0 := by unfold shF; rw [if_neg (by omega), if_neg (fun z => z h22), if_pos (by omega)]
        rw [e]
        refine zw_iconst ok_M_lacks rfl ?_
        refine zw_goto 58 ok_M_lacks rfl (by decide) ?_
        exact zw_iret ok_M_lacks rfl rfl (⟨rfl, by first | rfl | exact h55⟩)
    · have e : shF τ s f i = 3 := by unfold shF; rw [if_neg (by omega), if_pos h22]
      rw [e]
      refine zw_aload_n ok_M_lacks rfl rfl ?_
      refine zw_iconst ok_M_lacks rfl ?_
      refine zw_Vi ok_M_lacks rfl ok_M_finds lk_M_85 (by decide) rfl rfl (Nat.le_of_ble_eq_true rfl) (ct_M_finds) (fun m27 h27 => ?_)
      exact zw_iret ok_M_lacks rfl rfl (⟨rfl, h27⟩)
  · have e : shF τ s f i = 1 := by unfold shF; rw [if_pos (by omega)]
    rw [e]
    refine zw_aload_n ok_M_lacks rfl rfl ?_
    refine zw_iconst ok_M_lacks rfl ?_
    refine zw_Vi ok_M_lacks rfl ok_M_finds lk_M_85 (by decide) rfl rfl (Nat.le_of_ble_eq_true rfl) (ct_M_finds) (fun m11 h11 => ?_)
    exact zw_iret ok_M_lacks rfl rfl (⟨rfl, h11⟩)
theorem shF_m {f i : Int} : 0 ≤ shF τ s f i ∧ shF τ s f i ≤ 3 := by unfold shF; (repeat' split) <;> omega
theorem ct_M_lay {f i v : Int} (hI : MI mem τ) (hT : tauI (nLay τ s f i v)) (hs : zR s) (hf : zR f) (hi : zR i) (hv : zR v) : zCi m_M_lay [vr 48, vi s, vi f, vi i, vi v] mem (qLay τ s f i) (fun m2 => MI m2 (nLay τ s f i v) ∧ ref47 mem m2) := by
  refine zCt.of [some (vr 48), some (vi s), some (vi f), some (vi i), some (vi v), none] ok_M_lay (Nat.le_of_ble_eq_true rfl) rfl ?_
  unfold qLay nLay at *
  by_cases hg : (0 ≤ s ∧ s ≤ 3) ∧ (0 ≤ f ∧ f ≤ 2)
  · rw [if_pos hg, if_pos hg]
    rw [if_pos hg] at hT
    have c := shM_at hI hg.1
    have b := shB_m hI hg.1
    have b2 := b.2.1
    have kl := ct_M_lacks hI hg.1 hg.2 hi
    have r := shF_m (τ := τ) (s := s) (f := f) (i := i)
    by_cases h0 : shF τ s f i = 0
    · rw [if_pos h0, if_pos h0]
      rw [if_pos h0] at hT
      rw [if_pos h0, if_pos h0] at kl
      have hq : τ 11 s ≠ -1 ∧ τ 11 s = f ∧ (0 ≤ i ∧ i < τ 12 s) := by
        unfold shF at h0
        by_cases q1 : τ 11 s = -1
        · rw [if_pos q1] at h0; omega
        · rw [if_neg q1] at h0
          by_cases q2 : τ 11 s ≠ f
          · rw [if_pos q2] at h0; omega
          · rw [if_neg q2] at h0
            by_cases q3 : 0 ≤ i ∧ i < τ 12 s
            · exact ⟨q1, by omega, q3⟩
            · rw [if_neg q3] at h0; omega
      have key : MI (zset mem 51 (60 * s + i) (cutS f v)) (zset τ (13 + s.toNat) i (cutS (τ 11 s) v)) ∧ ref47 mem (zset mem 51 (60 * s + i) (cutS f v)) := by
        refine MI_sh1 hI hg.1 hT (mfr.set mfr.rf (by decide) (by decide)) (fun k q => zset_ne (by omega)) (fun j hj => ?_) (fun k q1 q2 => zset_ne q2) (fun j hj => ?_) ⟨?_, ?_, fun z j j0 j1 => ?_⟩
        · rw [zset_ne (show 11 ≠ 13 + s.toNat by omega), zset_ne (show 12 ≠ 13 + s.toNat by omega)]; exact ⟨⟨rfl, rfl⟩, rfl, rfl⟩
        · rw [zset_eq, zupd_ne (by omega)]
        · rw [zset_ne (show 11 ≠ 13 + s.toNat by omega)]; exact c.1
        · rw [zset_ne (show 12 ≠ 13 + s.toNat by omega)]; exact c.2.1
        · rw [zset_ne (show 12 ≠ 13 + s.toNat by omega)] at j1
          rw [zset_eq, zset_eq, hq.2.1]
          by_cases e : j = i
          · subst e; rw [zupd_eq, zupd_eq]
          · rw [zupd_ne (by omega), zupd_ne e]; exact c.2.2 hq.1 j j0 j1
      refine zw_iload_n ok_M_lay rfl rfl ?_
      refine zw_Sbp ok_M_lay rfl ok_M_isSheet lk_M_79 (by decide) rfl (Nat.le_of_ble_eq_true rfl) (ct_M_isSheet (by omega)) ?_
      first | refine zw_ifeq_d 19 ok_M_lay rfl (by decide) (fun h4 => ?_) (fun h4 => ?_) | refine zw_ifeq_b 19 ok_M_lay rfl (by decide) (fun h4 => ?_) (fun h4 => ?_) | refine zw_if_eq 19 ok_M_lay rfl (by decide) (by omega) (fun h4 => ?_) (fun h4 => ?_)
      · exact absurd hg.1 h4
      · refine zw_iload_n ok_M_lay rfl rfl ?_
        refine zw_i2l ok_M_lay rfl (by omega) ?_
        refine zw_lconst0 ok_M_lay rfl ?_
        refine zw_ldc2 ok_M_lay rfl kc_M_83 ?_
        refine zw_Sbp ok_M_lay rfl ok_M_in lk_M_70 (by decide) rfl (Nat.le_of_ble_eq_true rfl) (ct_M_in (by omega)) ?_
        first | refine zw_ifne_d 22 ok_M_lay rfl (by decide) (fun h16 => ?_) (fun h16 => ?_) | refine zw_ifne_b 22 ok_M_lay rfl (by decide) (fun h16 => ?_) (fun h16 => ?_) | refine zw_if_ne 22 ok_M_lay rfl (by decide) (by omega) (fun h16 => ?_) (fun h16 => ?_)
        · refine zw_aload_n ok_M_lay rfl rfl ?_
          refine zw_iload_n ok_M_lay rfl rfl ?_
          refine zw_iload_n ok_M_lay rfl rfl ?_
          refine zw_iload_n ok_M_lay rfl rfl ?_
          refine zw_Vi ok_M_lay rfl ok_M_lacks lk_M_89 (by decide) rfl rfl (Nat.le_of_ble_eq_true rfl) (kl) (fun m26 h26 => ?_)
          subst h26
          refine zw_istore ok_M_lay rfl rfl (by decide) ?_
          refine zw_iload ok_M_lay rfl rfl ?_
          refine zw_if_eq 39 ok_M_lay rfl (by decide) (by omega) (fun h33 => ?_) (fun h33 => ?_)
          · refine zw_aload_n ok_M_lay rfl rfl ?_
            refine zw_getr ok_M_lay rfl fl_M_16 rfl rfl ?_
            refine zw_bipush ok_M_lay rfl (by decide) ?_
            refine zw_iload_n ok_M_lay rfl rfl ?_
            refine zw_imul ok_M_lay rfl ?_
            refine zw_iload_n ok_M_lay rfl rfl ?_
            refine zw_iadd ok_M_lay rfl ?_
            refine zw_iload_n ok_M_lay rfl rfl ?_
            refine zw_iload ok_M_lay rfl rfl ?_
            refine zw_Sip ok_M_lay rfl ok_M_cut lk_M_93 (by decide) rfl (Nat.le_of_ble_eq_true rfl) (ct_M_cut hf) ?_
            refine zw_iast ok_M_lay rfl rfl (by omega) ?_
            refine zw_iconst ok_M_lay rfl ?_
            exact zw_iret ok_M_lay rfl rfl (⟨rfl, key⟩)
          · exfalso; omega
        · exact absurd hg.2 h16
    · rw [if_neg h0, if_neg h0]
      rw [if_neg h0] at hT
      rw [if_neg h0, if_neg h0] at kl
      refine zw_iload_n ok_M_lay rfl rfl ?_
      refine zw_Sbp ok_M_lay rfl ok_M_isSheet lk_M_79 (by decide) rfl (Nat.le_of_ble_eq_true rfl) (ct_M_isSheet (by omega)) ?_
      first | refine zw_ifeq_d 19 ok_M_lay rfl (by decide) (fun h4 => ?_) (fun h4 => ?_) | refine zw_ifeq_b 19 ok_M_lay rfl (by decide) (fun h4 => ?_) (fun h4 => ?_) | refine zw_if_eq 19 ok_M_lay rfl (by decide) (by omega) (fun h4 => ?_) (fun h4 => ?_)
      · exact absurd hg.1 h4
      · refine zw_iload_n ok_M_lay rfl rfl ?_
        refine zw_i2l ok_M_lay rfl (by omega) ?_
        refine zw_lconst0 ok_M_lay rfl ?_
        refine zw_ldc2 ok_M_lay rfl kc_M_83 ?_
        refine zw_Sbp ok_M_lay rfl ok_M_in lk_M_70 (by decide) rfl (Nat.le_of_ble_eq_true rfl) (ct_M_in (by omega)) ?_
        first | refine zw_ifne_d 22 ok_M_lay rfl (by decide) (fun h16 => ?_) (fun h16 => ?_) | refine zw_ifne_b 22 ok_M_lay rfl (by decide) (fun h16 => ?_) (fun h16 => ?_) | refine zw_if_ne 22 ok_M_lay rfl (by decide) (by omega) (fun h16 => ?_) (fun h16 => ?_)
        · refine zw_aload_n ok_M_lay rfl rfl ?_
          refine zw_iload_n ok_M_lay rfl rfl ?_
          refine zw_iload_n ok_M_lay rfl rfl ?_
          refine zw_iload_n ok_M_lay rfl rfl ?_
          refine zw_Vi ok_M_lay rfl ok_M_lacks lk_M_89 (by decide) rfl rfl (Nat.le_of_ble_eq_true rfl) (kl) (fun m26 h26 => ?_)
          subst h26
          refine zw_istore ok_M_lay rfl rfl (by decide) ?_
          refine zw_iload ok_M_lay rfl rfl ?_
          refine zw_if_eq 39 ok_M_lay rfl (by decide) (by omega) (fun h33 => ?_) (fun h33 => ?_)
          · exfalso; omega
          · refine zw_iload ok_M_lay rfl rfl ?_
            exact zw_iret ok_M_lay rfl rfl (⟨rfl, MI_fnd hI hT⟩)
        · exact absurd hg.2 h16
  · rw [if_neg hg, if_neg hg]
    refine zw_iload_n ok_M_lay rfl rfl ?_
    refine zw_Sbp ok_M_lay rfl ok_M_isSheet lk_M_79 (by decide) rfl (Nat.le_of_ble_eq_true rfl) (ct_M_isSheet (by omega)) ?_
    first | refine zw_ifeq_d 19 ok_M_lay rfl (by decide) (fun h4 => ?_) (fun h4 => ?_) | refine zw_ifeq_b 19 ok_M_lay rfl (by decide) (fun h4 => ?_) (fun h4 => ?_) | refine zw_if_eq 19 ok_M_lay rfl (by decide) (by omega) (fun h4 => ?_) (fun h4 => ?_)
    · refine zw_bipush ok_M_lay rfl (by decide) ?_
      exact zw_iret ok_M_lay rfl rfl (⟨rfl, hI, r47_rf⟩)
    · refine zw_iload_n ok_M_lay rfl rfl ?_
      refine zw_i2l ok_M_lay rfl (by omega) ?_
      refine zw_lconst0 ok_M_lay rfl ?_
      refine zw_ldc2 ok_M_lay rfl kc_M_83 ?_
      refine zw_Sbp ok_M_lay rfl ok_M_in lk_M_70 (by decide) rfl (Nat.le_of_ble_eq_true rfl) (ct_M_in (by omega)) ?_
      first | refine zw_ifne_d 22 ok_M_lay rfl (by decide) (fun h16 => ?_) (fun h16 => ?_) | refine zw_ifne_b 22 ok_M_lay rfl (by decide) (fun h16 => ?_) (fun h16 => ?_) | refine zw_if_ne 22 ok_M_lay rfl (by decide) (by omega) (fun h16 => ?_) (fun h16 => ?_)
      · exact absurd ⟨h4, h16⟩ hg
      · refine zw_bipush ok_M_lay rfl (by decide) ?_
        exact zw_iret ok_M_lay rfl rfl (⟨rfl, hI, r47_rf⟩)
theorem ct_M_get {f i : Int} (hI : MI mem τ) (hT : tauI (nGet τ s f i)) (hs : zR s) (hf : zR f) (hi : zR i) : zCi m_M_get [vr 48, vi s, vi f, vi i] mem (qGet τ s f i) (fun m2 => MI m2 (nGet τ s f i) ∧ ref47 mem m2) := by
  refine zCt.of [some (vr 48), some (vi s), some (vi f), some (vi i)] ok_M_get (Nat.le_of_ble_eq_true rfl) rfl ?_
  unfold qGet nGet at *
  by_cases hg : (0 ≤ s ∧ s ≤ 3) ∧ (0 ≤ f ∧ f ≤ 2)
  · rw [if_pos hg, if_pos hg]
    rw [if_pos hg] at hT
    have c := shM_at hI hg.1
    have b := shB_m hI hg.1
    have b2 := b.2.1
    have kl := ct_M_lacks hI hg.1 hg.2 hi
    have r := shF_m (τ := τ) (s := s) (f := f) (i := i)
    by_cases h0 : shF τ s f i = 0
    · rw [if_pos h0, if_pos h0]
      rw [if_pos h0, if_pos h0] at kl
      have hq : τ 11 s ≠ -1 ∧ τ 11 s = f ∧ (0 ≤ i ∧ i < τ 12 s) := by
        unfold shF at h0
        by_cases q1 : τ 11 s = -1
        · rw [if_pos q1] at h0; omega
        · rw [if_neg q1] at h0
          by_cases q2 : τ 11 s ≠ f
          · rw [if_pos q2] at h0; omega
          · rw [if_neg q2] at h0
            by_cases q3 : 0 ≤ i ∧ i < τ 12 s
            · exact ⟨q1, by omega, q3⟩
            · rw [if_neg q3] at h0; omega
      refine zw_iload_n ok_M_get rfl rfl ?_
      refine zw_Sbp ok_M_get rfl ok_M_isSheet lk_M_79 (by decide) rfl (Nat.le_of_ble_eq_true rfl) (ct_M_isSheet (by omega)) ?_
      first | refine zw_ifeq_d 29 ok_M_get rfl (by decide) (fun h4 => ?_) (fun h4 => ?_) | refine zw_ifeq_b 29 ok_M_get rfl (by decide) (fun h4 => ?_) (fun h4 => ?_) | refine zw_if_eq 29 ok_M_get rfl (by decide) (by omega) (fun h4 => ?_) (fun h4 => ?_)
      · exact absurd hg.1 h4
      · refine zw_iload_n ok_M_get rfl rfl ?_
        refine zw_i2l ok_M_get rfl (by omega) ?_
        refine zw_lconst0 ok_M_get rfl ?_
        refine zw_ldc2 ok_M_get rfl kc_M_83 ?_
        refine zw_Sbp ok_M_get rfl ok_M_in lk_M_70 (by decide) rfl (Nat.le_of_ble_eq_true rfl) (ct_M_in (by omega)) ?_
        first | refine zw_ifeq_d 29 ok_M_get rfl (by decide) (fun h16 => ?_) (fun h16 => ?_) | refine zw_ifeq_b 29 ok_M_get rfl (by decide) (fun h16 => ?_) (fun h16 => ?_) | refine zw_if_eq 29 ok_M_get rfl (by decide) (by omega) (fun h16 => ?_) (fun h16 => ?_)
        · exact absurd hg.2 h16
        · refine zw_aload_n ok_M_get rfl rfl ?_
          refine zw_iload_n ok_M_get rfl rfl ?_
          refine zw_iload_n ok_M_get rfl rfl ?_
          refine zw_iload_n ok_M_get rfl rfl ?_
          refine zw_Vi ok_M_get rfl ok_M_lacks lk_M_89 (by decide) rfl rfl (Nat.le_of_ble_eq_true rfl) (kl) (fun m23 h23 => ?_)
          subst h23
          refine zw_if_eq 32 ok_M_get rfl (by decide) (by omega) (fun h26 => ?_) (fun h26 => ?_)
          · refine zw_aload_n ok_M_get rfl rfl ?_
            refine zw_getr ok_M_get rfl fl_M_16 rfl rfl ?_
            refine zw_bipush ok_M_get rfl (by decide) ?_
            refine zw_iload_n ok_M_get rfl rfl ?_
            refine zw_imul ok_M_get rfl ?_
            refine zw_iload_n ok_M_get rfl rfl ?_
            refine zw_iadd ok_M_get rfl ?_
            refine zw_iald ok_M_get rfl rfl (by omega) ?_
            exact zw_iret ok_M_get rfl rfl (⟨by rw [c.2.2 hq.1 i hq.2.2.1 hq.2.2.2], hI, r47_rf⟩)
          · exfalso; omega
    · rw [if_neg h0, if_neg h0]
      rw [if_neg h0] at hT
      rw [if_neg h0, if_neg h0] at kl
      refine zw_iload_n ok_M_get rfl rfl ?_
      refine zw_Sbp ok_M_get rfl ok_M_isSheet lk_M_79 (by decide) rfl (Nat.le_of_ble_eq_true rfl) (ct_M_isSheet (by omega)) ?_
      first | refine zw_ifeq_d 29 ok_M_get rfl (by decide) (fun h4 => ?_) (fun h4 => ?_) | refine zw_ifeq_b 29 ok_M_get rfl (by decide) (fun h4 => ?_) (fun h4 => ?_) | refine zw_if_eq 29 ok_M_get rfl (by decide) (by omega) (fun h4 => ?_) (fun h4 => ?_)
      · exact absurd hg.1 h4
      · refine zw_iload_n ok_M_get rfl rfl ?_
        refine zw_i2l ok_M_get rfl (by omega) ?_
        refine zw_lconst0 ok_M_get rfl ?_
        refine zw_ldc2 ok_M_get rfl kc_M_83 ?_
        refine zw_Sbp ok_M_get rfl ok_M_in lk_M_70 (by decide) rfl (Nat.le_of_ble_eq_true rfl) (ct_M_in (by omega)) ?_
        first | refine zw_ifeq_d 29 ok_M_get rfl (by decide) (fun h16 => ?_) (fun h16 => ?_) | refine zw_ifeq_b 29 ok_M_get rfl (by decide) (fun h16 => ?_) (fun h16 => ?_) | refine zw_if_eq 29 ok_M_get rfl (by decide) (by omega) (fun h16 => ?_) (fun h16 => ?_)
        · exact absurd hg.2 h16
        · refine zw_aload_n ok_M_get rfl rfl ?_
          refine zw_iload_n ok_M_get rfl rfl ?_
          refine zw_iload_n ok_M_get rfl rfl ?_
          refine zw_iload_n ok_M_get rfl rfl ?_
          refine zw_Vi ok_M_get rfl ok_M_lacks lk_M_89 (by decide) rfl rfl (Nat.le_of_ble_eq_true rfl) (kl) (fun m23 h23 => ?_)
          subst h23
          refine zw_if_eq 32 ok_M_get rfl (by decide) (by omega) (fun h26 => ?_) (fun h26 => ?_)
          · exfalso; omega
          · refine zw_ldc ok_M_get rfl kc_M_97 ?_
            exact zw_iret ok_M_get rfl rfl (⟨rfl, MI_fnd hI hT⟩)
  · rw [if_neg hg, if_neg hg]
    refine zw_iload_n ok_M_get rfl rfl ?_
    refine zw_Sbp ok_M_get rfl ok_M_isSheet lk_M_79 (by decide) rfl (Nat.le_of_ble_eq_true rfl) (ct_M_isSheet (by omega)) ?_
    first | refine zw_ifeq_d 29 ok_M_get rfl (by decide) (fun h4 => ?_) (fun h4 => ?_) | refine zw_ifeq_b 29 ok_M_get rfl (by decide) (fun h4 => ?_) (fun h4 => ?_) | refine zw_if_eq 29 ok_M_get rfl (by decide) (by omega) (fun h4 => ?_) (fun h4 => ?_)
    · refine zw_ldc ok_M_get rfl kc_M_97 ?_
      exact zw_iret ok_M_get rfl rfl (⟨rfl, hI, r47_rf⟩)
    · refine zw_iload_n ok_M_get rfl rfl ?_
      refine zw_i2l ok_M_get rfl (by omega) ?_
      refine zw_lconst0 ok_M_get rfl ?_
      refine zw_ldc2 ok_M_get rfl kc_M_83 ?_
      refine zw_Sbp ok_M_get rfl ok_M_in lk_M_70 (by decide) rfl (Nat.le_of_ble_eq_true rfl) (ct_M_in (by omega)) ?_
      first | refine zw_ifeq_d 29 ok_M_get rfl (by decide) (fun h16 => ?_) (fun h16 => ?_) | refine zw_ifeq_b 29 ok_M_get rfl (by decide) (fun h16 => ?_) (fun h16 => ?_) | refine zw_if_eq 29 ok_M_get rfl (by decide) (by omega) (fun h16 => ?_) (fun h16 => ?_)
      · refine zw_ldc ok_M_get rfl kc_M_97 ?_
        exact zw_iret ok_M_get rfl rfl (⟨rfl, hI, r47_rf⟩)
      · exact absurd ⟨h4, h16⟩ hg
end
