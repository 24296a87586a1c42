/-! ===== the reference: type, wipe, undo, fault, person, street ===== -/
def shM (mem τ : zMem) : Prop := ∀ s, 0 ≤ s → s ≤ 3 → mem 49 s = τ 11 s ∧ mem 50 s = τ 12 s ∧ (τ 11 s ≠ -1 → ∀ i, 0 ≤ i → i < τ 12 s → mem 51 (60 * s + i) = τ (13 + s.toNat) i)
section
variable {mem m2 τ τ2 : zMem} {Q : Option zVal → zMem → Prop}
theorem shM_of (h : shM mem τ) (h49 : m2 49 = mem 49) (h50 : m2 50 = mem 50) (h51 : m2 51 = mem 51) (ht : ∀ k, 11 ≤ k → τ2 k = τ k) : shM m2 τ2 := by
  intro s q1 q2
  rw [h49, h50, h51, ht 11 (by omega), ht 12 (by omega), ht (13 + s.toNat) (by omega)]
  exact h s q1 q2
theorem MI_txt (hI : MI mem τ) (hT : tauI τ2) (hm : ∀ k, k ≠ 53 → k ≠ 54 → m2 k = mem k) (ht : ∀ k, 3 ≤ k → τ2 k = τ k) (h2 : ∀ j, 2 ≤ j → τ2 2 j = τ 2 j) (hx : (m2 54 0 = τ2 2 0 ∧ m2 54 1 = τ2 2 1) ∧ (∀ i, 0 ≤ i → i < τ2 2 0 → m2 53 i = τ2 0 i) ∧ (∀ i, 0 ≤ i → i < τ2 2 1 → m2 53 (72 + i) = τ2 1 i)) : MI m2 τ2 := by
  obtain ⟨-, -, hc, ho, hu, hs, hf, hsh⟩ := hI
  refine ⟨hT, hx, ?_, ?_, ?_, ?_, ?_, shM_of hsh (hm 49 (by decide) (by decide)) (hm 50 (by decide) (by decide)) (hm 51 (by decide) (by decide)) (fun k hk => ht k (by omega))⟩
  · rw [hm 48 (by decide) (by decide), h2 2 (by decide), h2 3 (by decide), h2 4 (by decide), h2 5 (by decide)]; exact hc
  · rw [hm 57 (by decide) (by decide), h2 2 (by decide), ht 3 (by decide), ht 4 (by decide), ht 5 (by decide)]; exact ho
  · rw [hm 58 (by decide) (by decide), h2 3 (by decide), ht 6 (by decide), ht 7 (by decide)]; exact hu
  · rw [hm 64 (by decide) (by decide), h2 4 (by decide), ht 8 (by decide), ht 9 (by decide), ht 10 (by decide)]; exact hs
  · rw [hm 48 (by decide) (by decide)]; exact hf
theorem typ_k {t b : Int} (ht : t = 0 ∨ t = 1) : (∀ k, 3 ≤ k → typT τ t b k = τ k) ∧ ∀ j, 2 ≤ j → typT τ t b 2 j = τ 2 j := by
  rcases ht with rfl | rfl
  · refine ⟨fun k hk => ?_, fun j hj => ?_⟩
    · unfold typT; rw [zset_ne (by omega), zset_ne (show k ≠ Int.toNat 0 by simp; omega)]
    · show zupd (τ 2) 0 (τ 2 0 + 1) j = τ 2 j
      exact zupd_ne (by omega)
  · refine ⟨fun k hk => ?_, fun j hj => ?_⟩
    · unfold typT; rw [zset_ne (by omega), zset_ne (show k ≠ Int.toNat 1 by simp; omega)]
    · show zupd (τ 2) 1 (τ 2 1 + 1) j = τ 2 j
      exact zupd_ne (by omega)
theorem MI_typ0 {b : Int} (hI : MI mem τ) (hT : tauI (typT τ 0 b)) (hc : τ 2 0 < 39) : MI (zset (zset mem 53 (72 * 0 + mem 54 0) b) 54 0 (mem 54 0 + 1)) (typT τ 0 b) := by
  have b2 := hI.1.1
  have t0 := hI.2.1.1.1
  have t1 := hI.2.1.1.2
  have b0 := hI.2.1.2.1
  have b1 := hI.2.1.2.2
  refine MI_txt hI hT (fun k q1 q2 => by rw [zset_ne q2, zset_ne q1]) (typ_k (Or.inl rfl)).1 (typ_k (Or.inl rfl)).2 ⟨⟨?_, t1⟩, fun i q1 q2 => ?_, fun i q1 q2 => ?_⟩
  · show mem 54 0 + 1 = τ 2 0 + 1; rw [t0]
  · have q2 : i < τ 2 0 + 1 := q2
    show zupd (mem 53) (72 * 0 + mem 54 0) b i = zupd (τ 0) (τ 2 0) b i
    rw [t0, show 72 * 0 + τ 2 0 = τ 2 0 by omega]
    by_cases e : i = τ 2 0
    · subst e; rw [zupd_eq, zupd_eq]
    · rw [zupd_ne e, zupd_ne e]; exact b0 i q1 (by omega)
  · have q2 : i < τ 2 1 := q2
    show zupd (mem 53) (72 * 0 + mem 54 0) b (72 + i) = τ 1 i
    rw [t0, zupd_ne (by omega)]; exact b1 i q1 q2
theorem MI_typ1 {b : Int} (hI : MI mem τ) (hT : tauI (typT τ 1 b)) : MI (zset (zset mem 53 (72 * 1 + mem 54 1) b) 54 1 (mem 54 1 + 1)) (typT τ 1 b) := by
  have b2 := hI.1.1
  have t0 := hI.2.1.1.1
  have t1 := hI.2.1.1.2
  have b0 := hI.2.1.2.1
  have b1 := hI.2.1.2.2
  refine MI_txt hI hT (fun k q1 q2 => by rw [zset_ne q2, zset_ne q1]) (typ_k (Or.inr rfl)).1 (typ_k (Or.inr rfl)).2 ⟨⟨t0, ?_⟩, fun i q1 q2 => ?_, fun i q1 q2 => ?_⟩
  · show mem 54 1 + 1 = τ 2 1 + 1; rw [t1]
  · have q2 : i < τ 2 0 := q2
    show zupd (mem 53) (72 * 1 + mem 54 1) b i = τ 0 i
    rw [t1, zupd_ne (by omega)]; exact b0 i q1 q2
  · have q2 : i < τ 2 1 + 1 := q2
    show zupd (mem 53) (72 * 1 + mem 54 1) b (72 + i) = zupd (τ 1) (τ 2 1) b i
    rw [t1]
    by_cases e : i = τ 2 1
    · subst e; rw [show 72 * 1 + τ 2 1 = 72 + τ 2 1 by omega, zupd_eq, zupd_eq]
    · rw [zupd_ne (by omega), zupd_ne e]; exact b1 i q1 (by omega)
theorem MI_siz {t n : Int} (hI : MI mem τ) (ht : t = 0 ∨ t = 1) (hT : tauI (sizT τ t n)) (hn : n ≤ τ 2 t) : MI (zset mem 54 t n) (sizT τ t n) := by
  have t0 := hI.2.1.1.1
  have t1 := hI.2.1.1.2
  have b0 := hI.2.1.2.1
  have b1 := hI.2.1.2.2
  refine MI_txt hI hT (fun k q1 q2 => zset_ne q2) (fun k hk => zset_ne (by omega)) (fun j hj => zupd_ne (by omega)) ?_
  rcases ht with rfl | rfl
  · exact ⟨⟨rfl, t1⟩, fun i q1 q2 => b0 i q1 (by have q2 : i < n := q2; omega), b1⟩
  · exact ⟨⟨t0, rfl⟩, b0, fun i q1 q2 => b1 i q1 (by have q2 : i < n := q2; omega)⟩
theorem r47_set {k : Nat} {i v : Int} (hk : 48 ≤ k) : ref47 mem (zset mem k i v) := fun q hq => zset_ne (by omega)
theorem r47_rf : ref47 mem mem := fun _ _ => rfl
theorem ct_M_type {t b : Int} (hI : MI mem τ) (hT : tauI (nType τ t b)) (ht : zR t) (hb : zR b) : zCi m_M_type [vr 48, vi t, vi b] mem (qType τ t b) (fun m2 => MI m2 (nType τ t b) ∧ ref47 mem m2) := by
  refine zCt.of [some (vr 48), some (vi t), some (vi b)] ok_M_type (Nat.le_of_ble_eq_true rfl) rfl ?_
  have b2 := hI.1.1
  have t0 := hI.2.1.1.1
  have t1 := hI.2.1.1.2
  unfold qType nType at *
  by_cases hg : (0 ≤ t ∧ t ≤ 1) ∧ (0 ≤ b ∧ b ≤ 255)
  · rw [if_pos hg]
    have : t = 0 ∨ t = 1 := by omega
    rcases this with rfl | rfl
    · rw [show cap 0 = 39 from rfl] at *
      by_cases hc : τ 2 0 < 39
      · rw [if_pos hc, if_pos ⟨hg, hc⟩]
        rw [if_pos ⟨hg, hc⟩] at hT
        have key := MI_typ0 hI hT hc
        refine zw_iload_n ok_M_type rfl rfl ?_
        refine zw_Sbp ok_M_type rfl ok_M_isTwo lk_M_98 (by decide) rfl (Nat.le_of_ble_eq_true rfl) (ct_M_isTwo (by omega)) ?_
        first | refine zw_ifeq_d 19 ok_M_type rfl (by decide) (fun h4 => ?_) (fun h4 => ?_) | refine zw_ifeq_b 19 ok_M_type rfl (by decide) (fun h4 => ?_) (fun h4 => ?_) | refine zw_if_eq 19 ok_M_type rfl (by decide) (by omega) (fun h4 => ?_) (fun h4 => ?_)
        · exact absurd hg.1 h4
        · refine zw_iload_n ok_M_type rfl rfl ?_
          refine zw_i2l ok_M_type rfl (by omega) ?_
          refine zw_lconst0 ok_M_type rfl ?_
          refine zw_ldc2 ok_M_type rfl kc_M_101 ?_
          refine zw_Sbp ok_M_type rfl ok_M_in lk_M_70 (by decide) rfl (Nat.le_of_ble_eq_true rfl) (ct_M_in (by omega)) ?_
          first | refine zw_ifne_d 22 ok_M_type rfl (by decide) (fun h16 => ?_) (fun h16 => ?_) | refine zw_ifne_b 22 ok_M_type rfl (by decide) (fun h16 => ?_) (fun h16 => ?_) | refine zw_if_ne 22 ok_M_type rfl (by decide) (by omega) (fun h16 => ?_) (fun h16 => ?_)
          · refine zw_aload_n ok_M_type rfl rfl ?_
            refine zw_getr ok_M_type rfl fl_M_25 rfl rfl ?_
            refine zw_iload_n ok_M_type rfl rfl ?_
            refine zw_iald ok_M_type rfl rfl (by omega) ?_
            refine zw_iload_n ok_M_type rfl rfl ?_
            refine zw_if_ne 37 ok_M_type rfl (by decide) (by omega) (fun h29 => ?_) (fun h29 => ?_)
            · exfalso; omega
            · refine zw_bipush ok_M_type rfl (by decide) ?_
              refine zw_goto 39 ok_M_type rfl (by decide) ?_
              refine zw_icmp_ne 45 ok_M_type rfl (by decide) (by omega) (fun h39 => ?_) (fun h39 => ?_)
              · refine zw_aload_n ok_M_type rfl rfl ?_
                refine zw_getr ok_M_type rfl fl_M_22 rfl rfl ?_
                refine zw_bipush ok_M_type rfl (by decide) ?_
                refine zw_iload_n ok_M_type rfl rfl ?_
                refine zw_imul ok_M_type rfl ?_
                refine zw_aload_n ok_M_type rfl rfl ?_
                refine zw_getr ok_M_type rfl fl_M_25 rfl rfl ?_
                refine zw_iload_n ok_M_type rfl rfl ?_
                refine zw_iald ok_M_type rfl rfl (by omega) ?_
                refine zw_iadd ok_M_type rfl ?_
                refine zw_iload_n ok_M_type rfl rfl ?_
                refine zw_iast ok_M_type rfl rfl (by omega) ?_
                refine zw_aload_n ok_M_type rfl rfl ?_
                refine zw_getr ok_M_type rfl fl_M_25 rfl rfl ?_
                refine zw_iload_n ok_M_type rfl rfl ?_
                refine zw_dup2 ok_M_type rfl ?_
                refine zw_iald ok_M_type rfl rfl (by omega) ?_
                rw [zset_ne (show (54 : Nat) ≠ 53 by decide)]
                refine zw_iconst ok_M_type rfl ?_
                refine zw_iadd ok_M_type rfl ?_
                refine zw_iast ok_M_type rfl rfl (by omega) ?_
                refine zw_aload_n ok_M_type rfl rfl ?_
                refine zw_getr ok_M_type rfl fl_M_25 rfl rfl ?_
                refine zw_iload_n ok_M_type rfl rfl ?_
                refine zw_iald ok_M_type rfl rfl (by omega) ?_
                rw [zset_eq, zupd_eq]
                exact zw_iret ok_M_type rfl rfl (⟨by rw [t0], key, (r47_set (by decide)).tr (r47_set (by decide))⟩)
              · exfalso; omega
          · exact absurd hg.2 h16
      · rw [if_neg hc, if_neg (fun z => hc z.2)]
        refine zw_iload_n ok_M_type rfl rfl ?_
        refine zw_Sbp ok_M_type rfl ok_M_isTwo lk_M_98 (by decide) rfl (Nat.le_of_ble_eq_true rfl) (ct_M_isTwo (by omega)) ?_
        first | refine zw_ifeq_d 19 ok_M_type rfl (by decide) (fun h4 => ?_) (fun h4 => ?_) | refine zw_ifeq_b 19 ok_M_type rfl (by decide) (fun h4 => ?_) (fun h4 => ?_) | refine zw_if_eq 19 ok_M_type rfl (by decide) (by omega) (fun h4 => ?_) (fun h4 => ?_)
        · exact absurd hg.1 h4
        · refine zw_iload_n ok_M_type rfl rfl ?_
          refine zw_i2l ok_M_type rfl (by omega) ?_
          refine zw_lconst0 ok_M_type rfl ?_
          refine zw_ldc2 ok_M_type rfl kc_M_101 ?_
          refine zw_Sbp ok_M_type rfl ok_M_in lk_M_70 (by decide) rfl (Nat.le_of_ble_eq_true rfl) (ct_M_in (by omega)) ?_
          first | refine zw_ifne_d 22 ok_M_type rfl (by decide) (fun h16 => ?_) (fun h16 => ?_) | refine zw_ifne_b 22 ok_M_type rfl (by decide) (fun h16 => ?_) (fun h16 => ?_) | refine zw_if_ne 22 ok_M_type rfl (by decide) (by omega) (fun h16 => ?_) (fun h16 => ?_)
          · refine zw_aload_n ok_M_type rfl rfl ?_
            refine zw_getr ok_M_type rfl fl_M_25 rfl rfl ?_
            refine zw_iload_n ok_M_type rfl rfl ?_
            refine zw_iald ok_M_type rfl rfl (by omega) ?_
            refine zw_iload_n ok_M_type rfl rfl ?_
            refine zw_if_ne 37 ok_M_type rfl (by decide) (by omega) (fun h29 => ?_) (fun h29 => ?_)
            · exfalso; omega
            · refine zw_bipush ok_M_type rfl (by decide) ?_
              refine zw_goto 39 ok_M_type rfl (by decide) ?_
              refine zw_icmp_ne 45 ok_M_type rfl (by decide) (by omega) (fun h39 => ?_) (fun h39 => ?_)
              · exfalso; omega
              · refine zw_bipush ok_M_type rfl (by decide) ?_
                exact zw_iret ok_M_type rfl rfl (⟨rfl, hI, r47_rf⟩)
          · exact absurd hg.2 h16
    · rw [show cap 1 = 71 from rfl] at *
      by_cases hc : τ 2 1 < 71
      · rw [if_pos hc, if_pos ⟨hg, hc⟩]
        rw [if_pos ⟨hg, hc⟩] at hT
        have key := MI_typ1 hI hT
        refine zw_iload_n ok_M_type rfl rfl ?_
        refine zw_Sbp ok_M_type rfl ok_M_isTwo lk_M_98 (by decide) rfl (Nat.le_of_ble_eq_true rfl) (ct_M_isTwo (by omega)) ?_
        first | refine zw_ifeq_d 19 ok_M_type rfl (by decide) (fun h4 => ?_) (fun h4 => ?_) | refine zw_ifeq_b 19 ok_M_type rfl (by decide) (fun h4 => ?_) (fun h4 => ?_) | refine zw_if_eq 19 ok_M_type rfl (by decide) (by omega) (fun h4 => ?_) (fun h4 => ?_)
        · exact absurd hg.1 h4
        · refine zw_iload_n ok_M_type rfl rfl ?_
          refine zw_i2l ok_M_type rfl (by omega) ?_
          refine zw_lconst0 ok_M_type rfl ?_
          refine zw_ldc2 ok_M_type rfl kc_M_101 ?_
          refine zw_Sbp ok_M_type rfl ok_M_in lk_M_70 (by decide) rfl (Nat.le_of_ble_eq_true rfl) (ct_M_in (by omega)) ?_
          first | refine zw_ifne_d 22 ok_M_type rfl (by decide) (fun h16 => ?_) (fun h16 => ?_) | refine zw_ifne_b 22 ok_M_type rfl (by decide) (fun h16 => ?_) (fun h16 => ?_) | refine zw_if_ne 22 ok_M_type rfl (by decide) (by omega) (fun h16 => ?_) (fun h16 => ?_)
          · refine zw_aload_n ok_M_type rfl rfl ?_
            refine zw_getr ok_M_type rfl fl_M_25 rfl rfl ?_
            refine zw_iload_n ok_M_type rfl rfl ?_
            refine zw_iald ok_M_type rfl rfl (by omega) ?_
            refine zw_iload_n ok_M_type rfl rfl ?_
            refine zw_if_ne 37 ok_M_type rfl (by decide) (by omega) (fun h29 => ?_) (fun h29 => ?_)
            · refine zw_bipush ok_M_type rfl (by decide) ?_
              refine zw_icmp_ne 45 ok_M_type rfl (by decide) (by omega) (fun h39 => ?_) (fun h39 => ?_)
              · refine zw_aload_n ok_M_type rfl rfl ?_
                refine zw_getr ok_M_type rfl fl_M_22 rfl rfl ?_
                refine zw_bipush ok_M_type rfl (by decide) ?_
                refine zw_iload_n ok_M_type rfl rfl ?_
                refine zw_imul ok_M_type rfl ?_
                refine zw_aload_n ok_M_type rfl rfl ?_
                refine zw_getr ok_M_type rfl fl_M_25 rfl rfl ?_
                refine zw_iload_n ok_M_type rfl rfl ?_
                refine zw_iald ok_M_type rfl rfl (by omega) ?_
                refine zw_iadd ok_M_type rfl ?_
                refine zw_iload_n ok_M_type rfl rfl ?_
                refine zw_iast ok_M_type rfl rfl (by omega) ?_
                refine zw_aload_n ok_M_type rfl rfl ?_
                refine zw_getr ok_M_type rfl fl_M_25 rfl rfl ?_
                refine zw_iload_n ok_M_type rfl rfl ?_
                refine zw_dup2 ok_M_type rfl ?_
                refine zw_iald ok_M_type rfl rfl (by omega) ?_
                rw [zset_ne (show (54 : Nat) ≠ 53 by decide)]
                refine zw_iconst ok_M_type rfl ?_
                refine zw_iadd ok_M_type rfl ?_
                refine zw_iast ok_M_type rfl rfl (by omega) ?_
                refine zw_aload_n ok_M_type rfl rfl ?_
                refine zw_getr ok_M_type rfl fl_M_25 rfl rfl ?_
                refine zw_iload_n ok_M_type rfl rfl ?_
                refine zw_iald ok_M_type rfl rfl (by omega) ?_
                rw [zset_eq, zupd_eq]
                exact zw_iret ok_M_type rfl rfl (⟨by rw [t1], key, (r47_set (by decide)).tr (r47_set (by decide))⟩)
              · exfalso; omega
            · exfalso; omega
          · exact absurd hg.2 h16
      · rw [if_neg hc, if_neg (fun z => hc z.2)]
        refine zw_iload_n ok_M_type rfl rfl ?_
        refine zw_Sbp ok_M_type rfl ok_M_isTwo lk_M_98 (by decide) rfl (Nat.le_of_ble_eq_true rfl) (ct_M_isTwo (by omega)) ?_
        first | refine zw_ifeq_d 19 ok_M_type rfl (by decide) (fun h4 => ?_) (fun h4 => ?_) | refine zw_ifeq_b 19 ok_M_type rfl (by decide) (fun h4 => ?_) (fun h4 => ?_) | refine zw_if_eq 19 ok_M_type rfl (by decide) (by omega) (fun h4 => ?_) (fun h4 => ?_)
        · exact absurd hg.1 h4
        · refine zw_iload_n ok_M_type rfl rfl ?_
          refine zw_i2l ok_M_type rfl (by omega) ?_
          refine zw_lconst0 ok_M_type rfl ?_
          refine zw_ldc2 ok_M_type rfl kc_M_101 ?_
          refine zw_Sbp ok_M_type rfl ok_M_in lk_M_70 (by decide) rfl (Nat.le_of_ble_eq_true rfl) (ct_M_in (by omega)) ?_
          first | refine zw_ifne_d 22 ok_M_type rfl (by decide) (fun h16 => ?_) (fun h16 => ?_) | refine zw_ifne_b 22 ok_M_type rfl (by decide) (fun h16 => ?_) (fun h16 => ?_) | refine zw_if_ne 22 ok_M_type rfl (by decide) (by omega) (fun h16 => ?_) (fun h16 => ?_)
          · refine zw_aload_n ok_M_type rfl rfl ?_
            refine zw_getr ok_M_type rfl fl_M_25 rfl rfl ?_
            refine zw_iload_n ok_M_type rfl rfl ?_
            refine zw_iald ok_M_type rfl rfl (by omega) ?_
            refine zw_iload_n ok_M_type rfl rfl ?_
            refine zw_if_ne 37 ok_M_type rfl (by decide) (by omega) (fun h29 => ?_) (fun h29 => ?_)
            · refine zw_bipush ok_M_type rfl (by decide) ?_
              refine zw_icmp_ne 45 ok_M_type rfl (by decide) (by omega) (fun h39 => ?_) (fun h39 => ?_)
              · exfalso; omega
              · refine zw_bipush ok_M_type rfl (by decide) ?_
                exact zw_iret ok_M_type rfl rfl (⟨rfl, hI, r47_rf⟩)
            · exfalso; omega
          · exact absurd hg.2 h16
  · rw [if_neg hg, if_neg (fun z => hg z.1)]
    refine zw_iload_n ok_M_type rfl rfl ?_
    refine zw_Sbp ok_M_type rfl ok_M_isTwo lk_M_98 (by decide) rfl (Nat.le_of_ble_eq_true rfl) (ct_M_isTwo (by omega)) ?_
    first | refine zw_ifeq_d 19 ok_M_type rfl (by decide) (fun h4 => ?_) (fun h4 => ?_) | refine zw_ifeq_b 19 ok_M_type rfl (by decide) (fun h4 => ?_) (fun h4 => ?_) | refine zw_if_eq 19 ok_M_type rfl (by decide) (by omega) (fun h4 => ?_) (fun h4 => ?_)
    · refine zw_bipush ok_M_type rfl (by decide) ?_
      exact zw_iret ok_M_type rfl rfl (⟨rfl, hI, r47_rf⟩)
    · refine zw_iload_n ok_M_type rfl rfl ?_
      refine zw_i2l ok_M_type rfl (by omega) ?_
      refine zw_lconst0 ok_M_type rfl ?_
      refine zw_ldc2 ok_M_type rfl kc_M_101 ?_
      refine zw_Sbp ok_M_type rfl ok_M_in lk_M_70 (by decide) rfl (Nat.le_of_ble_eq_true rfl) (ct_M_in (by omega)) ?_
      first | refine zw_ifne_d 22 ok_M_type rfl (by decide) (fun h16 => ?_) (fun h16 => ?_) | refine zw_ifne_b 22 ok_M_type rfl (by decide) (fun h16 => ?_) (fun h16 => ?_) | refine zw_if_ne 22 ok_M_type rfl (by decide) (by omega) (fun h16 => ?_) (fun h16 => ?_)
      · exact absurd ⟨h4, h16⟩ hg
      · refine zw_bipush ok_M_type rfl (by decide) ?_
        exact zw_iret ok_M_type rfl rfl (⟨rfl, hI, r47_rf⟩)
theorem e54_t {t : Int} (hI : MI mem τ) (ht : t = 0 ∨ t = 1) : mem 54 t = τ 2 t ∧ 0 ≤ τ 2 t ∧ τ 2 t ≤ 71 := by
  have b2 := hI.1.1
  rcases ht with rfl | rfl
  · exact ⟨hI.2.1.1.1, by omega⟩
  · exact ⟨hI.2.1.1.2, by omega⟩
theorem ct_M_wipe {t : Int} (hI : MI mem τ) (hT : tauI (nWipe τ t)) (ht : zR t) : zCi m_M_wipe [vr 48, vi t] mem (qWipe τ t) (fun m2 => MI m2 (nWipe τ t) ∧ ref47 mem m2) := by
  refine zCt.of [some (vr 48), some (vi t), none] ok_M_wipe (Nat.le_of_ble_eq_true rfl) rfl ?_
  unfold qWipe nWipe at *
  by_cases hg : 0 ≤ t ∧ t ≤ 1
  · rw [if_pos hg, if_pos hg]
    rw [if_pos hg] at hT
    have ht2 : t = 0 ∨ t = 1 := by omega
    have e := e54_t hI ht2
    refine zw_iload_n ok_M_wipe rfl rfl ?_
    refine zw_Sbp ok_M_wipe rfl ok_M_isTwo lk_M_98 (by decide) rfl (Nat.le_of_ble_eq_true rfl) (ct_M_isTwo (by omega)) ?_
    first | refine zw_ifne_d 10 ok_M_wipe rfl (by decide) (fun h4 => ?_) (fun h4 => ?_) | refine zw_ifne_b 10 ok_M_wipe rfl (by decide) (fun h4 => ?_) (fun h4 => ?_) | refine zw_if_ne 10 ok_M_wipe rfl (by decide) (by omega) (fun h4 => ?_) (fun h4 => ?_)
    · refine zw_aload_n ok_M_wipe rfl rfl ?_
      refine zw_getr ok_M_wipe rfl fl_M_25 rfl rfl ?_
      refine zw_iload_n ok_M_wipe rfl rfl ?_
      refine zw_iald ok_M_wipe rfl rfl (by omega) ?_
      rw [e.1]
      refine zw_istore_n ok_M_wipe rfl rfl (by decide) ?_
      refine zw_aload_n ok_M_wipe rfl rfl ?_
      refine zw_getr ok_M_wipe rfl fl_M_25 rfl rfl ?_
      refine zw_iload_n ok_M_wipe rfl rfl ?_
      refine zw_iconst ok_M_wipe rfl ?_
      refine zw_iast ok_M_wipe rfl rfl (by omega) ?_
      refine zw_iload_n ok_M_wipe rfl rfl ?_
      exact zw_iret ok_M_wipe rfl rfl (⟨rfl, MI_siz hI ht2 hT (by omega), r47_set (by decide)⟩)
    · exact absurd hg h4
  · rw [if_neg hg, if_neg hg]
    refine zw_iload_n ok_M_wipe rfl rfl ?_
    refine zw_Sbp ok_M_wipe rfl ok_M_isTwo lk_M_98 (by decide) rfl (Nat.le_of_ble_eq_true rfl) (ct_M_isTwo (by omega)) ?_
    first | refine zw_ifne_d 10 ok_M_wipe rfl (by decide) (fun h4 => ?_) (fun h4 => ?_) | refine zw_ifne_b 10 ok_M_wipe rfl (by decide) (fun h4 => ?_) (fun h4 => ?_) | refine zw_if_ne 10 ok_M_wipe rfl (by decide) (by omega) (fun h4 => ?_) (fun h4 => ?_)
    · exact absurd h4 hg
    · refine zw_bipush ok_M_wipe rfl (by decide) ?_
      exact zw_iret ok_M_wipe rfl rfl (⟨rfl, hI, r47_rf⟩)
theorem ct_M_undo {t : Int} (hI : MI mem τ) (hT : tauI (nUndo τ t)) (ht : zR t) : zCi m_M_undo [vr 48, vi t] mem (qUndo τ t) (fun m2 => MI m2 (nUndo τ t) ∧ ref47 mem m2) := by
  refine zCt.of [some (vr 48), some (vi t)] ok_M_undo (Nat.le_of_ble_eq_true rfl) rfl ?_
  unfold qUndo nUndo at *
  by_cases hg : 0 ≤ t ∧ t ≤ 1
  · rw [if_pos hg]
    have ht2 : t = 0 ∨ t = 1 := by omega
    have e := e54_t hI ht2
    by_cases h0 : τ 2 t = 0
    · rw [if_pos h0, if_neg (fun z => z.2 h0)]
      refine zw_iload_n ok_M_undo rfl rfl ?_
      refine zw_Sbp ok_M_undo rfl ok_M_isTwo lk_M_98 (by decide) rfl (Nat.le_of_ble_eq_true rfl) (ct_M_isTwo (by omega)) ?_
      first | refine zw_ifne_d 10 ok_M_undo rfl (by decide) (fun h4 => ?_) (fun h4 => ?_) | refine zw_ifne_b 10 ok_M_undo rfl (by decide) (fun h4 => ?_) (fun h4 => ?_) | refine zw_if_ne 10 ok_M_undo rfl (by decide) (by omega) (fun h4 => ?_) (fun h4 => ?_)
      · refine zw_aload_n ok_M_undo rfl rfl ?_
        refine zw_getr ok_M_undo rfl fl_M_25 rfl rfl ?_
        refine zw_iload_n ok_M_undo rfl rfl ?_
        refine zw_iald ok_M_undo rfl rfl (by omega) ?_
        rw [e.1]
        refine zw_if_ne 22 ok_M_undo rfl (by decide) (by omega) (fun h16 => ?_) (fun h16 => ?_)
        · exact absurd h0 h16
        · refine zw_bipush ok_M_undo rfl (by decide) ?_
          exact zw_iret ok_M_undo rfl rfl (⟨rfl, hI, r47_rf⟩)
      · exact absurd hg h4
    · rw [if_neg h0, if_pos ⟨hg, h0⟩]
      rw [if_pos ⟨hg, h0⟩] at hT
      have key := MI_siz hI ht2 hT (by omega)
      refine zw_iload_n ok_M_undo rfl rfl ?_
      refine zw_Sbp ok_M_undo rfl ok_M_isTwo lk_M_98 (by decide) rfl (Nat.le_of_ble_eq_true rfl) (ct_M_isTwo (by omega)) ?_
      first | refine zw_ifne_d 10 ok_M_undo rfl (by decide) (fun h4 => ?_) (fun h4 => ?_) | refine zw_ifne_b 10 ok_M_undo rfl (by decide) (fun h4 => ?_) (fun h4 => ?_) | refine zw_if_ne 10 ok_M_undo rfl (by decide) (by omega) (fun h4 => ?_) (fun h4 => ?_)
      · refine zw_aload_n ok_M_undo rfl rfl ?_
        refine zw_getr ok_M_undo rfl fl_M_25 rfl rfl ?_
        refine zw_iload_n ok_M_undo rfl rfl ?_
        refine zw_iald ok_M_undo rfl rfl (by omega) ?_
        rw [e.1]
        refine zw_if_ne 22 ok_M_undo rfl (by decide) (by omega) (fun h16 => ?_) (fun h16 => ?_)
        · refine zw_aload_n ok_M_undo rfl rfl ?_
          refine zw_getr ok_M_undo rfl fl_M_25 rfl rfl ?_
          refine zw_iload_n ok_M_undo rfl rfl ?_
          refine zw_dup2 ok_M_undo rfl ?_
          refine zw_iald ok_M_undo rfl rfl (by omega) ?_
          rw [e.1]
          refine zw_iconst ok_M_undo rfl ?_
          refine zw_isub ok_M_undo rfl ?_
          refine zw_iast ok_M_undo rfl rfl (by omega) ?_
          refine zw_aload_n ok_M_undo rfl rfl ?_
          refine zw_getr ok_M_undo rfl fl_M_25 rfl rfl ?_
          refine zw_iload_n ok_M_undo rfl rfl ?_
          refine zw_iald ok_M_undo rfl rfl (by omega) ?_
          rw [zset_eq, zupd_eq]
          exact zw_iret ok_M_undo rfl rfl (⟨rfl, key, r47_set (by decide)⟩)
        · exact absurd h16 h0
      · exact absurd hg h4
  · rw [if_neg hg, if_neg (fun z => hg z.1)]
    refine zw_iload_n ok_M_undo rfl rfl ?_
    refine zw_Sbp ok_M_undo rfl ok_M_isTwo lk_M_98 (by decide) rfl (Nat.le_of_ble_eq_true rfl) (ct_M_isTwo (by omega)) ?_
    first | refine zw_ifne_d 10 ok_M_undo rfl (by decide) (fun h4 => ?_) (fun h4 => ?_) | refine zw_ifne_b 10 ok_M_undo rfl (by decide) (fun h4 => ?_) (fun h4 => ?_) | refine zw_if_ne 10 ok_M_undo rfl (by decide) (by omega) (fun h4 => ?_) (fun h4 => ?_)
    · exact absurd h4 hg
    · refine zw_bipush ok_M_undo rfl (by decide) ?_
      exact zw_iret ok_M_undo rfl rfl (⟨rfl, hI, r47_rf⟩)
theorem ct_rdP (hI : MI mem τ) : zCi m_M_readsPeople [vr 48] mem (sFp (τ 2 0) (τ 0)) (fun m2 => mfr [7] [55] mem m2) :=
  zCt.mono (ct_M_readsPeople hI.2.1.1.1 hI.1.1.1 (fun i i0 i1 => ⟨hI.2.1.2.1 i i0 i1, hI.1.2.1 i i0 i1⟩)) (fun r m h => ⟨h.1, h.2.1⟩)
theorem ct_rdW (hI : MI mem τ) : zCi m_M_readsWalks [vr 48] mem (sFw (τ 2 1) (τ 1)) (fun m2 => mfr [9] [56] mem m2) :=
  zCt.mono (ct_M_readsWalks hI.2.1.1.2 hI.1.1.2.1 (fun i i0 i1 => ⟨hI.2.1.2.2 i i0 i1, hI.1.2.2.1 i i0 i1⟩)) (fun r m h => ⟨h.1, h.2.1⟩)
theorem MIr (h : mfr rJ rL mem m2) (hI : MI mem τ) : MI m2 τ ∧ ref47 mem m2 := ⟨MI_of h hI, h.r47 (by decide)⟩
theorem ct_M_fault {t : Int} (hI : MI mem τ) (ht : zR t) : zCi m_M_fault [vr 48, vi t] mem (qFault τ t) (fun m2 => MI m2 τ ∧ ref47 mem m2) := by
  refine zCt.of [some (vr 48), some (vi t)] ok_M_fault (Nat.le_of_ble_eq_true rfl) rfl ?_
  unfold qFault
  by_cases hg : 0 ≤ t ∧ t ≤ 1
  · rw [if_pos hg]
    refine zw_iload_n ok_M_fault rfl rfl ?_
    refine zw_Sbp ok_M_fault rfl ok_M_isTwo lk_M_98 (by decide) rfl (Nat.le_of_ble_eq_true rfl) (ct_M_isTwo (by omega)) ?_
    first | refine zw_ifne_d 12 ok_M_fault rfl (by decide) (fun h4 => ?_) (fun h4 => ?_) | refine zw_ifne_b 12 ok_M_fault rfl (by decide) (fun h4 => ?_) (fun h4 => ?_) | refine zw_if_ne 12 ok_M_fault rfl (by decide) (by omega) (fun h4 => ?_) (fun h4 => ?_)
    · refine zw_iload_n ok_M_fault rfl rfl ?_
      refine zw_if_ne 23 ok_M_fault rfl (by decide) (by omega) (fun h13 => ?_) (fun h13 => ?_)
      · rw [if_neg h13]
        refine zw_aload_n ok_M_fault rfl rfl ?_
        refine zw_Vi ok_M_fault rfl ok_M_readsWalks lk_M_133 (by decide) rfl rfl (Nat.le_of_ble_eq_true rfl) (ct_rdW hI) (fun m24 h24 => ?_)
        have j := MIr (h24.mono (by decide) (by decide)) hI
        exact zw_iret ok_M_fault rfl rfl (⟨rfl, j⟩)
      · rw [if_pos h13]
        refine zw_aload_n ok_M_fault rfl rfl ?_
        refine zw_Vi ok_M_fault rfl ok_M_readsPeople lk_M_129 (by decide) rfl rfl (Nat.le_of_ble_eq_true rfl) (ct_rdP hI) (fun m17 h17 => ?_)
        have j := MIr (h17.mono (by decide) (by decide)) hI
        refine zw_goto 27 ok_M_fault rfl (by decide) ?_
        exact zw_iret ok_M_fault rfl rfl (⟨rfl, j⟩)
    · exact absurd hg h4
  · rw [if_neg hg]
    refine zw_iload_n ok_M_fault rfl rfl ?_
    refine zw_Sbp ok_M_fault rfl ok_M_isTwo lk_M_98 (by decide) rfl (Nat.le_of_ble_eq_true rfl) (ct_M_isTwo (by omega)) ?_
    first | refine zw_ifne_d 12 ok_M_fault rfl (by decide) (fun h4 => ?_) (fun h4 => ?_) | refine zw_ifne_b 12 ok_M_fault rfl (by decide) (fun h4 => ?_) (fun h4 => ?_) | refine zw_if_ne 12 ok_M_fault rfl (by decide) (by omega) (fun h4 => ?_) (fun h4 => ?_)
    · exact absurd h4 hg
    · refine zw_bipush ok_M_fault rfl (by decide) ?_
      refine zw_goto 27 ok_M_fault rfl (by decide) ?_
      exact zw_iret ok_M_fault rfl rfl (⟨rfl, hI, r47_rf⟩)
theorem P7 (h : MR mem τ) : mem 48 7 = aP τ ∧ 0 ≤ mem 48 7 ∧ mem 48 7 ≤ 8 := by
  have := aP_b h.2.1.1
  have e := h.2.1.1.2.1.1
  exact ⟨e, by rw [e]; exact this⟩
theorem per_at {p w : Int} (c : mem 55 (3 * p) = sK (τ 0) p ∧ mem 55 (3 * p + 1) = sCan (τ 0) p ∧ mem 55 (3 * p + 2) = sLo (τ 0) p) (hw : 0 ≤ w ∧ w ≤ 2) : mem 55 (3 * p + w) = (if w = 0 then sK (τ 0) p else if w = 1 then sCan (τ 0) p else if w = 2 then sLo (τ 0) p else -2) := by
  have : w = 0 ∨ w = 1 ∨ w = 2 := by omega
  rcases this with rfl | rfl | rfl
  · rw [if_pos rfl, Int.add_zero, c.1]
  · rw [if_neg (by decide), if_pos rfl, c.2.1]
  · rw [if_neg (by decide), if_neg (by decide), if_pos rfl, c.2.2]
theorem ct_M_person {p w : Int} (hI : MI mem τ) (hp : zR p) (hw : zR w) : zCi m_M_person [vr 48, vi p, vi w] mem (qPerson τ p w) (fun m2 => MI m2 τ ∧ ref47 mem m2) := by
  refine zCt.of [some (vr 48), some (vi p), some (vi w)] ok_M_person (Nat.le_of_ble_eq_true rfl) rfl ?_
  unfold qPerson
  by_cases hg : (0 ≤ p ∧ p < aP τ) ∧ (0 ≤ w ∧ w ≤ 2)
  · rw [if_pos hg.1]
    refine zw_aload_n ok_M_person rfl rfl ?_
    refine zw_Vv ok_M_person rfl ok_M_reads lk_M_140 (by decide) rfl rfl (Nat.le_of_ble_eq_true rfl) (ct_M_reads hI) (fun m1 h1 => ?_)
    have j := MIr h1.2 hI
    have hP := P7 h1.1
    have c := h1.1.2.1.1.2.1.2 p hg.1.1 hg.1.2
    refine zw_aload_n ok_M_person rfl rfl ?_
    refine zw_iload_n ok_M_person rfl rfl ?_
    refine zw_Vbp ok_M_person rfl ok_M_isPerson lk_M_143 (by decide) rfl rfl (Nat.le_of_ble_eq_true rfl) (ct_M_isPerson hp hP.2) ?_
    first | refine zw_ifeq_d 37 ok_M_person rfl (by decide) (fun h9 => ?_) (fun h9 => ?_) | refine zw_ifeq_b 37 ok_M_person rfl (by decide) (fun h9 => ?_) (fun h9 => ?_) | refine zw_if_eq 37 ok_M_person rfl (by decide) (by omega) (fun h9 => ?_) (fun h9 => ?_)
    · exact absurd ⟨hg.1.1, by rw [hP.1]; omega⟩ h9
    · refine zw_iload_n ok_M_person rfl rfl ?_
      refine zw_i2l ok_M_person rfl (by omega) ?_
      refine zw_lconst0 ok_M_person rfl ?_
      refine zw_ldc2 ok_M_person rfl kc_M_83 ?_
      refine zw_Sbp ok_M_person rfl ok_M_in lk_M_70 (by decide) rfl (Nat.le_of_ble_eq_true rfl) (ct_M_in (by omega)) ?_
      first | refine zw_ifeq_d 37 ok_M_person rfl (by decide) (fun h21 => ?_) (fun h21 => ?_) | refine zw_ifeq_b 37 ok_M_person rfl (by decide) (fun h21 => ?_) (fun h21 => ?_) | refine zw_if_eq 37 ok_M_person rfl (by decide) (by omega) (fun h21 => ?_) (fun h21 => ?_)
      · exact absurd hg.2 h21
      · refine zw_aload_n ok_M_person rfl rfl ?_
        refine zw_getr ok_M_person rfl fl_M_28 rfl rfl ?_
        refine zw_iconst ok_M_person rfl ?_
        refine zw_iload_n ok_M_person rfl rfl ?_
        refine zw_imul ok_M_person rfl ?_
        refine zw_iload_n ok_M_person rfl rfl ?_
        refine zw_iadd ok_M_person rfl ?_
        refine zw_iald ok_M_person rfl rfl (by omega) ?_
        refine zw_goto 39 ok_M_person rfl (by decide) ?_
        exact zw_iret ok_M_person rfl rfl (⟨by rw [per_at c hg.2], j⟩)
  · have e : (if 0 ≤ p ∧ p < aP τ then (if w = 0 then sK (τ 0) p else if w = 1 then sCan (τ 0) p else if w = 2 then sLo (τ 0) p else -2) else -2) = -2 := by
      by_cases h1 : 0 ≤ p ∧ p < aP τ
      · rw [if_pos h1, if_neg (by omega), if_neg (by omega), if_neg (by omega)]
      · rw [if_neg h1]
    rw [e]
    refine zw_aload_n ok_M_person rfl rfl ?_
    refine zw_Vv ok_M_person rfl ok_M_reads lk_M_140 (by decide) rfl rfl (Nat.le_of_ble_eq_true rfl) (ct_M_reads hI) (fun m1 h1 => ?_)
    have j := MIr h1.2 hI
    have hP := P7 h1.1
    refine zw_aload_n ok_M_person rfl rfl ?_
    refine zw_iload_n ok_M_person rfl rfl ?_
    refine zw_Vbp ok_M_person rfl ok_M_isPerson lk_M_143 (by decide) rfl rfl (Nat.le_of_ble_eq_true rfl) (ct_M_isPerson hp hP.2) ?_
    first | refine zw_ifeq_d 37 ok_M_person rfl (by decide) (fun h9 => ?_) (fun h9 => ?_) | refine zw_ifeq_b 37 ok_M_person rfl (by decide) (fun h9 => ?_) (fun h9 => ?_) | refine zw_if_eq 37 ok_M_person rfl (by decide) (by omega) (fun h9 => ?_) (fun h9 => ?_)
    · refine zw_bipush ok_M_person rfl (by decide) ?_
      exact zw_iret ok_M_person rfl rfl (⟨rfl, j⟩)
    · refine zw_iload_n ok_M_person rfl rfl ?_
      refine zw_i2l ok_M_person rfl (by omega) ?_
      refine zw_lconst0 ok_M_person rfl ?_
      refine zw_ldc2 ok_M_person rfl kc_M_83 ?_
      refine zw_Sbp ok_M_person rfl ok_M_in lk_M_70 (by decide) rfl (Nat.le_of_ble_eq_true rfl) (ct_M_in (by omega)) ?_
      first | refine zw_ifeq_d 37 ok_M_person rfl (by decide) (fun h21 => ?_) (fun h21 => ?_) | refine zw_ifeq_b 37 ok_M_person rfl (by decide) (fun h21 => ?_) (fun h21 => ?_) | refine zw_if_eq 37 ok_M_person rfl (by decide) (by omega) (fun h21 => ?_) (fun h21 => ?_)
      · refine zw_bipush ok_M_person rfl (by decide) ?_
        exact zw_iret ok_M_person rfl rfl (⟨rfl, j⟩)
      · exact absurd ⟨⟨h9.1, by rw [← hP.1]; omega⟩, h21⟩ hg
theorem ct_M_street {h p : Int} (hI : MI mem τ) (hh : zR h) (hp : zR p) : zCi m_M_street [vr 48, vi h, vi p] mem (qStreet τ h p) (fun m2 => MR m2 τ ∧ ref47 mem m2) := by
  refine zCt.of [some (vr 48), some (vi h), some (vi p)] ok_M_street (Nat.le_of_ble_eq_true rfl) rfl ?_
  unfold qStreet
  by_cases hg : (0 ≤ h ∧ h ≤ 11) ∧ (0 ≤ p ∧ p < aP τ)
  · rw [if_pos hg]
    refine zw_aload_n ok_M_street rfl rfl ?_
    refine zw_Vv ok_M_street rfl ok_M_reads lk_M_140 (by decide) rfl rfl (Nat.le_of_ble_eq_true rfl) (ct_M_reads hI) (fun m1 h1 => ?_)
    have j : MR m1 τ ∧ ref47 mem m1 := ⟨h1.1, h1.2.r47 (by decide)⟩
    have hP := P7 h1.1
    have hp8 : 0 ≤ p ∧ p < 8 := ⟨hg.2.1, by have := hg.2.2; rw [← hP.1] at this; omega⟩
    have e : srM m1 h p = aSr τ h p := by unfold srM; rw [if_neg (by rw [h1.1.2.1.2.2.1.2.2]; omega)]; exact h1.1.2.1.1.2.2.1 h p hg.1.1 (by omega) hp8.1 hp8.2
    refine zw_iload_n ok_M_street rfl rfl ?_
    refine zw_Sbp ok_M_street rfl ok_M_isHour lk_M_157 (by decide) rfl (Nat.le_of_ble_eq_true rfl) (ct_M_isHour (by omega)) ?_
    first | refine zw_ifeq_d 28 ok_M_street rfl (by decide) (fun h8 => ?_) (fun h8 => ?_) | refine zw_ifeq_b 28 ok_M_street rfl (by decide) (fun h8 => ?_) (fun h8 => ?_) | refine zw_if_eq 28 ok_M_street rfl (by decide) (by omega) (fun h8 => ?_) (fun h8 => ?_)
    · exact absurd hg.1 h8
    · refine zw_aload_n ok_M_street rfl rfl ?_
      refine zw_iload_n ok_M_street rfl rfl ?_
      refine zw_Vbp ok_M_street rfl ok_M_isPerson lk_M_143 (by decide) rfl rfl (Nat.le_of_ble_eq_true rfl) (ct_M_isPerson hp hP.2) ?_
      first | refine zw_ifeq_d 28 ok_M_street rfl (by decide) (fun h16 => ?_) (fun h16 => ?_) | refine zw_ifeq_b 28 ok_M_street rfl (by decide) (fun h16 => ?_) (fun h16 => ?_) | refine zw_if_eq 28 ok_M_street rfl (by decide) (by omega) (fun h16 => ?_) (fun h16 => ?_)
      · exact absurd ⟨hg.2.1, by rw [hP.1]; omega⟩ h16
      · refine zw_aload_n ok_M_street rfl rfl ?_
        refine zw_iload_n ok_M_street rfl rfl ?_
        refine zw_iload_n ok_M_street rfl rfl ?_
        refine zw_Vip ok_M_street rfl ok_M_streetOf lk_M_166 (by decide) rfl rfl (Nat.le_of_ble_eq_true rfl) (ct_M_streetOf (okM_v h1.1.2.1) hg.1 hp8) ?_
        refine zw_goto 30 ok_M_street rfl (by decide) ?_
        exact zw_iret ok_M_street rfl rfl (⟨by rw [e], j⟩)
  · rw [if_neg hg]
    refine zw_aload_n ok_M_street rfl rfl ?_
    refine zw_Vv ok_M_street rfl ok_M_reads lk_M_140 (by decide) rfl rfl (Nat.le_of_ble_eq_true rfl) (ct_M_reads hI) (fun m1 h1 => ?_)
    have j : MR m1 τ ∧ ref47 mem m1 := ⟨h1.1, h1.2.r47 (by decide)⟩
    have hP := P7 h1.1
    refine zw_iload_n ok_M_street rfl rfl ?_
    refine zw_Sbp ok_M_street rfl ok_M_isHour lk_M_157 (by decide) rfl (Nat.le_of_ble_eq_true rfl) (ct_M_isHour (by omega)) ?_
    first | refine zw_ifeq_d 28 ok_M_street rfl (by decide) (fun h8 => ?_) (fun h8 => ?_) | refine zw_ifeq_b 28 ok_M_street rfl (by decide) (fun h8 => ?_) (fun h8 => ?_) | refine zw_if_eq 28 ok_M_street rfl (by decide) (by omega) (fun h8 => ?_) (fun h8 => ?_)
    · refine zw_bipush ok_M_street rfl (by decide) ?_
      exact zw_iret ok_M_street rfl rfl (⟨rfl, j⟩)
    · refine zw_aload_n ok_M_street rfl rfl ?_
      refine zw_iload_n ok_M_street rfl rfl ?_
      refine zw_Vbp ok_M_street rfl ok_M_isPerson lk_M_143 (by decide) rfl rfl (Nat.le_of_ble_eq_true rfl) (ct_M_isPerson hp hP.2) ?_
      first | refine zw_ifeq_d 28 ok_M_street rfl (by decide) (fun h16 => ?_) (fun h16 => ?_) | refine zw_ifeq_b 28 ok_M_street rfl (by decide) (fun h16 => ?_) (fun h16 => ?_) | refine zw_if_eq 28 ok_M_street rfl (by decide) (by omega) (fun h16 => ?_) (fun h16 => ?_)
      · refine zw_bipush ok_M_street rfl (by decide) ?_
        exact zw_iret ok_M_street rfl rfl (⟨rfl, j⟩)
      · exact absurd ⟨h8, h16.1, by rw [← hP.1]; omega⟩ hg
end
