/-! ===== the reference: copy, write, read ===== -/
section
variable {mem m2 τ τ2 : zMem} {Q : Option zVal → zMem → Prop} {s : Int}
theorem lc_le {x y : Int} : (if x < y then (-1 : Int) else if x = y then 0 else 1) ≤ 0 ↔ x ≤ y := by (repeat' split) <;> omega
theorem cp1_loop {t a b n : Int} {m0 : zMem} (hs : 0 ≤ s ∧ s ≤ 3) (hq : 0 ≤ a ∧ 0 ≤ n ∧ a + n ≤ 60) : ∀ (k : Nat) (i : Int) (m : zMem), 0 ≤ i → i + k = n → mfr [] [52] m0 m → (∀ j, 0 ≤ j → j < i → m 52 j = m0 51 (60 * s + a + j)) → (∀ m2, mfr [] [52] m0 m2 → (∀ j, 0 ≤ j → j < n → m2 52 j = m0 51 (60 * s + a + j)) → AW m_M_copy 154 [some (vr 48), some (vi s), some (vi a), some (vi t), some (vi b), some (vi n), none] [] m2 Q) → AW m_M_copy 120 [some (vr 48), some (vi s), some (vi a), some (vi t), some (vi b), some (vi n), some (vi i)] [] m Q := by
  intro k
  induction k with
  | zero =>
    intro i m h0 h1 hf hj hx
    have e : i = n := by omega
    subst e
    refine zw_iload ok_M_copy rfl rfl ?_
    refine zw_iload ok_M_copy rfl rfl ?_
    refine zw_icmp_ge 154 ok_M_copy rfl (by decide) (by omega) (fun h124 => ?_) (fun h124 => ?_)
    · exact zw_mask [true, true, true, true, true, true, false] rfl (hx m hf hj)
    · exfalso; omega
  | succ k ih =>
    intro i m h0 h1 hf hj hx
    refine zw_iload ok_M_copy rfl rfl ?_
    refine zw_iload ok_M_copy rfl rfl ?_
    refine zw_icmp_ge 154 ok_M_copy rfl (by decide) (by omega) (fun h124 => ?_) (fun h124 => ?_)
    · exfalso; omega
    · refine zw_aload_n ok_M_copy rfl rfl ?_
      refine zw_getr ok_M_copy rfl fl_M_19 rfl rfl ?_
      refine zw_iload ok_M_copy rfl rfl ?_
      refine zw_aload_n ok_M_copy rfl rfl ?_
      refine zw_getr ok_M_copy rfl fl_M_16 rfl rfl ?_
      refine zw_bipush ok_M_copy rfl (by decide) ?_
      refine zw_iload_n ok_M_copy rfl rfl ?_
      refine zw_imul ok_M_copy rfl ?_
      refine zw_iload_n ok_M_copy rfl rfl ?_
      refine zw_iadd ok_M_copy rfl ?_
      refine zw_iload ok_M_copy rfl rfl ?_
      refine zw_iadd ok_M_copy rfl ?_
      refine zw_iald ok_M_copy rfl rfl (by omega) ?_
      refine zw_iast ok_M_copy rfl rfl (by omega) ?_
      refine zw_iinc ok_M_copy rfl rfl rfl (by decide) ?_
      refine zw_goto 120 ok_M_copy rfl (by decide) ?_
      refine ih (i + 1) _ (by omega) (by omega) (mfr.set hf (by decide) (by decide)) (fun j j0 j1 => ?_) hx
      rw [zset_eq]
      by_cases e : j = i
      · subst e; rw [zupd_eq, hf.1 51 (by decide) (by decide)]
      · rw [zupd_ne e]; exact hj j j0 (by omega)
theorem cp2_loop {t a b n : Int} {m0 : zMem} (ht : 0 ≤ t ∧ t ≤ 3) (hq : 0 ≤ b ∧ 0 ≤ n ∧ b + n ≤ 60) : ∀ (k : Nat) (i : Int) (m : zMem), 0 ≤ i → i + k = n → mfr [] [51] m0 m → (∀ j, m 51 j = if 60 * t + b ≤ j ∧ j < 60 * t + b + i then m0 52 (j - (60 * t + b)) else m0 51 j) → (∀ m2, mfr [] [51] m0 m2 → (∀ j, m2 51 j = if 60 * t + b ≤ j ∧ j < 60 * t + b + n then m0 52 (j - (60 * t + b)) else m0 51 j) → Q (some (vi 1)) m2) → AW m_M_copy 157 [some (vr 48), some (vi s), some (vi a), some (vi t), some (vi b), some (vi n), some (vi i)] [] m Q := by
  intro k
  induction k with
  | zero =>
    intro i m h0 h1 hf hj hx
    have e : i = n := by omega
    subst e
    refine zw_iload ok_M_copy rfl rfl ?_
    refine zw_iload ok_M_copy rfl rfl ?_
    refine zw_icmp_ge 192 ok_M_copy rfl (by decide) (by omega) (fun h161 => ?_) (fun h161 => ?_)
    · refine zw_iconst ok_M_copy rfl ?_
      exact zw_iret ok_M_copy rfl rfl (hx m hf hj)
    · exfalso; omega
  | succ k ih =>
    intro i m h0 h1 hf hj hx
    refine zw_iload ok_M_copy rfl rfl ?_
    refine zw_iload ok_M_copy rfl rfl ?_
    refine zw_icmp_ge 192 ok_M_copy rfl (by decide) (by omega) (fun h161 => ?_) (fun h161 => ?_)
    · exfalso; omega
    · refine zw_aload_n ok_M_copy rfl rfl ?_
      refine zw_getr ok_M_copy rfl fl_M_16 rfl rfl ?_
      refine zw_bipush ok_M_copy rfl (by decide) ?_
      refine zw_iload_n ok_M_copy rfl rfl ?_
      refine zw_imul ok_M_copy rfl ?_
      refine zw_iload ok_M_copy rfl rfl ?_
      refine zw_iadd ok_M_copy rfl ?_
      refine zw_iload ok_M_copy rfl rfl ?_
      refine zw_iadd ok_M_copy rfl ?_
      refine zw_aload_n ok_M_copy rfl rfl ?_
      refine zw_getr ok_M_copy rfl fl_M_19 rfl rfl ?_
      refine zw_iload ok_M_copy rfl rfl ?_
      refine zw_iald ok_M_copy rfl rfl (by omega) ?_
      refine zw_iast ok_M_copy rfl rfl (by omega) ?_
      refine zw_iinc ok_M_copy rfl rfl rfl (by decide) ?_
      refine zw_goto 157 ok_M_copy rfl (by decide) ?_
      refine ih (i + 1) _ (by omega) (by omega) (mfr.set hf (by decide) (by decide)) (fun j => ?_) hx
      rw [zset_eq]
      by_cases e : j = 60 * t + b + i
      · subst e
        rw [zupd_eq, if_pos (by omega), hf.1 52 (by decide) (by decide)]
        congr 1
        omega
      · rw [zupd_ne e, hj j]
        by_cases w : 60 * t + b ≤ j ∧ j < 60 * t + b + i
        · rw [if_pos w, if_pos (by omega)]
        · rw [if_neg w, if_neg (by omega)]
theorem ct_M_copy {t a b n : Int} (hI : MI mem τ) (hT : tauI (nCopy τ s a t b n)) (hs : zR s) (ha : zR a) (ht : zR t) (hb : zR b) (hn : zR n) : zCi m_M_copy [vr 48, vi s, vi a, vi t, vi b, vi n] mem (qCopy τ s a t b n) (fun m2 => MI m2 (nCopy τ s a t b n) ∧ ref47 mem m2) := by
  refine zCt.of [some (vr 48), some (vi s), some (vi a), some (vi t), some (vi b), some (vi n), none] ok_M_copy (Nat.le_of_ble_eq_true rfl) rfl ?_
  unfold qCopy nCopy at *
  by_cases hg : (0 ≤ s ∧ s ≤ 3) ∧ (0 ≤ t ∧ t ≤ 3)
  · rw [if_pos hg, if_pos hg]
    rw [if_pos hg] at hT
    have cs := shM_at hI hg.1
    have ct := shM_at hI hg.2
    have bs := shB_m hI hg.1
    have bt := shB_m hI hg.2
    have bs1 := bs.1
    have bs2 := bs.2.1
    have bt1 := bt.1
    have bt2 := bt.2.1
    by_cases q1 : τ 11 s = -1 ∨ τ 11 t = -1
    · have e : cpF τ s a t b n = 1 := by unfold cpF; rw [if_pos q1]
      rw [e] at hT ⊢
      refine zw_iload_n ok_M_copy rfl rfl ?_
      refine zw_Sbp ok_M_copy rfl ok_M_isSheet lk_M_79 (by decide) rfl (Nat.le_of_ble_eq_true rfl) (ct_M_isSheet (by omega)) ?_
      first | refine zw_ifeq_d 14 ok_M_copy rfl (by decide) (fun h4 => ?_) (fun h4 => ?_) | refine zw_ifeq_b 14 ok_M_copy rfl (by decide) (fun h4 => ?_) (fun h4 => ?_) | refine zw_if_eq 14 ok_M_copy rfl (by decide) (by omega) (fun h4 => ?_) (fun h4 => ?_)
      · exact absurd hg.1 h4
      · refine zw_iload_n ok_M_copy rfl rfl ?_
        refine zw_Sbp ok_M_copy rfl ok_M_isSheet lk_M_79 (by decide) rfl (Nat.le_of_ble_eq_true rfl) (ct_M_isSheet (by omega)) ?_
        first | refine zw_ifne_d 17 ok_M_copy rfl (by decide) (fun h11 => ?_) (fun h11 => ?_) | refine zw_ifne_b 17 ok_M_copy rfl (by decide) (fun h11 => ?_) (fun h11 => ?_) | refine zw_if_ne 17 ok_M_copy rfl (by decide) (by omega) (fun h11 => ?_) (fun h11 => ?_)
        · refine zw_aload_n ok_M_copy rfl rfl ?_
          refine zw_getr ok_M_copy rfl fl_M_7 rfl rfl ?_
          refine zw_iload_n ok_M_copy rfl rfl ?_
          refine zw_iald ok_M_copy rfl rfl (by omega) ?_
          rw [cs.1]
          refine zw_if_lt 35 ok_M_copy rfl (by decide) (by omega) (fun h23 => ?_) (fun h23 => ?_)
          · refine zw_aload_n ok_M_copy rfl rfl ?_
            refine zw_iconst ok_M_copy rfl ?_
            refine zw_Vi ok_M_copy rfl ok_M_finds lk_M_85 (by decide) rfl rfl (Nat.le_of_ble_eq_true rfl) (ct_M_finds) (fun m37 h37 => ?_)
            subst h37
            exact zw_iret ok_M_copy rfl rfl (⟨rfl, MI_fnd hI hT⟩)
          · refine zw_aload_n ok_M_copy rfl rfl ?_
            refine zw_getr ok_M_copy rfl fl_M_7 rfl rfl ?_
            refine zw_iload_n ok_M_copy rfl rfl ?_
            refine zw_iald ok_M_copy rfl rfl (by omega) ?_
            rw [ct.1]
            refine zw_if_ge 41 ok_M_copy rfl (by decide) (by omega) (fun h32 => ?_) (fun h32 => ?_)
            · exfalso; omega
            · refine zw_aload_n ok_M_copy rfl rfl ?_
              refine zw_iconst ok_M_copy rfl ?_
              refine zw_Vi ok_M_copy rfl ok_M_finds lk_M_85 (by decide) rfl rfl (Nat.le_of_ble_eq_true rfl) (ct_M_finds) (fun m37 h37 => ?_)
              subst h37
              exact zw_iret ok_M_copy rfl rfl (⟨rfl, MI_fnd hI hT⟩)
        · exact absurd hg.2 h11
    · by_cases q2 : τ 11 s ≠ τ 11 t
      · have e : cpF τ s a t b n = 4 := by unfold cpF; rw [if_neg q1, if_pos q2]
        rw [e] at hT ⊢
        refine zw_iload_n ok_M_copy rfl rfl ?_
        refine zw_Sbp ok_M_copy rfl ok_M_isSheet lk_M_79 (by decide) rfl (Nat.le_of_ble_eq_true rfl) (ct_M_isSheet (by omega)) ?_
        first | refine zw_ifeq_d 14 ok_M_copy rfl (by decide) (fun h4 => ?_) (fun h4 => ?_) | refine zw_ifeq_b 14 ok_M_copy rfl (by decide) (fun h4 => ?_) (fun h4 => ?_) | refine zw_if_eq 14 ok_M_copy rfl (by decide) (by omega) (fun h4 => ?_) (fun h4 => ?_)
        · exact absurd hg.1 h4
        · refine zw_iload_n ok_M_copy rfl rfl ?_
          refine zw_Sbp ok_M_copy rfl ok_M_isSheet lk_M_79 (by decide) rfl (Nat.le_of_ble_eq_true rfl) (ct_M_isSheet (by omega)) ?_
          first | refine zw_ifne_d 17 ok_M_copy rfl (by decide) (fun h11 => ?_) (fun h11 => ?_) | refine zw_ifne_b 17 ok_M_copy rfl (by decide) (fun h11 => ?_) (fun h11 => ?_) | refine zw_if_ne 17 ok_M_copy rfl (by decide) (by omega) (fun h11 => ?_) (fun h11 => ?_)
          · refine zw_aload_n ok_M_copy rfl rfl ?_
            refine zw_getr ok_M_copy rfl fl_M_7 rfl rfl ?_
            refine zw_iload_n ok_M_copy rfl rfl ?_
            refine zw_iald ok_M_copy rfl rfl (by omega) ?_
            rw [cs.1]
            refine zw_if_lt 35 ok_M_copy rfl (by decide) (by omega) (fun h23 => ?_) (fun h23 => ?_)
            · exfalso; omega
            · refine zw_aload_n ok_M_copy rfl rfl ?_
              refine zw_getr ok_M_copy rfl fl_M_7 rfl rfl ?_
              refine zw_iload_n ok_M_copy rfl rfl ?_
              refine zw_iald ok_M_copy rfl rfl (by omega) ?_
              rw [ct.1]
              refine zw_if_ge 41 ok_M_copy rfl (by decide) (by omega) (fun h32 => ?_) (fun h32 => ?_)
              · refine zw_aload_n ok_M_copy rfl rfl ?_
                refine zw_getr ok_M_copy rfl fl_M_7 rfl rfl ?_
                refine zw_iload_n ok_M_copy rfl rfl ?_
                refine zw_iald ok_M_copy rfl rfl (by omega) ?_
                rw [cs.1]
                refine zw_aload_n ok_M_copy rfl rfl ?_
                refine zw_getr ok_M_copy rfl fl_M_7 rfl rfl ?_
                refine zw_iload_n ok_M_copy rfl rfl ?_
                refine zw_iald ok_M_copy rfl rfl (by omega) ?_
                rw [ct.1]
                refine zw_icmp_eq 62 ok_M_copy rfl (by decide) (by omega) (fun h53 => ?_) (fun h53 => ?_)
                · exact absurd h53 q2
                · refine zw_aload_n ok_M_copy rfl rfl ?_
                  refine zw_iconst ok_M_copy rfl ?_
                  refine zw_Vi ok_M_copy rfl ok_M_finds lk_M_85 (by decide) rfl rfl (Nat.le_of_ble_eq_true rfl) (ct_M_finds) (fun m58 h58 => ?_)
                  subst h58
                  exact zw_iret ok_M_copy rfl rfl (⟨rfl, MI_fnd hI hT⟩)
              · exfalso; omega
          · exact absurd hg.2 h11
      · by_cases q3 : (0 ≤ a ∧ 0 ≤ n ∧ n ≤ τ 12 s - a) ∧ (0 ≤ b ∧ 0 ≤ n ∧ n ≤ τ 12 t - b)
        · have e : cpF τ s a t b n = 0 := by unfold cpF; rw [if_neg q1, if_neg q2, if_pos q3]
          rw [if_pos e] at hT
          rw [if_pos e, if_pos e]
          have fin : ∀ m2 m3, mfr [] [52] mem m2 → (∀ j, 0 ≤ j → j < n → m2 52 j = mem 51 (60 * s + a + j)) → mfr [] [51] m2 m3 → (∀ j, m3 51 j = if 60 * t + b ≤ j ∧ j < 60 * t + b + n then m2 52 (j - (60 * t + b)) else m2 51 j) → MI m3 (zput τ (13 + t.toNat) (zcpy (τ (13 + s.toNat)) (τ (13 + t.toNat)) a b n)) ∧ ref47 mem m3 := by
            intro m2 m3 f1 f2 f3 f4
            have e51 : m2 51 = mem 51 := f1.1 51 (by decide) (by decide)
            have e49 : m3 49 = mem 49 := (f3.1 49 (by decide) (by decide)).trans (f1.1 49 (by decide) (by decide))
            have e50 : m3 50 = mem 50 := (f3.1 50 (by decide) (by decide)).trans (f1.1 50 (by decide) (by decide))
            refine MI_sh1 hI hg.2 hT ((f1.mono (by decide) (by decide)).tr (f3.mono (by decide) (by decide))) (fun k q => zput_ne (by omega)) (fun j hj => ?_) (fun k z1 z2 => zput_ne z2) (fun j hj => ?_) ⟨?_, ?_, fun z i i0 i1 => ?_⟩
            · rw [zput_ne (show 11 ≠ 13 + t.toNat by omega), zput_ne (show 12 ≠ 13 + t.toNat by omega), e49, e50]; exact ⟨⟨rfl, rfl⟩, rfl, rfl⟩
            · rw [f4 j, if_neg (by omega), e51]
            · rw [zput_ne (show 11 ≠ 13 + t.toNat by omega), e49]; exact ct.1
            · rw [zput_ne (show 12 ≠ 13 + t.toNat by omega), e50]; exact ct.2.1
            · rw [zput_ne (show 12 ≠ 13 + t.toNat by omega)] at i1
              rw [zput_eq, f4, e51]
              unfold zcpy
              by_cases w : b ≤ i ∧ i < b + n
              · rw [if_pos (by omega), if_pos w, f2 _ (by omega) (by omega), ← cs.2.2 (fun z => q1 (Or.inl z)) (a + (i - b)) (by omega) (by omega)]
                congr 1
                omega
              · rw [if_neg (by omega), if_neg w]
                exact ct.2.2 (fun z => q1 (Or.inr z)) i i0 i1
          have t2 : ∀ m2, mfr [] [52] mem m2 → (∀ j, 0 ≤ j → j < n → m2 52 j = mem 51 (60 * s + a + j)) → AW m_M_copy 154 [some (vr 48), some (vi s), some (vi a), some (vi t), some (vi b), some (vi n), none] [] m2 (fun r m2 => r = some (vi 1) ∧ MI m2 (zput τ (13 + t.toNat) (zcpy (τ (13 + s.toNat)) (τ (13 + t.toNat)) a b n)) ∧ ref47 mem m2) := by
            intro m2 f1 f2
            refine zw_iconst ok_M_copy rfl ?_
            refine zw_istore ok_M_copy rfl rfl (by decide) ?_
            refine cp2_loop (m0 := m2) hg.2 (by omega) n.toNat 0 m2 (by omega) (by omega) mfr.rf (fun j => ?_) (fun m3 f3 f4 => ⟨rfl, fin m2 m3 f1 f2 f3 f4⟩)
            rw [if_neg (by omega)]
          refine zw_iload_n ok_M_copy rfl rfl ?_
          refine zw_Sbp ok_M_copy rfl ok_M_isSheet lk_M_79 (by decide) rfl (Nat.le_of_ble_eq_true rfl) (ct_M_isSheet (by omega)) ?_
          first | refine zw_ifeq_d 14 ok_M_copy rfl (by decide) (fun h4 => ?_) (fun h4 => ?_) | refine zw_ifeq_b 14 ok_M_copy rfl (by decide) (fun h4 => ?_) (fun h4 => ?_) | refine zw_if_eq 14 ok_M_copy rfl (by decide) (by omega) (fun h4 => ?_) (fun h4 => ?_)
          · exact absurd hg.1 h4
          · refine zw_iload_n ok_M_copy rfl rfl ?_
            refine zw_Sbp ok_M_copy rfl ok_M_isSheet lk_M_79 (by decide) rfl (Nat.le_of_ble_eq_true rfl) (ct_M_isSheet (by omega)) ?_
            first | refine zw_ifne_d 17 ok_M_copy rfl (by decide) (fun h11 => ?_) (fun h11 => ?_) | refine zw_ifne_b 17 ok_M_copy rfl (by decide) (fun h11 => ?_) (fun h11 => ?_) | refine zw_if_ne 17 ok_M_copy rfl (by decide) (by omega) (fun h11 => ?_) (fun h11 => ?_)
            · refine zw_aload_n ok_M_copy rfl rfl ?_
              refine zw_getr ok_M_copy rfl fl_M_7 rfl rfl ?_
              refine zw_iload_n ok_M_copy rfl rfl ?_
              refine zw_iald ok_M_copy rfl rfl (by omega) ?_
              rw [cs.1]
              refine zw_if_lt 35 ok_M_copy rfl (by decide) (by omega) (fun h23 => ?_) (fun h23 => ?_)
              · exfalso; omega
              · refine zw_aload_n ok_M_copy rfl rfl ?_
                refine zw_getr ok_M_copy rfl fl_M_7 rfl rfl ?_
                refine zw_iload_n ok_M_copy rfl rfl ?_
                refine zw_iald ok_M_copy rfl rfl (by omega) ?_
                rw [ct.1]
                refine zw_if_ge 41 ok_M_copy rfl (by decide) (by omega) (fun h32 => ?_) (fun h32 => ?_)
                · refine zw_aload_n ok_M_copy rfl rfl ?_
                  refine zw_getr ok_M_copy rfl fl_M_7 rfl rfl ?_
                  refine zw_iload_n ok_M_copy rfl rfl ?_
                  refine zw_iald ok_M_copy rfl rfl (by omega) ?_
                  rw [cs.1]
                  refine zw_aload_n ok_M_copy rfl rfl ?_
                  refine zw_getr ok_M_copy rfl fl_M_7 rfl rfl ?_
                  refine zw_iload_n ok_M_copy rfl rfl ?_
                  refine zw_iald ok_M_copy rfl rfl (by omega) ?_
                  rw [ct.1]
                  refine zw_icmp_eq 62 ok_M_copy rfl (by decide) (by omega) (fun h53 => ?_) (fun h53 => ?_)
                  · refine zw_iload_n ok_M_copy rfl rfl ?_
                    refine zw_if_lt 111 ok_M_copy rfl (by decide) (by omega) (fun h63 => ?_) (fun h63 => ?_)
                    · exfalso; omega
                    · refine zw_iload ok_M_copy rfl rfl ?_
                      refine zw_if_lt 111 ok_M_copy rfl (by decide) (by omega) (fun h68 => ?_) (fun h68 => ?_)
                      · exfalso; omega
                      · refine zw_iload ok_M_copy rfl rfl ?_
                        refine zw_if_lt 111 ok_M_copy rfl (by decide) (by omega) (fun h73 => ?_) (fun h73 => ?_)
                        · exfalso; omega
                        · refine zw_iload_n ok_M_copy rfl rfl ?_
                          refine zw_i2l ok_M_copy rfl (by omega) ?_
                          refine zw_iload ok_M_copy rfl rfl ?_
                          refine zw_i2l ok_M_copy rfl (by omega) ?_
                          refine zw_ladd ok_M_copy rfl ?_
                          refine zw_aload_n ok_M_copy rfl rfl ?_
                          refine zw_getr ok_M_copy rfl fl_M_13 rfl rfl ?_
                          refine zw_iload_n ok_M_copy rfl rfl ?_
                          refine zw_iald ok_M_copy rfl rfl (by omega) ?_
                          rw [cs.2.1]
                          refine zw_i2l ok_M_copy rfl (by omega) ?_
                          refine zw_lcmp ok_M_copy rfl (by omega) ?_
                          refine zw_if_gt 111 ok_M_copy rfl (by decide) (by (repeat' split) <;> omega) (fun h90 => ?_) (fun h90 => ?_)
                          · exfalso; have h90 := lc_gt.mp h90; omega
                          · refine zw_iload ok_M_copy rfl rfl ?_
                            refine zw_i2l ok_M_copy rfl (by omega) ?_
                            refine zw_iload ok_M_copy rfl rfl ?_
                            refine zw_i2l ok_M_copy rfl (by omega) ?_
                            refine zw_ladd ok_M_copy rfl ?_
                            refine zw_aload_n ok_M_copy rfl rfl ?_
                            refine zw_getr ok_M_copy rfl fl_M_13 rfl rfl ?_
                            refine zw_iload_n ok_M_copy rfl rfl ?_
                            refine zw_iald ok_M_copy rfl rfl (by omega) ?_
                            rw [ct.2.1]
                            refine zw_i2l ok_M_copy rfl (by omega) ?_
                            refine zw_lcmp ok_M_copy rfl (by omega) ?_
                            refine zw_if_le 117 ok_M_copy rfl (by decide) (by (repeat' split) <;> omega) (fun h108 => ?_) (fun h108 => ?_)
                            · refine zw_iconst ok_M_copy rfl ?_
                              refine zw_istore ok_M_copy rfl rfl (by decide) ?_
                              refine cp1_loop (m0 := mem) hg.1 (by omega) n.toNat 0 mem (by omega) (by omega) mfr.rf (fun j j0 j1 => by omega) t2
                            · exact absurd (lc_le.mpr (by omega)) h108
                  · exact absurd h53 q2
                · exfalso; omega
            · exact absurd hg.2 h11
        · have e : cpF τ s a t b n = 2 := by unfold cpF; rw [if_neg q1, if_neg q2, if_neg q3]
          rw [e] at hT ⊢
          refine zw_iload_n ok_M_copy rfl rfl ?_
          refine zw_Sbp ok_M_copy rfl ok_M_isSheet lk_M_79 (by decide) rfl (Nat.le_of_ble_eq_true rfl) (ct_M_isSheet (by omega)) ?_
          first | refine zw_ifeq_d 14 ok_M_copy rfl (by decide) (fun h4 => ?_) (fun h4 => ?_) | refine zw_ifeq_b 14 ok_M_copy rfl (by decide) (fun h4 => ?_) (fun h4 => ?_) | refine zw_if_eq 14 ok_M_copy rfl (by decide) (by omega) (fun h4 => ?_) (fun h4 => ?_)
          · exact absurd hg.1 h4
          · refine zw_iload_n ok_M_copy rfl rfl ?_
            refine zw_Sbp ok_M_copy rfl ok_M_isSheet lk_M_79 (by decide) rfl (Nat.le_of_ble_eq_true rfl) (ct_M_isSheet (by omega)) ?_
            first | refine zw_ifne_d 17 ok_M_copy rfl (by decide) (fun h11 => ?_) (fun h11 => ?_) | refine zw_ifne_b 17 ok_M_copy rfl (by decide) (fun h11 => ?_) (fun h11 => ?_) | refine zw_if_ne 17 ok_M_copy rfl (by decide) (by omega) (fun h11 => ?_) (fun h11 => ?_)
            · refine zw_aload_n ok_M_copy rfl rfl ?_
              refine zw_getr ok_M_copy rfl fl_M_7 rfl rfl ?_
              refine zw_iload_n ok_M_copy rfl rfl ?_
              refine zw_iald ok_M_copy rfl rfl (by omega) ?_
              rw [cs.1]
              refine zw_if_lt 35 ok_M_copy rfl (by decide) (by omega) (fun h23 => ?_) (fun h23 => ?_)
              · exfalso; omega
              · refine zw_aload_n ok_M_copy rfl rfl ?_
                refine zw_getr ok_M_copy rfl fl_M_7 rfl rfl ?_
                refine zw_iload_n ok_M_copy rfl rfl ?_
                refine zw_iald ok_M_copy rfl rfl (by omega) ?_
                rw [ct.1]
                refine zw_if_ge 41 ok_M_copy rfl (by decide) (by omega) (fun h32 => ?_) (fun h32 => ?_)
                · refine zw_aload_n ok_M_copy rfl rfl ?_
                  refine zw_getr ok_M_copy rfl fl_M_7 rfl rfl ?_
                  refine zw_iload_n ok_M_copy rfl rfl ?_
                  refine zw_iald ok_M_copy rfl rfl (by omega) ?_
                  rw [cs.1]
                  refine zw_aload_n ok_M_copy rfl rfl ?_
                  refine zw_getr ok_M_copy rfl fl_M_7 rfl rfl ?_
                  refine zw_iload_n ok_M_copy rfl rfl ?_
                  refine zw_iald ok_M_copy rfl rfl (by omega) ?_
                  rw [ct.1]
                  refine zw_icmp_eq 62 ok_M_copy rfl (by decide) (by omega) (fun h53 => ?_) (fun h53 => ?_)
                  · refine zw_iload_n ok_M_copy rfl rfl ?_
                    refine zw_if_lt 111 ok_M_copy rfl (by decide) (by omega) (fun h63 => ?_) (fun h63 => ?_)
                    · refine zw_aload_n ok_M_copy rfl rfl ?_
                      refine zw_iconst ok_M_copy rfl ?_
                      refine zw_Vi ok_M_copy rfl ok_M_finds lk_M_85 (by decide) rfl rfl (Nat.le_of_ble_eq_true rfl) (ct_M_finds) (fun m113 h113 => ?_)
                      subst h113
                      exact zw_iret ok_M_copy rfl rfl (⟨rfl, MI_fnd hI hT⟩)
                    · refine zw_iload ok_M_copy rfl rfl ?_
                      refine zw_if_lt 111 ok_M_copy rfl (by decide) (by omega) (fun h68 => ?_) (fun h68 => ?_)
                      · refine zw_aload_n ok_M_copy rfl rfl ?_
                        refine zw_iconst ok_M_copy rfl ?_
                        refine zw_Vi ok_M_copy rfl ok_M_finds lk_M_85 (by decide) rfl rfl (Nat.le_of_ble_eq_true rfl) (ct_M_finds) (fun m113 h113 => ?_)
                        subst h113
                        exact zw_iret ok_M_copy rfl rfl (⟨rfl, MI_fnd hI hT⟩)
                      · refine zw_iload ok_M_copy rfl rfl ?_
                        refine zw_if_lt 111 ok_M_copy rfl (by decide) (by omega) (fun h73 => ?_) (fun h73 => ?_)
                        · refine zw_aload_n ok_M_copy rfl rfl ?_
                          refine zw_iconst ok_M_copy rfl ?_
                          refine zw_Vi ok_M_copy rfl ok_M_finds lk_M_85 (by decide) rfl rfl (Nat.le_of_ble_eq_true rfl) (ct_M_finds) (fun m113 h113 => ?_)
                          subst h113
                          exact zw_iret ok_M_copy rfl rfl (⟨rfl, MI_fnd hI hT⟩)
                        · refine zw_iload_n ok_M_copy rfl rfl ?_
                          refine zw_i2l ok_M_copy rfl (by omega) ?_
                          refine zw_iload ok_M_copy rfl rfl ?_
                          refine zw_i2l ok_M_copy rfl (by omega) ?_
                          refine zw_ladd ok_M_copy rfl ?_
                          refine zw_aload_n ok_M_copy rfl rfl ?_
                          refine zw_getr ok_M_copy rfl fl_M_13 rfl rfl ?_
                          refine zw_iload_n ok_M_copy rfl rfl ?_
                          refine zw_iald ok_M_copy rfl rfl (by omega) ?_
                          rw [cs.2.1]
                          refine zw_i2l ok_M_copy rfl (by omega) ?_
                          refine zw_lcmp ok_M_copy rfl (by omega) ?_
                          refine zw_if_gt 111 ok_M_copy rfl (by decide) (by (repeat' split) <;> omega) (fun h90 => ?_) (fun h90 => ?_)
                          · refine zw_aload_n ok_M_copy rfl rfl ?_
                            refine zw_iconst ok_M_copy rfl ?_
                            refine zw_Vi ok_M_copy rfl ok_M_finds lk_M_85 (by decide) rfl rfl (Nat.le_of_ble_eq_true rfl) (ct_M_finds) (fun m113 h113 => ?_)
                            subst h113
                            exact zw_iret ok_M_copy rfl rfl (⟨rfl, MI_fnd hI hT⟩)
                          · have h90 : ¬ τ 12 s < a + n := fun z => h90 (lc_gt.mpr z)
                            refine zw_iload ok_M_copy rfl rfl ?_
                            refine zw_i2l ok_M_copy rfl (by omega) ?_
                            refine zw_iload ok_M_copy rfl rfl ?_
                            refine zw_i2l ok_M_copy rfl (by omega) ?_
                            refine zw_ladd ok_M_copy rfl ?_
                            refine zw_aload_n ok_M_copy rfl rfl ?_
                            refine zw_getr ok_M_copy rfl fl_M_13 rfl rfl ?_
                            refine zw_iload_n ok_M_copy rfl rfl ?_
                            refine zw_iald ok_M_copy rfl rfl (by omega) ?_
                            rw [ct.2.1]
                            refine zw_i2l ok_M_copy rfl (by omega) ?_
                            refine zw_lcmp ok_M_copy rfl (by omega) ?_
                            refine zw_if_le 117 ok_M_copy rfl (by decide) (by (repeat' split) <;> omega) (fun h108 => ?_) (fun h108 => ?_)
                            · have h108 := lc_le.mp h108
                              exact absurd (show (0 ≤ a ∧ 0 ≤ n ∧ n ≤ τ 12 s - a) ∧ (0 ≤ b ∧ 0 ≤ n ∧ n ≤ τ 12 t - b) by omega) q3
                            · refine zw_aload_n ok_M_copy rfl rfl ?_
                              refine zw_iconst ok_M_copy rfl ?_
                              refine zw_Vi ok_M_copy rfl ok_M_finds lk_M_85 (by decide) rfl rfl (Nat.le_of_ble_eq_true rfl) (ct_M_finds) (fun m113 h113 => ?_)
                              subst h113
                              exact zw_iret ok_M_copy rfl rfl (⟨rfl, MI_fnd hI hT⟩)
                  · exact absurd h53 q2
                · exfalso; omega
            · exact absurd hg.2 h11
  · rw [if_neg hg, if_neg hg]
    refine zw_iload_n ok_M_copy rfl rfl ?_
    refine zw_Sbp ok_M_copy rfl ok_M_isSheet lk_M_79 (by decide) rfl (Nat.le_of_ble_eq_true rfl) (ct_M_isSheet (by omega)) ?_
    first | refine zw_ifeq_d 14 ok_M_copy rfl (by decide) (fun h4 => ?_) (fun h4 => ?_) | refine zw_ifeq_b 14 ok_M_copy rfl (by decide) (fun h4 => ?_) (fun h4 => ?_) | refine zw_if_eq 14 ok_M_copy rfl (by decide) (by omega) (fun h4 => ?_) (fun h4 => ?_)
    · refine zw_bipush ok_M_copy rfl (by decide) ?_
      exact zw_iret ok_M_copy rfl rfl (⟨rfl, hI, r47_rf⟩)
    · refine zw_iload_n ok_M_copy rfl rfl ?_
      refine zw_Sbp ok_M_copy rfl ok_M_isSheet lk_M_79 (by decide) rfl (Nat.le_of_ble_eq_true rfl) (ct_M_isSheet (by omega)) ?_
      first | refine zw_ifne_d 17 ok_M_copy rfl (by decide) (fun h11 => ?_) (fun h11 => ?_) | refine zw_ifne_b 17 ok_M_copy rfl (by decide) (fun h11 => ?_) (fun h11 => ?_) | refine zw_if_ne 17 ok_M_copy rfl (by decide) (by omega) (fun h11 => ?_) (fun h11 => ?_)
      · exact absurd ⟨h4, h11⟩ hg
      · refine zw_bipush ok_M_copy rfl (by decide) ?_
        exact zw_iret ok_M_copy rfl rfl (⟨rfl, hI, r47_rf⟩)
theorem mw_loop {h n f : Int} {m0 : zMem} (hs : 0 ≤ s ∧ s ≤ 3) (hf0 : m0 49 s = f) (hfr : zR f) (hn : n ≤ 8) : ∀ (k : Nat) (i : Int) (m : zMem), 0 ≤ i → i + k = n → mfr [] [51] m0 m → (∀ j, m 51 j = if 60 * s ≤ j ∧ j < 60 * s + i then cutS f (m0 61 (j - 60 * s)) else m0 51 j) → (∀ m2, mfr [] [51] m0 m2 → (∀ j, m2 51 j = if 60 * s ≤ j ∧ j < 60 * s + n then cutS f (m0 61 (j - 60 * s)) else m0 51 j) → Q (some (vi n)) m2) → AW m_M_write 58 [some (vr 48), some (vi h), some (vi s), some (vi n), some (vi i)] [] m Q := by
  intro k
  induction k with
  | zero =>
    intro i m h0 h1 hf hj hx
    have e : i = n := by omega
    subst e
    refine zw_iload ok_M_write rfl rfl ?_
    refine zw_iload_n ok_M_write rfl rfl ?_
    refine zw_icmp_ge 98 ok_M_write rfl (by decide) (by omega) (fun h61 => ?_) (fun h61 => ?_)
    · refine zw_iload_n ok_M_write rfl rfl ?_
      exact zw_iret ok_M_write rfl rfl (hx m hf hj)
    · exfalso; omega
  | succ k ih =>
    intro i m h0 h1 hf hj hx
    refine zw_iload ok_M_write rfl rfl ?_
    refine zw_iload_n ok_M_write rfl rfl ?_
    refine zw_icmp_ge 98 ok_M_write rfl (by decide) (by omega) (fun h61 => ?_) (fun h61 => ?_)
    · exfalso; omega
    · refine zw_aload_n ok_M_write rfl rfl ?_
      refine zw_getr ok_M_write rfl fl_M_16 rfl rfl ?_
      refine zw_bipush ok_M_write rfl (by decide) ?_
      refine zw_iload_n ok_M_write rfl rfl ?_
      refine zw_imul ok_M_write rfl ?_
      refine zw_iload ok_M_write rfl rfl ?_
      refine zw_iadd ok_M_write rfl ?_
      refine zw_aload_n ok_M_write rfl rfl ?_
      refine zw_getr ok_M_write rfl fl_M_7 rfl rfl ?_
      refine zw_iload_n ok_M_write rfl rfl ?_
      refine zw_iald ok_M_write rfl rfl (by omega) ?_
      rw [hf.1 49 (by decide) (by decide), hf0]
      refine zw_aload_n ok_M_write rfl rfl ?_
      refine zw_getr ok_M_write rfl fl_M_46 rfl rfl ?_
      refine zw_iload ok_M_write rfl rfl ?_
      refine zw_iald ok_M_write rfl rfl (by omega) ?_
      refine zw_Sip ok_M_write rfl ok_M_cut lk_M_93 (by decide) rfl (Nat.le_of_ble_eq_true rfl) (ct_M_cut hfr) ?_
      refine zw_iast ok_M_write rfl rfl (by omega) ?_
      refine zw_iinc ok_M_write rfl rfl rfl (by decide) ?_
      refine zw_goto 58 ok_M_write rfl (by decide) ?_
      refine ih (i + 1) _ (by omega) (by omega) (mfr.set hf (by decide) (by decide)) (fun j => ?_) hx
      rw [zset_eq]
      by_cases e : j = 60 * s + i
      · subst e
        rw [zupd_eq, if_pos (by omega), hf.1 61 (by decide) (by decide), show 60 * s + i - 60 * s = i by omega]
      · rw [zupd_ne e, hj j]
        by_cases w : 60 * s ≤ j ∧ j < 60 * s + i
        · rw [if_pos w, if_pos (by omega)]
        · rw [if_neg w, if_neg (by omega)]
theorem ct_M_write {h : Int} (hI : MI mem τ) (hT : tauI (nWrite τ h s)) (hh : zR h) (hs : zR s) : zCi m_M_write [vr 48, vi h, vi s] mem (qWrite τ h s) (fun m2 => MI m2 (nWrite τ h s) ∧ ref47 mem m2) := by
  refine zCt.of [some (vr 48), some (vi h), some (vi s), none, none] ok_M_write (Nat.le_of_ble_eq_true rfl) rfl ?_
  unfold qWrite nWrite at *
  by_cases hg : (0 ≤ h ∧ h ≤ 11) ∧ (0 ≤ s ∧ s ≤ 3)
  · rw [if_pos hg, if_pos hg]
    rw [if_pos hg] at hT
    have c := shM_at hI hg.2
    have b := shB_m hI hg.2
    have b1 := b.1
    have b2 := b.2.1
    by_cases h0 : τ 11 s = -1
    · rw [if_pos h0, if_pos h0]
      rw [if_pos h0] at hT
      refine zw_iload_n ok_M_write rfl rfl ?_
      refine zw_Sbp ok_M_write rfl ok_M_isHour lk_M_157 (by decide) rfl (Nat.le_of_ble_eq_true rfl) (ct_M_isHour (by omega)) ?_
      first | refine zw_ifeq_d 14 ok_M_write rfl (by decide) (fun h4 => ?_) (fun h4 => ?_) | refine zw_ifeq_b 14 ok_M_write rfl (by decide) (fun h4 => ?_) (fun h4 => ?_) | refine zw_if_eq 14 ok_M_write rfl (by decide) (by omega) (fun h4 => ?_) (fun h4 => ?_)
      · exact absurd hg.1 h4
      · refine zw_iload_n ok_M_write rfl rfl ?_
        refine zw_Sbp ok_M_write rfl ok_M_isSheet lk_M_79 (by decide) rfl (Nat.le_of_ble_eq_true rfl) (ct_M_isSheet (by omega)) ?_
        first | refine zw_ifne_d 17 ok_M_write rfl (by decide) (fun h11 => ?_) (fun h11 => ?_) | refine zw_ifne_b 17 ok_M_write rfl (by decide) (fun h11 => ?_) (fun h11 => ?_) | refine zw_if_ne 17 ok_M_write rfl (by decide) (by omega) (fun h11 => ?_) (fun h11 => ?_)
        · refine zw_aload_n ok_M_write rfl rfl ?_
          refine zw_getr ok_M_write rfl fl_M_7 rfl rfl ?_
          refine zw_iload_n ok_M_write rfl rfl ?_
          refine zw_iald ok_M_write rfl rfl (by omega) ?_
          rw [c.1]
          refine zw_if_ge 32 ok_M_write rfl (by decide) (by omega) (fun h23 => ?_) (fun h23 => ?_)
          · exfalso; omega
          · refine zw_aload_n ok_M_write rfl rfl ?_
            refine zw_iconst ok_M_write rfl ?_
            refine zw_Vi ok_M_write rfl ok_M_finds lk_M_85 (by decide) rfl rfl (Nat.le_of_ble_eq_true rfl) (ct_M_finds) (fun m28 h28 => ?_)
            subst h28
            exact zw_iret ok_M_write rfl rfl (⟨rfl, MI_fnd hI hT⟩)
        · exact absurd hg.2 h11
    · rw [if_neg h0, if_neg h0]
      rw [if_neg h0] at hT
      have fin : ∀ m1 x m3, MI m1 τ → LR τ x (aTold τ h) → mfr [] [51] (putM m1 x) m3 → (∀ j, m3 51 j = if 60 * s ≤ j ∧ j < 60 * s + min (τ 12 s) (aP τ) then cutS (τ 11 s) (putM m1 x 61 (j - 60 * s)) else putM m1 x 51 j) → MI m3 (zput τ (13 + s.toNat) (wrT τ s (aTold τ h).2.1 (min (τ 12 s) (aP τ)))) ∧ ref47 m1 m3 := by
        intro m1 x m3 hJ hL f3 f4
        have hK : MI (putM m1 x) τ := MI_of (mfr_putM.mono (by decide) (by decide)) hJ
        have c := shM_at hK hg.2
        have e49 : m3 49 = (putM m1 x) 49 := f3.1 49 (by decide) (by decide)
        have e50 : m3 50 = (putM m1 x) 50 := f3.1 50 (by decide) (by decide)
        have key := MI_sh1 (m2 := m3) hK hg.2 hT (f3.mono (by decide) (by decide)) (fun k q => zput_ne (by omega)) (fun j hj => ?_) (fun k z1 z2 => zput_ne z2) (fun j hj => ?_) ⟨?_, ?_, fun z i i0 i1 => ?_⟩
        · exact ⟨key.1, (mfr.r47 (J := dJ) (L := dL) mfr_putM (by decide)).tr key.2⟩
        · rw [zput_ne (show 11 ≠ 13 + s.toNat by omega), zput_ne (show 12 ≠ 13 + s.toNat by omega), e49, e50]; exact ⟨⟨rfl, rfl⟩, rfl, rfl⟩
        · rw [f4 j, if_neg (by omega)]
        · rw [zput_ne (show 11 ≠ 13 + s.toNat by omega), e49]; exact c.1
        · rw [zput_ne (show 12 ≠ 13 + s.toNat by omega), e50]; exact c.2.1
        · rw [zput_ne (show 12 ≠ 13 + s.toNat by omega)] at i1
          rw [zput_eq, f4]
          unfold wrT
          by_cases w : 0 ≤ i ∧ i < min (τ 12 s) (aP τ)
          · rw [if_pos (by omega), if_pos w, show 60 * s + i - 60 * s = i by omega, hL.1.2.1 i i0 (by omega)]
            rfl
          · rw [if_neg (by omega), if_neg w]
            exact c.2.2 h0 i i0 i1
      refine zw_iload_n ok_M_write rfl rfl ?_
      refine zw_Sbp ok_M_write rfl ok_M_isHour lk_M_157 (by decide) rfl (Nat.le_of_ble_eq_true rfl) (ct_M_isHour (by omega)) ?_
      first | refine zw_ifeq_d 14 ok_M_write rfl (by decide) (fun h4 => ?_) (fun h4 => ?_) | refine zw_ifeq_b 14 ok_M_write rfl (by decide) (fun h4 => ?_) (fun h4 => ?_) | refine zw_if_eq 14 ok_M_write rfl (by decide) (by omega) (fun h4 => ?_) (fun h4 => ?_)
      · exact absurd hg.1 h4
      · refine zw_iload_n ok_M_write rfl rfl ?_
        refine zw_Sbp ok_M_write rfl ok_M_isSheet lk_M_79 (by decide) rfl (Nat.le_of_ble_eq_true rfl) (ct_M_isSheet (by omega)) ?_
        first | refine zw_ifne_d 17 ok_M_write rfl (by decide) (fun h11 => ?_) (fun h11 => ?_) | refine zw_ifne_b 17 ok_M_write rfl (by decide) (fun h11 => ?_) (fun h11 => ?_) | refine zw_if_ne 17 ok_M_write rfl (by decide) (by omega) (fun h11 => ?_) (fun h11 => ?_)
        · refine zw_aload_n ok_M_write rfl rfl ?_
          refine zw_getr ok_M_write rfl fl_M_7 rfl rfl ?_
          refine zw_iload_n ok_M_write rfl rfl ?_
          refine zw_iald ok_M_write rfl rfl (by omega) ?_
          rw [c.1]
          refine zw_if_ge 32 ok_M_write rfl (by decide) (by omega) (fun h23 => ?_) (fun h23 => ?_)
          · refine zw_aload_n ok_M_write rfl rfl ?_
            refine zw_Vv ok_M_write rfl ok_M_reads lk_M_140 (by decide) rfl rfl (Nat.le_of_ble_eq_true rfl) (ct_M_reads hI) (fun m33 h33 => ?_)
            have hP := P7 h33.1
            have j33 := MIr h33.2 hI
            have c33 := shM_at j33.1 hg.2
            refine zw_aload_n ok_M_write rfl rfl ?_
            refine zw_iload_n ok_M_write rfl rfl ?_
            refine zw_Vv ok_M_write rfl ok_M_lives lk_M_216 (by decide) rfl rfl (Nat.le_of_ble_eq_true rfl) (ct_sim h33.1.2.1 hg.1) (fun m38 h38 => ?_)
            obtain ⟨x, rfl, hL⟩ := h38
            have e50 : putM m33 x 50 s = τ 12 s := c33.2.1
            have e49 : putM m33 x 49 s = τ 11 s := c33.1
            have eP : putM m33 x 48 7 = aP τ := hP.1
            have bP : 0 ≤ aP τ ∧ aP τ ≤ 8 := by rw [← hP.1]; exact hP.2
            refine zw_aload_n ok_M_write rfl rfl ?_
            refine zw_getr ok_M_write rfl fl_M_13 rfl rfl ?_
            refine zw_iload_n ok_M_write rfl rfl ?_
            refine zw_iald ok_M_write rfl rfl (by omega) ?_
            rw [e50]
            refine zw_aload_n ok_M_write rfl rfl ?_
            refine zw_geti ok_M_write rfl fl_M_109 rfl rfl ?_
            rw [eP]
            refine zw_Sip ok_M_write rfl ok_M_lesser lk_M_176 (by decide) rfl (Nat.le_of_ble_eq_true rfl) (ct_M_lesser (by omega)) ?_
            refine zw_istore_n ok_M_write rfl rfl (by decide) ?_
            refine zw_iconst ok_M_write rfl ?_
            refine zw_istore ok_M_write rfl rfl (by decide) ?_
            refine mw_loop (m0 := putM m33 x) hg.2 e49 (by omega) (by omega) (min (τ 12 s) (aP τ)).toNat 0 _ (by omega) (by omega) mfr.rf (fun j => ?_) (fun m2 f3 f4 => ⟨rfl, (fin m33 x m2 j33.1 hL f3 f4).1, j33.2.tr (fin m33 x m2 j33.1 hL f3 f4).2⟩)
            rw [if_neg (by omega)]
          · exfalso; omega
        · exact absurd hg.2 h11
  · rw [if_neg hg, if_neg hg]
    refine zw_iload_n ok_M_write rfl rfl ?_
    refine zw_Sbp ok_M_write rfl ok_M_isHour lk_M_157 (by decide) rfl (Nat.le_of_ble_eq_true rfl) (ct_M_isHour (by omega)) ?_
    first | refine zw_ifeq_d 14 ok_M_write rfl (by decide) (fun h4 => ?_) (fun h4 => ?_) | refine zw_ifeq_b 14 ok_M_write rfl (by decide) (fun h4 => ?_) (fun h4 => ?_) | refine zw_if_eq 14 ok_M_write rfl (by decide) (by omega) (fun h4 => ?_) (fun h4 => ?_)
    · refine zw_bipush ok_M_write rfl (by decide) ?_
      exact zw_iret ok_M_write rfl rfl (⟨rfl, hI, r47_rf⟩)
    · refine zw_iload_n ok_M_write rfl rfl ?_
      refine zw_Sbp ok_M_write rfl ok_M_isSheet lk_M_79 (by decide) rfl (Nat.le_of_ble_eq_true rfl) (ct_M_isSheet (by omega)) ?_
      first | refine zw_ifne_d 17 ok_M_write rfl (by decide) (fun h11 => ?_) (fun h11 => ?_) | refine zw_ifne_b 17 ok_M_write rfl (by decide) (fun h11 => ?_) (fun h11 => ?_) | refine zw_if_ne 17 ok_M_write rfl (by decide) (by omega) (fun h11 => ?_) (fun h11 => ?_)
      · exact absurd ⟨h4, h11⟩ hg
      · refine zw_bipush ok_M_write rfl (by decide) ?_
        exact zw_iret ok_M_write rfl rfl (⟨rfl, hI, r47_rf⟩)
theorem rd_stop {c it : Int} {m : zMem} (hx : Q (some (vi c)) m) : AW m_M_read 29 [some (vr 48), some (vi s), some (vi c), some (vi 0), some (vi it)] [] m Q := by
  refine zw_iload_n ok_M_read rfl rfl ?_
  refine zw_if_eq 110 ok_M_read rfl (by decide) (by omega) (fun h30 => ?_) (fun h30 => ?_)
  · refine zw_iload_n ok_M_read rfl rfl ?_
    exact zw_iret ok_M_read rfl rfl (hx)
  · exfalso; omega
theorem mr_loop (hs : 0 ≤ s ∧ s ≤ 3) {m0 : zMem} : ∀ (k : Nat) (c : Int) (m τ : zMem), 0 ≤ c ∧ c ≤ 20 → 58 ≤ 3 * c + 3 * k → MI m τ → ref47 m0 m → τ 11 s ≠ -1 → (∀ m2, MI m2 (rdS s k (3 * c) c τ).2 → ref47 m0 m2 → Q (some (vi (rdS s k (3 * c) c τ).1)) m2) → AW m_M_read 29 [some (vr 48), some (vi s), some (vi c), some (vi 1), none] [] m Q := by
  intro k
  induction k with
  | zero =>
    intro c m τ h0 h1 hI hr hl hx
    have sm := shM_at hI hs
    have b := shB_m hI hs
    have b2 := b.2.1
    refine zw_iload_n ok_M_read rfl rfl ?_
    refine zw_if_eq 110 ok_M_read rfl (by decide) (by omega) (fun h30 => ?_) (fun h30 => ?_)
    · exfalso; omega
    · refine zw_iconst ok_M_read rfl ?_
      refine zw_iload_n ok_M_read rfl rfl ?_
      refine zw_imul ok_M_read rfl ?_
      refine zw_iconst ok_M_read rfl ?_
      refine zw_iadd ok_M_read rfl ?_
      refine zw_aload_n ok_M_read rfl rfl ?_
      refine zw_getr ok_M_read rfl fl_M_13 rfl rfl ?_
      refine zw_iload_n ok_M_read rfl rfl ?_
      refine zw_iald ok_M_read rfl rfl (by omega) ?_
      rw [sm.2.1]
      refine zw_icmp_gt 110 ok_M_read rfl (by decide) (by omega) (fun h44 => ?_) (fun h44 => ?_)
      · refine zw_iload_n ok_M_read rfl rfl ?_
        exact zw_iret ok_M_read rfl rfl (hx m hI hr)
      · exfalso; omega
  | succ k ih =>
    intro c m τ h0 h1 hI hr hl hx
    have sm := shM_at hI hs
    have b := shB_m hI hs
    have b2 := b.2.1
    have bo := hI.1.1.2.2.1
    unfold rdS at hx
    by_cases hz : 3 * c + 3 ≤ τ 12 s
    · have e0 := sm.2.2 hl (3 * c) (by omega) (by omega)
      have e1 := sm.2.2 hl (3 * c + 1) (by omega) (by omega)
      have e2 := sm.2.2 hl (3 * c + 2) (by omega) (by omega)
      have r0 := b.2.2 (3 * c) (by omega) (by omega) hl
      have r1 := b.2.2 (3 * c + 1) (by omega) (by omega) hl
      have r2 := b.2.2 (3 * c + 2) (by omega) (by omega) hl
      rw [show 60 * s + (3 * c + 1) = 60 * s + 3 * c + 1 by omega] at e1
      rw [show 60 * s + (3 * c + 2) = 60 * s + 3 * c + 2 by omega] at e2
      generalize τ (13 + s.toNat) (3 * c) = x0 at e0 r0 hx
      generalize τ (13 + s.toNat) (3 * c + 1) = x1 at e1 r1 hx
      generalize τ (13 + s.toNat) (3 * c + 2) = x2 at e2 r2 hx
      by_cases hg : ((0 ≤ x0 ∧ x0 ≤ 7) ∧ (0 ≤ x1 ∧ x1 ≤ 7) ∧ x0 ≠ x1 ∧ 1 ≤ x2 ∧ x2 ≤ 99) ∧ τ 2 2 < 12
      · rw [if_pos ⟨⟨hz, hg.1⟩, hg.2⟩] at hx
        have eq : qOld τ x0 x1 x2 = τ 2 2 + 1 := by unfold qOld; rw [if_pos hg.1, if_pos hg.2]
        have en : nOld τ x0 x1 x2 = addO τ x0 x1 x2 := by unfold nOld; rw [if_pos hg]
        have ko : zCi m_M_old [vr 48, vi x0, vi x1, vi x2] m (qOld τ x0 x1 x2) (fun m2 => MI m2 (nOld τ x0 x1 x2) ∧ ref47 m m2) := ct_M_old hI (by rw [en]; exact addO_I hI.1 hg.1 hg.2) r0 r1 r2
        rw [eq, en] at ko
        rw [show 3 * c + 3 = 3 * (c + 1) by omega] at hx
        have e11 : addO τ x0 x1 x2 11 s ≠ -1 := hl
        refine zw_iload_n ok_M_read rfl rfl ?_
        refine zw_if_eq 110 ok_M_read rfl (by decide) (by omega) (fun h30 => ?_) (fun h30 => ?_)
        · exfalso; omega
        · refine zw_iconst ok_M_read rfl ?_
          refine zw_iload_n ok_M_read rfl rfl ?_
          refine zw_imul ok_M_read rfl ?_
          refine zw_iconst ok_M_read rfl ?_
          refine zw_iadd ok_M_read rfl ?_
          refine zw_aload_n ok_M_read rfl rfl ?_
          refine zw_getr ok_M_read rfl fl_M_13 rfl rfl ?_
          refine zw_iload_n ok_M_read rfl rfl ?_
          refine zw_iald ok_M_read rfl rfl (by omega) ?_
          rw [sm.2.1]
          refine zw_icmp_gt 110 ok_M_read rfl (by decide) (by omega) (fun h44 => ?_) (fun h44 => ?_)
          · exfalso; omega
          · refine zw_bipush ok_M_read rfl (by decide) ?_
            refine zw_iload_n ok_M_read rfl rfl ?_
            refine zw_imul ok_M_read rfl ?_
            refine zw_iconst ok_M_read rfl ?_
            refine zw_iload_n ok_M_read rfl rfl ?_
            refine zw_imul ok_M_read rfl ?_
            refine zw_iadd ok_M_read rfl ?_
            refine zw_istore ok_M_read rfl rfl (by decide) ?_
            refine zw_aload_n ok_M_read rfl rfl ?_
            refine zw_aload_n ok_M_read rfl rfl ?_
            refine zw_getr ok_M_read rfl fl_M_16 rfl rfl ?_
            refine zw_iload ok_M_read rfl rfl ?_
            refine zw_iald ok_M_read rfl rfl (by omega) ?_
            rw [e0]
            refine zw_aload_n ok_M_read rfl rfl ?_
            refine zw_getr ok_M_read rfl fl_M_16 rfl rfl ?_
            refine zw_iload ok_M_read rfl rfl ?_
            refine zw_iconst ok_M_read rfl ?_
            refine zw_iadd ok_M_read rfl ?_
            refine zw_iald ok_M_read rfl rfl (by omega) ?_
            rw [e1]
            refine zw_aload_n ok_M_read rfl rfl ?_
            refine zw_getr ok_M_read rfl fl_M_16 rfl rfl ?_
            refine zw_iload ok_M_read rfl rfl ?_
            refine zw_iconst ok_M_read rfl ?_
            refine zw_iadd ok_M_read rfl ?_
            refine zw_iald ok_M_read rfl rfl (by omega) ?_
            rw [e2]
            refine zw_Vi ok_M_read rfl ok_M_old lk_M_164 (by decide) rfl rfl (Nat.le_of_ble_eq_true rfl) (ko) (fun m83 h83 => ?_)
            refine zw_if_lt 93 ok_M_read rfl (by decide) (by omega) (fun h86 => ?_) (fun h86 => ?_)
            · exfalso; omega
            · refine zw_iconst ok_M_read rfl ?_
              refine zw_goto 94 ok_M_read rfl (by decide) ?_
              refine zw_istore_n ok_M_read rfl rfl (by decide) ?_
              refine zw_iload_n ok_M_read rfl rfl ?_
              refine zw_iload_n ok_M_read rfl rfl ?_
              refine zw_if_eq 104 ok_M_read rfl (by decide) (by omega) (fun h97 => ?_) (fun h97 => ?_)
              · exfalso; omega
              · refine zw_iconst ok_M_read rfl ?_
                refine zw_goto 105 ok_M_read rfl (by decide) ?_
                refine zw_iadd ok_M_read rfl ?_
                refine zw_istore_n ok_M_read rfl rfl (by decide) ?_
                refine zw_goto 29 ok_M_read rfl (by decide) ?_
                exact zw_mask [true, true, true, true, false] rfl (ih (c + 1) _ _ (by omega) (by omega) h83.1 (hr.tr h83.2) e11 hx)
      · rw [if_neg (fun z => hg ⟨z.1.2, z.2⟩)] at hx
        have eq : qOld τ x0 x1 x2 < 0 ∧ -5 < qOld τ x0 x1 x2 := by
          unfold qOld
          by_cases q : (0 ≤ x0 ∧ x0 ≤ 7) ∧ (0 ≤ x1 ∧ x1 ≤ 7) ∧ x0 ≠ x1 ∧ 1 ≤ x2 ∧ x2 ≤ 99
          · rw [if_pos q, if_neg (fun z => hg ⟨q, z⟩)]; omega
          · rw [if_neg q]; omega
        have en : nOld τ x0 x1 x2 = τ := by unfold nOld; rw [if_neg hg]
        have ko : zCi m_M_old [vr 48, vi x0, vi x1, vi x2] m (qOld τ x0 x1 x2) (fun m2 => MI m2 (nOld τ x0 x1 x2) ∧ ref47 m m2) := ct_M_old hI (by rw [en]; exact hI.1) r0 r1 r2
        rw [en] at ko
        generalize qOld τ x0 x1 x2 = y at eq ko
        refine zw_iload_n ok_M_read rfl rfl ?_
        refine zw_if_eq 110 ok_M_read rfl (by decide) (by omega) (fun h30 => ?_) (fun h30 => ?_)
        · exfalso; omega
        · refine zw_iconst ok_M_read rfl ?_
          refine zw_iload_n ok_M_read rfl rfl ?_
          refine zw_imul ok_M_read rfl ?_
          refine zw_iconst ok_M_read rfl ?_
          refine zw_iadd ok_M_read rfl ?_
          refine zw_aload_n ok_M_read rfl rfl ?_
          refine zw_getr ok_M_read rfl fl_M_13 rfl rfl ?_
          refine zw_iload_n ok_M_read rfl rfl ?_
          refine zw_iald ok_M_read rfl rfl (by omega) ?_
          rw [sm.2.1]
          refine zw_icmp_gt 110 ok_M_read rfl (by decide) (by omega) (fun h44 => ?_) (fun h44 => ?_)
          · exfalso; omega
          · refine zw_bipush ok_M_read rfl (by decide) ?_
            refine zw_iload_n ok_M_read rfl rfl ?_
            refine zw_imul ok_M_read rfl ?_
            refine zw_iconst ok_M_read rfl ?_
            refine zw_iload_n ok_M_read rfl rfl ?_
            refine zw_imul ok_M_read rfl ?_
            refine zw_iadd ok_M_read rfl ?_
            refine zw_istore ok_M_read rfl rfl (by decide) ?_
            refine zw_aload_n ok_M_read rfl rfl ?_
            refine zw_aload_n ok_M_read rfl rfl ?_
            refine zw_getr ok_M_read rfl fl_M_16 rfl rfl ?_
            refine zw_iload ok_M_read rfl rfl ?_
            refine zw_iald ok_M_read rfl rfl (by omega) ?_
            rw [e0]
            refine zw_aload_n ok_M_read rfl rfl ?_
            refine zw_getr ok_M_read rfl fl_M_16 rfl rfl ?_
            refine zw_iload ok_M_read rfl rfl ?_
            refine zw_iconst ok_M_read rfl ?_
            refine zw_iadd ok_M_read rfl ?_
            refine zw_iald ok_M_read rfl rfl (by omega) ?_
            rw [e1]
            refine zw_aload_n ok_M_read rfl rfl ?_
            refine zw_getr ok_M_read rfl fl_M_16 rfl rfl ?_
            refine zw_iload ok_M_read rfl rfl ?_
            refine zw_iconst ok_M_read rfl ?_
            refine zw_iadd ok_M_read rfl ?_
            refine zw_iald ok_M_read rfl rfl (by omega) ?_
            rw [e2]
            refine zw_Vi ok_M_read rfl ok_M_old lk_M_164 (by decide) rfl rfl (Nat.le_of_ble_eq_true rfl) (ko) (fun m83 h83 => ?_)
            refine zw_if_lt 93 ok_M_read rfl (by decide) (by omega) (fun h86 => ?_) (fun h86 => ?_)
            · refine zw_iconst ok_M_read rfl ?_
              refine zw_istore_n ok_M_read rfl rfl (by decide) ?_
              refine zw_iload_n ok_M_read rfl rfl ?_
              refine zw_iload_n ok_M_read rfl rfl ?_
              refine zw_if_eq 104 ok_M_read rfl (by decide) (by omega) (fun h97 => ?_) (fun h97 => ?_)
              · refine zw_iconst ok_M_read rfl ?_
                refine zw_iadd ok_M_read rfl ?_
                refine zw_istore_n ok_M_read rfl rfl (by decide) ?_
                refine zw_goto 29 ok_M_read rfl (by decide) ?_
                exact rd_stop (by rw [Int.add_zero]; exact hx _ h83.1 (hr.tr h83.2))
              · exfalso; omega
            · exfalso; omega
    · rw [if_neg (fun z => hz z.1.1)] at hx
      refine zw_iload_n ok_M_read rfl rfl ?_
      refine zw_if_eq 110 ok_M_read rfl (by decide) (by omega) (fun h30 => ?_) (fun h30 => ?_)
      · exfalso; omega
      · refine zw_iconst ok_M_read rfl ?_
        refine zw_iload_n ok_M_read rfl rfl ?_
        refine zw_imul ok_M_read rfl ?_
        refine zw_iconst ok_M_read rfl ?_
        refine zw_iadd ok_M_read rfl ?_
        refine zw_aload_n ok_M_read rfl rfl ?_
        refine zw_getr ok_M_read rfl fl_M_13 rfl rfl ?_
        refine zw_iload_n ok_M_read rfl rfl ?_
        refine zw_iald ok_M_read rfl rfl (by omega) ?_
        rw [sm.2.1]
        refine zw_icmp_gt 110 ok_M_read rfl (by decide) (by omega) (fun h44 => ?_) (fun h44 => ?_)
        · refine zw_iload_n ok_M_read rfl rfl ?_
          exact zw_iret ok_M_read rfl rfl (hx m hI hr)
        · exfalso; omega
theorem ct_M_read (hI : MI mem τ) (hT : tauI (nRead τ s)) (hs : zR s) : zCi m_M_read [vr 48, vi s] mem (qRead τ s) (fun m2 => MI m2 (nRead τ s) ∧ ref47 mem m2) := by
  refine zCt.of [some (vr 48), some (vi s), none, none, none] ok_M_read (Nat.le_of_ble_eq_true rfl) rfl ?_
  unfold qRead nRead at *
  by_cases hg : 0 ≤ s ∧ s ≤ 3
  · rw [if_pos hg, if_pos hg]
    rw [if_pos hg] at hT
    have c := shM_at hI hg
    have b := shB_m hI hg
    have b1 := b.1
    by_cases h0 : τ 11 s = -1
    · rw [if_pos h0, if_pos h0]
      rw [if_pos h0] at hT
      refine zw_iload_n ok_M_read rfl rfl ?_
      refine zw_Sbp ok_M_read rfl ok_M_isSheet lk_M_79 (by decide) rfl (Nat.le_of_ble_eq_true rfl) (ct_M_isSheet (by omega)) ?_
      first | refine zw_ifne_d 10 ok_M_read rfl (by decide) (fun h4 => ?_) (fun h4 => ?_) | refine zw_ifne_b 10 ok_M_read rfl (by decide) (fun h4 => ?_) (fun h4 => ?_) | refine zw_if_ne 10 ok_M_read rfl (by decide) (by omega) (fun h4 => ?_) (fun h4 => ?_)
      · refine zw_aload_n ok_M_read rfl rfl ?_
        refine zw_getr ok_M_read rfl fl_M_7 rfl rfl ?_
        refine zw_iload_n ok_M_read rfl rfl ?_
        refine zw_iald ok_M_read rfl rfl (by omega) ?_
        rw [c.1]
        refine zw_if_ge 25 ok_M_read rfl (by decide) (by omega) (fun h16 => ?_) (fun h16 => ?_)
        · exfalso; omega
        · refine zw_aload_n ok_M_read rfl rfl ?_
          refine zw_iconst ok_M_read rfl ?_
          refine zw_Vi ok_M_read rfl ok_M_finds lk_M_85 (by decide) rfl rfl (Nat.le_of_ble_eq_true rfl) (ct_M_finds) (fun m21 h21 => ?_)
          subst h21
          exact zw_iret ok_M_read rfl rfl (⟨rfl, MI_fnd hI hT⟩)
      · exact absurd hg h4
    · rw [if_neg h0, if_neg h0]
      refine zw_iload_n ok_M_read rfl rfl ?_
      refine zw_Sbp ok_M_read rfl ok_M_isSheet lk_M_79 (by decide) rfl (Nat.le_of_ble_eq_true rfl) (ct_M_isSheet (by omega)) ?_
      first | refine zw_ifne_d 10 ok_M_read rfl (by decide) (fun h4 => ?_) (fun h4 => ?_) | refine zw_ifne_b 10 ok_M_read rfl (by decide) (fun h4 => ?_) (fun h4 => ?_) | refine zw_if_ne 10 ok_M_read rfl (by decide) (by omega) (fun h4 => ?_) (fun h4 => ?_)
      · refine zw_aload_n ok_M_read rfl rfl ?_
        refine zw_getr ok_M_read rfl fl_M_7 rfl rfl ?_
        refine zw_iload_n ok_M_read rfl rfl ?_
        refine zw_iald ok_M_read rfl rfl (by omega) ?_
        rw [c.1]
        refine zw_if_ge 25 ok_M_read rfl (by decide) (by omega) (fun h16 => ?_) (fun h16 => ?_)
        · refine zw_iconst ok_M_read rfl ?_
          refine zw_istore_n ok_M_read rfl rfl (by decide) ?_
          refine zw_iconst ok_M_read rfl ?_
          refine zw_istore_n ok_M_read rfl rfl (by decide) ?_
          exact mr_loop hg (m0 := mem) 20 0 mem τ (by omega) (by omega) hI r47_rf h0 (fun m2 q1 q2 => ⟨rfl, q1, q2⟩)
        · exfalso; omega
      · exact absurd hg h4
  · rw [if_neg hg, if_neg hg]
    refine zw_iload_n ok_M_read rfl rfl ?_
    refine zw_Sbp ok_M_read rfl ok_M_isSheet lk_M_79 (by decide) rfl (Nat.le_of_ble_eq_true rfl) (ct_M_isSheet (by omega)) ?_
    first | refine zw_ifne_d 10 ok_M_read rfl (by decide) (fun h4 => ?_) (fun h4 => ?_) | refine zw_ifne_b 10 ok_M_read rfl (by decide) (fun h4 => ?_) (fun h4 => ?_) | refine zw_if_ne 10 ok_M_read rfl (by decide) (by omega) (fun h4 => ?_) (fun h4 => ?_)
    · exact absurd h4 hg
    · refine zw_bipush ok_M_read rfl (by decide) ?_
      exact zw_iret ok_M_read rfl rfl (⟨rfl, hI, r47_rf⟩)
end
