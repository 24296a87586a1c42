/-! ===== LowerBows: type, wipe, undo, fault, person, street ===== -/
def qType (τ : zMem) (t b : Int) : Int := if (0 ≤ t ∧ t ≤ 1) ∧ (0 ≤ b ∧ b ≤ 255) then (if τ 2 t < cap t then τ 2 t + 1 else -4) else -2
def nType (τ : zMem) (t b : Int) : zMem := if ((0 ≤ t ∧ t ≤ 1) ∧ (0 ≤ b ∧ b ≤ 255)) ∧ τ 2 t < cap t then typT τ t b else τ
def qWipe (τ : zMem) (t : Int) : Int := if 0 ≤ t ∧ t ≤ 1 then τ 2 t else -2
def nWipe (τ : zMem) (t : Int) : zMem := if 0 ≤ t ∧ t ≤ 1 then sizT τ t 0 else τ
def qUndo (τ : zMem) (t : Int) : Int := if 0 ≤ t ∧ t ≤ 1 then (if τ 2 t = 0 then -3 else τ 2 t - 1) else -2
def nUndo (τ : zMem) (t : Int) : zMem := if (0 ≤ t ∧ t ≤ 1) ∧ τ 2 t ≠ 0 then sizT τ t (τ 2 t - 1) else τ
def qFault (τ : zMem) (t : Int) : Int := if 0 ≤ t ∧ t ≤ 1 then (if t = 0 then sFp (τ 2 0) (τ 0) else sFw (τ 2 1) (τ 1)) else -2
def qPerson (τ : zMem) (p w : Int) : Int := if 0 ≤ p ∧ p < aP τ then (if w = 0 then sK (τ 0) p else if w = 1 then sCan (τ 0) p else if w = 2 then sLo (τ 0) p else -2) else -2
def qStreet (τ : zMem) (h p : Int) : Int := if (0 ≤ h ∧ h ≤ 11) ∧ (0 ≤ p ∧ p < aP τ) then aSr τ h p else -2
section
variable {mem τ : zMem}
theorem tx0_typ {b : Int} (h : tx0 mem (τ 2 0) (τ 0)) (hb : 0 ≤ b ∧ b ≤ 255) (hc : τ 2 0 < 39) : tx0 (zset (zset mem 2 (mem 1 1) b) 1 1 (mem 1 1 + 1)) (typT τ 0 b 2 0) (typT τ 0 b 0) := by
  obtain ⟨e, hn, ht⟩ := h
  refine ⟨?_, ?_, fun i q1 q2 => ?_⟩
  · show mem 1 1 + 1 = τ 2 0 + 1; rw [e]
  · show 0 ≤ τ 2 0 + 1 ∧ τ 2 0 + 1 ≤ 39; omega
  · have q2 : i < τ 2 0 + 1 := q2
    show zupd (mem 2) (mem 1 1) b i = zupd (τ 0) (τ 2 0) b i ∧ 0 ≤ zupd (τ 0) (τ 2 0) b i ∧ zupd (τ 0) (τ 2 0) b i ≤ 255
    rw [e]
    by_cases ei : i = τ 2 0
    · subst ei; rw [zupd_eq, zupd_eq]; exact ⟨rfl, hb⟩
    · rw [zupd_ne ei, zupd_ne ei]; exact ht i q1 (by omega)
theorem tx1_typ {b : Int} (h : tx1 mem (τ 2 1) (τ 1)) (hb : 0 ≤ b ∧ b ≤ 255) (hc : τ 2 1 < 71) : tx1 (zset (zset mem 4 (mem 3 1) b) 3 1 (mem 3 1 + 1)) (typT τ 1 b 2 1) (typT τ 1 b 1) := by
  obtain ⟨e, hn, ht⟩ := h
  refine ⟨?_, ?_, fun i q1 q2 => ?_⟩
  · show mem 3 1 + 1 = τ 2 1 + 1; rw [e]
  · show 0 ≤ τ 2 1 + 1 ∧ τ 2 1 + 1 ≤ 71; omega
  · have q2 : i < τ 2 1 + 1 := q2
    show zupd (mem 4) (mem 3 1) b i = zupd (τ 1) (τ 2 1) b i ∧ 0 ≤ zupd (τ 1) (τ 2 1) b i ∧ zupd (τ 1) (τ 2 1) b i ≤ 255
    rw [e]
    by_cases ei : i = τ 2 1
    · subst ei; rw [zupd_eq, zupd_eq]; exact ⟨rfl, hb⟩
    · rw [zupd_ne ei, zupd_ne ei]; exact ht i q1 (by omega)
theorem tx0_siz {n v : Int} (h : tx0 mem (τ 2 0) (τ 0)) (hn : 0 ≤ n ∧ n ≤ τ 2 0) (hv : v = n) : tx0 (zset mem 1 1 v) (sizT τ 0 n 2 0) (sizT τ 0 n 0) := by
  obtain ⟨e, hn2, ht⟩ := h
  refine ⟨hv, ?_, fun i q1 q2 => ?_⟩
  · show 0 ≤ n ∧ n ≤ 39; omega
  · have q2 : i < n := q2
    exact ht i q1 (by omega)
theorem tx1_siz {n v : Int} (h : tx1 mem (τ 2 1) (τ 1)) (hn : 0 ≤ n ∧ n ≤ τ 2 1) (hv : v = n) : tx1 (zset mem 3 1 v) (sizT τ 1 n 2 1) (sizT τ 1 n 1) := by
  obtain ⟨e, hn2, ht⟩ := h
  refine ⟨hv, ?_, fun i q1 q2 => ?_⟩
  · show 0 ≤ n ∧ n ≤ 71; omega
  · have q2 : i < n := q2
    exact ht i q1 (by omega)
theorem CI_typ0 {b : Int} {m2 : zMem} (hI : CI mem τ) (hb : 0 ≤ b ∧ b ≤ 255) (hc : τ 2 0 < 39) (h : pplC m2 (typT τ 0 b 2 0) (typT τ 0 b 0) ∧ zfr [5, 6, 7, 8, 9] (zset (zset mem 2 (mem 1 1) b) 1 1 (mem 1 1 + 1)) m2) : CI m2 (typT τ 0 b) ∧ cls48 mem m2 := by
  refine ⟨CI_t0 hI (typT_I hI.1 (Or.inl rfl) hb (by unfold cap; rw [if_pos rfl]; exact hc)) rfl (fun k hk => ?_) (fun j hj => ?_) (fun k h1 h2 => ?_) (tx0_typ hI.2.1.1 hb hc) h.1 h.2, (cls48.tr (cls48.st (by omega)) (cls48.st (by omega))).tr (cls48.fr h.2 (by decide))⟩
  · show zset (zset τ 0 (τ 2 0) b) 2 0 (τ 2 0 + 1) k = τ k
    rw [zset_ne (by omega), zset_ne (by omega)]
  · show zupd (τ 2) 0 (τ 2 0 + 1) j = τ 2 j
    exact zupd_ne (by omega)
  · rw [zset_ne h1, zset_ne h2]
theorem CI_typ1 {b : Int} {m2 : zMem} (hI : CI mem τ) (hb : 0 ≤ b ∧ b ≤ 255) (hc : τ 2 1 < 71) (h : wlkC m2 (typT τ 1 b 2 1) (typT τ 1 b 1) ∧ zfr [10, 11] (zset (zset mem 4 (mem 3 1) b) 3 1 (mem 3 1 + 1)) m2) : CI m2 (typT τ 1 b) ∧ cls48 mem m2 := by
  refine ⟨CI_t1 hI (typT_I hI.1 (Or.inr rfl) hb (by unfold cap; rw [if_neg (by decide)]; exact hc)) rfl (fun k hk => ?_) (fun j hj => ?_) (fun k h1 h2 => ?_) (tx1_typ hI.2.1.2 hb hc) h.1 h.2, (cls48.tr (cls48.st (by omega)) (cls48.st (by omega))).tr (cls48.fr h.2 (by decide))⟩
  · show zset (zset τ 1 (τ 2 1) b) 2 1 (τ 2 1 + 1) k = τ k
    rw [zset_ne (by omega), zset_ne (by omega)]
  · show zupd (τ 2) 1 (τ 2 1 + 1) j = τ 2 j
    exact zupd_ne (by omega)
  · rw [zset_ne h1, zset_ne h2]
theorem CI_siz0 {n v : Int} {m2 : zMem} (hI : CI mem τ) (hn : 0 ≤ n ∧ n ≤ τ 2 0) (hv : v = n) (h : pplC m2 (sizT τ 0 n 2 0) (sizT τ 0 n 0) ∧ zfr [5, 6, 7, 8, 9] (zset mem 1 1 v) m2) : CI m2 (sizT τ 0 n) ∧ cls48 mem m2 := by
  refine ⟨CI_t0 hI (sizT_I hI.1 (Or.inl rfl) hn) rfl (fun k hk => ?_) (fun j hj => ?_) (fun k h1 h2 => zset_ne h1) (tx0_siz hI.2.1.1 hn hv) h.1 h.2, (cls48.st (by omega)).tr (cls48.fr h.2 (by decide))⟩
  · exact zset_ne (by omega)
  · show zupd (τ 2) 0 n j = τ 2 j
    exact zupd_ne (by omega)
theorem CI_siz1 {n v : Int} {m2 : zMem} (hI : CI mem τ) (hn : 0 ≤ n ∧ n ≤ τ 2 1) (hv : v = n) (h : wlkC m2 (sizT τ 1 n 2 1) (sizT τ 1 n 1) ∧ zfr [10, 11] (zset mem 3 1 v) m2) : CI m2 (sizT τ 1 n) ∧ cls48 mem m2 := by
  refine ⟨CI_t1 hI (sizT_I hI.1 (Or.inr rfl) hn) rfl (fun k hk => ?_) (fun j hj => ?_) (fun k h1 h2 => zset_ne h1) (tx1_siz hI.2.1.2 hn hv) h.1 h.2, (cls48.st (by omega)).tr (cls48.fr h.2 (by decide))⟩
  · exact zset_ne (by omega)
  · show zupd (τ 2) 1 n j = τ 2 j
    exact zupd_ne (by omega)
theorem ct_B_type {t b : Int} (hI : CI mem τ) (ht : zR t) (hb : zR b) : zCi m_B_type [vr 0, vi t, vi b] mem (qType τ t b) (fun m2 => CI m2 (nType τ t b) ∧ cls48 mem m2) := by
  refine zCt.of [some (vr 0), some (vi t), some (vi b), none] ok_B_type (Nat.le_of_ble_eq_true rfl) rfl ?_
  have e0 := hI.2.1.1.1
  have e1 := hI.2.1.2.1
  have b0 := hI.1.1.1
  have b1 := hI.1.1.2.1
  unfold qType nType cap
  by_cases hg : (0 ≤ t ∧ t ≤ 1) ∧ (0 ≤ b ∧ b ≤ 255)
  · rw [if_pos hg]
    have hb2 := hg.2
    have : t = 0 ∨ t = 1 := by omega
    rcases this with rfl | rfl
    · rw [if_pos rfl]
      refine zw_iload_n ok_B_type rfl rfl ?_
      refine zw_Sbp ok_B_type rfl ok_B_isText lk_B_96 (by decide) rfl (Nat.le_of_ble_eq_true rfl) (ct_B_isText (by omega)) ?_
      first | refine zw_ifeq_d 18 ok_B_type rfl (by decide) (fun h4 => ?_) (fun h4 => ?_) | refine zw_ifeq_b 18 ok_B_type rfl (by decide) (fun h4 => ?_) (fun h4 => ?_) | refine zw_if_eq 18 ok_B_type rfl (by decide) (by omega) (fun h4 => ?_) (fun h4 => ?_)
      · exact absurd hg.1 h4
      · refine zw_iload_n ok_B_type rfl rfl ?_
        refine zw_iconst ok_B_type rfl ?_
        refine zw_sipush ok_B_type rfl (by decide) ?_
        refine zw_Sbp ok_B_type rfl ok_B_within lk_B_100 (by decide) rfl (Nat.le_of_ble_eq_true rfl) (ct_B_within (by omega)) ?_
        first | refine zw_ifne_d 21 ok_B_type rfl (by decide) (fun h15 => ?_) (fun h15 => ?_) | refine zw_ifne_b 21 ok_B_type rfl (by decide) (fun h15 => ?_) (fun h15 => ?_) | refine zw_if_ne 21 ok_B_type rfl (by decide) (by omega) (fun h15 => ?_) (fun h15 => ?_)
        · refine zw_aload_n ok_B_type rfl rfl ?_
          refine zw_iload_n ok_B_type rfl rfl ?_
          refine zw_Vrp ok_B_type rfl ok_B_textOf lk_B_104 (by decide) rfl rfl (Nat.le_of_ble_eq_true rfl) (ct_B_textOf (by omega)) ?_
          rw [if_pos rfl]
          refine zw_astore_n ok_B_type rfl rfl (by decide) ?_
          refine zw_aload_n ok_B_type rfl rfl ?_
          refine zw_geti ok_B_type rfl fl_B_108 rfl rfl ?_
          refine zw_aload_n ok_B_type rfl rfl ?_
          refine zw_getr ok_B_type rfl fl_B_112 rfl rfl ?_
          refine zw_alen ok_B_type rfl rfl (by decide) ?_
          refine zw_icmp_lt 42 ok_B_type rfl (by decide) (by omega) (fun h36 => ?_) (fun h36 => ?_)
          · have hc : τ 2 0 < 39 := by omega
            rw [if_pos hc, if_pos ⟨hg, hc⟩]
            refine zw_aload_n ok_B_type rfl rfl ?_
            refine zw_iload_n ok_B_type rfl rfl ?_
            refine zw_Vv ok_B_type rfl ok_Tx_append lk_B_116 (by decide) rfl rfl (Nat.le_of_ble_eq_true rfl) (ct_Tx_append (Or.inl ⟨rfl, rfl⟩) (by omega)) (fun m44 h44 => ?_)
            subst h44
            refine zw_aload_n ok_B_type rfl rfl ?_
            refine zw_iload_n ok_B_type rfl rfl ?_
            refine zw_Vv ok_B_type rfl ok_B_readAgain lk_B_119 (by decide) rfl rfl (Nat.le_of_ble_eq_true rfl) (ct_B_readAgain0 (tx0_typ hI.2.1.1 hb2 hc)) (fun m49 h49 => ?_)
            refine zw_aload_n ok_B_type rfl rfl ?_
            refine zw_geti ok_B_type rfl fl_B_108 rfl rfl ?_
            rw [h49.2 1 (by decide), zset_eq, zupd_eq]
            exact zw_iret ok_B_type rfl rfl (⟨by rw [e0], CI_typ0 hI hb2 hc h49⟩)
          · rw [if_neg (by omega), if_neg (by omega)]
            refine zw_bipush ok_B_type rfl (by decide) ?_
            exact zw_iret ok_B_type rfl rfl (⟨rfl, hI, fun _ _ => rfl⟩)
        · exact absurd hg.2 h15
    · rw [show (if (1 : Int) = 0 then (39 : Int) else 71) = 71 from rfl]
      refine zw_iload_n ok_B_type rfl rfl ?_
      refine zw_Sbp ok_B_type rfl ok_B_isText lk_B_96 (by decide) rfl (Nat.le_of_ble_eq_true rfl) (ct_B_isText (by omega)) ?_
      first | refine zw_ifeq_d 18 ok_B_type rfl (by decide) (fun h4 => ?_) (fun h4 => ?_) | refine zw_ifeq_b 18 ok_B_type rfl (by decide) (fun h4 => ?_) (fun h4 => ?_) | refine zw_if_eq 18 ok_B_type rfl (by decide) (by omega) (fun h4 => ?_) (fun h4 => ?_)
      · exact absurd hg.1 h4
      · refine zw_iload_n ok_B_type rfl rfl ?_
        refine zw_iconst ok_B_type rfl ?_
        refine zw_sipush ok_B_type rfl (by decide) ?_
        refine zw_Sbp ok_B_type rfl ok_B_within lk_B_100 (by decide) rfl (Nat.le_of_ble_eq_true rfl) (ct_B_within (by omega)) ?_
        first | refine zw_ifne_d 21 ok_B_type rfl (by decide) (fun h15 => ?_) (fun h15 => ?_) | refine zw_ifne_b 21 ok_B_type rfl (by decide) (fun h15 => ?_) (fun h15 => ?_) | refine zw_if_ne 21 ok_B_type rfl (by decide) (by omega) (fun h15 => ?_) (fun h15 => ?_)
        · refine zw_aload_n ok_B_type rfl rfl ?_
          refine zw_iload_n ok_B_type rfl rfl ?_
          refine zw_Vrp ok_B_type rfl ok_B_textOf lk_B_104 (by decide) rfl rfl (Nat.le_of_ble_eq_true rfl) (ct_B_textOf (by omega)) ?_
          rw [if_neg (by decide)]
          refine zw_astore_n ok_B_type rfl rfl (by decide) ?_
          refine zw_aload_n ok_B_type rfl rfl ?_
          refine zw_geti ok_B_type rfl fl_B_108 rfl rfl ?_
          refine zw_aload_n ok_B_type rfl rfl ?_
          refine zw_getr ok_B_type rfl fl_B_112 rfl rfl ?_
          refine zw_alen ok_B_type rfl rfl (by decide) ?_
          refine zw_icmp_lt 42 ok_B_type rfl (by decide) (by omega) (fun h36 => ?_) (fun h36 => ?_)
          · have hc : τ 2 1 < 71 := by omega
            rw [if_pos hc, if_pos ⟨hg, hc⟩]
            refine zw_aload_n ok_B_type rfl rfl ?_
            refine zw_iload_n ok_B_type rfl rfl ?_
            refine zw_Vv ok_B_type rfl ok_Tx_append lk_B_116 (by decide) rfl rfl (Nat.le_of_ble_eq_true rfl) (ct_Tx_append (Or.inr ⟨rfl, rfl⟩) (by omega)) (fun m44 h44 => ?_)
            subst h44
            refine zw_aload_n ok_B_type rfl rfl ?_
            refine zw_iload_n ok_B_type rfl rfl ?_
            refine zw_Vv ok_B_type rfl ok_B_readAgain lk_B_119 (by decide) rfl rfl (Nat.le_of_ble_eq_true rfl) (ct_B_readAgain1 (tx1_typ hI.2.1.2 hb2 hc)) (fun m49 h49 => ?_)
            refine zw_aload_n ok_B_type rfl rfl ?_
            refine zw_geti ok_B_type rfl fl_B_108 rfl rfl ?_
            rw [h49.2 3 (by decide), zset_eq, zupd_eq]
            exact zw_iret ok_B_type rfl rfl (⟨by rw [e1], CI_typ1 hI hb2 hc h49⟩)
          · rw [if_neg (by omega), if_neg (by omega)]
            refine zw_bipush ok_B_type rfl (by decide) ?_
            exact zw_iret ok_B_type rfl rfl (⟨rfl, hI, fun _ _ => rfl⟩)
        · exact absurd hg.2 h15
  · rw [if_neg hg, if_neg (fun q => hg q.1)]
    refine zw_iload_n ok_B_type rfl rfl ?_
    refine zw_Sbp ok_B_type rfl ok_B_isText lk_B_96 (by decide) rfl (Nat.le_of_ble_eq_true rfl) (ct_B_isText (by omega)) ?_
    first | refine zw_ifeq_d 18 ok_B_type rfl (by decide) (fun h4 => ?_) (fun h4 => ?_) | refine zw_ifeq_b 18 ok_B_type rfl (by decide) (fun h4 => ?_) (fun h4 => ?_) | refine zw_if_eq 18 ok_B_type rfl (by decide) (by omega) (fun h4 => ?_) (fun h4 => ?_)
    · refine zw_bipush ok_B_type rfl (by decide) ?_
      exact zw_iret ok_B_type rfl rfl (⟨rfl, hI, fun _ _ => rfl⟩)
    · refine zw_iload_n ok_B_type rfl rfl ?_
      refine zw_iconst ok_B_type rfl ?_
      refine zw_sipush ok_B_type rfl (by decide) ?_
      refine zw_Sbp ok_B_type rfl ok_B_within lk_B_100 (by decide) rfl (Nat.le_of_ble_eq_true rfl) (ct_B_within (by omega)) ?_
      first | refine zw_ifne_d 21 ok_B_type rfl (by decide) (fun h15 => ?_) (fun h15 => ?_) | refine zw_ifne_b 21 ok_B_type rfl (by decide) (fun h15 => ?_) (fun h15 => ?_) | refine zw_if_ne 21 ok_B_type rfl (by decide) (by omega) (fun h15 => ?_) (fun h15 => ?_)
      · exact absurd ⟨h4, h15⟩ hg
      · refine zw_bipush ok_B_type rfl (by decide) ?_
        exact zw_iret ok_B_type rfl rfl (⟨rfl, hI, fun _ _ => rfl⟩)
theorem ct_B_wipe {t : Int} (hI : CI mem τ) (ht : zR t) : zCi m_B_wipe [vr 0, vi t] mem (qWipe τ t) (fun m2 => CI m2 (nWipe τ t) ∧ cls48 mem m2) := by
  refine zCt.of [some (vr 0), some (vi t), none, none] ok_B_wipe (Nat.le_of_ble_eq_true rfl) rfl ?_
  have e0 := hI.2.1.1.1
  have e1 := hI.2.1.2.1
  have b0 := hI.1.1.1
  have b1 := hI.1.1.2.1
  unfold qWipe nWipe
  by_cases hg : 0 ≤ t ∧ t ≤ 1
  · rw [if_pos hg, if_pos hg]
    have : t = 0 ∨ t = 1 := by omega
    rcases this with rfl | rfl
    · refine zw_iload_n ok_B_wipe rfl rfl ?_
      refine zw_Sbp ok_B_wipe rfl ok_B_isText lk_B_96 (by decide) rfl (Nat.le_of_ble_eq_true rfl) (ct_B_isText (by omega)) ?_
      first | refine zw_ifne_d 10 ok_B_wipe rfl (by decide) (fun h4 => ?_) (fun h4 => ?_) | refine zw_ifne_b 10 ok_B_wipe rfl (by decide) (fun h4 => ?_) (fun h4 => ?_) | refine zw_if_ne 10 ok_B_wipe rfl (by decide) (by omega) (fun h4 => ?_) (fun h4 => ?_)
      · refine zw_aload_n ok_B_wipe rfl rfl ?_
        refine zw_iload_n ok_B_wipe rfl rfl ?_
        refine zw_Vrp ok_B_wipe rfl ok_B_textOf lk_B_104 (by decide) rfl rfl (Nat.le_of_ble_eq_true rfl) (ct_B_textOf (by omega)) ?_
        rw [if_pos rfl]
        refine zw_astore_n ok_B_wipe rfl rfl (by decide) ?_
        refine zw_aload_n ok_B_wipe rfl rfl ?_
        refine zw_geti ok_B_wipe rfl fl_B_108 rfl rfl ?_
        refine zw_istore_n ok_B_wipe rfl rfl (by decide) ?_
        refine zw_aload_n ok_B_wipe rfl rfl ?_
        refine zw_iconst ok_B_wipe rfl ?_
        refine zw_puti ok_B_wipe rfl fp_B_108 rfl rfl ?_
        refine zw_aload_n ok_B_wipe rfl rfl ?_
        refine zw_iload_n ok_B_wipe rfl rfl ?_
        refine zw_Vv ok_B_wipe rfl ok_B_readAgain lk_B_119 (by decide) rfl rfl (Nat.le_of_ble_eq_true rfl) (ct_B_readAgain0 (tx0_siz (v := 0) (n := 0) hI.2.1.1 (by omega) rfl)) (fun m28 h28 => ?_)
        refine zw_iload_n ok_B_wipe rfl rfl ?_
        exact zw_iret ok_B_wipe rfl rfl (⟨by rw [e0], CI_siz0 hI (by omega) rfl h28⟩)
      · exact absurd hg h4
    · refine zw_iload_n ok_B_wipe rfl rfl ?_
      refine zw_Sbp ok_B_wipe rfl ok_B_isText lk_B_96 (by decide) rfl (Nat.le_of_ble_eq_true rfl) (ct_B_isText (by omega)) ?_
      first | refine zw_ifne_d 10 ok_B_wipe rfl (by decide) (fun h4 => ?_) (fun h4 => ?_) | refine zw_ifne_b 10 ok_B_wipe rfl (by decide) (fun h4 => ?_) (fun h4 => ?_) | refine zw_if_ne 10 ok_B_wipe rfl (by decide) (by omega) (fun h4 => ?_) (fun h4 => ?_)
      · refine zw_aload_n ok_B_wipe rfl rfl ?_
        refine zw_iload_n ok_B_wipe rfl rfl ?_
        refine zw_Vrp ok_B_wipe rfl ok_B_textOf lk_B_104 (by decide) rfl rfl (Nat.le_of_ble_eq_true rfl) (ct_B_textOf (by omega)) ?_
        rw [if_neg (by decide)]
        refine zw_astore_n ok_B_wipe rfl rfl (by decide) ?_
        refine zw_aload_n ok_B_wipe rfl rfl ?_
        refine zw_geti ok_B_wipe rfl fl_B_108 rfl rfl ?_
        refine zw_istore_n ok_B_wipe rfl rfl (by decide) ?_
        refine zw_aload_n ok_B_wipe rfl rfl ?_
        refine zw_iconst ok_B_wipe rfl ?_
        refine zw_puti ok_B_wipe rfl fp_B_108 rfl rfl ?_
        refine zw_aload_n ok_B_wipe rfl rfl ?_
        refine zw_iload_n ok_B_wipe rfl rfl ?_
        refine zw_Vv ok_B_wipe rfl ok_B_readAgain lk_B_119 (by decide) rfl rfl (Nat.le_of_ble_eq_true rfl) (ct_B_readAgain1 (tx1_siz (v := 0) (n := 0) hI.2.1.2 (by omega) rfl)) (fun m28 h28 => ?_)
        refine zw_iload_n ok_B_wipe rfl rfl ?_
        exact zw_iret ok_B_wipe rfl rfl (⟨by rw [e1], CI_siz1 hI (by omega) rfl h28⟩)
      · exact absurd hg h4
  · rw [if_neg hg, if_neg hg]
    refine zw_iload_n ok_B_wipe rfl rfl ?_
    refine zw_Sbp ok_B_wipe rfl ok_B_isText lk_B_96 (by decide) rfl (Nat.le_of_ble_eq_true rfl) (ct_B_isText (by omega)) ?_
    first | refine zw_ifne_d 10 ok_B_wipe rfl (by decide) (fun h4 => ?_) (fun h4 => ?_) | refine zw_ifne_b 10 ok_B_wipe rfl (by decide) (fun h4 => ?_) (fun h4 => ?_) | refine zw_if_ne 10 ok_B_wipe rfl (by decide) (by omega) (fun h4 => ?_) (fun h4 => ?_)
    · exact absurd h4 hg
    · refine zw_bipush ok_B_wipe rfl (by decide) ?_
      exact zw_iret ok_B_wipe rfl rfl (⟨rfl, hI, fun _ _ => rfl⟩)
theorem ct_B_undo {t : Int} (hI : CI mem τ) (ht : zR t) : zCi m_B_undo [vr 0, vi t] mem (qUndo τ t) (fun m2 => CI m2 (nUndo τ t) ∧ cls48 mem m2) := by
  refine zCt.of [some (vr 0), some (vi t), none] ok_B_undo (Nat.le_of_ble_eq_true rfl) rfl ?_
  have e0 := hI.2.1.1.1
  have e1 := hI.2.1.2.1
  have b0 := hI.1.1.1
  have b1 := hI.1.1.2.1
  unfold qUndo nUndo
  by_cases hg : 0 ≤ t ∧ t ≤ 1
  · rw [if_pos hg]
    have : t = 0 ∨ t = 1 := by omega
    rcases this with rfl | rfl
    · refine zw_iload_n ok_B_undo rfl rfl ?_
      refine zw_Sbp ok_B_undo rfl ok_B_isText lk_B_96 (by decide) rfl (Nat.le_of_ble_eq_true rfl) (ct_B_isText (by omega)) ?_
      first | refine zw_ifne_d 10 ok_B_undo rfl (by decide) (fun h4 => ?_) (fun h4 => ?_) | refine zw_ifne_b 10 ok_B_undo rfl (by decide) (fun h4 => ?_) (fun h4 => ?_) | refine zw_if_ne 10 ok_B_undo rfl (by decide) (by omega) (fun h4 => ?_) (fun h4 => ?_)
      · refine zw_aload_n ok_B_undo rfl rfl ?_
        refine zw_iload_n ok_B_undo rfl rfl ?_
        refine zw_Vrp ok_B_undo rfl ok_B_textOf lk_B_104 (by decide) rfl rfl (Nat.le_of_ble_eq_true rfl) (ct_B_textOf (by omega)) ?_
        rw [if_pos rfl]
        refine zw_astore_n ok_B_undo rfl rfl (by decide) ?_
        refine zw_aload_n ok_B_undo rfl rfl ?_
        refine zw_geti ok_B_undo rfl fl_B_108 rfl rfl ?_
        refine zw_if_ne 26 ok_B_undo rfl (by decide) (by omega) (fun h20 => ?_) (fun h20 => ?_)
        · rw [if_neg (by omega), if_pos ⟨hg, by omega⟩]
          refine zw_aload_n ok_B_undo rfl rfl ?_
          first | refine zw_dupi ok_B_undo rfl ?_ | refine zw_dupr ok_B_undo rfl ?_
          refine zw_geti ok_B_undo rfl fl_B_108 rfl rfl ?_
          refine zw_iconst ok_B_undo rfl ?_
          refine zw_isub ok_B_undo rfl ?_
          refine zw_puti ok_B_undo rfl fp_B_108 rfl rfl ?_
          refine zw_aload_n ok_B_undo rfl rfl ?_
          refine zw_iload_n ok_B_undo rfl rfl ?_
          refine zw_Vv ok_B_undo rfl ok_B_readAgain lk_B_119 (by decide) rfl rfl (Nat.le_of_ble_eq_true rfl) (ct_B_readAgain0 (tx0_siz (v := mem 1 1 - 1) (n := τ 2 0 - 1) hI.2.1.1 (by omega) (by omega))) (fun m38 h38 => ?_)
          refine zw_aload_n ok_B_undo rfl rfl ?_
          refine zw_geti ok_B_undo rfl fl_B_108 rfl rfl ?_
          rw [h38.2 1 (by decide), zset_eq, zupd_eq]
          exact zw_iret ok_B_undo rfl rfl (⟨by rw [e0], CI_siz0 hI (by omega) (by omega) h38⟩)
        · rw [if_pos (by omega), if_neg (by omega)]
          refine zw_bipush ok_B_undo rfl (by decide) ?_
          exact zw_iret ok_B_undo rfl rfl (⟨rfl, hI, fun _ _ => rfl⟩)
      · exact absurd hg h4
    · refine zw_iload_n ok_B_undo rfl rfl ?_
      refine zw_Sbp ok_B_undo rfl ok_B_isText lk_B_96 (by decide) rfl (Nat.le_of_ble_eq_true rfl) (ct_B_isText (by omega)) ?_
      first | refine zw_ifne_d 10 ok_B_undo rfl (by decide) (fun h4 => ?_) (fun h4 => ?_) | refine zw_ifne_b 10 ok_B_undo rfl (by decide) (fun h4 => ?_) (fun h4 => ?_) | refine zw_if_ne 10 ok_B_undo rfl (by decide) (by omega) (fun h4 => ?_) (fun h4 => ?_)
      · refine zw_aload_n ok_B_undo rfl rfl ?_
        refine zw_iload_n ok_B_undo rfl rfl ?_
        refine zw_Vrp ok_B_undo rfl ok_B_textOf lk_B_104 (by decide) rfl rfl (Nat.le_of_ble_eq_true rfl) (ct_B_textOf (by omega)) ?_
        rw [if_neg (by decide)]
        refine zw_astore_n ok_B_undo rfl rfl (by decide) ?_
        refine zw_aload_n ok_B_undo rfl rfl ?_
        refine zw_geti ok_B_undo rfl fl_B_108 rfl rfl ?_
        refine zw_if_ne 26 ok_B_undo rfl (by decide) (by omega) (fun h20 => ?_) (fun h20 => ?_)
        · rw [if_neg (by omega), if_pos ⟨hg, by omega⟩]
          refine zw_aload_n ok_B_undo rfl rfl ?_
          first | refine zw_dupi ok_B_undo rfl ?_ | refine zw_dupr ok_B_undo rfl ?_
          refine zw_geti ok_B_undo rfl fl_B_108 rfl rfl ?_
          refine zw_iconst ok_B_undo rfl ?_
          refine zw_isub ok_B_undo rfl ?_
          refine zw_puti ok_B_undo rfl fp_B_108 rfl rfl ?_
          refine zw_aload_n ok_B_undo rfl rfl ?_
          refine zw_iload_n ok_B_undo rfl rfl ?_
          refine zw_Vv ok_B_undo rfl ok_B_readAgain lk_B_119 (by decide) rfl rfl (Nat.le_of_ble_eq_true rfl) (ct_B_readAgain1 (tx1_siz (v := mem 3 1 - 1) (n := τ 2 1 - 1) hI.2.1.2 (by omega) (by omega))) (fun m38 h38 => ?_)
          refine zw_aload_n ok_B_undo rfl rfl ?_
          refine zw_geti ok_B_undo rfl fl_B_108 rfl rfl ?_
          rw [h38.2 3 (by decide), zset_eq, zupd_eq]
          exact zw_iret ok_B_undo rfl rfl (⟨by rw [e1], CI_siz1 hI (by omega) (by omega) h38⟩)
        · rw [if_pos (by omega), if_neg (by omega)]
          refine zw_bipush ok_B_undo rfl (by decide) ?_
          exact zw_iret ok_B_undo rfl rfl (⟨rfl, hI, fun _ _ => rfl⟩)
      · exact absurd hg h4
  · rw [if_neg hg, if_neg (fun q => hg q.1)]
    refine zw_iload_n ok_B_undo rfl rfl ?_
    refine zw_Sbp ok_B_undo rfl ok_B_isText lk_B_96 (by decide) rfl (Nat.le_of_ble_eq_true rfl) (ct_B_isText (by omega)) ?_
    first | refine zw_ifne_d 10 ok_B_undo rfl (by decide) (fun h4 => ?_) (fun h4 => ?_) | refine zw_ifne_b 10 ok_B_undo rfl (by decide) (fun h4 => ?_) (fun h4 => ?_) | refine zw_if_ne 10 ok_B_undo rfl (by decide) (by omega) (fun h4 => ?_) (fun h4 => ?_)
    · exact absurd h4 hg
    · refine zw_bipush ok_B_undo rfl (by decide) ?_
      exact zw_iret ok_B_undo rfl rfl (⟨rfl, hI, fun _ _ => rfl⟩)
theorem ct_B_fault {t : Int} (hI : CI mem τ) (ht : zR t) : zCip m_B_fault [vr 0, vi t] mem (qFault τ t) := by
  refine zCt.of [some (vr 0), some (vi t)] ok_B_fault (Nat.le_of_ble_eq_true rfl) rfl ?_
  have e0 := hI.2.2.1.1.1.2.2
  have e1 := hI.2.2.1.2.1.2
  unfold qFault
  refine zw_iload_n ok_B_fault rfl rfl ?_
  refine zw_Sbp ok_B_fault rfl ok_B_isText lk_B_96 (by decide) rfl (Nat.le_of_ble_eq_true rfl) (ct_B_isText (by omega)) ?_
  first | refine zw_ifne_d 10 ok_B_fault rfl (by decide) (fun h4 => ?_) (fun h4 => ?_) | refine zw_ifne_b 10 ok_B_fault rfl (by decide) (fun h4 => ?_) (fun h4 => ?_) | refine zw_if_ne 10 ok_B_fault rfl (by decide) (by omega) (fun h4 => ?_) (fun h4 => ?_)
  · rw [if_pos h4]
    refine zw_iload_n ok_B_fault rfl rfl ?_
    refine zw_if_ne 24 ok_B_fault rfl (by decide) (by omega) (fun h11 => ?_) (fun h11 => ?_)
    · rw [if_neg h11]
      refine zw_aload_n ok_B_fault rfl rfl ?_
      refine zw_getr ok_B_fault rfl fl_B_31 rfl rfl ?_
      refine zw_geti ok_B_fault rfl fl_B_125 rfl rfl ?_
      rw [e1]
      exact zw_iret ok_B_fault rfl rfl (⟨rfl, rfl⟩)
    · rw [if_pos h11]
      refine zw_aload_n ok_B_fault rfl rfl ?_
      refine zw_getr ok_B_fault rfl fl_B_24 rfl rfl ?_
      refine zw_geti ok_B_fault rfl fl_B_122 rfl rfl ?_
      rw [e0]
      refine zw_goto 31 ok_B_fault rfl (by decide) ?_
      exact zw_iret ok_B_fault rfl rfl (⟨rfl, rfl⟩)
  · rw [if_neg h4]
    refine zw_bipush ok_B_fault rfl (by decide) ?_
    exact zw_iret ok_B_fault rfl rfl (⟨rfl, rfl⟩)
theorem isP_CI (hI : CI mem τ) : 0 ≤ mem 5 4 ∧ mem 5 4 ≤ 8 := (okC_CI hI).1.1
theorem eP_CI (hI : CI mem τ) : mem 5 4 = aP τ := hI.2.2.1.1.1.1
theorem ct_B_person {p w : Int} (hI : CI mem τ) (hp : zR p) (hw : zR w) : zCip m_B_person [vr 0, vi p, vi w] mem (qPerson τ p w) := by
  refine zCt.of [some (vr 0), some (vi p), some (vi w)] ok_B_person (Nat.le_of_ble_eq_true rfl) rfl ?_
  have hP := isP_CI hI
  have eP := eP_CI hI
  unfold qPerson
  rw [← eP]
  have fin : (0 ≤ p ∧ p ≤ mem 5 4 - 1) → AW m_B_person 11 [some (vr 0), some (vi p), some (vi w)] [] mem (fun r m2 => r = some (vi (if 0 ≤ p ∧ p < mem 5 4 then (if w = 0 then sK (τ 0) p else if w = 1 then sCan (τ 0) p else if w = 2 then sLo (τ 0) p else -2) else -2)) ∧ m2 = mem) := by
    intro hg
    have hm := hI.2.2.1.1.2 p hg.1 (show p < aP τ by omega)
    rw [if_pos (by omega)]
    refine zw_iload_n ok_B_person rfl rfl ?_
    by_cases w0 : w = 0
    · subst w0
      refine zw_tin 40 ok_B_person rfl (by decide) (by decide) rfl (by decide) ?_
      rw [if_pos rfl, ← hm.1.1]
      refine zw_aload_n ok_B_person rfl rfl ?_
      refine zw_getr ok_B_person rfl fl_B_24 rfl rfl ?_
      refine zw_getr ok_B_person rfl fl_B_129 rfl rfl ?_
      refine zw_iload_n ok_B_person rfl rfl ?_
      refine zw_iald ok_B_person rfl rfl (by omega) ?_
      exact zw_iret ok_B_person rfl rfl (⟨rfl, rfl⟩)
    · rw [if_neg w0]
      by_cases w1 : w = 1
      · subst w1
        refine zw_tin 50 ok_B_person rfl (by decide) (by decide) rfl (by decide) ?_
        rw [if_pos rfl, ← hm.1.2]
        refine zw_aload_n ok_B_person rfl rfl ?_
        refine zw_getr ok_B_person rfl fl_B_24 rfl rfl ?_
        refine zw_getr ok_B_person rfl fl_B_132 rfl rfl ?_
        refine zw_iload_n ok_B_person rfl rfl ?_
        refine zw_iald ok_B_person rfl rfl (by omega) ?_
        exact zw_iret ok_B_person rfl rfl (⟨rfl, rfl⟩)
      · rw [if_neg w1]
        by_cases w2 : w = 2
        · subst w2
          refine zw_tin 60 ok_B_person rfl (by decide) (by decide) rfl (by decide) ?_
          rw [if_pos rfl, ← hm.2.1]
          refine zw_aload_n ok_B_person rfl rfl ?_
          refine zw_getr ok_B_person rfl fl_B_24 rfl rfl ?_
          refine zw_getr ok_B_person rfl fl_B_135 rfl rfl ?_
          refine zw_iload_n ok_B_person rfl rfl ?_
          refine zw_iald ok_B_person rfl rfl (by omega) ?_
          exact zw_iret ok_B_person rfl rfl (⟨rfl, rfl⟩)
        · rw [if_neg w2]
          refine zw_tout 70 ok_B_person rfl hw (by omega) (by decide) ?_
          refine zw_bipush ok_B_person rfl (by decide) ?_
          exact zw_iret ok_B_person rfl rfl (⟨rfl, rfl⟩)
  refine zw_aload_n ok_B_person rfl rfl ?_
  refine zw_iload_n ok_B_person rfl rfl ?_
  refine zw_Vbp ok_B_person rfl ok_B_isPerson lk_B_126 (by decide) rfl rfl (Nat.le_of_ble_eq_true rfl) (ct_B_isPerson ⟨hp, hP⟩) ?_
  refine zw_ifne_d 11 ok_B_person rfl (by decide) (fun h5 => ?_) (fun h5 => ?_)
  · exact fin h5
  · refine zw_bipush ok_B_person rfl (by decide) ?_
    exact zw_iret ok_B_person rfl rfl (⟨by rw [if_neg (by omega)], rfl⟩)
theorem ct_B_street {h p : Int} (hI : CI mem τ) (hh : zR h) (hp : zR p) : zCip m_B_street [vr 0, vi h, vi p] mem (qStreet τ h p) := by
  refine zCt.of [some (vr 0), some (vi h), some (vi p)] ok_B_street (Nat.le_of_ble_eq_true rfl) rfl ?_
  have hP := isP_CI hI
  have eP := eP_CI hI
  unfold qStreet
  rw [← eP]
  refine zw_iload_n ok_B_street rfl rfl ?_
  refine zw_Sbp ok_B_street rfl ok_B_isHour lk_B_138 (by decide) rfl (Nat.le_of_ble_eq_true rfl) (ct_B_isHour (by omega)) ?_
  refine zw_ifeq_d 15 ok_B_street rfl (by decide) (fun h4 => ?_) (fun h4 => ?_)
  · refine zw_bipush ok_B_street rfl (by decide) ?_
    exact zw_iret ok_B_street rfl rfl (⟨by rw [if_neg (by omega)], rfl⟩)
  · refine zw_aload_n ok_B_street rfl rfl ?_
    refine zw_iload_n ok_B_street rfl rfl ?_
    refine zw_Vbp ok_B_street rfl ok_B_isPerson lk_B_126 (by decide) rfl rfl (Nat.le_of_ble_eq_true rfl) (ct_B_isPerson ⟨hp, hP⟩) ?_
    refine zw_ifne_d 18 ok_B_street rfl (by decide) (fun h12 => ?_) (fun h12 => ?_)
    · refine zw_aload_n ok_B_street rfl rfl ?_
      refine zw_getr ok_B_street rfl fl_B_31 rfl rfl ?_
      refine zw_getr ok_B_street rfl fl_B_141 rfl rfl ?_
      refine zw_iload_n ok_B_street rfl rfl ?_
      refine zw_bipush ok_B_street rfl (by decide) ?_
      refine zw_imul ok_B_street rfl ?_
      refine zw_iload_n ok_B_street rfl rfl ?_
      refine zw_iadd ok_B_street rfl ?_
      refine zw_iald ok_B_street rfl rfl (by omega) ?_
      exact zw_iret ok_B_street rfl rfl (⟨by rw [if_pos (by omega)]; rw [hI.2.2.1.2.2 h p h4.1 (by omega) h12.1 (by omega)], rfl⟩)
    · refine zw_bipush ok_B_street rfl (by decide) ?_
      exact zw_iret ok_B_street rfl rfl (⟨by rw [if_neg (by omega)], rfl⟩)
end
