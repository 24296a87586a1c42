/-! ===== the reference: low, behind, owes, first, count ===== -/
section
variable {mem m2 τ τ2 : zMem} {Q : Option zVal → zMem → Prop} {ol ff : Int}
theorem LR.low {x : zM} {t : zS} {p : Int} (h : LR τ x t) (hp : 0 ≤ p ∧ p < aP τ) : x.2.2.1 p = t.2.1 p := (h.1.2.1 p hp.1 hp.2).symm
theorem putR (h : MR mem τ) {x : zM} : MR (putM mem x) τ := MR_of mfr_putM h
theorem MR.r (hI : MI mem τ) (h : MR m2 τ) (hf : mfr rJ rL mem m2) : MI m2 τ ∧ ref47 mem m2 := ⟨h.1, hf.r47 (by decide)⟩
theorem put47 {x : zM} : ref47 mem (putM mem x) := mfr.r47 (J := dJ) (L := dL) mfr_putM (by decide)
theorem ct_M_lowOf {t p : Int} (h : MRv mem τ ol ff) (ht : 0 ≤ t ∧ t ≤ 11) (hp : 0 ≤ p ∧ p < aP τ) : zCi m_M_lowOf [vr 48, vi t, vi p] mem ((aSim τ ol ff (t + 1).toNat).2.1 p) (fun m2 => ∃ x, m2 = putM mem x) := by
  refine zCt.of [some (vr 48), some (vi t), some (vi p)] ok_M_lowOf (Nat.le_of_ble_eq_true rfl) rfl ?_
  have hP := aP_b h.1
  refine zw_aload_n ok_M_lowOf rfl rfl ?_
  refine zw_iload_n ok_M_lowOf rfl rfl ?_
  refine zw_Vv ok_M_lowOf rfl ok_M_lives lk_M_216 (by decide) rfl rfl (Nat.le_of_ble_eq_true rfl) (ct_sim h ht) (fun m2 h2 => ?_)
  obtain ⟨x, rfl, hL⟩ := h2
  refine zw_aload_n ok_M_lowOf rfl rfl ?_
  refine zw_getr ok_M_lowOf rfl fl_M_46 rfl rfl ?_
  refine zw_iload_n ok_M_lowOf rfl rfl ?_
  refine zw_iald ok_M_lowOf rfl rfl (by omega) ?_
  exact zw_iret ok_M_lowOf rfl rfl (⟨by rw [← hL.low hp]; rfl, x, rfl⟩)
theorem ct_M_low {h p : Int} (hI : MI mem τ) (hh : zR h) (hp : zR p) : zCi m_M_low [vr 48, vi h, vi p] mem (qLow τ h p) (fun m2 => MI m2 τ ∧ ref47 mem m2) := by
  refine zCt.of [some (vr 48), some (vi h), some (vi p)] ok_M_low (Nat.le_of_ble_eq_true rfl) rfl ?_
  unfold qLow
  by_cases hg : (0 ≤ h ∧ h ≤ 11) ∧ (0 ≤ p ∧ p < aP τ)
  · rw [if_pos hg]
    refine zw_aload_n ok_M_low rfl rfl ?_
    refine zw_Vv ok_M_low rfl ok_M_reads lk_M_140 (by decide) rfl rfl (Nat.le_of_ble_eq_true rfl) (ct_M_reads hI) (fun m1 h1 => ?_)
    have hP := P7 h1.1
    refine zw_iload_n ok_M_low rfl rfl ?_
    refine zw_Sbp ok_M_low rfl ok_M_isHour lk_M_157 (by decide) rfl (Nat.le_of_ble_eq_true rfl) (ct_M_isHour (by omega)) ?_
    first | refine zw_ifeq_d 28 ok_M_low rfl (by decide) (fun h8 => ?_) (fun h8 => ?_) | refine zw_ifeq_b 28 ok_M_low rfl (by decide) (fun h8 => ?_) (fun h8 => ?_) | refine zw_if_eq 28 ok_M_low rfl (by decide) (by omega) (fun h8 => ?_) (fun h8 => ?_)
    · exact absurd hg.1 h8
    · refine zw_aload_n ok_M_low rfl rfl ?_
      refine zw_iload_n ok_M_low rfl rfl ?_
      refine zw_Vbp ok_M_low rfl ok_M_isPerson lk_M_143 (by decide) rfl rfl (Nat.le_of_ble_eq_true rfl) (ct_M_isPerson hp hP.2) ?_
      first | refine zw_ifeq_d 28 ok_M_low rfl (by decide) (fun h16 => ?_) (fun h16 => ?_) | refine zw_ifeq_b 28 ok_M_low rfl (by decide) (fun h16 => ?_) (fun h16 => ?_) | refine zw_if_eq 28 ok_M_low rfl (by decide) (by omega) (fun h16 => ?_) (fun h16 => ?_)
      · exact absurd ⟨hg.2.1, by rw [hP.1]; omega⟩ h16
      · refine zw_aload_n ok_M_low rfl rfl ?_
        refine zw_iload_n ok_M_low rfl rfl ?_
        refine zw_iload_n ok_M_low rfl rfl ?_
        refine zw_Vi ok_M_low rfl ok_M_lowOf lk_M_220 (by decide) rfl rfl (Nat.le_of_ble_eq_true rfl) (ct_M_lowOf h1.1.2.1 hg.1 hg.2) (fun m22 h22 => ?_)
        obtain ⟨x, rfl⟩ := h22
        refine zw_goto 30 ok_M_low rfl (by decide) ?_
        exact zw_iret ok_M_low rfl rfl (⟨rfl, (putR h1.1).1, (h1.2.r47 (by decide)).tr put47⟩)
  · rw [if_neg hg]
    refine zw_aload_n ok_M_low rfl rfl ?_
    refine zw_Vv ok_M_low rfl ok_M_reads lk_M_140 (by decide) rfl rfl (Nat.le_of_ble_eq_true rfl) (ct_M_reads hI) (fun m1 h1 => ?_)
    have hP := P7 h1.1
    refine zw_iload_n ok_M_low rfl rfl ?_
    refine zw_Sbp ok_M_low rfl ok_M_isHour lk_M_157 (by decide) rfl (Nat.le_of_ble_eq_true rfl) (ct_M_isHour (by omega)) ?_
    first | refine zw_ifeq_d 28 ok_M_low rfl (by decide) (fun h8 => ?_) (fun h8 => ?_) | refine zw_ifeq_b 28 ok_M_low rfl (by decide) (fun h8 => ?_) (fun h8 => ?_) | refine zw_if_eq 28 ok_M_low rfl (by decide) (by omega) (fun h8 => ?_) (fun h8 => ?_)
    · refine zw_bipush ok_M_low rfl (by decide) ?_
      exact zw_iret ok_M_low rfl rfl (⟨rfl, MIr h1.2 hI⟩)
    · refine zw_aload_n ok_M_low rfl rfl ?_
      refine zw_iload_n ok_M_low rfl rfl ?_
      refine zw_Vbp ok_M_low rfl ok_M_isPerson lk_M_143 (by decide) rfl rfl (Nat.le_of_ble_eq_true rfl) (ct_M_isPerson hp hP.2) ?_
      first | refine zw_ifeq_d 28 ok_M_low rfl (by decide) (fun h16 => ?_) (fun h16 => ?_) | refine zw_ifeq_b 28 ok_M_low rfl (by decide) (fun h16 => ?_) (fun h16 => ?_) | refine zw_if_eq 28 ok_M_low rfl (by decide) (by omega) (fun h16 => ?_) (fun h16 => ?_)
      · refine zw_bipush ok_M_low rfl (by decide) ?_
        exact zw_iret ok_M_low rfl rfl (⟨rfl, MIr h1.2 hI⟩)
      · exact absurd ⟨h8, h16.1, by rw [← hP.1]; omega⟩ hg
theorem ct_M_behindOf {t w : Int} (h : MRv mem τ ol ff) (ht : 0 ≤ t ∧ t ≤ 11) (hw : 0 ≤ w ∧ w ≤ 1) : zCi m_M_behindOf [vr 48, vi t, vi w] mem (if w = 0 then (aSim τ ol ff (t + 1).toNat).2.2.1 else (aSim τ ol ff (t + 1).toNat).2.2.2.1) (fun m2 => ∃ x, m2 = putM mem x) := by
  refine zCt.of [some (vr 48), some (vi t), some (vi w)] ok_M_behindOf (Nat.le_of_ble_eq_true rfl) rfl ?_
  refine zw_aload_n ok_M_behindOf rfl rfl ?_
  refine zw_iload_n ok_M_behindOf rfl rfl ?_
  refine zw_Vv ok_M_behindOf rfl ok_M_lives lk_M_216 (by decide) rfl rfl (Nat.le_of_ble_eq_true rfl) (ct_sim h ht) (fun m2 h2 => ?_)
  obtain ⟨x, rfl, hL⟩ := h2
  refine zw_iload_n ok_M_behindOf rfl rfl ?_
  refine zw_if_ne 16 ok_M_behindOf rfl (by decide) (by omega) (fun h6 => ?_) (fun h6 => ?_)
  · rw [if_neg h6, hL.1.2.2.2.1]
    refine zw_aload_n ok_M_behindOf rfl rfl ?_
    refine zw_geti ok_M_behindOf rfl fl_M_185 rfl rfl ?_
    exact zw_iret ok_M_behindOf rfl rfl (⟨rfl, x, rfl⟩)
  · rw [if_pos h6, hL.1.2.2.1]
    refine zw_aload_n ok_M_behindOf rfl rfl ?_
    refine zw_geti ok_M_behindOf rfl fl_M_182 rfl rfl ?_
    refine zw_goto 20 ok_M_behindOf rfl (by decide) ?_
    exact zw_iret ok_M_behindOf rfl rfl (⟨rfl, x, rfl⟩)
theorem ct_M_behind {h w : Int} (hI : MI mem τ) (hh : zR h) (hw : zR w) : zCi m_M_behind [vr 48, vi h, vi w] mem (qBehind τ h w) (fun m2 => MI m2 τ ∧ ref47 mem m2) := by
  refine zCt.of [some (vr 48), some (vi h), some (vi w)] ok_M_behind (Nat.le_of_ble_eq_true rfl) rfl ?_
  unfold qBehind
  by_cases hg : (0 ≤ h ∧ h ≤ 11) ∧ (0 ≤ w ∧ w ≤ 1)
  · rw [if_pos hg]
    refine zw_aload_n ok_M_behind rfl rfl ?_
    refine zw_Vv ok_M_behind rfl ok_M_reads lk_M_140 (by decide) rfl rfl (Nat.le_of_ble_eq_true rfl) (ct_M_reads hI) (fun m1 h1 => ?_)
    refine zw_iload_n ok_M_behind rfl rfl ?_
    refine zw_Sbp ok_M_behind rfl ok_M_isHour lk_M_157 (by decide) rfl (Nat.le_of_ble_eq_true rfl) (ct_M_isHour (by omega)) ?_
    first | refine zw_ifeq_d 27 ok_M_behind rfl (by decide) (fun h8 => ?_) (fun h8 => ?_) | refine zw_ifeq_b 27 ok_M_behind rfl (by decide) (fun h8 => ?_) (fun h8 => ?_) | refine zw_if_eq 27 ok_M_behind rfl (by decide) (by omega) (fun h8 => ?_) (fun h8 => ?_)
    · exact absurd hg.1 h8
    · refine zw_iload_n ok_M_behind rfl rfl ?_
      refine zw_Sbp ok_M_behind rfl ok_M_isTwo lk_M_98 (by decide) rfl (Nat.le_of_ble_eq_true rfl) (ct_M_isTwo (by omega)) ?_
      first | refine zw_ifeq_d 27 ok_M_behind rfl (by decide) (fun h15 => ?_) (fun h15 => ?_) | refine zw_ifeq_b 27 ok_M_behind rfl (by decide) (fun h15 => ?_) (fun h15 => ?_) | refine zw_if_eq 27 ok_M_behind rfl (by decide) (by omega) (fun h15 => ?_) (fun h15 => ?_)
      · exact absurd hg.2 h15
      · refine zw_aload_n ok_M_behind rfl rfl ?_
        refine zw_iload_n ok_M_behind rfl rfl ?_
        refine zw_iload_n ok_M_behind rfl rfl ?_
        refine zw_Vi ok_M_behind rfl ok_M_behindOf lk_M_223 (by decide) rfl rfl (Nat.le_of_ble_eq_true rfl) (ct_M_behindOf h1.1.2.1 hg.1 hg.2) (fun m21 h21 => ?_)
        obtain ⟨x, rfl⟩ := h21
        refine zw_goto 29 ok_M_behind rfl (by decide) ?_
        exact zw_iret ok_M_behind rfl rfl (⟨rfl, (putR h1.1).1, (h1.2.r47 (by decide)).tr put47⟩)
  · rw [if_neg hg]
    refine zw_aload_n ok_M_behind rfl rfl ?_
    refine zw_Vv ok_M_behind rfl ok_M_reads lk_M_140 (by decide) rfl rfl (Nat.le_of_ble_eq_true rfl) (ct_M_reads hI) (fun m1 h1 => ?_)
    refine zw_iload_n ok_M_behind rfl rfl ?_
    refine zw_Sbp ok_M_behind rfl ok_M_isHour lk_M_157 (by decide) rfl (Nat.le_of_ble_eq_true rfl) (ct_M_isHour (by omega)) ?_
    first | refine zw_ifeq_d 27 ok_M_behind rfl (by decide) (fun h8 => ?_) (fun h8 => ?_) | refine zw_ifeq_b 27 ok_M_behind rfl (by decide) (fun h8 => ?_) (fun h8 => ?_) | refine zw_if_eq 27 ok_M_behind rfl (by decide) (by omega) (fun h8 => ?_) (fun h8 => ?_)
    · refine zw_bipush ok_M_behind rfl (by decide) ?_
      exact zw_iret ok_M_behind rfl rfl (⟨rfl, MIr h1.2 hI⟩)
    · refine zw_iload_n ok_M_behind rfl rfl ?_
      refine zw_Sbp ok_M_behind rfl ok_M_isTwo lk_M_98 (by decide) rfl (Nat.le_of_ble_eq_true rfl) (ct_M_isTwo (by omega)) ?_
      first | refine zw_ifeq_d 27 ok_M_behind rfl (by decide) (fun h15 => ?_) (fun h15 => ?_) | refine zw_ifeq_b 27 ok_M_behind rfl (by decide) (fun h15 => ?_) (fun h15 => ?_) | refine zw_if_eq 27 ok_M_behind rfl (by decide) (by omega) (fun h15 => ?_) (fun h15 => ?_)
      · refine zw_bipush ok_M_behind rfl (by decide) ?_
        exact zw_iret ok_M_behind rfl rfl (⟨rfl, MIr h1.2 hI⟩)
      · exact absurd ⟨h8, h15⟩ hg
theorem ct_M_firstOf {w : Int} (h : MRv mem τ ol ff) (hw : 0 ≤ w ∧ w ≤ 1) : zCi m_M_firstOf [vr 48, vi w] mem (if w = 0 then (aSim τ ol ff 12).2.2.2.2.1 else (aSim τ ol ff 12).2.2.2.2.2) (fun m2 => ∃ x, m2 = putM mem x) := by
  refine zCt.of [some (vr 48), some (vi w)] ok_M_firstOf (Nat.le_of_ble_eq_true rfl) rfl ?_
  have k := ct_sim (t := 11) h (by omega)
  refine zw_aload_n ok_M_firstOf rfl rfl ?_
  refine zw_bipush ok_M_firstOf rfl (by decide) ?_
  refine zw_Vv ok_M_firstOf rfl ok_M_lives lk_M_216 (by decide) rfl rfl (Nat.le_of_ble_eq_true rfl) (k) (fun m3 h3 => ?_)
  obtain ⟨x, rfl, hL⟩ := h3
  rw [show ((11 : Int) + 1).toNat = 12 from rfl] at hL
  refine zw_iload_n ok_M_firstOf rfl rfl ?_
  refine zw_if_ne 17 ok_M_firstOf rfl (by decide) (by omega) (fun h7 => ?_) (fun h7 => ?_)
  · rw [if_neg h7, hL.1.2.2.2.2]
    refine zw_aload_n ok_M_firstOf rfl rfl ?_
    refine zw_geti ok_M_firstOf rfl fl_M_191 rfl rfl ?_
    exact zw_iret ok_M_firstOf rfl rfl (⟨rfl, x, rfl⟩)
  · rw [if_pos h7, ← hL.2.1.1]
    refine zw_aload_n ok_M_firstOf rfl rfl ?_
    refine zw_geti ok_M_firstOf rfl fl_M_188 rfl rfl ?_
    refine zw_goto 21 ok_M_firstOf rfl (by decide) ?_
    exact zw_iret ok_M_firstOf rfl rfl (⟨rfl, x, rfl⟩)
theorem ct_M_first {w : Int} (hI : MI mem τ) (hw : zR w) : zCi m_M_first [vr 48, vi w] mem (qFirst τ w) (fun m2 => MI m2 τ ∧ ref47 mem m2) := by
  refine zCt.of [some (vr 48), some (vi w)] ok_M_first (Nat.le_of_ble_eq_true rfl) rfl ?_
  unfold qFirst
  by_cases hg : 0 ≤ w ∧ w ≤ 1
  · rw [if_pos hg]
    refine zw_aload_n ok_M_first rfl rfl ?_
    refine zw_Vv ok_M_first rfl ok_M_reads lk_M_140 (by decide) rfl rfl (Nat.le_of_ble_eq_true rfl) (ct_M_reads hI) (fun m1 h1 => ?_)
    refine zw_iload_n ok_M_first rfl rfl ?_
    refine zw_Sbp ok_M_first rfl ok_M_isTwo lk_M_98 (by decide) rfl (Nat.le_of_ble_eq_true rfl) (ct_M_isTwo (by omega)) ?_
    first | refine zw_ifeq_d 19 ok_M_first rfl (by decide) (fun h8 => ?_) (fun h8 => ?_) | refine zw_ifeq_b 19 ok_M_first rfl (by decide) (fun h8 => ?_) (fun h8 => ?_) | refine zw_if_eq 19 ok_M_first rfl (by decide) (by omega) (fun h8 => ?_) (fun h8 => ?_)
    · exact absurd hg h8
    · refine zw_aload_n ok_M_first rfl rfl ?_
      refine zw_iload_n ok_M_first rfl rfl ?_
      refine zw_Vi ok_M_first rfl ok_M_firstOf lk_M_232 (by decide) rfl rfl (Nat.le_of_ble_eq_true rfl) (ct_M_firstOf h1.1.2.1 hg) (fun m13 h13 => ?_)
      obtain ⟨x, rfl⟩ := h13
      refine zw_goto 21 ok_M_first rfl (by decide) ?_
      exact zw_iret ok_M_first rfl rfl (⟨rfl, (putR h1.1).1, (h1.2.r47 (by decide)).tr put47⟩)
  · rw [if_neg hg]
    refine zw_aload_n ok_M_first rfl rfl ?_
    refine zw_Vv ok_M_first rfl ok_M_reads lk_M_140 (by decide) rfl rfl (Nat.le_of_ble_eq_true rfl) (ct_M_reads hI) (fun m1 h1 => ?_)
    refine zw_iload_n ok_M_first rfl rfl ?_
    refine zw_Sbp ok_M_first rfl ok_M_isTwo lk_M_98 (by decide) rfl (Nat.le_of_ble_eq_true rfl) (ct_M_isTwo (by omega)) ?_
    first | refine zw_ifeq_d 19 ok_M_first rfl (by decide) (fun h8 => ?_) (fun h8 => ?_) | refine zw_ifeq_b 19 ok_M_first rfl (by decide) (fun h8 => ?_) (fun h8 => ?_) | refine zw_if_eq 19 ok_M_first rfl (by decide) (by omega) (fun h8 => ?_) (fun h8 => ?_)
    · refine zw_bipush ok_M_first rfl (by decide) ?_
      exact zw_iret ok_M_first rfl rfl (⟨rfl, MIr h1.2 hI⟩)
    · exact absurd h8 hg
theorem per_m {x : zM} {p : Int} (hb : MRb mem τ) (hp : 0 ≤ p ∧ p < aP τ) : zCbp m_M_isClergy [vr 48, vi p] (putM mem x) (decide (aK τ p = 2)) := by
  have hP := aP_b hb
  have s := (sMan hb.1.1.1 hp.1 hp.2).1
  have c := (hb.2.1.2 p hp.1 hp.2).1
  have k := ct_M_isClergy (mem := putM mem x) (p := p) (by omega) (by show 0 ≤ mem 55 (3 * p) ∧ mem 55 (3 * p) ≤ 2; rw [c]; exact s)
  rw [show putM mem x 55 (3 * p) = aK τ p from c] at k
  exact k
theorem ct_M_owesNow {p q : Int} {x : zM} {t : zS} (hb : MRb mem τ) (hC : okM mem) (hL : LR τ x t) (hp : 0 ≤ p ∧ p < aP τ) (hq : 0 ≤ q ∧ q < aP τ) (hpq : p ≠ q) : zCip m_M_owesNow [vr 48, vi p, vi q] (putM mem x) (aDebt τ t.1 p q) := by
  refine zCt.of [some (vr 48), some (vi p), some (vi q), none, none] ok_M_owesNow (Nat.le_of_ble_eq_true rfl) rfl ?_
  have hP := aP_b hb
  have eP := hb.2.1.1
  by_cases hk : aK τ p = 2 ∨ aK τ q = 2
  · have e : aDebt τ t.1 p q = 0 := by unfold aDebt; rw [if_pos hk]
    rw [e]
    refine zw_iload_n ok_M_owesNow rfl rfl ?_
    refine zw_iload_n ok_M_owesNow rfl rfl ?_
    refine zw_Sip ok_M_owesNow rfl ok_M_lesser lk_M_176 (by decide) rfl (Nat.le_of_ble_eq_true rfl) (ct_M_lesser (by omega)) ?_
    refine zw_istore_n ok_M_owesNow rfl rfl (by decide) ?_
    refine zw_iload_n ok_M_owesNow rfl rfl ?_
    refine zw_iload_n ok_M_owesNow rfl rfl ?_
    refine zw_Sip ok_M_owesNow rfl ok_M_greater lk_M_179 (by decide) rfl (Nat.le_of_ble_eq_true rfl) (ct_M_greater (by omega)) ?_
    refine zw_istore ok_M_owesNow rfl rfl (by decide) ?_
    refine zw_aload_n ok_M_owesNow rfl rfl ?_
    refine zw_iload_n ok_M_owesNow rfl rfl ?_
    refine zw_Vbp ok_M_owesNow rfl ok_M_isClergy lk_M_194 (by decide) rfl rfl (Nat.le_of_ble_eq_true rfl) (per_m hb hp) ?_
    first | refine zw_ifne_d 49 ok_M_owesNow rfl (by decide) (fun h18 => ?_) (fun h18 => ?_) | refine zw_ifne_b 49 ok_M_owesNow rfl (by decide) (fun h18 => ?_) (fun h18 => ?_) | refine zw_if_ne 49 ok_M_owesNow rfl (by decide) (by omega) (fun h18 => ?_) (fun h18 => ?_)
    · refine zw_iconst ok_M_owesNow rfl ?_
      refine zw_goto 61 ok_M_owesNow rfl (by decide) ?_
      exact zw_iret ok_M_owesNow rfl rfl (⟨rfl, rfl⟩)
    · refine zw_aload_n ok_M_owesNow rfl rfl ?_
      refine zw_iload_n ok_M_owesNow rfl rfl ?_
      refine zw_Vbp ok_M_owesNow rfl ok_M_isClergy lk_M_194 (by decide) rfl rfl (Nat.le_of_ble_eq_true rfl) (per_m hb hq) ?_
      first | refine zw_ifne_d 49 ok_M_owesNow rfl (by decide) (fun h26 => ?_) (fun h26 => ?_) | refine zw_ifne_b 49 ok_M_owesNow rfl (by decide) (fun h26 => ?_) (fun h26 => ?_) | refine zw_if_ne 49 ok_M_owesNow rfl (by decide) (by omega) (fun h26 => ?_) (fun h26 => ?_)
      · refine zw_iconst ok_M_owesNow rfl ?_
        refine zw_goto 61 ok_M_owesNow rfl (by decide) ?_
        exact zw_iret ok_M_owesNow rfl rfl (⟨rfl, rfl⟩)
      · exfalso; omega
  · have e0 : aDebt τ t.1 p q = max (if p < q then t.1 (p * 8 + q) else -(t.1 (q * 8 + p))) 0 := by unfold aDebt; rw [if_neg hk]
    rcases Int.lt_or_gt_of_ne hpq with hlt | hgt
    · have d := due_ls (pRel_b hb) hp.1 hlt hq.2 hL.2.2 hL.1
      have kl := ct_M_lessBows (x := x) hC hp.1 hlt (by rw [eP]; exact hq.2) (by rw [eP]; exact hL.2.2)
      rw [if_pos hlt] at e0
      rcases d with d | d
      · rw [d.1] at kl
        have e : aDebt τ t.1 p q = hwM mem x p q p := by omega
        rw [e]
        refine zw_iload_n ok_M_owesNow rfl rfl ?_
        refine zw_iload_n ok_M_owesNow rfl rfl ?_
        refine zw_Sip ok_M_owesNow rfl ok_M_lesser lk_M_176 (by decide) rfl (Nat.le_of_ble_eq_true rfl) (ct_M_lesser (by omega)) ?_
        rw [show min p q = p by omega]
        refine zw_istore_n ok_M_owesNow rfl rfl (by decide) ?_
        refine zw_iload_n ok_M_owesNow rfl rfl ?_
        refine zw_iload_n ok_M_owesNow rfl rfl ?_
        refine zw_Sip ok_M_owesNow rfl ok_M_greater lk_M_179 (by decide) rfl (Nat.le_of_ble_eq_true rfl) (ct_M_greater (by omega)) ?_
        rw [show max p q = q by omega]
        refine zw_istore ok_M_owesNow rfl rfl (by decide) ?_
        refine zw_aload_n ok_M_owesNow rfl rfl ?_
        refine zw_iload_n ok_M_owesNow rfl rfl ?_
        refine zw_Vbp ok_M_owesNow rfl ok_M_isClergy lk_M_194 (by decide) rfl rfl (Nat.le_of_ble_eq_true rfl) (per_m hb hp) ?_
        first | refine zw_ifne_d 49 ok_M_owesNow rfl (by decide) (fun h18 => ?_) (fun h18 => ?_) | refine zw_ifne_b 49 ok_M_owesNow rfl (by decide) (fun h18 => ?_) (fun h18 => ?_) | refine zw_if_ne 49 ok_M_owesNow rfl (by decide) (by omega) (fun h18 => ?_) (fun h18 => ?_)
        · exfalso; omega
        · refine zw_aload_n ok_M_owesNow rfl rfl ?_
          refine zw_iload_n ok_M_owesNow rfl rfl ?_
          refine zw_Vbp ok_M_owesNow rfl ok_M_isClergy lk_M_194 (by decide) rfl rfl (Nat.le_of_ble_eq_true rfl) (per_m hb hq) ?_
          first | refine zw_ifne_d 49 ok_M_owesNow rfl (by decide) (fun h26 => ?_) (fun h26 => ?_) | refine zw_ifne_b 49 ok_M_owesNow rfl (by decide) (fun h26 => ?_) (fun h26 => ?_) | refine zw_if_ne 49 ok_M_owesNow rfl (by decide) (by omega) (fun h26 => ?_) (fun h26 => ?_)
          · exfalso; omega
          · refine zw_aload_n ok_M_owesNow rfl rfl ?_
            refine zw_iload_n ok_M_owesNow rfl rfl ?_
            refine zw_iload ok_M_owesNow rfl rfl ?_
            refine zw_Vbp ok_M_owesNow rfl ok_M_lessBows lk_M_197 (by decide) rfl rfl (Nat.le_of_ble_eq_true rfl) (kl) ?_
            rw [show bi true = 1 from rfl]
            refine zw_iload_n ok_M_owesNow rfl rfl ?_
            refine zw_iload_n ok_M_owesNow rfl rfl ?_
            refine zw_icmp_ne 45 ok_M_owesNow rfl (by decide) (by omega) (fun h38 => ?_) (fun h38 => ?_)
            · exfalso; omega
            · refine zw_iconst ok_M_owesNow rfl ?_
              refine zw_goto 46 ok_M_owesNow rfl (by decide) ?_
              refine zw_icmp_eq 53 ok_M_owesNow rfl (by decide) (by omega) (fun h46 => ?_) (fun h46 => ?_)
              · refine zw_aload_n ok_M_owesNow rfl rfl ?_
                refine zw_iload_n ok_M_owesNow rfl rfl ?_
                refine zw_iload ok_M_owesNow rfl rfl ?_
                refine zw_iload_n ok_M_owesNow rfl rfl ?_
                refine zw_Vip ok_M_owesNow rfl ok_M_howLow lk_M_200 (by decide) rfl rfl (Nat.le_of_ble_eq_true rfl) (ct_M_howLow hC hp.1 hlt (by rw [eP]; exact hq.2) (by rw [eP]; exact hp) (by rw [eP]; exact hL.2.2)) ?_
                exact zw_iret ok_M_owesNow rfl rfl (⟨rfl, rfl⟩)
              · exfalso; omega
      · rw [d.1] at kl
        have e : aDebt τ t.1 p q = 0 := by omega
        rw [e]
        refine zw_iload_n ok_M_owesNow rfl rfl ?_
        refine zw_iload_n ok_M_owesNow rfl rfl ?_
        refine zw_Sip ok_M_owesNow rfl ok_M_lesser lk_M_176 (by decide) rfl (Nat.le_of_ble_eq_true rfl) (ct_M_lesser (by omega)) ?_
        rw [show min p q = p by omega]
        refine zw_istore_n ok_M_owesNow rfl rfl (by decide) ?_
        refine zw_iload_n ok_M_owesNow rfl rfl ?_
        refine zw_iload_n ok_M_owesNow rfl rfl ?_
        refine zw_Sip ok_M_owesNow rfl ok_M_greater lk_M_179 (by decide) rfl (Nat.le_of_ble_eq_true rfl) (ct_M_greater (by omega)) ?_
        rw [show max p q = q by omega]
        refine zw_istore ok_M_owesNow rfl rfl (by decide) ?_
        refine zw_aload_n ok_M_owesNow rfl rfl ?_
        refine zw_iload_n ok_M_owesNow rfl rfl ?_
        refine zw_Vbp ok_M_owesNow rfl ok_M_isClergy lk_M_194 (by decide) rfl rfl (Nat.le_of_ble_eq_true rfl) (per_m hb hp) ?_
        first | refine zw_ifne_d 49 ok_M_owesNow rfl (by decide) (fun h18 => ?_) (fun h18 => ?_) | refine zw_ifne_b 49 ok_M_owesNow rfl (by decide) (fun h18 => ?_) (fun h18 => ?_) | refine zw_if_ne 49 ok_M_owesNow rfl (by decide) (by omega) (fun h18 => ?_) (fun h18 => ?_)
        · exfalso; omega
        · refine zw_aload_n ok_M_owesNow rfl rfl ?_
          refine zw_iload_n ok_M_owesNow rfl rfl ?_
          refine zw_Vbp ok_M_owesNow rfl ok_M_isClergy lk_M_194 (by decide) rfl rfl (Nat.le_of_ble_eq_true rfl) (per_m hb hq) ?_
          first | refine zw_ifne_d 49 ok_M_owesNow rfl (by decide) (fun h26 => ?_) (fun h26 => ?_) | refine zw_ifne_b 49 ok_M_owesNow rfl (by decide) (fun h26 => ?_) (fun h26 => ?_) | refine zw_if_ne 49 ok_M_owesNow rfl (by decide) (by omega) (fun h26 => ?_) (fun h26 => ?_)
          · exfalso; omega
          · refine zw_aload_n ok_M_owesNow rfl rfl ?_
            refine zw_iload_n ok_M_owesNow rfl rfl ?_
            refine zw_iload ok_M_owesNow rfl rfl ?_
            refine zw_Vbp ok_M_owesNow rfl ok_M_lessBows lk_M_197 (by decide) rfl rfl (Nat.le_of_ble_eq_true rfl) (kl) ?_
            rw [show bi false = 0 from rfl]
            refine zw_iload_n ok_M_owesNow rfl rfl ?_
            refine zw_iload_n ok_M_owesNow rfl rfl ?_
            refine zw_icmp_ne 45 ok_M_owesNow rfl (by decide) (by omega) (fun h38 => ?_) (fun h38 => ?_)
            · exfalso; omega
            · refine zw_iconst ok_M_owesNow rfl ?_
              refine zw_goto 46 ok_M_owesNow rfl (by decide) ?_
              refine zw_icmp_eq 53 ok_M_owesNow rfl (by decide) (by omega) (fun h46 => ?_) (fun h46 => ?_)
              · exfalso; omega
              · refine zw_iconst ok_M_owesNow rfl ?_
                refine zw_goto 61 ok_M_owesNow rfl (by decide) ?_
                exact zw_iret ok_M_owesNow rfl rfl (⟨rfl, rfl⟩)
    · have d := due_ls (pRel_b hb) hq.1 hgt hp.2 hL.2.2 hL.1
      have kl := ct_M_lessBows (x := x) hC hq.1 hgt (by rw [eP]; exact hp.2) (by rw [eP]; exact hL.2.2)
      rw [if_neg (by omega)] at e0
      rcases d with d | d
      · rw [d.1] at kl
        have e : aDebt τ t.1 p q = 0 := by omega
        rw [e]
        refine zw_iload_n ok_M_owesNow rfl rfl ?_
        refine zw_iload_n ok_M_owesNow rfl rfl ?_
        refine zw_Sip ok_M_owesNow rfl ok_M_lesser lk_M_176 (by decide) rfl (Nat.le_of_ble_eq_true rfl) (ct_M_lesser (by omega)) ?_
        rw [show min p q = q by omega]
        refine zw_istore_n ok_M_owesNow rfl rfl (by decide) ?_
        refine zw_iload_n ok_M_owesNow rfl rfl ?_
        refine zw_iload_n ok_M_owesNow rfl rfl ?_
        refine zw_Sip ok_M_owesNow rfl ok_M_greater lk_M_179 (by decide) rfl (Nat.le_of_ble_eq_true rfl) (ct_M_greater (by omega)) ?_
        rw [show max p q = p by omega]
        refine zw_istore ok_M_owesNow rfl rfl (by decide) ?_
        refine zw_aload_n ok_M_owesNow rfl rfl ?_
        refine zw_iload_n ok_M_owesNow rfl rfl ?_
        refine zw_Vbp ok_M_owesNow rfl ok_M_isClergy lk_M_194 (by decide) rfl rfl (Nat.le_of_ble_eq_true rfl) (per_m hb hp) ?_
        first | refine zw_ifne_d 49 ok_M_owesNow rfl (by decide) (fun h18 => ?_) (fun h18 => ?_) | refine zw_ifne_b 49 ok_M_owesNow rfl (by decide) (fun h18 => ?_) (fun h18 => ?_) | refine zw_if_ne 49 ok_M_owesNow rfl (by decide) (by omega) (fun h18 => ?_) (fun h18 => ?_)
        · exfalso; omega
        · refine zw_aload_n ok_M_owesNow rfl rfl ?_
          refine zw_iload_n ok_M_owesNow rfl rfl ?_
          refine zw_Vbp ok_M_owesNow rfl ok_M_isClergy lk_M_194 (by decide) rfl rfl (Nat.le_of_ble_eq_true rfl) (per_m hb hq) ?_
          first | refine zw_ifne_d 49 ok_M_owesNow rfl (by decide) (fun h26 => ?_) (fun h26 => ?_) | refine zw_ifne_b 49 ok_M_owesNow rfl (by decide) (fun h26 => ?_) (fun h26 => ?_) | refine zw_if_ne 49 ok_M_owesNow rfl (by decide) (by omega) (fun h26 => ?_) (fun h26 => ?_)
          · exfalso; omega
          · refine zw_aload_n ok_M_owesNow rfl rfl ?_
            refine zw_iload_n ok_M_owesNow rfl rfl ?_
            refine zw_iload ok_M_owesNow rfl rfl ?_
            refine zw_Vbp ok_M_owesNow rfl ok_M_lessBows lk_M_197 (by decide) rfl rfl (Nat.le_of_ble_eq_true rfl) (kl) ?_
            rw [show bi true = 1 from rfl]
            refine zw_iload_n ok_M_owesNow rfl rfl ?_
            refine zw_iload_n ok_M_owesNow rfl rfl ?_
            refine zw_icmp_ne 45 ok_M_owesNow rfl (by decide) (by omega) (fun h38 => ?_) (fun h38 => ?_)
            · refine zw_iconst ok_M_owesNow rfl ?_
              refine zw_icmp_eq 53 ok_M_owesNow rfl (by decide) (by omega) (fun h46 => ?_) (fun h46 => ?_)
              · exfalso; omega
              · refine zw_iconst ok_M_owesNow rfl ?_
                refine zw_goto 61 ok_M_owesNow rfl (by decide) ?_
                exact zw_iret ok_M_owesNow rfl rfl (⟨rfl, rfl⟩)
            · exfalso; omega
      · rw [d.1] at kl
        have e : aDebt τ t.1 p q = hwM mem x q p p := by omega
        rw [e]
        refine zw_iload_n ok_M_owesNow rfl rfl ?_
        refine zw_iload_n ok_M_owesNow rfl rfl ?_
        refine zw_Sip ok_M_owesNow rfl ok_M_lesser lk_M_176 (by decide) rfl (Nat.le_of_ble_eq_true rfl) (ct_M_lesser (by omega)) ?_
        rw [show min p q = q by omega]
        refine zw_istore_n ok_M_owesNow rfl rfl (by decide) ?_
        refine zw_iload_n ok_M_owesNow rfl rfl ?_
        refine zw_iload_n ok_M_owesNow rfl rfl ?_
        refine zw_Sip ok_M_owesNow rfl ok_M_greater lk_M_179 (by decide) rfl (Nat.le_of_ble_eq_true rfl) (ct_M_greater (by omega)) ?_
        rw [show max p q = p by omega]
        refine zw_istore ok_M_owesNow rfl rfl (by decide) ?_
        refine zw_aload_n ok_M_owesNow rfl rfl ?_
        refine zw_iload_n ok_M_owesNow rfl rfl ?_
        refine zw_Vbp ok_M_owesNow rfl ok_M_isClergy lk_M_194 (by decide) rfl rfl (Nat.le_of_ble_eq_true rfl) (per_m hb hp) ?_
        first | refine zw_ifne_d 49 ok_M_owesNow rfl (by decide) (fun h18 => ?_) (fun h18 => ?_) | refine zw_ifne_b 49 ok_M_owesNow rfl (by decide) (fun h18 => ?_) (fun h18 => ?_) | refine zw_if_ne 49 ok_M_owesNow rfl (by decide) (by omega) (fun h18 => ?_) (fun h18 => ?_)
        · exfalso; omega
        · refine zw_aload_n ok_M_owesNow rfl rfl ?_
          refine zw_iload_n ok_M_owesNow rfl rfl ?_
          refine zw_Vbp ok_M_owesNow rfl ok_M_isClergy lk_M_194 (by decide) rfl rfl (Nat.le_of_ble_eq_true rfl) (per_m hb hq) ?_
          first | refine zw_ifne_d 49 ok_M_owesNow rfl (by decide) (fun h26 => ?_) (fun h26 => ?_) | refine zw_ifne_b 49 ok_M_owesNow rfl (by decide) (fun h26 => ?_) (fun h26 => ?_) | refine zw_if_ne 49 ok_M_owesNow rfl (by decide) (by omega) (fun h26 => ?_) (fun h26 => ?_)
          · exfalso; omega
          · refine zw_aload_n ok_M_owesNow rfl rfl ?_
            refine zw_iload_n ok_M_owesNow rfl rfl ?_
            refine zw_iload ok_M_owesNow rfl rfl ?_
            refine zw_Vbp ok_M_owesNow rfl ok_M_lessBows lk_M_197 (by decide) rfl rfl (Nat.le_of_ble_eq_true rfl) (kl) ?_
            rw [show bi false = 0 from rfl]
            refine zw_iload_n ok_M_owesNow rfl rfl ?_
            refine zw_iload_n ok_M_owesNow rfl rfl ?_
            refine zw_icmp_ne 45 ok_M_owesNow rfl (by decide) (by omega) (fun h38 => ?_) (fun h38 => ?_)
            · refine zw_iconst ok_M_owesNow rfl ?_
              refine zw_icmp_eq 53 ok_M_owesNow rfl (by decide) (by omega) (fun h46 => ?_) (fun h46 => ?_)
              · refine zw_aload_n ok_M_owesNow rfl rfl ?_
                refine zw_iload_n ok_M_owesNow rfl rfl ?_
                refine zw_iload ok_M_owesNow rfl rfl ?_
                refine zw_iload_n ok_M_owesNow rfl rfl ?_
                refine zw_Vip ok_M_owesNow rfl ok_M_howLow lk_M_200 (by decide) rfl rfl (Nat.le_of_ble_eq_true rfl) (ct_M_howLow hC hq.1 hgt (by rw [eP]; exact hp.2) (by rw [eP]; exact hp) (by rw [eP]; exact hL.2.2)) ?_
                exact zw_iret ok_M_owesNow rfl rfl (⟨rfl, rfl⟩)
              · exfalso; omega
            · exfalso; omega
theorem ct_M_owesOf {t p q : Int} (h : MRv mem τ ol ff) (ht : 0 ≤ t ∧ t ≤ 11) (hp : 0 ≤ p ∧ p < aP τ) (hq : 0 ≤ q ∧ q < aP τ) (hpq : p ≠ q) : zCi m_M_owesOf [vr 48, vi t, vi p, vi q] mem (aDebt τ (aSim τ ol ff (t + 1).toNat).1 p q) (fun m2 => ∃ x, m2 = putM mem x) := by
  refine zCt.of [some (vr 48), some (vi t), some (vi p), some (vi q)] ok_M_owesOf (Nat.le_of_ble_eq_true rfl) rfl ?_
  refine zw_aload_n ok_M_owesOf rfl rfl ?_
  refine zw_iload_n ok_M_owesOf rfl rfl ?_
  refine zw_Vv ok_M_owesOf rfl ok_M_lives lk_M_216 (by decide) rfl rfl (Nat.le_of_ble_eq_true rfl) (ct_sim h ht) (fun m2 h2 => ?_)
  obtain ⟨x, rfl, hL⟩ := h2
  refine zw_aload_n ok_M_owesOf rfl rfl ?_
  refine zw_iload_n ok_M_owesOf rfl rfl ?_
  refine zw_iload_n ok_M_owesOf rfl rfl ?_
  refine zw_Vip ok_M_owesOf rfl ok_M_owesNow lk_M_226 (by decide) rfl rfl (Nat.le_of_ble_eq_true rfl) (ct_M_owesNow h.1 (okM_v h) hL hp hq hpq) ?_
  exact zw_iret ok_M_owesOf rfl rfl (⟨rfl, x, rfl⟩)
theorem ct_M_owes {h p q : Int} (hI : MI mem τ) (hh : zR h) (hp : zR p) (hq : zR q) : zCi m_M_owes [vr 48, vi h, vi p, vi q] mem (qOwes τ h p q) (fun m2 => MR m2 τ ∧ ref47 mem m2) := by
  refine zCt.of [some (vr 48), some (vi h), some (vi p), some (vi q)] ok_M_owes (Nat.le_of_ble_eq_true rfl) rfl ?_
  unfold qOwes
  by_cases hg : (0 ≤ h ∧ h ≤ 11) ∧ (0 ≤ p ∧ p < aP τ) ∧ (0 ≤ q ∧ q < aP τ) ∧ p ≠ q
  · rw [if_pos hg]
    refine zw_aload_n ok_M_owes rfl rfl ?_
    refine zw_Vv ok_M_owes rfl ok_M_reads lk_M_140 (by decide) rfl rfl (Nat.le_of_ble_eq_true rfl) (ct_M_reads hI) (fun m1 h1 => ?_)
    have hP := P7 h1.1
    refine zw_iload_n ok_M_owes rfl rfl ?_
    refine zw_Sbp ok_M_owes rfl ok_M_isHour lk_M_157 (by decide) rfl (Nat.le_of_ble_eq_true rfl) (ct_M_isHour (by omega)) ?_
    first | refine zw_ifeq_d 42 ok_M_owes rfl (by decide) (fun h8 => ?_) (fun h8 => ?_) | refine zw_ifeq_b 42 ok_M_owes rfl (by decide) (fun h8 => ?_) (fun h8 => ?_) | refine zw_if_eq 42 ok_M_owes rfl (by decide) (by omega) (fun h8 => ?_) (fun h8 => ?_)
    · exact absurd hg.1 h8
    · refine zw_aload_n ok_M_owes rfl rfl ?_
      refine zw_iload_n ok_M_owes rfl rfl ?_
      refine zw_Vbp ok_M_owes rfl ok_M_isPerson lk_M_143 (by decide) rfl rfl (Nat.le_of_ble_eq_true rfl) (ct_M_isPerson hp hP.2) ?_
      first | refine zw_ifeq_d 42 ok_M_owes rfl (by decide) (fun h16 => ?_) (fun h16 => ?_) | refine zw_ifeq_b 42 ok_M_owes rfl (by decide) (fun h16 => ?_) (fun h16 => ?_) | refine zw_if_eq 42 ok_M_owes rfl (by decide) (by omega) (fun h16 => ?_) (fun h16 => ?_)
      · exact absurd ⟨hg.2.1.1, by rw [hP.1]; omega⟩ h16
      · refine zw_aload_n ok_M_owes rfl rfl ?_
        refine zw_iload_n ok_M_owes rfl rfl ?_
        refine zw_Vbp ok_M_owes rfl ok_M_isPerson lk_M_143 (by decide) rfl rfl (Nat.le_of_ble_eq_true rfl) (ct_M_isPerson hq hP.2) ?_
        first | refine zw_ifeq_d 42 ok_M_owes rfl (by decide) (fun h24 => ?_) (fun h24 => ?_) | refine zw_ifeq_b 42 ok_M_owes rfl (by decide) (fun h24 => ?_) (fun h24 => ?_) | refine zw_if_eq 42 ok_M_owes rfl (by decide) (by omega) (fun h24 => ?_) (fun h24 => ?_)
        · exact absurd ⟨hg.2.2.1.1, by rw [hP.1]; omega⟩ h24
        · refine zw_iload_n ok_M_owes rfl rfl ?_
          refine zw_iload_n ok_M_owes rfl rfl ?_
          refine zw_icmp_eq 42 ok_M_owes rfl (by decide) (by omega) (fun h29 => ?_) (fun h29 => ?_)
          · exact absurd h29 hg.2.2.2
          · refine zw_aload_n ok_M_owes rfl rfl ?_
            refine zw_iload_n ok_M_owes rfl rfl ?_
            refine zw_iload_n ok_M_owes rfl rfl ?_
            refine zw_iload_n ok_M_owes rfl rfl ?_
            refine zw_Vi ok_M_owes rfl ok_M_owesOf lk_M_229 (by decide) rfl rfl (Nat.le_of_ble_eq_true rfl) (ct_M_owesOf h1.1.2.1 hg.1 hg.2.1 hg.2.2.1 hg.2.2.2) (fun m36 h36 => ?_)
            obtain ⟨x, rfl⟩ := h36
            refine zw_goto 44 ok_M_owes rfl (by decide) ?_
            exact zw_iret ok_M_owes rfl rfl (⟨rfl, putR h1.1, (h1.2.r47 (by decide)).tr put47⟩)
  · rw [if_neg hg]
    refine zw_aload_n ok_M_owes rfl rfl ?_
    refine zw_Vv ok_M_owes rfl ok_M_reads lk_M_140 (by decide) rfl rfl (Nat.le_of_ble_eq_true rfl) (ct_M_reads hI) (fun m1 h1 => ?_)
    have hP := P7 h1.1
    refine zw_iload_n ok_M_owes rfl rfl ?_
    refine zw_Sbp ok_M_owes rfl ok_M_isHour lk_M_157 (by decide) rfl (Nat.le_of_ble_eq_true rfl) (ct_M_isHour (by omega)) ?_
    first | refine zw_ifeq_d 42 ok_M_owes rfl (by decide) (fun h8 => ?_) (fun h8 => ?_) | refine zw_ifeq_b 42 ok_M_owes rfl (by decide) (fun h8 => ?_) (fun h8 => ?_) | refine zw_if_eq 42 ok_M_owes rfl (by decide) (by omega) (fun h8 => ?_) (fun h8 => ?_)
    · refine zw_bipush ok_M_owes rfl (by decide) ?_
      exact zw_iret ok_M_owes rfl rfl (⟨rfl, h1.1, h1.2.r47 (by decide)⟩)
    · refine zw_aload_n ok_M_owes rfl rfl ?_
      refine zw_iload_n ok_M_owes rfl rfl ?_
      refine zw_Vbp ok_M_owes rfl ok_M_isPerson lk_M_143 (by decide) rfl rfl (Nat.le_of_ble_eq_true rfl) (ct_M_isPerson hp hP.2) ?_
      first | refine zw_ifeq_d 42 ok_M_owes rfl (by decide) (fun h16 => ?_) (fun h16 => ?_) | refine zw_ifeq_b 42 ok_M_owes rfl (by decide) (fun h16 => ?_) (fun h16 => ?_) | refine zw_if_eq 42 ok_M_owes rfl (by decide) (by omega) (fun h16 => ?_) (fun h16 => ?_)
      · refine zw_bipush ok_M_owes rfl (by decide) ?_
        exact zw_iret ok_M_owes rfl rfl (⟨rfl, h1.1, h1.2.r47 (by decide)⟩)
      · refine zw_aload_n ok_M_owes rfl rfl ?_
        refine zw_iload_n ok_M_owes rfl rfl ?_
        refine zw_Vbp ok_M_owes rfl ok_M_isPerson lk_M_143 (by decide) rfl rfl (Nat.le_of_ble_eq_true rfl) (ct_M_isPerson hq hP.2) ?_
        first | refine zw_ifeq_d 42 ok_M_owes rfl (by decide) (fun h24 => ?_) (fun h24 => ?_) | refine zw_ifeq_b 42 ok_M_owes rfl (by decide) (fun h24 => ?_) (fun h24 => ?_) | refine zw_if_eq 42 ok_M_owes rfl (by decide) (by omega) (fun h24 => ?_) (fun h24 => ?_)
        · refine zw_bipush ok_M_owes rfl (by decide) ?_
          exact zw_iret ok_M_owes rfl rfl (⟨rfl, h1.1, h1.2.r47 (by decide)⟩)
        · refine zw_iload_n ok_M_owes rfl rfl ?_
          refine zw_iload_n ok_M_owes rfl rfl ?_
          refine zw_icmp_eq 42 ok_M_owes rfl (by decide) (by omega) (fun h29 => ?_) (fun h29 => ?_)
          · refine zw_bipush ok_M_owes rfl (by decide) ?_
            exact zw_iret ok_M_owes rfl rfl (⟨rfl, h1.1, h1.2.r47 (by decide)⟩)
          · exact absurd ⟨h8, ⟨h16.1, by rw [← hP.1]; omega⟩, ⟨h24.1, by rw [← hP.1]; omega⟩, h29⟩ hg
end
