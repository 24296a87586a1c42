/-! ===== LowerBows: the hours as told: low, behind, owes, first, write ===== -/
section
variable {mem m2 τ τ2 : zMem}
/-- only the coast's own cells have changed -/
def clsC (a b : zMem) : Prop := ∀ k, 29 < k → b k = a k
theorem clsC.c48 {a b : zMem} (h : clsC a b) : cls48 a b := fun k hk => h k (by omega)
/-- the coast, behind hour h as told -/
abbrev aTold (τ : zMem) (h : Int) : zS := aSim τ (-1) 0 (h + 1).toNat
/-- the cells when the coast stands as t -/
def atC (mem τ : zMem) (t : zS) (m2 : zMem) : Prop := ∃ L s, m2 = putC mem L s ∧ eqP (aP τ) s t ∧ sInv (aP τ) s
def toldM (mem : zMem) (h : Int) : zMem := putC mem (layS mem (-1) 0 (mem 25, mem 26, mem 27)) (simC mem (-1) 0 (h + 1).toNat (mem 25, mem 26, mem 27) (mem 28, mem 29, mem 24 9, mem 24 10, mem 24 11, mem 24 12))
theorem ct_told {h : Int} (hI : CI mem τ) (hh : 0 ≤ h ∧ h ≤ 11) : zCvp m_Co_walkAsTold [vr 24, vi h] mem (toldM mem h) := by
  have key := ct_Co_walkAsTold (mem := mem) (L := (mem 25, mem 26, mem 27)) (s := (mem 28, mem 29, mem 24 9, mem 24 10, mem 24 11, mem 24 12)) hh (okC_CI hI)
  rw [putC_self] at key
  exact key
theorem toldA {h : Int} (hI : CI mem τ) (hh : 0 ≤ h ∧ h ≤ 11) : atC mem τ (aTold τ h) (toldM mem h) := by
  refine ⟨_, _, rfl, simT hI (-1) 0 (by omega) _ _ _, ?_⟩
  have := simC_inv (L := (mem 25, mem 26, mem 27)) (s := (mem 28, mem 29, mem 24 9, mem 24 10, mem 24 11, mem 24 12)) (ol := -1) (ll := 0) (n := (h + 1).toNat) (okC_CI hI)
  rw [eP_CI hI] at this
  exact this
theorem atC.ci {t : zS} (hI : CI mem τ) (h : atC mem τ t m2) : CI m2 τ ∧ clsC mem m2 := by
  obtain ⟨L, s, rfl, -, -⟩ := h
  exact ⟨CI_of (putC_scr zfr.rf) hI, fun k hk => putC_ne (by omega)⟩
theorem atC.low {t : zS} {p : Int} (h : atC mem τ t m2) (hp : 0 ≤ p ∧ p < aP τ) : m2 29 p = t.2.1 p := by
  obtain ⟨L, ⟨d, l, g, n, fh, fw⟩, rfl, e, -⟩ := h
  exact e.2.1 p hp.1 hp.2
theorem atC.st {t : zS} (h : atC mem τ t m2) : (m2 24 9 = t.2.2.1 ∧ m2 24 10 = t.2.2.2.1) ∧ m2 24 11 = t.2.2.2.2.1 ∧ m2 24 12 = t.2.2.2.2.2 := by
  obtain ⟨L, ⟨d, l, g, n, fh, fw⟩, rfl, e, -⟩ := h
  have e := e.2.2
  rw [← e]
  exact ⟨⟨rfl, rfl⟩, rfl, rfl⟩
def qLow (τ : zMem) (h p : Int) : Int := if (0 ≤ h ∧ h ≤ 11) ∧ (0 ≤ p ∧ p < aP τ) then (aTold τ h).2.1 p else -2
def qBehind (τ : zMem) (h w : Int) : Int := if (0 ≤ h ∧ h ≤ 11) ∧ (0 ≤ w ∧ w ≤ 1) then (if w = 0 then (aTold τ h).2.2.1 else (aTold τ h).2.2.2.1) else -2
def qFirst (τ : zMem) (w : Int) : Int := if 0 ≤ w ∧ w ≤ 1 then (if w = 0 then (aTold τ 11).2.2.2.2.1 else (aTold τ 11).2.2.2.2.2) else -2
def aDebt (τ : zMem) (d : Int → Int) (p q : Int) : Int := if aK τ p = 2 ∨ aK τ q = 2 then 0 else max (if p < q then d (p * 8 + q) else -(d (q * 8 + p))) 0
def qOwes (τ : zMem) (h p q : Int) : Int := if (0 ≤ h ∧ h ≤ 11) ∧ (0 ≤ p ∧ p < aP τ) ∧ (0 ≤ q ∧ q < aP τ) ∧ p ≠ q then aDebt τ (aTold τ h).1 p q else -2
theorem ct_B_low {h p : Int} (hI : CI mem τ) (hh : zR h) (hp : zR p) : zCi m_B_low [vr 0, vi h, vi p] mem (qLow τ h p) (fun m2 => CI m2 τ ∧ clsC mem m2) := by
  refine zCt.of [some (vr 0), some (vi h), some (vi p)] ok_B_low (Nat.le_of_ble_eq_true rfl) rfl ?_
  have hP := isP_CI hI
  have eP := eP_CI hI
  have hP8 : aP τ ≤ 8 := by rw [← eP]; exact hP.2
  unfold qLow
  by_cases hg : (0 ≤ h ∧ h ≤ 11) ∧ (0 ≤ p ∧ p < aP τ)
  · rw [if_pos hg]
    refine zw_iload_n ok_B_low rfl rfl ?_
    refine zw_Sbp ok_B_low rfl ok_B_isHour lk_B_138 (by decide) rfl (Nat.le_of_ble_eq_true rfl) (ct_B_isHour (by omega)) ?_
    first | refine zw_ifeq_d 15 ok_B_low rfl (by decide) (fun h4 => ?_) (fun h4 => ?_) | refine zw_ifeq_b 15 ok_B_low rfl (by decide) (fun h4 => ?_) (fun h4 => ?_) | refine zw_if_eq 15 ok_B_low rfl (by decide) (by omega) (fun h4 => ?_) (fun h4 => ?_)
    · exact absurd hg.1 h4
    · refine zw_aload_n ok_B_low rfl rfl ?_
      refine zw_iload_n ok_B_low rfl rfl ?_
      refine zw_Vbp ok_B_low rfl ok_B_isPerson lk_B_126 (by decide) rfl rfl (Nat.le_of_ble_eq_true rfl) (ct_B_isPerson ⟨hp, hP⟩) ?_
      first | refine zw_ifne_d 18 ok_B_low rfl (by decide) (fun h12 => ?_) (fun h12 => ?_) | refine zw_ifne_b 18 ok_B_low rfl (by decide) (fun h12 => ?_) (fun h12 => ?_) | refine zw_if_ne 18 ok_B_low rfl (by decide) (by omega) (fun h12 => ?_) (fun h12 => ?_)
      · refine zw_aload_n ok_B_low rfl rfl ?_
        refine zw_getr ok_B_low rfl fl_B_53 rfl rfl ?_
        refine zw_iload_n ok_B_low rfl rfl ?_
        refine zw_Vvp ok_B_low rfl ok_Co_walkAsTold lk_B_167 (by decide) rfl rfl (Nat.le_of_ble_eq_true rfl) (ct_told hI hg.1) ?_
        have h23 := toldA (h := h) hI hg.1
        generalize toldM mem h = m23 at h23 ⊢
        refine zw_aload_n ok_B_low rfl rfl ?_
        refine zw_getr ok_B_low rfl fl_B_53 rfl rfl ?_
        refine zw_getr ok_B_low rfl fl_B_170 rfl rfl ?_
        refine zw_iload_n ok_B_low rfl rfl ?_
        refine zw_iald ok_B_low rfl rfl (by omega) ?_
        exact zw_iret ok_B_low rfl rfl (⟨by rw [h23.low hg.2], h23.ci hI⟩)
      · exact absurd ⟨hg.2.1, by rw [eP]; omega⟩ h12
  · rw [if_neg hg]
    refine zw_iload_n ok_B_low rfl rfl ?_
    refine zw_Sbp ok_B_low rfl ok_B_isHour lk_B_138 (by decide) rfl (Nat.le_of_ble_eq_true rfl) (ct_B_isHour (by omega)) ?_
    first | refine zw_ifeq_d 15 ok_B_low rfl (by decide) (fun h4 => ?_) (fun h4 => ?_) | refine zw_ifeq_b 15 ok_B_low rfl (by decide) (fun h4 => ?_) (fun h4 => ?_) | refine zw_if_eq 15 ok_B_low rfl (by decide) (by omega) (fun h4 => ?_) (fun h4 => ?_)
    · refine zw_bipush ok_B_low rfl (by decide) ?_
      exact zw_iret ok_B_low rfl rfl (⟨rfl, hI, fun _ _ => rfl⟩)
    · refine zw_aload_n ok_B_low rfl rfl ?_
      refine zw_iload_n ok_B_low rfl rfl ?_
      refine zw_Vbp ok_B_low rfl ok_B_isPerson lk_B_126 (by decide) rfl rfl (Nat.le_of_ble_eq_true rfl) (ct_B_isPerson ⟨hp, hP⟩) ?_
      first | refine zw_ifne_d 18 ok_B_low rfl (by decide) (fun h12 => ?_) (fun h12 => ?_) | refine zw_ifne_b 18 ok_B_low rfl (by decide) (fun h12 => ?_) (fun h12 => ?_) | refine zw_if_ne 18 ok_B_low rfl (by decide) (by omega) (fun h12 => ?_) (fun h12 => ?_)
      · exact absurd ⟨h4, h12.1, by rw [← eP]; omega⟩ hg
      · refine zw_bipush ok_B_low rfl (by decide) ?_
        exact zw_iret ok_B_low rfl rfl (⟨rfl, hI, fun _ _ => rfl⟩)
theorem ct_B_behind {h w : Int} (hI : CI mem τ) (hh : zR h) (hw : zR w) : zCi m_B_behind [vr 0, vi h, vi w] mem (qBehind τ h w) (fun m2 => CI m2 τ ∧ clsC mem m2) := by
  refine zCt.of [some (vr 0), some (vi h), some (vi w)] ok_B_behind (Nat.le_of_ble_eq_true rfl) rfl ?_
  unfold qBehind
  by_cases hg : (0 ≤ h ∧ h ≤ 11) ∧ (0 ≤ w ∧ w ≤ 1)
  · rw [if_pos hg]
    refine zw_iload_n ok_B_behind rfl rfl ?_
    refine zw_Sbp ok_B_behind rfl ok_B_isHour lk_B_138 (by decide) rfl (Nat.le_of_ble_eq_true rfl) (ct_B_isHour (by omega)) ?_
    first | refine zw_ifeq_d 16 ok_B_behind rfl (by decide) (fun h4 => ?_) (fun h4 => ?_) | refine zw_ifeq_b 16 ok_B_behind rfl (by decide) (fun h4 => ?_) (fun h4 => ?_) | refine zw_if_eq 16 ok_B_behind rfl (by decide) (by omega) (fun h4 => ?_) (fun h4 => ?_)
    · exact absurd hg.1 h4
    · refine zw_iload_n ok_B_behind rfl rfl ?_
      refine zw_iconst ok_B_behind rfl ?_
      refine zw_iconst ok_B_behind rfl ?_
      refine zw_Sbp ok_B_behind rfl ok_B_within lk_B_100 (by decide) rfl (Nat.le_of_ble_eq_true rfl) (ct_B_within (by omega)) ?_
      first | refine zw_ifne_d 19 ok_B_behind rfl (by decide) (fun h13 => ?_) (fun h13 => ?_) | refine zw_ifne_b 19 ok_B_behind rfl (by decide) (fun h13 => ?_) (fun h13 => ?_) | refine zw_if_ne 19 ok_B_behind rfl (by decide) (by omega) (fun h13 => ?_) (fun h13 => ?_)
      · refine zw_aload_n ok_B_behind rfl rfl ?_
        refine zw_getr ok_B_behind rfl fl_B_53 rfl rfl ?_
        refine zw_iload_n ok_B_behind rfl rfl ?_
        refine zw_Vvp ok_B_behind rfl ok_Co_walkAsTold lk_B_167 (by decide) rfl rfl (Nat.le_of_ble_eq_true rfl) (ct_told hI hg.1) ?_
        have h24 := toldA (h := h) hI hg.1
        generalize toldM mem h = m24 at h24 ⊢
        refine zw_iload_n ok_B_behind rfl rfl ?_
        refine zw_if_ne 41 ok_B_behind rfl (by decide) (by omega) (fun h28 => ?_) (fun h28 => ?_)
        · rw [if_neg h28, ← h24.st.1.2]
          refine zw_aload_n ok_B_behind rfl rfl ?_
          refine zw_getr ok_B_behind rfl fl_B_53 rfl rfl ?_
          refine zw_geti ok_B_behind rfl fl_B_176 rfl rfl ?_
          exact zw_iret ok_B_behind rfl rfl (⟨rfl, h24.ci hI⟩)
        · rw [if_pos h28, ← h24.st.1.1]
          refine zw_aload_n ok_B_behind rfl rfl ?_
          refine zw_getr ok_B_behind rfl fl_B_53 rfl rfl ?_
          refine zw_geti ok_B_behind rfl fl_B_173 rfl rfl ?_
          refine zw_goto 48 ok_B_behind rfl (by decide) ?_
          exact zw_iret ok_B_behind rfl rfl (⟨rfl, h24.ci hI⟩)
      · exact absurd hg.2 h13
  · rw [if_neg hg]
    refine zw_iload_n ok_B_behind rfl rfl ?_
    refine zw_Sbp ok_B_behind rfl ok_B_isHour lk_B_138 (by decide) rfl (Nat.le_of_ble_eq_true rfl) (ct_B_isHour (by omega)) ?_
    first | refine zw_ifeq_d 16 ok_B_behind rfl (by decide) (fun h4 => ?_) (fun h4 => ?_) | refine zw_ifeq_b 16 ok_B_behind rfl (by decide) (fun h4 => ?_) (fun h4 => ?_) | refine zw_if_eq 16 ok_B_behind rfl (by decide) (by omega) (fun h4 => ?_) (fun h4 => ?_)
    · refine zw_bipush ok_B_behind rfl (by decide) ?_
      exact zw_iret ok_B_behind rfl rfl (⟨rfl, hI, fun _ _ => rfl⟩)
    · refine zw_iload_n ok_B_behind rfl rfl ?_
      refine zw_iconst ok_B_behind rfl ?_
      refine zw_iconst ok_B_behind rfl ?_
      refine zw_Sbp ok_B_behind rfl ok_B_within lk_B_100 (by decide) rfl (Nat.le_of_ble_eq_true rfl) (ct_B_within (by omega)) ?_
      first | refine zw_ifne_d 19 ok_B_behind rfl (by decide) (fun h13 => ?_) (fun h13 => ?_) | refine zw_ifne_b 19 ok_B_behind rfl (by decide) (fun h13 => ?_) (fun h13 => ?_) | refine zw_if_ne 19 ok_B_behind rfl (by decide) (by omega) (fun h13 => ?_) (fun h13 => ?_)
      · exact absurd ⟨h4, h13⟩ hg
      · refine zw_bipush ok_B_behind rfl (by decide) ?_
        exact zw_iret ok_B_behind rfl rfl (⟨rfl, hI, fun _ _ => rfl⟩)
theorem ct_B_first {w : Int} (hI : CI mem τ) (hw : zR w) : zCi m_B_first [vr 0, vi w] mem (qFirst τ w) (fun m2 => CI m2 τ ∧ clsC mem m2) := by
  refine zCt.of [some (vr 0), some (vi w)] ok_B_first (Nat.le_of_ble_eq_true rfl) rfl ?_
  unfold qFirst
  by_cases hg : 0 ≤ w ∧ w ≤ 1
  · rw [if_pos hg]
    refine zw_iload_n ok_B_first rfl rfl ?_
    refine zw_iconst ok_B_first rfl ?_
    refine zw_iconst ok_B_first rfl ?_
    refine zw_Sbp ok_B_first rfl ok_B_within lk_B_100 (by decide) rfl (Nat.le_of_ble_eq_true rfl) (ct_B_within (by omega)) ?_
    first | refine zw_ifne_d 12 ok_B_first rfl (by decide) (fun h6 => ?_) (fun h6 => ?_) | refine zw_ifne_b 12 ok_B_first rfl (by decide) (fun h6 => ?_) (fun h6 => ?_) | refine zw_if_ne 12 ok_B_first rfl (by decide) (by omega) (fun h6 => ?_) (fun h6 => ?_)
    · refine zw_aload_n ok_B_first rfl rfl ?_
      refine zw_getr ok_B_first rfl fl_B_53 rfl rfl ?_
      refine zw_bipush ok_B_first rfl (by decide) ?_
      refine zw_Vvp ok_B_first rfl ok_Co_walkAsTold lk_B_167 (by decide) rfl rfl (Nat.le_of_ble_eq_true rfl) (ct_told hI (by omega)) ?_
      have h18 := toldA (h := 11) hI (by omega)
      generalize toldM mem 11 = m18 at h18 ⊢
      refine zw_iload_n ok_B_first rfl rfl ?_
      refine zw_if_ne 35 ok_B_first rfl (by decide) (by omega) (fun h22 => ?_) (fun h22 => ?_)
      · rw [if_neg h22, ← h18.st.2.2]
        refine zw_aload_n ok_B_first rfl rfl ?_
        refine zw_getr ok_B_first rfl fl_B_53 rfl rfl ?_
        refine zw_geti ok_B_first rfl fl_B_186 rfl rfl ?_
        exact zw_iret ok_B_first rfl rfl (⟨rfl, h18.ci hI⟩)
      · rw [if_pos h22, ← h18.st.2.1]
        refine zw_aload_n ok_B_first rfl rfl ?_
        refine zw_getr ok_B_first rfl fl_B_53 rfl rfl ?_
        refine zw_geti ok_B_first rfl fl_B_183 rfl rfl ?_
        refine zw_goto 42 ok_B_first rfl (by decide) ?_
        exact zw_iret ok_B_first rfl rfl (⟨rfl, h18.ci hI⟩)
    · exact absurd hg h6
  · rw [if_neg hg]
    refine zw_iload_n ok_B_first rfl rfl ?_
    refine zw_iconst ok_B_first rfl ?_
    refine zw_iconst ok_B_first rfl ?_
    refine zw_Sbp ok_B_first rfl ok_B_within lk_B_100 (by decide) rfl (Nat.le_of_ble_eq_true rfl) (ct_B_within (by omega)) ?_
    first | refine zw_ifne_d 12 ok_B_first rfl (by decide) (fun h6 => ?_) (fun h6 => ?_) | refine zw_ifne_b 12 ok_B_first rfl (by decide) (fun h6 => ?_) (fun h6 => ?_) | refine zw_if_ne 12 ok_B_first rfl (by decide) (by omega) (fun h6 => ?_) (fun h6 => ?_)
    · exact absurd h6 hg
    · refine zw_bipush ok_B_first rfl (by decide) ?_
      exact zw_iret ok_B_first rfl rfl (⟨rfl, hI, fun _ _ => rfl⟩)
theorem clT {p : Int} (hI : CI mem τ) (hp : 0 ≤ p ∧ p < aP τ) : tb (mem 5 5) p.toNat = decide (aK τ p = 2) := by
  have hP := isP_CI hI
  have eP := eP_CI hI
  have hp : 0 ≤ p ∧ p < sP (τ 2 0) (τ 0) := hp
  have eP : mem 5 4 = sP (τ 2 0) (τ 0) := eP
  obtain ⟨-, -, ⟨hq, hw⟩, -⟩ := hI
  rw [hq.1.2.1, cl_tb (by omega) _ _ _ (by omega) (by omega), tb_0, Bool.false_or]
  apply decide_eq_decide.mpr
  constructor
  · intro q; exact q.2.2
  · intro q; exact ⟨by omega, by omega, q⟩
theorem debtT {p q : Int} {d e : Int → Int} (hI : CI mem τ) (hp : 0 ≤ p ∧ p < aP τ) (hq : 0 ≤ q ∧ q < aP τ) (hpq : p ≠ q) (he : ∀ a b, 0 ≤ a → a < b → b < aP τ → d (a * 8 + b) = e (a * 8 + b)) : debtS (mem 5 5) d p q = aDebt τ e p q := by
  have hP := isP_CI hI
  rw [eP_CI hI] at hP
  unfold debtS aDebt
  rw [clT hI hp, clT hI hq]
  simp only [decide_eq_true_eq]
  congr 1
  split
  · rename_i h1; rw [he p q hp.1 h1 hq.2]
  · rename_i h1; rw [he q p hq.1 (by omega) hp.2]
theorem ct_B_owes {h p q : Int} (hI : CI mem τ) (hh : zR h) (hp : zR p) (hq : zR q) : zCi m_B_owes [vr 0, vi h, vi p, vi q] mem (qOwes τ h p q) (fun m2 => CI m2 τ ∧ clsC mem m2) := by
  refine zCt.of [some (vr 0), some (vi h), some (vi p), some (vi q)] ok_B_owes (Nat.le_of_ble_eq_true rfl) rfl ?_
  have hP := isP_CI hI
  have eP := eP_CI hI
  unfold qOwes
  by_cases hg : (0 ≤ h ∧ h ≤ 11) ∧ (0 ≤ p ∧ p < aP τ) ∧ (0 ≤ q ∧ q < aP τ) ∧ p ≠ q
  · rw [if_pos hg]
    refine zw_iload_n ok_B_owes rfl rfl ?_
    refine zw_Sbp ok_B_owes rfl ok_B_isHour lk_B_138 (by decide) rfl (Nat.le_of_ble_eq_true rfl) (ct_B_isHour (by omega)) ?_
    first | refine zw_ifeq_d 28 ok_B_owes rfl (by decide) (fun h4 => ?_) (fun h4 => ?_) | refine zw_ifeq_b 28 ok_B_owes rfl (by decide) (fun h4 => ?_) (fun h4 => ?_) | refine zw_if_eq 28 ok_B_owes rfl (by decide) (by omega) (fun h4 => ?_) (fun h4 => ?_)
    · exact absurd hg.1 h4
    · refine zw_aload_n ok_B_owes rfl rfl ?_
      refine zw_iload_n ok_B_owes rfl rfl ?_
      refine zw_Vbp ok_B_owes rfl ok_B_isPerson lk_B_126 (by decide) rfl rfl (Nat.le_of_ble_eq_true rfl) (ct_B_isPerson ⟨hp, hP⟩) ?_
      first | refine zw_ifeq_d 28 ok_B_owes rfl (by decide) (fun h12 => ?_) (fun h12 => ?_) | refine zw_ifeq_b 28 ok_B_owes rfl (by decide) (fun h12 => ?_) (fun h12 => ?_) | refine zw_if_eq 28 ok_B_owes rfl (by decide) (by omega) (fun h12 => ?_) (fun h12 => ?_)
      · exact absurd ⟨hg.2.1.1, by rw [eP]; omega⟩ h12
      · refine zw_aload_n ok_B_owes rfl rfl ?_
        refine zw_iload_n ok_B_owes rfl rfl ?_
        refine zw_Vbp ok_B_owes rfl ok_B_isPerson lk_B_126 (by decide) rfl rfl (Nat.le_of_ble_eq_true rfl) (ct_B_isPerson ⟨hq, hP⟩) ?_
        first | refine zw_ifeq_d 28 ok_B_owes rfl (by decide) (fun h20 => ?_) (fun h20 => ?_) | refine zw_ifeq_b 28 ok_B_owes rfl (by decide) (fun h20 => ?_) (fun h20 => ?_) | refine zw_if_eq 28 ok_B_owes rfl (by decide) (by omega) (fun h20 => ?_) (fun h20 => ?_)
        · exact absurd ⟨hg.2.2.1.1, by rw [eP]; omega⟩ h20
        · refine zw_iload_n ok_B_owes rfl rfl ?_
          refine zw_iload_n ok_B_owes rfl rfl ?_
          refine zw_icmp_ne 31 ok_B_owes rfl (by decide) (by omega) (fun h25 => ?_) (fun h25 => ?_)
          · refine zw_aload_n ok_B_owes rfl rfl ?_
            refine zw_getr ok_B_owes rfl fl_B_53 rfl rfl ?_
            refine zw_iload_n ok_B_owes rfl rfl ?_
            refine zw_Vvp ok_B_owes rfl ok_Co_walkAsTold lk_B_167 (by decide) rfl rfl (Nat.le_of_ble_eq_true rfl) (ct_told hI hg.1) ?_
            have h36 := toldA (h := h) hI hg.1
            generalize toldM mem h = m36 at h36 ⊢
            refine zw_aload_n ok_B_owes rfl rfl ?_
            refine zw_getr ok_B_owes rfl fl_B_53 rfl rfl ?_
            refine zw_iload_n ok_B_owes rfl rfl ?_
            refine zw_iload_n ok_B_owes rfl rfl ?_
            obtain ⟨L, s, e1, e2, e3⟩ := id h36
            subst e1
            refine zw_Vip ok_B_owes rfl ok_Co_debt lk_B_179 (by decide) rfl rfl (Nat.le_of_ble_eq_true rfl) (ct_Co_debt (P := aP τ) (by rw [← eP]; exact hP) hg.2.1 hg.2.2.1 hg.2.2.2 e3) ?_
            exact zw_iret ok_B_owes rfl rfl (⟨by rw [debtT hI hg.2.1 hg.2.2.1 hg.2.2.2 e2.1], h36.ci hI⟩)
          · exact absurd h25 hg.2.2.2
  · rw [if_neg hg]
    refine zw_iload_n ok_B_owes rfl rfl ?_
    refine zw_Sbp ok_B_owes rfl ok_B_isHour lk_B_138 (by decide) rfl (Nat.le_of_ble_eq_true rfl) (ct_B_isHour (by omega)) ?_
    first | refine zw_ifeq_d 28 ok_B_owes rfl (by decide) (fun h4 => ?_) (fun h4 => ?_) | refine zw_ifeq_b 28 ok_B_owes rfl (by decide) (fun h4 => ?_) (fun h4 => ?_) | refine zw_if_eq 28 ok_B_owes rfl (by decide) (by omega) (fun h4 => ?_) (fun h4 => ?_)
    · refine zw_bipush ok_B_owes rfl (by decide) ?_
      exact zw_iret ok_B_owes rfl rfl (⟨rfl, hI, fun _ _ => rfl⟩)
    · refine zw_aload_n ok_B_owes rfl rfl ?_
      refine zw_iload_n ok_B_owes rfl rfl ?_
      refine zw_Vbp ok_B_owes rfl ok_B_isPerson lk_B_126 (by decide) rfl rfl (Nat.le_of_ble_eq_true rfl) (ct_B_isPerson ⟨hp, hP⟩) ?_
      first | refine zw_ifeq_d 28 ok_B_owes rfl (by decide) (fun h12 => ?_) (fun h12 => ?_) | refine zw_ifeq_b 28 ok_B_owes rfl (by decide) (fun h12 => ?_) (fun h12 => ?_) | refine zw_if_eq 28 ok_B_owes rfl (by decide) (by omega) (fun h12 => ?_) (fun h12 => ?_)
      · refine zw_bipush ok_B_owes rfl (by decide) ?_
        exact zw_iret ok_B_owes rfl rfl (⟨rfl, hI, fun _ _ => rfl⟩)
      · refine zw_aload_n ok_B_owes rfl rfl ?_
        refine zw_iload_n ok_B_owes rfl rfl ?_
        refine zw_Vbp ok_B_owes rfl ok_B_isPerson lk_B_126 (by decide) rfl rfl (Nat.le_of_ble_eq_true rfl) (ct_B_isPerson ⟨hq, hP⟩) ?_
        first | refine zw_ifeq_d 28 ok_B_owes rfl (by decide) (fun h20 => ?_) (fun h20 => ?_) | refine zw_ifeq_b 28 ok_B_owes rfl (by decide) (fun h20 => ?_) (fun h20 => ?_) | refine zw_if_eq 28 ok_B_owes rfl (by decide) (by omega) (fun h20 => ?_) (fun h20 => ?_)
        · refine zw_bipush ok_B_owes rfl (by decide) ?_
          exact zw_iret ok_B_owes rfl rfl (⟨rfl, hI, fun _ _ => rfl⟩)
        · refine zw_iload_n ok_B_owes rfl rfl ?_
          refine zw_iload_n ok_B_owes rfl rfl ?_
          refine zw_icmp_ne 31 ok_B_owes rfl (by decide) (by omega) (fun h25 => ?_) (fun h25 => ?_)
          · exact absurd ⟨h4, ⟨h12.1, by rw [← eP]; omega⟩, ⟨h20.1, by rw [← eP]; omega⟩, h25⟩ hg
          · refine zw_bipush ok_B_owes rfl (by decide) ?_
            exact zw_iret ok_B_owes rfl rfl (⟨rfl, hI, fun _ _ => rfl⟩)
end
