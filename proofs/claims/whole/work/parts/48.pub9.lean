/-! ===== LowerBows: ends ===== -/
section
variable {mem m2 τ τ2 : zMem} {Q : Option zVal → zMem → Prop}
def mayT (τ : zMem) (t : zS) (p q : Int) : Bool := ((!decide (aK τ p = 2)) && !tb t.2.2.1 p.toNat) && ((!decide (aK τ q = 2)) && !tb t.2.2.1 q.toNat)
theorem may_T {s t : zS} {p q : Int} (hI : CI mem τ) (hp : 0 ≤ p ∧ p < aP τ) (hq : 0 ≤ q ∧ q < aP τ) (hpq : p ≠ q) (e : s.2.2 = t.2.2) : (p ≠ q ∧ (tb (mem 5 5) p.toNat = false ∧ tb s.2.2.1 p.toNat = false) ∧ (tb (mem 5 5) q.toNat = false ∧ tb s.2.2.1 q.toNat = false)) ↔ mayT τ t p q = true := by
  unfold mayT
  rw [clT hI hp, clT hI hq, e]
  simp only [Bool.and_eq_true, Bool.not_eq_true', and_iff_right hpq]
theorem pT {p : Int} (hI : CI mem τ) (hp : 0 ≤ p ∧ p < aP τ) : mem 7 p = aCan τ p ∧ mem 9 p = aSt τ p := by
  have h := layT hI 0 0 (mem 25, mem 26, mem 27)
  exact h.1.1 p hp.1 (by rw [h.2.2]; exact hp.2)
theorem pInvT (hI : CI mem τ) : pInv (aP τ) (mem 7) (mem 9) := by
  have h := (okC_CI hI).2.1
  rw [eP_CI hI] at h
  exact h
/-- p and q meet while they may, n times at the most -/
def endT (τ : zMem) (p q : Int) : Nat → zS → zS
  | 0, t => t
  | k + 1, t => if mayT τ t p q = true then endT τ p q k (meetS (aCan τ) (aSt τ) (min p q) (max p q) t) else t
def qEnds (τ : zMem) (p q w : Int) : Int := if ((0 ≤ p ∧ p < aP τ) ∧ (0 ≤ q ∧ q < aP τ)) ∧ p ≠ q ∧ (0 ≤ w ∧ w ≤ 1) then (if mayT τ (aTold τ 11) p q = true then (if w = 0 then (endT τ p q 100 (aTold τ 11)).2.2.2.1 - (aTold τ 11).2.2.2.1 else (if tb (endT τ p q 100 (aTold τ 11)).2.2.1 p.toNat = true then 0 else 1)) else -1) else -2
theorem end_loop {L : zL} {p q w b : Int} (hI : CI mem τ) (hp : 0 ≤ p ∧ p < aP τ) (hq : 0 ≤ q ∧ q < aP τ) (hpq : p ≠ q) :
    ∀ (k : Nat) (i : Int) (s t : zS), 0 ≤ i → i + k = 100 → eqP (aP τ) s t → sInv (aP τ) s → (∀ s2, eqP (aP τ) s2 (endT τ p q k t) → sInv (aP τ) s2 → AW m_B_ends 102 [some (vr 0), some (vi p), some (vi q), some (vi w), some (vi b), none] [] (putC mem L s2) Q) → AW m_B_ends 68 [some (vr 0), some (vi p), some (vi q), some (vi w), some (vi b), some (vi i)] [] (putC mem L s) Q := by
  intro k
  induction k with
  | zero =>
    intro i s t h0 hk he hs hQ
    refine zw_iload ok_B_ends rfl rfl ?_
    refine zw_bipush ok_B_ends rfl (by decide) ?_
    refine zw_icmp_gt 102 ok_B_ends rfl (by decide) (by omega) (fun h72 => ?_) (fun h72 => ?_)
    · refine zw_mask [true, true, true, true, true, false] rfl ?_
      exact hQ s he hs
    · exfalso; omega
  | succ k ih =>
    intro i s t h0 hk he hs hQ
    have hP := isP_CI hI
    rw [eP_CI hI] at hP
    have hm := may_T hI hp hq hpq he.2.2
    unfold endT at hQ
    refine zw_iload ok_B_ends rfl rfl ?_
    refine zw_bipush ok_B_ends rfl (by decide) ?_
    refine zw_icmp_gt 102 ok_B_ends rfl (by decide) (by omega) (fun h72 => ?_) (fun h72 => ?_)
    · exfalso; omega
    · refine zw_aload_n ok_B_ends rfl rfl ?_
      refine zw_getr ok_B_ends rfl fl_B_53 rfl rfl ?_
      refine zw_iload_n ok_B_ends rfl rfl ?_
      refine zw_iload_n ok_B_ends rfl rfl ?_
      refine zw_Vbp ok_B_ends rfl ok_Co_mayMeet lk_B_189 (by decide) rfl rfl (Nat.le_of_ble_eq_true rfl) (ct_Co_mayMeet (by omega) (by omega)) ?_
      refine zw_ifeq_d 102 ok_B_ends rfl (by decide) (fun h84 => ?_) (fun h84 => ?_)
      · rw [if_neg (fun z => h84 (hm.2 z))] at hQ
        refine zw_mask [true, true, true, true, true, false] rfl ?_
        exact hQ s he hs
      · rw [if_pos (hm.1 h84)] at hQ
        refine zw_aload_n ok_B_ends rfl rfl ?_
        refine zw_getr ok_B_ends rfl fl_B_53 rfl rfl ?_
        refine zw_iload_n ok_B_ends rfl rfl ?_
        refine zw_iload_n ok_B_ends rfl rfl ?_
        refine zw_Vvp ok_B_ends rfl ok_Co_meet lk_B_193 (by decide) rfl rfl (Nat.le_of_ble_eq_true rfl) (ct_Co_meet (pInvT hI) hp hq hpq hs) ?_
        refine zw_iinc ok_B_ends rfl rfl rfl (by decide) ?_
        refine zw_goto 68 ok_B_ends rfl (by decide) ?_
        exact ih (i + 1) _ _ (by omega) (by omega) (meetS_eq (fun p q1 q2 => pT hI ⟨q1, q2⟩) (by omega) (by omega) (by omega) he) (meetS_inv (pInvT hI) (by omega) (by omega) (by omega) hs) hQ
theorem end_tail {L : zL} {s : zS} {p q w b : Int} (hp : 0 ≤ p ∧ p < 8) (hw : 0 ≤ w ∧ w ≤ 1) (hQ : Q (some (vi (if w = 0 then s.2.2.2.1 - b else if tb s.2.2.1 p.toNat = true then 0 else 1))) (putC mem L s)) : AW m_B_ends 102 [some (vr 0), some (vi p), some (vi q), some (vi w), some (vi b), none] [] (putC mem L s) Q := by
  obtain ⟨d, l, g, n, fh, fw⟩ := s
  dsimp only at hQ
  refine zw_iload_n ok_B_ends rfl rfl ?_
  refine zw_if_ne 117 ok_B_ends rfl (by decide) (by omega) (fun h103 => ?_) (fun h103 => ?_)
  · rw [if_neg h103] at hQ
    refine zw_aload_n ok_B_ends rfl rfl ?_
    refine zw_getr ok_B_ends rfl fl_B_53 rfl rfl ?_
    refine zw_iload_n ok_B_ends rfl rfl ?_
    refine zw_Vbp ok_B_ends rfl ok_Co_isGone lk_B_197 (by decide) rfl rfl (Nat.le_of_ble_eq_true rfl) (ct_Co_isGone hp) ?_
    refine zw_ifeq_b 132 ok_B_ends rfl (by decide) (fun h125 => ?_) (fun h125 => ?_)
    · have h1 : tb g p.toNat = false := h125
      rw [h1, if_neg (by decide)] at hQ
      refine zw_iconst ok_B_ends rfl ?_
      exact zw_iret ok_B_ends rfl rfl (hQ)
    · have h1 : tb g p.toNat = true := h125
      rw [if_pos h1] at hQ
      refine zw_iconst ok_B_ends rfl ?_
      refine zw_goto 133 ok_B_ends rfl (by decide) ?_
      exact zw_iret ok_B_ends rfl rfl (hQ)
  · rw [if_pos h103] at hQ
    refine zw_aload_n ok_B_ends rfl rfl ?_
    refine zw_getr ok_B_ends rfl fl_B_53 rfl rfl ?_
    refine zw_geti ok_B_ends rfl fl_B_176 rfl rfl ?_
    try simp only [rd_C9, rd_C10, rd_C11, rd_C12, rd_C25, rd_C26, rd_C27, rd_C28, rd_C29, rd_C_0, rd_C_1, rd_C_2, rd_C_3, rd_C_4, rd_C_5, rd_C_6, rd_C_7, rd_C_8, rd_C_9, rd_C_10, rd_C_11, rd_C_12, rd_C_13, rd_C_14, rd_C_15, rd_C_16, rd_C_17, rd_C_18, rd_C_19, rd_C_20, rd_C_21, rd_C_22, rd_C_23, rd_C_30, rd_C_31, rd_C_32, rd_C_33, rd_C_34, rd_C_35, rd_C_36, rd_C_37, rd_C_38, rd_C_39, rd_C_40, rd_C_41, rd_C_42, rd_C_43, rd_C_44, rd_C_45, rd_C_46, rd_C_47, rd_C_48, rd_C_49, rd_C_50, rd_C_51, rd_C_52, rd_C_53, rd_C_54, rd_C_55, rd_C_56, rd_C_57, rd_C_58, rd_C_59, rd_C_60, rd_C_61, rd_C_62, rd_C_63, rd_C_64, rd_C_65, wr_C9, wr_C10, wr_C11, wr_C12, wr_C25, wr_C26, wr_C27, wr_C28, wr_C29, wp_C25, wp_C26, wp_C27, wp_C28, wp_C29]
    refine zw_iload ok_B_ends rfl rfl ?_
    refine zw_isub ok_B_ends rfl ?_
    exact zw_iret ok_B_ends rfl rfl (hQ)
theorem ct_B_ends {p q w : Int} (hI : CI mem τ) (hp : zR p) (hq : zR q) (hw : zR w) : zCi m_B_ends [vr 0, vi p, vi q, vi w] mem (qEnds τ p q w) (fun m2 => CI m2 τ ∧ clsC mem m2) := by
  refine zCt.of [some (vr 0), some (vi p), some (vi q), some (vi w), none, none] ok_B_ends (Nat.le_of_ble_eq_true rfl) rfl ?_
  have hP := isP_CI hI
  have eP := eP_CI hI
  unfold qEnds
  by_cases hg : ((0 ≤ p ∧ p < aP τ) ∧ (0 ≤ q ∧ q < aP τ)) ∧ p ≠ q ∧ (0 ≤ w ∧ w ≤ 1)
  · rw [if_pos hg]
    have hg1 := hg.1.1
    have hg2 := hg.1.2
    have hP8 : aP τ ≤ 8 := by rw [← eP]; exact hP.2
    refine zw_aload_n ok_B_ends rfl rfl ?_
    refine zw_iload_n ok_B_ends rfl rfl ?_
    refine zw_Vbp ok_B_ends rfl ok_B_isPerson lk_B_126 (by decide) rfl rfl (Nat.le_of_ble_eq_true rfl) (ct_B_isPerson ⟨hp, hP⟩) ?_
    first | refine zw_ifeq_d 30 ok_B_ends rfl (by decide) (fun h5 => ?_) (fun h5 => ?_) | refine zw_ifeq_b 30 ok_B_ends rfl (by decide) (fun h5 => ?_) (fun h5 => ?_) | refine zw_if_eq 30 ok_B_ends rfl (by decide) (by omega) (fun h5 => ?_) (fun h5 => ?_)
    · exact absurd ⟨hg1.1, by rw [eP]; omega⟩ h5
    · refine zw_aload_n ok_B_ends rfl rfl ?_
      refine zw_iload_n ok_B_ends rfl rfl ?_
      refine zw_Vbp ok_B_ends rfl ok_B_isPerson lk_B_126 (by decide) rfl rfl (Nat.le_of_ble_eq_true rfl) (ct_B_isPerson ⟨hq, hP⟩) ?_
      first | refine zw_ifeq_d 30 ok_B_ends rfl (by decide) (fun h13 => ?_) (fun h13 => ?_) | refine zw_ifeq_b 30 ok_B_ends rfl (by decide) (fun h13 => ?_) (fun h13 => ?_) | refine zw_if_eq 30 ok_B_ends rfl (by decide) (by omega) (fun h13 => ?_) (fun h13 => ?_)
      · exact absurd ⟨hg2.1, by rw [eP]; omega⟩ h13
      · refine zw_iload_n ok_B_ends rfl rfl ?_
        refine zw_iload_n ok_B_ends rfl rfl ?_
        refine zw_icmp_eq 30 ok_B_ends rfl (by decide) (by omega) (fun h18 => ?_) (fun h18 => ?_)
        · exact absurd h18 hg.2.1
        · refine zw_iload_n ok_B_ends rfl rfl ?_
          refine zw_iconst ok_B_ends rfl ?_
          refine zw_iconst ok_B_ends rfl ?_
          refine zw_Sbp ok_B_ends rfl ok_B_within lk_B_100 (by decide) rfl (Nat.le_of_ble_eq_true rfl) (ct_B_within (by omega)) ?_
          first | refine zw_ifne_d 33 ok_B_ends rfl (by decide) (fun h27 => ?_) (fun h27 => ?_) | refine zw_ifne_b 33 ok_B_ends rfl (by decide) (fun h27 => ?_) (fun h27 => ?_) | refine zw_if_ne 33 ok_B_ends rfl (by decide) (by omega) (fun h27 => ?_) (fun h27 => ?_)
          · refine zw_aload_n ok_B_ends rfl rfl ?_
            refine zw_getr ok_B_ends rfl fl_B_53 rfl rfl ?_
            refine zw_bipush ok_B_ends rfl (by decide) ?_
            refine zw_Vvp ok_B_ends rfl ok_Co_walkAsTold lk_B_167 (by decide) rfl rfl (Nat.le_of_ble_eq_true rfl) (ct_told hI (by omega)) ?_
            have h39 := toldA (h := 11) hI (by omega)
            generalize toldM mem 11 = m39 at h39 ⊢
            generalize aTold τ 11 = t at h39 ⊢
            have hJ := h39.ci hI
            obtain ⟨L, s, rfl, e2, e3⟩ := id h39
            have hm := may_T hI hg1 hg2 hg.2.1 e2.2.2
            refine zw_aload_n ok_B_ends rfl rfl ?_
            refine zw_getr ok_B_ends rfl fl_B_53 rfl rfl ?_
            refine zw_iload_n ok_B_ends rfl rfl ?_
            refine zw_iload_n ok_B_ends rfl rfl ?_
            refine zw_Vbp ok_B_ends rfl ok_Co_mayMeet lk_B_189 (by decide) rfl rfl (Nat.le_of_ble_eq_true rfl) (ct_Co_mayMeet (by omega) (by omega)) ?_
            refine zw_ifne_d 56 ok_B_ends rfl (by decide) (fun h51 => ?_) (fun h51 => ?_)
            · rw [if_pos (hm.1 h51)]
              refine zw_aload_n ok_B_ends rfl rfl ?_
              refine zw_getr ok_B_ends rfl fl_B_53 rfl rfl ?_
              obtain ⟨d, l, g, n, fh, fw⟩ := s
              refine zw_geti ok_B_ends rfl fl_B_176 rfl rfl ?_
              simp only [rd_C10]
              have en : n = t.2.2.2.1 := congrArg (fun z : Int × Int × Int × Int => z.2.1) e2.2.2
              refine zw_istore ok_B_ends rfl rfl (by decide) ?_
              refine zw_iconst ok_B_ends rfl ?_
              refine zw_istore ok_B_ends rfl rfl (by decide) ?_
              refine end_loop hI hg1 hg2 hg.2.1 100 0 _ t (by omega) (by omega) e2 e3 (fun s2 f2 f3 => end_tail (by omega) hg.2.2 ⟨?_, CI_of (putC_scr zfr.rf) hI, fun k hk => putC_ne (by omega)⟩)
              rw [f2.2.2, en]
            · rw [if_neg (fun z => h51 (hm.2 z))]
              refine zw_iconst ok_B_ends rfl ?_
              exact zw_iret ok_B_ends rfl rfl ⟨rfl, hJ⟩
          · exact absurd hg.2.2 h27
  · rw [if_neg hg]
    refine zw_aload_n ok_B_ends rfl rfl ?_
    refine zw_iload_n ok_B_ends rfl rfl ?_
    refine zw_Vbp ok_B_ends rfl ok_B_isPerson lk_B_126 (by decide) rfl rfl (Nat.le_of_ble_eq_true rfl) (ct_B_isPerson ⟨hp, hP⟩) ?_
    first | refine zw_ifeq_d 30 ok_B_ends rfl (by decide) (fun h5 => ?_) (fun h5 => ?_) | refine zw_ifeq_b 30 ok_B_ends rfl (by decide) (fun h5 => ?_) (fun h5 => ?_) | refine zw_if_eq 30 ok_B_ends rfl (by decide) (by omega) (fun h5 => ?_) (fun h5 => ?_)
    · refine zw_bipush ok_B_ends rfl (by decide) ?_
      exact zw_iret ok_B_ends rfl rfl (⟨rfl, hI, fun _ _ => rfl⟩)
    · refine zw_aload_n ok_B_ends rfl rfl ?_
      refine zw_iload_n ok_B_ends rfl rfl ?_
      refine zw_Vbp ok_B_ends rfl ok_B_isPerson lk_B_126 (by decide) rfl rfl (Nat.le_of_ble_eq_true rfl) (ct_B_isPerson ⟨hq, hP⟩) ?_
      first | refine zw_ifeq_d 30 ok_B_ends rfl (by decide) (fun h13 => ?_) (fun h13 => ?_) | refine zw_ifeq_b 30 ok_B_ends rfl (by decide) (fun h13 => ?_) (fun h13 => ?_) | refine zw_if_eq 30 ok_B_ends rfl (by decide) (by omega) (fun h13 => ?_) (fun h13 => ?_)
      · refine zw_bipush ok_B_ends rfl (by decide) ?_
        exact zw_iret ok_B_ends rfl rfl (⟨rfl, hI, fun _ _ => rfl⟩)
      · refine zw_iload_n ok_B_ends rfl rfl ?_
        refine zw_iload_n ok_B_ends rfl rfl ?_
        refine zw_icmp_eq 30 ok_B_ends rfl (by decide) (by omega) (fun h18 => ?_) (fun h18 => ?_)
        · refine zw_bipush ok_B_ends rfl (by decide) ?_
          exact zw_iret ok_B_ends rfl rfl (⟨rfl, hI, fun _ _ => rfl⟩)
        · refine zw_iload_n ok_B_ends rfl rfl ?_
          refine zw_iconst ok_B_ends rfl ?_
          refine zw_iconst ok_B_ends rfl ?_
          refine zw_Sbp ok_B_ends rfl ok_B_within lk_B_100 (by decide) rfl (Nat.le_of_ble_eq_true rfl) (ct_B_within (by omega)) ?_
          first | refine zw_ifne_d 33 ok_B_ends rfl (by decide) (fun h27 => ?_) (fun h27 => ?_) | refine zw_ifne_b 33 ok_B_ends rfl (by decide) (fun h27 => ?_) (fun h27 => ?_) | refine zw_if_ne 33 ok_B_ends rfl (by decide) (by omega) (fun h27 => ?_) (fun h27 => ?_)
          · exact absurd ⟨⟨⟨h5.1, by rw [← eP]; omega⟩, h13.1, by rw [← eP]; omega⟩, h18, h27⟩ hg
          · refine zw_bipush ok_B_ends rfl (by decide) ?_
            exact zw_iret ok_B_ends rfl rfl (⟨rfl, hI, fun _ _ => rfl⟩)
end
