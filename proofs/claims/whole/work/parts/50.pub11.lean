/-! ===== LowerBows: season ===== -/
section
variable {mem m2 τ τ2 : zMem} {Q : Option zVal → zMem → Prop}
/-- two by lot, n times -/
def tLot (τ : zMem) : Nat → Int → zS → zS
  | 0, _, t => t
  | k + 1, x, t => tLot τ k (1103515245 * (1103515245 * x + 12345) + 12345)
      (if zushr (1103515245 * x + 12345) 16 % aP τ ≠ zushr (1103515245 * (1103515245 * x + 12345) + 12345) 16 % aP τ ∧ mayT τ t (zushr (1103515245 * x + 12345) 16 % aP τ) (zushr (1103515245 * (1103515245 * x + 12345) + 12345) 16 % aP τ) = true then
        meetS (aCan τ) (aSt τ) (min (zushr (1103515245 * x + 12345) 16 % aP τ) (zushr (1103515245 * (1103515245 * x + 12345) + 12345) 16 % aP τ)) (max (zushr (1103515245 * x + 12345) 16 % aP τ) (zushr (1103515245 * (1103515245 * x + 12345) + 12345) 16 % aP τ)) t
      else t)
theorem lot_T (hI : CI mem τ) (hP : 0 < aP τ) : ∀ (k : Nat) (x : Int) (s t : zS), eqP (aP τ) s t → sInv (aP τ) s → eqP (aP τ) (lotS (aP τ) (mem 7) (mem 9) (mem 5 5) k x s) (tLot τ k x t) ∧ sInv (aP τ) (lotS (aP τ) (mem 7) (mem 9) (mem 5 5) k x s)
  | 0, _, _, _, he, hs => ⟨he, hs⟩
  | k + 1, x, s, t, he, hs => by
    unfold lotS tLot
    have v1 := Int.emod_nonneg (zushr (1103515245 * x + 12345) 16) (show aP τ ≠ 0 by omega)
    have v2 := Int.emod_lt_of_pos (zushr (1103515245 * x + 12345) 16) hP
    have v3 := Int.emod_nonneg (zushr (1103515245 * (1103515245 * x + 12345) + 12345) 16) (show aP τ ≠ 0 by omega)
    have v4 := Int.emod_lt_of_pos (zushr (1103515245 * (1103515245 * x + 12345) + 12345) 16) hP
    generalize zushr (1103515245 * x + 12345) 16 % aP τ = a at v1 v2 ⊢
    generalize zushr (1103515245 * (1103515245 * x + 12345) + 12345) 16 % aP τ = b at v3 v4 ⊢
    by_cases hab : a = b
    · have e1 : ¬ mayS (mem 5 5) a b s = true := fun q => by unfold mayS at q; exact (of_decide_eq_true q).1 hab
      rw [if_neg e1, if_neg (fun q => q.1 hab)]
      exact lot_T hI hP k _ s t he hs
    · have hm := may_T hI ⟨v1, v2⟩ ⟨v3, v4⟩ hab he.2.2
      by_cases hq : mayT τ t a b = true
      · have e1 : mayS (mem 5 5) a b s = true := by unfold mayS; exact decide_eq_true (hm.2 hq)
        rw [if_pos e1, if_pos ⟨hab, hq⟩]
        exact lot_T hI hP k _ _ _ (meetS_eq (fun p q1 q2 => pT hI ⟨q1, q2⟩) (by omega) (by omega) (by omega) he) (meetS_inv (pInvT hI) (by omega) (by omega) (by omega) hs)
      · have e1 : ¬ mayS (mem 5 5) a b s = true := fun q => by unfold mayS at q; exact hq (hm.1 (of_decide_eq_true q))
        rw [if_neg e1, if_neg (fun q => hq q.2)]
        exact lot_T hI hP k _ s t he hs
/-- the season: the coast behind the lots -/
def seaT (τ : zMem) (x n : Int) : zS := if aP τ = 0 then aTold τ 11 else tLot τ n.toNat x (aTold τ 11)
def qSeason (τ : zMem) (x n p : Int) : Int := if (1 ≤ n ∧ n ≤ 99) ∧ (p = -1 ∨ (0 ≤ p ∧ p < aP τ)) then (if p = -1 then pcN (seaT τ x n).2.2.1 else (seaT τ x n).2.1 p) else -2
theorem ct_B_season {x n p : Int} (hI : CI mem τ) (hx : zR x) (hn : zR n) (hp : zR p) : zCi m_B_season [vr 0, vi x, vi n, vi p] mem (qSeason τ x n p) (fun m2 => CI m2 τ ∧ clsC mem m2) := by
  refine zCt.of [some (vr 0), some (vi x), some (vi n), some (vi p)] ok_B_season (Nat.le_of_ble_eq_true rfl) rfl ?_
  have hP := isP_CI hI
  have eP := eP_CI hI
  unfold qSeason
  by_cases hg : (1 ≤ n ∧ n ≤ 99) ∧ (p = -1 ∨ (0 ≤ p ∧ p < aP τ))
  · rw [if_pos hg]
    have hP8 : aP τ ≤ 8 := by rw [← eP]; exact hP.2
    have hP0 : 0 ≤ aP τ := by rw [← eP]; exact hP.1
    have tl : ∀ (L : zL) (s : zS), eqP (aP τ) s (seaT τ x n) → sInv (aP τ) s → AW m_B_season 44 [some (vr 0), some (vi x), some (vi n), some (vi p)] [] (putC mem L s) (fun r m2 => r = some (vi (if p = -1 then pcN (seaT τ x n).2.2.1 else (seaT τ x n).2.1 p)) ∧ CI m2 τ ∧ clsC mem m2) := by
      intro L s he hs
      have hJ : CI (putC mem L s) τ ∧ clsC mem (putC mem L s) := ⟨CI_of (putC_scr zfr.rf) hI, fun k hk => putC_ne (by omega)⟩
      obtain ⟨d, l, g, k, fh, fw⟩ := s
      have eg : g = (seaT τ x n).2.2.1 := congrArg (fun z : Int × Int × Int × Int => z.1) he.2.2
      refine zw_iload_n ok_B_season rfl rfl ?_
      refine zw_iconst ok_B_season rfl ?_
      refine zw_icmp_ne 62 ok_B_season rfl (by decide) (by omega) (fun h46 => ?_) (fun h46 => ?_)
      · rw [if_neg h46]
        have hp0 : 0 ≤ p ∧ p < aP τ := hg.2.resolve_left h46
        have el : l p = (seaT τ x n).2.1 p := he.2.1 p hp0.1 hp0.2
        rw [← el]
        refine zw_aload_n ok_B_season rfl rfl ?_
        refine zw_getr ok_B_season rfl fl_B_53 rfl rfl ?_
        refine zw_getr ok_B_season rfl fl_B_170 rfl rfl ?_
        refine zw_iload_n ok_B_season rfl rfl ?_
        refine zw_iald ok_B_season rfl rfl (by omega) ?_
        try simp only [rd_C9, rd_C10, rd_C11, rd_C12, rd_C25, rd_C26, rd_C27, rd_C28, rd_C29, rd_C_0, rd_C_1, rd_C_2, rd_C_3, rd_C_4, rd_C_5, rd_C_6, rd_C_7, rd_C_8, rd_C_9, rd_C_10, rd_C_11, rd_C_12, rd_C_13, rd_C_14, rd_C_15, rd_C_16, rd_C_17, rd_C_18, rd_C_19, rd_C_20, rd_C_21, rd_C_22, rd_C_23, rd_C_30, rd_C_31, rd_C_32, rd_C_33, rd_C_34, rd_C_35, rd_C_36, rd_C_37, rd_C_38, rd_C_39, rd_C_40, rd_C_41, rd_C_42, rd_C_43, rd_C_44, rd_C_45, rd_C_46, rd_C_47, rd_C_48, rd_C_49, rd_C_50, rd_C_51, rd_C_52, rd_C_53, rd_C_54, rd_C_55, rd_C_56, rd_C_57, rd_C_58, rd_C_59, rd_C_60, rd_C_61, rd_C_62, rd_C_63, rd_C_64, rd_C_65, wr_C9, wr_C10, wr_C11, wr_C12, wr_C25, wr_C26, wr_C27, wr_C28, wr_C29, wp_C25, wp_C26, wp_C27, wp_C28, wp_C29]
        exact zw_iret ok_B_season rfl rfl (⟨rfl, hJ⟩)
      · rw [if_pos h46, ← eg]
        refine zw_aload_n ok_B_season rfl rfl ?_
        refine zw_getr ok_B_season rfl fl_B_53 rfl rfl ?_
        refine zw_geti ok_B_season rfl fl_B_173 rfl rfl ?_
        try simp only [rd_C9, rd_C10, rd_C11, rd_C12, rd_C25, rd_C26, rd_C27, rd_C28, rd_C29, rd_C_0, rd_C_1, rd_C_2, rd_C_3, rd_C_4, rd_C_5, rd_C_6, rd_C_7, rd_C_8, rd_C_9, rd_C_10, rd_C_11, rd_C_12, rd_C_13, rd_C_14, rd_C_15, rd_C_16, rd_C_17, rd_C_18, rd_C_19, rd_C_20, rd_C_21, rd_C_22, rd_C_23, rd_C_30, rd_C_31, rd_C_32, rd_C_33, rd_C_34, rd_C_35, rd_C_36, rd_C_37, rd_C_38, rd_C_39, rd_C_40, rd_C_41, rd_C_42, rd_C_43, rd_C_44, rd_C_45, rd_C_46, rd_C_47, rd_C_48, rd_C_49, rd_C_50, rd_C_51, rd_C_52, rd_C_53, rd_C_54, rd_C_55, rd_C_56, rd_C_57, rd_C_58, rd_C_59, rd_C_60, rd_C_61, rd_C_62, rd_C_63, rd_C_64, rd_C_65, wr_C9, wr_C10, wr_C11, wr_C12, wr_C25, wr_C26, wr_C27, wr_C28, wr_C29, wp_C25, wp_C26, wp_C27, wp_C28, wp_C29]
        refine zw_Sip ok_B_season rfl ok_Jint_bitCount_0f7a4 lk_B_242 (by decide) rfl (Nat.le_of_ble_eq_true rfl) (ct_Jint_bitCount_0f7a4 hs.2.2) ?_
        refine zw_goto 71 ok_B_season rfl (by decide) ?_
        exact zw_iret ok_B_season rfl rfl (⟨rfl, hJ⟩)
    refine zw_iload_n ok_B_season rfl rfl ?_
    refine zw_iconst ok_B_season rfl ?_
    refine zw_bipush ok_B_season rfl (by decide) ?_
    refine zw_Sbp ok_B_season rfl ok_B_within lk_B_100 (by decide) rfl (Nat.le_of_ble_eq_true rfl) (ct_B_within (by omega)) ?_
    first | refine zw_ifeq_d 23 ok_B_season rfl (by decide) (fun h7 => ?_) (fun h7 => ?_) | refine zw_ifeq_b 23 ok_B_season rfl (by decide) (fun h7 => ?_) (fun h7 => ?_) | refine zw_if_eq 23 ok_B_season rfl (by decide) (by omega) (fun h7 => ?_) (fun h7 => ?_)
    · exact absurd hg.1 h7
    · refine zw_iload_n ok_B_season rfl rfl ?_
      refine zw_iconst ok_B_season rfl ?_
      refine zw_icmp_eq 26 ok_B_season rfl (by decide) (by omega) (fun h12 => ?_) (fun h12 => ?_)
      · refine zw_aload_n ok_B_season rfl rfl ?_
        refine zw_getr ok_B_season rfl fl_B_53 rfl rfl ?_
        refine zw_bipush ok_B_season rfl (by decide) ?_
        refine zw_Vvp ok_B_season rfl ok_Co_walkAsTold lk_B_167 (by decide) rfl rfl (Nat.le_of_ble_eq_true rfl) (ct_told hI (by omega)) ?_
        have h32 := toldA (h := 11) hI (by omega)
        generalize toldM mem 11 = m32 at h32 ⊢
        obtain ⟨L, s, rfl, e2, e3⟩ := h32
        refine zw_aload_n ok_B_season rfl rfl ?_
        refine zw_getr ok_B_season rfl fl_B_53 rfl rfl ?_
        refine zw_iload_n ok_B_season rfl rfl ?_
        refine zw_iload_n ok_B_season rfl rfl ?_
        refine zw_Vvp ok_B_season rfl ok_Co_meetByLot lk_B_239 (by decide) rfl rfl (Nat.le_of_ble_eq_true rfl) (ct_Co_meetByLot (okC_CI hI) (by omega) (by rw [eP]; exact e3)) ?_
        rw [eP]
        by_cases hz : aP τ = 0
        · rw [if_pos hz]
          exact tl L s (by unfold seaT; rw [if_pos hz]; exact e2) e3
        · have := lot_T hI (by omega) n.toNat x s (aTold τ 11) e2 e3
          rw [if_neg hz]
          exact tl L _ (by unfold seaT; rw [if_neg hz]; exact this.1) this.2
      · refine zw_aload_n ok_B_season rfl rfl ?_
        refine zw_iload_n ok_B_season rfl rfl ?_
        refine zw_Vbp ok_B_season rfl ok_B_isPerson lk_B_126 (by decide) rfl rfl (Nat.le_of_ble_eq_true rfl) (ct_B_isPerson ⟨hp, hP⟩) ?_
        first | refine zw_ifne_d 26 ok_B_season rfl (by decide) (fun h20 => ?_) (fun h20 => ?_) | refine zw_ifne_b 26 ok_B_season rfl (by decide) (fun h20 => ?_) (fun h20 => ?_) | refine zw_if_ne 26 ok_B_season rfl (by decide) (by omega) (fun h20 => ?_) (fun h20 => ?_)
        · refine zw_aload_n ok_B_season rfl rfl ?_
          refine zw_getr ok_B_season rfl fl_B_53 rfl rfl ?_
          refine zw_bipush ok_B_season rfl (by decide) ?_
          refine zw_Vvp ok_B_season rfl ok_Co_walkAsTold lk_B_167 (by decide) rfl rfl (Nat.le_of_ble_eq_true rfl) (ct_told hI (by omega)) ?_
          have h32 := toldA (h := 11) hI (by omega)
          generalize toldM mem 11 = m32 at h32 ⊢
          obtain ⟨L, s, rfl, e2, e3⟩ := h32
          refine zw_aload_n ok_B_season rfl rfl ?_
          refine zw_getr ok_B_season rfl fl_B_53 rfl rfl ?_
          refine zw_iload_n ok_B_season rfl rfl ?_
          refine zw_iload_n ok_B_season rfl rfl ?_
          refine zw_Vvp ok_B_season rfl ok_Co_meetByLot lk_B_239 (by decide) rfl rfl (Nat.le_of_ble_eq_true rfl) (ct_Co_meetByLot (okC_CI hI) (by omega) (by rw [eP]; exact e3)) ?_
          rw [eP]
          by_cases hz : aP τ = 0
          · rw [if_pos hz]
            exact tl L s (by unfold seaT; rw [if_pos hz]; exact e2) e3
          · have := lot_T hI (by omega) n.toNat x s (aTold τ 11) e2 e3
            rw [if_neg hz]
            exact tl L _ (by unfold seaT; rw [if_neg hz]; exact this.1) this.2
        · rcases hg.2 with q | q
          · exact absurd q h12
          · exact absurd ⟨q.1, by rw [eP]; omega⟩ h20
  · rw [if_neg hg]
    refine zw_iload_n ok_B_season rfl rfl ?_
    refine zw_iconst ok_B_season rfl ?_
    refine zw_bipush ok_B_season rfl (by decide) ?_
    refine zw_Sbp ok_B_season rfl ok_B_within lk_B_100 (by decide) rfl (Nat.le_of_ble_eq_true rfl) (ct_B_within (by omega)) ?_
    first | refine zw_ifeq_d 23 ok_B_season rfl (by decide) (fun h7 => ?_) (fun h7 => ?_) | refine zw_ifeq_b 23 ok_B_season rfl (by decide) (fun h7 => ?_) (fun h7 => ?_) | refine zw_if_eq 23 ok_B_season rfl (by decide) (by omega) (fun h7 => ?_) (fun h7 => ?_)
    · refine zw_bipush ok_B_season rfl (by decide) ?_
      exact zw_iret ok_B_season rfl rfl (⟨rfl, hI, fun _ _ => rfl⟩)
    · refine zw_iload_n ok_B_season rfl rfl ?_
      refine zw_iconst ok_B_season rfl ?_
      refine zw_icmp_eq 26 ok_B_season rfl (by decide) (by omega) (fun h12 => ?_) (fun h12 => ?_)
      · exact absurd ⟨h7, Or.inl h12⟩ hg
      · refine zw_aload_n ok_B_season rfl rfl ?_
        refine zw_iload_n ok_B_season rfl rfl ?_
        refine zw_Vbp ok_B_season rfl ok_B_isPerson lk_B_126 (by decide) rfl rfl (Nat.le_of_ble_eq_true rfl) (ct_B_isPerson ⟨hp, hP⟩) ?_
        first | refine zw_ifne_d 26 ok_B_season rfl (by decide) (fun h20 => ?_) (fun h20 => ?_) | refine zw_ifne_b 26 ok_B_season rfl (by decide) (fun h20 => ?_) (fun h20 => ?_) | refine zw_if_ne 26 ok_B_season rfl (by decide) (by omega) (fun h20 => ?_) (fun h20 => ?_)
        · exact absurd ⟨h7, Or.inr ⟨h20.1, by rw [← eP]; omega⟩⟩ hg
        · refine zw_bipush ok_B_season rfl (by decide) ?_
          exact zw_iret ok_B_season rfl rfl (⟨rfl, hI, fun _ _ => rfl⟩)
end
