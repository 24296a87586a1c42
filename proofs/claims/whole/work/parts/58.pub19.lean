/-! ===== LowerBows: forgets ===== -/
section
variable {mem m2 τ τ2 : zMem} {Q : Option zVal → zMem → Prop}
def gnT (τ : zMem) (h f p : Int) : Bool := tb (aSim τ (-1) f (h + 1).toNat).2.2.1 p.toNat
/-- the weight of the ways in which p is gone -/
def fgW (τ : zMem) (c h p : Int) : Int := lp (grF (gnT τ h) c (τ 2 3) p) (2 ^ (τ 2 3).toNat) 0 0
def fgA (τ : zMem) (c h p : Int) : Int := fgW τ c h p / 2 ^ (hvS (fgW τ c h p) (4 * τ 2 3).toNat 0).toNat
def fgB (τ : zMem) (c h p : Int) : Int := 2 ^ (4 * τ 2 3 - hvS (fgW τ c h p) (4 * τ 2 3).toNat 0).toNat
def qForgets (τ : zMem) (c h p w : Int) : Int := if (0 ≤ c ∧ c ≤ 16) ∧ (0 ≤ h ∧ h ≤ 11) ∧ (0 ≤ p ∧ p < aP τ) ∧ (0 ≤ w ∧ w ≤ 1) then (if w = 0 then fgA τ c h p else fgB τ c h p) else -9223372036854775806
theorem gr_r {gn : Int → Int → Bool} {c nu p : Int} (hc : 0 ≤ c ∧ c ≤ 16) (hn : 0 ≤ nu ∧ nu ≤ 8) : ∀ (k : Nat) (f w : Int), 0 ≤ w → 0 ≤ lp (grF gn c nu p) k f w ∧ lp (grF gn c nu p) k f w ≤ w + 4294967296 * k
  | 0, _, w, h => by show 0 ≤ w ∧ w ≤ w + _; omega
  | k + 1, f, w, h => by
    rw [lp_s]
    have b := wt_r8 (f := f) hc (k := nu.toNat) (by omega) (u := 0)
    have h1 : 0 ≤ grF gn c nu p f w ∧ grF gn c nu p f w ≤ w + 4294967296 := by unfold grF; split <;> omega
    have := gr_r (gn := gn) (p := p) hc hn k (f + 1) _ h1.1
    omega
theorem fgW_r {c h p : Int} (hc : 0 ≤ c ∧ c ≤ 16) (hn : 0 ≤ τ 2 3 ∧ τ 2 3 ≤ 8) : 0 ≤ fgW τ c h p ∧ fgW τ c h p < 4611686018427387904 := by
  have b := gr_r (gn := gnT τ h) (p := p) hc hn (2 ^ (τ 2 3).toNat) 0 0 (by omega)
  have : 2 ^ (τ 2 3).toNat ≤ 2 ^ 8 := Nat.pow_le_pow_right (by decide) (by omega)
  unfold fgW
  omega
theorem gn_T (hI : CI mem τ) {h : Int} (hh : 0 ≤ h ∧ h ≤ 11) (f : Int) : gnC mem (h + 1).toNat f (gnT τ h f) := by
  intro L d l p p0 p1
  have := simT hI (-1) f (n := (h + 1).toNat) (by omega) L d l
  rw [this.2.2]
  rfl
theorem ct_weigh {c h : Int} (hI : CI mem τ) (hc : 0 ≤ c ∧ c ≤ 16) (hh : 0 ≤ h ∧ h ≤ 11) : zCv m_Ch_weigh [vr 37, vi c, vi h] mem (fun m2 => (∀ p, 0 ≤ p → p < aP τ → m2 38 p = fgW τ c h p) ∧ zfr scr mem m2) := by
  have key := ct_Ch_weigh (mem := mem) (L := (mem 25, mem 26, mem 27)) (s := (mem 28, mem 29, mem 24 9, mem 24 10, mem 24 11, mem 24 12)) (gn := gnT τ h) (okC_CI hI) hc hh (fun f _ _ => gn_T hI hh f)
  rw [putC_self, hI.2.2.2.1.2.1, eP_CI hI] at key
  refine zCt.mono key (fun r m h => ⟨h.1, ?_⟩)
  obtain ⟨fw, L2, s2, rfl, hf⟩ := h.2
  exact ⟨hf, putC_scr (zfr.put (k := 38) zfr.rf (by decide))⟩
theorem ct_above {c h p : Int} (hI : CI mem τ) (hc : 0 ≤ c ∧ c ≤ 16) (hp : 0 ≤ p ∧ p < aP τ) (hw : mem 38 p = fgW τ c h p) : zClp m_Ch_above [vr 37, vi p] mem (fgA τ c h p) := by
  have hu := hI.1.1.2.2.2.1
  have e16 := hI.2.2.2.1.2.1
  have hP := isP_CI hI
  have eP := eP_CI hI
  have hr := fgW_r (h := h) (p := p) hc hu
  have key := ct_Ch_above (mem := mem) (p := p) (by rw [e16]; exact hu) ⟨hp.1, by rw [eP] at hP; omega⟩ (by rw [hw]; exact hr)
  rw [hw, e16] at key
  exact key
theorem ct_below {c h p : Int} (hI : CI mem τ) (hc : 0 ≤ c ∧ c ≤ 16) (hp : 0 ≤ p ∧ p < aP τ) (hw : mem 38 p = fgW τ c h p) : zClp m_Ch_below [vr 37, vi p] mem (fgB τ c h p) := by
  have hu := hI.1.1.2.2.2.1
  have e16 := hI.2.2.2.1.2.1
  have hP := isP_CI hI
  have eP := eP_CI hI
  have hr := fgW_r (h := h) (p := p) hc hu
  have key := ct_Ch_below (mem := mem) (p := p) (by rw [e16]; exact hu) ⟨hp.1, by rw [eP] at hP; omega⟩ (by rw [hw]; exact hr)
  rw [hw, e16] at key
  exact key
theorem ct_B_forgets {c h p w : Int} (hI : CI mem τ) (hc : zR c) (hh : zR h) (hp : zR p) (hw : zR w) : zCl m_B_forgets [vr 0, vi c, vi h, vi p, vi w] mem (qForgets τ c h p w) (fun m2 => CI m2 τ ∧ cls48 mem m2) := by
  refine zCt.of [some (vr 0), some (vi c), some (vi h), some (vi p), some (vi w)] ok_B_forgets (Nat.le_of_ble_eq_true rfl) rfl ?_
  have hP := isP_CI hI
  have eP := eP_CI hI
  unfold qForgets
  by_cases hg : (0 ≤ c ∧ c ≤ 16) ∧ (0 ≤ h ∧ h ≤ 11) ∧ (0 ≤ p ∧ p < aP τ) ∧ (0 ≤ w ∧ w ≤ 1)
  · rw [if_pos hg]
    refine zw_iload_n ok_B_forgets rfl rfl ?_
    refine zw_iconst ok_B_forgets rfl ?_
    refine zw_bipush ok_B_forgets rfl (by decide) ?_
    refine zw_Sbp ok_B_forgets rfl ok_B_within lk_B_100 (by decide) rfl (Nat.le_of_ble_eq_true rfl) (ct_B_within (by omega)) ?_
    first | refine zw_ifeq_d 35 ok_B_forgets rfl (by decide) (fun h7 => ?_) (fun h7 => ?_) | refine zw_ifeq_b 35 ok_B_forgets rfl (by decide) (fun h7 => ?_) (fun h7 => ?_) | refine zw_if_eq 35 ok_B_forgets rfl (by decide) (by omega) (fun h7 => ?_) (fun h7 => ?_)
    · exact absurd hg.1 h7
    · refine zw_iload_n ok_B_forgets rfl rfl ?_
      refine zw_Sbp ok_B_forgets rfl ok_B_isHour lk_B_138 (by decide) rfl (Nat.le_of_ble_eq_true rfl) (ct_B_isHour (by omega)) ?_
      first | refine zw_ifeq_d 35 ok_B_forgets rfl (by decide) (fun h14 => ?_) (fun h14 => ?_) | refine zw_ifeq_b 35 ok_B_forgets rfl (by decide) (fun h14 => ?_) (fun h14 => ?_) | refine zw_if_eq 35 ok_B_forgets rfl (by decide) (by omega) (fun h14 => ?_) (fun h14 => ?_)
      · exact absurd hg.2.1 h14
      · refine zw_aload_n ok_B_forgets rfl rfl ?_
        refine zw_iload_n ok_B_forgets rfl rfl ?_
        refine zw_Vbp ok_B_forgets rfl ok_B_isPerson lk_B_126 (by decide) rfl rfl (Nat.le_of_ble_eq_true rfl) (ct_B_isPerson ⟨hp, hP⟩) ?_
        first | refine zw_ifeq_d 35 ok_B_forgets rfl (by decide) (fun h22 => ?_) (fun h22 => ?_) | refine zw_ifeq_b 35 ok_B_forgets rfl (by decide) (fun h22 => ?_) (fun h22 => ?_) | refine zw_if_eq 35 ok_B_forgets rfl (by decide) (by omega) (fun h22 => ?_) (fun h22 => ?_)
        · exact absurd ⟨hg.2.2.1.1, by rw [eP]; omega⟩ h22
        · refine zw_iload ok_B_forgets rfl rfl ?_
          refine zw_iconst ok_B_forgets rfl ?_
          refine zw_iconst ok_B_forgets rfl ?_
          refine zw_Sbp ok_B_forgets rfl ok_B_within lk_B_100 (by decide) rfl (Nat.le_of_ble_eq_true rfl) (ct_B_within (by omega)) ?_
          first | refine zw_ifne_d 39 ok_B_forgets rfl (by decide) (fun h32 => ?_) (fun h32 => ?_) | refine zw_ifne_b 39 ok_B_forgets rfl (by decide) (fun h32 => ?_) (fun h32 => ?_) | refine zw_if_ne 39 ok_B_forgets rfl (by decide) (by omega) (fun h32 => ?_) (fun h32 => ?_)
          · refine zw_aload_n ok_B_forgets rfl rfl ?_
            refine zw_getr ok_B_forgets rfl fl_B_85 rfl rfl ?_
            refine zw_iload_n ok_B_forgets rfl rfl ?_
            refine zw_iload_n ok_B_forgets rfl rfl ?_
            refine zw_Vv ok_B_forgets rfl ok_Ch_weigh lk_B_229 (by decide) rfl rfl (Nat.le_of_ble_eq_true rfl) (ct_weigh hI hg.1 hg.2.1) (fun m45 h45 => ?_)
            have hJ := scr_J hI h45.2
            have h38 := h45.1 p hg.2.2.1.1 hg.2.2.1.2
            refine zw_iload ok_B_forgets rfl rfl ?_
            refine zw_if_ne 64 ok_B_forgets rfl (by decide) (by omega) (fun h50 => ?_) (fun h50 => ?_)
            · rw [if_neg h50]
              refine zw_aload_n ok_B_forgets rfl rfl ?_
              refine zw_getr ok_B_forgets rfl fl_B_85 rfl rfl ?_
              refine zw_iload_n ok_B_forgets rfl rfl ?_
              refine zw_Vlp ok_B_forgets rfl ok_Ch_below lk_B_236 (by decide) rfl rfl (Nat.le_of_ble_eq_true rfl) (ct_below hJ.1 hg.1 hg.2.2.1 h38) ?_
              exact zw_lret ok_B_forgets rfl rfl (⟨rfl, hJ⟩)
            · rw [if_pos h50]
              refine zw_aload_n ok_B_forgets rfl rfl ?_
              refine zw_getr ok_B_forgets rfl fl_B_85 rfl rfl ?_
              refine zw_iload_n ok_B_forgets rfl rfl ?_
              refine zw_Vlp ok_B_forgets rfl ok_Ch_above lk_B_232 (by decide) rfl rfl (Nat.le_of_ble_eq_true rfl) (ct_above hJ.1 hg.1 hg.2.2.1 h38) ?_
              refine zw_goto 72 ok_B_forgets rfl (by decide) ?_
              exact zw_lret ok_B_forgets rfl rfl (⟨rfl, hJ⟩)
          · exact absurd hg.2.2.2 h32
  · rw [if_neg hg]
    refine zw_iload_n ok_B_forgets rfl rfl ?_
    refine zw_iconst ok_B_forgets rfl ?_
    refine zw_bipush ok_B_forgets rfl (by decide) ?_
    refine zw_Sbp ok_B_forgets rfl ok_B_within lk_B_100 (by decide) rfl (Nat.le_of_ble_eq_true rfl) (ct_B_within (by omega)) ?_
    first | refine zw_ifeq_d 35 ok_B_forgets rfl (by decide) (fun h7 => ?_) (fun h7 => ?_) | refine zw_ifeq_b 35 ok_B_forgets rfl (by decide) (fun h7 => ?_) (fun h7 => ?_) | refine zw_if_eq 35 ok_B_forgets rfl (by decide) (by omega) (fun h7 => ?_) (fun h7 => ?_)
    · refine zw_ldc2 ok_B_forgets rfl kc_B_227 ?_
      exact zw_lret ok_B_forgets rfl rfl (⟨rfl, hI, fun _ _ => rfl⟩)
    · refine zw_iload_n ok_B_forgets rfl rfl ?_
      refine zw_Sbp ok_B_forgets rfl ok_B_isHour lk_B_138 (by decide) rfl (Nat.le_of_ble_eq_true rfl) (ct_B_isHour (by omega)) ?_
      first | refine zw_ifeq_d 35 ok_B_forgets rfl (by decide) (fun h14 => ?_) (fun h14 => ?_) | refine zw_ifeq_b 35 ok_B_forgets rfl (by decide) (fun h14 => ?_) (fun h14 => ?_) | refine zw_if_eq 35 ok_B_forgets rfl (by decide) (by omega) (fun h14 => ?_) (fun h14 => ?_)
      · refine zw_ldc2 ok_B_forgets rfl kc_B_227 ?_
        exact zw_lret ok_B_forgets rfl rfl (⟨rfl, hI, fun _ _ => rfl⟩)
      · refine zw_aload_n ok_B_forgets rfl rfl ?_
        refine zw_iload_n ok_B_forgets rfl rfl ?_
        refine zw_Vbp ok_B_forgets rfl ok_B_isPerson lk_B_126 (by decide) rfl rfl (Nat.le_of_ble_eq_true rfl) (ct_B_isPerson ⟨hp, hP⟩) ?_
        first | refine zw_ifeq_d 35 ok_B_forgets rfl (by decide) (fun h22 => ?_) (fun h22 => ?_) | refine zw_ifeq_b 35 ok_B_forgets rfl (by decide) (fun h22 => ?_) (fun h22 => ?_) | refine zw_if_eq 35 ok_B_forgets rfl (by decide) (by omega) (fun h22 => ?_) (fun h22 => ?_)
        · refine zw_ldc2 ok_B_forgets rfl kc_B_227 ?_
          exact zw_lret ok_B_forgets rfl rfl (⟨rfl, hI, fun _ _ => rfl⟩)
        · refine zw_iload ok_B_forgets rfl rfl ?_
          refine zw_iconst ok_B_forgets rfl ?_
          refine zw_iconst ok_B_forgets rfl ?_
          refine zw_Sbp ok_B_forgets rfl ok_B_within lk_B_100 (by decide) rfl (Nat.le_of_ble_eq_true rfl) (ct_B_within (by omega)) ?_
          first | refine zw_ifne_d 39 ok_B_forgets rfl (by decide) (fun h32 => ?_) (fun h32 => ?_) | refine zw_ifne_b 39 ok_B_forgets rfl (by decide) (fun h32 => ?_) (fun h32 => ?_) | refine zw_if_ne 39 ok_B_forgets rfl (by decide) (by omega) (fun h32 => ?_) (fun h32 => ?_)
          · exact absurd ⟨h7, h14, ⟨h22.1, by rw [← eP]; omega⟩, h32⟩ hg
          · refine zw_ldc2 ok_B_forgets rfl kc_B_227 ?_
            exact zw_lret ok_B_forgets rfl rfl (⟨rfl, hI, fun _ _ => rfl⟩)
end
