/-! ===== LowerBows: stroll, the contract ===== -/
section
variable {mem m2 τ τ2 : zMem} {Q : Option zVal → zMem → Prop}
def qStroll (τ : zMem) (p e i : Int) : Int := if (0 ≤ p ∧ p < aP τ) ∧ (0 ≤ e ∧ e ≤ 7) ∧ (-1 ≤ i ∧ i ≤ 2) then (if i = -1 then (strlT τ p e).1 / 100 else dgt (strlT τ p e).2 i) else -2
theorem cstT_r {p : Int} (hI : CI mem τ) (hp : 0 ≤ p ∧ p < aP τ) (r : Int) : cstT τ p r ≤ 899 := by
  have hp2 : 0 ≤ p ∧ p < mem 5 4 := by rw [eP_CI hI]; exact hp
  rw [← cst_T (shE_CI hI (mem 25, mem 26, mem 27)) hp2]
  exact (cstC_r (okC_CI hI) (layS_df (okC_CI hI)) hp2).2
theorem strl_has {p e : Int} (hI : CI mem τ) (hp : 0 ≤ p ∧ p < aP τ) (he : 0 ≤ e ∧ e ≤ 7) : (strlT τ p e).2 ≠ -1 :=
  str_has (cstT_r hI hp) 729 0 (900, -1) (by omega) (fun _ => rfl) (Or.inr (by omega))
theorem ct_strl {p e : Int} (hI : CI mem τ) (hp : 0 ≤ p ∧ p < aP τ) (he : 0 ≤ e ∧ e ≤ 7) : zCv m_St_find [vr 32, vi p, vi e] mem (fun m2 => (m2 32 3 = (strlT τ p e).1 / 100 ∧ ∀ j, 0 ≤ j → j < 3 → m2 34 j = dgt (strlT τ p e).2 j) ∧ zfr scrS mem m2) := by
  have hp2 : 0 ≤ p ∧ p < mem 5 4 := by rw [eP_CI hI]; exact hp
  have key := ct_St_find (mem := mem) (L := (mem 25, mem 26, mem 27)) (s := (mem 28, mem 29, mem 24 9, mem 24 10, mem 24 11, mem 24 12)) (okC_CI hI) hp2 he
  rw [putC_self, str_T (shE_CI hI _) hp2] at key
  refine zCt.mono key (fun r m h => ⟨h.1, ?_, h.2.2⟩)
  have := h.2.1 _ rfl
  exact ⟨this.1, this.2 (strl_has hI hp he)⟩
theorem scrS_scr (h : zfr scrS mem m2) : zfr scr mem m2 := h.mono (by decide)
theorem ct_B_stroll {p e i : Int} (hI : CI mem τ) (hp : zR p) (he : zR e) (hi : zR i) : zCi m_B_stroll [vr 0, vi p, vi e, vi i] mem (qStroll τ p e i) (fun m2 => CI m2 τ ∧ cls48 mem m2) := by
  refine zCt.of [some (vr 0), some (vi p), some (vi e), some (vi i)] ok_B_stroll (Nat.le_of_ble_eq_true rfl) rfl ?_
  have hP := isP_CI hI
  have eP := eP_CI hI
  unfold qStroll
  by_cases hg : (0 ≤ p ∧ p < aP τ) ∧ (0 ≤ e ∧ e ≤ 7) ∧ (-1 ≤ i ∧ i ≤ 2)
  · rw [if_pos hg]
    have tl : ∀ m, (m 32 3 = (strlT τ p e).1 / 100 ∧ ∀ j, 0 ≤ j → j < 3 → m 34 j = dgt (strlT τ p e).2 j) ∧ zfr scrS mem m → AW m_B_stroll 39 [some (vr 0), some (vi p), some (vi e), some (vi i)] [] m (fun r m2 => r = some (vi (if i = -1 then (strlT τ p e).1 / 100 else dgt (strlT τ p e).2 i)) ∧ CI m2 τ ∧ cls48 mem m2) := by
      intro m hm
      have hJ : CI m τ ∧ cls48 mem m := ⟨CI_of (scrS_scr hm.2) hI, cls48.fr (scrS_scr hm.2) (fun k hk => scr48 hk)⟩
      refine zw_iload_n ok_B_stroll rfl rfl ?_
      refine zw_iconst ok_B_stroll rfl ?_
      refine zw_icmp_ne 54 ok_B_stroll rfl (by decide) (by omega) (fun h41 => ?_) (fun h41 => ?_)
      · rw [if_neg h41, ← hm.1.2 i (by omega) (by omega)]
        refine zw_aload_n ok_B_stroll rfl rfl ?_
        refine zw_getr ok_B_stroll rfl fl_B_69 rfl rfl ?_
        refine zw_iload_n ok_B_stroll rfl rfl ?_
        refine zw_Vip ok_B_stroll rfl ok_St_streetIn lk_B_214 (by decide) rfl rfl (Nat.le_of_ble_eq_true rfl) (ct_St_streetIn (by omega)) ?_
        exact zw_iret ok_B_stroll rfl rfl (⟨rfl, hJ⟩)
      · rw [if_pos h41, ← hm.1.1]
        refine zw_aload_n ok_B_stroll rfl rfl ?_
        refine zw_getr ok_B_stroll rfl fl_B_69 rfl rfl ?_
        refine zw_geti ok_B_stroll rfl fl_B_213 rfl rfl ?_
        refine zw_goto 62 ok_B_stroll rfl (by decide) ?_
        exact zw_iret ok_B_stroll rfl rfl (⟨rfl, hJ⟩)
    refine zw_aload_n ok_B_stroll rfl rfl ?_
    refine zw_iload_n ok_B_stroll rfl rfl ?_
    refine zw_Vbp ok_B_stroll rfl ok_B_isPerson lk_B_126 (by decide) rfl rfl (Nat.le_of_ble_eq_true rfl) (ct_B_isPerson ⟨hp, hP⟩) ?_
    first | refine zw_ifeq_d 27 ok_B_stroll rfl (by decide) (fun h5 => ?_) (fun h5 => ?_) | refine zw_ifeq_b 27 ok_B_stroll rfl (by decide) (fun h5 => ?_) (fun h5 => ?_) | refine zw_if_eq 27 ok_B_stroll rfl (by decide) (by omega) (fun h5 => ?_) (fun h5 => ?_)
    · exact absurd ⟨hg.1.1, by rw [eP]; omega⟩ h5
    · refine zw_iload_n ok_B_stroll rfl rfl ?_
      refine zw_iconst ok_B_stroll rfl ?_
      refine zw_bipush ok_B_stroll rfl (by decide) ?_
      refine zw_Sbp ok_B_stroll rfl ok_B_within lk_B_100 (by decide) rfl (Nat.le_of_ble_eq_true rfl) (ct_B_within (by omega)) ?_
      first | refine zw_ifeq_d 27 ok_B_stroll rfl (by decide) (fun h15 => ?_) (fun h15 => ?_) | refine zw_ifeq_b 27 ok_B_stroll rfl (by decide) (fun h15 => ?_) (fun h15 => ?_) | refine zw_if_eq 27 ok_B_stroll rfl (by decide) (by omega) (fun h15 => ?_) (fun h15 => ?_)
      · exact absurd hg.2.1 h15
      · refine zw_iload_n ok_B_stroll rfl rfl ?_
        refine zw_iconst ok_B_stroll rfl ?_
        refine zw_iconst ok_B_stroll rfl ?_
        refine zw_Sbp ok_B_stroll rfl ok_B_within lk_B_100 (by decide) rfl (Nat.le_of_ble_eq_true rfl) (ct_B_within (by omega)) ?_
        first | refine zw_ifne_d 30 ok_B_stroll rfl (by decide) (fun h24 => ?_) (fun h24 => ?_) | refine zw_ifne_b 30 ok_B_stroll rfl (by decide) (fun h24 => ?_) (fun h24 => ?_) | refine zw_if_ne 30 ok_B_stroll rfl (by decide) (by omega) (fun h24 => ?_) (fun h24 => ?_)
        · refine zw_aload_n ok_B_stroll rfl rfl ?_
          refine zw_getr ok_B_stroll rfl fl_B_69 rfl rfl ?_
          refine zw_iload_n ok_B_stroll rfl rfl ?_
          refine zw_iload_n ok_B_stroll rfl rfl ?_
          refine zw_Vv ok_B_stroll rfl ok_St_find lk_B_211 (by decide) rfl rfl (Nat.le_of_ble_eq_true rfl) (ct_strl hI hg.1 hg.2.1) (fun m36 h36 => ?_)
          exact tl _ h36
        · exact absurd hg.2.2 h24
  · rw [if_neg hg]
    refine zw_aload_n ok_B_stroll rfl rfl ?_
    refine zw_iload_n ok_B_stroll rfl rfl ?_
    refine zw_Vbp ok_B_stroll rfl ok_B_isPerson lk_B_126 (by decide) rfl rfl (Nat.le_of_ble_eq_true rfl) (ct_B_isPerson ⟨hp, hP⟩) ?_
    first | refine zw_ifeq_d 27 ok_B_stroll rfl (by decide) (fun h5 => ?_) (fun h5 => ?_) | refine zw_ifeq_b 27 ok_B_stroll rfl (by decide) (fun h5 => ?_) (fun h5 => ?_) | refine zw_if_eq 27 ok_B_stroll rfl (by decide) (by omega) (fun h5 => ?_) (fun h5 => ?_)
    · refine zw_bipush ok_B_stroll rfl (by decide) ?_
      exact zw_iret ok_B_stroll rfl rfl (⟨rfl, hI, fun _ _ => rfl⟩)
    · refine zw_iload_n ok_B_stroll rfl rfl ?_
      refine zw_iconst ok_B_stroll rfl ?_
      refine zw_bipush ok_B_stroll rfl (by decide) ?_
      refine zw_Sbp ok_B_stroll rfl ok_B_within lk_B_100 (by decide) rfl (Nat.le_of_ble_eq_true rfl) (ct_B_within (by omega)) ?_
      first | refine zw_ifeq_d 27 ok_B_stroll rfl (by decide) (fun h15 => ?_) (fun h15 => ?_) | refine zw_ifeq_b 27 ok_B_stroll rfl (by decide) (fun h15 => ?_) (fun h15 => ?_) | refine zw_if_eq 27 ok_B_stroll rfl (by decide) (by omega) (fun h15 => ?_) (fun h15 => ?_)
      · refine zw_bipush ok_B_stroll rfl (by decide) ?_
        exact zw_iret ok_B_stroll rfl rfl (⟨rfl, hI, fun _ _ => rfl⟩)
      · refine zw_iload_n ok_B_stroll rfl rfl ?_
        refine zw_iconst ok_B_stroll rfl ?_
        refine zw_iconst ok_B_stroll rfl ?_
        refine zw_Sbp ok_B_stroll rfl ok_B_within lk_B_100 (by decide) rfl (Nat.le_of_ble_eq_true rfl) (ct_B_within (by omega)) ?_
        first | refine zw_ifne_d 30 ok_B_stroll rfl (by decide) (fun h24 => ?_) (fun h24 => ?_) | refine zw_ifne_b 30 ok_B_stroll rfl (by decide) (fun h24 => ?_) (fun h24 => ?_) | refine zw_if_ne 30 ok_B_stroll rfl (by decide) (by omega) (fun h24 => ?_) (fun h24 => ?_)
        · exact absurd ⟨⟨h5.1, by rw [← eP]; omega⟩, h15, h24⟩ hg
        · refine zw_bipush ok_B_stroll rfl (by decide) ?_
          exact zw_iret ok_B_stroll rfl rfl (⟨rfl, hI, fun _ _ => rfl⟩)
end
