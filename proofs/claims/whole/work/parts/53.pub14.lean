/-! ===== LowerBows: shade, the contract ===== -/
theorem zCt.mono {M : zMth} {av : List zVal} {mem : zMem} {Q Q' : Option zVal → zMem → Prop} (h : zCt M av mem Q) (hq : ∀ r m, Q r m → Q' r m) : zCt M av mem Q' := by
  intro l E p e hl hf1 hf2 s m args below hfr hS hP hK
  obtain ⟨n, o, h1, h2, h3, ⟨⟨r, mem', e1, hQ, e2, e3⟩, hF⟩, L, hL⟩ := h l E p e hl hf1 hf2 s m args below hfr hS hP hK
  exact ⟨n, o, h1, h2, h3, ⟨⟨r, mem', e1, hq _ _ hQ, e2, e3⟩, hF⟩, L, hL⟩
section
variable {mem m2 τ τ2 : zMem} {Q : Option zVal → zMem → Prop}
def qShade (τ : zMem) (w : Int) : Int := if -1 ≤ w ∧ w ≤ 1 then (if w = -1 then (shdT τ (aHid τ 0)).1 else if w = 0 then (shdT τ (aHid τ 0)).2.1 else (shdT τ (aHid τ 0)).2.2) else -2
theorem shE_CI (hI : CI mem τ) (L : zL) : shE mem τ (layS mem (-1) 0 L).1 (layS mem (-1) 0 L).2.1 (layS mem (-1) 0 L).2.2 (aHid τ 0) := by
  have h := layT hI (-1) 0 L
  exact ⟨h.1, h.2.1, h.2.2, isP_CI hI⟩
theorem ct_find (hI : CI mem τ) : zCv m_Sh_find [vr 30] mem (fun m2 => (m2 30 2 = (shdT τ (aHid τ 0)).1 ∧ m2 31 0 = (shdT τ (aHid τ 0)).2.1 ∧ m2 31 1 = (shdT τ (aHid τ 0)).2.2) ∧ zfr scr mem m2) := by
  have key := ct_Sh_find (mem := mem) (L := (mem 25, mem 26, mem 27)) (s := (mem 28, mem 29, mem 24 9, mem 24 10, mem 24 11, mem 24 12)) (okC_CI hI)
  rw [putC_self, shd_T (shE_CI hI _)] at key
  exact zCt.mono key (fun r m h => ⟨h.1, h.2.1, h.2.2.mono (by decide)⟩)
theorem ct_find2 (hI : CI mem τ) : zCv m_Sh_find [vr 30] mem (fun m2 => (m2 30 2 = (shdT τ (aHid τ 0)).1 ∧ m2 31 0 = (shdT τ (aHid τ 0)).2.1 ∧ m2 31 1 = (shdT τ (aHid τ 0)).2.2) ∧ zfr scr mem m2 ∧ m2 38 = mem 38) := by
  have key := ct_Sh_find (mem := mem) (L := (mem 25, mem 26, mem 27)) (s := (mem 28, mem 29, mem 24 9, mem 24 10, mem 24 11, mem 24 12)) (okC_CI hI)
  rw [putC_self, shd_T (shE_CI hI _)] at key
  exact zCt.mono key (fun r m h => ⟨h.1, h.2.1, h.2.2.mono (by decide), h.2.2 38 (by decide)⟩)
theorem scr48 {k : Nat} (hk : k ∈ scr) : k < 48 := by
  have : ∀ k ∈ scr, k < 48 := by decide
  exact this k hk
theorem ct_B_shade {w : Int} (hI : CI mem τ) (hw : zR w) : zCi m_B_shade [vr 0, vi w] mem (qShade τ w) (fun m2 => CI m2 τ ∧ cls48 mem m2) := by
  refine zCt.of [some (vr 0), some (vi w)] ok_B_shade (Nat.le_of_ble_eq_true rfl) rfl ?_
  unfold qShade
  generalize hx : shdT τ (aHid τ 0) = x
  by_cases hg : -1 ≤ w ∧ w ≤ 1
  · rw [if_pos hg]
    have tl : ∀ m, (m 30 2 = x.1 ∧ m 31 0 = x.2.1 ∧ m 31 1 = x.2.2) ∧ zfr scr mem m → AW m_B_shade 19 [some (vr 0), some (vi w)] [] m (fun r m2 => r = some (vi (if w = -1 then x.1 else if w = 0 then x.2.1 else x.2.2)) ∧ CI m2 τ ∧ cls48 mem m2) := by
      intro m hm
      have hJ : CI m τ ∧ cls48 mem m := ⟨CI_of hm.2 hI, cls48.fr hm.2 (fun k hk => scr48 hk)⟩
      have ew : ¬ w = -1 → m 31 w = (if w = 0 then x.2.1 else x.2.2) := by
        intro n
        by_cases e : w = 0
        · subst e; rw [if_pos rfl]; exact hm.1.2.1
        · have e1 : w = 1 := by omega
          subst e1; rw [if_neg e]; exact hm.1.2.2
      refine zw_iload_n ok_B_shade rfl rfl ?_
      refine zw_iconst ok_B_shade rfl ?_
      refine zw_icmp_ne 34 ok_B_shade rfl (by decide) (by omega) (fun h21 => ?_) (fun h21 => ?_)
      · rw [if_neg h21, ← ew h21]
        refine zw_aload_n ok_B_shade rfl rfl ?_
        refine zw_getr ok_B_shade rfl fl_B_62 rfl rfl ?_
        refine zw_getr ok_B_shade rfl fl_B_208 rfl rfl ?_
        refine zw_iload_n ok_B_shade rfl rfl ?_
        refine zw_iald ok_B_shade rfl rfl (by omega) ?_
        exact zw_iret ok_B_shade rfl rfl (⟨rfl, hJ⟩)
      · rw [if_pos h21, ← hm.1.1]
        refine zw_aload_n ok_B_shade rfl rfl ?_
        refine zw_getr ok_B_shade rfl fl_B_62 rfl rfl ?_
        refine zw_geti ok_B_shade rfl fl_B_207 rfl rfl ?_
        refine zw_goto 43 ok_B_shade rfl (by decide) ?_
        exact zw_iret ok_B_shade rfl rfl (⟨rfl, hJ⟩)
    refine zw_iload_n ok_B_shade rfl rfl ?_
    refine zw_iconst ok_B_shade rfl ?_
    refine zw_iconst ok_B_shade rfl ?_
    refine zw_Sbp ok_B_shade rfl ok_B_within lk_B_100 (by decide) rfl (Nat.le_of_ble_eq_true rfl) (ct_B_within (by omega)) ?_
    first | refine zw_ifne_d 12 ok_B_shade rfl (by decide) (fun h6 => ?_) (fun h6 => ?_) | refine zw_ifne_b 12 ok_B_shade rfl (by decide) (fun h6 => ?_) (fun h6 => ?_) | refine zw_if_ne 12 ok_B_shade rfl (by decide) (by omega) (fun h6 => ?_) (fun h6 => ?_)
    · refine zw_aload_n ok_B_shade rfl rfl ?_
      refine zw_getr ok_B_shade rfl fl_B_62 rfl rfl ?_
      refine zw_Vv ok_B_shade rfl ok_Sh_find lk_B_204 (by decide) rfl rfl (Nat.le_of_ble_eq_true rfl) (ct_find hI) (fun m16 h16 => ?_)
      rw [hx] at h16
      exact tl _ h16
    · exact absurd hg h6
  · rw [if_neg hg]
    refine zw_iload_n ok_B_shade rfl rfl ?_
    refine zw_iconst ok_B_shade rfl ?_
    refine zw_iconst ok_B_shade rfl ?_
    refine zw_Sbp ok_B_shade rfl ok_B_within lk_B_100 (by decide) rfl (Nat.le_of_ble_eq_true rfl) (ct_B_within (by omega)) ?_
    first | refine zw_ifne_d 12 ok_B_shade rfl (by decide) (fun h6 => ?_) (fun h6 => ?_) | refine zw_ifne_b 12 ok_B_shade rfl (by decide) (fun h6 => ?_) (fun h6 => ?_) | refine zw_if_ne 12 ok_B_shade rfl (by decide) (by omega) (fun h6 => ?_) (fun h6 => ?_)
    · exact absurd h6 hg
    · refine zw_bipush ok_B_shade rfl (by decide) ?_
      exact zw_iret ok_B_shade rfl rfl (⟨rfl, hI, fun _ _ => rfl⟩)
end
