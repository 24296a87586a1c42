/-! ===== LowerBows: count ===== -/
section
variable {mem m2 τ τ2 : zMem} {Q : Option zVal → zMem → Prop}
def qCount (τ : zMem) (w : Int) : Int := if w = 0 then aP τ else if w = 1 then sWn (τ 2 1) (τ 1) else if w = 2 then τ 2 0 else if w = 3 then τ 2 1 else if w = 4 then τ 2 2 else if w = 5 then τ 2 3 else if w = 6 then qBehind τ 11 1 else if w = 7 then τ 2 4 else if w = 8 then τ 2 5 else -2
theorem ct_B_count {w : Int} (hI : CI mem τ) (hw : zR w) : zCi m_B_count [vr 0, vi w] mem (qCount τ w) (fun m2 => CI m2 τ ∧ cls48 mem m2) := by
  refine zCt.of [some (vr 0), some (vi w)] ok_B_count (Nat.le_of_ble_eq_true rfl) rfl ?_
  refine zw_iload_n ok_B_count rfl rfl ?_
  by_cases hin : 0 ≤ w ∧ w ≤ 8
  · have : w = 0 ∨ w = 1 ∨ w = 2 ∨ w = 3 ∨ w = 4 ∨ w = 5 ∨ w = 6 ∨ w = 7 ∨ w = 8 := by omega
    rcases this with rfl | rfl | rfl | rfl | rfl | rfl | rfl | rfl | rfl
    · have e : qCount τ 0 = aP τ := rfl
      rw [e]
      refine zw_tin 52 ok_B_count rfl (by decide) (by decide) rfl (by decide) ?_
      refine zw_aload_n ok_B_count rfl rfl ?_
      refine zw_getr ok_B_count rfl fl_B_24 rfl rfl ?_
      refine zw_geti ok_B_count rfl fl_B_200 rfl rfl ?_
      exact zw_iret ok_B_count rfl rfl (⟨by rw [hI.2.2.1.1.1.1], hI, fun _ _ => rfl⟩)
    · have e : qCount τ 1 = sWn (τ 2 1) (τ 1) := rfl
      rw [e]
      refine zw_tin 60 ok_B_count rfl (by decide) (by decide) rfl (by decide) ?_
      refine zw_aload_n ok_B_count rfl rfl ?_
      refine zw_getr ok_B_count rfl fl_B_31 rfl rfl ?_
      refine zw_geti ok_B_count rfl fl_B_277 rfl rfl ?_
      exact zw_iret ok_B_count rfl rfl (⟨by rw [hI.2.2.1.2.1.1], hI, fun _ _ => rfl⟩)
    · have e : qCount τ 2 = τ 2 0 := rfl
      rw [e]
      refine zw_tin 68 ok_B_count rfl (by decide) (by decide) rfl (by decide) ?_
      refine zw_aload_n ok_B_count rfl rfl ?_
      refine zw_getr ok_B_count rfl fl_B_14 rfl rfl ?_
      refine zw_geti ok_B_count rfl fl_B_108 rfl rfl ?_
      exact zw_iret ok_B_count rfl rfl (⟨by rw [hI.2.1.1.1], hI, fun _ _ => rfl⟩)
    · have e : qCount τ 3 = τ 2 1 := rfl
      rw [e]
      refine zw_tin 76 ok_B_count rfl (by decide) (by decide) rfl (by decide) ?_
      refine zw_aload_n ok_B_count rfl rfl ?_
      refine zw_getr ok_B_count rfl fl_B_18 rfl rfl ?_
      refine zw_geti ok_B_count rfl fl_B_108 rfl rfl ?_
      exact zw_iret ok_B_count rfl rfl (⟨by rw [hI.2.1.2.1], hI, fun _ _ => rfl⟩)
    · have e : qCount τ 4 = τ 2 2 := rfl
      rw [e]
      refine zw_tin 84 ok_B_count rfl (by decide) (by decide) rfl (by decide) ?_
      refine zw_aload_n ok_B_count rfl rfl ?_
      refine zw_getr ok_B_count rfl fl_B_38 rfl rfl ?_
      refine zw_geti ok_B_count rfl fl_B_151 rfl rfl ?_
      exact zw_iret ok_B_count rfl rfl (⟨by rw [hI.2.2.2.1.1], hI, fun _ _ => rfl⟩)
    · have e : qCount τ 5 = τ 2 3 := rfl
      rw [e]
      refine zw_tin 92 ok_B_count rfl (by decide) (by decide) rfl (by decide) ?_
      refine zw_aload_n ok_B_count rfl rfl ?_
      refine zw_getr ok_B_count rfl fl_B_42 rfl rfl ?_
      refine zw_geti ok_B_count rfl fl_B_151 rfl rfl ?_
      exact zw_iret ok_B_count rfl rfl (⟨by rw [hI.2.2.2.1.2.1], hI, fun _ _ => rfl⟩)
    · have e : qCount τ 6 = qBehind τ 11 1 := rfl
      rw [e]
      refine zw_tin 100 ok_B_count rfl (by decide) (by decide) rfl (by decide) ?_
      refine zw_aload_n ok_B_count rfl rfl ?_
      refine zw_bipush ok_B_count rfl (by decide) ?_
      refine zw_iconst ok_B_count rfl ?_
      refine zw_Vi ok_B_count rfl ok_B_behind lk_B_278 (by decide) rfl rfl (Nat.le_of_ble_eq_true rfl) (ct_B_behind hI (by omega) (by omega)) (fun m104 h104 => ?_)
      exact zw_iret ok_B_count rfl rfl (⟨rfl, h104.1, h104.2.c48⟩)
    · have e : qCount τ 7 = τ 2 4 := rfl
      rw [e]
      refine zw_tin 108 ok_B_count rfl (by decide) (by decide) rfl (by decide) ?_
      refine zw_aload_n ok_B_count rfl rfl ?_
      refine zw_getr ok_B_count rfl fl_B_45 rfl rfl ?_
      refine zw_geti ok_B_count rfl fl_B_151 rfl rfl ?_
      exact zw_iret ok_B_count rfl rfl (⟨by rw [hI.2.2.2.1.2.2.1], hI, fun _ _ => rfl⟩)
    · have e : qCount τ 8 = τ 2 5 := rfl
      rw [e]
      refine zw_tin 116 ok_B_count rfl (by decide) (by decide) rfl (by decide) ?_
      refine zw_aload_n ok_B_count rfl rfl ?_
      refine zw_geti ok_B_count rfl fl_B_281 rfl rfl ?_
      exact zw_iret ok_B_count rfl rfl (⟨by rw [hI.2.2.2.1.2.2.2], hI, fun _ _ => rfl⟩)
  · have e : qCount τ w = -2 := by unfold qCount; rw [if_neg (by omega), if_neg (by omega), if_neg (by omega), if_neg (by omega), if_neg (by omega), if_neg (by omega), if_neg (by omega), if_neg (by omega), if_neg (by omega)]
    rw [e]
    refine zw_tout 121 ok_B_count rfl hw (by omega) (by decide) ?_
    refine zw_bipush ok_B_count rfl (by decide) ?_
    exact zw_iret ok_B_count rfl rfl (⟨rfl, hI, fun _ _ => rfl⟩)
end
