/-! ===== the reference: digest ===== -/
section
variable {mem m2 τ τ2 : zMem} {Q : Option zVal → zMem → Prop} {ol ff : Int}
theorem MR_shf {m : zMem} (h : shf mem m (τ 2 3)) (h13 : m 48 13 = τ 2 3) (hR : MR mem τ) : MR m τ := ⟨MI_shf h h13 hR.1, MRv_shf h h13 hR.2.1, by rw [h.1.2 9 (by decide)]; exact hR.2.2⟩
theorem stp {m : zMem} (h : MR m τ ∧ ref47 mem m) {x : zM} : MR (putM m x) τ ∧ ref47 mem (putM m x) := ⟨putR h.1, h.2.tr put47⟩
theorem std {m : zMem} (h : MR m τ ∧ ref47 mem m) (hf : mfr dJ dL m m2) : MR m2 τ ∧ ref47 mem m2 := ⟨MR_of hf h.1, h.2.tr (hf.r47 (by decide))⟩
theorem stt {m : zMem} (h : MR m τ ∧ ref47 mem m) (hf : MR m2 τ ∧ ref47 m m2) : MR m2 τ ∧ ref47 mem m2 := ⟨hf.1, h.2.tr hf.2⟩
theorem sth {m : zMem} (h : MR m τ ∧ ref47 mem m) (hf : shf m m2 (τ 2 3) ∧ m2 48 13 = τ 2 3) : MR m2 τ ∧ ref47 mem m2 := ⟨MR_shf hf.1 hf.2 h.1, h.2.tr (hf.1.1.r47 (by decide))⟩
theorem tp_loop {h p : Int} (hR : MR mem τ) (hp : 0 ≤ p ∧ p < aP τ) : ∀ (k : Nat) (i x : Int), 0 ≤ i → i + k = 3 → AW m_M_tellsPerson 39 [some (vr 48), some (vl h), none, some (vi p), some (vl (lp (fun j x => dg x (qPerson τ p j)) k i x)), none, none] [] mem Q → AW m_M_tellsPerson 6 [some (vr 48), some (vl h), none, some (vi p), some (vl x), none, some (vi i)] [] mem Q := by
  have hP := aP_b hR.2.1.1
  have c := hR.2.1.1.2.1.2 p hp.1 hp.2
  intro k
  induction k with
  | zero =>
    intro i x h0 h1 hx
    refine zw_iload ok_M_tellsPerson rfl rfl ?_
    refine zw_iconst ok_M_tellsPerson rfl ?_
    refine zw_icmp_ge 39 ok_M_tellsPerson rfl (by decide) (by omega) (fun h9 => ?_) (fun h9 => ?_)
    · exact zw_mask [true, true, true, true, true, true, false] rfl hx
    · exfalso; omega
  | succ k ih =>
    intro i x h0 h1 hx
    rw [lp_s] at hx
    have e : mem 55 (3 * p + i) = qPerson τ p i := by unfold qPerson; rw [if_pos hp]; exact per_at c (by omega)
    refine zw_iload ok_M_tellsPerson rfl rfl ?_
    refine zw_iconst ok_M_tellsPerson rfl ?_
    refine zw_icmp_ge 39 ok_M_tellsPerson rfl (by decide) (by omega) (fun h9 => ?_) (fun h9 => ?_)
    · exfalso; omega
    · refine zw_ldc2 ok_M_tellsPerson rfl kc_M_298 ?_
      refine zw_lload ok_M_tellsPerson rfl rfl ?_
      refine zw_lmul ok_M_tellsPerson rfl ?_
      refine zw_aload_n ok_M_tellsPerson rfl rfl ?_
      refine zw_getr ok_M_tellsPerson rfl fl_M_28 rfl rfl ?_
      refine zw_iconst ok_M_tellsPerson rfl ?_
      refine zw_iload_n ok_M_tellsPerson rfl rfl ?_
      refine zw_imul ok_M_tellsPerson rfl ?_
      refine zw_iload ok_M_tellsPerson rfl rfl ?_
      refine zw_iadd ok_M_tellsPerson rfl ?_
      refine zw_iald ok_M_tellsPerson rfl rfl (by omega) ?_
      rw [e]
      refine zw_i2lw ok_M_tellsPerson rfl ?_
      refine zw_ladd ok_M_tellsPerson rfl ?_
      refine zw_lstore ok_M_tellsPerson rfl rfl (by decide) ?_
      refine zw_iinc ok_M_tellsPerson rfl rfl rfl (by decide) ?_
      refine zw_goto 6 ok_M_tellsPerson rfl (by decide) ?_
      exact ih (i + 1) _ (by omega) (by omega) hx
theorem ct_M_tellsPerson {h p : Int} (hR : MR mem τ) (hp : 0 ≤ p ∧ p < aP τ) (hc : ∀ p r, 0 ≤ p ∧ p < aP τ → cstT τ p r ≤ 899) : zCl m_M_tellsPerson [vr 48, vl h, vi p] mem (dgPer τ h p) (fun m2 => MR m2 τ ∧ ref47 mem m2) := by
  refine zCt.of [some (vr 48), some (vl h), none, some (vi p), none, none, none] ok_M_tellsPerson (Nat.le_of_ble_eq_true rfl) rfl ?_
  have hP := aP_b hR.2.1.1
  have hpz : zR p := by omega
  have j0 : MR mem τ ∧ ref47 mem mem := ⟨hR, r47_rf⟩
  have e3 : (aSim τ (-1) 0 ((3 : Int) + 1).toNat).2.1 p = qLow τ 3 p := by unfold qLow; rw [if_pos ⟨by omega, hp⟩]
  have e11 : (aSim τ (-1) 0 ((11 : Int) + 1).toNat).2.1 p = qLow τ 11 p := by unfold qLow; rw [if_pos ⟨by omega, hp⟩]
  have es : (if p = -1 then pcN (seaT τ 7 30).2.2.1 else (seaT τ 7 30).2.1 p) = qSeason τ 7 30 p := by symm; unfold qSeason; exact if_pos ⟨by omega, Or.inr hp⟩
  unfold dgPer
  have tl : ∀ x, AW m_M_tellsPerson 39 [some (vr 48), some (vl h), none, some (vi p), some (vl x), none, none] [] mem (fun r m2 => r = some (vl (dg (31 * (31 * (dg (dg (dg (dg (dg (dg (dg x (qLow τ 3 p)) (qLow τ 11 p)) (qOwes τ 5 0 p)) (qEnds τ p 1 0)) (qEnds τ p 1 1)) ((strlT τ p 2).1 / 100)) (dgt (strlT τ p 2).2 0)) + fgA τ 5 11 p) + fgB τ 5 11 p) (qSeason τ 7 30 p))) ∧ MR m2 τ ∧ ref47 mem m2) := by
    intro x
    refine zw_ldc2 ok_M_tellsPerson rfl kc_M_298 ?_
    refine zw_lload ok_M_tellsPerson rfl rfl ?_
    refine zw_lmul ok_M_tellsPerson rfl ?_
    refine zw_aload_n ok_M_tellsPerson rfl rfl ?_
    refine zw_iconst ok_M_tellsPerson rfl ?_
    refine zw_iload_n ok_M_tellsPerson rfl rfl ?_
    refine zw_Vi ok_M_tellsPerson rfl ok_M_lowOf lk_M_220 (by decide) rfl rfl (Nat.le_of_ble_eq_true rfl) (ct_M_lowOf hR.2.1 (by omega) hp) (fun m48 h48 => ?_)
    obtain ⟨x1, rfl⟩ := h48
    have j1 := stp j0 (x := x1)
    rw [e3]
    refine zw_i2lw ok_M_tellsPerson rfl ?_
    refine zw_ladd ok_M_tellsPerson rfl ?_
    refine zw_lstore ok_M_tellsPerson rfl rfl (by decide) ?_
    refine zw_ldc2 ok_M_tellsPerson rfl kc_M_298 ?_
    refine zw_lload ok_M_tellsPerson rfl rfl ?_
    refine zw_lmul ok_M_tellsPerson rfl ?_
    refine zw_aload_n ok_M_tellsPerson rfl rfl ?_
    refine zw_bipush ok_M_tellsPerson rfl (by decide) ?_
    refine zw_iload_n ok_M_tellsPerson rfl rfl ?_
    refine zw_Vi ok_M_tellsPerson rfl ok_M_lowOf lk_M_220 (by decide) rfl rfl (Nat.le_of_ble_eq_true rfl) (ct_M_lowOf j1.1.2.1 (by omega) hp) (fun m65 h65 => ?_)
    obtain ⟨x2, rfl⟩ := h65
    have j2 := stp j1 (x := x2)
    rw [e11]
    refine zw_i2lw ok_M_tellsPerson rfl ?_
    refine zw_ladd ok_M_tellsPerson rfl ?_
    refine zw_lstore ok_M_tellsPerson rfl rfl (by decide) ?_
    refine zw_ldc2 ok_M_tellsPerson rfl kc_M_298 ?_
    refine zw_lload ok_M_tellsPerson rfl rfl ?_
    refine zw_lmul ok_M_tellsPerson rfl ?_
    refine zw_aload_n ok_M_tellsPerson rfl rfl ?_
    refine zw_iconst ok_M_tellsPerson rfl ?_
    refine zw_iconst ok_M_tellsPerson rfl ?_
    refine zw_iload_n ok_M_tellsPerson rfl rfl ?_
    refine zw_Vi ok_M_tellsPerson rfl ok_M_owes lk_M_300 (by decide) rfl rfl (Nat.le_of_ble_eq_true rfl) (ct_M_owes j2.1.1 (by omega) (by omega) hpz) (fun m82 h82 => ?_)
    have j3 := stt j2 h82
    refine zw_i2lw ok_M_tellsPerson rfl ?_
    refine zw_ladd ok_M_tellsPerson rfl ?_
    refine zw_lstore ok_M_tellsPerson rfl rfl (by decide) ?_
    refine zw_ldc2 ok_M_tellsPerson rfl kc_M_298 ?_
    refine zw_lload ok_M_tellsPerson rfl rfl ?_
    refine zw_lmul ok_M_tellsPerson rfl ?_
    refine zw_aload_n ok_M_tellsPerson rfl rfl ?_
    refine zw_iload_n ok_M_tellsPerson rfl rfl ?_
    refine zw_iconst ok_M_tellsPerson rfl ?_
    refine zw_iconst ok_M_tellsPerson rfl ?_
    refine zw_Vi ok_M_tellsPerson rfl ok_M_ends lk_M_303 (by decide) rfl rfl (Nat.le_of_ble_eq_true rfl) (ct_M_ends j3.1.1 hpz (by omega) (by omega)) (fun m99 h99 => ?_)
    have j4 := stt j3 h99
    refine zw_i2lw ok_M_tellsPerson rfl ?_
    refine zw_ladd ok_M_tellsPerson rfl ?_
    refine zw_lstore ok_M_tellsPerson rfl rfl (by decide) ?_
    refine zw_ldc2 ok_M_tellsPerson rfl kc_M_298 ?_
    refine zw_lload ok_M_tellsPerson rfl rfl ?_
    refine zw_lmul ok_M_tellsPerson rfl ?_
    refine zw_aload_n ok_M_tellsPerson rfl rfl ?_
    refine zw_iload_n ok_M_tellsPerson rfl rfl ?_
    refine zw_iconst ok_M_tellsPerson rfl ?_
    refine zw_iconst ok_M_tellsPerson rfl ?_
    refine zw_Vi ok_M_tellsPerson rfl ok_M_ends lk_M_303 (by decide) rfl rfl (Nat.le_of_ble_eq_true rfl) (ct_M_ends j4.1.1 hpz (by omega) (by omega)) (fun m116 h116 => ?_)
    have j5 := stt j4 h116
    refine zw_i2lw ok_M_tellsPerson rfl ?_
    refine zw_ladd ok_M_tellsPerson rfl ?_
    refine zw_lstore ok_M_tellsPerson rfl rfl (by decide) ?_
    refine zw_ldc2 ok_M_tellsPerson rfl kc_M_298 ?_
    refine zw_lload ok_M_tellsPerson rfl rfl ?_
    refine zw_lmul ok_M_tellsPerson rfl ?_
    refine zw_aload_n ok_M_tellsPerson rfl rfl ?_
    refine zw_iload_n ok_M_tellsPerson rfl rfl ?_
    refine zw_iconst ok_M_tellsPerson rfl ?_
    refine zw_iconst ok_M_tellsPerson rfl ?_
    refine zw_Vi ok_M_tellsPerson rfl ok_M_strollOf lk_M_255 (by decide) rfl rfl (Nat.le_of_ble_eq_true rfl) (ct_M_strollOf j5.1.2.1 hp (by omega) (by omega) (fun r => hc p r hp)) (fun m133 h133 => ?_)
    have j6 := std j5 h133
    rw [if_pos rfl]
    refine zw_i2lw ok_M_tellsPerson rfl ?_
    refine zw_ladd ok_M_tellsPerson rfl ?_
    refine zw_lstore ok_M_tellsPerson rfl rfl (by decide) ?_
    refine zw_ldc2 ok_M_tellsPerson rfl kc_M_298 ?_
    refine zw_lload ok_M_tellsPerson rfl rfl ?_
    refine zw_lmul ok_M_tellsPerson rfl ?_
    refine zw_aload_n ok_M_tellsPerson rfl rfl ?_
    refine zw_iload_n ok_M_tellsPerson rfl rfl ?_
    refine zw_iconst ok_M_tellsPerson rfl ?_
    refine zw_iconst ok_M_tellsPerson rfl ?_
    refine zw_Vi ok_M_tellsPerson rfl ok_M_strollOf lk_M_255 (by decide) rfl rfl (Nat.le_of_ble_eq_true rfl) (ct_M_strollOf j6.1.2.1 hp (by omega) (by omega) (fun r => hc p r hp)) (fun m150 h150 => ?_)
    have j7 := std j6 h150
    rw [if_neg (show ¬ (0 : Int) = -1 by decide)]
    refine zw_i2lw ok_M_tellsPerson rfl ?_
    refine zw_ladd ok_M_tellsPerson rfl ?_
    refine zw_lstore ok_M_tellsPerson rfl rfl (by decide) ?_
    refine zw_ldc2 ok_M_tellsPerson rfl kc_M_298 ?_
    refine zw_lload ok_M_tellsPerson rfl rfl ?_
    refine zw_lmul ok_M_tellsPerson rfl ?_
    refine zw_aload_n ok_M_tellsPerson rfl rfl ?_
    refine zw_iconst ok_M_tellsPerson rfl ?_
    refine zw_bipush ok_M_tellsPerson rfl (by decide) ?_
    refine zw_iload_n ok_M_tellsPerson rfl rfl ?_
    refine zw_iconst ok_M_tellsPerson rfl ?_
    refine zw_Vl ok_M_tellsPerson rfl ok_M_forgetsOf lk_M_280 (by decide) rfl rfl (Nat.le_of_ble_eq_true rfl) (ct_M_forgetsOf j7.1.2.1 (by omega) (by omega) hp (by omega)) (fun m169 h169 => ?_)
    have j8 := std j7 h169
    rw [if_pos rfl]
    refine zw_ladd ok_M_tellsPerson rfl ?_
    refine zw_lstore ok_M_tellsPerson rfl rfl (by decide) ?_
    refine zw_ldc2 ok_M_tellsPerson rfl kc_M_298 ?_
    refine zw_lload ok_M_tellsPerson rfl rfl ?_
    refine zw_lmul ok_M_tellsPerson rfl ?_
    refine zw_aload_n ok_M_tellsPerson rfl rfl ?_
    refine zw_iconst ok_M_tellsPerson rfl ?_
    refine zw_bipush ok_M_tellsPerson rfl (by decide) ?_
    refine zw_iload_n ok_M_tellsPerson rfl rfl ?_
    refine zw_iconst ok_M_tellsPerson rfl ?_
    refine zw_Vl ok_M_tellsPerson rfl ok_M_forgetsOf lk_M_280 (by decide) rfl rfl (Nat.le_of_ble_eq_true rfl) (ct_M_forgetsOf j8.1.2.1 (by omega) (by omega) hp (by omega)) (fun m187 h187 => ?_)
    have j9 := std j8 h187
    rw [if_neg (show ¬ (1 : Int) = 0 by decide)]
    refine zw_ladd ok_M_tellsPerson rfl ?_
    refine zw_lstore ok_M_tellsPerson rfl rfl (by decide) ?_
    refine zw_ldc2 ok_M_tellsPerson rfl kc_M_298 ?_
    refine zw_lload ok_M_tellsPerson rfl rfl ?_
    refine zw_lmul ok_M_tellsPerson rfl ?_
    refine zw_aload_n ok_M_tellsPerson rfl rfl ?_
    refine zw_bipush ok_M_tellsPerson rfl (by decide) ?_
    refine zw_bipush ok_M_tellsPerson rfl (by decide) ?_
    refine zw_iload_n ok_M_tellsPerson rfl rfl ?_
    refine zw_Vi ok_M_tellsPerson rfl ok_M_seasonOf lk_M_295 (by decide) rfl rfl (Nat.le_of_ble_eq_true rfl) (ct_M_seasonOf j9.1.2.1 (by omega) (Or.inr hp)) (fun m205 h205 => ?_)
    rw [es]
    refine zw_i2lw ok_M_tellsPerson rfl ?_
    refine zw_ladd ok_M_tellsPerson rfl ?_
    exact zw_lret ok_M_tellsPerson rfl rfl (⟨rfl, std j9 h205⟩)
  refine zw_lload_n ok_M_tellsPerson rfl rfl ?_
  refine zw_lstore ok_M_tellsPerson rfl rfl (by decide) ?_
  refine zw_iconst ok_M_tellsPerson rfl ?_
  refine zw_istore ok_M_tellsPerson rfl rfl (by decide) ?_
  exact tp_loop hR hp 3 0 _ (by omega) (by omega) (tl _)
theorem ct_M_tellsHour {h hr : Int} (hR : MR mem τ) (hh : 0 ≤ hr ∧ hr ≤ 11) : zCl m_M_tellsHour [vr 48, vl h, vi hr] mem (dgHr τ h hr) (fun m2 => MR m2 τ ∧ ref47 mem m2) := by
  refine zCt.of [some (vr 48), some (vl h), none, some (vi hr), none, none] ok_M_tellsHour (Nat.le_of_ble_eq_true rfl) rfl ?_
  have e0 : (if (0 : Int) = 0 then (aSim τ (-1) 0 (hr + 1).toNat).2.2.1 else (aSim τ (-1) 0 (hr + 1).toNat).2.2.2.1) = qBehind τ hr 0 := by symm; unfold qBehind; exact if_pos ⟨hh, by omega⟩
  have e1 : (if (1 : Int) = 0 then (aSim τ (-1) 0 (hr + 1).toNat).2.2.1 else (aSim τ (-1) 0 (hr + 1).toNat).2.2.2.1) = qBehind τ hr 1 := by symm; unfold qBehind; exact if_pos ⟨hh, by omega⟩
  have e2 : (if (0 : Int) = 0 then (rgS τ (aSim τ (-1) 0 (hr + 1).toNat).1).1 else (rgS τ (aSim τ (-1) 0 (hr + 1).toNat).1).2) = qRings τ hr 0 := by symm; unfold qRings; exact if_pos ⟨hh, by omega⟩
  have e3 : (if (1 : Int) = 0 then (rgS τ (aSim τ (-1) 0 (hr + 1).toNat).1).1 else (rgS τ (aSim τ (-1) 0 (hr + 1).toNat).1).2) = qRings τ hr 1 := by symm; unfold qRings; exact if_pos ⟨hh, by omega⟩
  unfold dgHr
  refine zw_ldc2 ok_M_tellsHour rfl kc_M_298 ?_
  refine zw_lload_n ok_M_tellsHour rfl rfl ?_
  refine zw_lmul ok_M_tellsHour rfl ?_
  refine zw_aload_n ok_M_tellsHour rfl rfl ?_
  refine zw_iload_n ok_M_tellsHour rfl rfl ?_
  refine zw_iconst ok_M_tellsHour rfl ?_
  refine zw_Vi ok_M_tellsHour rfl ok_M_street lk_M_306 (by decide) rfl rfl (Nat.le_of_ble_eq_true rfl) (ct_M_street hR.1 (by omega) (by omega)) (fun m8 h8 => ?_)
  refine zw_i2lw ok_M_tellsHour rfl ?_
  refine zw_ladd ok_M_tellsHour rfl ?_
  refine zw_lstore ok_M_tellsHour rfl rfl (by decide) ?_
  refine zw_ldc2 ok_M_tellsHour rfl kc_M_298 ?_
  refine zw_lload ok_M_tellsHour rfl rfl ?_
  refine zw_lmul ok_M_tellsHour rfl ?_
  refine zw_aload_n ok_M_tellsHour rfl rfl ?_
  refine zw_iload_n ok_M_tellsHour rfl rfl ?_
  refine zw_iconst ok_M_tellsHour rfl ?_
  refine zw_Vi ok_M_tellsHour rfl ok_M_behindOf lk_M_223 (by decide) rfl rfl (Nat.le_of_ble_eq_true rfl) (ct_M_behindOf h8.1.2.1 hh (by omega)) (fun m24 h24 => ?_)
  obtain ⟨x1, rfl⟩ := h24
  have j1 := stp h8 (x := x1)
  rw [e0]
  refine zw_i2lw ok_M_tellsHour rfl ?_
  refine zw_ladd ok_M_tellsHour rfl ?_
  refine zw_lstore ok_M_tellsHour rfl rfl (by decide) ?_
  refine zw_ldc2 ok_M_tellsHour rfl kc_M_298 ?_
  refine zw_lload ok_M_tellsHour rfl rfl ?_
  refine zw_lmul ok_M_tellsHour rfl ?_
  refine zw_aload_n ok_M_tellsHour rfl rfl ?_
  refine zw_iload_n ok_M_tellsHour rfl rfl ?_
  refine zw_iconst ok_M_tellsHour rfl ?_
  refine zw_Vi ok_M_tellsHour rfl ok_M_behindOf lk_M_223 (by decide) rfl rfl (Nat.le_of_ble_eq_true rfl) (ct_M_behindOf j1.1.2.1 hh (by omega)) (fun m40 h40 => ?_)
  obtain ⟨x2, rfl⟩ := h40
  have j2 := stp j1 (x := x2)
  rw [e1]
  refine zw_i2lw ok_M_tellsHour rfl ?_
  refine zw_ladd ok_M_tellsHour rfl ?_
  refine zw_lstore ok_M_tellsHour rfl rfl (by decide) ?_
  refine zw_ldc2 ok_M_tellsHour rfl kc_M_298 ?_
  refine zw_lload ok_M_tellsHour rfl rfl ?_
  refine zw_lmul ok_M_tellsHour rfl ?_
  refine zw_aload_n ok_M_tellsHour rfl rfl ?_
  refine zw_iload_n ok_M_tellsHour rfl rfl ?_
  refine zw_iconst ok_M_tellsHour rfl ?_
  refine zw_Vi ok_M_tellsHour rfl ok_M_ringsOf lk_M_241 (by decide) rfl rfl (Nat.le_of_ble_eq_true rfl) (ct_M_ringsOf j2.1.2.1 hh (by omega)) (fun m56 h56 => ?_)
  obtain ⟨x3, rfl⟩ := h56
  have j3 := stp j2 (x := x3)
  rw [e2]
  refine zw_i2lw ok_M_tellsHour rfl ?_
  refine zw_ladd ok_M_tellsHour rfl ?_
  refine zw_lstore ok_M_tellsHour rfl rfl (by decide) ?_
  refine zw_ldc2 ok_M_tellsHour rfl kc_M_298 ?_
  refine zw_lload ok_M_tellsHour rfl rfl ?_
  refine zw_lmul ok_M_tellsHour rfl ?_
  refine zw_aload_n ok_M_tellsHour rfl rfl ?_
  refine zw_iload_n ok_M_tellsHour rfl rfl ?_
  refine zw_iconst ok_M_tellsHour rfl ?_
  refine zw_Vi ok_M_tellsHour rfl ok_M_ringsOf lk_M_241 (by decide) rfl rfl (Nat.le_of_ble_eq_true rfl) (ct_M_ringsOf j3.1.2.1 hh (by omega)) (fun m72 h72 => ?_)
  obtain ⟨x4, rfl⟩ := h72
  have j4 := stp j3 (x := x4)
  rw [e3]
  refine zw_i2lw ok_M_tellsHour rfl ?_
  refine zw_ladd ok_M_tellsHour rfl ?_
  exact zw_lret ok_M_tellsHour rfl rfl (⟨rfl, j4⟩)
theorem mgc_loop {m0 : zMem} : ∀ (k : Nat) (i x : Int) (m : zMem), 0 ≤ i → i + k = 8 → MI m τ → ref47 m0 m → (∀ m2, MI m2 τ → ref47 m0 m2 → AW m_M_digest 31 [some (vr 48), some (vl (lp (fun j x => dg x (qCount τ j)) k i x)), none, none] [] m2 Q) → AW m_M_digest 6 [some (vr 48), some (vl x), none, some (vi i)] [] m Q := by
  intro k
  induction k with
  | zero =>
    intro i x m h0 h1 hI hc hx
    refine zw_iload_n ok_M_digest rfl rfl ?_
    refine zw_bipush ok_M_digest rfl (by decide) ?_
    refine zw_icmp_ge 31 ok_M_digest rfl (by decide) (by omega) (fun h9 => ?_) (fun h9 => ?_)
    · exact zw_mask [true, true, true, false] rfl (hx m hI hc)
    · exfalso; omega
  | succ k ih =>
    intro i x m h0 h1 hI hc hx
    rw [lp_s] at hx
    refine zw_iload_n ok_M_digest rfl rfl ?_
    refine zw_bipush ok_M_digest rfl (by decide) ?_
    refine zw_icmp_ge 31 ok_M_digest rfl (by decide) (by omega) (fun h9 => ?_) (fun h9 => ?_)
    · exfalso; omega
    · refine zw_ldc2 ok_M_digest rfl kc_M_298 ?_
      refine zw_lload_n ok_M_digest rfl rfl ?_
      refine zw_lmul ok_M_digest rfl ?_
      refine zw_aload_n ok_M_digest rfl rfl ?_
      refine zw_iload_n ok_M_digest rfl rfl ?_
      refine zw_Vi ok_M_digest rfl ok_M_count lk_M_311 (by decide) rfl rfl (Nat.le_of_ble_eq_true rfl) (ct_M_count hI (by omega)) (fun m19 h19 => ?_)
      refine zw_i2lw ok_M_digest rfl ?_
      refine zw_ladd ok_M_digest rfl ?_
      refine zw_lstore_n ok_M_digest rfl rfl (by decide) ?_
      refine zw_iinc ok_M_digest rfl rfl rfl (by decide) ?_
      refine zw_goto 6 ok_M_digest rfl (by decide) ?_
      exact ih (i + 1) _ _ (by omega) (by omega) h19.1.1 (hc.tr (h19.2.r47 (by decide))) hx
theorem mgp_loop {m0 : zMem} (hc : ∀ p r, 0 ≤ p ∧ p < aP τ → cstT τ p r ≤ 899) : ∀ (k : Nat) (i x : Int) (m : zMem), 0 ≤ i → i + k = aP τ → MR m τ ∧ ref47 m0 m → (∀ m2, MR m2 τ ∧ ref47 m0 m2 → AW m_M_digest 78 [some (vr 48), some (vl (lp (fun p x => dgPer τ x p) k i x)), none, none] [] m2 Q) → AW m_M_digest 57 [some (vr 48), some (vl x), none, some (vi i)] [] m Q := by
  intro k
  induction k with
  | zero =>
    intro i x m h0 h1 hI hx
    have hP := P7 hI.1
    refine zw_iload_n ok_M_digest rfl rfl ?_
    refine zw_aload_n ok_M_digest rfl rfl ?_
    refine zw_geti ok_M_digest rfl fl_M_109 rfl rfl ?_
    refine zw_icmp_ge 78 ok_M_digest rfl (by decide) (by omega) (fun h62 => ?_) (fun h62 => ?_)
    · exact zw_mask [true, true, true, false] rfl (hx m hI)
    · exfalso; omega
  | succ k ih =>
    intro i x m h0 h1 hI hx
    have hP := P7 hI.1
    rw [lp_s] at hx
    refine zw_iload_n ok_M_digest rfl rfl ?_
    refine zw_aload_n ok_M_digest rfl rfl ?_
    refine zw_geti ok_M_digest rfl fl_M_109 rfl rfl ?_
    refine zw_icmp_ge 78 ok_M_digest rfl (by decide) (by omega) (fun h62 => ?_) (fun h62 => ?_)
    · exfalso; omega
    · refine zw_aload_n ok_M_digest rfl rfl ?_
      refine zw_lload_n ok_M_digest rfl rfl ?_
      refine zw_iload_n ok_M_digest rfl rfl ?_
      refine zw_Vl ok_M_digest rfl ok_M_tellsPerson lk_M_314 (by decide) rfl rfl (Nat.le_of_ble_eq_true rfl) (ct_M_tellsPerson hI.1 (by omega) hc) (fun m68 h68 => ?_)
      refine zw_lstore_n ok_M_digest rfl rfl (by decide) ?_
      refine zw_iinc ok_M_digest rfl rfl rfl (by decide) ?_
      refine zw_goto 57 ok_M_digest rfl (by decide) ?_
      exact ih (i + 1) _ _ (by omega) (by omega) (stt hI h68) hx
theorem ct_M_digest (hI : MI mem τ) (hc : ∀ p r, 0 ≤ p ∧ p < aP τ → cstT τ p r ≤ 899) : zCl m_M_digest [vr 48] mem (qDigest τ) (fun m2 => MI m2 τ ∧ ref47 mem m2) := by
  refine zCt.of [some (vr 48), none, none, none] ok_M_digest (Nat.le_of_ble_eq_true rfl) rfl ?_
  have ef0 : (if (0 : Int) = 0 then (aSim τ (-1) 0 12).2.2.2.2.1 else (aSim τ (-1) 0 12).2.2.2.2.2) = qFirst τ 0 := by symm; unfold qFirst; exact if_pos (show (0 : Int) ≤ 0 ∧ (0 : Int) ≤ 1 by decide)
  have ef1 : (if (1 : Int) = 0 then (aSim τ (-1) 0 12).2.2.2.2.1 else (aSim τ (-1) 0 12).2.2.2.2.2) = qFirst τ 1 := by symm; unfold qFirst; exact if_pos (show (0 : Int) ≤ 1 ∧ (1 : Int) ≤ 1 by decide)
  have en0 : (if (0 : Int) = 0 then nevO τ else nevU τ) = qNever τ 0 := by symm; unfold qNever; exact if_pos (show (0 : Int) ≤ 0 ∧ (0 : Int) ≤ 1 by decide)
  have en1 : (if (1 : Int) = 0 then nevO τ else nevU τ) = qNever τ 1 := by symm; unfold qNever; exact if_pos (show (0 : Int) ≤ 1 ∧ (1 : Int) ≤ 1 by decide)
  have es : (if (-1 : Int) = -1 then pcN (seaT τ 7 30).2.2.1 else (seaT τ 7 30).2.1 (-1)) = qSeason τ 7 30 (-1) := by symm; unfold qSeason; exact if_pos ⟨by omega, Or.inl rfl⟩
  have q0 : sFp (τ 2 0) (τ 0) = qFault τ 0 := by unfold qFault; rw [if_pos (show (0 : Int) ≤ 0 ∧ (0 : Int) ≤ 1 by decide), if_pos rfl]
  have q1 : sFw (τ 2 1) (τ 1) = qFault τ 1 := by unfold qFault; rw [if_pos (show (0 : Int) ≤ 1 ∧ (1 : Int) ≤ 1 by decide), if_neg (by decide)]
  unfold qDigest
  generalize hct : dgCt τ = ct
  unfold dgCt at hct
  have tl : ∀ (m3 : zMem) (x : Int), MR m3 τ ∧ ref47 mem m3 → AW m_M_digest 78 [some (vr 48), some (vl x), none, none] [] m3 (fun r m2 => r = some (vl (dgPl τ (dgHr τ (dgHr τ (dgHr τ x 0) 3) 11))) ∧ MI m2 τ ∧ ref47 mem m2) := by
    intro m3 x j0
    unfold dgPl
    refine zw_aload_n ok_M_digest rfl rfl ?_
    refine zw_aload_n ok_M_digest rfl rfl ?_
    refine zw_aload_n ok_M_digest rfl rfl ?_
    refine zw_lload_n ok_M_digest rfl rfl ?_
    refine zw_iconst ok_M_digest rfl ?_
    refine zw_Vl ok_M_digest rfl ok_M_tellsHour lk_M_318 (by decide) rfl rfl (Nat.le_of_ble_eq_true rfl) (ct_M_tellsHour j0.1 (by omega)) (fun m83 h83 => ?_)
    have j1 := stt j0 h83
    refine zw_iconst ok_M_digest rfl ?_
    refine zw_Vl ok_M_digest rfl ok_M_tellsHour lk_M_318 (by decide) rfl rfl (Nat.le_of_ble_eq_true rfl) (ct_M_tellsHour j1.1 (by omega)) (fun m87 h87 => ?_)
    have j2 := stt j1 h87
    refine zw_bipush ok_M_digest rfl (by decide) ?_
    refine zw_Vl ok_M_digest rfl ok_M_tellsHour lk_M_318 (by decide) rfl rfl (Nat.le_of_ble_eq_true rfl) (ct_M_tellsHour j2.1 (by omega)) (fun m92 h92 => ?_)
    have j3 := stt j2 h92
    refine zw_lstore_n ok_M_digest rfl rfl (by decide) ?_
    refine zw_ldc2 ok_M_digest rfl kc_M_298 ?_
    refine zw_lload_n ok_M_digest rfl rfl ?_
    refine zw_lmul ok_M_digest rfl ?_
    refine zw_aload_n ok_M_digest rfl rfl ?_
    refine zw_iconst ok_M_digest rfl ?_
    refine zw_Vi ok_M_digest rfl ok_M_firstOf lk_M_232 (by decide) rfl rfl (Nat.le_of_ble_eq_true rfl) (ct_M_firstOf j3.1.2.1 (by omega)) (fun m103 h103 => ?_)
    obtain ⟨x1, rfl⟩ := h103
    have j4 := stp j3 (x := x1)
    rw [ef0]
    refine zw_i2lw ok_M_digest rfl ?_
    refine zw_ladd ok_M_digest rfl ?_
    refine zw_lstore_n ok_M_digest rfl rfl (by decide) ?_
    refine zw_ldc2 ok_M_digest rfl kc_M_298 ?_
    refine zw_lload_n ok_M_digest rfl rfl ?_
    refine zw_lmul ok_M_digest rfl ?_
    refine zw_aload_n ok_M_digest rfl rfl ?_
    refine zw_iconst ok_M_digest rfl ?_
    refine zw_Vi ok_M_digest rfl ok_M_firstOf lk_M_232 (by decide) rfl rfl (Nat.le_of_ble_eq_true rfl) (ct_M_firstOf j4.1.2.1 (by omega)) (fun m116 h116 => ?_)
    obtain ⟨x2, rfl⟩ := h116
    have j5 := stp j4 (x := x2)
    rw [ef1]
    refine zw_i2lw ok_M_digest rfl ?_
    refine zw_ladd ok_M_digest rfl ?_
    refine zw_lstore_n ok_M_digest rfl rfl (by decide) ?_
    refine zw_ldc2 ok_M_digest rfl kc_M_298 ?_
    refine zw_lload_n ok_M_digest rfl rfl ?_
    refine zw_lmul ok_M_digest rfl ?_
    refine zw_aload_n ok_M_digest rfl rfl ?_
    refine zw_iconst ok_M_digest rfl ?_
    refine zw_Vi ok_M_digest rfl ok_M_shadeOf lk_M_249 (by decide) rfl rfl (Nat.le_of_ble_eq_true rfl) (ct_M_shadeOf j5.1.2.1 (by omega)) (fun m129 h129 => ?_)
    have j6 := sth j5 h129
    rw [if_pos rfl]
    refine zw_i2lw ok_M_digest rfl ?_
    refine zw_ladd ok_M_digest rfl ?_
    refine zw_lstore_n ok_M_digest rfl rfl (by decide) ?_
    refine zw_ldc2 ok_M_digest rfl kc_M_298 ?_
    refine zw_lload_n ok_M_digest rfl rfl ?_
    refine zw_lmul ok_M_digest rfl ?_
    refine zw_aload_n ok_M_digest rfl rfl ?_
    refine zw_iconst ok_M_digest rfl ?_
    refine zw_Vi ok_M_digest rfl ok_M_shadeOf lk_M_249 (by decide) rfl rfl (Nat.le_of_ble_eq_true rfl) (ct_M_shadeOf j6.1.2.1 (by omega)) (fun m142 h142 => ?_)
    have j7 := sth j6 h142
    rw [if_neg (show ¬ (0 : Int) = -1 by decide), if_pos rfl]
    refine zw_i2lw ok_M_digest rfl ?_
    refine zw_ladd ok_M_digest rfl ?_
    refine zw_lstore_n ok_M_digest rfl rfl (by decide) ?_
    refine zw_ldc2 ok_M_digest rfl kc_M_298 ?_
    refine zw_lload_n ok_M_digest rfl rfl ?_
    refine zw_lmul ok_M_digest rfl ?_
    refine zw_aload_n ok_M_digest rfl rfl ?_
    refine zw_iconst ok_M_digest rfl ?_
    refine zw_Vi ok_M_digest rfl ok_M_neverOf lk_M_265 (by decide) rfl rfl (Nat.le_of_ble_eq_true rfl) (ct_M_neverOf j7.1.2.1 (sgM_I j7.1.1) (by omega)) (fun m155 h155 => ?_)
    have j8 := std j7 h155
    rw [en0]
    refine zw_i2lw ok_M_digest rfl ?_
    refine zw_ladd ok_M_digest rfl ?_
    refine zw_lstore_n ok_M_digest rfl rfl (by decide) ?_
    refine zw_ldc2 ok_M_digest rfl kc_M_298 ?_
    refine zw_lload_n ok_M_digest rfl rfl ?_
    refine zw_lmul ok_M_digest rfl ?_
    refine zw_aload_n ok_M_digest rfl rfl ?_
    refine zw_iconst ok_M_digest rfl ?_
    refine zw_Vi ok_M_digest rfl ok_M_neverOf lk_M_265 (by decide) rfl rfl (Nat.le_of_ble_eq_true rfl) (ct_M_neverOf j8.1.2.1 (sgM_I j8.1.1) (by omega)) (fun m168 h168 => ?_)
    have j9 := std j8 h168
    rw [en1]
    refine zw_i2lw ok_M_digest rfl ?_
    refine zw_ladd ok_M_digest rfl ?_
    refine zw_lstore_n ok_M_digest rfl rfl (by decide) ?_
    refine zw_ldc2 ok_M_digest rfl kc_M_298 ?_
    refine zw_lload_n ok_M_digest rfl rfl ?_
    refine zw_lmul ok_M_digest rfl ?_
    refine zw_aload_n ok_M_digest rfl rfl ?_
    refine zw_Vi ok_M_digest rfl ok_M_passNow lk_M_271 (by decide) rfl rfl (Nat.le_of_ble_eq_true rfl) (ct_M_passNow j9.1.2.1 (sgM_I j9.1.1)) (fun m180 h180 => ?_)
    have j10 := std j9 h180
    refine zw_i2lw ok_M_digest rfl ?_
    refine zw_ladd ok_M_digest rfl ?_
    refine zw_lstore_n ok_M_digest rfl rfl (by decide) ?_
    refine zw_ldc2 ok_M_digest rfl kc_M_298 ?_
    refine zw_lload_n ok_M_digest rfl rfl ?_
    refine zw_lmul ok_M_digest rfl ?_
    refine zw_aload_n ok_M_digest rfl rfl ?_
    refine zw_bipush ok_M_digest rfl (by decide) ?_
    refine zw_bipush ok_M_digest rfl (by decide) ?_
    refine zw_iconst ok_M_digest rfl ?_
    refine zw_Vi ok_M_digest rfl ok_M_seasonOf lk_M_295 (by decide) rfl rfl (Nat.le_of_ble_eq_true rfl) (ct_M_seasonOf j10.1.2.1 (by omega) (Or.inl rfl)) (fun m197 h197 => ?_)
    have j11 := std j10 h197
    rw [es]
    refine zw_i2lw ok_M_digest rfl ?_
    refine zw_ladd ok_M_digest rfl ?_
    exact zw_lret ok_M_digest rfl rfl (⟨rfl, j11.1.1, j11.2⟩)
  have md : ∀ m2, MI m2 τ → ref47 mem m2 → AW m_M_digest 31 [some (vr 48), some (vl ct), none, none] [] m2 (fun r m2 => r = some (vl (dgPl τ (dgHr τ (dgHr τ (dgHr τ (lp (fun p x => dgPer τ x p) (aP τ).toNat 0 (dg (dg ct (qFault τ 0)) (qFault τ 1))) 0) 3) 11))) ∧ MI m2 τ ∧ ref47 mem m2) := by
    intro m2 hI2 hc2
    have hI' := hI2
    obtain ⟨hT, ⟨⟨t0, t1⟩, b0, b1⟩, -⟩ := hI'
    have hP0 : 0 ≤ aP τ := (sP_r hT.1.1).1
    refine zw_ldc2 ok_M_digest rfl kc_M_298 ?_
    refine zw_lload_n ok_M_digest rfl rfl ?_
    refine zw_lmul ok_M_digest rfl ?_
    refine zw_aload_n ok_M_digest rfl rfl ?_
    refine zw_Vi ok_M_digest rfl ok_M_readsPeople lk_M_129 (by decide) rfl rfl (Nat.le_of_ble_eq_true rfl) (ct_M_readsPeople t0 hT.1.1 (fun i i0 i1 => ⟨b0 i i0 i1, hT.2.1 i i0 i1⟩)) (fun m37 h37 => ?_)
    have f1 : mfr rJ rL m2 m37 := h37.1.mono (by decide) (by decide)
    rw [q0]
    refine zw_i2lw ok_M_digest rfl ?_
    refine zw_ladd ok_M_digest rfl ?_
    refine zw_lstore_n ok_M_digest rfl rfl (by decide) ?_
    refine zw_ldc2 ok_M_digest rfl kc_M_298 ?_
    refine zw_lload_n ok_M_digest rfl rfl ?_
    refine zw_lmul ok_M_digest rfl ?_
    refine zw_aload_n ok_M_digest rfl rfl ?_
    refine zw_Vi ok_M_digest rfl ok_M_readsWalks lk_M_133 (by decide) rfl rfl (Nat.le_of_ble_eq_true rfl) (ct_M_readsWalks (n := τ 2 1) (t := τ 1) (by rw [h37.1.1 54 (by decide) (by decide)]; exact t1) hT.1.2.1 (fun i i0 i1 => ⟨by rw [h37.1.1 53 (by decide) (by decide)]; exact b1 i i0 i1, hT.2.2.1 i i0 i1⟩)) (fun m49 h49 => ?_)
    have f6 : mfr rJ rL m2 m49 := f1.tr (h49.1.mono (by decide) (by decide))
    have j6 := MI_of f6 hI2
    have r6 : MR m49 τ := ⟨j6, ⟨⟨hT, ⟨by rw [h49.1.2 7 (by decide)]; exact h37.2.1, fun p p0 p1 => by rw [h49.1.1 55 (by decide) (by decide)]; exact h37.2.2 p p0 p1⟩, h49.2.2, j6.2.2.1.1, j6.2.2.2.1⟩, ⟨j6.2.2.1.2.1, j6.2.2.2.2.1⟩, j6.2.2.2.2.2.2.1, by decide⟩, h49.2.1⟩
    rw [q1]
    refine zw_i2lw ok_M_digest rfl ?_
    refine zw_ladd ok_M_digest rfl ?_
    refine zw_lstore_n ok_M_digest rfl rfl (by decide) ?_
    refine zw_iconst ok_M_digest rfl ?_
    refine zw_istore_n ok_M_digest rfl rfl (by decide) ?_
    exact mgp_loop (m0 := mem) hc (aP τ).toNat 0 _ m49 (by omega) (by omega) ⟨r6, hc2.tr (f6.r47 (by decide))⟩ (fun m3 hJ => tl m3 _ hJ)
  refine zw_ldc2 ok_M_digest rfl kc_M_309 ?_
  refine zw_lstore_n ok_M_digest rfl rfl (by decide) ?_
  refine zw_iconst ok_M_digest rfl ?_
  refine zw_istore_n ok_M_digest rfl rfl (by decide) ?_
  exact mgc_loop (m0 := mem) 8 0 _ _ (by omega) (by omega) hI r47_rf (fun m2 hI2 hc2 => by rw [hct]; exact md m2 hI2 hc2)
end
