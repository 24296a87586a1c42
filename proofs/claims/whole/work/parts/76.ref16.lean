/-! ===== the reference: season, count ===== -/
section
variable {mem m2 τ τ2 : zMem} {Q : Option zVal → zMem → Prop} {ol ff : Int}
theorem wr_M30 {x : zM} {v : Int} : zset (putM mem x) 48 30 v = putM (zset mem 48 30 v) x := by
  refine putM_cases (fun k hk => by rw [zset_ne hk.1, putM_ne hk, putM_ne hk, zset_ne hk.1]) ?_ rfl rfl rfl
  rw [zset_eq]
  funext q
  show zupd (mRow (mem 48) x) 30 v q = mRow (zupd (mem 48) 30 v) x q
  simp only [zupd, mRow]
  (repeat' split) <;> first | rfl | omega
theorem MRv_30 {v : Int} (h : MRv mem τ ol ff) : MRv (zset mem 48 30 v) τ ol ff := MRv_of (J := dJ) (L := dL) (mfr.setj mfr.rf (by decide)) (by decide) (by decide) h
theorem sea_loop {sd n p : Int} (hP0 : 0 < aP τ) (hn : 0 ≤ n ∧ n ≤ 99) {m0 : zMem} : ∀ (k : Nat) (i : Int) (m : zMem) (x : zM) (t : zS), 0 ≤ i → i + k = n → MRv m τ (-1) 0 → mfr dJ dL m0 m → mRel (aP τ) (aK τ) (aSt τ) x t → mInv (aP τ) x →
      (∀ m2 y, MRv m2 τ (-1) 0 → mfr dJ dL m0 m2 → mRel (aP τ) (aK τ) (aSt τ) y (tLot τ k (m 48 30) t) → mInv (aP τ) y → AW m_M_seasonOf 100 [some (vr 48), some (vi sd), some (vi n), some (vi p), none, none, none, none, none] [] (putM m2 y) Q) →
      AW m_M_seasonOf 14 [some (vr 48), some (vi sd), some (vi n), some (vi p), some (vi i), none, none, none, none] [] (putM m x) Q := by
  intro k
  induction k with
  | zero =>
    intro i m x t h0 h1 hR hf hr hi hx
    refine zw_iload ok_M_seasonOf rfl rfl ?_
    refine zw_iload_n ok_M_seasonOf rfl rfl ?_
    refine zw_icmp_ge 100 ok_M_seasonOf rfl (by decide) (by omega) (fun h17 => ?_) (fun h17 => ?_)
    · exact zw_mask [true, true, true, true, false, false, false, false, false] rfl (hx m x hR hf hr hi)
    · exfalso; omega
  | succ k ih =>
    intro i m x t h0 h1 hR hf hr hi hx
    have hP := aP_b hR.1
    have eP := hR.1.2.1.1
    unfold tLot at hx
    have v1 := Int.emod_nonneg (zushr (1103515245 * m 48 30 + 12345) 16) (show aP τ ≠ 0 by omega)
    have v2 := Int.emod_lt_of_pos (zushr (1103515245 * m 48 30 + 12345) 16) hP0
    have v3 := Int.emod_nonneg (zushr (1103515245 * (1103515245 * m 48 30 + 12345) + 12345) 16) (show aP τ ≠ 0 by omega)
    have v4 := Int.emod_lt_of_pos (zushr (1103515245 * (1103515245 * m 48 30 + 12345) + 12345) 16) hP0
    have k1 := ct_M_lot (mem := putM m x) (m := aP τ) (by omega)
    rw [show putM m x 48 30 = m 48 30 from rfl, wr_M30] at k1
    have k2 := ct_M_lot (mem := putM (zset m 48 30 (1103515245 * m 48 30 + 12345)) x) (m := aP τ) (by omega)
    rw [show putM (zset m 48 30 (1103515245 * m 48 30 + 12345)) x 48 30 = 1103515245 * m 48 30 + 12345 from rfl, wr_M30] at k2
    have hR1 : MRv (zset m 48 30 (1103515245 * m 48 30 + 12345)) τ (-1) 0 := MRv_30 hR
    have hR2 : MRv (zset (zset m 48 30 (1103515245 * m 48 30 + 12345)) 48 30 (1103515245 * (1103515245 * m 48 30 + 12345) + 12345)) τ (-1) 0 := MRv_30 hR1
    have hf2 : mfr dJ dL m0 (zset (zset m 48 30 (1103515245 * m 48 30 + 12345)) 48 30 (1103515245 * (1103515245 * m 48 30 + 12345) + 12345)) := (hf.setj (by decide)).setj (by decide)
    have e30 : (zset (zset m 48 30 (1103515245 * m 48 30 + 12345)) 48 30 (1103515245 * (1103515245 * m 48 30 + 12345) + 12345)) 48 30 = 1103515245 * (1103515245 * m 48 30 + 12345) + 12345 := by rw [zset_eq, zupd_eq]
    generalize zset (zset m 48 30 (1103515245 * m 48 30 + 12345)) 48 30 (1103515245 * (1103515245 * m 48 30 + 12345) + 12345) = m4 at k2 hR2 hf2 e30
    have e3P : (zset m 48 30 (1103515245 * m 48 30 + 12345)) 48 7 = aP τ := hR1.1.2.1.1
    generalize zset m 48 30 (1103515245 * m 48 30 + 12345) = m3 at k1 k2 hR1 e3P
    rw [← e30] at hx
    generalize zushr (1103515245 * m 48 30 + 12345) 16 % aP τ = a at v1 v2 hx k1
    rw [← e30] at k2 v3 v4
    generalize zushr (m4 48 30) 16 % aP τ = b at v3 v4 hx k2
    have eP4 := hR2.1.2.1.1
    have nx : ∀ y, mRel (aP τ) (aK τ) (aSt τ) y (if a ≠ b ∧ mayT τ t a b = true then meetS (aCan τ) (aSt τ) (min a b) (max a b) t else t) → mInv (aP τ) y → AW m_M_seasonOf 94 [some (vr 48), some (vi sd), some (vi n), some (vi p), some (vi i), some (vi a), some (vi b), some (vi (min a b)), some (vi (max a b))] [] (putM m4 y) Q := by
      intro y hy1 hy2
      refine zw_iinc ok_M_seasonOf rfl rfl rfl (by decide) ?_
      refine zw_goto 14 ok_M_seasonOf rfl (by decide) ?_
      exact zw_mask [true, true, true, true, true, false, false, false, false] rfl (ih (i + 1) m4 y _ (by omega) (by omega) hR2 hf2 hy1 hy2 hx)
    refine zw_iload ok_M_seasonOf rfl rfl ?_
    refine zw_iload_n ok_M_seasonOf rfl rfl ?_
    refine zw_icmp_ge 100 ok_M_seasonOf rfl (by decide) (by omega) (fun h17 => ?_) (fun h17 => ?_)
    · exfalso; omega
    · refine zw_aload_n ok_M_seasonOf rfl rfl ?_
      refine zw_geti ok_M_seasonOf rfl fl_M_109 rfl rfl ?_
      rw [show putM m x 48 7 = aP τ from eP]
      refine zw_if_le 100 ok_M_seasonOf rfl (by decide) (by omega) (fun h24 => ?_) (fun h24 => ?_)
      · exfalso; omega
      · refine zw_aload_n ok_M_seasonOf rfl rfl ?_
        refine zw_aload_n ok_M_seasonOf rfl rfl ?_
        refine zw_geti ok_M_seasonOf rfl fl_M_109 rfl rfl ?_
        rw [show putM m x 48 7 = aP τ from eP]
        refine zw_Vi ok_M_seasonOf rfl ok_M_lot lk_M_292 (by decide) rfl rfl (Nat.le_of_ble_eq_true rfl) (k1) (fun m32 h32 => ?_)
        subst h32
        refine zw_istore ok_M_seasonOf rfl rfl (by decide) ?_
        refine zw_aload_n ok_M_seasonOf rfl rfl ?_
        refine zw_aload_n ok_M_seasonOf rfl rfl ?_
        refine zw_geti ok_M_seasonOf rfl fl_M_109 rfl rfl ?_
        rw [show putM m3 x 48 7 = aP τ from e3P]
        refine zw_Vi ok_M_seasonOf rfl ok_M_lot lk_M_292 (by decide) rfl rfl (Nat.le_of_ble_eq_true rfl) (k2) (fun m42 h42 => ?_)
        subst h42
        refine zw_istore ok_M_seasonOf rfl rfl (by decide) ?_
        refine zw_iload ok_M_seasonOf rfl rfl ?_
        refine zw_iload ok_M_seasonOf rfl rfl ?_
        refine zw_Sip ok_M_seasonOf rfl ok_M_lesser lk_M_176 (by decide) rfl (Nat.le_of_ble_eq_true rfl) (ct_M_lesser (by omega)) ?_
        refine zw_istore ok_M_seasonOf rfl rfl (by decide) ?_
        refine zw_iload ok_M_seasonOf rfl rfl ?_
        refine zw_iload ok_M_seasonOf rfl rfl ?_
        refine zw_Sip ok_M_seasonOf rfl ok_M_greater lk_M_179 (by decide) rfl (Nat.le_of_ble_eq_true rfl) (ct_M_greater (by omega)) ?_
        refine zw_istore ok_M_seasonOf rfl rfl (by decide) ?_
        refine zw_iload ok_M_seasonOf rfl rfl ?_
        refine zw_iload ok_M_seasonOf rfl rfl ?_
        refine zw_icmp_eq 94 ok_M_seasonOf rfl (by decide) (by omega) (fun h69 => ?_) (fun h69 => ?_)
        · refine nx x ?_ hi
          rw [if_neg (fun z => z.1 (by omega))]
          exact hr
        · refine zw_aload_n ok_M_seasonOf rfl rfl ?_
          refine zw_iload ok_M_seasonOf rfl rfl ?_
          refine zw_iload ok_M_seasonOf rfl rfl ?_
          refine zw_Vbp ok_M_seasonOf rfl ok_M_may lk_M_206 (by decide) rfl rfl (Nat.le_of_ble_eq_true rfl) (ct_M_may (okM_v hR2) (by rw [eP4]; omega) (by rw [eP4]; omega)) ?_
          rw [may_m (a := min a b) (b := max a b) (p := a) (q := b) hR2.1 hr ⟨v1, v2⟩ ⟨v3, v4⟩ (by omega)]
          refine zw_ifeq_b 94 ok_M_seasonOf rfl (by decide) (fun h80 => ?_) (fun h80 => ?_)
          · refine nx x ?_ hi
            rw [if_neg (fun z => by rw [h80] at z; exact absurd z.2 (by decide))]
            exact hr
          · refine zw_aload_n ok_M_seasonOf rfl rfl ?_
            refine zw_iload ok_M_seasonOf rfl rfl ?_
            refine zw_iload ok_M_seasonOf rfl rfl ?_
            refine zw_bipush ok_M_seasonOf rfl (by decide) ?_
            refine zw_Vb ok_M_seasonOf rfl ok_M_meets lk_M_212 (by decide) rfl rfl (Nat.le_of_ble_eq_true rfl) (ct_M_meets (okM_v hR2) (by omega) (by omega) (by rw [eP4]; omega) (by rw [eP4]; exact hi)) (fun m90 h90 => ?_)
            subst h90
            refine zw_popi ok_M_seasonOf rfl ?_
            refine nx _ ?_ ?_
            · rw [if_pos ⟨by omega, h80⟩]
              exact (meM_rel 11 (pRel_b hR2.1) hP.2 (by omega) (by omega) (by omega) hi hr).1
            · have := meM_inv (h := 11) (a := min a b) (b := max a b) (okM_v hR2) (by omega) (by omega) (by rw [eP4]; omega) (by rw [eP4]; exact hi)
              rw [eP4] at this
              exact this
theorem ct_M_seasonOf {sd n p : Int} (h : MRv mem τ (-1) 0) (hn : 0 ≤ n ∧ n ≤ 99) (hp : p = -1 ∨ (0 ≤ p ∧ p < aP τ)) : zCi m_M_seasonOf [vr 48, vi sd, vi n, vi p] mem (if p = -1 then pcN (seaT τ sd n).2.2.1 else (seaT τ sd n).2.1 p) (fun m2 => mfr dJ dL mem m2) := by
  refine zCt.of [some (vr 48), some (vi sd), some (vi n), some (vi p), none, none, none, none, none] ok_M_seasonOf (Nat.le_of_ble_eq_true rfl) rfl ?_
  have hP := aP_b h.1
  have h1 : MRv (zset mem 48 30 sd) τ (-1) 0 := MRv_30 h
  have f1 : mfr dJ dL mem (zset mem 48 30 sd) := mfr.setj mfr.rf (by decide)
  have e30 : zset mem 48 30 sd 48 30 = sd := by rw [zset_eq, zupd_eq]
  have e7 : zset mem 48 30 sd 48 7 = aP τ := h1.1.2.1.1
  have k := ct_sim (t := 11) h1 (by omega)
  generalize hm1 : zset mem 48 30 sd = m1 at h1 f1 e30 e7 k
  have tl : ∀ m2 y, mfr dJ dL mem m2 → mRel (aP τ) (aK τ) (aSt τ) y (seaT τ sd n) → mInv (aP τ) y → AW m_M_seasonOf 100 [some (vr 48), some (vi sd), some (vi n), some (vi p), none, none, none, none, none] [] (putM m2 y) (fun r m2 => r = some (vi (if p = -1 then pcN (seaT τ sd n).2.2.1 else (seaT τ sd n).2.1 p)) ∧ mfr dJ dL mem m2) := by
    intro m2 y hf hr hi
    obtain ⟨la, lb, mo, g, nn, fh, fw⟩ := y
    have eg : (seaT τ sd n).2.2.1 = g := hr.2.2.1
    rw [eg]
    refine zw_iload_n ok_M_seasonOf rfl rfl ?_
    refine zw_iconst ok_M_seasonOf rfl ?_
    refine zw_icmp_ne 115 ok_M_seasonOf rfl (by decide) (by omega) (fun h102 => ?_) (fun h102 => ?_)
    · rw [if_neg h102]
      have hp2 := hp.resolve_left h102
      have el : (seaT τ sd n).2.1 p = mo p := hr.2.1 p hp2.1 hp2.2
      rw [el]
      refine zw_aload_n ok_M_seasonOf rfl rfl ?_
      refine zw_getr ok_M_seasonOf rfl fl_M_46 rfl rfl ?_
      refine zw_iload_n ok_M_seasonOf rfl rfl ?_
      refine zw_iald ok_M_seasonOf rfl rfl (by omega) ?_
      try simp only [rd_M18, rd_M19, rd_M20, rd_M21, rd_M59, rd_M60, rd_M61, rd_Mj4, rd_Mj7, rd_Mj9, rd_Mj11, rd_Mj13, rd_Mj22, rd_Mj23, rd_Mj24, rd_Mj27, rd_Mj30, rd_M_49, rd_M_50, rd_M_51, rd_M_52, rd_M_53, rd_M_54, rd_M_55, rd_M_56, rd_M_57, rd_M_58, rd_M_62, rd_M_63, rd_M_64, rd_M_65, wr_M18, wr_M19, wr_M20, wr_M21, wr_M59, wr_M60, wr_M61]
      exact zw_iret ok_M_seasonOf rfl rfl (⟨rfl, hf.tr mfr_putM⟩)
    · rw [if_pos h102]
      refine zw_aload_n ok_M_seasonOf rfl rfl ?_
      refine zw_geti ok_M_seasonOf rfl fl_M_182 rfl rfl ?_
      try simp only [rd_M18, rd_M19, rd_M20, rd_M21, rd_M59, rd_M60, rd_M61, rd_Mj4, rd_Mj7, rd_Mj9, rd_Mj11, rd_Mj13, rd_Mj22, rd_Mj23, rd_Mj24, rd_Mj27, rd_Mj30, rd_M_49, rd_M_50, rd_M_51, rd_M_52, rd_M_53, rd_M_54, rd_M_55, rd_M_56, rd_M_57, rd_M_58, rd_M_62, rd_M_63, rd_M_64, rd_M_65, wr_M18, wr_M19, wr_M20, wr_M21, wr_M59, wr_M60, wr_M61]
      refine zw_Sip ok_M_seasonOf rfl ok_M_ones lk_M_252 (by decide) rfl (Nat.le_of_ble_eq_true rfl) (ct_M_ones hi.2.2) ?_
      refine zw_goto 121 ok_M_seasonOf rfl (by decide) ?_
      exact zw_iret ok_M_seasonOf rfl rfl (⟨rfl, hf.tr mfr_putM⟩)
  by_cases h0 : aP τ = 0
  · have es : seaT τ sd n = aSim τ (-1) 0 ((11 : Int) + 1).toNat := by unfold seaT; rw [if_pos h0]
    rw [← es] at k
    refine zw_aload_n ok_M_seasonOf rfl rfl ?_
    refine zw_iload_n ok_M_seasonOf rfl rfl ?_
    refine zw_puti ok_M_seasonOf rfl fp_M_289 rfl rfl ?_
    rw [hm1]
    refine zw_aload_n ok_M_seasonOf rfl rfl ?_
    refine zw_bipush ok_M_seasonOf rfl (by decide) ?_
    refine zw_Vv ok_M_seasonOf rfl ok_M_lives lk_M_216 (by decide) rfl rfl (Nat.le_of_ble_eq_true rfl) (k) (fun m8 h8 => ?_)
    obtain ⟨x, rfl, hL⟩ := h8
    refine zw_iconst ok_M_seasonOf rfl ?_
    refine zw_istore ok_M_seasonOf rfl rfl (by decide) ?_
    refine zw_iload ok_M_seasonOf rfl rfl ?_
    refine zw_iload_n ok_M_seasonOf rfl rfl ?_
    refine zw_icmp_ge 100 ok_M_seasonOf rfl (by decide) (by omega) (fun h17 => ?_) (fun h17 => ?_)
    · exact zw_mask [true, true, true, true, false, false, false, false, false] rfl (tl m1 x f1 hL.1 hL.2.2)
    · refine zw_aload_n ok_M_seasonOf rfl rfl ?_
      refine zw_geti ok_M_seasonOf rfl fl_M_109 rfl rfl ?_
      rw [show putM m1 x 48 7 = aP τ from e7, h0]
      refine zw_if_le 100 ok_M_seasonOf rfl (by decide) (by omega) (fun h24 => ?_) (fun h24 => ?_)
      · exact zw_mask [true, true, true, true, false, false, false, false, false] rfl (tl m1 x f1 hL.1 hL.2.2)
      · exfalso; omega
  · have es : seaT τ sd n = tLot τ n.toNat sd (aSim τ (-1) 0 ((11 : Int) + 1).toNat) := by unfold seaT; rw [if_neg h0]
    generalize aSim τ (-1) 0 ((11 : Int) + 1).toNat = t at k es
    refine zw_aload_n ok_M_seasonOf rfl rfl ?_
    refine zw_iload_n ok_M_seasonOf rfl rfl ?_
    refine zw_puti ok_M_seasonOf rfl fp_M_289 rfl rfl ?_
    rw [hm1]
    refine zw_aload_n ok_M_seasonOf rfl rfl ?_
    refine zw_bipush ok_M_seasonOf rfl (by decide) ?_
    refine zw_Vv ok_M_seasonOf rfl ok_M_lives lk_M_216 (by decide) rfl rfl (Nat.le_of_ble_eq_true rfl) (k) (fun m8 h8 => ?_)
    obtain ⟨x, rfl, hL⟩ := h8
    refine zw_iconst ok_M_seasonOf rfl ?_
    refine zw_istore ok_M_seasonOf rfl rfl (by decide) ?_
    refine sea_loop (by omega) hn (m0 := mem) n.toNat 0 m1 x t (by omega) (by omega) h1 f1 hL.1 hL.2.2 (fun m2 y q1 q2 q3 q4 => tl m2 y q2 ?_ q4)
    rw [es, ← e30]
    exact q3
theorem ct_M_season {sd n p : Int} (hI : MI mem τ) (hx : zR sd) (hn : zR n) (hp : zR p) : zCi m_M_season [vr 48, vi sd, vi n, vi p] mem (qSeason τ sd n p) (fun m2 => MI m2 τ ∧ ref47 mem m2) := by
  refine zCt.of [some (vr 48), some (vi sd), some (vi n), some (vi p)] ok_M_season (Nat.le_of_ble_eq_true rfl) rfl ?_
  unfold qSeason
  by_cases hg : (1 ≤ n ∧ n ≤ 99) ∧ (p = -1 ∨ (0 ≤ p ∧ p < aP τ))
  · rw [if_pos hg]
    refine zw_aload_n ok_M_season rfl rfl ?_
    refine zw_Vv ok_M_season rfl ok_M_reads lk_M_140 (by decide) rfl rfl (Nat.le_of_ble_eq_true rfl) (ct_M_reads hI) (fun m1 h1 => ?_)
    have hP := P7 h1.1
    refine zw_iload_n ok_M_season rfl rfl ?_
    refine zw_i2l ok_M_season rfl (by omega) ?_
    refine zw_lconst1 ok_M_season rfl ?_
    refine zw_ldc2 ok_M_season rfl kc_M_149 ?_
    refine zw_Sbp ok_M_season rfl ok_M_in lk_M_70 (by decide) rfl (Nat.le_of_ble_eq_true rfl) (ct_M_in (by omega)) ?_
    first | refine zw_ifeq_d 39 ok_M_season rfl (by decide) (fun h13 => ?_) (fun h13 => ?_) | refine zw_ifeq_b 39 ok_M_season rfl (by decide) (fun h13 => ?_) (fun h13 => ?_) | refine zw_if_eq 39 ok_M_season rfl (by decide) (by omega) (fun h13 => ?_) (fun h13 => ?_)
    · exact absurd hg.1 h13
    · refine zw_iload_n ok_M_season rfl rfl ?_
      refine zw_iconst ok_M_season rfl ?_
      refine zw_icmp_eq 29 ok_M_season rfl (by decide) (by omega) (fun h18 => ?_) (fun h18 => ?_)
      · refine zw_aload_n ok_M_season rfl rfl ?_
        refine zw_iload_n ok_M_season rfl rfl ?_
        refine zw_iload_n ok_M_season rfl rfl ?_
        refine zw_iload_n ok_M_season rfl rfl ?_
        refine zw_Vi ok_M_season rfl ok_M_seasonOf lk_M_295 (by decide) rfl rfl (Nat.le_of_ble_eq_true rfl) (ct_M_seasonOf h1.1.2.1 (by omega) hg.2) (fun m33 h33 => ?_)
        refine zw_goto 41 ok_M_season rfl (by decide) ?_
        exact zw_iret ok_M_season rfl rfl (⟨rfl, (MR_of h33 h1.1).1, (h1.2.r47 (by decide)).tr (h33.r47 (by decide))⟩)
      · refine zw_aload_n ok_M_season rfl rfl ?_
        refine zw_iload_n ok_M_season rfl rfl ?_
        refine zw_Vbp ok_M_season rfl ok_M_isPerson lk_M_143 (by decide) rfl rfl (Nat.le_of_ble_eq_true rfl) (ct_M_isPerson hp hP.2) ?_
        first | refine zw_ifeq_d 39 ok_M_season rfl (by decide) (fun h26 => ?_) (fun h26 => ?_) | refine zw_ifeq_b 39 ok_M_season rfl (by decide) (fun h26 => ?_) (fun h26 => ?_) | refine zw_if_eq 39 ok_M_season rfl (by decide) (by omega) (fun h26 => ?_) (fun h26 => ?_)
        · rcases hg.2 with q | q
          · exact absurd q h18
          · exact absurd ⟨q.1, by rw [hP.1]; omega⟩ h26
        · refine zw_aload_n ok_M_season rfl rfl ?_
          refine zw_iload_n ok_M_season rfl rfl ?_
          refine zw_iload_n ok_M_season rfl rfl ?_
          refine zw_iload_n ok_M_season rfl rfl ?_
          refine zw_Vi ok_M_season rfl ok_M_seasonOf lk_M_295 (by decide) rfl rfl (Nat.le_of_ble_eq_true rfl) (ct_M_seasonOf h1.1.2.1 (by omega) hg.2) (fun m33 h33 => ?_)
          refine zw_goto 41 ok_M_season rfl (by decide) ?_
          exact zw_iret ok_M_season rfl rfl (⟨rfl, (MR_of h33 h1.1).1, (h1.2.r47 (by decide)).tr (h33.r47 (by decide))⟩)
  · rw [if_neg hg]
    refine zw_aload_n ok_M_season rfl rfl ?_
    refine zw_Vv ok_M_season rfl ok_M_reads lk_M_140 (by decide) rfl rfl (Nat.le_of_ble_eq_true rfl) (ct_M_reads hI) (fun m1 h1 => ?_)
    have hP := P7 h1.1
    refine zw_iload_n ok_M_season rfl rfl ?_
    refine zw_i2l ok_M_season rfl (by omega) ?_
    refine zw_lconst1 ok_M_season rfl ?_
    refine zw_ldc2 ok_M_season rfl kc_M_149 ?_
    refine zw_Sbp ok_M_season rfl ok_M_in lk_M_70 (by decide) rfl (Nat.le_of_ble_eq_true rfl) (ct_M_in (by omega)) ?_
    first | refine zw_ifeq_d 39 ok_M_season rfl (by decide) (fun h13 => ?_) (fun h13 => ?_) | refine zw_ifeq_b 39 ok_M_season rfl (by decide) (fun h13 => ?_) (fun h13 => ?_) | refine zw_if_eq 39 ok_M_season rfl (by decide) (by omega) (fun h13 => ?_) (fun h13 => ?_)
    · refine zw_bipush ok_M_season rfl (by decide) ?_
      exact zw_iret ok_M_season rfl rfl (⟨rfl, MIr h1.2 hI⟩)
    · refine zw_iload_n ok_M_season rfl rfl ?_
      refine zw_iconst ok_M_season rfl ?_
      refine zw_icmp_eq 29 ok_M_season rfl (by decide) (by omega) (fun h18 => ?_) (fun h18 => ?_)
      · exact absurd ⟨h13, Or.inl h18⟩ hg
      · refine zw_aload_n ok_M_season rfl rfl ?_
        refine zw_iload_n ok_M_season rfl rfl ?_
        refine zw_Vbp ok_M_season rfl ok_M_isPerson lk_M_143 (by decide) rfl rfl (Nat.le_of_ble_eq_true rfl) (ct_M_isPerson hp hP.2) ?_
        first | refine zw_ifeq_d 39 ok_M_season rfl (by decide) (fun h26 => ?_) (fun h26 => ?_) | refine zw_ifeq_b 39 ok_M_season rfl (by decide) (fun h26 => ?_) (fun h26 => ?_) | refine zw_if_eq 39 ok_M_season rfl (by decide) (by omega) (fun h26 => ?_) (fun h26 => ?_)
        · refine zw_bipush ok_M_season rfl (by decide) ?_
          exact zw_iret ok_M_season rfl rfl (⟨rfl, MIr h1.2 hI⟩)
        · exact absurd ⟨h13, Or.inr ⟨h26.1, by rw [← hP.1]; omega⟩⟩ hg
theorem ct_M_count {w : Int} (hI : MI mem τ) (hw : zR w) : zCi m_M_count [vr 48, vi w] mem (qCount τ w) (fun m2 => MR m2 τ ∧ mfr rJ rL mem m2) := by
  refine zCt.of [some (vr 48), some (vi w)] ok_M_count (Nat.le_of_ble_eq_true rfl) rfl ?_
  refine zw_aload_n ok_M_count rfl rfl ?_
  refine zw_Vv ok_M_count rfl ok_M_reads lk_M_140 (by decide) rfl rfl (Nat.le_of_ble_eq_true rfl) (ct_M_reads hI) (fun m1 h1 => ?_)
  refine zw_iload_n ok_M_count rfl rfl ?_
  have hP := P7 h1.1
  by_cases hb : 0 ≤ w ∧ w ≤ 8
  · have : w = 0 ∨ w = 1 ∨ w = 2 ∨ w = 3 ∨ w = 4 ∨ w = 5 ∨ w = 6 ∨ w = 7 ∨ w = 8 := by omega
    rcases this with rfl | rfl | rfl | rfl | rfl | rfl | rfl | rfl | rfl
    · have e : qCount τ 0 = aP τ := rfl
      rw [e]
      refine zw_tin 56 ok_M_count rfl (by decide) (by decide) rfl (by decide) ?_
      refine zw_aload_n ok_M_count rfl rfl ?_
      refine zw_geti ok_M_count rfl fl_M_109 rfl rfl ?_
      exact zw_iret ok_M_count rfl rfl (⟨by rw [hP.1], h1⟩)
    · have e : qCount τ 1 = sWn (τ 2 1) (τ 1) := rfl
      rw [e]
      refine zw_tin 61 ok_M_count rfl (by decide) (by decide) rfl (by decide) ?_
      refine zw_aload_n ok_M_count rfl rfl ?_
      refine zw_geti ok_M_count rfl fl_M_122 rfl rfl ?_
      exact zw_iret ok_M_count rfl rfl (⟨by rw [h1.1.2.2], h1⟩)
    · have e : qCount τ 2 = τ 2 0 := rfl
      rw [e]
      refine zw_tin 66 ok_M_count rfl (by decide) (by decide) rfl (by decide) ?_
      refine zw_aload_n ok_M_count rfl rfl ?_
      refine zw_getr ok_M_count rfl fl_M_25 rfl rfl ?_
      refine zw_iload_n ok_M_count rfl rfl ?_
      refine zw_iconst ok_M_count rfl ?_
      refine zw_isub ok_M_count rfl ?_
      refine zw_iald ok_M_count rfl rfl (by omega) ?_
      exact zw_iret ok_M_count rfl rfl (⟨by rw [show (2 : Int) - 2 = 0 by omega, h1.1.1.2.1.1.1], h1⟩)
    · have e : qCount τ 3 = τ 2 1 := rfl
      rw [e]
      refine zw_tin 66 ok_M_count rfl (by decide) (by decide) rfl (by decide) ?_
      refine zw_aload_n ok_M_count rfl rfl ?_
      refine zw_getr ok_M_count rfl fl_M_25 rfl rfl ?_
      refine zw_iload_n ok_M_count rfl rfl ?_
      refine zw_iconst ok_M_count rfl ?_
      refine zw_isub ok_M_count rfl ?_
      refine zw_iald ok_M_count rfl rfl (by omega) ?_
      exact zw_iret ok_M_count rfl rfl (⟨by rw [show (3 : Int) - 2 = 1 by omega, h1.1.1.2.1.1.2], h1⟩)
    · have e : qCount τ 4 = τ 2 2 := rfl
      rw [e]
      refine zw_tin 75 ok_M_count rfl (by decide) (by decide) rfl (by decide) ?_
      refine zw_aload_n ok_M_count rfl rfl ?_
      refine zw_geti ok_M_count rfl fl_M_151 rfl rfl ?_
      exact zw_iret ok_M_count rfl rfl (⟨by rw [h1.1.1.2.2.1.1], h1⟩)
    · have e : qCount τ 5 = τ 2 3 := rfl
      rw [e]
      refine zw_tin 80 ok_M_count rfl (by decide) (by decide) rfl (by decide) ?_
      refine zw_aload_n ok_M_count rfl rfl ?_
      refine zw_geti ok_M_count rfl fl_M_154 rfl rfl ?_
      exact zw_iret ok_M_count rfl rfl (⟨by rw [h1.1.1.2.2.1.2.1], h1⟩)
    · have e : qCount τ 6 = (if (1 : Int) = 0 then (aSim τ (-1) 0 ((11 : Int) + 1).toNat).2.2.1 else (aSim τ (-1) 0 ((11 : Int) + 1).toNat).2.2.2.1) := rfl
      rw [e]
      refine zw_tin 85 ok_M_count rfl (by decide) (by decide) rfl (by decide) ?_
      refine zw_aload_n ok_M_count rfl rfl ?_
      refine zw_bipush ok_M_count rfl (by decide) ?_
      refine zw_iconst ok_M_count rfl ?_
      refine zw_Vi ok_M_count rfl ok_M_behindOf lk_M_223 (by decide) rfl rfl (Nat.le_of_ble_eq_true rfl) (ct_M_behindOf h1.1.2.1 (by omega) (by omega)) (fun m89 h89 => ?_)
      obtain ⟨x, rfl⟩ := h89
      exact zw_iret ok_M_count rfl rfl (⟨rfl, putR h1.1, h1.2.tr (mfr_putM.mono (by decide) (by decide))⟩)
    · have e : qCount τ 7 = τ 2 4 := rfl
      rw [e]
      refine zw_tin 93 ok_M_count rfl (by decide) (by decide) rfl (by decide) ?_
      refine zw_aload_n ok_M_count rfl rfl ?_
      refine zw_geti ok_M_count rfl fl_M_258 rfl rfl ?_
      exact zw_iret ok_M_count rfl rfl (⟨by rw [h1.1.1.2.2.1.2.2.1], h1⟩)
    · have e : qCount τ 8 = τ 2 5 := rfl
      rw [e]
      refine zw_tin 98 ok_M_count rfl (by decide) (by decide) rfl (by decide) ?_
      refine zw_aload_n ok_M_count rfl rfl ?_
      refine zw_geti ok_M_count rfl fl_M_74 rfl rfl ?_
      exact zw_iret ok_M_count rfl rfl (⟨by rw [h1.1.1.2.2.1.2.2.2], h1⟩)
  · have e : qCount τ w = -2 := by unfold qCount; rw [if_neg (by omega), if_neg (by omega), if_neg (by omega), if_neg (by omega), if_neg (by omega), if_neg (by omega), if_neg (by omega), if_neg (by omega), if_neg (by omega)]
    rw [e]
    refine zw_tout 103 ok_M_count rfl hw (by omega) (by decide) ?_
    refine zw_bipush ok_M_count rfl (by decide) ?_
    exact zw_iret ok_M_count rfl rfl (⟨rfl, h1⟩)
end
