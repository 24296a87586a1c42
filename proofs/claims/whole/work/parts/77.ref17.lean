/-! ===== the reference: never ===== -/
section
variable {mem m2 τ τ2 : zMem} {Q : Option zVal → zMem → Prop} {ol ff : Int}
def sgM (mem τ : zMem) : Prop := mem 48 27 = τ 2 4 ∧ ∀ i, 0 ≤ i → i < τ 2 4 → mem 64 (3 * i) = τ 8 i ∧ mem 64 (3 * i + 1) = τ 9 i ∧ mem 64 (3 * i + 2) = τ 10 i
theorem sgM_I (h : MI mem τ) : sgM mem τ := ⟨h.2.2.1.2.2.1, h.2.2.2.2.2.1⟩
theorem putM_put {x y : zM} : putM (putM mem x) y = putM mem y := by
  refine putM_cases (fun k hk => by rw [putM_ne hk, putM_ne hk, putM_ne hk]) ?_ rfl rfl rfl
  show mRow (mRow (mem 48) x) y = mRow (mem 48) y
  funext q
  simp only [mRow]
  (repeat' split) <;> rfl
theorem is_stop {i : Int} (hr : zR i ∧ zR (mem 48 27)) (hx : Q (some (vi (bi false))) mem) : AW m_M_isSeen 4 [some (vr 48), some (vi 0), some (vi i)] [] mem Q := by
  refine zw_iload_n ok_M_isSeen rfl rfl ?_
  refine zw_aload_n ok_M_isSeen rfl rfl ?_
  refine zw_geti ok_M_isSeen rfl fl_M_258 rfl rfl ?_
  refine zw_icmp_ge 80 ok_M_isSeen rfl (by decide) (by omega) (fun h9 => ?_) (fun h9 => ?_)
  · refine zw_iload_n ok_M_isSeen rfl rfl ?_
    exact zw_zret ok_M_isSeen rfl rfl (by first | exact Or.inl rfl | exact Or.inr rfl | exact bi01 _) (hx)
  · refine zw_iload_n ok_M_isSeen rfl rfl ?_
    refine zw_if_eq 80 ok_M_isSeen rfl (by decide) (by omega) (fun h13 => ?_) (fun h13 => ?_)
    · refine zw_iload_n ok_M_isSeen rfl rfl ?_
      exact zw_zret ok_M_isSeen rfl rfl (by first | exact Or.inl rfl | exact Or.inr rfl | exact bi01 _) (hx)
    · exfalso; omega
theorem is_loop (h : MRv mem τ ol ff) (hS : sgM mem τ) : ∀ (k : Nat) (i : Int) (x : zM), 0 ≤ i → i + k = τ 2 4 → (∀ y r, r = snB τ ol ff k i → Q (some (vi (bi r))) (putM mem y)) → AW m_M_isSeen 4 [some (vr 48), some (vi 1), some (vi i)] [] (putM mem x) Q := by
  have b4 := h.1.1.1.2.2.2.2.1
  have hP := aP_b h.1
  have eP := h.1.2.1.1
  intro k
  induction k with
  | zero =>
    intro i x h0 h1 hx
    refine zw_iload_n ok_M_isSeen rfl rfl ?_
    refine zw_aload_n ok_M_isSeen rfl rfl ?_
    refine zw_geti ok_M_isSeen rfl fl_M_258 rfl rfl ?_
    try simp only [rd_M18, rd_M19, rd_M20, rd_M21, rd_M59, rd_M60, rd_M61, rd_Mj4, rd_Mj7, rd_Mj9, rd_Mj11, rd_Mj13, rd_Mj22, rd_Mj23, rd_Mj24, rd_Mj27, rd_Mj30, rd_M_49, rd_M_50, rd_M_51, rd_M_52, rd_M_53, rd_M_54, rd_M_55, rd_M_56, rd_M_57, rd_M_58, rd_M_62, rd_M_63, rd_M_64, rd_M_65, wr_M18, wr_M19, wr_M20, wr_M21, wr_M59, wr_M60, wr_M61]
    rw [hS.1]
    refine zw_icmp_ge 80 ok_M_isSeen rfl (by decide) (by omega) (fun h9 => ?_) (fun h9 => ?_)
    · refine zw_iload_n ok_M_isSeen rfl rfl ?_
      exact zw_zret ok_M_isSeen rfl rfl (by first | exact Or.inl rfl | exact Or.inr rfl | exact bi01 _) (hx x true rfl)
    · exfalso; omega
  | succ k ih =>
    intro i x h0 h1 hx
    have c := hS.2 i h0 (by omega)
    have b := h.1.1.2.2.2.2.2.1 i h0 (by omega)
    have hm : MRv (putM mem x) τ ol ff := MRv_of (J := dJ) (L := dL) mfr_putM (by decide) (by decide) h
    unfold snB at hx
    have st : ∀ y, ¬ snC τ ol ff i → AW m_M_isSeen 4 [some (vr 48), some (vi 0), some (vi (i + 1))] [] (putM mem y) Q := fun y hn => is_stop (by rw [show putM mem y 48 27 = τ 2 4 from hS.1]; omega) (hx y false (by rw [if_neg hn]))
    by_cases hp : τ 9 i < aP τ
    · have kl := ct_M_lowOf (p := τ 9 i) (t := τ 8 i) hm b.1 ⟨b.2.1.1, hp⟩
      have lr : 0 ≤ (aSim τ ol ff (τ 8 i + 1).toNat).2.1 (τ 9 i) ∧ (aSim τ ol ff (τ 8 i + 1).toNat).2.1 (τ 9 i) ≤ 99 := by
        have r := sim_rel (t := τ 8 i) h (by omega) x
        rw [← r.low ⟨b.2.1.1, hp⟩]
        exact r.2.2.2.1 _ b.2.1.1 hp
      refine zw_iload_n ok_M_isSeen rfl rfl ?_
      refine zw_aload_n ok_M_isSeen rfl rfl ?_
      refine zw_geti ok_M_isSeen rfl fl_M_258 rfl rfl ?_
      try simp only [rd_M18, rd_M19, rd_M20, rd_M21, rd_M59, rd_M60, rd_M61, rd_Mj4, rd_Mj7, rd_Mj9, rd_Mj11, rd_Mj13, rd_Mj22, rd_Mj23, rd_Mj24, rd_Mj27, rd_Mj30, rd_M_49, rd_M_50, rd_M_51, rd_M_52, rd_M_53, rd_M_54, rd_M_55, rd_M_56, rd_M_57, rd_M_58, rd_M_62, rd_M_63, rd_M_64, rd_M_65, wr_M18, wr_M19, wr_M20, wr_M21, wr_M59, wr_M60, wr_M61]
      rw [hS.1]
      refine zw_icmp_ge 80 ok_M_isSeen rfl (by decide) (by omega) (fun h9 => ?_) (fun h9 => ?_)
      · exfalso; omega
      · refine zw_iload_n ok_M_isSeen rfl rfl ?_
        refine zw_if_eq 80 ok_M_isSeen rfl (by decide) (by omega) (fun h13 => ?_) (fun h13 => ?_)
        · exfalso; omega
        · refine zw_aload_n ok_M_isSeen rfl rfl ?_
          refine zw_aload_n ok_M_isSeen rfl rfl ?_
          refine zw_getr ok_M_isSeen rfl fl_M_55 rfl rfl ?_
          refine zw_iconst ok_M_isSeen rfl ?_
          refine zw_iload_n ok_M_isSeen rfl rfl ?_
          refine zw_imul ok_M_isSeen rfl ?_
          refine zw_iconst ok_M_isSeen rfl ?_
          refine zw_iadd ok_M_isSeen rfl ?_
          refine zw_iald ok_M_isSeen rfl rfl (by omega) ?_
          try simp only [rd_M18, rd_M19, rd_M20, rd_M21, rd_M59, rd_M60, rd_M61, rd_Mj4, rd_Mj7, rd_Mj9, rd_Mj11, rd_Mj13, rd_Mj22, rd_Mj23, rd_Mj24, rd_Mj27, rd_Mj30, rd_M_49, rd_M_50, rd_M_51, rd_M_52, rd_M_53, rd_M_54, rd_M_55, rd_M_56, rd_M_57, rd_M_58, rd_M_62, rd_M_63, rd_M_64, rd_M_65, wr_M18, wr_M19, wr_M20, wr_M21, wr_M59, wr_M60, wr_M61]
          rw [c.2.1]
          refine zw_Vbp ok_M_isSeen rfl ok_M_isPerson lk_M_143 (by decide) rfl rfl (Nat.le_of_ble_eq_true rfl) (ct_M_isPerson (by omega) (by show 0 ≤ mem 48 7 ∧ mem 48 7 ≤ 8; rw [eP]; exact hP)) ?_
          first | refine zw_ifeq_d 72 ok_M_isSeen rfl (by decide) (fun h30 => ?_) (fun h30 => ?_) | refine zw_ifeq_b 72 ok_M_isSeen rfl (by decide) (fun h30 => ?_) (fun h30 => ?_) | refine zw_if_eq 72 ok_M_isSeen rfl (by decide) (by omega) (fun h30 => ?_) (fun h30 => ?_)
          · exfalso; exact h30 ⟨b.2.1.1, by show τ 9 i ≤ mem 48 7 - 1; rw [eP]; omega⟩
          · refine zw_aload_n ok_M_isSeen rfl rfl ?_
            refine zw_aload_n ok_M_isSeen rfl rfl ?_
            refine zw_getr ok_M_isSeen rfl fl_M_55 rfl rfl ?_
            refine zw_iconst ok_M_isSeen rfl ?_
            refine zw_iload_n ok_M_isSeen rfl rfl ?_
            refine zw_imul ok_M_isSeen rfl ?_
            refine zw_iald ok_M_isSeen rfl rfl (by omega) ?_
            try simp only [rd_M18, rd_M19, rd_M20, rd_M21, rd_M59, rd_M60, rd_M61, rd_Mj4, rd_Mj7, rd_Mj9, rd_Mj11, rd_Mj13, rd_Mj22, rd_Mj23, rd_Mj24, rd_Mj27, rd_Mj30, rd_M_49, rd_M_50, rd_M_51, rd_M_52, rd_M_53, rd_M_54, rd_M_55, rd_M_56, rd_M_57, rd_M_58, rd_M_62, rd_M_63, rd_M_64, rd_M_65, wr_M18, wr_M19, wr_M20, wr_M21, wr_M59, wr_M60, wr_M61]
            rw [c.1]
            refine zw_aload_n ok_M_isSeen rfl rfl ?_
            refine zw_getr ok_M_isSeen rfl fl_M_55 rfl rfl ?_
            refine zw_iconst ok_M_isSeen rfl ?_
            refine zw_iload_n ok_M_isSeen rfl rfl ?_
            refine zw_imul ok_M_isSeen rfl ?_
            refine zw_iconst ok_M_isSeen rfl ?_
            refine zw_iadd ok_M_isSeen rfl ?_
            refine zw_iald ok_M_isSeen rfl rfl (by omega) ?_
            try simp only [rd_M18, rd_M19, rd_M20, rd_M21, rd_M59, rd_M60, rd_M61, rd_Mj4, rd_Mj7, rd_Mj9, rd_Mj11, rd_Mj13, rd_Mj22, rd_Mj23, rd_Mj24, rd_Mj27, rd_Mj30, rd_M_49, rd_M_50, rd_M_51, rd_M_52, rd_M_53, rd_M_54, rd_M_55, rd_M_56, rd_M_57, rd_M_58, rd_M_62, rd_M_63, rd_M_64, rd_M_65, wr_M18, wr_M19, wr_M20, wr_M21, wr_M59, wr_M60, wr_M61]
            rw [c.2.1]
            refine zw_Vi ok_M_isSeen rfl ok_M_lowOf lk_M_220 (by decide) rfl rfl (Nat.le_of_ble_eq_true rfl) (kl) (fun m52 h52 => ?_)
            obtain ⟨y, rfl⟩ := h52
            rw [putM_put]
            refine zw_aload_n ok_M_isSeen rfl rfl ?_
            refine zw_getr ok_M_isSeen rfl fl_M_55 rfl rfl ?_
            refine zw_iconst ok_M_isSeen rfl ?_
            refine zw_iload_n ok_M_isSeen rfl rfl ?_
            refine zw_imul ok_M_isSeen rfl ?_
            refine zw_iconst ok_M_isSeen rfl ?_
            refine zw_iadd ok_M_isSeen rfl ?_
            refine zw_iald ok_M_isSeen rfl rfl (by omega) ?_
            try simp only [rd_M18, rd_M19, rd_M20, rd_M21, rd_M59, rd_M60, rd_M61, rd_Mj4, rd_Mj7, rd_Mj9, rd_Mj11, rd_Mj13, rd_Mj22, rd_Mj23, rd_Mj24, rd_Mj27, rd_Mj30, rd_M_49, rd_M_50, rd_M_51, rd_M_52, rd_M_53, rd_M_54, rd_M_55, rd_M_56, rd_M_57, rd_M_58, rd_M_62, rd_M_63, rd_M_64, rd_M_65, wr_M18, wr_M19, wr_M20, wr_M21, wr_M59, wr_M60, wr_M61]
            rw [c.2.2]
            refine zw_icmp_ne 72 ok_M_isSeen rfl (by decide) (by omega) (fun h65 => ?_) (fun h65 => ?_)
            · refine zw_iconst ok_M_isSeen rfl ?_
              refine zw_istore_n ok_M_isSeen rfl rfl (by decide) ?_
              refine zw_iinc ok_M_isSeen rfl rfl rfl (by decide) ?_
              refine zw_goto 4 ok_M_isSeen rfl (by decide) ?_
              exact st y (fun z => h65 z.2)
            · refine zw_iconst ok_M_isSeen rfl ?_
              refine zw_goto 73 ok_M_isSeen rfl (by decide) ?_
              refine zw_istore_n ok_M_isSeen rfl rfl (by decide) ?_
              refine zw_iinc ok_M_isSeen rfl rfl rfl (by decide) ?_
              refine zw_goto 4 ok_M_isSeen rfl (by decide) ?_
              exact ih (i + 1) y (by omega) (by omega) (fun z r hr => hx z r (by rw [hr, if_pos ⟨hp, h65⟩]))
    · refine zw_iload_n ok_M_isSeen rfl rfl ?_
      refine zw_aload_n ok_M_isSeen rfl rfl ?_
      refine zw_geti ok_M_isSeen rfl fl_M_258 rfl rfl ?_
      try simp only [rd_M18, rd_M19, rd_M20, rd_M21, rd_M59, rd_M60, rd_M61, rd_Mj4, rd_Mj7, rd_Mj9, rd_Mj11, rd_Mj13, rd_Mj22, rd_Mj23, rd_Mj24, rd_Mj27, rd_Mj30, rd_M_49, rd_M_50, rd_M_51, rd_M_52, rd_M_53, rd_M_54, rd_M_55, rd_M_56, rd_M_57, rd_M_58, rd_M_62, rd_M_63, rd_M_64, rd_M_65, wr_M18, wr_M19, wr_M20, wr_M21, wr_M59, wr_M60, wr_M61]
      rw [hS.1]
      refine zw_icmp_ge 80 ok_M_isSeen rfl (by decide) (by omega) (fun h9 => ?_) (fun h9 => ?_)
      · exfalso; omega
      · refine zw_iload_n ok_M_isSeen rfl rfl ?_
        refine zw_if_eq 80 ok_M_isSeen rfl (by decide) (by omega) (fun h13 => ?_) (fun h13 => ?_)
        · exfalso; omega
        · refine zw_aload_n ok_M_isSeen rfl rfl ?_
          refine zw_aload_n ok_M_isSeen rfl rfl ?_
          refine zw_getr ok_M_isSeen rfl fl_M_55 rfl rfl ?_
          refine zw_iconst ok_M_isSeen rfl ?_
          refine zw_iload_n ok_M_isSeen rfl rfl ?_
          refine zw_imul ok_M_isSeen rfl ?_
          refine zw_iconst ok_M_isSeen rfl ?_
          refine zw_iadd ok_M_isSeen rfl ?_
          refine zw_iald ok_M_isSeen rfl rfl (by omega) ?_
          try simp only [rd_M18, rd_M19, rd_M20, rd_M21, rd_M59, rd_M60, rd_M61, rd_Mj4, rd_Mj7, rd_Mj9, rd_Mj11, rd_Mj13, rd_Mj22, rd_Mj23, rd_Mj24, rd_Mj27, rd_Mj30, rd_M_49, rd_M_50, rd_M_51, rd_M_52, rd_M_53, rd_M_54, rd_M_55, rd_M_56, rd_M_57, rd_M_58, rd_M_62, rd_M_63, rd_M_64, rd_M_65, wr_M18, wr_M19, wr_M20, wr_M21, wr_M59, wr_M60, wr_M61]
          rw [c.2.1]
          refine zw_Vbp ok_M_isSeen rfl ok_M_isPerson lk_M_143 (by decide) rfl rfl (Nat.le_of_ble_eq_true rfl) (ct_M_isPerson (by omega) (by show 0 ≤ mem 48 7 ∧ mem 48 7 ≤ 8; rw [eP]; exact hP)) ?_
          first | refine zw_ifeq_d 72 ok_M_isSeen rfl (by decide) (fun h30 => ?_) (fun h30 => ?_) | refine zw_ifeq_b 72 ok_M_isSeen rfl (by decide) (fun h30 => ?_) (fun h30 => ?_) | refine zw_if_eq 72 ok_M_isSeen rfl (by decide) (by omega) (fun h30 => ?_) (fun h30 => ?_)
          · refine zw_iconst ok_M_isSeen rfl ?_
            refine zw_istore_n ok_M_isSeen rfl rfl (by decide) ?_
            refine zw_iinc ok_M_isSeen rfl rfl rfl (by decide) ?_
            refine zw_goto 4 ok_M_isSeen rfl (by decide) ?_
            exact st x (fun z => hp z.1)
          · exfalso; have z : τ 9 i ≤ mem 48 7 - 1 := h30.2; rw [eP] at z; omega
theorem ct_M_isSeen (h : MRv mem τ ol ff) (hS : sgM mem τ) : zCb m_M_isSeen [vr 48] mem (nvT τ ol ff) (fun m2 => ∃ x, m2 = putM mem x) := by
  refine zCt.of [some (vr 48), none, none] ok_M_isSeen (Nat.le_of_ble_eq_true rfl) rfl ?_
  have b4 := h.1.1.1.2.2.2.2.1
  have k := is_loop (Q := fun r m2 => r = some (vi (bi (nvT τ ol ff))) ∧ ∃ x, m2 = putM mem x) h hS (τ 2 4).toNat 0 (mem 59, mem 60, mem 61, mem 48 18, mem 48 19, mem 48 20, mem 48 21) (by omega) (by omega) (fun y r hr => ⟨by rw [hr]; rfl, y, rfl⟩)
  rw [putM_self] at k
  refine zw_iconst ok_M_isSeen rfl ?_
  refine zw_istore_n ok_M_isSeen rfl rfl (by decide) ?_
  refine zw_iconst ok_M_isSeen rfl ?_
  refine zw_istore_n ok_M_isSeen rfl rfl (by decide) ?_
  exact k
abbrev nJ : List Int := [22, 23, 18, 19, 20, 21, 30]
theorem nJ_18 : ∀ j : Int, 18 ≤ j → j ≤ 21 → j ∈ nJ := by
  intro j h1 h2
  have : j = 18 ∨ j = 19 ∨ j = 20 ∨ j = 21 := by omega
  rcases this with rfl | rfl | rfl | rfl <;> decide
/-- with another old bow left out, other umbrellas forgotten -/
theorem MRv_set {k v : Int} {m : zMem} (h : MRv mem τ (-1) 0) (hf : mfr nJ dL mem m) (hk : -1 ≤ k ∧ k ≤ 11) : MRv (zset (zset m 48 22 k) 48 23 v) τ k v := by
  have f2 : mfr nJ dL mem (zset (zset m 48 22 k) 48 23 v) := (hf.setj (by decide)).setj (by decide)
  refine ⟨MRb_of f2 (by decide) (by decide) h.1, ?_, ⟨rfl, rfl, ?_⟩, hk⟩
  · rw [f2.2 13 (by decide), f2.1 58 (by decide) (by decide)]; exact h.2.1
  · rw [f2.2 24 (by decide)]; exact h.2.2.1.2.2
theorem sgM_of {m : zMem} (h : sgM mem τ) (hf : mfr nJ dL mem m) : sgM m τ := by
  unfold sgM
  rw [hf.2 27 (by decide), hf.1 64 (by decide) (by decide)]
  exact h
theorem mfr_n {m : zMem} {k v : Int} {x : zM} (hf : mfr nJ dL mem m) : mfr nJ dL mem (putM (zset (zset m 48 22 k) 48 23 v) x) := mfr.putM ((hf.setj (by decide)).setj (by decide)) nJ_18 (by decide)
theorem nJ_back {m : zMem} (h : MRv mem τ (-1) 0) (hf : mfr nJ dL mem m) : mfr dJ dL mem (zset (zset m 48 22 (-1)) 48 23 0) := by
  have f2 : mfr nJ dL mem (zset (zset m 48 22 (-1)) 48 23 0) := (hf.setj (by decide)).setj (by decide)
  exact (f2.drop (by rw [h.2.2.1.1]; rfl)).drop (by rw [h.2.2.1.2.1]; rfl)
theorem zor_0 {b : Int} (hb : zR b) : zor b 0 = b := by
  unfold zor
  rw [show Int32.ofInt 0 = 0 from rfl, Int32.or_zero, zto32 hb]
theorem nev0_loop (h : MRv mem τ (-1) 0) (hS : sgM mem τ) : ∀ (k : Nat) (i b : Int) (m : zMem), 0 ≤ i → i + k = τ 2 2 → zR b → mfr nJ dL mem m → (∀ m2, mfr dJ dL mem m2 → Q (some (vi (lp (bitsS (fun k => nvT τ k 0)) k i b))) m2) → AW m_M_neverOf 4 [some (vr 48), some (vi 0), some (vi b), some (vi i)] [] m Q := by
  have b2 := h.1.1.1.2.2.1
  intro k
  induction k with
  | zero =>
    intro i b m h0 h1 hb hf hx
    have e11 : m 48 11 = τ 2 2 := by rw [hf.2 11 (by decide)]; exact h.1.2.2.2.1
    refine zw_iload_n ok_M_neverOf rfl rfl ?_
    refine zw_iload_n ok_M_neverOf rfl rfl ?_
    refine zw_if_ne 16 ok_M_neverOf rfl (by decide) (by omega) (fun h6 => ?_) (fun h6 => ?_)
    · exfalso; omega
    · refine zw_aload_n ok_M_neverOf rfl rfl ?_
      refine zw_geti ok_M_neverOf rfl fl_M_151 rfl rfl ?_
      rw [e11]
      refine zw_goto 20 ok_M_neverOf rfl (by decide) ?_
      refine zw_icmp_ge 75 ok_M_neverOf rfl (by decide) (by omega) (fun h20 => ?_) (fun h20 => ?_)
      · refine zw_aload_n ok_M_neverOf rfl rfl ?_
        refine zw_iconst ok_M_neverOf rfl ?_
        refine zw_puti ok_M_neverOf rfl fp_M_61 rfl rfl ?_
        refine zw_aload_n ok_M_neverOf rfl rfl ?_
        refine zw_iconst ok_M_neverOf rfl ?_
        refine zw_puti ok_M_neverOf rfl fp_M_169 rfl rfl ?_
        refine zw_iload_n ok_M_neverOf rfl rfl ?_
        exact zw_iret ok_M_neverOf rfl rfl (hx _ (nJ_back h hf))
      · exfalso; omega
  | succ k ih =>
    intro i b m h0 h1 hb hf hx
    have e11 : m 48 11 = τ 2 2 := by rw [hf.2 11 (by decide)]; exact h.1.2.2.2.1
    rw [lp_s] at hx
    have ks := ct_M_isSeen (mem := zset (zset m 48 22 i) 48 23 0) (MRv_set (k := i) (v := 0) h hf (by omega)) (sgM_of hS ((hf.setj (by decide)).setj (by decide)))
    have nx : ∀ b2 x, b2 = bitsS (fun k => nvT τ k 0) i b → AW m_M_neverOf 69 [some (vr 48), some (vi 0), some (vi b2), some (vi i)] [] (putM (zset (zset m 48 22 i) 48 23 0) x) Q := by
      intro b2 x hb2
      subst hb2
      have hr : zR (bitsS (fun k => nvT τ k 0) i b) := by unfold bitsS; split; exact zR_or _ _; exact hb
      refine zw_iinc ok_M_neverOf rfl rfl rfl (by decide) ?_
      refine zw_goto 4 ok_M_neverOf rfl (by decide) ?_
      exact ih (i + 1) _ _ (by omega) (by omega) hr (mfr_n hf) hx
    unfold bitsS at nx
    refine zw_iload_n ok_M_neverOf rfl rfl ?_
    refine zw_iload_n ok_M_neverOf rfl rfl ?_
    refine zw_if_ne 16 ok_M_neverOf rfl (by decide) (by omega) (fun h6 => ?_) (fun h6 => ?_)
    · exfalso; omega
    · refine zw_aload_n ok_M_neverOf rfl rfl ?_
      refine zw_geti ok_M_neverOf rfl fl_M_151 rfl rfl ?_
      rw [e11]
      refine zw_goto 20 ok_M_neverOf rfl (by decide) ?_
      refine zw_icmp_ge 75 ok_M_neverOf rfl (by decide) (by omega) (fun h20 => ?_) (fun h20 => ?_)
      · exfalso; omega
      · refine zw_aload_n ok_M_neverOf rfl rfl ?_
        refine zw_iload_n ok_M_neverOf rfl rfl ?_
        refine zw_if_ne 32 ok_M_neverOf rfl (by decide) (by omega) (fun h25 => ?_) (fun h25 => ?_)
        · exfalso; omega
        · refine zw_iload_n ok_M_neverOf rfl rfl ?_
          refine zw_goto 33 ok_M_neverOf rfl (by decide) ?_
          refine zw_puti ok_M_neverOf rfl fp_M_61 rfl rfl ?_
          refine zw_aload_n ok_M_neverOf rfl rfl ?_
          refine zw_iload_n ok_M_neverOf rfl rfl ?_
          refine zw_iconst ok_M_neverOf rfl ?_
          refine zw_icmp_ne 48 ok_M_neverOf rfl (by decide) (by omega) (fun h39 => ?_) (fun h39 => ?_)
          · refine zw_iconst ok_M_neverOf rfl ?_
            refine zw_puti ok_M_neverOf rfl fp_M_169 rfl rfl ?_
            refine zw_iload_n ok_M_neverOf rfl rfl ?_
            refine zw_aload_n ok_M_neverOf rfl rfl ?_
            refine zw_Vb ok_M_neverOf rfl ok_M_isSeen lk_M_261 (by decide) rfl rfl (Nat.le_of_ble_eq_true rfl) (ks) (fun m54 h54 => ?_)
            obtain ⟨x, rfl⟩ := h54
            refine zw_ifeq_b 66 ok_M_neverOf rfl (by decide) (fun h57 => ?_) (fun h57 => ?_)
            · refine zw_iconst ok_M_neverOf rfl ?_
              refine zw_ior ok_M_neverOf rfl ?_
              refine zw_istore_n ok_M_neverOf rfl rfl (by decide) ?_
              exact nx _ x (by rw [if_neg (fun z => by have z : nvT τ i 0 = true := z; rw [h57] at z; cases z), zor_0 hb])
            · refine zw_iconst ok_M_neverOf rfl ?_
              refine zw_iload_n ok_M_neverOf rfl rfl ?_
              refine zw_ishl ok_M_neverOf rfl ?_
              refine zw_goto 67 ok_M_neverOf rfl (by decide) ?_
              refine zw_ior ok_M_neverOf rfl ?_
              refine zw_istore_n ok_M_neverOf rfl rfl (by decide) ?_
              exact nx _ x (by rw [if_pos h57])
          · exfalso; omega
theorem nev1_loop (h : MRv mem τ (-1) 0) (hS : sgM mem τ) : ∀ (k : Nat) (i b : Int) (m : zMem), 0 ≤ i → i + k = τ 2 3 → zR b → mfr nJ dL mem m → (∀ m2, mfr dJ dL mem m2 → Q (some (vi (lp (bitsS (fun k => nvT τ (-1) (zshl 1 k))) k i b))) m2) → AW m_M_neverOf 4 [some (vr 48), some (vi 1), some (vi b), some (vi i)] [] m Q := by
  have b2 := h.1.1.1.2.2.2.1
  intro k
  induction k with
  | zero =>
    intro i b m h0 h1 hb hf hx
    have e13 : m 48 13 = τ 2 3 := by rw [hf.2 13 (by decide)]; exact h.2.1.1
    refine zw_iload_n ok_M_neverOf rfl rfl ?_
    refine zw_iload_n ok_M_neverOf rfl rfl ?_
    refine zw_if_ne 16 ok_M_neverOf rfl (by decide) (by omega) (fun h6 => ?_) (fun h6 => ?_)
    · refine zw_aload_n ok_M_neverOf rfl rfl ?_
      refine zw_geti ok_M_neverOf rfl fl_M_154 rfl rfl ?_
      rw [e13]
      refine zw_icmp_ge 75 ok_M_neverOf rfl (by decide) (by omega) (fun h20 => ?_) (fun h20 => ?_)
      · refine zw_aload_n ok_M_neverOf rfl rfl ?_
        refine zw_iconst ok_M_neverOf rfl ?_
        refine zw_puti ok_M_neverOf rfl fp_M_61 rfl rfl ?_
        refine zw_aload_n ok_M_neverOf rfl rfl ?_
        refine zw_iconst ok_M_neverOf rfl ?_
        refine zw_puti ok_M_neverOf rfl fp_M_169 rfl rfl ?_
        refine zw_iload_n ok_M_neverOf rfl rfl ?_
        exact zw_iret ok_M_neverOf rfl rfl (hx _ (nJ_back h hf))
      · exfalso; omega
    · exfalso; omega
  | succ k ih =>
    intro i b m h0 h1 hb hf hx
    have e13 : m 48 13 = τ 2 3 := by rw [hf.2 13 (by decide)]; exact h.2.1.1
    rw [lp_s] at hx
    have ks := ct_M_isSeen (mem := zset (zset m 48 22 (-1)) 48 23 (zshl 1 i)) (MRv_set (k := -1) (v := zshl 1 i) h hf (by omega)) (sgM_of hS ((hf.setj (by decide)).setj (by decide)))
    have nx : ∀ b2 x, b2 = bitsS (fun k => nvT τ (-1) (zshl 1 k)) i b → AW m_M_neverOf 69 [some (vr 48), some (vi 1), some (vi b2), some (vi i)] [] (putM (zset (zset m 48 22 (-1)) 48 23 (zshl 1 i)) x) Q := by
      intro b2 x hb2
      subst hb2
      have hr : zR (bitsS (fun k => nvT τ (-1) (zshl 1 k)) i b) := by unfold bitsS; split; exact zR_or _ _; exact hb
      refine zw_iinc ok_M_neverOf rfl rfl rfl (by decide) ?_
      refine zw_goto 4 ok_M_neverOf rfl (by decide) ?_
      exact ih (i + 1) _ _ (by omega) (by omega) hr (mfr_n hf) hx
    unfold bitsS at nx
    refine zw_iload_n ok_M_neverOf rfl rfl ?_
    refine zw_iload_n ok_M_neverOf rfl rfl ?_
    refine zw_if_ne 16 ok_M_neverOf rfl (by decide) (by omega) (fun h6 => ?_) (fun h6 => ?_)
    · refine zw_aload_n ok_M_neverOf rfl rfl ?_
      refine zw_geti ok_M_neverOf rfl fl_M_154 rfl rfl ?_
      rw [e13]
      refine zw_icmp_ge 75 ok_M_neverOf rfl (by decide) (by omega) (fun h20 => ?_) (fun h20 => ?_)
      · exfalso; omega
      · refine zw_aload_n ok_M_neverOf rfl rfl ?_
        refine zw_iload_n ok_M_neverOf rfl rfl ?_
        refine zw_if_ne 32 ok_M_neverOf rfl (by decide) (by omega) (fun h25 => ?_) (fun h25 => ?_)
        · refine zw_iconst ok_M_neverOf rfl ?_
          refine zw_puti ok_M_neverOf rfl fp_M_61 rfl rfl ?_
          refine zw_aload_n ok_M_neverOf rfl rfl ?_
          refine zw_iload_n ok_M_neverOf rfl rfl ?_
          refine zw_iconst ok_M_neverOf rfl ?_
          refine zw_icmp_ne 48 ok_M_neverOf rfl (by decide) (by omega) (fun h39 => ?_) (fun h39 => ?_)
          · exfalso; omega
          · refine zw_iconst ok_M_neverOf rfl ?_
            refine zw_iload_n ok_M_neverOf rfl rfl ?_
            refine zw_ishl ok_M_neverOf rfl ?_
            refine zw_goto 49 ok_M_neverOf rfl (by decide) ?_
            refine zw_puti ok_M_neverOf rfl fp_M_169 rfl rfl ?_
            refine zw_iload_n ok_M_neverOf rfl rfl ?_
            refine zw_aload_n ok_M_neverOf rfl rfl ?_
            refine zw_Vb ok_M_neverOf rfl ok_M_isSeen lk_M_261 (by decide) rfl rfl (Nat.le_of_ble_eq_true rfl) (ks) (fun m54 h54 => ?_)
            obtain ⟨x, rfl⟩ := h54
            refine zw_ifeq_b 66 ok_M_neverOf rfl (by decide) (fun h57 => ?_) (fun h57 => ?_)
            · refine zw_iconst ok_M_neverOf rfl ?_
              refine zw_ior ok_M_neverOf rfl ?_
              refine zw_istore_n ok_M_neverOf rfl rfl (by decide) ?_
              exact nx _ x (by rw [if_neg (fun z => by have z : nvT τ (-1) (zshl 1 i) = true := z; rw [h57] at z; cases z), zor_0 hb])
            · refine zw_iconst ok_M_neverOf rfl ?_
              refine zw_iload_n ok_M_neverOf rfl rfl ?_
              refine zw_ishl ok_M_neverOf rfl ?_
              refine zw_goto 67 ok_M_neverOf rfl (by decide) ?_
              refine zw_ior ok_M_neverOf rfl ?_
              refine zw_istore_n ok_M_neverOf rfl rfl (by decide) ?_
              exact nx _ x (by rw [if_pos h57])
        · exfalso; omega
    · exfalso; omega
theorem ct_M_neverOf {w : Int} (h : MRv mem τ (-1) 0) (hS : sgM mem τ) (hw : 0 ≤ w ∧ w ≤ 1) : zCi m_M_neverOf [vr 48, vi w] mem (if w = 0 then nevO τ else nevU τ) (fun m2 => mfr dJ dL mem m2) := by
  refine zCt.of [some (vr 48), some (vi w), none, none] ok_M_neverOf (Nat.le_of_ble_eq_true rfl) rfl ?_
  have b2 := h.1.1.1.2.2.1
  have b3 := h.1.1.1.2.2.2.1
  have : w = 0 ∨ w = 1 := by omega
  rcases this with rfl | rfl
  · rw [if_pos rfl]
    refine zw_iconst ok_M_neverOf rfl ?_
    refine zw_istore_n ok_M_neverOf rfl rfl (by decide) ?_
    refine zw_iconst ok_M_neverOf rfl ?_
    refine zw_istore_n ok_M_neverOf rfl rfl (by decide) ?_
    exact nev0_loop h hS (τ 2 2).toNat 0 0 mem (by omega) (by omega) (by omega) mfr.rf (fun m2 hm => ⟨rfl, hm⟩)
  · rw [if_neg (by decide)]
    refine zw_iconst ok_M_neverOf rfl ?_
    refine zw_istore_n ok_M_neverOf rfl rfl (by decide) ?_
    refine zw_iconst ok_M_neverOf rfl ?_
    refine zw_istore_n ok_M_neverOf rfl rfl (by decide) ?_
    exact nev1_loop h hS (τ 2 3).toNat 0 0 mem (by omega) (by omega) (by omega) mfr.rf (fun m2 hm => ⟨rfl, hm⟩)
theorem ct_M_never {w : Int} (hI : MI mem τ) (hw : zR w) : zCi m_M_never [vr 48, vi w] mem (qNever τ w) (fun m2 => MI m2 τ ∧ ref47 mem m2) := by
  refine zCt.of [some (vr 48), some (vi w)] ok_M_never (Nat.le_of_ble_eq_true rfl) rfl ?_
  unfold qNever
  by_cases hg : 0 ≤ w ∧ w ≤ 1
  · rw [if_pos hg]
    refine zw_aload_n ok_M_never rfl rfl ?_
    refine zw_Vv ok_M_never rfl ok_M_reads lk_M_140 (by decide) rfl rfl (Nat.le_of_ble_eq_true rfl) (ct_M_reads hI) (fun m1 h1 => ?_)
    refine zw_iload_n ok_M_never rfl rfl ?_
    refine zw_Sbp ok_M_never rfl ok_M_isTwo lk_M_98 (by decide) rfl (Nat.le_of_ble_eq_true rfl) (ct_M_isTwo (by omega)) ?_
    first | refine zw_ifeq_d 19 ok_M_never rfl (by decide) (fun h8 => ?_) (fun h8 => ?_) | refine zw_ifeq_b 19 ok_M_never rfl (by decide) (fun h8 => ?_) (fun h8 => ?_) | refine zw_if_eq 19 ok_M_never rfl (by decide) (by omega) (fun h8 => ?_) (fun h8 => ?_)
    · exact absurd hg h8
    · refine zw_aload_n ok_M_never rfl rfl ?_
      refine zw_iload_n ok_M_never rfl rfl ?_
      refine zw_Vi ok_M_never rfl ok_M_neverOf lk_M_265 (by decide) rfl rfl (Nat.le_of_ble_eq_true rfl) (ct_M_neverOf h1.1.2.1 (sgM_I h1.1.1) hg) (fun m13 h13 => ?_)
      refine zw_goto 21 ok_M_never rfl (by decide) ?_
      exact zw_iret ok_M_never rfl rfl (⟨rfl, (MR_of h13 h1.1).1, (h1.2.r47 (by decide)).tr (h13.r47 (by decide))⟩)
  · rw [if_neg hg]
    refine zw_aload_n ok_M_never rfl rfl ?_
    refine zw_Vv ok_M_never rfl ok_M_reads lk_M_140 (by decide) rfl rfl (Nat.le_of_ble_eq_true rfl) (ct_M_reads hI) (fun m1 h1 => ?_)
    refine zw_iload_n ok_M_never rfl rfl ?_
    refine zw_Sbp ok_M_never rfl ok_M_isTwo lk_M_98 (by decide) rfl (Nat.le_of_ble_eq_true rfl) (ct_M_isTwo (by omega)) ?_
    first | refine zw_ifeq_d 19 ok_M_never rfl (by decide) (fun h8 => ?_) (fun h8 => ?_) | refine zw_ifeq_b 19 ok_M_never rfl (by decide) (fun h8 => ?_) (fun h8 => ?_) | refine zw_if_eq 19 ok_M_never rfl (by decide) (by omega) (fun h8 => ?_) (fun h8 => ?_)
    · refine zw_bipush ok_M_never rfl (by decide) ?_
      exact zw_iret ok_M_never rfl rfl (⟨rfl, MIr h1.2 hI⟩)
    · exact absurd h8 hg
end
