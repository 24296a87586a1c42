/-! ===== the reference: ends, season, count ===== -/
theorem meetS_up {can St : Int → Int} {a b : Int} {t : zS} (ha : can a ≤ 99 ∧ can b ≤ 99) (hs : 1 ≤ St a ∧ 1 ≤ St b) (h : (meetS can St a b t).2.2.2.1 = t.2.2.2.1 + 1) : zabs (t.1 (a * 8 + b)) ≤ 99 ∧ zabs (t.1 (a * 8 + b)) + 1 ≤ zabs ((meetS can St a b t).1 (a * 8 + b)) := by
  unfold meetS at h ⊢
  by_cases c : zabs (t.1 (a * 8 + b)) ≤ can (if t.1 (a * 8 + b) ≤ 0 then b else a)
  · rw [if_pos c] at h ⊢
    dsimp only at h ⊢
    rw [zupd_eq]
    by_cases s : t.1 (a * 8 + b) ≤ 0
    · rw [if_pos s] at c ⊢
      have e := zabs_1 s
      refine ⟨by omega, ?_⟩
      rw [e]
      unfold zabs
      split <;> omega
    · rw [if_neg s] at c ⊢
      have e := zabs_2 s
      refine ⟨by omega, ?_⟩
      rw [e]
      unfold zabs
      split <;> omega
  · rw [if_neg c] at h
    dsimp only at h
    omega
section
variable {mem m2 τ τ2 : zMem} {Q : Option zVal → zMem → Prop} {ol ff : Int}
theorem endT_stop {p q : Int} {t : zS} (h : mayT τ t p q = false) : ∀ k, endT τ p q k t = t
  | 0 => rfl
  | k + 1 => by unfold endT; rw [if_neg (by rw [h]; decide)]
theorem may_m {x : zM} {t : zS} {p q a b : Int} (hb : MRb mem τ) (hL : mRel (aP τ) (aK τ) (aSt τ) x t) (hp : 0 ≤ p ∧ p < aP τ) (hq : 0 ≤ q ∧ q < aP τ) (hab : (a = p ∧ b = q) ∨ (a = q ∧ b = p)) : mayM mem x.2.2.2.1 a b = mayT τ t p q := by
  have cp := (hb.2.1.2 p hp.1 hp.2).1
  have cq := (hb.2.1.2 q hq.1 hq.2).1
  have e := hL.2.2.1
  unfold mayM mayT
  rw [e]
  show _ = (((!decide (sK (τ 0) p = 2)) && !tb x.2.2.2.1 p.toNat) && ((!decide (sK (τ 0) q = 2)) && !tb x.2.2.2.1 q.toNat))
  rcases hab with ⟨rfl, rfl⟩ | ⟨rfl, rfl⟩
  · rw [cp, cq]
    by_cases k1 : sK (τ 0) a = 2 <;> by_cases k2 : sK (τ 0) b = 2 <;> cases g1 : tb x.2.2.2.1 a.toNat <;> cases g2 : tb x.2.2.2.1 b.toNat <;> simp [k1, k2]
  · rw [cp, cq]
    by_cases k1 : sK (τ 0) a = 2 <;> by_cases k2 : sK (τ 0) b = 2 <;> cases g1 : tb x.2.2.2.1 a.toNat <;> cases g2 : tb x.2.2.2.1 b.toNat <;> simp [k1, k2]
theorem me_loop {p q w a b : Int} (hb : MRb mem τ) (hC : okM mem) (hp : 0 ≤ p ∧ p < aP τ) (hq : 0 ≤ q ∧ q < aP τ) (hpq : p ≠ q) (ea : a = min p q) (eb : b = max p q) :
    ∀ (k : Nat) (n : Int) (x : zM) (t : zS), mRel (aP τ) (aK τ) (aSt τ) x t → mInv (aP τ) x → mayT τ t p q = true → 100 ≤ zabs (t.1 (a * 8 + b)) + k →
      (∀ y u, u = endT τ p q (k + 1) t → mRel (aP τ) (aK τ) (aSt τ) y u → mInv (aP τ) y → AW m_M_endsOf 55 [some (vr 48), some (vi p), some (vi q), some (vi w), none, none, some (vi (n + (u.2.2.2.1 - t.2.2.2.1)))] [] (putM mem y) Q) →
      AW m_M_endsOf 36 [some (vr 48), some (vi p), some (vi q), some (vi w), some (vi a), some (vi b), some (vi n)] [] (putM mem x) Q := by
  have hP := aP_b hb
  have eP := hb.2.1.1
  have ha : 0 ≤ a ∧ a < b ∧ b < aP τ := by omega
  have pa := sMan hb.1.1.1 ha.1 (show a < sP (τ 2 0) (τ 0) from Int.lt_trans ha.2.1 ha.2.2)
  have pb := sMan hb.1.1.1 (show 0 ≤ b by omega) (show b < sP (τ 2 0) (τ 0) from ha.2.2)
  intro k
  induction k with
  | zero =>
    intro n x t hr hi hm hk hx
    have km := ct_M_meets (h := 11) (x := x) hC ha.1 ha.2.1 (by rw [eP]; exact ha.2.2) (by rw [eP]; exact hi)
    have rl := meM_rel 11 (pRel_b hb) hP.2 ha.1 ha.2.1 ha.2.2 hi hr
    have iv := meM_inv (h := 11) hC ha.1 ha.2.1 (show b < mem 48 7 by rw [eP]; exact ha.2.2) (by rw [eP]; exact hi)
    rw [eP] at iv
    unfold endT at hx
    rw [if_pos hm, ← ea, ← eb] at hx
    generalize meM mem a b 11 x = r at km rl iv
    obtain ⟨r1, r2⟩ := r
    cases r1
    · have f := rl.2.2.2 rfl
      have f1 := f.1
      refine zw_aload_n ok_M_endsOf rfl rfl ?_
      refine zw_iload ok_M_endsOf rfl rfl ?_
      refine zw_iload ok_M_endsOf rfl rfl ?_
      refine zw_bipush ok_M_endsOf rfl (by decide) ?_
      refine zw_Vb ok_M_endsOf rfl ok_M_meets lk_M_212 (by decide) rfl rfl (Nat.le_of_ble_eq_true rfl) (km) (fun m43 h43 => ?_)
      subst h43
      refine zw_ifeq_b 55 ok_M_endsOf rfl (by decide) (fun h46 => ?_) (fun h46 => ?_)
      · refine zw_mask [true, true, true, true, false, false, true] rfl ?_
        have := hx r2 _ rfl rl.1 iv
        rw [show n + ((endT τ p q 0 (meetS (aCan τ) (aSt τ) a b t)).2.2.2.1 - t.2.2.2.1) = n by unfold endT; omega] at this
        exact this
      · cases h46
    · have f := rl.2.2.1 rfl
      have u := meetS_up (can := aCan τ) (St := aSt τ) ⟨pa.2.1.2, pb.2.1.2⟩ ⟨pa.2.2.2.1, pb.2.2.2.1⟩ f.2
      exfalso; omega
  | succ k ih =>
    intro n x t hr hi hm hk hx
    have km := ct_M_meets (h := 11) (x := x) hC ha.1 ha.2.1 (by rw [eP]; exact ha.2.2) (by rw [eP]; exact hi)
    have rl := meM_rel 11 (pRel_b hb) hP.2 ha.1 ha.2.1 ha.2.2 hi hr
    have iv := meM_inv (h := 11) hC ha.1 ha.2.1 (show b < mem 48 7 by rw [eP]; exact ha.2.2) (by rw [eP]; exact hi)
    rw [eP] at iv
    unfold endT at hx
    rw [if_pos hm, ← ea, ← eb] at hx
    generalize meM mem a b 11 x = r at km rl iv
    obtain ⟨r1, r2⟩ := r
    cases r1
    · have f := rl.2.2.2 rfl
      have f1 := f.1
      have ms : mayT τ (meetS (aCan τ) (aSt τ) a b t) p q = false := by
        unfold mayT
        have e : (a = p ∧ b = q) ∨ (a = q ∧ b = p) := by omega
        rcases e with ⟨rfl, rfl⟩ | ⟨rfl, rfl⟩ <;> rcases f.2 with g | g <;> rw [g] <;> simp
      rw [endT_stop ms] at hx
      refine zw_aload_n ok_M_endsOf rfl rfl ?_
      refine zw_iload ok_M_endsOf rfl rfl ?_
      refine zw_iload ok_M_endsOf rfl rfl ?_
      refine zw_bipush ok_M_endsOf rfl (by decide) ?_
      refine zw_Vb ok_M_endsOf rfl ok_M_meets lk_M_212 (by decide) rfl rfl (Nat.le_of_ble_eq_true rfl) (km) (fun m43 h43 => ?_)
      subst h43
      refine zw_ifeq_b 55 ok_M_endsOf rfl (by decide) (fun h46 => ?_) (fun h46 => ?_)
      · refine zw_mask [true, true, true, true, false, false, true] rfl ?_
        have := hx r2 _ rfl rl.1 iv
        rw [show n + ((meetS (aCan τ) (aSt τ) a b t).2.2.2.1 - t.2.2.2.1) = n by omega] at this
        exact this
      · cases h46
    · have f := rl.2.2.1 rfl
      have f2 := f.2
      have u := meetS_up (can := aCan τ) (St := aSt τ) ⟨pa.2.1.2, pb.2.1.2⟩ ⟨pa.2.2.2.1, pb.2.2.2.1⟩ f.2
      have ms : mayT τ (meetS (aCan τ) (aSt τ) a b t) p q = true := by
        rw [← hm]; unfold mayT; rw [f.1]
      refine zw_aload_n ok_M_endsOf rfl rfl ?_
      refine zw_iload ok_M_endsOf rfl rfl ?_
      refine zw_iload ok_M_endsOf rfl rfl ?_
      refine zw_bipush ok_M_endsOf rfl (by decide) ?_
      refine zw_Vb ok_M_endsOf rfl ok_M_meets lk_M_212 (by decide) rfl rfl (Nat.le_of_ble_eq_true rfl) (km) (fun m43 h43 => ?_)
      subst h43
      refine zw_ifeq_b 55 ok_M_endsOf rfl (by decide) (fun h46 => ?_) (fun h46 => ?_)
      · cases h46
      · refine zw_iinc ok_M_endsOf rfl rfl rfl (by decide) ?_
        refine zw_goto 36 ok_M_endsOf rfl (by decide) ?_
        refine ih (n + 1) r2 (meetS (aCan τ) (aSt τ) a b t) rl.1 iv ms (by omega) (fun y v hv h1 h2 => ?_)
        have := hx y v hv h1 h2
        rw [show n + 1 + (v.2.2.2.1 - (meetS (aCan τ) (aSt τ) a b t).2.2.2.1) = n + (v.2.2.2.1 - t.2.2.2.1) by omega]
        exact this
theorem ct_M_endsOf {p q w : Int} (h : MRv mem τ (-1) 0) (hp : 0 ≤ p ∧ p < aP τ) (hq : 0 ≤ q ∧ q < aP τ) (hpq : p ≠ q) (hw : 0 ≤ w ∧ w ≤ 1) : zCi m_M_endsOf [vr 48, vi p, vi q, vi w] mem (qEnds τ p q w) (fun m2 => ∃ x, m2 = putM mem x) := by
  refine zCt.of [some (vr 48), some (vi p), some (vi q), some (vi w), none, none, none] ok_M_endsOf (Nat.le_of_ble_eq_true rfl) rfl ?_
  have hP := aP_b h.1
  have eP := h.1.2.1.1
  have k := ct_sim (t := 11) h (by omega)
  unfold qEnds
  rw [if_pos ⟨⟨hp, hq⟩, hpq, hw⟩]
  show AW _ _ _ _ _ (fun r m2 => r = some (vi (if mayT τ (aSim τ (-1) 0 ((11 : Int) + 1).toNat) p q = true then (if w = 0 then (endT τ p q 100 (aSim τ (-1) 0 ((11 : Int) + 1).toNat)).2.2.2.1 - (aSim τ (-1) 0 ((11 : Int) + 1).toNat).2.2.2.1 else (if tb (endT τ p q 100 (aSim τ (-1) 0 ((11 : Int) + 1).toNat)).2.2.1 p.toNat = true then 0 else 1)) else -1)) ∧ ∃ x, m2 = putM mem x)
  generalize aSim τ (-1) 0 ((11 : Int) + 1).toNat = t at k ⊢
  have tl : ∀ y u n, u = endT τ p q 100 t → n = u.2.2.2.1 - t.2.2.2.1 → mRel (aP τ) (aK τ) (aSt τ) y u → mayT τ t p q = true → AW m_M_endsOf 55 [some (vr 48), some (vi p), some (vi q), some (vi w), none, none, some (vi n)] [] (putM mem y) (fun r m2 => r = some (vi (if mayT τ t p q = true then (if w = 0 then (endT τ p q 100 t).2.2.2.1 - t.2.2.2.1 else (if tb (endT τ p q 100 t).2.2.1 p.toNat = true then 0 else 1)) else -1)) ∧ ∃ x, m2 = putM mem x) := by
    intro y u n hu hn hy hm
    rw [if_pos hm, ← hu, ← hn, hy.2.2.1]
    obtain ⟨la, lb, mo, g, nn, fh, fw⟩ := y
    refine zw_iload_n ok_M_endsOf rfl rfl ?_
    refine zw_if_ne 64 ok_M_endsOf rfl (by decide) (by omega) (fun h56 => ?_) (fun h56 => ?_)
    · rw [if_neg h56]
      refine zw_aload_n ok_M_endsOf rfl rfl ?_
      refine zw_geti ok_M_endsOf rfl fl_M_182 rfl rfl ?_
      try simp only [rd_M18, rd_M19, rd_M20, rd_M21, rd_M59, rd_M60, rd_M61, rd_Mj4, rd_Mj7, rd_Mj9, rd_Mj11, rd_Mj13, rd_Mj22, rd_Mj23, rd_Mj24, rd_Mj27, rd_Mj30, rd_M_49, rd_M_50, rd_M_51, rd_M_52, rd_M_53, rd_M_54, rd_M_55, rd_M_56, rd_M_57, rd_M_58, rd_M_62, rd_M_63, rd_M_64, rd_M_65, wr_M18, wr_M19, wr_M20, wr_M21, wr_M59, wr_M60, wr_M61]
      refine zw_iload_n ok_M_endsOf rfl rfl ?_
      refine zw_Sbp ok_M_endsOf rfl ok_M_isIn lk_M_172 (by decide) rfl (Nat.le_of_ble_eq_true rfl) (ct_M_isIn (by omega)) ?_
      refine zw_ifeq_b 79 ok_M_endsOf rfl (by decide) (fun h72 => ?_) (fun h72 => ?_)
      · rw [if_neg (by rw [h72]; decide)]
        refine zw_iconst ok_M_endsOf rfl ?_
        exact zw_iret ok_M_endsOf rfl rfl (⟨rfl, _, rfl⟩)
      · rw [if_pos h72]
        refine zw_iconst ok_M_endsOf rfl ?_
        refine zw_goto 80 ok_M_endsOf rfl (by decide) ?_
        exact zw_iret ok_M_endsOf rfl rfl (⟨rfl, _, rfl⟩)
    · rw [if_pos h56]
      refine zw_iload ok_M_endsOf rfl rfl ?_
      refine zw_goto 80 ok_M_endsOf rfl (by decide) ?_
      exact zw_iret ok_M_endsOf rfl rfl (⟨rfl, _, rfl⟩)
  refine zw_aload_n ok_M_endsOf rfl rfl ?_
  refine zw_bipush ok_M_endsOf rfl (by decide) ?_
  refine zw_Vv ok_M_endsOf rfl ok_M_lives lk_M_216 (by decide) rfl rfl (Nat.le_of_ble_eq_true rfl) (k) (fun m3 h3 => ?_)
  obtain ⟨x, rfl, hL⟩ := h3
  have em := may_m (a := min p q) (b := max p q) h.1 hL.1 hp hq (by omega)
  refine zw_iload_n ok_M_endsOf rfl rfl ?_
  refine zw_iload_n ok_M_endsOf rfl rfl ?_
  refine zw_Sip ok_M_endsOf rfl ok_M_lesser lk_M_176 (by decide) rfl (Nat.le_of_ble_eq_true rfl) (ct_M_lesser (by omega)) ?_
  refine zw_istore ok_M_endsOf rfl rfl (by decide) ?_
  refine zw_iload_n ok_M_endsOf rfl rfl ?_
  refine zw_iload_n ok_M_endsOf rfl rfl ?_
  refine zw_Sip ok_M_endsOf rfl ok_M_greater lk_M_179 (by decide) rfl (Nat.le_of_ble_eq_true rfl) (ct_M_greater (by omega)) ?_
  refine zw_istore ok_M_endsOf rfl rfl (by decide) ?_
  refine zw_aload_n ok_M_endsOf rfl rfl ?_
  refine zw_iload ok_M_endsOf rfl rfl ?_
  refine zw_iload ok_M_endsOf rfl rfl ?_
  refine zw_Vbp ok_M_endsOf rfl ok_M_may lk_M_206 (by decide) rfl rfl (Nat.le_of_ble_eq_true rfl) (ct_M_may (okM_v h) (by rw [eP]; omega) (by rw [eP]; omega)) ?_
  rw [em]
  refine zw_ifne_b 33 ok_M_endsOf rfl (by decide) (fun h28 => ?_) (fun h28 => ?_)
  · refine zw_iconst ok_M_endsOf rfl ?_
    refine zw_istore ok_M_endsOf rfl rfl (by decide) ?_
    refine me_loop h.1 (okM_v h) hp hq hpq rfl rfl 99 0 x t hL.1 hL.2.2 h28 ?_ (fun y u hu h1 h2 => tl y u _ hu (by omega) h1 h28)
    have d := due_ls (pRel_b h.1) (a := min p q) (b := max p q) (by omega) (by omega) (by omega) hL.2.2 hL.1
    unfold zabs
    split <;> omega
  · rw [if_neg (by rw [h28]; decide)]
    refine zw_iconst ok_M_endsOf rfl ?_
    exact zw_iret ok_M_endsOf rfl rfl ⟨rfl, x, rfl⟩
theorem ct_M_ends {p q w : Int} (hI : MI mem τ) (hp : zR p) (hq : zR q) (hw : zR w) : zCi m_M_ends [vr 48, vi p, vi q, vi w] mem (qEnds τ p q w) (fun m2 => MR m2 τ ∧ ref47 mem m2) := by
  refine zCt.of [some (vr 48), some (vi p), some (vi q), some (vi w)] ok_M_ends (Nat.le_of_ble_eq_true rfl) rfl ?_
  by_cases hg : ((0 ≤ p ∧ p < aP τ) ∧ (0 ≤ q ∧ q < aP τ)) ∧ p ≠ q ∧ (0 ≤ w ∧ w ≤ 1)
  · refine zw_aload_n ok_M_ends rfl rfl ?_
    refine zw_Vv ok_M_ends rfl ok_M_reads lk_M_140 (by decide) rfl rfl (Nat.le_of_ble_eq_true rfl) (ct_M_reads hI) (fun m1 h1 => ?_)
    have hP := P7 h1.1
    refine zw_aload_n ok_M_ends rfl rfl ?_
    refine zw_iload_n ok_M_ends rfl rfl ?_
    refine zw_Vbp ok_M_ends rfl ok_M_isPerson lk_M_143 (by decide) rfl rfl (Nat.le_of_ble_eq_true rfl) (ct_M_isPerson hp hP.2) ?_
    first | refine zw_ifeq_d 42 ok_M_ends rfl (by decide) (fun h9 => ?_) (fun h9 => ?_) | refine zw_ifeq_b 42 ok_M_ends rfl (by decide) (fun h9 => ?_) (fun h9 => ?_) | refine zw_if_eq 42 ok_M_ends rfl (by decide) (by omega) (fun h9 => ?_) (fun h9 => ?_)
    · exact absurd ⟨hg.1.1.1, by rw [hP.1]; omega⟩ h9
    · refine zw_aload_n ok_M_ends rfl rfl ?_
      refine zw_iload_n ok_M_ends rfl rfl ?_
      refine zw_Vbp ok_M_ends rfl ok_M_isPerson lk_M_143 (by decide) rfl rfl (Nat.le_of_ble_eq_true rfl) (ct_M_isPerson hq hP.2) ?_
      first | refine zw_ifeq_d 42 ok_M_ends rfl (by decide) (fun h17 => ?_) (fun h17 => ?_) | refine zw_ifeq_b 42 ok_M_ends rfl (by decide) (fun h17 => ?_) (fun h17 => ?_) | refine zw_if_eq 42 ok_M_ends rfl (by decide) (by omega) (fun h17 => ?_) (fun h17 => ?_)
      · exact absurd ⟨hg.1.2.1, by rw [hP.1]; omega⟩ h17
      · refine zw_iload_n ok_M_ends rfl rfl ?_
        refine zw_iload_n ok_M_ends rfl rfl ?_
        refine zw_icmp_eq 42 ok_M_ends rfl (by decide) (by omega) (fun h22 => ?_) (fun h22 => ?_)
        · exact absurd h22 hg.2.1
        · refine zw_iload_n ok_M_ends rfl rfl ?_
          refine zw_Sbp ok_M_ends rfl ok_M_isTwo lk_M_98 (by decide) rfl (Nat.le_of_ble_eq_true rfl) (ct_M_isTwo (by omega)) ?_
          first | refine zw_ifeq_d 42 ok_M_ends rfl (by decide) (fun h29 => ?_) (fun h29 => ?_) | refine zw_ifeq_b 42 ok_M_ends rfl (by decide) (fun h29 => ?_) (fun h29 => ?_) | refine zw_if_eq 42 ok_M_ends rfl (by decide) (by omega) (fun h29 => ?_) (fun h29 => ?_)
          · exact absurd hg.2.2 h29
          · refine zw_aload_n ok_M_ends rfl rfl ?_
            refine zw_iload_n ok_M_ends rfl rfl ?_
            refine zw_iload_n ok_M_ends rfl rfl ?_
            refine zw_iload_n ok_M_ends rfl rfl ?_
            refine zw_Vi ok_M_ends rfl ok_M_endsOf lk_M_235 (by decide) rfl rfl (Nat.le_of_ble_eq_true rfl) (ct_M_endsOf h1.1.2.1 hg.1.1 hg.1.2 hg.2.1 hg.2.2) (fun m36 h36 => ?_)
            obtain ⟨x, rfl⟩ := h36
            refine zw_goto 44 ok_M_ends rfl (by decide) ?_
            exact zw_iret ok_M_ends rfl rfl (⟨rfl, putR h1.1, (h1.2.r47 (by decide)).tr put47⟩)
  · have e : qEnds τ p q w = -2 := by unfold qEnds; rw [if_neg hg]
    rw [e]
    refine zw_aload_n ok_M_ends rfl rfl ?_
    refine zw_Vv ok_M_ends rfl ok_M_reads lk_M_140 (by decide) rfl rfl (Nat.le_of_ble_eq_true rfl) (ct_M_reads hI) (fun m1 h1 => ?_)
    have hP := P7 h1.1
    refine zw_aload_n ok_M_ends rfl rfl ?_
    refine zw_iload_n ok_M_ends rfl rfl ?_
    refine zw_Vbp ok_M_ends rfl ok_M_isPerson lk_M_143 (by decide) rfl rfl (Nat.le_of_ble_eq_true rfl) (ct_M_isPerson hp hP.2) ?_
    first | refine zw_ifeq_d 42 ok_M_ends rfl (by decide) (fun h9 => ?_) (fun h9 => ?_) | refine zw_ifeq_b 42 ok_M_ends rfl (by decide) (fun h9 => ?_) (fun h9 => ?_) | refine zw_if_eq 42 ok_M_ends rfl (by decide) (by omega) (fun h9 => ?_) (fun h9 => ?_)
    · refine zw_bipush ok_M_ends rfl (by decide) ?_
      exact zw_iret ok_M_ends rfl rfl (⟨rfl, h1.1, h1.2.r47 (by decide)⟩)
    · refine zw_aload_n ok_M_ends rfl rfl ?_
      refine zw_iload_n ok_M_ends rfl rfl ?_
      refine zw_Vbp ok_M_ends rfl ok_M_isPerson lk_M_143 (by decide) rfl rfl (Nat.le_of_ble_eq_true rfl) (ct_M_isPerson hq hP.2) ?_
      first | refine zw_ifeq_d 42 ok_M_ends rfl (by decide) (fun h17 => ?_) (fun h17 => ?_) | refine zw_ifeq_b 42 ok_M_ends rfl (by decide) (fun h17 => ?_) (fun h17 => ?_) | refine zw_if_eq 42 ok_M_ends rfl (by decide) (by omega) (fun h17 => ?_) (fun h17 => ?_)
      · refine zw_bipush ok_M_ends rfl (by decide) ?_
        exact zw_iret ok_M_ends rfl rfl (⟨rfl, h1.1, h1.2.r47 (by decide)⟩)
      · refine zw_iload_n ok_M_ends rfl rfl ?_
        refine zw_iload_n ok_M_ends rfl rfl ?_
        refine zw_icmp_eq 42 ok_M_ends rfl (by decide) (by omega) (fun h22 => ?_) (fun h22 => ?_)
        · refine zw_bipush ok_M_ends rfl (by decide) ?_
          exact zw_iret ok_M_ends rfl rfl (⟨rfl, h1.1, h1.2.r47 (by decide)⟩)
        · refine zw_iload_n ok_M_ends rfl rfl ?_
          refine zw_Sbp ok_M_ends rfl ok_M_isTwo lk_M_98 (by decide) rfl (Nat.le_of_ble_eq_true rfl) (ct_M_isTwo (by omega)) ?_
          first | refine zw_ifeq_d 42 ok_M_ends rfl (by decide) (fun h29 => ?_) (fun h29 => ?_) | refine zw_ifeq_b 42 ok_M_ends rfl (by decide) (fun h29 => ?_) (fun h29 => ?_) | refine zw_if_eq 42 ok_M_ends rfl (by decide) (by omega) (fun h29 => ?_) (fun h29 => ?_)
          · refine zw_bipush ok_M_ends rfl (by decide) ?_
            exact zw_iret ok_M_ends rfl rfl (⟨rfl, h1.1, h1.2.r47 (by decide)⟩)
          · exact absurd ⟨⟨⟨h9.1, by rw [← hP.1]; omega⟩, ⟨h17.1, by rw [← hP.1]; omega⟩⟩, h22, h29⟩ hg
end
