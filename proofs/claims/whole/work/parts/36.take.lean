/-! ===== People.take, Walks.take, Text.append, Ledger.enter ===== -/
/-- the first p of the people in the class's cells -/
def manC (m : zMem) (t : Int → Int) (p : Int) : Prop := ∀ q, 0 ≤ q → q < p → (m 6 q = sK t q ∧ m 7 q = sCan t q) ∧ m 8 q = sLo t q ∧ m 9 q = sSt t q
/-- the people's cells as their text tells them -/
def pplC (m : zMem) (n : Int) (t : Int → Int) : Prop := (m 5 4 = sP n t ∧ m 5 5 = lp (clF t) (sP n t).toNat 0 0 ∧ m 5 6 = sFp n t) ∧ manC m t (sP n t)
/-- the state of the walk's reading: walk, hour, streets, fault -/
abbrev zWk : Type := Int × Int × (Int → Int) × Int
def wkF (t : Int → Int) (i : Int) (x : zWk) : zWk :=
  if x.2.2.2 ≠ -1 then x else if t i = 59 ∧ x.1 < 7 then (x.1 + 1, 0, x.2.2.1, -1) else if (97 ≤ t i ∧ t i ≤ 104) ∧ x.2.1 < 12 then (x.1, x.2.1 + 1, zupd x.2.2.1 (x.2.1 * 8 + x.1) (t i - 97), -1) else (x.1, x.2.1, x.2.2.1, i)
def wk0 : zWk := (0, 0, fun _ => -1, -1)
def sWk (n : Int) (t : Int → Int) : zWk := lp (wkF t) n.toNat 0 wk0
def sFw (n : Int) (t : Int → Int) : Int := (sWk n t).2.2.2
def sWn (n : Int) (t : Int → Int) : Int := if n = 0 ∨ sFw n t ≠ -1 then 0 else (sWk n t).1 + 1
def sStr (n : Int) (t : Int → Int) (h p : Int) : Int := if sFw n t ≠ -1 then -1 else (sWk n t).2.2.1 (h * 8 + p)
def wkI (i : Int) (x : zWk) : Prop := (0 ≤ x.1 ∧ x.1 ≤ 7) ∧ (0 ≤ x.2.1 ∧ x.2.1 ≤ 12) ∧ (∀ j, -1 ≤ x.2.2.1 j ∧ x.2.2.1 j ≤ 7) ∧ (-1 ≤ x.2.2.2 ∧ x.2.2.2 < i)
theorem wkF_inv {t : Int → Int} {i : Int} {x : zWk} (hi : 0 ≤ i) (h : wkI i x) : wkI (i + 1) (wkF t i x) := by
  obtain ⟨w, hr, st, f⟩ := x
  obtain ⟨h1, h2, h3, h4⟩ := h
  dsimp only at h1 h2 h3 h4
  unfold wkF
  dsimp only
  split
  · exact ⟨h1, h2, h3, by dsimp only; omega⟩
  · split
    · exact ⟨by dsimp only; omega, by dsimp only; omega, h3, by dsimp only; omega⟩
    · split
      · refine ⟨h1, by dsimp only; omega, fun j => ?_, by dsimp only; omega⟩
        dsimp only
        by_cases e : j = hr * 8 + w
        · subst e; rw [zupd_eq]; omega
        · rw [zupd_ne e]; exact h3 j
      · exact ⟨h1, h2, h3, by dsimp only; omega⟩
theorem wkF_stop {t : Int → Int} {x : zWk} (h : x.2.2.2 ≠ -1) : ∀ (k : Nat) (i : Int), lp (wkF t) k i x = x
  | 0, _ => rfl
  | k + 1, i => by
    rw [lp_s, show wkF t i x = x by unfold wkF; rw [if_pos h]]
    exact wkF_stop h k (i + 1)
theorem lp_wkI {t : Int → Int} : ∀ (k : Nat) (i : Int) (x : zWk), 0 ≤ i → wkI i x → wkI (i + k) (lp (wkF t) k i x)
  | 0, i, x, _, h => by
    show wkI (i + 0) x
    rw [Int.add_zero]
    exact h
  | k + 1, i, x, hi, h => by
    rw [lp_s]
    have := lp_wkI (t := t) k (i + 1) (wkF t i x) (by omega) (wkF_inv hi h)
    rw [show i + ((k + 1 : Nat) : Int) = i + 1 + (k : Int) by omega]
    exact this
theorem wk0_I : wkI 0 wk0 := ⟨by decide, by decide, fun _ => ⟨Int.le_refl _, (show (-1 : Int) ≤ 7 by decide)⟩, by decide⟩
theorem sWk_I {n : Int} {t : Int → Int} (hn : 0 ≤ n) : wkI n (sWk n t) := by
  have := lp_wkI (t := t) n.toNat 0 wk0 (by omega) wk0_I
  rwa [show (0 : Int) + (n.toNat : Int) = n by omega] at this
theorem sFw_r {n : Int} {t : Int → Int} (hn : 0 ≤ n) : -1 ≤ sFw n t ∧ sFw n t < n ∨ (n = 0 ∧ sFw n t = -1) := by
  have := (sWk_I (t := t) hn).2.2.2
  unfold sFw
  omega
theorem sStr_r {n : Int} {t : Int → Int} (hn : 0 ≤ n) (h p : Int) : -1 ≤ sStr n t h p ∧ sStr n t h p ≤ 7 := by
  unfold sStr
  split
  · omega
  · exact (sWk_I hn).2.2.1 _
theorem sWn_r {n : Int} {t : Int → Int} (hn : 0 ≤ n) : 0 ≤ sWn n t ∧ sWn n t ≤ 8 := by
  have := (sWk_I (t := t) hn).1
  unfold sWn
  split <;> omega
/-- the walks' cells as their text tells them -/
def wlkC (m : zMem) (n : Int) (t : Int → Int) : Prop := (m 10 1 = sWn n t ∧ m 10 2 = sFw n t) ∧ ∀ h p, 0 ≤ h → h < 12 → 0 ≤ p → p < 8 → m 11 (h * 8 + p) = sStr n t h p
def tx1 (mem : zMem) (n : Int) (t : Int → Int) : Prop := mem 3 1 = n ∧ (0 ≤ n ∧ n ≤ 71) ∧ ∀ i, 0 ≤ i → i < n → mem 4 i = t i ∧ (0 ≤ t i ∧ t i ≤ 255)
section
variable {mem : zMem} {Q : Option zVal → zMem → Prop}
theorem take_loop {n : Int} {t : Int → Int} (h : tx0 mem n t) (hP : sFp n t = -1) :
    ∀ (k : Nat) (p : Int) (m : zMem), 0 ≤ p → p + k = sP n t → (m 5 4 = p ∧ m 5 5 = lp (clF t) p.toNat 0 0 ∧ m 5 6 = sFp n t) → manC m t p → zfr [5, 6, 7, 8, 9] mem m → (∀ m2, pplC m2 n t → zfr [5, 6, 7, 8, 9] mem m2 → Q none m2) → AW m_Pe_take 37 [some (vr 5), some (vr 1), some (vi n), some (vi (5 * p))] [] m Q := by
  obtain ⟨e, hn, ht⟩ := h
  have hPe : sP n t = (n + 1) / 5 := by unfold sP; rw [if_pos hP]
  obtain ⟨hn5, -⟩ := sFp_ok hn.1 hP
  intro k
  induction k with
  | zero =>
    intro p m h0 hk hm hman hf hx
    refine zw_iload_n ok_Pe_take rfl rfl ?_
    refine zw_iconst ok_Pe_take rfl ?_
    refine zw_iadd ok_Pe_take rfl ?_
    refine zw_iload_n ok_Pe_take rfl rfl ?_
    refine zw_icmp_ge 215 ok_Pe_take rfl (by decide) (by omega) (fun h41 => ?_) (fun h41 => ?_)
    · exact zw_vret ok_Pe_take rfl rfl (hx m ⟨⟨by omega, by rw [hm.2.1, show p = sP n t by omega], hm.2.2⟩, by rw [← show p = sP n t by omega]; exact hman⟩ hf)
    · exfalso; omega
  | succ k ih =>
    intro p m h0 hk hm hman hf hx
    have m2 : m 2 = mem 2 := hf 2 (by decide)
    have t0 := ht (5 * p) (by omega) (by omega)
    have t1 := ht (5 * p + 1) (by omega) (by omega)
    have t2 := ht (5 * p + 2) (by omega) (by omega)
    have t3 := ht (5 * p + 3) (by omega) (by omega)
    have hM := sMan (n := n) (t := t) hn h0 (by omega)
    have ek : (if t (5 * p) = 112 then (1 : Int) else if t (5 * p) = 99 then 2 else 0) = sK t p := rfl
    have fin : ∀ m3 : zMem, (m3 5 4 = p ∧ m3 5 6 = sFp n t) → m3 5 5 = clF t p (m 5 5) → (m3 6 = zupd (m 6) p (sK t p) ∧ m3 7 = zupd (m 7) p (sCan t p) ∧ m3 8 = zupd (m 8) p (sLo t p) ∧ m3 9 = zupd (m 9) p (sSt t p)) → zfr [5, 6, 7, 8, 9] mem m3 → AW m_Pe_take 199 [some (vr 5), some (vr 1), some (vi n), some (vi (5 * p))] [] m3 Q := by
      intro m3 h54 h55 ha hf3
      refine zw_aload_n ok_Pe_take rfl rfl ?_
      first | refine zw_dupi ok_Pe_take rfl ?_ | refine zw_dupr ok_Pe_take rfl ?_
      refine zw_geti ok_Pe_take rfl fl_Pe_32 rfl rfl ?_
      rw [h54.1]
      refine zw_iconst ok_Pe_take rfl ?_
      refine zw_iadd ok_Pe_take rfl ?_
      refine zw_puti ok_Pe_take rfl fp_Pe_32 rfl rfl ?_
      refine zw_iinc ok_Pe_take rfl rfl rfl (by decide) ?_
      refine zw_goto 37 ok_Pe_take rfl (by decide) ?_
      rw [show 5 * p + 5 = 5 * (p + 1) by omega]
      refine ih (p + 1) _ (by omega) (by omega) ⟨?_, ?_, ?_⟩ ?_ (hf3.set (by decide)) hx
      · rw [zset_eq, zupd_eq]
      · rw [zset_eq, zupd_ne (by decide), h55, hm.2.1, show (p + 1).toNat = p.toNat + 1 by omega, lp_snoc, show (0 : Int) + (p.toNat : Int) = p by omega]
      · rw [zset_eq, zupd_ne (by decide)]; exact h54.2
      · intro q q1 q2
        rw [zset_ne (by decide), zset_ne (by decide), zset_ne (by decide), zset_ne (by decide), ha.1, ha.2.1, ha.2.2.1, ha.2.2.2]
        by_cases eq : q = p
        · subst eq
          rw [zupd_eq, zupd_eq, zupd_eq, zupd_eq]
          exact ⟨⟨rfl, rfl⟩, rfl, rfl⟩
        · rw [zupd_ne eq, zupd_ne eq, zupd_ne eq, zupd_ne eq]
          exact hman q q1 (by omega)
    have mid : ∀ m3 : zMem, (m3 5 4 = p ∧ m3 5 6 = sFp n t) → m3 5 5 = m 5 5 → (m3 6 = zupd (m 6) p (sK t p) ∧ m3 7 = zupd (m 7) p (sCan t p) ∧ m3 8 = zupd (m 8) p (sLo t p) ∧ m3 9 = zupd (m 9) p (sSt t p)) → zfr [5, 6, 7, 8, 9] mem m3 → AW m_Pe_take 171 [some (vr 5), some (vr 1), some (vi n), some (vi (5 * p))] [] m3 Q := by
      intro m3 h54 h55 ha hf3
      refine zw_aload_n ok_Pe_take rfl rfl ?_
      refine zw_getr ok_Pe_take rfl fl_Pe_9 rfl rfl ?_
      refine zw_aload_n ok_Pe_take rfl rfl ?_
      refine zw_geti ok_Pe_take rfl fl_Pe_32 rfl rfl ?_
      rw [h54.1]
      refine zw_iald ok_Pe_take rfl rfl (by omega) ?_
      rw [ha.1, zupd_eq]
      refine zw_iconst ok_Pe_take rfl ?_
      refine zw_icmp_ne 199 ok_Pe_take rfl (by decide) (by omega) (fun h181 => ?_) (fun h181 => ?_)
      · exact fin m3 h54 (by rw [h55]; unfold clF; rw [if_neg h181]) ha hf3
      · refine zw_aload_n ok_Pe_take rfl rfl ?_
        first | refine zw_dupi ok_Pe_take rfl ?_ | refine zw_dupr ok_Pe_take rfl ?_
        refine zw_geti ok_Pe_take rfl fl_Pe_35 rfl rfl ?_
        refine zw_iconst ok_Pe_take rfl ?_
        refine zw_aload_n ok_Pe_take rfl rfl ?_
        refine zw_geti ok_Pe_take rfl fl_Pe_32 rfl rfl ?_
        rw [h54.1]
        refine zw_ishl ok_Pe_take rfl ?_
        refine zw_ior ok_Pe_take rfl ?_
        refine zw_puti ok_Pe_take rfl fp_Pe_35 rfl rfl ?_
        refine fin _ ⟨?_, ?_⟩ ?_ ⟨?_, ?_, ?_, ?_⟩ (hf3.set (by decide))
        · rw [zset_eq, zupd_ne (by decide)]; exact h54.1
        · rw [zset_eq, zupd_ne (by decide)]; exact h54.2
        · rw [zset_eq, zupd_eq, h55]; unfold clF; rw [if_pos h181]
        · rw [zset_ne (by decide)]; exact ha.1
        · rw [zset_ne (by decide)]; exact ha.2.1
        · rw [zset_ne (by decide)]; exact ha.2.2.1
        · rw [zset_ne (by decide)]; exact ha.2.2.2
    refine zw_iload_n ok_Pe_take rfl rfl ?_
    refine zw_iconst ok_Pe_take rfl ?_
    refine zw_iadd ok_Pe_take rfl ?_
    refine zw_iload_n ok_Pe_take rfl rfl ?_
    refine zw_icmp_ge 215 ok_Pe_take rfl (by decide) (by omega) (fun h41 => ?_) (fun h41 => ?_)
    · exfalso; omega
    · refine zw_aload_n ok_Pe_take rfl rfl ?_
      refine zw_geti ok_Pe_take rfl fl_Pe_32 rfl rfl ?_
      try simp (decide := true) only [zset_ne, zset_eq, zupd_eq, ne_eq, not_false_eq_true, hm.1, m2, t0.1, t1.1, t2.1, t3.1]
      refine zw_bipush ok_Pe_take rfl (by decide) ?_
      refine zw_icmp_ge 215 ok_Pe_take rfl (by decide) (by omega) (fun h50 => ?_) (fun h50 => ?_)
      · exfalso; omega
      · refine zw_aload_n ok_Pe_take rfl rfl ?_
        refine zw_getr ok_Pe_take rfl fl_Pe_9 rfl rfl ?_
        refine zw_aload_n ok_Pe_take rfl rfl ?_
        refine zw_geti ok_Pe_take rfl fl_Pe_32 rfl rfl ?_
        try simp (decide := true) only [zset_ne, zset_eq, zupd_eq, ne_eq, not_false_eq_true, hm.1, m2, t0.1, t1.1, t2.1, t3.1]
        refine zw_aload_n ok_Pe_take rfl rfl ?_
        refine zw_getr ok_Pe_take rfl fl_Pe_41 rfl rfl ?_
        refine zw_iload_n ok_Pe_take rfl rfl ?_
        refine zw_iald ok_Pe_take rfl rfl (by omega) ?_
        try simp (decide := true) only [zset_ne, zset_eq, zupd_eq, ne_eq, not_false_eq_true, hm.1, m2, t0.1, t1.1, t2.1, t3.1]
        refine zw_Sip ok_Pe_take rfl ok_Pe_kindOf lk_Pe_44 (by decide) rfl (Nat.le_of_ble_eq_true rfl) (ct_Pe_kindOf t0.2) ?_
        rw [ek]
        refine zw_iast ok_Pe_take rfl rfl (by omega) ?_
        try simp (decide := true) only [zset_ne, zset_eq, zupd_eq, ne_eq, not_false_eq_true, hm.1, m2, t0.1, t1.1, t2.1, t3.1]
        refine zw_aload_n ok_Pe_take rfl rfl ?_
        refine zw_getr ok_Pe_take rfl fl_Pe_15 rfl rfl ?_
        refine zw_aload_n ok_Pe_take rfl rfl ?_
        refine zw_geti ok_Pe_take rfl fl_Pe_32 rfl rfl ?_
        try simp (decide := true) only [zset_ne, zset_eq, zupd_eq, ne_eq, not_false_eq_true, hm.1, m2, t0.1, t1.1, t2.1, t3.1]
        refine zw_bipush ok_Pe_take rfl (by decide) ?_
        refine zw_aload_n ok_Pe_take rfl rfl ?_
        refine zw_getr ok_Pe_take rfl fl_Pe_41 rfl rfl ?_
        refine zw_iload_n ok_Pe_take rfl rfl ?_
        refine zw_iconst ok_Pe_take rfl ?_
        refine zw_iadd ok_Pe_take rfl ?_
        refine zw_iald ok_Pe_take rfl rfl (by omega) ?_
        try simp (decide := true) only [zset_ne, zset_eq, zupd_eq, ne_eq, not_false_eq_true, hm.1, m2, t0.1, t1.1, t2.1, t3.1]
        refine zw_bipush ok_Pe_take rfl (by decide) ?_
        refine zw_isub ok_Pe_take rfl ?_
        refine zw_imul ok_Pe_take rfl ?_
        refine zw_aload_n ok_Pe_take rfl rfl ?_
        refine zw_getr ok_Pe_take rfl fl_Pe_41 rfl rfl ?_
        refine zw_iload_n ok_Pe_take rfl rfl ?_
        refine zw_iconst ok_Pe_take rfl ?_
        refine zw_iadd ok_Pe_take rfl ?_
        refine zw_iald ok_Pe_take rfl rfl (by omega) ?_
        try simp (decide := true) only [zset_ne, zset_eq, zupd_eq, ne_eq, not_false_eq_true, hm.1, m2, t0.1, t1.1, t2.1, t3.1]
        refine zw_iadd ok_Pe_take rfl ?_
        refine zw_bipush ok_Pe_take rfl (by decide) ?_
        refine zw_isub ok_Pe_take rfl ?_
        refine zw_iast ok_Pe_take rfl rfl (by omega) ?_
        try simp (decide := true) only [zset_ne, zset_eq, zupd_eq, ne_eq, not_false_eq_true, hm.1, m2, t0.1, t1.1, t2.1, t3.1]
        refine zw_aload_n ok_Pe_take rfl rfl ?_
        refine zw_getr ok_Pe_take rfl fl_Pe_18 rfl rfl ?_
        refine zw_aload_n ok_Pe_take rfl rfl ?_
        refine zw_geti ok_Pe_take rfl fl_Pe_32 rfl rfl ?_
        try simp (decide := true) only [zset_ne, zset_eq, zupd_eq, ne_eq, not_false_eq_true, hm.1, m2, t0.1, t1.1, t2.1, t3.1]
        refine zw_aload_n ok_Pe_take rfl rfl ?_
        refine zw_getr ok_Pe_take rfl fl_Pe_41 rfl rfl ?_
        refine zw_iload_n ok_Pe_take rfl rfl ?_
        refine zw_iconst ok_Pe_take rfl ?_
        refine zw_iadd ok_Pe_take rfl ?_
        refine zw_iald ok_Pe_take rfl rfl (by omega) ?_
        try simp (decide := true) only [zset_ne, zset_eq, zupd_eq, ne_eq, not_false_eq_true, hm.1, m2, t0.1, t1.1, t2.1, t3.1]
        refine zw_bipush ok_Pe_take rfl (by decide) ?_
        refine zw_isub ok_Pe_take rfl ?_
        refine zw_iast ok_Pe_take rfl rfl (by omega) ?_
        try simp (decide := true) only [zset_ne, zset_eq, zupd_eq, ne_eq, not_false_eq_true, hm.1, m2, t0.1, t1.1, t2.1, t3.1]
        refine zw_aload_n ok_Pe_take rfl rfl ?_
        refine zw_getr ok_Pe_take rfl fl_Pe_21 rfl rfl ?_
        refine zw_aload_n ok_Pe_take rfl rfl ?_
        refine zw_geti ok_Pe_take rfl fl_Pe_32 rfl rfl ?_
        try simp (decide := true) only [zset_ne, zset_eq, zupd_eq, ne_eq, not_false_eq_true, hm.1, m2, t0.1, t1.1, t2.1, t3.1]
        refine zw_aload_n ok_Pe_take rfl rfl ?_
        refine zw_getr ok_Pe_take rfl fl_Pe_9 rfl rfl ?_
        refine zw_aload_n ok_Pe_take rfl rfl ?_
        refine zw_geti ok_Pe_take rfl fl_Pe_32 rfl rfl ?_
        try simp (decide := true) only [zset_ne, zset_eq, zupd_eq, ne_eq, not_false_eq_true, hm.1, m2, t0.1, t1.1, t2.1, t3.1]
        refine zw_iald ok_Pe_take rfl rfl (by omega) ?_
        try simp (decide := true) only [zset_ne, zset_eq, zupd_eq, ne_eq, not_false_eq_true, hm.1, m2, t0.1, t1.1, t2.1, t3.1]
        refine zw_iconst ok_Pe_take rfl ?_
        refine zw_icmp_ne 161 ok_Pe_take rfl (by decide) (by omega) (fun h144 => ?_) (fun h144 => ?_)
        · refine zw_aload_n ok_Pe_take rfl rfl ?_
          refine zw_getr ok_Pe_take rfl fl_Pe_18 rfl rfl ?_
          refine zw_aload_n ok_Pe_take rfl rfl ?_
          refine zw_geti ok_Pe_take rfl fl_Pe_32 rfl rfl ?_
          try simp (decide := true) only [zset_ne, zset_eq, zupd_eq, ne_eq, not_false_eq_true, hm.1, m2, t0.1, t1.1, t2.1, t3.1]
          refine zw_iald ok_Pe_take rfl rfl (by omega) ?_
          try simp (decide := true) only [zset_ne, zset_eq, zupd_eq, ne_eq, not_false_eq_true, hm.1, m2, t0.1, t1.1, t2.1, t3.1]
          refine zw_iast ok_Pe_take rfl rfl (by omega) ?_
          refine mid _ ⟨?_, ?_⟩ ?_ ⟨?_, ?_, ?_, ?_⟩ ((((hf.set (by decide)).set (by decide)).set (by decide)).set (by decide))
          all_goals (simp (decide := true) only [zset_ne, zset_eq, ne_eq, not_false_eq_true] <;> first | rfl | exact hm.1 | exact hm.2.2 | (unfold sSt; rw [if_pos h144]; rfl) | (unfold sSt; rw [if_neg h144]; rfl))
        · refine zw_aload_n ok_Pe_take rfl rfl ?_
          refine zw_getr ok_Pe_take rfl fl_Pe_18 rfl rfl ?_
          refine zw_aload_n ok_Pe_take rfl rfl ?_
          refine zw_geti ok_Pe_take rfl fl_Pe_32 rfl rfl ?_
          try simp (decide := true) only [zset_ne, zset_eq, zupd_eq, ne_eq, not_false_eq_true, hm.1, m2, t0.1, t1.1, t2.1, t3.1]
          refine zw_iald ok_Pe_take rfl rfl (by omega) ?_
          try simp (decide := true) only [zset_ne, zset_eq, zupd_eq, ne_eq, not_false_eq_true, hm.1, m2, t0.1, t1.1, t2.1, t3.1]
          refine zw_iconst ok_Pe_take rfl ?_
          refine zw_iadd ok_Pe_take rfl ?_
          refine zw_goto 170 ok_Pe_take rfl (by decide) ?_
          refine zw_iast ok_Pe_take rfl rfl (by omega) ?_
          refine mid _ ⟨?_, ?_⟩ ?_ ⟨?_, ?_, ?_, ?_⟩ ((((hf.set (by decide)).set (by decide)).set (by decide)).set (by decide))
          all_goals (simp (decide := true) only [zset_ne, zset_eq, ne_eq, not_false_eq_true] <;> first | rfl | exact hm.1 | exact hm.2.2 | (unfold sSt; rw [if_pos h144]; rfl) | (unfold sSt; rw [if_neg h144]; rfl))
theorem ct_Pe_take {n : Int} {t : Int → Int} (h : tx0 mem n t) : zCv m_Pe_take [vr 5, vr 1] mem (fun m2 => pplC m2 n t ∧ zfr [5, 6, 7, 8, 9] mem m2) := by
  refine zCt.of [some (vr 5), some (vr 1), none, none] ok_Pe_take (Nat.le_of_ble_eq_true rfl) rfl ?_
  have hfr := sFp_r (t := t) h.2.1.1
  have e := h.1
  have hn := h.2.1
  have f3 : ∀ v : Int, zfr [5, 6, 7, 8, 9] mem (zset (zset (zset mem 5 6 v) 5 4 0) 5 5 0) := fun v => ((zfr.rf.set (by decide)).set (by decide)).set (by decide)
  by_cases hq : sFp n t = -1
  · refine zw_aload_n ok_Pe_take rfl rfl ?_
    refine zw_aload_n ok_Pe_take rfl rfl ?_
    refine zw_Sip ok_Pe_take rfl ok_Pe_faultOf lk_Pe_28 (by decide) rfl (Nat.le_of_ble_eq_true rfl) (ct_Pe_faultOf h) ?_
    refine zw_puti ok_Pe_take rfl fp_Pe_24 rfl rfl ?_
    try simp (decide := true) only [zset_ne, zset_eq, zupd_eq, zupd_ne, ne_eq, not_false_eq_true, e]
    refine zw_aload_n ok_Pe_take rfl rfl ?_
    refine zw_iconst ok_Pe_take rfl ?_
    refine zw_puti ok_Pe_take rfl fp_Pe_32 rfl rfl ?_
    try simp (decide := true) only [zset_ne, zset_eq, zupd_eq, zupd_ne, ne_eq, not_false_eq_true, e]
    refine zw_aload_n ok_Pe_take rfl rfl ?_
    refine zw_iconst ok_Pe_take rfl ?_
    refine zw_puti ok_Pe_take rfl fp_Pe_35 rfl rfl ?_
    try simp (decide := true) only [zset_ne, zset_eq, zupd_eq, zupd_ne, ne_eq, not_false_eq_true, e]
    refine zw_aload_n ok_Pe_take rfl rfl ?_
    refine zw_geti ok_Pe_take rfl fl_Pe_24 rfl rfl ?_
    try simp (decide := true) only [zset_ne, zset_eq, zupd_eq, zupd_ne, ne_eq, not_false_eq_true, e]
    refine zw_iconst ok_Pe_take rfl ?_
    refine zw_icmp_ne 33 ok_Pe_take rfl (by decide) (by omega) (fun h23 => ?_) (fun h23 => ?_)
    · exact absurd hq h23
    · refine zw_aload_n ok_Pe_take rfl rfl ?_
      refine zw_geti ok_Pe_take rfl fl_Pe_38 rfl rfl ?_
      try simp (decide := true) only [zset_ne, zset_eq, zupd_eq, zupd_ne, ne_eq, not_false_eq_true, e]
      refine zw_goto 34 ok_Pe_take rfl (by decide) ?_
      refine zw_istore_n ok_Pe_take rfl rfl (by decide) ?_
      refine zw_iconst ok_Pe_take rfl ?_
      refine zw_istore_n ok_Pe_take rfl rfl (by decide) ?_
      refine take_loop h hq (sP n t).toNat 0 _ (by omega) (by have := sP_r (t := t) hn; omega) ⟨rfl, rfl, rfl⟩ (fun q q1 q2 => by omega) (f3 _) (fun m2 a b => ⟨rfl, a, b⟩)
  · have hP0 : sP n t = 0 := by unfold sP; rw [if_neg hq]
    refine zw_aload_n ok_Pe_take rfl rfl ?_
    refine zw_aload_n ok_Pe_take rfl rfl ?_
    refine zw_Sip ok_Pe_take rfl ok_Pe_faultOf lk_Pe_28 (by decide) rfl (Nat.le_of_ble_eq_true rfl) (ct_Pe_faultOf h) ?_
    refine zw_puti ok_Pe_take rfl fp_Pe_24 rfl rfl ?_
    try simp (decide := true) only [zset_ne, zset_eq, zupd_eq, zupd_ne, ne_eq, not_false_eq_true, e]
    refine zw_aload_n ok_Pe_take rfl rfl ?_
    refine zw_iconst ok_Pe_take rfl ?_
    refine zw_puti ok_Pe_take rfl fp_Pe_32 rfl rfl ?_
    try simp (decide := true) only [zset_ne, zset_eq, zupd_eq, zupd_ne, ne_eq, not_false_eq_true, e]
    refine zw_aload_n ok_Pe_take rfl rfl ?_
    refine zw_iconst ok_Pe_take rfl ?_
    refine zw_puti ok_Pe_take rfl fp_Pe_35 rfl rfl ?_
    try simp (decide := true) only [zset_ne, zset_eq, zupd_eq, zupd_ne, ne_eq, not_false_eq_true, e]
    refine zw_aload_n ok_Pe_take rfl rfl ?_
    refine zw_geti ok_Pe_take rfl fl_Pe_24 rfl rfl ?_
    try simp (decide := true) only [zset_ne, zset_eq, zupd_eq, zupd_ne, ne_eq, not_false_eq_true, e]
    refine zw_iconst ok_Pe_take rfl ?_
    refine zw_icmp_ne 33 ok_Pe_take rfl (by decide) (by omega) (fun h23 => ?_) (fun h23 => ?_)
    · refine zw_iconst ok_Pe_take rfl ?_
      refine zw_istore_n ok_Pe_take rfl rfl (by decide) ?_
      refine zw_iconst ok_Pe_take rfl ?_
      refine zw_istore_n ok_Pe_take rfl rfl (by decide) ?_
      refine zw_iload_n ok_Pe_take rfl rfl ?_
      refine zw_iconst ok_Pe_take rfl ?_
      refine zw_iadd ok_Pe_take rfl ?_
      refine zw_iload_n ok_Pe_take rfl rfl ?_
      refine zw_icmp_ge 215 ok_Pe_take rfl (by decide) (by omega) (fun h41 => ?_) (fun h41 => ?_)
      · exact zw_vret ok_Pe_take rfl rfl (⟨rfl, ⟨⟨by rw [hP0]; rfl, by rw [hP0]; rfl, rfl⟩, fun q q1 q2 => by omega⟩, f3 _⟩)
      · exfalso; omega
    · exact absurd h23 hq
theorem wtake_loop {n : Int} {t : Int → Int} (h : tx1 mem n t) :
    ∀ (k : Nat) (i : Int) (x : zWk) (m : zMem), 0 ≤ i → i + k = n → wkI i x → (m 10 2 = x.2.2.2 ∧ ∀ j, 0 ≤ j → j < 96 → m 11 j = x.2.2.1 j) → zfr [10, 11] mem m → (∀ m2 : zMem, (m2 10 2 = (lp (wkF t) k i x).2.2.2 ∧ ∀ j, 0 ≤ j → j < 96 → m2 11 j = (lp (wkF t) k i x).2.2.1 j) → zfr [10, 11] mem m2 → AW m_Wa_take 119 [some (vr 10), some (vr 3), some (vi (lp (wkF t) k i x).1), none, none, none] [] m2 Q) → AW m_Wa_take 20 [some (vr 10), some (vr 3), some (vi x.1), some (vi x.2.1), some (vi i), none] [] m Q := by
  obtain ⟨e, hn, ht⟩ := h
  intro k
  induction k with
  | zero =>
    intro i x m h0 hk hI hm hf hx
    have m3 : m 3 = mem 3 := hf 3 (by decide)
    refine zw_iload ok_Wa_take rfl rfl ?_
    refine zw_aload_n ok_Wa_take rfl rfl ?_
    refine zw_geti ok_Wa_take rfl fl_Wa_25 rfl rfl ?_
    try simp only [m3, e]
    refine zw_icmp_ge 119 ok_Wa_take rfl (by decide) (by omega) (fun h26 => ?_) (fun h26 => ?_)
    · refine zw_mask [true, true, true, false, false, false] rfl ?_
      exact hx m hm hf
    · exfalso; omega
  | succ k ih =>
    intro i x m h0 hk hI hm hf hx
    have m3 : m 3 = mem 3 := hf 3 (by decide)
    have m4 : m 4 = mem 4 := hf 4 (by decide)
    have q := ht i h0 (by omega)
    have hI2 := wkF_inv (t := t) h0 hI
    obtain ⟨w, hr, st, f⟩ := x
    obtain ⟨i1, i2, i3, i4⟩ := id hI
    dsimp only at i1 i2 i3 i4 hm ⊢
    by_cases hf1 : f = -1
    · subst hf1
      rw [lp_s] at hx
      have ew : wkF t i (w, hr, st, -1) = if t i = 59 ∧ w < 7 then (w + 1, 0, st, -1) else if (97 ≤ t i ∧ t i ≤ 104) ∧ hr < 12 then (w, hr + 1, zupd st (hr * 8 + w) (t i - 97), -1) else (w, hr, st, i) := by
        unfold wkF
        rw [if_neg (by simp)]
      have flt : ¬ (t i = 59 ∧ w < 7) → ¬ ((97 ≤ t i ∧ t i ≤ 104) ∧ hr < 12) → AW m_Wa_take 107 [some (vr 10), some (vr 3), some (vi w), some (vi hr), some (vi i), none] [] m Q := by
        intro c1 c2
        rw [if_neg c1, if_neg c2] at ew
        rw [ew] at hx hI2
        refine zw_aload_n ok_Wa_take rfl rfl ?_
        refine zw_iload ok_Wa_take rfl rfl ?_
        refine zw_puti ok_Wa_take rfl fp_Wa_15 rfl rfl ?_
        refine zw_iinc ok_Wa_take rfl rfl rfl (by decide) ?_
        refine zw_goto 20 ok_Wa_take rfl (by decide) ?_
        refine ih (i + 1) (w, hr, st, i) _ (by omega) (by omega) hI2 ⟨?_, fun j q1 q2 => ?_⟩ (hf.set (by decide)) hx
        · rw [zset_eq, zupd_eq]
        · rw [zset_ne (by decide)]; exact hm.2 j q1 q2
      have let_ : ¬ (t i = 59 ∧ w < 7) → AW m_Wa_take 67 [some (vr 10), some (vr 3), some (vi w), some (vi hr), some (vi i), some (vi (t i))] [] m Q := by
        intro c1
        refine zw_iload ok_Wa_take rfl rfl ?_
        refine zw_bipush ok_Wa_take rfl (by decide) ?_
        refine zw_bipush ok_Wa_take rfl (by decide) ?_
        refine zw_Nbp ok_Wa_take rfl ok_B_within lk_Wa_33 (by decide) rfl (Nat.le_of_ble_eq_true rfl) (ct_B_within (by omega)) ?_
        first | refine zw_ifeq_d 107 ok_Wa_take rfl (by decide) (fun h76 => ?_) (fun h76 => ?_) | refine zw_ifeq_b 107 ok_Wa_take rfl (by decide) (fun h76 => ?_) (fun h76 => ?_) | refine zw_if_eq 107 ok_Wa_take rfl (by decide) (by omega) (fun h76 => ?_) (fun h76 => ?_)
        · refine zw_mask [true, true, true, true, true, false] rfl ?_
          exact flt c1 (fun z => h76 z.1)
        · refine zw_iload_n ok_Wa_take rfl rfl ?_
          refine zw_bipush ok_Wa_take rfl (by decide) ?_
          refine zw_icmp_ge 107 ok_Wa_take rfl (by decide) (by omega) (fun h82 => ?_) (fun h82 => ?_)
          · refine zw_mask [true, true, true, true, true, false] rfl ?_
            exact flt c1 (fun z => by omega)
          · refine zw_aload_n ok_Wa_take rfl rfl ?_
            refine zw_getr ok_Wa_take rfl fl_Wa_9 rfl rfl ?_
            refine zw_iload_n ok_Wa_take rfl rfl ?_
            refine zw_bipush ok_Wa_take rfl (by decide) ?_
            refine zw_imul ok_Wa_take rfl ?_
            refine zw_iload_n ok_Wa_take rfl rfl ?_
            refine zw_iadd ok_Wa_take rfl ?_
            refine zw_iload ok_Wa_take rfl rfl ?_
            refine zw_bipush ok_Wa_take rfl (by decide) ?_
            refine zw_isub ok_Wa_take rfl ?_
            refine zw_iast ok_Wa_take rfl rfl (by omega) ?_
            refine zw_iinc ok_Wa_take rfl rfl rfl (by decide) ?_
            refine zw_goto 113 ok_Wa_take rfl (by decide) ?_
            refine zw_iinc ok_Wa_take rfl rfl rfl (by decide) ?_
            refine zw_goto 20 ok_Wa_take rfl (by decide) ?_
            refine zw_mask [true, true, true, true, true, false] rfl ?_
            rw [if_neg c1, if_pos ⟨h76, by omega⟩] at ew
            rw [ew] at hx hI2
            refine ih (i + 1) (w, hr + 1, zupd st (hr * 8 + w) (t i - 97), -1) _ (by omega) (by omega) hI2 ⟨?_, fun j q1 q2 => ?_⟩ (hf.set (by decide)) hx
            · rw [zset_ne (by decide)]; exact hm.1
            · rw [zset_eq]
              dsimp only
              by_cases ej : j = hr * 8 + w
              · subst ej; rw [zupd_eq, zupd_eq]
              · rw [zupd_ne ej, zupd_ne ej]; exact hm.2 j q1 q2
      refine zw_iload ok_Wa_take rfl rfl ?_
      refine zw_aload_n ok_Wa_take rfl rfl ?_
      refine zw_geti ok_Wa_take rfl fl_Wa_25 rfl rfl ?_
      try simp only [m3, m4, e, hm.1, q.1]
      refine zw_icmp_ge 119 ok_Wa_take rfl (by decide) (by omega) (fun h26 => ?_) (fun h26 => ?_)
      · exfalso; omega
      · refine zw_aload_n ok_Wa_take rfl rfl ?_
        refine zw_geti ok_Wa_take rfl fl_Wa_15 rfl rfl ?_
        try simp only [m3, m4, e, hm.1, q.1]
        refine zw_iconst ok_Wa_take rfl ?_
        refine zw_icmp_ne 119 ok_Wa_take rfl (by decide) (by omega) (fun h34 => ?_) (fun h34 => ?_)
        · exact absurd rfl h34
        · refine zw_aload_n ok_Wa_take rfl rfl ?_
          refine zw_getr ok_Wa_take rfl fl_Wa_30 rfl rfl ?_
          refine zw_iload ok_Wa_take rfl rfl ?_
          refine zw_iald ok_Wa_take rfl rfl (by omega) ?_
          try simp only [m3, m4, e, hm.1, q.1]
          refine zw_istore ok_Wa_take rfl rfl (by decide) ?_
          refine zw_iload ok_Wa_take rfl rfl ?_
          refine zw_bipush ok_Wa_take rfl (by decide) ?_
          refine zw_icmp_ne 67 ok_Wa_take rfl (by decide) (by omega) (fun h50 => ?_) (fun h50 => ?_)
          · exact let_ (fun z => h50 z.1)
          · refine zw_iload_n ok_Wa_take rfl rfl ?_
            refine zw_bipush ok_Wa_take rfl (by decide) ?_
            refine zw_icmp_ge 67 ok_Wa_take rfl (by decide) (by omega) (fun h56 => ?_) (fun h56 => ?_)
            · exact let_ (fun z => by omega)
            · refine zw_iinc ok_Wa_take rfl rfl rfl (by decide) ?_
              refine zw_iconst ok_Wa_take rfl ?_
              refine zw_istore_n ok_Wa_take rfl rfl (by decide) ?_
              refine zw_goto 113 ok_Wa_take rfl (by decide) ?_
              refine zw_iinc ok_Wa_take rfl rfl rfl (by decide) ?_
              refine zw_goto 20 ok_Wa_take rfl (by decide) ?_
              refine zw_mask [true, true, true, true, true, false] rfl ?_
              rw [if_pos ⟨h50, by omega⟩] at ew
              rw [ew] at hx hI2
              exact ih (i + 1) (w + 1, 0, st, -1) m (by omega) (by omega) hI2 hm hf hx
    · rw [wkF_stop hf1] at hx
      refine zw_iload ok_Wa_take rfl rfl ?_
      refine zw_aload_n ok_Wa_take rfl rfl ?_
      refine zw_geti ok_Wa_take rfl fl_Wa_25 rfl rfl ?_
      try simp only [m3, m4, e, hm.1, q.1]
      refine zw_icmp_ge 119 ok_Wa_take rfl (by decide) (by omega) (fun h26 => ?_) (fun h26 => ?_)
      · exfalso; omega
      · refine zw_aload_n ok_Wa_take rfl rfl ?_
        refine zw_geti ok_Wa_take rfl fl_Wa_15 rfl rfl ?_
        try simp only [m3, m4, e, hm.1, q.1]
        refine zw_iconst ok_Wa_take rfl ?_
        refine zw_icmp_ne 119 ok_Wa_take rfl (by decide) (by omega) (fun h34 => ?_) (fun h34 => ?_)
        · refine zw_mask [true, true, true, false, false, false] rfl ?_
          exact hx m hm hf
        · exact absurd h34 hf1
theorem ct_Wa_take {n : Int} {t : Int → Int} (h : tx1 mem n t) : zCv m_Wa_take [vr 10, vr 3] mem (fun m2 => wlkC m2 n t ∧ zfr [10, 11] mem m2) := by
  refine zCt.of [some (vr 10), some (vr 3), none, none, none, none] ok_Wa_take (Nat.le_of_ble_eq_true rfl) rfl ?_
  have e := h.1
  have hn := h.2.1
  have hI := sWk_I (t := t) hn.1
  have K : ∀ m2 : zMem, (m2 10 2 = (sWk n t).2.2.2 ∧ ∀ j, 0 ≤ j → j < 96 → m2 11 j = (sWk n t).2.2.1 j) → zfr [10, 11] mem m2 → AW m_Wa_take 119 [some (vr 10), some (vr 3), some (vi (sWk n t).1), none, none, none] [] m2 (fun r m2 => r = none ∧ wlkC m2 n t ∧ zfr [10, 11] mem m2) := by
    intro m hm hf
    have m3 : m 3 = mem 3 := hf 3 (by decide)
    have i4 := hI.2.2.2
    have i1 := hI.1
    have fin : ∀ v, v = sWn n t → AW m_Wa_take 142 [some (vr 10), some (vr 3), some (vi (sWk n t).1), none, none, none] [vi v, vr 10] m (fun r m2 => r = none ∧ wlkC m2 n t ∧ zfr [10, 11] mem m2) := by
      intro v hv
      refine zw_puti ok_Wa_take rfl fp_Wa_37 rfl rfl ?_
      try simp (decide := true) only [zset_ne, zset_eq, zupd_eq, zupd_ne, ne_eq, not_false_eq_true, hm.1]
      refine zw_aload_n ok_Wa_take rfl rfl ?_
      refine zw_geti ok_Wa_take rfl fl_Wa_15 rfl rfl ?_
      try simp (decide := true) only [zset_ne, zset_eq, zupd_eq, zupd_ne, ne_eq, not_false_eq_true, hm.1]
      refine zw_iconst ok_Wa_take rfl ?_
      refine zw_icmp_eq 161 ok_Wa_take rfl (by decide) (by omega) (fun h150 => ?_) (fun h150 => ?_)
      · exact zw_vret ok_Wa_take rfl rfl ((by
first
  | exact ⟨rfl, ⟨⟨by rw [zset_eq, zupd_eq]; exact hv, by rw [zset_eq, zupd_ne (by decide)]; exact hm.1⟩, fun h p q1 q2 q3 q4 => by rw [zset_ne (by decide), hm.2 _ (by omega) (by omega)]; unfold sStr sFw; rw [if_neg (fun z => z h150)]⟩, hf.set (by decide)⟩
  | exact ⟨rfl, ⟨⟨by rw [zput_ne (by decide), zset_eq, zupd_eq]; exact hv, by rw [zput_ne (by decide), zset_eq, zupd_ne (by decide)]; exact hm.1⟩, fun h p q1 q2 q3 q4 => by rw [zput_eq]; unfold zfil; rw [if_pos (by constructor <;> omega)]; unfold sStr sFw; rw [if_pos h150]⟩, (hf.set (by decide)).put (by decide)⟩))
      · refine zw_aload_n ok_Wa_take rfl rfl ?_
        refine zw_getr ok_Wa_take rfl fl_Wa_9 rfl rfl ?_
        refine zw_iconst ok_Wa_take rfl ?_
        refine zw_Svp ok_Wa_take rfl ok_Jarr_fill_53178 lk_Wa_19 (by decide) rfl (Nat.le_of_ble_eq_true rfl) (ct_Jarr_fill_53178 rfl) ?_
        exact zw_vret ok_Wa_take rfl rfl ((by
first
  | exact ⟨rfl, ⟨⟨by rw [zset_eq, zupd_eq]; exact hv, by rw [zset_eq, zupd_ne (by decide)]; exact hm.1⟩, fun h p q1 q2 q3 q4 => by rw [zset_ne (by decide), hm.2 _ (by omega) (by omega)]; unfold sStr sFw; rw [if_neg (fun z => z h150)]⟩, hf.set (by decide)⟩
  | exact ⟨rfl, ⟨⟨by rw [zput_ne (by decide), zset_eq, zupd_eq]; exact hv, by rw [zput_ne (by decide), zset_eq, zupd_ne (by decide)]; exact hm.1⟩, fun h p q1 q2 q3 q4 => by rw [zput_eq]; unfold zfil; rw [if_pos (by constructor <;> omega)]; unfold sStr sFw; rw [if_pos h150]⟩, (hf.set (by decide)).put (by decide)⟩))
    refine zw_aload_n ok_Wa_take rfl rfl ?_
    refine zw_aload_n ok_Wa_take rfl rfl ?_
    refine zw_geti ok_Wa_take rfl fl_Wa_25 rfl rfl ?_
    try simp only [m3, e, hm.1]
    refine zw_if_eq 135 ok_Wa_take rfl (by decide) (by omega) (fun h124 => ?_) (fun h124 => ?_)
    · refine zw_iconst ok_Wa_take rfl ?_
      refine zw_goto 142 ok_Wa_take rfl (by decide) ?_
      refine fin _ ?_
      unfold sWn sFw
      first
        | rw [if_pos (Or.inl h124)]
        | rw [if_pos (Or.inr h132)]
        | rw [if_neg (fun z => z.elim h124 (fun y => y h132))]
    · refine zw_aload_n ok_Wa_take rfl rfl ?_
      refine zw_geti ok_Wa_take rfl fl_Wa_15 rfl rfl ?_
      try simp only [m3, e, hm.1]
      refine zw_iconst ok_Wa_take rfl ?_
      refine zw_icmp_eq 139 ok_Wa_take rfl (by decide) (by omega) (fun h132 => ?_) (fun h132 => ?_)
      · refine zw_iload_n ok_Wa_take rfl rfl ?_
        refine zw_iconst ok_Wa_take rfl ?_
        refine zw_iadd ok_Wa_take rfl ?_
        refine fin _ ?_
        unfold sWn sFw
        first
          | rw [if_pos (Or.inl h124)]
          | rw [if_pos (Or.inr h132)]
          | rw [if_neg (fun z => z.elim h124 (fun y => y h132))]
      · refine zw_iconst ok_Wa_take rfl ?_
        refine zw_goto 142 ok_Wa_take rfl (by decide) ?_
        refine fin _ ?_
        unfold sWn sFw
        first
          | rw [if_pos (Or.inl h124)]
          | rw [if_pos (Or.inr h132)]
          | rw [if_neg (fun z => z.elim h124 (fun y => y h132))]
  refine zw_aload_n ok_Wa_take rfl rfl ?_
  refine zw_getr ok_Wa_take rfl fl_Wa_9 rfl rfl ?_
  refine zw_iconst ok_Wa_take rfl ?_
  refine zw_Svp ok_Wa_take rfl ok_Jarr_fill_53178 lk_Wa_19 (by decide) rfl (Nat.le_of_ble_eq_true rfl) (ct_Jarr_fill_53178 rfl) ?_
  refine zw_aload_n ok_Wa_take rfl rfl ?_
  refine zw_iconst ok_Wa_take rfl ?_
  refine zw_puti ok_Wa_take rfl fp_Wa_15 rfl rfl ?_
  refine zw_iconst ok_Wa_take rfl ?_
  refine zw_istore_n ok_Wa_take rfl rfl (by decide) ?_
  refine zw_iconst ok_Wa_take rfl ?_
  refine zw_istore_n ok_Wa_take rfl rfl (by decide) ?_
  refine zw_iconst ok_Wa_take rfl ?_
  refine zw_istore ok_Wa_take rfl rfl (by decide) ?_
  refine wtake_loop h n.toNat 0 wk0 _ (by omega) (by omega) wk0_I ⟨?_, fun j q1 q2 => ?_⟩ ((zfr.rf.put (by decide)).set (by decide)) K
  · rw [zset_eq, zupd_eq]; rfl
  · rw [zset_ne (by decide), zput_eq]
    unfold zfil
    rw [if_pos (by constructor <;> omega)]
    rfl
theorem ct_Tx_append {k c : Nat} {b : Int} (hk : (k = 1 ∧ c = 39) ∨ (k = 3 ∧ c = 71)) (hs : 0 ≤ mem k 1 ∧ mem k 1 < c) : zCv m_Tx_append [vr k, vi b] mem (fun m2 => m2 = zset (zset mem (k + 1) (mem k 1) b) k 1 (mem k 1 + 1)) := by
  rcases hk with ⟨rfl, rfl⟩ | ⟨rfl, rfl⟩
  · refine zCt.of [some (vr 1), some (vi b)] ok_Tx_append (Nat.le_of_ble_eq_true rfl) rfl ?_
    refine zw_aload_n ok_Tx_append rfl rfl ?_
    refine zw_geti ok_Tx_append rfl fl_Tx_19 rfl rfl ?_
    try simp (decide := true) only [zset_ne, ne_eq, not_false_eq_true]
    refine zw_aload_n ok_Tx_append rfl rfl ?_
    refine zw_getr ok_Tx_append rfl fl_Tx_13 rfl rfl ?_
    refine zw_alen ok_Tx_append rfl rfl (by decide) ?_
    refine zw_icmp_ge 32 ok_Tx_append rfl (by decide) (by omega) (fun h9 => ?_) (fun h9 => ?_)
    · exfalso; omega
    · refine zw_aload_n ok_Tx_append rfl rfl ?_
      refine zw_getr ok_Tx_append rfl fl_Tx_13 rfl rfl ?_
      refine zw_aload_n ok_Tx_append rfl rfl ?_
      refine zw_geti ok_Tx_append rfl fl_Tx_19 rfl rfl ?_
      try simp (decide := true) only [zset_ne, ne_eq, not_false_eq_true]
      refine zw_iload_n ok_Tx_append rfl rfl ?_
      refine zw_iast ok_Tx_append rfl rfl (by omega) ?_
      try simp (decide := true) only [zset_ne, ne_eq, not_false_eq_true]
      refine zw_aload_n ok_Tx_append rfl rfl ?_
      first | refine zw_dupi ok_Tx_append rfl ?_ | refine zw_dupr ok_Tx_append rfl ?_
      refine zw_geti ok_Tx_append rfl fl_Tx_19 rfl rfl ?_
      try simp (decide := true) only [zset_ne, ne_eq, not_false_eq_true]
      refine zw_iconst ok_Tx_append rfl ?_
      refine zw_iadd ok_Tx_append rfl ?_
      refine zw_puti ok_Tx_append rfl fp_Tx_19 rfl rfl ?_
      try simp (decide := true) only [zset_ne, ne_eq, not_false_eq_true]
      exact zw_vret ok_Tx_append rfl rfl (⟨rfl, rfl⟩)
  · refine zCt.of [some (vr 3), some (vi b)] ok_Tx_append (Nat.le_of_ble_eq_true rfl) rfl ?_
    refine zw_aload_n ok_Tx_append rfl rfl ?_
    refine zw_geti ok_Tx_append rfl fl_Tx_19 rfl rfl ?_
    try simp (decide := true) only [zset_ne, ne_eq, not_false_eq_true]
    refine zw_aload_n ok_Tx_append rfl rfl ?_
    refine zw_getr ok_Tx_append rfl fl_Tx_13 rfl rfl ?_
    refine zw_alen ok_Tx_append rfl rfl (by decide) ?_
    refine zw_icmp_ge 32 ok_Tx_append rfl (by decide) (by omega) (fun h9 => ?_) (fun h9 => ?_)
    · exfalso; omega
    · refine zw_aload_n ok_Tx_append rfl rfl ?_
      refine zw_getr ok_Tx_append rfl fl_Tx_13 rfl rfl ?_
      refine zw_aload_n ok_Tx_append rfl rfl ?_
      refine zw_geti ok_Tx_append rfl fl_Tx_19 rfl rfl ?_
      try simp (decide := true) only [zset_ne, ne_eq, not_false_eq_true]
      refine zw_iload_n ok_Tx_append rfl rfl ?_
      refine zw_iast ok_Tx_append rfl rfl (by omega) ?_
      try simp (decide := true) only [zset_ne, ne_eq, not_false_eq_true]
      refine zw_aload_n ok_Tx_append rfl rfl ?_
      first | refine zw_dupi ok_Tx_append rfl ?_ | refine zw_dupr ok_Tx_append rfl ?_
      refine zw_geti ok_Tx_append rfl fl_Tx_19 rfl rfl ?_
      try simp (decide := true) only [zset_ne, ne_eq, not_false_eq_true]
      refine zw_iconst ok_Tx_append rfl ?_
      refine zw_iadd ok_Tx_append rfl ?_
      refine zw_puti ok_Tx_append rfl fp_Tx_19 rfl rfl ?_
      try simp (decide := true) only [zset_ne, ne_eq, not_false_eq_true]
      exact zw_vret ok_Tx_append rfl rfl (⟨rfl, rfl⟩)
theorem ct_Le_enter {k c : Nat} {x y z : Int} (hk : (k = 12 ∧ c = 12) ∨ (k = 16 ∧ c = 8) ∨ (k = 20 ∧ c = 8)) (hs : 0 ≤ mem k 3 ∧ mem k 3 ≤ c) : zCi m_Le_enter [vr k, vi x, vi y, vi z] mem (if mem k 3 < c then mem k 3 + 1 else -4) (fun m2 => m2 = if mem k 3 < c then zset (zset (zset (zset mem (k + 1) (mem k 3) x) (k + 2) (mem k 3) y) (k + 3) (mem k 3) z) k 3 (mem k 3 + 1) else mem) := by
  rcases hk with ⟨rfl, rfl⟩ | ⟨rfl, rfl⟩ | ⟨rfl, rfl⟩
  · refine zCt.of [some (vr 12), some (vi x), some (vi y), some (vi z)] ok_Le_enter (Nat.le_of_ble_eq_true rfl) rfl ?_
    refine zw_aload_n ok_Le_enter rfl rfl ?_
    refine zw_geti ok_Le_enter rfl fl_Le_27 rfl rfl ?_
    try simp (decide := true) only [zset_ne, zset_eq, zupd_eq, ne_eq, not_false_eq_true]
    refine zw_aload_n ok_Le_enter rfl rfl ?_
    refine zw_getr ok_Le_enter rfl fl_Le_15 rfl rfl ?_
    refine zw_alen ok_Le_enter rfl rfl (by decide) ?_
    refine zw_icmp_lt 15 ok_Le_enter rfl (by decide) (by omega) (fun h9 => ?_) (fun h9 => ?_)
    · rw [if_pos h9, if_pos h9]
      refine zw_aload_n ok_Le_enter rfl rfl ?_
      refine zw_getr ok_Le_enter rfl fl_Le_15 rfl rfl ?_
      refine zw_aload_n ok_Le_enter rfl rfl ?_
      refine zw_geti ok_Le_enter rfl fl_Le_27 rfl rfl ?_
      try simp (decide := true) only [zset_ne, zset_eq, zupd_eq, ne_eq, not_false_eq_true]
      refine zw_iload_n ok_Le_enter rfl rfl ?_
      refine zw_iast ok_Le_enter rfl rfl (by omega) ?_
      try simp (decide := true) only [zset_ne, zset_eq, zupd_eq, ne_eq, not_false_eq_true]
      refine zw_aload_n ok_Le_enter rfl rfl ?_
      refine zw_getr ok_Le_enter rfl fl_Le_21 rfl rfl ?_
      refine zw_aload_n ok_Le_enter rfl rfl ?_
      refine zw_geti ok_Le_enter rfl fl_Le_27 rfl rfl ?_
      try simp (decide := true) only [zset_ne, zset_eq, zupd_eq, ne_eq, not_false_eq_true]
      refine zw_iload_n ok_Le_enter rfl rfl ?_
      refine zw_iast ok_Le_enter rfl rfl (by omega) ?_
      try simp (decide := true) only [zset_ne, zset_eq, zupd_eq, ne_eq, not_false_eq_true]
      refine zw_aload_n ok_Le_enter rfl rfl ?_
      refine zw_getr ok_Le_enter rfl fl_Le_24 rfl rfl ?_
      refine zw_aload_n ok_Le_enter rfl rfl ?_
      refine zw_geti ok_Le_enter rfl fl_Le_27 rfl rfl ?_
      try simp (decide := true) only [zset_ne, zset_eq, zupd_eq, ne_eq, not_false_eq_true]
      refine zw_iload_n ok_Le_enter rfl rfl ?_
      refine zw_iast ok_Le_enter rfl rfl (by omega) ?_
      try simp (decide := true) only [zset_ne, zset_eq, zupd_eq, ne_eq, not_false_eq_true]
      refine zw_aload_n ok_Le_enter rfl rfl ?_
      first | refine zw_dupi ok_Le_enter rfl ?_ | refine zw_dupr ok_Le_enter rfl ?_
      refine zw_geti ok_Le_enter rfl fl_Le_27 rfl rfl ?_
      try simp (decide := true) only [zset_ne, zset_eq, zupd_eq, ne_eq, not_false_eq_true]
      refine zw_iconst ok_Le_enter rfl ?_
      refine zw_iadd ok_Le_enter rfl ?_
      refine zw_puti ok_Le_enter rfl fp_Le_27 rfl rfl ?_
      try simp (decide := true) only [zset_ne, zset_eq, zupd_eq, ne_eq, not_false_eq_true]
      refine zw_aload_n ok_Le_enter rfl rfl ?_
      refine zw_geti ok_Le_enter rfl fl_Le_27 rfl rfl ?_
      try simp (decide := true) only [zset_ne, zset_eq, zupd_eq, ne_eq, not_false_eq_true]
      exact zw_iret ok_Le_enter rfl rfl (⟨rfl, rfl⟩)
    · rw [if_neg h9, if_neg h9]
      refine zw_bipush ok_Le_enter rfl (by decide) ?_
      exact zw_iret ok_Le_enter rfl rfl (⟨rfl, rfl⟩)
  · refine zCt.of [some (vr 16), some (vi x), some (vi y), some (vi z)] ok_Le_enter (Nat.le_of_ble_eq_true rfl) rfl ?_
    refine zw_aload_n ok_Le_enter rfl rfl ?_
    refine zw_geti ok_Le_enter rfl fl_Le_27 rfl rfl ?_
    try simp (decide := true) only [zset_ne, zset_eq, zupd_eq, ne_eq, not_false_eq_true]
    refine zw_aload_n ok_Le_enter rfl rfl ?_
    refine zw_getr ok_Le_enter rfl fl_Le_15 rfl rfl ?_
    refine zw_alen ok_Le_enter rfl rfl (by decide) ?_
    refine zw_icmp_lt 15 ok_Le_enter rfl (by decide) (by omega) (fun h9 => ?_) (fun h9 => ?_)
    · rw [if_pos h9, if_pos h9]
      refine zw_aload_n ok_Le_enter rfl rfl ?_
      refine zw_getr ok_Le_enter rfl fl_Le_15 rfl rfl ?_
      refine zw_aload_n ok_Le_enter rfl rfl ?_
      refine zw_geti ok_Le_enter rfl fl_Le_27 rfl rfl ?_
      try simp (decide := true) only [zset_ne, zset_eq, zupd_eq, ne_eq, not_false_eq_true]
      refine zw_iload_n ok_Le_enter rfl rfl ?_
      refine zw_iast ok_Le_enter rfl rfl (by omega) ?_
      try simp (decide := true) only [zset_ne, zset_eq, zupd_eq, ne_eq, not_false_eq_true]
      refine zw_aload_n ok_Le_enter rfl rfl ?_
      refine zw_getr ok_Le_enter rfl fl_Le_21 rfl rfl ?_
      refine zw_aload_n ok_Le_enter rfl rfl ?_
      refine zw_geti ok_Le_enter rfl fl_Le_27 rfl rfl ?_
      try simp (decide := true) only [zset_ne, zset_eq, zupd_eq, ne_eq, not_false_eq_true]
      refine zw_iload_n ok_Le_enter rfl rfl ?_
      refine zw_iast ok_Le_enter rfl rfl (by omega) ?_
      try simp (decide := true) only [zset_ne, zset_eq, zupd_eq, ne_eq, not_false_eq_true]
      refine zw_aload_n ok_Le_enter rfl rfl ?_
      refine zw_getr ok_Le_enter rfl fl_Le_24 rfl rfl ?_
      refine zw_aload_n ok_Le_enter rfl rfl ?_
      refine zw_geti ok_Le_enter rfl fl_Le_27 rfl rfl ?_
      try simp (decide := true) only [zset_ne, zset_eq, zupd_eq, ne_eq, not_false_eq_true]
      refine zw_iload_n ok_Le_enter rfl rfl ?_
      refine zw_iast ok_Le_enter rfl rfl (by omega) ?_
      try simp (decide := true) only [zset_ne, zset_eq, zupd_eq, ne_eq, not_false_eq_true]
      refine zw_aload_n ok_Le_enter rfl rfl ?_
      first | refine zw_dupi ok_Le_enter rfl ?_ | refine zw_dupr ok_Le_enter rfl ?_
      refine zw_geti ok_Le_enter rfl fl_Le_27 rfl rfl ?_
      try simp (decide := true) only [zset_ne, zset_eq, zupd_eq, ne_eq, not_false_eq_true]
      refine zw_iconst ok_Le_enter rfl ?_
      refine zw_iadd ok_Le_enter rfl ?_
      refine zw_puti ok_Le_enter rfl fp_Le_27 rfl rfl ?_
      try simp (decide := true) only [zset_ne, zset_eq, zupd_eq, ne_eq, not_false_eq_true]
      refine zw_aload_n ok_Le_enter rfl rfl ?_
      refine zw_geti ok_Le_enter rfl fl_Le_27 rfl rfl ?_
      try simp (decide := true) only [zset_ne, zset_eq, zupd_eq, ne_eq, not_false_eq_true]
      exact zw_iret ok_Le_enter rfl rfl (⟨rfl, rfl⟩)
    · rw [if_neg h9, if_neg h9]
      refine zw_bipush ok_Le_enter rfl (by decide) ?_
      exact zw_iret ok_Le_enter rfl rfl (⟨rfl, rfl⟩)
  · refine zCt.of [some (vr 20), some (vi x), some (vi y), some (vi z)] ok_Le_enter (Nat.le_of_ble_eq_true rfl) rfl ?_
    refine zw_aload_n ok_Le_enter rfl rfl ?_
    refine zw_geti ok_Le_enter rfl fl_Le_27 rfl rfl ?_
    try simp (decide := true) only [zset_ne, zset_eq, zupd_eq, ne_eq, not_false_eq_true]
    refine zw_aload_n ok_Le_enter rfl rfl ?_
    refine zw_getr ok_Le_enter rfl fl_Le_15 rfl rfl ?_
    refine zw_alen ok_Le_enter rfl rfl (by decide) ?_
    refine zw_icmp_lt 15 ok_Le_enter rfl (by decide) (by omega) (fun h9 => ?_) (fun h9 => ?_)
    · rw [if_pos h9, if_pos h9]
      refine zw_aload_n ok_Le_enter rfl rfl ?_
      refine zw_getr ok_Le_enter rfl fl_Le_15 rfl rfl ?_
      refine zw_aload_n ok_Le_enter rfl rfl ?_
      refine zw_geti ok_Le_enter rfl fl_Le_27 rfl rfl ?_
      try simp (decide := true) only [zset_ne, zset_eq, zupd_eq, ne_eq, not_false_eq_true]
      refine zw_iload_n ok_Le_enter rfl rfl ?_
      refine zw_iast ok_Le_enter rfl rfl (by omega) ?_
      try simp (decide := true) only [zset_ne, zset_eq, zupd_eq, ne_eq, not_false_eq_true]
      refine zw_aload_n ok_Le_enter rfl rfl ?_
      refine zw_getr ok_Le_enter rfl fl_Le_21 rfl rfl ?_
      refine zw_aload_n ok_Le_enter rfl rfl ?_
      refine zw_geti ok_Le_enter rfl fl_Le_27 rfl rfl ?_
      try simp (decide := true) only [zset_ne, zset_eq, zupd_eq, ne_eq, not_false_eq_true]
      refine zw_iload_n ok_Le_enter rfl rfl ?_
      refine zw_iast ok_Le_enter rfl rfl (by omega) ?_
      try simp (decide := true) only [zset_ne, zset_eq, zupd_eq, ne_eq, not_false_eq_true]
      refine zw_aload_n ok_Le_enter rfl rfl ?_
      refine zw_getr ok_Le_enter rfl fl_Le_24 rfl rfl ?_
      refine zw_aload_n ok_Le_enter rfl rfl ?_
      refine zw_geti ok_Le_enter rfl fl_Le_27 rfl rfl ?_
      try simp (decide := true) only [zset_ne, zset_eq, zupd_eq, ne_eq, not_false_eq_true]
      refine zw_iload_n ok_Le_enter rfl rfl ?_
      refine zw_iast ok_Le_enter rfl rfl (by omega) ?_
      try simp (decide := true) only [zset_ne, zset_eq, zupd_eq, ne_eq, not_false_eq_true]
      refine zw_aload_n ok_Le_enter rfl rfl ?_
      first | refine zw_dupi ok_Le_enter rfl ?_ | refine zw_dupr ok_Le_enter rfl ?_
      refine zw_geti ok_Le_enter rfl fl_Le_27 rfl rfl ?_
      try simp (decide := true) only [zset_ne, zset_eq, zupd_eq, ne_eq, not_false_eq_true]
      refine zw_iconst ok_Le_enter rfl ?_
      refine zw_iadd ok_Le_enter rfl ?_
      refine zw_puti ok_Le_enter rfl fp_Le_27 rfl rfl ?_
      try simp (decide := true) only [zset_ne, zset_eq, zupd_eq, ne_eq, not_false_eq_true]
      refine zw_aload_n ok_Le_enter rfl rfl ?_
      refine zw_geti ok_Le_enter rfl fl_Le_27 rfl rfl ?_
      try simp (decide := true) only [zset_ne, zset_eq, zupd_eq, ne_eq, not_false_eq_true]
      exact zw_iret ok_Le_enter rfl rfl (⟨rfl, rfl⟩)
    · rw [if_neg h9, if_neg h9]
      refine zw_bipush ok_Le_enter rfl (by decide) ?_
      exact zw_iret ok_Le_enter rfl rfl (⟨rfl, rfl⟩)
end
