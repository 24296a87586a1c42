/-! ===== StrollPlan.find, streetIn ===== -/
abbrev scrS : List Nat := [24, 25, 26, 27, 28, 29, 32, 33, 34]
theorem putC_scrS {mem m3 : zMem} {L : zL} {s : zS} (h : zfr scrS mem m3) : zfr scrS mem (putC m3 L s) := fun k hk => (putC_ne (by simp at hk; omega)).trans (h k hk)
def dgt (r : Int) : Int → Int := fun j => if j = 0 then r / 81 else if j = 1 then r / 9 % 9 else if j = 2 then r % 9 else 0
def rowHas (e r : Int) : Prop := r / 81 = e ∨ r / 9 % 9 = e ∨ r % 9 = e
theorem dgt_r {r : Int} (h : 0 ≤ r ∧ r < 729) : ∀ j, 0 ≤ j → j < 3 → 0 ≤ dgt r j ∧ dgt r j ≤ 8 := by
  intro j h1 h2
  have : j = 0 ∨ j = 1 ∨ j = 2 := by omega
  rcases this with rfl | rfl | rfl
  · show 0 ≤ r / 81 ∧ r / 81 ≤ 8; omega
  · show 0 ≤ r / 9 % 9 ∧ r / 9 % 9 ≤ 8; omega
  · show 0 ≤ r % 9 ∧ r % 9 ≤ 8; omega
theorem rwS_ext {row row2 : Int → Int} {p : Int} {st st2 : Int → Int} (h : ∀ j, 0 ≤ j → j < 3 → row j = row2 j) (hs : ∀ i, i ≠ p → i ≠ 8 + p → i ≠ 16 + p → st i = st2 i) : rwS row p st = rwS row2 p st2 := by
  have e0 := h 0 (by omega) (by omega)
  have e1 := h 1 (by omega) (by omega)
  have e2 := h 2 (by omega) (by omega)
  show rwU row p (0 + 1 + 1) (rwU row p (0 + 1) (rwU row p 0 st)) = rwU row2 p (0 + 1 + 1) (rwU row2 p (0 + 1) (rwU row2 p 0 st2))
  funext i
  simp only [rwU, zupd, Int.zero_add, e0, e1, show (1 : Int) + 1 = 2 from rfl, e2]
  by_cases a2 : i = 2 * 8 + p
  · simp only [a2, if_true]
  · by_cases a1 : i = 1 * 8 + p
    · simp only [a1, if_true]
    · by_cases a0 : i = 0 * 8 + p
      · simp only [a0, if_true]
      · rw [if_neg a2, if_neg a1, if_neg a0, if_neg a2, if_neg a1, if_neg a0]
        exact hs i (by omega) (by omega) (by omega)
theorem rwS_off {row : Int → Int} {p : Int} {st : Int → Int} (i : Int) (h0 : i ≠ p) (h1 : i ≠ 8 + p) (h2 : i ≠ 16 + p) : rwS row p st i = st i := by
  show rwU row p (0 + 1 + 1) (rwU row p (0 + 1) (rwU row p 0 st)) i = st i
  unfold rwU
  rw [zupd_ne (by omega), zupd_ne (by omega), zupd_ne (by omega)]
theorem cstC_of {mem m2 : zMem} (h : ∀ k, k < 24 → m2 k = mem k) (st hd df : Int → Int) (p : Int) : cstC m2 st hd df p = cstC mem st hd df p := by
  unfold cstC dayC
  rw [h 5 (by omega), h 7 (by omega), h 9 (by omega)]
theorem wpC_out {mem : zMem} {L : zL} {s : zS} {k : Nat} {f : Int → Int} (h : k < 24 ∨ 29 < k) : zput (putC mem L s) k f = putC (zput mem k f) L s := by
  refine putC_cases (fun q hq => ?_) ?_ ?_ ?_ ?_ ?_ ?_
  · rw [putC_ne hq]
    by_cases e : q = k
    · subst e; rw [zput_eq, zput_eq]
    · rw [zput_ne e, zput_ne e, putC_ne hq]
  · rw [zput_ne (by omega)]
    show cRow (mem 24) s = cRow (zput mem k f 24) s
    rw [zput_ne (by omega)]
  all_goals (rw [zput_ne (by omega)]; rfl)
/-- one row more: the least cost and its row -/
def strF (mem : zMem) (st hd df : Int → Int) (p e r : Int) (x : Int × Int) : Int × Int := if (r / 81 = e ∨ r / 9 % 9 = e ∨ r % 9 = e) ∧ cstC mem (rwS (dgt r) p st) hd df p < x.1 then (cstC mem (rwS (dgt r) p st) hd df p, r) else x
theorem cstC_r {mem : zMem} {st hd df : Int → Int} {p : Int} (hC : okC mem) (hdf : dfI (mem 5 4) df) (hp : 0 ≤ p ∧ p < mem 5 4) : 0 ≤ cstC mem st hd df p ∧ cstC mem st hd df p ≤ 899 := by
  have h1 := pcN_r (dayC mem st hd df).2.2.1
  have h2 := (dayC_inv (st := st) (hd := hd) hC hdf).2.1 p hp.1 hp.2
  unfold cstC
  omega
section
variable {mem : zMem} {st hd df : Int → Int} {s : zS} {Q : Option zVal → zMem → Prop}
theorem ct_St_streetIn {i : Int} (hi : 0 ≤ i ∧ i ≤ 2) : zCip m_St_streetIn [vr 32, vi i] mem (mem 34 i) := by
  refine zCt.of [some (vr 32), some (vi i)] ok_St_streetIn (Nat.le_of_ble_eq_true rfl) rfl ?_
  refine zw_iload_n ok_St_streetIn rfl rfl ?_
  refine zw_iconst ok_St_streetIn rfl ?_
  refine zw_iconst ok_St_streetIn rfl ?_
  refine zw_Nbp ok_St_streetIn rfl ok_B_within lk_St_42 (by decide) rfl (Nat.le_of_ble_eq_true rfl) (ct_B_within (by omega)) ?_
  first | refine zw_ifeq_d 18 ok_St_streetIn rfl (by decide) (fun h6 => ?_) (fun h6 => ?_) | refine zw_ifeq_b 18 ok_St_streetIn rfl (by decide) (fun h6 => ?_) (fun h6 => ?_) | refine zw_if_eq 18 ok_St_streetIn rfl (by decide) (by omega) (fun h6 => ?_) (fun h6 => ?_)
  · exact absurd hi h6
  · refine zw_aload_n ok_St_streetIn rfl rfl ?_
    refine zw_getr ok_St_streetIn rfl fl_St_15 rfl rfl ?_
    refine zw_iload_n ok_St_streetIn rfl rfl ?_
    refine zw_iald ok_St_streetIn rfl rfl (by omega) ?_
    refine zw_goto 19 ok_St_streetIn rfl (by decide) ?_
    exact zw_iret ok_St_streetIn rfl rfl (⟨rfl, rfl⟩)
theorem find_loop {p e : Int} (hC : okC mem) (hp : 0 ≤ p ∧ p < mem 5 4) (he : 0 ≤ e ∧ e ≤ 7) (hst : ∀ i, 0 ≤ i → i < 96 → -1 ≤ st i ∧ st i ≤ 7) (hdf : dfI (mem 5 4) df)
    (hx : ∀ m3 L2 s2 (x : Int × Int), x = lp (strF mem st hd df p e) 729 0 (900, -1) → (0 ≤ x.1 ∧ x.1 ≤ 900) → (x.2 ≠ -1 → ∀ j, 0 ≤ j → j < 3 → m3 34 j = dgt x.2 j) → zfr scrS mem m3 → AW m_St_find 126 [some (vr 32), some (vi p), some (vi e), some (vi x.1), none, none] [] (putC m3 L2 s2) Q) :
    ∀ (k : Nat) (r : Int) (x : Int × Int) (m3 : zMem) (st3 : Int → Int) (s : zS), 0 ≤ r → r + k = 729 → lp (strF mem st hd df p e) k r x = lp (strF mem st hd df p e) 729 0 (900, -1) → (0 ≤ x.1 ∧ x.1 ≤ 900) → (x.2 ≠ -1 → ∀ j, 0 ≤ j → j < 3 → m3 34 j = dgt x.2 j) → zfr scrS mem m3 → (∀ i, i ≠ p → i ≠ 8 + p → i ≠ 16 + p → st3 i = st i) → (∀ i, 0 ≤ i → i < 96 → -1 ≤ st3 i ∧ st3 i ≤ 7) →
      AW m_St_find 16 [some (vr 32), some (vi p), some (vi e), some (vi x.1), some (vi r), none] [] (putC m3 (st3, hd, df) s) Q := by
  intro k
  induction k with
  | zero =>
    intro r x m3 st3 s h0 hk hlp hx1 hx2 hf hs3 hst3
    refine zw_iload ok_St_find rfl rfl ?_
    refine zw_sipush ok_St_find rfl (by decide) ?_
    refine zw_icmp_ge 126 ok_St_find rfl (by decide) (by omega) (fun h21 => ?_) (fun h21 => ?_)
    · refine zw_mask [true, true, true, true, false, false] rfl ?_
      exact hx m3 _ s x hlp hx1 hx2 hf
    · exfalso; omega
  | succ k ih =>
    intro r x m3 st3 s h0 hk hlp hx1 hx2 hf hs3 hst3
    rw [lp_s] at hlp
    have hr : 0 ≤ r ∧ r < 729 := by omega
    have hdr := dgt_r hr
    generalize hm4 : zset (zset (zset m3 33 0 (r / 81)) 33 1 (r / 9 % 9)) 33 2 (r % 9) = m4
    have f4 : zfr scrS mem m4 := by rw [← hm4]; exact ((hf.set (by decide)).set (by decide)).set (by decide)
    have lo4 : ∀ q, q < 24 → m4 q = mem q := fun q hq => f4 q (by simp; omega)
    have hC4 := okC_of lo4 hC
    have r0 : m4 33 0 = r / 81 := by rw [← hm4, zset_eq, zupd_ne (by decide), zset_eq, zupd_ne (by decide), zset_eq, zupd_eq]
    have r1 : m4 33 1 = r / 9 % 9 := by rw [← hm4, zset_eq, zupd_ne (by decide), zset_eq, zupd_eq]
    have r2 : m4 33 2 = r % 9 := by rw [← hm4, zset_eq, zupd_eq]
    have rd : ∀ j, 0 ≤ j → j < 3 → m4 33 j = dgt r j := by
      intro j q1 q2
      have : j = 0 ∨ j = 1 ∨ j = 2 := by omega
      rcases this with rfl | rfl | rfl
      · exact r0
      · exact r1
      · exact r2
    have h34 : ∀ j, m4 34 j = m3 34 j := fun j => by rw [← hm4, zset_ne (by decide), zset_ne (by decide), zset_ne (by decide)]
    have hp4 : 0 ≤ p ∧ p < m4 5 4 := by rw [lo4 5 (by omega)]; exact hp
    have hdf4 : dfI (m4 5 4) df := by rw [lo4 5 (by omega)]; exact hdf
    have hcr := cstC_r (st := rwS (dgt r) p st) (hd := hd) hC hdf hp
    have ec : cstC m4 (rwS (m4 33) p st3) hd df p = cstC mem (rwS (dgt r) p st) hd df p := by
      rw [cstC_of lo4, rwS_ext rd hs3]
    have est : rwS (m4 33) p st3 = rwS (dgt r) p st := rwS_ext rd hs3
    have hP8 := hC.2.1.2.1
    have skip : ∀ s3 st4 m5, (m5 34 = m3 34) → zfr scrS mem m5 → (∀ i, i ≠ p → i ≠ 8 + p → i ≠ 16 + p → st4 i = st i) → (∀ i, 0 ≤ i → i < 96 → -1 ≤ st4 i ∧ st4 i ≤ 7) → ¬ ((r / 81 = e ∨ r / 9 % 9 = e ∨ r % 9 = e) ∧ cstC mem (rwS (dgt r) p st) hd df p < x.1) → AW m_St_find 120 [some (vr 32), some (vi p), some (vi e), some (vi x.1), some (vi r), none] [] (putC m5 (st4, hd, df) s3) Q := by
      intro s3 st4 m5 h5 f5 q1 q2 hn
      refine zw_iinc ok_St_find rfl rfl rfl (by decide) ?_
      refine zw_goto 16 ok_St_find rfl (by decide) ?_
      refine ih (r + 1) x m5 st4 s3 (by omega) (by omega) ?_ hx1 (by rw [h5]; exact hx2) f5 q1 q2
      rw [strF, if_neg hn] at hlp
      exact hlp
    have go : (r / 81 = e ∨ r / 9 % 9 = e ∨ r % 9 = e) → AW m_St_find 90 [some (vr 32), some (vi p), some (vi e), some (vi x.1), some (vi r), none] [] (putC m4 (st3, hd, df) s) Q := by
      intro hh
      refine zw_aload_n ok_St_find rfl rfl ?_
      refine zw_iload_n ok_St_find rfl rfl ?_
      refine zw_Vi ok_St_find rfl ok_St_costFor lk_St_28 (by decide) rfl rfl (Nat.le_of_ble_eq_true rfl) (ct_St_costFor hC4 hp4 (fun h q1 q2 => by rw [rd h q1 q2]; exact hdr h q1 q2) hst3 hdf4) (fun m92 h92 => ?_)
      obtain ⟨s5, rfl⟩ := h92
      rw [ec, est]
      refine zw_istore ok_St_find rfl rfl (by decide) ?_
      refine zw_iload ok_St_find rfl rfl ?_
      refine zw_iload_n ok_St_find rfl rfl ?_
      refine zw_icmp_ge 120 ok_St_find rfl (by decide) (by omega) (fun h100 => ?_) (fun h100 => ?_)
      · refine zw_mask [true, true, true, true, true, false] rfl ?_
        exact skip _ _ m4 (funext h34) f4 (fun i q1 q2 q3 => rwS_off i q1 q2 q3) (rw_st ⟨hp.1, by omega⟩ hst hdr) (fun q => by omega)
      · refine zw_iload ok_St_find rfl rfl ?_
        refine zw_istore_n ok_St_find rfl rfl (by decide) ?_
        refine zw_aload_n ok_St_find rfl rfl ?_
        refine zw_getr ok_St_find rfl fl_St_11 rfl rfl ?_
        refine zw_iconst ok_St_find rfl ?_
        refine zw_aload_n ok_St_find rfl rfl ?_
        refine zw_getr ok_St_find rfl fl_St_15 rfl rfl ?_
        refine zw_iconst ok_St_find rfl ?_
        refine zw_iconst ok_St_find rfl ?_
        refine zw_copy ok_St_find rfl la_St_32 rfl rfl (by decide) ⟨by decide, Nat.le_of_ble_eq_true rfl⟩ ?_
        simp only [rd_C_33, rd_C_34]
        rw [wpC_out (by omega)]
        refine zw_iinc ok_St_find rfl rfl rfl (by decide) ?_
        refine zw_goto 16 ok_St_find rfl (by decide) ?_
        refine zw_mask [true, true, true, true, true, false] rfl ?_
        refine ih (r + 1) (cstC mem (rwS (dgt r) p st) hd df p, r) _ _ _ (by omega) (by omega) ?_ (by omega) ?_ (f4.put (by decide)) (fun i q1 q2 q3 => rwS_off i q1 q2 q3) (rw_st ⟨hp.1, by omega⟩ hst hdr)
        · rw [strF, if_pos ⟨hh, by omega⟩] at hlp
          exact hlp
        · intro _ j q1 q2
          rw [zput_eq]
          show zcpy (m4 33) (m4 34) 0 0 3 j = dgt r j
          unfold zcpy
          rw [if_pos (by omega), ← rd j q1 q2]
          congr 1
          omega
    refine zw_iload ok_St_find rfl rfl ?_
    refine zw_sipush ok_St_find rfl (by decide) ?_
    refine zw_icmp_ge 126 ok_St_find rfl (by decide) (by omega) (fun h21 => ?_) (fun h21 => ?_)
    · exfalso; omega
    · refine zw_aload_n ok_St_find rfl rfl ?_
      refine zw_getr ok_St_find rfl fl_St_11 rfl rfl ?_
      refine zw_iconst ok_St_find rfl ?_
      refine zw_iload ok_St_find rfl rfl ?_
      refine zw_bipush ok_St_find rfl (by decide) ?_
      refine zw_idiv ok_St_find rfl (by omega) ?_
      rw [zdiv_nn (by omega) (by omega)]
      refine zw_iast ok_St_find rfl rfl (by omega) ?_
      rw [wrC_out (by omega)]
      refine zw_aload_n ok_St_find rfl rfl ?_
      refine zw_getr ok_St_find rfl fl_St_11 rfl rfl ?_
      refine zw_iconst ok_St_find rfl ?_
      refine zw_iload ok_St_find rfl rfl ?_
      refine zw_bipush ok_St_find rfl (by decide) ?_
      refine zw_idiv ok_St_find rfl (by omega) ?_
      rw [zdiv_nn (by omega) (by omega)]
      refine zw_bipush ok_St_find rfl (by decide) ?_
      refine zw_irem ok_St_find rfl (by omega) ?_
      rw [zrem_nn (by omega) (by omega)]
      refine zw_iast ok_St_find rfl rfl (by omega) ?_
      rw [wrC_out (by omega)]
      refine zw_aload_n ok_St_find rfl rfl ?_
      refine zw_getr ok_St_find rfl fl_St_11 rfl rfl ?_
      refine zw_iconst ok_St_find rfl ?_
      refine zw_iload ok_St_find rfl rfl ?_
      refine zw_bipush ok_St_find rfl (by decide) ?_
      refine zw_irem ok_St_find rfl (by omega) ?_
      rw [zrem_nn (by omega) (by omega)]
      refine zw_iast ok_St_find rfl rfl (by omega) ?_
      rw [wrC_out (by omega), hm4]
      refine zw_aload_n ok_St_find rfl rfl ?_
      refine zw_getr ok_St_find rfl fl_St_11 rfl rfl ?_
      refine zw_iconst ok_St_find rfl ?_
      refine zw_iald ok_St_find rfl rfl (by omega) ?_
      simp only [rd_C_33, r0]
      refine zw_iload_n ok_St_find rfl rfl ?_
      refine zw_icmp_eq 90 ok_St_find rfl (by decide) (by omega) (fun h67 => ?_) (fun h67 => ?_)
      · exact go (Or.inl h67)
      · refine zw_aload_n ok_St_find rfl rfl ?_
        refine zw_getr ok_St_find rfl fl_St_11 rfl rfl ?_
        refine zw_iconst ok_St_find rfl ?_
        refine zw_iald ok_St_find rfl rfl (by omega) ?_
        simp only [rd_C_33, r1]
        refine zw_iload_n ok_St_find rfl rfl ?_
        refine zw_icmp_eq 90 ok_St_find rfl (by decide) (by omega) (fun h77 => ?_) (fun h77 => ?_)
        · exact go (Or.inr (Or.inl h77))
        · refine zw_aload_n ok_St_find rfl rfl ?_
          refine zw_getr ok_St_find rfl fl_St_11 rfl rfl ?_
          refine zw_iconst ok_St_find rfl ?_
          refine zw_iald ok_St_find rfl rfl (by omega) ?_
          simp only [rd_C_33, r2]
          refine zw_iload_n ok_St_find rfl rfl ?_
          refine zw_icmp_ne 120 ok_St_find rfl (by decide) (by omega) (fun h87 => ?_) (fun h87 => ?_)
          · exact skip _ _ m4 (funext h34) f4 hs3 hst3 (fun q => by omega)
          · exact go (Or.inr (Or.inr h87))
theorem ct_St_find {p e : Int} {L : zL} (hC : okC mem) (hp : 0 ≤ p ∧ p < mem 5 4) (he : 0 ≤ e ∧ e ≤ 7) : zCv m_St_find [vr 32, vi p, vi e] (putC mem L s) (fun m2 => (∀ x : Int × Int, x = lp (strF mem (layS mem (-1) 0 L).1 (layS mem (-1) 0 L).2.1 (layS mem (-1) 0 L).2.2 p e) 729 0 (900, -1) → m2 32 3 = x.1 / 100 ∧ (x.2 ≠ -1 → ∀ j, 0 ≤ j → j < 3 → m2 34 j = dgt x.2 j)) ∧ zfr scrS mem m2) := by
  obtain ⟨st0, hd0, df0⟩ := L
  refine zCt.of [some (vr 32), some (vi p), some (vi e), none, none, none] ok_St_find (Nat.le_of_ble_eq_true rfl) rfl ?_
  have hst := layS_st (ol := -1) (ll := 0) (L := (st0, hd0, df0)) hC
  have hdf := layS_df (ol := -1) (ll := 0) (L := (st0, hd0, df0)) hC
  generalize hL : layS mem (-1) 0 (st0, hd0, df0) = L1 at hst hdf ⊢
  obtain ⟨st, hd, df⟩ := L1
  dsimp only at hst hdf ⊢
  have K : ∀ m3 L2 s2 (x : Int × Int), x = lp (strF mem st hd df p e) 729 0 (900, -1) → (0 ≤ x.1 ∧ x.1 ≤ 900) → (x.2 ≠ -1 → ∀ j, 0 ≤ j → j < 3 → m3 34 j = dgt x.2 j) → zfr scrS mem m3 → AW m_St_find 126 [some (vr 32), some (vi p), some (vi e), some (vi x.1), none, none] [] (putC m3 L2 s2) (fun r m2 => r = none ∧ (∀ x : Int × Int, x = lp (strF mem st hd df p e) 729 0 (900, -1) → m2 32 3 = x.1 / 100 ∧ (x.2 ≠ -1 → ∀ j, 0 ≤ j → j < 3 → m2 34 j = dgt x.2 j)) ∧ zfr scrS mem m2) := by
    intro m3 L2 s2 x hx1 hx2 hx3 hf
    refine zw_aload_n ok_St_find rfl rfl ?_
    refine zw_iload_n ok_St_find rfl rfl ?_
    refine zw_bipush ok_St_find rfl (by decide) ?_
    refine zw_idiv ok_St_find rfl (by omega) ?_
    rw [zdiv_nn (by omega) (by omega)]
    refine zw_puti ok_St_find rfl fp_St_38 rfl rfl ?_
    rw [wrC_out (by omega)]
    exact zw_vret ok_St_find rfl rfl (⟨rfl, fun y hy => by rw [hx1.trans hy.symm] at *; exact ⟨rfl, hx3⟩, putC_scrS (hf.set (by decide))⟩)
  refine zw_aload_n ok_St_find rfl rfl ?_
  refine zw_getr ok_St_find rfl fl_St_18 rfl rfl ?_
  refine zw_iconst ok_St_find rfl ?_
  refine zw_iconst ok_St_find rfl ?_
  refine zw_Vvp ok_St_find rfl ok_Co_layOut lk_St_22 (by decide) rfl rfl (Nat.le_of_ble_eq_true rfl) (ct_Co_layOut hC.1 (by omega)) ?_
  rw [hL]
  refine zw_sipush ok_St_find rfl (by decide) ?_
  refine zw_istore_n ok_St_find rfl rfl (by decide) ?_
  refine zw_iconst ok_St_find rfl ?_
  refine zw_istore ok_St_find rfl rfl (by decide) ?_
  refine find_loop hC hp he hst hdf ?_ 729 0 (900, -1) mem st s (by omega) (by omega) rfl (by decide) (fun q => absurd rfl q) zfr.rf (fun _ _ _ _ => rfl) hst
  intro m3 L2 s2 x hx1 hx2 hx3 hf
  exact K m3 L2 s2 x hx1 hx2 hx3 hf
end
