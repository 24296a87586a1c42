/-! ===== LowerBows: write, read ===== -/
theorem zset_put {mem : zMem} {k : Nat} {f : Int → Int} {i v : Int} : zset (zput mem k f) k i v = zput mem k (zupd f i v) := by
  funext q
  by_cases e : q = k
  · subst e; rw [zset_eq, zput_eq, zput_eq]
  · rw [zset_ne e, zput_ne e, zput_ne e]
theorem zput_self {mem : zMem} {k : Nat} {f : Int → Int} (h : f = mem k) : zput mem k f = mem := by
  funext q
  by_cases e : q = k
  · subst e; rw [zput_eq, h]
  · rw [zput_ne e]
section
variable {mem m2 τ τ2 : zMem} {s : Int} {Q : Option zVal → zMem → Prop}
/-- the items of a sheet, the first i written -/
def wrT (τ : zMem) (s : Int) (l : Int → Int) (i : Int) : Int → Int := fun j => if 0 ≤ j ∧ j < i then cutS (τ 11 s) (l j) else τ (13 + s.toNat) j
def qWrite (τ : zMem) (h s : Int) : Int := if (0 ≤ h ∧ h ≤ 11) ∧ (0 ≤ s ∧ s ≤ 3) then (if τ 11 s = -1 then -11 else min (τ 12 s) (aP τ)) else -2
def nWrite (τ : zMem) (h s : Int) : zMem := if (0 ≤ h ∧ h ≤ 11) ∧ (0 ≤ s ∧ s ≤ 3) then (if τ 11 s = -1 then fnd τ 1 else zput τ (13 + s.toNat) (wrT τ s (aTold τ h).2.1 (min (τ 12 s) (aP τ)))) else τ
theorem atC.lowR {t : zS} {p : Int} (h : atC mem τ t m2) (hp : 0 ≤ p ∧ p < aP τ) : zR (t.2.1 p) := by
  obtain ⟨L, s, -, e, i⟩ := h
  have := i.2.1 p hp.1 hp.2
  rw [e.2.1 p hp.1 hp.2] at this
  omega
theorem wrT_s {l : Int → Int} {i : Int} (hi : 0 ≤ i) : zupd (wrT τ s l i) i (cutS (τ 11 s) (l i)) = wrT τ s l (i + 1) := by
  funext j
  by_cases e : j = i
  · subst e; rw [zupd_eq]; unfold wrT; rw [if_pos (by omega)]
  · rw [zupd_ne e]; unfold wrT
    by_cases q : 0 ≤ j ∧ j < i
    · rw [if_pos q, if_pos (by omega)]
    · rw [if_neg q, if_neg (by omega)]
theorem wr_loop {h n : Int} {l : Int → Int} (hs : 0 ≤ s ∧ s ≤ 3) (hl : τ 11 s ≠ -1) (hn : n ≤ 60 ∧ n ≤ aP τ) (hz : ∀ p, 0 ≤ p → p < aP τ → zR (l p)) (hQ : ∀ m, CI m (zput τ (13 + s.toNat) (wrT τ s l n)) → cls48 mem m → Q (some (vi n)) m) :
    ∀ (k : Nat) (i : Int) (m : zMem), 0 ≤ i → i + k = n → CI m (zput τ (13 + s.toNat) (wrT τ s l i)) → cls48 mem m → (∀ p, 0 ≤ p → p < aP τ → m 29 p = l p) → AW m_B_write 64 [some (vr 0), some (vi h), some (vi s), some (vr (40 + 2 * s.toNat)), some (vi n), some (vi i)] [] m Q := by
  intro k
  induction k with
  | zero =>
    intro i m h0 hk hI hc hl2
    have e : i = n := by omega
    subst e
    refine zw_iload ok_B_write rfl rfl ?_
    refine zw_iload ok_B_write rfl rfl ?_
    refine zw_icmp_ge 93 ok_B_write rfl (by decide) (by omega) (fun h68 => ?_) (fun h68 => ?_)
    · refine zw_iload ok_B_write rfl rfl ?_
      exact zw_iret ok_B_write rfl rfl (hQ m hI hc)
    · exfalso; omega
  | succ k ih =>
    intro i m h0 hk hI hc hl2
    have eA : aP (zput τ (13 + s.toNat) (wrT τ s l i)) = aP τ := by
      show sP (zput τ (13 + s.toNat) (wrT τ s l i) 2 0) (zput τ (13 + s.toNat) (wrT τ s l i) 0) = sP (τ 2 0) (τ 0)
      rw [zput_ne (by omega), zput_ne (by omega)]
    have hP8 : aP τ ≤ 8 := by
      have := isP_CI hI
      rw [eP_CI hI, eA] at this
      exact this.2
    have e11 : (zput τ (13 + s.toNat) (wrT τ s l i)) 11 s = τ 11 s := by rw [zput_ne (by omega)]
    have hz2 : zR (m 29 i) := by rw [hl2 i h0 (by omega)]; exact hz i h0 (by omega)
    have st := CI_lay (i := i) hI hs (by rw [e11]; exact hl) hz2
    rw [e11, zset_put, hl2 i h0 (by omega), wrT_s h0] at st
    refine zw_iload ok_B_write rfl rfl ?_
    refine zw_iload ok_B_write rfl rfl ?_
    refine zw_icmp_ge 93 ok_B_write rfl (by decide) (by omega) (fun h68 => ?_) (fun h68 => ?_)
    · exfalso; omega
    · refine zw_aload_n ok_B_write rfl rfl ?_
      refine zw_iload ok_B_write rfl rfl ?_
      refine zw_aload_n ok_B_write rfl rfl ?_
      refine zw_getr ok_B_write rfl fl_B_53 rfl rfl ?_
      refine zw_getr ok_B_write rfl fl_B_170 rfl rfl ?_
      refine zw_iload ok_B_write rfl rfl ?_
      refine zw_iald ok_B_write rfl rfl (by omega) ?_
      refine zw_Vvp ok_B_write rfl ok_Se_put lk_B_256 (by decide) rfl (zrow_sh hs) (Nat.le_of_ble_eq_true rfl) (ct_Se_put (shK_s hs) (shC_at hI hs).1 (by omega)) ?_
      rw [hl2 i h0 (by omega)]
      refine zw_iinc ok_B_write rfl rfl rfl (by decide) ?_
      refine zw_goto 64 ok_B_write rfl (by decide) ?_
      exact ih (i + 1) _ (by omega) (by omega) st.1 (hc.tr st.2) (fun p q1 q2 => by rw [zset_ne (by omega)]; exact hl2 p q1 q2)
theorem ct_B_write {h : Int} (hI : CI mem τ) (hh : zR h) (hs : zR s) : zCi m_B_write [vr 0, vi h, vi s] mem (qWrite τ h s) (fun m2 => CI m2 (nWrite τ h s) ∧ cls48 mem m2) := by
  refine zCt.of [some (vr 0), some (vi h), some (vi s), none, none, none] ok_B_write (Nat.le_of_ble_eq_true rfl) rfl ?_
  unfold qWrite nWrite
  by_cases hg : (0 ≤ h ∧ h ≤ 11) ∧ (0 ≤ s ∧ s ≤ 3)
  · have hc := shC_at hI hg.2
    have hb := shB_at hI hg.2
    rw [if_pos hg, if_pos hg]
    refine zw_iload_n ok_B_write rfl rfl ?_
    refine zw_Sbp ok_B_write rfl ok_B_isHour lk_B_138 (by decide) rfl (Nat.le_of_ble_eq_true rfl) (ct_B_isHour (by omega)) ?_
    first | refine zw_ifeq_d 14 ok_B_write rfl (by decide) (fun h4 => ?_) (fun h4 => ?_) | refine zw_ifeq_b 14 ok_B_write rfl (by decide) (fun h4 => ?_) (fun h4 => ?_) | refine zw_if_eq 14 ok_B_write rfl (by decide) (by omega) (fun h4 => ?_) (fun h4 => ?_)
    · exact absurd hg.1 h4
    · refine zw_iload_n ok_B_write rfl rfl ?_
      refine zw_Sbp ok_B_write rfl ok_B_isSheet lk_B_152 (by decide) rfl (Nat.le_of_ble_eq_true rfl) (ct_B_isSheet (by omega)) ?_
      first | refine zw_ifne_d 17 ok_B_write rfl (by decide) (fun h11 => ?_) (fun h11 => ?_) | refine zw_ifne_b 17 ok_B_write rfl (by decide) (fun h11 => ?_) (fun h11 => ?_) | refine zw_if_ne 17 ok_B_write rfl (by decide) (by omega) (fun h11 => ?_) (fun h11 => ?_)
      · refine zw_aload_n ok_B_write rfl rfl ?_
        refine zw_getr ok_B_write rfl fl_B_91 rfl rfl ?_
        refine zw_iload_n ok_B_write rfl rfl ?_
        refine zw_aald ok_B_write rfl rfl (by omega) (zfld_sh hg.2) ?_
        refine zw_astore_n ok_B_write rfl rfl (by decide) ?_
        refine zw_aload_n ok_B_write rfl rfl ?_
        refine zw_geti ok_B_write rfl fl_B_155 (zrow_sh hg.2) rfl ?_
        refine zw_if_eq 37 ok_B_write rfl (by decide) (by have := hc.1.1; omega) (fun h28 => ?_) (fun h28 => ?_)
        · have n1 : τ 11 s ≠ -1 := fun q => by have := hc.2.1.2 q; omega
          rw [if_neg n1, if_neg n1]
          refine zw_aload_n ok_B_write rfl rfl ?_
          refine zw_getr ok_B_write rfl fl_B_53 rfl rfl ?_
          refine zw_iload_n ok_B_write rfl rfl ?_
          refine zw_Vvp ok_B_write rfl ok_Co_walkAsTold lk_B_167 (by decide) rfl rfl (Nat.le_of_ble_eq_true rfl) (ct_told hI hg.1) ?_
          have h42 := toldA (h := h) hI hg.1
          have lr : ∀ p, 0 ≤ p → p < aP τ → zR ((aTold τ h).2.1 p) := fun p q1 q2 => h42.lowR ⟨q1, q2⟩
          generalize toldM mem h = m42 at h42 ⊢
          have hJ : CI m42 τ ∧ cls48 mem m42 := ⟨(h42.ci hI).1, (h42.ci hI).2.c48⟩
          have hP := isP_CI hJ.1
          have eP := eP_CI hJ.1
          have hcJ := shC_at hJ.1 hg.2
          have hbJ := hb.2.1
          refine zw_aload_n ok_B_write rfl rfl ?_
          refine zw_geti ok_B_write rfl fl_B_163 (zrow_sh hg.2) rfl ?_
          refine zw_aload_n ok_B_write rfl rfl ?_
          refine zw_getr ok_B_write rfl fl_B_24 rfl rfl ?_
          refine zw_geti ok_B_write rfl fl_B_200 rfl rfl ?_
          rw [hcJ.2.2.2.1, eP]
          refine zw_mmin ok_B_write rfl lm_B_272 ⟨by decide, Nat.le_of_ble_eq_true rfl⟩ (by rw [eP] at hP; constructor <;> omega) ?_
          refine zw_istore ok_B_write rfl rfl (by decide) ?_
          refine zw_iconst ok_B_write rfl ?_
          refine zw_istore ok_B_write rfl rfl (by decide) ?_
          refine wr_loop (mem := mem) (τ := τ) (l := (aTold τ h).2.1) hg.2 n1 ⟨by omega, by omega⟩ lr (fun m q1 q2 => ⟨rfl, q1, q2⟩) (min (τ 12 s) (aP τ)).toNat 0 m42 (by omega) ?_ ?_ hJ.2 (fun p q1 q2 => h42.low ⟨q1, q2⟩)
          · rw [eP] at hP; omega
          · have : wrT τ s (aTold τ h).2.1 0 = τ (13 + s.toNat) := by
              funext j; unfold wrT; rw [if_neg (by omega)]
            rw [zput_self this]; exact hJ.1
        · have n1 : τ 11 s = -1 := hc.2.1.1 (by have := hc.1.1; omega)
          rw [if_pos n1, if_pos n1]
          refine zw_aload_n ok_B_write rfl rfl ?_
          refine zw_iconst ok_B_write rfl ?_
          refine zw_Vi ok_B_write rfl ok_B_found lk_B_159 (by decide) rfl rfl (Nat.le_of_ble_eq_true rfl) (ct_B_found) (fun m33 h33 => ?_)
          subst h33
          exact zw_iret ok_B_write rfl rfl (⟨rfl, CI_fnd hI (by omega)⟩)
      · exact absurd hg.2 h11
  · rw [if_neg hg, if_neg hg]
    refine zw_iload_n ok_B_write rfl rfl ?_
    refine zw_Sbp ok_B_write rfl ok_B_isHour lk_B_138 (by decide) rfl (Nat.le_of_ble_eq_true rfl) (ct_B_isHour (by omega)) ?_
    first | refine zw_ifeq_d 14 ok_B_write rfl (by decide) (fun h4 => ?_) (fun h4 => ?_) | refine zw_ifeq_b 14 ok_B_write rfl (by decide) (fun h4 => ?_) (fun h4 => ?_) | refine zw_if_eq 14 ok_B_write rfl (by decide) (by omega) (fun h4 => ?_) (fun h4 => ?_)
    · refine zw_bipush ok_B_write rfl (by decide) ?_
      exact zw_iret ok_B_write rfl rfl (⟨rfl, hI, fun _ _ => rfl⟩)
    · refine zw_iload_n ok_B_write rfl rfl ?_
      refine zw_Sbp ok_B_write rfl ok_B_isSheet lk_B_152 (by decide) rfl (Nat.le_of_ble_eq_true rfl) (ct_B_isSheet (by omega)) ?_
      first | refine zw_ifne_d 17 ok_B_write rfl (by decide) (fun h11 => ?_) (fun h11 => ?_) | refine zw_ifne_b 17 ok_B_write rfl (by decide) (fun h11 => ?_) (fun h11 => ?_) | refine zw_if_ne 17 ok_B_write rfl (by decide) (by omega) (fun h11 => ?_) (fun h11 => ?_)
      · exact absurd ⟨h4, h11⟩ hg
      · refine zw_bipush ok_B_write rfl (by decide) ?_
        exact zw_iret ok_B_write rfl rfl (⟨rfl, hI, fun _ _ => rfl⟩)
/-- old bows read from a sheet: how many, and what is told then -/
def rdS (s : Int) : Nat → Int → Int → zMem → Int × zMem
  | 0, _, c, τ => (c, τ)
  | k + 1, i, c, τ => if (i + 3 ≤ τ 12 s ∧ ((0 ≤ τ (13 + s.toNat) i ∧ τ (13 + s.toNat) i ≤ 7) ∧ (0 ≤ τ (13 + s.toNat) (i + 1) ∧ τ (13 + s.toNat) (i + 1) ≤ 7) ∧ τ (13 + s.toNat) i ≠ τ (13 + s.toNat) (i + 1) ∧ 1 ≤ τ (13 + s.toNat) (i + 2) ∧ τ (13 + s.toNat) (i + 2) ≤ 99)) ∧ τ 2 2 < 12 then rdS s k (i + 3) (c + 1) (addO τ (τ (13 + s.toNat) i) (τ (13 + s.toNat) (i + 1)) (τ (13 + s.toNat) (i + 2))) else (c, τ)
def qRead (τ : zMem) (s : Int) : Int := if 0 ≤ s ∧ s ≤ 3 then (if τ 11 s = -1 then -11 else (rdS s 20 0 0 τ).1) else -2
def nRead (τ : zMem) (s : Int) : zMem := if 0 ≤ s ∧ s ≤ 3 then (if τ 11 s = -1 then fnd τ 1 else (rdS s 20 0 0 τ).2) else τ
theorem rd_loop {m0 : zMem} (hs : 0 ≤ s ∧ s ≤ 3) :
    ∀ (k : Nat) (i c : Int) (m τ : zMem), 0 ≤ i → 58 ≤ i + 3 * k → i ≤ 60 → CI m τ → cls48 m0 m → τ 11 s ≠ -1 → (∀ m2, CI m2 (rdS s k i c τ).2 → cls48 m0 m2 → Q (some (vi (rdS s k i c τ).1)) m2) → AW m_B_read 35 [some (vr 0), some (vi s), some (vr (40 + 2 * s.toNat)), some (vi c), some (vi i), none, none, none] [] m Q := by
  intro k
  induction k with
  | zero =>
    intro i c m τ h0 hk h60 hI hm hl hQ
    have hc := shC_at hI hs
    have hb := (shB_at hI hs).2.1
    refine zw_iload ok_B_read rfl rfl ?_
    refine zw_iconst ok_B_read rfl ?_
    refine zw_iadd ok_B_read rfl ?_
    refine zw_aload_n ok_B_read rfl rfl ?_
    refine zw_geti ok_B_read rfl fl_B_163 (zrow_sh hs) rfl ?_
    rw [hc.2.2.2.1]
    refine zw_icmp_gt 119 ok_B_read rfl (by decide) (by omega) (fun h43 => ?_) (fun h43 => ?_)
    · refine zw_iload_n ok_B_read rfl rfl ?_
      exact zw_iret ok_B_read rfl rfl (hQ m hI hm)
    · exfalso; omega
  | succ k ih =>
    intro i c m τ h0 hk h60 hI hm hl hQ
    have hc := shC_at hI hs
    have hb3 := shB_at hI hs
    have hb := hb3.2.1
    have b2 := hI.1.1.2.2.1
    have e12 := hI.2.2.2.1.1
    unfold rdS at hQ
    have it : ∀ j, 0 ≤ j → j < τ 12 s → m (40 + 2 * s.toNat + 1) j = τ (13 + s.toNat) j ∧ zR (τ (13 + s.toNat) j) := fun j q1 q2 => ⟨by rw [sh41]; exact hc.2.2.2.2 hl j q1 q2, hb3.2.2 j q1 q2 hl⟩
    by_cases hall : (i + 3 ≤ τ 12 s ∧ ((0 ≤ τ (13 + s.toNat) i ∧ τ (13 + s.toNat) i ≤ 7) ∧ (0 ≤ τ (13 + s.toNat) (i + 1) ∧ τ (13 + s.toNat) (i + 1) ≤ 7) ∧ τ (13 + s.toNat) i ≠ τ (13 + s.toNat) (i + 1) ∧ 1 ≤ τ (13 + s.toNat) (i + 2) ∧ τ (13 + s.toNat) (i + 2) ≤ 99)) ∧ τ 2 2 < 12
    · rw [if_pos hall] at hQ
      have hN := CI_addO hI hall.1.2 hall.2
      refine zw_iload ok_B_read rfl rfl ?_
      refine zw_iconst ok_B_read rfl ?_
      refine zw_iadd ok_B_read rfl ?_
      refine zw_aload_n ok_B_read rfl rfl ?_
      refine zw_geti ok_B_read rfl fl_B_163 (zrow_sh hs) rfl ?_
      rw [hc.2.2.2.1]
      refine zw_icmp_gt 119 ok_B_read rfl (by decide) (by omega) (fun h43 => ?_) (fun h43 => ?_)
      · exfalso; omega
      · have i0 := it i h0 (by omega)
        have i1 := it (i + 1) (by omega) (by omega)
        have i2 := it (i + 2) (by omega) (by omega)
        refine zw_aload_n ok_B_read rfl rfl ?_
        refine zw_getr ok_B_read rfl fl_B_164 (zrow_sh hs) rfl ?_
        refine zw_iload ok_B_read rfl rfl ?_
        refine zw_iald ok_B_read rfl (zrow_it hs) (by omega) ?_
        rw [i0.1]
        refine zw_istore ok_B_read rfl rfl (by decide) ?_
        refine zw_aload_n ok_B_read rfl rfl ?_
        refine zw_getr ok_B_read rfl fl_B_164 (zrow_sh hs) rfl ?_
        refine zw_iload ok_B_read rfl rfl ?_
        refine zw_iconst ok_B_read rfl ?_
        refine zw_iadd ok_B_read rfl ?_
        refine zw_iald ok_B_read rfl (zrow_it hs) (by omega) ?_
        rw [i1.1]
        refine zw_istore ok_B_read rfl rfl (by decide) ?_
        refine zw_aload_n ok_B_read rfl rfl ?_
        refine zw_getr ok_B_read rfl fl_B_164 (zrow_sh hs) rfl ?_
        refine zw_iload ok_B_read rfl rfl ?_
        refine zw_iconst ok_B_read rfl ?_
        refine zw_iadd ok_B_read rfl ?_
        refine zw_iald ok_B_read rfl (zrow_it hs) (by omega) ?_
        rw [i2.1]
        refine zw_istore ok_B_read rfl rfl (by decide) ?_
        refine zw_iload ok_B_read rfl rfl ?_
        refine zw_iload ok_B_read rfl rfl ?_
        refine zw_iload ok_B_read rfl rfl ?_
        refine zw_Sbp ok_B_read rfl ok_B_mayBeOld lk_B_144 (by decide) rfl (Nat.le_of_ble_eq_true rfl) (ct_B_mayBeOld ⟨⟨i0.2, i1.2⟩, i2.2⟩) ?_
        first | refine zw_ifeq_d 119 ok_B_read rfl (by decide) (fun h86 => ?_) (fun h86 => ?_) | refine zw_ifeq_b 119 ok_B_read rfl (by decide) (fun h86 => ?_) (fun h86 => ?_) | refine zw_if_eq 119 ok_B_read rfl (by decide) (by omega) (fun h86 => ?_) (fun h86 => ?_)
        · exact absurd hall.1.2 h86
        · refine zw_aload_n ok_B_read rfl rfl ?_
          refine zw_getr ok_B_read rfl fl_B_38 rfl rfl ?_
          refine zw_iload ok_B_read rfl rfl ?_
          refine zw_iload ok_B_read rfl rfl ?_
          refine zw_iload ok_B_read rfl rfl ?_
          refine zw_Vi ok_B_read rfl ok_Le_enter lk_B_147 (by decide) rfl rfl (Nat.le_of_ble_eq_true rfl) (ct_Le_enter (k := 12) (c := 12) (Or.inl ⟨rfl, rfl⟩) (by omega)) (fun m99 h99 => ?_)
          rw [if_pos (by omega)] at h99 ⊢
          subst h99
          refine zw_bipush ok_B_read rfl (by decide) ?_
          refine zw_icmp_ne 110 ok_B_read rfl (by decide) (by omega) (fun h104 => ?_) (fun h104 => ?_)
          · refine zw_iinc ok_B_read rfl rfl rfl (by decide) ?_
            refine zw_iinc ok_B_read rfl rfl rfl (by decide) ?_
            refine zw_goto 35 ok_B_read rfl (by decide) ?_
            refine zw_mask [true, true, true, true, true, false, false, false] rfl ?_
            refine ih (i + 3) (c + 1) _ _ (by omega) (by omega) (by omega) hN (hm.tr (cls4 (by omega))) ?_ hQ
            show τ 11 s ≠ -1
            exact hl
          · exfalso; omega
    · rw [if_neg hall] at hQ
      by_cases h12 : τ 2 2 < 12
      · refine zw_iload ok_B_read rfl rfl ?_
        refine zw_iconst ok_B_read rfl ?_
        refine zw_iadd ok_B_read rfl ?_
        refine zw_aload_n ok_B_read rfl rfl ?_
        refine zw_geti ok_B_read rfl fl_B_163 (zrow_sh hs) rfl ?_
        rw [hc.2.2.2.1]
        refine zw_icmp_gt 119 ok_B_read rfl (by decide) (by omega) (fun h43 => ?_) (fun h43 => ?_)
        · refine zw_iload_n ok_B_read rfl rfl ?_
          exact zw_iret ok_B_read rfl rfl (hQ _ hI hm)
        · have i0 := it i h0 (by omega)
          have i1 := it (i + 1) (by omega) (by omega)
          have i2 := it (i + 2) (by omega) (by omega)
          refine zw_aload_n ok_B_read rfl rfl ?_
          refine zw_getr ok_B_read rfl fl_B_164 (zrow_sh hs) rfl ?_
          refine zw_iload ok_B_read rfl rfl ?_
          refine zw_iald ok_B_read rfl (zrow_it hs) (by omega) ?_
          rw [i0.1]
          refine zw_istore ok_B_read rfl rfl (by decide) ?_
          refine zw_aload_n ok_B_read rfl rfl ?_
          refine zw_getr ok_B_read rfl fl_B_164 (zrow_sh hs) rfl ?_
          refine zw_iload ok_B_read rfl rfl ?_
          refine zw_iconst ok_B_read rfl ?_
          refine zw_iadd ok_B_read rfl ?_
          refine zw_iald ok_B_read rfl (zrow_it hs) (by omega) ?_
          rw [i1.1]
          refine zw_istore ok_B_read rfl rfl (by decide) ?_
          refine zw_aload_n ok_B_read rfl rfl ?_
          refine zw_getr ok_B_read rfl fl_B_164 (zrow_sh hs) rfl ?_
          refine zw_iload ok_B_read rfl rfl ?_
          refine zw_iconst ok_B_read rfl ?_
          refine zw_iadd ok_B_read rfl ?_
          refine zw_iald ok_B_read rfl (zrow_it hs) (by omega) ?_
          rw [i2.1]
          refine zw_istore ok_B_read rfl rfl (by decide) ?_
          refine zw_iload ok_B_read rfl rfl ?_
          refine zw_iload ok_B_read rfl rfl ?_
          refine zw_iload ok_B_read rfl rfl ?_
          refine zw_Sbp ok_B_read rfl ok_B_mayBeOld lk_B_144 (by decide) rfl (Nat.le_of_ble_eq_true rfl) (ct_B_mayBeOld ⟨⟨i0.2, i1.2⟩, i2.2⟩) ?_
          first | refine zw_ifeq_d 119 ok_B_read rfl (by decide) (fun h86 => ?_) (fun h86 => ?_) | refine zw_ifeq_b 119 ok_B_read rfl (by decide) (fun h86 => ?_) (fun h86 => ?_) | refine zw_if_eq 119 ok_B_read rfl (by decide) (by omega) (fun h86 => ?_) (fun h86 => ?_)
          · refine zw_iload_n ok_B_read rfl rfl ?_
            exact zw_iret ok_B_read rfl rfl (hQ _ hI hm)
          · exact absurd ⟨⟨by omega, h86⟩, h12⟩ hall
      · refine zw_iload ok_B_read rfl rfl ?_
        refine zw_iconst ok_B_read rfl ?_
        refine zw_iadd ok_B_read rfl ?_
        refine zw_aload_n ok_B_read rfl rfl ?_
        refine zw_geti ok_B_read rfl fl_B_163 (zrow_sh hs) rfl ?_
        rw [hc.2.2.2.1]
        refine zw_icmp_gt 119 ok_B_read rfl (by decide) (by omega) (fun h43 => ?_) (fun h43 => ?_)
        · refine zw_iload_n ok_B_read rfl rfl ?_
          exact zw_iret ok_B_read rfl rfl (hQ _ hI hm)
        · have i0 := it i h0 (by omega)
          have i1 := it (i + 1) (by omega) (by omega)
          have i2 := it (i + 2) (by omega) (by omega)
          refine zw_aload_n ok_B_read rfl rfl ?_
          refine zw_getr ok_B_read rfl fl_B_164 (zrow_sh hs) rfl ?_
          refine zw_iload ok_B_read rfl rfl ?_
          refine zw_iald ok_B_read rfl (zrow_it hs) (by omega) ?_
          rw [i0.1]
          refine zw_istore ok_B_read rfl rfl (by decide) ?_
          refine zw_aload_n ok_B_read rfl rfl ?_
          refine zw_getr ok_B_read rfl fl_B_164 (zrow_sh hs) rfl ?_
          refine zw_iload ok_B_read rfl rfl ?_
          refine zw_iconst ok_B_read rfl ?_
          refine zw_iadd ok_B_read rfl ?_
          refine zw_iald ok_B_read rfl (zrow_it hs) (by omega) ?_
          rw [i1.1]
          refine zw_istore ok_B_read rfl rfl (by decide) ?_
          refine zw_aload_n ok_B_read rfl rfl ?_
          refine zw_getr ok_B_read rfl fl_B_164 (zrow_sh hs) rfl ?_
          refine zw_iload ok_B_read rfl rfl ?_
          refine zw_iconst ok_B_read rfl ?_
          refine zw_iadd ok_B_read rfl ?_
          refine zw_iald ok_B_read rfl (zrow_it hs) (by omega) ?_
          rw [i2.1]
          refine zw_istore ok_B_read rfl rfl (by decide) ?_
          refine zw_iload ok_B_read rfl rfl ?_
          refine zw_iload ok_B_read rfl rfl ?_
          refine zw_iload ok_B_read rfl rfl ?_
          refine zw_Sbp ok_B_read rfl ok_B_mayBeOld lk_B_144 (by decide) rfl (Nat.le_of_ble_eq_true rfl) (ct_B_mayBeOld ⟨⟨i0.2, i1.2⟩, i2.2⟩) ?_
          first | refine zw_ifeq_d 119 ok_B_read rfl (by decide) (fun h86 => ?_) (fun h86 => ?_) | refine zw_ifeq_b 119 ok_B_read rfl (by decide) (fun h86 => ?_) (fun h86 => ?_) | refine zw_if_eq 119 ok_B_read rfl (by decide) (by omega) (fun h86 => ?_) (fun h86 => ?_)
          · refine zw_iload_n ok_B_read rfl rfl ?_
            exact zw_iret ok_B_read rfl rfl (hQ _ hI hm)
          · refine zw_aload_n ok_B_read rfl rfl ?_
            refine zw_getr ok_B_read rfl fl_B_38 rfl rfl ?_
            refine zw_iload ok_B_read rfl rfl ?_
            refine zw_iload ok_B_read rfl rfl ?_
            refine zw_iload ok_B_read rfl rfl ?_
            refine zw_Vi ok_B_read rfl ok_Le_enter lk_B_147 (by decide) rfl rfl (Nat.le_of_ble_eq_true rfl) (ct_Le_enter (k := 12) (c := 12) (Or.inl ⟨rfl, rfl⟩) (by omega)) (fun m99 h99 => ?_)
            rw [if_neg (by omega)] at h99 ⊢
            subst h99
            refine zw_bipush ok_B_read rfl (by decide) ?_
            refine zw_icmp_ne 110 ok_B_read rfl (by decide) (by omega) (fun h104 => ?_) (fun h104 => ?_)
            · exact absurd rfl h104
            · refine zw_goto 119 ok_B_read rfl (by decide) ?_
              refine zw_iload_n ok_B_read rfl rfl ?_
              exact zw_iret ok_B_read rfl rfl (hQ _ hI hm)
theorem ct_B_read (hI : CI mem τ) (hs : zR s) : zCi m_B_read [vr 0, vi s] mem (qRead τ s) (fun m2 => CI m2 (nRead τ s) ∧ cls48 mem m2) := by
  refine zCt.of [some (vr 0), some (vi s), none, none, none, none, none, none] ok_B_read (Nat.le_of_ble_eq_true rfl) rfl ?_
  unfold qRead nRead
  by_cases hg : 0 ≤ s ∧ s ≤ 3
  · have hc := shC_at hI hg
    rw [if_pos hg, if_pos hg]
    refine zw_iload_n ok_B_read rfl rfl ?_
    refine zw_Sbp ok_B_read rfl ok_B_isSheet lk_B_152 (by decide) rfl (Nat.le_of_ble_eq_true rfl) (ct_B_isSheet (by omega)) ?_
    first | refine zw_ifne_d 10 ok_B_read rfl (by decide) (fun h4 => ?_) (fun h4 => ?_) | refine zw_ifne_b 10 ok_B_read rfl (by decide) (fun h4 => ?_) (fun h4 => ?_) | refine zw_if_ne 10 ok_B_read rfl (by decide) (by omega) (fun h4 => ?_) (fun h4 => ?_)
    · refine zw_aload_n ok_B_read rfl rfl ?_
      refine zw_getr ok_B_read rfl fl_B_91 rfl rfl ?_
      refine zw_iload_n ok_B_read rfl rfl ?_
      refine zw_aald ok_B_read rfl rfl (by omega) (zfld_sh hg) ?_
      refine zw_astore_n ok_B_read rfl rfl (by decide) ?_
      refine zw_aload_n ok_B_read rfl rfl ?_
      refine zw_geti ok_B_read rfl fl_B_155 (zrow_sh hg) rfl ?_
      refine zw_if_eq 30 ok_B_read rfl (by decide) (by have := hc.1.1; omega) (fun h21 => ?_) (fun h21 => ?_)
      · have n1 : τ 11 s ≠ -1 := fun q => by have := hc.2.1.2 q; omega
        rw [if_neg n1, if_neg n1]
        refine zw_iconst ok_B_read rfl ?_
        refine zw_istore_n ok_B_read rfl rfl (by decide) ?_
        refine zw_iconst ok_B_read rfl ?_
        refine zw_istore ok_B_read rfl rfl (by decide) ?_
        exact rd_loop (m0 := mem) hg 20 0 0 mem τ (by omega) (by omega) (by omega) hI (fun _ _ => rfl) n1 (fun m2 q1 q2 => ⟨rfl, q1, q2⟩)
      · have n1 : τ 11 s = -1 := hc.2.1.1 (by have := hc.1.1; omega)
        rw [if_pos n1, if_pos n1]
        refine zw_aload_n ok_B_read rfl rfl ?_
        refine zw_iconst ok_B_read rfl ?_
        refine zw_Vi ok_B_read rfl ok_B_found lk_B_159 (by decide) rfl rfl (Nat.le_of_ble_eq_true rfl) (ct_B_found) (fun m26 h26 => ?_)
        subst h26
        exact zw_iret ok_B_read rfl rfl (⟨rfl, CI_fnd hI (by omega)⟩)
    · exact absurd hg h4
  · rw [if_neg hg, if_neg hg]
    refine zw_iload_n ok_B_read rfl rfl ?_
    refine zw_Sbp ok_B_read rfl ok_B_isSheet lk_B_152 (by decide) rfl (Nat.le_of_ble_eq_true rfl) (ct_B_isSheet (by omega)) ?_
    first | refine zw_ifne_d 10 ok_B_read rfl (by decide) (fun h4 => ?_) (fun h4 => ?_) | refine zw_ifne_b 10 ok_B_read rfl (by decide) (fun h4 => ?_) (fun h4 => ?_) | refine zw_if_ne 10 ok_B_read rfl (by decide) (by omega) (fun h4 => ?_) (fun h4 => ?_)
    · exact absurd h4 hg
    · refine zw_bipush ok_B_read rfl (by decide) ?_
      exact zw_iret ok_B_read rfl rfl (⟨rfl, hI, fun _ _ => rfl⟩)
end
