/-! ===== LowerBows: lay, get, copy ===== -/
section
variable {mem m2 τ τ2 : zMem} {s : Int}
def shF (τ : zMem) (s f i : Int) : Int := if τ 11 s = -1 then 1 else if τ 11 s ≠ f then 3 else if 0 ≤ i ∧ i < τ 12 s then 0 else 2
theorem shF_c (hI : CI mem τ) (hs : 0 ≤ s ∧ s ≤ 3) {f i : Int} : fndS mem (40 + 2 * s.toNat) f i = shF τ s f i := by
  have hc := shC_at hI hs
  unfold fndS shF
  by_cases e : τ 11 s = -1
  · rw [if_pos e, if_pos (by have := hc.2.1.2 e; omega)]
  · have : ¬ mem (40 + 2 * s.toNat) 1 ≠ 0 := fun q => e (hc.2.1.1 (by have := hc.1.1; omega))
    rw [if_neg e, if_neg this, hc.2.2.1 e, hc.2.2.2.1]
    split
    · rfl
    · by_cases q : 0 ≤ i ∧ i < τ 12 s
      · rw [if_pos q, if_pos (by omega)]
      · rw [if_neg q, if_neg (by omega)]
theorem shF_r {f i : Int} : 0 ≤ shF τ s f i ∧ shF τ s f i ≤ 3 := by unfold shF; repeat' split
                                                                    all_goals omega
theorem shF_0 {f i : Int} (h : shF τ s f i = 0) : τ 11 s ≠ -1 ∧ τ 11 s = f ∧ 0 ≤ i ∧ i < τ 12 s := by
  unfold shF at h
  split at h
  · omega
  · rename_i h1
    split at h
    · omega
    · rename_i h2
      split at h
      · rename_i h3; exact ⟨h1, by omega, h3⟩
      · omega
def qLay (τ : zMem) (s f i : Int) : Int := if (0 ≤ s ∧ s ≤ 3) ∧ (0 ≤ f ∧ f ≤ 2) then (if shF τ s f i = 0 then 1 else -10 - shF τ s f i) else -2
def nLay (τ : zMem) (s f i v : Int) : zMem := if (0 ≤ s ∧ s ≤ 3) ∧ (0 ≤ f ∧ f ≤ 2) then (if shF τ s f i = 0 then zset τ (13 + s.toNat) i (cutS (τ 11 s) v) else fnd τ (shF τ s f i)) else τ
theorem CI_items {g t : Int → Int} (hI : CI mem τ) (hs : 0 ≤ s ∧ s ≤ 3) (hg : τ 11 s ≠ -1 → ∀ i, 0 ≤ i → i < τ 12 s → g i = t i) (hz : ∀ i, 0 ≤ i → i < τ 12 s → τ 11 s ≠ -1 → zR (t i)) : CI (zput mem (40 + 2 * s.toNat + 1) g) (zput τ (13 + s.toNat) t) ∧ cls48 mem (zput mem (40 + 2 * s.toNat + 1) g) := by
  have hc := shC_at hI hs
  have hb := shB_at hI hs
  rw [sh41]
  refine CI_sh hI hs (fun k q1 q2 => zput_ne q2) (fun k q => zput_ne (by omega)) (fun j hj => ?_) (fun k q1 q2 => zput_ne q2) ?_ ?_
  · rw [zput_ne (by omega), zput_ne (by omega)]; exact ⟨rfl, rfl⟩
  · rw [zput_ne (by omega), zput_ne (by omega), zput_eq]; exact ⟨hb.1, hb.2.1, hz⟩
  · unfold shC shR at *
    rw [zput_ne (k := 13 + s.toNat) (by omega), zput_ne (k := 13 + s.toNat) (by omega), zput_eq, zput_eq, zput_ne (by omega)]
    exact ⟨hc.1, hc.2.1, hc.2.2.1, hc.2.2.2.1, hg⟩
theorem CI_lay {i v : Int} (hI : CI mem τ) (hs : 0 ≤ s ∧ s ≤ 3) (hl : τ 11 s ≠ -1) (hv : zR v) : CI (zset mem (40 + 2 * s.toNat + 1) i (cutS (mem (40 + 2 * s.toNat) 2) v)) (zset τ (13 + s.toNat) i (cutS (τ 11 s) v)) ∧ cls48 mem (zset mem (40 + 2 * s.toNat + 1) i (cutS (mem (40 + 2 * s.toNat) 2) v)) := by
  have hc := shC_at hI hs
  have hb := shB_at hI hs
  refine CI_items hI hs (fun hl j q1 q2 => ?_) (fun j q1 q2 hl => ?_)
  · rw [hc.2.2.1 hl]
    by_cases e : j = i
    · subst e; rw [zupd_eq, zupd_eq]
    · rw [zupd_ne e, zupd_ne e, sh41]; exact hc.2.2.2.2 hl j q1 q2
  · by_cases e : j = i
    · subst e; rw [zupd_eq]; exact zR_cut hv
    · rw [zupd_ne e]; exact hb.2.2 j q1 q2 hl
theorem ct_B_lay {f i v : Int} (hI : CI mem τ) (hs : zR s) (hf : zR f) (hi : zR i) (hv : zR v) : zCi m_B_lay [vr 0, vi s, vi f, vi i, vi v] mem (qLay τ s f i) (fun m2 => CI m2 (nLay τ s f i v) ∧ cls48 mem m2) := by
  refine zCt.of [some (vr 0), some (vi s), some (vi f), some (vi i), some (vi v), none] ok_B_lay (Nat.le_of_ble_eq_true rfl) rfl ?_
  unfold qLay nLay
  by_cases hg : (0 ≤ s ∧ s ≤ 3) ∧ (0 ≤ f ∧ f ≤ 2)
  · have hc := shC_at hI hg.1
    have hb := shB_at hI hg.1
    have hr := shF_r (τ := τ) (s := s) (f := f) (i := i)
    rw [if_pos hg, if_pos hg]
    refine zw_iload_n ok_B_lay rfl rfl ?_
    refine zw_Sbp ok_B_lay rfl ok_B_isSheet lk_B_152 (by decide) rfl (Nat.le_of_ble_eq_true rfl) (ct_B_isSheet (by omega)) ?_
    first | refine zw_ifeq_d 14 ok_B_lay rfl (by decide) (fun h4 => ?_) (fun h4 => ?_) | refine zw_ifeq_b 14 ok_B_lay rfl (by decide) (fun h4 => ?_) (fun h4 => ?_) | refine zw_if_eq 14 ok_B_lay rfl (by decide) (by omega) (fun h4 => ?_) (fun h4 => ?_)
    · exact absurd hg.1 h4
    · refine zw_iload_n ok_B_lay rfl rfl ?_
      refine zw_Sbp ok_B_lay rfl ok_B_isForm lk_B_247 (by decide) rfl (Nat.le_of_ble_eq_true rfl) (ct_B_isForm (by omega)) ?_
      first | refine zw_ifne_d 17 ok_B_lay rfl (by decide) (fun h11 => ?_) (fun h11 => ?_) | refine zw_ifne_b 17 ok_B_lay rfl (by decide) (fun h11 => ?_) (fun h11 => ?_) | refine zw_if_ne 17 ok_B_lay rfl (by decide) (by omega) (fun h11 => ?_) (fun h11 => ?_)
      · refine zw_aload_n ok_B_lay rfl rfl ?_
        refine zw_getr ok_B_lay rfl fl_B_91 rfl rfl ?_
        refine zw_iload_n ok_B_lay rfl rfl ?_
        refine zw_aald ok_B_lay rfl rfl (by omega) (zfld_sh hg.1) ?_
        refine zw_iload_n ok_B_lay rfl rfl ?_
        refine zw_iload_n ok_B_lay rfl rfl ?_
        refine zw_Vip ok_B_lay rfl ok_Se_findingAt lk_B_253 (by decide) rfl (zrow_sh hg.1) (Nat.le_of_ble_eq_true rfl) (ct_Se_findingAt (shK_s hg.1) hc.1 hg.2 hi) ?_
        rw [shF_c hI hg.1]
        refine zw_istore ok_B_lay rfl rfl (by decide) ?_
        refine zw_iload ok_B_lay rfl rfl ?_
        refine zw_if_eq 42 ok_B_lay rfl (by decide) (by omega) (fun h32 => ?_) (fun h32 => ?_)
        · rw [if_pos h32, if_pos h32]
          have h0 := shF_0 h32
          refine zw_aload_n ok_B_lay rfl rfl ?_
          refine zw_getr ok_B_lay rfl fl_B_91 rfl rfl ?_
          refine zw_iload_n ok_B_lay rfl rfl ?_
          refine zw_aald ok_B_lay rfl rfl (by omega) (zfld_sh hg.1) ?_
          refine zw_iload_n ok_B_lay rfl rfl ?_
          refine zw_iload ok_B_lay rfl rfl ?_
          refine zw_Vvp ok_B_lay rfl ok_Se_put lk_B_256 (by decide) rfl (zrow_sh hg.1) (Nat.le_of_ble_eq_true rfl) (ct_Se_put (shK_s hg.1) hc.1 (by have := hb.2.1; omega)) ?_
          refine zw_iconst ok_B_lay rfl ?_
          exact zw_iret ok_B_lay rfl rfl (⟨rfl, CI_lay hI hg.1 h0.1 hv⟩)
        · rw [if_neg h32, if_neg h32]
          refine zw_aload_n ok_B_lay rfl rfl ?_
          refine zw_iload ok_B_lay rfl rfl ?_
          refine zw_Vi ok_B_lay rfl ok_B_found lk_B_159 (by decide) rfl rfl (Nat.le_of_ble_eq_true rfl) (ct_B_found) (fun m38 h38 => ?_)
          subst h38
          exact zw_iret ok_B_lay rfl rfl (⟨rfl, CI_fnd hI (by omega)⟩)
      · exact absurd hg.2 h11
  · rw [if_neg hg, if_neg hg]
    refine zw_iload_n ok_B_lay rfl rfl ?_
    refine zw_Sbp ok_B_lay rfl ok_B_isSheet lk_B_152 (by decide) rfl (Nat.le_of_ble_eq_true rfl) (ct_B_isSheet (by omega)) ?_
    first | refine zw_ifeq_d 14 ok_B_lay rfl (by decide) (fun h4 => ?_) (fun h4 => ?_) | refine zw_ifeq_b 14 ok_B_lay rfl (by decide) (fun h4 => ?_) (fun h4 => ?_) | refine zw_if_eq 14 ok_B_lay rfl (by decide) (by omega) (fun h4 => ?_) (fun h4 => ?_)
    · refine zw_bipush ok_B_lay rfl (by decide) ?_
      exact zw_iret ok_B_lay rfl rfl (⟨rfl, hI, fun _ _ => rfl⟩)
    · refine zw_iload_n ok_B_lay rfl rfl ?_
      refine zw_Sbp ok_B_lay rfl ok_B_isForm lk_B_247 (by decide) rfl (Nat.le_of_ble_eq_true rfl) (ct_B_isForm (by omega)) ?_
      first | refine zw_ifne_d 17 ok_B_lay rfl (by decide) (fun h11 => ?_) (fun h11 => ?_) | refine zw_ifne_b 17 ok_B_lay rfl (by decide) (fun h11 => ?_) (fun h11 => ?_) | refine zw_if_ne 17 ok_B_lay rfl (by decide) (by omega) (fun h11 => ?_) (fun h11 => ?_)
      · exact absurd ⟨h4, h11⟩ hg
      · refine zw_bipush ok_B_lay rfl (by decide) ?_
        exact zw_iret ok_B_lay rfl rfl (⟨rfl, hI, fun _ _ => rfl⟩)
def qGet (τ : zMem) (s f i : Int) : Int := if (0 ≤ s ∧ s ≤ 3) ∧ (0 ≤ f ∧ f ≤ 2) then (if shF τ s f i = 0 then τ (13 + s.toNat) i else -2147483648) else -2147483648
def nGet (τ : zMem) (s f i : Int) : zMem := if (0 ≤ s ∧ s ≤ 3) ∧ (0 ≤ f ∧ f ≤ 2) then (if shF τ s f i = 0 then τ else fnd τ (shF τ s f i)) else τ
theorem ct_B_get {f i : Int} (hI : CI mem τ) (hs : zR s) (hf : zR f) (hi : zR i) : zCi m_B_get [vr 0, vi s, vi f, vi i] mem (qGet τ s f i) (fun m2 => CI m2 (nGet τ s f i) ∧ cls48 mem m2) := by
  refine zCt.of [some (vr 0), some (vi s), some (vi f), some (vi i), none] ok_B_get (Nat.le_of_ble_eq_true rfl) rfl ?_
  unfold qGet nGet
  by_cases hg : (0 ≤ s ∧ s ≤ 3) ∧ (0 ≤ f ∧ f ≤ 2)
  · have hc := shC_at hI hg.1
    have hb := shB_at hI hg.1
    have hr := shF_r (τ := τ) (s := s) (f := f) (i := i)
    rw [if_pos hg, if_pos hg]
    refine zw_iload_n ok_B_get rfl rfl ?_
    refine zw_Sbp ok_B_get rfl ok_B_isSheet lk_B_152 (by decide) rfl (Nat.le_of_ble_eq_true rfl) (ct_B_isSheet (by omega)) ?_
    first | refine zw_ifeq_d 14 ok_B_get rfl (by decide) (fun h4 => ?_) (fun h4 => ?_) | refine zw_ifeq_b 14 ok_B_get rfl (by decide) (fun h4 => ?_) (fun h4 => ?_) | refine zw_if_eq 14 ok_B_get rfl (by decide) (by omega) (fun h4 => ?_) (fun h4 => ?_)
    · exact absurd hg.1 h4
    · refine zw_iload_n ok_B_get rfl rfl ?_
      refine zw_Sbp ok_B_get rfl ok_B_isForm lk_B_247 (by decide) rfl (Nat.le_of_ble_eq_true rfl) (ct_B_isForm (by omega)) ?_
      first | refine zw_ifne_d 18 ok_B_get rfl (by decide) (fun h11 => ?_) (fun h11 => ?_) | refine zw_ifne_b 18 ok_B_get rfl (by decide) (fun h11 => ?_) (fun h11 => ?_) | refine zw_if_ne 18 ok_B_get rfl (by decide) (by omega) (fun h11 => ?_) (fun h11 => ?_)
      · refine zw_aload_n ok_B_get rfl rfl ?_
        refine zw_getr ok_B_get rfl fl_B_91 rfl rfl ?_
        refine zw_iload_n ok_B_get rfl rfl ?_
        refine zw_aald ok_B_get rfl rfl (by omega) (zfld_sh hg.1) ?_
        refine zw_iload_n ok_B_get rfl rfl ?_
        refine zw_iload_n ok_B_get rfl rfl ?_
        refine zw_Vip ok_B_get rfl ok_Se_findingAt lk_B_253 (by decide) rfl (zrow_sh hg.1) (Nat.le_of_ble_eq_true rfl) (ct_Se_findingAt (shK_s hg.1) hc.1 hg.2 hi) ?_
        rw [shF_c hI hg.1]
        refine zw_istore ok_B_get rfl rfl (by decide) ?_
        refine zw_iload ok_B_get rfl rfl ?_
        refine zw_if_eq 47 ok_B_get rfl (by decide) (by omega) (fun h33 => ?_) (fun h33 => ?_)
        · rw [if_pos h33, if_pos h33]
          have h0 := shF_0 h33
          refine zw_aload_n ok_B_get rfl rfl ?_
          refine zw_getr ok_B_get rfl fl_B_91 rfl rfl ?_
          refine zw_iload_n ok_B_get rfl rfl ?_
          refine zw_aald ok_B_get rfl rfl (by omega) (zfld_sh hg.1) ?_
          refine zw_getr ok_B_get rfl fl_B_164 (zrow_sh hg.1) rfl ?_
          refine zw_iload_n ok_B_get rfl rfl ?_
          refine zw_iald ok_B_get rfl (zrow_it hg.1) (by have := hb.2.1; omega) ?_
          exact zw_iret ok_B_get rfl rfl (⟨by rw [sh41, hc.2.2.2.2 h0.1 i h0.2.2.1 h0.2.2.2], hI, fun _ _ => rfl⟩)
        · rw [if_neg h33, if_neg h33]
          refine zw_aload_n ok_B_get rfl rfl ?_
          refine zw_iload ok_B_get rfl rfl ?_
          refine zw_Vi ok_B_get rfl ok_B_found lk_B_159 (by decide) rfl rfl (Nat.le_of_ble_eq_true rfl) (ct_B_found) (fun m39 h39 => ?_)
          subst h39
          refine zw_popi ok_B_get rfl ?_
          refine zw_ldcw ok_B_get rfl kc_B_259 ?_
          exact zw_iret ok_B_get rfl rfl (⟨rfl, CI_fnd hI (by omega)⟩)
      · exact absurd hg.2 h11
  · rw [if_neg hg, if_neg hg]
    refine zw_iload_n ok_B_get rfl rfl ?_
    refine zw_Sbp ok_B_get rfl ok_B_isSheet lk_B_152 (by decide) rfl (Nat.le_of_ble_eq_true rfl) (ct_B_isSheet (by omega)) ?_
    first | refine zw_ifeq_d 14 ok_B_get rfl (by decide) (fun h4 => ?_) (fun h4 => ?_) | refine zw_ifeq_b 14 ok_B_get rfl (by decide) (fun h4 => ?_) (fun h4 => ?_) | refine zw_if_eq 14 ok_B_get rfl (by decide) (by omega) (fun h4 => ?_) (fun h4 => ?_)
    · refine zw_ldcw ok_B_get rfl kc_B_259 ?_
      exact zw_iret ok_B_get rfl rfl (⟨rfl, hI, fun _ _ => rfl⟩)
    · refine zw_iload_n ok_B_get rfl rfl ?_
      refine zw_Sbp ok_B_get rfl ok_B_isForm lk_B_247 (by decide) rfl (Nat.le_of_ble_eq_true rfl) (ct_B_isForm (by omega)) ?_
      first | refine zw_ifne_d 18 ok_B_get rfl (by decide) (fun h11 => ?_) (fun h11 => ?_) | refine zw_ifne_b 18 ok_B_get rfl (by decide) (fun h11 => ?_) (fun h11 => ?_) | refine zw_if_ne 18 ok_B_get rfl (by decide) (by omega) (fun h11 => ?_) (fun h11 => ?_)
      · exact absurd ⟨h4, h11⟩ hg
      · refine zw_ldcw ok_B_get rfl kc_B_259 ?_
        exact zw_iret ok_B_get rfl rfl (⟨rfl, hI, fun _ _ => rfl⟩)
/-- what copy finds: 0 when it may be done -/
def cpF (τ : zMem) (s a t b n : Int) : Int := if τ 11 s = -1 ∨ τ 11 t = -1 then 1 else if τ 11 s ≠ τ 11 t then 4 else if (0 ≤ a ∧ 0 ≤ n ∧ n ≤ τ 12 s - a) ∧ (0 ≤ b ∧ 0 ≤ n ∧ n ≤ τ 12 t - b) then 0 else 2
def qCopy (τ : zMem) (s a t b n : Int) : Int := if (0 ≤ s ∧ s ≤ 3) ∧ (0 ≤ t ∧ t ≤ 3) then (if cpF τ s a t b n = 0 then 1 else -10 - cpF τ s a t b n) else -2
def nCopy (τ : zMem) (s a t b n : Int) : zMem := if (0 ≤ s ∧ s ≤ 3) ∧ (0 ≤ t ∧ t ≤ 3) then (if cpF τ s a t b n = 0 then zput τ (13 + t.toNat) (zcpy (τ (13 + s.toNat)) (τ (13 + t.toNat)) a b n) else fnd τ (cpF τ s a t b n)) else τ
theorem CI_copy {t a b n : Int} (hI : CI mem τ) (hs : 0 ≤ s ∧ s ≤ 3) (ht : 0 ≤ t ∧ t ≤ 3) (hl : τ 11 s ≠ -1) (hq : (0 ≤ a ∧ 0 ≤ n ∧ n ≤ τ 12 s - a) ∧ (0 ≤ b ∧ 0 ≤ n ∧ n ≤ τ 12 t - b)) : CI (zput mem (40 + 2 * t.toNat + 1) (zcpy (mem (40 + 2 * s.toNat + 1)) (mem (40 + 2 * t.toNat + 1)) a b n)) (zput τ (13 + t.toNat) (zcpy (τ (13 + s.toNat)) (τ (13 + t.toNat)) a b n)) ∧ cls48 mem (zput mem (40 + 2 * t.toNat + 1) (zcpy (mem (40 + 2 * s.toNat + 1)) (mem (40 + 2 * t.toNat + 1)) a b n)) := by
  have hc := shC_at hI ht
  have hb := shB_at hI ht
  have hc2 := shC_at hI hs
  have hb2 := shB_at hI hs
  refine CI_items hI ht (fun hlt i q1 q2 => ?_) (fun i q1 q2 hlt => ?_)
  · unfold zcpy
    rw [sh41, sh41]
    split
    · exact hc2.2.2.2.2 hl _ (by omega) (by omega)
    · exact hc.2.2.2.2 hlt i q1 q2
  · unfold zcpy
    split
    · exact hb2.2.2 _ (by omega) (by omega) hl
    · exact hb.2.2 i q1 q2 hlt
theorem ct_B_copy {t a b n : Int} (hI : CI mem τ) (hs : zR s) (ha : zR a) (ht : zR t) (hb : zR b) (hn : zR n) : zCi m_B_copy [vr 0, vi s, vi a, vi t, vi b, vi n] mem (qCopy τ s a t b n) (fun m2 => CI m2 (nCopy τ s a t b n) ∧ cls48 mem m2) := by
  refine zCt.of [some (vr 0), some (vi s), some (vi a), some (vi t), some (vi b), some (vi n), none, none] ok_B_copy (Nat.le_of_ble_eq_true rfl) rfl ?_
  unfold qCopy nCopy
  by_cases hg : (0 ≤ s ∧ s ≤ 3) ∧ (0 ≤ t ∧ t ≤ 3)
  · have hc := shC_at hI hg.1
    have hb1 := shB_at hI hg.1
    have hc2 := shC_at hI hg.2
    have hb2 := shB_at hI hg.2
    rw [if_pos hg, if_pos hg]
    have L1 : τ 11 s = -1 ∨ τ 11 t = -1 → cpF τ s a t b n = 1 := fun q => if_pos q
    have L2 : ¬ (τ 11 s = -1 ∨ τ 11 t = -1) → τ 11 s ≠ τ 11 t → cpF τ s a t b n = 4 := fun q q2 => by unfold cpF; rw [if_neg q, if_pos q2]
    have L3 : ¬ (τ 11 s = -1 ∨ τ 11 t = -1) → τ 11 s = τ 11 t → ¬ ((0 ≤ a ∧ 0 ≤ n ∧ n ≤ τ 12 s - a) ∧ (0 ≤ b ∧ 0 ≤ n ∧ n ≤ τ 12 t - b)) → cpF τ s a t b n = 2 := fun q q2 q3 => by unfold cpF; rw [if_neg q, if_neg (fun z => z q2), if_neg q3]
    have L4 : ¬ (τ 11 s = -1 ∨ τ 11 t = -1) → τ 11 s = τ 11 t → ((0 ≤ a ∧ 0 ≤ n ∧ n ≤ τ 12 s - a) ∧ (0 ≤ b ∧ 0 ≤ n ∧ n ≤ τ 12 t - b)) → cpF τ s a t b n = 0 := fun q q2 q3 => by unfold cpF; rw [if_neg q, if_neg (fun z => z q2), if_pos q3]
    refine zw_iload_n ok_B_copy rfl rfl ?_
    refine zw_Sbp ok_B_copy rfl ok_B_isSheet lk_B_152 (by decide) rfl (Nat.le_of_ble_eq_true rfl) (ct_B_isSheet (by omega)) ?_
    first | refine zw_ifeq_d 14 ok_B_copy rfl (by decide) (fun h4 => ?_) (fun h4 => ?_) | refine zw_ifeq_b 14 ok_B_copy rfl (by decide) (fun h4 => ?_) (fun h4 => ?_) | refine zw_if_eq 14 ok_B_copy rfl (by decide) (by omega) (fun h4 => ?_) (fun h4 => ?_)
    · exact absurd hg.1 h4
    · refine zw_iload_n ok_B_copy rfl rfl ?_
      refine zw_Sbp ok_B_copy rfl ok_B_isSheet lk_B_152 (by decide) rfl (Nat.le_of_ble_eq_true rfl) (ct_B_isSheet (by omega)) ?_
      first | refine zw_ifne_d 17 ok_B_copy rfl (by decide) (fun h11 => ?_) (fun h11 => ?_) | refine zw_ifne_b 17 ok_B_copy rfl (by decide) (fun h11 => ?_) (fun h11 => ?_) | refine zw_if_ne 17 ok_B_copy rfl (by decide) (by omega) (fun h11 => ?_) (fun h11 => ?_)
      · refine zw_aload_n ok_B_copy rfl rfl ?_
        refine zw_getr ok_B_copy rfl fl_B_91 rfl rfl ?_
        refine zw_iload_n ok_B_copy rfl rfl ?_
        refine zw_aald ok_B_copy rfl rfl (by omega) (zfld_sh hg.1) ?_
        refine zw_astore ok_B_copy rfl rfl (by decide) ?_
        refine zw_aload_n ok_B_copy rfl rfl ?_
        refine zw_getr ok_B_copy rfl fl_B_91 rfl rfl ?_
        refine zw_iload_n ok_B_copy rfl rfl ?_
        refine zw_aald ok_B_copy rfl rfl (by omega) (zfld_sh hg.2) ?_
        refine zw_astore ok_B_copy rfl rfl (by decide) ?_
        refine zw_aload ok_B_copy rfl rfl ?_
        refine zw_geti ok_B_copy rfl fl_B_155 (zrow_sh hg.1) rfl ?_
        refine zw_if_ne 49 ok_B_copy rfl (by decide) (by have := hc.1.1; omega) (fun h38 => ?_) (fun h38 => ?_)
        · have e1 : cpF τ s a t b n = 1 := L1 (Or.inl (hc.2.1.1 (by have := hc.1.1; omega)))
          rw [e1, if_neg (by decide), if_neg (by decide)]
          refine zw_aload_n ok_B_copy rfl rfl ?_
          refine zw_iconst ok_B_copy rfl ?_
          refine zw_Vi ok_B_copy rfl ok_B_found lk_B_159 (by decide) rfl rfl (Nat.le_of_ble_eq_true rfl) (ct_B_found) (fun m51 h51 => ?_)
          subst h51
          exact zw_iret ok_B_copy rfl rfl (⟨rfl, CI_fnd hI (by omega)⟩)
        · have n1 : τ 11 s ≠ -1 := fun q => by have := hc.2.1.2 q; omega
          refine zw_aload ok_B_copy rfl rfl ?_
          refine zw_geti ok_B_copy rfl fl_B_155 (zrow_sh hg.2) rfl ?_
          refine zw_if_eq 55 ok_B_copy rfl (by decide) (by have := hc2.1.1; omega) (fun h46 => ?_) (fun h46 => ?_)
          · have n2 : τ 11 t ≠ -1 := fun q => by have := hc2.2.1.2 q; omega
            have n3 : ¬ (τ 11 s = -1 ∨ τ 11 t = -1) := fun q => q.elim n1 n2
            refine zw_aload ok_B_copy rfl rfl ?_
            refine zw_geti ok_B_copy rfl fl_B_260 (zrow_sh hg.1) rfl ?_
            refine zw_aload ok_B_copy rfl rfl ?_
            refine zw_geti ok_B_copy rfl fl_B_260 (zrow_sh hg.2) rfl ?_
            refine zw_icmp_eq 74 ok_B_copy rfl (by decide) (by have := hc.1.2; have := hc2.1.2; omega) (fun h65 => ?_) (fun h65 => ?_)
            · have n4 : τ 11 s = τ 11 t := by rw [← hc.2.2.1 n1, ← hc2.2.2.1 n2]; exact h65
              refine zw_aload ok_B_copy rfl rfl ?_
              refine zw_iload_n ok_B_copy rfl rfl ?_
              refine zw_iload ok_B_copy rfl rfl ?_
              refine zw_Vbp ok_B_copy rfl ok_Se_hasItems lk_B_263 (by decide) rfl (zrow_sh hg.1) (Nat.le_of_ble_eq_true rfl) (ct_Se_hasItems (shK_s hg.1) hc.1 ha hn) ?_
              first | refine zw_ifeq_d 97 ok_B_copy rfl (by decide) (fun h82 => ?_) (fun h82 => ?_) | refine zw_ifeq_b 97 ok_B_copy rfl (by decide) (fun h82 => ?_) (fun h82 => ?_) | refine zw_if_eq 97 ok_B_copy rfl (by decide) (by omega) (fun h82 => ?_) (fun h82 => ?_)
              · have e1 : cpF τ s a t b n = 2 := L3 n3 n4 (fun q => h82 (by rw [hc.2.2.2.1]; exact q.1))
                rw [e1, if_neg (by decide), if_neg (by decide)]
                refine zw_aload_n ok_B_copy rfl rfl ?_
                refine zw_iconst ok_B_copy rfl ?_
                refine zw_Vi ok_B_copy rfl ok_B_found lk_B_159 (by decide) rfl rfl (Nat.le_of_ble_eq_true rfl) (ct_B_found) (fun m99 h99 => ?_)
                subst h99
                exact zw_iret ok_B_copy rfl rfl (⟨rfl, CI_fnd hI (by omega)⟩)
              · refine zw_aload ok_B_copy rfl rfl ?_
                refine zw_iload ok_B_copy rfl rfl ?_
                refine zw_iload ok_B_copy rfl rfl ?_
                refine zw_Vbp ok_B_copy rfl ok_Se_hasItems lk_B_263 (by decide) rfl (zrow_sh hg.2) (Nat.le_of_ble_eq_true rfl) (ct_Se_hasItems (shK_s hg.2) hc2.1 hb hn) ?_
                first | refine zw_ifne_d 103 ok_B_copy rfl (by decide) (fun h94 => ?_) (fun h94 => ?_) | refine zw_ifne_b 103 ok_B_copy rfl (by decide) (fun h94 => ?_) (fun h94 => ?_) | refine zw_if_ne 103 ok_B_copy rfl (by decide) (by omega) (fun h94 => ?_) (fun h94 => ?_)
                · have e0 : (0 ≤ a ∧ 0 ≤ n ∧ n ≤ τ 12 s - a) ∧ (0 ≤ b ∧ 0 ≤ n ∧ n ≤ τ 12 t - b) := ⟨by rw [← hc.2.2.2.1]; exact h82, by rw [← hc2.2.2.2.1]; exact h94⟩
                  have e1 : cpF τ s a t b n = 0 := L4 n3 n4 e0
                  rw [if_pos e1, if_pos e1]
                  refine zw_aload ok_B_copy rfl rfl ?_
                  refine zw_getr ok_B_copy rfl fl_B_164 (zrow_sh hg.1) rfl ?_
                  refine zw_iload_n ok_B_copy rfl rfl ?_
                  refine zw_aload ok_B_copy rfl rfl ?_
                  refine zw_getr ok_B_copy rfl fl_B_164 (zrow_sh hg.2) rfl ?_
                  refine zw_iload ok_B_copy rfl rfl ?_
                  refine zw_iload ok_B_copy rfl rfl ?_
                  refine zw_copy ok_B_copy rfl la_B_266 (zrow_it hg.1) (zrow_it hg.2) (by have := hb1.2.1; have := hb2.2.1; omega) ⟨by decide, Nat.le_of_ble_eq_true rfl⟩ ?_
                  refine zw_iconst ok_B_copy rfl ?_
                  exact zw_iret ok_B_copy rfl rfl (⟨rfl, CI_copy hI hg.1 hg.2 n1 e0⟩)
                · have e1 : cpF τ s a t b n = 2 := L3 n3 n4 (fun q => h94 (by rw [hc2.2.2.2.1]; exact q.2))
                  rw [e1, if_neg (by decide), if_neg (by decide)]
                  refine zw_aload_n ok_B_copy rfl rfl ?_
                  refine zw_iconst ok_B_copy rfl ?_
                  refine zw_Vi ok_B_copy rfl ok_B_found lk_B_159 (by decide) rfl rfl (Nat.le_of_ble_eq_true rfl) (ct_B_found) (fun m99 h99 => ?_)
                  subst h99
                  exact zw_iret ok_B_copy rfl rfl (⟨rfl, CI_fnd hI (by omega)⟩)
            · have e1 : cpF τ s a t b n = 4 := L2 n3 (by rw [← hc.2.2.1 n1, ← hc2.2.2.1 n2]; exact h65)
              rw [e1, if_neg (by decide), if_neg (by decide)]
              refine zw_aload_n ok_B_copy rfl rfl ?_
              refine zw_iconst ok_B_copy rfl ?_
              refine zw_Vi ok_B_copy rfl ok_B_found lk_B_159 (by decide) rfl rfl (Nat.le_of_ble_eq_true rfl) (ct_B_found) (fun m70 h70 => ?_)
              subst h70
              exact zw_iret ok_B_copy rfl rfl (⟨rfl, CI_fnd hI (by omega)⟩)
          · have e1 : cpF τ s a t b n = 1 := L1 (Or.inr (hc2.2.1.1 (by have := hc2.1.1; omega)))
            rw [e1, if_neg (by decide), if_neg (by decide)]
            refine zw_aload_n ok_B_copy rfl rfl ?_
            refine zw_iconst ok_B_copy rfl ?_
            refine zw_Vi ok_B_copy rfl ok_B_found lk_B_159 (by decide) rfl rfl (Nat.le_of_ble_eq_true rfl) (ct_B_found) (fun m51 h51 => ?_)
            subst h51
            exact zw_iret ok_B_copy rfl rfl (⟨rfl, CI_fnd hI (by omega)⟩)
      · exact absurd hg.2 h11
  · rw [if_neg hg, if_neg hg]
    refine zw_iload_n ok_B_copy rfl rfl ?_
    refine zw_Sbp ok_B_copy rfl ok_B_isSheet lk_B_152 (by decide) rfl (Nat.le_of_ble_eq_true rfl) (ct_B_isSheet (by omega)) ?_
    first | refine zw_ifeq_d 14 ok_B_copy rfl (by decide) (fun h4 => ?_) (fun h4 => ?_) | refine zw_ifeq_b 14 ok_B_copy rfl (by decide) (fun h4 => ?_) (fun h4 => ?_) | refine zw_if_eq 14 ok_B_copy rfl (by decide) (by omega) (fun h4 => ?_) (fun h4 => ?_)
    · refine zw_bipush ok_B_copy rfl (by decide) ?_
      exact zw_iret ok_B_copy rfl rfl (⟨rfl, hI, fun _ _ => rfl⟩)
    · refine zw_iload_n ok_B_copy rfl rfl ?_
      refine zw_Sbp ok_B_copy rfl ok_B_isSheet lk_B_152 (by decide) rfl (Nat.le_of_ble_eq_true rfl) (ct_B_isSheet (by omega)) ?_
      first | refine zw_ifne_d 17 ok_B_copy rfl (by decide) (fun h11 => ?_) (fun h11 => ?_) | refine zw_ifne_b 17 ok_B_copy rfl (by decide) (fun h11 => ?_) (fun h11 => ?_) | refine zw_if_ne 17 ok_B_copy rfl (by decide) (by omega) (fun h11 => ?_) (fun h11 => ?_)
      · exact absurd ⟨h4, h11⟩ hg
      · refine zw_bipush ok_B_copy rfl (by decide) ?_
        exact zw_iret ok_B_copy rfl rfl (⟨rfl, hI, fun _ _ => rfl⟩)
end
