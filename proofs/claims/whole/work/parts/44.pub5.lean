/-! ===== LowerBows: the sheets ===== -/
section
variable {mem m2 τ τ2 : zMem} {s : Int}
theorem zrow_sh (hs : 0 ≤ s ∧ s ≤ 3) : zrow (40 + 2 * s.toNat) = (3, 6, [some (40 + 2 * s.toNat + 1), none, none, none]) := by
  have : s = 0 ∨ s = 1 ∨ s = 2 ∨ s = 3 := by omega
  rcases this with rfl | rfl | rfl | rfl <;> rfl
theorem zrow_it (hs : 0 ≤ s ∧ s ≤ 3) : zrow (40 + 2 * s.toNat + 1) = (0, 60, []) := by
  have : s = 0 ∨ s = 1 ∨ s = 2 ∨ s = 3 := by omega
  rcases this with rfl | rfl | rfl | rfl <;> rfl
theorem zfld_sh (hs : 0 ≤ s ∧ s ≤ 3) : [some 40, some 42, some 44, some 46].getD s.toNat none = some (40 + 2 * s.toNat) := by
  have : s = 0 ∨ s = 1 ∨ s = 2 ∨ s = 3 := by omega
  rcases this with rfl | rfl | rfl | rfl <;> rfl
theorem shK_s (hs : 0 ≤ s ∧ s ≤ 3) : shK (40 + 2 * s.toNat) := by unfold shK; omega
theorem sh41 : 40 + 2 * s.toNat + 1 = 41 + 2 * s.toNat := by omega
def shB (f n : Int) (t : Int → Int) : Prop := (-1 ≤ f ∧ f ≤ 2) ∧ (0 ≤ n ∧ n ≤ 60) ∧ ∀ i, 0 ≤ i → i < n → f ≠ -1 → zR (t i)
theorem CI_sh (hI : CI mem τ) (hs : 0 ≤ s ∧ s ≤ 3) (hm : ∀ k, k ≠ 40 + 2 * s.toNat → k ≠ 41 + 2 * s.toNat → m2 k = mem k) (hk : ∀ k, k < 11 → τ2 k = τ k) (h11 : ∀ j, j ≠ s → τ2 11 j = τ 11 j ∧ τ2 12 j = τ 12 j) (h13 : ∀ k, 13 ≤ k → k ≠ 13 + s.toNat → τ2 k = τ k) (hb : shB (τ2 11 s) (τ2 12 s) (τ2 (13 + s.toNat))) (hc : shC m2 τ2 s) : CI m2 τ2 ∧ cls48 mem m2 := by
  have sh := hI.2.2.2.2.2.2.2
  refine ⟨CI_shs hI ?_ (fun k q1 q2 => hm k (by omega) (by omega)) (fun k q1 q2 => hk k (by omega)) (fun j hj => by rw [hk 2 (by omega)]) (by rw [hm 0 (by omega) (by omega), hk 2 (by omega)]; exact hI.2.2.2.1.2.2.2) (fun t q1 q2 => ?_), fun k hk => hm k (by omega) (by omega)⟩
  · obtain ⟨hb0, h0, h1, ho, hu, hss, hsh⟩ := hI.1
    refine ⟨by rw [hk 2 (by omega)]; exact hb0, by rw [hk 2 (by omega), hk 0 (by omega)]; exact h0, by rw [hk 2 (by omega), hk 1 (by omega)]; exact h1, by rw [hk 2 (by omega), hk 3 (by omega), hk 4 (by omega), hk 5 (by omega)]; exact ho, by rw [hk 2 (by omega), hk 6 (by omega), hk 7 (by omega)]; exact hu, by rw [hk 2 (by omega), hk 8 (by omega), hk 9 (by omega), hk 10 (by omega)]; exact hss, fun t q1 q2 => ?_⟩
    by_cases e : t = s
    · subst e; exact hb
    · rw [(h11 t e).1, (h11 t e).2, h13 _ (by omega) (by omega)]; exact hsh t q1 q2
  · by_cases e : t = s
    · subst e; exact hc
    · unfold shC shR
      rw [(h11 t e).1, (h11 t e).2, h13 _ (by omega) (by omega), hm _ (by omega) (by omega), hm _ (by omega) (by omega)]
      exact sh t q1 q2
def fnd (τ : zMem) (x : Int) : zMem := zset τ 2 5 x
theorem CI_fnd {x : Int} (hI : CI mem τ) (hx : 0 ≤ x ∧ x ≤ 5) : CI (zset mem 0 13 x) (fnd τ x) ∧ cls48 mem (zset mem 0 13 x) := by
  refine ⟨CI_shs hI ?_ (fun k q1 q2 => zset_ne q1) (fun k q1 q2 => zset_ne q1) (fun j hj => ?_) ?_ (fun t q1 q2 => ?_), cls48.st (by omega)⟩
  · obtain ⟨hb0, h0, h1, ho, hu, hss, hsh⟩ := hI.1
    exact ⟨⟨hb0.1, hb0.2.1, hb0.2.2.1, hb0.2.2.2.1, hb0.2.2.2.2.1, hx⟩, h0, h1, ho, hu, hss, shI_of (fun k hk => zset_ne (by omega)) hsh⟩
  · unfold fnd; rw [zset_eq, zupd_ne hj]
  · unfold fnd; rw [zset_eq, zset_eq, zupd_eq, zupd_eq]
  · have := hI.2.2.2.2.2.2.2 t q1 q2
    unfold shC shR at *
    unfold fnd
    rw [zset_ne (by omega), zset_ne (by omega), zset_ne (by omega), zset_ne (by omega), zset_ne (by omega)]
    exact this
theorem shC_at (hI : CI mem τ) (hs : 0 ≤ s ∧ s ≤ 3) : shC mem τ s := hI.2.2.2.2.2.2.2 s hs.1 hs.2
theorem shB_at (hI : CI mem τ) (hs : 0 ≤ s ∧ s ≤ 3) : shB (τ 11 s) (τ 12 s) (τ (13 + s.toNat)) := hI.1.2.2.2.2.2.2 s hs.1 hs.2
/-! what the sheets answer -/
def newS (τ : zMem) (s f n : Int) : zMem := zput (zset (zset τ 11 s f) 12 s n) (13 + s.toNat) (fun _ => 0)
def qSheet (s f n : Int) : Int := if (0 ≤ s ∧ s ≤ 3) ∧ (0 ≤ f ∧ f ≤ 2) ∧ n ≤ 60 then (if n < 0 then -15 else n) else -2
def nSheet (τ : zMem) (s f n : Int) : zMem := if (0 ≤ s ∧ s ≤ 3) ∧ (0 ≤ f ∧ f ≤ 2) ∧ n ≤ 60 then (if n < 0 then fnd τ 5 else newS τ s f n) else τ
theorem CI_new {f n : Int} (hI : CI mem τ) (hs : 0 ≤ s ∧ s ≤ 3) (hf : 0 ≤ f ∧ f ≤ 2) (hn : 0 ≤ n ∧ n ≤ 60) : CI (zset (zset (zset (zput mem (40 + 2 * s.toNat + 1) (zfil 60 0 (mem (40 + 2 * s.toNat + 1)))) (40 + 2 * s.toNat) 2 f) (40 + 2 * s.toNat) 3 n) (40 + 2 * s.toNat) 1 0) (newS τ s f n) ∧ cls48 mem (zset (zset (zset (zput mem (40 + 2 * s.toNat + 1) (zfil 60 0 (mem (40 + 2 * s.toNat + 1)))) (40 + 2 * s.toNat) 2 f) (40 + 2 * s.toNat) 3 n) (40 + 2 * s.toNat) 1 0) := by
  rw [sh41]
  have e11 : newS τ s f n 11 = zupd (τ 11) s f := by unfold newS; rw [zput_ne (by omega), zset_ne (by omega), zset_eq]
  have e12 : newS τ s f n 12 = zupd (τ 12) s n := by unfold newS; rw [zput_ne (by omega), zset_eq, zset_ne (by omega)]
  have e13 : newS τ s f n (13 + s.toNat) = fun _ => 0 := zput_eq
  refine CI_sh hI hs (fun k q1 q2 => ?_) (fun k q => ?_) (fun j hj => ?_) (fun k q1 q2 => ?_) ?_ ?_
  · rw [zset_ne q1, zset_ne q1, zset_ne q1, zput_ne q2]
  · unfold newS; rw [zput_ne (by omega), zset_ne (by omega), zset_ne (by omega)]
  · rw [e11, e12, zupd_ne hj, zupd_ne hj]; exact ⟨rfl, rfl⟩
  · unfold newS; rw [zput_ne q2, zset_ne (by omega), zset_ne (by omega)]
  · rw [e11, e12, e13, zupd_eq, zupd_eq]; exact ⟨by omega, hn, fun i _ _ _ => ⟨(by decide : (-2147483648 : Int) ≤ 0), (by decide : (0 : Int) < 2147483648)⟩⟩
  · unfold shC shR
    rw [e11, e12, e13, zupd_eq, zupd_eq, zset_eq, zset_eq, zset_eq, zset_ne (k2 := 41 + 2 * s.toNat) (by omega), zset_ne (k2 := 41 + 2 * s.toNat) (by omega), zset_ne (k2 := 41 + 2 * s.toNat) (by omega), zput_eq, zupd_eq, zupd_ne (j := 2) (by decide), zupd_ne (j := 2) (by decide), zupd_eq, zupd_ne (j := 3) (by decide), zupd_eq]
    refine ⟨⟨Or.inl rfl, hf, hn⟩, ⟨fun q => by omega, fun q => by omega⟩, fun _ => rfl, rfl, fun _ i q1 q2 => ?_⟩
    unfold zfil; rw [if_pos ⟨q1, by omega⟩]
theorem ct_B_sheet {f n : Int} (hI : CI mem τ) (hs : zR s) (hf : zR f) (hn : zR n) : zCi m_B_sheet [vr 0, vi s, vi f, vi n] mem (qSheet s f n) (fun m2 => CI m2 (nSheet τ s f n) ∧ cls48 mem m2) := by
  refine zCt.of [some (vr 0), some (vi s), some (vi f), some (vi n)] ok_B_sheet (Nat.le_of_ble_eq_true rfl) rfl ?_
  unfold qSheet nSheet
  by_cases hg : (0 ≤ s ∧ s ≤ 3) ∧ (0 ≤ f ∧ f ≤ 2) ∧ n ≤ 60
  · rw [if_pos hg, if_pos hg]
    refine zw_iload_n ok_B_sheet rfl rfl ?_
    refine zw_Sbp ok_B_sheet rfl ok_B_isSheet lk_B_152 (by decide) rfl (Nat.le_of_ble_eq_true rfl) (ct_B_isSheet (by omega)) ?_
    first | refine zw_ifeq_d 20 ok_B_sheet rfl (by decide) (fun h4 => ?_) (fun h4 => ?_) | refine zw_ifeq_b 20 ok_B_sheet rfl (by decide) (fun h4 => ?_) (fun h4 => ?_) | refine zw_if_eq 20 ok_B_sheet rfl (by decide) (by omega) (fun h4 => ?_) (fun h4 => ?_)
    · exact absurd hg.1 h4
    · refine zw_iload_n ok_B_sheet rfl rfl ?_
      refine zw_Sbp ok_B_sheet rfl ok_B_isForm lk_B_247 (by decide) rfl (Nat.le_of_ble_eq_true rfl) (ct_B_isForm (by omega)) ?_
      first | refine zw_ifeq_d 20 ok_B_sheet rfl (by decide) (fun h11 => ?_) (fun h11 => ?_) | refine zw_ifeq_b 20 ok_B_sheet rfl (by decide) (fun h11 => ?_) (fun h11 => ?_) | refine zw_if_eq 20 ok_B_sheet rfl (by decide) (by omega) (fun h11 => ?_) (fun h11 => ?_)
      · exact absurd hg.2.1 h11
      · refine zw_iload_n ok_B_sheet rfl rfl ?_
        refine zw_bipush ok_B_sheet rfl (by decide) ?_
        refine zw_icmp_le 23 ok_B_sheet rfl (by decide) (by omega) (fun h17 => ?_) (fun h17 => ?_)
        · refine zw_iload_n ok_B_sheet rfl rfl ?_
          refine zw_if_ge 33 ok_B_sheet rfl (by decide) (by omega) (fun h24 => ?_) (fun h24 => ?_)
          · rw [if_neg (by omega), if_neg (by omega)]
            refine zw_aload_n ok_B_sheet rfl rfl ?_
            refine zw_getr ok_B_sheet rfl fl_B_91 rfl rfl ?_
            refine zw_iload_n ok_B_sheet rfl rfl ?_
            refine zw_aald ok_B_sheet rfl rfl (by omega) (zfld_sh hg.1) ?_
            refine zw_iload_n ok_B_sheet rfl rfl ?_
            refine zw_iload_n ok_B_sheet rfl rfl ?_
            refine zw_Vvp ok_B_sheet rfl ok_Se_begin lk_B_250 (by decide) rfl (zrow_sh hg.1) (Nat.le_of_ble_eq_true rfl) (ct_Se_begin (shK_s hg.1)) ?_
            refine zw_iload_n ok_B_sheet rfl rfl ?_
            exact zw_iret ok_B_sheet rfl rfl (⟨rfl, CI_new hI hg.1 hg.2.1 (by omega)⟩)
          · rw [if_pos (by omega), if_pos (by omega)]
            refine zw_aload_n ok_B_sheet rfl rfl ?_
            refine zw_iconst ok_B_sheet rfl ?_
            refine zw_Vi ok_B_sheet rfl ok_B_found lk_B_159 (by decide) rfl rfl (Nat.le_of_ble_eq_true rfl) (ct_B_found) (fun m29 h29 => ?_)
            subst h29
            exact zw_iret ok_B_sheet rfl rfl (⟨rfl, CI_fnd hI (by omega)⟩)
        · exact absurd hg.2.2 (by omega)
  · rw [if_neg hg, if_neg hg]
    refine zw_iload_n ok_B_sheet rfl rfl ?_
    refine zw_Sbp ok_B_sheet rfl ok_B_isSheet lk_B_152 (by decide) rfl (Nat.le_of_ble_eq_true rfl) (ct_B_isSheet (by omega)) ?_
    first | refine zw_ifeq_d 20 ok_B_sheet rfl (by decide) (fun h4 => ?_) (fun h4 => ?_) | refine zw_ifeq_b 20 ok_B_sheet rfl (by decide) (fun h4 => ?_) (fun h4 => ?_) | refine zw_if_eq 20 ok_B_sheet rfl (by decide) (by omega) (fun h4 => ?_) (fun h4 => ?_)
    · refine zw_bipush ok_B_sheet rfl (by decide) ?_
      exact zw_iret ok_B_sheet rfl rfl (⟨rfl, hI, fun _ _ => rfl⟩)
    · refine zw_iload_n ok_B_sheet rfl rfl ?_
      refine zw_Sbp ok_B_sheet rfl ok_B_isForm lk_B_247 (by decide) rfl (Nat.le_of_ble_eq_true rfl) (ct_B_isForm (by omega)) ?_
      first | refine zw_ifeq_d 20 ok_B_sheet rfl (by decide) (fun h11 => ?_) (fun h11 => ?_) | refine zw_ifeq_b 20 ok_B_sheet rfl (by decide) (fun h11 => ?_) (fun h11 => ?_) | refine zw_if_eq 20 ok_B_sheet rfl (by decide) (by omega) (fun h11 => ?_) (fun h11 => ?_)
      · refine zw_bipush ok_B_sheet rfl (by decide) ?_
        exact zw_iret ok_B_sheet rfl rfl (⟨rfl, hI, fun _ _ => rfl⟩)
      · refine zw_iload_n ok_B_sheet rfl rfl ?_
        refine zw_bipush ok_B_sheet rfl (by decide) ?_
        refine zw_icmp_le 23 ok_B_sheet rfl (by decide) (by omega) (fun h17 => ?_) (fun h17 => ?_)
        · exact absurd ⟨h4, h11, h17⟩ hg
        · refine zw_bipush ok_B_sheet rfl (by decide) ?_
          exact zw_iret ok_B_sheet rfl rfl (⟨rfl, hI, fun _ _ => rfl⟩)
def qLose (τ : zMem) (s : Int) : Int := if 0 ≤ s ∧ s ≤ 3 then (if τ 11 s = -1 then -11 else τ 12 s) else -2
def nLose (τ : zMem) (s : Int) : zMem := if 0 ≤ s ∧ s ≤ 3 then (if τ 11 s = -1 then fnd τ 1 else zset τ 11 s (-1)) else τ
theorem CI_lose (hI : CI mem τ) (hs : 0 ≤ s ∧ s ≤ 3) : CI (zset mem (40 + 2 * s.toNat) 1 1) (zset τ 11 s (-1)) ∧ cls48 mem (zset mem (40 + 2 * s.toNat) 1 1) := by
  have hc := shC_at hI hs
  have hb := shB_at hI hs
  refine CI_sh hI hs (fun k q1 q2 => zset_ne q1) (fun k q => zset_ne (by omega)) (fun j hj => ?_) (fun k q1 q2 => zset_ne (by omega)) ?_ ?_
  · rw [zset_eq, zset_ne (by omega), zupd_ne hj]; exact ⟨rfl, rfl⟩
  · rw [zset_eq, zset_ne (by omega), zset_ne (by omega), zupd_eq]; exact ⟨by omega, hb.2.1, fun _ _ _ q => absurd rfl q⟩
  · unfold shC shR at *
    rw [zset_eq, zset_eq, zupd_eq, zupd_eq, zupd_ne (by decide), zupd_ne (by decide), zset_ne (by omega), zset_ne (by omega), zset_ne (by omega)]
    exact ⟨⟨Or.inr rfl, hc.1.2⟩, ⟨fun _ => rfl, fun _ => rfl⟩, fun q => absurd rfl q, hc.2.2.2.1, fun q => absurd rfl q⟩
theorem ct_B_lose (hI : CI mem τ) (hs : zR s) : zCi m_B_lose [vr 0, vi s] mem (qLose τ s) (fun m2 => CI m2 (nLose τ s) ∧ cls48 mem m2) := by
  refine zCt.of [some (vr 0), some (vi s), none] ok_B_lose (Nat.le_of_ble_eq_true rfl) rfl ?_
  unfold qLose nLose
  by_cases hg : 0 ≤ s ∧ s ≤ 3
  · have hc := shC_at hI hg
    rw [if_pos hg, if_pos hg]
    refine zw_iload_n ok_B_lose rfl rfl ?_
    refine zw_Sbp ok_B_lose rfl ok_B_isSheet lk_B_152 (by decide) rfl (Nat.le_of_ble_eq_true rfl) (ct_B_isSheet (by omega)) ?_
    first | refine zw_ifne_d 10 ok_B_lose rfl (by decide) (fun h4 => ?_) (fun h4 => ?_) | refine zw_ifne_b 10 ok_B_lose rfl (by decide) (fun h4 => ?_) (fun h4 => ?_) | refine zw_if_ne 10 ok_B_lose rfl (by decide) (by omega) (fun h4 => ?_) (fun h4 => ?_)
    · refine zw_aload_n ok_B_lose rfl rfl ?_
      refine zw_getr ok_B_lose rfl fl_B_91 rfl rfl ?_
      refine zw_iload_n ok_B_lose rfl rfl ?_
      refine zw_aald ok_B_lose rfl rfl (by omega) (zfld_sh hg) ?_
      refine zw_astore_n ok_B_lose rfl rfl (by decide) ?_
      refine zw_aload_n ok_B_lose rfl rfl ?_
      refine zw_geti ok_B_lose rfl fl_B_155 (zrow_sh hg) rfl ?_
      refine zw_if_eq 30 ok_B_lose rfl (by decide) (by have := hc.1.1; omega) (fun h21 => ?_) (fun h21 => ?_)
      · have n : τ 11 s ≠ -1 := fun q => by have := hc.2.1.2 q; omega
        rw [if_neg n, if_neg n]
        refine zw_aload_n ok_B_lose rfl rfl ?_
        refine zw_iconst ok_B_lose rfl ?_
        refine zw_putz ok_B_lose rfl fp_B_155 (zrow_sh hg) rfl (by first | exact Or.inl rfl | exact Or.inr rfl) ?_
        refine zw_aload_n ok_B_lose rfl rfl ?_
        refine zw_geti ok_B_lose rfl fl_B_163 (zrow_sh hg) rfl ?_
        exact zw_iret ok_B_lose rfl rfl (⟨by rw [zset_eq, zupd_ne (by decide), hc.2.2.2.1], CI_lose hI hg⟩)
      · have n : τ 11 s = -1 := hc.2.1.1 (by have := hc.1.1; omega)
        rw [if_pos n, if_pos n]
        refine zw_aload_n ok_B_lose rfl rfl ?_
        refine zw_iconst ok_B_lose rfl ?_
        refine zw_Vi ok_B_lose rfl ok_B_found lk_B_159 (by decide) rfl rfl (Nat.le_of_ble_eq_true rfl) (ct_B_found) (fun m26 h26 => ?_)
        subst h26
        exact zw_iret ok_B_lose rfl rfl (⟨rfl, CI_fnd hI (by omega)⟩)
    · exact absurd hg h4
  · rw [if_neg hg, if_neg hg]
    refine zw_iload_n ok_B_lose rfl rfl ?_
    refine zw_Sbp ok_B_lose rfl ok_B_isSheet lk_B_152 (by decide) rfl (Nat.le_of_ble_eq_true rfl) (ct_B_isSheet (by omega)) ?_
    first | refine zw_ifne_d 10 ok_B_lose rfl (by decide) (fun h4 => ?_) (fun h4 => ?_) | refine zw_ifne_b 10 ok_B_lose rfl (by decide) (fun h4 => ?_) (fun h4 => ?_) | refine zw_if_ne 10 ok_B_lose rfl (by decide) (by omega) (fun h4 => ?_) (fun h4 => ?_)
    · exact absurd h4 hg
    · refine zw_bipush ok_B_lose rfl (by decide) ?_
      exact zw_iret ok_B_lose rfl rfl (⟨rfl, hI, fun _ _ => rfl⟩)
end
