/-! ===== the reference: forgets ===== -/
theorem zldiv_nn {x y : Int} (hx : 0 ≤ x ∧ x < 9223372036854775808) (hy : 0 < y ∧ y < 9223372036854775808) : zldiv x y = x / y := by
  have e : Int64.ofInt x / Int64.ofInt y = lN (x.toNat / y.toNat) := by
    rw [zlN hx.1, zlN (by omega : 0 ≤ y), pk_lDiv (by omega) (by omega) (by omega)]
  have hle : x.toNat / y.toNat ≤ x.toNat := Nat.div_le_self _ _
  unfold zldiv
  rw [e, pf_lI (by omega), Int.natCast_ediv, Int.toNat_of_nonneg hx.1, Int.toNat_of_nonneg (by omega : 0 ≤ y)]
theorem zlrem_nn {x y : Int} (hx : 0 ≤ x ∧ x < 9223372036854775808) (hy : 0 < y ∧ y < 9223372036854775808) : zlrem x y = x % y := by
  have e : Int64.ofInt x - Int64.ofInt x / Int64.ofInt y * Int64.ofInt y = lN (x.toNat % y.toNat) := by
    rw [zlN hx.1, zlN (by omega : 0 ≤ y), pk_lRem (by omega) (by omega) (by omega)]
  have hle : x.toNat % y.toNat ≤ x.toNat := Nat.mod_le _ _
  unfold zlrem
  rw [e, pf_lI (by omega), Int.natCast_emod, Int.toNat_of_nonneg hx.1, Int.toNat_of_nonneg (by omega : 0 ≤ y)]
theorem hv_gcd (w : Nat) : ∀ (k h : Nat), 2 ^ h ∣ w → Nat.gcd w (2 ^ (h + k)) = 2 ^ (hvS (w : Int) k (h : Int)).toNat
  | 0, h, hd => by
    show Nat.gcd w (2 ^ (h + 0)) = 2 ^ ((h : Int)).toNat
    rw [Nat.add_zero, Int.toNat_natCast]
    exact Nat.gcd_eq_right hd
  | k + 1, h, hd => by
    have e : (w : Int) / 2 ^ ((h : Int)).toNat % 2 = ((w / 2 ^ h % 2 : Nat) : Int) := by
      rw [Int.toNat_natCast, Int.natCast_emod, Int.natCast_ediv, Int.natCast_pow]
      rfl
    obtain ⟨q, hq⟩ := hd
    have hdiv : w / 2 ^ h = q := by rw [hq, Nat.mul_div_cancel_left _ (Nat.two_pow_pos h)]
    rw [hdiv] at e
    unfold hvS
    rw [e]
    by_cases c : ((q % 2 : Nat) : Int) = 0
    · rw [if_pos c]
      have c2 : q % 2 = 0 := by omega
      have ih := hv_gcd w k (h + 1) ⟨q / 2, by rw [hq, Nat.pow_succ, Nat.mul_assoc]; congr 1; omega⟩
      rw [show h + 1 + k = h + (k + 1) by omega] at ih
      exact ih
    · rw [if_neg c, Int.toNat_natCast]
      have c2 : q % 2 = 1 := by omega
      have cop : Nat.Coprime q 2 := by
        show Nat.gcd q 2 = 1
        rw [Nat.gcd_comm, Nat.gcd_rec, c2]
        rfl
      have g1 : Nat.gcd q (2 ^ (k + 1)) = 1 := Nat.Coprime.pow_right (k + 1) cop
      rw [hq, Nat.pow_add, Nat.gcd_mul_left, g1, Nat.mul_one]
section
variable {mem m2 τ τ2 : zMem} {Q : Option zVal → zMem → Prop} {ol ff : Int}
theorem pt_loop {A B w : Int} : ∀ (k : Nat) (a b : Int), (0 ≤ a ∧ a < 4611686018427387904) → (0 ≤ b ∧ b < 4611686018427387904) → b ≤ k → (∀ g, g = ((Nat.gcd a.toNat b.toNat : Nat) : Int) → AW m_M_part 31 [some (vl A), none, some (vl B), none, some (vi w), some (vl g), none, none, none, none, none] [] mem Q) → AW m_M_part 6 [some (vl A), none, some (vl B), none, some (vi w), some (vl a), none, some (vl b), none, none, none] [] mem Q := by
  intro k
  induction k with
  | zero =>
    intro a b ha hb hk hx
    have e : b = 0 := by omega
    subst e
    refine zw_lload ok_M_part rfl rfl ?_
    refine zw_lconst0 ok_M_part rfl ?_
    refine zw_lcmp ok_M_part rfl (by omega) ?_
    refine zw_if_eq 31 ok_M_part rfl (by decide) (by (repeat' split) <;> omega) (fun h10 => ?_) (fun h10 => ?_)
    · exact zw_mask [true, true, true, true, true, true, false, false, false, false, false] rfl (hx a (by rw [show (0 : Int).toNat = 0 from rfl, Nat.gcd_zero_right, Int.toNat_of_nonneg ha.1]))
    · exact absurd (lc_0.mpr rfl) h10
  | succ k ih =>
    intro a b ha hb hk hx
    by_cases h0 : b = 0
    · subst h0
      refine zw_lload ok_M_part rfl rfl ?_
      refine zw_lconst0 ok_M_part rfl ?_
      refine zw_lcmp ok_M_part rfl (by omega) ?_
      refine zw_if_eq 31 ok_M_part rfl (by decide) (by (repeat' split) <;> omega) (fun h10 => ?_) (fun h10 => ?_)
      · exact zw_mask [true, true, true, true, true, true, false, false, false, false, false] rfl (hx a (by rw [show (0 : Int).toNat = 0 from rfl, Nat.gcd_zero_right, Int.toNat_of_nonneg ha.1]))
      · exact absurd (lc_0.mpr rfl) h10
    · have m1 := Int.emod_nonneg a h0
      have m2 := Int.emod_lt_of_pos a (show 0 < b by omega)
      have eg : Nat.gcd b.toNat (a % b).toNat = Nat.gcd a.toNat b.toNat := by
        have e : (a % b).toNat = a.toNat % b.toNat := by
          apply Int.ofNat.inj
          show ((a % b).toNat : Int) = ((a.toNat % b.toNat : Nat) : Int)
          rw [Int.toNat_of_nonneg m1, Int.natCast_emod, Int.toNat_of_nonneg ha.1, Int.toNat_of_nonneg hb.1]
        rw [e, Nat.gcd_comm b.toNat, ← Nat.gcd_rec, Nat.gcd_comm]
      refine zw_lload ok_M_part rfl rfl ?_
      refine zw_lconst0 ok_M_part rfl ?_
      refine zw_lcmp ok_M_part rfl (by omega) ?_
      refine zw_if_eq 31 ok_M_part rfl (by decide) (by (repeat' split) <;> omega) (fun h10 => ?_) (fun h10 => ?_)
      · exact absurd (lc_0.mp h10) h0
      · refine zw_lload ok_M_part rfl rfl ?_
        refine zw_lload ok_M_part rfl rfl ?_
        refine zw_lrem ok_M_part rfl (by omega) ?_
        rw [zlrem_nn (by omega) (by omega)]
        refine zw_lstore ok_M_part rfl rfl (by decide) ?_
        refine zw_lload ok_M_part rfl rfl ?_
        refine zw_lstore ok_M_part rfl rfl (by decide) ?_
        refine zw_lload ok_M_part rfl rfl ?_
        refine zw_lstore ok_M_part rfl rfl (by decide) ?_
        refine zw_goto 6 ok_M_part rfl (by decide) ?_
        refine zw_mask [true, true, true, true, true, true, true, true, false, false, false] rfl (ih b (a % b) (by omega) (by omega) (by omega) (fun g hg => hx g (by rw [hg, eg])))
theorem ct_M_part {A B w : Int} (hA : 0 ≤ A ∧ A < 4611686018427387904) (hB : 0 < B ∧ B < 4611686018427387904) (hw : zR w) : zClp m_M_part [vl A, vl B, vi w] mem (if w = 0 then A / ((Nat.gcd A.toNat B.toNat : Nat) : Int) else B / ((Nat.gcd A.toNat B.toNat : Nat) : Int)) := by
  refine zCt.of [some (vl A), none, some (vl B), none, some (vi w), none, none, none, none, none, none] ok_M_part (Nat.le_of_ble_eq_true rfl) rfl ?_
  have g0 : 0 < Nat.gcd A.toNat B.toNat := Nat.gcd_pos_of_pos_right _ (by omega)
  have g1 : Nat.gcd A.toNat B.toNat ≤ B.toNat := Nat.gcd_le_right _ (by omega)
  have tl : ∀ g, g = ((Nat.gcd A.toNat B.toNat : Nat) : Int) → AW m_M_part 31 [some (vl A), none, some (vl B), none, some (vi w), some (vl g), none, none, none, none, none] [] mem (fun r m2 => r = some (vl (if w = 0 then A / ((Nat.gcd A.toNat B.toNat : Nat) : Int) else B / ((Nat.gcd A.toNat B.toNat : Nat) : Int))) ∧ m2 = mem) := by
    intro g hg
    rw [← hg]
    have gb : 0 < g ∧ g ≤ B := by omega
    refine zw_iload ok_M_part rfl rfl ?_
    refine zw_if_ne 40 ok_M_part rfl (by decide) (by omega) (fun h33 => ?_) (fun h33 => ?_)
    · rw [if_neg h33]
      refine zw_lload_n ok_M_part rfl rfl ?_
      refine zw_lload ok_M_part rfl rfl ?_
      refine zw_ldiv ok_M_part rfl (by omega) ?_
      rw [zldiv_nn (by omega) (by omega)]
      exact zw_lret ok_M_part rfl rfl (⟨rfl, rfl⟩)
    · rw [if_pos h33]
      refine zw_lload_n ok_M_part rfl rfl ?_
      refine zw_goto 41 ok_M_part rfl (by decide) ?_
      refine zw_lload ok_M_part rfl rfl ?_
      refine zw_ldiv ok_M_part rfl (by omega) ?_
      rw [zldiv_nn (by omega) (by omega)]
      exact zw_lret ok_M_part rfl rfl (⟨rfl, rfl⟩)
  refine zw_lload_n ok_M_part rfl rfl ?_
  refine zw_lstore ok_M_part rfl rfl (by decide) ?_
  refine zw_lload_n ok_M_part rfl rfl ?_
  refine zw_lstore ok_M_part rfl rfl (by decide) ?_
  exact pt_loop B.toNat A B hA (by omega) (by omega) tl
theorem fb_loop {c h p w : Int} (h13 : 0 ≤ mem 48 13 ∧ mem 48 13 ≤ 8) : ∀ (k : Nat) (i : Nat), (i : Int) + k = mem 48 13 → AW m_M_forgetsOf 32 [some (vr 48), some (vi c), some (vi h), some (vi p), some (vi w), some (vl 0), none, some (vl (16 ^ (mem 48 13).toNat)), none, none, none, none, none] [] mem Q → AW m_M_forgetsOf 9 [some (vr 48), some (vi c), some (vi h), some (vi p), some (vi w), some (vl 0), none, some (vl (16 ^ i)), none, some (vi i), none, none, none] [] mem Q := by
  intro k
  induction k with
  | zero =>
    intro i h1 hx
    rw [show (mem 48 13).toNat = i by omega] at hx
    refine zw_iload ok_M_forgetsOf rfl rfl ?_
    refine zw_aload_n ok_M_forgetsOf rfl rfl ?_
    refine zw_geti ok_M_forgetsOf rfl fl_M_154 rfl rfl ?_
    refine zw_icmp_ge 32 ok_M_forgetsOf rfl (by decide) (by omega) (fun h15 => ?_) (fun h15 => ?_)
    · exact zw_mask [true, true, true, true, true, true, true, true, true, false, false, false, false] rfl hx
    · exfalso; omega
  | succ k ih =>
    intro i h1 hx
    refine zw_iload ok_M_forgetsOf rfl rfl ?_
    refine zw_aload_n ok_M_forgetsOf rfl rfl ?_
    refine zw_geti ok_M_forgetsOf rfl fl_M_154 rfl rfl ?_
    refine zw_icmp_ge 32 ok_M_forgetsOf rfl (by decide) (by omega) (fun h15 => ?_) (fun h15 => ?_)
    · exfalso; omega
    · refine zw_lload ok_M_forgetsOf rfl rfl ?_
      refine zw_ldc2 ok_M_forgetsOf rfl kc_M_274 ?_
      refine zw_lmul ok_M_forgetsOf rfl ?_
      refine zw_lstore ok_M_forgetsOf rfl rfl (by decide) ?_
      refine zw_iinc ok_M_forgetsOf rfl rfl rfl (by decide) ?_
      refine zw_goto 9 ok_M_forgetsOf rfl (by decide) ?_
      exact ih (i + 1) (by omega) hx
theorem fw_loop {c h p w s A B : Int} (h13 : 0 ≤ mem 48 13 ∧ mem 48 13 ≤ 8) (hc : 0 ≤ c ∧ c ≤ 16) (hs : 0 ≤ s ∧ s < 256) : ∀ (k : Nat) (u v : Int), 0 ≤ u → u + k = mem 48 13 → AW m_M_forgetsOf 114 [some (vr 48), some (vi c), some (vi h), some (vi p), some (vi w), some (vl A), none, some (vl B), none, some (vi s), some (vl (lp (wtF s c) k u v)), none, none] [] mem Q → AW m_M_forgetsOf 74 [some (vr 48), some (vi c), some (vi h), some (vi p), some (vi w), some (vl A), none, some (vl B), none, some (vi s), some (vl v), none, some (vi u)] [] mem Q := by
  intro k
  induction k with
  | zero =>
    intro u v h0 h1 hx
    refine zw_iload ok_M_forgetsOf rfl rfl ?_
    refine zw_aload_n ok_M_forgetsOf rfl rfl ?_
    refine zw_geti ok_M_forgetsOf rfl fl_M_154 rfl rfl ?_
    refine zw_icmp_ge 114 ok_M_forgetsOf rfl (by decide) (by omega) (fun h80 => ?_) (fun h80 => ?_)
    · exact zw_mask [true, true, true, true, true, true, true, true, true, true, true, true, false] rfl hx
    · exfalso; omega
  | succ k ih =>
    intro u v h0 h1 hx
    rw [lp_s] at hx
    unfold wtF at hx
    refine zw_iload ok_M_forgetsOf rfl rfl ?_
    refine zw_aload_n ok_M_forgetsOf rfl rfl ?_
    refine zw_geti ok_M_forgetsOf rfl fl_M_154 rfl rfl ?_
    refine zw_icmp_ge 114 ok_M_forgetsOf rfl (by decide) (by omega) (fun h80 => ?_) (fun h80 => ?_)
    · exfalso; omega
    · refine zw_lload ok_M_forgetsOf rfl rfl ?_
      refine zw_iload ok_M_forgetsOf rfl rfl ?_
      refine zw_iload ok_M_forgetsOf rfl rfl ?_
      refine zw_Sbp ok_M_forgetsOf rfl ok_M_isIn lk_M_172 (by decide) rfl (Nat.le_of_ble_eq_true rfl) (ct_M_isIn (by omega)) ?_
      refine zw_ifeq_b 100 ok_M_forgetsOf rfl (by decide) (fun h92 => ?_) (fun h92 => ?_)
      · rw [if_neg (by rw [h92]; decide)] at hx
        refine zw_bipush ok_M_forgetsOf rfl (by decide) ?_
        refine zw_iload_n ok_M_forgetsOf rfl rfl ?_
        refine zw_isub ok_M_forgetsOf rfl ?_
        refine zw_i2l ok_M_forgetsOf rfl (by omega) ?_
        refine zw_lmul ok_M_forgetsOf rfl ?_
        refine zw_lstore ok_M_forgetsOf rfl rfl (by decide) ?_
        refine zw_iinc ok_M_forgetsOf rfl rfl rfl (by decide) ?_
        refine zw_goto 74 ok_M_forgetsOf rfl (by decide) ?_
        exact ih (u + 1) _ (by omega) (by omega) hx
      · rw [if_pos h92] at hx
        refine zw_iload_n ok_M_forgetsOf rfl rfl ?_
        refine zw_i2l ok_M_forgetsOf rfl (by omega) ?_
        refine zw_goto 105 ok_M_forgetsOf rfl (by decide) ?_
        refine zw_lmul ok_M_forgetsOf rfl ?_
        refine zw_lstore ok_M_forgetsOf rfl rfl (by decide) ?_
        refine zw_iinc ok_M_forgetsOf rfl rfl rfl (by decide) ?_
        refine zw_goto 74 ok_M_forgetsOf rfl (by decide) ?_
        exact ih (u + 1) _ (by omega) (by omega) hx
abbrev fJ : List Int := [23, 18, 19, 20, 21, 30]
theorem fJ_18 : ∀ j : Int, 18 ≤ j → j ≤ 21 → j ∈ fJ := by
  intro j h1 h2
  have : j = 18 ∨ j = 19 ∨ j = 20 ∨ j = 21 := by omega
  rcases this with rfl | rfl | rfl | rfl <;> decide
theorem MRv_23 {v : Int} {m : zMem} (h : MRv mem τ (-1) 0) (hf : mfr fJ dL mem m) : MRv (zset m 48 23 v) τ (-1) v := by
  have f2 : mfr fJ dL mem (zset m 48 23 v) := hf.setj (by decide)
  refine ⟨MRb_of f2 (by decide) (by decide) h.1, ?_, ⟨?_, rfl, ?_⟩, by decide⟩
  · rw [f2.2 13 (by decide), f2.1 58 (by decide) (by decide)]; exact h.2.1
  · rw [f2.2 22 (by decide)]; exact h.2.2.1.1
  · rw [f2.2 24 (by decide)]; exact h.2.2.1.2.2
theorem fs_loop {c h p w B N : Int} (hR : MRv mem τ (-1) 0) (hc : 0 ≤ c ∧ c ≤ 16) (hh : 0 ≤ h ∧ h ≤ 11) (hp : 0 ≤ p ∧ p < aP τ) (hN : N = zshl 1 (τ 2 3)) (hN2 : 0 ≤ N ∧ N ≤ 256) : ∀ (k : Nat) (s A : Int) (m : zMem), 0 ≤ s → s + k = N → mfr fJ dL mem m → (∀ m2, mfr fJ dL mem m2 → AW m_M_forgetsOf 127 [some (vr 48), some (vi c), some (vi h), some (vi p), some (vi w), some (vl (lp (grF (gnT τ h) c (τ 2 3) p) k s A)), none, some (vl B), none, none, none, none, none] [] m2 Q) → AW m_M_forgetsOf 35 [some (vr 48), some (vi c), some (vi h), some (vi p), some (vi w), some (vl A), none, some (vl B), none, some (vi s), none, none, none] [] m Q := by
  have b3 := hR.1.1.1.2.2.2.1
  have hP := aP_b hR.1
  intro k
  induction k with
  | zero =>
    intro s A m h0 h1 hf hx
    have e13 : m 48 13 = τ 2 3 := by rw [hf.2 13 (by decide)]; exact hR.2.1.1
    refine zw_iload ok_M_forgetsOf rfl rfl ?_
    refine zw_iconst ok_M_forgetsOf rfl ?_
    refine zw_aload_n ok_M_forgetsOf rfl rfl ?_
    refine zw_geti ok_M_forgetsOf rfl fl_M_154 rfl rfl ?_
    rw [e13]
    refine zw_ishl ok_M_forgetsOf rfl ?_
    rw [← hN]
    refine zw_icmp_ge 127 ok_M_forgetsOf rfl (by decide) (by omega) (fun h43 => ?_) (fun h43 => ?_)
    · exact zw_mask [true, true, true, true, true, true, true, true, true, false, false, false, false] rfl (hx m hf)
    · exfalso; omega
  | succ k ih =>
    intro s A m h0 h1 hf hx
    have e13 : m 48 13 = τ 2 3 := by rw [hf.2 13 (by decide)]; exact hR.2.1.1
    have hm := MRv_23 (v := s) hR hf
    have f2 : mfr fJ dL mem (zset m 48 23 s) := hf.setj (by decide)
    have ks := ct_sim (t := h) hm hh
    have e13b : zset m 48 23 s 48 13 = τ 2 3 := hm.2.1.1
    generalize hm1 : zset m 48 23 s = m1 at hm f2 ks e13b
    rw [lp_s] at hx
    have nx : ∀ x A2, A2 = grF (gnT τ h) c (τ 2 3) p s A → AW m_M_forgetsOf 121 [some (vr 48), some (vi c), some (vi h), some (vi p), some (vi w), some (vl A2), none, some (vl B), none, some (vi s), none, none, none] [] (putM m1 x) Q := by
      intro x A2 hA
      subst hA
      refine zw_iinc ok_M_forgetsOf rfl rfl rfl (by decide) ?_
      refine zw_goto 35 ok_M_forgetsOf rfl (by decide) ?_
      exact ih (s + 1) _ _ (by omega) (by omega) (mfr.putM f2 fJ_18 (by decide)) hx
    unfold grF gnT at nx
    have nx2 : ∀ x, tb (aSim τ (-1) s (h + 1).toNat).2.2.1 p.toNat = true → AW m_M_forgetsOf 114 [some (vr 48), some (vi c), some (vi h), some (vi p), some (vi w), some (vl A), none, some (vl B), none, some (vi s), some (vl (lp (wtF s c) (τ 2 3).toNat 0 1)), none, none] [] (putM m1 x) Q := by
      intro x ht
      refine zw_lload ok_M_forgetsOf rfl rfl ?_
      refine zw_lload ok_M_forgetsOf rfl rfl ?_
      refine zw_ladd ok_M_forgetsOf rfl ?_
      refine zw_lstore ok_M_forgetsOf rfl rfl (by decide) ?_
      exact zw_mask [true, true, true, true, true, true, true, true, true, true, false, false, false] rfl (nx x _ (by rw [if_pos ht]))
    refine zw_iload ok_M_forgetsOf rfl rfl ?_
    refine zw_iconst ok_M_forgetsOf rfl ?_
    refine zw_aload_n ok_M_forgetsOf rfl rfl ?_
    refine zw_geti ok_M_forgetsOf rfl fl_M_154 rfl rfl ?_
    rw [e13]
    refine zw_ishl ok_M_forgetsOf rfl ?_
    rw [← hN]
    refine zw_icmp_ge 127 ok_M_forgetsOf rfl (by decide) (by omega) (fun h43 => ?_) (fun h43 => ?_)
    · exfalso; omega
    · refine zw_aload_n ok_M_forgetsOf rfl rfl ?_
      refine zw_iload ok_M_forgetsOf rfl rfl ?_
      refine zw_puti ok_M_forgetsOf rfl fp_M_169 rfl rfl ?_
      rw [hm1]
      refine zw_aload_n ok_M_forgetsOf rfl rfl ?_
      refine zw_iload_n ok_M_forgetsOf rfl rfl ?_
      refine zw_Vv ok_M_forgetsOf rfl ok_M_lives lk_M_216 (by decide) rfl rfl (Nat.le_of_ble_eq_true rfl) (ks) (fun m54 h54 => ?_)
      obtain ⟨x, rfl, hL⟩ := h54
      have eg : putM m1 x 48 18 = (aSim τ (-1) s (h + 1).toNat).2.2.1 := hL.1.2.2.1.symm
      refine zw_aload_n ok_M_forgetsOf rfl rfl ?_
      refine zw_geti ok_M_forgetsOf rfl fl_M_182 rfl rfl ?_
      rw [eg]
      refine zw_iload_n ok_M_forgetsOf rfl rfl ?_
      refine zw_Sbp ok_M_forgetsOf rfl ok_M_isIn lk_M_172 (by decide) rfl (Nat.le_of_ble_eq_true rfl) (ct_M_isIn (by omega)) ?_
      refine zw_ifeq_b 121 ok_M_forgetsOf rfl (by decide) (fun h65 => ?_) (fun h65 => ?_)
      · exact nx x _ (by rw [if_neg (by rw [h65]; decide)])
      · refine zw_lconst1 ok_M_forgetsOf rfl ?_
        refine zw_lstore ok_M_forgetsOf rfl rfl (by decide) ?_
        refine zw_iconst ok_M_forgetsOf rfl ?_
        refine zw_istore ok_M_forgetsOf rfl rfl (by decide) ?_
        have q := fw_loop (mem := putM m1 x) (Q := Q) (c := c) (h := h) (p := p) (w := w) (s := s) (A := A) (B := B) (by show 0 ≤ m1 48 13 ∧ m1 48 13 ≤ 8; omega) hc (by omega) (τ 2 3).toNat 0 1 (by omega) (by show (0 : Int) + ((τ 2 3).toNat : Int) = m1 48 13; omega) (nx2 x h65)
        exact q
theorem fg_gcd {c h p : Int} (hc : 0 ≤ c ∧ c ≤ 16) (hn : 0 ≤ τ 2 3 ∧ τ 2 3 ≤ 8) : (16 : Int) ^ (τ 2 3).toNat = 2 ^ (4 * τ 2 3).toNat ∧ fgW τ c h p / ((Nat.gcd (fgW τ c h p).toNat ((16 : Int) ^ (τ 2 3).toNat).toNat : Nat) : Int) = fgA τ c h p ∧ (16 : Int) ^ (τ 2 3).toNat / ((Nat.gcd (fgW τ c h p).toNat ((16 : Int) ^ (τ 2 3).toNat).toNat : Nat) : Int) = fgB τ c h p := by
  have r := fgW_r (h := h) (p := p) hc hn
  have e16 : (16 : Int) ^ (τ 2 3).toNat = 2 ^ (4 * τ 2 3).toNat := by
    rw [show (4 * τ 2 3).toNat = 4 * (τ 2 3).toNat by omega, Int.pow_mul]
    rfl
  have hb := hvS_r (w := fgW τ c h p) (4 * τ 2 3).toNat 0
  have eg : ((Nat.gcd (fgW τ c h p).toNat ((16 : Int) ^ (τ 2 3).toNat).toNat : Nat) : Int) = 2 ^ (hvS (fgW τ c h p) (4 * τ 2 3).toNat 0).toNat := by
    have k := hv_gcd (fgW τ c h p).toNat (4 * τ 2 3).toNat 0 ⟨(fgW τ c h p).toNat, by rw [Nat.pow_zero, Nat.one_mul]⟩
    rw [Int.toNat_of_nonneg r.1, Nat.zero_add, show ((0 : Nat) : Int) = 0 from rfl] at k
    have e2 : ((16 : Int) ^ (τ 2 3).toNat).toNat = 2 ^ (4 * τ 2 3).toNat := by
      rw [e16, show (2 : Int) ^ (4 * τ 2 3).toNat = ((2 ^ (4 * τ 2 3).toNat : Nat) : Int) by rw [Int.natCast_pow]; rfl, Int.toNat_natCast]
    rw [e2, k, Int.natCast_pow]
    rfl
  refine ⟨e16, ?_, ?_⟩
  · rw [eg]; rfl
  · rw [eg, e16]
    unfold fgB
    generalize hvS (fgW τ c h p) (4 * τ 2 3).toNat 0 = v at hb
    rw [show (4 * τ 2 3).toNat = v.toNat + (4 * τ 2 3 - v).toNat by omega, Int.pow_add, Int.mul_ediv_cancel_left _ (Int.ne_of_gt (Int.pow_pos (by decide)))]
theorem ct_M_forgetsOf {c h p w : Int} (hR : MRv mem τ (-1) 0) (hc : 0 ≤ c ∧ c ≤ 16) (hh : 0 ≤ h ∧ h ≤ 11) (hp : 0 ≤ p ∧ p < aP τ) (hw : 0 ≤ w ∧ w ≤ 1) : zCl m_M_forgetsOf [vr 48, vi c, vi h, vi p, vi w] mem (if w = 0 then fgA τ c h p else fgB τ c h p) (fun m2 => mfr dJ dL mem m2) := by
  refine zCt.of [some (vr 48), some (vi c), some (vi h), some (vi p), some (vi w), none, none, none, none, none, none, none, none] ok_M_forgetsOf (Nat.le_of_ble_eq_true rfl) rfl ?_
  have b3 := hR.1.1.1.2.2.2.1
  have e13 := hR.2.1.1
  have r := fgW_r (h := h) (p := p) hc b3
  have g := fg_gcd (h := h) (p := p) hc b3
  have eN : zshl 1 (τ 2 3) = 2 ^ (τ 2 3).toNat := by
    have := zshl_pow (τ 2 3).toNat (by omega)
    rw [Int.toNat_of_nonneg b3.1] at this
    exact this
  have hN : (2 : Int) ^ (τ 2 3).toNat = ((2 ^ (τ 2 3).toNat : Nat) : Int) := by rw [Int.natCast_pow]; rfl
  have hN2 : 2 ^ (τ 2 3).toNat ≤ 2 ^ 8 := Nat.pow_le_pow_right (by decide) (by omega)
  have hN3 : 0 ≤ (2 : Int) ^ (τ 2 3).toNat ∧ (2 : Int) ^ (τ 2 3).toNat ≤ 256 := by
    rw [hN]
    exact ⟨Int.natCast_nonneg _, Int.ofNat_le.mpr hN2⟩
  have hB : 0 < (16 : Int) ^ (τ 2 3).toNat ∧ (16 : Int) ^ (τ 2 3).toNat < 4611686018427387904 := by
    have q : (16 : Int) ^ (τ 2 3).toNat = ((16 ^ (τ 2 3).toNat : Nat) : Int) := by rw [Int.natCast_pow]; rfl
    have q2 : 16 ^ (τ 2 3).toNat ≤ 16 ^ 8 := Nat.pow_le_pow_right (by decide) (by omega)
    have q3 : 0 < 16 ^ (τ 2 3).toNat := Nat.pow_pos (by decide)
    omega
  have t3 : ∀ m2, mfr fJ dL mem m2 → AW m_M_forgetsOf 127 [some (vr 48), some (vi c), some (vi h), some (vi p), some (vi w), some (vl (fgW τ c h p)), none, some (vl (16 ^ (τ 2 3).toNat)), none, none, none, none, none] [] m2 (fun r m2 => r = some (vl (if w = 0 then fgA τ c h p else fgB τ c h p)) ∧ mfr dJ dL mem m2) := by
    intro m2 f1
    have f2 : mfr fJ dL mem (zset m2 48 23 0) := f1.setj (by decide)
    have f3 : mfr dJ dL mem (zset m2 48 23 0) := f2.drop (by rw [hR.2.2.1.2.1]; rfl)
    have kp := ct_M_part (mem := zset m2 48 23 0) (w := w) r hB (by omega)
    rw [g.2.1, g.2.2] at kp
    refine zw_aload_n ok_M_forgetsOf rfl rfl ?_
    refine zw_iconst ok_M_forgetsOf rfl ?_
    refine zw_puti ok_M_forgetsOf rfl fp_M_169 rfl rfl ?_
    refine zw_lload ok_M_forgetsOf rfl rfl ?_
    refine zw_lload ok_M_forgetsOf rfl rfl ?_
    refine zw_iload ok_M_forgetsOf rfl rfl ?_
    refine zw_Slp ok_M_forgetsOf rfl ok_M_part lk_M_276 (by decide) rfl (Nat.le_of_ble_eq_true rfl) (kp) ?_
    exact zw_lret ok_M_forgetsOf rfl rfl (⟨rfl, f3⟩)
  have t2 : AW m_M_forgetsOf 32 [some (vr 48), some (vi c), some (vi h), some (vi p), some (vi w), some (vl 0), none, some (vl (16 ^ (mem 48 13).toNat)), none, none, none, none, none] [] mem (fun r m2 => r = some (vl (if w = 0 then fgA τ c h p else fgB τ c h p)) ∧ mfr dJ dL mem m2) := by
    rw [e13]
    refine zw_iconst ok_M_forgetsOf rfl ?_
    refine zw_istore ok_M_forgetsOf rfl rfl (by decide) ?_
    exact fs_loop (N := 2 ^ (τ 2 3).toNat) hR hc hh hp eN.symm hN3 (2 ^ (τ 2 3).toNat) 0 0 mem (by omega) (by rw [hN, Int.zero_add]) mfr.rf t3
  refine zw_lconst0 ok_M_forgetsOf rfl ?_
  refine zw_lstore ok_M_forgetsOf rfl rfl (by decide) ?_
  refine zw_lconst1 ok_M_forgetsOf rfl ?_
  refine zw_lstore ok_M_forgetsOf rfl rfl (by decide) ?_
  refine zw_iconst ok_M_forgetsOf rfl ?_
  refine zw_istore ok_M_forgetsOf rfl rfl (by decide) ?_
  exact fb_loop (by omega) (mem 48 13).toNat 0 (by omega) t2
theorem ct_M_forgets {c h p w : Int} (hI : MI mem τ) (hc : zR c) (hh : zR h) (hp : zR p) (hw : zR w) : zCl m_M_forgets [vr 48, vi c, vi h, vi p, vi w] mem (qForgets τ c h p w) (fun m2 => MI m2 τ ∧ ref47 mem m2) := by
  refine zCt.of [some (vr 48), some (vi c), some (vi h), some (vi p), some (vi w)] ok_M_forgets (Nat.le_of_ble_eq_true rfl) rfl ?_
  unfold qForgets
  by_cases hg : (0 ≤ c ∧ c ≤ 16) ∧ (0 ≤ h ∧ h ≤ 11) ∧ (0 ≤ p ∧ p < aP τ) ∧ (0 ≤ w ∧ w ≤ 1)
  · rw [if_pos hg]
    refine zw_aload_n ok_M_forgets rfl rfl ?_
    refine zw_Vv ok_M_forgets rfl ok_M_reads lk_M_140 (by decide) rfl rfl (Nat.le_of_ble_eq_true rfl) (ct_M_reads hI) (fun m1 h1 => ?_)
    have hP := P7 h1.1
    refine zw_iload_n ok_M_forgets rfl rfl ?_
    refine zw_i2l ok_M_forgets rfl (by omega) ?_
    refine zw_lconst0 ok_M_forgets rfl ?_
    refine zw_ldc2 ok_M_forgets rfl kc_M_274 ?_
    refine zw_Sbp ok_M_forgets rfl ok_M_in lk_M_70 (by decide) rfl (Nat.le_of_ble_eq_true rfl) (ct_M_in (by omega)) ?_
    first | refine zw_ifeq_d 51 ok_M_forgets rfl (by decide) (fun h13 => ?_) (fun h13 => ?_) | refine zw_ifeq_b 51 ok_M_forgets rfl (by decide) (fun h13 => ?_) (fun h13 => ?_) | refine zw_if_eq 51 ok_M_forgets rfl (by decide) (by omega) (fun h13 => ?_) (fun h13 => ?_)
    · exact absurd hg.1 h13
    · refine zw_iload_n ok_M_forgets rfl rfl ?_
      refine zw_Sbp ok_M_forgets rfl ok_M_isHour lk_M_157 (by decide) rfl (Nat.le_of_ble_eq_true rfl) (ct_M_isHour (by omega)) ?_
      first | refine zw_ifeq_d 51 ok_M_forgets rfl (by decide) (fun h20 => ?_) (fun h20 => ?_) | refine zw_ifeq_b 51 ok_M_forgets rfl (by decide) (fun h20 => ?_) (fun h20 => ?_) | refine zw_if_eq 51 ok_M_forgets rfl (by decide) (by omega) (fun h20 => ?_) (fun h20 => ?_)
      · exact absurd hg.2.1 h20
      · refine zw_aload_n ok_M_forgets rfl rfl ?_
        refine zw_iload_n ok_M_forgets rfl rfl ?_
        refine zw_Vbp ok_M_forgets rfl ok_M_isPerson lk_M_143 (by decide) rfl rfl (Nat.le_of_ble_eq_true rfl) (ct_M_isPerson hp hP.2) ?_
        first | refine zw_ifeq_d 51 ok_M_forgets rfl (by decide) (fun h28 => ?_) (fun h28 => ?_) | refine zw_ifeq_b 51 ok_M_forgets rfl (by decide) (fun h28 => ?_) (fun h28 => ?_) | refine zw_if_eq 51 ok_M_forgets rfl (by decide) (by omega) (fun h28 => ?_) (fun h28 => ?_)
        · exact absurd ⟨hg.2.2.1.1, by rw [hP.1]; omega⟩ h28
        · refine zw_iload ok_M_forgets rfl rfl ?_
          refine zw_Sbp ok_M_forgets rfl ok_M_isTwo lk_M_98 (by decide) rfl (Nat.le_of_ble_eq_true rfl) (ct_M_isTwo (by omega)) ?_
          first | refine zw_ifeq_d 51 ok_M_forgets rfl (by decide) (fun h36 => ?_) (fun h36 => ?_) | refine zw_ifeq_b 51 ok_M_forgets rfl (by decide) (fun h36 => ?_) (fun h36 => ?_) | refine zw_if_eq 51 ok_M_forgets rfl (by decide) (by omega) (fun h36 => ?_) (fun h36 => ?_)
          · exact absurd hg.2.2.2 h36
          · refine zw_aload_n ok_M_forgets rfl rfl ?_
            refine zw_iload_n ok_M_forgets rfl rfl ?_
            refine zw_iload_n ok_M_forgets rfl rfl ?_
            refine zw_iload_n ok_M_forgets rfl rfl ?_
            refine zw_iload ok_M_forgets rfl rfl ?_
            refine zw_Vl ok_M_forgets rfl ok_M_forgetsOf lk_M_280 (by decide) rfl rfl (Nat.le_of_ble_eq_true rfl) (ct_M_forgetsOf h1.1.2.1 hg.1 hg.2.1 hg.2.2.1 hg.2.2.2) (fun m45 h45 => ?_)
            refine zw_goto 56 ok_M_forgets rfl (by decide) ?_
            exact zw_lret ok_M_forgets rfl rfl (⟨rfl, (MR_of h45 h1.1).1, (h1.2.r47 (by decide)).tr (h45.r47 (by decide))⟩)
  · rw [if_neg hg]
    refine zw_aload_n ok_M_forgets rfl rfl ?_
    refine zw_Vv ok_M_forgets rfl ok_M_reads lk_M_140 (by decide) rfl rfl (Nat.le_of_ble_eq_true rfl) (ct_M_reads hI) (fun m1 h1 => ?_)
    have hP := P7 h1.1
    refine zw_iload_n ok_M_forgets rfl rfl ?_
    refine zw_i2l ok_M_forgets rfl (by omega) ?_
    refine zw_lconst0 ok_M_forgets rfl ?_
    refine zw_ldc2 ok_M_forgets rfl kc_M_274 ?_
    refine zw_Sbp ok_M_forgets rfl ok_M_in lk_M_70 (by decide) rfl (Nat.le_of_ble_eq_true rfl) (ct_M_in (by omega)) ?_
    first | refine zw_ifeq_d 51 ok_M_forgets rfl (by decide) (fun h13 => ?_) (fun h13 => ?_) | refine zw_ifeq_b 51 ok_M_forgets rfl (by decide) (fun h13 => ?_) (fun h13 => ?_) | refine zw_if_eq 51 ok_M_forgets rfl (by decide) (by omega) (fun h13 => ?_) (fun h13 => ?_)
    · refine zw_bipush ok_M_forgets rfl (by decide) ?_
      refine zw_Slp ok_M_forgets rfl ok_M_no lk_M_284 (by decide) rfl (Nat.le_of_ble_eq_true rfl) (ct_M_no (by omega)) ?_
      exact zw_lret ok_M_forgets rfl rfl (⟨rfl, MIr h1.2 hI⟩)
    · refine zw_iload_n ok_M_forgets rfl rfl ?_
      refine zw_Sbp ok_M_forgets rfl ok_M_isHour lk_M_157 (by decide) rfl (Nat.le_of_ble_eq_true rfl) (ct_M_isHour (by omega)) ?_
      first | refine zw_ifeq_d 51 ok_M_forgets rfl (by decide) (fun h20 => ?_) (fun h20 => ?_) | refine zw_ifeq_b 51 ok_M_forgets rfl (by decide) (fun h20 => ?_) (fun h20 => ?_) | refine zw_if_eq 51 ok_M_forgets rfl (by decide) (by omega) (fun h20 => ?_) (fun h20 => ?_)
      · refine zw_bipush ok_M_forgets rfl (by decide) ?_
        refine zw_Slp ok_M_forgets rfl ok_M_no lk_M_284 (by decide) rfl (Nat.le_of_ble_eq_true rfl) (ct_M_no (by omega)) ?_
        exact zw_lret ok_M_forgets rfl rfl (⟨rfl, MIr h1.2 hI⟩)
      · refine zw_aload_n ok_M_forgets rfl rfl ?_
        refine zw_iload_n ok_M_forgets rfl rfl ?_
        refine zw_Vbp ok_M_forgets rfl ok_M_isPerson lk_M_143 (by decide) rfl rfl (Nat.le_of_ble_eq_true rfl) (ct_M_isPerson hp hP.2) ?_
        first | refine zw_ifeq_d 51 ok_M_forgets rfl (by decide) (fun h28 => ?_) (fun h28 => ?_) | refine zw_ifeq_b 51 ok_M_forgets rfl (by decide) (fun h28 => ?_) (fun h28 => ?_) | refine zw_if_eq 51 ok_M_forgets rfl (by decide) (by omega) (fun h28 => ?_) (fun h28 => ?_)
        · refine zw_bipush ok_M_forgets rfl (by decide) ?_
          refine zw_Slp ok_M_forgets rfl ok_M_no lk_M_284 (by decide) rfl (Nat.le_of_ble_eq_true rfl) (ct_M_no (by omega)) ?_
          exact zw_lret ok_M_forgets rfl rfl (⟨rfl, MIr h1.2 hI⟩)
        · refine zw_iload ok_M_forgets rfl rfl ?_
          refine zw_Sbp ok_M_forgets rfl ok_M_isTwo lk_M_98 (by decide) rfl (Nat.le_of_ble_eq_true rfl) (ct_M_isTwo (by omega)) ?_
          first | refine zw_ifeq_d 51 ok_M_forgets rfl (by decide) (fun h36 => ?_) (fun h36 => ?_) | refine zw_ifeq_b 51 ok_M_forgets rfl (by decide) (fun h36 => ?_) (fun h36 => ?_) | refine zw_if_eq 51 ok_M_forgets rfl (by decide) (by omega) (fun h36 => ?_) (fun h36 => ?_)
          · refine zw_bipush ok_M_forgets rfl (by decide) ?_
            refine zw_Slp ok_M_forgets rfl ok_M_no lk_M_284 (by decide) rfl (Nat.le_of_ble_eq_true rfl) (ct_M_no (by omega)) ?_
            exact zw_lret ok_M_forgets rfl rfl (⟨rfl, MIr h1.2 hI⟩)
          · exact absurd ⟨h13, h20, ⟨h28.1, by rw [← hP.1]; omega⟩, h36⟩ hg
end
