/-! ===== the reference reads the walks ===== -/
section
variable {mem : zMem} {Q : Option zVal → zMem → Prop}
theorem cl_loop : ∀ (k : Nat) (i : Int), 0 ≤ i → i + k = 96 → Q none (zput mem 56 (zfil 96 (-1) (mem 56))) → AW m_M_clears 2 [some (vr 48), some (vi i)] [] (zput mem 56 (zfil i (-1) (mem 56))) Q := by
  intro k
  induction k with
  | zero =>
    intro i h0 h1 hx
    have e : i = 96 := by omega
    subst e
    refine zw_iload_n ok_M_clears rfl rfl ?_
    refine zw_bipush ok_M_clears rfl (by decide) ?_
    refine zw_icmp_ge 21 ok_M_clears rfl (by decide) (by omega) (fun h5 => ?_) (fun h5 => ?_)
    · exact zw_vret ok_M_clears rfl rfl (hx)
    · exfalso; omega
  | succ k ih =>
    intro i h0 h1 hx
    refine zw_iload_n ok_M_clears rfl rfl ?_
    refine zw_bipush ok_M_clears rfl (by decide) ?_
    refine zw_icmp_ge 21 ok_M_clears rfl (by decide) (by omega) (fun h5 => ?_) (fun h5 => ?_)
    · exfalso; omega
    · refine zw_aload_n ok_M_clears rfl rfl ?_
      refine zw_getr ok_M_clears rfl fl_M_31 rfl rfl ?_
      refine zw_iload_n ok_M_clears rfl rfl ?_
      refine zw_iconst ok_M_clears rfl ?_
      refine zw_iast ok_M_clears rfl rfl (by omega) ?_
      rw [zfil_s h0]
      refine zw_iinc ok_M_clears rfl rfl rfl (by decide) ?_
      refine zw_goto 2 ok_M_clears rfl (by decide) ?_
      exact ih (i + 1) (by omega) (by omega) hx
theorem ct_M_clears : zCvp m_M_clears [vr 48] mem (zput mem 56 (zfil 96 (-1) (mem 56))) := by
  refine zCt.of [some (vr 48), none] ok_M_clears (Nat.le_of_ble_eq_true rfl) rfl ?_
  have b := cl_loop (mem := mem) (Q := fun r m2 => r = none ∧ m2 = zput mem 56 (zfil 96 (-1) (mem 56))) 96 0 (by omega) (by omega) ⟨rfl, rfl⟩
  rw [zfil_0] at b
  refine zw_iconst ok_M_clears rfl ?_
  refine zw_istore_n ok_M_clears rfl rfl (by decide) ?_
  exact b
theorem mfr.put56 {J : List Int} {a b : zMem} {f : Int → Int} (h : mfr J [56] a b) : mfr J [56] a (zput b 56 f) := ⟨fun q q1 q2 => (zput_ne (fun e : q = 56 => q2 (by rw [e]; decide))).trans (h.1 q q1 q2), fun j q => h.2 j q⟩
/-- the streets of the reference's cells -/
def rdW (f g : Int → Int) : Prop := ∀ h p, 0 ≤ h → h < 12 → 0 ≤ p → p < 8 → f (12 * p + h) = g (h * 8 + p)
theorem rw_loop {n : Int} {t : Int → Int} {m0 : zMem} (h54 : m0 54 1 = n) (hn : 0 ≤ n ∧ n ≤ 71) (ht : ∀ i, 0 ≤ i → i < n → m0 53 (72 + i) = t i ∧ (0 ≤ t i ∧ t i ≤ 255)) :
    ∀ (k : Nat) (i : Int) (x : zWk) (m : zMem), 0 ≤ i → i + k = n → mfr [9] [56] m0 m → wkI i x → x.2.2.2 = -1 → (0 < n → m 48 9 = x.1 + 1) → rdW (m 56) x.2.2.1 →
      (∀ m2 y, y = lp (wkF t) k i x → mfr [9] [56] m0 m2 → (y.2.2.2 ≠ -1 → m2 48 9 = 0 ∧ rdW (m2 56) (fun _ => -1)) → (y.2.2.2 = -1 → (k = 0 → m2 48 9 = m 48 9) ∧ (0 < n → m2 48 9 = y.1 + 1) ∧ rdW (m2 56) y.2.2.1) → Q (some (vi y.2.2.2)) m2) →
      AW m_M_readsWalks 26 [some (vr 48), some (vi x.2.1), some (vi i), none, none, none] [] m Q := by
  intro k
  induction k with
  | zero =>
    intro i x m h0 h1 hf hw hx3 h9 hr hx
    have e54 : m 54 1 = n := by rw [hf.1 54 (by decide) (by decide)]; exact h54
    refine zw_iload_n ok_M_readsWalks rfl rfl ?_
    refine zw_aload_n ok_M_readsWalks rfl rfl ?_
    refine zw_getr ok_M_readsWalks rfl fl_M_25 rfl rfl ?_
    refine zw_iconst ok_M_readsWalks rfl ?_
    refine zw_iald ok_M_readsWalks rfl rfl (by omega) ?_
    rw [e54]
    refine zw_icmp_ge 179 ok_M_readsWalks rfl (by decide) (by omega) (fun h33 => ?_) (fun h33 => ?_)
    · refine zw_iconst ok_M_readsWalks rfl ?_
      exact zw_iret ok_M_readsWalks rfl rfl (by have q := hx m x rfl hf (fun z => absurd hx3 z) (fun _ => ⟨fun _ => rfl, h9, hr⟩); rw [hx3] at q; exact q)
    · exfalso; omega
  | succ k ih =>
    intro i x m h0 h1 hf hw hx3 h9 hr hx
    have e54 : m 54 1 = n := by rw [hf.1 54 (by decide) (by decide)]; exact h54
    have c := ht i h0 (by omega)
    have e53 : m 53 (72 + i) = t i := by rw [hf.1 53 (by decide) (by decide)]; exact c.1
    have hw2 := wkF_inv (t := t) h0 hw
    have k9 := h9 (by omega)
    clear h9
    obtain ⟨xw, xh, xs, xf⟩ := x
    dsimp only at hx3 k9 hr ⊢
    subst hx3
    have hw1 : (0 ≤ xw ∧ xw ≤ 7) ∧ (0 ≤ xh ∧ xh ≤ 12) := ⟨hw.1, hw.2.1⟩
    rw [lp_s] at hx
    have ef : wkF t i (xw, xh, xs, -1) = if t i = 59 ∧ xw < 7 then (xw + 1, 0, xs, -1) else if (97 ≤ t i ∧ t i ≤ 104) ∧ xh < 12 then (xw, xh + 1, zupd xs (xh * 8 + xw) (t i - 97), -1) else (xw, xh, xs, i) := by
      unfold wkF; rw [if_neg (by simp)]
    by_cases c1 : t i = 59 ∧ xw < 7
    · rw [if_pos c1] at ef
      rw [ef] at hx hw2
      refine zw_iload_n ok_M_readsWalks rfl rfl ?_
      refine zw_aload_n ok_M_readsWalks rfl rfl ?_
      refine zw_getr ok_M_readsWalks rfl fl_M_25 rfl rfl ?_
      refine zw_iconst ok_M_readsWalks rfl ?_
      refine zw_iald ok_M_readsWalks rfl rfl (by omega) ?_
      rw [e54]
      refine zw_icmp_ge 179 ok_M_readsWalks rfl (by decide) (by omega) (fun h33 => ?_) (fun h33 => ?_)
      · exfalso; omega
      · refine zw_aload_n ok_M_readsWalks rfl rfl ?_
        refine zw_getr ok_M_readsWalks rfl fl_M_22 rfl rfl ?_
        refine zw_bipush ok_M_readsWalks rfl (by decide) ?_
        refine zw_iload_n ok_M_readsWalks rfl rfl ?_
        refine zw_iadd ok_M_readsWalks rfl ?_
        refine zw_iald ok_M_readsWalks rfl rfl (by omega) ?_
        rw [e53]
        refine zw_istore_n ok_M_readsWalks rfl rfl (by decide) ?_
        refine zw_iload_n ok_M_readsWalks rfl rfl ?_
        refine zw_bipush ok_M_readsWalks rfl (by decide) ?_
        refine zw_icmp_ne 65 ok_M_readsWalks rfl (by decide) (by omega) (fun h49 => ?_) (fun h49 => ?_)
        · exact absurd c1.1 h49
        · refine zw_aload_n ok_M_readsWalks rfl rfl ?_
          refine zw_geti ok_M_readsWalks rfl fl_M_122 rfl rfl ?_
          rw [k9]
          refine zw_bipush ok_M_readsWalks rfl (by decide) ?_
          refine zw_icmp_ge 65 ok_M_readsWalks rfl (by decide) (by omega) (fun h58 => ?_) (fun h58 => ?_)
          · exfalso; omega
          · refine zw_iconst ok_M_readsWalks rfl ?_
            refine zw_goto 66 ok_M_readsWalks rfl (by decide) ?_
            refine zw_istore ok_M_readsWalks rfl rfl (by decide) ?_
            refine zw_iload_n ok_M_readsWalks rfl rfl ?_
            refine zw_i2l ok_M_readsWalks rfl (by omega) ?_
            refine zw_ldc2 ok_M_readsWalks rfl kc_M_125 ?_
            refine zw_ldc2 ok_M_readsWalks rfl kc_M_127 ?_
            refine zw_Sbp ok_M_readsWalks rfl ok_M_in lk_M_70 (by decide) rfl (Nat.le_of_ble_eq_true rfl) (ct_M_in (by omega)) ?_
            first | refine zw_ifeq_d 92 ok_M_readsWalks rfl (by decide) (fun h79 => ?_) (fun h79 => ?_) | refine zw_ifeq_b 92 ok_M_readsWalks rfl (by decide) (fun h79 => ?_) (fun h79 => ?_) | refine zw_if_eq 92 ok_M_readsWalks rfl (by decide) (by omega) (fun h79 => ?_) (fun h79 => ?_)
            · refine zw_iconst ok_M_readsWalks rfl ?_
              refine zw_istore ok_M_readsWalks rfl rfl (by decide) ?_
              refine zw_iload ok_M_readsWalks rfl rfl ?_
              refine zw_if_ne 116 ok_M_readsWalks rfl (by decide) (by omega) (fun h97 => ?_) (fun h97 => ?_)
              · refine zw_iload ok_M_readsWalks rfl rfl ?_
                refine zw_if_eq 141 ok_M_readsWalks rfl (by decide) (by omega) (fun h118 => ?_) (fun h118 => ?_)
                · refine zw_iload ok_M_readsWalks rfl rfl ?_
                  refine zw_if_eq 150 ok_M_readsWalks rfl (by decide) (by omega) (fun h143 => ?_) (fun h143 => ?_)
                  · exfalso; omega
                  · refine zw_iconst ok_M_readsWalks rfl ?_
                    refine zw_goto 153 ok_M_readsWalks rfl (by decide) ?_
                    refine zw_istore_n ok_M_readsWalks rfl rfl (by decide) ?_
                    refine zw_aload_n ok_M_readsWalks rfl rfl ?_
                    first | refine zw_dupi ok_M_readsWalks rfl ?_ | refine zw_dupr ok_M_readsWalks rfl ?_
                    refine zw_geti ok_M_readsWalks rfl fl_M_122 rfl rfl ?_
                    rw [k9]
                    refine zw_iload ok_M_readsWalks rfl rfl ?_
                    refine zw_if_eq 168 ok_M_readsWalks rfl (by decide) (by omega) (fun h161 => ?_) (fun h161 => ?_)
                    · exfalso; omega
                    · refine zw_iconst ok_M_readsWalks rfl ?_
                      refine zw_goto 169 ok_M_readsWalks rfl (by decide) ?_
                      refine zw_iadd ok_M_readsWalks rfl ?_
                      refine zw_puti ok_M_readsWalks rfl fp_M_122 rfl rfl ?_
                      refine zw_iinc ok_M_readsWalks rfl rfl rfl (by decide) ?_
                      refine zw_goto 26 ok_M_readsWalks rfl (by decide) ?_
                      refine zw_mask [true, true, true, false, false, false] rfl (ih (i + 1) (xw + 1, 0, xs, -1) _ (by omega) (by omega) (mfr.setj hf (by decide)) hw2 rfl (fun _ => by rw [zset_eq, zupd_eq]) hr (fun m2 y hy f1 f2 f3 => hx m2 y hy f1 f2 (fun z => ⟨fun q => (by cases q), (f3 z).2⟩)))
                · exfalso; omega
              · exfalso; omega
            · exfalso; omega
    · rw [if_neg c1] at ef
      by_cases c2 : (97 ≤ t i ∧ t i ≤ 104) ∧ xh < 12
      · rw [if_pos c2] at ef
        rw [ef] at hx hw2
        refine zw_iload_n ok_M_readsWalks rfl rfl ?_
        refine zw_aload_n ok_M_readsWalks rfl rfl ?_
        refine zw_getr ok_M_readsWalks rfl fl_M_25 rfl rfl ?_
        refine zw_iconst ok_M_readsWalks rfl ?_
        refine zw_iald ok_M_readsWalks rfl rfl (by omega) ?_
        rw [e54]
        refine zw_icmp_ge 179 ok_M_readsWalks rfl (by decide) (by omega) (fun h33 => ?_) (fun h33 => ?_)
        · exfalso; omega
        · refine zw_aload_n ok_M_readsWalks rfl rfl ?_
          refine zw_getr ok_M_readsWalks rfl fl_M_22 rfl rfl ?_
          refine zw_bipush ok_M_readsWalks rfl (by decide) ?_
          refine zw_iload_n ok_M_readsWalks rfl rfl ?_
          refine zw_iadd ok_M_readsWalks rfl ?_
          refine zw_iald ok_M_readsWalks rfl rfl (by omega) ?_
          rw [e53]
          refine zw_istore_n ok_M_readsWalks rfl rfl (by decide) ?_
          refine zw_iload_n ok_M_readsWalks rfl rfl ?_
          refine zw_bipush ok_M_readsWalks rfl (by decide) ?_
          refine zw_icmp_ne 65 ok_M_readsWalks rfl (by decide) (by omega) (fun h49 => ?_) (fun h49 => ?_)
          · refine zw_iconst ok_M_readsWalks rfl ?_
            refine zw_istore ok_M_readsWalks rfl rfl (by decide) ?_
            refine zw_iload_n ok_M_readsWalks rfl rfl ?_
            refine zw_i2l ok_M_readsWalks rfl (by omega) ?_
            refine zw_ldc2 ok_M_readsWalks rfl kc_M_125 ?_
            refine zw_ldc2 ok_M_readsWalks rfl kc_M_127 ?_
            refine zw_Sbp ok_M_readsWalks rfl ok_M_in lk_M_70 (by decide) rfl (Nat.le_of_ble_eq_true rfl) (ct_M_in (by omega)) ?_
            first | refine zw_ifeq_d 92 ok_M_readsWalks rfl (by decide) (fun h79 => ?_) (fun h79 => ?_) | refine zw_ifeq_b 92 ok_M_readsWalks rfl (by decide) (fun h79 => ?_) (fun h79 => ?_) | refine zw_if_eq 92 ok_M_readsWalks rfl (by decide) (by omega) (fun h79 => ?_) (fun h79 => ?_)
            · exfalso; exact h79 c2.1
            · refine zw_iload_n ok_M_readsWalks rfl rfl ?_
              refine zw_bipush ok_M_readsWalks rfl (by decide) ?_
              refine zw_icmp_ge 92 ok_M_readsWalks rfl (by decide) (by omega) (fun h85 => ?_) (fun h85 => ?_)
              · exfalso; omega
              · refine zw_iconst ok_M_readsWalks rfl ?_
                refine zw_goto 93 ok_M_readsWalks rfl (by decide) ?_
                refine zw_istore ok_M_readsWalks rfl rfl (by decide) ?_
                refine zw_iload ok_M_readsWalks rfl rfl ?_
                refine zw_if_ne 116 ok_M_readsWalks rfl (by decide) (by omega) (fun h97 => ?_) (fun h97 => ?_)
                · exfalso; omega
                · refine zw_iload ok_M_readsWalks rfl rfl ?_
                  refine zw_if_ne 116 ok_M_readsWalks rfl (by decide) (by omega) (fun h102 => ?_) (fun h102 => ?_)
                  · refine zw_iload ok_M_readsWalks rfl rfl ?_
                    refine zw_if_eq 141 ok_M_readsWalks rfl (by decide) (by omega) (fun h118 => ?_) (fun h118 => ?_)
                    · exfalso; omega
                    · refine zw_aload_n ok_M_readsWalks rfl rfl ?_
                      refine zw_getr ok_M_readsWalks rfl fl_M_31 rfl rfl ?_
                      refine zw_bipush ok_M_readsWalks rfl (by decide) ?_
                      refine zw_aload_n ok_M_readsWalks rfl rfl ?_
                      refine zw_geti ok_M_readsWalks rfl fl_M_122 rfl rfl ?_
                      rw [k9]
                      refine zw_iconst ok_M_readsWalks rfl ?_
                      refine zw_isub ok_M_readsWalks rfl ?_
                      refine zw_imul ok_M_readsWalks rfl ?_
                      refine zw_iload_n ok_M_readsWalks rfl rfl ?_
                      refine zw_iadd ok_M_readsWalks rfl ?_
                      refine zw_iload_n ok_M_readsWalks rfl rfl ?_
                      refine zw_bipush ok_M_readsWalks rfl (by decide) ?_
                      refine zw_isub ok_M_readsWalks rfl ?_
                      refine zw_iast ok_M_readsWalks rfl rfl (by omega) ?_
                      refine zw_iload ok_M_readsWalks rfl rfl ?_
                      refine zw_if_eq 150 ok_M_readsWalks rfl (by decide) (by omega) (fun h143 => ?_) (fun h143 => ?_)
                      · refine zw_iload_n ok_M_readsWalks rfl rfl ?_
                        refine zw_iconst ok_M_readsWalks rfl ?_
                        refine zw_iadd ok_M_readsWalks rfl ?_
                        refine zw_istore_n ok_M_readsWalks rfl rfl (by decide) ?_
                        refine zw_aload_n ok_M_readsWalks rfl rfl ?_
                        first | refine zw_dupi ok_M_readsWalks rfl ?_ | refine zw_dupr ok_M_readsWalks rfl ?_
                        refine zw_geti ok_M_readsWalks rfl fl_M_122 rfl rfl ?_
                        rw [show zset m 56 (12 * (xw + 1 - 1) + xh) (t i - 97) 48 9 = m 48 9 from by rw [zset_ne (by decide)], k9]
                        refine zw_iload ok_M_readsWalks rfl rfl ?_
                        refine zw_if_eq 168 ok_M_readsWalks rfl (by decide) (by omega) (fun h161 => ?_) (fun h161 => ?_)
                        · refine zw_iconst ok_M_readsWalks rfl ?_
                          refine zw_iadd ok_M_readsWalks rfl ?_
                          refine zw_puti ok_M_readsWalks rfl fp_M_122 rfl rfl ?_
                          refine zw_iinc ok_M_readsWalks rfl rfl rfl (by decide) ?_
                          refine zw_goto 26 ok_M_readsWalks rfl (by decide) ?_
                          refine zw_mask [true, true, true, false, false, false] rfl (ih (i + 1) (xw, xh + 1, zupd xs (xh * 8 + xw) (t i - 97), -1) _ (by omega) (by omega) (mfr.setj (mfr.set hf (by decide) (by decide)) (by decide)) hw2 rfl (fun _ => by rw [zset_eq, zupd_eq, Int.add_zero]) ?_ (fun m2 y hy f1 f2 f3 => hx m2 y hy f1 f2 (fun z => ⟨fun q => (by cases q), (f3 z).2⟩)))
                          rw [zset_ne (by decide), zset_eq]
                          intro h p q1 q2 q3 q4
                          by_cases e : h = xh ∧ p = xw
                          · obtain ⟨rfl, rfl⟩ := e
                            rw [show p + 1 - 1 = p by omega, zupd_eq]
                            exact zupd_eq.symm
                          · rw [zupd_ne (show 12 * p + h ≠ 12 * (xw + 1 - 1) + xh by omega)]
                            show m 56 (12 * p + h) = zupd xs (xh * 8 + xw) (t i - 97) (h * 8 + p)
                            rw [zupd_ne (show h * 8 + p ≠ xh * 8 + xw by omega)]
                            exact hr h p q1 q2 q3 q4
                        · exfalso; omega
                      · exfalso; omega
                  · exfalso; omega
          · exfalso; omega
      · rw [if_neg c2] at ef
        rw [ef, wkF_stop (by dsimp only; omega)] at hx
        have fin : AW m_M_readsWalks 105 [some (vr 48), some (vi xh), some (vi i), none, none, none] [] m Q := by
          refine zw_aload_n ok_M_readsWalks rfl rfl ?_
          refine zw_Vvp ok_M_readsWalks rfl ok_M_clears lk_M_119 (by decide) rfl rfl (Nat.le_of_ble_eq_true rfl) (ct_M_clears) ?_
          refine zw_aload_n ok_M_readsWalks rfl rfl ?_
          refine zw_iconst ok_M_readsWalks rfl ?_
          refine zw_puti ok_M_readsWalks rfl fp_M_122 rfl rfl ?_
          refine zw_iload_n ok_M_readsWalks rfl rfl ?_
          exact zw_iret ok_M_readsWalks rfl rfl (hx _ (xw, xh, xs, i) rfl (mfr.setj (mfr.put56 hf) (by decide)) (fun _ => ⟨by rw [zset_eq, zupd_eq], fun h p q1 q2 q3 q4 => by rw [zset_ne (by decide), zput_eq]; unfold zfil; rw [if_pos (by omega)]⟩) (fun z => by exfalso; have z : i = -1 := z; omega))
        refine zw_iload_n ok_M_readsWalks rfl rfl ?_
        refine zw_aload_n ok_M_readsWalks rfl rfl ?_
        refine zw_getr ok_M_readsWalks rfl fl_M_25 rfl rfl ?_
        refine zw_iconst ok_M_readsWalks rfl ?_
        refine zw_iald ok_M_readsWalks rfl rfl (by omega) ?_
        rw [e54]
        refine zw_icmp_ge 179 ok_M_readsWalks rfl (by decide) (by omega) (fun h33 => ?_) (fun h33 => ?_)
        · exfalso; omega
        · refine zw_aload_n ok_M_readsWalks rfl rfl ?_
          refine zw_getr ok_M_readsWalks rfl fl_M_22 rfl rfl ?_
          refine zw_bipush ok_M_readsWalks rfl (by decide) ?_
          refine zw_iload_n ok_M_readsWalks rfl rfl ?_
          refine zw_iadd ok_M_readsWalks rfl ?_
          refine zw_iald ok_M_readsWalks rfl rfl (by omega) ?_
          rw [e53]
          refine zw_istore_n ok_M_readsWalks rfl rfl (by decide) ?_
          refine zw_iload_n ok_M_readsWalks rfl rfl ?_
          refine zw_bipush ok_M_readsWalks rfl (by decide) ?_
          refine zw_icmp_ne 65 ok_M_readsWalks rfl (by decide) (by omega) (fun h49 => ?_) (fun h49 => ?_)
          · refine zw_iconst ok_M_readsWalks rfl ?_
            refine zw_istore ok_M_readsWalks rfl rfl (by decide) ?_
            refine zw_iload_n ok_M_readsWalks rfl rfl ?_
            refine zw_i2l ok_M_readsWalks rfl (by omega) ?_
            refine zw_ldc2 ok_M_readsWalks rfl kc_M_125 ?_
            refine zw_ldc2 ok_M_readsWalks rfl kc_M_127 ?_
            refine zw_Sbp ok_M_readsWalks rfl ok_M_in lk_M_70 (by decide) rfl (Nat.le_of_ble_eq_true rfl) (ct_M_in (by omega)) ?_
            first | refine zw_ifeq_d 92 ok_M_readsWalks rfl (by decide) (fun h79 => ?_) (fun h79 => ?_) | refine zw_ifeq_b 92 ok_M_readsWalks rfl (by decide) (fun h79 => ?_) (fun h79 => ?_) | refine zw_if_eq 92 ok_M_readsWalks rfl (by decide) (by omega) (fun h79 => ?_) (fun h79 => ?_)
            · refine zw_iconst ok_M_readsWalks rfl ?_
              refine zw_istore ok_M_readsWalks rfl rfl (by decide) ?_
              refine zw_iload ok_M_readsWalks rfl rfl ?_
              refine zw_if_ne 116 ok_M_readsWalks rfl (by decide) (by omega) (fun h97 => ?_) (fun h97 => ?_)
              · exfalso; omega
              · refine zw_iload ok_M_readsWalks rfl rfl ?_
                refine zw_if_ne 116 ok_M_readsWalks rfl (by decide) (by omega) (fun h102 => ?_) (fun h102 => ?_)
                · exfalso; omega
                · exact zw_mask [true, true, true, false, false, false] rfl fin
            · refine zw_iload_n ok_M_readsWalks rfl rfl ?_
              refine zw_bipush ok_M_readsWalks rfl (by decide) ?_
              refine zw_icmp_ge 92 ok_M_readsWalks rfl (by decide) (by omega) (fun h85 => ?_) (fun h85 => ?_)
              · refine zw_iconst ok_M_readsWalks rfl ?_
                refine zw_istore ok_M_readsWalks rfl rfl (by decide) ?_
                refine zw_iload ok_M_readsWalks rfl rfl ?_
                refine zw_if_ne 116 ok_M_readsWalks rfl (by decide) (by omega) (fun h97 => ?_) (fun h97 => ?_)
                · exfalso; omega
                · refine zw_iload ok_M_readsWalks rfl rfl ?_
                  refine zw_if_ne 116 ok_M_readsWalks rfl (by decide) (by omega) (fun h102 => ?_) (fun h102 => ?_)
                  · exfalso; omega
                  · exact zw_mask [true, true, true, false, false, false] rfl fin
              · exact absurd ⟨h79, by omega⟩ c2
          · refine zw_aload_n ok_M_readsWalks rfl rfl ?_
            refine zw_geti ok_M_readsWalks rfl fl_M_122 rfl rfl ?_
            rw [k9]
            refine zw_bipush ok_M_readsWalks rfl (by decide) ?_
            refine zw_icmp_ge 65 ok_M_readsWalks rfl (by decide) (by omega) (fun h58 => ?_) (fun h58 => ?_)
            · refine zw_iconst ok_M_readsWalks rfl ?_
              refine zw_istore ok_M_readsWalks rfl rfl (by decide) ?_
              refine zw_iload_n ok_M_readsWalks rfl rfl ?_
              refine zw_i2l ok_M_readsWalks rfl (by omega) ?_
              refine zw_ldc2 ok_M_readsWalks rfl kc_M_125 ?_
              refine zw_ldc2 ok_M_readsWalks rfl kc_M_127 ?_
              refine zw_Sbp ok_M_readsWalks rfl ok_M_in lk_M_70 (by decide) rfl (Nat.le_of_ble_eq_true rfl) (ct_M_in (by omega)) ?_
              first | refine zw_ifeq_d 92 ok_M_readsWalks rfl (by decide) (fun h79 => ?_) (fun h79 => ?_) | refine zw_ifeq_b 92 ok_M_readsWalks rfl (by decide) (fun h79 => ?_) (fun h79 => ?_) | refine zw_if_eq 92 ok_M_readsWalks rfl (by decide) (by omega) (fun h79 => ?_) (fun h79 => ?_)
              · refine zw_iconst ok_M_readsWalks rfl ?_
                refine zw_istore ok_M_readsWalks rfl rfl (by decide) ?_
                refine zw_iload ok_M_readsWalks rfl rfl ?_
                refine zw_if_ne 116 ok_M_readsWalks rfl (by decide) (by omega) (fun h97 => ?_) (fun h97 => ?_)
                · exfalso; omega
                · refine zw_iload ok_M_readsWalks rfl rfl ?_
                  refine zw_if_ne 116 ok_M_readsWalks rfl (by decide) (by omega) (fun h102 => ?_) (fun h102 => ?_)
                  · exfalso; omega
                  · exact zw_mask [true, true, true, false, false, false] rfl fin
              · refine zw_iload_n ok_M_readsWalks rfl rfl ?_
                refine zw_bipush ok_M_readsWalks rfl (by decide) ?_
                refine zw_icmp_ge 92 ok_M_readsWalks rfl (by decide) (by omega) (fun h85 => ?_) (fun h85 => ?_)
                · refine zw_iconst ok_M_readsWalks rfl ?_
                  refine zw_istore ok_M_readsWalks rfl rfl (by decide) ?_
                  refine zw_iload ok_M_readsWalks rfl rfl ?_
                  refine zw_if_ne 116 ok_M_readsWalks rfl (by decide) (by omega) (fun h97 => ?_) (fun h97 => ?_)
                  · exfalso; omega
                  · refine zw_iload ok_M_readsWalks rfl rfl ?_
                    refine zw_if_ne 116 ok_M_readsWalks rfl (by decide) (by omega) (fun h102 => ?_) (fun h102 => ?_)
                    · exfalso; omega
                    · exact zw_mask [true, true, true, false, false, false] rfl fin
                · exact absurd ⟨h79, by omega⟩ c2
            · exact absurd ⟨h49, by omega⟩ c1
theorem ct_M_readsWalks {n : Int} {t : Int → Int} (h54 : mem 54 1 = n) (hn : 0 ≤ n ∧ n ≤ 71) (ht : ∀ i, 0 ≤ i → i < n → mem 53 (72 + i) = t i ∧ (0 ≤ t i ∧ t i ≤ 255)) : zCi m_M_readsWalks [vr 48] mem (sFw n t) (fun m2 => mfr [9] [56] mem m2 ∧ m2 48 9 = sWn n t ∧ ∀ h p, 0 ≤ h → h < 12 → 0 ≤ p → p < 8 → m2 56 (12 * p + h) = sStr n t h p) := by
  refine zCt.of [some (vr 48), none, none, none, none, none] ok_M_readsWalks (Nat.le_of_ble_eq_true rfl) rfl ?_
  have tl : ∀ v, v = (if n = 0 then 0 else 1) → AW m_M_readsWalks 22 [some (vr 48), none, none, none, none, none] [] (zset (zput mem 56 (zfil 96 (-1) (mem 56))) 48 9 v) (fun r m2 => r = some (vi (sFw n t)) ∧ mfr [9] [56] mem m2 ∧ m2 48 9 = sWn n t ∧ ∀ h p, 0 ≤ h → h < 12 → 0 ≤ p → p < 8 → m2 56 (12 * p + h) = sStr n t h p) := by
    intro v hv
    refine zw_iconst ok_M_readsWalks rfl ?_
    refine zw_istore_n ok_M_readsWalks rfl rfl (by decide) ?_
    refine zw_iconst ok_M_readsWalks rfl ?_
    refine zw_istore_n ok_M_readsWalks rfl rfl (by decide) ?_
    refine rw_loop (m0 := mem) h54 hn ht n.toNat 0 wk0 _ (by omega) (by omega) (mfr.setj (mfr.put56 mfr.rf) (by decide)) wk0_I rfl (fun z => ?_) ?_ (fun m2 y hy f1 f2 f3 => ?_)
    · rw [zset_eq, zupd_eq, hv, if_neg (by omega)]; rfl
    · rw [zset_ne (by decide), zput_eq]
      intro h p q1 q2 q3 q4
      unfold zfil
      rw [if_pos (by omega)]
      rfl
    · have ey : y = sWk n t := hy
      have e1 : sFw n t = y.2.2.2 := by rw [ey]; rfl
      refine ⟨by rw [e1], f1, ?_, ?_⟩
      · unfold sWn
        rw [e1]
        by_cases z : y.2.2.2 = -1
        · by_cases n0 : n = 0
          · rw [if_pos (Or.inl n0), (f3 z).1 (by omega), zset_eq, zupd_eq, hv, if_pos n0]
          · rw [if_neg (by omega), (f3 z).2.1 (by omega), ey]
        · rw [if_pos (Or.inr z)]; exact (f2 z).1
      · intro h p q1 q2 q3 q4
        unfold sStr
        rw [e1]
        by_cases z : y.2.2.2 = -1
        · rw [if_neg (fun q => q z), (f3 z).2.2 h p q1 q2 q3 q4, ey]
        · rw [if_pos z]; exact (f2 z).2 h p q1 q2 q3 q4
  refine zw_aload_n ok_M_readsWalks rfl rfl ?_
  refine zw_Vvp ok_M_readsWalks rfl ok_M_clears lk_M_119 (by decide) rfl rfl (Nat.le_of_ble_eq_true rfl) (ct_M_clears) ?_
  refine zw_aload_n ok_M_readsWalks rfl rfl ?_
  refine zw_aload_n ok_M_readsWalks rfl rfl ?_
  refine zw_getr ok_M_readsWalks rfl fl_M_25 rfl rfl ?_
  refine zw_iconst ok_M_readsWalks rfl ?_
  refine zw_iald ok_M_readsWalks rfl rfl (by omega) ?_
  rw [show zput mem 56 (zfil 96 (-1) (mem 56)) 54 1 = n from h54]
  refine zw_if_ne 18 ok_M_readsWalks rfl (by decide) (by omega) (fun h11 => ?_) (fun h11 => ?_)
  · refine zw_iconst ok_M_readsWalks rfl ?_
    refine zw_puti ok_M_readsWalks rfl fp_M_122 rfl rfl ?_
    exact tl _ (by first | rw [if_neg h11] | rw [if_pos h11])
  · refine zw_iconst ok_M_readsWalks rfl ?_
    refine zw_goto 19 ok_M_readsWalks rfl (by decide) ?_
    refine zw_puti ok_M_readsWalks rfl fp_M_122 rfl rfl ?_
    exact tl _ (by first | rw [if_neg h11] | rw [if_pos h11])
end
