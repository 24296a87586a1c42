/-! ===== the reference: stroll ===== -/
abbrev sJ : List Int := [24, 18, 19, 20, 21, 30]
theorem sJ_18 : ∀ j : Int, 18 ≤ j → j ≤ 21 → j ∈ sJ := by
  intro j h1 h2
  have : j = 18 ∨ j = 19 ∨ j = 20 ∨ j = 21 := by omega
  rcases this with rfl | rfl | rfl | rfl <;> decide
section
variable {mem m2 τ τ2 : zMem} {Q : Option zVal → zMem → Prop} {ol ff : Int}
theorem day_rel {m : zMem} {p r : Int} (h : MRv mem τ (-1) 0) (hf : mfr sJ dL mem m) (h24 : m 48 24 = p) (hp : 0 ≤ p ∧ p < aP τ) (hr : 0 ≤ r ∧ r < 729) (h62 : m 62 0 = r / 81 ∧ m 62 1 = r / 9 % 9 ∧ m 62 2 = r % 9) : okM m ∧ ∀ x, LR τ (liM m 11 x) (dayT τ p r) := by
  have hb : MRb m τ := MRb_of hf (by decide) (by decide) h.1
  have hP := aP_b h.1
  have u := h.1.1.2.2.2.2.1
  have b3 := h.1.1.1.2.2.2.1
  have e13 : m 48 13 = τ 2 3 := by rw [hf.2 13 (by decide)]; exact h.2.1.1
  have e58 : m 58 = mem 58 := hf.1 58 (by decide) (by decide)
  have e22 : m 48 22 = -1 := by rw [hf.2 22 (by decide)]; exact h.2.2.1.1
  have e23 : m 48 23 = 0 := by rw [hf.2 23 (by decide)]; exact h.2.2.1.2.1
  have d62 : ∀ hh, 0 ≤ hh → hh < 3 → m 62 hh = dgt r hh := by
    intro hh q1 q2
    have : hh = 0 ∨ hh = 1 ∨ hh = 2 := by omega
    rcases this with rfl | rfl | rfl
    · exact h62.1
    · exact h62.2.1
    · exact h62.2.2
  have hC : okM m := by
    refine okM_b hb ⟨by omega, fun k k0 k1 => ?_⟩ (by omega) (by omega) (fun _ hh q1 q2 => by rw [d62 hh q1 q2]; exact dgt_r hr hh q1 q2)
    rw [e13] at k1
    rw [e58, (h.2.1.2 k k0 k1).1, (h.2.1.2 k k0 k1).2]
    exact u k k0 k1
  refine ⟨hC, fun x => ?_⟩
  have key := lv_rel (sr := srT τ p r) (hid := aHid τ 0) (t := 11) hb hC (fun hh q q1 q2 q3 q4 => ?_) (by omega) x
  · rw [e22] at key; exact key
  · refine ⟨?_, ?_⟩
    · unfold srM srT
      rw [h24]
      by_cases e : q = p ∧ hh < 3
      · rw [if_pos e, if_pos e, d62 hh q1 e.2]
      · rw [if_neg e, if_neg e]
        exact hb.2.2.1 hh q q1 q2 q3 (by omega)
    · unfold hdM aHid
      rw [e23, e13, e58, hidB_ext _ _ (uh2 := τ 6) (uw2 := τ 7) (fun j z1 z2 => h.2.1.2 j z1 (by omega))]
theorem ct_day {m : zMem} {p r : Int} (h : MRv mem τ (-1) 0) (hf : mfr sJ dL mem m) (h24 : m 48 24 = p) (hp : 0 ≤ p ∧ p < aP τ) (hr : 0 ≤ r ∧ r < 729) (h62 : m 62 0 = r / 81 ∧ m 62 1 = r / 9 % 9 ∧ m 62 2 = r % 9) : zCv m_M_lives [vr 48, vi 11] m (fun m2 => ∃ x, m2 = putM m x ∧ LR τ x (dayT τ p r)) := by
  have d := day_rel h hf h24 hp hr h62
  have key := ct_M_lives (mem := m) (t := 11) (x := (m 59, m 60, m 61, m 48 18, m 48 19, m 48 20, m 48 21)) d.1 (by omega)
  rw [putM_self] at key
  exact zCt.mono key (fun r m q => ⟨q.1, _, q.2, d.2 _⟩)
/-- the reference's best row so far is the class's -/
def stR (b f l : Int) (y : Int × Int) : Prop := (b = -1 ∧ f = 0 ∧ l = 0 ∧ y = (900, -1)) ∨ (0 ≤ b ∧ b < 729 ∧ (0 ≤ f ∧ f ≤ 8) ∧ (0 ≤ l ∧ l ≤ 99) ∧ y = (100 * f + l, b))
theorem st_tail {p e i b f l r n : Int} {m : zMem} {x : zM} {y : Int × Int} (hp : 0 ≤ p ∧ p < 8) (hr : 0 ≤ r ∧ r < 729) (hn : 0 ≤ n ∧ n ≤ 8) (hm : 0 ≤ x.2.2.1 p ∧ x.2.2.1 p ≤ 99) (hy : stR b f l y) (nx : ∀ b2 f2 l2 y2 u1 u2, stR b2 f2 l2 y2 → y2 = (if 100 * n + x.2.2.1 p < y.1 then (100 * n + x.2.2.1 p, r) else y) → AW m_M_strollOf 190 [some (vr 48), some (vi p), some (vi e), some (vi i), some (vi b2), some (vi f2), some (vi l2), some (vi r), some (vi u1), some (vi u2)] [] (putM m x) Q) : AW m_M_strollOf 106 [some (vr 48), some (vi p), some (vi e), some (vi i), some (vi b), some (vi f), some (vi l), some (vi r), some (vi n), none] [] (putM m x) Q := by
  obtain ⟨la, lb, mo, g, nn, fh, fw⟩ := x
  dsimp only at hm nx
  by_cases hb : b = -1 ∨ n < f ∨ (n = f ∧ mo p < l)
  · have yes : (100 * n + mo p < y.1 ∧ zR b) ∧ zR f ∧ zR l := by
      rcases hy with w | w
      · rw [w.2.2.2]; exact ⟨⟨show 100 * n + mo p < 900 by omega, by omega⟩, by omega, by omega⟩
      · rw [w.2.2.2.2]; exact ⟨⟨show 100 * n + mo p < 100 * f + l by omega, by omega⟩, by omega, by omega⟩
    refine zw_iload ok_M_strollOf rfl rfl ?_
    refine zw_iconst ok_M_strollOf rfl ?_
    refine zw_icmp_eq 137 ok_M_strollOf rfl (by decide) (by omega) (fun h109 => ?_) (fun h109 => ?_)
    · refine zw_iconst ok_M_strollOf rfl ?_
      refine zw_goto 142 ok_M_strollOf rfl (by decide) ?_
      refine zw_istore ok_M_strollOf rfl rfl (by decide) ?_
      refine zw_iload ok_M_strollOf rfl rfl ?_
      refine zw_if_eq 154 ok_M_strollOf rfl (by decide) (by omega) (fun h146 => ?_) (fun h146 => ?_)
      · exfalso; omega
      · refine zw_iload ok_M_strollOf rfl rfl ?_
        refine zw_goto 156 ok_M_strollOf rfl (by decide) ?_
        refine zw_istore ok_M_strollOf rfl rfl (by decide) ?_
        refine zw_iload ok_M_strollOf rfl rfl ?_
        refine zw_if_eq 168 ok_M_strollOf rfl (by decide) (by omega) (fun h160 => ?_) (fun h160 => ?_)
        · exfalso; omega
        · refine zw_iload ok_M_strollOf rfl rfl ?_
          refine zw_goto 170 ok_M_strollOf rfl (by decide) ?_
          refine zw_istore ok_M_strollOf rfl rfl (by decide) ?_
          refine zw_iload ok_M_strollOf rfl rfl ?_
          refine zw_if_eq 186 ok_M_strollOf rfl (by decide) (by omega) (fun h174 => ?_) (fun h174 => ?_)
          · exfalso; omega
          · refine zw_aload_n ok_M_strollOf rfl rfl ?_
            refine zw_getr ok_M_strollOf rfl fl_M_46 rfl rfl ?_
            refine zw_iload_n ok_M_strollOf rfl rfl ?_
            refine zw_iald ok_M_strollOf rfl rfl (by omega) ?_
            try simp only [rd_M18, rd_M19, rd_M20, rd_M21, rd_M59, rd_M60, rd_M61, rd_Mj4, rd_Mj7, rd_Mj9, rd_Mj11, rd_Mj13, rd_Mj22, rd_Mj23, rd_Mj24, rd_Mj27, rd_Mj30, rd_M_49, rd_M_50, rd_M_51, rd_M_52, rd_M_53, rd_M_54, rd_M_55, rd_M_56, rd_M_57, rd_M_58, rd_M_62, rd_M_63, rd_M_64, rd_M_65, wr_M18, wr_M19, wr_M20, wr_M21, wr_M59, wr_M60, wr_M61]
            refine zw_goto 188 ok_M_strollOf rfl (by decide) ?_
            refine zw_istore ok_M_strollOf rfl rfl (by decide) ?_
            exact nx r n (mo p) _ _ _ (Or.inr ⟨hr.1, hr.2, hn, hm, rfl⟩) (by rw [if_pos yes.1.1])
    · refine zw_iload ok_M_strollOf rfl rfl ?_
      refine zw_iload ok_M_strollOf rfl rfl ?_
      refine zw_icmp_lt 137 ok_M_strollOf rfl (by decide) (by omega) (fun h116 => ?_) (fun h116 => ?_)
      · refine zw_iconst ok_M_strollOf rfl ?_
        refine zw_goto 142 ok_M_strollOf rfl (by decide) ?_
        refine zw_istore ok_M_strollOf rfl rfl (by decide) ?_
        refine zw_iload ok_M_strollOf rfl rfl ?_
        refine zw_if_eq 154 ok_M_strollOf rfl (by decide) (by omega) (fun h146 => ?_) (fun h146 => ?_)
        · exfalso; omega
        · refine zw_iload ok_M_strollOf rfl rfl ?_
          refine zw_goto 156 ok_M_strollOf rfl (by decide) ?_
          refine zw_istore ok_M_strollOf rfl rfl (by decide) ?_
          refine zw_iload ok_M_strollOf rfl rfl ?_
          refine zw_if_eq 168 ok_M_strollOf rfl (by decide) (by omega) (fun h160 => ?_) (fun h160 => ?_)
          · exfalso; omega
          · refine zw_iload ok_M_strollOf rfl rfl ?_
            refine zw_goto 170 ok_M_strollOf rfl (by decide) ?_
            refine zw_istore ok_M_strollOf rfl rfl (by decide) ?_
            refine zw_iload ok_M_strollOf rfl rfl ?_
            refine zw_if_eq 186 ok_M_strollOf rfl (by decide) (by omega) (fun h174 => ?_) (fun h174 => ?_)
            · exfalso; omega
            · refine zw_aload_n ok_M_strollOf rfl rfl ?_
              refine zw_getr ok_M_strollOf rfl fl_M_46 rfl rfl ?_
              refine zw_iload_n ok_M_strollOf rfl rfl ?_
              refine zw_iald ok_M_strollOf rfl rfl (by omega) ?_
              try simp only [rd_M18, rd_M19, rd_M20, rd_M21, rd_M59, rd_M60, rd_M61, rd_Mj4, rd_Mj7, rd_Mj9, rd_Mj11, rd_Mj13, rd_Mj22, rd_Mj23, rd_Mj24, rd_Mj27, rd_Mj30, rd_M_49, rd_M_50, rd_M_51, rd_M_52, rd_M_53, rd_M_54, rd_M_55, rd_M_56, rd_M_57, rd_M_58, rd_M_62, rd_M_63, rd_M_64, rd_M_65, wr_M18, wr_M19, wr_M20, wr_M21, wr_M59, wr_M60, wr_M61]
              refine zw_goto 188 ok_M_strollOf rfl (by decide) ?_
              refine zw_istore ok_M_strollOf rfl rfl (by decide) ?_
              exact nx r n (mo p) _ _ _ (Or.inr ⟨hr.1, hr.2, hn, hm, rfl⟩) (by rw [if_pos yes.1.1])
      · refine zw_iload ok_M_strollOf rfl rfl ?_
        refine zw_iload ok_M_strollOf rfl rfl ?_
        refine zw_icmp_ne 141 ok_M_strollOf rfl (by decide) (by omega) (fun h123 => ?_) (fun h123 => ?_)
        · exfalso; omega
        · refine zw_aload_n ok_M_strollOf rfl rfl ?_
          refine zw_getr ok_M_strollOf rfl fl_M_46 rfl rfl ?_
          refine zw_iload_n ok_M_strollOf rfl rfl ?_
          refine zw_iald ok_M_strollOf rfl rfl (by omega) ?_
          try simp only [rd_M18, rd_M19, rd_M20, rd_M21, rd_M59, rd_M60, rd_M61, rd_Mj4, rd_Mj7, rd_Mj9, rd_Mj11, rd_Mj13, rd_Mj22, rd_Mj23, rd_Mj24, rd_Mj27, rd_Mj30, rd_M_49, rd_M_50, rd_M_51, rd_M_52, rd_M_53, rd_M_54, rd_M_55, rd_M_56, rd_M_57, rd_M_58, rd_M_62, rd_M_63, rd_M_64, rd_M_65, wr_M18, wr_M19, wr_M20, wr_M21, wr_M59, wr_M60, wr_M61]
          refine zw_iload ok_M_strollOf rfl rfl ?_
          refine zw_icmp_ge 141 ok_M_strollOf rfl (by decide) (by omega) (fun h134 => ?_) (fun h134 => ?_)
          · exfalso; omega
          · refine zw_iconst ok_M_strollOf rfl ?_
            refine zw_goto 142 ok_M_strollOf rfl (by decide) ?_
            refine zw_istore ok_M_strollOf rfl rfl (by decide) ?_
            refine zw_iload ok_M_strollOf rfl rfl ?_
            refine zw_if_eq 154 ok_M_strollOf rfl (by decide) (by omega) (fun h146 => ?_) (fun h146 => ?_)
            · exfalso; omega
            · refine zw_iload ok_M_strollOf rfl rfl ?_
              refine zw_goto 156 ok_M_strollOf rfl (by decide) ?_
              refine zw_istore ok_M_strollOf rfl rfl (by decide) ?_
              refine zw_iload ok_M_strollOf rfl rfl ?_
              refine zw_if_eq 168 ok_M_strollOf rfl (by decide) (by omega) (fun h160 => ?_) (fun h160 => ?_)
              · exfalso; omega
              · refine zw_iload ok_M_strollOf rfl rfl ?_
                refine zw_goto 170 ok_M_strollOf rfl (by decide) ?_
                refine zw_istore ok_M_strollOf rfl rfl (by decide) ?_
                refine zw_iload ok_M_strollOf rfl rfl ?_
                refine zw_if_eq 186 ok_M_strollOf rfl (by decide) (by omega) (fun h174 => ?_) (fun h174 => ?_)
                · exfalso; omega
                · refine zw_aload_n ok_M_strollOf rfl rfl ?_
                  refine zw_getr ok_M_strollOf rfl fl_M_46 rfl rfl ?_
                  refine zw_iload_n ok_M_strollOf rfl rfl ?_
                  refine zw_iald ok_M_strollOf rfl rfl (by omega) ?_
                  try simp only [rd_M18, rd_M19, rd_M20, rd_M21, rd_M59, rd_M60, rd_M61, rd_Mj4, rd_Mj7, rd_Mj9, rd_Mj11, rd_Mj13, rd_Mj22, rd_Mj23, rd_Mj24, rd_Mj27, rd_Mj30, rd_M_49, rd_M_50, rd_M_51, rd_M_52, rd_M_53, rd_M_54, rd_M_55, rd_M_56, rd_M_57, rd_M_58, rd_M_62, rd_M_63, rd_M_64, rd_M_65, wr_M18, wr_M19, wr_M20, wr_M21, wr_M59, wr_M60, wr_M61]
                  refine zw_goto 188 ok_M_strollOf rfl (by decide) ?_
                  refine zw_istore ok_M_strollOf rfl rfl (by decide) ?_
                  exact nx r n (mo p) _ _ _ (Or.inr ⟨hr.1, hr.2, hn, hm, rfl⟩) (by rw [if_pos yes.1.1])
  · have no : (¬ 100 * n + mo p < y.1 ∧ zR b) ∧ zR f ∧ zR l := by
      rcases hy with w | w
      · exact absurd (Or.inl w.1) hb
      · rw [w.2.2.2.2]; exact ⟨⟨show ¬ 100 * n + mo p < 100 * f + l by omega, by omega⟩, by omega, by omega⟩
    refine zw_iload ok_M_strollOf rfl rfl ?_
    refine zw_iconst ok_M_strollOf rfl ?_
    refine zw_icmp_eq 137 ok_M_strollOf rfl (by decide) (by omega) (fun h109 => ?_) (fun h109 => ?_)
    · exfalso; omega
    · refine zw_iload ok_M_strollOf rfl rfl ?_
      refine zw_iload ok_M_strollOf rfl rfl ?_
      refine zw_icmp_lt 137 ok_M_strollOf rfl (by decide) (by omega) (fun h116 => ?_) (fun h116 => ?_)
      · exfalso; omega
      · refine zw_iload ok_M_strollOf rfl rfl ?_
        refine zw_iload ok_M_strollOf rfl rfl ?_
        refine zw_icmp_ne 141 ok_M_strollOf rfl (by decide) (by omega) (fun h123 => ?_) (fun h123 => ?_)
        · refine zw_iconst ok_M_strollOf rfl ?_
          refine zw_istore ok_M_strollOf rfl rfl (by decide) ?_
          refine zw_iload ok_M_strollOf rfl rfl ?_
          refine zw_if_eq 154 ok_M_strollOf rfl (by decide) (by omega) (fun h146 => ?_) (fun h146 => ?_)
          · refine zw_iload ok_M_strollOf rfl rfl ?_
            refine zw_istore ok_M_strollOf rfl rfl (by decide) ?_
            refine zw_iload ok_M_strollOf rfl rfl ?_
            refine zw_if_eq 168 ok_M_strollOf rfl (by decide) (by omega) (fun h160 => ?_) (fun h160 => ?_)
            · refine zw_iload ok_M_strollOf rfl rfl ?_
              refine zw_istore ok_M_strollOf rfl rfl (by decide) ?_
              refine zw_iload ok_M_strollOf rfl rfl ?_
              refine zw_if_eq 186 ok_M_strollOf rfl (by decide) (by omega) (fun h174 => ?_) (fun h174 => ?_)
              · refine zw_iload ok_M_strollOf rfl rfl ?_
                refine zw_istore ok_M_strollOf rfl rfl (by decide) ?_
                exact nx b f l y _ _ hy (by rw [if_neg no.1.1])
              · exfalso; omega
            · exfalso; omega
          · exfalso; omega
        · refine zw_aload_n ok_M_strollOf rfl rfl ?_
          refine zw_getr ok_M_strollOf rfl fl_M_46 rfl rfl ?_
          refine zw_iload_n ok_M_strollOf rfl rfl ?_
          refine zw_iald ok_M_strollOf rfl rfl (by omega) ?_
          try simp only [rd_M18, rd_M19, rd_M20, rd_M21, rd_M59, rd_M60, rd_M61, rd_Mj4, rd_Mj7, rd_Mj9, rd_Mj11, rd_Mj13, rd_Mj22, rd_Mj23, rd_Mj24, rd_Mj27, rd_Mj30, rd_M_49, rd_M_50, rd_M_51, rd_M_52, rd_M_53, rd_M_54, rd_M_55, rd_M_56, rd_M_57, rd_M_58, rd_M_62, rd_M_63, rd_M_64, rd_M_65, wr_M18, wr_M19, wr_M20, wr_M21, wr_M59, wr_M60, wr_M61]
          refine zw_iload ok_M_strollOf rfl rfl ?_
          refine zw_icmp_ge 141 ok_M_strollOf rfl (by decide) (by omega) (fun h134 => ?_) (fun h134 => ?_)
          · refine zw_iconst ok_M_strollOf rfl ?_
            refine zw_istore ok_M_strollOf rfl rfl (by decide) ?_
            refine zw_iload ok_M_strollOf rfl rfl ?_
            refine zw_if_eq 154 ok_M_strollOf rfl (by decide) (by omega) (fun h146 => ?_) (fun h146 => ?_)
            · refine zw_iload ok_M_strollOf rfl rfl ?_
              refine zw_istore ok_M_strollOf rfl rfl (by decide) ?_
              refine zw_iload ok_M_strollOf rfl rfl ?_
              refine zw_if_eq 168 ok_M_strollOf rfl (by decide) (by omega) (fun h160 => ?_) (fun h160 => ?_)
              · refine zw_iload ok_M_strollOf rfl rfl ?_
                refine zw_istore ok_M_strollOf rfl rfl (by decide) ?_
                refine zw_iload ok_M_strollOf rfl rfl ?_
                refine zw_if_eq 186 ok_M_strollOf rfl (by decide) (by omega) (fun h174 => ?_) (fun h174 => ?_)
                · refine zw_iload ok_M_strollOf rfl rfl ?_
                  refine zw_istore ok_M_strollOf rfl rfl (by decide) ?_
                  exact nx b f l y _ _ hy (by rw [if_neg no.1.1])
                · exfalso; omega
              · exfalso; omega
            · exfalso; omega
          · exfalso; omega
theorem sto_loop {p e i : Int} (h : MRv mem τ (-1) 0) (hp : 0 ≤ p ∧ p < aP τ) (he : 0 ≤ e ∧ e ≤ 7) : ∀ (k : Nat) (r b f l : Int) (y : Int × Int) (m : zMem), 0 ≤ r → r + k = 729 → stR b f l y → mfr sJ dL mem m → m 48 24 = p → (∀ m2 b2 f2 l2, mfr sJ dL mem m2 → stR b2 f2 l2 (lp (strT τ p e) k r y) → AW m_M_strollOf 196 [some (vr 48), some (vi p), some (vi e), some (vi i), some (vi b2), some (vi f2), some (vi l2), none, none, none] [] m2 Q) → AW m_M_strollOf 17 [some (vr 48), some (vi p), some (vi e), some (vi i), some (vi b), some (vi f), some (vi l), some (vi r), none, none] [] m Q := by
  have hP := aP_b h.1
  intro k
  induction k with
  | zero =>
    intro r b f l y m h0 h1 hy hf h24 hx
    refine zw_iload ok_M_strollOf rfl rfl ?_
    refine zw_sipush ok_M_strollOf rfl (by decide) ?_
    refine zw_icmp_ge 196 ok_M_strollOf rfl (by decide) (by omega) (fun h22 => ?_) (fun h22 => ?_)
    · exact zw_mask [true, true, true, true, true, true, true, false, false, false] rfl (hx m b f l hf hy)
    · exfalso; omega
  | succ k ih =>
    intro r b f l y m h0 h1 hy hf h24 hx
    rw [lp_s] at hx
    have fr : mfr sJ dL mem (zset (zset (zset m 62 0 (r / 81)) 62 1 (r / 9 % 9)) 62 2 (r % 9)) := ((hf.set (by decide) (by decide)).set (by decide) (by decide)).set (by decide) (by decide)
    have f24 : zset (zset (zset m 62 0 (r / 81)) 62 1 (r / 9 % 9)) 62 2 (r % 9) 48 24 = p := h24
    have f62 : zset (zset (zset m 62 0 (r / 81)) 62 1 (r / 9 % 9)) 62 2 (r % 9) 62 0 = r / 81 ∧ zset (zset (zset m 62 0 (r / 81)) 62 1 (r / 9 % 9)) 62 2 (r % 9) 62 1 = r / 9 % 9 ∧ zset (zset (zset m 62 0 (r / 81)) 62 1 (r / 9 % 9)) 62 2 (r % 9) 62 2 = r % 9 := ⟨rfl, rfl, rfl⟩
    generalize hm1 : zset (zset (zset m 62 0 (r / 81)) 62 1 (r / 9 % 9)) 62 2 (r % 9) = m1 at fr f24 f62
    have kd := ct_day h fr f24 hp (by omega) f62
    have nx : ∀ b2 f2 l2 y2 M, stR b2 f2 l2 y2 → y2 = strT τ p e r y → mfr sJ dL mem M → M 48 24 = p → AW m_M_strollOf 190 [some (vr 48), some (vi p), some (vi e), some (vi i), some (vi b2), some (vi f2), some (vi l2), some (vi r), none, none] [] M Q := by
      intro b2 f2 l2 y2 M hy2 e2 q1 q2
      subst e2
      refine zw_iinc ok_M_strollOf rfl rfl rfl (by decide) ?_
      refine zw_goto 17 ok_M_strollOf rfl (by decide) ?_
      exact ih (r + 1) b2 f2 l2 _ M (by omega) (by omega) hy2 q1 q2 hx
    have hit : (r / 81 = e ∨ r / 9 % 9 = e ∨ r % 9 = e) → AW m_M_strollOf 91 [some (vr 48), some (vi p), some (vi e), some (vi i), some (vi b), some (vi f), some (vi l), some (vi r), none, none] [] m1 Q := by
      intro hh
      refine zw_aload_n ok_M_strollOf rfl rfl ?_
      refine zw_bipush ok_M_strollOf rfl (by decide) ?_
      refine zw_Vv ok_M_strollOf rfl ok_M_lives lk_M_216 (by decide) rfl rfl (Nat.le_of_ble_eq_true rfl) (kd) (fun m94 h94 => ?_)
      obtain ⟨x, rfl, hL⟩ := h94
      have eg : putM m1 x 48 18 = (dayT τ p r).2.2.1 := hL.1.2.2.1.symm
      have em : x.2.2.1 p = (dayT τ p r).2.1 p := hL.low hp
      have rg : 0 ≤ (dayT τ p r).2.2.1 ∧ (dayT τ p r).2.2.1 < 256 := by rw [hL.1.2.2.1]; exact hL.2.2.2.2
      have pc := pcN_r (dayT τ p r).2.2.1
      refine zw_aload_n ok_M_strollOf rfl rfl ?_
      refine zw_geti ok_M_strollOf rfl fl_M_182 rfl rfl ?_
      rw [eg]
      refine zw_Sip ok_M_strollOf rfl ok_M_ones lk_M_252 (by decide) rfl (Nat.le_of_ble_eq_true rfl) (ct_M_ones rg) ?_
      refine zw_istore ok_M_strollOf rfl rfl (by decide) ?_
      refine st_tail (by omega) (by omega) pc (hL.2.2.2.1 p hp.1 hp.2) hy (fun b2 f2 l2 y2 u1 u2 q1 q2 => zw_mask [true, true, true, true, true, true, true, true, false, false] rfl (nx b2 f2 l2 y2 _ q1 ?_ (mfr.putM fr sJ_18 (by decide)) f24))
      rw [q2]
      unfold strT cstT
      rw [em]
      by_cases z : 100 * pcN (dayT τ p r).2.2.1 + (dayT τ p r).2.1 p < y.1
      · rw [if_pos z, if_pos ⟨hh, z⟩]
      · rw [if_neg z, if_neg (fun w => z w.2)]
    refine zw_iload ok_M_strollOf rfl rfl ?_
    refine zw_sipush ok_M_strollOf rfl (by decide) ?_
    refine zw_icmp_ge 196 ok_M_strollOf rfl (by decide) (by omega) (fun h22 => ?_) (fun h22 => ?_)
    · exfalso; omega
    · refine zw_aload_n ok_M_strollOf rfl rfl ?_
      refine zw_getr ok_M_strollOf rfl fl_M_49 rfl rfl ?_
      refine zw_iconst ok_M_strollOf rfl ?_
      refine zw_iload ok_M_strollOf rfl rfl ?_
      refine zw_bipush ok_M_strollOf rfl (by decide) ?_
      refine zw_idiv ok_M_strollOf rfl (by omega) ?_
      rw [zdiv_nn (by omega) (by omega)]
      refine zw_iast ok_M_strollOf rfl rfl (by omega) ?_
      refine zw_aload_n ok_M_strollOf rfl rfl ?_
      refine zw_getr ok_M_strollOf rfl fl_M_49 rfl rfl ?_
      refine zw_iconst ok_M_strollOf rfl ?_
      refine zw_iload ok_M_strollOf rfl rfl ?_
      refine zw_bipush ok_M_strollOf rfl (by decide) ?_
      refine zw_idiv ok_M_strollOf rfl (by omega) ?_
      rw [zdiv_nn (by omega) (by omega)]
      refine zw_bipush ok_M_strollOf rfl (by decide) ?_
      refine zw_irem ok_M_strollOf rfl (by omega) ?_
      rw [zrem_nn (by omega) (by omega)]
      refine zw_iast ok_M_strollOf rfl rfl (by omega) ?_
      refine zw_aload_n ok_M_strollOf rfl rfl ?_
      refine zw_getr ok_M_strollOf rfl fl_M_49 rfl rfl ?_
      refine zw_iconst ok_M_strollOf rfl ?_
      refine zw_iload ok_M_strollOf rfl rfl ?_
      refine zw_bipush ok_M_strollOf rfl (by decide) ?_
      refine zw_irem ok_M_strollOf rfl (by omega) ?_
      rw [zrem_nn (by omega) (by omega)]
      refine zw_iast ok_M_strollOf rfl rfl (by omega) ?_
      rw [hm1]
      refine zw_aload_n ok_M_strollOf rfl rfl ?_
      refine zw_getr ok_M_strollOf rfl fl_M_49 rfl rfl ?_
      refine zw_iconst ok_M_strollOf rfl ?_
      refine zw_iald ok_M_strollOf rfl rfl (by omega) ?_
      rw [f62.1]
      refine zw_iload_n ok_M_strollOf rfl rfl ?_
      refine zw_icmp_eq 91 ok_M_strollOf rfl (by decide) (by omega) (fun h68 => ?_) (fun h68 => ?_)
      · exact hit (Or.inl h68)
      · refine zw_aload_n ok_M_strollOf rfl rfl ?_
        refine zw_getr ok_M_strollOf rfl fl_M_49 rfl rfl ?_
        refine zw_iconst ok_M_strollOf rfl ?_
        refine zw_iald ok_M_strollOf rfl rfl (by omega) ?_
        rw [f62.2.1]
        refine zw_iload_n ok_M_strollOf rfl rfl ?_
        refine zw_icmp_eq 91 ok_M_strollOf rfl (by decide) (by omega) (fun h78 => ?_) (fun h78 => ?_)
        · exact hit (Or.inr (Or.inl h78))
        · refine zw_aload_n ok_M_strollOf rfl rfl ?_
          refine zw_getr ok_M_strollOf rfl fl_M_49 rfl rfl ?_
          refine zw_iconst ok_M_strollOf rfl ?_
          refine zw_iald ok_M_strollOf rfl rfl (by omega) ?_
          rw [f62.2.2]
          refine zw_iload_n ok_M_strollOf rfl rfl ?_
          refine zw_icmp_ne 190 ok_M_strollOf rfl (by decide) (by omega) (fun h88 => ?_) (fun h88 => ?_)
          · exact nx b f l y _ hy (by unfold strT; rw [if_neg (fun z => by omega)]) fr f24
          · exact hit (Or.inr (Or.inr h88))
theorem ct_M_strollOf {p e i : Int} (h : MRv mem τ (-1) 0) (hp : 0 ≤ p ∧ p < aP τ) (he : 0 ≤ e ∧ e ≤ 7) (hi : -1 ≤ i ∧ i ≤ 2) (hc : ∀ r, cstT τ p r ≤ 899) : zCi m_M_strollOf [vr 48, vi p, vi e, vi i] mem (if i = -1 then (strlT τ p e).1 / 100 else dgt (strlT τ p e).2 i) (fun m2 => mfr dJ dL mem m2) := by
  refine zCt.of [some (vr 48), some (vi p), some (vi e), some (vi i), none, none, none, none, none, none] ok_M_strollOf (Nat.le_of_ble_eq_true rfl) rfl ?_
  have hP := aP_b h.1
  have hs : (strlT τ p e).2 ≠ -1 := str_has hc 729 0 (900, -1) (by omega) (fun _ => rfl) (Or.inr (by omega))
  have tl : ∀ m2 b2 f2 l2, mfr sJ dL mem m2 → stR b2 f2 l2 (lp (strT τ p e) 729 0 (900, -1)) → AW m_M_strollOf 196 [some (vr 48), some (vi p), some (vi e), some (vi i), some (vi b2), some (vi f2), some (vi l2), none, none, none] [] m2 (fun r m2 => r = some (vi (if i = -1 then (strlT τ p e).1 / 100 else dgt (strlT τ p e).2 i)) ∧ mfr dJ dL mem m2) := by
    intro m2 b f l f1 hy
    have f2 : mfr sJ dL mem (zset m2 48 24 (-1)) := f1.setj (by decide)
    have f3 : mfr dJ dL mem (zset m2 48 24 (-1)) := f2.drop (by rw [h.2.2.1.2.2]; rfl)
    have hy : stR b f l (strlT τ p e) := hy
    generalize strlT τ p e = y at hy hs
    rcases hy with w | w
    · rw [w.2.2.2] at hs; exact absurd rfl hs
    · rw [w.2.2.2.2]
      have eb : (100 * f + l, b).1 / 100 = f := by show (100 * f + l) / 100 = f; omega
      rw [eb]
      show AW _ _ _ _ _ (fun r m2 => r = some (vi (if i = -1 then f else dgt b i)) ∧ mfr dJ dL mem m2)
      unfold dgt
      refine zw_aload_n ok_M_strollOf rfl rfl ?_
      refine zw_iconst ok_M_strollOf rfl ?_
      refine zw_puti ok_M_strollOf rfl fp_M_65 rfl rfl ?_
      refine zw_iload_n ok_M_strollOf rfl rfl ?_
      refine zw_iconst ok_M_strollOf rfl ?_
      refine zw_icmp_ne 211 ok_M_strollOf rfl (by decide) (by omega) (fun h203 => ?_) (fun h203 => ?_)
      · rw [if_neg h203]
        refine zw_iload_n ok_M_strollOf rfl rfl ?_
        refine zw_if_ne 223 ok_M_strollOf rfl (by decide) (by omega) (fun h212 => ?_) (fun h212 => ?_)
        · rw [if_neg h212]
          refine zw_iload_n ok_M_strollOf rfl rfl ?_
          refine zw_iconst ok_M_strollOf rfl ?_
          refine zw_icmp_ne 239 ok_M_strollOf rfl (by decide) (by omega) (fun h225 => ?_) (fun h225 => ?_)
          · rw [if_neg h225, if_pos (by omega)]
            refine zw_iload ok_M_strollOf rfl rfl ?_
            refine zw_bipush ok_M_strollOf rfl (by decide) ?_
            refine zw_irem ok_M_strollOf rfl (by omega) ?_
            rw [zrem_nn (by omega) (by omega)]
            exact zw_iret ok_M_strollOf rfl rfl (⟨rfl, f3⟩)
          · rw [if_pos h225]
            refine zw_iload ok_M_strollOf rfl rfl ?_
            refine zw_bipush ok_M_strollOf rfl (by decide) ?_
            refine zw_idiv ok_M_strollOf rfl (by omega) ?_
            rw [zdiv_nn (by omega) (by omega)]
            refine zw_bipush ok_M_strollOf rfl (by decide) ?_
            refine zw_irem ok_M_strollOf rfl (by omega) ?_
            rw [zrem_nn (by omega) (by omega)]
            refine zw_goto 244 ok_M_strollOf rfl (by decide) ?_
            exact zw_iret ok_M_strollOf rfl rfl (⟨rfl, f3⟩)
        · rw [if_pos h212]
          refine zw_iload ok_M_strollOf rfl rfl ?_
          refine zw_bipush ok_M_strollOf rfl (by decide) ?_
          refine zw_idiv ok_M_strollOf rfl (by omega) ?_
          rw [zdiv_nn (by omega) (by omega)]
          refine zw_goto 244 ok_M_strollOf rfl (by decide) ?_
          exact zw_iret ok_M_strollOf rfl rfl (⟨rfl, f3⟩)
      · rw [if_pos h203]
        refine zw_iload ok_M_strollOf rfl rfl ?_
        refine zw_goto 244 ok_M_strollOf rfl (by decide) ?_
        exact zw_iret ok_M_strollOf rfl rfl (⟨rfl, f3⟩)
  have f1 : mfr sJ dL mem (zset mem 48 24 p) := mfr.setj mfr.rf (by decide)
  refine zw_iconst ok_M_strollOf rfl ?_
  refine zw_istore ok_M_strollOf rfl rfl (by decide) ?_
  refine zw_iconst ok_M_strollOf rfl ?_
  refine zw_istore ok_M_strollOf rfl rfl (by decide) ?_
  refine zw_iconst ok_M_strollOf rfl ?_
  refine zw_istore ok_M_strollOf rfl rfl (by decide) ?_
  refine zw_aload_n ok_M_strollOf rfl rfl ?_
  refine zw_iload_n ok_M_strollOf rfl rfl ?_
  refine zw_puti ok_M_strollOf rfl fp_M_65 rfl rfl ?_
  refine zw_iconst ok_M_strollOf rfl ?_
  refine zw_istore ok_M_strollOf rfl rfl (by decide) ?_
  exact sto_loop h hp he 729 0 (-1) 0 0 (900, -1) _ (by omega) (by omega) (Or.inl ⟨rfl, rfl, rfl, rfl⟩) f1 (by rw [zset_eq, zupd_eq]) tl
theorem ct_M_stroll {p e i : Int} (hI : MI mem τ) (hc : ∀ p r, 0 ≤ p ∧ p < aP τ → cstT τ p r ≤ 899) (hp : zR p) (he : zR e) (hi : zR i) : zCi m_M_stroll [vr 48, vi p, vi e, vi i] mem (qStroll τ p e i) (fun m2 => MI m2 τ ∧ ref47 mem m2) := by
  refine zCt.of [some (vr 48), some (vi p), some (vi e), some (vi i)] ok_M_stroll (Nat.le_of_ble_eq_true rfl) rfl ?_
  unfold qStroll
  by_cases hg : (0 ≤ p ∧ p < aP τ) ∧ (0 ≤ e ∧ e ≤ 7) ∧ (-1 ≤ i ∧ i ≤ 2)
  · rw [if_pos hg]
    refine zw_aload_n ok_M_stroll rfl rfl ?_
    refine zw_Vv ok_M_stroll rfl ok_M_reads lk_M_140 (by decide) rfl rfl (Nat.le_of_ble_eq_true rfl) (ct_M_reads hI) (fun m1 h1 => ?_)
    have hP := P7 h1.1
    refine zw_aload_n ok_M_stroll rfl rfl ?_
    refine zw_iload_n ok_M_stroll rfl rfl ?_
    refine zw_Vbp ok_M_stroll rfl ok_M_isPerson lk_M_143 (by decide) rfl rfl (Nat.le_of_ble_eq_true rfl) (ct_M_isPerson hp hP.2) ?_
    first | refine zw_ifeq_d 48 ok_M_stroll rfl (by decide) (fun h9 => ?_) (fun h9 => ?_) | refine zw_ifeq_b 48 ok_M_stroll rfl (by decide) (fun h9 => ?_) (fun h9 => ?_) | refine zw_if_eq 48 ok_M_stroll rfl (by decide) (by omega) (fun h9 => ?_) (fun h9 => ?_)
    · exact absurd ⟨hg.1.1, by rw [hP.1]; omega⟩ h9
    · refine zw_iload_n ok_M_stroll rfl rfl ?_
      refine zw_i2l ok_M_stroll rfl (by omega) ?_
      refine zw_lconst0 ok_M_stroll rfl ?_
      refine zw_ldc2 ok_M_stroll rfl kc_M_136 ?_
      refine zw_Sbp ok_M_stroll rfl ok_M_in lk_M_70 (by decide) rfl (Nat.le_of_ble_eq_true rfl) (ct_M_in (by omega)) ?_
      first | refine zw_ifeq_d 48 ok_M_stroll rfl (by decide) (fun h21 => ?_) (fun h21 => ?_) | refine zw_ifeq_b 48 ok_M_stroll rfl (by decide) (fun h21 => ?_) (fun h21 => ?_) | refine zw_if_eq 48 ok_M_stroll rfl (by decide) (by omega) (fun h21 => ?_) (fun h21 => ?_)
      · exact absurd hg.2.1 h21
      · refine zw_iload_n ok_M_stroll rfl rfl ?_
        refine zw_i2l ok_M_stroll rfl (by omega) ?_
        refine zw_ldc2 ok_M_stroll rfl kc_M_247 ?_
        refine zw_ldc2 ok_M_stroll rfl kc_M_83 ?_
        refine zw_Sbp ok_M_stroll rfl ok_M_in lk_M_70 (by decide) rfl (Nat.le_of_ble_eq_true rfl) (ct_M_in (by omega)) ?_
        first | refine zw_ifeq_d 48 ok_M_stroll rfl (by decide) (fun h35 => ?_) (fun h35 => ?_) | refine zw_ifeq_b 48 ok_M_stroll rfl (by decide) (fun h35 => ?_) (fun h35 => ?_) | refine zw_if_eq 48 ok_M_stroll rfl (by decide) (by omega) (fun h35 => ?_) (fun h35 => ?_)
        · exact absurd hg.2.2 h35
        · refine zw_aload_n ok_M_stroll rfl rfl ?_
          refine zw_iload_n ok_M_stroll rfl rfl ?_
          refine zw_iload_n ok_M_stroll rfl rfl ?_
          refine zw_iload_n ok_M_stroll rfl rfl ?_
          refine zw_Vi ok_M_stroll rfl ok_M_strollOf lk_M_255 (by decide) rfl rfl (Nat.le_of_ble_eq_true rfl) (ct_M_strollOf h1.1.2.1 hg.1 hg.2.1 hg.2.2 (fun r => hc p r hg.1)) (fun m42 h42 => ?_)
          refine zw_goto 50 ok_M_stroll rfl (by decide) ?_
          exact zw_iret ok_M_stroll rfl rfl (⟨rfl, (MR_of h42 h1.1).1, (h1.2.r47 (by decide)).tr (h42.r47 (by decide))⟩)
  · rw [if_neg hg]
    refine zw_aload_n ok_M_stroll rfl rfl ?_
    refine zw_Vv ok_M_stroll rfl ok_M_reads lk_M_140 (by decide) rfl rfl (Nat.le_of_ble_eq_true rfl) (ct_M_reads hI) (fun m1 h1 => ?_)
    have hP := P7 h1.1
    refine zw_aload_n ok_M_stroll rfl rfl ?_
    refine zw_iload_n ok_M_stroll rfl rfl ?_
    refine zw_Vbp ok_M_stroll rfl ok_M_isPerson lk_M_143 (by decide) rfl rfl (Nat.le_of_ble_eq_true rfl) (ct_M_isPerson hp hP.2) ?_
    first | refine zw_ifeq_d 48 ok_M_stroll rfl (by decide) (fun h9 => ?_) (fun h9 => ?_) | refine zw_ifeq_b 48 ok_M_stroll rfl (by decide) (fun h9 => ?_) (fun h9 => ?_) | refine zw_if_eq 48 ok_M_stroll rfl (by decide) (by omega) (fun h9 => ?_) (fun h9 => ?_)
    · refine zw_bipush ok_M_stroll rfl (by decide) ?_
      exact zw_iret ok_M_stroll rfl rfl (⟨rfl, MIr h1.2 hI⟩)
    · refine zw_iload_n ok_M_stroll rfl rfl ?_
      refine zw_i2l ok_M_stroll rfl (by omega) ?_
      refine zw_lconst0 ok_M_stroll rfl ?_
      refine zw_ldc2 ok_M_stroll rfl kc_M_136 ?_
      refine zw_Sbp ok_M_stroll rfl ok_M_in lk_M_70 (by decide) rfl (Nat.le_of_ble_eq_true rfl) (ct_M_in (by omega)) ?_
      first | refine zw_ifeq_d 48 ok_M_stroll rfl (by decide) (fun h21 => ?_) (fun h21 => ?_) | refine zw_ifeq_b 48 ok_M_stroll rfl (by decide) (fun h21 => ?_) (fun h21 => ?_) | refine zw_if_eq 48 ok_M_stroll rfl (by decide) (by omega) (fun h21 => ?_) (fun h21 => ?_)
      · refine zw_bipush ok_M_stroll rfl (by decide) ?_
        exact zw_iret ok_M_stroll rfl rfl (⟨rfl, MIr h1.2 hI⟩)
      · refine zw_iload_n ok_M_stroll rfl rfl ?_
        refine zw_i2l ok_M_stroll rfl (by omega) ?_
        refine zw_ldc2 ok_M_stroll rfl kc_M_247 ?_
        refine zw_ldc2 ok_M_stroll rfl kc_M_83 ?_
        refine zw_Sbp ok_M_stroll rfl ok_M_in lk_M_70 (by decide) rfl (Nat.le_of_ble_eq_true rfl) (ct_M_in (by omega)) ?_
        first | refine zw_ifeq_d 48 ok_M_stroll rfl (by decide) (fun h35 => ?_) (fun h35 => ?_) | refine zw_ifeq_b 48 ok_M_stroll rfl (by decide) (fun h35 => ?_) (fun h35 => ?_) | refine zw_if_eq 48 ok_M_stroll rfl (by decide) (by omega) (fun h35 => ?_) (fun h35 => ?_)
        · refine zw_bipush ok_M_stroll rfl (by decide) ?_
          exact zw_iret ok_M_stroll rfl rfl (⟨rfl, MIr h1.2 hI⟩)
        · exact absurd ⟨⟨h9.1, by rw [← hP.1]; omega⟩, h21, h35⟩ hg
end
