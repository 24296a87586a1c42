/-! ===== the reference: pass ===== -/
def alM (f : Int → Int) (b p a : Int) (j c : Int) : Int := c + (if (tb b a.toNat = true ∧ tb b j.toNat = true) ∧ f (8 * a + p) = f (8 * j + p) then 1 else 0)
def gaM (f : Int → Int) (b p : Int) (n : Nat) (a g : Int) : Int := max (lp (alM f b p a) n 0 0) g
theorem alM_r {f : Int → Int} {b p a : Int} : ∀ (k : Nat) (j c : Int), 0 ≤ c → 0 ≤ lp (alM f b p a) k j c ∧ lp (alM f b p a) k j c ≤ c + k
  | 0, _, c, h => by show 0 ≤ c ∧ c ≤ c + _; omega
  | k + 1, j, c, h => by
    rw [lp_s]
    have h2 : 0 ≤ alM f b p a j c ∧ alM f b p a j c ≤ c + 1 := by unfold alM; split <;> omega
    have := alM_r (f := f) (b := b) (p := p) (a := a) k (j + 1) _ h2.1
    omega
theorem ga_tail {f : Int → Int} {b p : Int} : ∀ (k : Nat) (i x : Int), 0 ≤ x → (∀ j, i ≤ j → j < i + k → tb b j.toNat = false) → lp (gaS b f p) k i x = x
  | 0, _, _, _, _ => rfl
  | k + 1, i, x, h, ht => by
    rw [lp_s]
    have e : gaS b f p i x = x := by unfold gaS; rw [if_neg (by rw [ht i (by omega) (by omega)]; decide)]; omega
    rw [e]
    exact ga_tail k (i + 1) x h (fun j q1 q2 => ht j (by omega) (by omega))
theorem al_zero {f : Int → Int} {b p a : Int} (h : tb b a.toNat = false) (k : Nat) (j c : Int) : lp (alM f b p a) k j c = c := by
  refine lp_id k j c (fun i s q1 q2 => ?_)
  unfold alM
  rw [if_neg (fun z => by rw [h] at z; exact absurd z.1.1 (by decide)), Int.add_zero]
theorem ga_eq {f g : Int → Int} {b p : Int} {n : Nat} (hn : n ≤ 12) (hb : ∀ i : Int, 0 ≤ i → i < 12 → tb b i.toNat = true → i < n) (hf : ∀ i : Int, 0 ≤ i → i < n → f (8 * i + p) = g (i * 8 + p)) : lp (gaM f b p n) n 0 0 = lp (gaS b g p) 12 0 0 := by
  have key := lp_rel (f := gaM f b p n) (g := gaS b g p) (R := fun x y : Int => x = y ∧ 0 ≤ x) n 0 0 0 (fun k x y k0 k1 hxy => by
    obtain ⟨rfl, h0⟩ := hxy
    have r := alM_r (f := f) (b := b) (p := p) (a := k) n 0 0 (by omega)
    unfold gaM gaS
    by_cases t : tb b k.toNat = true
    · rw [if_pos t]
      have e : lp (alkS b g p k) 12 0 0 = lp (alM f b p k) n 0 0 := by
        have w := lp_win (f := alkS b g p k) (g := alM f b p k) (s := 0) 12 0 (n : Int) (by omega) (fun j s j0 j1 hj => by
          unfold alkS
          rw [if_neg (fun z => hj ⟨j0, hb j j0 (by omega) z.1⟩)]) (fun j s j0 j1 => by
          unfold alkS alM
          rw [hf j j0 j1, hf k k0 (by omega)]
          by_cases z : tb b j.toNat = true ∧ g (j * 8 + p) = g (k * 8 + p)
          · rw [if_pos z, if_pos ⟨⟨t, z.1⟩, z.2.symm⟩]
          · rw [if_neg z, if_neg (fun q => z ⟨q.1.2, q.2.symm⟩), Int.add_zero])
        rw [w]
        congr 1
      rw [e]
      exact ⟨by omega, by omega⟩
    · have t : tb b k.toNat = false := by simpa using t
      rw [al_zero t, if_neg (by rw [t]; decide)]
      exact ⟨by omega, by omega⟩) ⟨rfl, by omega⟩
  have e12 : lp (gaS b g p) 12 0 0 = lp (gaS b g p) (12 - n) (0 + (n : Int)) (lp (gaS b g p) n 0 0) := by
    rw [← lp_app]
    congr 1
    omega
  rw [e12, ga_tail _ _ _ (by rw [← key.1]; exact key.2) (fun j q1 q2 => ?_)]
  · exact key.1
  · cases ht : tb b j.toNat
    · rfl
    · have := hb j (by omega) (by omega) ht
      omega
section
variable {mem m2 τ τ2 : zMem} {Q : Option zVal → zMem → Prop} {ol ff : Int}
theorem al_loop {p b g a : Int} (q11 : 0 ≤ mem 48 11 ∧ mem 48 11 ≤ 12) (hp : 0 ≤ p ∧ p < 8) (ha : 0 ≤ a ∧ a < mem 48 11) (hf : ∀ i, 0 ≤ i → i < mem 48 11 → 0 ≤ mem 65 (8 * i + p) ∧ mem 65 (8 * i + p) ≤ 99) : ∀ (k : Nat) (j c : Int), 0 ≤ j → j + k = mem 48 11 → AW m_M_mostAlike 90 [some (vr 48), some (vi p), some (vi b), some (vi g), some (vi a), some (vi (lp (alM (mem 65) b p a) k j c)), none] [] mem Q → AW m_M_mostAlike 20 [some (vr 48), some (vi p), some (vi b), some (vi g), some (vi a), some (vi c), some (vi j)] [] mem Q := by
  have fa := hf a ha.1 ha.2
  intro k
  induction k with
  | zero =>
    intro j c h0 h1 hx
    refine zw_iload ok_M_mostAlike rfl rfl ?_
    refine zw_aload_n ok_M_mostAlike rfl rfl ?_
    refine zw_geti ok_M_mostAlike rfl fl_M_151 rfl rfl ?_
    refine zw_icmp_ge 90 ok_M_mostAlike rfl (by decide) (by omega) (fun h26 => ?_) (fun h26 => ?_)
    · exact zw_mask [true, true, true, true, true, true, false] rfl hx
    · exfalso; omega
  | succ k ih =>
    intro j c h0 h1 hx
    have fj := hf j h0 (by omega)
    rw [lp_s] at hx
    unfold alM at hx
    refine zw_iload ok_M_mostAlike rfl rfl ?_
    refine zw_aload_n ok_M_mostAlike rfl rfl ?_
    refine zw_geti ok_M_mostAlike rfl fl_M_151 rfl rfl ?_
    refine zw_icmp_ge 90 ok_M_mostAlike rfl (by decide) (by omega) (fun h26 => ?_) (fun h26 => ?_)
    · exfalso; omega
    · refine zw_iload ok_M_mostAlike rfl rfl ?_
      refine zw_iload_n ok_M_mostAlike rfl rfl ?_
      refine zw_iload ok_M_mostAlike rfl rfl ?_
      refine zw_Sbp ok_M_mostAlike rfl ok_M_isIn lk_M_172 (by decide) rfl (Nat.le_of_ble_eq_true rfl) (ct_M_isIn (by omega)) ?_
      refine zw_ifeq_b 80 ok_M_mostAlike rfl (by decide) (fun h37 => ?_) (fun h37 => ?_)
      · rw [if_neg (fun z => by rw [h37] at z; exact absurd z.1.1 (by decide))] at hx
        refine zw_iconst ok_M_mostAlike rfl ?_
        refine zw_iadd ok_M_mostAlike rfl ?_
        refine zw_istore ok_M_mostAlike rfl rfl (by decide) ?_
        refine zw_iinc ok_M_mostAlike rfl rfl rfl (by decide) ?_
        refine zw_goto 20 ok_M_mostAlike rfl (by decide) ?_
        exact ih (j + 1) _ (by omega) (by omega) hx
      · refine zw_iload_n ok_M_mostAlike rfl rfl ?_
        refine zw_iload ok_M_mostAlike rfl rfl ?_
        refine zw_Sbp ok_M_mostAlike rfl ok_M_isIn lk_M_172 (by decide) rfl (Nat.le_of_ble_eq_true rfl) (ct_M_isIn (by omega)) ?_
        refine zw_ifeq_b 80 ok_M_mostAlike rfl (by decide) (fun h46 => ?_) (fun h46 => ?_)
        · rw [if_neg (fun z => by rw [h46] at z; exact absurd z.1.2 (by decide))] at hx
          refine zw_iconst ok_M_mostAlike rfl ?_
          refine zw_iadd ok_M_mostAlike rfl ?_
          refine zw_istore ok_M_mostAlike rfl rfl (by decide) ?_
          refine zw_iinc ok_M_mostAlike rfl rfl rfl (by decide) ?_
          refine zw_goto 20 ok_M_mostAlike rfl (by decide) ?_
          exact ih (j + 1) _ (by omega) (by omega) hx
        · refine zw_aload_n ok_M_mostAlike rfl rfl ?_
          refine zw_getr ok_M_mostAlike rfl fl_M_58 rfl rfl ?_
          refine zw_bipush ok_M_mostAlike rfl (by decide) ?_
          refine zw_iload ok_M_mostAlike rfl rfl ?_
          refine zw_imul ok_M_mostAlike rfl ?_
          refine zw_iload_n ok_M_mostAlike rfl rfl ?_
          refine zw_iadd ok_M_mostAlike rfl ?_
          refine zw_iald ok_M_mostAlike rfl rfl (by omega) ?_
          refine zw_aload_n ok_M_mostAlike rfl rfl ?_
          refine zw_getr ok_M_mostAlike rfl fl_M_58 rfl rfl ?_
          refine zw_bipush ok_M_mostAlike rfl (by decide) ?_
          refine zw_iload ok_M_mostAlike rfl rfl ?_
          refine zw_imul ok_M_mostAlike rfl ?_
          refine zw_iload_n ok_M_mostAlike rfl rfl ?_
          refine zw_iadd ok_M_mostAlike rfl ?_
          refine zw_iald ok_M_mostAlike rfl rfl (by omega) ?_
          refine zw_icmp_ne 80 ok_M_mostAlike rfl (by decide) (by omega) (fun h73 => ?_) (fun h73 => ?_)
          · rw [if_neg (fun z => h73 z.2)] at hx
            refine zw_iconst ok_M_mostAlike rfl ?_
            refine zw_iadd ok_M_mostAlike rfl ?_
            refine zw_istore ok_M_mostAlike rfl rfl (by decide) ?_
            refine zw_iinc ok_M_mostAlike rfl rfl rfl (by decide) ?_
            refine zw_goto 20 ok_M_mostAlike rfl (by decide) ?_
            exact ih (j + 1) _ (by omega) (by omega) hx
          · rw [if_pos ⟨⟨h37, h46⟩, h73⟩] at hx
            refine zw_iconst ok_M_mostAlike rfl ?_
            refine zw_goto 81 ok_M_mostAlike rfl (by decide) ?_
            refine zw_iadd ok_M_mostAlike rfl ?_
            refine zw_istore ok_M_mostAlike rfl rfl (by decide) ?_
            refine zw_iinc ok_M_mostAlike rfl rfl rfl (by decide) ?_
            refine zw_goto 20 ok_M_mostAlike rfl (by decide) ?_
            exact ih (j + 1) _ (by omega) (by omega) hx
theorem mo_loop {p b : Int} (q11 : 0 ≤ mem 48 11 ∧ mem 48 11 ≤ 12) (hp : 0 ≤ p ∧ p < 8) (hf : ∀ i, 0 ≤ i → i < mem 48 11 → 0 ≤ mem 65 (8 * i + p) ∧ mem 65 (8 * i + p) ≤ 99) : ∀ (k : Nat) (a g : Int), 0 ≤ a → a + k = mem 48 11 → (0 ≤ g ∧ g ≤ 12) → Q (some (vi (lp (gaM (mem 65) b p (mem 48 11).toNat) k a g))) mem → AW m_M_mostAlike 5 [some (vr 48), some (vi p), some (vi b), some (vi g), some (vi a), none, none] [] mem Q := by
  intro k
  induction k with
  | zero =>
    intro a g h0 h1 hg hx
    refine zw_iload ok_M_mostAlike rfl rfl ?_
    refine zw_aload_n ok_M_mostAlike rfl rfl ?_
    refine zw_geti ok_M_mostAlike rfl fl_M_151 rfl rfl ?_
    refine zw_icmp_ge 103 ok_M_mostAlike rfl (by decide) (by omega) (fun h11 => ?_) (fun h11 => ?_)
    · refine zw_iload_n ok_M_mostAlike rfl rfl ?_
      exact zw_iret ok_M_mostAlike rfl rfl (hx)
    · exfalso; omega
  | succ k ih =>
    intro a g h0 h1 hg hx
    have r := alM_r (f := mem 65) (b := b) (p := p) (a := a) (mem 48 11).toNat 0 0 (by omega)
    rw [lp_s] at hx
    have nx : ∀ c, c = lp (alM (mem 65) b p a) (mem 48 11).toNat 0 0 → AW m_M_mostAlike 90 [some (vr 48), some (vi p), some (vi b), some (vi g), some (vi a), some (vi c), none] [] mem Q := by
      intro c hc
      have e : gaM (mem 65) b p (mem 48 11).toNat a g = max c g := by unfold gaM; rw [hc]
      rw [e] at hx
      rw [← hc] at r
      refine zw_iload ok_M_mostAlike rfl rfl ?_
      refine zw_iload_n ok_M_mostAlike rfl rfl ?_
      refine zw_Sip ok_M_mostAlike rfl ok_M_greater lk_M_179 (by decide) rfl (Nat.le_of_ble_eq_true rfl) (ct_M_greater (by omega)) ?_
      refine zw_istore_n ok_M_mostAlike rfl rfl (by decide) ?_
      refine zw_iinc ok_M_mostAlike rfl rfl rfl (by decide) ?_
      refine zw_goto 5 ok_M_mostAlike rfl (by decide) ?_
      exact zw_mask [true, true, true, true, true, false, false] rfl (ih (a + 1) _ (by omega) (by omega) (by omega) hx)
    refine zw_iload ok_M_mostAlike rfl rfl ?_
    refine zw_aload_n ok_M_mostAlike rfl rfl ?_
    refine zw_geti ok_M_mostAlike rfl fl_M_151 rfl rfl ?_
    refine zw_icmp_ge 103 ok_M_mostAlike rfl (by decide) (by omega) (fun h11 => ?_) (fun h11 => ?_)
    · exfalso; omega
    · refine zw_iconst ok_M_mostAlike rfl ?_
      refine zw_istore ok_M_mostAlike rfl rfl (by decide) ?_
      refine zw_iconst ok_M_mostAlike rfl ?_
      refine zw_istore ok_M_mostAlike rfl rfl (by decide) ?_
      exact al_loop q11 hp (by omega) hf (mem 48 11).toNat 0 0 (by omega) (by omega) (nx _ rfl)
theorem ct_M_mostAlike {p b : Int} (q11 : 0 ≤ mem 48 11 ∧ mem 48 11 ≤ 12) (hp : 0 ≤ p ∧ p < 8) (hf : ∀ i, 0 ≤ i → i < mem 48 11 → 0 ≤ mem 65 (8 * i + p) ∧ mem 65 (8 * i + p) ≤ 99) : zCip m_M_mostAlike [vr 48, vi p, vi b] mem (lp (gaM (mem 65) b p (mem 48 11).toNat) (mem 48 11).toNat 0 0) := by
  refine zCt.of [some (vr 48), some (vi p), some (vi b), none, none, none, none] ok_M_mostAlike (Nat.le_of_ble_eq_true rfl) rfl ?_
  refine zw_iconst ok_M_mostAlike rfl ?_
  refine zw_istore_n ok_M_mostAlike rfl rfl (by decide) ?_
  refine zw_iconst ok_M_mostAlike rfl ?_
  refine zw_istore ok_M_mostAlike rfl rfl (by decide) ?_
  exact mo_loop q11 hp hf (mem 48 11).toNat 0 0 (by omega) (by omega) (by omega) ⟨rfl, rfl⟩
theorem wr_M65 {x : zM} {i v : Int} : zset (putM mem x) 65 i v = putM (zset mem 65 i v) x := putM_cases (fun k hk => by
  by_cases e : k = 65
  · subst e; rw [zset_eq, putM_ne (by decide), putM_ne (by decide), zset_eq]
  · rw [zset_ne e, putM_ne hk, putM_ne hk, zset_ne e]) rfl rfl rfl rfl
abbrev kJ : List Int := [22, 18, 19, 20, 21, 30]
theorem kJ_18 : ∀ j : Int, 18 ≤ j → j ≤ 21 → j ∈ kJ := by
  intro j h1 h2
  have : j = 18 ∨ j = 19 ∨ j = 20 ∨ j = 21 := by omega
  rcases this with rfl | rfl | rfl | rfl <;> decide
theorem MRv_22 {k : Int} {m : zMem} (h : MRv mem τ (-1) 0) (hf : mfr kJ dL mem m) (hk : -1 ≤ k ∧ k ≤ 11) : MRv (zset m 48 22 k) τ k 0 := by
  have f2 : mfr kJ dL mem (zset m 48 22 k) := hf.setj (by decide)
  refine ⟨MRb_of f2 (by decide) (by decide) h.1, ?_, ⟨rfl, ?_, ?_⟩, hk⟩
  · rw [f2.2 13 (by decide), f2.1 58 (by decide) (by decide)]; exact h.2.1
  · rw [f2.2 23 (by decide)]; exact h.2.2.1.2.1
  · rw [f2.2 24 (by decide)]; exact h.2.2.1.2.2
/-- the first k rows of lows -/
def lwM (τ : zMem) (f : Int → Int) (k : Int) : Prop := ∀ i p, 0 ≤ i → i < k → 0 ≤ p → p < aP τ → f (8 * i + p) = (aSim τ i 0 12).2.1 p
theorem pi_loop {some1 k : Int} {x : zM} (hP : 0 ≤ aP τ ∧ aP τ ≤ 8) (hk : 0 ≤ k ∧ k < 12) (hL : ∀ p, 0 ≤ p → p < aP τ → x.2.2.1 p = (aSim τ k 0 12).2.1 p) : ∀ (n : Nat) (p : Int) (m : zMem), 0 ≤ p → p + n = aP τ → m 48 7 = aP τ → mfr kJ dL mem m → lwM τ (m 65) k → (∀ q, 0 ≤ q → q < p → m 65 (8 * k + q) = (aSim τ k 0 12).2.1 q) → (∀ m2, mfr kJ dL mem m2 → lwM τ (m2 65) (k + 1) → AW m_M_passNow 60 [some (vr 48), some (vi some1), some (vi k), none, none, none, none] [] (putM m2 x) Q) → AW m_M_passNow 29 [some (vr 48), some (vi some1), some (vi k), some (vi p), none, none, none] [] (putM m x) Q := by
  intro n
  induction n with
  | zero =>
    intro p m h0 h1 h7 hf hl hq hx
    obtain ⟨la, lb, mo, g, nn, fh, fw⟩ := x
    refine zw_iload_n ok_M_passNow rfl rfl ?_
    refine zw_aload_n ok_M_passNow rfl rfl ?_
    refine zw_geti ok_M_passNow rfl fl_M_109 rfl rfl ?_
    try simp only [rd_M18, rd_M19, rd_M20, rd_M21, rd_M59, rd_M60, rd_M61, rd_Mj4, rd_Mj7, rd_Mj9, rd_Mj11, rd_Mj13, rd_Mj22, rd_Mj23, rd_Mj24, rd_Mj27, rd_Mj30, rd_M_49, rd_M_50, rd_M_51, rd_M_52, rd_M_53, rd_M_54, rd_M_55, rd_M_56, rd_M_57, rd_M_58, rd_M_62, rd_M_63, rd_M_64, rd_M_65, wr_M18, wr_M19, wr_M20, wr_M21, wr_M59, wr_M60, wr_M61]
    rw [h7]
    refine zw_icmp_ge 60 ok_M_passNow rfl (by decide) (by omega) (fun h34 => ?_) (fun h34 => ?_)
    · refine zw_mask [true, true, true, false, false, false, false] rfl (hx m hf (fun i q q1 q2 q3 q4 => ?_))
      by_cases e : i = k
      · subst e; exact hq q q3 (by omega)
      · exact hl i q q1 (by omega) q3 q4
    · exfalso; omega
  | succ n ih =>
    intro p m h0 h1 h7 hf hl hq hx
    have lp0 := hL p h0 (by omega)
    obtain ⟨la, lb, mo, g, nn, fh, fw⟩ := x
    have lp1 : mo p = (aSim τ k 0 12).2.1 p := lp0
    refine zw_iload_n ok_M_passNow rfl rfl ?_
    refine zw_aload_n ok_M_passNow rfl rfl ?_
    refine zw_geti ok_M_passNow rfl fl_M_109 rfl rfl ?_
    rw [show putM m (la, lb, mo, g, nn, fh, fw) 48 7 = aP τ from h7]
    refine zw_icmp_ge 60 ok_M_passNow rfl (by decide) (by omega) (fun h34 => ?_) (fun h34 => ?_)
    · exfalso; omega
    · refine zw_aload_n ok_M_passNow rfl rfl ?_
      refine zw_getr ok_M_passNow rfl fl_M_58 rfl rfl ?_
      refine zw_bipush ok_M_passNow rfl (by decide) ?_
      refine zw_iload_n ok_M_passNow rfl rfl ?_
      refine zw_imul ok_M_passNow rfl ?_
      refine zw_iload_n ok_M_passNow rfl rfl ?_
      refine zw_iadd ok_M_passNow rfl ?_
      refine zw_aload_n ok_M_passNow rfl rfl ?_
      refine zw_getr ok_M_passNow rfl fl_M_46 rfl rfl ?_
      refine zw_iload_n ok_M_passNow rfl rfl ?_
      refine zw_iald ok_M_passNow rfl rfl (by omega) ?_
      rw [show putM m (la, lb, mo, g, nn, fh, fw) 61 p = mo p from rfl]
      refine zw_iast ok_M_passNow rfl rfl (by omega) ?_
      rw [wr_M65]
      refine zw_iinc ok_M_passNow rfl rfl rfl (by decide) ?_
      refine zw_goto 29 ok_M_passNow rfl (by decide) ?_
      refine ih (p + 1) _ (by omega) (by omega) h7 (mfr.set hf (by decide) (by decide)) (fun i q q1 q2 q3 q4 => ?_) (fun q q1 q2 => ?_) hx
      · rw [zset_eq, zupd_ne (by omega)]; exact hl i q q1 q2 q3 q4
      · rw [zset_eq]
        by_cases e : q = p
        · subst e; rw [zupd_eq, lp1]
        · rw [zupd_ne (by omega)]; exact hq q q1 (by omega)
theorem pkk_loop {some1 : Int} (h : MRv mem τ (-1) 0) : ∀ (n : Nat) (k : Int) (m : zMem), 0 ≤ k → k + n = τ 2 2 → mfr kJ dL mem m → lwM τ (m 65) k → (∀ m2, mfr kJ dL mem m2 → lwM τ (m2 65) (τ 2 2) → AW m_M_passNow 66 [some (vr 48), some (vi some1), none, none, none, none, none] [] m2 Q) → AW m_M_passNow 8 [some (vr 48), some (vi some1), some (vi k), none, none, none, none] [] m Q := by
  have b2 := h.1.1.1.2.2.1
  have hP := aP_b h.1
  intro n
  induction n with
  | zero =>
    intro k m h0 h1 hf hl hx
    have e11 : m 48 11 = τ 2 2 := by rw [hf.2 11 (by decide)]; exact h.1.2.2.2.1
    have e : k = τ 2 2 := by omega
    subst e
    refine zw_iload_n ok_M_passNow rfl rfl ?_
    refine zw_aload_n ok_M_passNow rfl rfl ?_
    refine zw_geti ok_M_passNow rfl fl_M_151 rfl rfl ?_
    rw [e11]
    refine zw_icmp_ge 66 ok_M_passNow rfl (by decide) (by omega) (fun h13 => ?_) (fun h13 => ?_)
    · exact zw_mask [true, true, false, false, false, false, false] rfl (hx m hf hl)
    · exfalso; omega
  | succ n ih =>
    intro k m h0 h1 hf hl hx
    have e11 : m 48 11 = τ 2 2 := by rw [hf.2 11 (by decide)]; exact h.1.2.2.2.1
    have hm := MRv_22 (k := k) h hf (by omega)
    have f2 : mfr kJ dL mem (zset m 48 22 k) := hf.setj (by decide)
    have ks := ct_sim (t := 11) hm (by omega)
    have l2 : lwM τ (zset m 48 22 k 65) k := hl
    have e7 : zset m 48 22 k 48 7 = aP τ := hm.1.2.1.1
    generalize hm1 : zset m 48 22 k = m1 at hm f2 ks l2 e7
    have nx : ∀ x m2, mfr kJ dL mem m2 → lwM τ (m2 65) (k + 1) → AW m_M_passNow 60 [some (vr 48), some (vi some1), some (vi k), none, none, none, none] [] (putM m2 x) Q := by
      intro x m2 q1 q2
      refine zw_iinc ok_M_passNow rfl rfl rfl (by decide) ?_
      refine zw_goto 8 ok_M_passNow rfl (by decide) ?_
      exact ih (k + 1) _ (by omega) (by omega) (mfr.putM q1 kJ_18 (by decide)) q2 hx
    refine zw_iload_n ok_M_passNow rfl rfl ?_
    refine zw_aload_n ok_M_passNow rfl rfl ?_
    refine zw_geti ok_M_passNow rfl fl_M_151 rfl rfl ?_
    rw [e11]
    refine zw_icmp_ge 66 ok_M_passNow rfl (by decide) (by omega) (fun h13 => ?_) (fun h13 => ?_)
    · exfalso; omega
    · refine zw_aload_n ok_M_passNow rfl rfl ?_
      refine zw_iload_n ok_M_passNow rfl rfl ?_
      refine zw_puti ok_M_passNow rfl fp_M_61 rfl rfl ?_
      rw [hm1]
      refine zw_aload_n ok_M_passNow rfl rfl ?_
      refine zw_bipush ok_M_passNow rfl (by decide) ?_
      refine zw_Vv ok_M_passNow rfl ok_M_lives lk_M_216 (by decide) rfl rfl (Nat.le_of_ble_eq_true rfl) (ks) (fun m24 h24 => ?_)
      obtain ⟨x, rfl, hL⟩ := h24
      refine zw_iconst ok_M_passNow rfl ?_
      refine zw_istore_n ok_M_passNow rfl rfl (by decide) ?_
      exact pi_loop hP (by omega) (fun p p0 p1 => hL.low ⟨p0, p1⟩) (aP τ).toNat 0 m1 (by omega) (by omega) e7 f2 l2 (fun q q1 q2 => by omega) (nx x)
theorem pp_loop {v : Int → Int} (hP : 0 ≤ aP τ ∧ aP τ ≤ 8) (h7 : mem 48 7 = aP τ) (hv : ∀ p, 0 ≤ p → p < aP τ → zCip m_M_mostAlike [vr 48, vi p, vi (nevO τ)] mem (v p) ∧ v p = lp (gaS (nevO τ) (lwT τ) p) 12 0 0 ∧ (0 ≤ v p ∧ v p ≤ 12)) : ∀ (n : Nat) (p b l : Int) (y : Int × Int), 0 ≤ p → p + n = aP τ → (b = -1 ∧ l = 0 ∧ y = (13, -1) ∨ (0 ≤ b ∧ b ≤ 8 ∧ (0 ≤ l ∧ l ≤ 12) ∧ y = (l, b))) → Q (some (vi (lp (passS (nevO τ) (lwT τ)) n p y).2)) mem → AW m_M_passNow 78 [some (vr 48), some (vi (nevO τ)), some (vi b), some (vi l), some (vi p), none, none] [] mem Q := by
  intro n
  induction n with
  | zero =>
    intro p b l y h0 h1 hy hx
    have e : b = y.2 := by
      rcases hy with z | z
      · rw [z.2.2]; exact z.1
      · rw [z.2.2.2]
    subst e
    refine zw_iload ok_M_passNow rfl rfl ?_
    refine zw_aload_n ok_M_passNow rfl rfl ?_
    refine zw_geti ok_M_passNow rfl fl_M_109 rfl rfl ?_
    rw [h7]
    refine zw_icmp_ge 144 ok_M_passNow rfl (by decide) (by omega) (fun h84 => ?_) (fun h84 => ?_)
    · refine zw_iload_n ok_M_passNow rfl rfl ?_
      exact zw_iret ok_M_passNow rfl rfl (hx)
    · exfalso; omega
  | succ n ih =>
    intro p b l y h0 h1 hy hx
    obtain ⟨kv, ev, rv⟩ := hv p h0 (by omega)
    rw [lp_s] at hx
    have ep : passS (nevO τ) (lwT τ) p y = if v p < y.1 then (v p, p) else y := by unfold passS; rw [← ev]
    rw [ep] at hx
    generalize v p = z at kv rv hx
    clear ev ep
    have nx : ∀ b2 l2 y2 u1 u2, y2 = (if z < y.1 then (z, p) else y) → (b2 = -1 ∧ l2 = 0 ∧ y2 = (13, -1) ∨ (0 ≤ b2 ∧ b2 ≤ 8 ∧ (0 ≤ l2 ∧ l2 ≤ 12) ∧ y2 = (l2, b2))) → AW m_M_passNow 138 [some (vr 48), some (vi (nevO τ)), some (vi b2), some (vi l2), some (vi p), some (vi u1), some (vi u2)] [] mem Q := by
      intro b2 l2 y2 u1 u2 hy2 hr
      subst hy2
      refine zw_iinc ok_M_passNow rfl rfl rfl (by decide) ?_
      refine zw_goto 78 ok_M_passNow rfl (by decide) ?_
      exact zw_mask [true, true, true, true, true, false, false] rfl (ih (p + 1) b2 l2 _ (by omega) (by omega) hr hx)
    by_cases hl : b = -1 ∨ z < l
    · have yes : z < y.1 ∧ zR b ∧ zR l := by
        rcases hy with w | w
        · rw [w.2.2]; exact ⟨show z < 13 by omega, by omega, by omega⟩
        · rw [w.2.2.2]; exact ⟨show z < l by omega, by omega, by omega⟩
      refine zw_iload ok_M_passNow rfl rfl ?_
      refine zw_aload_n ok_M_passNow rfl rfl ?_
      refine zw_geti ok_M_passNow rfl fl_M_109 rfl rfl ?_
      rw [h7]
      refine zw_icmp_ge 144 ok_M_passNow rfl (by decide) (by omega) (fun h84 => ?_) (fun h84 => ?_)
      · exfalso; omega
      · refine zw_aload_n ok_M_passNow rfl rfl ?_
        refine zw_iload ok_M_passNow rfl rfl ?_
        refine zw_iload_n ok_M_passNow rfl rfl ?_
        refine zw_Vip ok_M_passNow rfl ok_M_mostAlike lk_M_268 (by decide) rfl rfl (Nat.le_of_ble_eq_true rfl) (kv) ?_
        refine zw_istore ok_M_passNow rfl rfl (by decide) ?_
        refine zw_iload_n ok_M_passNow rfl rfl ?_
        refine zw_iconst ok_M_passNow rfl ?_
        refine zw_icmp_eq 107 ok_M_passNow rfl (by decide) (by omega) (fun h98 => ?_) (fun h98 => ?_)
        · refine zw_iconst ok_M_passNow rfl ?_
          refine zw_goto 112 ok_M_passNow rfl (by decide) ?_
          refine zw_istore ok_M_passNow rfl rfl (by decide) ?_
          refine zw_iload ok_M_passNow rfl rfl ?_
          refine zw_if_eq 124 ok_M_passNow rfl (by decide) (by omega) (fun h116 => ?_) (fun h116 => ?_)
          · exfalso; omega
          · refine zw_iload ok_M_passNow rfl rfl ?_
            refine zw_goto 125 ok_M_passNow rfl (by decide) ?_
            refine zw_istore_n ok_M_passNow rfl rfl (by decide) ?_
            refine zw_iload ok_M_passNow rfl rfl ?_
            refine zw_if_eq 136 ok_M_passNow rfl (by decide) (by omega) (fun h128 => ?_) (fun h128 => ?_)
            · exfalso; omega
            · refine zw_iload ok_M_passNow rfl rfl ?_
              refine zw_goto 137 ok_M_passNow rfl (by decide) ?_
              refine zw_istore_n ok_M_passNow rfl rfl (by decide) ?_
              exact nx p z (z, p) _ _ (by rw [if_pos yes.1]) (Or.inr ⟨by omega, by omega, by omega, rfl⟩)
        · refine zw_iload ok_M_passNow rfl rfl ?_
          refine zw_iload_n ok_M_passNow rfl rfl ?_
          refine zw_icmp_ge 111 ok_M_passNow rfl (by decide) (by omega) (fun h104 => ?_) (fun h104 => ?_)
          · exfalso; omega
          · refine zw_iconst ok_M_passNow rfl ?_
            refine zw_goto 112 ok_M_passNow rfl (by decide) ?_
            refine zw_istore ok_M_passNow rfl rfl (by decide) ?_
            refine zw_iload ok_M_passNow rfl rfl ?_
            refine zw_if_eq 124 ok_M_passNow rfl (by decide) (by omega) (fun h116 => ?_) (fun h116 => ?_)
            · exfalso; omega
            · refine zw_iload ok_M_passNow rfl rfl ?_
              refine zw_goto 125 ok_M_passNow rfl (by decide) ?_
              refine zw_istore_n ok_M_passNow rfl rfl (by decide) ?_
              refine zw_iload ok_M_passNow rfl rfl ?_
              refine zw_if_eq 136 ok_M_passNow rfl (by decide) (by omega) (fun h128 => ?_) (fun h128 => ?_)
              · exfalso; omega
              · refine zw_iload ok_M_passNow rfl rfl ?_
                refine zw_goto 137 ok_M_passNow rfl (by decide) ?_
                refine zw_istore_n ok_M_passNow rfl rfl (by decide) ?_
                exact nx p z (z, p) _ _ (by rw [if_pos yes.1]) (Or.inr ⟨by omega, by omega, by omega, rfl⟩)
    · have no : ¬ z < y.1 ∧ zR b ∧ zR l := by
        rcases hy with w | w
        · exact absurd (Or.inl w.1) hl
        · rw [w.2.2.2]; exact ⟨show ¬ z < l by omega, by omega, by omega⟩
      refine zw_iload ok_M_passNow rfl rfl ?_
      refine zw_aload_n ok_M_passNow rfl rfl ?_
      refine zw_geti ok_M_passNow rfl fl_M_109 rfl rfl ?_
      rw [h7]
      refine zw_icmp_ge 144 ok_M_passNow rfl (by decide) (by omega) (fun h84 => ?_) (fun h84 => ?_)
      · exfalso; omega
      · refine zw_aload_n ok_M_passNow rfl rfl ?_
        refine zw_iload ok_M_passNow rfl rfl ?_
        refine zw_iload_n ok_M_passNow rfl rfl ?_
        refine zw_Vip ok_M_passNow rfl ok_M_mostAlike lk_M_268 (by decide) rfl rfl (Nat.le_of_ble_eq_true rfl) (kv) ?_
        refine zw_istore ok_M_passNow rfl rfl (by decide) ?_
        refine zw_iload_n ok_M_passNow rfl rfl ?_
        refine zw_iconst ok_M_passNow rfl ?_
        refine zw_icmp_eq 107 ok_M_passNow rfl (by decide) (by omega) (fun h98 => ?_) (fun h98 => ?_)
        · exfalso; omega
        · refine zw_iload ok_M_passNow rfl rfl ?_
          refine zw_iload_n ok_M_passNow rfl rfl ?_
          refine zw_icmp_ge 111 ok_M_passNow rfl (by decide) (by omega) (fun h104 => ?_) (fun h104 => ?_)
          · refine zw_iconst ok_M_passNow rfl ?_
            refine zw_istore ok_M_passNow rfl rfl (by decide) ?_
            refine zw_iload ok_M_passNow rfl rfl ?_
            refine zw_if_eq 124 ok_M_passNow rfl (by decide) (by omega) (fun h116 => ?_) (fun h116 => ?_)
            · refine zw_iload_n ok_M_passNow rfl rfl ?_
              refine zw_istore_n ok_M_passNow rfl rfl (by decide) ?_
              refine zw_iload ok_M_passNow rfl rfl ?_
              refine zw_if_eq 136 ok_M_passNow rfl (by decide) (by omega) (fun h128 => ?_) (fun h128 => ?_)
              · refine zw_iload_n ok_M_passNow rfl rfl ?_
                refine zw_istore_n ok_M_passNow rfl rfl (by decide) ?_
                exact nx b l y _ _ (by rw [if_neg no.1]) hy
              · exfalso; omega
            · exfalso; omega
          · exfalso; omega
theorem ct_M_passNow (h : MRv mem τ (-1) 0) (hS : sgM mem τ) : zCi m_M_passNow [vr 48] mem (qPass τ) (fun m2 => mfr dJ dL mem m2) := by
  refine zCt.of [some (vr 48), none, none, none, none, none, none] ok_M_passNow (Nat.le_of_ble_eq_true rfl) rfl ?_
  have b2 := h.1.1.1.2.2.1
  have hP := aP_b h.1
  have bt : ∀ i, 0 ≤ i → i < 12 → tb (nevO τ) i.toNat = true → i < τ 2 2 := by
    intro i h0 h1 h
    unfold nevO at h
    rw [bits_tb (by omega) _ _ _ (by omega) (by omega), tb_0, Bool.false_or] at h
    have h := of_decide_eq_true h
    omega
  have t3 : ∀ m2, mfr kJ dL mem m2 → lwM τ (m2 65) (τ 2 2) → AW m_M_passNow 66 [some (vr 48), some (vi (nevO τ)), none, none, none, none, none] [] m2 (fun r m2 => r = some (vi (qPass τ)) ∧ mfr dJ dL mem m2) := by
    intro m2 f1 l1
    have f2 : mfr kJ dL mem (zset m2 48 22 (-1)) := f1.setj (by decide)
    have f3 : mfr dJ dL mem (zset m2 48 22 (-1)) := f2.drop (by rw [h.2.2.1.1]; rfl)
    have l2 : lwM τ (zset m2 48 22 (-1) 65) (τ 2 2) := l1
    have e7 : zset m2 48 22 (-1) 48 7 = aP τ := by rw [f3.2 7 (by decide)]; exact h.1.2.1.1
    have e11 : zset m2 48 22 (-1) 48 11 = τ 2 2 := by rw [f3.2 11 (by decide)]; exact h.1.2.2.2.1
    have hm : MRv (zset m2 48 22 (-1)) τ (-1) 0 := MRv_of f3 (by decide) (by decide) h
    generalize hm3 : zset m2 48 22 (-1) = m3 at f3 l2 e7 e11 hm
    have hv : ∀ p, 0 ≤ p → p < aP τ → zCip m_M_mostAlike [vr 48, vi p, vi (nevO τ)] m3 (lp (gaM (m3 65) (nevO τ) p (m3 48 11).toNat) (m3 48 11).toNat 0 0) ∧ lp (gaM (m3 65) (nevO τ) p (m3 48 11).toNat) (m3 48 11).toNat 0 0 = lp (gaS (nevO τ) (lwT τ) p) 12 0 0 ∧ (0 ≤ lp (gaM (m3 65) (nevO τ) p (m3 48 11).toNat) (m3 48 11).toNat 0 0 ∧ lp (gaM (m3 65) (nevO τ) p (m3 48 11).toNat) (m3 48 11).toNat 0 0 ≤ 12) := by
      intro p p0 p1
      have e : lp (gaM (m3 65) (nevO τ) p (m3 48 11).toNat) (m3 48 11).toNat 0 0 = lp (gaS (nevO τ) (lwT τ) p) 12 0 0 := by
        rw [e11]
        exact ga_eq (by omega) (fun i i0 i1 hi => by have := bt i i0 i1 hi; omega) (fun i i0 i1 => by rw [l2 i p i0 (by omega) p0 p1, lwT_at (by omega)])
      refine ⟨ct_M_mostAlike (by omega) (by omega) (fun i i0 i1 => ?_), e, ?_⟩
      · rw [l2 i p i0 (by omega) p0 p1]
        have r := sim_rel (t := 11) (MRv_22 (k := i) h f1 (by omega)) (by omega) (m2 59, m2 60, m2 61, 0, 0, 0, 0)
        rw [show ((11 : Int) + 1).toNat = 12 from rfl] at r
        rw [← r.low ⟨p0, p1⟩]
        exact r.2.2.2.1 p p0 p1
      · rw [e]; exact ga_r 12 0 0 (by omega)
    refine zw_aload_n ok_M_passNow rfl rfl ?_
    refine zw_iconst ok_M_passNow rfl ?_
    refine zw_puti ok_M_passNow rfl fp_M_61 rfl rfl ?_
    rw [hm3]
    refine zw_iconst ok_M_passNow rfl ?_
    refine zw_istore_n ok_M_passNow rfl rfl (by decide) ?_
    refine zw_iconst ok_M_passNow rfl ?_
    refine zw_istore_n ok_M_passNow rfl rfl (by decide) ?_
    refine zw_iconst ok_M_passNow rfl ?_
    refine zw_istore ok_M_passNow rfl rfl (by decide) ?_
    exact pp_loop hP e7 hv (aP τ).toNat 0 (-1) 0 (13, -1) (by omega) (by omega) (Or.inl ⟨rfl, rfl, rfl⟩) ⟨rfl, f3⟩
  refine zw_aload_n ok_M_passNow rfl rfl ?_
  refine zw_iconst ok_M_passNow rfl ?_
  refine zw_Vi ok_M_passNow rfl ok_M_neverOf lk_M_265 (by decide) rfl rfl (Nat.le_of_ble_eq_true rfl) (ct_M_neverOf h hS (by omega)) (fun m2 h2 => ?_)
  rw [if_pos rfl]
  refine zw_istore_n ok_M_passNow rfl rfl (by decide) ?_
  refine zw_iconst ok_M_passNow rfl ?_
  refine zw_istore_n ok_M_passNow rfl rfl (by decide) ?_
  exact pkk_loop h (τ 2 2).toNat 0 m2 (by omega) (by omega) (h2.mono (by decide) (by decide)) (fun i p q1 q2 => by omega) t3
theorem ct_M_pass (hI : MI mem τ) : zCi m_M_pass [vr 48] mem (qPass τ) (fun m2 => MI m2 τ ∧ ref47 mem m2) := by
  refine zCt.of [some (vr 48)] ok_M_pass (Nat.le_of_ble_eq_true rfl) rfl ?_
  refine zw_aload_n ok_M_pass rfl rfl ?_
  refine zw_Vv ok_M_pass rfl ok_M_reads lk_M_140 (by decide) rfl rfl (Nat.le_of_ble_eq_true rfl) (ct_M_reads hI) (fun m1 h1 => ?_)
  refine zw_aload_n ok_M_pass rfl rfl ?_
  refine zw_Vi ok_M_pass rfl ok_M_passNow lk_M_271 (by decide) rfl rfl (Nat.le_of_ble_eq_true rfl) (ct_M_passNow h1.1.2.1 (sgM_I h1.1.1)) (fun m5 h5 => ?_)
  exact zw_iret ok_M_pass rfl rfl (⟨rfl, (MR_of h5 h1.1).1, (h1.2.r47 (by decide)).tr (h5.r47 (by decide))⟩)
end
