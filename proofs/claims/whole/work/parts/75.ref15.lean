/-! ===== the reference: rings ===== -/
theorem lp_app {σ : Type} (f : Int → σ → σ) : ∀ (m n : Nat) (i : Int) (s : σ), lp f (m + n) i s = lp f n (i + m) (lp f m i s)
  | 0, n, i, s => by rw [Nat.zero_add]; show lp f n i s = lp f n (i + 0) s; rw [Int.add_zero]
  | m + 1, n, i, s => by
    rw [show m + 1 + n = (m + n) + 1 by omega, lp_s, lp_s, lp_app f m n (i + 1) (f i s)]
    congr 1
    omega
theorem lp_mul {σ : Type} (f : Int → σ → σ) (n : Nat) (i : Int) : ∀ (m : Nat) (j : Int) (s : σ), lp f (m * n) (i + j * n) s = lp (fun j s => lp f n (i + j * n) s) m j s
  | 0, j, s => by rw [Nat.zero_mul]; rfl
  | m + 1, j, s => by
    rw [show (m + 1) * n = n + m * n by rw [Nat.succ_mul, Nat.add_comm], lp_app, lp_s]
    have : i + j * n + n = i + (j + 1) * (n : Int) := by rw [Int.add_mul, Int.one_mul, Int.add_assoc]
    rw [this]
    exact lp_mul f n i m (j + 1) _
theorem lp_sh {σ : Type} (f : Int → σ → σ) (i : Int) : ∀ (n : Nat) (k : Int) (s : σ), lp f n (i + k) s = lp (fun j => f (i + j)) n k s
  | 0, _, _ => rfl
  | n + 1, k, s => by
    rw [lp_s, lp_s, show i + k + 1 = i + (k + 1) by omega]
    exact lp_sh f i n (k + 1) _
theorem lp_id {σ : Type} {f : Int → σ → σ} : ∀ (n : Nat) (i : Int) (s : σ), (∀ j s, i ≤ j → j < i + n → f j s = s) → lp f n i s = s
  | 0, _, _, _ => rfl
  | n + 1, i, s, h => by
    rw [lp_s, h i s (by omega) (by omega)]
    exact lp_id n (i + 1) s (fun j s h1 h2 => h j s (by omega) (by omega))
/-- a loop that does nothing outside lo .. hi -/
theorem lp_win {σ : Type} {f g : Int → σ → σ} {s : σ} (n : Nat) (lo hi : Int) (h : 0 ≤ lo ∧ lo ≤ hi ∧ hi ≤ n) (h1 : ∀ (j : Int) s, 0 ≤ j → j < n → ¬ (lo ≤ j ∧ j < hi) → f j s = s) (h2 : ∀ (j : Int) s, lo ≤ j → j < hi → f j s = g j s) : lp f n 0 s = lp g (hi - lo).toNat lo s := by
  have e : n = lo.toNat + ((hi - lo).toNat + (n - hi.toNat)) := by omega
  rw [e, lp_app, lp_app, lp_id lo.toNat 0 s (fun j s q1 q2 => h1 j s (by omega) (by omega) (by omega)), show (0 : Int) + (lo.toNat : Int) = lo by omega]
  rw [lp_id (n - hi.toNat) _ _ (fun j s q1 q2 => h1 j s (by omega) (by omega) (by omega))]
  exact lp_congr _ _ _ (fun j s q1 q2 => h2 j s (by omega) (by omega))
/-- the reference's count of rings, code by code -/
def rF (τ : zMem) (d : Int → Int) (c : Int) (x : Int × Int) : Int × Int := if (c / 64 < c / 8 % 8 ∧ c / 8 % 8 < c % 8 ∧ c % 8 < aP τ) ∧ rgT τ d (c / 64) (c / 8 % 8) (c % 8) = true then (x.1 + 1, if x.1 = 0 then c else x.2) else x
theorem rF_eq {τ : zMem} {d : Int → Int} (hP : 0 ≤ aP τ ∧ aP τ ≤ 8) (x : Int × Int) : lp (rF τ d) 512 0 x = lp (r1 τ d) (aP τ).toNat 0 x := by
  have e1 : lp (rF τ d) 512 0 x = lp (fun a s => lp (rF τ d) 64 (0 + a * 64) s) 8 0 x := lp_mul (rF τ d) 64 0 8 0 x
  rw [e1]
  have key := lp_win (f := fun a s => lp (rF τ d) 64 (0 + a * 64) s) (g := r1 τ d) (s := x) 8 0 (aP τ) (by omega) (fun a s a0 a1 ha => ?_) (fun a s a0 a1 => ?_)
  · rw [Int.sub_zero] at key; exact key
  · refine lp_id 64 _ s (fun j s j0 j1 => ?_)
    unfold rF
    rw [if_neg (by omega)]
  · have e2 : lp (rF τ d) 64 (0 + a * 64) s = lp (fun b s => lp (rF τ d) 8 (64 * a + b * 8) s) 8 0 s := by
      rw [show (0 : Int) + a * 64 = 64 * a + 0 * ((8 : Nat) : Int) by omega]
      exact lp_mul (rF τ d) 8 (64 * a) 8 0 s
    show lp (rF τ d) 64 (0 + a * 64) s = _
    rw [e2]
    have key2 := lp_win (f := fun b s => lp (rF τ d) 8 (64 * a + b * 8) s) (g := r2 τ d a) (s := s) 8 (a + 1) (max (aP τ) (a + 1)) (by omega) (fun b s b0 b1 hb => ?_) (fun b s b0 b1 => ?_)
    · rw [key2, show (max (aP τ) (a + 1) - (a + 1)).toNat = (aP τ - (a + 1)).toNat by omega]; rfl
    · refine lp_id 8 _ s (fun j s j0 j1 => ?_)
      unfold rF
      rw [if_neg (by omega)]
    · show lp (rF τ d) 8 (64 * a + b * 8) s = _
      rw [show 64 * a + b * 8 = (64 * a + b * 8) + 0 by omega, lp_sh]
      have key3 := lp_win (f := fun c => rF τ d (64 * a + b * 8 + c)) (g := r3 τ d a b) (s := s) 8 (b + 1) (max (aP τ) (b + 1)) (by omega) (fun c s c0 c1 hc => ?_) (fun c s c0 c1 => ?_)
      · rw [key3, show (max (aP τ) (b + 1) - (b + 1)).toNat = (aP τ - (b + 1)).toNat by omega]; rfl
      · show rF τ d (64 * a + b * 8 + c) s = s
        unfold rF
        rw [if_neg (by omega)]
      · show rF τ d (64 * a + b * 8 + c) s = r3 τ d a b c s
        unfold rF r3
        rw [show (64 * a + b * 8 + c) / 64 = a by omega, show (64 * a + b * 8 + c) / 8 % 8 = b by omega, show (64 * a + b * 8 + c) % 8 = c by omega, show 64 * a + b * 8 + c = 64 * a + 8 * b + c by omega]
        by_cases w : rgT τ d a b c = true
        · rw [if_pos ⟨by omega, w⟩, if_pos w]
        · rw [if_neg (fun z => w z.2), if_neg w]
section
variable {mem m2 τ τ2 : zMem} {Q : Option zVal → zMem → Prop} {ol ff : Int}
theorem aDebt_r {d : Int → Int} {p q : Int} (h : -109 ≤ d (p * 8 + q) ∧ d (p * 8 + q) ≤ 109) (h2 : -109 ≤ d (q * 8 + p) ∧ d (q * 8 + p) ≤ 109) : 0 ≤ aDebt τ d p q ∧ aDebt τ d p q ≤ 109 := by
  unfold aDebt
  (repeat' split) <;> omega
theorem due_r {x : zM} {t : zS} {a b : Int} (hb : MRb mem τ) (hC : okM mem) (hL : LR τ x t) (ha : 0 ≤ a) (hab : a < b) (hbP : b < aP τ) : -109 ≤ t.1 (a * 8 + b) ∧ t.1 (a * 8 + b) ≤ 109 := by
  have eP := hb.2.1.1
  have d := due_ls (pRel_b hb) ha hab hbP hL.2.2 hL.1
  have r1 := hwM_r (w := a) hC ha hab (by rw [eP]; exact hbP) (by rw [eP]; omega) (by rw [eP]; exact hL.2.2)
  have r2 := hwM_r (w := b) hC ha hab (by rw [eP]; exact hbP) (by rw [eP]; omega) (by rw [eP]; exact hL.2.2)
  omega
theorem deb_r {x : zM} {t : zS} {p q : Int} (hb : MRb mem τ) (hC : okM mem) (hL : LR τ x t) (hp : 0 ≤ p ∧ p < aP τ) (hq : 0 ≤ q ∧ q < aP τ) (hpq : p ≠ q) : 0 ≤ aDebt τ t.1 p q ∧ aDebt τ t.1 p q ≤ 109 := by
  rcases Int.lt_or_gt_of_ne hpq with h | h
  · have := due_r hb hC hL hp.1 h hq.2
    unfold aDebt
    (repeat' split) <;> omega
  · have := due_r hb hC hL hq.1 h hp.2
    unfold aDebt
    (repeat' split) <;> omega
theorem ct_M_isRing {x : zM} {t : zS} {a b c : Int} (hb : MRb mem τ) (hC : okM mem) (hL : LR τ x t) (ha : 0 ≤ a) (hab : a < b) (hbc : b < c) (hc : c < aP τ) : zCbp m_M_isRing [vr 48, vi a, vi b, vi c] (putM mem x) (rgT τ t.1 a b c) := by
  refine zCt.of [some (vr 48), some (vi a), some (vi b), some (vi c), none] ok_M_isRing (Nat.le_of_ble_eq_true rfl) rfl ?_
  have k : ∀ p q, (0 ≤ p ∧ p < aP τ) → (0 ≤ q ∧ q < aP τ) → p ≠ q → zCip m_M_owesNow [vr 48, vi p, vi q] (putM mem x) (aDebt τ t.1 p q) := fun p q h1 h2 h3 => ct_M_owesNow hb hC hL h1 h2 h3
  have kab := k a b (by omega) (by omega) (by omega)
  have kbc := k b c (by omega) (by omega) (by omega)
  have kca := k c a (by omega) (by omega) (by omega)
  have kac := k a c (by omega) (by omega) (by omega)
  have kcb := k c b (by omega) (by omega) (by omega)
  have kba := k b a (by omega) (by omega) (by omega)
  have r : ∀ p q, (0 ≤ p ∧ p < aP τ) → (0 ≤ q ∧ q < aP τ) → p ≠ q → 0 ≤ aDebt τ t.1 p q ∧ aDebt τ t.1 p q ≤ 109 := fun p q h1 h2 h3 => deb_r hb hC hL h1 h2 h3
  have rab := r a b (by omega) (by omega) (by omega)
  have rbc := r b c (by omega) (by omega) (by omega)
  have rca := r c a (by omega) (by omega) (by omega)
  have rac := r a c (by omega) (by omega) (by omega)
  have rcb := r c b (by omega) (by omega) (by omega)
  have rba := r b a (by omega) (by omega) (by omega)
  unfold rgT
  generalize aDebt τ t.1 a b = dab at kab rab ⊢
  generalize aDebt τ t.1 b c = dbc at kbc rbc ⊢
  generalize aDebt τ t.1 c a = dca at kca rca ⊢
  generalize aDebt τ t.1 a c = dac at kac rac ⊢
  generalize aDebt τ t.1 c b = dcb at kcb rcb ⊢
  generalize aDebt τ t.1 b a = dba at kba rba ⊢
  clear k r
  refine zw_aload_n ok_M_isRing rfl rfl ?_
  refine zw_iload_n ok_M_isRing rfl rfl ?_
  refine zw_iload_n ok_M_isRing rfl rfl ?_
  refine zw_Vip ok_M_isRing rfl ok_M_owesNow lk_M_226 (by decide) rfl rfl (Nat.le_of_ble_eq_true rfl) (kab) ?_
  refine zw_if_le 31 ok_M_isRing rfl (by decide) (by omega) (fun h6 => ?_) (fun h6 => ?_)
  · refine zw_iconst ok_M_isRing rfl ?_
    refine zw_istore ok_M_isRing rfl rfl (by decide) ?_
    refine zw_iload ok_M_isRing rfl rfl ?_
    refine zw_if_ne 66 ok_M_isRing rfl (by decide) (by omega) (fun h36 => ?_) (fun h36 => ?_)
    · try (exfalso; omega)
      all_goals
        refine zw_iconst ok_M_isRing rfl ?_
        refine zw_goto 71 ok_M_isRing rfl (by decide) ?_
        exact zw_zret ok_M_isRing rfl rfl (by first | exact Or.inl rfl | exact Or.inr rfl | exact bi01 _) (⟨by first | rw [bi_t (by omega)] | rw [bi_f (by omega)], rfl⟩)
    · try (exfalso; omega)
      all_goals
        refine zw_aload_n ok_M_isRing rfl rfl ?_
        refine zw_iload_n ok_M_isRing rfl rfl ?_
        refine zw_iload_n ok_M_isRing rfl rfl ?_
        refine zw_Vip ok_M_isRing rfl ok_M_owesNow lk_M_226 (by decide) rfl rfl (Nat.le_of_ble_eq_true rfl) (kac) ?_
        refine zw_if_le 70 ok_M_isRing rfl (by decide) (by omega) (fun h45 => ?_) (fun h45 => ?_)
        · refine zw_iconst ok_M_isRing rfl ?_
          exact zw_zret ok_M_isRing rfl rfl (by first | exact Or.inl rfl | exact Or.inr rfl | exact bi01 _) (⟨by first | rw [bi_t (by omega)] | rw [bi_f (by omega)], rfl⟩)
        · refine zw_aload_n ok_M_isRing rfl rfl ?_
          refine zw_iload_n ok_M_isRing rfl rfl ?_
          refine zw_iload_n ok_M_isRing rfl rfl ?_
          refine zw_Vip ok_M_isRing rfl ok_M_owesNow lk_M_226 (by decide) rfl rfl (Nat.le_of_ble_eq_true rfl) (kcb) ?_
          refine zw_if_le 70 ok_M_isRing rfl (by decide) (by omega) (fun h54 => ?_) (fun h54 => ?_)
          · refine zw_iconst ok_M_isRing rfl ?_
            exact zw_zret ok_M_isRing rfl rfl (by first | exact Or.inl rfl | exact Or.inr rfl | exact bi01 _) (⟨by first | rw [bi_t (by omega)] | rw [bi_f (by omega)], rfl⟩)
          · refine zw_aload_n ok_M_isRing rfl rfl ?_
            refine zw_iload_n ok_M_isRing rfl rfl ?_
            refine zw_iload_n ok_M_isRing rfl rfl ?_
            refine zw_Vip ok_M_isRing rfl ok_M_owesNow lk_M_226 (by decide) rfl rfl (Nat.le_of_ble_eq_true rfl) (kba) ?_
            refine zw_if_le 70 ok_M_isRing rfl (by decide) (by omega) (fun h63 => ?_) (fun h63 => ?_)
            · refine zw_iconst ok_M_isRing rfl ?_
              exact zw_zret ok_M_isRing rfl rfl (by first | exact Or.inl rfl | exact Or.inr rfl | exact bi01 _) (⟨by first | rw [bi_t (by omega)] | rw [bi_f (by omega)], rfl⟩)
            · refine zw_iconst ok_M_isRing rfl ?_
              refine zw_goto 71 ok_M_isRing rfl (by decide) ?_
              exact zw_zret ok_M_isRing rfl rfl (by first | exact Or.inl rfl | exact Or.inr rfl | exact bi01 _) (⟨by first | rw [bi_t (by omega)] | rw [bi_f (by omega)], rfl⟩)
  · refine zw_aload_n ok_M_isRing rfl rfl ?_
    refine zw_iload_n ok_M_isRing rfl rfl ?_
    refine zw_iload_n ok_M_isRing rfl rfl ?_
    refine zw_Vip ok_M_isRing rfl ok_M_owesNow lk_M_226 (by decide) rfl rfl (Nat.le_of_ble_eq_true rfl) (kbc) ?_
    refine zw_if_le 31 ok_M_isRing rfl (by decide) (by omega) (fun h15 => ?_) (fun h15 => ?_)
    · refine zw_iconst ok_M_isRing rfl ?_
      refine zw_istore ok_M_isRing rfl rfl (by decide) ?_
      refine zw_iload ok_M_isRing rfl rfl ?_
      refine zw_if_ne 66 ok_M_isRing rfl (by decide) (by omega) (fun h36 => ?_) (fun h36 => ?_)
      · try (exfalso; omega)
        all_goals
          refine zw_iconst ok_M_isRing rfl ?_
          refine zw_goto 71 ok_M_isRing rfl (by decide) ?_
          exact zw_zret ok_M_isRing rfl rfl (by first | exact Or.inl rfl | exact Or.inr rfl | exact bi01 _) (⟨by first | rw [bi_t (by omega)] | rw [bi_f (by omega)], rfl⟩)
      · try (exfalso; omega)
        all_goals
          refine zw_aload_n ok_M_isRing rfl rfl ?_
          refine zw_iload_n ok_M_isRing rfl rfl ?_
          refine zw_iload_n ok_M_isRing rfl rfl ?_
          refine zw_Vip ok_M_isRing rfl ok_M_owesNow lk_M_226 (by decide) rfl rfl (Nat.le_of_ble_eq_true rfl) (kac) ?_
          refine zw_if_le 70 ok_M_isRing rfl (by decide) (by omega) (fun h45 => ?_) (fun h45 => ?_)
          · refine zw_iconst ok_M_isRing rfl ?_
            exact zw_zret ok_M_isRing rfl rfl (by first | exact Or.inl rfl | exact Or.inr rfl | exact bi01 _) (⟨by first | rw [bi_t (by omega)] | rw [bi_f (by omega)], rfl⟩)
          · refine zw_aload_n ok_M_isRing rfl rfl ?_
            refine zw_iload_n ok_M_isRing rfl rfl ?_
            refine zw_iload_n ok_M_isRing rfl rfl ?_
            refine zw_Vip ok_M_isRing rfl ok_M_owesNow lk_M_226 (by decide) rfl rfl (Nat.le_of_ble_eq_true rfl) (kcb) ?_
            refine zw_if_le 70 ok_M_isRing rfl (by decide) (by omega) (fun h54 => ?_) (fun h54 => ?_)
            · refine zw_iconst ok_M_isRing rfl ?_
              exact zw_zret ok_M_isRing rfl rfl (by first | exact Or.inl rfl | exact Or.inr rfl | exact bi01 _) (⟨by first | rw [bi_t (by omega)] | rw [bi_f (by omega)], rfl⟩)
            · refine zw_aload_n ok_M_isRing rfl rfl ?_
              refine zw_iload_n ok_M_isRing rfl rfl ?_
              refine zw_iload_n ok_M_isRing rfl rfl ?_
              refine zw_Vip ok_M_isRing rfl ok_M_owesNow lk_M_226 (by decide) rfl rfl (Nat.le_of_ble_eq_true rfl) (kba) ?_
              refine zw_if_le 70 ok_M_isRing rfl (by decide) (by omega) (fun h63 => ?_) (fun h63 => ?_)
              · refine zw_iconst ok_M_isRing rfl ?_
                exact zw_zret ok_M_isRing rfl rfl (by first | exact Or.inl rfl | exact Or.inr rfl | exact bi01 _) (⟨by first | rw [bi_t (by omega)] | rw [bi_f (by omega)], rfl⟩)
              · refine zw_iconst ok_M_isRing rfl ?_
                refine zw_goto 71 ok_M_isRing rfl (by decide) ?_
                exact zw_zret ok_M_isRing rfl rfl (by first | exact Or.inl rfl | exact Or.inr rfl | exact bi01 _) (⟨by first | rw [bi_t (by omega)] | rw [bi_f (by omega)], rfl⟩)
    · refine zw_aload_n ok_M_isRing rfl rfl ?_
      refine zw_iload_n ok_M_isRing rfl rfl ?_
      refine zw_iload_n ok_M_isRing rfl rfl ?_
      refine zw_Vip ok_M_isRing rfl ok_M_owesNow lk_M_226 (by decide) rfl rfl (Nat.le_of_ble_eq_true rfl) (kca) ?_
      refine zw_if_le 31 ok_M_isRing rfl (by decide) (by omega) (fun h24 => ?_) (fun h24 => ?_)
      · refine zw_iconst ok_M_isRing rfl ?_
        refine zw_istore ok_M_isRing rfl rfl (by decide) ?_
        refine zw_iload ok_M_isRing rfl rfl ?_
        refine zw_if_ne 66 ok_M_isRing rfl (by decide) (by omega) (fun h36 => ?_) (fun h36 => ?_)
        · try (exfalso; omega)
          all_goals
            refine zw_iconst ok_M_isRing rfl ?_
            refine zw_goto 71 ok_M_isRing rfl (by decide) ?_
            exact zw_zret ok_M_isRing rfl rfl (by first | exact Or.inl rfl | exact Or.inr rfl | exact bi01 _) (⟨by first | rw [bi_t (by omega)] | rw [bi_f (by omega)], rfl⟩)
        · try (exfalso; omega)
          all_goals
            refine zw_aload_n ok_M_isRing rfl rfl ?_
            refine zw_iload_n ok_M_isRing rfl rfl ?_
            refine zw_iload_n ok_M_isRing rfl rfl ?_
            refine zw_Vip ok_M_isRing rfl ok_M_owesNow lk_M_226 (by decide) rfl rfl (Nat.le_of_ble_eq_true rfl) (kac) ?_
            refine zw_if_le 70 ok_M_isRing rfl (by decide) (by omega) (fun h45 => ?_) (fun h45 => ?_)
            · refine zw_iconst ok_M_isRing rfl ?_
              exact zw_zret ok_M_isRing rfl rfl (by first | exact Or.inl rfl | exact Or.inr rfl | exact bi01 _) (⟨by first | rw [bi_t (by omega)] | rw [bi_f (by omega)], rfl⟩)
            · refine zw_aload_n ok_M_isRing rfl rfl ?_
              refine zw_iload_n ok_M_isRing rfl rfl ?_
              refine zw_iload_n ok_M_isRing rfl rfl ?_
              refine zw_Vip ok_M_isRing rfl ok_M_owesNow lk_M_226 (by decide) rfl rfl (Nat.le_of_ble_eq_true rfl) (kcb) ?_
              refine zw_if_le 70 ok_M_isRing rfl (by decide) (by omega) (fun h54 => ?_) (fun h54 => ?_)
              · refine zw_iconst ok_M_isRing rfl ?_
                exact zw_zret ok_M_isRing rfl rfl (by first | exact Or.inl rfl | exact Or.inr rfl | exact bi01 _) (⟨by first | rw [bi_t (by omega)] | rw [bi_f (by omega)], rfl⟩)
              · refine zw_aload_n ok_M_isRing rfl rfl ?_
                refine zw_iload_n ok_M_isRing rfl rfl ?_
                refine zw_iload_n ok_M_isRing rfl rfl ?_
                refine zw_Vip ok_M_isRing rfl ok_M_owesNow lk_M_226 (by decide) rfl rfl (Nat.le_of_ble_eq_true rfl) (kba) ?_
                refine zw_if_le 70 ok_M_isRing rfl (by decide) (by omega) (fun h63 => ?_) (fun h63 => ?_)
                · refine zw_iconst ok_M_isRing rfl ?_
                  exact zw_zret ok_M_isRing rfl rfl (by first | exact Or.inl rfl | exact Or.inr rfl | exact bi01 _) (⟨by first | rw [bi_t (by omega)] | rw [bi_f (by omega)], rfl⟩)
                · refine zw_iconst ok_M_isRing rfl ?_
                  refine zw_goto 71 ok_M_isRing rfl (by decide) ?_
                  exact zw_zret ok_M_isRing rfl rfl (by first | exact Or.inl rfl | exact Or.inr rfl | exact bi01 _) (⟨by first | rw [bi_t (by omega)] | rw [bi_f (by omega)], rfl⟩)
      · refine zw_iconst ok_M_isRing rfl ?_
        refine zw_goto 32 ok_M_isRing rfl (by decide) ?_
        refine zw_istore ok_M_isRing rfl rfl (by decide) ?_
        refine zw_iload ok_M_isRing rfl rfl ?_
        refine zw_if_ne 66 ok_M_isRing rfl (by decide) (by omega) (fun h36 => ?_) (fun h36 => ?_)
        · try (exfalso; omega)
          all_goals
            refine zw_iconst ok_M_isRing rfl ?_
            refine zw_goto 71 ok_M_isRing rfl (by decide) ?_
            exact zw_zret ok_M_isRing rfl rfl (by first | exact Or.inl rfl | exact Or.inr rfl | exact bi01 _) (⟨by first | rw [bi_t (by omega)] | rw [bi_f (by omega)], rfl⟩)
        · try (exfalso; omega)
          all_goals
            refine zw_aload_n ok_M_isRing rfl rfl ?_
            refine zw_iload_n ok_M_isRing rfl rfl ?_
            refine zw_iload_n ok_M_isRing rfl rfl ?_
            refine zw_Vip ok_M_isRing rfl ok_M_owesNow lk_M_226 (by decide) rfl rfl (Nat.le_of_ble_eq_true rfl) (kac) ?_
            refine zw_if_le 70 ok_M_isRing rfl (by decide) (by omega) (fun h45 => ?_) (fun h45 => ?_)
            · refine zw_iconst ok_M_isRing rfl ?_
              exact zw_zret ok_M_isRing rfl rfl (by first | exact Or.inl rfl | exact Or.inr rfl | exact bi01 _) (⟨by first | rw [bi_t (by omega)] | rw [bi_f (by omega)], rfl⟩)
            · refine zw_aload_n ok_M_isRing rfl rfl ?_
              refine zw_iload_n ok_M_isRing rfl rfl ?_
              refine zw_iload_n ok_M_isRing rfl rfl ?_
              refine zw_Vip ok_M_isRing rfl ok_M_owesNow lk_M_226 (by decide) rfl rfl (Nat.le_of_ble_eq_true rfl) (kcb) ?_
              refine zw_if_le 70 ok_M_isRing rfl (by decide) (by omega) (fun h54 => ?_) (fun h54 => ?_)
              · refine zw_iconst ok_M_isRing rfl ?_
                exact zw_zret ok_M_isRing rfl rfl (by first | exact Or.inl rfl | exact Or.inr rfl | exact bi01 _) (⟨by first | rw [bi_t (by omega)] | rw [bi_f (by omega)], rfl⟩)
              · refine zw_aload_n ok_M_isRing rfl rfl ?_
                refine zw_iload_n ok_M_isRing rfl rfl ?_
                refine zw_iload_n ok_M_isRing rfl rfl ?_
                refine zw_Vip ok_M_isRing rfl ok_M_owesNow lk_M_226 (by decide) rfl rfl (Nat.le_of_ble_eq_true rfl) (kba) ?_
                refine zw_if_le 70 ok_M_isRing rfl (by decide) (by omega) (fun h63 => ?_) (fun h63 => ?_)
                · refine zw_iconst ok_M_isRing rfl ?_
                  exact zw_zret ok_M_isRing rfl rfl (by first | exact Or.inl rfl | exact Or.inr rfl | exact bi01 _) (⟨by first | rw [bi_t (by omega)] | rw [bi_f (by omega)], rfl⟩)
                · refine zw_iconst ok_M_isRing rfl ?_
                  refine zw_goto 71 ok_M_isRing rfl (by decide) ?_
                  exact zw_zret ok_M_isRing rfl rfl (by first | exact Or.inl rfl | exact Or.inr rfl | exact bi01 _) (⟨by first | rw [bi_t (by omega)] | rw [bi_f (by omega)], rfl⟩)
theorem rg_loop {x : zM} {t : zS} {h w : Int} (hb : MRb mem τ) (hC : okM mem) (hL : LR τ x t) : ∀ (k : Nat) (c : Int) (y : Int × Int), 0 ≤ c → c + k = 512 → (0 ≤ y.1 ∧ y.1 ≤ c) → AW m_M_ringsOf 103 [some (vr 48), some (vi h), some (vi w), some (vi (lp (rF τ t.1) k c y).1), some (vi (lp (rF τ t.1) k c y).2), none, none, none, none] [] (putM mem x) Q → AW m_M_ringsOf 13 [some (vr 48), some (vi h), some (vi w), some (vi y.1), some (vi y.2), some (vi c), none, none, none] [] (putM mem x) Q := by
  have hP := aP_b hb
  have eP := hb.2.1.1
  intro k
  induction k with
  | zero =>
    intro c y h0 h1 hy hx
    refine zw_iload ok_M_ringsOf rfl rfl ?_
    refine zw_sipush ok_M_ringsOf rfl (by decide) ?_
    refine zw_icmp_ge 103 ok_M_ringsOf rfl (by decide) (by omega) (fun h18 => ?_) (fun h18 => ?_)
    · exact zw_mask [true, true, true, true, true, false, false, false, false] rfl hx
    · exfalso; omega
  | succ k ih =>
    intro c y h0 h1 hy hx
    rw [lp_s] at hx
    have nx : ∀ z u1 u2 u3, z = rF τ t.1 c y → AW m_M_ringsOf 97 [some (vr 48), some (vi h), some (vi w), some (vi z.1), some (vi z.2), some (vi c), some (vi u1), some (vi u2), some (vi u3)] [] (putM mem x) Q := by
      intro z u1 u2 u3 hz
      subst hz
      have : 0 ≤ (rF τ t.1 c y).1 ∧ (rF τ t.1 c y).1 ≤ c + 1 := by unfold rF; split <;> (try dsimp only) <;> omega
      refine zw_iinc ok_M_ringsOf rfl rfl rfl (by decide) ?_
      refine zw_goto 13 ok_M_ringsOf rfl (by decide) ?_
      exact zw_mask [true, true, true, true, true, true, false, false, false] rfl (ih (c + 1) _ (by omega) (by omega) this hx)
    unfold rF at nx
    refine zw_iload ok_M_ringsOf rfl rfl ?_
    refine zw_sipush ok_M_ringsOf rfl (by decide) ?_
    refine zw_icmp_ge 103 ok_M_ringsOf rfl (by decide) (by omega) (fun h18 => ?_) (fun h18 => ?_)
    · exfalso; omega
    · refine zw_iload ok_M_ringsOf rfl rfl ?_
      refine zw_bipush ok_M_ringsOf rfl (by decide) ?_
      refine zw_idiv ok_M_ringsOf rfl (by omega) ?_
      rw [zdiv_nn (by omega) (by omega)]
      refine zw_istore ok_M_ringsOf rfl rfl (by decide) ?_
      refine zw_iload ok_M_ringsOf rfl rfl ?_
      refine zw_bipush ok_M_ringsOf rfl (by decide) ?_
      refine zw_idiv ok_M_ringsOf rfl (by omega) ?_
      rw [zdiv_nn (by omega) (by omega)]
      refine zw_bipush ok_M_ringsOf rfl (by decide) ?_
      refine zw_irem ok_M_ringsOf rfl (by omega) ?_
      rw [zrem_nn (by omega) (by omega)]
      refine zw_istore ok_M_ringsOf rfl rfl (by decide) ?_
      refine zw_iload ok_M_ringsOf rfl rfl ?_
      refine zw_bipush ok_M_ringsOf rfl (by decide) ?_
      refine zw_irem ok_M_ringsOf rfl (by omega) ?_
      rw [zrem_nn (by omega) (by omega)]
      refine zw_istore ok_M_ringsOf rfl rfl (by decide) ?_
      refine zw_iload ok_M_ringsOf rfl rfl ?_
      refine zw_iload ok_M_ringsOf rfl rfl ?_
      refine zw_icmp_ge 97 ok_M_ringsOf rfl (by decide) (by omega) (fun h49 => ?_) (fun h49 => ?_)
      · exact nx y _ _ _ (by rw [if_neg (fun z => by omega)])
      · refine zw_iload ok_M_ringsOf rfl rfl ?_
        refine zw_iload ok_M_ringsOf rfl rfl ?_
        refine zw_icmp_ge 97 ok_M_ringsOf rfl (by decide) (by omega) (fun h56 => ?_) (fun h56 => ?_)
        · exact nx y _ _ _ (by rw [if_neg (fun z => by omega)])
        · refine zw_iload ok_M_ringsOf rfl rfl ?_
          refine zw_aload_n ok_M_ringsOf rfl rfl ?_
          refine zw_geti ok_M_ringsOf rfl fl_M_109 rfl rfl ?_
          try simp only [rd_M18, rd_M19, rd_M20, rd_M21, rd_M59, rd_M60, rd_M61, rd_Mj4, rd_Mj7, rd_Mj9, rd_Mj11, rd_Mj13, rd_Mj22, rd_Mj23, rd_Mj24, rd_Mj27, rd_Mj30, rd_M_49, rd_M_50, rd_M_51, rd_M_52, rd_M_53, rd_M_54, rd_M_55, rd_M_56, rd_M_57, rd_M_58, rd_M_62, rd_M_63, rd_M_64, rd_M_65, wr_M18, wr_M19, wr_M20, wr_M21, wr_M59, wr_M60, wr_M61]
          rw [eP]
          refine zw_icmp_ge 97 ok_M_ringsOf rfl (by decide) (by omega) (fun h65 => ?_) (fun h65 => ?_)
          · exact nx y _ _ _ (by rw [if_neg (fun z => by omega)])
          · refine zw_aload_n ok_M_ringsOf rfl rfl ?_
            refine zw_iload ok_M_ringsOf rfl rfl ?_
            refine zw_iload ok_M_ringsOf rfl rfl ?_
            refine zw_iload ok_M_ringsOf rfl rfl ?_
            refine zw_Vbp ok_M_ringsOf rfl ok_M_isRing lk_M_238 (by decide) rfl rfl (Nat.le_of_ble_eq_true rfl) (ct_M_isRing hb hC hL (by omega) (by omega) (by omega) (by omega)) ?_
            refine zw_ifeq_b 97 ok_M_ringsOf rfl (by decide) (fun h78 => ?_) (fun h78 => ?_)
            · exact nx y _ _ _ (by rw [if_neg (fun z => by rw [h78] at z; exact absurd z.2 (by decide))])
            · refine zw_iload_n ok_M_ringsOf rfl rfl ?_
              refine zw_if_ne 90 ok_M_ringsOf rfl (by decide) (by omega) (fun h82 => ?_) (fun h82 => ?_)
              · refine zw_iload ok_M_ringsOf rfl rfl ?_
                refine zw_istore ok_M_ringsOf rfl rfl (by decide) ?_
                refine zw_iinc ok_M_ringsOf rfl rfl rfl (by decide) ?_
                first
                | exact nx (y.1 + 1, c) _ _ _ (by rw [if_pos ⟨by omega, h78⟩, if_pos h82])
                | exact nx (y.1 + 1, y.2) _ _ _ (by rw [if_pos ⟨by omega, h78⟩, if_neg h82])
              · refine zw_iload ok_M_ringsOf rfl rfl ?_
                refine zw_goto 92 ok_M_ringsOf rfl (by decide) ?_
                refine zw_istore ok_M_ringsOf rfl rfl (by decide) ?_
                refine zw_iinc ok_M_ringsOf rfl rfl rfl (by decide) ?_
                first
                | exact nx (y.1 + 1, c) _ _ _ (by rw [if_pos ⟨by omega, h78⟩, if_pos h82])
                | exact nx (y.1 + 1, y.2) _ _ _ (by rw [if_pos ⟨by omega, h78⟩, if_neg h82])
theorem ct_M_ringsOf {t w : Int} (h : MRv mem τ ol ff) (ht : 0 ≤ t ∧ t ≤ 11) (hw : 0 ≤ w ∧ w ≤ 1) : zCi m_M_ringsOf [vr 48, vi t, vi w] mem (if w = 0 then (rgS τ (aSim τ ol ff (t + 1).toNat).1).1 else (rgS τ (aSim τ ol ff (t + 1).toNat).1).2) (fun m2 => ∃ x, m2 = putM mem x) := by
  refine zCt.of [some (vr 48), some (vi t), some (vi w), none, none, none, none, none, none] ok_M_ringsOf (Nat.le_of_ble_eq_true rfl) rfl ?_
  have hP := aP_b h.1
  have e : rgS τ (aSim τ ol ff (t + 1).toNat).1 = lp (rF τ (aSim τ ol ff (t + 1).toNat).1) 512 0 (0, -1) := (rF_eq hP _).symm
  rw [e]
  have tl : ∀ x (y : Int × Int), AW m_M_ringsOf 103 [some (vr 48), some (vi t), some (vi w), some (vi y.1), some (vi y.2), none, none, none, none] [] (putM mem x) (fun r m2 => r = some (vi (if w = 0 then y.1 else y.2)) ∧ ∃ x, m2 = putM mem x) := by
    intro x y
    refine zw_iload_n ok_M_ringsOf rfl rfl ?_
    refine zw_if_ne 111 ok_M_ringsOf rfl (by decide) (by omega) (fun h104 => ?_) (fun h104 => ?_)
    · rw [if_neg h104]
      refine zw_iload ok_M_ringsOf rfl rfl ?_
      exact zw_iret ok_M_ringsOf rfl rfl (⟨rfl, x, rfl⟩)
    · rw [if_pos h104]
      refine zw_iload_n ok_M_ringsOf rfl rfl ?_
      refine zw_goto 113 ok_M_ringsOf rfl (by decide) ?_
      exact zw_iret ok_M_ringsOf rfl rfl (⟨rfl, x, rfl⟩)
  refine zw_aload_n ok_M_ringsOf rfl rfl ?_
  refine zw_iload_n ok_M_ringsOf rfl rfl ?_
  refine zw_Vv ok_M_ringsOf rfl ok_M_lives lk_M_216 (by decide) rfl rfl (Nat.le_of_ble_eq_true rfl) (ct_sim h ht) (fun m2 h2 => ?_)
  obtain ⟨x, rfl, hL⟩ := h2
  refine zw_iconst ok_M_ringsOf rfl ?_
  refine zw_istore_n ok_M_ringsOf rfl rfl (by decide) ?_
  refine zw_iconst ok_M_ringsOf rfl ?_
  refine zw_istore ok_M_ringsOf rfl rfl (by decide) ?_
  refine zw_iconst ok_M_ringsOf rfl ?_
  refine zw_istore ok_M_ringsOf rfl rfl (by decide) ?_
  exact rg_loop h.1 (okM_v h) hL 512 0 (0, -1) (by omega) (by omega) (by decide) (tl x _)
theorem ct_M_rings {h w : Int} (hI : MI mem τ) (hh : zR h) (hw : zR w) : zCi m_M_rings [vr 48, vi h, vi w] mem (qRings τ h w) (fun m2 => MI m2 τ ∧ ref47 mem m2) := by
  refine zCt.of [some (vr 48), some (vi h), some (vi w)] ok_M_rings (Nat.le_of_ble_eq_true rfl) rfl ?_
  unfold qRings
  by_cases hg : (0 ≤ h ∧ h ≤ 11) ∧ (0 ≤ w ∧ w ≤ 1)
  · rw [if_pos hg]
    refine zw_aload_n ok_M_rings rfl rfl ?_
    refine zw_Vv ok_M_rings rfl ok_M_reads lk_M_140 (by decide) rfl rfl (Nat.le_of_ble_eq_true rfl) (ct_M_reads hI) (fun m1 h1 => ?_)
    refine zw_iload_n ok_M_rings rfl rfl ?_
    refine zw_Sbp ok_M_rings rfl ok_M_isHour lk_M_157 (by decide) rfl (Nat.le_of_ble_eq_true rfl) (ct_M_isHour (by omega)) ?_
    first | refine zw_ifeq_d 27 ok_M_rings rfl (by decide) (fun h8 => ?_) (fun h8 => ?_) | refine zw_ifeq_b 27 ok_M_rings rfl (by decide) (fun h8 => ?_) (fun h8 => ?_) | refine zw_if_eq 27 ok_M_rings rfl (by decide) (by omega) (fun h8 => ?_) (fun h8 => ?_)
    · exact absurd hg.1 h8
    · refine zw_iload_n ok_M_rings rfl rfl ?_
      refine zw_Sbp ok_M_rings rfl ok_M_isTwo lk_M_98 (by decide) rfl (Nat.le_of_ble_eq_true rfl) (ct_M_isTwo (by omega)) ?_
      first | refine zw_ifeq_d 27 ok_M_rings rfl (by decide) (fun h15 => ?_) (fun h15 => ?_) | refine zw_ifeq_b 27 ok_M_rings rfl (by decide) (fun h15 => ?_) (fun h15 => ?_) | refine zw_if_eq 27 ok_M_rings rfl (by decide) (by omega) (fun h15 => ?_) (fun h15 => ?_)
      · exact absurd hg.2 h15
      · refine zw_aload_n ok_M_rings rfl rfl ?_
        refine zw_iload_n ok_M_rings rfl rfl ?_
        refine zw_iload_n ok_M_rings rfl rfl ?_
        refine zw_Vi ok_M_rings rfl ok_M_ringsOf lk_M_241 (by decide) rfl rfl (Nat.le_of_ble_eq_true rfl) (ct_M_ringsOf h1.1.2.1 hg.1 hg.2) (fun m21 h21 => ?_)
        obtain ⟨x, rfl⟩ := h21
        refine zw_goto 29 ok_M_rings rfl (by decide) ?_
        exact zw_iret ok_M_rings rfl rfl (⟨rfl, (putR h1.1).1, (h1.2.r47 (by decide)).tr put47⟩)
  · rw [if_neg hg]
    refine zw_aload_n ok_M_rings rfl rfl ?_
    refine zw_Vv ok_M_rings rfl ok_M_reads lk_M_140 (by decide) rfl rfl (Nat.le_of_ble_eq_true rfl) (ct_M_reads hI) (fun m1 h1 => ?_)
    refine zw_iload_n ok_M_rings rfl rfl ?_
    refine zw_Sbp ok_M_rings rfl ok_M_isHour lk_M_157 (by decide) rfl (Nat.le_of_ble_eq_true rfl) (ct_M_isHour (by omega)) ?_
    first | refine zw_ifeq_d 27 ok_M_rings rfl (by decide) (fun h8 => ?_) (fun h8 => ?_) | refine zw_ifeq_b 27 ok_M_rings rfl (by decide) (fun h8 => ?_) (fun h8 => ?_) | refine zw_if_eq 27 ok_M_rings rfl (by decide) (by omega) (fun h8 => ?_) (fun h8 => ?_)
    · refine zw_bipush ok_M_rings rfl (by decide) ?_
      exact zw_iret ok_M_rings rfl rfl (⟨rfl, MIr h1.2 hI⟩)
    · refine zw_iload_n ok_M_rings rfl rfl ?_
      refine zw_Sbp ok_M_rings rfl ok_M_isTwo lk_M_98 (by decide) rfl (Nat.le_of_ble_eq_true rfl) (ct_M_isTwo (by omega)) ?_
      first | refine zw_ifeq_d 27 ok_M_rings rfl (by decide) (fun h15 => ?_) (fun h15 => ?_) | refine zw_ifeq_b 27 ok_M_rings rfl (by decide) (fun h15 => ?_) (fun h15 => ?_) | refine zw_if_eq 27 ok_M_rings rfl (by decide) (by omega) (fun h15 => ?_) (fun h15 => ?_)
      · refine zw_bipush ok_M_rings rfl (by decide) ?_
        exact zw_iret ok_M_rings rfl rfl (⟨rfl, MIr h1.2 hI⟩)
      · exact absurd ⟨h8, h15⟩ hg
end
