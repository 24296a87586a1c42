/-! ===== the reference's day: streets, who is seen, who bows how low ===== -/
/-- bounds of what the reference's day reads -/
def okM (mem : zMem) : Prop :=
  (0 ≤ mem 48 7 ∧ mem 48 7 ≤ 8) ∧
  (∀ p, 0 ≤ p → p < mem 48 7 → (0 ≤ mem 55 (3 * p) ∧ mem 55 (3 * p) ≤ 2) ∧ (0 ≤ mem 55 (3 * p + 1) ∧ mem 55 (3 * p + 1) ≤ 99) ∧ (1 ≤ mem 55 (3 * p + 2) ∧ mem 55 (3 * p + 2) ≤ 9)) ∧
  ((0 ≤ mem 48 13 ∧ mem 48 13 ≤ 10) ∧ ∀ u, 0 ≤ u → u < mem 48 13 → (0 ≤ mem 58 (2 * u) ∧ mem 58 (2 * u) ≤ 11) ∧ (0 ≤ mem 58 (2 * u + 1) ∧ mem 58 (2 * u + 1) ≤ 7)) ∧
  ((0 ≤ mem 48 11 ∧ mem 48 11 ≤ 12) ∧ ∀ k, 0 ≤ k → k < mem 48 11 → ((0 ≤ mem 57 (3 * k) ∧ mem 57 (3 * k) ≤ 7) ∧ (0 ≤ mem 57 (3 * k + 1) ∧ mem 57 (3 * k + 1) ≤ 7)) ∧ mem 57 (3 * k) ≠ mem 57 (3 * k + 1) ∧ (1 ≤ mem 57 (3 * k + 2) ∧ mem 57 (3 * k + 2) ≤ 99)) ∧
  ((-1 ≤ mem 48 22 ∧ mem 48 22 ≤ 11) ∧ (-1 ≤ mem 48 24 ∧ mem 48 24 ≤ 7)) ∧
  (∀ i, 0 ≤ i → i < 96 → -1 ≤ mem 56 i ∧ mem 56 i ≤ 7) ∧ (mem 48 24 ≠ -1 → ∀ h, 0 ≤ h → h < 3 → 0 ≤ mem 62 h ∧ mem 62 h ≤ 8)
def srM (mem : zMem) (h p : Int) : Int := if p = mem 48 24 ∧ h < 3 then (if mem 62 h = 8 then -1 else mem 62 h) else mem 56 (12 * p + h)
def hdM (mem : zMem) (h p : Int) : Bool := hidB (mem 48 23) (fun u => mem 58 (2 * u)) (fun u => mem 58 (2 * u + 1)) h p (mem 48 13).toNat 0
/-- the reference's day keeps its bounds -/
def mInv (P : Int) (x : zM) : Prop := (∀ a b, 0 ≤ a → a < b → b < P → (0 ≤ x.1 (8 * a + b) ∧ x.1 (8 * a + b) ≤ 99) ∧ (x.1 (8 * a + b) ≠ 0 → x.2.1 (8 * a + b) = 0 ∨ x.2.1 (8 * a + b) = 1)) ∧ (∀ p, 0 ≤ p → p < P → 0 ≤ x.2.2.1 p ∧ x.2.2.1 p ≤ 99) ∧ (0 ≤ x.2.2.2.1 ∧ x.2.2.2.1 < 256)
def lsM (mem : zMem) (x : zM) (a b : Int) : Bool := if 0 < x.1 (8 * a + b) then decide (x.2.1 (8 * a + b) = 0) else decide (mem 55 (3 * a) ≠ 1 ∨ mem 55 (3 * b) = 1)
def hwM (mem : zMem) (x : zM) (a b w : Int) : Int := if x.1 (8 * a + b) = 0 then 1 else x.1 (8 * a + b) + mem 55 (3 * w + 2) + (if mem 55 (3 * w) = 1 then 1 else 0)
def mayM (mem : zMem) (g a b : Int) : Bool := decide ((mem 55 (3 * a) ≠ 2 ∧ mem 55 (3 * b) ≠ 2) ∧ tb g a.toNat = false ∧ tb g b.toNat = false)
section
variable {mem : zMem} {Q : Option zVal → zMem → Prop}
theorem srM_r {h p : Int} (hC : okM mem) (hh : 0 ≤ h ∧ h ≤ 11) (hp : 0 ≤ p ∧ p < 8) : -1 ≤ srM mem h p ∧ srM mem h p ≤ 7 := by
  obtain ⟨-, -, -, -, -, hw, hs⟩ := hC
  unfold srM
  split
  · rename_i e
    have := hs (by omega) h hh.1 e.2
    split <;> omega
  · exact hw _ (by omega) (by omega)
theorem ct_M_streetOf {h p : Int} (hC : okM mem) (hh : 0 ≤ h ∧ h ≤ 11) (hp : 0 ≤ p ∧ p < 8) : zCip m_M_streetOf [vr 48, vi h, vi p] mem (srM mem h p) := by
  refine zCt.of [some (vr 48), some (vi h), some (vi p)] ok_M_streetOf (Nat.le_of_ble_eq_true rfl) rfl ?_
  have h24 := hC.2.2.2.2.1.2
  have hs := hC.2.2.2.2.2.2
  unfold srM
  refine zw_iload_n ok_M_streetOf rfl rfl ?_
  refine zw_aload_n ok_M_streetOf rfl rfl ?_
  refine zw_geti ok_M_streetOf rfl fl_M_65 rfl rfl ?_
  refine zw_icmp_ne 35 ok_M_streetOf rfl (by decide) (by omega) (fun h5 => ?_) (fun h5 => ?_)
  · rw [if_neg (fun z => h5 z.1)]
    refine zw_aload_n ok_M_streetOf rfl rfl ?_
    refine zw_getr ok_M_streetOf rfl fl_M_31 rfl rfl ?_
    refine zw_bipush ok_M_streetOf rfl (by decide) ?_
    refine zw_iload_n ok_M_streetOf rfl rfl ?_
    refine zw_imul ok_M_streetOf rfl ?_
    refine zw_iload_n ok_M_streetOf rfl rfl ?_
    refine zw_iadd ok_M_streetOf rfl ?_
    refine zw_iald ok_M_streetOf rfl rfl (by omega) ?_
    exact zw_iret ok_M_streetOf rfl rfl (⟨rfl, rfl⟩)
  · refine zw_iload_n ok_M_streetOf rfl rfl ?_
    refine zw_iconst ok_M_streetOf rfl ?_
    refine zw_icmp_ge 35 ok_M_streetOf rfl (by decide) (by omega) (fun h10 => ?_) (fun h10 => ?_)
    · rw [if_neg (fun z => by omega)]
      refine zw_aload_n ok_M_streetOf rfl rfl ?_
      refine zw_getr ok_M_streetOf rfl fl_M_31 rfl rfl ?_
      refine zw_bipush ok_M_streetOf rfl (by decide) ?_
      refine zw_iload_n ok_M_streetOf rfl rfl ?_
      refine zw_imul ok_M_streetOf rfl ?_
      refine zw_iload_n ok_M_streetOf rfl rfl ?_
      refine zw_iadd ok_M_streetOf rfl ?_
      refine zw_iald ok_M_streetOf rfl rfl (by omega) ?_
      exact zw_iret ok_M_streetOf rfl rfl (⟨rfl, rfl⟩)
    · rw [if_pos ⟨h5, by omega⟩]
      have := hs (by omega) h (by omega) (by omega)
      refine zw_aload_n ok_M_streetOf rfl rfl ?_
      refine zw_getr ok_M_streetOf rfl fl_M_49 rfl rfl ?_
      refine zw_iload_n ok_M_streetOf rfl rfl ?_
      refine zw_iald ok_M_streetOf rfl rfl (by omega) ?_
      refine zw_bipush ok_M_streetOf rfl (by decide) ?_
      refine zw_icmp_ne 28 ok_M_streetOf rfl (by decide) (by omega) (fun h21 => ?_) (fun h21 => ?_)
      · rw [if_neg h21]
        refine zw_aload_n ok_M_streetOf rfl rfl ?_
        refine zw_getr ok_M_streetOf rfl fl_M_49 rfl rfl ?_
        refine zw_iload_n ok_M_streetOf rfl rfl ?_
        refine zw_iald ok_M_streetOf rfl rfl (by omega) ?_
        exact zw_iret ok_M_streetOf rfl rfl (⟨rfl, rfl⟩)
      · rw [if_pos h21]
        refine zw_iconst ok_M_streetOf rfl ?_
        refine zw_goto 34 ok_M_streetOf rfl (by decide) ?_
        exact zw_iret ok_M_streetOf rfl rfl (⟨rfl, rfl⟩)
theorem seen_loop {h p : Int} (hC : okM mem) (hh : 0 ≤ h ∧ h ≤ 11) (hp : 0 ≤ p ∧ p < 8) : ∀ (k : Nat) (u : Int) (b : Bool), 0 ≤ u → u + k = mem 48 13 → (∀ r, r = (b && !(hidB (mem 48 23) (fun u => mem 58 (2 * u)) (fun u => mem 58 (2 * u + 1)) h p k u)) → Q (some (vi (bi r))) mem) → AW m_M_isSeenOn 5 [some (vr 48), some (vi h), some (vi p), some (vi (bi b)), some (vi u)] [] mem Q := by
  have h13 := hC.2.2.1
  intro k
  induction k with
  | zero =>
    intro u b h0 h1 hx
    refine zw_iload ok_M_isSeenOn rfl rfl ?_
    refine zw_aload_n ok_M_isSeenOn rfl rfl ?_
    refine zw_geti ok_M_isSeenOn rfl fl_M_154 rfl rfl ?_
    refine zw_icmp_ge 70 ok_M_isSeenOn rfl (by decide) (by omega) (fun h11 => ?_) (fun h11 => ?_)
    · refine zw_iload_n ok_M_isSeenOn rfl rfl ?_
      exact zw_zret ok_M_isSeenOn rfl rfl (by first | exact Or.inl rfl | exact Or.inr rfl | exact bi01 _) (hx b (by simp [hidB]))
    · exfalso; omega
  | succ k ih =>
    intro u b h0 h1 hx
    have hu := h13.2 u h0 (by omega)
    unfold hidB at hx
    refine zw_iload ok_M_isSeenOn rfl rfl ?_
    refine zw_aload_n ok_M_isSeenOn rfl rfl ?_
    refine zw_geti ok_M_isSeenOn rfl fl_M_154 rfl rfl ?_
    refine zw_icmp_ge 70 ok_M_isSeenOn rfl (by decide) (by omega) (fun h11 => ?_) (fun h11 => ?_)
    · exfalso; omega
    · refine zw_iload_n ok_M_isSeenOn rfl rfl ?_
      refine zw_ifeq_b 62 ok_M_isSeenOn rfl (by decide) (fun h15 => ?_) (fun h15 => ?_)
      · refine zw_iconst ok_M_isSeenOn rfl ?_
        refine zw_istore_n ok_M_isSeenOn rfl rfl (by decide) ?_
        refine zw_iinc ok_M_isSeenOn rfl rfl rfl (by decide) ?_
        refine zw_goto 5 ok_M_isSeenOn rfl (by decide) ?_
        first
        | exact ih (u + 1) true (by omega) (by omega) (fun r hr => hx r (by simp [*]))
        | exact ih (u + 1) false (by omega) (by omega) (fun r hr => hx r (by simp [*]))
      · refine zw_aload_n ok_M_isSeenOn rfl rfl ?_
        refine zw_geti ok_M_isSeenOn rfl fl_M_169 rfl rfl ?_
        refine zw_iload ok_M_isSeenOn rfl rfl ?_
        refine zw_Sbp ok_M_isSeenOn rfl ok_M_isIn lk_M_172 (by decide) rfl (Nat.le_of_ble_eq_true rfl) (ct_M_isIn (by omega)) ?_
        refine zw_ifne_b 58 ok_M_isSeenOn rfl (by decide) (fun h27 => ?_) (fun h27 => ?_)
        · refine zw_iconst ok_M_isSeenOn rfl ?_
          refine zw_goto 63 ok_M_isSeenOn rfl (by decide) ?_
          refine zw_istore_n ok_M_isSeenOn rfl rfl (by decide) ?_
          refine zw_iinc ok_M_isSeenOn rfl rfl rfl (by decide) ?_
          refine zw_goto 5 ok_M_isSeenOn rfl (by decide) ?_
          first
          | exact ih (u + 1) true (by omega) (by omega) (fun r hr => hx r (by simp [*]))
          | exact ih (u + 1) false (by omega) (by omega) (fun r hr => hx r (by simp [*]))
        · refine zw_aload_n ok_M_isSeenOn rfl rfl ?_
          refine zw_getr ok_M_isSeenOn rfl fl_M_37 rfl rfl ?_
          refine zw_iconst ok_M_isSeenOn rfl ?_
          refine zw_iload ok_M_isSeenOn rfl rfl ?_
          refine zw_imul ok_M_isSeenOn rfl ?_
          refine zw_iald ok_M_isSeenOn rfl rfl (by omega) ?_
          refine zw_iload_n ok_M_isSeenOn rfl rfl ?_
          refine zw_icmp_ne 58 ok_M_isSeenOn rfl (by decide) (by omega) (fun h40 => ?_) (fun h40 => ?_)
          · refine zw_iconst ok_M_isSeenOn rfl ?_
            refine zw_goto 63 ok_M_isSeenOn rfl (by decide) ?_
            refine zw_istore_n ok_M_isSeenOn rfl rfl (by decide) ?_
            refine zw_iinc ok_M_isSeenOn rfl rfl rfl (by decide) ?_
            refine zw_goto 5 ok_M_isSeenOn rfl (by decide) ?_
            first
            | exact ih (u + 1) true (by omega) (by omega) (fun r hr => hx r (by simp [*]))
            | exact ih (u + 1) false (by omega) (by omega) (fun r hr => hx r (by simp [*]))
          · refine zw_aload_n ok_M_isSeenOn rfl rfl ?_
            refine zw_getr ok_M_isSeenOn rfl fl_M_37 rfl rfl ?_
            refine zw_iconst ok_M_isSeenOn rfl ?_
            refine zw_iload ok_M_isSeenOn rfl rfl ?_
            refine zw_imul ok_M_isSeenOn rfl ?_
            refine zw_iconst ok_M_isSeenOn rfl ?_
            refine zw_iadd ok_M_isSeenOn rfl ?_
            refine zw_iald ok_M_isSeenOn rfl rfl (by omega) ?_
            refine zw_iload_n ok_M_isSeenOn rfl rfl ?_
            refine zw_icmp_eq 62 ok_M_isSeenOn rfl (by decide) (by omega) (fun h55 => ?_) (fun h55 => ?_)
            · refine zw_iconst ok_M_isSeenOn rfl ?_
              refine zw_istore_n ok_M_isSeenOn rfl rfl (by decide) ?_
              refine zw_iinc ok_M_isSeenOn rfl rfl rfl (by decide) ?_
              refine zw_goto 5 ok_M_isSeenOn rfl (by decide) ?_
              first
              | exact ih (u + 1) true (by omega) (by omega) (fun r hr => hx r (by simp [*]))
              | exact ih (u + 1) false (by omega) (by omega) (fun r hr => hx r (by simp [*]))
            · refine zw_iconst ok_M_isSeenOn rfl ?_
              refine zw_goto 63 ok_M_isSeenOn rfl (by decide) ?_
              refine zw_istore_n ok_M_isSeenOn rfl rfl (by decide) ?_
              refine zw_iinc ok_M_isSeenOn rfl rfl rfl (by decide) ?_
              refine zw_goto 5 ok_M_isSeenOn rfl (by decide) ?_
              first
              | exact ih (u + 1) true (by omega) (by omega) (fun r hr => hx r (by simp [*]))
              | exact ih (u + 1) false (by omega) (by omega) (fun r hr => hx r (by simp [*]))
theorem ct_M_isSeenOn {h p : Int} (hC : okM mem) (hh : 0 ≤ h ∧ h ≤ 11) (hp : 0 ≤ p ∧ p < 8) : zCbp m_M_isSeenOn [vr 48, vi h, vi p] mem (!(hdM mem h p)) := by
  refine zCt.of [some (vr 48), some (vi h), some (vi p), none, none] ok_M_isSeenOn (Nat.le_of_ble_eq_true rfl) rfl ?_
  have h13 := hC.2.2.1.1
  refine zw_iconst ok_M_isSeenOn rfl ?_
  refine zw_istore_n ok_M_isSeenOn rfl rfl (by decide) ?_
  refine zw_iconst ok_M_isSeenOn rfl ?_
  refine zw_istore ok_M_isSeenOn rfl rfl (by decide) ?_
  exact seen_loop hC hh hp (mem 48 13).toNat 0 true (by omega) (by omega) (fun r hr => ⟨by rw [hr]; rfl, rfl⟩)
theorem ct_M_isClergy {p : Int} (hp : 0 ≤ p ∧ p < 8) (hk : 0 ≤ mem 55 (3 * p) ∧ mem 55 (3 * p) ≤ 2) : zCbp m_M_isClergy [vr 48, vi p] mem (decide (mem 55 (3 * p) = 2)) := by
  refine zCt.of [some (vr 48), some (vi p)] ok_M_isClergy (Nat.le_of_ble_eq_true rfl) rfl ?_
  refine zw_aload_n ok_M_isClergy rfl rfl ?_
  refine zw_getr ok_M_isClergy rfl fl_M_28 rfl rfl ?_
  refine zw_iconst ok_M_isClergy rfl ?_
  refine zw_iload_n ok_M_isClergy rfl rfl ?_
  refine zw_imul ok_M_isClergy rfl ?_
  refine zw_iald ok_M_isClergy rfl rfl (by omega) ?_
  refine zw_iconst ok_M_isClergy rfl ?_
  refine zw_icmp_ne 16 ok_M_isClergy rfl (by decide) (by omega) (fun h9 => ?_) (fun h9 => ?_)
  · refine zw_iconst ok_M_isClergy rfl ?_
    exact zw_zret ok_M_isClergy rfl rfl (by first | exact Or.inl rfl | exact Or.inr rfl | exact bi01 _) (⟨by first | rw [bi_t (by omega)] | rw [bi_f (by omega)], rfl⟩)
  · refine zw_iconst ok_M_isClergy rfl ?_
    refine zw_goto 17 ok_M_isClergy rfl (by decide) ?_
    exact zw_zret ok_M_isClergy rfl rfl (by first | exact Or.inl rfl | exact Or.inr rfl | exact bi01 _) (⟨by first | rw [bi_t (by omega)] | rw [bi_f (by omega)], rfl⟩)
theorem ct_M_may {a b : Int} {x : zM} (hC : okM mem) (ha : 0 ≤ a ∧ a < mem 48 7) (hb : 0 ≤ b ∧ b < mem 48 7) : zCbp m_M_may [vr 48, vi a, vi b] (putM mem x) (mayM mem x.2.2.2.1 a b) := by
  refine zCt.of [some (vr 48), some (vi a), some (vi b)] ok_M_may (Nat.le_of_ble_eq_true rfl) rfl ?_
  obtain ⟨la, lb, mo, g, n, fh, fw⟩ := x
  have hP := hC.1
  have ka := (hC.2.1 a ha.1 ha.2).1
  have kb := (hC.2.1 b hb.1 hb.2).1
  unfold mayM
  refine zw_aload_n ok_M_may rfl rfl ?_
  refine zw_iload_n ok_M_may rfl rfl ?_
  refine zw_Vbp ok_M_may rfl ok_M_isClergy lk_M_194 (by decide) rfl rfl (Nat.le_of_ble_eq_true rfl) (ct_M_isClergy (mem := putM mem (la, lb, mo, g, n, fh, fw)) (by omega) ka) ?_
  first | refine zw_ifne_d 42 ok_M_may rfl (by decide) (fun h5 => ?_) (fun h5 => ?_) | refine zw_ifne_b 42 ok_M_may rfl (by decide) (fun h5 => ?_) (fun h5 => ?_) | refine zw_if_ne 42 ok_M_may rfl (by decide) (by omega) (fun h5 => ?_) (fun h5 => ?_)
  · have h5 : mem 55 (3 * a) = 2 := h5
    refine zw_iconst ok_M_may rfl ?_
    exact zw_zret ok_M_may rfl rfl (by first | exact Or.inl rfl | exact Or.inr rfl | exact bi01 _) (⟨by first | rw [bi_t ⟨⟨by assumption, by assumption⟩, by assumption, by assumption⟩] | rw [bi_f (by intro z; simp [*] at z)], rfl⟩)
  · have h5 : ¬ mem 55 (3 * a) = 2 := h5
    refine zw_aload_n ok_M_may rfl rfl ?_
    refine zw_iload_n ok_M_may rfl rfl ?_
    refine zw_Vbp ok_M_may rfl ok_M_isClergy lk_M_194 (by decide) rfl rfl (Nat.le_of_ble_eq_true rfl) (ct_M_isClergy (mem := putM mem (la, lb, mo, g, n, fh, fw)) (by omega) kb) ?_
    first | refine zw_ifne_d 42 ok_M_may rfl (by decide) (fun h13 => ?_) (fun h13 => ?_) | refine zw_ifne_b 42 ok_M_may rfl (by decide) (fun h13 => ?_) (fun h13 => ?_) | refine zw_if_ne 42 ok_M_may rfl (by decide) (by omega) (fun h13 => ?_) (fun h13 => ?_)
    · have h13 : mem 55 (3 * b) = 2 := h13
      refine zw_iconst ok_M_may rfl ?_
      exact zw_zret ok_M_may rfl rfl (by first | exact Or.inl rfl | exact Or.inr rfl | exact bi01 _) (⟨by first | rw [bi_t ⟨⟨by assumption, by assumption⟩, by assumption, by assumption⟩] | rw [bi_f (by intro z; simp [*] at z)], rfl⟩)
    · have h13 : ¬ mem 55 (3 * b) = 2 := h13
      refine zw_aload_n ok_M_may rfl rfl ?_
      refine zw_geti ok_M_may rfl fl_M_182 rfl rfl ?_
      try simp only [rd_M18, rd_M19, rd_M20, rd_M21, rd_M59, rd_M60, rd_M61, rd_Mj4, rd_Mj7, rd_Mj9, rd_Mj11, rd_Mj13, rd_Mj22, rd_Mj23, rd_Mj24, rd_Mj27, rd_Mj30, rd_M_49, rd_M_50, rd_M_51, rd_M_52, rd_M_53, rd_M_54, rd_M_55, rd_M_56, rd_M_57, rd_M_58, rd_M_62, rd_M_63, rd_M_64, rd_M_65, wr_M18, wr_M19, wr_M20, wr_M21, wr_M59, wr_M60, wr_M61]
      refine zw_iload_n ok_M_may rfl rfl ?_
      refine zw_Sbp ok_M_may rfl ok_M_isIn lk_M_172 (by decide) rfl (Nat.le_of_ble_eq_true rfl) (ct_M_isIn (by omega)) ?_
      refine zw_ifne_b 42 ok_M_may rfl (by decide) (fun h24 => ?_) (fun h24 => ?_)
      · refine zw_iconst ok_M_may rfl ?_
        exact zw_zret ok_M_may rfl rfl (by first | exact Or.inl rfl | exact Or.inr rfl | exact bi01 _) (⟨by first | rw [bi_t ⟨⟨by assumption, by assumption⟩, by assumption, by assumption⟩] | rw [bi_f (by intro z; simp [*] at z)], rfl⟩)
      · refine zw_aload_n ok_M_may rfl rfl ?_
        refine zw_geti ok_M_may rfl fl_M_182 rfl rfl ?_
        try simp only [rd_M18, rd_M19, rd_M20, rd_M21, rd_M59, rd_M60, rd_M61, rd_Mj4, rd_Mj7, rd_Mj9, rd_Mj11, rd_Mj13, rd_Mj22, rd_Mj23, rd_Mj24, rd_Mj27, rd_Mj30, rd_M_49, rd_M_50, rd_M_51, rd_M_52, rd_M_53, rd_M_54, rd_M_55, rd_M_56, rd_M_57, rd_M_58, rd_M_62, rd_M_63, rd_M_64, rd_M_65, wr_M18, wr_M19, wr_M20, wr_M21, wr_M59, wr_M60, wr_M61]
        refine zw_iload_n ok_M_may rfl rfl ?_
        refine zw_Sbp ok_M_may rfl ok_M_isIn lk_M_172 (by decide) rfl (Nat.le_of_ble_eq_true rfl) (ct_M_isIn (by omega)) ?_
        refine zw_ifne_b 42 ok_M_may rfl (by decide) (fun h35 => ?_) (fun h35 => ?_)
        · refine zw_iconst ok_M_may rfl ?_
          exact zw_zret ok_M_may rfl rfl (by first | exact Or.inl rfl | exact Or.inr rfl | exact bi01 _) (⟨by first | rw [bi_t ⟨⟨by assumption, by assumption⟩, by assumption, by assumption⟩] | rw [bi_f (by intro z; simp [*] at z)], rfl⟩)
        · refine zw_iconst ok_M_may rfl ?_
          refine zw_goto 43 ok_M_may rfl (by decide) ?_
          exact zw_zret ok_M_may rfl rfl (by first | exact Or.inl rfl | exact Or.inr rfl | exact bi01 _) (⟨by first | rw [bi_t ⟨⟨by assumption, by assumption⟩, by assumption, by assumption⟩] | rw [bi_f (by intro z; simp [*] at z)], rfl⟩)
theorem ct_M_lessBows {a b : Int} {x : zM} (hC : okM mem) (ha : 0 ≤ a) (hab : a < b) (hb : b < mem 48 7) (hx : mInv (mem 48 7) x) : zCbp m_M_lessBows [vr 48, vi a, vi b] (putM mem x) (lsM mem x a b) := by
  refine zCt.of [some (vr 48), some (vi a), some (vi b)] ok_M_lessBows (Nat.le_of_ble_eq_true rfl) rfl ?_
  obtain ⟨la, lb, mo, g, n, fh, fw⟩ := x
  have hP := hC.1
  have ka := (hC.2.1 a ha (by omega)).1
  have kb := (hC.2.1 b (by omega) hb).1
  have hl := hx.1 a b ha hab hb
  have hl1 : 0 ≤ la (8 * a + b) ∧ la (8 * a + b) ≤ 99 := hl.1
  have hl2 : la (8 * a + b) ≠ 0 → lb (8 * a + b) = 0 ∨ lb (8 * a + b) = 1 := hl.2
  show AW _ _ _ _ _ (fun r m2 => r = some (vi (bi (if 0 < la (8 * a + b) then decide (lb (8 * a + b) = 0) else decide (mem 55 (3 * a) ≠ 1 ∨ mem 55 (3 * b) = 1)))) ∧ m2 = putM mem (la, lb, mo, g, n, fh, fw))
  refine zw_aload_n ok_M_lessBows rfl rfl ?_
  refine zw_getr ok_M_lessBows rfl fl_M_40 rfl rfl ?_
  refine zw_bipush ok_M_lessBows rfl (by decide) ?_
  refine zw_iload_n ok_M_lessBows rfl rfl ?_
  refine zw_imul ok_M_lessBows rfl ?_
  refine zw_iload_n ok_M_lessBows rfl rfl ?_
  refine zw_iadd ok_M_lessBows rfl ?_
  refine zw_iald ok_M_lessBows rfl rfl (by omega) ?_
  try simp only [rd_M18, rd_M19, rd_M20, rd_M21, rd_M59, rd_M60, rd_M61, rd_Mj4, rd_Mj7, rd_Mj9, rd_Mj11, rd_Mj13, rd_Mj22, rd_Mj23, rd_Mj24, rd_Mj27, rd_Mj30, rd_M_49, rd_M_50, rd_M_51, rd_M_52, rd_M_53, rd_M_54, rd_M_55, rd_M_56, rd_M_57, rd_M_58, rd_M_62, rd_M_63, rd_M_64, rd_M_65, wr_M18, wr_M19, wr_M20, wr_M21, wr_M59, wr_M60, wr_M61]
  refine zw_if_le 34 ok_M_lessBows rfl (by decide) (by omega) (fun h11 => ?_) (fun h11 => ?_)
  · rw [if_neg (by omega)]
    refine zw_aload_n ok_M_lessBows rfl rfl ?_
    refine zw_getr ok_M_lessBows rfl fl_M_28 rfl rfl ?_
    refine zw_iconst ok_M_lessBows rfl ?_
    refine zw_iload_n ok_M_lessBows rfl rfl ?_
    refine zw_imul ok_M_lessBows rfl ?_
    refine zw_iald ok_M_lessBows rfl rfl (by omega) ?_
    try simp only [rd_M18, rd_M19, rd_M20, rd_M21, rd_M59, rd_M60, rd_M61, rd_Mj4, rd_Mj7, rd_Mj9, rd_Mj11, rd_Mj13, rd_Mj22, rd_Mj23, rd_Mj24, rd_Mj27, rd_Mj30, rd_M_49, rd_M_50, rd_M_51, rd_M_52, rd_M_53, rd_M_54, rd_M_55, rd_M_56, rd_M_57, rd_M_58, rd_M_62, rd_M_63, rd_M_64, rd_M_65, wr_M18, wr_M19, wr_M20, wr_M21, wr_M59, wr_M60, wr_M61]
    refine zw_iconst ok_M_lessBows rfl ?_
    refine zw_icmp_ne 58 ok_M_lessBows rfl (by decide) (by omega) (fun h43 => ?_) (fun h43 => ?_)
    · refine zw_iconst ok_M_lessBows rfl ?_
      refine zw_goto 63 ok_M_lessBows rfl (by decide) ?_
      exact zw_zret ok_M_lessBows rfl rfl (by first | exact Or.inl rfl | exact Or.inr rfl | exact bi01 _) (⟨by first | rw [bi_t (by omega)] | rw [bi_f (by omega)], rfl⟩)
    · refine zw_aload_n ok_M_lessBows rfl rfl ?_
      refine zw_getr ok_M_lessBows rfl fl_M_28 rfl rfl ?_
      refine zw_iconst ok_M_lessBows rfl ?_
      refine zw_iload_n ok_M_lessBows rfl rfl ?_
      refine zw_imul ok_M_lessBows rfl ?_
      refine zw_iald ok_M_lessBows rfl rfl (by omega) ?_
      try simp only [rd_M18, rd_M19, rd_M20, rd_M21, rd_M59, rd_M60, rd_M61, rd_Mj4, rd_Mj7, rd_Mj9, rd_Mj11, rd_Mj13, rd_Mj22, rd_Mj23, rd_Mj24, rd_Mj27, rd_Mj30, rd_M_49, rd_M_50, rd_M_51, rd_M_52, rd_M_53, rd_M_54, rd_M_55, rd_M_56, rd_M_57, rd_M_58, rd_M_62, rd_M_63, rd_M_64, rd_M_65, wr_M18, wr_M19, wr_M20, wr_M21, wr_M59, wr_M60, wr_M61]
      refine zw_iconst ok_M_lessBows rfl ?_
      refine zw_icmp_ne 62 ok_M_lessBows rfl (by decide) (by omega) (fun h55 => ?_) (fun h55 => ?_)
      · refine zw_iconst ok_M_lessBows rfl ?_
        exact zw_zret ok_M_lessBows rfl rfl (by first | exact Or.inl rfl | exact Or.inr rfl | exact bi01 _) (⟨by first | rw [bi_t (by omega)] | rw [bi_f (by omega)], rfl⟩)
      · refine zw_iconst ok_M_lessBows rfl ?_
        refine zw_goto 63 ok_M_lessBows rfl (by decide) ?_
        exact zw_zret ok_M_lessBows rfl rfl (by first | exact Or.inl rfl | exact Or.inr rfl | exact bi01 _) (⟨by first | rw [bi_t (by omega)] | rw [bi_f (by omega)], rfl⟩)
  · rw [if_pos (by omega)]
    have hl2 := hl2 (by omega)
    refine zw_aload_n ok_M_lessBows rfl rfl ?_
    refine zw_getr ok_M_lessBows rfl fl_M_43 rfl rfl ?_
    refine zw_bipush ok_M_lessBows rfl (by decide) ?_
    refine zw_iload_n ok_M_lessBows rfl rfl ?_
    refine zw_imul ok_M_lessBows rfl ?_
    refine zw_iload_n ok_M_lessBows rfl rfl ?_
    refine zw_iadd ok_M_lessBows rfl ?_
    refine zw_iald ok_M_lessBows rfl rfl (by omega) ?_
    try simp only [rd_M18, rd_M19, rd_M20, rd_M21, rd_M59, rd_M60, rd_M61, rd_Mj4, rd_Mj7, rd_Mj9, rd_Mj11, rd_Mj13, rd_Mj22, rd_Mj23, rd_Mj24, rd_Mj27, rd_Mj30, rd_M_49, rd_M_50, rd_M_51, rd_M_52, rd_M_53, rd_M_54, rd_M_55, rd_M_56, rd_M_57, rd_M_58, rd_M_62, rd_M_63, rd_M_64, rd_M_65, wr_M18, wr_M19, wr_M20, wr_M21, wr_M59, wr_M60, wr_M61]
    refine zw_if_ne 32 ok_M_lessBows rfl (by decide) (by omega) (fun h25 => ?_) (fun h25 => ?_)
    · refine zw_iconst ok_M_lessBows rfl ?_
      exact zw_zret ok_M_lessBows rfl rfl (by first | exact Or.inl rfl | exact Or.inr rfl | exact bi01 _) (⟨by first | rw [bi_t (by omega)] | rw [bi_f (by omega)], rfl⟩)
    · refine zw_iconst ok_M_lessBows rfl ?_
      refine zw_goto 33 ok_M_lessBows rfl (by decide) ?_
      exact zw_zret ok_M_lessBows rfl rfl (by first | exact Or.inl rfl | exact Or.inr rfl | exact bi01 _) (⟨by first | rw [bi_t (by omega)] | rw [bi_f (by omega)], rfl⟩)
theorem ct_M_howLow {a b w : Int} {x : zM} (hC : okM mem) (ha : 0 ≤ a) (hab : a < b) (hb : b < mem 48 7) (hw : 0 ≤ w ∧ w < mem 48 7) (hx : mInv (mem 48 7) x) : zCip m_M_howLow [vr 48, vi a, vi b, vi w] (putM mem x) (hwM mem x a b w) := by
  refine zCt.of [some (vr 48), some (vi a), some (vi b), some (vi w), none] ok_M_howLow (Nat.le_of_ble_eq_true rfl) rfl ?_
  obtain ⟨la, lb, mo, g, n, fh, fw⟩ := x
  have hP := hC.1
  have kw := (hC.2.1 w hw.1 hw.2).1
  have hl1 : 0 ≤ la (8 * a + b) ∧ la (8 * a + b) ≤ 99 := (hx.1 a b ha hab hb).1
  show AW _ _ _ _ _ (fun r m2 => r = some (vi (if la (8 * a + b) = 0 then 1 else la (8 * a + b) + mem 55 (3 * w + 2) + (if mem 55 (3 * w) = 1 then 1 else 0))) ∧ m2 = putM mem (la, lb, mo, g, n, fh, fw))
  refine zw_aload_n ok_M_howLow rfl rfl ?_
  refine zw_getr ok_M_howLow rfl fl_M_40 rfl rfl ?_
  refine zw_bipush ok_M_howLow rfl (by decide) ?_
  refine zw_iload_n ok_M_howLow rfl rfl ?_
  refine zw_imul ok_M_howLow rfl ?_
  refine zw_iload_n ok_M_howLow rfl rfl ?_
  refine zw_iadd ok_M_howLow rfl ?_
  refine zw_iald ok_M_howLow rfl rfl (by omega) ?_
  try simp only [rd_M18, rd_M19, rd_M20, rd_M21, rd_M59, rd_M60, rd_M61, rd_Mj4, rd_Mj7, rd_Mj9, rd_Mj11, rd_Mj13, rd_Mj22, rd_Mj23, rd_Mj24, rd_Mj27, rd_Mj30, rd_M_49, rd_M_50, rd_M_51, rd_M_52, rd_M_53, rd_M_54, rd_M_55, rd_M_56, rd_M_57, rd_M_58, rd_M_62, rd_M_63, rd_M_64, rd_M_65, wr_M18, wr_M19, wr_M20, wr_M21, wr_M59, wr_M60, wr_M61]
  refine zw_istore ok_M_howLow rfl rfl (by decide) ?_
  refine zw_iload ok_M_howLow rfl rfl ?_
  refine zw_if_ne 22 ok_M_howLow rfl (by decide) (by omega) (fun h15 => ?_) (fun h15 => ?_)
  · rw [if_neg h15]
    refine zw_iload ok_M_howLow rfl rfl ?_
    refine zw_aload_n ok_M_howLow rfl rfl ?_
    refine zw_getr ok_M_howLow rfl fl_M_28 rfl rfl ?_
    refine zw_iconst ok_M_howLow rfl ?_
    refine zw_iload_n ok_M_howLow rfl rfl ?_
    refine zw_imul ok_M_howLow rfl ?_
    refine zw_iconst ok_M_howLow rfl ?_
    refine zw_iadd ok_M_howLow rfl ?_
    refine zw_iald ok_M_howLow rfl rfl (by omega) ?_
    try simp only [rd_M18, rd_M19, rd_M20, rd_M21, rd_M59, rd_M60, rd_M61, rd_Mj4, rd_Mj7, rd_Mj9, rd_Mj11, rd_Mj13, rd_Mj22, rd_Mj23, rd_Mj24, rd_Mj27, rd_Mj30, rd_M_49, rd_M_50, rd_M_51, rd_M_52, rd_M_53, rd_M_54, rd_M_55, rd_M_56, rd_M_57, rd_M_58, rd_M_62, rd_M_63, rd_M_64, rd_M_65, wr_M18, wr_M19, wr_M20, wr_M21, wr_M59, wr_M60, wr_M61]
    refine zw_iadd ok_M_howLow rfl ?_
    refine zw_aload_n ok_M_howLow rfl rfl ?_
    refine zw_getr ok_M_howLow rfl fl_M_28 rfl rfl ?_
    refine zw_iconst ok_M_howLow rfl ?_
    refine zw_iload_n ok_M_howLow rfl rfl ?_
    refine zw_imul ok_M_howLow rfl ?_
    refine zw_iald ok_M_howLow rfl rfl (by omega) ?_
    try simp only [rd_M18, rd_M19, rd_M20, rd_M21, rd_M59, rd_M60, rd_M61, rd_Mj4, rd_Mj7, rd_Mj9, rd_Mj11, rd_Mj13, rd_Mj22, rd_Mj23, rd_Mj24, rd_Mj27, rd_Mj30, rd_M_49, rd_M_50, rd_M_51, rd_M_52, rd_M_53, rd_M_54, rd_M_55, rd_M_56, rd_M_57, rd_M_58, rd_M_62, rd_M_63, rd_M_64, rd_M_65, wr_M18, wr_M19, wr_M20, wr_M21, wr_M59, wr_M60, wr_M61]
    refine zw_iconst ok_M_howLow rfl ?_
    refine zw_icmp_ne 51 ok_M_howLow rfl (by decide) (by omega) (fun h44 => ?_) (fun h44 => ?_)
    · rw [if_neg h44]
      refine zw_iconst ok_M_howLow rfl ?_
      refine zw_iadd ok_M_howLow rfl ?_
      exact zw_iret ok_M_howLow rfl rfl (⟨rfl, rfl⟩)
    · rw [if_pos h44]
      refine zw_iconst ok_M_howLow rfl ?_
      refine zw_goto 52 ok_M_howLow rfl (by decide) ?_
      refine zw_iadd ok_M_howLow rfl ?_
      exact zw_iret ok_M_howLow rfl rfl (⟨rfl, rfl⟩)
  · rw [if_pos h15]
    refine zw_iconst ok_M_howLow rfl ?_
    refine zw_goto 53 ok_M_howLow rfl (by decide) ?_
    exact zw_iret ok_M_howLow rfl rfl (⟨rfl, rfl⟩)
theorem hwM_r {a b w : Int} {x : zM} (hC : okM mem) (ha : 0 ≤ a) (hab : a < b) (hb : b < mem 48 7) (hw : 0 ≤ w ∧ w < mem 48 7) (hx : mInv (mem 48 7) x) : 1 ≤ hwM mem x a b w ∧ hwM mem x a b w ≤ 109 := by
  have kw := (hC.2.1 w hw.1 hw.2).2.2
  have hl1 := (hx.1 a b ha hab hb).1
  unfold hwM
  (repeat' split) <;> omega
end
