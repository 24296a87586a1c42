/-! ===== Clues: the rest ===== -/
theorem bits_R {nv : Int → Bool} {b : Int} (hb : -2147483648 ≤ b ∧ b < 2147483648) (k : Nat) (j : Int) : -2147483648 ≤ lp (bitsS nv) k j b ∧ lp (bitsS nv) k j b < 2147483648 := by
  refine lp_inv (I := fun b : Int => -2147483648 ≤ b ∧ b < 2147483648) _ _ _ (fun j b _ _ h => ?_) hb
  unfold bitsS
  split
  · exact zR_or _ _
  · exact h
/-- how many of the candidates bow as with k -/
def alkS (b : Int) (f : Int → Int) (p k : Int) (j n : Int) : Int := if tb b j.toNat = true ∧ f (j * 8 + p) = f (k * 8 + p) then n + 1 else n
def gaS (b : Int) (f : Int → Int) (p : Int) (k g : Int) : Int := max g (if tb b k.toNat = true then lp (alkS b f p k) 12 0 0 else 0)
def passS (b : Int) (f : Int → Int) (p : Int) (x : Int × Int) : Int × Int := if lp (gaS b f p) 12 0 0 < x.1 then (lp (gaS b f p) 12 0 0, p) else x
theorem alk_r {b : Int} {f : Int → Int} {p k : Int} : ∀ (m : Nat) (j n : Int), 0 ≤ n → 0 ≤ lp (alkS b f p k) m j n ∧ lp (alkS b f p k) m j n ≤ n + m
  | 0, _, n, h => by show 0 ≤ n ∧ n ≤ n + 0; omega
  | m + 1, j, n, h => by
    rw [lp_s]
    have := alk_r (b := b) (f := f) (p := p) (k := k) m (j + 1) (alkS b f p k j n) (by unfold alkS; split <;> omega)
    have h2 : alkS b f p k j n ≤ n + 1 := by unfold alkS; split <;> omega
    omega
theorem ga_r {b : Int} {f : Int → Int} {p : Int} (m : Nat) (k : Int) (g : Int) (hg : 0 ≤ g ∧ g ≤ 12) : 0 ≤ lp (gaS b f p) m k g ∧ lp (gaS b f p) m k g ≤ 12 := by
  refine lp_inv (I := fun g : Int => 0 ≤ g ∧ g ≤ 12) _ _ _ (fun k g _ _ h => ?_) hg
  have := alk_r (b := b) (f := f) (p := p) (k := k) 12 0 0 (by omega)
  unfold gaS
  split <;> omega
section
variable {mem : zMem} {st hd df : Int → Int} {s : zS} {L : zL} {Q : Option zVal → zMem → Prop}
theorem putC_z36 {L : zL} {s : zS} : putC mem L s = putC (zput mem 36 (mem 36)) L s := by
  congr 1
  funext q
  by_cases e : q = 36
  · subst e; rw [zput_eq]
  · rw [zput_ne e]
theorem ct_Cl_oldBowsThatNeverWere {nv : Int → Bool} {lw : Int → Int → Int} (hC : okC mem) (hS : sghC mem) (hnv : ∀ k, 0 ≤ k → k < mem 12 3 → nvC mem k 0 (nv k) (lw k)) : zCi m_Cl_oldBowsThatNeverWere [vr 35] (putC mem L s) (lp (bitsS nv) (mem 12 3).toNat 0 0) (fun m2 => ∃ f L2 s2, m2 = putC (zput mem 36 f) L2 s2 ∧ ∀ i p, 0 ≤ i → i < mem 12 3 → nv i = true → 0 ≤ p → p < mem 5 4 → f (i * 8 + p) = lw i p) := by
  have h12 := hC.1.2.2.2.2.1
  rw [putC_z36]
  refine zCt.of [some (vr 35), none, none] ok_Cl_oldBowsThatNeverWere (Nat.le_of_ble_eq_true rfl) rfl ?_
  refine zw_iconst ok_Cl_oldBowsThatNeverWere rfl ?_
  refine zw_istore_n ok_Cl_oldBowsThatNeverWere rfl rfl (by decide) ?_
  refine zw_iconst ok_Cl_oldBowsThatNeverWere rfl ?_
  refine zw_istore_n ok_Cl_oldBowsThatNeverWere rfl rfl (by decide) ?_
  exact old_loop hC hS hnv (mem 12 3).toNat 0 0 _ L s (by omega) (by omega) (fun i p q1 q2 => by omega) (fun f L s hf => ⟨rfl, f, L, s, rfl, hf⟩)
theorem umb_loop {nv : Int → Bool} (hC : okC mem) (hS : sghC mem) (hnv : ∀ k, 0 ≤ k → k < mem 16 3 → ∃ lw, nvC mem (-1) (zshl 1 k) (nv k) lw) :
    ∀ (k : Nat) (j b : Int) (L : zL) (s : zS), 0 ≤ j → j + k = mem 16 3 → (∀ L s, Q (some (vi (lp (bitsS nv) k j b))) (putC mem L s)) → AW m_Cl_umbrellasLeft 4 [some (vr 35), some (vi b), some (vi j)] [] (putC mem L s) Q := by
  have h16 := hC.1.2.2.1
  intro k
  induction k with
  | zero =>
    intro j b L s h0 hj hx
    refine zw_iload_n ok_Cl_umbrellasLeft rfl rfl ?_
    refine zw_aload_n ok_Cl_umbrellasLeft rfl rfl ?_
    refine zw_getr ok_Cl_umbrellasLeft rfl fl_Cl_15 rfl rfl ?_
    refine zw_getr ok_Cl_umbrellasLeft rfl fl_Cl_51 rfl rfl ?_
    refine zw_geti ok_Cl_umbrellasLeft rfl fl_Cl_28 rfl rfl ?_
    try simp only [rd_C9, rd_C10, rd_C11, rd_C12, rd_C25, rd_C26, rd_C27, rd_C28, rd_C29, rd_C_0, rd_C_1, rd_C_2, rd_C_3, rd_C_4, rd_C_5, rd_C_6, rd_C_7, rd_C_8, rd_C_9, rd_C_10, rd_C_11, rd_C_12, rd_C_13, rd_C_14, rd_C_15, rd_C_16, rd_C_17, rd_C_18, rd_C_19, rd_C_20, rd_C_21, rd_C_22, rd_C_23, rd_C_30, rd_C_31, rd_C_32, rd_C_33, rd_C_34, rd_C_35, rd_C_36, rd_C_37, rd_C_38, rd_C_39, rd_C_40, rd_C_41, rd_C_42, rd_C_43, rd_C_44, rd_C_45, rd_C_46, rd_C_47, rd_C_48, rd_C_49, rd_C_50, rd_C_51, rd_C_52, rd_C_53, rd_C_54, rd_C_55, rd_C_56, rd_C_57, rd_C_58, rd_C_59, rd_C_60, rd_C_61, rd_C_62, rd_C_63, rd_C_64, rd_C_65, wr_C9, wr_C10, wr_C11, wr_C12, wr_C25, wr_C26, wr_C27, wr_C28, wr_C29, wp_C25, wp_C26, wp_C27, wp_C28, wp_C29]
    refine zw_icmp_ge 48 ok_Cl_umbrellasLeft rfl (by decide) (by omega) (fun h15 => ?_) (fun h15 => ?_)
    · refine zw_iload_n ok_Cl_umbrellasLeft rfl rfl ?_
      exact zw_iret ok_Cl_umbrellasLeft rfl rfl (hx L s)
    · exfalso; omega
  | succ k ih =>
    intro j b L s h0 hj hx
    obtain ⟨st0, hd0, df0⟩ := L
    have hst := layS_st (ol := -1) (ll := zshl 1 j) (L := (st0, hd0, df0)) hC
    have hdf := layS_df (ol := -1) (ll := zshl 1 j) (L := (st0, hd0, df0)) hC
    obtain ⟨lw, hnj⟩ := hnv j h0 (by omega)
    have hnj := (hnj (st0, hd0, df0) s.1 s.2.1).1
    generalize hL1 : layS mem (-1) (zshl 1 j) (st0, hd0, df0) = L1 at hst hdf hnj
    obtain ⟨st, hd, df⟩ := L1
    dsimp only at hst hdf hnj
    rw [lp_s] at hx
    have next : ∀ b2 s2, b2 = bitsS nv j b → AW m_Cl_umbrellasLeft 42 [some (vr 35), some (vi b2), some (vi j)] [] (putC mem (st, hd, df) s2) Q := by
      intro b2 s2 hb2
      subst hb2
      refine zw_iinc ok_Cl_umbrellasLeft rfl rfl rfl (by decide) ?_
      refine zw_goto 4 ok_Cl_umbrellasLeft rfl (by decide) ?_
      exact ih (j + 1) _ _ _ (by omega) (by omega) hx
    unfold bitsS at next
    refine zw_iload_n ok_Cl_umbrellasLeft rfl rfl ?_
    refine zw_aload_n ok_Cl_umbrellasLeft rfl rfl ?_
    refine zw_getr ok_Cl_umbrellasLeft rfl fl_Cl_15 rfl rfl ?_
    refine zw_getr ok_Cl_umbrellasLeft rfl fl_Cl_51 rfl rfl ?_
    refine zw_geti ok_Cl_umbrellasLeft rfl fl_Cl_28 rfl rfl ?_
    try simp only [rd_C9, rd_C10, rd_C11, rd_C12, rd_C25, rd_C26, rd_C27, rd_C28, rd_C29, rd_C_0, rd_C_1, rd_C_2, rd_C_3, rd_C_4, rd_C_5, rd_C_6, rd_C_7, rd_C_8, rd_C_9, rd_C_10, rd_C_11, rd_C_12, rd_C_13, rd_C_14, rd_C_15, rd_C_16, rd_C_17, rd_C_18, rd_C_19, rd_C_20, rd_C_21, rd_C_22, rd_C_23, rd_C_30, rd_C_31, rd_C_32, rd_C_33, rd_C_34, rd_C_35, rd_C_36, rd_C_37, rd_C_38, rd_C_39, rd_C_40, rd_C_41, rd_C_42, rd_C_43, rd_C_44, rd_C_45, rd_C_46, rd_C_47, rd_C_48, rd_C_49, rd_C_50, rd_C_51, rd_C_52, rd_C_53, rd_C_54, rd_C_55, rd_C_56, rd_C_57, rd_C_58, rd_C_59, rd_C_60, rd_C_61, rd_C_62, rd_C_63, rd_C_64, rd_C_65, wr_C9, wr_C10, wr_C11, wr_C12, wr_C25, wr_C26, wr_C27, wr_C28, wr_C29, wp_C25, wp_C26, wp_C27, wp_C28, wp_C29]
    refine zw_icmp_ge 48 ok_Cl_umbrellasLeft rfl (by decide) (by omega) (fun h15 => ?_) (fun h15 => ?_)
    · exfalso; omega
    · refine zw_aload_n ok_Cl_umbrellasLeft rfl rfl ?_
      refine zw_getr ok_Cl_umbrellasLeft rfl fl_Cl_15 rfl rfl ?_
      refine zw_iconst ok_Cl_umbrellasLeft rfl ?_
      refine zw_iconst ok_Cl_umbrellasLeft rfl ?_
      refine zw_iload_n ok_Cl_umbrellasLeft rfl rfl ?_
      refine zw_ishl ok_Cl_umbrellasLeft rfl ?_
      refine zw_Vvp ok_Cl_umbrellasLeft rfl ok_Co_layOut lk_Cl_34 (by decide) rfl rfl (Nat.le_of_ble_eq_true rfl) (ct_Co_layOut hC.1 (by omega)) ?_
      rw [hL1]
      refine zw_aload_n ok_Cl_umbrellasLeft rfl rfl ?_
      refine zw_Vb ok_Cl_umbrellasLeft rfl ok_Cl_comesOutAsSeen lk_Cl_38 (by decide) rfl rfl (Nat.le_of_ble_eq_true rfl) (ct_Cl_comesOutAsSeen hC hS hst hdf) (fun m30 h30 => ?_)
      subst h30
      rw [hnj]
      generalize (coB mem st (fun h => zor (hd h) (mem 5 5)) 12 0 (begS df s.1 s.2.1)).2 = s2
      refine zw_ifeq_b 42 ok_Cl_umbrellasLeft rfl (by decide) (fun h33 => ?_) (fun h33 => ?_)
      · exact next b _ (by rw [if_neg (by simp [h33])])
      · refine zw_iload_n ok_Cl_umbrellasLeft rfl rfl ?_
        refine zw_iconst ok_Cl_umbrellasLeft rfl ?_
        refine zw_iload_n ok_Cl_umbrellasLeft rfl rfl ?_
        refine zw_ishl ok_Cl_umbrellasLeft rfl ?_
        refine zw_ior ok_Cl_umbrellasLeft rfl ?_
        refine zw_istore_n ok_Cl_umbrellasLeft rfl rfl (by decide) ?_
        exact next _ _ (by rw [if_pos h33])
theorem ct_Cl_umbrellasLeft {nv : Int → Bool} (hC : okC mem) (hS : sghC mem) (hnv : ∀ k, 0 ≤ k → k < mem 16 3 → ∃ lw, nvC mem (-1) (zshl 1 k) (nv k) lw) : zCi m_Cl_umbrellasLeft [vr 35] (putC mem L s) (lp (bitsS nv) (mem 16 3).toNat 0 0) (fun m2 => ∃ L2 s2, m2 = putC mem L2 s2) := by
  have h16 := hC.1.2.2.1
  refine zCt.of [some (vr 35), none, none] ok_Cl_umbrellasLeft (Nat.le_of_ble_eq_true rfl) rfl ?_
  refine zw_iconst ok_Cl_umbrellasLeft rfl ?_
  refine zw_istore_n ok_Cl_umbrellasLeft rfl rfl (by decide) ?_
  refine zw_iconst ok_Cl_umbrellasLeft rfl ?_
  refine zw_istore_n ok_Cl_umbrellasLeft rfl rfl (by decide) ?_
  exact umb_loop hC hS hnv (mem 16 3).toNat 0 0 L s (by omega) (by omega) (fun L s => ⟨rfl, L, s, rfl⟩)
theorem ct_Cl_lowestOf {k p : Int} (h : (0 ≤ k ∧ k < 12) ∧ 0 ≤ p ∧ p < 8) : zCip m_Cl_lowestOf [vr 35, vi k, vi p] mem (mem 36 (k * 8 + p)) := by
  refine zCt.of [some (vr 35), some (vi k), some (vi p)] ok_Cl_lowestOf (Nat.le_of_ble_eq_true rfl) rfl ?_
  refine zw_aload_n ok_Cl_lowestOf rfl rfl ?_
  refine zw_getr ok_Cl_lowestOf rfl fl_Cl_9 rfl rfl ?_
  refine zw_iload_n ok_Cl_lowestOf rfl rfl ?_
  refine zw_bipush ok_Cl_lowestOf rfl (by decide) ?_
  refine zw_imul ok_Cl_lowestOf rfl ?_
  refine zw_iload_n ok_Cl_lowestOf rfl rfl ?_
  refine zw_iadd ok_Cl_lowestOf rfl ?_
  refine zw_iald ok_Cl_lowestOf rfl rfl (by omega) ?_
  exact zw_iret ok_Cl_lowestOf rfl rfl (⟨rfl, rfl⟩)
theorem alk_loop {b p k g : Int} (hp : 0 ≤ p ∧ p < 8) (hk : 0 ≤ k ∧ k < 12) (hbk : tb b k.toNat = true) (hf : ∀ i, 0 ≤ i → i < 12 → tb b i.toNat = true → 0 ≤ mem 36 (i * 8 + p) ∧ mem 36 (i * 8 + p) ≤ 99) :
    ∀ (m : Nat) (j n : Int), 0 ≤ j → j + m = 12 → 0 ≤ n → AW m_Cl_greatestAlike 69 [some (vr 35), some (vi p), some (vi b), some (vi g), some (vi k), some (vi (lp (alkS b (mem 36) p k) m j n)), none] [] mem Q → AW m_Cl_greatestAlike 18 [some (vr 35), some (vi p), some (vi b), some (vi g), some (vi k), some (vi n), some (vi j)] [] mem Q := by
  have qk := hf k hk.1 hk.2 hbk
  intro m
  induction m with
  | zero =>
    intro j n h0 hj hn hx
    refine zw_iload ok_Cl_greatestAlike rfl rfl ?_
    refine zw_bipush ok_Cl_greatestAlike rfl (by decide) ?_
    refine zw_icmp_ge 69 ok_Cl_greatestAlike rfl (by decide) (by omega) (fun h22 => ?_) (fun h22 => ?_)
    · refine zw_mask [true, true, true, true, true, true, false] rfl ?_
      exact hx
    · exfalso; omega
  | succ m ih =>
    intro j n h0 hj hn hx
    rw [lp_s] at hx
    unfold alkS at hx
    have next : ∀ n2, n2 = (if tb b j.toNat = true ∧ mem 36 (j * 8 + p) = mem 36 (k * 8 + p) then n + 1 else n) → AW m_Cl_greatestAlike 63 [some (vr 35), some (vi p), some (vi b), some (vi g), some (vi k), some (vi n2), some (vi j)] [] mem Q := by
      intro n2 hn2
      subst hn2
      refine zw_iinc ok_Cl_greatestAlike rfl rfl rfl (by decide) ?_
      refine zw_goto 18 ok_Cl_greatestAlike rfl (by decide) ?_
      exact ih (j + 1) _ (by omega) (by omega) (by split <;> omega) hx
    refine zw_iload ok_Cl_greatestAlike rfl rfl ?_
    refine zw_bipush ok_Cl_greatestAlike rfl (by decide) ?_
    refine zw_icmp_ge 69 ok_Cl_greatestAlike rfl (by decide) (by omega) (fun h22 => ?_) (fun h22 => ?_)
    · exfalso; omega
    · refine zw_iload_n ok_Cl_greatestAlike rfl rfl ?_
      refine zw_iload ok_Cl_greatestAlike rfl rfl ?_
      refine zw_ishr ok_Cl_greatestAlike rfl ?_
      refine zw_iconst ok_Cl_greatestAlike rfl ?_
      refine zw_iand ok_Cl_greatestAlike rfl ?_
      refine zw_if_eq 69 ok_Cl_greatestAlike rfl (by decide) (zR_and _ _) (fun h31 => ?_) (fun h31 => ?_)
      · rw [tb_ask0 _ (by omega)] at h31
        rw [hbk] at h31
        cases h31
      · rw [tb_ask0 _ (by omega)] at h31
        refine zw_iload_n ok_Cl_greatestAlike rfl rfl ?_
        refine zw_iload ok_Cl_greatestAlike rfl rfl ?_
        refine zw_ishr ok_Cl_greatestAlike rfl ?_
        refine zw_iconst ok_Cl_greatestAlike rfl ?_
        refine zw_iand ok_Cl_greatestAlike rfl ?_
        refine zw_if_eq 63 ok_Cl_greatestAlike rfl (by decide) (zR_and _ _) (fun h40 => ?_) (fun h40 => ?_)
        · rw [tb_ask0 _ (by omega)] at h40
          exact next _ (by rw [if_neg (by simp [h40])])
        · rw [tb_ask0 _ (by omega)] at h40
          have h40b : tb b j.toNat = true := by simpa using h40
          have qj := hf j h0 (by omega) h40b
          refine zw_aload_n ok_Cl_greatestAlike rfl rfl ?_
          refine zw_iload ok_Cl_greatestAlike rfl rfl ?_
          refine zw_iload_n ok_Cl_greatestAlike rfl rfl ?_
          refine zw_Vip ok_Cl_greatestAlike rfl ok_Cl_lowestOf lk_Cl_89 (by decide) rfl rfl (Nat.le_of_ble_eq_true rfl) (ct_Cl_lowestOf (by omega)) ?_
          refine zw_aload_n ok_Cl_greatestAlike rfl rfl ?_
          refine zw_iload ok_Cl_greatestAlike rfl rfl ?_
          refine zw_iload_n ok_Cl_greatestAlike rfl rfl ?_
          refine zw_Vip ok_Cl_greatestAlike rfl ok_Cl_lowestOf lk_Cl_89 (by decide) rfl rfl (Nat.le_of_ble_eq_true rfl) (ct_Cl_lowestOf (by omega)) ?_
          refine zw_icmp_ne 63 ok_Cl_greatestAlike rfl (by decide) (by omega) (fun h57 => ?_) (fun h57 => ?_)
          · exact next _ (by rw [if_neg (fun q => h57 q.2)])
          · refine zw_iinc ok_Cl_greatestAlike rfl rfl rfl (by decide) ?_
            exact next _ (by rw [if_pos ⟨h40b, h57⟩])
theorem ga_loop {b p : Int} (hp : 0 ≤ p ∧ p < 8) (hf : ∀ i, 0 ≤ i → i < 12 → tb b i.toNat = true → 0 ≤ mem 36 (i * 8 + p) ∧ mem 36 (i * 8 + p) ≤ 99) :
    ∀ (m : Nat) (k g : Int), 0 ≤ k → k + m = 12 → (0 ≤ g ∧ g ≤ 12) → Q (some (vi (lp (gaS b (mem 36) p) m k g))) mem → AW m_Cl_greatestAlike 5 [some (vr 35), some (vi p), some (vi b), some (vi g), some (vi k), none, none] [] mem Q := by
  intro m
  induction m with
  | zero =>
    intro k g h0 hk hg hx
    refine zw_iload ok_Cl_greatestAlike rfl rfl ?_
    refine zw_bipush ok_Cl_greatestAlike rfl (by decide) ?_
    refine zw_icmp_ge 82 ok_Cl_greatestAlike rfl (by decide) (by omega) (fun h9 => ?_) (fun h9 => ?_)
    · refine zw_iload_n ok_Cl_greatestAlike rfl rfl ?_
      exact zw_iret ok_Cl_greatestAlike rfl rfl (hx)
    · exfalso; omega
  | succ m ih =>
    intro k g h0 hk hg hx
    rw [lp_s] at hx
    have hr := alk_r (b := b) (f := mem 36) (p := p) (k := k) 12 0 0 (by omega)
    have hg2 := ga_r (b := b) (f := mem 36) (p := p) 1 k g hg
    have next : ∀ n, n = (if tb b k.toNat = true then lp (alkS b (mem 36) p k) 12 0 0 else 0) → AW m_Cl_greatestAlike 69 [some (vr 35), some (vi p), some (vi b), some (vi g), some (vi k), some (vi n), none] [] mem Q := by
      intro n hn
      have hn2 : 0 ≤ n ∧ n ≤ 12 := by rw [hn]; split <;> omega
      unfold gaS at hx
      rw [← hn] at hx
      refine zw_iload_n ok_Cl_greatestAlike rfl rfl ?_
      refine zw_iload ok_Cl_greatestAlike rfl rfl ?_
      refine zw_mmax ok_Cl_greatestAlike rfl lm_Cl_92 ⟨by decide, Nat.le_of_ble_eq_true rfl⟩ (by omega) ?_
      refine zw_istore_n ok_Cl_greatestAlike rfl rfl (by decide) ?_
      refine zw_iinc ok_Cl_greatestAlike rfl rfl rfl (by decide) ?_
      refine zw_goto 5 ok_Cl_greatestAlike rfl (by decide) ?_
      refine zw_mask [true, true, true, true, true, false, false] rfl ?_
      exact ih (k + 1) _ (by omega) (by omega) (by omega) hx
    by_cases hb : tb b k.toNat = true
    · refine zw_iload ok_Cl_greatestAlike rfl rfl ?_
      refine zw_bipush ok_Cl_greatestAlike rfl (by decide) ?_
      refine zw_icmp_ge 82 ok_Cl_greatestAlike rfl (by decide) (by omega) (fun h9 => ?_) (fun h9 => ?_)
      · exfalso; omega
      · refine zw_iconst ok_Cl_greatestAlike rfl ?_
        refine zw_istore ok_Cl_greatestAlike rfl rfl (by decide) ?_
        refine zw_iconst ok_Cl_greatestAlike rfl ?_
        refine zw_istore ok_Cl_greatestAlike rfl rfl (by decide) ?_
        exact alk_loop hp ⟨h0, by omega⟩ hb hf 12 0 0 (by omega) (by omega) (by omega) (next _ (by rw [if_pos hb]))
    · have hz : zand (zshr b k) 1 = 0 := (tb_ask0 _ (by omega)).mpr (by simpa using hb)
      refine zw_iload ok_Cl_greatestAlike rfl rfl ?_
      refine zw_bipush ok_Cl_greatestAlike rfl (by decide) ?_
      refine zw_icmp_ge 82 ok_Cl_greatestAlike rfl (by decide) (by omega) (fun h9 => ?_) (fun h9 => ?_)
      · exfalso; omega
      · refine zw_iconst ok_Cl_greatestAlike rfl ?_
        refine zw_istore ok_Cl_greatestAlike rfl rfl (by decide) ?_
        refine zw_iconst ok_Cl_greatestAlike rfl ?_
        refine zw_istore ok_Cl_greatestAlike rfl rfl (by decide) ?_
        refine zw_iload ok_Cl_greatestAlike rfl rfl ?_
        refine zw_bipush ok_Cl_greatestAlike rfl (by decide) ?_
        refine zw_icmp_ge 69 ok_Cl_greatestAlike rfl (by decide) (by omega) (fun h22 => ?_) (fun h22 => ?_)
        · exfalso; omega
        · refine zw_iload_n ok_Cl_greatestAlike rfl rfl ?_
          refine zw_iload ok_Cl_greatestAlike rfl rfl ?_
          refine zw_ishr ok_Cl_greatestAlike rfl ?_
          refine zw_iconst ok_Cl_greatestAlike rfl ?_
          refine zw_iand ok_Cl_greatestAlike rfl ?_
          refine zw_if_eq 69 ok_Cl_greatestAlike rfl (by decide) (zR_and _ _) (fun h31 => ?_) (fun h31 => ?_)
          · refine zw_mask [true, true, true, true, true, true, false] rfl ?_
            exact next _ (by rw [if_neg hb])
          · exact absurd hz h31
theorem ct_Cl_greatestAlike {b p : Int} (hp : 0 ≤ p ∧ p < 8) (hf : ∀ i, 0 ≤ i → i < 12 → tb b i.toNat = true → 0 ≤ mem 36 (i * 8 + p) ∧ mem 36 (i * 8 + p) ≤ 99) : zCip m_Cl_greatestAlike [vr 35, vi p, vi b] mem (lp (gaS b (mem 36) p) 12 0 0) := by
  refine zCt.of [some (vr 35), some (vi p), some (vi b), none, none, none, none] ok_Cl_greatestAlike (Nat.le_of_ble_eq_true rfl) rfl ?_
  refine zw_iconst ok_Cl_greatestAlike rfl ?_
  refine zw_istore_n ok_Cl_greatestAlike rfl rfl (by decide) ?_
  refine zw_iconst ok_Cl_greatestAlike rfl ?_
  refine zw_istore ok_Cl_greatestAlike rfl rfl (by decide) ?_
  exact ga_loop hp hf 12 0 0 (by omega) (by omega) (by omega) ⟨rfl, rfl⟩
theorem pass_loop {b : Int} (hP : 0 ≤ mem 5 4 ∧ mem 5 4 ≤ 8) (hf : ∀ p i, 0 ≤ p → p < mem 5 4 → 0 ≤ i → i < 12 → tb b i.toNat = true → 0 ≤ mem 36 (i * 8 + p) ∧ mem 36 (i * 8 + p) ≤ 99) :
    ∀ (k : Nat) (p : Int) (x : Int × Int), 0 ≤ p → p + k = mem 5 4 → (0 ≤ x.1 ∧ x.1 ≤ 13) → Q (some (vi (lp (passS b (mem 36)) k p x).2)) mem → AW m_Cl_nextToPass 13 [some (vr 35), some (vi b), some (vi x.2), some (vi x.1), some (vi p), none] [] mem Q := by
  intro k
  induction k with
  | zero =>
    intro p x h0 hk hx1 hx
    refine zw_iload ok_Cl_nextToPass rfl rfl ?_
    refine zw_aload_n ok_Cl_nextToPass rfl rfl ?_
    refine zw_getr ok_Cl_nextToPass rfl fl_Cl_15 rfl rfl ?_
    refine zw_getr ok_Cl_nextToPass rfl fl_Cl_58 rfl rfl ?_
    refine zw_geti ok_Cl_nextToPass rfl fl_Cl_62 rfl rfl ?_
    refine zw_icmp_ge 55 ok_Cl_nextToPass rfl (by decide) (by omega) (fun h25 => ?_) (fun h25 => ?_)
    · refine zw_iload_n ok_Cl_nextToPass rfl rfl ?_
      exact zw_iret ok_Cl_nextToPass rfl rfl (hx)
    · exfalso; omega
  | succ k ih =>
    intro p x h0 hk hx1 hx
    rw [lp_s] at hx
    unfold passS at hx
    have hr := ga_r (b := b) (f := mem 36) (p := p) 12 0 0 (by omega)
    refine zw_iload ok_Cl_nextToPass rfl rfl ?_
    refine zw_aload_n ok_Cl_nextToPass rfl rfl ?_
    refine zw_getr ok_Cl_nextToPass rfl fl_Cl_15 rfl rfl ?_
    refine zw_getr ok_Cl_nextToPass rfl fl_Cl_58 rfl rfl ?_
    refine zw_geti ok_Cl_nextToPass rfl fl_Cl_62 rfl rfl ?_
    refine zw_icmp_ge 55 ok_Cl_nextToPass rfl (by decide) (by omega) (fun h25 => ?_) (fun h25 => ?_)
    · exfalso; omega
    · refine zw_aload_n ok_Cl_nextToPass rfl rfl ?_
      refine zw_iload ok_Cl_nextToPass rfl rfl ?_
      refine zw_iload_n ok_Cl_nextToPass rfl rfl ?_
      refine zw_Vip ok_Cl_nextToPass rfl ok_Cl_greatestAlike lk_Cl_65 (by decide) rfl rfl (Nat.le_of_ble_eq_true rfl) (ct_Cl_greatestAlike (by omega) (fun i => hf p i h0 (by omega))) ?_
      refine zw_istore ok_Cl_nextToPass rfl rfl (by decide) ?_
      refine zw_iload ok_Cl_nextToPass rfl rfl ?_
      refine zw_iload_n ok_Cl_nextToPass rfl rfl ?_
      refine zw_icmp_ge 49 ok_Cl_nextToPass rfl (by decide) (by omega) (fun h40 => ?_) (fun h40 => ?_)
      · refine zw_iinc ok_Cl_nextToPass rfl rfl rfl (by decide) ?_
        refine zw_goto 13 ok_Cl_nextToPass rfl (by decide) ?_
        refine zw_mask [true, true, true, true, true, false] rfl ?_
        first
          | exact ih (p + 1) x (by omega) (by omega) hx1 (by rw [if_neg (by omega)] at hx; exact hx)
          | exact ih (p + 1) (lp (gaS b (mem 36) p) 12 0 0, p) (by omega) (by omega) (by omega) (by rw [if_pos (by omega)] at hx; exact hx)
      · refine zw_iload ok_Cl_nextToPass rfl rfl ?_
        refine zw_istore_n ok_Cl_nextToPass rfl rfl (by decide) ?_
        refine zw_iload ok_Cl_nextToPass rfl rfl ?_
        refine zw_istore_n ok_Cl_nextToPass rfl rfl (by decide) ?_
        refine zw_iinc ok_Cl_nextToPass rfl rfl rfl (by decide) ?_
        refine zw_goto 13 ok_Cl_nextToPass rfl (by decide) ?_
        refine zw_mask [true, true, true, true, true, false] rfl ?_
        first
          | exact ih (p + 1) x (by omega) (by omega) hx1 (by rw [if_neg (by omega)] at hx; exact hx)
          | exact ih (p + 1) (lp (gaS b (mem 36) p) 12 0 0, p) (by omega) (by omega) (by omega) (by rw [if_pos (by omega)] at hx; exact hx)
theorem ct_Cl_nextToPass {nv : Int → Bool} {lw : Int → Int → Int} {pr : Int} (hC : okC mem) (hS : sghC mem) (hnv : ∀ k, 0 ≤ k → k < mem 12 3 → nvC mem k 0 (nv k) (lw k)) (hlw : ∀ k p, 0 ≤ k → k < mem 12 3 → nv k = true → 0 ≤ p → p < mem 5 4 → 0 ≤ lw k p ∧ lw k p ≤ 99) (hb : ∀ i, 0 ≤ i → i < 12 → tb (lp (bitsS nv) (mem 12 3).toNat 0 0) i.toNat = true → i < mem 12 3 ∧ nv i = true) (hpr : ∀ f : Int → Int, (∀ i p, 0 ≤ i → i < mem 12 3 → nv i = true → 0 ≤ p → p < mem 5 4 → f (i * 8 + p) = lw i p) → (lp (passS (lp (bitsS nv) (mem 12 3).toNat 0 0) f) (mem 5 4).toNat 0 (13, -1)).2 = pr) : zCi m_Cl_nextToPass [vr 35] (putC mem L s) pr (fun m2 => zfr scr mem m2) := by
  have hP := hC.1.1
  refine zCt.of [some (vr 35), none, none, none, none, none] ok_Cl_nextToPass (Nat.le_of_ble_eq_true rfl) rfl ?_
  refine zw_aload_n ok_Cl_nextToPass rfl rfl ?_
  refine zw_Vi ok_Cl_nextToPass rfl ok_Cl_oldBowsThatNeverWere lk_Cl_54 (by decide) rfl rfl (Nat.le_of_ble_eq_true rfl) (ct_Cl_oldBowsThatNeverWere hC hS hnv) (fun m1 h1 => ?_)
  obtain ⟨f, L2, s2, rfl, hf⟩ := h1
  refine zw_istore_n ok_Cl_nextToPass rfl rfl (by decide) ?_
  refine zw_iconst ok_Cl_nextToPass rfl ?_
  refine zw_istore_n ok_Cl_nextToPass rfl rfl (by decide) ?_
  refine zw_bipush ok_Cl_nextToPass rfl (by decide) ?_
  refine zw_istore_n ok_Cl_nextToPass rfl rfl (by decide) ?_
  refine zw_iconst ok_Cl_nextToPass rfl ?_
  refine zw_istore ok_Cl_nextToPass rfl rfl (by decide) ?_
  refine pass_loop (mem := putC (zput mem 36 f) L2 s2) (Q := fun r m2 => r = some (vi pr) ∧ zfr scr mem m2) hP ?_ (mem 5 4).toNat 0 (13, -1) (by omega) ?_ (by omega) ⟨?_, putC_scr (zfr.put (k := 36) zfr.rf (by decide))⟩
  · intro p i q1 q2 q3 q4 q5
    obtain ⟨z1, z2⟩ := hb i q3 q4 q5
    show 0 ≤ f (i * 8 + p) ∧ f (i * 8 + p) ≤ 99
    rw [hf i p q3 z1 z2 q1 q2]
    exact hlw i p q3 z1 z2 q1 q2
  · show (0 : Int) + ((mem 5 4).toNat : Int) = mem 5 4
    omega
  · show some (vi (lp (passS (lp (bitsS nv) (mem 12 3).toNat 0 0) f) (mem 5 4).toNat 0 (13, -1)).2) = some (vi pr)
    rw [hpr f hf]
end
