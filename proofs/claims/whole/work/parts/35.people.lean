/-! ===== what the people's text tells; People.take ===== -/
def sGo (k b : Int) : Bool := if k = 0 then decide (b = 111 ∨ b = 112 ∨ b = 99) else if k = 3 then decide (49 ≤ b ∧ b ≤ 57) else if k = 4 then decide (b = 59) else decide (48 ≤ b ∧ b ≤ 57)
/-- the first place from i on that cannot go on, among k; -1: none -/
def sScan (t : Int → Int) : Nat → Int → Int
  | 0, _ => -1
  | k + 1, i => if sGo (i % 5) (t i) = true then sScan t k (i + 1) else i
def sFp (n : Int) (t : Int → Int) : Int := if sScan t n.toNat 0 ≠ -1 then sScan t n.toNat 0 else if n = 0 ∨ n % 5 = 4 then -1 else n
def sP (n : Int) (t : Int → Int) : Int := if sFp n t = -1 then (n + 1) / 5 else 0
def sK (t : Int → Int) (p : Int) : Int := if t (5 * p) = 112 then 1 else if t (5 * p) = 99 then 2 else 0
def sCan (t : Int → Int) (p : Int) : Int := 10 * (t (5 * p + 1) - 48) + t (5 * p + 2) - 48
def sLo (t : Int → Int) (p : Int) : Int := t (5 * p + 3) - 48
def sSt (t : Int → Int) (p : Int) : Int := if sK t p = 1 then sLo t p + 1 else sLo t p
def clF (t : Int → Int) (p b : Int) : Int := if sK t p = 2 then zor b (zshl 1 p) else b
theorem sScan_r {t : Int → Int} : ∀ (k : Nat) (i : Int), 0 ≤ i → sScan t k i = -1 ∨ (i ≤ sScan t k i ∧ sScan t k i < i + k)
  | 0, _, _ => Or.inl rfl
  | k + 1, i, h => by
    unfold sScan
    split
    · rcases sScan_r (t := t) k (i + 1) (by omega) with h1 | h1
      · exact Or.inl h1
      · right; omega
    · right; omega
theorem sScan_ok {t : Int → Int} : ∀ (k : Nat) (i : Int), 0 ≤ i → sScan t k i = -1 → ∀ j, i ≤ j → j < i + k → sGo (j % 5) (t j) = true
  | 0, i, _, _, j, h1, h2 => by omega
  | k + 1, i, h, he, j, h1, h2 => by
    unfold sScan at he
    split at he
    · rename_i hg
      by_cases e : j = i
      · subst e; exact hg
      · exact sScan_ok k (i + 1) (by omega) he j (by omega) (by omega)
    · omega
theorem sFp_r {n : Int} {t : Int → Int} (hn : 0 ≤ n) : -1 ≤ sFp n t ∧ sFp n t ≤ n := by
  unfold sFp
  rcases sScan_r (t := t) n.toNat 0 (by omega) with h | h
  · rw [if_neg (by omega)]; split <;> omega
  · rw [if_pos (by omega)]; omega
theorem sP_r {n : Int} {t : Int → Int} (hn : 0 ≤ n ∧ n ≤ 39) : 0 ≤ sP n t ∧ sP n t ≤ 8 := by
  unfold sP; split <;> omega
theorem sFp_ok {n : Int} {t : Int → Int} (hn : 0 ≤ n) (h : sFp n t = -1) : (n = 0 ∨ n % 5 = 4) ∧ ∀ j, 0 ≤ j → j < n → sGo (j % 5) (t j) = true := by
  have h0 : sScan t n.toNat 0 = -1 := by
    rcases sScan_r (t := t) n.toNat 0 (by omega) with h1 | h1
    · exact h1
    · unfold sFp at h; rw [if_pos (by omega)] at h; omega
  refine ⟨?_, fun j h1 h2 => sScan_ok n.toNat 0 (by omega) h0 j h1 (by omega)⟩
  unfold sFp at h
  rw [if_neg (by omega)] at h
  split at h
  · assumption
  · omega
/-- of those that there are: bounds -/
theorem sMan {n : Int} {t : Int → Int} (hn : 0 ≤ n ∧ n ≤ 39) {p : Int} (hp : 0 ≤ p) (hp2 : p < sP n t) : (0 ≤ sK t p ∧ sK t p ≤ 2) ∧ (0 ≤ sCan t p ∧ sCan t p ≤ 99) ∧ (1 ≤ sLo t p ∧ sLo t p ≤ 9) ∧ (1 ≤ sSt t p ∧ sSt t p ≤ 10) := by
  have hf : sFp n t = -1 := by
    unfold sP at hp2
    split at hp2
    · assumption
    · omega
  have hP : sP n t = (n + 1) / 5 := by unfold sP; rw [if_pos hf]
  obtain ⟨h1, h2⟩ := sFp_ok hn.1 hf
  have g1 := h2 (5 * p + 1) (by omega) (by omega)
  have g2 := h2 (5 * p + 2) (by omega) (by omega)
  have g3 := h2 (5 * p + 3) (by omega) (by omega)
  rw [show (5 * p + 1) % 5 = 1 by omega] at g1
  rw [show (5 * p + 2) % 5 = 2 by omega] at g2
  rw [show (5 * p + 3) % 5 = 3 by omega] at g3
  have g1 : 48 ≤ t (5 * p + 1) ∧ t (5 * p + 1) ≤ 57 := by simpa [sGo] using g1
  have g2 : 48 ≤ t (5 * p + 2) ∧ t (5 * p + 2) ≤ 57 := by simpa [sGo] using g2
  have g3 : 49 ≤ t (5 * p + 3) ∧ t (5 * p + 3) ≤ 57 := by simpa [sGo] using g3
  have k : 0 ≤ sK t p ∧ sK t p ≤ 2 := by unfold sK; (repeat' split) <;> omega
  refine ⟨k, by unfold sCan; omega, by unfold sLo; omega, ?_⟩
  unfold sSt sLo
  split <;> omega
section
variable {mem : zMem} {Q : Option zVal → zMem → Prop}
theorem ct_Pe_kindOf {b : Int} (hb : 0 ≤ b ∧ b ≤ 255) : zCip m_Pe_kindOf [vi b] mem (if b = 112 then 1 else if b = 99 then 2 else 0) := by
  refine zCt.of [some (vi b)] ok_Pe_kindOf (Nat.le_of_ble_eq_true rfl) rfl ?_
  refine zw_iload_n ok_Pe_kindOf rfl rfl ?_
  refine zw_bipush ok_Pe_kindOf rfl (by decide) ?_
  refine zw_icmp_ne 8 ok_Pe_kindOf rfl (by decide) (by omega) (fun h3 => ?_) (fun h3 => ?_)
  · rw [if_neg h3]
    refine zw_iload_n ok_Pe_kindOf rfl rfl ?_
    refine zw_bipush ok_Pe_kindOf rfl (by decide) ?_
    refine zw_icmp_ne 18 ok_Pe_kindOf rfl (by decide) (by omega) (fun h11 => ?_) (fun h11 => ?_)
    · rw [if_neg h11]
      refine zw_iconst ok_Pe_kindOf rfl ?_
      exact zw_iret ok_Pe_kindOf rfl rfl (⟨rfl, rfl⟩)
    · rw [if_pos h11]
      refine zw_iconst ok_Pe_kindOf rfl ?_
      refine zw_goto 19 ok_Pe_kindOf rfl (by decide) ?_
      exact zw_iret ok_Pe_kindOf rfl rfl (⟨rfl, rfl⟩)
  · rw [if_pos h3]
    refine zw_iconst ok_Pe_kindOf rfl ?_
    exact zw_iret ok_Pe_kindOf rfl rfl (⟨rfl, rfl⟩)
theorem ct_Pe_goesOn {k b : Int} (hk : 0 ≤ k ∧ k ≤ 4) (hb : 0 ≤ b ∧ b ≤ 255) : zCbp m_Pe_goesOn [vi k, vi b] mem (sGo k b) := by
  refine zCt.of [some (vi k), some (vi b)] ok_Pe_goesOn (Nat.le_of_ble_eq_true rfl) rfl ?_
  refine zw_iload_n ok_Pe_goesOn rfl rfl ?_
  have : k = 0 ∨ k = 3 ∨ k = 4 ∨ k = 1 ∨ k = 2 := by omega
  rcases this with rfl | rfl | rfl | rfl | rfl
  · refine zw_tin 36 ok_Pe_goesOn rfl (by omega) (by omega) rfl (by decide) ?_
    show AW _ _ _ _ _ (fun r m2 => r = some (vi (bi (decide (b = 111 ∨ b = 112 ∨ b = 99)))) ∧ m2 = mem)
    refine zw_iload_n ok_Pe_goesOn rfl rfl ?_
    refine zw_bipush ok_Pe_goesOn rfl (by decide) ?_
    refine zw_icmp_eq 54 ok_Pe_goesOn rfl (by decide) (by omega) (fun h39 => ?_) (fun h39 => ?_)
    · refine zw_iconst ok_Pe_goesOn rfl ?_
      refine zw_goto 59 ok_Pe_goesOn rfl (by decide) ?_
      exact zw_zret ok_Pe_goesOn rfl rfl (by first | exact Or.inl rfl | exact Or.inr rfl | exact bi01 _) (⟨by first | rw [bi_t (by omega)] | rw [bi_f (by omega)], rfl⟩)
    · refine zw_iload_n ok_Pe_goesOn rfl rfl ?_
      refine zw_bipush ok_Pe_goesOn rfl (by decide) ?_
      refine zw_icmp_eq 54 ok_Pe_goesOn rfl (by decide) (by omega) (fun h45 => ?_) (fun h45 => ?_)
      · refine zw_iconst ok_Pe_goesOn rfl ?_
        refine zw_goto 59 ok_Pe_goesOn rfl (by decide) ?_
        exact zw_zret ok_Pe_goesOn rfl rfl (by first | exact Or.inl rfl | exact Or.inr rfl | exact bi01 _) (⟨by first | rw [bi_t (by omega)] | rw [bi_f (by omega)], rfl⟩)
      · refine zw_iload_n ok_Pe_goesOn rfl rfl ?_
        refine zw_bipush ok_Pe_goesOn rfl (by decide) ?_
        refine zw_icmp_ne 58 ok_Pe_goesOn rfl (by decide) (by omega) (fun h51 => ?_) (fun h51 => ?_)
        · refine zw_iconst ok_Pe_goesOn rfl ?_
          exact zw_zret ok_Pe_goesOn rfl rfl (by first | exact Or.inl rfl | exact Or.inr rfl | exact bi01 _) (⟨by first | rw [bi_t (by omega)] | rw [bi_f (by omega)], rfl⟩)
        · refine zw_iconst ok_Pe_goesOn rfl ?_
          refine zw_goto 59 ok_Pe_goesOn rfl (by decide) ?_
          exact zw_zret ok_Pe_goesOn rfl rfl (by first | exact Or.inl rfl | exact Or.inr rfl | exact bi01 _) (⟨by first | rw [bi_t (by omega)] | rw [bi_f (by omega)], rfl⟩)
  · refine zw_tin 60 ok_Pe_goesOn rfl (by omega) (by omega) rfl (by decide) ?_
    show AW _ _ _ _ _ (fun r m2 => r = some (vi (bi (decide (49 ≤ b ∧ b ≤ 57)))) ∧ m2 = mem)
    refine zw_iload_n ok_Pe_goesOn rfl rfl ?_
    refine zw_bipush ok_Pe_goesOn rfl (by decide) ?_
    refine zw_bipush ok_Pe_goesOn rfl (by decide) ?_
    refine zw_Nbp ok_Pe_goesOn rfl ok_B_within lk_Pe_52 (by decide) rfl (Nat.le_of_ble_eq_true rfl) (ct_B_within (by omega)) ?_
    exact zw_zret ok_Pe_goesOn rfl rfl (by first | exact Or.inl rfl | exact Or.inr rfl | exact bi01 _) (⟨rfl, rfl⟩)
  · refine zw_tin 69 ok_Pe_goesOn rfl (by omega) (by omega) rfl (by decide) ?_
    show AW _ _ _ _ _ (fun r m2 => r = some (vi (bi (decide (b = 59)))) ∧ m2 = mem)
    refine zw_iload_n ok_Pe_goesOn rfl rfl ?_
    refine zw_bipush ok_Pe_goesOn rfl (by decide) ?_
    refine zw_icmp_ne 79 ok_Pe_goesOn rfl (by decide) (by omega) (fun h72 => ?_) (fun h72 => ?_)
    · refine zw_iconst ok_Pe_goesOn rfl ?_
      exact zw_zret ok_Pe_goesOn rfl rfl (by first | exact Or.inl rfl | exact Or.inr rfl | exact bi01 _) (⟨by first | rw [bi_t (by omega)] | rw [bi_f (by omega)], rfl⟩)
    · refine zw_iconst ok_Pe_goesOn rfl ?_
      refine zw_goto 80 ok_Pe_goesOn rfl (by decide) ?_
      exact zw_zret ok_Pe_goesOn rfl rfl (by first | exact Or.inl rfl | exact Or.inr rfl | exact bi01 _) (⟨by first | rw [bi_t (by omega)] | rw [bi_f (by omega)], rfl⟩)
  · refine zw_tin 81 ok_Pe_goesOn rfl (by omega) (by omega) rfl (by decide) ?_
    show AW _ _ _ _ _ (fun r m2 => r = some (vi (bi (decide (48 ≤ b ∧ b ≤ 57)))) ∧ m2 = mem)
    refine zw_iload_n ok_Pe_goesOn rfl rfl ?_
    refine zw_bipush ok_Pe_goesOn rfl (by decide) ?_
    refine zw_bipush ok_Pe_goesOn rfl (by decide) ?_
    refine zw_Nbp ok_Pe_goesOn rfl ok_B_within lk_Pe_52 (by decide) rfl (Nat.le_of_ble_eq_true rfl) (ct_B_within (by omega)) ?_
    exact zw_zret ok_Pe_goesOn rfl rfl (by first | exact Or.inl rfl | exact Or.inr rfl | exact bi01 _) (⟨rfl, rfl⟩)
  · refine zw_tin 81 ok_Pe_goesOn rfl (by omega) (by omega) rfl (by decide) ?_
    show AW _ _ _ _ _ (fun r m2 => r = some (vi (bi (decide (48 ≤ b ∧ b ≤ 57)))) ∧ m2 = mem)
    refine zw_iload_n ok_Pe_goesOn rfl rfl ?_
    refine zw_bipush ok_Pe_goesOn rfl (by decide) ?_
    refine zw_bipush ok_Pe_goesOn rfl (by decide) ?_
    refine zw_Nbp ok_Pe_goesOn rfl ok_B_within lk_Pe_52 (by decide) rfl (Nat.le_of_ble_eq_true rfl) (ct_B_within (by omega)) ?_
    exact zw_zret ok_Pe_goesOn rfl rfl (by first | exact Or.inl rfl | exact Or.inr rfl | exact bi01 _) (⟨rfl, rfl⟩)
/-- the text 0 in the class's cells -/
def tx0 (mem : zMem) (n : Int) (t : Int → Int) : Prop := mem 1 1 = n ∧ (0 ≤ n ∧ n ≤ 39) ∧ ∀ i, 0 ≤ i → i < n → mem 2 i = t i ∧ (0 ≤ t i ∧ t i ≤ 255)
theorem flt_loop {n : Int} {t : Int → Int} (h : tx0 mem n t) :
    ∀ (k : Nat) (i : Int), 0 ≤ i → i + k = n → (sScan t k i ≠ -1 → Q (some (vi (sScan t k i))) mem) → (sScan t k i = -1 → Q (some (vi (if n = 0 ∨ n % 5 = 4 then -1 else n))) mem) → AW m_Pe_faultOf 2 [some (vr 1), some (vi i)] [] mem Q := by
  obtain ⟨e, hn, ht⟩ := h
  intro k
  induction k with
  | zero =>
    intro i h0 hi hx hy
    have hy := hy rfl
    refine zw_iload_n ok_Pe_faultOf rfl rfl ?_
    refine zw_aload_n ok_Pe_faultOf rfl rfl ?_
    refine zw_geti ok_Pe_faultOf rfl fl_Pe_38 rfl rfl ?_
    refine zw_icmp_ge 39 ok_Pe_faultOf rfl (by decide) (by omega) (fun h7 => ?_) (fun h7 => ?_)
    · refine zw_aload_n ok_Pe_faultOf rfl rfl ?_
      refine zw_geti ok_Pe_faultOf rfl fl_Pe_38 rfl rfl ?_
      refine zw_if_eq 56 ok_Pe_faultOf rfl (by decide) (by omega) (fun h43 => ?_) (fun h43 => ?_)
      · refine zw_iconst ok_Pe_faultOf rfl ?_
        refine zw_goto 61 ok_Pe_faultOf rfl (by decide) ?_
        refine zw_istore_n ok_Pe_faultOf rfl rfl (by decide) ?_
        refine zw_iload_n ok_Pe_faultOf rfl rfl ?_
        refine zw_if_eq 70 ok_Pe_faultOf rfl (by decide) (by omega) (fun h63 => ?_) (fun h63 => ?_)
        · try (exfalso; omega)
          all_goals
            refine zw_aload_n ok_Pe_faultOf rfl rfl ?_
            refine zw_geti ok_Pe_faultOf rfl fl_Pe_38 rfl rfl ?_
            exact zw_iret ok_Pe_faultOf rfl rfl ((by first | (rw [if_pos (by omega)] at hy; exact hy) | (rw [if_neg (by omega)] at hy; rw [e]; exact hy)))
        · try (exfalso; omega)
          all_goals
            refine zw_iconst ok_Pe_faultOf rfl ?_
            refine zw_goto 74 ok_Pe_faultOf rfl (by decide) ?_
            exact zw_iret ok_Pe_faultOf rfl rfl ((by first | (rw [if_pos (by omega)] at hy; exact hy) | (rw [if_neg (by omega)] at hy; rw [e]; exact hy)))
      · refine zw_aload_n ok_Pe_faultOf rfl rfl ?_
        refine zw_geti ok_Pe_faultOf rfl fl_Pe_38 rfl rfl ?_
        refine zw_iconst ok_Pe_faultOf rfl ?_
        refine zw_irem ok_Pe_faultOf rfl (by omega) ?_
        rw [zrem_nn (by omega) (by omega), e]
        refine zw_iconst ok_Pe_faultOf rfl ?_
        refine zw_icmp_ne 60 ok_Pe_faultOf rfl (by decide) (by omega) (fun h53 => ?_) (fun h53 => ?_)
        · refine zw_iconst ok_Pe_faultOf rfl ?_
          refine zw_istore_n ok_Pe_faultOf rfl rfl (by decide) ?_
          refine zw_iload_n ok_Pe_faultOf rfl rfl ?_
          refine zw_if_eq 70 ok_Pe_faultOf rfl (by decide) (by omega) (fun h63 => ?_) (fun h63 => ?_)
          · try (exfalso; omega)
            all_goals
              refine zw_aload_n ok_Pe_faultOf rfl rfl ?_
              refine zw_geti ok_Pe_faultOf rfl fl_Pe_38 rfl rfl ?_
              exact zw_iret ok_Pe_faultOf rfl rfl ((by first | (rw [if_pos (by omega)] at hy; exact hy) | (rw [if_neg (by omega)] at hy; rw [e]; exact hy)))
          · try (exfalso; omega)
            all_goals
              refine zw_iconst ok_Pe_faultOf rfl ?_
              refine zw_goto 74 ok_Pe_faultOf rfl (by decide) ?_
              exact zw_iret ok_Pe_faultOf rfl rfl ((by first | (rw [if_pos (by omega)] at hy; exact hy) | (rw [if_neg (by omega)] at hy; rw [e]; exact hy)))
        · refine zw_iconst ok_Pe_faultOf rfl ?_
          refine zw_goto 61 ok_Pe_faultOf rfl (by decide) ?_
          refine zw_istore_n ok_Pe_faultOf rfl rfl (by decide) ?_
          refine zw_iload_n ok_Pe_faultOf rfl rfl ?_
          refine zw_if_eq 70 ok_Pe_faultOf rfl (by decide) (by omega) (fun h63 => ?_) (fun h63 => ?_)
          · try (exfalso; omega)
            all_goals
              refine zw_aload_n ok_Pe_faultOf rfl rfl ?_
              refine zw_geti ok_Pe_faultOf rfl fl_Pe_38 rfl rfl ?_
              exact zw_iret ok_Pe_faultOf rfl rfl ((by first | (rw [if_pos (by omega)] at hy; exact hy) | (rw [if_neg (by omega)] at hy; rw [e]; exact hy)))
          · try (exfalso; omega)
            all_goals
              refine zw_iconst ok_Pe_faultOf rfl ?_
              refine zw_goto 74 ok_Pe_faultOf rfl (by decide) ?_
              exact zw_iret ok_Pe_faultOf rfl rfl ((by first | (rw [if_pos (by omega)] at hy; exact hy) | (rw [if_neg (by omega)] at hy; rw [e]; exact hy)))
    · exfalso; omega
  | succ k ih =>
    intro i h0 hi hx hy
    have q := ht i h0 (by omega)
    unfold sScan at hx hy
    refine zw_iload_n ok_Pe_faultOf rfl rfl ?_
    refine zw_aload_n ok_Pe_faultOf rfl rfl ?_
    refine zw_geti ok_Pe_faultOf rfl fl_Pe_38 rfl rfl ?_
    refine zw_icmp_ge 39 ok_Pe_faultOf rfl (by decide) (by omega) (fun h7 => ?_) (fun h7 => ?_)
    · exfalso; omega
    · refine zw_iload_n ok_Pe_faultOf rfl rfl ?_
      refine zw_bipush ok_Pe_faultOf rfl (by decide) ?_
      refine zw_icmp_ge 31 ok_Pe_faultOf rfl (by decide) (by omega) (fun h13 => ?_) (fun h13 => ?_)
      · exfalso; omega
      · refine zw_iload_n ok_Pe_faultOf rfl rfl ?_
        refine zw_iconst ok_Pe_faultOf rfl ?_
        refine zw_irem ok_Pe_faultOf rfl (by omega) ?_
        rw [zrem_nn (by omega) (by omega)]
        refine zw_aload_n ok_Pe_faultOf rfl rfl ?_
        refine zw_getr ok_Pe_faultOf rfl fl_Pe_41 rfl rfl ?_
        refine zw_iload_n ok_Pe_faultOf rfl rfl ?_
        refine zw_iald ok_Pe_faultOf rfl rfl (by omega) ?_
        rw [q.1]
        refine zw_Sbp ok_Pe_faultOf rfl ok_Pe_goesOn lk_Pe_48 (by decide) rfl (Nat.le_of_ble_eq_true rfl) (ct_Pe_goesOn (by omega) (by omega)) ?_
        refine zw_ifne_b 33 ok_Pe_faultOf rfl (by decide) (fun h28 => ?_) (fun h28 => ?_)
        · rw [if_pos h28] at hx hy
          refine zw_iinc ok_Pe_faultOf rfl rfl rfl (by decide) ?_
          refine zw_goto 2 ok_Pe_faultOf rfl (by decide) ?_
          exact ih (i + 1) (by omega) (by omega) hx hy
        · rw [if_neg (by simp [h28])] at hx hy
          refine zw_iload_n ok_Pe_faultOf rfl rfl ?_
          exact zw_iret ok_Pe_faultOf rfl rfl (hx (by omega))
theorem ct_Pe_faultOf {n : Int} {t : Int → Int} (h : tx0 mem n t) : zCip m_Pe_faultOf [vr 1] mem (sFp n t) := by
  have hn := h.2.1
  refine zCt.of [some (vr 1), none] ok_Pe_faultOf (Nat.le_of_ble_eq_true rfl) rfl ?_
  refine zw_iconst ok_Pe_faultOf rfl ?_
  refine zw_istore_n ok_Pe_faultOf rfl rfl (by decide) ?_
  exact flt_loop h n.toNat 0 (by omega) (by omega) (fun q => ⟨by unfold sFp; rw [if_pos q], rfl⟩) (fun q => ⟨congrArg (fun z => some (vi z)) (by unfold sFp; rw [q]; simp), rfl⟩)
end
