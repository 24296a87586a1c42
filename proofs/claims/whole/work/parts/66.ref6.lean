/-! ===== the reference reads the people ===== -/
def tlv (k b : Int) : Int := if sGo k b = true then (if k = 0 then (if b = 112 then 1 else if b = 99 then 2 else 0) else if k = 4 then 0 else b - 48) else -9
def tlF (f : Int → Int) (a k v : Int) : Int → Int := if k = 0 then zupd f a v else if k = 1 then zupd f (a + 1) (10 * v) else if k = 2 then zupd f (a + 1) (f (a + 1) + v) else if k = 3 then zupd f (a + 2) v else f
theorem zput_same {mem : zMem} {k : Nat} : zput mem k (mem k) = mem := by
  funext q
  by_cases e : q = k
  · subst e; rw [zput_eq]
  · rw [zput_ne e]
section
variable {mem : zMem} {Q : Option zVal → zMem → Prop}
theorem ct_M_tellsOf {k b : Int} (hk : 0 ≤ k ∧ k ≤ 4) (hb : 0 ≤ b ∧ b ≤ 255) : zCip m_M_tellsOf [vi k, vi b] mem (tlv k b) := by
  refine zCt.of [some (vi k), some (vi b)] ok_M_tellsOf (Nat.le_of_ble_eq_true rfl) rfl ?_
  have : k = 0 ∨ k = 1 ∨ k = 2 ∨ k = 3 ∨ k = 4 := by omega
  rcases this with rfl | rfl | rfl | rfl | rfl
  · have e : tlv 0 b = if b = 111 then 0 else if b = 112 then 1 else if b = 99 then 2 else -9 := by
      show (if (decide (b = 111 ∨ b = 112 ∨ b = 99)) = true then (if b = 112 then 1 else if b = 99 then 2 else 0) else -9) = _
      simp only [decide_eq_true_eq]
      (repeat' split) <;> omega
    rw [e]
    refine zw_iload_n ok_M_tellsOf rfl rfl ?_
    refine zw_tin 36 ok_M_tellsOf rfl (by decide) (by decide) rfl (by decide) ?_
    refine zw_iload_n ok_M_tellsOf rfl rfl ?_
    refine zw_bipush ok_M_tellsOf rfl (by decide) ?_
    refine zw_icmp_ne 46 ok_M_tellsOf rfl (by decide) (by omega) (fun h39 => ?_) (fun h39 => ?_)
    · rw [if_neg h39]
      refine zw_iload_n ok_M_tellsOf rfl rfl ?_
      refine zw_bipush ok_M_tellsOf rfl (by decide) ?_
      refine zw_icmp_ne 56 ok_M_tellsOf rfl (by decide) (by omega) (fun h49 => ?_) (fun h49 => ?_)
      · rw [if_neg h49]
        refine zw_iload_n ok_M_tellsOf rfl rfl ?_
        refine zw_bipush ok_M_tellsOf rfl (by decide) ?_
        refine zw_icmp_ne 66 ok_M_tellsOf rfl (by decide) (by omega) (fun h59 => ?_) (fun h59 => ?_)
        · rw [if_neg h59]
          refine zw_bipush ok_M_tellsOf rfl (by decide) ?_
          exact zw_iret ok_M_tellsOf rfl rfl (⟨rfl, rfl⟩)
        · rw [if_pos h59]
          refine zw_iconst ok_M_tellsOf rfl ?_
          refine zw_goto 68 ok_M_tellsOf rfl (by decide) ?_
          exact zw_iret ok_M_tellsOf rfl rfl (⟨rfl, rfl⟩)
      · rw [if_pos h49]
        refine zw_iconst ok_M_tellsOf rfl ?_
        refine zw_goto 68 ok_M_tellsOf rfl (by decide) ?_
        exact zw_iret ok_M_tellsOf rfl rfl (⟨rfl, rfl⟩)
    · rw [if_pos h39]
      refine zw_iconst ok_M_tellsOf rfl ?_
      refine zw_goto 68 ok_M_tellsOf rfl (by decide) ?_
      exact zw_iret ok_M_tellsOf rfl rfl (⟨rfl, rfl⟩)
  · have e : tlv 1 b = if 48 ≤ b ∧ b ≤ 57 then b - 48 else -9 := by
      show (if (decide (48 ≤ b ∧ b ≤ 57)) = true then b - 48 else -9) = _
      simp only [decide_eq_true_eq]
    rw [e]
    refine zw_iload_n ok_M_tellsOf rfl rfl ?_
    refine zw_tin 106 ok_M_tellsOf rfl (by decide) (by decide) rfl (by decide) ?_
    refine zw_iload_n ok_M_tellsOf rfl rfl ?_
    refine zw_i2l ok_M_tellsOf rfl (by omega) ?_
    refine zw_ldc2 ok_M_tellsOf rfl kc_M_107 ?_
    refine zw_ldc2 ok_M_tellsOf rfl kc_M_105 ?_
    refine zw_Sbp ok_M_tellsOf rfl ok_M_in lk_M_70 (by decide) rfl (Nat.le_of_ble_eq_true rfl) (ct_M_in (by omega)) ?_
    first | refine zw_ifeq_d 127 ok_M_tellsOf rfl (by decide) (fun h117 => ?_) (fun h117 => ?_) | refine zw_ifeq_b 127 ok_M_tellsOf rfl (by decide) (fun h117 => ?_) (fun h117 => ?_) | refine zw_if_eq 127 ok_M_tellsOf rfl (by decide) (by omega) (fun h117 => ?_) (fun h117 => ?_)
    · rw [if_neg h117]
      refine zw_bipush ok_M_tellsOf rfl (by decide) ?_
      exact zw_iret ok_M_tellsOf rfl rfl (⟨rfl, rfl⟩)
    · rw [if_pos h117]
      refine zw_iload_n ok_M_tellsOf rfl rfl ?_
      refine zw_bipush ok_M_tellsOf rfl (by decide) ?_
      refine zw_isub ok_M_tellsOf rfl ?_
      refine zw_goto 129 ok_M_tellsOf rfl (by decide) ?_
      exact zw_iret ok_M_tellsOf rfl rfl (⟨rfl, rfl⟩)
  · have e : tlv 2 b = if 48 ≤ b ∧ b ≤ 57 then b - 48 else -9 := by
      show (if (decide (48 ≤ b ∧ b ≤ 57)) = true then b - 48 else -9) = _
      simp only [decide_eq_true_eq]
    rw [e]
    refine zw_iload_n ok_M_tellsOf rfl rfl ?_
    refine zw_tin 106 ok_M_tellsOf rfl (by decide) (by decide) rfl (by decide) ?_
    refine zw_iload_n ok_M_tellsOf rfl rfl ?_
    refine zw_i2l ok_M_tellsOf rfl (by omega) ?_
    refine zw_ldc2 ok_M_tellsOf rfl kc_M_107 ?_
    refine zw_ldc2 ok_M_tellsOf rfl kc_M_105 ?_
    refine zw_Sbp ok_M_tellsOf rfl ok_M_in lk_M_70 (by decide) rfl (Nat.le_of_ble_eq_true rfl) (ct_M_in (by omega)) ?_
    first | refine zw_ifeq_d 127 ok_M_tellsOf rfl (by decide) (fun h117 => ?_) (fun h117 => ?_) | refine zw_ifeq_b 127 ok_M_tellsOf rfl (by decide) (fun h117 => ?_) (fun h117 => ?_) | refine zw_if_eq 127 ok_M_tellsOf rfl (by decide) (by omega) (fun h117 => ?_) (fun h117 => ?_)
    · rw [if_neg h117]
      refine zw_bipush ok_M_tellsOf rfl (by decide) ?_
      exact zw_iret ok_M_tellsOf rfl rfl (⟨rfl, rfl⟩)
    · rw [if_pos h117]
      refine zw_iload_n ok_M_tellsOf rfl rfl ?_
      refine zw_bipush ok_M_tellsOf rfl (by decide) ?_
      refine zw_isub ok_M_tellsOf rfl ?_
      refine zw_goto 129 ok_M_tellsOf rfl (by decide) ?_
      exact zw_iret ok_M_tellsOf rfl rfl (⟨rfl, rfl⟩)
  · have e : tlv 3 b = if 49 ≤ b ∧ b ≤ 57 then b - 48 else -9 := by
      show (if (decide (49 ≤ b ∧ b ≤ 57)) = true then b - 48 else -9) = _
      simp only [decide_eq_true_eq]
    rw [e]
    refine zw_iload_n ok_M_tellsOf rfl rfl ?_
    refine zw_tin 69 ok_M_tellsOf rfl (by decide) (by decide) rfl (by decide) ?_
    refine zw_iload_n ok_M_tellsOf rfl rfl ?_
    refine zw_i2l ok_M_tellsOf rfl (by omega) ?_
    refine zw_ldc2 ok_M_tellsOf rfl kc_M_103 ?_
    refine zw_ldc2 ok_M_tellsOf rfl kc_M_105 ?_
    refine zw_Sbp ok_M_tellsOf rfl ok_M_in lk_M_70 (by decide) rfl (Nat.le_of_ble_eq_true rfl) (ct_M_in (by omega)) ?_
    first | refine zw_ifeq_d 90 ok_M_tellsOf rfl (by decide) (fun h80 => ?_) (fun h80 => ?_) | refine zw_ifeq_b 90 ok_M_tellsOf rfl (by decide) (fun h80 => ?_) (fun h80 => ?_) | refine zw_if_eq 90 ok_M_tellsOf rfl (by decide) (by omega) (fun h80 => ?_) (fun h80 => ?_)
    · rw [if_neg h80]
      refine zw_bipush ok_M_tellsOf rfl (by decide) ?_
      exact zw_iret ok_M_tellsOf rfl rfl (⟨rfl, rfl⟩)
    · rw [if_pos h80]
      refine zw_iload_n ok_M_tellsOf rfl rfl ?_
      refine zw_bipush ok_M_tellsOf rfl (by decide) ?_
      refine zw_isub ok_M_tellsOf rfl ?_
      refine zw_goto 92 ok_M_tellsOf rfl (by decide) ?_
      exact zw_iret ok_M_tellsOf rfl rfl (⟨rfl, rfl⟩)
  · have e : tlv 4 b = if b = 59 then 0 else -9 := by
      show (if (decide (b = 59)) = true then 0 else -9) = _
      simp only [decide_eq_true_eq]
    rw [e]
    refine zw_iload_n ok_M_tellsOf rfl rfl ?_
    refine zw_tin 93 ok_M_tellsOf rfl (by decide) (by decide) rfl (by decide) ?_
    refine zw_iload_n ok_M_tellsOf rfl rfl ?_
    refine zw_bipush ok_M_tellsOf rfl (by decide) ?_
    refine zw_icmp_ne 103 ok_M_tellsOf rfl (by decide) (by omega) (fun h96 => ?_) (fun h96 => ?_)
    · rw [if_neg h96]
      refine zw_bipush ok_M_tellsOf rfl (by decide) ?_
      exact zw_iret ok_M_tellsOf rfl rfl (⟨rfl, rfl⟩)
    · rw [if_pos h96]
      refine zw_iconst ok_M_tellsOf rfl ?_
      refine zw_goto 105 ok_M_tellsOf rfl (by decide) ?_
      exact zw_iret ok_M_tellsOf rfl rfl (⟨rfl, rfl⟩)
theorem ct_M_tells {a k v : Int} (ha : 0 ≤ a ∧ a ≤ 21) (hk : 0 ≤ k ∧ k ≤ 4) : zCvp m_M_tells [vr 48, vi a, vi k, vi v] mem (zput mem 55 (tlF (mem 55) a k v)) := by
  refine zCt.of [some (vr 48), some (vi a), some (vi k), some (vi v)] ok_M_tells (Nat.le_of_ble_eq_true rfl) rfl ?_
  unfold tlF
  refine zw_iload_n ok_M_tells rfl rfl ?_
  refine zw_if_ne 14 ok_M_tells rfl (by decide) (by omega) (fun h1 => ?_) (fun h1 => ?_)
  · rw [if_neg h1]
    refine zw_iload_n ok_M_tells rfl rfl ?_
    refine zw_iconst ok_M_tells rfl ?_
    refine zw_icmp_ne 34 ok_M_tells rfl (by decide) (by omega) (fun h16 => ?_) (fun h16 => ?_)
    · rw [if_neg h16]
      refine zw_iload_n ok_M_tells rfl rfl ?_
      refine zw_iconst ok_M_tells rfl ?_
      refine zw_icmp_ne 54 ok_M_tells rfl (by decide) (by omega) (fun h36 => ?_) (fun h36 => ?_)
      · rw [if_neg h36]
        refine zw_iload_n ok_M_tells rfl rfl ?_
        refine zw_iconst ok_M_tells rfl ?_
        refine zw_icmp_ne 68 ok_M_tells rfl (by decide) (by omega) (fun h56 => ?_) (fun h56 => ?_)
        · rw [if_neg h56, zput_same]
          exact zw_vret ok_M_tells rfl rfl (⟨rfl, rfl⟩)
        · rw [if_pos h56]
          refine zw_aload_n ok_M_tells rfl rfl ?_
          refine zw_getr ok_M_tells rfl fl_M_28 rfl rfl ?_
          refine zw_iload_n ok_M_tells rfl rfl ?_
          refine zw_iconst ok_M_tells rfl ?_
          refine zw_iadd ok_M_tells rfl ?_
          refine zw_iload_n ok_M_tells rfl rfl ?_
          refine zw_iast ok_M_tells rfl rfl (by omega) ?_
          exact zw_vret ok_M_tells rfl rfl (⟨rfl, rfl⟩)
      · rw [if_pos h36]
        refine zw_aload_n ok_M_tells rfl rfl ?_
        refine zw_getr ok_M_tells rfl fl_M_28 rfl rfl ?_
        refine zw_iload_n ok_M_tells rfl rfl ?_
        refine zw_iconst ok_M_tells rfl ?_
        refine zw_iadd ok_M_tells rfl ?_
        refine zw_dup2 ok_M_tells rfl ?_
        refine zw_iald ok_M_tells rfl rfl (by omega) ?_
        refine zw_iload_n ok_M_tells rfl rfl ?_
        refine zw_iadd ok_M_tells rfl ?_
        refine zw_iast ok_M_tells rfl rfl (by omega) ?_
        refine zw_goto 68 ok_M_tells rfl (by decide) ?_
        exact zw_vret ok_M_tells rfl rfl (⟨rfl, rfl⟩)
    · rw [if_pos h16]
      refine zw_aload_n ok_M_tells rfl rfl ?_
      refine zw_getr ok_M_tells rfl fl_M_28 rfl rfl ?_
      refine zw_iload_n ok_M_tells rfl rfl ?_
      refine zw_iconst ok_M_tells rfl ?_
      refine zw_iadd ok_M_tells rfl ?_
      refine zw_bipush ok_M_tells rfl (by decide) ?_
      refine zw_iload_n ok_M_tells rfl rfl ?_
      refine zw_imul ok_M_tells rfl ?_
      refine zw_iast ok_M_tells rfl rfl (by omega) ?_
      refine zw_goto 68 ok_M_tells rfl (by decide) ?_
      exact zw_vret ok_M_tells rfl rfl (⟨rfl, rfl⟩)
  · rw [if_pos h1]
    refine zw_aload_n ok_M_tells rfl rfl ?_
    refine zw_getr ok_M_tells rfl fl_M_28 rfl rfl ?_
    refine zw_iload_n ok_M_tells rfl rfl ?_
    refine zw_iload_n ok_M_tells rfl rfl ?_
    refine zw_iast ok_M_tells rfl rfl (by omega) ?_
    refine zw_goto 68 ok_M_tells rfl (by decide) ?_
    exact zw_vret ok_M_tells rfl rfl (⟨rfl, rfl⟩)
/-- the first i bytes are read -/
def rdP (f t : Int → Int) (i : Int) : Prop := ∀ p, 0 ≤ p → (5 * p < i → f (3 * p) = sK t p) ∧ (5 * p + 1 < i → f (3 * p + 1) = if 5 * p + 2 < i then sCan t p else 10 * (t (5 * p + 1) - 48)) ∧ (5 * p + 3 < i → f (3 * p + 2) = sLo t p)
theorem rdP_step {f t : Int → Int} {i : Int} (hi : 0 ≤ i) (h : rdP f t i) (hg : sGo (i % 5) (t i) = true) : rdP (tlF f (3 * (i / 5)) (i % 5) (tlv (i % 5) (t i))) t (i + 1) := by
  unfold tlv
  rw [if_pos hg]
  have h5 : i % 5 = 0 ∨ i % 5 = 1 ∨ i % 5 = 2 ∨ i % 5 = 3 ∨ i % 5 = 4 := by omega
  generalize hq : i / 5 = q
  intro p p0
  obtain ⟨h1, h2, h3⟩ := h p p0
  unfold tlF
  rcases h5 with r | r | r | r | r <;> rw [r]
  · have ei : i = 5 * q := by omega
    rw [if_pos rfl, if_pos rfl]
    by_cases e : p = q
    · subst e
      refine ⟨fun _ => ?_, fun z => by omega, fun z => by omega⟩
      rw [zupd_eq]; unfold sK; rw [ei]
    · rw [zupd_ne (show 3 * p ≠ 3 * q by omega), zupd_ne (show 3 * p + 1 ≠ 3 * q by omega), zupd_ne (show 3 * p + 2 ≠ 3 * q by omega)]
      refine ⟨fun z => h1 (by omega), fun z => ?_, fun z => h3 (by omega)⟩
      rw [h2 (by omega)]
      by_cases w : 5 * p + 2 < i
      · rw [if_pos w, if_pos (by omega)]
      · rw [if_neg w, if_neg (by omega)]
  · have ei : i = 5 * q + 1 := by omega
    rw [if_neg (by decide), if_pos rfl, if_neg (by decide), if_neg (by decide)]
    by_cases e : p = q
    · subst e
      rw [zupd_ne (show 3 * p ≠ 3 * p + 1 by omega), zupd_eq]
      refine ⟨fun _ => h1 (by omega), fun z => ?_, fun z => by omega⟩
      rw [if_neg (by omega), ei]
    · rw [zupd_ne (show 3 * p ≠ 3 * q + 1 by omega), zupd_ne (show 3 * p + 1 ≠ 3 * q + 1 by omega), zupd_ne (show 3 * p + 2 ≠ 3 * q + 1 by omega)]
      refine ⟨fun z => h1 (by omega), fun z => ?_, fun z => h3 (by omega)⟩
      rw [h2 (by omega)]
      by_cases w : 5 * p + 2 < i
      · rw [if_pos w, if_pos (by omega)]
      · rw [if_neg w, if_neg (by omega)]
  · have ei : i = 5 * q + 2 := by omega
    rw [if_neg (by decide), if_neg (by decide), if_pos rfl, if_neg (by decide), if_neg (by decide)]
    by_cases e : p = q
    · subst e
      rw [zupd_ne (show 3 * p ≠ 3 * p + 1 by omega), zupd_eq]
      refine ⟨fun _ => h1 (by omega), fun z => ?_, fun z => by omega⟩
      rw [if_pos (by omega), h2 (by omega), if_neg (by omega), ei]
      unfold sCan
      omega
    · rw [zupd_ne (show 3 * p ≠ 3 * q + 1 by omega), zupd_ne (show 3 * p + 1 ≠ 3 * q + 1 by omega), zupd_ne (show 3 * p + 2 ≠ 3 * q + 1 by omega)]
      refine ⟨fun z => h1 (by omega), fun z => ?_, fun z => h3 (by omega)⟩
      rw [h2 (by omega)]
      by_cases w : 5 * p + 2 < i
      · rw [if_pos w, if_pos (by omega)]
      · rw [if_neg w, if_neg (by omega)]
  · have ei : i = 5 * q + 3 := by omega
    rw [if_neg (by decide), if_neg (by decide), if_neg (by decide), if_pos rfl, if_neg (by decide), if_neg (by decide)]
    by_cases e : p = q
    · subst e
      rw [zupd_ne (show 3 * p ≠ 3 * p + 2 by omega), zupd_ne (show 3 * p + 1 ≠ 3 * p + 2 by omega), zupd_eq]
      refine ⟨fun _ => h1 (by omega), fun z => ?_, fun z => ?_⟩
      · rw [h2 (by omega), if_pos (by omega), if_pos (by omega)]
      · unfold sLo; rw [ei]
    · rw [zupd_ne (show 3 * p ≠ 3 * q + 2 by omega), zupd_ne (show 3 * p + 1 ≠ 3 * q + 2 by omega), zupd_ne (show 3 * p + 2 ≠ 3 * q + 2 by omega)]
      refine ⟨fun z => h1 (by omega), fun z => ?_, fun z => h3 (by omega)⟩
      rw [h2 (by omega)]
      by_cases w : 5 * p + 2 < i
      · rw [if_pos w, if_pos (by omega)]
      · rw [if_neg w, if_neg (by omega)]
  · rw [if_neg (by decide), if_neg (by decide), if_neg (by decide), if_neg (by decide)]
    refine ⟨fun z => h1 (by omega), fun z => ?_, fun z => h3 (by omega)⟩
    rw [h2 (by omega)]
    by_cases w : 5 * p + 2 < i
    · rw [if_pos w, if_pos (by omega)]
    · rw [if_neg w, if_neg (by omega)]
theorem tlv_r {k b : Int} (hb : 0 ≤ b ∧ b ≤ 255) (h : sGo k b = true) : 0 ≤ tlv k b ∧ tlv k b ≤ 207 := by
  unfold tlv
  rw [if_pos h]
  unfold sGo at h
  (repeat' split at h) <;> (have h := of_decide_eq_true h) <;> (repeat' split) <;> omega
theorem rp_loop {n : Int} {t : Int → Int} {m0 : zMem} (hn : 0 ≤ n ∧ n ≤ 39) (ht : ∀ i, 0 ≤ i → i < n → m0 53 i = t i ∧ (0 ≤ t i ∧ t i ≤ 255)) :
    ∀ (k : Nat) (i : Int) (m : zMem), 0 ≤ i → i + k = n → mfr [7] [55] m0 m → m 48 7 = (i + 1) / 5 → rdP (m 55) t i →
      (∀ m2, sScan t k i ≠ -1 → mfr [7] [55] m0 m2 → m2 48 7 = 0 → Q (some (vi (sScan t k i))) m2) →
      (∀ m2, sScan t k i = -1 → mfr [7] [55] m0 m2 → m2 48 7 = (n + 1) / 5 → rdP (m2 55) t n → AW m_M_readsPeople 86 [some (vr 48), some (vi n), none, none, none] [] m2 Q) →
      AW m_M_readsPeople 14 [some (vr 48), some (vi n), some (vi i), none, none] [] m Q := by
  intro k
  induction k with
  | zero =>
    intro i m h0 h1 hf hp hr hx1 hx2
    have e : i = n := by omega
    subst e
    refine zw_iload_n ok_M_readsPeople rfl rfl ?_
    refine zw_iload_n ok_M_readsPeople rfl rfl ?_
    refine zw_icmp_ge 86 ok_M_readsPeople rfl (by decide) (by omega) (fun h16 => ?_) (fun h16 => ?_)
    · exact zw_mask [true, true, false, false, false] rfl (hx2 m rfl hf hp hr)
    · exfalso; omega
  | succ k ih =>
    intro i m h0 h1 hf hp hr hx1 hx2
    have c := ht i h0 (by omega)
    have e53 : m 53 i = t i := by rw [hf.1 53 (by decide) (by decide)]; exact c.1
    unfold sScan at hx1 hx2
    by_cases hg : sGo (i % 5) (t i) = true
    · rw [if_pos hg] at hx1 hx2
      have hs := rdP_step h0 hr hg
      have hv := tlv_r c.2 hg
      have kt : zCip m_M_tellsOf [vi (i % 5), vi (t i)] m (tlv (i % 5) (t i)) := ct_M_tellsOf (by omega) c.2
      generalize tlv (i % 5) (t i) = v at hs hv kt
      have nx : ∀ w, m 48 7 + w = (i + 1 + 1) / 5 → AW m_M_readsPeople 80 [some (vr 48), some (vi n), some (vi i), some (vi (i % 5)), some (vi v)] [] (zset (zput m 55 (tlF (m 55) (3 * (i / 5)) (i % 5) v)) 48 7 (m 48 7 + w)) Q := by
        intro w hw
        refine zw_iinc ok_M_readsPeople rfl rfl rfl (by decide) ?_
        refine zw_goto 14 ok_M_readsPeople rfl (by decide) ?_
        refine zw_mask [true, true, true, false, false] rfl (ih (i + 1) _ (by omega) (by omega) ?_ ?_ ?_ hx1 hx2)
        · refine mfr.setj (mfr.tr hf ?_) (by decide)
          exact ⟨fun q q1 q2 => zput_ne (fun e : q = 55 => q2 (by rw [e]; decide)), fun j _ => rfl⟩
        · rw [zset_eq, zupd_eq, hw]
        · rw [zset_ne (by decide), zput_eq]
          exact hs
      refine zw_iload_n ok_M_readsPeople rfl rfl ?_
      refine zw_iload_n ok_M_readsPeople rfl rfl ?_
      refine zw_icmp_ge 86 ok_M_readsPeople rfl (by decide) (by omega) (fun h16 => ?_) (fun h16 => ?_)
      · exfalso; omega
      · refine zw_iload_n ok_M_readsPeople rfl rfl ?_
        refine zw_iconst ok_M_readsPeople rfl ?_
        refine zw_irem ok_M_readsPeople rfl (by omega) ?_
        rw [zrem_nn (by omega) (by omega)]
        refine zw_istore_n ok_M_readsPeople rfl rfl (by decide) ?_
        refine zw_iload_n ok_M_readsPeople rfl rfl ?_
        refine zw_aload_n ok_M_readsPeople rfl rfl ?_
        refine zw_getr ok_M_readsPeople rfl fl_M_22 rfl rfl ?_
        refine zw_iload_n ok_M_readsPeople rfl rfl ?_
        refine zw_iald ok_M_readsPeople rfl rfl (by omega) ?_
        rw [e53]
        refine zw_Sip ok_M_readsPeople rfl ok_M_tellsOf lk_M_112 (by decide) rfl (Nat.le_of_ble_eq_true rfl) (kt) ?_
        refine zw_istore ok_M_readsPeople rfl rfl (by decide) ?_
        refine zw_iload ok_M_readsPeople rfl rfl ?_
        refine zw_bipush ok_M_readsPeople rfl (by decide) ?_
        refine zw_icmp_ne 49 ok_M_readsPeople rfl (by decide) (by omega) (fun h39 => ?_) (fun h39 => ?_)
        · refine zw_aload_n ok_M_readsPeople rfl rfl ?_
          refine zw_iconst ok_M_readsPeople rfl ?_
          refine zw_iload_n ok_M_readsPeople rfl rfl ?_
          refine zw_iconst ok_M_readsPeople rfl ?_
          refine zw_idiv ok_M_readsPeople rfl (by omega) ?_
          rw [zdiv_nn (by omega) (by omega)]
          refine zw_imul ok_M_readsPeople rfl ?_
          refine zw_iload_n ok_M_readsPeople rfl rfl ?_
          refine zw_iload ok_M_readsPeople rfl rfl ?_
          refine zw_Vvp ok_M_readsPeople rfl ok_M_tells lk_M_115 (by decide) rfl rfl (Nat.le_of_ble_eq_true rfl) (ct_M_tells (by omega) (by omega)) ?_
          refine zw_aload_n ok_M_readsPeople rfl rfl ?_
          first | refine zw_dupi ok_M_readsPeople rfl ?_ | refine zw_dupr ok_M_readsPeople rfl ?_
          refine zw_geti ok_M_readsPeople rfl fl_M_109 rfl rfl ?_
          rw [show zput m 55 (tlF (m 55) (3 * (i / 5)) (i % 5) v) 48 7 = m 48 7 from rfl]
          refine zw_iload_n ok_M_readsPeople rfl rfl ?_
          refine zw_iconst ok_M_readsPeople rfl ?_
          refine zw_icmp_ne 75 ok_M_readsPeople rfl (by decide) (by omega) (fun h68 => ?_) (fun h68 => ?_)
          · refine zw_iconst ok_M_readsPeople rfl ?_
            refine zw_iadd ok_M_readsPeople rfl ?_
            refine zw_puti ok_M_readsPeople rfl fp_M_109 rfl rfl ?_
            exact nx _ (by omega)
          · refine zw_iconst ok_M_readsPeople rfl ?_
            refine zw_goto 76 ok_M_readsPeople rfl (by decide) ?_
            refine zw_iadd ok_M_readsPeople rfl ?_
            refine zw_puti ok_M_readsPeople rfl fp_M_109 rfl rfl ?_
            exact nx _ (by omega)
        · exfalso; omega
    · rw [if_neg hg] at hx1
      have ev : tlv (i % 5) (t i) = -9 := by unfold tlv; rw [if_neg hg]
      refine zw_iload_n ok_M_readsPeople rfl rfl ?_
      refine zw_iload_n ok_M_readsPeople rfl rfl ?_
      refine zw_icmp_ge 86 ok_M_readsPeople rfl (by decide) (by omega) (fun h16 => ?_) (fun h16 => ?_)
      · exfalso; omega
      · refine zw_iload_n ok_M_readsPeople rfl rfl ?_
        refine zw_iconst ok_M_readsPeople rfl ?_
        refine zw_irem ok_M_readsPeople rfl (by omega) ?_
        rw [zrem_nn (by omega) (by omega)]
        refine zw_istore_n ok_M_readsPeople rfl rfl (by decide) ?_
        refine zw_iload_n ok_M_readsPeople rfl rfl ?_
        refine zw_aload_n ok_M_readsPeople rfl rfl ?_
        refine zw_getr ok_M_readsPeople rfl fl_M_22 rfl rfl ?_
        refine zw_iload_n ok_M_readsPeople rfl rfl ?_
        refine zw_iald ok_M_readsPeople rfl rfl (by omega) ?_
        rw [e53]
        refine zw_Sip ok_M_readsPeople rfl ok_M_tellsOf lk_M_112 (by decide) rfl (Nat.le_of_ble_eq_true rfl) (ct_M_tellsOf (by omega) c.2) ?_
        rw [ev]
        refine zw_istore ok_M_readsPeople rfl rfl (by decide) ?_
        refine zw_iload ok_M_readsPeople rfl rfl ?_
        refine zw_bipush ok_M_readsPeople rfl (by decide) ?_
        refine zw_icmp_ne 49 ok_M_readsPeople rfl (by decide) (by omega) (fun h39 => ?_) (fun h39 => ?_)
        · exact absurd rfl h39
        · refine zw_aload_n ok_M_readsPeople rfl rfl ?_
          refine zw_iconst ok_M_readsPeople rfl ?_
          refine zw_puti ok_M_readsPeople rfl fp_M_109 rfl rfl ?_
          refine zw_iload_n ok_M_readsPeople rfl rfl ?_
          exact zw_iret ok_M_readsPeople rfl rfl (hx1 _ (by omega) (mfr.setj hf (by decide)) (by rw [zset_eq, zupd_eq]))
theorem rp_t1 {n : Int} {m : zMem} (hn : 0 ≤ n ∧ n ≤ 39) (hc : n = 0 ∨ n % 5 = 4) (hx : Q (some (vi (-1))) m) : AW m_M_readsPeople 86 [some (vr 48), some (vi n), none, none, none] [] m Q := by
  refine zw_iload_n ok_M_readsPeople rfl rfl ?_
  refine zw_if_le 104 ok_M_readsPeople rfl (by decide) (by omega) (fun h87 => ?_) (fun h87 => ?_)
  · refine zw_iconst ok_M_readsPeople rfl ?_
    exact zw_iret ok_M_readsPeople rfl rfl (hx)
  · refine zw_iload_n ok_M_readsPeople rfl rfl ?_
    refine zw_iconst ok_M_readsPeople rfl ?_
    refine zw_irem ok_M_readsPeople rfl (by omega) ?_
    rw [zrem_nn (by omega) (by omega)]
    refine zw_iconst ok_M_readsPeople rfl ?_
    refine zw_icmp_eq 104 ok_M_readsPeople rfl (by decide) (by omega) (fun h94 => ?_) (fun h94 => ?_)
    · refine zw_iconst ok_M_readsPeople rfl ?_
      exact zw_iret ok_M_readsPeople rfl rfl (hx)
    · exfalso; omega
theorem rp_t2 {n : Int} {m : zMem} (hn : 0 ≤ n ∧ n ≤ 39) (hc : ¬ (n = 0 ∨ n % 5 = 4)) (hx : Q (some (vi n)) (zset m 48 7 0)) : AW m_M_readsPeople 86 [some (vr 48), some (vi n), none, none, none] [] m Q := by
  refine zw_iload_n ok_M_readsPeople rfl rfl ?_
  refine zw_if_le 104 ok_M_readsPeople rfl (by decide) (by omega) (fun h87 => ?_) (fun h87 => ?_)
  · exfalso; omega
  · refine zw_iload_n ok_M_readsPeople rfl rfl ?_
    refine zw_iconst ok_M_readsPeople rfl ?_
    refine zw_irem ok_M_readsPeople rfl (by omega) ?_
    rw [zrem_nn (by omega) (by omega)]
    refine zw_iconst ok_M_readsPeople rfl ?_
    refine zw_icmp_eq 104 ok_M_readsPeople rfl (by decide) (by omega) (fun h94 => ?_) (fun h94 => ?_)
    · exfalso; omega
    · refine zw_aload_n ok_M_readsPeople rfl rfl ?_
      refine zw_iconst ok_M_readsPeople rfl ?_
      refine zw_puti ok_M_readsPeople rfl fp_M_109 rfl rfl ?_
      refine zw_iload_n ok_M_readsPeople rfl rfl ?_
      exact zw_iret ok_M_readsPeople rfl rfl (hx)
theorem ct_M_readsPeople {n : Int} {t : Int → Int} (h54 : mem 54 0 = n) (hn : 0 ≤ n ∧ n ≤ 39) (ht : ∀ i, 0 ≤ i → i < n → mem 53 i = t i ∧ (0 ≤ t i ∧ t i ≤ 255)) : zCi m_M_readsPeople [vr 48] mem (sFp n t) (fun m2 => mfr [7] [55] mem m2 ∧ m2 48 7 = sP n t ∧ ∀ p, 0 ≤ p → p < sP n t → m2 55 (3 * p) = sK t p ∧ m2 55 (3 * p + 1) = sCan t p ∧ m2 55 (3 * p + 2) = sLo t p) := by
  refine zCt.of [some (vr 48), none, none, none, none] ok_M_readsPeople (Nat.le_of_ble_eq_true rfl) rfl ?_
  refine zw_aload_n ok_M_readsPeople rfl rfl ?_
  refine zw_iconst ok_M_readsPeople rfl ?_
  refine zw_puti ok_M_readsPeople rfl fp_M_109 rfl rfl ?_
  refine zw_aload_n ok_M_readsPeople rfl rfl ?_
  refine zw_getr ok_M_readsPeople rfl fl_M_25 rfl rfl ?_
  refine zw_iconst ok_M_readsPeople rfl ?_
  refine zw_iald ok_M_readsPeople rfl rfl (by omega) ?_
  rw [zset_ne (show (54 : Nat) ≠ 48 by decide), h54]
  refine zw_istore_n ok_M_readsPeople rfl rfl (by decide) ?_
  refine zw_iconst ok_M_readsPeople rfl ?_
  refine zw_istore_n ok_M_readsPeople rfl rfl (by decide) ?_
  refine rp_loop (m0 := mem) hn ht n.toNat 0 _ (by omega) (by omega) (mfr.setj mfr.rf (by decide)) (by rw [zset_eq, zupd_eq]; decide) (fun p p0 => ⟨fun z => by omega, fun z => by omega, fun z => by omega⟩) (fun m2 hs hf h0 => ?_) (fun m2 hs hf h7 hr => ?_)
  · have e1 : sFp n t = sScan t n.toNat 0 := by unfold sFp; rw [if_pos hs]
    have e2 : sP n t = 0 := by unfold sP; rw [if_neg (by rw [e1]; exact hs)]
    exact ⟨by rw [e1], hf, by rw [h0, e2], fun p p0 p1 => by rw [e2] at p1; omega⟩
  · have e1 : sFp n t = if n = 0 ∨ n % 5 = 4 then -1 else n := by unfold sFp; rw [if_neg (fun z => z hs)]
    by_cases hc : n = 0 ∨ n % 5 = 4
    · rw [if_pos hc] at e1
      have e2 : sP n t = (n + 1) / 5 := by unfold sP; rw [if_pos e1]
      exact rp_t1 hn hc ⟨by rw [e1], hf, by rw [e2, h7], fun p p0 p1 => by have r := hr p p0; refine ⟨r.1 (by omega), ?_, r.2.2 (by omega)⟩; rw [r.2.1 (by omega), if_pos (by omega)]⟩
    · rw [if_neg hc] at e1
      have e2 : sP n t = 0 := by unfold sP; rw [if_neg (by omega)]
      exact rp_t2 hn hc ⟨by rw [e1], mfr.setj hf (by decide), by rw [zset_eq, zupd_eq, e2], fun p p0 p1 => by omega⟩
end
