/-! ===== LowerBows: texts, ledgers ===== -/
/-- class cells only -/
def cls48 (mem m2 : zMem) : Prop := ∀ k, 48 ≤ k → m2 k = mem k
theorem cls48.tr {a b c : zMem} (h : cls48 a b) (h2 : cls48 b c) : cls48 a c := fun k hk => (h2 k hk).trans (h k hk)
theorem cls48.fr {L : List Nat} {a b : zMem} (h : zfr L a b) (hL : ∀ k ∈ L, k < 48) : cls48 a b := fun k hk => h k (fun q => by have := hL k q; omega)
theorem cls48.st {a : zMem} {k : Nat} {i v : Int} (hk : k < 48) : cls48 a (zset a k i v) := fun q hq => zset_ne (by omega)
section
variable {mem τ : zMem} {Q : Option zVal → zMem → Prop}
/-- behind a change of text 0 that people and walks' cells follow -/
theorem CI_t0 {m m2 τ2 : zMem} (hI : CI mem τ) (hτ : tauI τ2) (h1 : τ2 1 = τ 1) (hk : ∀ k, 3 ≤ k → τ2 k = τ k) (h2 : ∀ j, 1 ≤ j → τ2 2 j = τ 2 j) (hm : ∀ k, k ≠ 1 → k ≠ 2 → m k = mem k) (ht : tx0 m (τ2 2 0) (τ2 0)) (hp : pplC m2 (τ2 2 0) (τ2 0)) (hf : zfr [5, 6, 7, 8, 9] m m2) : CI m2 τ2 := by
  have hf2 : ∀ k, k ∉ [5, 6, 7, 8, 9] → k ≠ 1 → k ≠ 2 → m2 k = mem k := fun k a b c => (hf k a).trans (hm k b c)
  obtain ⟨-, ⟨t0, t1⟩, ⟨hp0, hw⟩, ⟨e12, e16, e20, e0⟩, co, cu, cs, csh⟩ := hI
  refine ⟨hτ, ⟨⟨?_, ht.2.1, ?_⟩, ?_⟩, ⟨hp, ?_⟩, ⟨?_, ?_, ?_, ?_⟩, ?_, ?_, ?_, ?_⟩
  · rw [hf 1 (by decide)]; exact ht.1
  · rw [hf 2 (by decide)]; exact ht.2.2
  · unfold tx1; rw [h2 1 (by decide), h1, hf2 3 (by decide) (by decide) (by decide), hf2 4 (by decide) (by decide) (by decide)]; exact t1
  · unfold wlkC; rw [h2 1 (by decide), h1, hf2 10 (by decide) (by decide) (by decide), hf2 11 (by decide) (by decide) (by decide)]; exact hw
  · rw [h2 2 (by decide), hf2 12 (by decide) (by decide) (by decide)]; exact e12
  · rw [h2 3 (by decide), hf2 16 (by decide) (by decide) (by decide)]; exact e16
  · rw [h2 4 (by decide), hf2 20 (by decide) (by decide) (by decide)]; exact e20
  · rw [h2 5 (by decide), hf2 0 (by decide) (by decide) (by decide)]; exact e0
  · rw [h2 2 (by decide), hk 3 (by decide), hk 4 (by decide), hk 5 (by decide), hf2 13 (by decide) (by decide) (by decide), hf2 14 (by decide) (by decide) (by decide), hf2 15 (by decide) (by decide) (by decide)]; exact co
  · rw [h2 3 (by decide), hk 6 (by decide), hk 7 (by decide), hf2 17 (by decide) (by decide) (by decide), hf2 18 (by decide) (by decide) (by decide)]; exact cu
  · rw [h2 4 (by decide), hk 8 (by decide), hk 9 (by decide), hk 10 (by decide), hf2 21 (by decide) (by decide) (by decide), hf2 22 (by decide) (by decide) (by decide), hf2 23 (by decide) (by decide) (by decide)]; exact cs
  · intro s q1 q2
    have := csh s q1 q2
    unfold shC shR at *
    rw [hk 11 (by decide), hk 12 (by decide), hk (13 + s.toNat) (by omega), hf2 (40 + 2 * s.toNat) (by simp; omega) (by omega) (by omega), hf2 (41 + 2 * s.toNat) (by simp; omega) (by omega) (by omega)]
    exact this
theorem CI_t1 {m m2 τ2 : zMem} (hI : CI mem τ) (hτ : tauI τ2) (h1 : τ2 0 = τ 0) (hk : ∀ k, 3 ≤ k → τ2 k = τ k) (h2 : ∀ j, j ≠ 1 → τ2 2 j = τ 2 j) (hm : ∀ k, k ≠ 3 → k ≠ 4 → m k = mem k) (ht : tx1 m (τ2 2 1) (τ2 1)) (hp : wlkC m2 (τ2 2 1) (τ2 1)) (hf : zfr [10, 11] m m2) : CI m2 τ2 := by
  have hf2 : ∀ k, k ∉ [10, 11] → k ≠ 3 → k ≠ 4 → m2 k = mem k := fun k a b c => (hf k a).trans (hm k b c)
  obtain ⟨-, ⟨t0, t1⟩, ⟨hp0, hw⟩, ⟨e12, e16, e20, e0⟩, co, cu, cs, csh⟩ := hI
  refine ⟨hτ, ⟨?_, ⟨?_, ht.2.1, ?_⟩⟩, ⟨?_, hp⟩, ⟨?_, ?_, ?_, ?_⟩, ?_, ?_, ?_, ?_⟩
  · unfold tx0; rw [h2 0 (by decide), h1, hf2 1 (by decide) (by decide) (by decide), hf2 2 (by decide) (by decide) (by decide)]; exact t0
  · rw [hf 3 (by decide)]; exact ht.1
  · rw [hf 4 (by decide)]; exact ht.2.2
  · unfold pplC manC; rw [h2 0 (by decide), h1, hf2 5 (by decide) (by decide) (by decide), hf2 6 (by decide) (by decide) (by decide), hf2 7 (by decide) (by decide) (by decide), hf2 8 (by decide) (by decide) (by decide), hf2 9 (by decide) (by decide) (by decide)]; exact hp0
  · rw [h2 2 (by decide), hf2 12 (by decide) (by decide) (by decide)]; exact e12
  · rw [h2 3 (by decide), hf2 16 (by decide) (by decide) (by decide)]; exact e16
  · rw [h2 4 (by decide), hf2 20 (by decide) (by decide) (by decide)]; exact e20
  · rw [h2 5 (by decide), hf2 0 (by decide) (by decide) (by decide)]; exact e0
  · rw [h2 2 (by decide), hk 3 (by decide), hk 4 (by decide), hk 5 (by decide), hf2 13 (by decide) (by decide) (by decide), hf2 14 (by decide) (by decide) (by decide), hf2 15 (by decide) (by decide) (by decide)]; exact co
  · rw [h2 3 (by decide), hk 6 (by decide), hk 7 (by decide), hf2 17 (by decide) (by decide) (by decide), hf2 18 (by decide) (by decide) (by decide)]; exact cu
  · rw [h2 4 (by decide), hk 8 (by decide), hk 9 (by decide), hk 10 (by decide), hf2 21 (by decide) (by decide) (by decide), hf2 22 (by decide) (by decide) (by decide), hf2 23 (by decide) (by decide) (by decide)]; exact cs
  · intro s q1 q2
    have := csh s q1 q2
    unfold shC shR at *
    rw [hk 11 (by decide), hk 12 (by decide), hk (13 + s.toNat) (by omega), hf2 (40 + 2 * s.toNat) (by simp; omega) (by omega) (by omega), hf2 (41 + 2 * s.toNat) (by simp; omega) (by omega) (by omega)]
    exact this
theorem ct_B_readAgain0 {n : Int} {t : Int → Int} (h : tx0 mem n t) : zCv m_B_readAgain [vr 0, vi 0] mem (fun m2 => pplC m2 n t ∧ zfr [5, 6, 7, 8, 9] mem m2) := by
  refine zCt.of [some (vr 0), some (vi 0)] ok_B_readAgain (Nat.le_of_ble_eq_true rfl) rfl ?_
  refine zw_iload_n ok_B_readAgain rfl rfl ?_
  refine zw_if_ne 18 ok_B_readAgain rfl (by decide) (by omega) (fun h1 => ?_) (fun h1 => ?_)
  · exact absurd rfl h1
  · refine zw_aload_n ok_B_readAgain rfl rfl ?_
    refine zw_getr ok_B_readAgain rfl fl_B_24 rfl rfl ?_
    refine zw_aload_n ok_B_readAgain rfl rfl ?_
    refine zw_getr ok_B_readAgain rfl fl_B_14 rfl rfl ?_
    refine zw_Vv ok_B_readAgain rfl ok_Pe_take lk_B_332 (by decide) rfl rfl (Nat.le_of_ble_eq_true rfl) (ct_Pe_take h) (fun m12 h12 => ?_)
    refine zw_goto 29 ok_B_readAgain rfl (by decide) ?_
    exact zw_vret ok_B_readAgain rfl rfl (⟨rfl, h12⟩)
theorem ct_B_readAgain1 {n : Int} {t : Int → Int} (h : tx1 mem n t) : zCv m_B_readAgain [vr 0, vi 1] mem (fun m2 => wlkC m2 n t ∧ zfr [10, 11] mem m2) := by
  refine zCt.of [some (vr 0), some (vi 1)] ok_B_readAgain (Nat.le_of_ble_eq_true rfl) rfl ?_
  refine zw_iload_n ok_B_readAgain rfl rfl ?_
  refine zw_if_ne 18 ok_B_readAgain rfl (by decide) (by omega) (fun h1 => ?_) (fun h1 => ?_)
  · refine zw_aload_n ok_B_readAgain rfl rfl ?_
    refine zw_getr ok_B_readAgain rfl fl_B_31 rfl rfl ?_
    refine zw_aload_n ok_B_readAgain rfl rfl ?_
    refine zw_getr ok_B_readAgain rfl fl_B_18 rfl rfl ?_
    refine zw_Vv ok_B_readAgain rfl ok_Wa_take lk_B_336 (by decide) rfl rfl (Nat.le_of_ble_eq_true rfl) (ct_Wa_take h) (fun m26 h26 => ?_)
    exact zw_vret ok_B_readAgain rfl rfl (⟨rfl, h26⟩)
  · exact absurd h1 (by decide)
/-! a text with one byte more, none, one less -/
def cap (t : Int) : Int := if t = 0 then 39 else 71
def typT (τ : zMem) (t b : Int) : zMem := zset (zset τ t.toNat (τ 2 t) b) 2 t (τ 2 t + 1)
def sizT (τ : zMem) (t n : Int) : zMem := zset τ 2 t n
theorem typT_I {t b : Int} (hτ : tauI τ) (ht : t = 0 ∨ t = 1) (hb : 0 ≤ b ∧ b ≤ 255) (hc : τ 2 t < cap t) : tauI (typT τ t b) := by
  obtain ⟨hb0, h0, h1, ho, hu, hs, hsh⟩ := hτ
  unfold cap at hc
  rcases ht with rfl | rfl
  · rw [if_pos rfl] at hc
    refine ⟨⟨?_, hb0.2⟩, ?_, h1, ho, hu, hs, shI_of (fun k hk => by first | (show zset _ _ _ _ k = _; rw [zset_ne (by omega), zset_ne (show k ≠ Int.toNat _ by simp; omega)]) | exact zset_ne (by omega)) hsh⟩
    · show 0 ≤ τ 2 0 + 1 ∧ τ 2 0 + 1 ≤ 39; omega
    · intro i q1 q2
      have q2 : i < τ 2 0 + 1 := q2
      show 0 ≤ zupd (τ 0) (τ 2 0) b i ∧ zupd (τ 0) (τ 2 0) b i ≤ 255
      by_cases e : i = τ 2 0
      · subst e; rw [zupd_eq]; exact hb
      · rw [zupd_ne e]; exact h0 i q1 (by omega)
  · rw [if_neg (by decide)] at hc
    refine ⟨⟨hb0.1, ?_, hb0.2.2⟩, h0, ?_, ho, hu, hs, shI_of (fun k hk => by first | (show zset _ _ _ _ k = _; rw [zset_ne (by omega), zset_ne (show k ≠ Int.toNat _ by simp; omega)]) | exact zset_ne (by omega)) hsh⟩
    · show 0 ≤ τ 2 1 + 1 ∧ τ 2 1 + 1 ≤ 71; omega
    · intro i q1 q2
      have q2 : i < τ 2 1 + 1 := q2
      show 0 ≤ zupd (τ 1) (τ 2 1) b i ∧ zupd (τ 1) (τ 2 1) b i ≤ 255
      by_cases e : i = τ 2 1
      · subst e; rw [zupd_eq]; exact hb
      · rw [zupd_ne e]; exact h1 i q1 (by omega)
theorem sizT_I {t n : Int} (hτ : tauI τ) (ht : t = 0 ∨ t = 1) (hn : 0 ≤ n ∧ n ≤ τ 2 t) : tauI (sizT τ t n) := by
  obtain ⟨hb0, h0, h1, ho, hu, hs, hsh⟩ := hτ
  rcases ht with rfl | rfl
  · refine ⟨⟨?_, hb0.2⟩, ?_, h1, ho, hu, hs, shI_of (fun k hk => by first | (show zset _ _ _ _ k = _; rw [zset_ne (by omega), zset_ne (show k ≠ Int.toNat _ by simp; omega)]) | exact zset_ne (by omega)) hsh⟩
    · show 0 ≤ n ∧ n ≤ 39; omega
    · intro i q1 q2
      have q2 : i < n := q2
      exact h0 i q1 (by omega)
  · refine ⟨⟨hb0.1, ?_, hb0.2.2⟩, h0, ?_, ho, hu, hs, shI_of (fun k hk => by first | (show zset _ _ _ _ k = _; rw [zset_ne (by omega), zset_ne (show k ≠ Int.toNat _ by simp; omega)]) | exact zset_ne (by omega)) hsh⟩
    · show 0 ≤ n ∧ n ≤ 71; omega
    · intro i q1 q2
      have q2 : i < n := q2
      exact h1 i q1 (by omega)
end
