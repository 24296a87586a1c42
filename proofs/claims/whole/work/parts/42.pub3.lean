/-! ===== LowerBows: old, umbrella, back, seen, forget ===== -/
section
variable {mem τ m2 τ2 : zMem}
theorem CI_old (hI : CI mem τ) (hτ : tauI τ2) (hm : ∀ k, k ∉ [12, 13, 14, 15] → m2 k = mem k) (hk : ∀ k, k ∉ [2, 3, 4, 5] → τ2 k = τ k) (h2 : ∀ j, j ≠ 2 → τ2 2 j = τ 2 j) (e : m2 12 3 = τ2 2 2) (co2 : ∀ k, 0 ≤ k → k < τ2 2 2 → m2 13 k = τ2 3 k ∧ m2 14 k = τ2 4 k ∧ m2 15 k = τ2 5 k) : CI m2 τ2 := by
  obtain ⟨-, ⟨t0, t1⟩, ⟨hp0, hw⟩, ⟨e12, e16, e20, e0⟩, co, cu, cs, csh⟩ := hI
  refine ⟨hτ, ⟨?_, ?_⟩, ⟨?_, ?_⟩, ⟨e, ?_, ?_, ?_⟩, co2, ?_, ?_, fun s q1 q2 => ?_⟩
  · unfold tx0; rw [h2 0 (by decide), hk 0 (by decide), hm 1 (by decide), hm 2 (by decide)]; exact t0
  · unfold tx1; rw [h2 1 (by decide), hk 1 (by decide), hm 3 (by decide), hm 4 (by decide)]; exact t1
  · unfold pplC manC; rw [h2 0 (by decide), hk 0 (by decide), hm 5 (by decide), hm 6 (by decide), hm 7 (by decide), hm 8 (by decide), hm 9 (by decide)]; exact hp0
  · unfold wlkC; rw [h2 1 (by decide), hk 1 (by decide), hm 10 (by decide), hm 11 (by decide)]; exact hw
  · rw [h2 3 (by decide), hm 16 (by decide)]; exact e16
  · rw [h2 4 (by decide), hm 20 (by decide)]; exact e20
  · rw [h2 5 (by decide), hm 0 (by decide)]; exact e0
  · rw [h2 3 (by decide), hk 6 (by decide), hk 7 (by decide), hm 17 (by decide), hm 18 (by decide)]; exact cu
  · rw [h2 4 (by decide), hk 8 (by decide), hk 9 (by decide), hk 10 (by decide), hm 21 (by decide), hm 22 (by decide), hm 23 (by decide)]; exact cs
  · have := csh s q1 q2
    unfold shC shR at *
    rw [hk 11 (by decide), hk 12 (by decide), hk (13 + s.toNat) (by simp; omega), hm (40 + 2 * s.toNat) (by simp; omega), hm (41 + 2 * s.toNat) (by simp; omega)]
    exact this
theorem CI_umb (hI : CI mem τ) (hτ : tauI τ2) (hm : ∀ k, k ∉ [16, 17, 18, 19] → m2 k = mem k) (hk : ∀ k, k ∉ [2, 6, 7] → τ2 k = τ k) (h2 : ∀ j, j ≠ 3 → τ2 2 j = τ 2 j) (e : m2 16 3 = τ2 2 3) (cu2 : ∀ u, 0 ≤ u → u < τ2 2 3 → m2 17 u = τ2 6 u ∧ m2 18 u = τ2 7 u) : CI m2 τ2 := by
  obtain ⟨-, ⟨t0, t1⟩, ⟨hp0, hw⟩, ⟨e12, e16, e20, e0⟩, co, cu, cs, csh⟩ := hI
  refine ⟨hτ, ⟨?_, ?_⟩, ⟨?_, ?_⟩, ⟨?_, e, ?_, ?_⟩, ?_, cu2, ?_, fun s q1 q2 => ?_⟩
  · unfold tx0; rw [h2 0 (by decide), hk 0 (by decide), hm 1 (by decide), hm 2 (by decide)]; exact t0
  · unfold tx1; rw [h2 1 (by decide), hk 1 (by decide), hm 3 (by decide), hm 4 (by decide)]; exact t1
  · unfold pplC manC; rw [h2 0 (by decide), hk 0 (by decide), hm 5 (by decide), hm 6 (by decide), hm 7 (by decide), hm 8 (by decide), hm 9 (by decide)]; exact hp0
  · unfold wlkC; rw [h2 1 (by decide), hk 1 (by decide), hm 10 (by decide), hm 11 (by decide)]; exact hw
  · rw [h2 2 (by decide), hm 12 (by decide)]; exact e12
  · rw [h2 4 (by decide), hm 20 (by decide)]; exact e20
  · rw [h2 5 (by decide), hm 0 (by decide)]; exact e0
  · rw [h2 2 (by decide), hk 3 (by decide), hk 4 (by decide), hk 5 (by decide), hm 13 (by decide), hm 14 (by decide), hm 15 (by decide)]; exact co
  · rw [h2 4 (by decide), hk 8 (by decide), hk 9 (by decide), hk 10 (by decide), hm 21 (by decide), hm 22 (by decide), hm 23 (by decide)]; exact cs
  · have := csh s q1 q2
    unfold shC shR at *
    rw [hk 11 (by decide), hk 12 (by decide), hk (13 + s.toNat) (by simp; omega), hm (40 + 2 * s.toNat) (by simp; omega), hm (41 + 2 * s.toNat) (by simp; omega)]
    exact this
theorem CI_see (hI : CI mem τ) (hτ : tauI τ2) (hm : ∀ k, k ∉ [20, 21, 22, 23] → m2 k = mem k) (hk : ∀ k, k ∉ [2, 8, 9, 10] → τ2 k = τ k) (h2 : ∀ j, j ≠ 4 → τ2 2 j = τ 2 j) (e : m2 20 3 = τ2 2 4) (cs2 : ∀ i, 0 ≤ i → i < τ2 2 4 → m2 21 i = τ2 8 i ∧ m2 22 i = τ2 9 i ∧ m2 23 i = τ2 10 i) : CI m2 τ2 := by
  obtain ⟨-, ⟨t0, t1⟩, ⟨hp0, hw⟩, ⟨e12, e16, e20, e0⟩, co, cu, cs, csh⟩ := hI
  refine ⟨hτ, ⟨?_, ?_⟩, ⟨?_, ?_⟩, ⟨?_, ?_, e, ?_⟩, ?_, ?_, cs2, fun s q1 q2 => ?_⟩
  · unfold tx0; rw [h2 0 (by decide), hk 0 (by decide), hm 1 (by decide), hm 2 (by decide)]; exact t0
  · unfold tx1; rw [h2 1 (by decide), hk 1 (by decide), hm 3 (by decide), hm 4 (by decide)]; exact t1
  · unfold pplC manC; rw [h2 0 (by decide), hk 0 (by decide), hm 5 (by decide), hm 6 (by decide), hm 7 (by decide), hm 8 (by decide), hm 9 (by decide)]; exact hp0
  · unfold wlkC; rw [h2 1 (by decide), hk 1 (by decide), hm 10 (by decide), hm 11 (by decide)]; exact hw
  · rw [h2 2 (by decide), hm 12 (by decide)]; exact e12
  · rw [h2 3 (by decide), hm 16 (by decide)]; exact e16
  · rw [h2 5 (by decide), hm 0 (by decide)]; exact e0
  · rw [h2 2 (by decide), hk 3 (by decide), hk 4 (by decide), hk 5 (by decide), hm 13 (by decide), hm 14 (by decide), hm 15 (by decide)]; exact co
  · rw [h2 3 (by decide), hk 6 (by decide), hk 7 (by decide), hm 17 (by decide), hm 18 (by decide)]; exact cu
  · have := csh s q1 q2
    unfold shC shR at *
    rw [hk 11 (by decide), hk 12 (by decide), hk (13 + s.toNat) (by simp; omega), hm (40 + 2 * s.toNat) (by simp; omega), hm (41 + 2 * s.toNat) (by simp; omega)]
    exact this
/-- the sheets and the latest finding change -/
theorem CI_shs (hI : CI mem τ) (hτ : tauI τ2) (hm : ∀ k, k ≠ 0 → k < 40 → m2 k = mem k) (hk : ∀ k, k ≠ 2 → k < 11 → τ2 k = τ k) (h2 : ∀ j, j ≠ 5 → τ2 2 j = τ 2 j) (e : m2 0 13 = τ2 2 5) (sh2 : ∀ s, 0 ≤ s → s ≤ 3 → shC m2 τ2 s) : CI m2 τ2 := by
  obtain ⟨-, ⟨t0, t1⟩, ⟨hp0, hw⟩, ⟨e12, e16, e20, e0⟩, co, cu, cs, csh⟩ := hI
  refine ⟨hτ, ⟨?_, ?_⟩, ⟨?_, ?_⟩, ⟨?_, ?_, ?_, e⟩, ?_, ?_, ?_, sh2⟩
  · unfold tx0; rw [h2 0 (by decide), hk 0 (by decide) (by decide), hm 1 (by decide) (by decide), hm 2 (by decide) (by decide)]; exact t0
  · unfold tx1; rw [h2 1 (by decide), hk 1 (by decide) (by decide), hm 3 (by decide) (by decide), hm 4 (by decide) (by decide)]; exact t1
  · unfold pplC manC; rw [h2 0 (by decide), hk 0 (by decide) (by decide), hm 5 (by decide) (by decide), hm 6 (by decide) (by decide), hm 7 (by decide) (by decide), hm 8 (by decide) (by decide), hm 9 (by decide) (by decide)]; exact hp0
  · unfold wlkC; rw [h2 1 (by decide), hk 1 (by decide) (by decide), hm 10 (by decide) (by decide), hm 11 (by decide) (by decide)]; exact hw
  · rw [h2 2 (by decide), hm 12 (by decide) (by decide)]; exact e12
  · rw [h2 3 (by decide), hm 16 (by decide) (by decide)]; exact e16
  · rw [h2 4 (by decide), hm 20 (by decide) (by decide)]; exact e20
  · rw [h2 2 (by decide), hk 3 (by decide) (by decide), hk 4 (by decide) (by decide), hk 5 (by decide) (by decide), hm 13 (by decide) (by decide), hm 14 (by decide) (by decide), hm 15 (by decide) (by decide)]; exact co
  · rw [h2 3 (by decide), hk 6 (by decide) (by decide), hk 7 (by decide) (by decide), hm 17 (by decide) (by decide), hm 18 (by decide) (by decide)]; exact cu
  · rw [h2 4 (by decide), hk 8 (by decide) (by decide), hk 9 (by decide) (by decide), hk 10 (by decide) (by decide), hm 21 (by decide) (by decide), hm 22 (by decide) (by decide), hm 23 (by decide) (by decide)]; exact cs
end
def goodO (a b c : Int) : Prop := (0 ≤ a ∧ a ≤ 7) ∧ (0 ≤ b ∧ b ≤ 7) ∧ a ≠ b ∧ 1 ≤ c ∧ c ≤ 99
def addO (τ : zMem) (a b c : Int) : zMem := zset (zset (zset (zset τ 3 (τ 2 2) a) 4 (τ 2 2) b) 5 (τ 2 2) c) 2 2 (τ 2 2 + 1)
def addU (τ : zMem) (h p : Int) : zMem := zset (zset (zset τ 6 (τ 2 3) h) 7 (τ 2 3) p) 2 3 (τ 2 3 + 1)
def addS (τ : zMem) (h p l : Int) : zMem := zset (zset (zset (zset τ 8 (τ 2 4) h) 9 (τ 2 4) p) 10 (τ 2 4) l) 2 4 (τ 2 4 + 1)
def qOld (τ : zMem) (a b c : Int) : Int := if (0 ≤ a ∧ a ≤ 7) ∧ (0 ≤ b ∧ b ≤ 7) ∧ a ≠ b ∧ 1 ≤ c ∧ c ≤ 99 then (if τ 2 2 < 12 then τ 2 2 + 1 else -4) else -2
def nOld (τ : zMem) (a b c : Int) : zMem := if ((0 ≤ a ∧ a ≤ 7) ∧ (0 ≤ b ∧ b ≤ 7) ∧ a ≠ b ∧ 1 ≤ c ∧ c ≤ 99) ∧ τ 2 2 < 12 then addO τ a b c else τ
def qUmb (τ : zMem) (h p : Int) : Int := if (0 ≤ h ∧ h ≤ 11) ∧ (0 ≤ p ∧ p ≤ 7) then (if τ 2 3 < 8 then τ 2 3 + 1 else -4) else -2
def nUmb (τ : zMem) (h p : Int) : zMem := if ((0 ≤ h ∧ h ≤ 11) ∧ (0 ≤ p ∧ p ≤ 7)) ∧ τ 2 3 < 8 then addU τ h p else τ
def qSeen (τ : zMem) (h p l : Int) : Int := if (0 ≤ h ∧ h ≤ 11) ∧ (0 ≤ p ∧ p ≤ 7) ∧ (0 ≤ l ∧ l ≤ 99) then (if τ 2 4 < 8 then τ 2 4 + 1 else -4) else -2
def nSeen (τ : zMem) (h p l : Int) : zMem := if ((0 ≤ h ∧ h ≤ 11) ∧ (0 ≤ p ∧ p ≤ 7) ∧ (0 ≤ l ∧ l ≤ 99)) ∧ τ 2 4 < 8 then addS τ h p l else τ
def qBack (τ : zMem) (w : Int) : Int := if 0 ≤ w ∧ w ≤ 1 then (if w = 0 then (if τ 2 2 = 0 then -3 else τ 2 2 - 1) else (if τ 2 3 = 0 then -3 else τ 2 3 - 1)) else -2
def nBack (τ : zMem) (w : Int) : zMem := if w = 0 ∧ τ 2 2 ≠ 0 then zset τ 2 2 (τ 2 2 - 1) else if w = 1 ∧ τ 2 3 ≠ 0 then zset τ 2 3 (τ 2 3 - 1) else τ
theorem addO_I {τ : zMem} {a b c : Int} (hτ : tauI τ) (hg : (0 ≤ a ∧ a ≤ 7) ∧ (0 ≤ b ∧ b ≤ 7) ∧ a ≠ b ∧ 1 ≤ c ∧ c ≤ 99) (hc : τ 2 2 < 12) : tauI (addO τ a b c) := by
  obtain ⟨hb0, h0, h1, ho, hu, hs, hsh⟩ := hτ
  refine ⟨⟨hb0.1, hb0.2.1, ?_, hb0.2.2.2⟩, h0, h1, ?_, hu, hs, shI_of (fun k hk => ?_) hsh⟩
  · show 0 ≤ τ 2 2 + 1 ∧ τ 2 2 + 1 ≤ 12; omega
  · intro k q1 q2
    have q2 : k < τ 2 2 + 1 := q2
    show ((0 ≤ zupd (τ 3) (τ 2 2) a k ∧ zupd (τ 3) (τ 2 2) a k ≤ 7) ∧ (0 ≤ zupd (τ 4) (τ 2 2) b k ∧ zupd (τ 4) (τ 2 2) b k ≤ 7)) ∧ zupd (τ 3) (τ 2 2) a k ≠ zupd (τ 4) (τ 2 2) b k ∧ (1 ≤ zupd (τ 5) (τ 2 2) c k ∧ zupd (τ 5) (τ 2 2) c k ≤ 99)
    by_cases e : k = τ 2 2
    · subst e; rw [zupd_eq, zupd_eq, zupd_eq]; exact ⟨⟨hg.1, hg.2.1⟩, hg.2.2.1, hg.2.2.2⟩
    · rw [zupd_ne e, zupd_ne e, zupd_ne e]; exact ho k q1 (by omega)
  · unfold addO; rw [zset_ne (by omega), zset_ne (by omega), zset_ne (by omega), zset_ne (by omega)]
theorem addU_I {τ : zMem} {h p : Int} (hτ : tauI τ) (hg : (0 ≤ h ∧ h ≤ 11) ∧ (0 ≤ p ∧ p ≤ 7)) (hc : τ 2 3 < 8) : tauI (addU τ h p) := by
  obtain ⟨hb0, h0, h1, ho, hu, hs, hsh⟩ := hτ
  refine ⟨⟨hb0.1, hb0.2.1, hb0.2.2.1, ?_, hb0.2.2.2.2⟩, h0, h1, ho, ?_, hs, shI_of (fun k hk => ?_) hsh⟩
  · show 0 ≤ τ 2 3 + 1 ∧ τ 2 3 + 1 ≤ 8; omega
  · intro k q1 q2
    have q2 : k < τ 2 3 + 1 := q2
    show (0 ≤ zupd (τ 6) (τ 2 3) h k ∧ zupd (τ 6) (τ 2 3) h k ≤ 11) ∧ (0 ≤ zupd (τ 7) (τ 2 3) p k ∧ zupd (τ 7) (τ 2 3) p k ≤ 7)
    by_cases e : k = τ 2 3
    · subst e; rw [zupd_eq, zupd_eq]; exact hg
    · rw [zupd_ne e, zupd_ne e]; exact hu k q1 (by omega)
  · unfold addU; rw [zset_ne (by omega), zset_ne (by omega), zset_ne (by omega)]
theorem addS_I {τ : zMem} {h p l : Int} (hτ : tauI τ) (hg : (0 ≤ h ∧ h ≤ 11) ∧ (0 ≤ p ∧ p ≤ 7) ∧ (0 ≤ l ∧ l ≤ 99)) (hc : τ 2 4 < 8) : tauI (addS τ h p l) := by
  obtain ⟨hb0, h0, h1, ho, hu, hs, hsh⟩ := hτ
  refine ⟨⟨hb0.1, hb0.2.1, hb0.2.2.1, hb0.2.2.2.1, ?_, hb0.2.2.2.2.2⟩, h0, h1, ho, hu, ?_, shI_of (fun k hk => ?_) hsh⟩
  · show 0 ≤ τ 2 4 + 1 ∧ τ 2 4 + 1 ≤ 8; omega
  · intro k q1 q2
    have q2 : k < τ 2 4 + 1 := q2
    show (0 ≤ zupd (τ 8) (τ 2 4) h k ∧ zupd (τ 8) (τ 2 4) h k ≤ 11) ∧ (0 ≤ zupd (τ 9) (τ 2 4) p k ∧ zupd (τ 9) (τ 2 4) p k ≤ 7) ∧ (0 ≤ zupd (τ 10) (τ 2 4) l k ∧ zupd (τ 10) (τ 2 4) l k ≤ 99)
    by_cases e : k = τ 2 4
    · subst e; rw [zupd_eq, zupd_eq, zupd_eq]; exact hg
    · rw [zupd_ne e, zupd_ne e, zupd_ne e]; exact hs k q1 (by omega)
  · unfold addS; rw [zset_ne (by omega), zset_ne (by omega), zset_ne (by omega), zset_ne (by omega)]
theorem n2_I {τ : zMem} {j n : Int} (hτ : tauI τ) (hj : j = 2 ∨ j = 3 ∨ j = 4) (hn : 0 ≤ n ∧ n ≤ τ 2 j) : tauI (zset τ 2 j n) := by
  obtain ⟨hb0, h0, h1, ho, hu, hs, hsh⟩ := hτ
  have hsh2 : shI (zset τ 2 j n) := shI_of (fun k hk => zset_ne (by omega)) hsh
  rcases hj with rfl | rfl | rfl
  · refine ⟨⟨hb0.1, hb0.2.1, ?_, hb0.2.2.2⟩, h0, h1, fun k q1 q2 => ho k q1 ?_, hu, hs, hsh2⟩
    · show 0 ≤ n ∧ n ≤ 12; omega
    · have q2 : k < n := q2; omega
  · refine ⟨⟨hb0.1, hb0.2.1, hb0.2.2.1, ?_, hb0.2.2.2.2⟩, h0, h1, ho, fun k q1 q2 => hu k q1 ?_, hs, hsh2⟩
    · show 0 ≤ n ∧ n ≤ 8; omega
    · have q2 : k < n := q2; omega
  · refine ⟨⟨hb0.1, hb0.2.1, hb0.2.2.1, hb0.2.2.2.1, ?_, hb0.2.2.2.2.2⟩, h0, h1, ho, hu, fun k q1 q2 => hs k q1 ?_, hsh2⟩
    · show 0 ≤ n ∧ n ≤ 8; omega
    · have q2 : k < n := q2; omega
