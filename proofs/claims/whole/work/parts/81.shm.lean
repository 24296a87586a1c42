/-! ===== the fewest umbrellas: every one tried, and those that are worth it ===== -/
section
variable {P : Int} {can step : Int → Int} {sr : Int → Int → Int} {hid hid2 : Int → Int → Bool}
theorem meet_ne0 {a b : Int} {s : zS} (ha : 0 ≤ a ∧ a < 8) (hb : 0 ≤ b ∧ b < 8) (h : s.2.2.1 ≠ 0) : (meetS can step a b s).2.2.1 ≠ 0 := by
  unfold meetS
  by_cases c : zabs (s.1 (a * 8 + b)) ≤ can (if s.1 (a * 8 + b) ≤ 0 then b else a)
  · rw [if_pos c]; exact h
  · rw [if_neg c]
    have : 0 ≤ (if s.1 (a * 8 + b) ≤ 0 then b else a) ∧ (if s.1 (a * 8 + b) ≤ 0 then b else a) < 8 := by split <;> omega
    exact zor_ne0 this
theorem tIn_ne0 {h a b : Int} {s : zS} (ha : 0 ≤ a ∧ a < 8) (hb : 0 ≤ b ∧ b < 8) (hs : s.2.2.1 ≠ 0) : (tIn can step sr hid h a b s).2.2.1 ≠ 0 := by
  unfold tIn
  split
  · exact meet_ne0 ha hb hs
  · exact hs
theorem tOuts_ne0 {h : Int} {s : zS} (hP : 0 ≤ P ∧ P ≤ 8) (hs : s.2.2.1 ≠ 0) : (lp (tOut P can step sr hid h) P.toNat 0 s).2.2.1 ≠ 0 := by
  refine lp_inv (I := fun s : zS => s.2.2.1 ≠ 0) _ _ _ (fun a s a0 a1 hs => ?_) hs
  unfold tOut
  split
  · exact hs
  · exact lp_inv (I := fun s : zS => s.2.2.1 ≠ 0) _ _ _ (fun b s b0 b1 hs => tIn_ne0 (by omega) (by omega) hs) hs
theorem end_gone {h : Int} {s : zS} : (endS h s).2.2.1 = s.2.2.1 := by
  unfold endS
  split
  · rfl
  · split <;> rfl
theorem tHour_ne0 {h : Int} {s : zS} (hP : 0 ≤ P ∧ P ≤ 8) (hs : s.2.2.1 ≠ 0) : (tHour P can step sr hid h s).2.2.1 ≠ 0 := by
  unfold tHour
  rw [end_gone]
  exact tOuts_ne0 hP hs
theorem tOuts_fh {h : Int} {s : zS} : (lp (tOut P can step sr hid h) P.toNat 0 s).2.2.2.2.1 = s.2.2.2.2.1 := by
  refine lp_inv (I := fun u : zS => u.2.2.2.2.1 = s.2.2.2.2.1) _ _ _ (fun a u a0 a1 hu => ?_) rfl
  unfold tOut
  split
  · exact hu
  · refine lp_inv (I := fun u : zS => u.2.2.2.2.1 = s.2.2.2.2.1) _ _ _ (fun b u b0 b1 hu => ?_) hu
    unfold tIn
    split
    · rw [meetS_fh]; exact hu
    · exact hu
def bnd (s : zS) : Prop := s.2.2.1 = 0 ↔ s.2.2.2.2.1 = -1
theorem tHour_bnd {h : Int} {s : zS} (hP : 0 ≤ P ∧ P ≤ 8) (hh : 0 ≤ h) (hs : bnd s) : bnd (tHour P can step sr hid h s) ∧ (s.2.2.1 = 0 → (tHour P can step sr hid h s).2.2.1 ≠ 0 → (tHour P can step sr hid h s).2.2.2.2.1 = h) := by
  have n0 := tOuts_ne0 (can := can) (step := step) (sr := sr) (hid := hid) (h := h) (s := s) hP
  have fh := tOuts_fh (P := P) (can := can) (step := step) (sr := sr) (hid := hid) (h := h) (s := s)
  unfold tHour
  generalize lp (tOut P can step sr hid h) P.toNat 0 s = u at n0 fh
  unfold endS
  by_cases z : u.2.2.1 = 0
  · rw [if_pos z]
    have s0 : s.2.2.1 = 0 := Decidable.byContradiction (fun q => n0 q z)
    exact ⟨⟨fun _ => fh.trans (hs.mp s0), fun _ => z⟩, fun _ q => absurd z q⟩
  · rw [if_neg z]
    by_cases w : u.2.2.2.2.1 ≠ -1
    · rw [if_pos w]
      refine ⟨⟨fun q => absurd q z, fun q => absurd q w⟩, fun s0 _ => ?_⟩
      exact absurd (fh.trans (hs.mp s0)) w
    · rw [if_neg w]
      refine ⟨⟨fun q => absurd q z, fun q => ?_⟩, fun _ _ => rfl⟩
      have q : h = -1 := q
      omega
theorem till_walk (hP : 0 ≤ P ∧ P ≤ 8) : ∀ (k : Nat) (h : Int) (s : zS), 0 ≤ h → bnd s → ((tTill P can step sr hid k h s).2.2.2.2.1 = -1 ↔ (lp (tHour P can step sr hid) k h s).2.2.1 = 0) ∧ (s.2.2.1 = 0 → (tTill P can step sr hid k h s).2.2.2.2.1 ≠ -1 → (h ≤ (tTill P can step sr hid k h s).2.2.2.2.1 ∧ (tTill P can step sr hid k h s).2.2.2.2.1 < h + k) ∧ (lp (tHour P can step sr hid) ((tTill P can step sr hid k h s).2.2.2.2.1 + 1 - h).toNat h s).2.2.1 ≠ 0)
  | 0, h, s, hh, hb => ⟨hb.symm, fun s0 q => absurd (hb.mp s0) q⟩
  | k + 1, h, s, hh, hb => by
    unfold tTill
    rw [lp_s]
    by_cases c : s.2.2.1 ≠ 0
    · rw [if_pos c]
      refine ⟨⟨fun q => absurd (hb.mpr q) c, fun q => ?_⟩, fun q => absurd q c⟩
      refine absurd q (lp_inv (I := fun s : zS => s.2.2.1 ≠ 0) _ _ _ (fun j u _ _ hu => tHour_ne0 hP hu) (tHour_ne0 hP c))
    · rw [if_neg c]
      have c : s.2.2.1 = 0 := Decidable.byContradiction c
      have t := tHour_bnd (can := can) (step := step) (sr := sr) (hid := hid) (h := h) hP hh hb
      have ih := till_walk hP k (h + 1) _ (by omega) t.1
      refine ⟨ih.1, fun _ q => ?_⟩
      by_cases z : (tHour P can step sr hid h s).2.2.1 = 0
      · have i2 := ih.2 z q
        refine ⟨by omega, ?_⟩
        rw [show ((tTill P can step sr hid k (h + 1) (tHour P can step sr hid h s)).2.2.2.2.1 + 1 - h).toNat = ((tTill P can step sr hid k (h + 1) (tHour P can step sr hid h s)).2.2.2.2.1 + 1 - (h + 1)).toNat + 1 by omega, lp_s]
        exact i2.2
      · have e : tTill P can step sr hid k (h + 1) (tHour P can step sr hid h s) = tHour P can step sr hid h s := by
          cases k with
          | zero => rfl
          | succ k => unfold tTill; rw [if_pos z]
        have f := t.2 c z
        rw [e, f]
        refine ⟨by omega, ?_⟩
        rw [show (h + 1 - h).toNat = 0 + 1 by omega, lp_s]
        exact z
theorem tHour_cg {h : Int} {s : zS} (hP : 0 ≤ P ∧ P ≤ 8) (hd : ∀ p, 0 ≤ p → p < P → sr h p ≠ -1 → hid h p = hid2 h p) : tHour P can step sr hid h s = tHour P can step sr hid2 h s := by
  unfold tHour
  congr 1
  refine lp_congr _ _ _ (fun a s a0 a1 => ?_)
  unfold tOut
  by_cases ca : sr h a = -1
  · rw [if_pos ca, if_pos ca]
  · rw [if_neg ca, if_neg ca]
    refine lp_congr _ _ _ (fun b s b0 b1 => ?_)
    unfold tIn
    by_cases cb : sr h b = sr h a
    · rw [hd a a0 (by omega) ca, hd b (by omega) (by omega) (by rw [cb]; exact ca)]
    · rw [if_neg (fun z => cb z.1), if_neg (fun z => cb z.1)]
theorem tWalk_cg {s : zS} (n : Nat) (hP : 0 ≤ P ∧ P ≤ 8) (hd : ∀ (h p : Int), 0 ≤ h → h < n → 0 ≤ p → p < P → sr h p ≠ -1 → hid h p = hid2 h p) : tWalk P can step sr hid n s = tWalk P can step sr hid2 n s :=
  lp_congr _ _ _ (fun h s h0 h1 => tHour_cg hP (fun p q1 q2 q3 => hd h p h0 (by omega) q1 q2 q3))
end
/-! the first of some places -/
def fst1 (p : Int → Bool) : Nat → Int → Int
  | 0, _ => -1
  | k + 1, c => if p c = true then c else fst1 p k (c + 1)
theorem fst1_cg {p q : Int → Bool} : ∀ (k : Nat) (c : Int), (∀ j, c ≤ j → j < c + k → p j = q j) → fst1 p k c = fst1 q k c
  | 0, _, _ => rfl
  | k + 1, c, h => by
    unfold fst1
    rw [h c (by omega) (by omega), fst1_cg k (c + 1) (fun j h1 h2 => h j (by omega) (by omega))]
theorem fst1_no {p : Int → Bool} : ∀ (k : Nat) (c : Int), (∀ j, c ≤ j → j < c + k → p j = false) → fst1 p k c = -1
  | 0, _, _ => rfl
  | k + 1, c, h => by
    unfold fst1
    rw [if_neg (by rw [h c (by omega) (by omega)]; decide)]
    exact fst1_no k (c + 1) (fun j h1 h2 => h j (by omega) (by omega))
theorem fst1_r {p : Int → Bool} : ∀ (k : Nat) (c : Int), 0 ≤ c → (fst1 p k c = -1 ∧ ∀ j, c ≤ j → j < c + k → p j = false) ∨ ((c ≤ fst1 p k c ∧ fst1 p k c < c + k) ∧ p (fst1 p k c) = true)
  | 0, c, _ => Or.inl ⟨rfl, fun j h1 h2 => by omega⟩
  | k + 1, c, h0 => by
    unfold fst1
    by_cases h : p c = true
    · rw [if_pos h]; exact Or.inr ⟨by omega, h⟩
    · rw [if_neg h]
      rcases fst1_r (p := p) k (c + 1) (by omega) with z | z
      · refine Or.inl ⟨z.1, fun j h1 h2 => ?_⟩
        by_cases e : j = c
        · subst e; simpa using h
        · exact z.2 j (by omega) (by omega)
      · exact Or.inr ⟨by omega, z.2⟩
theorem fst1_s {p : Int → Bool} {k : Nat} {c : Int} : fst1 p (k + 1) c = if p c = true then c else fst1 p k (c + 1) := rfl
theorem fst1_app {p : Int → Bool} : ∀ (m n : Nat) (c : Int), 0 ≤ c → fst1 p (m + n) c = if fst1 p m c ≠ -1 then fst1 p m c else fst1 p n (c + m)
  | 0, n, c, _ => by rw [Nat.zero_add]; show fst1 p n c = if (-1 : Int) ≠ -1 then _ else fst1 p n (c + 0); rw [if_neg (fun z => z rfl), Int.add_zero]
  | m + 1, n, c, h0 => by
    rw [show m + 1 + n = (m + n) + 1 by omega, fst1_s, fst1_s]
    by_cases h : p c = true
    · rw [if_pos h, if_pos h, if_pos (by omega)]
    · rw [if_neg h, if_neg h, fst1_app m n (c + 1) (by omega), show c + 1 + (m : Int) = c + ((m + 1 : Nat) : Int) by omega]
section
variable {mem τ : zMem} {hid hid2 : Int → Int → Bool}
/-- who is gone at the day's end, when hid says who isn't seen -/
def wG (τ : zMem) (hid : Int → Int → Bool) (n : Nat) : zS := tWalk (aP τ) (aCan τ) (aSt τ) (aSr τ) hid n (beg0 (aDf τ (-1)))
def Gn (τ : zMem) (hid : Int → Int → Bool) : Int := (wG τ hid 12).2.2.1
theorem fh_Gn (hP : 0 ≤ aP τ ∧ aP τ ≤ 8) : (tFh τ hid = -1 ↔ Gn τ hid = 0) ∧ (tFh τ hid ≠ -1 → (0 ≤ tFh τ hid ∧ tFh τ hid < 12) ∧ (wG τ hid (tFh τ hid + 1).toNat).2.2.1 ≠ 0) := by
  have k := till_walk (can := aCan τ) (step := aSt τ) (sr := aSr τ) (hid := hid) hP 12 0 (beg0 (aDf τ (-1))) (by omega) ⟨fun _ => rfl, fun _ => rfl⟩
  refine ⟨k.1, fun q => ?_⟩
  have k2 := k.2 rfl q
  rw [Int.sub_zero] at k2
  refine ⟨?_, k2.2⟩
  have := k2.1
  unfold tFh
  omega
theorem Gn_cg (hP : 0 ≤ aP τ ∧ aP τ ≤ 8) (hd : ∀ h p, 0 ≤ h → h < 12 → 0 ≤ p → p < aP τ → aSr τ h p ≠ -1 → hid h p = hid2 h p) : Gn τ hid = Gn τ hid2 := by
  unfold Gn wG
  rw [tWalk_cg (hid2 := hid2) 12 hP hd]
theorem Gn_late (hP : 0 ≤ aP τ ∧ aP τ ≤ 8) (hf : tFh τ hid ≠ -1) (hd : ∀ h p, 0 ≤ h → h ≤ tFh τ hid → 0 ≤ p → p < aP τ → hid2 h p = hid h p) : Gn τ hid2 ≠ 0 := by
  have k := (fh_Gn (hid := hid) hP).2 hf
  have e : wG τ hid2 (tFh τ hid + 1).toNat = wG τ hid (tFh τ hid + 1).toNat := tWalk_cg _ hP (fun h p q1 q2 q3 q4 _ => hd h p q1 (by omega) q3 q4)
  have k2 := k.2
  rw [← e] at k2
  unfold Gn
  have e12 : wG τ hid2 12 = lp (tHour (aP τ) (aCan τ) (aSt τ) (aSr τ) hid2) (12 - (tFh τ hid + 1).toNat) (0 + ((tFh τ hid + 1).toNat : Int)) (wG τ hid2 (tFh τ hid + 1).toNat) := by
    unfold wG tWalk
    rw [← lp_app, show (tFh τ hid + 1).toNat + (12 - (tFh τ hid + 1).toNat) = 12 by omega]
  rw [e12]
  exact lp_inv (I := fun s : zS => s.2.2.1 ≠ 0) _ _ _ (fun j u _ _ hu => tHour_ne0 hP hu) k2
/-- number u, tried -/
def p1 (τ : zMem) (hid : Int → Int → Bool) (u : Int) : Bool := decide (u % 8 < aP τ ∧ Gn τ (setB hid u) = 0)
def pW (τ : zMem) (hid : Int → Int → Bool) (u : Int) : Bool := decide (wthT τ hid u = true ∧ tFh τ (setB hid u) = -1)
theorem set_idle {u : Int} (hu : u % 8 < aP τ) (hw : ¬ wthT τ hid u = true) : ∀ h p, aSr τ h p ≠ -1 → setB hid u h p = hid h p := by
  intro h p hs
  unfold setB
  by_cases e : h = u / 8 ∧ p = u % 8
  · have : hid h p = true := by
      cases q : hid h p
      · refine absurd (decide_eq_true ?_) hw
        exact ⟨hu, by rw [← e.1, ← e.2]; exact hs, by rw [← e.1, ← e.2]; exact q⟩
      · rfl
    rw [this]; rfl
  · rw [decide_eq_false e, Bool.or_false]
theorem set_late {u h p : Int} (h1 : h < u / 8) : setB hid u h p = hid h p := by
  unfold setB
  rw [decide_eq_false (fun z => by omega), Bool.or_false]
theorem p1_eq {u : Int} (hP : 0 ≤ aP τ ∧ aP τ ≤ 8) (hf : tFh τ hid ≠ -1) : p1 τ hid u = (pW τ hid u && decide (u < 8 * (tFh τ hid + 1))) := by
  have g0 : Gn τ hid ≠ 0 := fun z => hf ((fh_Gn hP).1.mpr z)
  by_cases hu : u % 8 < aP τ
  · by_cases hw : wthT τ hid u = true
    · by_cases hl : u < 8 * (tFh τ hid + 1)
      · unfold p1 pW
        rw [decide_eq_true hl, Bool.and_true]
        apply decide_eq_decide.mpr
        rw [(fh_Gn (hid := setB hid u) hP).1]
        exact ⟨fun z => ⟨hw, z.2⟩, fun z => ⟨hu, z.2⟩⟩
      · rw [decide_eq_false hl, Bool.and_false]
        have := Gn_late (hid2 := setB hid u) hP hf (fun h p q1 q2 q3 q4 => set_late (by omega))
        exact decide_eq_false (fun z => this z.2)
    · have e : Gn τ (setB hid u) = Gn τ hid := Gn_cg hP (fun h p _ _ _ _ hs => set_idle hu hw h p hs)
      have a : p1 τ hid u = false := decide_eq_false (fun z => g0 (by rw [← e]; exact z.2))
      have b : pW τ hid u = false := decide_eq_false (fun z => hw z.1)
      rw [a, b]; rfl
  · have a : p1 τ hid u = false := decide_eq_false (fun z => hu z.1)
    have b : pW τ hid u = false := decide_eq_false (fun z => hu (of_decide_eq_true z.1).1)
    rw [a, b]; rfl
theorem nth_fst : ∀ (k : Nat) (u : Int), nthT τ hid k u = fst1 (pW τ hid) k u
  | 0, _ => rfl
  | k + 1, u => by
    unfold nthT fst1
    rw [nth_fst k (u + 1)]
    by_cases c : wthT τ hid u = true ∧ tFh τ (setB hid u) = -1
    · rw [if_pos c, if_pos (show pW τ hid u = true from decide_eq_true c)]
    · rw [if_neg c, if_neg (show ¬ pW τ hid u = true from fun z => c (of_decide_eq_true z))]
theorem nth_all {u : Int} (hP : 0 ≤ aP τ ∧ aP τ ≤ 8) (hf : tFh τ hid ≠ -1) (hu : 0 ≤ u ∧ u ≤ 96) : fst1 (p1 τ hid) (96 - u).toNat u = nthT τ hid (8 * (tFh τ hid + 1) - u).toNat u := by
  have b := ((fh_Gn (hid := hid) hP).2 hf).1
  rw [nth_fst]
  have e : (96 - u).toNat = (8 * (tFh τ hid + 1) - u).toNat + ((96 - u).toNat - (8 * (tFh τ hid + 1) - u).toNat) := by omega
  rw [e, fst1_app _ _ _ hu.1, fst1_cg (q := pW τ hid) (8 * (tFh τ hid + 1) - u).toNat u (fun j h1 h2 => by rw [p1_eq hP hf, decide_eq_true (by omega), Bool.and_true])]
  by_cases c : fst1 (pW τ hid) (8 * (tFh τ hid + 1) - u).toNat u ≠ -1
  · rw [if_pos c]
  · rw [if_neg c, fst1_no _ _ (fun j h1 h2 => by rw [p1_eq hP hf, decide_eq_false (by omega), Bool.and_false])]
    exact (Decidable.byContradiction c).symm
/-- two numbers, tried: code 96 u + v -/
def p2 (τ : zMem) (hid : Int → Int → Bool) (c : Int) : Bool := decide ((c / 96 < c % 96 ∧ c / 96 % 8 < aP τ ∧ c % 96 % 8 < aP τ) ∧ Gn τ (setB (setB hid (c / 96)) (c % 96)) = 0)
theorem fst1_sh {p : Int → Bool} {a : Int} (ha : 0 ≤ a) : ∀ (k : Nat) (c : Int), 0 ≤ c → fst1 p k (a + c) = if fst1 (fun j => p (a + j)) k c = -1 then -1 else a + fst1 (fun j => p (a + j)) k c
  | 0, c, _ => by show (-1 : Int) = if (-1 : Int) = -1 then -1 else _; rw [if_pos rfl]
  | k + 1, c, h0 => by
    unfold fst1
    by_cases h : p (a + c) = true
    · rw [if_pos h, if_pos h, if_neg (by omega)]
    · rw [if_neg h, if_neg h, show a + c + 1 = a + (c + 1) by omega]
      exact fst1_sh ha k (c + 1) (by omega)
/-- the row of u among the codes -/
theorem row_two {u : Int} (hP : 0 ≤ aP τ ∧ aP τ ≤ 8) (hf : tFh τ hid ≠ -1) (hn : ∀ v, 0 ≤ v → v < 96 → p1 τ hid v = false) (hu : 0 ≤ u ∧ u < 96) : fst1 (p2 τ hid) 96 (96 * u) = if (wthT τ hid u = true ∧ u < 8 * (tFh τ hid + 1)) ∧ nthT τ (setB hid u) (8 * (tFh τ (setB hid u) + 1) - (u + 1)).toNat (u + 1) ≠ -1 then 96 * u + nthT τ (setB hid u) (8 * (tFh τ (setB hid u) + 1) - (u + 1)).toNat (u + 1) else -1 := by
  have e0 : fst1 (p2 τ hid) 96 (96 * u) = if fst1 (fun j => p2 τ hid (96 * u + j)) 96 0 = -1 then -1 else 96 * u + fst1 (fun j => p2 τ hid (96 * u + j)) 96 0 := by
    have := fst1_sh (p := p2 τ hid) (a := 96 * u) (by omega) 96 0 (by omega)
    rw [Int.add_zero] at this
    exact this
  have pv : ∀ v, 0 ≤ v → v < 96 → p2 τ hid (96 * u + v) = decide ((u < v ∧ u % 8 < aP τ ∧ v % 8 < aP τ) ∧ Gn τ (setB (setB hid u) v) = 0) := by
    intro v v0 v1
    unfold p2
    rw [show (96 * u + v) / 96 = u by omega, show (96 * u + v) % 96 = v by omega]
  have single : ∀ v, 0 ≤ v → v < 96 → v % 8 < aP τ → Gn τ (setB hid v) ≠ 0 := fun v v0 v1 hv q => by
    have := hn v v0 v1
    exact absurd ⟨hv, q⟩ (of_decide_eq_false this)
  by_cases hw : (wthT τ hid u = true ∧ u < 8 * (tFh τ hid + 1))
  · have hu8 : u % 8 < aP τ := (of_decide_eq_true hw.1).1
    have hf2 : tFh τ (setB hid u) ≠ -1 := fun z => single u hu.1 hu.2 hu8 ((fh_Gn hP).1.mp z)
    have e1 : fst1 (fun j => p2 τ hid (96 * u + j)) 96 0 = fst1 (p1 τ (setB hid u)) (96 - (u + 1)).toNat (u + 1) := by
      have e : 96 = (u + 1).toNat + (96 - (u + 1)).toNat := by omega
      have a := fst1_app (p := fun j => p2 τ hid (96 * u + j)) (u + 1).toNat (96 - (u + 1)).toNat 0 (by omega)
      rw [← e, fst1_no (u + 1).toNat 0 (fun j h1 h2 => by
        show p2 τ hid (96 * u + j) = false
        rw [pv j (by omega) (by omega)]
        exact decide_eq_false (fun z => by omega)), if_neg (fun z => z rfl), show (0 : Int) + ((u + 1).toNat : Int) = u + 1 by omega] at a
      rw [a]
      refine fst1_cg _ _ (fun j h1 h2 => ?_)
      show p2 τ hid (96 * u + j) = p1 τ (setB hid u) j
      rw [pv j (by omega) (by omega)]
      unfold p1
      apply decide_eq_decide.mpr
      exact ⟨fun z => ⟨z.1.2.2, z.2⟩, fun z => ⟨⟨by omega, hu8, z.1⟩, z.2⟩⟩
    rw [e0, e1, nth_all hP hf2 (by omega)]
    by_cases c : nthT τ (setB hid u) (8 * (tFh τ (setB hid u) + 1) - (u + 1)).toNat (u + 1) = -1
    · rw [if_pos c, if_neg (fun z => z.2 c)]
    · rw [if_neg c, if_pos ⟨hw, c⟩]
  · rw [if_neg (fun z => hw z.1), e0, if_pos]
    refine fst1_no 96 0 (fun v h1 h2 => ?_)
    show p2 τ hid (96 * u + v) = false
    rw [pv v h1 (by omega)]
    refine decide_eq_false (fun z => ?_)
    by_cases w1 : wthT τ hid u = true
    · have hl : ¬ u < 8 * (tFh τ hid + 1) := fun q => hw ⟨w1, q⟩
      exact Gn_late (hid2 := setB (setB hid u) v) hP hf (fun h p q1 q2 q3 q4 => by rw [set_late (by omega), set_late (by omega)]) z.2
    · have e : Gn τ (setB (setB hid u) v) = Gn τ (setB hid v) := Gn_cg hP (fun h p _ _ _ _ hs => by
        show (setB hid u h p || _) = (hid h p || _)
        rw [set_idle z.1.2.1 w1 h p hs])
      exact single v h1 (by omega) z.1.2.2 (by rw [← e]; exact z.2)
theorem twoT_s {k : Nat} {u : Int} : twoT τ hid (k + 1) u = if wthT τ hid u = true ∧ nthT τ (setB hid u) (8 * (tFh τ (setB hid u) + 1) - (u + 1)).toNat (u + 1) ≠ -1 then (u, nthT τ (setB hid u) (8 * (tFh τ (setB hid u) + 1) - (u + 1)).toNat (u + 1)) else twoT τ hid k (u + 1) := rfl
theorem two_all (hP : 0 ≤ aP τ ∧ aP τ ≤ 8) (hf : tFh τ hid ≠ -1) (hn : ∀ v, 0 ≤ v → v < 96 → p1 τ hid v = false) : ∀ (m : Nat) (u : Int), 0 ≤ u → u + m = 96 → (fst1 (p2 τ hid) (96 * m) (96 * u) = -1 ∧ twoT τ hid (8 * (tFh τ hid + 1) - u).toNat u = (-1, -1)) ∨ ((0 ≤ fst1 (p2 τ hid) (96 * m) (96 * u) ∧ fst1 (p2 τ hid) (96 * m) (96 * u) < 9216) ∧ twoT τ hid (8 * (tFh τ hid + 1) - u).toNat u = (fst1 (p2 τ hid) (96 * m) (96 * u) / 96, fst1 (p2 τ hid) (96 * m) (96 * u) % 96))
  | 0, u, h0, h1 => by
    have b := ((fh_Gn (hid := hid) hP).2 hf).1
    rw [show (8 * (tFh τ hid + 1) - u).toNat = 0 by omega]
    exact Or.inl ⟨rfl, rfl⟩
  | m + 1, u, h0, h1 => by
    have b := ((fh_Gn (hid := hid) hP).2 hf).1
    have ih := two_all hP hf hn m (u + 1) (by omega) (by omega)
    have rt := row_two hP hf hn (u := u) (by omega)
    have e : fst1 (p2 τ hid) (96 * (m + 1)) (96 * u) = if fst1 (p2 τ hid) 96 (96 * u) ≠ -1 then fst1 (p2 τ hid) 96 (96 * u) else fst1 (p2 τ hid) (96 * m) (96 * (u + 1)) := by
      rw [show 96 * (m + 1) = 96 + 96 * m by omega, fst1_app _ _ _ (by omega), show 96 * u + ((96 : Nat) : Int) = 96 * (u + 1) by omega]
    by_cases hl : u < 8 * (tFh τ hid + 1)
    · rw [show (8 * (tFh τ hid + 1) - u).toNat = (8 * (tFh τ hid + 1) - (u + 1)).toNat + 1 by omega, twoT_s]
      by_cases c : wthT τ hid u = true ∧ nthT τ (setB hid u) (8 * (tFh τ (setB hid u) + 1) - (u + 1)).toNat (u + 1) ≠ -1
      · have hu8 : u % 8 < aP τ := (of_decide_eq_true c.1).1
        rw [if_pos ⟨⟨c.1, hl⟩, c.2⟩] at rt
        rw [if_pos c]
        have hf2 : tFh τ (setB hid u) ≠ -1 := fun z => by
          have := hn u h0 (by omega)
          exact absurd ⟨hu8, (fh_Gn hP).1.mp z⟩ (of_decide_eq_false this)
        have b2 := ((fh_Gn (hid := setB hid u) hP).2 hf2).1
        have nr : u + 1 ≤ nthT τ (setB hid u) (8 * (tFh τ (setB hid u) + 1) - (u + 1)).toNat (u + 1) ∧ nthT τ (setB hid u) (8 * (tFh τ (setB hid u) + 1) - (u + 1)).toNat (u + 1) < 96 := by
          have c2 := c.2
          rw [nth_fst] at c2 ⊢
          rcases fst1_r (p := pW τ (setB hid u)) (8 * (tFh τ (setB hid u) + 1) - (u + 1)).toNat (u + 1) (by omega) with z | z
          · exact absurd z.1 c2
          · omega
        generalize nthT τ (setB hid u) (8 * (tFh τ (setB hid u) + 1) - (u + 1)).toNat (u + 1) = v at nr rt
        rw [rt, if_pos (by omega)] at e
        rw [e]
        refine Or.inr ⟨by omega, ?_⟩
        rw [show (96 * u + v) / 96 = u by omega, show (96 * u + v) % 96 = v by omega]
      · rw [if_neg (fun z => c ⟨z.1.1, z.2⟩)] at rt
        rw [rt, if_neg (fun z => z rfl)] at e
        rw [if_neg c, e]
        exact ih
    · rw [if_neg (fun z => hl z.1.2)] at rt
      rw [rt, if_neg (fun z => z rfl)] at e
      rw [e, show (8 * (tFh τ hid + 1) - u).toNat = 0 by omega]
      rw [show (8 * (tFh τ hid + 1) - (u + 1)).toNat = 0 by omega] at ih
      exact ih
/-- every way tried, the fewest first -/
def shAll (τ : zMem) (hid : Int → Int → Bool) : Int × Int × Int :=
  if Gn τ hid = 0 then (0, -1, -1) else if fst1 (p1 τ hid) 96 0 ≠ -1 then (1, fst1 (p1 τ hid) 96 0, -1) else if fst1 (p2 τ hid) 9216 0 ≠ -1 then (2, fst1 (p2 τ hid) 9216 0 / 96, fst1 (p2 τ hid) 9216 0 % 96) else (-1, -1, -1)
theorem shAll_eq (hP : 0 ≤ aP τ ∧ aP τ ≤ 8) : shAll τ hid = shdT τ hid := by
  unfold shAll shdT
  by_cases g : Gn τ hid = 0
  · rw [if_pos g, if_pos ((fh_Gn hP).1.mpr g)]
  · have hf : tFh τ hid ≠ -1 := fun z => g ((fh_Gn hP).1.mp z)
    have e1 : fst1 (p1 τ hid) 96 0 = nthT τ hid (8 * (tFh τ hid + 1)).toNat 0 := by
      have := nth_all (u := 0) hP hf (by omega)
      rw [Int.sub_zero, Int.sub_zero] at this
      exact this
    rw [if_neg g, if_neg hf, e1]
    by_cases c : nthT τ hid (8 * (tFh τ hid + 1)).toNat 0 ≠ -1
    · rw [if_pos c, if_pos c]
    · rw [if_neg c, if_neg c]
      have c0 : fst1 (p1 τ hid) 96 0 = -1 := by rw [e1]; exact Decidable.byContradiction c
      have hn : ∀ v, 0 ≤ v → v < 96 → p1 τ hid v = false := by
        rcases fst1_r (p := p1 τ hid) 96 0 (by omega) with z | z
        · exact fun v v0 v1 => z.2 v v0 (by omega)
        · omega
      have t := two_all hP hf hn 96 0 (by omega) (by omega)
      rw [Int.sub_zero] at t
      have t : (fst1 (p2 τ hid) 9216 0 = -1 ∧ twoT τ hid (8 * (tFh τ hid + 1)).toNat 0 = (-1, -1)) ∨ ((0 ≤ fst1 (p2 τ hid) 9216 0 ∧ fst1 (p2 τ hid) 9216 0 < 9216) ∧ twoT τ hid (8 * (tFh τ hid + 1)).toNat 0 = (fst1 (p2 τ hid) 9216 0 / 96, fst1 (p2 τ hid) 9216 0 % 96)) := t
      rcases t with z | z
      · rw [z.2, if_neg (fun q => q z.1), if_neg (fun q => q rfl)]
      · rw [z.2, if_pos (by omega), if_pos (by show fst1 (p2 τ hid) 9216 0 / 96 ≠ -1; omega)]
end
