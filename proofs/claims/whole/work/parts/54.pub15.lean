/-! ===== LowerBows: stroll ===== -/
section
variable {mem m2 τ τ2 : zMem} {Q : Option zVal → zMem → Prop}
/-- the streets when p's first three hours are row r -/
def srT (τ : zMem) (p r h q : Int) : Int := if q = p ∧ h < 3 then (if dgt r h = 8 then -1 else dgt r h) else aSr τ h q
def dayT (τ : zMem) (p r : Int) : zS := tWalk (aP τ) (aCan τ) (aSt τ) (srT τ p r) (aHid τ 0) 12 (beg0 (aDf τ (-1)))
def cstT (τ : zMem) (p r : Int) : Int := 100 * pcN (dayT τ p r).2.2.1 + (dayT τ p r).2.1 p
def strT (τ : zMem) (p e r : Int) (x : Int × Int) : Int × Int := if (r / 81 = e ∨ r / 9 % 9 = e ∨ r % 9 = e) ∧ cstT τ p r < x.1 then (cstT τ p r, r) else x
def strlT (τ : zMem) (p e : Int) : Int × Int := lp (strT τ p e) 729 0 (900, -1)
theorem rwS_at {row st : Int → Int} {p h q : Int} (hp : 0 ≤ p ∧ p < 8) (hh : 0 ≤ h ∧ h < 12) (hq : 0 ≤ q ∧ q < 8) : rwS row p st (h * 8 + q) = if q = p ∧ h < 3 then (if row h = 8 then -1 else row h) else st (h * 8 + q) := by
  unfold rwS
  show rwU row p (0 + 1 + 1) (rwU row p (0 + 1) (rwU row p 0 st)) (h * 8 + q) = _
  unfold rwU
  by_cases e : q = p ∧ h < 3
  · rw [if_pos e]
    obtain ⟨rfl, h3⟩ := e
    have : h = 0 ∨ h = 1 ∨ h = 2 := by omega
    rcases this with rfl | rfl | rfl
    · rw [zupd_ne (by omega), zupd_ne (by omega), zupd_eq]
    · rw [zupd_ne (by omega)]; exact zupd_eq
    · exact zupd_eq
  · rw [if_neg e, zupd_ne (by omega), zupd_ne (by omega), zupd_ne (by omega)]
theorem day_T {st hd df : Int → Int} {p r : Int} (h : shE mem τ st hd df (aHid τ 0)) (hp : 0 ≤ p ∧ p < mem 5 4) : eqP (mem 5 4) (dayC mem (rwS (dgt r) p st) hd df) (dayT τ p r) := by
  unfold dayC dayT
  rw [← h.2.2.1]
  have e : eqP (mem 5 4) (beg0 df) (beg0 (aDf τ (-1))) := ⟨h.2.1, fun _ _ _ => rfl, rfl⟩
  refine walk_t ⟨h.1.1, fun a q q1 q2 q3 q4 => ?_, h.1.2.2⟩ h.2.2.2.1 (by omega) e
  have h8 := h.2.2.2.2
  rw [rwS_at (by omega) ⟨q1, q2⟩ (by omega), h.1.2.1 a q q1 q2 q3 q4]
  rfl
theorem cst_T {st hd df : Int → Int} {p r : Int} (h : shE mem τ st hd df (aHid τ 0)) (hp : 0 ≤ p ∧ p < mem 5 4) : cstC mem (rwS (dgt r) p st) hd df p = cstT τ p r := by
  have := day_T (r := r) h hp
  unfold cstC cstT
  rw [this.2.2, this.2.1 p hp.1 hp.2]
theorem str_T {st hd df : Int → Int} {p e : Int} (h : shE mem τ st hd df (aHid τ 0)) (hp : 0 ≤ p ∧ p < mem 5 4) : lp (strF mem st hd df p e) 729 0 (900, -1) = strlT τ p e := by
  have : strF mem st hd df p e = strT τ p e := by
    funext r x
    unfold strF strT
    rw [cst_T h hp]
  unfold strlT
  rw [this]
theorem str_has {p e : Int} (hc : ∀ r, cstT τ p r ≤ 899) : ∀ (k : Nat) (i : Int) (x : Int × Int), 0 ≤ i → (x.2 = -1 → x.1 = 900) → (x.2 ≠ -1 ∨ (i ≤ 81 * e ∧ 81 * e < i + k)) → (lp (strT τ p e) k i x).2 ≠ -1
  | 0, i, x, _, _, h => by
    rcases h with h | h
    · exact h
    · omega
  | k + 1, i, x, h0, h1, h => by
    rw [lp_s]
    have c := hc i
    by_cases q : (i / 81 = e ∨ i / 9 % 9 = e ∨ i % 9 = e) ∧ cstT τ p i < x.1
    · have e1 : strT τ p e i x = (cstT τ p i, i) := by unfold strT; rw [if_pos q]
      rw [e1]
      exact str_has hc k (i + 1) _ (by omega) (fun z => by have z : i = -1 := z; omega) (Or.inl (fun z => by have z : i = -1 := z; omega))
    · have e1 : strT τ p e i x = x := by unfold strT; rw [if_neg q]
      rw [e1]
      refine str_has hc k (i + 1) x (by omega) h1 ?_
      by_cases z : x.2 = -1
      · have z1 := h1 z
        rcases h with h | h
        · exact Or.inl h
        · refine Or.inr ⟨?_, by omega⟩
          have : ¬ i = 81 * e := fun w => q ⟨Or.inl (by omega), by omega⟩
          omega
      · exact Or.inl z
end
