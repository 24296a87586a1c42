/-! ===== LowerBows: shade ===== -/
section
variable {mem m2 τ τ2 : zMem} {Q : Option zVal → zMem → Prop}
/-- one more umbrella: number u is hour u / 8, person u % 8 -/
def setB (hid : Int → Int → Bool) (u : Int) : Int → Int → Bool := fun h p => hid h p || decide (h = u / 8 ∧ p = u % 8)
/-- the first hour somebody is gone behind, when hid says who isn't seen -/
def tFh (τ : zMem) (hid : Int → Int → Bool) : Int := (tTill (aP τ) (aCan τ) (aSt τ) (aSr τ) hid 12 0 (beg0 (aDf τ (-1)))).2.2.2.2.1
def wthT (τ : zMem) (hid : Int → Int → Bool) (u : Int) : Bool := decide (u % 8 < aP τ ∧ aSr τ (u / 8) (u % 8) ≠ -1 ∧ hid (u / 8) (u % 8) = false)
def nthT (τ : zMem) (hid : Int → Int → Bool) : Nat → Int → Int
  | 0, _ => -1
  | k + 1, u => if wthT τ hid u = true ∧ tFh τ (setB hid u) = -1 then u else nthT τ hid k (u + 1)
def twoT (τ : zMem) (hid : Int → Int → Bool) : Nat → Int → Int × Int
  | 0, _ => (-1, -1)
  | k + 1, u => if wthT τ hid u = true ∧ nthT τ (setB hid u) (8 * (tFh τ (setB hid u) + 1) - (u + 1)).toNat (u + 1) ≠ -1 then (u, nthT τ (setB hid u) (8 * (tFh τ (setB hid u) + 1) - (u + 1)).toNat (u + 1)) else twoT τ hid k (u + 1)
def shdT (τ : zMem) (hid : Int → Int → Bool) : Int × Int × Int :=
  if tFh τ hid = -1 then (0, -1, -1)
  else if nthT τ hid (8 * (tFh τ hid + 1)).toNat 0 ≠ -1 then (1, nthT τ hid (8 * (tFh τ hid + 1)).toNat 0, -1)
  else if (twoT τ hid (8 * (tFh τ hid + 1)).toNat 0).1 ≠ -1 then (2, twoT τ hid (8 * (tFh τ hid + 1)).toNat 0)
  else (-1, -1, -1)
/-- the shade plan's coast is the one told, hid -/
def shE (mem τ : zMem) (st hd df : Int → Int) (hid : Int → Int → Bool) : Prop := pEq (mem 5 4) (mem 7) (mem 9) st (fun h => zor (hd h) (mem 5 5)) (aCan τ) (aSt τ) (aSr τ) hid ∧ (∀ a b, 0 ≤ a → a < b → b < mem 5 4 → df (a * 8 + b) = aDf τ (-1) (a * 8 + b)) ∧ (mem 5 4 = aP τ ∧ 0 ≤ mem 5 4 ∧ mem 5 4 ≤ 8)
theorem fh_T {st hd df : Int → Int} {hid : Int → Int → Bool} (h : shE mem τ st hd df hid) : fhC mem st hd df = tFh τ hid := by
  unfold fhC tFh
  rw [← h.2.2.1]
  have e : eqP (mem 5 4) (beg0 df) (beg0 (aDf τ (-1))) := ⟨h.2.1, fun _ _ _ => rfl, rfl⟩
  have := till_t h.1 h.2.2.2.1 12 0 _ _ (by omega) (by omega) e
  rw [this.2.2]
theorem wth_T {st hd df : Int → Int} {hid : Int → Int → Bool} {u : Int} (h : shE mem τ st hd df hid) (hu : 0 ≤ u ∧ u < 96) : wrth mem st hd u = wthT τ hid u := by
  unfold wrth wthT
  rw [← h.2.2.1]
  by_cases q : u % 8 < mem 5 4
  · have e1 := h.1.2.1 (u / 8) (u % 8) (by omega) (by omega) (by omega) q
    have e2 := h.1.2.2 (u / 8) (u % 8) (by omega) (by omega) (by omega) q
    rw [show u / 8 * 8 + u % 8 = u by omega] at e1
    rw [e1, e2]
  · rw [decide_eq_false (fun z => q z.1), decide_eq_false (fun z => q z.1)]
theorem tog_T {st hd df : Int → Int} {hid : Int → Int → Bool} {u : Int} (h : shE mem τ st hd df hid) (hu : 0 ≤ u ∧ u < 96) (hw : wthT τ hid u = true) : shE mem τ st (tog hd u) df (setB hid u) := by
  obtain ⟨⟨h1, h2, h3⟩, h4, h5⟩ := h
  refine ⟨⟨h1, h2, fun a p q1 q2 q3 q4 => ?_⟩, h4, h5⟩
  have hw := of_decide_eq_true hw
  rw [← h5.1] at hw
  have e0 := h3 a p q1 q2 q3 q4
  show tb (zor (tog hd u a) (mem 5 5)) p.toNat = (hid a p || decide (a = u / 8 ∧ p = u % 8))
  rw [← e0]
  unfold tog
  by_cases ea : a = u / 8
  · subst ea
    have e1 := h3 (u / 8) (u % 8) q1 q2 (by omega) hw.1
    rw [hw.2.2] at e1
    have e1 : tb (zor (hd (u / 8)) (mem 5 5)) (u % 8).toNat = false := e1
    rw [tb_or] at e1
    have e1 := Bool.or_eq_false_iff.mp e1
    rw [zupd_eq, tb_or, tb_or, tb_xor, tb_shl1 (by omega) (by omega)]
    by_cases ep : p = u % 8
    · subst ep
      rw [e1.1, e1.2]
      simp
    · have n1 : ¬ p.toNat = (u % 8).toNat := by omega
      simp [n1, ep]
  · rw [zupd_ne ea]
    simp [ea]
theorem nth_T {st hd df : Int → Int} {hid : Int → Int → Bool} (h : shE mem τ st hd df hid) : ∀ (k : Nat) (u : Int), 0 ≤ u → u + k ≤ 96 → nthS mem st hd df k u = nthT τ hid k u
  | 0, _, _, _ => rfl
  | k + 1, u, h0, h1 => by
    unfold nthS nthT
    rw [wth_T h (by omega), nth_T h k (u + 1) (by omega) (by omega)]
    by_cases q : wthT τ hid u = true
    · rw [fh_T (tog_T h (by omega) q)]
    · rw [if_neg (fun z => q z.1), if_neg (fun z => q z.1)]
theorem tFh_r {st hd df : Int → Int} {hid : Int → Int → Bool} (h : shE mem τ st hd df hid) : -1 ≤ tFh τ hid ∧ tFh τ hid ≤ 11 := by rw [← fh_T h]; exact fhC_r
theorem two_T {st hd df : Int → Int} {hid : Int → Int → Bool} (h : shE mem τ st hd df hid) : ∀ (k : Nat) (u : Int), 0 ≤ u → u + k ≤ 96 → two0 mem st hd df k u = twoT τ hid k u
  | 0, _, _, _ => rfl
  | k + 1, u, h0, h1 => by
    unfold two0 twoT
    rw [wth_T h (by omega), two_T h k (u + 1) (by omega) (by omega)]
    by_cases q : wthT τ hid u = true
    · have t := tog_T h (by omega) q
      have r := tFh_r t
      rw [fh_T t, nth_T t _ (u + 1) (by omega) (by omega)]
    · rw [if_neg (fun z => q z.1), if_neg (fun z => q z.1)]
theorem shd_T {st hd df : Int → Int} {hid : Int → Int → Bool} (h : shE mem τ st hd df hid) : shdS mem st hd df = shdT τ hid := by
  have r := tFh_r h
  unfold shdS shdT
  rw [fh_T h, nth_T h _ 0 (by omega) (by omega), two_T h _ 0 (by omega) (by omega)]
end
