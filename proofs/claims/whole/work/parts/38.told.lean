/-! ===== what was told (tau), the class's invariant, the hours as told ===== -/
abbrev aP (τ : zMem) : Int := sP (τ 2 0) (τ 0)
abbrev aCan (τ : zMem) : Int → Int := sCan (τ 0)
abbrev aSt (τ : zMem) : Int → Int := sSt (τ 0)
abbrev aK (τ : zMem) : Int → Int := sK (τ 0)
abbrev aSr (τ : zMem) : Int → Int → Int := sStr (τ 2 1) (τ 1)
/-- the sheets' bounds -/
def shI (τ : zMem) : Prop := ∀ s, 0 ≤ s → s ≤ 3 → (-1 ≤ τ 11 s ∧ τ 11 s ≤ 2) ∧ (0 ≤ τ 12 s ∧ τ 12 s ≤ 60) ∧ ∀ i, 0 ≤ i → i < τ 12 s → τ 11 s ≠ -1 → zR (τ (13 + s.toNat) i)
theorem shI_of {τ τ2 : zMem} (h : ∀ k, 11 ≤ k → τ2 k = τ k) (hs : shI τ) : shI τ2 := by
  intro s q1 q2
  rw [h 11 (by omega), h 12 (by omega), h (13 + s.toNat) (by omega)]
  exact hs s q1 q2
/-- what was told keeps its bounds -/
def tauI (τ : zMem) : Prop :=
  ((0 ≤ τ 2 0 ∧ τ 2 0 ≤ 39) ∧ (0 ≤ τ 2 1 ∧ τ 2 1 ≤ 71) ∧ (0 ≤ τ 2 2 ∧ τ 2 2 ≤ 12) ∧ (0 ≤ τ 2 3 ∧ τ 2 3 ≤ 8) ∧ (0 ≤ τ 2 4 ∧ τ 2 4 ≤ 8) ∧ (0 ≤ τ 2 5 ∧ τ 2 5 ≤ 5)) ∧
  (∀ i, 0 ≤ i → i < τ 2 0 → 0 ≤ τ 0 i ∧ τ 0 i ≤ 255) ∧ (∀ i, 0 ≤ i → i < τ 2 1 → 0 ≤ τ 1 i ∧ τ 1 i ≤ 255) ∧
  (∀ k, 0 ≤ k → k < τ 2 2 → ((0 ≤ τ 3 k ∧ τ 3 k ≤ 7) ∧ (0 ≤ τ 4 k ∧ τ 4 k ≤ 7)) ∧ τ 3 k ≠ τ 4 k ∧ (1 ≤ τ 5 k ∧ τ 5 k ≤ 99)) ∧
  (∀ u, 0 ≤ u → u < τ 2 3 → (0 ≤ τ 6 u ∧ τ 6 u ≤ 11) ∧ (0 ≤ τ 7 u ∧ τ 7 u ≤ 7)) ∧
  (∀ i, 0 ≤ i → i < τ 2 4 → (0 ≤ τ 8 i ∧ τ 8 i ≤ 11) ∧ (0 ≤ τ 9 i ∧ τ 9 i ≤ 7) ∧ (0 ≤ τ 10 i ∧ τ 10 i ≤ 99)) ∧
  shI τ
/-- a sheet of the class -/
def shC (mem τ : zMem) (s : Int) : Prop := shR mem (40 + 2 * s.toNat) ∧ (mem (40 + 2 * s.toNat) 1 = 1 ↔ τ 11 s = -1) ∧ (τ 11 s ≠ -1 → mem (40 + 2 * s.toNat) 2 = τ 11 s) ∧ mem (40 + 2 * s.toNat) 3 = τ 12 s ∧ (τ 11 s ≠ -1 → ∀ i, 0 ≤ i → i < τ 12 s → mem (41 + 2 * s.toNat) i = τ (13 + s.toNat) i)
/-- the class's cells hold what was told -/
def CI (mem τ : zMem) : Prop :=
  tauI τ ∧ (tx0 mem (τ 2 0) (τ 0) ∧ tx1 mem (τ 2 1) (τ 1)) ∧ (pplC mem (τ 2 0) (τ 0) ∧ wlkC mem (τ 2 1) (τ 1)) ∧
  (mem 12 3 = τ 2 2 ∧ mem 16 3 = τ 2 3 ∧ mem 20 3 = τ 2 4 ∧ mem 0 13 = τ 2 5) ∧
  (∀ k, 0 ≤ k → k < τ 2 2 → mem 13 k = τ 3 k ∧ mem 14 k = τ 4 k ∧ mem 15 k = τ 5 k) ∧ (∀ u, 0 ≤ u → u < τ 2 3 → mem 17 u = τ 6 u ∧ mem 18 u = τ 7 u) ∧
  (∀ i, 0 ≤ i → i < τ 2 4 → mem 21 i = τ 8 i ∧ mem 22 i = τ 9 i ∧ mem 23 i = τ 10 i) ∧ (∀ s, 0 ≤ s → s ≤ 3 → shC mem τ s)
theorem CI_of {mem m2 τ : zMem} (h : zfr scr mem m2) (hI : CI mem τ) : CI m2 τ := by
  have hk : ∀ k, k ∉ scr → m2 k = mem k := h
  unfold CI shC tx0 tx1 pplC wlkC manC shR at *
  rw [hk 0 (by decide), hk 1 (by decide), hk 2 (by decide), hk 3 (by decide), hk 4 (by decide), hk 5 (by decide), hk 6 (by decide), hk 7 (by decide), hk 8 (by decide), hk 9 (by decide), hk 10 (by decide), hk 11 (by decide), hk 12 (by decide), hk 13 (by decide), hk 14 (by decide), hk 15 (by decide), hk 16 (by decide), hk 17 (by decide), hk 18 (by decide), hk 20 (by decide), hk 21 (by decide), hk 22 (by decide), hk 23 (by decide)]
  refine ⟨hI.1, hI.2.1, hI.2.2.1, hI.2.2.2.1, hI.2.2.2.2.1, hI.2.2.2.2.2.1, hI.2.2.2.2.2.2.1, fun s h0 h3 => ?_⟩
  have hs := hI.2.2.2.2.2.2.2 s h0 h3
  rw [hk (40 + 2 * s.toNat) (by simp; omega), hk (41 + 2 * s.toNat) (by simp; omega)]
  exact hs
theorem okC_CI {mem τ : zMem} (h : CI mem τ) : okC mem := by
  obtain ⟨⟨hb, h0, h1, ho, hu, hs, hsh⟩, ⟨t0, t1⟩, ⟨hp, hw⟩, ⟨e12, e16, e20, e0⟩, co, cu, cs, csh⟩ := h
  have hP := sP_r (n := τ 2 0) (t := τ 0) hb.1
  have eP := hp.1.1
  refine ⟨⟨by rw [eP]; exact hP, fun p q1 q2 => ?_, by rw [e16]; exact hb.2.2.2.1, fun u q1 q2 => ?_, by rw [e12]; exact hb.2.2.1, fun k q1 q2 => ?_⟩, ⟨by omega, by omega, fun p q1 q2 => ?_⟩, fun i q1 q2 => ?_, fun k q1 q2 => ?_⟩
  · rw [(hp.2 p q1 (by omega)).1.1]; exact (sMan hb.1 q1 (by omega)).1
  · rw [(cu u q1 (by omega)).1, (cu u q1 (by omega)).2]; exact hu u q1 (by omega)
  · rw [(co k q1 (by omega)).1, (co k q1 (by omega)).2.1]; exact (ho k q1 (by omega)).1
  · rw [(hp.2 p q1 (by omega)).1.2, (hp.2 p q1 (by omega)).2.2]
    have := sMan (t := τ 0) hb.1 q1 (by omega)
    exact ⟨this.2.1, this.2.2.2⟩
  · have := hw.2 (i / 8) (i % 8) (by omega) (by omega) (by omega) (by omega)
    rw [show i / 8 * 8 + i % 8 = i by omega] at this
    rw [this]
    exact sStr_r hb.2.1.1 _ _
  · rw [(co k q1 (by omega)).1, (co k q1 (by omega)).2.1, (co k q1 (by omega)).2.2]; exact (ho k q1 (by omega)).2
theorem sgh_CI {mem τ : zMem} (h : CI mem τ) : sghC mem := by
  obtain ⟨⟨hb, h0, h1, ho, hu, hs, hsh⟩, ⟨t0, t1⟩, ⟨hp, hw⟩, ⟨e12, e16, e20, e0⟩, co, cu, cs, csh⟩ := h
  refine ⟨by rw [e20]; exact hb.2.2.2.2.1, fun i q1 q2 => ?_⟩
  rw [(cs i q1 (by omega)).1, (cs i q1 (by omega)).2.1, (cs i q1 (by omega)).2.2]
  exact hs i q1 (by omega)
/-! who is not seen -/
def hidB (ll : Int) (uh uw : Int → Int) (h p : Int) : Nat → Int → Bool
  | 0, _ => false
  | k + 1, u => (!(tb ll u.toNat) && decide (uh u = h) && decide (uw u = p)) || hidB ll uh uw h p k (u + 1)
theorem hidB_ext {ll : Int} {uh uw uh2 uw2 : Int → Int} {h p : Int} : ∀ (k : Nat) (u : Int), (∀ j, u ≤ j → j < u + k → uh j = uh2 j ∧ uw j = uw2 j) → hidB ll uh uw h p k u = hidB ll uh2 uw2 h p k u
  | 0, _, _ => rfl
  | k + 1, u, he => by
    unfold hidB
    rw [(he u (by omega) (by omega)).1, (he u (by omega) (by omega)).2, hidB_ext k (u + 1) (fun j q1 q2 => he j (by omega) (by omega))]
theorem hid_lay {ll : Int} {uh uw : Int → Int} {h p : Int} (hp : 0 ≤ p ∧ p < 8) : ∀ (k : Nat) (u : Int) (hd : Int → Int), (∀ j, u ≤ j → j < u + k → 0 ≤ uw j ∧ uw j ≤ 7) → tb (lp (hdS ll uh uw) k u hd h) p.toNat = (tb (hd h) p.toNat || hidB ll uh uw h p k u)
  | 0, _, _, _ => by simp [lp, hidB]
  | k + 1, u, hd, hu => by
    rw [lp_s, hid_lay hp k (u + 1) _ (fun j q1 q2 => hu j (by omega) (by omega))]
    have hw := hu u (by omega) (by omega)
    show _ = (tb (hd h) p.toNat || ((!(tb ll u.toNat) && decide (uh u = h) && decide (uw u = p)) || hidB ll uh uw h p k (u + 1)))
    rw [← Bool.or_assoc]
    congr 1
    unfold hdS
    split
    · rename_i hl; simp [hl]
    · rename_i hl
      have hl : tb ll u.toNat = false := by simpa using hl
      by_cases e : h = uh u
      · subst e
        rw [zupd_eq, tb_or, tb_shl1 (by omega) (by omega)]
        congr 1
        simp only [hl, Bool.not_false, Bool.true_and, decide_true]
        by_cases e2 : uw u = p
        · subst e2; simp
        · have : ¬ p.toNat = (uw u).toNat := by omega
          simp [e2, this]
      · have : ¬ uh u = h := fun q => e q.symm
        rw [zupd_ne e]
        simp [this]
theorem cl_tb {t : Int → Int} {p : Int} (hp : 0 ≤ p ∧ p < 8) : ∀ (k : Nat) (i b : Int), 0 ≤ i → i + k ≤ 8 → tb (lp (clF t) k i b) p.toNat = (tb b p.toNat || decide (i ≤ p ∧ p < i + k ∧ sK t p = 2))
  | 0, i, b, h0, h8 => by
    have : ¬ (i ≤ p ∧ p < i + ((0 : Nat) : Int) ∧ sK t p = 2) := by omega
    simp only [this, decide_false, Bool.or_false]
    rfl
  | k + 1, i, b, h0, h8 => by
    rw [lp_s, cl_tb hp k (i + 1) _ (by omega) (by omega)]
    unfold clF
    by_cases e : p = i
    · subst e
      have n1 : ¬ (p + 1 ≤ p ∧ p < p + 1 + (k : Int) ∧ sK t p = 2) := by omega
      rw [decide_eq_false n1, Bool.or_false]
      split
      · rename_i h2
        have n2 : p ≤ p ∧ p < p + ((k + 1 : Nat) : Int) ∧ sK t p = 2 := ⟨by omega, by omega, h2⟩
        rw [decide_eq_true n2, tb_or, tb_shl1 (by omega) (by omega)]
        simp
      · rename_i h2
        have n2 : ¬ (p ≤ p ∧ p < p + ((k + 1 : Nat) : Int) ∧ sK t p = 2) := fun q => h2 q.2.2
        rw [decide_eq_false n2, Bool.or_false]
    · have e1 : tb (if sK t i = 2 then zor b (zshl 1 i) else b) p.toNat = tb b p.toNat := by
        split
        · rw [tb_or, tb_shl1 (by omega) (by omega)]
          have : ¬ p.toNat = i.toNat := by omega
          simp [this]
        · rfl
      rw [e1]
      congr 1
      apply decide_eq_decide.mpr
      constructor
      · intro q; exact ⟨by omega, by omega, q.2.2⟩
      · intro q; exact ⟨by omega, by omega, q.2.2⟩
def aHid (τ : zMem) (ll : Int) (h p : Int) : Bool := hidB ll (τ 6) (τ 7) h p (τ 2 3).toNat 0 || decide (sK (τ 0) p = 2)
/-- the bows that are due first, without old bow ol -/
def aDf (τ : zMem) (ol : Int) : Int → Int := lp (odS (aSt τ) ol (τ 3) (τ 4) (τ 5)) (τ 2 2).toNat 0 (efbS (aP τ) (aK τ) (fun _ => 0))
theorem layT {mem τ : zMem} (hI : CI mem τ) (ol ll : Int) (L : zL) : pEq (mem 5 4) (mem 7) (mem 9) (layS mem ol ll L).1 (fun h => zor ((layS mem ol ll L).2.1 h) (mem 5 5)) (aCan τ) (aSt τ) (aSr τ) (aHid τ ll) ∧ (∀ a b, 0 ≤ a → a < b → b < mem 5 4 → (layS mem ol ll L).2.2 (a * 8 + b) = aDf τ ol (a * 8 + b)) ∧ mem 5 4 = aP τ := by
  obtain ⟨⟨hb, h0, h1, ho, hu, hs, hsh⟩, ⟨t0, t1⟩, ⟨hp, hw⟩, ⟨e12, e16, e20, e0⟩, co, cu, cs, csh⟩ := hI
  have hP := sP_r (n := τ 2 0) (t := τ 0) hb.1
  have eP := hp.1.1
  refine ⟨⟨fun p q1 q2 => ⟨(hp.2 p q1 (by omega)).1.2, (hp.2 p q1 (by omega)).2.2⟩, fun h p q1 q2 q3 q4 => ?_, fun h p q1 q2 q3 q4 => ?_⟩, fun a b q1 q2 q3 => ?_, eP⟩
  · show zcpy (mem 11) L.1 0 0 96 (h * 8 + p) = _
    rw [zcpy96 (by omega)]
    exact hw.2 h p q1 q2 q3 (by omega)
  · show tb (zor (lp (hdS ll (mem 17) (mem 18)) (mem 16 3).toNat 0 (zfil 12 0 L.2.1) h) (mem 5 5)) p.toNat = _
    rw [tb_or, hid_lay (by omega) _ _ _ (fun j z1 z2 => by rw [(cu j z1 (by omega)).2]; exact (hu j z1 (by omega)).2), hp.1.2.1, cl_tb (by omega) _ _ _ (by omega) (by omega)]
    unfold zfil aHid
    rw [if_pos ⟨q1, q2⟩, tb_0, Bool.false_or, Bool.false_or, e16, hidB_ext _ _ (fun j z1 z2 => cu j z1 (by omega))]
    congr 1
    apply decide_eq_decide.mpr
    constructor
    · intro q; exact q.2.2
    · intro q; exact ⟨by omega, by omega, q⟩
  · show lp (odS (mem 9) ol (mem 13) (mem 14) (mem 15)) (mem 12 3).toNat 0 (efbS (mem 5 4) (mem 6) L.2.2) (a * 8 + b) = _
    unfold aDf
    rw [e12]
    have key := lp_rel (f := odS (mem 9) ol (mem 13) (mem 14) (mem 15)) (g := odS (aSt τ) ol (τ 3) (τ 4) (τ 5)) (R := fun x y : Int → Int => ∀ a b, 0 ≤ a → a < b → b < mem 5 4 → x (a * 8 + b) = y (a * 8 + b)) (τ 2 2).toNat 0 (efbS (mem 5 4) (mem 6) L.2.2) (efbS (aP τ) (aK τ) (fun _ => 0)) (fun j x y z1 z2 hxy a b q1 q2 q3 => ?_) (fun a b q1 q2 q3 => ?_)
    · exact key a b q1 q2 q3
    · have c := co j z1 (by omega)
      have o := ho j z1 (by omega)
      unfold odS eaS
      rw [c.1, c.2.1, c.2.2]
      split
      · exact hxy a b q1 q2 q3
      · have sa : mem 9 a = aSt τ a := (hp.2 a q1 (by omega)).2.2
        have sb : mem 9 b = aSt τ b := (hp.2 b (by omega) (by omega)).2.2
        split
        · by_cases e : a * 8 + b = τ 3 j * 8 + τ 4 j
          · have e1 : a = τ 3 j ∧ b = τ 4 j := by omega
            rw [e, zupd_eq, zupd_eq, ← e1.2, sb]
          · rw [zupd_ne e, zupd_ne e]; exact hxy a b q1 q2 q3
        · by_cases e : a * 8 + b = τ 4 j * 8 + τ 3 j
          · have e1 : a = τ 4 j ∧ b = τ 3 j := by omega
            rw [e, zupd_eq, zupd_eq, ← e1.1, sa]
          · rw [zupd_ne e, zupd_ne e]; exact hxy a b q1 q2 q3
    · rw [efb_at (by omega) q1 q2 q3, efb_at (show aP τ ≤ 8 from hP.2) q1 q2 (show b < sP (τ 2 0) (τ 0) by omega), (hp.2 a q1 (by omega)).1.1, (hp.2 b (by omega) (by omega)).1.1]
/-- the day as told, behind n hours -/
def aSim (τ : zMem) (ol ll : Int) (n : Nat) : zS := tWalk (aP τ) (aCan τ) (aSt τ) (aSr τ) (aHid τ ll) n (beg0 (aDf τ ol))
theorem simT {mem τ : zMem} (hI : CI mem τ) (ol ll : Int) {n : Nat} (hn : n ≤ 12) (L : zL) (d l : Int → Int) : eqP (aP τ) (walkS (mem 5 4) (mem 7) (mem 9) (layS mem ol ll L).1 (fun h => zor ((layS mem ol ll L).2.1 h) (mem 5 5)) n (begS (layS mem ol ll L).2.2 d l)) (aSim τ ol ll n) := by
  obtain ⟨h1, h2, h3⟩ := layT hI ol ll L
  have hC := okC_CI hI
  have := walk_t h1 hC.2.1.1 hn (begS_eq hC.2.1.2.1 h2 (d := d) (l := l))
  rw [h3] at this ⊢
  exact this
