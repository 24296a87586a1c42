/-! ===== LowerBows: never ===== -/
section
variable {mem m2 τ τ2 : zMem} {Q : Option zVal → zMem → Prop}
/-- sight i is so, without old bow ol and with umbrellas ll forgotten -/
abbrev snC (τ : zMem) (ol ll i : Int) : Prop := τ 9 i < aP τ ∧ (aSim τ ol ll (τ 8 i + 1).toNat).2.1 (τ 9 i) = τ 10 i
def snB (τ : zMem) (ol ll : Int) : Nat → Int → Bool
  | 0, _ => true
  | k + 1, i => if snC τ ol ll i then snB τ ol ll k (i + 1) else false
def nvT (τ : zMem) (ol ll : Int) : Bool := snB τ ol ll (τ 2 4).toNat 0
theorem snB_iff {ol ll : Int} : ∀ (k : Nat) (i : Int), snB τ ol ll k i = true ↔ ∀ j, i ≤ j → j < i + k → snC τ ol ll j
  | 0, i => by
    unfold snB
    exact ⟨fun _ j h1 h2 => by omega, fun _ => rfl⟩
  | k + 1, i => by
    unfold snB
    have ih := snB_iff (ol := ol) (ll := ll) k (i + 1)
    by_cases h : snC τ ol ll i
    · rw [if_pos h, ih]
      constructor
      · intro q j h1 h2
        by_cases e : j = i
        · subst e; exact h
        · exact q j (by omega) (by omega)
      · intro q j h1 h2; exact q j (by omega) (by omega)
    · rw [if_neg h]
      constructor
      · intro q; cases q
      · intro q; exact absurd (q i (by omega) (by omega)) h
theorem asB_iff {h : Int} {l : Int → Int} : ∀ (k : Nat) (i : Int), asB mem h l k i = true ↔ ∀ j, i ≤ j → j < i + k → mem 21 j = h → (mem 22 j < mem 5 4 ∧ l (mem 22 j) = mem 23 j)
  | 0, i => by
    unfold asB
    exact ⟨fun _ j h1 h2 => by omega, fun _ => rfl⟩
  | k + 1, i => by
    unfold asB
    have ih := asB_iff (h := h) (l := l) k (i + 1)
    by_cases c : mem 21 i = h ∧ ¬ (mem 22 i < mem 5 4 ∧ l (mem 22 i) = mem 23 i)
    · rw [if_pos c]
      constructor
      · intro q; cases q
      · intro q; exact absurd (q i (by omega) (by omega) c.1) c.2
    · rw [if_neg c, ih]
      constructor
      · intro q j h1 h2 h3
        by_cases e : j = i
        · subst e
          exact Decidable.byContradiction (fun z => c ⟨h3, z⟩)
        · exact q j (by omega) (by omega) h3
      · intro q j h1 h2; exact q j (by omega) (by omega)
theorem co_T {st un : Int → Int} {hid : Int → Int → Bool} (hq : pEq (mem 5 4) (mem 7) (mem 9) st un (aCan τ) (aSt τ) (aSr τ) hid) (hP : 0 ≤ mem 5 4) (hS : sghC mem) : ∀ (k : Nat) (h : Int) (s t : zS), 0 ≤ h → h + k = 12 → eqP (mem 5 4) s t →
    ((coB mem st un k h s).1 = true ↔ ∀ j, h ≤ j → j < 12 → ∀ i, 0 ≤ i → i < mem 20 3 → mem 21 i = j → (mem 22 i < mem 5 4 ∧ (lp (tHour (mem 5 4) (aCan τ) (aSt τ) (aSr τ) hid) (j + 1 - h).toNat h t).2.1 (mem 22 i) = mem 23 i)) ∧
    ((coB mem st un k h s).1 = true → eqP (mem 5 4) (coB mem st un k h s).2 (lp (tHour (mem 5 4) (aCan τ) (aSt τ) (aSr τ) hid) k h t))
  | 0, h, s, t, h0, h1, he => by
    unfold coB
    exact ⟨⟨fun _ j q1 q2 => by omega, fun _ => rfl⟩, fun _ => he⟩
  | k + 1, h, s, t, h0, h1, he => by
    have hh := hour_t hq hP ⟨h0, by omega⟩ he
    have ih := co_T hq hP hS k (h + 1) _ _ (by omega) (by omega) hh
    unfold coB
    generalize hourS (mem 5 4) (mem 7) (mem 9) st un h s = s2 at hh ih ⊢
    have e1 : lp (tHour (mem 5 4) (aCan τ) (aSt τ) (aSr τ) hid) (h + 1 - h).toNat h t = tHour (mem 5 4) (aCan τ) (aSt τ) (aSr τ) hid h t := by
      rw [show (h + 1 - h).toNat = 0 + 1 by omega, lp_s]; rfl
    have e2 : ∀ j, h + 1 ≤ j → lp (tHour (mem 5 4) (aCan τ) (aSt τ) (aSr τ) hid) (j + 1 - h).toNat h t = lp (tHour (mem 5 4) (aCan τ) (aSt τ) (aSr τ) hid) (j + 1 - (h + 1)).toNat (h + 1) (tHour (mem 5 4) (aCan τ) (aSt τ) (aSr τ) hid h t) := by
      intro j hj
      rw [show (j + 1 - h).toNat = (j + 1 - (h + 1)).toNat + 1 by omega, lp_s]
    have as := asB_iff (mem := mem) (h := h) (l := s2.2.1) (mem 20 3).toNat 0
    by_cases c : asB mem h s2.2.1 (mem 20 3).toNat 0 = true
    · rw [if_pos c]
      refine ⟨ih.1.trans ⟨fun q j q1 q2 i q3 q4 q5 => ?_, fun q j q1 q2 i q3 q4 q5 => ?_⟩, fun z => ?_⟩
      · by_cases e : j = h
        · subst e
          have a1 := as.mp c i q3 (by have := hS.1.1; omega) q5
          refine ⟨a1.1, ?_⟩
          rw [e1, ← hh.2.1 _ (hS.2 i q3 q4).2.1.1 a1.1]
          exact a1.2
        · rw [e2 j (by omega)]
          exact q j (by omega) q2 i q3 q4 q5
      · rw [← e2 j q1]
        exact q j (by omega) q2 i q3 q4 q5
      · rw [lp_s]
        exact ih.2 z
    · rw [if_neg c]
      refine ⟨⟨fun z => (by cases z), fun q => ?_⟩, fun z => (by cases z)⟩
      refine absurd (as.mpr (fun i q3 q4 q5 => ?_)) c
      have a1 := q h (by omega) (by omega) i q3 (by have := hS.1.1; omega) q5
      refine ⟨a1.1, ?_⟩
      rw [hh.2.1 _ (hS.2 i q3 (by have := hS.1.1; omega)).2.1.1 a1.1, ← e1]
      exact a1.2
theorem nv_T (hI : CI mem τ) (ol ll : Int) : nvC mem ol ll (nvT τ ol ll) (aSim τ ol ll 12).2.1 := by
  intro L d l
  obtain ⟨h1, h2, h3⟩ := layT hI ol ll L
  have hC := okC_CI hI
  have hS := sgh_CI hI
  have key := co_T (τ := τ) h1 hC.2.1.1 hS 12 0 _ _ (by omega) (by omega) (begS_eq hC.2.1.2.1 h2 (d := d) (l := l))
  have cs := hI.2.2.2.2.2.2.1
  have e20 := hI.2.2.2.1.2.2.1
  have hs := hI.1.2.2.2.2.2.1
  have hb := hI.1.1.2.2.2.2.1
  have hw : ∀ n, lp (tHour (mem 5 4) (aCan τ) (aSt τ) (aSr τ) (aHid τ ll)) n 0 (beg0 (aDf τ ol)) = aSim τ ol ll n := fun n => by rw [h3]; rfl
  have iff1 : (coB mem (layS mem ol ll L).1 (fun h => zor ((layS mem ol ll L).2.1 h) (mem 5 5)) 12 0 (begS (layS mem ol ll L).2.2 d l)).1 = true ↔ nvT τ ol ll = true := by
    rw [key.1]
    unfold nvT
    rw [snB_iff]
    constructor
    · intro q j z1 z2
      have c := cs j z1 (by omega)
      have b := hs j z1 (by omega)
      have := q (mem 21 j) (by omega) (by omega) j z1 (by omega) rfl
      rw [hw, c.1, c.2.1, c.2.2, h3] at this
      rw [show τ 8 j + 1 - 0 = τ 8 j + 1 by omega] at this
      exact this
    · intro q j q1 q2 i q3 q4 q5
      have c := cs i q3 (by omega)
      have := q i q3 (by omega)
      rw [← q5, hw, c.1, c.2.1, c.2.2, h3, show τ 8 i + 1 - 0 = τ 8 i + 1 by omega]
      exact this
  refine ⟨Bool.eq_iff_iff.mpr iff1, fun hb p q1 q2 => ?_⟩
  have := key.2 (iff1.mpr hb)
  rw [this.2.1 p q1 q2, hw]
def nevO (τ : zMem) : Int := lp (bitsS (fun k => nvT τ k 0)) (τ 2 2).toNat 0 0
def nevU (τ : zMem) : Int := lp (bitsS (fun k => nvT τ (-1) (zshl 1 k))) (τ 2 3).toNat 0 0
def qNever (τ : zMem) (w : Int) : Int := if 0 ≤ w ∧ w ≤ 1 then (if w = 0 then nevO τ else nevU τ) else -2
theorem ct_old (hI : CI mem τ) : zCi m_Cl_oldBowsThatNeverWere [vr 35] mem (nevO τ) (fun m2 => zfr scr mem m2) := by
  have key := ct_Cl_oldBowsThatNeverWere (mem := mem) (L := (mem 25, mem 26, mem 27)) (s := (mem 28, mem 29, mem 24 9, mem 24 10, mem 24 11, mem 24 12)) (nv := fun k => nvT τ k 0) (lw := fun k => (aSim τ k 0 12).2.1) (okC_CI hI) (sgh_CI hI) (fun k _ _ => nv_T hI k 0)
  rw [putC_self, hI.2.2.2.1.1] at key
  refine zCt.mono key (fun r m h => ⟨h.1, ?_⟩)
  obtain ⟨f, L2, s2, rfl, -⟩ := h.2
  exact putC_scr (zfr.put (k := 36) zfr.rf (by decide))
theorem ct_umb (hI : CI mem τ) : zCi m_Cl_umbrellasLeft [vr 35] mem (nevU τ) (fun m2 => zfr scr mem m2) := by
  have key := ct_Cl_umbrellasLeft (mem := mem) (L := (mem 25, mem 26, mem 27)) (s := (mem 28, mem 29, mem 24 9, mem 24 10, mem 24 11, mem 24 12)) (nv := fun k => nvT τ (-1) (zshl 1 k)) (okC_CI hI) (sgh_CI hI) (fun k _ _ => ⟨_, nv_T hI (-1) (zshl 1 k)⟩)
  rw [putC_self, hI.2.2.2.1.2.1] at key
  refine zCt.mono key (fun r m h => ⟨h.1, ?_⟩)
  obtain ⟨L2, s2, rfl⟩ := h.2
  exact putC_scr zfr.rf
theorem scr_J (hI : CI mem τ) (h : zfr scr mem m2) : CI m2 τ ∧ cls48 mem m2 := ⟨CI_of h hI, cls48.fr h (fun k hk => scr48 hk)⟩
theorem ct_B_never {w : Int} (hI : CI mem τ) (hw : zR w) : zCi m_B_never [vr 0, vi w] mem (qNever τ w) (fun m2 => CI m2 τ ∧ cls48 mem m2) := by
  refine zCt.of [some (vr 0), some (vi w)] ok_B_never (Nat.le_of_ble_eq_true rfl) rfl ?_
  unfold qNever
  by_cases hg : 0 ≤ w ∧ w ≤ 1
  · rw [if_pos hg]
    refine zw_iload_n ok_B_never rfl rfl ?_
    refine zw_iconst ok_B_never rfl ?_
    refine zw_iconst ok_B_never rfl ?_
    refine zw_Sbp ok_B_never rfl ok_B_within lk_B_100 (by decide) rfl (Nat.le_of_ble_eq_true rfl) (ct_B_within (by omega)) ?_
    first | refine zw_ifne_d 12 ok_B_never rfl (by decide) (fun h6 => ?_) (fun h6 => ?_) | refine zw_ifne_b 12 ok_B_never rfl (by decide) (fun h6 => ?_) (fun h6 => ?_) | refine zw_if_ne 12 ok_B_never rfl (by decide) (by omega) (fun h6 => ?_) (fun h6 => ?_)
    · refine zw_iload_n ok_B_never rfl rfl ?_
      refine zw_if_ne 26 ok_B_never rfl (by decide) (by omega) (fun h13 => ?_) (fun h13 => ?_)
      · rw [if_neg h13]
        refine zw_aload_n ok_B_never rfl rfl ?_
        refine zw_getr ok_B_never rfl fl_B_78 rfl rfl ?_
        refine zw_Vi ok_B_never rfl ok_Cl_umbrellasLeft lk_B_221 (by decide) rfl rfl (Nat.le_of_ble_eq_true rfl) (ct_umb hI) (fun m30 h30 => ?_)
        exact zw_iret ok_B_never rfl rfl (⟨rfl, scr_J hI (by assumption)⟩)
      · rw [if_pos h13]
        refine zw_aload_n ok_B_never rfl rfl ?_
        refine zw_getr ok_B_never rfl fl_B_78 rfl rfl ?_
        refine zw_Vi ok_B_never rfl ok_Cl_oldBowsThatNeverWere lk_B_217 (by decide) rfl rfl (Nat.le_of_ble_eq_true rfl) (ct_old hI) (fun m20 h20 => ?_)
        refine zw_goto 33 ok_B_never rfl (by decide) ?_
        exact zw_iret ok_B_never rfl rfl (⟨rfl, scr_J hI (by assumption)⟩)
    · exact absurd hg h6
  · rw [if_neg hg]
    refine zw_iload_n ok_B_never rfl rfl ?_
    refine zw_iconst ok_B_never rfl ?_
    refine zw_iconst ok_B_never rfl ?_
    refine zw_Sbp ok_B_never rfl ok_B_within lk_B_100 (by decide) rfl (Nat.le_of_ble_eq_true rfl) (ct_B_within (by omega)) ?_
    first | refine zw_ifne_d 12 ok_B_never rfl (by decide) (fun h6 => ?_) (fun h6 => ?_) | refine zw_ifne_b 12 ok_B_never rfl (by decide) (fun h6 => ?_) (fun h6 => ?_) | refine zw_if_ne 12 ok_B_never rfl (by decide) (by omega) (fun h6 => ?_) (fun h6 => ?_)
    · exact absurd h6 hg
    · refine zw_bipush ok_B_never rfl (by decide) ?_
      exact zw_iret ok_B_never rfl rfl (⟨rfl, hI, fun _ _ => rfl⟩)
end
