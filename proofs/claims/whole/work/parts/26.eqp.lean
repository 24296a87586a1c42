/-! ===== the hours as told: the same whatever lies outside ===== -/
theorem lp_rel {σ ρ : Type} {f : Int → σ → σ} {g : Int → ρ → ρ} {R : σ → ρ → Prop} : ∀ (k : Nat) (i : Int) (s : σ) (t : ρ), (∀ j s t, i ≤ j → j < i + k → R s t → R (f j s) (g j t)) → R s t → R (lp f k i s) (lp g k i t)
  | 0, _, _, _, _, h => h
  | k + 1, i, s, t, hf, h => lp_rel k (i + 1) (f i s) (g i t) (fun j s t h1 h2 => hf j s t (by omega) (by omega)) (hf i s t (by omega) (by omega) h)
def eqP (P : Int) (s t : zS) : Prop := (∀ a b, 0 ≤ a → a < b → b < P → s.1 (a * 8 + b) = t.1 (a * 8 + b)) ∧ (∀ p, 0 ≤ p → p < P → s.2.1 p = t.2.1 p) ∧ s.2.2 = t.2.2
theorem eqP.rf {P : Int} {s : zS} : eqP P s s := ⟨fun _ _ _ _ _ => rfl, fun _ _ _ => rfl, rfl⟩
theorem eqP.tr {P : Int} {s t u : zS} (h : eqP P s t) (h2 : eqP P t u) : eqP P s u := ⟨fun a b q1 q2 q3 => (h.1 a b q1 q2 q3).trans (h2.1 a b q1 q2 q3), fun p q1 q2 => (h.2.1 p q1 q2).trans (h2.2.1 p q1 q2), h.2.2.trans h2.2.2⟩
theorem eqP.sy {P : Int} {s t : zS} (h : eqP P s t) : eqP P t s := ⟨fun a b q1 q2 q3 => (h.1 a b q1 q2 q3).symm, fun p q1 q2 => (h.2.1 p q1 q2).symm, h.2.2.symm⟩
theorem eqP.inv {P : Int} {s t : zS} (h : eqP P s t) (hs : sInv P s) : sInv P t := by
  refine ⟨fun a b q1 q2 q3 => ?_, fun p q1 q2 => ?_, ?_⟩
  · rw [← h.1 a b q1 q2 q3]; exact hs.1 a b q1 q2 q3
  · rw [← h.2.1 p q1 q2]; exact hs.2.1 p q1 q2
  · rw [← h.2.2]; exact hs.2.2
theorem meetS_eq {P : Int} {can step can2 step2 : Int → Int} {a b : Int} {s t : zS} (hp : ∀ p, 0 ≤ p → p < P → can p = can2 p ∧ step p = step2 p) (ha : 0 ≤ a) (hab : a < b) (hb : b < P) (h : eqP P s t) : eqP P (meetS can step a b s) (meetS can2 step2 a b t) := by
  obtain ⟨d, l, g, n, fh, fw⟩ := s
  obtain ⟨d2, l2, x⟩ := t
  obtain ⟨h1, h2, h3⟩ := h
  dsimp only at h1 h2 h3
  subst h3
  have e := h1 a b ha hab hb
  have pa := hp a ha (by omega)
  have pb := hp b (by omega) hb
  have la := h2 a ha (by omega)
  have lb := h2 b (by omega) hb
  have hw : can (if d2 (a * 8 + b) ≤ 0 then b else a) = can2 (if d2 (a * 8 + b) ≤ 0 then b else a) := by split <;> simp [pa, pb]
  have hl : l (if d2 (a * 8 + b) ≤ 0 then b else a) = l2 (if d2 (a * 8 + b) ≤ 0 then b else a) := by split <;> simp [la, lb]
  unfold meetS
  dsimp only
  simp only [e, hw, hl]
  by_cases hcd : zabs (d2 (a * 8 + b)) ≤ can2 (if d2 (a * 8 + b) ≤ 0 then b else a)
  · rw [if_pos hcd, if_pos hcd]
    refine ⟨fun a' b' q1 q2 q3 => ?_, fun p q1 q2 => ?_, rfl⟩
    · dsimp only
      by_cases hq : a' * 8 + b' = a * 8 + b
      · rw [hq, zupd_eq, zupd_eq, pa.2, pb.2]
      · rw [zupd_ne hq, zupd_ne hq]; exact h1 a' b' q1 q2 q3
    · dsimp only
      by_cases hq : p = (if d2 (a * 8 + b) ≤ 0 then b else a)
      · rw [← hq, zupd_eq, zupd_eq]
      · rw [zupd_ne hq, zupd_ne hq]; exact h2 p q1 q2
  · rw [if_neg hcd, if_neg hcd]
    exact ⟨h1, h2, rfl⟩
/-! the hours over streets and who is not seen -/
def tIn (can step : Int → Int) (sr : Int → Int → Int) (hid : Int → Int → Bool) (h a b : Int) (s : zS) : zS := if sr h b = sr h a ∧ (hid h a = false ∧ tb s.2.2.1 a.toNat = false) ∧ (hid h b = false ∧ tb s.2.2.1 b.toNat = false) then meetS can step a b s else s
def tOut (P : Int) (can step : Int → Int) (sr : Int → Int → Int) (hid : Int → Int → Bool) (h a : Int) (s : zS) : zS := if sr h a = -1 then s else lp (tIn can step sr hid h a) (P - (a + 1)).toNat (a + 1) s
def tHour (P : Int) (can step : Int → Int) (sr : Int → Int → Int) (hid : Int → Int → Bool) (h : Int) (s : zS) : zS := endS h (lp (tOut P can step sr hid h) P.toNat 0 s)
def tWalk (P : Int) (can step : Int → Int) (sr : Int → Int → Int) (hid : Int → Int → Bool) (n : Nat) (s : zS) : zS := lp (tHour P can step sr hid) n 0 s
def tTill (P : Int) (can step : Int → Int) (sr : Int → Int → Int) (hid : Int → Int → Bool) : Nat → Int → zS → zS
  | 0, _, s => s
  | k + 1, h, s => if s.2.2.1 ≠ 0 then s else tTill P can step sr hid k (h + 1) (tHour P can step sr hid h s)
def beg0 (df : Int → Int) : zS := (df, fun _ => 0, 0, 0, -1, -1)
def pEq (P : Int) (can step st un can2 step2 : Int → Int) (sr : Int → Int → Int) (hid : Int → Int → Bool) : Prop :=
  (∀ p, 0 ≤ p → p < P → can p = can2 p ∧ step p = step2 p) ∧ (∀ h p, 0 ≤ h → h < 12 → 0 ≤ p → p < P → st (h * 8 + p) = sr h p) ∧ (∀ h p, 0 ≤ h → h < 12 → 0 ≤ p → p < P → tb (un h) p.toNat = hid h p)
section
variable {P : Int} {can step st un can2 step2 : Int → Int} {sr : Int → Int → Int} {hid : Int → Int → Bool}
theorem in_t {h a b : Int} {s t : zS} (hq : pEq P can step st un can2 step2 sr hid) (hh : 0 ≤ h ∧ h < 12) (ha : 0 ≤ a) (hab : a < b) (hb : b < P) (he : eqP P s t) : eqP P (inS can step st (un h) (h * 8) a b s) (tIn can2 step2 sr hid h a b t) := by
  have e1 := hq.2.1 h a hh.1 hh.2 ha (by omega)
  have e2 := hq.2.1 h b hh.1 hh.2 (by omega) hb
  have e3 := hq.2.2 h a hh.1 hh.2 ha (by omega)
  have e4 := hq.2.2 h b hh.1 hh.2 (by omega) hb
  have eg : s.2.2.1 = t.2.2.1 := by rw [he.2.2]
  unfold inS tIn
  rw [e1, e2, tb_or, tb_or, e3, e4, eg]
  by_cases hc : sr h b = sr h a ∧ (hid h a = false ∧ tb t.2.2.1 a.toNat = false) ∧ (hid h b = false ∧ tb t.2.2.1 b.toNat = false)
  · rw [if_pos hc, if_pos (by simp [hc])]
    exact meetS_eq hq.1 ha hab hb he
  · rw [if_neg hc, if_neg (by simpa using hc)]
    exact he
theorem out_t {h a : Int} {s t : zS} (hq : pEq P can step st un can2 step2 sr hid) (hh : 0 ≤ h ∧ h < 12) (ha : 0 ≤ a) (haP : a < P) (he : eqP P s t) : eqP P (outS P can step st (un h) (h * 8) a s) (tOut P can2 step2 sr hid h a t) := by
  have e1 := hq.2.1 h a hh.1 hh.2 ha haP
  unfold outS tOut
  rw [e1]
  split
  · exact he
  · exact lp_rel (R := eqP P) _ _ _ _ (fun j s t h1 h2 he => in_t hq hh ha (by omega) (by omega) he) he
theorem end_t {h : Int} {s t : zS} (he : eqP P s t) : eqP P (endS h s) (endS h t) := by
  have eg := he.2.2
  unfold endS
  rw [eg]
  split
  · exact he
  · split
    · exact he
    · exact ⟨he.1, he.2.1, rfl⟩
theorem hour_t {h : Int} {s t : zS} (hq : pEq P can step st un can2 step2 sr hid) (hP : 0 ≤ P) (hh : 0 ≤ h ∧ h < 12) (he : eqP P s t) : eqP P (hourS P can step st un h s) (tHour P can2 step2 sr hid h t) :=
  end_t (lp_rel (R := eqP P) _ _ _ _ (fun j s t h1 h2 he => out_t hq hh h1 (by omega) he) he)
theorem walk_t {n : Nat} {s t : zS} (hq : pEq P can step st un can2 step2 sr hid) (hP : 0 ≤ P) (hn : n ≤ 12) (he : eqP P s t) : eqP P (walkS P can step st un n s) (tWalk P can2 step2 sr hid n t) :=
  lp_rel (R := eqP P) _ _ _ _ (fun j s t h1 h2 he => hour_t hq hP ⟨h1, by omega⟩ he) he
theorem till_t (hq : pEq P can step st un can2 step2 sr hid) (hP : 0 ≤ P) : ∀ (k : Nat) (h : Int) (s t : zS), 0 ≤ h → h + k ≤ 12 → eqP P s t → eqP P (tillS P can step st un k h s) (tTill P can2 step2 sr hid k h t)
  | 0, _, _, _, _, _, he => he
  | k + 1, h, s, t, h0, hk, he => by
    unfold tillS tTill
    rw [he.2.2]
    split
    · exact he
    · exact till_t hq hP k (h + 1) _ _ (by omega) (by omega) (hour_t hq hP ⟨h0, by omega⟩ he)
theorem begS_eq {df df2 d l : Int → Int} (hP : P ≤ 8) (h : ∀ a b, 0 ≤ a → a < b → b < P → df (a * 8 + b) = df2 (a * 8 + b)) : eqP P (begS df d l) (beg0 df2) := by
  refine ⟨fun a b h1 h2 h3 => ?_, fun p h1 h2 => ?_, rfl⟩
  · show zcpy df d 0 0 64 (a * 8 + b) = df2 (a * 8 + b)
    unfold zcpy
    rw [if_pos (by omega), ← h a b h1 h2 h3]
    congr 1
    omega
  · show zfil 8 0 l p = 0
    unfold zfil
    rw [if_pos (by omega)]
theorem lot_eq {cl cl2 : Int} (hP : 0 < P) (hp : ∀ p, 0 ≤ p → p < P → can p = can2 p ∧ step p = step2 p) (hc : ∀ p, 0 ≤ p → p < P → tb cl p.toNat = tb cl2 p.toNat) : ∀ (k : Nat) (x : Int) (s t : zS), eqP P s t → eqP P (lotS P can step cl k x s) (lotS P can2 step2 cl2 k x t)
  | 0, _, _, _, he => he
  | k + 1, x, s, t, he => by
    unfold lotS
    refine lot_eq hP hp hc k _ _ _ ?_
    have v1 := Int.emod_nonneg (zushr (1103515245 * x + 12345) 16) (show P ≠ 0 by omega)
    have v2 := Int.emod_lt_of_pos (zushr (1103515245 * x + 12345) 16) hP
    have v3 := Int.emod_nonneg (zushr (1103515245 * (1103515245 * x + 12345) + 12345) 16) (show P ≠ 0 by omega)
    have v4 := Int.emod_lt_of_pos (zushr (1103515245 * (1103515245 * x + 12345) + 12345) 16) hP
    generalize zushr (1103515245 * x + 12345) 16 % P = a at v1 v2 ⊢
    generalize zushr (1103515245 * (1103515245 * x + 12345) + 12345) 16 % P = b at v3 v4 ⊢
    have em : mayS cl a b s = mayS cl2 a b t := by
      unfold mayS
      rw [hc a v1 v2, hc b v3 v4, he.2.2]
    rw [em]
    split
    · rename_i hm
      have hab : a ≠ b := by unfold mayS at hm; exact (of_decide_eq_true hm).1
      exact meetS_eq hp (by omega) (by omega) (by omega) he
    · exact he
end
