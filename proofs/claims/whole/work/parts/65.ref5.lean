/-! ===== the reference's day is the told day ===== -/
def dueM (K St la lb : Int → Int) (a b : Int) : Int := if la (8 * a + b) = 0 then (if K a = 1 ∧ K b ≠ 1 then -1 else 1) else if lb (8 * a + b) = 0 then la (8 * a + b) + St a else -(la (8 * a + b) + St b)
/-- the reference's cells x say what t says (but for the first hour) -/
def mRel (P : Int) (K St : Int → Int) (x : zM) (t : zS) : Prop := (∀ a b, 0 ≤ a → a < b → b < P → t.1 (a * 8 + b) = dueM K St x.1 x.2.1 a b) ∧ (∀ p, 0 ≤ p → p < P → t.2.1 p = x.2.2.1 p) ∧ (t.2.2.1 = x.2.2.2.1 ∧ t.2.2.2.1 = x.2.2.2.2.1 ∧ t.2.2.2.2.2 = x.2.2.2.2.2.2)
def fRel (h : Int) (x : zM) (t : zS) : Prop := x.2.2.2.2.2.1 = (if t.2.2.1 = 0 then -1 else if t.2.2.2.2.1 = -1 then h else t.2.2.2.2.1) ∧ (t.2.2.1 = 0 → t.2.2.2.2.1 = -1)
def bRel (x : zM) (t : zS) : Prop := x.2.2.2.2.2.1 = t.2.2.2.2.1 ∧ (t.2.2.1 = 0 ↔ t.2.2.2.2.1 = -1)
/-- the reference's cells hold these people -/
def pRel (mem : zMem) (P : Int) (K can St : Int → Int) : Prop := mem 48 7 = P ∧ ∀ p, 0 ≤ p → p < P → mem 55 (3 * p) = K p ∧ mem 55 (3 * p + 1) = can p ∧ (mem 55 (3 * p + 2) + (if mem 55 (3 * p) = 1 then 1 else 0) = St p ∧ 1 ≤ St p)
def gRel (mem : zMem) (P : Int) (K can St : Int → Int) (sr : Int → Int → Int) (hid : Int → Int → Bool) : Prop := pRel mem P K can St ∧ (∀ h p, 0 ≤ h → h < 12 → 0 ≤ p → p < P → srM mem h p = sr h p ∧ (hdM mem h p || decide (K p = 2)) = hid h p)
section
variable {mem : zMem} {P : Int} {K can St : Int → Int} {sr : Int → Int → Int} {hid : Int → Int → Bool}
theorem zor_ne0 {g w : Int} (hw : 0 ≤ w ∧ w < 8) : zor g (zshl 1 w) ≠ 0 := by
  intro e
  have h := congrArg (fun z => tb z w.toNat) e
  simp only [tb_or, tb_shl1 (show 0 ≤ w ∧ w < 32 by omega) (show w.toNat < 32 by omega), tb_0] at h
  simp at h
/-- whose bow it is, and how low -/
theorem due_ls {a b : Int} {x : zM} {t : zS} (hp : pRel mem P K can St) (ha : 0 ≤ a) (hab : a < b) (hb : b < P) (hI : mInv P x) (hr : mRel P K St x t) :
    (lsM mem x a b = true ∧ 0 < t.1 (a * 8 + b) ∧ hwM mem x a b a = t.1 (a * 8 + b)) ∨ (lsM mem x a b = false ∧ t.1 (a * 8 + b) < 0 ∧ hwM mem x a b b = -(t.1 (a * 8 + b))) := by
  have pa := hp.2 a ha (by omega)
  have pb := hp.2 b (by omega) hb
  have hl := hI.1 a b ha hab hb
  rw [hr.1 a b ha hab hb]
  unfold lsM hwM dueM
  by_cases h0 : x.1 (8 * a + b) = 0
  · rw [if_pos h0, if_pos h0, if_pos h0, if_neg (by omega), pa.1, pb.1]
    by_cases hk : K a = 1 ∧ K b ≠ 1
    · rw [if_pos hk]
      exact Or.inr ⟨decide_eq_false (by omega), by omega, by omega⟩
    · rw [if_neg hk]
      exact Or.inl ⟨decide_eq_true (by omega), by omega, by omega⟩
  · rw [if_neg h0, if_neg h0, if_neg h0, if_pos (by omega)]
    rcases hl.2 h0 with e | e
    · rw [if_pos e]
      exact Or.inl ⟨decide_eq_true e, by omega, by omega⟩
    · rw [if_neg (by omega)]
      exact Or.inr ⟨decide_eq_false (by omega), by omega, by omega⟩
theorem meW_rel {a b h w low : Int} {less : Bool} {x : zM} {t : zS} (hp : pRel mem P K can St) (hP : P ≤ 8) (ha : 0 ≤ a) (hab : a < b) (hb : b < P) (hI : mInv P x) (hr : mRel P K St x t)
    (hl : (less = true ∧ 0 < t.1 (a * 8 + b) ∧ low = t.1 (a * 8 + b) ∧ w = a) ∨ (less = false ∧ t.1 (a * 8 + b) < 0 ∧ low = -(t.1 (a * 8 + b)) ∧ w = b)) :
    mRel P K St (meW mem a b h less w low x).2 (meetS can St a b t) ∧ (fRel h x t → fRel h (meW mem a b h less w low x).2 (meetS can St a b t)) ∧ ((meW mem a b h less w low x).1 = true → (meetS can St a b t).2.2.1 = t.2.2.1 ∧ (meetS can St a b t).2.2.2.1 = t.2.2.2.1 + 1) ∧ ((meW mem a b h less w low x).1 = false → (meetS can St a b t).2.2.2.1 = t.2.2.2.1 ∧ (tb (meetS can St a b t).2.2.1 a.toNat = true ∨ tb (meetS can St a b t).2.2.1 b.toNat = true)) := by
  have hw : 0 ≤ w ∧ w < P := by omega
  have pw := hp.2 w hw.1 hw.2
  have e1 : (if t.1 (a * 8 + b) ≤ 0 then b else a) = w := by split <;> omega
  have e2 : zabs (t.1 (a * 8 + b)) = low := by unfold zabs; split <;> omega
  have e3 : (if t.1 (a * 8 + b) ≤ 0 then low + St a else -(low + St b)) = (if less = true then -(low + St b) else low + St a) := by
    rcases hl with h | h
    · rw [if_neg (by omega), if_pos h.1]
    · rw [if_pos (by omega), if_neg (by rw [h.1]; decide)]
  have el : 1 ≤ low := by omega
  obtain ⟨la, lb, mo, g, n, fh, fw⟩ := x
  obtain ⟨d, l, tg, tn, tfh, tfw⟩ := t
  obtain ⟨r1, r2, r3, r4, r5⟩ := hr
  dsimp only at r1 r2 r3 r4 r5 e1 e2 e3
  unfold meetS meW
  dsimp only
  rw [e1, e2, e3, pw.2.1]
  by_cases hc : can w < low
  · rw [if_neg (show ¬ low ≤ can w by omega), if_pos hc]
    refine ⟨⟨r1, r2, by rw [r3], r4, ?_⟩, fun hf => ⟨?_, fun z => absurd z (zor_ne0 (by omega))⟩, fun z => (by cases z), fun _ => ⟨rfl, ?_⟩⟩
    · show (if tg ≠ 0 then tfw else w) = if g = 0 then w else fw
      rw [r3, r5]
      by_cases z : g = 0
      · rw [if_neg (fun q => q z), if_pos z]
      · rw [if_pos z, if_neg z]
    · obtain ⟨f1, f2⟩ := hf
      dsimp only at f1 f2
      show (if g = 0 then h else fh) = (if zor tg (zshl 1 w) = 0 then -1 else if tfh = -1 then h else tfh)
      rw [if_neg (zor_ne0 (by omega)), f1, ← r3]
      by_cases z : tg = 0
      · rw [if_pos z, if_pos (f2 z)]
      · rw [if_neg z, if_neg z]
    · have : tb (zor tg (zshl 1 w)) w.toNat = true := by
        rw [tb_or, tb_shl1 (by omega) (by omega)]; simp
      rcases hl with z | z
      · rw [z.2.2.2] at this ⊢; exact Or.inl this
      · rw [z.2.2.2] at this ⊢; exact Or.inr this
  · rw [if_pos (show low ≤ can w by omega), if_neg hc]
    refine ⟨⟨fun p q p0 pq qP => ?_, fun p p0 pP => ?_, r3, by rw [r4], r5⟩, fun hf => hf, fun _ => ⟨rfl, rfl⟩, fun z => (by cases z)⟩
    · show zupd d (a * 8 + b) (if less = true then -(low + St b) else low + St a) (p * 8 + q) = dueM K St (zupd la (8 * a + b) low) (zupd lb (8 * a + b) (bi less)) p q
      unfold dueM
      by_cases e : p = a ∧ q = b
      · obtain ⟨rfl, rfl⟩ := e
        rw [zupd_eq, zupd_eq, zupd_eq, if_neg (show ¬ low = 0 by omega)]
        cases less
        · rfl
        · rfl
      · rw [zupd_ne (show p * 8 + q ≠ a * 8 + b by omega), zupd_ne (show 8 * p + q ≠ 8 * a + b by omega), zupd_ne (show 8 * p + q ≠ 8 * a + b by omega)]
        exact r1 p q p0 pq qP
    · show zupd l w (max (l w) low) p = zupd mo w (max low (mo w)) p
      by_cases e : p = w
      · subst e
        rw [zupd_eq, zupd_eq, r2 p p0 pP]
        omega
      · rw [zupd_ne e, zupd_ne e]
        exact r2 p p0 pP
theorem meM_rel {a b : Int} (h : Int) {x : zM} {t : zS} (hp : pRel mem P K can St) (hP : P ≤ 8) (ha : 0 ≤ a) (hab : a < b) (hb : b < P) (hI : mInv P x) (hr : mRel P K St x t) :
    mRel P K St (meM mem a b h x).2 (meetS can St a b t) ∧ (fRel h x t → fRel h (meM mem a b h x).2 (meetS can St a b t)) ∧ ((meM mem a b h x).1 = true → (meetS can St a b t).2.2.1 = t.2.2.1 ∧ (meetS can St a b t).2.2.2.1 = t.2.2.2.1 + 1) ∧ ((meM mem a b h x).1 = false → (meetS can St a b t).2.2.2.1 = t.2.2.2.1 ∧ (tb (meetS can St a b t).2.2.1 a.toNat = true ∨ tb (meetS can St a b t).2.2.1 b.toNat = true)) := by
  unfold meM
  refine meW_rel hp hP ha hab hb hI hr ?_
  rcases due_ls hp ha hab hb hI hr with z | z
  · rw [if_pos z.1]; exact Or.inl ⟨z.1, z.2.1, z.2.2, rfl⟩
  · rw [if_neg (by rw [z.1]; decide)]; exact Or.inr ⟨z.1, z.2.1, z.2.2, rfl⟩
theorem inM_rel {h a b : Int} {x : zM} {t : zS} (hC : okM mem) (hg : gRel mem P K can St sr hid) (hh : 0 ≤ h ∧ h < 12) (ha : 0 ≤ a) (hab : a < b) (hb : b < P) (hI : mInv P x) (hr : mRel P K St x t) (hf : fRel h x t) : mRel P K St (inM mem h a b x) (tIn can St sr hid h a b t) ∧ fRel h (inM mem h a b x) (tIn can St sr hid h a b t) := by
  have hP : P ≤ 8 := by rw [← hg.1.1]; exact hC.1.2
  have m := meM_rel h hg.1 hP ha hab hb hI hr
  have pa := hg.1.2 a ha (by omega)
  have pb := hg.1.2 b (by omega) hb
  have ga := hg.2 h a hh.1 hh.2 ha (by omega)
  have gb := hg.2 h b hh.1 hh.2 (by omega) hb
  have iff1 : (srM mem h b = srM mem h a ∧ mayM mem x.2.2.2.1 a b = true ∧ hdM mem h a = false ∧ hdM mem h b = false) ↔ (sr h b = sr h a ∧ (hid h a = false ∧ tb t.2.2.1 a.toNat = false) ∧ (hid h b = false ∧ tb t.2.2.1 b.toNat = false)) := by
    rw [ga.1, gb.1, ← ga.2, ← gb.2, hr.2.2.1]
    unfold mayM
    rw [pa.1, pb.1]
    simp only [decide_eq_true_eq, Bool.or_eq_false_iff, decide_eq_false_iff_not]
    constructor
    · intro q; exact ⟨q.1, ⟨⟨q.2.2.1, q.2.1.1.1⟩, q.2.1.2.1⟩, ⟨q.2.2.2, q.2.1.1.2⟩, q.2.1.2.2⟩
    · intro q; exact ⟨q.1, ⟨⟨q.2.1.1.2, q.2.2.1.2⟩, q.2.1.2, q.2.2.2⟩, q.2.1.1.1, q.2.2.1.1⟩
  unfold inM tIn
  by_cases c : sr h b = sr h a ∧ (hid h a = false ∧ tb t.2.2.1 a.toNat = false) ∧ (hid h b = false ∧ tb t.2.2.1 b.toNat = false)
  · rw [if_pos c, if_pos (iff1.mpr c)]
    exact ⟨m.1, m.2.1 hf⟩
  · rw [if_neg c, if_neg (fun q => c (iff1.mp q))]
    exact ⟨hr, hf⟩
theorem ouM_rel {h a : Int} {x : zM} {t : zS} (hC : okM mem) (hg : gRel mem P K can St sr hid) (hh : 0 ≤ h ∧ h < 12) (ha : 0 ≤ a) (haP : a < P) (hI : mInv P x) (hr : mRel P K St x t) (hf : fRel h x t) : mRel P K St (ouM mem h a x) (tOut P can St sr hid h a t) ∧ fRel h (ouM mem h a x) (tOut P can St sr hid h a t) := by
  have ga := hg.2 h a hh.1 hh.2 ha (by omega)
  have e := hg.1.1
  unfold ouM tOut
  rw [ga.1]
  by_cases c : sr h a = -1
  · rw [if_pos c, if_pos c]; exact ⟨hr, hf⟩
  · rw [if_neg c, if_neg c, e]
    have key := lp_rel (f := inM mem h a) (g := tIn can St sr hid h a) (R := fun x t => mInv P x ∧ mRel P K St x t ∧ fRel h x t) (P - (a + 1)).toNat (a + 1) x t (fun j s t j1 j2 q => ⟨by have := inM_inv (h := h) hC ha (show a < j by omega) (show j < mem 48 7 by omega) (by rw [e]; exact q.1); rw [e] at this; exact this, inM_rel hC hg hh ha (by omega) (by omega) q.1 q.2.1 q.2.2⟩) ⟨hI, hr, hf⟩
    exact key.2
theorem hoM_rel {h : Int} {x : zM} {t : zS} (hC : okM mem) (hg : gRel mem P K can St sr hid) (hh : 0 ≤ h ∧ h < 12) (hI : mInv P x) (hr : mRel P K St x t) (hb : bRel x t) : mRel P K St (hoM mem h x) (tHour P can St sr hid h t) ∧ bRel (hoM mem h x) (tHour P can St sr hid h t) := by
  have e := hg.1.1
  have hP0 := hC.1
  have hf : fRel h x t := by
    refine ⟨?_, fun z => hb.2.mp z⟩
    rw [hb.1]
    by_cases z : t.2.2.1 = 0
    · rw [if_pos z]; exact hb.2.mp z
    · rw [if_neg z, if_neg (fun q => z (hb.2.mpr q))]
  unfold hoM tHour
  rw [e]
  have key := lp_rel (f := ouM mem h) (g := tOut P can St sr hid h) (R := fun x t => mInv P x ∧ mRel P K St x t ∧ fRel h x t) P.toNat 0 x t (fun j s t j1 j2 q => ⟨by have := ouM_inv (h := h) hC j1 (show j < mem 48 7 by omega) (by rw [e]; exact q.1); rw [e] at this; exact this, ouM_rel hC hg hh j1 (by omega) q.1 q.2.1 q.2.2⟩) ⟨hI, hr, hf⟩
  generalize lp (ouM mem h) P.toNat 0 x = y at key ⊢
  generalize lp (tOut P can St sr hid h) P.toNat 0 t = u at key ⊢
  obtain ⟨-, k1, k2⟩ := key
  unfold endS
  by_cases z : u.2.2.1 = 0
  · rw [if_pos z]
    refine ⟨k1, ?_, fun _ => k2.2 z, fun _ => z⟩
    rw [k2.1, if_pos z, k2.2 z]
  · rw [if_neg z]
    have k3 := k2.1
    rw [if_neg z] at k3
    by_cases w : u.2.2.2.2.1 = -1
    · rw [if_neg (fun q => q w)]
      rw [if_pos w] at k3
      refine ⟨k1, k3, fun q => absurd q z, fun q => ?_⟩
      have q : h = -1 := q
      omega
    · rw [if_pos w]
      rw [if_neg w] at k3
      exact ⟨k1, k3, fun q => absurd q z, fun q => absurd q w⟩
end
