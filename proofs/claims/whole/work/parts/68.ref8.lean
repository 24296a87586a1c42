/-! ===== the reference's invariant; what it has read; its day as told ===== -/
/-- people, walks and old bows, as read -/
def MRb (mem τ : zMem) : Prop :=
  tauI τ ∧ (mem 48 7 = aP τ ∧ ∀ p, 0 ≤ p → p < aP τ → mem 55 (3 * p) = sK (τ 0) p ∧ mem 55 (3 * p + 1) = sCan (τ 0) p ∧ mem 55 (3 * p + 2) = sLo (τ 0) p) ∧
  (∀ h p, 0 ≤ h → h < 12 → 0 ≤ p → p < 8 → mem 56 (12 * p + h) = aSr τ h p) ∧
  (mem 48 11 = τ 2 2 ∧ ∀ k, 0 ≤ k → k < τ 2 2 → mem 57 (3 * k) = τ 3 k ∧ mem 57 (3 * k + 1) = τ 4 k ∧ mem 57 (3 * k + 2) = τ 5 k)
def MRv (mem τ : zMem) (ol ff : Int) : Prop :=
  MRb mem τ ∧ (mem 48 13 = τ 2 3 ∧ ∀ u, 0 ≤ u → u < τ 2 3 → mem 58 (2 * u) = τ 6 u ∧ mem 58 (2 * u + 1) = τ 7 u) ∧ (mem 48 22 = ol ∧ mem 48 23 = ff ∧ mem 48 24 = -1) ∧ (-1 ≤ ol ∧ ol ≤ 11)
/-- the reference's cells hold what was told -/
def MI (mem τ : zMem) : Prop :=
  tauI τ ∧ ((mem 54 0 = τ 2 0 ∧ mem 54 1 = τ 2 1) ∧ (∀ i, 0 ≤ i → i < τ 2 0 → mem 53 i = τ 0 i) ∧ (∀ i, 0 ≤ i → i < τ 2 1 → mem 53 (72 + i) = τ 1 i)) ∧
  (mem 48 11 = τ 2 2 ∧ mem 48 13 = τ 2 3 ∧ mem 48 27 = τ 2 4 ∧ mem 48 4 = τ 2 5) ∧
  (∀ k, 0 ≤ k → k < τ 2 2 → mem 57 (3 * k) = τ 3 k ∧ mem 57 (3 * k + 1) = τ 4 k ∧ mem 57 (3 * k + 2) = τ 5 k) ∧
  (∀ u, 0 ≤ u → u < τ 2 3 → mem 58 (2 * u) = τ 6 u ∧ mem 58 (2 * u + 1) = τ 7 u) ∧
  (∀ i, 0 ≤ i → i < τ 2 4 → mem 64 (3 * i) = τ 8 i ∧ mem 64 (3 * i + 1) = τ 9 i ∧ mem 64 (3 * i + 2) = τ 10 i) ∧
  (mem 48 22 = -1 ∧ mem 48 23 = 0 ∧ mem 48 24 = -1) ∧
  (∀ s, 0 ≤ s → s ≤ 3 → mem 49 s = τ 11 s ∧ mem 50 s = τ 12 s ∧ (τ 11 s ≠ -1 → ∀ i, 0 ≤ i → i < τ 12 s → mem 51 (60 * s + i) = τ (13 + s.toNat) i))
/-- told and read -/
def MR (mem τ : zMem) : Prop := MI mem τ ∧ MRv mem τ (-1) 0 ∧ mem 48 9 = sWn (τ 2 1) (τ 1)
/-- the reference's scratch: behind reading, behind a day -/
abbrev rJ : List Int := [7, 9, 18, 19, 20, 21, 30]
abbrev rL : List Nat := [52, 55, 56, 59, 60, 61, 62, 63, 65]
abbrev dJ : List Int := [18, 19, 20, 21, 30]
abbrev dL : List Nat := [52, 59, 60, 61, 62, 63, 65]
/-- the class's cells are kept -/
def ref47 (a b : zMem) : Prop := ∀ k, k < 48 → b k = a k
theorem ref47.tr {a b c : zMem} (h : ref47 a b) (h2 : ref47 b c) : ref47 a c := fun k hk => (h2 k hk).trans (h k hk)
theorem mfr.r47 {J : List Int} {L : List Nat} {a b : zMem} (h : mfr J L a b) (hL : ∀ k ∈ L, 48 ≤ k) : ref47 a b := fun k hk => h.1 k (by omega) (fun z => by have := hL k z; omega)
theorem mfr.drop {J : List Int} {L : List Nat} {a b : zMem} {j : Int} (h : mfr (j :: J) L a b) (hj : b 48 j = a 48 j) : mfr J L a b := ⟨h.1, fun i q => by
  by_cases e : i = j
  · subst e; exact hj
  · exact h.2 i (fun z => (List.mem_cons.mp z).elim e q)⟩
section
variable {mem m2 τ : zMem} {Q : Option zVal → zMem → Prop} {ol ff : Int}
theorem MI_of (h : mfr rJ rL mem m2) (hI : MI mem τ) : MI m2 τ := by
  unfold MI at *
  rw [h.1 54 (by decide) (by decide), h.1 53 (by decide) (by decide), h.1 57 (by decide) (by decide), h.1 58 (by decide) (by decide), h.1 64 (by decide) (by decide), h.1 49 (by decide) (by decide), h.1 50 (by decide) (by decide), h.1 51 (by decide) (by decide), h.2 11 (by decide), h.2 13 (by decide), h.2 27 (by decide), h.2 4 (by decide), h.2 22 (by decide), h.2 23 (by decide), h.2 24 (by decide)]
  exact hI
theorem MRb_of {J : List Int} {L : List Nat} (h : mfr J L mem m2) (hJ : (7 : Int) ∉ J ∧ (11 : Int) ∉ J) (hL : 55 ∉ L ∧ 56 ∉ L ∧ 57 ∉ L) (hI : MRb mem τ) : MRb m2 τ := by
  unfold MRb at *
  rw [h.1 55 (by decide) hL.1, h.1 56 (by decide) hL.2.1, h.1 57 (by decide) hL.2.2, h.2 7 hJ.1, h.2 11 hJ.2]
  exact hI
theorem MRv_of {J : List Int} {L : List Nat} (h : mfr J L mem m2) (hJ : ((7 : Int) ∉ J ∧ (11 : Int) ∉ J) ∧ (13 : Int) ∉ J ∧ (22 : Int) ∉ J ∧ (23 : Int) ∉ J ∧ (24 : Int) ∉ J) (hL : (55 ∉ L ∧ 56 ∉ L ∧ 57 ∉ L) ∧ 58 ∉ L) (hI : MRv mem τ ol ff) : MRv m2 τ ol ff := by
  refine ⟨MRb_of h hJ.1 hL.1 hI.1, ?_, ?_, hI.2.2.2⟩
  · rw [h.2 13 hJ.2.1, h.1 58 (by decide) hL.2]; exact hI.2.1
  · rw [h.2 22 hJ.2.2.1, h.2 23 hJ.2.2.2.1, h.2 24 hJ.2.2.2.2]; exact hI.2.2.1
theorem MR_of (h : mfr dJ dL mem m2) (hI : MR mem τ) : MR m2 τ := ⟨MI_of (h.mono (by decide) (by decide)) hI.1, MRv_of h (by decide) (by decide) hI.2.1, by rw [h.2 9 (by decide)]; exact hI.2.2⟩
theorem dJ_18 : ∀ j : Int, 18 ≤ j → j ≤ 21 → j ∈ dJ := by
  intro j h1 h2
  have : j = 18 ∨ j = 19 ∨ j = 20 ∨ j = 21 := by omega
  rcases this with rfl | rfl | rfl | rfl <;> decide
theorem mfr_putM {x : zM} : mfr dJ dL mem (putM mem x) := mfr.putM mfr.rf dJ_18 (by decide)
theorem aP_b (h : MRb mem τ) : 0 ≤ aP τ ∧ aP τ ≤ 8 := sP_r h.1.1.1
theorem pRel_b (h : MRb mem τ) : pRel mem (aP τ) (aK τ) (aCan τ) (aSt τ) := by
  refine ⟨h.2.1.1, fun p p0 p1 => ?_⟩
  have c := h.2.1.2 p p0 p1
  have s := sMan h.1.1.1 p0 p1
  refine ⟨c.1, c.2.1, ?_, s.2.2.2.1⟩
  rw [c.1, c.2.2]
  show _ = sSt (τ 0) p
  unfold sSt
  split
  · rfl
  · omega
theorem okM_b (h : MRb mem τ) (hu : (0 ≤ mem 48 13 ∧ mem 48 13 ≤ 10) ∧ ∀ u, 0 ≤ u → u < mem 48 13 → (0 ≤ mem 58 (2 * u) ∧ mem 58 (2 * u) ≤ 11) ∧ (0 ≤ mem 58 (2 * u + 1) ∧ mem 58 (2 * u + 1) ≤ 7)) (h22 : -1 ≤ mem 48 22 ∧ mem 48 22 ≤ 11) (h24 : -1 ≤ mem 48 24 ∧ mem 48 24 ≤ 7) (h62 : mem 48 24 ≠ -1 → ∀ h, 0 ≤ h → h < 3 → 0 ≤ mem 62 h ∧ mem 62 h ≤ 8) : okM mem := by
  have hP := aP_b h
  have eP : mem 48 7 = sP (τ 2 0) (τ 0) := h.2.1.1
  refine ⟨by rw [h.2.1.1]; exact hP, fun p p0 p1 => ?_, hu, ⟨by rw [h.2.2.2.1]; exact h.1.1.2.2.1, fun k k0 k1 => ?_⟩, ⟨h22, h24⟩, fun i i0 i1 => ?_, h62⟩
  · have c := h.2.1.2 p p0 (show p < sP (τ 2 0) (τ 0) by omega)
    have s := sMan h.1.1.1 p0 (show p < sP (τ 2 0) (τ 0) by omega)
    rw [c.1, c.2.1, c.2.2]
    exact ⟨s.1, s.2.1, s.2.2.1⟩
  · rw [h.2.2.2.1] at k1
    have c := h.2.2.2.2 k k0 k1
    rw [c.1, c.2.1, c.2.2]
    exact h.1.2.2.2.1 k k0 k1
  · have := h.2.2.1 (i % 12) (i / 12) (by omega) (by omega) (by omega) (by omega)
    rw [show 12 * (i / 12) + i % 12 = i by omega] at this
    rw [this]
    exact sStr_r h.1.1.2.1.1 _ _
theorem okM_v (h : MRv mem τ ol ff) : okM mem := by
  have u := h.1.1.2.2.2.2.1
  have b := h.1.1.1.2.2.2.1
  refine okM_b h.1 ⟨by rw [h.2.1.1]; omega, fun k k0 k1 => ?_⟩ (by rw [h.2.2.1.1]; exact h.2.2.2) (by rw [h.2.2.1.2.2]; decide) (fun z => absurd h.2.2.1.2.2 z)
  rw [h.2.1.1] at k1
  rw [(h.2.1.2 k k0 k1).1, (h.2.1.2 k k0 k1).2]
  exact u k k0 k1
/-- x is the day t -/
def LR (τ : zMem) (x : zM) (t : zS) : Prop := mRel (aP τ) (aK τ) (aSt τ) x t ∧ bRel x t ∧ mInv (aP τ) x
theorem beg_rel {x : zM} (hb : MRb mem τ) : mRel (aP τ) (aK τ) (aSt τ) (begM mem x) (beg0 (aDf τ (mem 48 22))) := by
  have hP := aP_b hb
  have e11 := hb.2.2.2.1
  have h2 := hb.1.1.2.2.1
  have key := lp_rel (f := odM mem) (g := odS (aSt τ) (mem 48 22) (τ 3) (τ 4) (τ 5)) (R := fun y d => ∀ a b, 0 ≤ a → a < b → b < aP τ → d (a * 8 + b) = dueM (aK τ) (aSt τ) y.1 y.2 a b) (τ 2 2).toNat 0 (zfil 64 0 x.1, x.2.1) (efbS (aP τ) (aK τ) (fun _ => 0)) (fun j y d z1 z2 hy a b q1 q2 q3 => ?_) (fun a b q1 q2 q3 => ?_)
  · refine ⟨fun a b q1 q2 q3 => ?_, fun p q1 q2 => ?_, rfl, rfl, rfl⟩
    · have := key a b q1 q2 q3
      show aDf τ (mem 48 22) (a * 8 + b) = dueM (aK τ) (aSt τ) (lp (odM mem) (mem 48 11).toNat 0 (zfil 64 0 x.1, x.2.1)).1 (lp (odM mem) (mem 48 11).toNat 0 (zfil 64 0 x.1, x.2.1)).2 a b
      rw [e11]
      exact this
    · show 0 = zfil 8 0 x.2.2.1 p
      unfold zfil
      rw [if_pos (by omega)]
  · have c := hb.2.2.2.2 j z1 (by omega)
    have o := hb.1.2.2.2.1 j z1 (by omega)
    unfold odM odS eaS
    rw [c.1, c.2.1, c.2.2]
    by_cases e : j = mem 48 22
    · rw [if_pos e, if_pos e]; exact hy a b q1 q2 q3
    · rw [if_neg e, if_neg e]
      by_cases w : τ 3 j < τ 4 j
      · rw [if_pos w, show min (τ 3 j) (τ 4 j) = τ 3 j by omega, show max (τ 3 j) (τ 4 j) = τ 4 j by omega, if_pos rfl]
        by_cases e2 : a = τ 3 j ∧ b = τ 4 j
        · show _ = dueM (aK τ) (aSt τ) (zupd y.1 _ _) (zupd y.2 _ _) a b
          unfold dueM
          rw [← e2.1, ← e2.2, zupd_eq, zupd_eq, zupd_eq, if_neg (by omega), if_neg (by decide)]
        · show _ = dueM (aK τ) (aSt τ) (zupd y.1 _ _) (zupd y.2 _ _) a b
          unfold dueM
          rw [zupd_ne (show a * 8 + b ≠ τ 3 j * 8 + τ 4 j by omega), zupd_ne (show 8 * a + b ≠ 8 * τ 3 j + τ 4 j by omega), zupd_ne (show 8 * a + b ≠ 8 * τ 3 j + τ 4 j by omega)]
          exact hy a b q1 q2 q3
      · rw [if_neg w, show min (τ 3 j) (τ 4 j) = τ 4 j by omega, show max (τ 3 j) (τ 4 j) = τ 3 j by omega, if_neg (by omega)]
        by_cases e2 : a = τ 4 j ∧ b = τ 3 j
        · show _ = dueM (aK τ) (aSt τ) (zupd y.1 _ _) (zupd y.2 _ _) a b
          unfold dueM
          rw [← e2.1, ← e2.2, zupd_eq, zupd_eq, zupd_eq, if_neg (by omega), if_pos rfl]
        · show _ = dueM (aK τ) (aSt τ) (zupd y.1 _ _) (zupd y.2 _ _) a b
          unfold dueM
          rw [zupd_ne (show a * 8 + b ≠ τ 4 j * 8 + τ 3 j by omega), zupd_ne (show 8 * a + b ≠ 8 * τ 4 j + τ 3 j by omega), zupd_ne (show 8 * a + b ≠ 8 * τ 4 j + τ 3 j by omega)]
          exact hy a b q1 q2 q3
  · rw [efb_at hP.2 q1 q2 q3]
    show _ = dueM (aK τ) (aSt τ) (zfil 64 0 x.1) x.2.1 a b
    unfold dueM
    rw [if_pos (show zfil 64 0 x.1 (8 * a + b) = 0 by unfold zfil; rw [if_pos (by omega)])]
theorem lv_rel {sr : Int → Int → Int} {hid : Int → Int → Bool} {t : Int} (hb : MRb mem τ) (hC : okM mem) (hs : ∀ h p, 0 ≤ h → h < 12 → 0 ≤ p → p < aP τ → srM mem h p = sr h p ∧ (hdM mem h p || decide (aK τ p = 2)) = hid h p) (ht : t ≤ 11) (x : zM) : LR τ (liM mem t x) (tWalk (aP τ) (aCan τ) (aSt τ) sr hid (t + 1).toNat (beg0 (aDf τ (mem 48 22)))) := by
  have eP := hb.2.1.1
  have hg : gRel mem (aP τ) (aK τ) (aCan τ) (aSt τ) sr hid := ⟨pRel_b hb, hs⟩
  have key := lp_rel (f := hoM mem) (g := tHour (aP τ) (aCan τ) (aSt τ) sr hid) (R := fun x t => mInv (aP τ) x ∧ mRel (aP τ) (aK τ) (aSt τ) x t ∧ bRel x t) (t + 1).toNat 0 (begM mem x) (beg0 (aDf τ (mem 48 22))) (fun j s u j1 j2 q => ⟨by have := hoM_inv (h := j) hC (by rw [eP]; exact q.1); rw [eP] at this; exact this, hoM_rel hC hg ⟨j1, by omega⟩ q.1 q.2.1 q.2.2⟩) ⟨by have := begM_inv (x := x) hC; rw [eP] at this; exact this, beg_rel hb, rfl, ⟨fun _ => rfl, fun _ => rfl⟩⟩
  exact ⟨key.2.1, key.2.2, key.1⟩
theorem sim_rel {t : Int} (h : MRv mem τ ol ff) (ht : t ≤ 11) (x : zM) : LR τ (liM mem t x) (aSim τ ol ff (t + 1).toNat) := by
  have key := lv_rel (sr := aSr τ) (hid := aHid τ ff) h.1 (okM_v h) (fun hr p q1 q2 q3 q4 => ?_) ht x
  · rw [h.2.2.1.1] at key; exact key
  · have hP := aP_b h.1
    refine ⟨?_, ?_⟩
    · unfold srM
      rw [if_neg (by rw [h.2.2.1.2.2]; omega)]
      exact h.1.2.2.1 hr p q1 q2 q3 (by omega)
    · unfold hdM aHid
      rw [h.2.2.1.2.1, h.2.1.1, hidB_ext _ _ (uh2 := τ 6) (uw2 := τ 7) (fun j z1 z2 => h.2.1.2 j z1 (by omega))]
theorem ct_sim {t : Int} (h : MRv mem τ ol ff) (ht : 0 ≤ t ∧ t ≤ 11) : zCv m_M_lives [vr 48, vi t] mem (fun m2 => ∃ x, m2 = putM mem x ∧ LR τ x (aSim τ ol ff (t + 1).toNat)) := by
  have key := ct_M_lives (mem := mem) (x := (mem 59, mem 60, mem 61, mem 48 18, mem 48 19, mem 48 20, mem 48 21)) (okM_v h) ht
  rw [putM_self] at key
  exact zCt.mono key (fun r m q => ⟨q.1, _, q.2, sim_rel h ht.2 _⟩)
theorem ct_M_reads (hI : MI mem τ) : zCv m_M_reads [vr 48] mem (fun m2 => MR m2 τ ∧ mfr rJ rL mem m2) := by
  refine zCt.of [some (vr 48)] ok_M_reads (Nat.le_of_ble_eq_true rfl) rfl ?_
  have hI' := hI
  obtain ⟨hT, ⟨⟨t0, t1⟩, b0, b1⟩, -⟩ := hI'
  refine zw_aload_n ok_M_reads rfl rfl ?_
  refine zw_Vi ok_M_reads rfl ok_M_readsPeople lk_M_129 (by decide) rfl rfl (Nat.le_of_ble_eq_true rfl) (ct_M_readsPeople t0 hT.1.1 (fun i i0 i1 => ⟨b0 i i0 i1, hT.2.1 i i0 i1⟩)) (fun m1 h1 => ?_)
  have f1 : mfr rJ rL mem m1 := h1.1.mono (by decide) (by decide)
  refine zw_popi ok_M_reads rfl ?_
  refine zw_aload_n ok_M_reads rfl rfl ?_
  refine zw_Vi ok_M_reads rfl ok_M_readsWalks lk_M_133 (by decide) rfl rfl (Nat.le_of_ble_eq_true rfl) (ct_M_readsWalks (n := τ 2 1) (t := τ 1) (by rw [h1.1.1 54 (by decide) (by decide)]; exact t1) hT.1.2.1 (fun i i0 i1 => ⟨by rw [h1.1.1 53 (by decide) (by decide)]; exact b1 i i0 i1, hT.2.2.1 i i0 i1⟩)) (fun m6 h6 => ?_)
  have f6 : mfr rJ rL mem m6 := f1.tr (h6.1.mono (by decide) (by decide))
  have j6 := MI_of f6 hI
  refine zw_popi ok_M_reads rfl ?_
  exact zw_vret ok_M_reads rfl rfl (⟨rfl, ⟨j6, ⟨⟨hT, ⟨by rw [h6.1.2 7 (by decide)]; exact h1.2.1, fun p p0 p1 => by rw [h6.1.1 55 (by decide) (by decide)]; exact h1.2.2 p p0 p1⟩, h6.2.2, j6.2.2.1.1, j6.2.2.2.1⟩, ⟨j6.2.2.1.2.1, j6.2.2.2.2.1⟩, j6.2.2.2.2.2.2.1, by decide⟩, h6.2.1⟩, f6⟩)
end
