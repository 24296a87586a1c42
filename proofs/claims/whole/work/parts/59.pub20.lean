/-! ===== LowerBows: digest ===== -/
def w32 (x : Int) : Int := (Int32.ofInt x).toInt
theorem zw_i2lw {M : zMth} {pc nx : Nat} {ls : zLs} {st : List zVal} {mem : zMem} {Q : Option zVal → zMem → Prop} {x : Int} (hM : zOK M) (hd : zlook (mTbl M) pc = some (.i2l, 1, nx)) (kk : AW M nx ls (vl (w32 x) :: st) mem Q) : AW M pc ls (vi x :: st) mem Q := by
  intro p l e s m args below meth c E H locs la C hl hP hD hS
  obtain ⟨hx, hb, hr, hml, hown, hts, hlk, hK, hN⟩ := id C
  obtain ⟨hdg, rfl⟩ := zdec hM hd
  have kk := kk p l e s m args below meth c E H locs la C hl hP hD hS
  have hr := zR32 (Int32.ofInt x)
  exact lv_i2l hx hb hdg (by unfold w32; apply Int64.toInt_inj.mp; rw [Int32.toInt_toInt64, zto64 (by omega)]) kk
section
variable {mem m2 τ τ2 : zMem} {Q : Option zVal → zMem → Prop}
abbrev dg (h x : Int) : Int := 31 * h + w32 x
def dgPer (τ : zMem) (h p : Int) : Int := dg (31 * (31 * (dg (dg (dg (dg (dg (dg (dg (lp (fun j x => dg x (qPerson τ p j)) 3 0 h) (qLow τ 3 p)) (qLow τ 11 p)) (qOwes τ 5 0 p)) (qEnds τ p 1 0)) (qEnds τ p 1 1)) ((strlT τ p 2).1 / 100)) (dgt (strlT τ p 2).2 0)) + fgA τ 5 11 p) + fgB τ 5 11 p) (qSeason τ 7 30 p)
def dgHr (τ : zMem) (h hr : Int) : Int := dg (dg (dg (dg (dg h (qStreet τ hr 0)) (qBehind τ hr 0)) (qBehind τ hr 1)) (qRings τ hr 0)) (qRings τ hr 1)
def dgPl (τ : zMem) (h : Int) : Int := dg (dg (dg (dg (dg (dg (dg (dg h (qFirst τ 0)) (qFirst τ 1)) (shdT τ (aHid τ 0)).1) (shdT τ (aHid τ 0)).2.1) (qNever τ 0)) (qNever τ 1)) (qPass τ)) (qSeason τ 7 30 (-1))
def dgCt (τ : zMem) : Int := lp (fun j x => dg x (qCount τ j)) 8 0 17
def qDigest (τ : zMem) : Int := dgPl τ (dgHr τ (dgHr τ (dgHr τ (lp (fun p x => dgPer τ x p) (aP τ).toNat 0 (dg (dg (dgCt τ) (qFault τ 0)) (qFault τ 1))) 0) 3) 11)
/-- the shade's and the chances' cells are kept -/
def clsD (a b : zMem) : Prop := ∀ k, 29 < k → k ≠ 32 → k ≠ 33 → k ≠ 34 → b k = a k
theorem clsC.d {a b : zMem} (h : clsC a b) : clsD a b := fun k h1 _ _ _ => h k h1
theorem clsD.tr {a b c : zMem} (h : clsD a b) (h2 : clsD b c) : clsD a c := fun k q1 q2 q3 q4 => (h2 k q1 q2 q3 q4).trans (h k q1 q2 q3 q4)
theorem clsD.c48 {a b : zMem} (h : clsD a b) : cls48 a b := fun k hk => h k (by omega) (by omega) (by omega) (by omega)
theorem clsD.ofS (h : zfr scrS mem m2) : clsD mem m2 := fun k q1 q2 q3 q4 => h k (by simp; omega)
theorem dp_loop {h p : Int} (hI : CI mem τ) (hp : zR p) : ∀ (k : Nat) (i x : Int), 0 ≤ i → i + k = 3 → AW m_B_digestOfPerson 35 [some (vr 0), some (vl h), none, some (vi p), some (vl (lp (fun j x => dg x (qPerson τ p j)) k i x)), none, none] [] mem Q → AW m_B_digestOfPerson 6 [some (vr 0), some (vl h), none, some (vi p), some (vl x), none, some (vi i)] [] mem Q := by
  intro k
  induction k with
  | zero =>
    intro i x h0 h1 hx
    refine zw_iload ok_B_digestOfPerson rfl rfl ?_
    refine zw_iconst ok_B_digestOfPerson rfl ?_
    refine zw_icmp_gt 35 ok_B_digestOfPerson rfl (by decide) (by omega) (fun h9 => ?_) (fun h9 => ?_)
    · exact zw_mask [true, true, true, true, true, true, false] rfl hx
    · exfalso; omega
  | succ k ih =>
    intro i x h0 h1 hx
    rw [lp_s] at hx
    refine zw_iload ok_B_digestOfPerson rfl rfl ?_
    refine zw_iconst ok_B_digestOfPerson rfl ?_
    refine zw_icmp_gt 35 ok_B_digestOfPerson rfl (by decide) (by omega) (fun h9 => ?_) (fun h9 => ?_)
    · exfalso; omega
    · refine zw_ldc2 ok_B_digestOfPerson rfl kc_B_286 ?_
      refine zw_lload ok_B_digestOfPerson rfl rfl ?_
      refine zw_lmul ok_B_digestOfPerson rfl ?_
      refine zw_aload_n ok_B_digestOfPerson rfl rfl ?_
      refine zw_iload_n ok_B_digestOfPerson rfl rfl ?_
      refine zw_iload ok_B_digestOfPerson rfl rfl ?_
      refine zw_Vip ok_B_digestOfPerson rfl ok_B_person lk_B_305 (by decide) rfl rfl (Nat.le_of_ble_eq_true rfl) (ct_B_person hI hp (by omega)) ?_
      refine zw_i2lw ok_B_digestOfPerson rfl ?_
      refine zw_ladd ok_B_digestOfPerson rfl ?_
      refine zw_lstore ok_B_digestOfPerson rfl rfl (by decide) ?_
      refine zw_iinc ok_B_digestOfPerson rfl rfl rfl (by decide) ?_
      refine zw_goto 6 ok_B_digestOfPerson rfl (by decide) ?_
      exact ih (i + 1) _ (by omega) (by omega) hx
theorem ct_B_digestOfPerson {h p : Int} (hI : CI mem τ) (hp : 0 ≤ p ∧ p < aP τ) (hw : mem 38 p = fgW τ 5 11 p) : zCl m_B_digestOfPerson [vr 0, vl h, vi p] mem (dgPer τ h p) (fun m2 => CI m2 τ ∧ clsD mem m2) := by
  refine zCt.of [some (vr 0), some (vl h), none, some (vi p), none, none, none] ok_B_digestOfPerson (Nat.le_of_ble_eq_true rfl) rfl ?_
  have hP := isP_CI hI
  have eP := eP_CI hI
  have hpz : zR p := by rw [eP] at hP; omega
  unfold dgPer
  have tl : ∀ x, AW m_B_digestOfPerson 35 [some (vr 0), some (vl h), none, some (vi p), some (vl x), none, none] [] mem (fun r m2 => r = some (vl (dg (31 * (31 * (dg (dg (dg (dg (dg (dg (dg x (qLow τ 3 p)) (qLow τ 11 p)) (qOwes τ 5 0 p)) (qEnds τ p 1 0)) (qEnds τ p 1 1)) ((strlT τ p 2).1 / 100)) (dgt (strlT τ p 2).2 0)) + fgA τ 5 11 p) + fgB τ 5 11 p) (qSeason τ 7 30 p))) ∧ CI m2 τ ∧ clsD mem m2) := by
    intro x
    refine zw_ldc2 ok_B_digestOfPerson rfl kc_B_286 ?_
    refine zw_lload ok_B_digestOfPerson rfl rfl ?_
    refine zw_lmul ok_B_digestOfPerson rfl ?_
    refine zw_aload_n ok_B_digestOfPerson rfl rfl ?_
    refine zw_iconst ok_B_digestOfPerson rfl ?_
    refine zw_iload_n ok_B_digestOfPerson rfl rfl ?_
    refine zw_Vi ok_B_digestOfPerson rfl ok_B_low lk_B_308 (by decide) rfl rfl (Nat.le_of_ble_eq_true rfl) (ct_B_low hI (by omega) hpz) (fun m44 h44 => ?_)
    refine zw_i2lw ok_B_digestOfPerson rfl ?_
    refine zw_ladd ok_B_digestOfPerson rfl ?_
    refine zw_lstore ok_B_digestOfPerson rfl rfl (by decide) ?_
    refine zw_ldc2 ok_B_digestOfPerson rfl kc_B_286 ?_
    refine zw_lload ok_B_digestOfPerson rfl rfl ?_
    refine zw_lmul ok_B_digestOfPerson rfl ?_
    refine zw_aload_n ok_B_digestOfPerson rfl rfl ?_
    refine zw_bipush ok_B_digestOfPerson rfl (by decide) ?_
    refine zw_iload_n ok_B_digestOfPerson rfl rfl ?_
    refine zw_Vi ok_B_digestOfPerson rfl ok_B_low lk_B_308 (by decide) rfl rfl (Nat.le_of_ble_eq_true rfl) (ct_B_low h44.1 (by omega) hpz) (fun m61 h61 => ?_)
    refine zw_i2lw ok_B_digestOfPerson rfl ?_
    refine zw_ladd ok_B_digestOfPerson rfl ?_
    refine zw_lstore ok_B_digestOfPerson rfl rfl (by decide) ?_
    refine zw_ldc2 ok_B_digestOfPerson rfl kc_B_286 ?_
    refine zw_lload ok_B_digestOfPerson rfl rfl ?_
    refine zw_lmul ok_B_digestOfPerson rfl ?_
    refine zw_aload_n ok_B_digestOfPerson rfl rfl ?_
    refine zw_iconst ok_B_digestOfPerson rfl ?_
    refine zw_iconst ok_B_digestOfPerson rfl ?_
    refine zw_iload_n ok_B_digestOfPerson rfl rfl ?_
    refine zw_Vi ok_B_digestOfPerson rfl ok_B_owes lk_B_311 (by decide) rfl rfl (Nat.le_of_ble_eq_true rfl) (ct_B_owes h61.1 (by omega) (by omega) hpz) (fun m78 h78 => ?_)
    refine zw_i2lw ok_B_digestOfPerson rfl ?_
    refine zw_ladd ok_B_digestOfPerson rfl ?_
    refine zw_lstore ok_B_digestOfPerson rfl rfl (by decide) ?_
    refine zw_ldc2 ok_B_digestOfPerson rfl kc_B_286 ?_
    refine zw_lload ok_B_digestOfPerson rfl rfl ?_
    refine zw_lmul ok_B_digestOfPerson rfl ?_
    refine zw_aload_n ok_B_digestOfPerson rfl rfl ?_
    refine zw_iload_n ok_B_digestOfPerson rfl rfl ?_
    refine zw_iconst ok_B_digestOfPerson rfl ?_
    refine zw_iconst ok_B_digestOfPerson rfl ?_
    refine zw_Vi ok_B_digestOfPerson rfl ok_B_ends lk_B_314 (by decide) rfl rfl (Nat.le_of_ble_eq_true rfl) (ct_B_ends h78.1 hpz (by omega) (by omega)) (fun m95 h95 => ?_)
    refine zw_i2lw ok_B_digestOfPerson rfl ?_
    refine zw_ladd ok_B_digestOfPerson rfl ?_
    refine zw_lstore ok_B_digestOfPerson rfl rfl (by decide) ?_
    refine zw_ldc2 ok_B_digestOfPerson rfl kc_B_286 ?_
    refine zw_lload ok_B_digestOfPerson rfl rfl ?_
    refine zw_lmul ok_B_digestOfPerson rfl ?_
    refine zw_aload_n ok_B_digestOfPerson rfl rfl ?_
    refine zw_iload_n ok_B_digestOfPerson rfl rfl ?_
    refine zw_iconst ok_B_digestOfPerson rfl ?_
    refine zw_iconst ok_B_digestOfPerson rfl ?_
    refine zw_Vi ok_B_digestOfPerson rfl ok_B_ends lk_B_314 (by decide) rfl rfl (Nat.le_of_ble_eq_true rfl) (ct_B_ends h95.1 hpz (by omega) (by omega)) (fun m112 h112 => ?_)
    refine zw_i2lw ok_B_digestOfPerson rfl ?_
    refine zw_ladd ok_B_digestOfPerson rfl ?_
    refine zw_lstore ok_B_digestOfPerson rfl rfl (by decide) ?_
    refine zw_aload_n ok_B_digestOfPerson rfl rfl ?_
    refine zw_getr ok_B_digestOfPerson rfl fl_B_69 rfl rfl ?_
    refine zw_iload_n ok_B_digestOfPerson rfl rfl ?_
    refine zw_iconst ok_B_digestOfPerson rfl ?_
    refine zw_Vv ok_B_digestOfPerson rfl ok_St_find lk_B_211 (by decide) rfl rfl (Nat.le_of_ble_eq_true rfl) (ct_strl h112.1 hp (by omega)) (fun m125 h125 => ?_)
    have j125 : CI m125 τ := CI_of (scrS_scr h125.2) h112.1
    have d125 : clsD mem m125 := ((((h44.2.d.tr h61.2.d).tr h78.2.d).tr h95.2.d).tr h112.2.d).tr (clsD.ofS h125.2)
    have w125 : m125 38 p = fgW τ 5 11 p := by rw [d125 38 (by omega) (by omega) (by omega) (by omega)]; exact hw
    rw [← h125.1.1, ← h125.1.2 0 (by omega) (by omega)]
    refine zw_ldc2 ok_B_digestOfPerson rfl kc_B_286 ?_
    refine zw_lload ok_B_digestOfPerson rfl rfl ?_
    refine zw_lmul ok_B_digestOfPerson rfl ?_
    refine zw_aload_n ok_B_digestOfPerson rfl rfl ?_
    refine zw_getr ok_B_digestOfPerson rfl fl_B_69 rfl rfl ?_
    refine zw_geti ok_B_digestOfPerson rfl fl_B_213 rfl rfl ?_
    refine zw_i2lw ok_B_digestOfPerson rfl ?_
    refine zw_ladd ok_B_digestOfPerson rfl ?_
    refine zw_lstore ok_B_digestOfPerson rfl rfl (by decide) ?_
    refine zw_ldc2 ok_B_digestOfPerson rfl kc_B_286 ?_
    refine zw_lload ok_B_digestOfPerson rfl rfl ?_
    refine zw_lmul ok_B_digestOfPerson rfl ?_
    refine zw_aload_n ok_B_digestOfPerson rfl rfl ?_
    refine zw_getr ok_B_digestOfPerson rfl fl_B_69 rfl rfl ?_
    refine zw_iconst ok_B_digestOfPerson rfl ?_
    refine zw_Vip ok_B_digestOfPerson rfl ok_St_streetIn lk_B_214 (by decide) rfl rfl (Nat.le_of_ble_eq_true rfl) (ct_St_streetIn (by omega)) ?_
    refine zw_i2lw ok_B_digestOfPerson rfl ?_
    refine zw_ladd ok_B_digestOfPerson rfl ?_
    refine zw_lstore ok_B_digestOfPerson rfl rfl (by decide) ?_
    refine zw_ldc2 ok_B_digestOfPerson rfl kc_B_286 ?_
    refine zw_lload ok_B_digestOfPerson rfl rfl ?_
    refine zw_lmul ok_B_digestOfPerson rfl ?_
    refine zw_aload_n ok_B_digestOfPerson rfl rfl ?_
    refine zw_getr ok_B_digestOfPerson rfl fl_B_85 rfl rfl ?_
    refine zw_iload_n ok_B_digestOfPerson rfl rfl ?_
    refine zw_Vlp ok_B_digestOfPerson rfl ok_Ch_above lk_B_232 (by decide) rfl rfl (Nat.le_of_ble_eq_true rfl) (ct_above j125 (by omega) hp w125) ?_
    refine zw_ladd ok_B_digestOfPerson rfl ?_
    refine zw_lstore ok_B_digestOfPerson rfl rfl (by decide) ?_
    refine zw_ldc2 ok_B_digestOfPerson rfl kc_B_286 ?_
    refine zw_lload ok_B_digestOfPerson rfl rfl ?_
    refine zw_lmul ok_B_digestOfPerson rfl ?_
    refine zw_aload_n ok_B_digestOfPerson rfl rfl ?_
    refine zw_getr ok_B_digestOfPerson rfl fl_B_85 rfl rfl ?_
    refine zw_iload_n ok_B_digestOfPerson rfl rfl ?_
    refine zw_Vlp ok_B_digestOfPerson rfl ok_Ch_below lk_B_236 (by decide) rfl rfl (Nat.le_of_ble_eq_true rfl) (ct_below j125 (by omega) hp w125) ?_
    refine zw_ladd ok_B_digestOfPerson rfl ?_
    refine zw_lstore ok_B_digestOfPerson rfl rfl (by decide) ?_
    refine zw_ldc2 ok_B_digestOfPerson rfl kc_B_286 ?_
    refine zw_lload ok_B_digestOfPerson rfl rfl ?_
    refine zw_lmul ok_B_digestOfPerson rfl ?_
    refine zw_aload_n ok_B_digestOfPerson rfl rfl ?_
    refine zw_bipush ok_B_digestOfPerson rfl (by decide) ?_
    refine zw_bipush ok_B_digestOfPerson rfl (by decide) ?_
    refine zw_iload_n ok_B_digestOfPerson rfl rfl ?_
    refine zw_Vi ok_B_digestOfPerson rfl ok_B_season lk_B_317 (by decide) rfl rfl (Nat.le_of_ble_eq_true rfl) (ct_B_season j125 (by omega) (by omega) hpz) (fun m209 h209 => ?_)
    refine zw_i2lw ok_B_digestOfPerson rfl ?_
    refine zw_ladd ok_B_digestOfPerson rfl ?_
    exact zw_lret ok_B_digestOfPerson rfl rfl (⟨rfl, h209.1, d125.tr h209.2.d⟩)
  refine zw_lload_n ok_B_digestOfPerson rfl rfl ?_
  refine zw_lstore ok_B_digestOfPerson rfl rfl (by decide) ?_
  refine zw_iconst ok_B_digestOfPerson rfl ?_
  refine zw_istore ok_B_digestOfPerson rfl rfl (by decide) ?_
  exact dp_loop hI hpz 3 0 _ (by omega) (by omega) (tl _)
theorem ct_B_digestOfHour {h hr : Int} (hI : CI mem τ) (hh : 0 ≤ hr ∧ hr ≤ 11) : zCl m_B_digestOfHour [vr 0, vl h, vi hr] mem (dgHr τ h hr) (fun m2 => CI m2 τ ∧ clsD mem m2) := by
  refine zCt.of [some (vr 0), some (vl h), none, some (vi hr), none, none] ok_B_digestOfHour (Nat.le_of_ble_eq_true rfl) rfl ?_
  unfold dgHr
  refine zw_ldc2 ok_B_digestOfHour rfl kc_B_286 ?_
  refine zw_lload_n ok_B_digestOfHour rfl rfl ?_
  refine zw_lmul ok_B_digestOfHour rfl ?_
  refine zw_aload_n ok_B_digestOfHour rfl rfl ?_
  refine zw_iload_n ok_B_digestOfHour rfl rfl ?_
  refine zw_iconst ok_B_digestOfHour rfl ?_
  refine zw_Vip ok_B_digestOfHour rfl ok_B_street lk_B_320 (by decide) rfl rfl (Nat.le_of_ble_eq_true rfl) (ct_B_street hI (by omega) (by omega)) ?_
  refine zw_i2lw ok_B_digestOfHour rfl ?_
  refine zw_ladd ok_B_digestOfHour rfl ?_
  refine zw_lstore ok_B_digestOfHour rfl rfl (by decide) ?_
  refine zw_ldc2 ok_B_digestOfHour rfl kc_B_286 ?_
  refine zw_lload ok_B_digestOfHour rfl rfl ?_
  refine zw_lmul ok_B_digestOfHour rfl ?_
  refine zw_aload_n ok_B_digestOfHour rfl rfl ?_
  refine zw_iload_n ok_B_digestOfHour rfl rfl ?_
  refine zw_iconst ok_B_digestOfHour rfl ?_
  refine zw_Vi ok_B_digestOfHour rfl ok_B_behind lk_B_278 (by decide) rfl rfl (Nat.le_of_ble_eq_true rfl) (ct_B_behind hI (by omega) (by omega)) (fun m24 h24 => ?_)
  refine zw_i2lw ok_B_digestOfHour rfl ?_
  refine zw_ladd ok_B_digestOfHour rfl ?_
  refine zw_lstore ok_B_digestOfHour rfl rfl (by decide) ?_
  refine zw_ldc2 ok_B_digestOfHour rfl kc_B_286 ?_
  refine zw_lload ok_B_digestOfHour rfl rfl ?_
  refine zw_lmul ok_B_digestOfHour rfl ?_
  refine zw_aload_n ok_B_digestOfHour rfl rfl ?_
  refine zw_iload_n ok_B_digestOfHour rfl rfl ?_
  refine zw_iconst ok_B_digestOfHour rfl ?_
  refine zw_Vi ok_B_digestOfHour rfl ok_B_behind lk_B_278 (by decide) rfl rfl (Nat.le_of_ble_eq_true rfl) (ct_B_behind h24.1 (by omega) (by omega)) (fun m40 h40 => ?_)
  refine zw_i2lw ok_B_digestOfHour rfl ?_
  refine zw_ladd ok_B_digestOfHour rfl ?_
  refine zw_lstore ok_B_digestOfHour rfl rfl (by decide) ?_
  refine zw_ldc2 ok_B_digestOfHour rfl kc_B_286 ?_
  refine zw_lload ok_B_digestOfHour rfl rfl ?_
  refine zw_lmul ok_B_digestOfHour rfl ?_
  refine zw_aload_n ok_B_digestOfHour rfl rfl ?_
  refine zw_iload_n ok_B_digestOfHour rfl rfl ?_
  refine zw_iconst ok_B_digestOfHour rfl ?_
  refine zw_Vi ok_B_digestOfHour rfl ok_B_rings lk_B_323 (by decide) rfl rfl (Nat.le_of_ble_eq_true rfl) (ct_B_rings h40.1 (by omega) (by omega)) (fun m56 h56 => ?_)
  refine zw_i2lw ok_B_digestOfHour rfl ?_
  refine zw_ladd ok_B_digestOfHour rfl ?_
  refine zw_lstore ok_B_digestOfHour rfl rfl (by decide) ?_
  refine zw_ldc2 ok_B_digestOfHour rfl kc_B_286 ?_
  refine zw_lload ok_B_digestOfHour rfl rfl ?_
  refine zw_lmul ok_B_digestOfHour rfl ?_
  refine zw_aload_n ok_B_digestOfHour rfl rfl ?_
  refine zw_iload_n ok_B_digestOfHour rfl rfl ?_
  refine zw_iconst ok_B_digestOfHour rfl ?_
  refine zw_Vi ok_B_digestOfHour rfl ok_B_rings lk_B_323 (by decide) rfl rfl (Nat.le_of_ble_eq_true rfl) (ct_B_rings h56.1 (by omega) (by omega)) (fun m72 h72 => ?_)
  refine zw_i2lw ok_B_digestOfHour rfl ?_
  refine zw_ladd ok_B_digestOfHour rfl ?_
  exact zw_lret ok_B_digestOfHour rfl rfl (⟨rfl, h72.1, ((h24.2.d.tr h40.2.d).tr h56.2.d).tr h72.2.d⟩)
theorem ct_B_digestOfPlans {h : Int} (hI : CI mem τ) (hs : mem 30 2 = (shdT τ (aHid τ 0)).1 ∧ mem 31 0 = (shdT τ (aHid τ 0)).2.1) : zCl m_B_digestOfPlans [vr 0, vl h] mem (dgPl τ h) (fun m2 => CI m2 τ ∧ cls48 mem m2) := by
  refine zCt.of [some (vr 0), some (vl h), none, none, none] ok_B_digestOfPlans (Nat.le_of_ble_eq_true rfl) rfl ?_
  unfold dgPl
  rw [← hs.1, ← hs.2]
  refine zw_ldc2 ok_B_digestOfPlans rfl kc_B_286 ?_
  refine zw_lload_n ok_B_digestOfPlans rfl rfl ?_
  refine zw_lmul ok_B_digestOfPlans rfl ?_
  refine zw_aload_n ok_B_digestOfPlans rfl rfl ?_
  refine zw_iconst ok_B_digestOfPlans rfl ?_
  refine zw_Vi ok_B_digestOfPlans rfl ok_B_first lk_B_326 (by decide) rfl rfl (Nat.le_of_ble_eq_true rfl) (ct_B_first hI (by omega)) (fun m7 h7 => ?_)
  refine zw_i2lw ok_B_digestOfPlans rfl ?_
  refine zw_ladd ok_B_digestOfPlans rfl ?_
  refine zw_lstore_n ok_B_digestOfPlans rfl rfl (by decide) ?_
  refine zw_ldc2 ok_B_digestOfPlans rfl kc_B_286 ?_
  refine zw_lload_n ok_B_digestOfPlans rfl rfl ?_
  refine zw_lmul ok_B_digestOfPlans rfl ?_
  refine zw_aload_n ok_B_digestOfPlans rfl rfl ?_
  refine zw_iconst ok_B_digestOfPlans rfl ?_
  refine zw_Vi ok_B_digestOfPlans rfl ok_B_first lk_B_326 (by decide) rfl rfl (Nat.le_of_ble_eq_true rfl) (ct_B_first h7.1 (by omega)) (fun m20 h20 => ?_)
  have f30 : m20 30 = mem 30 := (h20.2 30 (by omega)).trans (h7.2 30 (by omega))
  have f31 : m20 31 = mem 31 := (h20.2 31 (by omega)).trans (h7.2 31 (by omega))
  refine zw_i2lw ok_B_digestOfPlans rfl ?_
  refine zw_ladd ok_B_digestOfPlans rfl ?_
  refine zw_lstore_n ok_B_digestOfPlans rfl rfl (by decide) ?_
  refine zw_ldc2 ok_B_digestOfPlans rfl kc_B_286 ?_
  refine zw_lload_n ok_B_digestOfPlans rfl rfl ?_
  refine zw_lmul ok_B_digestOfPlans rfl ?_
  refine zw_aload_n ok_B_digestOfPlans rfl rfl ?_
  refine zw_getr ok_B_digestOfPlans rfl fl_B_62 rfl rfl ?_
  refine zw_geti ok_B_digestOfPlans rfl fl_B_207 rfl rfl ?_
  rw [f30]
  refine zw_i2lw ok_B_digestOfPlans rfl ?_
  refine zw_ladd ok_B_digestOfPlans rfl ?_
  refine zw_lstore_n ok_B_digestOfPlans rfl rfl (by decide) ?_
  refine zw_ldc2 ok_B_digestOfPlans rfl kc_B_286 ?_
  refine zw_lload_n ok_B_digestOfPlans rfl rfl ?_
  refine zw_lmul ok_B_digestOfPlans rfl ?_
  refine zw_aload_n ok_B_digestOfPlans rfl rfl ?_
  refine zw_getr ok_B_digestOfPlans rfl fl_B_62 rfl rfl ?_
  refine zw_getr ok_B_digestOfPlans rfl fl_B_208 rfl rfl ?_
  refine zw_iconst ok_B_digestOfPlans rfl ?_
  refine zw_iald ok_B_digestOfPlans rfl rfl (by omega) ?_
  rw [f31]
  refine zw_i2lw ok_B_digestOfPlans rfl ?_
  refine zw_ladd ok_B_digestOfPlans rfl ?_
  refine zw_lstore_n ok_B_digestOfPlans rfl rfl (by decide) ?_
  refine zw_ldc2 ok_B_digestOfPlans rfl kc_B_286 ?_
  refine zw_lload_n ok_B_digestOfPlans rfl rfl ?_
  refine zw_lmul ok_B_digestOfPlans rfl ?_
  refine zw_aload_n ok_B_digestOfPlans rfl rfl ?_
  refine zw_iconst ok_B_digestOfPlans rfl ?_
  refine zw_Vi ok_B_digestOfPlans rfl ok_B_never lk_B_329 (by decide) rfl rfl (Nat.le_of_ble_eq_true rfl) (ct_B_never h20.1 (by omega)) (fun m65 h65 => ?_)
  refine zw_i2lw ok_B_digestOfPlans rfl ?_
  refine zw_ladd ok_B_digestOfPlans rfl ?_
  refine zw_lstore_n ok_B_digestOfPlans rfl rfl (by decide) ?_
  refine zw_ldc2 ok_B_digestOfPlans rfl kc_B_286 ?_
  refine zw_lload_n ok_B_digestOfPlans rfl rfl ?_
  refine zw_lmul ok_B_digestOfPlans rfl ?_
  refine zw_aload_n ok_B_digestOfPlans rfl rfl ?_
  refine zw_iconst ok_B_digestOfPlans rfl ?_
  refine zw_Vi ok_B_digestOfPlans rfl ok_B_never lk_B_329 (by decide) rfl rfl (Nat.le_of_ble_eq_true rfl) (ct_B_never h65.1 (by omega)) (fun m78 h78 => ?_)
  refine zw_i2lw ok_B_digestOfPlans rfl ?_
  refine zw_ladd ok_B_digestOfPlans rfl ?_
  refine zw_lstore_n ok_B_digestOfPlans rfl rfl (by decide) ?_
  refine zw_ldc2 ok_B_digestOfPlans rfl kc_B_286 ?_
  refine zw_lload_n ok_B_digestOfPlans rfl rfl ?_
  refine zw_lmul ok_B_digestOfPlans rfl ?_
  refine zw_aload_n ok_B_digestOfPlans rfl rfl ?_
  refine zw_getr ok_B_digestOfPlans rfl fl_B_78 rfl rfl ?_
  refine zw_Vi ok_B_digestOfPlans rfl ok_Cl_nextToPass lk_B_224 (by decide) rfl rfl (Nat.le_of_ble_eq_true rfl) (ct_pass h78.1) (fun m93 h93 => ?_)
  have j93 := scr_J h78.1 h93
  refine zw_i2lw ok_B_digestOfPlans rfl ?_
  refine zw_ladd ok_B_digestOfPlans rfl ?_
  refine zw_lstore_n ok_B_digestOfPlans rfl rfl (by decide) ?_
  refine zw_ldc2 ok_B_digestOfPlans rfl kc_B_286 ?_
  refine zw_lload_n ok_B_digestOfPlans rfl rfl ?_
  refine zw_lmul ok_B_digestOfPlans rfl ?_
  refine zw_aload_n ok_B_digestOfPlans rfl rfl ?_
  refine zw_bipush ok_B_digestOfPlans rfl (by decide) ?_
  refine zw_bipush ok_B_digestOfPlans rfl (by decide) ?_
  refine zw_iconst ok_B_digestOfPlans rfl ?_
  refine zw_Vi ok_B_digestOfPlans rfl ok_B_season lk_B_317 (by decide) rfl rfl (Nat.le_of_ble_eq_true rfl) (ct_B_season j93.1 (by omega) (by omega) (by omega)) (fun m110 h110 => ?_)
  refine zw_i2lw ok_B_digestOfPlans rfl ?_
  refine zw_ladd ok_B_digestOfPlans rfl ?_
  exact zw_lret ok_B_digestOfPlans rfl rfl (⟨rfl, h110.1, ((((h7.2.c48.tr h20.2.c48).tr h65.2).tr h78.2).tr j93.2).tr h110.2.c48⟩)
theorem dgc_loop {m0 : zMem} : ∀ (k : Nat) (i x : Int) (m : zMem), 0 ≤ i → i + k = 8 → CI m τ → cls48 m0 m → (∀ m2, CI m2 τ → cls48 m0 m2 → AW m_B_digest 31 [some (vr 0), some (vl (lp (fun j x => dg x (qCount τ j)) k i x)), none, none] [] m2 Q) → AW m_B_digest 6 [some (vr 0), some (vl x), none, some (vi i)] [] m Q := by
  intro k
  induction k with
  | zero =>
    intro i x m h0 h1 hI hc hx
    refine zw_iload_n ok_B_digest rfl rfl ?_
    refine zw_bipush ok_B_digest rfl (by decide) ?_
    refine zw_icmp_gt 31 ok_B_digest rfl (by decide) (by omega) (fun h9 => ?_) (fun h9 => ?_)
    · exact zw_mask [true, true, true, false] rfl (hx m hI hc)
    · exfalso; omega
  | succ k ih =>
    intro i x m h0 h1 hI hc hx
    rw [lp_s] at hx
    refine zw_iload_n ok_B_digest rfl rfl ?_
    refine zw_bipush ok_B_digest rfl (by decide) ?_
    refine zw_icmp_gt 31 ok_B_digest rfl (by decide) (by omega) (fun h9 => ?_) (fun h9 => ?_)
    · exfalso; omega
    · refine zw_ldc2 ok_B_digest rfl kc_B_286 ?_
      refine zw_lload_n ok_B_digest rfl rfl ?_
      refine zw_lmul ok_B_digest rfl ?_
      refine zw_aload_n ok_B_digest rfl rfl ?_
      refine zw_iload_n ok_B_digest rfl rfl ?_
      refine zw_Vi ok_B_digest rfl ok_B_count lk_B_288 (by decide) rfl rfl (Nat.le_of_ble_eq_true rfl) (ct_B_count hI (by omega)) (fun m19 h19 => ?_)
      refine zw_i2lw ok_B_digest rfl ?_
      refine zw_ladd ok_B_digest rfl ?_
      refine zw_lstore_n ok_B_digest rfl rfl (by decide) ?_
      refine zw_iinc ok_B_digest rfl rfl rfl (by decide) ?_
      refine zw_goto 6 ok_B_digest rfl (by decide) ?_
      exact ih (i + 1) _ _ (by omega) (by omega) h19.1 (hc.tr h19.2) hx
theorem dgp_loop {m0 : zMem} (hw : ∀ p, 0 ≤ p → p < aP τ → m0 38 p = fgW τ 5 11 p) : ∀ (k : Nat) (i x : Int) (m : zMem), 0 ≤ i → i + k = aP τ → CI m τ → clsD m0 m → (∀ m2, CI m2 τ → clsD m0 m2 → AW m_B_digest 100 [some (vr 0), some (vl (lp (fun p x => dgPer τ x p) k i x)), none, none] [] m2 Q) → AW m_B_digest 76 [some (vr 0), some (vl x), none, some (vi i)] [] m Q := by
  intro k
  induction k with
  | zero =>
    intro i x m h0 h1 hI hc hx
    have hP := isP_CI hI
    have eP := eP_CI hI
    refine zw_iload_n ok_B_digest rfl rfl ?_
    refine zw_aload_n ok_B_digest rfl rfl ?_
    refine zw_getr ok_B_digest rfl fl_B_24 rfl rfl ?_
    refine zw_geti ok_B_digest rfl fl_B_200 rfl rfl ?_
    refine zw_icmp_ge 100 ok_B_digest rfl (by decide) (by omega) (fun h84 => ?_) (fun h84 => ?_)
    · exact zw_mask [true, true, true, false] rfl (hx m hI hc)
    · exfalso; omega
  | succ k ih =>
    intro i x m h0 h1 hI hc hx
    have hP := isP_CI hI
    have eP := eP_CI hI
    rw [lp_s] at hx
    refine zw_iload_n ok_B_digest rfl rfl ?_
    refine zw_aload_n ok_B_digest rfl rfl ?_
    refine zw_getr ok_B_digest rfl fl_B_24 rfl rfl ?_
    refine zw_geti ok_B_digest rfl fl_B_200 rfl rfl ?_
    refine zw_icmp_ge 100 ok_B_digest rfl (by decide) (by omega) (fun h84 => ?_) (fun h84 => ?_)
    · exfalso; omega
    · refine zw_aload_n ok_B_digest rfl rfl ?_
      refine zw_lload_n ok_B_digest rfl rfl ?_
      refine zw_iload_n ok_B_digest rfl rfl ?_
      refine zw_Vl ok_B_digest rfl ok_B_digestOfPerson lk_B_294 (by decide) rfl rfl (Nat.le_of_ble_eq_true rfl) (ct_B_digestOfPerson hI (by omega) (by rw [hc 38 (by omega) (by omega) (by omega) (by omega)]; exact hw i h0 (by omega))) (fun m90 h90 => ?_)
      refine zw_lstore_n ok_B_digest rfl rfl (by decide) ?_
      refine zw_iinc ok_B_digest rfl rfl rfl (by decide) ?_
      refine zw_goto 76 ok_B_digest rfl (by decide) ?_
      exact ih (i + 1) _ _ (by omega) (by omega) h90.1 (hc.tr h90.2) hx
theorem ct_B_digest (hI : CI mem τ) : zCl m_B_digest [vr 0] mem (qDigest τ) (fun m2 => CI m2 τ ∧ cls48 mem m2) := by
  refine zCt.of [some (vr 0), none, none, none] ok_B_digest (Nat.le_of_ble_eq_true rfl) rfl ?_
  have hP := isP_CI hI
  have eP := eP_CI hI
  unfold qDigest
  generalize hct : dgCt τ = ct
  unfold dgCt at hct
  have tl : ∀ (m3 : zMem) (x : Int), CI m3 τ → cls48 mem m3 → (m3 30 2 = (shdT τ (aHid τ 0)).1 ∧ m3 31 0 = (shdT τ (aHid τ 0)).2.1) → AW m_B_digest 100 [some (vr 0), some (vl x), none, none] [] m3 (fun r m2 => r = some (vl (dgPl τ (dgHr τ (dgHr τ (dgHr τ x 0) 3) 11))) ∧ CI m2 τ ∧ cls48 mem m2) := by
    intro m3 x hJ hc hs
    refine zw_aload_n ok_B_digest rfl rfl ?_
    refine zw_lload_n ok_B_digest rfl rfl ?_
    refine zw_iconst ok_B_digest rfl ?_
    refine zw_Vl ok_B_digest rfl ok_B_digestOfHour lk_B_298 (by decide) rfl rfl (Nat.le_of_ble_eq_true rfl) (ct_B_digestOfHour hJ (by omega)) (fun m103 h103 => ?_)
    refine zw_lstore_n ok_B_digest rfl rfl (by decide) ?_
    refine zw_aload_n ok_B_digest rfl rfl ?_
    refine zw_lload_n ok_B_digest rfl rfl ?_
    refine zw_iconst ok_B_digest rfl ?_
    refine zw_Vl ok_B_digest rfl ok_B_digestOfHour lk_B_298 (by decide) rfl rfl (Nat.le_of_ble_eq_true rfl) (ct_B_digestOfHour h103.1 (by omega)) (fun m110 h110 => ?_)
    refine zw_lstore_n ok_B_digest rfl rfl (by decide) ?_
    refine zw_aload_n ok_B_digest rfl rfl ?_
    refine zw_lload_n ok_B_digest rfl rfl ?_
    refine zw_bipush ok_B_digest rfl (by decide) ?_
    refine zw_Vl ok_B_digest rfl ok_B_digestOfHour lk_B_298 (by decide) rfl rfl (Nat.le_of_ble_eq_true rfl) (ct_B_digestOfHour h110.1 (by omega)) (fun m118 h118 => ?_)
    have hd := (h103.2.tr h110.2).tr h118.2
    have hs2 : m118 30 2 = (shdT τ (aHid τ 0)).1 ∧ m118 31 0 = (shdT τ (aHid τ 0)).2.1 := by rw [hd 30 (by omega) (by omega) (by omega) (by omega), hd 31 (by omega) (by omega) (by omega) (by omega)]; exact hs
    refine zw_lstore_n ok_B_digest rfl rfl (by decide) ?_
    refine zw_aload_n ok_B_digest rfl rfl ?_
    refine zw_lload_n ok_B_digest rfl rfl ?_
    refine zw_Vl ok_B_digest rfl ok_B_digestOfPlans lk_B_301 (by decide) rfl rfl (Nat.le_of_ble_eq_true rfl) (ct_B_digestOfPlans h118.1 hs2) (fun m124 h124 => ?_)
    exact zw_lret ok_B_digest rfl rfl (⟨rfl, h124.1, (hc.tr hd.c48).tr h124.2⟩)
  have md : ∀ m2, CI m2 τ → cls48 mem m2 → AW m_B_digest 31 [some (vr 0), some (vl ct), none, none] [] m2 (fun r m2 => r = some (vl (dgPl τ (dgHr τ (dgHr τ (dgHr τ (lp (fun p x => dgPer τ x p) (aP τ).toNat 0 (dg (dg ct (qFault τ 0)) (qFault τ 1))) 0) 3) 11))) ∧ CI m2 τ ∧ cls48 mem m2) := by
    intro m2 hI2 hc2
    refine zw_ldc2 ok_B_digest rfl kc_B_286 ?_
    refine zw_lload_n ok_B_digest rfl rfl ?_
    refine zw_lmul ok_B_digest rfl ?_
    refine zw_aload_n ok_B_digest rfl rfl ?_
    refine zw_iconst ok_B_digest rfl ?_
    refine zw_Vip ok_B_digest rfl ok_B_fault lk_B_291 (by decide) rfl rfl (Nat.le_of_ble_eq_true rfl) (ct_B_fault hI2 (by omega)) ?_
    refine zw_i2lw ok_B_digest rfl ?_
    refine zw_ladd ok_B_digest rfl ?_
    refine zw_lstore_n ok_B_digest rfl rfl (by decide) ?_
    refine zw_ldc2 ok_B_digest rfl kc_B_286 ?_
    refine zw_lload_n ok_B_digest rfl rfl ?_
    refine zw_lmul ok_B_digest rfl ?_
    refine zw_aload_n ok_B_digest rfl rfl ?_
    refine zw_iconst ok_B_digest rfl ?_
    refine zw_Vip ok_B_digest rfl ok_B_fault lk_B_291 (by decide) rfl rfl (Nat.le_of_ble_eq_true rfl) (ct_B_fault hI2 (by omega)) ?_
    refine zw_i2lw ok_B_digest rfl ?_
    refine zw_ladd ok_B_digest rfl ?_
    refine zw_lstore_n ok_B_digest rfl rfl (by decide) ?_
    refine zw_aload_n ok_B_digest rfl rfl ?_
    refine zw_getr ok_B_digest rfl fl_B_85 rfl rfl ?_
    refine zw_iconst ok_B_digest rfl ?_
    refine zw_bipush ok_B_digest rfl (by decide) ?_
    refine zw_Vv ok_B_digest rfl ok_Ch_weigh lk_B_229 (by decide) rfl rfl (Nat.le_of_ble_eq_true rfl) (ct_weigh hI2 (by omega) (by omega)) (fun m64 h64 => ?_)
    have j64 := scr_J hI2 h64.2
    refine zw_aload_n ok_B_digest rfl rfl ?_
    refine zw_getr ok_B_digest rfl fl_B_62 rfl rfl ?_
    refine zw_Vv ok_B_digest rfl ok_Sh_find lk_B_204 (by decide) rfl rfl (Nat.le_of_ble_eq_true rfl) (ct_find2 j64.1) (fun m71 h71 => ?_)
    have j71 := scr_J j64.1 h71.2.1
    refine zw_iconst ok_B_digest rfl ?_
    refine zw_istore_n ok_B_digest rfl rfl (by decide) ?_
    refine dgp_loop (m0 := m71) (fun p p0 p1 => by rw [h71.2.2]; exact h64.1 p p0 p1) (aP τ).toNat 0 _ _ (by omega) (by rw [eP] at hP; omega) j71.1 (fun _ _ _ _ _ => rfl) (fun m3 hJ hd => tl m3 _ hJ (((hc2.tr j64.2).tr j71.2).tr hd.c48) ?_)
    rw [hd 30 (by omega) (by omega) (by omega) (by omega), hd 31 (by omega) (by omega) (by omega) (by omega)]
    exact ⟨h71.1.1, h71.1.2.1⟩
  refine zw_ldc2 ok_B_digest rfl kc_B_284 ?_
  refine zw_lstore_n ok_B_digest rfl rfl (by decide) ?_
  refine zw_iconst ok_B_digest rfl ?_
  refine zw_istore_n ok_B_digest rfl rfl (by decide) ?_
  exact dgc_loop (m0 := mem) 8 0 _ _ (by omega) (by omega) hI (fun _ _ => rfl) (fun m2 hI2 hc2 => by rw [hct]; exact md m2 hI2 hc2)
end
