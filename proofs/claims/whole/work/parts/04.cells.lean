/-! ===== cells, answers, calls over the abstract machine ===== -/
theorem zIn_all : ∀ q ∈ vwCl, ∀ w ∈ u_ws q.1 q.2.1 q.2.2, w ∈ lw_tbl ∧ goodWord w = true := by decide +kernel
theorem zIn {ci : Nat} {C : String} {T : u_T} {N : Nat} (hc : vwCl[ci]? = some (C, T, N)) : ∀ w ∈ u_ws C T N, w ∈ zALL := fun w hw => by
  have h := zIn_all _ (List.mem_of_getElem? hc) w hw
  exact zmem_ALL h.1 h.2
def zTyp (q : vw_C) : Prop := ∃ ty : Nat → FieldType, (∀ k, k < q.2.2 → parseFieldDescriptor (q.2.1 k).2.2.1 = some (ty k)) ∧ ∀ a, a < q.2.2 → ∀ b, b < q.2.2 → a ≠ b → (q.2.1 a).2.1 ≠ (q.2.1 b).2.1
theorem zTyp_all : ∀ q ∈ vwCl, zTyp q := by
  intro q hq
  simp only [vwCl, List.mem_cons, List.not_mem_nil, or_false] at hq
  rcases hq with rfl | rfl | rfl | rfl | rfl | rfl | rfl | rfl | rfl | rfl | rfl | rfl
  · exact ⟨_, tyX0_ok, nmX0⟩
  · exact ⟨_, tyX1_ok, nmX1⟩
  · exact ⟨_, tyX2_ok, nmX2⟩
  · exact ⟨_, tyX3_ok, nmX3⟩
  · exact ⟨_, tyX4_ok, nmX4⟩
  · exact ⟨_, tyX5_ok, nmX5⟩
  · exact ⟨_, tyX6_ok, nmX6⟩
  · exact ⟨_, tyX7_ok, nmX7⟩
  · exact ⟨_, tyX8_ok, nmX8⟩
  · exact ⟨_, tyX9_ok, nmX9⟩
  · exact ⟨_, tyX10_ok, nmX10⟩
  · exact ⟨_, tyX11_ok, nmX11⟩
/-- a field by its pool entry: class ci, place j -/
def zFL (own : String) (idx ci j : Nat) (ji : Int) : Prop := ji = (j : Int) ∧ ∃ (C : String) (T : u_T) (N : Nat), vwCl[ci]? = some (C, T, N) ∧ j < N ∧ Cond.fieldLink own idx (T j).1 (T j).2.1 (T j).2.2.1 ∈ zALL
def zFP (own : String) (idx ci j : Nat) (ji : Int) (ty : FieldType) : Prop := ji = (j : Int) ∧ ∃ (C : String) (T : u_T) (N : Nat), vwCl[ci]? = some (C, T, N) ∧ j < N ∧ Cond.fieldLink own idx (T j).1 (T j).2.1 (T j).2.2.1 ∈ zALL ∧ (T j).2.2.2 = false ∧ parseFieldDescriptor (T j).2.2.1 = some ty
theorem zidx {i : Int} {n : Nat} (h : 0 ≤ i ∧ i < (n : Int)) (hn : n ≤ 1000) : vp_in (Int32.ofInt i) n ∧ (Int32.ofInt i).toNatClampNeg = i.toNat := by
  have e : (Int32.ofInt i).toInt = i := zto32 (by omega)
  refine ⟨vp_in_iff.mpr (by rw [e]; exact h), ?_⟩
  show (Int32.ofInt i).toInt.toNat = i.toNat
  rw [e]
theorem zE0 {E : zEnv} {k n : Nat} {fs : List (Option Nat)} {f : Int → Int} (h : zrow k = (0, n, fs)) : zE E (zrow k) f = .inl (E.2.1.1, n, .inl (fun j => Int32.ofInt (f j))) := by rw [h]; rfl
theorem zE1 {E : zEnv} {k n : Nat} {fs : List (Option Nat)} {f : Int → Int} (h : zrow k = (1, n, fs)) : zE E (zrow k) f = .inl (E.2.1.2.1, n, .inr (.inl (fun j => Int64.ofInt (f j)))) := by rw [h]; rfl
theorem zE2 {E : zEnv} {k n : Nat} {fs : List (Option Nat)} {f : Int → Int} (h : zrow k = (2, n, fs)) : zE E (zrow k) f = .inl (E.2.1.2.2, n, .inr (.inr (.inr (.inr (fun j => (fs.getD j none).map E.2.2))))) := by rw [h]; rfl
theorem zE3 {E : zEnv} {k n : Nat} {fs : List (Option Nat)} {f : Int → Int} (h : zrow k = (3, n, fs)) : zE E (zrow k) f = .inr (n, zF E.2.2 f 0 fs) := by rw [h]; rfl
def zcat : List zVal → Nat
  | [] => 0
  | .inl _ :: t => zcat t + 1
  | .inr (.inl _) :: t => zcat t + 2
  | .inr (.inr _) :: t => zcat t + 1
theorem zcat_eq (E : zEnv) : ∀ st : List zVal, ((st.map (zcv E)).map fun v => v.category).sum = zcat st
  | [] => rfl
  | .inl _ :: t => by simp [zcv, Value.category, zcat, ← zcat_eq E t, Nat.add_comm]
  | .inr (.inl _) :: t => by simp [zcv, Value.category, zcat, ← zcat_eq E t, Nat.add_comm]
  | .inr (.inr _) :: t => by simp [zcv, Value.category, zcat, ← zcat_eq E t, Nat.add_comm]
def zushr (x y : Int) : Int := ((Int32.ofInt x).toUInt32 >>> ((Int32.ofInt y).toUInt32 &&& Int32.toUInt32 31)).toInt32.toInt
def zlshl (x y : Int) : Int := (Int64.ofInt x <<< ((Int32.ofInt y).toInt64 &&& 63)).toInt
def zlshr (x y : Int) : Int := (Int64.ofInt x >>> ((Int32.ofInt y).toInt64 &&& 63)).toInt
def zcpy (f g : Int → Int) (sp dp n : Int) : Int → Int := fun j => if dp ≤ j ∧ j < dp + n then f (sp + (j - dp)) else g j
section ZC
variable {M : zMth} {pc nx : Nat} {ls : zLs} {st : List zVal} {mem : zMem} {Q : Option zVal → zMem → Prop}
theorem zw_iushr {x y : Int} (hM : zOK M) (hd : zlook (mTbl M) pc = some (.iushr, 1, nx)) (kk : AW M nx ls (vi (zushr x y) :: st) mem Q) : AW M pc ls (vi y :: vi x :: st) mem Q := by
  intro p l e s m args below meth c E H locs la C hl hP hD hS
  obtain ⟨hx, hb, hr, hml, hown, hts, hlk, hK, hN⟩ := id C
  obtain ⟨hdg, rfl⟩ := zdec hM hd
  exact lv_iushr hx hb hdg (zof32 _).symm (kk p l e s m args below meth c E H locs la C hl hP hD hS)
theorem zw_lshl {x y : Int} (hM : zOK M) (hd : zlook (mTbl M) pc = some (.lshl, 1, nx)) (kk : AW M nx ls (vl (zlshl x y) :: st) mem Q) : AW M pc ls (vi y :: vl x :: st) mem Q := by
  intro p l e s m args below meth c E H locs la C hl hP hD hS
  obtain ⟨hx, hb, hr, hml, hown, hts, hlk, hK, hN⟩ := id C
  obtain ⟨hdg, rfl⟩ := zdec hM hd
  exact lv_lshl hx hb hdg (zof64 _).symm (kk p l e s m args below meth c E H locs la C hl hP hD hS)
theorem zw_lshr {x y : Int} (hM : zOK M) (hd : zlook (mTbl M) pc = some (.lshr, 1, nx)) (kk : AW M nx ls (vl (zlshr x y) :: st) mem Q) : AW M pc ls (vi y :: vl x :: st) mem Q := by
  intro p l e s m args below meth c E H locs la C hl hP hD hS
  obtain ⟨hx, hb, hr, hml, hown, hts, hlk, hK, hN⟩ := id C
  obtain ⟨hdg, rfl⟩ := zdec hM hd
  exact lv_lshr hx hb hdg (zof64 _).symm (kk p l e s m args below meth c E H locs la C hl hP hD hS)
theorem zw_geti {idx ci j k : Nat} {ji : Int} {fs : List (Option Nat)} (hM : zOK M) (hd : zlook (mTbl M) pc = some (.getfield idx, 3, nx)) (hL : zFL (mOwn M) idx ci j ji) (hc : zrow k = (3, ci, fs)) (hj : fs[j]? = some none) (kk : AW M nx ls (vi (mem k ji) :: st) mem Q) : AW M pc ls (vr k :: st) mem Q := by
  intro p l e s m args below meth c E H locs la C hl hP hD hS
  obtain ⟨hx, hb, hr, hml, hown, hts, hlk, hK, hN⟩ := id C
  obtain ⟨hdg, rfl⟩ := zdec hM hd
  obtain ⟨rfl, Cn, T, N, h1, h2, h3⟩ := hL
  have hk := zrow_lt hc (by omega)
  have he := zW_get (E := E) (mem := mem) hk
  rw [zE3 hc] at he
  have hts' : ∀ w ∈ zALL, w.before args s = true := fun w hw => hts w (List.mem_cons_of_mem _ hw)
  refine va_get (v := .int (Int32.ofInt (mem k j))) hx hb hts' (zIn h1) hown hK hP k he h1 j h2 (hts' _ h3) (fun _ h => h) ?_ hdg (kk p l e s m args below meth c E H locs la C hl hP hD hS)
  rw [zF_get, hj]
  simp
theorem zw_getr {idx ci j k k2 : Nat} {ji : Int} {fs : List (Option Nat)} (hM : zOK M) (hd : zlook (mTbl M) pc = some (.getfield idx, 3, nx)) (hL : zFL (mOwn M) idx ci j ji) (hc : zrow k = (3, ci, fs)) (hj : fs[j]? = some (some k2)) (kk : AW M nx ls (vr k2 :: st) mem Q) : AW M pc ls (vr k :: st) mem Q := by
  intro p l e s m args below meth c E H locs la C hl hP hD hS
  obtain ⟨hx, hb, hr, hml, hown, hts, hlk, hK, hN⟩ := id C
  obtain ⟨hdg, rfl⟩ := zdec hM hd
  obtain ⟨rfl, Cn, T, N, h1, h2, h3⟩ := hL
  have hk := zrow_lt hc (by omega)
  have he := zW_get (E := E) (mem := mem) hk
  rw [zE3 hc] at he
  have hts' : ∀ w ∈ zALL, w.before args s = true := fun w hw => hts w (List.mem_cons_of_mem _ hw)
  refine va_get (v := .ref (E.2.2 k2)) hx hb hts' (zIn h1) hown hK hP k he h1 j h2 (hts' _ h3) (fun _ h => h) ?_ hdg (kk p l e s m args below meth c E H locs la C hl hP hD hS)
  rw [zF_get, hj]
  simp
theorem zw_putg {idx ci j k : Nat} {ji x : Int} {fs : List (Option Nat)} {ty : FieldType} (hM : zOK M) (hd : zlook (mTbl M) pc = some (.putfield idx, 3, nx)) (hL : zFP (mOwn M) idx ci j ji ty) (hc : zrow k = (3, ci, fs)) (hj : fs[j]? = some none) (hn : narrow ty (.int (Int32.ofInt x)) = .int (Int32.ofInt x)) (hf : fits ty (.int (Int32.ofInt x)) = true) (kk : AW M nx ls st (zset mem k ji x) Q) : AW M pc ls (vi x :: vr k :: st) mem Q := by
  intro p l e s m args below meth c E H locs la C hl hP hD hS
  obtain ⟨hx, hb, hr, hml, hown, hts, hlk, hK, hN⟩ := id C
  obtain ⟨hdg, rfl⟩ := zdec hM hd
  obtain ⟨rfl, Cn, T, N, h1, h2, h3, h4, h5⟩ := hL
  have hk := zrow_lt hc (by omega)
  have he := zW_get (E := E) (mem := mem) hk
  rw [zE3 hc] at he
  have hts' : ∀ w ∈ zALL, w.before args s = true := fun w hw => hts w (List.mem_cons_of_mem _ hw)
  obtain ⟨ty0, q1, q2⟩ := zTyp_all _ (List.mem_of_getElem? h1)
  refine va_put hx hb hts' (zIn h1) ty0 q1 q2 hown hK hP hD hS k he h1 j h2 (hts' _ h3) (fun _ h => h) h4 h5 hn hf (zF_len _ _ hj) hdg (fun H1 locs1 hP1 hD1 hS1 => ?_)
  have e2 : (zW E mem).set k (E.2.2 k, .inr (ci, (zF E.2.2 (mem k) 0 fs).set j (zcv E (vi x)))) = zW E (zset mem k j x) := zW_set hk (by rw [zE3 hc, ← zF_set _ _ _ hj]; rfl)
  rw [e2] at hP1 hD1
  exact kk p l e s m args below meth c E H1 locs1 la C hl hP1 hD1 hS1
theorem zw_puti {idx ci j k : Nat} {ji x : Int} {fs : List (Option Nat)} (hM : zOK M) (hd : zlook (mTbl M) pc = some (.putfield idx, 3, nx)) (hL : zFP (mOwn M) idx ci j ji .int) (hc : zrow k = (3, ci, fs)) (hj : fs[j]? = some none) (kk : AW M nx ls st (zset mem k ji x) Q) : AW M pc ls (vi x :: vr k :: st) mem Q := zw_putg hM hd hL hc hj rfl rfl kk
theorem zw_putz {idx ci j k : Nat} {ji x : Int} {fs : List (Option Nat)} (hM : zOK M) (hd : zlook (mTbl M) pc = some (.putfield idx, 3, nx)) (hL : zFP (mOwn M) idx ci j ji .boolean) (hc : zrow k = (3, ci, fs)) (hj : fs[j]? = some none) (hz : x = 0 ∨ x = 1) (kk : AW M nx ls st (zset mem k ji x) Q) : AW M pc ls (vi x :: vr k :: st) mem Q := by
  rcases hz with rfl | rfl
  · exact zw_putg hM hd hL hc hj (by decide) (by decide) kk
  · exact zw_putg hM hd hL hc hj (by decide) (by decide) kk
theorem zw_iald {k n : Nat} {i : Int} {fs : List (Option Nat)} (hM : zOK M) (hd : zlook (mTbl M) pc = some (.iaload, 1, nx)) (hc : zrow k = (0, n, fs)) (hi : 0 ≤ i ∧ i < (n : Int)) (kk : AW M nx ls (vi (mem k i) :: st) mem Q) : AW M pc ls (vi i :: vr k :: st) mem Q := by
  intro p l e s m args below meth c E H locs la C hl hP hD hS
  obtain ⟨hx, hb, hr, hml, hown, hts, hlk, hK, hN⟩ := id C
  obtain ⟨hdg, rfl⟩ := zdec hM hd
  have hk := zrow_lt hc (by omega)
  have he := zW_get (E := E) (mem := mem) hk
  rw [zE0 hc] at he
  obtain ⟨g1, g2⟩ := zidx hi (by have := zrow_small hc (by omega); omega)
  have kk := kk p l e s m args below meth c E H locs la C hl hP hD hS
  refine va_iald hx hb hK hP k 0 he rfl g1 hdg ?_
  have e2 : ((i.toNat : Nat) : Int) = i := by omega
  rw [g2, e2]
  exact kk
theorem zw_lald {k n : Nat} {i : Int} {fs : List (Option Nat)} (hM : zOK M) (hd : zlook (mTbl M) pc = some (.laload, 1, nx)) (hc : zrow k = (1, n, fs)) (hi : 0 ≤ i ∧ i < (n : Int)) (kk : AW M nx ls (vl (mem k i) :: st) mem Q) : AW M pc ls (vi i :: vr k :: st) mem Q := by
  intro p l e s m args below meth c E H locs la C hl hP hD hS
  obtain ⟨hx, hb, hr, hml, hown, hts, hlk, hK, hN⟩ := id C
  obtain ⟨hdg, rfl⟩ := zdec hM hd
  have hk := zrow_lt hc (by omega)
  have he := zW_get (E := E) (mem := mem) hk
  rw [zE1 hc] at he
  obtain ⟨g1, g2⟩ := zidx hi (by have := zrow_small hc (by omega); omega)
  have kk := kk p l e s m args below meth c E H locs la C hl hP hD hS
  refine va_lald hx hb hK hP k 1 he rfl g1 hdg ?_
  have e2 : ((i.toNat : Nat) : Int) = i := by omega
  rw [g2, e2]
  exact kk
theorem zw_aald {k n k2 : Nat} {i : Int} {fs : List (Option Nat)} (hM : zOK M) (hd : zlook (mTbl M) pc = some (.aaload, 1, nx)) (hc : zrow k = (2, n, fs)) (hi : 0 ≤ i ∧ i < (n : Int)) (hf : fs.getD i.toNat none = some k2) (kk : AW M nx ls (vr k2 :: st) mem Q) : AW M pc ls (vi i :: vr k :: st) mem Q := by
  intro p l e s m args below meth c E H locs la C hl hP hD hS
  obtain ⟨hx, hb, hr, hml, hown, hts, hlk, hK, hN⟩ := id C
  obtain ⟨hdg, rfl⟩ := zdec hM hd
  have hk := zrow_lt hc (by omega)
  have he := zW_get (E := E) (mem := mem) hk
  rw [zE2 hc] at he
  obtain ⟨g1, g2⟩ := zidx hi (by have := zrow_small hc (by omega); omega)
  have kk := kk p l e s m args below meth c E H locs la C hl hP hD hS
  refine va_aldq hx hb hK hP k 2 he rfl g1 hdg ?_
  rw [g2, hf]
  exact kk
theorem zw_iast {k n : Nat} {i x : Int} {fs : List (Option Nat)} (hM : zOK M) (hd : zlook (mTbl M) pc = some (.iastore, 1, nx)) (hc : zrow k = (0, n, fs)) (hi : 0 ≤ i ∧ i < (n : Int)) (kk : AW M nx ls st (zset mem k i x) Q) : AW M pc ls (vi x :: vi i :: vr k :: st) mem Q := by
  intro p l e s m args below meth c E H locs la C hl hP hD hS
  obtain ⟨hx, hb, hr, hml, hown, hts, hlk, hK, hN⟩ := id C
  obtain ⟨hdg, rfl⟩ := zdec hM hd
  have hk := zrow_lt hc (by omega)
  have he := zW_get (E := E) (mem := mem) hk
  rw [zE0 hc] at he
  obtain ⟨g1, g2⟩ := zidx hi (by have := zrow_small hc (by omega); omega)
  refine va_iast hx hb hK hP hD hS k 0 he rfl g1 hdg (fun H1 locs1 hP1 hD1 hS1 => ?_)
  have e2 : (zW E mem).set k (E.2.2 k, .inl (E.2.1.1, n, .inl (upd (fun j => Int32.ofInt (mem k j)) (Int32.ofInt i).toNatClampNeg (Int32.ofInt x)))) = zW E (zset mem k i x) := by
    refine zW_set hk ?_
    rw [zE0 hc, g2]
    congr 4
    funext j
    by_cases hj : j = i.toNat
    · have : (j : Int) = i := by omega
      simp [upd, zupd, ← hj, this]
    · have : ¬ (j : Int) = i := by omega
      simp [upd, zupd, hj, this]
  rw [e2] at hP1 hD1
  exact kk p l e s m args below meth c E H1 locs1 la C hl hP1 hD1 hS1
theorem zw_last {k n : Nat} {i x : Int} {fs : List (Option Nat)} (hM : zOK M) (hd : zlook (mTbl M) pc = some (.lastore, 1, nx)) (hc : zrow k = (1, n, fs)) (hi : 0 ≤ i ∧ i < (n : Int)) (kk : AW M nx ls st (zset mem k i x) Q) : AW M pc ls (vl x :: vi i :: vr k :: st) mem Q := by
  intro p l e s m args below meth c E H locs la C hl hP hD hS
  obtain ⟨hx, hb, hr, hml, hown, hts, hlk, hK, hN⟩ := id C
  obtain ⟨hdg, rfl⟩ := zdec hM hd
  have hk := zrow_lt hc (by omega)
  have he := zW_get (E := E) (mem := mem) hk
  rw [zE1 hc] at he
  obtain ⟨g1, g2⟩ := zidx hi (by have := zrow_small hc (by omega); omega)
  refine va_last hx hb hK hP hD hS k 1 he rfl g1 hdg (fun H1 locs1 hP1 hD1 hS1 => ?_)
  have e2 : (zW E mem).set k (E.2.2 k, .inl (E.2.1.2.1, n, .inr (.inl (vp_updL (fun j => Int64.ofInt (mem k j)) (Int32.ofInt i).toNatClampNeg (Int64.ofInt x))))) = zW E (zset mem k i x) := by
    refine zW_set hk ?_
    rw [zE1 hc, g2]
    congr 5
    funext j
    by_cases hj : j = i.toNat
    · have : (j : Int) = i := by omega
      simp [vp_updL, zupd, ← hj, this]
    · have : ¬ (j : Int) = i := by omega
      simp [vp_updL, zupd, hj, this]
  rw [e2] at hP1 hD1
  exact kk p l e s m args below meth c E H1 locs1 la C hl hP1 hD1 hS1
theorem zw_alen {k a n : Nat} {fs : List (Option Nat)} (hM : zOK M) (hd : zlook (mTbl M) pc = some (.arraylength, 1, nx)) (hc : zrow k = (a, n, fs)) (ha : a = 0 ∨ a = 1) (kk : AW M nx ls (vi (n : Int) :: st) mem Q) : AW M pc ls (vr k :: st) mem Q := by
  intro p l e s m args below meth c E H locs la C hl hP hD hS
  obtain ⟨hx, hb, hr, hml, hown, hts, hlk, hK, hN⟩ := id C
  obtain ⟨hdg, rfl⟩ := zdec hM hd
  have hk := zrow_lt hc (by omega)
  have he := zW_get (E := E) (mem := mem) hk
  rcases ha with rfl | rfl
  · rw [zE0 hc] at he
    exact va_alen (ty := .int) (v := Int32.ofInt n) hx hb hK hP k 0 he rfl (by simp [Int32.ofInt_eq_ofNat]) hdg (kk p l e s m args below meth c E H locs la C hl hP hD hS)
  · rw [zE1 hc] at he
    exact va_alen (ty := .long) (v := Int32.ofInt n) hx hb hK hP k 1 he rfl (by simp [Int32.ofInt_eq_ofNat]) hdg (kk p l e s m args below meth c E H locs la C hl hP hD hS)
/-! answers -/
theorem zend {M : zMth} {E : zEnv} {mem : zMem} {Q : Option zVal → zMem → Prop} {s : State} {args : Array Value} {H : Heap} {locs : List Loc} {r : Option zVal} (hP : va_P E.1 vwCl (zW E mem) H) (hD : va_D (zA E) (zW E mem)) (hS : va_S (zA E) s.heap H locs) (hq : Q r mem) : ∀ t : State, t.heap = H → s.WarmedH t.vm → zQc E Q args s (.returned (r.map (zcv E))) t :=
  fun t ht _ => ⟨⟨r, mem, rfl, hq, by rw [ht]; exact hP, hD⟩, hS.F ht⟩
theorem zw_iret {x : Int} (hM : zOK M) (hd : zlook (mTbl M) pc = some (.ireturn, 1, nx)) (hret : mRet M = some .int) (hq : Q (some (vi x)) mem) : AW M pc ls [vi x] mem Q := by
  intro p l e s m args below meth c E H locs la C hl hP hD hS
  obtain ⟨hx, hb, hr, hml, hown, hts, hlk, hK, hN⟩ := id C
  obtain ⟨hdg, rfl⟩ := zdec hM hd
  exact W.iret (free := zA E) hx hb (hr.trans hret) (zend (M := M) (r := some (vi x)) hP hD hS hq) hS.2.2 hdg hlk
theorem zw_zret {x : Int} (hM : zOK M) (hd : zlook (mTbl M) pc = some (.ireturn, 1, nx)) (hret : mRet M = some .boolean) (hz : x = 0 ∨ x = 1) (hq : Q (some (vi x)) mem) : AW M pc ls [vi x] mem Q := by
  intro p l e s m args below meth c E H locs la C hl hP hD hS
  obtain ⟨hx, hb, hr, hml, hown, hts, hlk, hK, hN⟩ := id C
  obtain ⟨hdg, rfl⟩ := zdec hM hd
  refine W.zret (ty := .boolean) (free := zA E) hx hb (hr.trans hret) ?_ (zend (M := M) (r := some (vi x)) hP hD hS hq) hS.2.2 hdg hlk
  rcases hz with rfl | rfl <;> decide
theorem zw_lret {x : Int} (hM : zOK M) (hd : zlook (mTbl M) pc = some (.lreturn, 1, nx)) (hret : mRet M = some .long) (hq : Q (some (vl x)) mem) : AW M pc ls [vl x] mem Q := by
  intro p l e s m args below meth c E H locs la C hl hP hD hS
  obtain ⟨hx, hb, hr, hml, hown, hts, hlk, hK, hN⟩ := id C
  obtain ⟨hdg, rfl⟩ := zdec hM hd
  exact W.lret (free := zA E) hx hb (hr.trans hret) (zend (M := M) (r := some (vl x)) hP hD hS hq) hS.2.2 hdg hlk
theorem zw_vret (hM : zOK M) (hd : zlook (mTbl M) pc = some (.return_, 1, nx)) (hret : mRet M = none) (hq : Q none mem) : AW M pc ls [] mem Q := by
  intro p l e s m args below meth c E H locs la C hl hP hD hS
  obtain ⟨hx, hb, hr, hml, hown, hts, hlk, hK, hN⟩ := id C
  obtain ⟨hdg, rfl⟩ := zdec hM hd
  exact W.vret (free := zA E) hx hb (hr.trans hret) (zend (M := M) (r := none) hP hD hS hq) hS.2.2 hdg hlk
theorem zw_aret {k : Nat} {C0 : String} (hM : zOK M) (hd : zlook (mTbl M) pc = some (.areturn, 1, nx)) (hret : mRet M = some (.object C0)) (hq : Q (some (vr k)) mem) : AW M pc ls [vr k] mem Q := by
  intro p l e s m args below meth c E H locs la C hl hP hD hS
  obtain ⟨hx, hb, hr, hml, hown, hts, hlk, hK, hN⟩ := id C
  obtain ⟨hdg, rfl⟩ := zdec hM hd
  exact W.aret (free := zA E) hx hb (hr.trans hret) (Or.inl ⟨_, rfl⟩) (Or.inr ⟨_, rfl⟩) (zend (M := M) (r := some (vr k)) hP hD hS hq) hS.2.2 hdg hlk
/-! switches -/
theorem zw_tin {x dflt lo hi off : Int} {offs : Array Int} {len : Nat} (tgt : Nat) (hM : zOK M) (hd : zlook (mTbl M) pc = some (.tableswitch dflt lo hi offs, len, nx)) (hq : -2147483648 ≤ x ∧ x < 2147483648) (h1 : lo ≤ x ∧ x ≤ hi) (ho : offs[(x - lo).toNat]? = some off) (ht : (pc : Int) + off = (tgt : Int)) (kk : AW M tgt ls st mem Q) : AW M pc ls (vi x :: st) mem Q := by
  intro p l e s m args below meth c E H locs la C hl hP hD hS
  obtain ⟨hx, hb, hr, hml, hown, hts, hlk, hK, hN⟩ := id C
  obtain ⟨hdg, rfl⟩ := zdec hM hd
  have e1 := zto32 hq
  exact lv_tableIn hx hb hdg (by rw [e1]; omega) (by rw [e1]; omega) (by rw [e1]; exact ho) ht (kk p l e s m args below meth c E H locs la C hl hP hD hS)
theorem zw_tout {x dflt lo hi : Int} {offs : Array Int} {len : Nat} (tgt : Nat) (hM : zOK M) (hd : zlook (mTbl M) pc = some (.tableswitch dflt lo hi offs, len, nx)) (hq : -2147483648 ≤ x ∧ x < 2147483648) (h1 : x < lo ∨ hi < x) (ht : (pc : Int) + dflt = (tgt : Int)) (kk : AW M tgt ls st mem Q) : AW M pc ls (vi x :: st) mem Q := by
  intro p l e s m args below meth c E H locs la C hl hP hD hS
  obtain ⟨hx, hb, hr, hml, hown, hts, hlk, hK, hN⟩ := id C
  obtain ⟨hdg, rfl⟩ := zdec hM hd
  have e1 := zto32 hq
  exact lv_tableOut hx hb hdg (by rw [e1]; exact h1) ht (kk p l e s m args below meth c E H locs la C hl hP hD hS)
theorem zw_lsw {x dflt off : Int} {ps : Array (Int × Int)} {len : Nat} (tgt : Nat) (hM : zOK M) (hd : zlook (mTbl M) pc = some (.lookupswitch dflt ps, len, nx)) (hq : -2147483648 ≤ x ∧ x < 2147483648) (hp : (ps.toList.zip (ps.toList.drop 1)).all (fun (a, next) => a.1 < next.1) = true) (ho : Op.lookupswitch.offset ps.toList dflt x = off) (ht : (pc : Int) + off = (tgt : Int)) (kk : AW M tgt ls st mem Q) : AW M pc ls (vi x :: st) mem Q := by
  intro p l e s m args below meth c E H locs la C hl hP hD hS
  obtain ⟨hx, hb, hr, hml, hown, hts, hlk, hK, hN⟩ := id C
  obtain ⟨hdg, rfl⟩ := zdec hM hd
  have e1 := zto32 hq
  exact lv_lookup hx hb hdg hp (by rw [e1]; exact ho) ht (kk p l e s m args below meth c E H locs la C hl hP hD hS)
end ZC
