/-! ===== AW: from this place of the method it returns with Q ===== -/
theorem zst1_spec : ∀ {ls ls' : zLs} {i : Nat} {v : zVal}, zst1 ls i v = some ls' → ∀ (j : Nat) (w : zVal), ls'[j]? = some (some w) → (j = i ∧ w = v) ∨ (j ≠ i ∧ ls[j]? = some (some w) ∧ ¬ (j + 1 = i ∧ ∃ x, w = vl x)) := by
  intro ls
  induction ls with
  | nil => intro ls' i v h; simp [zst1] at h
  | cons a t ih =>
    intro ls' i v h j w hj
    cases i with
    | zero =>
      simp only [zst1, Option.some.injEq] at h
      subst h
      cases j with
      | zero => left; simp at hj; exact ⟨rfl, hj.symm⟩
      | succ j => right; exact ⟨by omega, by simpa using hj, by omega⟩
    | succ i =>
      unfold zst1 at h
      split at h
      · simp only [Option.some.injEq] at h
        subst h
        rcases j with _ | _ | j
        · simp at hj
        · left; simp at hj; exact ⟨rfl, hj.symm⟩
        · right; exact ⟨by omega, by simpa using hj, by omega⟩
      · rename_i hne
        simp only [Option.some.injEq] at h
        subst h
        rcases j with _ | _ | j
        · right
          simp at hj
          refine ⟨by omega, by simp [hj], ?_⟩
          rintro ⟨-, x, rfl⟩
          exact hne x hj
        · left; simp at hj; exact ⟨rfl, hj.symm⟩
        · right; exact ⟨by omega, by simpa using hj, by omega⟩
      · rename_i hne1 hne2
        split at h
        · rename_i t' ht'
          simp only [Option.some.injEq] at h
          subst h
          cases j with
          | zero =>
            right
            simp at hj
            refine ⟨by omega, by simp [hj], ?_⟩
            rintro ⟨hi, x, rfl⟩
            have hi0 : i = 0 := by omega
            subst hi0
            cases t with
            | nil => simp [zst1] at ht'
            | cons b t2 => first | exact hne1 b t2 rfl rfl | exact hne2 b t2 x rfl rfl hj | exact hne1 b t2 rfl rfl hj
          | succ j =>
            have hj' : t'[j]? = some (some w) := by simpa using hj
            rcases ih ht' j w hj' with ⟨rfl, rfl⟩ | ⟨h1, h2, h3⟩
            · exact Or.inl ⟨rfl, rfl⟩
            · exact Or.inr ⟨by omega, by simpa using h2, fun ⟨q1, q2⟩ => h3 ⟨by omega, q2⟩⟩
        · cases h
theorem zclr_spec : ∀ {ls ls' : zLs} {i : Nat}, zclr ls i = some ls' → ∀ (j : Nat) (w : zVal), ls'[j]? = some (some w) → j ≠ i ∧ ls[j]? = some (some w) := by
  intro ls
  induction ls with
  | nil => intro ls' i h; simp [zclr] at h
  | cons a t ih =>
    intro ls' i h j w hj
    cases i with
    | zero =>
      simp only [zclr, Option.some.injEq] at h
      subst h
      cases j with
      | zero => simp at hj
      | succ j => exact ⟨by omega, by simpa using hj⟩
    | succ i =>
      simp only [zclr] at h
      split at h
      · rename_i t' ht'
        simp only [Option.some.injEq] at h
        subst h
        cases j with
        | zero => exact ⟨by omega, by simpa using hj⟩
        | succ j =>
          obtain ⟨h1, h2⟩ := ih ht' j w (by simpa using hj)
          exact ⟨by omega, by simpa using h2⟩
      · cases h
theorem zst2_spec {ls ls' : zLs} {i : Nat} {v : zVal} (h : zst2 ls i v = some ls') (j : Nat) (w : zVal) (hj : ls'[j]? = some (some w)) : (j = i ∧ w = v) ∨ (j ≠ i ∧ j ≠ i + 1 ∧ ls[j]? = some (some w) ∧ ¬ (j + 1 = i ∧ ∃ x, w = vl x)) := by
  unfold zst2 at h
  split at h
  · rename_i l1 h1
    obtain ⟨a1, a2⟩ := zclr_spec h j w hj
    rcases zst1_spec h1 j w a2 with ⟨rfl, rfl⟩ | ⟨b1, b2, b3⟩
    · exact Or.inl ⟨rfl, rfl⟩
    · exact Or.inr ⟨b1, a1, b2, b3⟩
  · cases h
theorem zcv_cat (E : zEnv) (w : zVal) : (zcv E w).category = 2 ↔ ∃ x, w = vl x := by
  rcases w with x | x | k
  · simp [zcv, Value.category]
  · simp [zcv, Value.category]
  · simp [zcv, Value.category]
def zCx (M : zMth) (p : Program) (s : State) (m : MethodId) (args : Array Value) (meth : Method) (c : Code) (E : zEnv) : Prop :=
  p.tables.exec = Jvm.exec ∧ c.code = mCode M ∧ meth.sig.returnType = mRet M ∧ c.maxLocals = mL M ∧ s.vm.findClass (mOwn M) = some m.cls ∧ (∀ w ∈ zws M, w.before args s = true) ∧ meth.locks = false ∧ va_K E.1 vwCl (zTys E) s ∧ zNw s
def zQc (E : zEnv) (Q : Option zVal → zMem → Prop) : Array Value → State → Outcome → State → Prop := fun _ st oc t =>
  (∃ (r : Option zVal) (mem : zMem), oc = .returned (r.map (zcv E)) ∧ Q r mem ∧ va_P E.1 vwCl (zW E mem) t.heap ∧ va_D (zA E) (zW E mem)) ∧ va_F (zA E) st t
def AW (M : zMth) (pc : Nat) (ls : zLs) (st : List zVal) (mem : zMem) (Q : Option zVal → zMem → Prop) : Prop :=
  ∀ (p : Program) (l : Launch) (e : Env) (s : State) (m : MethodId) (args : Array Value) (below : List Frame) (meth : Method) (c : Code) (E : zEnv) (H : Heap) (locs : List Loc) (la : Array Slot),
    zCx M p s m args meth c E → lv_has la (mL M) (zcl E 0 ls) → va_P E.1 vwCl (zW E mem) H → va_D (zA E) (zW E mem) → va_S (zA E) s.heap H locs →
    W p l e (zrm M) s m args below meth c H locs 0 0 (MQ below (zQc E Q) args s 0 0 (zA E)) (F0 m pc la (st.map (zcv E)))
section ZW
variable {M : zMth} {pc nx : Nat} {ls : zLs} {st : List zVal} {mem : zMem} {Q : Option zVal → zMem → Prop}
/-- fewer known locals, at a head -/
theorem zw_weak {ls' : zLs} (h : ∀ (i : Nat) (v : zVal), ls'[i]? = some (some v) → ls[i]? = some (some v)) (kk : AW M pc ls' st mem Q) : AW M pc ls st mem Q := by
  intro p l e s m args below meth c E H locs la C hl hP hD hS
  exact kk p l e s m args below meth c E H locs la C (zhas_mk hl (fun i v hi => by simpa using zcl_mem (E := E) (b := 0) (h i v hi))) hP hD hS
def zsub : zLs → zLs → Bool
  | [], _ => true
  | none :: t, _ :: t' => zsub t t'
  | none :: t, [] => zsub t []
  | some _ :: _, _ => false
theorem zw_eq {mem' : zMem} (h : mem = mem') (kk : AW M pc ls st mem' Q) : AW M pc ls st mem Q := h ▸ kk
theorem zw_post {Q' : Option zVal → zMem → Prop} (h : ∀ r m', Q' r m' → Q r m') (kk : AW M pc ls st mem Q') : AW M pc ls st mem Q := by
  intro p l e s m args below meth c E H locs la C hl hP hD hS T hT X
  obtain ⟨t, a, o, b1, b2, ⟨⟨r, m', h1, h2, h3⟩, h4⟩, b4⟩ := kk p l e s m args below meth c E H locs la C hl hP hD hS T hT X
  exact ⟨t, a, o, b1, b2, ⟨⟨r, m', h1, h _ _ h2, h3⟩, h4⟩, b4⟩
theorem zw_iconst {n : Int} (hM : zOK M) (hd : zlook (mTbl M) pc = some (.iconst n, 1, nx))  (kk : AW M nx ls (vi n :: st) mem Q) : AW M pc ls (st) mem Q := by
  intro p l e s m args below meth c E H locs la C hl hP hD hS
  obtain ⟨hx, hb, hr, hml, hown, hts, hlk, hK, hN⟩ := id C
  obtain ⟨hdg, rfl⟩ := zdec hM hd
  have kk := kk p l e s m args below meth c E H locs la C hl hP hD hS
  exact lv_iconst hx hb hdg rfl kk
theorem zw_bipush {n : Int} (hM : zOK M) (hd : zlook (mTbl M) pc = some (.bipush n, 2, nx)) (hv : (Int8.ofInt n).toInt32 = Int32.ofInt n) (kk : AW M nx ls (vi n :: st) mem Q) : AW M pc ls (st) mem Q := by
  intro p l e s m args below meth c E H locs la C hl hP hD hS
  obtain ⟨hx, hb, hr, hml, hown, hts, hlk, hK, hN⟩ := id C
  obtain ⟨hdg, rfl⟩ := zdec hM hd
  have kk := kk p l e s m args below meth c E H locs la C hl hP hD hS
  exact lv_bipush hx hb hdg hv kk
theorem zw_sipush {n : Int} (hM : zOK M) (hd : zlook (mTbl M) pc = some (.sipush n, 3, nx)) (hv : (Int16.ofInt n).toInt32 = Int32.ofInt n) (kk : AW M nx ls (vi n :: st) mem Q) : AW M pc ls (st) mem Q := by
  intro p l e s m args below meth c E H locs la C hl hP hD hS
  obtain ⟨hx, hb, hr, hml, hown, hts, hlk, hK, hN⟩ := id C
  obtain ⟨hdg, rfl⟩ := zdec hM hd
  have kk := kk p l e s m args below meth c E H locs la C hl hP hD hS
  exact lv_sipush hx hb hdg hv kk
theorem zw_lconst {k : Fin 2} (hM : zOK M) (hd : zlook (mTbl M) pc = some (.lconst k, 1, nx))  (kk : AW M nx ls (vl ((k : Nat) : Int) :: st) mem Q) : AW M pc ls (st) mem Q := by
  intro p l e s m args below meth c E H locs la C hl hP hD hS
  obtain ⟨hx, hb, hr, hml, hown, hts, hlk, hK, hN⟩ := id C
  obtain ⟨hdg, rfl⟩ := zdec hM hd
  have kk := kk p l e s m args below meth c E H locs la C hl hP hD hS
  exact lv_lconst hx hb hdg (by simp [Int64.ofInt_eq_ofNat]) kk
theorem zw_ldc {idx : Nat} {n : Int} (hM : zOK M) (hd : zlook (mTbl M) pc = some (.ldc idx, 2, nx)) (hc : Cond.constant (mOwn M) idx (Int32.ofInt n) ∈ zALL) (kk : AW M nx ls (vi n :: st) mem Q) : AW M pc ls (st) mem Q := by
  intro p l e s m args below meth c E H locs la C hl hP hD hS
  obtain ⟨hx, hb, hr, hml, hown, hts, hlk, hK, hN⟩ := id C
  obtain ⟨hdg, rfl⟩ := zdec hM hd
  have kk := kk p l e s m args below meth c E H locs la C hl hP hD hS
  exact lv_ldc hx hb hown (hts _ (List.mem_cons_of_mem _ hc)) hdg kk
theorem zw_ldcw {idx : Nat} {n : Int} (hM : zOK M) (hd : zlook (mTbl M) pc = some (.ldc_w idx, 3, nx)) (hc : Cond.constant (mOwn M) idx (Int32.ofInt n) ∈ zALL) (kk : AW M nx ls (vi n :: st) mem Q) : AW M pc ls (st) mem Q := by
  intro p l e s m args below meth c E H locs la C hl hP hD hS
  obtain ⟨hx, hb, hr, hml, hown, hts, hlk, hK, hN⟩ := id C
  obtain ⟨hdg, rfl⟩ := zdec hM hd
  have kk := kk p l e s m args below meth c E H locs la C hl hP hD hS
  exact lv_ldcw hx hb hown (hts _ (List.mem_cons_of_mem _ hc)) hdg kk
theorem zw_ldc2 {idx : Nat} {n : Int} (hM : zOK M) (hd : zlook (mTbl M) pc = some (.ldc2_w idx, 3, nx)) (hc : Cond.constantLong (mOwn M) idx (Int64.ofInt n) ∈ zALL) (kk : AW M nx ls (vl n :: st) mem Q) : AW M pc ls (st) mem Q := by
  intro p l e s m args below meth c E H locs la C hl hP hD hS
  obtain ⟨hx, hb, hr, hml, hown, hts, hlk, hK, hN⟩ := id C
  obtain ⟨hdg, rfl⟩ := zdec hM hd
  have kk := kk p l e s m args below meth c E H locs la C hl hP hD hS
  exact lv_ldc2 hx hb hown (hts _ (List.mem_cons_of_mem _ hc)) hdg kk
theorem zw_iload_n {k : Fin 4} {x : Int} (hM : zOK M) (hd : zlook (mTbl M) pc = some (.iload_n k, 1, nx)) (hv : zlk ls k = some (vi x)) (kk : AW M nx ls (vi x :: st) mem Q) : AW M pc ls (st) mem Q := by
  intro p l e s m args below meth c E H locs la C hl hP hD hS
  obtain ⟨hx, hb, hr, hml, hown, hts, hlk, hK, hN⟩ := id C
  obtain ⟨hdg, rfl⟩ := zdec hM hd
  have kk := kk p l e s m args below meth c E H locs la C hl hP hD hS
  exact lv_iload_n hx hb hdg rfl (zhas hl (zlk_get hv)) kk
theorem zw_iload {i : Nat} {x : Int} (hM : zOK M) (hd : zlook (mTbl M) pc = some (.iload i, 2, nx)) (hv : zlk ls i = some (vi x)) (kk : AW M nx ls (vi x :: st) mem Q) : AW M pc ls (st) mem Q := by
  intro p l e s m args below meth c E H locs la C hl hP hD hS
  obtain ⟨hx, hb, hr, hml, hown, hts, hlk, hK, hN⟩ := id C
  obtain ⟨hdg, rfl⟩ := zdec hM hd
  have kk := kk p l e s m args below meth c E H locs la C hl hP hD hS
  exact lv_iload hx hb hdg (zhas hl (zlk_get hv)) kk
theorem zw_lload_n {k : Fin 4} {x : Int} (hM : zOK M) (hd : zlook (mTbl M) pc = some (.lload_n k, 1, nx)) (hv : zlk ls k = some (vl x)) (kk : AW M nx ls (vl x :: st) mem Q) : AW M pc ls (st) mem Q := by
  intro p l e s m args below meth c E H locs la C hl hP hD hS
  obtain ⟨hx, hb, hr, hml, hown, hts, hlk, hK, hN⟩ := id C
  obtain ⟨hdg, rfl⟩ := zdec hM hd
  have kk := kk p l e s m args below meth c E H locs la C hl hP hD hS
  exact lv_lload_n hx hb hdg rfl (zhas hl (zlk_get hv)) kk
theorem zw_lload {i : Nat} {x : Int} (hM : zOK M) (hd : zlook (mTbl M) pc = some (.lload i, 2, nx)) (hv : zlk ls i = some (vl x)) (kk : AW M nx ls (vl x :: st) mem Q) : AW M pc ls (st) mem Q := by
  intro p l e s m args below meth c E H locs la C hl hP hD hS
  obtain ⟨hx, hb, hr, hml, hown, hts, hlk, hK, hN⟩ := id C
  obtain ⟨hdg, rfl⟩ := zdec hM hd
  have kk := kk p l e s m args below meth c E H locs la C hl hP hD hS
  exact lv_lload hx hb hdg (zhas hl (zlk_get hv)) kk
theorem zw_aload_n {k : Fin 4} {x : Nat} (hM : zOK M) (hd : zlook (mTbl M) pc = some (.aload_n k, 1, nx)) (hv : zlk ls k = some (vr x)) (kk : AW M nx ls (vr x :: st) mem Q) : AW M pc ls (st) mem Q := by
  intro p l e s m args below meth c E H locs la C hl hP hD hS
  obtain ⟨hx, hb, hr, hml, hown, hts, hlk, hK, hN⟩ := id C
  obtain ⟨hdg, rfl⟩ := zdec hM hd
  have kk := kk p l e s m args below meth c E H locs la C hl hP hD hS
  exact lv_aload_n hx hb hdg rfl (zhas hl (zlk_get hv)) kk
theorem zw_aload {i : Nat} {x : Nat} (hM : zOK M) (hd : zlook (mTbl M) pc = some (.aload i, 2, nx)) (hv : zlk ls i = some (vr x)) (kk : AW M nx ls (vr x :: st) mem Q) : AW M pc ls (st) mem Q := by
  intro p l e s m args below meth c E H locs la C hl hP hD hS
  obtain ⟨hx, hb, hr, hml, hown, hts, hlk, hK, hN⟩ := id C
  obtain ⟨hdg, rfl⟩ := zdec hM hd
  have kk := kk p l e s m args below meth c E H locs la C hl hP hD hS
  exact lv_aload hx hb hdg (zhas hl (zlk_get hv)) kk
theorem zw_istore_n {k : Fin 4} {x : Int} {ls' : zLs} (hM : zOK M) (hd : zlook (mTbl M) pc = some (.istore_n k, 1, nx)) (hv : zst1 ls (k : Nat) (vi x) = some ls') (hn : (k : Nat) < mL M) (kk : AW M nx ls' st mem Q) : AW M pc ls (vi x :: st) mem Q := by
  intro p l e s m args below meth c E H locs la C hl hP hD hS
  obtain ⟨hx, hb, hr, hml, hown, hts, hlk, hK, hN⟩ := id C
  obtain ⟨hdg, rfl⟩ := zdec hM hd
  refine lv_istore_n hx hb hdg rfl hl hn rfl (fun la' hl' => ?_)
  refine kk p l e s m args below meth c E H locs la' C (zhas_mk hl' (fun j u hj => ?_)) hP hD hS
  rcases zst1_spec hv j u hj with ⟨rfl, rfl⟩ | ⟨h1, h2, h3⟩
  · exact List.mem_cons_self
  · refine List.mem_cons_of_mem _ (List.mem_filter.mpr ⟨by simpa using zcl_mem (E := E) (b := 0) h2, ?_⟩)
    have h4 : ¬ (j + 1 = (k : Nat) ∧ (zcv E u).category = 2) := fun ⟨q1, q2⟩ => h3 ⟨q1, (zcv_cat E u).mp q2⟩
    simp [h1]
    omega
theorem zw_istore {i : Nat} {x : Int} {ls' : zLs} (hM : zOK M) (hd : zlook (mTbl M) pc = some (.istore i, 2, nx)) (hv : zst1 ls i (vi x) = some ls') (hn : i < mL M) (kk : AW M nx ls' st mem Q) : AW M pc ls (vi x :: st) mem Q := by
  intro p l e s m args below meth c E H locs la C hl hP hD hS
  obtain ⟨hx, hb, hr, hml, hown, hts, hlk, hK, hN⟩ := id C
  obtain ⟨hdg, rfl⟩ := zdec hM hd
  refine lv_istore hx hb hdg hl hn rfl (fun la' hl' => ?_)
  refine kk p l e s m args below meth c E H locs la' C (zhas_mk hl' (fun j u hj => ?_)) hP hD hS
  rcases zst1_spec hv j u hj with ⟨rfl, rfl⟩ | ⟨h1, h2, h3⟩
  · exact List.mem_cons_self
  · refine List.mem_cons_of_mem _ (List.mem_filter.mpr ⟨by simpa using zcl_mem (E := E) (b := 0) h2, ?_⟩)
    have h4 : ¬ (j + 1 = i ∧ (zcv E u).category = 2) := fun ⟨q1, q2⟩ => h3 ⟨q1, (zcv_cat E u).mp q2⟩
    simp [h1]
    omega
theorem zw_astore_n {k : Fin 4} {x : Nat} {ls' : zLs} (hM : zOK M) (hd : zlook (mTbl M) pc = some (.astore_n k, 1, nx)) (hv : zst1 ls (k : Nat) (vr x) = some ls') (hn : (k : Nat) < mL M) (kk : AW M nx ls' st mem Q) : AW M pc ls (vr x :: st) mem Q := by
  intro p l e s m args below meth c E H locs la C hl hP hD hS
  obtain ⟨hx, hb, hr, hml, hown, hts, hlk, hK, hN⟩ := id C
  obtain ⟨hdg, rfl⟩ := zdec hM hd
  refine lv_astore_n hx hb hdg rfl hl hn rfl (fun la' hl' => ?_)
  refine kk p l e s m args below meth c E H locs la' C (zhas_mk hl' (fun j u hj => ?_)) hP hD hS
  rcases zst1_spec hv j u hj with ⟨rfl, rfl⟩ | ⟨h1, h2, h3⟩
  · exact List.mem_cons_self
  · refine List.mem_cons_of_mem _ (List.mem_filter.mpr ⟨by simpa using zcl_mem (E := E) (b := 0) h2, ?_⟩)
    have h4 : ¬ (j + 1 = (k : Nat) ∧ (zcv E u).category = 2) := fun ⟨q1, q2⟩ => h3 ⟨q1, (zcv_cat E u).mp q2⟩
    simp [h1]
    omega
theorem zw_astore {i : Nat} {x : Nat} {ls' : zLs} (hM : zOK M) (hd : zlook (mTbl M) pc = some (.astore i, 2, nx)) (hv : zst1 ls i (vr x) = some ls') (hn : i < mL M) (kk : AW M nx ls' st mem Q) : AW M pc ls (vr x :: st) mem Q := by
  intro p l e s m args below meth c E H locs la C hl hP hD hS
  obtain ⟨hx, hb, hr, hml, hown, hts, hlk, hK, hN⟩ := id C
  obtain ⟨hdg, rfl⟩ := zdec hM hd
  refine lv_astore hx hb hdg hl hn rfl (fun la' hl' => ?_)
  refine kk p l e s m args below meth c E H locs la' C (zhas_mk hl' (fun j u hj => ?_)) hP hD hS
  rcases zst1_spec hv j u hj with ⟨rfl, rfl⟩ | ⟨h1, h2, h3⟩
  · exact List.mem_cons_self
  · refine List.mem_cons_of_mem _ (List.mem_filter.mpr ⟨by simpa using zcl_mem (E := E) (b := 0) h2, ?_⟩)
    have h4 : ¬ (j + 1 = i ∧ (zcv E u).category = 2) := fun ⟨q1, q2⟩ => h3 ⟨q1, (zcv_cat E u).mp q2⟩
    simp [h1]
    omega
theorem zw_lstore_n {k : Fin 4} {x : Int} {ls' : zLs} (hM : zOK M) (hd : zlook (mTbl M) pc = some (.lstore_n k, 1, nx)) (hv : zst2 ls (k : Nat) (vl x) = some ls') (hn : (k : Nat) + 1 < mL M) (kk : AW M nx ls' st mem Q) : AW M pc ls (vl x :: st) mem Q := by
  intro p l e s m args below meth c E H locs la C hl hP hD hS
  obtain ⟨hx, hb, hr, hml, hown, hts, hlk, hK, hN⟩ := id C
  obtain ⟨hdg, rfl⟩ := zdec hM hd
  refine lv_lstore_n hx hb hdg rfl hl hn rfl (fun la' hl' => ?_)
  refine kk p l e s m args below meth c E H locs la' C (zhas_mk hl' (fun j u hj => ?_)) hP hD hS
  rcases zst2_spec hv j u hj with ⟨rfl, rfl⟩ | ⟨h1, h1', h2, h3⟩
  · exact List.mem_cons_self
  · refine List.mem_cons_of_mem _ (List.mem_filter.mpr ⟨by simpa using zcl_mem (E := E) (b := 0) h2, ?_⟩)
    have h4 : ¬ (j + 1 = (k : Nat) ∧ (zcv E u).category = 2) := fun ⟨q1, q2⟩ => h3 ⟨q1, (zcv_cat E u).mp q2⟩
    simp [h1, h1']
    omega
theorem zw_lstore {i : Nat} {x : Int} {ls' : zLs} (hM : zOK M) (hd : zlook (mTbl M) pc = some (.lstore i, 2, nx)) (hv : zst2 ls i (vl x) = some ls') (hn : i + 1 < mL M) (kk : AW M nx ls' st mem Q) : AW M pc ls (vl x :: st) mem Q := by
  intro p l e s m args below meth c E H locs la C hl hP hD hS
  obtain ⟨hx, hb, hr, hml, hown, hts, hlk, hK, hN⟩ := id C
  obtain ⟨hdg, rfl⟩ := zdec hM hd
  refine lv_lstore hx hb hdg hl hn rfl (fun la' hl' => ?_)
  refine kk p l e s m args below meth c E H locs la' C (zhas_mk hl' (fun j u hj => ?_)) hP hD hS
  rcases zst2_spec hv j u hj with ⟨rfl, rfl⟩ | ⟨h1, h1', h2, h3⟩
  · exact List.mem_cons_self
  · refine List.mem_cons_of_mem _ (List.mem_filter.mpr ⟨by simpa using zcl_mem (E := E) (b := 0) h2, ?_⟩)
    have h4 : ¬ (j + 1 = i ∧ (zcv E u).category = 2) := fun ⟨q1, q2⟩ => h3 ⟨q1, (zcv_cat E u).mp q2⟩
    simp [h1, h1']
    omega
theorem zw_iinc {i : Nat} {n x : Int} {ls' : zLs} (hM : zOK M) (hd : zlook (mTbl M) pc = some (.iinc i n, 3, nx)) (hg : zlk ls i = some (vi x)) (hv : zst1 ls i (vi (x + n)) = some ls') (hn : i < mL M) (kk : AW M nx ls' st mem Q) : AW M pc ls st mem Q := by
  intro p l e s m args below meth c E H locs la C hl hP hD hS
  obtain ⟨hx, hb, hr, hml, hown, hts, hlk, hK, hN⟩ := id C
  obtain ⟨hdg, rfl⟩ := zdec hM hd
  obtain ⟨k, hk⟩ := List.getElem?_of_mem (zcl_mem (E := E) (b := 0) (zlk_get hg))
  rw [Nat.zero_add] at hk
  refine lv_iinc (k := k) (x := Int32.ofInt x) (v := Int32.ofInt (x + n)) hx hb hdg hl hk (Int32.ofInt_add x n).symm hn rfl (fun la' hl' => ?_)
  refine kk p l e s m args below meth c E H locs la' C (zhas_mk hl' (fun j u hj => ?_)) hP hD hS
  rcases zst1_spec hv j u hj with ⟨rfl, rfl⟩ | ⟨h1, h2, h3⟩
  · exact List.mem_cons_self
  · refine List.mem_cons_of_mem _ (List.mem_filter.mpr ⟨by simpa using zcl_mem (E := E) (b := 0) h2, ?_⟩)
    have h4 : ¬ (j + 1 = i ∧ (zcv E u).category = 2) := fun ⟨q1, q2⟩ => h3 ⟨q1, (zcv_cat E u).mp q2⟩
    simp [h1]
    omega
theorem zw_iadd {x y : Int} (hM : zOK M) (hd : zlook (mTbl M) pc = some (.iadd, 1, nx))  (kk : AW M nx ls (vi (x + y) :: st) mem Q) : AW M pc ls (vi y :: vi x :: st) mem Q := by
  intro p l e s m args below meth c E H locs la C hl hP hD hS
  obtain ⟨hx, hb, hr, hml, hown, hts, hlk, hK, hN⟩ := id C
  obtain ⟨hdg, rfl⟩ := zdec hM hd
  have kk := kk p l e s m args below meth c E H locs la C hl hP hD hS
  have kk2 := kk
  simp only [List.map_cons, zcv, Int32.ofInt_add] at kk2
  exact lv_iadd hx hb hdg kk2
theorem zw_isub {x y : Int} (hM : zOK M) (hd : zlook (mTbl M) pc = some (.isub, 1, nx))  (kk : AW M nx ls (vi (x - y) :: st) mem Q) : AW M pc ls (vi y :: vi x :: st) mem Q := by
  intro p l e s m args below meth c E H locs la C hl hP hD hS
  obtain ⟨hx, hb, hr, hml, hown, hts, hlk, hK, hN⟩ := id C
  obtain ⟨hdg, rfl⟩ := zdec hM hd
  have kk := kk p l e s m args below meth c E H locs la C hl hP hD hS
  have kk2 := kk
  simp only [List.map_cons, zcv, Int32.ofInt_sub] at kk2
  exact lv_isub hx hb hdg kk2
theorem zw_imul {x y : Int} (hM : zOK M) (hd : zlook (mTbl M) pc = some (.imul, 1, nx))  (kk : AW M nx ls (vi (x * y) :: st) mem Q) : AW M pc ls (vi y :: vi x :: st) mem Q := by
  intro p l e s m args below meth c E H locs la C hl hP hD hS
  obtain ⟨hx, hb, hr, hml, hown, hts, hlk, hK, hN⟩ := id C
  obtain ⟨hdg, rfl⟩ := zdec hM hd
  have kk := kk p l e s m args below meth c E H locs la C hl hP hD hS
  have kk2 := kk
  simp only [List.map_cons, zcv, Int32.ofInt_mul] at kk2
  exact lv_imul hx hb hdg kk2
theorem zw_ineg {x : Int} (hM : zOK M) (hd : zlook (mTbl M) pc = some (.ineg, 1, nx))  (kk : AW M nx ls (vi (-x) :: st) mem Q) : AW M pc ls (vi x :: st) mem Q := by
  intro p l e s m args below meth c E H locs la C hl hP hD hS
  obtain ⟨hx, hb, hr, hml, hown, hts, hlk, hK, hN⟩ := id C
  obtain ⟨hdg, rfl⟩ := zdec hM hd
  have kk := kk p l e s m args below meth c E H locs la C hl hP hD hS
  have kk2 := kk
  simp only [List.map_cons, zcv, Int32.ofInt_neg] at kk2
  exact lv_ineg hx hb hdg kk2
theorem zw_ladd {x y : Int} (hM : zOK M) (hd : zlook (mTbl M) pc = some (.ladd, 1, nx))  (kk : AW M nx ls (vl (x + y) :: st) mem Q) : AW M pc ls (vl y :: vl x :: st) mem Q := by
  intro p l e s m args below meth c E H locs la C hl hP hD hS
  obtain ⟨hx, hb, hr, hml, hown, hts, hlk, hK, hN⟩ := id C
  obtain ⟨hdg, rfl⟩ := zdec hM hd
  have kk := kk p l e s m args below meth c E H locs la C hl hP hD hS
  have kk2 := kk
  simp only [List.map_cons, zcv, Int64.ofInt_add] at kk2
  exact lv_ladd hx hb hdg kk2
theorem zw_lsub {x y : Int} (hM : zOK M) (hd : zlook (mTbl M) pc = some (.lsub, 1, nx))  (kk : AW M nx ls (vl (x - y) :: st) mem Q) : AW M pc ls (vl y :: vl x :: st) mem Q := by
  intro p l e s m args below meth c E H locs la C hl hP hD hS
  obtain ⟨hx, hb, hr, hml, hown, hts, hlk, hK, hN⟩ := id C
  obtain ⟨hdg, rfl⟩ := zdec hM hd
  have kk := kk p l e s m args below meth c E H locs la C hl hP hD hS
  have kk2 := kk
  simp only [List.map_cons, zcv, Int64.ofInt_sub] at kk2
  exact lv_lsub hx hb hdg kk2
theorem zw_lmul {x y : Int} (hM : zOK M) (hd : zlook (mTbl M) pc = some (.lmul, 1, nx))  (kk : AW M nx ls (vl (x * y) :: st) mem Q) : AW M pc ls (vl y :: vl x :: st) mem Q := by
  intro p l e s m args below meth c E H locs la C hl hP hD hS
  obtain ⟨hx, hb, hr, hml, hown, hts, hlk, hK, hN⟩ := id C
  obtain ⟨hdg, rfl⟩ := zdec hM hd
  have kk := kk p l e s m args below meth c E H locs la C hl hP hD hS
  have kk2 := kk
  simp only [List.map_cons, zcv, Int64.ofInt_mul] at kk2
  exact lv_lmul hx hb hdg kk2
end ZW
def zand (x y : Int) : Int := (Int32.ofInt x &&& Int32.ofInt y).toInt
def zor (x y : Int) : Int := (Int32.ofInt x ||| Int32.ofInt y).toInt
def zxor (x y : Int) : Int := (Int32.ofInt x ^^^ Int32.ofInt y).toInt
def zshl (x y : Int) : Int := (Int32.ofInt x <<< (Int32.ofInt y &&& 31)).toInt
def zshr (x y : Int) : Int := (Int32.ofInt x >>> (Int32.ofInt y &&& 31)).toInt
def zdiv (x y : Int) : Int := (Int32.ofInt x / Int32.ofInt y).toInt
def zrem (x y : Int) : Int := (Int32.ofInt x - Int32.ofInt x / Int32.ofInt y * Int32.ofInt y).toInt
def zi2b (x : Int) : Int := (Int32.ofInt x).toInt8.toInt32.toInt
def zi2s (x : Int) : Int := (Int32.ofInt x).toInt16.toInt32.toInt
def zland (x y : Int) : Int := (Int64.ofInt x &&& Int64.ofInt y).toInt
def zldiv (x y : Int) : Int := (Int64.ofInt x / Int64.ofInt y).toInt
def zlrem (x y : Int) : Int := (Int64.ofInt x - Int64.ofInt x / Int64.ofInt y * Int64.ofInt y).toInt
theorem zof32 (x : Int32) : Int32.ofInt x.toInt = x := by simp
theorem zof64 (x : Int64) : Int64.ofInt x.toInt = x := by simp
theorem zto32 {x : Int} (h : -2147483648 ≤ x ∧ x < 2147483648) : (Int32.ofInt x).toInt = x := by
  rw [Int32.toInt_ofInt]
  have e : (Int32.size : Int) = 4294967296 := rfl
  exact Int.bmod_eq_of_le (by omega) (by omega)
theorem zto64 {x : Int} (h : -9223372036854775808 ≤ x ∧ x < 9223372036854775808) : (Int64.ofInt x).toInt = x := by
  rw [Int64.toInt_ofInt]
  have e : (Int64.size : Int) = 18446744073709551616 := rfl
  exact Int.bmod_eq_of_le (by omega) (by omega)
theorem zne0 {y : Int} (h : -2147483648 ≤ y ∧ y < 2147483648) (h0 : y ≠ 0) : ¬ Int32.ofInt y = 0 := fun q => by
  have := congrArg Int32.toInt q
  rw [zto32 h] at this
  exact h0 (by simpa using this)
theorem zne0l {y : Int} (h : -9223372036854775808 ≤ y ∧ y < 9223372036854775808) (h0 : y ≠ 0) : ¬ Int64.ofInt y = 0 := fun q => by
  have := congrArg Int64.toInt q
  rw [zto64 h] at this
  exact h0 (by simpa using this)
section ZW2
variable {M : zMth} {pc nx : Nat} {ls : zLs} {st : List zVal} {mem : zMem} {Q : Option zVal → zMem → Prop}
theorem zw_iand {x y : Int} (hM : zOK M) (hd : zlook (mTbl M) pc = some (.iand, 1, nx))  (kk : AW M nx ls (vi (zand x y) :: st) mem Q) : AW M pc ls (vi y :: vi x :: st) mem Q := by
  intro p l e s m args below meth c E H locs la C hl hP hD hS
  obtain ⟨hx, hb, hr, hml, hown, hts, hlk, hK, hN⟩ := id C
  obtain ⟨hdg, rfl⟩ := zdec hM hd
  have kk := kk p l e s m args below meth c E H locs la C hl hP hD hS
  have kk2 := kk
  simp only [List.map_cons, zcv, zand, zof32] at kk2
  exact lv_iand hx hb hdg kk2
theorem zw_ior {x y : Int} (hM : zOK M) (hd : zlook (mTbl M) pc = some (.ior, 1, nx))  (kk : AW M nx ls (vi (zor x y) :: st) mem Q) : AW M pc ls (vi y :: vi x :: st) mem Q := by
  intro p l e s m args below meth c E H locs la C hl hP hD hS
  obtain ⟨hx, hb, hr, hml, hown, hts, hlk, hK, hN⟩ := id C
  obtain ⟨hdg, rfl⟩ := zdec hM hd
  have kk := kk p l e s m args below meth c E H locs la C hl hP hD hS
  have kk2 := kk
  simp only [List.map_cons, zcv, zor, zof32] at kk2
  exact lv_ior hx hb hdg kk2
theorem zw_ixor {x y : Int} (hM : zOK M) (hd : zlook (mTbl M) pc = some (.ixor, 1, nx))  (kk : AW M nx ls (vi (zxor x y) :: st) mem Q) : AW M pc ls (vi y :: vi x :: st) mem Q := by
  intro p l e s m args below meth c E H locs la C hl hP hD hS
  obtain ⟨hx, hb, hr, hml, hown, hts, hlk, hK, hN⟩ := id C
  obtain ⟨hdg, rfl⟩ := zdec hM hd
  have kk := kk p l e s m args below meth c E H locs la C hl hP hD hS
  have kk2 := kk
  simp only [List.map_cons, zcv, zxor, zof32] at kk2
  exact lv_ixor hx hb hdg kk2
theorem zw_ishl {x y : Int} (hM : zOK M) (hd : zlook (mTbl M) pc = some (.ishl, 1, nx))  (kk : AW M nx ls (vi (zshl x y) :: st) mem Q) : AW M pc ls (vi y :: vi x :: st) mem Q := by
  intro p l e s m args below meth c E H locs la C hl hP hD hS
  obtain ⟨hx, hb, hr, hml, hown, hts, hlk, hK, hN⟩ := id C
  obtain ⟨hdg, rfl⟩ := zdec hM hd
  have kk := kk p l e s m args below meth c E H locs la C hl hP hD hS
  have kk2 := kk
  simp only [List.map_cons, zcv, zshl, zof32] at kk2
  exact lv_ishl hx hb hdg kk2
theorem zw_ishr {x y : Int} (hM : zOK M) (hd : zlook (mTbl M) pc = some (.ishr, 1, nx))  (kk : AW M nx ls (vi (zshr x y) :: st) mem Q) : AW M pc ls (vi y :: vi x :: st) mem Q := by
  intro p l e s m args below meth c E H locs la C hl hP hD hS
  obtain ⟨hx, hb, hr, hml, hown, hts, hlk, hK, hN⟩ := id C
  obtain ⟨hdg, rfl⟩ := zdec hM hd
  have kk := kk p l e s m args below meth c E H locs la C hl hP hD hS
  have kk2 := kk
  simp only [List.map_cons, zcv, zshr, zof32] at kk2
  exact lv_ishr hx hb hdg kk2
theorem zw_idiv {x y : Int} (hM : zOK M) (hd : zlook (mTbl M) pc = some (.idiv, 1, nx)) (hy : (-2147483648 ≤ y ∧ y < 2147483648) ∧ y ≠ 0) (kk : AW M nx ls (vi (zdiv x y) :: st) mem Q) : AW M pc ls (vi y :: vi x :: st) mem Q := by
  intro p l e s m args below meth c E H locs la C hl hP hD hS
  obtain ⟨hx, hb, hr, hml, hown, hts, hlk, hK, hN⟩ := id C
  obtain ⟨hdg, rfl⟩ := zdec hM hd
  have kk := kk p l e s m args below meth c E H locs la C hl hP hD hS
  have kk2 := kk
  simp only [List.map_cons, zcv, zdiv, zof32] at kk2
  exact lv_idiv hx hb hdg (zne0 hy.1 hy.2) kk2
theorem zw_irem {x y : Int} (hM : zOK M) (hd : zlook (mTbl M) pc = some (.irem, 1, nx)) (hy : (-2147483648 ≤ y ∧ y < 2147483648) ∧ y ≠ 0) (kk : AW M nx ls (vi (zrem x y) :: st) mem Q) : AW M pc ls (vi y :: vi x :: st) mem Q := by
  intro p l e s m args below meth c E H locs la C hl hP hD hS
  obtain ⟨hx, hb, hr, hml, hown, hts, hlk, hK, hN⟩ := id C
  obtain ⟨hdg, rfl⟩ := zdec hM hd
  have kk := kk p l e s m args below meth c E H locs la C hl hP hD hS
  have kk2 := kk
  simp only [List.map_cons, zcv, zrem, zof32] at kk2
  exact lv_irem hx hb hdg (zne0 hy.1 hy.2) kk2
theorem zw_ldiv {x y : Int} (hM : zOK M) (hd : zlook (mTbl M) pc = some (.ldiv, 1, nx)) (hy : (-9223372036854775808 ≤ y ∧ y < 9223372036854775808) ∧ y ≠ 0) (kk : AW M nx ls (vl (zldiv x y) :: st) mem Q) : AW M pc ls (vl y :: vl x :: st) mem Q := by
  intro p l e s m args below meth c E H locs la C hl hP hD hS
  obtain ⟨hx, hb, hr, hml, hown, hts, hlk, hK, hN⟩ := id C
  obtain ⟨hdg, rfl⟩ := zdec hM hd
  have kk := kk p l e s m args below meth c E H locs la C hl hP hD hS
  have kk2 := kk
  simp only [List.map_cons, zcv, zldiv, zof64] at kk2
  exact lv_ldiv hx hb hdg (zne0l hy.1 hy.2) kk2
theorem zw_lrem {x y : Int} (hM : zOK M) (hd : zlook (mTbl M) pc = some (.lrem, 1, nx)) (hy : (-9223372036854775808 ≤ y ∧ y < 9223372036854775808) ∧ y ≠ 0) (kk : AW M nx ls (vl (zlrem x y) :: st) mem Q) : AW M pc ls (vl y :: vl x :: st) mem Q := by
  intro p l e s m args below meth c E H locs la C hl hP hD hS
  obtain ⟨hx, hb, hr, hml, hown, hts, hlk, hK, hN⟩ := id C
  obtain ⟨hdg, rfl⟩ := zdec hM hd
  have kk := kk p l e s m args below meth c E H locs la C hl hP hD hS
  have kk2 := kk
  simp only [List.map_cons, zcv, zlrem, zof64] at kk2
  exact lv_lrem hx hb hdg (zne0l hy.1 hy.2) kk2
theorem zw_land {x y : Int} (hM : zOK M) (hd : zlook (mTbl M) pc = some (.land, 1, nx))  (kk : AW M nx ls (vl (zland x y) :: st) mem Q) : AW M pc ls (vl y :: vl x :: st) mem Q := by
  intro p l e s m args below meth c E H locs la C hl hP hD hS
  obtain ⟨hx, hb, hr, hml, hown, hts, hlk, hK, hN⟩ := id C
  obtain ⟨hdg, rfl⟩ := zdec hM hd
  have kk := kk p l e s m args below meth c E H locs la C hl hP hD hS
  have kk2 := kk
  simp only [List.map_cons, zcv, zland, zof64] at kk2
  exact lv_land hx hb hdg kk2
theorem zw_i2b {x : Int} (hM : zOK M) (hd : zlook (mTbl M) pc = some (.i2b, 1, nx))  (kk : AW M nx ls (vi (zi2b x) :: st) mem Q) : AW M pc ls (vi x :: st) mem Q := by
  intro p l e s m args below meth c E H locs la C hl hP hD hS
  obtain ⟨hx, hb, hr, hml, hown, hts, hlk, hK, hN⟩ := id C
  obtain ⟨hdg, rfl⟩ := zdec hM hd
  have kk := kk p l e s m args below meth c E H locs la C hl hP hD hS
  have kk2 := kk
  simp only [List.map_cons, zcv, zi2b, zof32] at kk2
  exact lv_i2b hx hb hdg rfl kk2
theorem zw_i2s {x : Int} (hM : zOK M) (hd : zlook (mTbl M) pc = some (.i2s, 1, nx))  (kk : AW M nx ls (vi (zi2s x) :: st) mem Q) : AW M pc ls (vi x :: st) mem Q := by
  intro p l e s m args below meth c E H locs la C hl hP hD hS
  obtain ⟨hx, hb, hr, hml, hown, hts, hlk, hK, hN⟩ := id C
  obtain ⟨hdg, rfl⟩ := zdec hM hd
  have kk := kk p l e s m args below meth c E H locs la C hl hP hD hS
  have kk2 := kk
  simp only [List.map_cons, zcv, zi2s, zof32] at kk2
  exact lv_i2s hx hb hdg rfl kk2
theorem zw_i2l {x : Int} (hM : zOK M) (hd : zlook (mTbl M) pc = some (.i2l, 1, nx)) (hq : -2147483648 ≤ x ∧ x < 2147483648) (kk : AW M nx ls (vl x :: st) mem Q) : AW M pc ls (vi x :: st) mem Q := by
  intro p l e s m args below meth c E H locs la C hl hP hD hS
  obtain ⟨hx, hb, hr, hml, hown, hts, hlk, hK, hN⟩ := id C
  obtain ⟨hdg, rfl⟩ := zdec hM hd
  have kk := kk p l e s m args below meth c E H locs la C hl hP hD hS
  exact lv_i2l hx hb hdg (by apply Int64.toInt_inj.mp; rw [Int32.toInt_toInt64, zto32 hq, zto64 (by omega)]) kk
theorem zw_lcmp {x y : Int} (hM : zOK M) (hd : zlook (mTbl M) pc = some (.lcmp, 1, nx)) (hq : (-9223372036854775808 ≤ x ∧ x < 9223372036854775808) ∧ (-9223372036854775808 ≤ y ∧ y < 9223372036854775808)) (kk : AW M nx ls (vi (if x < y then -1 else if x = y then 0 else 1) :: st) mem Q) : AW M pc ls (vl y :: vl x :: st) mem Q := by
  intro p l e s m args below meth c E H locs la C hl hP hD hS
  obtain ⟨hx, hb, hr, hml, hown, hts, hlk, hK, hN⟩ := id C
  obtain ⟨hdg, rfl⟩ := zdec hM hd
  have kk := kk p l e s m args below meth c E H locs la C hl hP hD hS
  have e1 : Int32.ofInt (if x < y then -1 else if x = y then 0 else 1) = lg_cmp (Int64.ofInt x) (Int64.ofInt y) := by
    have q1 : Int64.ofInt y < Int64.ofInt x ↔ y < x := by rw [Int64.lt_iff_toInt_lt, zto64 hq.1, zto64 hq.2]
    have q2 : Int64.ofInt x = Int64.ofInt y ↔ x = y := by rw [← Int64.toInt_inj, zto64 hq.1, zto64 hq.2]
    unfold lg_cmp
    simp only [q1, q2]
    by_cases h1 : x < y
    · rw [if_pos h1, if_neg (by omega), if_neg (by omega)]; rfl
    · by_cases h2 : x = y
      · rw [if_neg h1, if_pos h2, if_neg (by omega), if_pos h2]; rfl
      · rw [if_neg h1, if_neg h2, if_pos (by omega)]; rfl
  have kk2 := kk
  simp only [List.map_cons, zcv] at kk2
  rw [e1] at kk2
  exact W.lcmp hx hb hdg kk2
theorem zw_dupi {x : Int} (hM : zOK M) (hd : zlook (mTbl M) pc = some (.dup, 1, nx))  (kk : AW M nx ls (vi x :: vi x :: st) mem Q) : AW M pc ls (vi x :: st) mem Q := by
  intro p l e s m args below meth c E H locs la C hl hP hD hS
  obtain ⟨hx, hb, hr, hml, hown, hts, hlk, hK, hN⟩ := id C
  obtain ⟨hdg, rfl⟩ := zdec hM hd
  have kk := kk p l e s m args below meth c E H locs la C hl hP hD hS
  exact lv_dup hx hb hdg rfl kk
theorem zw_dupr {x : Nat} (hM : zOK M) (hd : zlook (mTbl M) pc = some (.dup, 1, nx))  (kk : AW M nx ls (vr x :: vr x :: st) mem Q) : AW M pc ls (vr x :: st) mem Q := by
  intro p l e s m args below meth c E H locs la C hl hP hD hS
  obtain ⟨hx, hb, hr, hml, hown, hts, hlk, hK, hN⟩ := id C
  obtain ⟨hdg, rfl⟩ := zdec hM hd
  have kk := kk p l e s m args below meth c E H locs la C hl hP hD hS
  exact lv_dup hx hb hdg rfl kk
theorem zw_popi {x : Int} (hM : zOK M) (hd : zlook (mTbl M) pc = some (.pop, 1, nx))  (kk : AW M nx ls (st) mem Q) : AW M pc ls (vi x :: st) mem Q := by
  intro p l e s m args below meth c E H locs la C hl hP hD hS
  obtain ⟨hx, hb, hr, hml, hown, hts, hlk, hK, hN⟩ := id C
  obtain ⟨hdg, rfl⟩ := zdec hM hd
  have kk := kk p l e s m args below meth c E H locs la C hl hP hD hS
  exact lv_pop hx hb hdg rfl kk
theorem zw_dup2 {x : Int} {y : Nat} (hM : zOK M) (hd : zlook (mTbl M) pc = some (.dup2, 1, nx))  (kk : AW M nx ls (vi x :: vr y :: vi x :: vr y :: st) mem Q) : AW M pc ls (vi x :: vr y :: st) mem Q := by
  intro p l e s m args below meth c E H locs la C hl hP hD hS
  obtain ⟨hx, hb, hr, hml, hown, hts, hlk, hK, hN⟩ := id C
  obtain ⟨hdg, rfl⟩ := zdec hM hd
  have kk := kk p l e s m args below meth c E H locs la C hl hP hD hS
  exact lv_dup2_11 hx hb hdg rfl rfl kk
theorem zw_goto {off : Int} (tgt : Nat) (hM : zOK M) (hd : zlook (mTbl M) pc = some (.goto off, 3, nx)) (ht : (pc : Int) + off = (tgt : Int)) (kk : AW M tgt ls st mem Q) : AW M pc ls st mem Q := by
  intro p l e s m args below meth c E H locs la C hl hP hD hS
  obtain ⟨hx, hb, hr, hml, hown, hts, hlk, hK, hN⟩ := id C
  exact lv_goto hx hb (zdec hM hd).1 ht (kk p l e s m args below meth c E H locs la C hl hP hD hS)
theorem zw_icmp_eq {x y : Int} {off : Int} (tgt : Nat) (hM : zOK M) (hd : zlook (mTbl M) pc = some (.if_icmp .eq off, 3, nx)) (ht : (pc : Int) + off = (tgt : Int)) (hq : (-2147483648 ≤ x ∧ x < 2147483648) ∧ (-2147483648 ≤ y ∧ y < 2147483648)) (kt : x = y → AW M tgt ls st mem Q) (kf : ¬ (x = y) → AW M nx ls st mem Q) : AW M pc ls (vi y :: vi x :: st) mem Q := by
  intro p l e s m args below meth c E H locs la C hl hP hD hS
  obtain ⟨hx, hb, hr, hml, hown, hts, hlk, hK, hN⟩ := id C
  obtain ⟨hdg, rfl⟩ := zdec hM hd
  have e1 : (Int32.ofInt x = Int32.ofInt y) ↔ (x = y) := by rw [← Int32.toInt_inj, zto32 hq.1, zto32 hq.2]
  exact lv_icmp_eq hx hb hdg ht (fun h => kt (e1.mp h) p l e s m args below meth c E H locs la C hl hP hD hS) (fun h => kf (fun q => h (e1.mpr q)) p l e s m args below meth c E H locs la C hl hP hD hS)
theorem zw_if_eq {x : Int} {off : Int} (tgt : Nat) (hM : zOK M) (hd : zlook (mTbl M) pc = some (.ifCond .eq off, 3, nx)) (ht : (pc : Int) + off = (tgt : Int)) (hq : (-2147483648 ≤ x ∧ x < 2147483648)) (kt : x = 0 → AW M tgt ls st mem Q) (kf : ¬ (x = 0) → AW M nx ls st mem Q) : AW M pc ls (vi x :: st) mem Q := by
  intro p l e s m args below meth c E H locs la C hl hP hD hS
  obtain ⟨hx, hb, hr, hml, hown, hts, hlk, hK, hN⟩ := id C
  obtain ⟨hdg, rfl⟩ := zdec hM hd
  have e1 : (Int32.ofInt x = (0 : Int32)) ↔ (x = 0) := by rw [← Int32.toInt_inj, zto32 hq, Int32.toInt_zero]
  exact lv_if_eq hx hb hdg ht (fun h => kt (e1.mp h) p l e s m args below meth c E H locs la C hl hP hD hS) (fun h => kf (fun q => h (e1.mpr q)) p l e s m args below meth c E H locs la C hl hP hD hS)
theorem zw_icmp_ne {x y : Int} {off : Int} (tgt : Nat) (hM : zOK M) (hd : zlook (mTbl M) pc = some (.if_icmp .ne off, 3, nx)) (ht : (pc : Int) + off = (tgt : Int)) (hq : (-2147483648 ≤ x ∧ x < 2147483648) ∧ (-2147483648 ≤ y ∧ y < 2147483648)) (kt : ¬ x = y → AW M tgt ls st mem Q) (kf : x = y → AW M nx ls st mem Q) : AW M pc ls (vi y :: vi x :: st) mem Q := by
  intro p l e s m args below meth c E H locs la C hl hP hD hS
  obtain ⟨hx, hb, hr, hml, hown, hts, hlk, hK, hN⟩ := id C
  obtain ⟨hdg, rfl⟩ := zdec hM hd
  have e1 : (¬ Int32.ofInt x = Int32.ofInt y) ↔ (¬ x = y) := by rw [← Int32.toInt_inj, zto32 hq.1, zto32 hq.2]
  exact lv_icmp_ne hx hb hdg ht (fun h => kt (e1.mp h) p l e s m args below meth c E H locs la C hl hP hD hS) (fun h => kf (Decidable.of_not_not (fun q => (e1.mpr q) h)) p l e s m args below meth c E H locs la C hl hP hD hS)
theorem zw_if_ne {x : Int} {off : Int} (tgt : Nat) (hM : zOK M) (hd : zlook (mTbl M) pc = some (.ifCond .ne off, 3, nx)) (ht : (pc : Int) + off = (tgt : Int)) (hq : (-2147483648 ≤ x ∧ x < 2147483648)) (kt : ¬ x = 0 → AW M tgt ls st mem Q) (kf : x = 0 → AW M nx ls st mem Q) : AW M pc ls (vi x :: st) mem Q := by
  intro p l e s m args below meth c E H locs la C hl hP hD hS
  obtain ⟨hx, hb, hr, hml, hown, hts, hlk, hK, hN⟩ := id C
  obtain ⟨hdg, rfl⟩ := zdec hM hd
  have e1 : (¬ Int32.ofInt x = (0 : Int32)) ↔ (¬ x = 0) := by rw [← Int32.toInt_inj, zto32 hq, Int32.toInt_zero]
  exact lv_if_ne hx hb hdg ht (fun h => kt (e1.mp h) p l e s m args below meth c E H locs la C hl hP hD hS) (fun h => kf (Decidable.of_not_not (fun q => (e1.mpr q) h)) p l e s m args below meth c E H locs la C hl hP hD hS)
theorem zw_icmp_lt {x y : Int} {off : Int} (tgt : Nat) (hM : zOK M) (hd : zlook (mTbl M) pc = some (.if_icmp .lt off, 3, nx)) (ht : (pc : Int) + off = (tgt : Int)) (hq : (-2147483648 ≤ x ∧ x < 2147483648) ∧ (-2147483648 ≤ y ∧ y < 2147483648)) (kt : x < y → AW M tgt ls st mem Q) (kf : ¬ (x < y) → AW M nx ls st mem Q) : AW M pc ls (vi y :: vi x :: st) mem Q := by
  intro p l e s m args below meth c E H locs la C hl hP hD hS
  obtain ⟨hx, hb, hr, hml, hown, hts, hlk, hK, hN⟩ := id C
  obtain ⟨hdg, rfl⟩ := zdec hM hd
  have e1 : (Int32.ofInt x < Int32.ofInt y) ↔ (x < y) := by rw [Int32.lt_iff_toInt_lt, zto32 hq.1, zto32 hq.2]
  exact lv_icmp_lt hx hb hdg ht (fun h => kt (e1.mp h) p l e s m args below meth c E H locs la C hl hP hD hS) (fun h => kf (fun q => h (e1.mpr q)) p l e s m args below meth c E H locs la C hl hP hD hS)
theorem zw_if_lt {x : Int} {off : Int} (tgt : Nat) (hM : zOK M) (hd : zlook (mTbl M) pc = some (.ifCond .lt off, 3, nx)) (ht : (pc : Int) + off = (tgt : Int)) (hq : (-2147483648 ≤ x ∧ x < 2147483648)) (kt : x < 0 → AW M tgt ls st mem Q) (kf : ¬ (x < 0) → AW M nx ls st mem Q) : AW M pc ls (vi x :: st) mem Q := by
  intro p l e s m args below meth c E H locs la C hl hP hD hS
  obtain ⟨hx, hb, hr, hml, hown, hts, hlk, hK, hN⟩ := id C
  obtain ⟨hdg, rfl⟩ := zdec hM hd
  have e1 : (Int32.ofInt x < (0 : Int32)) ↔ (x < 0) := by rw [Int32.lt_iff_toInt_lt, zto32 hq, Int32.toInt_zero]
  exact lv_if_lt hx hb hdg ht (fun h => kt (e1.mp h) p l e s m args below meth c E H locs la C hl hP hD hS) (fun h => kf (fun q => h (e1.mpr q)) p l e s m args below meth c E H locs la C hl hP hD hS)
theorem zw_icmp_ge {x y : Int} {off : Int} (tgt : Nat) (hM : zOK M) (hd : zlook (mTbl M) pc = some (.if_icmp .ge off, 3, nx)) (ht : (pc : Int) + off = (tgt : Int)) (hq : (-2147483648 ≤ x ∧ x < 2147483648) ∧ (-2147483648 ≤ y ∧ y < 2147483648)) (kt : y ≤ x → AW M tgt ls st mem Q) (kf : ¬ (y ≤ x) → AW M nx ls st mem Q) : AW M pc ls (vi y :: vi x :: st) mem Q := by
  intro p l e s m args below meth c E H locs la C hl hP hD hS
  obtain ⟨hx, hb, hr, hml, hown, hts, hlk, hK, hN⟩ := id C
  obtain ⟨hdg, rfl⟩ := zdec hM hd
  have e1 : (Int32.ofInt y ≤ Int32.ofInt x) ↔ (y ≤ x) := by rw [Int32.le_iff_toInt_le, zto32 hq.1, zto32 hq.2]
  exact lv_icmp_ge hx hb hdg ht (fun h => kt (e1.mp h) p l e s m args below meth c E H locs la C hl hP hD hS) (fun h => kf (fun q => h (e1.mpr q)) p l e s m args below meth c E H locs la C hl hP hD hS)
theorem zw_if_ge {x : Int} {off : Int} (tgt : Nat) (hM : zOK M) (hd : zlook (mTbl M) pc = some (.ifCond .ge off, 3, nx)) (ht : (pc : Int) + off = (tgt : Int)) (hq : (-2147483648 ≤ x ∧ x < 2147483648)) (kt : 0 ≤ x → AW M tgt ls st mem Q) (kf : ¬ (0 ≤ x) → AW M nx ls st mem Q) : AW M pc ls (vi x :: st) mem Q := by
  intro p l e s m args below meth c E H locs la C hl hP hD hS
  obtain ⟨hx, hb, hr, hml, hown, hts, hlk, hK, hN⟩ := id C
  obtain ⟨hdg, rfl⟩ := zdec hM hd
  have e1 : ((0 : Int32) ≤ Int32.ofInt x) ↔ (0 ≤ x) := by rw [Int32.le_iff_toInt_le, zto32 hq, Int32.toInt_zero]
  exact lv_if_ge hx hb hdg ht (fun h => kt (e1.mp h) p l e s m args below meth c E H locs la C hl hP hD hS) (fun h => kf (fun q => h (e1.mpr q)) p l e s m args below meth c E H locs la C hl hP hD hS)
theorem zw_icmp_gt {x y : Int} {off : Int} (tgt : Nat) (hM : zOK M) (hd : zlook (mTbl M) pc = some (.if_icmp .gt off, 3, nx)) (ht : (pc : Int) + off = (tgt : Int)) (hq : (-2147483648 ≤ x ∧ x < 2147483648) ∧ (-2147483648 ≤ y ∧ y < 2147483648)) (kt : y < x → AW M tgt ls st mem Q) (kf : ¬ (y < x) → AW M nx ls st mem Q) : AW M pc ls (vi y :: vi x :: st) mem Q := by
  intro p l e s m args below meth c E H locs la C hl hP hD hS
  obtain ⟨hx, hb, hr, hml, hown, hts, hlk, hK, hN⟩ := id C
  obtain ⟨hdg, rfl⟩ := zdec hM hd
  have e1 : (Int32.ofInt y < Int32.ofInt x) ↔ (y < x) := by rw [Int32.lt_iff_toInt_lt, zto32 hq.1, zto32 hq.2]
  exact lv_icmp_gt hx hb hdg ht (fun h => kt (e1.mp h) p l e s m args below meth c E H locs la C hl hP hD hS) (fun h => kf (fun q => h (e1.mpr q)) p l e s m args below meth c E H locs la C hl hP hD hS)
theorem zw_if_gt {x : Int} {off : Int} (tgt : Nat) (hM : zOK M) (hd : zlook (mTbl M) pc = some (.ifCond .gt off, 3, nx)) (ht : (pc : Int) + off = (tgt : Int)) (hq : (-2147483648 ≤ x ∧ x < 2147483648)) (kt : 0 < x → AW M tgt ls st mem Q) (kf : ¬ (0 < x) → AW M nx ls st mem Q) : AW M pc ls (vi x :: st) mem Q := by
  intro p l e s m args below meth c E H locs la C hl hP hD hS
  obtain ⟨hx, hb, hr, hml, hown, hts, hlk, hK, hN⟩ := id C
  obtain ⟨hdg, rfl⟩ := zdec hM hd
  have e1 : ((0 : Int32) < Int32.ofInt x) ↔ (0 < x) := by rw [Int32.lt_iff_toInt_lt, zto32 hq, Int32.toInt_zero]
  exact lv_if_gt hx hb hdg ht (fun h => kt (e1.mp h) p l e s m args below meth c E H locs la C hl hP hD hS) (fun h => kf (fun q => h (e1.mpr q)) p l e s m args below meth c E H locs la C hl hP hD hS)
theorem zw_icmp_le {x y : Int} {off : Int} (tgt : Nat) (hM : zOK M) (hd : zlook (mTbl M) pc = some (.if_icmp .le off, 3, nx)) (ht : (pc : Int) + off = (tgt : Int)) (hq : (-2147483648 ≤ x ∧ x < 2147483648) ∧ (-2147483648 ≤ y ∧ y < 2147483648)) (kt : x ≤ y → AW M tgt ls st mem Q) (kf : ¬ (x ≤ y) → AW M nx ls st mem Q) : AW M pc ls (vi y :: vi x :: st) mem Q := by
  intro p l e s m args below meth c E H locs la C hl hP hD hS
  obtain ⟨hx, hb, hr, hml, hown, hts, hlk, hK, hN⟩ := id C
  obtain ⟨hdg, rfl⟩ := zdec hM hd
  have e1 : (Int32.ofInt x ≤ Int32.ofInt y) ↔ (x ≤ y) := by rw [Int32.le_iff_toInt_le, zto32 hq.1, zto32 hq.2]
  exact lv_icmp_le hx hb hdg ht (fun h => kt (e1.mp h) p l e s m args below meth c E H locs la C hl hP hD hS) (fun h => kf (fun q => h (e1.mpr q)) p l e s m args below meth c E H locs la C hl hP hD hS)
theorem zw_if_le {x : Int} {off : Int} (tgt : Nat) (hM : zOK M) (hd : zlook (mTbl M) pc = some (.ifCond .le off, 3, nx)) (ht : (pc : Int) + off = (tgt : Int)) (hq : (-2147483648 ≤ x ∧ x < 2147483648)) (kt : x ≤ 0 → AW M tgt ls st mem Q) (kf : ¬ (x ≤ 0) → AW M nx ls st mem Q) : AW M pc ls (vi x :: st) mem Q := by
  intro p l e s m args below meth c E H locs la C hl hP hD hS
  obtain ⟨hx, hb, hr, hml, hown, hts, hlk, hK, hN⟩ := id C
  obtain ⟨hdg, rfl⟩ := zdec hM hd
  have e1 : (Int32.ofInt x ≤ (0 : Int32)) ↔ (x ≤ 0) := by rw [Int32.le_iff_toInt_le, zto32 hq, Int32.toInt_zero]
  exact lv_if_le hx hb hdg ht (fun h => kt (e1.mp h) p l e s m args below meth c E H locs la C hl hP hD hS) (fun h => kf (fun q => h (e1.mpr q)) p l e s m args below meth c E H locs la C hl hP hD hS)
end ZW2
