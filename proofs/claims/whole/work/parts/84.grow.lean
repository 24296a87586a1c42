/-! ===== constructors: a machine whose world grows ===== -/
abbrev gF : Type := va_G × (ClassId × ClassId × ClassId)
def gTys (F : gF) : List (ClassId × FieldType) := [(F.2.1, .int), (F.2.2.1, .long), (F.2.2.2, .object "LowerBows$Sheet")]
def gNw (U : State) : Prop := (va_Nw (.methodLinkNest RX10 23 yX4_init "LowerBows") U ∧ va_Nw (.methodLinkNest RX10 95 yX6_init "LowerBows") U) ∧ va_AO "LowerBows$Sheet" U
theorem gNw.warm {s U : State} (hW : s.WarmedH U.vm) (h : gNw s) : gNw U := ⟨⟨va_Nw.warmM hW h.1.1, va_Nw.warmM hW h.1.2⟩, va_AO.moved hW.alike h.2⟩
theorem gNw.same {u U : State} (hv : u.vm = U.vm) (h : gNw u) : gNw U := ⟨⟨va_Nw.same rfl hv h.1.1, va_Nw.same rfl hv h.1.2⟩, va_AO.moved (by rw [hv]; exact Vm.Alike.refl U.vm) h.2⟩
def gCx (M : zMth) (p : Program) (s : State) (m : MethodId) (args : Array Value) (meth : Method) (c : Code) (F : gF) : Prop :=
  p.tables.exec = Jvm.exec ∧ c.code = mCode M ∧ meth.sig.returnType = mRet M ∧ c.maxLocals = mL M ∧ s.vm.findClass (mOwn M) = some m.cls ∧ (∀ w ∈ zws M, w.before args s = true) ∧ meth.locks = false ∧ meth.name = "<init>" ∧ va_K F.1 vwCl (gTys F) s ∧ gNw s
def gRm (M : zMth) (mc ms : Nat) : Room := { frames := mFr M, cells := mc, slots := ms, locals := mLo M }
def gQc (F : gF) (A : Nat → Prop) (Q : va_W → Prop) : Array Value → State → Outcome → State → Prop := va_Qv Q (fun ws t => va_P F.1 vwCl ws t.heap ∧ va_D A ws) A
def GW (M : zMth) (F : gF) (A : Nat → Prop) (mc ms pc : Nat) (ls : List (Nat × Value)) (st : List Value) (ws : va_W) (k n : Nat) (Q : va_W → Prop) : Prop :=
  ∀ (p : Program) (l : Launch) (e : Env) (s : State) (m : MethodId) (args : Array Value) (below : List Frame) (meth : Method) (c : Code) (H : Heap) (locs : List Loc) (la : Array Slot),
    gCx M p s m args meth c F → lv_has la (mL M) ls → va_P F.1 vwCl ws H → va_D A ws → va_S A s.heap H locs → (∀ q, s.heap.size ≤ q → A q) →
    W p l e (gRm M mc ms) s m args below meth c H locs k n (MQ below (gQc F A Q) args s mc ms A) (F0 m pc la st)
def gPc (F : gF) (av : List Value) (ws : va_W) (sz : Nat) : Array Value → State → Prop := va_Pc av (fun U => U.heap.size = sz ∧ va_P F.1 vwCl ws U.heap ∧ va_K F.1 vwCl (gTys F) U ∧ va_D (fun _ => True) ws ∧ gNw U)
/-- the constructor, called with these arguments in a world with these cells, returns with Q; it makes mc cells of ms slots -/
def gCt (M : zMth) (F : gF) (av : List Value) (ws : va_W) (mc ms : Nat) (Q : va_W → Prop) : Prop :=
  ∀ (l : Launch) (sz : Nat), Met l (mY M) (zws M) (gRm M mc ms) (gPc F av ws sz) (gQc F (va_A ws sz) Q) mc ms (va_A ws sz)
theorem gCt.of {M : zMth} {F : gF} {av : List Value} {ws : va_W} {mc ms : Nat} {Q : va_W → Prop} {ls : List (Nat × Value)} (hM : zOK M) (hin : (mY M).name = "<init>") (hn : (lg_sl av).length ≤ mL M) (hls : lv_args 0 av = ls) (h : ∀ A, GW M F A mc ms 0 ls [] ws 0 0 Q) : gCt M F av ws mc ms Q := by
  intro l sz
  subst hls
  refine Met.ofW (cc := mCode M) (maxL := mL M) (ret := mRet M) hM.2.1 rfl ?_
  intro p e s m args below meth c s₁ B hml hv
  obtain ⟨rfl, hsz, hP, hK, hD0, hN⟩ := hv
  subst hsz
  have hl := lv_entry av (n := mL M) hn
  rw [lg_entry_eq]
  generalize (lg_sl av ++ List.replicate (mL M - (lg_sl av).length) Slot.unset).toArray = la at hl ⊢
  have hnm : meth.name = "<init>" := ((name_of_methodNamed B.named B.method).1).trans hin
  have C : gCx M p s m av.toArray meth c F := ⟨B.exec, B.bytes, B.returns, hml, by rw [hM.2.2.1]; exact findClass_of_methodNamed B.named, atoms_spec (ws := zws M) B.pre, B.notSynchronized, hnm, hK, hN⟩
  exact h (va_A ws s.heap.size) p l e s m _ below meth c s.heap [] la C hl hP hD0.self va_S.rf (fun q hq => Or.inr hq)
theorem gblind {F : gF} {av : List Value} {ws : va_W} {sz : Nat} : FrameBlind (gPc F av ws sz) := fun a U g mk q => by
  obtain ⟨q0, q1, q2, q3, q4, q5⟩ := q
  exact ⟨q0, q1, q2, va_K.moved (u := U) (U := U.calling g mk a) (Vm.Alike.refl U.vm) q3, q4, gNw.same rfl q5⟩
theorem gKi {F : gF} {s : State} {cA : ClassId} (hK : va_K F.1 vwCl (gTys F) s) (h : va_K F.1 vwCl (gTys F ++ [(cA, .int)]) s) : cA = F.2.1 := by
  have a : s.vm.findClass ("[" ++ FieldType.int.toString) = some cA := (h.2 3 (cA, .int) rfl).2
  have b : s.vm.findClass ("[" ++ FieldType.int.toString) = some F.2.1 := (hK.2 0 (F.2.1, .int) rfl).2
  exact Option.some.inj (a.symm.trans b)
theorem gKl {F : gF} {s : State} {cA : ClassId} (hK : va_K F.1 vwCl (gTys F) s) (h : va_K F.1 vwCl (gTys F ++ [(cA, .long)]) s) : cA = F.2.2.1 := by
  have a : s.vm.findClass ("[" ++ FieldType.long.toString) = some cA := (h.2 3 (cA, .long) rfl).2
  have b : s.vm.findClass ("[" ++ FieldType.long.toString) = some F.2.2.1 := (hK.2 1 (F.2.2.1, .long) rfl).2
  exact Option.some.inj (a.symm.trans b)
theorem gKq {F : gF} {s : State} {cA : ClassId} (hK : va_K F.1 vwCl (gTys F) s) (h : va_K F.1 vwCl (gTys F ++ [(cA, .object "LowerBows$Sheet")]) s) : cA = F.2.2.2 := by
  obtain ⟨-, -, -, -, -, -, a⟩ := h.2 3 (cA, .object "LowerBows$Sheet") rfl
  obtain ⟨-, -, -, -, -, -, b⟩ := hK.2 2 (F.2.2.2, .object "LowerBows$Sheet") rfl
  exact Option.some.inj (a.symm.trans b)
/-- a constructor by its pool entry -/
def gLI (own : String) (idx : Nat) (M' : zMth) (n : Nat) : Prop := (Cond.methodLink own idx (mY M') ∈ zALL ∧ Cond.instanceMethod (mY M') ∈ zALL) ∧ Cond.initialized (mY M').cls ∈ zALL ∧ ((mY M').name = "<init>" ∧ mRet M' = none) ∧ zplain (mY M') n
def gLN (M' : zMth) (n : Nat) : Prop := Cond.instanceMethod (mY M') ∈ zALL ∧ Cond.initialized (mY M').cls ∈ zALL ∧ ((mY M').name = "<init>" ∧ mRet M' = none) ∧ zplain (mY M') n
def gLO (own : String) (idx : Nat) : Prop := Cond.methodLink own idx objectInit ∈ zALL ∧ Cond.instanceMethod objectInit ∈ zALL ∧ Cond.code objectInit ⟨#[0xb1]⟩ 1 none ∈ zALL
def gLC (own : String) (idx : Nat) (C : String) (N : Nat) : Prop := Cond.classLink own idx C ∈ zALL ∧ Cond.instantiable C N ∈ zALL ∧ Cond.initialized C ∈ zALL
/-- a field to be put: class ci, place j, final or not -/
def gFP (own : String) (idx ci j : Nat) (ty : FieldType) (fin : Bool) : Prop := ∃ (C : String) (T : u_T) (N : Nat), vwCl[ci]? = some (C, T, N) ∧ j < N ∧ Cond.fieldLink own idx (T j).1 (T j).2.1 (T j).2.2.1 ∈ zALL ∧ (T j).2.2.2 = fin ∧ (T j).1 = own ∧ parseFieldDescriptor (T j).2.2.1 = some ty
section GWR
variable {M : zMth} {F : gF} {A : Nat → Prop} {mc ms pc nx : Nat} {ls ls' : List (Nat × Value)} {st : List Value} {ws ws' : va_W} {k n : Nat} {Q : va_W → Prop}
theorem gw_aload_n {j : Fin 4} {a : Nat} (i : Nat) (hM : zOK M) (hd : zlook (mTbl M) pc = some (.aload_n j, 1, nx)) (hv : ls[i]? = some ((j : Nat), .ref a)) (kk : GW M F A mc ms nx ls (.ref a :: st) ws k n Q) : GW M F A mc ms pc ls st ws k n Q := by
  intro p l e s m args below meth c H locs la C hl hP hD hS hA
  obtain ⟨hx, hb, hr, hml, hown, hts, hlk, hnm, hK, hN⟩ := id C
  obtain ⟨hdg, rfl⟩ := zdec hM hd
  have hts' : ∀ w ∈ zALL, w.before args s = true := fun w hw => hts w (List.mem_cons_of_mem _ hw)
  exact lv_aload_n hx hb hdg rfl (lv_at hl i hv) (kk p l e s m args below meth c H locs la C hl hP hD hS hA)
theorem gw_aload {j a : Nat} (i : Nat) (hM : zOK M) (hd : zlook (mTbl M) pc = some (.aload j, 2, nx)) (hv : ls[i]? = some (j, .ref a)) (kk : GW M F A mc ms nx ls (.ref a :: st) ws k n Q) : GW M F A mc ms pc ls st ws k n Q := by
  intro p l e s m args below meth c H locs la C hl hP hD hS hA
  obtain ⟨hx, hb, hr, hml, hown, hts, hlk, hnm, hK, hN⟩ := id C
  obtain ⟨hdg, rfl⟩ := zdec hM hd
  have hts' : ∀ w ∈ zALL, w.before args s = true := fun w hw => hts w (List.mem_cons_of_mem _ hw)
  exact lv_aload hx hb hdg (lv_at hl i hv) (kk p l e s m args below meth c H locs la C hl hP hD hS hA)
theorem gw_iload_n {j : Fin 4} {x : Int32} (i : Nat) (hM : zOK M) (hd : zlook (mTbl M) pc = some (.iload_n j, 1, nx)) (hv : ls[i]? = some ((j : Nat), .int x)) (kk : GW M F A mc ms nx ls (.int x :: st) ws k n Q) : GW M F A mc ms pc ls st ws k n Q := by
  intro p l e s m args below meth c H locs la C hl hP hD hS hA
  obtain ⟨hx, hb, hr, hml, hown, hts, hlk, hnm, hK, hN⟩ := id C
  obtain ⟨hdg, rfl⟩ := zdec hM hd
  have hts' : ∀ w ∈ zALL, w.before args s = true := fun w hw => hts w (List.mem_cons_of_mem _ hw)
  exact lv_iload_n hx hb hdg rfl (lv_at hl i hv) (kk p l e s m args below meth c H locs la C hl hP hD hS hA)
theorem gw_iconst {v : Int} (hM : zOK M) (hd : zlook (mTbl M) pc = some (.iconst v, 1, nx))  (kk : GW M F A mc ms nx ls (.int (Int32.ofInt v) :: st) ws k n Q) : GW M F A mc ms pc ls st ws k n Q := by
  intro p l e s m args below meth c H locs la C hl hP hD hS hA
  obtain ⟨hx, hb, hr, hml, hown, hts, hlk, hnm, hK, hN⟩ := id C
  obtain ⟨hdg, rfl⟩ := zdec hM hd
  have hts' : ∀ w ∈ zALL, w.before args s = true := fun w hw => hts w (List.mem_cons_of_mem _ hw)
  exact lv_iconst hx hb hdg rfl (kk p l e s m args below meth c H locs la C hl hP hD hS hA)
theorem gw_bipush {v : Int} (hM : zOK M) (hd : zlook (mTbl M) pc = some (.bipush v, 2, nx)) (hv : (Int8.ofInt v).toInt32 = Int32.ofInt v) (kk : GW M F A mc ms nx ls (.int (Int32.ofInt v) :: st) ws k n Q) : GW M F A mc ms pc ls st ws k n Q := by
  intro p l e s m args below meth c H locs la C hl hP hD hS hA
  obtain ⟨hx, hb, hr, hml, hown, hts, hlk, hnm, hK, hN⟩ := id C
  obtain ⟨hdg, rfl⟩ := zdec hM hd
  have hts' : ∀ w ∈ zALL, w.before args s = true := fun w hw => hts w (List.mem_cons_of_mem _ hw)
  exact lv_bipush hx hb hdg hv (kk p l e s m args below meth c H locs la C hl hP hD hS hA)
theorem gw_sipush {v : Int} (hM : zOK M) (hd : zlook (mTbl M) pc = some (.sipush v, 3, nx)) (hv : (Int16.ofInt v).toInt32 = Int32.ofInt v) (kk : GW M F A mc ms nx ls (.int (Int32.ofInt v) :: st) ws k n Q) : GW M F A mc ms pc ls st ws k n Q := by
  intro p l e s m args below meth c H locs la C hl hP hD hS hA
  obtain ⟨hx, hb, hr, hml, hown, hts, hlk, hnm, hK, hN⟩ := id C
  obtain ⟨hdg, rfl⟩ := zdec hM hd
  have hts' : ∀ w ∈ zALL, w.before args s = true := fun w hw => hts w (List.mem_cons_of_mem _ hw)
  exact lv_sipush hx hb hdg hv (kk p l e s m args below meth c H locs la C hl hP hD hS hA)
theorem gw_dup {a : Nat} (hM : zOK M) (hd : zlook (mTbl M) pc = some (.dup, 1, nx))  (kk : GW M F A mc ms nx ls (.ref a :: .ref a :: st) ws k n Q) : GW M F A mc ms pc ls (.ref a :: st) ws k n Q := by
  intro p l e s m args below meth c H locs la C hl hP hD hS hA
  obtain ⟨hx, hb, hr, hml, hown, hts, hlk, hnm, hK, hN⟩ := id C
  obtain ⟨hdg, rfl⟩ := zdec hM hd
  have hts' : ∀ w ∈ zALL, w.before args s = true := fun w hw => hts w (List.mem_cons_of_mem _ hw)
  exact lv_dup hx hb hdg rfl (kk p l e s m args below meth c H locs la C hl hP hD hS hA)
theorem gw_obj {a idx : Nat} (hM : zOK M) (hd : zlook (mTbl M) pc = some (.invokespecial idx, 3, nx)) (hL : gLO (mOwn M) idx) (hR : 1 ≤ mFr M ∧ (st.map fun v => v.category).sum + 12 ≤ mLo M) (kk : GW M F A mc ms nx ls st ws k n Q) : GW M F A mc ms pc ls (.ref a :: st) ws k n Q := by
  intro p l e s m args below meth c H locs la C hl hP hD hS hA
  obtain ⟨hx, hb, hr, hml, hown, hts, hlk, hnm, hK, hN⟩ := id C
  obtain ⟨hdg, rfl⟩ := zdec hM hd
  have hts' : ∀ w ∈ zALL, w.before args s = true := fun w hw => hts w (List.mem_cons_of_mem _ hw)
  exact W.objInit hx hb hown (hts' _ hL.1) (hts' _ hL.2.1) (hts' _ hL.2.2) rfl (by rw [hml]; exact hl.1) rfl hdg hR.1 (by show 2 * 0 + _ + 12 ≤ mLo M; have := hR.2; omega) (kk p l e s m args below meth c H locs la C hl hP hD hS hA)
theorem gw_new {idx ci N : Nat} {C0 : String} {T : u_T} {fs : List Value} {wq : Nat → va_W} (ty : Nat → FieldType) (hty : ∀ k, k < N → parseFieldDescriptor (T k).2.2.1 = some (ty k)) (hM : zOK M) (hd : zlook (mTbl M) pc = some (.new idx, 3, nx)) (hL : gLC (mOwn M) idx C0 N) (hc : vwCl[ci]? = some (C0, T, N)) (hfs : ∀ j, j < N → defaultValue (ty j) = vp_V fs j) (hk : k + 1 ≤ mc ∧ n + N ≤ ms) (hw : ∀ q, ws ++ [(q, .inr (ci, fs))] = wq q) (kk : ∀ q, GW M F A mc ms nx ls (.ref q :: st) (wq q) (k + 1) (n + N) Q) : GW M F A mc ms pc ls st ws k n Q := by
  intro p l e s m args below meth c H locs la C hl hP hD hS hA
  obtain ⟨hx, hb, hr, hml, hown, hts, hlk, hnm, hK, hN⟩ := id C
  obtain ⟨hdg, rfl⟩ := zdec hM hd
  have hts' : ∀ w ∈ zALL, w.before args s = true := fun w hw => hts w (List.mem_cons_of_mem _ hw)
  exact va_new (ci := ci) (fs := fs) (C := C0) (T := T) (N := N) hx hb hts' (zIn hc) ty hty hown (hts' _ hL.1) (hts' _ hL.2.1) (hts' _ hL.2.2) hK hP hD hS hA hc hfs hk.1 hk.2 hdg (fun q H1 hP1 hD1 hS1 => by rw [hw q] at hP1 hD1; exact kk q p l e s m args below meth c H1 locs la C hl hP1 hD1 hS1 hA)
theorem gw_newi {x : Int32} {N : Nat} {wq : Nat → va_W} (hM : zOK M) (hd : zlook (mTbl M) pc = some (.newarray .int, 2, nx)) (hL : Cond.arrayClass .int ∈ zALL) (hn : ¬ x < 0 ∧ x.toNatClampNeg = N) (hN : N ≤ 1000) (hk : k + 1 ≤ mc ∧ n + N ≤ ms) (hw : ∀ q, ws ++ [(q, .inl (F.2.1, N, .inl (fun _ => Int32.ofInt 0)))] = wq q) (kk : ∀ q, GW M F A mc ms nx ls (.ref q :: st) (wq q) (k + 1) (n + N) Q) : GW M F A mc ms pc ls (.int x :: st) ws k n Q := by
  intro p l e s m args below meth c H locs la C hl hP hD hS hA
  obtain ⟨hx, hb, hr, hml, hown, hts, hlk, hnm, hK, hN⟩ := id C
  obtain ⟨hdg, rfl⟩ := zdec hM hd
  have hts' : ∀ w ∈ zALL, w.before args s = true := fun w hw => hts w (List.mem_cons_of_mem _ hw)
  refine va_newa (atype := .int) (ty := .int) (a0 := (N, .inl (fun _ => Int32.ofInt 0))) hx hb (hts' _ hL) rfl hK hP hD hS hA (fun _ => rfl) hn.1 hn.2 (by show N * 4 ≤ _; omega) hk.1 hk.2 hdg (fun q cA H1 hK1 hP1 hD1 hS1 => ?_)
  have ec := gKi hK hK1
  subst ec
  rw [hw q] at hP1 hD1
  exact kk q p l e s m args below meth c H1 locs la C hl hP1 hD1 hS1 hA
theorem gw_newl {x : Int32} {N : Nat} {wq : Nat → va_W} (hM : zOK M) (hd : zlook (mTbl M) pc = some (.newarray .long, 2, nx)) (hL : Cond.arrayClass .long ∈ zALL) (hn : ¬ x < 0 ∧ x.toNatClampNeg = N) (hN : N ≤ 1000) (hk : k + 1 ≤ mc ∧ n + N ≤ ms) (hw : ∀ q, ws ++ [(q, .inl (F.2.2.1, N, .inr (.inl (fun _ => Int64.ofInt 0))))] = wq q) (kk : ∀ q, GW M F A mc ms nx ls (.ref q :: st) (wq q) (k + 1) (n + N) Q) : GW M F A mc ms pc ls (.int x :: st) ws k n Q := by
  intro p l e s m args below meth c H locs la C hl hP hD hS hA
  obtain ⟨hx, hb, hr, hml, hown, hts, hlk, hnm, hK, hN⟩ := id C
  obtain ⟨hdg, rfl⟩ := zdec hM hd
  have hts' : ∀ w ∈ zALL, w.before args s = true := fun w hw => hts w (List.mem_cons_of_mem _ hw)
  refine va_newa (atype := .long) (ty := .long) (a0 := (N, .inr (.inl (fun _ => Int64.ofInt 0)))) hx hb (hts' _ hL) rfl hK hP hD hS hA (fun _ => rfl) hn.1 hn.2 (by show N * 8 ≤ _; omega) hk.1 hk.2 hdg (fun q cA H1 hK1 hP1 hD1 hS1 => ?_)
  have ec := gKl hK hK1
  subst ec
  rw [hw q] at hP1 hD1
  exact kk q p l e s m args below meth c H1 locs la C hl hP1 hD1 hS1 hA
theorem gw_newq {x : Int32} {N idx : Nat} {wq : Nat → va_W} (hM : zOK M) (hd : zlook (mTbl M) pc = some (.anewarray idx, 3, nx)) (hL : Cond.classLink (mOwn M) idx "LowerBows$Sheet" ∈ zALL) (hn : ¬ x < 0 ∧ x.toNatClampNeg = N) (hN : N ≤ 1000) (hk : k + 1 ≤ mc ∧ n + N ≤ ms) (hw : ∀ q, ws ++ [(q, .inl (F.2.2.2, N, .inr (.inr (.inr (.inr (fun _ => none))))))] = wq q) (kk : ∀ q, GW M F A mc ms nx ls (.ref q :: st) (wq q) (k + 1) (n + N) Q) : GW M F A mc ms pc ls (.int x :: st) ws k n Q := by
  intro p l e s m args below meth c H locs la C hl hP hD hS hA
  obtain ⟨hx, hb, hr, hml, hown, hts, hlk, hnm, hK, hN⟩ := id C
  obtain ⟨hdg, rfl⟩ := zdec hM hd
  have hts' : ∀ w ∈ zALL, w.before args s = true := fun w hw => hts w (List.mem_cons_of_mem _ hw)
  refine va_newq hx hb hown (hts' _ hL) C.2.2.2.2.2.2.2.2.2.2 hK hP hD hS hA hn.1 hn.2 (by omega) hk.1 hk.2 hdg (fun q cA H1 hK1 hP1 hD1 hS1 => ?_)
  have ec := gKq hK hK1
  subst ec
  rw [hw q] at hP1 hD1
  exact kk q p l e s m args below meth c H1 locs la C hl hP1 hD1 hS1 hA
theorem gw_putF {idx ci j a : Nat} {ty : FieldType} {v : Value} {fs : List Value} (q0 : Nat) (hM : zOK M) (hd : zlook (mTbl M) pc = some (.putfield idx, 3, nx)) (hL : gFP (mOwn M) idx ci j ty true) (he : ws[q0]? = some (a, .inr (ci, fs))) (hv : (narrow ty v = v ∧ fits ty v = true) ∧ j < fs.length) (hw : ws.set q0 (a, .inr (ci, fs.set j v)) = ws') (kk : GW M F A mc ms nx ls st ws' k n Q) : GW M F A mc ms pc ls (v :: .ref a :: st) ws k n Q := by
  intro p l e s m args below meth c H locs la C hl hP hD hS hA
  obtain ⟨hx, hb, hr, hml, hown, hts, hlk, hnm, hK, hN⟩ := id C
  obtain ⟨hdg, rfl⟩ := zdec hM hd
  have hts' : ∀ w ∈ zALL, w.before args s = true := fun w hw => hts w (List.mem_cons_of_mem _ hw)
  obtain ⟨Cn, T, N, h1, h2, h3, h4, h5, h6⟩ := hL
  obtain ⟨ty0, ht0, hnm0⟩ := zTyp_all _ (List.mem_of_getElem? h1)
  exact va_putF hx hb hts' (zIn h1) ty0 ht0 hnm0 hown hK hP hD hS q0 he h1 j h2 (hts' _ h3) (fun _ h => h) h4 hnm h5 h6 hv.1.1 hv.1.2 hv.2 hdg (fun H1 locs1 hP1 hD1 hS1 => by rw [hw] at hP1 hD1; exact kk p l e s m args below meth c H1 locs1 la C hl hP1 hD1 hS1 hA)
theorem gw_put {idx ci j a : Nat} {ty : FieldType} {v : Value} {fs : List Value} (q0 : Nat) (hM : zOK M) (hd : zlook (mTbl M) pc = some (.putfield idx, 3, nx)) (hL : gFP (mOwn M) idx ci j ty false) (he : ws[q0]? = some (a, .inr (ci, fs))) (hv : (narrow ty v = v ∧ fits ty v = true) ∧ j < fs.length) (hw : ws.set q0 (a, .inr (ci, fs.set j v)) = ws') (kk : GW M F A mc ms nx ls st ws' k n Q) : GW M F A mc ms pc ls (v :: .ref a :: st) ws k n Q := by
  intro p l e s m args below meth c H locs la C hl hP hD hS hA
  obtain ⟨hx, hb, hr, hml, hown, hts, hlk, hnm, hK, hN⟩ := id C
  obtain ⟨hdg, rfl⟩ := zdec hM hd
  have hts' : ∀ w ∈ zALL, w.before args s = true := fun w hw => hts w (List.mem_cons_of_mem _ hw)
  obtain ⟨Cn, T, N, h1, h2, h3, h4, h5, h6⟩ := hL
  obtain ⟨ty0, ht0, hnm0⟩ := zTyp_all _ (List.mem_of_getElem? h1)
  exact va_put hx hb hts' (zIn h1) ty0 ht0 hnm0 hown hK hP hD hS q0 he h1 j h2 (hts' _ h3) (fun _ h => h) h4 h6 hv.1.1 hv.1.2 hv.2 hdg (fun H1 locs1 hP1 hD1 hS1 => by rw [hw] at hP1 hD1; exact kk p l e s m args below meth c H1 locs1 la C hl hP1 hD1 hS1 hA)
theorem gw_get {idx ci j a : Nat} {ji : Int} {v : Value} {fs : List Value} (q0 : Nat) (hM : zOK M) (hd : zlook (mTbl M) pc = some (.getfield idx, 3, nx)) (hL : zFL (mOwn M) idx ci j ji) (he : ws[q0]? = some (a, .inr (ci, fs))) (hv : fs[j]? = some v) (kk : GW M F A mc ms nx ls (v :: st) ws k n Q) : GW M F A mc ms pc ls (.ref a :: st) ws k n Q := by
  intro p l e s m args below meth c H locs la C hl hP hD hS hA
  obtain ⟨hx, hb, hr, hml, hown, hts, hlk, hnm, hK, hN⟩ := id C
  obtain ⟨hdg, rfl⟩ := zdec hM hd
  have hts' : ∀ w ∈ zALL, w.before args s = true := fun w hw => hts w (List.mem_cons_of_mem _ hw)
  obtain ⟨-, Cn, T, N, h1, h2, h3⟩ := hL
  exact va_get hx hb hts' (zIn h1) hown hK hP q0 he h1 j h2 (hts' _ h3) (fun _ h => h) hv hdg (kk p l e s m args below meth c H locs la C hl hP hD hS hA)
theorem gw_iast {a N : Nat} {f : Nat → Int32} {i x : Int32} (q0 : Nat) (hM : zOK M) (hd : zlook (mTbl M) pc = some (.iastore, 1, nx)) (he : ws[q0]? = some (a, .inl (F.2.1, N, .inl f))) (hi : vp_in i N) (hw : ws.set q0 (a, .inl (F.2.1, N, .inl (upd f i.toNatClampNeg x))) = ws') (kk : GW M F A mc ms nx ls st ws' k n Q) : GW M F A mc ms pc ls (.int x :: .int i :: .ref a :: st) ws k n Q := by
  intro p l e s m args below meth c H locs la C hl hP hD hS hA
  obtain ⟨hx, hb, hr, hml, hown, hts, hlk, hnm, hK, hN⟩ := id C
  obtain ⟨hdg, rfl⟩ := zdec hM hd
  have hts' : ∀ w ∈ zALL, w.before args s = true := fun w hw => hts w (List.mem_cons_of_mem _ hw)
  exact va_iast hx hb hK hP hD hS q0 0 he rfl hi hdg (fun H1 locs1 hP1 hD1 hS1 => by rw [hw] at hP1 hD1; exact kk p l e s m args below meth c H1 locs1 la C hl hP1 hD1 hS1 hA)
theorem gw_aast {a v N : Nat} {f : Nat → Option Nat} {i : Int32} {vs : List Value} (q0 qk : Nat) (hM : zOK M) (hd : zlook (mTbl M) pc = some (.aastore, 1, nx)) (he : ws[q0]? = some (a, .inl (F.2.2.2, N, .inr (.inr (.inr (.inr f)))))) (hv : ws[qk]? = some (v, .inr (6, vs))) (hi : vp_in i N) (hw : ws.set q0 (a, .inl (F.2.2.2, N, .inr (.inr (.inr (.inr (va_up f i.toNatClampNeg (some v))))))) = ws') (kk : GW M F A mc ms nx ls st ws' k n Q) : GW M F A mc ms pc ls (.ref v :: .int i :: .ref a :: st) ws k n Q := by
  intro p l e s m args below meth c H locs la C hl hP hD hS hA
  obtain ⟨hx, hb, hr, hml, hown, hts, hlk, hnm, hK, hN⟩ := id C
  obtain ⟨hdg, rfl⟩ := zdec hM hd
  have hts' : ∀ w ∈ zALL, w.before args s = true := fun w hw => hts w (List.mem_cons_of_mem _ hw)
  exact va_astq (r := (RX6, TX6, 4)) hx hb hK hP hD hS q0 2 qk 6 he rfl hv rfl hi hdg (fun H1 locs1 hP1 hD1 hS1 => by rw [hw] at hP1 hD1; exact kk p l e s m args below meth c H1 locs1 la C hl hP1 hD1 hS1 hA)
theorem gw_istore_n {j : Fin 4} {x : Int32} (hM : zOK M) (hd : zlook (mTbl M) pc = some (.istore_n j, 1, nx)) (hn : (j : Nat) < mL M) (hl2 : ((j : Nat), Value.int x) :: ls.filter (fun q => !(q.1 == (j : Nat)) && !(q.1 + 1 == (j : Nat) && q.2.category == 2)) = ls') (kk : GW M F A mc ms nx ls' st ws k n Q) : GW M F A mc ms pc ls (.int x :: st) ws k n Q := by
  intro p l e s m args below meth c H locs la C hl hP hD hS hA
  obtain ⟨hx, hb, hr, hml, hown, hts, hlk, hnm, hK, hN⟩ := id C
  obtain ⟨hdg, rfl⟩ := zdec hM hd
  have hts' : ∀ w ∈ zALL, w.before args s = true := fun w hw => hts w (List.mem_cons_of_mem _ hw)
  exact lv_istore_n hx hb hdg rfl hl hn hl2 (fun la' hl' => kk p l e s m args below meth c H locs la' C hl' hP hD hS hA)
theorem gw_iinc {j i : Nat} {d : Int} {x v : Int32} (hM : zOK M) (hd : zlook (mTbl M) pc = some (.iinc j d, 3, nx)) (hv : ls[i]? = some (j, .int x)) (he : x + Int32.ofInt d = v) (hn : j < mL M) (hl2 : (j, Value.int v) :: ls.filter (fun q => !(q.1 == j) && !(q.1 + 1 == j && q.2.category == 2)) = ls') (kk : GW M F A mc ms nx ls' st ws k n Q) : GW M F A mc ms pc ls st ws k n Q := by
  intro p l e s m args below meth c H locs la C hl hP hD hS hA
  obtain ⟨hx, hb, hr, hml, hown, hts, hlk, hnm, hK, hN⟩ := id C
  obtain ⟨hdg, rfl⟩ := zdec hM hd
  have hts' : ∀ w ∈ zALL, w.before args s = true := fun w hw => hts w (List.mem_cons_of_mem _ hw)
  exact lv_iinc (k := i) hx hb hdg hl hv he hn hl2 (fun la' hl' => kk p l e s m args below meth c H locs la' C hl' hP hD hS hA)
theorem gw_goto {off : Int} (tgt : Nat) (hM : zOK M) (hd : zlook (mTbl M) pc = some (.goto off, 3, nx)) (ht : (pc : Int) + off = (tgt : Int)) (kk : GW M F A mc ms tgt ls st ws k n Q) : GW M F A mc ms pc ls st ws k n Q := by
  intro p l e s m args below meth c H locs la C hl hP hD hS hA
  obtain ⟨hx, hb, hr, hml, hown, hts, hlk, hnm, hK, hN⟩ := id C
  obtain ⟨hdg, rfl⟩ := zdec hM hd
  have hts' : ∀ w ∈ zALL, w.before args s = true := fun w hw => hts w (List.mem_cons_of_mem _ hw)
  exact lv_goto hx hb hdg ht (kk p l e s m args below meth c H locs la C hl hP hD hS hA)
theorem gw_ge {off : Int} {x y : Int32} (tgt : Nat) (hM : zOK M) (hd : zlook (mTbl M) pc = some (.if_icmp .ge off, 3, nx)) (ht : (pc : Int) + off = (tgt : Int)) (kt : y ≤ x → GW M F A mc ms tgt ls st ws k n Q) (kf : ¬ y ≤ x → GW M F A mc ms nx ls st ws k n Q) : GW M F A mc ms pc ls (.int y :: .int x :: st) ws k n Q := by
  intro p l e s m args below meth c H locs la C hl hP hD hS hA
  obtain ⟨hx, hb, hr, hml, hown, hts, hlk, hnm, hK, hN⟩ := id C
  obtain ⟨hdg, rfl⟩ := zdec hM hd
  have hts' : ∀ w ∈ zALL, w.before args s = true := fun w hw => hts w (List.mem_cons_of_mem _ hw)
  exact lv_icmp_ge hx hb hdg ht (fun h => kt h p l e s m args below meth c H locs la C hl hP hD hS hA) (fun h => kf h p l e s m args below meth c H locs la C hl hP hD hS hA)
theorem gw_max {idx : Nat} {x y : Int32} (hM : zOK M) (hd : zlook (mTbl M) pc = some (.invokestatic idx, 3, nx)) (hL : zLM (mOwn M) idx Lib.Math.max.name Lib.Math.max.code 2) (hR : 1 ≤ mFr M ∧ (st.map fun v => v.category).sum + 13 ≤ mLo M) (hk : k ≤ mc ∧ n ≤ ms) (kk : GW M F A mc ms nx ls (.int (if x < y then y else x) :: st) ws k n Q) : GW M F A mc ms pc ls (.int y :: .int x :: st) ws k n Q := by
  intro p l e s m args below meth c H locs la C hl hP hD hS hA
  obtain ⟨hx, hb, hr, hml, hown, hts, hlk, hnm, hK, hN⟩ := id C
  obtain ⟨hdg, rfl⟩ := zdec hM hd
  have hts' : ∀ w ∈ zALL, w.before args s = true := fun w hw => hts w (List.mem_cons_of_mem _ hw)
  exact va_mmax hx hb (hml.trans hl.1.symm) hown (hts' _ hL.1) (hts' _ hL.2.1) (hts' _ hL.2.2.1) (hts' _ hL.2.2.2) hR.1 hR.2 hk.1 hk.2 hdg (kk p l e s m args below meth c H locs la C hl hP hD hS hA)
theorem gw_ret (hM : zOK M) (hd : zlook (mTbl M) pc = some (.return_, 1, nx)) (hret : mRet M = none) (hk : k ≤ mc ∧ n ≤ ms) (hq : Q ws) : GW M F A mc ms pc ls [] ws k n Q := by
  intro p l e s m args below meth c H locs la C hl hP hD hS hA
  obtain ⟨hx, hb, hr, hml, hown, hts, hlk, hnm, hK, hN⟩ := id C
  obtain ⟨hdg, rfl⟩ := zdec hM hd
  have hts' : ∀ w ∈ zALL, w.before args s = true := fun w hw => hts w (List.mem_cons_of_mem _ hw)
  refine W.widen (k := mc) (n := ms) hk.1 hk.2 ?_
  exact W.vret (free := A) hx hb (hr.trans hret) (fun t ht hW => ⟨⟨ws, rfl, hq, by rw [ht]; exact hP, hD⟩, hS.F ht⟩) hS.2.2 hdg hlk
theorem gw_sub {ls2 : List (Nat × Value)} (ks : List Nat) (h : lv_pick ls ks = ls2) (kk : GW M F A mc ms pc ls2 st ws k n Q) : GW M F A mc ms pc ls st ws k n Q := by
  intro p l e s m args below meth c H locs la C hl hP hD hS hA
  exact kk p l e s m args below meth c H locs la C (lv_sub hl ks h) hP hD hS hA
theorem gw_call {M' : zMth} {idx b nA mc' ms' : Nat} {As rest : List Value} {wc wr : va_W} {Q' : va_W → Prop} (isC isR : List Nat) (hM : zOK M) (hd : zlook (mTbl M) pc = some (.invokespecial idx, 3, nx)) (hM' : zOK M') (hL : gLI (mOwn M) idx M' nA) (hR : mFr M' + 1 ≤ mFr M ∧ 8 + (mL M' + 11) + mLo M' ≤ mLo M) (hst : st = As.reverse ++ .ref b :: rest) (hnA : As.length = nA) (hw8 : (rest.map fun v => v.category).sum ≤ 8) (hcs : k + mc' ≤ mc ∧ n + ms' ≤ ms) (hC : isC.map (fun i => ws[i]?) = wc.map some) (hC2 : isC.filterMap (fun i => ws[i]?) = wc) (hRr : isR.map (fun i => ws[i]?) = wr.map some) (hnd : va_nd isC = true ∧ va_nd isR = true) (hdis : ∀ i ∈ isR, i ∉ isC) (hCt : gCt M' F (.ref b :: As) wc mc' ms' Q') (kk : ∀ w1, Q' w1 → GW M F A mc ms nx ls rest (wr ++ w1) (k + mc') (n + ms') Q) : GW M F A mc ms pc ls st ws k n Q := by
  intro p l e s m args below meth c H locs la C hl hP hD hS hA
  obtain ⟨hx, hb, hr, hml, hown, hts, hlk, hnm, hK, hN⟩ := id C
  obtain ⟨hdg, rfl⟩ := zdec hM hd
  have hts' : ∀ w ∈ zALL, w.before args s = true := fun w hw => hts w (List.mem_cons_of_mem _ hw)
  subst hst
  have hPc := hP.sub (ws' := wc) isC hC2
  have hDc := hD.sub (ws' := wc) isC hnd.1 hC
  have hFc := va_free (wc := wc) hD hS hA isC hC
  obtain ⟨⟨l1, l2⟩, l3, ⟨l4, l5⟩, l6⟩ := hL
  have hzw : zws M' = Cond.code (mY M') (mCode M') (mL M') none :: zALL := by unfold zws; rw [l5]
  refine va_callv (va_runI (As := As) (rest := rest) ⟨hx, hb, hml, hown, hts⟩ (hCt l H.size) (cwI nA hts (zGood hM' (fun w hw => List.mem_cons_of_mem _ hw)) hzw rfl rfl (hts' _ l3) (hts' _ l1) (hts' _ l2) l4 l6 hR) ⟨gblind, fun U hU hW => ⟨rfl, by rw [hU], by rw [hU]; exact hPc, va_K.moved hW.alike hK, hDc.weaken (fun _ _ _ _ => trivial), hN.warm hW⟩⟩ rfl hnA hl.1 rfl (lv_room hw8) hdg ⟨hcs.1, hcs.2⟩) hS (fun q _ h => hFc q h) hFc (fun u t H1 locs1 ht hvm hw1 hB hz1 hk1 hS1 => ?_)
  obtain ⟨hP1, hD1⟩ := hB
  rw [ht] at hP1
  obtain ⟨hP2, hD2⟩ := va_join (wr := wr) (w1 := u) hP hD isC isR hC hRr hnd.2 hdis hk1 hFc hP1 hD1
  exact kk u hw1 p l e s m args below meth c H1 locs1 la C hl hP2 hD2 hS1 hA
theorem gw_callN {M' : zMth} {idx b nA mc' ms' : Nat} {As rest : List Value} {wc wr : va_W} {Q' : va_W → Prop} (isC isR : List Nat) (hM : zOK M) (hd : zlook (mTbl M) pc = some (.invokespecial idx, 3, nx)) (hM' : zOK M') (hL : gLN M' nA) (hNw : ∀ s, gNw s → va_Nw (.methodLinkNest (mOwn M) idx (mY M') "LowerBows") s) (hR : mFr M' + 1 ≤ mFr M ∧ 8 + (mL M' + 11) + mLo M' ≤ mLo M) (hst : st = As.reverse ++ .ref b :: rest) (hnA : As.length = nA) (hw8 : (rest.map fun v => v.category).sum ≤ 8) (hcs : k + mc' ≤ mc ∧ n + ms' ≤ ms) (hC : isC.map (fun i => ws[i]?) = wc.map some) (hC2 : isC.filterMap (fun i => ws[i]?) = wc) (hRr : isR.map (fun i => ws[i]?) = wr.map some) (hnd : va_nd isC = true ∧ va_nd isR = true) (hdis : ∀ i ∈ isR, i ∉ isC) (hCt : gCt M' F (.ref b :: As) wc mc' ms' Q') (kk : ∀ w1, Q' w1 → GW M F A mc ms nx ls rest (wr ++ w1) (k + mc') (n + ms') Q) : GW M F A mc ms pc ls st ws k n Q := by
  intro p l e s m args below meth c H locs la C hl hP hD hS hA
  obtain ⟨hx, hb, hr, hml, hown, hts, hlk, hnm, hK, hN⟩ := id C
  obtain ⟨hdg, rfl⟩ := zdec hM hd
  have hts' : ∀ w ∈ zALL, w.before args s = true := fun w hw => hts w (List.mem_cons_of_mem _ hw)
  subst hst
  have hPc := hP.sub (ws' := wc) isC hC2
  have hDc := hD.sub (ws' := wc) isC hnd.1 hC
  have hFc := va_free (wc := wc) hD hS hA isC hC
  obtain ⟨l2, l3, ⟨l4, l5⟩, l6⟩ := hL
  have hzw : zws M' = Cond.code (mY M') (mCode M') (mL M') none :: zALL := by unfold zws; rw [l5]
  refine va_callv (va_runIN (As := As) (rest := rest) ⟨hx, hb, hml, hown, hts⟩ (hCt l H.size) ⟨va_cnB nA hts (zGood hM' (fun w hw => List.mem_cons_of_mem _ hw)) hzw rfl rfl (hNw s hN) (hts' _ l3) l6 hR, l4, hts' _ l2⟩ ⟨gblind, fun U hU hW => ⟨rfl, by rw [hU], by rw [hU]; exact hPc, va_K.moved hW.alike hK, hDc.weaken (fun _ _ _ _ => trivial), hN.warm hW⟩⟩ rfl hnA hl.1 rfl (lv_room hw8) hdg ⟨hcs.1, hcs.2⟩) hS (fun q _ h => hFc q h) hFc (fun u t H1 locs1 ht hvm hw1 hB hz1 hk1 hS1 => ?_)
  obtain ⟨hP1, hD1⟩ := hB
  rw [ht] at hP1
  obtain ⟨hP2, hD2⟩ := va_join (wr := wr) (w1 := u) hP hD isC isR hC hRr hnd.2 hdis hk1 hFc hP1 hD1
  exact kk u hw1 p l e s m args below meth c H1 locs1 la C hl hP2 hD2 hS1 hA
end GWR
