/-! ===== calls over the abstract machine; contracts ===== -/
def zK (E : zEnv) (mem : zMem) (U : State) : Prop := va_P E.1 vwCl (zW E mem) U.heap ∧ va_D (zA E) (zW E mem) ∧ va_K E.1 vwCl (zTys E) U ∧ zNw U
/-- the method, called with these arguments in this memory, returns with Q -/
def zCt (M : zMth) (av : List zVal) (mem : zMem) (Q : Option zVal → zMem → Prop) : Prop :=
  ∀ (l : Launch) (E : zEnv), Met l (mY M) (zws M) (zrm M) (va_Pc (av.map (zcv E)) (zK E mem)) (zQc E Q) 0 0 (zA E)
def zent : List zVal → zLs
  | [] => []
  | .inl x :: t => some (.inl x) :: zent t
  | .inr (.inl x) :: t => some (.inr (.inl x)) :: none :: zent t
  | .inr (.inr x) :: t => some (.inr (.inr x)) :: zent t
theorem zent_len (E : zEnv) : ∀ av : List zVal, (lg_sl (av.map (zcv E))).length = (zent av).length
  | [] => rfl
  | .inl x :: t => by
    have := zent_len E t
    simp only [List.map_cons, zcv, zent]
    simp [lg_sl, Value.category] at this ⊢
    exact this
  | .inr (.inl x) :: t => by
    have := zent_len E t
    simp only [List.map_cons, zcv, zent]
    simp [lg_sl, Value.category] at this ⊢
    omega
  | .inr (.inr x) :: t => by
    have := zent_len E t
    simp only [List.map_cons, zcv, zent]
    simp [lg_sl, Value.category] at this ⊢
    exact this
theorem zent_args (E : zEnv) : ∀ (av : List zVal) (b : Nat), zcl E b (zent av) = lv_args b (av.map (zcv E))
  | [], b => rfl
  | .inl x :: t, b => by
    have := zent_args E t (b + 1)
    simp [zent, zcl, lv_args, zcv, Value.category, this]
  | .inr (.inl x) :: t, b => by
    have := zent_args E t (b + 2)
    simp [zent, zcl, lv_args, zcv, Value.category, this]
  | .inr (.inr x) :: t, b => by
    have := zent_args E t (b + 1)
    simp [zent, zcl, lv_args, zcv, Value.category, this]
def zpad (ls : zLs) (n : Nat) : zLs := match n with
  | 0 => ls
  | n + 1 => zpad (ls ++ [none]) n
theorem zpad_get : ∀ (n : Nat) (ls : zLs) (i : Nat) (v : zVal), (zpad ls n)[i]? = some (some v) → ls[i]? = some (some v)
  | 0, ls, i, v, h => h
  | n + 1, ls, i, v, h => by
    have h1 := zpad_get n (ls ++ [none]) i v h
    by_cases hi : i < ls.length
    · rwa [List.getElem?_append_left hi] at h1
    · rw [List.getElem?_append_right (by omega)] at h1
      by_cases h0 : i - ls.length = 0
      · rw [h0] at h1; simp at h1
      · rw [List.getElem?_eq_none (by simp; omega)] at h1
        cases h1
theorem zCt.of {M : zMth} {av : List zVal} {mem : zMem} {Q : Option zVal → zMem → Prop} (ls : zLs) (hM : zOK M) (hn : (zent av).length ≤ mL M) (hls : zpad (zent av) (mL M - (zent av).length) = ls) (h : AW M 0 ls [] mem Q) : zCt M av mem Q := by
  intro l E
  subst hls
  refine Met.ofW (cc := mCode M) (maxL := mL M) (ret := mRet M) hM.2.1 rfl ?_
  intro p e s m args below meth c s₁ B hml hv
  obtain ⟨rfl, hP, hD, hK, hN⟩ := hv
  have hl := lv_entry (av.map (zcv E)) (n := mL M) (by rw [zent_len]; exact hn)
  rw [lg_entry_eq]
  generalize (lg_sl (av.map (zcv E)) ++ List.replicate (mL M - (lg_sl (av.map (zcv E))).length) Slot.unset).toArray = la at hl ⊢
  have C : zCx M p s m (av.map (zcv E)).toArray meth c E := ⟨B.exec, B.bytes, B.returns, hml, by rw [hM.2.2.1]; exact findClass_of_methodNamed B.named, atoms_spec (ws := zws M) B.pre, B.notSynchronized, hK, hN⟩
  refine h p l e s m _ below meth c E s.heap [] la C (zhas_mk hl (fun i v hi => ?_)) hP hD va_S.rf
  have h1 := zpad_get _ _ _ _ hi
  rw [← zent_args E av 0]
  simpa using zcl_mem (E := E) (b := 0) h1
def zsplit : Nat → List zVal → List zVal → Option (List zVal × List zVal)
  | 0, st, acc => some (acc, st)
  | n + 1, v :: st, acc => zsplit n st (v :: acc)
  | _ + 1, [], _ => none
theorem zsplit_eq : ∀ {n : Nat} {st acc a r : List zVal}, zsplit n st acc = some (a, r) → ∃ b, a = b ++ acc ∧ st = b.reverse ++ r ∧ b.length = n
  | 0, st, acc, a, r, h => by
    simp only [zsplit, Option.some.injEq, Prod.mk.injEq] at h
    exact ⟨[], by simp [h.1], by simp [h.2], rfl⟩
  | n + 1, [], acc, a, r, h => by simp [zsplit] at h
  | n + 1, v :: st, acc, a, r, h => by
    obtain ⟨b, h1, h2, h3⟩ := zsplit_eq (n := n) h
    exact ⟨b ++ [v], by simp [h1], by simp [h2], by simp [h3]⟩
def zplain (y : MethodName) (n : Nat) : Prop := y.cls ≠ "java/lang/invoke/MethodHandle" ∧ y.cls ≠ "java/lang/invoke/VarHandle" ∧ (parseMethodDescriptor y.desc).map (fun d => d.parameters.length) = some n
/-- a static method by its pool entry -/
def zLS (own : String) (idx : Nat) (M' : zMth) (n : Nat) : Prop := Cond.methodLink own idx (mY M') ∈ zALL ∧ Cond.static (mY M') ∈ zALL ∧ Cond.initialized (mY M').cls ∈ zALL ∧ zplain (mY M') n
/-- a private static method of the host -/
def zLN (own : String) (idx : Nat) (M' : zMth) (n : Nat) : Prop := (own, idx) ∈ zNest ∧ mY M' = yX10_within ∧ Cond.static (mY M') ∈ zALL ∧ Cond.initialized (mY M').cls ∈ zALL ∧ zplain (mY M') n
/-- a method of an object of class ci -/
def zLV (own : String) (idx : Nat) (M' : zMth) (ci n : Nat) : Prop := Cond.methodLink own idx (mY M') ∈ zALL ∧ Cond.instanceMethod (mY M') ∈ zALL ∧ Cond.selects (mY M').cls (mY M') (mY M') ∈ zALL ∧ Cond.initialized (mY M').cls ∈ zALL ∧ (vwCl[ci]?).map (fun q => q.1) = some (mY M').cls ∧ zplain (mY M') n
theorem zblind {E : zEnv} {mem : zMem} {av : List Value} : FrameBlind (va_Pc av (zK E mem)) := fun a U g mk q => by
  obtain ⟨q0, q1, q2, q3, q4⟩ := q
  exact ⟨q0, q1, q2, va_K.moved (u := U) (U := U.calling g mk a) (Vm.Alike.refl U.vm) q3, zNw.same rfl q4⟩
section ZCALL
variable {M M' : zMth} {pc nx : Nat} {ls : zLs} {st : List zVal} {mem : zMem} {Q Q' : Option zVal → zMem → Prop} {av rest : List zVal} {n idx : Nat}
theorem zafter {p : Program} {l : Launch} {e : Env} {s : State} {m : MethodId} {args : Array Value} {below : List Frame} {meth : Method} {c : Code} {E : zEnv} {H : Heap} {locs : List Loc} {la : Array Slot} {st0 : List Value} {a : Array Value}
    (C : zCx M p s m args meth c E) (hl : lv_has la (mL M) (zcl E 0 ls)) (hS : va_S (zA E) s.heap H locs)
    (hr : va_Run p l e (zrm M) s m args below meth c H locs 0 0 0 0 (F0 m pc la st0) (rest.map (zcv E)) (zQc E Q' a) (zA E))
    (kk : ∀ r mem', Q' r mem' → AW M (pc + 3) ls (r.toList ++ rest) mem' Q) :
    W p l e (zrm M) s m args below meth c H locs 0 0 (MQ below (zQc E Q) args s 0 0 (zA E)) (F0 m pc la st0) := by
  intro T hT X
  obtain ⟨v, st₀, t, T', L, h0, X', hL, e1, e2, ⟨⟨r, mem', hv, hQ, hP', hD'⟩, hz, hk⟩, stp⟩ := hr T hT X
  have hv' : v = r.map (zcv E) := by injection hv
  subst hv'
  rw [h0] at hz hk
  have hS' : va_S (zA E) s.heap T'.heap (locs ++ L) := ⟨Nat.le_trans hS.1 (by rw [e1]; exact hz), fun q h1 h2 => by rw [e1, hk q (Nat.lt_of_lt_of_le h1 hS.1) h2]; exact hS.2.1 q h1 h2, fun q hq => by
      rcases List.mem_append.mp hq with h | h
      · exact hS.2.2 q h
      · exact hL q h⟩
  obtain ⟨t2, a1, b1⟩ := kk r mem' hQ p l e s m args below meth c E T'.heap (locs ++ L) la C hl (by rw [e1]; exact hP') hD' hS' T' rfl X'
  refine ⟨t2, stp t2 ?_, b1⟩
  have e3 : (r.map (zcv E)).toList ++ rest.map (zcv E) = (r.toList ++ rest).map (zcv E) := by cases r <;> simp
  show Steps p.tables e below (T'.setTop (F0 m (pc + 3) la ((r.map (zcv E)).toList ++ rest.map (zcv E)))) t2
  rw [e3]
  exact a1
theorem zw_callS (hM : zOK M) (hd : zlook (mTbl M) pc = some (.invokestatic idx, 3, nx)) (hM' : zOK M') (hL : zLS (mOwn M) idx M' n) (hR : mFr M' + 1 ≤ mFr M ∧ 8 + (mL M' + 11) + mLo M' ≤ mLo M) (hst : zsplit n st [] = some (av, rest)) (hw : zcat rest ≤ 8) (hC : zCt M' av mem Q') (kk : ∀ r mem', Q' r mem' → AW M nx ls (r.toList ++ rest) mem' Q) : AW M pc ls st mem Q := by
  intro p l e s m args below meth c E H locs la C hl hP hD hS
  obtain ⟨hx, hb, hr, hml, hown, hts, hlk, hK, hN⟩ := id C
  obtain ⟨hdg, rfl⟩ := zdec hM hd
  obtain ⟨b, rfl, rfl, hbn⟩ := zsplit_eq hst
  rw [List.append_nil] at hC
  have hts' : ∀ w ∈ zALL, w.before args s = true := fun w hw => hts w (List.mem_cons_of_mem _ hw)
  obtain ⟨l1, l2, l3, l4⟩ := hL
  refine zafter C hl hS (va_runS (As := b.map (zcv E)) (n := n) ⟨hx, hb, hml, hown, hts⟩ (hC l E) ⟨callB_of n hts (zGood hM' (fun w hw => List.mem_cons_of_mem _ hw)) rfl rfl rfl (hts' _ l3) (hts' _ l1) l4 hR, hts' _ l2⟩ ⟨zblind, fun U hU hW => ⟨rfl, by rw [hU]; exact hP, hD, va_K.moved hW.alike hK, hN.warm hW⟩⟩ rfl (by simpa using hbn) hl.1 (by simp) ?_ hdg ⟨Nat.le_refl 0, Nat.le_refl 0⟩) kk
  exact lv_room (by rw [zcat_eq]; exact hw)
theorem zw_callN (hM : zOK M) (hd : zlook (mTbl M) pc = some (.invokestatic idx, 3, nx)) (hM' : zOK M') (hL : zLN (mOwn M) idx M' n) (hR : mFr M' + 1 ≤ mFr M ∧ 8 + (mL M' + 11) + mLo M' ≤ mLo M) (hst : zsplit n st [] = some (av, rest)) (hw : zcat rest ≤ 8) (hC : zCt M' av mem Q') (kk : ∀ r mem', Q' r mem' → AW M nx ls (r.toList ++ rest) mem' Q) : AW M pc ls st mem Q := by
  intro p l e s m args below meth c E H locs la C hl hP hD hS
  obtain ⟨hx, hb, hr, hml, hown, hts, hlk, hK, hN⟩ := id C
  obtain ⟨hdg, rfl⟩ := zdec hM hd
  obtain ⟨b, rfl, rfl, hbn⟩ := zsplit_eq hst
  rw [List.append_nil] at hC
  have hts' : ∀ w ∈ zALL, w.before args s = true := fun w hw => hts w (List.mem_cons_of_mem _ hw)
  obtain ⟨l1, l1', l2, l3, l4⟩ := hL
  have hnw : va_Nw (.methodLinkNest (mOwn M) idx (mY M') "LowerBows") s := by rw [l1']; exact hN _ l1
  refine zafter C hl hS (va_runSN (As := b.map (zcv E)) (n := n) ⟨hx, hb, hml, hown, hts⟩ (hC l E) ⟨va_cnB n hts (zGood hM' (fun w hw => List.mem_cons_of_mem _ hw)) rfl rfl rfl hnw (hts' _ l3) l4 hR, hts' _ l2, trivial⟩ ⟨zblind, fun U hU hW => ⟨rfl, by rw [hU]; exact hP, hD, va_K.moved hW.alike hK, hN.warm hW⟩⟩ rfl (by simpa using hbn) hl.1 (by simp) ?_ hdg ⟨Nat.le_refl 0, Nat.le_refl 0⟩) kk
  exact lv_room (by rw [zcat_eq]; exact hw)
theorem zw_callV {ci k : Nat} {fs : List (Option Nat)} (hM : zOK M) (hd : zlook (mTbl M) pc = some (.invokevirtual idx, 3, nx)) (hM' : zOK M') (hL : zLV (mOwn M) idx M' ci n) (hR : mFr M' + 1 ≤ mFr M ∧ 8 + (mL M' + 11) + mLo M' ≤ mLo M) (hst : zsplit n st [] = some (av, vr k :: rest)) (hc : zrow k = (3, ci, fs)) (hw : zcat rest ≤ 8) (hC : zCt M' (vr k :: av) mem Q') (kk : ∀ r mem', Q' r mem' → AW M nx ls (r.toList ++ rest) mem' Q) : AW M pc ls st mem Q := by
  intro p l e s m args below meth c E H locs la C hl hP hD hS
  obtain ⟨hx, hb, hr, hml, hown, hts, hlk, hK, hN⟩ := id C
  obtain ⟨hdg, rfl⟩ := zdec hM hd
  obtain ⟨b, rfl, rfl, hbn⟩ := zsplit_eq hst
  rw [List.append_nil] at hC
  have hts' : ∀ w ∈ zALL, w.before args s = true := fun w hw => hts w (List.mem_cons_of_mem _ hw)
  obtain ⟨l1, l2, l3, l4, l5, l6⟩ := hL
  have hk := zrow_lt hc (by omega)
  have he := zW_get (E := E) (mem := mem) hk
  rw [zE3 hc] at he
  obtain ⟨q, hq1, hq2⟩ := Option.map_eq_some_iff.mp l5
  have hrecv := va_recv hK hP hq1 he
  rw [hq2] at hrecv
  refine zafter C hl hS (va_runV (As := b.map (zcv E)) (n := n) (C := (mY M').cls) (b := E.2.2 k) ⟨hx, hb, hml, hown, hts⟩ (hC l E) ⟨callB_of n hts (zGood hM' (fun w hw => List.mem_cons_of_mem _ hw)) rfl rfl rfl (hts' _ l4) (hts' _ l1) l6 hR, hts' _ l2, hts' _ l3⟩ ⟨zblind, hrecv, fun U hU hW => ⟨rfl, by rw [hU]; exact hP, hD, va_K.moved hW.alike hK, hN.warm hW⟩⟩ rfl (by simpa using hbn) hl.1 (by simp [zcv]) ?_ hdg ⟨Nat.le_refl 0, Nat.le_refl 0⟩) kk
  exact lv_room (by rw [zcat_eq]; exact hw)
end ZCALL
