/-! ===== the law: its machine ===== -/
def R_law : String := "LowerBowsLaw"
def lw_P (b : Addr) (xs : List Int32) (args : Array Value) (s : State) : Prop := args = #[.ref b] ∧ s.IntsAt b xs ∧ xs.length ≤ 384 ∧ (Jvm.Cond.and given_1 narrow_1).before args s = true
def lw_Q (_ : Array Value) (s : State) (o : Outcome) (t : State) : Prop := o = .returned (some (.int 1)) ∧ Framed s o t [] 600000 7302250
def lw_Z (below : List Frame) (a : Array Value) (s : State) : State → Prop := fun t => ∃ o, t.status = .running ∧ Ended t below o ∧ lw_Q a s o t
/-- the law's own end, with 1 on the stack, nothing written that was there before, its room as the claim has it -/
theorem lw_ret {p : Program} {l : Launch} {e : Env} {s : State} {m : MethodId} {below : List Frame} {meth : Method} {c : Code} {b : Nat} (hx : p.tables.exec = Jvm.exec) (hb : c.code = code) (hr : meth.sig.returnType = ret) (hlocks : meth.locks = false) {pc : Nat} {H : Heap} {ls : Array Slot} (hdg : decode code pc = .ok (.ireturn, 1)) : W p l e room_1 s m #[Value.ref b] below meth c H [] 600000 7302250 (lw_Z below #[Value.ref b] s) (F0 m pc ls [.int 1]) := by
  intro T hT X
  obtain ⟨fs, hret, hrun, hended, hW, hframe⟩ := X.leave (v := some (.int 1)) (hlocks := hlocks) (fun h => by rw [hr] at h; cases h)
  have hmeth' : T.vm.method? m = some meth := X.method'
  refine ⟨T.setFrames fs, ?_, .returned (some (.int 1)), hrun, hended, rfl, ⟨_, rfl⟩, hW, hframe⟩
  jvm_step X.here [X.here.top, hx, hb, hdg, hmeth', hr, ret, narrow_b1]
  (try refine ⟨rfl, ?_⟩); (try refine ⟨rfl, ?_⟩)
  first | (intro acts; rw [hret _ acts rfl rfl rfl]) | rw [hret _ _ rfl rfl rfl]
  exact Steps.refl _
/-- what holds at the law's entry: the machine, the code, the tables' words (any of lw_tbl by 'hts w (by decide +kernel)'), the script of L ints xs at the cell b, what the Statement gives of the start (any of its parts by flat_of_before) -/
def lw_At (p : Program) (s : State) (m : MethodId) (meth : Method) (c : Code) (b L : Nat) (xs : Nat → Int32) : Prop :=
  p.tables.exec = Jvm.exec ∧ c.code = code ∧ meth.sig.returnType = ret ∧ c.maxLocals = 4 ∧ s.vm.findClass R_law = some m.cls ∧ (∀ w ∈ lw_tbl, w.before #[Value.ref b] s = true) ∧ va_X b L xs s s.heap ∧ b < s.heap.size ∧ meth.locks = false ∧ (Jvm.Cond.and given_1 narrow_1).before #[Value.ref b] s = true
def lchk (t : List zRow) : Bool := t.all (fun r => decide (decode code r.1 = .ok (r.2.1, r.2.2.1)) && Nat.beq r.2.2.2 (r.1 + r.2.2.1))
theorem ldec {t : List zRow} {pc len nx : Nat} {ins : Instr} (ht : lchk t = true) (hd : zlook t pc = some (ins, len, nx)) : decode code pc = .ok (ins, len) ∧ nx = pc + len := by
  have h := List.all_eq_true.mp ht _ (zlook_mem hd)
  simp only [Bool.and_eq_true, decide_eq_true_eq] at h
  exact ⟨h.1, Nat.eq_of_beq_eq_true h.2⟩
theorem lbnd (x : Int32) : zR x.toInt := ⟨by have := Int32.le_toInt x; omega, by have := Int32.toInt_lt x; omega⟩
theorem land31 (x : Int32) : 0 ≤ (x &&& 31).toInt ∧ (x &&& 31).toInt ≤ 31 := by
  have h : (x &&& 31).toBitVec.toNat ≤ 31 := by
    rw [Int32.toBitVec_and, BitVec.toNat_and]
    exact Nat.and_le_right
  have e : (x &&& 31).toInt = ((x &&& 31).toBitVec.toNat : Int) := by
    show (x &&& 31).toBitVec.toInt = _
    exact BitVec.toInt_eq_toNat_of_lt (by omega)
  omega
/-- the law's context: its entry, the classes, the two systems' cells new -/
def lCx (p : Program) (s : State) (m : MethodId) (meth : Method) (c : Code) (b L : Nat) (xs : Nat → Int32) (E : zEnv) : Prop := lw_At p s m meth c b L xs ∧ L ≤ 384 ∧ va_K E.1 vwCl (zTys E) s ∧ zNw s ∧ (∀ k, k < 66 → s.heap.size ≤ E.2.2 k)
/-- the law from pc, with i of the script read -/
def LW (b L : Nat) (xs : Nat → Int32) (pc i : Nat) (st : List zVal) (mem : zMem) : Prop :=
  ∀ (p : Program) (l : Launch) (e : Env) (s : State) (m : MethodId) (below : List Frame) (meth : Method) (c : Code) (E : zEnv) (H : Heap) (locs : List Loc) (la : Array Slot),
    lCx p s m meth c b L xs E → lv_has la 4 [(3, .int (nI i)), (0, .ref b), (1, .ref (E.2.2 0)), (2, .ref (E.2.2 48))] → va_P E.1 vwCl (zW E mem) H → va_D (zA E) (zW E mem) → va_S (fun q : Nat => s.heap.size ≤ q) s.heap H locs →
    W p l e room_1 s m #[Value.ref b] below meth c H locs 600000 7302250 (lw_Z below #[Value.ref b] s) (F0 m pc la (st.map (zcv E)))
section LAW
variable {b L : Nat} {xs : Nat → Int32} {pc i nx : Nat} {st : List zVal} {mem : zMem} {t : List zRow}
theorem lj_a1 (ht : lchk t = true) (hd : zlook t pc = some (.aload_n 1, 1, nx)) (kk : LW b L xs nx i (vr 0 :: st) mem) : LW b L xs pc i st mem := by
  intro p l e s m below meth c E H locs la C hl hP hD hS
  obtain ⟨⟨hx, hb, hr, hml, hown, hts, hX, hbl, hlocks, hgv⟩, hL0, hK, hN, hE⟩ := id C
  obtain ⟨hdg, rfl⟩ := ldec ht hd
  exact lv_aload_n hx hb hdg rfl (lv_at hl 2 rfl) (kk p l e s m below meth c E H locs la C hl hP hD hS)
theorem lj_a2 (ht : lchk t = true) (hd : zlook t pc = some (.aload_n 2, 1, nx)) (kk : LW b L xs nx i (vr 48 :: st) mem) : LW b L xs pc i st mem := by
  intro p l e s m below meth c E H locs la C hl hP hD hS
  obtain ⟨⟨hx, hb, hr, hml, hown, hts, hX, hbl, hlocks, hgv⟩, hL0, hK, hN, hE⟩ := id C
  obtain ⟨hdg, rfl⟩ := ldec ht hd
  exact lv_aload_n hx hb hdg rfl (lv_at hl 3 rfl) (kk p l e s m below meth c E H locs la C hl hP hD hS)
theorem lj_arg {n1 n2 n3 n4 n5 : Nat} (k : Nat) (ht : lchk t = true) (h0 : zlook t pc = some (.aload_n 0, 1, n1)) (h1 : zlook t n1 = some (.iload_n 3, 1, n2)) (h2 : zlook t n2 = some (.iconst (k : Int), 1, n3)) (h3 : zlook t n3 = some (.iadd, 1, n4)) (h4 : zlook t n4 = some (.iaload, 1, n5)) (hi : i + k < L) (kk : LW b L xs n5 i (vi (xs (i + k)).toInt :: st) mem) : LW b L xs pc i st mem := by
  intro p l e s m below meth c E H locs la C hl hP hD hS
  obtain ⟨⟨hx, hb, hr, hml, hown, hts, hX, hbl, hlocks, hgv⟩, hL0, hK, hN, hE⟩ := id C
  obtain ⟨d0, rfl⟩ := ldec ht h0
  obtain ⟨d1, rfl⟩ := ldec ht h1
  obtain ⟨d2, rfl⟩ := ldec ht h2
  obtain ⟨d3, rfl⟩ := ldec ht h3
  obtain ⟨d4, rfl⟩ := ldec ht h4
  have hA : ¬ (fun q : Nat => s.heap.size ≤ q) b := Nat.not_le.mpr hbl
  have e1 : nI i + Int32.ofInt (k : Int) = nI (i + k) := by rw [← nI_add]; rfl
  refine lv_aload_n hx hb d0 rfl (lv_at hl 1 rfl) ?_
  refine lv_iload_n hx hb d1 rfl (lv_at hl 0 rfl) ?_
  refine lv_iconst (v := Int32.ofInt (k : Int)) hx hb d2 rfl ?_
  refine lv_iadd hx hb d3 ?_
  rw [e1]
  refine va_sld hx hb hX hbl hA hS (vp_in_nI hi (by omega)) d4 ?_
  rw [nI_clamp (by omega)]
  have q := kk p l e s m below meth c E H locs la C hl hP hD hS
  simp only [List.map_cons, zcv, Int32.ofInt_toInt] at q
  exact q
theorem lafter {p : Program} {l : Launch} {e : Env} {s : State} {m : MethodId} {below : List Frame} {meth : Method} {c : Code} {E : zEnv} {H : Heap} {locs : List Loc} {la : Array Slot} {st0 : List Value} {a : Array Value} {rest : List zVal} {Q' : Option zVal → zMem → Prop}
    (C : lCx p s m meth c b L xs E) (hl : lv_has la 4 [(3, .int (nI i)), (0, .ref b), (1, .ref (E.2.2 0)), (2, .ref (E.2.2 48))]) (hS : va_S (fun q : Nat => s.heap.size ≤ q) s.heap H locs)
    (hr : va_Run p l e room_1 s m #[Value.ref b] below meth c H locs 600000 7302250 0 0 (F0 m pc la st0) (rest.map (zcv E)) (zQc E Q' a) (zA E))
    (kk : ∀ r mem', Q' r mem' → LW b L xs (pc + 3) i (r.toList ++ rest) mem') :
    W p l e room_1 s m #[Value.ref b] below meth c H locs 600000 7302250 (lw_Z below #[Value.ref b] s) (F0 m pc la st0) := by
  intro T hT X
  obtain ⟨v, st₀, t, T', L1, h0, X', hL, e1, e2, ⟨⟨r, mem', hv, hQ, hP', hD'⟩, hz, hk⟩, stp⟩ := hr T hT X
  have hv' : v = r.map (zcv E) := by injection hv
  subst hv'
  rw [h0] at hz hk
  have hA : ∀ q, zA E q → s.heap.size ≤ q := fun q hq => by
    obtain ⟨k, hk, rfl⟩ := hq
    exact C.2.2.2.2 k hk
  have hS' : va_S (fun q : Nat => s.heap.size ≤ q) s.heap T'.heap (locs ++ L1) := ⟨Nat.le_trans hS.1 (by rw [e1]; exact hz), fun q h1 h2 => by rw [e1, hk q (Nat.lt_of_lt_of_le h1 hS.1) (fun z => h2 (hA q z))]; exact hS.2.1 q h1 h2, fun q hq => by
      rcases List.mem_append.mp hq with h | h
      · exact hS.2.2 q h
      · exact hA _ (hL q h)⟩
  obtain ⟨t2, a1, b1⟩ := kk r mem' hQ p l e s m below meth c E T'.heap (locs ++ L1) la C hl (by rw [e1]; exact hP') hD' hS' T' rfl X'
  refine ⟨t2, stp t2 ?_, b1⟩
  have e3 : (r.map (zcv E)).toList ++ rest.map (zcv E) = (r.toList ++ rest).map (zcv E) := by cases r <;> simp
  show Steps p.tables e below (T'.setTop (F0 m (pc + 3) la ((r.map (zcv E)).toList ++ rest.map (zcv E)))) t2
  rw [e3]
  exact a1
theorem lj_V {M' : zMth} {ci k n idx : Nat} {fs : List (Option Nat)} {av rest : List zVal} {Q' : Option zVal → zMem → Prop} (ht : lchk t = true) (hd : zlook t pc = some (.invokevirtual idx, 3, nx)) (hM' : zOK M') (hL : zLV R_law idx M' ci n) (hR : mFr M' + 1 ≤ 10 ∧ 8 + (mL M' + 11) + mLo M' ≤ 390) (hst : zsplit n st [] = some (av, vr k :: rest)) (hc : zrow k = (3, ci, fs)) (hw : zcat rest ≤ 8) (hC : zCt M' (vr k :: av) mem Q') (kk : ∀ r mem', Q' r mem' → LW b L xs nx i (r.toList ++ rest) mem') : LW b L xs pc i st mem := by
  intro p l e s m below meth c E H locs la C hl hP hD hS
  obtain ⟨⟨hx, hb, hr, hml, hown, hts, hX, hbl, hlocks, hgv⟩, hL0, hK, hN, hE⟩ := id C
  obtain ⟨hdg, rfl⟩ := ldec ht hd
  obtain ⟨bb, rfl, rfl, hbn⟩ := zsplit_eq hst
  rw [List.append_nil] at hC
  have hts' : ∀ w ∈ zALL, w.before #[Value.ref b] s = true := fun w hw => hts w (zALL_mem hw).1
  obtain ⟨l1, l2, l3, l4, l5, l6⟩ := hL
  have hk := zrow_lt hc (by omega)
  have he := zW_get (E := E) (mem := mem) hk
  rw [zE3 hc] at he
  obtain ⟨q, hq1, hq2⟩ := Option.map_eq_some_iff.mp l5
  have hrecv := va_recv hK hP hq1 he
  rw [hq2] at hrecv
  refine lafter C hl hS (va_runV (As := bb.map (zcv E)) (n := n) (C := (mY M').cls) (b := E.2.2 k) ⟨hx, hb, hml, hown, hts⟩ (hC l E) ⟨callB_of n hts (zGood hM' (fun w hw => (zALL_mem hw).1)) rfl rfl rfl (hts' _ l4) (hts' _ l1) l6 hR, hts' _ l2, hts' _ l3⟩ ⟨zblind, hrecv, fun U hU hW => ⟨rfl, by rw [hU]; exact hP, hD, va_K.moved hW.alike hK, hN.warm hW⟩⟩ rfl (by simpa using hbn) hl.1 (by simp [zcv]) ?_ hdg ⟨Nat.le_refl _, Nat.le_refl _⟩) kk
  exact lv_room (by rw [zcat_eq]; exact hw)
theorem lj_Vi {M' : zMth} {ci k n idx : Nat} {fs : List (Option Nat)} {av rest : List zVal} {X : Int} {P : zMem → Prop} (ht : lchk t = true) (hd : zlook t pc = some (.invokevirtual idx, 3, nx)) (hM' : zOK M') (hL : zLV R_law idx M' ci n) (hR : mFr M' + 1 ≤ 10 ∧ 8 + (mL M' + 11) + mLo M' ≤ 390) (hst : zsplit n st [] = some (av, vr k :: rest)) (hc : zrow k = (3, ci, fs)) (hw : zcat rest ≤ 8) (hC : zCi M' (vr k :: av) mem X P) (kk : ∀ m2, P m2 → LW b L xs nx i (vi X :: rest) m2) : LW b L xs pc i st mem := lj_V ht hd hM' hL hR hst hc hw hC (fun r m2 h => by obtain ⟨rfl, h⟩ := h; exact kk _ h)
theorem lj_Vip {M' : zMth} {ci k n idx : Nat} {fs : List (Option Nat)} {av rest : List zVal} {X : Int} (ht : lchk t = true) (hd : zlook t pc = some (.invokevirtual idx, 3, nx)) (hM' : zOK M') (hL : zLV R_law idx M' ci n) (hR : mFr M' + 1 ≤ 10 ∧ 8 + (mL M' + 11) + mLo M' ≤ 390) (hst : zsplit n st [] = some (av, vr k :: rest)) (hc : zrow k = (3, ci, fs)) (hw : zcat rest ≤ 8) (hC : zCip M' (vr k :: av) mem X) (kk : LW b L xs nx i (vi X :: rest) mem) : LW b L xs pc i st mem := lj_V ht hd hM' hL hR hst hc hw hC (fun r m2 h => by obtain ⟨rfl, rfl⟩ := h; exact kk)
theorem lj_Vl {M' : zMth} {ci k n idx : Nat} {fs : List (Option Nat)} {av rest : List zVal} {X : Int} {P : zMem → Prop} (ht : lchk t = true) (hd : zlook t pc = some (.invokevirtual idx, 3, nx)) (hM' : zOK M') (hL : zLV R_law idx M' ci n) (hR : mFr M' + 1 ≤ 10 ∧ 8 + (mL M' + 11) + mLo M' ≤ 390) (hst : zsplit n st [] = some (av, vr k :: rest)) (hc : zrow k = (3, ci, fs)) (hw : zcat rest ≤ 8) (hC : zCl M' (vr k :: av) mem X P) (kk : ∀ m2, P m2 → LW b L xs nx i (vl X :: rest) m2) : LW b L xs pc i st mem := lj_V ht hd hM' hL hR hst hc hw hC (fun r m2 h => by obtain ⟨rfl, h⟩ := h; exact kk _ h)
theorem lj_ieq {x off : Int} (tgt : Nat) (ht : lchk t = true) (hd : zlook t pc = some (.if_icmp .eq off, 3, nx)) (hj : (pc : Int) + off = (tgt : Int)) (kk : LW b L xs tgt i st mem) : LW b L xs pc i (vi x :: vi x :: st) mem := by
  intro p l e s m below meth c E H locs la C hl hP hD hS
  obtain ⟨⟨hx, hb, hr, hml, hown, hts, hX, hbl, hlocks, hgv⟩, hL0, hK, hN, hE⟩ := id C
  obtain ⟨hdg, rfl⟩ := ldec ht hd
  exact lv_icmp_eq hx hb hdg hj (fun _ => kk p l e s m below meth c E H locs la C hl hP hD hS) (fun h => absurd rfl h)
theorem lj_leq {x off : Int} {n1 : Nat} (tgt : Nat) (ht : lchk t = true) (h0 : zlook t pc = some (.lcmp, 1, n1)) (hd : zlook t n1 = some (.ifCond .eq off, 3, nx)) (hj : (n1 : Int) + off = (tgt : Int)) (kk : LW b L xs tgt i st mem) : LW b L xs pc i (vl x :: vl x :: st) mem := by
  intro p l e s m below meth c E H locs la C hl hP hD hS
  obtain ⟨⟨hx, hb, hr, hml, hown, hts, hX, hbl, hlocks, hgv⟩, hL0, hK, hN, hE⟩ := id C
  obtain ⟨d0, rfl⟩ := ldec ht h0
  obtain ⟨hdg, rfl⟩ := ldec ht hd
  refine W.lcmp hx hb d0 ?_
  have e0 : lg_cmp (Int64.ofInt x) (Int64.ofInt x) = 0 := by simp [lg_cmp]
  rw [e0]
  exact lv_if_eq hx hb hdg hj (fun _ => kk p l e s m below meth c E H locs la C hl hP hD hS) (fun h => absurd rfl h)
theorem lj_end {n1 : Nat} (ht : lchk t = true) (h0 : zlook t pc = some (.iconst 1, 1, n1)) (h1 : zlook t n1 = some (.ireturn, 1, nx)) : LW b L xs pc i [] mem := by
  intro p l e s m below meth c E H locs la C hl hP hD hS
  obtain ⟨⟨hx, hb, hr, hml, hown, hts, hX, hbl, hlocks, hgv⟩, hL0, hK, hN, hE⟩ := id C
  obtain ⟨d0, rfl⟩ := ldec ht h0
  obtain ⟨d1, rfl⟩ := ldec ht h1
  refine lv_iconst (v := 1) hx hb d0 (by decide) ?_
  refine va_forget (fun q hq => hS.2.2 q hq) ?_
  exact lw_ret hx hb hr hlocks d1
theorem lj_next {n1 : Nat} {off : Int} (tgt : Nat) (ht : lchk t = true) (h0 : zlook t pc = some (.iinc 3 6, 3, n1)) (h1 : zlook t n1 = some (.goto off, 3, nx)) (hj : (n1 : Int) + off = (tgt : Int)) (kk : LW b L xs tgt (i + 6) [] mem) : LW b L xs pc i [] mem := by
  intro p l e s m below meth c E H locs la C hl hP hD hS
  obtain ⟨⟨hx, hb, hr, hml, hown, hts, hX, hbl, hlocks, hgv⟩, hL0, hK, hN, hE⟩ := id C
  obtain ⟨d0, rfl⟩ := ldec ht h0
  obtain ⟨d1, rfl⟩ := ldec ht h1
  refine lv_iinc (v := nI (i + 6)) (lv' := [(3, .int (nI (i + 6))), (0, .ref b), (1, .ref (E.2.2 0)), (2, .ref (E.2.2 48))]) hx hb d0 hl (k := 0) rfl (by rw [← nI_add]; rfl) (by decide) rfl (fun la hl => ?_)
  exact lv_goto hx hb d1 hj (kk p l e s m below meth c E H locs la C hl hP hD hS)
theorem lj_head {n1 n2 n3 n4 n5 : Nat} {off : Int} (tgt : Nat) (ht : lchk t = true) (h0 : zlook t pc = some (.iload_n 3, 1, n1)) (h1 : zlook t n1 = some (.aload_n 0, 1, n2)) (h2 : zlook t n2 = some (.arraylength, 1, n3)) (h3 : zlook t n3 = some (.bipush 6, 2, n4)) (h4 : zlook t n4 = some (.isub, 1, n5)) (h5 : zlook t n5 = some (.if_icmp .gt off, 3, nx)) (hj : (n5 : Int) + off = (tgt : Int)) (hi : i ≤ L) (kt : LW b L xs tgt i [] mem) (kf : i + 6 ≤ L → LW b L xs nx i [] mem) : LW b L xs pc i [] mem := by
  intro p l e s m below meth c E H locs la C hl hP hD hS
  obtain ⟨⟨hx, hb, hr, hml, hown, hts, hX, hbl, hlocks, hgv⟩, hL0, hK, hN, hE⟩ := id C
  obtain ⟨d0, rfl⟩ := ldec ht h0
  obtain ⟨d1, rfl⟩ := ldec ht h1
  obtain ⟨d2, rfl⟩ := ldec ht h2
  obtain ⟨d3, rfl⟩ := ldec ht h3
  obtain ⟨d4, rfl⟩ := ldec ht h4
  obtain ⟨d5, rfl⟩ := ldec ht h5
  have hA : ¬ (fun q : Nat => s.heap.size ≤ q) b := Nat.not_le.mpr hbl
  refine lv_iload_n hx hb d0 rfl (lv_at hl 0 rfl) ?_
  refine lv_aload_n hx hb d1 rfl (lv_at hl 1 rfl) ?_
  refine va_slen hx hb hX hbl hA hS d2 ?_
  refine lv_bipush (v := 6) hx hb d3 (by decide) ?_
  refine lv_isub hx hb d4 ?_
  have e6 : (Int32.ofNat L - 6).toInt = (L : Int) - 6 := by
    have e : Int32.ofNat L - 6 = Int32.ofInt ((L : Int) - 6) := by rw [Int32.ofInt_sub]; rfl
    rw [e, zto32 (by omega)]
  refine lv_icmp_gt hx hb d5 hj (fun _ => kt p l e s m below meth c E H locs la C hl hP hD hS) (fun h => kf ?_ p l e s m below meth c E H locs la C hl hP hD hS)
  rw [Int32.lt_iff_toInt_lt, e6, nI_toInt (by omega)] at h
  omega
theorem lj_switch {n1 n2 n3 n4 n5 : Nat} (ht : lchk t = true) (h0 : zlook t pc = some (.aload_n 0, 1, n1)) (h1 : zlook t n1 = some (.iload_n 3, 1, n2)) (h2 : zlook t n2 = some (.iaload, 1, n3)) (h3 : zlook t n3 = some (.bipush 31, 2, n4)) (h4 : zlook t n4 = some (.iand, 1, n5)) (h5 : zlook t n5 = some (.tableswitch 1191 0 31 #[143, 176, 199, 222, 245, 278, 311, 354, 387, 410, 433, 466, 499, 542, 565, 608, 641, 664, 707, 750, 763, 786, 799, 853, 896, 939, 962, 1015, 1058, 1121, 1154, 1177], 143, nx)) (h33 : n5 = 33) (hi : i < L) (kk : ∀ tgt ∈ [176, 209, 232, 255, 278, 311, 344, 387, 420, 443, 466, 499, 532, 575, 598, 641, 674, 697, 740, 783, 796, 819, 832, 886, 929, 972, 995, 1048, 1091, 1154, 1187, 1210], LW b L xs tgt i [] mem) : LW b L xs pc i [] mem := by
  intro p l e s m below meth c E H locs la C hl hP hD hS
  obtain ⟨⟨hx, hb, hr, hml, hown, hts, hX, hbl, hlocks, hgv⟩, hL0, hK, hN, hE⟩ := id C
  obtain ⟨d0, rfl⟩ := ldec ht h0
  obtain ⟨d1, rfl⟩ := ldec ht h1
  obtain ⟨d2, rfl⟩ := ldec ht h2
  obtain ⟨d3, rfl⟩ := ldec ht h3
  obtain ⟨d4, e5⟩ := ldec ht h4
  obtain ⟨d5, rfl⟩ := ldec ht h5
  have hA : ¬ (fun q : Nat => s.heap.size ≤ q) b := Nat.not_le.mpr hbl
  refine lv_aload_n hx hb d0 rfl (lv_at hl 1 rfl) ?_
  refine lv_iload_n hx hb d1 rfl (lv_at hl 0 rfl) ?_
  refine va_sld hx hb hX hbl hA hS (vp_in_nI hi (by omega)) d2 ?_
  refine lv_bipush (v := 31) hx hb d3 (by decide) ?_
  refine lv_iand hx hb d4 ?_
  rw [← e5]
  have hv := land31 (xs (nI i).toNatClampNeg)
  generalize xs (nI i).toNatClampNeg &&& 31 = y at hv ⊢
  subst h33
  rcases (show y.toInt = 0 ∨ y.toInt = 1 ∨ y.toInt = 2 ∨ y.toInt = 3 ∨ y.toInt = 4 ∨ y.toInt = 5 ∨ y.toInt = 6 ∨ y.toInt = 7 ∨ y.toInt = 8 ∨ y.toInt = 9 ∨ y.toInt = 10 ∨ y.toInt = 11 ∨ y.toInt = 12 ∨ y.toInt = 13 ∨ y.toInt = 14 ∨ y.toInt = 15 ∨ y.toInt = 16 ∨ y.toInt = 17 ∨ y.toInt = 18 ∨ y.toInt = 19 ∨ y.toInt = 20 ∨ y.toInt = 21 ∨ y.toInt = 22 ∨ y.toInt = 23 ∨ y.toInt = 24 ∨ y.toInt = 25 ∨ y.toInt = 26 ∨ y.toInt = 27 ∨ y.toInt = 28 ∨ y.toInt = 29 ∨ y.toInt = 30 ∨ y.toInt = 31 by omega) with h | h | h | h | h | h | h | h | h | h | h | h | h | h | h | h | h | h | h | h | h | h | h | h | h | h | h | h | h | h | h | h
  · exact lv_tableIn (off := 143) (tgt := 176) hx hb d5 (by omega) (by omega) (by rw [h]; rfl) (by decide) (kk 176 (by decide) p l e s m below meth c E H locs la C hl hP hD hS)
  · exact lv_tableIn (off := 176) (tgt := 209) hx hb d5 (by omega) (by omega) (by rw [h]; rfl) (by decide) (kk 209 (by decide) p l e s m below meth c E H locs la C hl hP hD hS)
  · exact lv_tableIn (off := 199) (tgt := 232) hx hb d5 (by omega) (by omega) (by rw [h]; rfl) (by decide) (kk 232 (by decide) p l e s m below meth c E H locs la C hl hP hD hS)
  · exact lv_tableIn (off := 222) (tgt := 255) hx hb d5 (by omega) (by omega) (by rw [h]; rfl) (by decide) (kk 255 (by decide) p l e s m below meth c E H locs la C hl hP hD hS)
  · exact lv_tableIn (off := 245) (tgt := 278) hx hb d5 (by omega) (by omega) (by rw [h]; rfl) (by decide) (kk 278 (by decide) p l e s m below meth c E H locs la C hl hP hD hS)
  · exact lv_tableIn (off := 278) (tgt := 311) hx hb d5 (by omega) (by omega) (by rw [h]; rfl) (by decide) (kk 311 (by decide) p l e s m below meth c E H locs la C hl hP hD hS)
  · exact lv_tableIn (off := 311) (tgt := 344) hx hb d5 (by omega) (by omega) (by rw [h]; rfl) (by decide) (kk 344 (by decide) p l e s m below meth c E H locs la C hl hP hD hS)
  · exact lv_tableIn (off := 354) (tgt := 387) hx hb d5 (by omega) (by omega) (by rw [h]; rfl) (by decide) (kk 387 (by decide) p l e s m below meth c E H locs la C hl hP hD hS)
  · exact lv_tableIn (off := 387) (tgt := 420) hx hb d5 (by omega) (by omega) (by rw [h]; rfl) (by decide) (kk 420 (by decide) p l e s m below meth c E H locs la C hl hP hD hS)
  · exact lv_tableIn (off := 410) (tgt := 443) hx hb d5 (by omega) (by omega) (by rw [h]; rfl) (by decide) (kk 443 (by decide) p l e s m below meth c E H locs la C hl hP hD hS)
  · exact lv_tableIn (off := 433) (tgt := 466) hx hb d5 (by omega) (by omega) (by rw [h]; rfl) (by decide) (kk 466 (by decide) p l e s m below meth c E H locs la C hl hP hD hS)
  · exact lv_tableIn (off := 466) (tgt := 499) hx hb d5 (by omega) (by omega) (by rw [h]; rfl) (by decide) (kk 499 (by decide) p l e s m below meth c E H locs la C hl hP hD hS)
  · exact lv_tableIn (off := 499) (tgt := 532) hx hb d5 (by omega) (by omega) (by rw [h]; rfl) (by decide) (kk 532 (by decide) p l e s m below meth c E H locs la C hl hP hD hS)
  · exact lv_tableIn (off := 542) (tgt := 575) hx hb d5 (by omega) (by omega) (by rw [h]; rfl) (by decide) (kk 575 (by decide) p l e s m below meth c E H locs la C hl hP hD hS)
  · exact lv_tableIn (off := 565) (tgt := 598) hx hb d5 (by omega) (by omega) (by rw [h]; rfl) (by decide) (kk 598 (by decide) p l e s m below meth c E H locs la C hl hP hD hS)
  · exact lv_tableIn (off := 608) (tgt := 641) hx hb d5 (by omega) (by omega) (by rw [h]; rfl) (by decide) (kk 641 (by decide) p l e s m below meth c E H locs la C hl hP hD hS)
  · exact lv_tableIn (off := 641) (tgt := 674) hx hb d5 (by omega) (by omega) (by rw [h]; rfl) (by decide) (kk 674 (by decide) p l e s m below meth c E H locs la C hl hP hD hS)
  · exact lv_tableIn (off := 664) (tgt := 697) hx hb d5 (by omega) (by omega) (by rw [h]; rfl) (by decide) (kk 697 (by decide) p l e s m below meth c E H locs la C hl hP hD hS)
  · exact lv_tableIn (off := 707) (tgt := 740) hx hb d5 (by omega) (by omega) (by rw [h]; rfl) (by decide) (kk 740 (by decide) p l e s m below meth c E H locs la C hl hP hD hS)
  · exact lv_tableIn (off := 750) (tgt := 783) hx hb d5 (by omega) (by omega) (by rw [h]; rfl) (by decide) (kk 783 (by decide) p l e s m below meth c E H locs la C hl hP hD hS)
  · exact lv_tableIn (off := 763) (tgt := 796) hx hb d5 (by omega) (by omega) (by rw [h]; rfl) (by decide) (kk 796 (by decide) p l e s m below meth c E H locs la C hl hP hD hS)
  · exact lv_tableIn (off := 786) (tgt := 819) hx hb d5 (by omega) (by omega) (by rw [h]; rfl) (by decide) (kk 819 (by decide) p l e s m below meth c E H locs la C hl hP hD hS)
  · exact lv_tableIn (off := 799) (tgt := 832) hx hb d5 (by omega) (by omega) (by rw [h]; rfl) (by decide) (kk 832 (by decide) p l e s m below meth c E H locs la C hl hP hD hS)
  · exact lv_tableIn (off := 853) (tgt := 886) hx hb d5 (by omega) (by omega) (by rw [h]; rfl) (by decide) (kk 886 (by decide) p l e s m below meth c E H locs la C hl hP hD hS)
  · exact lv_tableIn (off := 896) (tgt := 929) hx hb d5 (by omega) (by omega) (by rw [h]; rfl) (by decide) (kk 929 (by decide) p l e s m below meth c E H locs la C hl hP hD hS)
  · exact lv_tableIn (off := 939) (tgt := 972) hx hb d5 (by omega) (by omega) (by rw [h]; rfl) (by decide) (kk 972 (by decide) p l e s m below meth c E H locs la C hl hP hD hS)
  · exact lv_tableIn (off := 962) (tgt := 995) hx hb d5 (by omega) (by omega) (by rw [h]; rfl) (by decide) (kk 995 (by decide) p l e s m below meth c E H locs la C hl hP hD hS)
  · exact lv_tableIn (off := 1015) (tgt := 1048) hx hb d5 (by omega) (by omega) (by rw [h]; rfl) (by decide) (kk 1048 (by decide) p l e s m below meth c E H locs la C hl hP hD hS)
  · exact lv_tableIn (off := 1058) (tgt := 1091) hx hb d5 (by omega) (by omega) (by rw [h]; rfl) (by decide) (kk 1091 (by decide) p l e s m below meth c E H locs la C hl hP hD hS)
  · exact lv_tableIn (off := 1121) (tgt := 1154) hx hb d5 (by omega) (by omega) (by rw [h]; rfl) (by decide) (kk 1154 (by decide) p l e s m below meth c E H locs la C hl hP hD hS)
  · exact lv_tableIn (off := 1154) (tgt := 1187) hx hb d5 (by omega) (by omega) (by rw [h]; rfl) (by decide) (kk 1187 (by decide) p l e s m below meth c E H locs la C hl hP hD hS)
  · exact lv_tableIn (off := 1177) (tgt := 1210) hx hb d5 (by omega) (by omega) (by rw [h]; rfl) (by decide) (kk 1210 (by decide) p l e s m below meth c E H locs la C hl hP hD hS)
end LAW
