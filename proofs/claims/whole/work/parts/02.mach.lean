/-! ===== the abstract machine: ints as Int, cells by number, one world of 66 cells (the class's 0..47, the reference's 48..65) ===== -/
abbrev zVal : Type := Int ⊕ Int ⊕ Nat
abbrev vi (x : Int) : zVal := Sum.inl x
abbrev vl (x : Int) : zVal := Sum.inr (Sum.inl x)
abbrev vr (k : Nat) : zVal := Sum.inr (Sum.inr k)
abbrev zMem : Type := Nat → Int → Int
abbrev zLs : Type := List (Option zVal)
abbrev zRow : Type := Nat × Instr × Nat × Nat
/-- class, name, code, locals, answer, frames, local words, rows -/
abbrev zMth : Type := String × MethodName × ByteArray × Nat × Option FieldType × Nat × Nat × List zRow
abbrev mOwn (M : zMth) : String := M.1
abbrev mY (M : zMth) : MethodName := M.2.1
abbrev mCode (M : zMth) : ByteArray := M.2.2.1
abbrev mL (M : zMth) : Nat := M.2.2.2.1
abbrev mRet (M : zMth) : Option FieldType := M.2.2.2.2.1
abbrev mFr (M : zMth) : Nat := M.2.2.2.2.2.1
abbrev mLo (M : zMth) : Nat := M.2.2.2.2.2.2.1
abbrev mTbl (M : zMth) : List zRow := M.2.2.2.2.2.2.2
def zlook : List zRow → Nat → Option (Instr × Nat × Nat)
  | [], _ => none
  | r :: t, q => bif Nat.beq r.1 q then some r.2 else zlook t q
def zALL : List Cond := lw_tbl.filter goodWord
def zws (M : zMth) : List Cond := Cond.code (mY M) (mCode M) (mL M) (mRet M) :: zALL
def zrm (M : zMth) : Room := { frames := mFr M, cells := 0, slots := 0, locals := mLo M }
def zchk (M : zMth) : Bool := (mTbl M).all (fun r => decide (decode (mCode M) r.1 = .ok (r.2.1, r.2.2.1)) && Nat.beq r.2.2.2 (r.1 + r.2.2.1))
def zOK (M : zMth) : Prop := zchk M = true ∧ plainName (mY M).cls = true ∧ mOwn M = (mY M).cls ∧ Cond.code (mY M) (mCode M) (mL M) (mRet M) ∈ lw_tbl
theorem zlook_mem : ∀ {t : List zRow} {q : Nat} {x : Instr × Nat × Nat}, zlook t q = some x → (q, x) ∈ t
  | [], q, x, h => by cases h
  | r :: t, q, x, h => by
    unfold zlook at h
    cases hb : Nat.beq r.1 q with
    | true =>
      rw [hb] at h
      have e1 : r.1 = q := Nat.eq_of_beq_eq_true hb
      have e2 : r.2 = x := Option.some.inj h
      rw [← e1, ← e2]
      exact List.mem_cons_self
    | false =>
      rw [hb] at h
      exact List.mem_cons_of_mem _ (zlook_mem h)
theorem zdec {M : zMth} {pc len nx : Nat} {ins : Instr} (hM : zOK M) (hd : zlook (mTbl M) pc = some (ins, len, nx)) : decode (mCode M) pc = .ok (ins, len) ∧ nx = pc + len := by
  have h := List.all_eq_true.mp hM.1 _ (zlook_mem hd)
  simp only [Bool.and_eq_true, decide_eq_true_eq] at h
  exact ⟨h.1, Nat.eq_of_beq_eq_true h.2⟩
theorem zALL_mem {w : Cond} (h : w ∈ zALL) : w ∈ lw_tbl ∧ goodWord w = true := List.mem_filter.mp h
theorem zmem_ALL {w : Cond} (h : w ∈ lw_tbl) (g : goodWord w = true) : w ∈ zALL := List.mem_filter.mpr ⟨h, g⟩
theorem zgood_code (M : zMth) : goodWord (Cond.code (mY M) (mCode M) (mL M) (mRet M)) = true := rfl
theorem zGood {M' : zMth} {Ts : List Cond} (hM' : zOK M') (hT : ∀ w ∈ zALL, w ∈ Ts) : GoodIn Ts (zws M') := by
  intro w hw
  rcases List.mem_cons.mp hw with rfl | hw
  · exact ⟨hT _ (zmem_ALL hM'.2.2.2 (zgood_code M')), good_of_word (zgood_code M')⟩
  · exact ⟨hT _ hw, good_of_word (zALL_mem hw).2⟩
/-! the cells: (0, n, _) ints, (1, n, _) longs, (2, n, cells) an array of cells, (3, class, fields) an object -/
abbrev zShp : Type := Nat × Nat × List (Option Nat)
def zCT : List zShp := [
  (3, 10, [some 1, some 3, some 5, some 10, some 12, some 16, some 20, some 24, some 30, some 32, some 35, some 37, some 39, none]),
  (3, 8, [some 2, none]), (0, 39, []),
  (3, 8, [some 4, none]), (0, 71, []),
  (3, 4, [some 6, some 7, some 8, some 9, none, none, none]), (0, 8, []), (0, 8, []), (0, 8, []), (0, 8, []),
  (3, 9, [some 11, none, none]), (0, 96, []),
  (3, 3, [some 13, some 14, some 15, none]), (0, 12, []), (0, 12, []), (0, 12, []),
  (3, 3, [some 17, some 18, some 19, none]), (0, 8, []), (0, 8, []), (0, 8, []),
  (3, 3, [some 21, some 22, some 23, none]), (0, 8, []), (0, 8, []), (0, 8, []),
  (3, 2, [some 5, some 10, some 12, some 16, some 25, some 26, some 27, some 28, some 29, none, none, none, none]), (0, 96, []), (0, 12, []), (0, 64, []), (0, 64, []), (0, 8, []),
  (3, 5, [some 24, some 31, none]), (0, 2, []),
  (3, 7, [some 24, some 33, some 34, none]), (0, 3, []), (0, 3, []),
  (3, 1, [some 24, some 20, some 36]), (0, 96, []),
  (3, 0, [some 24, some 38]), (1, 8, []),
  (2, 4, [some 40, some 42, some 44, some 46]),
  (3, 6, [some 41, none, none, none]), (0, 60, []), (3, 6, [some 43, none, none, none]), (0, 60, []), (3, 6, [some 45, none, none, none]), (0, 60, []), (3, 6, [some 47, none, none, none]), (0, 60, []),
  (3, 11, [some 49, some 50, some 51, some 52, none, some 53, some 54, none, some 55, none, some 56, none, some 57, none, some 58, some 59, some 60, some 61, none, none, none, none, none, none, none, some 62, some 63, none, some 64, some 65, none]),
  (0, 4, []), (0, 4, []), (0, 240, []), (0, 60, []), (0, 144, []), (0, 2, []), (0, 24, []), (0, 96, []), (0, 36, []), (0, 20, []), (0, 64, []), (0, 64, []), (0, 8, []), (0, 3, []), (0, 2, []), (0, 24, []), (0, 96, [])]
def zrow (k : Nat) : zShp := zCT.getD k (9, 9, [])
abbrev zEnv : Type := va_G × (ClassId × ClassId × ClassId) × (Nat → Nat)
def zcv (E : zEnv) : zVal → Value
  | .inl x => .int (Int32.ofInt x)
  | .inr (.inl x) => .long (Int64.ofInt x)
  | .inr (.inr k) => .ref (E.2.2 k)
def zF (ad : Nat → Nat) (f : Int → Int) : Nat → List (Option Nat) → List Value
  | _, [] => []
  | j, none :: t => .int (Int32.ofInt (f j)) :: zF ad f (j + 1) t
  | j, some k :: t => .ref (ad k) :: zF ad f (j + 1) t
def zE (E : zEnv) (r : zShp) (f : Int → Int) : va_E := match r.1 with
  | 0 => .inl (E.2.1.1, r.2.1, .inl (fun j => Int32.ofInt (f j)))
  | 1 => .inl (E.2.1.2.1, r.2.1, .inr (.inl (fun j => Int64.ofInt (f j))))
  | 2 => .inl (E.2.1.2.2, r.2.1, .inr (.inr (.inr (.inr (fun j => (r.2.2.getD j none).map E.2.2)))))
  | _ => .inr (r.2.1, zF E.2.2 f 0 r.2.2)
def zW (E : zEnv) (mem : zMem) : va_W := (List.range 66).map (fun k => (E.2.2 k, zE E (zrow k) (mem k)))
def zupd (f : Int → Int) (i v : Int) : Int → Int := fun j => if j = i then v else f j
def zput (mem : zMem) (k : Nat) (f : Int → Int) : zMem := fun k' => bif Nat.beq k' k then f else mem k'
def zset (mem : zMem) (k : Nat) (i v : Int) : zMem := zput mem k (zupd (mem k) i v)
def zA (E : zEnv) : Nat → Prop := fun q => ∃ k, k < 66 ∧ q = E.2.2 k
def zTys (E : zEnv) : List (ClassId × FieldType) := [(E.2.1.1, .int), (E.2.1.2.1, .long), (E.2.1.2.2, .object "LowerBows$Sheet")]
def zNest : List (String × Nat) := [(RX4, 52), (RX9, 33), (RX7, 42), (RX6, 32)]
def zNw (U : State) : Prop := ∀ q ∈ zNest, va_Nw (.methodLinkNest q.1 q.2 yX10_within "LowerBows") U
theorem zNw.warm {s U : State} (hW : s.WarmedH U.vm) (h : zNw s) : zNw U := fun q hq => va_Nw.warmM hW (h q hq)
theorem zNw.same {u U : State} (hv : u.vm = U.vm) (h : zNw u) : zNw U := fun q hq => va_Nw.same rfl hv (h q hq)
theorem zCT_small : ∀ r ∈ zCT, r.2.1 ≤ 240 := by decide
theorem zCT_len : zCT.length = 66 := by decide
theorem zrow_lt {k a n : Nat} {fs : List (Option Nat)} (h : zrow k = (a, n, fs)) (ha : a < 9) : k < 66 := by
  by_cases hk : k < 66
  · exact hk
  · have e : zrow k = (9, 9, []) := by
      unfold zrow
      rw [List.getD_eq_getElem?_getD, List.getElem?_eq_none (by rw [zCT_len]; omega)]
      rfl
    rw [e] at h
    cases h
    omega
theorem zrow_small {k a n : Nat} {fs : List (Option Nat)} (h : zrow k = (a, n, fs)) (ha : a < 9) : n ≤ 240 := by
  have hk := zrow_lt h ha
  have hm : zrow k ∈ zCT := by
    unfold zrow
    rw [List.getD_eq_getElem?_getD, List.getElem?_eq_getElem (by rw [zCT_len]; exact hk)]
    exact List.getElem_mem _
  have := zCT_small _ hm
  rw [h] at this
  exact this
theorem zW_get {E : zEnv} {mem : zMem} {k : Nat} (hk : k < 66) : (zW E mem)[k]? = some (E.2.2 k, zE E (zrow k) (mem k)) := by
  unfold zW
  rw [List.getElem?_map, List.getElem?_range hk]
  rfl
theorem zW_set {E : zEnv} {mem : zMem} {k : Nat} {f : Int → Int} {e : va_E} (hk : k < 66) (he : e = zE E (zrow k) f) : (zW E mem).set k (E.2.2 k, e) = zW E (zput mem k f) := by
  subst he
  apply List.ext_getElem?
  intro j
  by_cases hj : j < 66
  · rw [zW_get hj]
    by_cases h : j = k
    · subst h
      rw [List.getElem?_set_self (by simp [zW]; exact hj)]
      simp [zput]
    · rw [List.getElem?_set_ne (Ne.symm h), zW_get hj]
      have hb : Nat.beq j k = false := by
        cases hq : Nat.beq j k with
        | false => rfl
        | true => exact absurd (Nat.eq_of_beq_eq_true hq) h
      simp [zput, hb]
  · rw [List.getElem?_eq_none (by simp [zW]; omega), List.getElem?_eq_none (by simp [zW]; omega)]
theorem zF_get (ad : Nat → Nat) (f : Int → Int) : ∀ (fs : List (Option Nat)) (b j : Nat), (zF ad f b fs)[j]? = (fs[j]?).map (fun o => match o with | none => Value.int (Int32.ofInt (f ((b + j : Nat) : Int))) | some k => .ref (ad k))
  | [], b, j => by simp [zF]
  | none :: t, b, 0 => by simp [zF]
  | some k :: t, b, 0 => by simp [zF]
  | none :: t, b, j + 1 => by
    simp only [zF, List.getElem?_cons_succ, zF_get ad f t (b + 1) j]
    have : b + 1 + j = b + (j + 1) := by omega
    rw [this]
  | some k :: t, b, j + 1 => by
    simp only [zF, List.getElem?_cons_succ, zF_get ad f t (b + 1) j]
    have : b + 1 + j = b + (j + 1) := by omega
    rw [this]
theorem zF_set (ad : Nat → Nat) (f : Int → Int) (v : Int) {fs : List (Option Nat)} {j : Nat} (h : fs[j]? = some none) : (zF ad f 0 fs).set j (.int (Int32.ofInt v)) = zF ad (zupd f j v) 0 fs := by
  apply List.ext_getElem?
  intro i
  by_cases hij : i = j
  · subst hij
    have hl : i < (zF ad f 0 fs).length := by
      have := zF_get ad f fs 0 i
      rw [h] at this
      exact (List.getElem?_eq_some_iff.mp this).1
    rw [List.getElem?_set_self hl, zF_get, h]
    simp [zupd]
  · rw [List.getElem?_set_ne (Ne.symm hij), zF_get, zF_get]
    congr 1
    funext o
    cases o with
    | some k => rfl
    | none =>
      have : ¬ ((i : Int) = (j : Int)) := by omega
      simp [zupd, this]
theorem zF_len (ad : Nat → Nat) (f : Int → Int) {fs : List (Option Nat)} {j : Nat} (h : fs[j]? = some none) : j < (zF ad f 0 fs).length := by
  have := zF_get ad f fs 0 j
  rw [h] at this
  exact (List.getElem?_eq_some_iff.mp this).1
/-! locals -/
def zcl (E : zEnv) : Nat → zLs → List (Nat × Value)
  | _, [] => []
  | i, none :: t => zcl E (i + 1) t
  | i, some v :: t => (i, zcv E v) :: zcl E (i + 1) t
theorem zcl_mem {E : zEnv} : ∀ {ls : zLs} {b i : Nat} {v : zVal}, ls[i]? = some (some v) → (b + i, zcv E v) ∈ zcl E b ls
  | [], b, i, v, h => by simp at h
  | none :: t, b, 0, v, h => by simp at h
  | some w :: t, b, 0, v, h => by
    simp at h
    subst h
    simp [zcl]
  | none :: t, b, i + 1, v, h => by
    have := zcl_mem (E := E) (b := b + 1) (i := i) (v := v) (ls := t) (by simpa using h)
    have e : b + 1 + i = b + (i + 1) := by omega
    rw [e] at this
    simpa [zcl] using this
  | some w :: t, b, i + 1, v, h => by
    have := zcl_mem (E := E) (b := b + 1) (i := i) (v := v) (ls := t) (by simpa using h)
    have e : b + 1 + i = b + (i + 1) := by omega
    rw [e] at this
    simp only [zcl]
    exact List.mem_cons_of_mem _ this
theorem zcl_of {E : zEnv} : ∀ {ls : zLs} {b : Nat} {q : Nat × Value}, q ∈ zcl E b ls → ∃ (i : Nat) (v : zVal), q = (b + i, zcv E v) ∧ ls[i]? = some (some v)
  | [], b, q, h => by simp [zcl] at h
  | none :: t, b, q, h => by
    simp only [zcl] at h
    obtain ⟨i, v, h1, h2⟩ := zcl_of h
    exact ⟨i + 1, v, by rw [h1]; congr 1; omega, by simpa using h2⟩
  | some w :: t, b, q, h => by
    simp only [zcl] at h
    rcases List.mem_cons.mp h with rfl | h
    · exact ⟨0, w, rfl, rfl⟩
    · obtain ⟨i, v, h1, h2⟩ := zcl_of h
      exact ⟨i + 1, v, by rw [h1]; congr 1; omega, by simpa using h2⟩
theorem zhas {E : zEnv} {la : Array Slot} {nL : Nat} {ls : zLs} (h : lv_has la nL (zcl E 0 ls)) {i : Nat} {v : zVal} (hi : ls[i]? = some (some v)) : la[i]? = some (.val (zcv E v)) := by
  have := h.2.2 _ (zcl_mem (E := E) (b := 0) hi)
  simpa using this
theorem zhas_mk {E : zEnv} {la : Array Slot} {nL : Nat} {ls : zLs} {l : List (Nat × Value)} (h : lv_has la nL l) (hs : ∀ (i : Nat) (v : zVal), ls[i]? = some (some v) → (i, zcv E v) ∈ l) : lv_has la nL (zcl E 0 ls) := by
  refine ⟨h.1, h.2.1, fun q hq => ?_⟩
  obtain ⟨i, v, h1, h2⟩ := zcl_of hq
  rw [h1]
  simp only [Nat.zero_add]
  exact h.2.2 (i, zcv E v) (hs i v h2)
/-- v at place i; what stood there as the first half of a long is gone -/
def zst1 : zLs → Nat → zVal → Option zLs
  | [], _, _ => none
  | _ :: t, 0, v => some (some v :: t)
  | a :: t, i + 1, v => match i, t, a with
    | 0, _ :: t', some (.inr (.inl _)) => some (none :: some v :: t')
    | 0, _ :: t', a => some (a :: some v :: t')
    | _, t, a => match zst1 t i v with
      | some t' => some (a :: t')
      | none => none
/-- nothing known at place i -/
def zclr : zLs → Nat → Option zLs
  | [], _ => none
  | _ :: t, 0 => some (none :: t)
  | a :: t, i + 1 => match zclr t i with
    | some t' => some (a :: t')
    | none => none
/-- a long v at places i and i + 1 -/
def zst2 (ls : zLs) (i : Nat) (v : zVal) : Option zLs := match zst1 ls i v with
  | some l1 => zclr l1 (i + 1)
  | none => none
def zlk (ls : zLs) (i : Nat) : Option zVal := match ls, i with
  | [], _ => none
  | a :: _, 0 => a
  | _ :: t, i + 1 => zlk t i
theorem zlk_get : ∀ {ls : zLs} {i : Nat} {v : zVal}, zlk ls i = some v → ls[i]? = some (some v)
  | [], _, _, h => by simp [zlk] at h
  | a :: _, 0, v, h => by simp [zlk] at h; simp [h]
  | _ :: t, i + 1, v, h => by
    simp only [zlk] at h
    simpa using zlk_get h
