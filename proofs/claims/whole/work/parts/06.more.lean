/-! ===== Math, arraycopy; contracts by their answers; branches on booleans ===== -/
def bi (b : Bool) : Int := cond b 1 0
theorem bi01 (b : Bool) : bi b = 0 ∨ bi b = 1 := by cases b <;> simp [bi]
theorem bi_t {p : Prop} {i : Decidable p} (h : p) : bi (@decide p i) = 1 := by simp [bi, h]
theorem bi_f {p : Prop} {i : Decidable p} (h : ¬ p) : bi (@decide p i) = 0 := by simp [bi, h]
def zLM (own : String) (idx : Nat) (y : MethodName) (code : ByteArray) (k : Nat) : Prop := Cond.methodLink own idx y ∈ zALL ∧ Cond.static y ∈ zALL ∧ Cond.initialized "java/lang/Math" ∈ zALL ∧ Cond.code y code k (some .int) ∈ zALL
def zLA (own : String) (idx : Nat) : Prop := Cond.methodLink own idx arraycopyName ∈ zALL ∧ Cond.native arraycopyName ∈ zALL ∧ Cond.static arraycopyName ∈ zALL ∧ Cond.initialized "java/lang/System" ∈ zALL
section ZX
variable {M : zMth} {pc nx idx : Nat} {ls : zLs} {st : List zVal} {mem : zMem} {Q : Option zVal → zMem → Prop}
theorem zw_mmax {x y : Int} (hM : zOK M) (hd : zlook (mTbl M) pc = some (.invokestatic idx, 3, nx)) (hL : zLM (mOwn M) idx Lib.Math.max.name Lib.Math.max.code 2) (hR : 1 ≤ mFr M ∧ zcat st + 13 ≤ mLo M) (hq : (-2147483648 ≤ x ∧ x < 2147483648) ∧ (-2147483648 ≤ y ∧ y < 2147483648)) (kk : AW M nx ls (vi (max x y) :: st) mem Q) : AW M pc ls (vi y :: vi x :: st) mem Q := by
  intro p l e s m args below meth c E H locs la C hl hP hD hS
  obtain ⟨hx, hb, hr, hml, hown, hts, hlk, hK, hN⟩ := id C
  obtain ⟨hdg, rfl⟩ := zdec hM hd
  have hts' : ∀ w ∈ zALL, w.before args s = true := fun w hw => hts w (List.mem_cons_of_mem _ hw)
  have kk := kk p l e s m args below meth c E H locs la C hl hP hD hS
  have e1 : Int32.ofInt (max x y) = if Int32.ofInt x < Int32.ofInt y then Int32.ofInt y else Int32.ofInt x := by
    have q : Int32.ofInt x < Int32.ofInt y ↔ x < y := by rw [Int32.lt_iff_toInt_lt, zto32 hq.1, zto32 hq.2]
    by_cases h : x < y
    · rw [if_pos (q.mpr h), show max x y = y by omega]
    · rw [if_neg (fun z => h (q.mp z)), show max x y = x by omega]
  simp only [List.map_cons, zcv] at kk
  rw [e1] at kk
  exact va_mmax hx hb (hml.trans hl.1.symm) hown (hts' _ hL.1) (hts' _ hL.2.1) (hts' _ hL.2.2.1) (hts' _ hL.2.2.2) hR.1 (by rw [zcat_eq]; exact hR.2) (Nat.zero_le _) (Nat.zero_le _) hdg kk
theorem zw_mmin {x y : Int} (hM : zOK M) (hd : zlook (mTbl M) pc = some (.invokestatic idx, 3, nx)) (hL : zLM (mOwn M) idx Lib.Math.min.name Lib.Math.min.code 2) (hR : 1 ≤ mFr M ∧ zcat st + 13 ≤ mLo M) (hq : (-2147483648 ≤ x ∧ x < 2147483648) ∧ (-2147483648 ≤ y ∧ y < 2147483648)) (kk : AW M nx ls (vi (min x y) :: st) mem Q) : AW M pc ls (vi y :: vi x :: st) mem Q := by
  intro p l e s m args below meth c E H locs la C hl hP hD hS
  obtain ⟨hx, hb, hr, hml, hown, hts, hlk, hK, hN⟩ := id C
  obtain ⟨hdg, rfl⟩ := zdec hM hd
  have hts' : ∀ w ∈ zALL, w.before args s = true := fun w hw => hts w (List.mem_cons_of_mem _ hw)
  have kk := kk p l e s m args below meth c E H locs la C hl hP hD hS
  have e1 : Int32.ofInt (min x y) = if Int32.ofInt y < Int32.ofInt x then Int32.ofInt y else Int32.ofInt x := by
    have q : Int32.ofInt y < Int32.ofInt x ↔ y < x := by rw [Int32.lt_iff_toInt_lt, zto32 hq.1, zto32 hq.2]
    by_cases h : y < x
    · rw [if_pos (q.mpr h), show min x y = y by omega]
    · rw [if_neg (fun z => h (q.mp z)), show min x y = x by omega]
  simp only [List.map_cons, zcv] at kk
  rw [e1] at kk
  exact va_mmin hx hb (hml.trans hl.1.symm) hown (hts' _ hL.1) (hts' _ hL.2.1) (hts' _ hL.2.2.1) (hts' _ hL.2.2.2) hR.1 (by rw [zcat_eq]; exact hR.2) (Nat.zero_le _) (Nat.zero_le _) hdg kk
def zabs (x : Int) : Int := if 0 ≤ x then x else -x
theorem zw_mabs {x : Int} (hM : zOK M) (hd : zlook (mTbl M) pc = some (.invokestatic idx, 3, nx)) (hL : zLM (mOwn M) idx Lib.Math.abs.name Lib.Math.abs.code 1) (hR : 1 ≤ mFr M ∧ zcat st + 13 ≤ mLo M) (hq : -2147483648 ≤ x ∧ x < 2147483648) (kk : AW M nx ls (vi (zabs x) :: st) mem Q) : AW M pc ls (vi x :: st) mem Q := by
  intro p l e s m args below meth c E H locs la C hl hP hD hS
  obtain ⟨hx, hb, hr, hml, hown, hts, hlk, hK, hN⟩ := id C
  obtain ⟨hdg, rfl⟩ := zdec hM hd
  have hts' : ∀ w ∈ zALL, w.before args s = true := fun w hw => hts w (List.mem_cons_of_mem _ hw)
  have kk := kk p l e s m args below meth c E H locs la C hl hP hD hS
  have e1 : Int32.ofInt (zabs x) = if 0 ≤ Int32.ofInt x then Int32.ofInt x else 0 - Int32.ofInt x := by
    have q : 0 ≤ Int32.ofInt x ↔ 0 ≤ x := by rw [Int32.le_iff_toInt_le, zto32 hq, Int32.toInt_zero]
    unfold zabs
    by_cases h : 0 ≤ x
    · rw [if_pos (q.mpr h), if_pos h]
    · rw [if_neg (fun z => h (q.mp z)), if_neg h, Int32.ofInt_neg]; simp
  simp only [List.map_cons, zcv] at kk
  rw [e1] at kk
  exact va_mabs hx hb (hml.trans hl.1.symm) hown (hts' _ hL.1) (hts' _ hL.2.1) (hts' _ hL.2.2.1) (hts' _ hL.2.2.2) hR.1 (by rw [zcat_eq]; exact hR.2) (Nat.zero_le _) (Nat.zero_le _) hdg kk
theorem zw_copy {k0 k1 n0 n1 : Nat} {f0 f1 : List (Option Nat)} {sp dp n : Int} (hM : zOK M) (hd : zlook (mTbl M) pc = some (.invokestatic idx, 3, nx)) (hL : zLA (mOwn M) idx) (hc0 : zrow k0 = (0, n0, f0)) (hc1 : zrow k1 = (0, n1, f1)) (hi : (0 ≤ sp ∧ 0 ≤ dp ∧ 0 ≤ n) ∧ sp + n ≤ (n0 : Int) ∧ dp + n ≤ (n1 : Int)) (hR : 1 ≤ mFr M ∧ zcat st + (nativeFrameWords "java/lang/System" "arraycopy" 5 + 11) ≤ mLo M) (kk : AW M nx ls st (zput mem k1 (zcpy (mem k0) (mem k1) sp dp n)) Q) : AW M pc ls (vi n :: vi dp :: vr k1 :: vi sp :: vr k0 :: st) mem Q := by
  intro p l e s m args below meth c E H locs la C hl hP hD hS
  obtain ⟨hx, hb, hr, hml, hown, hts, hlk, hK, hN⟩ := id C
  obtain ⟨hdg, rfl⟩ := zdec hM hd
  have hts' : ∀ w ∈ zALL, w.before args s = true := fun w hw => hts w (List.mem_cons_of_mem _ hw)
  have hk0 := zrow_lt hc0 (by omega)
  have hk1 := zrow_lt hc1 (by omega)
  have s0 := zrow_small hc0 (by omega)
  have s1 := zrow_small hc1 (by omega)
  have he0 := zW_get (E := E) (mem := mem) hk0
  rw [zE0 hc0] at he0
  have he1 := zW_get (E := E) (mem := mem) hk1
  rw [zE0 hc1] at he1
  have cl : ∀ x : Int, 0 ≤ x → x ≤ 1000 → (Int32.ofInt x).toNatClampNeg = x.toNat ∧ ¬ Int32.ofInt x < 0 := by
    intro x h1 h2
    have e := zto32 (x := x) (by omega)
    refine ⟨?_, ?_⟩
    · show (Int32.ofInt x).toInt.toNat = x.toNat
      rw [e]
    · rw [Int32.lt_iff_toInt_lt, e, Int32.toInt_zero]
      omega
  obtain ⟨a1, a2⟩ := cl sp (by omega) (by omega)
  obtain ⟨b1, b2⟩ := cl dp (by omega) (by omega)
  obtain ⟨c1, c2⟩ := cl n (by omega) (by omega)
  refine va_copyi (ty := .int) hx hb (hml.trans hl.1.symm) hown (hts' _ hL.1) (hts' _ hL.2.1) (hts' _ hL.2.2.1) (hts' _ hL.2.2.2) hK hP hD hS k0 k1 0 0 he0 he1 rfl rfl rfl a2 b2 c2 (by rw [a1, c1]; omega) (by rw [b1, c1]; omega) (fun _ _ => rfl) hR.1 (by rw [zcat_eq]; exact hR.2) hdg (fun H1 locs1 hP1 hD1 hS1 => ?_)
  have e2 : (zW E mem).set k1 (E.2.2 k1, .inl (E.2.1.1, n1, .inl (va_cpy (fun j => Int32.ofInt (mem k0 j)) (fun j => Int32.ofInt (mem k1 j)) (Int32.ofInt sp).toNatClampNeg (Int32.ofInt dp).toNatClampNeg (Int32.ofInt n).toNatClampNeg))) = zW E (zput mem k1 (zcpy (mem k0) (mem k1) sp dp n)) := by
    refine zW_set hk1 ?_
    rw [zE0 hc1, a1, b1, c1]
    congr 4
    funext j
    simp only [va_cpy, zcpy]
    by_cases h : dp ≤ (j : Int) ∧ (j : Int) < dp + n
    · rw [if_pos h, if_pos (by omega)]
      have : ((sp.toNat + (j - dp.toNat) : Nat) : Int) = sp + (j - dp) := by omega
      rw [this]
    · rw [if_neg h, if_neg (by omega)]
  rw [e2] at hP1 hD1
  exact kk p l e s m args below meth c E H1 locs1 la C hl hP1 hD1 hS1
theorem zw_ifeq_b {b : Bool} {off : Int} (tgt : Nat) (hM : zOK M) (hd : zlook (mTbl M) pc = some (.ifCond .eq off, 3, nx)) (ht : (pc : Int) + off = (tgt : Int)) (kt : b = false → AW M tgt ls st mem Q) (kf : b = true → AW M nx ls st mem Q) : AW M pc ls (vi (bi b) :: st) mem Q := by
  refine zw_if_eq tgt hM hd ht (by rcases bi01 b with h | h <;> omega) (fun h => kt ?_) (fun h => kf ?_)
  · cases b <;> simp [bi] at h ⊢
  · cases b <;> simp [bi] at h ⊢
theorem zw_ifeq_d {p : Prop} {i : Decidable p} {off : Int} (tgt : Nat) (hM : zOK M) (hd : zlook (mTbl M) pc = some (.ifCond .eq off, 3, nx)) (ht : (pc : Int) + off = (tgt : Int)) (kt : ¬ p → AW M tgt ls st mem Q) (kf : p → AW M nx ls st mem Q) : AW M pc ls (vi (bi (@decide p i)) :: st) mem Q := by
  refine zw_ifeq_b tgt hM hd ht (fun h => kt ?_) (fun h => kf ?_)
  · simpa using h
  · simpa using h
theorem zw_ifne_b {b : Bool} {off : Int} (tgt : Nat) (hM : zOK M) (hd : zlook (mTbl M) pc = some (.ifCond .ne off, 3, nx)) (ht : (pc : Int) + off = (tgt : Int)) (kt : b = true → AW M tgt ls st mem Q) (kf : b = false → AW M nx ls st mem Q) : AW M pc ls (vi (bi b) :: st) mem Q := by
  refine zw_if_ne tgt hM hd ht (by rcases bi01 b with h | h <;> omega) (fun h => kt ?_) (fun h => kf ?_)
  · cases b <;> simp [bi] at h ⊢
  · cases b <;> simp [bi] at h ⊢
theorem zw_ifne_d {p : Prop} {i : Decidable p} {off : Int} (tgt : Nat) (hM : zOK M) (hd : zlook (mTbl M) pc = some (.ifCond .ne off, 3, nx)) (ht : (pc : Int) + off = (tgt : Int)) (kt : p → AW M tgt ls st mem Q) (kf : ¬ p → AW M nx ls st mem Q) : AW M pc ls (vi (bi (@decide p i)) :: st) mem Q := by
  refine zw_ifne_b tgt hM hd ht (fun h => kt ?_) (fun h => kf ?_)
  · simpa using h
  · simpa using h
end ZX
def zCi (M : zMth) (av : List zVal) (mem : zMem) (X : Int) (P : zMem → Prop) : Prop := zCt M av mem (fun r m2 => r = some (vi X) ∧ P m2)
def zCip (M : zMth) (av : List zVal) (mem : zMem) (X : Int) : Prop := zCt M av mem (fun r m2 => r = some (vi X) ∧ m2 = mem)
def zCbp (M : zMth) (av : List zVal) (mem : zMem) (b : Bool) : Prop := zCt M av mem (fun r m2 => r = some (vi (bi b)) ∧ m2 = mem)
def zCb (M : zMth) (av : List zVal) (mem : zMem) (b : Bool) (P : zMem → Prop) : Prop := zCt M av mem (fun r m2 => r = some (vi (bi b)) ∧ P m2)
def zCv (M : zMth) (av : List zVal) (mem : zMem) (P : zMem → Prop) : Prop := zCt M av mem (fun r m2 => r = none ∧ P m2)
def zCvp (M : zMth) (av : List zVal) (mem : zMem) (m3 : zMem) : Prop := zCt M av mem (fun r m2 => r = none ∧ m2 = m3)
def zCl (M : zMth) (av : List zVal) (mem : zMem) (X : Int) (P : zMem → Prop) : Prop := zCt M av mem (fun r m2 => r = some (vl X) ∧ P m2)
def zClp (M : zMth) (av : List zVal) (mem : zMem) (X : Int) : Prop := zCt M av mem (fun r m2 => r = some (vl X) ∧ m2 = mem)
def zCrp (M : zMth) (av : List zVal) (mem : zMem) (k : Nat) : Prop := zCt M av mem (fun r m2 => r = some (vr k) ∧ m2 = mem)
section ZCW
variable {M M' : zMth} {pc nx : Nat} {ls : zLs} {st : List zVal} {mem : zMem} {Q : Option zVal → zMem → Prop} {av rest : List zVal} {n idx : Nat}
theorem zw_Si  {X : Int} {P : zMem → Prop} (hM : zOK M) (hd : zlook (mTbl M) pc = some (.invokestatic idx, 3, nx)) (hM' : zOK M') (hL : zLS (mOwn M) idx M' n) (hR : mFr M' + 1 ≤ mFr M ∧ 8 + (mL M' + 11) + mLo M' ≤ mLo M) (hst : zsplit n st [] = some (av, rest)) (hw : zcat rest ≤ 8) (hC : zCi M' av mem X P) (kk : ∀ m2, P m2 → AW M nx ls (vi X :: rest) m2 Q) : AW M pc ls st mem Q := zw_callS hM hd hM' hL hR hst hw hC (fun r m2 h => by obtain ⟨rfl, h⟩ := h; exact kk _ h)
theorem zw_Sip  {X : Int} (hM : zOK M) (hd : zlook (mTbl M) pc = some (.invokestatic idx, 3, nx)) (hM' : zOK M') (hL : zLS (mOwn M) idx M' n) (hR : mFr M' + 1 ≤ mFr M ∧ 8 + (mL M' + 11) + mLo M' ≤ mLo M) (hst : zsplit n st [] = some (av, rest)) (hw : zcat rest ≤ 8) (hC : zCip M' av mem X) (kk : AW M nx ls (vi X :: rest) mem Q) : AW M pc ls st mem Q := zw_callS hM hd hM' hL hR hst hw hC (fun r m2 h => by obtain ⟨rfl, rfl⟩ := h; exact kk)
theorem zw_Sbp  {b : Bool} (hM : zOK M) (hd : zlook (mTbl M) pc = some (.invokestatic idx, 3, nx)) (hM' : zOK M') (hL : zLS (mOwn M) idx M' n) (hR : mFr M' + 1 ≤ mFr M ∧ 8 + (mL M' + 11) + mLo M' ≤ mLo M) (hst : zsplit n st [] = some (av, rest)) (hw : zcat rest ≤ 8) (hC : zCbp M' av mem b) (kk : AW M nx ls (vi (bi b) :: rest) mem Q) : AW M pc ls st mem Q := zw_callS hM hd hM' hL hR hst hw hC (fun r m2 h => by obtain ⟨rfl, rfl⟩ := h; exact kk)
theorem zw_Sb  {b : Bool} {P : zMem → Prop} (hM : zOK M) (hd : zlook (mTbl M) pc = some (.invokestatic idx, 3, nx)) (hM' : zOK M') (hL : zLS (mOwn M) idx M' n) (hR : mFr M' + 1 ≤ mFr M ∧ 8 + (mL M' + 11) + mLo M' ≤ mLo M) (hst : zsplit n st [] = some (av, rest)) (hw : zcat rest ≤ 8) (hC : zCb M' av mem b P) (kk : ∀ m2, P m2 → AW M nx ls (vi (bi b) :: rest) m2 Q) : AW M pc ls st mem Q := zw_callS hM hd hM' hL hR hst hw hC (fun r m2 h => by obtain ⟨rfl, h⟩ := h; exact kk _ h)
theorem zw_Sv  {P : zMem → Prop} (hM : zOK M) (hd : zlook (mTbl M) pc = some (.invokestatic idx, 3, nx)) (hM' : zOK M') (hL : zLS (mOwn M) idx M' n) (hR : mFr M' + 1 ≤ mFr M ∧ 8 + (mL M' + 11) + mLo M' ≤ mLo M) (hst : zsplit n st [] = some (av, rest)) (hw : zcat rest ≤ 8) (hC : zCv M' av mem P) (kk : ∀ m2, P m2 → AW M nx ls rest m2 Q) : AW M pc ls st mem Q := zw_callS hM hd hM' hL hR hst hw hC (fun r m2 h => by obtain ⟨rfl, h⟩ := h; exact kk _ h)
theorem zw_Svp  {m3 : zMem} (hM : zOK M) (hd : zlook (mTbl M) pc = some (.invokestatic idx, 3, nx)) (hM' : zOK M') (hL : zLS (mOwn M) idx M' n) (hR : mFr M' + 1 ≤ mFr M ∧ 8 + (mL M' + 11) + mLo M' ≤ mLo M) (hst : zsplit n st [] = some (av, rest)) (hw : zcat rest ≤ 8) (hC : zCvp M' av mem m3) (kk : AW M nx ls rest m3 Q) : AW M pc ls st mem Q := zw_callS hM hd hM' hL hR hst hw hC (fun r m2 h => by obtain ⟨rfl, rfl⟩ := h; exact kk)
theorem zw_Sl  {X : Int} {P : zMem → Prop} (hM : zOK M) (hd : zlook (mTbl M) pc = some (.invokestatic idx, 3, nx)) (hM' : zOK M') (hL : zLS (mOwn M) idx M' n) (hR : mFr M' + 1 ≤ mFr M ∧ 8 + (mL M' + 11) + mLo M' ≤ mLo M) (hst : zsplit n st [] = some (av, rest)) (hw : zcat rest ≤ 8) (hC : zCl M' av mem X P) (kk : ∀ m2, P m2 → AW M nx ls (vl X :: rest) m2 Q) : AW M pc ls st mem Q := zw_callS hM hd hM' hL hR hst hw hC (fun r m2 h => by obtain ⟨rfl, h⟩ := h; exact kk _ h)
theorem zw_Slp  {X : Int} (hM : zOK M) (hd : zlook (mTbl M) pc = some (.invokestatic idx, 3, nx)) (hM' : zOK M') (hL : zLS (mOwn M) idx M' n) (hR : mFr M' + 1 ≤ mFr M ∧ 8 + (mL M' + 11) + mLo M' ≤ mLo M) (hst : zsplit n st [] = some (av, rest)) (hw : zcat rest ≤ 8) (hC : zClp M' av mem X) (kk : AW M nx ls (vl X :: rest) mem Q) : AW M pc ls st mem Q := zw_callS hM hd hM' hL hR hst hw hC (fun r m2 h => by obtain ⟨rfl, rfl⟩ := h; exact kk)
theorem zw_Srp  {k2 : Nat} (hM : zOK M) (hd : zlook (mTbl M) pc = some (.invokestatic idx, 3, nx)) (hM' : zOK M') (hL : zLS (mOwn M) idx M' n) (hR : mFr M' + 1 ≤ mFr M ∧ 8 + (mL M' + 11) + mLo M' ≤ mLo M) (hst : zsplit n st [] = some (av, rest)) (hw : zcat rest ≤ 8) (hC : zCrp M' av mem k2) (kk : AW M nx ls (vr k2 :: rest) mem Q) : AW M pc ls st mem Q := zw_callS hM hd hM' hL hR hst hw hC (fun r m2 h => by obtain ⟨rfl, rfl⟩ := h; exact kk)
theorem zw_Ni  {X : Int} {P : zMem → Prop} (hM : zOK M) (hd : zlook (mTbl M) pc = some (.invokestatic idx, 3, nx)) (hM' : zOK M') (hL : zLN (mOwn M) idx M' n) (hR : mFr M' + 1 ≤ mFr M ∧ 8 + (mL M' + 11) + mLo M' ≤ mLo M) (hst : zsplit n st [] = some (av, rest)) (hw : zcat rest ≤ 8) (hC : zCi M' av mem X P) (kk : ∀ m2, P m2 → AW M nx ls (vi X :: rest) m2 Q) : AW M pc ls st mem Q := zw_callN hM hd hM' hL hR hst hw hC (fun r m2 h => by obtain ⟨rfl, h⟩ := h; exact kk _ h)
theorem zw_Nip  {X : Int} (hM : zOK M) (hd : zlook (mTbl M) pc = some (.invokestatic idx, 3, nx)) (hM' : zOK M') (hL : zLN (mOwn M) idx M' n) (hR : mFr M' + 1 ≤ mFr M ∧ 8 + (mL M' + 11) + mLo M' ≤ mLo M) (hst : zsplit n st [] = some (av, rest)) (hw : zcat rest ≤ 8) (hC : zCip M' av mem X) (kk : AW M nx ls (vi X :: rest) mem Q) : AW M pc ls st mem Q := zw_callN hM hd hM' hL hR hst hw hC (fun r m2 h => by obtain ⟨rfl, rfl⟩ := h; exact kk)
theorem zw_Nbp  {b : Bool} (hM : zOK M) (hd : zlook (mTbl M) pc = some (.invokestatic idx, 3, nx)) (hM' : zOK M') (hL : zLN (mOwn M) idx M' n) (hR : mFr M' + 1 ≤ mFr M ∧ 8 + (mL M' + 11) + mLo M' ≤ mLo M) (hst : zsplit n st [] = some (av, rest)) (hw : zcat rest ≤ 8) (hC : zCbp M' av mem b) (kk : AW M nx ls (vi (bi b) :: rest) mem Q) : AW M pc ls st mem Q := zw_callN hM hd hM' hL hR hst hw hC (fun r m2 h => by obtain ⟨rfl, rfl⟩ := h; exact kk)
theorem zw_Nb  {b : Bool} {P : zMem → Prop} (hM : zOK M) (hd : zlook (mTbl M) pc = some (.invokestatic idx, 3, nx)) (hM' : zOK M') (hL : zLN (mOwn M) idx M' n) (hR : mFr M' + 1 ≤ mFr M ∧ 8 + (mL M' + 11) + mLo M' ≤ mLo M) (hst : zsplit n st [] = some (av, rest)) (hw : zcat rest ≤ 8) (hC : zCb M' av mem b P) (kk : ∀ m2, P m2 → AW M nx ls (vi (bi b) :: rest) m2 Q) : AW M pc ls st mem Q := zw_callN hM hd hM' hL hR hst hw hC (fun r m2 h => by obtain ⟨rfl, h⟩ := h; exact kk _ h)
theorem zw_Nv  {P : zMem → Prop} (hM : zOK M) (hd : zlook (mTbl M) pc = some (.invokestatic idx, 3, nx)) (hM' : zOK M') (hL : zLN (mOwn M) idx M' n) (hR : mFr M' + 1 ≤ mFr M ∧ 8 + (mL M' + 11) + mLo M' ≤ mLo M) (hst : zsplit n st [] = some (av, rest)) (hw : zcat rest ≤ 8) (hC : zCv M' av mem P) (kk : ∀ m2, P m2 → AW M nx ls rest m2 Q) : AW M pc ls st mem Q := zw_callN hM hd hM' hL hR hst hw hC (fun r m2 h => by obtain ⟨rfl, h⟩ := h; exact kk _ h)
theorem zw_Nvp  {m3 : zMem} (hM : zOK M) (hd : zlook (mTbl M) pc = some (.invokestatic idx, 3, nx)) (hM' : zOK M') (hL : zLN (mOwn M) idx M' n) (hR : mFr M' + 1 ≤ mFr M ∧ 8 + (mL M' + 11) + mLo M' ≤ mLo M) (hst : zsplit n st [] = some (av, rest)) (hw : zcat rest ≤ 8) (hC : zCvp M' av mem m3) (kk : AW M nx ls rest m3 Q) : AW M pc ls st mem Q := zw_callN hM hd hM' hL hR hst hw hC (fun r m2 h => by obtain ⟨rfl, rfl⟩ := h; exact kk)
theorem zw_Nl  {X : Int} {P : zMem → Prop} (hM : zOK M) (hd : zlook (mTbl M) pc = some (.invokestatic idx, 3, nx)) (hM' : zOK M') (hL : zLN (mOwn M) idx M' n) (hR : mFr M' + 1 ≤ mFr M ∧ 8 + (mL M' + 11) + mLo M' ≤ mLo M) (hst : zsplit n st [] = some (av, rest)) (hw : zcat rest ≤ 8) (hC : zCl M' av mem X P) (kk : ∀ m2, P m2 → AW M nx ls (vl X :: rest) m2 Q) : AW M pc ls st mem Q := zw_callN hM hd hM' hL hR hst hw hC (fun r m2 h => by obtain ⟨rfl, h⟩ := h; exact kk _ h)
theorem zw_Nlp  {X : Int} (hM : zOK M) (hd : zlook (mTbl M) pc = some (.invokestatic idx, 3, nx)) (hM' : zOK M') (hL : zLN (mOwn M) idx M' n) (hR : mFr M' + 1 ≤ mFr M ∧ 8 + (mL M' + 11) + mLo M' ≤ mLo M) (hst : zsplit n st [] = some (av, rest)) (hw : zcat rest ≤ 8) (hC : zClp M' av mem X) (kk : AW M nx ls (vl X :: rest) mem Q) : AW M pc ls st mem Q := zw_callN hM hd hM' hL hR hst hw hC (fun r m2 h => by obtain ⟨rfl, rfl⟩ := h; exact kk)
theorem zw_Nrp  {k2 : Nat} (hM : zOK M) (hd : zlook (mTbl M) pc = some (.invokestatic idx, 3, nx)) (hM' : zOK M') (hL : zLN (mOwn M) idx M' n) (hR : mFr M' + 1 ≤ mFr M ∧ 8 + (mL M' + 11) + mLo M' ≤ mLo M) (hst : zsplit n st [] = some (av, rest)) (hw : zcat rest ≤ 8) (hC : zCrp M' av mem k2) (kk : AW M nx ls (vr k2 :: rest) mem Q) : AW M pc ls st mem Q := zw_callN hM hd hM' hL hR hst hw hC (fun r m2 h => by obtain ⟨rfl, rfl⟩ := h; exact kk)
theorem zw_Vi {ci k : Nat} {fs : List (Option Nat)} {X : Int} {P : zMem → Prop} (hM : zOK M) (hd : zlook (mTbl M) pc = some (.invokevirtual idx, 3, nx)) (hM' : zOK M') (hL : zLV (mOwn M) idx M' ci n) (hR : mFr M' + 1 ≤ mFr M ∧ 8 + (mL M' + 11) + mLo M' ≤ mLo M) (hst : zsplit n st [] = some (av, vr k :: rest)) (hc : zrow k = (3, ci, fs)) (hw : zcat rest ≤ 8) (hC : zCi M' (vr k :: av) mem X P) (kk : ∀ m2, P m2 → AW M nx ls (vi X :: rest) m2 Q) : AW M pc ls st mem Q := zw_callV hM hd hM' hL hR hst hc hw hC (fun r m2 h => by obtain ⟨rfl, h⟩ := h; exact kk _ h)
theorem zw_Vip {ci k : Nat} {fs : List (Option Nat)} {X : Int} (hM : zOK M) (hd : zlook (mTbl M) pc = some (.invokevirtual idx, 3, nx)) (hM' : zOK M') (hL : zLV (mOwn M) idx M' ci n) (hR : mFr M' + 1 ≤ mFr M ∧ 8 + (mL M' + 11) + mLo M' ≤ mLo M) (hst : zsplit n st [] = some (av, vr k :: rest)) (hc : zrow k = (3, ci, fs)) (hw : zcat rest ≤ 8) (hC : zCip M' (vr k :: av) mem X) (kk : AW M nx ls (vi X :: rest) mem Q) : AW M pc ls st mem Q := zw_callV hM hd hM' hL hR hst hc hw hC (fun r m2 h => by obtain ⟨rfl, rfl⟩ := h; exact kk)
theorem zw_Vbp {ci k : Nat} {fs : List (Option Nat)} {b : Bool} (hM : zOK M) (hd : zlook (mTbl M) pc = some (.invokevirtual idx, 3, nx)) (hM' : zOK M') (hL : zLV (mOwn M) idx M' ci n) (hR : mFr M' + 1 ≤ mFr M ∧ 8 + (mL M' + 11) + mLo M' ≤ mLo M) (hst : zsplit n st [] = some (av, vr k :: rest)) (hc : zrow k = (3, ci, fs)) (hw : zcat rest ≤ 8) (hC : zCbp M' (vr k :: av) mem b) (kk : AW M nx ls (vi (bi b) :: rest) mem Q) : AW M pc ls st mem Q := zw_callV hM hd hM' hL hR hst hc hw hC (fun r m2 h => by obtain ⟨rfl, rfl⟩ := h; exact kk)
theorem zw_Vb {ci k : Nat} {fs : List (Option Nat)} {b : Bool} {P : zMem → Prop} (hM : zOK M) (hd : zlook (mTbl M) pc = some (.invokevirtual idx, 3, nx)) (hM' : zOK M') (hL : zLV (mOwn M) idx M' ci n) (hR : mFr M' + 1 ≤ mFr M ∧ 8 + (mL M' + 11) + mLo M' ≤ mLo M) (hst : zsplit n st [] = some (av, vr k :: rest)) (hc : zrow k = (3, ci, fs)) (hw : zcat rest ≤ 8) (hC : zCb M' (vr k :: av) mem b P) (kk : ∀ m2, P m2 → AW M nx ls (vi (bi b) :: rest) m2 Q) : AW M pc ls st mem Q := zw_callV hM hd hM' hL hR hst hc hw hC (fun r m2 h => by obtain ⟨rfl, h⟩ := h; exact kk _ h)
theorem zw_Vv {ci k : Nat} {fs : List (Option Nat)} {P : zMem → Prop} (hM : zOK M) (hd : zlook (mTbl M) pc = some (.invokevirtual idx, 3, nx)) (hM' : zOK M') (hL : zLV (mOwn M) idx M' ci n) (hR : mFr M' + 1 ≤ mFr M ∧ 8 + (mL M' + 11) + mLo M' ≤ mLo M) (hst : zsplit n st [] = some (av, vr k :: rest)) (hc : zrow k = (3, ci, fs)) (hw : zcat rest ≤ 8) (hC : zCv M' (vr k :: av) mem P) (kk : ∀ m2, P m2 → AW M nx ls rest m2 Q) : AW M pc ls st mem Q := zw_callV hM hd hM' hL hR hst hc hw hC (fun r m2 h => by obtain ⟨rfl, h⟩ := h; exact kk _ h)
theorem zw_Vvp {ci k : Nat} {fs : List (Option Nat)} {m3 : zMem} (hM : zOK M) (hd : zlook (mTbl M) pc = some (.invokevirtual idx, 3, nx)) (hM' : zOK M') (hL : zLV (mOwn M) idx M' ci n) (hR : mFr M' + 1 ≤ mFr M ∧ 8 + (mL M' + 11) + mLo M' ≤ mLo M) (hst : zsplit n st [] = some (av, vr k :: rest)) (hc : zrow k = (3, ci, fs)) (hw : zcat rest ≤ 8) (hC : zCvp M' (vr k :: av) mem m3) (kk : AW M nx ls rest m3 Q) : AW M pc ls st mem Q := zw_callV hM hd hM' hL hR hst hc hw hC (fun r m2 h => by obtain ⟨rfl, rfl⟩ := h; exact kk)
theorem zw_Vl {ci k : Nat} {fs : List (Option Nat)} {X : Int} {P : zMem → Prop} (hM : zOK M) (hd : zlook (mTbl M) pc = some (.invokevirtual idx, 3, nx)) (hM' : zOK M') (hL : zLV (mOwn M) idx M' ci n) (hR : mFr M' + 1 ≤ mFr M ∧ 8 + (mL M' + 11) + mLo M' ≤ mLo M) (hst : zsplit n st [] = some (av, vr k :: rest)) (hc : zrow k = (3, ci, fs)) (hw : zcat rest ≤ 8) (hC : zCl M' (vr k :: av) mem X P) (kk : ∀ m2, P m2 → AW M nx ls (vl X :: rest) m2 Q) : AW M pc ls st mem Q := zw_callV hM hd hM' hL hR hst hc hw hC (fun r m2 h => by obtain ⟨rfl, h⟩ := h; exact kk _ h)
theorem zw_Vlp {ci k : Nat} {fs : List (Option Nat)} {X : Int} (hM : zOK M) (hd : zlook (mTbl M) pc = some (.invokevirtual idx, 3, nx)) (hM' : zOK M') (hL : zLV (mOwn M) idx M' ci n) (hR : mFr M' + 1 ≤ mFr M ∧ 8 + (mL M' + 11) + mLo M' ≤ mLo M) (hst : zsplit n st [] = some (av, vr k :: rest)) (hc : zrow k = (3, ci, fs)) (hw : zcat rest ≤ 8) (hC : zClp M' (vr k :: av) mem X) (kk : AW M nx ls (vl X :: rest) mem Q) : AW M pc ls st mem Q := zw_callV hM hd hM' hL hR hst hc hw hC (fun r m2 h => by obtain ⟨rfl, rfl⟩ := h; exact kk)
theorem zw_Vrp {ci k : Nat} {fs : List (Option Nat)} {k2 : Nat} (hM : zOK M) (hd : zlook (mTbl M) pc = some (.invokevirtual idx, 3, nx)) (hM' : zOK M') (hL : zLV (mOwn M) idx M' ci n) (hR : mFr M' + 1 ≤ mFr M ∧ 8 + (mL M' + 11) + mLo M' ≤ mLo M) (hst : zsplit n st [] = some (av, vr k :: rest)) (hc : zrow k = (3, ci, fs)) (hw : zcat rest ≤ 8) (hC : zCrp M' (vr k :: av) mem k2) (kk : AW M nx ls (vr k2 :: rest) mem Q) : AW M pc ls st mem Q := zw_callV hM hd hM' hL hR hst hc hw hC (fun r m2 h => by obtain ⟨rfl, rfl⟩ := h; exact kk)
end ZCW
