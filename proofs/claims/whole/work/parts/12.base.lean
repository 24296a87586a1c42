/-! ===== Int32 by its bits: bt x i ===== -/
def bt (x : Int32) (i : Nat) : Bool := x.toBitVec.getLsbD i
theorem b_ext {x y : Int32} (h : ∀ i, i < 32 → bt x i = bt y i) : x = y := Int32.toBitVec_inj.mp (BitVec.eq_of_getLsbD_eq (fun i hi => h i hi))
theorem b_or (x y : Int32) (i : Nat) : bt (x ||| y) i = (bt x i || bt y i) := by unfold bt; rw [Int32.toBitVec_or, BitVec.getLsbD_or]
theorem b_and (x y : Int32) (i : Nat) : bt (x &&& y) i = (bt x i && bt y i) := by unfold bt; rw [Int32.toBitVec_and, BitVec.getLsbD_and]
theorem b_xor (x y : Int32) (i : Nat) : bt (x ^^^ y) i = (bt x i ^^ bt y i) := by unfold bt; rw [Int32.toBitVec_xor, BitVec.getLsbD_xor]
theorem b_big {x : Int32} {i : Nat} (h : 32 ≤ i) : bt x i = false := BitVec.getLsbD_of_ge _ _ h
theorem b_255 (i : Nat) : bt 255 i = decide (i < 8) := by
  rcases Nat.lt_or_ge i 32 with h | h
  · exact (by decide +kernel : ∀ i, i < 32 → bt 255 i = decide (i < 8)) i h
  · rw [b_big h, decide_eq_false (by omega)]
theorem b_65535 (i : Nat) : bt 65535 i = decide (i < 16) := by
  rcases Nat.lt_or_ge i 32 with h | h
  · exact (by decide +kernel : ∀ i, i < 32 → bt 65535 i = decide (i < 16)) i h
  · rw [b_big h, decide_eq_false (by omega)]
theorem b_m1 : ∀ i, i < 32 → bt (-1) i = true := by decide +kernel
theorem b_0 (i : Nat) : bt 0 i = false := BitVec.getLsbD_zero
theorem s_l : ∀ n, n < 32 → ((nI n &&& 31).toBitVec.smod 32).toNat = n := by decide +kernel
theorem s_u : ∀ n, n < 32 → (((nI n).toUInt32 &&& Int32.toUInt32 31).toBitVec % 32).toNat = n := by decide +kernel
theorem b_shl (n : Nat) (hn : n < 32) (x : Int32) {i : Nat} (hi : i < 32) : bt (x <<< (nI n &&& 31)) i = (decide (n ≤ i) && bt x (i - n)) := by
  unfold bt
  rw [Int32.toBitVec_shiftLeft]
  show (x.toBitVec <<< ((nI n &&& 31).toBitVec.smod 32).toNat).getLsbD i = _
  rw [s_l n hn, BitVec.getLsbD_shiftLeft]
  rcases Nat.lt_or_ge i n with h | h
  · simp [h, Nat.not_le.mpr h]
  · simp [hi, h, Nat.not_lt.mpr h]
theorem b_ushr (n : Nat) (hn : n < 32) (x : Int32) (i : Nat) : bt ((x.toUInt32 >>> ((nI n).toUInt32 &&& Int32.toUInt32 31)).toInt32) i = bt x (n + i) := by
  show (x.toUInt32 >>> ((nI n).toUInt32 &&& Int32.toUInt32 31)).toBitVec.getLsbD i = x.toUInt32.toBitVec.getLsbD (n + i)
  rw [UInt32.toBitVec_shiftRight]
  show (x.toUInt32.toBitVec >>> (((nI n).toUInt32 &&& Int32.toUInt32 31).toBitVec % 32).toNat).getLsbD i = _
  rw [s_u n hn, BitVec.getLsbD_ushiftRight]
theorem b_sshr (n : Nat) (hn : n < 32) (x : Int32) {i : Nat} (hi : i < 32) : bt (x >>> (nI n &&& 31)) i = if n + i < 32 then bt x (n + i) else bt x 31 := by
  unfold bt
  rw [Int32.toBitVec_shiftRight]
  show (x.toBitVec.sshiftRight ((nI n &&& 31).toBitVec.smod 32).toNat).getLsbD i = _
  rw [s_l n hn, BitVec.getLsbD_sshiftRight, BitVec.msb_eq_getLsbD_last]
  simp [hi]
/-! ===== numbers: the machine's and, or, shifts, division in Int; memory; loops ===== -/
theorem znI {x : Int} (h : 0 ≤ x) : Int32.ofInt x = nI x.toNat := by
  obtain ⟨n, rfl⟩ := Int.eq_ofNat_of_zero_le h
  simp [nI, Int32.ofInt_eq_ofNat]
theorem zdiv_nn {x y : Int} (hx : 0 ≤ x ∧ x < 2147483648) (hy : 0 < y ∧ y < 2147483648) : zdiv x y = x / y := by
  have e : Int32.ofInt x / Int32.ofInt y = nI (x.toNat / y.toNat) := by
    rw [znI hx.1, znI (by omega : 0 ≤ y), pk_div (by omega) (by omega) (by omega)]
  have hle : x.toNat / y.toNat ≤ x.toNat := Nat.div_le_self _ _
  unfold zdiv
  rw [e, nI_toInt (by omega), Int.natCast_ediv, Int.toNat_of_nonneg hx.1, Int.toNat_of_nonneg (by omega : 0 ≤ y)]
theorem zrem_nn {x y : Int} (hx : 0 ≤ x ∧ x < 2147483648) (hy : 0 < y ∧ y < 2147483648) : zrem x y = x % y := by
  have e : Int32.ofInt x - Int32.ofInt x / Int32.ofInt y * Int32.ofInt y = nI (x.toNat % y.toNat) := by
    rw [znI hx.1, znI (by omega : 0 ≤ y), pk_rem (by omega) (by omega) (by omega)]
  have hle : x.toNat % y.toNat ≤ x.toNat := Nat.mod_le _ _
  unfold zrem
  rw [e, nI_toInt (by omega), Int.natCast_emod, Int.toNat_of_nonneg hx.1, Int.toNat_of_nonneg (by omega : 0 ≤ y)]
theorem zR32 (x : Int32) : -2147483648 ≤ x.toInt ∧ x.toInt < 2147483648 := by
  have h1 := Int32.le_toInt x
  have h2 := Int32.toInt_lt x
  omega
theorem zR_and (x y : Int) : -2147483648 ≤ zand x y ∧ zand x y < 2147483648 := zR32 _
theorem zR_or (x y : Int) : -2147483648 ≤ zor x y ∧ zor x y < 2147483648 := zR32 _
theorem zR_xor (x y : Int) : -2147483648 ≤ zxor x y ∧ zxor x y < 2147483648 := zR32 _
theorem zR_shl (x y : Int) : -2147483648 ≤ zshl x y ∧ zshl x y < 2147483648 := zR32 _
theorem zR_shr (x y : Int) : -2147483648 ≤ zshr x y ∧ zshr x y < 2147483648 := zR32 _
/-- the bits of an int -/
def tb (x : Int) (i : Nat) : Bool := bt (Int32.ofInt x) i
theorem tb_and (x y : Int) (i : Nat) : tb (zand x y) i = (tb x i && tb y i) := by unfold tb zand; rw [zof32, b_and]
theorem tb_or (x y : Int) (i : Nat) : tb (zor x y) i = (tb x i || tb y i) := by unfold tb zor; rw [zof32, b_or]
theorem tb_xor (x y : Int) (i : Nat) : tb (zxor x y) i = (tb x i ^^ tb y i) := by unfold tb zxor; rw [zof32, b_xor]
theorem tb_0 (i : Nat) : tb 0 i = false := b_0 i
theorem tb_1 (i : Nat) : tb 1 i = decide (i = 0) := by
  rcases Nat.lt_or_ge i 32 with h | h
  · exact (by decide +kernel : ∀ i, i < 32 → tb 1 i = decide (i = 0)) i h
  · unfold tb; rw [b_big h, decide_eq_false (by omega)]
theorem tb_shl1 {k : Int} (hk : 0 ≤ k ∧ k < 32) {i : Nat} (hi : i < 32) : tb (zshl 1 k) i = decide (i = k.toNat) := by
  unfold tb zshl
  rw [zof32, znI hk.1, b_shl _ (by omega) _ hi]
  have h1 : bt (Int32.ofInt 1) (i - k.toNat) = decide (i - k.toNat = 0) := tb_1 _
  rw [h1]
  by_cases h : i = k.toNat
  · simp [h]
  · simp only [h, decide_false]
    by_cases h2 : k.toNat ≤ i
    · have : ¬ (i - k.toNat = 0) := by omega
      simp [this]
    · simp [h2]
theorem tb_ext {x y : Int} (hx : -2147483648 ≤ x ∧ x < 2147483648) (hy : -2147483648 ≤ y ∧ y < 2147483648) (h : ∀ i, i < 32 → tb x i = tb y i) : x = y := by
  have := b_ext (x := Int32.ofInt x) (y := Int32.ofInt y) h
  have := congrArg Int32.toInt this
  rwa [zto32 hx, zto32 hy] at this
/-- one bit, as the programs ask for it -/
theorem tb_ask {k : Int} (x : Int) (hk : 0 ≤ k ∧ k < 32) : zand (zshr x k) 1 = if tb x k.toNat then 1 else 0 := by
  apply tb_ext (zR_and _ _)
  · split <;> omega
  · intro i hi
    rw [tb_and, tb_1]
    unfold zshr
    have h1 : tb (Int32.ofInt x >>> (Int32.ofInt k &&& 31)).toInt i = if k.toNat + i < 32 then bt (Int32.ofInt x) (k.toNat + i) else bt (Int32.ofInt x) 31 := by
      unfold tb
      rw [zof32, znI hk.1, b_sshr _ (by omega) _ hi]
    rw [h1]
    by_cases h0 : i = 0
    · subst h0
      rw [if_pos (by omega), Nat.add_zero]
      show (tb x k.toNat && _) = _
      cases htb : tb x k.toNat <;> simp [tb_0, tb_1]
    · simp only [h0, decide_false, Bool.and_false]
      cases htb : tb x k.toNat <;> simp [tb_0, tb_1, h0]
theorem tb_ask0 {k : Int} (x : Int) (hk : 0 ≤ k ∧ k < 32) : zand (zshr x k) 1 = 0 ↔ tb x k.toNat = false := by
  rw [tb_ask x hk]; cases tb x k.toNat <;> simp
theorem tb_ask1 {k : Int} (x : Int) (hk : 0 ≤ k ∧ k < 32) : zand (zshr x k) 1 = 1 ↔ tb x k.toNat = true := by
  rw [tb_ask x hk]; cases tb x k.toNat <;> simp
theorem z8or : ∀ g, g < 256 → ∀ k, k < 8 → 0 ≤ zor ((g : Nat) : Int) (zshl 1 ((k : Nat) : Int)) ∧ zor ((g : Nat) : Int) (zshl 1 ((k : Nat) : Int)) < 256 := by decide +kernel
theorem z8or' {g k : Int} (hg : 0 ≤ g ∧ g < 256) (hk : 0 ≤ k ∧ k < 8) : 0 ≤ zor g (zshl 1 k) ∧ zor g (zshl 1 k) < 256 := by
  have := z8or g.toNat (by omega) k.toNat (by omega)
  rwa [Int.toNat_of_nonneg hg.1, Int.toNat_of_nonneg hk.1] at this
theorem tb_zero {x : Int} (hx : 0 ≤ x ∧ x < 256) : x = 0 ↔ ∀ i, i < 8 → tb x i = false := by
  have h : ∀ n, n < 256 → (((n : Nat) : Int) = 0 ↔ ∀ i, i < 8 → tb ((n : Nat) : Int) i = false) := by decide +kernel
  have := h x.toNat (by omega)
  rwa [Int.toNat_of_nonneg hx.1] at this
theorem tb_high {x : Int} (hx : 0 ≤ x ∧ x < 256) {i : Nat} (hi : 8 ≤ i ∧ i < 32) : tb x i = false := by
  have h : ∀ n, n < 256 → ∀ i, i < 32 → 8 ≤ i → tb ((n : Nat) : Int) i = false := by decide +kernel
  have := h x.toNat (by omega) i hi.2 hi.1
  rwa [Int.toNat_of_nonneg hx.1] at this
/-! memory -/
theorem zset_ne {mem : zMem} {k k2 : Nat} {i v : Int} (h : k2 ≠ k) : zset mem k i v k2 = mem k2 := by
  have hb : Nat.beq k2 k = false := by
    cases hq : Nat.beq k2 k with
    | false => rfl
    | true => exact absurd (Nat.eq_of_beq_eq_true hq) h
  simp [zset, zput, hb]
theorem zset_eq {mem : zMem} {k : Nat} {i v : Int} : zset mem k i v k = zupd (mem k) i v := by simp [zset, zput]
theorem zput_ne {mem : zMem} {k k2 : Nat} {f : Int → Int} (h : k2 ≠ k) : zput mem k f k2 = mem k2 := by
  have hb : Nat.beq k2 k = false := by
    cases hq : Nat.beq k2 k with
    | false => rfl
    | true => exact absurd (Nat.eq_of_beq_eq_true hq) h
  simp [zput, hb]
theorem zput_eq {mem : zMem} {k : Nat} {f : Int → Int} : zput mem k f k = f := by simp [zput]
theorem zupd_eq {f : Int → Int} {i v : Int} : zupd f i v i = v := by simp [zupd]
theorem zupd_ne {f : Int → Int} {i v j : Int} (h : j ≠ i) : zupd f i v j = f j := by simp [zupd, h]
/-- the same but for these cells -/
def zfr (L : List Nat) (mem m2 : zMem) : Prop := ∀ k, k ∉ L → m2 k = mem k
theorem zfr.rf {L : List Nat} {mem : zMem} : zfr L mem mem := fun _ _ => rfl
theorem zfr.set {L : List Nat} {mem m2 : zMem} {k : Nat} {i v : Int} (h : zfr L mem m2) (hk : k ∈ L) : zfr L mem (zset m2 k i v) := fun j hj => (zset_ne (fun e : j = k => hj (by rw [e]; exact hk))).trans (h j hj)
theorem zfr.put {L : List Nat} {mem m2 : zMem} {k : Nat} {f : Int → Int} (h : zfr L mem m2) (hk : k ∈ L) : zfr L mem (zput m2 k f) := fun j hj => (zput_ne (fun e : j = k => hj (by rw [e]; exact hk))).trans (h j hj)
theorem zfr.trans {L : List Nat} {mem m2 m3 : zMem} (h : zfr L mem m2) (h2 : zfr L m2 m3) : zfr L mem m3 := fun j hj => (h2 j hj).trans (h j hj)
theorem zfr.mono {L L2 : List Nat} {mem m2 : zMem} (h : zfr L mem m2) (hs : ∀ k ∈ L, k ∈ L2) : zfr L2 mem m2 := fun j hj => h j (fun q => hj (hs j q))
/-- a loop: k rounds from i on -/
def lp {σ : Type} (f : Int → σ → σ) : Nat → Int → σ → σ
  | 0, _, s => s
  | k + 1, i, s => lp f k (i + 1) (f i s)
theorem lp_s {σ : Type} (f : Int → σ → σ) (k : Nat) (i : Int) (s : σ) : lp f (k + 1) i s = lp f k (i + 1) (f i s) := rfl
theorem lp_inv {σ : Type} {f : Int → σ → σ} {I : σ → Prop} : ∀ (k : Nat) (i : Int) (s : σ), (∀ j s, i ≤ j → j < i + k → I s → I (f j s)) → I s → I (lp f k i s)
  | 0, _, _, _, h => h
  | k + 1, i, s, hf, h => lp_inv k (i + 1) (f i s) (fun j s h1 h2 => hf j s (by omega) (by omega)) (hf i s (by omega) (by omega) h)
theorem lp_congr {σ : Type} {f g : Int → σ → σ} : ∀ (k : Nat) (i : Int) (s : σ), (∀ j s, i ≤ j → j < i + k → f j s = g j s) → lp f k i s = lp g k i s
  | 0, _, _, _ => rfl
  | k + 1, i, s, h => by
    rw [lp_s, lp_s, h i s (by omega) (by omega)]
    exact lp_congr k (i + 1) _ (fun j s h1 h2 => h j s (by omega) (by omega))
