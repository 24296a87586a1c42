/-! ===== the reference: its day's cells as a value ===== -/
/-- last, less bowed, most, gone, bows, first hour, first who -/
abbrev zM : Type := (Int → Int) × (Int → Int) × (Int → Int) × Int × Int × Int × Int
def mRow (f : Int → Int) (x : zM) : Int → Int := fun j => if j = 18 then x.2.2.2.1 else if j = 19 then x.2.2.2.2.1 else if j = 20 then x.2.2.2.2.2.1 else if j = 21 then x.2.2.2.2.2.2 else f j
def putM (mem : zMem) (x : zM) : zMem := zput (zput (zput (zput mem 59 x.1) 60 x.2.1) 61 x.2.2.1) 48 (mRow (mem 48) x)
section
variable {mem : zMem} {x : zM} {la lb mo f : Int → Int} {g n fh fw i v : Int}
theorem rd_M18 : putM mem (la, lb, mo, g, n, fh, fw) 48 18 = g := rfl
theorem rd_M19 : putM mem (la, lb, mo, g, n, fh, fw) 48 19 = n := rfl
theorem rd_M20 : putM mem (la, lb, mo, g, n, fh, fw) 48 20 = fh := rfl
theorem rd_M21 : putM mem (la, lb, mo, g, n, fh, fw) 48 21 = fw := rfl
theorem rd_M59 : putM mem (la, lb, mo, g, n, fh, fw) 59 = la := rfl
theorem rd_M60 : putM mem (la, lb, mo, g, n, fh, fw) 60 = lb := rfl
theorem rd_M61 : putM mem (la, lb, mo, g, n, fh, fw) 61 = mo := rfl
theorem rd_Mj4 : putM mem x 48 4 = mem 48 4 := rfl
theorem rd_Mj7 : putM mem x 48 7 = mem 48 7 := rfl
theorem rd_Mj9 : putM mem x 48 9 = mem 48 9 := rfl
theorem rd_Mj11 : putM mem x 48 11 = mem 48 11 := rfl
theorem rd_Mj13 : putM mem x 48 13 = mem 48 13 := rfl
theorem rd_Mj22 : putM mem x 48 22 = mem 48 22 := rfl
theorem rd_Mj23 : putM mem x 48 23 = mem 48 23 := rfl
theorem rd_Mj24 : putM mem x 48 24 = mem 48 24 := rfl
theorem rd_Mj27 : putM mem x 48 27 = mem 48 27 := rfl
theorem rd_Mj30 : putM mem x 48 30 = mem 48 30 := rfl
theorem rd_M_49 : putM mem x 49 = mem 49 := rfl
theorem rd_M_50 : putM mem x 50 = mem 50 := rfl
theorem rd_M_51 : putM mem x 51 = mem 51 := rfl
theorem rd_M_52 : putM mem x 52 = mem 52 := rfl
theorem rd_M_53 : putM mem x 53 = mem 53 := rfl
theorem rd_M_54 : putM mem x 54 = mem 54 := rfl
theorem rd_M_55 : putM mem x 55 = mem 55 := rfl
theorem rd_M_56 : putM mem x 56 = mem 56 := rfl
theorem rd_M_57 : putM mem x 57 = mem 57 := rfl
theorem rd_M_58 : putM mem x 58 = mem 58 := rfl
theorem rd_M_62 : putM mem x 62 = mem 62 := rfl
theorem rd_M_63 : putM mem x 63 = mem 63 := rfl
theorem rd_M_64 : putM mem x 64 = mem 64 := rfl
theorem rd_M_65 : putM mem x 65 = mem 65 := rfl
theorem putM_j {j : Int} (h : ¬ (18 ≤ j ∧ j ≤ 21)) : putM mem x 48 j = mem 48 j := by
  show mRow (mem 48) x j = mem 48 j
  unfold mRow
  rw [if_neg (by omega), if_neg (by omega), if_neg (by omega), if_neg (by omega)]
theorem putM_ne {k : Nat} (h : k ≠ 48 ∧ k ≠ 59 ∧ k ≠ 60 ∧ k ≠ 61) : putM mem x k = mem k := by
  unfold putM
  rw [zput_ne h.1, zput_ne h.2.2.2, zput_ne h.2.2.1, zput_ne h.2.1]
theorem putM_cases {a b : zMem} (h : ∀ k, (k ≠ 48 ∧ k ≠ 59 ∧ k ≠ 60 ∧ k ≠ 61) → a k = b k) (h4 : a 48 = b 48) (h5 : a 59 = b 59) (h6 : a 60 = b 60) (h7 : a 61 = b 61) : a = b := by
  funext k
  by_cases hk : k ≠ 48 ∧ k ≠ 59 ∧ k ≠ 60 ∧ k ≠ 61
  · exact h k hk
  · have : k = 48 ∨ k = 59 ∨ k = 60 ∨ k = 61 := by omega
    rcases this with rfl | rfl | rfl | rfl <;> assumption
theorem wr_M18 : zset (putM mem (la, lb, mo, g, n, fh, fw)) 48 18 v = putM mem (la, lb, mo, v, n, fh, fw) := by
  refine putM_cases (fun k hk => by rw [zset_ne hk.1, putM_ne hk, putM_ne hk]) ?_ rfl rfl rfl
  rw [zset_eq]
  funext q
  show zupd (mRow (mem 48) (la, lb, mo, g, n, fh, fw)) 18 v q = mRow (mem 48) (la, lb, mo, v, n, fh, fw) q
  simp only [zupd, mRow]
  (repeat' split) <;> first | rfl | omega
theorem wr_M19 : zset (putM mem (la, lb, mo, g, n, fh, fw)) 48 19 v = putM mem (la, lb, mo, g, v, fh, fw) := by
  refine putM_cases (fun k hk => by rw [zset_ne hk.1, putM_ne hk, putM_ne hk]) ?_ rfl rfl rfl
  rw [zset_eq]
  funext q
  show zupd (mRow (mem 48) (la, lb, mo, g, n, fh, fw)) 19 v q = mRow (mem 48) (la, lb, mo, g, v, fh, fw) q
  simp only [zupd, mRow]
  (repeat' split) <;> first | rfl | omega
theorem wr_M20 : zset (putM mem (la, lb, mo, g, n, fh, fw)) 48 20 v = putM mem (la, lb, mo, g, n, v, fw) := by
  refine putM_cases (fun k hk => by rw [zset_ne hk.1, putM_ne hk, putM_ne hk]) ?_ rfl rfl rfl
  rw [zset_eq]
  funext q
  show zupd (mRow (mem 48) (la, lb, mo, g, n, fh, fw)) 20 v q = mRow (mem 48) (la, lb, mo, g, n, v, fw) q
  simp only [zupd, mRow]
  (repeat' split) <;> first | rfl | omega
theorem wr_M21 : zset (putM mem (la, lb, mo, g, n, fh, fw)) 48 21 v = putM mem (la, lb, mo, g, n, fh, v) := by
  refine putM_cases (fun k hk => by rw [zset_ne hk.1, putM_ne hk, putM_ne hk]) ?_ rfl rfl rfl
  rw [zset_eq]
  funext q
  show zupd (mRow (mem 48) (la, lb, mo, g, n, fh, fw)) 21 v q = mRow (mem 48) (la, lb, mo, g, n, fh, v) q
  simp only [zupd, mRow]
  (repeat' split) <;> first | rfl | omega
theorem wr_M59 : zset (putM mem (la, lb, mo, g, n, fh, fw)) 59 i v = putM mem (zupd la i v, lb, mo, g, n, fh, fw) := putM_cases (fun k hk => by rw [zset_ne (by omega), putM_ne hk, putM_ne hk]) rfl rfl rfl rfl
theorem wr_M60 : zset (putM mem (la, lb, mo, g, n, fh, fw)) 60 i v = putM mem (la, zupd lb i v, mo, g, n, fh, fw) := putM_cases (fun k hk => by rw [zset_ne (by omega), putM_ne hk, putM_ne hk]) rfl rfl rfl rfl
theorem wr_M61 : zset (putM mem (la, lb, mo, g, n, fh, fw)) 61 i v = putM mem (la, lb, zupd mo i v, g, n, fh, fw) := putM_cases (fun k hk => by rw [zset_ne (by omega), putM_ne hk, putM_ne hk]) rfl rfl rfl rfl
theorem putM_self : putM mem (mem 59, mem 60, mem 61, mem 48 18, mem 48 19, mem 48 20, mem 48 21) = mem := by
  refine putM_cases (fun k hk => putM_ne hk) ?_ rfl rfl rfl
  show mRow (mem 48) _ = mem 48
  funext q
  simp only [mRow]
  (repeat' split) <;> first | rfl | (rename_i h; rw [h]) | (rename_i h _; rw [h]) | skip
/-- the same but for some places of the reference's own row, and some cells -/
def mfr (J : List Int) (L : List Nat) (a b : zMem) : Prop := (∀ k, k ≠ 48 → k ∉ L → b k = a k) ∧ ∀ j, j ∉ J → b 48 j = a 48 j
theorem mfr.rf {J : List Int} {L : List Nat} {a : zMem} : mfr J L a a := ⟨fun _ _ _ => rfl, fun _ _ => rfl⟩
theorem mfr.tr {J : List Int} {L : List Nat} {a b c : zMem} (h : mfr J L a b) (h2 : mfr J L b c) : mfr J L a c := ⟨fun k q1 q2 => (h2.1 k q1 q2).trans (h.1 k q1 q2), fun j q => (h2.2 j q).trans (h.2 j q)⟩
theorem mfr.mono {J J2 : List Int} {L L2 : List Nat} {a b : zMem} (h : mfr J L a b) (hJ : ∀ j ∈ J, j ∈ J2) (hL : ∀ k ∈ L, k ∈ L2) : mfr J2 L2 a b := ⟨fun k q1 q2 => h.1 k q1 (fun z => q2 (hL k z)), fun j q => h.2 j (fun z => q (hJ j z))⟩
theorem mfr.set {J : List Int} {L : List Nat} {a b : zMem} {k : Nat} {i v : Int} (h : mfr J L a b) (hk : k ∈ L) (h48 : k ≠ 48) : mfr J L a (zset b k i v) := ⟨fun q q1 q2 => (zset_ne (fun e : q = k => q2 (by rw [e]; exact hk))).trans (h.1 q q1 q2), fun j q => by rw [zset_ne (Ne.symm h48)]; exact h.2 j q⟩
theorem mfr.setj {J : List Int} {L : List Nat} {a b : zMem} {i v : Int} (h : mfr J L a b) (hi : i ∈ J) : mfr J L a (zset b 48 i v) := ⟨fun q q1 q2 => (zset_ne q1).trans (h.1 q q1 q2), fun j q => by rw [zset_eq, zupd_ne (fun e : j = i => q (by rw [e]; exact hi))]; exact h.2 j q⟩
theorem mfr.putM {J : List Int} {L : List Nat} {a b : zMem} {x : zM} (h : mfr J L a b) (hJ : ∀ j, 18 ≤ j → j ≤ 21 → j ∈ J) (hL : 59 ∈ L ∧ 60 ∈ L ∧ 61 ∈ L) : mfr J L a (putM b x) := ⟨fun k q1 q2 => (putM_ne ⟨q1, fun e => q2 (by rw [e]; exact hL.1), fun e => q2 (by rw [e]; exact hL.2.1), fun e => q2 (by rw [e]; exact hL.2.2)⟩).trans (h.1 k q1 q2), fun j q => (putM_j (fun z => q (hJ j z.1 z.2))).trans (h.2 j q)⟩
end
