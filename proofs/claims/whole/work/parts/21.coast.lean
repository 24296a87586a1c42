/-! ===== the coast: its cells as a value; the class's functions on it ===== -/
abbrev zL : Type := (Int → Int) × (Int → Int) × (Int → Int)
/-- due, lowest, gone, bows, first hour, first who -/
abbrev zS : Type := (Int → Int) × (Int → Int) × Int × Int × Int × Int
def cRow (f : Int → Int) (s : zS) : Int → Int := fun j => if j = 9 then s.2.2.1 else if j = 10 then s.2.2.2.1 else if j = 11 then s.2.2.2.2.1 else if j = 12 then s.2.2.2.2.2 else f j
def putC (mem : zMem) (L : zL) (s : zS) : zMem := zput (zput (zput (zput (zput (zput mem 25 L.1) 26 L.2.1) 27 L.2.2) 28 s.1) 29 s.2.1) 24 (cRow (mem 24) s)
section
variable {mem : zMem} {L : zL} {s : zS} {st hd df d l f : Int → Int} {g n fh fw i v : Int}
theorem rd_C9 : putC mem L (d, l, g, n, fh, fw) 24 9 = g := rfl
theorem rd_C10 : putC mem L (d, l, g, n, fh, fw) 24 10 = n := rfl
theorem rd_C11 : putC mem L (d, l, g, n, fh, fw) 24 11 = fh := rfl
theorem rd_C12 : putC mem L (d, l, g, n, fh, fw) 24 12 = fw := rfl
theorem rd_C25 : putC mem (st, hd, df) s 25 = st := rfl
theorem rd_C26 : putC mem (st, hd, df) s 26 = hd := rfl
theorem rd_C27 : putC mem (st, hd, df) s 27 = df := rfl
theorem rd_C28 : putC mem L (d, l, g, n, fh, fw) 28 = d := rfl
theorem rd_C29 : putC mem L (d, l, g, n, fh, fw) 29 = l := rfl
theorem rd_C_0 : putC mem L s 0 = mem 0 := rfl
theorem rd_C_1 : putC mem L s 1 = mem 1 := rfl
theorem rd_C_2 : putC mem L s 2 = mem 2 := rfl
theorem rd_C_3 : putC mem L s 3 = mem 3 := rfl
theorem rd_C_4 : putC mem L s 4 = mem 4 := rfl
theorem rd_C_5 : putC mem L s 5 = mem 5 := rfl
theorem rd_C_6 : putC mem L s 6 = mem 6 := rfl
theorem rd_C_7 : putC mem L s 7 = mem 7 := rfl
theorem rd_C_8 : putC mem L s 8 = mem 8 := rfl
theorem rd_C_9 : putC mem L s 9 = mem 9 := rfl
theorem rd_C_10 : putC mem L s 10 = mem 10 := rfl
theorem rd_C_11 : putC mem L s 11 = mem 11 := rfl
theorem rd_C_12 : putC mem L s 12 = mem 12 := rfl
theorem rd_C_13 : putC mem L s 13 = mem 13 := rfl
theorem rd_C_14 : putC mem L s 14 = mem 14 := rfl
theorem rd_C_15 : putC mem L s 15 = mem 15 := rfl
theorem rd_C_16 : putC mem L s 16 = mem 16 := rfl
theorem rd_C_17 : putC mem L s 17 = mem 17 := rfl
theorem rd_C_18 : putC mem L s 18 = mem 18 := rfl
theorem rd_C_19 : putC mem L s 19 = mem 19 := rfl
theorem rd_C_20 : putC mem L s 20 = mem 20 := rfl
theorem rd_C_21 : putC mem L s 21 = mem 21 := rfl
theorem rd_C_22 : putC mem L s 22 = mem 22 := rfl
theorem rd_C_23 : putC mem L s 23 = mem 23 := rfl
theorem rd_C_30 : putC mem L s 30 = mem 30 := rfl
theorem rd_C_31 : putC mem L s 31 = mem 31 := rfl
theorem rd_C_32 : putC mem L s 32 = mem 32 := rfl
theorem rd_C_33 : putC mem L s 33 = mem 33 := rfl
theorem rd_C_34 : putC mem L s 34 = mem 34 := rfl
theorem rd_C_35 : putC mem L s 35 = mem 35 := rfl
theorem rd_C_36 : putC mem L s 36 = mem 36 := rfl
theorem rd_C_37 : putC mem L s 37 = mem 37 := rfl
theorem rd_C_38 : putC mem L s 38 = mem 38 := rfl
theorem rd_C_39 : putC mem L s 39 = mem 39 := rfl
theorem rd_C_40 : putC mem L s 40 = mem 40 := rfl
theorem rd_C_41 : putC mem L s 41 = mem 41 := rfl
theorem rd_C_42 : putC mem L s 42 = mem 42 := rfl
theorem rd_C_43 : putC mem L s 43 = mem 43 := rfl
theorem rd_C_44 : putC mem L s 44 = mem 44 := rfl
theorem rd_C_45 : putC mem L s 45 = mem 45 := rfl
theorem rd_C_46 : putC mem L s 46 = mem 46 := rfl
theorem rd_C_47 : putC mem L s 47 = mem 47 := rfl
theorem rd_C_48 : putC mem L s 48 = mem 48 := rfl
theorem rd_C_49 : putC mem L s 49 = mem 49 := rfl
theorem rd_C_50 : putC mem L s 50 = mem 50 := rfl
theorem rd_C_51 : putC mem L s 51 = mem 51 := rfl
theorem rd_C_52 : putC mem L s 52 = mem 52 := rfl
theorem rd_C_53 : putC mem L s 53 = mem 53 := rfl
theorem rd_C_54 : putC mem L s 54 = mem 54 := rfl
theorem rd_C_55 : putC mem L s 55 = mem 55 := rfl
theorem rd_C_56 : putC mem L s 56 = mem 56 := rfl
theorem rd_C_57 : putC mem L s 57 = mem 57 := rfl
theorem rd_C_58 : putC mem L s 58 = mem 58 := rfl
theorem rd_C_59 : putC mem L s 59 = mem 59 := rfl
theorem rd_C_60 : putC mem L s 60 = mem 60 := rfl
theorem rd_C_61 : putC mem L s 61 = mem 61 := rfl
theorem rd_C_62 : putC mem L s 62 = mem 62 := rfl
theorem rd_C_63 : putC mem L s 63 = mem 63 := rfl
theorem rd_C_64 : putC mem L s 64 = mem 64 := rfl
theorem rd_C_65 : putC mem L s 65 = mem 65 := rfl
theorem putC_ne {k : Nat} (h : k < 24 ∨ 29 < k) : putC mem L s k = mem k := by
  unfold putC
  rw [zput_ne (by omega), zput_ne (by omega), zput_ne (by omega), zput_ne (by omega), zput_ne (by omega), zput_ne (by omega)]
theorem zm_ext {a b : zMem} (h : ∀ k, a k = b k) : a = b := funext h
theorem putC_cases {a b : zMem} (h : ∀ k, (k < 24 ∨ 29 < k) → a k = b k) (h4 : a 24 = b 24) (h5 : a 25 = b 25) (h6 : a 26 = b 26) (h7 : a 27 = b 27) (h8 : a 28 = b 28) (h9 : a 29 = b 29) : a = b := by
  funext k
  by_cases hk : k < 24 ∨ 29 < k
  · exact h k hk
  · have : k = 24 ∨ k = 25 ∨ k = 26 ∨ k = 27 ∨ k = 28 ∨ k = 29 := by omega
    rcases this with rfl | rfl | rfl | rfl | rfl | rfl <;> assumption
theorem wr_C9 : zset (putC mem L (d, l, g, n, fh, fw)) 24 9 v = putC mem L (d, l, v, n, fh, fw) := by
  refine putC_cases (fun k hk => by rw [zset_ne (by omega), putC_ne hk, putC_ne hk]) ?_ rfl rfl rfl rfl rfl
  rw [zset_eq]
  funext q
  show zupd (cRow (mem 24) (d, l, g, n, fh, fw)) 9 v q = cRow (mem 24) (d, l, v, n, fh, fw) q
  simp only [zupd, cRow]
  (repeat' split) <;> first | rfl | omega
theorem wr_C10 : zset (putC mem L (d, l, g, n, fh, fw)) 24 10 v = putC mem L (d, l, g, v, fh, fw) := by
  refine putC_cases (fun k hk => by rw [zset_ne (by omega), putC_ne hk, putC_ne hk]) ?_ rfl rfl rfl rfl rfl
  rw [zset_eq]
  funext q
  show zupd (cRow (mem 24) (d, l, g, n, fh, fw)) 10 v q = cRow (mem 24) (d, l, g, v, fh, fw) q
  simp only [zupd, cRow]
  (repeat' split) <;> first | rfl | omega
theorem wr_C11 : zset (putC mem L (d, l, g, n, fh, fw)) 24 11 v = putC mem L (d, l, g, n, v, fw) := by
  refine putC_cases (fun k hk => by rw [zset_ne (by omega), putC_ne hk, putC_ne hk]) ?_ rfl rfl rfl rfl rfl
  rw [zset_eq]
  funext q
  show zupd (cRow (mem 24) (d, l, g, n, fh, fw)) 11 v q = cRow (mem 24) (d, l, g, n, v, fw) q
  simp only [zupd, cRow]
  (repeat' split) <;> first | rfl | omega
theorem wr_C12 : zset (putC mem L (d, l, g, n, fh, fw)) 24 12 v = putC mem L (d, l, g, n, fh, v) := by
  refine putC_cases (fun k hk => by rw [zset_ne (by omega), putC_ne hk, putC_ne hk]) ?_ rfl rfl rfl rfl rfl
  rw [zset_eq]
  funext q
  show zupd (cRow (mem 24) (d, l, g, n, fh, fw)) 12 v q = cRow (mem 24) (d, l, g, n, fh, v) q
  simp only [zupd, cRow]
  (repeat' split) <;> first | rfl | omega
theorem wr_C25 : zset (putC mem (st, hd, df) s) 25 i v = putC mem (zupd st i v, hd, df) s := putC_cases (fun k hk => by rw [zset_ne (by omega), putC_ne hk, putC_ne hk]) rfl rfl rfl rfl rfl rfl
theorem wr_C26 : zset (putC mem (st, hd, df) s) 26 i v = putC mem (st, zupd hd i v, df) s := putC_cases (fun k hk => by rw [zset_ne (by omega), putC_ne hk, putC_ne hk]) rfl rfl rfl rfl rfl rfl
theorem wr_C27 : zset (putC mem (st, hd, df) s) 27 i v = putC mem (st, hd, zupd df i v) s := putC_cases (fun k hk => by rw [zset_ne (by omega), putC_ne hk, putC_ne hk]) rfl rfl rfl rfl rfl rfl
theorem wr_C28 : zset (putC mem L (d, l, g, n, fh, fw)) 28 i v = putC mem L (zupd d i v, l, g, n, fh, fw) := putC_cases (fun k hk => by rw [zset_ne (by omega), putC_ne hk, putC_ne hk]) rfl rfl rfl rfl rfl rfl
theorem wr_C29 : zset (putC mem L (d, l, g, n, fh, fw)) 29 i v = putC mem L (d, zupd l i v, g, n, fh, fw) := putC_cases (fun k hk => by rw [zset_ne (by omega), putC_ne hk, putC_ne hk]) rfl rfl rfl rfl rfl rfl
theorem wp_C25 : zput (putC mem (st, hd, df) s) 25 f = putC mem (f, hd, df) s := putC_cases (fun k hk => by rw [zput_ne (by omega), putC_ne hk, putC_ne hk]) rfl rfl rfl rfl rfl rfl
theorem wp_C26 : zput (putC mem (st, hd, df) s) 26 f = putC mem (st, f, df) s := putC_cases (fun k hk => by rw [zput_ne (by omega), putC_ne hk, putC_ne hk]) rfl rfl rfl rfl rfl rfl
theorem wp_C27 : zput (putC mem (st, hd, df) s) 27 f = putC mem (st, hd, f) s := putC_cases (fun k hk => by rw [zput_ne (by omega), putC_ne hk, putC_ne hk]) rfl rfl rfl rfl rfl rfl
theorem wp_C28 : zput (putC mem L (d, l, g, n, fh, fw)) 28 f = putC mem L (f, l, g, n, fh, fw) := putC_cases (fun k hk => by rw [zput_ne (by omega), putC_ne hk, putC_ne hk]) rfl rfl rfl rfl rfl rfl
theorem wp_C29 : zput (putC mem L (d, l, g, n, fh, fw)) 29 f = putC mem L (d, f, g, n, fh, fw) := putC_cases (fun k hk => by rw [zput_ne (by omega), putC_ne hk, putC_ne hk]) rfl rfl rfl rfl rfl rfl
theorem putC_self : putC mem (mem 25, mem 26, mem 27) (mem 28, mem 29, mem 24 9, mem 24 10, mem 24 11, mem 24 12) = mem := by
  refine putC_cases (fun k hk => putC_ne hk) ?_ rfl rfl rfl rfl rfl
  show cRow (mem 24) _ = mem 24
  funext q
  simp only [cRow]
  (repeat' split) <;> first | rfl | (rename_i h; rw [h]) | (rename_i h _; rw [h]) | skip
end
/-- a meets b, a being less -/
def meetS (can step : Int → Int) (a b : Int) (s : zS) : zS :=
  if zabs (s.1 (a * 8 + b)) ≤ can (if s.1 (a * 8 + b) ≤ 0 then b else a) then
    (zupd s.1 (a * 8 + b) (if s.1 (a * 8 + b) ≤ 0 then zabs (s.1 (a * 8 + b)) + step a else -(zabs (s.1 (a * 8 + b)) + step b)), zupd s.2.1 (if s.1 (a * 8 + b) ≤ 0 then b else a) (max (s.2.1 (if s.1 (a * 8 + b) ≤ 0 then b else a)) (zabs (s.1 (a * 8 + b)))), s.2.2.1, s.2.2.2.1 + 1, s.2.2.2.2.1, s.2.2.2.2.2)
  else (s.1, s.2.1, zor s.2.2.1 (zshl 1 (if s.1 (a * 8 + b) ≤ 0 then b else a)), s.2.2.2.1, s.2.2.2.2.1, if s.2.2.1 ≠ 0 then s.2.2.2.2.2 else (if s.1 (a * 8 + b) ≤ 0 then b else a))
def sInv (P : Int) (s : zS) : Prop := (∀ a b, 0 ≤ a → a < b → b < P → (1 ≤ s.1 (a * 8 + b) ∧ s.1 (a * 8 + b) ≤ 109) ∨ (-109 ≤ s.1 (a * 8 + b) ∧ s.1 (a * 8 + b) ≤ -1)) ∧ (∀ p, 0 ≤ p → p < P → 0 ≤ s.2.1 p ∧ s.2.1 p ≤ 99) ∧ 0 ≤ s.2.2.1 ∧ s.2.2.1 < 256
def pInv (P : Int) (can step : Int → Int) : Prop := 0 ≤ P ∧ P ≤ 8 ∧ ∀ p, 0 ≤ p → p < P → (0 ≤ can p ∧ can p ≤ 99) ∧ (1 ≤ step p ∧ step p ≤ 10)
theorem zabs_1 {x : Int} (h : x ≤ 0) : zabs x = -x := by unfold zabs; split <;> omega
theorem zabs_2 {x : Int} (h : ¬ x ≤ 0) : zabs x = x := by unfold zabs; split <;> omega
theorem meetS_inv {P : Int} {can step : Int → Int} {a b : Int} {s : zS} (hp : pInv P can step) (ha : 0 ≤ a) (hab : a < b) (hb : b < P) (hs : sInv P s) : sInv P (meetS can step a b s) := by
  obtain ⟨d, l, g, n, fh, fw⟩ := s
  obtain ⟨h1, h2, h3, h4⟩ := hs
  obtain ⟨p1, p2, p3⟩ := hp
  dsimp only at h1 h2 h3 h4
  have ca := p3 a ha (by omega)
  have cb := p3 b (by omega) hb
  have e := h1 a b ha hab hb
  unfold meetS
  dsimp only
  by_cases hz : d (a * 8 + b) ≤ 0
  · simp only [hz, if_true, zabs_1 hz]
    split
    · refine ⟨fun a' b' q1 q2 q3 => ?_, fun p q1 q2 => ?_, h3, h4⟩
      · dsimp only
        by_cases hq : a' * 8 + b' = a * 8 + b
        · rw [hq, zupd_eq]; omega
        · rw [zupd_ne hq]; exact h1 a' b' q1 q2 q3
      · dsimp only
        have := h2 p q1 q2
        by_cases hq : p = b
        · subst hq; rw [zupd_eq]; omega
        · rw [zupd_ne hq]; exact this
    · refine ⟨h1, h2, ?_⟩
      exact z8or' ⟨h3, h4⟩ (by omega)
  · simp only [hz, if_false, zabs_2 hz]
    split
    · refine ⟨fun a' b' q1 q2 q3 => ?_, fun p q1 q2 => ?_, h3, h4⟩
      · dsimp only
        by_cases hq : a' * 8 + b' = a * 8 + b
        · rw [hq, zupd_eq]; omega
        · rw [zupd_ne hq]; exact h1 a' b' q1 q2 q3
      · dsimp only
        have := h2 p q1 q2
        by_cases hq : p = a
        · subst hq; rw [zupd_eq]; omega
        · rw [zupd_ne hq]; exact this
    · refine ⟨h1, h2, ?_⟩
      exact z8or' ⟨h3, h4⟩ (by omega)
