/-! ===== the law: its loop; the cells as they are made ===== -/
def lt_law : List zRow := [(0, .new 7, 3, 3), (3, .dup, 1, 4), (4, .invokespecial 9, 3, 7), (7, .astore_n 1, 1, 8), (8, .new 10, 3, 11), (11, .dup, 1, 12), (12, .invokespecial 12, 3, 15), (15, .astore_n 2, 1, 16), (16, .iconst 0, 1, 17), (17, .istore_n 3, 1, 18), (18, .iload_n 3, 1, 19), (19, .aload_n 0, 1, 20), (20, .arraylength, 1, 21), (21, .bipush 6, 2, 23), (23, .isub, 1, 24), (24, .if_icmp .gt 1206, 3, 27), (27, .aload_n 0, 1, 28), (28, .iload_n 3, 1, 29), (29, .iaload, 1, 30), (30, .bipush 31, 2, 32), (32, .iand, 1, 33), (33, .tableswitch 1191 0 31 #[143, 176, 199, 222, 245, 278, 311, 354, 387, 410, 433, 466, 499, 542, 565, 608, 641, 664, 707, 750, 763, 786, 799, 853, 896, 939, 962, 1015, 1058, 1121, 1154, 1177], 143, 176), (1224, .iinc 3 6, 3, 1227), (1227, .goto (-1209), 3, 1230), (1230, .iconst 1, 1, 1231), (1231, .ireturn, 1, 1232)]
theorem lt_law_ok : lchk lt_law = true := by decide +kernel
theorem law_loop {b L : Nat} {xs : Nat → Int32} : ∀ (n i : Nat) (mem τ : zMem), i ≤ L → L < i + n → CI mem τ → MI mem τ → LW b L xs 18 i [] mem := by
  intro n
  induction n with
  | zero => intro i mem τ h1 h2; exact absurd h2 (by omega)
  | succ n ih =>
    intro i mem τ h1 h2 hI hJ
    refine lj_head 1230 lt_law_ok rfl rfl rfl rfl rfl rfl (by decide) h1 (lj_end lt_law_ok rfl rfl) (fun h6 => ?_)
    have kk : ∀ mem' τ', CI mem' τ' → MI mem' τ' → LW b L xs 1224 i [] mem' := fun m' t' q1 q2 => lj_next 18 lt_law_ok rfl rfl (by decide) (ih (i + 6) m' t' h6 (by omega) q1 q2)
    refine lj_switch lt_law_ok rfl rfl rfl rfl rfl rfl rfl (by omega) (fun tgt hm => ?_)
    simp only [List.mem_cons, List.not_mem_nil, or_false] at hm
    rcases hm with rfl | rfl | rfl | rfl | rfl | rfl | rfl | rfl | rfl | rfl | rfl | rfl | rfl | rfl | rfl | rfl | rfl | rfl | rfl | rfl | rfl | rfl | rfl | rfl | rfl | rfl | rfl | rfl | rfl | rfl | rfl | rfl
    · exact lc_type h6 hI hJ kk
    · exact lc_wipe h6 hI hJ kk
    · exact lc_undo h6 hI hJ kk
    · exact lc_fault h6 hI hJ kk
    · exact lc_person h6 hI hJ kk
    · exact lc_street h6 hI hJ kk
    · exact lc_old h6 hI hJ kk
    · exact lc_umbrella h6 hI hJ kk
    · exact lc_back h6 hI hJ kk
    · exact lc_read h6 hI hJ kk
    · exact lc_low h6 hI hJ kk
    · exact lc_behind h6 hI hJ kk
    · exact lc_owes h6 hI hJ kk
    · exact lc_first h6 hI hJ kk
    · exact lc_ends h6 hI hJ kk
    · exact lc_rings h6 hI hJ kk
    · exact lc_shade h6 hI hJ kk
    · exact lc_stroll h6 hI hJ kk
    · exact lc_seen h6 hI hJ kk
    · exact lc_forget h6 hI hJ kk
    · exact lc_never h6 hI hJ kk
    · exact lc_pass h6 hI hJ kk
    · exact lc_forgets h6 hI hJ kk
    · exact lc_season h6 hI hJ kk
    · exact lc_sheet h6 hI hJ kk
    · exact lc_lose h6 hI hJ kk
    · exact lc_lay h6 hI hJ kk
    · exact lc_get h6 hI hJ kk
    · exact lc_copy h6 hI hJ kk
    · exact lc_write h6 hI hJ kk
    · exact lc_count h6 hI hJ kk
    · exact lc_digest h6 hI hJ kk
def mem0 : zMem := fun k => bif Nat.beq k 5 then (fun j => if j = 6 then -1 else 0) else bif Nat.beq k 10 then (fun j => if j = 2 then -1 else 0) else bif Nat.beq k 11 then (fun j => if j < 96 then -1 else 0) else bif Nat.beq k 40 then (fun j => if j = 1 then 1 else 0) else bif Nat.beq k 42 then (fun j => if j = 1 then 1 else 0) else bif Nat.beq k 44 then (fun j => if j = 1 then 1 else 0) else bif Nat.beq k 46 then (fun j => if j = 1 then 1 else 0) else bif Nat.beq k 48 then (fun j => if j = 22 then -1 else if j = 24 then -1 else 0) else bif Nat.beq k 49 then (fun j => if j < 4 then -1 else 0) else (fun _ => 0)
def tau0 : zMem := fun k _ => bif Nat.beq k 11 then -1 else 0
theorem vac0 {P : Int → Prop} : ∀ i, 0 ≤ i → i < 0 → P i := fun i h1 h2 => absurd h2 (by omega)
theorem tauI0 : tauI tau0 := by
  refine ⟨⟨by decide, by decide, by decide, by decide, by decide, by decide⟩, vac0, vac0, vac0, vac0, vac0, ?_⟩
  intro s _ _
  exact ⟨⟨Int.le_refl _, by show (-1 : Int) ≤ 2; omega⟩, ⟨Int.le_refl _, by show (0 : Int) ≤ 60; omega⟩, fun i _ _ h => absurd rfl h⟩
theorem CI0 : CI mem0 tau0 := by
  refine ⟨tauI0, ⟨⟨rfl, by decide, vac0⟩, ⟨rfl, by decide, vac0⟩⟩, ⟨⟨⟨by decide, by decide, by decide⟩, ?_⟩, ⟨⟨by decide, by decide⟩, ?_⟩⟩, ⟨rfl, rfl, rfl, rfl⟩, vac0, vac0, vac0, ?_⟩
  · have e : sP (tau0 2 0) (tau0 0) = 0 := by decide
    rw [e]
    exact fun q h1 h2 => absurd h2 (by omega)
  · intro h p h0 h1 p0 p1
    show (if h * 8 + p < 96 then (-1 : Int) else 0) = _
    rw [if_pos (by omega)]
    rfl
  · intro s h0 h3
    rcases (show s = 0 ∨ s = 1 ∨ s = 2 ∨ s = 3 by omega) with rfl | rfl | rfl | rfl <;> exact ⟨⟨Or.inr rfl, by decide, by decide⟩, ⟨fun _ => rfl, fun _ => rfl⟩, fun h => absurd rfl h, rfl, fun h => absurd rfl h⟩
theorem MI0 : MI mem0 tau0 := by
  refine ⟨tauI0, ⟨⟨rfl, rfl⟩, vac0, vac0⟩, ⟨rfl, rfl, rfl, rfl⟩, vac0, vac0, vac0, ⟨rfl, rfl, rfl⟩, ?_⟩
  intro s h0 h3
  refine ⟨?_, rfl, fun h => absurd rfl h⟩
  show (if s < 4 then (-1 : Int) else 0) = -1
  rw [if_pos (by omega)]
theorem f11 : (fun t : Nat => if t < 96 then Int32.ofInt (-1) else Int32.ofInt 0) = (fun j : Nat => Int32.ofInt (mem0 11 j)) := by
  funext t
  show _ = Int32.ofInt (if (t : Int) < 96 then -1 else 0)
  by_cases h : t < 96
  · rw [if_pos h, if_pos (by omega)]
  · rw [if_neg h, if_neg (by omega)]
theorem f49 : upd (upd (upd (upd (fun _ => Int32.ofInt 0) 0 (Int32.ofInt (-1))) 1 (Int32.ofInt (-1))) 2 (Int32.ofInt (-1))) 3 (Int32.ofInt (-1)) = (fun j : Nat => Int32.ofInt (mem0 49 j)) := by
  funext t
  show (if t = 3 then _ else if t = 2 then _ else if t = 1 then _ else if t = 0 then _ else _) = Int32.ofInt (if (t : Int) < 4 then -1 else 0)
  by_cases h : t < 4
  · rw [if_pos (show (t : Int) < 4 by omega)]
    rcases (show t = 0 ∨ t = 1 ∨ t = 2 ∨ t = 3 by omega) with rfl | rfl | rfl | rfl <;> rfl
  · rw [if_neg (by omega), if_neg (by omega), if_neg (by omega), if_neg (by omega), if_neg (show ¬ (t : Int) < 4 by omega)]
theorem f39 {x0 x1 x2 x3 : Nat} {ad : Nat → Nat} (h0 : ad 40 = x0) (h1 : ad 42 = x1) (h2 : ad 44 = x2) (h3 : ad 46 = x3) : va_up (va_up (va_up (va_up (fun _ => none) 0 (some x0)) 1 (some x1)) 2 (some x2)) 3 (some x3) = (fun j : Nat => (([some 40, some 42, some 44, some 46] : List (Option Nat)).getD j none).map ad) := by
  subst h0; subst h1; subst h2; subst h3
  funext t
  show (if t = 3 then _ else if t = 2 then _ else if t = 1 then _ else if t = 0 then _ else _) = _
  match t with
  | 0 => rfl
  | 1 => rfl
  | 2 => rfl
  | 3 => rfl
  | n + 4 => rw [if_neg (by omega), if_neg (by omega), if_neg (by omega), if_neg (by omega)]; rfl
def ad66 (a q1 q2 q3 q4 q5 q6 q7 q8 q9 q10 q11 q12 q13 q14 q15 q16 q17 q18 q19 q20 q21 q22 q23 q24 q25 q26 q27 q28 q29 q30 q31 q32 q33 q34 q35 q36 q37 q38 q39 q40 q41 q42 q43 q44 q45 q46 q47 z r1 r2 r3 r4 r5 r6 r7 r8 r9 r10 r11 r12 r13 r14 r15 r16 r17 : Nat) : Nat → Nat := fun k => ([a, q1, q2, q3, q4, q5, q6, q7, q8, q9, q10, q11, q12, q13, q14, q15, q16, q17, q18, q19, q20, q21, q22, q23, q24, q25, q26, q27, q28, q29, q30, q31, q32, q33, q34, q35, q36, q37, q38, q39, q40, q41, q42, q43, q44, q45, q46, q47, z, r1, r2, r3, r4, r5, r6, r7, r8, r9, r10, r11, r12, r13, r14, r15, r16, r17] : List Nat).getD k 0
theorem zW_list (E : zEnv) (mem : zMem) : zW E mem = [(E.2.2 0, zE E (zrow 0) (mem 0)), (E.2.2 1, zE E (zrow 1) (mem 1)), (E.2.2 2, zE E (zrow 2) (mem 2)), (E.2.2 3, zE E (zrow 3) (mem 3)), (E.2.2 4, zE E (zrow 4) (mem 4)), (E.2.2 5, zE E (zrow 5) (mem 5)), (E.2.2 6, zE E (zrow 6) (mem 6)), (E.2.2 7, zE E (zrow 7) (mem 7)), (E.2.2 8, zE E (zrow 8) (mem 8)), (E.2.2 9, zE E (zrow 9) (mem 9)), (E.2.2 10, zE E (zrow 10) (mem 10)), (E.2.2 11, zE E (zrow 11) (mem 11)), (E.2.2 12, zE E (zrow 12) (mem 12)), (E.2.2 13, zE E (zrow 13) (mem 13)), (E.2.2 14, zE E (zrow 14) (mem 14)), (E.2.2 15, zE E (zrow 15) (mem 15)), (E.2.2 16, zE E (zrow 16) (mem 16)), (E.2.2 17, zE E (zrow 17) (mem 17)), (E.2.2 18, zE E (zrow 18) (mem 18)), (E.2.2 19, zE E (zrow 19) (mem 19)), (E.2.2 20, zE E (zrow 20) (mem 20)), (E.2.2 21, zE E (zrow 21) (mem 21)), (E.2.2 22, zE E (zrow 22) (mem 22)), (E.2.2 23, zE E (zrow 23) (mem 23)), (E.2.2 24, zE E (zrow 24) (mem 24)), (E.2.2 25, zE E (zrow 25) (mem 25)), (E.2.2 26, zE E (zrow 26) (mem 26)), (E.2.2 27, zE E (zrow 27) (mem 27)), (E.2.2 28, zE E (zrow 28) (mem 28)), (E.2.2 29, zE E (zrow 29) (mem 29)), (E.2.2 30, zE E (zrow 30) (mem 30)), (E.2.2 31, zE E (zrow 31) (mem 31)), (E.2.2 32, zE E (zrow 32) (mem 32)), (E.2.2 33, zE E (zrow 33) (mem 33)), (E.2.2 34, zE E (zrow 34) (mem 34)), (E.2.2 35, zE E (zrow 35) (mem 35)), (E.2.2 36, zE E (zrow 36) (mem 36)), (E.2.2 37, zE E (zrow 37) (mem 37)), (E.2.2 38, zE E (zrow 38) (mem 38)), (E.2.2 39, zE E (zrow 39) (mem 39)), (E.2.2 40, zE E (zrow 40) (mem 40)), (E.2.2 41, zE E (zrow 41) (mem 41)), (E.2.2 42, zE E (zrow 42) (mem 42)), (E.2.2 43, zE E (zrow 43) (mem 43)), (E.2.2 44, zE E (zrow 44) (mem 44)), (E.2.2 45, zE E (zrow 45) (mem 45)), (E.2.2 46, zE E (zrow 46) (mem 46)), (E.2.2 47, zE E (zrow 47) (mem 47)), (E.2.2 48, zE E (zrow 48) (mem 48)), (E.2.2 49, zE E (zrow 49) (mem 49)), (E.2.2 50, zE E (zrow 50) (mem 50)), (E.2.2 51, zE E (zrow 51) (mem 51)), (E.2.2 52, zE E (zrow 52) (mem 52)), (E.2.2 53, zE E (zrow 53) (mem 53)), (E.2.2 54, zE E (zrow 54) (mem 54)), (E.2.2 55, zE E (zrow 55) (mem 55)), (E.2.2 56, zE E (zrow 56) (mem 56)), (E.2.2 57, zE E (zrow 57) (mem 57)), (E.2.2 58, zE E (zrow 58) (mem 58)), (E.2.2 59, zE E (zrow 59) (mem 59)), (E.2.2 60, zE E (zrow 60) (mem 60)), (E.2.2 61, zE E (zrow 61) (mem 61)), (E.2.2 62, zE E (zrow 62) (mem 62)), (E.2.2 63, zE E (zrow 63) (mem 63)), (E.2.2 64, zE E (zrow 64) (mem 64)), (E.2.2 65, zE E (zrow 65) (mem 65))] := rfl
set_option maxRecDepth 100000 in
set_option maxHeartbeats 4000000 in
theorem world0 {F : gF} {a q1 q2 q3 q4 q5 q6 q7 q8 q9 q10 q11 q12 q13 q14 q15 q16 q17 q18 q19 q20 q21 q22 q23 q24 q25 q26 q27 q28 q29 q30 q31 q32 q33 q34 q35 q36 q37 q38 q39 q40 q41 q42 q43 q44 q45 q46 q47 z r1 r2 r3 r4 r5 r6 r7 r8 r9 r10 r11 r12 r13 r14 r15 r16 r17 : Nat} : [(a, .inr (10, [.ref q1, .ref q3, .ref q5, .ref q10, .ref q12, .ref q16, .ref q20, .ref q24, .ref q30, .ref q32, .ref q35, .ref q37, .ref q39, .int (Int32.ofInt 0)])), (q1, .inr (8, [.ref q2, .int (Int32.ofInt 0)])), (q2, .inl (F.2.1, 39, .inl (fun _ => Int32.ofInt 0))), (q3, .inr (8, [.ref q4, .int (Int32.ofInt 0)])), (q4, .inl (F.2.1, 71, .inl (fun _ => Int32.ofInt 0))), (q5, .inr (4, [.ref q6, .ref q7, .ref q8, .ref q9, .int (Int32.ofInt 0), .int (Int32.ofInt 0), .int (Int32.ofInt (-1))])), (q6, .inl (F.2.1, 8, .inl (fun _ => Int32.ofInt 0))), (q7, .inl (F.2.1, 8, .inl (fun _ => Int32.ofInt 0))), (q8, .inl (F.2.1, 8, .inl (fun _ => Int32.ofInt 0))), (q9, .inl (F.2.1, 8, .inl (fun _ => Int32.ofInt 0))), (q10, .inr (9, [.ref q11, .int (Int32.ofInt 0), .int (Int32.ofInt (-1))])), (q11, .inl (F.2.1, 96, .inl (fun t => if t < 96 then Int32.ofInt (-1) else Int32.ofInt 0))), (q12, .inr (3, [.ref q13, .ref q14, .ref q15, .int (Int32.ofInt 0)])), (q13, .inl (F.2.1, 12, .inl (fun _ => Int32.ofInt 0))), (q14, .inl (F.2.1, 12, .inl (fun _ => Int32.ofInt 0))), (q15, .inl (F.2.1, 12, .inl (fun _ => Int32.ofInt 0))), (q16, .inr (3, [.ref q17, .ref q18, .ref q19, .int (Int32.ofInt 0)])), (q17, .inl (F.2.1, 8, .inl (fun _ => Int32.ofInt 0))), (q18, .inl (F.2.1, 8, .inl (fun _ => Int32.ofInt 0))), (q19, .inl (F.2.1, 8, .inl (fun _ => Int32.ofInt 0))), (q20, .inr (3, [.ref q21, .ref q22, .ref q23, .int (Int32.ofInt 0)])), (q21, .inl (F.2.1, 8, .inl (fun _ => Int32.ofInt 0))), (q22, .inl (F.2.1, 8, .inl (fun _ => Int32.ofInt 0))), (q23, .inl (F.2.1, 8, .inl (fun _ => Int32.ofInt 0))), (q24, .inr (2, [.ref q5, .ref q10, .ref q12, .ref q16, .ref q25, .ref q26, .ref q27, .ref q28, .ref q29, .int (Int32.ofInt 0), .int (Int32.ofInt 0), .int (Int32.ofInt 0), .int (Int32.ofInt 0)])), (q25, .inl (F.2.1, 96, .inl (fun _ => Int32.ofInt 0))), (q26, .inl (F.2.1, 12, .inl (fun _ => Int32.ofInt 0))), (q27, .inl (F.2.1, 64, .inl (fun _ => Int32.ofInt 0))), (q28, .inl (F.2.1, 64, .inl (fun _ => Int32.ofInt 0))), (q29, .inl (F.2.1, 8, .inl (fun _ => Int32.ofInt 0))), (q30, .inr (5, [.ref q24, .ref q31, .int (Int32.ofInt 0)])), (q31, .inl (F.2.1, 2, .inl (fun _ => Int32.ofInt 0))), (q32, .inr (7, [.ref q24, .ref q33, .ref q34, .int (Int32.ofInt 0)])), (q33, .inl (F.2.1, 3, .inl (fun _ => Int32.ofInt 0))), (q34, .inl (F.2.1, 3, .inl (fun _ => Int32.ofInt 0))), (q35, .inr (1, [.ref q24, .ref q20, .ref q36])), (q36, .inl (F.2.1, 96, .inl (fun _ => Int32.ofInt 0))), (q37, .inr (0, [.ref q24, .ref q38])), (q38, .inl (F.2.2.1, 8, .inr (.inl (fun _ => Int64.ofInt 0)))), (q39, .inl (F.2.2.2, 4, .inr (.inr (.inr (.inr (va_up (va_up (va_up (va_up (fun _ => none) 0 (some q40)) 1 (some q42)) 2 (some q44)) 3 (some q46))))))), (q40, .inr (6, [.ref q41, .int (Int32.ofInt 1), .int (Int32.ofInt 0), .int (Int32.ofInt 0)])), (q41, .inl (F.2.1, 60, .inl (fun _ => Int32.ofInt 0))), (q42, .inr (6, [.ref q43, .int (Int32.ofInt 1), .int (Int32.ofInt 0), .int (Int32.ofInt 0)])), (q43, .inl (F.2.1, 60, .inl (fun _ => Int32.ofInt 0))), (q44, .inr (6, [.ref q45, .int (Int32.ofInt 1), .int (Int32.ofInt 0), .int (Int32.ofInt 0)])), (q45, .inl (F.2.1, 60, .inl (fun _ => Int32.ofInt 0))), (q46, .inr (6, [.ref q47, .int (Int32.ofInt 1), .int (Int32.ofInt 0), .int (Int32.ofInt 0)])), (q47, .inl (F.2.1, 60, .inl (fun _ => Int32.ofInt 0)))] ++ [(z, .inr (11, [.ref r1, .ref r2, .ref r3, .ref r4, .int (Int32.ofInt 0), .ref r5, .ref r6, .int (Int32.ofInt 0), .ref r7, .int (Int32.ofInt 0), .ref r8, .int (Int32.ofInt 0), .ref r9, .int (Int32.ofInt 0), .ref r10, .ref r11, .ref r12, .ref r13, .int (Int32.ofInt 0), .int (Int32.ofInt 0), .int (Int32.ofInt 0), .int (Int32.ofInt 0), .int (Int32.ofInt (-1)), .int (Int32.ofInt 0), .int (Int32.ofInt (-1)), .ref r14, .ref r15, .int (Int32.ofInt 0), .ref r16, .ref r17, .int (Int32.ofInt 0)])), (r1, .inl (F.2.1, 4, .inl (upd (upd (upd (upd (fun _ => Int32.ofInt 0) 0 ((Int32.ofInt (-1)))) 1 ((Int32.ofInt (-1)))) 2 ((Int32.ofInt (-1)))) 3 ((Int32.ofInt (-1)))))), (r2, .inl (F.2.1, 4, .inl (fun _ => Int32.ofInt 0))), (r3, .inl (F.2.1, 240, .inl (fun _ => Int32.ofInt 0))), (r4, .inl (F.2.1, 60, .inl (fun _ => Int32.ofInt 0))), (r5, .inl (F.2.1, 144, .inl (fun _ => Int32.ofInt 0))), (r6, .inl (F.2.1, 2, .inl (fun _ => Int32.ofInt 0))), (r7, .inl (F.2.1, 24, .inl (fun _ => Int32.ofInt 0))), (r8, .inl (F.2.1, 96, .inl (fun _ => Int32.ofInt 0))), (r9, .inl (F.2.1, 36, .inl (fun _ => Int32.ofInt 0))), (r10, .inl (F.2.1, 20, .inl (fun _ => Int32.ofInt 0))), (r11, .inl (F.2.1, 64, .inl (fun _ => Int32.ofInt 0))), (r12, .inl (F.2.1, 64, .inl (fun _ => Int32.ofInt 0))), (r13, .inl (F.2.1, 8, .inl (fun _ => Int32.ofInt 0))), (r14, .inl (F.2.1, 3, .inl (fun _ => Int32.ofInt 0))), (r15, .inl (F.2.1, 2, .inl (fun _ => Int32.ofInt 0))), (r16, .inl (F.2.1, 24, .inl (fun _ => Int32.ofInt 0))), (r17, .inl (F.2.1, 96, .inl (fun _ => Int32.ofInt 0)))] = zW (F.1, F.2, ad66 a q1 q2 q3 q4 q5 q6 q7 q8 q9 q10 q11 q12 q13 q14 q15 q16 q17 q18 q19 q20 q21 q22 q23 q24 q25 q26 q27 q28 q29 q30 q31 q32 q33 q34 q35 q36 q37 q38 q39 q40 q41 q42 q43 q44 q45 q46 q47 z r1 r2 r3 r4 r5 r6 r7 r8 r9 r10 r11 r12 r13 r14 r15 r16 r17) mem0 := by
  rw [zW_list, f11, f49, f39 (x0 := q40) (x1 := q42) (x2 := q44) (x3 := q46) (ad := ad66 a q1 q2 q3 q4 q5 q6 q7 q8 q9 q10 q11 q12 q13 q14 q15 q16 q17 q18 q19 q20 q21 q22 q23 q24 q25 q26 q27 q28 q29 q30 q31 q32 q33 q34 q35 q36 q37 q38 q39 q40 q41 q42 q43 q44 q45 q46 q47 z r1 r2 r3 r4 r5 r6 r7 r8 r9 r10 r11 r12 r13 r14 r15 r16 r17) rfl rfl rfl rfl]
  rfl
