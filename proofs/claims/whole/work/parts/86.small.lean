/-! ===== the small constructors (by program) ===== -/
theorem gw_eq {M : zMth} {F : gF} {A : Nat → Prop} {mc ms pc : Nat} {ls : List (Nat × Value)} {st : List Value} {ws ws' : va_W} {k n k' n' : Nat} {Q : va_W → Prop} (h : ws = ws') (hk : k = k') (hn : n = n') (kk : GW M F A mc ms pc ls st ws' k' n' Q) : GW M F A mc ms pc ls st ws k n Q := by
  subst h; subst hk; subst hn; exact kk
section
variable {F : gF}
theorem gt_Tx {h0 : Nat}  {N : Nat} {x : Int32} (hx : ¬ x < 0 ∧ x.toNatClampNeg = N) (hN : N ≤ 1000) : gCt m_Tx_init F [.ref h0, .int x] [(h0, .inr (8, [.null, .int (Int32.ofInt 0)]))] 1 N (fun w => ∃ (q1 : Nat), w = [(h0, .inr (8, [.ref q1, .int (Int32.ofInt 0)])), (q1, .inl (F.2.1, N, .inl (fun _ => Int32.ofInt 0)))]) := by
  refine gCt.of (ls := [(0, .ref h0), (1, .int x)]) ok_Tx_init rfl (Nat.le_of_ble_eq_true rfl) rfl (fun A => ?_)
  refine gw_aload_n 0 ok_Tx_init rfl rfl ?_
  refine gw_obj ok_Tx_init rfl go_Tx_1 ⟨Nat.le_of_ble_eq_true rfl, Nat.le_of_ble_eq_true rfl⟩ ?_
  refine gw_aload_n 0 ok_Tx_init rfl rfl ?_
  refine gw_iload_n 1 ok_Tx_init rfl rfl ?_
  refine gw_iconst ok_Tx_init rfl ?_
  refine gw_max ok_Tx_init rfl gm_Tx_7 ⟨Nat.le_of_ble_eq_true rfl, Nat.le_of_ble_eq_true rfl⟩ (⟨Nat.zero_le _, Nat.zero_le _⟩) ?_
  rw [show (if x < Int32.ofInt 0 then Int32.ofInt 0 else x) = x from if_neg hx.1]
  refine gw_newi (N := N) (wq := fun q1 => [(h0, .inr (8, [.null, .int (Int32.ofInt 0)])), (q1, .inl (F.2.1, N, .inl (fun _ => Int32.ofInt 0)))]) ok_Tx_init rfl ga_int (hx) (hN) (⟨Nat.le_of_ble_eq_true rfl, by omega⟩) (fun _ => rfl) (fun q1 => ?_)
  refine gw_putF (ws' := [(h0, .inr (8, [.ref q1, .int (Int32.ofInt 0)])), (q1, .inl (F.2.1, N, .inl (fun _ => Int32.ofInt 0)))]) 0 ok_Tx_init rfl gp_Tx_13 rfl ⟨⟨rfl, rfl⟩, Nat.le_of_ble_eq_true rfl⟩ rfl ?_
  exact gw_ret ok_Tx_init rfl rfl (⟨Nat.le_of_ble_eq_true rfl, by omega⟩) (⟨q1, rfl⟩)
theorem gt_Le {h0 : Nat}  {N : Nat} {x : Int32} (hx : ¬ x < 0 ∧ x.toNatClampNeg = N) (hN : N ≤ 1000) : gCt m_Le_init F [.ref h0, .int x] [(h0, .inr (3, [.null, .null, .null, .int (Int32.ofInt 0)]))] 3 (3 * N) (fun w => ∃ (q1 q2 q3 : Nat), w = [(h0, .inr (3, [.ref q1, .ref q2, .ref q3, .int (Int32.ofInt 0)])), (q1, .inl (F.2.1, N, .inl (fun _ => Int32.ofInt 0))), (q2, .inl (F.2.1, N, .inl (fun _ => Int32.ofInt 0))), (q3, .inl (F.2.1, N, .inl (fun _ => Int32.ofInt 0)))]) := by
  refine gCt.of (ls := [(0, .ref h0), (1, .int x)]) ok_Le_init rfl (Nat.le_of_ble_eq_true rfl) rfl (fun A => ?_)
  refine gw_aload_n 0 ok_Le_init rfl rfl ?_
  refine gw_obj ok_Le_init rfl go_Le_3 ⟨Nat.le_of_ble_eq_true rfl, Nat.le_of_ble_eq_true rfl⟩ ?_
  refine gw_iload_n 1 ok_Le_init rfl rfl ?_
  refine gw_iconst ok_Le_init rfl ?_
  refine gw_max ok_Le_init rfl gm_Le_9 ⟨Nat.le_of_ble_eq_true rfl, Nat.le_of_ble_eq_true rfl⟩ (⟨Nat.zero_le _, Nat.zero_le _⟩) ?_
  rw [show (if x < Int32.ofInt 0 then Int32.ofInt 0 else x) = x from if_neg hx.1]
  refine gw_istore_n (ls' := [(2, .int x), (0, .ref h0), (1, .int x)]) ok_Le_init rfl (by decide) rfl ?_
  refine gw_aload_n 1 ok_Le_init rfl rfl ?_
  refine gw_iload_n 0 ok_Le_init rfl rfl ?_
  refine gw_newi (N := N) (wq := fun q1 => [(h0, .inr (3, [.null, .null, .null, .int (Int32.ofInt 0)])), (q1, .inl (F.2.1, N, .inl (fun _ => Int32.ofInt 0)))]) ok_Le_init rfl ga_int (hx) (hN) (⟨Nat.le_of_ble_eq_true rfl, by omega⟩) (fun _ => rfl) (fun q1 => ?_)
  refine gw_putF (ws' := [(h0, .inr (3, [.ref q1, .null, .null, .int (Int32.ofInt 0)])), (q1, .inl (F.2.1, N, .inl (fun _ => Int32.ofInt 0)))]) 0 ok_Le_init rfl gp_Le_15 rfl ⟨⟨rfl, rfl⟩, Nat.le_of_ble_eq_true rfl⟩ rfl ?_
  refine gw_aload_n 1 ok_Le_init rfl rfl ?_
  refine gw_iload_n 0 ok_Le_init rfl rfl ?_
  refine gw_newi (N := N) (wq := fun q2 => [(h0, .inr (3, [.ref q1, .null, .null, .int (Int32.ofInt 0)])), (q1, .inl (F.2.1, N, .inl (fun _ => Int32.ofInt 0))), (q2, .inl (F.2.1, N, .inl (fun _ => Int32.ofInt 0)))]) ok_Le_init rfl ga_int (hx) (hN) (⟨Nat.le_of_ble_eq_true rfl, by omega⟩) (fun _ => rfl) (fun q2 => ?_)
  refine gw_putF (ws' := [(h0, .inr (3, [.ref q1, .ref q2, .null, .int (Int32.ofInt 0)])), (q1, .inl (F.2.1, N, .inl (fun _ => Int32.ofInt 0))), (q2, .inl (F.2.1, N, .inl (fun _ => Int32.ofInt 0)))]) 0 ok_Le_init rfl gp_Le_21 rfl ⟨⟨rfl, rfl⟩, Nat.le_of_ble_eq_true rfl⟩ rfl ?_
  refine gw_aload_n 1 ok_Le_init rfl rfl ?_
  refine gw_iload_n 0 ok_Le_init rfl rfl ?_
  refine gw_newi (N := N) (wq := fun q3 => [(h0, .inr (3, [.ref q1, .ref q2, .null, .int (Int32.ofInt 0)])), (q1, .inl (F.2.1, N, .inl (fun _ => Int32.ofInt 0))), (q2, .inl (F.2.1, N, .inl (fun _ => Int32.ofInt 0))), (q3, .inl (F.2.1, N, .inl (fun _ => Int32.ofInt 0)))]) ok_Le_init rfl ga_int (hx) (hN) (⟨Nat.le_of_ble_eq_true rfl, by omega⟩) (fun _ => rfl) (fun q3 => ?_)
  refine gw_putF (ws' := [(h0, .inr (3, [.ref q1, .ref q2, .ref q3, .int (Int32.ofInt 0)])), (q1, .inl (F.2.1, N, .inl (fun _ => Int32.ofInt 0))), (q2, .inl (F.2.1, N, .inl (fun _ => Int32.ofInt 0))), (q3, .inl (F.2.1, N, .inl (fun _ => Int32.ofInt 0)))]) 0 ok_Le_init rfl gp_Le_24 rfl ⟨⟨rfl, rfl⟩, Nat.le_of_ble_eq_true rfl⟩ rfl ?_
  exact gw_ret ok_Le_init rfl rfl (⟨Nat.le_of_ble_eq_true rfl, by omega⟩) (⟨q1, q2, q3, rfl⟩)
theorem gt_Pe {h0 : Nat}  : gCt m_Pe_init F [.ref h0] [(h0, .inr (4, [.null, .null, .null, .null, .int (Int32.ofInt 0), .int (Int32.ofInt 0), .int (Int32.ofInt 0)]))] 4 32 (fun w => ∃ (q1 q2 q3 q4 : Nat), w = [(h0, .inr (4, [.ref q1, .ref q2, .ref q3, .ref q4, .int (Int32.ofInt 0), .int (Int32.ofInt 0), .int (Int32.ofInt (-1))])), (q1, .inl (F.2.1, 8, .inl (fun _ => Int32.ofInt 0))), (q2, .inl (F.2.1, 8, .inl (fun _ => Int32.ofInt 0))), (q3, .inl (F.2.1, 8, .inl (fun _ => Int32.ofInt 0))), (q4, .inl (F.2.1, 8, .inl (fun _ => Int32.ofInt 0)))]) := by
  refine gCt.of (ls := [(0, .ref h0)]) ok_Pe_init rfl (Nat.le_of_ble_eq_true rfl) rfl (fun A => ?_)
  refine gw_aload_n 0 ok_Pe_init rfl rfl ?_
  refine gw_obj ok_Pe_init rfl go_Pe_3 ⟨Nat.le_of_ble_eq_true rfl, Nat.le_of_ble_eq_true rfl⟩ ?_
  refine gw_aload_n 0 ok_Pe_init rfl rfl ?_
  refine gw_bipush ok_Pe_init rfl (by decide) ?_
  refine gw_newi (N := 8) (wq := fun q1 => [(h0, .inr (4, [.null, .null, .null, .null, .int (Int32.ofInt 0), .int (Int32.ofInt 0), .int (Int32.ofInt 0)])), (q1, .inl (F.2.1, 8, .inl (fun _ => Int32.ofInt 0)))]) ok_Pe_init rfl ga_int (⟨by decide, by decide⟩) (by decide) (⟨Nat.le_of_ble_eq_true rfl, Nat.le_of_ble_eq_true rfl⟩) (fun _ => rfl) (fun q1 => ?_)
  refine gw_eq (ws' := [(h0, .inr (4, [.null, .null, .null, .null, .int (Int32.ofInt 0), .int (Int32.ofInt 0), .int (Int32.ofInt 0)])), (q1, .inl (F.2.1, 8, .inl (fun _ => Int32.ofInt 0)))]) (k' := 1) (n' := 8) rfl rfl rfl ?_
  refine gw_putF (ws' := [(h0, .inr (4, [.ref q1, .null, .null, .null, .int (Int32.ofInt 0), .int (Int32.ofInt 0), .int (Int32.ofInt 0)])), (q1, .inl (F.2.1, 8, .inl (fun _ => Int32.ofInt 0)))]) 0 ok_Pe_init rfl gp_Pe_9 rfl ⟨⟨rfl, rfl⟩, Nat.le_of_ble_eq_true rfl⟩ rfl ?_
  refine gw_aload_n 0 ok_Pe_init rfl rfl ?_
  refine gw_bipush ok_Pe_init rfl (by decide) ?_
  refine gw_newi (N := 8) (wq := fun q2 => [(h0, .inr (4, [.ref q1, .null, .null, .null, .int (Int32.ofInt 0), .int (Int32.ofInt 0), .int (Int32.ofInt 0)])), (q1, .inl (F.2.1, 8, .inl (fun _ => Int32.ofInt 0))), (q2, .inl (F.2.1, 8, .inl (fun _ => Int32.ofInt 0)))]) ok_Pe_init rfl ga_int (⟨by decide, by decide⟩) (by decide) (⟨Nat.le_of_ble_eq_true rfl, Nat.le_of_ble_eq_true rfl⟩) (fun _ => rfl) (fun q2 => ?_)
  refine gw_eq (ws' := [(h0, .inr (4, [.ref q1, .null, .null, .null, .int (Int32.ofInt 0), .int (Int32.ofInt 0), .int (Int32.ofInt 0)])), (q1, .inl (F.2.1, 8, .inl (fun _ => Int32.ofInt 0))), (q2, .inl (F.2.1, 8, .inl (fun _ => Int32.ofInt 0)))]) (k' := 2) (n' := 16) rfl rfl rfl ?_
  refine gw_putF (ws' := [(h0, .inr (4, [.ref q1, .ref q2, .null, .null, .int (Int32.ofInt 0), .int (Int32.ofInt 0), .int (Int32.ofInt 0)])), (q1, .inl (F.2.1, 8, .inl (fun _ => Int32.ofInt 0))), (q2, .inl (F.2.1, 8, .inl (fun _ => Int32.ofInt 0)))]) 0 ok_Pe_init rfl gp_Pe_15 rfl ⟨⟨rfl, rfl⟩, Nat.le_of_ble_eq_true rfl⟩ rfl ?_
  refine gw_aload_n 0 ok_Pe_init rfl rfl ?_
  refine gw_bipush ok_Pe_init rfl (by decide) ?_
  refine gw_newi (N := 8) (wq := fun q3 => [(h0, .inr (4, [.ref q1, .ref q2, .null, .null, .int (Int32.ofInt 0), .int (Int32.ofInt 0), .int (Int32.ofInt 0)])), (q1, .inl (F.2.1, 8, .inl (fun _ => Int32.ofInt 0))), (q2, .inl (F.2.1, 8, .inl (fun _ => Int32.ofInt 0))), (q3, .inl (F.2.1, 8, .inl (fun _ => Int32.ofInt 0)))]) ok_Pe_init rfl ga_int (⟨by decide, by decide⟩) (by decide) (⟨Nat.le_of_ble_eq_true rfl, Nat.le_of_ble_eq_true rfl⟩) (fun _ => rfl) (fun q3 => ?_)
  refine gw_eq (ws' := [(h0, .inr (4, [.ref q1, .ref q2, .null, .null, .int (Int32.ofInt 0), .int (Int32.ofInt 0), .int (Int32.ofInt 0)])), (q1, .inl (F.2.1, 8, .inl (fun _ => Int32.ofInt 0))), (q2, .inl (F.2.1, 8, .inl (fun _ => Int32.ofInt 0))), (q3, .inl (F.2.1, 8, .inl (fun _ => Int32.ofInt 0)))]) (k' := 3) (n' := 24) rfl rfl rfl ?_
  refine gw_putF (ws' := [(h0, .inr (4, [.ref q1, .ref q2, .ref q3, .null, .int (Int32.ofInt 0), .int (Int32.ofInt 0), .int (Int32.ofInt 0)])), (q1, .inl (F.2.1, 8, .inl (fun _ => Int32.ofInt 0))), (q2, .inl (F.2.1, 8, .inl (fun _ => Int32.ofInt 0))), (q3, .inl (F.2.1, 8, .inl (fun _ => Int32.ofInt 0)))]) 0 ok_Pe_init rfl gp_Pe_18 rfl ⟨⟨rfl, rfl⟩, Nat.le_of_ble_eq_true rfl⟩ rfl ?_
  refine gw_aload_n 0 ok_Pe_init rfl rfl ?_
  refine gw_bipush ok_Pe_init rfl (by decide) ?_
  refine gw_newi (N := 8) (wq := fun q4 => [(h0, .inr (4, [.ref q1, .ref q2, .ref q3, .null, .int (Int32.ofInt 0), .int (Int32.ofInt 0), .int (Int32.ofInt 0)])), (q1, .inl (F.2.1, 8, .inl (fun _ => Int32.ofInt 0))), (q2, .inl (F.2.1, 8, .inl (fun _ => Int32.ofInt 0))), (q3, .inl (F.2.1, 8, .inl (fun _ => Int32.ofInt 0))), (q4, .inl (F.2.1, 8, .inl (fun _ => Int32.ofInt 0)))]) ok_Pe_init rfl ga_int (⟨by decide, by decide⟩) (by decide) (⟨Nat.le_of_ble_eq_true rfl, Nat.le_of_ble_eq_true rfl⟩) (fun _ => rfl) (fun q4 => ?_)
  refine gw_eq (ws' := [(h0, .inr (4, [.ref q1, .ref q2, .ref q3, .null, .int (Int32.ofInt 0), .int (Int32.ofInt 0), .int (Int32.ofInt 0)])), (q1, .inl (F.2.1, 8, .inl (fun _ => Int32.ofInt 0))), (q2, .inl (F.2.1, 8, .inl (fun _ => Int32.ofInt 0))), (q3, .inl (F.2.1, 8, .inl (fun _ => Int32.ofInt 0))), (q4, .inl (F.2.1, 8, .inl (fun _ => Int32.ofInt 0)))]) (k' := 4) (n' := 32) rfl rfl rfl ?_
  refine gw_putF (ws' := [(h0, .inr (4, [.ref q1, .ref q2, .ref q3, .ref q4, .int (Int32.ofInt 0), .int (Int32.ofInt 0), .int (Int32.ofInt 0)])), (q1, .inl (F.2.1, 8, .inl (fun _ => Int32.ofInt 0))), (q2, .inl (F.2.1, 8, .inl (fun _ => Int32.ofInt 0))), (q3, .inl (F.2.1, 8, .inl (fun _ => Int32.ofInt 0))), (q4, .inl (F.2.1, 8, .inl (fun _ => Int32.ofInt 0)))]) 0 ok_Pe_init rfl gp_Pe_21 rfl ⟨⟨rfl, rfl⟩, Nat.le_of_ble_eq_true rfl⟩ rfl ?_
  refine gw_aload_n 0 ok_Pe_init rfl rfl ?_
  refine gw_iconst ok_Pe_init rfl ?_
  refine gw_put (ws' := [(h0, .inr (4, [.ref q1, .ref q2, .ref q3, .ref q4, .int (Int32.ofInt 0), .int (Int32.ofInt 0), .int (Int32.ofInt (-1))])), (q1, .inl (F.2.1, 8, .inl (fun _ => Int32.ofInt 0))), (q2, .inl (F.2.1, 8, .inl (fun _ => Int32.ofInt 0))), (q3, .inl (F.2.1, 8, .inl (fun _ => Int32.ofInt 0))), (q4, .inl (F.2.1, 8, .inl (fun _ => Int32.ofInt 0)))]) 0 ok_Pe_init rfl gp_Pe_24 rfl ⟨⟨rfl, rfl⟩, Nat.le_of_ble_eq_true rfl⟩ rfl ?_
  exact gw_ret ok_Pe_init rfl rfl (⟨Nat.le_of_ble_eq_true rfl, Nat.le_of_ble_eq_true rfl⟩) (⟨q1, q2, q3, q4, rfl⟩)
theorem gt_Co {h0 : Nat} {a1 : Nat} {a2 : Nat} {a3 : Nat} {a4 : Nat} : gCt m_Co_init F [.ref h0, .ref a1, .ref a2, .ref a3, .ref a4] [(h0, .inr (2, [.null, .null, .null, .null, .null, .null, .null, .null, .null, .int (Int32.ofInt 0), .int (Int32.ofInt 0), .int (Int32.ofInt 0), .int (Int32.ofInt 0)]))] 5 244 (fun w => ∃ (q1 q2 q3 q4 q5 : Nat), w = [(h0, .inr (2, [.ref a1, .ref a2, .ref a3, .ref a4, .ref q1, .ref q2, .ref q3, .ref q4, .ref q5, .int (Int32.ofInt 0), .int (Int32.ofInt 0), .int (Int32.ofInt 0), .int (Int32.ofInt 0)])), (q1, .inl (F.2.1, 96, .inl (fun _ => Int32.ofInt 0))), (q2, .inl (F.2.1, 12, .inl (fun _ => Int32.ofInt 0))), (q3, .inl (F.2.1, 64, .inl (fun _ => Int32.ofInt 0))), (q4, .inl (F.2.1, 64, .inl (fun _ => Int32.ofInt 0))), (q5, .inl (F.2.1, 8, .inl (fun _ => Int32.ofInt 0)))]) := by
  refine gCt.of (ls := [(0, .ref h0), (1, .ref a1), (2, .ref a2), (3, .ref a3), (4, .ref a4)]) ok_Co_init rfl (Nat.le_of_ble_eq_true rfl) rfl (fun A => ?_)
  refine gw_aload_n 0 ok_Co_init rfl rfl ?_
  refine gw_obj ok_Co_init rfl go_Co_3 ⟨Nat.le_of_ble_eq_true rfl, Nat.le_of_ble_eq_true rfl⟩ ?_
  refine gw_aload_n 0 ok_Co_init rfl rfl ?_
  refine gw_bipush ok_Co_init rfl (by decide) ?_
  refine gw_newi (N := 96) (wq := fun q1 => [(h0, .inr (2, [.null, .null, .null, .null, .null, .null, .null, .null, .null, .int (Int32.ofInt 0), .int (Int32.ofInt 0), .int (Int32.ofInt 0), .int (Int32.ofInt 0)])), (q1, .inl (F.2.1, 96, .inl (fun _ => Int32.ofInt 0)))]) ok_Co_init rfl ga_int (⟨by decide, by decide⟩) (by decide) (⟨Nat.le_of_ble_eq_true rfl, Nat.le_of_ble_eq_true rfl⟩) (fun _ => rfl) (fun q1 => ?_)
  refine gw_eq (ws' := [(h0, .inr (2, [.null, .null, .null, .null, .null, .null, .null, .null, .null, .int (Int32.ofInt 0), .int (Int32.ofInt 0), .int (Int32.ofInt 0), .int (Int32.ofInt 0)])), (q1, .inl (F.2.1, 96, .inl (fun _ => Int32.ofInt 0)))]) (k' := 1) (n' := 96) rfl rfl rfl ?_
  refine gw_putF (ws' := [(h0, .inr (2, [.null, .null, .null, .null, .ref q1, .null, .null, .null, .null, .int (Int32.ofInt 0), .int (Int32.ofInt 0), .int (Int32.ofInt 0), .int (Int32.ofInt 0)])), (q1, .inl (F.2.1, 96, .inl (fun _ => Int32.ofInt 0)))]) 0 ok_Co_init rfl gp_Co_9 rfl ⟨⟨rfl, rfl⟩, Nat.le_of_ble_eq_true rfl⟩ rfl ?_
  refine gw_aload_n 0 ok_Co_init rfl rfl ?_
  refine gw_bipush ok_Co_init rfl (by decide) ?_
  refine gw_newi (N := 12) (wq := fun q2 => [(h0, .inr (2, [.null, .null, .null, .null, .ref q1, .null, .null, .null, .null, .int (Int32.ofInt 0), .int (Int32.ofInt 0), .int (Int32.ofInt 0), .int (Int32.ofInt 0)])), (q1, .inl (F.2.1, 96, .inl (fun _ => Int32.ofInt 0))), (q2, .inl (F.2.1, 12, .inl (fun _ => Int32.ofInt 0)))]) ok_Co_init rfl ga_int (⟨by decide, by decide⟩) (by decide) (⟨Nat.le_of_ble_eq_true rfl, Nat.le_of_ble_eq_true rfl⟩) (fun _ => rfl) (fun q2 => ?_)
  refine gw_eq (ws' := [(h0, .inr (2, [.null, .null, .null, .null, .ref q1, .null, .null, .null, .null, .int (Int32.ofInt 0), .int (Int32.ofInt 0), .int (Int32.ofInt 0), .int (Int32.ofInt 0)])), (q1, .inl (F.2.1, 96, .inl (fun _ => Int32.ofInt 0))), (q2, .inl (F.2.1, 12, .inl (fun _ => Int32.ofInt 0)))]) (k' := 2) (n' := 108) rfl rfl rfl ?_
  refine gw_putF (ws' := [(h0, .inr (2, [.null, .null, .null, .null, .ref q1, .ref q2, .null, .null, .null, .int (Int32.ofInt 0), .int (Int32.ofInt 0), .int (Int32.ofInt 0), .int (Int32.ofInt 0)])), (q1, .inl (F.2.1, 96, .inl (fun _ => Int32.ofInt 0))), (q2, .inl (F.2.1, 12, .inl (fun _ => Int32.ofInt 0)))]) 0 ok_Co_init rfl gp_Co_15 rfl ⟨⟨rfl, rfl⟩, Nat.le_of_ble_eq_true rfl⟩ rfl ?_
  refine gw_aload_n 0 ok_Co_init rfl rfl ?_
  refine gw_bipush ok_Co_init rfl (by decide) ?_
  refine gw_newi (N := 64) (wq := fun q3 => [(h0, .inr (2, [.null, .null, .null, .null, .ref q1, .ref q2, .null, .null, .null, .int (Int32.ofInt 0), .int (Int32.ofInt 0), .int (Int32.ofInt 0), .int (Int32.ofInt 0)])), (q1, .inl (F.2.1, 96, .inl (fun _ => Int32.ofInt 0))), (q2, .inl (F.2.1, 12, .inl (fun _ => Int32.ofInt 0))), (q3, .inl (F.2.1, 64, .inl (fun _ => Int32.ofInt 0)))]) ok_Co_init rfl ga_int (⟨by decide, by decide⟩) (by decide) (⟨Nat.le_of_ble_eq_true rfl, Nat.le_of_ble_eq_true rfl⟩) (fun _ => rfl) (fun q3 => ?_)
  refine gw_eq (ws' := [(h0, .inr (2, [.null, .null, .null, .null, .ref q1, .ref q2, .null, .null, .null, .int (Int32.ofInt 0), .int (Int32.ofInt 0), .int (Int32.ofInt 0), .int (Int32.ofInt 0)])), (q1, .inl (F.2.1, 96, .inl (fun _ => Int32.ofInt 0))), (q2, .inl (F.2.1, 12, .inl (fun _ => Int32.ofInt 0))), (q3, .inl (F.2.1, 64, .inl (fun _ => Int32.ofInt 0)))]) (k' := 3) (n' := 172) rfl rfl rfl ?_
  refine gw_putF (ws' := [(h0, .inr (2, [.null, .null, .null, .null, .ref q1, .ref q2, .ref q3, .null, .null, .int (Int32.ofInt 0), .int (Int32.ofInt 0), .int (Int32.ofInt 0), .int (Int32.ofInt 0)])), (q1, .inl (F.2.1, 96, .inl (fun _ => Int32.ofInt 0))), (q2, .inl (F.2.1, 12, .inl (fun _ => Int32.ofInt 0))), (q3, .inl (F.2.1, 64, .inl (fun _ => Int32.ofInt 0)))]) 0 ok_Co_init rfl gp_Co_18 rfl ⟨⟨rfl, rfl⟩, Nat.le_of_ble_eq_true rfl⟩ rfl ?_
  refine gw_aload_n 0 ok_Co_init rfl rfl ?_
  refine gw_bipush ok_Co_init rfl (by decide) ?_
  refine gw_newi (N := 64) (wq := fun q4 => [(h0, .inr (2, [.null, .null, .null, .null, .ref q1, .ref q2, .ref q3, .null, .null, .int (Int32.ofInt 0), .int (Int32.ofInt 0), .int (Int32.ofInt 0), .int (Int32.ofInt 0)])), (q1, .inl (F.2.1, 96, .inl (fun _ => Int32.ofInt 0))), (q2, .inl (F.2.1, 12, .inl (fun _ => Int32.ofInt 0))), (q3, .inl (F.2.1, 64, .inl (fun _ => Int32.ofInt 0))), (q4, .inl (F.2.1, 64, .inl (fun _ => Int32.ofInt 0)))]) ok_Co_init rfl ga_int (⟨by decide, by decide⟩) (by decide) (⟨Nat.le_of_ble_eq_true rfl, Nat.le_of_ble_eq_true rfl⟩) (fun _ => rfl) (fun q4 => ?_)
  refine gw_eq (ws' := [(h0, .inr (2, [.null, .null, .null, .null, .ref q1, .ref q2, .ref q3, .null, .null, .int (Int32.ofInt 0), .int (Int32.ofInt 0), .int (Int32.ofInt 0), .int (Int32.ofInt 0)])), (q1, .inl (F.2.1, 96, .inl (fun _ => Int32.ofInt 0))), (q2, .inl (F.2.1, 12, .inl (fun _ => Int32.ofInt 0))), (q3, .inl (F.2.1, 64, .inl (fun _ => Int32.ofInt 0))), (q4, .inl (F.2.1, 64, .inl (fun _ => Int32.ofInt 0)))]) (k' := 4) (n' := 236) rfl rfl rfl ?_
  refine gw_putF (ws' := [(h0, .inr (2, [.null, .null, .null, .null, .ref q1, .ref q2, .ref q3, .ref q4, .null, .int (Int32.ofInt 0), .int (Int32.ofInt 0), .int (Int32.ofInt 0), .int (Int32.ofInt 0)])), (q1, .inl (F.2.1, 96, .inl (fun _ => Int32.ofInt 0))), (q2, .inl (F.2.1, 12, .inl (fun _ => Int32.ofInt 0))), (q3, .inl (F.2.1, 64, .inl (fun _ => Int32.ofInt 0))), (q4, .inl (F.2.1, 64, .inl (fun _ => Int32.ofInt 0)))]) 0 ok_Co_init rfl gp_Co_21 rfl ⟨⟨rfl, rfl⟩, Nat.le_of_ble_eq_true rfl⟩ rfl ?_
  refine gw_aload_n 0 ok_Co_init rfl rfl ?_
  refine gw_bipush ok_Co_init rfl (by decide) ?_
  refine gw_newi (N := 8) (wq := fun q5 => [(h0, .inr (2, [.null, .null, .null, .null, .ref q1, .ref q2, .ref q3, .ref q4, .null, .int (Int32.ofInt 0), .int (Int32.ofInt 0), .int (Int32.ofInt 0), .int (Int32.ofInt 0)])), (q1, .inl (F.2.1, 96, .inl (fun _ => Int32.ofInt 0))), (q2, .inl (F.2.1, 12, .inl (fun _ => Int32.ofInt 0))), (q3, .inl (F.2.1, 64, .inl (fun _ => Int32.ofInt 0))), (q4, .inl (F.2.1, 64, .inl (fun _ => Int32.ofInt 0))), (q5, .inl (F.2.1, 8, .inl (fun _ => Int32.ofInt 0)))]) ok_Co_init rfl ga_int (⟨by decide, by decide⟩) (by decide) (⟨Nat.le_of_ble_eq_true rfl, Nat.le_of_ble_eq_true rfl⟩) (fun _ => rfl) (fun q5 => ?_)
  refine gw_eq (ws' := [(h0, .inr (2, [.null, .null, .null, .null, .ref q1, .ref q2, .ref q3, .ref q4, .null, .int (Int32.ofInt 0), .int (Int32.ofInt 0), .int (Int32.ofInt 0), .int (Int32.ofInt 0)])), (q1, .inl (F.2.1, 96, .inl (fun _ => Int32.ofInt 0))), (q2, .inl (F.2.1, 12, .inl (fun _ => Int32.ofInt 0))), (q3, .inl (F.2.1, 64, .inl (fun _ => Int32.ofInt 0))), (q4, .inl (F.2.1, 64, .inl (fun _ => Int32.ofInt 0))), (q5, .inl (F.2.1, 8, .inl (fun _ => Int32.ofInt 0)))]) (k' := 5) (n' := 244) rfl rfl rfl ?_
  refine gw_putF (ws' := [(h0, .inr (2, [.null, .null, .null, .null, .ref q1, .ref q2, .ref q3, .ref q4, .ref q5, .int (Int32.ofInt 0), .int (Int32.ofInt 0), .int (Int32.ofInt 0), .int (Int32.ofInt 0)])), (q1, .inl (F.2.1, 96, .inl (fun _ => Int32.ofInt 0))), (q2, .inl (F.2.1, 12, .inl (fun _ => Int32.ofInt 0))), (q3, .inl (F.2.1, 64, .inl (fun _ => Int32.ofInt 0))), (q4, .inl (F.2.1, 64, .inl (fun _ => Int32.ofInt 0))), (q5, .inl (F.2.1, 8, .inl (fun _ => Int32.ofInt 0)))]) 0 ok_Co_init rfl gp_Co_24 rfl ⟨⟨rfl, rfl⟩, Nat.le_of_ble_eq_true rfl⟩ rfl ?_
  refine gw_aload_n 0 ok_Co_init rfl rfl ?_
  refine gw_aload_n 1 ok_Co_init rfl rfl ?_
  refine gw_putF (ws' := [(h0, .inr (2, [.ref a1, .null, .null, .null, .ref q1, .ref q2, .ref q3, .ref q4, .ref q5, .int (Int32.ofInt 0), .int (Int32.ofInt 0), .int (Int32.ofInt 0), .int (Int32.ofInt 0)])), (q1, .inl (F.2.1, 96, .inl (fun _ => Int32.ofInt 0))), (q2, .inl (F.2.1, 12, .inl (fun _ => Int32.ofInt 0))), (q3, .inl (F.2.1, 64, .inl (fun _ => Int32.ofInt 0))), (q4, .inl (F.2.1, 64, .inl (fun _ => Int32.ofInt 0))), (q5, .inl (F.2.1, 8, .inl (fun _ => Int32.ofInt 0)))]) 0 ok_Co_init rfl gp_Co_27 rfl ⟨⟨rfl, rfl⟩, Nat.le_of_ble_eq_true rfl⟩ rfl ?_
  refine gw_aload_n 0 ok_Co_init rfl rfl ?_
  refine gw_aload_n 2 ok_Co_init rfl rfl ?_
  refine gw_putF (ws' := [(h0, .inr (2, [.ref a1, .ref a2, .null, .null, .ref q1, .ref q2, .ref q3, .ref q4, .ref q5, .int (Int32.ofInt 0), .int (Int32.ofInt 0), .int (Int32.ofInt 0), .int (Int32.ofInt 0)])), (q1, .inl (F.2.1, 96, .inl (fun _ => Int32.ofInt 0))), (q2, .inl (F.2.1, 12, .inl (fun _ => Int32.ofInt 0))), (q3, .inl (F.2.1, 64, .inl (fun _ => Int32.ofInt 0))), (q4, .inl (F.2.1, 64, .inl (fun _ => Int32.ofInt 0))), (q5, .inl (F.2.1, 8, .inl (fun _ => Int32.ofInt 0)))]) 0 ok_Co_init rfl gp_Co_31 rfl ⟨⟨rfl, rfl⟩, Nat.le_of_ble_eq_true rfl⟩ rfl ?_
  refine gw_aload_n 0 ok_Co_init rfl rfl ?_
  refine gw_aload_n 3 ok_Co_init rfl rfl ?_
  refine gw_putF (ws' := [(h0, .inr (2, [.ref a1, .ref a2, .ref a3, .null, .ref q1, .ref q2, .ref q3, .ref q4, .ref q5, .int (Int32.ofInt 0), .int (Int32.ofInt 0), .int (Int32.ofInt 0), .int (Int32.ofInt 0)])), (q1, .inl (F.2.1, 96, .inl (fun _ => Int32.ofInt 0))), (q2, .inl (F.2.1, 12, .inl (fun _ => Int32.ofInt 0))), (q3, .inl (F.2.1, 64, .inl (fun _ => Int32.ofInt 0))), (q4, .inl (F.2.1, 64, .inl (fun _ => Int32.ofInt 0))), (q5, .inl (F.2.1, 8, .inl (fun _ => Int32.ofInt 0)))]) 0 ok_Co_init rfl gp_Co_35 rfl ⟨⟨rfl, rfl⟩, Nat.le_of_ble_eq_true rfl⟩ rfl ?_
  refine gw_aload_n 0 ok_Co_init rfl rfl ?_
  refine gw_aload 4 ok_Co_init rfl rfl ?_
  refine gw_putF (ws' := [(h0, .inr (2, [.ref a1, .ref a2, .ref a3, .ref a4, .ref q1, .ref q2, .ref q3, .ref q4, .ref q5, .int (Int32.ofInt 0), .int (Int32.ofInt 0), .int (Int32.ofInt 0), .int (Int32.ofInt 0)])), (q1, .inl (F.2.1, 96, .inl (fun _ => Int32.ofInt 0))), (q2, .inl (F.2.1, 12, .inl (fun _ => Int32.ofInt 0))), (q3, .inl (F.2.1, 64, .inl (fun _ => Int32.ofInt 0))), (q4, .inl (F.2.1, 64, .inl (fun _ => Int32.ofInt 0))), (q5, .inl (F.2.1, 8, .inl (fun _ => Int32.ofInt 0)))]) 0 ok_Co_init rfl gp_Co_39 rfl ⟨⟨rfl, rfl⟩, Nat.le_of_ble_eq_true rfl⟩ rfl ?_
  exact gw_ret ok_Co_init rfl rfl (⟨Nat.le_of_ble_eq_true rfl, Nat.le_of_ble_eq_true rfl⟩) (⟨q1, q2, q3, q4, q5, rfl⟩)
theorem gt_Sh {h0 : Nat} {a1 : Nat} : gCt m_Sh_init F [.ref h0, .ref a1] [(h0, .inr (5, [.null, .null, .int (Int32.ofInt 0)]))] 1 2 (fun w => ∃ (q1 : Nat), w = [(h0, .inr (5, [.ref a1, .ref q1, .int (Int32.ofInt 0)])), (q1, .inl (F.2.1, 2, .inl (fun _ => Int32.ofInt 0)))]) := by
  refine gCt.of (ls := [(0, .ref h0), (1, .ref a1)]) ok_Sh_init rfl (Nat.le_of_ble_eq_true rfl) rfl (fun A => ?_)
  refine gw_aload_n 0 ok_Sh_init rfl rfl ?_
  refine gw_obj ok_Sh_init rfl go_Sh_3 ⟨Nat.le_of_ble_eq_true rfl, Nat.le_of_ble_eq_true rfl⟩ ?_
  refine gw_aload_n 0 ok_Sh_init rfl rfl ?_
  refine gw_iconst ok_Sh_init rfl ?_
  refine gw_newi (N := 2) (wq := fun q1 => [(h0, .inr (5, [.null, .null, .int (Int32.ofInt 0)])), (q1, .inl (F.2.1, 2, .inl (fun _ => Int32.ofInt 0)))]) ok_Sh_init rfl ga_int (⟨by decide, by decide⟩) (by decide) (⟨Nat.le_of_ble_eq_true rfl, Nat.le_of_ble_eq_true rfl⟩) (fun _ => rfl) (fun q1 => ?_)
  refine gw_eq (ws' := [(h0, .inr (5, [.null, .null, .int (Int32.ofInt 0)])), (q1, .inl (F.2.1, 2, .inl (fun _ => Int32.ofInt 0)))]) (k' := 1) (n' := 2) rfl rfl rfl ?_
  refine gw_putF (ws' := [(h0, .inr (5, [.null, .ref q1, .int (Int32.ofInt 0)])), (q1, .inl (F.2.1, 2, .inl (fun _ => Int32.ofInt 0)))]) 0 ok_Sh_init rfl gp_Sh_9 rfl ⟨⟨rfl, rfl⟩, Nat.le_of_ble_eq_true rfl⟩ rfl ?_
  refine gw_aload_n 0 ok_Sh_init rfl rfl ?_
  refine gw_aload_n 1 ok_Sh_init rfl rfl ?_
  refine gw_putF (ws' := [(h0, .inr (5, [.ref a1, .ref q1, .int (Int32.ofInt 0)])), (q1, .inl (F.2.1, 2, .inl (fun _ => Int32.ofInt 0)))]) 0 ok_Sh_init rfl gp_Sh_15 rfl ⟨⟨rfl, rfl⟩, Nat.le_of_ble_eq_true rfl⟩ rfl ?_
  exact gw_ret ok_Sh_init rfl rfl (⟨Nat.le_of_ble_eq_true rfl, Nat.le_of_ble_eq_true rfl⟩) (⟨q1, rfl⟩)
theorem gt_St {h0 : Nat} {a1 : Nat} : gCt m_St_init F [.ref h0, .ref a1] [(h0, .inr (7, [.null, .null, .null, .int (Int32.ofInt 0)]))] 2 6 (fun w => ∃ (q1 q2 : Nat), w = [(h0, .inr (7, [.ref a1, .ref q1, .ref q2, .int (Int32.ofInt 0)])), (q1, .inl (F.2.1, 3, .inl (fun _ => Int32.ofInt 0))), (q2, .inl (F.2.1, 3, .inl (fun _ => Int32.ofInt 0)))]) := by
  refine gCt.of (ls := [(0, .ref h0), (1, .ref a1)]) ok_St_init rfl (Nat.le_of_ble_eq_true rfl) rfl (fun A => ?_)
  refine gw_aload_n 0 ok_St_init rfl rfl ?_
  refine gw_obj ok_St_init rfl go_St_5 ⟨Nat.le_of_ble_eq_true rfl, Nat.le_of_ble_eq_true rfl⟩ ?_
  refine gw_aload_n 0 ok_St_init rfl rfl ?_
  refine gw_iconst ok_St_init rfl ?_
  refine gw_newi (N := 3) (wq := fun q1 => [(h0, .inr (7, [.null, .null, .null, .int (Int32.ofInt 0)])), (q1, .inl (F.2.1, 3, .inl (fun _ => Int32.ofInt 0)))]) ok_St_init rfl ga_int (⟨by decide, by decide⟩) (by decide) (⟨Nat.le_of_ble_eq_true rfl, Nat.le_of_ble_eq_true rfl⟩) (fun _ => rfl) (fun q1 => ?_)
  refine gw_eq (ws' := [(h0, .inr (7, [.null, .null, .null, .int (Int32.ofInt 0)])), (q1, .inl (F.2.1, 3, .inl (fun _ => Int32.ofInt 0)))]) (k' := 1) (n' := 3) rfl rfl rfl ?_
  refine gw_putF (ws' := [(h0, .inr (7, [.null, .ref q1, .null, .int (Int32.ofInt 0)])), (q1, .inl (F.2.1, 3, .inl (fun _ => Int32.ofInt 0)))]) 0 ok_St_init rfl gp_St_11 rfl ⟨⟨rfl, rfl⟩, Nat.le_of_ble_eq_true rfl⟩ rfl ?_
  refine gw_aload_n 0 ok_St_init rfl rfl ?_
  refine gw_iconst ok_St_init rfl ?_
  refine gw_newi (N := 3) (wq := fun q2 => [(h0, .inr (7, [.null, .ref q1, .null, .int (Int32.ofInt 0)])), (q1, .inl (F.2.1, 3, .inl (fun _ => Int32.ofInt 0))), (q2, .inl (F.2.1, 3, .inl (fun _ => Int32.ofInt 0)))]) ok_St_init rfl ga_int (⟨by decide, by decide⟩) (by decide) (⟨Nat.le_of_ble_eq_true rfl, Nat.le_of_ble_eq_true rfl⟩) (fun _ => rfl) (fun q2 => ?_)
  refine gw_eq (ws' := [(h0, .inr (7, [.null, .ref q1, .null, .int (Int32.ofInt 0)])), (q1, .inl (F.2.1, 3, .inl (fun _ => Int32.ofInt 0))), (q2, .inl (F.2.1, 3, .inl (fun _ => Int32.ofInt 0)))]) (k' := 2) (n' := 6) rfl rfl rfl ?_
  refine gw_putF (ws' := [(h0, .inr (7, [.null, .ref q1, .ref q2, .int (Int32.ofInt 0)])), (q1, .inl (F.2.1, 3, .inl (fun _ => Int32.ofInt 0))), (q2, .inl (F.2.1, 3, .inl (fun _ => Int32.ofInt 0)))]) 0 ok_St_init rfl gp_St_15 rfl ⟨⟨rfl, rfl⟩, Nat.le_of_ble_eq_true rfl⟩ rfl ?_
  refine gw_aload_n 0 ok_St_init rfl rfl ?_
  refine gw_aload_n 1 ok_St_init rfl rfl ?_
  refine gw_putF (ws' := [(h0, .inr (7, [.ref a1, .ref q1, .ref q2, .int (Int32.ofInt 0)])), (q1, .inl (F.2.1, 3, .inl (fun _ => Int32.ofInt 0))), (q2, .inl (F.2.1, 3, .inl (fun _ => Int32.ofInt 0)))]) 0 ok_St_init rfl gp_St_18 rfl ⟨⟨rfl, rfl⟩, Nat.le_of_ble_eq_true rfl⟩ rfl ?_
  exact gw_ret ok_St_init rfl rfl (⟨Nat.le_of_ble_eq_true rfl, Nat.le_of_ble_eq_true rfl⟩) (⟨q1, q2, rfl⟩)
theorem gt_Cl {h0 : Nat} {a1 : Nat} {a2 : Nat} : gCt m_Cl_init F [.ref h0, .ref a1, .ref a2] [(h0, .inr (1, [.null, .null, .null]))] 1 96 (fun w => ∃ (q1 : Nat), w = [(h0, .inr (1, [.ref a1, .ref a2, .ref q1])), (q1, .inl (F.2.1, 96, .inl (fun _ => Int32.ofInt 0)))]) := by
  refine gCt.of (ls := [(0, .ref h0), (1, .ref a1), (2, .ref a2)]) ok_Cl_init rfl (Nat.le_of_ble_eq_true rfl) rfl (fun A => ?_)
  refine gw_aload_n 0 ok_Cl_init rfl rfl ?_
  refine gw_obj ok_Cl_init rfl go_Cl_3 ⟨Nat.le_of_ble_eq_true rfl, Nat.le_of_ble_eq_true rfl⟩ ?_
  refine gw_aload_n 0 ok_Cl_init rfl rfl ?_
  refine gw_bipush ok_Cl_init rfl (by decide) ?_
  refine gw_newi (N := 96) (wq := fun q1 => [(h0, .inr (1, [.null, .null, .null])), (q1, .inl (F.2.1, 96, .inl (fun _ => Int32.ofInt 0)))]) ok_Cl_init rfl ga_int (⟨by decide, by decide⟩) (by decide) (⟨Nat.le_of_ble_eq_true rfl, Nat.le_of_ble_eq_true rfl⟩) (fun _ => rfl) (fun q1 => ?_)
  refine gw_eq (ws' := [(h0, .inr (1, [.null, .null, .null])), (q1, .inl (F.2.1, 96, .inl (fun _ => Int32.ofInt 0)))]) (k' := 1) (n' := 96) rfl rfl rfl ?_
  refine gw_putF (ws' := [(h0, .inr (1, [.null, .null, .ref q1])), (q1, .inl (F.2.1, 96, .inl (fun _ => Int32.ofInt 0)))]) 0 ok_Cl_init rfl gp_Cl_9 rfl ⟨⟨rfl, rfl⟩, Nat.le_of_ble_eq_true rfl⟩ rfl ?_
  refine gw_aload_n 0 ok_Cl_init rfl rfl ?_
  refine gw_aload_n 1 ok_Cl_init rfl rfl ?_
  refine gw_putF (ws' := [(h0, .inr (1, [.ref a1, .null, .ref q1])), (q1, .inl (F.2.1, 96, .inl (fun _ => Int32.ofInt 0)))]) 0 ok_Cl_init rfl gp_Cl_15 rfl ⟨⟨rfl, rfl⟩, Nat.le_of_ble_eq_true rfl⟩ rfl ?_
  refine gw_aload_n 0 ok_Cl_init rfl rfl ?_
  refine gw_aload_n 2 ok_Cl_init rfl rfl ?_
  refine gw_putF (ws' := [(h0, .inr (1, [.ref a1, .ref a2, .ref q1])), (q1, .inl (F.2.1, 96, .inl (fun _ => Int32.ofInt 0)))]) 0 ok_Cl_init rfl gp_Cl_19 rfl ⟨⟨rfl, rfl⟩, Nat.le_of_ble_eq_true rfl⟩ rfl ?_
  exact gw_ret ok_Cl_init rfl rfl (⟨Nat.le_of_ble_eq_true rfl, Nat.le_of_ble_eq_true rfl⟩) (⟨q1, rfl⟩)
theorem gt_Ch {h0 : Nat} {a1 : Nat} : gCt m_Ch_init F [.ref h0, .ref a1] [(h0, .inr (0, [.null, .null]))] 1 8 (fun w => ∃ (q1 : Nat), w = [(h0, .inr (0, [.ref a1, .ref q1])), (q1, .inl (F.2.2.1, 8, .inr (.inl (fun _ => Int64.ofInt 0))))]) := by
  refine gCt.of (ls := [(0, .ref h0), (1, .ref a1)]) ok_Ch_init rfl (Nat.le_of_ble_eq_true rfl) rfl (fun A => ?_)
  refine gw_aload_n 0 ok_Ch_init rfl rfl ?_
  refine gw_obj ok_Ch_init rfl go_Ch_3 ⟨Nat.le_of_ble_eq_true rfl, Nat.le_of_ble_eq_true rfl⟩ ?_
  refine gw_aload_n 0 ok_Ch_init rfl rfl ?_
  refine gw_bipush ok_Ch_init rfl (by decide) ?_
  refine gw_newl (N := 8) (wq := fun q1 => [(h0, .inr (0, [.null, .null])), (q1, .inl (F.2.2.1, 8, .inr (.inl (fun _ => Int64.ofInt 0))))]) ok_Ch_init rfl ga_long (⟨by decide, by decide⟩) (by decide) (⟨Nat.le_of_ble_eq_true rfl, Nat.le_of_ble_eq_true rfl⟩) (fun _ => rfl) (fun q1 => ?_)
  refine gw_eq (ws' := [(h0, .inr (0, [.null, .null])), (q1, .inl (F.2.2.1, 8, .inr (.inl (fun _ => Int64.ofInt 0))))]) (k' := 1) (n' := 8) rfl rfl rfl ?_
  refine gw_putF (ws' := [(h0, .inr (0, [.null, .ref q1])), (q1, .inl (F.2.2.1, 8, .inr (.inl (fun _ => Int64.ofInt 0))))]) 0 ok_Ch_init rfl gp_Ch_9 rfl ⟨⟨rfl, rfl⟩, Nat.le_of_ble_eq_true rfl⟩ rfl ?_
  refine gw_aload_n 0 ok_Ch_init rfl rfl ?_
  refine gw_aload_n 1 ok_Ch_init rfl rfl ?_
  refine gw_putF (ws' := [(h0, .inr (0, [.ref a1, .ref q1])), (q1, .inl (F.2.2.1, 8, .inr (.inl (fun _ => Int64.ofInt 0))))]) 0 ok_Ch_init rfl gp_Ch_15 rfl ⟨⟨rfl, rfl⟩, Nat.le_of_ble_eq_true rfl⟩ rfl ?_
  exact gw_ret ok_Ch_init rfl rfl (⟨Nat.le_of_ble_eq_true rfl, Nat.le_of_ble_eq_true rfl⟩) (⟨q1, rfl⟩)
theorem gt_Se {h0 : Nat}  : gCt m_Se_init F [.ref h0] [(h0, .inr (6, [.null, .int (Int32.ofInt 0), .int (Int32.ofInt 0), .int (Int32.ofInt 0)]))] 1 60 (fun w => ∃ (q1 : Nat), w = [(h0, .inr (6, [.ref q1, .int (Int32.ofInt 1), .int (Int32.ofInt 0), .int (Int32.ofInt 0)])), (q1, .inl (F.2.1, 60, .inl (fun _ => Int32.ofInt 0)))]) := by
  refine gCt.of (ls := [(0, .ref h0)]) ok_Se_init rfl (Nat.le_of_ble_eq_true rfl) rfl (fun A => ?_)
  refine gw_aload_n 0 ok_Se_init rfl rfl ?_
  refine gw_obj ok_Se_init rfl go_Se_3 ⟨Nat.le_of_ble_eq_true rfl, Nat.le_of_ble_eq_true rfl⟩ ?_
  refine gw_aload_n 0 ok_Se_init rfl rfl ?_
  refine gw_bipush ok_Se_init rfl (by decide) ?_
  refine gw_newi (N := 60) (wq := fun q1 => [(h0, .inr (6, [.null, .int (Int32.ofInt 0), .int (Int32.ofInt 0), .int (Int32.ofInt 0)])), (q1, .inl (F.2.1, 60, .inl (fun _ => Int32.ofInt 0)))]) ok_Se_init rfl ga_int (⟨by decide, by decide⟩) (by decide) (⟨Nat.le_of_ble_eq_true rfl, Nat.le_of_ble_eq_true rfl⟩) (fun _ => rfl) (fun q1 => ?_)
  refine gw_eq (ws' := [(h0, .inr (6, [.null, .int (Int32.ofInt 0), .int (Int32.ofInt 0), .int (Int32.ofInt 0)])), (q1, .inl (F.2.1, 60, .inl (fun _ => Int32.ofInt 0)))]) (k' := 1) (n' := 60) rfl rfl rfl ?_
  refine gw_putF (ws' := [(h0, .inr (6, [.ref q1, .int (Int32.ofInt 0), .int (Int32.ofInt 0), .int (Int32.ofInt 0)])), (q1, .inl (F.2.1, 60, .inl (fun _ => Int32.ofInt 0)))]) 0 ok_Se_init rfl gp_Se_9 rfl ⟨⟨rfl, rfl⟩, Nat.le_of_ble_eq_true rfl⟩ rfl ?_
  refine gw_aload_n 0 ok_Se_init rfl rfl ?_
  refine gw_iconst ok_Se_init rfl ?_
  refine gw_put (ws' := [(h0, .inr (6, [.ref q1, .int (Int32.ofInt 1), .int (Int32.ofInt 0), .int (Int32.ofInt 0)])), (q1, .inl (F.2.1, 60, .inl (fun _ => Int32.ofInt 0)))]) 0 ok_Se_init rfl gp_Se_15 rfl ⟨⟨by decide, by decide⟩, Nat.le_of_ble_eq_true rfl⟩ rfl ?_
  exact gw_ret ok_Se_init rfl rfl (⟨Nat.le_of_ble_eq_true rfl, Nat.le_of_ble_eq_true rfl⟩) (⟨q1, rfl⟩)
theorem wa_loop {A : Nat → Prop} {h0 q1 : Nat} {Q : va_W → Prop} (hQ : Q [(h0, .inr (9, [.ref q1, .int (Int32.ofInt 0), .int (Int32.ofInt (-1))])), (q1, .inl (F.2.1, 96, .inl (fun t => if t < 96 then Int32.ofInt (-1) else Int32.ofInt 0)))]) : ∀ (j i : Nat), i + j = 96 → GW m_Wa_init F A 1 96 19 [(1, .int (Int32.ofInt (i : Int))), (0, .ref h0)] [] [(h0, .inr (9, [.ref q1, .int (Int32.ofInt 0), .int (Int32.ofInt (-1))])), (q1, .inl (F.2.1, 96, .inl (fun t => if t < i then Int32.ofInt (-1) else Int32.ofInt 0)))] 1 96 Q := by
  intro j
  induction j with
  | zero =>
    intro i h
    have e : i = 96 := by omega
    subst e
    refine gw_iload_n 0 ok_Wa_init rfl rfl ?_
    refine gw_bipush ok_Wa_init rfl (by decide) ?_
    refine gw_ge 38 ok_Wa_init rfl (by decide) (fun _ => ?_) (fun hc => absurd (by decide) hc)
    exact gw_ret ok_Wa_init rfl rfl ⟨Nat.le_refl _, Nat.le_refl _⟩ hQ
  | succ j ih =>
    intro i h
    refine gw_iload_n 0 ok_Wa_init rfl rfl ?_
    refine gw_bipush ok_Wa_init rfl (by decide) ?_
    refine gw_ge 38 ok_Wa_init rfl (by decide) (fun hc => ?_) (fun _ => ?_)
    · exfalso
      rw [Int32.le_iff_toInt_le, zto32 (by omega), zto32 (by omega)] at hc
      omega
    · refine gw_aload_n 1 ok_Wa_init rfl rfl ?_
      refine gw_get 0 ok_Wa_init rfl gg_Wa_9 rfl rfl ?_
      refine gw_iload_n 0 ok_Wa_init rfl rfl ?_
      refine gw_iconst ok_Wa_init rfl ?_
      have zi := zidx (i := (i : Int)) (n := 96) (by omega) (by omega)
      refine gw_iast (ws' := [(h0, .inr (9, [.ref q1, .int (Int32.ofInt 0), .int (Int32.ofInt (-1))])), (q1, .inl (F.2.1, 96, .inl (fun t => if t < i + 1 then Int32.ofInt (-1) else Int32.ofInt 0)))]) 1 ok_Wa_init rfl rfl zi.1 ?_ ?_
      · rw [zi.2, Int.toNat_natCast]
        show [(h0, _), (q1, _)] = [(h0, _), (q1, _)]
        congr 7
        funext t
        unfold upd
        by_cases e : t = i
        · subst e; simp
        · by_cases l : t < i
          · rw [if_neg e]; show (if t < i then _ else _) = _; rw [if_pos l, if_pos (by omega)]
          · rw [if_neg e]; show (if t < i then _ else _) = _; rw [if_neg l, if_neg (by omega)]
      · refine gw_iinc (i := 0) (ls' := [(1, .int (Int32.ofInt ((i + 1 : Nat) : Int))), (0, .ref h0)]) ok_Wa_init rfl rfl (by rw [← Int32.ofInt_add]; rfl) (by decide) rfl ?_
        refine gw_goto 19 ok_Wa_init rfl (by decide) ?_
        exact ih (i + 1) (by omega)
theorem gt_Wa {h0 : Nat} : gCt m_Wa_init F [.ref h0] [(h0, .inr (9, [.null, .int (Int32.ofInt 0), .int (Int32.ofInt 0)]))] 1 96 (fun w => ∃ (q1 : Nat), w = [(h0, .inr (9, [.ref q1, .int (Int32.ofInt 0), .int (Int32.ofInt (-1))])), (q1, .inl (F.2.1, 96, .inl (fun t => if t < 96 then Int32.ofInt (-1) else Int32.ofInt 0)))]) := by
  refine gCt.of (ls := [(0, .ref h0)]) ok_Wa_init rfl (Nat.le_of_ble_eq_true rfl) rfl (fun A => ?_)
  refine gw_aload_n 0 ok_Wa_init rfl rfl ?_
  refine gw_obj ok_Wa_init rfl go_Wa_3 ⟨Nat.le_of_ble_eq_true rfl, Nat.le_of_ble_eq_true rfl⟩ ?_
  refine gw_aload_n 0 ok_Wa_init rfl rfl ?_
  refine gw_bipush ok_Wa_init rfl (by decide) ?_
  refine gw_newi (N := 96) (wq := fun q1 => [(h0, .inr (9, [.null, .int (Int32.ofInt 0), .int (Int32.ofInt 0)])), (q1, .inl (F.2.1, 96, .inl (fun _ => Int32.ofInt 0)))]) ok_Wa_init rfl ga_int (⟨by decide, by decide⟩) (by decide) (⟨Nat.le_of_ble_eq_true rfl, Nat.le_of_ble_eq_true rfl⟩) (fun _ => rfl) (fun q1 => ?_)
  refine gw_eq (ws' := [(h0, .inr (9, [.null, .int (Int32.ofInt 0), .int (Int32.ofInt 0)])), (q1, .inl (F.2.1, 96, .inl (fun _ => Int32.ofInt 0)))]) (k' := 1) (n' := 96) rfl rfl rfl ?_
  refine gw_putF (ws' := [(h0, .inr (9, [.ref q1, .int (Int32.ofInt 0), .int (Int32.ofInt 0)])), (q1, .inl (F.2.1, 96, .inl (fun _ => Int32.ofInt 0)))]) 0 ok_Wa_init rfl gp_Wa_9 rfl ⟨⟨rfl, rfl⟩, Nat.le_of_ble_eq_true rfl⟩ rfl ?_
  refine gw_aload_n 0 ok_Wa_init rfl rfl ?_
  refine gw_iconst ok_Wa_init rfl ?_
  refine gw_put (ws' := [(h0, .inr (9, [.ref q1, .int (Int32.ofInt 0), .int (Int32.ofInt (-1))])), (q1, .inl (F.2.1, 96, .inl (fun _ => Int32.ofInt 0)))]) 0 ok_Wa_init rfl gp_Wa_15 rfl ⟨⟨rfl, rfl⟩, Nat.le_of_ble_eq_true rfl⟩ rfl ?_
  refine gw_iconst ok_Wa_init rfl ?_
  refine gw_istore_n (ls' := [(1, .int (Int32.ofInt 0)), (0, .ref h0)]) ok_Wa_init rfl (by decide) rfl ?_
  refine gw_eq (ws' := [(h0, .inr (9, [.ref q1, .int (Int32.ofInt 0), .int (Int32.ofInt (-1))])), (q1, .inl (F.2.1, 96, .inl (fun t => if t < 0 then Int32.ofInt (-1) else Int32.ofInt 0)))]) (k' := 1) (n' := 96) rfl rfl rfl ?_
  exact wa_loop ⟨q1, rfl⟩ 96 0 (by omega)
end
