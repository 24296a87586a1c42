/-! ===== ShadePlan ===== -/
theorem wrC_out {mem : zMem} {L : zL} {s : zS} {k : Nat} {i v : Int} (h : k < 24 ∨ 29 < k) : zset (putC mem L s) k i v = putC (zset mem k i v) L s := by
  refine putC_cases (fun q hq => ?_) ?_ ?_ ?_ ?_ ?_ ?_
  · rw [putC_ne hq]
    by_cases e : q = k
    · subst e; rw [zset_eq, zset_eq, putC_ne hq]
    · rw [zset_ne e, zset_ne e, putC_ne hq]
  · rw [zset_ne (by omega)]
    show cRow (mem 24) s = cRow (zset mem k i v 24) s
    rw [zset_ne (by omega)]
  all_goals (rw [zset_ne (by omega)]; rfl)
def tog (hd : Int → Int) (u : Int) : Int → Int := zupd hd (u / 8) (zxor (hd (u / 8)) (zshl 1 (u % 8)))
theorem zxor_2 {x y : Int} (h : -2147483648 ≤ x ∧ x < 2147483648) : zxor (zxor x y) y = x := by
  apply tb_ext (zR_xor _ _) h
  intro i _
  rw [tb_xor, tb_xor]
  cases tb x i <;> cases tb y i <;> rfl
theorem tog_2 {hd : Int → Int} {u : Int} (h : -2147483648 ≤ hd (u / 8) ∧ hd (u / 8) < 2147483648) : tog (tog hd u) u = hd := by
  unfold tog
  rw [zupd_eq, zxor_2 h]
  funext j
  simp only [zupd]
  split
  · rename_i e; rw [e]
  · rfl
theorem tog_R {hd : Int → Int} {u h : Int} (hr : -2147483648 ≤ hd h ∧ hd h < 2147483648) : -2147483648 ≤ tog hd u h ∧ tog hd u h < 2147483648 := by
  unfold tog
  by_cases e : h = u / 8
  · subst e; rw [zupd_eq]; exact zR_xor _ _
  · rw [zupd_ne e]; exact hr
theorem till_self {P : Int} {can step st un : Int → Int} {s t : zS} (hP : 0 ≤ P) (he : eqP P s t) : eqP P (tillS P can step st un 12 0 s) (tillS P can step st un 12 0 t) := by
  have pe : pEq P can step st un can step (fun h p => st (h * 8 + p)) (fun h p => tb (un h) p.toNat) := ⟨fun _ _ _ => ⟨rfl, rfl⟩, fun _ _ _ _ _ _ => rfl, fun _ _ _ _ _ _ => rfl⟩
  exact (till_t pe hP 12 0 s t (by omega) (by omega) he).tr (till_t pe hP 12 0 t t (by omega) (by omega) eqP.rf).sy
/-- the hour in which one is gone first, on this layout -/
def fhC (mem : zMem) (st hd df : Int → Int) : Int := (tillS (mem 5 4) (mem 7) (mem 9) st (fun h => zor (hd h) (mem 5 5)) 12 0 (beg0 df)).2.2.2.2.1
theorem fhC_eq {mem : zMem} {st hd df d l : Int → Int} (hC : okC mem) : (tillS (mem 5 4) (mem 7) (mem 9) st (fun h => zor (hd h) (mem 5 5)) 12 0 (begS df d l)).2.2.2.2.1 = fhC mem st hd df := by
  have h := till_self (can := mem 7) (step := mem 9) (st := st) (un := fun h => zor (hd h) (mem 5 5)) hC.2.1.1 (begS_eq (df := df) (df2 := df) (d := d) (l := l) hC.2.1.2.1 (fun _ _ _ _ _ => rfl))
  rw [h.2.2]
  rfl
theorem till_fh {P : Int} {can step st un : Int → Int} : ∀ (k : Nat) (h : Int) (s : zS), 0 ≤ h → h + k ≤ 12 → (-1 ≤ s.2.2.2.2.1 ∧ s.2.2.2.2.1 ≤ 11) → -1 ≤ (tillS P can step st un k h s).2.2.2.2.1 ∧ (tillS P can step st un k h s).2.2.2.2.1 ≤ 11
  | 0, _, _, _, _, hf => hf
  | k + 1, h, s, h0, hk, hf => by
    unfold tillS
    split
    · exact hf
    · exact till_fh k (h + 1) _ (by omega) (by omega) (hourS_fh (by omega) hf)
theorem fhC_r {mem : zMem} {st hd df : Int → Int} : -1 ≤ fhC mem st hd df ∧ fhC mem st hd df ≤ 11 := till_fh 12 0 _ (by omega) (by omega) ⟨Int.le_refl _, (show (-1 : Int) ≤ 11 by decide)⟩
def wrth (mem : zMem) (st hd : Int → Int) (u : Int) : Bool := decide (u % 8 < mem 5 4 ∧ st u ≠ -1 ∧ tb (zor (hd (u / 8)) (mem 5 5)) (u % 8).toNat = false)
def nthS (mem : zMem) (st hd df : Int → Int) : Nat → Int → Int
  | 0, _ => -1
  | k + 1, u => if wrth mem st hd u = true ∧ fhC mem st (tog hd u) df = -1 then u else nthS mem st hd df k (u + 1)
theorem nthS_r {mem : zMem} {st hd df : Int → Int} : ∀ (k : Nat) (u : Int), 0 ≤ u → -1 ≤ nthS mem st hd df k u ∧ nthS mem st hd df k u < u + k
  | 0, u, h => by unfold nthS; omega
  | k + 1, u, h => by
    unfold nthS
    split
    · omega
    · have := nthS_r (mem := mem) (st := st) (hd := hd) (df := df) k (u + 1) (by omega)
      omega
section
variable {mem : zMem} {st hd df : Int → Int} {s : zS} {Q : Option zVal → zMem → Prop}
theorem ct_Sh_toggle {u : Int} (hu : 0 ≤ u ∧ u < 96) : zCvp m_Sh_toggle [vr 30, vi u] (putC mem (st, hd, df) s) (putC mem (st, tog hd u, df) s) := by
  refine zCt.of [some (vr 30), some (vi u)] ok_Sh_toggle (Nat.le_of_ble_eq_true rfl) rfl ?_
  refine zw_aload_n ok_Sh_toggle rfl rfl ?_
  refine zw_getr ok_Sh_toggle rfl fl_Sh_15 rfl rfl ?_
  refine zw_getr ok_Sh_toggle rfl fl_Sh_51 rfl rfl ?_
  refine zw_iload_n ok_Sh_toggle rfl rfl ?_
  refine zw_bipush ok_Sh_toggle rfl (by decide) ?_
  refine zw_idiv ok_Sh_toggle rfl (by omega) ?_
  rw [zdiv_nn (by omega) (by omega)]
  refine zw_dup2 ok_Sh_toggle rfl ?_
  refine zw_iald ok_Sh_toggle rfl rfl (by omega) ?_
  try simp only [rd_C9, rd_C10, rd_C11, rd_C12, rd_C25, rd_C26, rd_C27, rd_C28, rd_C29, rd_C_0, rd_C_1, rd_C_2, rd_C_3, rd_C_4, rd_C_5, rd_C_6, rd_C_7, rd_C_8, rd_C_9, rd_C_10, rd_C_11, rd_C_12, rd_C_13, rd_C_14, rd_C_15, rd_C_16, rd_C_17, rd_C_18, rd_C_19, rd_C_20, rd_C_21, rd_C_22, rd_C_23, rd_C_30, rd_C_31, rd_C_32, rd_C_33, rd_C_34, rd_C_35, rd_C_36, rd_C_37, rd_C_38, rd_C_39, rd_C_40, rd_C_41, rd_C_42, rd_C_43, rd_C_44, rd_C_45, rd_C_46, rd_C_47, rd_C_48, rd_C_49, rd_C_50, rd_C_51, rd_C_52, rd_C_53, rd_C_54, rd_C_55, rd_C_56, rd_C_57, rd_C_58, rd_C_59, rd_C_60, rd_C_61, rd_C_62, rd_C_63, rd_C_64, rd_C_65, wr_C9, wr_C10, wr_C11, wr_C12, wr_C25, wr_C26, wr_C27, wr_C28, wr_C29, wp_C25, wp_C26, wp_C27, wp_C28, wp_C29]
  refine zw_iconst ok_Sh_toggle rfl ?_
  refine zw_iload_n ok_Sh_toggle rfl rfl ?_
  refine zw_bipush ok_Sh_toggle rfl (by decide) ?_
  refine zw_irem ok_Sh_toggle rfl (by omega) ?_
  rw [zrem_nn (by omega) (by omega)]
  refine zw_ishl ok_Sh_toggle rfl ?_
  refine zw_ixor ok_Sh_toggle rfl ?_
  refine zw_iast ok_Sh_toggle rfl rfl (by omega) ?_
  try simp only [rd_C9, rd_C10, rd_C11, rd_C12, rd_C25, rd_C26, rd_C27, rd_C28, rd_C29, rd_C_0, rd_C_1, rd_C_2, rd_C_3, rd_C_4, rd_C_5, rd_C_6, rd_C_7, rd_C_8, rd_C_9, rd_C_10, rd_C_11, rd_C_12, rd_C_13, rd_C_14, rd_C_15, rd_C_16, rd_C_17, rd_C_18, rd_C_19, rd_C_20, rd_C_21, rd_C_22, rd_C_23, rd_C_30, rd_C_31, rd_C_32, rd_C_33, rd_C_34, rd_C_35, rd_C_36, rd_C_37, rd_C_38, rd_C_39, rd_C_40, rd_C_41, rd_C_42, rd_C_43, rd_C_44, rd_C_45, rd_C_46, rd_C_47, rd_C_48, rd_C_49, rd_C_50, rd_C_51, rd_C_52, rd_C_53, rd_C_54, rd_C_55, rd_C_56, rd_C_57, rd_C_58, rd_C_59, rd_C_60, rd_C_61, rd_C_62, rd_C_63, rd_C_64, rd_C_65, wr_C9, wr_C10, wr_C11, wr_C12, wr_C25, wr_C26, wr_C27, wr_C28, wr_C29, wp_C25, wp_C26, wp_C27, wp_C28, wp_C29]
  exact zw_vret ok_Sh_toggle rfl rfl (⟨rfl, rfl⟩)
theorem ct_Sh_isWorthHiding {u : Int} (hu : 0 ≤ u ∧ u < 96) (hP : 0 ≤ mem 5 4 ∧ mem 5 4 ≤ 8) (hst : -1 ≤ st u ∧ st u ≤ 7) : zCbp m_Sh_isWorthHiding [vr 30, vi u] (putC mem (st, hd, df) s) (wrth mem st hd u) := by
  refine zCt.of [some (vr 30), some (vi u), none, none] ok_Sh_isWorthHiding (Nat.le_of_ble_eq_true rfl) rfl ?_
  unfold wrth
  refine zw_aload_n ok_Sh_isWorthHiding rfl rfl ?_
  refine zw_getr ok_Sh_isWorthHiding rfl fl_Sh_15 rfl rfl ?_
  refine zw_getr ok_Sh_isWorthHiding rfl fl_Sh_51 rfl rfl ?_
  refine zw_iload_n ok_Sh_isWorthHiding rfl rfl ?_
  refine zw_bipush ok_Sh_isWorthHiding rfl (by decide) ?_
  refine zw_idiv ok_Sh_isWorthHiding rfl (by omega) ?_
  rw [zdiv_nn (by omega) (by omega)]
  refine zw_iald ok_Sh_isWorthHiding rfl rfl (by omega) ?_
  try simp only [rd_C9, rd_C10, rd_C11, rd_C12, rd_C25, rd_C26, rd_C27, rd_C28, rd_C29, rd_C_0, rd_C_1, rd_C_2, rd_C_3, rd_C_4, rd_C_5, rd_C_6, rd_C_7, rd_C_8, rd_C_9, rd_C_10, rd_C_11, rd_C_12, rd_C_13, rd_C_14, rd_C_15, rd_C_16, rd_C_17, rd_C_18, rd_C_19, rd_C_20, rd_C_21, rd_C_22, rd_C_23, rd_C_30, rd_C_31, rd_C_32, rd_C_33, rd_C_34, rd_C_35, rd_C_36, rd_C_37, rd_C_38, rd_C_39, rd_C_40, rd_C_41, rd_C_42, rd_C_43, rd_C_44, rd_C_45, rd_C_46, rd_C_47, rd_C_48, rd_C_49, rd_C_50, rd_C_51, rd_C_52, rd_C_53, rd_C_54, rd_C_55, rd_C_56, rd_C_57, rd_C_58, rd_C_59, rd_C_60, rd_C_61, rd_C_62, rd_C_63, rd_C_64, rd_C_65, wr_C9, wr_C10, wr_C11, wr_C12, wr_C25, wr_C26, wr_C27, wr_C28, wr_C29, wp_C25, wp_C26, wp_C27, wp_C28, wp_C29]
  refine zw_aload_n ok_Sh_isWorthHiding rfl rfl ?_
  refine zw_getr ok_Sh_isWorthHiding rfl fl_Sh_15 rfl rfl ?_
  refine zw_getr ok_Sh_isWorthHiding rfl fl_Sh_54 rfl rfl ?_
  refine zw_geti ok_Sh_isWorthHiding rfl fl_Sh_58 rfl rfl ?_
  try simp only [rd_C9, rd_C10, rd_C11, rd_C12, rd_C25, rd_C26, rd_C27, rd_C28, rd_C29, rd_C_0, rd_C_1, rd_C_2, rd_C_3, rd_C_4, rd_C_5, rd_C_6, rd_C_7, rd_C_8, rd_C_9, rd_C_10, rd_C_11, rd_C_12, rd_C_13, rd_C_14, rd_C_15, rd_C_16, rd_C_17, rd_C_18, rd_C_19, rd_C_20, rd_C_21, rd_C_22, rd_C_23, rd_C_30, rd_C_31, rd_C_32, rd_C_33, rd_C_34, rd_C_35, rd_C_36, rd_C_37, rd_C_38, rd_C_39, rd_C_40, rd_C_41, rd_C_42, rd_C_43, rd_C_44, rd_C_45, rd_C_46, rd_C_47, rd_C_48, rd_C_49, rd_C_50, rd_C_51, rd_C_52, rd_C_53, rd_C_54, rd_C_55, rd_C_56, rd_C_57, rd_C_58, rd_C_59, rd_C_60, rd_C_61, rd_C_62, rd_C_63, rd_C_64, rd_C_65, wr_C9, wr_C10, wr_C11, wr_C12, wr_C25, wr_C26, wr_C27, wr_C28, wr_C29, wp_C25, wp_C26, wp_C27, wp_C28, wp_C29]
  refine zw_ior ok_Sh_isWorthHiding rfl ?_
  refine zw_istore_n ok_Sh_isWorthHiding rfl rfl (by decide) ?_
  refine zw_iload_n ok_Sh_isWorthHiding rfl rfl ?_
  refine zw_bipush ok_Sh_isWorthHiding rfl (by decide) ?_
  refine zw_irem ok_Sh_isWorthHiding rfl (by omega) ?_
  rw [zrem_nn (by omega) (by omega)]
  refine zw_istore_n ok_Sh_isWorthHiding rfl rfl (by decide) ?_
  refine zw_iload_n ok_Sh_isWorthHiding rfl rfl ?_
  refine zw_aload_n ok_Sh_isWorthHiding rfl rfl ?_
  refine zw_getr ok_Sh_isWorthHiding rfl fl_Sh_15 rfl rfl ?_
  refine zw_getr ok_Sh_isWorthHiding rfl fl_Sh_54 rfl rfl ?_
  refine zw_geti ok_Sh_isWorthHiding rfl fl_Sh_63 rfl rfl ?_
  try simp only [rd_C9, rd_C10, rd_C11, rd_C12, rd_C25, rd_C26, rd_C27, rd_C28, rd_C29, rd_C_0, rd_C_1, rd_C_2, rd_C_3, rd_C_4, rd_C_5, rd_C_6, rd_C_7, rd_C_8, rd_C_9, rd_C_10, rd_C_11, rd_C_12, rd_C_13, rd_C_14, rd_C_15, rd_C_16, rd_C_17, rd_C_18, rd_C_19, rd_C_20, rd_C_21, rd_C_22, rd_C_23, rd_C_30, rd_C_31, rd_C_32, rd_C_33, rd_C_34, rd_C_35, rd_C_36, rd_C_37, rd_C_38, rd_C_39, rd_C_40, rd_C_41, rd_C_42, rd_C_43, rd_C_44, rd_C_45, rd_C_46, rd_C_47, rd_C_48, rd_C_49, rd_C_50, rd_C_51, rd_C_52, rd_C_53, rd_C_54, rd_C_55, rd_C_56, rd_C_57, rd_C_58, rd_C_59, rd_C_60, rd_C_61, rd_C_62, rd_C_63, rd_C_64, rd_C_65, wr_C9, wr_C10, wr_C11, wr_C12, wr_C25, wr_C26, wr_C27, wr_C28, wr_C29, wp_C25, wp_C26, wp_C27, wp_C28, wp_C29]
  refine zw_icmp_ge 68 ok_Sh_isWorthHiding rfl (by decide) (by omega) (fun h40 => ?_) (fun h40 => ?_)
  · refine zw_iconst ok_Sh_isWorthHiding rfl ?_
    exact zw_zret ok_Sh_isWorthHiding rfl rfl (by first | exact Or.inl rfl | exact Or.inr rfl | exact bi01 _) (⟨by refine congrArg (fun z => some (vi z)) ?_; first | exact (bi_f (fun q => by omega)).symm | exact (bi_t ⟨by omega, h53, h61⟩).symm | exact (bi_f (fun q => h61 q.2.2)).symm, rfl⟩)
  · refine zw_aload_n ok_Sh_isWorthHiding rfl rfl ?_
    refine zw_getr ok_Sh_isWorthHiding rfl fl_Sh_15 rfl rfl ?_
    refine zw_getr ok_Sh_isWorthHiding rfl fl_Sh_64 rfl rfl ?_
    refine zw_iload_n ok_Sh_isWorthHiding rfl rfl ?_
    refine zw_iald ok_Sh_isWorthHiding rfl rfl (by omega) ?_
    try simp only [rd_C9, rd_C10, rd_C11, rd_C12, rd_C25, rd_C26, rd_C27, rd_C28, rd_C29, rd_C_0, rd_C_1, rd_C_2, rd_C_3, rd_C_4, rd_C_5, rd_C_6, rd_C_7, rd_C_8, rd_C_9, rd_C_10, rd_C_11, rd_C_12, rd_C_13, rd_C_14, rd_C_15, rd_C_16, rd_C_17, rd_C_18, rd_C_19, rd_C_20, rd_C_21, rd_C_22, rd_C_23, rd_C_30, rd_C_31, rd_C_32, rd_C_33, rd_C_34, rd_C_35, rd_C_36, rd_C_37, rd_C_38, rd_C_39, rd_C_40, rd_C_41, rd_C_42, rd_C_43, rd_C_44, rd_C_45, rd_C_46, rd_C_47, rd_C_48, rd_C_49, rd_C_50, rd_C_51, rd_C_52, rd_C_53, rd_C_54, rd_C_55, rd_C_56, rd_C_57, rd_C_58, rd_C_59, rd_C_60, rd_C_61, rd_C_62, rd_C_63, rd_C_64, rd_C_65, wr_C9, wr_C10, wr_C11, wr_C12, wr_C25, wr_C26, wr_C27, wr_C28, wr_C29, wp_C25, wp_C26, wp_C27, wp_C28, wp_C29]
    refine zw_iconst ok_Sh_isWorthHiding rfl ?_
    refine zw_icmp_eq 68 ok_Sh_isWorthHiding rfl (by decide) (by omega) (fun h53 => ?_) (fun h53 => ?_)
    · refine zw_iconst ok_Sh_isWorthHiding rfl ?_
      exact zw_zret ok_Sh_isWorthHiding rfl rfl (by first | exact Or.inl rfl | exact Or.inr rfl | exact bi01 _) (⟨by refine congrArg (fun z => some (vi z)) ?_; first | exact (bi_f (fun q => by omega)).symm | exact (bi_t ⟨by omega, h53, h61⟩).symm | exact (bi_f (fun q => h61 q.2.2)).symm, rfl⟩)
    · refine zw_iload_n ok_Sh_isWorthHiding rfl rfl ?_
      refine zw_iload_n ok_Sh_isWorthHiding rfl rfl ?_
      refine zw_ishr ok_Sh_isWorthHiding rfl ?_
      refine zw_iconst ok_Sh_isWorthHiding rfl ?_
      refine zw_iand ok_Sh_isWorthHiding rfl ?_
      refine zw_if_ne 68 ok_Sh_isWorthHiding rfl (by decide) (zR_and _ _) (fun h61 => ?_) (fun h61 => ?_)
      · rw [tb_ask0 _ (by omega)] at h61
        refine zw_iconst ok_Sh_isWorthHiding rfl ?_
        exact zw_zret ok_Sh_isWorthHiding rfl rfl (by first | exact Or.inl rfl | exact Or.inr rfl | exact bi01 _) (⟨by refine congrArg (fun z => some (vi z)) ?_; first | exact (bi_f (fun q => by omega)).symm | exact (bi_t ⟨by omega, h53, h61⟩).symm | exact (bi_f (fun q => h61 q.2.2)).symm, rfl⟩)
      · rw [tb_ask0 _ (by omega)] at h61
        refine zw_iconst ok_Sh_isWorthHiding rfl ?_
        refine zw_goto 69 ok_Sh_isWorthHiding rfl (by decide) ?_
        exact zw_zret ok_Sh_isWorthHiding rfl rfl (by first | exact Or.inl rfl | exact Or.inr rfl | exact bi01 _) (⟨by refine congrArg (fun z => some (vi z)) ?_; first | exact (bi_f (fun q => by omega)).symm | exact (bi_t ⟨by omega, h53, h61⟩).symm | exact (bi_f (fun q => h61 q.2.2)).symm, rfl⟩)
theorem nth_loop {fr la : Int} (hC : okC mem) (hst : ∀ i, 0 ≤ i → i < 96 → -1 ≤ st i ∧ st i ≤ 7) (hdf : dfI (mem 5 4) df) (hR : ∀ h, 0 ≤ h → h < 12 → -2147483648 ≤ hd h ∧ hd h < 2147483648) (hla : -1 ≤ la ∧ la ≤ 11) :
    ∀ (k : Nat) (u : Int) (s : zS), 0 ≤ u → (u + k = 8 * (la + 1) ∨ (k = 0 ∧ 8 * (la + 1) ≤ u)) → u ≤ 96 → (∀ s2, Q (some (vi (nthS mem st hd df k u))) (putC mem (st, hd, df) s2)) → AW m_Sh_numberThatHelps 10 [some (vr 30), some (vi fr), some (vi la), some (vi (8 * (la + 1))), some (vi u), none] [] (putC mem (st, hd, df) s) Q := by
  intro k
  induction k with
  | zero =>
    intro u s h0 hk hu hx
    refine zw_iload ok_Sh_numberThatHelps rfl rfl ?_
    refine zw_iload_n ok_Sh_numberThatHelps rfl rfl ?_
    refine zw_icmp_ge 69 ok_Sh_numberThatHelps rfl (by decide) (by omega) (fun h13 => ?_) (fun h13 => ?_)
    · refine zw_iconst ok_Sh_numberThatHelps rfl ?_
      exact zw_iret ok_Sh_numberThatHelps rfl rfl (hx _)
    · exfalso; omega
  | succ k ih =>
    intro u s h0 hk hu hx
    have hu8 : 0 ≤ u / 8 ∧ u / 8 < 12 := by omega
    have ht := tog_2 (hd := hd) (u := u) (hR _ hu8.1 hu8.2)
    have hfr := fhC_r (mem := mem) (st := st) (hd := tog hd u) (df := df)
    unfold nthS at hx
    have next : ∀ s3, ¬ (wrth mem st hd u = true ∧ fhC mem st (tog hd u) df = -1) → AW m_Sh_numberThatHelps 63 [some (vr 30), some (vi fr), some (vi la), some (vi (8 * (la + 1))), some (vi u), none] [] (putC mem (st, hd, df) s3) Q := by
      intro s3 hn
      refine zw_iinc ok_Sh_numberThatHelps rfl rfl rfl (by decide) ?_
      refine zw_goto 10 ok_Sh_numberThatHelps rfl (by decide) ?_
      exact ih (u + 1) _ (by omega) (by omega) (by omega) (fun s2 => by have := hx s2; rw [if_neg hn] at this; exact this)
    refine zw_iload ok_Sh_numberThatHelps rfl rfl ?_
    refine zw_iload_n ok_Sh_numberThatHelps rfl rfl ?_
    refine zw_icmp_ge 69 ok_Sh_numberThatHelps rfl (by decide) (by omega) (fun h13 => ?_) (fun h13 => ?_)
    · exfalso; omega
    · refine zw_aload_n ok_Sh_numberThatHelps rfl rfl ?_
      refine zw_iload ok_Sh_numberThatHelps rfl rfl ?_
      refine zw_Vbp ok_Sh_numberThatHelps rfl ok_Sh_isWorthHiding lk_Sh_44 (by decide) rfl rfl (Nat.le_of_ble_eq_true rfl) (ct_Sh_isWorthHiding (by omega) hC.1.1 (hst u (by omega) (by omega))) ?_
      first | refine zw_ifeq_d 63 ok_Sh_numberThatHelps rfl (by decide) (fun h22 => ?_) (fun h22 => ?_) | refine zw_ifeq_b 63 ok_Sh_numberThatHelps rfl (by decide) (fun h22 => ?_) (fun h22 => ?_) | refine zw_if_eq 63 ok_Sh_numberThatHelps rfl (by decide) (by omega) (fun h22 => ?_) (fun h22 => ?_)
      · exact next s (fun q => by have h22 := h22; unfold wrth at q; exact h22 (of_decide_eq_true q.1))
      · refine zw_aload_n ok_Sh_numberThatHelps rfl rfl ?_
        refine zw_iload ok_Sh_numberThatHelps rfl rfl ?_
        refine zw_Vvp ok_Sh_numberThatHelps rfl ok_Sh_toggle lk_Sh_47 (by decide) rfl rfl (Nat.le_of_ble_eq_true rfl) (ct_Sh_toggle (by omega)) ?_
        refine zw_aload_n ok_Sh_numberThatHelps rfl rfl ?_
        refine zw_getr ok_Sh_numberThatHelps rfl fl_Sh_15 rfl rfl ?_
        refine zw_Vi ok_Sh_numberThatHelps rfl ok_Co_walkTillOneIsGone lk_Sh_25 (by decide) rfl rfl (Nat.le_of_ble_eq_true rfl) (ct_Co_walkTillOneIsGone hC.2.1 rfl hst (begS_inv hC.2.1.2.1 hdf)) (fun m35 h35 => ?_)
        subst h35
        rw [fhC_eq hC]
        generalize tillS _ _ _ _ _ _ _ _ = s4
        refine zw_iconst ok_Sh_numberThatHelps rfl ?_
        refine zw_icmp_ne 46 ok_Sh_numberThatHelps rfl (by decide) (by omega) (fun h39 => ?_) (fun h39 => ?_)
        · refine zw_iconst ok_Sh_numberThatHelps rfl ?_
          refine zw_istore ok_Sh_numberThatHelps rfl rfl (by decide) ?_
          refine zw_aload_n ok_Sh_numberThatHelps rfl rfl ?_
          refine zw_iload ok_Sh_numberThatHelps rfl rfl ?_
          refine zw_Vvp ok_Sh_numberThatHelps rfl ok_Sh_toggle lk_Sh_47 (by decide) rfl rfl (Nat.le_of_ble_eq_true rfl) (ct_Sh_toggle (by omega)) ?_
          rw [ht]
          refine zw_iload ok_Sh_numberThatHelps rfl rfl ?_
          refine zw_if_eq 63 ok_Sh_numberThatHelps rfl (by decide) (by omega) (fun h57 => ?_) (fun h57 => ?_)
          · try (exfalso; omega)
            all_goals
              refine zw_mask [true, true, true, true, true, false] rfl ?_
              exact next _ (fun q => by omega)
          · try (exfalso; omega)
            all_goals
              refine zw_iload ok_Sh_numberThatHelps rfl rfl ?_
              exact zw_iret ok_Sh_numberThatHelps rfl rfl ((by have := hx s4; rw [if_pos ⟨decide_eq_true h22, by omega⟩] at this; exact this))
        · refine zw_iconst ok_Sh_numberThatHelps rfl ?_
          refine zw_goto 47 ok_Sh_numberThatHelps rfl (by decide) ?_
          refine zw_istore ok_Sh_numberThatHelps rfl rfl (by decide) ?_
          refine zw_aload_n ok_Sh_numberThatHelps rfl rfl ?_
          refine zw_iload ok_Sh_numberThatHelps rfl rfl ?_
          refine zw_Vvp ok_Sh_numberThatHelps rfl ok_Sh_toggle lk_Sh_47 (by decide) rfl rfl (Nat.le_of_ble_eq_true rfl) (ct_Sh_toggle (by omega)) ?_
          rw [ht]
          refine zw_iload ok_Sh_numberThatHelps rfl rfl ?_
          refine zw_if_eq 63 ok_Sh_numberThatHelps rfl (by decide) (by omega) (fun h57 => ?_) (fun h57 => ?_)
          · try (exfalso; omega)
            all_goals
              refine zw_mask [true, true, true, true, true, false] rfl ?_
              exact next _ (fun q => by omega)
          · try (exfalso; omega)
            all_goals
              refine zw_iload ok_Sh_numberThatHelps rfl rfl ?_
              exact zw_iret ok_Sh_numberThatHelps rfl rfl ((by have := hx s4; rw [if_pos ⟨decide_eq_true h22, by omega⟩] at this; exact this))
theorem ct_Sh_numberThatHelps {fr la : Int} (hC : okC mem) (hst : ∀ i, 0 ≤ i → i < 96 → -1 ≤ st i ∧ st i ≤ 7) (hdf : dfI (mem 5 4) df) (hR : ∀ h, 0 ≤ h → h < 12 → -2147483648 ≤ hd h ∧ hd h < 2147483648) (hla : -1 ≤ la ∧ la ≤ 11) (hfr : 0 ≤ fr ∧ fr ≤ 96) : zCi m_Sh_numberThatHelps [vr 30, vi fr, vi la] (putC mem (st, hd, df) s) (nthS mem st hd df (8 * (la + 1) - fr).toNat fr) (fun m2 => ∃ s2, m2 = putC mem (st, hd, df) s2) := by
  refine zCt.of [some (vr 30), some (vi fr), some (vi la), none, none, none] ok_Sh_numberThatHelps (Nat.le_of_ble_eq_true rfl) rfl ?_
  refine zw_bipush ok_Sh_numberThatHelps rfl (by decide) ?_
  refine zw_iload_n ok_Sh_numberThatHelps rfl rfl ?_
  refine zw_iconst ok_Sh_numberThatHelps rfl ?_
  refine zw_iadd ok_Sh_numberThatHelps rfl ?_
  refine zw_imul ok_Sh_numberThatHelps rfl ?_
  refine zw_istore_n ok_Sh_numberThatHelps rfl rfl (by decide) ?_
  refine zw_iload_n ok_Sh_numberThatHelps rfl rfl ?_
  refine zw_istore ok_Sh_numberThatHelps rfl rfl (by decide) ?_
  exact nth_loop hC hst hdf hR hla (8 * (la + 1) - fr).toNat fr s (by omega) (by omega) (by omega) (fun s2 => ⟨rfl, s2, rfl⟩)
/-- the least pair of numbers, as the class looks for it -/
def two0 (mem : zMem) (st hd df : Int → Int) : Nat → Int → Int × Int
  | 0, _ => (-1, -1)
  | k + 1, u => if wrth mem st hd u = true ∧ nthS mem st (tog hd u) df (8 * (fhC mem st (tog hd u) df + 1) - (u + 1)).toNat (u + 1) ≠ -1 then (u, nthS mem st (tog hd u) df (8 * (fhC mem st (tog hd u) df + 1) - (u + 1)).toNat (u + 1)) else two0 mem st hd df k (u + 1)
theorem okC_of {mem m2 : zMem} (h : ∀ k, k < 24 → m2 k = mem k) (hC : okC mem) : okC m2 := by
  unfold okC toldC pInv at *
  rw [h 5 (by omega), h 6 (by omega), h 7 (by omega), h 9 (by omega), h 11 (by omega), h 12 (by omega), h 13 (by omega), h 14 (by omega), h 15 (by omega), h 16 (by omega), h 17 (by omega), h 18 (by omega)]
  exact hC
theorem fhC_of {mem m2 : zMem} (h : ∀ k, k < 24 → m2 k = mem k) (st hd df : Int → Int) : fhC m2 st hd df = fhC mem st hd df := by
  unfold fhC
  rw [h 5 (by omega), h 7 (by omega), h 9 (by omega)]
theorem wrth_of {mem m2 : zMem} (h : ∀ k, k < 24 → m2 k = mem k) (st hd : Int → Int) (u : Int) : wrth m2 st hd u = wrth mem st hd u := by
  unfold wrth
  rw [h 5 (by omega)]
theorem nthS_of {mem m2 : zMem} (h : ∀ k, k < 24 → m2 k = mem k) (st hd df : Int → Int) : ∀ (k : Nat) (u : Int), nthS m2 st hd df k u = nthS mem st hd df k u
  | 0, _ => rfl
  | k + 1, u => by
    unfold nthS
    rw [wrth_of h, fhC_of h, nthS_of h st hd df k (u + 1)]
theorem zset_2 {mem : zMem} {k : Nat} {i v w : Int} : zset (zset mem k i v) k i w = zset mem k i w := by
  funext q
  by_cases e : q = k
  · subst e
    rw [zset_eq, zset_eq, zset_eq]
    funext j
    simp only [zupd]
    split <;> rfl
  · rw [zset_ne e, zset_ne e, zset_ne e]
theorem setlo {mem : zMem} {k : Nat} {i v : Int} (h : 24 ≤ k) : ∀ q, q < 24 → zset mem k i v q = mem q := fun q hq => zset_ne (by omega)
theorem ct_Sh_findOne {la : Int} (hC : okC mem) (hst : ∀ i, 0 ≤ i → i < 96 → -1 ≤ st i ∧ st i ≤ 7) (hdf : dfI (mem 5 4) df) (hR : ∀ h, 0 ≤ h → h < 12 → -2147483648 ≤ hd h ∧ hd h < 2147483648) (hla : -1 ≤ la ∧ la ≤ 11) : zCb m_Sh_findOne [vr 30, vi la] (putC mem (st, hd, df) s) (decide (nthS mem st hd df (8 * (la + 1)).toNat 0 ≠ -1)) (fun m2 => ∃ s2, m2 = putC (zset mem 31 0 (nthS mem st hd df (8 * (la + 1)).toNat 0)) (st, hd, df) s2) := by
  refine zCt.of [some (vr 30), some (vi la)] ok_Sh_findOne (Nat.le_of_ble_eq_true rfl) rfl ?_
  have hr := nthS_r (mem := mem) (st := st) (hd := hd) (df := df) (8 * (la + 1)).toNat 0 (by omega)
  have e0 : (8 * (la + 1) - 0).toNat = (8 * (la + 1)).toNat := by congr 1; omega
  refine zw_aload_n ok_Sh_findOne rfl rfl ?_
  refine zw_getr ok_Sh_findOne rfl fl_Sh_9 rfl rfl ?_
  refine zw_iconst ok_Sh_findOne rfl ?_
  refine zw_aload_n ok_Sh_findOne rfl rfl ?_
  refine zw_iconst ok_Sh_findOne rfl ?_
  refine zw_iload_n ok_Sh_findOne rfl rfl ?_
  refine zw_Vi ok_Sh_findOne rfl ok_Sh_numberThatHelps lk_Sh_40 (by decide) rfl rfl (Nat.le_of_ble_eq_true rfl) (ct_Sh_numberThatHelps hC hst hdf hR hla (by omega)) (fun m8 h8 => ?_)
  obtain ⟨s2, rfl⟩ := h8
  rw [e0]
  refine zw_iast ok_Sh_findOne rfl rfl (by omega) ?_
  rw [wrC_out (by omega)]
  refine zw_aload_n ok_Sh_findOne rfl rfl ?_
  refine zw_getr ok_Sh_findOne rfl fl_Sh_9 rfl rfl ?_
  refine zw_iconst ok_Sh_findOne rfl ?_
  refine zw_iald ok_Sh_findOne rfl rfl (by omega) ?_
  simp only [rd_C9, rd_C10, rd_C11, rd_C12, rd_C25, rd_C26, rd_C27, rd_C28, rd_C29, rd_C_0, rd_C_1, rd_C_2, rd_C_3, rd_C_4, rd_C_5, rd_C_6, rd_C_7, rd_C_8, rd_C_9, rd_C_10, rd_C_11, rd_C_12, rd_C_13, rd_C_14, rd_C_15, rd_C_16, rd_C_17, rd_C_18, rd_C_19, rd_C_20, rd_C_21, rd_C_22, rd_C_23, rd_C_30, rd_C_31, rd_C_32, rd_C_33, rd_C_34, rd_C_35, rd_C_36, rd_C_37, rd_C_38, rd_C_39, rd_C_40, rd_C_41, rd_C_42, rd_C_43, rd_C_44, rd_C_45, rd_C_46, rd_C_47, rd_C_48, rd_C_49, rd_C_50, rd_C_51, rd_C_52, rd_C_53, rd_C_54, rd_C_55, rd_C_56, rd_C_57, rd_C_58, rd_C_59, rd_C_60, rd_C_61, rd_C_62, rd_C_63, rd_C_64, rd_C_65, wr_C9, wr_C10, wr_C11, wr_C12, wr_C25, wr_C26, wr_C27, wr_C28, wr_C29, wp_C25, wp_C26, wp_C27, wp_C28, wp_C29, zset_eq, zupd_eq]
  refine zw_iconst ok_Sh_findOne rfl ?_
  refine zw_icmp_eq 26 ok_Sh_findOne rfl (by decide) (by omega) (fun h19 => ?_) (fun h19 => ?_)
  · refine zw_iconst ok_Sh_findOne rfl ?_
    exact zw_zret ok_Sh_findOne rfl rfl (by first | exact Or.inl rfl | exact Or.inr rfl | exact bi01 _) (⟨by first | rw [bi_t (by omega)] | rw [bi_f (by omega)], s2, rfl⟩)
  · refine zw_iconst ok_Sh_findOne rfl ?_
    refine zw_goto 27 ok_Sh_findOne rfl (by decide) ?_
    exact zw_zret ok_Sh_findOne rfl rfl (by first | exact Or.inl rfl | exact Or.inr rfl | exact bi01 _) (⟨by first | rw [bi_t (by omega)] | rw [bi_f (by omega)], s2, rfl⟩)
theorem two_loop {la en : Int} (hC : okC mem) (hst : ∀ i, 0 ≤ i → i < 96 → -1 ≤ st i ∧ st i ≤ 7) (hdf : dfI (mem 5 4) df) (hR : ∀ h, 0 ≤ h → h < 12 → -2147483648 ≤ hd h ∧ hd h < 2147483648) (hla : -1 ≤ la ∧ la ≤ 11) (hen : 0 ≤ en ∧ en ≤ 96) :
    ∀ (k : Nat) (u : Int) (s : zS), 0 ≤ u → u + k = en → (∀ s2, ((two0 mem st hd df k u).1 = -1 → Q (some (vi 0)) (putC (zset mem 31 1 (-1)) (st, hd, df) s2)) ∧ ((two0 mem st hd df k u).1 ≠ -1 → Q (some (vi 1)) (putC (zset (zset mem 31 1 (two0 mem st hd df k u).2) 31 0 (two0 mem st hd df k u).1) (st, hd, df) s2))) → AW m_Sh_findTwo 9 [some (vr 30), some (vi la), some (vi en), some (vi u)] [] (putC (zset mem 31 1 (-1)) (st, hd, df) s) Q := by
  intro k
  induction k with
  | zero =>
    intro u s h0 hk hx
    refine zw_iload_n ok_Sh_findTwo rfl rfl ?_
    refine zw_iload_n ok_Sh_findTwo rfl rfl ?_
    refine zw_icmp_ge 77 ok_Sh_findTwo rfl (by decide) (by omega) (fun h11 => ?_) (fun h11 => ?_)
    · refine zw_iconst ok_Sh_findTwo rfl ?_
      exact zw_zret ok_Sh_findTwo rfl rfl (by first | exact Or.inl rfl | exact Or.inr rfl | exact bi01 _) ((hx _).1 rfl)
    · exfalso; omega
  | succ k ih =>
    intro u s h0 hk hx
    have lo := setlo (mem := mem) (k := 31) (i := 1) (v := -1) (by omega)
    have hC1 := okC_of lo hC
    have hdf1 : dfI (zset mem 31 1 (-1) 5 4) df := by rw [lo 5 (by omega)]; exact hdf
    have hu8 : 0 ≤ u / 8 ∧ u / 8 < 12 := by omega
    have ht := tog_2 (hd := hd) (u := u) (hR _ hu8.1 hu8.2)
    have hR2 : ∀ h, 0 ≤ h → h < 12 → -2147483648 ≤ tog hd u h ∧ tog hd u h < 2147483648 := fun h q1 q2 => tog_R (hR h q1 q2)
    have hfr := fhC_r (mem := mem) (st := st) (hd := tog hd u) (df := df)
    have hnr := nthS_r (mem := mem) (st := st) (hd := tog hd u) (df := df) (8 * (fhC mem st (tog hd u) df + 1) - (u + 1)).toNat (u + 1) (by omega)
    unfold two0 at hx
    generalize hN : nthS mem st (tog hd u) df (8 * (fhC mem st (tog hd u) df + 1) - (u + 1)).toNat (u + 1) = N at hx hnr
    have e19 : (u % 8 < zset mem 31 1 (-1) 5 4 ∧ st u ≠ -1 ∧ tb (zor (hd (u / 8)) (zset mem 31 1 (-1) 5 5)) (u % 8).toNat = false) ↔ wrth mem st hd u = true := by
      rw [lo 5 (by omega)]
      exact (decide_eq_true_iff).symm
    have next : ∀ s3, ¬ (wrth mem st hd u = true ∧ N ≠ -1) → AW m_Sh_findTwo 71 [some (vr 30), some (vi la), some (vi en), some (vi u)] [] (putC (zset mem 31 1 (-1)) (st, hd, df) s3) Q := by
      intro s3 hn
      refine zw_iinc ok_Sh_findTwo rfl rfl rfl (by decide) ?_
      refine zw_goto 9 ok_Sh_findTwo rfl (by decide) ?_
      exact ih (u + 1) _ (by omega) (by omega) (fun s2 => by have := hx s2; rw [if_neg hn] at this; exact this)
    refine zw_iload_n ok_Sh_findTwo rfl rfl ?_
    refine zw_iload_n ok_Sh_findTwo rfl rfl ?_
    refine zw_icmp_ge 77 ok_Sh_findTwo rfl (by decide) (by omega) (fun h11 => ?_) (fun h11 => ?_)
    · exfalso; omega
    · refine zw_aload_n ok_Sh_findTwo rfl rfl ?_
      refine zw_iload_n ok_Sh_findTwo rfl rfl ?_
      refine zw_Vbp ok_Sh_findTwo rfl ok_Sh_isWorthHiding lk_Sh_44 (by decide) rfl rfl (Nat.le_of_ble_eq_true rfl) (ct_Sh_isWorthHiding (by omega) hC1.1.1 (hst u (by omega) (by omega))) ?_
      first | refine zw_ifeq_d 71 ok_Sh_findTwo rfl (by decide) (fun h19 => ?_) (fun h19 => ?_) | refine zw_ifeq_b 71 ok_Sh_findTwo rfl (by decide) (fun h19 => ?_) (fun h19 => ?_) | refine zw_if_eq 71 ok_Sh_findTwo rfl (by decide) (by omega) (fun h19 => ?_) (fun h19 => ?_)
      · exact next _ (fun q => h19 (e19.mpr q.1))
      · refine zw_aload_n ok_Sh_findTwo rfl rfl ?_
        refine zw_iload_n ok_Sh_findTwo rfl rfl ?_
        refine zw_Vvp ok_Sh_findTwo rfl ok_Sh_toggle lk_Sh_47 (by decide) rfl rfl (Nat.le_of_ble_eq_true rfl) (ct_Sh_toggle (by omega)) ?_
        refine zw_aload_n ok_Sh_findTwo rfl rfl ?_
        refine zw_getr ok_Sh_findTwo rfl fl_Sh_9 rfl rfl ?_
        refine zw_iconst ok_Sh_findTwo rfl ?_
        refine zw_aload_n ok_Sh_findTwo rfl rfl ?_
        refine zw_iload_n ok_Sh_findTwo rfl rfl ?_
        refine zw_iconst ok_Sh_findTwo rfl ?_
        refine zw_iadd ok_Sh_findTwo rfl ?_
        refine zw_aload_n ok_Sh_findTwo rfl rfl ?_
        refine zw_getr ok_Sh_findTwo rfl fl_Sh_15 rfl rfl ?_
        refine zw_Vi ok_Sh_findTwo rfl ok_Co_walkTillOneIsGone lk_Sh_25 (by decide) rfl rfl (Nat.le_of_ble_eq_true rfl) (ct_Co_walkTillOneIsGone hC1.2.1 rfl hst (begS_inv hC1.2.1.2.1 hdf1)) (fun m40 h40 => ?_)
        subst h40
        rw [fhC_eq hC1, fhC_of lo]
        generalize tillS _ _ _ _ _ _ _ _ = s4
        refine zw_Vi ok_Sh_findTwo rfl ok_Sh_numberThatHelps lk_Sh_40 (by decide) rfl rfl (Nat.le_of_ble_eq_true rfl) (ct_Sh_numberThatHelps hC1 hst hdf1 hR2 hfr (by omega)) (fun m43 h43 => ?_)
        obtain ⟨s5, rfl⟩ := h43
        rw [nthS_of lo, hN]
        refine zw_iast ok_Sh_findTwo rfl rfl (by omega) ?_
        rw [wrC_out (by omega), zset_2]
        refine zw_aload_n ok_Sh_findTwo rfl rfl ?_
        refine zw_iload_n ok_Sh_findTwo rfl rfl ?_
        refine zw_Vvp ok_Sh_findTwo rfl ok_Sh_toggle lk_Sh_47 (by decide) rfl rfl (Nat.le_of_ble_eq_true rfl) (ct_Sh_toggle (by omega)) ?_
        rw [ht]
        refine zw_aload_n ok_Sh_findTwo rfl rfl ?_
        refine zw_getr ok_Sh_findTwo rfl fl_Sh_9 rfl rfl ?_
        refine zw_iconst ok_Sh_findTwo rfl ?_
        refine zw_iald ok_Sh_findTwo rfl rfl (by omega) ?_
        simp only [rd_C9, rd_C10, rd_C11, rd_C12, rd_C25, rd_C26, rd_C27, rd_C28, rd_C29, rd_C_0, rd_C_1, rd_C_2, rd_C_3, rd_C_4, rd_C_5, rd_C_6, rd_C_7, rd_C_8, rd_C_9, rd_C_10, rd_C_11, rd_C_12, rd_C_13, rd_C_14, rd_C_15, rd_C_16, rd_C_17, rd_C_18, rd_C_19, rd_C_20, rd_C_21, rd_C_22, rd_C_23, rd_C_30, rd_C_31, rd_C_32, rd_C_33, rd_C_34, rd_C_35, rd_C_36, rd_C_37, rd_C_38, rd_C_39, rd_C_40, rd_C_41, rd_C_42, rd_C_43, rd_C_44, rd_C_45, rd_C_46, rd_C_47, rd_C_48, rd_C_49, rd_C_50, rd_C_51, rd_C_52, rd_C_53, rd_C_54, rd_C_55, rd_C_56, rd_C_57, rd_C_58, rd_C_59, rd_C_60, rd_C_61, rd_C_62, rd_C_63, rd_C_64, rd_C_65, wr_C9, wr_C10, wr_C11, wr_C12, wr_C25, wr_C26, wr_C27, wr_C28, wr_C29, wp_C25, wp_C26, wp_C27, wp_C28, wp_C29, zset_eq, zupd_eq]
        refine zw_iconst ok_Sh_findTwo rfl ?_
        refine zw_icmp_eq 71 ok_Sh_findTwo rfl (by decide) (by omega) (fun h59 => ?_) (fun h59 => ?_)
        · rw [h59]
          exact next _ (fun q => q.2 h59)
        · refine zw_aload_n ok_Sh_findTwo rfl rfl ?_
          refine zw_getr ok_Sh_findTwo rfl fl_Sh_9 rfl rfl ?_
          refine zw_iconst ok_Sh_findTwo rfl ?_
          refine zw_iload_n ok_Sh_findTwo rfl rfl ?_
          refine zw_iast ok_Sh_findTwo rfl rfl (by omega) ?_
          rw [wrC_out (by omega)]
          refine zw_iconst ok_Sh_findTwo rfl ?_
          exact zw_zret ok_Sh_findTwo rfl rfl (by first | exact Or.inl rfl | exact Or.inr rfl | exact bi01 _) ((by have := (hx s5).2; rw [if_pos ⟨e19.mp h19, h59⟩] at this; exact this (by show u ≠ -1; omega)))
theorem ct_Sh_findTwo {la : Int} (hC : okC mem) (hst : ∀ i, 0 ≤ i → i < 96 → -1 ≤ st i ∧ st i ≤ 7) (hdf : dfI (mem 5 4) df) (hR : ∀ h, 0 ≤ h → h < 12 → -2147483648 ≤ hd h ∧ hd h < 2147483648) (hla : -1 ≤ la ∧ la ≤ 11) : zCb m_Sh_findTwo [vr 30, vi la] (putC (zset mem 31 1 (-1)) (st, hd, df) s) (decide ((two0 mem st hd df (8 * (la + 1)).toNat 0).1 ≠ -1)) (fun m2 => ∃ s2, ((two0 mem st hd df (8 * (la + 1)).toNat 0).1 = -1 ∧ m2 = putC (zset mem 31 1 (-1)) (st, hd, df) s2) ∨ ((two0 mem st hd df (8 * (la + 1)).toNat 0).1 ≠ -1 ∧ m2 = putC (zset (zset mem 31 1 (two0 mem st hd df (8 * (la + 1)).toNat 0).2) 31 0 (two0 mem st hd df (8 * (la + 1)).toNat 0).1) (st, hd, df) s2)) := by
  refine zCt.of [some (vr 30), some (vi la), none, none] ok_Sh_findTwo (Nat.le_of_ble_eq_true rfl) rfl ?_
  refine zw_bipush ok_Sh_findTwo rfl (by decide) ?_
  refine zw_iload_n ok_Sh_findTwo rfl rfl ?_
  refine zw_iconst ok_Sh_findTwo rfl ?_
  refine zw_iadd ok_Sh_findTwo rfl ?_
  refine zw_imul ok_Sh_findTwo rfl ?_
  refine zw_istore_n ok_Sh_findTwo rfl rfl (by decide) ?_
  refine zw_iconst ok_Sh_findTwo rfl ?_
  refine zw_istore_n ok_Sh_findTwo rfl rfl (by decide) ?_
  refine two_loop hC hst hdf hR hla (by omega) (8 * (la + 1)).toNat 0 s (by omega) (by omega) (fun s2 => ⟨fun h => ⟨?_, s2, Or.inl ⟨h, rfl⟩⟩, fun h => ⟨?_, s2, Or.inr ⟨h, rfl⟩⟩⟩)
  · rw [bi_f (fun q => q h)]
  · rw [bi_t h]
/-- what SHADE finds on a layout: how many, the two numbers -/
def shdS (mem : zMem) (st hd df : Int → Int) : Int × Int × Int :=
  if fhC mem st hd df = -1 then (0, -1, -1)
  else if nthS mem st hd df (8 * (fhC mem st hd df + 1)).toNat 0 ≠ -1 then (1, nthS mem st hd df (8 * (fhC mem st hd df + 1)).toNat 0, -1)
  else if (two0 mem st hd df (8 * (fhC mem st hd df + 1)).toNat 0).1 ≠ -1 then (2, two0 mem st hd df (8 * (fhC mem st hd df + 1)).toNat 0)
  else (-1, -1, -1)
theorem two0_of {mem m2 : zMem} (h : ∀ k, k < 24 → m2 k = mem k) (st hd df : Int → Int) : ∀ (k : Nat) (u : Int), two0 m2 st hd df k u = two0 mem st hd df k u
  | 0, _ => rfl
  | k + 1, u => by
    unfold two0
    rw [wrth_of h, fhC_of h, nthS_of h, two0_of h st hd df k (u + 1)]
theorem layS_of {mem m2 : zMem} (h : ∀ k, k < 24 → m2 k = mem k) (ol ll : Int) (L : zL) : layS m2 ol ll L = layS mem ol ll L := by
  unfold layS
  rw [h 5 (by omega), h 6 (by omega), h 9 (by omega), h 11 (by omega), h 12 (by omega), h 13 (by omega), h 14 (by omega), h 15 (by omega), h 16 (by omega), h 17 (by omega), h 18 (by omega)]
theorem layS_R {mem : zMem} {ol ll : Int} {L : zL} : ∀ h, 0 ≤ h → h < 12 → -2147483648 ≤ (layS mem ol ll L).2.1 h ∧ (layS mem ol ll L).2.1 h < 2147483648 := by
  show ∀ h, 0 ≤ h → h < 12 → -2147483648 ≤ lp (hdS ll (mem 17) (mem 18)) (mem 16 3).toNat 0 (zfil 12 0 L.2.1) h ∧ lp (hdS ll (mem 17) (mem 18)) (mem 16 3).toNat 0 (zfil 12 0 L.2.1) h < 2147483648
  refine lp_inv (I := fun hd : Int → Int => ∀ h, 0 ≤ h → h < 12 → -2147483648 ≤ hd h ∧ hd h < 2147483648) _ _ _ (fun u hd _ _ hi h h0 h1 => ?_) (fun h h0 h1 => by unfold zfil; rw [if_pos ⟨h0, h1⟩]; omega)
  unfold hdS
  split
  · exact hi h h0 h1
  · by_cases e : h = mem 17 u
    · subst e; rw [zupd_eq]; exact zR_or _ _
    · rw [zupd_ne e]; exact hi h h0 h1
theorem putC_fr {mem : zMem} {L : zL} {s : zS} : zfr [24, 25, 26, 27, 28, 29] mem (putC mem L s) := fun k hk => putC_ne (by simp at hk; omega)
abbrev scr : List Nat := [24, 25, 26, 27, 28, 29, 30, 31, 32, 33, 34, 36, 38]
theorem putC_scr {mem m3 : zMem} {L : zL} {s : zS} (h : zfr scr mem m3) : zfr scr mem (putC m3 L s) := fun k hk => (putC_ne (by simp at hk; omega)).trans (h k hk)
abbrev scrH : List Nat := [24, 25, 26, 27, 28, 29, 30, 31]
theorem putC_scrH {mem m3 : zMem} {L : zL} {s : zS} (h : zfr scrH mem m3) : zfr scrH mem (putC m3 L s) := fun k hk => (putC_ne (by simp at hk; omega)).trans (h k hk)
theorem ct_Sh_find {L : zL} (hC : okC mem) : zCv m_Sh_find [vr 30] (putC mem L s) (fun m2 => (m2 30 2 = (shdS mem (layS mem (-1) 0 L).1 (layS mem (-1) 0 L).2.1 (layS mem (-1) 0 L).2.2).1 ∧ m2 31 0 = (shdS mem (layS mem (-1) 0 L).1 (layS mem (-1) 0 L).2.1 (layS mem (-1) 0 L).2.2).2.1 ∧ m2 31 1 = (shdS mem (layS mem (-1) 0 L).1 (layS mem (-1) 0 L).2.1 (layS mem (-1) 0 L).2.2).2.2) ∧ zfr scrH mem m2) := by
  obtain ⟨st0, hd0, df0⟩ := L
  refine zCt.of [some (vr 30), none] ok_Sh_find (Nat.le_of_ble_eq_true rfl) rfl ?_
  have lo : ∀ q, q < 24 → zset (zset mem 31 0 (-1)) 31 1 (-1) q = mem q := fun q hq => by rw [zset_ne (by omega), zset_ne (by omega)]
  have lo0 : ∀ q, q < 24 → zset mem 31 0 (-1) q = mem q := fun q hq => zset_ne (by omega)
  have hC1 := okC_of lo hC
  have hC0 := okC_of lo0 hC
  have hst := layS_st (ol := -1) (ll := 0) (L := (st0, hd0, df0)) hC
  have hdf := layS_df (ol := -1) (ll := 0) (L := (st0, hd0, df0)) hC
  have hR := layS_R (mem := mem) (ol := -1) (ll := 0) (L := (st0, hd0, df0))
  have eL := layS_of lo (-1) 0 (st0, hd0, df0)
  generalize layS mem (-1) 0 (st0, hd0, df0) = L1 at hst hdf hR eL ⊢
  obtain ⟨st, hd, df⟩ := L1
  dsimp only at hst hdf hR ⊢
  have hdf1 : dfI (zset (zset mem 31 0 (-1)) 31 1 (-1) 5 4) df := by rw [lo 5 (by omega)]; exact hdf
  have hdf0 : dfI (zset mem 31 0 (-1) 5 4) df := by rw [lo0 5 (by omega)]; exact hdf
  have hfr := fhC_r (mem := mem) (st := st) (hd := hd) (df := df)
  have f0 : zfr scrH mem (zset mem 31 0 (-1)) := zfr.rf.set (by decide)
  have f1 : zfr scrH mem (zset (zset mem 31 0 (-1)) 31 1 (-1)) := f0.set (by decide)
  unfold shdS
  generalize hF : fhC mem st hd df = F at hfr ⊢
  refine zw_aload_n ok_Sh_find rfl rfl ?_
  refine zw_getr ok_Sh_find rfl fl_Sh_9 rfl rfl ?_
  refine zw_iconst ok_Sh_find rfl ?_
  refine zw_iconst ok_Sh_find rfl ?_
  refine zw_iast ok_Sh_find rfl rfl (by omega) ?_
  rw [wrC_out (by omega)]
  refine zw_aload_n ok_Sh_find rfl rfl ?_
  refine zw_getr ok_Sh_find rfl fl_Sh_9 rfl rfl ?_
  refine zw_iconst ok_Sh_find rfl ?_
  refine zw_iconst ok_Sh_find rfl ?_
  refine zw_iast ok_Sh_find rfl rfl (by omega) ?_
  rw [wrC_out (by omega)]
  refine zw_aload_n ok_Sh_find rfl rfl ?_
  refine zw_getr ok_Sh_find rfl fl_Sh_15 rfl rfl ?_
  refine zw_iconst ok_Sh_find rfl ?_
  refine zw_iconst ok_Sh_find rfl ?_
  refine zw_Vvp ok_Sh_find rfl ok_Co_layOut lk_Sh_19 (by decide) rfl rfl (Nat.le_of_ble_eq_true rfl) (ct_Co_layOut hC1.1 (by omega)) ?_
  rw [eL]
  refine zw_aload_n ok_Sh_find rfl rfl ?_
  refine zw_getr ok_Sh_find rfl fl_Sh_15 rfl rfl ?_
  refine zw_Vi ok_Sh_find rfl ok_Co_walkTillOneIsGone lk_Sh_25 (by decide) rfl rfl (Nat.le_of_ble_eq_true rfl) (ct_Co_walkTillOneIsGone hC1.2.1 rfl hst (begS_inv hC1.2.1.2.1 hdf1)) (fun m27 h27 => ?_)
  subst h27
  rw [fhC_eq hC1, fhC_of lo, hF]
  generalize tillS _ _ _ _ _ _ _ _ = s4
  refine zw_istore_n ok_Sh_find rfl rfl (by decide) ?_
  refine zw_iload_n ok_Sh_find rfl rfl ?_
  refine zw_iconst ok_Sh_find rfl ?_
  refine zw_icmp_ne 44 ok_Sh_find rfl (by decide) (by omega) (fun h33 => ?_) (fun h33 => ?_)
  · rw [if_neg h33]
    refine zw_aload_n ok_Sh_find rfl rfl ?_
    refine zw_iload_n ok_Sh_find rfl rfl ?_
    refine zw_Vb ok_Sh_find rfl ok_Sh_findOne lk_Sh_33 (by decide) rfl rfl (Nat.le_of_ble_eq_true rfl) (ct_Sh_findOne hC1 hst hdf1 hR hfr) (fun m46 h46 => ?_)
    obtain ⟨s5, rfl⟩ := h46
    simp only [nthS_of lo]
    first | refine zw_ifeq_d 60 ok_Sh_find rfl (by decide) (fun h49 => ?_) (fun h49 => ?_) | refine zw_ifeq_b 60 ok_Sh_find rfl (by decide) (fun h49 => ?_) (fun h49 => ?_) | refine zw_if_eq 60 ok_Sh_find rfl (by decide) (by omega) (fun h49 => ?_) (fun h49 => ?_)
    · rw [if_neg h49]
      have h49b : nthS mem st hd df (8 * (F + 1)).toNat 0 = -1 := Decidable.of_not_not h49
      rw [h49b, show zset (zset (zset mem 31 0 (-1)) 31 1 (-1)) 31 0 (-1) = zset (zset mem 31 0 (-1)) 31 1 (-1) by funext q; by_cases e : q = 31; (subst e; rw [zset_eq, zset_eq, zset_eq]; funext j; simp only [zupd]; split <;> split <;> rfl); rw [zset_ne e]]
      refine zw_aload_n ok_Sh_find rfl rfl ?_
      refine zw_iload_n ok_Sh_find rfl rfl ?_
      refine zw_Vb ok_Sh_find rfl ok_Sh_findTwo lk_Sh_37 (by decide) rfl rfl (Nat.le_of_ble_eq_true rfl) (ct_Sh_findTwo hC0 hst hdf0 hR hfr) (fun m62 h62 => ?_)
      obtain ⟨s6, h62⟩ := h62
      simp only [two0_of lo0] at h62 ⊢
      first | refine zw_ifeq_d 76 ok_Sh_find rfl (by decide) (fun h65 => ?_) (fun h65 => ?_) | refine zw_ifeq_b 76 ok_Sh_find rfl (by decide) (fun h65 => ?_) (fun h65 => ?_) | refine zw_if_eq 76 ok_Sh_find rfl (by decide) (by omega) (fun h65 => ?_) (fun h65 => ?_)
      · rw [if_neg h65]
        obtain ⟨-, rfl⟩ | ⟨h66, -⟩ := h62
        rotate_left
        · exact absurd h66 h65
        refine zw_aload_n ok_Sh_find rfl rfl ?_
        refine zw_iconst ok_Sh_find rfl ?_
        refine zw_puti ok_Sh_find rfl fp_Sh_29 rfl rfl ?_
        rw [wrC_out (by omega)]
        exact zw_vret ok_Sh_find rfl rfl (⟨rfl, ⟨rfl, rfl, rfl⟩, putC_scrH (by first | exact f1.set (by decide) | exact (f1.set (by decide)).set (by decide) | exact ((f0.set (by decide)).set (by decide)).set (by decide))⟩)
      · rw [if_pos h65]
        obtain ⟨h66, -⟩ | ⟨-, rfl⟩ := h62
        · exact absurd h66 h65
        refine zw_aload_n ok_Sh_find rfl rfl ?_
        refine zw_iconst ok_Sh_find rfl ?_
        refine zw_puti ok_Sh_find rfl fp_Sh_29 rfl rfl ?_
        rw [wrC_out (by omega)]
        refine zw_goto 81 ok_Sh_find rfl (by decide) ?_
        exact zw_vret ok_Sh_find rfl rfl (⟨rfl, ⟨rfl, rfl, rfl⟩, putC_scrH (by first | exact f1.set (by decide) | exact (f1.set (by decide)).set (by decide) | exact ((f0.set (by decide)).set (by decide)).set (by decide))⟩)
    · rw [if_pos h49]
      refine zw_aload_n ok_Sh_find rfl rfl ?_
      refine zw_iconst ok_Sh_find rfl ?_
      refine zw_puti ok_Sh_find rfl fp_Sh_29 rfl rfl ?_
      rw [wrC_out (by omega)]
      refine zw_goto 81 ok_Sh_find rfl (by decide) ?_
      exact zw_vret ok_Sh_find rfl rfl (⟨rfl, ⟨rfl, rfl, rfl⟩, putC_scrH (by first | exact f1.set (by decide) | exact (f1.set (by decide)).set (by decide) | exact ((f0.set (by decide)).set (by decide)).set (by decide))⟩)
  · rw [if_pos h33]
    refine zw_aload_n ok_Sh_find rfl rfl ?_
    refine zw_iconst ok_Sh_find rfl ?_
    refine zw_puti ok_Sh_find rfl fp_Sh_29 rfl rfl ?_
    rw [wrC_out (by omega)]
    refine zw_goto 81 ok_Sh_find rfl (by decide) ?_
    exact zw_vret ok_Sh_find rfl rfl (⟨rfl, ⟨rfl, rfl, rfl⟩, putC_scrH (by first | exact f1.set (by decide) | exact (f1.set (by decide)).set (by decide) | exact ((f0.set (by decide)).set (by decide)).set (by decide))⟩)
end
