/-! ===== Coast: Arrays.fill, walkThrough, walkTo, begin ===== -/
/-- forget locals -/
def zmask : List Bool → zLs → Option zLs
  | [], [] => some []
  | true :: m, a :: t => match zmask m t with
    | some t2 => some (a :: t2)
    | none => none
  | false :: m, _ :: t => match zmask m t with
    | some t2 => some (none :: t2)
    | none => none
  | _, _ => none
theorem zmask_get : ∀ {m : List Bool} {ls l2 : zLs}, zmask m ls = some l2 → ∀ (i : Nat) (v : zVal), l2[i]? = some (some v) → ls[i]? = some (some v)
  | [], [], l2, h, i, v, hi => by simp [zmask] at h; subst h; simp at hi
  | [], _ :: _, l2, h, i, v, hi => by simp [zmask] at h
  | true :: m, [], l2, h, i, v, hi => by simp [zmask] at h
  | false :: m, [], l2, h, i, v, hi => by simp [zmask] at h
  | true :: m, a :: t, l2, h, i, v, hi => by
    simp only [zmask] at h
    split at h
    · rename_i t2 ht2
      simp only [Option.some.injEq] at h
      subst h
      cases i with
      | zero => simpa using hi
      | succ i => simpa using zmask_get ht2 i v (by simpa using hi)
    · cases h
  | false :: m, a :: t, l2, h, i, v, hi => by
    simp only [zmask] at h
    split at h
    · rename_i t2 ht2
      simp only [Option.some.injEq] at h
      subst h
      cases i with
      | zero => simp at hi
      | succ i => simpa using zmask_get ht2 i v (by simpa using hi)
    · cases h
theorem zw_mask {M : zMth} {pc : Nat} {ls l2 : zLs} {st : List zVal} {mem : zMem} {Q : Option zVal → zMem → Prop} (m : List Bool) (h : zmask m ls = some l2) (kk : AW M pc l2 st mem Q) : AW M pc ls st mem Q := zw_weak (zmask_get h) kk
def zfil (n v : Int) (f : Int → Int) : Int → Int := fun j => if 0 ≤ j ∧ j < n then v else f j
theorem zfil_s {mem : zMem} {k : Nat} {i v : Int} (hi : 0 ≤ i) : zset (zput mem k (zfil i v (mem k))) k i v = zput mem k (zfil (i + 1) v (mem k)) := by
  funext q
  by_cases hq : q = k
  · subst hq
    rw [zset_eq, zput_eq, zput_eq]
    funext j
    simp only [zupd, zfil]
    (repeat' split) <;> first | rfl | omega
  · rw [zset_ne hq, zput_ne hq, zput_ne hq]
theorem zfil_0 {mem : zMem} {k : Nat} {v : Int} : zput mem k (zfil 0 v (mem k)) = mem := by
  funext q
  by_cases hq : q = k
  · subst hq
    rw [zput_eq]
    funext j
    simp only [zfil]
    split <;> first | rfl | omega
  · rw [zput_ne hq]
section
variable {mem : zMem}
theorem fill_loop {k n : Nat} {fs : List (Option Nat)} {v : Int} {Q : Option zVal → zMem → Prop} (hc : zrow k = (0, n, fs)) (hn : n ≤ 240) (hx : Q none (zput mem k (zfil n v (mem k)))) :
    ∀ (j : Nat) (i : Int), 0 ≤ i → i + j = (n : Int) → AW m_Jarr_fill_53178 5 [some (vr k), some (vi v), some (vi i), some (vi (n : Int))] [] (zput mem k (zfil i v (mem k))) Q := by
  intro j
  induction j with
  | zero =>
    intro i h0 hi
    have e : i = (n : Int) := by omega
    subst e
    refine zw_iload_n ok_Jarr_fill_53178 rfl rfl ?_
    refine zw_iload_n ok_Jarr_fill_53178 rfl rfl ?_
    refine zw_icmp_ge 20 ok_Jarr_fill_53178 rfl (by decide) (by omega) (fun h7 => ?_) (fun h7 => ?_)
    · exact zw_vret ok_Jarr_fill_53178 rfl rfl (hx)
    · exact absurd (Int.le_refl _) h7
  | succ j ih =>
    intro i h0 hi
    refine zw_iload_n ok_Jarr_fill_53178 rfl rfl ?_
    refine zw_iload_n ok_Jarr_fill_53178 rfl rfl ?_
    refine zw_icmp_ge 20 ok_Jarr_fill_53178 rfl (by decide) (by omega) (fun h7 => ?_) (fun h7 => ?_)
    · exfalso; omega
    · refine zw_aload_n ok_Jarr_fill_53178 rfl rfl ?_
      refine zw_iload_n ok_Jarr_fill_53178 rfl rfl ?_
      refine zw_iload_n ok_Jarr_fill_53178 rfl rfl ?_
      refine zw_iast ok_Jarr_fill_53178 rfl hc (by omega) ?_
      refine zw_iinc ok_Jarr_fill_53178 rfl rfl rfl (by decide) ?_
      refine zw_goto 5 ok_Jarr_fill_53178 rfl (by decide) ?_
      rw [zfil_s h0]
      exact ih (i + 1) (by omega) (by omega)
theorem ct_Jarr_fill_53178 {k n : Nat} {fs : List (Option Nat)} {v : Int} (hc : zrow k = (0, n, fs)) : zCvp m_Jarr_fill_53178 [vr k, vi v] mem (zput mem k (zfil n v (mem k))) := by
  have hn := zrow_small hc (by omega)
  refine zCt.of [some (vr k), some (vi v), none, none] ok_Jarr_fill_53178 (Nat.le_of_ble_eq_true rfl) rfl ?_
  refine zw_iconst ok_Jarr_fill_53178 rfl ?_
  refine zw_istore_n ok_Jarr_fill_53178 rfl rfl (by decide) ?_
  refine zw_aload_n ok_Jarr_fill_53178 rfl rfl ?_
  refine zw_alen ok_Jarr_fill_53178 rfl hc (Or.inl rfl) ?_
  refine zw_istore_n ok_Jarr_fill_53178 rfl rfl (by decide) ?_
  have h := fill_loop (mem := mem) (v := v) (Q := fun r m2 => r = none ∧ m2 = zput mem k (zfil n v (mem k))) hc hn ⟨rfl, rfl⟩ n 0 (by omega) (by omega)
  rw [zfil_0] at h
  exact h
end
/-- an hour: a, then those behind a -/
def inS (can step st : Int → Int) (un row a : Int) (b : Int) (s : zS) : zS := if st (row + b) = st (row + a) ∧ tb (zor un s.2.2.1) a.toNat = false ∧ tb (zor un s.2.2.1) b.toNat = false then meetS can step a b s else s
def outS (P : Int) (can step st : Int → Int) (un row : Int) (a : Int) (s : zS) : zS := if st (row + a) = -1 then s else lp (inS can step st un row a) (P - (a + 1)).toNat (a + 1) s
def endS (h : Int) (s : zS) : zS := if s.2.2.1 = 0 then s else if s.2.2.2.2.1 ≠ -1 then s else (s.1, s.2.1, s.2.2.1, s.2.2.2.1, h, s.2.2.2.2.2)
def hourS (P : Int) (can step st : Int → Int) (un : Int → Int) (h : Int) (s : zS) : zS := endS h (lp (outS P can step st (un h) (h * 8)) P.toNat 0 s)
def walkS (P : Int) (can step st : Int → Int) (un : Int → Int) (n : Nat) (s : zS) : zS := lp (hourS P can step st un) n 0 s
theorem inS_inv {P : Int} {can step st : Int → Int} {un row a b : Int} {s : zS} (hp : pInv P can step) (ha : 0 ≤ a) (hab : a < b) (hb : b < P) (hs : sInv P s) : sInv P (inS can step st un row a b s) := by
  unfold inS
  split
  · exact meetS_inv hp ha hab hb hs
  · exact hs
theorem lpIn_inv {P : Int} {can step st : Int → Int} {un row a : Int} (hp : pInv P can step) (ha : 0 ≤ a) (k : Nat) (b : Int) (s : zS) (hk : b + k ≤ P) (hab : a < b) (hs : sInv P s) : sInv P (lp (inS can step st un row a) k b s) :=
  lp_inv k b s (fun j s h1 h2 hs => inS_inv hp ha (by omega) (by omega) hs) hs
theorem outS_inv {P : Int} {can step st : Int → Int} {un row a : Int} {s : zS} (hp : pInv P can step) (ha : 0 ≤ a) (haP : a < P) (hs : sInv P s) : sInv P (outS P can step st un row a s) := by
  unfold outS
  split
  · exact hs
  · exact lpIn_inv hp ha _ _ _ (by omega) (by omega) hs
theorem endS_inv {P h : Int} {s : zS} (hs : sInv P s) : sInv P (endS h s) := by
  unfold endS
  split
  · exact hs
  · split <;> exact hs
theorem hourS_inv {P : Int} {can step st : Int → Int} {un : Int → Int} {h : Int} {s : zS} (hp : pInv P can step) (hs : sInv P s) : sInv P (hourS P can step st un h s) :=
  endS_inv (lp_inv _ _ _ (fun j s h1 h2 hs => outS_inv hp h1 (by have := hp.1; omega) hs) hs)
theorem walkS_inv {P : Int} {can step st : Int → Int} {un : Int → Int} {n : Nat} {s : zS} (hp : pInv P can step) (hs : sInv P s) : sInv P (walkS P can step st un n s) :=
  lp_inv _ _ _ (fun _ _ _ _ hs => hourS_inv hp hs) hs
section
variable {mem : zMem} {st hd df : Int → Int} {Q : Option zVal → zMem → Prop}
theorem wt_in {P h un a : Int} (hP : pInv P (mem 7) (mem 9)) (eP : mem 5 4 = P) (hh : 0 ≤ h ∧ h ≤ 11) (hst : ∀ i, 0 ≤ i → i < 96 → -1 ≤ st i ∧ st i ≤ 7) (ha : 0 ≤ a ∧ a < P) (hne : st (h * 8 + a) ≠ -1) :
    ∀ (k : Nat) (b : Int) (s : zS), b + k = P → a < b → sInv P s → AW m_Co_walkThrough 126 [some (vr 24), some (vi h), some (vi (h * 8)), some (vi un), some (vi a), none, none, none] [] (putC mem (st, hd, df) (lp (inS (mem 7) (mem 9) st un (h * 8) a) k b s)) Q →
      AW m_Co_walkThrough 52 [some (vr 24), some (vi h), some (vi (h * 8)), some (vi un), some (vi a), some (vi (st (h * 8 + a))), some (vi b), none] [] (putC mem (st, hd, df) s) Q := by
  have q1 := hst (h * 8 + a) (by have := hP.2.1; omega) (by have := hP.2.1; omega)
  have q2 := hP.2.1
  intro k
  induction k with
  | zero =>
    intro b s hk hab hs hx
    refine zw_iload ok_Co_walkThrough rfl rfl ?_
    refine zw_iconst ok_Co_walkThrough rfl ?_
    refine zw_icmp_eq 126 ok_Co_walkThrough rfl (by decide) (by omega) (fun h55 => ?_) (fun h55 => ?_)
    · exact absurd h55 hne
    · refine zw_iload ok_Co_walkThrough rfl rfl ?_
      refine zw_aload_n ok_Co_walkThrough rfl rfl ?_
      refine zw_getr ok_Co_walkThrough rfl fl_Co_27 rfl rfl ?_
      refine zw_geti ok_Co_walkThrough rfl fl_Co_90 rfl rfl ?_
      try simp only [rd_C9, rd_C10, rd_C11, rd_C12, rd_C25, rd_C26, rd_C27, rd_C28, rd_C29, rd_C_0, rd_C_1, rd_C_2, rd_C_3, rd_C_4, rd_C_5, rd_C_6, rd_C_7, rd_C_8, rd_C_9, rd_C_10, rd_C_11, rd_C_12, rd_C_13, rd_C_14, rd_C_15, rd_C_16, rd_C_17, rd_C_18, rd_C_19, rd_C_20, rd_C_21, rd_C_22, rd_C_23, rd_C_30, rd_C_31, rd_C_32, rd_C_33, rd_C_34, rd_C_35, rd_C_36, rd_C_37, rd_C_38, rd_C_39, rd_C_40, rd_C_41, rd_C_42, rd_C_43, rd_C_44, rd_C_45, rd_C_46, rd_C_47, rd_C_48, rd_C_49, rd_C_50, rd_C_51, rd_C_52, rd_C_53, rd_C_54, rd_C_55, rd_C_56, rd_C_57, rd_C_58, rd_C_59, rd_C_60, rd_C_61, rd_C_62, rd_C_63, rd_C_64, rd_C_65, wr_C9, wr_C10, wr_C11, wr_C12, wr_C25, wr_C26, wr_C27, wr_C28, wr_C29, wp_C25, wp_C26, wp_C27, wp_C28, wp_C29]
      refine zw_icmp_ge 126 ok_Co_walkThrough rfl (by decide) (by omega) (fun h67 => ?_) (fun h67 => ?_)
      · refine zw_mask [true, true, true, true, true, false, false, false] rfl ?_
        exact hx
      · exfalso; omega
  | succ k ih =>
    intro b s hk hab hs hx
    have q3 := hst (h * 8 + b) (by omega) (by omega)
    rw [lp_s] at hx
    obtain ⟨d, l, g, n, fh, fw⟩ := s
    have e1 : min a b = a := by omega
    have e2 : max a b = b := by omega
    refine zw_iload ok_Co_walkThrough rfl rfl ?_
    refine zw_iconst ok_Co_walkThrough rfl ?_
    refine zw_icmp_eq 126 ok_Co_walkThrough rfl (by decide) (by omega) (fun h55 => ?_) (fun h55 => ?_)
    · exact absurd h55 hne
    · refine zw_iload ok_Co_walkThrough rfl rfl ?_
      refine zw_aload_n ok_Co_walkThrough rfl rfl ?_
      refine zw_getr ok_Co_walkThrough rfl fl_Co_27 rfl rfl ?_
      refine zw_geti ok_Co_walkThrough rfl fl_Co_90 rfl rfl ?_
      try simp only [rd_C9, rd_C10, rd_C11, rd_C12, rd_C25, rd_C26, rd_C27, rd_C28, rd_C29, rd_C_0, rd_C_1, rd_C_2, rd_C_3, rd_C_4, rd_C_5, rd_C_6, rd_C_7, rd_C_8, rd_C_9, rd_C_10, rd_C_11, rd_C_12, rd_C_13, rd_C_14, rd_C_15, rd_C_16, rd_C_17, rd_C_18, rd_C_19, rd_C_20, rd_C_21, rd_C_22, rd_C_23, rd_C_30, rd_C_31, rd_C_32, rd_C_33, rd_C_34, rd_C_35, rd_C_36, rd_C_37, rd_C_38, rd_C_39, rd_C_40, rd_C_41, rd_C_42, rd_C_43, rd_C_44, rd_C_45, rd_C_46, rd_C_47, rd_C_48, rd_C_49, rd_C_50, rd_C_51, rd_C_52, rd_C_53, rd_C_54, rd_C_55, rd_C_56, rd_C_57, rd_C_58, rd_C_59, rd_C_60, rd_C_61, rd_C_62, rd_C_63, rd_C_64, rd_C_65, wr_C9, wr_C10, wr_C11, wr_C12, wr_C25, wr_C26, wr_C27, wr_C28, wr_C29, wp_C25, wp_C26, wp_C27, wp_C28, wp_C29]
      refine zw_icmp_ge 126 ok_Co_walkThrough rfl (by decide) (by omega) (fun h67 => ?_) (fun h67 => ?_)
      · exfalso; omega
      · refine zw_iload_n ok_Co_walkThrough rfl rfl ?_
        refine zw_aload_n ok_Co_walkThrough rfl rfl ?_
        refine zw_geti ok_Co_walkThrough rfl fl_Co_99 rfl rfl ?_
        try simp only [rd_C9, rd_C10, rd_C11, rd_C12, rd_C25, rd_C26, rd_C27, rd_C28, rd_C29, rd_C_0, rd_C_1, rd_C_2, rd_C_3, rd_C_4, rd_C_5, rd_C_6, rd_C_7, rd_C_8, rd_C_9, rd_C_10, rd_C_11, rd_C_12, rd_C_13, rd_C_14, rd_C_15, rd_C_16, rd_C_17, rd_C_18, rd_C_19, rd_C_20, rd_C_21, rd_C_22, rd_C_23, rd_C_30, rd_C_31, rd_C_32, rd_C_33, rd_C_34, rd_C_35, rd_C_36, rd_C_37, rd_C_38, rd_C_39, rd_C_40, rd_C_41, rd_C_42, rd_C_43, rd_C_44, rd_C_45, rd_C_46, rd_C_47, rd_C_48, rd_C_49, rd_C_50, rd_C_51, rd_C_52, rd_C_53, rd_C_54, rd_C_55, rd_C_56, rd_C_57, rd_C_58, rd_C_59, rd_C_60, rd_C_61, rd_C_62, rd_C_63, rd_C_64, rd_C_65, wr_C9, wr_C10, wr_C11, wr_C12, wr_C25, wr_C26, wr_C27, wr_C28, wr_C29, wp_C25, wp_C26, wp_C27, wp_C28, wp_C29]
        refine zw_ior ok_Co_walkThrough rfl ?_
        refine zw_istore ok_Co_walkThrough rfl rfl (by decide) ?_
        refine zw_aload_n ok_Co_walkThrough rfl rfl ?_
        refine zw_getr ok_Co_walkThrough rfl fl_Co_9 rfl rfl ?_
        refine zw_iload_n ok_Co_walkThrough rfl rfl ?_
        refine zw_iload ok_Co_walkThrough rfl rfl ?_
        refine zw_iadd ok_Co_walkThrough rfl ?_
        refine zw_iald ok_Co_walkThrough rfl rfl (by omega) ?_
        try simp only [rd_C9, rd_C10, rd_C11, rd_C12, rd_C25, rd_C26, rd_C27, rd_C28, rd_C29, rd_C_0, rd_C_1, rd_C_2, rd_C_3, rd_C_4, rd_C_5, rd_C_6, rd_C_7, rd_C_8, rd_C_9, rd_C_10, rd_C_11, rd_C_12, rd_C_13, rd_C_14, rd_C_15, rd_C_16, rd_C_17, rd_C_18, rd_C_19, rd_C_20, rd_C_21, rd_C_22, rd_C_23, rd_C_30, rd_C_31, rd_C_32, rd_C_33, rd_C_34, rd_C_35, rd_C_36, rd_C_37, rd_C_38, rd_C_39, rd_C_40, rd_C_41, rd_C_42, rd_C_43, rd_C_44, rd_C_45, rd_C_46, rd_C_47, rd_C_48, rd_C_49, rd_C_50, rd_C_51, rd_C_52, rd_C_53, rd_C_54, rd_C_55, rd_C_56, rd_C_57, rd_C_58, rd_C_59, rd_C_60, rd_C_61, rd_C_62, rd_C_63, rd_C_64, rd_C_65, wr_C9, wr_C10, wr_C11, wr_C12, wr_C25, wr_C26, wr_C27, wr_C28, wr_C29, wp_C25, wp_C26, wp_C27, wp_C28, wp_C29]
        refine zw_iload ok_Co_walkThrough rfl rfl ?_
        refine zw_icmp_ne 120 ok_Co_walkThrough rfl (by decide) (by omega) (fun h89 => ?_) (fun h89 => ?_)
        · refine zw_iinc ok_Co_walkThrough rfl rfl rfl (by decide) ?_
          refine zw_goto 52 ok_Co_walkThrough rfl (by decide) ?_
          refine zw_mask [true, true, true, true, true, true, true, false] rfl ?_
          first
            | exact ih (b + 1) _ (by omega) (by omega) hs (by rw [inS, if_neg (fun q => h89 q.1)] at hx; exact hx)
            | exact ih (b + 1) _ (by omega) (by omega) hs (by rw [inS, if_neg (fun q => h99 q.2.1)] at hx; exact hx)
            | exact ih (b + 1) _ (by omega) (by omega) hs (by rw [inS, if_neg (fun q => h109 q.2.2)] at hx; exact hx)
            | exact ih (b + 1) _ (by omega) (by omega) (meetS_inv hP ha.1 hab (by omega) hs) (by rw [inS, if_pos ⟨h89, h99, h109⟩] at hx; exact hx)
        · refine zw_iload ok_Co_walkThrough rfl rfl ?_
          refine zw_iload ok_Co_walkThrough rfl rfl ?_
          refine zw_ishr ok_Co_walkThrough rfl ?_
          refine zw_iconst ok_Co_walkThrough rfl ?_
          refine zw_iand ok_Co_walkThrough rfl ?_
          refine zw_if_ne 120 ok_Co_walkThrough rfl (by decide) (zR_and _ _) (fun h99 => ?_) (fun h99 => ?_)
          · rw [tb_ask0 _ (by omega)] at h99
            refine zw_iinc ok_Co_walkThrough rfl rfl rfl (by decide) ?_
            refine zw_goto 52 ok_Co_walkThrough rfl (by decide) ?_
            refine zw_mask [true, true, true, true, true, true, true, false] rfl ?_
            first
              | exact ih (b + 1) _ (by omega) (by omega) hs (by rw [inS, if_neg (fun q => h89 q.1)] at hx; exact hx)
              | exact ih (b + 1) _ (by omega) (by omega) hs (by rw [inS, if_neg (fun q => h99 q.2.1)] at hx; exact hx)
              | exact ih (b + 1) _ (by omega) (by omega) hs (by rw [inS, if_neg (fun q => h109 q.2.2)] at hx; exact hx)
              | exact ih (b + 1) _ (by omega) (by omega) (meetS_inv hP ha.1 hab (by omega) hs) (by rw [inS, if_pos ⟨h89, h99, h109⟩] at hx; exact hx)
          · rw [tb_ask0 _ (by omega)] at h99
            refine zw_iload ok_Co_walkThrough rfl rfl ?_
            refine zw_iload ok_Co_walkThrough rfl rfl ?_
            refine zw_ishr ok_Co_walkThrough rfl ?_
            refine zw_iconst ok_Co_walkThrough rfl ?_
            refine zw_iand ok_Co_walkThrough rfl ?_
            refine zw_if_ne 120 ok_Co_walkThrough rfl (by decide) (zR_and _ _) (fun h109 => ?_) (fun h109 => ?_)
            · rw [tb_ask0 _ (by omega)] at h109
              refine zw_iinc ok_Co_walkThrough rfl rfl rfl (by decide) ?_
              refine zw_goto 52 ok_Co_walkThrough rfl (by decide) ?_
              refine zw_mask [true, true, true, true, true, true, true, false] rfl ?_
              first
                | exact ih (b + 1) _ (by omega) (by omega) hs (by rw [inS, if_neg (fun q => h89 q.1)] at hx; exact hx)
                | exact ih (b + 1) _ (by omega) (by omega) hs (by rw [inS, if_neg (fun q => h99 q.2.1)] at hx; exact hx)
                | exact ih (b + 1) _ (by omega) (by omega) hs (by rw [inS, if_neg (fun q => h109 q.2.2)] at hx; exact hx)
                | exact ih (b + 1) _ (by omega) (by omega) (meetS_inv hP ha.1 hab (by omega) hs) (by rw [inS, if_pos ⟨h89, h99, h109⟩] at hx; exact hx)
            · rw [tb_ask0 _ (by omega)] at h109
              refine zw_aload_n ok_Co_walkThrough rfl rfl ?_
              refine zw_iload ok_Co_walkThrough rfl rfl ?_
              refine zw_iload ok_Co_walkThrough rfl rfl ?_
              refine zw_Vvp ok_Co_walkThrough rfl ok_Co_meet lk_Co_117 (by decide) rfl rfl (Nat.le_of_ble_eq_true rfl) (ct_Co_meet hP ha (by omega) (by omega) hs) ?_
              rw [e1, e2]
              refine zw_iinc ok_Co_walkThrough rfl rfl rfl (by decide) ?_
              refine zw_goto 52 ok_Co_walkThrough rfl (by decide) ?_
              refine zw_mask [true, true, true, true, true, true, true, false] rfl ?_
              first
                | exact ih (b + 1) _ (by omega) (by omega) hs (by rw [inS, if_neg (fun q => h89 q.1)] at hx; exact hx)
                | exact ih (b + 1) _ (by omega) (by omega) hs (by rw [inS, if_neg (fun q => h99 q.2.1)] at hx; exact hx)
                | exact ih (b + 1) _ (by omega) (by omega) hs (by rw [inS, if_neg (fun q => h109 q.2.2)] at hx; exact hx)
                | exact ih (b + 1) _ (by omega) (by omega) (meetS_inv hP ha.1 hab (by omega) hs) (by rw [inS, if_pos ⟨h89, h99, h109⟩] at hx; exact hx)
end
