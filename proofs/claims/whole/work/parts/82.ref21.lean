/-! ===== the reference: shade ===== -/
abbrev hJ : List Int := [13, 18, 19, 20, 21, 30]
abbrev hL : List Nat := [58, 52, 59, 60, 61, 62, 63, 65]
theorem hJ_18 : ∀ j : Int, 18 ≤ j → j ≤ 21 → j ∈ hJ := by
  intro j h1 h2
  have : j = 18 ∨ j = 19 ∨ j = 20 ∨ j = 21 := by omega
  rcases this with rfl | rfl | rfl | rfl <;> decide
/-- umbrellas may be put behind the n told -/
def shf (mem m : zMem) (n : Int) : Prop := mfr hJ hL mem m ∧ ∀ j, j < 2 * n → m 58 j = mem 58 j
theorem shf.rf {mem : zMem} {n : Int} : shf mem mem n := ⟨mfr.rf, fun _ _ => rfl⟩
theorem shf.tr {a b c : zMem} {n : Int} (h : shf a b n) (h2 : shf b c n) : shf a c n := ⟨h.1.tr h2.1, fun j q => (h2.2 j q).trans (h.2 j q)⟩
theorem shf.set {mem m : zMem} {n i v : Int} {k : Nat} (h : shf mem m n) (hk : k ∈ hL) (h48 : k ≠ 48) (h58 : k ≠ 58) : shf mem (zset m k i v) n := ⟨h.1.set hk h48, fun j q => by rw [zset_ne (Ne.symm h58)]; exact h.2 j q⟩
theorem shf.set58 {mem m : zMem} {n i v : Int} (h : shf mem m n) (hi : 2 * n ≤ i) : shf mem (zset m 58 i v) n := ⟨h.1.set (by decide) (by decide), fun j q => by rw [zset_eq, zupd_ne (by omega)]; exact h.2 j q⟩
theorem shf.setj {mem m : zMem} {n i v : Int} (h : shf mem m n) (hi : i ∈ hJ) : shf mem (zset m 48 i v) n := ⟨h.1.setj hi, fun j q => by rw [zset_ne (by decide)]; exact h.2 j q⟩
theorem shf.put {mem m : zMem} {n : Int} {x : zM} (h : shf mem m n) : shf mem (putM m x) n := ⟨h.1.putM hJ_18 (by decide), fun j q => h.2 j q⟩
theorem hidB_snoc {ll : Int} {uh uw : Int → Int} {h p : Int} : ∀ (k : Nat) (u : Int), hidB ll uh uw h p (k + 1) u = (hidB ll uh uw h p k u || (!(tb ll (u + k).toNat) && decide (uh (u + k) = h) && decide (uw (u + k) = p)))
  | 0, u => by
    show ((_ && _ && _) || false) = (false || _)
    rw [Bool.or_false, Bool.false_or, show u + ((0 : Nat) : Int) = u by omega]
  | k + 1, u => by
    have ih := hidB_snoc (ll := ll) (uh := uh) (uw := uw) (h := h) (p := p) k (u + 1)
    show ((!(tb ll u.toNat) && decide (uh u = h) && decide (uw u = p)) || hidB ll uh uw h p (k + 1) (u + 1)) = (((!(tb ll u.toNat) && decide (uh u = h) && decide (uw u = p)) || hidB ll uh uw h p k (u + 1)) || _)
    rw [ih, Bool.or_assoc, show u + 1 + (k : Int) = u + ((k + 1 : Nat) : Int) by omega]
section
variable {mem m2 τ τ2 : zMem} {Q : Option zVal → zMem → Prop} {ol ff : Int}
theorem MI_shf {m : zMem} (h : shf mem m (τ 2 3)) (h13 : m 48 13 = τ 2 3) (hI : MI mem τ) : MI m τ := by
  obtain ⟨a1, a2, a3, a4, a5, a6, a7, a8⟩ := hI
  refine ⟨a1, ?_, ⟨?_, h13, ?_, ?_⟩, ?_, fun u q1 q2 => ?_, ?_, ?_, ?_⟩
  · rw [h.1.1 54 (by decide) (by decide), h.1.1 53 (by decide) (by decide)]; exact a2
  · rw [h.1.2 11 (by decide)]; exact a3.1
  · rw [h.1.2 27 (by decide)]; exact a3.2.2.1
  · rw [h.1.2 4 (by decide)]; exact a3.2.2.2
  · rw [h.1.1 57 (by decide) (by decide)]; exact a4
  · rw [h.2 _ (by omega), h.2 _ (by omega)]; exact a5 u q1 q2
  · rw [h.1.1 64 (by decide) (by decide)]; exact a6
  · rw [h.1.2 22 (by decide), h.1.2 23 (by decide), h.1.2 24 (by decide)]; exact a7
  · rw [h.1.1 49 (by decide) (by decide), h.1.1 50 (by decide) (by decide), h.1.1 51 (by decide) (by decide)]; exact a8
theorem MRb_shf {m : zMem} (h : shf mem m (τ 2 3)) (hR : MRv mem τ (-1) 0) : MRb m τ := MRb_of h.1 (by decide) (by decide) hR.1
theorem MRv_shf {m : zMem} (h : shf mem m (τ 2 3)) (h13 : m 48 13 = τ 2 3) (hR : MRv mem τ (-1) 0) : MRv m τ (-1) 0 := by
  refine ⟨MRb_shf h hR, ⟨h13, fun u q1 q2 => ?_⟩, ?_, hR.2.2.2⟩
  · rw [h.2 _ (by omega), h.2 _ (by omega)]; exact hR.2.1.2 u q1 q2
  · rw [h.1.2 22 (by decide), h.1.2 23 (by decide), h.1.2 24 (by decide)]; exact hR.2.2.1
theorem ct_shl {m : zMem} {hid : Int → Int → Bool} {e : Nat} (hR : MRv mem τ (-1) 0) (h : shf mem m (τ 2 3)) (he : e ≤ 2) (h13 : m 48 13 = τ 2 3 + e) (hx : ∀ i, τ 2 3 ≤ i → i < τ 2 3 + e → (0 ≤ m 58 (2 * i) ∧ m 58 (2 * i) ≤ 11) ∧ (0 ≤ m 58 (2 * i + 1) ∧ m 58 (2 * i + 1) ≤ 7)) (hh : ∀ hr p, 0 ≤ hr → hr < 12 → 0 ≤ p → p < aP τ → (hdM m hr p || decide (aK τ p = 2)) = hid hr p) : zCv m_M_lives [vr 48, vi 11] m (fun m2 => ∃ x, m2 = putM m x ∧ x.2.2.2.1 = Gn τ hid ∧ (0 ≤ Gn τ hid ∧ Gn τ hid < 256)) := by
  have hb := MRb_shf h hR
  have b3 := hR.1.1.1.2.2.2.1
  have u := hR.1.1.2.2.2.2.1
  have e22 : m 48 22 = -1 := by rw [h.1.2 22 (by decide)]; exact hR.2.2.1.1
  have e23 : m 48 23 = 0 := by rw [h.1.2 23 (by decide)]; exact hR.2.2.1.2.1
  have e24 : m 48 24 = -1 := by rw [h.1.2 24 (by decide)]; exact hR.2.2.1.2.2
  have hC : okM m := by
    refine okM_b hb ⟨by omega, fun i i0 i1 => ?_⟩ (by omega) (by omega) (fun z => absurd e24 z)
    by_cases c : i < τ 2 3
    · rw [h.2 _ (by omega), h.2 _ (by omega), (hR.2.1.2 i i0 c).1, (hR.2.1.2 i i0 c).2]
      exact u i i0 c
    · exact hx i (by omega) (by omega)
  have key := ct_M_lives (mem := m) (t := 11) (x := (m 59, m 60, m 61, m 48 18, m 48 19, m 48 20, m 48 21)) hC (by omega)
  rw [putM_self] at key
  have hP := aP_b hb
  have rl := lv_rel (sr := aSr τ) (hid := hid) (t := 11) hb hC (fun hr p q1 q2 q3 q4 => ⟨by unfold srM; rw [if_neg (by omega)]; exact hb.2.2.1 hr p q1 q2 q3 (by omega), hh hr p q1 q2 q3 q4⟩) (by omega) (m 59, m 60, m 61, m 48 18, m 48 19, m 48 20, m 48 21)
  rw [e22] at rl
  have eg : Gn τ hid = (liM m 11 (m 59, m 60, m 61, m 48 18, m 48 19, m 48 20, m 48 21)).2.2.2.1 := rl.1.2.2.1
  exact zCt.mono key (fun r m q => ⟨q.1, _, q.2, eg.symm, by rw [eg]; exact rl.2.2.2.2⟩)
theorem dec2 {h a p b : Int} : decide (h = a ∧ p = b) = (decide (a = h) && decide (b = p)) := by
  rw [Bool.decide_and]
  congr 1
  · exact decide_eq_decide.mpr ⟨Eq.symm, Eq.symm⟩
  · exact decide_eq_decide.mpr ⟨Eq.symm, Eq.symm⟩
theorem hd_e0 {m : zMem} (hR : MRv mem τ (-1) 0) (h : shf mem m (τ 2 3)) (h13 : m 48 13 = τ 2 3) (hr p : Int) : (hdM m hr p || decide (aK τ p = 2)) = aHid τ 0 hr p := by
  have b3 := hR.1.1.1.2.2.2.1
  have e23 : m 48 23 = 0 := by rw [h.1.2 23 (by decide)]; exact hR.2.2.1.2.1
  unfold hdM aHid
  rw [e23, h13, hidB_ext _ _ (uh2 := τ 6) (uw2 := τ 7) (fun j z1 z2 => by
    show m 58 (2 * j) = τ 6 j ∧ m 58 (2 * j + 1) = τ 7 j
    rw [h.2 _ (by omega), h.2 _ (by omega)]; exact hR.2.1.2 j z1 (by omega))]
theorem hd_e1 {m : zMem} {u : Int} (hR : MRv mem τ (-1) 0) (h : shf mem m (τ 2 3)) (h13 : m 48 13 = τ 2 3 + 1) (hu : m 58 (2 * τ 2 3) = u / 8 ∧ m 58 (2 * τ 2 3 + 1) = u % 8) (hr p : Int) : (hdM m hr p || decide (aK τ p = 2)) = setB (aHid τ 0) u hr p := by
  have b3 := hR.1.1.1.2.2.2.1
  have e23 : m 48 23 = 0 := by rw [h.1.2 23 (by decide)]; exact hR.2.2.1.2.1
  unfold hdM setB aHid
  rw [e23, h13, show (τ 2 3 + 1).toNat = (τ 2 3).toNat + 1 by omega, hidB_snoc, hidB_ext _ _ (uh2 := τ 6) (uw2 := τ 7) (fun j z1 z2 => by
    show m 58 (2 * j) = τ 6 j ∧ m 58 (2 * j + 1) = τ 7 j
    rw [h.2 _ (by omega), h.2 _ (by omega)]; exact hR.2.1.2 j z1 (by omega)), show (0 : Int) + ((τ 2 3).toNat : Int) = τ 2 3 by omega, tb_0]
  rw [hu.1, hu.2]
  generalize hidB 0 (τ 6) (τ 7) hr p (τ 2 3).toNat 0 = A
  have e : decide (aK τ p = 2) = decide (sK (τ 0) p = 2) := rfl
  rw [e, dec2]
  generalize decide (sK (τ 0) p = 2) = D
  generalize decide (u / 8 = hr) = a1
  generalize decide (u % 8 = p) = a2
  cases A <;> cases D <;> cases a1 <;> cases a2 <;> rfl
theorem hd_e2 {m : zMem} {u v : Int} (hR : MRv mem τ (-1) 0) (h : shf mem m (τ 2 3)) (h13 : m 48 13 = τ 2 3 + 2) (hu : m 58 (2 * τ 2 3) = u / 8 ∧ m 58 (2 * τ 2 3 + 1) = u % 8) (hv : m 58 (2 * (τ 2 3 + 1)) = v / 8 ∧ m 58 (2 * (τ 2 3 + 1) + 1) = v % 8) (hr p : Int) : (hdM m hr p || decide (aK τ p = 2)) = setB (setB (aHid τ 0) u) v hr p := by
  have b3 := hR.1.1.1.2.2.2.1
  have e23 : m 48 23 = 0 := by rw [h.1.2 23 (by decide)]; exact hR.2.2.1.2.1
  unfold hdM setB aHid
  rw [e23, h13, show (τ 2 3 + 2).toNat = ((τ 2 3).toNat + 1) + 1 by omega, hidB_snoc, hidB_snoc, hidB_ext _ _ (uh2 := τ 6) (uw2 := τ 7) (fun j z1 z2 => by
    show m 58 (2 * j) = τ 6 j ∧ m 58 (2 * j + 1) = τ 7 j
    rw [h.2 _ (by omega), h.2 _ (by omega)]; exact hR.2.1.2 j z1 (by omega)), show (0 : Int) + ((τ 2 3).toNat : Int) = τ 2 3 by omega, show (0 : Int) + (((τ 2 3).toNat + 1 : Nat) : Int) = τ 2 3 + 1 by omega, tb_0, tb_0]
  rw [hu.1, hu.2, hv.1, hv.2]
  generalize hidB 0 (τ 6) (τ 7) hr p (τ 2 3).toNat 0 = A
  have e : decide (aK τ p = 2) = decide (sK (τ 0) p = 2) := rfl
  rw [e, dec2, dec2]
  generalize decide (sK (τ 0) p = 2) = D
  generalize decide (u / 8 = hr) = a1
  generalize decide (u % 8 = p) = a2
  generalize decide (v / 8 = hr) = a3
  generalize decide (v % 8 = p) = a4
  cases A <;> cases D <;> cases a1 <;> cases a2 <;> cases a3 <;> cases a4 <;> rfl
/-! one code, from its umbrellas on -/
theorem sc_no {w n cs c k : Int} {m : zMem} (hx : AW m_M_isShaded 30 [some (vr 48), some (vi w), some (vi n), some (vi cs), some (vi (c + 1)), none, none] [] (zset m 48 13 n) Q) : AW m_M_isShaded 163 [some (vr 48), some (vi w), some (vi n), some (vi cs), some (vi c), some (vi 0), some (vi k)] [] m Q := by
  refine zw_iload ok_M_isShaded rfl rfl ?_
  refine zw_if_eq 174 ok_M_isShaded rfl (by decide) (by omega) (fun h165 => ?_) (fun h165 => ?_)
  · refine zw_aload_n ok_M_isShaded rfl rfl ?_
    refine zw_iload_n ok_M_isShaded rfl rfl ?_
    refine zw_puti ok_M_isShaded rfl fp_M_154 rfl rfl ?_
    refine zw_iload ok_M_isShaded rfl rfl ?_
    refine zw_if_eq 193 ok_M_isShaded rfl (by decide) (by omega) (fun h181 => ?_) (fun h181 => ?_)
    · refine zw_iinc ok_M_isShaded rfl rfl rfl (by decide) ?_
      refine zw_goto 30 ok_M_isShaded rfl (by decide) ?_
      exact zw_mask [true, true, true, true, true, false, false] rfl hx
    · exfalso; omega
  · exfalso; omega
theorem sc_yes {w n cs c k : Int} {m : zMem} {G : Int} (kl : zCv m_M_lives [vr 48, vi 11] m (fun m2 => ∃ x, m2 = putM m x ∧ x.2.2.2.1 = G ∧ (0 ≤ G ∧ G < 256))) (h0 : G = 0 → ∀ x, Q (some (vi (bi true))) (zset (putM m x) 48 13 n)) (h1 : G ≠ 0 → ∀ x, AW m_M_isShaded 30 [some (vr 48), some (vi w), some (vi n), some (vi cs), some (vi (c + 1)), none, none] [] (zset (putM m x) 48 13 n) Q) : AW m_M_isShaded 163 [some (vr 48), some (vi w), some (vi n), some (vi cs), some (vi c), some (vi 1), some (vi k)] [] m Q := by
  refine zw_iload ok_M_isShaded rfl rfl ?_
  refine zw_if_eq 174 ok_M_isShaded rfl (by decide) (by omega) (fun h165 => ?_) (fun h165 => ?_)
  · exfalso; omega
  · refine zw_aload_n ok_M_isShaded rfl rfl ?_
    refine zw_bipush ok_M_isShaded rfl (by decide) ?_
    refine zw_Vv ok_M_isShaded rfl ok_M_lives lk_M_216 (by decide) rfl rfl (Nat.le_of_ble_eq_true rfl) (kl) (fun m171 h171 => ?_)
    obtain ⟨x, rfl, hg, hr⟩ := h171
    refine zw_aload_n ok_M_isShaded rfl rfl ?_
    refine zw_iload_n ok_M_isShaded rfl rfl ?_
    refine zw_puti ok_M_isShaded rfl fp_M_154 rfl rfl ?_
    refine zw_iload ok_M_isShaded rfl rfl ?_
    refine zw_if_eq 193 ok_M_isShaded rfl (by decide) (by omega) (fun h181 => ?_) (fun h181 => ?_)
    · exfalso; omega
    · refine zw_aload_n ok_M_isShaded rfl rfl ?_
      refine zw_geti ok_M_isShaded rfl fl_M_182 rfl rfl ?_
      rw [show zset (putM m x) 48 13 n 48 18 = G from hg]
      refine zw_if_ne 193 ok_M_isShaded rfl (by decide) (by omega) (fun h188 => ?_) (fun h188 => ?_)
      · refine zw_iinc ok_M_isShaded rfl rfl rfl (by decide) ?_
        refine zw_goto 30 ok_M_isShaded rfl (by decide) ?_
        exact zw_mask [true, true, true, true, true, false, false] rfl (h1 h188 x)
      · refine zw_iconst ok_M_isShaded rfl ?_
        exact zw_zret ok_M_isShaded rfl rfl (by first | exact Or.inl rfl | exact Or.inr rfl | exact bi01 _) (h0 h188 x)
/-! none more -/
theorem ct_sh0 (hR : MRv mem τ (-1) 0) : zCb m_M_isShaded [vr 48, vi 0] mem (decide (Gn τ (aHid τ 0) = 0)) (fun m2 => shf mem m2 (τ 2 3) ∧ m2 48 13 = τ 2 3) := by
  refine zCt.of [some (vr 48), some (vi 0), none, none, none, none, none] ok_M_isShaded (Nat.le_of_ble_eq_true rfl) rfl ?_
  have b3 := hR.1.1.1.2.2.2.1
  have e13 := hR.2.1.1
  have f1 : shf mem (zset (zset mem 63 0 0) 63 1 0) (τ 2 3) := (shf.rf.set (by decide) (by decide) (by decide)).set (by decide) (by decide) (by decide)
  have g13 : zset (zset mem 63 0 0) 63 1 0 48 13 = τ 2 3 := e13
  generalize hm1 : zset (zset mem 63 0 0) 63 1 0 = m1 at f1 g13
  have kl := ct_shl (e := 0) (hid := aHid τ 0) hR f1 (by omega) (by omega) (fun i q1 q2 => by omega) (fun hr p _ _ _ _ => hd_e0 hR f1 g13 hr p)
  have done : Gn τ (aHid τ 0) ≠ 0 → ∀ x, AW m_M_isShaded 30 [some (vr 48), some (vi 0), some (vi (τ 2 3)), some (vi 1), some (vi (0 + 1)), none, none] [] (zset (putM m1 x) 48 13 (τ 2 3)) (fun r m2 => r = some (vi (bi (decide (Gn τ (aHid τ 0) = 0)))) ∧ shf mem m2 (τ 2 3) ∧ m2 48 13 = τ 2 3) := by
    intro hn x
    rw [decide_eq_false hn]
    refine zw_iload ok_M_isShaded rfl rfl ?_
    refine zw_iload_n ok_M_isShaded rfl rfl ?_
    refine zw_icmp_ge 199 ok_M_isShaded rfl (by decide) (by omega) (fun h33 => ?_) (fun h33 => ?_)
    · refine zw_iconst ok_M_isShaded rfl ?_
      exact zw_zret ok_M_isShaded rfl rfl (by first | exact Or.inl rfl | exact Or.inr rfl | exact bi01 _) (⟨rfl, f1.put.setj (by decide), by rw [zset_eq, zupd_eq]⟩)
    · exfalso; omega
  refine zw_aload_n ok_M_isShaded rfl rfl ?_
  refine zw_geti ok_M_isShaded rfl fl_M_154 rfl rfl ?_
  rw [e13]
  refine zw_istore_n ok_M_isShaded rfl rfl (by decide) ?_
  refine zw_iload_n ok_M_isShaded rfl rfl ?_
  refine zw_if_ne 13 ok_M_isShaded rfl (by decide) (by omega) (fun h6 => ?_) (fun h6 => ?_)
  · exfalso; omega
  · refine zw_iconst ok_M_isShaded rfl ?_
    refine zw_goto 26 ok_M_isShaded rfl (by decide) ?_
    refine zw_istore_n ok_M_isShaded rfl rfl (by decide) ?_
    refine zw_iconst ok_M_isShaded rfl ?_
    refine zw_istore ok_M_isShaded rfl rfl (by decide) ?_
    refine zw_iload ok_M_isShaded rfl rfl ?_
    refine zw_iload_n ok_M_isShaded rfl rfl ?_
    refine zw_icmp_ge 199 ok_M_isShaded rfl (by decide) (by omega) (fun h33 => ?_) (fun h33 => ?_)
    · exfalso; omega
    · refine zw_aload_n ok_M_isShaded rfl rfl ?_
      refine zw_getr ok_M_isShaded rfl fl_M_52 rfl rfl ?_
      refine zw_iconst ok_M_isShaded rfl ?_
      refine zw_iload_n ok_M_isShaded rfl rfl ?_
      refine zw_iconst ok_M_isShaded rfl ?_
      refine zw_icmp_ne 54 ok_M_isShaded rfl (by decide) (by omega) (fun h43 => ?_) (fun h43 => ?_)
      · refine zw_iload ok_M_isShaded rfl rfl ?_
        refine zw_iast ok_M_isShaded rfl rfl (by omega) ?_
        refine zw_aload_n ok_M_isShaded rfl rfl ?_
        refine zw_getr ok_M_isShaded rfl fl_M_52 rfl rfl ?_
        refine zw_iconst ok_M_isShaded rfl ?_
        refine zw_iload ok_M_isShaded rfl rfl ?_
        refine zw_bipush ok_M_isShaded rfl (by decide) ?_
        refine zw_irem ok_M_isShaded rfl (by omega) ?_
        rw [show zrem 0 96 = 0 by decide +kernel]
        refine zw_iast ok_M_isShaded rfl rfl (by omega) ?_
        rw [hm1]
        refine zw_iload_n ok_M_isShaded rfl rfl ?_
        refine zw_iconst ok_M_isShaded rfl ?_
        refine zw_icmp_lt 88 ok_M_isShaded rfl (by decide) (by omega) (fun h70 => ?_) (fun h70 => ?_)
        · refine zw_iconst ok_M_isShaded rfl ?_
          refine zw_goto 93 ok_M_isShaded rfl (by decide) ?_
          refine zw_istore ok_M_isShaded rfl rfl (by decide) ?_
          refine zw_iconst ok_M_isShaded rfl ?_
          refine zw_istore ok_M_isShaded rfl rfl (by decide) ?_
          refine zw_iload ok_M_isShaded rfl rfl ?_
          refine zw_iload_n ok_M_isShaded rfl rfl ?_
          refine zw_icmp_ge 163 ok_M_isShaded rfl (by decide) (by omega) (fun h101 => ?_) (fun h101 => ?_)
          · refine sc_yes kl (fun hz x => ⟨by rw [decide_eq_true hz], f1.put.setj (by decide), by rw [zset_eq, zupd_eq]⟩) done
          · exfalso; omega
        · exfalso; omega
      · exfalso; omega
/-! one more -/
theorem sh1_loop (hR : MRv mem τ (-1) 0) : ∀ (k : Nat) (c : Int) (m : zMem), 0 ≤ c → c + k = 96 → shf mem m (τ 2 3) → m 48 13 = τ 2 3 → (∀ m2 r, r = fst1 (p1 τ (aHid τ 0)) k c → shf mem m2 (τ 2 3) → m2 48 13 = τ 2 3 → (r ≠ -1 → m2 63 0 = r) → Q (some (vi (bi (decide (r ≠ -1))))) m2) → AW m_M_isShaded 30 [some (vr 48), some (vi 1), some (vi (τ 2 3)), some (vi 96), some (vi c), none, none] [] m Q := by
  have b3 := hR.1.1.1.2.2.2.1
  have hP := aP_b hR.1
  intro k
  induction k with
  | zero =>
    intro c m h0 h1 hf h13 hx
    refine zw_iload ok_M_isShaded rfl rfl ?_
    refine zw_iload_n ok_M_isShaded rfl rfl ?_
    refine zw_icmp_ge 199 ok_M_isShaded rfl (by decide) (by omega) (fun h33 => ?_) (fun h33 => ?_)
    · refine zw_iconst ok_M_isShaded rfl ?_
      exact zw_zret ok_M_isShaded rfl rfl (by first | exact Or.inl rfl | exact Or.inr rfl | exact bi01 _) (hx m (-1) rfl hf h13 (fun z => absurd rfl z))
    · exfalso; omega
  | succ k ih =>
    intro c m h0 h1 hf h13 hx
    rw [fst1_s] at hx
    have f1 : shf mem (zset (zset m 63 0 c) 63 1 (c % 96)) (τ 2 3) := (hf.set (by decide) (by decide) (by decide)).set (by decide) (by decide) (by decide)
    have g13 : zset (zset m 63 0 c) 63 1 (c % 96) 48 13 = τ 2 3 := h13
    have g7 : zset (zset m 63 0 c) 63 1 (c % 96) 48 7 = aP τ := by rw [f1.1.2 7 (by decide)]; exact hR.1.2.1.1
    have g63 : zset (zset m 63 0 c) 63 1 (c % 96) 63 0 = c := rfl
    generalize hm1 : zset (zset m 63 0 c) 63 1 (c % 96) = m1 at f1 g13 g7 g63
    have ks := ct_M_shades (mem := m1) (h := c / 8) (p := c % 8) (by omega)
    rw [g13] at ks
    have f2 : shf mem (zset (zset (zset m1 58 (2 * τ 2 3) (c / 8)) 58 (2 * τ 2 3 + 1) (c % 8)) 48 13 (τ 2 3 + 1)) (τ 2 3) := ((f1.set58 (by omega)).set58 (by omega)).setj (by decide)
    have g58 : zset (zset (zset m1 58 (2 * τ 2 3) (c / 8)) 58 (2 * τ 2 3 + 1) (c % 8)) 48 13 (τ 2 3 + 1) 58 (2 * τ 2 3) = c / 8 ∧ zset (zset (zset m1 58 (2 * τ 2 3) (c / 8)) 58 (2 * τ 2 3 + 1) (c % 8)) 48 13 (τ 2 3 + 1) 58 (2 * τ 2 3 + 1) = c % 8 := by
      rw [zset_ne (by decide), zset_eq, zset_eq]
      exact ⟨by rw [zupd_ne (by omega), zupd_eq], zupd_eq⟩
    have g13b : zset (zset (zset m1 58 (2 * τ 2 3) (c / 8)) 58 (2 * τ 2 3 + 1) (c % 8)) 48 13 (τ 2 3 + 1) 48 13 = τ 2 3 + 1 := by rw [zset_eq, zupd_eq]
    have g63b : zset (zset (zset m1 58 (2 * τ 2 3) (c / 8)) 58 (2 * τ 2 3 + 1) (c % 8)) 48 13 (τ 2 3 + 1) 63 0 = c := g63
    generalize zset (zset (zset m1 58 (2 * τ 2 3) (c / 8)) 58 (2 * τ 2 3 + 1) (c % 8)) 48 13 (τ 2 3 + 1) = m3 at ks f2 g58 g13b g63b
    have kl := ct_shl (e := 1) (hid := setB (aHid τ 0) c) hR f2 (by omega) (by omega) (fun i q1 q2 => by rw [show i = τ 2 3 by omega, g58.1, g58.2]; omega) (fun hr p _ _ _ _ => hd_e1 hR f2 (by omega) g58 hr p)
    have nh : p1 τ (aHid τ 0) c = false → ∀ M, shf mem M (τ 2 3) → M 48 13 = τ 2 3 → AW m_M_isShaded 30 [some (vr 48), some (vi 1), some (vi (τ 2 3)), some (vi 96), some (vi (c + 1)), none, none] [] M Q := by
      intro hp M q1 q2
      rw [if_neg (by rw [hp]; decide)] at hx
      exact ih (c + 1) M (by omega) (by omega) q1 q2 hx
    have s2 : ∀ b : Int, (b = 1 ∧ c % 8 < aP τ) ∨ (b = 0 ∧ ¬ c % 8 < aP τ) → AW m_M_isShaded 98 [some (vr 48), some (vi 1), some (vi (τ 2 3)), some (vi 96), some (vi c), some (vi b), some (vi (0 + 1))] [] m3 Q := by
      intro b hb
      refine zw_iload ok_M_isShaded rfl rfl ?_
      refine zw_iload_n ok_M_isShaded rfl rfl ?_
      refine zw_icmp_ge 163 ok_M_isShaded rfl (by decide) (by omega) (fun h101 => ?_) (fun h101 => ?_)
      · rcases hb with ⟨rfl, hc⟩ | ⟨rfl, hc⟩
        · refine sc_yes kl (fun hz x => ?_) (fun hz x => nh (decide_eq_false (fun z => hz z.2)) _ (f2.put.setj (by decide)) (by rw [zset_eq, zupd_eq]))
          have hp : p1 τ (aHid τ 0) c = true := decide_eq_true ⟨hc, hz⟩
          rw [if_pos hp] at hx
          have q := hx (zset (putM m3 x) 48 13 (τ 2 3)) c rfl (f2.put.setj (by decide)) (by rw [zset_eq, zupd_eq]) (fun _ => g63b)
          rw [decide_eq_true (by omega)] at q
          exact q
        · exact sc_no (nh (decide_eq_false (fun z => hc z.1)) _ (f2.setj (by decide)) (by rw [zset_eq, zupd_eq]))
      · exfalso; omega
    have s1 : AW m_M_isShaded 98 [some (vr 48), some (vi 1), some (vi (τ 2 3)), some (vi 96), some (vi c), some (vi 1), some (vi 0)] [] m1 Q := by
      refine zw_iload ok_M_isShaded rfl rfl ?_
      refine zw_iload_n ok_M_isShaded rfl rfl ?_
      refine zw_icmp_ge 163 ok_M_isShaded rfl (by decide) (by omega) (fun h101 => ?_) (fun h101 => ?_)
      · exfalso; omega
      · refine zw_iload ok_M_isShaded rfl rfl ?_
        refine zw_if_eq 163 ok_M_isShaded rfl (by decide) (by omega) (fun h106 => ?_) (fun h106 => ?_)
        · exfalso; omega
        · refine zw_aload_n ok_M_isShaded rfl rfl ?_
          refine zw_getr ok_M_isShaded rfl fl_M_52 rfl rfl ?_
          refine zw_iload ok_M_isShaded rfl rfl ?_
          refine zw_iald ok_M_isShaded rfl rfl (by omega) ?_
          rw [g63]
          refine zw_bipush ok_M_isShaded rfl (by decide) ?_
          refine zw_irem ok_M_isShaded rfl (by omega) ?_
          rw [zrem_nn (by omega) (by omega)]
          refine zw_aload_n ok_M_isShaded rfl rfl ?_
          refine zw_geti ok_M_isShaded rfl fl_M_109 rfl rfl ?_
          rw [g7]
          refine zw_icmp_ge 130 ok_M_isShaded rfl (by decide) (by omega) (fun h123 => ?_) (fun h123 => ?_)
          · refine zw_iconst ok_M_isShaded rfl ?_
            refine zw_istore ok_M_isShaded rfl rfl (by decide) ?_
            refine zw_aload_n ok_M_isShaded rfl rfl ?_
            refine zw_aload_n ok_M_isShaded rfl rfl ?_
            refine zw_getr ok_M_isShaded rfl fl_M_52 rfl rfl ?_
            refine zw_iload ok_M_isShaded rfl rfl ?_
            refine zw_iald ok_M_isShaded rfl rfl (by omega) ?_
            rw [g63]
            refine zw_bipush ok_M_isShaded rfl (by decide) ?_
            refine zw_idiv ok_M_isShaded rfl (by omega) ?_
            rw [zdiv_nn (by omega) (by omega)]
            refine zw_aload_n ok_M_isShaded rfl rfl ?_
            refine zw_getr ok_M_isShaded rfl fl_M_52 rfl rfl ?_
            refine zw_iload ok_M_isShaded rfl rfl ?_
            refine zw_iald ok_M_isShaded rfl rfl (by omega) ?_
            rw [g63]
            refine zw_bipush ok_M_isShaded rfl (by decide) ?_
            refine zw_irem ok_M_isShaded rfl (by omega) ?_
            rw [zrem_nn (by omega) (by omega)]
            refine zw_Vvp ok_M_isShaded rfl ok_M_shades lk_M_160 (by decide) rfl rfl (Nat.le_of_ble_eq_true rfl) (ks) ?_
            refine zw_iinc ok_M_isShaded rfl rfl rfl (by decide) ?_
            refine zw_goto 98 ok_M_isShaded rfl (by decide) ?_
            exact s2 _ (by omega)
          · refine zw_iconst ok_M_isShaded rfl ?_
            refine zw_goto 131 ok_M_isShaded rfl (by decide) ?_
            refine zw_istore ok_M_isShaded rfl rfl (by decide) ?_
            refine zw_aload_n ok_M_isShaded rfl rfl ?_
            refine zw_aload_n ok_M_isShaded rfl rfl ?_
            refine zw_getr ok_M_isShaded rfl fl_M_52 rfl rfl ?_
            refine zw_iload ok_M_isShaded rfl rfl ?_
            refine zw_iald ok_M_isShaded rfl rfl (by omega) ?_
            rw [g63]
            refine zw_bipush ok_M_isShaded rfl (by decide) ?_
            refine zw_idiv ok_M_isShaded rfl (by omega) ?_
            rw [zdiv_nn (by omega) (by omega)]
            refine zw_aload_n ok_M_isShaded rfl rfl ?_
            refine zw_getr ok_M_isShaded rfl fl_M_52 rfl rfl ?_
            refine zw_iload ok_M_isShaded rfl rfl ?_
            refine zw_iald ok_M_isShaded rfl rfl (by omega) ?_
            rw [g63]
            refine zw_bipush ok_M_isShaded rfl (by decide) ?_
            refine zw_irem ok_M_isShaded rfl (by omega) ?_
            rw [zrem_nn (by omega) (by omega)]
            refine zw_Vvp ok_M_isShaded rfl ok_M_shades lk_M_160 (by decide) rfl rfl (Nat.le_of_ble_eq_true rfl) (ks) ?_
            refine zw_iinc ok_M_isShaded rfl rfl rfl (by decide) ?_
            refine zw_goto 98 ok_M_isShaded rfl (by decide) ?_
            exact s2 _ (by omega)
    refine zw_iload ok_M_isShaded rfl rfl ?_
    refine zw_iload_n ok_M_isShaded rfl rfl ?_
    refine zw_icmp_ge 199 ok_M_isShaded rfl (by decide) (by omega) (fun h33 => ?_) (fun h33 => ?_)
    · exfalso; omega
    · refine zw_aload_n ok_M_isShaded rfl rfl ?_
      refine zw_getr ok_M_isShaded rfl fl_M_52 rfl rfl ?_
      refine zw_iconst ok_M_isShaded rfl ?_
      refine zw_iload_n ok_M_isShaded rfl rfl ?_
      refine zw_iconst ok_M_isShaded rfl ?_
      refine zw_icmp_ne 54 ok_M_isShaded rfl (by decide) (by omega) (fun h43 => ?_) (fun h43 => ?_)
      · refine zw_iload ok_M_isShaded rfl rfl ?_
        refine zw_iast ok_M_isShaded rfl rfl (by omega) ?_
        refine zw_aload_n ok_M_isShaded rfl rfl ?_
        refine zw_getr ok_M_isShaded rfl fl_M_52 rfl rfl ?_
        refine zw_iconst ok_M_isShaded rfl ?_
        refine zw_iload ok_M_isShaded rfl rfl ?_
        refine zw_bipush ok_M_isShaded rfl (by decide) ?_
        refine zw_irem ok_M_isShaded rfl (by omega) ?_
        rw [zrem_nn (by omega) (by omega)]
        refine zw_iast ok_M_isShaded rfl rfl (by omega) ?_
        rw [hm1]
        refine zw_iload_n ok_M_isShaded rfl rfl ?_
        refine zw_iconst ok_M_isShaded rfl ?_
        refine zw_icmp_lt 88 ok_M_isShaded rfl (by decide) (by omega) (fun h70 => ?_) (fun h70 => ?_)
        · refine zw_iconst ok_M_isShaded rfl ?_
          refine zw_goto 93 ok_M_isShaded rfl (by decide) ?_
          refine zw_istore ok_M_isShaded rfl rfl (by decide) ?_
          refine zw_iconst ok_M_isShaded rfl ?_
          refine zw_istore ok_M_isShaded rfl rfl (by decide) ?_
          exact s1
        · exfalso; omega
      · exfalso; omega
theorem ct_sh1 (hR : MRv mem τ (-1) 0) : zCb m_M_isShaded [vr 48, vi 1] mem (decide (fst1 (p1 τ (aHid τ 0)) 96 0 ≠ -1)) (fun m2 => (shf mem m2 (τ 2 3) ∧ m2 48 13 = τ 2 3) ∧ (fst1 (p1 τ (aHid τ 0)) 96 0 ≠ -1 → m2 63 0 = fst1 (p1 τ (aHid τ 0)) 96 0)) := by
  refine zCt.of [some (vr 48), some (vi 1), none, none, none, none, none] ok_M_isShaded (Nat.le_of_ble_eq_true rfl) rfl ?_
  refine zw_aload_n ok_M_isShaded rfl rfl ?_
  refine zw_geti ok_M_isShaded rfl fl_M_154 rfl rfl ?_
  rw [hR.2.1.1]
  refine zw_istore_n ok_M_isShaded rfl rfl (by decide) ?_
  refine zw_iload_n ok_M_isShaded rfl rfl ?_
  refine zw_if_ne 13 ok_M_isShaded rfl (by decide) (by omega) (fun h6 => ?_) (fun h6 => ?_)
  · refine zw_iload_n ok_M_isShaded rfl rfl ?_
    refine zw_iconst ok_M_isShaded rfl ?_
    refine zw_icmp_ne 23 ok_M_isShaded rfl (by decide) (by omega) (fun h15 => ?_) (fun h15 => ?_)
    · exfalso; omega
    · refine zw_bipush ok_M_isShaded rfl (by decide) ?_
      refine zw_goto 26 ok_M_isShaded rfl (by decide) ?_
      refine zw_istore_n ok_M_isShaded rfl rfl (by decide) ?_
      refine zw_iconst ok_M_isShaded rfl ?_
      refine zw_istore ok_M_isShaded rfl rfl (by decide) ?_
      exact sh1_loop hR 96 0 mem (by omega) (by omega) shf.rf hR.2.1.1 (fun m2 r hr q1 q2 q3 => ⟨by rw [hr], ⟨q1, q2⟩, by rw [← hr]; exact q3⟩)
  · exfalso; omega
/-! two more -/
theorem sh2_loop (hR : MRv mem τ (-1) 0) : ∀ (k : Nat) (c : Int) (m : zMem), 0 ≤ c → c + k = 9216 → shf mem m (τ 2 3) → m 48 13 = τ 2 3 → (∀ m2 r, r = fst1 (p2 τ (aHid τ 0)) k c → shf mem m2 (τ 2 3) → m2 48 13 = τ 2 3 → (r ≠ -1 → m2 63 0 = r / 96 ∧ m2 63 1 = r % 96) → Q (some (vi (bi (decide (r ≠ -1))))) m2) → AW m_M_isShaded 30 [some (vr 48), some (vi 2), some (vi (τ 2 3)), some (vi 9216), some (vi c), none, none] [] m Q := by
  have b3 := hR.1.1.1.2.2.2.1
  have hP := aP_b hR.1
  intro k
  induction k with
  | zero =>
    intro c m h0 h1 hf h13 hx
    refine zw_iload ok_M_isShaded rfl rfl ?_
    refine zw_iload_n ok_M_isShaded rfl rfl ?_
    refine zw_icmp_ge 199 ok_M_isShaded rfl (by decide) (by omega) (fun h33 => ?_) (fun h33 => ?_)
    · refine zw_iconst ok_M_isShaded rfl ?_
      exact zw_zret ok_M_isShaded rfl rfl (by first | exact Or.inl rfl | exact Or.inr rfl | exact bi01 _) (hx m (-1) rfl hf h13 (fun z => absurd rfl z))
    · exfalso; omega
  | succ k ih =>
    intro c m h0 h1 hf h13 hx
    rw [fst1_s] at hx
    have f1 : shf mem (zset (zset m 63 0 (c / 96)) 63 1 (c % 96)) (τ 2 3) := (hf.set (by decide) (by decide) (by decide)).set (by decide) (by decide) (by decide)
    have g13 : zset (zset m 63 0 (c / 96)) 63 1 (c % 96) 48 13 = τ 2 3 := h13
    have g7 : zset (zset m 63 0 (c / 96)) 63 1 (c % 96) 48 7 = aP τ := by rw [f1.1.2 7 (by decide)]; exact hR.1.2.1.1
    have g63 : zset (zset m 63 0 (c / 96)) 63 1 (c % 96) 63 0 = c / 96 ∧ zset (zset m 63 0 (c / 96)) 63 1 (c % 96) 63 1 = c % 96 := ⟨rfl, rfl⟩
    generalize hm1 : zset (zset m 63 0 (c / 96)) 63 1 (c % 96) = m1 at f1 g13 g7 g63
    have cb : (0 ≤ c / 96 ∧ c / 96 < 96) ∧ (0 ≤ c % 96 ∧ c % 96 < 96) := by omega
    have ks := ct_M_shades (mem := m1) (h := c / 96 / 8) (p := c / 96 % 8) (by omega)
    rw [g13] at ks
    have f2 : shf mem (zset (zset (zset m1 58 (2 * τ 2 3) (c / 96 / 8)) 58 (2 * τ 2 3 + 1) (c / 96 % 8)) 48 13 (τ 2 3 + 1)) (τ 2 3) := ((f1.set58 (by omega)).set58 (by omega)).setj (by decide)
    have g58 : zset (zset (zset m1 58 (2 * τ 2 3) (c / 96 / 8)) 58 (2 * τ 2 3 + 1) (c / 96 % 8)) 48 13 (τ 2 3 + 1) 58 (2 * τ 2 3) = c / 96 / 8 ∧ zset (zset (zset m1 58 (2 * τ 2 3) (c / 96 / 8)) 58 (2 * τ 2 3 + 1) (c / 96 % 8)) 48 13 (τ 2 3 + 1) 58 (2 * τ 2 3 + 1) = c / 96 % 8 := by
      rw [zset_ne (by decide), zset_eq, zset_eq]
      exact ⟨by rw [zupd_ne (by omega), zupd_eq], zupd_eq⟩
    have g13b : zset (zset (zset m1 58 (2 * τ 2 3) (c / 96 / 8)) 58 (2 * τ 2 3 + 1) (c / 96 % 8)) 48 13 (τ 2 3 + 1) 48 13 = τ 2 3 + 1 := by rw [zset_eq, zupd_eq]
    have g63b : zset (zset (zset m1 58 (2 * τ 2 3) (c / 96 / 8)) 58 (2 * τ 2 3 + 1) (c / 96 % 8)) 48 13 (τ 2 3 + 1) 63 0 = c / 96 ∧ zset (zset (zset m1 58 (2 * τ 2 3) (c / 96 / 8)) 58 (2 * τ 2 3 + 1) (c / 96 % 8)) 48 13 (τ 2 3 + 1) 63 1 = c % 96 := g63
    generalize zset (zset (zset m1 58 (2 * τ 2 3) (c / 96 / 8)) 58 (2 * τ 2 3 + 1) (c / 96 % 8)) 48 13 (τ 2 3 + 1) = m3 at ks f2 g58 g13b g63b
    have g7b : m3 48 7 = aP τ := by rw [f2.1.2 7 (by decide)]; exact hR.1.2.1.1
    have kt := ct_M_shades (mem := m3) (h := c % 96 / 8) (p := c % 96 % 8) (by omega)
    rw [g13b] at kt
    have f3 : shf mem (zset (zset (zset m3 58 (2 * (τ 2 3 + 1)) (c % 96 / 8)) 58 (2 * (τ 2 3 + 1) + 1) (c % 96 % 8)) 48 13 (τ 2 3 + 1 + 1)) (τ 2 3) := ((f2.set58 (by omega)).set58 (by omega)).setj (by decide)
    have g58c : (zset (zset (zset m3 58 (2 * (τ 2 3 + 1)) (c % 96 / 8)) 58 (2 * (τ 2 3 + 1) + 1) (c % 96 % 8)) 48 13 (τ 2 3 + 1 + 1) 58 (2 * τ 2 3) = c / 96 / 8 ∧ zset (zset (zset m3 58 (2 * (τ 2 3 + 1)) (c % 96 / 8)) 58 (2 * (τ 2 3 + 1) + 1) (c % 96 % 8)) 48 13 (τ 2 3 + 1 + 1) 58 (2 * τ 2 3 + 1) = c / 96 % 8) ∧ (zset (zset (zset m3 58 (2 * (τ 2 3 + 1)) (c % 96 / 8)) 58 (2 * (τ 2 3 + 1) + 1) (c % 96 % 8)) 48 13 (τ 2 3 + 1 + 1) 58 (2 * (τ 2 3 + 1)) = c % 96 / 8 ∧ zset (zset (zset m3 58 (2 * (τ 2 3 + 1)) (c % 96 / 8)) 58 (2 * (τ 2 3 + 1) + 1) (c % 96 % 8)) 48 13 (τ 2 3 + 1 + 1) 58 (2 * (τ 2 3 + 1) + 1) = c % 96 % 8) := by
      rw [zset_ne (by decide), zset_eq, zset_eq]
      exact ⟨⟨by rw [zupd_ne (by omega), zupd_ne (by omega)]; exact g58.1, by rw [zupd_ne (by omega), zupd_ne (by omega)]; exact g58.2⟩, by rw [zupd_ne (by omega), zupd_eq], zupd_eq⟩
    have g13c : zset (zset (zset m3 58 (2 * (τ 2 3 + 1)) (c % 96 / 8)) 58 (2 * (τ 2 3 + 1) + 1) (c % 96 % 8)) 48 13 (τ 2 3 + 1 + 1) 48 13 = τ 2 3 + 1 + 1 := by rw [zset_eq, zupd_eq]
    have g63c : zset (zset (zset m3 58 (2 * (τ 2 3 + 1)) (c % 96 / 8)) 58 (2 * (τ 2 3 + 1) + 1) (c % 96 % 8)) 48 13 (τ 2 3 + 1 + 1) 63 0 = c / 96 ∧ zset (zset (zset m3 58 (2 * (τ 2 3 + 1)) (c % 96 / 8)) 58 (2 * (τ 2 3 + 1) + 1) (c % 96 % 8)) 48 13 (τ 2 3 + 1 + 1) 63 1 = c % 96 := g63b
    generalize zset (zset (zset m3 58 (2 * (τ 2 3 + 1)) (c % 96 / 8)) 58 (2 * (τ 2 3 + 1) + 1) (c % 96 % 8)) 48 13 (τ 2 3 + 1 + 1) = m4 at kt f3 g58c g13c g63c
    have kl := ct_shl (e := 2) (hid := setB (setB (aHid τ 0) (c / 96)) (c % 96)) hR f3 (by omega) (by omega) (fun i q1 q2 => by
      have : i = τ 2 3 ∨ i = τ 2 3 + 1 := by omega
      rcases this with rfl | rfl
      · rw [g58c.1.1, g58c.1.2]; omega
      · rw [g58c.2.1, g58c.2.2]; omega) (fun hr p _ _ _ _ => hd_e2 hR f3 (by omega) g58c.1 g58c.2 hr p)
    have nh : p2 τ (aHid τ 0) c = false → ∀ M, shf mem M (τ 2 3) → M 48 13 = τ 2 3 → AW m_M_isShaded 30 [some (vr 48), some (vi 2), some (vi (τ 2 3)), some (vi 9216), some (vi (c + 1)), none, none] [] M Q := by
      intro hp M q1 q2
      rw [if_neg (by rw [hp]; decide)] at hx
      exact ih (c + 1) M (by omega) (by omega) q1 q2 hx
    have s3 : ∀ b : Int, c / 96 < c % 96 → c / 96 % 8 < aP τ → (b = 1 ∧ c % 96 % 8 < aP τ) ∨ (b = 0 ∧ ¬ c % 96 % 8 < aP τ) → AW m_M_isShaded 98 [some (vr 48), some (vi 2), some (vi (τ 2 3)), some (vi 9216), some (vi c), some (vi b), some (vi (0 + 1 + 1))] [] m4 Q := by
      intro b hl hu hb
      refine zw_iload ok_M_isShaded rfl rfl ?_
      refine zw_iload_n ok_M_isShaded rfl rfl ?_
      refine zw_icmp_ge 163 ok_M_isShaded rfl (by decide) (by omega) (fun h101 => ?_) (fun h101 => ?_)
      · rcases hb with ⟨rfl, hc⟩ | ⟨rfl, hc⟩
        · refine sc_yes kl (fun hz x => ?_) (fun hz x => nh (decide_eq_false (fun z => hz z.2)) _ (f3.put.setj (by decide)) (by rw [zset_eq, zupd_eq]))
          have hp : p2 τ (aHid τ 0) c = true := decide_eq_true ⟨⟨hl, hu, hc⟩, hz⟩
          rw [if_pos hp] at hx
          have q := hx (zset (putM m4 x) 48 13 (τ 2 3)) c rfl (f3.put.setj (by decide)) (by rw [zset_eq, zupd_eq]) (fun _ => g63c)
          rw [decide_eq_true (by omega)] at q
          exact q
        · exact sc_no (nh (decide_eq_false (fun z => hc z.1.2.2)) _ (f3.setj (by decide)) (by rw [zset_eq, zupd_eq]))
      · exfalso; omega
    have s2 : ∀ b : Int, c / 96 < c % 96 → (b = 1 ∧ c / 96 % 8 < aP τ) ∨ (b = 0 ∧ ¬ c / 96 % 8 < aP τ) → AW m_M_isShaded 98 [some (vr 48), some (vi 2), some (vi (τ 2 3)), some (vi 9216), some (vi c), some (vi b), some (vi (0 + 1))] [] m3 Q := by
      intro b hl hb
      rcases hb with ⟨rfl, hc⟩ | ⟨rfl, hc⟩
      · refine zw_iload ok_M_isShaded rfl rfl ?_
        refine zw_iload_n ok_M_isShaded rfl rfl ?_
        refine zw_icmp_ge 163 ok_M_isShaded rfl (by decide) (by omega) (fun h101 => ?_) (fun h101 => ?_)
        · exfalso; omega
        · refine zw_iload ok_M_isShaded rfl rfl ?_
          refine zw_if_eq 163 ok_M_isShaded rfl (by decide) (by omega) (fun h106 => ?_) (fun h106 => ?_)
          · exfalso; omega
          · refine zw_aload_n ok_M_isShaded rfl rfl ?_
            refine zw_getr ok_M_isShaded rfl fl_M_52 rfl rfl ?_
            refine zw_iload ok_M_isShaded rfl rfl ?_
            refine zw_iald ok_M_isShaded rfl rfl (by omega) ?_
            rw [show m3 63 (0 + 1) = c % 96 from g63b.2]
            refine zw_bipush ok_M_isShaded rfl (by decide) ?_
            refine zw_irem ok_M_isShaded rfl (by omega) ?_
            rw [zrem_nn (by omega) (by omega)]
            refine zw_aload_n ok_M_isShaded rfl rfl ?_
            refine zw_geti ok_M_isShaded rfl fl_M_109 rfl rfl ?_
            rw [g7b]
            refine zw_icmp_ge 130 ok_M_isShaded rfl (by decide) (by omega) (fun h123 => ?_) (fun h123 => ?_)
            · refine zw_iconst ok_M_isShaded rfl ?_
              refine zw_istore ok_M_isShaded rfl rfl (by decide) ?_
              refine zw_aload_n ok_M_isShaded rfl rfl ?_
              refine zw_aload_n ok_M_isShaded rfl rfl ?_
              refine zw_getr ok_M_isShaded rfl fl_M_52 rfl rfl ?_
              refine zw_iload ok_M_isShaded rfl rfl ?_
              refine zw_iald ok_M_isShaded rfl rfl (by omega) ?_
              rw [show m3 63 (0 + 1) = c % 96 from g63b.2]
              refine zw_bipush ok_M_isShaded rfl (by decide) ?_
              refine zw_idiv ok_M_isShaded rfl (by omega) ?_
              rw [zdiv_nn (by omega) (by omega)]
              refine zw_aload_n ok_M_isShaded rfl rfl ?_
              refine zw_getr ok_M_isShaded rfl fl_M_52 rfl rfl ?_
              refine zw_iload ok_M_isShaded rfl rfl ?_
              refine zw_iald ok_M_isShaded rfl rfl (by omega) ?_
              rw [show m3 63 (0 + 1) = c % 96 from g63b.2]
              refine zw_bipush ok_M_isShaded rfl (by decide) ?_
              refine zw_irem ok_M_isShaded rfl (by omega) ?_
              rw [zrem_nn (by omega) (by omega)]
              refine zw_Vvp ok_M_isShaded rfl ok_M_shades lk_M_160 (by decide) rfl rfl (Nat.le_of_ble_eq_true rfl) (kt) ?_
              refine zw_iinc ok_M_isShaded rfl rfl rfl (by decide) ?_
              refine zw_goto 98 ok_M_isShaded rfl (by decide) ?_
              exact s3 _ hl hc (by omega)
            · refine zw_iconst ok_M_isShaded rfl ?_
              refine zw_goto 131 ok_M_isShaded rfl (by decide) ?_
              refine zw_istore ok_M_isShaded rfl rfl (by decide) ?_
              refine zw_aload_n ok_M_isShaded rfl rfl ?_
              refine zw_aload_n ok_M_isShaded rfl rfl ?_
              refine zw_getr ok_M_isShaded rfl fl_M_52 rfl rfl ?_
              refine zw_iload ok_M_isShaded rfl rfl ?_
              refine zw_iald ok_M_isShaded rfl rfl (by omega) ?_
              rw [show m3 63 (0 + 1) = c % 96 from g63b.2]
              refine zw_bipush ok_M_isShaded rfl (by decide) ?_
              refine zw_idiv ok_M_isShaded rfl (by omega) ?_
              rw [zdiv_nn (by omega) (by omega)]
              refine zw_aload_n ok_M_isShaded rfl rfl ?_
              refine zw_getr ok_M_isShaded rfl fl_M_52 rfl rfl ?_
              refine zw_iload ok_M_isShaded rfl rfl ?_
              refine zw_iald ok_M_isShaded rfl rfl (by omega) ?_
              rw [show m3 63 (0 + 1) = c % 96 from g63b.2]
              refine zw_bipush ok_M_isShaded rfl (by decide) ?_
              refine zw_irem ok_M_isShaded rfl (by omega) ?_
              rw [zrem_nn (by omega) (by omega)]
              refine zw_Vvp ok_M_isShaded rfl ok_M_shades lk_M_160 (by decide) rfl rfl (Nat.le_of_ble_eq_true rfl) (kt) ?_
              refine zw_iinc ok_M_isShaded rfl rfl rfl (by decide) ?_
              refine zw_goto 98 ok_M_isShaded rfl (by decide) ?_
              exact s3 _ hl hc (by omega)
      · refine zw_iload ok_M_isShaded rfl rfl ?_
        refine zw_iload_n ok_M_isShaded rfl rfl ?_
        refine zw_icmp_ge 163 ok_M_isShaded rfl (by decide) (by omega) (fun h101 => ?_) (fun h101 => ?_)
        · exfalso; omega
        · refine zw_iload ok_M_isShaded rfl rfl ?_
          refine zw_if_eq 163 ok_M_isShaded rfl (by decide) (by omega) (fun h106 => ?_) (fun h106 => ?_)
          · exact sc_no (nh (decide_eq_false (fun z => hc z.1.2.1)) _ (f2.setj (by decide)) (by rw [zset_eq, zupd_eq]))
          · exfalso; omega
    have s1 : ∀ b : Int, (b = 1 ∧ c / 96 < c % 96) ∨ (b = 0 ∧ ¬ c / 96 < c % 96) → AW m_M_isShaded 98 [some (vr 48), some (vi 2), some (vi (τ 2 3)), some (vi 9216), some (vi c), some (vi b), some (vi 0)] [] m1 Q := by
      intro b hb
      rcases hb with ⟨rfl, hl⟩ | ⟨rfl, hl⟩
      · refine zw_iload ok_M_isShaded rfl rfl ?_
        refine zw_iload_n ok_M_isShaded rfl rfl ?_
        refine zw_icmp_ge 163 ok_M_isShaded rfl (by decide) (by omega) (fun h101 => ?_) (fun h101 => ?_)
        · exfalso; omega
        · refine zw_iload ok_M_isShaded rfl rfl ?_
          refine zw_if_eq 163 ok_M_isShaded rfl (by decide) (by omega) (fun h106 => ?_) (fun h106 => ?_)
          · exfalso; omega
          · refine zw_aload_n ok_M_isShaded rfl rfl ?_
            refine zw_getr ok_M_isShaded rfl fl_M_52 rfl rfl ?_
            refine zw_iload ok_M_isShaded rfl rfl ?_
            refine zw_iald ok_M_isShaded rfl rfl (by omega) ?_
            rw [g63.1]
            refine zw_bipush ok_M_isShaded rfl (by decide) ?_
            refine zw_irem ok_M_isShaded rfl (by omega) ?_
            rw [zrem_nn (by omega) (by omega)]
            refine zw_aload_n ok_M_isShaded rfl rfl ?_
            refine zw_geti ok_M_isShaded rfl fl_M_109 rfl rfl ?_
            rw [g7]
            refine zw_icmp_ge 130 ok_M_isShaded rfl (by decide) (by omega) (fun h123 => ?_) (fun h123 => ?_)
            · refine zw_iconst ok_M_isShaded rfl ?_
              refine zw_istore ok_M_isShaded rfl rfl (by decide) ?_
              refine zw_aload_n ok_M_isShaded rfl rfl ?_
              refine zw_aload_n ok_M_isShaded rfl rfl ?_
              refine zw_getr ok_M_isShaded rfl fl_M_52 rfl rfl ?_
              refine zw_iload ok_M_isShaded rfl rfl ?_
              refine zw_iald ok_M_isShaded rfl rfl (by omega) ?_
              rw [g63.1]
              refine zw_bipush ok_M_isShaded rfl (by decide) ?_
              refine zw_idiv ok_M_isShaded rfl (by omega) ?_
              rw [zdiv_nn (by omega) (by omega)]
              refine zw_aload_n ok_M_isShaded rfl rfl ?_
              refine zw_getr ok_M_isShaded rfl fl_M_52 rfl rfl ?_
              refine zw_iload ok_M_isShaded rfl rfl ?_
              refine zw_iald ok_M_isShaded rfl rfl (by omega) ?_
              rw [g63.1]
              refine zw_bipush ok_M_isShaded rfl (by decide) ?_
              refine zw_irem ok_M_isShaded rfl (by omega) ?_
              rw [zrem_nn (by omega) (by omega)]
              refine zw_Vvp ok_M_isShaded rfl ok_M_shades lk_M_160 (by decide) rfl rfl (Nat.le_of_ble_eq_true rfl) (ks) ?_
              refine zw_iinc ok_M_isShaded rfl rfl rfl (by decide) ?_
              refine zw_goto 98 ok_M_isShaded rfl (by decide) ?_
              exact s2 _ hl (by omega)
            · refine zw_iconst ok_M_isShaded rfl ?_
              refine zw_goto 131 ok_M_isShaded rfl (by decide) ?_
              refine zw_istore ok_M_isShaded rfl rfl (by decide) ?_
              refine zw_aload_n ok_M_isShaded rfl rfl ?_
              refine zw_aload_n ok_M_isShaded rfl rfl ?_
              refine zw_getr ok_M_isShaded rfl fl_M_52 rfl rfl ?_
              refine zw_iload ok_M_isShaded rfl rfl ?_
              refine zw_iald ok_M_isShaded rfl rfl (by omega) ?_
              rw [g63.1]
              refine zw_bipush ok_M_isShaded rfl (by decide) ?_
              refine zw_idiv ok_M_isShaded rfl (by omega) ?_
              rw [zdiv_nn (by omega) (by omega)]
              refine zw_aload_n ok_M_isShaded rfl rfl ?_
              refine zw_getr ok_M_isShaded rfl fl_M_52 rfl rfl ?_
              refine zw_iload ok_M_isShaded rfl rfl ?_
              refine zw_iald ok_M_isShaded rfl rfl (by omega) ?_
              rw [g63.1]
              refine zw_bipush ok_M_isShaded rfl (by decide) ?_
              refine zw_irem ok_M_isShaded rfl (by omega) ?_
              rw [zrem_nn (by omega) (by omega)]
              refine zw_Vvp ok_M_isShaded rfl ok_M_shades lk_M_160 (by decide) rfl rfl (Nat.le_of_ble_eq_true rfl) (ks) ?_
              refine zw_iinc ok_M_isShaded rfl rfl rfl (by decide) ?_
              refine zw_goto 98 ok_M_isShaded rfl (by decide) ?_
              exact s2 _ hl (by omega)
      · refine zw_iload ok_M_isShaded rfl rfl ?_
        refine zw_iload_n ok_M_isShaded rfl rfl ?_
        refine zw_icmp_ge 163 ok_M_isShaded rfl (by decide) (by omega) (fun h101 => ?_) (fun h101 => ?_)
        · exfalso; omega
        · refine zw_iload ok_M_isShaded rfl rfl ?_
          refine zw_if_eq 163 ok_M_isShaded rfl (by decide) (by omega) (fun h106 => ?_) (fun h106 => ?_)
          · exact sc_no (nh (decide_eq_false (fun z => hl z.1.1)) _ (f1.setj (by decide)) (by rw [zset_eq, zupd_eq]))
          · exfalso; omega
    refine zw_iload ok_M_isShaded rfl rfl ?_
    refine zw_iload_n ok_M_isShaded rfl rfl ?_
    refine zw_icmp_ge 199 ok_M_isShaded rfl (by decide) (by omega) (fun h33 => ?_) (fun h33 => ?_)
    · exfalso; omega
    · refine zw_aload_n ok_M_isShaded rfl rfl ?_
      refine zw_getr ok_M_isShaded rfl fl_M_52 rfl rfl ?_
      refine zw_iconst ok_M_isShaded rfl ?_
      refine zw_iload_n ok_M_isShaded rfl rfl ?_
      refine zw_iconst ok_M_isShaded rfl ?_
      refine zw_icmp_ne 54 ok_M_isShaded rfl (by decide) (by omega) (fun h43 => ?_) (fun h43 => ?_)
      · exfalso; omega
      · refine zw_iload ok_M_isShaded rfl rfl ?_
        refine zw_bipush ok_M_isShaded rfl (by decide) ?_
        refine zw_idiv ok_M_isShaded rfl (by omega) ?_
        rw [zdiv_nn (by omega) (by omega)]
        refine zw_goto 56 ok_M_isShaded rfl (by decide) ?_
        refine zw_iast ok_M_isShaded rfl rfl (by omega) ?_
        refine zw_aload_n ok_M_isShaded rfl rfl ?_
        refine zw_getr ok_M_isShaded rfl fl_M_52 rfl rfl ?_
        refine zw_iconst ok_M_isShaded rfl ?_
        refine zw_iload ok_M_isShaded rfl rfl ?_
        refine zw_bipush ok_M_isShaded rfl (by decide) ?_
        refine zw_irem ok_M_isShaded rfl (by omega) ?_
        rw [zrem_nn (by omega) (by omega)]
        refine zw_iast ok_M_isShaded rfl rfl (by omega) ?_
        rw [hm1]
        refine zw_iload_n ok_M_isShaded rfl rfl ?_
        refine zw_iconst ok_M_isShaded rfl ?_
        refine zw_icmp_lt 88 ok_M_isShaded rfl (by decide) (by omega) (fun h70 => ?_) (fun h70 => ?_)
        · exfalso; omega
        · refine zw_aload_n ok_M_isShaded rfl rfl ?_
          refine zw_getr ok_M_isShaded rfl fl_M_52 rfl rfl ?_
          refine zw_iconst ok_M_isShaded rfl ?_
          refine zw_iald ok_M_isShaded rfl rfl (by omega) ?_
          rw [g63.1]
          refine zw_aload_n ok_M_isShaded rfl rfl ?_
          refine zw_getr ok_M_isShaded rfl fl_M_52 rfl rfl ?_
          refine zw_iconst ok_M_isShaded rfl ?_
          refine zw_iald ok_M_isShaded rfl rfl (by omega) ?_
          rw [g63.2]
          refine zw_icmp_ge 92 ok_M_isShaded rfl (by decide) (by omega) (fun h85 => ?_) (fun h85 => ?_)
          · refine zw_iconst ok_M_isShaded rfl ?_
            refine zw_istore ok_M_isShaded rfl rfl (by decide) ?_
            refine zw_iconst ok_M_isShaded rfl ?_
            refine zw_istore ok_M_isShaded rfl rfl (by decide) ?_
            exact s1 _ (by omega)
          · refine zw_iconst ok_M_isShaded rfl ?_
            refine zw_goto 93 ok_M_isShaded rfl (by decide) ?_
            refine zw_istore ok_M_isShaded rfl rfl (by decide) ?_
            refine zw_iconst ok_M_isShaded rfl ?_
            refine zw_istore ok_M_isShaded rfl rfl (by decide) ?_
            exact s1 _ (by omega)
theorem ct_sh2 (hR : MRv mem τ (-1) 0) : zCb m_M_isShaded [vr 48, vi 2] mem (decide (fst1 (p2 τ (aHid τ 0)) 9216 0 ≠ -1)) (fun m2 => (shf mem m2 (τ 2 3) ∧ m2 48 13 = τ 2 3) ∧ (fst1 (p2 τ (aHid τ 0)) 9216 0 ≠ -1 → m2 63 0 = fst1 (p2 τ (aHid τ 0)) 9216 0 / 96 ∧ m2 63 1 = fst1 (p2 τ (aHid τ 0)) 9216 0 % 96)) := by
  refine zCt.of [some (vr 48), some (vi 2), none, none, none, none, none] ok_M_isShaded (Nat.le_of_ble_eq_true rfl) rfl ?_
  refine zw_aload_n ok_M_isShaded rfl rfl ?_
  refine zw_geti ok_M_isShaded rfl fl_M_154 rfl rfl ?_
  rw [hR.2.1.1]
  refine zw_istore_n ok_M_isShaded rfl rfl (by decide) ?_
  refine zw_iload_n ok_M_isShaded rfl rfl ?_
  refine zw_if_ne 13 ok_M_isShaded rfl (by decide) (by omega) (fun h6 => ?_) (fun h6 => ?_)
  · refine zw_iload_n ok_M_isShaded rfl rfl ?_
    refine zw_iconst ok_M_isShaded rfl ?_
    refine zw_icmp_ne 23 ok_M_isShaded rfl (by decide) (by omega) (fun h15 => ?_) (fun h15 => ?_)
    · refine zw_sipush ok_M_isShaded rfl (by decide) ?_
      refine zw_istore_n ok_M_isShaded rfl rfl (by decide) ?_
      refine zw_iconst ok_M_isShaded rfl ?_
      refine zw_istore ok_M_isShaded rfl rfl (by decide) ?_
      exact sh2_loop hR 9216 0 mem (by omega) (by omega) shf.rf hR.2.1.1 (fun m2 r hr q1 q2 q3 => ⟨by rw [hr], ⟨q1, q2⟩, by rw [← hr]; exact q3⟩)
    · exfalso; omega
  · exfalso; omega
theorem sh_row {m : zMem} {w x y : Int} (h : m 63 0 = x ∧ m 63 1 = y) (hw : 0 ≤ w ∧ w ≤ 1) : m 63 w = if w = 0 then x else y := by
  by_cases e : w = 0
  · subst e; rw [if_pos rfl]; exact h.1
  · have e1 : w = 1 := by omega
    subst e1; rw [if_neg e]; exact h.2
theorem ct_M_shadeOf {w : Int} (hR : MRv mem τ (-1) 0) (hw : -1 ≤ w ∧ w ≤ 1) : zCi m_M_shadeOf [vr 48, vi w] mem (if w = -1 then (shdT τ (aHid τ 0)).1 else if w = 0 then (shdT τ (aHid τ 0)).2.1 else (shdT τ (aHid τ 0)).2.2) (fun m2 => shf mem m2 (τ 2 3) ∧ m2 48 13 = τ 2 3) := by
  refine zCt.of [some (vr 48), some (vi w), none] ok_M_shadeOf (Nat.le_of_ble_eq_true rfl) rfl ?_
  have hP := aP_b hR.1
  rw [← shAll_eq hP]
  unfold shAll
  have k0 := ct_sh0 hR
  by_cases g0 : Gn τ (aHid τ 0) = 0
  · rw [decide_eq_true g0] at k0
    rw [if_pos g0]
    refine zw_iconst ok_M_shadeOf rfl ?_
    refine zw_istore_n ok_M_shadeOf rfl rfl (by decide) ?_
    refine zw_iload_n ok_M_shadeOf rfl rfl ?_
    refine zw_iconst ok_M_shadeOf rfl ?_
    refine zw_icmp_ge 46 ok_M_shadeOf rfl (by decide) (by omega) (fun h4 => ?_) (fun h4 => ?_)
    · exfalso; omega
    · refine zw_aload_n ok_M_shadeOf rfl rfl ?_
      refine zw_iload_n ok_M_shadeOf rfl rfl ?_
      refine zw_Vb ok_M_shadeOf rfl ok_M_isShaded lk_M_244 (by decide) rfl rfl (Nat.le_of_ble_eq_true rfl) (k0) (fun m9 h9 => ?_)
      refine zw_ifeq_b 40 ok_M_shadeOf rfl (by decide) (fun h12 => ?_) (fun h12 => ?_)
      · cases h12
      · refine zw_iload_n ok_M_shadeOf rfl rfl ?_
        refine zw_iconst ok_M_shadeOf rfl ?_
        refine zw_icmp_ne 24 ok_M_shadeOf rfl (by decide) (by omega) (fun h17 => ?_) (fun h17 => ?_)
        · rw [if_neg h17]
          refine zw_iload_n ok_M_shadeOf rfl rfl ?_
          refine zw_iload_n ok_M_shadeOf rfl rfl ?_
          refine zw_icmp_ge 38 ok_M_shadeOf rfl (by decide) (by omega) (fun h26 => ?_) (fun h26 => ?_)
          · refine zw_iconst ok_M_shadeOf rfl ?_
            exact zw_iret ok_M_shadeOf rfl rfl (⟨by first | rfl | (split <;> rfl), h9⟩)
          · exfalso; omega
        · rw [if_pos h17]
          refine zw_iload_n ok_M_shadeOf rfl rfl ?_
          refine zw_goto 39 ok_M_shadeOf rfl (by decide) ?_
          exact zw_iret ok_M_shadeOf rfl rfl (⟨by first | rfl | (split <;> rfl), h9⟩)
  · rw [decide_eq_false g0] at k0
    rw [if_neg g0]
    have t2 : ∀ m1, shf mem m1 (τ 2 3) → m1 48 13 = τ 2 3 → fst1 (p1 τ (aHid τ 0)) 96 0 = -1 → AW m_M_shadeOf 2 [some (vr 48), some (vi w), some (vi (0 + 1 + 1))] [] m1 (fun r m2 => r = some (vi (if w = -1 then (if fst1 (p2 τ (aHid τ 0)) 9216 0 ≠ -1 then ((2 : Int), fst1 (p2 τ (aHid τ 0)) 9216 0 / 96, fst1 (p2 τ (aHid τ 0)) 9216 0 % 96) else (-1, -1, -1)).1 else if w = 0 then (if fst1 (p2 τ (aHid τ 0)) 9216 0 ≠ -1 then ((2 : Int), fst1 (p2 τ (aHid τ 0)) 9216 0 / 96, fst1 (p2 τ (aHid τ 0)) 9216 0 % 96) else (-1, -1, -1)).2.1 else (if fst1 (p2 τ (aHid τ 0)) 9216 0 ≠ -1 then ((2 : Int), fst1 (p2 τ (aHid τ 0)) 9216 0 / 96, fst1 (p2 τ (aHid τ 0)) 9216 0 % 96) else (-1, -1, -1)).2.2)) ∧ shf mem m2 (τ 2 3) ∧ m2 48 13 = τ 2 3) := by
      intro m1 f1 g1 hn
      have k2 := ct_sh2 (MRv_shf f1 g1 hR)
      by_cases g2 : fst1 (p2 τ (aHid τ 0)) 9216 0 ≠ -1
      · rw [decide_eq_true g2] at k2
        rw [if_pos g2]
        have k2 : zCb m_M_isShaded [vr 48, vi (0 + 1 + 1)] m1 true _ := k2
        refine zw_iload_n ok_M_shadeOf rfl rfl ?_
        refine zw_iconst ok_M_shadeOf rfl ?_
        refine zw_icmp_ge 46 ok_M_shadeOf rfl (by decide) (by omega) (fun h4 => ?_) (fun h4 => ?_)
        · exfalso; omega
        · refine zw_aload_n ok_M_shadeOf rfl rfl ?_
          refine zw_iload_n ok_M_shadeOf rfl rfl ?_
          refine zw_Vb ok_M_shadeOf rfl ok_M_isShaded lk_M_244 (by decide) rfl rfl (Nat.le_of_ble_eq_true rfl) (k2) (fun m9 h9 => ?_)
          have q := h9.2 g2
          have fr := f1.tr h9.1.1
          refine zw_ifeq_b 40 ok_M_shadeOf rfl (by decide) (fun h12 => ?_) (fun h12 => ?_)
          · cases h12
          · refine zw_iload_n ok_M_shadeOf rfl rfl ?_
            refine zw_iconst ok_M_shadeOf rfl ?_
            refine zw_icmp_ne 24 ok_M_shadeOf rfl (by decide) (by omega) (fun h17 => ?_) (fun h17 => ?_)
            · rw [if_neg h17]
              refine zw_iload_n ok_M_shadeOf rfl rfl ?_
              refine zw_iload_n ok_M_shadeOf rfl rfl ?_
              refine zw_icmp_ge 38 ok_M_shadeOf rfl (by decide) (by omega) (fun h26 => ?_) (fun h26 => ?_)
              · exfalso; omega
              · refine zw_aload_n ok_M_shadeOf rfl rfl ?_
                refine zw_getr ok_M_shadeOf rfl fl_M_52 rfl rfl ?_
                refine zw_iload_n ok_M_shadeOf rfl rfl ?_
                have ew : m9 63 w = (if w = 0 then fst1 (p2 τ (aHid τ 0)) 9216 0 / 96 else fst1 (p2 τ (aHid τ 0)) 9216 0 % 96) := sh_row q (by omega)
                refine zw_iald ok_M_shadeOf rfl rfl (by omega) ?_
                refine zw_goto 39 ok_M_shadeOf rfl (by decide) ?_
                exact zw_iret ok_M_shadeOf rfl rfl (⟨by first | rfl | rw [ew], fr, h9.1.2⟩)
            · rw [if_pos h17]
              refine zw_iload_n ok_M_shadeOf rfl rfl ?_
              refine zw_goto 39 ok_M_shadeOf rfl (by decide) ?_
              exact zw_iret ok_M_shadeOf rfl rfl (⟨by first | rfl | rw [ew], fr, h9.1.2⟩)
      · rw [decide_eq_false g2] at k2
        rw [if_neg g2]
        have k2 : zCb m_M_isShaded [vr 48, vi (0 + 1 + 1)] m1 false _ := k2
        have fin : ∀ m9, shf mem m9 (τ 2 3) → m9 48 13 = τ 2 3 → AW m_M_shadeOf 2 [some (vr 48), some (vi w), some (vi (0 + 1 + 1 + 1))] [] m9 (fun r m2 => r = some (vi (if w = -1 then ((-1 : Int), (-1 : Int), (-1 : Int)).1 else if w = 0 then ((-1 : Int), (-1 : Int), (-1 : Int)).2.1 else ((-1 : Int), (-1 : Int), (-1 : Int)).2.2)) ∧ shf mem m2 (τ 2 3) ∧ m2 48 13 = τ 2 3) := by
          intro m9 q1 q2
          refine zw_iload_n ok_M_shadeOf rfl rfl ?_
          refine zw_iconst ok_M_shadeOf rfl ?_
          refine zw_icmp_ge 46 ok_M_shadeOf rfl (by decide) (by omega) (fun h4 => ?_) (fun h4 => ?_)
          · refine zw_iconst ok_M_shadeOf rfl ?_
            exact zw_iret ok_M_shadeOf rfl rfl (⟨by (repeat' split) <;> rfl, q1, q2⟩)
          · exfalso; omega
        refine zw_iload_n ok_M_shadeOf rfl rfl ?_
        refine zw_iconst ok_M_shadeOf rfl ?_
        refine zw_icmp_ge 46 ok_M_shadeOf rfl (by decide) (by omega) (fun h4 => ?_) (fun h4 => ?_)
        · exfalso; omega
        · refine zw_aload_n ok_M_shadeOf rfl rfl ?_
          refine zw_iload_n ok_M_shadeOf rfl rfl ?_
          refine zw_Vb ok_M_shadeOf rfl ok_M_isShaded lk_M_244 (by decide) rfl rfl (Nat.le_of_ble_eq_true rfl) (k2) (fun m9 h9 => ?_)
          refine zw_ifeq_b 40 ok_M_shadeOf rfl (by decide) (fun h12 => ?_) (fun h12 => ?_)
          · refine zw_iinc ok_M_shadeOf rfl rfl rfl (by decide) ?_
            refine zw_goto 2 ok_M_shadeOf rfl (by decide) ?_
            exact fin _ (f1.tr h9.1.1) h9.1.2
          · cases h12
    have t1 : ∀ m1, shf mem m1 (τ 2 3) → m1 48 13 = τ 2 3 → AW m_M_shadeOf 2 [some (vr 48), some (vi w), some (vi (0 + 1))] [] m1 (fun r m2 => r = some (vi (if w = -1 then (if fst1 (p1 τ (aHid τ 0)) 96 0 ≠ -1 then ((1 : Int), fst1 (p1 τ (aHid τ 0)) 96 0, (-1 : Int)) else if fst1 (p2 τ (aHid τ 0)) 9216 0 ≠ -1 then ((2 : Int), fst1 (p2 τ (aHid τ 0)) 9216 0 / 96, fst1 (p2 τ (aHid τ 0)) 9216 0 % 96) else (-1, -1, -1)).1 else if w = 0 then (if fst1 (p1 τ (aHid τ 0)) 96 0 ≠ -1 then ((1 : Int), fst1 (p1 τ (aHid τ 0)) 96 0, (-1 : Int)) else if fst1 (p2 τ (aHid τ 0)) 9216 0 ≠ -1 then ((2 : Int), fst1 (p2 τ (aHid τ 0)) 9216 0 / 96, fst1 (p2 τ (aHid τ 0)) 9216 0 % 96) else (-1, -1, -1)).2.1 else (if fst1 (p1 τ (aHid τ 0)) 96 0 ≠ -1 then ((1 : Int), fst1 (p1 τ (aHid τ 0)) 96 0, (-1 : Int)) else if fst1 (p2 τ (aHid τ 0)) 9216 0 ≠ -1 then ((2 : Int), fst1 (p2 τ (aHid τ 0)) 9216 0 / 96, fst1 (p2 τ (aHid τ 0)) 9216 0 % 96) else (-1, -1, -1)).2.2)) ∧ shf mem m2 (τ 2 3) ∧ m2 48 13 = τ 2 3) := by
      intro m1 f1 g1
      have k1 := ct_sh1 (MRv_shf f1 g1 hR)
      by_cases g2 : fst1 (p1 τ (aHid τ 0)) 96 0 ≠ -1
      · rw [decide_eq_true g2] at k1
        rw [if_pos g2]
        have k1 : zCb m_M_isShaded [vr 48, vi (0 + 1)] m1 true _ := k1
        refine zw_iload_n ok_M_shadeOf rfl rfl ?_
        refine zw_iconst ok_M_shadeOf rfl ?_
        refine zw_icmp_ge 46 ok_M_shadeOf rfl (by decide) (by omega) (fun h4 => ?_) (fun h4 => ?_)
        · exfalso; omega
        · refine zw_aload_n ok_M_shadeOf rfl rfl ?_
          refine zw_iload_n ok_M_shadeOf rfl rfl ?_
          refine zw_Vb ok_M_shadeOf rfl ok_M_isShaded lk_M_244 (by decide) rfl rfl (Nat.le_of_ble_eq_true rfl) (k1) (fun m9 h9 => ?_)
          have q := h9.2 g2
          have fr := f1.tr h9.1.1
          refine zw_ifeq_b 40 ok_M_shadeOf rfl (by decide) (fun h12 => ?_) (fun h12 => ?_)
          · cases h12
          · refine zw_iload_n ok_M_shadeOf rfl rfl ?_
            refine zw_iconst ok_M_shadeOf rfl ?_
            refine zw_icmp_ne 24 ok_M_shadeOf rfl (by decide) (by omega) (fun h17 => ?_) (fun h17 => ?_)
            · rw [if_neg h17]
              refine zw_iload_n ok_M_shadeOf rfl rfl ?_
              refine zw_iload_n ok_M_shadeOf rfl rfl ?_
              refine zw_icmp_ge 38 ok_M_shadeOf rfl (by decide) (by omega) (fun h26 => ?_) (fun h26 => ?_)
              · rw [if_neg (by omega)]
                refine zw_iconst ok_M_shadeOf rfl ?_
                exact zw_iret ok_M_shadeOf rfl rfl (⟨by first | rfl | rw [ew], fr, h9.1.2⟩)
              · rw [if_pos (by omega)]
                refine zw_aload_n ok_M_shadeOf rfl rfl ?_
                refine zw_getr ok_M_shadeOf rfl fl_M_52 rfl rfl ?_
                refine zw_iload_n ok_M_shadeOf rfl rfl ?_
                have ew : m9 63 w = fst1 (p1 τ (aHid τ 0)) 96 0 := by rw [show w = 0 by omega]; exact q
                refine zw_iald ok_M_shadeOf rfl rfl (by omega) ?_
                refine zw_goto 39 ok_M_shadeOf rfl (by decide) ?_
                exact zw_iret ok_M_shadeOf rfl rfl (⟨by first | rfl | rw [ew], fr, h9.1.2⟩)
            · rw [if_pos h17]
              refine zw_iload_n ok_M_shadeOf rfl rfl ?_
              refine zw_goto 39 ok_M_shadeOf rfl (by decide) ?_
              exact zw_iret ok_M_shadeOf rfl rfl (⟨by first | rfl | rw [ew], fr, h9.1.2⟩)
      · rw [decide_eq_false g2] at k1
        rw [if_neg g2]
        have k1 : zCb m_M_isShaded [vr 48, vi (0 + 1)] m1 false _ := k1
        refine zw_iload_n ok_M_shadeOf rfl rfl ?_
        refine zw_iconst ok_M_shadeOf rfl ?_
        refine zw_icmp_ge 46 ok_M_shadeOf rfl (by decide) (by omega) (fun h4 => ?_) (fun h4 => ?_)
        · exfalso; omega
        · refine zw_aload_n ok_M_shadeOf rfl rfl ?_
          refine zw_iload_n ok_M_shadeOf rfl rfl ?_
          refine zw_Vb ok_M_shadeOf rfl ok_M_isShaded lk_M_244 (by decide) rfl rfl (Nat.le_of_ble_eq_true rfl) (k1) (fun m9 h9 => ?_)
          refine zw_ifeq_b 40 ok_M_shadeOf rfl (by decide) (fun h12 => ?_) (fun h12 => ?_)
          · refine zw_iinc ok_M_shadeOf rfl rfl rfl (by decide) ?_
            refine zw_goto 2 ok_M_shadeOf rfl (by decide) ?_
            exact t2 _ (f1.tr h9.1.1) h9.1.2 (Decidable.byContradiction g2)
          · cases h12
    refine zw_iconst ok_M_shadeOf rfl ?_
    refine zw_istore_n ok_M_shadeOf rfl rfl (by decide) ?_
    refine zw_iload_n ok_M_shadeOf rfl rfl ?_
    refine zw_iconst ok_M_shadeOf rfl ?_
    refine zw_icmp_ge 46 ok_M_shadeOf rfl (by decide) (by omega) (fun h4 => ?_) (fun h4 => ?_)
    · exfalso; omega
    · refine zw_aload_n ok_M_shadeOf rfl rfl ?_
      refine zw_iload_n ok_M_shadeOf rfl rfl ?_
      refine zw_Vb ok_M_shadeOf rfl ok_M_isShaded lk_M_244 (by decide) rfl rfl (Nat.le_of_ble_eq_true rfl) (k0) (fun m9 h9 => ?_)
      refine zw_ifeq_b 40 ok_M_shadeOf rfl (by decide) (fun h12 => ?_) (fun h12 => ?_)
      · refine zw_iinc ok_M_shadeOf rfl rfl rfl (by decide) ?_
        refine zw_goto 2 ok_M_shadeOf rfl (by decide) ?_
        exact t1 _ h9.1 h9.2
      · cases h12
theorem ct_M_shade {w : Int} (hI : MI mem τ) (hw : zR w) : zCi m_M_shade [vr 48, vi w] mem (qShade τ w) (fun m2 => MI m2 τ ∧ ref47 mem m2) := by
  refine zCt.of [some (vr 48), some (vi w)] ok_M_shade (Nat.le_of_ble_eq_true rfl) rfl ?_
  unfold qShade
  by_cases hg : -1 ≤ w ∧ w ≤ 1
  · rw [if_pos hg]
    refine zw_aload_n ok_M_shade rfl rfl ?_
    refine zw_Vv ok_M_shade rfl ok_M_reads lk_M_140 (by decide) rfl rfl (Nat.le_of_ble_eq_true rfl) (ct_M_reads hI) (fun m1 h1 => ?_)
    refine zw_iload_n ok_M_shade rfl rfl ?_
    refine zw_i2l ok_M_shade rfl (by omega) ?_
    refine zw_ldc2 ok_M_shade rfl kc_M_247 ?_
    refine zw_lconst1 ok_M_shade rfl ?_
    refine zw_Sbp ok_M_shade rfl ok_M_in lk_M_70 (by decide) rfl (Nat.le_of_ble_eq_true rfl) (ct_M_in (by omega)) ?_
    first | refine zw_ifeq_d 24 ok_M_shade rfl (by decide) (fun h13 => ?_) (fun h13 => ?_) | refine zw_ifeq_b 24 ok_M_shade rfl (by decide) (fun h13 => ?_) (fun h13 => ?_) | refine zw_if_eq 24 ok_M_shade rfl (by decide) (by omega) (fun h13 => ?_) (fun h13 => ?_)
    · exact absurd hg h13
    · refine zw_aload_n ok_M_shade rfl rfl ?_
      refine zw_iload_n ok_M_shade rfl rfl ?_
      refine zw_Vi ok_M_shade rfl ok_M_shadeOf lk_M_249 (by decide) rfl rfl (Nat.le_of_ble_eq_true rfl) (ct_M_shadeOf h1.1.2.1 hg) (fun m18 h18 => ?_)
      refine zw_goto 26 ok_M_shade rfl (by decide) ?_
      exact zw_iret ok_M_shade rfl rfl (⟨rfl, MI_shf h18.1 h18.2 h1.1.1, (h1.2.r47 (by decide)).tr (h18.1.1.r47 (by decide))⟩)
  · rw [if_neg hg]
    refine zw_aload_n ok_M_shade rfl rfl ?_
    refine zw_Vv ok_M_shade rfl ok_M_reads lk_M_140 (by decide) rfl rfl (Nat.le_of_ble_eq_true rfl) (ct_M_reads hI) (fun m1 h1 => ?_)
    refine zw_iload_n ok_M_shade rfl rfl ?_
    refine zw_i2l ok_M_shade rfl (by omega) ?_
    refine zw_ldc2 ok_M_shade rfl kc_M_247 ?_
    refine zw_lconst1 ok_M_shade rfl ?_
    refine zw_Sbp ok_M_shade rfl ok_M_in lk_M_70 (by decide) rfl (Nat.le_of_ble_eq_true rfl) (ct_M_in (by omega)) ?_
    first | refine zw_ifeq_d 24 ok_M_shade rfl (by decide) (fun h13 => ?_) (fun h13 => ?_) | refine zw_ifeq_b 24 ok_M_shade rfl (by decide) (fun h13 => ?_) (fun h13 => ?_) | refine zw_if_eq 24 ok_M_shade rfl (by decide) (by omega) (fun h13 => ?_) (fun h13 => ?_)
    · refine zw_bipush ok_M_shade rfl (by decide) ?_
      exact zw_iret ok_M_shade rfl rfl (⟨rfl, MIr h1.2 hI⟩)
    · exact absurd h13 hg
end
