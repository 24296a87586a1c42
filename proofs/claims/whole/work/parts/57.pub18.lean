/-! ===== LowerBows: pass ===== -/
section
variable {mem m2 τ τ2 : zMem} {Q : Option zVal → zMem → Prop}
theorem bits_tb {nv : Int → Bool} {i : Int} (hi : 0 ≤ i ∧ i < 32) : ∀ (k : Nat) (j b : Int), 0 ≤ j → j + k ≤ 32 → tb (lp (bitsS nv) k j b) i.toNat = (tb b i.toNat || decide (j ≤ i ∧ i < j + k ∧ nv i = true))
  | 0, j, b, _, _ => by
    have : ¬ (j ≤ i ∧ i < j + ((0 : Nat) : Int) ∧ nv i = true) := by omega
    rw [decide_eq_false this, Bool.or_false]; rfl
  | k + 1, j, b, h0, h1 => by
    rw [lp_s, bits_tb hi k (j + 1) _ (by omega) (by omega)]
    unfold bitsS
    by_cases e : i = j
    · subst e
      have n1 : ¬ (i + 1 ≤ i ∧ i < i + 1 + (k : Int) ∧ nv i = true) := by omega
      rw [decide_eq_false n1, Bool.or_false]
      split
      · rename_i hn
        have n2 : i ≤ i ∧ i < i + ((k + 1 : Nat) : Int) ∧ nv i = true := ⟨by omega, by omega, hn⟩
        rw [decide_eq_true n2, tb_or, tb_shl1 (by omega) (by omega)]
        simp
      · rename_i hn
        have n2 : ¬ (i ≤ i ∧ i < i + ((k + 1 : Nat) : Int) ∧ nv i = true) := fun q => hn q.2.2
        rw [decide_eq_false n2, Bool.or_false]
    · have e1 : tb (if nv j = true then zor b (zshl 1 j) else b) i.toNat = tb b i.toNat := by
        split
        · rw [tb_or, tb_shl1 (by omega) (by omega)]
          have : ¬ i.toNat = j.toNat := by omega
          simp [this]
        · rfl
      rw [e1]
      congr 1
      apply decide_eq_decide.mpr
      constructor
      · intro q; exact ⟨by omega, by omega, q.2.2⟩
      · intro q; exact ⟨by omega, by omega, q.2.2⟩
theorem ga_ext {b p : Int} {f g : Int → Int} (h : ∀ i, 0 ≤ i → i < 12 → tb b i.toNat = true → f (i * 8 + p) = g (i * 8 + p)) : lp (gaS b f p) 12 0 0 = lp (gaS b g p) 12 0 0 := by
  refine lp_congr 12 0 0 (fun k x k0 k1 => ?_)
  unfold gaS
  by_cases hk : tb b k.toNat = true
  · rw [if_pos hk, if_pos hk]
    congr 1
    refine lp_congr 12 0 0 (fun j n j0 j1 => ?_)
    unfold alkS
    by_cases hj : tb b j.toNat = true
    · rw [h j j0 (by omega) hj, h k k0 (by omega) hk]
    · rw [if_neg (fun q => hj q.1), if_neg (fun q => hj q.1)]
  · rw [if_neg hk, if_neg hk]
/-- how low who bows at most, without an old bow: at 8 times the old bow, and who -/
def lwT (τ : zMem) (i : Int) : Int := (aSim τ (i / 8) 0 12).2.1 (i % 8)
def qPass (τ : zMem) : Int := (lp (passS (nevO τ) (lwT τ)) (aP τ).toNat 0 (13, -1)).2
theorem lwT_at {k p : Int} (hp : 0 ≤ p ∧ p < 8) : lwT τ (k * 8 + p) = (aSim τ k 0 12).2.1 p := by
  unfold lwT
  rw [show (k * 8 + p) / 8 = k by omega, show (k * 8 + p) % 8 = p by omega]
theorem sim_low (hI : CI mem τ) (ol ll : Int) {n : Nat} (hn : n ≤ 12) {p : Int} (hp : 0 ≤ p ∧ p < aP τ) : 0 ≤ (aSim τ ol ll n).2.1 p ∧ (aSim τ ol ll n).2.1 p ≤ 99 := by
  have h1 := simT hI ol ll hn (mem 25, mem 26, mem 27) (mem 28) (mem 29)
  have h2 := simC_inv (L := (mem 25, mem 26, mem 27)) (s := (mem 28, mem 29, mem 24 9, mem 24 10, mem 24 11, mem 24 12)) (ol := ol) (ll := ll) (n := n) (okC_CI hI)
  rw [eP_CI hI] at h2
  have h3 := h2.2.1 p hp.1 hp.2
  unfold simC at h3
  rw [h1.2.1 p hp.1 hp.2] at h3
  exact h3
theorem ct_pass (hI : CI mem τ) : zCi m_Cl_nextToPass [vr 35] mem (qPass τ) (fun m2 => zfr scr mem m2) := by
  have hb := hI.1.1.2.2.1
  have e12 := hI.2.2.2.1.1
  have eP := eP_CI hI
  have hP := isP_CI hI
  have bt : ∀ i, 0 ≤ i → i < 12 → tb (nevO τ) i.toNat = true → i < τ 2 2 ∧ nvT τ i 0 = true := by
    intro i h0 h1 h
    unfold nevO at h
    rw [bits_tb (by omega) _ _ _ (by omega) (by omega), tb_0, Bool.false_or] at h
    have h := of_decide_eq_true h
    exact ⟨by omega, h.2.2⟩
  have key := ct_Cl_nextToPass (mem := mem) (L := (mem 25, mem 26, mem 27)) (s := (mem 28, mem 29, mem 24 9, mem 24 10, mem 24 11, mem 24 12)) (nv := fun k => nvT τ k 0) (lw := fun k => (aSim τ k 0 12).2.1) (pr := qPass τ) (okC_CI hI) (sgh_CI hI) (fun k _ _ => nv_T hI k 0)
    (fun k p _ _ _ p0 p1 => sim_low hI k 0 (by omega) ⟨p0, by rw [← eP]; exact p1⟩)
    (fun i h0 h1 h => by rw [e12] at h ⊢; exact bt i h0 h1 h)
    (fun f hf => by
      rw [e12, eP]
      show (lp (passS (nevO τ) f) (aP τ).toNat 0 (13, -1)).2 = _
      unfold qPass
      rw [lp_congr (f := passS (nevO τ) f) (g := passS (nevO τ) (lwT τ)) (aP τ).toNat 0 (13, -1) (fun p x p0 p1 => ?_)]
      have hp8 : 0 ≤ p ∧ p < mem 5 4 := by rw [eP]; exact ⟨p0, by rw [eP] at hP; omega⟩
      unfold passS
      rw [ga_ext (f := f) (g := lwT τ) (fun i h0 h1 h => ?_)]
      have := bt i h0 h1 h
      rw [lwT_at (by omega), hf i p h0 (by rw [e12]; exact this.1) this.2 hp8.1 hp8.2])
  rw [putC_self] at key
  exact key
theorem ct_B_pass (hI : CI mem τ) : zCi m_B_pass [vr 0] mem (qPass τ) (fun m2 => CI m2 τ ∧ cls48 mem m2) := by
  refine zCt.of [some (vr 0)] ok_B_pass (Nat.le_of_ble_eq_true rfl) rfl ?_
  refine zw_aload_n ok_B_pass rfl rfl ?_
  refine zw_getr ok_B_pass rfl fl_B_78 rfl rfl ?_
  refine zw_Vi ok_B_pass rfl ok_Cl_nextToPass lk_B_224 (by decide) rfl rfl (Nat.le_of_ble_eq_true rfl) (ct_pass hI) (fun m4 h4 => ?_)
  exact zw_iret ok_B_pass rfl rfl (⟨rfl, scr_J hI h4⟩)
end
