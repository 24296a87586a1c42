/-! ===== LowerBows: rings ===== -/
section
variable {mem m2 τ τ2 : zMem} {Q : Option zVal → zMem → Prop}
def rgT (τ : zMem) (d : Int → Int) (a b c : Int) : Bool := decide ((0 < aDebt τ d a b ∧ 0 < aDebt τ d b c ∧ 0 < aDebt τ d c a) ∨ (0 < aDebt τ d b a ∧ 0 < aDebt τ d c b ∧ 0 < aDebt τ d a c))
def r3 (τ : zMem) (d : Int → Int) (a b c : Int) (x : Int × Int) : Int × Int := if rgT τ d a b c = true then (x.1 + 1, if x.1 = 0 then 64 * a + 8 * b + c else x.2) else x
def r2 (τ : zMem) (d : Int → Int) (a b : Int) (x : Int × Int) : Int × Int := lp (r3 τ d a b) (aP τ - (b + 1)).toNat (b + 1) x
def r1 (τ : zMem) (d : Int → Int) (a : Int) (x : Int × Int) : Int × Int := lp (r2 τ d a) (aP τ - (a + 1)).toNat (a + 1) x
def rgS (τ : zMem) (d : Int → Int) : Int × Int := lp (r1 τ d) (aP τ).toNat 0 (0, -1)
def qRings (τ : zMem) (h w : Int) : Int := if (0 ≤ h ∧ h ≤ 11) ∧ (0 ≤ w ∧ w ≤ 1) then (if w = 0 then (rgS τ (aTold τ h).1).1 else (rgS τ (aTold τ h).1).2) else -2
theorem rg_T {s t : zS} {a b c : Int} (hI : CI mem τ) (ha : 0 ≤ a) (hab : a < b) (hbc : b < c) (hc : c < aP τ) (he : eqP (aP τ) s t) : ringS (mem 5 5) s.1 a b c ↔ rgT τ t.1 a b c = true := by
  unfold ringS rgT
  rw [debtT hI (by omega) (by omega) (by omega) he.1, debtT hI (by omega) (by omega) (by omega) he.1, debtT hI (by omega) (by omega) (by omega) he.1, debtT hI (by omega) (by omega) (by omega) he.1, debtT hI (by omega) (by omega) (by omega) he.1, debtT hI (by omega) (by omega) (by omega) he.1, decide_eq_true_eq]
theorem rg3 {L : zL} {s t : zS} {h w a b : Int} (hI : CI mem τ) (he : eqP (aP τ) s t) (hs : sInv (aP τ) s) (hP : 0 ≤ aP τ ∧ aP τ ≤ 8) (ha : 0 ≤ a) (hab : a < b) (hb : b < aP τ) :
    ∀ (k : Nat) (c : Int) (x : Int × Int), b < c → c + k = aP τ → (0 ≤ x.1 ∧ x.1 ≤ 64 * a + 8 * b + c) → (∀ y, y = lp (r3 τ t.1 a b) k c x → (0 ≤ y.1 ∧ y.1 ≤ 64 * a + 8 * b + 8) → AW m_B_rings 133 [some (vr 0), some (vi h), some (vi w), some (vi y.1), some (vi y.2), some (vi a), some (vi b), none] [] (putC mem L s) Q) → AW m_B_rings 71 [some (vr 0), some (vi h), some (vi w), some (vi x.1), some (vi x.2), some (vi a), some (vi b), some (vi c)] [] (putC mem L s) Q := by
  intro k
  have eP := eP_CI hI
  have hC5 : putC mem L s 5 4 = aP τ := by rw [putC_ne (by omega)]; exact eP
  induction k with
  | zero =>
    intro c x hbc hk hx hQ
    refine zw_iload ok_B_rings rfl rfl ?_
    refine zw_aload_n ok_B_rings rfl rfl ?_
    refine zw_getr ok_B_rings rfl fl_B_24 rfl rfl ?_
    refine zw_geti ok_B_rings rfl fl_B_200 rfl rfl ?_
    rw [hC5]
    refine zw_icmp_ge 133 ok_B_rings rfl (by decide) (by omega) (fun h80 => ?_) (fun h80 => ?_)
    · refine zw_mask [true, true, true, true, true, true, true, false] rfl ?_
      exact hQ x rfl (by omega)
    · exfalso; omega
  | succ k ih =>
    intro c x hbc hk hx hQ
    rw [lp_s] at hQ
    have hr := rg_T hI ha hab hbc (by omega) he
    have K : ∀ u v : Int, (0 ≤ u ∧ u ≤ 64 * a + 8 * b + (c + 1)) → (∀ y, y = lp (r3 τ t.1 a b) k (c + 1) (u, v) → (0 ≤ y.1 ∧ y.1 ≤ 64 * a + 8 * b + 8) → AW m_B_rings 133 [some (vr 0), some (vi h), some (vi w), some (vi y.1), some (vi y.2), some (vi a), some (vi b), none] [] (putC mem L s) Q) → AW m_B_rings 127 [some (vr 0), some (vi h), some (vi w), some (vi u), some (vi v), some (vi a), some (vi b), some (vi c)] [] (putC mem L s) Q := by
      intro u v hu hQ
      refine zw_iinc ok_B_rings rfl rfl rfl (by decide) ?_
      refine zw_goto 71 ok_B_rings rfl (by decide) ?_
      exact ih (c + 1) (u, v) (by omega) (by omega) hu hQ
    have J : ∀ z : Int, (z = 0 ∧ ¬ ringS (mem 5 5) s.1 a b c ∨ z = 1 ∧ ringS (mem 5 5) s.1 a b c) → AW m_B_rings 96 [some (vr 0), some (vi h), some (vi w), some (vi x.1), some (vi x.2), some (vi a), some (vi b), some (vi c)] [vi z] (putC mem L s) Q := by
      intro z hz
      have n1 : z = 0 → ¬ rgT τ t.1 a b c = true := by
        intro e q
        rcases hz with hz | hz
        · exact hz.2 (hr.2 q)
        · omega
      have n2 : ¬ z = 0 → rgT τ t.1 a b c = true := by
        intro e
        rcases hz with hz | hz
        · exact absurd hz.1 e
        · exact hr.1 hz.2
      refine zw_if_eq 127 ok_B_rings rfl (by decide) (by omega) (fun h96 => ?_) (fun h96 => ?_)
      · have e3 : r3 τ t.1 a b c x = x := by unfold r3; rw [if_neg (n1 h96)]
        rw [e3] at hQ
        exact K _ _ (by omega) hQ
      · have e3 : r3 τ t.1 a b c x = (x.1 + 1, if x.1 = 0 then 64 * a + 8 * b + c else x.2) := by unfold r3; rw [if_pos (n2 h96)]
        rw [e3] at hQ
        refine zw_iload_n ok_B_rings rfl rfl ?_
        refine zw_if_ne 120 ok_B_rings rfl (by decide) (by omega) (fun h100 => ?_) (fun h100 => ?_)
        · rw [if_neg h100] at hQ
          refine zw_iload ok_B_rings rfl rfl ?_
          refine zw_istore ok_B_rings rfl rfl (by decide) ?_
          refine zw_iinc ok_B_rings rfl rfl rfl (by decide) ?_
          exact K _ _ (by omega) hQ
        · rw [if_pos h100] at hQ
          refine zw_bipush ok_B_rings rfl (by decide) ?_
          refine zw_iload ok_B_rings rfl rfl ?_
          refine zw_imul ok_B_rings rfl ?_
          refine zw_bipush ok_B_rings rfl (by decide) ?_
          refine zw_iload ok_B_rings rfl rfl ?_
          refine zw_imul ok_B_rings rfl ?_
          refine zw_iadd ok_B_rings rfl ?_
          refine zw_iload ok_B_rings rfl rfl ?_
          refine zw_iadd ok_B_rings rfl ?_
          refine zw_goto 122 ok_B_rings rfl (by decide) ?_
          refine zw_istore ok_B_rings rfl rfl (by decide) ?_
          refine zw_iinc ok_B_rings rfl rfl rfl (by decide) ?_
          exact K _ _ (by omega) hQ
    refine zw_iload ok_B_rings rfl rfl ?_
    refine zw_aload_n ok_B_rings rfl rfl ?_
    refine zw_getr ok_B_rings rfl fl_B_24 rfl rfl ?_
    refine zw_geti ok_B_rings rfl fl_B_200 rfl rfl ?_
    rw [hC5]
    refine zw_icmp_ge 133 ok_B_rings rfl (by decide) (by omega) (fun h80 => ?_) (fun h80 => ?_)
    · exfalso; omega
    · refine zw_aload_n ok_B_rings rfl rfl ?_
      refine zw_getr ok_B_rings rfl fl_B_53 rfl rfl ?_
      refine zw_iload ok_B_rings rfl rfl ?_
      refine zw_iload ok_B_rings rfl rfl ?_
      refine zw_iload ok_B_rings rfl rfl ?_
      refine zw_callV ok_B_rings rfl ok_Co_isRing lk_B_201 (by decide) rfl rfl (Nat.le_of_ble_eq_true rfl) (ct_Co_isRing hP (by omega) (by omega) (by omega) hab hbc hs) (fun r m2 hz => ?_)
      obtain ⟨⟨z, hz, rfl⟩, rfl⟩ := hz
      exact J z hz
theorem rg2 {L : zL} {s t : zS} {h w a : Int} (hI : CI mem τ) (he : eqP (aP τ) s t) (hs : sInv (aP τ) s) (hP : 0 ≤ aP τ ∧ aP τ ≤ 8) (ha : 0 ≤ a) :
    ∀ (k : Nat) (b : Int) (x : Int × Int), a < b → b + k = aP τ → (0 ≤ x.1 ∧ x.1 ≤ 64 * a + 8 * b) → (∀ y, y = lp (r2 τ t.1 a) k b x → (0 ≤ y.1 ∧ y.1 ≤ 64 * a + 64) → AW m_B_rings 139 [some (vr 0), some (vi h), some (vi w), some (vi y.1), some (vi y.2), some (vi a), none, none] [] (putC mem L s) Q) → AW m_B_rings 53 [some (vr 0), some (vi h), some (vi w), some (vi x.1), some (vi x.2), some (vi a), some (vi b), none] [] (putC mem L s) Q := by
  intro k
  have eP := eP_CI hI
  have hC5 : putC mem L s 5 4 = aP τ := by rw [putC_ne (by omega)]; exact eP
  induction k with
  | zero =>
    intro b x hab hk hx hQ
    refine zw_iload ok_B_rings rfl rfl ?_
    refine zw_aload_n ok_B_rings rfl rfl ?_
    refine zw_getr ok_B_rings rfl fl_B_24 rfl rfl ?_
    refine zw_geti ok_B_rings rfl fl_B_200 rfl rfl ?_
    rw [hC5]
    refine zw_icmp_ge 139 ok_B_rings rfl (by decide) (by omega) (fun h62 => ?_) (fun h62 => ?_)
    · refine zw_mask [true, true, true, true, true, true, false, false] rfl ?_
      exact hQ x rfl (by omega)
    · exfalso; omega
  | succ k ih =>
    intro b x hab hk hx hQ
    rw [lp_s] at hQ
    have K : ∀ y : Int × Int, y = r2 τ t.1 a b x → (0 ≤ y.1 ∧ y.1 ≤ 64 * a + 8 * b + 8) → AW m_B_rings 133 [some (vr 0), some (vi h), some (vi w), some (vi y.1), some (vi y.2), some (vi a), some (vi b), none] [] (putC mem L s) Q := by
      intro y ey hy
      rw [← ey] at hQ
      refine zw_iinc ok_B_rings rfl rfl rfl (by decide) ?_
      refine zw_goto 53 ok_B_rings rfl (by decide) ?_
      exact ih (b + 1) y (by omega) (by omega) (by omega) hQ
    refine zw_iload ok_B_rings rfl rfl ?_
    refine zw_aload_n ok_B_rings rfl rfl ?_
    refine zw_getr ok_B_rings rfl fl_B_24 rfl rfl ?_
    refine zw_geti ok_B_rings rfl fl_B_200 rfl rfl ?_
    rw [hC5]
    refine zw_icmp_ge 139 ok_B_rings rfl (by decide) (by omega) (fun h62 => ?_) (fun h62 => ?_)
    · exfalso; omega
    · refine zw_iload ok_B_rings rfl rfl ?_
      refine zw_iconst ok_B_rings rfl ?_
      refine zw_iadd ok_B_rings rfl ?_
      refine zw_istore ok_B_rings rfl rfl (by decide) ?_
      exact rg3 hI he hs hP ha hab (by omega) (aP τ - (b + 1)).toNat (b + 1) x (by omega) (by omega) (by omega) K
theorem rg1 {L : zL} {s t : zS} {h w : Int} (hI : CI mem τ) (he : eqP (aP τ) s t) (hs : sInv (aP τ) s) (hP : 0 ≤ aP τ ∧ aP τ ≤ 8) :
    ∀ (k : Nat) (a : Int) (x : Int × Int), 0 ≤ a → a + k = aP τ → (0 ≤ x.1 ∧ x.1 ≤ 64 * a) → (∀ y, y = lp (r1 τ t.1) k a x → AW m_B_rings 145 [some (vr 0), some (vi h), some (vi w), some (vi y.1), some (vi y.2), none, none, none] [] (putC mem L s) Q) → AW m_B_rings 35 [some (vr 0), some (vi h), some (vi w), some (vi x.1), some (vi x.2), some (vi a), none, none] [] (putC mem L s) Q := by
  intro k
  have eP := eP_CI hI
  have hC5 : putC mem L s 5 4 = aP τ := by rw [putC_ne (by omega)]; exact eP
  induction k with
  | zero =>
    intro a x ha hk hx hQ
    refine zw_iload ok_B_rings rfl rfl ?_
    refine zw_aload_n ok_B_rings rfl rfl ?_
    refine zw_getr ok_B_rings rfl fl_B_24 rfl rfl ?_
    refine zw_geti ok_B_rings rfl fl_B_200 rfl rfl ?_
    rw [hC5]
    refine zw_icmp_ge 145 ok_B_rings rfl (by decide) (by omega) (fun h44 => ?_) (fun h44 => ?_)
    · refine zw_mask [true, true, true, true, true, false, false, false] rfl ?_
      exact hQ x rfl
    · exfalso; omega
  | succ k ih =>
    intro a x ha hk hx hQ
    rw [lp_s] at hQ
    have K : ∀ y : Int × Int, y = r1 τ t.1 a x → (0 ≤ y.1 ∧ y.1 ≤ 64 * a + 64) → AW m_B_rings 139 [some (vr 0), some (vi h), some (vi w), some (vi y.1), some (vi y.2), some (vi a), none, none] [] (putC mem L s) Q := by
      intro y ey hy
      rw [← ey] at hQ
      refine zw_iinc ok_B_rings rfl rfl rfl (by decide) ?_
      refine zw_goto 35 ok_B_rings rfl (by decide) ?_
      exact ih (a + 1) y (by omega) (by omega) (by omega) hQ
    refine zw_iload ok_B_rings rfl rfl ?_
    refine zw_aload_n ok_B_rings rfl rfl ?_
    refine zw_getr ok_B_rings rfl fl_B_24 rfl rfl ?_
    refine zw_geti ok_B_rings rfl fl_B_200 rfl rfl ?_
    rw [hC5]
    refine zw_icmp_ge 145 ok_B_rings rfl (by decide) (by omega) (fun h44 => ?_) (fun h44 => ?_)
    · exfalso; omega
    · refine zw_iload ok_B_rings rfl rfl ?_
      refine zw_iconst ok_B_rings rfl ?_
      refine zw_iadd ok_B_rings rfl ?_
      refine zw_istore ok_B_rings rfl rfl (by decide) ?_
      exact rg2 hI he hs hP ha (aP τ - (a + 1)).toNat (a + 1) x (by omega) (by omega) (by omega) K
theorem ct_B_rings {h w : Int} (hI : CI mem τ) (hh : zR h) (hw : zR w) : zCi m_B_rings [vr 0, vi h, vi w] mem (qRings τ h w) (fun m2 => CI m2 τ ∧ clsC mem m2) := by
  refine zCt.of [some (vr 0), some (vi h), some (vi w), none, none, none, none, none] ok_B_rings (Nat.le_of_ble_eq_true rfl) rfl ?_
  have hP := isP_CI hI
  rw [eP_CI hI] at hP
  unfold qRings
  by_cases hg : (0 ≤ h ∧ h ≤ 11) ∧ (0 ≤ w ∧ w ≤ 1)
  · rw [if_pos hg]
    have tl : ∀ (L : zL) (s : zS) (y : Int × Int), y = rgS τ (aTold τ h).1 → AW m_B_rings 145 [some (vr 0), some (vi h), some (vi w), some (vi y.1), some (vi y.2), none, none, none] [] (putC mem L s) (fun r m2 => r = some (vi (if w = 0 then (rgS τ (aTold τ h).1).1 else (rgS τ (aTold τ h).1).2)) ∧ CI m2 τ ∧ clsC mem m2) := by
      intro L s y ey
      rw [← ey]
      refine zw_iload_n ok_B_rings rfl rfl ?_
      refine zw_if_ne 153 ok_B_rings rfl (by decide) (by omega) (fun h146 => ?_) (fun h146 => ?_)
      · rw [if_neg h146]
        refine zw_iload ok_B_rings rfl rfl ?_
        exact zw_iret ok_B_rings rfl rfl (⟨rfl, CI_of (putC_scr zfr.rf) hI, fun k hk => putC_ne (by omega)⟩)
      · rw [if_pos h146]
        refine zw_iload_n ok_B_rings rfl rfl ?_
        refine zw_goto 155 ok_B_rings rfl (by decide) ?_
        exact zw_iret ok_B_rings rfl rfl (⟨rfl, CI_of (putC_scr zfr.rf) hI, fun k hk => putC_ne (by omega)⟩)
    refine zw_iload_n ok_B_rings rfl rfl ?_
    refine zw_Sbp ok_B_rings rfl ok_B_isHour lk_B_138 (by decide) rfl (Nat.le_of_ble_eq_true rfl) (ct_B_isHour (by omega)) ?_
    first | refine zw_ifeq_d 16 ok_B_rings rfl (by decide) (fun h4 => ?_) (fun h4 => ?_) | refine zw_ifeq_b 16 ok_B_rings rfl (by decide) (fun h4 => ?_) (fun h4 => ?_) | refine zw_if_eq 16 ok_B_rings rfl (by decide) (by omega) (fun h4 => ?_) (fun h4 => ?_)
    · exact absurd hg.1 h4
    · refine zw_iload_n ok_B_rings rfl rfl ?_
      refine zw_iconst ok_B_rings rfl ?_
      refine zw_iconst ok_B_rings rfl ?_
      refine zw_Sbp ok_B_rings rfl ok_B_within lk_B_100 (by decide) rfl (Nat.le_of_ble_eq_true rfl) (ct_B_within (by omega)) ?_
      first | refine zw_ifne_d 19 ok_B_rings rfl (by decide) (fun h13 => ?_) (fun h13 => ?_) | refine zw_ifne_b 19 ok_B_rings rfl (by decide) (fun h13 => ?_) (fun h13 => ?_) | refine zw_if_ne 19 ok_B_rings rfl (by decide) (by omega) (fun h13 => ?_) (fun h13 => ?_)
      · refine zw_aload_n ok_B_rings rfl rfl ?_
        refine zw_getr ok_B_rings rfl fl_B_53 rfl rfl ?_
        refine zw_iload_n ok_B_rings rfl rfl ?_
        refine zw_Vvp ok_B_rings rfl ok_Co_walkAsTold lk_B_167 (by decide) rfl rfl (Nat.le_of_ble_eq_true rfl) (ct_told hI hg.1) ?_
        have h24 := toldA (h := h) hI hg.1
        generalize toldM mem h = m24 at h24 ⊢
        obtain ⟨L, s, rfl, e2, e3⟩ := h24
        refine zw_iconst ok_B_rings rfl ?_
        refine zw_istore_n ok_B_rings rfl rfl (by decide) ?_
        refine zw_iconst ok_B_rings rfl ?_
        refine zw_istore ok_B_rings rfl rfl (by decide) ?_
        refine zw_iconst ok_B_rings rfl ?_
        refine zw_istore ok_B_rings rfl rfl (by decide) ?_
        exact rg1 hI e2 e3 hP (aP τ).toNat 0 (0, -1) (by omega) (by omega) ⟨Int.le_refl _, Int.le_refl _⟩ (tl L s)
      · exact absurd hg.2 h13
  · rw [if_neg hg]
    refine zw_iload_n ok_B_rings rfl rfl ?_
    refine zw_Sbp ok_B_rings rfl ok_B_isHour lk_B_138 (by decide) rfl (Nat.le_of_ble_eq_true rfl) (ct_B_isHour (by omega)) ?_
    first | refine zw_ifeq_d 16 ok_B_rings rfl (by decide) (fun h4 => ?_) (fun h4 => ?_) | refine zw_ifeq_b 16 ok_B_rings rfl (by decide) (fun h4 => ?_) (fun h4 => ?_) | refine zw_if_eq 16 ok_B_rings rfl (by decide) (by omega) (fun h4 => ?_) (fun h4 => ?_)
    · refine zw_bipush ok_B_rings rfl (by decide) ?_
      exact zw_iret ok_B_rings rfl rfl (⟨rfl, hI, fun _ _ => rfl⟩)
    · refine zw_iload_n ok_B_rings rfl rfl ?_
      refine zw_iconst ok_B_rings rfl ?_
      refine zw_iconst ok_B_rings rfl ?_
      refine zw_Sbp ok_B_rings rfl ok_B_within lk_B_100 (by decide) rfl (Nat.le_of_ble_eq_true rfl) (ct_B_within (by omega)) ?_
      first | refine zw_ifne_d 19 ok_B_rings rfl (by decide) (fun h13 => ?_) (fun h13 => ?_) | refine zw_ifne_b 19 ok_B_rings rfl (by decide) (fun h13 => ?_) (fun h13 => ?_) | refine zw_if_ne 19 ok_B_rings rfl (by decide) (by omega) (fun h13 => ?_) (fun h13 => ?_)
      · exact absurd ⟨h4, h13⟩ hg
      · refine zw_bipush ok_B_rings rfl (by decide) ?_
        exact zw_iret ok_B_rings rfl rfl (⟨rfl, hI, fun _ _ => rfl⟩)
end
