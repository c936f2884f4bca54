/-! ## a run of ticks -/
theorem cT_i {σ : Row} {n : Nat} {b : Int} (h : IP σ n b 0) : ∀ k, k ≤ n → 0 ≤ (cT k σ).toInt ∧ (cT k σ).toInt ≤ 360 * k := by
  intro k
  have hn := h.1.2
  induction k with
  | zero => intro _; exact ⟨Int.le_refl _, Int.le_refl _⟩
  | succ k ih =>
    intro hk
    have i := ih (by omega)
    have hc := (cF_IP h k (by omega)).ir.2.2.2 k (by omega)
    have d := nd_i (σ := cF k σ) (k := k) hc.2.1 hc.2.2.2.1
    show 0 ≤ (cT k σ + nd (cF k σ) k).toInt ∧ (cT k σ + nd (cF k σ) k).toInt ≤ _
    rw [t_add (by omega) (by omega)]
    omega
theorem nle {a b : Nat} (ha : a < 2147483648) (hb : b < 2147483648) : nI a ≤ nI b ↔ a ≤ b := by
  rw [t_le, t_lit a ha, t_lit b hb]; omega
theorem nlt {a b : Nat} (ha : a < 2147483648) (hb : b < 2147483648) : nI a < nI b ↔ a < b := by
  rw [t_lt, t_lit a ha, t_lit b hb]; omega
/-- one tick of the class as its loop does it -/
theorem step_is {σ : Row} {n : Nat} (h : IR σ n (σ 6).toInt) (hb : (σ 6).toInt + 1 ≤ 200000) (h14 : 0 ≤ (σ 14).toInt ∧ (σ 14).toInt ≤ 200000) (A : Row → Option (Int32 × Row)) :
    ((fS_isNoon (ps n σ)).bind fun q8 => (if q8 = 0 then A (ps n σ) else (fS_noonComes (ps n σ)).bind fun q10 => A q10)) = A (tk n σ) := by
  obtain ⟨q1, q2⟩ := ps_IR h hb
  have hho := q1.2.1.2.2.2.1
  have e14 : ps n σ 14 = σ 14 := by unfold ps; rw [upd_ne _ (by decide), cF_lit (by decide) (by decide) (by decide) (by decide) (by decide) (by decide) n]
  have hno := isNoon_is (σ := ps n σ) (by have := q1.2.2.1; omega) hho
  unfold tk
  by_cases c : (ps n σ 6).toInt % (12 * (ps n σ 3).toInt) = 0
  · rw [hno.1 c, sb, if_neg (by decide), if_pos c, noonComes_is q1.1.2 q1.1.1 (by rw [e14]; omega) hho.1 (fun k hk => (q1.2.2.2 k hk).2.2.1.1), sb]
  · rw [hno.2 c, sb, if_pos rfl, if_neg c]
theorem ticks_L {n : Nat} {w : Int} {N : Nat} (hN : N ≤ 999) (hw5 : 5000 ≤ w) : ∀ (m c fu : Nat) (σ : Row) (M : Nat → Nat → Int32) (y2 : Int32), c + m = N → m < fu → RR n σ (M 0) → (σ 6).toInt + m ≤ 199999 → WB σ n w → 0 ≤ y2.toInt ∧ y2.toInt ≤ 1800 * c →
    ∃ r σ' ρ', fS_passTicks_L33 fu σ (nI N) y2 (nI c) = some (r, σ') ∧ fM_ticksNow_L35 fu M (nI N) y2 (nI c) = some (r, mw M ρ') ∧ RR n σ' ρ' ∧ (σ' 6).toInt = (σ 6).toInt + m ∧ WB σ' n w ∧ 0 ≤ r.toInt ∧ r.toInt ≤ 1800 * N := by
  intro m
  induction m with
  | zero =>
    intro c fu σ M y2 hc hf h h6 hw hy
    obtain ⟨fu, rfl⟩ : ∃ q, fu = q + 1 := ⟨fu - 1, by omega⟩
    rw [fS_passTicks_L33, fM_ticksNow_L35, if_pos ((nle (by omega) (by omega)).mpr (by omega)), if_pos ((nle (by omega) (by omega)).mpr (by omega))]
    exact ⟨y2, σ, M 0, rfl, by rw [mw_self], h, by omega, hw, hy.1, by have := hy.2; omega⟩
  | succ m ih =>
    intro c fu σ M y2 hc hf h h6 hw hy
    obtain ⟨fu, rfl⟩ : ∃ q, fu = q + 1 := ⟨fu - 1, by omega⟩
    have hb : (σ 6).toInt + 1 ≤ 200000 := by omega
    obtain ⟨ρ1, t1, t2, t3⟩ := tick_is h hb
    have hir := h.1
    have hip := IP.of hir hb
    have hn := hir.1.2
    have hc2 := hir.2.2.1
    have tn := t_lit n (by omega)
    have b14 := h.2.2.2.2.1
    have ct := cT_i hip n (Nat.le_refl _)
    rw [fS_passTicks_L33, fM_ticksNow_L35, if_neg (fun q => by rw [nle (by omega) (by omega)] at q; omega), if_neg (fun q => by rw [nle (by omega) (by omega)] at q; omega), t1, sb,
      drip_is hip (Nat.le_refl _) (by rw [hir.1.1, t_sub (by rw [tn, i_1]; omega) (by rw [tn, i_1]; omega), tn, i_1]), sb, lt_is]
    show ∃ r σ' ρ', ((fS_isNoon (ps n σ)).bind fun q8 => (if q8 = 0 then fS_passTicks_L33 fu (ps n σ) (nI N) (y2 + cT n σ) (nI c + 1) else (fS_noonComes (ps n σ)).bind fun q10 => fS_passTicks_L33 fu q10 (nI N) (y2 + cT n σ) (nI c + 1))) = _ ∧ fM_ticksNow_L35 fu (mw M ρ1) (nI N) (y2 + cT n σ) (nI c + 1) = _ ∧ _
    rw [step_is hir hb (by omega) (fun s => fS_passTicks_L33 fu s (nI N) (y2 + cT n σ) (nI c + 1)), ← nI_succ]
    obtain ⟨r, σ', ρ', k1, k2, k3, k4, k5, k6⟩ := ih (c + 1) fu (tk n σ) (mw M ρ1) (y2 + cT n σ) (by omega) (by omega) (by rw [mw_0]; exact t2) (by rw [t3]; omega) (tk_WB hir hb hw5 hw) (by rw [t_add (by omega) (by omega)]; omega)
    exact ⟨r, σ', ρ', k1, by rw [k2, mw_mw], k3, by rw [k4, t3]; omega, k5, k6⟩
/-! ## calls that change a row -/
def RW (w : Int) (σ ρ : Row) : Prop := ∃ n, RR n σ ρ ∧ (σ 6).toInt ≤ 99999 ∧ WB σ n w
def ERR (r : Int32) : Prop := -1000004 ≤ r.toInt ∧ r.toInt ≤ -1000001
/-- class's and reference's answer agree -/
def RES (w : Int) (σ : Row) (M : Nat → Nat → Int32) (o : Option (Int32 × Row)) (p : Option (Int32 × (Nat → Nat → Int32))) : Prop :=
  ∃ r σ' ρ', o = some (r, σ') ∧ p = some (r, mw M ρ') ∧ ((ERR r ∧ σ' = σ ∧ ρ' = M 0) ∨ (-1000001 < r.toInt ∧ RW w σ' ρ'))
theorem RES.err {w : Int} {σ : Row} {M : Nat → Nat → Int32} {r : Int32} {o : Option (Int32 × Row)} {p : Option (Int32 × (Nat → Nat → Int32))} (hr : ERR r) (ho : o = some (r, σ)) (hp : p = some (r, M)) : RES w σ M o p :=
  ⟨r, σ, M 0, ho, by rw [mw_self]; exact hp, Or.inl ⟨hr, rfl, rfl⟩⟩
theorem e1 : ERR (-1000001) := ⟨by decide, by decide⟩
theorem e2 : ERR (-1000002) := ⟨by decide, by decide⟩
theorem e3 : ERR (-1000003) := ⟨by decide, by decide⟩
theorem in_t {x a b : Int32} (h : a.toInt ≤ x.toInt ∧ x.toInt ≤ b.toInt) : fM_in x a b = some 1 := by
  unfold fM_in
  rw [if_neg (by rw [t_lt]; omega), if_neg (by rw [t_lt]; omega)]
theorem in_f {x a b : Int32} (h : ¬ (a.toInt ≤ x.toInt ∧ x.toInt ≤ b.toInt)) : fM_in x a b = some 0 := by
  unfold fM_in
  by_cases c : x < a
  · rw [if_pos c]
  · rw [if_neg c]
    rw [t_lt] at c
    rw [if_pos (by rw [t_lt]; omega)]
theorem ticks_is {w : Int} {σ : Row} {M : Nat → Nat → Int32} (hw5 : 5000 ≤ w) (h : RW w σ (M 0)) (x1 : Int32) : RES w σ M (fS_passTicks σ x1) (fM_ticksNow M x1) := by
  obtain ⟨n, h, h6, hw⟩ := h
  have i1 : (1 : Int32).toInt = 1 := rfl
  have i9 : (999 : Int32).toInt = 999 := rfl
  have i99 : (99999 : Int32).toInt = 99999 := rfl
  have hlo := h.1.2.2.1
  unfold fS_passTicks fM_ticksNow
  by_cases c : 1 ≤ x1.toInt ∧ x1.toInt ≤ 999
  · have ea := t_add (a := σ 6) (b := x1) (by omega) (by omega)
    rw [in_t (by omega), sb, if_neg (by rw [t_lt]; omega), if_pos (by rw [t_le]; omega), if_neg (show ¬ (1 : Int32) = 0 by decide), ← h.2.2.1.1 6 (by decide) (by decide) (by decide)]
    by_cases c2 : σ 6 + x1 ≤ (99999 : Int32)
    · rw [if_pos c2, if_pos c2]
      rw [t_le, ea, i99] at c2
      have ex := nI_back (x := x1) (by omega)
      have := ticks_L (n := n) (N := x1.toInt.toNat) (by omega) hw5 x1.toInt.toNat 0 fuel σ M 0 (by omega) (by unfold fuel; omega) h (by omega) hw (by decide)
      rw [← ex] at this
      obtain ⟨r, σ', ρ', k1, k2, k3, k4, k5, k6⟩ := this
      exact ⟨r, σ', ρ', k1, k2, Or.inr ⟨by omega, n, k3, by omega, k5⟩⟩
    · rw [if_neg c2, if_neg c2]
      exact RES.err e3 rfl rfl
  · rw [in_f (by omega), sb, if_pos rfl]
    by_cases c1 : x1 < (1 : Int32)
    · rw [if_pos c1]; exact RES.err e1 rfl rfl
    · rw [if_neg c1]
      rw [t_lt] at c1
      rw [if_neg (by rw [t_le]; omega)]; exact RES.err e1 rfl rfl
