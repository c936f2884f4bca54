theorem narrow_row {n k : Nat} {σ ρ : Row} {w : Int} {x2 : Int32} (h : RR n σ ρ) (h6 : (σ 6).toInt ≤ 99999) (hw : WB σ n w) (hk : k < n) (hx : 0 ≤ x2.toInt ∧ x2.toInt < (σ (KI k 1)).toInt) :
    RR n (upd σ (KI k 1) (σ (KI k 1) - x2)) (upd ρ (KI k 1) (σ (KI k 1) - x2)) ∧ (upd σ (KI k 1) (σ (KI k 1) - x2) 6).toInt ≤ 99999 ∧ WB (upd σ (KI k 1) (σ (KI k 1) - x2)) n w := by
  have hn := h.1.1.2
  have hkk := h.1.2.2.2 k hk
  have b1 := hkk.2.1
  have es := t_sub (a := σ (KI k 1)) (b := x2) (by omega) (by omega)
  refine row_on h h6 hw hk (fun i hi => uK_s _ (by omega)) (uK_s _ (by decide)) (uK_s _ (by decide)) (fun i hi => upd_ne _ (hi_KI (by omega) (by decide) hi)) (fun i hi => upd_ne _ (hi_KI (by omega) (by decide) hi)) (fun c f hc hf e => uK_c _ e hf (by decide)) ?_ ?_ (SH_upd h.2.2.1) ?_
  · obtain ⟨b0, b1, b2, b3, b4, b5, b6, b7, b9, b13, b14⟩ := hkk
    have lj : ld (upd σ (KI k 1) (σ (KI k 1) - x2)) k = ld σ k := by unfold ld; rw [uK_f _ (by decide) (by decide) (by decide)]
    unfold CB
    rw [lj, upd_eq, uK_f _ (by decide) (by decide) (by decide), uK_f _ (by decide) (by decide) (by decide), uK_f _ (by decide) (by decide) (by decide), uK_f _ (by decide) (by decide) (by decide), uK_f _ (by decide) (by decide) (by decide), uK_f _ (by decide) (by decide) (by decide), uK_f _ (by decide) (by decide) (by decide), uK_f _ (by decide) (by decide) (by decide), uK_f _ (by decide) (by decide) (by decide)]
    exact ⟨b0, by omega, b2, b3, b4, b5, b6, b7, b9, b13, b14⟩
  · exact WC_congr (hw k hk) (uK_f _ (by decide) (by decide) (by decide)) (uK_f _ (by decide) (by decide) (by decide)) (uK_f _ (by decide) (by decide) (by decide)) (uK_f _ (by decide) (by decide) (by decide)) (uK_s _ (by decide))
  · rw [uK_s _ (by decide), uK_s _ (by decide), tot_same (fun c hc => uK_f _ (by decide) (by decide) (by decide)), tot_same (fun c hc => uK_f _ (by decide) (by decide) (by decide))]
    exact h.2.2.2.1
/-- the error at the next noon, with x2 of wax: class and reference -/
theorem with_is {w : Int} {st n k : Nat} {X : XS} {M : Nat → Nat → Int32} {x2 : Int32} (h : XRs w st X M) (hrr : RR n (X.1 0) (M 0)) (h6 : (X.1 0 6).toInt ≤ 99999) (hw : WB (X.1 0) n w) (hk : k < n) (hx : 0 ≤ x2.toInt ∧ x2.toInt < (X.1 0 (KI k 1)).toInt) :
    ∃ r X' M', fX_noonErrorWith X (nI k) x2 = some (r, X') ∧ fM_errorAtNoon M (nI k) x2 = some (r, M') ∧ XRs w st X' M' ∧ (X'.2 = X.2 ∧ ∀ a, a ≠ 1 → X'.1 a = X.1 a) ∧ MR (M 0) (M' 0) := by
  have hn := hrr.1.1.2
  obtain ⟨C1, a1, a2, a3⟩ := scopy_is X.1 (ja := 1) (jb := 0) (by decide)
  obtain ⟨M1, b1, b2⟩ := aside_is M
  have m0 : M1 0 = M 0 := funext fun j => by rw [b2 0 j, if_neg (by omega)]
  have hr1 := RR_move hrr a3 (MR.refl (M 0))
  have k1 := a3.2.1 k 1 (by omega) (by decide)
  have e6 : C1 1 6 = X.1 0 6 := a3.1 6 (by decide) (by decide) (by decide)
  have hw1 : WB (C1 1) n w := fun c hc => WC_congr (hw c hc) (a3.2.1 c 0 (by omega) (by decide)) (a3.2.1 c 4 (by omega) (by decide)) (a3.2.1 c 9 (by omega) (by decide)) (a3.2.1 c 14 (by omega) (by decide)) (a3.1 1 (by decide) (by decide) (by decide))
  obtain ⟨g1, g2, g3⟩ := narrow_row hr1 (by rw [e6]; exact h6) hw1 hk (by rw [k1]; exact hx)
  have c19 : C1 1 19 = nI n := hr1.1.1.1
  have mk : M 0 (KI k 1) = C1 1 (KI k 1) := (hr1.2.2.1.2 k 1 (by omega) (by decide)).symm
  unfold fX_noonErrorWith fM_errorAtNoon
  rw [a1, sb, lt_is]
  dsimp only
  rw [clockAt_in c19 hk hn, sb, onN_s, lt_is]
  dsimp only
  rw [b1, sb, show fM_add M1 (nI k) 1 (-x2) = some (mw M1 (upd (M1 0) (KI k 1) (M1 0 (KI k 1) + -x2))) from add_at M1 (v := 1) _ (by omega) (by decide), sb, m0, mk, ← Int32.sub_eq_add_neg]
  have s1 : setC C1 1 (KI k 1) (C1 1 (KI k 1) - x2) 1 = upd (C1 1) (KI k 1) (C1 1 (KI k 1) - x2) := by unfold setC; rw [updA_same]
  rw [s1]
  generalize hσ : upd (C1 1) (KI k 1) (C1 1 (KI k 1) - x2) = σ at *
  generalize hρ : upd (M 0) (KI k 1) (C1 1 (KI k 1) - x2) = ρ at *
  have hh := g1.1.2.1.2.2.2.1
  have h0 := g1.1.2.2.1
  have u := un_i (σ := σ) ⟨h0.1, by omega⟩ hh
  have um := Int.emod_nonneg (σ 6).toInt (show 12 * (σ 3).toInt ≠ 0 by omega)
  have ul := Int.emod_lt_of_pos (σ 6).toInt (show 0 < 12 * (σ 3).toInt by omega)
  have eU : un σ = nI (un σ).toInt.toNat := nI_back (by omega)
  obtain ⟨U, hU⟩ : ∃ U, (un σ).toInt.toNat = U + 1 := ⟨(un σ).toInt.toNat - 1, by omega⟩
  rw [hU] at eU
  rw [untilNoon_is hh, sb, eU]
  obtain ⟨r, X', ρ', q1, q2, q3, q4⟩ := noon_loop (n := n) (k := k) (U := U + 1) (T := (σ 6).toInt + (12 * (σ 3).toInt - (σ 6).toInt % (12 * (σ 3).toInt))) hk (by omega) (by omega) U 0 fuel fuel ((setC C1 1 (KI k 1) (C1 1 (KI k 1) - x2), X.2) : XS) (mw M1 ρ) σ (σ 6).toInt (by omega) (by unfold fuel; omega) (by unfold fuel; omega)
    (by dsimp only; rw [s1]; exact g1.1) (by omega) (by dsimp only; rw [s1]; omega) (by dsimp only; rw [s1]; exact noon_at _ _) (by dsimp only; rw [s1]; omega) (by omega) g1.1 (by rw [mw_0]; exact g1.2.2.1) (by dsimp only; rw [s1]; exact ⟨TP.refl _ _, rfl, rfl⟩)
  obtain ⟨M', p1, p2⟩ := putb_is (mw (mw M1 ρ) ρ')
  rw [show (0 : Int32) = nI 0 from rfl, q1, q2, p1, sb]
  have hX' : ∀ a, a ≠ 1 → X'.1 a = X.1 a := fun a ha => by
    rw [q4 a ha]
    dsimp only
    unfold setC
    rw [updA_ne _ ha]; exact a2 a ha
  rw [mw_mw] at p2
  refine ⟨r, X', M', rfl, rfl, trial_XRs h q3 hX' b2 p2, ⟨q3, hX'⟩, fun j hj => ?_⟩
  rw [p2 0 j, if_pos (by omega), Nat.sub_zero, mw_ne _ _ (by decide), b2 5 j, if_pos (by omega), Nat.sub_zero]
