/-! ## the changing calls -/
def CR (w : Int) (o : Option (Int32 × XS)) (p : Option (Int32 × (Nat → Nat → Int32))) : Prop := ∃ r X' M' st', o = some (r, X') ∧ p = some (r, M') ∧ XRs w st' X' M'
theorem call_is {w w' : Int} {st : Nat} {X : XS} {M : Nat → Nat → Int32} (hw : w ≤ w') (o : Row → Option (Int32 × Row)) (p : (Nat → Nat → Int32) → Option (Int32 × (Nat → Nat → Int32)))
    (hop : ∀ (σ : Row) (Q : Nat → Nat → Int32), RW w σ (Q 0) → RES w' σ Q (o σ) (p Q)) (h : XRs w st X M) :
    CR w' ((fS_copyFrom X.1 ((X.2 0).val) 0).bind fun q1 => lt ((q1, X.2) : XS) fun X2 => (o (X2.1 0)).bind fun q4 => lt ((updA X2.1 0 q4.2, X2.2) : XS) fun X5 => (fX_changed X5 q4.1).bind fun q7 => some (q7.1, q7.2))
      ((fM_note M).bind fun q1 => (p q1).bind fun q2 => (fM_recorded q2.2 q2.1).bind fun q3 => some (q3.1, q3.2)) := by
  have h4 := h.2.2.2.1
  have hr := h.2.1
  have b0 := h4 0 (by decide)
  obtain ⟨C1, a1, a2, a3⟩ := scopy_is X.1 (ja := (X.2 0).val) (jb := 0) (by omega)
  obtain ⟨M1, n1, n2⟩ := note_is M
  have e0 : C1 0 = X.1 0 := a2 0 (by omega)
  have m0 : M1 0 = M 0 := funext fun j => by rw [n2 0 j, if_neg (by omega)]
  have mF : ∀ b, b ≠ 1 → M1 b = M b := fun b hb => funext fun j => by rw [n2 b j, if_neg (by omega)]
  obtain ⟨r, σ', ρ', k1, k2, k3⟩ := hop (X.1 0) M1 (by rw [m0]; exact hr)
  rw [a1, sb, lt_is, n1, sb, k2, sb]
  dsimp only
  rw [e0, k1, sb, lt_is]
  dsimp only
  have base : RW w' σ' ρ' → XRs w' st ((updA C1 0 σ', X.2) : XS) (mw M1 ρ') := fun hn => XRs_of h hw (by rw [mw_0]; dsimp only; rw [updA_same]; exact hn) rfl (fun a g0 g1 g10 g11 gb => by dsimp only; rw [updA_ne _ g0]; exact a2 a gb) (by dsimp only; rw [updA_ne _ (by decide), a2 11 (by omega)])
    (fun b g0 g1 g5 g7 g8 => by rw [mw_ne _ _ g0]; exact mF b g1) ⟨by rw [mw_ne _ _ (by decide), mF 8 (by decide)], by rw [mw_ne _ _ (by decide), mF 8 (by decide)]⟩
  rcases k3 with ⟨g1, g2, g3⟩ | ⟨g1, g2⟩
  · obtain ⟨q1, q2⟩ := isErr_t g1
    subst g2
    subst g3
    unfold fX_changed fM_recorded
    rw [q1, q2, sb, sb, if_neg n10, if_neg n10]
    exact ⟨r, _, _, st, rfl, rfl, base (by rw [m0]; exact hr.mono hw)⟩
  · have hb : RW w' (((updA C1 0 σ', X.2) : XS).1 (((updA C1 0 σ', X.2) : XS).2 0).val) (mw M1 ρ' 1) := by
      dsimp only
      rw [updA_ne _ (show (X.2 0).val ≠ 0 by omega), mw_ne _ _ (by decide)]
      exact (RW_move hr a3 (fun j hj => by rw [n2 1 j, if_pos (by omega), Nat.sub_zero])).mono hw
    obtain ⟨X', M', st', c1, c2, c3⟩ := changed_is g1 (base g2) hb
    rw [c1, c2]
    exact ⟨r, X', M', st', rfl, rfl, c3⟩
theorem xclock {w : Int} {st : Nat} {X : XS} {M : Nat → Nat → Int32} (hw5 : 5000 ≤ w) (h : XRs w st X M) (x1 x2 x3 : Int32) : CR w (fX_clock X x1 x2 x3) (fM_clock M x1 x2 x3) :=
  call_is (Int.le_refl _) (fun σ => fS_addClock σ x1 x2 x3) (fun Q => fM_clockNow Q x1 x2 x3) (fun σ Q hq => clock_is hw5 hq x1 x2 x3) h
theorem xlead {w : Int} {st : Nat} {X : XS} {M : Nat → Nat → Int32} (h : XRs w st X M) (x1 x2 : Int32) : CR w (fX_lead X x1 x2) (fM_lead M x1 x2) :=
  call_is (Int.le_refl _) (fun σ => fS_leadOn σ x1 x2) (fun Q => fM_leadNow Q x1 x2) (fun σ Q hq => lead_is hq x1 x2) h
theorem xpour {w : Int} {st : Nat} {X : XS} {M : Nat → Nat → Int32} (h : XRs w st X M) (x1 x2 : Int32) : CR w (fX_pour X x1 x2) (fM_pour M x1 x2) :=
  call_is (Int.le_refl _) (fun σ => fS_pourJug σ x1 x2) (fun Q => fM_pourNow Q x1 x2) (fun σ Q hq => pour_is hq x1 x2) h
theorem xwax {w : Int} {st : Nat} {X : XS} {M : Nat → Nat → Int32} (h : XRs w st X M) (x1 x2 : Int32) : CR w (fX_wax X x1 x2) (fM_wax M x1 x2) :=
  call_is (Int.le_refl _) (fun σ => fS_narrow σ x1 x2) (fun Q => fM_waxNow Q x1 x2) (fun σ Q hq => wax_is hq x1 x2) h
theorem xpitch {w : Int} {st : Nat} {X : XS} {M : Nat → Nat → Int32} (hw5 : 5000 ≤ w) (h : XRs w st X M) (x1 x2 : Int32) : CR w (fX_pitch X x1 x2) (fM_pitch M x1 x2) :=
  call_is (Int.le_refl _) (fun σ => fS_changePitch σ x1 x2) (fun Q => fM_pitchNow Q x1 x2) (fun σ Q hq => pitch_is hw5 hq x1 x2) h
theorem xtrue {w : Int} {st : Nat} {X : XS} {M : Nat → Nat → Int32} (hw5 : 5000 ≤ w) (hw9 : w ≤ 500000) (h : XRs w st X M) (x1 : Int32) : CR w (fX_trueUp X x1) (fM_trueUp M x1) :=
  call_is (Int.le_refl _) (fun σ => fS_trueClock σ x1) (fun Q => fM_trueNow Q x1) (fun σ Q hq => true_is hw5 hw9 hq x1) h
theorem xticks {w : Int} {st : Nat} {X : XS} {M : Nat → Nat → Int32} (hw5 : 5000 ≤ w) (h : XRs w st X M) (x1 : Int32) : CR w (fX_ticks X x1) (fM_ticks M x1) :=
  call_is (Int.le_refl _) (fun σ => fS_passTicks σ x1) (fun Q => fM_ticksNow Q x1) (fun σ Q hq => ticks_is hw5 hq x1) h
theorem xset {w : Int} {st : Nat} {X : XS} {M : Nat → Nat → Int32} (h : XRs w st X M) (x1 x2 : Int32) : CR (w + 900) (fX_set X x1 x2) (fM_set M x1 x2) :=
  call_is (by omega) (fun σ => fS_changeSetting σ x1 x2) (fun Q => fM_setNow Q x1 x2) (fun σ Q hq => set_is hq x1 x2) h
