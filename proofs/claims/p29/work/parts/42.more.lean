/-! ## a new clock -/
def nwR (τ : Row) (n : Nat) (x1 x2 x3 h : Int32) : Row := upd (upd (upd (upd (upd (upd τ (KI n 0) x1) (KI n 1) x2) (KI n 2) x3) (KI n 5) (nI n)) (KI n 13) h) 19 (nI (n + 1))
theorem nwR_lit {τ : Row} {n i : Nat} {x1 x2 x3 h : Int32} (hi : i < 20) (h19 : i ≠ 19) : nwR τ n x1 x2 x3 h i = τ i := by
  unfold nwR
  rw [upd_ne _ h19, uK_s _ hi, uK_s _ hi, uK_s _ hi, uK_s _ hi, uK_s _ hi]
theorem nwR_19 {τ : Row} {n : Nat} {x1 x2 x3 h : Int32} : nwR τ n x1 x2 x3 h 19 = nI (n + 1) := by unfold nwR; rw [upd_eq]
theorem nwR_hi {τ : Row} {n i : Nat} {x1 x2 x3 h : Int32} (hn : n < 5) (hi : 95 ≤ i) : nwR τ n x1 x2 x3 h i = τ i := by
  unfold nwR
  rw [upd_ne _ (by omega), upd_ne _ (hi_KI hn (by decide) hi), upd_ne _ (hi_KI hn (by decide) hi), upd_ne _ (hi_KI hn (by decide) hi), upd_ne _ (hi_KI hn (by decide) hi), upd_ne _ (hi_KI hn (by decide) hi)]
theorem nwR_c {τ : Row} {n c f : Nat} {x1 x2 x3 h : Int32} (hf : f < 15) (e : c ≠ n) : nwR τ n x1 x2 x3 h (KI c f) = τ (KI c f) := by
  unfold nwR
  rw [upd_ne _ (KI_sc (by decide)), uK_c _ e hf (by decide), uK_c _ e hf (by decide), uK_c _ e hf (by decide), uK_c _ e hf (by decide), uK_c _ e hf (by decide)]
theorem nwR_f {τ : Row} {n f : Nat} {x1 x2 x3 h : Int32} (hf : f < 15) (g0 : f ≠ 0) (g1 : f ≠ 1) (g2 : f ≠ 2) (g5 : f ≠ 5) (g13 : f ≠ 13) : nwR τ n x1 x2 x3 h (KI n f) = τ (KI n f) := by
  unfold nwR
  rw [upd_ne _ (KI_sc (by decide)), uK_f _ g13 hf (by decide), uK_f _ g5 hf (by decide), uK_f _ g2 hf (by decide), uK_f _ g1 hf (by decide), uK_f _ g0 hf (by decide)]
theorem nwR_0 {τ : Row} {n : Nat} {x1 x2 x3 h : Int32} : nwR τ n x1 x2 x3 h (KI n 0) = x1 := by
  unfold nwR
  rw [upd_ne _ (KI_sc (by decide)), uK_f _ (by decide) (by decide) (by decide), uK_f _ (by decide) (by decide) (by decide), uK_f _ (by decide) (by decide) (by decide), uK_f _ (by decide) (by decide) (by decide), upd_eq]
theorem nwR_1 {τ : Row} {n : Nat} {x1 x2 x3 h : Int32} : nwR τ n x1 x2 x3 h (KI n 1) = x2 := by
  unfold nwR
  rw [upd_ne _ (KI_sc (by decide)), uK_f _ (by decide) (by decide) (by decide), uK_f _ (by decide) (by decide) (by decide), uK_f _ (by decide) (by decide) (by decide), upd_eq]
theorem nwR_2 {τ : Row} {n : Nat} {x1 x2 x3 h : Int32} : nwR τ n x1 x2 x3 h (KI n 2) = x3 := by
  unfold nwR
  rw [upd_ne _ (KI_sc (by decide)), uK_f _ (by decide) (by decide) (by decide), uK_f _ (by decide) (by decide) (by decide), upd_eq]
theorem nwR_5 {τ : Row} {n : Nat} {x1 x2 x3 h : Int32} : nwR τ n x1 x2 x3 h (KI n 5) = nI n := by
  unfold nwR
  rw [upd_ne _ (KI_sc (by decide)), uK_f _ (by decide) (by decide) (by decide), upd_eq]
theorem nwR_13 {τ : Row} {n : Nat} {x1 x2 x3 h : Int32} : nwR τ n x1 x2 x3 h (KI n 13) = h := by
  unfold nwR
  rw [upd_ne _ (KI_sc (by decide)), upd_eq]
/-- the reference clears fields that are clear -/
theorem clear_L {n : Nat} (hn : n < 5) {Q : Nat → Nat → Int32} (hz : ∀ f, f < 15 → Q 0 (KI n f) = 0) (x1 x2 x3 : Int32) : ∀ (m c fu : Nat), c + m = 15 → m < fu → fM_clockNow_L70 fu Q x1 x2 x3 (nI n) (nI c) = ((fM_put Q (nI n) (0 : Int32) x1).bind fun q11 => (fM_put q11 (nI n) (1 : Int32) x2).bind fun q12 => (fM_put q12 (nI n) (2 : Int32) x3).bind fun q13 => (fM_put q13 (nI n) (5 : Int32) (nI n)).bind fun q14 => (fM_lay q14 (nI n)).bind fun q15 => some (nI n, q15)) := by
  intro m
  induction m with
  | zero =>
    intro c fu hc hf
    obtain ⟨fu, rfl⟩ : ∃ q, fu = q + 1 := ⟨fu - 1, by omega⟩
    rw [fM_clockNow_L70, if_pos (show (15 : Int32) ≤ nI c by rw [show (15 : Int32) = nI 15 from rfl, nle (by omega) (by omega)]; omega)]
  | succ m ih =>
    intro c fu hc hf
    obtain ⟨fu, rfl⟩ : ∃ q, fu = q + 1 := ⟨fu - 1, by omega⟩
    rw [fM_clockNow_L70, if_neg (show ¬ (15 : Int32) ≤ nI c by rw [show (15 : Int32) = nI 15 from rfl, nle (by omega) (by omega)]; omega), put_at Q 0 hn (by omega), sb]
    have e : upd (Q 0) (KI n c) 0 = Q 0 := by
      have := upd_self (Q 0) (KI n c)
      rw [hz c (by omega)] at this
      exact this
    rw [e, mw_self, ← nI_succ]
    exact ih (c + 1) fu (by omega) (by omega)
theorem lay_nwR {ρ : Row} {n : Nat} {x1 x2 x3 h : Int32} (hn : n < 5) (h19 : ρ 19 = nI n) (hz : ∀ f, f < 15 → ρ (KI n f) = 0) :
    lay (upd (upd (upd (upd (upd ρ 19 (ρ 19 + 1)) (KI n 0) x1) (KI n 1) x2) (KI n 2) x3) (KI n 5) (nI n)) n h = nwR ρ n x1 x2 x3 h := by
  have g : ∀ f, f < 15 → f ≠ 0 → f ≠ 1 → f ≠ 2 → f ≠ 5 → upd (upd (upd (upd (upd ρ 19 (ρ 19 + 1)) (KI n 0) x1) (KI n 1) x2) (KI n 2) x3) (KI n 5) (nI n) (KI n f) = 0 := fun f hf g0 g1 g2 g5 => by
    rw [uK_f _ g5 hf (by decide), uK_f _ g2 hf (by decide), uK_f _ g1 hf (by decide), uK_f _ g0 hf (by decide), upd_ne _ (KI_sc (by decide)), hz f hf]
  have ed : dc (upd (upd (upd (upd (upd ρ 19 (ρ 19 + 1)) (KI n 0) x1) (KI n 1) x2) (KI n 2) x3) (KI n 5) (nI n)) n = 0 := by
    unfold dc
    rw [g 3 (by decide) (by decide) (by decide) (by decide) (by decide), g 4 (by decide) (by decide) (by decide) (by decide) (by decide), g 9 (by decide) (by decide) (by decide) (by decide) (by decide)]
    split
    · rfl
    · split <;> rfl
  unfold lay nwR
  rw [ed, h19, ← nI_succ]
  funext j
  by_cases a : j = 19
  · subst a
    rw [upd_eq, uK_s _ (by decide), uK_s _ (by decide), uK_s _ (by decide), uK_s _ (by decide), uK_s _ (by decide), uK_s _ (by decide), upd_eq]
  · by_cases b : j = KI n 14
    · subst b
      rw [upd_eq, upd_ne _ (KI_sc (by decide)), uK_f _ (by decide) (by decide) (by decide), uK_f _ (by decide) (by decide) (by decide), uK_f _ (by decide) (by decide) (by decide), uK_f _ (by decide) (by decide) (by decide), uK_f _ (by decide) (by decide) (by decide), hz 14 (by decide)]
    · simp only [upd_at, if_neg a, if_neg b]
theorem clock_is {w : Int} {σ : Row} {M : Nat → Nat → Int32} (hw5 : 5000 ≤ w) (h : RW w σ (M 0)) (x1 x2 x3 : Int32) : RES w σ M (fS_addClock σ x1 x2 x3) (fM_clockNow M x1 x2 x3) := by
  obtain ⟨n, h, h6, hw⟩ := h
  obtain ⟨⟨⟨h19, hn⟩, hst, hlo, hcb⟩, hz, hs, ht, hb⟩ := id h
  have m19 : M 0 19 = nI n := by rw [← hs.1 19 (by decide) (by decide) (by decide)]; exact h19
  have m6 := hs.1 6 (by decide) (by decide) (by decide)
  have m3 := hs.1 3 (by decide) (by decide) (by decide)
  have hho := hst.2.2.2.1
  have i2 : (2 : Int32).toInt = 2 := rfl
  have i5 : (500 : Int32).toInt = 500 := rfl
  have j5 : (5 : Int32).toInt = 5 := rfl
  have tn := t_lit n (by omega)
  have tn1 := t_lit (n + 1) (by omega)
  unfold fS_addClock fM_clockNow
  by_cases c1 : 0 ≤ x1.toInt ∧ x1.toInt ≤ 2
  · rw [in_t (by rw [i_0, i2]; exact c1), sb, if_neg n10, if_neg (show ¬ x1 < 0 by rw [t_lt, i_0]; omega), if_neg (show ¬ 2 < x1 by rw [t_lt, i2]; omega)]
    by_cases c2 : 1 ≤ x2.toInt ∧ x2.toInt ≤ 60
    · rw [in_t (by rw [i_1, i_60]; exact c2), sb, if_neg n10, if_neg (show ¬ x2 < 1 by rw [t_lt, i_1]; omega), if_neg (show ¬ 60 < x2 by rw [t_lt, i_60]; omega)]
      by_cases c3 : 1 ≤ x3.toInt ∧ x3.toInt ≤ 500
      · rw [in_t (by rw [i_1, i5]; exact c3), sb, if_neg n10, if_neg (show ¬ x3 < 1 by rw [t_lt, i_1]; omega), if_pos (show x3 ≤ 500 by rw [t_le, i5]; omega), h19, if_neg (show ¬ nI n < 0 by rw [t_lt, i_0]; omega), m19]
        by_cases c4 : n = 5
        · rw [if_neg (show ¬ nI n < 5 by rw [t_lt, j5]; omega), if_pos (show nI n = 5 by subst c4; rfl)]; exact RES.err e3 rfl rfl
        · have n5 : n < 5 := by omega
          rw [if_pos (show nI n < 5 by rw [t_lt, j5]; omega), if_neg (show ¬ nI n = 5 by rw [t_eq, j5]; omega), inb_nI n5 (by decide), gd_t, trueHour_is hho.1, sb, cl_nI (by omega), lt_is, set0]
          have mz : ∀ f, f < 15 → M 0 (KI n f) = 0 := fun f hf => by rw [← hs.2 n f n5 hf]; exact hz n f (Nat.le_refl _) n5 hf
          have et : th σ = th (M 0) := th_of m6 m3
          have lm : fM_clockNow_L70 fuel (mw M (upd (M 0) 19 (nI n + 1))) x1 x2 x3 (nI n) 0 = some (nI n, mw M (nwR (M 0) n x1 x2 x3 (th (M 0)))) := by
            rw [show (0 : Int32) = nI 0 from rfl, clear_L n5 (Q := mw M (upd (M 0) 19 (nI n + 1))) (fun f hf => by rw [mw_0, upd_ne _ (KI_sc (by decide))]; exact mz f hf) x1 x2 x3 15 0 fuel (by omega) (by unfold fuel; omega)]
            rw [show ∀ Q : Nat → Nat → Int32, fM_put Q (nI n) 0 x1 = some (mw Q (upd (Q 0) (KI n 0) x1)) from fun Q => put_at Q (v := 0) _ n5 (by decide), sb,
              show ∀ Q : Nat → Nat → Int32, fM_put Q (nI n) 1 x2 = some (mw Q (upd (Q 0) (KI n 1) x2)) from fun Q => put_at Q (v := 1) _ n5 (by decide), sb,
              show ∀ Q : Nat → Nat → Int32, fM_put Q (nI n) 2 x3 = some (mw Q (upd (Q 0) (KI n 2) x3)) from fun Q => put_at Q (v := 2) _ n5 (by decide), sb,
              show ∀ Q : Nat → Nat → Int32, fM_put Q (nI n) 5 (nI n) = some (mw Q (upd (Q 0) (KI n 5) (nI n))) from fun Q => put_at Q (v := 5) _ n5 (by decide), sb]
            simp only [mw_0, mw_mw]
            have lit : ∀ i, i < 19 → upd (upd (upd (upd (upd (M 0) 19 (nI n + 1)) (KI n 0) x1) (KI n 1) x2) (KI n 2) x3) (KI n 5) (nI n) i = M 0 i := fun i hi => by
              rw [uK_s _ (by omega), uK_s _ (by omega), uK_s _ (by omega), uK_s _ (by omega), upd_ne _ (by omega)]
            rw [mlay_is n5 (by rw [mw_0, lit 6 (by decide), ← m6]; exact hlo.1) (by rw [mw_0, lit 3 (by decide), ← m3]; exact hho.1), sb, mw_0, mw_mw]
            have e := lay_nwR (ρ := M 0) (x1 := x1) (x2 := x2) (x3 := x3) (h := th (M 0)) n5 m19 mz
            rw [m19] at e
            rw [th_of (lit 6 (by decide)) (lit 3 (by decide)), e]
          have es : upd (upd (upd (upd (upd (upd σ (KI n 0) x1) (KI n 1) x2) (KI n 2) x3) (KI n 5) (nI n)) (KI n 13) (th σ)) 19 (upd (upd (upd (upd (upd σ (KI n 0) x1) (KI n 1) x2) (KI n 2) x3) (KI n 5) (nI n)) (KI n 13) (th σ) 19 + 1) = nwR σ n x1 x2 x3 (th σ) := by
            unfold nwR
            rw [uK_s _ (by decide), uK_s _ (by decide), uK_s _ (by decide), uK_s _ (by decide), uK_s _ (by decide), h19, ← nI_succ]
          refine ⟨nI n, nwR σ n x1 x2 x3 (th σ), nwR (M 0) n x1 x2 x3 (th (M 0)), ?_, lm, Or.inr ⟨by omega, n + 1, ?_⟩⟩
          · unfold fK_begin
            simp only [lt_is, sb]
            rw [show nI' n = nI n from rfl, es, nwR_19]
            congr 2
            rw [nI_succ]
            exact Int32.add_sub_cancel _ _
          · have t := th_i (σ := σ) hlo.1 hho.1
            have w6 : nwR σ n x1 x2 x3 (th σ) 6 = σ 6 := nwR_lit (by decide) (by decide)
            have zf : ∀ f, f < 15 → σ (KI n f) = 0 := fun f hf => hz n f (Nat.le_refl _) n5 hf
            have f0 : ∀ f, f < 15 → f ≠ 0 → f ≠ 1 → f ≠ 2 → f ≠ 5 → f ≠ 13 → nwR σ n x1 x2 x3 (th σ) (KI n f) = 0 := fun f hf a0 a1 a2 a5 a13 => by rw [nwR_f hf a0 a1 a2 a5 a13, zf f hf]
            refine ⟨⟨⟨⟨nwR_19, by omega⟩, ST_of (fun i hi => nwR_lit (by omega) (by omega)) hst, by rw [w6]; exact hlo, fun c hc => ?_⟩, fun c f hc hc5 hf => ?_, ⟨fun i hi h16 h17 => ?_, fun c f hc hf => ?_⟩, ?_, ?_⟩, by rw [w6]; exact h6, fun c hc => ?_⟩
            · rw [w6]
              by_cases e : c = n
              · subst e
                have lj : ld (nwR σ c x1 x2 x3 (th σ)) c = c := by unfold ld; rw [nwR_5, cl_nI (by omega)]
                unfold CB
                rw [lj, nwR_0, nwR_1, nwR_2, nwR_5, nwR_13, f0 3 (by decide) (by decide) (by decide) (by decide) (by decide) (by decide), f0 4 (by decide) (by decide) (by decide) (by decide) (by decide) (by decide), f0 7 (by decide) (by decide) (by decide) (by decide) (by decide) (by decide), f0 9 (by decide) (by decide) (by decide) (by decide) (by decide) (by decide), f0 14 (by decide) (by decide) (by decide) (by decide) (by decide) (by decide), i_0]
                exact ⟨by rw [t_eq, t_eq, t_eq, i_0, i_1, i2]; omega, c2, c3, by omega, by omega, ⟨rfl, Nat.le_refl _, by omega⟩, fun _ => rfl, by omega, by omega, by omega, by omega⟩
              · have := CB_congr (hcb c (by omega)) (σ' := nwR σ n x1 x2 x3 (th σ)) (fun f hf => nwR_c hf e)
                obtain ⟨b0, b1, b2, b3, b4, b5, b6, b7, b9, b13, b14⟩ := this
                exact ⟨b0, b1, b2, b3, b4, ⟨b5.1, b5.2.1, by have := b5.2.2; omega⟩, b6, b7, b9, b13, b14⟩
            · rw [nwR_c hf (by omega)]; exact hz c f (by omega) hc5 hf
            · by_cases e : i = 19
              · subst e; rw [nwR_19, nwR_19]
              · rw [nwR_lit hi e, nwR_lit hi e]; exact hs.1 i hi h16 h17
            · by_cases e : c = n
              · subst e
                by_cases g : f = 0 ∨ f = 1 ∨ f = 2 ∨ f = 5 ∨ f = 13
                · rcases g with rfl | rfl | rfl | rfl | rfl
                  · rw [nwR_0, nwR_0]
                  · rw [nwR_1, nwR_1]
                  · rw [nwR_2, nwR_2]
                  · rw [nwR_5, nwR_5]
                  · rw [nwR_13, nwR_13, et]
                · rw [nwR_f hf (by omega) (by omega) (by omega) (by omega) (by omega), nwR_f hf (by omega) (by omega) (by omega) (by omega) (by omega)]; exact hs.2 c f hc hf
              · rw [nwR_c hf e, nwR_c hf e]; exact hs.2 c f hc hf
            · have tt : ∀ f, f < 15 → f ≠ 0 → f ≠ 1 → f ≠ 2 → f ≠ 5 → f ≠ 13 → tot (nwR (M 0) n x1 x2 x3 (th (M 0))) f = tot (M 0) f := fun f hf a0 a1 a2 a5 a13 => tot_same (fun c hc => by
                by_cases e : c = n
                · subst e; exact nwR_f hf a0 a1 a2 a5 a13
                · exact nwR_c hf e)
              rw [nwR_lit (by decide) (by decide), nwR_lit (by decide) (by decide), tt 11 (by decide) (by decide) (by decide) (by decide) (by decide) (by decide), tt 8 (by decide) (by decide) (by decide) (by decide) (by decide) (by decide)]
              exact ht
            · exact BK_congr hb (nwR_lit (by decide) (by decide)) (by rw [w6]; exact Int.le_refl _) (fun i hi => nwR_hi n5 hi) (fun i hi => nwR_hi n5 hi)
            · by_cases e : c = n
              · subst e
                unfold WC
                rw [f0 14 (by decide) (by decide) (by decide) (by decide) (by decide) (by decide), f0 4 (by decide) (by decide) (by decide) (by decide) (by decide) (by decide), f0 9 (by decide) (by decide) (by decide) (by decide) (by decide) (by decide), show nwR σ c x1 x2 x3 (th σ) 1 = σ 1 from nwR_lit (by decide) (by decide), i_0]
                have := hst.2.1
                exact ⟨fun _ => by omega, fun _ => by omega, fun _ _ => by omega⟩
              · exact WC_congr (hw c (by omega)) (nwR_c (by decide) e) (nwR_c (by decide) e) (nwR_c (by decide) e) (nwR_c (by decide) e) (nwR_lit (by decide) (by decide))
      · rw [in_f (by rw [i_1, i5]; exact c3), sb, if_pos rfl]
        by_cases d1 : x3 < (1 : Int32)
        · rw [if_pos d1]; exact RES.err e1 rfl rfl
        · rw [if_neg d1]
          rw [t_lt, i_1] at d1
          rw [if_neg (by rw [t_le]; omega)]; exact RES.err e1 rfl rfl
    · rw [in_f (by rw [i_1, i_60]; exact c2), sb, if_pos rfl]
      by_cases d1 : x2 < (1 : Int32)
      · rw [if_pos d1]; exact RES.err e1 rfl rfl
      · rw [if_neg d1]
        rw [t_lt, i_1] at d1
        rw [if_pos (by rw [t_lt, i_60]; omega)]; exact RES.err e1 rfl rfl
  · rw [in_f (by rw [i_0, i2]; exact c1), sb, if_pos rfl]
    by_cases d1 : x1 < (0 : Int32)
    · rw [if_pos d1]; exact RES.err e1 rfl rfl
    · rw [if_neg d1]
      rw [t_lt, i_0] at d1
      rw [if_pos (by rw [t_lt, i2]; omega)]; exact RES.err e1 rfl rfl
