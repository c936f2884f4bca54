/-! ## counts -/
theorem off_L {σ : Row} {M : Nat → Nat → Int32} {n : Nat} (h : RR n σ (M 0)) : ∀ (m c fu : Nat) (y : Int32), c + m = n → m < fu → EQ2 (fS_clocksOff_L4 fu σ y (nI c)) (fM_clocksOff_L4 fu M y (nI c)) := by
  have hn := h.1.1.2
  have m19 : M 0 19 = nI n := by rw [← h.2.2.1.1 19 (by decide) (by decide) (by decide)]; exact h.1.1.1
  have m4 := h.2.2.1.1 4 (by decide) (by decide) (by decide)
  intro m
  induction m with
  | zero =>
    intro c fu y hc hf
    obtain ⟨fu, rfl⟩ : ∃ q, fu = q + 1 := ⟨fu - 1, by omega⟩
    rw [fS_clocksOff_L4, fM_clocksOff_L4, if_pos (show σ 19 ≤ nI c by rw [h.1.1.1, nle (by omega) (by omega)]; omega), if_pos (show M 0 19 ≤ nI c by rw [m19, nle (by omega) (by omega)]; omega)]
    exact ⟨_, rfl, rfl⟩
  | succ m ih =>
    intro c fu y hc hf
    obtain ⟨fu, rfl⟩ : ∃ q, fu = q + 1 := ⟨fu - 1, by omega⟩
    obtain ⟨q1, q2, q3⟩ := nI5 (show c < n by omega) hn
    have hcc := h.1.2.2.2 c (by omega)
    have g := fun y' => ih (c + 1) fu y' (by omega) (by omega)
    rw [nI_succ c] at g
    unfold fS_clocksOff_L4 fM_clocksOff_L4 fS_isOff fM_isOff
    rw [if_neg (show ¬ σ 19 ≤ nI c by rw [h.1.1.1]; exact q2), if_neg (show ¬ M 0 19 ≤ nI c by rw [m19]; exact q2), if_neg q3, inb_nI (by omega) (by decide), gd_t, cl_nI (by omega), errorOf_is hcc.2.2.1.1 h.1.2.1.2.2.2.1.1, sb, abs_is, sb, merr h (show c < n by omega), sb, msize_is, sb, ← m4]
    by_cases a : ab (er σ c) ≤ σ 4
    · rw [if_pos a, sb, sb, if_pos rfl, if_pos rfl, Int32.or_zero]; exact g y
    · rw [if_neg a, sb, sb, if_neg n10, if_neg n10]; exact g _
theorem empty_L {σ : Row} {M : Nat → Nat → Int32} {n : Nat} (h : RR n σ (M 0)) : ∀ (m c fu : Nat) (y : Int32), c + m = n → m < fu → EQ2 (fS_clocksEmpty_L4 fu σ y (nI c)) (fM_clocksEmpty_L4 fu M y (nI c)) := by
  have hn := h.1.1.2
  have m19 : M 0 19 = nI n := by rw [← h.2.2.1.1 19 (by decide) (by decide) (by decide)]; exact h.1.1.1
  intro m
  induction m with
  | zero =>
    intro c fu y hc hf
    obtain ⟨fu, rfl⟩ : ∃ q, fu = q + 1 := ⟨fu - 1, by omega⟩
    rw [fS_clocksEmpty_L4, fM_clocksEmpty_L4, if_pos (show σ 19 ≤ nI c by rw [h.1.1.1, nle (by omega) (by omega)]; omega), if_pos (show M 0 19 ≤ nI c by rw [m19, nle (by omega) (by omega)]; omega)]
    exact ⟨_, rfl, rfl⟩
  | succ m ih =>
    intro c fu y hc hf
    obtain ⟨fu, rfl⟩ : ∃ q, fu = q + 1 := ⟨fu - 1, by omega⟩
    obtain ⟨q1, q2, q3⟩ := nI5 (show c < n by omega) hn
    have g := fun y' => ih (c + 1) fu y' (by omega) (by omega)
    rw [nI_succ c] at g
    unfold fS_clocksEmpty_L4 fM_clocksEmpty_L4
    rw [if_neg (show ¬ σ 19 ≤ nI c by rw [h.1.1.1]; exact q2), if_neg (show ¬ M 0 19 ≤ nI c by rw [m19]; exact q2), if_neg q3, inb_nI (by omega) (by decide), gd_t, cl_nI (by omega), of_3 M (by omega), sb, ← h.2.2.1.2 c 3 (by omega) (by decide)]
    by_cases a : σ (KI c 3) = 0
    · rw [if_pos a, if_pos a]; exact g _
    · rw [if_neg a, if_neg a, Int32.or_zero]; exact g y
theorem mnumber_o {M : Nat → Nat → Int32} (j : Nat) (hj : j = 11 ∨ j = 12) : fM_number M (nI j) = some (if j = 11 then M 8 0 else M 8 1) := by
  rcases hj with rfl | rfl <;> rfl
theorem sum5 {n f : Nat} {ρ : Row} (hn : n ≤ 5) (hz : ∀ c, n ≤ c → c < 5 → ρ (KI c f) = 0) : sm (fun c => ρ (KI c f)) n = tot ρ f := by
  have e := sm_far (g := fun c => ρ (KI c f)) (n := n) (5 - n) (fun c h1 h2 => hz c h1 (by omega))
  rw [show n + (5 - n) = 5 by omega] at e
  rw [← e]
  show 0 + ρ (KI 0 f) + ρ (KI 1 f) + ρ (KI 2 f) + ρ (KI 3 f) + ρ (KI 4 f) = tot ρ f
  unfold tot
  rw [Int32.zero_add]
theorem count_is {w : Int} {X : XS} {M : Nat → Nat → Int32} (h : RW w (X.1 0) (M 0)) (h8 : X.1 13 0 = M 8 0) (h11 : X.1 11 0 = M 8 1) (x1 : Int32) : EQ2 (fX_count X x1) (fM_count M x1) := by
  obtain ⟨n, h, h6, hw⟩ := h
  obtain ⟨⟨⟨h19, hn⟩, hst, hlo, hcb⟩, hz, hs, ⟨ht1, ht2⟩, hb⟩ := id h
  have m19 : M 0 19 = nI n := by rw [← hs.1 19 (by decide) (by decide) (by decide)]; exact h19
  have i12 : (12 : Int32).toInt = 12 := rfl
  have i20 : (20 : Int32).toInt = 20 := rfl
  have i25 : (25 : Int32).toInt = 25 := rfl
  have t10 : fS_together (X.1 0) (10 : Int32) = some (M 0 16) := by
    rw [show (10 : Int32) = nI 10 from rfl, together_is h19 hn (by decide), ht1, ← sum5 hn (fun c h1 h2 => by rw [← hs.2 c 11 h2 (by decide)]; exact hz c 11 h1 h2 (by decide))]
    exact congrArg some (sm_congr n (fun c hc => hs.2 c 11 (by omega) (by decide)))
  have t7 : fS_together (X.1 0) (7 : Int32) = some (M 0 17) := by
    rw [show (7 : Int32) = nI 7 from rfl, together_is h19 hn (by decide), ht2, ← sum5 hn (fun c h1 h2 => by rw [← hs.2 c 8 h2 (by decide)]; exact hz c 8 h1 h2 (by decide))]
    exact congrArg some (sm_congr n (fun c hc => hs.2 c 8 (by omega) (by decide)))
  obtain ⟨vo, vo1, vo2⟩ := off_L h n 0 fuel 0 (by omega) (by unfold fuel; omega)
  obtain ⟨ve, ve1, ve2⟩ := empty_L h n 0 fuel 0 (by omega) (by unfold fuel; omega)
  have so : fS_clocksOff (X.1 0) = some vo := vo1
  have mo : fM_clocksOff M = some vo := vo2
  have se : fS_clocksEmpty (X.1 0) = some ve := ve1
  have me : fM_clocksEmpty M = some ve := ve2
  have su := untilNoon_is (σ := X.1 0) hst.2.2.2.1
  have e12 := h12 (σ := X.1 0) hst.2.2.2.1
  have sz := size_is hb.1.1
  rcases clk (n := 26) x1 with ⟨j, hj, rfl, hj2⟩ | hx
  · have tj := t_lit j (by omega)
    by_cases c : j < 13
    · unfold fM_count
      rw [in_t (by rw [i_0, i12]; omega), sb, if_neg n10]
      rcases (show j = 0 ∨ j = 1 ∨ j = 2 ∨ j = 3 ∨ j = 4 ∨ j = 5 ∨ j = 6 ∨ j = 7 ∨ j = 8 ∨ j = 9 ∨ j = 10 ∨ j = 11 ∨ j = 12 by omega) with rfl | rfl | rfl | rfl | rfl | rfl | rfl | rfl | rfl | rfl | rfl | rfl | rfl
      · exact ⟨X.1 0 6, rfl, by rw [hs.1 6 (by decide) (by decide) (by decide)]; rfl⟩
      · exact ⟨X.1 0 19, rfl, by rw [hs.1 19 (by decide) (by decide) (by decide)]; rfl⟩
      · refine ⟨vo, ?_, ?_⟩
        · show (fS_clocksOff (X.1 0)).bind (fun q5 => some q5) = _
          rw [so]; rfl
        · show ((fM_clocksOff M).bind (fun q5 => some q5)).bind (fun q6 => some q6) = _
          rw [mo]; rfl
      · refine ⟨ve, ?_, ?_⟩
        · show (fS_clocksEmpty (X.1 0)).bind (fun q5 => some q5) = _
          rw [se]; rfl
        · show ((fM_clocksEmpty M).bind (fun q5 => some q5)).bind (fun q6 => some q6) = _
          rw [me]; rfl
      · exact ⟨X.1 0 14, rfl, by rw [hs.1 14 (by decide) (by decide) (by decide)]; rfl⟩
      · exact ⟨X.1 0 15, rfl, by rw [hs.1 15 (by decide) (by decide) (by decide)]; rfl⟩
      · refine ⟨M 0 16, ?_, rfl⟩
        show (fS_together (X.1 0) 10).bind (fun q => some q) = _
        rw [t10]; rfl
      · refine ⟨M 0 17, ?_, rfl⟩
        show (fS_together (X.1 0) 7).bind (fun q => some q) = _
        rw [t7]; rfl
      · refine ⟨un (X.1 0), ?_, ?_⟩
        · show (fS_untilNoon (X.1 0)).bind (fun q => some q) = _
          rw [su]; rfl
        · show (gd (nz ((12 : Int32) * (M 0 3))) (some (((12 : Int32) * (M 0 3)) - ((M 0 6) - (M 0 6) / ((12 : Int32) * (M 0 3)) * ((12 : Int32) * (M 0 3)))))).bind (fun q6 => some q6) = _
          rw [← hs.1 3 (by decide) (by decide) (by decide), ← hs.1 6 (by decide) (by decide) (by decide)]
          have hnz : nz (12 * X.1 0 3) = true := by
            unfold nz
            exact decide_eq_true (fun q => by rw [t_eq, e12, i_0] at q; have := hst.2.2.2.1; omega)
          have hd : X.1 0 6 / (12 * X.1 0 3) = qt (X.1 0 6) (12 * X.1 0 3) := by
            have := hst.2.2.2.1
            rw [t_eq, t_div' (by omega), qt_toInt (by omega), Int.tdiv_eq_ediv_of_nonneg hlo.1]
          rw [hnz, gd_t, hd]
          rfl
      · exact ⟨X.1 0 18, rfl, by rw [hs.1 18 (by decide) (by decide) (by decide)]; rfl⟩
      · refine ⟨M 0 95, ?_, rfl⟩
        show (fB_size (X.1 0)).bind (fun q => some q) = _
        rw [sz, hb.2.1]; rfl
      · exact ⟨X.1 13 0, rfl, by rw [h8]; rfl⟩
      · exact ⟨X.1 11 0, rfl, by rw [h11]; rfl⟩
    · by_cases d : j < 20
      · unfold fM_count
        rw [in_f (by rw [i_0, i12]; omega), sb, if_pos rfl, in_f (by rw [i20, i25]; omega), sb, if_pos rfl]
        rcases (show j = 13 ∨ j = 14 ∨ j = 15 ∨ j = 16 ∨ j = 17 ∨ j = 18 ∨ j = 19 by omega) with rfl | rfl | rfl | rfl | rfl | rfl | rfl <;> exact ⟨_, rfl, rfl⟩
      · unfold fM_count
        rw [in_f (by rw [i_0, i12]; omega), sb, if_pos rfl, in_t (by rw [i20, i25]; omega), sb, if_neg n10]
        rcases (show j = 20 ∨ j = 21 ∨ j = 22 ∨ j = 23 ∨ j = 24 ∨ j = 25 by omega) with rfl | rfl | rfl | rfl | rfl | rfl
        · exact ⟨X.1 0 0, rfl, by rw [hs.1 0 (by decide) (by decide) (by decide)]; rfl⟩
        · exact ⟨X.1 0 1, rfl, by rw [hs.1 1 (by decide) (by decide) (by decide)]; rfl⟩
        · exact ⟨X.1 0 2, rfl, by rw [hs.1 2 (by decide) (by decide) (by decide)]; rfl⟩
        · exact ⟨X.1 0 3, rfl, by rw [hs.1 3 (by decide) (by decide) (by decide)]; rfl⟩
        · exact ⟨X.1 0 4, rfl, by rw [hs.1 4 (by decide) (by decide) (by decide)]; rfl⟩
        · exact ⟨X.1 0 5, rfl, by rw [hs.1 5 (by decide) (by decide) (by decide)]; rfl⟩
  · unfold fX_count fM_count
    rw [if_pos (by omega), in_f (by rw [i_0, i12]; omega), sb, if_pos rfl, in_f (by rw [i20, i25]; omega), sb, if_pos rfl]
    exact ⟨_, rfl, rfl⟩
