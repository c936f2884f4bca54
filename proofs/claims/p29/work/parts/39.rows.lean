/-! ## calls on one clock -/
theorem SH_upd {σ ρ : Row} {i : Nat} {v : Int32} (h : SH σ ρ) : SH (upd σ i v) (upd ρ i v) := by
  refine ⟨fun j hj h16 h17 => ?_, fun c f hc hf => ?_⟩
  · rw [upd_at, upd_at, h.1 j hj h16 h17]
  · rw [upd_at, upd_at, h.2 c f hc hf]
theorem CB_congr {σ σ' : Row} {n c : Nat} {b : Int} (h : CB σ n b c) (hk : ∀ f, f < 15 → σ' (KI c f) = σ (KI c f)) : CB σ' n b c := by
  unfold CB ld at *
  rw [hk 0 (by decide), hk 1 (by decide), hk 2 (by decide), hk 3 (by decide), hk 4 (by decide), hk 5 (by decide), hk 7 (by decide), hk 9 (by decide), hk 13 (by decide), hk 14 (by decide)]
  exact h
theorem row_one {n k : Nat} {σ ρ σ' ρ' : Row} {w : Int} (h : RR n σ ρ) (h6 : (σ 6).toInt ≤ 99999) (hw : WB σ n w) (hk : k < n) (hl : ∀ i, i < 7 → σ' i = σ i) (h19 : σ' 19 = σ 19) (h14 : σ' 14 = σ 14) (hhi : ∀ i, 95 ≤ i → σ' i = σ i) (hhr : ∀ i, 95 ≤ i → ρ' i = ρ i)
    (ho : ∀ c f, c < 5 → f < 15 → c ≠ k → σ' (KI c f) = σ (KI c f)) (hcb : CB σ' n (σ 6).toInt k) (hwc : WC σ' w k) (hs : SH σ' ρ') (ht : ρ' 16 = tot ρ' 11 ∧ ρ' 17 = tot ρ' 8) : RW w σ' ρ' := by
  have e6 := hl 6 (by decide)
  have hn := h.1.1.2
  refine ⟨n, ⟨⟨⟨by rw [h19]; exact h.1.1.1, hn⟩, ST_of (fun i hi => hl i (by omega)) h.1.2.1, by rw [e6]; exact h.1.2.2.1, fun c hc => ?_⟩, fun c f hc hc5 hf => ?_, hs, ht, BK_congr h.2.2.2.2 h14 (by rw [e6]; exact Int.le_refl _) hhi hhr⟩, by rw [e6]; exact h6, fun c hc => ?_⟩
  · rw [e6]
    by_cases e : c = k
    · subst e; exact hcb
    · exact CB_congr (h.1.2.2.2 c hc) (fun f hf => ho c f (by omega) hf e)
  · rw [ho c f hc5 hf (by omega)]; exact h.2.1 c f hc hc5 hf
  · by_cases e : c = k
    · subst e; exact hwc
    · exact WC_congr (hw c hc) (ho c 0 (by omega) (by decide) e) (ho c 4 (by omega) (by decide) e) (ho c 9 (by omega) (by decide) e) (ho c 14 (by omega) (by decide) e) (hl 1 (by decide))
theorem mclock_in {M : Nat → Nat → Int32} {n k : Nat} (h19 : M 0 19 = nI n) (hn : n ≤ 5) (hk : k < n) : fM_isClock M (nI k) = some 1 := by
  have a := t_lit n (by omega)
  have b := t_lit k (by omega)
  unfold fM_isClock
  rw [in_t ⟨by rw [b, i_0]; omega, by rw [h19, t_sub (by rw [a, i_1]; omega) (by rw [a, i_1]; omega), a, b, i_1]; omega⟩, sb, show isZ 1 = true from by decide, gd_t]
theorem mclock_out {M : Nat → Nat → Int32} {n : Nat} {x : Int32} (h19 : M 0 19 = nI n) (hn : n ≤ 5) (hx : ¬ (0 ≤ x.toInt ∧ x.toInt < (n : Int))) : fM_isClock M x = some 0 := by
  have a := t_lit n (by omega)
  unfold fM_isClock
  rw [in_f (by rw [h19, t_sub (by rw [a, i_1]; omega) (by rw [a, i_1]; omega), a, i_1, i_0]; omega), sb, show isZ 0 = true from by decide, gd_t]
theorem n10 : ¬ (1 : Int32) = 0 := by decide
/-- the clock that a number names -/
theorem clk {n : Nat} (x : Int32) : (∃ k, k < n ∧ x = nI k ∧ 0 ≤ x.toInt ∧ x.toInt < (n : Int)) ∨ ¬ (0 ≤ x.toInt ∧ x.toInt < (n : Int)) := by
  by_cases c : 0 ≤ x.toInt ∧ x.toInt < (n : Int)
  · exact Or.inl ⟨x.toInt.toNat, by omega, nI_back c.1, c⟩
  · exact Or.inr c
theorem lead_is {w : Int} {σ : Row} {M : Nat → Nat → Int32} (h : RW w σ (M 0)) (x1 x2 : Int32) : RES w σ M (fS_leadOn σ x1 x2) (fM_leadNow M x1 x2) := by
  obtain ⟨n, h, h6, hw⟩ := h
  obtain ⟨⟨⟨h19, hn⟩, hst, hlo, hcb⟩, hz, hs, ht, hb⟩ := id h
  have m19 : M 0 19 = nI n := by rw [← hs.1 19 (by decide) (by decide) (by decide)]; exact h19
  unfold fS_leadOn fM_leadNow
  rcases clk (n := n) x1 with ⟨k, hk, rfl, -⟩ | hx
  · rw [clockAt_in h19 hk hn, sb, onN_s, mclock_in m19 hn hk, sb, if_neg n10]
    rcases clk (n := n) x2 with ⟨j, hj, rfl, -⟩ | hx2
    · rw [clockAt_in h19 hj hn, sb, onN_s, mclock_in m19 hn hj, sb, if_neg n10]
      by_cases c : k ≤ j
      · have c' : nI k ≤ nI j := (nle (by omega) (by omega)).mpr c
        have hkk := hcb k hk
        have k0 := hs.2 k 0 (by omega) (by decide)
        have k5 := hs.2 k 5 (by omega) (by decide)
        rw [if_pos c', if_pos c', show (0 : Int32) = nI 0 from rfl, of_at M (by omega) (by decide), sb, ← k0]
        by_cases c2 : σ (KI k 0) = 1
        · rw [if_pos c2, if_pos c2]; exact RES.err e2 rfl rfl
        · rw [if_neg c2, if_neg c2, lt_is, show (5 : Int32) = nI 5 from rfl, of_at M (by omega) (by decide), sb, put_at M _ (by omega) (by decide), sb]
          have lj : ld (upd σ (KI k 5) (nI j)) k = j := by unfold ld; rw [upd_eq, cl_nI (by omega)]
          have tj := t_lit (ld σ k) (by have := hkk.2.2.2.2.2.1; omega)
          refine ⟨_, _, _, rfl, by rw [k5], Or.inr ⟨by rw [hkk.2.2.2.2.2.1.1, tj]; omega, ?_⟩⟩
          refine row_one h h6 hw hk (fun i hi => uK_s _ (by omega)) (uK_s _ (by decide)) (uK_s _ (by decide)) (fun i hi => upd_ne _ (hi_KI (by omega) (by decide) hi)) (fun i hi => upd_ne _ (hi_KI (by omega) (by decide) hi)) (fun c f hc hf e => uK_c _ e hf (by decide)) ?_ ?_ (SH_upd hs) ?_
          · obtain ⟨b0, b1, b2, b3, b4, b5, b6, b7, b9, b13, b14⟩ := hkk
            unfold CB
            rw [lj, upd_eq, uK_f _ (by decide) (by decide) (by decide), uK_f _ (by decide) (by decide) (by decide), uK_f _ (by decide) (by decide) (by decide), uK_f _ (by decide) (by decide) (by decide), uK_f _ (by decide) (by decide) (by decide), uK_f _ (by decide) (by decide) (by decide), uK_f _ (by decide) (by decide) (by decide), uK_f _ (by decide) (by decide) (by decide), uK_f _ (by decide) (by decide) (by decide)]
            exact ⟨b0, b1, b2, b3, b4, ⟨rfl, c, hj⟩, fun q => absurd q c2, b7, b9, b13, b14⟩
          · exact WC_congr (hw k hk) (uK_f _ (by decide) (by decide) (by decide)) (uK_f _ (by decide) (by decide) (by decide)) (uK_f _ (by decide) (by decide) (by decide)) (uK_f _ (by decide) (by decide) (by decide)) (uK_s _ (by decide))
          · rw [uK_s _ (by decide), uK_s _ (by decide), tot_same (fun c hc => uK_f _ (by decide) (by decide) (by decide)), tot_same (fun c hc => uK_f _ (by decide) (by decide) (by decide))]
            exact ht
      · have c' : ¬ nI k ≤ nI j := fun q => c ((nle (by omega) (by omega)).mp q)
        rw [if_neg c', if_neg c']; exact RES.err e1 rfl rfl
    · rw [clockAt_out h19 hn hx2, sb, onN_n, mclock_out m19 hn hx2, sb, if_pos rfl]; exact RES.err e1 rfl rfl
  · rw [clockAt_out h19 hn hx, sb, onN_n, mclock_out m19 hn hx, sb, if_pos rfl]; exact RES.err e1 rfl rfl
theorem wax_is {w : Int} {σ : Row} {M : Nat → Nat → Int32} (h : RW w σ (M 0)) (x1 x2 : Int32) : RES w σ M (fS_narrow σ x1 x2) (fM_waxNow M x1 x2) := by
  obtain ⟨n, h, h6, hw⟩ := h
  obtain ⟨⟨⟨h19, hn⟩, hst, hlo, hcb⟩, hz, hs, ht, hb⟩ := id h
  have m19 : M 0 19 = nI n := by rw [← hs.1 19 (by decide) (by decide) (by decide)]; exact h19
  have i59 : (59 : Int32).toInt = 59 := rfl
  unfold fS_narrow fM_waxNow
  rcases clk (n := n) x1 with ⟨k, hk, rfl, -⟩ | hx
  · rw [clockAt_in h19 hk hn, sb, onN_s, mclock_in m19 hn hk, sb, if_neg n10]
    by_cases c : 1 ≤ x2.toInt ∧ x2.toInt ≤ 59
    · have hkk := hcb k hk
      have k1 := hs.2 k 1 (by omega) (by decide)
      have b1 := hkk.2.1
      have es := t_sub (a := σ (KI k 1)) (b := x2) (by omega) (by omega)
      rw [in_t ⟨by rw [i_1]; omega, by omega⟩, sb, if_neg n10, if_neg (show ¬ x2 < 1 by rw [t_lt, i_1]; omega), if_pos (show x2 < 60 by rw [t_lt, i_60]; omega), show fM_of M (nI k) 1 = some (M 0 (KI k 1)) from of_at M (v := 1) (by omega) (by decide), sb, ← k1]
      by_cases c2 : (1 : Int32) ≤ σ (KI k 1) - x2
      · rw [if_pos c2, if_pos c2, lt_is, show fM_add M (nI k) 1 (-x2) = some (mw M (upd (M 0) (KI k 1) (M 0 (KI k 1) + -x2))) from add_at M (v := 1) _ (by omega) (by decide), sb, ← Int32.sub_eq_add_neg, ← k1, show fM_of (mw M (upd (M 0) (KI k 1) (σ (KI k 1) - x2))) (nI k) 1 = some (mw M (upd (M 0) (KI k 1) (σ (KI k 1) - x2)) 0 (KI k 1)) from of_at _ (v := 1) (by omega) (by decide), sb, mw_0, upd_eq, upd_eq]
        rw [t_le, i_1, es] at c2
        refine ⟨_, _, _, rfl, rfl, Or.inr ⟨by rw [es]; omega, ?_⟩⟩
        refine row_one h h6 hw hk (fun i hi => uK_s _ (by omega)) (uK_s _ (by decide)) (uK_s _ (by decide)) (fun i hi => upd_ne _ (hi_KI (by omega) (by decide) hi)) (fun i hi => upd_ne _ (hi_KI (by omega) (by decide) hi)) (fun c f hc hf e => uK_c _ e hf (by decide)) ?_ ?_ (SH_upd hs) ?_
        · obtain ⟨b0, b1, b2, b3, b4, b5, b6, b7, b9, b13, b14⟩ := hkk
          have lj : ld (upd σ (KI k 1) (σ (KI k 1) - x2)) k = ld σ k := by unfold ld; rw [uK_f _ (by decide) (by decide) (by decide)]
          unfold CB
          rw [lj, upd_eq, uK_f _ (by decide) (by decide) (by decide), uK_f _ (by decide) (by decide) (by decide), uK_f _ (by decide) (by decide) (by decide), uK_f _ (by decide) (by decide) (by decide), uK_f _ (by decide) (by decide) (by decide), uK_f _ (by decide) (by decide) (by decide), uK_f _ (by decide) (by decide) (by decide), uK_f _ (by decide) (by decide) (by decide), uK_f _ (by decide) (by decide) (by decide)]
          exact ⟨b0, by omega, b2, b3, b4, b5, b6, b7, b9, b13, b14⟩
        · exact WC_congr (hw k hk) (uK_f _ (by decide) (by decide) (by decide)) (uK_f _ (by decide) (by decide) (by decide)) (uK_f _ (by decide) (by decide) (by decide)) (uK_f _ (by decide) (by decide) (by decide)) (uK_s _ (by decide))
        · rw [uK_s _ (by decide), uK_s _ (by decide), tot_same (fun c hc => uK_f _ (by decide) (by decide) (by decide)), tot_same (fun c hc => uK_f _ (by decide) (by decide) (by decide))]
          exact ht
      · rw [if_neg c2, if_neg c2]; exact RES.err e2 rfl rfl
    · rw [in_f (by rw [i_1, i59]; exact c), sb, if_pos rfl]
      by_cases c1 : x2 < (1 : Int32)
      · rw [if_pos c1]; exact RES.err e1 rfl rfl
      · rw [if_neg c1]
        rw [t_lt, i_1] at c1
        rw [if_neg (by rw [t_lt, i_60]; omega)]; exact RES.err e1 rfl rfl
  · rw [clockAt_out h19 hn hx, sb, onN_n, mclock_out m19 hn hx, sb, if_pos rfl]; exact RES.err e1 rfl rfl
