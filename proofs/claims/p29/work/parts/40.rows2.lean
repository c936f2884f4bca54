/-! ## truing, another pitch, jugs -/
theorem row_on {n k : Nat} {σ ρ σ' ρ' : Row} {w : Int} (h : RR n σ ρ) (h6 : (σ 6).toInt ≤ 99999) (hw : WB σ n w) (hk : k < n) (hl : ∀ i, i < 7 → σ' i = σ i) (h19 : σ' 19 = σ 19) (h14 : σ' 14 = σ 14) (hhi : ∀ i, 95 ≤ i → σ' i = σ i) (hhr : ∀ i, 95 ≤ i → ρ' i = ρ i)
    (ho : ∀ c f, c < 5 → f < 15 → c ≠ k → σ' (KI c f) = σ (KI c f)) (hcb : CB σ' n (σ 6).toInt k) (hwc : WC σ' w k) (hs : SH σ' ρ') (ht : ρ' 16 = tot ρ' 11 ∧ ρ' 17 = tot ρ' 8) : RR n σ' ρ' ∧ (σ' 6).toInt ≤ 99999 ∧ WB σ' n w := by
  obtain ⟨m, a, b, c⟩ := row_one h h6 hw hk hl h19 h14 hhi hhr ho hcb hwc hs ht
  have e : m = n := by
    have q : nI m = nI n := by rw [← a.1.1.1, h19, h.1.1.1]
    have m5 := a.1.1.2
    have n5 := h.1.1.2
    rw [t_eq, t_lit m (by omega), t_lit n (by omega)] at q
    omega
  subst e
  exact ⟨a, b, c⟩
theorem tru_own {σ : Row} {k f : Nat} {h : Int32} (hf : f < 15) (h13 : f ≠ 13) (h14 : f ≠ 14) (h11 : f ≠ 11) : tru σ k h (KI k f) = σ (KI k f) :=
  tru_out (KI_ne_f h13 hf (by decide)) (KI_ne_f h14 hf (by decide)) (KI_ne_f h11 hf (by decide))
theorem tru_13 (σ : Row) (k : Nat) (h : Int32) : tru σ k h (KI k 13) = h := by
  unfold tru; rw [upd_ne _ (KI_ne_f (by decide) (by decide) (by decide)), upd_ne _ (KI_ne_f (by decide) (by decide) (by decide)), upd_eq]
theorem tru_14 (σ : Row) (k : Nat) (h : Int32) : tru σ k h (KI k 14) = dc σ k := by
  unfold tru; rw [upd_ne _ (KI_ne_f (by decide) (by decide) (by decide)), upd_eq]
theorem tru_row {n k : Nat} {σ ρ : Row} {w : Int} (h : RR n σ ρ) (h6 : (σ 6).toInt ≤ 99999) (hw : WB σ n w) (hw5 : 5000 ≤ w) (hk : k < n) : RR n (tru σ k (th σ)) (upd (tru ρ k (th ρ)) 16 (ρ 16 + 1)) ∧ (tru σ k (th σ) 6).toInt ≤ 99999 ∧ WB (tru σ k (th σ)) n w := by
  obtain ⟨⟨⟨h19, hn⟩, hst, hlo, hcb⟩, hz, hs, ht, hb⟩ := id h
  have hkk := hcb k hk
  have hho := hst.2.2.2.1
  have t := th_i (σ := σ) hlo.1 hho.1
  have d := dc_i hlo.2.2 hkk
  have et : th σ = th ρ := th_of (hs.1 6 (by decide) (by decide) (by decide)) (hs.1 3 (by decide) (by decide) (by decide))
  have kk : ∀ f, f < 15 → σ (KI k f) = ρ (KI k f) := fun f hf => hs.2 k f (by omega) hf
  refine row_on h h6 hw hk (fun i hi => tru_lit (by omega)) (tru_lit (by decide)) (tru_lit (by decide)) (fun i hi => tru_hi (by omega) hi) (fun i hi => by rw [upd_ne _ (by omega), tru_hi (by omega) hi]) (fun c f hc hf e => tru_c hf e) ?_ ?_ ⟨fun i hi h16 h17 => ?_, fun c f hc hf => ?_⟩ ?_
  · have lj : ld (tru σ k (th σ)) k = ld σ k := by unfold ld; rw [tru_own (by decide) (by decide) (by decide) (by decide)]
    obtain ⟨b0, b1, b2, b3, b4, b5, b6, b7, b9, b13, b14⟩ := hkk
    unfold CB
    rw [lj, tru_13, tru_14, tru_own (by decide) (by decide) (by decide) (by decide), tru_own (by decide) (by decide) (by decide) (by decide), tru_own (by decide) (by decide) (by decide) (by decide), tru_own (by decide) (by decide) (by decide) (by decide), tru_own (by decide) (by decide) (by decide) (by decide), tru_own (by decide) (by decide) (by decide) (by decide), tru_own (by decide) (by decide) (by decide) (by decide), tru_own (by decide) (by decide) (by decide) (by decide)]
    exact ⟨b0, b1, b2, b3, b4, b5, b6, b7, b9, by omega, d⟩
  · exact dc_WC hkk hlo.2.2 hw5 (by have := hst.2.1; omega) (tru_own (by decide) (by decide) (by decide) (by decide)) (tru_own (by decide) (by decide) (by decide) (by decide)) (tru_own (by decide) (by decide) (by decide) (by decide)) (tru_14 _ _ _) (tru_lit (by decide))
  · rw [upd_ne _ h16, tru_lit (by omega), tru_lit (by omega)]; exact hs.1 i hi h16 h17
  · rw [upd_ne _ (KI_sc (by decide)), et]; exact tru_congr kk (hs.2 c f hc hf)
  · refine ⟨?_, ?_⟩
    · rw [upd_eq, tot_add (ρ := ρ) (x := 1) (show k < 5 by omega) (by rw [upd_ne _ (KI_sc (by decide)), tru_11]) (fun c hc e => by rw [upd_ne _ (KI_sc (by decide)), tru_c (by decide) e]), ht.1]
    · rw [upd_ne _ (by decide), tru_lit (by decide), ht.2]
      refine (tot_same (fun c hc => ?_)).symm
      rw [upd_ne _ (KI_sc (by decide))]
      by_cases e : c = k
      · subst e; exact tru_own (by decide) (by decide) (by decide) (by decide)
      · exact tru_c (by decide) e
theorem true_is {w : Int} {σ : Row} {M : Nat → Nat → Int32} (hw5 : 5000 ≤ w) (hw9 : w ≤ 500000) (h : RW w σ (M 0)) (x1 : Int32) : RES w σ M (fS_trueClock σ x1) (fM_trueNow M x1) := by
  obtain ⟨n, h, h6, hw⟩ := h
  obtain ⟨⟨⟨h19, hn⟩, hst, hlo, hcb⟩, hz, hs, ht, hb⟩ := id h
  have m19 : M 0 19 = nI n := by rw [← hs.1 19 (by decide) (by decide) (by decide)]; exact h19
  have m6 := hs.1 6 (by decide) (by decide) (by decide)
  have m3 := hs.1 3 (by decide) (by decide) (by decide)
  have hho := hst.2.2.2.1
  have i4 : (10000 : Int32).toInt = 10000 := rfl
  unfold fS_trueClock fM_trueNow
  rcases clk (n := n) x1 with ⟨k, hk, rfl, -⟩ | hx
  · have m2 := hs.2 k 2 (by omega) (by decide)
    have b2 := (hcb k hk).2.2.1
    have ee := er_i h.1 hk (hw k hk) hw5 (by omega)
    rw [clockAt_in h19 hk hn, sb, onN_s, mclock_in m19 hn hk, sb, if_neg n10, errorOf_is b2.1 hho.1, sb, trueHour_is hho.1, sb, trueTo_is, sb, merror_is (by omega) (by rw [← m2]; exact b2.1) (by rw [← m6]; exact hlo.1) (by rw [← m3]; exact hho.1), sb, mmakeTrue_is (by omega) (by rw [← m6]; exact hlo.1) (by rw [← m3]; exact hho.1), sb,
      ← er_congr m6 m3 (fun f hf => hs.2 k f (by omega) hf)]
    exact ⟨_, _, _, rfl, rfl, Or.inr ⟨by rw [t_add (by omega) (by omega)]; omega, n, tru_row h h6 hw hw5 hk⟩⟩
  · rw [clockAt_out h19 hn hx, sb, onN_n, mclock_out m19 hn hx, sb, if_pos rfl]; exact RES.err e1 rfl rfl
theorem pitch_is {w : Int} {σ : Row} {M : Nat → Nat → Int32} (hw5 : 5000 ≤ w) (h : RW w σ (M 0)) (x1 x2 : Int32) : RES w σ M (fS_changePitch σ x1 x2) (fM_pitchNow M x1 x2) := by
  obtain ⟨n, h, h6, hw⟩ := h
  obtain ⟨⟨⟨h19, hn⟩, hst, hlo, hcb⟩, hz, hs, ht, hb⟩ := id h
  have m19 : M 0 19 = nI n := by rw [← hs.1 19 (by decide) (by decide) (by decide)]; exact h19
  have m6 := hs.1 6 (by decide) (by decide) (by decide)
  have m3 := hs.1 3 (by decide) (by decide) (by decide)
  have hho := hst.2.2.2.1
  have i5 : (500 : Int32).toInt = 500 := rfl
  unfold fS_changePitch fM_pitchNow
  rcases clk (n := n) x1 with ⟨k, hk, rfl, -⟩ | hx
  · rw [clockAt_in h19 hk hn, sb, onN_s, mclock_in m19 hn hk, sb, if_neg n10]
    by_cases c : 1 ≤ x2.toInt ∧ x2.toInt ≤ 500
    · have hkk := hcb k hk
      have k2 := hs.2 k 2 (by omega) (by decide)
      have st1 : RR n (upd σ (KI k 2) x2) (upd (M 0) (KI k 2) x2) ∧ (upd σ (KI k 2) x2 6).toInt ≤ 99999 ∧ WB (upd σ (KI k 2) x2) n w := by
        refine row_on h h6 hw hk (fun i hi => uK_s _ (by omega)) (uK_s _ (by decide)) (uK_s _ (by decide)) (fun i hi => upd_ne _ (hi_KI (by omega) (by decide) hi)) (fun i hi => upd_ne _ (hi_KI (by omega) (by decide) hi)) (fun c f hc hf e => uK_c _ e hf (by decide)) ?_ ?_ (SH_upd hs) ?_
        · obtain ⟨b0, b1, b2, b3, b4, b5, b6, b7, b9, b13, b14⟩ := hkk
          have lj : ld (upd σ (KI k 2) x2) k = ld σ k := by unfold ld; rw [uK_f _ (by decide) (by decide) (by decide)]
          unfold CB
          rw [lj, upd_eq, uK_f _ (by decide) (by decide) (by decide), uK_f _ (by decide) (by decide) (by decide), uK_f _ (by decide) (by decide) (by decide), uK_f _ (by decide) (by decide) (by decide), uK_f _ (by decide) (by decide) (by decide), uK_f _ (by decide) (by decide) (by decide), uK_f _ (by decide) (by decide) (by decide), uK_f _ (by decide) (by decide) (by decide), uK_f _ (by decide) (by decide) (by decide)]
          exact ⟨b0, b1, c, b3, b4, b5, b6, b7, b9, b13, b14⟩
        · exact WC_congr (hw k hk) (uK_f _ (by decide) (by decide) (by decide)) (uK_f _ (by decide) (by decide) (by decide)) (uK_f _ (by decide) (by decide) (by decide)) (uK_f _ (by decide) (by decide) (by decide)) (uK_s _ (by decide))
        · rw [uK_s _ (by decide), uK_s _ (by decide), tot_same (fun c hc => uK_f _ (by decide) (by decide) (by decide)), tot_same (fun c hc => uK_f _ (by decide) (by decide) (by decide))]
          exact ht
      have b2 := hkk.2.2.1
      rw [in_t ⟨by rw [i_1]; omega, by omega⟩, sb, if_neg n10, if_neg (show ¬ x2 < 1 by rw [t_lt, i_1]; omega), if_pos (show x2 ≤ 500 by rw [t_le]; omega), lt_is, show fM_of M (nI k) 2 = some (M 0 (KI k 2)) from of_at M (v := 2) (by omega) (by decide), sb, ← k2,
        show fM_put M (nI k) 2 x2 = some (mw M (upd (M 0) (KI k 2) x2)) from put_at M (v := 2) _ (by omega) (by decide), sb, trueHour_is (by rw [uK_s _ (by decide)]; exact hho.1), sb, trueTo_is, sb, mmakeTrue_is (by omega) (by rw [mw_0, uK_s _ (by decide), ← m6]; exact hlo.1) (by rw [mw_0, uK_s _ (by decide), ← m3]; exact hho.1), sb, mw_0, mw_mw]
      exact ⟨_, _, _, rfl, rfl, Or.inr ⟨by omega, n, tru_row st1.1 st1.2.1 st1.2.2 hw5 hk⟩⟩
    · rw [in_f (by rw [i_1, i5]; exact c), sb, if_pos rfl]
      by_cases c1 : x2 < (1 : Int32)
      · rw [if_pos c1]; exact RES.err e1 rfl rfl
      · rw [if_neg c1]
        rw [t_lt, i_1] at c1
        rw [if_neg (by rw [t_le]; omega)]; exact RES.err e1 rfl rfl
  · rw [clockAt_out h19 hn hx, sb, onN_n, mclock_out m19 hn hx, sb, if_pos rfl]; exact RES.err e1 rfl rfl
