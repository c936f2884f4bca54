/-! ## how much wax is best -/
theorem XRs_1 {w : Int} {st : Nat} {X X' : XS} {M : Nat → Nat → Int32} (h : XRs w st X M) (hB : X'.2 = X.2) (hC : ∀ a, a ≠ 1 → X'.1 a = X.1 a) : XRs w st X' M :=
  XRs_of h (Int.le_refl _) (by rw [hC 0 (by decide)]; exact h.2.1) hB (fun a _ g1 _ _ _ => hC a g1) (by rw [hC 11 (by decide)]) (fun _ _ _ _ _ _ => rfl) ⟨rfl, rfl⟩
theorem xnoon {w : Int} {st : Nat} {X : XS} {M : Nat → Nat → Int32} (h : XRs w st X M) (x1 : Int32) : CR w (fX_noonError X x1) (fM_noonError M x1) := by
  obtain ⟨n, hrr, h6, hw⟩ := id h.2.1
  have hn := hrr.1.1.2
  have h19 := hrr.1.1.1
  have m19 : M 0 19 = nI n := by rw [← hrr.2.2.1.1 19 (by decide) (by decide) (by decide)]; exact h19
  unfold fX_noonError fM_noonError
  rcases clk (n := n) x1 with ⟨k, hk, rfl, -⟩ | hx
  · have b1 := (hrr.1.2.2.2 k hk).2.1
    obtain ⟨r, X', M', q1, q2, q3, -, -⟩ := with_is (x2 := 0) h hrr h6 hw hk ⟨by decide, by rw [i_0]; omega⟩
    rw [clockAt_in h19 hk hn, sb, onN_s, mclock_in m19 hn hk, sb, if_neg n10, q1, q2]
    exact ⟨_, X', M', st, rfl, rfl, q3⟩
  · rw [clockAt_out h19 hn hx, sb, onN_n, mclock_out m19 hn hx, sb, if_pos rfl]
    exact h.err rfl rfl
/-- a trial from the whole as it was at first -/
def BI (w : Int) (st n k : Nat) (X0 X : XS) (M : Nat → Nat → Int32) : Prop := XRs w st X M ∧ (X.2 = X0.2 ∧ ∀ a, a ≠ 1 → X.1 a = X0.1 a) ∧ RR n (X0.1 0) (M 0)
theorem BI_step {w : Int} {st n k : Nat} {X0 X : XS} {M : Nat → Nat → Int32} {x2 : Int32} (h : BI w st n k X0 X M) (h6 : (X0.1 0 6).toInt ≤ 99999) (hw : WB (X0.1 0) n w) (hk : k < n) (hx : 0 ≤ x2.toInt ∧ x2.toInt < (X0.1 0 (KI k 1)).toInt) :
    ∃ r X' M', fX_noonErrorWith X (nI k) x2 = some (r, X') ∧ fM_errorAtNoon M (nI k) x2 = some (r, M') ∧ BI w st n k X0 X' M' ∧ ∃ Y, fX_noonErrorWith X0 (nI k) x2 = some (r, Y) := by
  obtain ⟨h1, ⟨h2, h3⟩, h4⟩ := h
  have e0 := h3 0 (by decide)
  obtain ⟨r, X', M', a1, a2, a3, ⟨a4, a5⟩, a6⟩ := with_is h1 (by rw [e0]; exact h4) (by rw [e0]; exact h6) (by rw [e0]; exact hw) hk (by rw [e0]; exact hx)
  obtain ⟨r', Y, N, c1, c2, -⟩ := with_is (XRs_1 h1 h2.symm (fun a ha => (h3 a ha).symm)) h4 h6 hw hk hx
  rw [a2] at c2
  have er : r = r' := congrArg Prod.fst (Option.some.inj c2)
  subst er
  exact ⟨r, X', M', a1, a2, ⟨a3, ⟨a4.trans h2, fun a ha => (a5 a ha).trans (h3 a ha)⟩, RR_move h4 (SR.refl _) a6⟩, Y, c1⟩
theorem wax_loop {w : Int} {st n k W : Nat} {X0 : XS} {y2 : Int32} (h6 : (X0.1 0 6).toInt ≤ 99999) (hw : WB (X0.1 0) n w) (hk : k < n) (hn : n ≤ 5) (hW : (X0.1 0 (KI k 1)).toInt = W) (hW6 : W ≤ 60) :
    ∀ (m i fu1 fu2 : Nat) (X : XS) (M : Nat → Nat → Int32) (j : Nat) (y5 : Int32), i + m = W → 1 ≤ i → m < fu1 → m < fu2 → j < W → BI w st n k X0 X M → (∃ Y, fX_noonErrorWith X0 (nI k) (nI j) = some (y5, Y)) →
    ∃ j' y5' X' M', fX_bestWax_L39 fu1 X (nI k) y2 k (nI j) y5 (nI i) = some (if y2 = 0 then nI j' else y5' + 10000, X') ∧ fM_waxFor_L16 fu2 M (nI k) (nI j) (ab y5) (nI i) = some (nI j', M') ∧ j' < W ∧ BI w st n k X0 X' M' ∧ ∃ Y, fX_noonErrorWith X0 (nI k) (nI j') = some (y5', Y) := by
  intro m
  induction m with
  | zero =>
    intro i fu1 fu2 X M j y5 hi h1 hf1 hf2 hj hb hy
    obtain ⟨fu1, rfl⟩ : ∃ q, fu1 = q + 1 := ⟨fu1 - 1, by omega⟩
    obtain ⟨fu2, rfl⟩ : ∃ q, fu2 = q + 1 := ⟨fu2 - 1, by omega⟩
    have e0 := hb.2.1.2 0 (by decide)
    have ti := t_lit i (by omega)
    have ew : M 0 (KI k 1) = X0.1 0 (KI k 1) := (hb.2.2.2.2.1.2 k 1 (by omega) (by decide)).symm
    refine ⟨j, y5, X, M, ?_, ?_, hj, hb, hy⟩
    · rw [fX_bestWax_L39, e0, if_pos (show X0.1 0 (KI k 1) ≤ nI i by rw [t_le]; omega)]
      split <;> rfl
    · rw [fM_waxFor_L16, of_1 M (by omega), sb, ew, if_pos (show X0.1 0 (KI k 1) ≤ nI i by rw [t_le]; omega)]
  | succ m ih =>
    intro i fu1 fu2 X M j y5 hi h1 hf1 hf2 hj hb hy
    obtain ⟨fu1, rfl⟩ : ∃ q, fu1 = q + 1 := ⟨fu1 - 1, by omega⟩
    obtain ⟨fu2, rfl⟩ : ∃ q, fu2 = q + 1 := ⟨fu2 - 1, by omega⟩
    have e0 := hb.2.1.2 0 (by decide)
    have ti := t_lit i (by omega)
    have ew : M 0 (KI k 1) = X0.1 0 (KI k 1) := (hb.2.2.2.2.1.2 k 1 (by omega) (by decide)).symm
    obtain ⟨r, X1, M1, a1, a2, a3, a4⟩ := BI_step (x2 := nI i) hb h6 hw hk (by omega)
    rw [fX_bestWax_L39, e0, if_neg (show ¬ X0.1 0 (KI k 1) ≤ nI i by rw [t_le]; omega), if_neg (show ¬ (60 : Int32) ≤ nI i by rw [t_le, i_60]; omega), a1, sb, abs_is, sb, abs_is, sb,
      fM_waxFor_L16, of_1 M (by omega), sb, ew, if_neg (show ¬ X0.1 0 (KI k 1) ≤ nI i by rw [t_le]; omega), a2, sb, msize_is, sb, ← nI_succ]
    dsimp only
    by_cases c : ab y5 ≤ ab r
    · rw [if_pos c, if_pos c, sb, if_pos c]
      exact ih (i + 1) fu1 fu2 X1 M1 j y5 (by omega) (by omega) (by omega) (by omega) hj a3 hy
    · rw [if_neg c, if_neg c, sb, if_neg c]
      exact ih (i + 1) fu1 fu2 X1 M1 i r (by omega) (by omega) (by omega) (by omega) (by omega) a3 a4
theorem xbest {w : Int} {st : Nat} {X : XS} {M : Nat → Nat → Int32} (h : XRs w st X M) (x1 x2 : Int32) : CR w (fX_bestWax X x1 x2) (fM_bestWax M x1 x2) := by
  obtain ⟨n, hrr, h6, hw⟩ := id h.2.1
  have hn := hrr.1.1.2
  have h19 := hrr.1.1.1
  have m19 : M 0 19 = nI n := by rw [← hrr.2.2.1.1 19 (by decide) (by decide) (by decide)]; exact h19
  unfold fX_bestWax fM_bestWax fM_waxFor
  rcases clk (n := n) x1 with ⟨k, hk, rfl, -⟩ | hx
  · rw [clockAt_in h19 hk hn, sb, onN_s, mclock_in m19 hn hk, sb, if_neg n10]
    by_cases c : 0 ≤ x2.toInt ∧ x2.toInt ≤ 1
    · have b1 := (hrr.1.2.2.2 k hk).2.1
      rw [in_t (by rw [i_0, i_1]; exact c), sb, if_neg n10, if_neg (show ¬ x2 < 0 by rw [t_lt, i_0]; omega), if_pos (show x2 ≤ 1 by rw [t_le, i_1]; omega)]
      have hb : BI w st n k X X M := ⟨h, ⟨rfl, fun _ _ => rfl⟩, hrr⟩
      obtain ⟨r, X1, M1, a1, a2, a3, a4⟩ := BI_step (x2 := 0) hb h6 hw hk ⟨by decide, by rw [i_0]; omega⟩
      obtain ⟨j', y5', X', M', c1, c2, c3, c4, Y, c5⟩ := wax_loop (y2 := x2) (W := (X.1 0 (KI k 1)).toInt.toNat) h6 hw hk hn (by omega) (by omega) ((X.1 0 (KI k 1)).toInt.toNat - 1) 1 fuel fuel X1 M1 0 r (by omega) (Nat.le_refl _) (by unfold fuel; omega) (by unfold fuel; omega) (by omega) a3 a4
      have c1' : fX_bestWax_L39 fuel X1 (nI k) x2 k 0 r 1 = some (if x2 = 0 then nI j' else y5' + 10000, X') := c1
      have c2' : fM_waxFor_L16 fuel M1 (nI k) 0 (ab r) 1 = some (nI j', M') := c2
      rw [a1, sb, a2, sb]
      dsimp only
      rw [c1', msize_is, sb, c2', sb]
      dsimp only
      by_cases d : x2 = 0
      · rw [if_pos d, if_pos d]
        exact ⟨_, X', M', st, rfl, rfl, c4.1⟩
      · rw [if_neg d, if_neg d]
        obtain ⟨r2, X2, M2, g1, g2, g3, Y2, g4⟩ := BI_step (x2 := nI j') c4 h6 hw hk (by rw [t_lit j' (by omega)]; omega)
        rw [c5] at g4
        have er : y5' = r2 := congrArg Prod.fst (Option.some.inj g4)
        subst er
        rw [g2]
        exact ⟨_, X', M2, st, rfl, rfl, XRs_1 g3.1 (c4.2.1.1.trans g3.2.1.1.symm) (fun a ha => (c4.2.1.2 a ha).trans (g3.2.1.2 a ha).symm)⟩
    · rw [in_f (by rw [i_0, i_1]; exact c), sb, if_pos rfl]
      by_cases d : x2 < 0
      · rw [if_pos d]; exact h.err rfl rfl
      · rw [if_neg d]
        rw [t_lt, i_0] at d
        rw [if_neg (by rw [t_le, i_1]; omega)]; exact h.err rfl rfl
  · rw [clockAt_out h19 hn hx, sb, onN_n, mclock_out m19 hn hx, sb, if_pos rfl]
    exact h.err rfl rfl
