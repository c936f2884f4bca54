/-! A TICK, whole: class and reference -/
theorem th_of {σ ρ : Row} (h6 : σ 6 = ρ 6) (h3 : σ 3 = ρ 3) : th σ = th ρ := by unfold th; rw [h6, h3]
theorem tru_congr {s s' : Row} {k i : Nat} {h : Int32} (hk : ∀ f, f < 15 → s (KI k f) = s' (KI k f)) (hi : s i = s' i) : tru s k h i = tru s' k h i := by
  unfold tru
  rw [dc_congr hk]
  simp only [upd_at, hk 11 (by decide), hi]
theorem tru_lit {σ : Row} {k n : Nat} {h : Int32} (hn : n < 20) : tru σ k h n = σ n := tru_out (sc_KI hn) (sc_KI hn) (sc_KI hn)
theorem tru_hi {σ : Row} {k n : Nat} {h : Int32} (hk : k < 5) (hn : 95 ≤ n) : tru σ k h n = σ n := tru_out (hi_KI hk (by decide) hn) (hi_KI hk (by decide) hn) (hi_KI hk (by decide) hn)
theorem tru_11 (σ : Row) (k : Nat) (h : Int32) : tru σ k h (KI k 11) = σ (KI k 11) + 1 := by unfold tru; rw [upd_eq]
theorem tru_c {σ : Row} {k c f : Nat} {h : Int32} (hf : f < 15) (e : c ≠ k) : tru σ k h (KI c f) = σ (KI c f) :=
  tru_out (fun q => e ((KI_eq_iff hf (by decide)).mp q).1) (fun q => e ((KI_eq_iff hf (by decide)).mp q).1) (fun q => e ((KI_eq_iff hf (by decide)).mp q).1)
/-- the reference's noon, clock by clock -/
theorem mnoon_L {M : Nat → Nat → Int32} {σ : Row} {n : Nat} (hn : n ≤ 5) (hc : σ 19 = nI n) (h6 : 0 ≤ (σ 6).toInt) (h3 : 1 ≤ (σ 3).toInt) (hp : ∀ k, k < n → 1 ≤ (σ (KI k 2)).toInt) :
    ∀ (m k : Nat) (ρ : Row), k + m = n → SH (nF k σ) ρ → ∀ fu, m < fu → ∃ ρn, fM_noon_L6 fu (mw M ρ) (nI k) = some (mw M ρn) ∧ SH (nF n σ) ρn ∧ (∀ i, 95 ≤ i → ρn i = ρ i) ∧ ρn 17 = ρ 17 ∧ tot ρn 8 = tot ρ 8 ∧ (ρ 16 = tot ρ 11 → ρn 16 = tot ρn 11) := by
  intro m
  induction m with
  | zero =>
    intro k ρ hk hs fu hf
    have e : k = n := by omega
    subst e
    obtain ⟨fu', rfl⟩ : ∃ q, fu = q + 1 := ⟨fu - 1, by omega⟩
    refine ⟨ρ, ?_, hs, fun _ _ => rfl, rfl, rfl, id⟩
    rw [fM_noon_L6, mw_0, ← hs.1 19 (by decide) (by decide) (by decide), nF_lit (by decide) (by decide) k hn, hc, if_pos (by rw [t_le]; omega)]
  | succ m ih =>
    intro k ρ hk hs fu hf
    obtain ⟨fu', rfl⟩ : ∃ q, fu = q + 1 := ⟨fu - 1, by omega⟩
    have hkn : k < n := by omega
    have hk5 : k < 5 := by omega
    have l : ∀ i, i < 20 → i ≠ 15 → i ≠ 16 → i ≠ 17 → ρ i = σ i := fun i hi a b d => by rw [← hs.1 i hi b d, nF_lit hi a k (by omega)]
    have lk : ∀ f, f < 15 → ρ (KI k f) = σ (KI k f) := fun f hf' => by rw [← hs.2 k f hk5 hf', nF_late hk5 hf' k (Nat.le_refl _)]
    have ee : er ρ k = er (nF k σ) k := (er_congr (hs.1 6 (by decide) (by decide) (by decide)) (hs.1 3 (by decide) (by decide) (by decide)) (fun f hf' => hs.2 k f hk5 hf')).symm
    have off : fM_isOff (mw M ρ) (nI k) = some (if ab (er (nF k σ) k) ≤ nF k σ 4 then 0 else 1) := by
      unfold fM_isOff
      rw [merror_is hk5 (by rw [mw_0, lk 2 (by decide)]; exact hp k hkn) (by rw [mw_0, l 6 (by decide) (by decide) (by decide) (by decide)]; exact h6) (by rw [mw_0, l 3 (by decide) (by decide) (by decide) (by decide)]; exact h3), sb, msize_is, sb, mw_0, ee, some_if, hs.1 4 (by decide) (by decide) (by decide)]
    have st : nF (k + 1) σ = nst (nF k σ) k := rfl
    have c19 : ¬ mw M ρ 0 19 ≤ nI k := by rw [mw_0, l 19 (by decide) (by decide) (by decide) (by decide), hc]; exact (nI5 hkn hn).2.1
    rw [fM_noon_L6, if_neg c19, off, sb, ← nI_succ]
    have pl4 : pl (nF k σ) 0 < 4 := Nat.mod_lt _ (by decide)
    by_cases c : ab (er (nF k σ) k) ≤ nF k σ 4
    · rw [if_pos c, if_pos rfl, sb, lt_is, set0, mw_0, mw_mw, if_pos rfl, Int32.add_zero, upd_self]
      have hs' : SH (nF (k + 1) σ) ρ := by
        rw [st]
        unfold nst
        rw [if_pos c]
        exact ⟨fun i hi a b => by rw [upd_ne _ (by omega)]; exact hs.1 i hi a b, fun c' f hc' hf' => by have := KI_lt hc' hf'; rw [upd_ne _ (by omega)]; exact hs.2 c' f hc' hf'⟩
      exact ih (k + 1) ρ (by omega) hs' fu' (by omega)
    · rw [if_neg c, if_neg (by decide), sb, lt_is, set0, mw_0, mw_mw, if_neg (by decide), mw_0, upd_ne _ (by decide), l 5 (by decide) (by decide) (by decide) (by decide)]
      have l5 : nF k σ 5 = σ 5 := nF_lit (by decide) (by decide) k (by omega)
      by_cases c5 : σ 5 = 1
      · rw [if_pos c5, mmakeTrue_is hk5 (by rw [mw_0, upd_ne _ (by decide), l 6 (by decide) (by decide) (by decide) (by decide)]; exact h6) (by rw [mw_0, upd_ne _ (by decide), l 3 (by decide) (by decide) (by decide) (by decide)]; exact h3), sb, mw_0, mw_mw]
        have et : th (upd ρ 15 (ρ 15 + 1)) = th (nF k σ) := th_of (by rw [upd_ne _ (by decide), hs.1 6 (by decide) (by decide) (by decide)]) (by rw [upd_ne _ (by decide), hs.1 3 (by decide) (by decide) (by decide)])
        rw [et, upd_ne _ (show (16 : Nat) ≠ 15 by decide)]
        have a : ∀ i, nF k σ i = ρ i → i < 95 → upd (upd (nF k σ) (100 + (pl (nF k σ) 0 * 5 + k)) (er (nF k σ) k)) 15 (nF k σ 15 + 1) i = upd ρ 15 (ρ 15 + 1) i := by
          intro i hi h95
          by_cases e : i = 15
          · subst e; rw [upd_eq, upd_eq, hi]
          · rw [upd_ne _ e, upd_ne _ (by omega), upd_ne _ e, hi]
        have ak : ∀ f, f < 15 → upd (upd (nF k σ) (100 + (pl (nF k σ) 0 * 5 + k)) (er (nF k σ) k)) 15 (nF k σ 15 + 1) (KI k f) = upd ρ 15 (ρ 15 + 1) (KI k f) := fun f hf' => a _ (hs.2 k f hk5 hf') (KI_lt hk5 hf')
        have hs' : SH (nF (k + 1) σ) (upd (tru (upd ρ 15 (ρ 15 + 1)) k (th (nF k σ))) 16 (ρ 16 + 1)) := by
          rw [st]
          unfold nst
          rw [if_neg c, l5, if_pos c5]
          refine ⟨fun i hi h16 h17 => ?_, fun c' f hc' hf' => ?_⟩
          · rw [upd_ne _ h16]
            exact tru_congr ak (a i (hs.1 i hi h16 h17) (by omega))
          · rw [upd_ne _ (KI_sc (by decide))]
            exact tru_congr ak (a _ (hs.2 c' f hc' hf') (KI_lt hc' hf'))
        obtain ⟨ρn, q1, q2, q3, q4, q5, q6⟩ := ih (k + 1) _ (by omega) hs' fu' (by omega)
        refine ⟨ρn, q1, q2, fun i hi => ?_, ?_, ?_, fun q => q6 ?_⟩
        · rw [q3 i hi, upd_ne _ (by omega), tru_hi hk5 hi, upd_ne _ (by omega)]
        · rw [q4, upd_ne _ (by decide), tru_lit (by decide), upd_ne _ (by decide)]
        · rw [q5]
          refine tot_same (fun c' hc' => ?_)
          rw [upd_ne _ (KI_sc (by decide))]
          by_cases e : c' = k
          · subst e
            rw [tru_out (KI_ne_f (by decide) (by decide) (by decide)) (KI_ne_f (by decide) (by decide) (by decide)) (KI_ne_f (by decide) (by decide) (by decide)), upd_ne _ (KI_sc (by decide))]
          · rw [tru_c (by decide) e, upd_ne _ (KI_sc (by decide))]
        · rw [upd_eq, q]
          refine (tot_add hk5 ?_ (fun c' _ e => ?_)).symm
          · rw [upd_ne _ (KI_sc (by decide)), tru_11, upd_ne _ (KI_sc (by decide))]
          · rw [upd_ne _ (KI_sc (by decide)), tru_c (by decide) e, upd_ne _ (KI_sc (by decide))]
      · rw [if_neg c5]
        have hs' : SH (nF (k + 1) σ) (upd ρ 15 (ρ 15 + 1)) := by
          rw [st]
          unfold nst
          rw [if_neg c, l5, if_neg c5]
          refine ⟨fun i hi h16 h17 => ?_, fun c' f hc' hf' => ?_⟩
          · by_cases e : i = 15
            · subst e; rw [upd_eq, upd_eq, hs.1 15 (by decide) (by decide) (by decide)]
            · rw [upd_ne _ e, upd_ne _ (by omega), upd_ne _ e]; exact hs.1 i hi h16 h17
          · have := KI_lt hc' hf'
            rw [upd_ne _ (KI_sc (by decide)), upd_ne _ (by omega), upd_ne _ (KI_sc (by decide))]; exact hs.2 c' f hc' hf'
        obtain ⟨ρn, q1, q2, q3, q4, q5, q6⟩ := ih (k + 1) _ (by omega) hs' fu' (by omega)
        refine ⟨ρn, q1, q2, fun i hi => ?_, ?_, ?_, fun q => q6 ?_⟩
        · rw [q3 i hi, upd_ne _ (by omega)]
        · rw [q4, upd_ne _ (by decide)]
        · rw [q5]
          exact tot_same (fun c' hc' => by rw [upd_ne _ (KI_sc (by decide))])
        · rw [upd_ne _ (by decide), q]
          exact (tot_same (fun c' hc' => by rw [upd_ne _ (KI_sc (by decide))])).symm
