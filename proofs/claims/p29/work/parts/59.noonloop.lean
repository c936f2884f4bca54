/-! the trial up to a noon, in class and reference -/
theorem noon_end {σ : Row} {n k U : Nat} {b T : Int} (hir : IR σ n b) (hk : k < n) (hU : U ≤ 400) (h6 : (σ 6).toInt + U = T) (hT2 : T ≤ 199999) :
    fS_errorOf (upd σ 6 (σ 6 + nI U)) k = some (er (upd σ 6 (σ 6 + nI U)) k) ∧ (upd σ 6 (σ 6 + nI U) 6).toInt = T := by
  have tU := t_lit U (by omega)
  have h0 := hir.2.2.1
  refine ⟨errorOf_is ?_ ?_, ?_⟩
  · rw [upd_ne _ (KI_sc (by decide))]; exact (hir.2.2.2 k hk).2.2.1.1
  · rw [upd_ne _ (by decide)]; exact hir.2.1.2.2.2.1.1
  · rw [upd_eq, t_add (by omega) (by omega), tU]; exact h6
theorem noon_loop {n k U : Nat} {T : Int} (hk : k < n) (hU : U ≤ 400) (hT2 : T ≤ 199999) : ∀ (m t fu1 fu2 : Nat) (X : XS) (M : Nat → Nat → Int32) (φ : Row) (b : Int), t + m + 1 = U → m + 2 < fu1 → m + 1 < fu2 → IR (X.1 1) n b → b + m + 2 ≤ 200000 → (X.1 1 6).toInt + U = T →
    T % (12 * (X.1 1 3).toInt) = 0 → (U : Int) ≤ 12 * (X.1 1 3).toInt → (φ 6).toInt + m + 1 = T → IR φ n (φ 6).toInt → SH φ (M 0) → TQ k (X.1 1) φ →
    ∃ r X' ρ', fX_noonErrorWith_L48 fu1 X (nI k) k (nI U) (nI t) = some (r, X') ∧ ((fM_pass M).bind fun q => fM_errorAtNoon_L17 fu2 q.2 (nI k)) = (fM_putBack (mw M ρ')).bind (fun q => some (r, q)) ∧ X'.2 = X.2 ∧ ∀ a, a ≠ 1 → X'.1 a = X.1 a := by
  intro m
  induction m with
  | zero =>
    intro t fu1 fu2 X M φ b ht hf1 hf2 hir hb h6 hT hD hp hi hs hq
    obtain ⟨fu1, rfl⟩ : ∃ q, fu1 = q + 2 := ⟨fu1 - 2, by omega⟩
    obtain ⟨fu2, rfl⟩ : ∃ q, fu2 = q + 1 := ⟨fu2 - 1, by omega⟩
    have hn := hir.1.2
    have hip := IP.of hir (show b + 1 ≤ 200000 by omega)
    have hir' := (cF_IP hip (k + 1) (by omega)).ir
    have c6 : cF (k + 1) (X.1 1) 6 = X.1 1 6 := cF_lit (by decide) (by decide) (by decide) (by decide) (by decide) (by decide) _
    have c3 : cF (k + 1) (X.1 1) 3 = X.1 1 3 := cF_lit (by decide) (by decide) (by decide) (by decide) (by decide) (by decide) _
    obtain ⟨n1, n2⟩ := noon_end hir' hk hU (by rw [c6]; exact h6) hT2
    have hb6 : (φ 6).toInt + 1 ≤ 200000 := by omega
    obtain ⟨ρ1, p1, p2, -⟩ := pass_is (IP.of hi hb6) hs
    obtain ⟨q1, q2⟩ := ps_IR hi hb6
    have hst := TQ_step hi hb6 hk hq
    have e3 := hst.1.1 3 (by decide)
    have hm := mnoonerr (M := mw M ρ1) (fu := fu2) (by rw [q2]; exact q1) (by rw [mw_0]; exact p2) hk (by rw [← e3, c3, q2, show (φ 6).toInt + 1 = T by omega]; exact hT)
    have ee : er (ps n φ) k = er (upd (cF (k + 1) (X.1 1)) 6 (cF (k + 1) (X.1 1) 6 + nI U)) k := er_congrP (by rw [t_eq, n2, q2]; omega) (by rw [upd_ne _ (by decide), e3]) (fun f hf => by rw [upd_ne _ (KI_sc (by decide))]; exact (hst.1.2 k f (by omega) hf).symm) (by rw [upd_ne _ (KI_sc (by decide))]; exact hst.2.1.symm) (by rw [upd_ne _ (KI_sc (by decide))]; exact hst.2.2.symm)
    have hX : ∀ a, a ≠ 1 → setC (updA X.1 1 (cF (k + 1) (X.1 1))) 1 6 (updA X.1 1 (cF (k + 1) (X.1 1)) 1 6 + nI U) a = X.1 a := fun a ha => by unfold setC; rw [updA_ne _ ha, updA_ne _ ha]
    have hX1 : setC (updA X.1 1 (cF (k + 1) (X.1 1))) 1 6 (updA X.1 1 (cF (k + 1) (X.1 1)) 1 6 + nI U) 1 = upd (cF (k + 1) (X.1 1)) 6 (cF (k + 1) (X.1 1) 6 + nI U) := by unfold setC; rw [updA_same, updA_same]
    rw [p1, sb]
    dsimp only
    rw [hm, ee, fX_noonErrorWith_L48, if_neg (show ¬ nI U ≤ nI t from fun q => by rw [nle (by omega) (by omega)] at q; omega), drip_is hip (show k + 1 ≤ n by omega) (by rw [t_lit k (by omega)]; omega), sb, lt_is]
    dsimp only
    by_cases c : cT (k + 1) (X.1 1) = 0
    · rw [if_pos c, lt_is]
      dsimp only
      rw [hX1, n1, sb]
      exact ⟨_, _, _, rfl, rfl, rfl, hX⟩
    · rw [if_neg c, ← nI_succ, fX_noonErrorWith_L48, if_pos (show nI U ≤ nI (t + 1) from (nle (by omega) (by omega)).mpr (by omega)), lt_is]
      dsimp only
      rw [hX1, n1, sb]
      exact ⟨_, _, _, rfl, rfl, rfl, hX⟩
  | succ m ih =>
    intro t fu1 fu2 X M φ b ht hf1 hf2 hir hb h6 hT hD hp hi hs hq
    obtain ⟨fu1, rfl⟩ : ∃ q, fu1 = q + 1 := ⟨fu1 - 1, by omega⟩
    obtain ⟨fu2, rfl⟩ : ∃ q, fu2 = q + 1 := ⟨fu2 - 1, by omega⟩
    have hn := hir.1.2
    have hip := IP.of hir (show b + 1 ≤ 200000 by omega)
    have hir' := (cF_IP hip (k + 1) (by omega)).ir
    have c6 : cF (k + 1) (X.1 1) 6 = X.1 1 6 := cF_lit (by decide) (by decide) (by decide) (by decide) (by decide) (by decide) _
    have c3 : cF (k + 1) (X.1 1) 3 = X.1 1 3 := cF_lit (by decide) (by decide) (by decide) (by decide) (by decide) (by decide) _
    have hb6 : (φ 6).toInt + 1 ≤ 200000 := by omega
    obtain ⟨ρ1, p1, p2, -⟩ := pass_is (IP.of hi hb6) hs
    obtain ⟨q1, q2⟩ := ps_IR hi hb6
    have hst := TQ_step hi hb6 hk hq
    have e3 := hst.1.1 3 (by decide)
    rw [p1, sb]
    dsimp only
    rw [fX_noonErrorWith_L48, if_neg (show ¬ nI U ≤ nI t from fun q => by rw [nle (by omega) (by omega)] at q; omega), drip_is hip (show k + 1 ≤ n by omega) (by rw [t_lit k (by omega)]; omega), sb, lt_is]
    dsimp only
    by_cases c : cT (k + 1) (X.1 1) = 0
    · obtain ⟨n1, n2⟩ := noon_end hir' hk hU (by rw [c6]; exact h6) hT2
      have hX : ∀ a, a ≠ 1 → setC (updA X.1 1 (cF (k + 1) (X.1 1))) 1 6 (updA X.1 1 (cF (k + 1) (X.1 1)) 1 6 + nI U) a = X.1 a := fun a ha => by unfold setC; rw [updA_ne _ ha, updA_ne _ ha]
      have hX1 : setC (updA X.1 1 (cF (k + 1) (X.1 1))) 1 6 (updA X.1 1 (cF (k + 1) (X.1 1)) 1 6 + nI U) 1 = upd (cF (k + 1) (X.1 1)) 6 (cF (k + 1) (X.1 1) 6 + nI U) := by unfold setC; rw [updA_same, updA_same]
      obtain ⟨ρ', g⟩ := quiet_noon (T := T) hir' hk (quiet_all hip (show k + 1 ≤ n by omega) c (k + 1) (Nat.le_refl _)) (by rw [c3]; exact hT) hT2 _ n2 (fun i hi => upd_ne _ hi) (m + 1) (fu2 + 1) (mw M ρ1) (ps n φ) (by omega) (by rw [c3]; omega) (by rw [q2]; omega) (by rw [q2]; exact q1) (by rw [mw_0]; exact p2) hst
      rw [if_pos c, lt_is]
      dsimp only
      rw [hX1, n1, sb, g, mw_mw]
      exact ⟨_, _, _, rfl, rfl, rfl, hX⟩
    · have hnn := mnotnoon (M := mw M ρ1) (k := k) (fu := fu2) (φ := ps n φ) (n := n) (by rw [q2]; exact q1) (by rw [mw_0]; exact p2) (by rw [← e3, c3, q2, show (φ 6).toInt + 1 = T - ((m + 1 : Nat) : Int) by omega]; exact no_noon hT (by omega) (by omega))
      rw [if_neg c, ← nI_succ, hnn]
      have s1 : ((updA X.1 1 (cF (k + 1) (X.1 1)), X.2) : XS).1 1 = cF (k + 1) (X.1 1) := by dsimp only; rw [updA_same]
      obtain ⟨r, X', ρ', g1, g2, g3, g4⟩ := ih (t + 1) fu1 fu2 ((updA X.1 1 (cF (k + 1) (X.1 1)), X.2) : XS) (mw M ρ1) (ps n φ) (b + 1) (by omega) (by omega) (by omega) (by rw [s1]; exact hir') (by omega) (by rw [s1, c6]; exact h6) (by rw [s1, c3]; exact hT) (by rw [s1, c3]; exact hD) (by rw [q2]; omega) (by rw [q2]; exact q1) (by rw [mw_0]; exact p2) (by rw [s1]; exact hst)
      exact ⟨r, X', ρ', g1, by rw [g2, mw_mw], g3, fun a ha => by rw [g4 a ha]; exact updA_ne _ ha⟩
