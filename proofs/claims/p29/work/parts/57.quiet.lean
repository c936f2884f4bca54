/-! ## when nothing drips any more -/
def QU (c : Nat) (τ : Row) : Prop := τ (KI c 3) = 0 ∧ (¬ τ (KI c 0) = 0 → ¬ τ (KI c 0) = 1 → (τ (KI c 4)).toInt < (τ 1).toInt) ∧ (0 ≤ (τ (KI c 7)).toInt ∧ (τ (KI c 7)).toInt < (τ 2).toInt)
theorem up_0 {τ : Row} {n c : Nat} {b : Int} (h : IR τ n b) (hc : c < n) (hd : nd τ c = 0) : τ (KI c 3) = 0 := by
  have hcc := h.2.2.2 c hc
  have d := nd_i hcc.2.1 hcc.2.2.2.1
  rw [hd, i_0] at d
  rw [t_eq, i_0]
  have := hcc.2.2.2.1
  by_cases e : 0 < (τ (KI c 3)).toInt
  · have := d.2.2.2 e; omega
  · omega
theorem quiet_1 {τ : Row} {n c : Nat} {b : Int} (h : IR τ n b) (hc : c < n) (hd : nd τ c = 0) : QU c (cst τ c) := by
  have hcc := h.2.2.2 c hc
  have hst := h.2.1
  have u0 := up_0 h hc hd
  obtain ⟨a7, a1, a2, a12⟩ := aft_175 τ c
  have w4 := (wr_i (s := aft (s2 τ c) c (nd τ c)) (k := c) (by rw [a2]; exact hst.2.2.1) (by rw [a7, hd, Int32.add_zero]; have := hcc.2.2.2.2.2.2.2.1; omega) (by rw [a1]; exact hcc.2.1)).2.2.2.1
  refine ⟨?_, fun k0 k1 => ?_, ?_⟩
  · rw [cst_is, wr_out (KI_ne_f (by decide) (by decide) (by decide)) (KI_ne_f (by decide) (by decide) (by decide)) (KI_ne_f (by decide) (by decide) (by decide)), aft_own3, s2_3, hd, u0]
    rfl
  · rw [cst_own _ _ _ (by decide) (by omega)] at k0 k1
    rw [cst_lit τ c 1 (by decide) (by decide) (by decide) (by decide) (by decide) (by decide), cst_is, wr_out (KI_ne_f (by decide) (by decide) (by decide)) (KI_ne_f (by decide) (by decide) (by decide)) (KI_ne_f (by decide) (by decide) (by decide)), hd]
    have s0 : s2 τ c (KI c 0) = τ (KI c 0) := s2_f _ _ _ _ (by decide) (by decide) (by decide) (by decide)
    have s1 : s2 τ c 1 = τ 1 := s2_lit _ _ _ (by decide) (by decide)
    unfold aft
    rw [s0, if_neg k0, if_neg k1, s1]
    by_cases c2 : τ 1 ≤ s2 τ c (KI c 4) + 0
    · rw [if_pos c2, gon_out (fun t => KI_ne_f (by decide) (by decide) (by decide)) (KI_sc (by decide)) (KI_sc (by decide)) (KI_sc (by decide))]
      have e : skr (upd (s2 τ c) (KI c 4) (s2 τ c (KI c 4) + 0)) c (KI c 4) = 0 := by
        unfold skr
        rw [upd_ne _ (KI_sc (by decide)), upd_ne _ (KI_ne_f (by decide) (by decide) (by decide)), upd_ne _ (KI_ne_f (by decide) (by decide) (by decide)), upd_eq]
      rw [e, i_0]
      have := hst.2.1
      omega
    · rw [if_neg c2, upd_eq]
      rw [t_le] at c2
      omega
  · rw [show cst τ c 2 = τ 2 from cst_lit _ _ _ (by decide) (by decide) (by decide) (by decide) (by decide) (by decide), cst_is, w4, a2]
    have := hst.2.2.1
    exact ⟨Int.emod_nonneg _ (by omega), Int.emod_lt_of_pos _ (by omega)⟩
theorem quiet_keep {τ : Row} {c k : Nat} (h : QU c τ) (hk : c ≠ k) (hl : c ≠ ld τ k) : QU c (cst τ k) := by
  have l : ∀ i, i = 1 ∨ i = 2 → cst τ k i = τ i := fun i hi => cst_lit τ k i (by omega) (by omega) (by omega) (by omega) (by omega) (by omega)
  unfold QU
  rw [cst_far (by decide) hk hl, cst_far (by decide) hk hl, cst_far (by decide) hk hl, cst_far (by decide) hk hl, l 1 (by omega), l 2 (by omega)]
  exact h
theorem cT_0 {σ : Row} {n : Nat} {b : Int} (h : IP σ n b 0) : ∀ K, K ≤ n → cT K σ = 0 → ∀ k, k < K → nd (cF k σ) k = 0 := by
  intro K
  induction K with
  | zero => intro _ _ k hk; omega
  | succ K ih =>
    intro hK h0 k hk
    have hn := h.1.2
    have i := cT_i h K (by omega)
    have hc := (cF_IP h K (by omega)).ir.2.2.2 K (by omega)
    have d := nd_i (σ := cF K σ) (k := K) hc.2.1 hc.2.2.2.1
    have e : cT K σ + nd (cF K σ) K = 0 := h0
    have e' := congrArg Int32.toInt e
    rw [t_add (by omega) (by omega), i_0] at e'
    by_cases q : k = K
    · subst q; rw [t_eq, i_0]; omega
    · exact ih (by omega) (by rw [t_eq, i_0]; omega) k (by omega)
theorem quiet_all {σ : Row} {n K : Nat} {b : Int} (h : IP σ n b 0) (hK : K ≤ n) (h0 : cT K σ = 0) : ∀ k, k ≤ K → ∀ c, c < k → QU c (cF k σ) := by
  intro k
  induction k with
  | zero => intro _ c hc; omega
  | succ k ih =>
    intro hk c hc
    have hir := (cF_IP h k (by omega)).ir
    by_cases e : c = k
    · subst e; exact quiet_1 hir (by omega) (cT_0 h K hK h0 c (by omega))
    · have hl := (hir.2.2.2 k (by omega)).2.2.2.2.2.1.2.1
      exact quiet_keep (ih (by omega) c (by omega)) e (by omega)
theorem quiet_fix {τ : Row} {n k c f : Nat} {b : Int} (h : IR τ n b) (hk : k < n) (hq : QU k τ) (hc : c < n) (hf : Ph f) : cst τ k (KI c f) = τ (KI c f) := by
  have hn := h.1.2
  have hst := h.2.1
  have hkk := h.2.2.2 k hk
  obtain ⟨q3, q4, q7⟩ := hq
  have hd : nd τ k = 0 := by
    have d := nd_i hkk.2.1 hkk.2.2.2.1
    rw [q3, i_0] at d
    rw [t_eq, i_0]; omega
  have hf15 := Ph_lt hf
  have se : ∀ c f, Ph f → s2 τ k (KI c f) = τ (KI c f) := fun c f hf => by
    by_cases e : c = k
    · subst e
      by_cases f3 : f = 3
      · subst f3; rw [s2_3, hd, q3]; rfl
      · by_cases f7 : f = 7
        · subst f7; rw [s2_7, hd, Int32.add_zero]
        · exact s2_f _ _ _ _ f3 (by unfold Ph at hf; omega) f7 (Ph_lt hf)
    · exact s2_c _ _ _ _ e (Ph_lt hf)
  have l0 : s2 τ k 0 = τ 0 := s2_lit _ _ _ (by decide) (by decide)
  have l1 : s2 τ k 1 = τ 1 := s2_lit _ _ _ (by decide) (by decide)
  have e0 := se k 0 (by unfold Ph; omega)
  have e4 := se k 4 (by unfold Ph; omega)
  have ae : ∀ c f, c < n → Ph f → aft (s2 τ k) k (nd τ k) (KI c f) = τ (KI c f) := fun c f hc hf => by
    rw [hd]
    unfold aft
    rw [e0, l1, e4]
    by_cases c0 : τ (KI k 0) = 0
    · have hl := hkk.2.2.2.2.2.1.2.2
      have el : ld (s2 τ k) k = ld τ k := by unfold ld; rw [se k 5 (by unfold Ph; omega)]
      rw [if_pos c0, gon_0 (by rw [l0]; have := hst.1; omega) (by rw [el]; exact s2_up h hk hl), se c f hf]
    · rw [if_neg c0]
      by_cases c1 : τ (KI k 0) = 1
      · rw [if_pos c1]
        unfold ris
        have r := rm_i (v := τ 0) (x := τ (KI k 4)) (by have := hst.1; omega) hkk.2.2.2.2.1
        have m0 : mn 0 (rm (τ 0) (τ (KI k 4))) = 0 := by rw [t_eq, mn_i, i_0, r]; omega
        rw [upd_ne _ (KI_sc (by decide)), l0, e4, m0, Int32.add_zero]
        by_cases e : KI c f = KI k 4
        · rw [e, upd_eq]
        · rw [upd_ne _ e, se c f hf]
      · have g := q4 c0 c1
        rw [if_neg c1, Int32.add_zero, if_neg (by rw [t_le]; omega)]
        by_cases e : KI c f = KI k 4
        · rw [e, upd_eq]
        · rw [upd_ne _ e, se c f hf]
  have a7 := ae k 7 hk (by unfold Ph; omega)
  have a1 := ae k 1 hk (by unfold Ph; omega)
  have ac := ae c f hc hf
  obtain ⟨-, -, a2, -⟩ := aft_175 τ k
  have z : qt (τ (KI k 7)) (τ 2) = 0 := by
    rw [t_eq, qt_toInt (by omega), i_0]
    exact Int.ediv_eq_zero_of_lt q7.1 q7.2
  have b1 := hkk.2.1
  have g0 : wg (aft (s2 τ k) k (nd τ k)) k = 0 := by
    unfold wg
    rw [a7, a2, z, a1, t_eq, mn_i, i_0, t_sub (by rw [i_60]; omega) (by rw [i_60]; omega), i_60]
    omega
  rw [cst_is]
  by_cases w7 : KI c f = KI k 7
  · rw [w7, wr_7, a7, a2, z, Int32.zero_mul, Int32.sub_zero]
  · by_cases w1 : KI c f = KI k 1
    · rw [w1, wr_1, a1, g0, Int32.add_zero]
    · rw [wr_out w1 w7 (KI_ne_f (by unfold Ph at hf; omega) hf15 (by decide)), ac]
theorem TP.trans {K : Nat} {a b c : Row} (h1 : TP K a b) (h2 : TP K b c) : TP K a c := ⟨fun i hi => (h1.1 i hi).trans (h2.1 i hi), fun k f hk hf => (h1.2 k f hk hf).trans (h2.2 k f hk hf)⟩
theorem TP.refl (K : Nat) (a : Row) : TP K a a := ⟨fun _ _ => rfl, fun _ _ _ _ => rfl⟩
/-- a pass in which nothing dripped: what follows changes nothing -/
theorem quiet_cF {τ : Row} {n K : Nat} {b : Int} (h : IR τ n b) (hK : K ≤ n) (hq : ∀ c, c < K → QU c τ) : ∀ j, j ≤ K → TP K (cF j τ) τ
  | 0, _ => TP.refl K τ
  | j + 1, hj => (TP_cst (quiet_cF h hK hq j (by omega)) (by omega)).trans ⟨fun i hi => cst_lit _ _ _ (by omega) (by omega) (by omega) (by omega) (by omega) (by omega), fun c f hc hf => quiet_fix h (by omega) (hq j (by omega)) (by omega) hf⟩
