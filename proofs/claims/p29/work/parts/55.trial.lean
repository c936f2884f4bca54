/-! ## trials: the clocks up to one, dripped alone -/
def Ph (f : Nat) : Prop := f = 0 ∨ f = 1 ∨ f = 2 ∨ f = 3 ∨ f = 4 ∨ f = 5 ∨ f = 7 ∨ f = 9
theorem aft_congrP {s s' : Row} {k i : Nat} {d : Int32} (h0 : s 0 = s' 0) (h1 : s 1 = s' 1) (hk : ∀ f, Ph f → s (KI k f) = s' (KI k f)) (g8 : i ≠ 8) (g9 : i ≠ 9) (g12 : i ≠ 12) (g13 : i ≠ 13) (gk : i ≠ KI k 8) (hi : s i = s' i) : aft s k d i = aft s' k d i := by
  have e0 := hk 0 (by unfold Ph; omega)
  have e4 := hk 4 (by unfold Ph; omega)
  have e5 := hk 5 (by unfold Ph; omega)
  have e9 := hk 9 (by unfold Ph; omega)
  have el : ld s k = ld s' k := by unfold ld; rw [e5]
  have key : ∀ (a a' : Row) (x : Int32), a 0 = s 0 → a' 0 = s' 0 → ld a k = ld s k → ld a' k = ld s' k → a i = a' i → gon a k x i = gon a' k x i := by
    intro a a' x b0 b0' bl bl' bi
    unfold gon
    rw [bl, bl', el]
    by_cases c : ld s' k = k
    · rw [if_pos c, if_pos c]; simp [upd_at, g8, bi]
    · rw [if_neg c, if_neg c]
      unfold ent
      by_cases ci : i = KI (ld s' k) 3
      · subst ci
        simp [upd_at, KI_lit2, b0, b0', h0, bi]
      · simp [upd_at, g9, g12, ci, bi]
  unfold aft
  rw [e0, h1, e4]
  by_cases c0 : s' (KI k 0) = 0
  · rw [if_pos c0, if_pos c0]; exact key s s' d rfl rfl rfl rfl hi
  · rw [if_neg c0, if_neg c0]
    by_cases c1 : s' (KI k 0) = 1
    · rw [if_pos c1, if_pos c1]; simp [ris, upd_at, g9, h0, e4, hi]
    · rw [if_neg c1, if_neg c1]
      by_cases c2 : s' 1 ≤ s' (KI k 4) + d
      · rw [if_pos c2, if_pos c2]
        refine key _ _ _ ?_ ?_ ?_ ?_ ?_
        · simp [skr, upd_at, KI_lit1]
        · simp [skr, upd_at, KI_lit1]
        · unfold ld; rw [skr_at _ _ _ _ (by decide) (by decide) (by decide) (by decide), uK_f _ (by decide) (by decide) (by decide)]
        · unfold ld; rw [skr_at _ _ _ _ (by decide) (by decide) (by decide) (by decide), uK_f _ (by decide) (by decide) (by decide)]
        · simp [skr, upd_at, KI_KI, KI_lit1, g13, gk, e4, e9, h1, hi]
      · rw [if_neg c2, if_neg c2]; simp [upd_at, hi]
theorem Ph_lt {f : Nat} (h : Ph f) : f < 15 := by unfold Ph at h; omega
/-- rows alike in what drips: settings, and the clocks ahead of K -/
def TP (K : Nat) (σ φ : Row) : Prop := (∀ i, i < 6 → σ i = φ i) ∧ ∀ c f, c < K → Ph f → σ (KI c f) = φ (KI c f)
theorem TP_nd {K k : Nat} {σ φ : Row} (h : TP K σ φ) (hk : k < K) : nd σ k = nd φ k := by
  unfold nd
  rw [h.2 k 3 hk (by unfold Ph; omega), h.2 k 1 hk (by unfold Ph; omega)]
theorem TP_cst {K k : Nat} {σ φ : Row} (h : TP K σ φ) (hk : k < K) : TP K (cst σ k) (cst φ k) := by
  refine ⟨fun i hi => ?_, fun c f hc hf => ?_⟩
  · rw [cst_lit _ _ _ (by omega) (by omega) (by omega) (by omega) (by omega) (by omega), cst_lit _ _ _ (by omega) (by omega) (by omega) (by omega) (by omega) (by omega)]; exact h.1 i hi
  · have en := TP_nd h hk
    have hf15 := Ph_lt hf
    have es : ∀ c f, c < K → Ph f → s2 σ k (KI c f) = s2 φ k (KI c f) := fun c f hc hf => by
      have hf15 := Ph_lt hf
      have e3 := h.2 k 3 hk (by unfold Ph; omega)
      have e7 := h.2 k 7 hk (by unfold Ph; omega)
      have n6 : f ≠ 6 := by unfold Ph at hf; omega
      have ei := h.2 c f hc hf
      unfold s2 lt3
      rw [en]
      simp [upd_at, KI_lit2, KI_KI, hf15, n6, e3, e7, ei]
    have h8 : f ≠ 8 := by unfold Ph at hf; omega
    have h12 : f ≠ 12 := by unfold Ph at hf; omega
    have ea : ∀ c f, c < K → Ph f → aft (s2 σ k) k (nd σ k) (KI c f) = aft (s2 φ k) k (nd φ k) (KI c f) := fun c f hc hf => by
      rw [en]
      have h8 : f ≠ 8 := by unfold Ph at hf; omega
      exact aft_congrP (by rw [s2_lit _ _ _ (by decide) (by decide), s2_lit _ _ _ (by decide) (by decide)]; exact h.1 0 (by decide)) (by rw [s2_lit _ _ _ (by decide) (by decide), s2_lit _ _ _ (by decide) (by decide)]; exact h.1 1 (by decide)) (fun f hf => es k f hk hf) (KI_sc (by decide)) (KI_sc (by decide)) (KI_sc (by decide)) (KI_sc (by decide)) (KI_ne_f h8 (Ph_lt hf) (by decide)) (es c f hc hf)
    have al : ∀ (τ : Row) d, aft (s2 τ k) k d 2 = τ 2 := fun τ d => by
      have := cst_lit τ k 2 (by decide) (by decide) (by decide) (by decide) (by decide) (by decide)
      unfold aft
      split
      · unfold gon ent; split <;> simp [upd_at, KI_lit1, s2_lit]
      · split
        · unfold ris; simp [upd_at, KI_lit1, s2_lit]
        · split
          · unfold gon ent skr; split <;> simp [upd_at, KI_lit1, s2_lit]
          · simp [upd_at, KI_lit1, s2_lit]
    rw [cst_is, cst_is]
    have a1 := ea k 1 hk (by unfold Ph; omega)
    have a7 := ea k 7 hk (by unfold Ph; omega)
    have ai := ea c f hc hf
    have e2 : aft (s2 σ k) k (nd σ k) 2 = aft (s2 φ k) k (nd φ k) 2 := by rw [al, al]; exact h.1 2 (by decide)
    generalize aft (s2 σ k) k (nd σ k) = A at *
    generalize aft (s2 φ k) k (nd φ k) = A' at *
    unfold wr w3 wg
    have n12 : ¬ KI c f = KI k 12 := KI_ne_f h12 hf15 (by decide)
    simp only [upd_at, if_neg n12, a1, a7, e2, ai]
theorem TP_cF {K : Nat} {σ φ : Row} (h : TP K σ φ) : ∀ k, k ≤ K → TP K (cF k σ) (cF k φ) ∧ cT k σ = cT k φ
  | 0, _ => ⟨h, rfl⟩
  | k + 1, hk => by
    obtain ⟨a, b⟩ := TP_cF h k (by omega)
    refine ⟨TP_cst a (by omega), ?_⟩
    show cT k σ + nd _ k = cT k φ + nd _ k
    rw [b, TP_nd a (by omega)]
