/-! ## the reference's copies -/
/-- a copied up to c from b -/
theorem mcell {M : Nat → Nat → Int32} {a i : Nat} {v : Int32} {b j : Nat} : setC M a i v b j = if b = a ∧ j = i then v else M b j := by
  unfold setC
  by_cases e : b = a
  · subst e
    rw [updA_same, upd_at]
    by_cases g : j = i
    · rw [if_pos g, if_pos ⟨rfl, g⟩]
    · rw [if_neg g, if_neg (fun q => g q.2)]
  · rw [updA_ne _ e, if_neg (fun q => e q.1)]
/-- M' is M, save that the cells o .. o + m of a are those of f -/
def PUT (M : Nat → Nat → Int32) (a o m : Nat) (f : Nat → Int32) (M' : Nat → Nat → Int32) : Prop := ∀ b j, M' b j = if b = a ∧ o ≤ j ∧ j < o + m then f (j - o) else M b j
theorem PUT.z (M : Nat → Nat → Int32) (a o : Nat) (f : Nat → Int32) : PUT M a o 0 f M := fun b j => by rw [if_neg (by omega)]
theorem PUT.s {M M' : Nat → Nat → Int32} {a o m : Nat} {f : Nat → Int32} (h : PUT M a o m f M') : PUT M a o (m + 1) f (setC M' a (o + m) (f m)) := fun b j => by
  rw [mcell]
  by_cases e : b = a ∧ j = o + m
  · rw [if_pos e, if_pos (by omega), show j - o = m by omega]
  · rw [if_neg e, h b j]
    by_cases g : b = a ∧ o ≤ j ∧ j < o + m
    · rw [if_pos g, if_pos (by omega)]
    · rw [if_neg g, if_neg (by omega)]
theorem PUT.eq {M M' M'' : Nat → Nat → Int32} {a o m : Nat} {f : Nat → Int32} (h : PUT M a o m f M') (h2 : PUT M a o m f M'') : M' = M'' := by
  funext b j; rw [h b j, h2 b j]
theorem note_L {M : Nat → Nat → Int32} : ∀ (m c fu : Nat) (M' : Nat → Nat → Int32), c + m = 120 → m < fu → PUT M 1 0 c (M 0) M' → ∃ M'', fM_note_L2 fu M' (nI c) = some M'' ∧ PUT M 1 0 120 (M 0) M'' := by
  intro m
  induction m with
  | zero =>
    intro c fu M' hc hf h
    obtain ⟨fu, rfl⟩ : ∃ q, fu = q + 1 := ⟨fu - 1, by omega⟩
    refine ⟨M', ?_, by rw [show (120 : Nat) = c by omega]; exact h⟩
    rw [fM_note_L2, if_pos (show (120 : Int32) ≤ nI c by rw [show (120 : Int32) = nI 120 from rfl, nle (by omega) (by omega)]; omega)]
  | succ m ih =>
    intro c fu M' hc hf h
    obtain ⟨fu, rfl⟩ : ∃ q, fu = q + 1 := ⟨fu - 1, by omega⟩
    rw [fM_note_L2, if_neg (show ¬ (120 : Int32) ≤ nI c by rw [show (120 : Int32) = nI 120 from rfl, nle (by omega) (by omega)]; omega), inb_nI (by omega) (by decide), gd_t, gd_t, cl_nI (by omega), lt_is, ← nI_succ]
    have e : M' 0 c = M 0 c := by rw [h 0 c, if_neg (by omega)]
    have g := h.s
    rw [Nat.zero_add, ← e] at g
    exact ih (c + 1) fu _ (by omega) (by omega) g
theorem note_is (M : Nat → Nat → Int32) : ∃ M', fM_note M = some M' ∧ PUT M 1 0 120 (M 0) M' := note_L 120 0 fuel M (by omega) (by unfold fuel; omega) (PUT.z _ _ _ _)
theorem aside_L {M : Nat → Nat → Int32} : ∀ (m c fu : Nat) (M' : Nat → Nat → Int32), c + m = 120 → m < fu → PUT M 5 0 c (M 0) M' → ∃ M'', fM_putAside_L2 fu M' (nI c) = some M'' ∧ PUT M 5 0 120 (M 0) M'' := by
  intro m
  induction m with
  | zero =>
    intro c fu M' hc hf h
    obtain ⟨fu, rfl⟩ : ∃ q, fu = q + 1 := ⟨fu - 1, by omega⟩
    refine ⟨M', ?_, by rw [show (120 : Nat) = c by omega]; exact h⟩
    rw [fM_putAside_L2, if_pos (show (120 : Int32) ≤ nI c by rw [show (120 : Int32) = nI 120 from rfl, nle (by omega) (by omega)]; omega)]
  | succ m ih =>
    intro c fu M' hc hf h
    obtain ⟨fu, rfl⟩ : ∃ q, fu = q + 1 := ⟨fu - 1, by omega⟩
    rw [fM_putAside_L2, if_neg (show ¬ (120 : Int32) ≤ nI c by rw [show (120 : Int32) = nI 120 from rfl, nle (by omega) (by omega)]; omega), inb_nI (by omega) (by decide), gd_t, gd_t, cl_nI (by omega), lt_is, ← nI_succ]
    have e : M' 0 c = M 0 c := by rw [h 0 c, if_neg (by omega)]
    have g := h.s
    rw [Nat.zero_add, ← e] at g
    exact ih (c + 1) fu _ (by omega) (by omega) g
theorem aside_is (M : Nat → Nat → Int32) : ∃ M', fM_putAside M = some M' ∧ PUT M 5 0 120 (M 0) M' := aside_L 120 0 fuel M (by omega) (by unfold fuel; omega) (PUT.z _ _ _ _)
theorem putb_L {M : Nat → Nat → Int32} : ∀ (m c fu : Nat) (M' : Nat → Nat → Int32), c + m = 120 → m < fu → PUT M 0 0 c (M 5) M' → ∃ M'', fM_putBack_L2 fu M' (nI c) = some M'' ∧ PUT M 0 0 120 (M 5) M'' := by
  intro m
  induction m with
  | zero =>
    intro c fu M' hc hf h
    obtain ⟨fu, rfl⟩ : ∃ q, fu = q + 1 := ⟨fu - 1, by omega⟩
    refine ⟨M', ?_, by rw [show (120 : Nat) = c by omega]; exact h⟩
    rw [fM_putBack_L2, if_pos (show (120 : Int32) ≤ nI c by rw [show (120 : Int32) = nI 120 from rfl, nle (by omega) (by omega)]; omega)]
  | succ m ih =>
    intro c fu M' hc hf h
    obtain ⟨fu, rfl⟩ : ∃ q, fu = q + 1 := ⟨fu - 1, by omega⟩
    rw [fM_putBack_L2, if_neg (show ¬ (120 : Int32) ≤ nI c by rw [show (120 : Int32) = nI 120 from rfl, nle (by omega) (by omega)]; omega), inb_nI (by omega) (by decide), gd_t, gd_t, cl_nI (by omega), lt_is, ← nI_succ]
    have e : M' 5 c = M 5 c := by rw [h 5 c, if_neg (by omega)]
    have g := h.s
    rw [Nat.zero_add, ← e] at g
    exact ih (c + 1) fu _ (by omega) (by omega) g
theorem putb_is (M : Nat → Nat → Int32) : ∃ M', fM_putBack M = some M' ∧ PUT M 0 0 120 (M 5) M' := putb_L 120 0 fuel M (by omega) (by unfold fuel; omega) (PUT.z _ _ _ _)
/-! ## the relation moves along copies -/
def MR (ρ ρ' : Row) : Prop := ∀ i, i < 120 → ρ' i = ρ i
theorem pl_congr {σ σ' : Row} (h : σ' 14 = σ 14) (a : Nat) : pl σ' a = pl σ a := by unfold pl; rw [h]
theorem RR_move {n : Nat} {σ σ' ρ ρ' : Row} (h : RR n σ ρ) (hs : SR σ σ') (hm : MR ρ ρ') : RR n σ' ρ' := by
  obtain ⟨h1, h2, h3, h4, ⟨b1, b2, b3⟩⟩ := h
  obtain ⟨s1, s2, s3⟩ := hs
  have e6 := s1 6 (by decide) (by decide) (by decide)
  have e14 := s1 14 (by decide) (by decide) (by decide)
  refine ⟨?_, fun c f hc hc5 hf => by rw [s2 c f hc5 hf]; exact h2 c f hc hc5 hf, ⟨fun i hi h16 h17 => by rw [s1 i hi h16 h17, hm i (by omega)]; exact h3.1 i hi h16 h17, fun c f hc hf => by rw [s2 c f hc hf, hm _ (by have := KI_lt hc hf; omega)]; exact h3.2 c f hc hf⟩, ?_, ?_⟩
  · rw [e6]; exact IR_congr h1 (fun i hi => s1 i (by omega) (by omega) (by omega)) e6 (s1 19 (by decide) (by decide) (by decide)) s2
  · rw [hm 16 (by decide), hm 17 (by decide), tot_same (ρ := ρ) (fun c hc => hm _ (by have := KI_lt (f := 11) hc (by decide); omega)), tot_same (ρ := ρ) (fun c hc => hm _ (by have := KI_lt (f := 8) hc (by decide); omega))]
    exact h4
  · refine ⟨by rw [e14, e6]; exact b1, by rw [hm 95 (by decide), e14]; exact b2, fun a ha hal => ?_⟩
    rw [e14] at hal
    obtain ⟨m, m1, m2, m3, m4⟩ := b3 a ha hal
    have p4 : pl σ a < 4 := Nat.mod_lt _ (by decide)
    refine ⟨m, m1, ?_, ?_, fun c hc => ?_⟩
    · rw [pl_congr e14, s3 _ (by omega) (by omega)]; exact m2
    · rw [hm _ (by omega)]; exact m3
    · rw [pl_congr e14, s3 _ (by omega) (by omega), hm _ (by omega)]; exact m4 c hc
theorem RW_move {w : Int} {σ σ' ρ ρ' : Row} (h : RW w σ ρ) (hs : SR σ σ') (hm : MR ρ ρ') : RW w σ' ρ' := by
  obtain ⟨n, a, b, c⟩ := h
  have hn := a.1.1.2
  exact ⟨n, RR_move a hs hm, by rw [hs.1 6 (by decide) (by decide) (by decide)]; exact b, fun k hk => WC_congr (c k hk) (hs.2.1 k 0 (by omega) (by decide)) (hs.2.1 k 4 (by omega) (by decide)) (hs.2.1 k 9 (by omega) (by decide)) (hs.2.1 k 14 (by omega) (by decide)) (hs.1 1 (by decide) (by decide) (by decide))⟩
theorem SR.refl (σ : Row) : SR σ σ := ⟨fun _ _ _ _ => rfl, fun _ _ _ _ => rfl, fun _ _ _ => rfl⟩
theorem MR.refl (ρ : Row) : MR ρ ρ := fun _ _ => rfl
