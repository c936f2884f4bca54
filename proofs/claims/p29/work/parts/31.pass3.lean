theorem gon_hi {s : Row} {k i : Nat} {d : Int32} (hl : ld s k < 5) (hi : 95 ≤ i) : gon s k d i = s i := by
  unfold gon ent
  have h3 : i ≠ KI (ld s k) 3 := hi_KI hl (by decide) hi
  split
  · rw [upd_ne _ (by omega)]
  · rw [upd_ne _ (by omega), upd_ne _ (by omega), upd_ne _ h3]
theorem aft_hi {s : Row} {k i : Nat} {d : Int32} (hk : k < 5) (hl : ld s k < 5) (hi : 95 ≤ i) : aft s k d i = s i := by
  have hKI : ∀ g, g < 15 → i ≠ KI k g := fun g hg => hi_KI hk hg hi
  unfold aft
  split
  · exact gon_hi hl hi
  · split
    · unfold ris; rw [upd_ne _ (by omega), upd_ne _ (hKI 4 (by decide))]
    · split
      · rw [gon_hi _ hi]
        · unfold skr
          rw [upd_ne _ (by omega), upd_ne _ (hKI 9 (by decide)), upd_ne _ (hKI 8 (by decide)), upd_ne _ (hKI 4 (by decide)), upd_ne _ (hKI 4 (by decide))]
        · unfold ld; rw [skr_at _ _ _ _ (by decide) (by decide) (by decide) (by decide), uK_f _ (by decide) (by decide) (by decide)]; exact hl
      · rw [upd_ne _ (hKI 4 (by decide))]
theorem lt3_hi {s : Row} {k i : Nat} {d : Int32} (hk : k < 5) (hi : 95 ≤ i) : lt3 s k d i = s i := by
  have hKI : ∀ g, g < 15 → i ≠ KI k g := fun g hg => hi_KI hk hg hi
  unfold lt3
  rw [upd_ne _ (hKI 7 (by decide)), upd_ne _ (hKI 6 (by decide)), upd_ne _ (hKI 3 (by decide))]
theorem cst_hi {σ : Row} {k i : Nat} (hk : k < 5) (hl : ld σ k < 5) (hi : 95 ≤ i) : cst σ k i = σ i := by
  have hKI : ∀ g, g < 15 → i ≠ KI k g := fun g hg => hi_KI hk hg hi
  rw [cst_is, wr_out (hKI 1 (by decide)) (hKI 7 (by decide)) (hKI 12 (by decide)), aft_hi hk _ hi, s2_lt3 _ _ _ (by omega), lt3_hi hk hi]
  unfold ld; rw [s2_f _ _ _ _ (by decide) (by decide) (by decide) (by decide)]; exact hl
theorem cF_hi {σ : Row} {n i : Nat} {b : Int} (h : IP σ n b 0) (hi : 95 ≤ i) : ∀ k, k ≤ n → cF k σ i = σ i
  | 0, _ => rfl
  | k + 1, hk => by
    have hp := cF_IP h k (by omega)
    have := (hp.2.2.2 k (by omega)).2.2.2.2.2.1
    have hn := h.1.2
    show cst (cF k σ) k i = _
    rw [cst_hi (by omega) (by omega) hi, cF_hi h hi k (by omega)]
theorem cF_11 (σ : Row) : ∀ k, cF k σ 11 = σ 11 + cT k σ
  | 0 => by show σ 11 = σ 11 + 0; rw [Int32.add_zero]
  | k + 1 => by
    show cst (cF k σ) k 11 = σ 11 + (cT k σ + nd (cF k σ) k)
    rw [cst_is, wr_out (sc_KI (by decide)) (sc_KI (by decide)) (sc_KI (by decide)), aft_17 _ _ _ _ (by decide) (by decide) (by decide) (by decide) (by decide)]
    unfold s2
    rw [upd_eq, cF_11 σ k, Int32.add_assoc]
/-- what stays of the reference's row in a tick -/
def KP (ρ0 ρ : Row) : Prop := (∀ i, 95 ≤ i → ρ i = ρ0 i) ∧ ρ 16 = ρ0 16 ∧ ρ 11 = ρ0 11 ∧ tot ρ 11 = tot ρ0 11 ∧ (ρ0 17 = tot ρ0 8 → ρ 17 = tot ρ 8)
theorem mdrips {M : Nat → Nat → Int32} {σ : Row} {n : Nat} {b : Int} (h : IP σ n b 0) (hs : SH σ (M 0)) : ∀ (m k : Nat) (ρ : Row), k + m = n → RD k (cF k σ) ρ → KP (M 0) ρ → ∀ fu, m < fu → ∃ ρn, RD n (cF n σ) ρn ∧ KP (M 0) ρn ∧ fM_pass_L4 fu (mw M ρ) (cT k σ) (nI k) = fM_pass_L31 fuel (mw M ρn) (cT n σ) 0 := by
  have hn := h.1.2
  intro m
  induction m with
  | zero =>
    intro k ρ hk hr hkp fu hf
    have e : k = n := by omega
    subst e
    refine ⟨ρ, hr, hkp, ?_⟩
    obtain ⟨fu', rfl⟩ : ∃ q, fu = q + 1 := ⟨fu - 1, by omega⟩
    rw [fM_pass_L4, mw_0, ← hr.1 19 (by decide) (by decide) (by decide) (by decide), (cF_IP h k (by omega)).1.1, if_pos (by rw [t_le]; omega)]
  | succ m ih =>
    intro k ρ hk hr hkp fu hf
    obtain ⟨fu', rfl⟩ : ∃ q, fu = q + 1 := ⟨fu - 1, by omega⟩
    have hp := cF_IP h k (by omega)
    have hkn : k < n := by omega
    have hled := (hp.2.2.2 k hkn).2.2.2.2.2.1
    have e5 : cF k σ (KI k 5) = ρ (KI k 5) := hr.2.1 k 5 (by omega) (by decide) (fun q => by omega)
    have el : ld (cF k σ) k = ld ρ k := by unfold ld; rw [e5]
    have hl5 : ld ρ k < 5 := by omega
    obtain ⟨ρ', h1, h2, h3⟩ := mdrip_is (mw M ρ) (k := k) (by omega) (by rw [mw_0, ← e5, ← el]; exact hled.1) (by rw [mw_0]; exact hl5)
    rw [mw_0] at h1 h2 h3
    obtain ⟨s1, s2'⟩ := pass_step hp hkn hr h3
    obtain ⟨k1, k2, k3, k4, k5⟩ := drip_rest (by omega) h2 h3
    have hhi : ∀ i, 95 ≤ i → ρ' i = ρ i := fun i hi => by
      rw [h3 i (by omega), aft_hi (by omega) _ hi, lt3_hi (by omega) hi]
      unfold ld; rw [lt3_f _ _ _ _ _ (by decide) (by decide) (by decide) (by decide)]; exact hl5
    obtain ⟨p1, p2, p3, p4, p5⟩ := hkp
    obtain ⟨ρn, q1, q2, q3⟩ := ih (k + 1) ρ' (by omega) s1 ⟨fun i hi => (hhi i hi).trans (p1 i hi), k2.trans p2, k3.trans p3, k4.trans p4, fun q => k5 (p5 q)⟩ fu' (by omega)
    refine ⟨ρn, q1, q2, ?_⟩
    rw [fM_pass_L4, mw_0, ← hr.1 19 (by decide) (by decide) (by decide) (by decide), hp.1.1, if_neg (nI5 hkn hn).2.1, h1, sb]
    dsimp only
    rw [← s2', mw_mw]
    rw [← nI_succ]
    exact q3
def wF : Nat → Row → Row
  | 0, ρ => ρ
  | c + 1, ρ => wr (wF c ρ) c
theorem wF_out (ρ : Row) : ∀ (m i : Nat), (∀ c, c < m → i ≠ KI c 1 ∧ i ≠ KI c 7 ∧ i ≠ KI c 12) → wF m ρ i = ρ i
  | 0, _, _ => rfl
  | m + 1, i, h => by
    obtain ⟨a, c, d⟩ := h m (by omega)
    show wr (wF m ρ) m i = _
    rw [wr_out a c d, wF_out ρ m i (fun c hc => h c (by omega))]
theorem wF_late (ρ : Row) {m c f : Nat} (h : m ≤ c) (hf : f < 15) : wF m ρ (KI c f) = ρ (KI c f) :=
  wF_out ρ m _ (fun q hq => ⟨fun e => absurd ((KI_eq_iff hf (by decide)).mp e).1 (by omega), fun e => absurd ((KI_eq_iff hf (by decide)).mp e).1 (by omega), fun e => absurd ((KI_eq_iff hf (by decide)).mp e).1 (by omega)⟩)
theorem wF_early (ρ : Row) {c f : Nat} (hf : f < 15) : ∀ {m : Nat}, c < m → wF m ρ (KI c f) = wr ρ c (KI c f)
  | m + 1, h => by
    by_cases e : c = m
    · subst e
      show wr (wF c ρ) c (KI c f) = _
      exact wr_congr (wF_out ρ c 2 (fun q hq => ⟨sc_KI (by decide), sc_KI (by decide), sc_KI (by decide)⟩)) (wF_late ρ (Nat.le_refl _) (by decide)) (wF_late ρ (Nat.le_refl _) (by decide)) (wF_late ρ (Nat.le_refl _) (by decide)) (wF_late ρ (Nat.le_refl _) hf)
    · show wr (wF m ρ) m (KI c f) = _
      rw [wr_out (fun q => e ((KI_eq_iff hf (by decide)).mp q).1) (fun q => e ((KI_eq_iff hf (by decide)).mp q).1) (fun q => e ((KI_eq_iff hf (by decide)).mp q).1)]
      exact wF_early ρ hf (by omega)
theorem mwidens {M : Nat → Nat → Int32} {ρ : Row} {n : Nat} {y : Int32} (hn : n ≤ 5) (h19 : ρ 19 = nI n) (h2 : 50 ≤ (ρ 2).toInt ∧ (ρ 2).toInt ≤ 5000) (hb : ∀ c, c < n → (0 ≤ (ρ (KI c 7)).toInt ∧ (ρ (KI c 7)).toInt ≤ 10000) ∧ (1 ≤ (ρ (KI c 1)).toInt ∧ (ρ (KI c 1)).toInt ≤ 60)) : ∀ (m c : Nat), c + m = n → ∀ fu, m < fu → fM_pass_L31 fu (mw M (wF c ρ)) y (nI c) = some (y, mw M (upd (upd (wF n ρ) 11 (wF n ρ 11 + y)) 6 (wF n ρ 6 + 1))) := by
  have lit : ∀ m i, i < 20 → wF m ρ i = ρ i := fun m i hi => wF_out ρ m i (fun q hq => ⟨sc_KI hi, sc_KI hi, sc_KI hi⟩)
  intro m
  induction m with
  | zero =>
    intro c hc fu hf
    have e : c = n := by omega
    subst e
    obtain ⟨fu', rfl⟩ : ∃ q, fu = q + 1 := ⟨fu - 1, by omega⟩
    rw [fM_pass_L31, mw_0, lit _ _ (by decide), h19, if_pos (by rw [t_le]; omega)]
    simp only [lt_is, set0, mw_0, mw_mw, upd_at, Nat.reduceEqDiff, if_false]
  | succ m ih =>
    intro c hc fu hf
    obtain ⟨fu', rfl⟩ : ∃ q, fu = q + 1 := ⟨fu - 1, by omega⟩
    rw [fM_pass_L31, mw_0, lit _ _ (by decide), h19, if_neg (nI5 (show c < n by omega) hn).2.1, mwiden_is M (by omega) (wF c ρ) (by rw [lit _ _ (by decide)]; exact h2) (by rw [wF_late ρ (Nat.le_refl _) (by decide)]; exact (hb c (by omega)).1) (by rw [wF_late ρ (Nat.le_refl _) (by decide)]; exact (hb c (by omega)).2), sb, ← nI_succ]
    exact ih (c + 1) (by omega) fu' (by omega)
/-- a tick up to its noon -/
theorem pass_is {M : Nat → Nat → Int32} {σ : Row} {n : Nat} {b : Int} (h : IP σ n b 0) (hs : SH σ (M 0)) :
    ∃ ρ' : Row, fM_pass M = some (cT n σ, mw M ρ') ∧ SH (upd (cF n σ) 6 (cF n σ 6 + 1)) ρ' ∧ (∀ i, 95 ≤ i → ρ' i = M 0 i) ∧ ρ' 16 = M 0 16 ∧ tot ρ' 11 = tot (M 0) 11 ∧ (M 0 17 = tot (M 0) 8 → ρ' 17 = tot ρ' 8) := by
  have hn := h.1.2
  obtain ⟨ρn, h1, ⟨p1, p2, p3, p4, p5⟩, h2⟩ := mdrips h hs n 0 (M 0) (by omega) ⟨fun i hi a c d => hs.1 i hi c d, fun c f hc hf _ => hs.2 c f hc hf, fun c hc => by omega⟩ ⟨fun _ _ => rfl, rfl, rfl, rfl, id⟩ fuel (by unfold fuel; omega)
  have hpn := cF_IP h n (Nat.le_refl _)
  obtain ⟨r1, r2, r3⟩ := h1
  have h3 := mwidens (M := M) (ρ := ρn) (n := n) (y := cT n σ) hn (by rw [← r1 19 (by decide) (by decide) (by decide) (by decide)]; exact hpn.1.1) (by rw [← r1 2 (by decide) (by decide) (by decide) (by decide)]; exact hpn.2.1.2.2.1) (fun c hc => (r3 c hc).2) n 0 (by omega) fuel (by unfold fuel; omega)
  have lit : ∀ i, i < 20 → wF n ρn i = ρn i := fun i hi => wF_out ρn n i (fun q hq => ⟨sc_KI hi, sc_KI hi, sc_KI hi⟩)
  have hiw : ∀ i, 95 ≤ i → wF n ρn i = ρn i := fun i hi => wF_out ρn n i (fun q hq => ⟨hi_KI (by omega) (by decide) hi, hi_KI (by omega) (by decide) hi, hi_KI (by omega) (by decide) hi⟩)
  have oth : ∀ c f, f < 15 → f ≠ 1 → f ≠ 7 → f ≠ 12 → wF n ρn (KI c f) = ρn (KI c f) := fun c f hf h1 h7 h12 => wF_out ρn n _ (fun q hq => ⟨KI_ne_f h1 hf (by decide), KI_ne_f h7 hf (by decide), KI_ne_f h12 hf (by decide)⟩)
  have rd : ∀ c f, c < 5 → f < 15 → upd (upd (wF n ρn) 11 (wF n ρn 11 + cT n σ)) 6 (wF n ρn 6 + 1) (KI c f) = wF n ρn (KI c f) := fun c f _ _ => by rw [upd_ne _ (KI_sc (by decide)), upd_ne _ (KI_sc (by decide))]
  refine ⟨upd (upd (wF n ρn) 11 (wF n ρn 11 + cT n σ)) 6 (wF n ρn 6 + 1), ?_, ⟨fun i hi h16 h17 => ?_, fun c f hc hf => ?_⟩, fun i hi => ?_, ?_, ?_, fun q => ?_⟩
  · unfold fM_pass
    rw [mw_self] at h2
    exact h2.trans h3
  · by_cases e6 : i = 6
    · subst e6
      rw [upd_eq, upd_eq, lit 6 (by decide), r1 6 (by decide) (by decide) (by decide) (by decide)]
    · rw [upd_ne _ e6, upd_ne _ e6]
      by_cases e11 : i = 11
      · subst e11
        rw [upd_eq, cF_11, lit 11 (by decide), p3, hs.1 11 (by decide) (by decide) (by decide)]
      · rw [upd_ne _ e11, lit i hi, r1 i hi e11 h16 h17]
  · rw [upd_ne _ (KI_sc (by decide)), rd c f hc hf]
    by_cases hcn : c < n
    · rw [wF_early ρn hf hcn]
      by_cases hf1 : f = 1 ∨ f = 7 ∨ f = 12
      · obtain ⟨t1, t7, t12⟩ := (r3 c hcn).1
        rcases hf1 with rfl | rfl | rfl
        · exact t1
        · exact t7
        · exact t12
      · rw [wr_out (KI_ne_f (by omega) hf (by decide)) (KI_ne_f (by omega) hf (by decide)) (KI_ne_f (by omega) hf (by decide))]
        exact r2 c f hc hf (fun _ => by omega)
    · rw [wF_late ρn (by omega) hf]
      exact r2 c f hc hf (fun q => by omega)
  · rw [upd_ne _ (by omega), upd_ne _ (by omega), hiw i hi, p1 i hi]
  · rw [upd_ne _ (by decide), upd_ne _ (by decide), lit 16 (by decide), p2]
  · rw [← p4]
    exact tot_same (fun c hc => by rw [rd c 11 hc (by decide), oth c 11 (by decide) (by decide) (by decide) (by decide)])
  · rw [upd_ne _ (by decide), upd_ne _ (by decide), lit 17 (by decide), p5 q]
    exact (tot_same (fun c hc => by rw [rd c 8 hc (by decide), oth c 8 (by decide) (by decide) (by decide) (by decide)])).symm
