/-! ## what error there will be at noon -/
def TQ (k : Nat) (σ φ : Row) : Prop := TP (k + 1) σ φ ∧ σ (KI k 13) = φ (KI k 13) ∧ σ (KI k 14) = φ (KI k 14)
theorem er_congrP {s s' : Row} {k : Nat} (h6 : s 6 = s' 6) (h3 : s 3 = s' 3) (hk : ∀ f, Ph f → s (KI k f) = s' (KI k f)) (h13 : s (KI k 13) = s' (KI k 13)) (h14 : s (KI k 14) = s' (KI k 14)) : er s k = er s' k := by
  unfold er ho th dc
  rw [h6, h3, h13, h14, hk 0 (by unfold Ph; omega), hk 2 (by unfold Ph; omega), hk 3 (by unfold Ph; omega), hk 4 (by unfold Ph; omega), hk 9 (by unfold Ph; omega)]
theorem cF_keep {σ : Row} {k f : Nat} (hf : f = 13 ∨ f = 14) : ∀ j, cF j σ (KI k f) = σ (KI k f)
  | 0 => rfl
  | j + 1 => by
    show cst (cF j σ) j (KI k f) = _
    by_cases e : k = j
    · subst e; rw [cst_own _ _ _ (by omega) (by omega), cF_keep hf k]
    · rw [cst_c _ _ _ _ e (by omega) (by omega), cF_keep hf j]
theorem TQ_step {σ φ : Row} {n k : Nat} (h : IR φ n (φ 6).toInt) (hb : (φ 6).toInt + 1 ≤ 200000) (hk : k < n) (ht : TQ k σ φ) : TQ k (cF (k + 1) σ) (ps n φ) := by
  obtain ⟨t1, t2, t3⟩ := ht
  obtain ⟨a, -⟩ := TP_cF t1 (k + 1) (Nat.le_refl _)
  have hp : ∀ c f, c < k + 1 → f < 15 → ps n φ (KI c f) = cF (k + 1) φ (KI c f) := fun c f hc hf => by
    have e := cF_stay (IP.of h hb) hc hf (n - (k + 1)) (by omega)
    rw [show k + 1 + (n - (k + 1)) = n by omega] at e
    unfold ps; rw [upd_ne _ (KI_sc (by decide)), e]
  refine ⟨⟨fun i hi => ?_, fun c f hc hf => by rw [hp c f hc (Ph_lt hf)]; exact a.2 c f hc hf⟩, ?_, ?_⟩
  · have p : ps n φ i = φ i := by unfold ps; rw [upd_ne _ (by omega), cF_lit (by omega) (by omega) (by omega) (by omega) (by omega) (by omega) n]
    rw [p, cF_lit (by omega) (by omega) (by omega) (by omega) (by omega) (by omega) (k + 1)]; exact t1.1 i hi
  · rw [hp k 13 (by omega) (by decide), cF_keep (by omega), cF_keep (by omega)]; exact t2
  · rw [hp k 14 (by omega) (by decide), cF_keep (by omega), cF_keep (by omega)]; exact t3
theorem no_noon {D T j : Int} (hT : T % D = 0) (h0 : 0 < j) (hj : j < D) : ¬ (T - j) % D = 0 := fun q => by
  have d1 := Int.dvd_of_emod_eq_zero hT
  have d2 := Int.dvd_of_emod_eq_zero q
  have d3 := Int.dvd_sub d1 d2
  rw [show T - (T - j) = j by omega] at d3
  have := Int.le_of_dvd h0 d3
  omega
theorem noon_at (now D : Int) : (now + (D - now % D)) % D = 0 := by
  have e := Int.mul_ediv_add_emod now D
  have e2 : now + (D - now % D) = D * (now / D + 1) := by rw [Int.mul_add, Int.mul_one]; omega
  rw [e2, Int.mul_emod_right]
/-- the reference at a noon -/
theorem mnoonerr {M : Nat → Nat → Int32} {φ : Row} {n k fu : Nat} (h : IR φ n (φ 6).toInt) (hs : SH φ (M 0)) (hk : k < n) (hc : (φ 6).toInt % (12 * (φ 3).toInt) = 0) :
    fM_errorAtNoon_L17 (fu + 1) M (nI k) = (fM_putBack M).bind (fun q => some (er φ k, q)) := by
  have m6 := hs.1 6 (by decide) (by decide) (by decide)
  have m3 := hs.1 3 (by decide) (by decide) (by decide)
  have hn := h.1.2
  have h3 := h.2.1.2.2.2.1
  have kk : ∀ f, f < 15 → φ (KI k f) = M 0 (KI k f) := fun f hf => hs.2 k f (by omega) hf
  have nn := (misNoon_is (M := M) (by rw [← m6]; exact h.2.2.1.1) (by rw [← m3]; exact h3.1)).1 (by unfold nnP; rw [← m6, ← m3]; exact hc)
  rw [fM_errorAtNoon_L17, nn, sb, if_neg n10, merror_is (by omega) (by rw [← kk 2 (by decide)]; exact (h.2.2.2 k hk).2.2.1.1) (by rw [← m6]; exact h.2.2.1.1) (by rw [← m3]; exact h3.1), sb, ← er_congr m6 m3 kk]
theorem mnotnoon {M : Nat → Nat → Int32} {φ : Row} {n k fu : Nat} (h : IR φ n (φ 6).toInt) (hs : SH φ (M 0)) (hc : ¬ (φ 6).toInt % (12 * (φ 3).toInt) = 0) :
    fM_errorAtNoon_L17 (fu + 1) M (nI k) = (fM_pass M).bind fun q8 => fM_errorAtNoon_L17 fu q8.2 (nI k) := by
  have m6 := hs.1 6 (by decide) (by decide) (by decide)
  have m3 := hs.1 3 (by decide) (by decide) (by decide)
  have h3 := h.2.1.2.2.2.1
  have nn := (misNoon_is (M := M) (by rw [← m6]; exact h.2.2.1.1) (by rw [← m3]; exact h3.1)).2 (by unfold nnP; rw [← m6, ← m3]; exact hc)
  rw [fM_errorAtNoon_L17, nn, sb, if_pos rfl]
theorem quiet_noon {σ : Row} {n k : Nat} {b T : Int} (hir : IR σ n b) (hk : k < n) (hq : ∀ c, c < k + 1 → QU c σ) (hT : T % (12 * (σ 3).toInt) = 0) (hT2 : T ≤ 199999) (σe : Row) (he6 : (σe 6).toInt = T) (he : ∀ i, i ≠ 6 → σe i = σ i) :
    ∀ (m fu : Nat) (M : Nat → Nat → Int32) (φ : Row), m < fu → (m : Int) < 12 * (σ 3).toInt → (φ 6).toInt + m = T → IR φ n (φ 6).toInt → SH φ (M 0) → TQ k σ φ →
    ∃ ρ', fM_errorAtNoon_L17 fu M (nI k) = (fM_putBack (mw M ρ')).bind (fun q => some (er σe k, q)) := by
  intro m
  induction m with
  | zero =>
    intro fu M φ hf hm h6 hi hs ht
    obtain ⟨fu, rfl⟩ : ∃ q, fu = q + 1 := ⟨fu - 1, by omega⟩
    have e3 := ht.1.1 3 (by decide)
    refine ⟨M 0, ?_⟩
    rw [mnoonerr hi hs hk (by rw [← e3, show (φ 6).toInt = T by omega]; exact hT), mw_self]
    have ee : er φ k = er σe k := er_congrP (by rw [t_eq, he6]; omega) (by rw [he 3 (by decide), e3]) (fun f hf => by rw [he _ (KI_sc (by decide))]; exact (ht.1.2 k f (by omega) hf).symm) (by rw [he _ (KI_sc (by decide))]; exact ht.2.1.symm) (by rw [he _ (KI_sc (by decide))]; exact ht.2.2.symm)
    rw [ee]
  | succ m ih =>
    intro fu M φ hf hm h6 hi hs ht
    obtain ⟨fu, rfl⟩ : ∃ q, fu = q + 1 := ⟨fu - 1, by omega⟩
    have e3 := ht.1.1 3 (by decide)
    have hb : (φ 6).toInt + 1 ≤ 200000 := by omega
    obtain ⟨ρ1, p1, p2, -⟩ := pass_is (IP.of hi hb) hs
    obtain ⟨q1, q2⟩ := ps_IR hi hb
    have hst := TQ_step hi hb hk ht
    have hfix := quiet_cF hir (show k + 1 ≤ n by omega) hq (k + 1) (Nat.le_refl _)
    have ht' : TQ k σ (ps n φ) := ⟨TP.trans ⟨fun i hi => (hfix.1 i hi).symm, fun c f hc hf => (hfix.2 c f hc hf).symm⟩ hst.1, by rw [← hst.2.1, cF_keep (by omega)], by rw [← hst.2.2, cF_keep (by omega)]⟩
    rw [mnotnoon hi hs (by rw [← e3, show (φ 6).toInt = T - ((m + 1 : Nat) : Int) by omega]; exact no_noon hT (by omega) hm), p1, sb]
    obtain ⟨ρ', g⟩ := ih fu (mw M ρ1) (ps n φ) (by omega) (by omega) (by rw [q2]; omega) (by rw [q2]; exact q1) (by rw [mw_0]; exact p2) ht'
    exact ⟨ρ', by dsimp only; rw [g, mw_mw]⟩
