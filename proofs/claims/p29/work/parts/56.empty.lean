/-! ## when a vessel is empty -/
theorem nF_phys {c f : Nat} {σ : Row} (hc : c < 5) (hf : f < 15) (h11 : f ≠ 11) (h13 : f ≠ 13) (h14 : f ≠ 14) : ∀ k, k ≤ 5 → nF k σ (KI c f) = σ (KI c f)
  | 0, _ => rfl
  | k + 1, hk => by
    show nst (nF k σ) k (KI c f) = _
    by_cases e : c = k
    · subst e; rw [nst_f hc hf h13 h14 h11, nF_phys hc hf h11 h13 h14 c (by omega)]
    · rw [nst_c (by omega) hc hf e, nF_phys hc hf h11 h13 h14 k (by omega)]
theorem cF_stay {φ : Row} {n K c f : Nat} {b : Int} (h : IP φ n b 0) (hc : c < K) (hf : f < 15) : ∀ m, K + m ≤ n → cF (K + m) φ (KI c f) = cF K φ (KI c f)
  | 0, _ => rfl
  | m + 1, hm => by
    have hh := (cF_IP h (K + m) (by omega)).ir.2.2.2 (K + m) (by omega)
    have hl := hh.2.2.2.2.2.1.2.1
    show cst (cF (K + m) φ) (K + m) (KI c f) = _
    rw [cst_far hf (by omega) (by omega), cF_stay h hc hf m (by omega)]
theorem tk_phys {φ : Row} {n K c f : Nat} (h : IR φ n (φ 6).toInt) (hb : (φ 6).toInt + 1 ≤ 200000) (hK : K ≤ n) (hc : c < K) (hf : f < 15) (h11 : f ≠ 11) (h13 : f ≠ 13) (h14 : f ≠ 14) : tk n φ (KI c f) = cF K φ (KI c f) := by
  have hn := h.1.2
  have e := cF_stay (IP.of h hb) hc hf (n - K) (by omega)
  rw [show K + (n - K) = n by omega] at e
  have p : ps n φ (KI c f) = cF K φ (KI c f) := by unfold ps; rw [upd_ne _ (KI_sc (by decide)), e]
  unfold tk
  split
  · show nF n (opn (ps n φ) (ps n φ 19)) (KI c f) = _
    rw [nF_phys (by omega) hf h11 h13 h14 n hn, opn_lit (KI_lt (by omega) hf) (KI_sc (by decide)), p]
  · exact p
theorem tk_set {φ : Row} {n i : Nat} (hn : n ≤ 5) (hi : i < 6) : tk n φ i = φ i := by
  have p : ps n φ i = φ i := by unfold ps; rw [upd_ne _ (by omega), cF_lit (by omega) (by omega) (by omega) (by omega) (by omega) (by omega) n]
  unfold tk
  split
  · show nF n (opn (ps n φ) (ps n φ 19)) i = _
    rw [nF_lit (by omega) (by omega) n hn, opn_lit (by omega) (by omega), p]
  · exact p
theorem TP_step {σ φ : Row} {n K : Nat} (h : IR φ n (φ 6).toInt) (hb : (φ 6).toInt + 1 ≤ 200000) (hK : K ≤ n) (ht : TP K σ φ) : TP K (cF K σ) (tk n φ) := by
  have hn := h.1.2
  obtain ⟨a, -⟩ := TP_cF ht K (Nat.le_refl _)
  refine ⟨fun i hi => ?_, fun c f hc hf => ?_⟩
  · rw [tk_set hn hi, cF_lit (by omega) (by omega) (by omega) (by omega) (by omega) (by omega) K]; exact ht.1 i hi
  · have n1 : f ≠ 11 ∧ f ≠ 13 ∧ f ≠ 14 := by unfold Ph at hf; omega
    rw [tk_phys h hb hK hc (Ph_lt hf) n1.1 n1.2.1 n1.2.2]; exact a.2 c f hc hf
theorem empty_loop {n k : Nat} (hk : k < n) : ∀ (m c fu : Nat) (X : XS) (M : Nat → Nat → Int32) (φ : Row) (b : Int), c + m = 1000 → m + 1 < fu → IR (X.1 1) n b → b + m + 2 ≤ 200000 → RR n φ (M 0) → (φ 6).toInt + m + 1 ≤ 200000 → TP (k + 1) (X.1 1) φ →
    ∃ r X' ρ', fX_emptyIn_L27 fu X (nI k) (nI c) = some (r, X') ∧ fM_emptyIn_L17 fu M (nI k) (nI c) = (fM_putBack (mw M ρ')).bind (fun q => some (r, q)) ∧ X'.2 = X.2 ∧ ∀ a, a ≠ 1 → X'.1 a = X.1 a := by
  intro m
  induction m with
  | zero =>
    intro c fu X M φ b hc hf hir hb hrr hb6 ht
    obtain ⟨fu, rfl⟩ : ∃ q, fu = q + 1 := ⟨fu - 1, by omega⟩
    have hn := hir.1.2
    have eu : M 0 (KI k 3) = X.1 1 (KI k 3) := by rw [ht.2 k 3 (by omega) (by unfold Ph; omega)]; exact (hrr.2.2.1.2 k 3 (by omega) (by decide)).symm
    rw [fX_emptyIn_L27, fM_emptyIn_L17, show c = 1000 by omega, if_neg (show ¬ (1000 : Int32) < nI 1000 by decide), if_pos (show (1000 : Int32) ≤ nI 1000 by decide), of_3 M (by omega), sb, eu]
    unfold fS_isEmpty
    rw [clockAt_in hir.1.1 hk hn, sb, onN_s]
    by_cases e : X.1 1 (KI k 3) = 0
    · rw [if_pos e, if_pos e, sb, if_neg n10]
      exact ⟨_, X, M 0, rfl, by rw [mw_self], rfl, fun _ _ => rfl⟩
    · rw [if_neg e, if_neg e, sb, if_pos rfl]
      obtain ⟨fu, rfl⟩ : ∃ q, fu = q + 1 := ⟨fu - 1, by omega⟩
      rw [drip_is (IP.of hir (by omega)) (show k + 1 ≤ n by omega) (by rw [t_lit k (by omega)]; omega), sb, lt_is, fX_emptyIn_L27, if_pos (show (1000 : Int32) < nI 1000 + 1 by decide)]
      exact ⟨_, _, M 0, rfl, by rw [mw_self], rfl, fun a ha => updA_ne _ ha⟩
  | succ m ih =>
    intro c fu X M φ b hc hf hir hb hrr hb6 ht
    obtain ⟨fu, rfl⟩ : ∃ q, fu = q + 1 := ⟨fu - 1, by omega⟩
    have hn := hir.1.2
    have tc := t_lit c (by omega)
    have eu : M 0 (KI k 3) = X.1 1 (KI k 3) := by rw [ht.2 k 3 (by omega) (by unfold Ph; omega)]; exact (hrr.2.2.1.2 k 3 (by omega) (by decide)).symm
    have bu := (hir.2.2.2 k hk).2.2.2.1
    rw [fX_emptyIn_L27, fM_emptyIn_L17, if_neg (show ¬ (1000 : Int32) < nI c by rw [t_lt, i_1000]; omega), if_neg (show ¬ (1000 : Int32) ≤ nI c by rw [t_le, i_1000]; omega), of_3 M (by omega), sb, eu]
    unfold fS_isEmpty
    rw [clockAt_in hir.1.1 hk hn, sb, onN_s]
    by_cases e : X.1 1 (KI k 3) = 0
    · rw [if_pos e, if_pos (show X.1 1 (KI k 3) ≤ 0 by rw [e]; decide), sb, sb, if_neg n10, if_pos e]
      exact ⟨_, X, M 0, rfl, by rw [mw_self], rfl, fun _ _ => rfl⟩
    · have e' : ¬ X.1 1 (KI k 3) ≤ 0 := fun q => by
        rw [t_le, i_0] at q
        rw [t_eq, i_0] at e
        omega
      obtain ⟨ρ1, t1, t2, t3⟩ := tick_is (M := M) hrr (by omega)
      have hip := IP.of hir (show b + 1 ≤ 200000 by omega)
      have hip' := (cF_IP hip (k + 1) (by omega)).ir
      rw [if_neg e, if_neg e', sb, if_pos rfl, t1, sb, drip_is hip (show k + 1 ≤ n by omega) (by rw [t_lit k (by omega)]; omega), sb, lt_is, ← nI_succ]
      obtain ⟨r, X', ρ', g1, g2, g3, g4⟩ := ih (c + 1) fu ((updA X.1 1 (cF (k + 1) (X.1 1)), X.2) : XS) (mw M ρ1) (tk n φ) (b + 1) (by omega) (by omega) (by dsimp only; rw [updA_same]; exact hip') (by omega) (by rw [mw_0]; exact t2) (by rw [t3]; omega) (by dsimp only; rw [updA_same]; exact TP_step hrr.1 (by omega) (by omega) ht)
      exact ⟨r, X', ρ', g1, by rw [g2, mw_mw], g3, fun a ha => by rw [g4 a ha]; exact updA_ne _ ha⟩
/-- a trial leaves the whole as it was -/
theorem trial_XRs {w : Int} {st : Nat} {X X' : XS} {M M1 M' : Nat → Nat → Int32} {ρ : Row} (h : XRs w st X M) (hB : X'.2 = X.2) (hC : ∀ a, a ≠ 1 → X'.1 a = X.1 a) (h1 : PUT M 5 0 120 (M 0) M1) (h2 : PUT (mw M1 ρ) 0 0 120 (mw M1 ρ 5) M') : XRs w st X' M' := by
  have mF : ∀ b, b ≠ 5 → M1 b = M b := fun b hb => funext fun j => by rw [h1 b j, if_neg (by omega)]
  have mF2 : ∀ b, b ≠ 0 → b ≠ 5 → M' b = M b := fun b g0 g5 => funext fun j => by rw [h2 b j, if_neg (by omega), mw_ne _ _ g0, mF b g5]
  have hr := h.2.1
  refine XRs_of h (Int.le_refl _) ?_ hB (fun a g0 g1 _ _ _ => hC a g1) (by rw [hC 11 (by decide)]) (fun b g0 g1 g5 g7 g8 => mF2 b g0 g5) ⟨by rw [mF2 8 (by decide) (by decide)], by rw [mF2 8 (by decide) (by decide)]⟩
  rw [hC 0 (by decide)]
  refine RW_move hr (SR.refl _) (fun j hj => ?_)
  rw [h2 0 j, if_pos (by omega), Nat.sub_zero, mw_ne _ _ (by decide), h1 5 j, if_pos (by omega), Nat.sub_zero]
theorem xempty {w : Int} {st : Nat} {X : XS} {M : Nat → Nat → Int32} (h : XRs w st X M) (x1 : Int32) : CR w (fX_emptyIn X x1) (fM_emptyIn M x1) := by
  obtain ⟨n, hrr, h6, hw⟩ := id h.2.1
  have hn := hrr.1.1.2
  have h19 := hrr.1.1.1
  have m19 : M 0 19 = nI n := by rw [← hrr.2.2.1.1 19 (by decide) (by decide) (by decide)]; exact h19
  unfold fX_emptyIn fM_emptyIn
  rcases clk (n := n) x1 with ⟨k, hk, rfl, -⟩ | hx
  · obtain ⟨C1, a1, a2, a3⟩ := scopy_is X.1 (ja := 1) (jb := 0) (by decide)
    obtain ⟨M1, b1, b2⟩ := aside_is M
    have m0 : M1 0 = M 0 := funext fun j => by rw [b2 0 j, if_neg (by omega)]
    rw [clockAt_in h19 hk hn, sb, onN_s, mclock_in m19 hn hk, sb, if_neg n10, a1, sb, lt_is, b1, sb, show (0 : Int32) = nI 0 from rfl]
    have hr1 := RR_move hrr a3 (MR.refl (M 0))
    have e6 : C1 1 6 = X.1 0 6 := a3.1 6 (by decide) (by decide) (by decide)
    obtain ⟨r, X', ρ', g1, g2, g3, g4⟩ := empty_loop hk 1000 0 fuel ((C1, X.2) : XS) M1 (C1 1) _ (by omega) (by unfold fuel; omega) hr1.1 (by rw [e6]; omega) (by rw [m0]; exact hr1) (by rw [e6]; omega) ⟨fun _ _ => rfl, fun _ _ _ _ => rfl⟩
    obtain ⟨M', p1, p2⟩ := putb_is (mw M1 ρ')
    rw [g1, g2, p1, sb]
    exact ⟨r, X', M', st, rfl, rfl, trial_XRs h g3 (fun a ha => by rw [g4 a ha]; exact a2 a ha) b2 p2⟩
  · rw [clockAt_out h19 hn hx, sb, onN_n, mclock_out m19 hn hx, sb, if_pos rfl]
    exact h.err rfl rfl
