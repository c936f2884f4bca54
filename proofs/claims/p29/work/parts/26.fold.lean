theorem cst_lit (σ : Row) (k n : Nat) (h : n < 20) (h8 : n ≠ 8) (h9 : n ≠ 9) (h11 : n ≠ 11) (h12 : n ≠ 12) (h13 : n ≠ 13) : cst σ k n = σ n := by
  rw [cst_is, wr_out (sc_KI h) (sc_KI h) (sc_KI h), aft_out (sc_KI h) (sc_KI h) (sc_KI h) (fun t => sc_KI h) h8 h9 h12 h13, s2_lit _ _ _ h h11]
theorem cst_c (σ : Row) (k c f : Nat) (h : c ≠ k) (h3 : f ≠ 3) (hf : f < 15) : cst σ k (KI c f) = σ (KI c f) := by
  have hk : ∀ g, g < 15 → KI c f ≠ KI k g := fun g hg e => h ((KI_eq_iff hf hg).mp e).1
  rw [cst_is, wr_out (hk 1 (by decide)) (hk 7 (by decide)) (hk 12 (by decide)), aft_out (hk 4 (by decide)) (hk 8 (by decide)) (hk 9 (by decide)) (fun t => KI_ne_f h3 hf (by decide)) (KI_sc (by decide)) (KI_sc (by decide)) (KI_sc (by decide)) (KI_sc (by decide)), s2_c _ _ _ _ h hf]
theorem cst_own (σ : Row) (k f : Nat) (hf : f < 15) (h : f = 0 ∨ f = 2 ∨ f = 5 ∨ f = 10 ∨ f = 11 ∨ f = 13 ∨ f = 14) : cst σ k (KI k f) = σ (KI k f) := by
  have hk : ∀ g, g < 15 → f ≠ g → ∀ c, KI k f ≠ KI c g := fun g hg e c => KI_ne_f e hf hg
  rw [cst_is, wr_out (hk 1 (by decide) (by omega) k) (hk 7 (by decide) (by omega) k) (hk 12 (by decide) (by omega) k), aft_out (hk 4 (by decide) (by omega) k) (hk 8 (by decide) (by omega) k) (hk 9 (by decide) (by omega) k) (hk 3 (by decide) (by omega)) (KI_sc (by decide)) (KI_sc (by decide)) (KI_sc (by decide)) (KI_sc (by decide)), s2_f _ _ _ _ (by omega) (by omega) (by omega) hf]
theorem cst_ld (σ : Row) (k c : Nat) : ld (cst σ k) c = ld σ c := by
  unfold ld
  by_cases e : c = k
  · subst e; rw [cst_own _ _ _ (by decide) (by omega)]
  · rw [cst_c _ _ _ _ e (by decide) (by decide)]
theorem ST_of {σ σ' : Row} (h : ∀ i, i < 6 → σ' i = σ i) (hs : ST σ) : ST σ' := by
  unfold ST
  rw [h 0 (by decide), h 1 (by decide), h 2 (by decide), h 3 (by decide), h 4 (by decide), h 5 (by decide)]
  exact hs
theorem cst_upb {σ : Row} {n k c : Nat} {b : Int} (h : IR σ n b) (hk : k < n) (hc : c < n) : 0 ≤ (cst σ k (KI c 3)).toInt ∧ (cst σ k (KI c 3)).toInt ≤ 5000 := by
  have hu := s2_up h hk hc
  obtain ⟨-, ⟨hv, -⟩, -, hcb⟩ := h
  obtain ⟨-, hw, -, huk, hlo, -⟩ := hcb k hk
  have hnd := nd_i hw huk
  have hn3 : ∀ g, g < 15 → g ≠ 3 → KI c 3 ≠ KI k g := fun g hg e => KI_ne_f (Ne.symm e) (by decide) hg
  rw [cst_is, wr_out (hn3 1 (by decide) (by decide)) (hn3 7 (by decide) (by decide)) (hn3 12 (by decide) (by decide))]
  refine aft_up ?_ hnd.1 ?_ hu
  · rw [s2_lit _ _ _ (by decide) (by decide)]; omega
  · rw [s2_f _ _ _ _ (by decide) (by decide) (by decide) (by decide), t_add (by omega) (by omega)]; omega
theorem cst_oth {σ : Row} {n k c : Nat} {b bc : Int} (h : IR σ n b) (hk : k < n) (hc : c < n) (e : c ≠ k) (hb : CB σ n bc c) : CB (cst σ k) n bc c := by
  have hu := cst_upb h hk hc
  obtain ⟨b0, b1, b2, -, b4, b5, b6, b7, b9, b13, b14⟩ := hb
  have g : ∀ f, f < 15 → f ≠ 3 → cst σ k (KI c f) = σ (KI c f) := fun f hf h3 => cst_c _ _ _ _ e h3 hf
  unfold CB
  rw [g 0 (by decide) (by decide), g 1 (by decide) (by decide), g 2 (by decide) (by decide), g 4 (by decide) (by decide), g 5 (by decide) (by decide), g 7 (by decide) (by decide), g 9 (by decide) (by decide), g 13 (by decide) (by decide), g 14 (by decide) (by decide), cst_ld]
  exact ⟨b0, b1, b2, hu, b4, b5, b6, b7, b9, b13, b14⟩
/-- the drops that came through and the hole, behind the drops' way -/
theorem aft_175 (σ : Row) (k : Nat) : aft (s2 σ k) k (nd σ k) (KI k 7) = σ (KI k 7) + nd σ k ∧ aft (s2 σ k) k (nd σ k) (KI k 1) = σ (KI k 1) ∧ aft (s2 σ k) k (nd σ k) 2 = σ 2 ∧ aft (s2 σ k) k (nd σ k) (KI k 12) = σ (KI k 12) := by
  have o : ∀ f, f < 15 → f ≠ 3 → f ≠ 4 → f ≠ 8 → f ≠ 9 → aft (s2 σ k) k (nd σ k) (KI k f) = s2 σ k (KI k f) := fun f hf h3 h4 h8 h9 =>
    aft_out (KI_ne_f h4 hf (by decide)) (KI_ne_f h8 hf (by decide)) (KI_ne_f h9 hf (by decide)) (fun t => KI_ne_f h3 hf (by decide)) (KI_sc (by decide)) (KI_sc (by decide)) (KI_sc (by decide)) (KI_sc (by decide))
  refine ⟨?_, ?_, ?_, ?_⟩
  · rw [o 7 (by decide) (by decide) (by decide) (by decide) (by decide), s2_7]
  · rw [o 1 (by decide) (by decide) (by decide) (by decide) (by decide), s2_f _ _ _ _ (by decide) (by decide) (by decide) (by decide)]
  · rw [aft_out (sc_KI (by decide)) (sc_KI (by decide)) (sc_KI (by decide)) (fun t => sc_KI (by decide)) (by decide) (by decide) (by decide) (by decide), s2_lit _ _ _ (by decide) (by decide)]
  · rw [o 12 (by decide) (by decide) (by decide) (by decide) (by decide), s2_f _ _ _ _ (by decide) (by decide) (by decide) (by decide)]
theorem cst_self {σ : Row} {n k : Nat} {b bk : Int} (h : IR σ n b) (hk : k < n) (hb : CB σ n bk k) (hbk : bk ≤ 200000) : CB (cst σ k) n (bk + 1) k := by
  have hu := cst_upb h hk hk
  obtain ⟨-, ⟨hv, hsi, hwe, -⟩, -, -⟩ := h
  obtain ⟨b0, b1, b2, b3, b4, b5, b6, b7, b9, b13, b14⟩ := hb
  have hnd := nd_i b1 b3
  obtain ⟨a7, a1, a2, a12⟩ := aft_175 σ k
  have h7 : (σ (KI k 7) + nd σ k).toInt = (σ (KI k 7)).toInt + (nd σ k).toInt := t_add (by omega) (by omega)
  obtain ⟨-, w2, w3', w4, w5, w6⟩ := wr_i (s := aft (s2 σ k) k (nd σ k)) (k := k) (by rw [a2]; exact hwe) (by rw [a7, h7]; omega) (by rw [a1]; exact b1)
  have lo : 0 ≤ (cst σ k (KI k 4)).toInt ∧ (cst σ k (KI k 4)).toInt ≤ 5000 := by
    rw [cst_is, wr_out (KI_ne_f (by decide) (by decide) (by decide)) (KI_ne_f (by decide) (by decide) (by decide)) (KI_ne_f (by decide) (by decide) (by decide))]
    refine aft_low ?_ ?_ ⟨hnd.1, by omega⟩ ?_
    · rw [s2_lit _ _ _ (by decide) (by decide)]; omega
    · rw [s2_lit _ _ _ (by decide) (by decide)]; omega
    · rw [s2_f _ _ _ _ (by decide) (by decide) (by decide) (by decide)]; exact b4
  have sd : 0 ≤ (cst σ k (KI k 9)).toInt ∧ (cst σ k (KI k 9)).toInt ≤ 900 * (bk + 1) := by
    rw [cst_is, wr_out (KI_ne_f (by decide) (by decide) (by decide)) (KI_ne_f (by decide) (by decide) (by decide)) (KI_ne_f (by decide) (by decide) (by decide))]
    refine aft_sd hbk ?_ ?_
    · rw [s2_lit _ _ _ (by decide) (by decide)]; exact hsi
    · rw [s2_f _ _ _ _ (by decide) (by decide) (by decide) (by decide)]; exact b9
  have w1b : 1 ≤ (cst σ k (KI k 1)).toInt ∧ (cst σ k (KI k 1)).toInt ≤ 60 := by
    rw [cst_is, w6, w5, a1]; rw [a1] at w5; omega
  have r7b : 0 ≤ (cst σ k (KI k 7)).toInt ∧ (cst σ k (KI k 7)).toInt ≤ 5000 := by
    rw [cst_is, w4]
    rw [a2]
    have e1 := Int.emod_nonneg (aft (s2 σ k) k (nd σ k) (KI k 7)).toInt (show (σ 2).toInt ≠ 0 by omega)
    have e2 := Int.emod_lt_of_pos (aft (s2 σ k) k (nd σ k) (KI k 7)).toInt (show 0 < (σ 2).toInt by omega)
    omega
  have g : ∀ f, f < 15 → (f = 0 ∨ f = 2 ∨ f = 5 ∨ f = 10 ∨ f = 11 ∨ f = 13 ∨ f = 14) → cst σ k (KI k f) = σ (KI k f) := fun f hf hh => cst_own _ _ _ hf hh
  unfold CB
  rw [g 0 (by decide) (by omega), g 2 (by decide) (by omega), g 5 (by decide) (by omega), g 13 (by decide) (by omega), g 14 (by decide) (by omega), cst_ld]
  exact ⟨b0, w1b, b2, hu, lo, b5, b6, r7b, sd, by omega, by omega⟩
theorem CB_mono {σ : Row} {n k : Nat} {b b' : Int} (h : CB σ n b k) (hb : b ≤ b') : CB σ n b' k := by
  obtain ⟨b0, b1, b2, b3, b4, b5, b6, b7, b9, b13, b14⟩ := h
  exact ⟨b0, b1, b2, b3, b4, b5, b6, b7, by omega, by omega, by omega⟩
/-- in the midst of a tick: the clocks ahead of k have dripped -/
def IP (σ : Row) (n : Nat) (b : Int) (k : Nat) : Prop := (σ 19 = nI n ∧ n ≤ 5) ∧ ST σ ∧ (0 ≤ (σ 6).toInt ∧ (σ 6).toInt ≤ b ∧ b + 1 ≤ 200000) ∧ ∀ c, c < n → CB σ n (if c < k then b + 1 else b) c
theorem IP.ir {σ : Row} {n k : Nat} {b : Int} (h : IP σ n b k) : IR σ n (b + 1) := by
  obtain ⟨h1, h2, h3, h4⟩ := h
  exact ⟨h1, h2, by omega, fun c hc => CB_mono (h4 c hc) (by split <;> omega)⟩
theorem IP.of {σ : Row} {n : Nat} {b : Int} (h : IR σ n b) (hb : b + 1 ≤ 200000) : IP σ n b 0 := by
  obtain ⟨h1, h2, h3, h4⟩ := h
  exact ⟨h1, h2, by omega, fun c hc => by rw [if_neg (by omega)]; exact h4 c hc⟩
theorem cst_IP {σ : Row} {n k : Nat} {b : Int} (h : IP σ n b k) (hk : k < n) : IP (cst σ k) n b (k + 1) := by
  have hir := h.ir
  obtain ⟨h1, h2, h3, h4⟩ := h
  have l : ∀ i, i < 20 → i ≠ 8 → i ≠ 9 → i ≠ 11 → i ≠ 12 → i ≠ 13 → cst σ k i = σ i := fun i a q1 q2 q3 q4 q5 => cst_lit σ k i a q1 q2 q3 q4 q5
  refine ⟨⟨by rw [l 19 (by decide) (by decide) (by decide) (by decide) (by decide) (by decide)]; exact h1.1, h1.2⟩, ST_of (fun i hi => l i (by omega) (by omega) (by omega) (by omega) (by omega) (by omega)) h2, by rw [l 6 (by decide) (by decide) (by decide) (by decide) (by decide) (by decide)]; exact h3, fun c hc => ?_⟩
  by_cases e : c = k
  · subst e
    rw [if_pos (by omega)]
    have := h4 c hc
    rw [if_neg (by omega)] at this
    exact cst_self hir hk this (by omega)
  · have := cst_oth hir hk hc e (h4 c hc)
    by_cases e2 : c < k
    · rw [if_pos e2] at this; rw [if_pos (by omega)]; exact this
    · rw [if_neg e2] at this; rw [if_neg (by omega)]; exact this
def cF : Nat → Row → Row
  | 0, σ => σ
  | k + 1, σ => cst (cF k σ) k
def cT : Nat → Row → Int32
  | 0, _ => 0
  | k + 1, σ => cT k σ + nd (cF k σ) k
theorem cF_IP {σ : Row} {n : Nat} {b : Int} (h : IP σ n b 0) : ∀ k, k ≤ n → IP (cF k σ) n b k
  | 0, _ => h
  | k + 1, hk => cst_IP (cF_IP h k (by omega)) (by omega)
theorem drip_L {σ : Row} {n K : Nat} {b : Int} {y1 : Int32} (h : IP σ n b 0) (hK : K ≤ n) (hy : y1.toInt = (K : Int) - 1) : ∀ (fu k : Nat), k ≤ K → K < k + fu → fS_drip_L4 fu (cF k σ) y1 (cT k σ) (nI k) = some (cT K σ, cF K σ) := by
  have hn : n ≤ 5 := h.1.2
  intro fu
  induction fu with
  | zero => intro k h1 h2; omega
  | succ m ih =>
    intro k h1 h2
    have hp := cF_IP h k (by omega)
    have hk := t_lit k (by omega)
    rw [fS_drip_L4]
    by_cases e : k = K
    · subst e
      rw [if_pos (by rw [t_lt, hk]; omega)]
    · obtain ⟨q1, q2, q3⟩ := nI5 (show k < n by omega) hn
      rw [if_neg (by rw [t_lt, hk]; omega), hp.1.1, if_neg q2, if_neg q3, inb_nI (by omega) (by decide), gd_t, cl_nI (by omega), dripOf_is hp.ir (by omega), sb]
      have := ih (k + 1) (by omega) (by omega)
      rw [nI_succ] at this
      exact this
theorem drip_is {σ : Row} {n K : Nat} {b : Int} {y1 : Int32} (h : IP σ n b 0) (hK : K ≤ n) (hy : y1.toInt = (K : Int) - 1) : fS_drip σ y1 = some (cT K σ, cF K σ) := by
  have hn : n ≤ 5 := h.1.2
  exact drip_L h hK hy fuel 0 (by omega) (by unfold fuel; omega)
