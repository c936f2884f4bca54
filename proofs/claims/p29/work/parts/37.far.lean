/-! HOW FAR the drops counted can fall behind those at the last truing: w grows with the calls of set alone -/
def WC (σ : Row) (w : Int) (k : Nat) : Prop := (σ (KI k 0) = 0 → (σ (KI k 14)).toInt ≤ 0) ∧ (σ (KI k 0) = 1 → (σ (KI k 14)).toInt ≤ (σ (KI k 4)).toInt) ∧ (¬ σ (KI k 0) = 0 → ¬ σ (KI k 0) = 1 → (σ (KI k 14)).toInt - w ≤ (σ (KI k 9)).toInt + min (σ (KI k 4)).toInt (σ 1).toInt)
def WB (σ : Row) (n : Nat) (w : Int) : Prop := ∀ k, k < n → WC σ w k
theorem WC_congr {σ σ' : Row} {w : Int} {k : Nat} (h : WC σ w k) (h0 : σ' (KI k 0) = σ (KI k 0)) (h4 : σ' (KI k 4) = σ (KI k 4)) (h9 : σ' (KI k 9) = σ (KI k 9)) (h14 : σ' (KI k 14) = σ (KI k 14)) (h1 : σ' 1 = σ 1) : WC σ' w k := by
  unfold WC at *
  rw [h0, h4, h9, h14, h1]
  exact h
theorem cst_WC {σ : Row} {n k c : Nat} {b w : Int} (h : IR σ n b) (hk : k < n) (hc : c < n) (hw : WC σ w c) : WC (cst σ k) w c := by
  have l1 : cst σ k 1 = σ 1 := cst_lit _ _ _ (by decide) (by decide) (by decide) (by decide) (by decide) (by decide)
  by_cases e : c = k
  · subst e
    obtain ⟨-, ⟨hv, hsi, -⟩, hnow, hcb⟩ := h
    obtain ⟨b0, b1, -, b3, b4, -, -, -, b9, -, -⟩ := hcb c hc
    have hnd := nd_i b1 b3
    have e0 : cst σ c (KI c 0) = σ (KI c 0) := cst_own _ _ _ (by decide) (by omega)
    have e14 : cst σ c (KI c 14) = σ (KI c 14) := cst_own _ _ _ (by decide) (by omega)
    have s0 : s2 σ c (KI c 0) = σ (KI c 0) := s2_f _ _ _ _ (by decide) (by decide) (by decide) (by decide)
    have s4 : s2 σ c (KI c 4) = σ (KI c 4) := s2_f _ _ _ _ (by decide) (by decide) (by decide) (by decide)
    have s9 : s2 σ c (KI c 9) = σ (KI c 9) := s2_f _ _ _ _ (by decide) (by decide) (by decide) (by decide)
    have s1 : s2 σ c 1 = σ 1 := s2_lit _ _ _ (by decide) (by decide)
    have sv : s2 σ c 0 = σ 0 := s2_lit _ _ _ (by decide) (by decide)
    have c4 : cst σ c (KI c 4) = aft (s2 σ c) c (nd σ c) (KI c 4) := by rw [cst_is, wr_out (KI_ne_f (by decide) (by decide) (by decide)) (KI_ne_f (by decide) (by decide) (by decide)) (KI_ne_f (by decide) (by decide) (by decide))]
    have c9 : cst σ c (KI c 9) = aft (s2 σ c) c (nd σ c) (KI c 9) := by rw [cst_is, wr_out (KI_ne_f (by decide) (by decide) (by decide)) (KI_ne_f (by decide) (by decide) (by decide)) (KI_ne_f (by decide) (by decide) (by decide))]
    have go4 : ∀ (a : Row) (x : Int32), gon a c x (KI c 4) = a (KI c 4) := fun a x => gon_out (fun t => KI_ne_f (by decide) (by decide) (by decide)) (KI_sc (by decide)) (KI_sc (by decide)) (KI_sc (by decide))
    have go9 : ∀ (a : Row) (x : Int32), gon a c x (KI c 9) = a (KI c 9) := fun a x => gon_out (fun t => KI_ne_f (by decide) (by decide) (by decide)) (KI_sc (by decide)) (KI_sc (by decide)) (KI_sc (by decide))
    obtain ⟨w0, w1, w2⟩ := hw
    refine ⟨fun q => by rw [e14]; rw [e0] at q; exact w0 q, fun q => ?_, fun q0 q1 => ?_⟩
    · rw [e0] at q
      rw [e14, c4]
      have n0 : ¬ s2 σ c (KI c 0) = 0 := by rw [s0, q]; decide
      have y1 : s2 σ c (KI c 0) = 1 := by rw [s0, q]
      unfold aft
      rw [if_neg n0, if_pos y1]
      have er : ris (s2 σ c) c (nd σ c) (KI c 4) = s2 σ c (KI c 4) + mn (nd σ c) (rm (s2 σ c 0) (s2 σ c (KI c 4))) := by simp [ris, upd_at, KI_lit2]
      rw [er, s4, sv]
      have r1 := rm_i (v := σ 0) (x := σ (KI c 4)) (by omega) b4
      have r2 := mn_i (nd σ c) (rm (σ 0) (σ (KI c 4)))
      rw [t_add (by omega) (by omega)]
      have := w1 q
      omega
    · rw [e0] at q0 q1
      rw [e14, l1, c4, c9]
      have n0 : ¬ s2 σ c (KI c 0) = 0 := by rw [s0]; exact q0
      have n1 : ¬ s2 σ c (KI c 0) = 1 := by rw [s0]; exact q1
      have ww := w2 q0 q1
      have sum : (σ (KI c 4) + nd σ c).toInt = (σ (KI c 4)).toInt + (nd σ c).toInt := t_add (by omega) (by omega)
      unfold aft
      rw [if_neg n0, if_neg n1]
      by_cases c2 : s2 σ c 1 ≤ s2 σ c (KI c 4) + nd σ c
      · rw [if_pos c2, go4, go9]
        have a4 : skr (upd (s2 σ c) (KI c 4) (s2 σ c (KI c 4) + nd σ c)) c (KI c 4) = 0 := by simp [skr, upd_at, KI_KI, KI_lit2]
        have a9 : skr (upd (s2 σ c) (KI c 4) (s2 σ c (KI c 4) + nd σ c)) c (KI c 9) = s2 σ c (KI c 9) + s2 σ c 1 := by simp [skr, upd_at, KI_KI, KI_lit1, KI_lit2]
        rw [a4, a9, s9, s1, t_add (by omega) (by omega), i_0]
        omega
      · rw [if_neg c2, upd_eq, uK_f _ (by decide) (by decide) (by decide), s4, s9, sum]
        rw [s1, s4, t_le, sum] at c2
        omega
  · exact WC_congr hw (cst_c _ _ _ _ e (by decide) (by decide)) (cst_c _ _ _ _ e (by decide) (by decide)) (cst_c _ _ _ _ e (by decide) (by decide)) (cst_c _ _ _ _ e (by decide) (by decide)) l1
theorem cF_WB {σ : Row} {n : Nat} {b w : Int} (h : IP σ n b 0) (hw : WB σ n w) : ∀ k, k ≤ n → WB (cF k σ) n w
  | 0, _ => hw
  | k + 1, hk => fun c hc => cst_WC (cF_IP h k (by omega)).ir (by omega) hc (cF_WB h hw k (by omega) c hc)
theorem ps_WB {σ : Row} {n : Nat} {w : Int} (h : IR σ n (σ 6).toInt) (hb : (σ 6).toInt + 1 ≤ 200000) (hw : WB σ n w) : WB (ps n σ) n w := fun c hc => by
  have k : ∀ f, ps n σ (KI c f) = cF n σ (KI c f) := fun f => by unfold ps; rw [upd_ne _ (KI_sc (by decide))]
  exact WC_congr (cF_WB (IP.of h hb) hw n (Nat.le_refl _) c hc) (k 0) (k 4) (k 9) (k 14) (by unfold ps; rw [upd_ne _ (by decide)])
/-- what truing leaves -/
theorem dc_WC {σ σ' : Row} {n k : Nat} {b w : Int} (hcb : CB σ n b k) (hb : b ≤ 200000) (hw : 5000 ≤ w) (hs : 0 ≤ (σ 1).toInt) (h0 : σ' (KI k 0) = σ (KI k 0)) (h4 : σ' (KI k 4) = σ (KI k 4)) (h9 : σ' (KI k 9) = σ (KI k 9)) (h14 : σ' (KI k 14) = dc σ k) (h1 : σ' 1 = σ 1) : WC σ' w k := by
  obtain ⟨b0, -, -, b3, b4, -, -, -, b9, -, -⟩ := hcb
  unfold WC
  rw [h0, h4, h9, h14, h1]
  unfold dc
  refine ⟨fun q => ?_, fun q => ?_, fun q0 q1 => ?_⟩
  · rw [if_pos q, t_neg (by omega)]; omega
  · rw [if_neg (by rw [q]; decide), if_pos q]; omega
  · rw [if_neg q0, if_neg q1, t_add (by omega) (by omega)]; omega
theorem nst_WC {σ : Row} {n k c : Nat} {b w : Int} (h : IR σ n b) (hk : k < n) (hc : c < n) (hw5 : 5000 ≤ w) (hw : WC σ w c) : WC (nst σ k) w c := by
  have hn := h.1.2
  have l1 : nst σ k 1 = σ 1 := nst_lit (by omega) (by decide) (by decide)
  by_cases e : c = k
  · subst e
    have g : ∀ f, f < 15 → f ≠ 13 → f ≠ 14 → f ≠ 11 → nst σ c (KI c f) = σ (KI c f) := fun f hf h13 h14 h11 => nst_f (by omega) hf h13 h14 h11
    have pl4 : pl σ 0 < 4 := Nat.mod_lt _ (by decide)
    have lo : ∀ f, f < 15 → upd σ (100 + (pl σ 0 * 5 + c)) (er σ c) (KI c f) = σ (KI c f) := fun f hf => upd_ne _ (by have := KI_lt (c := c) (f := f) (by omega) hf; omega)
    have key : nst σ c (KI c 14) = σ (KI c 14) ∨ nst σ c (KI c 14) = dc σ c := by
      unfold nst
      split
      · left; exact lo 14 (by decide)
      · split
        · right
          unfold tru; rw [upd_ne _ (KI_ne_f (by decide) (by decide) (by decide)), upd_eq]
          exact dc_congr (fun f hf => by rw [upd_ne _ (KI_sc (by decide)), lo f hf])
        · left; rw [upd_ne _ (KI_sc (by decide)), lo 14 (by decide)]
    rcases key with q | q
    · exact WC_congr hw (g 0 (by decide) (by decide) (by decide) (by decide)) (g 4 (by decide) (by decide) (by decide) (by decide)) (g 9 (by decide) (by decide) (by decide) (by decide)) q l1
    · exact dc_WC (h.2.2.2 c hc) h.2.2.1.2.2 hw5 (by have := h.2.1.2.1; omega) (g 0 (by decide) (by decide) (by decide) (by decide)) (g 4 (by decide) (by decide) (by decide) (by decide)) (g 9 (by decide) (by decide) (by decide) (by decide)) q l1
  · exact WC_congr hw (nst_c (by omega) (by omega) (by decide) e) (nst_c (by omega) (by omega) (by decide) e) (nst_c (by omega) (by omega) (by decide) e) (nst_c (by omega) (by omega) (by decide) e) l1
theorem nF_WB {σ : Row} {n : Nat} {b w : Int} (h : IR σ n b) (hw5 : 5000 ≤ w) (hw : WB σ n w) : ∀ k, k ≤ n → WB (nF k σ) n w
  | 0, _ => hw
  | k + 1, hk => fun c hc => nst_WC (nF_IR h k (by omega)) (by omega) hc hw5 (nF_WB h hw5 hw k (by omega) c hc)
theorem tk_WB {σ : Row} {n : Nat} {w : Int} (h : IR σ n (σ 6).toInt) (hb : (σ 6).toInt + 1 ≤ 200000) (hw5 : 5000 ≤ w) (hw : WB σ n w) : WB (tk n σ) n w := by
  have hn := h.1.2
  have p := ps_WB h hb hw
  have q := (ps_IR h hb).1
  unfold tk
  split
  · refine nF_WB (opn_IR q) hw5 (fun c hc => ?_) n (Nat.le_refl _)
    have g : ∀ f, f < 15 → opn (ps n σ) (ps n σ 19) (KI c f) = ps n σ (KI c f) := fun f hf => opn_lit (KI_lt (by omega) hf) (KI_sc (by decide))
    exact WC_congr (p c hc) (g 0 (by decide)) (g 4 (by decide)) (g 9 (by decide)) (g 14 (by decide)) (opn_lit (by decide) (by decide))
  · exact p
/-- how far an error can be -/
theorem er_i {σ : Row} {n k : Nat} {w : Int} (h : IR σ n (σ 6).toInt) (hk : k < n) (hw : WC σ w k) (hw5 : 5000 ≤ w) (hww : w ≤ 100000000) : -(w + 200000) ≤ (er σ k).toInt ∧ (er σ k).toInt ≤ 400000000 := by
  obtain ⟨-, ⟨-, hsi, -, hho, -⟩, hnow, hcb⟩ := h
  have hh := hcb k hk
  have hd := dc_i hnow.2.2 hh
  obtain ⟨b0, -, b2, b3, b4, -, -, -, b9, b13, b14⟩ := hh
  have t := th_i (σ := σ) hnow.1 hho.1
  have dl : (σ (KI k 14)).toInt - w ≤ (dc σ k).toInt := by
    obtain ⟨w0, w1, w2⟩ := hw
    unfold dc
    by_cases q0 : σ (KI k 0) = 0
    · rw [if_pos q0, t_neg (by omega)]; have := w0 q0; omega
    · rw [if_neg q0]
      by_cases q1 : σ (KI k 0) = 1
      · rw [if_pos q1]; have := w1 q1; omega
      · rw [if_neg q1, t_add (by omega) (by omega)]; have := w2 q0 q1; omega
  have e1 : (dc σ k - σ (KI k 14)).toInt = (dc σ k).toInt - (σ (KI k 14)).toInt := t_sub (by omega) (by omega)
  have q := qt_toInt (x := dc σ k - σ (KI k 14)) (y := σ (KI k 2)) (by omega)
  have ql : -w ≤ (qt (dc σ k - σ (KI k 14)) (σ (KI k 2))).toInt ∧ (qt (dc σ k - σ (KI k 14)) (σ (KI k 2))).toInt ≤ 390000000 := by
    rw [q, e1]
    constructor
    · rw [Int.le_ediv_iff_mul_le (by omega)]
      have : -w * (σ (KI k 2)).toInt ≤ -w * 1 := Int.mul_le_mul_of_nonpos_left (by omega) (by omega)
      omega
    · have : ((dc σ k).toInt - (σ (KI k 14)).toInt) / (σ (KI k 2)).toInt ≤ 390000000 := by
        refine Int.ediv_le_of_le_mul (by omega) ?_
        have : (390000000 : Int) * 1 ≤ 390000000 * (σ (KI k 2)).toInt := Int.mul_le_mul_of_nonneg_left (by omega) (by omega)
        omega
      exact this
  unfold er ho
  have s1 : (σ (KI k 13) + qt (dc σ k - σ (KI k 14)) (σ (KI k 2))).toInt = (σ (KI k 13)).toInt + (qt (dc σ k - σ (KI k 14)) (σ (KI k 2))).toInt := t_add (by omega) (by omega)
  rw [t_sub (by rw [s1]; omega) (by rw [s1]; omega), s1]
  omega
