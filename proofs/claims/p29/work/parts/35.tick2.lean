theorem aft_up_ne {s : Row} {k c : Nat} {d : Int32} (h : c ≠ ld s k) : aft s k d (KI c 3) = s (KI c 3) := by
  have g : ∀ (a : Row) (x : Int32), ld a k = ld s k → gon a k x (KI c 3) = a (KI c 3) := fun a x hl => by rw [gon_up, hl, if_neg (fun q => h q.1)]
  unfold aft
  split
  · exact g _ _ rfl
  · split
    · simp [ris, upd_at, KI_KI, KI_lit2]
    · split
      · rw [g _ _ (by unfold ld; rw [skr_at _ _ _ _ (by decide) (by decide) (by decide) (by decide), uK_f _ (by decide) (by decide) (by decide)]), skr_at _ _ _ _ (by decide) (by decide) (by decide) (by decide), uK_f _ (by decide) (by decide) (by decide)]
      · rw [uK_f _ (by decide) (by decide) (by decide)]
theorem cst_far {σ : Row} {k c f : Nat} (hf : f < 15) (h : c ≠ k) (hl : c ≠ ld σ k) : cst σ k (KI c f) = σ (KI c f) := by
  by_cases h3 : f = 3
  · subst h3
    have e : ld (s2 σ k) k = ld σ k := by unfold ld; rw [s2_f _ _ _ _ (by decide) (by decide) (by decide) (by decide)]
    rw [cst_is, wr_out (KI_ne_f (by decide) (by decide) (by decide)) (KI_ne_f (by decide) (by decide) (by decide)) (KI_ne_f (by decide) (by decide) (by decide)), aft_up_ne (by rw [e]; exact hl), s2_c _ _ _ _ h (by decide)]
  · exact cst_c _ _ _ _ h h3 hf
def ZR (σ : Row) (n : Nat) : Prop := ∀ c f, n ≤ c → c < 5 → f < 15 → σ (KI c f) = 0
theorem cF_far {σ : Row} {n c f : Nat} {b : Int} (h : IP σ n b 0) (hc : n ≤ c) (hf : f < 15) : ∀ k, k ≤ n → cF k σ (KI c f) = σ (KI c f)
  | 0, _ => rfl
  | k + 1, hk => by
    have hp := cF_IP h k (by omega)
    have hl := (hp.2.2.2 k (by omega)).2.2.2.2.2.1
    show cst (cF k σ) k (KI c f) = _
    rw [cst_far hf (by omega) (by omega), cF_far h hc hf k (by omega)]
theorem cF_lit {σ : Row} {n : Nat} (h : n < 20) (h8 : n ≠ 8) (h9 : n ≠ 9) (h11 : n ≠ 11) (h12 : n ≠ 12) (h13 : n ≠ 13) : ∀ k, cF k σ n = σ n
  | 0 => rfl
  | k + 1 => by show cst (cF k σ) k n = _; rw [cst_lit _ _ _ h h8 h9 h11 h12 h13, cF_lit h h8 h9 h11 h12 h13 k]
theorem dc_i {σ : Row} {n k : Nat} {b : Int} (hb : b ≤ 200000) (h : CB σ n b k) : -5000 ≤ (dc σ k).toInt ∧ (dc σ k).toInt ≤ 900 * b + 5000 := by
  obtain ⟨b0, -, -, b3, b4, -, -, -, b9, b13, -⟩ := h
  unfold dc
  split
  · rw [t_neg (by omega)]; omega
  · split
    · omega
    · rw [t_add (by omega) (by omega)]; omega
theorem nst_CB {σ : Row} {n k c : Nat} {b : Int} (h : IR σ n b) (hk : k < n) (hc : c < n) : CB (nst σ k) n b c := by
  obtain ⟨⟨-, hn⟩, ⟨-, -, -, hho, -⟩, hnow, hcb⟩ := h
  have hh := hcb c hc
  by_cases e : c = k
  · subst e
    obtain ⟨b0, b1, b2, b3, b4, b5, b6, b7, b9, b13, b14⟩ := id hh
    have d := dc_i hnow.2.2 hh
    have t := th_i (σ := σ) hnow.1 hho.1
    have g : ∀ f, f < 15 → f ≠ 13 → f ≠ 14 → f ≠ 11 → nst σ c (KI c f) = σ (KI c f) := fun f hf h13 h14 h11 => nst_f (by omega) hf h13 h14 h11
    have el : ld (nst σ c) c = ld σ c := by unfold ld; rw [g 5 (by decide) (by decide) (by decide) (by decide)]
    have pl4 : pl σ 0 < 4 := Nat.mod_lt _ (by decide)
    have key : (nst σ c (KI c 13) = σ (KI c 13) ∧ nst σ c (KI c 14) = σ (KI c 14)) ∨ (nst σ c (KI c 13) = th σ ∧ nst σ c (KI c 14) = dc σ c) := by
      have lo : ∀ f, f < 15 → upd σ (100 + (pl σ 0 * 5 + c)) (er σ c) (KI c f) = σ (KI c f) := fun f hf => upd_ne _ (by have := KI_lt (c := c) (f := f) (by omega) hf; omega)
      unfold nst
      split
      · left; exact ⟨lo 13 (by decide), lo 14 (by decide)⟩
      · split
        · right
          have lo2 : ∀ f, f < 15 → upd (upd σ (100 + (pl σ 0 * 5 + c)) (er σ c)) 15 (σ 15 + 1) (KI c f) = σ (KI c f) := fun f hf => by rw [upd_ne _ (KI_sc (by decide)), lo f hf]
          constructor
          · unfold tru; rw [upd_ne _ (KI_ne_f (by decide) (by decide) (by decide)), upd_ne _ (KI_ne_f (by decide) (by decide) (by decide)), upd_eq]
          · unfold tru; rw [upd_ne _ (KI_ne_f (by decide) (by decide) (by decide)), upd_eq]; exact dc_congr (fun f hf => lo2 f hf)
        · left; exact ⟨by rw [upd_ne _ (KI_sc (by decide)), lo 13 (by decide)], by rw [upd_ne _ (KI_sc (by decide)), lo 14 (by decide)]⟩
    unfold CB
    rw [g 0 (by decide) (by decide) (by decide) (by decide), g 1 (by decide) (by decide) (by decide) (by decide), g 2 (by decide) (by decide) (by decide) (by decide), g 3 (by decide) (by decide) (by decide) (by decide), g 4 (by decide) (by decide) (by decide) (by decide), g 5 (by decide) (by decide) (by decide) (by decide), g 7 (by decide) (by decide) (by decide) (by decide), g 9 (by decide) (by decide) (by decide) (by decide), el]
    refine ⟨b0, b1, b2, b3, b4, b5, b6, b7, b9, ?_, ?_⟩
    · rcases key with ⟨q, -⟩ | ⟨q, -⟩ <;> rw [q] <;> omega
    · rcases key with ⟨-, q⟩ | ⟨-, q⟩ <;> rw [q] <;> omega
  · have g : ∀ f, f < 15 → nst σ k (KI c f) = σ (KI c f) := fun f hf => nst_c (by omega) (by omega) hf e
    have el : ld (nst σ k) c = ld σ c := by unfold ld; rw [g 5 (by decide)]
    unfold CB
    rw [g 0 (by decide), g 1 (by decide), g 2 (by decide), g 3 (by decide), g 4 (by decide), g 5 (by decide), g 7 (by decide), g 9 (by decide), g 13 (by decide), g 14 (by decide), el]
    exact hh
theorem nst_IR {σ : Row} {n k : Nat} {b : Int} (h : IR σ n b) (hk : k < n) : IR (nst σ k) n b := by
  have hn := h.1.2
  have l : ∀ i, i < 20 → i ≠ 15 → nst σ k i = σ i := fun i hi h15 => nst_lit (by omega) hi h15
  exact ⟨⟨by rw [l 19 (by decide) (by decide)]; exact h.1.1, hn⟩, ST_of (fun i hi => l i (by omega) (by omega)) h.2.1, by rw [l 6 (by decide) (by decide)]; exact h.2.2.1, fun c hc => nst_CB h hk hc⟩
theorem nF_IR {σ : Row} {n : Nat} {b : Int} (h : IR σ n b) : ∀ k, k ≤ n → IR (nF k σ) n b
  | 0, _ => h
  | k + 1, hk => nst_IR (nF_IR h k (by omega)) (by omega)
theorem IR_congr {σ σ' : Row} {n : Nat} {b : Int} (h : IR σ n b) (hl : ∀ i, i < 6 → σ' i = σ i) (h6 : σ' 6 = σ 6) (h19 : σ' 19 = σ 19) (hk : ∀ c f, c < 5 → f < 15 → σ' (KI c f) = σ (KI c f)) : IR σ' n b := by
  refine ⟨⟨by rw [h19]; exact h.1.1, h.1.2⟩, ST_of hl h.2.1, by rw [h6]; exact h.2.2.1, fun c hc => ?_⟩
  have hc5 : c < 5 := by have := h.1.2; omega
  have hh := h.2.2.2 c hc
  unfold CB ld at *
  rw [hk c 0 hc5 (by decide), hk c 1 hc5 (by decide), hk c 2 hc5 (by decide), hk c 3 hc5 (by decide), hk c 4 hc5 (by decide), hk c 5 hc5 (by decide), hk c 7 hc5 (by decide), hk c 9 hc5 (by decide), hk c 13 hc5 (by decide), hk c 14 hc5 (by decide)]
  exact hh
theorem opn_IR {σ : Row} {n : Nat} {b : Int} {x : Int32} (h : IR σ n b) : IR (opn σ x) n b :=
  IR_congr h (fun i hi => opn_lit (by omega) (by omega)) (opn_lit (by decide) (by decide)) (opn_lit (by decide) (by decide)) (fun c f hc hf => opn_lit (KI_lt hc hf) (KI_sc (by decide)))
theorem noo_IR {σ : Row} {n : Nat} {b : Int} (h : IR σ n b) : IR (noo n σ) n b := nF_IR (opn_IR h) n (Nat.le_refl _)
theorem nF_far {σ : Row} {c f : Nat} (hc5 : c < 5) (hf : f < 15) : ∀ k, k ≤ c → nF k σ (KI c f) = σ (KI c f) := nF_late hc5 hf
theorem noo_ZR {σ : Row} {n : Nat} (h : ZR σ n) : ZR (noo n σ) n := fun c f hc hc5 hf => by
  show nF n (opn σ (σ 19)) (KI c f) = 0
  rw [nF_late hc5 hf n hc, opn_lit (KI_lt hc5 hf) (KI_sc (by decide))]
  exact h c f hc hc5 hf
/-- the class's book and the reference's -/
def BK (σ ρ : Row) : Prop := (0 ≤ (σ 14).toInt ∧ (σ 14).toInt ≤ (σ 6).toInt) ∧ ρ 95 = nI (min (σ 14).toInt.toNat 4) ∧ ∀ a, a < 4 → a < (σ 14).toInt.toNat → ∃ m, m ≤ 5 ∧ σ (96 + pl σ a) = nI m ∧ ρ (96 + 6 * a) = nI m ∧ ∀ c, c < m → σ (100 + (pl σ a * 5 + c)) = ρ (97 + 6 * a + c)
theorem nF_96 {σ : Row} {q : Nat} (hq : q < 4) : ∀ k, k ≤ 5 → nF k σ (96 + q) = σ (96 + q)
  | 0, _ => rfl
  | k + 1, hk => by
    show nst (nF k σ) k (96 + q) = _
    rw [nst_out (by omega) (hi_KI (by omega) (by decide) (by omega)) (hi_KI (by omega) (by decide) (by omega)) (hi_KI (by omega) (by decide) (by omega)) (by omega) (by omega), nF_96 hq k (by omega)]
theorem nF_pl {σ : Row} {a : Nat} : ∀ k, k ≤ 5 → pl (nF k σ) a = pl σ a
  | 0, _ => rfl
  | k + 1, hk => by show pl (nst (nF k σ) k) a = _; rw [nst_pl (by omega), nF_pl k (by omega)]
theorem nst_err {σ : Row} {k : Nat} (hk : k < 5) : nst σ k (100 + (pl σ 0 * 5 + k)) = er σ k := by
  unfold nst
  split
  · rw [upd_eq]
  · split
    · rw [tru_hi hk (by omega), upd_ne _ (by omega), upd_eq]
    · rw [upd_ne _ (by omega), upd_eq]
theorem nF_100 {σ : Row} {i : Nat} (hi : 100 ≤ i) : ∀ k, k ≤ 5 → (∀ c, c < k → i ≠ 100 + (pl σ 0 * 5 + c)) → nF k σ i = σ i
  | 0, _, _ => rfl
  | k + 1, hk, h => by
    show nst (nF k σ) k i = _
    rw [nst_out (by omega) (hi_KI (by omega) (by decide) (by omega)) (hi_KI (by omega) (by decide) (by omega)) (hi_KI (by omega) (by decide) (by omega)) (by omega) (by rw [nF_pl k (by omega)]; exact h k (by omega)), nF_100 hi k (by omega) (fun c hc => h c (by omega))]
theorem nF_err {σ : Row} {c : Nat} : ∀ k, k ≤ 5 → c < k → nF k σ (100 + (pl σ 0 * 5 + c)) = er σ c
  | 0, _, h => by omega
  | k + 1, hk, h => by
    by_cases e : c = k
    · subst e
      show nst (nF c σ) c _ = _
      have := nst_err (σ := nF c σ) (k := c) (by omega)
      rw [nF_pl c (by omega)] at this
      rw [this, nF_er (by omega)]
    · show nst (nF k σ) k _ = _
      rw [nst_out (by omega) (hi_KI (by omega) (by decide) (by omega)) (hi_KI (by omega) (by decide) (by omega)) (hi_KI (by omega) (by decide) (by omega)) (by omega) (by rw [nF_pl k (by omega)]; omega)]
      exact nF_err k (by omega) (by omega)
