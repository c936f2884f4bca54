/-! the accounts and the bound, kept in a tick -/
def BD (σ : Row) (n : Nat) : Prop := (0 ≤ (σ 7).toInt ∧ (σ 7).toInt ≤ 20000 ∧ pot σ ≤ 5 * (20000 - (σ 7).toInt)) ∧ (∀ c, c < 5 → 0 ≤ (σ (KI c 6)).toInt) ∧ ∀ k, k < n → (¬ σ (KI k 0) = 0 → ¬ σ (KI k 0) = 1 → (σ (KI k 9)).toInt + (σ (KI k 4)).toInt ≤ (σ (KI k 6)).toInt) ∧ (-5000 ≤ (σ (KI k 14)).toInt ∧ (σ (KI k 14)).toInt ≤ 100000)
def INV (σ : Row) (n : Nat) : Prop := KZ σ n ∧ CO σ ∧ BD σ n
theorem nn_of {σ : Row} {n : Nat} {b : Int} (h : IR σ n b) (hz : ZR σ n) : ∀ c, c < 5 → (0 ≤ (σ (KI c 3)).toInt ∧ (σ (KI c 3)).toInt ≤ 5000) ∧ (0 ≤ (σ (KI c 4)).toInt ∧ (σ (KI c 4)).toInt ≤ 5000) := fun c hc => by
  by_cases q : c < n
  · obtain ⟨-, -, -, b3, b4, -⟩ := h.2.2.2 c q
    exact ⟨b3, b4⟩
  · rw [hz c 3 (by omega) hc (by decide), hz c 4 (by omega) hc (by decide)]
    decide
theorem thr_b {σ : Row} {n : Nat} {b : Int} (h : IR σ n b) (hz : ZR σ n) (hb : BD σ n) : ∀ c, c < 5 → (σ (KI c 6)).toInt ≤ 100000 := by
  have nn := nn_of h hz
  obtain ⟨⟨q1, q2, q3⟩, q4, -⟩ := hb
  have n0 := nn 0 (by decide)
  have n1 := nn 1 (by decide)
  have n2 := nn 2 (by decide)
  have n3 := nn 3 (by decide)
  have n4 := nn 4 (by decide)
  have m0 := q4 0 (by decide)
  have m1 := q4 1 (by decide)
  have m2 := q4 2 (by decide)
  have m3 := q4 3 (by decide)
  have m4 := q4 4 (by decide)
  unfold pot at q3
  intro c hc
  rcases (show c = 0 ∨ c = 1 ∨ c = 2 ∨ c = 3 ∨ c = 4 by omega) with rfl | rfl | rfl | rfl | rfl <;> omega
theorem dc_b {σ : Row} {n k : Nat} {b : Int} (h : IR σ n b) (hz : ZR σ n) (hb : BD σ n) (hk : k < n) : -5000 ≤ (dc σ k).toInt ∧ (dc σ k).toInt ≤ 100000 := by
  have hn := h.1.2
  have ht := thr_b h hz hb k (by omega)
  obtain ⟨b0, -, -, b3, b4, -, -, -, b9, -, -⟩ := h.2.2.2 k hk
  have hs := (hb.2.2 k hk).1
  unfold dc
  split
  · rw [t_neg (by omega)]; omega
  · rename_i c0
    split
    · omega
    · rename_i c1
      have := hs c0 c1
      rw [t_add (by omega) (by omega)]; omega
theorem BD_of {σ σ' : Row} {n : Nat} (h : BD σ n) (h7 : σ' 7 = σ 7) (hk : ∀ c f, c < 5 → (f = 0 ∨ f = 3 ∨ f = 4 ∨ f = 6 ∨ f = 9) → σ' (KI c f) = σ (KI c f)) (hn : n ≤ 5) (h14 : ∀ k, k < n → -5000 ≤ (σ' (KI k 14)).toInt ∧ (σ' (KI k 14)).toInt ≤ 100000) : BD σ' n := by
  obtain ⟨q1, q2, q3⟩ := h
  refine ⟨?_, fun c hc => by rw [hk c 6 hc (by omega)]; exact q2 c hc, fun k hk' => ⟨?_, h14 k hk'⟩⟩
  · rw [h7, pot_same (fun c hc => hk c 3 hc (by omega)) (fun c hc => hk c 4 hc (by omega)) (fun c hc => hk c 6 hc (by omega))]; exact q1
  · rw [hk k 0 (by omega) (by omega), hk k 9 (by omega) (by omega), hk k 4 (by omega) (by omega), hk k 6 (by omega) (by omega)]; exact (q3 k hk').1
theorem cst_KZ {σ : Row} {n k : Nat} (h : KZ σ n) : KZ (cst σ k) n := fun c hc q => by
  by_cases e : c = k
  · subst e
    rw [cst_own _ _ _ (by decide) (by omega)] at q
    have := h c hc q
    have s0 : s2 σ c (KI c 0) = σ (KI c 0) := s2_f _ _ _ _ (by decide) (by decide) (by decide) (by decide)
    have s9 : s2 σ c (KI c 9) = σ (KI c 9) := s2_f _ _ _ _ (by decide) (by decide) (by decide) (by decide)
    rw [cst_is, wr_out (KI_ne_f (by decide) (by decide) (by decide)) (KI_ne_f (by decide) (by decide) (by decide)) (KI_ne_f (by decide) (by decide) (by decide))]
    unfold aft
    rw [if_neg (by rw [s0, q]; decide), if_pos (by rw [s0, q])]
    unfold ris
    rw [upd_ne _ (KI_sc (by decide)), uK_f _ (by decide) (by decide) (by decide), s9, this]
  · rw [cst_c _ _ _ _ e (by decide) (by decide)] at q
    rw [cst_c _ _ _ _ e (by decide) (by decide)]
    exact h c hc q
theorem cst_BD {σ : Row} {n k : Nat} {b : Int} (h : IR σ n b) (hz : ZR σ n) (hk : k < n) (hb : BD σ n) : BD (cst σ k) n := by
  have hn := h.1.2
  have hk5 : k < 5 := by omega
  have ht := thr_b h hz hb k hk5
  have hn1 := nn_of h hz
  obtain ⟨⟨q1, q2, q3⟩, q4, q5⟩ := hb
  obtain ⟨b0, b1, b2, b3, b4, b5, -, -, b9, -, -⟩ := h.2.2.2 k hk
  have hv := h.2.1.1
  have hsi := h.2.1.2.1
  have hnd := nd_i b1 b3
  have c7 : cst σ k 7 = σ 7 := cst_lit σ k 7 (by decide) (by decide) (by decide) (by decide) (by decide) (by decide)
  have e6 : ∀ c, cst σ k (KI c 6) = if c = k then σ (KI c 6) + nd σ k else σ (KI c 6) := fun c => by
    rw [cst_is, wr_out (KI_ne_f (by decide) (by decide) (by decide)) (KI_ne_f (by decide) (by decide) (by decide)) (KI_ne_f (by decide) (by decide) (by decide)), aft_out (KI_ne_f (by decide) (by decide) (by decide)) (KI_ne_f (by decide) (by decide) (by decide)) (KI_ne_f (by decide) (by decide) (by decide)) (fun t => KI_ne_f (by decide) (by decide) (by decide)) (KI_sc (by decide)) (KI_sc (by decide)) (KI_sc (by decide)) (KI_sc (by decide)), s2_lt3 _ _ _ (KI_sc (by decide))]
    unfold lt3
    by_cases e : c = k
    · subst e; simp [upd_at, KI_KI]
    · simp [upd_at, KI_KI, e]
  have t6 : (σ (KI k 6) + nd σ k).toInt = (σ (KI k 6)).toInt + (nd σ k).toInt := by have := q4 k hk5; exact t_add (by omega) (by omega)
  have sl : ld (s2 σ k) k = ld σ k := by unfold ld; rw [s2_f _ _ _ _ (by decide) (by decide) (by decide) (by decide)]
  have s0 : s2 σ k 0 = σ 0 := s2_lit _ _ _ (by decide) (by decide)
  have s4 : s2 σ k (KI k 4) = σ (KI k 4) := s2_f _ _ _ _ (by decide) (by decide) (by decide) (by decide)
  have sup : 0 ≤ (s2 σ k (KI (ld σ k) 3)).toInt ∧ (s2 σ k (KI (ld σ k) 3)).toInt ≤ 5000 := s2_up h hk b5.2.2
  have ps2 : pot (s2 σ k) = pot σ - (5 - (k : Int)) * (nd σ k).toInt + (nd σ k).toInt := by
    unfold s2
    rw [pot_o (fun _ => sc_KI (by decide)) (fun _ => sc_KI (by decide)) (fun _ => sc_KI (by decide))]
    unfold lt3
    rw [pot_o (fun _ => KI_ne_f (by decide) (by decide) (by decide)) (fun _ => KI_ne_f (by decide) (by decide) (by decide)) (fun _ => KI_ne_f (by decide) (by decide) (by decide)), pot_6 hk5, pot_3 hk5, uK_f _ (by decide) (by decide) (by decide), t6, t_sub (by omega) (by omega), show (σ (KI k 3)).toInt - (nd σ k).toInt - (σ (KI k 3)).toInt = -(nd σ k).toInt by omega, Int.mul_neg]
    omega
  have pa := aft_pot (s := s2 σ k) (k := k) (d := nd σ k) hk5 (by rw [sl]; omega) (by rw [sl]; exact b5.2.1) (by rw [s0]; omega) (by rw [sl]; exact sup) ⟨hnd.1, by omega⟩ (by rw [s4]; exact b4)
  have pw : pot (cst σ k) = pot (aft (s2 σ k) k (nd σ k)) := by
    rw [cst_is]
    exact pot_same (fun c _ => wr_out (KI_ne_f (by decide) (by decide) (by decide)) (KI_ne_f (by decide) (by decide) (by decide)) (KI_ne_f (by decide) (by decide) (by decide))) (fun c _ => wr_out (KI_ne_f (by decide) (by decide) (by decide)) (KI_ne_f (by decide) (by decide) (by decide)) (KI_ne_f (by decide) (by decide) (by decide))) (fun c _ => wr_out (KI_ne_f (by decide) (by decide) (by decide)) (KI_ne_f (by decide) (by decide) (by decide)) (KI_ne_f (by decide) (by decide) (by decide)))
  refine ⟨⟨by rw [c7]; exact q1, by rw [c7]; exact q2, ?_⟩, fun c hc => ?_, fun c hc => ?_⟩
  · rw [c7, pw]
    have e1 : (5 - (k : Int)) * (nd σ k).toInt = (4 - (k : Int)) * (nd σ k).toInt + (nd σ k).toInt := by
      rw [show (5 - (k : Int)) = (4 - (k : Int)) + 1 by omega, Int.add_mul, Int.one_mul]
    omega
  · rw [e6]
    by_cases e : c = k
    · rw [if_pos e, e, t6]; have := q4 k hk5; omega
    · rw [if_neg e]; exact q4 c hc
  · by_cases e : c = k
    · subst e
      rw [cst_own _ _ _ (by decide) (by omega), cst_own _ _ 14 (by decide) (by omega), e6, if_pos rfl, t6]
      refine ⟨fun g0 g1 => ?_, (q5 c hc).2⟩
      have old := (q5 c hc).1 g0 g1
      have w : ∀ f, f < 15 → f ≠ 1 → f ≠ 7 → f ≠ 12 → cst σ c (KI c f) = aft (s2 σ c) c (nd σ c) (KI c f) := fun f hf a d g => by rw [cst_is, wr_out (KI_ne_f a hf (by decide)) (KI_ne_f d hf (by decide)) (KI_ne_f g hf (by decide))]
      have s9 : s2 σ c (KI c 9) = σ (KI c 9) := s2_f _ _ _ _ (by decide) (by decide) (by decide) (by decide)
      have s1 : s2 σ c 1 = σ 1 := s2_lit _ _ _ (by decide) (by decide)
      have sk : s2 σ c (KI c 0) = σ (KI c 0) := s2_f _ _ _ _ (by decide) (by decide) (by decide) (by decide)
      have es : (σ (KI c 4) + nd σ c).toInt = (σ (KI c 4)).toInt + (nd σ c).toInt := t_add (by omega) (by omega)
      have go : ∀ (r : Row) (x : Int32) f, f < 15 → f ≠ 3 → gon r c x (KI c f) = r (KI c f) := fun r x f hf h3 => gon_out (fun t => KI_ne_f h3 hf (by decide)) (KI_sc (by decide)) (KI_sc (by decide)) (KI_sc (by decide))
      rw [w 9 (by decide) (by decide) (by decide) (by decide), w 4 (by decide) (by decide) (by decide) (by decide)]
      unfold aft
      rw [if_neg (by rw [sk]; exact g0), if_neg (by rw [sk]; exact g1), s1, s4]
      by_cases z : σ 1 ≤ σ (KI c 4) + nd σ c
      · rw [if_pos z, go _ _ 9 (by decide) (by decide), go _ _ 4 (by decide) (by decide)]
        have k9 : skr (upd (s2 σ c) (KI c 4) (σ (KI c 4) + nd σ c)) c (KI c 9) = σ (KI c 9) + σ 1 := by simp [skr, upd_at, KI_KI, KI_lit1, KI_lit2, s9, s1]
        have k4 : skr (upd (s2 σ c) (KI c 4) (σ (KI c 4) + nd σ c)) c (KI c 4) = 0 := by simp [skr, upd_at, KI_KI, KI_lit2]
        rw [k9, k4, i_0, t_add (by omega) (by omega)]
        rw [t_le, es] at z
        omega
      · rw [if_neg z, uK_f _ (by decide) (by decide) (by decide), upd_eq, s9, es]
        omega
    · rw [cst_c _ _ _ _ e (by decide) (by decide), cst_c _ _ _ 9 e (by decide) (by decide), cst_c _ _ _ 4 e (by decide) (by decide), cst_c _ _ _ 6 e (by decide) (by decide), cst_c _ _ _ 14 e (by decide) (by decide)]
      exact q5 c hc
theorem cF_INV {σ : Row} {n : Nat} {b : Int} (h : IP σ n b 0) (hz : ZR σ n) (hi : INV σ n) : ∀ k, k ≤ n → INV (cF k σ) n
  | 0, _ => hi
  | k + 1, hk => by
    have hp := (cF_IP h k (by omega)).ir
    have hn := h.1.2
    obtain ⟨i1, i2, i3⟩ := cF_INV h hz hi k (by omega)
    have hzk : ZR (cF k σ) n := fun c f hc hc5 hf => by rw [cF_far h hc hf k (by omega)]; exact hz c f hc hc5 hf
    have hl := (hp.2.2.2 k (by omega)).2.2.2.2.2.1
    exact ⟨cst_KZ i1, cst_CO (by omega) (by omega) i2, cst_BD hp hzk (by omega) i3⟩
theorem INV_of {σ σ' : Row} {n : Nat} (h : INV σ n) (hn : n ≤ 5) (hl : ∀ i, 7 ≤ i → i < 13 → σ' i = σ i) (hk : ∀ c f, c < 5 → (f = 0 ∨ f = 3 ∨ f = 4 ∨ f = 6 ∨ f = 9) → σ' (KI c f) = σ (KI c f)) (h14 : ∀ k, k < n → -5000 ≤ (σ' (KI k 14)).toInt ∧ (σ' (KI k 14)).toInt ≤ 100000) : INV σ' n := by
  obtain ⟨h1, h2, h3⟩ := h
  refine ⟨KZ_of h1 (fun k hk' => hk k 0 (by omega) (by omega)) (fun k hk' => hk k 9 (by omega) (by omega)), ?_, BD_of h3 (hl 7 (by decide) (by decide)) hk hn h14⟩
  unfold CO Vt Wt at *
  rw [tot_same (ρ' := σ') (ρ := σ) (f := 3) (fun c hc => hk c 3 hc (by omega)), tot_same (ρ' := σ') (ρ := σ) (f := 4) (fun c hc => hk c 4 hc (by omega)), hl 7 (by decide) (by decide), hl 8 (by decide) (by decide), hl 9 (by decide) (by decide), hl 10 (by decide) (by decide), hl 11 (by decide) (by decide), hl 12 (by decide) (by decide)]
  exact h2
theorem ps_INV {σ : Row} {n : Nat} (h : IR σ n (σ 6).toInt) (hb : (σ 6).toInt + 1 ≤ 200000) (hz : ZR σ n) (hi : INV σ n) : INV (ps n σ) n := by
  have q := cF_INV (IP.of h hb) hz hi n (Nat.le_refl _)
  have k : ∀ c f, ps n σ (KI c f) = cF n σ (KI c f) := fun c f => by unfold ps; rw [upd_ne _ (KI_sc (by decide))]
  exact INV_of q h.1.2 (fun i h1 h2 => by unfold ps; rw [upd_ne _ (by omega)]) (fun c f _ _ => k c f) (fun c hc => by rw [k]; exact (q.2.2.2.2 c hc).2)
theorem nst_INV {σ : Row} {n k : Nat} {b : Int} (h : IR σ n b) (hz : ZR σ n) (hk : k < n) (hi : INV σ n) : INV (nst σ k) n := by
  have hn := h.1.2
  have hd := dc_b h hz hi.2.2 hk
  have pl4 : pl σ 0 < 4 := Nat.mod_lt _ (by decide)
  have g : ∀ c f, c < 5 → f < 15 → f ≠ 13 → f ≠ 14 → f ≠ 11 → nst σ k (KI c f) = σ (KI c f) := fun c f hc hf h13 h14 h11 => by
    by_cases e : c = k
    · subst e; exact nst_f hc hf h13 h14 h11
    · exact nst_c (by omega) hc hf e
  refine INV_of hi hn (fun i h1 h2 => nst_lit (by omega) (by omega) (by omega)) (fun c f hc hf => g c f hc (by omega) (by omega) (by omega) (by omega)) (fun c hc => ?_)
  by_cases e : c = k
  · subst e
    have lo : ∀ f, f < 15 → upd σ (100 + (pl σ 0 * 5 + c)) (er σ c) (KI c f) = σ (KI c f) := fun f hf => upd_ne _ (by have := KI_lt (c := c) (f := f) (by omega) hf; omega)
    have key : nst σ c (KI c 14) = σ (KI c 14) ∨ nst σ c (KI c 14) = dc σ c := by
      unfold nst
      split
      · left; exact lo 14 (by decide)
      · split
        · right
          rw [tru_14]
          exact dc_congr (fun f hf => by rw [upd_ne _ (KI_sc (by decide)), lo f hf])
        · left; rw [upd_ne _ (KI_sc (by decide)), lo 14 (by decide)]
    rcases key with q | q
    · rw [q]; exact (hi.2.2.2.2 c hc).2
    · rw [q]; exact hd
  · rw [nst_c (by omega) (by omega) (by decide) e]; exact (hi.2.2.2.2 c hc).2
theorem nF_ZR {σ : Row} {n : Nat} (hz : ZR σ n) : ∀ k, k ≤ n → ZR (nF k σ) n := fun k hk c f hc hc5 hf => by rw [nF_late hc5 hf k (by omega)]; exact hz c f hc hc5 hf
theorem nF_INV {σ : Row} {n : Nat} {b : Int} (h : IR σ n b) (hz : ZR σ n) (hi : INV σ n) : ∀ k, k ≤ n → INV (nF k σ) n
  | 0, _ => hi
  | k + 1, hk => nst_INV (nF_IR h k (by omega)) (nF_ZR hz k (by omega)) (by omega) (nF_INV h hz hi k (by omega))
theorem noo_INV {σ : Row} {n : Nat} {b : Int} (h : IR σ n b) (hz : ZR σ n) (hi : INV σ n) : INV (noo n σ) n := by
  have hn := h.1.2
  have k : ∀ c f, c < 5 → f < 15 → opn σ (σ 19) (KI c f) = σ (KI c f) := fun c f hc hf => opn_lit (KI_lt hc hf) (KI_sc (by decide))
  exact nF_INV (opn_IR h) (fun c f hc hc5 hf => by rw [k c f hc5 hf]; exact hz c f hc hc5 hf) (INV_of hi hn (fun i h1 h2 => opn_lit (by omega) (by omega)) (fun c f hc hf => k c f hc (by omega)) (fun c hc => by rw [k c 14 (by omega) (by decide)]; exact (hi.2.2.2.2 c hc).2)) n (Nat.le_refl _)
theorem tk_INV {σ : Row} {n : Nat} (h : IR σ n (σ 6).toInt) (hb : (σ 6).toInt + 1 ≤ 200000) (hz : ZR σ n) (hi : INV σ n) : INV (tk n σ) n := by
  unfold tk
  split
  · exact noo_INV (ps_IR h hb).1 (ps_ZR h hb hz) (ps_INV h hb hz hi)
  · exact ps_INV h hb hz hi
