def tot (ρ : Row) (f : Nat) : Int32 := ρ (KI 0 f) + ρ (KI 1 f) + ρ (KI 2 f) + ρ (KI 3 f) + ρ (KI 4 f)
theorem tot_add {ρ ρ' : Row} {k f : Nat} {x : Int32} (hk : k < 5) (h : ρ' (KI k f) = ρ (KI k f) + x) (ho : ∀ c, c < 5 → c ≠ k → ρ' (KI c f) = ρ (KI c f)) : tot ρ' f = tot ρ f + x := by
  unfold tot
  rcases (show k = 0 ∨ k = 1 ∨ k = 2 ∨ k = 3 ∨ k = 4 by omega) with rfl | rfl | rfl | rfl | rfl
  · rw [h, ho 1 (by decide) (by decide), ho 2 (by decide) (by decide), ho 3 (by decide) (by decide), ho 4 (by decide) (by decide)]; ac_rfl
  · rw [h, ho 0 (by decide) (by decide), ho 2 (by decide) (by decide), ho 3 (by decide) (by decide), ho 4 (by decide) (by decide)]; ac_rfl
  · rw [h, ho 1 (by decide) (by decide), ho 0 (by decide) (by decide), ho 3 (by decide) (by decide), ho 4 (by decide) (by decide)]; ac_rfl
  · rw [h, ho 1 (by decide) (by decide), ho 2 (by decide) (by decide), ho 0 (by decide) (by decide), ho 4 (by decide) (by decide)]; ac_rfl
  · rw [h, ho 1 (by decide) (by decide), ho 2 (by decide) (by decide), ho 3 (by decide) (by decide), ho 0 (by decide) (by decide)]; ac_rfl
theorem tot_same {ρ ρ' : Row} {f : Nat} (ho : ∀ c, c < 5 → ρ' (KI c f) = ρ (KI c f)) : tot ρ' f = tot ρ f := by
  unfold tot
  rw [ho 0 (by decide), ho 1 (by decide), ho 2 (by decide), ho 3 (by decide), ho 4 (by decide)]
/-- class and reference agree: settings, water, clocks -/
def SH (σ ρ : Row) : Prop := (∀ i, i < 20 → i ≠ 16 → i ≠ 17 → σ i = ρ i) ∧ ∀ c f, c < 5 → f < 15 → σ (KI c f) = ρ (KI c f)
/-- in the midst of a tick -/
def RD (k : Nat) (σ ρ : Row) : Prop := (∀ i, i < 20 → i ≠ 11 → i ≠ 16 → i ≠ 17 → σ i = ρ i) ∧ (∀ c f, c < 5 → f < 15 → (c < k → f ≠ 1 ∧ f ≠ 7 ∧ f ≠ 12) → σ (KI c f) = ρ (KI c f)) ∧ ∀ c, c < k → (σ (KI c 1) = wr ρ c (KI c 1) ∧ σ (KI c 7) = wr ρ c (KI c 7) ∧ σ (KI c 12) = wr ρ c (KI c 12)) ∧ (0 ≤ (ρ (KI c 7)).toInt ∧ (ρ (KI c 7)).toInt ≤ 10000) ∧ (1 ≤ (ρ (KI c 1)).toInt ∧ (ρ (KI c 1)).toInt ≤ 60)
theorem s2_lt3 (σ : Row) (k i : Nat) (h : i ≠ 11) : s2 σ k i = lt3 σ k (nd σ k) i := by
  unfold s2; rw [upd_ne _ h]
theorem lt3_lit (σ : Row) (k n : Nat) (d : Int32) (h : n < 20) : lt3 σ k d n = σ n := by
  unfold lt3; simp [upd_at, KI_lit1, h]
theorem lt3_c (σ : Row) (k c f : Nat) (d : Int32) (h : c ≠ k) (hf : f < 15) : lt3 σ k d (KI c f) = σ (KI c f) := by
  unfold lt3; simp [upd_at, KI_KI, hf, h]
theorem lt3_f (σ : Row) (k c f : Nat) (d : Int32) (h3 : f ≠ 3) (h6 : f ≠ 6) (h7 : f ≠ 7) (hf : f < 15) : lt3 σ k d (KI c f) = σ (KI c f) := by
  unfold lt3; simp [upd_at, KI_KI, hf, h3, h6, h7]
theorem pass_step {σ ρ ρ' : Row} {n k : Nat} {b : Int} (hip : IP σ n b k) (hk : k < n) (h : RD k σ ρ) (hr : ∀ i, i ≠ 17 → ρ' i = aft (lt3 ρ k (nd ρ k)) k (nd ρ k) i) : RD (k + 1) (cst σ k) ρ' ∧ nd σ k = nd ρ k := by
  have hn : n ≤ 5 := hip.1.2
  obtain ⟨r1, r2, r3⟩ := h
  have hkf : ∀ f, f < 15 → σ (KI k f) = ρ (KI k f) := fun f hf => r2 k f (by omega) hf (fun q => by omega)
  have hnd : nd σ k = nd ρ k := nd_congr hkf
  have hb := hip.2.2.2 k hk
  obtain ⟨-, b1, -, b3, -, b5, -, b7, -⟩ := hb
  have hndi := nd_i b1 b3
  have hl5 : ld σ k < 5 := by omega
  -- the start of the drops' way
  have lk : ∀ i, σ i = ρ i → lt3 σ k (nd σ k) i = lt3 ρ k (nd ρ k) i := fun i hi => by rw [hnd]; exact lt3_congr hkf hi
  have sk : ∀ f, f < 15 → s2 σ k (KI k f) = lt3 ρ k (nd ρ k) (KI k f) := fun f hf => by rw [s2_lt3 _ _ _ (KI_sc (by decide))]; exact lk _ (hkf f hf)
  have sl : ∀ i, i < 20 → i ≠ 11 → i ≠ 16 → i ≠ 17 → s2 σ k i = lt3 ρ k (nd ρ k) i := fun i hi a c d => by rw [s2_lt3 _ _ _ a]; exact lk _ (r1 i hi a c d)
  have su : ∀ t, t < 5 → s2 σ k (KI t 3) = lt3 ρ k (nd ρ k) (KI t 3) := fun t ht => by rw [s2_lt3 _ _ _ (KI_sc (by decide))]; exact lk _ (r2 t 3 ht (by decide) (fun _ => by decide))
  have sld : ld (s2 σ k) k < 5 := by unfold ld; rw [s2_f _ _ _ _ (by decide) (by decide) (by decide) (by decide)]; exact hl5
  have ag : ∀ i, i ≠ 11 → σ i = ρ i → aft (s2 σ k) k (nd σ k) i = aft (lt3 ρ k (nd ρ k)) k (nd ρ k) i := by
    intro i h11 hi
    have := aft_congr (s := s2 σ k) (s' := lt3 ρ k (nd ρ k)) (k := k) (i := i) (d := nd σ k) (sl 0 (by decide) (by decide) (by decide) (by decide)) (sl 1 (by decide) (by decide) (by decide) (by decide)) (sl 8 (by decide) (by decide) (by decide) (by decide)) (sl 9 (by decide) (by decide) (by decide) (by decide)) (sl 12 (by decide) (by decide) (by decide) (by decide)) (sl 13 (by decide) (by decide) (by decide) (by decide)) sk su sld (by rw [s2_lt3 _ _ _ h11]; exact lk i hi)
    rw [this, hnd]
  refine ⟨⟨fun i hi h11 h16 h17 => ?_, fun c f hc hf hcf => ?_, fun c hc => ?_⟩, hnd⟩
  · rw [cst_is, wr_out (sc_KI hi) (sc_KI hi) (sc_KI hi), ag i h11 (r1 i hi h11 h16 h17), hr i h17]
  · by_cases e : c = k
    · subst e
      obtain ⟨f1, f7, f12⟩ := hcf (by omega)
      rw [cst_is, wr_out (KI_ne_f f1 hf (by decide)) (KI_ne_f f7 hf (by decide)) (KI_ne_f f12 hf (by decide)), ag _ (KI_sc (by decide)) (hkf f hf), hr _ (KI_sc (by decide))]
    · have n1 : ∀ g, g < 15 → KI c f ≠ KI k g := fun g hg q => e ((KI_eq_iff hf hg).mp q).1
      rw [cst_is, wr_out (n1 1 (by decide)) (n1 7 (by decide)) (n1 12 (by decide)), ag _ (KI_sc (by decide)) (r2 c f hc hf (fun q => hcf (by omega))), hr _ (KI_sc (by decide))]
  · by_cases e : c = k
    · subst e
      have a1 := ag (KI c 1) (KI_sc (by decide)) (hkf 1 (by decide))
      have a7 := ag (KI c 7) (KI_sc (by decide)) (hkf 7 (by decide))
      have a12 := ag (KI c 12) (KI_sc (by decide)) (hkf 12 (by decide))
      have a2 := ag 2 (by decide) (r1 2 (by decide) (by decide) (by decide) (by decide))
      rw [← hr _ (KI_sc (by decide))] at a1 a7 a12
      rw [← hr _ (by decide)] at a2
      obtain ⟨v7, v1, v2, v12⟩ := aft_175 σ c
      have w : ∀ i, aft (s2 σ c) c (nd σ c) i = ρ' i → cst σ c i = wr ρ' c i := fun i hi => by rw [cst_is]; exact wr_congr a2 a1 a7 a12 hi
      refine ⟨⟨w _ a1, w _ a7, w _ a12⟩, ?_, ?_⟩
      · rw [← a7, v7, t_add (by omega) (by omega)]; omega
      · rw [← a1, v1]; exact b1
    · obtain ⟨⟨t1, t7, t12⟩, c7, c1⟩ := r3 c (by omega)
      have keep : ∀ f, f < 15 → f ≠ 3 → ρ' (KI c f) = ρ (KI c f) := by
        intro f hf h3
        have n1 : ∀ g, g < 15 → KI c f ≠ KI k g := fun g hg q => e ((KI_eq_iff hf hg).mp q).1
        rw [hr _ (KI_sc (by decide)), aft_out (n1 4 (by decide)) (n1 8 (by decide)) (n1 9 (by decide)) (fun t => KI_ne_f h3 hf (by decide)) (KI_sc (by decide)) (KI_sc (by decide)) (KI_sc (by decide)) (KI_sc (by decide)), lt3_c _ _ _ _ _ e hf]
      have k2 : ρ' 2 = ρ 2 := by
        rw [hr _ (by decide), aft_17 _ _ _ _ (by decide) (by decide) (by decide) (by decide) (by decide), lt3_lit _ _ _ _ (by decide)]
      have w : ∀ f, f < 15 → f ≠ 3 → wr ρ' c (KI c f) = wr ρ c (KI c f) := fun f hf h3 => wr_congr k2 (keep 1 (by decide) (by decide)) (keep 7 (by decide) (by decide)) (keep 12 (by decide) (by decide)) (keep f hf h3)
      refine ⟨⟨?_, ?_, ?_⟩, ?_, ?_⟩
      · rw [cst_c _ _ _ _ e (by decide) (by decide), t1, w 1 (by decide) (by decide)]
      · rw [cst_c _ _ _ _ e (by decide) (by decide), t7, w 7 (by decide) (by decide)]
      · rw [cst_c _ _ _ _ e (by decide) (by decide), t12, w 12 (by decide) (by decide)]
      · rw [keep 7 (by decide) (by decide)]; exact c7
      · rw [keep 1 (by decide) (by decide)]; exact c1
/-- what else a drip leaves in the reference's row -/
theorem drip_rest {ρ ρ' : Row} {k : Nat} (hk : k < 5) (h17 : ρ' 17 = ρ 17 + sti (lt3 ρ k (nd ρ k)) k (nd ρ k)) (hr : ∀ i, i ≠ 17 → ρ' i = aft (lt3 ρ k (nd ρ k)) k (nd ρ k) i) :
    (∀ i, 95 ≤ i → ρ' i = ρ i ∨ ¬ ∀ t, i ≠ KI t 3) ∧ ρ' 16 = ρ 16 ∧ ρ' 11 = ρ 11 ∧ tot ρ' 11 = tot ρ 11 ∧ (ρ 17 = tot ρ 8 → ρ' 17 = tot ρ' 8) := by
  have keep : ∀ c f, f < 15 → f ≠ 3 → f ≠ 4 → f ≠ 8 → f ≠ 9 → f ≠ 6 → f ≠ 7 → ρ' (KI c f) = ρ (KI c f) := by
    intro c f hf h3 h4 h8 h9 h6 h7
    rw [hr _ (KI_sc (by decide)), aft_out (KI_ne_f h4 hf (by decide)) (KI_ne_f h8 hf (by decide)) (KI_ne_f h9 hf (by decide)) (fun t => KI_ne_f h3 hf (by decide)) (KI_sc (by decide)) (KI_sc (by decide)) (KI_sc (by decide)) (KI_sc (by decide)), lt3_f _ _ _ _ _ h3 h6 h7 hf]
  have lit : ∀ n, n < 20 → n ≠ 17 → n ≠ 8 → n ≠ 9 → n ≠ 12 → n ≠ 13 → ρ' n = ρ n := by
    intro n hn h17 h8 h9 h12 h13
    rw [hr _ h17, aft_17 _ _ _ _ hn h8 h9 h12 h13, lt3_lit _ _ _ _ hn]
  refine ⟨fun i hi => ?_, lit 16 (by decide) (by decide) (by decide) (by decide) (by decide) (by decide), lit 11 (by decide) (by decide) (by decide) (by decide) (by decide) (by decide), tot_same (fun c _ => keep c 11 (by decide) (by decide) (by decide) (by decide) (by decide) (by decide) (by decide)), fun h => ?_⟩
  · by_cases e : ∀ t, i ≠ KI t 3
    · left
      have hKI : ∀ g, g < 15 → i ≠ KI k g := fun g hg => hi_KI hk hg hi
      rw [hr i (by omega), aft_out (hKI 4 (by decide)) (hKI 8 (by decide)) (hKI 9 (by decide)) e (by omega) (by omega) (by omega) (by omega)]
      unfold lt3
      rw [upd_ne _ (hKI 7 (by decide)), upd_ne _ (hKI 6 (by decide)), upd_ne _ (hKI 3 (by decide))]
    · exact Or.inr e
  · rw [h17, h]
    refine (tot_add hk ?_ (fun c _ hck => ?_)).symm
    · rw [hr _ (KI_sc (by decide)), aft_8, lt3_f _ _ _ _ _ (by decide) (by decide) (by decide) (by decide)]
    · have n1 : ∀ g, g < 15 → KI c 8 ≠ KI k g := fun g hg q => hck ((KI_eq_iff (by decide) hg).mp q).1
      rw [hr _ (KI_sc (by decide)), aft_out (n1 4 (by decide)) (n1 8 (by decide)) (n1 9 (by decide)) (fun t => KI_ne_f (by decide) (by decide) (by decide)) (KI_sc (by decide)) (KI_sc (by decide)) (KI_sc (by decide)) (KI_sc (by decide)), lt3_c _ _ _ _ _ hck (by decide)]
