/-! ## jugs -/
def whl (σ : Row) (k : Nat) (d : Int32) : Int32 := if d ≤ σ 7 then (if σ (KI k 3) < σ 0 then 0 else 2) else 1
theorem jug_e : ∀ j, j < 3 → fX_element 3 (tab 2) (nI j) = some (tab 2 j) := by decide +kernel
theorem jug_m : ∀ j, j < 3 → fM_jug (nI j) = some (tab 2 j) := by decide +kernel
theorem jug_j : ∀ j, j < 3 → fX_isJug (nI j) = some 1 := by decide +kernel
theorem jug_i : ∀ j, j < 3 → 0 ≤ (tab 2 j).toInt ∧ (tab 2 j).toInt ≤ 700 := by decide +kernel
theorem isJug_f {x : Int32} (h : ¬ (0 ≤ x.toInt ∧ x.toInt < (3 : Int))) : fX_isJug x = some 0 := by
  have i3 : (3 : Int32).toInt = 3 := rfl
  unfold fX_isJug
  by_cases c : x < 0
  · rw [if_pos c]
  · rw [if_neg c]
    rw [t_lt, i_0] at c
    rw [if_pos (by rw [t_le]; omega)]
theorem roomAbove_is (σ : Row) (x : Int32) : fS_roomAbove σ x = some (rm (σ 0) x) := by
  unfold fS_roomAbove rm
  split <;> rfl
theorem why_is {σ : Row} {k j : Nat} (hj : j < 3) (h0 : 0 ≤ (σ 0).toInt ∧ (σ 0).toInt ≤ 5000) (hu : 0 ≤ (σ (KI k 3)).toInt ∧ (σ (KI k 3)).toInt ≤ 5000) : fS_whyNotPoured σ k (nI j) = some (whl σ k (tab 2 j)) := by
  unfold fS_whyNotPoured whl
  rw [jug_e j hj, sb]
  by_cases c : tab 2 j ≤ σ 7
  · rw [if_pos c, if_pos c, roomAbove_is, sb]
    have r := rm_i h0 hu
    by_cases c2 : σ (KI k 3) < σ 0
    · rw [if_pos c2]
      rw [t_lt] at c2
      rw [if_neg (by rw [t_eq, r, i_0]; omega)]
    · rw [if_neg c2]
      rw [t_lt] at c2
      rw [if_pos (by rw [t_eq, r, i_0]; omega)]
  · rw [if_neg c, if_neg c]
theorem reason_is {M : Nat → Nat → Int32} {k j : Nat} (hk : k < 5) (hj : j < 3) : fM_reason M (nI k) (nI j) = some (whl (M 0) k (tab 2 j)) := by
  unfold fM_reason whl
  rw [jug_m j hj, sb]
  by_cases c : tab 2 j ≤ M 0 7
  · rw [if_pos c, if_pos c, show fM_of M (nI k) 3 = some (M 0 (KI k 3)) from of_at M (v := 3) hk (by decide), sb]
    split <;> rfl
  · rw [if_neg c, if_neg c]
theorem whl_congr {σ ρ : Row} {k : Nat} {d : Int32} (h0 : σ 0 = ρ 0) (h7 : σ 7 = ρ 7) (h3 : σ (KI k 3) = ρ (KI k 3)) : whl σ k d = whl ρ k d := by unfold whl; rw [h0, h7, h3]
theorem whl_c (σ : Row) (k : Nat) (d : Int32) : whl σ k d = 0 ∨ whl σ k d = 1 ∨ whl σ k d = 2 := by
  unfold whl
  split
  · split
    · left; rfl
    · right; right; rfl
  · right; left; rfl
def pj (σ : Row) (k : Nat) (d : Int32) : Row := upd (upd (upd (upd σ 7 (σ 7 - d)) 10 (σ 10 + d)) 18 (σ 18 + 1)) (KI k 10) (σ (KI k 10) + d)
theorem pj_out {σ : Row} {k i : Nat} {d : Int32} (h7 : i ≠ 7) (h10 : i ≠ 10) (h18 : i ≠ 18) (hk : i ≠ KI k 10) : pj σ k d i = σ i := by
  unfold pj
  rw [upd_ne _ hk, upd_ne _ h18, upd_ne _ h10, upd_ne _ h7]
theorem SH_upd2 {σ ρ : Row} {i : Nat} {v v' : Int32} (h : SH σ ρ) (e : v = v') : SH (upd σ i v) (upd ρ i v') := by subst e; exact SH_upd h
theorem pj_SH {σ ρ : Row} {k : Nat} {d : Int32} (hk : k < 5) (h : SH σ ρ) : SH (pj σ k d) (pj ρ k d) := by
  unfold pj
  exact SH_upd2 (SH_upd2 (SH_upd2 (SH_upd2 h (by rw [h.1 7 (by decide) (by decide) (by decide)])) (by rw [h.1 10 (by decide) (by decide) (by decide)])) (by rw [h.1 18 (by decide) (by decide) (by decide)])) (by rw [h.2 k 10 hk (by decide)])
theorem ent_SH {σ ρ : Row} {k : Nat} {d : Int32} (hk : k < 5) (h : SH σ ρ) : SH (ent σ k d) (ent ρ k d) := by
  have a := h.1 0 (by decide) (by decide) (by decide)
  have b := h.2 k 3 hk (by decide)
  unfold ent
  exact SH_upd2 (SH_upd2 (SH_upd2 h (by rw [a, b])) (by rw [a, b, h.1 12 (by decide) (by decide) (by decide)])) (by rw [a, b, h.1 9 (by decide) (by decide) (by decide)])
theorem ent_o {σ : Row} {k i : Nat} {d : Int32} (h9 : i ≠ 9) (h12 : i ≠ 12) (hk : i ≠ KI k 3) : ent σ k d i = σ i := by
  unfold ent
  rw [upd_ne _ h9, upd_ne _ h12, upd_ne _ hk]
theorem ent_k (σ : Row) (k : Nat) (d : Int32) : ent σ k d (KI k 3) = σ (KI k 3) + mn d (rm (σ 0) (σ (KI k 3))) := by
  unfold ent
  rw [upd_ne _ (KI_sc (by decide)), upd_ne _ (KI_sc (by decide)), upd_eq]
theorem pour_is {w : Int} {σ : Row} {M : Nat → Nat → Int32} (h : RW w σ (M 0)) (x1 x2 : Int32) : RES w σ M (fS_pourJug σ x1 x2) (fM_pourNow M x1 x2) := by
  obtain ⟨n, h, h6, hw⟩ := h
  obtain ⟨⟨⟨h19, hn⟩, hst, hlo, hcb⟩, hz, hs, ht, hb⟩ := id h
  have m19 : M 0 19 = nI n := by rw [← hs.1 19 (by decide) (by decide) (by decide)]; exact h19
  have i2 : (2 : Int32).toInt = 2 := rfl
  unfold fS_pourJug fM_pourNow
  rcases clk (n := n) x1 with ⟨k, hk, rfl, -⟩ | hx
  · rw [clockAt_in h19 hk hn, sb, onN_s, mclock_in m19 hn hk, sb, if_neg n10]
    rcases clk (n := 3) x2 with ⟨j, hj, rfl, hj2⟩ | hx2
    · have hkk := hcb k hk
      have k5 : k < 5 := by omega
      have bu := hkk.2.2.2.1
      have b0 : 0 ≤ (σ 0).toInt ∧ (σ 0).toInt ≤ 5000 := by have := hst.1; omega
      have wc : whl σ k (tab 2 j) = whl (M 0) k (tab 2 j) := whl_congr (hs.1 0 (by decide) (by decide) (by decide)) (hs.1 7 (by decide) (by decide) (by decide)) (hs.2 k 3 k5 (by decide))
      rw [jug_j j hj, sb, if_neg n10, in_t ⟨by rw [i_0]; exact hj2.1, by rw [i2]; omega⟩, sb, if_neg n10, why_is hj b0 bu, reason_is k5 hj, sb, sb, ← wc]
      by_cases c : whl σ k (tab 2 j) = 0
      · rw [if_pos c, if_pos (by rw [c]; decide), jug_e j hj, jug_m j hj]
        have dj := jug_i j hj
        generalize tab 2 j = d at dj
        simp only [sb, lt_is, set0]
        have ej : upd (upd (upd (upd σ 7 (σ 7 - d)) 10 (upd σ 7 (σ 7 - d) 10 + d)) 18 (upd (upd σ 7 (σ 7 - d)) 10 (upd σ 7 (σ 7 - d) 10 + d) 18 + 1)) (KI k 10) (upd (upd (upd σ 7 (σ 7 - d)) 10 (upd σ 7 (σ 7 - d) 10 + d)) 18 (upd (upd σ 7 (σ 7 - d)) 10 (upd σ 7 (σ 7 - d) 10 + d) 18 + 1) (KI k 10) + d) = pj σ k d := by
          unfold pj
          rw [upd_ne _ (KI_sc (by decide)), upd_ne _ (KI_sc (by decide)), upd_ne _ (KI_sc (by decide))]
          rfl
        have em : fM_add (mw (mw (mw M (upd (M 0) 7 (M 0 7 - d))) (upd (mw M (upd (M 0) 7 (M 0 7 - d)) 0) 10 (mw M (upd (M 0) 7 (M 0 7 - d)) 0 10 + d))) (upd (mw (mw M (upd (M 0) 7 (M 0 7 - d))) (upd (mw M (upd (M 0) 7 (M 0 7 - d)) 0) 10 (mw M (upd (M 0) 7 (M 0 7 - d)) 0 10 + d)) 0) 18 (mw (mw M (upd (M 0) 7 (M 0 7 - d))) (upd (mw M (upd (M 0) 7 (M 0 7 - d)) 0) 10 (mw M (upd (M 0) 7 (M 0 7 - d)) 0 10 + d)) 0 18 + 1))) (nI k) 10 d = some (mw M (pj (M 0) k d)) := by
          rw [show ∀ Q : Nat → Nat → Int32, fM_add Q (nI k) 10 d = some (mw Q (upd (Q 0) (KI k 10) (Q 0 (KI k 10) + d))) from fun Q => add_at Q (v := 10) _ k5 (by decide)]
          simp only [mw_0, mw_mw]
          unfold pj
          rw [upd_ne _ (KI_sc (by decide)), upd_ne _ (KI_sc (by decide)), upd_ne _ (KI_sc (by decide))]
          rfl
        rw [ej, em, enterUpper_is]
        simp only [sb]
        rw [mfill_is _ _ k5]
        simp only [sb, mw_0, mw_mw]
        have p0 : ∀ ρ : Row, pj ρ k d 0 = ρ 0 := fun ρ => pj_out (by decide) (by decide) (by decide) (sc_KI (by decide))
        have p3 : ∀ ρ : Row, pj ρ k d (KI k 3) = ρ (KI k 3) := fun ρ => pj_out (KI_sc (by decide)) (KI_sc (by decide)) (KI_sc (by decide)) (KI_ne_f (by decide) (by decide) (by decide))
        have pf : ∀ (ρ : Row) f, f < 15 → f ≠ 10 → pj ρ k d (KI k f) = ρ (KI k f) := fun ρ f hf h10 => pj_out (KI_sc (by decide)) (KI_sc (by decide)) (KI_sc (by decide)) (KI_ne_f h10 hf (by decide))
        have r := rm_i (v := σ 0) (x := σ (KI k 3)) b0 bu
        have m := mn_i d (rm (σ 0) (σ (KI k 3)))
        refine ⟨_, _, _, rfl, by rw [p0, p3, p0, p3, ← hs.1 0 (by decide) (by decide) (by decide), ← hs.2 k 3 k5 (by decide)], Or.inr ⟨?_, n, ?_⟩⟩
        · rw [p0, p3, t_sub (by omega) (by omega)]; omega
        · have ef : ∀ (ρ : Row) f, f < 15 → f ≠ 10 → f ≠ 3 → ent (pj ρ k d) k d (KI k f) = ρ (KI k f) := fun ρ f hf h10 h3 => by rw [ent_o (KI_sc (by decide)) (KI_sc (by decide)) (KI_ne_f h3 hf (by decide)), pf ρ f hf h10]
          have el : ∀ (ρ : Row) i, i < 20 → i ≠ 7 → i ≠ 10 → i ≠ 18 → i ≠ 9 → i ≠ 12 → ent (pj ρ k d) k d i = ρ i := fun ρ i hi h1 h2 h3 h4 h5 => by rw [ent_o h4 h5 (sc_KI hi), pj_out h1 h2 h3 (sc_KI hi)]
          have eh : ∀ (ρ : Row) i, 95 ≤ i → ent (pj ρ k d) k d i = ρ i := fun ρ i hi => by rw [ent_o (by omega) (by omega) (hi_KI k5 (by decide) hi), pj_out (by omega) (by omega) (by omega) (hi_KI k5 (by decide) hi)]
          have ec : ∀ (ρ : Row) c f, f < 15 → c ≠ k → ent (pj ρ k d) k d (KI c f) = ρ (KI c f) := fun ρ c f hf e => by
            rw [ent_o (KI_sc (by decide)) (KI_sc (by decide)) (fun q => e ((KI_eq_iff hf (by decide)).mp q).1), pj_out (KI_sc (by decide)) (KI_sc (by decide)) (KI_sc (by decide)) (fun q => e ((KI_eq_iff hf (by decide)).mp q).1)]
          refine row_on h h6 hw hk (fun i hi => el σ i (by omega) (by omega) (by omega) (by omega) (by omega) (by omega)) (el σ 19 (by decide) (by decide) (by decide) (by decide) (by decide) (by decide)) (el σ 14 (by decide) (by decide) (by decide) (by decide) (by decide) (by decide)) (eh σ) (eh _) (fun c f hc hf e => ec σ c f hf e) ?_ ?_ (ent_SH k5 (pj_SH k5 hs)) ?_
          · obtain ⟨c0, c1, c2, c3, c4, c5, c6, c7, c9, c13, c14⟩ := hkk
            have lj : ld (ent (pj σ k d) k d) k = ld σ k := by unfold ld; rw [ef σ 5 (by decide) (by decide) (by decide)]
            unfold CB
            rw [lj, ent_k, p0, p3, ef σ 0 (by decide) (by decide) (by decide), ef σ 1 (by decide) (by decide) (by decide), ef σ 2 (by decide) (by decide) (by decide), ef σ 4 (by decide) (by decide) (by decide), ef σ 5 (by decide) (by decide) (by decide), ef σ 7 (by decide) (by decide) (by decide), ef σ 9 (by decide) (by decide) (by decide), ef σ 13 (by decide) (by decide) (by decide), ef σ 14 (by decide) (by decide) (by decide)]
            exact ⟨c0, c1, c2, by rw [t_add (by omega) (by omega)]; omega, c4, c5, c6, c7, c9, c13, c14⟩
          · exact WC_congr (hw k hk) (ef σ 0 (by decide) (by decide) (by decide)) (ef σ 4 (by decide) (by decide) (by decide)) (ef σ 9 (by decide) (by decide) (by decide)) (ef σ 14 (by decide) (by decide) (by decide)) (el σ 1 (by decide) (by decide) (by decide) (by decide) (by decide) (by decide))
          · have et : ∀ f, f < 15 → f ≠ 10 → f ≠ 3 → tot (ent (pj (M 0) k d) k d) f = tot (M 0) f := fun f hf h10 h3 => tot_same (fun c hc => by
              by_cases e : c = k
              · subst e; exact ef _ f hf h10 h3
              · exact ec _ c f hf e)
            rw [el _ 16 (by decide) (by decide) (by decide) (by decide) (by decide) (by decide), el _ 17 (by decide) (by decide) (by decide) (by decide) (by decide) (by decide), et 11 (by decide) (by decide) (by decide), et 8 (by decide) (by decide) (by decide)]
            exact ht
      · rw [if_neg c, if_neg (by rcases whl_c σ k (tab 2 j) with q | q | q; exact absurd q c; rw [q]; decide; rw [q]; decide)]
        exact RES.err e2 rfl rfl
    · rw [isJug_f hx2, sb, if_pos rfl, in_f (by rw [i_0, i2]; omega), sb, if_pos rfl]; exact RES.err e1 rfl rfl
  · rw [clockAt_out h19 hn hx, sb, onN_n, mclock_out m19 hn hx, sb, if_pos rfl]; exact RES.err e1 rfl rfl
