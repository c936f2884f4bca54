def s2 (σ : Row) (k : Nat) : Row := upd (lt3 σ k (nd σ k)) 11 (σ 11 + nd σ k)
theorem cst_is (σ : Row) (k : Nat) : cst σ k = wr (aft (s2 σ k) k (nd σ k)) k := rfl
theorem s2_lit (σ : Row) (k n : Nat) (h : n < 20) (h11 : n ≠ 11) : s2 σ k n = σ n := by
  unfold s2 lt3
  simp [upd_at, KI_lit1, h, h11]
theorem s2_f (σ : Row) (k c f : Nat) (h3 : f ≠ 3) (h6 : f ≠ 6) (h7 : f ≠ 7) (hf : f < 15) : s2 σ k (KI c f) = σ (KI c f) := by
  unfold s2 lt3
  simp [upd_at, KI_lit2, KI_KI, hf, h3, h6, h7]
theorem s2_c (σ : Row) (k c f : Nat) (h : c ≠ k) (hf : f < 15) : s2 σ k (KI c f) = σ (KI c f) := by
  unfold s2 lt3
  simp [upd_at, KI_lit2, KI_KI, hf, h]
theorem s2_3 (σ : Row) (k : Nat) : s2 σ k (KI k 3) = σ (KI k 3) - nd σ k := by
  unfold s2 lt3
  simp [upd_at, KI_lit2, KI_KI]
theorem s2_7 (σ : Row) (k : Nat) : s2 σ k (KI k 7) = σ (KI k 7) + nd σ k := by
  unfold s2 lt3
  simp [upd_at, KI_lit2]
theorem s2_up {σ : Row} {k c n : Nat} {b : Int} (h : IR σ n b) (hk : k < n) (hc : c < n) : 0 ≤ (s2 σ k (KI c 3)).toInt ∧ (s2 σ k (KI c 3)).toInt ≤ 5000 := by
  obtain ⟨-, -, -, hcb⟩ := h
  obtain ⟨-, hw, -, hu, -⟩ := hcb k hk
  have hn := nd_i hw hu
  by_cases e : c = k
  · subst e
    rw [s2_3, t_sub (by omega) (by omega)]
    omega
  · rw [s2_c _ _ _ _ e (by decide)]
    exact (hcb c hc).2.2.2.1
theorem upd_lit_ne {σ : Row} {k f n : Nat} (v : Int32) (h : n < 20) : upd σ (KI k f) v n = σ n := uK_s v h
theorem dripOf_is {σ : Row} {n k : Nat} {b : Int} (h : IR σ n b) (hk : k < n) : fS_dripOf σ k = some (nd σ k, cst σ k) := by
  obtain ⟨⟨hc, hn⟩, ⟨hv, hsi, hwe, hho, hbo, htr⟩, hnow, hcb⟩ := id h
  obtain ⟨hkd, hw, hp, hu, hlo, hled, hrl, hr, -⟩ := hcb k hk
  have hnd := nd_i hw hu
  have hld : ld (s2 σ k) k = ld σ k := by unfold ld; rw [s2_f _ _ _ _ (by decide) (by decide) (by decide) (by decide)]
  have h19 : s2 σ k 19 = nI n := by rw [s2_lit _ _ _ (by decide) (by decide)]; exact hc
  have hl5 : s2 σ k (KI k 5) = nI (ld (s2 σ k) k) ∧ k ≤ ld (s2 σ k) k ∧ ld (s2 σ k) k < n := by
    rw [hld, s2_f _ _ _ _ (by decide) (by decide) (by decide) (by decide)]; exact hled
  have inner : ((if (s2 σ k (KI k 0)) = 0 then (fS_goOn (s2 σ k) k (nd σ k)).bind fun q18 => some q18 else (if (s2 σ k (KI k 0)) = (1 : Int32) then (fS_roomAbove (s2 σ k) ((s2 σ k) (KI k 4))).bind fun q12 => (fJ_min (nd σ k) q12).bind fun q13 => lt (upd (s2 σ k) (KI k 4) (((s2 σ k) (KI k 4)) + q13)) fun σ14 => lt (upd σ14 9 ((σ14 9) + ((nd σ k) - q13))) fun σ16 => some σ16 else lt (upd (s2 σ k) (KI k 4) (((s2 σ k) (KI k 4)) + (nd σ k))) fun σ8 => (fS_strokeOf σ8 k).bind fun q10 => (fS_goOn q10.2 k q10.1).bind fun q11 => some q11)) : Option (Nat → Int32)) = some (aft (s2 σ k) k (nd σ k)) := by
    unfold aft
    by_cases c0 : s2 σ k (KI k 0) = 0
    · rw [if_pos c0, if_pos c0, goOn_is _ h19 hn hl5]; rfl
    · rw [if_neg c0, if_neg c0]
      by_cases c1 : s2 σ k (KI k 0) = 1
      · rw [if_pos c1, if_pos c1, room_is, sb, min_is, sb]
        unfold ris
        simp [lt_is, upd_at, KI_lit1]
      · rw [if_neg c1, if_neg c1, lt_is, strokeOf_is, sb]
        have e1 : upd (s2 σ k) (KI k 4) (s2 σ k (KI k 4) + nd σ k) 1 = s2 σ k 1 := uK_s _ (by decide)
        have e4 : upd (s2 σ k) (KI k 4) (s2 σ k (KI k 4) + nd σ k) (KI k 4) = s2 σ k (KI k 4) + nd σ k := upd_eq _ _ _
        rw [e1, e4]
        have eld : ld (upd (s2 σ k) (KI k 4) (s2 σ k (KI k 4) + nd σ k)) k = ld (s2 σ k) k := by unfold ld; rw [uK_f _ (by decide) (by decide) (by decide)]
        by_cases c2 : s2 σ k 1 ≤ s2 σ k (KI k 4) + nd σ k
        · rw [if_pos c2, if_pos c2]
          dsimp only
          have eld2 : ld (skr (upd (s2 σ k) (KI k 4) (s2 σ k (KI k 4) + nd σ k)) k) k = ld (s2 σ k) k := by
            rw [← eld]; unfold ld; rw [skr_at _ _ _ _ (by decide) (by decide) (by decide) (by decide)]
          rw [goOn_is (n := n) _ (by simp [skr, upd_at, KI_lit1, h19]) hn (by
            rw [eld2, skr_at _ _ _ _ (by decide) (by decide) (by decide) (by decide), uK_f _ (by decide) (by decide) (by decide)]; exact hl5)]
          rfl
        · rw [if_neg c2, if_neg c2]
          dsimp only
          rw [goOn_is (n := n) _ (by simp [upd_at, KI_lit1, h19]) hn (by
            rw [eld, uK_f _ (by decide) (by decide) (by decide)]; exact hl5), gon_0]
          · rfl
          · rw [uK_s _ (by decide), s2_lit _ _ _ (by decide) (by decide)]; omega
          · rw [eld, uK_f _ (by decide) (by decide) (by decide)]
            exact s2_up h hk hl5.2.2
  unfold fS_dripOf
  rw [letThrough_is, sb, lt_is]
  have es : upd (lt3 σ k (nd σ k)) 11 (lt3 σ k (nd σ k) 11 + nd σ k) = s2 σ k := by
    unfold s2
    have : lt3 σ k (nd σ k) 11 = σ 11 := by unfold lt3; simp [upd_at, KI_lit1]
    rw [this]
  dsimp only
  rw [es, inner, sb]
  have ew : 1 ≤ (aft (s2 σ k) k (nd σ k) 2).toInt := by
    rw [aft_out (sc_KI (by decide)) (sc_KI (by decide)) (sc_KI (by decide)) (fun t => sc_KI (by decide)) (by decide) (by decide) (by decide) (by decide), s2_lit _ _ _ (by decide) (by decide)]
    omega
  rw [wearHole_is ew, sb, cst_is]
