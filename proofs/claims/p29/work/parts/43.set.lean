/-! ## settings -/
theorem WB_mono {σ : Row} {n : Nat} {w w' : Int} (h : WB σ n w) (hw : w ≤ w') : WB σ n w' := fun c hc => by
  obtain ⟨a, b, d⟩ := h c hc
  exact ⟨a, b, fun p q => by have := d p q; omega⟩
theorem RW.mono {w w' : Int} {σ ρ : Row} (h : RW w σ ρ) (hw : w ≤ w') : RW w' σ ρ := by
  obtain ⟨n, a, b, c⟩ := h
  exact ⟨n, a, b, WB_mono c hw⟩
theorem RES.mono {w w' : Int} {σ : Row} {M : Nat → Nat → Int32} {o : Option (Int32 × Row)} {p : Option (Int32 × (Nat → Nat → Int32))} (h : RES w σ M o p) (hw : w ≤ w') : RES w' σ M o p := by
  obtain ⟨r, σ', ρ', a, b, c⟩ := h
  exact ⟨r, σ', ρ', a, b, c.imp id (fun q => ⟨q.1, q.2.mono hw⟩)⟩
theorem tab0_e : ∀ i, i < 6 → fX_element 6 (tab 0) (nI i) = some (tab 0 i) ∧ fX_element 6 (tab 1) (nI i) = some (tab 1 i) := by decide +kernel
theorem range_is {i : Nat} (hi : i < 6) (x2 : Int32) : fE_isInRange (nI i) x2 = some (if (tab 0 i).toInt ≤ x2.toInt ∧ x2.toInt ≤ (tab 1 i).toInt then 1 else 0) := by
  have ti := t_lit i (by omega)
  have i6 : (6 : Int32).toInt = 6 := rfl
  obtain ⟨a, b⟩ := tab0_e i hi
  unfold fE_isInRange
  rw [if_neg (by rw [t_lt, i_0]; omega), if_pos (by rw [t_lt, i6]; omega), a, sb]
  by_cases c : x2 < tab 0 i
  · rw [if_pos c]
    rw [t_lt] at c
    rw [if_neg (by omega)]
  · rw [if_neg c, b, sb]
    rw [t_lt] at c
    by_cases d : tab 1 i < x2
    · rw [if_pos d]
      rw [t_lt] at d
      rw [if_neg (by omega)]
    · rw [if_neg d]
      rw [t_lt] at d
      rw [if_pos (by omega)]
theorem range_o {x1 x2 : Int32} (h : ¬ (0 ≤ x1.toInt ∧ x1.toInt < (6 : Int))) : fE_isInRange x1 x2 = some 0 := by
  have i6 : (6 : Int32).toInt = 6 := rfl
  unfold fE_isInRange
  by_cases c : x1 < 0
  · rw [if_pos c]
  · rw [if_neg c]
    rw [t_lt, i_0] at c
    rw [if_neg (by rw [t_lt, i6]; omega)]
theorem in_i (x a b : Int32) : fM_in x a b = some (if a.toInt ≤ x.toInt ∧ x.toInt ≤ b.toInt then 1 else 0) := by
  by_cases c : a.toInt ≤ x.toInt ∧ x.toInt ≤ b.toInt
  · rw [in_t c, if_pos c]
  · rw [in_f c, if_neg c]
theorem z01 (p : Prop) [Decidable p] : isZ (if p then 1 else 0) = true := by split <;> decide
theorem may_is {i : Nat} (hi : i < 6) (x2 : Int32) : fM_maySet (nI i) x2 = some (if (tab 0 i).toInt ≤ x2.toInt ∧ x2.toInt ≤ (tab 1 i).toInt then 1 else 0) := by
  unfold fM_maySet
  rcases (show i = 0 ∨ i = 1 ∨ i = 2 ∨ i = 3 ∨ i = 4 ∨ i = 5 by omega) with rfl | rfl | rfl | rfl | rfl | rfl
  · rw [if_neg (show ¬ ((nI 0).toInt < 0 ∨ 4 < (nI 0).toInt) by decide), if_pos (show nI 0 = 0 from rfl), in_i, sb, z01, gd_t]; rfl
  · rw [if_neg (show ¬ ((nI 1).toInt < 0 ∨ 4 < (nI 1).toInt) by decide), if_neg (show ¬ nI 1 = 0 by decide), if_pos (show nI 1 = 1 from rfl), in_i, sb, z01, gd_t]; rfl
  · rw [if_neg (show ¬ ((nI 2).toInt < 0 ∨ 4 < (nI 2).toInt) by decide), if_neg (show ¬ nI 2 = 0 by decide), if_neg (show ¬ nI 2 = 1 by decide), if_pos (show nI 2 = 2 from rfl), in_i, sb, z01, gd_t]; rfl
  · rw [if_neg (show ¬ ((nI 3).toInt < 0 ∨ 4 < (nI 3).toInt) by decide), if_neg (show ¬ nI 3 = 0 by decide), if_neg (show ¬ nI 3 = 1 by decide), if_neg (show ¬ nI 3 = 2 by decide), if_pos (show nI 3 = 3 from rfl), in_i, sb, z01, gd_t]; rfl
  · rw [if_neg (show ¬ ((nI 4).toInt < 0 ∨ 4 < (nI 4).toInt) by decide), if_neg (show ¬ nI 4 = 0 by decide), if_neg (show ¬ nI 4 = 1 by decide), if_neg (show ¬ nI 4 = 2 by decide), if_neg (show ¬ nI 4 = 3 by decide), if_pos (show nI 4 = 4 from rfl), in_i, sb, z01, gd_t]; rfl
  · rw [if_pos (show ((nI 5).toInt < 0 ∨ 4 < (nI 5).toInt) by decide), if_pos (show nI 5 = 5 from rfl), in_i, sb]
    by_cases c : (0 : Int32).toInt ≤ x2.toInt ∧ x2.toInt ≤ (1 : Int32).toInt
    · rw [if_pos c, if_neg n10, if_pos (show (tab 0 5).toInt ≤ x2.toInt ∧ x2.toInt ≤ (tab 1 5).toInt from c)]
    · rw [if_neg c, if_pos rfl, if_neg (show ¬ ((tab 0 5).toInt ≤ x2.toInt ∧ x2.toInt ≤ (tab 1 5).toInt) from c)]
theorem may_o {x1 x2 : Int32} (h : ¬ (0 ≤ x1.toInt ∧ x1.toInt < (6 : Int))) : fM_maySet x1 x2 = some 0 := by
  have i5 : (5 : Int32).toInt = 5 := rfl
  unfold fM_maySet
  rw [if_pos (by omega), if_neg (by rw [t_eq, i5]; omega)]
theorem value_is {i : Nat} (hi : i < 6) (σ : Row) : fE_valueOf σ (nI i) = some (σ i) := by
  unfold fE_valueOf
  rcases (show i = 0 ∨ i = 1 ∨ i = 2 ∨ i = 3 ∨ i = 4 ∨ i = 5 by omega) with rfl | rfl | rfl | rfl | rfl | rfl <;> rfl
theorem change_is {i : Nat} (hi : i < 6) (σ : Row) (x2 : Int32) : fE_change σ (nI i) x2 = some (upd σ i x2) := by
  unfold fE_change
  rcases (show i = 0 ∨ i = 1 ∨ i = 2 ∨ i = 3 ∨ i = 4 ∨ i = 5 by omega) with rfl | rfl | rfl | rfl | rfl | rfl <;> rfl
theorem ST_set {σ : Row} {i : Nat} {x : Int32} (hi : i < 6) (h : ST σ) (hx : (tab 0 i).toInt ≤ x.toInt ∧ x.toInt ≤ (tab 1 i).toInt) : ST (upd σ i x) := by
  obtain ⟨h0, h1, h2, h3, h4, h5⟩ := h
  unfold ST
  rcases (show i = 0 ∨ i = 1 ∨ i = 2 ∨ i = 3 ∨ i = 4 ∨ i = 5 by omega) with rfl | rfl | rfl | rfl | rfl | rfl
  · exact ⟨hx, h1, h2, h3, h4, h5⟩
  · exact ⟨h0, hx, h2, h3, h4, h5⟩
  · exact ⟨h0, h1, hx, h3, h4, h5⟩
  · exact ⟨h0, h1, h2, hx, h4, h5⟩
  · exact ⟨h0, h1, h2, h3, hx, h5⟩
  · refine ⟨h0, h1, h2, h3, h4, ?_⟩
    have a : (tab 0 5).toInt = 0 := rfl
    have b : (tab 1 5).toInt = 1 := rfl
    show x = 0 ∨ x = 1
    rw [t_eq, t_eq, i_0, i_1]
    omega
theorem set_is {w : Int} {σ : Row} {M : Nat → Nat → Int32} (h : RW w σ (M 0)) (x1 x2 : Int32) : RES (w + 900) σ M (fS_changeSetting σ x1 x2) (fM_setNow M x1 x2) := by
  obtain ⟨n, h, h6, hw⟩ := h
  obtain ⟨⟨⟨h19, hn⟩, hst, hlo, hcb⟩, hz, hs, ht, hb⟩ := id h
  unfold fS_changeSetting fM_setNow
  rcases clk (n := 6) x1 with ⟨i, hi, rfl, -⟩ | hx
  · rw [range_is hi, may_is hi, sb, sb]
    by_cases c : (tab 0 i).toInt ≤ x2.toInt ∧ x2.toInt ≤ (tab 1 i).toInt
    · rw [if_pos c, if_neg n10, if_neg n10, value_is hi, sb, change_is hi, sb, inb_nI (by omega) (by decide), gd_t, gd_t, lt_is, cl_nI (by omega), set0]
      have r0 : -1000001 < (σ i).toInt := by
        obtain ⟨h0, h1, h2, h3, h4, h5⟩ := hst
        rcases (show i = 0 ∨ i = 1 ∨ i = 2 ∨ i = 3 ∨ i = 4 ∨ i = 5 by omega) with rfl | rfl | rfl | rfl | rfl | rfl
        · omega
        · omega
        · omega
        · omega
        · omega
        · rcases h5 with q | q <;> rw [q] <;> decide
      have s1 := hst.2.1
      have ns := ST_set hi hst c
      have ns1 := ns.2.1
      refine ⟨σ i, upd σ i x2, upd (M 0) i x2, rfl, by rw [hs.1 i (by omega) (by omega) (by omega)], Or.inr ⟨r0, n, ⟨⟨⟨by rw [upd_ne _ (by omega)]; exact h19, hn⟩, ns, by rw [upd_ne _ (by omega)]; exact hlo, fun c' hc' => by rw [upd_ne _ (by omega)]; exact CB_congr (hcb c' hc') (fun f hf => uS_K _ (by omega))⟩, fun c' f hc' hc5 hf => by rw [uS_K _ (by omega)]; exact hz c' f hc' hc5 hf, SH_upd hs, ?_, BK_congr hb (upd_ne _ (by omega)) (by rw [upd_ne _ (by omega)]; exact Int.le_refl _) (fun j hj => upd_ne _ (by omega)) (fun j hj => upd_ne _ (by omega))⟩, by rw [upd_ne _ (by omega)]; exact h6, fun c' hc' => ?_⟩⟩
      · rw [upd_ne _ (by omega), upd_ne _ (by omega), tot_same (fun c' hc' => uS_K _ (by omega)), tot_same (fun c' hc' => uS_K _ (by omega))]
        exact ht
      · obtain ⟨a, b, d⟩ := hw c' hc'
        have l4 := (hcb c' hc').2.2.2.2.1
        unfold WC
        rw [uS_K _ (by omega), uS_K _ (by omega), uS_K _ (by omega), uS_K _ (by omega)]
        exact ⟨a, b, fun p q => by have := d p q; omega⟩
    · rw [if_neg c, if_pos rfl, if_pos rfl]; exact RES.err e1 rfl rfl
  · rw [range_o hx, may_o hx, sb, sb, if_pos rfl, if_pos rfl]; exact RES.err e1 rfl rfl
