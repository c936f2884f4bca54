/-! RUNS: class and law tick by tick -/
def stR (ρ : Row) (y : Int32) : Row := upd ρ 11 (ρ 11 + y)
theorem stR_o {ρ : Row} {y : Int32} {i : Nat} (h : i ≠ 11) : stR ρ y i = ρ i := upd_ne _ h
theorem stR_tot {ρ : Row} {y : Int32} {f : Nat} : tot (stR ρ y) f = tot ρ f := tot_n (by decide)
theorem stR_0 (ρ : Row) : stR ρ 0 = ρ := by unfold stR; rw [Int32.add_zero, upd_self]
theorem remL {a : Row} (h6 : 0 ≤ (a 6).toInt) (h3 : 1 ≤ (a 3).toInt ∧ (a 3).toInt ≤ 30) : nz ((12 : Int32) * a 3) = true ∧ (a 6 - a 6 / ((12 : Int32) * a 3) * ((12 : Int32) * a 3)).toInt = (a 6).toInt % (12 * (a 3).toInt) := by
  have e : ((12 : Int32) * a 3).toInt = 12 * (a 3).toInt := h12 (σ := a) h3
  exact ⟨nz_pos (by omega), by rw [rem_i h6 (by omega), e]⟩
/-- one tick of the law, its noon too -/
theorem ltick {r1 r2 r3 r4 : Nat} (h : O4 r1 r2 r3 r4) {N : Nat → Nat → Int32} {σ a u v β : Row} {g y6 : Int32} {n : Nat} (hr : RR n σ (stR (dec a u v β g) y6)) (hkz : KZ (ps n σ) n) (hb : (σ 6).toInt + 1 ≤ 200000) (y4 y8 : Int32) (hy : ¬ y4 ≤ y8) :
    ∃ a' u' v' β' g', (∀ fu : Nat, fL_ticks_L9 r1 r2 r3 r4 25 (fu + 1) (L3 r1 r2 r3 (updA N r4 β) a u v) y4 1 y6 1 y8 = fL_ticks_L9 r1 r2 r3 r4 25 fu (L3 r1 r2 r3 (updA N r4 β') a' u' v') y4 1 (y6 + cT n σ) 1 (y8 + 1)) ∧ RR n (tk n σ) (stR (dec a' u' v' β' g') (y6 + cT n σ)) := by
  obtain ⟨hir, hz, hsh, ⟨ht1, ht2⟩, hbk⟩ := hr
  have hn := hir.1.2
  rw [stR_tot, stR_o (by decide)] at ht1 ht2
  obtain ⟨q1, q2⟩ := ps_IR hir hb
  have q3 := ps_ZR hir hb hz
  have e14 : ps n σ 14 = σ 14 := by unfold ps; rw [upd_ne _ (by decide), cF_lit (by decide) (by decide) (by decide) (by decide) (by decide) (by decide) n]
  have hi95 : ∀ i, 95 ≤ i → ps n σ i = σ i := fun i hi => by unfold ps; rw [upd_ne _ (by omega), cF_hi (IP.of hir hb) hi n (Nat.le_refl _)]
  obtain ⟨a1, u1, v1, g1, w1, w2, w3, w4, w5⟩ := lpass (r4 := r4) (n4 := 25) h.1 (N := updA N r4 β) (σ := σ) (a := a) (u := u) (v := v) (β := β) (g := g) (y4 := y4) (y5 := 1) (y6 := y6) (y8 := y8) (IP.of hir hb) hsh
  have bk1 : BK (ps n σ) (dec a1 u1 v1 β g1) := BK_congr hbk e14 (by omega) hi95 (fun i hi => by rw [stR_o (by omega), dec_b' hi, dec_b' hi])
  have t1 : dec a1 u1 v1 β g1 16 = tot (dec a1 u1 v1 β g1) 11 := by rw [w3, w4, ht1]
  have t2 := w5 ht2
  have s6 : ps n σ 6 = a1 6 := by have := w2.1 6 (by decide) (by decide) (by decide); rw [upd_ne _ (by decide)] at this; rw [this]; exact dec_lo (by decide)
  have s3 : ps n σ 3 = a1 3 := by have := w2.1 3 (by decide) (by decide) (by decide); rw [upd_ne _ (by decide)] at this; rw [this]; exact dec_lo (by decide)
  have hho := q1.2.1.2.2.2.1
  have hnow := q1.2.2.1
  obtain ⟨z1, z2⟩ := remL (a := a1) (by rw [← s6]; omega) (by rw [← s3]; exact hho)
  have nn : (a1 6 - a1 6 / ((12 : Int32) * a1 3) * ((12 : Int32) * a1 3) = 0) ↔ (ps n σ 6).toInt % (12 * (ps n σ 3).toInt) = 0 := by rw [t_eq, z2, i_0, s6, s3]
  have go : ∀ fu : Nat, fL_ticks_L9 r1 r2 r3 r4 25 (fu + 1) (L3 r1 r2 r3 (updA N r4 β) a u v) y4 1 y6 1 y8 = (if (a1 6 - a1 6 / ((12 : Int32) * a1 3) * ((12 : Int32) * a1 3)) = 0 then (fL_noon (L3 r1 r2 r3 (updA N r4 β) a1 u1 v1) r1 r2 r3 r4 25).bind (fun q81 => fL_ticks_L9 r1 r2 r3 r4 25 fu q81 y4 1 (y6 + cT n σ) 1 (y8 + 1)) else fL_ticks_L9 r1 r2 r3 r4 25 fu (L3 r1 r2 r3 (updA N r4 β) a1 u1 v1) y4 1 (y6 + cT n σ) 1 (y8 + 1)) := by
    intro fu
    rw [fL_ticks_L9, if_neg hy, if_neg n10]
    refine (w1 (fun M74 s => gd (nz ((12 : Int32) * (M74 r1 3))) ((((if 0 < ((M74 r1 6) - (M74 r1 6) / ((12 : Int32) * (M74 r1 3)) * ((12 : Int32) * (M74 r1 3))) then some (1 : Int32) else (if (1 : Int32) = 0 then some (0 : Int32) else some (1 : Int32))) : Option (Int32))).bind fun q77 => gd (nz ((12 : Int32) * (M74 r1 3))) ((if ((M74 r1 6) - (M74 r1 6) / ((12 : Int32) * (M74 r1 3)) * ((12 : Int32) * (M74 r1 3))) = 0 then (if (1 : Int32) = 0 then fL_ticks_L9 r1 r2 r3 r4 25 fu M74 y4 1 s q77 (y8 + 1) else (fL_noon M74 r1 r2 r3 r4 25).bind fun q81 => fL_ticks_L9 r1 r2 r3 r4 25 fu q81 y4 1 s q77 (y8 + 1)) else fL_ticks_L9 r1 r2 r3 r4 25 fu M74 y4 1 s q77 (y8 + 1)))))).trans ?_
    rw [L3_1 h.1, gd_b z1, if_neg n10]
    have e1 : (if 0 < a1 6 - a1 6 / ((12 : Int32) * a1 3) * ((12 : Int32) * a1 3) then some (1 : Int32) else some (1 : Int32)) = some 1 := by split <;> rfl
    rw [e1, sb, gd_b z1, if_neg n10]
  by_cases c : (ps n σ 6).toInt % (12 * (ps n σ 3).toInt) = 0
  · obtain ⟨a2, u2, v2, β2, x1, x2, x3, x4, x5⟩ := lnoon h (N := N) (φ := ps n σ) (a := a1) (u := u1) (v := v1) (β := β) (g := g1) (y := y6 + cT n σ) q1 hkz w2 bk1 (by rw [e14]; have := hbk.1; omega) t1 t2
    refine ⟨a2, u2, v2, β2, g1, fun fu => by rw [go fu, if_pos (nn.mpr c), x1, sb], ?_⟩
    have ho6 : noo n (ps n σ) 6 = ps n σ 6 := by show nF n _ 6 = _; rw [nF_lit (by decide) (by decide) n hn, opn_lit (by decide) (by decide)]
    unfold tk
    rw [if_pos c]
    exact ⟨by rw [ho6, q2]; exact noo_IR q1, noo_ZR q3, x2, ⟨by rw [stR_tot, stR_o (by decide)]; exact x4, by rw [stR_tot, stR_o (by decide)]; exact x5⟩, BK_congr x3 rfl (Int.le_refl _) (fun _ _ => rfl) (fun i hi => stR_o (by omega))⟩
  · refine ⟨a1, u1, v1, β, g1, fun fu => by rw [go fu, if_neg (fun q => c (nn.mp q))], ?_⟩
    unfold tk
    rw [if_neg c]
    exact ⟨by rw [q2]; exact q1, q3, w2, ⟨by rw [stR_tot, stR_o (by decide)]; exact t1, by rw [stR_tot, stR_o (by decide)]; exact t2⟩, BK_congr bk1 rfl (Int.le_refl _) (fun _ _ => rfl) (fun i hi => stR_o (by omega))⟩
/-- class and law, run by run -/
theorem lrun {r1 r2 r3 r4 : Nat} (h : O4 r1 r2 r3 r4) {N : Nat → Nat → Int32} {n : Nat} {w : Int} {T : Nat} (hT : T ≤ 999) (hw5 : 5000 ≤ w) : ∀ (m c fu1 fu2 : Nat) (σ a u v β : Row) (g y : Int32), c + m = T → m < fu1 → m < fu2 → RR n σ (stR (dec a u v β g) y) → (σ 6).toInt + m ≤ 199999 → WB σ n w → INV σ n → 0 ≤ y.toInt ∧ y.toInt ≤ 1800 * c →
    ∃ r σ' a' u' v' β' g', fS_passTicks_L33 fu1 σ (nI T) y (nI c) = some (r, σ') ∧ fL_ticks_L9 r1 r2 r3 r4 25 fu2 (L3 r1 r2 r3 (updA N r4 β) a u v) (nI T) 1 y 1 (nI c) = some (r, L3 r1 r2 r3 (updA N r4 β') a' u' v') ∧ RR n σ' (dec a' u' v' β' g') ∧ (σ' 6).toInt = (σ 6).toInt + m ∧ WB σ' n w ∧ INV σ' n ∧ 0 ≤ r.toInt := by
  intro m
  induction m with
  | zero =>
    intro c fu1 fu2 σ a u v β g y hc hf1 hf2 hr h6 hw hi hy
    obtain ⟨fu1, rfl⟩ : ∃ q, fu1 = q + 1 := ⟨fu1 - 1, by omega⟩
    obtain ⟨fu2, rfl⟩ : ∃ q, fu2 = q + 1 := ⟨fu2 - 1, by omega⟩
    have hle : nI T ≤ nI c := (nle (by omega) (by omega)).mpr (by omega)
    refine ⟨y, σ, upd a 11 (a 11 + y), u, v, β, g, by rw [fS_passTicks_L33, if_pos hle], by rw [fL_ticks_L9, if_pos hle, lt_is, L3_1 h.1, L3_s1 h.1], ?_, by omega, hw, hi, hy.1⟩
    rw [dec_a (j := 11) _ (Or.inl ⟨by decide, rfl⟩)]
    have e : dec a u v β g 11 = a 11 := dec_lo (by decide)
    unfold stR at hr
    rw [e] at hr
    exact hr
  | succ m ih =>
    intro c fu1 fu2 σ a u v β g y hc hf1 hf2 hr h6 hw hi hy
    obtain ⟨fu1, rfl⟩ : ∃ q, fu1 = q + 1 := ⟨fu1 - 1, by omega⟩
    obtain ⟨fu2, rfl⟩ : ∃ q, fu2 = q + 1 := ⟨fu2 - 1, by omega⟩
    have hb : (σ 6).toInt + 1 ≤ 200000 := by omega
    have hir := hr.1
    have hz := hr.2.1
    have hip := IP.of hir hb
    have hn := hir.1.2
    have tn := t_lit n (by omega)
    have b14 := hr.2.2.2.2.1
    have ct := cT_i hip n (Nat.le_refl _)
    have hnle : ¬ nI T ≤ nI c := fun q => by rw [nle (by omega) (by omega)] at q; omega
    obtain ⟨a1, u1, v1, β1, g1, t1, t2⟩ := ltick h (N := N) hr (ps_INV hir hb hz hi).1 hb (nI T) (nI c) hnle
    have e6 : (tk n σ 6).toInt = (σ 6).toInt + 1 := by
      have q2 := (ps_IR hir hb).2
      unfold tk
      split
      · have ho6 : noo n (ps n σ) 6 = ps n σ 6 := by show nF n _ 6 = _; rw [nF_lit (by decide) (by decide) n hn, opn_lit (by decide) (by decide)]
        rw [ho6, q2]
      · exact q2
    rw [fS_passTicks_L33, if_neg hnle, drip_is hip (Nat.le_refl _) (by rw [hir.1.1, t_sub (by rw [tn, i_1]; omega) (by rw [tn, i_1]; omega), tn, i_1]), sb, lt_is, t1 fu2]
    show ∃ r σ' a' u' v' β' g', ((fS_isNoon (ps n σ)).bind fun q8 => (if q8 = 0 then fS_passTicks_L33 fu1 (ps n σ) (nI T) (y + cT n σ) (nI c + 1) else (fS_noonComes (ps n σ)).bind fun q10 => fS_passTicks_L33 fu1 q10 (nI T) (y + cT n σ) (nI c + 1))) = some (r, σ') ∧ _
    rw [step_is hir hb (by omega) (fun s => fS_passTicks_L33 fu1 s (nI T) (y + cT n σ) (nI c + 1)), ← nI_succ]
    obtain ⟨r, σ', a', u', v', β', g', k1, k2, k3, k4, k5, k6, k7⟩ := ih (c + 1) fu1 fu2 (tk n σ) a1 u1 v1 β1 g1 (y + cT n σ) (by omega) (by omega) (by omega) t2 (by rw [e6]; omega) (tk_WB hir hb hw5 hw) (tk_INV hir hb hz hi) (by rw [t_add (by omega) (by omega)]; omega)
    exact ⟨r, σ', a', u', v', β', g', k1, k2, k3, by rw [k4, e6]; omega, k5, k6, k7⟩
