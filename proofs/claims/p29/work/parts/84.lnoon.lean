/-! A NOON in the law -/
def shb (y : Nat) (β : Row) : Row := fun j => if y < j ∧ j < 25 then β (j - 6) else β j
theorem shb_step {y : Nat} (β : Row) (h : 7 ≤ y) (h2 : y < 25) : upd (shb y β) y (shb y β (y - 6)) = shb (y - 1) β := by
  funext j
  unfold upd shb
  by_cases e : j = y
  · subst e
    rw [if_pos rfl, if_neg (show ¬ (j < j - 6 ∧ j - 6 < 25) by omega), if_pos (show j - 1 < j ∧ j < 25 by omega)]
  · rw [if_neg e]
    by_cases c : y < j ∧ j < 25
    · rw [if_pos c, if_pos (show y - 1 < j ∧ j < 25 by omega)]
    · rw [if_neg c, if_neg (show ¬ (y - 1 < j ∧ j < 25) by omega)]
theorem lb_ix : ∀ y, y < 25 → 7 ≤ y → inb (nI y - (6 : Int32)) 25 = true ∧ inb (nI y) 25 = true ∧ (nI y - (6 : Int32)).toNatClampNeg = y - 6 ∧ (nI y).toNatClampNeg = y ∧ ¬ nI y ≤ 6 ∧ nI y + (-1) = nI (y - 1) := by decide +kernel
theorem lb_ix2 : ∀ k, k < 5 → inb ((2 : Int32) + nI k) 25 = true ∧ ((2 : Int32) + nI k).toNatClampNeg = 2 + k := by decide +kernel
def O4 (r1 r2 r3 r4 : Nat) : Prop := DS r1 r2 r3 ∧ r4 ≠ r1 ∧ r4 ≠ r2 ∧ r4 ≠ r3
theorem B_r {r1 r2 r3 r4 : Nat} (h : O4 r1 r2 r3 r4) {N : Nat → Nat → Int32} {a u v β : Row} : L3 r1 r2 r3 (updA N r4 β) a u v r4 = β := by rw [L3_o h.2.1 h.2.2.1 h.2.2.2, updA_same]
theorem B_s {r1 r2 r3 r4 : Nat} (h : O4 r1 r2 r3 r4) {N : Nat → Nat → Int32} {a u v β : Row} {i : Nat} {x : Int32} : setC (L3 r1 r2 r3 (updA N r4 β) a u v) r4 i x = L3 r1 r2 r3 (updA N r4 (upd β i x)) a u v := by
  rw [L3_so h.2.1 h.2.2.1 h.2.2.2]
  unfold setC
  rw [updA_same, updA_updA]
theorem lshift {r1 r2 r3 r4 : Nat} (h : O4 r1 r2 r3 r4) {N : Nat → Nat → Int32} {a u v β : Row} : ∀ (m : Nat), m ≤ 18 → ∀ fu, m < fu → fL_noon_L4 r1 r2 r3 r4 25 fu (L3 r1 r2 r3 (updA N r4 (shb (6 + m) β)) a u v) (nI (6 + m)) = fL_noon_L64 r1 r2 r3 r4 25 fuel (L3 r1 r2 r3 (updA N r4 (upd (upd (shb 6 β) 0 (β 0 + if 4 ≤ β 0 then 0 else 1)) 1 (a 18))) (upd a 13 (a 13 + 1)) u v) 0 := by
  intro m
  induction m with
  | zero =>
    intro _ fu hf
    obtain ⟨fu', rfl⟩ : ∃ q, fu = q + 1 := ⟨fu - 1, by omega⟩
    rw [fL_noon_L4, if_pos (by decide), gd_b (by decide), gd_b (by decide), B_r h, some_if, sb, gd_b (by decide), lt_is, B_s h, gd_b (by decide), lt_is, L3_1 h.1, B_s h, lt_is, L3_1 h.1, L3_s1 h.1]
    rfl
  | succ m ih =>
    intro hm fu hf
    obtain ⟨fu', rfl⟩ : ∃ q, fu = q + 1 := ⟨fu - 1, by omega⟩
    obtain ⟨b1, b2, b3, b4, b5, b6⟩ := lb_ix (6 + (m + 1)) (by omega) (by omega)
    rw [fL_noon_L4, if_neg b5, gd_b b1, gd_b b2, lt_is, b3, b4, b6, B_r h, B_s h, shb_step β (by omega) (by omega)]
    exact ih (by omega) fu' (by omega)
theorem KZ_of {σ σ' : Row} {n : Nat} (h : KZ σ n) (h0 : ∀ k, k < n → σ' (KI k 0) = σ (KI k 0)) (h9 : ∀ k, k < n → σ' (KI k 9) = σ (KI k 9)) : KZ σ' n := fun k hk q => by rw [h9 k hk]; exact h k hk (by rw [← h0 k hk]; exact q)
/-- the law's noon, clock by clock -/
theorem lnoon_L {r1 r2 r3 r4 : Nat} (h : O4 r1 r2 r3 r4) {N : Nat → Nat → Int32} {σ : Row} {g : Int32} {n : Nat} {b : Int} (hir : IR σ n b) (hkz : KZ σ n) :
    ∀ (m k : Nat) (a u v β : Row), k + m = n → SH (nF k σ) (dec a u v β g) → ∀ fu, m < fu → ∃ a' u' v' β', fL_noon_L64 r1 r2 r3 r4 25 fu (L3 r1 r2 r3 (updA N r4 β) a u v) (nI k) = some (L3 r1 r2 r3 (updA N r4 β') a' u' v') ∧ SH (nF n σ) (dec a' u' v' β' g) ∧
      (∀ j, (j < 2 + k ∨ 2 + n ≤ j) → β' j = β j) ∧ (∀ c, k ≤ c → c < n → β' (2 + c) = er σ c) ∧ dec a' u' v' β' g 17 = dec a u v β g 17 ∧ tot (dec a' u' v' β' g) 8 = tot (dec a u v β g) 8 ∧ (dec a u v β g 16 = tot (dec a u v β g) 11 → dec a' u' v' β' g 16 = tot (dec a' u' v' β' g) 11) := by
  have hn := hir.1.2
  have hc := hir.1.1
  intro m
  induction m with
  | zero =>
    intro k a u v β hk hs fu hf
    have e : k = n := by omega
    subst e
    obtain ⟨fu', rfl⟩ : ∃ q, fu = q + 1 := ⟨fu - 1, by omega⟩
    refine ⟨a, u, v, β, ?_, hs, fun _ _ => rfl, fun c h1 h2 => by omega, rfl, rfl, id⟩
    have h18 : a 18 = nI k := by
      have := hs.1 19 (by decide) (by decide) (by decide)
      rw [nF_lit (by decide) (by decide) k hn, hc, show dec a u v β g 19 = a 18 from dec_up (i := 18) (by decide) (by decide)] at this
      exact this.symm
    rw [fL_noon_L64, L3_1 h.1, if_pos (by rw [h18, t_le]; omega)]
  | succ m ih =>
    intro k a u v β hk hs fu hf
    obtain ⟨fu', rfl⟩ : ∃ q, fu = q + 1 := ⟨fu - 1, by omega⟩
    have hkn : k < n := by omega
    have hk5 : k < 5 := by omega
    have hir' := nF_IR hir k (by omega)
    have hcb : CB (dec a u v β g) n b k := CB_congr (hir'.2.2.2 k hkn) (fun f hf' => (hs.2 k f hk5 hf').symm)
    have hkzd : KZ (dec a u v β g) n := KZ_of hkz (fun c hc' => by rw [← hs.2 c 0 (by omega) (by decide), nF_phys (by omega) (by decide) (by decide) (by decide) (by decide) k (by omega)]) (fun c hc' => by rw [← hs.2 c 9 (by omega) (by decide), nF_phys (by omega) (by decide) (by decide) (by decide) (by decide) k (by omega)])
    have l : ∀ i, i < 20 → i ≠ 15 → i ≠ 16 → i ≠ 17 → dec a u v β g i = σ i := fun i hi x y z => by rw [← hs.1 i hi y z, nF_lit hi x k (by omega)]
    have l6 : a 6 = σ 6 := by rw [← l 6 (by decide) (by decide) (by decide) (by decide)]; exact (dec_lo (by decide)).symm
    have l3 : a 3 = σ 3 := by rw [← l 3 (by decide) (by decide) (by decide) (by decide)]; exact (dec_lo (by decide)).symm
    have l4 : a 4 = σ 4 := by rw [← l 4 (by decide) (by decide) (by decide) (by decide)]; exact (dec_lo (by decide)).symm
    have l5 : a 5 = σ 5 := by rw [← l 5 (by decide) (by decide) (by decide) (by decide)]; exact (dec_lo (by decide)).symm
    have h18 : a 18 = nI n := by
      rw [← hc, ← l 19 (by decide) (by decide) (by decide) (by decide)]; exact (dec_up (i := 18) (by decide) (by decide)).symm
    have h6 : 0 ≤ (a 6).toInt := by rw [l6]; exact hir.2.2.1.1
    have h3 : 1 ≤ (a 3).toInt := by rw [l3]; have := hir.2.1.2.2.2.1; omega
    have ee : er (dec a u v β g) k = er (nF k σ) k := (er_congr (hs.1 6 (by decide) (by decide) (by decide)) (hs.1 3 (by decide) (by decide) (by decide)) (fun f hf' => hs.2 k f hk5 hf')).symm
    have eσ : er (nF k σ) k = er σ k := nF_er hk5
    obtain ⟨b1, b2⟩ := lb_ix2 k hk5
    obtain ⟨a20, -, b20⟩ := ix20 k hk5
    have hE := error_l h.1 (N := updA N r4 β) (a := a) (u := u) (v := v) (β := β) (g := g) hn hkn hkzd hcb hir.2.2.1.2.2 h6 h3
    have dβ : ∀ β' : Row, ∀ i, i < 95 → dec a u v β' g i = dec a u v β g i := fun β' i hi => by
      unfold dec
      by_cases q : i < 20
      · rw [if_pos q, if_pos q]
      · rw [if_neg q, if_neg q, if_pos hi, if_pos hi]
    have hO := off_l h.1 (N := updA N r4 (upd β (2 + k) (er (dec a u v β g) k))) (a := a) (u := u) (v := v) (β := β) (g := g) hn hkn hkzd hcb hir.2.2.1.2.2 h6 h3
    have st : nF (k + 1) σ = nst (nF k σ) k := rfl
    have pl4 : pl (nF k σ) 0 < 4 := Nat.mod_lt _ (by decide)
    have l4' : nF k σ 4 = a 4 := by rw [l4]; exact nF_lit (by decide) (by decide) k (by omega)
    have l5' : nF k σ 5 = a 5 := by rw [l5]; exact nF_lit (by decide) (by decide) k (by omega)
    rw [fL_noon_L64, L3_1 h.1, if_neg (by rw [h18]; exact (nI5 hkn hn).2.1), hE, sb, gd_b b1, lt_is, b2, B_s h, hO, sb, L3_1 h.1, ← nI_succ]
    by_cases c : ab (er (dec a u v β g) k) ≤ a 4
    · rw [if_pos c]
      have hs' : SH (nF (k + 1) σ) (dec a u v (upd β (2 + k) (er (dec a u v β g) k)) g) := by
        rw [st]
        unfold nst
        rw [if_pos (by rw [← ee, l4']; exact c)]
        exact ⟨fun i hi x y => by rw [upd_ne _ (by omega), dβ _ _ (by omega)]; exact hs.1 i hi x y, fun c' f hc' hf' => by have := KI_lt hc' hf'; rw [upd_ne _ (by omega), dβ _ _ this]; exact hs.2 c' f hc' hf'⟩
      obtain ⟨a', u', v', β', q1, q2, q3, q4, q5, q6, q7⟩ := ih (k + 1) a u v _ (by omega) hs' fu' (by omega)
      have tt : ∀ f, f < 15 → tot (dec a u v (upd β (2 + k) (er (dec a u v β g) k)) g) f = tot (dec a u v β g) f := fun f hf' => tot_same (fun c' hc' => dβ _ _ (KI_lt hc' hf'))
      refine ⟨a', u', v', β', q1, q2, fun j hj => ?_, fun c' h1 h2 => ?_, ?_, ?_, fun q => q7 ?_⟩
      · rw [q3 j (by omega), upd_ne _ (by omega)]
      · by_cases e : c' = k
        · subst e
          rw [q3 _ (Or.inl (by omega)), upd_eq, ee, eσ]
        · exact q4 c' (by omega) h2
      · rw [q5, dβ _ _ (by decide)]
      · rw [q6, tt 8 (by decide)]
      · rw [dβ _ _ (by decide), tt 11 (by decide)]; exact q
    · rw [if_neg c]
      have er15 : dec (upd (upd a 14 (a 14 + 1)) 15 (upd a 14 (a 14 + 1) 15 + upd a 14 (a 14 + 1) 5)) u (upd v (20 + k) (v (20 + k) + upd (upd a 14 (a 14 + 1)) 15 (upd a 14 (a 14 + 1) 15 + upd a 14 (a 14 + 1) 5) 5)) β g = upd (upd (upd (dec a u v β g) 15 (dec a u v β g 15 + 1)) 16 (dec a u v β g 16 + a 5)) (KI k 11) (dec a u v β g (KI k 11) + a 5) := by
        rw [dv_11 _ hk5, dec_a (i := 15) (j := 16) _ (Or.inr ⟨by decide, by decide, rfl⟩), dec_a (i := 14) (j := 15) _ (Or.inr ⟨by decide, by decide, rfl⟩), re_11 a u v β g hk5, show dec a u v β g 15 = a 14 from dec_up (i := 14) (by decide) (by decide), show dec a u v β g 16 = a 15 from dec_up (i := 15) (by decide) (by decide), upd_ne _ (show (5 : Nat) ≠ 14 by decide), upd_ne _ (show (15 : Nat) ≠ 14 by decide), upd_ne _ (show (5 : Nat) ≠ 15 by decide), upd_ne _ (show (5 : Nat) ≠ 14 by decide)]
      simp only [lt_is, L3_1 h.1, L3_s1 h.1, L3_3, L3_s3, a20]
      rw [gd_b b20, gd_b b20]
      generalize ha1 : upd (upd a 14 (a 14 + 1)) 15 (upd a 14 (a 14 + 1) 15 + upd a 14 (a 14 + 1) 5) = a1 at *
      generalize hv1 : upd v (20 + k) (v (20 + k) + a1 5) = v1 at *
      have a15 : a1 5 = a 5 := by rw [← ha1, upd_ne _ (by decide), upd_ne _ (by decide)]
      have a16 : a1 6 = a 6 := by rw [← ha1, upd_ne _ (by decide), upd_ne _ (by decide)]
      have a13 : a1 3 = a 3 := by rw [← ha1, upd_ne _ (by decide), upd_ne _ (by decide)]
      have kf : ∀ c' f, f < 15 → f ≠ 11 → dec a1 u v1 β g (KI c' f) = dec a u v β g (KI c' f) := fun c' f hf' h11 => by
        rw [er15, uK_f _ h11 hf' (by decide), upd_ne _ (KI_sc (by decide)), upd_ne _ (KI_sc (by decide))]
      have lf : ∀ i, i < 20 → i ≠ 15 → i ≠ 16 → dec a1 u v1 β g i = dec a u v β g i := fun i hi x y => by
        rw [er15, uK_s _ hi, upd_ne _ y, upd_ne _ x]
      have eth : th (dec a1 u v1 β g) = th (nF k σ) := th_of (by rw [lf 6 (by decide) (by decide) (by decide)]; exact (hs.1 6 (by decide) (by decide) (by decide)).symm) (by rw [lf 3 (by decide) (by decide) (by decide)]; exact (hs.1 3 (by decide) (by decide) (by decide)).symm)
      have dβ1 : ∀ v' β' : Row, ∀ i, i < 95 → dec a1 u v' β' g i = dec a1 u v' β g i := fun v' β' i hi => by
        unfold dec
        by_cases q : i < 20
        · rw [if_pos q, if_pos q]
        · rw [if_neg q, if_neg q, if_pos hi, if_pos hi]
      have r15 : dec a1 u v1 β g 15 = dec a u v β g 15 + 1 := by rw [er15, uK_s _ (by decide), upd_ne _ (by decide), upd_eq]
      have r16 : dec a1 u v1 β g 16 = dec a u v β g 16 + a 5 := by rw [er15, uK_s _ (by decide), upd_eq]
      have r17 : dec a1 u v1 β g 17 = dec a u v β g 17 := lf 17 (by decide) (by decide) (by decide)
      have r11 : ∀ c', dec a1 u v1 β g (KI c' 11) = if c' = k then dec a u v β g (KI c' 11) + a 5 else dec a u v β g (KI c' 11) := fun c' => by
        rw [er15, uK_if]
        by_cases e : c' = k
        · rw [if_pos e, if_pos e, e]
        · rw [if_neg e, if_neg e, upd_ne _ (KI_sc (by decide)), upd_ne _ (KI_sc (by decide))]
      by_cases c5 : a 5 = 1
      · rw [if_pos (show a1 5 = 1 by rw [a15]; exact c5)]
        obtain ⟨t1, t2⟩ := trues_l h.1 (N := updA N r4 (upd β (2 + k) (er (dec a u v β g) k))) (a := a1) (u := u) (v := v1) (β := β) (g := g) hk5 (fun q => by rw [kf k 9 (by decide) (by decide)]; rw [kf k 0 (by decide) (by decide)] at q; exact hkzd k hkn q) (by rw [a16]; exact h6) (by rw [a13]; exact h3)
        rw [t1, sb]
        generalize hv2 : upd (upd v1 (30 + k) (th (dec a1 u v1 β g))) (35 + k) (dc (dec a1 u v1 β g) k) = v2 at *
        have kk : ∀ c' f, f < 15 → (c' = k → f ≠ 13 ∧ f ≠ 14) → dec a1 u v2 β g (KI c' f) = dec a1 u v1 β g (KI c' f) := fun c' f hf' hne => by
          rw [t2]
          unfold lay
          by_cases e : c' = k
          · subst e
            obtain ⟨g13, g14⟩ := hne rfl
            rw [uK_f _ g14 hf' (by decide), uK_f _ g13 hf' (by decide)]
          · rw [uK_c _ e hf' (by decide), uK_c _ e hf' (by decide)]
        have ll : ∀ i, i < 20 → dec a1 u v2 β g i = dec a1 u v1 β g i := fun i hi => by rw [t2]; unfold lay; rw [uK_s _ hi, uK_s _ hi]
        have hs' : SH (nF (k + 1) σ) (dec a1 u v2 (upd β (2 + k) (er (dec a u v β g) k)) g) := by
          rw [st]
          unfold nst
          rw [if_neg (by rw [← ee, l4']; exact c), if_pos (by rw [l5']; exact c5)]
          refine ⟨fun i hi x y => ?_, fun c' f hc' hf' => ?_⟩
          · rw [dβ1 _ _ _ (by omega), ll i hi, tru_lit hi]
            by_cases e : i = 15
            · subst e; rw [upd_eq, r15, ← hs.1 15 (by decide) (by decide) (by decide)]
            · rw [upd_ne _ e, upd_ne _ (by omega), lf i hi e x]; exact hs.1 i hi x y
          · have hlt := KI_lt hc' hf'
            rw [dβ1 _ _ _ hlt]
            have old : upd (upd (nF k σ) (100 + (pl (nF k σ) 0 * 5 + k)) (er (nF k σ) k)) 15 (nF k σ 15 + 1) (KI c' f) = nF k σ (KI c' f) := by rw [upd_ne _ (KI_sc (by decide)), upd_ne _ (by omega)]
            by_cases e : c' = k
            · subst e
              have dce : dc (upd (upd (nF c' σ) (100 + (pl (nF c' σ) 0 * 5 + c')) (er (nF c' σ) c')) 15 (nF c' σ 15 + 1)) c' = dc (dec a1 u v1 β g) c' := by
                unfold dc
                have o : ∀ f, f < 15 → upd (upd (nF c' σ) (100 + (pl (nF c' σ) 0 * 5 + c')) (er (nF c' σ) c')) 15 (nF c' σ 15 + 1) (KI c' f) = dec a u v β g (KI c' f) := fun f hf' => by have := KI_lt hc' hf'; rw [upd_ne _ (KI_sc (by decide)), upd_ne _ (by omega)]; exact hs.2 c' f hc' hf'
                rw [o 0 (by decide), o 3 (by decide), o 4 (by decide), o 9 (by decide), kf c' 0 (by decide) (by decide), kf c' 3 (by decide) (by decide), kf c' 4 (by decide) (by decide), kf c' 9 (by decide) (by decide)]
              by_cases f13 : f = 13
              · subst f13
                rw [tru_13, t2]
                unfold lay
                rw [uK_f _ (by decide) (by decide) (by decide), upd_eq, eth]
              · by_cases f14 : f = 14
                · subst f14
                  rw [tru_14, t2]
                  unfold lay
                  rw [upd_eq, dce]
                · rw [kk c' f hf' (fun _ => ⟨f13, f14⟩)]
                  by_cases f11 : f = 11
                  · subst f11
                    rw [tru_11, old, r11, if_pos rfl, c5, hs.2 c' 11 hc' (by decide)]
                  · rw [tru_own hf' f13 f14 f11, old, kf c' f hf' f11]; exact hs.2 c' f hc' hf'
            · rw [tru_c hf' e, old, kk c' f hf' (fun q => absurd q e)]
              by_cases f11 : f = 11
              · subst f11
                rw [r11, if_neg e]; exact hs.2 c' 11 hc' (by decide)
              · rw [kf c' f hf' f11]; exact hs.2 c' f hc' hf'
        obtain ⟨a', u', v', β', q1, q2, q3, q4, q5, q6, q7⟩ := ih (k + 1) a1 u v2 _ (by omega) hs' fu' (by omega)
        refine ⟨a', u', v', β', q1, q2, fun j hj => ?_, fun c' h1 h2 => ?_, ?_, ?_, fun q => q7 ?_⟩
        · rw [q3 j (by omega), upd_ne _ (by omega)]
        · by_cases e : c' = k
          · subst e
            rw [q3 _ (Or.inl (by omega)), upd_eq, ee, eσ]
          · exact q4 c' (by omega) h2
        · rw [q5, dβ1 _ _ _ (by decide), ll 17 (by decide), r17]
        · rw [q6]
          exact tot_same (fun c' hc' => by rw [dβ1 _ _ _ (KI_lt hc' (by decide)), kk c' 8 (by decide) (fun _ => by decide), kf c' 8 (by decide) (by decide)])
        · rw [dβ1 _ _ _ (by decide), ll 16 (by decide), r16, q, c5]
          refine (tot_add hk5 ?_ (fun c' hc' e => ?_)).symm
          · rw [dβ1 _ _ _ (KI_lt hk5 (by decide)), kk k 11 (by decide) (fun _ => by decide), r11, if_pos rfl, c5]
          · rw [dβ1 _ _ _ (KI_lt hc' (by decide)), kk c' 11 (by decide) (fun _ => by decide), r11, if_neg e]
      · have c50 : a 5 = 0 := by
          have := hir.2.1.2.2.2.2.2
          rw [← l5] at this
          rcases this with q | q
          · exact q
          · exact absurd q c5
        rw [if_neg (show ¬ a1 5 = 1 by rw [a15]; exact c5)]
        have r11' : ∀ c', dec a1 u v1 β g (KI c' 11) = dec a u v β g (KI c' 11) := fun c' => by
          rw [r11, c50, Int32.add_zero]; split <;> rfl
        have kf' : ∀ c' f, f < 15 → dec a1 u v1 β g (KI c' f) = dec a u v β g (KI c' f) := fun c' f hf' => by
          by_cases f11 : f = 11
          · subst f11; exact r11' c'
          · exact kf c' f hf' f11
        have hs' : SH (nF (k + 1) σ) (dec a1 u v1 (upd β (2 + k) (er (dec a u v β g) k)) g) := by
          rw [st]
          unfold nst
          rw [if_neg (by rw [← ee, l4']; exact c), if_neg (by rw [l5']; exact c5)]
          refine ⟨fun i hi x y => ?_, fun c' f hc' hf' => ?_⟩
          · rw [dβ1 _ _ _ (by omega)]
            by_cases e : i = 15
            · subst e; rw [upd_eq, r15, ← hs.1 15 (by decide) (by decide) (by decide)]
            · rw [upd_ne _ e, upd_ne _ (by omega), lf i hi e x]; exact hs.1 i hi x y
          · have hlt := KI_lt hc' hf'
            rw [dβ1 _ _ _ hlt, upd_ne _ (KI_sc (by decide)), upd_ne _ (by omega), kf' c' f hf']; exact hs.2 c' f hc' hf'
        obtain ⟨a', u', v', β', q1, q2, q3, q4, q5, q6, q7⟩ := ih (k + 1) a1 u v1 _ (by omega) hs' fu' (by omega)
        refine ⟨a', u', v', β', q1, q2, fun j hj => ?_, fun c' h1 h2 => ?_, ?_, ?_, fun q => q7 ?_⟩
        · rw [q3 j (by omega), upd_ne _ (by omega)]
        · by_cases e : c' = k
          · subst e
            rw [q3 _ (Or.inl (by omega)), upd_eq, ee, eσ]
          · exact q4 c' (by omega) h2
        · rw [q5, dβ1 _ _ _ (by decide), r17]
        · rw [q6]
          exact tot_same (fun c' hc' => by rw [dβ1 _ _ _ (KI_lt hc' (by decide)), kf' c' 8 (by decide)])
        · rw [dβ1 _ _ _ (by decide), r16, q, c50, Int32.add_zero]
          exact (tot_same (fun c' hc' => by rw [dβ1 _ _ _ (KI_lt hc' (by decide)), kf' c' 11 (by decide)])).symm
