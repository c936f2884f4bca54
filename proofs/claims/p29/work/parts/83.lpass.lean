/-! A TICK in the law, up to its noon -/
theorem ldrips {r1 r2 r3 r4 n4 : Nat} (h : DS r1 r2 r3) {N : Nat → Nat → Int32} {σ a u v β : Row} {g : Int32} {n : Nat} {b : Int} {y4 y5 y6 y8 : Int32} (hip : IP σ n b 0) : ∀ (m k : Nat) (a' u' v' : Row) (g' : Int32), k + m = n → RD k (cF k σ) (dec a' u' v' β g') → KP (dec a u v β g) (dec a' u' v' β g') → ∀ fu, m < fu →
    ∃ a2 u2 v2 g2, RD n (cF n σ) (dec a2 u2 v2 β g2) ∧ KP (dec a u v β g) (dec a2 u2 v2 β g2) ∧ fL_ticks_L24 r1 r2 r3 r4 n4 fu (L3 r1 r2 r3 N a' u' v') y4 y5 (y6 + cT k σ) y8 (nI k) = some (L3 r1 r2 r3 N a2 u2 v2, y6 + cT n σ) := by
  have hn := hip.1.2
  intro m
  induction m with
  | zero =>
    intro k a' u' v' g' hk hr hkp fu hf
    have e : k = n := by omega
    subst e
    refine ⟨a', u', v', g', hr, hkp, ?_⟩
    obtain ⟨fu', rfl⟩ : ∃ q, fu = q + 1 := ⟨fu - 1, by omega⟩
    have h18 : a' 18 = nI k := by
      have := hr.1 19 (by decide) (by decide) (by decide) (by decide)
      rw [(cF_IP hip k (by omega)).1.1, show dec a' u' v' β g' 19 = a' 18 from dec_up (i := 18) (by decide) (by decide)] at this
      exact this.symm
    rw [fL_ticks_L24, L3_1 h, if_pos (by rw [h18, t_le]; omega)]
  | succ m ih =>
    intro k a' u' v' g' hk hr hkp fu hf
    obtain ⟨fu', rfl⟩ : ∃ q, fu = q + 1 := ⟨fu - 1, by omega⟩
    have hp := cF_IP hip k (by omega)
    have hkn : k < n := by omega
    have hcb := hp.2.2.2 k hkn
    have eq : ∀ f, f < 15 → cF k σ (KI k f) = dec a' u' v' β g' (KI k f) := fun f hf => hr.2.1 k f (by omega) hf (fun q => by omega)
    have el : ld (cF k σ) k = ld (dec a' u' v' β g') k := by unfold ld; rw [eq 5 (by decide)]
    have hled := hcb.2.2.2.2.2.1
    have hl5 : ld (dec a' u' v' β g') k < 5 := by omega
    have hup := (hp.2.2.2 (ld (dec a' u' v' β g') k) (by rw [← el]; exact hled.2.2)).2.2.2.1
    rw [hr.2.1 _ 3 hl5 (by decide) (fun _ => by decide)] at hup
    have h18 : a' 18 = nI n := by
      have := hr.1 19 (by decide) (by decide) (by decide) (by decide)
      rw [hp.1.1, show dec a' u' v' β g' 19 = a' 18 from dec_up (i := 18) (by decide) (by decide)] at this
      exact this.symm
    have hv0 := hp.2.1.1
    rw [hr.1 0 (by decide) (by decide) (by decide) (by decide)] at hv0
    obtain ⟨b0, b1, -, b3, b4, -⟩ := hcb
    rw [eq 0 (by decide)] at b0
    rw [eq 1 (by decide)] at b1
    rw [eq 3 (by decide)] at b3
    rw [eq 4 (by decide)] at b4
    obtain ⟨a1, u1, v1, g1, w1, w2, w3⟩ := ldrip (r4 := r4) (n4 := n4) h (N := N) (a := a') (u := u') (v := v') (β := β) (g := g') (k := k) (by omega) b0 b1 b3 b4 ⟨by rw [← eq 5 (by decide), ← el]; exact hled.1, by rw [← el]; exact hled.2.1, hl5⟩ (by omega) hup
    obtain ⟨s1, s2'⟩ := pass_step hp hkn hr w3
    obtain ⟨k1, k2, k3, k4, k5⟩ := drip_rest (by omega) w2 w3
    obtain ⟨p1, p2, p3, p4, p5⟩ := hkp
    obtain ⟨a2, u2, v2, g2, q1, q2, q3⟩ := ih (k + 1) a1 u1 v1 g1 (by omega) s1 ⟨fun i hi => by rw [dec_b' hi, dec_b' hi], k2.trans p2, k3.trans p3, k4.trans p4, fun q => k5 (p5 q)⟩ fu' (by omega)
    refine ⟨a2, u2, v2, g2, q1, q2, ?_⟩
    rw [w1 fu' y4 y5 (y6 + cT k σ) y8 (by rw [h18]; exact (nI5 hkn hn).2.1), ← s2', ← nI_succ, Int32.add_assoc]
    exact q3
theorem lwid1 {r1 r2 r3 r4 n4 : Nat} (h : DS r1 r2 r3) {N : Nat → Nat → Int32} {a u v β : Row} {g : Int32} {k : Nat} (hk : k < 5) (h2 : 50 ≤ (a 2).toInt ∧ (a 2).toInt ≤ 5000) (h7 : 0 ≤ (dec a u v β g (KI k 7)).toInt ∧ (dec a u v β g (KI k 7)).toInt ≤ 10000) (h1 : 1 ≤ (dec a u v β g (KI k 1)).toInt ∧ (dec a u v β g (KI k 1)).toInt ≤ 60) :
    ∃ u' v', (∀ (fu : Nat) (y4 y5 y6 y8 : Int32), ¬ a 18 ≤ nI k → fL_ticks_L234 r1 r2 r3 r4 n4 (fu + 1) (L3 r1 r2 r3 N a u v) y4 y5 y6 y8 (nI k) = fL_ticks_L234 r1 r2 r3 r4 n4 fu (L3 r1 r2 r3 N a u' v') y4 y5 y6 y8 (nI k + 1)) ∧ dec a u' v' β g = wr (dec a u v β g) k := by
  obtain ⟨a10, b10, -⟩ := ix10 k hk
  obtain ⟨a25, -, b25⟩ := ix25 k hk
  obtain ⟨a0, -, c0⟩ := ix0 k hk
  have e7 : v k = dec a u v β g (KI k 7) := re_7 a u v β g hk
  have e1 : u (10 + k) = dec a u v β g (KI k 1) := rd_1 a u v β g hk
  have e12 : v (25 + k) = dec a u v β g (KI k 12) := re_12 a u v β g hk
  have e2 : dec a u v β g 2 = a 2 := dec_lo (by decide)
  have hq : v k / a 2 = qt (dec a u v β g (KI k 7)) (dec a u v β g 2) := by rw [e7, e2]; exact div_qt h7.1 (by omega)
  have qi := qt_toInt (x := dec a u v β g (KI k 7)) (y := a 2) (by omega)
  have q0 : 0 ≤ (dec a u v β g (KI k 7)).toInt / (a 2).toInt := Int.ediv_nonneg h7.1 (by omega)
  have q1 : (dec a u v β g (KI k 7)).toInt / (a 2).toInt ≤ (dec a u v β g (KI k 7)).toInt := Int.ediv_le_self _ h7.1
  have hwg : (if u (10 + k) + v k / a 2 ≤ 60 then some (v k / a 2) else some ((60 : Int32) - u (10 + k))) = some (wg (dec a u v β g) k) := by
    rw [hq, e1, some_if]
    unfold wg
    congr 1
    rw [e2]
    generalize qt (dec a u v β g (KI k 7)) (a 2) = Q at *
    have s6 : ((60 : Int32) - dec a u v β g (KI k 1)).toInt = 60 - (dec a u v β g (KI k 1)).toInt := by rw [t_sub (by rw [i_60]; omega) (by rw [i_60]; omega), i_60]
    have sa : (dec a u v β g (KI k 1) + Q).toInt = (dec a u v β g (KI k 1)).toInt + Q.toInt := t_add (by omega) (by omega)
    by_cases c : dec a u v β g (KI k 1) + Q ≤ 60
    · rw [if_pos c]
      rw [t_le, sa, i_60] at c
      rw [t_eq, mn_i, s6]; omega
    · rw [if_neg c]
      rw [t_le, sa, i_60] at c
      rw [t_eq, mn_i, s6]; omega
  refine ⟨upd u (10 + k) (u (10 + k) + wg (dec a u v β g) k), upd (upd v k (v k - v k / a 2 * a 2)) (25 + k) (v (25 + k) + wg (dec a u v β g) k), fun fu y4 y5 y6 y8 hle => ?_, ?_⟩
  · rw [fL_ticks_L234, L3_1 h, if_neg hle, gd_b c0, gd_b (nz_pos (by omega)), gd_b c0, gd_b c0, a0]
    simp only [lt_is, L3_1 h, L3_2 h, L3_3, L3_s3, a10, a25]
    rw [gd_b b10, gd_b b10, hwg, sb, gd_b b10, gd_b b10]
    simp only [L3_s2 h, L3_3, L3_s3]
    rw [gd_b b25, gd_b b25, upd_ne _ (show 25 + k ≠ k by omega)]
  · rw [dv_12 _ hk, dv_7 _ hk, du_1 _ hk, e1, e12, hq, e7, e2]
    unfold wr w3
    rw [e2]
    funext i
    simp only [upd_at, KI_KI, Nat.reduceLT, Nat.reduceEqDiff, and_false, if_false]
    by_cases i7 : i = KI k 7
    · simp [i7, KI_KI]
    · by_cases i1 : i = KI k 1
      · simp [i1, KI_KI]
      · simp [i7, i1]
theorem lwidens {r1 r2 r3 r4 n4 : Nat} (h : DS r1 r2 r3) {N : Nat → Nat → Int32} {a β ρ : Row} {g : Int32} {n : Nat} {y4 y5 y6 y8 : Int32} (hn : n ≤ 5) (h18 : a 18 = nI n) (h2 : 50 ≤ (a 2).toInt ∧ (a 2).toInt ≤ 5000) (hb : ∀ c, c < n → (0 ≤ (ρ (KI c 7)).toInt ∧ (ρ (KI c 7)).toInt ≤ 10000) ∧ (1 ≤ (ρ (KI c 1)).toInt ∧ (ρ (KI c 1)).toInt ≤ 60)) : ∀ (m c : Nat) (u v : Row), c + m = n → dec a u v β g = wF c ρ → ∀ fu, m < fu →
    ∃ u' v', fL_ticks_L234 r1 r2 r3 r4 n4 fu (L3 r1 r2 r3 N a u v) y4 y5 y6 y8 (nI c) = some (L3 r1 r2 r3 N a u' v') ∧ dec a u' v' β g = wF n ρ := by
  intro m
  induction m with
  | zero =>
    intro c u v hc hd fu hf
    have e : c = n := by omega
    subst e
    obtain ⟨fu', rfl⟩ : ∃ q, fu = q + 1 := ⟨fu - 1, by omega⟩
    exact ⟨u, v, by rw [fL_ticks_L234, L3_1 h, if_pos (by rw [h18, t_le]; omega)], hd⟩
  | succ m ih =>
    intro c u v hc hd fu hf
    obtain ⟨fu', rfl⟩ : ∃ q, fu = q + 1 := ⟨fu - 1, by omega⟩
    have hcn : c < n := by omega
    obtain ⟨u1, v1, w1, w2⟩ := lwid1 (r4 := r4) (n4 := n4) h (N := N) (a := a) (u := u) (v := v) (β := β) (g := g) (k := c) (by omega) h2 (by rw [hd, wF_late ρ (Nat.le_refl _) (by decide)]; exact (hb c hcn).1) (by rw [hd, wF_late ρ (Nat.le_refl _) (by decide)]; exact (hb c hcn).2)
    obtain ⟨u2, v2, q1, q2⟩ := ih (c + 1) u1 v1 (by omega) (by rw [w2, hd]; rfl) fu' (by omega)
    exact ⟨u2, v2, by rw [w1 fu' y4 y5 y6 y8 (by rw [h18]; exact (nI5 hcn hn).2.1), ← nI_succ]; exact q1, q2⟩
/-- a tick of the law up to its noon; the drops of the run so far, y6, are not in the law's account yet -/
theorem lpass {r1 r2 r3 r4 n4 : Nat} (h : DS r1 r2 r3) {N : Nat → Nat → Int32} {σ a u v β : Row} {g : Int32} {n : Nat} {b : Int} {y4 y5 y6 y8 : Int32} (hip : IP σ n b 0) (hs : SH σ (upd (dec a u v β g) 11 (dec a u v β g 11 + y6))) :
    ∃ a' u' v' g', (∀ {α : Type} (K : (Nat → Nat → Int32) → Int32 → Option α), ((fL_ticks_L24 r1 r2 r3 r4 n4 fuel (L3 r1 r2 r3 N a u v) y4 y5 y6 y8 0).bind fun q53 => (fL_ticks_L234 r1 r2 r3 r4 n4 fuel q53.1 y4 y5 q53.2 y8 0).bind fun q73 => lt (setC q73 r1 6 (q73 r1 6 + 1)) fun M74 => K M74 q53.2) = K (L3 r1 r2 r3 N a' u' v') (y6 + cT n σ)) ∧
      SH (ps n σ) (upd (dec a' u' v' β g') 11 (dec a' u' v' β g' 11 + (y6 + cT n σ))) ∧ dec a' u' v' β g' 16 = dec a u v β g 16 ∧ tot (dec a' u' v' β g') 11 = tot (dec a u v β g) 11 ∧ (dec a u v β g 17 = tot (dec a u v β g) 8 → dec a' u' v' β g' 17 = tot (dec a' u' v' β g') 8) := by
  have hn := hip.1.2
  have hs1 : ∀ i, i < 20 → i ≠ 11 → i ≠ 16 → i ≠ 17 → σ i = dec a u v β g i := fun i hi q a1 a2 => by have := hs.1 i hi a1 a2; rw [upd_ne _ q] at this; exact this
  have hs2 : ∀ c f, c < 5 → f < 15 → σ (KI c f) = dec a u v β g (KI c f) := fun c f hc hf => by have := hs.2 c f hc hf; rw [upd_ne _ (KI_sc (by decide))] at this; exact this
  have hs11 : σ 11 = dec a u v β g 11 + y6 := by have := hs.1 11 (by decide) (by decide) (by decide); rw [upd_eq] at this; exact this
  obtain ⟨a2, u2, v2, g2, hr, ⟨p1, p2, p3, p4, p5⟩, q1⟩ := ldrips (r4 := r4) (n4 := n4) h (N := N) (σ := σ) (a := a) (u := u) (v := v) (β := β) (g := g) (y4 := y4) (y5 := y5) (y6 := y6) (y8 := y8) hip n 0 a u v g (by omega) ⟨fun i hi c d e => hs1 i hi c d e, fun c f hc hf _ => hs2 c f hc hf, fun c hc => by omega⟩ ⟨fun _ _ => rfl, rfl, rfl, rfl, id⟩ fuel (by unfold fuel; omega)
  have hpn := cF_IP hip n (Nat.le_refl _)
  obtain ⟨r1', r2', r3'⟩ := hr
  have h18 : a2 18 = nI n := by
    have := r1' 19 (by decide) (by decide) (by decide) (by decide)
    rw [hpn.1.1, show dec a2 u2 v2 β g2 19 = a2 18 from dec_up (i := 18) (by decide) (by decide)] at this
    exact this.symm
  have h2 : 50 ≤ (a2 2).toInt ∧ (a2 2).toInt ≤ 5000 := by
    have := r1' 2 (by decide) (by decide) (by decide) (by decide)
    rw [show dec a2 u2 v2 β g2 2 = a2 2 from dec_lo (by decide)] at this
    rw [← this]; exact hpn.2.1.2.2.1
  obtain ⟨u3, v3, w1, w2⟩ := lwidens (r4 := r4) (n4 := n4) h (N := N) (a := a2) (β := β) (ρ := dec a2 u2 v2 β g2) (g := g2) (y4 := y4) (y5 := y5) (y6 := y6 + cT n σ) (y8 := y8) hn h18 h2 (fun c hc => (r3' c hc).2) n 0 u2 v2 (by omega) rfl fuel (by unfold fuel; omega)
  generalize hρn : dec a2 u2 v2 β g2 = ρn at *
  have e6 : dec (upd a2 6 (a2 6 + 1)) u3 v3 β g2 = upd (wF n ρn) 6 (wF n ρn 6 + 1) := by
    rw [dec_a (j := 6) _ (Or.inl ⟨by decide, rfl⟩), w2, ← w2, show dec a2 u3 v3 β g2 6 = a2 6 from dec_lo (by decide)]
  have lit : ∀ i, i < 20 → wF n ρn i = ρn i := fun i hi => wF_out ρn n i (fun q hq => ⟨sc_KI hi, sc_KI hi, sc_KI hi⟩)
  have oth : ∀ c f, f < 15 → f ≠ 1 → f ≠ 7 → f ≠ 12 → wF n ρn (KI c f) = ρn (KI c f) := fun c f hf h1 h7 h12 => wF_out ρn n _ (fun q hq => ⟨KI_ne_f h1 hf (by decide), KI_ne_f h7 hf (by decide), KI_ne_f h12 hf (by decide)⟩)
  refine ⟨upd a2 6 (a2 6 + 1), u3, v3, g2, fun K => ?_, ?_⟩
  · have c0 : y6 + cT 0 σ = y6 := Int32.add_zero y6
    rw [c0] at q1
    rw [show (0 : Int32) = nI 0 from rfl, q1, sb]
    dsimp only
    rw [w1, sb, lt_is, L3_1 h, L3_s1 h]
  · rw [e6]
    refine ⟨⟨fun i hi h16 h17 => ?_, fun c f hc hf => ?_⟩, ?_, ?_, fun q => ?_⟩
    · unfold ps
      by_cases e11 : i = 11
      · subst e11
        rw [upd_eq, upd_ne _ (by decide), upd_ne _ (by decide), cF_11, lit 11 (by decide), p3, hs11, Int32.add_assoc]
      · rw [upd_ne _ e11]
        by_cases e : i = 6
        · subst e
          rw [upd_eq, upd_eq, lit 6 (by decide), r1' 6 (by decide) (by decide) (by decide) (by decide)]
        · rw [upd_ne _ e, upd_ne _ e, lit i hi, r1' i hi e11 h16 h17]
    · unfold ps
      rw [upd_ne _ (KI_sc (by decide)), upd_ne _ (KI_sc (by decide)), upd_ne _ (KI_sc (by decide))]
      by_cases hcn : c < n
      · rw [wF_early ρn hf hcn]
        by_cases hf1 : f = 1 ∨ f = 7 ∨ f = 12
        · obtain ⟨t1, t7, t12⟩ := (r3' c hcn).1
          rcases hf1 with rfl | rfl | rfl
          · exact t1
          · exact t7
          · exact t12
        · rw [wr_out (KI_ne_f (by omega) hf (by decide)) (KI_ne_f (by omega) hf (by decide)) (KI_ne_f (by omega) hf (by decide))]
          exact r2' c f hc hf (fun _ => by omega)
      · rw [wF_late ρn (by omega) hf]
        exact r2' c f hc hf (fun q => by omega)
    · rw [upd_ne _ (by decide), lit 16 (by decide), p2]
    · rw [← p4]
      exact tot_same (fun c hc => by rw [upd_ne _ (KI_sc (by decide)), oth c 11 (by decide) (by decide) (by decide) (by decide)])
    · rw [upd_ne _ (by decide), lit 17 (by decide), p5 q]
      exact (tot_same (fun c hc => by rw [upd_ne _ (KI_sc (by decide)), oth c 8 (by decide) (by decide) (by decide) (by decide)])).symm
