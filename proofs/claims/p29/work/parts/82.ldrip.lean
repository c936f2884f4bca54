/-! A CLOCK'S TICK in the law -/
theorem gd_b {α : Type} {b : Bool} {t : Option α} (h : b = true) : gd b t = t := by rw [h]; rfl
theorem ldrip {r1 r2 r3 r4 n4 : Nat} (h : DS r1 r2 r3) {N : Nat → Nat → Int32} {a u v β : Row} {g : Int32} {k : Nat} (hk : k < 5) (hkind : dec a u v β g (KI k 0) = 0 ∨ dec a u v β g (KI k 0) = 1 ∨ dec a u v β g (KI k 0) = 2)
    (hw : 1 ≤ (dec a u v β g (KI k 1)).toInt ∧ (dec a u v β g (KI k 1)).toInt ≤ 60) (hu : 0 ≤ (dec a u v β g (KI k 3)).toInt ∧ (dec a u v β g (KI k 3)).toInt ≤ 5000) (hlo : 0 ≤ (dec a u v β g (KI k 4)).toInt ∧ (dec a u v β g (KI k 4)).toInt ≤ 5000)
    (h5 : dec a u v β g (KI k 5) = nI (ld (dec a u v β g) k) ∧ k ≤ ld (dec a u v β g) k ∧ ld (dec a u v β g) k < 5) (h0 : 0 ≤ (dec a u v β g 0).toInt ∧ (dec a u v β g 0).toInt ≤ 5000) (hut : 0 ≤ (dec a u v β g (KI (ld (dec a u v β g) k) 3)).toInt ∧ (dec a u v β g (KI (ld (dec a u v β g) k) 3)).toInt ≤ 5000) :
    ∃ a' u' v' g', (∀ (fu : Nat) (y4 y5 y6 y8 : Int32), ¬ a 18 ≤ nI k → fL_ticks_L24 r1 r2 r3 r4 n4 (fu + 1) (L3 r1 r2 r3 N a u v) y4 y5 y6 y8 (nI k) = fL_ticks_L24 r1 r2 r3 r4 n4 fu (L3 r1 r2 r3 N a' u' v') y4 y5 (y6 + nd (dec a u v β g) k) y8 (nI k + 1)) ∧
      dec a' u' v' β g' 17 = dec a u v β g 17 + sti (lt3 (dec a u v β g) k (nd (dec a u v β g) k)) k (nd (dec a u v β g) k) ∧ ∀ i, i ≠ 17 → dec a' u' v' β g' i = aft (lt3 (dec a u v β g) k (nd (dec a u v β g) k)) k (nd (dec a u v β g) k) i := by
  obtain ⟨a20, b20, -⟩ := ix20 k hk
  obtain ⟨a5, b5, c5⟩ := ix5 k hk
  obtain ⟨a10, -, b10⟩ := ix10 k hk
  obtain ⟨a30, b30, -⟩ := ix30 k hk
  obtain ⟨a0, b0, c0⟩ := ix0 k hk
  have hdl := drip_l h (N := N) (a := a) (v := v) (β := β) (g := g) hk hw hu
  have hndi := nd_i (σ := dec a u v β g) (k := k) hw hu
  have n1 : ¬ (30 + k = k) := by omega
  have n2 : ¬ (20 + k = 30 + k) := by omega
  have n3 : ¬ (20 + k = k) := by omega
  have n4' : ¬ (5 + k = 30 + k) := by omega
  have n5 : ¬ (5 + k = k) := by omega
  have n6 : ¬ (20 + k = 5 + k) := by omega
  have n7 : ¬ (10 + k = 5 + k) := by omega
  have n8 : ¬ (5 + k = 10 + k) := by omega
  have n9 : ¬ (10 + k = k) := by omega
  generalize hdd : nd (dec a u v β g) k = d at *
  -- the three stores
  have er : dec a (upd (upd u k (u k - d)) (30 + k) (u (30 + k) + d)) (upd v k (v k + d)) β g = lt3 (dec a u v β g) k d := by
    rw [dv_7 _ hk, du_6 _ hk, du_3 _ hk, rd_3 a u v β g hk, rd_6 a u v β g hk, re_7 a u v β g hk]; rfl
  have ru : upd (upd u k (u k - d)) (30 + k) (upd u k (u k - d) (30 + k) + d) = upd (upd u k (u k - d)) (30 + k) (u (30 + k) + d) := by rw [upd_ne _ n1]
  generalize hu1 : upd (upd u k (u k - d)) (30 + k) (u (30 + k) + d) = u1 at *
  generalize hv1 : upd v k (v k + d) = v1 at *
  have hr : ∀ f, f < 15 → f ≠ 3 → f ≠ 6 → f ≠ 7 → ∀ c, dec a u1 v1 β g (KI c f) = dec a u v β g (KI c f) := fun f hf h3 h6 h7 c => by rw [er]; exact lt3_f _ _ _ _ _ h3 h6 h7 hf
  have hrl : ∀ i, i < 20 → dec a u1 v1 β g i = dec a u v β g i := fun i hi => by rw [er]; exact lt3_lit _ _ _ _ hi
  have rld : ld (dec a u1 v1 β g) k = ld (dec a u v β g) k := by unfold ld; rw [hr 5 (by decide) (by decide) (by decide) (by decide)]
  have h5' : dec a u1 v1 β g (KI k 5) = nI (ld (dec a u1 v1 β g) k) ∧ k ≤ ld (dec a u1 v1 β g) k ∧ ld (dec a u1 v1 β g) k < 5 := by rw [rld, hr 5 (by decide) (by decide) (by decide) (by decide)]; exact h5
  have h0' : 0 ≤ (dec a u1 v1 β g 0).toInt ∧ (dec a u1 v1 β g 0).toInt ≤ 5000 := by rw [hrl 0 (by decide)]; exact h0
  have hut' : 0 ≤ (dec a u1 v1 β g (KI (ld (dec a u1 v1 β g) k) 3)).toInt ∧ (dec a u1 v1 β g (KI (ld (dec a u1 v1 β g) k) 3)).toInt ≤ 5000 := by
    rw [rld, er]
    by_cases e : ld (dec a u v β g) k = k
    · rw [e]
      have : lt3 (dec a u v β g) k d (KI k 3) = dec a u v β g (KI k 3) - d := by unfold lt3; simp [upd_at, KI_KI]
      rw [this, t_sub (by omega) (by omega)]; omega
    · rw [lt3_c _ _ _ _ _ e (by decide)]; exact hut
  have k0 : u1 (20 + k) = dec a u v β g (KI k 0) := by rw [rd_0 a u1 v1 β g hk]; exact hr 0 (by decide) (by decide) (by decide) (by decide) k
  have k4 : u1 (5 + k) = dec a u v β g (KI k 4) := by rw [rd_4 a u1 v1 β g hk]; exact hr 4 (by decide) (by decide) (by decide) (by decide) k
  have hl0 : dec a u v β g 0 = a 0 := dec_lo (by decide)
  have hl1 : dec a u v β g 1 = a 1 := dec_lo (by decide)
  have e17 : ∀ a u v : Row, ∀ g, dec a u v β g 17 = a 16 := fun a u v g => dec_up (i := 16) (by decide) (by decide)
  rw [← er]
  have s0 : dec a u1 v1 β g (KI k 0) = dec a u v β g (KI k 0) := hr 0 (by decide) (by decide) (by decide) (by decide) k
  have s4 : dec a u1 v1 β g (KI k 4) = dec a u v β g (KI k 4) := hr 4 (by decide) (by decide) (by decide) (by decide) k
  have s1 : dec a u1 v1 β g 1 = dec a u v β g 1 := hrl 1 (by decide)
  have hN2 : ¬ ((0 : Int32) = 2) := by decide
  have hN3 : ¬ ((1 : Int32) = 2) := by decide
  have hN4 : ¬ ((1 : Int32) = 0) := by decide
  have hN5 : ¬ ((2 : Int32) = 0) := by decide
  have hN6 : ¬ ((2 : Int32) = 1) := by decide
  rcases hkind with q | q | q
  · obtain ⟨a', u', g', w1, w2⟩ := on_l h (N := N) (d := d) hk h5' h0' hut' ⟨hndi.1, by omega⟩
    have hk0 : u' (20 + k) = 0 := by
      rw [rd_0 a' u' v1 β g' hk, w2, gon_out (fun t => KI_ne_f (by decide) (by decide) (by decide)) (KI_sc (by decide)) (KI_sc (by decide)) (KI_sc (by decide)), s0, q]
    refine ⟨a', u', v1, g', fun fu y4 y5 y6 y8 hle => ?_, ?_, fun i _ => ?_⟩
    · rw [fL_ticks_L24, L3_1 h, if_neg hle, hdl, sb]
      simp only [a0, b0, c0, a30, b30, a20, b20, gd_t, lt_is, L3_2 h, L3_s2 h, L3_3, L3_s3, ru, hu1, hv1, k0, q, if_true, w1, sb, hk0]
      rw [if_neg hN2]
    · rw [w2, gon_out (fun t => sc_KI (by decide)) (by decide) (by decide) (by decide), hrl 17 (by decide)]
      unfold sti
      rw [s0, if_pos q, Int32.add_zero]
    · rw [w2]; unfold aft; rw [s0, if_pos q]
  · have cm := comes_l h (N := N) (a := a) (u := u1) (v := v1) (t := 5 + k) (d := d) (by omega) (by rw [← hl0]; exact h0) (by rw [k4]; exact hlo) ⟨hndi.1, by omega⟩
    refine ⟨upd a 9 (a 9 + (d - mn d (rm (a 0) (u1 (5 + k))))), upd u1 (5 + k) (u1 (5 + k) + mn d (rm (a 0) (u1 (5 + k)))), v1, g, fun fu y4 y5 y6 y8 hle => ?_, ?_, fun i _ => ?_⟩
    rotate_left
    rotate_left
    · show dec (upd a 9 (a 9 + (d - mn d (rm (a 0) (u1 (5 + k)))))) (upd u1 (5 + k) (u1 (5 + k) + mn d (rm (a 0) (u1 (5 + k))))) v1 β g i = _
      unfold aft
      rw [s0, if_neg (by rw [q]; exact hN4), if_pos q, dec_a (j := 9) _ (Or.inl ⟨by decide, rfl⟩), du_4 _ hk]
      unfold ris
      rw [s4, k4, hrl 0 (by decide), hrl 9 (by decide), hl0, show dec a u v β g 9 = a 9 from dec_lo (by decide)]
    · rw [fL_ticks_L24, L3_1 h, if_neg hle, hdl, sb]
      simp only [a0, b0, c0, a30, b30, a20, b20, gd_t, lt_is, L3_2 h, L3_s2 h, L3_3, L3_s3, ru, hu1, hv1, k0, q, if_false, if_true, hN4]
      simp only [l5, cm, sb, L3_2 h, upd_at, n6, k0, q, hN3, if_false]
    · rw [e17, e17, upd_ne _ (by decide)]
      unfold sti
      rw [s0, if_neg (by rw [q]; exact hN4), if_pos q, Int32.add_zero]
  · have hsum : (dec a u v β g (KI k 4) + d).toInt = (dec a u v β g (KI k 4)).toInt + d.toInt := t_add (by omega) (by omega)
    have e2 : dec a (upd u1 (5 + k) (u1 (5 + k) + d)) v1 β g = upd (dec a u1 v1 β g) (KI k 4) (dec a u1 v1 β g (KI k 4) + d) := by rw [du_4 _ hk, rd_4 a u1 v1 β g hk]
    by_cases c : dec a u v β g (KI k 4) + d < a 1
    · refine ⟨a, upd u1 (5 + k) (u1 (5 + k) + d), v1, g, fun fu y4 y5 y6 y8 hle => ?_, ?_, fun i _ => ?_⟩
      · rw [fL_ticks_L24, L3_1 h, if_neg hle, hdl, sb]
        simp only [a0, b0, c0, a30, b30, a20, b20, gd_t, lt_is, L3_1 h, L3_2 h, L3_s2 h, L3_3, L3_s3, ru, hu1, hv1]
        rw [if_neg (show ¬ u1 (20 + k) = 0 by rw [k0, q]; exact hN5), if_neg (show ¬ u1 (20 + k) = 1 by rw [k0, q]; exact hN6), gd_b b5, gd_b b5, a5, sb]
        rw [L3_2 h, if_pos (show upd u1 (5 + k) (u1 (5 + k) + d) (20 + k) = 2 by rw [upd_ne _ n6, k0, q]), gd_b b5, L3_1 h, if_pos (show upd u1 (5 + k) (u1 (5 + k) + d) (5 + k) < a 1 by rw [upd_eq, k4]; exact c)]
      · rw [e17, e17]
        unfold sti
        rw [s0, if_neg (by rw [q]; exact hN5), if_neg (by rw [q]; exact hN6), s1, s4, hl1, if_neg (by rw [t_le]; rw [t_lt] at c; omega), Int32.add_zero]
      · rw [e2]
        unfold aft
        rw [s0, if_neg (by rw [q]; exact hN5), if_neg (by rw [q]; exact hN6), s1, s4, hl1, if_neg (by rw [t_le]; rw [t_lt] at c; omega)]
    · -- the siphon strokes
      generalize hL : dec a u v β g (KI k 4) + d = Z at *
      have d3 : dec (upd (upd a 16 (a 16 + 1)) 12 (a 12 + Z)) (upd (upd u1 (5 + k) Z) (5 + k) 0) (upd (upd v1 (5 + k) (v1 (5 + k) + 1)) (10 + k) (v1 (10 + k) + a 1)) β g
          = upd (upd (upd (upd (upd (upd (dec a u1 v1 β g) (KI k 4) Z) (KI k 4) 0) (KI k 8) (dec a u1 v1 β g (KI k 8) + 1)) (KI k 9) (dec a u1 v1 β g (KI k 9) + a 1)) 17 (a 16 + 1)) 13 (a 12 + Z) := by
        rw [dec_a (i := 12) (j := 13) _ (Or.inr ⟨by decide, by decide, rfl⟩), dec_a (i := 16) (j := 17) _ (Or.inr ⟨by decide, by decide, rfl⟩), dv_9 _ hk, dv_8 _ hk, du_4 _ hk, du_4 _ hk, re_8 a u1 v1 β g hk, re_9 a u1 v1 β g hk]
      generalize ha3 : upd (upd a 16 (a 16 + 1)) 12 (a 12 + Z) = a3 at *
      generalize hu3 : upd (upd u1 (5 + k) Z) (5 + k) 0 = u3 at *
      generalize hv3 : upd (upd v1 (5 + k) (v1 (5 + k) + 1)) (10 + k) (v1 (10 + k) + a 1) = v3 at *
      have f3 : ∀ f, f < 15 → f ≠ 4 → f ≠ 8 → f ≠ 9 → ∀ c, dec a3 u3 v3 β g (KI c f) = dec a u1 v1 β g (KI c f) := fun f hf g4 g8 g9 c => by
        rw [d3, upd_ne _ (KI_sc (by decide)), upd_ne _ (KI_sc (by decide)), uK_f _ g9 hf (by decide), uK_f _ g8 hf (by decide), uK_f _ g4 hf (by decide), uK_f _ g4 hf (by decide)]
      have l3 : ∀ i, i < 20 → i ≠ 13 → i ≠ 17 → dec a3 u3 v3 β g i = dec a u1 v1 β g i := fun i hi g13 g17 => by
        rw [d3, upd_ne _ g13, upd_ne _ g17, uK_s _ hi, uK_s _ hi, uK_s _ hi, uK_s _ hi]
      have ld3 : ld (dec a3 u3 v3 β g) k = ld (dec a u1 v1 β g) k := by unfold ld; rw [f3 5 (by decide) (by decide) (by decide) (by decide)]
      obtain ⟨a', u', g', w1, w2⟩ := on_l h (N := N) (a := a3) (u := u3) (v := v3) (β := β) (g := g) (d := Z) hk (by rw [ld3, f3 5 (by decide) (by decide) (by decide) (by decide)]; exact h5') (by rw [l3 0 (by decide) (by decide) (by decide)]; exact h0') (by rw [ld3, f3 3 (by decide) (by decide) (by decide) (by decide)]; exact hut') ⟨by rw [hsum]; omega, by rw [hsum]; omega⟩
      have hle1 : dec a u v β g 1 ≤ Z := by rw [hl1, t_le]; rw [t_lt] at c; omega
      refine ⟨a', u', v3, g', fun fu y4 y5 y6 y8 hle => ?_, ?_, fun i hi => ?_⟩
      · rw [fL_ticks_L24, L3_1 h, if_neg hle, hdl, sb]
        simp only [a0, b0, c0, a30, b30, a20, b20, gd_t, lt_is, L3_1 h, L3_2 h, L3_s2 h, L3_3, L3_s3, ru, hu1, hv1]
        rw [if_neg (show ¬ u1 (20 + k) = 0 by rw [k0, q]; exact hN5), if_neg (show ¬ u1 (20 + k) = 1 by rw [k0, q]; exact hN6), gd_b b5, gd_b b5, a5, sb]
        have k20 : upd u1 (5 + k) Z (20 + k) = 2 := by rw [upd_ne _ n6, k0, q]
        have k5 : upd u1 (5 + k) Z (5 + k) = Z := upd_eq _ _ _
        rw [k4, hL, L3_2 h, if_pos k20, gd_b b5, L3_1 h, k5, if_neg c, gd_b b5, gd_b b5, gd_b c5, gd_b c5, gd_b b10, gd_b b10, a10]
        simp only [L3_1 h, L3_2 h, L3_s2 h, L3_3, L3_s3, L3_s1 h, hu3]
        have ev : upd (upd v1 (5 + k) (v1 (5 + k) + 1)) (10 + k) (upd v1 (5 + k) (v1 (5 + k) + 1) (10 + k) + a 1) = v3 := by rw [upd_ne _ n7]; exact hv3
        have ea : upd (upd a 16 (a 16 + 1)) 12 (upd a 16 (a 16 + 1) 12 + Z) = a3 := by rw [upd_ne _ (show (12 : Nat) ≠ 16 by decide)]; exact ha3
        rw [ev, ea, w1, sb]
      · rw [w2, gon_out (fun t => sc_KI (by decide)) (by decide) (by decide) (by decide), d3, upd_ne _ (by decide), upd_eq]
        unfold sti
        rw [s0, if_neg (by rw [q]; exact hN5), if_neg (by rw [q]; exact hN6), s1, s4, hL, if_pos hle1, e17]
      · rw [w2]
        unfold aft
        rw [s0, if_neg (by rw [q]; exact hN5), if_neg (by rw [q]; exact hN6), s1, s4, hL, if_pos hle1, d3]
        have l13 : dec a u1 v1 β g 13 = a 12 := dec_up (i := 12) (by decide) (by decide)
        have l1' : dec a u1 v1 β g 1 = a 1 := dec_lo (by decide)
        refine gon_congr ?_ ?_ ?_ ?_ ?_ ?_ ?_
        · simp [skr, upd_at, KI_lit1]
        · simp [skr, upd_at, KI_lit1]
        · simp [skr, upd_at, KI_lit1]
        · simp [skr, upd_at, KI_lit1]
        · simp [skr, upd_at, KI_KI, KI_lit2]
        · simp [skr, upd_at, KI_KI, KI_lit2]
        · simp [skr, upd_at, KI_KI, KI_lit1, hi, l13, l1']
