/-! THE LAW'S CHANGES: settings, ticks, all of them -/
theorem XRs_mono {w w' : Int} {st : Nat} {X : XS} {M : Nat → Nat → Int32} (h : XRs w st X M) (hw : w ≤ w') : XRs w' st X M :=
  XRs_of h hw (h.2.1.mono hw) rfl (fun _ _ _ _ _ _ => rfl) rfl (fun _ _ _ _ _ _ => rfl) ⟨rfl, rfl⟩
theorem reghost {w : Int} {st : Nat} {X : XS} {M : Nat → Nat → Int32} (h : XRs w st X M) {ρ : Row} (hr : RW w (X.1 0) ρ) : XRs w st X (mw M ρ) :=
  XRs_of h (Int.le_refl w) (by rw [mw_0]; exact hr) rfl (fun _ _ _ _ _ _ => rfl) rfl (fun b g0 _ _ _ _ => mw_ne _ _ g0) ⟨by rw [mw_ne _ _ (by decide)], by rw [mw_ne _ _ (by decide)]⟩
theorem LW.mono {w w' T T' : Int} {n : Nat} {X : XS} {N : Nat → Nat → Int32} (h : LW w n T X N) (hw : w ≤ w') (hT : T ≤ T') : LW w' n T' X N := by
  obtain ⟨M, g, ⟨st, a⟩, b, c, d, e, f⟩ := h
  exact ⟨M, g, ⟨st, XRs_mono a hw⟩, b, c, WB_mono d hw, e, by omega⟩
theorem set_tab : ∀ i, i < 6 → (if nI i = 0 then some (5000 : Int32) else (if nI i = (2 : Int32) then some (5000 : Int32) else (if nI i = (1 : Int32) then some (900 : Int32) else (if nI i = (3 : Int32) then some (30 : Int32) else (if nI i = (4 : Int32) then some (12 : Int32) else some (1 : Int32)))))) = some (tab 1 i) ∧
    (if nI i = 0 then some (500 : Int32) else (if nI i = (1 : Int32) then some (20 : Int32) else (if nI i = (2 : Int32) then some (50 : Int32) else (if nI i = (3 : Int32) then some (1 : Int32) else some (0 : Int32))))) = some (tab 0 i) ∧ 0 ≤ (tab 0 i).toInt ∧ (tab 0 i).toInt ≤ (tab 1 i).toInt ∧ (tab 1 i).toInt ≤ 5000 := by decide +kernel
theorem sets_l {w T : Int} {n : Nat} {X : XS} {N : Nat → Nat → Int32} (h : LW w n T X N) (x : Int32) : ∃ X' N', fL_sets X N x = some (1, X', N') ∧ LW (w + 900) n T X' N' := by
  obtain ⟨M, g, h⟩ := h
  have hn := h.n5
  have h19 := h.m19
  obtain ⟨i, hi, e1⟩ := low_i x (m := 6) (by decide) (by decide)
  obtain ⟨t1, t0, b1, b2, b3⟩ := set_tab i hi
  have i3 : (3 : Int32).toInt = 3 := rfl
  have es : (tab 1 i - tab 0 i).toInt = (tab 1 i).toInt - (tab 0 i).toInt := t_sub (by omega) (by omega)
  have es3 : (tab 1 i - tab 0 i + 3).toInt = (tab 1 i).toInt - (tab 0 i).toInt + 3 := by rw [t_add (by omega) (by omega), es, i3]
  obtain ⟨q, hq, e2⟩ := low_i (x >>> ((4 : Int32) &&& 31)) (m := (tab 1 i - tab 0 i + 3).toInt.toNat) (by omega) (by omega)
  rw [← nI_back (by omega)] at e2
  have tq := t_lit q (by omega)
  have e1' : fL_low x (6 : Int32) = some (nI i) := e1
  have tv : (tab 0 i - 1 + nI q).toInt = (tab 0 i).toInt - 1 + q := by
    rw [t_add (by rw [t_sub (by rw [i_1]; omega) (by rw [i_1]; omega), i_1]; omega) (by rw [t_sub (by rw [i_1]; omega) (by rw [i_1]; omega), i_1]; omega), t_sub (by rw [i_1]; omega) (by rw [i_1]; omega), i_1, tq]
  have hm := may_is hi (tab 0 i - 1 + nI q)
  generalize hv : tab 0 i - 1 + nI q = v at tv hm
  have err : ¬ ((tab 0 i).toInt ≤ v.toInt ∧ v.toInt ≤ (tab 1 i).toInt) → ∃ X', fX_set X (nI i) v = some (-1000001, X') ∧ LW (w + 900) n T X' N := fun c => by
    obtain ⟨X', c1, c2⟩ := op_end (g' := g) (N' := N) (w' := w + 900) (r0 := -1000001) (ρ0 := M 0) h (by omega) (fun σ => fS_changeSetting σ (nI i) v) (fun Q => fM_setNow Q (nI i) v) (fun σ Q hq => set_is hq (nI i) v) (fun M1 e => by
      unfold fM_setNow
      rw [hm, if_neg c, sb, if_pos rfl, ← e, mw_self]) h.2.1 h.inv h19 hn h.same
    exact ⟨X', c1, c2⟩
  by_cases c1 : v < tab 0 i
  · have c1' := c1
    rw [t_lt] at c1'
    obtain ⟨X', d1, d2⟩ := err (by omega)
    refine ⟨X', N, ?_, d2⟩
    unfold fL_sets
    rw [e1', sb, t1, sb, t0, sb, e2, sb, hv, if_pos c1, d1, sb, if_pos rfl]
  · have c1' := c1
    rw [t_lt] at c1'
    by_cases c2 : v ≤ tab 1 i
    · have c2' := c2
      rw [t_le] at c2'
      have bi : inb (nI i) 19 = true := inb_nI (by omega) (by decide)
      have ci : (nI i).toNatClampNeg = i := cl_nI (by omega)
      have ai : N 0 i = M 0 i := h.lo (by omega)
      obtain ⟨X', d1, d2⟩ := op_end (g' := g) (N' := setC N 0 i v) (w' := w + 900) (n' := n) (T' := T) (r0 := M 0 i) (ρ0 := upd (M 0) i v) h (by omega) (fun σ => fS_changeSetting σ (nI i) v) (fun Q => fM_setNow Q (nI i) v) (fun σ Q hq => set_is hq (nI i) v) (fun M1 e => by
        unfold fM_setNow
        rw [hm, if_pos ⟨by omega, c2'⟩, sb, if_neg n10, inb_nI (show i < 120 by omega) (by decide), gd_t, gd_t, lt_is, ci, set0, e]) (by
        obtain ⟨s0, s1, s2, s3⟩ := sN0 N i v
        rw [s0, s1, s2, s3, dec_a (i := i) (j := i) _ (Or.inl ⟨by omega, rfl⟩), ← h.2.1]) (INV_of h.inv hn (fun j h1 h2 => upd_ne _ (by omega)) (fun c f hc hf => uS_K _ (by omega)) (fun k hk => by rw [uS_K _ (by omega)]; exact (h.inv.2.2.2.2 k hk).2)) (by rw [upd_ne _ (by omega)]; exact h19) hn (by rw [upd_ne _ (by omega)]; exact h.same)
      refine ⟨X', _, ?_, d2⟩
      have d1' : fX_set X (nI i) v = some (M 0 i, X') := d1
      unfold fL_sets
      rw [e1', sb, t1, sb, t0, sb, e2, sb, hv, if_neg c1, if_pos c2, gd_b bi, gd_b bi, ci, lt_is, d1', sb, ai, if_pos rfl]
    · have c2' := c2
      rw [t_le] at c2'
      obtain ⟨X', d1, d2⟩ := err (by omega)
      refine ⟨X', N, ?_, d2⟩
      unfold fL_sets
      rw [e1', sb, t1, sb, t0, sb, e2, sb, hv, if_neg c1, if_neg c2, d1, sb, if_pos rfl]
theorem ticks_l {w T : Int} {n : Nat} {X : XS} {N : Nat → Nat → Int32} (hw5 : 5000 ≤ w) (hT : T + 400 ≤ 99999) (h : LW w n T X N) {m : Nat} (h1 : 1 ≤ m) (h2 : m ≤ 400) : ∃ r X' N', fX_ticks X (nI m) = some (r, X') ∧ fL_ticks N 0 1 2 3 25 (nI m) 1 = some (r, N') ∧ LW w n (T + 400) X' N' := by
  obtain ⟨M, g, h⟩ := h
  have tm := t_lit m (by omega)
  have i1 : (1 : Int32).toInt = 1 := rfl
  have i9 : (999 : Int32).toInt = 999 := rfl
  have i99 : (99999 : Int32).toInt = 99999 := rfl
  obtain ⟨⟨st, hx⟩, hd, hr, hw, hi, h6⟩ := h
  have lo := hr.1.2.2.1
  obtain ⟨r, σ', a', u', v', β', g', k1, k2, k3, k4, k5, k6, k7⟩ := lrun O0123 (N := N) (n := n) (w := w) (T := m) (by omega) hw5 m 0 fuel fuel (X.1 0) (N 0) (N 1) (N 2) (N 3) g 0 (by omega) (by unfold fuel; omega) (by unfold fuel; omega) (by rw [stR_0, ← hd]; exact hr) (by omega) hw hi (by decide)
  rw [updA_self, L3_N] at k2
  have ho : fS_passTicks (X.1 0) (nI m) = some (r, σ') := by
    have ea := t_add (a := X.1 0 6) (b := nI m) (by omega) (by omega)
    unfold fS_passTicks
    rw [if_neg (by rw [t_lt]; omega), if_pos (by rw [t_le]; omega), if_pos (by rw [t_le, ea, i99]; omega)]
    exact k1
  obtain ⟨r1, σ1, ρ', X', M', st', M1, -, p1, -, -, p2, p3, p4, -⟩ := call2 (Int.le_refl w) (fun σ => fS_passTicks σ (nI m)) (fun Q => fM_ticksNow Q (nI m)) (fun σ Q hq => ticks_is hw5 hq (nI m)) hx
  have e := p1.symm.trans ho
  obtain ⟨rfl, rfl⟩ := Prod.mk.inj (Option.some.inj e)
  refine ⟨r1, X', L3 0 1 2 (updA N 3 β') a' u' v', p2, k2, mw M' (dec a' u' v' β' g'), g', ⟨st', reghost p3 ⟨n, by rw [p4]; exact k3, by rw [p4]; omega, by rw [p4]; exact k5⟩⟩, ?_, by rw [p4, mw_0]; exact k3, by rw [p4]; exact k5, by rw [p4]; exact k6, by rw [p4]; omega⟩
  rw [mw_0, L3_1 DS012, L3_2 DS012, L3_3, L3_o (by decide) (by decide) (by decide), updA_same]
theorem acts_l {w T : Int} {n : Nat} {X : XS} {N : Nat → Nat → Int32} (hw5 : 5000 ≤ w) (hw9 : w ≤ 500000) (hT : T + 400 ≤ 99999) (h : LW w n T X N) {k : Nat} (hk : k < 16) (x7 x8 : Int32) : ∃ n' X' N', fL_acts X N (nI k) x7 x8 = some (1, X', N') ∧ LW (w + 900) n' (T + 400) X' N' := by
  have tk := t_lit k (by omega)
  unfold fL_acts
  have z1 : isZ 1 = true := by decide
  by_cases c : 10 < k
  · obtain ⟨s, hs, e1⟩ := low_i x8 (m := 3) (by decide) (by decide)
    have e2 : ∃ m, 1 ≤ m ∧ m ≤ 400 ∧ (if nI s = 0 then some (400 : Int32) else some (30 : Int32)) = some (nI m) := by
      split
      · exact ⟨400, by decide, by decide, rfl⟩
      · exact ⟨30, by decide, by decide, rfl⟩
    obtain ⟨m, m1, m2, e2⟩ := e2
    obtain ⟨q, hq, e3⟩ := low_i x7 (m := m) (by omega) (by omega)
    obtain ⟨r, X', N', t1, t2, t3⟩ := ticks_l hw5 hT h (m := 1 + q) (by omega) (by omega)
    have e1' : fL_low x8 (3 : Int32) = some (nI s) := e1
    have ep : (1 : Int32) + nI q = nI (1 + q) := lix 1 q
    rw [if_pos (Or.inr (by rw [tk]; omega)), e1', sb, e2, sb, e3, sb, ep, t1, sb, t2, sb, if_pos rfl]
    exact ⟨n, X', N', rfl, t3.mono (by omega) (by omega)⟩
  · rw [if_neg (by rw [tk]; omega)]
    have up : ∀ {w' : Int} {n' : Nat} {X' : XS} {N' : Nat → Nat → Int32}, w' ≤ w + 900 → LW w' n' T X' N' → LW (w + 900) n' (T + 400) X' N' := fun hw q => q.mono hw (by omega)
    have ne : ∀ a b : Nat, a < 16 → b < 16 → a ≠ b → ¬ nI a = nI b := fun a b ha hb hab q => by rw [t_eq, t_lit a (by omega), t_lit b (by omega)] at q; omega
    obtain rfl | rfl | rfl | rfl | rfl | rfl | rfl | rfl | rfl | rfl | rfl : k = 0 ∨ k = 1 ∨ k = 2 ∨ k = 3 ∨ k = 4 ∨ k = 5 ∨ k = 6 ∨ k = 7 ∨ k = 8 ∨ k = 9 ∨ k = 10 := by omega
    · obtain ⟨n', X', N', a, b⟩ := adds_l hw5 h x7 x8
      rw [if_pos (show nI 0 = 0 by decide), a, sb]
      exact ⟨n', X', N', by rw [z1, gd_t], up (by omega) b⟩
    · obtain ⟨X', N', a, b⟩ := pours_l h x7
      rw [if_neg (show ¬ nI 1 = 0 by decide), if_pos (show nI 1 = 1 by decide), a, sb]
      exact ⟨n, X', N', by rw [z1, gd_t], up (by omega) b⟩
    · obtain ⟨X', N', a, b⟩ := pours_l h x7
      rw [if_neg (show ¬ nI 2 = 0 by decide), if_neg (show ¬ nI 2 = 1 by decide), if_pos (show nI 2 = 2 by decide), a, sb]
      exact ⟨n, X', N', by rw [z1, gd_t], up (by omega) b⟩
    · obtain ⟨X', N', a, b⟩ := pours_l h x7
      rw [if_neg (show ¬ nI 3 = 0 by decide), if_neg (show ¬ nI 3 = 1 by decide), if_neg (show ¬ nI 3 = 2 by decide), if_pos (show nI 3 = 3 by decide), a, sb]
      exact ⟨n, X', N', by rw [z1, gd_t], up (by omega) b⟩
    · obtain ⟨X', N', a, b⟩ := pours_l h x7
      rw [if_neg (show ¬ nI 4 = 0 by decide), if_neg (show ¬ nI 4 = 1 by decide), if_neg (show ¬ nI 4 = 2 by decide), if_neg (show ¬ nI 4 = 3 by decide), if_pos (show nI 4 = 4 by decide), a, sb]
      exact ⟨n, X', N', by rw [z1, gd_t], up (by omega) b⟩
    · obtain ⟨X', N', a, b⟩ := leads_l h x7
      rw [if_neg (show ¬ nI 5 = 0 by decide), if_neg (show ¬ nI 5 = 1 by decide), if_neg (show ¬ nI 5 = 2 by decide), if_neg (show ¬ nI 5 = 3 by decide), if_neg (show ¬ nI 5 = 4 by decide), if_pos (show nI 5 = 5 by decide), a, sb]
      exact ⟨n, X', N', by rw [z1, gd_t], up (by omega) b⟩
    · obtain ⟨X', N', a, b⟩ := waxes_l h x7
      rw [if_neg (show ¬ nI 6 = 0 by decide), if_neg (show ¬ nI 6 = 1 by decide), if_neg (show ¬ nI 6 = 2 by decide), if_neg (show ¬ nI 6 = 3 by decide), if_neg (show ¬ nI 6 = 4 by decide), if_neg (show ¬ nI 6 = 5 by decide), if_pos (show nI 6 = 6 by decide), a, sb]
      exact ⟨n, X', N', by rw [z1, gd_t], up (by omega) b⟩
    · obtain ⟨X', N', a, b⟩ := pitches_l hw5 h x7
      rw [if_neg (show ¬ nI 7 = 0 by decide), if_neg (show ¬ nI 7 = 1 by decide), if_neg (show ¬ nI 7 = 2 by decide), if_neg (show ¬ nI 7 = 3 by decide), if_neg (show ¬ nI 7 = 4 by decide), if_neg (show ¬ nI 7 = 5 by decide), if_neg (show ¬ nI 7 = 6 by decide), if_pos (show nI 7 = 7 by decide), a, sb]
      exact ⟨n, X', N', by rw [z1, gd_t], up (by omega) b⟩
    · obtain ⟨j, hj, e⟩ := low_i x7 (m := 6) (by decide) (by decide)
      obtain ⟨X', N', a, b⟩ := truesUp_l hw5 hw9 h hj
      rw [if_neg (show ¬ nI 8 = 0 by decide), if_neg (show ¬ nI 8 = 1 by decide), if_neg (show ¬ nI 8 = 2 by decide), if_neg (show ¬ nI 8 = 3 by decide), if_neg (show ¬ nI 8 = 4 by decide), if_neg (show ¬ nI 8 = 5 by decide), if_neg (show ¬ nI 8 = 6 by decide), if_neg (show ¬ nI 8 = 7 by decide), if_pos (show nI 8 = 8 by decide), show (6 : Int32) = nI 6 from rfl, e, sb, a, sb]
      exact ⟨n, X', N', by rw [z1, gd_t], up (by omega) b⟩
    · obtain ⟨X', N', a, b⟩ := sets_l h x7
      rw [if_neg (show ¬ nI 9 = 0 by decide), if_neg (show ¬ nI 9 = 1 by decide), if_neg (show ¬ nI 9 = 2 by decide), if_neg (show ¬ nI 9 = 3 by decide), if_neg (show ¬ nI 9 = 4 by decide), if_neg (show ¬ nI 9 = 5 by decide), if_neg (show ¬ nI 9 = 6 by decide), if_neg (show ¬ nI 9 = 7 by decide), if_neg (show ¬ nI 9 = 8 by decide), if_pos (show nI 9 = 9 by decide), a, sb]
      exact ⟨n, X', N', by rw [z1, gd_t], up (by omega) b⟩
    · obtain ⟨X', N', a, b⟩ := sets_l h x7
      rw [if_neg (show ¬ nI 10 = 0 by decide), if_neg (show ¬ nI 10 = 1 by decide), if_neg (show ¬ nI 10 = 2 by decide), if_neg (show ¬ nI 10 = 3 by decide), if_neg (show ¬ nI 10 = 4 by decide), if_neg (show ¬ nI 10 = 5 by decide), if_neg (show ¬ nI 10 = 6 by decide), if_neg (show ¬ nI 10 = 7 by decide), if_neg (show ¬ nI 10 = 8 by decide), if_neg (show ¬ nI 10 = 9 by decide), if_pos (show nI 10 = 10 by decide), a, sb]
      exact ⟨n, X', N', by rw [z1, gd_t], up (by omega) b⟩
