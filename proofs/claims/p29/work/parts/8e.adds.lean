/-! THE LAW'S CHANGES: a new clock -/
theorem clockNew_m {M : Nat → Nat → Int32} {n : Nat} (n5 : n < 5) (m19 : M 0 19 = nI n) (mz : ∀ f, f < 15 → M 0 (KI n f) = 0) (h6 : 0 ≤ (M 0 6).toInt) (h3 : 1 ≤ (M 0 3).toInt) (x1 x2 x3 : Int32) :
    fM_clockNow_L70 fuel (mw M (upd (M 0) 19 (nI n + 1))) x1 x2 x3 (nI n) 0 = some (nI n, mw M (nwR (M 0) n x1 x2 x3 (th (M 0)))) := by
  rw [show (0 : Int32) = nI 0 from rfl, clear_L n5 (Q := mw M (upd (M 0) 19 (nI n + 1))) (fun f hf => by rw [mw_0, upd_ne _ (KI_sc (by decide))]; exact mz f hf) x1 x2 x3 15 0 fuel (by omega) (by unfold fuel; omega)]
  rw [show ∀ Q : Nat → Nat → Int32, fM_put Q (nI n) 0 x1 = some (mw Q (upd (Q 0) (KI n 0) x1)) from fun Q => put_at Q (v := 0) _ n5 (by decide), sb,
    show ∀ Q : Nat → Nat → Int32, fM_put Q (nI n) 1 x2 = some (mw Q (upd (Q 0) (KI n 1) x2)) from fun Q => put_at Q (v := 1) _ n5 (by decide), sb,
    show ∀ Q : Nat → Nat → Int32, fM_put Q (nI n) 2 x3 = some (mw Q (upd (Q 0) (KI n 2) x3)) from fun Q => put_at Q (v := 2) _ n5 (by decide), sb,
    show ∀ Q : Nat → Nat → Int32, fM_put Q (nI n) 5 (nI n) = some (mw Q (upd (Q 0) (KI n 5) (nI n))) from fun Q => put_at Q (v := 5) _ n5 (by decide), sb]
  simp only [mw_0, mw_mw]
  have lit : ∀ i, i < 19 → upd (upd (upd (upd (upd (M 0) 19 (nI n + 1)) (KI n 0) x1) (KI n 1) x2) (KI n 2) x3) (KI n 5) (nI n) i = M 0 i := fun i hi => by
    rw [uK_s _ (by omega), uK_s _ (by omega), uK_s _ (by omega), uK_s _ (by omega), upd_ne _ (by omega)]
  rw [mlay_is n5 (by rw [mw_0, lit 6 (by decide)]; exact h6) (by rw [mw_0, lit 3 (by decide)]; exact h3), sb, mw_0, mw_mw]
  have e := lay_nwR (ρ := M 0) (x1 := x1) (x2 := x2) (x3 := x3) (h := th (M 0)) n5 m19 mz
  rw [m19] at e
  rw [th_of (lit 6 (by decide)) (lit 3 (by decide)), e]
theorem new_INV {ρ : Row} {n : Nat} {x1 x2 x3 t : Int32} (n5 : n < 5) (hz : ∀ f, f < 15 → ρ (KI n f) = 0) (h : INV ρ n) : INV (nwR ρ n x1 x2 x3 t) (n + 1) := by
  obtain ⟨kz, ⟨c1, c2, c3⟩, ⟨b1, b2, b3⟩, b6, bk⟩ := h
  have ef : ∀ c f, f < 15 → f ≠ 0 → f ≠ 1 → f ≠ 2 → f ≠ 5 → f ≠ 13 → nwR ρ n x1 x2 x3 t (KI c f) = ρ (KI c f) := fun c f hf a0 a1 a2 a5 a13 => by
    by_cases e : c = n
    · subst e; exact nwR_f hf a0 a1 a2 a5 a13
    · exact nwR_c hf e
  have e3 := fun c => ef c 3 (by decide) (by decide) (by decide) (by decide) (by decide) (by decide)
  have e4 := fun c => ef c 4 (by decide) (by decide) (by decide) (by decide) (by decide) (by decide)
  have e6 := fun c => ef c 6 (by decide) (by decide) (by decide) (by decide) (by decide) (by decide)
  have e9 := fun c => ef c 9 (by decide) (by decide) (by decide) (by decide) (by decide) (by decide)
  have e14 := fun c => ef c 14 (by decide) (by decide) (by decide) (by decide) (by decide) (by decide)
  have el : ∀ i, i < 19 → nwR ρ n x1 x2 x3 t i = ρ i := fun i hi => nwR_lit (by omega) (by omega)
  have t3 : tot (nwR ρ n x1 x2 x3 t) 3 = tot ρ 3 := tot_same (fun c _ => e3 c)
  have t4 : tot (nwR ρ n x1 x2 x3 t) 4 = tot ρ 4 := tot_same (fun c _ => e4 c)
  have ep : pot (nwR ρ n x1 x2 x3 t) = pot ρ := pot_same (fun c _ => e3 c) (fun c _ => e4 c) (fun c _ => e6 c)
  have z4 := hz 4 (by decide)
  have z6 := hz 6 (by decide)
  have z9 := hz 9 (by decide)
  have z14 := hz 14 (by decide)
  refine ⟨fun c hc q => ?_, ⟨?_, ?_, ?_⟩, ⟨?_, ?_, ?_⟩, fun c hc => ?_, fun c hc => ?_⟩
  · rw [e9 c]
    by_cases e : c = n
    · rw [e]; exact z9
    · rw [nwR_c (by decide) e] at q; exact kz c (by omega) q
  · unfold Vt; rw [t3, el 12 (by decide), el 11 (by decide)]; exact c1
  · unfold Wt; rw [t3, t4, el 7 (by decide), el 8 (by decide), el 9 (by decide)]; exact c2
  · rw [el 10 (by decide), el 7 (by decide)]; exact c3
  · rw [el 7 (by decide)]; exact b1
  · rw [el 7 (by decide)]; exact b2
  · rw [el 7 (by decide), ep]; exact b3
  · rw [e6]; exact b6 c hc
  · rw [e4, e6, e9, e14]
    by_cases e : c = n
    · rw [e, z4, z6, z9, z14, i_0]; omega
    · rw [nwR_c (by decide) e]; exact bk c (by omega)
theorem added_l {a u v β : Row} {g x1 x2 x3 : Int32} {n : Nat} (n5 : n < 5) (h6 : 0 ≤ (a 6).toInt) (h3 : 1 ≤ (a 3).toInt) : dec (upd a 18 (nI (n + 1))) (upd (upd (upd (upd u (10 + n) x2) (15 + n) x3) (20 + n) x1) (25 + n) (nI n)) (upd v (30 + n) (a 6 / a 3)) β g = nwR (dec a u v β g) n x1 x2 x3 (th (dec a u v β g)) := by
  have et : a 6 / a 3 = th (dec a u v β g) := by unfold th; rw [dec_lo (show 6 < 12 by decide), dec_lo (show 3 < 12 by decide), div_qt h6 h3]
  rw [et]
  generalize th (dec a u v β g) = t
  rw [dv_13 _ n5, du_5 _ n5, du_0 _ n5, du_2 _ n5, du_1 _ n5, dec_a (i := 18) (j := 19) _ (Or.inr ⟨by decide, by decide, rfl⟩)]
  unfold nwR
  funext i
  simp only [upd_at]
  by_cases j19 : i = 19
  · simp [j19, KI_lit1]
  · by_cases j13 : i = KI n 13
    · simp [j13, KI_sc]
    · by_cases j5 : i = KI n 5
      · simp [j5, KI_sc]
      · by_cases j0 : i = KI n 0
        · have a2 : KI n 0 ≠ KI n 2 := KI_ne_f (by decide) (by decide) (by decide)
          have a1 : KI n 0 ≠ KI n 1 := KI_ne_f (by decide) (by decide) (by decide)
          have a5 : KI n 0 ≠ KI n 5 := KI_ne_f (by decide) (by decide) (by decide)
          have a13 : KI n 0 ≠ KI n 13 := KI_ne_f (by decide) (by decide) (by decide)
          have a19 : KI n 0 ≠ 19 := KI_sc (by decide)
          subst j0
          simp only [a2, a1, a5, a13, a19, if_true, if_false]
        · simp only [j19, j13, j5, j0, if_false]
          try (split <;> rfl)
theorem adds_l {w T : Int} {n : Nat} {X : XS} {N : Nat → Nat → Int32} (hw5 : 5000 ≤ w) (h : LW w n T X N) (x5 x6 : Int32) : ∃ n' X' N', fL_adds X N x5 x6 = some (1, X', N') ∧ LW w n' T X' N' := by
  obtain ⟨M, g, h⟩ := h
  have hn := h.n5
  have h18 := h.a18
  have h19 := h.m19
  obtain ⟨k, hk, e1⟩ := low_i x5 (m := 3) (by decide) (by decide)
  obtain ⟨p, hp, e2⟩ := low_i x6 (m := 61) (by decide) (by decide)
  obtain ⟨s, hs, e3⟩ := low_i (x5 >>> ((3 : Int32) &&& 31)) (m := 3) (by decide) (by decide)
  have e4 : ∃ m, 1 ≤ m ∧ m ≤ 501 ∧ (if nI s = 0 then some (501 : Int32) else some (60 : Int32)) = some (nI m) := by
    split
    · exact ⟨501, by decide, by decide, rfl⟩
    · exact ⟨60, by decide, by decide, rfl⟩
  obtain ⟨m, m1, m2, e4⟩ := e4
  obtain ⟨q, hq, e5⟩ := low_i (x6 >>> ((7 : Int32) &&& 31)) (m := m) (by omega) (by omega)
  have i2 : (2 : Int32).toInt = 2 := rfl
  have i5 : (500 : Int32).toInt = 500 := rfl
  have j5 : (5 : Int32).toInt = 5 := rfl
  have tk := t_lit k (by omega)
  have tn := t_lit n (by omega)
  have tp := t_lit (1 + p) (by omega)
  have tq := t_lit (1 + q) (by omega)
  have ep : (1 : Int32) + nI p = nI (1 + p) := lix 1 p
  have eq : (1 : Int32) + nI q = nI (1 + q) := lix 1 q
  have e1' : fL_low x5 (3 : Int32) = some (nI k) := e1
  have e2' : fL_low x6 (61 : Int32) = some (nI p) := e2
  have e3' : fL_low (x5 >>> ((3 : Int32) &&& 31)) (3 : Int32) = some (nI s) := e3
  have hkind : fM_in (nI k) (0 : Int32) (2 : Int32) = some 1 := in_t (by rw [i_0, i2]; omega)
  have err : ∀ r : Int32, r < 0 → (∀ M1, M1 0 = M 0 → fM_clockNow M1 (nI k) (nI (1 + p)) (nI (1 + q)) = some (r, M1)) → (((if (60 : Int32) < nI (1 + p) then some (-1000001 : Int32) else (if nI (1 + q) ≤ (500 : Int32) then (if nI n = (5 : Int32) then some (-1000003 : Int32) else some (nI n)) else some (-1000001 : Int32))) : Option (Int32))) = some r → ∃ n' X' N', fL_adds X N x5 x6 = some (1, X', N') ∧ LW w n' T X' N' := fun r hr hp hd => by
    obtain ⟨X', c1, c2⟩ := op_end (g' := g) (N' := N) (r0 := r) (ρ0 := M 0) h (Int.le_refl w) (fun σ => fS_addClock σ (nI k) (nI (1 + p)) (nI (1 + q))) (fun Q => fM_clockNow Q (nI k) (nI (1 + p)) (nI (1 + q))) (fun σ Q hq => clock_is hw5 hq _ _ _) (fun M1 e => by rw [hp M1 e, ← e, mw_self]) h.2.1 h.inv h19 hn h.same
    refine ⟨n, X', N, ?_, c2⟩
    have c1' : fX_clock X (nI k) (nI (1 + p)) (nI (1 + q)) = some (r, X') := c1
    unfold fL_adds
    rw [e1', sb, e2', sb, e3', sb, e4, sb, e5, sb, ep, eq, h18, hd, sb, if_pos hr, sb, c1', sb, if_pos rfl]
  by_cases q1 : 1 + p ≤ 60
  · have a1 : ¬ (60 : Int32) < nI (1 + p) := by rw [t_lt, i_60]; omega
    have hw : fM_in (nI (1 + p)) (1 : Int32) (60 : Int32) = some 1 := in_t (by rw [i_1, i_60]; omega)
    by_cases q2 : 1 + q ≤ 500
    · have a2 : nI (1 + q) ≤ 500 := by rw [t_le, i5]; omega
      have hq' : fM_in (nI (1 + q)) (1 : Int32) (500 : Int32) = some 1 := in_t (by rw [i_1, i5]; omega)
      by_cases q3 : n = 5
      · have a3 : nI n = 5 := by rw [q3]; rfl
        refine err (-1000003) (by decide) (fun M1 e => ?_) ?_
        · unfold fM_clockNow
          rw [hkind, sb, if_neg n10, hw, sb, if_neg n10, hq', sb, if_neg n10, if_pos (by rw [e, h19]; exact a3)]
        · rw [if_neg a1, if_pos a2, if_pos a3]
      · have n5 : n < 5 := by omega
        have a3 : ¬ nI n = 5 := by rw [t_eq, j5]; omega
        have a4 : ¬ nI n < 0 := by rw [t_lt, i_0]; omega
        obtain ⟨a10, b10, -⟩ := ix10 n n5
        obtain ⟨a15, b15, -⟩ := ix15 n n5
        obtain ⟨a20, b20, -⟩ := ix20 n n5
        obtain ⟨a25, b25, -⟩ := ix25 n n5
        obtain ⟨a30, -, b30⟩ := ix30 n n5
        have st := h.st
        have lo := h.2.2.1.1.2.2.1
        have m6 := h.m6
        have a6 : N 0 6 = M 0 6 := h.lo (by decide)
        have a3' : N 0 3 = M 0 3 := h.lo (by decide)
        have b6 : 0 ≤ (N 0 6).toInt := by rw [a6, m6]; exact lo.1
        have b3 : 1 ≤ (N 0 3).toInt := by rw [a3']; exact st.2.2.2.1.1
        have mz : ∀ f, f < 15 → M 0 (KI n f) = 0 := fun f hf => by
          rw [← h.2.2.1.2.2.1.2 n f n5 hf]; exact h.2.2.1.2.1 n f (Nat.le_refl _) n5 hf
        have f3 := added_l (a := N 0) (u := N 1) (v := N 2) (β := N 3) (g := g) (x1 := nI k) (x2 := nI (1 + p)) (x3 := nI (1 + q)) n5 b6 b3
        rw [← h.2.1] at f3
        have fa : setC (setC (setC (setC (setC (setC N 0 18 (nI n + 1)) 1 (10 + n) (nI (1 + p))) 1 (15 + n) (nI (1 + q))) 1 (20 + n) (nI k)) 1 (25 + n) (nI n)) 2 (30 + n) (N 0 6 / N 0 3) = L3 0 1 2 N (upd (N 0) 18 (nI (n + 1))) (upd (upd (upd (upd (N 1) (10 + n) (nI (1 + p))) (15 + n) (nI (1 + q))) (20 + n) (nI k)) (25 + n) (nI n)) (upd (N 2) (30 + n) (N 0 6 / N 0 3)) := by
          rw [← L3_s3, ← L3_s2 DS012, ← L3_s2 DS012, ← L3_s2 DS012, ← L3_s2 DS012, ← L3_s1 DS012, L3_N, nI_succ]
        have g6 : setC (setC (setC (setC (setC N 0 18 (nI n + 1)) 1 (10 + n) (nI (1 + p))) 1 (15 + n) (nI (1 + q))) 1 (20 + n) (nI k)) 1 (25 + n) (nI n) 0 6 = N 0 6 := by
          rw [(sN1 _ _ _).1, (sN1 _ _ _).1, (sN1 _ _ _).1, (sN1 _ _ _).1, (sN0 _ _ _).1, upd_ne _ (by decide)]
        have g3 : setC (setC (setC (setC (setC N 0 18 (nI n + 1)) 1 (10 + n) (nI (1 + p))) 1 (15 + n) (nI (1 + q))) 1 (20 + n) (nI k)) 1 (25 + n) (nI n) 0 3 = N 0 3 := by
          rw [(sN1 _ _ _).1, (sN1 _ _ _).1, (sN1 _ _ _).1, (sN1 _ _ _).1, (sN0 _ _ _).1, upd_ne _ (by decide)]
        obtain ⟨X', c1, c2⟩ := op_end (g' := g) (N' := L3 0 1 2 N (upd (N 0) 18 (nI (n + 1))) (upd (upd (upd (upd (N 1) (10 + n) (nI (1 + p))) (15 + n) (nI (1 + q))) (20 + n) (nI k)) (25 + n) (nI n)) (upd (N 2) (30 + n) (N 0 6 / N 0 3))) (n' := n + 1) (T' := T) (r0 := nI n) (ρ0 := nwR (M 0) n (nI k) (nI (1 + p)) (nI (1 + q)) (th (M 0))) h (Int.le_refl w) (fun σ => fS_addClock σ (nI k) (nI (1 + p)) (nI (1 + q))) (fun Q => fM_clockNow Q (nI k) (nI (1 + p)) (nI (1 + q))) (fun σ Q hq => clock_is hw5 hq _ _ _) (fun M1 e => by
          unfold fM_clockNow
          rw [hkind, sb, if_neg n10, hw, sb, if_neg n10, hq', sb, if_neg n10, if_neg (by rw [e, h19]; exact a3), lt_is, set0, show M1 0 19 = nI n from by rw [e]; exact h19, clockNew_m n5 (by rw [e]; exact h19) (fun f hf => by rw [e]; exact mz f hf) (by rw [e, m6]; exact lo.1) (by rw [e]; exact st.2.2.2.1.1), e]) (by rw [L3_1 DS012, L3_2 DS012, L3_3, L3_o (by decide) (by decide) (by decide), f3]) (new_INV n5 mz h.inv) nwR_19 (by omega) (by rw [nwR_lit (by decide) (by decide)]; exact h.same)
        refine ⟨n + 1, X', _, ?_, c2⟩
        have c1' : fX_clock X (nI k) (nI (1 + p)) (nI (1 + q)) = some (nI n, X') := c1
        unfold fL_adds
        rw [e1', sb, e2', sb, e3', sb, e4, sb, e5, sb, ep, eq, h18, if_neg a1, if_pos a2, if_neg a3, sb, if_neg a4, lt_is, gd_b b10, a10, lt_is, gd_b b15, a15, lt_is, gd_b b20, a20, lt_is, gd_b b25, a25, lt_is, g3, g6, nz_pos b3, gd_t, gd_b b30, a30, lt_is, sb, c1', sb, if_pos rfl, fa]
    · have a2 : ¬ nI (1 + q) ≤ 500 := by rw [t_le, i5]; omega
      refine err (-1000001) (by decide) (fun M1 e => ?_) ?_
      · unfold fM_clockNow
        rw [hkind, sb, if_neg n10, hw, sb, if_neg n10, in_f (by rw [i_1, i5]; omega), sb, if_pos rfl]
      · rw [if_neg a1, if_neg a2]
  · have a1 : (60 : Int32) < nI (1 + p) := by rw [t_lt, i_60]; omega
    refine err (-1000001) (by decide) (fun M1 e => ?_) ?_
    · unfold fM_clockNow
      rw [hkind, sb, if_neg n10, in_f (by rw [i_1, i_60]; omega), sb, if_pos rfl]
    · rw [if_pos a1]
