/-! THE LAW'S CHANGES: another pitch, truing -/
theorem LQ.dcb {w T : Int} {n : Nat} {X : XS} {N M : Nat → Nat → Int32} {g : Int32} (h : LQ w n T X N M g) {k : Nat} (hk : k < n) : -5000 ≤ (dc (M 0) k).toInt ∧ (dc (M 0) k).toInt ≤ 100000 := by
  have e : dc (X.1 0) k = dc (M 0) k := dc_congr (fun f hf => h.2.2.1.2.2.1.2 k f (by have := h.n5; omega) hf)
  rw [← e]
  exact dc_b h.2.2.1.1 h.2.2.1.2.1 h.2.2.2.2.1.2.2 hk
/-- a clock is made true -/
theorem trued_l {N : Nat → Nat → Int32} {a u v β : Row} {g : Int32} {k : Nat} (hk : k < 5) (hz : dec a u v β g (KI k 0) = 1 → dec a u v β g (KI k 9) = 0) (h6 : 0 ≤ (a 6).toInt) (h3 : 1 ≤ (a 3).toInt) :
    ∃ N2, fL_trues (L3 0 1 2 N a u v) 0 1 2 (nI k) = some N2 ∧ setC (setC N2 2 (20 + k) (N2 2 (20 + k) + 1)) 0 15 (setC N2 2 (20 + k) (N2 2 (20 + k) + 1) 0 15 + 1) = L3 0 1 2 N (upd a 15 (a 15 + 1)) u (upd (upd (upd v (30 + k) (th (dec a u v β g))) (35 + k) (dc (dec a u v β g) k)) (20 + k) (dec a u v β g (KI k 11) + 1)) ∧
      dec (upd a 15 (a 15 + 1)) u (upd (upd (upd v (30 + k) (th (dec a u v β g))) (35 + k) (dc (dec a u v β g) k)) (20 + k) (dec a u v β g (KI k 11) + 1)) β g = upd (tru (dec a u v β g) k (th (dec a u v β g))) 16 (dec a u v β g 16 + 1) := by
  obtain ⟨e1, e2⟩ := trues_l DS012 (N := N) (a := a) (u := u) (v := v) (β := β) (g := g) hk hz h6 h3
  have e3 : upd (upd v (30 + k) (th (dec a u v β g))) (35 + k) (dc (dec a u v β g) k) (20 + k) = dec a u v β g (KI k 11) := by
    rw [upd_ne _ (by omega), upd_ne _ (by omega)]
    exact re_11 a u v β g hk
  refine ⟨_, e1, ?_, ?_⟩
  · rw [L3_3, e3, L3_s3, L3_1 DS012, L3_s1 DS012]
  · rw [dec_a (i := 15) (j := 16) _ (Or.inr ⟨by decide, by decide, rfl⟩), dv_11 _ hk, e2, show a 15 = dec a u v β g 16 from (dec_up (i := 15) (by decide) (by decide)).symm]
    rfl
theorem tru_INV {w T : Int} {n : Nat} {X : XS} {N M : Nat → Nat → Int32} {g : Int32} (h : LQ w n T X N M g) {k : Nat} (hk : k < n) {ρ : Row} (hd : dc ρ k = dc (M 0) k) (hi : INV ρ n) (t : Int32) {x : Int32} : INV (upd (tru ρ k t) 16 x) n :=
  INV_of hi h.n5 (fun i h1 h2 => by rw [upd_ne _ (by omega), tru_lit (by omega)]) (fun c f hc hf => by
    rw [upd_ne _ (KI_sc (by decide))]
    by_cases e : c = k
    · subst e; exact tru_own (by omega) (by omega) (by omega) (by omega)
    · exact tru_c (by omega) e) (fun c hc => by
    rw [upd_ne _ (KI_sc (by decide))]
    by_cases e : c = k
    · subst e; rw [tru_14, hd]; exact h.dcb hk
    · rw [tru_c (by decide) e]; exact (hi.2.2.2.2 c hc).2)
theorem truesUp_l {w T : Int} {n : Nat} {X : XS} {N : Nat → Nat → Int32} (hw5 : 5000 ≤ w) (hw9 : w ≤ 500000) (h : LW w n T X N) {j : Nat} (hj : j < 6) : ∃ X' N', fL_truesUp X N (nI j) = some (1, X', N') ∧ LW w n T X' N' := by
  obtain ⟨M, g, h⟩ := h
  have hn := h.n5
  have h18 := h.a18
  have h19 := h.m19
  have tj := t_lit j (by omega)
  have tn := t_lit n (by omega)
  have tM : ∀ M1 : Nat → Nat → Int32, M1 0 = M 0 → M1 0 19 = nI n := fun M1 e => by rw [e]; exact h19
  by_cases q : j < n
  · have a1 : nI j < nI n := by rw [t_lt]; omega
    have st := h.st
    have lo := h.2.2.1.1.2.2.1
    have m6 := h.m6
    have a6 : N 0 6 = M 0 6 := h.lo (by decide)
    have a3 : N 0 3 = M 0 3 := h.lo (by decide)
    have b6 : 0 ≤ (N 0 6).toInt := by rw [a6, m6]; exact lo.1
    have b3 : 1 ≤ (N 0 3).toInt := by rw [a3]; exact st.2.2.2.1.1
    have kz := h.inv.1
    have kz' := kz
    rw [h.2.1] at kz'
    obtain ⟨a20, -, b20⟩ := ix20 j (by omega)
    have ee := error_l DS012 (N := N) (a := N 0) (u := N 1) (v := N 2) (β := N 3) (g := g) (n := n) (k := j) (b := (X.1 0 6).toInt) hn q kz' (by rw [← h.2.1]; exact h.cb q) (by have := lo.2.2; omega) b6 b3
    rw [L3_N, ← h.2.1] at ee
    obtain ⟨N2, f1, f2, f3⟩ := trued_l (N := N) (a := N 0) (u := N 1) (v := N 2) (β := N 3) (g := g) (k := j) (by omega) (kz' j q) b6 b3
    rw [L3_N] at f1
    rw [← h.2.1] at f2 f3
    obtain ⟨X', c1, c2⟩ := op_end (g' := g) (N' := L3 0 1 2 N (upd (N 0) 15 (N 0 15 + 1)) (N 1) (upd (upd (upd (N 2) (30 + j) (th (M 0))) (35 + j) (dc (M 0) j)) (20 + j) (M 0 (KI j 11) + 1))) (n' := n) (T' := T) (r0 := er (M 0) j + 10000) (ρ0 := upd (tru (M 0) j (th (M 0))) 16 (M 0 16 + 1)) h (Int.le_refl w) (fun σ => fS_trueClock σ (nI j)) (fun Q => fM_trueNow Q (nI j)) (fun σ Q hq => true_is hw5 hw9 hq (nI j)) (fun M1 e => by
      unfold fM_trueNow
      rw [mclock_in (tM M1 e) hn q, sb, if_neg n10, merror_is (by omega) (by rw [e]; exact (h.cb q).2.2.1.1) (by rw [e, m6]; exact lo.1) (by rw [e]; exact st.2.2.2.1.1), sb, mmakeTrue_is (by omega) (by rw [e, m6]; exact lo.1) (by rw [e]; exact st.2.2.2.1.1), sb, e]) (by rw [L3_1 DS012, L3_2 DS012, L3_3, L3_o (by decide) (by decide) (by decide), f3]) (tru_INV h q rfl h.inv _) (by rw [upd_ne _ (by decide), tru_lit (by decide)]; exact h19) hn (by rw [upd_ne _ (by decide), tru_lit (by decide)]; exact h.same)
    refine ⟨X', _, ?_, c2⟩
    have c1' : fX_trueUp X (nI j) = some (er (M 0) j + 10000, X') := c1
    unfold fL_truesUp
    rw [h18, if_pos a1, ee, sb, f1, sb, gd_b b20, gd_b b20, a20, lt_is, lt_is, c1', sb, if_pos rfl, f2]
  · have a1 : ¬ nI j < nI n := by rw [t_lt]; omega
    obtain ⟨X', c1, c2⟩ := op_end (g' := g) (N' := N) (r0 := -1000001) (ρ0 := M 0) h (Int.le_refl w) (fun σ => fS_trueClock σ (nI j)) (fun Q => fM_trueNow Q (nI j)) (fun σ Q hq => true_is hw5 hw9 hq (nI j)) (fun M1 e => by
      unfold fM_trueNow
      rw [mclock_out (tM M1 e) hn (by omega), sb, if_pos rfl, ← e, mw_self]) h.2.1 h.inv h19 hn h.same
    refine ⟨X', N, ?_, c2⟩
    have c1' : fX_trueUp X (nI j) = some (-1000001, X') := c1
    unfold fL_truesUp
    rw [h18, if_neg a1, c1', sb, if_pos rfl]
theorem pitches_l {w T : Int} {n : Nat} {X : XS} {N : Nat → Nat → Int32} (hw5 : 5000 ≤ w) (h : LW w n T X N) (x : Int32) : ∃ X' N', fL_pitches X N x = some (1, X', N') ∧ LW w n T X' N' := by
  obtain ⟨M, g, h⟩ := h
  have hn := h.n5
  have h18 := h.a18
  have h19 := h.m19
  obtain ⟨k, hk, e1⟩ := low_i x (m := 6) (by decide) (by decide)
  obtain ⟨t, ht, e2⟩ := low_i (x >>> ((3 : Int32) &&& 31)) (m := 502) (by decide) (by decide)
  have tk := t_lit k (by omega)
  have tt := t_lit t (by omega)
  have tn := t_lit n (by omega)
  have i5 : (500 : Int32).toInt = 500 := rfl
  have tM : ∀ M1 : Nat → Nat → Int32, M1 0 = M 0 → M1 0 19 = nI n := fun M1 e => by rw [e]; exact h19
  have err : (∀ M1, M1 0 = M 0 → fM_pitchNow M1 (nI k) (nI t) = some (-1000001, M1)) → ∃ X', fX_pitch X (nI k) (nI t) = some (-1000001, X') ∧ LW w n T X' N := fun hp => by
    obtain ⟨X', c1, c2⟩ := op_end (g' := g) (N' := N) (r0 := -1000001) (ρ0 := M 0) h (Int.le_refl w) (fun σ => fS_changePitch σ (nI k) (nI t)) (fun Q => fM_pitchNow Q (nI k) (nI t)) (fun σ Q hq => pitch_is hw5 hq (nI k) (nI t)) (fun M1 e => by rw [hp M1 e, ← e, mw_self]) h.2.1 h.inv h19 hn h.same
    exact ⟨X', c1, c2⟩
  by_cases q1 : k < n
  · have a1 : ¬ nI n ≤ nI k := by rw [t_le]; omega
    by_cases q2 : 1 ≤ t
    · have a2 : ¬ nI t < 1 := by rw [t_lt, i_1]; omega
      by_cases q3 : t ≤ 500
      · have a3 : nI t ≤ 500 := by rw [t_le, i5]; omega
        obtain ⟨a15, b15, -⟩ := ix15 k (by omega)
        obtain ⟨a20, -, b20⟩ := ix20 k (by omega)
        have st := h.st
        have lo := h.2.2.1.1.2.2.1
        have m6 := h.m6
        have a6 : N 0 6 = M 0 6 := h.lo (by decide)
        have a3' : N 0 3 = M 0 3 := h.lo (by decide)
        have b6 : 0 ≤ (N 0 6).toInt := by rw [a6, m6]; exact lo.1
        have b3 : 1 ≤ (N 0 3).toInt := by rw [a3']; exact st.2.2.2.1.1
        have kz := h.inv.1
        have d2 : N 1 (15 + k) = M 0 (KI k 2) := by rw [h.2.1]; exact rd_2 _ _ _ _ _ (by omega)
        have eN : setC N 1 (15 + k) (nI t) = L3 0 1 2 N (N 0) (upd (N 1) (15 + k) (nI t)) (N 2) := by
          rw [← L3_s2 DS012, L3_N]
        have eD : dec (N 0) (upd (N 1) (15 + k) (nI t)) (N 2) (N 3) g = upd (M 0) (KI k 2) (nI t) := by rw [du_2 _ (by omega), ← h.2.1]
        obtain ⟨N2, f1, f2, f3⟩ := trued_l (N := N) (a := N 0) (u := upd (N 1) (15 + k) (nI t)) (v := N 2) (β := N 3) (g := g) (k := k) (by omega) (by rw [eD, uK_f _ (by decide) (by decide) (by decide), uK_f _ (by decide) (by decide) (by decide)]; exact kz k q1) b6 b3
        rw [eD] at f2 f3
        rw [← eN] at f1
        have ed : dc (upd (M 0) (KI k 2) (nI t)) k = dc (M 0) k := by
          unfold dc
          rw [uK_f _ (by decide) (by decide) (by decide), uK_f _ (by decide) (by decide) (by decide), uK_f _ (by decide) (by decide) (by decide), uK_f _ (by decide) (by decide) (by decide)]
        have hi : INV (upd (M 0) (KI k 2) (nI t)) n := INV_upd h.inv hn (by decide) (by decide) (fun q => absurd q (by decide))
        obtain ⟨X', c1, c2⟩ := op_end (g' := g) (N' := L3 0 1 2 N (upd (N 0) 15 (N 0 15 + 1)) (upd (N 1) (15 + k) (nI t)) (upd (upd (upd (N 2) (30 + k) (th (upd (M 0) (KI k 2) (nI t)))) (35 + k) (dc (upd (M 0) (KI k 2) (nI t)) k)) (20 + k) (upd (M 0) (KI k 2) (nI t) (KI k 11) + 1))) (n' := n) (T' := T) (r0 := M 0 (KI k 2)) (ρ0 := upd (tru (upd (M 0) (KI k 2) (nI t)) k (th (upd (M 0) (KI k 2) (nI t)))) 16 (upd (M 0) (KI k 2) (nI t) 16 + 1)) h (Int.le_refl w) (fun σ => fS_changePitch σ (nI k) (nI t)) (fun Q => fM_pitchNow Q (nI k) (nI t)) (fun σ Q hq => pitch_is hw5 hq (nI k) (nI t)) (fun M1 e => by
          unfold fM_pitchNow
          rw [mclock_in (tM M1 e) hn q1, sb, if_neg n10, in_t (by rw [i_1, i5]; omega), sb, if_neg n10, of_2 M1 (by omega), sb, put_2 M1 _ (by omega), sb, mmakeTrue_is (by omega) (by rw [mw_0, uK_s _ (by decide), e, m6]; exact lo.1) (by rw [mw_0, uK_s _ (by decide), e]; exact st.2.2.2.1.1), sb, mw_0, mw_mw, e]) (by rw [L3_1 DS012, L3_2 DS012, L3_3, L3_o (by decide) (by decide) (by decide), f3]) (tru_INV h q1 ed hi _) (by rw [upd_ne _ (by decide), tru_lit (by decide), uK_s _ (by decide)]; exact h19) hn (by rw [upd_ne _ (by decide), tru_lit (by decide), uK_s _ (by decide)]; exact h.same)
        refine ⟨X', _, ?_, c2⟩
        have c1' : fX_pitch X (nI k) (nI t) = some (M 0 (KI k 2), X') := c1
        unfold fL_pitches
        rw [show (6 : Int32) = nI 6 from rfl, show (502 : Int32) = nI 502 from rfl, e1, sb, e2, sb, h18, if_neg a1, if_neg a2, if_pos a3, gd_b b15, gd_b b15, a15, lt_is, f1, sb, gd_b b20, gd_b b20, a20, lt_is, lt_is, c1', sb, d2, if_pos rfl, f2]
      · have a3 : ¬ nI t ≤ 500 := by rw [t_le, i5]; omega
        obtain ⟨X', c1, c2⟩ := err (fun M1 e => by
          unfold fM_pitchNow
          rw [mclock_in (tM M1 e) hn q1, sb, if_neg n10, in_f (by rw [i_1, i5]; omega), sb, if_pos rfl])
        refine ⟨X', N, ?_, c2⟩
        unfold fL_pitches
        rw [show (6 : Int32) = nI 6 from rfl, show (502 : Int32) = nI 502 from rfl, e1, sb, e2, sb, h18, if_neg a1, if_neg a2, if_neg a3, c1, sb, if_pos rfl]
    · have a2 : nI t < 1 := by rw [t_lt, i_1]; omega
      obtain ⟨X', c1, c2⟩ := err (fun M1 e => by
        unfold fM_pitchNow
        rw [mclock_in (tM M1 e) hn q1, sb, if_neg n10, in_f (by rw [i_1]; omega), sb, if_pos rfl])
      refine ⟨X', N, ?_, c2⟩
      unfold fL_pitches
      rw [show (6 : Int32) = nI 6 from rfl, show (502 : Int32) = nI 502 from rfl, e1, sb, e2, sb, h18, if_neg a1, if_pos a2, c1, sb, if_pos rfl]
  · have a1 : nI n ≤ nI k := by rw [t_le]; omega
    obtain ⟨X', c1, c2⟩ := err (fun M1 e => by
      unfold fM_pitchNow
      rw [mclock_out (tM M1 e) hn (by omega), sb, if_pos rfl])
    refine ⟨X', N, ?_, c2⟩
    unfold fL_pitches
    rw [show (6 : Int32) = nI 6 from rfl, show (502 : Int32) = nI 502 from rfl, e1, sb, e2, sb, h18, if_pos a1, c1, sb, if_pos rfl]
