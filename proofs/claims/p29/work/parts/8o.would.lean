/-! TRIALS OF THE LAW: would -/
theorem L3_r {N : Nat → Nat → Int32} {a u v : Row} : ∀ r, r < 4 → L3 4 5 6 N a u v r = N r := fun r hr => L3_o (by omega) (by omega) (by omega)
theorem lnoon_t {w T : Int} {n : Nat} {X : XS} {N M : Nat → Nat → Int32} {g : Int32} (h : LQ w n T X N M g) (hT : T ≤ 99999) {k i : Nat} (hk : k < n) (hi : (i : Int) < (X.1 0 (KI k 1)).toInt) {a u v : Row} (hd : dec a u v (N 3) g = upd (M 0) (KI k 1) (M 0 (KI k 1) - nI i)) :
    ∃ r a2 u2 v2, fL_ticks (L3 4 5 6 N a u v) 4 5 6 3 25 400 0 = some (r, L3 4 5 6 N a2 u2 v2) ∧ 0 ≤ r.toInt ∧ fL_error (L3 4 5 6 N a2 u2 v2) 4 5 6 (nI k) = some (ew n (X.1 0) k i) ∧ fL_off (L3 4 5 6 N a2 u2 v2) 4 5 6 (nI k) = some (ab (ew n (X.1 0) k i)) := by
  obtain ⟨r1, r2, r3⟩ := nar_RR h hT hk hi
  have hn := h.n5
  have hv : INV (nar (X.1 0) k i) n := INV_upd h.2.2.2.2.1 hn (by decide) (by decide) (fun q => absurd q (by decide))
  have hir := r1.1
  obtain ⟨u1, u2, u3, u4⟩ := toN_b (φ := nar (X.1 0) k i) ⟨hir.2.2.1.1, r2⟩ hir.2.1.2.2.2.1
  obtain ⟨U, hU⟩ : ∃ U, toN (nar (X.1 0) k i) = U + 1 := ⟨toN (nar (X.1 0) k i) - 1, by omega⟩
  rw [hU] at u3 u4
  obtain ⟨r, a2, v1, v2, g2, k1, k2, k3, k4, k5, k6⟩ := ltoN (r4 := 3) (n4 := 25) (N := N) (β := N 3) U 0 fuel (nar (X.1 0) k i) a u v g 0 (by omega) (by unfold fuel; omega) hir r1.2.1 hv (by omega) (by rw [stR_0, hd]; exact r1.2.2.1) (by rw [show (nar (X.1 0) k i 6).toInt + (U : Int) + 1 = (nar (X.1 0) k i 6).toInt + ((U + 1 : Nat) : Int) by omega]; exact u4) (by omega) (by decide)
  have ee : ew n (X.1 0) k i = er (itP n (U + 1) (nar (X.1 0) k i)) k := by unfold ew; rw [hU]
  generalize itP n (U + 1) (nar (X.1 0) k i) = φ at *
  have e6 : φ 6 = dec a2 v1 v2 (N 3) g2 6 := k3.1 6 (by decide) (by decide) (by decide)
  have e3 : φ 3 = dec a2 v1 v2 (N 3) g2 3 := k3.1 3 (by decide) (by decide) (by decide)
  have f6 : 0 ≤ (a2 6).toInt := by rw [show a2 6 = φ 6 by rw [e6]; exact (dec_lo (by decide)).symm]; exact k4.2.2.1.1
  have f3 : 1 ≤ (a2 3).toInt := by rw [show a2 3 = φ 3 by rw [e3]; exact (dec_lo (by decide)).symm]; exact k4.2.1.2.2.2.1.1
  have kz : KZ (dec a2 v1 v2 (N 3) g2) n := KZ_of k5.1 (fun c hc => (k3.2 c 0 (by omega) (by decide)).symm) (fun c hc => (k3.2 c 9 (by omega) (by decide)).symm)
  have cb : CB (dec a2 v1 v2 (N 3) g2) n (φ 6).toInt k := CB_congr (k4.2.2.2 k hk) (fun f hf => (k3.2 k f (by omega) hf).symm)
  have er_e : er (dec a2 v1 v2 (N 3) g2) k = ew n (X.1 0) k i := by rw [ee]; exact (er_congr e6 e3 (fun f hf => k3.2 k f (by omega) hf)).symm
  refine ⟨r, a2, v1, v2, k1, k2, ?_, ?_⟩
  · rw [error_l DS456 (N := N) (a := a2) (u := v1) (v := v2) (β := N 3) (g := g2) hn hk kz cb (by omega) f6 f3, er_e]
  · rw [off_l DS456 (N := N) (a := a2) (u := v1) (v := v2) (β := N 3) (g := g2) hn hk kz cb (by omega) f6 f3, er_e]
theorem would_L {w T : Int} {n : Nat} {X : XS} {N M : Nat → Nat → Int32} {g : Int32} (h : LQ w n T X N M g) (hT : T ≤ 99999) {k W : Nat} (hk : k < n) (hW : (X.1 0 (KI k 1)).toInt = W) (z5 : Int32) : ∀ (m i fu : Nat) (X1 : XS) (a u v : Row), i + m = W → 1 ≤ i → m < fu → QT X X1 →
    ∃ X' a' u' v', fL_wouldT_L258 fu X1 (L3 4 5 6 N a u v) z5 (nI k) (nI (wb (ew n (X.1 0) k) i)) (ab (ew n (X.1 0) k (wb (ew n (X.1 0) k) i))) (ew n (X.1 0) k (wb (ew n (X.1 0) k) i)) (nI i) = some (1, X', L3 4 5 6 N a' u' v') ∧ QT X X' := by
  have b1 := (h.2.2.1.1.2.2.2 k hk).2.1
  have hn := h.n5
  obtain ⟨s, hs, e1⟩ := low_i (z5 >>> ((5 : Int32) &&& 31)) (m := 4) (by decide) (by decide)
  have e1' : fL_low (z5 >>> ((5 : Int32) &&& 31)) (4 : Int32) = some (nI s) := e1
  obtain ⟨a10, b10, -⟩ := ix10 k (by omega)
  have d1 : N 1 (10 + k) = X.1 0 (KI k 1) := (h.d (show k < 5 by omega)).2.1
  have ts := t_lit s (by omega)
  intro m
  induction m with
  | zero =>
    intro i fu X1 a u v hi h1 hf hq
    obtain ⟨fu, rfl⟩ : ∃ q, fu = q + 1 := ⟨fu - 1, by omega⟩
    obtain rfl : i = W := by omega
    have ti := t_lit i (by omega)
    have e0 := hq.2 0 (by decide)
    rw [fL_wouldT_L258, gd_b b10, a10, L3_r 1 (by decide), d1, if_pos (show X.1 0 (KI k 1) ≤ nI i by rw [t_le]; omega), e1', sb]
    by_cases c : (0 : Int32) < nI s
    · rw [if_pos c]; exact ⟨X1, a, u, v, rfl, hq⟩
    · rw [if_neg c]
      obtain ⟨⟨X2, f1, f2⟩, -⟩ := bestWax_x (h.qt hq) hT hk (W := i) (by rw [e0]; exact hW)
      rw [e0] at f1
      have hq2 := hq.trans f2
      have e02 := hq2.2 0 (by decide)
      obtain ⟨-, X3, f3, f4⟩ := bestWax_x (h.qt hq2) hT hk (W := i) (by rw [e02]; exact hW)
      rw [e02] at f3
      rw [f1, sb, if_pos rfl]
      dsimp only
      rw [f3, sb, if_pos rfl]
      exact ⟨X3, a, u, v, rfl, hq2.trans f4⟩
  | succ m ih =>
    intro i fu X1 a u v hi h1 hf hq
    obtain ⟨fu, rfl⟩ : ∃ q, fu = q + 1 := ⟨fu - 1, by omega⟩
    have ti := t_lit i (by omega)
    have e0 := hq.2 0 (by decide)
    rw [fL_wouldT_L258, gd_b b10, a10, L3_r 1 (by decide), d1, if_neg (show ¬ X.1 0 (KI k 1) ≤ nI i by rw [t_le]; omega), e1', sb]
    by_cases c : nI s = 0
    · obtain ⟨a1, u1, v1, p1, p2, p3, p4⟩ := cps (N := N) (a := a) (u := u) (v := v)
      have hd : dec a1 (upd u1 (10 + k) (u1 (10 + k) - nI i)) v1 (N 3) g = upd (M 0) (KI k 1) (M 0 (KI k 1) - nI i) := by
        rw [du_1 _ (by omega), p4, ← h.2.1, show u1 (10 + k) = M 0 (KI k 1) by rw [rd_1 a1 u1 v1 (N 3) g (show k < 5 by omega), p4, ← h.2.1]]
      obtain ⟨r, a2, u2, v2, t1, t2, t3, t4⟩ := lnoon_t h hT hk (i := i) (by omega) hd
      have gw : wb (ew n (X.1 0) k) (i + 1) = if ab (ew n (X.1 0) k (wb (ew n (X.1 0) k) i)) ≤ ab (ew n (X.1 0) k i) then wb (ew n (X.1 0) k) i else i := rfl
      obtain ⟨X3, a3, u3, v3, c1, c2⟩ := ih (i + 1) fu X1 a2 u2 v2 (by omega) (by omega) (by omega) hq
      refine ⟨X3, a3, u3, v3, ?_, c2⟩
      rw [if_pos c, p1, sb, p2, sb, p3, sb, gd_b b10, gd_b b10, L3_2 DS456, lt_is, L3_s2 DS456, t1, sb]
      dsimp only
      rw [t4, sb]
      by_cases q : ab (ew n (X.1 0) k (wb (ew n (X.1 0) k) i)) ≤ ab (ew n (X.1 0) k i)
      · rw [if_pos q, ← nI_succ]
        rw [if_pos q] at gw
        rw [gw] at c1
        exact c1
      · rw [if_neg q, sb, t3, sb, ← nI_succ]
        rw [if_neg q] at gw
        rw [gw] at c1
        exact c1
    · rw [if_neg c, sb, if_pos (show (0 : Int32) < nI s by rw [t_lt, i_0]; rw [t_eq, i_0] at c; omega)]
      exact ⟨X1, a, u, v, rfl, hq⟩
theorem wouldT_l {w T : Int} {n : Nat} {X : XS} {N M : Nat → Nat → Int32} {g : Int32} (h : LQ w n T X N M g) (hT : T ≤ 99999) {k j : Nat} (hk : k < n) (hj : j < 3) (z5 : Int32) {a u v : Row} : ∃ X' a' u' v', fL_wouldT X (L3 4 5 6 N a u v) z5 (nI k) (nI j) (tab 2 j) = some (1, X', L3 4 5 6 N a' u' v') ∧ QT X X' := by
  have hn := h.n5
  have b1 := (h.2.2.1.1.2.2.2 k hk).2.1
  obtain ⟨ak, bk, -⟩ := ix0 k (by omega)
  obtain ⟨a1, u1, v1, p1, p2, p3, p4⟩ := cps (N := N) (a := a) (u := u) (v := v)
  have hd : dec a1 u1 v1 (N 3) g = upd (M 0) (KI k 1) (M 0 (KI k 1) - nI 0) := by
    rw [p4, ← h.2.1, show nI 0 = (0 : Int32) from rfl, Int32.sub_zero, upd_self]
  obtain ⟨r, a2, u2, v2, t1, t2, t3, t4⟩ := lnoon_t h hT hk (i := 0) (by omega) hd
  obtain ⟨X1, f1, f2⟩ := noonError_x h hT hk
  have e0 := f2.2 0 (by decide)
  have hw := why_x (h.qt f2) hk hj
  rw [e0] at hw
  have l7 := h.l (show 7 < 12 by decide)
  have l0 := h.l (show 0 < 12 by decide)
  have d3 : N 1 k = X.1 0 (KI k 3) := (h.d (show k < 5 by omega)).2.2.2.1
  have eq10 : (if tab 2 j ≤ X.1 0 7 then (if X.1 0 (KI k 3) < X.1 0 0 then some (0 : Int32) else some (2 : Int32)) else some (1 : Int32)) = some (whl (X.1 0) k (tab 2 j)) := by
    unfold whl
    split
    · split <;> rfl
    · rfl
  have eq10' : (if tab 2 j ≤ L3 4 5 6 N a2 u2 v2 0 7 then gd (inb (nI k) 35) (if L3 4 5 6 N a2 u2 v2 1 (nI k).toNatClampNeg < L3 4 5 6 N a2 u2 v2 0 0 then some (0 : Int32) else some (2 : Int32)) else some (1 : Int32)) = some (whl (X.1 0) k (tab 2 j)) := by
    rw [L3_r 0 (by decide), L3_r 1 (by decide), l7, l0, gd_b bk, ak, d3, eq10]
  obtain ⟨X3, a3, u3, v3, c1, c2⟩ := would_L h hT (W := (X.1 0 (KI k 1)).toInt.toNat) hk (by omega) z5 ((X.1 0 (KI k 1)).toInt.toNat - 1) 1 fuel X1 a2 u2 v2 (by omega) (Nat.le_refl _) (by unfold fuel; omega) f2
  rw [wb_1] at c1
  refine ⟨X3, a3, u3, v3, ?_, c2⟩
  unfold fL_wouldT
  rw [p1, sb, p2, sb, p3, sb, t1, sb, f1, sb]
  dsimp only
  rw [t3, sb, if_pos rfl, if_neg (show ¬ r < 0 by rw [t_lt, i_0]; omega), hw, sb, eq10', sb, if_pos rfl, t4, sb, sb]
  exact c1
theorem would_l {w T : Int} {n : Nat} {X : XS} {N : Nat → Nat → Int32} (h : LW w n T X N) (hT : T ≤ 99999) (x : Int32) : ∃ X' N', fL_would X N x = some (1, X', N') ∧ LW w n T X' N' := by
  obtain ⟨M, g, h⟩ := h
  have hn := h.n5
  have h18 := h.a18
  unfold fL_would
  rw [h18]
  by_cases c : n = 0
  · subst c
    obtain ⟨z1, z2, z3, z4⟩ := none_x h
    rw [if_pos (by decide), z1, sb, if_pos rfl]
    dsimp only
    rw [z2, sb, if_pos rfl]
    dsimp only
    rw [z3, sb, if_pos rfl, z4, sb, if_pos rfl]
    exact ⟨X, N, rfl, M, g, h⟩
  · have tn := t_lit n (by omega)
    obtain ⟨k, hk, e1⟩ := low_i x (m := n) (by omega) (by omega)
    obtain ⟨j, hj, e2⟩ := low_i (x >>> ((3 : Int32) &&& 31)) (m := 3) (by decide) (by decide)
    have e2' : fL_low (x >>> ((3 : Int32) &&& 31)) (3 : Int32) = some (nI j) := e2
    obtain ⟨X', a', u', v', c1, c2⟩ := wouldT_l h hT hk hj x (a := fun _ => 0) (u := fun _ => 0) (v := fun _ => 0)
    have fin : LW w n T X' (L3 4 5 6 N a' u' v') := ⟨M, g, (h.qt c2).nr L3_r⟩
    have eL : updA (updA (updA N 4 (fun _ => 0)) 5 (fun _ => 0)) 6 (fun _ => 0) = L3 4 5 6 N (fun _ => 0) (fun _ => 0) (fun _ => 0) := rfl
    rw [if_neg (show ¬ nI n = 0 by rw [t_eq, i_0]; omega), e1, sb, e2', sb, eL]
    rcases (show j = 0 ∨ j = 1 ∨ j = 2 by omega) with rfl | rfl | rfl
    · rw [if_pos (by decide)]
      exact ⟨X', _, c1, fin⟩
    · rw [if_neg (by decide), if_pos (by decide)]
      exact ⟨X', _, c1, fin⟩
    · rw [if_neg (by decide), if_neg (by decide)]
      exact ⟨X', _, c1, fin⟩
