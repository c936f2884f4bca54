/-! THE LAW'S QUESTIONS: figures of the clocks, hours -/
theorem LQ.d {w T : Int} {n : Nat} {X : XS} {N M : Nat → Nat → Int32} {g : Int32} (h : LQ w n T X N M g) {k : Nat} (hk : k < 5) :
    N 1 (20 + k) = X.1 0 (KI k 0) ∧ N 1 (10 + k) = X.1 0 (KI k 1) ∧ N 1 (15 + k) = X.1 0 (KI k 2) ∧ N 1 k = X.1 0 (KI k 3) ∧ N 1 (5 + k) = X.1 0 (KI k 4) ∧ N 1 (25 + k) = X.1 0 (KI k 5) ∧ N 1 (30 + k) = X.1 0 (KI k 6) ∧
    N 2 (5 + k) = X.1 0 (KI k 8) ∧ N 2 (15 + k) = X.1 0 (KI k 10) ∧ N 2 (20 + k) = X.1 0 (KI k 11) ∧ N 2 (25 + k) = X.1 0 (KI k 12) := by
  have hs := fun f hf => h.2.2.1.2.2.1.2 k f hk hf
  refine ⟨?_, ?_, ?_, ?_, ?_, ?_, ?_, ?_, ?_, ?_, ?_⟩
  · rw [hs 0 (by decide), h.2.1]; exact rd_0 _ _ _ _ _ hk
  · rw [hs 1 (by decide), h.2.1]; exact rd_1 _ _ _ _ _ hk
  · rw [hs 2 (by decide), h.2.1]; exact rd_2 _ _ _ _ _ hk
  · rw [hs 3 (by decide), h.2.1]; exact rd_3 _ _ _ _ _ hk
  · rw [hs 4 (by decide), h.2.1]; exact rd_4 _ _ _ _ _ hk
  · rw [hs 5 (by decide), h.2.1]; exact rd_5 _ _ _ _ _ hk
  · rw [hs 6 (by decide), h.2.1]; exact rd_6 _ _ _ _ _ hk
  · rw [hs 8 (by decide), h.2.1]; exact re_8 _ _ _ _ _ hk
  · rw [hs 10 (by decide), h.2.1]; exact re_10 _ _ _ _ _ hk
  · rw [hs 11 (by decide), h.2.1]; exact re_11 _ _ _ _ _ hk
  · rw [hs 12 (by decide), h.2.1]; exact re_12 _ _ _ _ _ hk
theorem LQ.l {w T : Int} {n : Nat} {X : XS} {N M : Nat → Nat → Int32} {g : Int32} (h : LQ w n T X N M g) {i : Nat} (hi : i < 12) : N 0 i = X.1 0 i := by
  rw [h.lo hi]; exact (h.2.2.1.2.2.1.1 i (by omega) (by omega) (by omega)).symm
theorem LQ.hi {w T : Int} {n : Nat} {X : XS} {N M : Nat → Nat → Int32} {g : Int32} (h : LQ w n T X N M g) {i : Nat} (h1 : 12 ≤ i) (h2 : i < 19) : N 0 i = M 0 (i + 1) := by
  rw [h.2.1]; exact (dec_up h1 h2).symm
theorem LQ.s19 {w T : Int} {n : Nat} {X : XS} {N M : Nat → Nat → Int32} {g : Int32} (h : LQ w n T X N M g) : X.1 0 19 = nI n := h.2.2.1.1.1.1
theorem LQ.b3 {w T : Int} {n : Nat} {X : XS} {N M : Nat → Nat → Int32} {g : Int32} (h : LQ w n T X N M g) : 1 ≤ (N 0 3).toInt ∧ (N 0 3).toInt ≤ 30 := by
  rw [h.l (by decide)]; exact h.2.2.1.1.2.1.2.2.2.1
theorem LQ.b6 {w T : Int} {n : Nat} {X : XS} {N M : Nat → Nat → Int32} {g : Int32} (h : LQ w n T X N M g) : 0 ≤ (N 0 6).toInt := by
  rw [h.l (by decide)]; exact h.2.2.1.1.2.2.1.1
theorem LQ.erM {w T : Int} {n : Nat} {X : XS} {N M : Nat → Nat → Int32} {g : Int32} (h : LQ w n T X N M g) {k : Nat} (hk : k < n) : er (M 0) k = er (X.1 0) k :=
  (er_congr (h.2.2.1.2.2.1.1 6 (by decide) (by decide) (by decide)) (h.2.2.1.2.2.1.1 3 (by decide) (by decide) (by decide)) (fun f hf => h.2.2.1.2.2.1.2 k f (by have := h.n5; omega) hf)).symm
theorem LQ.erl {w T : Int} {n : Nat} {X : XS} {N M : Nat → Nat → Int32} {g : Int32} (h : LQ w n T X N M g) {k : Nat} (hk : k < n) : fL_error N 0 1 2 (nI k) = some (er (X.1 0) k) := by
  have kz := h.inv.1
  rw [h.2.1] at kz
  have ee := error_l DS012 (N := N) (a := N 0) (u := N 1) (v := N 2) (β := N 3) (g := g) (n := n) (k := k) (b := (X.1 0 6).toInt) h.n5 hk kz (by rw [← h.2.1]; exact h.cb hk) (by have := h.2.2.1.1.2.2.1.2.2; omega) h.b6 h.b3.1
  rw [L3_N, ← h.2.1] at ee
  rw [ee, h.erM hk]
theorem LQ.offl {w T : Int} {n : Nat} {X : XS} {N M : Nat → Nat → Int32} {g : Int32} (h : LQ w n T X N M g) {k : Nat} (hk : k < n) : fL_off N 0 1 2 (nI k) = some (ab (er (X.1 0) k)) := by
  have kz := h.inv.1
  rw [h.2.1] at kz
  have ee := off_l DS012 (N := N) (a := N 0) (u := N 1) (v := N 2) (β := N 3) (g := g) (n := n) (k := k) (b := (X.1 0 6).toInt) h.n5 hk kz (by rw [← h.2.1]; exact h.cb hk) (by have := h.2.2.1.1.2.2.1.2.2; omega) h.b6 h.b3.1
  rw [L3_N, ← h.2.1] at ee
  rw [ee, h.erM hk]
theorem LQ.dripl {w T : Int} {n : Nat} {X : XS} {N M : Nat → Nat → Int32} {g : Int32} (h : LQ w n T X N M g) {k : Nat} (hk : k < n) : fL_drip N 1 (nI k) = some (nd (X.1 0) k) := by
  have cb := h.cb hk
  have k5 : k < 5 := by have := h.n5; omega
  have ee := drip_l DS012 (N := N) (a := N 0) (u := N 1) (v := N 2) (β := N 3) (g := g) (k := k) k5 (by rw [← h.2.1]; exact cb.2.1) (by rw [← h.2.1]; exact cb.2.2.2.1)
  rw [L3_N, ← h.2.1] at ee
  rw [ee]
  exact congrArg some (nd_congr (fun f hf => (h.2.2.1.2.2.1.2 k f k5 hf).symm))
def fgx (σ : Row) (k : Nat) : Nat → Int32
  | 2 => if σ (KI k 0) = 0 then -1000004 else σ (KI k 4)
  | 7 => if σ (KI k 0) = 2 then σ (KI k 8) else -1000004
  | 8 => if σ (KI k 5) = nI k then -1000004 else σ (KI k 5)
  | j => fg σ k j
theorem clockOf_x {X : XS} {n k j : Nat} (h19 : X.1 0 19 = nI n) (hn : n ≤ 5) (hk : k < n) (hj : j < 12) : fX_clockOf X (nI k) (nI j) = some (fgx (X.1 0) k j) := by
  have i11 : (11 : Int32).toInt = 11 := rfl
  have tj := t_lit j (by omega)
  unfold fX_clockOf
  rw [clockAt_in h19 hk hn, sb, onN_s, if_neg (show ¬ nI j < 0 by rw [t_lt, i_0]; omega), if_pos (show nI j ≤ 11 by rw [t_le, i11]; omega), figure_is hj]
  generalize X.1 0 = σ at *
  rcases (show j = 0 ∨ j = 1 ∨ j = 2 ∨ j = 3 ∨ j = 4 ∨ j = 5 ∨ j = 6 ∨ j = 7 ∨ j = 8 ∨ j = 9 ∨ j = 10 ∨ j = 11 by omega) with rfl | rfl | rfl | rfl | rfl | rfl | rfl | rfl | rfl | rfl | rfl | rfl
  · rfl
  · rfl
  · show ((if σ (KI k 0) = 0 then some (0 : Int32) else some 1).bind fun q5 => (if q5 = 0 then some (-1000004 : Int32) else (some (σ (KI k 4))).bind fun q7 => some q7)) = some (if σ (KI k 0) = 0 then -1000004 else σ (KI k 4))
    split <;> rfl
  · rfl
  · rfl
  · rfl
  · rfl
  · show ((if σ (KI k 0) = 2 then some (1 : Int32) else some 0).bind fun q5 => (if q5 = 0 then some (-1000004 : Int32) else (some (σ (KI k 8))).bind fun q7 => some q7)) = some (if σ (KI k 0) = 2 then σ (KI k 8) else -1000004)
    split <;> rfl
  · show ((if σ (KI k 5) = nI k then some (0 : Int32) else some 1).bind fun q5 => (if q5 = 0 then some (-1000004 : Int32) else (some (σ (KI k 5))).bind fun q7 => some q7)) = some (if σ (KI k 5) = nI k then -1000004 else σ (KI k 5))
    split <;> rfl
  · rfl
  · rfl
  · rfl
theorem clockOf_o {X : XS} {n k : Nat} {x2 : Int32} (h19 : X.1 0 19 = nI n) (hn : n ≤ 5) (hk : k < n) (hx : 12 ≤ x2.toInt) : fX_clockOf X (nI k) x2 = some (-1000001) := by
  have i11 : (11 : Int32).toInt = 11 := rfl
  unfold fX_clockOf
  rw [clockAt_in h19 hk hn, sb, onN_s, if_neg (show ¬ x2 < 0 by rw [t_lt, i_0]; omega), if_neg (show ¬ x2 ≤ 11 by rw [t_le, i11]; omega)]
theorem clockOf_n {X : XS} {n : Nat} (x2 : Int32) (h19 : X.1 0 19 = nI n) (hn : n ≤ 5) : fX_clockOf X (nI n) x2 = some (-1000001) := by
  have tn := t_lit n (by omega)
  unfold fX_clockOf
  rw [clockAt_out h19 hn (by omega), sb, onN_n]
theorem hour_n {X : XS} {n : Nat} (x2 : Int32) (h19 : X.1 0 19 = nI n) (hn : n ≤ 5) : fX_hour X (nI n) x2 = some (-1000001) := by
  have tn := t_lit n (by omega)
  unfold fX_hour
  rw [clockAt_out h19 hn (by omega), sb, onN_n]
theorem hour_x {X : XS} {n k : Nat} {b : Int} (hir : IR (X.1 0) n b) (hk : k < n) : fX_hour X (nI k) 0 = some (ho (X.1 0) k + 10000) ∧ fX_hour X (nI k) 1 = some (er (X.1 0) k + 10000) ∧ fX_hour X (nI k) 2 = some (th (X.1 0)) ∧ fX_hour X (nI k) 3 = some (-1000001) := by
  have b2 := (hir.2.2.2 k hk).2.2.1
  have b3 := hir.2.1.2.2.2.1.1
  unfold fX_hour
  refine ⟨?_, ?_, ?_, ?_⟩
  · rw [clockAt_in hir.1.1 hk hir.1.2, sb, onN_s, if_neg (by decide), if_pos (by decide), if_pos rfl, hourTold_is b2.1, sb]
  · rw [clockAt_in hir.1.1 hk hir.1.2, sb, onN_s, if_neg (by decide), if_pos (by decide), if_neg (by decide), if_pos rfl, errorOf_is b2.1 b3, sb]
  · rw [clockAt_in hir.1.1 hk hir.1.2, sb, onN_s, if_neg (by decide), if_pos (by decide), if_neg (by decide), if_neg (by decide), trueHour_is b3, sb]
  · rw [clockAt_in hir.1.1 hk hir.1.2, sb, onN_s, if_neg (by decide), if_neg (by decide)]
theorem areClocks_L {w T : Int} {n : Nat} {X : XS} {N M : Nat → Nat → Int32} {g : Int32} (h : LQ w n T X N M g) : ∀ (m c fu : Nat), c + m = n → m < fu → fL_areClocks_L6 fu X N 1 (nI c) = some 1 := by
  have hn := h.n5
  have h18 := h.a18
  have h19 := h.s19
  have hir := h.2.2.1.1
  intro m
  induction m with
  | zero =>
    intro c fu hc hf
    obtain ⟨fu, rfl⟩ : ∃ q, fu = q + 1 := ⟨fu - 1, by omega⟩
    rw [fL_areClocks_L6, h18, if_pos (by rw [nle (by omega) (by omega)]; omega), if_neg n10, clockOf_n _ h19 hn, sb, if_pos rfl, hour_n _ h19 hn, sb, if_pos rfl]
  | succ m ih =>
    intro c fu hc hf
    obtain ⟨fu, rfl⟩ : ∃ q, fu = q + 1 := ⟨fu - 1, by omega⟩
    have hk : c < n := by omega
    have k5 : c < 5 := by omega
    obtain ⟨ac, bc, -⟩ := ix0 c k5
    obtain ⟨a5, b5, b5'⟩ := ix5 c k5
    obtain ⟨a10, b10, -⟩ := ix10 c k5
    obtain ⟨a15, b15, b15'⟩ := ix15 c k5
    obtain ⟨a20, b20, b20'⟩ := ix20 c k5
    obtain ⟨a25, b25, b25'⟩ := ix25 c k5
    obtain ⟨a30, b30, -⟩ := ix30 c k5
    obtain ⟨d0, d1, d2, d3, d4, d5, d6, d8, d10, d11, d12⟩ := h.d k5
    have co := fun j hj => clockOf_x (X := X) (n := n) (k := c) (j := j) h19 hn hk hj
    have c0 : fX_clockOf X (nI c) (0 : Int32) = some (X.1 0 (KI c 0)) := co 0 (by decide)
    have c1 : fX_clockOf X (nI c) (1 : Int32) = some (X.1 0 (KI c 3)) := co 1 (by decide)
    have c2 : fX_clockOf X (nI c) (2 : Int32) = some (if X.1 0 (KI c 0) = 0 then -1000004 else X.1 0 (KI c 4)) := co 2 (by decide)
    have c3 : fX_clockOf X (nI c) (3 : Int32) = some (X.1 0 (KI c 1)) := co 3 (by decide)
    have c4 : fX_clockOf X (nI c) (4 : Int32) = some (X.1 0 (KI c 2)) := co 4 (by decide)
    have c5 : fX_clockOf X (nI c) (5 : Int32) = some (X.1 0 (KI c 6)) := co 5 (by decide)
    have c6 : fX_clockOf X (nI c) (6 : Int32) = some (nd (X.1 0) c) := co 6 (by decide)
    have c7 : fX_clockOf X (nI c) (7 : Int32) = some (if X.1 0 (KI c 0) = 2 then X.1 0 (KI c 8) else -1000004) := co 7 (by decide)
    have c8 : fX_clockOf X (nI c) (8 : Int32) = some (if X.1 0 (KI c 5) = nI c then -1000004 else X.1 0 (KI c 5)) := co 8 (by decide)
    have c9 : fX_clockOf X (nI c) (9 : Int32) = some (X.1 0 (KI c 10)) := co 9 (by decide)
    have c10 : fX_clockOf X (nI c) (10 : Int32) = some (X.1 0 (KI c 11)) := co 10 (by decide)
    have c11 : fX_clockOf X (nI c) (11 : Int32) = some (X.1 0 (KI c 12)) := co 11 (by decide)
    have c12 : fX_clockOf X (nI c) (12 : Int32) = some (-1000001) := clockOf_o h19 hn hk (by decide)
    obtain ⟨h0, h1, h2, h3⟩ := hour_x hir hk
    have e53 : ∀ z : Option Int32 → Option Int32, z (if X.1 0 (KI c 0) = 0 then some (-1000004 : Int32) else some (X.1 0 (KI c 4))) = z (some (if X.1 0 (KI c 0) = 0 then -1000004 else X.1 0 (KI c 4))) := fun z => by split <;> rfl
    have e53' : (if X.1 0 (KI c 0) = 0 then some (-1000004 : Int32) else some (X.1 0 (KI c 4))) = some (if X.1 0 (KI c 0) = 0 then -1000004 else X.1 0 (KI c 4)) := by split <;> rfl
    have e33 : (if X.1 0 (KI c 5) = nI c then some (-1000004 : Int32) else some (X.1 0 (KI c 5))) = some (if X.1 0 (KI c 5) = nI c then -1000004 else X.1 0 (KI c 5)) := by split <;> rfl
    have e7 : (if X.1 0 (KI c 0) = (2 : Int32) then (if (if X.1 0 (KI c 0) = 2 then X.1 0 (KI c 8) else -1000004) = X.1 0 (KI c 8) then some (1 : Int32) else some (0 : Int32)) else (if (if X.1 0 (KI c 0) = 2 then X.1 0 (KI c 8) else -1000004) = (-1000004 : Int32) then some (1 : Int32) else some (0 : Int32))) = some 1 := by
      by_cases q : X.1 0 (KI c 0) = 2
      · rw [if_pos q, if_pos q, if_pos rfl]
      · rw [if_neg q, if_neg q, if_pos rfl]
    have eth : N 0 6 / N 0 3 = th (X.1 0) := by rw [div_qt h.b6 h.b3.1, h.l (by decide), h.l (by decide)]; rfl
    have eho : er (X.1 0) c + th (X.1 0) + 10000 = ho (X.1 0) c + 10000 := by unfold er; grind
    rw [fL_areClocks_L6, h18, if_neg (by rw [nle (by omega) (by omega)]; omega), if_neg n10, gd_b b20, a20, c0, sb, d0, if_pos rfl, c1, sb, gd_b bc, ac, d3, if_pos rfl, c2, sb, gd_b b5, a5, d4, e53', sb, if_pos rfl, c3, sb, gd_b b10, a10, d1, if_pos rfl, c4, sb, gd_b b15, a15, d2, if_pos rfl, c5, sb, gd_b b30, a30, d6, if_pos rfl, c6, sb, h.dripl hk, sb, if_pos rfl, c7, sb, gd_b b5', d8, e7, sb, if_neg n10, c8, sb, gd_b b25, a25, gd_b b25, d5, e33, sb, if_pos rfl, c9, sb, gd_b b15', d10, if_pos rfl, c10, sb, gd_b b20', d11, if_pos rfl, c11, sb, gd_b b25', d12, if_pos rfl, c12, sb, if_pos rfl, sb, if_neg n10, h0, sb, h.erl hk, sb, nz_pos h.b3.1, gd_t, eth, eho, if_pos rfl, h1, sb, sb, if_pos rfl, h2, sb, gd_t, if_pos rfl, h3, sb, if_pos rfl, ← nI_succ]
    exact ih (c + 1) fu (by omega) (by omega)
theorem areClocks_l {w T : Int} {n : Nat} {X : XS} {N : Nat → Nat → Int32} (h : LW w n T X N) : fL_areClocks X N = some 1 := by
  obtain ⟨M, g, h⟩ := h
  exact areClocks_L h n 0 fuel (by omega) (by have := h.n5; unfold fuel; omega)
