/-! THE LAW'S QUESTIONS: the water -/
theorem water_x {X : XS} {n : Nat} (h19 : X.1 0 19 = nI n) (hn : n ≤ 5) : fX_water X 0 = some (X.1 0 7) ∧ fX_water X 1 = some (sm (fun c => X.1 0 (KI c 3)) n) ∧ fX_water X 2 = some (sm (fun c => X.1 0 (KI c 4)) n) ∧ fX_water X 3 = some (X.1 0 8) ∧ fX_water X 4 = some (X.1 0 9) ∧
    fX_water X 5 = some (X.1 0 7 + sm (fun c => X.1 0 (KI c 3)) n + sm (fun c => X.1 0 (KI c 4)) n + X.1 0 8 + X.1 0 9) ∧ fX_water X 6 = some (X.1 0 10) ∧ fX_water X 7 = some (X.1 0 11) ∧ fX_water X 8 = some (X.1 0 12 - sm (fun c => X.1 0 (KI c 3)) n) ∧ fX_water X 9 = some (X.1 0 13) ∧ fX_water X 10 = some (-1000001) := by
  have t1 : fS_together (X.1 0) (1 : Int32) = some (sm (fun c => X.1 0 (KI c 3)) n) := together_is (j := 1) h19 hn (by decide)
  have t2 : fS_together (X.1 0) (2 : Int32) = some (sm (fun c => X.1 0 (KI c 4)) n) := together_is (j := 2) h19 hn (by decide)
  unfold fX_water fS_allWater
  rw [t1, t2]
  exact ⟨rfl, rfl, rfl, rfl, rfl, rfl, rfl, rfl, rfl, rfl, rfl⟩
theorem LQ.sum {w T : Int} {n : Nat} {X : XS} {N M : Nat → Nat → Int32} {g : Int32} (h : LQ w n T X N M g) (f : Nat) (hf : f < 15) : sm (fun c => X.1 0 (KI c f)) n = tot (X.1 0) f :=
  sum5 h.n5 (fun c h1 h2 => h.2.2.1.2.1 c f h1 h2 hf)
theorem isWater_L {w T : Int} {n : Nat} {X : XS} {N M : Nat → Nat → Int32} {g : Int32} (h : LQ w n T X N M g) : ∀ (m c fu : Nat), c + m = n → m < fu → fL_isWater_L8 fu X N (sm (fun c => X.1 0 (KI c 3)) c) (sm (fun c => X.1 0 (KI c 4)) c) (nI c) = some 1 := by
  have hn := h.n5
  have h18 := h.a18
  have h19 := h.s19
  intro m
  induction m with
  | zero =>
    intro c fu hc hf
    obtain ⟨fu, rfl⟩ : ∃ q, fu = q + 1 := ⟨fu - 1, by omega⟩
    obtain rfl : c = n := by omega
    obtain ⟨w0, w1, w2, w3, w4, w5, w6, w7, w8, w9, w10⟩ := water_x h19 hn
    have l7 := h.l (show 7 < 12 by decide)
    have l8 := h.l (show 8 < 12 by decide)
    have l9 := h.l (show 9 < 12 by decide)
    have l10 := h.l (show 10 < 12 by decide)
    have l11 := h.l (show 11 < 12 by decide)
    have l12 : N 0 12 = X.1 0 13 := by rw [h.hi (by decide) (by decide)]; exact (h.2.2.1.2.2.1.1 13 (by decide) (by decide) (by decide)).symm
    obtain ⟨c1, c2, c3⟩ := h.2.2.2.2.1.2.1
    have s3 := h.sum 3 (by decide)
    have s4 := h.sum 4 (by decide)
    have e20 : X.1 0 7 + tot (X.1 0) 3 + tot (X.1 0) 4 + X.1 0 8 + X.1 0 9 = 20000 := by unfold Wt at c2; rw [← c2]; grind
    have e11 : X.1 0 12 - tot (X.1 0) 3 = X.1 0 11 := c1
    rw [fL_isWater_L8, h18, if_pos (by rw [nle (by omega) (by omega)]; omega), w0, w1, w2, w3, w4, w5, w6, w7, w8, w9, w10, l7, l8, l9, l10, l11, l12, s3, s4, if_pos e20, e20, e11, ← c3]
    simp only [sb, if_true, if_neg n10]
  | succ m ih =>
    intro c fu hc hf
    obtain ⟨fu, rfl⟩ : ∃ q, fu = q + 1 := ⟨fu - 1, by omega⟩
    have k5 : c < 5 := by omega
    obtain ⟨ac, bc, -⟩ := ix0 c k5
    obtain ⟨a5, b5, -⟩ := ix5 c k5
    obtain ⟨d0, d1, d2, d3, d4, -⟩ := h.d k5
    rw [fL_isWater_L8, h18, if_neg (by rw [nle (by omega) (by omega)]; omega), gd_b bc, gd_b b5, ac, a5, d3, d4, ← nI_succ]
    exact ih (c + 1) fu (by omega) (by omega)
theorem isWater_l {w T : Int} {n : Nat} {X : XS} {N : Nat → Nat → Int32} (h : LW w n T X N) : fL_isWater X N = some 1 := by
  obtain ⟨M, g, h⟩ := h
  exact isWater_L h n 0 fuel (by omega) (by have := h.n5; unfold fuel; omega)
