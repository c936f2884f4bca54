/-! THE LAW'S QUESTIONS: numbers -/
theorem count_x {w T : Int} {n : Nat} {X : XS} {N M : Nat → Nat → Int32} {g : Int32} (h : LQ w n T X N M g) :
    fX_count X 0 = some (X.1 0 6) ∧ fX_count X 1 = some (X.1 0 19) ∧ fX_count X 2 = some (ob (X.1 0) n) ∧ fX_count X 3 = some (eb (X.1 0) n) ∧ fX_count X 4 = some (X.1 0 14) ∧ fX_count X 5 = some (X.1 0 15) ∧ fX_count X 6 = some (M 0 16) ∧ fX_count X 7 = some (M 0 17) ∧
    fX_count X 8 = some (un (X.1 0)) ∧ fX_count X 9 = some (X.1 0 18) ∧ fX_count X 10 = some (M 0 95) ∧ fX_count X 13 = some (-1000001) ∧ ∀ i, i < 6 → fX_count X (20 + nI i) = some (X.1 0 i) := by
  have hir := h.2.2.1.1
  have hn := h.n5
  have h19 := h.s19
  have hs := h.2.2.1.2.2.1
  have hz := h.2.2.1.2.1
  have ht := h.2.2.1.2.2.2.1
  have hb := h.2.2.1.2.2.2.2
  have t10 : fS_together (X.1 0) (10 : Int32) = some (M 0 16) := by
    rw [show (10 : Int32) = nI 10 from rfl, together_is h19 hn (by decide), ht.1, ← sum5 hn (fun c h1 h2 => by rw [← hs.2 c 11 h2 (by decide)]; exact hz c 11 h1 h2 (by decide))]
    exact congrArg some (sm_congr n (fun c hc => hs.2 c 11 (by omega) (by decide)))
  have t7 : fS_together (X.1 0) (7 : Int32) = some (M 0 17) := by
    rw [show (7 : Int32) = nI 7 from rfl, together_is h19 hn (by decide), ht.2, ← sum5 hn (fun c h1 h2 => by rw [← hs.2 c 8 h2 (by decide)]; exact hz c 8 h1 h2 (by decide))]
    exact congrArg some (sm_congr n (fun c hc => hs.2 c 8 (by omega) (by decide)))
  have so : fS_clocksOff (X.1 0) = some (ob (X.1 0) n) := off_x hir n 0 fuel (by omega) (by unfold fuel; omega)
  have se : fS_clocksEmpty (X.1 0) = some (eb (X.1 0) n) := empty_x hir n 0 fuel (by omega) (by unfold fuel; omega)
  have su := untilNoon_is (σ := X.1 0) hir.2.1.2.2.2.1
  have sz := size_is hb.1.1
  refine ⟨rfl, rfl, ?_, ?_, rfl, rfl, ?_, ?_, ?_, rfl, ?_, rfl, fun i hi => ?_⟩
  · show (fS_clocksOff (X.1 0)).bind (fun q5 => some q5) = _
    rw [so]; rfl
  · show (fS_clocksEmpty (X.1 0)).bind (fun q5 => some q5) = _
    rw [se]; rfl
  · show (fS_together (X.1 0) 10).bind (fun q => some q) = _
    rw [t10]; rfl
  · show (fS_together (X.1 0) 7).bind (fun q => some q) = _
    rw [t7]; rfl
  · show (fS_untilNoon (X.1 0)).bind (fun q => some q) = _
    rw [su]; rfl
  · show (fB_size (X.1 0)).bind (fun q => some q) = _
    rw [sz, hb.2.1]; rfl
  · rcases (show i = 0 ∨ i = 1 ∨ i = 2 ∨ i = 3 ∨ i = 4 ∨ i = 5 by omega) with rfl | rfl | rfl | rfl | rfl | rfl <;> rfl
theorem sets_a {w T : Int} {n : Nat} {X : XS} {N M : Nat → Nat → Int32} {g : Int32} (h : LQ w n T X N M g) : ∀ (m c fu : Nat), c + m = 6 → m < fu → fL_areNumbers_L577 fu X N 1 (nI c) = some 1 := by
  obtain ⟨-, -, -, -, -, -, -, -, -, -, -, -, hc⟩ := count_x h
  intro m
  induction m with
  | zero =>
    intro c fu hc' hf
    obtain ⟨fu, rfl⟩ : ∃ q, fu = q + 1 := ⟨fu - 1, by omega⟩
    obtain rfl : c = 6 := by omega
    rw [fL_areNumbers_L577, if_pos (by decide), gd_b (by decide)]
  | succ m ih =>
    intro c fu hc' hf
    obtain ⟨fu, rfl⟩ : ∃ q, fu = q + 1 := ⟨fu - 1, by omega⟩
    rw [fL_areNumbers_L577, if_neg (show ¬ (6 : Int32) ≤ nI c by rw [show (6 : Int32) = nI 6 from rfl, nle (by omega) (by omega)]; omega), if_neg n10, hc c (by omega), sb, gd_b (inb_nI (by omega) (by decide)), cl_nI (by omega), h.l (show c < 12 by omega), if_pos rfl, ← nI_succ]
    exact ih (c + 1) fu (by omega) (by omega)
theorem lbx : ∀ a, a < 4 → inb ((1 : Int32) + ((6 : Int32) * nI a)) 25 = true ∧ ((1 : Int32) + ((6 : Int32) * nI a)).toNatClampNeg = 1 + 6 * a := by decide +kernel
theorem lbx2 : ∀ a, a < 4 → ∀ c, c < 5 → inb (((2 : Int32) + ((6 : Int32) * nI a)) + nI c) 25 = true ∧ (((2 : Int32) + ((6 : Int32) * nI a)) + nI c).toNatClampNeg = 2 + 6 * a + c := by decide +kernel
theorem noon_l {w T : Int} {n : Nat} {X : XS} {N M : Nat → Nat → Int32} {g : Int32} (h : LQ w n T X N M g) {a c : Nat} (ha : a < 5) (hc : c < 5) : ∃ r, fX_noon X (nI a) (nI c) = some r ∧ (if (N 3 0) ≤ nI a then some (-1000004 : Int32) else gd (inb ((1 : Int32) + ((6 : Int32) * nI a)) 25) ((if (N 3 (((1 : Int32) + ((6 : Int32) * nI a)).toNatClampNeg)) ≤ nI c then some (-1000004 : Int32) else gd (inb (((2 : Int32) + ((6 : Int32) * nI a)) + nI c) 25) (some ((N 3 ((((2 : Int32) + ((6 : Int32) * nI a)) + nI c).toNatClampNeg)) + (10000 : Int32)))))) = some r := by
  obtain ⟨r, r1, r2⟩ := noon_is h.rw (nI a) (nI c)
  refine ⟨r, r1, ?_⟩
  rw [← r2]
  have ta := t_lit a (by omega)
  have tc := t_lit c (by omega)
  have hb := h.2.2.1.2.2.2.2
  have eM : ∀ j, M 0 (95 + j) = N 3 j := fun j => by rw [h.2.1]; exact dec_b
  have e0 : N 3 0 = M 0 95 := (eM 0).symm
  have e95 := hb.2.1
  unfold fM_noon_
  rw [if_neg (show ¬ nI a < 0 by rw [t_lt, i_0]; omega), if_pos (show (0 : Int32) ≤ nI c by rw [t_le, i_0]; omega), e0]
  by_cases q : M 0 95 ≤ nI a
  · rw [if_pos q, if_pos q]
  · rw [if_neg q, if_neg q]
    have a4 : a < 4 := by
      rw [e95, nle (by omega) (by omega)] at q
      omega
    obtain ⟨u1, u2⟩ := lbx a a4
    obtain ⟨u3, u4⟩ := lbx2 a a4 c hc
    obtain ⟨v1, v2⟩ := bix a a4
    obtain ⟨v3, v4⟩ := bix2 a a4 c hc
    rw [gd_b u1, gd_b v1, u2, v2, gd_b u3, gd_b v3, u4, v4, ← eM, ← eM, show 95 + (1 + 6 * a) = 96 + 6 * a by omega, show 95 + (2 + 6 * a + c) = 97 + 6 * a + c by omega]
theorem book_c {w T : Int} {n : Nat} {X : XS} {N M : Nat → Nat → Int32} {g : Int32} (h : LQ w n T X N M g) (y5 y6 y7 : Int32) {a : Nat} (ha : a < 5) : ∀ (m c fu : Nat), c + m = 5 → m < fu → fL_areNumbers_L206 fu X N y5 y6 y7 1 (nI a) (nI c) = some 1 := by
  intro m
  induction m with
  | zero =>
    intro c fu hc' hf
    obtain ⟨fu, rfl⟩ : ∃ q, fu = q + 1 := ⟨fu - 1, by omega⟩
    obtain rfl : c = 5 := by omega
    rw [fL_areNumbers_L206, if_pos (by decide)]
  | succ m ih =>
    intro c fu hc' hf
    obtain ⟨fu, rfl⟩ : ∃ q, fu = q + 1 := ⟨fu - 1, by omega⟩
    obtain ⟨r, r1, r2⟩ := noon_l h ha (show c < 5 by omega)
    rw [fL_areNumbers_L206, if_neg (show ¬ (5 : Int32) ≤ nI c by rw [show (5 : Int32) = nI 5 from rfl, nle (by omega) (by omega)]; omega), if_neg n10, r1, sb, r2, sb, if_pos rfl, ← nI_succ]
    exact ih (c + 1) fu (by omega) (by omega)
theorem book_a {w T : Int} {n : Nat} {X : XS} {N M : Nat → Nat → Int32} {g : Int32} (h : LQ w n T X N M g) (hT : T ≤ 99999) : ∀ (m a fu : Nat), a + m = 5 → m < fu → fL_areNumbers_L192 fu X N (ob (X.1 0) n) (eb (X.1 0) n) (sm (fun c => ab (er (X.1 0) c)) n) 1 (nI a) = some 1 := by
  have hir := h.2.2.1.1
  have hs := h.2.2.1.2.2.1
  have h18 := h.a18
  intro m
  induction m with
  | zero =>
    intro a fu hc' hf
    obtain ⟨fu, rfl⟩ : ∃ q, fu = q + 1 := ⟨fu - 1, by omega⟩
    obtain rfl : a = 5 := by omega
    obtain ⟨c0, c1, c2, c3, c4, c5, c6, c7, c8, c9, c10, c13, -⟩ := count_x h
    have l6 := h.l (show 6 < 12 by decide)
    have l3 := h.l (show 3 < 12 by decide)
    have l13 : N 0 13 = X.1 0 14 := by rw [h.hi (by decide) (by decide)]; exact (hs.1 14 (by decide) (by decide) (by decide)).symm
    have l14 : N 0 14 = X.1 0 15 := by rw [h.hi (by decide) (by decide)]; exact (hs.1 15 (by decide) (by decide) (by decide)).symm
    have l15 : N 0 15 = M 0 16 := h.hi (by decide) (by decide)
    have l16 : N 0 16 = M 0 17 := h.hi (by decide) (by decide)
    have l17 : N 0 17 = X.1 0 18 := by rw [h.hi (by decide) (by decide)]; exact (hs.1 18 (by decide) (by decide) (by decide)).symm
    have l95 : N 3 0 = M 0 95 := by rw [h.2.1]; exact (dec_b (j := 0)).symm
    have hlo := hir.2.2.1
    have hho := hir.2.1.2.2.2.1
    have e12 := h12 (σ := X.1 0) hho
    have eu := un_i (σ := X.1 0) (by omega) hho
    have p0 := Int.emod_nonneg (X.1 0 6).toInt (show 12 * (X.1 0 3).toInt ≠ 0 by omega)
    have p1 := Int.emod_lt_of_pos (X.1 0 6).toInt (show 0 < 12 * (X.1 0 3).toInt by omega)
    have ea : (X.1 0 6 + un (X.1 0)).toInt = (X.1 0 6).toInt + (un (X.1 0)).toInt := t_add (by omega) (by omega)
    have er0 : X.1 0 6 + un (X.1 0) - (X.1 0 6 + un (X.1 0)) / (12 * X.1 0 3) * (12 * X.1 0 3) = 0 := by
      rw [t_eq, rem_i (by omega) (by omega), ea, e12, eu, i_0]
      have k := Int.mul_ediv_add_emod (X.1 0 6).toInt (12 * (X.1 0 3).toInt)
      generalize 12 * (X.1 0 3).toInt = P at *
      have e : (X.1 0 6).toInt + (P - (X.1 0 6).toInt % P) = P * ((X.1 0 6).toInt / P + 1) := by rw [Int.mul_add, Int.mul_one]; omega
      rw [e, Int.mul_emod_right]
    have u0 : ¬ un (X.1 0) ≤ 0 := by rw [t_le, i_0]; omega
    have u1 : ¬ 12 * X.1 0 3 < un (X.1 0) := by rw [t_lt, e12]; omega
    rw [fL_areNumbers_L192, if_pos (by decide), h18, wm_l h hT rfl, sb, if_neg n10, c0, sb, l6, if_pos rfl, c1, sb, h.s19, if_pos rfl, c2, sb, if_pos rfl, c3, sb, if_pos rfl, c4, sb, l13, if_pos rfl, c5, sb, l14, if_pos rfl, c6, sb, l15, if_pos rfl, c7, sb, l16, if_pos rfl, sb, if_neg n10, c8, sb, if_neg u0, sb, l3, if_neg u1, sb, gd_b (nz_pos (by omega)), er0, if_pos rfl, c9, sb, l17, if_pos rfl, c10, sb, l95, if_pos rfl, c13, sb, if_pos rfl]
    exact sets_a h 6 0 fuel (by omega) (by unfold fuel; omega)
  | succ m ih =>
    intro a fu hc' hf
    obtain ⟨fu, rfl⟩ : ∃ q, fu = q + 1 := ⟨fu - 1, by omega⟩
    have bc := book_c h (ob (X.1 0) n) (eb (X.1 0) n) (sm (fun c => ab (er (X.1 0) c)) n) (show a < 5 by omega) 5 0 fuel (by omega) (by unfold fuel; omega)
    rw [fL_areNumbers_L192, if_neg (show ¬ (5 : Int32) ≤ nI a by rw [show (5 : Int32) = nI 5 from rfl, nle (by omega) (by omega)]; omega), if_neg n10, show (0 : Int32) = nI 0 from rfl, bc, sb, ← nI_succ]
    exact ih (a + 1) fu (by omega) (by omega)
theorem areNumbers_L {w T : Int} {n : Nat} {X : XS} {N M : Nat → Nat → Int32} {g : Int32} (h : LQ w n T X N M g) (hT : T ≤ 99999) : ∀ (m c fu : Nat), c + m = n → m < fu → fL_areNumbers_L15 fu X N (ob (X.1 0) c) (eb (X.1 0) c) (sm (fun c => ab (er (X.1 0) c)) c) 1 (nI c) = some 1 := by
  have hn := h.n5
  have h18 := h.a18
  have hir := h.2.2.1.1
  intro m
  induction m with
  | zero =>
    intro c fu hc' hf
    obtain ⟨fu, rfl⟩ : ∃ q, fu = q + 1 := ⟨fu - 1, by omega⟩
    obtain rfl : c = n := by omega
    rw [fL_areNumbers_L15, h18, if_pos (by rw [nle (by omega) (by omega)]; omega)]
    exact book_a h hT 5 0 fuel (by omega) (by unfold fuel; omega)
  | succ m ih =>
    intro c fu hc' hf
    obtain ⟨fu, rfl⟩ : ∃ q, fu = q + 1 := ⟨fu - 1, by omega⟩
    have hk : c < n := by omega
    have k5 : c < 5 := by omega
    obtain ⟨ac, bc, -⟩ := ix0 c k5
    obtain ⟨d0, d1, d2, d3, -⟩ := h.d k5
    have rl := rank_l h (ob (X.1 0) c) (eb (X.1 0) c) (sm (fun c => ab (er (X.1 0) c)) c) 1 n 0 fuel c (by omega) (by unfold fuel; omega) hk
    have hw : fX_worst X (nI (rkN (szs (X.1 0)) c n)) = some (nI c) := by
      have := rkN_le (szs (X.1 0)) c n
      unfold fX_worst
      rw [if_pos (show (0 : Int32) ≤ nI (rkN (szs (X.1 0)) c n) by rw [t_le, i_0, t_lit _ (by omega)]; omega)]
      exact worst_x hir hk c 0 fuel (by omega) (by unfold fuel; omega)
    have go : ob (X.1 0) (c + 1) = ob (X.1 0) c ||| (if ab (er (X.1 0) c) ≤ X.1 0 4 then 0 else (1 : Int32) <<< (nI c &&& 31)) := rfl
    have ge : eb (X.1 0) (c + 1) = eb (X.1 0) c ||| (if X.1 0 (KI c 3) = 0 then (1 : Int32) <<< (nI c &&& 31) else 0) := rfl
    have gs : sm (fun c => ab (er (X.1 0) c)) (c + 1) = sm (fun c => ab (er (X.1 0) c)) c + ab (er (X.1 0) c) := rfl
    have gi := ih (c + 1) fu (by omega) (by omega)
    rw [go, ge, gs, nI_succ] at gi
    have ei : (if ab (er (X.1 0) c) ≤ X.1 0 4 then some (0 : Int32) else some ((1 : Int32) <<< (nI c &&& 31))) = some (if ab (er (X.1 0) c) ≤ X.1 0 4 then 0 else (1 : Int32) <<< (nI c &&& 31)) := by split <;> rfl
    rw [fL_areNumbers_L15, h18, if_neg (nI5 hk hn).2.1, show fL_areNumbers_L30 fuel X N (ob (X.1 0) c) (eb (X.1 0) c) (sm (fun c => ab (er (X.1 0) c)) c) 1 (nI c) 0 0 = some (nI (rkN (szs (X.1 0)) c n)) from rl, sb, if_neg n10, hw, sb, if_pos rfl, sb, h.offl hk, sb, sb, h.l (show 4 < 12 by decide), ei, sb, gd_b bc, ac, d3]
    by_cases q : X.1 0 (KI c 3) = 0
    · rw [if_pos q]; rw [if_pos q] at gi; exact gi
    · rw [if_neg q]; rw [if_neg q] at gi; exact gi
theorem areNumbers_l {w T : Int} {n : Nat} {X : XS} {N : Nat → Nat → Int32} (h : LW w n T X N) (hT : T ≤ 99999) : fL_areNumbers X N = some 1 := by
  obtain ⟨M, g, h⟩ := h
  exact areNumbers_L h hT n 0 fuel (by omega) (by have := h.n5; unfold fuel; omega)
