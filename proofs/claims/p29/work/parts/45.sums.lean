/-! ## sums -/
def sm (g : Nat → Int32) : Nat → Int32
  | 0 => 0
  | c + 1 => sm g c + g c
theorem sm_congr {g g' : Nat → Int32} : ∀ n, (∀ c, c < n → g c = g' c) → sm g n = sm g' n
  | 0, _ => rfl
  | n + 1, h => by
    show sm g n + g n = sm g' n + g' n
    rw [sm_congr n (fun c hc => h c (by omega)), h n (by omega)]
theorem sm_far {g : Nat → Int32} {n : Nat} : ∀ m, (∀ c, n ≤ c → c < n + m → g c = 0) → sm g (n + m) = sm g n
  | 0, _ => rfl
  | m + 1, h => by
    show sm g (n + m) + g (n + m) = sm g n
    rw [sm_far m (fun c h1 h2 => h c h1 (by omega)), h (n + m) (by omega) (by omega), Int32.add_zero]
theorem together_L {σ : Row} {n j : Nat} (h19 : σ 19 = nI n) (hn : n ≤ 5) (hj : j < 12) : ∀ (m c fu : Nat), c + m = n → m < fu → fS_together_L4 fu σ (nI j) (sm (fun c => fg σ c j) c) (nI c) = some (sm (fun c => fg σ c j) n) := by
  intro m
  induction m with
  | zero =>
    intro c fu hc hf
    obtain ⟨fu, rfl⟩ : ∃ q, fu = q + 1 := ⟨fu - 1, by omega⟩
    rw [fS_together_L4, if_pos (show σ 19 ≤ nI c by rw [h19, nle (by omega) (by omega)]; omega), show c = n by omega]
  | succ m ih =>
    intro c fu hc hf
    obtain ⟨fu, rfl⟩ : ∃ q, fu = q + 1 := ⟨fu - 1, by omega⟩
    obtain ⟨q1, q2, q3⟩ := nI5 (show c < n by omega) hn
    rw [fS_together_L4, if_neg (show ¬ σ 19 ≤ nI c by rw [h19]; exact q2), if_neg q3, inb_nI (by omega) (by decide), gd_t, cl_nI (by omega), figure_is hj, sb, ← nI_succ]
    exact ih (c + 1) fu (by omega) (by omega)
theorem together_is {σ : Row} {n j : Nat} (h19 : σ 19 = nI n) (hn : n ≤ 5) (hj : j < 12) : fS_together σ (nI j) = some (sm (fun c => fg σ c j) n) :=
  together_L h19 hn hj n 0 fuel (by omega) (by unfold fuel; omega)
theorem sum_L {M : Nat → Nat → Int32} {n f : Nat} (h19 : M 0 19 = nI n) (hn : n ≤ 5) (hf : f < 15) : ∀ (m c fu : Nat), c + m = n → m < fu → fM_sum_L4 fu M (nI f) (sm (fun c => M 0 (KI c f)) c) (nI c) = some (sm (fun c => M 0 (KI c f)) n) := by
  intro m
  induction m with
  | zero =>
    intro c fu hc hfu
    obtain ⟨fu, rfl⟩ : ∃ q, fu = q + 1 := ⟨fu - 1, by omega⟩
    rw [fM_sum_L4, if_pos (show M 0 19 ≤ nI c by rw [h19, nle (by omega) (by omega)]; omega), show c = n by omega]
  | succ m ih =>
    intro c fu hc hfu
    obtain ⟨fu, rfl⟩ : ∃ q, fu = q + 1 := ⟨fu - 1, by omega⟩
    obtain ⟨q1, q2, q3⟩ := nI5 (show c < n by omega) hn
    rw [fM_sum_L4, if_neg (show ¬ M 0 19 ≤ nI c by rw [h19]; exact q2), ofz (by omega) f hf, sb, ← nI_succ]
    exact ih (c + 1) fu (by omega) (by omega)
theorem sum_is {M : Nat → Nat → Int32} {n f : Nat} (h19 : M 0 19 = nI n) (hn : n ≤ 5) (hf : f < 15) : fM_sum M (nI f) = some (sm (fun c => M 0 (KI c f)) n) :=
  sum_L h19 hn hf n 0 fuel (by omega) (by unfold fuel; omega)
theorem water_is {w : Int} {X : XS} {M : Nat → Nat → Int32} (h : RW w (X.1 0) (M 0)) (x1 : Int32) : EQ2 (fX_water X x1) (fM_water M x1) := by
  obtain ⟨n, h, h6, hw⟩ := h
  obtain ⟨⟨⟨h19, hn⟩, hst, hlo, hcb⟩, hz, hs, ht, hb⟩ := id h
  have m19 : M 0 19 = nI n := by rw [← hs.1 19 (by decide) (by decide) (by decide)]; exact h19
  have t1 : fS_together (X.1 0) (1 : Int32) = some (sm (fun c => X.1 0 (KI c 3)) n) := together_is (j := 1) h19 hn (by decide)
  have t2 : fS_together (X.1 0) (2 : Int32) = some (sm (fun c => X.1 0 (KI c 4)) n) := together_is (j := 2) h19 hn (by decide)
  have s3 : fM_sum M (3 : Int32) = some (sm (fun c => X.1 0 (KI c 3)) n) := by rw [show (3 : Int32) = nI 3 from rfl, sum_is m19 hn (by decide)]; exact congrArg some (sm_congr n (fun c hc => (hs.2 c 3 (by omega) (by decide)).symm))
  have s4 : fM_sum M (4 : Int32) = some (sm (fun c => X.1 0 (KI c 4)) n) := by rw [show (4 : Int32) = nI 4 from rfl, sum_is m19 hn (by decide)]; exact congrArg some (sm_congr n (fun c hc => (hs.2 c 4 (by omega) (by decide)).symm))
  unfold fX_water fM_water fS_allWater
  rw [t1, t2, s3, s4, ← hs.1 7 (by decide) (by decide) (by decide), ← hs.1 8 (by decide) (by decide) (by decide), ← hs.1 9 (by decide) (by decide) (by decide), ← hs.1 10 (by decide) (by decide) (by decide), ← hs.1 11 (by decide) (by decide) (by decide), ← hs.1 12 (by decide) (by decide) (by decide), ← hs.1 13 (by decide) (by decide) (by decide)]
  rcases clk (n := 10) x1 with ⟨j, hj, rfl, hj2⟩ | hx
  · rcases (show j = 0 ∨ j = 1 ∨ j = 2 ∨ j = 3 ∨ j = 4 ∨ j = 5 ∨ j = 6 ∨ j = 7 ∨ j = 8 ∨ j = 9 by omega) with rfl | rfl | rfl | rfl | rfl | rfl | rfl | rfl | rfl | rfl
    · exact ⟨X.1 0 7, rfl, rfl⟩
    · exact ⟨sm (fun c => X.1 0 (KI c 3)) n, rfl, rfl⟩
    · exact ⟨sm (fun c => X.1 0 (KI c 4)) n, rfl, rfl⟩
    · exact ⟨X.1 0 8, rfl, rfl⟩
    · exact ⟨X.1 0 9, rfl, rfl⟩
    · exact ⟨X.1 0 7 + sm (fun c => X.1 0 (KI c 3)) n + sm (fun c => X.1 0 (KI c 4)) n + X.1 0 8 + X.1 0 9, rfl, rfl⟩
    · exact ⟨X.1 0 10, rfl, rfl⟩
    · exact ⟨X.1 0 11, rfl, rfl⟩
    · exact ⟨X.1 0 12 - sm (fun c => X.1 0 (KI c 3)) n, rfl, rfl⟩
    · exact ⟨X.1 0 13, rfl, rfl⟩
  · rw [if_pos (by omega), if_pos (by omega)]; exact ⟨_, rfl, rfl⟩
/-! ## the book read -/
theorem bix : ∀ a, a < 4 → inb ((96 : Int32) + (6 : Int32) * nI a) 120 = true ∧ ((96 : Int32) + (6 : Int32) * nI a).toNatClampNeg = 96 + 6 * a := by decide +kernel
theorem bix2 : ∀ a, a < 4 → ∀ c, c < 5 → inb (((96 : Int32) + (6 : Int32) * nI a) + 1 + nI c) 120 = true ∧ (((96 : Int32) + (6 : Int32) * nI a) + 1 + nI c).toNatClampNeg = 97 + 6 * a + c := by decide +kernel
theorem bix3 : ∀ p, p < 4 → ¬ (nI p < 0) ∧ ¬ (Int32.ofNat 4 ≤ nI p) := by decide +kernel
theorem bix4 : ∀ p, p < 4 → ∀ c, c < 5 → ¬ (nI p * 5 + nI c < 0) ∧ ¬ (Int32.ofNat 20 ≤ nI p * 5 + nI c) ∧ inb (nI p * 5 + nI c) 20 = true ∧ (nI p * 5 + nI c).toNatClampNeg = p * 5 + c := by decide +kernel
theorem size_is {σ : Row} (h : 0 ≤ (σ 14).toInt) : fB_size σ = some (nI (min (σ 14).toInt.toNat 4)) := by
  have hh := t_hi (σ 14)
  have i4 : (4 : Int32).toInt = 4 := rfl
  unfold fB_size fJ_min
  by_cases c : (4 : Int32) < σ 14
  · rw [if_pos c, sb]
    rw [t_lt, i4] at c
    rw [show min (σ 14).toInt.toNat 4 = 4 by omega]
    rfl
  · rw [if_neg c, sb]
    rw [t_lt, i4] at c
    rw [show min (σ 14).toInt.toNat 4 = (σ 14).toInt.toNat by omega, ← nI_back h]
theorem noon_is {w : Int} {X : XS} {M : Nat → Nat → Int32} (h : RW w (X.1 0) (M 0)) (x1 x2 : Int32) : EQ2 (fX_noon X x1 x2) (fM_noon_ M x1 x2) := by
  obtain ⟨n, h, h6, hw⟩ := h
  obtain ⟨⟨⟨h19, hn⟩, hst, hlo, hcb⟩, hz, hs, ht, ⟨hb1, hb2, hb3⟩⟩ := id h
  unfold fX_noon fM_noon_
  by_cases c1 : x1 < 0
  · rw [if_pos c1, if_pos c1]; exact ⟨_, rfl, rfl⟩
  rw [if_neg c1, if_neg c1]
  rw [t_lt, i_0] at c1
  by_cases c2 : 0 ≤ x2
  · rw [if_pos c2, if_pos c2]
    rw [t_le, i_0] at c2
    unfold fB_has fB_errorAt
    rw [size_is hb1.1, sb, hb2]
    have tm := t_lit (min (X.1 0 14).toInt.toNat 4) (by omega)
    by_cases c3 : nI (min (X.1 0 14).toInt.toNat 4) ≤ x1
    · rw [if_pos c3, if_pos c3, sb, if_pos rfl]; exact ⟨_, rfl, rfl⟩
    · rw [if_neg c3, if_neg c3]
      rw [t_le, tm] at c3
      rcases clk (n := 4) x1 with ⟨a, ha, rfl, ha2⟩ | hx
      · have ta := t_lit a (by omega)
        obtain ⟨m, m1, m2, m3, m4⟩ := hb3 a ha (by omega)
        have p4 : pl (X.1 0) a < 4 := Nat.mod_lt _ (by decide)
        obtain ⟨u1, u2⟩ := bix3 _ p4
        obtain ⟨v1, v2⟩ := bix a ha
        rw [place_is (by omega), sb]
        have el : fX_element 4 (fun q => X.1 0 (96 + q)) (nI (pl (X.1 0) a)) = some (nI m) := by
          unfold fX_element
          rw [if_neg u1, if_neg u2, inb_nI p4 (by decide), gd_t, cl_nI (by omega)]
          exact congrArg some m2
        rw [el, sb, v1, gd_t, v2, m3]
        by_cases c4 : nI m ≤ x2
        · rw [if_pos c4, if_pos c4, sb, if_pos rfl]; exact ⟨_, rfl, rfl⟩
        · rw [if_neg c4, if_neg c4, sb, if_neg n10, sb]
          rw [t_le, t_lit m (by omega)] at c4
          rcases clk (n := m) x2 with ⟨c, hc, rfl, hc2⟩ | hx
          · obtain ⟨w1, w2, w3, w4⟩ := bix4 _ p4 c (by omega)
            obtain ⟨y1, y2⟩ := bix2 a ha c (by omega)
            have el2 : fX_element 20 (fun q => X.1 0 (100 + q)) (nI (pl (X.1 0) a) * 5 + nI c) = some (M 0 (97 + 6 * a + c)) := by
              unfold fX_element
              rw [if_neg w1, if_neg w2, w3, gd_t, w4]
              exact congrArg some (m4 c hc)
            rw [el2, y1, gd_t, y2]
            exact ⟨_, rfl, rfl⟩
          · exact absurd ⟨c2, by omega⟩ hx
      · exact absurd ⟨by omega, by omega⟩ hx
  · rw [if_neg c2, if_neg c2]; exact ⟨_, rfl, rfl⟩
