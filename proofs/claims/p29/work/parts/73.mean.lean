/-! ## the mean of the errors -/
theorem log_c {c : Nat} (h1 : 8388608 ≤ c) (h2 : c < 16777216) : c.log2 = 23 := (Nat.log2_eq_iff (by omega)).mpr ⟨Nat.le_trans (by decide) h1, Nat.lt_of_lt_of_le h2 (by decide)⟩
theorem lead_b (A B : Nat) : (A.log2 : Int) - B.log2 - 1 ≤ FP.Core.leading A B ∧ FP.Core.leading A B ≤ (A.log2 : Int) - B.log2 := by
  unfold FP.Core.leading
  dsimp only
  split <;> omega
theorem rr_norm {A B : Nat} {e l h : Int} (hA : 0 < A) (hB : 0 < B) (hl : l ≤ FP.Core.leading A B + e - 23) (hh : FP.Core.leading A B + e - 23 ≤ h) (h1 : -149 < l) (h2 : h ≤ 103) :
    ∃ c q, FP.Core.roundRatio FP.Core.b32 false A B e = .fin false c q ∧ (8388608 ≤ c ∧ c < 16777216) ∧ l ≤ q ∧ q ≤ h + 1 := by
  have hf := FP.Core.roundRatio_fits FP.Core.good_b32 false A hB e
  have hq : FP.Core.quantum FP.Core.b32 A B e = FP.Core.leading A B + e - 23 := by
    unfold FP.Core.quantum
    rw [f_qmin]
    show max (-149) (FP.Core.leading A B + e - (((24 : Nat) : Int) - 1)) = _
    omega
  have key : ∃ c q, FP.Core.roundRatio FP.Core.b32 false A B e = .fin false c q ∧ l ≤ q ∧ q ≤ h + 1 := by
    unfold FP.Core.roundRatio FP.Core.roundAt
    rw [if_neg (by omega), hq]
    generalize FP.Core.nearest _ _ = N
    unfold FP.Core.settle FP.Core.bound
    rw [f_qmax]
    split
    · rw [if_pos (by omega)]; exact ⟨_, _, rfl, by omega, by omega⟩
    · rw [if_pos (by omega)]; exact ⟨_, _, rfl, by omega, by omega⟩
  obtain ⟨c, q, k1, k2, k3⟩ := key
  rw [k1] at hf
  obtain ⟨f1, f2, f3, f4⟩ := f_of hf
  exact ⟨c, q, k1, ⟨by omega, f1⟩, k2, k3⟩
theorem i2f_v {a : Int32} (h1 : 1 ≤ a.toInt) (h2 : a.toInt ≤ 2000000000) : ∃ c q, FV (FP.i2f a) c q ∧ -24 ≤ q ∧ q ≤ 8 := by
  have k : FP.Core.val32 (FP.i2f a) = FP.Core.round FP.Core.b32 (FP.Core.ofInt a.toInt) := FP.Core.val32_i2f a
  have e : FP.Core.round FP.Core.b32 (FP.Core.ofInt a.toInt) = FP.Core.roundRatio FP.Core.b32 false a.toInt.natAbs 1 0 := by
    unfold FP.Core.ofInt
    rw [decide_eq_false (show ¬ a.toInt < 0 by omega)]
    rfl
  have b := lead_b a.toInt.natAbs 1
  have l1 : Nat.log2 1 = 0 := by decide
  have l2 : a.toInt.natAbs.log2 < 31 := (Nat.log2_lt (by omega)).mpr (Nat.lt_of_le_of_lt (show a.toInt.natAbs ≤ 2000000000 by omega) (by decide))
  rw [l1] at b
  obtain ⟨c, q, g1, g2, g3, g4⟩ := rr_norm (A := a.toInt.natAbs) (B := 1) (e := 0) (l := -24) (h := 7) (by omega) (by decide) (by omega) (by omega) (by decide) (by decide)
  exact ⟨c, q, ⟨k.trans (e.trans g1), g2, by omega, by omega⟩, g3, by omega⟩
theorem i2f_n {n : Nat} (h1 : 1 ≤ n) (h5 : n ≤ 5) : ∃ d r, FP.Core.val32 (FP.i2f (nI n)) = .fin false d r ∧ (8388608 ≤ d ∧ d < 16777216) ∧ -23 ≤ r ∧ r ≤ -21 := by
  rcases (show n = 1 ∨ n = 2 ∨ n = 3 ∨ n = 4 ∨ n = 5 by omega) with rfl | rfl | rfl | rfl | rfl
  · exact ⟨8388608, -23, by decide +kernel, by decide, by decide⟩
  · exact ⟨8388608, -22, by decide +kernel, by decide, by decide⟩
  · exact ⟨12582912, -22, by decide +kernel, by decide, by decide⟩
  · exact ⟨8388608, -21, by decide +kernel, by decide, by decide⟩
  · exact ⟨10485760, -21, by decide +kernel, by decide, by decide⟩
theorem div_v {a : Int32} {n : Nat} (h1 : 1 ≤ a.toInt) (h2 : a.toInt ≤ 2000000000) (hn1 : 1 ≤ n) (hn5 : n ≤ 5) : ∃ c q, FV (FP.fdiv (FP.i2f a) (FP.i2f (nI n))) c q ∧ -140 ≤ q ∧ q ≤ 100 := by
  obtain ⟨c, q, x1, x2, x3⟩ := i2f_v h1 h2
  obtain ⟨d, r, y1, y2, y3, y4⟩ := i2f_n hn1 hn5
  have k : FP.Core.val32 (FP.fdiv (FP.i2f a) (FP.i2f (nI n))) = FP.Core.quotient FP.Core.b32 (FP.Core.val32 (FP.i2f a)) (FP.Core.val32 (FP.i2f (nI n))) := FP.Core.val32_fdiv _ _
  rw [x1.1, y1] at k
  have e : FP.Core.quotient FP.Core.b32 (.fin false c q) (.fin false d r) = FP.Core.roundRatio FP.Core.b32 false c d (q - r) := by
    show (if d = 0 then (if c = 0 then FP.Core.Datum.nan else .inf (false != false)) else FP.Core.roundRatio FP.Core.b32 (false != false) c d (q - r)) = _
    rw [if_neg (by omega)]
    rfl
  have b := lead_b c d
  have hc := x1.2.1
  rw [log_c hc.1 hc.2, log_c y2.1 y2.2] at b
  obtain ⟨c', q', g1, g2, g3, g4⟩ := rr_norm (A := c) (B := d) (e := q - r) (l := -27) (h := 8) (by omega) (by omega) (by omega) (by omega) (by decide) (by decide)
  exact ⟨c', q', ⟨k.trans (e.trans g1), g2, by omega, by omega⟩, by omega, by omega⟩
theorem sums_L {σ : Row} {M : Nat → Nat → Int32} {n : Nat} {w : Int} (h : RR n σ (M 0)) (hw : WB σ n w) (hw5 : 5000 ≤ w) (hww : w ≤ 500000) : ∀ (m c fu1 fu2 : Nat) (y : Int32), c + m = n → m < fu1 → m < fu2 → 0 ≤ y.toInt → y.toInt ≤ 400000000 * c →
    ∃ s : Int32, (0 ≤ s.toInt ∧ s.toInt ≤ 400000000 * n) ∧ fS_errorsTogether_L4 fu1 σ y (nI c) = some s ∧ fM_mean_L17 fu2 M y (nI c) = gd (nN (FP.fdiv (FP.i2f s) (FP.i2f (nI n)))) ((fJ_floatToIntBits (FP.fdiv (FP.i2f s) (FP.i2f (nI n)))).bind fun q4 => some q4) := by
  have hn := h.1.1.2
  have m19 : M 0 19 = nI n := by rw [← h.2.2.1.1 19 (by decide) (by decide) (by decide)]; exact h.1.1.1
  intro m
  induction m with
  | zero =>
    intro c fu1 fu2 y hc hf1 hf2 hy1 hy2
    obtain ⟨fu1, rfl⟩ : ∃ q, fu1 = q + 1 := ⟨fu1 - 1, by omega⟩
    obtain ⟨fu2, rfl⟩ : ∃ q, fu2 = q + 1 := ⟨fu2 - 1, by omega⟩
    have e : c = n := by omega
    subst e
    refine ⟨y, ⟨hy1, hy2⟩, ?_, ?_⟩
    · rw [fS_errorsTogether_L4, if_pos (show σ 19 ≤ nI c by rw [h.1.1.1, nle (by omega) (by omega)]; omega)]
    · rw [fM_mean_L17, if_pos (show M 0 19 ≤ nI c by rw [m19, nle (by omega) (by omega)]; omega), m19]
  | succ m ih =>
    intro c fu1 fu2 y hc hf1 hf2 hy1 hy2
    obtain ⟨fu1, rfl⟩ : ∃ q, fu1 = q + 1 := ⟨fu1 - 1, by omega⟩
    obtain ⟨fu2, rfl⟩ : ∃ q, fu2 = q + 1 := ⟨fu2 - 1, by omega⟩
    have b2 := sz_i h.1 (show c < n by omega) (hw c (by omega)) hw5 hww
    have ea := t_add (a := y) (b := ab (er σ c)) (by omega) (by omega)
    obtain ⟨s, s1, s2, s3⟩ := ih (c + 1) fu1 fu2 (y + ab (er σ c)) (by omega) (by omega) (by omega) (by omega) (by omega)
    refine ⟨s, s1, ?_, ?_⟩
    · rw [fS_errorsTogether_L4, if_neg (show ¬ σ 19 ≤ nI c from fun q => by rw [h.1.1.1, nle (by omega) (by omega)] at q; omega), sizeOf_is h.1 (by omega), sb, ← nI_succ, s2]
    · rw [fM_mean_L17, if_neg (show ¬ M 0 19 ≤ nI c from fun q => by rw [m19, nle (by omega) (by omega)] at q; omega), merr h (by omega), sb, msize_is, sb, ← nI_succ, s3]
theorem zero_v {n : Nat} (h1 : 1 ≤ n) (h5 : n ≤ 5) : FP.fdiv (FP.i2f 0) (FP.i2f (nI n)) = 0 := by
  rcases (show n = 1 ∨ n = 2 ∨ n = 3 ∨ n = 4 ∨ n = 5 by omega) with rfl | rfl | rfl | rfl | rfl <;> decide +kernel
theorem mean_is {w : Int} {X : XS} {M : Nat → Nat → Int32} (hw5 : 5000 ≤ w) (hww : w ≤ 500000) (h : RW w (X.1 0) (M 0)) : EQ2 (fX_mean X) (fM_mean M) := by
  obtain ⟨n, h, h6, hw⟩ := h
  have hn := h.1.1.2
  have m19 : M 0 19 = nI n := by rw [← h.2.2.1.1 19 (by decide) (by decide) (by decide)]; exact h.1.1.1
  have tn := t_lit n (by omega)
  unfold fX_mean fM_mean
  rw [h.1.1.1, m19]
  by_cases c : n = 0
  · subst c
    rw [if_neg (by decide), if_pos (by decide)]
    exact ⟨_, rfl, rfl⟩
  · rw [if_pos (show (1 : Int32) ≤ nI n by rw [t_le, i_1]; omega), if_neg (show ¬ nI n = 0 by rw [t_eq, i_0]; omega)]
    obtain ⟨s, s1, s2, s3⟩ := sums_L h hw hw5 hww n 0 fuel fuel 0 (by omega) (by unfold fuel; omega) (by unfold fuel; omega) (by decide) (by decide)
    have s2' : fS_errorsTogether (X.1 0) = some s := s2
    have s3' : fM_mean_L17 fuel M 0 0 = gd (nN (FP.fdiv (FP.i2f s) (FP.i2f (nI n)))) ((fJ_floatToIntBits (FP.fdiv (FP.i2f s) (FP.i2f (nI n)))).bind fun q4 => some q4) := s3
    rw [s2', sb, s3']
    by_cases d : s.toInt = 0
    · have es : s = 0 := by rw [t_eq, i_0]; exact d
      rw [es, zero_v (by omega) (by omega)]
      have z1 : FP.Core.val32 0 ≠ .nan := by decide +kernel
      have z2 : fX_bitsOf 0 = some 0 := by
        unfold fX_bitsOf
        rw [if_neg (by decide +kernel)]
      rw [f_nN z1, gd_t, gd_t, z2, toBits_is z1]
      exact ⟨0, rfl, rfl⟩
    · obtain ⟨c', q, g1, g2, g3⟩ := div_v (a := s) (n := n) (by omega) (by omega) (by omega) (by omega)
      rw [f_nN g1.nn, gd_t, gd_t, bitsOf_is g1 g2 g3, toBits_is g1.nn]
      exact ⟨_, rfl, rfl⟩
