/-! ## floats: halved and doubled, and their bits -/
theorem f_qmin : FP.Core.b32.qmin = -149 := by decide
theorem f_qmax : FP.Core.b32.qmax = 104 := by decide
theorem f_tails : FP.Core.b32.tails = 8388608 := by decide
theorem f_pp : 2 ^ FP.Core.b32.p = 16777216 := by decide
theorem f_fits {s : Bool} {c : Nat} {q : Int} (h1 : 8388608 ≤ c) (h2 : c < 16777216) (h3 : -149 ≤ q) (h4 : q ≤ 104) : FP.Core.fits FP.Core.b32 (.fin s c q) := by
  refine ⟨?_, ?_, ?_, Or.inr ?_⟩
  · rw [f_pp]; exact h2
  · rw [f_qmin]; exact h3
  · rw [f_qmax]; exact h4
  · rw [f_tails]; exact h1
theorem f_of {s : Bool} {c : Nat} {q : Int} (h : FP.Core.fits FP.Core.b32 (.fin s c q)) : c < 16777216 ∧ -149 ≤ q ∧ q ≤ 104 ∧ (q = -149 ∨ 8388608 ≤ c) := by
  obtain ⟨a, b, d, e⟩ := h
  rw [f_pp] at a
  rw [f_qmin] at b e
  rw [f_qmax] at d
  rw [f_tails] at e
  exact ⟨a, b, d, e⟩
/-- a float above 0, written out -/
def FV (x : UInt32) (c : Nat) (q : Int) : Prop := FP.Core.val32 x = .fin false c q ∧ (8388608 ≤ c ∧ c < 16777216) ∧ -149 ≤ q ∧ q ≤ 104
theorem FV.nn {x : UInt32} {c : Nat} {q : Int} (h : FV x c q) : FP.Core.val32 x ≠ .nan := by rw [h.1]; exact fun z => nomatch z
theorem f_nN {x : UInt32} (h : FP.Core.val32 x ≠ .nan) : nN x = true := by
  have a := (FP.Core.ne_nan32 x).mp h
  unfold nN
  rw [decide_eq_true_iff, UInt32.le_iff_toNat_le, UInt32.toNat_and]
  have e : x.toNat &&& 2147483647 = x.toNat % 2 ^ 31 := Nat.and_two_pow_sub_one_eq_mod x.toNat 31
  show x.toNat &&& 2147483647 ≤ 2139095040
  rw [e]; exact a
theorem FV.bits {x : UInt32} {c : Nat} {q : Int} (h : FV x c q) : x.toNat = (q + 150).toNat * 8388608 + (c - 8388608) := by
  obtain ⟨a, b, d⟩ := id h
  have e1 := FP.Core.of32_val32 h.nn
  rw [a] at e1
  have e2 := FP.Core.toNat_of32 (f_fits (s := false) b.1 b.2 d.1 d.2)
  rw [e1] at e2
  rw [e2]
  show (if c < FP.Core.b32.tails then FP.Core.assemble FP.Core.b32 false 0 c else FP.Core.assemble FP.Core.b32 false ((q - FP.Core.b32.qmin).toNat + 1) (c - FP.Core.b32.tails)) = _
  rw [if_neg (by rw [f_tails]; omega), f_qmin]
  unfold FP.Core.assemble
  rw [f_tails, show (q - -149).toNat + 1 = (q + 150).toNat by omega, Bool.toNat_false, Nat.zero_mul, Nat.zero_add]
theorem v_1 : FP.Core.val32 FP.fconst1 = .fin false 8388608 (-23) := by decide +kernel
theorem v_2 : FP.Core.val32 FP.fconst2 = .fin false 8388608 (-22) := by decide +kernel
theorem v_m : FP.Core.val32 (1258291200 : UInt32) = .fin false 8388608 0 := by decide +kernel
theorem half_is {x : UInt32} {c : Nat} {q : Int} (h : FV x c q) (hq : -148 ≤ q) : FV (FP.fdiv x FP.fconst2) c (q - 1) := by
  obtain ⟨a, b, d, e⟩ := h
  refine ⟨?_, b, by omega, by omega⟩
  have k := FP.Core.val32_fdiv x FP.fconst2
  rw [a, v_2] at k
  refine k.trans ?_
  show (if (8388608 : Nat) = 0 then (if c = 0 then FP.Core.Datum.nan else .inf (false != false)) else FP.Core.roundRatio FP.Core.b32 (false != false) c 8388608 (q - -22)) = _
  rw [if_neg (by decide)]
  refine FP.Core.roundRatio_exact FP.Core.good_b32 (by decide) (f_fits b.1 b.2 (by omega) (by omega)) ?_
  rw [show (q - -22 - (q - 1)).toNat = 23 by omega, show (q - 1 - (q - -22)).toNat = 0 by omega]
  omega
theorem double_is {x : UInt32} {c : Nat} {q : Int} (h : FV x c q) (hq : q ≤ 103) : FV (FP.fmul x FP.fconst2) c (q + 1) := by
  obtain ⟨a, b, d, e⟩ := h
  refine ⟨?_, b, by omega, by omega⟩
  have k := FP.Core.val32_fmul x FP.fconst2
  rw [a, v_2] at k
  refine k.trans ?_
  show FP.Core.roundRatio FP.Core.b32 (false != false) (c * 8388608) 1 (q + -22) = _
  refine FP.Core.roundRatio_exact FP.Core.good_b32 (by decide) (f_fits b.1 b.2 (by omega) (by omega)) ?_
  rw [show (q + -22 - (q + 1)).toNat = 0 by omega, show (q + 1 - (q + -22)).toNat = 23 by omega]
  omega
theorem f_cmp {x y : UInt32} {c d : Nat} {q r : Int} (hx : FP.Core.val32 x = .fin false c q) (hy : FP.Core.val32 y = .fin false d r) :
    FP.fcmp x y = some (if ((c * 2 ^ (q - min q r).toNat : Nat) : Int) < ((d * 2 ^ (r - min q r).toNat : Nat) : Int) then .lt else if ((c * 2 ^ (q - min q r).toNat : Nat) : Int) = ((d * 2 ^ (r - min q r).toNat : Nat) : Int) then .eq else .gt) := by
  rw [show FP.fcmp x y = FP.Core.order (FP.Core.val32 x) (FP.Core.val32 y) from rfl, hx, hy]
  rfl
/-- below a power of two, or not -/
theorem f_below {x y : UInt32} {c : Nat} {q r : Int} (hx : FV x c q) (hy : FP.Core.val32 y = .fin false 8388608 r) (h : q < r) (o : CmpOp) : Op.cmpValue (FP.fcmp x y) o = -1 := by
  have e : (c * 2 ^ (q - min q r).toNat : Nat) < 8388608 * 2 ^ (r - min q r).toNat := by
    rw [show (q - min q r).toNat = 0 by omega, show (r - min q r).toNat = ((r - q).toNat - 1) + 1 by omega, Nat.pow_succ]
    have := Nat.two_pow_pos ((r - q).toNat - 1)
    have := hx.2.1.2
    have m : 8388608 * 1 ≤ 8388608 * 2 ^ ((r - q).toNat - 1) := Nat.mul_le_mul_left _ (by omega)
    omega
  rw [f_cmp hx.1 hy, if_pos (by omega)]
  rfl
theorem f_not {x y : UInt32} {c : Nat} {q r : Int} (hx : FV x c q) (hy : FP.Core.val32 y = .fin false 8388608 r) (h : r ≤ q) (o : CmpOp) : Op.cmpValue (FP.fcmp x y) o = 0 ∨ Op.cmpValue (FP.fcmp x y) o = 1 := by
  have e : 8388608 * 2 ^ (r - min q r).toNat ≤ (c * 2 ^ (q - min q r).toNat : Nat) := by
    rw [show (r - min q r).toNat = 0 by omega]
    have := Nat.two_pow_pos (q - min q r).toNat
    have := hx.2.1.1
    have m : c * 1 ≤ c * 2 ^ (q - min q r).toNat := Nat.mul_le_mul_left _ (by omega)
    omega
  rw [f_cmp hx.1 hy, if_neg (by omega)]
  split
  · exact Or.inl rfl
  · exact Or.inr rfl
/-- what lies behind the leading digit -/
theorem tail_is {x : UInt32} {c : Nat} (h : FV x c (-23)) : nN (FP.fsub x FP.fconst1) = true ∧ nN (FP.fmul (FP.fsub x FP.fconst1) (1258291200 : UInt32)) = true ∧ FP.f2i (FP.fmul (FP.fsub x FP.fconst1) (1258291200 : UInt32)) = nI (c - 8388608) := by
  obtain ⟨a, b, d⟩ := h
  obtain ⟨T, hT⟩ : ∃ T, T = c - 8388608 := ⟨_, rfl⟩
  rw [← hT]
  have k := FP.Core.val32_fsub x FP.fconst1
  rw [a, v_1] at k
  have es : FP.Core.exactSum (.fin false c (-23)) (FP.Core.negate (.fin false 8388608 (-23))) = .fin false (T) (-23) := by
    have hV : FP.Core.sumUnits false c (-23) true 8388608 (-23) (min (-23) (-23)) = ((T : Nat) : Int) := by
      show ((c * 2 ^ 0 : Nat) : Int) + -((8388608 * 2 ^ 0 : Nat) : Int) = _
      omega
    show FP.Core.Datum.fin (FP.Core.sumSign false true (FP.Core.sumUnits false c (-23) true 8388608 (-23) (min (-23) (-23)))) (FP.Core.sumUnits false c (-23) true 8388608 (-23) (min (-23) (-23))).natAbs (min (-23) (-23)) = _
    rw [hV]
    have e1 : FP.Core.sumSign false true ((T : Nat) : Int) = false := by
      unfold FP.Core.sumSign
      split
      · rfl
      · exact decide_eq_false (by omega)
    rw [e1, Int.natAbs_natCast]
    rfl
  rw [es] at k
  obtain ⟨c', q', g1, g2⟩ := FP.Core.round_exact FP.Core.good_b32 false (c := T) (q := -23) (by rw [f_pp]; omega) (by rw [f_qmin]; decide) (by rw [f_qmax]; decide)
  rw [g1] at k
  have gf : FP.Core.fits FP.Core.b32 (.fin false c' q') := by rw [← g1]; exact FP.Core.round_fits FP.Core.good_b32 _
  obtain ⟨f1, f2, f3, -⟩ := f_of gf
  unfold FP.Core.inUnits at g2
  rw [f_qmin, show (-23 - -149 : Int).toNat = 126 from rfl] at g2
  have n1 : FP.Core.val32 (FP.fsub x FP.fconst1) ≠ .nan := by rw [k]; exact fun z => nomatch z
  have w0 : FP.Core.Whole ((T : Nat) : Int) (FP.Core.exactProduct (.fin false c' q') (.fin false 8388608 0)) := by
    show ((c' * 8388608 * 2 ^ (q' + 0).toNat : Nat) : Int) = ((T : Nat) : Int) * ((2 ^ (-(q' + 0)).toNat : Nat) : Int)
    have e : c' * 8388608 * 2 ^ (q' + 0).toNat = (T) * 2 ^ (-(q' + 0)).toNat := by
      refine Nat.eq_of_mul_eq_mul_right (Nat.two_pow_pos 126) ?_
      have x1 : c' * 8388608 * 2 ^ (q' + 0).toNat * 2 ^ 126 = c' * 2 ^ ((q' - -149).toNat + (-(q' + 0)).toNat) := by
        rw [show (q' - -149).toNat + (-(q' + 0)).toNat = 23 + (q' + 0).toNat + 126 by omega, Nat.pow_add, Nat.pow_add, show (8388608 : Nat) = 2 ^ 23 from rfl]
        simp only [Nat.mul_assoc]
      have x2 : (T) * 2 ^ (-(q' + 0)).toNat * 2 ^ 126 = (T) * 2 ^ 126 * 2 ^ (-(q' + 0)).toNat := Nat.mul_right_comm _ _ _
      rw [x1, x2, ← g2, Nat.pow_add, Nat.mul_assoc]
    rw [e]; exact Int.natCast_mul _ _
  have w1 : FP.Core.Whole ((T : Nat) : Int) (FP.Core.val32 (FP.fmul (FP.fsub x FP.fconst1) (1258291200 : UInt32))) := by
    rw [show FP.Core.val32 (FP.fmul (FP.fsub x FP.fconst1) (1258291200 : UInt32)) = FP.Core.round FP.Core.b32 (FP.Core.exactProduct (FP.Core.val32 (FP.fsub x FP.fconst1)) (FP.Core.val32 (1258291200 : UInt32))) from FP.Core.val32_fmul _ _, k, v_m]
    exact FP.Core.whole_round FP.Core.good_b32 FP.Core.wide_b32 (by rw [f_pp]; omega) w0
  refine ⟨f_nN n1, f_nN (fun z => by rw [z] at w1; exact w1), ?_⟩
  refine FP.Core.f2i_int (a := nI (T)) ?_
  rw [t_lit _ (by omega)]
  exact w1
theorem shl23 : ∀ E, E < 255 → nI E <<< ((23 : Int32) &&& 31) = nI (E * 8388608) := by decide +kernel
theorem end_is {x : UInt32} {c E fu : Nat} {y : Int32} (h : FV x c (-23)) (hy : y.toInt + 127 = E) (hE : E < 255) : fX_bitsOf_L34 (fu + 1) x y = some (nI (E * 8388608 + (c - 8388608))) := by
  obtain ⟨n1, n2, n3⟩ := tail_is h
  have hc := h.2.1
  have i127 : (127 : Int32).toInt = 127 := rfl
  have ey : y + 127 = nI E := by rw [t_eq, t_add (by omega) (by omega), t_lit E (by omega)]; omega
  have es : nI (E * 8388608) + nI (c - 8388608) = nI (E * 8388608 + (c - 8388608)) := by
    have a := t_lit (E * 8388608) (by omega)
    have b := t_lit (c - 8388608) (by omega)
    rw [t_eq, t_add (by omega) (by omega), t_lit (E * 8388608 + (c - 8388608)) (by omega)]; omega
  have hge : (0 : Int32) ≤ Op.cmpValue (FP.fcmp x FP.fconst1) .g := by
    rcases f_not h v_1 (Int.le_refl _) .g with e | e <;> rw [e] <;> decide
  rw [fX_bitsOf_L34, if_pos hge, n1, gd_t, n2, gd_t, n3, ey, shl23 E hE, es]
theorem down_is : ∀ (m fu E : Nat) (x : UInt32) (c : Nat) (q : Int) (y : Int32), FV x c q → q = -23 - m → y.toInt = (E : Int) + m - 127 → 1 ≤ E → E + m < 255 → m < fu → fX_bitsOf_L34 fu x y = some (nI (E * 8388608 + (c - 8388608))) := by
  intro m
  induction m with
  | zero =>
    intro fu E x c q y h hq hy h1 h2 hf
    obtain ⟨fu, rfl⟩ : ∃ g, fu = g + 1 := ⟨fu - 1, by omega⟩
    have : q = -23 := by omega
    subst this
    exact end_is h (by omega) (by omega)
  | succ m ih =>
    intro fu E x c q y h hq hy h1 h2 hf
    obtain ⟨fu, rfl⟩ : ∃ g, fu = g + 1 := ⟨fu - 1, by omega⟩
    have d := double_is h (by omega)
    have im1 : (-1 : Int32).toInt = -1 := rfl
    have im126 : (-126 : Int32).toInt = -126 := rfl
    rw [fX_bitsOf_L34, if_neg (show ¬ (0 : Int32) ≤ Op.cmpValue (FP.fcmp x FP.fconst1) .g by rw [f_below h v_1 (by omega)]; decide), if_neg (show ¬ y ≤ -126 by rw [t_le, im126]; omega), f_nN d.nn, gd_t]
    exact ih fu E _ c (q + 1) _ d (by omega) (by rw [t_add (by omega) (by omega), im1]; omega) h1 (by omega) (by omega)
theorem up_is : ∀ (m fu E : Nat) (x : UInt32) (c : Nat) (q : Int) (y : Int32), FV x c q → q = -23 + m → y.toInt = (E : Int) - m - 127 → 127 ≤ E → E < 254 → m < fu → fX_bitsOf_L12 fu x y = some (nI (E * 8388608 + (c - 8388608))) := by
  intro m
  induction m with
  | zero =>
    intro fu E x c q y h hq hy h1 h2 hf
    obtain ⟨fu, rfl⟩ : ∃ g, fu = g + 1 := ⟨fu - 1, by omega⟩
    rw [fX_bitsOf_L12, if_pos (show Op.cmpValue (FP.fcmp x FP.fconst2) .l < 0 by rw [f_below h v_2 (by omega)]; decide)]
    exact down_is 0 fuel E x c q y h (by omega) (by omega) (by omega) (by omega) (by unfold fuel; omega)
  | succ m ih =>
    intro fu E x c q y h hq hy h1 h2 hf
    obtain ⟨fu, rfl⟩ : ∃ g, fu = g + 1 := ⟨fu - 1, by omega⟩
    have d := half_is h (by omega)
    have hq4 := h.2.2
    have i127 : (127 : Int32).toInt = 127 := rfl
    have hn : ¬ Op.cmpValue (FP.fcmp x FP.fconst2) .l < 0 := by
      rcases f_not h v_2 (by omega) .l with e | e <;> rw [e] <;> decide
    rw [fX_bitsOf_L12, if_neg hn, if_neg (show ¬ (127 : Int32) ≤ y by rw [t_le, i127]; omega), f_nN d.nn, gd_t]
    exact ih fu E _ c (q - 1) _ d (by omega) (by rw [t_add (by rw [i_1]; omega) (by rw [i_1]; omega), i_1]; omega) h1 h2 (by omega)
theorem v_0 : FP.Core.val32 FP.fconst0 = .fin false 0 (-149) := by decide +kernel
/-- the class's bits of a float are its bits -/
theorem bitsOf_is {x : UInt32} {c : Nat} {q : Int} (h : FV x c q) (h1 : -140 ≤ q) (h2 : q ≤ 100) : fX_bitsOf x = some (nI x.toNat) := by
  have g : (0 : Int32) < Op.cmpValue (FP.fcmp x FP.fconst0) .g := by
    have hc := h.2.1.1
    have := Nat.two_pow_pos (q - min q (-149)).toNat
    have m : c * 1 ≤ c * 2 ^ (q - min q (-149)).toNat := Nat.mul_le_mul_left _ (by omega)
    rw [f_cmp h.1 v_0, Nat.zero_mul, if_neg (by omega), if_neg (by omega)]
    decide
  unfold fX_bitsOf
  rw [if_pos g, h.bits]
  by_cases d : -23 ≤ q
  · exact up_is (q + 23).toNat fuel (q + 150).toNat x c q 0 h (by omega) (by rw [i_0]; omega) (by omega) (by omega) (by unfold fuel; omega)
  · obtain ⟨F, hF⟩ : ∃ F, fuel = F + 1 := ⟨1999, rfl⟩
    rw [hF, fX_bitsOf_L12, if_pos (show Op.cmpValue (FP.fcmp x FP.fconst2) .l < 0 by rw [f_below h v_2 (by omega)]; decide)]
    exact down_is (-23 - q).toNat fuel (q + 150).toNat x c q 0 h (by omega) (by rw [i_0]; omega) (by omega) (by omega) (by unfold fuel; omega)
theorem f_i32 (x : UInt32) : x.toInt32 = nI x.toNat := by
  have e : (UInt32.ofNat x.toNat).toInt32 = nI x.toNat := rfl
  rw [UInt32.ofNat_toNat] at e
  exact e
theorem toBits_is {x : UInt32} (h : FP.Core.val32 x ≠ .nan) : fJ_floatToIntBits x = some (nI x.toNat) := by
  unfold fJ_floatToIntBits fJ_isNaN
  rw [show FP.fcmp x x = some .eq from FP.Core.fcmp_self h, if_pos (show Op.cmpValue (some .eq) .l = 0 from rfl), sb, if_pos rfl, f_i32]
