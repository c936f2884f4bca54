/-! THE LAW'S QUESTIONS: is it the mean? -/
theorem smod_n : ∀ s, s < 32 → ((nI s).toBitVec.smod 32).toNat = s := by decide +kernel
theorem shr_i {x : Int32} {s : Nat} (hs : s < 32) : (x >>> nI s).toInt = x.toInt / 2 ^ s := by
  show (x >>> nI s).toBitVec.toInt = x.toBitVec.toInt / 2 ^ s
  rw [Int32.toBitVec_shiftRight, BitVec.toInt_sshiftRight', smod_n s hs, Int.shiftRight_eq_div_pow]
  norm_cast
theorem shl_n {x s : Nat} (hs : s < 32) : nI x <<< nI s = nI (x * 2 ^ s) := by
  apply Int32.toBitVec_inj.mp
  rw [Int32.toBitVec_shiftLeft]
  apply BitVec.eq_of_toNat_eq
  rw [BitVec.shiftLeft_eq', BitVec.toNat_shiftLeft, smod_n s hs, Nat.shiftLeft_eq]
  show (x % 2 ^ 32) * 2 ^ s % 2 ^ 32 = (x * 2 ^ s) % 2 ^ 32
  exact Nat.mod_mul_mod x (2 ^ s) (2 ^ 32)
theorem nI_sub {a b : Nat} (h : b ≤ a) (ha : a < 2147483648) : nI a - nI b = nI (a - b) := by
  rw [t_eq, t_sub (by rw [t_lit a ha, t_lit b (by omega)]; omega) (by rw [t_lit a ha, t_lit b (by omega)]; omega), t_lit a ha, t_lit b (by omega), t_lit (a - b) (by omega)]
  omega
theorem mask_1 : ∀ c, c < 24 → ((nI c + (1 : Int32)) &&& 31) = nI (c + 1) ∧ (nI c &&& 31) = nI c ∧ (((23 : Int32) - nI c) &&& 31) = nI (23 - c) := by decide +kernel
theorem isMean_L {Q t : Nat} (ht : t < 24) (h1 : 2 ^ t ≤ Q) (h2 : Q < 2 ^ (t + 1)) (x : Int32) : ∀ (m c fu : Nat), c + m = t → m < fu → fL_isMean_L23 fu x (nI Q) (nI c) = if x = nI ((t + 125) * 8388608 + (Q - 2 ^ t) * 2 ^ (23 - t)) then some 1 else some 0 := by
  have hQ : Q < 16777216 := Nat.lt_of_lt_of_le h2 (Nat.pow_le_pow_right (by decide) (show t + 1 ≤ 24 by omega))
  have tQ := t_lit Q (by omega)
  intro m
  induction m with
  | zero =>
    intro c fu hc hf
    obtain ⟨fu, rfl⟩ : ∃ q, fu = q + 1 := ⟨fu - 1, by omega⟩
    obtain rfl : c = t := by omega
    obtain ⟨m1, m2, m3⟩ := mask_1 c ht
    have le : nI Q >>> nI (c + 1) ≤ 0 := by
      rw [t_le, shr_i (by omega), tQ, i_0]
      have : (Q : Int) / 2 ^ (c + 1) = ((Q / 2 ^ (c + 1) : Nat) : Int) := by norm_cast
      rw [this, Nat.div_eq_of_lt h2]
      exact Int.le_refl 0
    rw [fL_isMean_L23, m1, m2, m3, if_pos le, show (1 : Int32) <<< nI c = nI (1 * 2 ^ c) from shl_n (x := 1) (by omega), Nat.one_mul, nI_sub h1 (by omega), shl_n (by omega), show nI c + (125 : Int32) = nI (c + 125) from lix c 125, shl23 (c + 125) (by omega), lix]
  | succ m ih =>
    intro c fu hc hf
    obtain ⟨fu, rfl⟩ : ∃ q, fu = q + 1 := ⟨fu - 1, by omega⟩
    obtain ⟨m1, m2, m3⟩ := mask_1 c (by omega)
    have nle' : ¬ nI Q >>> nI (c + 1) ≤ 0 := by
      rw [t_le, shr_i (by omega), tQ, i_0]
      have : (Q : Int) / 2 ^ (c + 1) = ((Q / 2 ^ (c + 1) : Nat) : Int) := by norm_cast
      rw [this]
      have hp : 2 ^ (c + 1) ≤ Q := Nat.le_trans (Nat.pow_le_pow_right (by decide) (show c + 1 ≤ t by omega)) h1
      have := Nat.div_pos hp (Nat.two_pow_pos _)
      omega
    rw [fL_isMean_L23, m1, if_neg nle', ← nI_succ]
    exact ih (c + 1) fu (by omega) (by omega)
theorem i2f_x {a : Int32} {e t : Nat} (ha : a.toInt = e) (ht : t ≤ 23) (h1 : 2 ^ t ≤ e) (h2 : e < 2 ^ (t + 1)) : FV (FP.i2f a) (e * 2 ^ (23 - t)) ((t : Int) - 23) := by
  have k : FP.Core.val32 (FP.i2f a) = FP.Core.round FP.Core.b32 (FP.Core.ofInt a.toInt) := FP.Core.val32_i2f a
  have e' : FP.Core.round FP.Core.b32 (FP.Core.ofInt a.toInt) = FP.Core.roundRatio FP.Core.b32 false a.toInt.natAbs 1 0 := by
    unfold FP.Core.ofInt
    rw [decide_eq_false (show ¬ a.toInt < 0 by omega)]
    rfl
  have p1 : 2 ^ t * 2 ^ (23 - t) = 8388608 := by rw [← Nat.pow_add, show t + (23 - t) = 23 by omega]
  have p2 : 2 ^ (t + 1) * 2 ^ (23 - t) = 16777216 := by rw [← Nat.pow_add, show t + 1 + (23 - t) = 24 by omega]
  have b1 : 8388608 ≤ e * 2 ^ (23 - t) := by rw [← p1]; exact Nat.mul_le_mul_right _ h1
  have b2 : e * 2 ^ (23 - t) < 16777216 := by rw [← p2]; exact Nat.mul_lt_mul_of_pos_right h2 (Nat.two_pow_pos _)
  refine ⟨k.trans (e'.trans ?_), ⟨b1, b2⟩, by omega, by omega⟩
  refine FP.Core.roundRatio_exact FP.Core.good_b32 (by decide) (f_fits b1 b2 (by omega) (by omega)) ?_
  rw [show a.toInt.natAbs = e by omega, show (0 - ((t : Int) - 23)).toNat = 23 - t by omega, show ((t : Int) - 23 - 0).toNat = 0 by omega]
  simp
theorem i2f_2 : ∀ j : Nat, j < 3 → FP.Core.val32 (FP.i2f (nI (2 ^ j))) = .fin false 8388608 ((j : Int) - 23) := by decide +kernel
theorem div_x {a : Int32} {e t j : Nat} (ha : a.toInt = e) (ht : t ≤ 23) (h1 : 2 ^ t ≤ e) (h2 : e < 2 ^ (t + 1)) (hj : j < 3) : FV (FP.fdiv (FP.i2f a) (FP.i2f (nI (2 ^ j)))) (e * 2 ^ (23 - t)) ((t : Int) - 23 - j) := by
  obtain ⟨x1, x2, x3, x4⟩ := i2f_x ha ht h1 h2
  have k : FP.Core.val32 (FP.fdiv (FP.i2f a) (FP.i2f (nI (2 ^ j)))) = FP.Core.quotient FP.Core.b32 (FP.Core.val32 (FP.i2f a)) (FP.Core.val32 (FP.i2f (nI (2 ^ j)))) := FP.Core.val32_fdiv _ _
  rw [x1, i2f_2 j hj] at k
  generalize e * 2 ^ (23 - t) = c at *
  have e' : FP.Core.quotient FP.Core.b32 (.fin false c ((t : Int) - 23)) (.fin false 8388608 ((j : Int) - 23)) = FP.Core.roundRatio FP.Core.b32 false c 8388608 ((t : Int) - 23 - ((j : Int) - 23)) := by
    show (if (8388608 : Nat) = 0 then (if c = 0 then FP.Core.Datum.nan else .inf (false != false)) else FP.Core.roundRatio FP.Core.b32 (false != false) c 8388608 ((t : Int) - 23 - ((j : Int) - 23))) = _
    rw [if_neg (by decide)]
    rfl
  refine ⟨k.trans (e'.trans ?_), x2, by omega, by omega⟩
  refine FP.Core.roundRatio_exact FP.Core.good_b32 (by decide) (f_fits x2.1 x2.2 (by omega) (by omega)) ?_
  rw [show ((t : Int) - 23 - ((j : Int) - 23) - ((t : Int) - 23 - j)).toNat = 23 by omega, show ((t : Int) - 23 - j - ((t : Int) - 23 - ((j : Int) - 23))).toNat = 0 by omega]
  omega
theorem four_by : ∀ j : Nat, j < 3 → (4 : Int32) / nI (2 ^ j) = nI (2 ^ (2 - j)) ∧ nz (nI (2 ^ j)) = true := by decide +kernel
/-- the mean's bits, and what the law asks of them -/
theorem mean_l {X : XS} {s : Int32} {j : Nat} (hj : j < 3) (h19 : X.1 0 19 = nI (2 ^ j)) (hs : fS_errorsTogether (X.1 0) = some s) (h0 : 0 ≤ s.toInt) (hb : s.toInt < 4194304) : ∃ x, fX_mean X = some x ∧ fL_isMean x s (nI (2 ^ j)) = some 1 := by
  obtain ⟨f1, f2⟩ := four_by j hj
  have n1 : 1 ≤ 2 ^ j ∧ 2 ^ j ≤ 5 := by
    obtain rfl | rfl | rfl : j = 0 ∨ j = 1 ∨ j = 2 := by omega
    all_goals decide
  have m4 : 1 ≤ 2 ^ (2 - j) ∧ 2 ^ (2 - j) ≤ 4 := by
    obtain rfl | rfl | rfl : j = 0 ∨ j = 1 ∨ j = 2 := by omega
    all_goals decide
  have tn := t_lit (2 ^ j) (by omega)
  unfold fX_mean fL_isMean
  rw [h19, if_pos (show (1 : Int32) ≤ nI (2 ^ j) by rw [t_le, i_1]; omega), hs, sb, f1, f2]
  obtain ⟨e, he⟩ : ∃ e : Nat, s.toInt = e := ⟨s.toInt.toNat, by omega⟩
  have es : s = nI e := by rw [t_eq, t_lit e (by omega)]; exact he
  by_cases d : e = 0
  · have es0 : s = 0 := by rw [es, d]; rfl
    rw [es0, zero_v n1.1 n1.2]
    have z1 : FP.Core.val32 0 ≠ .nan := by decide +kernel
    have z2 : fX_bitsOf 0 = some 0 := by
      unfold fX_bitsOf
      rw [if_neg (by decide +kernel)]
    rw [f_nN z1, gd_t, z2, sb]
    exact ⟨0, rfl, by rw [gd_t, Int32.zero_mul, if_pos rfl, if_pos rfl]⟩
  · have e0 : e ≠ 0 := d
    obtain ⟨t, p1, p2⟩ : ∃ t, 2 ^ t ≤ e ∧ e < 2 ^ (t + 1) := ⟨e.log2, (Nat.log2_eq_iff e0).mp rfl⟩
    have t22 : t < 22 := by
      have : 2 ^ t < 2 ^ 22 := Nat.lt_of_le_of_lt p1 (by omega)
      exact (Nat.pow_lt_pow_iff_right (by decide)).mp this
    have fv := div_x he (show t ≤ 23 by omega) p1 p2 hj
    have q1 : fX_bitsOf (FP.fdiv (FP.i2f s) (FP.i2f (nI (2 ^ j)))) = some (nI (FP.fdiv (FP.i2f s) (FP.i2f (nI (2 ^ j)))).toNat) := bitsOf_is fv (by omega) (by omega)
    have q2 := fv.bits
    rw [f_nN fv.nn, gd_t, q1, sb]
    refine ⟨_, rfl, ?_⟩
    have eQ : ∀ m : Nat, 1 ≤ m → m ≤ 4 → s * nI m = nI (e * m) := fun m h1 h4 => by
      have hb' : e * m ≤ e * 4 := Nat.mul_le_mul_left _ h4
      have te := t_lit e (by omega)
      have tm := t_lit m (by omega)
      have ep : (nI e).toInt * (nI m).toInt = ((e * m : Nat) : Int) := by rw [te, tm, Int.natCast_mul]
      rw [es, t_eq, t_mul (by rw [ep]; omega) (by rw [ep]; omega), ep, t_lit _ (by omega)]
    have Q0 : ¬ nI (e * 2 ^ (2 - j)) = 0 := by
      have h1 : e * 1 ≤ e * 2 ^ (2 - j) := Nat.mul_le_mul_left _ m4.1
      have hb' : e * 2 ^ (2 - j) ≤ e * 4 := Nat.mul_le_mul_left _ m4.2
      rw [t_eq, t_lit _ (by omega), i_0]
      omega
    rw [gd_t, eQ _ m4.1 m4.2, if_neg Q0]
    have r1 : 2 ^ (t + (2 - j)) ≤ e * 2 ^ (2 - j) := by rw [Nat.pow_add]; exact Nat.mul_le_mul_right _ p1
    have r2 : e * 2 ^ (2 - j) < 2 ^ (t + (2 - j) + 1) := by rw [show t + (2 - j) + 1 = t + 1 + (2 - j) by omega, Nat.pow_add]; exact Nat.mul_lt_mul_of_pos_right p2 (Nat.two_pow_pos _)
    rw [show (0 : Int32) = nI 0 from rfl, isMean_L (t := t + (2 - j)) (by omega) r1 r2 _ (t + (2 - j)) 0 fuel (by omega) (by unfold fuel; omega), if_pos]
    rw [q2]
    refine congrArg nI ?_
    have s1 : ((t : Int) - 23 - j + 150).toNat = t + (2 - j) + 125 := by omega
    rw [s1, Nat.sub_mul, Nat.mul_assoc, ← Nat.pow_add, ← Nat.pow_add, show 2 - j + (23 - (t + (2 - j))) = 23 - t by omega, show t + (2 - j) + (23 - (t + (2 - j))) = 23 by omega]
