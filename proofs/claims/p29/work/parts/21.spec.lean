/-! WHAT A ROW TELLS: the same words for class and reference -/
def qt (x y : Int32) : Int32 := Int32.ofInt (x.toInt / y.toInt)
theorem qt_toInt {x y : Int32} (hy : 1 ≤ y.toInt) : (qt x y).toInt = x.toInt / y.toInt := by
  unfold qt
  rw [Int32.toInt_ofInt]
  have h1 := t_lo x
  have h2 := t_hi x
  have h3 : (0 ≤ x.toInt / y.toInt ∧ x.toInt / y.toInt ≤ x.toInt) ∨ (x.toInt ≤ x.toInt / y.toInt ∧ x.toInt / y.toInt ≤ 0) := by
    rcases Int.le_total 0 x.toInt with h | h
    · exact Or.inl ⟨Int.ediv_nonneg h (by omega), Int.ediv_le_self y.toInt h⟩
    · refine Or.inr ⟨?_, by have q := Int.ediv_le_ediv (show 0 < y.toInt by omega) h; rw [Int.zero_ediv] at q; exact q⟩
      have b := Int.lt_ediv_add_one_mul_self x.toInt (show 0 < y.toInt by omega)
      by_cases c : x.toInt / y.toInt < x.toInt
      · exfalso
        have e1 : (x.toInt / y.toInt + 1) * y.toInt ≤ x.toInt * y.toInt := Int.mul_le_mul_of_nonneg_right (by omega) (by omega)
        have e2 : x.toInt * y.toInt ≤ x.toInt * 1 := Int.mul_le_mul_of_nonpos_left h (by omega)
        omega
      · omega
  exact bm_id (by omega) (by omega)
theorem xor_pos {x y : Int32} (hy : 0 ≤ y.toInt) : (0 ≤ (x ^^^ y)) ↔ 0 ≤ x.toInt := by
  rw [t_le]
  have key : ∀ z : Int32, (0 : Int32).toInt ≤ z.toInt ↔ z.toBitVec.msb = false := by
    intro z
    have : z.toBitVec.msb = decide (z.toBitVec.toInt < 0) := BitVec.msb_eq_toInt
    rw [this]
    show (0 : Int) ≤ z.toBitVec.toInt ↔ _
    simp
  have hy' : y.toBitVec.msb = false := (key y).mp hy
  rw [key, Int32.toBitVec_xor, BitVec.msb_xor, hy', Bool.xor_false, ← key]
  rfl
theorem tdiv_e {a b : Int} (hb : 1 ≤ b) : a.tdiv b = a / b + (if 0 ≤ a ∨ b ∣ a then 0 else 1) := by
  rw [Int.tdiv_eq_ediv]
  have : b.sign = 1 := Int.sign_eq_one_of_pos (by omega)
  rw [this]
theorem nz_pos {y : Int32} (hy : 1 ≤ y.toInt) : nz y = true := by
  unfold nz
  rw [decide_eq_true_eq, t_eq]
  show ¬ y.toInt = 0
  omega
theorem mul_dvd_self {a b : Int} (hb : 1 ≤ b) : a.tdiv b * b = a ↔ b ∣ a := by
  constructor
  · intro h
    exact ⟨a.tdiv b, by rw [Int.mul_comm]; exact h.symm⟩
  · intro h
    exact Int.tdiv_mul_cancel h
theorem tdiv_mul_lo {a b : Int} (hb : 1 ≤ b) : (0 ≤ a.tdiv b * b ∧ a.tdiv b * b ≤ a) ∨ (a ≤ a.tdiv b * b ∧ a.tdiv b * b ≤ 0) := by
  rw [tdiv_e hb]
  rcases Int.le_total 0 a with h | h
  · rw [if_pos (Or.inl h), Int.add_zero]
    exact Or.inl ⟨Int.mul_nonneg (Int.ediv_nonneg h (by omega)) (by omega), Int.ediv_mul_le a (by omega)⟩
  · by_cases hd : b ∣ a
    · rw [if_pos (Or.inr hd), Int.add_zero, Int.ediv_mul_cancel hd]
      exact Or.inr ⟨Int.le_refl _, h⟩
    · by_cases h0 : 0 ≤ a
      · exact absurd ⟨0, by omega⟩ hd
      · rw [if_neg (by intro q; rcases q with q | q <;> contradiction)]
        refine Or.inr ⟨Int.le_of_lt (Int.lt_ediv_add_one_mul_self a (by omega)), ?_⟩
        have : a / b + 1 ≤ 0 := by
          have := Int.ediv_neg_of_neg_of_pos (show a < 0 by omega) (show 0 < b by omega)
          omega
        exact Int.mul_nonpos_of_nonpos_of_nonneg this (by omega)
theorem t_div' {x y : Int32} (hy : 1 ≤ y.toInt) : (x / y).toInt = x.toInt.tdiv y.toInt := t_div (Or.inr (by omega))
theorem t_divmul {x y : Int32} (hy : 1 ≤ y.toInt) : (x / y * y).toInt = x.toInt.tdiv y.toInt * y.toInt := by
  have h1 := t_lo x
  have h2 := t_hi x
  have h3 := tdiv_mul_lo (a := x.toInt) hy
  rw [t_mul (by rw [t_div' hy]; omega) (by rw [t_div' hy]; omega), t_div' hy]
/-- the class's division, rounded down -/
theorem floorDiv_is {x y : Int32} (hy : 1 ≤ y.toInt) : fJ_floorDiv x y = some (qt x y) := by
  unfold fJ_floorDiv gd
  rw [nz_pos hy, if_pos rfl]
  have e := tdiv_e (a := x.toInt) hy
  have hb := xor_pos (x := x) (y := y) (by omega)
  have hm : (x / y * y = x) ↔ y.toInt ∣ x.toInt := by rw [t_eq, t_divmul hy]; exact mul_dvd_self hy
  have hlo := t_lo x
  have hr := tdiv_mul_lo (a := x.toInt) hy
  by_cases h0 : 0 ≤ x.toInt
  · rw [if_pos (hb.mpr h0)]
    congr 1
    rw [t_eq, t_div' hy, qt_toInt hy, e, if_pos (Or.inl h0), Int.add_zero]
  · rw [if_neg (fun q => h0 (hb.mp q))]
    by_cases hd : y.toInt ∣ x.toInt
    · rw [if_pos (hm.mpr hd)]
      congr 1
      rw [t_eq, t_div' hy, qt_toInt hy, e, if_pos (Or.inr hd), Int.add_zero]
    · rw [if_neg (fun q => hd (hm.mp q))]
      congr 1
      have hq : (x / y).toInt = x.toInt / y.toInt + 1 := by
        rw [t_div' hy, e, if_neg (by intro q; rcases q with q | q <;> contradiction)]
      have h1 : (1 : Int32).toInt = 1 := rfl
      have h2 := qt_toInt (x := x) hy
      have h3 := t_lo (qt x y)
      have h4 := t_hi (qt x y)
      rw [t_eq, t_sub (by rw [hq, h1]; omega) (by rw [hq, h1]; omega), hq, h1, h2]
      omega
theorem quotient_is {x y : Int32} (hy : 1 ≤ y.toInt) : fX_quotient x y = some (qt x y) := by
  unfold fX_quotient
  rw [if_pos (show (1 : Int32) ≤ y by rw [t_le]; exact hy), floorDiv_is hy]
  rfl
theorem floor_is {x y : Int32} (hy : 1 ≤ y.toInt) : fM_floor x y = some (qt x y) := by
  unfold fM_floor gd
  rw [nz_pos hy, if_pos rfl, if_pos rfl]
  have e := tdiv_e (a := x.toInt) hy
  have hlo := t_lo x
  have hhi := t_hi x
  have hr := tdiv_mul_lo (a := x.toInt) hy
  have hs : (x - x / y * y).toInt = x.toInt - x.toInt.tdiv y.toInt * y.toInt := by
    rw [t_sub (by rw [t_divmul hy]; omega) (by rw [t_divmul hy]; omega), t_divmul hy]
  have h1 : (1 : Int32).toInt = 1 := rfl
  have h2 := qt_toInt (x := x) hy
  have h3 := t_lo (qt x y)
  have h4 := t_hi (qt x y)
  by_cases h0 : 0 ≤ x.toInt ∨ y.toInt ∣ x.toInt
  · have hq : (x / y).toInt = x.toInt / y.toInt := by rw [t_div' hy, e, if_pos h0, Int.add_zero]
    have hc : 0 ≤ (x - x / y * y) := by
      rw [t_le, hs]
      show (0 : Int) ≤ _
      rcases h0 with h0 | h0
      · rcases hr with hr | hr <;> omega
      · have := (mul_dvd_self hy).mpr h0
        omega
    rw [if_pos hc]
    congr 1
    rw [t_eq, hq, h2]
  · have hq : (x / y).toInt = x.toInt / y.toInt + 1 := by rw [t_div' hy, e, if_neg h0]
    have hc : ¬ 0 ≤ (x - x / y * y) := by
      rw [t_le, hs]
      show ¬ (0 : Int) ≤ _
      have hne : x.toInt.tdiv y.toInt * y.toInt ≠ x.toInt := fun q => h0 (Or.inr ((mul_dvd_self hy).mp q))
      have hn : ¬ 0 ≤ x.toInt := fun q => h0 (Or.inl q)
      rcases hr with hr | hr <;> omega
    rw [if_neg hc]
    congr 1
    rw [t_eq, t_sub (by rw [hq, h1]; omega) (by rw [hq, h1]; omega), hq, h1, h2]
    omega
