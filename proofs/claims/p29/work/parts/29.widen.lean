theorem w3_7 (s : Row) (k : Nat) (r w x : Int32) : w3 s k r w x (KI k 7) = r := by simp [w3_at, KI_KI]
theorem w3_1 (s : Row) (k : Nat) (r w x : Int32) : w3 s k r w x (KI k 1) = w := by simp [w3_at, KI_KI]
theorem w3_12 (s : Row) (k : Nat) (r w x : Int32) : w3 s k r w x (KI k 12) = x := by simp [w3_at]
theorem w3_lit (s : Row) (k n : Nat) (r w x : Int32) (h : n < 20) : w3 s k r w x n = s n := by simp [w3_at, KI_lit1, h]
theorem mwiden_L (M : Nat → Nat → Int32) {k : Nat} (hk : k < 5) : ∀ (fu : Nat) (ρ : Row), 50 ≤ (ρ 2).toInt ∧ (ρ 2).toInt ≤ 5000 → 0 ≤ (ρ (KI k 7)).toInt ∧ (ρ (KI k 7)).toInt ≤ 100000 → 1 ≤ (ρ (KI k 1)).toInt ∧ (ρ (KI k 1)).toInt ≤ 60 → (ρ (KI k 7)).toInt / (ρ 2).toInt < (fu : Int) → fM_widen_L0 fu (mw M ρ) (nI k) = some (mw M (wr ρ k)) := by
  intro fu
  induction fu with
  | zero =>
    intro ρ h2 h7 h1 hf
    have := Int.ediv_nonneg h7.1 (show 0 ≤ (ρ 2).toInt by omega)
    omega
  | succ m ih =>
    intro ρ h2 h7 h1 hf
    obtain ⟨q0, q1, q2, q3, q4, q5⟩ := wr_i h2 h7 h1
    rw [fM_widen_L0, of_7 _ hk, sb, mw_0]
    by_cases c : ρ (KI k 7) < ρ 2
    · rw [if_pos c]
      rw [t_lt] at c
      have hz : (ρ (KI k 7)).toInt / (ρ 2).toInt = 0 := Int.ediv_eq_zero_of_lt h7.1 c
      have e1 : qt (ρ (KI k 7)) (ρ 2) = 0 := by rw [t_eq, q0, hz]; rfl
      have e2 : wg ρ k = 0 := by rw [t_eq, q4, hz, i_0]; omega
      have : wr ρ k = ρ := by
        unfold wr
        rw [e1, e2, Int32.zero_mul, Int32.sub_zero, Int32.add_zero, Int32.add_zero, w3_same]
      rw [this]
    · rw [if_neg c, add_7 _ _ hk, sb, mw_0, mw_mw, of_1 _ hk, sb, mw_0]
      rw [t_lt] at c
      have hw : upd ρ (KI k 7) (ρ (KI k 7) + -ρ 2) (KI k 1) = ρ (KI k 1) := uK_f _ (by decide) (by decide) (by decide)
      rw [hw, some_if, sb]
      generalize hby : (if (60 : Int32) ≤ ρ (KI k 1) then (0 : Int32) else 1) = y
      have hyi : y.toInt = if 60 ≤ (ρ (KI k 1)).toInt then 0 else 1 := by
        rw [← hby]
        by_cases c6 : (60 : Int32) ≤ ρ (KI k 1)
        · rw [if_pos c6]; rw [t_le, i_60] at c6; rw [if_pos c6]; rfl
        · rw [if_neg c6]; rw [t_le, i_60] at c6; rw [if_neg c6]; rfl
      rw [add_1 _ _ hk, sb, mw_0, mw_mw, add_12 _ _ hk, sb, mw_0, mw_mw]
      have er : upd (upd (upd ρ (KI k 7) (ρ (KI k 7) + -ρ 2)) (KI k 1) (upd ρ (KI k 7) (ρ (KI k 7) + -ρ 2) (KI k 1) + y)) (KI k 12) (upd (upd ρ (KI k 7) (ρ (KI k 7) + -ρ 2)) (KI k 1) (upd ρ (KI k 7) (ρ (KI k 7) + -ρ 2) (KI k 1) + y) (KI k 12) + y) = w3 ρ k (ρ (KI k 7) - ρ 2) (ρ (KI k 1) + y) (ρ (KI k 12) + y) := by
        unfold w3
        simp [upd_at, KI_KI, Int32.sub_eq_add_neg]
      rw [er]
      have r7 : (ρ (KI k 7) - ρ 2).toInt = (ρ (KI k 7)).toInt - (ρ 2).toInt := t_sub (by omega) (by omega)
      have r1 : (ρ (KI k 1) + y).toInt = (ρ (KI k 1)).toInt + y.toInt := t_add (by rw [hyi]; split <;> omega) (by rw [hyi]; split <;> omega)
      have hdv : ((ρ (KI k 7)).toInt - (ρ 2).toInt) / (ρ 2).toInt = (ρ (KI k 7)).toInt / (ρ 2).toInt - 1 := by
        rw [show (ρ (KI k 7)).toInt - (ρ 2).toInt = (ρ (KI k 7)).toInt + (-1) * (ρ 2).toInt by omega, Int.add_mul_ediv_right _ _ (by omega)]; omega
      have hmd : ((ρ (KI k 7)).toInt - (ρ 2).toInt) % (ρ 2).toInt = (ρ (KI k 7)).toInt % (ρ 2).toInt := by
        rw [show (ρ (KI k 7)).toInt - (ρ 2).toInt = (ρ (KI k 7)).toInt + (-1) * (ρ 2).toInt by omega, Int.add_mul_emod_self_right]
      have b2 : 50 ≤ (w3 ρ k (ρ (KI k 7) - ρ 2) (ρ (KI k 1) + y) (ρ (KI k 12) + y) 2).toInt ∧ (w3 ρ k (ρ (KI k 7) - ρ 2) (ρ (KI k 1) + y) (ρ (KI k 12) + y) 2).toInt ≤ 5000 := by rw [w3_lit _ _ _ _ _ _ (by decide)]; exact h2
      have b7 : 0 ≤ (w3 ρ k (ρ (KI k 7) - ρ 2) (ρ (KI k 1) + y) (ρ (KI k 12) + y) (KI k 7)).toInt ∧ (w3 ρ k (ρ (KI k 7) - ρ 2) (ρ (KI k 1) + y) (ρ (KI k 12) + y) (KI k 7)).toInt ≤ 100000 := by rw [w3_7, r7]; omega
      have b1 : 1 ≤ (w3 ρ k (ρ (KI k 7) - ρ 2) (ρ (KI k 1) + y) (ρ (KI k 12) + y) (KI k 1)).toInt ∧ (w3 ρ k (ρ (KI k 7) - ρ 2) (ρ (KI k 1) + y) (ρ (KI k 12) + y) (KI k 1)).toInt ≤ 60 := by rw [w3_1, r1, hyi]; split <;> omega
      rw [ih _ b2 b7 b1 (by rw [w3_7, w3_lit _ _ _ _ _ _ (by decide), r7, hdv]; omega)]
      obtain ⟨p0, p1, p2, p3, p4, p5⟩ := wr_i b2 b7 b1
      refine congrArg (fun z => some (mw M z)) ?_
      rw [w3_7, w3_lit _ _ _ _ _ _ (by decide), r7, hmd] at p3
      rw [w3_7, w3_lit _ _ _ _ _ _ (by decide), r7, hdv] at p1
      rw [w3_7, w3_lit _ _ _ _ _ _ (by decide), w3_1, r7, hdv, r1] at p4
      rw [w3_1, r1] at p5
      have g : y + wg (w3 ρ k (ρ (KI k 7) - ρ 2) (ρ (KI k 1) + y) (ρ (KI k 12) + y)) k = wg ρ k := by
        rw [t_eq, t_add (by rw [p4, hyi]; split <;> omega) (by rw [p4, hyi]; split <;> omega), p4, q4, hyi]
        split <;> omega
      have a7 : wr (w3 ρ k (ρ (KI k 7) - ρ 2) (ρ (KI k 1) + y) (ρ (KI k 12) + y)) k (KI k 7) = wr ρ k (KI k 7) := by rw [t_eq, p3, q3]
      have a1 : wr (w3 ρ k (ρ (KI k 7) - ρ 2) (ρ (KI k 1) + y) (ρ (KI k 12) + y)) k (KI k 1) = wr ρ k (KI k 1) := by
        rw [wr_1, wr_1, w3_1, Int32.add_assoc, g]
      have a12 : wr (w3 ρ k (ρ (KI k 7) - ρ 2) (ρ (KI k 1) + y) (ρ (KI k 12) + y)) k (KI k 12) = wr ρ k (KI k 12) := by
        rw [wr_12, wr_12, w3_12, Int32.add_assoc, g]
      funext i
      by_cases i12 : i = KI k 12
      · rw [i12, a12]
      · by_cases i1 : i = KI k 1
        · rw [i1, a1]
        · by_cases i7 : i = KI k 7
          · rw [i7, a7]
          · rw [wr_out i1 i7 i12, wr_out i1 i7 i12, w3_at, if_neg i12, if_neg i1, if_neg i7]
theorem mwiden_is (M : Nat → Nat → Int32) {k : Nat} (hk : k < 5) (ρ : Row) (h2 : 50 ≤ (ρ 2).toInt ∧ (ρ 2).toInt ≤ 5000) (h7 : 0 ≤ (ρ (KI k 7)).toInt ∧ (ρ (KI k 7)).toInt ≤ 10000) (h1 : 1 ≤ (ρ (KI k 1)).toInt ∧ (ρ (KI k 1)).toInt ≤ 60) : fM_widen (mw M ρ) (nI k) = some (mw M (wr ρ k)) := by
  unfold fM_widen
  refine mwiden_L M hk fuel ρ h2 ⟨h7.1, by omega⟩ h1 ?_
  have := (wr_i h2 ⟨h7.1, by omega⟩ h1).2.2.1
  have hm := Int.ediv_mul_le (ρ (KI k 7)).toInt (show (ρ 2).toInt ≠ 0 by omega)
  have q0 := Int.ediv_nonneg h7.1 (show 0 ≤ (ρ 2).toInt by omega)
  have : (ρ (KI k 7)).toInt / (ρ 2).toInt * 50 ≤ (ρ (KI k 7)).toInt / (ρ 2).toInt * (ρ 2).toInt := Int.mul_le_mul_of_nonneg_left h2.1 q0
  unfold fuel
  omega
