theorem up_b {v u x : Int32} (hv : 0 ≤ v.toInt ∧ v.toInt ≤ 5000) (hu : 0 ≤ u.toInt ∧ u.toInt ≤ 5000) (hx : 0 ≤ x.toInt) : 0 ≤ (u + mn x (rm v u)).toInt ∧ (u + mn x (rm v u)).toInt ≤ 5000 ∧ (0 < v.toInt → 0 < x.toInt → 0 < (u + mn x (rm v u)).toInt) := by
  have h1 := rm_i hv hu
  have h2 := mn_i x (rm v u)
  have h3 : (u + mn x (rm v u)).toInt = u.toInt + (mn x (rm v u)).toInt := t_add (by omega) (by omega)
  omega
theorem gon_up (s : Row) (k c : Nat) (d : Int32) : gon s k d (KI c 3) = if c = ld s k ∧ ld s k ≠ k then s (KI c 3) + mn d (rm (s 0) (s (KI c 3))) else s (KI c 3) := by
  unfold gon ent
  by_cases h : ld s k = k
  · simp [h, upd_at, KI_lit2]
  · by_cases hc : c = ld s k
    · subst hc; simp [h, upd_at, KI_lit2]
    · simp [h, hc, upd_at, KI_lit2, KI_KI]
theorem skr_at (s : Row) (k c f : Nat) (h : f ≠ 4) (h8 : f ≠ 8) (h9 : f ≠ 9) (hf : f < 15) : skr s k (KI c f) = s (KI c f) := by
  unfold skr
  simp [upd_at, KI_KI, KI_lit2, hf, h, h8, h9]
theorem gon_own (s : Row) (k : Nat) (d : Int32) : gon s k d (KI k 3) = s (KI k 3) := by rw [gon_up, if_neg (fun h => h.2 h.1.symm)]
/-- own upper vessel: what drips does not come back -/
theorem aft_own3 (s : Row) (k : Nat) (d : Int32) : aft s k d (KI k 3) = s (KI k 3) := by
  unfold aft
  split
  · exact gon_own _ _ _
  · split
    · simp [ris, upd_at, KI_KI, KI_lit2]
    · split
      · rw [gon_own, skr_at _ _ _ _ (by decide) (by decide) (by decide) (by decide), uK_f _ (by decide) (by decide) (by decide)]
      · rw [uK_f _ (by decide) (by decide) (by decide)]
theorem aft_up {s : Row} {k c : Nat} {d : Int32} (h0 : 0 ≤ (s 0).toInt ∧ (s 0).toInt ≤ 5000) (hd : 0 ≤ d.toInt) (hl : 0 ≤ (s (KI k 4) + d).toInt) (hu : 0 ≤ (s (KI c 3)).toInt ∧ (s (KI c 3)).toInt ≤ 5000) : 0 ≤ (aft s k d (KI c 3)).toInt ∧ (aft s k d (KI c 3)).toInt ≤ 5000 := by
  have key : ∀ (s' : Row) (x : Int32), s' 0 = s 0 → s' (KI c 3) = s (KI c 3) → 0 ≤ x.toInt → 0 ≤ (gon s' k x (KI c 3)).toInt ∧ (gon s' k x (KI c 3)).toInt ≤ 5000 := by
    intro s' x e0 e3 hx
    rw [gon_up, e0, e3]
    split
    · exact ⟨(up_b h0 hu hx).1, (up_b h0 hu hx).2.1⟩
    · exact hu
  unfold aft
  split
  · exact key s d rfl rfl hd
  · split
    · unfold ris
      simp only [upd_at, KI_KI, KI_lit2, Nat.reduceLT, Nat.reduceEqDiff, and_false, if_false]
      exact hu
    · split
      · refine key _ _ ?_ ?_ hl
        · simp [skr, upd_at, KI_lit1]
        · rw [skr_at _ _ _ _ (by decide) (by decide) (by decide) (by decide)]
          simp [upd_at, KI_KI]
      · simp only [upd_at, KI_KI, Nat.reduceLT, Nat.reduceEqDiff, and_false, if_false]
        exact hu
theorem gon_out {s : Row} {k i : Nat} {d : Int32} (h3 : ∀ t, i ≠ KI t 3) (g8 : i ≠ 8) (g9 : i ≠ 9) (g12 : i ≠ 12) : gon s k d i = s i := by
  unfold gon ent
  split <;> simp [upd_at, h3, g8, g9, g12]
theorem aft_low {s : Row} {k : Nat} {d : Int32} (h0 : 0 ≤ (s 0).toInt ∧ (s 0).toInt ≤ 5000) (h1 : (s 1).toInt ≤ 900) (hd : 0 ≤ d.toInt ∧ d.toInt ≤ 5000) (hl : 0 ≤ (s (KI k 4)).toInt ∧ (s (KI k 4)).toInt ≤ 5000) : 0 ≤ (aft s k d (KI k 4)).toInt ∧ (aft s k d (KI k 4)).toInt ≤ 5000 := by
  have hs : (s (KI k 4) + d).toInt = (s (KI k 4)).toInt + d.toInt := t_add (by omega) (by omega)
  unfold aft
  split
  · rw [gon_out (by intro t; exact KI_ne_f (by decide) (by decide) (by decide)) (KI_sc (by decide)) (KI_sc (by decide)) (KI_sc (by decide))]
    exact hl
  · split
    · have e : ris s k d (KI k 4) = s (KI k 4) + mn d (rm (s 0) (s (KI k 4))) := by simp [ris, upd_at, KI_lit2]
      rw [e]
      exact ⟨(up_b h0 hl hd.1).1, (up_b h0 hl hd.1).2.1⟩
    · split
      · rw [gon_out (by intro t; exact KI_ne_f (by decide) (by decide) (by decide)) (KI_sc (by decide)) (KI_sc (by decide)) (KI_sc (by decide))]
        have e : skr (upd s (KI k 4) (s (KI k 4) + d)) k (KI k 4) = 0 := by simp [skr, upd_at, KI_KI, KI_lit2]
        rw [e]
        decide
      · rename_i h
        rw [t_le, hs] at h
        rw [upd_eq, hs]
        omega
theorem aft_sd {s : Row} {k : Nat} {d : Int32} {b : Int} (hb : b ≤ 200000) (h1 : 20 ≤ (s 1).toInt ∧ (s 1).toInt ≤ 900) (h9 : 0 ≤ (s (KI k 9)).toInt ∧ (s (KI k 9)).toInt ≤ 900 * b) : 0 ≤ (aft s k d (KI k 9)).toInt ∧ (aft s k d (KI k 9)).toInt ≤ 900 * (b + 1) := by
  have hb0 : 0 ≤ b := by omega
  unfold aft
  split
  · rw [gon_out (by intro t; exact KI_ne_f (by decide) (by decide) (by decide)) (KI_sc (by decide)) (KI_sc (by decide)) (KI_sc (by decide))]
    omega
  · split
    · have e : ris s k d (KI k 9) = s (KI k 9) := by simp [ris, upd_at, KI_KI, KI_lit2]
      rw [e]; omega
    · split
      · rw [gon_out (by intro t; exact KI_ne_f (by decide) (by decide) (by decide)) (KI_sc (by decide)) (KI_sc (by decide)) (KI_sc (by decide))]
        have e : skr (upd s (KI k 4) (s (KI k 4) + d)) k (KI k 9) = s (KI k 9) + s 1 := by simp [skr, upd_at, KI_KI, KI_lit1, KI_lit2]
        rw [e, t_add (by omega) (by omega)]
        omega
      · rw [uK_f _ (by decide) (by decide) (by decide)]; omega
theorem wr_out {s : Row} {k i : Nat} (h1 : i ≠ KI k 1) (h7 : i ≠ KI k 7) (h12 : i ≠ KI k 12) : wr s k i = s i := by
  unfold wr w3
  simp [upd_at, h1, h7, h12]
theorem wr_7 (s : Row) (k : Nat) : wr s k (KI k 7) = s (KI k 7) - qt (s (KI k 7)) (s 2) * s 2 := by
  unfold wr w3
  simp [upd_at, KI_KI]
theorem wr_1 (s : Row) (k : Nat) : wr s k (KI k 1) = s (KI k 1) + wg s k := by
  unfold wr w3
  simp [upd_at, KI_KI]
theorem wr_12 (s : Row) (k : Nat) : wr s k (KI k 12) = s (KI k 12) + wg s k := by
  unfold wr w3
  simp [upd_at]
/-- the wear of a hole, in whole numbers -/
theorem wr_i {s : Row} {k : Nat} (h2 : 50 ≤ (s 2).toInt ∧ (s 2).toInt ≤ 5000) (h7 : 0 ≤ (s (KI k 7)).toInt ∧ (s (KI k 7)).toInt ≤ 100000) (h1 : 1 ≤ (s (KI k 1)).toInt ∧ (s (KI k 1)).toInt ≤ 60) :
    (qt (s (KI k 7)) (s 2)).toInt = (s (KI k 7)).toInt / (s 2).toInt ∧ 0 ≤ (s (KI k 7)).toInt / (s 2).toInt ∧ (s (KI k 7)).toInt / (s 2).toInt ≤ 2000 ∧
    (wr s k (KI k 7)).toInt = (s (KI k 7)).toInt % (s 2).toInt ∧ (wg s k).toInt = min ((s (KI k 7)).toInt / (s 2).toInt) (60 - (s (KI k 1)).toInt) ∧ (wr s k (KI k 1)).toInt = (s (KI k 1)).toInt + (wg s k).toInt := by
  have hq := qt_toInt (x := s (KI k 7)) (y := s 2) (by omega)
  have hq0 : 0 ≤ (s (KI k 7)).toInt / (s 2).toInt := Int.ediv_nonneg h7.1 (by omega)
  have hm := Int.ediv_mul_le (s (KI k 7)).toInt (show (s 2).toInt ≠ 0 by omega)
  have he := Int.mul_ediv_add_emod (s (KI k 7)).toInt (s 2).toInt
  have hql : (s (KI k 7)).toInt / (s 2).toInt ≤ 2000 := by
    have : (s (KI k 7)).toInt / (s 2).toInt * 50 ≤ (s (KI k 7)).toInt / (s 2).toInt * (s 2).toInt := Int.mul_le_mul_of_nonneg_left h2.1 hq0
    omega
  have hqm : (qt (s (KI k 7)) (s 2) * s 2).toInt = (s (KI k 7)).toInt / (s 2).toInt * (s 2).toInt := by
    have : 0 ≤ (s (KI k 7)).toInt / (s 2).toInt * (s 2).toInt := Int.mul_nonneg hq0 (by omega)
    rw [t_mul (by rw [hq]; omega) (by rw [hq]; omega), hq]
  have hnn : 0 ≤ (s (KI k 7)).toInt / (s 2).toInt * (s 2).toInt := Int.mul_nonneg hq0 (by omega)
  have h60 : (60 - s (KI k 1)).toInt = 60 - (s (KI k 1)).toInt := by rw [t_sub (by rw [i_60]; omega) (by rw [i_60]; omega), i_60]
  have hg : (wg s k).toInt = min ((s (KI k 7)).toInt / (s 2).toInt) (60 - (s (KI k 1)).toInt) := by
    unfold wg
    rw [mn_i, hq, h60]
  refine ⟨hq, hq0, hql, ?_, hg, ?_⟩
  · rw [wr_7, t_sub (by rw [hqm]; omega) (by rw [hqm]; omega), hqm]
    rw [Int.mul_comm] at he
    omega
  · rw [wr_1, t_add (by omega) (by omega)]
