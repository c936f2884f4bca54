/-! A CLOCK'S TICK in the class: what it writes, what it reads, its bounds -/
theorem mn_i (a b : Int32) : (mn a b).toInt = min a.toInt b.toInt := by
  unfold mn
  split
  · rename_i h; rw [t_lt] at h; omega
  · rename_i h; rw [t_lt] at h; omega
theorem rm_i {v x : Int32} (h1 : 0 ≤ v.toInt ∧ v.toInt ≤ 5000) (h2 : 0 ≤ x.toInt ∧ x.toInt ≤ 5000) : (rm v x).toInt = max 0 (v.toInt - x.toInt) := by
  unfold rm
  split
  · rename_i h; rw [t_le] at h; show (0 : Int) = _; omega
  · rename_i h; rw [t_le] at h; rw [t_sub (by omega) (by omega)]; omega
theorem i_0 : (0 : Int32).toInt = 0 := rfl
theorem i_1 : (1 : Int32).toInt = 1 := rfl
theorem i_60 : (60 : Int32).toInt = 60 := rfl
theorem i_1000 : (1000 : Int32).toInt = 1000 := rfl
theorem nd_i {σ : Row} {k : Nat} (hw : 1 ≤ (σ (KI k 1)).toInt ∧ (σ (KI k 1)).toInt ≤ 60) (hu : 0 ≤ (σ (KI k 3)).toInt ∧ (σ (KI k 3)).toInt ≤ 5000) : 0 ≤ (nd σ k).toInt ∧ (nd σ k).toInt ≤ (σ (KI k 3)).toInt ∧ (nd σ k).toInt ≤ 360 ∧ (0 < (σ (KI k 3)).toInt → 0 < (nd σ k).toInt) := by
  unfold nd
  have hm : (σ (KI k 1) * σ (KI k 3)).toInt = (σ (KI k 1)).toInt * (σ (KI k 3)).toInt := by
    have a : (σ (KI k 1)).toInt * (σ (KI k 3)).toInt ≤ 60 * 5000 := Int.mul_le_mul hw.2 hu.2 hu.1 (by omega)
    have c : 0 ≤ (σ (KI k 1)).toInt * (σ (KI k 3)).toInt := Int.mul_nonneg (by omega) hu.1
    exact t_mul (by omega) (by omega)
  have a : (σ (KI k 1)).toInt * (σ (KI k 3)).toInt ≤ 60 * 5000 := Int.mul_le_mul hw.2 hu.2 hu.1 (by omega)
  have c : 0 ≤ (σ (KI k 1)).toInt * (σ (KI k 3)).toInt := Int.mul_nonneg (by omega) hu.1
  have hd : (σ (KI k 1) * σ (KI k 3) / 1000).toInt = (σ (KI k 1)).toInt * (σ (KI k 3)).toInt / 1000 := by
    rw [t_div' (by rw [i_1000]; omega), hm, i_1000, Int.tdiv_eq_ediv_of_nonneg c]
  have hs : (σ (KI k 1) + σ (KI k 1) * σ (KI k 3) / 1000).toInt = (σ (KI k 1)).toInt + (σ (KI k 1)).toInt * (σ (KI k 3)).toInt / 1000 := by
    rw [t_add (by rw [hd]; omega) (by rw [hd]; omega), hd]
  rw [mn_i, hs]
  omega
theorem upd_self (σ : Row) (i : Nat) : upd σ i (σ i) = σ := by
  funext j
  by_cases h : j = i
  · subst h; simp [upd]
  · simp [upd, h]
theorem ent_0 {σ : Row} {t : Nat} (h0 : 0 ≤ (σ 0).toInt ∧ (σ 0).toInt ≤ 5000) (hu : 0 ≤ (σ (KI t 3)).toInt ∧ (σ (KI t 3)).toInt ≤ 5000) : ent σ t 0 = σ := by
  have hz : mn 0 (rm (σ 0) (σ (KI t 3))) = 0 := by
    rw [t_eq, mn_i, rm_i h0 hu, i_0]; omega
  unfold ent
  rw [hz]
  simp only [Int32.add_zero, Int32.sub_zero, upd_self]
theorem gon_0 {σ : Row} {k : Nat} (h0 : 0 ≤ (σ 0).toInt ∧ (σ 0).toInt ≤ 5000) (hu : 0 ≤ (σ (KI (ld σ k) 3)).toInt ∧ (σ (KI (ld σ k) 3)).toInt ≤ 5000) : gon σ k 0 = σ := by
  unfold gon
  split
  · simp only [Int32.add_zero, upd_self]
  · exact ent_0 h0 hu
/-- what the drops' way writes -/
theorem aft_out {s : Row} {k i : Nat} {d : Int32} (h4 : i ≠ KI k 4) (h8 : i ≠ KI k 8) (h9 : i ≠ KI k 9) (h3 : ∀ t, i ≠ KI t 3) (g8 : i ≠ 8) (g9 : i ≠ 9) (g12 : i ≠ 12) (g13 : i ≠ 13) : aft s k d i = s i := by
  unfold aft gon ent ris skr
  repeat' split
  all_goals simp [upd_at, h4, h8, h9, h3, g8, g9, g12, g13]
theorem aft_congr {s s' : Row} {k i : Nat} {d : Int32} (h0 : s 0 = s' 0) (h1 : s 1 = s' 1) (g8 : s 8 = s' 8) (g9 : s 9 = s' 9) (g12 : s 12 = s' 12) (g13 : s 13 = s' 13) (hk : ∀ f, f < 15 → s (KI k f) = s' (KI k f)) (hu : ∀ t, t < 5 → s (KI t 3) = s' (KI t 3)) (hl : ld s k < 5) (hi : s i = s' i) : aft s k d i = aft s' k d i := by
  have e0 := hk 0 (by decide)
  have e3 := hk 3 (by decide)
  have e4 := hk 4 (by decide)
  have e5 := hk 5 (by decide)
  have e8 := hk 8 (by decide)
  have e9 := hk 9 (by decide)
  have el : ld s k = ld s' k := by unfold ld; rw [e5]
  have eu := hu _ hl
  rw [el] at eu
  unfold ld at *
  generalize ht : (s' (KI k 5)).toNatClampNeg = t at *
  by_cases c0 : s' (KI k 0) = 0 <;> by_cases c1 : s' (KI k 0) = 1 <;> by_cases c2 : s' 1 ≤ s' (KI k 4) + d <;> by_cases c3 : t = k <;>
    simp [aft, gon, ent, ris, skr, ld, upd_at, KI_KI, KI_lit1, KI_lit2, h0, h1, g8, g9, g12, g13, e0, e3, e4, e8, e9, el, eu, hi, ht, e5, c0, c1, c2, c3]
