/-! noons, class and reference -/
def nnP (σ : Row) : Prop := (σ 6).toInt % (12 * (σ 3).toInt) = 0
def un (σ : Row) : Int32 := 12 * σ 3 - (σ 6 - qt (σ 6) (12 * σ 3) * (12 * σ 3))
theorem i_12 : (12 : Int32).toInt = 12 := rfl
theorem h12 {σ : Row} (h3 : 1 ≤ (σ 3).toInt ∧ (σ 3).toInt ≤ 30) : (12 * σ 3).toInt = 12 * (σ 3).toInt := by
  rw [t_mul (by rw [i_12]; omega) (by rw [i_12]; omega), i_12]
theorem un_i {σ : Row} (h6 : 0 ≤ (σ 6).toInt ∧ (σ 6).toInt ≤ 300000) (h3 : 1 ≤ (σ 3).toInt ∧ (σ 3).toInt ≤ 30) : (un σ).toInt = 12 * (σ 3).toInt - (σ 6).toInt % (12 * (σ 3).toInt) := by
  have e := h12 h3
  have q := qt_toInt (x := σ 6) (y := 12 * σ 3) (by omega)
  rw [e] at q
  have q0 : 0 ≤ (σ 6).toInt / (12 * (σ 3).toInt) := Int.ediv_nonneg h6.1 (by omega)
  have hm := Int.ediv_mul_le (σ 6).toInt (show 12 * (σ 3).toInt ≠ 0 by omega)
  have hn : 0 ≤ (σ 6).toInt / (12 * (σ 3).toInt) * (12 * (σ 3).toInt) := Int.mul_nonneg q0 (by omega)
  have he := Int.mul_ediv_add_emod (σ 6).toInt (12 * (σ 3).toInt)
  have hl := Int.emod_lt_of_pos (σ 6).toInt (show 0 < 12 * (σ 3).toInt by omega)
  have hl0 := Int.emod_nonneg (σ 6).toInt (show 12 * (σ 3).toInt ≠ 0 by omega)
  have m1 : (qt (σ 6) (12 * σ 3) * (12 * σ 3)).toInt = (σ 6).toInt / (12 * (σ 3).toInt) * (12 * (σ 3).toInt) := by
    rw [t_mul (by rw [q, e]; omega) (by rw [q, e]; omega), q, e]
  have m2 : (σ 6 - qt (σ 6) (12 * σ 3) * (12 * σ 3)).toInt = (σ 6).toInt % (12 * (σ 3).toInt) := by
    rw [t_sub (by rw [m1]; omega) (by rw [m1]; omega), m1]
    rw [Int.mul_comm] at he
    omega
  unfold un
  rw [t_sub (by rw [m2, e]; omega) (by rw [m2, e]; omega), m2, e]
theorem untilNoon_is {σ : Row} (h3 : 1 ≤ (σ 3).toInt ∧ (σ 3).toInt ≤ 30) : fS_untilNoon σ = some (un σ) := by
  unfold fS_untilNoon fS_noonTicks un
  rw [sb, quotient_is (by rw [h12 h3]; omega), sb]
theorem isNoon_is {σ : Row} (h6 : 0 ≤ (σ 6).toInt ∧ (σ 6).toInt ≤ 300000) (h3 : 1 ≤ (σ 3).toInt ∧ (σ 3).toInt ≤ 30) : (nnP σ → fS_isNoon σ = some 1) ∧ (¬ nnP σ → fS_isNoon σ = some 0) := by
  have e := h12 h3
  have u := un_i h6 h3
  have k : un σ = 12 * σ 3 ↔ nnP σ := by
    unfold nnP
    rw [t_eq, u, e]; omega
  unfold fS_isNoon fS_noonTicks
  rw [untilNoon_is h3, sb, sb]
  exact ⟨fun h => if_pos (k.mpr h), fun h => if_neg (fun q => h (k.mp q))⟩
theorem dvd12 {a h : Int} (hh : 1 ≤ h) : a % (12 * h) = 0 ↔ a % h = 0 ∧ a / h % 12 = 0 := by
  constructor
  · intro q
    obtain ⟨k, hk⟩ := Int.dvd_of_emod_eq_zero q
    have e : a = 12 * k * h := by rw [hk]; ac_rfl
    subst e
    refine ⟨Int.mul_emod_left _ _, ?_⟩
    rw [Int.mul_ediv_cancel _ (by omega)]
    omega
  · rintro ⟨q1, q2⟩
    obtain ⟨k, hk⟩ := Int.dvd_of_emod_eq_zero q1
    rw [hk, Int.mul_ediv_cancel_left _ (by omega)] at q2
    obtain ⟨j, hj⟩ := Int.dvd_of_emod_eq_zero q2
    have e : a = 12 * h * j := by rw [hk, hj]; ac_rfl
    rw [e]
    exact Int.mul_emod_right _ _
theorem rem_i {x y : Int32} (hx : 0 ≤ x.toInt) (hy : 1 ≤ y.toInt) : (x - x / y * y).toInt = x.toInt % y.toInt := by
  have hd := t_divmul (x := x) hy
  rw [Int.tdiv_eq_ediv_of_nonneg hx] at hd
  have hm := Int.ediv_mul_le x.toInt (show y.toInt ≠ 0 by omega)
  have hn : 0 ≤ x.toInt / y.toInt * y.toInt := Int.mul_nonneg (Int.ediv_nonneg hx (by omega)) (by omega)
  have he := Int.mul_ediv_add_emod x.toInt y.toInt
  have hh := t_hi x
  rw [t_sub (by rw [hd]; omega) (by rw [hd]; omega), hd]
  rw [Int.mul_comm] at he
  omega
theorem th_i {σ : Row} (h6 : 0 ≤ (σ 6).toInt) (h3 : 1 ≤ (σ 3).toInt) : (th σ).toInt = (σ 6).toInt / (σ 3).toInt ∧ 0 ≤ (th σ).toInt ∧ (th σ).toInt ≤ (σ 6).toInt := by
  have q := qt_toInt (x := σ 6) (y := σ 3) h3
  have a := Int.ediv_nonneg h6 (show 0 ≤ (σ 3).toInt by omega)
  have b := Int.ediv_le_self (σ 3).toInt h6
  unfold th
  exact ⟨q, by omega, by omega⟩
theorem misNoon_is {M : Nat → Nat → Int32} (h6 : 0 ≤ (M 0 6).toInt) (h3 : 1 ≤ (M 0 3).toInt) : (nnP (M 0) → fM_isNoon M = some 1) ∧ (¬ nnP (M 0) → fM_isNoon M = some 0) := by
  have r1 := rem_i h6 h3
  have t := th_i (σ := M 0) h6 h3
  have r2 := rem_i (x := th (M 0)) (y := 12) t.2.1 (by decide)
  rw [i_12, t.1] at r2
  have d := dvd12 (a := (M 0 6).toInt) h3
  have z1 : (M 0 6 - M 0 6 / M 0 3 * M 0 3 = 0) ↔ (M 0 6).toInt % (M 0 3).toInt = 0 := by rw [t_eq, r1]; exact Iff.rfl
  have z2 : (th (M 0) - th (M 0) / 12 * 12 = 0) ↔ (M 0 6).toInt / (M 0 3).toInt % 12 = 0 := by rw [t_eq, r2]; exact Iff.rfl
  unfold fM_isNoon nnP
  rw [nz_pos h3, gd_t, mtrueHour_is h6 h3, sb, d]
  refine ⟨fun h => ?_, fun h => ?_⟩
  · rw [if_pos (z1.mpr h.1), if_pos (z2.mpr h.2)]
  · by_cases c : M 0 6 - M 0 6 / M 0 3 * M 0 3 = 0
    · rw [if_pos c, if_neg (fun q => h ⟨z1.mp c, z2.mp q⟩)]
    · rw [if_neg c]
/-! the reference's book -/
def shd (y : Nat) (ρ : Row) : Row := fun i => if 96 + y < i ∧ i < 120 then ρ (i - 6) else ρ i
theorem shd_step {y : Nat} (ρ : Row) (h : 6 ≤ y) (h2 : y < 24) : upd (shd y ρ) (96 + y) (shd y ρ (90 + y)) = shd (y - 1) ρ := by
  funext i
  unfold upd shd
  by_cases e : i = 96 + y
  · subst e
    rw [if_pos rfl, if_neg (by omega), if_pos (by omega)]
    congr 1; omega
  · rw [if_neg e]
    by_cases c : 96 + y < i ∧ i < 120
    · rw [if_pos c, if_pos (by omega)]
    · rw [if_neg c, if_neg (by omega)]
theorem bk_ix : ∀ y, y < 24 → 6 ≤ y → inb (((96 : Int32) + nI y) - (6 : Int32)) 120 = true ∧ inb ((96 : Int32) + nI y) 120 = true ∧ (((96 : Int32) + nI y) - (6 : Int32)).toNatClampNeg = 90 + y ∧ ((96 : Int32) + nI y).toNatClampNeg = 96 + y ∧ ¬ nI y < 6 ∧ nI y + (-1) = nI (y - 1) := by decide +kernel
theorem book_L3 (M : Nat → Nat → Int32) (ρ : Row) : ∀ (m : Nat), m ≤ 18 → ∀ fu, m < fu → fM_book_L3 fu (mw M (shd (5 + m) ρ)) (nI (5 + m)) = fM_book_L52 fuel (mw M (upd (shd 5 ρ) 96 (ρ 19))) 0 := by
  intro m
  induction m with
  | zero =>
    intro _ fu hf
    obtain ⟨fu', rfl⟩ : ∃ q, fu = q + 1 := ⟨fu - 1, by omega⟩
    rw [fM_book_L3, if_pos (by decide), lt_is, set0, mw_0, mw_mw]
    rfl
  | succ m ih =>
    intro hm fu hf
    obtain ⟨fu', rfl⟩ : ∃ q, fu = q + 1 := ⟨fu - 1, by omega⟩
    obtain ⟨a1, a2, a3, a4, a5, a6⟩ := bk_ix (5 + (m + 1)) (by omega) (by omega)
    rw [fM_book_L3, if_neg a5, a1, gd_t, a2, gd_t, lt_is, a3, a4, a6, set0, mw_0, mw_mw, shd_step ρ (by omega) (by omega)]
    exact ih (by omega) fu' (by omega)
/-- the errors of now at the book's first place -/
def bke (n : Nat) (ρ0 : Row) (c : Nat) (ρ : Row) : Row := fun i => if 97 ≤ i ∧ i < 97 + c then (if i - 97 < n then er ρ0 (i - 97) else 0) else ρ i
theorem bke_step (n : Nat) (ρ0 : Row) (c : Nat) (ρ : Row) : upd (bke n ρ0 c ρ) (97 + c) (if c < n then er ρ0 c else 0) = bke n ρ0 (c + 1) ρ := by
  funext i
  unfold upd bke
  by_cases e : i = 97 + c
  · subst e
    rw [if_pos rfl, if_pos (show 97 ≤ 97 + c ∧ 97 + c < 97 + (c + 1) by omega), show 97 + c - 97 = c by omega]
  · rw [if_neg e]
    by_cases q : 97 ≤ i ∧ i < 97 + c
    · rw [if_pos q, if_pos (show 97 ≤ i ∧ i < 97 + (c + 1) by omega)]
    · rw [if_neg q, if_neg (show ¬ (97 ≤ i ∧ i < 97 + (c + 1)) by omega)]
theorem bk_ix2 : ∀ c, c < 5 → inb ((97 : Int32) + nI c) 120 = true ∧ ((97 : Int32) + nI c).toNatClampNeg = 97 + c ∧ ¬ (5 : Int32) ≤ nI c := by decide +kernel
theorem book_L52 (M : Nat → Nat → Int32) {ρ0 ρ : Row} {n : Nat} (hn : n ≤ 5) (hr : ∀ i, i < 95 → ρ i = ρ0 i) (h19 : ρ0 19 = nI n) (h6 : 0 ≤ (ρ0 6).toInt) (h3 : 1 ≤ (ρ0 3).toInt) (hp : ∀ k, k < n → 1 ≤ (ρ0 (KI k 2)).toInt) : ∀ (m c : Nat), c + m = 5 → ∀ fu, m < fu → fM_book_L52 fu (mw M (bke n ρ0 c ρ)) (nI c) = some (mw M (upd (upd (bke n ρ0 5 ρ) 95 (ρ 95 + if 4 ≤ ρ 95 then 0 else 1)) 14 (ρ 14 + 1))) := by
  have lo : ∀ c i, i < 97 → bke n ρ0 c ρ i = ρ i := fun c i hi => by unfold bke; rw [if_neg (by omega)]
  intro m
  induction m with
  | zero =>
    intro c hc fu hf
    have e : c = 5 := by omega
    subst e
    obtain ⟨fu', rfl⟩ : ∃ q, fu = q + 1 := ⟨fu - 1, by omega⟩
    rw [fM_book_L52, if_pos (by decide), mw_0, lo _ _ (by decide), some_if, sb]
    simp only [lt_is, set0, mw_0, mw_mw]
    rw [upd_ne _ (by decide), lo _ _ (by decide)]
  | succ m ih =>
    intro c hc fu hf
    obtain ⟨fu', rfl⟩ : ∃ q, fu = q + 1 := ⟨fu - 1, by omega⟩
    obtain ⟨a1, a2, a3⟩ := bk_ix2 c (by omega)
    have nx := ih (c + 1) (by omega) fu' (by omega)
    rw [nI_succ] at nx
    have tc := t_lit c (by omega)
    have tn := t_lit n (by omega)
    rw [fM_book_L52, if_neg a3, mw_0, lo _ _ (by decide), hr 19 (by decide), h19]
    by_cases q : c < n
    · rw [if_neg (by rw [t_le, tc, tn]; omega), merror_is (by omega) (by rw [mw_0, lo _ _ (by have := KI_lt (c := c) (f := 2) (by omega) (by decide); omega), hr _ (KI_lt (by omega) (by decide))]; exact hp c q) (by rw [mw_0, lo _ _ (by decide), hr 6 (by decide)]; exact h6) (by rw [mw_0, lo _ _ (by decide), hr 3 (by decide)]; exact h3), sb, mw_0, a1, gd_t, a2, lt_is, set0, mw_0, mw_mw]
      have ee : er (bke n ρ0 c ρ) c = er ρ0 c := er_congr (by rw [lo _ _ (by decide), hr 6 (by decide)]) (by rw [lo _ _ (by decide), hr 3 (by decide)]) (fun f hf => by have := KI_lt (c := c) (f := f) (by omega) hf; rw [lo _ _ (by omega), hr _ this])
      have st := bke_step n ρ0 c ρ
      rw [if_pos q] at st
      rw [ee, st]; exact nx
    · rw [if_pos (by rw [t_le, tc, tn]; omega), a1, gd_t, a2, lt_is, set0, mw_0, mw_mw]
      have st := bke_step n ρ0 c ρ
      rw [if_neg q] at st
      rw [st]; exact nx
/-- the reference's row when the errors have come into the book -/
def bkR (n : Nat) (ρ : Row) : Row := upd (upd (bke n ρ 5 (upd (shd 5 ρ) 96 (ρ 19))) 95 (ρ 95 + if 4 ≤ ρ 95 then 0 else 1)) 14 (ρ 14 + 1)
theorem book_is {M : Nat → Nat → Int32} {n : Nat} (hn : n ≤ 5) (h19 : M 0 19 = nI n) (h6 : 0 ≤ (M 0 6).toInt) (h3 : 1 ≤ (M 0 3).toInt) (hp : ∀ k, k < n → 1 ≤ (M 0 (KI k 2)).toInt) : fM_book M = some (mw M (bkR n (M 0))) := by
  have sh : ∀ i, i < 96 → upd (shd 5 (M 0)) 96 (M 0 19) i = M 0 i := fun i hi => by rw [upd_ne _ (by omega)]; unfold shd; rw [if_neg (by omega)]
  have h1 := book_L3 M (M 0) 18 (by decide) fuel (by unfold fuel; omega)
  have e0 : shd 23 (M 0) = M 0 := by funext i; unfold shd; rw [if_neg (by omega)]
  rw [show 5 + 18 = 23 from rfl, e0, mw_self] at h1
  have h2 := book_L52 M (ρ0 := M 0) (ρ := upd (shd 5 (M 0)) 96 (M 0 19)) hn (fun i hi => sh i (by omega)) h19 h6 h3 hp 5 0 rfl fuel (by unfold fuel; omega)
  have e1 : bke n (M 0) 0 (upd (shd 5 (M 0)) 96 (M 0 19)) = upd (shd 5 (M 0)) 96 (M 0 19) := by funext i; unfold bke; rw [if_neg (by omega)]
  rw [e1, sh 95 (by decide), sh 14 (by decide)] at h2
  unfold fM_book bkR
  exact h1.trans h2
