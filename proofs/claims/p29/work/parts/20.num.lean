/-! NUMBERS: ints by their whole numbers; the places of a row -/
theorem t_lt (a b : Int32) : a < b ↔ a.toInt < b.toInt := Int32.lt_iff_toInt_lt
theorem t_le (a b : Int32) : a ≤ b ↔ a.toInt ≤ b.toInt := Int32.le_iff_toInt_le
theorem t_eq (a b : Int32) : a = b ↔ a.toInt = b.toInt := Int32.toInt_inj.symm
theorem t_lo (a : Int32) : -2147483648 ≤ a.toInt := Int32.le_toInt a
theorem t_hi (a : Int32) : a.toInt ≤ 2147483647 := by have := Int32.toInt_lt a; omega
theorem bm_id {x : Int} (h1 : -2147483648 ≤ x) (h2 : x ≤ 2147483647) : x.bmod (2 ^ 32) = x := by
  rw [Int.bmod_def]
  simp only [Nat.reducePow]
  split <;> omega
theorem t_add {a b : Int32} (h1 : -2147483648 ≤ a.toInt + b.toInt) (h2 : a.toInt + b.toInt ≤ 2147483647) : (a + b).toInt = a.toInt + b.toInt := by
  rw [Int32.toInt_add]; exact bm_id h1 h2
theorem t_sub {a b : Int32} (h1 : -2147483648 ≤ a.toInt - b.toInt) (h2 : a.toInt - b.toInt ≤ 2147483647) : (a - b).toInt = a.toInt - b.toInt := by
  rw [Int32.toInt_sub]; exact bm_id h1 h2
theorem t_mul {a b : Int32} (h1 : -2147483648 ≤ a.toInt * b.toInt) (h2 : a.toInt * b.toInt ≤ 2147483647) : (a * b).toInt = a.toInt * b.toInt := by
  rw [Int32.toInt_mul]; exact bm_id h1 h2
theorem t_neg {a : Int32} (h : -2147483648 < a.toInt) : (-a).toInt = -a.toInt := by
  rw [Int32.toInt_neg]
  have := t_hi a
  exact bm_id (by omega) (by omega)
theorem t_div {a b : Int32} (h : -2147483648 < a.toInt ∨ b.toInt ≠ -1) : (a / b).toInt = a.toInt.tdiv b.toInt := by
  rw [Int32.toInt_div]
  have h1 := t_lo a
  have h2 := t_hi a
  have h3 := t_lo b
  have h4 := t_hi b
  have hb : (a.toInt.tdiv b.toInt).natAbs ≤ a.toInt.natAbs := Int.natAbs_tdiv_le_natAbs _ _
  by_cases e : a.toInt = -2147483648
  · have hb1 : b.toInt ≠ -1 := by rcases h with h | h <;> omega
    by_cases e0 : b.toInt = 0
    · rw [e0]; simp
    · by_cases e1 : b.toInt = 1
      · rw [e1, e]; decide
      · have hlt : (a.toInt.tdiv b.toInt).natAbs < 2147483648 := by
          rw [Int.natAbs_tdiv]
          have : a.toInt.natAbs = 2147483648 := by omega
          rw [this]
          exact Nat.div_lt_self (by decide) (by omega)
        exact bm_id (by omega) (by omega)
  · exact bm_id (by omega) (by omega)
theorem t_lit (n : Nat) (h : n < 2147483648) : (nI n).toInt = (n : Int) := nI_toInt (by simpa using h)
theorem cl_def (i : Int32) : i.toNatClampNeg = i.toInt.toNat := rfl
/-- an int in a range is a number -/
theorem nI_back {x : Int32} (h : 0 ≤ x.toInt) : x = nI x.toInt.toNat := by
  have h2 := t_hi x
  rw [t_eq, t_lit _ (by omega)]
  omega
theorem inb_nI {k n : Nat} (h : k < n) (hn : n < 2147483648) : inb (nI k) n = true := by
  unfold inb
  rw [t_lit _ (by omega)]
  simp; omega
theorem cl_nI {k : Nat} (h : k < 2147483648) : (nI k).toNatClampNeg = k := by
  rw [cl_def, t_lit _ h]; simp
theorem inb_iff (i : Int32) (n : Nat) : inb i n = true ↔ 0 ≤ i.toInt ∧ i.toInt < (n : Int) := by
  unfold inb; simp
/-! a row's places -/
theorem upd_at (f : Nat → Int32) (k : Nat) (x : Int32) (j : Nat) : upd f k x j = if j = k then x else f j := rfl
theorem upd_eq (f : Nat → Int32) (k : Nat) (x : Int32) : upd f k x k = x := by simp [upd]
theorem upd_ne {f : Nat → Int32} {k j : Nat} (x : Int32) (h : j ≠ k) : upd f k x j = f j := by simp [upd, h]
theorem KI_eq_iff {c k f g : Nat} (hf : f < 15) (hg : g < 15) : KI c f = KI k g ↔ c = k ∧ f = g := by unfold KI; omega
theorem KI_ne_f {c k f g : Nat} (h : f ≠ g) (hf : f < 15) (hg : g < 15) : KI c f ≠ KI k g := by unfold KI; omega
theorem KI_same (c k f : Nat) : KI c f = KI k f ↔ c = k := by unfold KI; omega
theorem KI_sc {c f n : Nat} (h : n < 20) : KI c f ≠ n := by unfold KI; omega
theorem sc_KI {c f n : Nat} (h : n < 20) : n ≠ KI c f := by unfold KI; omega
theorem KI_hi {c f n : Nat} (hc : c < 5) (hf : f < 15) (h : 95 ≤ n) : KI c f ≠ n := by unfold KI; omega
theorem hi_KI {c f n : Nat} (hc : c < 5) (hf : f < 15) (h : 95 ≤ n) : n ≠ KI c f := by unfold KI; omega
/-- the places of clocks, read back -/
theorem uK_f {σ : Nat → Int32} {c k f g : Nat} (v : Int32) (h : f ≠ g) (hf : f < 15) (hg : g < 15) : upd σ (KI k g) v (KI c f) = σ (KI c f) := upd_ne v (KI_ne_f h hf hg)
theorem uK_c {σ : Nat → Int32} {c k f g : Nat} (v : Int32) (h : c ≠ k) (hf : f < 15) (hg : g < 15) : upd σ (KI k g) v (KI c f) = σ (KI c f) := upd_ne v (fun e => h ((KI_eq_iff hf hg).mp e).1)
theorem uK_s {σ : Nat → Int32} {k g n : Nat} (v : Int32) (h : n < 20) : upd σ (KI k g) v n = σ n := upd_ne v (sc_KI h)
theorem uS_K {σ : Nat → Int32} {c f n : Nat} (v : Int32) (h : n < 20) : upd σ n v (KI c f) = σ (KI c f) := upd_ne v (KI_sc h)
theorem uK_if {σ : Nat → Int32} {c k f : Nat} (v : Int32) : upd σ (KI k f) v (KI c f) = if c = k then v else σ (KI c f) := by
  rw [upd_at]; simp [KI_same]
