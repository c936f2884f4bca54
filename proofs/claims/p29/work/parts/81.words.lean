/-! THE LAW'S WORDS, over its three rows: drops counted, errors, truing, what comes, where it goes, what drips -/
theorem lix (o k : Nat) : ((nI o : Int32) + nI k) = nI (o + k) := nI_add o k
theorem l5 (k : Nat) : ((5 : Int32) + nI k) = nI (5 + k) := lix 5 k
theorem neg_div {m p : Int} (hp : 1 ≤ p) (hm : m < 0) : -((p - 1 - m) / p) = m / p := by
  have h1 : m / p < -((p - 1 - m) / p) + 1 := by
    rw [Int.ediv_lt_iff_lt_mul (by omega)]
    have := Int.ediv_mul_le (p - 1 - m) (show p ≠ 0 by omega)
    have e : (-((p - 1 - m) / p) + 1) * p = -((p - 1 - m) / p * p) + p := by rw [Int.add_mul, Int.neg_mul, Int.one_mul]
    omega
  have h2 : -((p - 1 - m) / p) ≤ m / p := by
    rw [Int.le_ediv_iff_mul_le (by omega)]
    have := Int.lt_ediv_add_one_mul_self (p - 1 - m) (show 0 < p by omega)
    rw [Int.add_mul, Int.one_mul] at this
    have e : -((p - 1 - m) / p) * p = -((p - 1 - m) / p * p) := Int.neg_mul _ _
    omega
  omega
/-- a rising clock has let no drops go by strokes -/
def KZ (σ : Row) (n : Nat) : Prop := ∀ k, k < n → σ (KI k 0) = 1 → σ (KI k 9) = 0
theorem counted_l {r1 r2 r3 : Nat} (h : DS r1 r2 r3) {N : Nat → Nat → Int32} {a u v β : Row} {g : Int32} {k : Nat} (hk : k < 5) (hz : dec a u v β g (KI k 0) = 1 → dec a u v β g (KI k 9) = 0) : fL_counted (L3 r1 r2 r3 N a u v) r2 r3 (nI k) = some (dc (dec a u v β g) k) := by
  obtain ⟨a20, b20, -⟩ := ix20 k hk
  obtain ⟨a5, b5, -⟩ := ix5 k hk
  obtain ⟨a10, -, b10⟩ := ix10 k hk
  obtain ⟨a0, b0, -⟩ := ix0 k hk
  unfold fL_counted dc
  rw [b20, gd_t, b0, gd_t, b5, gd_t, b10, gd_t, a20, a0, a5, a10, L3_2 h, L3_3, rd_0 a u v β g hk, rd_3 a u v β g hk, rd_4 a u v β g hk, re_9 a u v β g hk]
  by_cases c0 : dec a u v β g (KI k 0) = 0
  · rw [if_pos c0, if_pos c0]
  · rw [if_neg c0, if_neg c0]
    by_cases c1 : dec a u v β g (KI k 0) = 1
    · rw [if_pos c1, hz c1, Int32.add_zero]
    · rw [if_neg c1, Int32.add_comm]
theorem error_l {r1 r2 r3 : Nat} (h : DS r1 r2 r3) {N : Nat → Nat → Int32} {a u v β : Row} {g : Int32} {n k : Nat} {b : Int} (hn : n ≤ 5) (hk : k < n) (hz : KZ (dec a u v β g) n) (hcb : CB (dec a u v β g) n b k) (hb : b ≤ 200000) (h6 : 0 ≤ (a 6).toInt) (h3 : 1 ≤ (a 3).toInt) : fL_error (L3 r1 r2 r3 N a u v) r1 r2 r3 (nI k) = some (er (dec a u v β g) k) := by
  have hk5 : k < 5 := by omega
  obtain ⟨a35, b35⟩ := ix35 k hk5
  obtain ⟨a15, b15, -⟩ := ix15 k hk5
  obtain ⟨a30, -, b30⟩ := ix30 k hk5
  have hd := dc_i hb hcb
  obtain ⟨-, -, b2, -, -, -, -, -, -, b13, b14⟩ := hcb
  unfold fL_error
  simp only [counted_l h hk5 (hz k hk) (β := β) (g := g), sb, b35, b15, b30, gd_t, a35, a15, a30, L3_1 h, L3_2 h, L3_3]
  simp only [rd_2 a u v β g hk5, re_13 a u v β g hk5, re_14 a u v β g hk5, nz_pos b2.1, gd_t, nz_pos h3]
  have hl6 : dec a u v β g 6 = a 6 := dec_lo (by decide)
  have hl3 : dec a u v β g 3 = a 3 := dec_lo (by decide)
  unfold er ho th
  rw [hl6, hl3, div_qt h6 h3]
  generalize dc (dec a u v β g) k = D at *
  generalize dec a u v β g (KI k 14) = T at *
  generalize dec a u v β g (KI k 2) = P at *
  have em : (D - T).toInt = D.toInt - T.toInt := t_sub (by omega) (by omega)
  have q : (if D - T < 0 then some (-((P - 1 - (D - T)) / P)) else some ((D - T) / P)) = some (qt (D - T) P) := by
    by_cases c : D - T < 0
    · rw [if_pos c]
      rw [t_lt, i_0] at c
      have e1 : (P - 1).toInt = P.toInt - 1 := by rw [t_sub (by rw [i_1]; omega) (by rw [i_1]; omega), i_1]
      have e2 : (P - 1 - (D - T)).toInt = P.toInt - 1 - (D - T).toInt := by rw [t_sub (by rw [e1]; omega) (by rw [e1]; omega), e1]
      have e3 : ((P - 1 - (D - T)) / P).toInt = (P.toInt - 1 - (D - T).toInt) / P.toInt := by rw [t_div' b2.1, e2, Int.tdiv_eq_ediv_of_nonneg (by omega)]
      have nn : 0 ≤ (P.toInt - 1 - (D - T).toInt) / P.toInt := Int.ediv_nonneg (by omega) (by omega)
      congr 1
      rw [t_eq, t_neg (by rw [e3]; omega), e3, qt_toInt b2.1, neg_div b2.1 (by omega)]
    · rw [if_neg c, div_qt (by rw [t_lt, i_0] at c; omega) b2.1]
  rw [q, sb]
theorem off_l {r1 r2 r3 : Nat} (h : DS r1 r2 r3) {N : Nat → Nat → Int32} {a u v β : Row} {g : Int32} {n k : Nat} {b : Int} (hn : n ≤ 5) (hk : k < n) (hz : KZ (dec a u v β g) n) (hcb : CB (dec a u v β g) n b k) (hb : b ≤ 200000) (h6 : 0 ≤ (a 6).toInt) (h3 : 1 ≤ (a 3).toInt) : fL_off (L3 r1 r2 r3 N a u v) r1 r2 r3 (nI k) = some (ab (er (dec a u v β g) k)) := by
  unfold fL_off ab
  rw [error_l h hn hk hz hcb hb h6 h3, sb, some_if]
theorem trues_l {r1 r2 r3 : Nat} (h : DS r1 r2 r3) {N : Nat → Nat → Int32} {a u v β : Row} {g : Int32} {k : Nat} (hk : k < 5) (hz : dec a u v β g (KI k 0) = 1 → dec a u v β g (KI k 9) = 0) (h6 : 0 ≤ (a 6).toInt) (h3 : 1 ≤ (a 3).toInt) :
    fL_trues (L3 r1 r2 r3 N a u v) r1 r2 r3 (nI k) = some (L3 r1 r2 r3 N a u (upd (upd v (30 + k) (th (dec a u v β g))) (35 + k) (dc (dec a u v β g) k))) ∧
    dec a u (upd (upd v (30 + k) (th (dec a u v β g))) (35 + k) (dc (dec a u v β g) k)) β g = lay (dec a u v β g) k (th (dec a u v β g)) := by
  obtain ⟨a35, b35⟩ := ix35 k hk
  obtain ⟨a30, -, b30⟩ := ix30 k hk
  have hl6 : dec a u v β g 6 = a 6 := dec_lo (by decide)
  have hl3 : dec a u v β g 3 = a 3 := dec_lo (by decide)
  have e : dec a u (upd v (30 + k) (th (dec a u v β g))) β g = upd (dec a u v β g) (KI k 13) (th (dec a u v β g)) := dv_13 _ hk
  have ec : dc (dec a u (upd v (30 + k) (th (dec a u v β g))) β g) k = dc (dec a u v β g) k := by rw [e, dc_13]
  have et : a 6 / a 3 = th (dec a u v β g) := by unfold th; rw [hl6, hl3, div_qt h6 h3]
  refine ⟨?_, ?_⟩
  · unfold fL_trues
    rw [L3_1 h, nz_pos h3, gd_t, b30, gd_t, a30, lt_is, et, L3_s3, counted_l h hk (β := β) (g := g) (by
      rw [e, uK_f _ (by decide) (by decide) (by decide), uK_f _ (by decide) (by decide) (by decide)]; exact hz), sb, ec, b35, gd_t, a35, lt_is, L3_s3]
  · rw [dv_14 _ hk, e]; rfl
/-- water comes -/
theorem comes_l {r1 r2 r3 : Nat} (h : DS r1 r2 r3) {N : Nat → Nat → Int32} {a u v : Row} {t : Nat} {d : Int32} (ht : t < 35) (h0 : 0 ≤ (a 0).toInt ∧ (a 0).toInt ≤ 5000) (hu : 0 ≤ (u t).toInt ∧ (u t).toInt ≤ 5000) (hd : 0 ≤ d.toInt ∧ d.toInt ≤ 20000) :
    fL_comes (L3 r1 r2 r3 N a u v) r1 r2 (nI t) d = some (d - mn d (rm (a 0) (u t)), L3 r1 r2 r3 N (upd a 9 (a 9 + (d - mn d (rm (a 0) (u t))))) (upd u t (u t + mn d (rm (a 0) (u t)))) v) := by
  have er := rm_i h0 hu
  have em := mn_i d (rm (a 0) (u t))
  have eb : (a 0 - u t).toInt = (a 0).toInt - (u t).toInt := t_sub (by omega) (by omega)
  have eo : (d - mn d (rm (a 0) (u t))).toInt = d.toInt - (mn d (rm (a 0) (u t))).toInt := t_sub (by omega) (by omega)
  have key : (if 0 ≤ a 0 - u t then (if d ≤ a 0 - u t then some (0 : Int32) else some (d - (a 0 - u t))) else some d) = some (d - mn d (rm (a 0) (u t))) := by
    by_cases c : 0 ≤ a 0 - u t
    · rw [if_pos c]
      rw [t_le, i_0] at c
      by_cases c2 : d ≤ a 0 - u t
      · rw [if_pos c2]
        rw [t_le] at c2
        congr 1
        rw [t_eq, eo, i_0]
        omega
      · rw [if_neg c2]
        rw [t_le] at c2
        congr 1
        rw [t_eq, eo, t_sub (by omega) (by omega)]
        omega
    · rw [if_neg c]
      rw [t_le, i_0] at c
      congr 1
      rw [t_eq, eo]
      omega
  have e2 : d - (d - mn d (rm (a 0) (u t))) = mn d (rm (a 0) (u t)) := by
    rw [t_eq, t_sub (by omega) (by omega), eo]; omega
  unfold fL_comes
  rw [L3_1 h, L3_2 h, inb_nI ht (by decide), gd_t, cl_nI (by omega), key, sb, gd_t, gd_t, lt_is, e2, L3_s2 h, lt_is, L3_1 h, L3_s1 h]
theorem on_l {r1 r2 r3 : Nat} (h : DS r1 r2 r3) {N : Nat → Nat → Int32} {a u v β : Row} {g : Int32} {k : Nat} {d : Int32} (hk : k < 5) (h5 : dec a u v β g (KI k 5) = nI (ld (dec a u v β g) k) ∧ k ≤ ld (dec a u v β g) k ∧ ld (dec a u v β g) k < 5) (h0 : 0 ≤ (dec a u v β g 0).toInt ∧ (dec a u v β g 0).toInt ≤ 5000) (hu : 0 ≤ (dec a u v β g (KI (ld (dec a u v β g) k) 3)).toInt ∧ (dec a u v β g (KI (ld (dec a u v β g) k) 3)).toInt ≤ 5000) (hd : 0 ≤ d.toInt ∧ d.toInt ≤ 20000) :
    ∃ a' u' g', fL_on (L3 r1 r2 r3 N a u v) r1 r2 (nI k) d = some (L3 r1 r2 r3 N a' u' v) ∧ dec a' u' v β g' = gon (dec a u v β g) k d := by
  obtain ⟨e5, q1, q2⟩ := h5
  obtain ⟨a25, b25, -⟩ := ix25 k hk
  have hu5 : u (25 + k) = nI (ld (dec a u v β g) k) := by rw [rd_5 a u v β g hk]; exact e5
  have hl0 : dec a u v β g 0 = a 0 := dec_lo (by decide)
  have hl8 : dec a u v β g 8 = a 8 := dec_lo (by decide)
  have hl9 : dec a u v β g 9 = a 9 := dec_lo (by decide)
  have tk := t_lit k (by omega)
  have tl := t_lit (ld (dec a u v β g) k) (by omega)
  unfold fL_on gon
  rw [b25, gd_t, a25, L3_2 h, hu5]
  by_cases c : ld (dec a u v β g) k = k
  · rw [if_pos c, if_pos (by rw [t_le, tk, tl]; omega), lt_is, L3_1 h, L3_s1 h]
    exact ⟨_, _, g, rfl, by rw [dec_a (j := 8) _ (Or.inl ⟨by decide, rfl⟩), hl8]⟩
  · rw [if_neg c, if_neg (by rw [t_le, tk, tl]; omega), gd_t]
    generalize ht : ld (dec a u v β g) k = t at *
    have hut : u t = dec a u v β g (KI t 3) := rd_3 a u v β g q2
    rw [comes_l h (by omega) (by rw [← hl0]; exact h0) (by rw [hut]; exact hu) hd, sb]
    refine ⟨_, _, g + mn d (rm (a 0) (u t)), rfl, ?_⟩
    rw [dec_a (j := 9) _ (Or.inl ⟨by decide, rfl⟩), du_3 _ q2, dec_g (g := g), hut, ← hl0, ← hl9]
    unfold ent
    rw [show dec a u v β g 12 = g from dec_12]
    funext i
    simp only [upd_at]
    by_cases i9 : i = 9
    · simp [i9]
    · by_cases i12 : i = 12
      · simp [i12, KI_lit1]
      · simp [i9, i12]
theorem drip_l {r1 r2 r3 : Nat} (h : DS r1 r2 r3) {N : Nat → Nat → Int32} {a u v β : Row} {g : Int32} {k : Nat} (hk : k < 5) (hw : 1 ≤ (dec a u v β g (KI k 1)).toInt ∧ (dec a u v β g (KI k 1)).toInt ≤ 60) (hu : 0 ≤ (dec a u v β g (KI k 3)).toInt ∧ (dec a u v β g (KI k 3)).toInt ≤ 5000) : fL_drip (L3 r1 r2 r3 N a u v) r2 (nI k) = some (nd (dec a u v β g) k) := by
  obtain ⟨a10, b10, -⟩ := ix10 k hk
  obtain ⟨a0, b0, -⟩ := ix0 k hk
  unfold fL_drip nd
  rw [b10, gd_t, b0, gd_t, gd_t, gd_t, a10, a0, L3_2 h, rd_1 a u v β g hk, rd_3 a u v β g hk]
  generalize dec a u v β g (KI k 1) = w at *
  generalize dec a u v β g (KI k 3) = x at *
  have c1 : 0 ≤ w.toInt * x.toInt := Int.mul_nonneg (by omega) hu.1
  have c2 : w.toInt * x.toInt ≤ 60 * 5000 := Int.mul_le_mul hw.2 hu.2 hu.1 (by omega)
  have s1 : ((1000 : Int32) + x).toInt = 1000 + x.toInt := by rw [t_add (by rw [i_1000]; omega) (by rw [i_1000]; omega), i_1000]
  have ex : w.toInt * (1000 + x.toInt) = 1000 * w.toInt + w.toInt * x.toInt := by rw [Int.mul_add, Int.mul_comm w.toInt 1000]
  have m1 : (w * ((1000 : Int32) + x)).toInt = 1000 * w.toInt + w.toInt * x.toInt := by rw [t_mul (by rw [s1, ex]; omega) (by rw [s1, ex]; omega), s1, ex]
  have m2 : (w * x).toInt = w.toInt * x.toInt := t_mul (by omega) (by omega)
  have d1 : (w * ((1000 : Int32) + x) / 1000).toInt = w.toInt + w.toInt * x.toInt / 1000 := by
    rw [t_div' (by rw [i_1000]; omega), m1, i_1000, Int.tdiv_eq_ediv_of_nonneg (by omega)]
    omega
  have d2 : (w * x / 1000).toInt = w.toInt * x.toInt / 1000 := by rw [t_div' (by rw [i_1000]; omega), m2, i_1000, Int.tdiv_eq_ediv_of_nonneg c1]
  have e : w * ((1000 : Int32) + x) / 1000 = w + w * x / 1000 := by rw [t_eq, d1, t_add (by rw [d2]; omega) (by rw [d2]; omega), d2]
  rw [e, some_if]
  have m := mn_alt2 (w + w * x / 1000) x
  rw [m]
  congr 1
  rw [t_eq, mn_i, mn_i]
  omega
