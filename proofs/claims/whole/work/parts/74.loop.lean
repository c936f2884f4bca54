/-! ## the law's loop, every call of it -/
theorem case_c {w : Int} {o : Option (Int32 × XS)} {p : Option (Int32 × (Nat → Nat → Int32))} (h : CR w o p) {k : XS → (Nat → Nat → Int32) → Option Unit} (hk : ∀ st X M, XRs w st X M → k X M = some ()) : (o.bind fun q => p.bind fun r => if q.1 = r.1 then k q.2 r.2 else none) = some () := by
  obtain ⟨r, X', M', st', h1, h2, h3⟩ := h
  rw [h1, h2, sb, sb, if_pos rfl]
  exact hk st' X' M' h3
theorem case_e {o p : Option Int32} (h : EQ2 o p) {k : Option Unit} (hk : k = some ()) : (o.bind fun q => p.bind fun r => if q = r then k else none) = some () := by
  obtain ⟨r, h1, h2⟩ := h
  rw [h1, h2, sb, sb, if_pos rfl]
  exact hk
set_option maxHeartbeats 8000000 in
set_option maxRecDepth 100000 in
theorem law_some {L : Nat} (hL : L ≤ 2048) (xs : Nat → Int32) : ∀ (m i fu : Nat) (w : Int) (st : Nat) (X : XS) (M : Nat → Nat → Int32), i + m = 513 → m < fu → 5000 ≤ w → w + 900 * m ≤ 500000 → XRs w st X M → fL_law_L18 L xs fu X M (nI (4 * i)) = some () := by
  intro m
  induction m with
  | zero =>
    intro i fu w st X M hi hf hw5 hw h
    obtain ⟨fu, rfl⟩ : ∃ q, fu = q + 1 := ⟨fu - 1, by omega⟩
    have tL := t_lit L (by omega)
    have ti := t_lit (4 * i) (by omega)
    have i4 : (4 : Int32).toInt = 4 := rfl
    have es : (Int32.ofNat L - (4 : Int32)).toInt = (L : Int) - 4 := by rw [show Int32.ofNat L = nI L from rfl, t_sub (by omega) (by omega), tL, i4]
    rw [fL_law_L18, if_pos (show Int32.ofNat L - (4 : Int32) < nI (4 * i) by rw [t_lt, es, ti]; omega)]
  | succ m ih =>
    intro i fu w st X M hi hf hw5 hw h
    obtain ⟨fu, rfl⟩ : ∃ q, fu = q + 1 := ⟨fu - 1, by omega⟩
    have hw9 : w ≤ 500000 := by omega
    have tL := t_lit L (by omega)
    have ti := t_lit (4 * i) (by omega)
    have i4 : (4 : Int32).toInt = 4 := rfl
    have i2 : (2 : Int32).toInt = 2 := rfl
    have i3 : (3 : Int32).toInt = 3 := rfl
    have es : (Int32.ofNat L - (4 : Int32)).toInt = (L : Int) - 4 := by rw [show Int32.ofNat L = nI L from rfl, t_sub (by omega) (by omega), tL, i4]
    rw [fL_law_L18]
    by_cases c : Int32.ofNat L - (4 : Int32) < nI (4 * i)
    · rw [if_pos c]
    · rw [if_neg c]
      rw [t_lt, es, ti] at c
      have e1 : inb (nI (4 * i) + (1 : Int32)) L = true := by rw [inb_iff, t_add (by rw [ti, i_1]; omega) (by rw [ti, i_1]; omega), ti, i_1]; omega
      have e2 : inb (nI (4 * i) + (2 : Int32)) L = true := by rw [inb_iff, t_add (by rw [ti, i2]; omega) (by rw [ti, i2]; omega), ti, i2]; omega
      have e3 : inb (nI (4 * i) + (3 : Int32)) L = true := by rw [inb_iff, t_add (by rw [ti, i3]; omega) (by rw [ti, i3]; omega), ti, i3]; omega
      have e4 : nI (4 * i) + 4 = nI (4 * (i + 1)) := by rw [t_eq, t_add (by rw [ti, i4]; omega) (by rw [ti, i4]; omega), ti, i4, t_lit (4 * (i + 1)) (by omega)]; omega
      have e0 : inb (nI (4 * i)) L = true := inb_nI (by omega) (by omega)
      simp only [e0, e1, e2, e3, gd_t]
      have go : ∀ st X M, XRs w st X M → fL_law_L18 L xs fu X M (nI (4 * i) + 4) = some () := fun st X M h => by rw [e4]; exact ih (i + 1) fu w st X M (by omega) (by omega) hw5 (by omega) h
      have go9 : ∀ st X M, XRs (w + 900) st X M → fL_law_L18 L xs fu X M (nI (4 * i) + 4) = some () := fun st X M h => by rw [e4]; exact ih (i + 1) fu (w + 900) st X M (by omega) (by omega) (by omega) (by omega) h
      generalize xs (nI (4 * i)).toNatClampNeg &&& (31 : Int32) = z
      by_cases d : z.toInt < 0 ∨ 25 < z.toInt
      · rw [if_pos d]
        exact go st X M h
      · rw [if_neg d]
        by_cases d0 : z = 0
        · rw [if_pos d0]
          exact case_c (xclock hw5 h _ _ _) go
        rw [if_neg d0]
        by_cases d1 : z = 1
        · rw [if_pos d1]
          exact case_c (xlead h _ _) go
        rw [if_neg d1]
        by_cases d2 : z = 2
        · rw [if_pos d2]
          exact case_c (xpour h _ _) go
        rw [if_neg d2]
        by_cases d3 : z = 3
        · rw [if_pos d3]
          exact case_c (xwax h _ _) go
        rw [if_neg d3]
        by_cases d4 : z = 4
        · rw [if_pos d4]
          exact case_c (xpitch hw5 h _ _) go
        rw [if_neg d4]
        by_cases d5 : z = 5
        · rw [if_pos d5]
          exact case_c (xtrue hw5 hw9 h _) go
        rw [if_neg d5]
        by_cases d6 : z = 6
        · rw [if_pos d6]
          exact case_c (xticks hw5 h _) go
        rw [if_neg d6]
        by_cases d7 : z = 7
        · rw [if_pos d7]
          exact case_c (xset h _ _) go9
        rw [if_neg d7]
        by_cases d8 : z = 8
        · rw [if_pos d8]
          exact case_c (xkeep h _) go
        rw [if_neg d8]
        by_cases d9 : z = 9
        · rw [if_pos d9]
          exact case_c (xback h _) go
        rw [if_neg d9]
        by_cases d10 : z = 10
        · rw [if_pos d10]
          exact case_e (clockOf_is h.2.1 _ _) (go st X M h)
        rw [if_neg d10]
        by_cases d11 : z = 11
        · rw [if_pos d11]
          exact case_e (hour_is h.2.1 _ _) (go st X M h)
        rw [if_neg d11]
        by_cases d12 : z = 12
        · rw [if_pos d12]
          exact case_e (water_is h.2.1 _) (go st X M h)
        rw [if_neg d12]
        by_cases d13 : z = 13
        · rw [if_pos d13]
          exact case_e (noon_is h.2.1 _ _) (go st X M h)
        rw [if_neg d13]
        by_cases d14 : z = 14
        · rw [if_pos d14]
          exact case_e (whyx_is h.2.1 _ _) (go st X M h)
        rw [if_neg d14]
        by_cases d15 : z = 15
        · rw [if_pos d15]
          exact case_c (xempty h _) go
        rw [if_neg d15]
        by_cases d16 : z = 16
        · rw [if_pos d16]
          exact case_c (xnoon h _) go
        rw [if_neg d16]
        by_cases d17 : z = 17
        · rw [if_pos d17]
          exact case_c (xbest h _ _) go
        rw [if_neg d17]
        by_cases d18 : z = 18
        · rw [if_pos d18]
          exact case_e (worst_is hw5 hw9 h.2.1 _) (go st X M h)
        rw [if_neg d18]
        by_cases d19 : z = 19
        · rw [if_pos d19]
          exact case_e (mean_is hw5 hw9 h.2.1) (go st X M h)
        rw [if_neg d19]
        by_cases d20 : z = 20
        · rw [if_pos d20]
          exact case_e (count_is h.2.1 (h.1.2.1.trans h.1.2.2.symm) h.2.2.2.2.2.2.1 _) (go st X M h)
        rw [if_neg d20]
        by_cases d21 : z = 21
        · rw [if_pos d21]
          exact case_c (xundo h) go
        rw [if_neg d21]
        by_cases d22 : z = 22
        · rw [if_pos d22]
          exact case_c (xtype h _) go
        rw [if_neg d22]
        by_cases d23 : z = 23
        · rw [if_pos d23]
          exact case_c (xclear h) go
        rw [if_neg d23]
        by_cases d24 : z = 24
        · rw [if_pos d24]
          exact case_c (xfault hw5 hw9 h _) go
        rw [if_neg d24]
        by_cases d25 : z = 25
        · rw [if_pos d25]
          exact case_c (xplay hw5 hw9 h) go
        rw [if_neg d25]
        exfalso
        have hz : z = nI z.toInt.toNat := nI_back (by omega)
        have hb : z.toInt.toNat < 26 := by omega
        rcases (show z.toInt.toNat = 0 ∨ z.toInt.toNat = 1 ∨ z.toInt.toNat = 2 ∨ z.toInt.toNat = 3 ∨ z.toInt.toNat = 4 ∨ z.toInt.toNat = 5 ∨ z.toInt.toNat = 6 ∨ z.toInt.toNat = 7 ∨ z.toInt.toNat = 8 ∨ z.toInt.toNat = 9 ∨ z.toInt.toNat = 10 ∨ z.toInt.toNat = 11 ∨ z.toInt.toNat = 12 ∨ z.toInt.toNat = 13 ∨ z.toInt.toNat = 14 ∨ z.toInt.toNat = 15 ∨ z.toInt.toNat = 16 ∨ z.toInt.toNat = 17 ∨ z.toInt.toNat = 18 ∨ z.toInt.toNat = 19 ∨ z.toInt.toNat = 20 ∨ z.toInt.toNat = 21 ∨ z.toInt.toNat = 22 ∨ z.toInt.toNat = 23 ∨ z.toInt.toNat = 24 ∨ z.toInt.toNat = 25 by omega) with q | q | q | q | q | q | q | q | q | q | q | q | q | q | q | q | q | q | q | q | q | q | q | q | q | q
        · rw [q] at hz; exact d0 hz
        · rw [q] at hz; exact d1 hz
        · rw [q] at hz; exact d2 hz
        · rw [q] at hz; exact d3 hz
        · rw [q] at hz; exact d4 hz
        · rw [q] at hz; exact d5 hz
        · rw [q] at hz; exact d6 hz
        · rw [q] at hz; exact d7 hz
        · rw [q] at hz; exact d8 hz
        · rw [q] at hz; exact d9 hz
        · rw [q] at hz; exact d10 hz
        · rw [q] at hz; exact d11 hz
        · rw [q] at hz; exact d12 hz
        · rw [q] at hz; exact d13 hz
        · rw [q] at hz; exact d14 hz
        · rw [q] at hz; exact d15 hz
        · rw [q] at hz; exact d16 hz
        · rw [q] at hz; exact d17 hz
        · rw [q] at hz; exact d18 hz
        · rw [q] at hz; exact d19 hz
        · rw [q] at hz; exact d20 hz
        · rw [q] at hz; exact d21 hz
        · rw [q] at hz; exact d22 hz
        · rw [q] at hz; exact d23 hz
        · rw [q] at hz; exact d24 hz
        · rw [q] at hz; exact d25 hz
