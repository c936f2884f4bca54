/-! ## an order done -/
def cOp (σ : Row) (x a b c : Int32) : Option (Int32 × Row) := if x = 99 then fS_addClock σ a b c else if x = 112 then fS_pourJug σ a b else if x = 116 then fS_passTicks σ a else if x = 119 then fS_narrow σ a b else if x = 120 then fS_trueClock σ a else fS_leadOn σ a b
theorem RES.pass {w : Int} {σ : Row} {M : Nat → Nat → Int32} {o : Option (Int32 × Row)} {p : Option (Int32 × (Nat → Nat → Int32))} (h : RES w σ M o p) : RES w σ M o (p.bind fun q => some (q.1, q.2)) := by
  obtain ⟨r, σ', ρ', a, b, c⟩ := h
  exact ⟨r, σ', ρ', a, by rw [b]; rfl, c⟩
theorem order_is {w : Int} {σ : Row} {M : Nat → Nat → Int32} {x a b c : Int32} {N : Nat} (hw5 : 5000 ≤ w) (hw9 : w ≤ 500000) (h : RW w σ (M 0)) (hN : fM_numbersOf x = some (nI N)) (h1 : 1 ≤ N) (hN3 : N ≤ 3) (ha : a = M 7 0) (hb : 2 ≤ N → b = M 7 1) (hc : 3 ≤ N → c = M 7 2) : RES w σ M (cOp σ x a b c) (fM_doOrder M x) := by
  subst ha
  have nN : ∀ K : Nat, K ≤ 3 → (some (nI K) : Option Int32) = some (nI N) → K = N := fun K hK q => by
    have q' := Option.some.inj q
    rw [t_eq, t_lit K (by omega), t_lit N (by omega)] at q'
    omega
  unfold cOp fM_doOrder
  unfold fM_numbersOf at hN
  by_cases c1 : x = 99
  · rw [if_pos c1] at hN
    have e := nN 3 (by decide) hN
    rw [if_pos c1, if_pos c1, hb (by omega), hc (by omega)]
    exact (clock_is hw5 h _ _ _).pass
  · rw [if_neg c1] at hN
    rw [if_neg c1, if_neg c1]
    by_cases c2 : x = 108
    · rw [if_pos c2] at hN
      have e := nN 2 (by decide) hN
      subst c2
      rw [if_neg (show ¬ (108 : Int32) = 112 by decide), if_neg (show ¬ (108 : Int32) = 116 by decide), if_neg (show ¬ (108 : Int32) = 119 by decide), if_neg (show ¬ (108 : Int32) = 120 by decide), if_pos rfl, hb (by omega)]
      exact (lead_is h _ _).pass
    · rw [if_neg c2] at hN
      rw [if_neg c2]
      by_cases c3 : x = 112
      · rw [if_pos c3] at hN
        have e := nN 2 (by decide) hN
        rw [if_pos c3, if_pos c3, hb (by omega)]
        exact (pour_is h _ _).pass
      · rw [if_neg c3] at hN
        rw [if_neg c3, if_neg c3]
        by_cases c4 : x = 116
        · rw [if_pos c4, if_pos c4]
          exact (ticks_is hw5 h _).pass
        · rw [if_neg c4] at hN
          rw [if_neg c4, if_neg c4]
          by_cases c5 : x = 119
          · rw [if_pos c5] at hN
            have e := nN 2 (by decide) hN
            rw [if_pos c5, if_pos c5, hb (by omega)]
            exact (wax_is h _ _).pass
          · rw [if_neg c5] at hN
            rw [if_neg c5, if_neg c5]
            by_cases c6 : x = 120
            · rw [if_pos c6]
              exact (true_is hw5 hw9 h _).pass
            · rw [if_neg c6] at hN
              have e := nN 0 (by decide) hN
              omega
