/-! what the law answers: under way -/
theorem law_some {L : Nat} {xs : Nat → Int32} (hL : L ≤ 260) : fL_law L xs ((C0s, B0s) : XS) M0s = some () := sorry
