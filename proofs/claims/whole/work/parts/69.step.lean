theorem number_at {C : Nat → Nat → Int32} {i : Nat} (hi : i < 3) : fT_number C (nI i) = some (C 10 i) := by
  unfold fT_number fX_element
  rcases (show i = 0 ∨ i = 1 ∨ i = 2 by omega) with rfl | rfl | rfl <;> rfl
theorem cstep {X9 : XS} {q12 q13 c : Int32} (hc : fT_number X9.1 (2 : Int32) = some c) :
    (((if (X9.1 11 3) = 99 then (fT_number X9.1 (2 : Int32)).bind fun q21 => (fS_addClock (X9.1 1) q12 q13 q21).bind fun q22 => lt ((updA X9.1 1 q22.2, X9.2) : XS) fun X23 => some (q22.1, X23) else (if (X9.1 11 3) = 112 then (fS_pourJug (X9.1 1) q12 q13).bind fun q26 => lt ((updA X9.1 1 q26.2, X9.2) : XS) fun X27 => some (q26.1, X27) else (if (X9.1 11 3) = 116 then (fS_passTicks (X9.1 1) q12).bind fun q30 => lt ((updA X9.1 1 q30.2, X9.2) : XS) fun X31 => some (q30.1, X31) else (if (X9.1 11 3) = 119 then (fS_narrow (X9.1 1) q12 q13).bind fun q34 => lt ((updA X9.1 1 q34.2, X9.2) : XS) fun X35 => some (q34.1, X35) else (if (X9.1 11 3) = 120 then (fS_trueClock (X9.1 1) q12).bind fun q38 => lt ((updA X9.1 1 q38.2, X9.2) : XS) fun X39 => some (q38.1, X39) else (fS_leadOn (X9.1 1) q12 q13).bind fun q41 => lt ((updA X9.1 1 q41.2, X9.2) : XS) fun X42 => some (q41.1, X42)))))) : Option (Int32 × (XS)))) = (cOp (X9.1 1) (X9.1 11 3) q12 q13 c).bind fun q => some (q.1, ((updA X9.1 1 q.2, X9.2) : XS)) := by
  unfold cOp
  by_cases c1 : X9.1 11 3 = 99
  · rw [if_pos c1, if_pos c1, hc, sb]; rfl
  · rw [if_neg c1, if_neg c1]
    by_cases c2 : X9.1 11 3 = 112
    · rw [if_pos c2, if_pos c2]; rfl
    · rw [if_neg c2, if_neg c2]
      by_cases c3 : X9.1 11 3 = 116
      · rw [if_pos c3, if_pos c3]; rfl
      · rw [if_neg c3, if_neg c3]
        by_cases c4 : X9.1 11 3 = 119
        · rw [if_pos c4, if_pos c4]; rfl
        · rw [if_neg c4, if_neg c4]
          by_cases c5 : X9.1 11 3 = 120
          · rw [if_pos c5, if_pos c5]; rfl
          · rw [if_neg c5, if_neg c5]; rfl
