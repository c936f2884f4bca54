theorem readOrder_is {C M : Nat → Nat → Int32} {L p : Nat} (h : TX C M L p) (hp : p < L) :
    ∃ v N C' M' p', (v = 0 ∨ v = 1) ∧ fM_numbersOf (M 6 p) = some (nI N) ∧ fT_readOrder C = some (v, if v = 0 then setC (setC C' 11 4 1) 11 5 (nI p' - nI p) else C') ∧ fM_readOrder M = some (v, M') ∧ TX C' M' L p' ∧ p ≤ p' ∧ RC (setC (setC C 11 2 (nI p)) 11 3 (M 6 p)) C' ∧ RM M M' ∧ (v = 1 → NA C' M' N ∧ 1 ≤ N ∧ p < p' ∧ N ≤ 3) := by
  have hL := h.1.1
  have t2 : TX (setC C 11 2 (nI p)) M L p := h.three (by decide)
  obtain ⟨v, N, C', M', p', a1, a2, a3, a4, a5, a6, a7, a8, a9⟩ := readForm_is t2 hp
  have e2 : C' 11 2 = nI p := by
    rw [a7.2 2 (by decide), mcell, if_neg (by omega), mcell, if_pos ⟨rfl, rfl⟩]
  refine ⟨v, N, C', M', p', a1, a2, ?_, a4, a5, a6, a7, a8, a9⟩
  unfold fT_readOrder fT_tellFault
  rw [h.2.2.1.1, h.2.1.1, if_pos ((nlt (by omega) (by omega)).mpr hp), lt_is, a3, sb]
  dsimp only
  rcases a1 with rfl | rfl
  · rw [if_pos rfl, if_pos rfl, a5.2.2.1.1, e2, lt_is, lt_is, sb]
  · rw [if_neg n10, if_neg n10]
theorem readOrder_end {C M : Nat → Nat → Int32} {L p : Nat} (h : TX C M L p) (hp : ¬ p < L) : fT_readOrder C = some (0, C) := by
  have hL := h.1
  unfold fT_readOrder
  rw [h.2.2.1.1, h.2.1.1, if_neg (fun q => hp ((nlt (by omega) (by omega)).mp q))]
