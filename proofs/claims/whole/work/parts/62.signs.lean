/-! ## signs of the text -/
/-- class and reference at place p of a text of L signs -/
def TX (C M : Nat → Nat → Int32) (L p : Nat) : Prop := (L ≤ 60 ∧ p ≤ L) ∧ (C 11 0 = nI L ∧ M 8 1 = nI L) ∧ (C 11 1 = nI p ∧ M 8 2 = nI p) ∧ ∀ i, i < L → C 9 i = M 6 i ∧ 32 ≤ (M 6 i).toInt ∧ (M 6 i).toInt ≤ 126
theorem setC_self (C : Nat → Nat → Int32) (a i : Nat) : setC C a i (C a i) = C := by
  funext b j
  rw [mcell]
  by_cases e : b = a ∧ j = i
  · rw [if_pos e, e.1, e.2]
  · rw [if_neg e]
theorem TX.to {C M : Nat → Nat → Int32} {L p p' : Nat} (h : TX C M L p) (hp : p' ≤ L) : TX (setC C 11 1 (nI p')) (setC M 8 2 (nI p')) L p' := by
  obtain ⟨⟨a, b⟩, ⟨c, d⟩, ⟨e, f⟩, g⟩ := h
  refine ⟨⟨a, hp⟩, ⟨by rw [mcell, if_neg (by omega)]; exact c, by rw [mcell, if_neg (by omega)]; exact d⟩, ⟨by rw [mcell, if_pos ⟨rfl, rfl⟩], by rw [mcell, if_pos ⟨rfl, rfl⟩]⟩, fun i hi => ?_⟩
  rw [mcell, if_neg (by omega), mcell, if_neg (by omega)]; exact g i hi
theorem signHere_is {C M : Nat → Nat → Int32} {L p : Nat} (h : TX C M L p) : fT_signHere C = some (if p < L then M 6 p else 0) := by
  obtain ⟨⟨a, b⟩, ⟨c, d⟩, ⟨e, f⟩, g⟩ := h
  have tp := t_lit p (by omega)
  unfold fT_signHere
  rw [e, c, if_neg (by rw [t_lt, i_0]; omega)]
  by_cases q : p < L
  · have gp := g p q
    obtain ⟨-, -, s3⟩ := sign_is (M 6 p).toInt.toNat (by omega)
    rw [← nI_back (x := M 6 p) (by omega)] at s3
    rw [if_neg (fun r => by rw [nle (by omega) (by omega)] at r; omega), if_neg (by rw [t_le, i_60]; omega), inb_nI (by omega) (by decide), gd_t, cl_nI (by omega), gp.1, s3, gd_t, if_pos q]
  · rw [if_pos ((nle (by omega) (by omega)).mpr (by omega)), if_neg q]
theorem isAt_is {C M : Nat → Nat → Int32} {L p : Nat} (h : TX C M L p) (x y : Int32) : fM_isAt M x y = some (if p < L ∧ x.toInt ≤ (M 6 p).toInt ∧ (M 6 p).toInt ≤ y.toInt then 1 else 0) := by
  obtain ⟨⟨a, b⟩, ⟨c, d⟩, ⟨e, f⟩, g⟩ := h
  unfold fM_isAt
  rw [d, f]
  by_cases q : p < L
  · rw [if_neg (fun r => by rw [nle (by omega) (by omega)] at r; omega), inb_nI (by omega) (by decide), gd_t, cl_nI (by omega), in_i, sb]
    by_cases r : x.toInt ≤ (M 6 p).toInt ∧ (M 6 p).toInt ≤ y.toInt
    · rw [if_pos r, if_neg n10, if_pos ⟨q, r⟩]
    · rw [if_neg r, if_pos rfl, if_neg (fun z => r z.2)]
  · rw [if_pos ((nle (by omega) (by omega)).mpr (by omega)), if_neg (fun z => q z.1)]
theorem readSign_is {C M : Nat → Nat → Int32} {L p : Nat} (h : TX C M L p) {x : Int32} (hx : 32 ≤ x.toInt) :
    ∃ v p', (v = 0 ∧ p' = p ∨ v = 1 ∧ p' = p + 1 ∧ p < L) ∧ fT_readSign C x = some (v, setC C 11 1 (nI p')) ∧ fM_readSign M x = some (v, setC M 8 2 (nI p')) := by
  obtain ⟨⟨a, b⟩, ⟨c, d⟩, ⟨e, f⟩, g⟩ := id h
  unfold fT_readSign fM_readSign
  rw [signHere_is h, isAt_is h, sb, sb]
  by_cases q : p < L ∧ x.toInt ≤ (M 6 p).toInt ∧ (M 6 p).toInt ≤ x.toInt
  · refine ⟨1, p + 1, Or.inr ⟨rfl, rfl, q.1⟩, ?_, ?_⟩
    · rw [if_pos q.1, if_pos (show M 6 p = x by rw [t_eq]; omega), lt_is, e, ← nI_succ]
    · rw [if_pos q, if_neg n10, lt_is, show isZ 1 = true from by decide, gd_t, f, ← nI_succ]
  · have hn : ¬ (if p < L then M 6 p else 0) = x := fun r => by
      by_cases z : p < L
      · rw [if_pos z, t_eq] at r; exact q ⟨z, by omega, by omega⟩
      · rw [if_neg z, t_eq, i_0] at r; omega
    refine ⟨0, p, Or.inl ⟨rfl, rfl⟩, ?_, ?_⟩
    · rw [if_neg hn, ← e, setC_self]
    · rw [if_neg q, if_pos rfl, lt_is, show isZ 0 = true from by decide, gd_t, Int32.add_zero, f]
