/-! ## numbers of the text -/
theorem TX.seven {C M : Nat → Nat → Int32} {L p j : Nat} {v : Int32} (h : TX C M L p) : TX C (setC M 7 j v) L p := by
  obtain ⟨a, ⟨c, d⟩, ⟨e, f⟩, g⟩ := h
  refine ⟨a, ⟨c, by rw [mcell, if_neg (by omega)]; exact d⟩, ⟨e, by rw [mcell, if_neg (by omega)]; exact f⟩, fun i hi => ?_⟩
  rw [mcell, if_neg (by omega)]; exact g i hi
theorem TX.ten {C M : Nat → Nat → Int32} {L p j : Nat} {v : Int32} (h : TX C M L p) : TX (setC C 10 j v) M L p := by
  obtain ⟨a, ⟨c, d⟩, ⟨e, f⟩, g⟩ := h
  refine ⟨a, ⟨by rw [mcell, if_neg (by omega)]; exact c, d⟩, ⟨by rw [mcell, if_neg (by omega)]; exact e, f⟩, fun i hi => ?_⟩
  rw [mcell, if_neg (by omega)]; exact g i hi
theorem number_L {C M : Nat → Nat → Int32} {L j : Nat} (hj : j < 3) : ∀ (m c fu1 fu2 p : Nat) (y : Int32), c + m = 3 → m < fu1 → m < fu2 → TX (setC C 11 1 (nI p)) (setC (setC M 8 2 (nI p)) 7 j y) L p →
    ∃ v val p', (v = 0 ∨ v = 1) ∧ (p ≤ p' ∧ p' ≤ L) ∧ fT_readNumber_L4 fu1 (setC C 11 1 (nI p)) (nI j) y (nI c) = some (v, setC (setC C 11 1 (nI p')) 10 j val) ∧ fM_readNumber_L9 fu2 (setC (setC M 8 2 (nI p)) 7 j y) (nI j) (nI c) = some (v, setC (setC M 8 2 (nI p')) 7 j val) := by
  intro m
  induction m with
  | zero =>
    intro c fu1 fu2 p y hc hf1 hf2 h
    obtain ⟨fu1, rfl⟩ : ∃ q, fu1 = q + 1 := ⟨fu1 - 1, by omega⟩
    obtain ⟨fu2, rfl⟩ : ∃ q, fu2 = q + 1 := ⟨fu2 - 1, by omega⟩
    refine ⟨1, y, p, Or.inr rfl, ⟨Nat.le_refl _, h.1.2⟩, ?_, ?_⟩
    · rw [fT_readNumber_L4, show c = 3 by omega, if_pos (show (3 : Int32) ≤ nI 3 by decide), fput_is _ _ (by decide) hj, sb, lt_is, if_neg (show ¬ nI 3 ≤ 0 by decide), Nat.zero_add]
      rfl
    · rw [fM_readNumber_L9, show c = 3 by omega, if_pos (show (3 : Int32) ≤ nI 3 by decide), if_neg (show ¬ nI 3 ≤ 0 by decide)]
  | succ m ih =>
    intro c fu1 fu2 p y hc hf1 hf2 h
    obtain ⟨fu1, rfl⟩ : ∃ q, fu1 = q + 1 := ⟨fu1 - 1, by omega⟩
    obtain ⟨fu2, rfl⟩ : ∃ q, fu2 = q + 1 := ⟨fu2 - 1, by omega⟩
    have n3 : ¬ (3 : Int32) ≤ nI c := fun r => by rw [show (3 : Int32) = nI 3 from rfl, nle (by omega) (by omega)] at r; omega
    have i48 : (48 : Int32).toInt = 48 := rfl
    have i57 : (57 : Int32).toInt = 57 := rfl
    have tp := t_lit p (by have := h.1; omega)
    have e6 : ∀ i, setC (setC M 8 2 (nI p)) 7 j y 6 i = M 6 i := fun i => by rw [mcell, if_neg (by omega), mcell, if_neg (by omega)]
    rw [fT_readNumber_L4, fM_readNumber_L9, if_neg n3, if_neg n3, signHere_is h, sb, isAt_is h, sb, e6]
    unfold fT_isDigit
    by_cases q : p < L ∧ (48 : Int32).toInt ≤ (M 6 p).toInt ∧ (M 6 p).toInt ≤ (57 : Int32).toInt
    · rw [if_pos q, if_pos q.1, if_neg (show ¬ M 6 p < 48 by rw [t_lt]; omega), if_neg (show ¬ 57 < M 6 p by rw [t_lt]; omega)]
      simp only [sb, if_neg n10]
      rw [lt_is]
      have e1 : setC C 11 1 (nI p) 11 1 = nI p := by rw [mcell, if_pos ⟨rfl, rfl⟩]
      have e8 : setC (setC M 8 2 (nI p)) 7 j y 8 2 = nI p := by rw [mcell, if_neg (by omega), mcell, if_pos ⟨rfl, rfl⟩]
      have e7 : setC (setC M 8 2 (nI p)) 7 j y 7 j = y := by rw [mcell, if_pos ⟨rfl, rfl⟩]
      have hL := h.1
      rw [e1, e8, inb_nI (by omega) (by decide), inb_nI (by omega) (by decide), gd_t, gd_t, gd_t, cl_nI (by omega), cl_nI (by omega), e7, e6, lt_is, lt_is, ← nI_succ c]
      have ev : (10 : Int32) * y + M 6 p - 48 = y * 10 + (M 6 p - 48) := by
        rw [Int32.mul_comm, Int32.sub_eq_add_neg, Int32.sub_eq_add_neg, Int32.add_assoc]
      have em : ∀ v : Int32, setC (setC (setC (setC M 8 2 (nI p)) 7 j y) 7 j v) 8 2 (setC (setC (setC M 8 2 (nI p)) 7 j y) 7 j v 8 2 + 1) = setC (setC M 8 2 (nI (p + 1))) 7 j v := fun v => by
        funext b i
        simp only [mcell]
        by_cases z : b = 8 ∧ i = 2
        · rw [if_pos z, if_neg (show ¬ (8 = 7 ∧ 2 = j) by omega), if_neg (show ¬ (8 = 7 ∧ 2 = j) by omega), if_pos ⟨trivial, trivial⟩, if_neg (show ¬ (b = 7 ∧ i = j) by omega), if_pos z, nI_succ]
        · rw [if_neg z, if_neg z]
          by_cases u : b = 7 ∧ i = j
          · rw [if_pos u, if_pos u]
          · rw [if_neg u, if_neg u, if_neg u, if_neg z]
      have ec : setC (setC C 11 1 (nI p)) 11 1 (nI p + 1) = setC C 11 1 (nI (p + 1)) := by
        funext b i
        simp only [mcell]
        by_cases z : b = 11 ∧ i = 1
        · rw [if_pos z, if_pos z, nI_succ]
        · rw [if_neg z, if_neg z, if_neg z]
      rw [em, ec, ev]
      have h' : TX (setC C 11 1 (nI (p + 1))) (setC (setC M 8 2 (nI (p + 1))) 7 j (y * 10 + (M 6 p - 48))) L (p + 1) := by
        have g := (h.to (p' := p + 1) (by omega)).seven (j := j) (v := y * 10 + (M 6 p - 48))
        have g1 : setC (setC C 11 1 (nI p)) 11 1 (nI (p + 1)) = setC C 11 1 (nI (p + 1)) := by rw [← ec, nI_succ]
        have g2 := em (y * 10 + (M 6 p - 48))
        rw [g1] at g
        refine ⟨g.1, ⟨g.2.1.1, ?_⟩, ⟨g.2.2.1.1, ?_⟩, fun i hi => ?_⟩
        · have := g.2.1.2; simp only [mcell] at this ⊢; simpa using this
        · simp only [mcell]; simp
        · have := g.2.2.2 i hi; simp only [mcell] at this ⊢; simpa using this
      obtain ⟨v, val, p', a1, a2, a3, a4⟩ := ih (c + 1) fu1 fu2 (p + 1) (y * 10 + (M 6 p - 48)) (by omega) (by omega) (by omega) h'
      exact ⟨v, val, p', a1, ⟨by omega, a2.2⟩, a3, a4⟩
    · have hd : (if (if p < L then M 6 p else 0) < (48 : Int32) then some (0 : Int32) else (if (57 : Int32) < (if p < L then M 6 p else 0) then some (0 : Int32) else some (1 : Int32))) = some 0 := by
        by_cases z : p < L
        · rw [if_pos z]
          by_cases u : M 6 p < 48
          · rw [if_pos u]
          · rw [if_neg u]
            rw [t_lt] at u
            rw [if_pos (show 57 < M 6 p by rw [t_lt]; omega)]
        · rw [if_neg z]; rfl
      rw [hd, if_neg q]
      simp only [sb, if_true]
      rw [fput_is _ _ (by decide) hj]
      simp only [sb, lt_is, Nat.zero_add]
      have hc0 : setC (setC C 11 1 (nI p)) 10 j y = updA (setC C 11 1 (nI p)) 10 (upd (setC C 11 1 (nI p) 10) j y) := rfl
      by_cases z : nI c ≤ 0
      · rw [if_pos z, if_pos z]
        exact ⟨0, y, p, Or.inl rfl, ⟨Nat.le_refl _, h.1.2⟩, rfl, rfl⟩
      · rw [if_neg z, if_neg z]
        exact ⟨1, y, p, Or.inr rfl, ⟨Nat.le_refl _, h.1.2⟩, rfl, rfl⟩
