/-! ## forms of orders -/
theorem L37_0 {M : Nat → Nat → Int32} {y1 y3 : Int32} {fu : Nat} : fM_readOrder_L37 (fu + 1) M y1 0 y3 = some (0, M) := by
  rw [fM_readOrder_L37]
  by_cases c : y1 ≤ y3
  · rw [if_pos c, if_pos rfl]
  · rw [if_neg c, if_pos rfl, if_pos rfl]
theorem form_L {L N : Nat} (hN : N ≤ 3) : ∀ (m i fu1 fu2 p : Nat) (C M : Nat → Nat → Int32), i + m + 1 = N → m + 2 < fu1 → m + 2 < fu2 → TX C M L p → NA C M i →
    ∃ v C' M' p', (v = 0 ∨ v = 1) ∧ fT_readForm_L34 fu1 C (nI N) (nI i) = some (v, C') ∧ ((fM_readNumber M (nI i)).bind fun q => fM_readOrder_L37 fu2 q.2 (nI N) q.1 (nI (i + 1))) = some (v, M') ∧ TX C' M' L p' ∧ p ≤ p' ∧ RC C C' ∧ RM M M' ∧ (v = 1 → NA C' M' N) := by
  intro m
  induction m with
  | zero =>
    intro i fu1 fu2 p C M hi hf1 hf2 ht hna
    obtain ⟨fu1, rfl⟩ : ∃ q, fu1 = q + 2 := ⟨fu1 - 2, by omega⟩
    obtain ⟨fu2, rfl⟩ : ∃ q, fu2 = q + 1 := ⟨fu2 - 1, by omega⟩
    have e1 : N = i + 1 := by omega
    subst e1
    obtain ⟨v, val, p1, a1, a2, a3, a4⟩ := readNumber_is (j := i) ht (by omega)
    have t1 := ht.num (j := i) (v := val) a2.2
    have n1 : NA (setC (setC C 11 1 (nI p1)) 10 i val) (setC (setC M 8 2 (nI p1)) 7 i val) (i + 1) := hna.num
    rw [fT_readForm_L34, if_neg (fun r => by rw [nle (by omega) (by omega)] at r; omega), a3, a4, sb, sb]
    dsimp only
    rcases a1 with rfl | rfl
    · rw [if_pos rfl, L37_0]
      exact ⟨0, _, _, p1, Or.inl rfl, rfl, rfl, t1, a2.1, RC.num _ _ _ _, RM.num _ _ _ _, fun q => absurd q (by decide)⟩
    · rw [if_neg n10, ← nI_succ, if_pos (show nI (i + 1) ≤ nI (i + 1) from (nle (by omega) (by omega)).mpr (Nat.le_refl _)), fM_readOrder_L37, if_pos (show nI (i + 1) ≤ nI (i + 1) from (nle (by omega) (by omega)).mpr (Nat.le_refl _)), if_neg n10]
      obtain ⟨v2, p2, b1, b2, b3⟩ := readSign_is t1 (x := 59) (by decide)
      rw [b2, b3, sb, sb]
      dsimp only
      rcases b1 with ⟨rfl, rfl⟩ | ⟨rfl, rfl, b4⟩
      · rw [if_pos rfl, if_pos rfl]
        exact ⟨0, _, _, p2, Or.inl rfl, rfl, rfl, t1.to a2.2, a2.1, (RC.num _ _ _ _).trans (RC.sign _ _), (RM.num _ _ _ _).trans (RM.sign _ _), fun q => absurd q (by decide)⟩
      · rw [if_neg n10, if_neg n10, fT_readForm_L34, if_pos (show nI (i + 1) ≤ nI (i + 1) from (nle (by omega) (by omega)).mpr (Nat.le_refl _))]
        exact ⟨1, _, _, p1 + 1, Or.inr rfl, rfl, rfl, t1.to (by omega), by omega, (RC.num _ _ _ _).trans (RC.sign _ _), (RM.num _ _ _ _).trans (RM.sign _ _), fun _ => n1.to⟩
  | succ m ih =>
    intro i fu1 fu2 p C M hi hf1 hf2 ht hna
    obtain ⟨fu1, rfl⟩ : ∃ q, fu1 = q + 1 := ⟨fu1 - 1, by omega⟩
    obtain ⟨fu2, rfl⟩ : ∃ q, fu2 = q + 2 := ⟨fu2 - 2, by omega⟩
    obtain ⟨v, val, p1, a1, a2, a3, a4⟩ := readNumber_is (j := i) ht (by omega)
    have t1 := ht.num (j := i) (v := val) a2.2
    have n1 : NA (setC (setC C 11 1 (nI p1)) 10 i val) (setC (setC M 8 2 (nI p1)) 7 i val) (i + 1) := hna.num
    have ng : ¬ nI N ≤ nI (i + 1) := fun r => by rw [nle (by omega) (by omega)] at r; omega
    rw [fT_readForm_L34, if_neg (fun r => by rw [nle (by omega) (by omega)] at r; omega), a3, a4, sb, sb]
    dsimp only
    rcases a1 with rfl | rfl
    · rw [if_pos rfl, L37_0]
      exact ⟨0, _, _, p1, Or.inl rfl, rfl, rfl, t1, a2.1, RC.num _ _ _ _, RM.num _ _ _ _, fun q => absurd q (by decide)⟩
    · rw [if_neg n10, ← nI_succ, if_neg ng, fM_readOrder_L37, if_neg ng, if_neg n10]
      obtain ⟨v2, p2, b1, b2, b3⟩ := readSign_is t1 (x := 44) (by decide)
      rw [b2, b3, sb, sb]
      dsimp only
      rcases b1 with ⟨rfl, rfl⟩ | ⟨rfl, rfl, b4⟩
      · rw [if_pos rfl, if_pos rfl, L37_0]
        exact ⟨0, _, _, p2, Or.inl rfl, rfl, rfl, t1.to a2.2, a2.1, (RC.num _ _ _ _).trans (RC.sign _ _), (RM.num _ _ _ _).trans (RM.sign _ _), fun q => absurd q (by decide)⟩
      · rw [if_neg n10, if_neg n10]
        obtain ⟨v3, C', M', p', c1, c2, c3, c4, c5, c6, c7, c8⟩ := ih (i + 1) fu1 (fu2 + 1) (p1 + 1) _ _ (by omega) (by omega) (by omega) (t1.to (p' := p1 + 1) (by omega)) n1.to
        refine ⟨v3, C', M', p', c1, c2, ?_, c4, by omega, ((RC.num _ _ _ _).trans (RC.sign _ _)).trans c6, ((RM.num _ _ _ _).trans (RM.sign _ _)).trans c7, c8⟩
        rw [← c3]
        obtain ⟨v4, val4, p4, d1, d2, d3, d4⟩ := readNumber_is (j := i + 1) (t1.to (p' := p1 + 1) (by omega)) (by omega)
        rw [d4, sb, sb, nI_succ (i + 1)]
        dsimp only
        rcases d1 with rfl | rfl
        · rw [if_pos rfl]
        · rw [if_neg n10]
