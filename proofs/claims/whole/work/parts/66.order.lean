theorem numbers_eq (x : Int32) : fT_numbersOf x = fM_numbersOf x := rfl
theorem numbers_3 (x : Int32) : ∃ N, N ≤ 3 ∧ fM_numbersOf x = some (nI N) := by
  unfold fM_numbersOf
  split
  · exact ⟨3, by decide, rfl⟩
  · split
    · exact ⟨2, by decide, rfl⟩
    · split
      · exact ⟨2, by decide, rfl⟩
      · split
        · exact ⟨1, by decide, rfl⟩
        · split
          · exact ⟨2, by decide, rfl⟩
          · split
            · exact ⟨1, by decide, rfl⟩
            · exact ⟨0, by decide, rfl⟩
theorem TX.three {C M : Nat → Nat → Int32} {L p i : Nat} {v : Int32} (h : TX C M L p) (hi : 2 ≤ i) : TX (setC C 11 i v) M L p := by
  obtain ⟨a, ⟨c, d⟩, ⟨e, f⟩, g⟩ := h
  refine ⟨a, ⟨by rw [mcell, if_neg (by omega)]; exact c, d⟩, ⟨by rw [mcell, if_neg (by omega)]; exact e, f⟩, fun j hj => ?_⟩
  rw [mcell, if_neg (by omega)]; exact g j hj
theorem readForm_is {C M : Nat → Nat → Int32} {L p : Nat} (h : TX C M L p) (hp : p < L) :
    ∃ v N C' M' p', (v = 0 ∨ v = 1) ∧ fM_numbersOf (M 6 p) = some (nI N) ∧ fT_readForm C = some (v, C') ∧ fM_readOrder M = some (v, M') ∧ TX C' M' L p' ∧ p ≤ p' ∧ RC (setC C 11 3 (M 6 p)) C' ∧ RM M M' ∧ (v = 1 → NA C' M' N ∧ 1 ≤ N ∧ p < p' ∧ N ≤ 3) := by
  have hg := h.2.2.2 p hp
  have hL := h.1.1
  obtain ⟨-, -, s3⟩ := sign_is (M 6 p).toInt.toNat (by omega)
  rw [← nI_back (x := M 6 p) (by omega)] at s3
  obtain ⟨N, n1, n2⟩ := numbers_3 (M 6 p)
  have t3 : TX (setC C 11 3 (M 6 p)) M L p := h.three (by decide)
  have e3 : setC C 11 3 (M 6 p) 11 3 = M 6 p := by rw [mcell, if_pos ⟨rfl, rfl⟩]
  unfold fT_readForm fM_readOrder
  rw [signHere_is h, sb, if_pos hp, s3, gd_t, lt_is, numbers_eq, e3, n2, h.2.2.1.2, inb_nI (by omega) (by decide), gd_t, cl_nI (by omega), n2, sb, sb]
  by_cases c : N = 0
  · subst c
    rw [if_pos (show nI 0 = 0 from rfl), if_pos (show nI 0 = 0 from rfl)]
    exact ⟨0, 0, _, M, p, Or.inl rfl, rfl, rfl, rfl, t3, Nat.le_refl _, RC.refl _, RM.refl _, fun q => absurd q (by decide)⟩
  · have nz : ¬ nI N = 0 := fun q => by rw [t_eq, t_lit N (by omega), i_0] at q; omega
    rw [if_neg nz, if_neg nz, lt_is, lt_is, t3.2.2.1.1, ← nI_succ]
    obtain ⟨v, C', M', p', a1, a2, a3, a4, a5, a6, a7, a8⟩ := form_L n1 (N - 1) 0 fuel fuel (p + 1) _ _ (by omega) (by unfold fuel; omega) (by unfold fuel; omega) (t3.to (p' := p + 1) (by omega)) (fun i hi => absurd hi (by omega))
    exact ⟨v, N, C', M', p', a1, rfl, a2, a3, a4, by omega, (RC.sign _ _).trans a6, (RM.sign _ _).trans a7, fun q => ⟨a8 q, by omega, by omega, n1⟩⟩
