/-! ## the orders of a text -/
theorem TX.rows {C M : Nat → Nat → Int32} {L p : Nat} {σ ρ : Row} (h : TX C M L p) : TX (updA C 1 σ) (mw M ρ) L p := by
  obtain ⟨a, ⟨c, d⟩, ⟨e, f⟩, g⟩ := h
  have c11 : updA C 1 σ 11 = C 11 := updA_ne _ (by decide)
  have c9 : updA C 1 σ 9 = C 9 := updA_ne _ (by decide)
  have m8 : mw M ρ 8 = M 8 := mw_ne _ _ (by decide)
  have m6 : mw M ρ 6 = M 6 := mw_ne _ _ (by decide)
  unfold TX
  rw [c11, c9, m8, m6]
  exact ⟨a, ⟨c, d⟩, ⟨e, f⟩, g⟩
theorem TX.eight {C M : Nat → Nat → Int32} {L p i : Nat} {v : Int32} (h : TX C M L p) (hi : 3 ≤ i) : TX C (setC M 8 i v) L p := by
  obtain ⟨a, ⟨c, d⟩, ⟨e, f⟩, g⟩ := h
  refine ⟨a, ⟨c, by rw [mcell, if_neg (by omega)]; exact d⟩, ⟨e, by rw [mcell, if_neg (by omega)]; exact f⟩, fun j hj => ?_⟩
  rw [mcell, if_neg (by omega)]; exact g j hj
theorem orders_end {fu : Nat} {M : Nat → Nat → Int32} (h : ¬ M 8 3 = -1000004) : fM_doOrders_L16 (fu + 1) M = some M := by
  rw [fM_doOrders_L16, if_neg h]
  split <;> rfl
/-- what the orders leave -/
def OE (w : Int) (c : Nat) (C M : Nat → Nat → Int32) : Prop := (C 11 4 = 0 ∧ M 8 3 = -1000004 ∧ M 8 6 = nI c ∧ RW w (C 1) (M 0)) ∨ (¬ C 11 4 = 0 ∧ ¬ M 8 3 = -1000004 ∧ C 11 2 = M 8 3 ∧ C 11 4 = M 8 4 ∧ C 11 5 = M 8 5)
/-- what the orders change -/
def OCx (C C' : Nat → Nat → Int32) : Prop := (∀ a, a ≠ 1 → a ≠ 10 → a ≠ 11 → C' a = C a) ∧ C' 11 0 = C 11 0
def OMx (M M' : Nat → Nat → Int32) : Prop := (∀ b, b ≠ 0 → b ≠ 7 → b ≠ 8 → M' b = M b) ∧ M' 8 0 = M 8 0 ∧ M' 8 1 = M 8 1
theorem OCx.trans {a b c : Nat → Nat → Int32} (h1 : OCx a b) (h2 : OCx b c) : OCx a c := ⟨fun x p q r => (h2.1 x p q r).trans (h1.1 x p q r), h2.2.trans h1.2⟩
theorem OMx.trans {a b c : Nat → Nat → Int32} (h1 : OMx a b) (h2 : OMx b c) : OMx a c := ⟨fun x p q r => (h2.1 x p q r).trans (h1.1 x p q r), h2.2.1.trans h1.2.1, h2.2.2.trans h1.2.2⟩
theorem OCx.refl (C : Nat → Nat → Int32) : OCx C C := ⟨fun _ _ _ _ => rfl, rfl⟩
theorem OMx.refl (M : Nat → Nat → Int32) : OMx M M := ⟨fun _ _ _ _ => rfl, rfl, rfl⟩
theorem OCx.c11 (C : Nat → Nat → Int32) {i : Nat} (hi : i ≠ 0) (v : Int32) : OCx C (setC C 11 i v) := ⟨fun a _ _ h => funext fun j => by rw [mcell, if_neg (fun q => h q.1)], by rw [mcell, if_neg (fun q => hi q.2.symm)]⟩
theorem OCx.c1 (C : Nat → Nat → Int32) (σ : Row) : OCx C (updA C 1 σ) := ⟨fun a h _ _ => updA_ne _ h, by rw [updA_ne _ (by decide)]⟩
theorem OMx.m8 (M : Nat → Nat → Int32) {i : Nat} (hi : 2 ≤ i) (v : Int32) : OMx M (setC M 8 i v) := ⟨fun a _ _ h => funext fun j => by rw [mcell, if_neg (fun q => h q.1)], by rw [mcell, if_neg (by omega)], by rw [mcell, if_neg (by omega)]⟩
theorem OMx.m0 (M : Nat → Nat → Int32) (ρ : Row) : OMx M (mw M ρ) := ⟨fun a h _ _ => mw_ne _ _ h, by rw [mw_ne _ _ (by decide)], by rw [mw_ne _ _ (by decide)]⟩
theorem OCx.rc {C C' : Nat → Nat → Int32} (h : RC C C') : OCx C C' := ⟨fun a _ p q => h.1 a p q, h.2 0 (by decide)⟩
theorem OMx.rm {M M' : Nat → Nat → Int32} (h : RM M M') : OMx M M' := ⟨fun a _ p q => h.1 a p q, h.2 0 (by decide), h.2 1 (by decide)⟩
theorem nI_not {p : Nat} (h : p < 1000) : ¬ nI p = -1000004 := fun q => by
  rw [t_eq, t_lit p (by omega), show (-1000004 : Int32).toInt = -1000004 from rfl] at q; omega
theorem orders_L {w : Int} {L : Nat} (hw5 : 5000 ≤ w) (hw9 : w ≤ 500000) : ∀ (m c p fu1 fu2 : Nat) (X : XS) (M : Nat → Nat → Int32), L ≤ p + m → c ≤ p → m + 2 < fu1 → m + 2 < fu2 → TX X.1 M L p → RW w (X.1 1) (M 0) → X.1 11 4 = 0 → M 8 3 = -1000004 → M 8 6 = nI c →
    ∃ c' X' M', c' ≤ 60 ∧ fX_tryOrders_L20 fu1 X (nI c) = some (nI c', X') ∧ fM_doOrders_L16 fu2 M = some M' ∧ OE w c' X'.1 M' ∧ X'.2 = X.2 ∧ OCx X.1 X'.1 ∧ OMx M M' := by
  intro m
  induction m with
  | zero =>
    intro c p fu1 fu2 X M hp hc hf1 hf2 ht hr h4 h3 h6
    obtain ⟨fu1, rfl⟩ : ∃ q, fu1 = q + 1 := ⟨fu1 - 1, by omega⟩
    obtain ⟨fu2, rfl⟩ : ∃ q, fu2 = q + 1 := ⟨fu2 - 1, by omega⟩
    have hL := ht.1
    refine ⟨c, X, M, by omega, ?_, ?_, Or.inl ⟨h4, h3, h6, hr⟩, rfl, OCx.refl _, OMx.refl _⟩
    · rw [fX_tryOrders_L20, readOrder_end ht (by omega), sb, lt_is]
      split
      · rfl
      · rw [if_pos rfl]
    · rw [fM_doOrders_L16, if_pos (show M 8 1 ≤ M 8 2 by rw [ht.2.1.2, ht.2.2.1.2, nle (by omega) (by omega)]; omega)]
  | succ m ih =>
    intro c p fu1 fu2 X M hp hc hf1 hf2 ht hr h4 h3 h6
    obtain ⟨fu1, rfl⟩ : ∃ q, fu1 = q + 1 := ⟨fu1 - 1, by omega⟩
    obtain ⟨fu2, rfl⟩ : ∃ q, fu2 = q + 2 := ⟨fu2 - 2, by omega⟩
    have hL := ht.1
    by_cases hpl : p < L
    · obtain ⟨v, N, C1, M1, p1, a1, a2, a3, a4, a5, a6, a7, a8, a9⟩ := readOrder_is ht hpl
      have hL1 := a5.1
      have b2 : C1 11 2 = nI p := by rw [a7.2 2 (by decide), mcell, if_neg (by omega), mcell, if_pos ⟨rfl, rfl⟩]
      have b3 : C1 11 3 = M 6 p := by rw [a7.2 3 (by decide), mcell, if_pos ⟨rfl, rfl⟩]
      have b4 : C1 11 4 = 0 := by rw [a7.2 4 (by decide), mcell, if_neg (by omega), mcell, if_neg (by omega), h4]
      have b1 : C1 1 = X.1 1 := by rw [a7.1 1 (by decide) (by decide)]; rfl
      have o1 : OCx X.1 C1 := ((OCx.c11 X.1 (i := 2) (by decide) (nI p)).trans (OCx.c11 _ (i := 3) (by decide) (M 6 p))).trans (OCx.rc a7)
      have o2 : OMx M M1 := OMx.rm a8
      have m0 : M1 0 = M 0 := a8.1 0 (by decide) (by decide)
      have m3 : M1 8 3 = -1000004 := by rw [a8.2 3 (by decide)]; exact h3
      have m6 : M1 8 6 = nI c := by rw [a8.2 6 (by decide)]; exact h6
      have ng : ¬ (60 : Int32) ≤ nI c := fun q => by rw [show (60 : Int32) = nI 60 from rfl, nle (by omega) (by omega)] at q; omega
      rw [fX_tryOrders_L20, if_neg ng, a3, sb, lt_is, fM_doOrders_L16, if_neg (show ¬ M 8 1 ≤ M 8 2 from fun q => by rw [ht.2.1.2, ht.2.2.1.2, nle (by omega) (by omega)] at q; omega), if_pos h3, ht.2.2.1.2, inb_nI (by omega) (by decide), gd_t, a4, sb, cl_nI (by omega)]
      dsimp only
      rcases a1 with rfl | rfl
      · simp only [if_true, sb, lt_is]
        have e2 : setC (setC M1 8 3 (nI p)) 8 4 1 8 2 = nI p1 := by rw [mcell, if_neg (by omega), mcell, if_neg (by omega)]; exact a5.2.2.1.2
        rw [e2]
        have e3 : setC (setC (setC M1 8 3 (nI p)) 8 4 1) 8 5 (nI p1 - nI p) 8 3 = nI p := by rw [mcell, if_neg (by omega), mcell, if_neg (by omega), mcell, if_pos ⟨rfl, rfl⟩]
        have n3 : ¬ setC (setC (setC M1 8 3 (nI p)) 8 4 1) 8 5 (nI p1 - nI p) 8 3 = -1000004 := by rw [e3]; exact nI_not (by omega)
        rw [orders_end n3]
        refine ⟨c, _, _, by omega, rfl, rfl, Or.inr ⟨?_, n3, ?_, ?_, ?_⟩, rfl, ?_, ?_⟩
        · dsimp only
          rw [mcell, if_neg (by omega), mcell, if_pos ⟨rfl, rfl⟩]; exact n10
        · dsimp only
          rw [e3, mcell, if_neg (by omega), mcell, if_neg (by omega), b2]
        · dsimp only
          rw [mcell, if_neg (by omega), mcell, if_pos ⟨rfl, rfl⟩, mcell, if_neg (by omega), mcell, if_pos ⟨rfl, rfl⟩]
        · dsimp only
          rw [mcell, if_pos ⟨rfl, rfl⟩, mcell, if_pos ⟨rfl, rfl⟩]
        · exact (o1.trans (OCx.c11 _ (by decide) _)).trans (OCx.c11 _ (by decide) _)
        · exact ((o2.trans (OMx.m8 _ (by decide) _)).trans (OMx.m8 _ (by decide) _)).trans (OMx.m8 _ (by decide) _)
      · obtain ⟨d1, d2, d3, hN3⟩ := a9 rfl
        have hc := cstep (X9 := ((C1, X.2) : XS)) (q12 := C1 10 0) (q13 := C1 10 1) (c := C1 10 2) (number_at (C := C1) (i := 2) (by decide))
        dsimp only at hc
        have n0 : fT_number C1 0 = some (C1 10 0) := number_at (i := 0) (by decide)
        have n1 : fT_number C1 1 = some (C1 10 1) := number_at (i := 1) (by decide)
        rw [if_neg n10, if_neg n10, n0, sb, n1, sb, hc, b3]
        simp only [if_neg n10]
        obtain ⟨r, σ', ρ', k1, k2, k3⟩ := order_is (x := M 6 p) (a := C1 10 0) (b := C1 10 1) (c := C1 10 2) (M := M1) hw5 hw9 (σ := C1 1) (by rw [b1, m0]; exact hr) a2 d2 hN3 (d1 0 (by omega)) (fun z => d1 1 (by omega)) (fun z => d1 2 (by omega))
        rw [k1, k2]
        simp only [sb, lt_is]
        rcases k3 with ⟨g1, g2, g3⟩ | ⟨g1, g2⟩
        · obtain ⟨q1, q2⟩ := isErr_t g1
          rw [q1, q2]
          simp only [sb, if_neg n10, fT_tellFault, lt_is]
          have e3 : setC (setC (setC (mw M1 ρ') 8 3 (nI p)) 8 4 2) 8 5 r 8 3 = nI p := by rw [mcell, if_neg (by omega), mcell, if_neg (by omega), mcell, if_pos ⟨rfl, rfl⟩]
          have n3 : ¬ setC (setC (setC (mw M1 ρ') 8 3 (nI p)) 8 4 2) 8 5 r 8 3 = -1000004 := by rw [e3]; exact nI_not (by omega)
          rw [orders_end n3]
          refine ⟨c, _, _, by omega, rfl, rfl, Or.inr ⟨?_, n3, ?_, ?_, ?_⟩, rfl, ?_, ?_⟩
          · dsimp only
            rw [mcell, if_neg (by omega), mcell, if_pos ⟨rfl, rfl⟩]; decide
          · dsimp only
            rw [e3, mcell, if_neg (by omega), mcell, if_neg (by omega), updA_ne _ (by decide), b2]
          · dsimp only
            rw [mcell, if_neg (by omega), mcell, if_pos ⟨rfl, rfl⟩, mcell, if_neg (by omega), mcell, if_pos ⟨rfl, rfl⟩]
          · dsimp only
            rw [mcell, if_pos ⟨rfl, rfl⟩, mcell, if_pos ⟨rfl, rfl⟩]
          · exact ((o1.trans (OCx.c1 _ _)).trans (OCx.c11 _ (by decide) _)).trans (OCx.c11 _ (by decide) _)
          · exact (((o2.trans (OMx.m0 _ _)).trans (OMx.m8 _ (by decide) _)).trans (OMx.m8 _ (by decide) _)).trans (OMx.m8 _ (by decide) _)
        · obtain ⟨q1, q2⟩ := isErr_f g1
          rw [q1, q2]
          simp only [sb, if_true]
          have e6 : mw M1 ρ' 8 6 = nI c := by rw [mw_ne _ _ (by decide)]; exact m6
          rw [e6, ← nI_succ]
          obtain ⟨c', X', M', u1, u2, u3, u4, u5, u6, u7⟩ := ih (c + 1) p1 fu1 (fu2 + 1) ((updA C1 1 σ', X.2) : XS) (setC (mw M1 ρ') 8 6 (nI (c + 1))) (by omega) (by omega) (by omega) (by omega) (a5.rows.eight (by decide))
            (by dsimp only; rw [updA_same, show setC (mw M1 ρ') 8 6 (nI (c + 1)) 0 = mw M1 ρ' 0 from by unfold setC; exact updA_ne _ (by decide), mw_0]; exact g2)
            (by dsimp only; rw [updA_ne _ (by decide)]; exact b4) (by rw [mcell, if_neg (by omega), mw_ne _ _ (by decide)]; exact m3) (by rw [mcell, if_pos ⟨rfl, rfl⟩])
          exact ⟨c', X', M', u1, u2, u3, u4, u5, (o1.trans (OCx.c1 _ _)).trans u6, ((o2.trans (OMx.m0 _ _)).trans (OMx.m8 _ (by decide) _)).trans u7⟩
    · refine ⟨c, X, M, by omega, ?_, ?_, Or.inl ⟨h4, h3, h6, hr⟩, rfl, OCx.refl _, OMx.refl _⟩
      · rw [fX_tryOrders_L20, readOrder_end ht (by omega), sb, lt_is]
        split
        · rfl
        · rw [if_pos rfl]
      · rw [fM_doOrders_L16, if_pos (show M 8 1 ≤ M 8 2 by rw [ht.2.1.2, ht.2.2.1.2, nle (by omega) (by omega)]; omega)]
