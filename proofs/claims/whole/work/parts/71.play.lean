/-! ## faults of a text, and playing it -/
theorem try_is {w : Int} {st : Nat} {X : XS} {M M1 : Nat → Nat → Int32} (hw5 : 5000 ≤ w) (hw9 : w ≤ 500000) (h : XRs w st X M) (h1 : ∀ b, b ≠ 1 → b ≠ 5 → M1 b = M b) :
    ∃ c X' M', c ≤ 60 ∧ fX_tryOrders X = some (nI c, X') ∧ fM_doOrders M1 = some M' ∧ OE w c X'.1 M' ∧ X'.2 = X.2 ∧ OCx X.1 X'.1 ∧ OMx M1 M' := by
  obtain ⟨-, h2, -, -, -, -, ⟨t1, t2, t3⟩⟩ := id h
  obtain ⟨C1, a1, a2, a3⟩ := scopy_is X.1 (ja := 1) (jb := 0) (by decide)
  have eL : M 8 1 = nI (M 8 1).toInt.toNat := nI_back t2.1
  have m8 := h1 8 (by decide) (by decide)
  have m6 := h1 6 (by decide) (by decide)
  have m0 := h1 0 (by decide) (by decide)
  have ht : TX (setC (setC C1 11 1 0) 11 4 0) (setC (setC (setC M1 8 2 0) 8 6 0) 8 3 (-1000004)) (M 8 1).toInt.toNat 0 := by
    refine ⟨⟨by omega, by omega⟩, ⟨?_, ?_⟩, ⟨?_, ?_⟩, fun i hi => ?_⟩
    · rw [mcell, if_neg (by omega), mcell, if_neg (by omega), a2 11 (by decide), t1]; exact eL
    · rw [mcell, if_neg (by omega), mcell, if_neg (by omega), mcell, if_neg (by omega), m8]; exact eL
    · rw [mcell, if_neg (by omega), mcell, if_pos ⟨rfl, rfl⟩]; rfl
    · rw [mcell, if_neg (by omega), mcell, if_neg (by omega), mcell, if_pos ⟨rfl, rfl⟩]; rfl
    · rw [mcell, if_neg (by omega), mcell, if_neg (by omega), a2 9 (by decide), mcell, if_neg (by omega), mcell, if_neg (by omega), mcell, if_neg (by omega), m6]; exact t3 i (by omega)
  obtain ⟨c, X', M', u1, u2, u3, u4, u5, u6, u7⟩ := orders_L hw5 hw9 60 0 0 fuel fuel ((setC (setC C1 11 1 0) 11 4 0, X.2) : XS) (setC (setC (setC M1 8 2 0) 8 6 0) 8 3 (-1000004)) (by omega) (Nat.le_refl _) (by unfold fuel; omega) (by unfold fuel; omega) ht
    (by
      have e1 : setC (setC C1 11 1 0) 11 4 0 1 = C1 1 := rfl
      have e0 : setC (setC (setC M1 8 2 0) 8 6 0) 8 3 (-1000004) 0 = M1 0 := rfl
      dsimp only
      rw [e1, e0, m0]
      exact RW_move h2 a3 (MR.refl _))
    (by dsimp only; rw [mcell, if_pos ⟨rfl, rfl⟩]) (by rw [mcell, if_pos ⟨rfl, rfl⟩]) (by rw [mcell, if_neg (by omega), mcell, if_pos ⟨rfl, rfl⟩]; rfl)
  have u2' : fX_tryOrders_L20 fuel ((setC (setC C1 11 1 0) 11 4 0, X.2) : XS) 0 = some (nI c, X') := u2
  refine ⟨c, X', M', u1, ?_, ?_, u4, u5, ?_, ?_⟩
  · unfold fX_tryOrders fT_rewind
    rw [a1, sb, lt_is]
    dsimp only
    rw [lt_is, lt_is, sb, lt_is, u2']
  · unfold fM_doOrders
    rw [lt_is, lt_is, lt_is, u3]
  · have o1 : OCx X.1 C1 := ⟨fun a g1 _ _ => a2 a g1, by rw [a2 11 (by decide)]⟩
    exact ((o1.trans (OCx.c11 _ (by decide) _)).trans (OCx.c11 _ (by decide) _)).trans u6
  · exact (((OMx.m8 M1 (i := 2) (by decide) 0).trans (OMx.m8 _ (i := 6) (by decide) 0)).trans (OMx.m8 _ (i := 3) (by decide) (-1000004))).trans u7
theorem xfault {w : Int} {st : Nat} {X : XS} {M : Nat → Nat → Int32} (hw5 : 5000 ≤ w) (hw9 : w ≤ 500000) (h : XRs w st X M) (x1 : Int32) : CR w (fX_fault X x1) (fM_fault M x1) := by
  have i2 : (2 : Int32).toInt = 2 := rfl
  unfold fX_fault fM_fault
  by_cases c : 0 ≤ x1.toInt ∧ x1.toInt ≤ 2
  · obtain ⟨M1, b1, b2⟩ := aside_is M
    obtain ⟨n, X', M2, u1, u2, u3, u4, u5, u6, u7⟩ := try_is hw5 hw9 h (M1 := M1) (fun b _ q => funext fun j => by rw [b2 b j, if_neg (fun z => q z.1)])
    obtain ⟨M3, c1, c2⟩ := putb_is M2
    rw [if_neg (show ¬ x1 < 0 by rw [t_lt, i_0]; omega), if_pos (show x1 ≤ 2 by rw [t_le, i2]; omega), u2, sb, in_t (by rw [i_0, i2]; exact c), sb, if_neg n10, b1, sb, u3, sb, c1, sb]
    dsimp only
    have e8 : M3 8 = M2 8 := funext fun j => by rw [c2 8 j, if_neg (by omega)]
    have e0 : X'.1 0 = X.1 0 := u6.1 0 (by decide) (by decide) (by decide)
    have mF : ∀ b, b ≠ 0 → b ≠ 5 → b ≠ 7 → b ≠ 8 → M3 b = M b := fun b g0 g5 g7 g8 => funext fun j => by rw [c2 b j, if_neg (fun z => g0 z.1), u7.1 b g0 g7 g8, b2 b j, if_neg (fun z => g5 z.1)]
    have hr : RW w (X'.1 0) (M3 0) := by
      rw [e0]
      exact RW_move h.2.1 (SR.refl _) (fun j hj => by rw [c2 0 j, if_pos (by omega), Nat.sub_zero, u7.1 5 (by decide) (by decide) (by decide), b2 5 j, if_pos (by omega), Nat.sub_zero])
    have q : XRs w st X' M3 := XRs_of h (Int.le_refl _) hr u5 (fun a g0 g1 g10 g11 gb => u6.1 a g1 g10 g11) u6.2 (fun b g0 g1 g5 g7 g8 => mF b g0 g5 g7 g8)
      ⟨by rw [e8, u7.2.1, b2 8 0, if_neg (by omega)], by rw [e8, u7.2.2, b2 8 1, if_neg (by omega)]⟩
    rw [e8]
    rcases u4 with ⟨g1, g2, g3, g4⟩ | ⟨g1, g2, g3, g4, g5⟩
    · rw [if_pos g1, if_pos g2]
      exact ⟨_, X', M3, st, rfl, rfl, q⟩
    · rw [if_neg g1, if_neg g2, g3, g4, g5]
      by_cases d : x1 = 0
      · rw [if_pos d, if_pos d]
        exact ⟨_, X', M3, st, rfl, rfl, q⟩
      · rw [if_neg d, if_neg d]
        by_cases e : x1 = 1
        · rw [if_pos e, if_pos e]
          exact ⟨_, X', M3, st, rfl, rfl, q⟩
        · rw [if_neg e, if_neg e]
          exact ⟨_, X', M3, st, rfl, rfl, q⟩
  · rw [in_f (by rw [i_0, i2]; exact c), sb, if_pos rfl]
    by_cases d : x1 < 0
    · rw [if_pos d]; exact h.err rfl rfl
    · rw [if_neg d]
      rw [t_lt, i_0] at d
      rw [if_neg (by rw [t_le, i2]; omega)]; exact h.err rfl rfl
theorem play_L {M : Nat → Nat → Int32} : ∀ (m c fu : Nat) (M' : Nat → Nat → Int32), c + m = 120 → m < fu → PUT M 0 0 c (M 1) M' → ∃ M'', fM_play_L19 fu M' (nI c) = some (-1000002, M'') ∧ PUT M 0 0 120 (M 1) M'' := by
  intro m
  induction m with
  | zero =>
    intro c fu M' hc hf h
    obtain ⟨fu, rfl⟩ : ∃ q, fu = q + 1 := ⟨fu - 1, by omega⟩
    refine ⟨M', ?_, by rw [show (120 : Nat) = c by omega]; exact h⟩
    rw [fM_play_L19, if_pos ((c120 (by omega)).mpr (by omega))]
  | succ m ih =>
    intro c fu M' hc hf h
    obtain ⟨fu, rfl⟩ : ∃ q, fu = q + 1 := ⟨fu - 1, by omega⟩
    rw [fM_play_L19, if_neg (show ¬ (120 : Int32) ≤ nI c from fun q => by rw [c120 (by omega)] at q; omega), inb_nI (by omega) (by decide), gd_t, gd_t, cl_nI (by omega), lt_is, ← nI_succ]
    have e : M' 1 c = M 1 c := by rw [h 1 c, if_neg (by omega)]
    have g := h.s
    rw [Nat.zero_add, ← e] at g
    exact ih (c + 1) fu _ (by omega) (by omega) g
theorem xplay {w : Int} {st : Nat} {X : XS} {M : Nat → Nat → Int32} (hw5 : 5000 ≤ w) (hw9 : w ≤ 500000) (h : XRs w st X M) : CR w (fX_play X) (fM_play M) := by
  unfold fX_play fM_play
  obtain ⟨M1, b1, b2⟩ := note_is M
  obtain ⟨n, X', M2, u1, u2, u3, u4, u5, u6, u7⟩ := try_is hw5 hw9 h (M1 := M1) (fun b q _ => funext fun j => by rw [b2 b j, if_neg (fun z => q z.1)])
  have h4 := h.2.2.2.1
  have h0 := h4 0 (by decide)
  have mF : ∀ b, b ≠ 0 → b ≠ 1 → b ≠ 7 → b ≠ 8 → M2 b = M b := fun b g0 g1 g7 g8 => funext fun j => by rw [u7.1 b g0 g7 g8, b2 b j, if_neg (fun z => g1 z.1)]
  have m1 : ∀ j, j < 120 → M2 1 j = M 0 j := fun j hj => by rw [u7.1 1 (by decide) (by decide) (by decide), b2 1 j, if_pos (by omega), Nat.sub_zero]
  have m8 : M2 8 0 = M 8 0 ∧ M2 8 1 = M 8 1 := ⟨by rw [u7.2.1, b2 8 0, if_neg (by omega)], by rw [u7.2.2, b2 8 1, if_neg (by omega)]⟩
  have e0 : X'.1 0 = X.1 0 := u6.1 0 (by decide) (by decide) (by decide)
  rw [u2, sb, b1, sb, u3, sb]
  dsimp only
  rcases u4 with ⟨g1, g2, g3, g4⟩ | ⟨g1, g2, -⟩
  · rw [if_pos g1, if_pos g2, g3]
    obtain ⟨C1, a1, a2, a3⟩ := scopy_is X'.1 (ja := (X'.2 0).val) (jb := 0) (by rw [u5]; omega)
    obtain ⟨C2, c1, c2, c3⟩ := scopy_is C1 (ja := 0) (jb := 1) (by decide)
    rw [a1, sb, lt_is]
    dsimp only
    rw [c1, sb, lt_is]
    have e1 : C1 1 = X'.1 1 := a2 1 (by rw [u5]; omega)
    rw [e1] at c3
    have hr : RW w (C2 0) (M2 0) := RW_move g4 c3 (MR.refl _)
    have base : XRs w st ((C2, X'.2) : XS) M2 := XRs_of h (Int.le_refl _) hr u5 (fun a q0 q1 q10 q11 qb => by dsimp only; rw [c2 a q0, a2 a (by rw [u5]; exact qb)]; exact u6.1 a q1 q10 q11)
      (by dsimp only; rw [c2 11 (by decide), a2 11 (by rw [u5]; omega)]; exact u6.2) (fun b q0 q1 q5 q7 q8 => mF b q0 q1 q7 q8) m8
    have hb : RW w (((C2, X'.2) : XS).1 (((C2, X'.2) : XS).2 0).val) (M2 1) := by
      dsimp only
      rw [c2 _ (by rw [u5]; omega)]
      rw [e0] at a3
      exact RW_move h.2.1 a3 m1
    obtain ⟨X2, M3, st', q1, q2, q3⟩ := changed_is (r := nI n) (by rw [t_lit n (by omega)]; omega) base hb
    rw [q1, q2]
    exact ⟨_, X2, M3, st', rfl, rfl, q3⟩
  · rw [if_neg g1, if_neg g2]
    obtain ⟨M3, p1, p2⟩ := play_L (M := M2) 120 0 fuel M2 (by omega) (by unfold fuel; omega) (PUT.z _ _ _ _)
    have p1' : fM_play_L19 fuel M2 0 = some (-1000002, M3) := p1
    rw [p1']
    refine ⟨_, X', M3, st, rfl, rfl, XRs_of h (Int.le_refl _) ?_ u5 (fun a q0 q1 q10 q11 qb => u6.1 a q1 q10 q11) u6.2 (fun b q0 q1 q5 q7 q8 => funext fun j => by rw [p2 b j, if_neg (fun z => q0 z.1), mF b q0 q1 q7 q8]) ⟨by rw [p2 8 0, if_neg (by omega)]; exact m8.1, by rw [p2 8 1, if_neg (by omega)]; exact m8.2⟩⟩
    rw [e0]
    exact RW_move h.2.1 (SR.refl _) (fun j hj => by rw [p2 0 j, if_pos (by omega), Nat.sub_zero]; exact m1 j hj)
