/-! ## the text -/
theorem sign_is : ∀ k, k < 127 → (((nI k).toUInt32 % 65536).toInt32) = nI k ∧ vp_nar .char (nI k) = nI k ∧ isC (nI k) = true := by decide +kernel
theorem xtype {w : Int} {st : Nat} {X : XS} {M : Nat → Nat → Int32} (h : XRs w st X M) (x1 : Int32) : CR w (fX_type X x1) (fM_type M x1) := by
  have i32 : (32 : Int32).toInt = 32 := rfl
  have i126 : (126 : Int32).toInt = 126 := rfl
  have i60 : (60 : Int32).toInt = 60 := rfl
  obtain ⟨⟨s1, s2, s3⟩, h2, h3, h4, h5, h6, ⟨t1, t2, t3⟩⟩ := id h
  unfold fX_type fM_type
  by_cases c : 32 ≤ x1.toInt ∧ x1.toInt ≤ 126
  · rw [in_t (by rw [i32, i126]; exact c), sb, if_neg n10, if_neg (show ¬ x1 < 32 by rw [t_lt, i32]; omega), if_pos (show x1 ≤ 126 by rw [t_le, i126]; omega)]
    have ex := nI_back (x := x1) (by omega)
    obtain ⟨g1, g2, -⟩ := sign_is x1.toInt.toNat (by omega)
    rw [← ex] at g1 g2
    rw [g1]
    unfold fT_append
    rw [t1, if_neg (show ¬ M 8 1 < 0 by rw [t_lt, i_0]; omega)]
    by_cases d : (M 8 1).toInt = 60
    · rw [if_neg (show ¬ M 8 1 < 60 by rw [t_lt, i60]; omega), if_pos (show M 8 1 = 60 by rw [t_eq, i60]; exact d), sb, lt_is]
      exact h.err rfl rfl
    · have el := nI_back (x := M 8 1) t2.1
      have hb : (M 8 1).toInt.toNat < 60 := by omega
      rw [if_pos (show M 8 1 < 60 by rw [t_lt, i60]; omega), if_neg (show ¬ M 8 1 = 60 by rw [t_eq, i60]; exact d), g2]
      generalize hl : (M 8 1).toInt.toNat = l at *
      rw [el, inb_nI hb (by decide), gd_t, gd_t, cl_nI (by omega), lt_is, lt_is, sb, lt_is, lt_is, lt_is]
      have e1 : setC X.1 9 l x1 11 0 = nI l := by rw [mcell, if_neg (by omega), t1, el]
      have e2 : setC M 6 l x1 8 1 = nI l := by rw [mcell, if_neg (by omega), el]
      rw [e1, e2, ← nI_succ]
      have tl := t_lit l (by omega)
      have tl1 := t_lit (l + 1) (by omega)
      have hC : ∀ a, a ≠ 9 → a ≠ 11 → setC (setC X.1 9 l x1) 11 0 (nI (l + 1)) a = X.1 a := fun a g9 g11 => funext fun j => by rw [mcell, if_neg (fun q => g11 q.1), mcell, if_neg (fun q => g9 q.1)]
      have hF : ∀ b, b ≠ 6 → b ≠ 8 → setC (setC M 6 l x1) 8 1 (nI (l + 1)) b = M b := fun b g6 g8 => funext fun j => by rw [mcell, if_neg (fun q => g8 q.1), mcell, if_neg (fun q => g6 q.1)]
      refine ⟨nI (l + 1), ((setC (setC X.1 9 l x1) 11 0 (nI (l + 1)), X.2) : XS), setC (setC M 6 l x1) 8 1 (nI (l + 1)), st, ?_, ?_, ⟨s1, ?_, ?_⟩, ?_, fun j hj => ?_, h4, h5, fun j hj => ?_, ?_, ?_, fun j hj => ?_⟩
      · dsimp only; rw [mcell, if_pos ⟨rfl, rfl⟩]
      · rw [mcell, if_pos ⟨rfl, rfl⟩]
      · dsimp only; rw [hC 13 (by decide) (by decide)]; exact s2
      · rw [mcell, if_neg (by omega), mcell, if_neg (by omega)]; exact s3
      · dsimp only; rw [hC 0 (by decide) (by decide), hF 0 (by decide) (by decide)]; exact h2
      · have bj := h4 (1 + j) (by omega)
        dsimp only
        rw [hC _ (by omega) (by omega)]
        refine RW_move (h3 j hj) (SR.refl _) (fun i hi => ?_)
        unfold HR
        rw [hF 2 (by decide) (by decide)]
      · obtain ⟨u1, u2⟩ := h6 j hj
        dsimp only
        rw [hC 12 (by decide) (by decide), hC (7 + j) (by omega) (by omega), hF 4 (by decide) (by decide)]
        refine ⟨u1, fun q => RW_move (u2 q) (SR.refl _) (fun i hi => ?_)⟩
        unfold HR
        rw [hF 3 (by decide) (by decide)]
      · dsimp only; rw [mcell, if_pos ⟨rfl, rfl⟩, mcell, if_pos ⟨rfl, rfl⟩]
      · rw [mcell, if_pos ⟨rfl, rfl⟩]; omega
      · dsimp only
        rw [mcell, if_pos ⟨rfl, rfl⟩] at hj
        rw [mcell, if_neg (by omega), mcell, mcell, if_neg (show ¬ (6 = 8 ∧ j = 1) by omega), mcell]
        by_cases e : j = l
        · rw [if_pos ⟨rfl, e⟩, if_pos ⟨rfl, e⟩]; exact ⟨rfl, c⟩
        · rw [if_neg (fun q => e q.2), if_neg (fun q => e q.2)]
          exact t3 j (by rw [el]; omega)
  · rw [in_f (by rw [i32, i126]; exact c), sb, if_pos rfl]
    by_cases d : x1 < 32
    · rw [if_pos d]; exact h.err rfl rfl
    · rw [if_neg d]
      rw [t_lt, i32] at d
      rw [if_neg (by rw [t_le, i126]; omega)]; exact h.err rfl rfl
theorem xclear {w : Int} {st : Nat} {X : XS} {M : Nat → Nat → Int32} (h : XRs w st X M) : CR w (fX_clearText X) (fM_clearText M) := by
  obtain ⟨⟨s1, s2, s3⟩, h2, h3, h4, h5, h6, ⟨t1, t2, t3⟩⟩ := id h
  unfold fX_clearText fM_clearText
  rw [lt_is, lt_is, t1]
  have hC : ∀ a, a ≠ 11 → setC X.1 11 0 0 a = X.1 a := fun a g11 => funext fun j => by rw [mcell, if_neg (fun q => g11 q.1)]
  have hF : ∀ b, b ≠ 8 → setC M 8 1 0 b = M b := fun b g8 => funext fun j => by rw [mcell, if_neg (fun q => g8 q.1)]
  refine ⟨M 8 1, ((setC X.1 11 0 0, X.2) : XS), setC M 8 1 0, st, rfl, rfl, ⟨s1, ?_, ?_⟩, ?_, fun j hj => ?_, h4, h5, fun j hj => ?_, ?_, ?_, fun j hj => ?_⟩
  · dsimp only; rw [hC 13 (by decide)]; exact s2
  · rw [mcell, if_neg (by omega)]; exact s3
  · dsimp only; rw [hC 0 (by decide), hF 0 (by decide)]; exact h2
  · have bj := h4 (1 + j) (by omega)
    dsimp only
    rw [hC _ (by omega)]
    refine RW_move (h3 j hj) (SR.refl _) (fun i hi => ?_)
    unfold HR
    rw [hF 2 (by decide)]
  · obtain ⟨u1, u2⟩ := h6 j hj
    dsimp only
    rw [hC 12 (by decide), hC (7 + j) (by omega), hF 4 (by decide)]
    refine ⟨u1, fun q => RW_move (u2 q) (SR.refl _) (fun i hi => ?_)⟩
    unfold HR
    rw [hF 3 (by decide)]
  · dsimp only; rw [mcell, if_pos ⟨rfl, rfl⟩, mcell, if_pos ⟨rfl, rfl⟩]
  · rw [mcell, if_pos ⟨rfl, rfl⟩, i_0]; omega
  · rw [mcell, if_pos ⟨rfl, rfl⟩, i_0] at hj; omega
