/-! ## a changing call -/
theorem XRs_of {w w' : Int} {st : Nat} {X X' : XS} {M M' : Nat → Nat → Int32} (h : XRs w st X M) (hw : w ≤ w') (hr : RW w' (X'.1 0) (M' 0)) (hB : X'.2 = X.2)
    (hC : ∀ a, a ≠ 0 → a ≠ 1 → a ≠ 10 → a ≠ 11 → a ≠ (X.2 0).val → X'.1 a = X.1 a) (h11 : X'.1 11 0 = X.1 11 0) (hM : ∀ b, b ≠ 0 → b ≠ 1 → b ≠ 5 → b ≠ 7 → b ≠ 8 → M' b = M b) (h8 : M' 8 0 = M 8 0 ∧ M' 8 1 = M 8 1) : XRs w' st X' M' := by
  obtain ⟨⟨s1, s2, s3⟩, h2, h3, h4, h5, h6, h7⟩ := h
  have b0 := h4 0 (by decide)
  refine ⟨⟨s1, by rw [hC 13 (by decide) (by decide) (by decide) (by decide) (by omega)]; exact s2, by rw [h8.1]; exact s3⟩, hr, fun i hi => ?_, by rw [hB]; exact h4, by rw [hB]; exact h5, fun i hi => ?_, ?_⟩
  · have bi := h4 (1 + i) (by omega)
    have ne : (X.2 (1 + i)).val ≠ (X.2 0).val := fun q => by
      have := h5 (1 + i) 0 (by omega) (by decide) (Fin.ext q)
      omega
    rw [hB, hC _ (by omega) (by omega) (by omega) (by omega) ne]
    refine (RW_move (h3 i hi) (SR.refl _) (fun j hj => ?_)).mono hw
    unfold HR
    rw [hM 2 (by decide) (by decide) (by decide) (by decide) (by decide)]
  · obtain ⟨a, b⟩ := h6 i hi
    rw [hC 12 (by decide) (by decide) (by decide) (by decide) (by omega), hM 4 (by decide) (by decide) (by decide) (by decide) (by decide), hC (7 + i) (by omega) (by omega) (by omega) (by omega) (by omega)]
    refine ⟨a, fun q => (RW_move (b q) (SR.refl _) (fun j hj => ?_)).mono hw⟩
    unfold HR
    rw [hM 3 (by decide) (by decide) (by decide) (by decide) (by decide)]
  · rw [h11, h8.2, hC 9 (by decide) (by decide) (by decide) (by decide) (by omega), hM 6 (by decide) (by decide) (by decide) (by decide) (by decide)]
    exact h7
theorem push_is {w : Int} {st : Nat} {X : XS} {M M'' : Nat → Nat → Int32} (hst : st < 4) (h : XRs w st X M) (hb : RW w (X.1 (X.2 0).val) (M 1)) (hp : PUT M 2 (120 * st) 120 (M 1) M'') :
    XRs w (st + 1) ((setC X.1 13 0 (nI (st + 1)), pushB X.2 st) : XS) (setC M'' 8 0 (nI (st + 1))) := by
  obtain ⟨⟨s1, s2, s3⟩, h2, h3, h4, h5, h6, h7⟩ := h
  have hC : ∀ a, a ≠ 13 → setC X.1 13 0 (nI (st + 1)) a = X.1 a := fun a ha => by unfold setC; exact updA_ne _ ha
  have hM : ∀ b j, b ≠ 2 → b ≠ 8 → setC M'' 8 0 (nI (st + 1)) b j = M b j := fun b j h2 h8 => by rw [mcell, if_neg (fun q => h8 q.1), hp b j, if_neg (fun q => h2 q.1)]
  have hM2 : ∀ j, setC M'' 8 0 (nI (st + 1)) 2 j = if 120 * st ≤ j ∧ j < 120 * st + 120 then M 1 (j - 120 * st) else M 2 j := fun j => by
    rw [mcell, if_neg (by omega), hp 2 j]
    by_cases e : 120 * st ≤ j ∧ j < 120 * st + 120
    · rw [if_pos e, if_pos ⟨rfl, e⟩]
    · rw [if_neg e, if_neg (fun q => e q.2)]
  have hF : ∀ b, b ≠ 2 → b ≠ 8 → setC M'' 8 0 (nI (st + 1)) b = M b := fun b h2 h8 => funext fun j => hM b j h2 h8
  have pB := pushB_perm (B := X.2) hst
  have hd := pB.dom h4
  refine ⟨⟨by omega, by dsimp only; rw [mcell, if_pos ⟨rfl, rfl⟩], by rw [mcell, if_pos ⟨rfl, rfl⟩]⟩, ?_, fun i hi => ?_, hd, pB.inj h5, fun i hi => ?_, ?_⟩
  · dsimp only
    rw [hC 0 (by decide), hF 0 (by decide) (by decide)]; exact h2
  · dsimp only
    have di := hd (1 + i) (by omega)
    rw [hC _ (by omega)]
    by_cases e : i = st
    · subst e
      have eB : pushB X.2 i (1 + i) = X.2 0 := by
        unfold pushB updB
        rw [if_neg (by omega), if_pos rfl]
      rw [eB]
      refine RW_move hb (SR.refl _) (fun j hj => ?_)
      unfold HR
      rw [hM2, if_pos (by omega), show 120 * i + j - 120 * i = j by omega]
    · have eB : pushB X.2 st (1 + i) = X.2 (1 + i) := by
        unfold pushB updB
        rw [if_neg (by omega), if_neg (by omega)]
      rw [eB]
      refine RW_move (h3 i (by omega)) (SR.refl _) (fun j hj => ?_)
      unfold HR
      rw [hM2, if_neg (by omega)]
  · dsimp only
    obtain ⟨a, b⟩ := h6 i hi
    rw [hC 12 (by decide), hF 4 (by decide) (by decide), hC (7 + i) (by omega)]
    refine ⟨a, fun q => RW_move (b q) (SR.refl _) (fun j hj => ?_)⟩
    unfold HR
    rw [hF 3 (by decide) (by decide)]
  · dsimp only
    rw [hC 11 (by decide), hC 9 (by decide), hF 6 (by decide) (by decide), mcell, if_neg (by omega), hp 8 1, if_neg (by omega)]
    exact h7
theorem drop4 {w : Int} {X : XS} {M M'' : Nat → Nat → Int32} (h : XRs w 4 X M) (hp : PUT M 2 0 360 (fun j => M 2 (j + 120)) M'') :
    XRs w 3 ((setC X.1 13 0 (nI 3), dropB X.2) : XS) (setC M'' 8 0 (nI 3)) := by
  obtain ⟨⟨s1, s2, s3⟩, h2, h3, h4, h5, h6, h7⟩ := h
  have hC : ∀ a, a ≠ 13 → setC X.1 13 0 (nI 3) a = X.1 a := fun a ha => by unfold setC; exact updA_ne _ ha
  have hM : ∀ b j, b ≠ 2 → b ≠ 8 → setC M'' 8 0 (nI 3) b j = M b j := fun b j h2 h8 => by rw [mcell, if_neg (fun q => h8 q.1), hp b j, if_neg (fun q => h2 q.1)]
  have hM2 : ∀ j, j < 360 → setC M'' 8 0 (nI 3) 2 j = M 2 (j + 120) := fun j hj => by
    rw [mcell, if_neg (by omega), hp 2 j, if_pos (by omega), Nat.sub_zero]
  have hF : ∀ b, b ≠ 2 → b ≠ 8 → setC M'' 8 0 (nI 3) b = M b := fun b h2 h8 => funext fun j => hM b j h2 h8
  have pB := dropB_perm X.2
  have hd := pB.dom h4
  refine ⟨⟨by omega, by dsimp only; rw [mcell, if_pos ⟨rfl, rfl⟩], by rw [mcell, if_pos ⟨rfl, rfl⟩]⟩, ?_, fun i hi => ?_, hd, pB.inj h5, fun i hi => ?_, ?_⟩
  · dsimp only
    rw [hC 0 (by decide), hF 0 (by decide) (by decide)]; exact h2
  · dsimp only
    have di := hd (1 + i) (by omega)
    rw [hC _ (by omega)]
    have eB : dropB X.2 (1 + i) = X.2 (1 + (i + 1)) := by
      rcases (show i = 0 ∨ i = 1 ∨ i = 2 by omega) with rfl | rfl | rfl <;> rfl
    rw [eB]
    refine RW_move (h3 (i + 1) (by omega)) (SR.refl _) (fun j hj => ?_)
    unfold HR
    rw [hM2 _ (by omega), show 120 * i + j + 120 = 120 * (i + 1) + j by omega]
  · dsimp only
    obtain ⟨a, b⟩ := h6 i hi
    rw [hC 12 (by decide), hF 4 (by decide) (by decide), hC (7 + i) (by omega)]
    refine ⟨a, fun q => RW_move (b q) (SR.refl _) (fun j hj => ?_)⟩
    unfold HR
    rw [hF 3 (by decide) (by decide)]
  · dsimp only
    rw [hC 11 (by decide), hC 9 (by decide), hF 6 (by decide) (by decide), mcell, if_neg (by omega), hp 8 1, if_neg (by omega)]
    exact h7
def tailX (X : XS) (r : Int32) : Option (Int32 × XS) := (if (X.1 13 0) < 0 then some (r, X) else (if (4 : Int32) ≤ (X.1 13 0) then some (r, X) else gd (inb (X.1 13 0) 4) (gd (inb (X.1 13 0) 4) (lt ((X.1, updB X.2 (1 + (X.1 13 0).toNatClampNeg) (X.2 0)) : XS) fun X8 => lt ((X8.1, updB X8.2 0 (X.2 (1 + (X.1 13 0).toNatClampNeg))) : XS) fun X10 => lt ((setC X10.1 13 0 ((X10.1 13 0) + (1 : Int32)), X10.2) : XS) fun X12 => some (r, X12)))))
theorem tailX_is {X : XS} {st : Nat} (hst : st < 4) (h : X.1 13 0 = nI st) (r : Int32) : tailX X r = some (r, ((setC X.1 13 0 (nI (st + 1)), pushB X.2 st) : XS)) := by
  have t := t_lit st (by omega)
  have i4 : (4 : Int32).toInt = 4 := rfl
  unfold tailX
  rw [h, if_neg (by rw [t_lt, i_0]; omega), if_neg (by rw [t_le, i4]; omega), inb_nI hst (by decide), gd_t, gd_t, cl_nI (by omega), lt_is, lt_is, lt_is]
  dsimp only
  rw [h, ← nI_succ]
  rfl
theorem isErr_t {r : Int32} (h : ERR r) : fX_isErrorCode r = some 1 ∧ fM_isError r = some 1 := by
  obtain ⟨a, b⟩ := h
  have i1 : (-1000001 : Int32).toInt = -1000001 := rfl
  have i4 : (-1000004 : Int32).toInt = -1000004 := rfl
  unfold fX_isErrorCode fM_isError
  exact ⟨by rw [if_neg (by rw [t_lt, i1]; omega), if_neg (by rw [t_lt, i4]; omega)], by rw [if_neg (by rw [t_lt, i1]; omega)]⟩
theorem isErr_f {r : Int32} (h : -1000001 < r.toInt) : fX_isErrorCode r = some 0 ∧ fM_isError r = some 0 := by
  have i1 : (-1000001 : Int32).toInt = -1000001 := rfl
  unfold fX_isErrorCode fM_isError
  exact ⟨by rw [if_pos (by rw [t_lt, i1]; omega)], by rw [if_pos (by rw [t_lt, i1]; omega)]⟩
theorem changed_is {w : Int} {st : Nat} {X : XS} {M : Nat → Nat → Int32} {r : Int32} (hr : -1000001 < r.toInt) (h : XRs w st X M) (hb : RW w (X.1 (X.2 0).val) (M 1)) :
    ∃ X' M' st', fX_changed X r = some (r, X') ∧ fM_recorded M r = some (r, M') ∧ XRs w st' X' M' := by
  obtain ⟨q1, q2⟩ := isErr_f hr
  obtain ⟨⟨s1, s2, s3⟩, -, -, h4, -⟩ := id h
  have b0 := h4 0 (by decide)
  have i4 : (4 : Int32).toInt = 4 := rfl
  have t := t_lit st (by omega)
  unfold fX_changed fM_recorded
  rw [q1, q2, sb, sb, if_pos rfl, if_pos rfl]
  show ∃ X' M' st', ((if (X.1 13 0) < (4 : Int32) then some X else (fX_dropOldestState X).bind fun q15 => some q15).bind fun q3 => tailX q3 r) = some (r, X') ∧ _
  by_cases c : st = 4
  · subst c
    rw [if_neg (show ¬ X.1 13 0 < 4 by rw [s2, t_lt, i4]; omega), if_pos (show M 8 0 = 4 by rw [s3]; rfl), drop_is, sb, sb]
    obtain ⟨M1, a1, a2⟩ := shift_L (M := M) r s3 360 0 fuel M (by omega) (by unfold fuel; omega) (PUT.z _ _ _ _)
    have h' := drop4 h a2
    have hb' : RW w (((setC X.1 13 0 (nI 3), dropB X.2) : XS).1 (((setC X.1 13 0 (nI 3), dropB X.2) : XS).2 0).val) (setC M1 8 0 (nI 3) 1) := by
      dsimp only
      rw [(dropB_at X.2).1]
      have e1 : setC X.1 13 0 (nI 3) (X.2 0).val = X.1 (X.2 0).val := by unfold setC; exact updA_ne _ (by omega)
      have e2 : setC M1 8 0 (nI 3) 1 = M 1 := funext fun j => by rw [mcell, if_neg (by omega), a2 1 j, if_neg (by omega)]
      rw [e1, e2]; exact hb
    obtain ⟨M2, c1, c2⟩ := rec_L (M := setC M1 8 0 (nI 3)) (st := 3) (by decide) (by rw [mcell, if_pos ⟨rfl, rfl⟩]) r 120 0 fuel _ (by omega) (by unfold fuel; omega) (PUT.z _ _ _ _)
    refine ⟨_, _, _, tailX_is (st := 3) (by decide) (by dsimp only; rw [mcell, if_pos ⟨rfl, rfl⟩]) r, ?_, push_is (by decide) h' hb' c2⟩
    rw [show (0 : Int32) = nI 0 from rfl, a1]
    exact c1
  · rw [if_pos (show X.1 13 0 < 4 by rw [s2, t_lt, i4]; omega), if_neg (show ¬ M 8 0 = 4 by rw [s3, t_eq, i4]; omega), sb]
    obtain ⟨M2, c1, c2⟩ := rec_L (M := M) (st := st) (by omega) s3 r 120 0 fuel _ (by omega) (by unfold fuel; omega) (PUT.z _ _ _ _)
    exact ⟨_, _, _, tailX_is (st := st) (by omega) s2 r, c1, push_is (by omega) h hb c2⟩
