/-! CLASS AND LAW: the relation of the whole, and a changing call seen row by row -/
theorem recL_row : ∀ (fu : Nat) (M : Nat → Nat → Int32) (r y : Int32) (q : Int32) (M' : Nat → Nat → Int32), fM_recorded_L59 fu M r y = some (q, M') → M' 0 = M 0
  | 0, _, _, _, _, _, h => nomatch h
  | fu + 1, M, r, y, q, M', h => by
    rw [fM_recorded_L59] at h
    split at h
    · rw [lt_is] at h
      obtain ⟨-, rfl⟩ := Prod.mk.inj (Option.some.inj h)
      unfold setC; exact updA_ne _ (by decide)
    · obtain ⟨-, h⟩ := gd_some h
      obtain ⟨-, h⟩ := gd_some h
      rw [lt_is] at h
      have := recL_row fu _ r _ q M' h
      rw [this]
      unfold setC; exact updA_ne _ (by decide)
theorem shL_row : ∀ (fu : Nat) (M : Nat → Nat → Int32) (r y : Int32) (q : Int32) (M' : Nat → Nat → Int32), fM_recorded_L19 fu M r y = some (q, M') → M' 0 = M 0
  | 0, _, _, _, _, _, h => nomatch h
  | fu + 1, M, r, y, q, M', h => by
    rw [fM_recorded_L19] at h
    split at h
    · rw [lt_is] at h
      have := recL_row _ _ _ _ _ _ h
      rw [this]
      unfold setC; exact updA_ne _ (by decide)
    · obtain ⟨-, h⟩ := gd_some h
      obtain ⟨-, h⟩ := gd_some h
      rw [lt_is] at h
      have := shL_row fu _ r _ q M' h
      rw [this]
      unfold setC; exact updA_ne _ (by decide)
theorem recorded_row {M M' : Nat → Nat → Int32} {r q : Int32} (h : fM_recorded M r = some (q, M')) : M' 0 = M 0 := by
  unfold fM_recorded at h
  obtain ⟨z, -, h⟩ := bd_some h
  split at h
  · split at h
    · exact shL_row _ _ _ _ _ _ h
    · exact recL_row _ _ _ _ _ _ h
  · obtain ⟨-, rfl⟩ := Prod.mk.inj (Option.some.inj h)
    rfl
theorem tailX_row {X X' : XS} {r q : Int32} (h : tailX X r = some (q, X')) : X'.1 0 = X.1 0 := by
  unfold tailX at h
  split at h
  · obtain ⟨-, rfl⟩ := Prod.mk.inj (Option.some.inj h); rfl
  · split at h
    · obtain ⟨-, rfl⟩ := Prod.mk.inj (Option.some.inj h); rfl
    · obtain ⟨-, h⟩ := gd_some h
      obtain ⟨-, h⟩ := gd_some h
      simp only [lt_is] at h
      obtain ⟨-, rfl⟩ := Prod.mk.inj (Option.some.inj h)
      dsimp only
      unfold setC; exact updA_ne _ (by decide)
theorem changed_row {X X' : XS} {r q : Int32} (h : fX_changed X r = some (q, X')) : X'.1 0 = X.1 0 := by
  unfold fX_changed at h
  obtain ⟨z, -, h⟩ := bd_some h
  split at h
  · obtain ⟨Y, hY, h⟩ := bd_some h
    have e : Y.1 0 = X.1 0 := by
      split at hY
      · rw [← Option.some.inj hY]
      · rw [drop_is, sb] at hY
        rw [← Option.some.inj hY]
        dsimp only
        unfold setC; exact updA_ne _ (by decide)
    rw [← e]
    exact tailX_row (X := Y) h
  · obtain ⟨-, rfl⟩ := Prod.mk.inj (Option.some.inj h); rfl
/-- a changing call: what becomes of the row, in class and reference -/
theorem call2 {w w' : Int} {st : Nat} {X : XS} {M : Nat → Nat → Int32} (hw : w ≤ w') (o : Row → Option (Int32 × Row)) (p : (Nat → Nat → Int32) → Option (Int32 × (Nat → Nat → Int32)))
    (hop : ∀ (σ : Row) (Q : Nat → Nat → Int32), RW w σ (Q 0) → RES w' σ Q (o σ) (p Q)) (h : XRs w st X M) :
    ∃ r σ' ρ' X' M' st' M1, M1 0 = M 0 ∧ o (X.1 0) = some (r, σ') ∧ p M1 = some (r, mw M1 ρ') ∧ ((ERR r ∧ σ' = X.1 0 ∧ ρ' = M 0) ∨ (-1000001 < r.toInt ∧ RW w' σ' ρ')) ∧
      ((fS_copyFrom X.1 ((X.2 0).val) 0).bind fun q1 => lt ((q1, X.2) : XS) fun X2 => (o (X2.1 0)).bind fun q4 => lt ((updA X2.1 0 q4.2, X2.2) : XS) fun X5 => (fX_changed X5 q4.1).bind fun q7 => some (q7.1, q7.2)) = some (r, X') ∧ XRs w' st' X' M' ∧ X'.1 0 = σ' ∧ M' 0 = ρ' := by
  have h4 := h.2.2.2.1
  have hr := h.2.1
  have b0 := h4 0 (by decide)
  obtain ⟨C1, a1, a2, a3⟩ := scopy_is X.1 (ja := (X.2 0).val) (jb := 0) (by omega)
  obtain ⟨M1, n1, n2⟩ := note_is M
  have e0 : C1 0 = X.1 0 := a2 0 (by omega)
  have m0 : M1 0 = M 0 := funext fun j => by rw [n2 0 j, if_neg (by omega)]
  have mF : ∀ b, b ≠ 1 → M1 b = M b := fun b hb => funext fun j => by rw [n2 b j, if_neg (by omega)]
  obtain ⟨r, σ', ρ', k1, k2, k3⟩ := hop (X.1 0) M1 (by rw [m0]; exact hr)
  have base : RW w' σ' ρ' → XRs w' st ((updA C1 0 σ', X.2) : XS) (mw M1 ρ') := fun hn => XRs_of h hw (by rw [mw_0]; dsimp only; rw [updA_same]; exact hn) rfl (fun a g0 g1 g10 g11 gb => by dsimp only; rw [updA_ne _ g0]; exact a2 a gb) (by dsimp only; rw [updA_ne _ (by decide), a2 11 (by omega)])
    (fun b g0 g1 g5 g7 g8 => by rw [mw_ne _ _ g0]; exact mF b g1) ⟨by rw [mw_ne _ _ (by decide), mF 8 (by decide)], by rw [mw_ne _ _ (by decide), mF 8 (by decide)]⟩
  rcases k3 with ⟨g1, g2, g3⟩ | ⟨g1, g2⟩
  · obtain ⟨q1, q2⟩ := isErr_t g1
    refine ⟨r, σ', ρ', (updA C1 0 σ', X.2), mw M1 ρ', st, M1, m0, k1, k2, Or.inl ⟨g1, g2, by rw [g3, m0]⟩, ?_, base (by rw [g2, g3, m0]; exact hr.mono hw), by dsimp only; rw [updA_same], mw_0 _ _⟩
    rw [a1, sb, lt_is]
    dsimp only
    rw [e0, k1, sb, lt_is]
    dsimp only
    unfold fX_changed
    rw [q1, sb, if_neg n10, sb]
  · have hb : RW w' (((updA C1 0 σ', X.2) : XS).1 (((updA C1 0 σ', X.2) : XS).2 0).val) (mw M1 ρ' 1) := by
      dsimp only
      rw [updA_ne _ (show (X.2 0).val ≠ 0 by omega), mw_ne _ _ (by decide)]
      exact (RW_move hr a3 (fun j hj => by rw [n2 1 j, if_pos (by omega), Nat.sub_zero])).mono hw
    obtain ⟨X', M', st', c1, c2, c3⟩ := changed_is g1 (base g2) hb
    refine ⟨r, σ', ρ', X', M', st', M1, m0, k1, k2, Or.inr ⟨g1, g2⟩, ?_, c3, ?_, ?_⟩
    · rw [a1, sb, lt_is]
      dsimp only
      rw [e0, k1, sb, lt_is]
      dsimp only
      rw [c1, sb]
    · rw [changed_row c1]; dsimp only; rw [updA_same]
    · rw [recorded_row c2, mw_0]
/-- the relation: class, a ghost of the reference, the law's rows -/
def LQ (w : Int) (n : Nat) (T : Int) (X : XS) (N M : Nat → Nat → Int32) (g : Int32) : Prop := (∃ st, XRs w st X M) ∧ M 0 = dec (N 0) (N 1) (N 2) (N 3) g ∧ RR n (X.1 0) (M 0) ∧ WB (X.1 0) n w ∧ INV (X.1 0) n ∧ (X.1 0 6).toInt ≤ T
def LW (w : Int) (n : Nat) (T : Int) (X : XS) (N : Nat → Nat → Int32) : Prop := ∃ M g, LQ w n T X N M g
theorem DS012 : DS 0 1 2 := ⟨by decide, by decide, by decide⟩
theorem DS456 : DS 4 5 6 := ⟨by decide, by decide, by decide⟩
theorem O0123 : O4 0 1 2 3 := ⟨DS012, by decide, by decide, by decide⟩
theorem O4563 : O4 4 5 6 3 := ⟨DS456, by decide, by decide, by decide⟩
theorem RR_n {n n' : Nat} {σ ρ ρ' : Row} (h : RR n σ ρ) (h' : RR n' σ ρ') : n = n' := by
  have a := h.1.1
  have b := h'.1.1
  have e := a.1.symm.trans b.1
  rw [t_eq, t_lit n (by omega), t_lit n' (by omega)] at e
  omega
theorem LQ.n5 {w T : Int} {n : Nat} {X : XS} {N M : Nat → Nat → Int32} {g : Int32} (h : LQ w n T X N M g) : n ≤ 5 := h.2.2.1.1.1.2
theorem LQ.rw {w T : Int} {n : Nat} {X : XS} {N M : Nat → Nat → Int32} {g : Int32} (h : LQ w n T X N M g) : RW w (X.1 0) (M 0) := h.1.choose_spec.2.1
theorem LQ.a18 {w T : Int} {n : Nat} {X : XS} {N M : Nat → Nat → Int32} {g : Int32} (h : LQ w n T X N M g) : N 0 18 = nI n := by
  have e := h.2.2.1.2.2.1.1 19 (by decide) (by decide) (by decide)
  rw [h.2.2.1.1.1.1, h.2.1] at e
  rw [e]; exact (dec_up (i := 18) (by decide) (by decide)).symm
theorem L3_N (N : Nat → Nat → Int32) : L3 0 1 2 N (N 0) (N 1) (N 2) = N := L3_self (a := N 0) (u := N 0) (v := N 0)
/-- a changing call's end: the class's new row, the law's new rows -/
theorem LQ_call {w w' T T' : Int} {n n' : Nat} {X X' : XS} {N N' M M' : Nat → Nat → Int32} {g' : Int32} {st' : Nat} {σ' ρ' : Row} (hx : XRs w' st' X' M') (e1 : X'.1 0 = σ') (e2 : M' 0 = ρ') (hd : ρ' = dec (N' 0) (N' 1) (N' 2) (N' 3) g') (hi : ∀ ρ'' : Row, RR n' σ' ρ'' → INV σ' n') (hn : σ' 19 = nI n') (h5 : n' ≤ 5) (hT : (σ' 6).toInt ≤ T') : LW w' n' T' X' N' := by
  obtain ⟨m, r1, r2, r3⟩ := hx.2.1
  have e : m = n' := by
    have a := r1.1.1
    rw [e1, hn] at a
    have := a.1
    rw [t_eq, t_lit n' (by omega), t_lit m (by omega)] at this
    omega
  subst e
  rw [e1] at r1 r2 r3
  exact ⟨M', g', ⟨st', hx⟩, by rw [e2]; exact hd, by rw [e1]; exact r1, by rw [e1]; exact r3, by rw [e1]; exact hi _ r1, by rw [e1]; exact hT⟩
