/-! THE LAW'S CHANGES: what is drawn from the script; the end of a changing call; leading, wax -/
theorem and_pos (x : Int32) : 0 ≤ (x &&& (2147483647 : Int32)).toInt := by
  have key : ∀ z : Int32, z.toBitVec.msb = false → (0 : Int) ≤ z.toInt := by
    intro z hz
    have : z.toBitVec.msb = decide (z.toBitVec.toInt < 0) := BitVec.msb_eq_toInt
    rw [this] at hz
    have := of_decide_eq_false hz
    show (0 : Int) ≤ z.toBitVec.toInt
    omega
  apply key
  rw [Int32.toBitVec_and, BitVec.msb_and, show (2147483647 : Int32).toBitVec.msb = false from by decide, Bool.and_false]
theorem low_i (x : Int32) {m : Nat} (h1 : 1 ≤ m) (h2 : m < 2147483648) : ∃ j, j < m ∧ fL_low x (nI m) = some (nI j) := by
  have hm := t_lit m h2
  have hp := and_pos x
  have e := rem_i (x := x &&& (2147483647 : Int32)) (y := nI m) hp (by omega)
  have q1 := Int.emod_nonneg (x &&& (2147483647 : Int32)).toInt (show (nI m).toInt ≠ 0 by omega)
  have q2 := Int.emod_lt_of_pos (x &&& (2147483647 : Int32)).toInt (show 0 < (nI m).toInt by omega)
  unfold fL_low
  rw [nz_pos (by omega), gd_t]
  refine ⟨((x &&& (2147483647 : Int32)) - (x &&& (2147483647 : Int32)) / nI m * nI m).toInt.toNat, by omega, ?_⟩
  rw [← nI_back (by omega)]
theorem INV_SH {σ ρ : Row} {n : Nat} (hn : n ≤ 5) (hs : SH σ ρ) (h : INV ρ n) : INV σ n :=
  INV_of h hn (fun i h1 h2 => hs.1 i (by omega) (by omega) (by omega)) (fun c f hc hf => hs.2 c f hc (by omega)) (fun k hk => by rw [hs.2 k 14 (by omega) (by decide)]; exact (h.2.2.2.2 k hk).2)
theorem SH_symm {σ ρ : Row} (h : SH σ ρ) : SH ρ σ := ⟨fun i hi a b => (h.1 i hi a b).symm, fun c f hc hf => (h.2 c f hc hf).symm⟩
theorem LQ.inv {w T : Int} {n : Nat} {X : XS} {N M : Nat → Nat → Int32} {g : Int32} (h : LQ w n T X N M g) : INV (M 0) n := INV_SH h.n5 (SH_symm h.2.2.1.2.2.1) h.2.2.2.2.1
theorem LQ.m19 {w T : Int} {n : Nat} {X : XS} {N M : Nat → Nat → Int32} {g : Int32} (h : LQ w n T X N M g) : M 0 19 = nI n := by
  rw [← h.2.2.1.2.2.1.1 19 (by decide) (by decide) (by decide)]; exact h.2.2.1.1.1.1
theorem LQ.cb {w T : Int} {n : Nat} {X : XS} {N M : Nat → Nat → Int32} {g : Int32} (h : LQ w n T X N M g) {k : Nat} (hk : k < n) : CB (M 0) n (X.1 0 6).toInt k :=
  CB_congr (h.2.2.1.1.2.2.2 k hk) (fun f hf => (h.2.2.1.2.2.1.2 k f (by have := h.n5; omega) hf).symm)
theorem LQ.st {w T : Int} {n : Nat} {X : XS} {N M : Nat → Nat → Int32} {g : Int32} (h : LQ w n T X N M g) : ST (M 0) := ST_of (fun i hi => (h.2.2.1.2.2.1.1 i (by omega) (by omega) (by omega)).symm) h.2.2.1.1.2.1
theorem LQ.m6 {w T : Int} {n : Nat} {X : XS} {N M : Nat → Nat → Int32} {g : Int32} (h : LQ w n T X N M g) : M 0 6 = X.1 0 6 := (h.2.2.1.2.2.1.1 6 (by decide) (by decide) (by decide)).symm
theorem LQ.lo {w T : Int} {n : Nat} {X : XS} {N M : Nat → Nat → Int32} {g : Int32} (h : LQ w n T X N M g) {i : Nat} (hi : i < 12) : N 0 i = M 0 i := by rw [h.2.1]; exact (dec_lo hi).symm
/-- the end of a changing call -/
theorem op_end {w w' T T' : Int} {n n' : Nat} {X : XS} {N N' M : Nat → Nat → Int32} {g g' : Int32} (h : LQ w n T X N M g) (hw : w ≤ w') (o : Row → Option (Int32 × Row)) (p : (Nat → Nat → Int32) → Option (Int32 × (Nat → Nat → Int32)))
    (hop : ∀ (σ : Row) (Q : Nat → Nat → Int32), RW w σ (Q 0) → RES w' σ Q (o σ) (p Q)) {r0 : Int32} {ρ0 : Row} (hp : ∀ M1, M1 0 = M 0 → p M1 = some (r0, mw M1 ρ0)) (hd : ρ0 = dec (N' 0) (N' 1) (N' 2) (N' 3) g') (hi : INV ρ0 n') (hn : ρ0 19 = nI n') (h5 : n' ≤ 5) (hT : (ρ0 6).toInt ≤ T') :
    ∃ X', ((fS_copyFrom X.1 ((X.2 0).val) 0).bind fun q1 => lt ((q1, X.2) : XS) fun X2 => (o (X2.1 0)).bind fun q4 => lt ((updA X2.1 0 q4.2, X2.2) : XS) fun X5 => (fX_changed X5 q4.1).bind fun q7 => some (q7.1, q7.2)) = some (r0, X') ∧ LW w' n' T' X' N' := by
  obtain ⟨st, hx⟩ := h.1
  obtain ⟨r, σ', ρ', X', M', st', M1, m0, k1, k2, k3, c1, c2, c3, c4⟩ := call2 hw o p hop hx
  rw [hp M1 m0] at k2
  obtain ⟨e1, e2⟩ := Prod.mk.inj (Option.some.inj k2)
  subst e1
  have e3 : ρ0 = ρ' := by have := congrFun e2 0; rw [mw_0, mw_0] at this; exact this
  subst e3
  refine ⟨X', c1, ?_⟩
  have hr := c2.2.1
  rw [c3, c4] at hr
  obtain ⟨m, r1, -, -⟩ := hr
  have s19 := r1.2.2.1.1 19 (by decide) (by decide) (by decide)
  have s6 := r1.2.2.1.1 6 (by decide) (by decide) (by decide)
  exact LQ_call (w := w) (T := T) (n := n) (X := X) (N := N) (M := M) c2 c3 c4 hd (fun ρ'' r2 => INV_SH h5 r1.2.2.1 hi) (by rw [s19]; exact hn) h5 (by rw [s6]; exact hT)
theorem LQ.same {w T : Int} {n : Nat} {X : XS} {N M : Nat → Nat → Int32} {g : Int32} (h : LQ w n T X N M g) : (M 0 6).toInt ≤ T := by rw [h.m6]; exact h.2.2.2.2.2
/-- the law's rows as N -/
theorem sN1 (N : Nat → Nat → Int32) (i : Nat) (x : Int32) : setC N 1 i x 0 = N 0 ∧ setC N 1 i x 1 = upd (N 1) i x ∧ setC N 1 i x 2 = N 2 ∧ setC N 1 i x 3 = N 3 := ⟨updA_ne _ (by decide), updA_same _ _ _, updA_ne _ (by decide), updA_ne _ (by decide)⟩
theorem sN0 (N : Nat → Nat → Int32) (i : Nat) (x : Int32) : setC N 0 i x 0 = upd (N 0) i x ∧ setC N 0 i x 1 = N 1 ∧ setC N 0 i x 2 = N 2 ∧ setC N 0 i x 3 = N 3 := ⟨updA_same _ _ _, updA_ne _ (by decide), updA_ne _ (by decide), updA_ne _ (by decide)⟩
theorem sN2 (N : Nat → Nat → Int32) (i : Nat) (x : Int32) : setC N 2 i x 0 = N 0 ∧ setC N 2 i x 1 = N 1 ∧ setC N 2 i x 2 = upd (N 2) i x ∧ setC N 2 i x 3 = N 3 := ⟨updA_ne _ (by decide), updA_ne _ (by decide), updA_same _ _ _, updA_ne _ (by decide)⟩
theorem INV_upd {ρ : Row} {n k f : Nat} {x : Int32} (h : INV ρ n) (hn : n ≤ 5) (hf : f < 15) (hg : f ≠ 0 ∧ f ≠ 3 ∧ f ≠ 4 ∧ f ≠ 6 ∧ f ≠ 9) (h14 : f = 14 → -5000 ≤ x.toInt ∧ x.toInt ≤ 100000) : INV (upd ρ (KI k f) x) n :=
  INV_of h hn (fun i h1 h2 => uK_s _ (by omega)) (fun c f' hc hf' => uK_f _ (by omega) (by omega) hf) (fun c hc => by
    by_cases e : f = 14
    · subst e
      rw [uK_if]
      split
      · exact h14 rfl
      · exact (h.2.2.2.2 c hc).2
    · rw [uK_f _ (fun q => e q.symm) (by decide) hf]; exact (h.2.2.2.2 c hc).2)
theorem leads_l {w T : Int} {n : Nat} {X : XS} {N : Nat → Nat → Int32} (h : LW w n T X N) (x : Int32) : ∃ X' N', fL_leads X N x = some (1, X', N') ∧ LW w n T X' N' := by
  obtain ⟨M, g, h⟩ := h
  have hn := h.n5
  have h18 := h.a18
  have h19 := h.m19
  obtain ⟨k, hk, e1⟩ := low_i x (m := 6) (by decide) (by decide)
  obtain ⟨t, ht, e2⟩ := low_i (x >>> ((3 : Int32) &&& 31)) (m := 6) (by decide) (by decide)
  have tk := t_lit k (by omega)
  have tt := t_lit t (by omega)
  have tn := t_lit n (by omega)
  have tM : ∀ M1 : Nat → Nat → Int32, M1 0 = M 0 → M1 0 19 = nI n := fun M1 e => by rw [e]; exact h19
  -- no such call: nothing changes
  have err : ∀ r0 : Int32, (∀ M1, M1 0 = M 0 → fM_leadNow M1 (nI k) (nI t) = some (r0, M1)) → r0 < 0 → (((if nI n ≤ nI k then some (-1000001 : Int32) else (if nI n ≤ nI t then some (-1000001 : Int32) else (if nI k ≤ nI t then gd (inb ((20 : Int32) + nI k) 35) ((if (N 1 (((20 : Int32) + nI k).toNatClampNeg)) = (1 : Int32) then some (-1000002 : Int32) else gd (inb ((25 : Int32) + nI k) 35) (some (N 1 (((25 : Int32) + nI k).toNatClampNeg))))) else some (-1000001 : Int32)))) : Option (Int32))) = some r0 → ∃ X' N', fL_leads X N x = some (1, X', N') ∧ LW w n T X' N' := fun r0 hp hr hd => by
    obtain ⟨X', c1, c2⟩ := op_end (g' := g) (N' := N) (r0 := r0) (ρ0 := M 0) h (Int.le_refl w) (fun σ => fS_leadOn σ (nI k) (nI t)) (fun Q => fM_leadNow Q (nI k) (nI t)) (fun σ Q hq => lead_is hq (nI k) (nI t)) (fun M1 e => by rw [hp M1 e, ← e, mw_self]) h.2.1 h.inv h19 hn h.same
    refine ⟨X', N, ?_, c2⟩
    have c1' : fX_lead X (nI k) (nI t) = some (r0, X') := c1
    unfold fL_leads
    rw [show (6 : Int32) = nI 6 from rfl, e1, sb, e2, sb, h18, hd, sb, if_pos hr, sb, c1', sb, if_pos rfl]
  by_cases q1 : k < n
  · have a1 : ¬ nI n ≤ nI k := by rw [t_le]; omega
    by_cases q2 : t < n
    · have a2 : ¬ nI n ≤ nI t := by rw [t_le]; omega
      by_cases q3 : k ≤ t
      · have a3 : nI k ≤ nI t := by rw [t_le]; omega
        obtain ⟨a20, b20, -⟩ := ix20 k (by omega)
        obtain ⟨a25, b25, -⟩ := ix25 k (by omega)
        have d0 : N 1 (20 + k) = M 0 (KI k 0) := by rw [h.2.1]; exact rd_0 _ _ _ _ _ (by omega)
        have d5 : N 1 (25 + k) = M 0 (KI k 5) := by rw [h.2.1]; exact rd_5 _ _ _ _ _ (by omega)
        by_cases q4 : M 0 (KI k 0) = 1
        · refine err (-1000002) (fun M1 e => ?_) (by decide) ?_
          · unfold fM_leadNow
            rw [mclock_in (tM M1 e) hn q1, sb, if_neg n10, mclock_in (tM M1 e) hn q2, sb, if_neg n10, if_pos a3, of_0 M1 (by omega), sb, e, if_pos q4]
          · rw [if_neg a1, if_neg a2, if_pos a3, gd_b b20, a20, d0, if_pos q4]
        · have cb := (h.cb q1).2.2.2.2.2.1
          have nneg : ¬ M 0 (KI k 5) < 0 := by rw [cb.1, t_lt, t_lit _ (by omega), i_0]; omega
          have hd : dec (setC N 1 (25 + k) (nI t) 0) (setC N 1 (25 + k) (nI t) 1) (setC N 1 (25 + k) (nI t) 2) (setC N 1 (25 + k) (nI t) 3) g = upd (M 0) (KI k 5) (nI t) := by
            obtain ⟨s0, s1, s2, s3⟩ := sN1 N (25 + k) (nI t)
            rw [s0, s1, s2, s3, du_5 _ (by omega), ← h.2.1]
          obtain ⟨X', c1, c2⟩ := op_end (g' := g) (N' := setC N 1 (25 + k) (nI t)) (n' := n) (T' := T) (r0 := M 0 (KI k 5)) (ρ0 := upd (M 0) (KI k 5) (nI t)) h (Int.le_refl w) (fun σ => fS_leadOn σ (nI k) (nI t)) (fun Q => fM_leadNow Q (nI k) (nI t)) (fun σ Q hq => lead_is hq (nI k) (nI t)) (fun M1 e => by
            unfold fM_leadNow
            rw [mclock_in (tM M1 e) hn q1, sb, if_neg n10, mclock_in (tM M1 e) hn q2, sb, if_neg n10, if_pos a3, of_0 M1 (by omega), sb, e, if_neg q4, of_5 M1 (by omega), sb, put_5 M1 _ (by omega), sb, e]) hd.symm (INV_upd h.inv hn (by decide) (by decide) (fun q => absurd q (by decide))) (by rw [uK_s _ (by decide)]; exact h19) hn (by rw [uK_s _ (by decide)]; exact h.same)
          refine ⟨X', _, ?_, c2⟩
          have c1' : fX_lead X (nI k) (nI t) = some (M 0 (KI k 5), X') := c1
          unfold fL_leads
          rw [show (6 : Int32) = nI 6 from rfl, e1, sb, e2, sb, h18, if_neg a1, if_neg a2, if_pos a3, gd_b b20, a20, d0, if_neg q4, gd_b b25, a25, d5, sb, if_neg nneg, gd_b b25, lt_is, sb, c1', sb, if_pos rfl]
      · have a3 : ¬ nI k ≤ nI t := by rw [t_le]; omega
        refine err (-1000001) (fun M1 e => ?_) (by decide) ?_
        · unfold fM_leadNow
          rw [mclock_in (tM M1 e) hn q1, sb, if_neg n10, mclock_in (tM M1 e) hn q2, sb, if_neg n10, if_neg a3]
        · rw [if_neg a1, if_neg a2, if_neg a3]
    · have a2 : nI n ≤ nI t := by rw [t_le]; omega
      refine err (-1000001) (fun M1 e => ?_) (by decide) ?_
      · unfold fM_leadNow
        rw [mclock_in (tM M1 e) hn q1, sb, if_neg n10, mclock_out (tM M1 e) hn (by omega), sb, if_pos rfl]
      · rw [if_neg a1, if_pos a2]
  · have a1 : nI n ≤ nI k := by rw [t_le]; omega
    refine err (-1000001) (fun M1 e => ?_) (by decide) ?_
    · unfold fM_leadNow
      rw [mclock_out (tM M1 e) hn (by omega), sb, if_pos rfl]
    · rw [if_pos a1]
theorem waxes_l {w T : Int} {n : Nat} {X : XS} {N : Nat → Nat → Int32} (h : LW w n T X N) (x : Int32) : ∃ X' N', fL_waxes X N x = some (1, X', N') ∧ LW w n T X' N' := by
  obtain ⟨M, g, h⟩ := h
  have hn := h.n5
  have h18 := h.a18
  have h19 := h.m19
  obtain ⟨k, hk, e1⟩ := low_i x (m := 6) (by decide) (by decide)
  obtain ⟨t, ht, e2⟩ := low_i (x >>> ((3 : Int32) &&& 31)) (m := 61) (by decide) (by decide)
  have tk := t_lit k (by omega)
  have tt := t_lit t (by omega)
  have tn := t_lit n (by omega)
  have i59 : (59 : Int32).toInt = 59 := rfl
  have tM : ∀ M1 : Nat → Nat → Int32, M1 0 = M 0 → M1 0 19 = nI n := fun M1 e => by rw [e]; exact h19
  have err : ∀ r0 : Int32, (∀ M1, M1 0 = M 0 → fM_waxNow M1 (nI k) (nI t) = some (r0, M1)) → r0 ≤ 0 → (((if nI n ≤ nI k then some (-1000001 : Int32) else (if nI t < (1 : Int32) then some (-1000001 : Int32) else (if nI t ≤ (59 : Int32) then gd (inb ((10 : Int32) + nI k) 35) ((if nI t < (N 1 (((10 : Int32) + nI k).toNatClampNeg)) then gd (inb ((10 : Int32) + nI k) 35) (some ((N 1 (((10 : Int32) + nI k).toNatClampNeg)) - nI t)) else some (-1000002 : Int32))) else some (-1000001 : Int32)))) : Option (Int32))) = some r0 → ∃ X' N', fL_waxes X N x = some (1, X', N') ∧ LW w n T X' N' := fun r0 hp hr hd => by
    obtain ⟨X', c1, c2⟩ := op_end (g' := g) (N' := N) (r0 := r0) (ρ0 := M 0) h (Int.le_refl w) (fun σ => fS_narrow σ (nI k) (nI t)) (fun Q => fM_waxNow Q (nI k) (nI t)) (fun σ Q hq => wax_is hq (nI k) (nI t)) (fun M1 e => by rw [hp M1 e, ← e, mw_self]) h.2.1 h.inv h19 hn h.same
    refine ⟨X', N, ?_, c2⟩
    have c1' : fX_wax X (nI k) (nI t) = some (r0, X') := c1
    unfold fL_waxes
    rw [show (6 : Int32) = nI 6 from rfl, show (61 : Int32) = nI 61 from rfl, e1, sb, e2, sb, h18, hd, sb, if_pos hr, sb, c1', sb, if_pos rfl]
  by_cases q1 : k < n
  · have a1 : ¬ nI n ≤ nI k := by rw [t_le]; omega
    by_cases q2 : 1 ≤ t
    · have a2 : ¬ nI t < 1 := by rw [t_lt, i_1]; omega
      by_cases q3 : t ≤ 59
      · have a3 : nI t ≤ 59 := by rw [t_le, i59]; omega
        obtain ⟨a10, b10, -⟩ := ix10 k (by omega)
        have d1 : N 1 (10 + k) = M 0 (KI k 1) := by rw [h.2.1]; exact rd_1 _ _ _ _ _ (by omega)
        have cb := (h.cb q1).2.1
        have es : (M 0 (KI k 1) - nI t).toInt = (M 0 (KI k 1)).toInt - t := by rw [t_sub (by omega) (by omega), tt]
        have hin : ∀ y : Int32, fM_in (nI t) (1 : Int32) (59 : Int32) = some 1 := fun _ => in_t (by rw [i_1, i59]; omega)
        by_cases q4 : nI t < M 0 (KI k 1)
        · have q4' := q4
          rw [t_lt, tt] at q4'
          have pos : ¬ M 0 (KI k 1) - nI t ≤ 0 := by rw [t_le, es, i_0]; omega
          have p1 : (1 : Int32) ≤ M 0 (KI k 1) - nI t := by rw [t_le, es, i_1]; omega
          have hd : dec (setC N 1 (10 + k) (M 0 (KI k 1) - nI t) 0) (setC N 1 (10 + k) (M 0 (KI k 1) - nI t) 1) (setC N 1 (10 + k) (M 0 (KI k 1) - nI t) 2) (setC N 1 (10 + k) (M 0 (KI k 1) - nI t) 3) g = upd (M 0) (KI k 1) (M 0 (KI k 1) - nI t) := by
            obtain ⟨s0, s1, s2, s3⟩ := sN1 N (10 + k) (M 0 (KI k 1) - nI t)
            rw [s0, s1, s2, s3, du_1 _ (by omega), ← h.2.1]
          obtain ⟨X', c1, c2⟩ := op_end (g' := g) (N' := setC N 1 (10 + k) (M 0 (KI k 1) - nI t)) (n' := n) (T' := T) (r0 := M 0 (KI k 1) - nI t) (ρ0 := upd (M 0) (KI k 1) (M 0 (KI k 1) - nI t)) h (Int.le_refl w) (fun σ => fS_narrow σ (nI k) (nI t)) (fun Q => fM_waxNow Q (nI k) (nI t)) (fun σ Q hq => wax_is hq (nI k) (nI t)) (fun M1 e => by
            unfold fM_waxNow
            rw [mclock_in (tM M1 e) hn q1, sb, if_neg n10, hin 0, sb, if_neg n10, of_1 M1 (by omega), sb, e, if_pos p1, add_1 M1 _ (by omega), sb, of_1 _ (by omega), sb, mw_0, upd_eq, e, ← Int32.sub_eq_add_neg]) hd.symm (INV_upd h.inv hn (by decide) (by decide) (fun q => absurd q (by decide))) (by rw [uK_s _ (by decide)]; exact h19) hn (by rw [uK_s _ (by decide)]; exact h.same)
          refine ⟨X', _, ?_, c2⟩
          have c1' : fX_wax X (nI k) (nI t) = some (M 0 (KI k 1) - nI t, X') := c1
          unfold fL_waxes
          rw [show (6 : Int32) = nI 6 from rfl, show (61 : Int32) = nI 61 from rfl, e1, sb, e2, sb, h18, if_neg a1, if_neg a2, if_pos a3, gd_b b10, a10, d1, if_pos q4, gd_b b10, sb, if_neg pos, gd_b b10, lt_is, sb, c1', sb, if_pos rfl]
        · have q4' := q4
          rw [t_lt, tt] at q4'
          refine err (-1000002) (fun M1 e => ?_) (by decide) ?_
          · unfold fM_waxNow
            rw [mclock_in (tM M1 e) hn q1, sb, if_neg n10, hin 0, sb, if_neg n10, of_1 M1 (by omega), sb, e, if_neg (by rw [t_le, es, i_1]; omega)]
          · rw [if_neg a1, if_neg a2, if_pos a3, gd_b b10, a10, d1, if_neg q4]
      · have a3 : ¬ nI t ≤ 59 := by rw [t_le, i59]; omega
        refine err (-1000001) (fun M1 e => ?_) (by decide) ?_
        · unfold fM_waxNow
          rw [mclock_in (tM M1 e) hn q1, sb, if_neg n10, in_f (by rw [i_1, i59]; omega), sb, if_pos rfl]
        · rw [if_neg a1, if_neg a2, if_neg a3]
    · have a2 : nI t < 1 := by rw [t_lt, i_1]; omega
      refine err (-1000001) (fun M1 e => ?_) (by decide) ?_
      · unfold fM_waxNow
        rw [mclock_in (tM M1 e) hn q1, sb, if_neg n10, in_f (by rw [i_1]; omega), sb, if_pos rfl]
      · rw [if_neg a1, if_pos a2]
  · have a1 : nI n ≤ nI k := by rw [t_le]; omega
    refine err (-1000001) (fun M1 e => ?_) (by decide) ?_
    · unfold fM_waxNow
      rw [mclock_out (tM M1 e) hn (by omega), sb, if_pos rfl]
    · rw [if_pos a1]
