/-! TRIALS OF THE LAW: the class's answers -/
def wb (E : Nat → Int32) : Nat → Nat
  | 0 => 0
  | i + 1 => if ab (E (wb E i)) ≤ ab (E i) then wb E i else i
theorem wb_lt (E : Nat → Int32) : ∀ i, 1 ≤ i → wb E i < i
  | 0, h => absurd h (by decide)
  | i + 1, _ => by
    show (if ab (E (wb E i)) ≤ ab (E i) then wb E i else i) < i + 1
    split
    · by_cases q : i = 0
      · subst q; exact Nat.zero_lt_one
      · have := wb_lt E i (by omega); omega
    · omega
theorem wb_1 (E : Nat → Int32) : wb E 1 = 0 := by
  show (if ab (E (wb E 0)) ≤ ab (E 0) then wb E 0 else 0) = 0
  split <;> rfl
theorem best_L {w T : Int} {n : Nat} {X : XS} {N M : Nat → Nat → Int32} {g : Int32} (h : LQ w n T X N M g) (hT : T ≤ 99999) {k W : Nat} (hk : k < n) (hW : (X.1 0 (KI k 1)).toInt = W) (y2 : Int32) : ∀ (m i fu : Nat) (X1 : XS), i + m = W → 1 ≤ i → m < fu → QT X X1 →
    ∃ X', fX_bestWax_L39 fu X1 (nI k) y2 k (nI (wb (ew n (X.1 0) k) i)) (ew n (X.1 0) k (wb (ew n (X.1 0) k) i)) (nI i) = some (if y2 = 0 then nI (wb (ew n (X.1 0) k) W) else ew n (X.1 0) k (wb (ew n (X.1 0) k) W) + 10000, X') ∧ QT X X' := by
  have b1 := (h.2.2.1.1.2.2.2 k hk).2.1
  intro m
  induction m with
  | zero =>
    intro i fu X1 hi h1 hf hq
    obtain ⟨fu, rfl⟩ : ∃ q, fu = q + 1 := ⟨fu - 1, by omega⟩
    obtain rfl : i = W := by omega
    have ti := t_lit i (by omega)
    have e0 := hq.2 0 (by decide)
    refine ⟨X1, ?_, hq⟩
    rw [fX_bestWax_L39, e0, if_pos (show X.1 0 (KI k 1) ≤ nI i by rw [t_le]; omega)]
    split <;> rfl
  | succ m ih =>
    intro i fu X1 hi h1 hf hq
    obtain ⟨fu, rfl⟩ : ∃ q, fu = q + 1 := ⟨fu - 1, by omega⟩
    have ti := t_lit i (by omega)
    have e0 := hq.2 0 (by decide)
    obtain ⟨X2, a1, a2⟩ := noonw (h.qt hq) hT hk (i := i) (by rw [e0]; omega)
    rw [e0] at a1
    have gw : wb (ew n (X.1 0) k) (i + 1) = if ab (ew n (X.1 0) k (wb (ew n (X.1 0) k) i)) ≤ ab (ew n (X.1 0) k i) then wb (ew n (X.1 0) k) i else i := rfl
    obtain ⟨X3, c1, c2⟩ := ih (i + 1) fu X2 (by omega) (by omega) (by omega) (hq.trans a2)
    refine ⟨X3, ?_, c2⟩
    rw [fX_bestWax_L39, e0, if_neg (show ¬ X.1 0 (KI k 1) ≤ nI i by rw [t_le]; omega), if_neg (show ¬ (60 : Int32) ≤ nI i by rw [t_le, i_60]; omega), a1, sb, abs_is, sb, abs_is, sb, ← nI_succ]
    dsimp only
    by_cases c : ab (ew n (X.1 0) k (wb (ew n (X.1 0) k) i)) ≤ ab (ew n (X.1 0) k i)
    · rw [if_pos c]
      rw [if_pos c] at gw
      rw [gw] at c1
      exact c1
    · rw [if_neg c]
      rw [if_neg c] at gw
      rw [gw] at c1
      exact c1
theorem bestWax_x {w T : Int} {n : Nat} {X : XS} {N M : Nat → Nat → Int32} {g : Int32} (h : LQ w n T X N M g) (hT : T ≤ 99999) {k W : Nat} (hk : k < n) (hW : (X.1 0 (KI k 1)).toInt = W) :
    (∃ X', fX_bestWax X (nI k) 0 = some (nI (wb (ew n (X.1 0) k) W), X') ∧ QT X X') ∧ (∃ X', fX_bestWax X (nI k) 1 = some (ew n (X.1 0) k (wb (ew n (X.1 0) k) W) + 10000, X') ∧ QT X X') := by
  have b1 := (h.2.2.1.1.2.2.2 k hk).2.1
  obtain ⟨X1, a1, a2⟩ := noonw h hT hk (i := 0) (by omega)
  have a1' : fX_noonErrorWith X (nI k) 0 = some (ew n (X.1 0) k 0, X1) := a1
  have key : ∀ y2 : Int32, ∃ X', fX_bestWax_L39 fuel X1 (nI k) y2 k 0 (ew n (X.1 0) k 0) 1 = some (if y2 = 0 then nI (wb (ew n (X.1 0) k) W) else ew n (X.1 0) k (wb (ew n (X.1 0) k) W) + 10000, X') ∧ QT X X' := fun y2 => by
    obtain ⟨X', c1, c2⟩ := best_L h hT hk hW y2 (W - 1) 1 fuel X1 (by omega) (Nat.le_refl _) (by unfold fuel; omega) a2
    rw [wb_1] at c1
    exact ⟨X', c1, c2⟩
  unfold fX_bestWax
  refine ⟨?_, ?_⟩
  · obtain ⟨X', c1, c2⟩ := key 0
    rw [clockAt_in h.s19 hk h.n5, sb, onN_s, if_neg (by decide), if_pos (by decide), a1', sb, c1, if_pos rfl]
    exact ⟨X', rfl, c2⟩
  · obtain ⟨X', c1, c2⟩ := key 1
    rw [clockAt_in h.s19 hk h.n5, sb, onN_s, if_neg (by decide), if_pos (by decide), a1', sb, c1, if_neg (by decide)]
    exact ⟨X', rfl, c2⟩
theorem noonError_x {w T : Int} {n : Nat} {X : XS} {N M : Nat → Nat → Int32} {g : Int32} (h : LQ w n T X N M g) (hT : T ≤ 99999) {k : Nat} (hk : k < n) : ∃ X', fX_noonError X (nI k) = some (ew n (X.1 0) k 0 + 10000, X') ∧ QT X X' := by
  have b1 := (h.2.2.1.1.2.2.2 k hk).2.1
  obtain ⟨X1, a1, a2⟩ := noonw h hT hk (i := 0) (by omega)
  have a1' : fX_noonErrorWith X (nI k) 0 = some (ew n (X.1 0) k 0, X1) := a1
  unfold fX_noonError
  rw [clockAt_in h.s19 hk h.n5, sb, onN_s, a1', sb]
  exact ⟨X1, rfl, a2⟩
theorem why_x {w T : Int} {n : Nat} {X : XS} {N M : Nat → Nat → Int32} {g : Int32} (h : LQ w n T X N M g) {k j : Nat} (hk : k < n) (hj : j < 3) : fX_why X (nI k) (nI j) = some (whl (X.1 0) k (tab 2 j)) := by
  have hir := h.2.2.1.1
  unfold fX_why
  rw [clockAt_in h.s19 hk h.n5, sb, onN_s, jug_j j hj, sb, if_neg n10, why_is hj (by have := hir.2.1.1; omega) (hir.2.2.2 k hk).2.2.2.1, sb]
/-- no such clock -/
theorem none_x {w T : Int} {X : XS} {N M : Nat → Nat → Int32} {g : Int32} (h : LQ w 0 T X N M g) : fX_noonError X 0 = some (-1000001, X) ∧ fX_emptyIn X 0 = some (-1000001, X) ∧ fX_why X 0 0 = some (-1000001) ∧ fX_bestWax X 0 0 = some (-1000001, X) := by
  have hc : fS_clockAt (X.1 0) 0 = some none := clockAt_out h.s19 (by decide) (by rw [i_0]; omega)
  refine ⟨?_, ?_, ?_, ?_⟩
  · unfold fX_noonError; rw [hc]; rfl
  · unfold fX_emptyIn; rw [hc]; rfl
  · unfold fX_why; rw [hc]; rfl
  · unfold fX_bestWax; rw [hc]; rfl
/-! when a vessel is empty -/
def emv (n k : Nat) : Nat → Nat → Row → Int32
  | 0, c, φ => if φ (KI k 3) = 0 then nI c else -1000004
  | m + 1, c, φ => if φ (KI k 3) = 0 then nI c else emv n k m (c + 1) (ps n φ)
theorem empty_xL {n k : Nat} (hk : k < n) {X : XS} : ∀ (m c fu : Nat) (X1 : XS) (φ : Row) (b : Int), c + m = 1000 → m + 1 < fu → IR (X1.1 1) n b → b + m + 2 ≤ 200000 → IR φ n (φ 6).toInt → (φ 6).toInt + m + 1 ≤ 200000 → TQ k (X1.1 1) φ → QT X X1 →
    ∃ X', fX_emptyIn_L27 fu X1 (nI k) (nI c) = some (emv n k m c φ, X') ∧ QT X X' := by
  intro m
  induction m with
  | zero =>
    intro c fu X1 φ b hc hf hir hb hi hb6 ht hq
    obtain ⟨fu, rfl⟩ : ∃ q, fu = q + 1 := ⟨fu - 1, by omega⟩
    obtain rfl : c = 1000 := by omega
    have hn := hir.1.2
    have eu : φ (KI k 3) = X1.1 1 (KI k 3) := (ht.1.2 k 3 (by omega) (by unfold Ph; omega)).symm
    rw [fX_emptyIn_L27, if_neg (show ¬ (1000 : Int32) < nI 1000 by decide)]
    unfold fS_isEmpty emv
    rw [clockAt_in hir.1.1 hk hn, sb, onN_s, eu]
    by_cases e : X1.1 1 (KI k 3) = 0
    · rw [if_pos e, sb, if_neg n10, if_pos e]
      exact ⟨X1, rfl, hq⟩
    · rw [if_neg e, sb, if_pos rfl, if_neg e]
      obtain ⟨fu, rfl⟩ : ∃ q, fu = q + 1 := ⟨fu - 1, by omega⟩
      rw [drip_is (IP.of hir (by omega)) (show k + 1 ≤ n by omega) (by rw [t_lit k (by omega)]; omega), sb, lt_is, fX_emptyIn_L27, if_pos (show (1000 : Int32) < nI 1000 + 1 by decide)]
      exact ⟨_, rfl, hq.trans ⟨rfl, fun a ha => updA_ne _ ha⟩⟩
  | succ m ih =>
    intro c fu X1 φ b hc hf hir hb hi hb6 ht hq
    obtain ⟨fu, rfl⟩ : ∃ q, fu = q + 1 := ⟨fu - 1, by omega⟩
    have hn := hir.1.2
    have tc := t_lit c (by omega)
    have eu : φ (KI k 3) = X1.1 1 (KI k 3) := (ht.1.2 k 3 (by omega) (by unfold Ph; omega)).symm
    rw [fX_emptyIn_L27, if_neg (show ¬ (1000 : Int32) < nI c by rw [t_lt, i_1000]; omega)]
    unfold fS_isEmpty
    show ∃ X', _ = some ((if φ (KI k 3) = 0 then nI c else emv n k m (c + 1) (ps n φ)), X') ∧ _
    rw [clockAt_in hir.1.1 hk hn, sb, onN_s, eu]
    by_cases e : X1.1 1 (KI k 3) = 0
    · rw [if_pos e, sb, if_neg n10, if_pos e]
      exact ⟨X1, rfl, hq⟩
    · have hip := IP.of hir (show b + 1 ≤ 200000 by omega)
      have hip' := (cF_IP hip (k + 1) (by omega)).ir
      have hb7 : (φ 6).toInt + 1 ≤ 200000 := by omega
      obtain ⟨q1, q2⟩ := ps_IR hi hb7
      rw [if_neg e, sb, if_pos rfl, drip_is hip (show k + 1 ≤ n by omega) (by rw [t_lit k (by omega)]; omega), sb, lt_is, ← nI_succ, if_neg e]
      exact ih (c + 1) fu ((updA X1.1 1 (cF (k + 1) (X1.1 1)), X1.2) : XS) (ps n φ) (b + 1) (by omega) (by omega) (by dsimp only; rw [updA_same]; exact hip') (by omega) (by rw [q2]; exact q1) (by rw [q2]; omega) (by dsimp only; rw [updA_same]; exact TQ_step hi hb7 hk ht) (hq.trans ⟨rfl, fun a ha => updA_ne _ ha⟩)
theorem emptyIn_x {w T : Int} {n : Nat} {X : XS} {N M : Nat → Nat → Int32} {g : Int32} (h : LQ w n T X N M g) (hT : T ≤ 99999) {k : Nat} (hk : k < n) : ∃ X', fX_emptyIn X (nI k) = some (emv n k 1000 0 (X.1 0), X') ∧ QT X X' := by
  have hir := h.2.2.1.1
  have h6 := h.2.2.2.2.2
  obtain ⟨C1, a1, a2, a3⟩ := scopy_is X.1 (ja := 1) (jb := 0) (by decide)
  have hr1 := RR_move h.2.2.1 a3 (MR.refl (M 0))
  have e6 : C1 1 6 = X.1 0 6 := a3.1 6 (by decide) (by decide) (by decide)
  have e : ∀ c f, c < k + 1 → f < 15 → C1 1 (KI c f) = X.1 0 (KI c f) := fun c f hc hf => a3.2.1 c f (by have := h.n5; omega) hf
  obtain ⟨X', g1, g2⟩ := empty_xL (X := X) hk 1000 0 fuel ((C1, X.2) : XS) (X.1 0) _ (by omega) (by unfold fuel; omega) hr1.1 (by rw [e6]; omega) hir (by omega) ⟨⟨fun i hi => a3.1 i (by omega) (by omega) (by omega), fun c f hc hf => e c f hc (Ph_lt hf)⟩, e k 13 (by omega) (by decide), e k 14 (by omega) (by decide)⟩ ⟨rfl, fun a ha => a2 a ha⟩
  have g1' : fX_emptyIn_L27 fuel ((C1, X.2) : XS) (nI k) 0 = some (emv n k 1000 0 (X.1 0), X') := g1
  unfold fX_emptyIn
  rw [clockAt_in h.s19 hk h.n5, sb, onN_s, a1, sb, lt_is, g1']
  exact ⟨X', rfl, g2⟩
