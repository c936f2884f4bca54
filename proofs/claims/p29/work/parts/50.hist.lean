/-! ## the relation of the whole -/
def HR (M : Nat → Nat → Int32) (a i : Nat) : Row := fun j => M a (120 * i + j)
def XRs (w : Int) (st : Nat) (X : XS) (M : Nat → Nat → Int32) : Prop :=
  (st ≤ 4 ∧ X.1 13 0 = nI st ∧ M 8 0 = nI st) ∧ RW w (X.1 0) (M 0) ∧
  (∀ i, i < st → RW w (X.1 (X.2 (1 + i)).val) (HR M 2 i)) ∧
  (∀ i, i < 5 → 2 ≤ (X.2 i).val ∧ (X.2 i).val ≤ 6) ∧ (∀ i j, i < 5 → j < 5 → X.2 i = X.2 j → i = j) ∧
  (∀ i, i < 2 → X.1 12 i = M 4 i ∧ (¬ X.1 12 i = 0 → RW w (X.1 (7 + i)) (HR M 3 i))) ∧
  (X.1 11 0 = M 8 1 ∧ (0 ≤ (M 8 1).toInt ∧ (M 8 1).toInt ≤ 60) ∧ ∀ i : Nat, (i : Int) < (M 8 1).toInt → X.1 9 i = M 6 i ∧ 32 ≤ (M 6 i).toInt ∧ (M 6 i).toInt ≤ 126)
def perm (B B' : Nat → Fin 9) (π : Nat → Nat) : Prop := (∀ i, i < 5 → π i < 5 ∧ B' i = B (π i)) ∧ ∀ i j, i < 5 → j < 5 → π i = π j → i = j
theorem perm.dom {B B' : Nat → Fin 9} {π : Nat → Nat} (h : perm B B' π) (hb : ∀ i, i < 5 → 2 ≤ (B i).val ∧ (B i).val ≤ 6) : ∀ i, i < 5 → 2 ≤ (B' i).val ∧ (B' i).val ≤ 6 := fun i hi => by
  obtain ⟨a, b⟩ := h.1 i hi
  rw [b]; exact hb _ a
theorem perm.inj {B B' : Nat → Fin 9} {π : Nat → Nat} (h : perm B B' π) (hb : ∀ i j, i < 5 → j < 5 → B i = B j → i = j) : ∀ i j, i < 5 → j < 5 → B' i = B' j → i = j := fun i j hi hj e => by
  obtain ⟨a, b⟩ := h.1 i hi
  obtain ⟨c, d⟩ := h.1 j hj
  rw [b, d] at e
  exact h.2 i j hi hj (hb _ _ a c e)
/-- another row is given to the states: the last goes behind -/
def pushB (B : Nat → Fin 9) (st : Nat) : Nat → Fin 9 := updB (updB B (1 + st) (B 0)) 0 (B (1 + st))
theorem pushB_perm {B : Nat → Fin 9} {st : Nat} (h : st < 4) : perm B (pushB B st) (fun i => if i = 0 then 1 + st else if i = 1 + st then 0 else i) := by
  refine ⟨fun i hi => ?_, fun i j hi hj e => ?_⟩
  · dsimp only
    unfold pushB updB
    by_cases a : i = 0
    · rw [if_pos a, if_pos a]; exact ⟨by omega, rfl⟩
    · rw [if_neg a, if_neg a]
      by_cases b : i = 1 + st
      · rw [if_pos b, if_pos b]; exact ⟨by omega, rfl⟩
      · rw [if_neg b, if_neg b]; exact ⟨hi, rfl⟩
  · dsimp only at e
    by_cases a : i = 0
    · rw [if_pos a] at e
      by_cases b : j = 0
      · omega
      · rw [if_neg b] at e
        by_cases c : j = 1 + st
        · rw [if_pos c] at e; omega
        · rw [if_neg c] at e; omega
    · rw [if_neg a] at e
      by_cases a' : i = 1 + st
      · rw [if_pos a'] at e
        by_cases b : j = 0
        · rw [if_pos b] at e; omega
        · rw [if_neg b] at e
          by_cases c : j = 1 + st
          · omega
          · rw [if_neg c] at e; omega
      · rw [if_neg a'] at e
        by_cases b : j = 0
        · rw [if_pos b] at e; omega
        · rw [if_neg b] at e
          by_cases c : j = 1 + st
          · rw [if_pos c] at e; omega
          · rw [if_neg c] at e; omega
def dropB (B : Nat → Fin 9) : Nat → Fin 9 := updB (updB (updB (updB B 1 (B 2)) 2 (B 3)) 3 (B 4)) 4 (B 1)
def dropS (B : Nat → Fin 9) (i : Nat) : Nat → Fin 9 := updB (updB B i (B (i + 1))) (i + 1) (B i)
theorem dropS_is (B : Nat → Fin 9) : dropS (dropS (dropS B 1) 2) 3 = dropB B := by
  funext j
  by_cases h1 : j = 1
  · subst h1; rfl
  by_cases h2 : j = 2
  · subst h2; rfl
  by_cases h3 : j = 3
  · subst h3; rfl
  by_cases h4 : j = 4
  · subst h4; rfl
  simp only [dropS, dropB, updB, if_neg h1, if_neg h2, if_neg h3, if_neg h4]
theorem drop_is (X : XS) : fX_dropOldestState X = some ((setC X.1 13 0 (nI 3), dropB X.2) : XS) := by
  rw [← dropS_is]
  unfold fX_dropOldestState
  rfl
theorem dropB_at (B : Nat → Fin 9) : dropB B 0 = B 0 ∧ dropB B 1 = B 2 ∧ dropB B 2 = B 3 ∧ dropB B 3 = B 4 ∧ dropB B 4 = B 1 := ⟨rfl, rfl, rfl, rfl, rfl⟩
theorem dropB_perm (B : Nat → Fin 9) : perm B (dropB B) (fun i => if i = 0 then 0 else if i = 4 then 1 else i + 1) := by
  obtain ⟨d0, d1, d2, d3, d4⟩ := dropB_at B
  refine ⟨fun i hi => ?_, fun i j hi hj e => ?_⟩
  · rcases (show i = 0 ∨ i = 1 ∨ i = 2 ∨ i = 3 ∨ i = 4 by omega) with rfl | rfl | rfl | rfl | rfl
    · exact ⟨by decide, d0⟩
    · exact ⟨by decide, d1⟩
    · exact ⟨by decide, d2⟩
    · exact ⟨by decide, d3⟩
    · exact ⟨by decide, d4⟩
  · revert e
    rcases (show i = 0 ∨ i = 1 ∨ i = 2 ∨ i = 3 ∨ i = 4 by omega) with rfl | rfl | rfl | rfl | rfl <;> rcases (show j = 0 ∨ j = 1 ∨ j = 2 ∨ j = 3 ∨ j = 4 by omega) with rfl | rfl | rfl | rfl | rfl <;> decide
/-- a new state in the reference -/
theorem rec_L {M : Nat → Nat → Int32} {st : Nat} (hst : st < 4) (h8 : M 8 0 = nI st) (r : Int32) : ∀ (m c fu : Nat) (M' : Nat → Nat → Int32), c + m = 120 → m < fu → PUT M 2 (120 * st) c (M 1) M' → ∃ M'', fM_recorded_L59 fu M' r (nI c) = some (r, setC M'' 8 0 (nI (st + 1))) ∧ PUT M 2 (120 * st) 120 (M 1) M'' := by
  intro m
  induction m with
  | zero =>
    intro c fu M' hc hf h
    obtain ⟨fu, rfl⟩ : ∃ q, fu = q + 1 := ⟨fu - 1, by omega⟩
    refine ⟨M', ?_, by rw [show (120 : Nat) = c by omega]; rw [show (120 : Nat) = c by omega] at h; exact h⟩
    rw [fM_recorded_L59, if_pos (show (120 : Int32) ≤ nI c by rw [show (120 : Int32) = nI 120 from rfl, nle (by omega) (by omega)]; omega), lt_is, h 8 0, if_neg (by omega), h8, ← nI_succ]
  | succ m ih =>
    intro c fu M' hc hf h
    obtain ⟨fu, rfl⟩ : ∃ q, fu = q + 1 := ⟨fu - 1, by omega⟩
    have e8 : M' 8 0 = nI st := by rw [h 8 0, if_neg (by omega), h8]
    have t1 := t_lit st (by omega)
    have t2 := t_lit c (by omega)
    have i120 : (120 : Int32).toInt = 120 := rfl
    have e1 : (120 : Int32) * nI st + nI c = nI (120 * st + c) := by
      have em := t_mul (a := 120) (b := nI st) (by rw [i120]; omega) (by rw [i120]; omega)
      rw [t_eq, t_add (by rw [em, i120]; omega) (by rw [em, i120]; omega), em, i120, t_lit (120 * st + c) (by omega)]
      omega
    rw [fM_recorded_L59, if_neg (show ¬ (120 : Int32) ≤ nI c by rw [show (120 : Int32) = nI 120 from rfl, nle (by omega) (by omega)]; omega), inb_nI (by omega) (by decide), gd_t, e8, e1, inb_nI (by omega) (by decide), gd_t, cl_nI (by omega), cl_nI (by omega), lt_is, ← nI_succ]
    have e : M' 1 c = M 1 c := by rw [h 1 c, if_neg (by omega)]
    have g := h.s
    rw [← e] at g
    exact ih (c + 1) fu _ (by omega) (by omega) g
/-- the oldest state goes in the reference -/
theorem shift_L {M : Nat → Nat → Int32} (r : Int32) (h8 : M 8 0 = nI 4) : ∀ (m c fu : Nat) (M' : Nat → Nat → Int32), c + m = 360 → m < fu → PUT M 2 0 c (fun j => M 2 (j + 120)) M' → ∃ M'', fM_recorded_L19 fu M' r (nI c) = fM_recorded_L59 fuel (setC M'' 8 0 (nI 3)) r 0 ∧ PUT M 2 0 360 (fun j => M 2 (j + 120)) M'' := by
  intro m
  induction m with
  | zero =>
    intro c fu M' hc hf h
    obtain ⟨fu, rfl⟩ : ∃ q, fu = q + 1 := ⟨fu - 1, by omega⟩
    refine ⟨M', ?_, by rw [show (360 : Nat) = c by omega]; exact h⟩
    rw [fM_recorded_L19, if_pos (show (360 : Int32) ≤ nI c by rw [show (360 : Int32) = nI 360 from rfl, nle (by omega) (by omega)]; omega), lt_is, h 8 0, if_neg (by omega), h8]
    rfl
  | succ m ih =>
    intro c fu M' hc hf h
    obtain ⟨fu, rfl⟩ : ∃ q, fu = q + 1 := ⟨fu - 1, by omega⟩
    have t2 := t_lit c (by omega)
    have i120 : (120 : Int32).toInt = 120 := rfl
    have e1 : nI c + (120 : Int32) = nI (c + 120) := by
      rw [t_eq, t_add (by rw [i120]; omega) (by rw [i120]; omega), i120, t_lit (c + 120) (by omega)]
      omega
    rw [fM_recorded_L19, if_neg (show ¬ (360 : Int32) ≤ nI c by rw [show (360 : Int32) = nI 360 from rfl, nle (by omega) (by omega)]; omega), e1, inb_nI (by omega) (by decide), gd_t, inb_nI (by omega) (by decide), gd_t, cl_nI (by omega), cl_nI (by omega), lt_is, ← nI_succ]
    have e : M' 2 (c + 120) = M 2 (c + 120) := by rw [h 2 (c + 120), if_neg (by omega)]
    have g := h.s
    rw [Nat.zero_add] at g
    rw [e]
    exact ih (c + 1) fu _ (by omega) (by omega) g
