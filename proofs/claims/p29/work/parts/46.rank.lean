/-! ## ranks -/
def szs (σ : Row) (c : Nat) : Int := (ab (er σ c)).toInt
def rkN (s : Nat → Int) (x : Nat) : Nat → Nat
  | 0 => 0
  | c + 1 => rkN s x c + (if s x < s c ∨ (s c = s x ∧ c < x) then 1 else 0)
theorem rkN_le (s : Nat → Int) (x : Nat) : ∀ m, rkN s x m ≤ m
  | 0 => Nat.le_refl _
  | m + 1 => by
    have := rkN_le s x m
    show rkN s x m + _ ≤ m + 1
    split <;> omega
/-- the worse clock has the smaller rank -/
theorem rkN_lt {s : Nat → Int} {x y : Nat} (h : s y < s x ∨ (s x = s y ∧ x < y)) : ∀ m, rkN s x m ≤ rkN s y m ∧ (x < m → rkN s x m < rkN s y m)
  | 0 => ⟨Nat.le_refl _, fun q => by omega⟩
  | m + 1 => by
    obtain ⟨i1, i2⟩ := rkN_lt h m
    show rkN s x m + _ ≤ rkN s y m + _ ∧ (x < m + 1 → rkN s x m + _ < rkN s y m + _)
    by_cases e : m = x
    · subst e
      rw [if_neg (by omega), if_pos (by omega)]
      exact ⟨by omega, fun _ => by omega⟩
    · by_cases c : s x < s m ∨ (s m = s x ∧ m < x)
      · rw [if_pos c, if_pos (by omega)]
        exact ⟨by omega, fun q => by have := i2 (by omega); omega⟩
      · rw [if_neg c]
        split
        · exact ⟨by omega, fun q => by have := i2 (by omega); omega⟩
        · exact ⟨by omega, fun q => by have := i2 (by omega); omega⟩
theorem rkN_inj {s : Nat → Int} {x y n : Nat} (hx : x < n) (hy : y < n) (h : rkN s x n = rkN s y n) : x = y := by
  rcases Nat.lt_trichotomy x y with c | c | c
  · exfalso
    by_cases d : s x < s y
    · have := (rkN_lt (s := s) (x := y) (y := x) (Or.inl d) n).2 hy; omega
    · have := (rkN_lt (s := s) (x := x) (y := y) (by omega) n).2 hx; omega
  · exact c
  · exfalso
    by_cases d : s y < s x
    · have := (rkN_lt (s := s) (x := x) (y := y) (Or.inl d) n).2 hx; omega
    · have := (rkN_lt (s := s) (x := y) (y := x) (by omega) n).2 hy; omega
theorem ab_i {x : Int32} (h : -2147483648 < x.toInt) : (ab x).toInt = if 0 ≤ x.toInt then x.toInt else -x.toInt := by
  unfold ab
  by_cases c : 0 ≤ x
  · rw [if_pos c]
    rw [t_le, i_0] at c
    rw [if_pos c]
  · rw [if_neg c]
    rw [t_le, i_0] at c
    rw [if_neg c, t_neg h]
theorem sz_i {σ : Row} {n k : Nat} {w : Int} (h : IR σ n (σ 6).toInt) (hk : k < n) (hw : WC σ w k) (hw5 : 5000 ≤ w) (hww : w ≤ 500000) : 0 ≤ (ab (er σ k)).toInt ∧ (ab (er σ k)).toInt ≤ 400000000 := by
  have e := er_i h hk hw hw5 (by omega)
  rw [ab_i (by omega)]
  split <;> omega
theorem sizeOf_is {σ : Row} {n k : Nat} (h : IR σ n (σ 6).toInt) (hk : k < n) : fS_sizeOfError σ (nI k) = some (ab (er σ k)) := by
  unfold fS_sizeOfError
  rw [clockAt_in h.1.1 hk h.1.2, sb, onN_s, errorOf_is (h.2.2.2 k hk).2.2.1.1 h.2.1.2.2.2.1.1, sb, abs_is, sb]
theorem merr {n k : Nat} {σ : Row} {M : Nat → Nat → Int32} (h : RR n σ (M 0)) (hk : k < n) : fM_error M (nI k) = some (er σ k) := by
  obtain ⟨⟨⟨h19, hn⟩, hst, hlo, hcb⟩, hz, hs, ht, hb⟩ := id h
  have m6 := hs.1 6 (by decide) (by decide) (by decide)
  have m3 := hs.1 3 (by decide) (by decide) (by decide)
  have kk : ∀ f, f < 15 → σ (KI k f) = M 0 (KI k f) := fun f hf => hs.2 k f (by omega) hf
  rw [merror_is (by omega) (by rw [← kk 2 (by decide)]; exact (hcb k hk).2.2.1.1) (by rw [← m6]; exact hlo.1) (by rw [← m3]; exact hst.2.2.2.1.1), ← er_congr m6 m3 kk]
theorem rank_L {σ : Row} {n x : Nat} (h : IR σ n (σ 6).toInt) : ∀ (m c fu : Nat), c + m = n → m < fu → x < n → fS_rankOf_L11 fu σ (nI x) (ab (er σ x)) (nI (rkN (szs σ) x c)) (nI c) = some (nI (rkN (szs σ) x n)) := by
  have hn := h.1.2
  intro m
  induction m with
  | zero =>
    intro c fu hc hf hx
    obtain ⟨fu, rfl⟩ : ∃ q, fu = q + 1 := ⟨fu - 1, by omega⟩
    rw [fS_rankOf_L11, if_pos (show σ 19 ≤ nI c by rw [h.1.1, nle (by omega) (by omega)]; omega), show c = n by omega]
  | succ m ih =>
    intro c fu hc hf hx
    obtain ⟨fu, rfl⟩ : ∃ q, fu = q + 1 := ⟨fu - 1, by omega⟩
    obtain ⟨q1, q2, q3⟩ := nI5 (show c < n by omega) hn
    have g := ih (c + 1) fu (by omega) (by omega) hx
    have gs : rkN (szs σ) x (c + 1) = rkN (szs σ) x c + (if szs σ x < szs σ c ∨ (szs σ c = szs σ x ∧ c < x) then 1 else 0) := rfl
    rw [gs, nI_succ c] at g
    rw [fS_rankOf_L11, if_neg (show ¬ σ 19 ≤ nI c by rw [h.1.1]; exact q2), sizeOf_is h (by omega), sb]
    by_cases a : ab (er σ x) < ab (er σ c)
    · rw [if_pos a]
      rw [t_lt] at a
      rw [if_pos (by unfold szs; omega), nI_succ] at g
      exact g
    · rw [if_neg a]
      rw [t_lt] at a
      by_cases b : ab (er σ c) = ab (er σ x)
      · rw [if_pos b]
        have b' : szs σ c = szs σ x := by unfold szs; rw [b]
        by_cases d : x ≤ c
        · rw [if_pos ((nle (by omega) (by omega)).mpr d)]
          rw [if_neg (by omega), Nat.add_zero] at g
          exact g
        · rw [if_neg (fun q => d ((nle (by omega) (by omega)).mp q))]
          rw [if_pos (Or.inr ⟨b', by omega⟩), nI_succ] at g
          exact g
      · rw [if_neg b]
        rw [t_eq] at b
        rw [if_neg (by unfold szs; omega), Nat.add_zero] at g
        exact g
theorem rank_is {σ : Row} {n x : Nat} (h : IR σ n (σ 6).toInt) (hx : x < n) : fS_rankOf σ (nI x) = some (nI (rkN (szs σ) x n)) := by
  have hn := h.1.2
  unfold fS_rankOf
  rw [sizeOf_is h hx, sb]
  exact rank_L h n 0 fuel (by omega) (by unfold fuel; omega) hx
theorem mrank_L {σ : Row} {M : Nat → Nat → Int32} {n x : Nat} {w : Int} (h : RR n σ (M 0)) (hw : WB σ n w) (hw5 : 5000 ≤ w) (hww : w ≤ 500000) : ∀ (m c fu : Nat), c + m = n → m < fu → x < n → fM_rankOf_L4 fu M (nI x) (nI (rkN (szs σ) x c)) (nI c) = some (nI (rkN (szs σ) x n)) := by
  have hn := h.1.1.2
  have m19 : M 0 19 = nI n := by rw [← h.2.2.1.1 19 (by decide) (by decide) (by decide)]; exact h.1.1.1
  intro m
  induction m with
  | zero =>
    intro c fu hc hf hx
    obtain ⟨fu, rfl⟩ : ∃ q, fu = q + 1 := ⟨fu - 1, by omega⟩
    rw [fM_rankOf_L4, if_pos (show M 0 19 ≤ nI c by rw [m19, nle (by omega) (by omega)]; omega), show c = n by omega]
  | succ m ih =>
    intro c fu hc hf hx
    obtain ⟨fu, rfl⟩ : ∃ q, fu = q + 1 := ⟨fu - 1, by omega⟩
    obtain ⟨q1, q2, q3⟩ := nI5 (show c < n by omega) hn
    have g := ih (c + 1) fu (by omega) (by omega) hx
    have gs : rkN (szs σ) x (c + 1) = rkN (szs σ) x c + (if szs σ x < szs σ c ∨ (szs σ c = szs σ x ∧ c < x) then 1 else 0) := rfl
    rw [gs, nI_succ c] at g
    have b1 := sz_i h.1 hx (hw x hx) hw5 hww
    have b2 := sz_i h.1 (show c < n by omega) (hw c (by omega)) hw5 hww
    have es := t_sub (a := ab (er σ c)) (b := ab (er σ x)) (by omega) (by omega)
    rw [fM_rankOf_L4, if_neg (show ¬ M 0 19 ≤ nI c by rw [m19]; exact q2), merr h (show c < n by omega), sb, msize_is, sb, merr h hx, sb, msize_is, sb]
    by_cases a : 0 < ab (er σ c) - ab (er σ x)
    · rw [if_pos a]
      rw [t_lt, i_0, es] at a
      rw [if_pos (by unfold szs; omega), nI_succ] at g
      exact g
    · rw [if_neg a]
      rw [t_lt, i_0, es] at a
      by_cases b : ab (er σ c) - ab (er σ x) = 0
      · rw [if_pos b]
        rw [t_eq, i_0, es] at b
        by_cases d : x ≤ c
        · rw [if_pos ((nle (by omega) (by omega)).mpr d), Int32.add_zero]
          rw [if_neg (by unfold szs; omega), Nat.add_zero] at g
          exact g
        · rw [if_neg (fun q => d ((nle (by omega) (by omega)).mp q))]
          rw [if_pos (by unfold szs; omega), nI_succ] at g
          exact g
      · rw [if_neg b, Int32.add_zero]
        rw [t_eq, i_0, es] at b
        rw [if_neg (by unfold szs; omega), Nat.add_zero] at g
        exact g
theorem mrank_is {σ : Row} {M : Nat → Nat → Int32} {n x : Nat} {w : Int} (h : RR n σ (M 0)) (hw : WB σ n w) (hw5 : 5000 ≤ w) (hww : w ≤ 500000) (hx : x < n) : fM_rankOf M (nI x) = some (nI (rkN (szs σ) x n)) := by
  have hn := h.1.1.2
  exact mrank_L h hw hw5 hww n 0 fuel (by omega) (by unfold fuel; omega) hx
theorem worst_L {X : XS} {M : Nat → Nat → Int32} {n : Nat} {w : Int} (h : RR n (X.1 0) (M 0)) (hw : WB (X.1 0) n w) (hw5 : 5000 ≤ w) (hww : w ≤ 500000) (y1 : Int32) : ∀ (m c fu : Nat), c + m = n → m < fu →
    ∃ o : Option Nat, (∀ c', o = some c' → c ≤ c' ∧ c' < n ∧ nI (rkN (szs (X.1 0)) c' n) = y1) ∧ fX_worst_L9 fu X y1 (nI c) = some (o.elim (-1000004) nI) ∧ ∀ y2, fM_worst_L12 fu M y1 y2 (nI c) = some (o.elim y2 nI) := by
  have hn := h.1.1.2
  have m19 : M 0 19 = nI n := by rw [← h.2.2.1.1 19 (by decide) (by decide) (by decide)]; exact h.1.1.1
  intro m
  induction m with
  | zero =>
    intro c fu hc hf
    obtain ⟨fu, rfl⟩ : ∃ q, fu = q + 1 := ⟨fu - 1, by omega⟩
    refine ⟨none, (fun c' q => by cases q), ?_, fun y2 => ?_⟩
    · rw [fX_worst_L9, if_pos (show X.1 0 19 ≤ nI c by rw [h.1.1.1, nle (by omega) (by omega)]; omega)]; rfl
    · rw [fM_worst_L12, if_pos (show M 0 19 ≤ nI c by rw [m19, nle (by omega) (by omega)]; omega)]; rfl
  | succ m ih =>
    intro c fu hc hf
    obtain ⟨fu, rfl⟩ : ∃ q, fu = q + 1 := ⟨fu - 1, by omega⟩
    obtain ⟨q1, q2, q3⟩ := nI5 (show c < n by omega) hn
    obtain ⟨o, o1, o2, o3⟩ := ih (c + 1) fu (by omega) (by omega)
    rw [nI_succ] at o2
    by_cases e : nI (rkN (szs (X.1 0)) c n) = y1
    · refine ⟨some c, (fun c' q => by cases q; exact ⟨Nat.le_refl _, by omega, e⟩), ?_, fun y2 => ?_⟩
      · rw [fX_worst_L9, if_neg (show ¬ X.1 0 19 ≤ nI c by rw [h.1.1.1]; exact q2), rank_is h.1 (by omega), sb, if_pos e]; rfl
      · rw [fM_worst_L12, if_neg (show ¬ M 0 19 ≤ nI c by rw [m19]; exact q2), mrank_is h hw hw5 hww (by omega), sb, if_pos e, ← nI_succ, o3]
        cases o with
        | none => rfl
        | some c' =>
          exfalso
          obtain ⟨a1, a2, a3⟩ := o1 c' rfl
          have b1 := rkN_le (szs (X.1 0)) c n
          have b2 := rkN_le (szs (X.1 0)) c' n
          rw [← e, t_eq, t_lit _ (by omega), t_lit _ (by omega)] at a3
          have := rkN_inj (s := szs (X.1 0)) (x := c') (y := c) (n := n) a2 (by omega) (by omega)
          omega
    · refine ⟨o, fun c' q => by have := o1 c' q; exact ⟨by omega, this.2⟩, ?_, fun y2 => ?_⟩
      · rw [fX_worst_L9, if_neg (show ¬ X.1 0 19 ≤ nI c by rw [h.1.1.1]; exact q2), rank_is h.1 (by omega), sb, if_neg e]; exact o2
      · rw [fM_worst_L12, if_neg (show ¬ M 0 19 ≤ nI c by rw [m19]; exact q2), mrank_is h hw hw5 hww (by omega), sb, if_neg e, ← nI_succ, o3]
theorem worst_is {w : Int} {X : XS} {M : Nat → Nat → Int32} (hw5 : 5000 ≤ w) (hww : w ≤ 500000) (h : RW w (X.1 0) (M 0)) (x1 : Int32) : EQ2 (fX_worst X x1) (fM_worst M x1) := by
  obtain ⟨n, h, h6, hw⟩ := h
  have hn := h.1.1.2
  unfold fX_worst fM_worst
  by_cases c : 0 ≤ x1
  · rw [if_pos c, if_pos c]
    obtain ⟨o, o1, o2, o3⟩ := worst_L h hw hw5 hww x1 n 0 fuel (by omega) (by unfold fuel; omega)
    exact ⟨_, o2, o3 _⟩
  · rw [if_neg c, if_neg c]; exact ⟨_, rfl, rfl⟩
