/-! ## copies of the class's rows -/
def CPI (C : Nat → Nat → Int32) (ja jb : Nat) (S : Nat → Prop) (C' : Nat → Nat → Int32) : Prop := (∀ a, a ≠ ja → C' a = C a) ∧ ∀ i, S i → C' ja i = C jb i
theorem CPI.set {C C' : Nat → Nat → Int32} {ja jb : Nat} {S : Nat → Prop} (hne : jb ≠ ja) (h : CPI C ja jb S C') (i : Nat) : CPI C ja jb (fun j => S j ∨ j = i) (setC C' ja i (C' jb i)) := by
  refine ⟨fun a ha => ?_, fun j hj => ?_⟩
  · unfold setC; rw [updA_ne _ ha]; exact h.1 a ha
  · unfold setC
    rw [updA_same, upd_at, h.1 jb hne]
    by_cases e : j = i
    · rw [if_pos e, e]
    · rw [if_neg e]
      exact h.2 j (hj.resolve_right e)
theorem CPI.weak {C C' : Nat → Nat → Int32} {ja jb : Nat} {S T : Nat → Prop} (h : CPI C ja jb S C') (hs : ∀ i, T i → S i) : CPI C ja jb T C' := ⟨h.1, fun i q => h.2 i (hs i q)⟩
theorem kcopy {C C' : Nat → Nat → Int32} {ja jb k : Nat} {S : Nat → Prop} (hne : jb ≠ ja) (h : CPI C ja jb S C') : ∃ C'', fK_copyFrom C' ja k jb k = some C'' ∧ CPI C ja jb (fun j => S j ∨ ∃ f, f < 15 ∧ j = KI k f) C'' := by
  refine ⟨_, rfl, ?_⟩
  refine ((((((((((((((((h.set hne (KI k 0)).set hne (KI k 1)).set hne (KI k 2)).set hne (KI k 5)).set hne (KI k 3)).set hne (KI k 4)).set hne (KI k 6)).set hne (KI k 7)).set hne (KI k 12)).set hne (KI k 8)).set hne (KI k 9)).set hne (KI k 10)).set hne (KI k 11)).set hne (KI k 13)).set hne (KI k 14))).weak (fun i q => ?_)
  rcases q with q | ⟨f, hf, rfl⟩
  · simp only [q, true_or]
  · rcases (show f = 0 ∨ f = 1 ∨ f = 2 ∨ f = 3 ∨ f = 4 ∨ f = 5 ∨ f = 6 ∨ f = 7 ∨ f = 8 ∨ f = 9 ∨ f = 10 ∨ f = 11 ∨ f = 12 ∨ f = 13 ∨ f = 14 by omega) with rfl | rfl | rfl | rfl | rfl | rfl | rfl | rfl | rfl | rfl | rfl | rfl | rfl | rfl | rfl <;> simp only [true_or, or_true]
theorem ecopy {C C' : Nat → Nat → Int32} {ja jb : Nat} {S : Nat → Prop} (hne : jb ≠ ja) (h : CPI C ja jb S C') : ∃ C'', fE_copyFrom C' ja jb = some C'' ∧ CPI C ja jb (fun j => S j ∨ j < 6) C'' := by
  refine ⟨_, rfl, ?_⟩
  refine ((((((h.set hne 0).set hne 1).set hne 2).set hne 3).set hne 4).set hne 5).weak (fun i q => ?_)
  rcases q with q | q
  · simp only [q, true_or]
  · rcases (show i = 0 ∨ i = 1 ∨ i = 2 ∨ i = 3 ∨ i = 4 ∨ i = 5 by omega) with rfl | rfl | rfl | rfl | rfl | rfl <;> simp
theorem xcopy_L {C : Nat → Nat → Int32} {ja jb N o : Nat} (hN : N < 1000) (hne : jb ≠ ja) : ∀ (m c fu : Nat) (C' : Nat → Nat → Int32) (S : Nat → Prop), c + m = N → m < fu → CPI C ja jb (fun j => S j ∨ (o ≤ j ∧ j < o + c)) C' →
    ∃ C'', fX_copy_L2 N jb o N ja o fu C' (nI c) = some C'' ∧ CPI C ja jb (fun j => S j ∨ (o ≤ j ∧ j < o + N)) C'' := by
  intro m
  induction m with
  | zero =>
    intro c fu C' S hc hf h
    obtain ⟨fu, rfl⟩ : ∃ q, fu = q + 1 := ⟨fu - 1, by omega⟩
    refine ⟨C', ?_, by rw [show N = c by omega]; exact h⟩
    rw [fX_copy_L2, if_pos (show Int32.ofNat N ≤ nI c from (nle (a := N) (b := c) (by omega) (by omega)).mpr (by omega))]
  | succ m ih =>
    intro c fu C' S hc hf h
    obtain ⟨fu, rfl⟩ : ∃ q, fu = q + 1 := ⟨fu - 1, by omega⟩
    have q : ¬ nI N ≤ nI c := fun q => by rw [nle (by omega) (by omega)] at q; omega
    rw [fX_copy_L2, if_neg (show ¬ (Int32.ofNat N ≤ nI c) from q), if_neg (show ¬ (Int32.ofNat N ≤ nI c) from q), inb_nI (by omega) (by omega), gd_t, gd_t, cl_nI (by omega), lt_is, ← nI_succ]
    exact ih (c + 1) fu _ S (by omega) (by omega) ((h.set hne (o + c)).weak (fun i q => by rcases q with q | q; exact Or.inl (Or.inl q); by_cases e : i = o + c; exact Or.inr e; exact Or.inl (Or.inr (by omega))))
theorem bcopy {C C' : Nat → Nat → Int32} {ja jb : Nat} {S : Nat → Prop} (hne : jb ≠ ja) (h : CPI C ja jb S C') : ∃ C'', fB_copyFrom C' ja jb = some C'' ∧ CPI C ja jb (fun j => S j ∨ (96 ≤ j ∧ j < 120) ∨ j = 14 ∨ j = 15) C'' := by
  obtain ⟨C1, a1, b1⟩ := xcopy_L (N := 4) (o := 96) (by decide) hne 4 0 fuel C' S (by omega) (by decide) (h.weak (fun i q => by rcases q with q | q; exact q; omega))
  obtain ⟨C2, a2, b2⟩ := xcopy_L (N := 20) (o := 100) (by decide) hne 20 0 fuel C1 _ (by omega) (by decide) (b1.weak (fun i q => by rcases q with q | q; exact q; omega))
  refine ⟨_, ?_, ((b2.set hne 14).set hne 15).weak (fun i q => ?_)⟩
  · unfold fB_copyFrom fX_copy
    rw [show (0 : Int32) = nI 0 from rfl, a1, sb, a2, sb, lt_is, lt_is]
  · rcases q with q | q | q | q
    · exact Or.inl (Or.inl (Or.inl (Or.inl q)))
    · by_cases e : i < 100
      · exact Or.inl (Or.inl (Or.inl (Or.inr (by omega))))
      · exact Or.inl (Or.inl (Or.inr (by omega)))
    · exact Or.inl (Or.inr q)
    · exact Or.inr q
/-- what a copy of a row keeps -/
def SR (σ σ' : Row) : Prop := (∀ i, i < 20 → i ≠ 16 → i ≠ 17 → σ' i = σ i) ∧ (∀ c f, c < 5 → f < 15 → σ' (KI c f) = σ (KI c f)) ∧ ∀ i, 96 ≤ i → i < 120 → σ' i = σ i
theorem scopy_L {C : Nat → Nat → Int32} {ja jb : Nat} (hne : jb ≠ ja) : ∀ (m c fu : Nat) (C' : Nat → Nat → Int32), c + m = 5 → m < fu → CPI C ja jb (fun j => ∃ k f, k < c ∧ f < 15 ∧ j = KI k f) C' →
    ∃ C'', fS_copyFrom_L2 ja jb fu C' (nI c) = some C'' ∧ (∀ a, a ≠ ja → C'' a = C a) ∧ SR (C jb) (C'' ja) := by
  intro m
  induction m with
  | zero =>
    intro c fu C' hc hf h
    obtain ⟨fu, rfl⟩ : ∃ q, fu = q + 1 := ⟨fu - 1, by omega⟩
    obtain ⟨C1, a1, b1⟩ := ecopy hne h
    obtain ⟨C2, a2, b2⟩ := bcopy hne b1
    have b3 := (((((((((b2.set hne 19).set hne 6).set hne 7).set hne 8).set hne 9).set hne 10).set hne 18).set hne 11).set hne 12).set hne 13
    refine ⟨_, ?_, b3.1, fun i hi h16 h17 => ?_, fun k f hk hf => ?_, fun i h1 h2 => ?_⟩
    · rw [fS_copyFrom_L2, if_pos (show (5 : Int32) ≤ nI c by rw [show (5 : Int32) = nI 5 from rfl, nle (by omega) (by omega)]; omega), a1, sb, a2, sb]
      rfl
    · refine b3.2 i ?_
      rcases (show i < 6 ∨ i = 6 ∨ i = 7 ∨ i = 8 ∨ i = 9 ∨ i = 10 ∨ i = 11 ∨ i = 12 ∨ i = 13 ∨ i = 14 ∨ i = 15 ∨ i = 18 ∨ i = 19 by omega) with q | q | q | q | q | q | q | q | q | q | q | q | q <;> simp only [q, true_or, or_true]
    · refine b3.2 _ ?_
      have : ∃ k' f', k' < c ∧ f' < 15 ∧ KI k f = KI k' f' := ⟨k, f, by omega, hf, rfl⟩
      simp only [this, true_or]
    · refine b3.2 _ ?_
      have : 96 ≤ i ∧ i < 120 := ⟨h1, h2⟩
      simp only [this, true_or, or_true, and_self]
  | succ m ih =>
    intro c fu C' hc hf h
    obtain ⟨fu, rfl⟩ : ∃ q, fu = q + 1 := ⟨fu - 1, by omega⟩
    have q : ¬ (5 : Int32) ≤ nI c := fun q => by rw [show (5 : Int32) = nI 5 from rfl, nle (by omega) (by omega)] at q; omega
    obtain ⟨C1, a1, b1⟩ := kcopy (k := c) hne h
    rw [fS_copyFrom_L2, if_neg q, if_neg q, inb_nI (by omega) (by decide), gd_t, gd_t, cl_nI (by omega), a1, sb, ← nI_succ]
    refine ih (c + 1) fu C1 (by omega) (by omega) (b1.weak (fun i q => ?_))
    obtain ⟨k, f, hk, hf, rfl⟩ := q
    by_cases e : k = c
    · subst e; exact Or.inr ⟨f, hf, rfl⟩
    · exact Or.inl ⟨k, f, by omega, hf, rfl⟩
theorem scopy_is (C : Nat → Nat → Int32) {ja jb : Nat} (hne : jb ≠ ja) : ∃ C', fS_copyFrom C ja jb = some C' ∧ (∀ a, a ≠ ja → C' a = C a) ∧ SR (C jb) (C' ja) :=
  scopy_L hne 5 0 fuel C (by omega) (by unfold fuel; omega) ⟨fun _ _ => rfl, fun i q => by obtain ⟨k, f, hk, -⟩ := q; omega⟩
