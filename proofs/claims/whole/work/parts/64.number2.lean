theorem readNumber_is {C M : Nat → Nat → Int32} {L p j : Nat} (h : TX C M L p) (hj : j < 3) :
    ∃ v val p', (v = 0 ∨ v = 1) ∧ (p ≤ p' ∧ p' ≤ L) ∧ fT_readNumber C (nI j) = some (v, setC (setC C 11 1 (nI p')) 10 j val) ∧ fM_readNumber M (nI j) = some (v, setC (setC M 8 2 (nI p')) 7 j val) := by
  have eC : setC C 11 1 (nI p) = C := by rw [← h.2.2.1.1, setC_self]
  have eM : setC M 8 2 (nI p) = M := by rw [← h.2.2.1.2, setC_self]
  obtain ⟨v, val, p', a1, a2, a3, a4⟩ := number_L (C := C) (M := M) (L := L) hj 3 0 fuel fuel p 0 (by omega) (by unfold fuel; omega) (by unfold fuel; omega) (by rw [eC, eM]; exact h.seven)
  rw [eC] at a3
  rw [eM] at a4
  refine ⟨v, val, p', a1, a2, a3, ?_⟩
  unfold fM_readNumber
  rw [inb_nI hj (by decide), gd_t, lt_is, cl_nI (by omega)]
  exact a4
/-- at the places behind a sign or a number the relation goes on -/
theorem TX.num {C M : Nat → Nat → Int32} {L p p' j : Nat} {v : Int32} (h : TX C M L p) (hp : p' ≤ L) : TX (setC (setC C 11 1 (nI p')) 10 j v) (setC (setC M 8 2 (nI p')) 7 j v) L p' := ((h.to hp).ten).seven
/-- the numbers read so far are alike -/
def NA (C M : Nat → Nat → Int32) (m : Nat) : Prop := ∀ i, i < m → C 10 i = M 7 i
theorem NA.num {C M : Nat → Nat → Int32} {p' j : Nat} {v : Int32} (h : NA C M j) : NA (setC (setC C 11 1 (nI p')) 10 j v) (setC (setC M 8 2 (nI p')) 7 j v) (j + 1) := fun i hi => by
  by_cases e : i = j
  · rw [mcell, if_pos ⟨rfl, e⟩, mcell, if_pos ⟨rfl, e⟩]
  · rw [mcell, if_neg (fun q => e q.2), mcell, if_neg (by omega), mcell, if_neg (fun q => e q.2), mcell, if_neg (by omega)]
    exact h i (by omega)
theorem NA.to {C M : Nat → Nat → Int32} {p' m : Nat} (h : NA C M m) : NA (setC C 11 1 (nI p')) (setC M 8 2 (nI p')) m := fun i hi => by
  rw [mcell, if_neg (by omega), mcell, if_neg (by omega)]; exact h i hi
/-- what reading changes -/
def RC (C C' : Nat → Nat → Int32) : Prop := (∀ a, a ≠ 10 → a ≠ 11 → C' a = C a) ∧ ∀ i, i ≠ 1 → C' 11 i = C 11 i
def RM (M M' : Nat → Nat → Int32) : Prop := (∀ b, b ≠ 7 → b ≠ 8 → M' b = M b) ∧ ∀ i, i ≠ 2 → M' 8 i = M 8 i
theorem RC.refl (C : Nat → Nat → Int32) : RC C C := ⟨fun _ _ _ => rfl, fun _ _ => rfl⟩
theorem RM.refl (M : Nat → Nat → Int32) : RM M M := ⟨fun _ _ _ => rfl, fun _ _ => rfl⟩
theorem RC.trans {a b c : Nat → Nat → Int32} (h1 : RC a b) (h2 : RC b c) : RC a c := ⟨fun x p q => (h2.1 x p q).trans (h1.1 x p q), fun i p => (h2.2 i p).trans (h1.2 i p)⟩
theorem RM.trans {a b c : Nat → Nat → Int32} (h1 : RM a b) (h2 : RM b c) : RM a c := ⟨fun x p q => (h2.1 x p q).trans (h1.1 x p q), fun i p => (h2.2 i p).trans (h1.2 i p)⟩
theorem RC.sign (C : Nat → Nat → Int32) (p : Nat) : RC C (setC C 11 1 (nI p)) := ⟨fun a _ h11 => funext fun j => by rw [mcell, if_neg (fun q => h11 q.1)], fun i hi => by rw [mcell, if_neg (fun q => hi q.2)]⟩
theorem RM.sign (M : Nat → Nat → Int32) (p : Nat) : RM M (setC M 8 2 (nI p)) := ⟨fun a _ h8 => funext fun j => by rw [mcell, if_neg (fun q => h8 q.1)], fun i hi => by rw [mcell, if_neg (fun q => hi q.2)]⟩
theorem RC.num (C : Nat → Nat → Int32) (p j : Nat) (v : Int32) : RC C (setC (setC C 11 1 (nI p)) 10 j v) := (RC.sign C p).trans ⟨fun a h10 _ => funext fun j => by rw [mcell, if_neg (fun q => h10 q.1)], fun i hi => by rw [mcell, if_neg (by omega)]⟩
theorem RM.num (M : Nat → Nat → Int32) (p j : Nat) (v : Int32) : RM M (setC (setC M 8 2 (nI p)) 7 j v) := (RM.sign M p).trans ⟨fun a h7 _ => funext fun j => by rw [mcell, if_neg (fun q => h7 q.1)], fun i hi => by rw [mcell, if_neg (by omega)]⟩
