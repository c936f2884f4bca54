/-! A CLOCK'S WORDS: drops counted, hours, errors, what drips, where it goes-/
theorem KI_lit1 {c f n : Nat} (h : n < 20) : (n = KI c f) = False := eq_false (sc_KI h)
theorem KI_lit2 {c f n : Nat} (h : n < 20) : (KI c f = n) = False := eq_false (KI_sc h)
theorem KI_KI {c k f g : Nat} (hf : f < 15) (hg : g < 15) : (KI c f = KI k g) = (c = k ∧ f = g) := propext (KI_eq_iff hf hg)
theorem gd_t {α : Type} (t : Option α) : gd true t = t := rfl
theorem lt_is {α β : Type} (x : α) (f : α → β) : lt x f = f x := rfl
theorem onN_s {α : Type} (k : Nat) (A : α) (B : Nat → α) : onN (some k) A B = B k := rfl
theorem onN_n {α : Type} (A : α) (B : Nat → α) : onN none A B = A := rfl
theorem sb {α β : Type} (x : α) (f : α → Option β) : (some x).bind f = f x := rfl
abbrev Row : Type := Nat → Int32
def mn (a b : Int32) : Int32 := if b < a then b else a
theorem min_is (a b : Int32) : fJ_min a b = some (mn a b) := by
  unfold fJ_min mn
  split <;> rfl
def rm (v x : Int32) : Int32 := if v ≤ x then 0 else v - x
def dc (σ : Row) (k : Nat) : Int32 := if σ (KI k 0) = 0 then -(σ (KI k 3)) else if σ (KI k 0) = 1 then σ (KI k 4) else σ (KI k 9) + σ (KI k 4)
def th (σ : Row) : Int32 := qt (σ 6) (σ 3)
def ho (σ : Row) (k : Nat) : Int32 := σ (KI k 13) + qt (dc σ k - σ (KI k 14)) (σ (KI k 2))
def er (σ : Row) (k : Nat) : Int32 := ho σ k - th σ
def ab (x : Int32) : Int32 := if 0 ≤ x then x else -x
def nd (σ : Row) (k : Nat) : Int32 := mn (σ (KI k 3)) (σ (KI k 1) + σ (KI k 1) * σ (KI k 3) / 1000)
def ld (σ : Row) (k : Nat) : Nat := (σ (KI k 5)).toNatClampNeg
def ent (σ : Row) (t : Nat) (d : Int32) : Row := upd (upd (upd σ (KI t 3) (σ (KI t 3) + mn d (rm (σ 0) (σ (KI t 3))))) 12 (σ 12 + mn d (rm (σ 0) (σ (KI t 3))))) 9 (σ 9 + (d - mn d (rm (σ 0) (σ (KI t 3)))))
def gon (σ : Row) (k : Nat) (d : Int32) : Row := if ld σ k = k then upd σ 8 (σ 8 + d) else ent σ (ld σ k) d
def ris (σ : Row) (k : Nat) (d : Int32) : Row := upd (upd σ (KI k 4) (σ (KI k 4) + mn d (rm (σ 0) (σ (KI k 4))))) 9 (σ 9 + (d - mn d (rm (σ 0) (σ (KI k 4)))))
def skr (σ : Row) (k : Nat) : Row := upd (upd (upd (upd σ (KI k 4) 0) (KI k 8) (σ (KI k 8) + 1)) (KI k 9) (σ (KI k 9) + σ 1)) 13 (σ 13 + σ (KI k 4))
/-- whether the siphon strokes, its drops having come -/
def isk (σ : Row) (k : Nat) (d : Int32) : Prop := ¬ σ (KI k 0) = 0 ∧ ¬ σ (KI k 0) = 1 ∧ σ 1 ≤ σ (KI k 4) + d
def aft (σ : Row) (k : Nat) (d : Int32) : Row := if σ (KI k 0) = 0 then gon σ k d else if σ (KI k 0) = 1 then ris σ k d else if σ 1 ≤ σ (KI k 4) + d then gon (skr (upd σ (KI k 4) (σ (KI k 4) + d)) k) k (σ (KI k 4) + d) else upd σ (KI k 4) (σ (KI k 4) + d)
def lt3 (σ : Row) (k : Nat) (d : Int32) : Row := upd (upd (upd σ (KI k 3) (σ (KI k 3) - d)) (KI k 6) (σ (KI k 6) + d)) (KI k 7) (σ (KI k 7) + d)
def w3 (σ : Row) (k : Nat) (r w x : Int32) : Row := upd (upd (upd σ (KI k 7) r) (KI k 1) w) (KI k 12) x
def wg (σ : Row) (k : Nat) : Int32 := mn (qt (σ (KI k 7)) (σ 2)) (60 - σ (KI k 1))
def wr (σ : Row) (k : Nat) : Row := w3 σ k (σ (KI k 7) - qt (σ (KI k 7)) (σ 2) * σ 2) (σ (KI k 1) + wg σ k) (σ (KI k 12) + wg σ k)
/-- a tick of one clock, as the class lets it drip -/
def cst (σ : Row) (k : Nat) : Row := wr (aft (upd (lt3 σ k (nd σ k)) 11 (σ 11 + nd σ k)) k (nd σ k)) k
/-- bounds -/
def CB (σ : Row) (n : Nat) (b : Int) (k : Nat) : Prop :=
  (σ (KI k 0) = 0 ∨ σ (KI k 0) = 1 ∨ σ (KI k 0) = 2) ∧ (1 ≤ (σ (KI k 1)).toInt ∧ (σ (KI k 1)).toInt ≤ 60) ∧ (1 ≤ (σ (KI k 2)).toInt ∧ (σ (KI k 2)).toInt ≤ 500) ∧
  (0 ≤ (σ (KI k 3)).toInt ∧ (σ (KI k 3)).toInt ≤ 5000) ∧ (0 ≤ (σ (KI k 4)).toInt ∧ (σ (KI k 4)).toInt ≤ 5000) ∧
  (σ (KI k 5) = nI (ld σ k) ∧ k ≤ ld σ k ∧ ld σ k < n) ∧ (σ (KI k 0) = 1 → ld σ k = k) ∧
  (0 ≤ (σ (KI k 7)).toInt ∧ (σ (KI k 7)).toInt ≤ 5000) ∧ (0 ≤ (σ (KI k 9)).toInt ∧ (σ (KI k 9)).toInt ≤ 900 * b) ∧
  (0 ≤ (σ (KI k 13)).toInt ∧ (σ (KI k 13)).toInt ≤ b) ∧ (-5000 ≤ (σ (KI k 14)).toInt ∧ (σ (KI k 14)).toInt ≤ 900 * b + 5000)
def ST (σ : Row) : Prop := (500 ≤ (σ 0).toInt ∧ (σ 0).toInt ≤ 5000) ∧ (20 ≤ (σ 1).toInt ∧ (σ 1).toInt ≤ 900) ∧ (50 ≤ (σ 2).toInt ∧ (σ 2).toInt ≤ 5000) ∧ (1 ≤ (σ 3).toInt ∧ (σ 3).toInt ≤ 30) ∧ (0 ≤ (σ 4).toInt ∧ (σ 4).toInt ≤ 12) ∧ (σ 5 = 0 ∨ σ 5 = 1)
def IR (σ : Row) (n : Nat) (b : Int) : Prop := (σ 19 = nI n ∧ n ≤ 5) ∧ ST σ ∧ (0 ≤ (σ 6).toInt ∧ (σ 6).toInt ≤ b ∧ b ≤ 200000) ∧ ∀ k, k < n → CB σ n b k
/-! the class's words for them -/
theorem nI5 {k n : Nat} (h : k < n) (hn : n ≤ 5) : ¬ nI k < 0 ∧ ¬ nI n ≤ nI k ∧ ¬ (5 : Int32) ≤ nI k := by
  have h1 := t_lit k (by omega)
  have h2 := t_lit n (by omega)
  refine ⟨?_, ?_, ?_⟩
  · rw [t_lt, h1]; show ¬ (k : Int) < 0; omega
  · rw [t_le, h1, h2]; omega
  · rw [t_le, h1]; show ¬ (5 : Int) ≤ k; omega
theorem clockAt_in {σ : Row} {k n : Nat} (hc : σ 19 = nI n) (h : k < n) (hn : n ≤ 5) : fS_clockAt σ (nI k) = some (some k) := by
  obtain ⟨h1, h2, h3⟩ := nI5 h hn
  unfold fS_clockAt
  rw [hc, if_neg h1, if_neg h2, if_neg h3, inb_nI (by omega) (by decide), cl_nI (by omega)]
  rfl
theorem clockAt_out {σ : Row} {x : Int32} {n : Nat} (hc : σ 19 = nI n) (hn : n ≤ 5) (h : ¬ (0 ≤ x.toInt ∧ x.toInt < (n : Int))) : fS_clockAt σ x = some none := by
  unfold fS_clockAt
  rw [hc]
  have h2 := t_lit n (by omega)
  by_cases h0 : x < 0
  · rw [if_pos h0]
  · rw [if_neg h0]
    have h1 : nI n ≤ x := by
      rw [t_le, h2]
      rw [t_lt] at h0
      have : (0 : Int32).toInt = 0 := rfl
      omega
    rw [if_pos h1]
theorem dropsCounted_is (σ : Row) (k : Nat) : fK_dropsCounted σ k = some (dc σ k) := by
  unfold fK_dropsCounted dc
  split
  · rfl
  · split <;> rfl
theorem trueHour_is {σ : Row} (h : 1 ≤ (σ 3).toInt) : fS_trueHour σ = some (th σ) := by
  unfold fS_trueHour th
  rw [quotient_is h]; rfl
theorem hourTold_is {σ : Row} {k : Nat} (h : 1 ≤ (σ (KI k 2)).toInt) : fK_hourTold σ k = some (ho σ k) := by
  unfold fK_hourTold ho
  rw [dropsCounted_is, sb, quotient_is h]; rfl
theorem errorOf_is {σ : Row} {k : Nat} (h : 1 ≤ (σ (KI k 2)).toInt) (h3 : 1 ≤ (σ 3).toInt) : fS_errorOf σ k = some (er σ k) := by
  unfold fS_errorOf er
  rw [hourTold_is h, sb, trueHour_is h3]; rfl
theorem abs_is (x : Int32) : fJ_abs x = some (ab x) := by
  unfold fJ_abs ab
  split <;> rfl
theorem nextDrip_is (σ : Row) (k : Nat) : fK_nextDrip σ k = some (nd σ k) := by
  unfold fK_nextDrip nd
  rw [min_is]; rfl
theorem letThrough_is (σ : Row) (k : Nat) : fK_letThrough σ k = some (nd σ k, lt3 σ k (nd σ k)) := by
  unfold fK_letThrough lt3
  rw [nextDrip_is]
  simp only [sb, lt_is, upd_at, KI_KI, Nat.reduceLT, Nat.reduceEqDiff, and_false, if_false]
theorem room_is (σ : Row) (x : Int32) : fS_roomAbove σ x = some (rm (σ 0) x) := by
  unfold fS_roomAbove rm
  split <;> rfl
theorem enterUpper_is (σ : Row) (t : Nat) (d : Int32) : fS_enterUpper σ t d = some (d - mn d (rm (σ 0) (σ (KI t 3))), ent σ t d) := by
  unfold fS_enterUpper ent
  rw [room_is, sb, min_is, sb]
  simp [lt_is, upd_at, KI_lit1]
theorem goOn_is {σ : Row} {k n : Nat} (d : Int32) (hc : σ 19 = nI n) (hn : n ≤ 5) (h : σ (KI k 5) = nI (ld σ k) ∧ k ≤ ld σ k ∧ ld σ k < n) : fS_goOn σ k d = some (gon σ k d) := by
  unfold fS_goOn gon
  obtain ⟨h1, h2, h3⟩ := h
  by_cases e : ld σ k = k
  · rw [if_pos e, if_pos (by rw [h1, e]; rfl)]; rfl
  · rw [if_neg e, if_neg (by
      intro q
      apply e
      have := congrArg Int32.toNatClampNeg q
      rw [show (nI' k) = nI k from rfl, cl_nI (by omega)] at this
      exact this), h1, clockAt_in hc h3 hn, sb, onN_s, enterUpper_is]
    rfl
theorem strokeOf_is (σ : Row) (k : Nat) : fS_strokeOf σ k = some (if σ 1 ≤ σ (KI k 4) then (σ (KI k 4), skr σ k) else (0, σ)) := by
  unfold fS_strokeOf skr
  split
  · simp [lt_is, upd_at, KI_KI, KI_lit1]
  · rfl
theorem wearHole_is {σ : Row} {k : Nat} (h : 1 ≤ (σ 2).toInt) : fK_wearHole σ k (σ 2) = some (wr σ k) := by
  unfold fK_wearHole wr w3 wg
  rw [quotient_is h, sb, min_is, sb]
  simp [lt_is, upd_at, KI_KI]
