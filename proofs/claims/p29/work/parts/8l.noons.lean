/-! TRIALS OF THE LAW: up to a noon, in the class -/
def itP (n : Nat) : Nat → Row → Row
  | 0, φ => φ
  | m + 1, φ => itP n m (ps n φ)
theorem ps_3 {φ : Row} {n i : Nat} (hi : i < 6) : ps n φ i = φ i := by
  unfold ps
  rw [upd_ne _ (by omega), cF_lit (by omega) (by omega) (by omega) (by omega) (by omega) (by omega) n]
theorem ref_noon {n k : Nat} {T : Int} (hk : k < n) (hT2 : T ≤ 199999) : ∀ (m fu : Nat) (M : Nat → Nat → Int32) (φ : Row), m < fu → (φ 6).toInt + m = T → IR φ n (φ 6).toInt → SH φ (M 0) → T % (12 * (φ 3).toInt) = 0 → (m : Int) < 12 * (φ 3).toInt →
    ∃ ρ', fM_errorAtNoon_L17 fu M (nI k) = (fM_putBack (mw M ρ')).bind (fun q => some (er (itP n m φ) k, q)) := by
  intro m
  induction m with
  | zero =>
    intro fu M φ hf h6 hi hs hT hm
    obtain ⟨fu, rfl⟩ : ∃ q, fu = q + 1 := ⟨fu - 1, by omega⟩
    exact ⟨M 0, by rw [mnoonerr hi hs hk (by rw [show (φ 6).toInt = T by omega]; exact hT), mw_self]; rfl⟩
  | succ m ih =>
    intro fu M φ hf h6 hi hs hT hm
    obtain ⟨fu, rfl⟩ : ∃ q, fu = q + 1 := ⟨fu - 1, by omega⟩
    have hb : (φ 6).toInt + 1 ≤ 200000 := by omega
    obtain ⟨ρ1, p1, p2, -⟩ := pass_is (IP.of hi hb) hs
    obtain ⟨q1, q2⟩ := ps_IR hi hb
    have e3 : ps n φ 3 = φ 3 := ps_3 (by decide)
    obtain ⟨ρ', g⟩ := ih fu (mw M ρ1) (ps n φ) (by omega) (by rw [q2]; omega) (by rw [q2]; exact q1) (by rw [mw_0]; exact p2) (by rw [e3]; exact hT) (by rw [e3]; omega)
    refine ⟨ρ', ?_⟩
    rw [mnotnoon hi hs (by rw [show (φ 6).toInt = T - ((m + 1 : Nat) : Int) by omega]; exact no_noon hT (by omega) hm), p1, sb]
    dsimp only
    rw [g, mw_mw]
    rfl
/-- ticks up to the next noon -/
def toN (φ : Row) : Nat := (un φ).toInt.toNat
theorem toN_b {φ : Row} (h6 : 0 ≤ (φ 6).toInt ∧ (φ 6).toInt ≤ 99999) (h3 : 1 ≤ (φ 3).toInt ∧ (φ 3).toInt ≤ 30) : 1 ≤ toN φ ∧ toN φ ≤ 360 ∧ (toN φ : Int) ≤ 12 * (φ 3).toInt ∧ ((φ 6).toInt + toN φ) % (12 * (φ 3).toInt) = 0 := by
  have u := un_i (σ := φ) ⟨h6.1, by omega⟩ h3
  have um := Int.emod_nonneg (φ 6).toInt (show 12 * (φ 3).toInt ≠ 0 by omega)
  have ul := Int.emod_lt_of_pos (φ 6).toInt (show 0 < 12 * (φ 3).toInt by omega)
  have e : (toN φ : Int) = 12 * (φ 3).toInt - (φ 6).toInt % (12 * (φ 3).toInt) := by unfold toN; omega
  refine ⟨by omega, by omega, by omega, ?_⟩
  rw [e]; exact noon_at _ _
theorem ref_val {n k : Nat} {M : Nat → Nat → Int32} {φ : Row} {x2 : Int32} (hk : k < n) (hn : n ≤ 5) (hi : IR φ n (φ 6).toInt) (h6 : (φ 6).toInt ≤ 99999) (hs : SH φ (upd (M 0) (KI k 1) (M 0 (KI k 1) - x2))) : ∃ M', fM_errorAtNoon M (nI k) x2 = some (er (itP n (toN φ) φ) k, M') := by
  obtain ⟨M1, b1, b2⟩ := aside_is M
  have m0 : M1 0 = M 0 := funext fun j => by rw [b2 0 j, if_neg (by omega)]
  obtain ⟨u1, u2, u3, u4⟩ := toN_b (φ := φ) ⟨hi.2.2.1.1, h6⟩ hi.2.1.2.2.2.1
  obtain ⟨U, hU⟩ : ∃ U, toN φ = U + 1 := ⟨toN φ - 1, by omega⟩
  have hb : (φ 6).toInt + 1 ≤ 200000 := by omega
  unfold fM_errorAtNoon
  rw [b1, sb, show fM_add M1 (nI k) 1 (-x2) = some (mw M1 (upd (M1 0) (KI k 1) (M1 0 (KI k 1) + -x2))) from add_at M1 (v := 1) _ (by omega) (by decide), sb, m0, ← Int32.sub_eq_add_neg]
  obtain ⟨ρ1, p1, p2, -⟩ := pass_is (M := mw M1 (upd (M 0) (KI k 1) (M 0 (KI k 1) - x2))) (IP.of hi hb) (by rw [mw_0]; exact hs)
  obtain ⟨q1, q2⟩ := ps_IR hi hb
  have e3 : ps n φ 3 = φ 3 := ps_3 (by decide)
  obtain ⟨ρ', g⟩ := ref_noon (T := (φ 6).toInt + toN φ) hk (by omega) U fuel (mw (mw M1 (upd (M 0) (KI k 1) (M 0 (KI k 1) - x2))) ρ1) (ps n φ) (by unfold fuel; omega) (by rw [q2, hU]; omega) (by rw [q2]; exact q1) (by rw [mw_0]; exact p2) (by rw [e3]; exact u4) (by rw [e3]; omega)
  rw [p1, sb]
  dsimp only
  rw [g]
  obtain ⟨M', r1, -⟩ := putb_is (mw (mw (mw M1 (upd (M 0) (KI k 1) (M 0 (KI k 1) - x2))) ρ1) ρ')
  rw [r1, sb]
  exact ⟨M', by rw [hU]; rfl⟩
/-- a row with a narrower hole; the error at the next noon with so much wax -/
def nar (σ : Row) (k i : Nat) : Row := upd σ (KI k 1) (σ (KI k 1) - nI i)
def ew (n : Nat) (σ : Row) (k i : Nat) : Int32 := er (itP n (toN (nar σ k i)) (nar σ k i)) k
theorem nar_RR {w T : Int} {n : Nat} {X : XS} {N M : Nat → Nat → Int32} {g : Int32} (h : LQ w n T X N M g) (hT : T ≤ 99999) {k i : Nat} (hk : k < n) (hi : (i : Int) < (X.1 0 (KI k 1)).toInt) : RR n (nar (X.1 0) k i) (upd (M 0) (KI k 1) (M 0 (KI k 1) - nI i)) ∧ (nar (X.1 0) k i 6).toInt ≤ 99999 ∧ WB (nar (X.1 0) k i) n w := by
  have b1 := (h.2.2.1.1.2.2.2 k hk).2.1
  have ti := t_lit i (by omega)
  have mk : M 0 (KI k 1) = X.1 0 (KI k 1) := (h.2.2.1.2.2.1.2 k 1 (by have := h.n5; omega) (by decide)).symm
  rw [mk]
  exact narrow_row (x2 := nI i) h.2.2.1 (by have := h.2.2.2.2.2; omega) h.2.2.2.1 hk ⟨by omega, by omega⟩
/-- nothing but the trial has changed -/
def QT (X X' : XS) : Prop := X'.2 = X.2 ∧ ∀ a, a ≠ 1 → X'.1 a = X.1 a
theorem QT.refl (X : XS) : QT X X := ⟨rfl, fun _ _ => rfl⟩
theorem QT.trans {X Y Z : XS} (h1 : QT X Y) (h2 : QT Y Z) : QT X Z := ⟨h2.1.trans h1.1, fun a ha => (h2.2 a ha).trans (h1.2 a ha)⟩
theorem LQ.qt {w T : Int} {n : Nat} {X X' : XS} {N M : Nat → Nat → Int32} {g : Int32} (h : LQ w n T X N M g) (hq : QT X X') : LQ w n T X' N M g := by
  obtain ⟨⟨st, a⟩, b, c, d, e, f⟩ := h
  have e0 := hq.2 0 (by decide)
  exact ⟨⟨st, XRs_1 a hq.1 hq.2⟩, b, by rw [e0]; exact c, by rw [e0]; exact d, by rw [e0]; exact e, by rw [e0]; exact f⟩
theorem LQ.nr {w T : Int} {n : Nat} {X : XS} {N N' M : Nat → Nat → Int32} {g : Int32} (h : LQ w n T X N M g) (h0 : ∀ r, r < 4 → N' r = N r) : LQ w n T X N' M g := by
  obtain ⟨a, b, c⟩ := h
  exact ⟨a, by rw [h0 0 (by decide), h0 1 (by decide), h0 2 (by decide), h0 3 (by decide)]; exact b, c⟩
theorem noonw {w T : Int} {n : Nat} {X : XS} {N M : Nat → Nat → Int32} {g : Int32} (h : LQ w n T X N M g) (hT : T ≤ 99999) {k i : Nat} (hk : k < n) (hi : (i : Int) < (X.1 0 (KI k 1)).toInt) : ∃ X', fX_noonErrorWith X (nI k) (nI i) = some (ew n (X.1 0) k i, X') ∧ QT X X' := by
  have hn := h.n5
  have b1 := (h.2.2.1.1.2.2.2 k hk).2.1
  have ti := t_lit i (by omega)
  obtain ⟨st, hx⟩ := h.1
  obtain ⟨r, X', M', c1, c2, -, c4, -⟩ := with_is (x2 := nI i) hx h.2.2.1 (by have := h.2.2.2.2.2; omega) h.2.2.2.1 hk ⟨by omega, by omega⟩
  obtain ⟨r1, r2, r3⟩ := nar_RR h hT hk hi
  obtain ⟨M2, d⟩ := ref_val (M := M) (x2 := nI i) hk hn r1.1 r2 r1.2.2.1
  rw [c2] at d
  obtain ⟨e, -⟩ := Prod.mk.inj (Option.some.inj d)
  exact ⟨X', by rw [c1, e]; rfl, c4⟩
