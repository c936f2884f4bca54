/-! THE REFERENCE'S WORDS: its row is its first array-/
def mw (M : Nat → Nat → Int32) (ρ : Row) : Nat → Nat → Int32 := updA M 0 ρ
theorem mw_0 (M : Nat → Nat → Int32) (ρ : Row) : mw M ρ 0 = ρ := updA_same _ _ _
theorem mw_ne (M : Nat → Nat → Int32) (ρ : Row) {a : Nat} (h : a ≠ 0) : mw M ρ a = M a := updA_ne _ h
theorem mw_mw (M : Nat → Nat → Int32) (ρ ρ' : Row) : mw (mw M ρ) ρ' = mw M ρ' := updA_updA _ _ _ _
theorem mw_self (M : Nat → Nat → Int32) : mw M (M 0) = M := updA_self _ _
theorem set0 (M : Nat → Nat → Int32) (i : Nat) (v : Int32) : setC M 0 i v = mw M (upd (M 0) i v) := rfl
theorem ix_at : ∀ k, k < 5 → ∀ v, v < 15 → inb (((20 : Int32) + ((15 : Int32) * nI k)) + nI v) 120 = true ∧ (((20 : Int32) + ((15 : Int32) * nI k)) + nI v).toNatClampNeg = KI k v := by decide +kernel
theorem of_at (M : Nat → Nat → Int32) {k v : Nat} (hk : k < 5) (hv : v < 15) : fM_of M (nI k) (nI v) = some (M 0 (KI k v)) := by
  obtain ⟨h1, h2⟩ := ix_at k hk v hv
  unfold fM_of; rw [h1, h2]; rfl
theorem put_at (M : Nat → Nat → Int32) {k v : Nat} (x : Int32) (hk : k < 5) (hv : v < 15) : fM_put M (nI k) (nI v) x = some (mw M (upd (M 0) (KI k v) x)) := by
  obtain ⟨h1, h2⟩ := ix_at k hk v hv
  unfold fM_put; rw [h1, h2]; rfl
theorem add_at (M : Nat → Nat → Int32) {k v : Nat} (x : Int32) (hk : k < 5) (hv : v < 15) : fM_add M (nI k) (nI v) x = some (mw M (upd (M 0) (KI k v) (M 0 (KI k v) + x))) := by
  obtain ⟨h1, h2⟩ := ix_at k hk v hv
  unfold fM_add; rw [h1, h2]; rfl
theorem of_0 (M : Nat → Nat → Int32) {k : Nat} (hk : k < 5) : fM_of M (nI k) (0 : Int32) = some (M 0 (KI k 0)) := of_at M hk (by decide)
theorem of_1 (M : Nat → Nat → Int32) {k : Nat} (hk : k < 5) : fM_of M (nI k) (1 : Int32) = some (M 0 (KI k 1)) := of_at M hk (by decide)
theorem of_2 (M : Nat → Nat → Int32) {k : Nat} (hk : k < 5) : fM_of M (nI k) (2 : Int32) = some (M 0 (KI k 2)) := of_at M hk (by decide)
theorem of_3 (M : Nat → Nat → Int32) {k : Nat} (hk : k < 5) : fM_of M (nI k) (3 : Int32) = some (M 0 (KI k 3)) := of_at M hk (by decide)
theorem of_4 (M : Nat → Nat → Int32) {k : Nat} (hk : k < 5) : fM_of M (nI k) (4 : Int32) = some (M 0 (KI k 4)) := of_at M hk (by decide)
theorem of_5 (M : Nat → Nat → Int32) {k : Nat} (hk : k < 5) : fM_of M (nI k) (5 : Int32) = some (M 0 (KI k 5)) := of_at M hk (by decide)
theorem of_6 (M : Nat → Nat → Int32) {k : Nat} (hk : k < 5) : fM_of M (nI k) (6 : Int32) = some (M 0 (KI k 6)) := of_at M hk (by decide)
theorem of_7 (M : Nat → Nat → Int32) {k : Nat} (hk : k < 5) : fM_of M (nI k) (7 : Int32) = some (M 0 (KI k 7)) := of_at M hk (by decide)
theorem of_8 (M : Nat → Nat → Int32) {k : Nat} (hk : k < 5) : fM_of M (nI k) (8 : Int32) = some (M 0 (KI k 8)) := of_at M hk (by decide)
theorem of_9 (M : Nat → Nat → Int32) {k : Nat} (hk : k < 5) : fM_of M (nI k) (9 : Int32) = some (M 0 (KI k 9)) := of_at M hk (by decide)
theorem of_10 (M : Nat → Nat → Int32) {k : Nat} (hk : k < 5) : fM_of M (nI k) (10 : Int32) = some (M 0 (KI k 10)) := of_at M hk (by decide)
theorem of_11 (M : Nat → Nat → Int32) {k : Nat} (hk : k < 5) : fM_of M (nI k) (11 : Int32) = some (M 0 (KI k 11)) := of_at M hk (by decide)
theorem of_12 (M : Nat → Nat → Int32) {k : Nat} (hk : k < 5) : fM_of M (nI k) (12 : Int32) = some (M 0 (KI k 12)) := of_at M hk (by decide)
theorem of_13 (M : Nat → Nat → Int32) {k : Nat} (hk : k < 5) : fM_of M (nI k) (13 : Int32) = some (M 0 (KI k 13)) := of_at M hk (by decide)
theorem of_14 (M : Nat → Nat → Int32) {k : Nat} (hk : k < 5) : fM_of M (nI k) (14 : Int32) = some (M 0 (KI k 14)) := of_at M hk (by decide)
theorem put_0 (M : Nat → Nat → Int32) {k : Nat} (x : Int32) (hk : k < 5) : fM_put M (nI k) (0 : Int32) x = some (mw M (upd (M 0) (KI k 0) x)) := put_at M x hk (by decide)
theorem put_1 (M : Nat → Nat → Int32) {k : Nat} (x : Int32) (hk : k < 5) : fM_put M (nI k) (1 : Int32) x = some (mw M (upd (M 0) (KI k 1) x)) := put_at M x hk (by decide)
theorem put_2 (M : Nat → Nat → Int32) {k : Nat} (x : Int32) (hk : k < 5) : fM_put M (nI k) (2 : Int32) x = some (mw M (upd (M 0) (KI k 2) x)) := put_at M x hk (by decide)
theorem put_4 (M : Nat → Nat → Int32) {k : Nat} (x : Int32) (hk : k < 5) : fM_put M (nI k) (4 : Int32) x = some (mw M (upd (M 0) (KI k 4) x)) := put_at M x hk (by decide)
theorem put_5 (M : Nat → Nat → Int32) {k : Nat} (x : Int32) (hk : k < 5) : fM_put M (nI k) (5 : Int32) x = some (mw M (upd (M 0) (KI k 5) x)) := put_at M x hk (by decide)
theorem put_13 (M : Nat → Nat → Int32) {k : Nat} (x : Int32) (hk : k < 5) : fM_put M (nI k) (13 : Int32) x = some (mw M (upd (M 0) (KI k 13) x)) := put_at M x hk (by decide)
theorem put_14 (M : Nat → Nat → Int32) {k : Nat} (x : Int32) (hk : k < 5) : fM_put M (nI k) (14 : Int32) x = some (mw M (upd (M 0) (KI k 14) x)) := put_at M x hk (by decide)
theorem add_1 (M : Nat → Nat → Int32) {k : Nat} (x : Int32) (hk : k < 5) : fM_add M (nI k) (1 : Int32) x = some (mw M (upd (M 0) (KI k 1) (M 0 (KI k 1) + x))) := add_at M x hk (by decide)
theorem add_3 (M : Nat → Nat → Int32) {k : Nat} (x : Int32) (hk : k < 5) : fM_add M (nI k) (3 : Int32) x = some (mw M (upd (M 0) (KI k 3) (M 0 (KI k 3) + x))) := add_at M x hk (by decide)
theorem add_4 (M : Nat → Nat → Int32) {k : Nat} (x : Int32) (hk : k < 5) : fM_add M (nI k) (4 : Int32) x = some (mw M (upd (M 0) (KI k 4) (M 0 (KI k 4) + x))) := add_at M x hk (by decide)
theorem add_6 (M : Nat → Nat → Int32) {k : Nat} (x : Int32) (hk : k < 5) : fM_add M (nI k) (6 : Int32) x = some (mw M (upd (M 0) (KI k 6) (M 0 (KI k 6) + x))) := add_at M x hk (by decide)
theorem add_7 (M : Nat → Nat → Int32) {k : Nat} (x : Int32) (hk : k < 5) : fM_add M (nI k) (7 : Int32) x = some (mw M (upd (M 0) (KI k 7) (M 0 (KI k 7) + x))) := add_at M x hk (by decide)
theorem add_8 (M : Nat → Nat → Int32) {k : Nat} (x : Int32) (hk : k < 5) : fM_add M (nI k) (8 : Int32) x = some (mw M (upd (M 0) (KI k 8) (M 0 (KI k 8) + x))) := add_at M x hk (by decide)
theorem add_9 (M : Nat → Nat → Int32) {k : Nat} (x : Int32) (hk : k < 5) : fM_add M (nI k) (9 : Int32) x = some (mw M (upd (M 0) (KI k 9) (M 0 (KI k 9) + x))) := add_at M x hk (by decide)
theorem add_10 (M : Nat → Nat → Int32) {k : Nat} (x : Int32) (hk : k < 5) : fM_add M (nI k) (10 : Int32) x = some (mw M (upd (M 0) (KI k 10) (M 0 (KI k 10) + x))) := add_at M x hk (by decide)
theorem add_11 (M : Nat → Nat → Int32) {k : Nat} (x : Int32) (hk : k < 5) : fM_add M (nI k) (11 : Int32) x = some (mw M (upd (M 0) (KI k 11) (M 0 (KI k 11) + x))) := add_at M x hk (by decide)
theorem add_12 (M : Nat → Nat → Int32) {k : Nat} (x : Int32) (hk : k < 5) : fM_add M (nI k) (12 : Int32) x = some (mw M (upd (M 0) (KI k 12) (M 0 (KI k 12) + x))) := add_at M x hk (by decide)
theorem mdrops_is (M : Nat → Nat → Int32) {k : Nat} (hk : k < 5) : fM_drops M (nI k) = some (dc (M 0) k) := by
  unfold fM_drops dc
  rw [of_0 M hk, sb]
  split
  · rw [of_3 M hk]; rfl
  · split
    · rw [of_4 M hk]; rfl
    · rw [of_9 M hk, sb, of_4 M hk]; rfl
theorem div_qt {x y : Int32} (hx : 0 ≤ x.toInt) (hy : 1 ≤ y.toInt) : x / y = qt x y := by
  rw [t_eq, t_div' hy, qt_toInt hy, Int.tdiv_eq_ediv_of_nonneg hx]
theorem mtrueHour_is {M : Nat → Nat → Int32} (h6 : 0 ≤ (M 0 6).toInt) (h3 : 1 ≤ (M 0 3).toInt) : fM_trueHour M = some (th (M 0)) := by
  unfold fM_trueHour th
  rw [nz_pos h3, gd_t, div_qt h6 h3]
theorem mhourOf_is {M : Nat → Nat → Int32} {k : Nat} (hk : k < 5) (h2 : 1 ≤ (M 0 (KI k 2)).toInt) : fM_hourOf M (nI k) = some (ho (M 0) k) := by
  unfold fM_hourOf ho
  rw [of_13 M hk, sb, mdrops_is M hk, sb, of_14 M hk, sb, of_2 M hk, sb, floor_is h2]; rfl
theorem merror_is {M : Nat → Nat → Int32} {k : Nat} (hk : k < 5) (h2 : 1 ≤ (M 0 (KI k 2)).toInt) (h6 : 0 ≤ (M 0 6).toInt) (h3 : 1 ≤ (M 0 3).toInt) : fM_error M (nI k) = some (er (M 0) k) := by
  unfold fM_error er
  rw [mhourOf_is hk h2, sb, mtrueHour_is h6 h3]; rfl
theorem msize_is (M : Nat → Nat → Int32) (x : Int32) : fM_size M x = some (ab x) := by
  unfold fM_size ab
  split <;> rfl
def tru (σ : Row) (k : Nat) (h : Int32) : Row := upd (upd (upd σ (KI k 13) h) (KI k 14) (dc σ k)) (KI k 11) (σ (KI k 11) + 1)
theorem dc_13 (σ : Row) (k : Nat) (h : Int32) : dc (upd σ (KI k 13) h) k = dc σ k := by
  unfold dc
  simp [upd_at, KI_KI]
theorem trueTo_is (σ : Row) (k : Nat) (h : Int32) : fK_trueTo σ k h = some (tru σ k h) := by
  unfold fK_trueTo tru
  rw [lt_is, dropsCounted_is, sb, dc_13]
  simp [lt_is, upd_at, KI_KI]
def lay (σ : Row) (k : Nat) (h : Int32) : Row := upd (upd σ (KI k 13) h) (KI k 14) (dc σ k)
theorem mlay_is {M : Nat → Nat → Int32} {k : Nat} (hk : k < 5) (h6 : 0 ≤ (M 0 6).toInt) (h3 : 1 ≤ (M 0 3).toInt) : fM_lay M (nI k) = some (mw M (lay (M 0) k (th (M 0)))) := by
  unfold fM_lay lay
  rw [mtrueHour_is h6 h3, sb, put_13 M _ hk, sb, mdrops_is _ hk, sb, put_14 _ _ hk, sb, mw_0, mw_mw, dc_13]
theorem mmakeTrue_is {M : Nat → Nat → Int32} {k : Nat} (hk : k < 5) (h6 : 0 ≤ (M 0 6).toInt) (h3 : 1 ≤ (M 0 3).toInt) : fM_makeTrue M (nI k) = some (mw M (upd (tru (M 0) k (th (M 0))) 16 (M 0 16 + 1))) := by
  unfold fM_makeTrue
  rw [mlay_is hk h6 h3, sb, add_11 _ _ hk, sb, mw_0, mw_mw, lt_is, set0, mw_0, mw_mw]
  have e1 : lay (M 0) k (th (M 0)) (KI k 11) = M 0 (KI k 11) := by unfold lay; simp [upd_at, KI_KI]
  have e2 : upd (lay (M 0) k (th (M 0))) (KI k 11) (M 0 (KI k 11) + 1) 16 = M 0 16 := by unfold lay; simp [upd_at, KI_lit1]
  rw [e1, e2]
  rfl
theorem mn_alt (d r : Int32) : (if r ≤ d then r else d) = mn d r := by
  unfold mn
  by_cases h : r < d
  · rw [if_pos h, if_pos (by rw [t_le]; rw [t_lt] at h; omega)]
  · rw [if_neg h]
    by_cases e : r ≤ d
    · rw [if_pos e]
      rw [t_lt] at h; rw [t_le] at e; rw [t_eq]; omega
    · rw [if_neg e]
theorem some_if {α : Type} {c : Prop} [Decidable c] (a b : α) : (if c then some a else some b) = some (if c then a else b) := by split <;> rfl
theorem mfill_is (M : Nat → Nat → Int32) {t : Nat} (d : Int32) (ht : t < 5) : fM_fill M (nI t) d = some (d - mn d (rm (M 0 0) (M 0 (KI t 3))), mw M (ent (M 0) t d)) := by
  unfold fM_fill
  simp only [of_3 M ht, sb, some_if]
  have e : (if M 0 0 ≤ M 0 (KI t 3) then (0 : Int32) else M 0 0 - M 0 (KI t 3)) = rm (M 0 0) (M 0 (KI t 3)) := rfl
  rw [e, mn_alt, add_3 M _ ht, sb]
  simp only [lt_is, set0, mw_0, mw_mw, upd_at, KI_lit1, Nat.reduceLT, Nat.reduceEqDiff, if_false]
  rfl
theorem mgoOn_is (M : Nat → Nat → Int32) {k : Nat} (d : Int32) (hk : k < 5) (h : M 0 (KI k 5) = nI (ld (M 0) k)) (hl : ld (M 0) k < 5) : fM_goOn M (nI k) d = some (mw M (gon (M 0) k d)) := by
  unfold fM_goOn gon
  rw [of_5 M hk, sb]
  by_cases e : ld (M 0) k = k
  · rw [if_pos e, if_pos (by rw [h, e])]; rfl
  · rw [if_neg e, if_neg (by
      intro q
      apply e
      have := congrArg Int32.toNatClampNeg q
      rw [cl_nI (by omega)] at this
      exact this), sb, h, mfill_is M d hl]; rfl
theorem mn_alt2 (d r : Int32) : (if d ≤ r then d else r) = mn d r := by
  unfold mn
  by_cases h : r < d
  · rw [if_pos h, if_neg (by rw [t_le]; rw [t_lt] at h; omega)]
  · rw [if_neg h, if_pos (by rw [t_le]; rw [t_lt] at h; omega)]
theorem mdripOf_is (M : Nat → Nat → Int32) {k : Nat} (hk : k < 5) : fM_dripOf M (nI k) = some (nd (M 0) k) := by
  unfold fM_dripOf nd
  simp only [of_1 M hk, of_3 M hk, sb, some_if]
  rw [mn_alt2]
theorem mrise_is (M : Nat → Nat → Int32) {k : Nat} (d : Int32) (hk : k < 5) : fM_rise M (nI k) d = some (mw M (ris (M 0) k d)) := by
  unfold fM_rise ris
  simp only [of_4 M hk, sb, some_if]
  have e : (if M 0 0 ≤ M 0 (KI k 4) then (0 : Int32) else M 0 0 - M 0 (KI k 4)) = rm (M 0 0) (M 0 (KI k 4)) := rfl
  rw [e, mn_alt, add_4 M _ hk, sb]
  simp only [lt_is, set0, mw_0, mw_mw, upd_at, KI_lit1, Nat.reduceLT, if_false]
theorem gon_congr {s s' : Row} {k i : Nat} {d : Int32} (h0 : s 0 = s' 0) (g8 : s 8 = s' 8) (g9 : s 9 = s' 9) (g12 : s 12 = s' 12) (h5 : s (KI k 5) = s' (KI k 5)) (hu : s (KI (ld s' k) 3) = s' (KI (ld s' k) 3)) (hi : s i = s' i) : gon s k d i = gon s' k d i := by
  have el : ld s k = ld s' k := by unfold ld; rw [h5]
  unfold gon
  rw [el]
  by_cases c : ld s' k = k
  · rw [if_pos c, if_pos c]; simp [upd_at, g8, hi]
  · rw [if_neg c, if_neg c]; simp [ent, upd_at, h0, g8, g9, g12, hu, hi]
def skm (ρ : Row) (k : Nat) : Row := upd (upd (upd (upd (upd ρ (KI k 4) 0) (KI k 8) (ρ (KI k 8) + 1)) (KI k 9) (ρ (KI k 9) + ρ 1)) 17 (ρ 17 + 1)) 13 (ρ 13 + ρ (KI k 4))
theorem mstroke_is (M : Nat → Nat → Int32) {k : Nat} (hk : k < 5) (h : M 0 (KI k 5) = nI (ld (M 0) k)) (hl : ld (M 0) k < 5) : fM_stroke M (nI k) = some (mw M (gon (skm (M 0) k) k (M 0 (KI k 4)))) := by
  unfold fM_stroke
  have e5 : skm (M 0) k (KI k 5) = M 0 (KI k 5) := by unfold skm; simp [upd_at, KI_KI, KI_lit2]
  have el : ld (skm (M 0) k) k = ld (M 0) k := by unfold ld; rw [e5]
  rw [of_4 M hk, sb, put_4 M _ hk, sb, add_8 _ _ hk, sb, mw_0, mw_mw, add_9 _ _ hk, sb, mw_0, mw_mw]
  simp only [lt_is, set0, mw_0, mw_mw]
  have es : ∀ r : Row, r = skm (M 0) k → (fM_goOn (mw M r) (nI k) (M 0 (KI k 4))).bind (fun q9 => some q9) = some (mw M (gon (skm (M 0) k) k (M 0 (KI k 4)))) := by
    intro r hr
    subst hr
    rw [mgoOn_is _ _ hk (by rw [mw_0, el, e5]; exact h) (by rw [mw_0, el]; exact hl), sb, mw_0, mw_mw]
  apply es
  unfold skm
  simp [upd_at, KI_KI, KI_lit1]
