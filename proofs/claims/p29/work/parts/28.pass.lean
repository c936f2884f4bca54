/-! A TICK UP TO ITS NOON: the reference against the class -/
theorem lt3_congr {s s' : Row} {k i : Nat} {d : Int32} (hk : ∀ f, f < 15 → s (KI k f) = s' (KI k f)) (hi : s i = s' i) : lt3 s k d i = lt3 s' k d i := by
  unfold lt3
  simp only [upd_at, KI_KI, Nat.reduceLT, Nat.reduceEqDiff, and_false, if_false, hk 3 (by decide), hk 6 (by decide), hk 7 (by decide), hi]
theorem aft_congrK {s s' : Row} {k i : Nat} {d : Int32} (h0 : s 0 = s' 0) (h1 : s 1 = s' 1) (hk : ∀ f, f < 15 → s (KI k f) = s' (KI k f)) (g8 : i ≠ 8) (g9 : i ≠ 9) (g12 : i ≠ 12) (g13 : i ≠ 13) (hi : s i = s' i) : aft s k d i = aft s' k d i := by
  have e0 := hk 0 (by decide)
  have e4 := hk 4 (by decide)
  have e5 := hk 5 (by decide)
  have e8 := hk 8 (by decide)
  have e9 := hk 9 (by decide)
  have el : ld s k = ld s' k := by unfold ld; rw [e5]
  have key : ∀ (a a' : Row) (x : Int32), a 0 = s 0 → a' 0 = s' 0 → ld a k = ld s k → ld a' k = ld s' k → a i = a' i → gon a k x i = gon a' k x i := by
    intro a a' x b0 b0' bl bl' bi
    unfold gon
    rw [bl, bl', el]
    by_cases c : ld s' k = k
    · rw [if_pos c, if_pos c]; simp [upd_at, g8, bi]
    · rw [if_neg c, if_neg c]
      unfold ent
      by_cases ci : i = KI (ld s' k) 3
      · subst ci
        simp [upd_at, KI_lit2, b0, b0', h0, bi]
      · simp [upd_at, g9, g12, ci, bi]
  unfold aft
  rw [e0, h1, e4]
  by_cases c0 : s' (KI k 0) = 0
  · rw [if_pos c0, if_pos c0]; exact key s s' d rfl rfl rfl rfl hi
  · rw [if_neg c0, if_neg c0]
    by_cases c1 : s' (KI k 0) = 1
    · rw [if_pos c1, if_pos c1]; simp [ris, upd_at, g9, h0, e4, hi]
    · rw [if_neg c1, if_neg c1]
      by_cases c2 : s' 1 ≤ s' (KI k 4) + d
      · rw [if_pos c2, if_pos c2]
        refine key _ _ _ ?_ ?_ ?_ ?_ ?_
        · simp [skr, upd_at, KI_lit1]
        · simp [skr, upd_at, KI_lit1]
        · unfold ld; rw [skr_at _ _ _ _ (by decide) (by decide) (by decide) (by decide), uK_f _ (by decide) (by decide) (by decide)]
        · unfold ld; rw [skr_at _ _ _ _ (by decide) (by decide) (by decide) (by decide), uK_f _ (by decide) (by decide) (by decide)]
        · simp [skr, upd_at, KI_KI, KI_lit1, g13, e4, e8, e9, h1, hi]
      · rw [if_neg c2, if_neg c2]; simp [upd_at, hi]
theorem nd_congr {s s' : Row} {k : Nat} (hk : ∀ f, f < 15 → s (KI k f) = s' (KI k f)) : nd s k = nd s' k := by
  unfold nd
  rw [hk 3 (by decide), hk 1 (by decide)]
theorem wr_congr {s s' : Row} {k i : Nat} (h2 : s 2 = s' 2) (h1 : s (KI k 1) = s' (KI k 1)) (h7 : s (KI k 7) = s' (KI k 7)) (h12 : s (KI k 12) = s' (KI k 12)) (hi : s i = s' i) : wr s k i = wr s' k i := by
  unfold wr w3 wg
  simp [upd_at, h2, h1, h7, h12, hi]
def sti (s : Row) (k : Nat) (d : Int32) : Int32 := if s (KI k 0) = 0 then 0 else if s (KI k 0) = 1 then 0 else if s 1 ≤ s (KI k 4) + d then 1 else 0
theorem aft_8 (s : Row) (k : Nat) (d : Int32) : aft s k d (KI k 8) = s (KI k 8) + sti s k d := by
  have go : ∀ (a : Row) (x : Int32), gon a k x (KI k 8) = a (KI k 8) := fun a x => gon_out (fun t => KI_ne_f (by decide) (by decide) (by decide)) (KI_sc (by decide)) (KI_sc (by decide)) (KI_sc (by decide))
  unfold aft sti
  split
  · rw [go, Int32.add_zero]
  · split
    · simp [ris, upd_at, KI_KI, KI_lit2]
    · split
      · rw [go]; simp [skr, upd_at, KI_KI, KI_lit2]
      · simp [upd_at, KI_KI]
theorem aft_17 (s : Row) (k n : Nat) (d : Int32) (hn : n < 20) (h8 : n ≠ 8) (h9 : n ≠ 9) (h12 : n ≠ 12) (h13 : n ≠ 13) : aft s k d n = s n :=
  aft_out (sc_KI hn) (sc_KI hn) (sc_KI hn) (fun t => sc_KI hn) h8 h9 h12 h13
/-- the reference's drip of a clock -/
theorem mdrip_is (M : Nat → Nat → Int32) {k : Nat} (hk : k < 5) (h : M 0 (KI k 5) = nI (ld (M 0) k)) (hl : ld (M 0) k < 5) :
    ∃ ρ' : Row, fM_drip M (nI k) = some (nd (M 0) k, mw M ρ') ∧ ρ' 17 = M 0 17 + sti (lt3 (M 0) k (nd (M 0) k)) k (nd (M 0) k) ∧ ∀ i, i ≠ 17 → ρ' i = aft (lt3 (M 0) k (nd (M 0) k)) k (nd (M 0) k) i := by
  have key : ∀ r : Row, r = lt3 (M 0) k (nd (M 0) k) → ∃ ρ' : Row, ((fM_of (mw M r) (nI k) (0 : Int32)).bind fun q5 => (if q5 = 0 then (fM_goOn (mw M r) (nI k) (nd (M 0) k)).bind fun q14 => some ((nd (M 0) k), q14) else (fM_of (mw M r) (nI k) (0 : Int32)).bind fun q7 => (if q7 = (1 : Int32) then (fM_rise (mw M r) (nI k) (nd (M 0) k)).bind fun q13 => some ((nd (M 0) k), q13) else (fM_add (mw M r) (nI k) (4 : Int32) (nd (M 0) k)).bind fun q9 => (fM_of q9 (nI k) (4 : Int32)).bind fun q10 => (if q10 < (q9 0 1) then some ((nd (M 0) k), q9) else (fM_stroke q9 (nI k)).bind fun q12 => some ((nd (M 0) k), q12))))) = some (nd (M 0) k, mw M ρ') ∧ ρ' 17 = M 0 17 + sti r k (nd (M 0) k) ∧ ∀ i, i ≠ 17 → ρ' i = aft r k (nd (M 0) k) i := by
    intro r hr
    have r5 : r (KI k 5) = M 0 (KI k 5) := by rw [hr]; unfold lt3; simp [upd_at, KI_KI]
    have rl : ld r k = ld (M 0) k := by unfold ld; rw [r5]
    have r17 : r 17 = M 0 17 := by rw [hr]; unfold lt3; simp [upd_at, KI_lit1]
    rw [of_0 _ hk, sb, mw_0]
    unfold aft sti
    by_cases c0 : r (KI k 0) = 0
    · rw [if_pos c0, if_pos c0, if_pos c0, mgoOn_is _ _ hk (by rw [mw_0, rl, r5]; exact h) (by rw [mw_0, rl]; exact hl), sb, mw_0, mw_mw]
      refine ⟨_, rfl, ?_, fun i _ => rfl⟩
      rw [gon_out (fun t => sc_KI (by decide)) (by decide) (by decide) (by decide), r17, Int32.add_zero]
    · rw [if_neg c0, if_neg c0, if_neg c0, sb]
      by_cases c1 : r (KI k 0) = 1
      · rw [if_pos c1, if_pos c1, if_pos c1, mrise_is _ _ hk, sb, mw_0, mw_mw]
        refine ⟨_, rfl, ?_, fun i _ => rfl⟩
        simp [ris, upd_at, KI_lit1, r17]
      · rw [if_neg c1, if_neg c1, if_neg c1, add_4 _ _ hk, sb, mw_0, mw_mw, of_4 _ hk, sb, mw_0]
        have e4 : upd r (KI k 4) (r (KI k 4) + nd (M 0) k) (KI k 4) = r (KI k 4) + nd (M 0) k := upd_eq _ _ _
        have e1 : upd r (KI k 4) (r (KI k 4) + nd (M 0) k) 1 = r 1 := uK_s _ (by decide)
        rw [e4, e1]
        by_cases c2 : r 1 ≤ r (KI k 4) + nd (M 0) k
        · rw [if_pos c2, if_pos c2, if_neg (by rw [t_lt]; rw [t_le] at c2; omega), mstroke_is _ hk (by rw [mw_0, uK_f _ (by decide) (by decide) (by decide), r5, h]; unfold ld; rw [uK_f _ (by decide) (by decide) (by decide), r5]) (by rw [mw_0]; unfold ld; rw [uK_f _ (by decide) (by decide) (by decide), r5]; exact hl), sb, mw_0, mw_mw, e4]
          refine ⟨_, rfl, ?_, fun i hi => ?_⟩
          · rw [gon_out (fun t => sc_KI (by decide)) (by decide) (by decide) (by decide)]
            simp [skm, upd_at, KI_lit1, r17]
          · refine gon_congr ?_ ?_ ?_ ?_ ?_ ?_ ?_
            · simp [skm, skr, upd_at, KI_lit1]
            · simp [skm, skr, upd_at, KI_lit1]
            · simp [skm, skr, upd_at, KI_lit1]
            · simp [skm, skr, upd_at, KI_lit1]
            · simp [skm, skr, upd_at, KI_KI, KI_lit2]
            · simp [skm, skr, upd_at, KI_KI, KI_lit2]
            · simp [skm, skr, upd_at, KI_KI, KI_lit1, hi]
        · rw [if_neg c2, if_neg c2, if_pos (by rw [t_lt]; rw [t_le] at c2; omega)]
          refine ⟨_, rfl, ?_, fun i _ => rfl⟩
          rw [uK_s _ (by decide), r17, Int32.add_zero]
  unfold fM_drip
  rw [mdripOf_is M hk, sb, add_3 _ _ hk, sb, add_6 _ _ hk, sb, mw_0, mw_mw, add_7 _ _ hk, sb, mw_0, mw_mw]
  have e : upd (upd (upd (M 0) (KI k 3) (M 0 (KI k 3) + -nd (M 0) k)) (KI k 6) (upd (M 0) (KI k 3) (M 0 (KI k 3) + -nd (M 0) k) (KI k 6) + nd (M 0) k)) (KI k 7) (upd (upd (M 0) (KI k 3) (M 0 (KI k 3) + -nd (M 0) k)) (KI k 6) (upd (M 0) (KI k 3) (M 0 (KI k 3) + -nd (M 0) k) (KI k 6) + nd (M 0) k) (KI k 7) + nd (M 0) k) = lt3 (M 0) k (nd (M 0) k) := by
    unfold lt3
    simp [upd_at, KI_KI, Int32.sub_eq_add_neg]
  rw [e]
  exact key _ rfl
theorem w3_at (s : Row) (k i : Nat) (r w x : Int32) : w3 s k r w x i = if i = KI k 12 then x else if i = KI k 1 then w else if i = KI k 7 then r else s i := rfl
theorem w3_w3 (s : Row) (k : Nat) (r w x r' w' x' : Int32) : w3 (w3 s k r w x) k r' w' x' = w3 s k r' w' x' := by
  funext i
  simp only [w3_at]
  repeat' split
  all_goals rfl
theorem w3_same (s : Row) (k : Nat) : w3 s k (s (KI k 7)) (s (KI k 1)) (s (KI k 12)) = s := by
  funext i
  simp only [w3_at]
  repeat' split
  all_goals simp_all
