/-! ## readings -/
def EQ2 (o p : Option Int32) : Prop := ∃ r, o = some r ∧ p = some r
theorem EQ2.of {o p : Option Int32} (r : Int32) (h1 : o = some r) (h2 : p = some r) : EQ2 o p := ⟨r, h1, h2⟩
def fg (σ : Row) (k : Nat) : Nat → Int32
  | 0 => σ (KI k 0) | 1 => σ (KI k 3) | 2 => σ (KI k 4) | 3 => σ (KI k 1) | 4 => σ (KI k 2) | 5 => σ (KI k 6) | 6 => nd σ k | 7 => σ (KI k 8) | 8 => σ (KI k 5) | 9 => σ (KI k 10) | 10 => σ (KI k 11) | _ => σ (KI k 12)
theorem figure_is {σ : Row} {k j : Nat} (hj : j < 12) : fK_figure σ k (nI j) = some (fg σ k j) := by
  rcases (show j = 0 ∨ j = 1 ∨ j = 2 ∨ j = 3 ∨ j = 4 ∨ j = 5 ∨ j = 6 ∨ j = 7 ∨ j = 8 ∨ j = 9 ∨ j = 10 ∨ j = 11 by omega) with rfl | rfl | rfl | rfl | rfl | rfl | rfl | rfl | rfl | rfl | rfl | rfl
  · rfl
  · rfl
  · rfl
  · rfl
  · rfl
  · rfl
  · show (fK_nextDrip σ k).bind (fun q9 => some q9) = _
    rw [nextDrip_is]; rfl
  · rfl
  · rfl
  · rfl
  · rfl
  · rfl
theorem ofz {M : Nat → Nat → Int32} {k : Nat} (hk : k < 5) (v : Nat) (hv : v < 15) : fM_of M (nI k) (nI v) = some (M 0 (KI k v)) := of_at M hk hv
theorem ho_congr {s s' : Row} {k : Nat} (hk : ∀ f, f < 15 → s (KI k f) = s' (KI k f)) : ho s k = ho s' k := by
  unfold ho
  rw [dc_congr hk, hk 13 (by decide), hk 14 (by decide), hk 2 (by decide)]
theorem clockOf_is {w : Int} {X : XS} {M : Nat → Nat → Int32} (h : RW w (X.1 0) (M 0)) (x1 x2 : Int32) : EQ2 (fX_clockOf X x1 x2) (fM_clockOf M x1 x2) := by
  obtain ⟨n, h, h6, hw⟩ := h
  obtain ⟨⟨⟨h19, hn⟩, hst, hlo, hcb⟩, hz, hs, ht, hb⟩ := id h
  have m19 : M 0 19 = nI n := by rw [← hs.1 19 (by decide) (by decide) (by decide)]; exact h19
  have i11 : (11 : Int32).toInt = 11 := rfl
  unfold fX_clockOf fM_clockOf
  rcases clk (n := n) x1 with ⟨k, hk, rfl, -⟩ | hx
  · have k5 : k < 5 := by omega
    rw [clockAt_in h19 hk hn, sb, onN_s, mclock_in m19 hn hk, sb, if_neg n10]
    rcases clk (n := 12) x2 with ⟨j, hj, rfl, hj2⟩ | hx2
    · rw [in_t (by rw [i_0, i11]; omega), sb, if_neg n10, if_neg (show ¬ nI j < 0 by rw [t_lt, i_0]; omega), if_pos (show nI j ≤ 11 by rw [t_le, i11]; omega), figure_is hj]
      generalize hσ : X.1 0 = σ at *
      have kk : ∀ f, f < 15 → σ (KI k f) = M 0 (KI k f) := fun f hf => hs.2 k f k5 hf
      have o : ∀ v, v < 15 → fM_of M (nI k) (nI v) = some (σ (KI k v)) := fun v hv => by rw [ofz k5 v hv, kk v hv]
      have b5 := (hcb k hk).2.2.2.2.2.1
      rcases (show j = 0 ∨ j = 1 ∨ j = 2 ∨ j = 3 ∨ j = 4 ∨ j = 5 ∨ j = 6 ∨ j = 7 ∨ j = 8 ∨ j = 9 ∨ j = 10 ∨ j = 11 by omega) with rfl | rfl | rfl | rfl | rfl | rfl | rfl | rfl | rfl | rfl | rfl | rfl
      · refine EQ2.of (σ (KI k 0)) rfl ?_
        show (((fM_of M (nI k) (nI 0)).bind fun q1 => some q1).bind fun q5 => some q5) = _
        rw [o 0 (by decide)]; rfl
      · refine EQ2.of (σ (KI k 3)) rfl ?_
        show (((fM_of M (nI k) (nI 0)).bind fun q1 => (fM_of M (nI k) (nI 3)).bind fun q => some q).bind fun q5 => some q5) = _
        rw [o 0 (by decide), o 3 (by decide)]; rfl
      · show EQ2 ((if σ (KI k 0) = 0 then some (0 : Int32) else some 1).bind fun q5 => (if q5 = 0 then some (-1000004 : Int32) else (some (σ (KI k 4))).bind fun q7 => some q7)) (((fM_of M (nI k) (nI 0)).bind fun q1 => if q1 = 0 then some (-1000004 : Int32) else (fM_of M (nI k) (nI 4)).bind fun q => some q).bind fun q5 => some q5)
        rw [o 0 (by decide), o 4 (by decide)]
        simp only [sb]
        by_cases c : σ (KI k 0) = 0
        · rw [if_pos c, if_pos c]; exact ⟨_, rfl, rfl⟩
        · rw [if_neg c, if_neg c]; exact ⟨_, rfl, rfl⟩
      · refine EQ2.of (σ (KI k 1)) rfl ?_
        show (((fM_of M (nI k) (nI 0)).bind fun q1 => (fM_of M (nI k) (nI 1)).bind fun q => some q).bind fun q5 => some q5) = _
        rw [o 0 (by decide), o 1 (by decide)]; rfl
      · refine EQ2.of (σ (KI k 2)) rfl ?_
        show (((fM_of M (nI k) (nI 0)).bind fun q1 => (fM_of M (nI k) (nI 2)).bind fun q => some q).bind fun q5 => some q5) = _
        rw [o 0 (by decide), o 2 (by decide)]; rfl
      · refine EQ2.of (σ (KI k 6)) rfl ?_
        show (((fM_of M (nI k) (nI 0)).bind fun q1 => (fM_of M (nI k) (nI 6)).bind fun q => some q).bind fun q5 => some q5) = _
        rw [o 0 (by decide), o 6 (by decide)]; rfl
      · refine EQ2.of (nd σ k) rfl ?_
        show (((fM_of M (nI k) (nI 0)).bind fun q1 => (fM_dripOf M (nI k)).bind fun q => some q).bind fun q5 => some q5) = _
        rw [o 0 (by decide), mdripOf_is M k5, nd_congr kk]; rfl
      · show EQ2 ((if σ (KI k 0) = 2 then some (1 : Int32) else some 0).bind fun q5 => (if q5 = 0 then some (-1000004 : Int32) else (some (σ (KI k 8))).bind fun q7 => some q7)) (((fM_of M (nI k) (nI 0)).bind fun q1 => if q1 = 2 then (fM_of M (nI k) (nI 8)).bind fun q => some q else some (-1000004 : Int32)).bind fun q5 => some q5)
        rw [o 0 (by decide), o 8 (by decide)]
        simp only [sb]
        by_cases c : σ (KI k 0) = 2
        · rw [if_pos c, if_pos c]; exact ⟨_, rfl, rfl⟩
        · rw [if_neg c, if_neg c]; exact ⟨_, rfl, rfl⟩
      · show EQ2 ((if σ (KI k 5) = nI k then some (0 : Int32) else some 1).bind fun q5 => (if q5 = 0 then some (-1000004 : Int32) else (some (σ (KI k 5))).bind fun q7 => some q7)) (((fM_of M (nI k) (nI 0)).bind fun q1 => (fM_of M (nI k) (nI 5)).bind fun q22 => if q22 = nI k then some (-1000004 : Int32) else (fM_of M (nI k) (nI 5)).bind fun q => some q).bind fun q5 => some q5)
        rw [o 0 (by decide), o 5 (by decide)]
        simp only [sb]
        by_cases c : σ (KI k 5) = nI k
        · rw [if_pos c, if_pos c]; exact ⟨_, rfl, rfl⟩
        · rw [if_neg c, if_neg c]; exact ⟨_, rfl, rfl⟩
      · refine EQ2.of (σ (KI k 10)) rfl ?_
        show (((fM_of M (nI k) (nI 0)).bind fun q1 => (fM_of M (nI k) (nI 10)).bind fun q => some q).bind fun q5 => some q5) = _
        rw [o 0 (by decide), o 10 (by decide)]; rfl
      · refine EQ2.of (σ (KI k 11)) rfl ?_
        show (((fM_of M (nI k) (nI 0)).bind fun q1 => (fM_of M (nI k) (nI 11)).bind fun q => some q).bind fun q5 => some q5) = _
        rw [o 0 (by decide), o 11 (by decide)]; rfl
      · refine EQ2.of (σ (KI k 12)) rfl ?_
        show (((fM_of M (nI k) (nI 0)).bind fun q1 => (fM_of M (nI k) (nI 12)).bind fun q => some q).bind fun q5 => some q5) = _
        rw [o 0 (by decide), o 12 (by decide)]; rfl
    · rw [in_f (by rw [i_0, i11]; omega), sb, if_pos rfl]
      refine EQ2.of (-1000001) ?_ rfl
      by_cases c : x2 < 0
      · rw [if_pos c]
      · rw [if_neg c]
        rw [t_lt, i_0] at c
        rw [if_neg (by rw [t_le, i11]; omega)]
  · rw [clockAt_out h19 hn hx, sb, onN_n, mclock_out m19 hn hx, sb, if_pos rfl]; exact ⟨_, rfl, rfl⟩
theorem hour_is {w : Int} {X : XS} {M : Nat → Nat → Int32} (h : RW w (X.1 0) (M 0)) (x1 x2 : Int32) : EQ2 (fX_hour X x1 x2) (fM_hour M x1 x2) := by
  obtain ⟨n, h, h6, hw⟩ := h
  obtain ⟨⟨⟨h19, hn⟩, hst, hlo, hcb⟩, hz, hs, ht, hb⟩ := id h
  have m19 : M 0 19 = nI n := by rw [← hs.1 19 (by decide) (by decide) (by decide)]; exact h19
  have m6 := hs.1 6 (by decide) (by decide) (by decide)
  have m3 := hs.1 3 (by decide) (by decide) (by decide)
  have hho := hst.2.2.2.1
  have i2 : (2 : Int32).toInt = 2 := rfl
  unfold fX_hour fM_hour
  rcases clk (n := n) x1 with ⟨k, hk, rfl, -⟩ | hx
  · have k5 : k < 5 := by omega
    have b2 := (hcb k hk).2.2.1
    have kk : ∀ f, f < 15 → X.1 0 (KI k f) = M 0 (KI k f) := fun f hf => hs.2 k f k5 hf
    have m2 : 1 ≤ (M 0 (KI k 2)).toInt := by rw [← kk 2 (by decide)]; exact b2.1
    rw [clockAt_in h19 hk hn, sb, onN_s, mclock_in m19 hn hk, sb, if_neg n10]
    by_cases c : 0 ≤ x2.toInt ∧ x2.toInt ≤ 2
    · rw [in_t (by rw [i_0, i2]; exact c), sb, if_neg n10, if_neg (show ¬ x2 < 0 by rw [t_lt, i_0]; omega), if_pos (show x2 ≤ 2 by rw [t_le, i2]; omega),
        hourTold_is b2.1, mhourOf_is k5 m2, errorOf_is b2.1 hho.1, merror_is k5 m2 (by rw [← m6]; exact hlo.1) (by rw [← m3]; exact hho.1), trueHour_is hho.1, mtrueHour_is (by rw [← m6]; exact hlo.1) (by rw [← m3]; exact hho.1),
        ← ho_congr kk, ← er_congr m6 m3 kk, ← th_of m6 m3]
      by_cases c0 : x2 = 0
      · rw [if_pos c0]; exact ⟨_, rfl, rfl⟩
      · rw [if_neg c0]
        by_cases c1 : x2 = 1
        · rw [if_pos c1]; exact ⟨_, rfl, rfl⟩
        · rw [if_neg c1]; exact ⟨_, rfl, rfl⟩
    · rw [in_f (by rw [i_0, i2]; exact c), sb, if_pos rfl]
      refine EQ2.of (-1000001) ?_ rfl
      by_cases d : x2 < 0
      · rw [if_pos d]
      · rw [if_neg d]
        rw [t_lt, i_0] at d
        rw [if_neg (by rw [t_le, i2]; omega)]
  · rw [clockAt_out h19 hn hx, sb, onN_n, mclock_out m19 hn hx, sb, if_pos rfl]; exact ⟨_, rfl, rfl⟩
theorem whyx_is {w : Int} {X : XS} {M : Nat → Nat → Int32} (h : RW w (X.1 0) (M 0)) (x1 x2 : Int32) : EQ2 (fX_why X x1 x2) (fM_why M x1 x2) := by
  obtain ⟨n, h, h6, hw⟩ := h
  obtain ⟨⟨⟨h19, hn⟩, hst, hlo, hcb⟩, hz, hs, ht, hb⟩ := id h
  have m19 : M 0 19 = nI n := by rw [← hs.1 19 (by decide) (by decide) (by decide)]; exact h19
  have i2 : (2 : Int32).toInt = 2 := rfl
  unfold fX_why fM_why
  rcases clk (n := n) x1 with ⟨k, hk, rfl, -⟩ | hx
  · have k5 : k < 5 := by omega
    rw [clockAt_in h19 hk hn, sb, onN_s, mclock_in m19 hn hk, sb, if_neg n10]
    rcases clk (n := 3) x2 with ⟨j, hj, rfl, hj2⟩ | hx2
    · rw [jug_j j hj, sb, if_neg n10, in_t (by rw [i_0, i2]; omega), sb, if_neg n10, why_is hj (by have := hst.1; omega) (hcb k hk).2.2.2.1, reason_is k5 hj, ← whl_congr (hs.1 0 (by decide) (by decide) (by decide)) (hs.1 7 (by decide) (by decide) (by decide)) (hs.2 k 3 k5 (by decide))]
      exact ⟨_, rfl, rfl⟩
    · rw [isJug_f hx2, sb, if_pos rfl, in_f (by rw [i_0, i2]; omega), sb, if_pos rfl]; exact ⟨_, rfl, rfl⟩
  · rw [clockAt_out h19 hn hx, sb, onN_n, mclock_out m19 hn hx, sb, if_pos rfl]; exact ⟨_, rfl, rfl⟩
