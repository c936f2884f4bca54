/-! THE LAW'S QUESTIONS: ranks, counts, the book of noons -/
theorem LQ.erb {w T : Int} {n : Nat} {X : XS} {N M : Nat → Nat → Int32} {g : Int32} (h : LQ w n T X N M g) (hT : T ≤ 99999) {k : Nat} (hk : k < n) : 0 ≤ (ab (er (X.1 0) k)).toInt ∧ (ab (er (X.1 0) k)).toInt ≤ 300000 := by
  have hir := h.2.2.1.1
  have h6 := h.2.2.2.2.2
  have cb := hir.2.2.2 k hk
  have d1 := dc_b hir h.2.2.1.2.1 h.2.2.2.2.1.2.2 hk
  have d2 := (h.2.2.2.2.1.2.2.2.2 k hk).2
  have p := cb.2.2.1
  have k13 := cb.2.2.2.2.2.2.2.2.2.1
  have t := th_i (σ := X.1 0) hir.2.2.1.1 hir.2.1.2.2.2.1.1
  have ed : (dc (X.1 0) k - X.1 0 (KI k 14)).toInt = (dc (X.1 0) k).toInt - (X.1 0 (KI k 14)).toInt := t_sub (by omega) (by omega)
  have q := qt_toInt (x := dc (X.1 0) k - X.1 0 (KI k 14)) (y := X.1 0 (KI k 2)) p.1
  have q1 : -200000 ≤ (dc (X.1 0) k - X.1 0 (KI k 14)).toInt / (X.1 0 (KI k 2)).toInt := Int.le_ediv_of_mul_le (by omega) (by omega)
  have q2 : (dc (X.1 0) k - X.1 0 (KI k 14)).toInt / (X.1 0 (KI k 2)).toInt ≤ 200000 := Int.ediv_le_of_le_mul (by omega) (by omega)
  have eh : (ho (X.1 0) k).toInt = (X.1 0 (KI k 13)).toInt + (qt (dc (X.1 0) k - X.1 0 (KI k 14)) (X.1 0 (KI k 2))).toInt := t_add (by omega) (by omega)
  have ee : (er (X.1 0) k).toInt = (ho (X.1 0) k).toInt - (th (X.1 0)).toInt := t_sub (by omega) (by omega)
  rw [ab_i (by omega)]
  split <;> omega
theorem rank_l {w T : Int} {n : Nat} {X : XS} {N M : Nat → Nat → Int32} {g : Int32} (h : LQ w n T X N M g) (y5 y6 y7 y8 : Int32) : ∀ (m c fu x : Nat), c + m = n → m < fu → x < n → fL_areNumbers_L30 fu X N y5 y6 y7 y8 (nI x) (nI (rkN (szs (X.1 0)) x c)) (nI c) = some (nI (rkN (szs (X.1 0)) x n)) := by
  have hn := h.n5
  have h18 := h.a18
  intro m
  induction m with
  | zero =>
    intro c fu x hc hf hx
    obtain ⟨fu, rfl⟩ : ∃ q, fu = q + 1 := ⟨fu - 1, by omega⟩
    rw [fL_areNumbers_L30, h18, if_pos (show nI n ≤ nI c by rw [nle (by omega) (by omega)]; omega), show c = n by omega]
  | succ m ih =>
    intro c fu x hc hf hx
    obtain ⟨fu, rfl⟩ : ∃ q, fu = q + 1 := ⟨fu - 1, by omega⟩
    obtain ⟨q1, q2, q3⟩ := nI5 (show c < n by omega) hn
    have g := ih (c + 1) fu x (by omega) (by omega) hx
    have gs : rkN (szs (X.1 0)) x (c + 1) = rkN (szs (X.1 0)) x c + (if szs (X.1 0) x < szs (X.1 0) c ∨ (szs (X.1 0) c = szs (X.1 0) x ∧ c < x) then 1 else 0) := rfl
    rw [gs, nI_succ c] at g
    rw [fL_areNumbers_L30, h18, if_neg q2, h.offl (show c < n by omega), sb, h.offl hx, sb]
    by_cases a : ab (er (X.1 0) x) < ab (er (X.1 0) c)
    · rw [if_pos a]
      rw [t_lt] at a
      rw [if_pos (by unfold szs; omega), nI_succ] at g
      exact g
    · rw [if_neg a, sb, sb]
      rw [t_lt] at a
      by_cases b : ab (er (X.1 0) c) = ab (er (X.1 0) x)
      · rw [if_pos b]
        have b' : szs (X.1 0) c = szs (X.1 0) x := by unfold szs; rw [b]
        by_cases d : x ≤ c
        · rw [if_pos ((nle (by omega) (by omega)).mpr d), Int32.add_zero]
          rw [if_neg (by omega), Nat.add_zero] at g
          exact g
        · rw [if_neg (fun q => d ((nle (by omega) (by omega)).mp q))]
          rw [if_pos (Or.inr ⟨b', by omega⟩), nI_succ] at g
          exact g
      · rw [if_neg b, Int32.add_zero]
        rw [t_eq] at b
        rw [if_neg (by unfold szs; omega), Nat.add_zero] at g
        exact g
theorem rkN_ltn {s : Nat → Int} {x : Nat} : ∀ m, x < m → rkN s x m < m
  | 0, h => absurd h (by omega)
  | m + 1, h => by
    show rkN s x m + (if s x < s m ∨ (s m = s x ∧ m < x) then 1 else 0) < m + 1
    by_cases e : x = m
    · subst e
      rw [if_neg (by omega)]
      have := rkN_le s x x
      omega
    · have := rkN_ltn m (s := s) (x := x) (by omega)
      split <;> omega
theorem worst_x {X : XS} {n x : Nat} (h : IR (X.1 0) n (X.1 0 6).toInt) (hx : x < n) : ∀ (m c fu : Nat), c + m = x → m < fu → fX_worst_L9 fu X (nI (rkN (szs (X.1 0)) x n)) (nI c) = some (nI x) := by
  have hn := h.1.2
  intro m
  induction m with
  | zero =>
    intro c fu hc hf
    obtain ⟨fu, rfl⟩ : ∃ q, fu = q + 1 := ⟨fu - 1, by omega⟩
    obtain rfl : c = x := by omega
    rw [fX_worst_L9, h.1.1, if_neg (nI5 hx hn).2.1, rank_is h hx, sb, if_pos rfl]
  | succ m ih =>
    intro c fu hc hf
    obtain ⟨fu, rfl⟩ : ∃ q, fu = q + 1 := ⟨fu - 1, by omega⟩
    have b1 := rkN_le (szs (X.1 0)) c n
    have b2 := rkN_le (szs (X.1 0)) x n
    rw [fX_worst_L9, h.1.1, if_neg (nI5 (show c < n by omega) hn).2.1, rank_is h (by omega), sb, if_neg, ← nI_succ]
    · exact ih (c + 1) fu (by omega) (by omega)
    · intro q
      rw [t_eq, t_lit _ (by omega), t_lit _ (by omega)] at q
      have := rkN_inj (s := szs (X.1 0)) (x := c) (y := x) (n := n) (by omega) hx (by omega)
      omega
theorem worst_n {X : XS} {n : Nat} (h : IR (X.1 0) n (X.1 0 6).toInt) : ∀ (m c fu : Nat), c + m = n → m < fu → fX_worst_L9 fu X (nI n) (nI c) = some (-1000004) := by
  have hn := h.1.2
  intro m
  induction m with
  | zero =>
    intro c fu hc hf
    obtain ⟨fu, rfl⟩ : ∃ q, fu = q + 1 := ⟨fu - 1, by omega⟩
    rw [fX_worst_L9, h.1.1, if_pos (show nI n ≤ nI c by rw [nle (by omega) (by omega)]; omega)]
  | succ m ih =>
    intro c fu hc hf
    obtain ⟨fu, rfl⟩ : ∃ q, fu = q + 1 := ⟨fu - 1, by omega⟩
    have b1 := rkN_ltn (s := szs (X.1 0)) (x := c) n (by omega)
    rw [fX_worst_L9, h.1.1, if_neg (nI5 (show c < n by omega) hn).2.1, rank_is h (by omega), sb, if_neg, ← nI_succ]
    · exact ih (c + 1) fu (by omega) (by omega)
    · intro q
      rw [t_eq, t_lit _ (by omega), t_lit _ (by omega)] at q
      omega
def ob (σ : Row) : Nat → Int32
  | 0 => 0
  | c + 1 => ob σ c ||| (if ab (er σ c) ≤ σ 4 then 0 else (1 : Int32) <<< (nI c &&& 31))
def eb (σ : Row) : Nat → Int32
  | 0 => 0
  | c + 1 => eb σ c ||| (if σ (KI c 3) = 0 then (1 : Int32) <<< (nI c &&& 31) else 0)
theorem off_x {σ : Row} {n : Nat} (h : IR σ n (σ 6).toInt) : ∀ (m c fu : Nat), c + m = n → m < fu → fS_clocksOff_L4 fu σ (ob σ c) (nI c) = some (ob σ n) := by
  have hn := h.1.2
  intro m
  induction m with
  | zero =>
    intro c fu hc hf
    obtain ⟨fu, rfl⟩ : ∃ q, fu = q + 1 := ⟨fu - 1, by omega⟩
    rw [fS_clocksOff_L4, h.1.1, if_pos (show nI n ≤ nI c by rw [nle (by omega) (by omega)]; omega), show c = n by omega]
  | succ m ih =>
    intro c fu hc hf
    obtain ⟨fu, rfl⟩ : ∃ q, fu = q + 1 := ⟨fu - 1, by omega⟩
    obtain ⟨q1, q2, q3⟩ := nI5 (show c < n by omega) hn
    have hcc := h.2.2.2 c (by omega)
    have g := ih (c + 1) fu (by omega) (by omega)
    have gs : ob σ (c + 1) = ob σ c ||| (if ab (er σ c) ≤ σ 4 then 0 else (1 : Int32) <<< (nI c &&& 31)) := rfl
    rw [gs, nI_succ c] at g
    unfold fS_clocksOff_L4 fS_isOff
    rw [h.1.1, if_neg q2, if_neg q3, inb_nI (by omega) (by decide), gd_t, cl_nI (by omega), errorOf_is hcc.2.2.1.1 h.2.1.2.2.2.1.1, sb, abs_is, sb]
    by_cases a : ab (er σ c) ≤ σ 4
    · rw [if_pos a, sb, if_pos rfl]; rw [if_pos a, Int32.or_zero] at g; exact g
    · rw [if_neg a, sb, if_neg n10]; rw [if_neg a] at g; exact g
theorem empty_x {σ : Row} {n : Nat} (h : IR σ n (σ 6).toInt) : ∀ (m c fu : Nat), c + m = n → m < fu → fS_clocksEmpty_L4 fu σ (eb σ c) (nI c) = some (eb σ n) := by
  have hn := h.1.2
  intro m
  induction m with
  | zero =>
    intro c fu hc hf
    obtain ⟨fu, rfl⟩ : ∃ q, fu = q + 1 := ⟨fu - 1, by omega⟩
    rw [fS_clocksEmpty_L4, h.1.1, if_pos (show nI n ≤ nI c by rw [nle (by omega) (by omega)]; omega), show c = n by omega]
  | succ m ih =>
    intro c fu hc hf
    obtain ⟨fu, rfl⟩ : ∃ q, fu = q + 1 := ⟨fu - 1, by omega⟩
    obtain ⟨q1, q2, q3⟩ := nI5 (show c < n by omega) hn
    have g := ih (c + 1) fu (by omega) (by omega)
    have gs : eb σ (c + 1) = eb σ c ||| (if σ (KI c 3) = 0 then (1 : Int32) <<< (nI c &&& 31) else 0) := rfl
    rw [gs, nI_succ c] at g
    unfold fS_clocksEmpty_L4
    rw [h.1.1, if_neg q2, if_neg q3, inb_nI (by omega) (by decide), gd_t, cl_nI (by omega)]
    by_cases a : σ (KI c 3) = 0
    · rw [if_pos a]; rw [if_pos a] at g; exact g
    · rw [if_neg a]; rw [if_neg a, Int32.or_zero] at g; exact g
theorem errs_x {σ : Row} {n : Nat} (h : IR σ n (σ 6).toInt) : ∀ (m c fu : Nat), c + m = n → m < fu → fS_errorsTogether_L4 fu σ (sm (fun c => ab (er σ c)) c) (nI c) = some (sm (fun c => ab (er σ c)) n) := by
  have hn := h.1.2
  intro m
  induction m with
  | zero =>
    intro c fu hc hf
    obtain ⟨fu, rfl⟩ : ∃ q, fu = q + 1 := ⟨fu - 1, by omega⟩
    rw [fS_errorsTogether_L4, h.1.1, if_pos (show nI n ≤ nI c by rw [nle (by omega) (by omega)]; omega), show c = n by omega]
  | succ m ih =>
    intro c fu hc hf
    obtain ⟨fu, rfl⟩ : ∃ q, fu = q + 1 := ⟨fu - 1, by omega⟩
    obtain ⟨q1, q2, q3⟩ := nI5 (show c < n by omega) hn
    rw [fS_errorsTogether_L4, h.1.1, if_neg q2, sizeOf_is h (by omega), sb, ← nI_succ]
    exact ih (c + 1) fu (by omega) (by omega)
theorem LQ.smb {w T : Int} {n : Nat} {X : XS} {N M : Nat → Nat → Int32} {g : Int32} (h : LQ w n T X N M g) (hT : T ≤ 99999) : ∀ c, c ≤ n → 0 ≤ (sm (fun c => ab (er (X.1 0) c)) c).toInt ∧ (sm (fun c => ab (er (X.1 0) c)) c).toInt ≤ 300000 * c
  | 0, _ => by
    show 0 ≤ (0 : Int32).toInt ∧ (0 : Int32).toInt ≤ _
    rw [i_0]; omega
  | c + 1, hc => by
    have := LQ.smb h hT c (by omega)
    have b := h.erb hT (show c < n by omega)
    have hn := h.n5
    show 0 ≤ (sm (fun c => ab (er (X.1 0) c)) c + ab (er (X.1 0) c)).toInt ∧ (sm (fun c => ab (er (X.1 0) c)) c + ab (er (X.1 0) c)).toInt ≤ _
    rw [t_add (by omega) (by omega)]
    omega
/-- worst and mean, as the law asks them at the end -/
theorem wm_l {w T : Int} {n : Nat} {X : XS} {N M : Nat → Nat → Int32} {g : Int32} (h : LQ w n T X N M g) (hT : T ≤ 99999) {s : Int32} (hs : s = sm (fun c => ab (er (X.1 0) c)) n) : ((if (1 : Int32) = 0 then some (0 : Int32) else (fX_worst X (nI n)).bind fun q43 => (if q43 = (-1000004 : Int32) then (if 0 < nI n then (if nI n = (1 : Int32) then (fX_mean X).bind fun q47 => (fL_isMean q47 s (nI n)).bind fun q48 => (if q48 = 0 then some (0 : Int32) else some (1 : Int32)) else (if nI n = (2 : Int32) then (fX_mean X).bind fun q51 => (fL_isMean q51 s (nI n)).bind fun q52 => (if q52 = 0 then some (0 : Int32) else some (1 : Int32)) else (if nI n = (4 : Int32) then (fX_mean X).bind fun q55 => (fL_isMean q55 s (nI n)).bind fun q56 => (if q56 = 0 then some (0 : Int32) else some (1 : Int32)) else some (1 : Int32)))) else (fX_mean X).bind fun q58 => (if q58 = (-1000004 : Int32) then (if nI n = (1 : Int32) then (fX_mean X).bind fun q61 => (fL_isMean q61 s (nI n)).bind fun q62 => (if q62 = 0 then some (0 : Int32) else some (1 : Int32)) else (if nI n = (2 : Int32) then (fX_mean X).bind fun q65 => (fL_isMean q65 s (nI n)).bind fun q66 => (if q66 = 0 then some (0 : Int32) else some (1 : Int32)) else (if nI n = (4 : Int32) then (fX_mean X).bind fun q69 => (fL_isMean q69 s (nI n)).bind fun q70 => (if q70 = 0 then some (0 : Int32) else some (1 : Int32)) else some (1 : Int32)))) else some (0 : Int32))) else some (0 : Int32))) : Option Int32) = some 1 := by
  have hn := h.n5
  have h19 := h.s19
  have hir := h.2.2.1.1
  have tn := t_lit n (by omega)
  have hw : fX_worst X (nI n) = some (-1000004) := by
    unfold fX_worst
    rw [if_pos (show (0 : Int32) ≤ nI n by rw [t_le, i_0]; omega)]
    exact worst_n hir n 0 fuel (by omega) (by unfold fuel; omega)
  have he : fS_errorsTogether (X.1 0) = some s := by rw [hs]; exact errs_x hir n 0 fuel (by omega) (by unfold fuel; omega)
  have hb := h.smb hT n (Nat.le_refl _)
  rw [← hs] at hb
  rw [if_neg n10, hw, sb, if_pos rfl]
  rcases (show n = 0 ∨ n = 1 ∨ n = 2 ∨ n = 3 ∨ n = 4 ∨ n = 5 by omega) with rfl | rfl | rfl | rfl | rfl | rfl
  · have hm : fX_mean X = some (-1000004) := by
      unfold fX_mean
      rw [h19, if_neg (by decide)]
    rw [if_neg (by decide), hm, sb, if_pos rfl, if_neg (by decide), if_neg (by decide), if_neg (by decide)]
  · obtain ⟨x, x1, x2⟩ := mean_l (X := X) (s := s) (j := 0) (by decide) h19 he hb.1 (by omega)
    have x2' : fL_isMean x s (nI 1) = some 1 := x2
    rw [if_pos (by decide), if_pos (by decide), x1, sb, x2', sb, if_neg n10]
  · obtain ⟨x, x1, x2⟩ := mean_l (X := X) (s := s) (j := 1) (by decide) h19 he hb.1 (by omega)
    have x2' : fL_isMean x s (nI 2) = some 1 := x2
    rw [if_pos (by decide), if_neg (by decide), if_pos (by decide), x1, sb, x2', sb, if_neg n10]
  · rw [if_pos (by decide), if_neg (by decide), if_neg (by decide), if_neg (by decide)]
  · obtain ⟨x, x1, x2⟩ := mean_l (X := X) (s := s) (j := 2) (by decide) h19 he hb.1 (by omega)
    have x2' : fL_isMean x s (nI 4) = some 1 := x2
    rw [if_pos (by decide), if_neg (by decide), if_neg (by decide), if_pos (by decide), x1, sb, x2', sb, if_neg n10]
  · rw [if_pos (by decide), if_neg (by decide), if_neg (by decide), if_neg (by decide)]
