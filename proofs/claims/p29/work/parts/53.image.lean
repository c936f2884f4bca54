/-! ## images and undoing -/
theorem ix120 {i c : Nat} (hi : i < 5) (hc : c < 120) : (120 : Int32) * nI i + nI c = nI (120 * i + c) := by
  have t1 := t_lit i (by omega)
  have t2 := t_lit c (by omega)
  have i120 : (120 : Int32).toInt = 120 := rfl
  have em := t_mul (a := 120) (b := nI i) (by rw [i120]; omega) (by rw [i120]; omega)
  rw [t_eq, t_add (by rw [em, i120]; omega) (by rw [em, i120]; omega), em, i120, t_lit (120 * i + c) (by omega)]
  omega
theorem c120 {c : Nat} (h : c < 1000) : (120 : Int32) ≤ nI c ↔ 120 ≤ c := by rw [show (120 : Int32) = nI 120 from rfl, nle (by omega) (by omega)]
theorem image_t {i : Nat} (h : i < 2) (X : XS) : fX_isImage X (nI i) = some 1 := by
  unfold fX_isImage
  rcases (show i = 0 ∨ i = 1 by omega) with rfl | rfl <;> rfl
theorem image_f {x : Int32} (h : ¬ (0 ≤ x.toInt ∧ x.toInt < (2 : Int))) (X : XS) : fX_isImage X x = some 0 := by
  have i2 : (2 : Int32).toInt = 2 := rfl
  unfold fX_isImage
  by_cases c : x < 0
  · rw [if_pos c]
  · rw [if_neg c]
    rw [t_lt, i_0] at c
    rw [if_pos (by rw [t_le, i2]; omega)]
theorem keep_L {M : Nat → Nat → Int32} {i : Nat} (hi : i < 2) : ∀ (m c fu : Nat) (M' : Nat → Nat → Int32), c + m = 120 → m < fu → PUT M 3 (120 * i) c (M 0) M' → ∃ M'', fM_keep_L14 fu M' (nI i) (nI c) = some (M 0 19, setC M'' 4 i (vp_nar .boolean 1)) ∧ PUT M 3 (120 * i) 120 (M 0) M'' := by
  intro m
  induction m with
  | zero =>
    intro c fu M' hc hf h
    obtain ⟨fu, rfl⟩ : ∃ q, fu = q + 1 := ⟨fu - 1, by omega⟩
    refine ⟨M', ?_, by rw [show (120 : Nat) = c by omega]; rw [show (120 : Nat) = c by omega] at h; exact h⟩
    rw [fM_keep_L14, if_pos ((c120 (by omega)).mpr (by omega)), inb_nI hi (by decide), gd_t, lt_is, cl_nI (by omega), mcell, if_neg (by omega), h 0 19, if_neg (by omega)]
  | succ m ih =>
    intro c fu M' hc hf h
    obtain ⟨fu, rfl⟩ : ∃ q, fu = q + 1 := ⟨fu - 1, by omega⟩
    rw [fM_keep_L14, if_neg (show ¬ (120 : Int32) ≤ nI c from fun q => by rw [c120 (by omega)] at q; omega), inb_nI (by omega) (by decide), gd_t, ix120 (by omega) (by omega), inb_nI (by omega) (by decide), gd_t, cl_nI (by omega), cl_nI (by omega), lt_is, ← nI_succ]
    have e : M' 0 c = M 0 c := by rw [h 0 c, if_neg (by omega)]
    have g := h.s
    rw [← e] at g
    exact ih (c + 1) fu _ (by omega) (by omega) g
theorem back_L {M : Nat → Nat → Int32} {i : Nat} (hi : i < 2) : ∀ (m c fu : Nat) (M' : Nat → Nat → Int32), c + m = 120 → m < fu → PUT M 0 0 c (HR M 3 i) M' → ∃ M'', fM_back_L30 fu M' (nI i) (nI c) = (fM_recorded M'' (M'' 0 19)).bind (fun q7 => some (q7.1, q7.2)) ∧ PUT M 0 0 120 (HR M 3 i) M'' := by
  intro m
  induction m with
  | zero =>
    intro c fu M' hc hf h
    obtain ⟨fu, rfl⟩ : ∃ q, fu = q + 1 := ⟨fu - 1, by omega⟩
    refine ⟨M', ?_, by rw [show (120 : Nat) = c by omega]; exact h⟩
    rw [fM_back_L30, if_pos ((c120 (by omega)).mpr (by omega))]
  | succ m ih =>
    intro c fu M' hc hf h
    obtain ⟨fu, rfl⟩ : ∃ q, fu = q + 1 := ⟨fu - 1, by omega⟩
    rw [fM_back_L30, if_neg (show ¬ (120 : Int32) ≤ nI c from fun q => by rw [c120 (by omega)] at q; omega), ix120 (by omega) (by omega), inb_nI (by omega) (by decide), gd_t, inb_nI (by omega) (by decide), gd_t, cl_nI (by omega), cl_nI (by omega), lt_is, ← nI_succ]
    have e : M' 3 (120 * i + c) = HR M 3 i c := by unfold HR; rw [h 3 _, if_neg (by omega)]
    have g := h.s
    rw [Nat.zero_add, ← e] at g
    exact ih (c + 1) fu _ (by omega) (by omega) g
theorem undo_L {M : Nat → Nat → Int32} {i : Nat} (hi : i < 4) (h8 : M 8 0 = nI i) : ∀ (m c fu : Nat) (M' : Nat → Nat → Int32), c + m = 120 → m < fu → PUT M 0 0 c (HR M 2 i) M' → ∃ M'', fM_undo_L22 fu M' (nI c) = some (nI i, M'') ∧ PUT M 0 0 120 (HR M 2 i) M'' := by
  intro m
  induction m with
  | zero =>
    intro c fu M' hc hf h
    obtain ⟨fu, rfl⟩ : ∃ q, fu = q + 1 := ⟨fu - 1, by omega⟩
    refine ⟨M', ?_, by rw [show (120 : Nat) = c by omega]; exact h⟩
    rw [fM_undo_L22, if_pos ((c120 (by omega)).mpr (by omega)), h 8 0, if_neg (by omega), h8]
  | succ m ih =>
    intro c fu M' hc hf h
    obtain ⟨fu, rfl⟩ : ∃ q, fu = q + 1 := ⟨fu - 1, by omega⟩
    have e8 : M' 8 0 = nI i := by rw [h 8 0, if_neg (by omega), h8]
    rw [fM_undo_L22, if_neg (show ¬ (120 : Int32) ≤ nI c from fun q => by rw [c120 (by omega)] at q; omega), e8, ix120 (by omega) (by omega), inb_nI (by omega) (by decide), gd_t, inb_nI (by omega) (by decide), gd_t, cl_nI (by omega), cl_nI (by omega), lt_is, ← nI_succ]
    have e : M' 2 (120 * i + c) = HR M 2 i c := by unfold HR; rw [h 2 _, if_neg (by omega)]
    have g := h.s
    rw [Nat.zero_add, ← e] at g
    exact ih (c + 1) fu _ (by omega) (by omega) g
theorem XRs.err {w : Int} {st : Nat} {X : XS} {M : Nat → Nat → Int32} (h : XRs w st X M) {r : Int32} {o : Option (Int32 × XS)} {p : Option (Int32 × (Nat → Nat → Int32))} (ho : o = some (r, X)) (hp : p = some (r, M)) : CR w o p := ⟨r, X, M, st, ho, hp, h⟩
theorem xkeep {w : Int} {st : Nat} {X : XS} {M : Nat → Nat → Int32} (h : XRs w st X M) (x1 : Int32) : CR w (fX_keep X x1) (fM_keep M x1) := by
  have i1 : (1 : Int32).toInt = 1 := rfl
  unfold fX_keep fM_keep
  rcases clk (n := 2) x1 with ⟨i, hi, rfl, hi2⟩ | hx
  · obtain ⟨C1, a1, a2, a3⟩ := scopy_is X.1 (ja := 7 + i) (jb := 0) (by omega)
    obtain ⟨M1, b1, b2⟩ := keep_L (M := M) hi 120 0 fuel M (by omega) (by unfold fuel; omega) (PUT.z _ _ _ _)
    rw [image_t hi, sb, if_neg n10, in_t (by rw [i_0, i1]; omega), sb, if_neg n10, inb_nI hi (by decide), gd_t, cl_nI (by omega), a1, sb, lt_is, gd_t, lt_is, show (0 : Int32) = nI 0 from rfl, b1]
    obtain ⟨⟨s1, s2, s3⟩, h2, h3, h4, h5, h6, h7⟩ := id h
    have hC : ∀ a, a ≠ 7 + i → a ≠ 12 → setC C1 12 i (vp_nar .boolean 1) a = X.1 a := fun a g1 g2 => by unfold setC; rw [updA_ne _ g2]; exact a2 a g1
    have hF : ∀ b, b ≠ 3 → b ≠ 4 → setC M1 4 i (vp_nar .boolean 1) b = M b := fun b g3 g4 => funext fun j => by rw [mcell, if_neg (fun q => g4 q.1), b2 b j, if_neg (fun q => g3 q.1)]
    have r0 : setC C1 12 i (vp_nar .boolean 1) 0 = X.1 0 := hC 0 (by omega) (by decide)
    obtain ⟨n, hn⟩ := h2
    refine ⟨M 0 19, ((setC C1 12 i (vp_nar .boolean 1), X.2) : XS), setC M1 4 i (vp_nar .boolean 1), st, ?_, rfl, ⟨s1, ?_, ?_⟩, ?_, fun j hj => ?_, h4, h5, fun j hj => ?_, ?_⟩
    · dsimp only
      rw [r0, hn.1.2.2.1.1 19 (by decide) (by decide) (by decide)]
    · dsimp only; rw [hC 13 (by omega) (by decide)]; exact s2
    · rw [hF 8 (by decide) (by decide)]; exact s3
    · dsimp only; rw [r0, hF 0 (by decide) (by decide)]; exact ⟨n, hn⟩
    · have bj := h4 (1 + j) (by omega)
      dsimp only
      rw [hC _ (by omega) (by omega)]
      refine RW_move (h3 j hj) (SR.refl _) (fun l hl => ?_)
      unfold HR
      rw [hF 2 (by decide) (by decide)]
    · dsimp only
      by_cases e : j = i
      · subst e
        refine ⟨by rw [mcell, if_pos ⟨rfl, rfl⟩, mcell, if_pos ⟨rfl, rfl⟩], fun _ => ?_⟩
        have er : setC C1 12 j (vp_nar .boolean 1) (7 + j) = C1 (7 + j) := by unfold setC; rw [updA_ne _ (by omega)]
        rw [er]
        refine RW_move ⟨n, hn⟩ a3 (fun l hl => ?_)
        unfold HR
        rw [mcell, if_neg (by omega), b2 3 _, if_pos (by omega), show 120 * j + l - 120 * j = l by omega]
      · obtain ⟨u1, u2⟩ := h6 j hj
        have e12 : setC C1 12 i (vp_nar .boolean 1) 12 j = X.1 12 j := by rw [mcell, if_neg (fun q => e q.2), a2 12 (by omega)]
        have e4 : setC M1 4 i (vp_nar .boolean 1) 4 j = M 4 j := by rw [mcell, if_neg (fun q => e q.2), b2 4 j, if_neg (by omega)]
        rw [e12, e4, hC (7 + j) (by omega) (by omega)]
        refine ⟨u1, fun q => RW_move (u2 q) (SR.refl _) (fun l hl => ?_)⟩
        unfold HR
        rw [mcell, if_neg (by omega), b2 3 _, if_neg (by omega)]
    · dsimp only
      rw [hC 11 (by omega) (by decide), hC 9 (by omega) (by decide), hF 6 (by decide) (by decide), hF 8 (by decide) (by decide)]
      exact h7
  · rw [image_f hx, sb, if_pos rfl, in_f (by rw [i_0, i1]; omega), sb, if_pos rfl]
    exact h.err rfl rfl
theorem xback {w : Int} {st : Nat} {X : XS} {M : Nat → Nat → Int32} (h : XRs w st X M) (x1 : Int32) : CR w (fX_back X x1) (fM_back M x1) := by
  have i1 : (1 : Int32).toInt = 1 := rfl
  unfold fX_back fM_back
  rcases clk (n := 2) x1 with ⟨i, hi, rfl, hi2⟩ | hx
  · obtain ⟨⟨s1, s2, s3⟩, h2, h3, h4, h5, h6, h7⟩ := id h
    obtain ⟨u1, u2⟩ := h6 i hi
    have b0 := h4 0 (by decide)
    rw [image_t hi, sb, if_neg n10, in_t (by rw [i_0, i1]; omega), sb, if_neg n10, inb_nI hi (by decide), gd_t, gd_t, cl_nI (by omega), ← u1]
    by_cases c : X.1 12 i = 0
    · rw [if_pos c, if_pos c]; exact h.err rfl rfl
    · rw [if_neg c, if_neg c]
      obtain ⟨C1, a1, a2, a3⟩ := scopy_is X.1 (ja := (X.2 0).val) (jb := 0) (by omega)
      obtain ⟨C2, c1, c2, c3⟩ := scopy_is C1 (ja := 0) (jb := 7 + i) (by omega)
      obtain ⟨M1, n1, n2⟩ := note_is M
      have mF : ∀ b, b ≠ 1 → M1 b = M b := fun b hb => funext fun j => by rw [n2 b j, if_neg (by omega)]
      obtain ⟨M2, b1, b2⟩ := back_L (M := M1) hi 120 0 fuel M1 (by omega) (by unfold fuel; omega) (PUT.z _ _ _ _)
      rw [a1, sb, lt_is, gd_t]
      dsimp only
      rw [c1, sb, lt_is, n1, sb, show (0 : Int32) = nI 0 from rfl, b1]
      dsimp only
      have mF2 : ∀ b, b ≠ 0 → b ≠ 1 → M2 b = M b := fun b g0 g1 => funext fun j => by rw [b2 b j, if_neg (by omega), mF b g1]
      have e7 : C1 (7 + i) = X.1 (7 + i) := a2 _ (by omega)
      rw [e7] at c3
      have hr : RW w (C2 0) (M2 0) := RW_move (u2 c) c3 (fun j hj => by
        rw [b2 0 j, if_pos (by omega), Nat.sub_zero]
        unfold HR
        rw [mF 3 (by decide)])
      have base : XRs w st ((C2, X.2) : XS) M2 := XRs_of h (Int.le_refl _) hr rfl (fun a g0 g1 g10 g11 gb => by dsimp only; rw [c2 a g0]; exact a2 a gb) (by dsimp only; rw [c2 11 (by decide), a2 11 (by omega)])
        (fun b g0 g1 g5 g7 g8 => mF2 b g0 g1) ⟨by rw [mF2 8 (by decide) (by decide)], by rw [mF2 8 (by decide) (by decide)]⟩
      have hb : RW w (((C2, X.2) : XS).1 (((C2, X.2) : XS).2 0).val) (M2 1) := by
        dsimp only
        rw [c2 _ (by omega)]
        exact RW_move h2 a3 (fun j hj => by rw [b2 1 j, if_neg (by omega), n2 1 j, if_pos (by omega), Nat.sub_zero])
      obtain ⟨n, hn⟩ := hr
      have e19 : C2 0 19 = M2 0 19 := hn.1.2.2.1.1 19 (by decide) (by decide) (by decide)
      have n5 := hn.1.1.1.2
      obtain ⟨X', M', st', q1, q2, q3⟩ := changed_is (r := C2 0 19) (by rw [hn.1.1.1.1, t_lit n (by omega)]; omega) base hb
      rw [q1, ← e19, q2]
      exact ⟨_, X', M', st', rfl, rfl, q3⟩
  · rw [image_f hx, sb, if_pos rfl, in_f (by rw [i_0, i1]; omega), sb, if_pos rfl]
    exact h.err rfl rfl
theorem xundo {w : Int} {st : Nat} {X : XS} {M : Nat → Nat → Int32} (h : XRs w st X M) : CR w (fX_undo X) (fM_undo M) := by
  obtain ⟨⟨s1, s2, s3⟩, h2, h3, h4, h5, h6, h7⟩ := id h
  have t := t_lit st (by omega)
  have i4 : (4 : Int32).toInt = 4 := rfl
  unfold fX_undo fM_undo
  by_cases c : st = 0
  · subst c
    rw [if_pos (show X.1 13 0 < 1 by rw [s2, t_lt, i_1]; omega), if_pos (show M 8 0 = 0 by rw [s3]; rfl)]
    exact h.err rfl rfl
  · obtain ⟨i, rfl⟩ : ∃ i, st = i + 1 := ⟨st - 1, by omega⟩
    have es : nI (i + 1) - 1 = nI i := by rw [nI_succ]; exact Int32.add_sub_cancel _ _
    rw [if_neg (show ¬ X.1 13 0 < 1 by rw [s2, t_lt, i_1]; omega), if_neg (show ¬ M 8 0 = 0 by rw [s3, t_eq, i_0]; omega), if_pos (show X.1 13 0 ≤ 4 by rw [s2, t_le, i4]; omega), lt_is, lt_is, s2, s3, es]
    dsimp only
    have e13 : setC X.1 13 0 (nI i) 13 0 = nI i := by rw [mcell, if_pos ⟨rfl, rfl⟩]
    have hC : ∀ a, a ≠ 13 → setC X.1 13 0 (nI i) a = X.1 a := fun a ha => by unfold setC; exact updA_ne _ ha
    have bi := h4 (1 + i) (by omega)
    obtain ⟨C2, c1, c2, c3⟩ := scopy_is (setC X.1 13 0 (nI i)) (ja := 0) (jb := (X.2 (1 + i)).val) (by omega)
    have m8 : setC M 8 0 (nI i) 8 0 = nI i := by rw [mcell, if_pos ⟨rfl, rfl⟩]
    obtain ⟨M2, b1, b2⟩ := undo_L (M := setC M 8 0 (nI i)) (i := i) (by omega) m8 120 0 fuel _ (by omega) (by unfold fuel; omega) (PUT.z _ _ _ _)
    rw [e13, inb_nI (by omega) (by decide), gd_t, cl_nI (by omega), c1, sb, lt_is, show (0 : Int32) = nI 0 from rfl, b1]
    dsimp only
    rw [hC _ (by omega)] at c3
    have mF : ∀ b, b ≠ 8 → setC M 8 0 (nI i) b = M b := fun b hb => by unfold setC; exact updA_ne _ hb
    have d : XRs w i ((setC X.1 13 0 (nI i), X.2) : XS) (setC M 8 0 (nI i)) := by
      refine ⟨⟨by omega, e13, m8⟩, ?_, fun j hj => ?_, h4, h5, fun j hj => ?_, ?_⟩
      · dsimp only; rw [hC 0 (by decide), mF 0 (by decide)]; exact h2
      · have bj := h4 (1 + j) (by omega)
        dsimp only
        rw [hC _ (by omega)]
        refine RW_move (h3 j (by omega)) (SR.refl _) (fun l hl => ?_)
        unfold HR
        rw [mF 2 (by decide)]
      · obtain ⟨u1, u2⟩ := h6 j hj
        dsimp only
        rw [hC 12 (by decide), hC (7 + j) (by omega), mF 4 (by decide)]
        refine ⟨u1, fun q => RW_move (u2 q) (SR.refl _) (fun l hl => ?_)⟩
        unfold HR
        rw [mF 3 (by decide)]
      · dsimp only
        rw [hC 11 (by decide), hC 9 (by decide), mF 6 (by decide), mcell, if_neg (by omega)]
        exact h7
    refine ⟨nI i, (C2, X.2), M2, i, by rw [c2 13 (by decide), e13], rfl, XRs_of d (Int.le_refl _) ?_ rfl (fun a g0 g1 g10 g11 gb => c2 a g0) (by dsimp only; rw [c2 11 (by decide)]) (fun b g0 g1 g5 g7 g8 => funext fun j => by rw [b2 b j, if_neg (by omega)]) ⟨by rw [b2 8 0, if_neg (by omega)], by rw [b2 8 1, if_neg (by omega)]⟩⟩
    refine RW_move (h3 i (by omega)) c3 (fun j hj => ?_)
    rw [b2 0 j, if_pos (by omega), Nat.sub_zero]
    unfold HR
    rw [mF 2 (by decide)]
