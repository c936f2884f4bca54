/-! TRIALS OF THE LAW: copies, ticks up to a noon -/
theorem setC_u (M : Nat → Nat → Int32) (a i : Nat) (x : Int32) : setC M a i x = updA M a (upd (M a) i x) := rfl
theorem updA2 (M : Nat → Nat → Int32) (a : Nat) (x y : Row) : updA (updA M a x) a y = updA M a y := funext fun j => by
  by_cases e : j = a
  · subst e; rw [updA_same, updA_same]
  · rw [updA_ne _ e, updA_ne _ e, updA_ne _ e]
theorem copy_L {M : Nat → Nat → Int32} {a1 n1 a2 n2 : Nat} (h12 : a1 ≠ a2) (hn : n1 ≤ n2) (hn2 : n2 ≤ 1000) : ∀ (m c fu : Nat), c + m = n1 → m < fu → fL_copy_L2 a1 n1 a2 n2 fu (updA M a2 (fun i => if i < c then M a1 i else M a2 i)) (nI c) = some (updA M a2 (fun i => if i < n1 then M a1 i else M a2 i)) := by
  intro m
  induction m with
  | zero =>
    intro c fu hc hf
    obtain ⟨fu, rfl⟩ : ∃ q, fu = q + 1 := ⟨fu - 1, by omega⟩
    obtain rfl : c = n1 := by omega
    rw [fL_copy_L2, show Int32.ofNat c = nI c from rfl, if_pos (show nI c ≤ nI c from (nle (by omega) (by omega)).mpr (Nat.le_refl _))]
  | succ m ih =>
    intro c fu hc hf
    obtain ⟨fu, rfl⟩ : ∃ q, fu = q + 1 := ⟨fu - 1, by omega⟩
    have e : setC (updA M a2 (fun i => if i < c then M a1 i else M a2 i)) a2 c (updA M a2 (fun i => if i < c then M a1 i else M a2 i) a1 c) = updA M a2 (fun i => if i < c + 1 then M a1 i else M a2 i) := by
      rw [setC_u, updA_same, updA2, updA_ne _ h12]
      congr 1
      funext i
      rw [upd_at]
      by_cases q : i = c
      · subst q; rw [if_pos rfl, if_pos (by omega)]
      · rw [if_neg q]
        by_cases q2 : i < c
        · rw [if_pos q2, if_pos (by omega)]
        · rw [if_neg q2, if_neg (by omega)]
    rw [fL_copy_L2, show Int32.ofNat n1 = nI n1 from rfl, if_neg (show ¬ nI n1 ≤ nI c by rw [nle (by omega) (by omega)]; omega), gd_b (inb_nI (by omega) (by omega)), gd_b (inb_nI (by omega) (by omega)), cl_nI (by omega), lt_is, e, ← nI_succ]
    exact ih (c + 1) fu (by omega) (by omega)
theorem copy_is {M : Nat → Nat → Int32} {a1 n1 a2 n2 : Nat} (h12 : a1 ≠ a2) (hn : n1 ≤ n2) (hn2 : n2 ≤ 1000) : fL_copy M a1 n1 a2 n2 = some (updA M a2 (fun i => if i < n1 then M a1 i else M a2 i)) := by
  have := copy_L (M := M) h12 hn hn2 n1 0 fuel (by omega) (by unfold fuel; omega)
  have e : updA M a2 (fun i => if i < 0 then M a1 i else M a2 i) = M := by
    have : (fun i => if i < 0 then M a1 i else M a2 i) = M a2 := funext fun i => if_neg (by omega)
    rw [this]; exact updA_self _ _
  rw [e] at this
  exact this
theorem L3_u1 {r1 r2 r3 : Nat} (h : DS r1 r2 r3) {N : Nat → Nat → Int32} {a u v x : Row} : updA (L3 r1 r2 r3 N a u v) r1 x = L3 r1 r2 r3 N x u v := funext fun q => by
  by_cases e1 : q = r1
  · subst e1; rw [updA_same, L3_1 h]
  · rw [updA_ne _ e1]
    by_cases e2 : q = r2
    · subst e2; rw [L3_2 h, L3_2 h]
    · by_cases e3 : q = r3
      · subst e3; rw [L3_3, L3_3]
      · rw [L3_o e1 e2 e3, L3_o e1 e2 e3]
theorem L3_u2 {r1 r2 r3 : Nat} (h : DS r1 r2 r3) {N : Nat → Nat → Int32} {a u v x : Row} : updA (L3 r1 r2 r3 N a u v) r2 x = L3 r1 r2 r3 N a x v := funext fun q => by
  by_cases e2 : q = r2
  · subst e2; rw [updA_same, L3_2 h]
  · rw [updA_ne _ e2]
    by_cases e1 : q = r1
    · subst e1; rw [L3_1 h, L3_1 h]
    · by_cases e3 : q = r3
      · subst e3; rw [L3_3, L3_3]
      · rw [L3_o e1 e2 e3, L3_o e1 e2 e3]
theorem L3_u3 {r1 r2 r3 : Nat} (h : DS r1 r2 r3) {N : Nat → Nat → Int32} {a u v x : Row} : updA (L3 r1 r2 r3 N a u v) r3 x = L3 r1 r2 r3 N a u x := funext fun q => by
  by_cases e3 : q = r3
  · subst e3; rw [updA_same, L3_3]
  · rw [updA_ne _ e3]
    by_cases e1 : q = r1
    · subst e1; rw [L3_1 h, L3_1 h]
    · by_cases e2 : q = r2
      · subst e2; rw [L3_2 h, L3_2 h]
      · rw [L3_o e1 e2 e3, L3_o e1 e2 e3]
theorem uo_lt : ∀ f, f < 7 → ∀ c, c < 5 → uo f + c < 35 := by decide +kernel
theorem vo_lt8 : ∀ f, f < 8 → ∀ c, c < 5 → vo (7 + f) + c < 40 := by decide +kernel
theorem dec_cong {a a' u u' v v' β : Row} {g : Int32} (h1 : ∀ i, i < 19 → a' i = a i) (h2 : ∀ i, i < 35 → u' i = u i) (h3 : ∀ i, i < 40 → v' i = v i) : dec a' u' v' β g = dec a u v β g := funext fun i => by
  unfold dec
  by_cases c1 : i < 20
  · rw [if_pos c1, if_pos c1]
    unfold asc
    by_cases c2 : i < 12
    · rw [if_pos c2, if_pos c2, h1 i (by omega)]
    · rw [if_neg c2, if_neg c2]
      by_cases c3 : i = 12
      · rw [if_pos c3, if_pos c3]
      · rw [if_neg c3, if_neg c3, h1 (i - 1) (by omega)]
  · rw [if_neg c1, if_neg c1]
    by_cases c2 : i < 95
    · rw [if_pos c2, if_pos c2]
      have hc : (i - 20) / 15 < 5 := by omega
      have hf : (i - 20) % 15 < 15 := by omega
      by_cases c3 : (i - 20) % 15 < 7
      · rw [fld_u c3, fld_u c3, h2 _ (uo_lt _ c3 _ hc)]
      · rw [fld_v (by omega) hf, fld_v (by omega) hf, h3]
        have := vo_lt8 ((i - 20) % 15 - 7) (by omega) _ hc
        rwa [show 7 + ((i - 20) % 15 - 7) = (i - 20) % 15 by omega] at this
    · rw [if_neg c2, if_neg c2]
theorem cps {N : Nat → Nat → Int32} {a u v : Row} : ∃ a' u' v', fL_copy (L3 4 5 6 N a u v) 0 19 4 19 = some (L3 4 5 6 N a' u v) ∧ fL_copy (L3 4 5 6 N a' u v) 1 35 5 35 = some (L3 4 5 6 N a' u' v) ∧ fL_copy (L3 4 5 6 N a' u' v) 2 40 6 40 = some (L3 4 5 6 N a' u' v') ∧ ∀ β g, dec a' u' v' β g = dec (N 0) (N 1) (N 2) β g := by
  refine ⟨fun i => if i < 19 then N 0 i else a i, fun i => if i < 35 then N 1 i else u i, fun i => if i < 40 then N 2 i else v i, ?_, ?_, ?_, fun β g => dec_cong (fun i hi => if_pos hi) (fun i hi => if_pos hi) (fun i hi => if_pos hi)⟩
  · rw [copy_is (by decide) (by decide) (by decide), L3_u1 DS456, L3_o (by decide) (by decide) (by decide), L3_1 DS456]
  · rw [copy_is (by decide) (by decide) (by decide), L3_u2 DS456, L3_o (by decide) (by decide) (by decide), L3_2 DS456]
  · rw [copy_is (by decide) (by decide) (by decide), L3_u3 DS456, L3_o (by decide) (by decide) (by decide), L3_3]
/-- one pass of the law, no noon -/
theorem lstep {r1 r2 r3 r4 n4 : Nat} (h : DS r1 r2 r3) {N : Nat → Nat → Int32} {φ a u v β : Row} {g y6 : Int32} {n : Nat} (hir : IR φ n (φ 6).toInt) (hb : (φ 6).toInt + 1 ≤ 200000) (hs : SH φ (stR (dec a u v β g) y6)) (y4 y8 : Int32) (hy : ¬ y4 ≤ y8) :
    ∃ a' u' v' g', (∀ fu : Nat, fL_ticks_L9 r1 r2 r3 r4 n4 (fu + 1) (L3 r1 r2 r3 N a u v) y4 0 y6 1 y8 = if (ps n φ 6).toInt % (12 * (ps n φ 3).toInt) = 0 then fL_ticks_L9 r1 r2 r3 r4 n4 fu (L3 r1 r2 r3 N a' u' v') y4 0 (y6 + cT n φ) 0 (y8 + 1) else fL_ticks_L9 r1 r2 r3 r4 n4 fu (L3 r1 r2 r3 N a' u' v') y4 0 (y6 + cT n φ) 1 (y8 + 1)) ∧ SH (ps n φ) (stR (dec a' u' v' β g') (y6 + cT n φ)) := by
  obtain ⟨q1, q2⟩ := ps_IR hir hb
  obtain ⟨a1, u1, v1, g1, w1, w2, -⟩ := lpass (r4 := r4) (n4 := n4) h (N := N) (σ := φ) (a := a) (u := u) (v := v) (β := β) (g := g) (y4 := y4) (y5 := 0) (y6 := y6) (y8 := y8) (IP.of hir hb) hs
  have s6 : ps n φ 6 = a1 6 := by have := w2.1 6 (by decide) (by decide) (by decide); rw [upd_ne _ (by decide)] at this; rw [this]; exact dec_lo (by decide)
  have s3 : ps n φ 3 = a1 3 := by have := w2.1 3 (by decide) (by decide) (by decide); rw [upd_ne _ (by decide)] at this; rw [this]; exact dec_lo (by decide)
  have hho := q1.2.1.2.2.2.1
  have hnow := q1.2.2.1
  obtain ⟨z1, z2⟩ := remL (a := a1) (by rw [← s6]; omega) (by rw [← s3]; exact hho)
  rw [← s6, ← s3] at z2
  refine ⟨a1, u1, v1, g1, fun fu => ?_, w2⟩
  rw [fL_ticks_L9, if_neg hy, if_neg n10]
  refine (w1 (fun M74 s => gd (nz ((12 : Int32) * (M74 r1 3))) ((((if 0 < ((M74 r1 6) - (M74 r1 6) / ((12 : Int32) * (M74 r1 3)) * ((12 : Int32) * (M74 r1 3))) then some (1 : Int32) else (if (0 : Int32) = 0 then some (0 : Int32) else some (1 : Int32))) : Option (Int32))).bind fun q77 => gd (nz ((12 : Int32) * (M74 r1 3))) ((if ((M74 r1 6) - (M74 r1 6) / ((12 : Int32) * (M74 r1 3)) * ((12 : Int32) * (M74 r1 3))) = 0 then (if (0 : Int32) = 0 then fL_ticks_L9 r1 r2 r3 r4 n4 fu M74 y4 0 s q77 (y8 + 1) else (fL_noon M74 r1 r2 r3 r4 n4).bind fun q81 => fL_ticks_L9 r1 r2 r3 r4 n4 fu q81 y4 0 s q77 (y8 + 1)) else fL_ticks_L9 r1 r2 r3 r4 n4 fu M74 y4 0 s q77 (y8 + 1)))))).trans ?_
  rw [L3_1 h, gd_b z1, ← s6, ← s3]
  have p0 := Int.emod_nonneg (ps n φ 6).toInt (show 12 * (ps n φ 3).toInt ≠ 0 by omega)
  by_cases c : (ps n φ 6).toInt % (12 * (ps n φ 3).toInt) = 0
  · rw [if_pos c, if_neg (by rw [t_lt, z2, i_0]; omega), if_pos rfl, sb, s3, gd_b z1, ← s3, if_pos (by rw [t_eq, z2, i_0]; exact c), if_pos rfl]
  · rw [if_neg c, if_pos (by rw [t_lt, z2, i_0]; omega), sb, s3, gd_b z1, ← s3, if_neg (by rw [t_eq, z2, i_0]; exact c)]
theorem lend {r1 r2 r3 r4 n4 : Nat} (h : DS r1 r2 r3) {N : Nat → Nat → Int32} {a u v : Row} {y4 y5 y6 y8 : Int32} {fu : Nat} : fL_ticks_L9 r1 r2 r3 r4 n4 (fu + 1) (L3 r1 r2 r3 N a u v) y4 y5 y6 0 y8 = some (y6, L3 r1 r2 r3 N (upd a 11 (a 11 + y6)) u v) := by
  rw [fL_ticks_L9]
  by_cases c : y4 ≤ y8
  · rw [if_pos c, lt_is, L3_1 h, L3_s1 h]
  · rw [if_neg c, if_pos rfl, lt_is, L3_1 h, L3_s1 h]
theorem lend1 {r1 r2 r3 r4 n4 : Nat} (h : DS r1 r2 r3) {N : Nat → Nat → Int32} {a u v : Row} {y4 y5 y6 y7 y8 : Int32} {fu : Nat} (c : y4 ≤ y8) : fL_ticks_L9 r1 r2 r3 r4 n4 (fu + 1) (L3 r1 r2 r3 N a u v) y4 y5 y6 y7 y8 = some (y6, L3 r1 r2 r3 N (upd a 11 (a 11 + y6)) u v) := by
  rw [fL_ticks_L9, if_pos c, lt_is, L3_1 h, L3_s1 h]
theorem dec_11 {a u v β : Row} {g y : Int32} : dec (upd a 11 (a 11 + y)) u v β g = stR (dec a u v β g) y := by
  rw [dec_a (i := 11) (j := 11) _ (Or.inl ⟨by decide, rfl⟩)]
  have e : dec a u v β g 11 = a 11 := dec_lo (by decide)
  unfold stR
  rw [e]
theorem ltoN {r4 n4 : Nat} {N : Nat → Nat → Int32} {β : Row} {n : Nat} : ∀ (m c fu : Nat) (φ a u v : Row) (g y : Int32), c + m + 1 ≤ 400 → m + 1 < fu → IR φ n (φ 6).toInt → ZR φ n → INV φ n → (φ 6).toInt + m + 1 ≤ 199999 → SH φ (stR (dec a u v β g) y) → ((φ 6).toInt + m + 1) % (12 * (φ 3).toInt) = 0 → (m : Int) + 1 ≤ 12 * (φ 3).toInt → 0 ≤ y.toInt ∧ y.toInt ≤ 1800 * c →
    ∃ r a' u' v' g', fL_ticks_L9 4 5 6 r4 n4 fu (L3 4 5 6 N a u v) 400 0 y 1 (nI c) = some (r, L3 4 5 6 N a' u' v') ∧ 0 ≤ r.toInt ∧ SH (itP n (m + 1) φ) (dec a' u' v' β g') ∧ IR (itP n (m + 1) φ) n ((itP n (m + 1) φ) 6).toInt ∧ INV (itP n (m + 1) φ) n ∧ ((itP n (m + 1) φ) 6).toInt ≤ 199999 := by
  intro m
  induction m with
  | zero =>
    intro c fu φ a u v g y hc hf hi hz hv h6 hs hT hm hy
    obtain ⟨fu, rfl⟩ : ∃ q, fu = q + 2 := ⟨fu - 2, by omega⟩
    have hb : (φ 6).toInt + 1 ≤ 200000 := by omega
    have tn := t_lit n (by have := hi.1.2; omega)
    have ct := cT_i (IP.of hi hb) n (Nat.le_refl _)
    have hn := hi.1.2
    obtain ⟨q1, q2⟩ := ps_IR hi hb
    have e3 : ps n φ 3 = φ 3 := ps_3 (by decide)
    obtain ⟨a1, u1, v1, g1, w1, w2⟩ := lstep (r4 := r4) (n4 := n4) DS456 (N := N) hi hb hs 400 (nI c) (show ¬ (400 : Int32) ≤ nI c by rw [show (400 : Int32) = nI 400 from rfl, nle (by omega) (by omega)]; omega)
    refine ⟨y + cT n φ, upd a1 11 (a1 11 + (y + cT n φ)), u1, v1, g1, ?_, by rw [t_add (by omega) (by omega)]; omega, ?_, by show IR (ps n φ) n (ps n φ 6).toInt; rw [q2]; exact q1, ps_INV hi hb hz hv, ?_⟩
    · rw [w1 (fu + 1), if_pos (by rw [q2, e3, show (φ 6).toInt + 1 = (φ 6).toInt + ((0 : Nat) : Int) + 1 by omega]; exact hT), lend DS456]
    · rw [dec_11]; exact w2
    · show (ps n φ 6).toInt ≤ _; rw [q2]; omega
  | succ m ih =>
    intro c fu φ a u v g y hc hf hi hz hv h6 hs hT hm hy
    obtain ⟨fu, rfl⟩ : ∃ q, fu = q + 1 := ⟨fu - 1, by omega⟩
    have hb : (φ 6).toInt + 1 ≤ 200000 := by omega
    have ct := cT_i (IP.of hi hb) n (Nat.le_refl _)
    have hn := hi.1.2
    obtain ⟨q1, q2⟩ := ps_IR hi hb
    have e3 : ps n φ 3 = φ 3 := ps_3 (by decide)
    obtain ⟨a1, u1, v1, g1, w1, w2⟩ := lstep (r4 := r4) (n4 := n4) DS456 (N := N) hi hb hs 400 (nI c) (show ¬ (400 : Int32) ≤ nI c by rw [show (400 : Int32) = nI 400 from rfl, nle (by omega) (by omega)]; omega)
    have nn : ¬ (ps n φ 6).toInt % (12 * (ps n φ 3).toInt) = 0 := by
      rw [q2, e3, show (φ 6).toInt + 1 = ((φ 6).toInt + ((m + 1 : Nat) : Int) + 1) - ((m + 1 : Nat) : Int) by omega]
      exact no_noon hT (by omega) (by omega)
    obtain ⟨r, a', u', v', g', k1, k2, k3, k4, k5, k6⟩ := ih (c + 1) fu (ps n φ) a1 u1 v1 g1 (y + cT n φ) (by omega) (by omega) (by rw [q2]; exact q1) (ps_ZR hi hb hz) (ps_INV hi hb hz hv) (by rw [q2]; omega) w2 (by rw [q2, e3, show (φ 6).toInt + 1 + (m : Int) + 1 = (φ 6).toInt + ((m + 1 : Nat) : Int) + 1 by omega]; exact hT) (by rw [e3]; omega) (by rw [t_add (by omega) (by omega)]; omega)
    exact ⟨r, a', u', v', g', by rw [w1 fu, if_neg nn, ← nI_succ]; exact k1, k2, k3, k4, k5, k6⟩
