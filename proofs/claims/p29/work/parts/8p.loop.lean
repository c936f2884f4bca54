/-! TRIALS OF THE LAW: when a vessel is empty; the law's turns -/
theorem lone {N : Nat → Nat → Int32} {φ a u v β : Row} {g : Int32} {n : Nat} (hi : IR φ n (φ 6).toInt) (hb : (φ 6).toInt + 1 ≤ 200000) (hs : SH φ (dec a u v β g)) : ∃ r a' u' v' g', fL_ticks (L3 4 5 6 N a u v) 4 5 6 4 19 1 0 = some (r, L3 4 5 6 N a' u' v') ∧ SH (ps n φ) (dec a' u' v' β g') := by
  obtain ⟨a1, u1, v1, g1, w1, w2⟩ := lstep (r4 := 4) (n4 := 19) DS456 (N := N) (β := β) (g := g) (y6 := 0) hi hb (by rw [stR_0]; exact hs) 1 0 (by decide)
  obtain ⟨F, hF⟩ : ∃ F, fuel = F + 2 := ⟨1998, rfl⟩
  unfold fL_ticks
  refine ⟨0 + cT n φ, upd a1 11 (a1 11 + (0 + cT n φ)), u1, v1, g1, ?_, by rw [dec_11]; exact w2⟩
  rw [hF, w1 (F + 1)]
  by_cases c : (ps n φ 6).toInt % (12 * (ps n φ 3).toInt) = 0
  · rw [if_pos c, lend DS456]
  · rw [if_neg c, lend1 DS456 (show (1 : Int32) ≤ 0 + 1 by decide)]
theorem empty_l {w T : Int} {n : Nat} {X : XS} {N M : Nat → Nat → Int32} {g : Int32} (h : LQ w n T X N M g) (hT : T ≤ 99999) {k : Nat} (hk : k < n) : ∀ (m c fu : Nat) (φ a u v : Row) (g1 : Int32), c + m = 1000 → m < fu → IR φ n (φ 6).toInt → (φ 6).toInt + m ≤ 199999 → SH φ (dec a u v (N 3) g1) → emv n k 1000 0 (X.1 0) = emv n k m c φ →
    ∃ X' a' u' v', fL_isEmptyInT_L39 fu X (L3 4 5 6 N a u v) (nI k) (nI c) = some (1, X', L3 4 5 6 N a' u' v') ∧ QT X X' := by
  have hn := h.n5
  obtain ⟨ak, bk, -⟩ := ix0 k (by omega)
  obtain ⟨X', f1, f2⟩ := emptyIn_x h hT hk
  intro m
  induction m with
  | zero =>
    intro c fu φ a u v g1 hc hf hi h6 hs he
    obtain ⟨fu, rfl⟩ : ∃ q, fu = q + 1 := ⟨fu - 1, by omega⟩
    obtain rfl : c = 1000 := by omega
    have bu := (hi.2.2.2 k hk).2.2.2.1
    have eu : u k = φ (KI k 3) := by rw [hs.2 k 3 (by omega) (by decide)]; exact rd_3 a u v (N 3) g1 (by omega)
    have he' : emv n k 1000 0 (X.1 0) = if φ (KI k 3) = 0 then nI 1000 else -1000004 := he
    rw [fL_isEmptyInT_L39, gd_b bk, ak, L3_2 DS456, eu]
    by_cases q : φ (KI k 3) = 0
    · rw [if_pos q] at he'
      rw [if_pos (show φ (KI k 3) ≤ 0 by rw [q]; decide), f1, sb, gd_b bk, if_pos (show φ (KI k 3) ≤ 0 by rw [q]; decide), he', if_pos rfl]
      exact ⟨X', a, u, v, rfl, f2⟩
    · rw [if_neg q] at he'
      have q' : ¬ φ (KI k 3) ≤ 0 := fun z => by
        rw [t_le, i_0] at z
        rw [t_eq, i_0] at q
        omega
      rw [if_neg q', if_pos (show (1000 : Int32) ≤ nI 1000 by decide), f1, sb, gd_b bk, if_neg q', he', if_pos rfl]
      exact ⟨X', a, u, v, rfl, f2⟩
  | succ m ih =>
    intro c fu φ a u v g1 hc hf hi h6 hs he
    obtain ⟨fu, rfl⟩ : ∃ q, fu = q + 1 := ⟨fu - 1, by omega⟩
    have tc := t_lit c (by omega)
    have bu := (hi.2.2.2 k hk).2.2.2.1
    have eu : u k = φ (KI k 3) := by rw [hs.2 k 3 (by omega) (by decide)]; exact rd_3 a u v (N 3) g1 (by omega)
    have he' : emv n k 1000 0 (X.1 0) = if φ (KI k 3) = 0 then nI c else emv n k m (c + 1) (ps n φ) := he
    rw [fL_isEmptyInT_L39, gd_b bk, ak, L3_2 DS456, eu]
    by_cases q : φ (KI k 3) = 0
    · rw [if_pos q] at he'
      rw [if_pos (show φ (KI k 3) ≤ 0 by rw [q]; decide), f1, sb, gd_b bk, if_pos (show φ (KI k 3) ≤ 0 by rw [q]; decide), he', if_pos rfl]
      exact ⟨X', a, u, v, rfl, f2⟩
    · rw [if_neg q] at he'
      have q' : ¬ φ (KI k 3) ≤ 0 := fun z => by
        rw [t_le, i_0] at z
        rw [t_eq, i_0] at q
        omega
      have hb : (φ 6).toInt + 1 ≤ 200000 := by omega
      obtain ⟨q1, q2⟩ := ps_IR hi hb
      obtain ⟨r, a2, u2, v2, g2, t1, t2⟩ := lone (N := N) hi hb hs
      rw [if_neg q', if_neg (show ¬ (1000 : Int32) ≤ nI c by rw [t_le, i_1000]; omega), t1, sb, ← nI_succ]
      exact ih (c + 1) fu (ps n φ) a2 u2 v2 g2 (by omega) (by omega) (by rw [q2]; exact q1) (by rw [q2]; omega) t2 he'
theorem isEmptyIn_l {w T : Int} {n : Nat} {X : XS} {N : Nat → Nat → Int32} (h : LW w n T X N) (hT : T ≤ 99999) {k : Nat} (hk : k < n) : ∃ X' N', fL_isEmptyIn X N (nI k) = some (1, X', N') ∧ LW w n T X' N' := by
  obtain ⟨M, g, h⟩ := h
  have h6 := h.2.2.2.2.2
  obtain ⟨a1, u1, v1, p1, p2, p3, p4⟩ := cps (N := N) (a := fun _ => 0) (u := fun _ => 0) (v := fun _ => 0)
  obtain ⟨X', a', u', v', c1, c2⟩ := empty_l h hT hk 1000 0 fuel (X.1 0) a1 u1 v1 g (by omega) (by unfold fuel; omega) h.2.2.1.1 (by omega) (by rw [p4, ← h.2.1]; exact h.2.2.1.2.2.1) rfl
  have c1' : fL_isEmptyInT_L39 fuel X (L3 4 5 6 N a1 u1 v1) (nI k) 0 = some (1, X', L3 4 5 6 N a' u' v') := c1
  have eL : updA (updA (updA N 4 (fun _ => 0)) 5 (fun _ => 0)) 6 (fun _ => 0) = L3 4 5 6 N (fun _ => 0) (fun _ => 0) (fun _ => 0) := rfl
  unfold fL_isEmptyIn fL_isEmptyInT
  rw [eL, p1, sb, p2, sb, p3, sb, c1']
  exact ⟨X', _, rfl, M, g, (h.qt c2).nr L3_r⟩
theorem cell_some {L : Nat} {xs : Nat → Int32} (hL : L ≤ 260) {i : Nat} (hi : i < 1000) : ∃ x, fL_cell L xs (nI i) = some x := by
  unfold fL_cell
  by_cases c : L ≤ i
  · rw [show Int32.ofNat L = nI L from rfl, if_pos ((nle (by omega) (by omega)).mpr c)]; exact ⟨_, rfl⟩
  · rw [show Int32.ofNat L = nI L from rfl, if_neg (fun q => c ((nle (by omega) (by omega)).mp q)), gd_b (inb_nI (by omega) (by omega))]; exact ⟨_, rfl⟩
theorem twice_n : ∀ t, t < 34 → (2 : Int32) * nI t = nI (2 * t) ∧ (2 : Int32) * nI t + (1 : Int32) = nI (2 * t + 1) := by decide +kernel
theorem law_L {L : Nat} {xs : Nat → Int32} (hL : L ≤ 260) : ∀ (m t fu : Nat) (n : Nat) (X : XS) (N : Nat → Nat → Int32), t + m = 34 → m < fu → LW (5000 + 900 * t) n (400 * t) X N → fL_law_L121 L xs fu X N 1 (nI t) = some () := by
  intro m
  induction m with
  | zero =>
    intro t fu n X N ht hf h
    obtain ⟨fu, rfl⟩ : ∃ q, fu = q + 1 := ⟨fu - 1, by omega⟩
    obtain rfl : t = 34 := by omega
    rw [fL_law_L121, if_pos (show (34 : Int32) ≤ nI 34 by decide), gd_b (by decide)]
  | succ m ih =>
    intro t fu n X N ht hf h
    obtain ⟨fu, rfl⟩ : ∃ q, fu = q + 1 := ⟨fu - 1, by omega⟩
    obtain ⟨e1, e2⟩ := twice_n t (by omega)
    obtain ⟨x, hx⟩ := cell_some (xs := xs) hL (i := 2 * t) (by omega)
    obtain ⟨y, hy⟩ := cell_some (xs := xs) hL (i := 2 * t + 1) (by omega)
    have ek : ∃ k, k < 16 ∧ ((if (3 : Int32) ≤ nI t then (if (6 : Int32) ≤ nI t then (if nI t = (6 : Int32) then some (5 : Int32) else (fL_low (x >>> ((17 : Int32) &&& 31)) (15 : Int32)).bind fun q45 => some q45) else some (1 : Int32)) else some (0 : Int32)) : Option Int32) = some (nI k) := by
      obtain ⟨k, hk, e⟩ := low_i (x >>> ((17 : Int32) &&& 31)) (m := 15) (by decide) (by decide)
      have e' : fL_low (x >>> ((17 : Int32) &&& 31)) (15 : Int32) = some (nI k) := e
      rw [e', sb]
      split
      · split
        · split
          · exact ⟨5, by decide, rfl⟩
          · exact ⟨k, by omega, rfl⟩
        · exact ⟨1, by decide, rfl⟩
      · exact ⟨0, by decide, rfl⟩
    obtain ⟨k, hk, ek⟩ := ek
    obtain ⟨n', X1, N1, a1, a2⟩ := acts_l (by omega) (by omega) (by omega) h hk x y
    have hT : (400 * (t : Int) + 400) ≤ 99999 := by omega
    obtain ⟨X2, N2, b1, b2⟩ := would_l a2 hT (y >>> ((4 : Int32) &&& 31))
    have nx : ∀ X3 N3, LW (5000 + 900 * (t : Int) + 900) n' (400 * (t : Int) + 400) X3 N3 → fL_law_L121 L xs fu X3 N3 1 (nI t + 1) = some () := fun X3 N3 q => by
      rw [← nI_succ]
      exact ih (t + 1) fu n' X3 N3 (by omega) (by omega) (q.mono (by omega) (by omega))
    have h18 : N2 0 18 = nI n' := by obtain ⟨M, g, q⟩ := b2; exact q.a18
    have hn' : n' ≤ 5 := by obtain ⟨M, g, q⟩ := b2; exact q.n5
    rw [fL_law_L121, if_neg (show ¬ (34 : Int32) ≤ nI t by rw [show (34 : Int32) = nI 34 from rfl, nle (by omega) (by omega)]; omega), if_neg n10, e2, e1, hx, sb, hy, sb, ek, sb, a1, sb, if_neg n10]
    dsimp only
    rw [areClocks_l a2, sb, if_neg n10, isWater_l a2, sb, if_neg n10, areNumbers_l a2 hT, sb, if_neg n10, b1, sb, if_neg n10]
    dsimp only
    by_cases c : n' = 0
    · have c' : N2 0 18 = 0 := by rw [h18, c]; rfl
      rw [if_pos c']
      exact nx X2 N2 b2
    · obtain ⟨j, hj, e⟩ := low_i y (m := n') (by omega) (by omega)
      obtain ⟨X3, N3, d1, d2⟩ := isEmptyIn_l b2 hT hj
      have c' : ¬ N2 0 18 = 0 := by rw [h18, t_eq, i_0, t_lit n' (by omega)]; omega
      rw [if_neg c', h18, e, sb, d1, sb, if_neg n10]
      exact nx X3 N3 d2
