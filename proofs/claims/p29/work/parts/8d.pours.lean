/-! THE LAW'S CHANGES: jugs -/
theorem pj_WV {ρ : Row} {k : Nat} {d : Int32} : Wt (pj ρ k d) = Wt ρ ∧ Vt (pj ρ k d) = Vt ρ := by
  unfold pj Wt Vt
  simp only [tot_o (f := 10) (f' := 3) (by decide) (by decide) (by decide), tot_o (f := 10) (f' := 4) (by decide) (by decide) (by decide), tot_n (i := 18) (by decide), tot_n (i := 10) (by decide), tot_n (i := 7) (by decide)]
  simp only [upd_at, KI_lit1, Nat.reduceLT, Nat.reduceEqDiff, if_false]
  exact ⟨trivial, trivial⟩
theorem pe_f {ρ : Row} {k f : Nat} {d : Int32} (hf : f < 15) (h10 : f ≠ 10) (h3 : f ≠ 3) : ent (pj ρ k d) k d (KI k f) = ρ (KI k f) := by
  rw [ent_o (KI_sc (by decide)) (KI_sc (by decide)) (KI_ne_f h3 hf (by decide)), pj_out (KI_sc (by decide)) (KI_sc (by decide)) (KI_sc (by decide)) (KI_ne_f h10 hf (by decide))]
theorem pe_l {ρ : Row} {k i : Nat} {d : Int32} (hi : i < 20) (h1 : i ≠ 7) (h2 : i ≠ 10) (h3 : i ≠ 18) (h4 : i ≠ 9) (h5 : i ≠ 12) : ent (pj ρ k d) k d i = ρ i := by rw [ent_o h4 h5 (sc_KI hi), pj_out h1 h2 h3 (sc_KI hi)]
theorem pe_c {ρ : Row} {k c f : Nat} {d : Int32} (hf : f < 15) (e : c ≠ k) : ent (pj ρ k d) k d (KI c f) = ρ (KI c f) := by
  rw [ent_o (KI_sc (by decide)) (KI_sc (by decide)) (fun q => e ((KI_eq_iff hf (by decide)).mp q).1), pj_out (KI_sc (by decide)) (KI_sc (by decide)) (KI_sc (by decide)) (fun q => e ((KI_eq_iff hf (by decide)).mp q).1)]
theorem pe_k {ρ : Row} {k c f : Nat} {d : Int32} (hf : f < 15) (h10 : f ≠ 10) (h3 : f ≠ 3) : ent (pj ρ k d) k d (KI c f) = ρ (KI c f) := by
  by_cases e : c = k
  · subst e; exact pe_f hf h10 h3
  · exact pe_c hf e
theorem pour_INV {ρ : Row} {n k : Nat} {d : Int32} (hk : k < 5) (h : INV ρ n) (h0 : 0 ≤ (ρ 0).toInt ∧ (ρ 0).toInt ≤ 5000) (hu : 0 ≤ (ρ (KI k 3)).toInt ∧ (ρ (KI k 3)).toInt ≤ 5000) (hd : 0 ≤ d.toInt ∧ d.toInt ≤ 700) (h7 : d.toInt ≤ (ρ 7).toInt) : INV (ent (pj ρ k d) k d) n := by
  obtain ⟨kz, ⟨c1, c2, c3⟩, ⟨b1, b2, b3⟩, b6, bk⟩ := h
  have e7 : ent (pj ρ k d) k d 7 = ρ 7 - d := by
    rw [ent_o (by decide) (by decide) (sc_KI (by decide))]
    unfold pj
    rw [uK_s _ (by decide), upd_ne _ (by decide), upd_ne _ (by decide), upd_eq]
  have e10 : ent (pj ρ k d) k d 10 = ρ 10 + d := by
    rw [ent_o (by decide) (by decide) (sc_KI (by decide))]
    unfold pj
    rw [uK_s _ (by decide), upd_ne _ (by decide), upd_eq]
  have e11 : ent (pj ρ k d) k d 11 = ρ 11 := pe_l (by decide) (by decide) (by decide) (by decide) (by decide) (by decide)
  have t7 : (ρ 7 - d).toInt = (ρ 7).toInt - d.toInt := t_sub (by omega) (by omega)
  obtain ⟨p1, p2⟩ := pj_WV (ρ := ρ) (k := k) (d := d)
  obtain ⟨q1, q2⟩ := ent_WV (s := pj ρ k d) (t := k) (d := d) hk
  refine ⟨fun c hc q => ?_, ⟨?_, ?_, ?_⟩, ⟨?_, ?_, ?_⟩, fun c hc => ?_, fun c hc => ?_⟩
  · rw [pe_k (by decide) (by decide) (by decide)] at q ⊢
    exact kz c hc q
  · rw [q2, p2, e11]; exact c1
  · rw [q1, p1, e7]; rw [← c2]; grind
  · rw [e10, e7, c3]; grind
  · rw [e7, t7]; omega
  · rw [e7, t7]; omega
  · rw [e7, t7]
    have r := rm_i h0 hu
    have m := mn_i d (rm (ρ 0) (ρ (KI k 3)))
    have z0 : pj ρ k d 0 = ρ 0 := pj_out (by decide) (by decide) (by decide) (sc_KI (by decide))
    have z3 : pj ρ k d (KI k 3) = ρ (KI k 3) := pj_out (KI_sc (by decide)) (KI_sc (by decide)) (KI_sc (by decide)) (KI_ne_f (by decide) (by decide) (by decide))
    have ts : (ρ (KI k 3) + mn d (rm (ρ 0) (ρ (KI k 3)))).toInt = (ρ (KI k 3)).toInt + (mn d (rm (ρ 0) (ρ (KI k 3)))).toInt := t_add (by omega) (by omega)
    have ep : pot (pj ρ k d) = pot ρ := pot_same (fun c _ => pj_out (KI_sc (by decide)) (KI_sc (by decide)) (KI_sc (by decide)) (KI_ne_f (by decide) (by decide) (by decide))) (fun c _ => pj_out (KI_sc (by decide)) (KI_sc (by decide)) (KI_sc (by decide)) (KI_ne_f (by decide) (by decide) (by decide))) (fun c _ => pj_out (KI_sc (by decide)) (KI_sc (by decide)) (KI_sc (by decide)) (KI_ne_f (by decide) (by decide) (by decide)))
    have eq : pot (ent (pj ρ k d) k d) = pot ρ + (5 - (k : Int)) * (mn d (rm (ρ 0) (ρ (KI k 3)))).toInt := by
      unfold ent
      rw [pot_o (fun c => sc_KI (by decide)) (fun c => sc_KI (by decide)) (fun c => sc_KI (by decide)), pot_o (fun c => sc_KI (by decide)) (fun c => sc_KI (by decide)) (fun c => sc_KI (by decide)), pot_3 hk, ep, z0, z3, ts]
      congr 2
      omega
    rw [eq]
    generalize (mn d (rm (ρ 0) (ρ (KI k 3)))).toInt = mm at m
    have : (5 - (k : Int)) * mm ≤ 5 * d.toInt := by
      have := hk
      obtain rfl | rfl | rfl | rfl | rfl : k = 0 ∨ k = 1 ∨ k = 2 ∨ k = 3 ∨ k = 4 := by omega
      all_goals omega
    omega
  · rw [pe_k (by decide) (by decide) (by decide)]; exact b6 c hc
  · rw [pe_k (by decide) (by decide) (by decide), pe_k (by decide) (by decide) (by decide), pe_k (by decide) (by decide) (by decide), pe_k (by decide) (by decide) (by decide)]
    have h14 := (bk c hc).2
    by_cases e : c = k
    · subst e
      rw [pe_f (by decide) (by decide) (by decide)]
      exact ⟨(bk c hc).1, h14⟩
    · rw [pe_c (by decide) e]; exact ⟨(bk c hc).1, h14⟩
/-- the law pours -/
theorem poured_l {N : Nat → Nat → Int32} {a u v β : Row} {g d : Int32} {k : Nat} (hk : k < 5) (h0 : 0 ≤ (a 0).toInt ∧ (a 0).toInt ≤ 5000) (hu : 0 ≤ (u k).toInt ∧ (u k).toInt ≤ 5000) (hd : 0 ≤ d.toInt ∧ d.toInt ≤ 700) :
    setC (setC (setC (setC (L3 0 1 2 N a u v) 0 7 (L3 0 1 2 N a u v 0 7 - d)) 0 10 (setC (L3 0 1 2 N a u v) 0 7 (L3 0 1 2 N a u v 0 7 - d) 0 10 + d)) 0 17 (setC (setC (L3 0 1 2 N a u v) 0 7 (L3 0 1 2 N a u v 0 7 - d)) 0 10 (setC (L3 0 1 2 N a u v) 0 7 (L3 0 1 2 N a u v 0 7 - d) 0 10 + d) 0 17 + 1)) 2 (15 + k) (setC (setC (setC (L3 0 1 2 N a u v) 0 7 (L3 0 1 2 N a u v 0 7 - d)) 0 10 (setC (L3 0 1 2 N a u v) 0 7 (L3 0 1 2 N a u v 0 7 - d) 0 10 + d)) 0 17 (setC (setC (L3 0 1 2 N a u v) 0 7 (L3 0 1 2 N a u v 0 7 - d)) 0 10 (setC (L3 0 1 2 N a u v) 0 7 (L3 0 1 2 N a u v 0 7 - d) 0 10 + d) 0 17 + 1) 2 (15 + k) + d) = L3 0 1 2 N (upd (upd (upd a 7 (a 7 - d)) 10 (a 10 + d)) 17 (a 17 + 1)) u (upd v (15 + k) (v (15 + k) + d)) ∧
    fL_comes (L3 0 1 2 N (upd (upd (upd a 7 (a 7 - d)) 10 (a 10 + d)) 17 (a 17 + 1)) u (upd v (15 + k) (v (15 + k) + d))) 0 1 (nI k) d = some (d - mn d (rm (a 0) (u k)), L3 0 1 2 N (upd (upd (upd (upd a 7 (a 7 - d)) 10 (a 10 + d)) 17 (a 17 + 1)) 9 (a 9 + (d - mn d (rm (a 0) (u k))))) (upd u k (u k + mn d (rm (a 0) (u k)))) (upd v (15 + k) (v (15 + k) + d))) ∧
    dec (upd (upd (upd (upd a 7 (a 7 - d)) 10 (a 10 + d)) 17 (a 17 + 1)) 9 (a 9 + (d - mn d (rm (a 0) (u k))))) (upd u k (u k + mn d (rm (a 0) (u k)))) (upd v (15 + k) (v (15 + k) + d)) β (g + mn d (rm (a 0) (u k))) = ent (pj (dec a u v β g) k d) k d := by
  refine ⟨?_, ?_, ?_⟩
  · rw [L3_1 DS012, L3_s1 DS012, L3_1 DS012, L3_s1 DS012, L3_1 DS012, L3_s1 DS012, L3_3, L3_s3, upd_ne _ (show 10 ≠ 7 by decide), upd_ne _ (show 17 ≠ 10 by decide), upd_ne _ (show 17 ≠ 7 by decide)]
  · have e0 : upd (upd (upd a 7 (a 7 - d)) 10 (a 10 + d)) 17 (a 17 + 1) 0 = a 0 := by rw [upd_ne _ (by decide), upd_ne _ (by decide), upd_ne _ (by decide)]
    have e9 : upd (upd (upd a 7 (a 7 - d)) 10 (a 10 + d)) 17 (a 17 + 1) 9 = a 9 := by rw [upd_ne _ (by decide), upd_ne _ (by decide), upd_ne _ (by decide)]
    rw [comes_l DS012 (by omega) (by rw [e0]; exact h0) hu ⟨hd.1, by omega⟩, e0, e9]
  · have ep : dec (upd (upd (upd a 7 (a 7 - d)) 10 (a 10 + d)) 17 (a 17 + 1)) u (upd v (15 + k) (v (15 + k) + d)) β g = pj (dec a u v β g) k d := by
      rw [dv_10 _ hk, dec_a (i := 17) (j := 18) _ (Or.inr ⟨by decide, by decide, rfl⟩), dec_a (i := 10) (j := 10) _ (Or.inl ⟨by decide, rfl⟩), dec_a (i := 7) (j := 7) _ (Or.inl ⟨by decide, rfl⟩), re_10 a u v β g hk, show a 7 = dec a u v β g 7 from (dec_lo (by decide)).symm, show a 10 = dec a u v β g 10 from (dec_lo (by decide)).symm, show a 17 = dec a u v β g 18 from (dec_up (i := 17) (by decide) (by decide)).symm]
      rfl
    have z0 : pj (dec a u v β g) k d 0 = a 0 := by rw [pj_out (by decide) (by decide) (by decide) (sc_KI (by decide))]; exact dec_lo (by decide)
    have z9 : pj (dec a u v β g) k d 9 = a 9 := by rw [pj_out (by decide) (by decide) (by decide) (sc_KI (by decide))]; exact dec_lo (by decide)
    have z12 : pj (dec a u v β g) k d 12 = g := by rw [pj_out (by decide) (by decide) (by decide) (sc_KI (by decide))]; exact dec_12
    have z3 : pj (dec a u v β g) k d (KI k 3) = u k := by rw [pj_out (KI_sc (by decide)) (KI_sc (by decide)) (KI_sc (by decide)) (KI_ne_f (by decide) (by decide) (by decide))]; exact (rd_3 a u v β g hk).symm
    rw [dec_a (i := 9) (j := 9) _ (Or.inl ⟨by decide, rfl⟩), du_3 _ hk, dec_g (g := g), ep]
    unfold ent
    rw [z0, z3, z9, z12]
    funext i
    simp only [upd_at]
    by_cases i9 : i = 9
    · simp [i9]
    · by_cases i12 : i = 12
      · simp [i12, KI_lit1]
      · simp [i9, i12]
theorem pours_l {w T : Int} {n : Nat} {X : XS} {N : Nat → Nat → Int32} (h : LW w n T X N) (x : Int32) : ∃ X' N', fL_pours X N x = some (1, X', N') ∧ LW w n T X' N' := by
  obtain ⟨M, g, h⟩ := h
  have hn := h.n5
  have h18 := h.a18
  have h19 := h.m19
  obtain ⟨k, hk, e1⟩ := low_i x (m := n + 1) (by omega) (by omega)
  obtain ⟨j, hj, e2⟩ := low_i (x >>> ((4 : Int32) &&& 31)) (m := 4) (by decide) (by decide)
  have tk := t_lit k (by omega)
  have tj := t_lit j (by omega)
  have tn := t_lit n (by omega)
  have i2 : (2 : Int32).toInt = 2 := rfl
  have e1' : fL_low x (nI n + 1) = some (nI k) := by rw [← nI_succ]; exact e1
  have e2' : fL_low (x >>> ((4 : Int32) &&& 31)) (4 : Int32) = some (nI j) := e2
  have tM : ∀ M1 : Nat → Nat → Int32, M1 0 = M 0 → M1 0 19 = nI n := fun M1 e => by rw [e]; exact h19
  have err : ∀ r : Int32, (∀ M1, M1 0 = M 0 → fM_pourNow M1 (nI k) (nI j) = some (r, M1)) → ∃ X', fX_pour X (nI k) (nI j) = some (r, X') ∧ LW w n T X' N := fun r hp => by
    obtain ⟨X', c1, c2⟩ := op_end (g' := g) (N' := N) (r0 := r) (ρ0 := M 0) h (Int.le_refl w) (fun σ => fS_pourJug σ (nI k) (nI j)) (fun Q => fM_pourNow Q (nI k) (nI j)) (fun σ Q hq => pour_is hq (nI k) (nI j)) (fun M1 e => by rw [hp M1 e, ← e, mw_self]) h.2.1 h.inv h19 hn h.same
    exact ⟨X', c1, c2⟩
  have ed : ∃ d, (if nI j = 0 then some (50 : Int32) else (if nI j = (1 : Int32) then some (200 : Int32) else some (700 : Int32))) = some d ∧ (j < 3 → d = tab 2 j) := by
    obtain rfl | rfl | rfl | rfl : j = 0 ∨ j = 1 ∨ j = 2 ∨ j = 3 := by omega
    · exact ⟨50, by decide, fun _ => by decide +kernel⟩
    · exact ⟨200, by decide, fun _ => by decide +kernel⟩
    · exact ⟨700, by decide, fun _ => by decide +kernel⟩
    · exact ⟨700, by decide, fun q => absurd q (by decide)⟩
  obtain ⟨d, e3, ed⟩ := ed
  by_cases q1 : k < n
  · have a1 : ¬ nI n ≤ nI k := by rw [t_le]; omega
    by_cases q2 : j < 3
    · have a2 : nI j ≤ 2 := by rw [t_le, i2]; omega
      have dj := jug_i j q2
      have hm := jug_m j q2
      rw [← ed q2] at dj hm
      have a7 : N 0 7 = M 0 7 := h.lo (by decide)
      have a0 : N 0 0 = M 0 0 := h.lo (by decide)
      have u3 : N 1 k = M 0 (KI k 3) := by rw [h.2.1]; exact rd_3 _ _ _ _ _ (by omega)
      obtain ⟨ak, bk, -⟩ := ix0 k (by omega)
      obtain ⟨a15, -, b15⟩ := ix15 k (by omega)
      have hre : ∀ M1 : Nat → Nat → Int32, M1 0 = M 0 → fM_reason M1 (nI k) (nI j) = some (whl (M 0) k d) := fun M1 e => by rw [reason_is (by omega) q2, e, ed q2]
      by_cases q3 : d ≤ M 0 7
      · have a3 : ¬ N 0 7 < d := by rw [a7, t_lt]; rw [t_le] at q3; omega
        by_cases q4 : M 0 (KI k 3) < M 0 0
        · have wz : whl (M 0) k d = 0 := by unfold whl; rw [if_pos q3, if_pos q4]
          have st := h.st
          have b0 : 0 ≤ (M 0 0).toInt ∧ (M 0 0).toInt ≤ 5000 := by have := st.1; omega
          have bu := (h.cb q1).2.2.2.1
          rw [t_le] at q3
          obtain ⟨f1, f2, f3⟩ := poured_l (N := N) (a := N 0) (u := N 1) (v := N 2) (β := N 3) (g := g) (d := d) (k := k) (by omega) (by rw [a0]; exact b0) (by rw [u3]; exact bu) dj
          rw [L3_N] at f1
          rw [← h.2.1] at f3
          have z0 : pj (M 0) k d 0 = M 0 0 := pj_out (by decide) (by decide) (by decide) (sc_KI (by decide))
          have z3 : pj (M 0) k d (KI k 3) = M 0 (KI k 3) := pj_out (KI_sc (by decide)) (KI_sc (by decide)) (KI_sc (by decide)) (KI_ne_f (by decide) (by decide) (by decide))
          obtain ⟨X', c1, c2⟩ := op_end (g' := g + mn d (rm (N 0 0) (N 1 k))) (N' := L3 0 1 2 N (upd (upd (upd (upd (N 0) 7 (N 0 7 - d)) 10 (N 0 10 + d)) 17 (N 0 17 + 1)) 9 (N 0 9 + (d - mn d (rm (N 0 0) (N 1 k))))) (upd (N 1) k (N 1 k + mn d (rm (N 0 0) (N 1 k)))) (upd (N 2) (15 + k) (N 2 (15 + k) + d))) (n' := n) (T' := T) (r0 := d - mn d (rm (M 0 0) (M 0 (KI k 3)))) (ρ0 := ent (pj (M 0) k d) k d) h (Int.le_refl w) (fun σ => fS_pourJug σ (nI k) (nI j)) (fun Q => fM_pourNow Q (nI k) (nI j)) (fun σ Q hq => pour_is hq (nI k) (nI j)) (fun M1 e => by
            unfold fM_pourNow
            rw [mclock_in (tM M1 e) hn q1, sb, if_neg n10, in_t (by rw [i_0, i2]; omega), sb, if_neg n10, hre M1 e, sb, wz, if_pos (by decide), hm]
            simp only [sb, lt_is, set0]
            rw [show ∀ Q : Nat → Nat → Int32, fM_add Q (nI k) 10 d = some (mw Q (upd (Q 0) (KI k 10) (Q 0 (KI k 10) + d))) from fun Q => add_at Q (v := 10) _ (by omega) (by decide)]
            simp only [sb, mw_0, mw_mw]
            rw [mfill_is _ _ (show k < 5 by omega)]
            simp only [sb, mw_0, mw_mw]
            rw [e]
            have ep : upd (upd (upd (upd (M 0) 7 (M 0 7 - d)) 10 (upd (M 0) 7 (M 0 7 - d) 10 + d)) 18 (upd (upd (M 0) 7 (M 0 7 - d)) 10 (upd (M 0) 7 (M 0 7 - d) 10 + d) 18 + 1)) (KI k 10) (upd (upd (upd (M 0) 7 (M 0 7 - d)) 10 (upd (M 0) 7 (M 0 7 - d) 10 + d)) 18 (upd (upd (M 0) 7 (M 0 7 - d)) 10 (upd (M 0) 7 (M 0 7 - d) 10 + d) 18 + 1) (KI k 10) + d) = pj (M 0) k d := by
              unfold pj
              rw [upd_ne _ (KI_sc (by decide)), upd_ne _ (KI_sc (by decide)), upd_ne _ (KI_sc (by decide))]
              rfl
            rw [ep, z0, z3]) (by rw [L3_1 DS012, L3_2 DS012, L3_3, L3_o (by decide) (by decide) (by decide), f3]) (pour_INV (by omega) h.inv b0 bu dj q3) (by rw [pe_l (by decide) (by decide) (by decide) (by decide) (by decide) (by decide)]; exact h19) hn (by rw [pe_l (by decide) (by decide) (by decide) (by decide) (by decide) (by decide)]; exact h.same)
          refine ⟨X', _, ?_, c2⟩
          have c1' : fX_pour X (nI k) (nI j) = some (d - mn d (rm (M 0 0) (M 0 (KI k 3))), X') := c1
          have q4' : N 1 k < N 0 0 := by rw [u3, a0]; exact q4
          unfold fL_pours
          rw [h18, e1', sb, e2', sb, e3, sb, if_neg a1, if_pos a2, if_neg a3, gd_b bk, ak, if_pos q4', lt_is, lt_is, lt_is, gd_b b15, gd_b b15, a15, lt_is, c1', sb, f1, f2, sb, if_pos (by rw [a0, u3])]
        · have wz : whl (M 0) k d = 2 := by unfold whl; rw [if_pos q3, if_neg q4]
          have q4' : ¬ N 1 k < N 0 0 := by rw [u3, a0]; exact q4
          obtain ⟨X', c1, c2⟩ := err (-1000002) (fun M1 e => by
            unfold fM_pourNow
            rw [mclock_in (tM M1 e) hn q1, sb, if_neg n10, in_t (by rw [i_0, i2]; omega), sb, if_neg n10, hre M1 e, sb, wz, if_neg (by decide)])
          refine ⟨X', N, ?_, c2⟩
          unfold fL_pours
          rw [h18, e1', sb, e2', sb, e3, sb, if_neg a1, if_pos a2, if_neg a3, gd_b bk, ak, if_neg q4', c1, sb, if_pos rfl]
      · have a3 : N 0 7 < d := by rw [a7, t_lt]; rw [t_le] at q3; omega
        have wz : whl (M 0) k d = 1 := by unfold whl; rw [if_neg q3]
        obtain ⟨X', c1, c2⟩ := err (-1000002) (fun M1 e => by
          unfold fM_pourNow
          rw [mclock_in (tM M1 e) hn q1, sb, if_neg n10, in_t (by rw [i_0, i2]; omega), sb, if_neg n10, hre M1 e, sb, wz, if_neg (by decide)])
        refine ⟨X', N, ?_, c2⟩
        unfold fL_pours
        rw [h18, e1', sb, e2', sb, e3, sb, if_neg a1, if_pos a2, if_pos a3, c1, sb, if_pos rfl]
    · have a2 : ¬ nI j ≤ 2 := by rw [t_le, i2]; omega
      obtain ⟨X', c1, c2⟩ := err (-1000001) (fun M1 e => by
        unfold fM_pourNow
        rw [mclock_in (tM M1 e) hn q1, sb, if_neg n10, in_f (by rw [i_0, i2]; omega), sb, if_pos rfl])
      refine ⟨X', N, ?_, c2⟩
      unfold fL_pours
      rw [h18, e1', sb, e2', sb, e3, sb, if_neg a1, if_neg a2, c1, sb, if_pos rfl]
  · have a1 : nI n ≤ nI k := by rw [t_le]; omega
    obtain ⟨X', c1, c2⟩ := err (-1000001) (fun M1 e => by
      unfold fM_pourNow
      rw [mclock_out (tM M1 e) hn (by omega), sb, if_pos rfl])
    refine ⟨X', N, ?_, c2⟩
    unfold fL_pours
    rw [h18, e1', sb, e2', sb, e3, sb, if_pos a1, c1, sb, if_pos rfl]
