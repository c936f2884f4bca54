/-! RUNS OF TICKS in the law, with noons -/
def E11 (s s' : Row) : Prop := ∀ i, i ≠ 11 → s i = s' i
theorem e11_k {s s' : Row} (h : E11 s s') (c f : Nat) : s (KI c f) = s' (KI c f) := h _ (KI_sc (by decide))
theorem e11_upd {s s' : Row} (h : E11 s s') (j : Nat) {x x' : Int32} (e : x = x') : E11 (upd s j x) (upd s' j x') := fun i hi => by
  rw [upd_at, upd_at, e, h i hi]
theorem e11_tru {s s' : Row} (h : E11 s s') {k : Nat} {t : Int32} : E11 (tru s k t) (tru s' k t) := fun i hi => tru_congr (fun f _ => e11_k h k f) (h i hi)
theorem e11_nst {s s' : Row} (h : E11 s s') {k : Nat} : E11 (nst s k) (nst s' k) := by
  have e1 : er s k = er s' k := er_congr (h 6 (by decide)) (h 3 (by decide)) (fun f _ => e11_k h k f)
  have e2 : pl s 0 = pl s' 0 := by unfold pl; rw [h 14 (by decide)]
  have e3 : th s = th s' := th_of (h 6 (by decide)) (h 3 (by decide))
  unfold nst
  rw [e1, e2, e3, h 4 (by decide), h 5 (by decide), h 15 (by decide)]
  split
  · exact e11_upd h _ rfl
  · split
    · exact e11_tru (e11_upd (e11_upd h _ rfl) _ rfl)
    · exact e11_upd (e11_upd h _ rfl) _ rfl
theorem e11_nF {s s' : Row} (h : E11 s s') : ∀ k, E11 (nF k s) (nF k s')
  | 0 => h
  | k + 1 => e11_nst (e11_nF h k)
theorem e11_noo {s s' : Row} (h : E11 s s') (n : Nat) : E11 (noo n s) (noo n s') := by
  unfold noo
  refine e11_nF ?_ n
  unfold opn
  rw [h 19 (by decide), h 14 (by decide)]
  exact e11_upd (e11_upd h _ rfl) _ rfl
def bkL (n : Nat) (ρ ρ' : Row) : Row := fun i => if i < 120 then (if 97 + n ≤ i ∧ i < 102 then 0 else ρ' i) else bkR n ρ i
/-- the book behind a noon, as the law keeps it -/
theorem noo_BKl {σ ρ ρ' : Row} {n : Nat} (hn : n ≤ 5) (hs : SH σ ρ) (h19 : σ 19 = nI n) (hb : BK σ ρ) (h6 : (σ 14).toInt + 1 ≤ (σ 6).toInt ∧ (σ 6).toInt ≤ 300000) (h95 : ρ' 95 = ρ 95 + if 4 ≤ ρ 95 then 0 else 1) (h96 : ρ' 96 = ρ 19) (h97 : ∀ c, c < n → ρ' (97 + c) = er ρ c) (h102 : ∀ i, 102 ≤ i → i < 120 → ρ' i = ρ (i - 6)) : BK (noo n σ) ρ' := by
  have hx := noo_BK (ρ' := bkL n ρ ρ') hn hs h19 hb h6 (fun i hi => by
    unfold bkL
    by_cases c : i < 120
    · rw [if_pos c]
      by_cases c2 : 97 + n ≤ i ∧ i < 102
      · rw [if_pos c2]
        unfold bkR bke
        rw [upd_ne _ (by omega), upd_ne _ (by omega), if_pos (by omega), if_neg (by omega)]
      · rw [if_neg c2]
        by_cases c3 : 102 ≤ i
        · rw [h102 i c3 c, bkR_late c3 c]
        · by_cases c95 : i = 95
          · subst c95; rw [h95, bkR_95]
          · by_cases c96 : i = 96
            · subst c96; rw [h96, bkR_96]
            · obtain ⟨q, rfl⟩ : ∃ q, i = 97 + q := ⟨i - 97, by omega⟩
              rw [h97 q (by omega), bkR_97 (by omega) (by omega)]
    · rw [if_neg c])
  have lo : ∀ i, i < 120 → ¬ (97 + n ≤ i ∧ i < 102) → bkL n ρ ρ' i = ρ' i := fun i h1 h2 => by unfold bkL; rw [if_pos h1, if_neg h2]
  obtain ⟨q1, q2, q3⟩ := hx
  refine ⟨q1, ?_, fun a ha hal => ?_⟩
  · rw [← q2, lo 95 (by decide) (by omega)]
  · obtain ⟨m, m1, m2, m3, m4⟩ := q3 a ha hal
    have hm : ρ' (96 + 6 * a) = nI m := by rw [← m3, lo _ (by omega) (by omega)]
    refine ⟨m, m1, m2, hm, fun c hc => ?_⟩
    have := m4 c hc
    rw [this]
    by_cases c2 : 97 + n ≤ 97 + 6 * a + c ∧ 97 + 6 * a + c < 102
    · exfalso
      have a0 : a = 0 := by omega
      subst a0
      have e := m3
      rw [lo _ (by decide) (by omega), show 96 + 6 * 0 = 96 from rfl, h96, ← hs.1 19 (by decide) (by decide) (by decide), h19] at e
      have t1 := t_lit n (by omega)
      have t2 := t_lit m (by omega)
      rw [t_eq, t1, t2] at e
      omega
    · exact lo _ (by omega) c2
theorem lnoon {r1 r2 r3 r4 : Nat} (h : O4 r1 r2 r3 r4) {N : Nat → Nat → Int32} {φ a u v β : Row} {g y : Int32} {n : Nat} {b : Int} (hir : IR φ n b) (hkz : KZ φ n) (hs : SH φ (upd (dec a u v β g) 11 (dec a u v β g 11 + y))) (hbk : BK φ (dec a u v β g)) (h14 : (φ 14).toInt + 1 ≤ (φ 6).toInt) (t1 : dec a u v β g 16 = tot (dec a u v β g) 11) (t2 : dec a u v β g 17 = tot (dec a u v β g) 8) :
    ∃ a' u' v' β', fL_noon (L3 r1 r2 r3 (updA N r4 β) a u v) r1 r2 r3 r4 25 = some (L3 r1 r2 r3 (updA N r4 β') a' u' v') ∧ SH (noo n φ) (upd (dec a' u' v' β' g) 11 (dec a' u' v' β' g 11 + y)) ∧ BK (noo n φ) (dec a' u' v' β' g) ∧ dec a' u' v' β' g 16 = tot (dec a' u' v' β' g) 11 ∧ dec a' u' v' β' g 17 = tot (dec a' u' v' β' g) 8 := by
  have hn := hir.1.2
  have hs0 : ∀ i, i < 20 → i ≠ 11 → i ≠ 16 → i ≠ 17 → φ i = dec a u v β g i := fun i hi q x z => by have := hs.1 i hi x z; rw [upd_ne _ q] at this; exact this
  have hs2 : ∀ c f, c < 5 → f < 15 → φ (KI c f) = dec a u v β g (KI c f) := fun c f hc hf => by have := hs.2 c f hc hf; rw [upd_ne _ (KI_sc (by decide))] at this; exact this
  have hs11 : φ 11 = dec a u v β g 11 + y := by have := hs.1 11 (by decide) (by decide) (by decide); rw [upd_eq] at this; exact this
  -- the class's row with the law's account of drops
  have e11 : E11 (upd φ 11 (dec a u v β g 11)) φ := fun i hi => upd_ne _ hi
  have kk : ∀ c f, upd φ 11 (dec a u v β g 11) (KI c f) = φ (KI c f) := fun c f => upd_ne _ (KI_sc (by decide))
  have hir' : IR (upd φ 11 (dec a u v β g 11)) n b := IR_congr hir (fun i hi => upd_ne _ (by omega)) (upd_ne _ (by decide)) (upd_ne _ (by decide)) (fun c f _ _ => kk c f)
  have hkz' : KZ (upd φ 11 (dec a u v β g 11)) n := KZ_of hkz (fun k _ => kk k 0) (fun k _ => kk k 9)
  have hsx : SH (upd φ 11 (dec a u v β g 11)) (dec a u v β g) := ⟨fun i hi x z => by
    by_cases q : i = 11
    · subst q; exact upd_eq _ _ _
    · rw [upd_ne _ q]; exact hs0 i hi q x z, fun c f hc hf => by rw [kk]; exact hs2 c f hc hf⟩
  have h19 : φ 19 = a 18 := by rw [hs0 19 (by decide) (by decide) (by decide) (by decide)]; exact dec_up (i := 18) (by decide) (by decide)
  have e0 : shb 24 β = β := by funext j; unfold shb; rw [if_neg (by omega)]
  have h1 := lshift h (N := N) (a := a) (u := u) (v := v) (β := β) 18 (by decide) fuel (by unfold fuel; omega)
  rw [show 6 + 18 = 24 from rfl, e0] at h1
  generalize hβ0 : upd (upd (shb 6 β) 0 (β 0 + if 4 ≤ β 0 then 0 else 1)) 1 (a 18) = β0 at *
  have d13 : dec (upd a 13 (a 13 + 1)) u v β0 g = upd (dec a u v β0 g) 14 (a 13 + 1) := dec_a (j := 14) _ (Or.inr ⟨by decide, by decide, rfl⟩)
  have dβ : ∀ i, i < 95 → dec a u v β0 g i = dec a u v β g i := fun i hi => by
    unfold dec
    by_cases q : i < 20
    · rw [if_pos q, if_pos q]
    · rw [if_neg q, if_neg q, if_pos hi, if_pos hi]
  have do14 : ∀ i, i < 95 → i ≠ 14 → dec (upd a 13 (a 13 + 1)) u v β0 g i = dec a u v β g i := fun i hi q => by rw [d13, upd_ne _ q, dβ i hi]
  have hso : SH (nF 0 (opn (upd φ 11 (dec a u v β g 11)) (upd φ 11 (dec a u v β g 11) 19))) (dec (upd a 13 (a 13 + 1)) u v β0 g) := by
    refine ⟨fun i hi x z => ?_, fun c f hc hf => ?_⟩
    · show opn (upd φ 11 (dec a u v β g 11)) (upd φ 11 (dec a u v β g 11) 19) i = _
      by_cases e : i = 14
      · subst e
        rw [opn_14, d13, upd_eq, upd_ne _ (by decide), hs0 14 (by decide) (by decide) (by decide) (by decide)]
        rw [show dec a u v β g 14 = a 13 from dec_up (i := 13) (by decide) (by decide)]
      · rw [opn_lit (by omega) e, do14 i (by omega) e]; exact hsx.1 i hi x z
    · show opn (upd φ 11 (dec a u v β g 11)) (upd φ 11 (dec a u v β g 11) 19) _ = _
      rw [opn_lit (KI_lt hc hf) (KI_sc (by decide)), do14 _ (KI_lt hc hf) (KI_sc (by decide))]; exact hsx.2 c f hc hf
  obtain ⟨a', u', v', β', q1, q2, q3, q4, q5, q6, q7⟩ := lnoon_L h (N := N) (σ := opn (upd φ 11 (dec a u v β g 11)) (upd φ 11 (dec a u v β g 11) 19)) (g := g) (opn_IR hir') (KZ_of hkz' (fun k hk => opn_lit (KI_lt (by omega) (by decide)) (KI_sc (by decide))) (fun k hk => opn_lit (KI_lt (by omega) (by decide)) (KI_sc (by decide)))) n 0 (upd a 13 (a 13 + 1)) u v β0 (by omega) hso fuel (by unfold fuel; omega)
  have en : ∀ i, i ≠ 11 → nF n (opn (upd φ 11 (dec a u v β g 11)) (upd φ 11 (dec a u v β g 11) 19)) i = noo n φ i := fun i hi => (e11_noo e11 n) i hi
  have l11 : nF n (opn (upd φ 11 (dec a u v β g 11)) (upd φ 11 (dec a u v β g 11) 19)) 11 = dec a u v β g 11 := by
    rw [nF_lit (by decide) (by decide) n hn, opn_lit (by decide) (by decide), upd_eq]
  have n11 : noo n φ 11 = φ 11 := by show nF n (opn φ (φ 19)) 11 = _; rw [nF_lit (by decide) (by decide) n hn, opn_lit (by decide) (by decide)]
  have tt : ∀ f, f < 15 → tot (dec (upd a 13 (a 13 + 1)) u v β0 g) f = tot (dec a u v β g) f := fun f hf => tot_same (fun c hc => do14 _ (KI_lt hc hf) (KI_sc (by decide)))
  refine ⟨a', u', v', β', ?_, ⟨fun i hi x z => ?_, fun c f hc hf => ?_⟩, ?_, ?_, ?_⟩
  · unfold fL_noon
    rw [show (24 : Int32) = nI 24 from rfl, h1]
    exact q1
  · by_cases q : i = 11
    · subst q
      rw [upd_eq, n11, hs11, ← q2.1 11 (by decide) (by decide) (by decide), l11]
    · rw [upd_ne _ q, ← en i q]; exact q2.1 i hi x z
  · rw [upd_ne _ (KI_sc (by decide)), ← en _ (KI_sc (by decide))]; exact q2.2 c f hc hf
  · have hw := noo_BKl (σ := upd φ 11 (dec a u v β g 11)) (ρ := dec a u v β g) (ρ' := dec a' u' v' β' g) hn hsx hir'.1.1 (BK_congr hbk (upd_ne _ (by decide)) (by rw [upd_ne _ (by decide)]; exact Int.le_refl _) (fun i hi => upd_ne _ (by omega)) (fun _ _ => rfl)) ⟨by rw [upd_ne _ (by decide), upd_ne _ (by decide)]; exact h14, by rw [upd_ne _ (by decide)]; have := hir.2.2.1; omega⟩ ?_ ?_ ?_ ?_
    · have e14 : noo n (upd φ 11 (dec a u v β g 11)) 14 = noo n φ 14 := en 14 (by decide)
      have e6 : noo n (upd φ 11 (dec a u v β g 11)) 6 = noo n φ 6 := en 6 (by decide)
      exact BK_congr hw e14.symm (by rw [← e6]; exact Int.le_refl _) (fun i hi => (en i (by omega)).symm) (fun _ _ => rfl)
    · rw [show (95 : Nat) = 95 + 0 from rfl, dec_b, dec_b, q3 0 (Or.inl (by omega)), ← hβ0, upd_ne _ (by decide), upd_eq]
    · rw [show (96 : Nat) = 95 + 1 from rfl, dec_b, q3 1 (Or.inl (by omega)), ← hβ0, upd_eq]; exact (dec_up (i := 18) (by decide) (by decide)).symm
    · intro c hc
      rw [show 97 + c = 95 + (2 + c) by omega, dec_b, q4 c (by omega) hc]
      exact er_congr (by rw [opn_lit (by decide) (by decide)]; exact hsx.1 6 (by decide) (by decide) (by decide)) (by rw [opn_lit (by decide) (by decide)]; exact hsx.1 3 (by decide) (by decide) (by decide)) (fun f hf => by rw [opn_lit (KI_lt (by omega) hf) (KI_sc (by decide))]; exact hsx.2 c f (by omega) hf)
    · intro i h1 h2
      obtain ⟨j, rfl⟩ : ∃ j, i = 95 + j := ⟨i - 95, by omega⟩
      rw [dec_b, show 95 + j - 6 = 95 + (j - 6) by omega, dec_b, q3 j (Or.inr (by omega)), ← hβ0, upd_ne _ (by omega), upd_ne _ (by omega)]
      unfold shb
      rw [if_pos (by omega)]
  · exact q7 (by rw [do14 16 (by decide) (by decide), tt 11 (by decide)]; exact t1)
  · rw [q5, q6, do14 17 (by decide) (by decide), tt 8 (by decide)]; exact t2
