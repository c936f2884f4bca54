theorem bkR_lo {n : Nat} {ρ : Row} {i : Nat} (h : i < 95) (h14 : i ≠ 14) : bkR n ρ i = ρ i := by
  unfold bkR
  rw [upd_ne _ h14, upd_ne _ (by omega)]
  unfold bke
  rw [if_neg (by omega), upd_ne _ (by omega)]
  unfold shd
  rw [if_neg (by omega)]
theorem bkR_14 {n : Nat} {ρ : Row} : bkR n ρ 14 = ρ 14 + 1 := by unfold bkR; rw [upd_eq]
theorem bkR_95 {n : Nat} {ρ : Row} : bkR n ρ 95 = ρ 95 + if 4 ≤ ρ 95 then 0 else 1 := by unfold bkR; rw [upd_ne _ (by decide), upd_eq]
theorem bkR_96 {n : Nat} {ρ : Row} : bkR n ρ 96 = ρ 19 := by
  unfold bkR
  rw [upd_ne _ (by decide), upd_ne _ (by decide)]
  unfold bke
  rw [if_neg (by omega), upd_eq]
theorem bkR_97 {n c : Nat} {ρ : Row} (hc : c < 5) (hn : c < n) : bkR n ρ (97 + c) = er ρ c := by
  unfold bkR
  rw [upd_ne _ (by omega), upd_ne _ (by omega)]
  unfold bke
  rw [if_pos (by omega), show 97 + c - 97 = c by omega, if_pos hn]
theorem bkR_late {n i : Nat} {ρ : Row} (h : 102 ≤ i) (h2 : i < 120) : bkR n ρ i = ρ (i - 6) := by
  unfold bkR
  rw [upd_ne _ (by omega), upd_ne _ (by omega)]
  unfold bke
  rw [if_neg (by omega), upd_ne _ (by omega)]
  unfold shd
  rw [if_pos (by omega)]
theorem opn_hi {σ : Row} {x : Int32} {q : Nat} (hq : q < 4) : opn σ x (96 + q) = if q = (σ 14).toInt.toNat % 4 then x else σ (96 + q) := by
  unfold opn
  by_cases e : q = (σ 14).toInt.toNat % 4
  · rw [if_pos e, ← e, upd_eq]
  · rw [if_neg e, upd_ne _ (by omega), upd_ne _ (by omega)]
theorem opn_100 {σ : Row} {x : Int32} {i : Nat} (h : 100 ≤ i) : opn σ x i = σ i := by
  have : (σ 14).toInt.toNat % 4 < 4 := Nat.mod_lt _ (by decide)
  unfold opn
  rw [upd_ne _ (by omega), upd_ne _ (by omega)]
/-- the book behind a noon -/
theorem noo_BK {σ ρ ρ' : Row} {n : Nat} (hn : n ≤ 5) (hs : SH σ ρ) (h19 : σ 19 = nI n) (hb : BK σ ρ) (h6 : (σ 14).toInt + 1 ≤ (σ 6).toInt ∧ (σ 6).toInt ≤ 300000) (hr : ∀ i, 95 ≤ i → ρ' i = bkR n ρ i) : BK (noo n σ) ρ' := by
  obtain ⟨⟨b1, b2⟩, b3, b4⟩ := hb
  have e14 : noo n σ 14 = σ 14 + 1 := by show nF n (opn σ (σ 19)) 14 = _; rw [nF_lit (by decide) (by decide) n hn, opn_14]
  have e6 : noo n σ 6 = σ 6 := by show nF n (opn σ (σ 19)) 6 = _; rw [nF_lit (by decide) (by decide) n hn, opn_lit (by decide) (by decide)]
  have i14 := i_14 σ b1 (by omega)
  have eN : (noo n σ 14).toInt.toNat = (σ 14).toInt.toNat + 1 := by rw [e14, i14]; omega
  have epl : ∀ a, pl (noo n σ) a = ((σ 14).toInt.toNat - a) % 4 := fun a => by
    unfold pl
    rw [eN, Nat.add_sub_cancel]
  have p0 : pl (opn σ (σ 19)) 0 = (σ 14).toInt.toNat % 4 := by
    unfold pl
    rw [opn_14, i14]
    congr 1; omega
  have hm4 : (σ 14).toInt.toNat % 4 < 4 := Nat.mod_lt _ (by decide)
  refine ⟨⟨by rw [e14, i14]; omega, by rw [e14, i14, e6]; omega⟩, ?_, fun a ha hal => ?_⟩
  · rw [hr 95 (by decide), bkR_95, b3, eN]
    have t4 : (4 : Int32).toInt = 4 := rfl
    have tm := t_lit (min (σ 14).toInt.toNat 4) (by omega)
    by_cases c : (4 : Int32) ≤ nI (min (σ 14).toInt.toNat 4)
    · rw [if_pos c, Int32.add_zero]
      rw [t_le, t4, tm] at c
      congr 1; omega
    · rw [if_neg c, ← nI_succ]
      rw [t_le, t4, tm] at c
      congr 1; omega
  · cases a with
    | zero =>
      refine ⟨n, hn, ?_, ?_, fun c hc => ?_⟩
      · rw [epl, Nat.sub_zero]
        show nF n (opn σ (σ 19)) _ = _
        rw [nF_96 hm4 n hn, opn_hi hm4, if_pos rfl, h19]
      · rw [hr _ (by omega), bkR_96, ← hs.1 19 (by decide) (by decide) (by decide), h19]
      · rw [epl, Nat.sub_zero, hr _ (by omega), show 97 + 6 * 0 + c = 97 + c by omega, bkR_97 (by omega) hc]
        show nF n (opn σ (σ 19)) _ = _
        have := nF_err (σ := opn σ (σ 19)) (c := c) n hn hc
        rw [p0] at this
        rw [this]
        exact er_congr (by rw [opn_lit (by decide) (by decide)]; exact hs.1 6 (by decide) (by decide) (by decide)) (by rw [opn_lit (by decide) (by decide)]; exact hs.1 3 (by decide) (by decide) (by decide)) (fun f hf => by rw [opn_lit (KI_lt (by omega) hf) (KI_sc (by decide))]; exact hs.2 c f (by omega) hf)
    | succ a =>
      have ea : pl (noo n σ) (a + 1) = pl σ a := by rw [epl]; unfold pl; congr 1; omega
      rw [eN] at hal
      have hne : pl σ a ≠ (σ 14).toInt.toNat % 4 := by unfold pl; omega
      have hp4 : pl σ a < 4 := Nat.mod_lt _ (by decide)
      obtain ⟨m, m1, m2, m3, m4⟩ := b4 a (by omega) (by omega)
      refine ⟨m, m1, ?_, ?_, fun c hc => ?_⟩
      · rw [ea]
        show nF n (opn σ (σ 19)) _ = _
        rw [nF_96 hp4 n hn, opn_hi hp4, if_neg hne, m2]
      · rw [hr _ (by omega), bkR_late (by omega) (by omega), show 96 + 6 * (a + 1) - 6 = 96 + 6 * a by omega, m3]
      · rw [ea, hr _ (by omega), bkR_late (by omega) (by omega), show 97 + 6 * (a + 1) + c - 6 = 97 + 6 * a + c by omega, ← m4 c hc]
        show nF n (opn σ (σ 19)) _ = _
        rw [nF_100 (by omega) n hn (fun c' hc' => by rw [p0]; omega), opn_100 (by omega)]
/-- the whole relation of a row of the class to one of the reference -/
def RR (n : Nat) (σ ρ : Row) : Prop := IR σ n (σ 6).toInt ∧ ZR σ n ∧ SH σ ρ ∧ (ρ 16 = tot ρ 11 ∧ ρ 17 = tot ρ 8) ∧ BK σ ρ
/-- a tick of the class's row -/
def ps (n : Nat) (σ : Row) : Row := upd (cF n σ) 6 (cF n σ 6 + 1)
def tk (n : Nat) (σ : Row) : Row := if (ps n σ 6).toInt % (12 * (ps n σ 3).toInt) = 0 then noo n (ps n σ) else ps n σ
theorem ps_6 {σ : Row} {n : Nat} : ps n σ 6 = σ 6 + 1 := by unfold ps; rw [upd_eq, cF_lit (by decide) (by decide) (by decide) (by decide) (by decide) (by decide) n]
theorem ps_IR {σ : Row} {n : Nat} (h : IR σ n (σ 6).toInt) (hb : (σ 6).toInt + 1 ≤ 200000) : IR (ps n σ) n ((σ 6).toInt + 1) ∧ (ps n σ 6).toInt = (σ 6).toInt + 1 := by
  have e6 : (ps n σ 6).toInt = (σ 6).toInt + 1 := by
    have := h.2.2.1
    rw [ps_6, t_add (by rw [i_1]; omega) (by rw [i_1]; omega), i_1]
  have hp := (cF_IP (IP.of h hb) n (Nat.le_refl _)).ir
  refine ⟨⟨⟨?_, h.1.2⟩, ST_of (fun i hi => ?_) hp.2.1, by rw [e6]; have := h.2.2.1; omega, fun c hc => ?_⟩, e6⟩
  · unfold ps; rw [upd_ne _ (by decide)]; exact hp.1.1
  · unfold ps; rw [upd_ne _ (by omega)]
  · have hh := hp.2.2.2 c hc
    have k : ∀ f, ps n σ (KI c f) = cF n σ (KI c f) := fun f => by unfold ps; rw [upd_ne _ (KI_sc (by decide))]
    unfold CB ld at *
    rw [k 0, k 1, k 2, k 3, k 4, k 5, k 7, k 9, k 13, k 14]
    exact hh
theorem ps_ZR {σ : Row} {n : Nat} (h : IR σ n (σ 6).toInt) (hb : (σ 6).toInt + 1 ≤ 200000) (hz : ZR σ n) : ZR (ps n σ) n := fun c f hc hc5 hf => by
  unfold ps
  rw [upd_ne _ (KI_sc (by decide)), cF_far (IP.of h hb) hc hf n (Nat.le_refl _)]
  exact hz c f hc hc5 hf
theorem BK_congr {σ σ' ρ ρ' : Row} (h : BK σ ρ) (h14 : σ' 14 = σ 14) (h6 : (σ 6).toInt ≤ (σ' 6).toInt) (hs : ∀ i, 95 ≤ i → σ' i = σ i) (hr : ∀ i, 95 ≤ i → ρ' i = ρ i) : BK σ' ρ' := by
  obtain ⟨b1, b2, b3⟩ := h
  have e : ∀ a, pl σ' a = pl σ a := fun a => by unfold pl; rw [h14]
  refine ⟨by rw [h14]; omega, by rw [h14, hr 95 (by decide)]; exact b2, fun a ha hal => ?_⟩
  rw [h14] at hal
  obtain ⟨m, m1, m2, m3, m4⟩ := b3 a ha hal
  exact ⟨m, m1, by rw [e, hs _ (by omega)]; exact m2, by rw [hr _ (by omega)]; exact m3, fun c hc => by rw [e, hs _ (by omega), hr _ (by omega)]; exact m4 c hc⟩
theorem tick_is {M : Nat → Nat → Int32} {σ : Row} {n : Nat} (h : RR n σ (M 0)) (hb : (σ 6).toInt + 1 ≤ 200000) :
    ∃ ρ', fM_tick M = some (cT n σ, mw M ρ') ∧ RR n (tk n σ) ρ' ∧ (tk n σ 6).toInt = (σ 6).toInt + 1 := by
  obtain ⟨hir, hz, hsh, ⟨ht1, ht2⟩, hbk⟩ := h
  have hn := hir.1.2
  obtain ⟨ρ1, p1, p2, p3, p4, p5, p6⟩ := pass_is (IP.of hir hb) hsh
  obtain ⟨q1, q2⟩ := ps_IR hir hb
  have q3 := ps_ZR hir hb hz
  have hsp : SH (ps n σ) ρ1 := p2
  have e14 : ps n σ 14 = σ 14 := by unfold ps; rw [upd_ne _ (by decide), cF_lit (by decide) (by decide) (by decide) (by decide) (by decide) (by decide) n]
  have hi : ∀ i, 95 ≤ i → ps n σ i = σ i := fun i hi => by unfold ps; rw [upd_ne _ (by omega), cF_hi (IP.of hir hb) hi n (Nat.le_refl _)]
  have bk1 : BK (ps n σ) ρ1 := BK_congr hbk e14 (by omega) hi p3
  have t1 : ρ1 16 = tot ρ1 11 := by rw [p4, p5, ht1]
  have t2 : ρ1 17 = tot ρ1 8 := p6 ht2
  have s6 := hsp.1 6 (by decide) (by decide) (by decide)
  have s3 := hsp.1 3 (by decide) (by decide) (by decide)
  have hho := q1.2.1.2.2.2.1
  have hno := misNoon_is (M := mw M ρ1) (by rw [mw_0, ← s6]; have := q1.2.2.1; omega) (by rw [mw_0, ← s3]; omega)
  have nn : nnP (mw M ρ1 0) ↔ (ps n σ 6).toInt % (12 * (ps n σ 3).toInt) = 0 := by unfold nnP; rw [mw_0, ← s6, ← s3]
  unfold fM_tick tk
  rw [p1, sb]
  dsimp only
  by_cases c : (ps n σ 6).toInt % (12 * (ps n σ 3).toInt) = 0
  · rw [hno.1 (nn.mpr c), sb, if_neg (by decide), if_pos c]
    have h19 : ρ1 19 = nI n := by rw [← hsp.1 19 (by decide) (by decide) (by decide)]; exact q1.1.1
    have hpp : ∀ k, k < n → 1 ≤ (ps n σ (KI k 2)).toInt := fun k hk => (q1.2.2.2 k hk).2.2.1.1
    have hpr : ∀ k, k < n → 1 ≤ (ρ1 (KI k 2)).toInt := fun k hk => by rw [← hsp.2 k 2 (by omega) (by decide)]; exact hpp k hk
    have b14 := bk1.1
    have n6 := q1.2.2.1
    unfold fM_noon
    rw [book_is (M := mw M ρ1) hn (by rw [mw_0]; exact h19) (by rw [mw_0, ← s6]; omega) (by rw [mw_0, ← s3]; omega) (fun k hk => by rw [mw_0]; exact hpr k hk), sb, mw_0, mw_mw]
    have hso : SH (nF 0 (opn (ps n σ) (ps n σ 19))) (bkR n ρ1) := by
      refine ⟨fun i hi h16 h17 => ?_, fun c' f hc' hf' => ?_⟩
      · show opn (ps n σ) (ps n σ 19) i = _
        by_cases e : i = 14
        · subst e; rw [opn_14, bkR_14, hsp.1 14 (by decide) (by decide) (by decide)]
        · rw [opn_lit (by omega) e, bkR_lo (by omega) e]; exact hsp.1 i hi h16 h17
      · show opn (ps n σ) (ps n σ 19) _ = _
        rw [opn_lit (KI_lt hc' hf') (KI_sc (by decide)), bkR_lo (KI_lt hc' hf') (KI_sc (by decide))]; exact hsp.2 c' f hc' hf'
    obtain ⟨ρ2, r1, r2, r3, r4, r5, r6⟩ := mnoon_L (M := M) (σ := opn (ps n σ) (ps n σ 19)) hn (by rw [opn_lit (by decide) (by decide)]; exact q1.1.1) (by rw [opn_lit (by decide) (by decide)]; omega) (by rw [opn_lit (by decide) (by decide)]; omega) (fun k hk => by rw [opn_lit (KI_lt (by omega) (by decide)) (KI_sc (by decide))]; exact hpp k hk) n 0 (bkR n ρ1) (by omega) hso fuel (by unfold fuel; omega)
    have ho6 : noo n (ps n σ) 6 = ps n σ 6 := by show nF n _ 6 = _; rw [nF_lit (by decide) (by decide) n hn, opn_lit (by decide) (by decide)]
    have b1416 : bkR n ρ1 16 = ρ1 16 := bkR_lo (by decide) (by decide)
    have b1417 : bkR n ρ1 17 = ρ1 17 := bkR_lo (by decide) (by decide)
    have bt : ∀ f, f < 15 → tot (bkR n ρ1) f = tot ρ1 f := fun f hf => tot_same (fun c' hc' => bkR_lo (KI_lt hc' hf) (KI_sc (by decide)))
    rw [show (0 : Int32) = nI 0 from rfl, r1, sb]
    refine ⟨ρ2, rfl, ⟨by rw [ho6, q2]; exact noo_IR q1, noo_ZR q3, r2, ⟨r6 (by rw [b1416, bt 11 (by decide)]; exact t1), by rw [r4, r5, b1417, bt 8 (by decide)]; exact t2⟩, ?_⟩, by rw [ho6, q2]⟩
    refine noo_BK hn hsp q1.1.1 bk1 ⟨?_, ?_⟩ r3
    · have := hbk.1; rw [e14]; omega
    · omega
  · rw [hno.2 (fun q => c (nn.mp q)), sb, if_pos rfl, if_neg c]
    exact ⟨ρ1, rfl, ⟨by rw [q2]; exact q1, q3, hsp, ⟨t1, t2⟩, bk1⟩, q2⟩
