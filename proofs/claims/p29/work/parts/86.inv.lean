/-! WHAT HOLDS OF THE WATER: accounts, and a bound of the drops that went through -/
theorem ring_1 (a b c : Int32) : a + b - c = a - c + b := by grind
theorem tot_u {σ : Row} {t f : Nat} {x : Int32} (ht : t < 5) (hf : f < 15) : tot (upd σ (KI t f) x) f = tot σ f + (x - σ (KI t f)) :=
  tot_add ht (by rw [upd_eq]; grind) (fun c _ e => upd_ne _ (fun q => e ((KI_eq_iff hf hf).mp q).1))
theorem tot_o {σ : Row} {t f f' : Nat} {x : Int32} (h : f' ≠ f) (hf : f < 15) (hf' : f' < 15) : tot (upd σ (KI t f) x) f' = tot σ f' := tot_same (fun c _ => uK_f _ h hf' hf)
theorem tot_n {σ : Row} {i f : Nat} {x : Int32} (hi : i < 20) : tot (upd σ i x) f = tot σ f := tot_same (fun c _ => uS_K _ hi)
def Wt (σ : Row) : Int32 := tot σ 3 + tot σ 4 + σ 8 + σ 9
def Vt (σ : Row) : Int32 := σ 12 - tot σ 3
theorem ent_WV {s : Row} {t : Nat} {d : Int32} (ht : t < 5) : Wt (ent s t d) = Wt s + d ∧ Vt (ent s t d) = Vt s := by
  unfold ent Wt Vt
  simp only [tot_n (i := 9) (by decide), tot_n (i := 12) (by decide), tot_u (f := 3) ht (by decide), tot_o (f := 3) (f' := 4) (by decide) (by decide) (by decide)]
  simp only [upd_at, KI_lit1, Nat.reduceLT, Nat.reduceEqDiff, if_true, if_false]
  constructor <;> grind
theorem gon_WV {s : Row} {k : Nat} {d : Int32} (hl : ld s k < 5) : Wt (gon s k d) = Wt s + d ∧ Vt (gon s k d) = Vt s := by
  unfold gon
  split
  · unfold Wt Vt
    simp only [tot_n (i := 8) (by decide)]
    simp only [upd_at, Nat.reduceEqDiff, if_true, if_false]
    constructor <;> grind
  · exact ent_WV hl
theorem ris_WV {s : Row} {k : Nat} {d : Int32} (hk : k < 5) : Wt (ris s k d) = Wt s + d ∧ Vt (ris s k d) = Vt s := by
  unfold ris Wt Vt
  simp only [tot_n (i := 9) (by decide), tot_u (f := 4) hk (by decide), tot_o (f := 4) (f' := 3) (by decide) (by decide) (by decide)]
  simp only [upd_at, KI_lit1, Nat.reduceLT, Nat.reduceEqDiff, if_true, if_false]
  constructor <;> grind
theorem low_WV {s : Row} {k : Nat} {d : Int32} (hk : k < 5) : Wt (upd s (KI k 4) (s (KI k 4) + d)) = Wt s + d ∧ Vt (upd s (KI k 4) (s (KI k 4) + d)) = Vt s := by
  unfold Wt Vt
  simp only [tot_u (f := 4) hk (by decide), tot_o (f := 4) (f' := 3) (by decide) (by decide) (by decide)]
  simp only [upd_at, KI_lit1, Nat.reduceLT, if_false]
  constructor <;> grind
theorem skr_WV {s : Row} {k : Nat} (hk : k < 5) : Wt (skr s k) = Wt s - s (KI k 4) ∧ Vt (skr s k) = Vt s := by
  unfold skr Wt Vt
  simp only [tot_n (i := 13) (by decide), tot_o (f := 9) (f' := 3) (by decide) (by decide) (by decide), tot_o (f := 9) (f' := 4) (by decide) (by decide) (by decide), tot_o (f := 8) (f' := 3) (by decide) (by decide) (by decide), tot_o (f := 8) (f' := 4) (by decide) (by decide) (by decide), tot_u (f := 4) hk (by decide), tot_o (f := 4) (f' := 3) (by decide) (by decide) (by decide)]
  simp only [upd_at, KI_lit1, Nat.reduceLT, Nat.reduceEqDiff, if_false]
  constructor <;> grind
theorem aft_WV {s : Row} {k : Nat} {d : Int32} (hk : k < 5) (hl : ld s k < 5) : Wt (aft s k d) = Wt s + d ∧ Vt (aft s k d) = Vt s := by
  unfold aft
  split
  · exact gon_WV hl
  · split
    · exact ris_WV hk
    · split
      · have hl2 : ld (skr (upd s (KI k 4) (s (KI k 4) + d)) k) k < 5 := by
          unfold ld; rw [skr_at _ _ _ _ (by decide) (by decide) (by decide) (by decide), uK_f _ (by decide) (by decide) (by decide)]; exact hl
        obtain ⟨g1, g2⟩ := gon_WV (s := skr (upd s (KI k 4) (s (KI k 4) + d)) k) (k := k) (d := s (KI k 4) + d) hl2
        obtain ⟨s1, s2⟩ := skr_WV (s := upd s (KI k 4) (s (KI k 4) + d)) hk
        obtain ⟨l1, l2⟩ := low_WV (s := s) (d := d) hk
        rw [g1, g2, s1, s2, l1, l2, upd_eq]
        constructor
        · grind
        · rfl
      · exact low_WV hk
theorem wr_WV {s : Row} {k : Nat} : Wt (wr s k) = Wt s ∧ Vt (wr s k) = Vt s := by
  unfold wr w3 Wt Vt
  simp only [tot_o (f := 12) (f' := 3) (by decide) (by decide) (by decide), tot_o (f := 12) (f' := 4) (by decide) (by decide) (by decide), tot_o (f := 1) (f' := 3) (by decide) (by decide) (by decide), tot_o (f := 1) (f' := 4) (by decide) (by decide) (by decide), tot_o (f := 7) (f' := 3) (by decide) (by decide) (by decide), tot_o (f := 7) (f' := 4) (by decide) (by decide) (by decide)]
  simp only [upd_at, KI_lit1, Nat.reduceLT, if_false]
  exact ⟨trivial, trivial⟩
theorem s2_WV {σ : Row} {k : Nat} (hk : k < 5) : Wt (s2 σ k) = Wt σ - nd σ k ∧ Vt (s2 σ k) = Vt σ + nd σ k := by
  unfold s2 lt3 Wt Vt
  simp only [tot_n (i := 11) (by decide), tot_o (f := 7) (f' := 3) (by decide) (by decide) (by decide), tot_o (f := 7) (f' := 4) (by decide) (by decide) (by decide), tot_o (f := 6) (f' := 3) (by decide) (by decide) (by decide), tot_o (f := 6) (f' := 4) (by decide) (by decide) (by decide), tot_u (f := 3) hk (by decide), tot_o (f := 3) (f' := 4) (by decide) (by decide) (by decide)]
  simp only [upd_at, KI_lit1, Nat.reduceLT, Nat.reduceEqDiff, if_false]
  constructor <;> grind
/-- the accounts of water -/
def CO (σ : Row) : Prop := Vt σ = σ 11 ∧ σ 7 + Wt σ = 20000 ∧ σ 10 = 20000 - σ 7
theorem CO_of {σ σ' : Row} (h : CO σ) (hl : ∀ i, i < 20 → i ≠ 16 → i ≠ 17 → σ' i = σ i) (h3 : ∀ c, c < 5 → σ' (KI c 3) = σ (KI c 3)) (h4 : ∀ c, c < 5 → σ' (KI c 4) = σ (KI c 4)) : CO σ' := by
  unfold CO Vt Wt at *
  rw [tot_same (ρ' := σ') (ρ := σ) (f := 3) h3, tot_same (ρ' := σ') (ρ := σ) (f := 4) h4, hl 7 (by decide) (by decide) (by decide), hl 8 (by decide) (by decide) (by decide), hl 9 (by decide) (by decide) (by decide), hl 10 (by decide) (by decide) (by decide), hl 11 (by decide) (by decide) (by decide), hl 12 (by decide) (by decide) (by decide)]
  exact h
theorem cst_CO {σ : Row} {k : Nat} (hk : k < 5) (hl : ld σ k < 5) (h : CO σ) : CO (cst σ k) := by
  obtain ⟨h1, h2, h3⟩ := h
  have hl2 : ld (s2 σ k) k < 5 := by unfold ld; rw [s2_f _ _ _ _ (by decide) (by decide) (by decide) (by decide)]; exact hl
  obtain ⟨a1, a2⟩ := aft_WV (s := s2 σ k) (k := k) (d := nd σ k) hk hl2
  obtain ⟨b1, b2⟩ := s2_WV (σ := σ) hk
  obtain ⟨w1, w2⟩ := wr_WV (s := aft (s2 σ k) k (nd σ k)) (k := k)
  have c7 : cst σ k 7 = σ 7 := cst_lit σ k 7 (by decide) (by decide) (by decide) (by decide) (by decide) (by decide)
  have c10 : cst σ k 10 = σ 10 := cst_lit σ k 10 (by decide) (by decide) (by decide) (by decide) (by decide) (by decide)
  have c11 : cst σ k 11 = σ 11 + nd σ k := by
    rw [cst_is, wr_out (sc_KI (by decide)) (sc_KI (by decide)) (sc_KI (by decide)), aft_17 _ _ _ _ (by decide) (by decide) (by decide) (by decide) (by decide)]
    unfold s2; rw [upd_eq]
  unfold CO
  rw [c7, c10, c11, show Wt (cst σ k) = Wt σ by rw [cst_is, w1, a1, b1]; grind, show Vt (cst σ k) = Vt σ + nd σ k by rw [cst_is, w2, a2, b2], h1]
  exact ⟨rfl, h2, h3⟩
/-! the bound -/
def pot (σ : Row) : Int := ((σ (KI 0 6)).toInt + 5 * (σ (KI 0 3)).toInt + 4 * (σ (KI 0 4)).toInt) + ((σ (KI 1 6)).toInt + 4 * (σ (KI 1 3)).toInt + 3 * (σ (KI 1 4)).toInt) + ((σ (KI 2 6)).toInt + 3 * (σ (KI 2 3)).toInt + 2 * (σ (KI 2 4)).toInt) + ((σ (KI 3 6)).toInt + 2 * (σ (KI 3 3)).toInt + 1 * (σ (KI 3 4)).toInt) + ((σ (KI 4 6)).toInt + 1 * (σ (KI 4 3)).toInt)
theorem pot_o {σ : Row} {i : Nat} {x : Int32} (h3 : ∀ c, i ≠ KI c 3) (h4 : ∀ c, i ≠ KI c 4) (h6 : ∀ c, i ≠ KI c 6) : pot (upd σ i x) = pot σ := by
  unfold pot
  simp only [upd_ne x (Ne.symm (h3 _)), upd_ne x (Ne.symm (h4 _)), upd_ne x (Ne.symm (h6 _))]
theorem pot_3 {σ : Row} {t : Nat} {x : Int32} (ht : t < 5) : pot (upd σ (KI t 3) x) = pot σ + (5 - (t : Int)) * (x.toInt - (σ (KI t 3)).toInt) := by
  unfold pot
  rcases (show t = 0 ∨ t = 1 ∨ t = 2 ∨ t = 3 ∨ t = 4 by omega) with rfl | rfl | rfl | rfl | rfl <;> simp only [upd_at, KI_KI, Nat.reduceLT, Nat.reduceEqDiff, and_true, and_false, if_true, if_false] <;> omega
theorem pot_4 {σ : Row} {t : Nat} {x : Int32} (ht : t < 5) : pot (upd σ (KI t 4) x) = pot σ + (4 - (t : Int)) * (x.toInt - (σ (KI t 4)).toInt) := by
  unfold pot
  rcases (show t = 0 ∨ t = 1 ∨ t = 2 ∨ t = 3 ∨ t = 4 by omega) with rfl | rfl | rfl | rfl | rfl <;> simp only [upd_at, KI_KI, Nat.reduceLT, Nat.reduceEqDiff, and_true, and_false, if_true, if_false] <;> omega
theorem pot_6 {σ : Row} {t : Nat} {x : Int32} (ht : t < 5) : pot (upd σ (KI t 6) x) = pot σ + (x.toInt - (σ (KI t 6)).toInt) := by
  unfold pot
  rcases (show t = 0 ∨ t = 1 ∨ t = 2 ∨ t = 3 ∨ t = 4 by omega) with rfl | rfl | rfl | rfl | rfl <;> simp only [upd_at, KI_KI, Nat.reduceLT, Nat.reduceEqDiff, and_true, and_false, if_true, if_false] <;> omega
theorem pot_same {σ σ' : Row} (h3 : ∀ c, c < 5 → σ' (KI c 3) = σ (KI c 3)) (h4 : ∀ c, c < 5 → σ' (KI c 4) = σ (KI c 4)) (h6 : ∀ c, c < 5 → σ' (KI c 6) = σ (KI c 6)) : pot σ' = pot σ := by
  unfold pot
  rw [h3 0 (by decide), h3 1 (by decide), h3 2 (by decide), h3 3 (by decide), h3 4 (by decide), h4 0 (by decide), h4 1 (by decide), h4 2 (by decide), h4 3 (by decide), h6 0 (by decide), h6 1 (by decide), h6 2 (by decide), h6 3 (by decide), h6 4 (by decide)]
theorem mul_w {k t : Nat} {d m : Int} (hk : k < 5) (ht : t < 5) (hkt : k < t) (hm : 0 ≤ m) (hd : m ≤ d) : (5 - (t : Int)) * m ≤ (4 - (k : Int)) * d := by
  rcases (show k = 0 ∨ k = 1 ∨ k = 2 ∨ k = 3 by omega) with rfl | rfl | rfl | rfl <;> rcases (show t = 1 ∨ t = 2 ∨ t = 3 ∨ t = 4 by omega) with rfl | rfl | rfl | rfl <;> omega
theorem mul_w4 {k : Nat} {d m : Int} (hk : k < 5) (hm : 0 ≤ m) (hd : m ≤ d) : (4 - (k : Int)) * m ≤ (4 - (k : Int)) * d := by
  rcases (show k = 0 ∨ k = 1 ∨ k = 2 ∨ k = 3 ∨ k = 4 by omega) with rfl | rfl | rfl | rfl | rfl <;> omega
theorem gon_pot {s : Row} {k : Nat} {d : Int32} (hk : k < 5) (hl : ld s k < 5) (hkl : k ≤ ld s k) (h0 : 0 ≤ (s 0).toInt ∧ (s 0).toInt ≤ 5000) (hu : 0 ≤ (s (KI (ld s k) 3)).toInt ∧ (s (KI (ld s k) 3)).toInt ≤ 5000) (hd : 0 ≤ d.toInt ∧ d.toInt ≤ 20000) : pot (gon s k d) ≤ pot s + (4 - (k : Int)) * d.toInt := by
  have nn : 0 ≤ (4 - (k : Int)) * d.toInt := Int.mul_nonneg (by omega) hd.1
  unfold gon
  by_cases c : ld s k = k
  · rw [if_pos c, pot_o (fun _ => sc_KI (by decide)) (fun _ => sc_KI (by decide)) (fun _ => sc_KI (by decide))]; omega
  · rw [if_neg c]
    unfold ent
    rw [pot_o (fun _ => sc_KI (by decide)) (fun _ => sc_KI (by decide)) (fun _ => sc_KI (by decide)), pot_o (fun _ => sc_KI (by decide)) (fun _ => sc_KI (by decide)) (fun _ => sc_KI (by decide)), pot_3 hl]
    have er := rm_i h0 hu
    have em := mn_i d (rm (s 0) (s (KI (ld s k) 3)))
    rw [t_add (by omega) (by omega), show (s (KI (ld s k) 3)).toInt + (mn d (rm (s 0) (s (KI (ld s k) 3)))).toInt - (s (KI (ld s k) 3)).toInt = (mn d (rm (s 0) (s (KI (ld s k) 3)))).toInt by omega]
    have := mul_w (k := k) (t := ld s k) (d := d.toInt) (m := (mn d (rm (s 0) (s (KI (ld s k) 3)))).toInt) hk hl (by omega) (by omega) (by omega)
    omega
theorem aft_pot {s : Row} {k : Nat} {d : Int32} (hk : k < 5) (hl : ld s k < 5) (hkl : k ≤ ld s k) (h0 : 0 ≤ (s 0).toInt ∧ (s 0).toInt ≤ 5000) (hu : 0 ≤ (s (KI (ld s k) 3)).toInt ∧ (s (KI (ld s k) 3)).toInt ≤ 5000) (hd : 0 ≤ d.toInt ∧ d.toInt ≤ 5000) (h4 : 0 ≤ (s (KI k 4)).toInt ∧ (s (KI k 4)).toInt ≤ 5000) : pot (aft s k d) ≤ pot s + (4 - (k : Int)) * d.toInt := by
  have es : (s (KI k 4) + d).toInt = (s (KI k 4)).toInt + d.toInt := t_add (by omega) (by omega)
  have elow : pot (upd s (KI k 4) (s (KI k 4) + d)) = pot s + (4 - (k : Int)) * d.toInt := by
    rw [pot_4 hk, es, show (s (KI k 4)).toInt + d.toInt - (s (KI k 4)).toInt = d.toInt by omega]
  unfold aft
  split
  · exact gon_pot hk hl hkl h0 hu ⟨hd.1, by omega⟩
  · split
    · unfold ris
      rw [pot_o (fun _ => sc_KI (by decide)) (fun _ => sc_KI (by decide)) (fun _ => sc_KI (by decide)), pot_4 hk]
      have er := rm_i h0 h4
      have em := mn_i d (rm (s 0) (s (KI k 4)))
      rw [t_add (by omega) (by omega), show (s (KI k 4)).toInt + (mn d (rm (s 0) (s (KI k 4)))).toInt - (s (KI k 4)).toInt = (mn d (rm (s 0) (s (KI k 4)))).toInt by omega]
      have := mul_w4 (k := k) (d := d.toInt) (m := (mn d (rm (s 0) (s (KI k 4)))).toInt) hk (by omega) (by omega)
      omega
    · split
      · have hK : ∀ f, f < 15 → f ≠ 4 → f ≠ 8 → f ≠ 9 → ∀ c, skr (upd s (KI k 4) (s (KI k 4) + d)) k (KI c f) = s (KI c f) := fun f hf g4 g8 g9 c => by rw [skr_at _ _ _ _ g4 g8 g9 hf, uK_f _ g4 hf (by decide)]
        have e0 : skr (upd s (KI k 4) (s (KI k 4) + d)) k 0 = s 0 := by simp [skr, upd_at, KI_lit1]
        have el : ld (skr (upd s (KI k 4) (s (KI k 4) + d)) k) k = ld s k := by unfold ld; rw [hK 5 (by decide) (by decide) (by decide) (by decide)]
        have ep : pot (skr (upd s (KI k 4) (s (KI k 4) + d)) k) = pot s - (4 - (k : Int)) * (s (KI k 4)).toInt := by
          unfold skr
          rw [pot_o (fun _ => sc_KI (by decide)) (fun _ => sc_KI (by decide)) (fun _ => sc_KI (by decide)), pot_o (fun _ => KI_ne_f (by decide) (by decide) (by decide)) (fun _ => KI_ne_f (by decide) (by decide) (by decide)) (fun _ => KI_ne_f (by decide) (by decide) (by decide)), pot_o (fun _ => KI_ne_f (by decide) (by decide) (by decide)) (fun _ => KI_ne_f (by decide) (by decide) (by decide)) (fun _ => KI_ne_f (by decide) (by decide) (by decide)), pot_4 hk, elow, upd_eq, es, i_0, Int.zero_sub, Int.mul_neg, Int.mul_add]
          omega
        have := gon_pot (s := skr (upd s (KI k 4) (s (KI k 4) + d)) k) (k := k) (d := s (KI k 4) + d) hk (by rw [el]; exact hl) (by rw [el]; exact hkl) (by rw [e0]; exact h0) (by rw [el, hK 3 (by decide) (by decide) (by decide) (by decide)]; exact hu) (by rw [es]; omega)
        rw [ep, es, Int.mul_add] at this
        omega
      · exact Int.le_of_eq elow
