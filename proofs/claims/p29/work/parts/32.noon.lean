/-! NOONS: the book, the truing -/
theorem floorMod4 {x : Int32} (h : 0 ≤ x.toInt) : fJ_floorMod x 4 = some (nI (x.toInt.toNat % 4)) := by
  unfold fJ_floorMod
  rw [show nz (4 : Int32) = true from rfl, gd_t, if_pos ((xor_pos (by decide)).mpr h)]
  congr 1
  have h4 : (4 : Int32).toInt = 4 := rfl
  have hd := t_divmul (x := x) (y := 4) (by decide)
  rw [h4, Int.tdiv_eq_ediv_of_nonneg h] at hd
  have hh := t_hi x
  rw [t_eq, t_sub (by rw [hd]; omega) (by rw [hd]; omega), hd, t_lit _ (by omega)]
  omega
def pl (σ : Row) (a : Nat) : Nat := ((σ 14).toInt.toNat - 1 - a) % 4
theorem place_is {σ : Row} {a : Nat} (h : (a : Int) < (σ 14).toInt) : fB_place σ (nI a) = some (nI (pl σ a)) := by
  have hh := t_hi (σ 14)
  have e1 : (σ 14 - 1).toInt = (σ 14).toInt - 1 := by rw [t_sub (by rw [i_1]; omega) (by rw [i_1]; omega), i_1]
  have ea := t_lit a (by omega)
  have e2 : (σ 14 - 1 - nI a).toInt = (σ 14).toInt - 1 - a := by rw [t_sub (by rw [e1, ea]; omega) (by rw [e1, ea]; omega), e1, ea]
  unfold fB_place pl
  rw [floorMod4 (by rw [e2]; omega), sb, e2]
  congr 2
  omega
theorem fput_is (σ : Row) {n off i : Nat} (v : Int32) (hn : n < 1000) (hi : i < n) : fX_put σ n off (nI i) v = some (upd σ (off + i) v) := by
  have h1 := t_lit i (by omega)
  have h2 : (Int32.ofNat n).toInt = n := t_lit n (by omega)
  unfold fX_put
  rw [if_neg (by rw [t_lt, h1, i_0]; omega), if_neg (by rw [t_le, h1, h2]; omega), inb_nI hi (by omega), gd_t, lt_is, cl_nI (by omega)]
theorem i_14 (σ : Row) (h : 0 ≤ (σ 14).toInt) (h2 : (σ 14).toInt ≤ 300000) : (σ 14 + 1).toInt = (σ 14).toInt + 1 := by
  rw [t_add (by rw [i_1]; omega) (by rw [i_1]; omega), i_1]
def opn (σ : Row) (x : Int32) : Row := upd (upd σ 14 (σ 14 + 1)) (96 + (σ 14).toInt.toNat % 4) x
theorem open_is {σ : Row} {x : Int32} (h : 0 ≤ (σ 14).toInt) (h2 : (σ 14).toInt ≤ 300000) : fB_open σ x = some (opn σ x) := by
  unfold fB_open
  have e := i_14 σ h h2
  rw [lt_is, show (0 : Int32) = nI 0 from rfl, place_is (by rw [upd_eq, e]; omega), sb, fput_is (i := pl (upd σ 14 (σ 14 + 1)) 0) _ _ (by decide) (Nat.mod_lt _ (by decide)), sb]
  unfold pl opn
  rw [upd_eq, e]
  have : ((σ 14).toInt + 1).toNat - 1 - 0 = (σ 14).toInt.toNat := by omega
  rw [this]
theorem write_is {σ : Row} {c : Nat} (v : Int32) (h : 0 < (σ 14).toInt) (hc : c < 5) : fB_write σ (nI c) v = some (upd σ (100 + (pl σ 0 * 5 + c)) v) := by
  unfold fB_write
  have hp : pl σ 0 < 4 := Nat.mod_lt _ (by decide)
  have e : nI (pl σ 0) * 5 + nI c = nI (pl σ 0 * 5 + c) := by
    have a1 := t_lit (pl σ 0) (by omega)
    have a2 := t_lit c (by omega)
    have a5 : (5 : Int32).toInt = 5 := rfl
    have a3 : (nI (pl σ 0) * 5).toInt = (pl σ 0 : Int) * 5 := by rw [t_mul (by rw [a1, a5]; omega) (by rw [a1, a5]; omega), a1, a5]
    rw [t_eq, t_add (by rw [a3, a2]; omega) (by rw [a3, a2]; omega), a3, a2, t_lit _ (by omega)]
    omega
  rw [show (0 : Int32) = nI 0 from rfl, place_is (by omega), sb, e, fput_is _ _ (by decide) (by omega), sb]
/-- a clock's noon -/
def nst (σ : Row) (k : Nat) : Row := if ab (er σ k) ≤ σ 4 then upd σ (100 + (pl σ 0 * 5 + k)) (er σ k) else if σ 5 = 1 then tru (upd (upd σ (100 + (pl σ 0 * 5 + k)) (er σ k)) 15 (σ 15 + 1)) k (th σ) else upd (upd σ (100 + (pl σ 0 * 5 + k)) (er σ k)) 15 (σ 15 + 1)
def nF : Nat → Row → Row
  | 0, σ => σ
  | k + 1, σ => nst (nF k σ) k
theorem dc_congr {s s' : Row} {k : Nat} (hk : ∀ f, f < 15 → s (KI k f) = s' (KI k f)) : dc s k = dc s' k := by
  unfold dc
  rw [hk 0 (by decide), hk 3 (by decide), hk 4 (by decide), hk 9 (by decide)]
theorem er_congr {s s' : Row} {k : Nat} (h6 : s 6 = s' 6) (h3 : s 3 = s' 3) (hk : ∀ f, f < 15 → s (KI k f) = s' (KI k f)) : er s k = er s' k := by
  unfold er ho th
  rw [dc_congr hk, hk 13 (by decide), hk 14 (by decide), hk 2 (by decide), h6, h3]
theorem KI_lt {c f : Nat} (hc : c < 5) (hf : f < 15) : KI c f < 95 := by unfold KI; omega
theorem tru_out {σ : Row} {k i : Nat} {h : Int32} (h13 : i ≠ KI k 13) (h14 : i ≠ KI k 14) (h11 : i ≠ KI k 11) : tru σ k h i = σ i := by
  unfold tru
  rw [upd_ne _ h11, upd_ne _ h14, upd_ne _ h13]
/-- what a clock's noon leaves as it is -/
theorem nst_out {σ : Row} {k i : Nat} (hk : k < 5) (h13 : i ≠ KI k 13) (h14 : i ≠ KI k 14) (h11 : i ≠ KI k 11) (h15 : i ≠ 15) (he : i ≠ 100 + (pl σ 0 * 5 + k)) : nst σ k i = σ i := by
  unfold nst
  split
  · rw [upd_ne _ he]
  · split
    · rw [tru_out h13 h14 h11, upd_ne _ h15, upd_ne _ he]
    · rw [upd_ne _ h15, upd_ne _ he]
theorem nst_lit {σ : Row} {k n : Nat} (hk : k < 5) (hn : n < 20) (h : n ≠ 15) : nst σ k n = σ n := nst_out hk (sc_KI hn) (sc_KI hn) (sc_KI hn) h (by omega)
theorem nst_c {σ : Row} {k c f : Nat} (hk : k < 5) (hc : c < 5) (hf : f < 15) (h : c ≠ k) : nst σ k (KI c f) = σ (KI c f) := by
  have n1 : ∀ g, g < 15 → KI c f ≠ KI k g := fun g hg q => h ((KI_eq_iff hf hg).mp q).1
  exact nst_out hk (n1 13 (by decide)) (n1 14 (by decide)) (n1 11 (by decide)) (KI_sc (by decide)) (by have := KI_lt hc hf; omega)
theorem nst_f {σ : Row} {k f : Nat} (hk : k < 5) (hf : f < 15) (h13 : f ≠ 13) (h14 : f ≠ 14) (h11 : f ≠ 11) : nst σ k (KI k f) = σ (KI k f) :=
  nst_out hk (KI_ne_f h13 hf (by decide)) (KI_ne_f h14 hf (by decide)) (KI_ne_f h11 hf (by decide)) (KI_sc (by decide)) (by have := KI_lt hk hf; omega)
theorem nst_pl {σ : Row} {k a : Nat} (hk : k < 5) : pl (nst σ k) a = pl σ a := by unfold pl; rw [nst_lit hk (by decide) (by decide)]
theorem nF_lit {σ : Row} {n : Nat} (hn : n < 20) (h : n ≠ 15) : ∀ k, k ≤ 5 → nF k σ n = σ n
  | 0, _ => rfl
  | k + 1, hk => by show nst (nF k σ) k n = _; rw [nst_lit (by omega) hn h, nF_lit hn h k (by omega)]
theorem nF_late {σ : Row} {c f : Nat} (hc : c < 5) (hf : f < 15) : ∀ k, k ≤ c → nF k σ (KI c f) = σ (KI c f)
  | 0, _ => rfl
  | k + 1, hk => by show nst (nF k σ) k (KI c f) = _; rw [nst_c (by omega) hc hf (by omega), nF_late hc hf k (by omega)]
theorem nF_er {σ : Row} {k : Nat} (hk : k < 5) : er (nF k σ) k = er σ k := er_congr (nF_lit (by decide) (by decide) k (by omega)) (nF_lit (by decide) (by decide) k (by omega)) (fun f hf => nF_late hk hf k (Nat.le_refl _))
theorem isOff_is (σ : Row) (e : Int32) : fS_isOff σ e = some (if ab e ≤ σ 4 then 0 else 1) := by
  unfold fS_isOff
  rw [abs_is, sb, some_if]
theorem noonComes_L {σ : Row} {n : Nat} (hn : n ≤ 5) (hc : σ 19 = nI n) (h14 : 0 < (σ 14).toInt) (h3 : 1 ≤ (σ 3).toInt) (hp : ∀ k, k < n → 1 ≤ (σ (KI k 2)).toInt) : ∀ (m k : Nat), k + m = n → ∀ fu, m < fu → fS_noonComes_L13 fu (nF k σ) (nI k) = some (nF n σ) := by
  intro m
  induction m with
  | zero =>
    intro k hk fu hf
    have e : k = n := by omega
    subst e
    obtain ⟨fu', rfl⟩ : ∃ q, fu = q + 1 := ⟨fu - 1, by omega⟩
    rw [fS_noonComes_L13, nF_lit (by decide) (by decide) k hn, hc, if_pos (by rw [t_le]; omega)]
  | succ m ih =>
    intro k hk fu hf
    obtain ⟨fu', rfl⟩ : ∃ q, fu = q + 1 := ⟨fu - 1, by omega⟩
    obtain ⟨q1, q2, q3⟩ := nI5 (show k < n by omega) hn
    have l : ∀ i, i < 20 → i ≠ 15 → nF k σ i = σ i := fun i hi h => nF_lit hi h k (by omega)
    have e2 : nF k σ (KI k 2) = σ (KI k 2) := nF_late (by omega) (by decide) k (Nat.le_refl _)
    rw [fS_noonComes_L13, l 19 (by decide) (by decide), hc, if_neg q2, if_neg q3, inb_nI (by omega) (by decide), gd_t, cl_nI (by omega), errorOf_is (by rw [e2]; exact hp k (by omega)) (by rw [l 3 (by decide) (by decide)]; exact h3), sb, write_is _ (by rw [l 14 (by decide) (by decide)]; exact h14) (by omega), sb, isOff_is, sb]
    have nx := ih (k + 1) (by omega) fu' (by omega)
    rw [nI_succ] at nx
    have hpl : pl (nF k σ) 0 < 4 := Nat.mod_lt _ (by decide)
    have r : ∀ i, i < 20 → upd (nF k σ) (100 + (pl (nF k σ) 0 * 5 + k)) (er (nF k σ) k) i = nF k σ i := fun i hi => upd_ne _ (by omega)
    rw [r 4 (by decide)]
    by_cases c : ab (er (nF k σ) k) ≤ nF k σ 4
    · rw [if_pos c, if_pos rfl]
      have : nF (k + 1) σ = upd (nF k σ) (100 + (pl (nF k σ) 0 * 5 + k)) (er (nF k σ) k) := by show nst (nF k σ) k = _; unfold nst; rw [if_pos c]
      rw [← this]; exact nx
    · rw [if_neg c, if_neg (by decide), lt_is, r 15 (by decide)]
      have r2 : ∀ i, i < 20 → i ≠ 15 → upd (upd (nF k σ) (100 + (pl (nF k σ) 0 * 5 + k)) (er (nF k σ) k)) 15 (nF k σ 15 + 1) i = nF k σ i := fun i hi h => by rw [upd_ne _ h, r i hi]
      rw [r2 5 (by decide) (by decide)]
      by_cases c5 : nF k σ 5 = 1
      · rw [if_pos c5, trueHour_is (by rw [r2 3 (by decide) (by decide), l 3 (by decide) (by decide)]; exact h3), sb, trueTo_is, sb]
        have et : th (upd (upd (nF k σ) (100 + (pl (nF k σ) 0 * 5 + k)) (er (nF k σ) k)) 15 (nF k σ 15 + 1)) = th (nF k σ) := by unfold th; rw [r2 6 (by decide) (by decide), r2 3 (by decide) (by decide)]
        have : nF (k + 1) σ = tru (upd (upd (nF k σ) (100 + (pl (nF k σ) 0 * 5 + k)) (er (nF k σ) k)) 15 (nF k σ 15 + 1)) k (th (nF k σ)) := by show nst (nF k σ) k = _; unfold nst; rw [if_neg c, if_pos c5]
        rw [et, ← this]; exact nx
      · rw [if_neg c5]
        have : nF (k + 1) σ = upd (upd (nF k σ) (100 + (pl (nF k σ) 0 * 5 + k)) (er (nF k σ) k)) 15 (nF k σ 15 + 1) := by show nst (nF k σ) k = _; unfold nst; rw [if_neg c, if_neg c5]
        rw [← this]; exact nx
/-- the class's noon -/
def noo (n : Nat) (σ : Row) : Row := nF n (opn σ (σ 19))
theorem opn_lit {σ : Row} {x : Int32} {i : Nat} (h : i < 95) (h14 : i ≠ 14) : opn σ x i = σ i := by
  unfold opn
  rw [upd_ne _ (by omega), upd_ne _ h14]
theorem opn_14 {σ : Row} {x : Int32} : opn σ x 14 = σ 14 + 1 := by
  unfold opn
  rw [upd_ne _ (by omega), upd_eq]
theorem noonComes_is {σ : Row} {n : Nat} (hn : n ≤ 5) (hc : σ 19 = nI n) (h14 : 0 ≤ (σ 14).toInt ∧ (σ 14).toInt ≤ 300000) (h3 : 1 ≤ (σ 3).toInt) (hp : ∀ k, k < n → 1 ≤ (σ (KI k 2)).toInt) : fS_noonComes σ = some (noo n σ) := by
  unfold fS_noonComes noo
  rw [open_is h14.1 h14.2, sb]
  exact noonComes_L (σ := opn σ (σ 19)) hn (by rw [opn_lit (by decide) (by decide)]; exact hc) (by rw [opn_14, i_14 σ h14.1 h14.2]; omega) (by rw [opn_lit (by decide) (by decide)]; exact h3) (fun k hk => by rw [opn_lit (KI_lt (by omega) (by decide)) (KI_sc (by decide))]; exact hp k hk) n 0 (by omega) fuel (by unfold fuel; omega)
