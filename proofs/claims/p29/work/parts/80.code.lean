/-! THE LAW'S NUMBERS as a row of the reference: a code of its arrays -/
def fld (u v : Row) (f c : Nat) : Int32 := match f with
  | 0 => u (20 + c)
  | 1 => u (10 + c)
  | 2 => u (15 + c)
  | 3 => u (0 + c)
  | 4 => u (5 + c)
  | 5 => u (25 + c)
  | 6 => u (30 + c)
  | 7 => v (0 + c)
  | 8 => v (5 + c)
  | 9 => v (10 + c)
  | 10 => v (15 + c)
  | 11 => v (20 + c)
  | 12 => v (25 + c)
  | 13 => v (30 + c)
  | _ => v (35 + c)
def asc (a : Row) (g : Int32) (i : Nat) : Int32 := if i < 12 then a i else if i = 12 then g else a (i - 1)
def dec (a u v β : Row) (g : Int32) : Row := fun i => if i < 20 then asc a g i else if i < 95 then fld u v ((i - 20) % 15) ((i - 20) / 15) else β (i - 95)
theorem dec_s {a u v β : Row} {g : Int32} {i : Nat} (h : i < 20) : dec a u v β g i = asc a g i := if_pos h
theorem dec_lo {a u v β : Row} {g : Int32} {i : Nat} (h : i < 12) : dec a u v β g i = a i := by rw [dec_s (by omega)]; unfold asc; rw [if_pos h]
theorem dec_12 {a u v β : Row} {g : Int32} : dec a u v β g 12 = g := rfl
theorem dec_up {a u v β : Row} {g : Int32} {i : Nat} (h : 12 ≤ i) (h2 : i < 19) : dec a u v β g (i + 1) = a i := by rw [dec_s (by omega)]; unfold asc; rw [if_neg (by omega), if_neg (by omega)]; rfl
theorem dec_k {a u v β : Row} {g : Int32} {c f : Nat} (hc : c < 5) (hf : f < 15) : dec a u v β g (KI c f) = fld u v f c := by
  unfold dec KI
  rw [if_neg (by omega), if_pos (by omega), show (20 + 15 * c + f - 20) % 15 = f by omega, show (20 + 15 * c + f - 20) / 15 = c by omega]
theorem dec_b {a u v β : Row} {g : Int32} {j : Nat} : dec a u v β g (95 + j) = β j := by
  unfold dec
  rw [if_neg (by omega), if_neg (by omega), show 95 + j - 95 = j by omega]
theorem dec_b' {a u v β : Row} {g : Int32} {i : Nat} (h : 95 ≤ i) : dec a u v β g i = β (i - 95) := by
  unfold dec
  rw [if_neg (by omega), if_neg (by omega)]
/-- what is stored in a -/
theorem dec_a {a u v β : Row} {g : Int32} {i j : Nat} (x : Int32) (h : (i < 12 ∧ j = i) ∨ (12 ≤ i ∧ i < 19 ∧ j = i + 1)) : dec (upd a i x) u v β g = upd (dec a u v β g) j x := by
  funext q
  unfold dec
  rw [upd_at]
  by_cases q20 : q < 20
  · rw [if_pos q20]
    unfold asc
    rw [upd_at, upd_at]
    by_cases e : q = j
    · rw [if_pos e]
      by_cases q12 : q < 12
      · rw [if_pos q12, if_pos (by omega)]
      · rw [if_neg q12, if_neg (by omega), if_pos (by omega)]
    · rw [if_neg e, if_pos q20]
      by_cases q12 : q < 12
      · rw [if_pos q12, if_pos q12, if_neg (by omega)]
      · rw [if_neg q12, if_neg q12]
        by_cases q1 : q = 12
        · rw [if_pos q1, if_pos q1]
        · rw [if_neg q1, if_neg q1, if_neg (by omega)]
  · rw [if_neg q20, if_neg q20, if_neg (show ¬ q = j by omega)]
theorem dec_g {a u v β : Row} {g g' : Int32} : dec a u v β g' = upd (dec a u v β g) 12 g' := by
  funext q
  unfold dec
  rw [upd_at]
  by_cases q20 : q < 20
  · rw [if_pos q20, if_pos q20]
    unfold asc
    by_cases e : q = 12
    · rw [if_neg (show ¬ q < 12 by omega), if_pos e, if_pos e]
    · by_cases q12 : q < 12
      · rw [if_pos q12, if_pos q12, if_neg e]
      · rw [if_neg q12, if_neg q12, if_neg e, if_neg e, if_neg e]
  · rw [if_neg q20, if_neg q20, if_neg (show ¬ q = 12 by omega)]
theorem dec_fld {a u v u' v' β : Row} {g : Int32} {c f : Nat} {x : Int32} (hc : c < 5) (hf : f < 15) (h : ∀ f' c', f' < 15 → c' < 5 → fld u' v' f' c' = if f' = f ∧ c' = c then x else fld u v f' c') : dec a u' v' β g = upd (dec a u v β g) (KI c f) x := by
  funext q
  rw [upd_at]
  by_cases q20 : q < 20
  · rw [if_neg (by unfold KI; omega), dec_s q20, dec_s q20]
  · by_cases q95 : q < 95
    · have e : q = KI ((q - 20) / 15) ((q - 20) % 15) := by unfold KI; omega
      have h1 : (q - 20) / 15 < 5 := by omega
      have h2 : (q - 20) % 15 < 15 := by omega
      generalize (q - 20) / 15 = c' at *
      generalize (q - 20) % 15 = f' at *
      subst e
      rw [dec_k h1 h2, dec_k h1 h2, h f' c' h2 h1]
      by_cases e : f' = f ∧ c' = c
      · rw [if_pos e, if_pos (by rw [e.1, e.2])]
      · rw [if_neg e, if_neg (fun q => e ⟨((KI_eq_iff h2 hf).mp q).2, ((KI_eq_iff h2 hf).mp q).1⟩)]
    · rw [if_neg (by unfold KI; omega)]
      unfold dec
      rw [if_neg q20, if_neg q95, if_neg q20, if_neg q95]
def uo (f : Nat) : Nat := match f with
  | 0 => 20
  | 1 => 10
  | 2 => 15
  | 3 => 0
  | 4 => 5
  | 5 => 25
  | _ => 30
def vo (f : Nat) : Nat := match f with
  | 7 => 0
  | 8 => 5
  | 9 => 10
  | 10 => 15
  | 11 => 20
  | 12 => 25
  | 13 => 30
  | _ => 35
theorem fld_u {u v : Row} {f c : Nat} (hf : f < 7) : fld u v f c = u (uo f + c) := by
  rcases (show f = 0 ∨ f = 1 ∨ f = 2 ∨ f = 3 ∨ f = 4 ∨ f = 5 ∨ f = 6 by omega) with rfl | rfl | rfl | rfl | rfl | rfl | rfl <;> rfl
theorem fld_v {u v : Row} {f c : Nat} (hf : 7 ≤ f) (h2 : f < 15) : fld u v f c = v (vo f + c) := by
  rcases (show f = 7 ∨ f = 8 ∨ f = 9 ∨ f = 10 ∨ f = 11 ∨ f = 12 ∨ f = 13 ∨ f = 14 by omega) with rfl | rfl | rfl | rfl | rfl | rfl | rfl | rfl <;> rfl
theorem uo_inj : ∀ f, f < 7 → ∀ f', f' < 7 → ∀ c, c < 5 → ∀ c', c' < 5 → (uo f' + c' = uo f + c ↔ f' = f ∧ c' = c) := by decide +kernel
theorem vo_inj8 : ∀ f, f < 8 → ∀ f', f' < 8 → ∀ c, c < 5 → ∀ c', c' < 5 → (vo (7 + f') + c' = vo (7 + f) + c ↔ f' = f ∧ c' = c) := by decide +kernel
theorem vo_inj (f : Nat) (h1 : f < 15) (h2 : 7 ≤ f) (f' : Nat) (h3 : f' < 15) (h4 : 7 ≤ f') (c : Nat) (hc : c < 5) (c' : Nat) (hc' : c' < 5) : (vo f' + c' = vo f + c ↔ f' = f ∧ c' = c) := by
  have := vo_inj8 (f - 7) (by omega) (f' - 7) (by omega) c hc c' hc'
  rw [show 7 + (f' - 7) = f' by omega, show 7 + (f - 7) = f by omega] at this
  rw [this]
  omega
theorem ifc {α : Type} {p q : Prop} [Decidable p] [Decidable q] (h : p ↔ q) (a b : α) : (if p then a else b) = if q then a else b := by
  by_cases e : p
  · rw [if_pos e, if_pos (h.mp e)]
  · rw [if_neg e, if_neg (fun z => e (h.mpr z))]
theorem dec_u {a u v β : Row} {g : Int32} (f c : Nat) (x : Int32) (hf : f < 7) (hc : c < 5) : dec a (upd u (uo f + c) x) v β g = upd (dec a u v β g) (KI c f) x := by
  refine dec_fld hc (by omega) (fun f' c' hf' hc' => ?_)
  by_cases h7 : f' < 7
  · rw [fld_u h7, fld_u h7, upd_at]
    exact ifc (uo_inj f hf f' h7 c hc c' hc') _ _
  · rw [fld_v (by omega) hf', fld_v (by omega) hf', if_neg (by omega)]
theorem dec_v {a u v β : Row} {g : Int32} (f c : Nat) (x : Int32) (hf : f < 15) (h7' : 7 ≤ f) (hc : c < 5) : dec a u (upd v (vo f + c) x) β g = upd (dec a u v β g) (KI c f) x := by
  refine dec_fld hc hf (fun f' c' hf' hc' => ?_)
  by_cases h7 : f' < 7
  · rw [fld_u h7, fld_u h7, if_neg (by omega)]
  · rw [fld_v (by omega) hf', fld_v (by omega) hf', upd_at]
    exact ifc (vo_inj f hf h7' f' hf' (by omega) c hc c' hc') _ _
theorem du_0 {a u v β : Row} {g : Int32} {c : Nat} (x : Int32) (hc : c < 5) : dec a (upd u (20 + c) x) v β g = upd (dec a u v β g) (KI c 0) x := dec_u 0 c x (by decide) hc
theorem du_1 {a u v β : Row} {g : Int32} {c : Nat} (x : Int32) (hc : c < 5) : dec a (upd u (10 + c) x) v β g = upd (dec a u v β g) (KI c 1) x := dec_u 1 c x (by decide) hc
theorem du_2 {a u v β : Row} {g : Int32} {c : Nat} (x : Int32) (hc : c < 5) : dec a (upd u (15 + c) x) v β g = upd (dec a u v β g) (KI c 2) x := dec_u 2 c x (by decide) hc
theorem du_3 {a u v β : Row} {g : Int32} {c : Nat} (x : Int32) (hc : c < 5) : dec a (upd u c x) v β g = upd (dec a u v β g) (KI c 3) x := by have := dec_u (a := a) (u := u) (v := v) (β := β) (g := g) 3 c x (by decide) hc; rw [show uo 3 + c = c from Nat.zero_add c] at this; exact this
theorem du_4 {a u v β : Row} {g : Int32} {c : Nat} (x : Int32) (hc : c < 5) : dec a (upd u (5 + c) x) v β g = upd (dec a u v β g) (KI c 4) x := dec_u 4 c x (by decide) hc
theorem du_5 {a u v β : Row} {g : Int32} {c : Nat} (x : Int32) (hc : c < 5) : dec a (upd u (25 + c) x) v β g = upd (dec a u v β g) (KI c 5) x := dec_u 5 c x (by decide) hc
theorem du_6 {a u v β : Row} {g : Int32} {c : Nat} (x : Int32) (hc : c < 5) : dec a (upd u (30 + c) x) v β g = upd (dec a u v β g) (KI c 6) x := dec_u 6 c x (by decide) hc
theorem dv_7 {a u v β : Row} {g : Int32} {c : Nat} (x : Int32) (hc : c < 5) : dec a u (upd v c x) β g = upd (dec a u v β g) (KI c 7) x := by have := dec_v (a := a) (u := u) (v := v) (β := β) (g := g) 7 c x (by decide) (by decide) hc; rw [show vo 7 + c = c from Nat.zero_add c] at this; exact this
theorem dv_8 {a u v β : Row} {g : Int32} {c : Nat} (x : Int32) (hc : c < 5) : dec a u (upd v (5 + c) x) β g = upd (dec a u v β g) (KI c 8) x := dec_v 8 c x (by decide) (by decide) hc
theorem dv_9 {a u v β : Row} {g : Int32} {c : Nat} (x : Int32) (hc : c < 5) : dec a u (upd v (10 + c) x) β g = upd (dec a u v β g) (KI c 9) x := dec_v 9 c x (by decide) (by decide) hc
theorem dv_10 {a u v β : Row} {g : Int32} {c : Nat} (x : Int32) (hc : c < 5) : dec a u (upd v (15 + c) x) β g = upd (dec a u v β g) (KI c 10) x := dec_v 10 c x (by decide) (by decide) hc
theorem dv_11 {a u v β : Row} {g : Int32} {c : Nat} (x : Int32) (hc : c < 5) : dec a u (upd v (20 + c) x) β g = upd (dec a u v β g) (KI c 11) x := dec_v 11 c x (by decide) (by decide) hc
theorem dv_12 {a u v β : Row} {g : Int32} {c : Nat} (x : Int32) (hc : c < 5) : dec a u (upd v (25 + c) x) β g = upd (dec a u v β g) (KI c 12) x := dec_v 12 c x (by decide) (by decide) hc
theorem dv_13 {a u v β : Row} {g : Int32} {c : Nat} (x : Int32) (hc : c < 5) : dec a u (upd v (30 + c) x) β g = upd (dec a u v β g) (KI c 13) x := dec_v 13 c x (by decide) (by decide) hc
theorem dv_14 {a u v β : Row} {g : Int32} {c : Nat} (x : Int32) (hc : c < 5) : dec a u (upd v (35 + c) x) β g = upd (dec a u v β g) (KI c 14) x := dec_v 14 c x (by decide) (by decide) hc
theorem rd_0 (a u v β : Row) (g : Int32) {c : Nat} (hc : c < 5) : u (20 + c) = dec a u v β g (KI c 0) := (dec_k (f := 0) hc (by decide)).symm
theorem rd_1 (a u v β : Row) (g : Int32) {c : Nat} (hc : c < 5) : u (10 + c) = dec a u v β g (KI c 1) := (dec_k (f := 1) hc (by decide)).symm
theorem rd_2 (a u v β : Row) (g : Int32) {c : Nat} (hc : c < 5) : u (15 + c) = dec a u v β g (KI c 2) := (dec_k (f := 2) hc (by decide)).symm
theorem rd_3 (a u v β : Row) (g : Int32) {c : Nat} (hc : c < 5) : u c = dec a u v β g (KI c 3) := by rw [dec_k hc (by decide)]; show u c = u (0 + c); rw [Nat.zero_add]
theorem rd_4 (a u v β : Row) (g : Int32) {c : Nat} (hc : c < 5) : u (5 + c) = dec a u v β g (KI c 4) := (dec_k (f := 4) hc (by decide)).symm
theorem rd_5 (a u v β : Row) (g : Int32) {c : Nat} (hc : c < 5) : u (25 + c) = dec a u v β g (KI c 5) := (dec_k (f := 5) hc (by decide)).symm
theorem rd_6 (a u v β : Row) (g : Int32) {c : Nat} (hc : c < 5) : u (30 + c) = dec a u v β g (KI c 6) := (dec_k (f := 6) hc (by decide)).symm
theorem re_7 (a u v β : Row) (g : Int32) {c : Nat} (hc : c < 5) : v c = dec a u v β g (KI c 7) := by rw [dec_k hc (by decide)]; show v c = v (0 + c); rw [Nat.zero_add]
theorem re_8 (a u v β : Row) (g : Int32) {c : Nat} (hc : c < 5) : v (5 + c) = dec a u v β g (KI c 8) := (dec_k (f := 8) hc (by decide)).symm
theorem re_9 (a u v β : Row) (g : Int32) {c : Nat} (hc : c < 5) : v (10 + c) = dec a u v β g (KI c 9) := (dec_k (f := 9) hc (by decide)).symm
theorem re_10 (a u v β : Row) (g : Int32) {c : Nat} (hc : c < 5) : v (15 + c) = dec a u v β g (KI c 10) := (dec_k (f := 10) hc (by decide)).symm
theorem re_11 (a u v β : Row) (g : Int32) {c : Nat} (hc : c < 5) : v (20 + c) = dec a u v β g (KI c 11) := (dec_k (f := 11) hc (by decide)).symm
theorem re_12 (a u v β : Row) (g : Int32) {c : Nat} (hc : c < 5) : v (25 + c) = dec a u v β g (KI c 12) := (dec_k (f := 12) hc (by decide)).symm
theorem re_13 (a u v β : Row) (g : Int32) {c : Nat} (hc : c < 5) : v (30 + c) = dec a u v β g (KI c 13) := (dec_k (f := 13) hc (by decide)).symm
theorem re_14 (a u v β : Row) (g : Int32) {c : Nat} (hc : c < 5) : v (35 + c) = dec a u v β g (KI c 14) := (dec_k (f := 14) hc (by decide)).symm
/-! three rows of the law -/
def L3 (r1 r2 r3 : Nat) (N : Nat → Nat → Int32) (a u v : Row) : Nat → Nat → Int32 := updA (updA (updA N r1 a) r2 u) r3 v
def DS (r1 r2 r3 : Nat) : Prop := r1 ≠ r2 ∧ r1 ≠ r3 ∧ r2 ≠ r3
theorem L3_1 {r1 r2 r3 : Nat} (h : DS r1 r2 r3) {N : Nat → Nat → Int32} {a u v : Row} : L3 r1 r2 r3 N a u v r1 = a := by unfold L3; rw [updA_ne _ h.2.1, updA_ne _ h.1, updA_same]
theorem L3_2 {r1 r2 r3 : Nat} (h : DS r1 r2 r3) {N : Nat → Nat → Int32} {a u v : Row} : L3 r1 r2 r3 N a u v r2 = u := by unfold L3; rw [updA_ne _ h.2.2, updA_same]
theorem L3_3 {r1 r2 r3 : Nat} {N : Nat → Nat → Int32} {a u v : Row} : L3 r1 r2 r3 N a u v r3 = v := by unfold L3; rw [updA_same]
theorem L3_o {r1 r2 r3 : Nat} {N : Nat → Nat → Int32} {a u v : Row} {q : Nat} (h1 : q ≠ r1) (h2 : q ≠ r2) (h3 : q ≠ r3) : L3 r1 r2 r3 N a u v q = N q := by unfold L3; rw [updA_ne _ h3, updA_ne _ h2, updA_ne _ h1]
theorem L3_s1 {r1 r2 r3 : Nat} (h : DS r1 r2 r3) {N : Nat → Nat → Int32} {a u v : Row} {i : Nat} {x : Int32} : setC (L3 r1 r2 r3 N a u v) r1 i x = L3 r1 r2 r3 N (upd a i x) u v := by
  unfold setC
  rw [L3_1 h]
  funext q
  unfold L3 updA
  by_cases e1 : q = r1
  · subst e1; rw [if_pos rfl, if_neg h.2.1, if_neg h.1, if_pos rfl]
  · rw [if_neg e1]
    by_cases e3 : q = r3
    · rw [if_pos e3, if_pos e3]
    · rw [if_neg e3, if_neg e3]
      by_cases e2 : q = r2
      · rw [if_pos e2, if_pos e2]
      · rw [if_neg e2, if_neg e2, if_neg e1, if_neg e1]
theorem L3_s2 {r1 r2 r3 : Nat} (h : DS r1 r2 r3) {N : Nat → Nat → Int32} {a u v : Row} {i : Nat} {x : Int32} : setC (L3 r1 r2 r3 N a u v) r2 i x = L3 r1 r2 r3 N a (upd u i x) v := by
  unfold setC
  rw [L3_2 h]
  funext q
  unfold L3 updA
  by_cases e2 : q = r2
  · subst e2; rw [if_pos rfl, if_neg h.2.2, if_pos rfl]
  · rw [if_neg e2]
    by_cases e3 : q = r3
    · rw [if_pos e3, if_pos e3]
    · rw [if_neg e3, if_neg e3, if_neg e2, if_neg e2]
theorem L3_s3 {r1 r2 r3 : Nat} {N : Nat → Nat → Int32} {a u v : Row} {i : Nat} {x : Int32} : setC (L3 r1 r2 r3 N a u v) r3 i x = L3 r1 r2 r3 N a u (upd v i x) := by
  unfold setC
  rw [L3_3]
  funext q
  unfold L3 updA
  by_cases e3 : q = r3
  · rw [if_pos e3, if_pos e3]
  · rw [if_neg e3, if_neg e3, if_neg e3]
theorem L3_so {r1 r2 r3 : Nat} {N : Nat → Nat → Int32} {a u v : Row} {q i : Nat} {x : Int32} (h1 : q ≠ r1) (h2 : q ≠ r2) (h3 : q ≠ r3) : setC (L3 r1 r2 r3 N a u v) q i x = L3 r1 r2 r3 (setC N q i x) a u v := by
  unfold setC
  rw [L3_o h1 h2 h3]
  funext p
  unfold L3 updA
  by_cases e : p = q
  · subst e; rw [if_pos rfl, if_neg h3, if_neg h2, if_neg h1, if_pos rfl]
  · rw [if_neg e]
    by_cases e3 : p = r3
    · rw [if_pos e3, if_pos e3]
    · rw [if_neg e3, if_neg e3]
      by_cases e2 : p = r2
      · rw [if_pos e2, if_pos e2]
      · rw [if_neg e2, if_neg e2]
        by_cases e1 : p = r1
        · rw [if_pos e1, if_pos e1]
        · rw [if_neg e1, if_neg e1, if_neg e]
theorem L3_self {r1 r2 r3 : Nat} {N : Nat → Nat → Int32} {a u v : Row} : L3 r1 r2 r3 N (N r1) (N r2) (N r3) = N := by
  funext q
  unfold L3 updA
  by_cases e3 : q = r3
  · rw [if_pos e3, e3]
  · rw [if_neg e3]
    by_cases e2 : q = r2
    · rw [if_pos e2, e2]
    · rw [if_neg e2]
      by_cases e1 : q = r1
      · rw [if_pos e1, e1]
      · rw [if_neg e1]
/-! places -/
theorem ix5 : ∀ k, k < 5 → ((5 : Int32) + nI k).toNatClampNeg = 5 + k ∧ inb ((5 : Int32) + nI k) 35 = true ∧ inb ((5 : Int32) + nI k) 40 = true := by decide +kernel
theorem ix10 : ∀ k, k < 5 → ((10 : Int32) + nI k).toNatClampNeg = 10 + k ∧ inb ((10 : Int32) + nI k) 35 = true ∧ inb ((10 : Int32) + nI k) 40 = true := by decide +kernel
theorem ix15 : ∀ k, k < 5 → ((15 : Int32) + nI k).toNatClampNeg = 15 + k ∧ inb ((15 : Int32) + nI k) 35 = true ∧ inb ((15 : Int32) + nI k) 40 = true := by decide +kernel
theorem ix20 : ∀ k, k < 5 → ((20 : Int32) + nI k).toNatClampNeg = 20 + k ∧ inb ((20 : Int32) + nI k) 35 = true ∧ inb ((20 : Int32) + nI k) 40 = true := by decide +kernel
theorem ix25 : ∀ k, k < 5 → ((25 : Int32) + nI k).toNatClampNeg = 25 + k ∧ inb ((25 : Int32) + nI k) 35 = true ∧ inb ((25 : Int32) + nI k) 40 = true := by decide +kernel
theorem ix30 : ∀ k, k < 5 → ((30 : Int32) + nI k).toNatClampNeg = 30 + k ∧ inb ((30 : Int32) + nI k) 35 = true ∧ inb ((30 : Int32) + nI k) 40 = true := by decide +kernel
theorem ix35 : ∀ k, k < 5 → ((35 : Int32) + nI k).toNatClampNeg = 35 + k ∧ inb ((35 : Int32) + nI k) 40 = true := by decide +kernel
theorem ix0 : ∀ k, k < 5 → (nI k).toNatClampNeg = k ∧ inb (nI k) 35 = true ∧ inb (nI k) 40 = true := by decide +kernel
