/-! THE PICTURE where the law's loop begins -/
def row0 : Nat → Int32 := upd (upd (upd (upd (upd (upd (fun _ => 0) 0 2000) 1 240) 2 400) 3 20) 4 1) 7 20000
def C0s : Nat → Nat → Int32 := fun a => if a < 9 then row0 else fun _ => 0
def B0s : Nat → Fin 9 := fun i => if i = 0 then 2 else if i = 1 then 3 else if i = 2 then 4 else if i = 3 then 5 else 6
def M0s : Nat → Nat → Int32 := fun _ _ => 0
def G0s : GS := (C0s, B0s, M0s)
/-- the addresses -/
def adF (x0 : Nat) (g : Nat → Nat) (f : Nat → Nat → Nat) (sz b L : Nat) (xs : Nat → Int32) (h : Nat → Nat) (z : Nat → Nat) : I3 → Nat := fun q => match q with
  | (0, _, _) => x0
  | (1, j, _) => g j
  | (2, j, _) => f j 1
  | (3, j, k) => f j (6 + k)
  | (4, j, _) => f j 2
  | (5, j, _) => f j 3
  | (6, j, _) => f j 4
  | (7, j, _) => f j 5
  | (8, _, _) => g 9
  | (9, _, _) => g 10
  | (10, _, _) => g 11
  | (11, _, _) => g 12
  | (12, _, _) => g 13
  | (13, _, _) => g 14
  | (14, r, _) => if r < 4 then h r else 0
  | (16, _, _) => sz
  | (18, i, _) => (xs i).toUInt32.toNat
  | (19, _, _) => L
  | (_, t, _) => if t = 3 then b else z t
def idX : List I3 := ((((((((((((([(0, 0, 0)] ++ stIds 0) ++ stIds 1) ++ stIds 2) ++ [(8, 0, 0)]) ++ stIds 3) ++ stIds 4) ++ stIds 5) ++ stIds 6) ++ [(9, 0, 0)]) ++ stIds 7) ++ stIds 8) ++ [(10, 0, 0)]) ++ [(11, 0, 0), (12, 0, 0), (13, 0, 0)])
def idM : List I3 := ((([(14, 0, 0)] ++ [(14, 1, 0)]) ++ [(14, 2, 0)]) ++ [(14, 3, 0)])
theorem ids_all : ∀ id ∈ idC, id ∈ idX ++ idM := by decide +kernel
theorem ids_C {ad : I3 → Nat} (h : ∀ i ∈ idN, ad i = 0) {id : I3} (hi : id ∈ idA ad) : id ∈ idC := by
  have h1 := List.mem_filter.mp hi
  rcases List.mem_append.mp h1.1 with q | q
  · exact q
  · have := of_decide_eq_true h1.2
    rw [h id q] at this
    exact absurd this (by decide)
theorem tr_z4 : tr 4 96 row0 = fun _ => 0 := by
  funext i
  unfold tr
  by_cases h : i < 4
  · rw [if_pos h]
    unfold row0
    rw [upd_ne _ (by omega), upd_ne _ (by omega), upd_ne _ (by omega), upd_ne _ (by omega), upd_ne _ (by omega), upd_ne _ (by omega)]
  · rw [if_neg h]
theorem tr_z20 : tr 20 100 row0 = fun _ => 0 := by
  funext i
  unfold tr
  by_cases h : i < 20
  · rw [if_pos h]
    unfold row0
    rw [upd_ne _ (by omega), upd_ne _ (by omega), upd_ne _ (by omega), upd_ne _ (by omega), upd_ne _ (by omega), upd_ne _ (by omega)]
  · rw [if_neg h]
theorem tr_z (n : Nat) : tr n 0 (fun _ => 0) = fun _ => 0 := by
  funext i
  unfold tr
  split <;> rfl
theorem trR_2 (a : Nat → Nat) : trR 2 a = va_up (va_up (fun _ => none) 0 (some (a 0))) 1 (some (a 1)) := by
  funext x
  unfold trR va_up
  by_cases h : x < 2
  · rcases (show x = 0 ∨ x = 1 by omega) with rfl | rfl <;> rfl
  · rw [if_neg h, if_neg (by omega), if_neg (by omega)]
theorem trR_4 (a : Nat → Nat) : trR 4 a = va_up (va_up (va_up (va_up (fun _ => none) 0 (some (a 0))) 1 (some (a 1))) 2 (some (a 2))) 3 (some (a 3)) := by
  funext x
  unfold trR va_up
  by_cases h : x < 4
  · rcases (show x = 0 ∨ x = 1 ∨ x = 2 ∨ x = 3 by omega) with rfl | rfl | rfl | rfl <;> rfl
  · rw [if_neg h, if_neg (by omega), if_neg (by omega), if_neg (by omega), if_neg (by omega)]
theorem trR_5 (a : Nat → Nat) : trR 5 a = va_up (va_up (va_up (va_up (va_up (fun _ => none) 0 (some (a 0))) 1 (some (a 1))) 2 (some (a 2))) 3 (some (a 3))) 4 (some (a 4)) := by
  funext x
  unfold trR va_up
  by_cases h : x < 5
  · rcases (show x = 0 ∨ x = 1 ∨ x = 2 ∨ x = 3 ∨ x = 4 by omega) with rfl | rfl | rfl | rfl | rfl <;> rfl
  · rw [if_neg h, if_neg (by omega), if_neg (by omega), if_neg (by omega), if_neg (by omega), if_neg (by omega)]
section ST
variable {ca : Nat → ClassId} {x0 : Nat} {g : Nat → Nat} {f : Nat → Nat → Nat} {sz b L : Nat} {xs : Nat → Int32} {h z : Nat → Nat}
def cm (ca : Nat → ClassId) (ad : I3 → Nat) (ids : List I3) : va_W := ids.map (fun id => (ad id, cell ca ad G0s id))
theorem cm_app (ca : Nat → ClassId) (ad : I3 → Nat) (a b : List I3) : cm ca ad (a ++ b) = cm ca ad a ++ cm ca ad b := List.map_append
theorem st_cells {j : Nat} (hj : j < 9) : cm ca (adF x0 g f sz b L xs h z) (stIds j) = stW ca (g j) (f j) := by
  have hC : C0s j = row0 := by unfold C0s; rw [if_pos hj]
  generalize ha : adF x0 g f sz b L xs h z = ad
  have c1 : cell ca ad G0s (1, j, 0) = .inr (3, [.ref (ad (2, j, 0)), .ref (ad (4, j, 0)), .ref (ad (5, j, 0)), .int 0, .int 0, .int 20000, .int 0, .int 0, .int 0, .int 0, .int 0, .int 0, .int 0]) := by
    show (.inr (3, [.ref (ad (2, j, 0)), .ref (ad (4, j, 0)), .ref (ad (5, j, 0)), .int (C0s j 19), .int (C0s j 6), .int (C0s j 7), .int (C0s j 8), .int (C0s j 9), .int (C0s j 10), .int (C0s j 18), .int (C0s j 11), .int (C0s j 12), .int (C0s j 13)]) : va_E) = _
    rw [hC]; rfl
  have c2 : cell ca ad G0s (2, j, 0) = .inl (ca 3, 5, .inr (.inr (.inr (.inr (va_up (va_up (va_up (va_up (va_up (fun _ => none) 0 (some (ad (3, j, 0)))) 1 (some (ad (3, j, 1)))) 2 (some (ad (3, j, 2)))) 3 (some (ad (3, j, 3)))) 4 (some (ad (3, j, 4)))))))) := by
    show (.inl (ca 3, 5, .inr (.inr (.inr (.inr (trR 5 (fun i => ad (3, j, i))))))) : va_E) = _
    rw [trR_5]
  have c4 : cell ca ad G0s (4, j, 0) = .inr (2, [.int 2000, .int 240, .int 400, .int 20, .int 1, .int 0]) := by
    show (.inr (2, [.int (C0s j 0), .int (C0s j 1), .int (C0s j 2), .int (C0s j 3), .int (C0s j 4), .int (C0s j 5)]) : va_E) = _
    rw [hC]; rfl
  have c5 : cell ca ad G0s (5, j, 0) = .inr (0, [.ref (ad (6, j, 0)), .ref (ad (7, j, 0)), .int 0, .int 0]) := by
    show (.inr (0, [.ref (ad (6, j, 0)), .ref (ad (7, j, 0)), .int (C0s j 14), .int (C0s j 15)]) : va_E) = _
    rw [hC]; rfl
  have c6 : cell ca ad G0s (6, j, 0) = .inl (ca 0, 4, .inl (fun _ => 0)) := by
    show (.inl (ca 0, 4, .inl (tr 4 96 (C0s j))) : va_E) = _
    rw [hC, tr_z4]
  have c7 : cell ca ad G0s (7, j, 0) = .inl (ca 0, 20, .inl (fun _ => 0)) := by
    show (.inl (ca 0, 20, .inl (tr 20 100 (C0s j))) : va_E) = _
    rw [hC, tr_z20]
  have c3 : ∀ k, k < 5 → cell ca ad G0s (3, j, k) = .inr (1, [.int (nI' k), .int 0, .int 0, .int 0, .int 0, .int 0, .int 0, .int 0, .int 0, .int 0, .int 0, .int 0, .int 0, .int 0, .int 0, .int 0]) := fun k hk => by
    show (.inr (1, [.int (nI' k), .int (C0s j (20 + 15 * k + 0)), .int (C0s j (20 + 15 * k + 1)), .int (C0s j (20 + 15 * k + 2)), .int (C0s j (20 + 15 * k + 5)), .int (C0s j (20 + 15 * k + 3)), .int (C0s j (20 + 15 * k + 4)), .int (C0s j (20 + 15 * k + 6)), .int (C0s j (20 + 15 * k + 7)), .int (C0s j (20 + 15 * k + 12)), .int (C0s j (20 + 15 * k + 8)), .int (C0s j (20 + 15 * k + 9)), .int (C0s j (20 + 15 * k + 10)), .int (C0s j (20 + 15 * k + 11)), .int (C0s j (20 + 15 * k + 13)), .int (C0s j (20 + 15 * k + 14))]) : va_E) = _
    rw [hC]
    rcases (show k = 0 ∨ k = 1 ∨ k = 2 ∨ k = 3 ∨ k = 4 by omega) with rfl | rfl | rfl | rfl | rfl <;> rfl
  show [(ad (1, j, 0), cell ca ad G0s (1, j, 0)), (ad (2, j, 0), cell ca ad G0s (2, j, 0)), (ad (4, j, 0), cell ca ad G0s (4, j, 0)), (ad (5, j, 0), cell ca ad G0s (5, j, 0)), (ad (6, j, 0), cell ca ad G0s (6, j, 0)), (ad (7, j, 0), cell ca ad G0s (7, j, 0)), (ad (3, j, 0), cell ca ad G0s (3, j, 0)), (ad (3, j, 1), cell ca ad G0s (3, j, 1)), (ad (3, j, 2), cell ca ad G0s (3, j, 2)), (ad (3, j, 3), cell ca ad G0s (3, j, 3)), (ad (3, j, 4), cell ca ad G0s (3, j, 4))] = _
  rw [c1, c2, c4, c5, c6, c7, c3 0 (by decide), c3 1 (by decide), c3 2 (by decide), c3 3 (by decide), c3 4 (by decide)]
  subst ha
  rfl
theorem x_cells (u : (Nat → Nat) × (Nat → Nat → Nat)) : cm ca (adF x0 u.1 u.2 sz b L xs h z) idX = xW ca x0 u := by
  have a0 : cm ca (adF x0 u.1 u.2 sz b L xs h z) [(0, 0, 0)] = [(x0, .inr (5, [.ref (u.1 0), .ref (u.1 1), .ref (u.1 9), .ref (u.1 10), .ref (u.1 11), .ref (u.1 12), .ref (u.1 2), .int 0]))] := rfl
  have a8 : cm ca (adF x0 u.1 u.2 sz b L xs h z) [(8, 0, 0)] = [(u.1 9, .inl (ca 4, 4, .inr (.inr (.inr (.inr (va_up (va_up (va_up (va_up (fun _ => none) 0 (some (u.1 3))) 1 (some (u.1 4))) 2 (some (u.1 5))) 3 (some (u.1 6))))))))] := by
    show [(u.1 9, (.inl (ca 4, 4, .inr (.inr (.inr (.inr (trR 4 (fun i => adF x0 u.1 u.2 sz b L xs h z (1, (B0s (1 + i)).val, 0))))))) : va_E))] = _
    rw [trR_4]; rfl
  have a9 : cm ca (adF x0 u.1 u.2 sz b L xs h z) [(9, 0, 0)] = [(u.1 10, .inl (ca 4, 2, .inr (.inr (.inr (.inr (va_up (va_up (fun _ => none) 0 (some (u.1 7))) 1 (some (u.1 8))))))))] := by
    show [(u.1 10, (.inl (ca 4, 2, .inr (.inr (.inr (.inr (trR 2 (fun i => adF x0 u.1 u.2 sz b L xs h z (1, 7 + i, 0))))))) : va_E))] = _
    rw [trR_2]; rfl
  have a10 : cm ca (adF x0 u.1 u.2 sz b L xs h z) [(10, 0, 0)] = [(u.1 11, .inl (ca 2, 2, .inl (fun _ => 0)))] := by
    show [(u.1 11, (.inl (ca 2, 2, .inl (tr 2 0 (fun _ => 0))) : va_E))] = _
    rw [tr_z]
  have a11 : cm ca (adF x0 u.1 u.2 sz b L xs h z) [(11, 0, 0), (12, 0, 0), (13, 0, 0)] = textW ca (u.1 12) (u.1 13, u.1 14) := by
    show [(u.1 12, (.inr (4, [.ref (u.1 13), .ref (u.1 14), .int 0, .int 0, .int 0, .int 0, .int 0, .int 0]) : va_E)), (u.1 13, .inl (ca 1, 60, .inl (tr 60 0 (fun _ => 0)))), (u.1 14, .inl (ca 0, 3, .inl (tr 3 0 (fun _ => 0))))] = _
    rw [tr_z, tr_z]; rfl
  unfold idX xW
  simp only [cm_app]
  rw [a0, a8, a9, a10, a11, st_cells (j := 0) (by decide), st_cells (j := 1) (by decide), st_cells (j := 2) (by decide), st_cells (j := 3) (by decide), st_cells (j := 4) (by decide), st_cells (j := 5) (by decide), st_cells (j := 6) (by decide), st_cells (j := 7) (by decide), st_cells (j := 8) (by decide)]
def lawW (ca : Nat → ClassId) (h : Nat → Nat) : va_W := ((([(h 0, .inl (ca 0, 19, .inl (fun _ => 0)))] ++ [(h 1, .inl (ca 0, 35, .inl (fun _ => 0)))]) ++ [(h 2, .inl (ca 0, 40, .inl (fun _ => 0)))]) ++ [(h 3, .inl (ca 0, 25, .inl (fun _ => 0)))])
theorem m_cells : cm ca (adF x0 g f sz b L xs h z) idM = lawW ca h := by
  have b0 : cm ca (adF x0 g f sz b L xs h z) [(14, 0, 0)] = [(h 0, .inl (ca 0, 19, .inl (fun _ => 0)))] := by
    show [(h 0, (.inl (ca 0, 19, .inl (tr 19 0 (fun _ => 0))) : va_E))] = _
    rw [tr_z]
  have b1 : cm ca (adF x0 g f sz b L xs h z) [(14, 1, 0)] = [(h 1, .inl (ca 0, 35, .inl (fun _ => 0)))] := by
    show [(h 1, (.inl (ca 0, 35, .inl (tr 35 0 (fun _ => 0))) : va_E))] = _
    rw [tr_z]
  have b2 : cm ca (adF x0 g f sz b L xs h z) [(14, 2, 0)] = [(h 2, .inl (ca 0, 40, .inl (fun _ => 0)))] := by
    show [(h 2, (.inl (ca 0, 40, .inl (tr 40 0 (fun _ => 0))) : va_E))] = _
    rw [tr_z]
  have b3 : cm ca (adF x0 g f sz b L xs h z) [(14, 3, 0)] = [(h 3, .inl (ca 0, 25, .inl (fun _ => 0)))] := by
    show [(h 3, (.inl (ca 0, 25, .inl (tr 25 0 (fun _ => 0))) : va_E))] = _
    rw [tr_z]
  unfold idM lawW
  simp only [cm_app]
  rw [b0, b1, b2, b3]
end ST
theorem cm_at {ca : Nat → ClassId} {ad : I3 → Nat} {ids : List I3} {id : I3} {k : Nat} (h : ids[k]? = some id) : (cm ca ad ids)[k]? = some (ad id, cell ca ad G0s id) := by
  unfold cm
  rw [List.getElem?_map, h]; rfl
theorem P_of {D : va_G} {ca : Nat → ClassId} {ad : I3 → Nat} {H : Heap} (hN : ∀ i ∈ idN, ad i = 0) (h : va_P D vwCl (cm ca ad (idX ++ idM)) H) : va_P D vwCl (wsG ca ad G0s) H := fun k q hk => by
  obtain ⟨id, h1, rfl⟩ := ws_of hk
  obtain ⟨i, hi⟩ := List.getElem?_of_mem (ids_all id (ids_C hN (List.mem_of_getElem? h1)))
  exact h i _ (cm_at hi)
theorem adI_of {A : Nat → Prop} {ca : Nat → ClassId} {ad : I3 → Nat} (hN : ∀ i ∈ idN, ad i = 0) (hA : ∀ q, A q → 0 < q) (h : va_D A (cm ca ad (idX ++ idM))) : adI ad := by
  refine ⟨fun i hi j hj e => ?_, fun i hi => ?_⟩
  · obtain ⟨a, ha⟩ := List.getElem?_of_mem (ids_all i (ids_C hN hi))
    obtain ⟨b, hb⟩ := List.getElem?_of_mem (ids_all j (ids_C hN hj))
    have := h.1 a b _ _ (cm_at ha) (cm_at hb) e
    subst this
    exact Option.some.inj (ha.symm.trans hb)
  · obtain ⟨a, ha⟩ := List.getElem?_of_mem (ids_all i hi)
    exact hA _ (h.2 a _ (cm_at ha))
theorem A_of {A : Nat → Prop} {ca : Nat → ClassId} {ad : I3 → Nat} (hN : ∀ i ∈ idN, ad i = 0) (hS : ∀ q, ad (16, 0, 0) ≤ q → A q) (h : va_D A (cm ca ad (idX ++ idM))) : ∀ q, adA ad q → A q := fun q hq => by
  rcases hq with ⟨i, hi, rfl⟩ | ⟨-, hq⟩
  · obtain ⟨a, ha⟩ := List.getElem?_of_mem (ids_all i (ids_C hN hi))
    exact h.2 a _ (cm_at ha)
  · exact hS q hq
theorem sc_back (x : Int32) : Int32.ofNat x.toUInt32.toNat = x := by
  rw [← UInt32.toInt32_ofNat']
  simp
