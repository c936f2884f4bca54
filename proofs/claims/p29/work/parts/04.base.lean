/-! BASE: the picture of all cells of the class and of the law's numbers, one judgement J over it, a row an instruction -/
def BG : List Cond := lw_tbl.filter goodWord
theorem bg_in {w : Cond} (h : w ∈ lw_tbl) (hg : goodWord w = true) : w ∈ BG := List.mem_filter.mpr ⟨h, hg⟩
theorem bg_good {ws : List Cond} (h : ∀ w ∈ ws, w ∈ BG) : GoodIn BG ws := fun w hw => ⟨h w hw, good_of_word (List.mem_filter.mp (h w hw)).2⟩
abbrev I3 : Type := Nat × Nat × Nat
abbrev GS : Type := (Nat → Nat → Int32) × (Nat → Fin 9) × (Nat → Nat → Int32)
def isNest : Cond → Bool
  | .methodLinkNest .. => true
  | .fieldLinkNest .. => true
  | _ => false
def nestL : List Cond := tables_1.filter isNest
def nwU (U : State) : Prop := ∀ w ∈ nestL, va_Nw w U
theorem nw_warm {s U : State} (hW : s.WarmedH U.vm) (h : nwU s) : nwU U := by
  intro w hw
  have h1 := (List.mem_filter.mp hw).2
  have h2 := h w hw
  unfold isNest at h1
  split at h1
  · exact va_Nw.warmM hW h2
  · exact va_Nw.warmF hW h2
  · cases h1
theorem nest_tab {w : Cond} (h : isNest w = true) : w.onTables = true := by
  unfold isNest at h
  split at h
  · rfl
  · rfl
  · cases h
theorem nw_same {u U : State} (hvm : u.vm = U.vm) (h : nwU u) : nwU U := fun w hw => va_Nw.same (nest_tab (List.mem_filter.mp hw).2) hvm (h w hw)
/-! the cells' names: tag, number, place -/
def stIds (j : Nat) : List I3 := [(1, j, 0), (2, j, 0), (4, j, 0), (5, j, 0), (6, j, 0), (7, j, 0), (3, j, 0), (3, j, 1), (3, j, 2), (3, j, 3), (3, j, 4)]
def idC : List I3 := [(0, 0, 0), (8, 0, 0), (9, 0, 0), (10, 0, 0), (11, 0, 0), (12, 0, 0), (13, 0, 0)] ++ ((List.range 9).flatMap stIds ++ [(14, 0, 0), (14, 1, 0), (14, 2, 0), (14, 3, 0)])
def idN : List I3 := [(14, 4, 0), (14, 5, 0), (14, 6, 0)]
def idL : List I3 := idC ++ idN
/-- the cells that are there: an address 0 says that a cell has not come -/
def idA (ad : I3 → Nat) : List I3 := idL.filter (fun i => decide (0 < ad i))
theorem idA_L {ad : I3 → Nat} {id : I3} (h : id ∈ idA ad) : id ∈ idL := (List.mem_filter.mp h).1
theorem idA_of {ad : I3 → Nat} {id : I3} (h : id ∈ idL) (h2 : 0 < ad id) : id ∈ idA ad := List.mem_filter.mpr ⟨h, decide_eq_true h2⟩
theorem idL_nodup : idL.Nodup := by decide +kernel
theorem idA_nodup (ad : I3 → Nat) : (idA ad).Nodup := idL_nodup.sublist List.filter_sublist
theorem id_st : ∀ j, j < 9 → (1, j, 0) ∈ idC ∧ (2, j, 0) ∈ idC ∧ (4, j, 0) ∈ idC ∧ (5, j, 0) ∈ idC ∧ (6, j, 0) ∈ idC ∧ (7, j, 0) ∈ idC ∧ ∀ k, k < 5 → (3, j, k) ∈ idC := by
  have h : ∀ j, j < 9 → ∀ q ∈ stIds j, q ∈ idC := by decide +kernel
  intro j hj
  have h' := h j hj
  refine ⟨h' _ (by simp [stIds]), h' _ (by simp [stIds]), h' _ (by simp [stIds]), h' _ (by simp [stIds]), h' _ (by simp [stIds]), h' _ (by simp [stIds]), fun k hk => ?_⟩
  rcases (show k = 0 ∨ k = 1 ∨ k = 2 ∨ k = 3 ∨ k = 4 by omega) with rfl | rfl | rfl | rfl | rfl <;> exact h' _ (by simp [stIds])
theorem id_1 {j : Nat} (h : j < 9) : (1, j, 0) ∈ idC := (id_st j h).1
theorem id_2 {j : Nat} (h : j < 9) : (2, j, 0) ∈ idC := (id_st j h).2.1
theorem id_4 {j : Nat} (h : j < 9) : (4, j, 0) ∈ idC := (id_st j h).2.2.1
theorem id_5 {j : Nat} (h : j < 9) : (5, j, 0) ∈ idC := (id_st j h).2.2.2.1
theorem id_6 {j : Nat} (h : j < 9) : (6, j, 0) ∈ idC := (id_st j h).2.2.2.2.1
theorem id_7 {j : Nat} (h : j < 9) : (7, j, 0) ∈ idC := (id_st j h).2.2.2.2.2.1
theorem id_3 {j k : Nat} (h : j < 9) (hk : k < 5) : (3, j, k) ∈ idC := (id_st j h).2.2.2.2.2.2 k hk
def tr (n off : Nat) (f : Nat → Int32) : Nat → Int32 := fun i => if i < n then f (off + i) else 0
def trR (n : Nat) (f : Nat → Nat) : Nat → Option Nat := fun i => if i < n then some (f i) else none
def nI' (n : Nat) : Int32 := Int32.ofNat n
def lenL (r : Nat) : Nat := if r = 0 ∨ r = 4 then 19 else if r = 1 ∨ r = 5 then 35 else if r = 3 then 25 else 40
/-- what stands in a cell -/
def cell (ca : Nat → ClassId) (ad : I3 → Nat) (G : GS) : I3 → va_E := fun q => match q with
  | (0, _, _) => .inr (5, [.ref (ad (1, 0, 0)), .ref (ad (1, 1, 0)), .ref (ad (8, 0, 0)), .ref (ad (9, 0, 0)), .ref (ad (10, 0, 0)), .ref (ad (11, 0, 0)), .ref (ad (1, (G.2.1 0).val, 0)), .int (G.1 13 0)])
  | (1, j, _) => .inr (3, [.ref (ad (2, j, 0)), .ref (ad (4, j, 0)), .ref (ad (5, j, 0)), .int (G.1 j 19), .int (G.1 j 6), .int (G.1 j 7), .int (G.1 j 8), .int (G.1 j 9), .int (G.1 j 10), .int (G.1 j 18), .int (G.1 j 11), .int (G.1 j 12), .int (G.1 j 13)])
  | (2, j, _) => .inl (ca 3, 5, .inr (.inr (.inr (.inr (trR 5 (fun i => ad (3, j, i)))))))
  | (3, j, k) => .inr (1, [.int (nI' k), .int (G.1 j (20 + 15 * k + 0)), .int (G.1 j (20 + 15 * k + 1)), .int (G.1 j (20 + 15 * k + 2)), .int (G.1 j (20 + 15 * k + 5)), .int (G.1 j (20 + 15 * k + 3)), .int (G.1 j (20 + 15 * k + 4)), .int (G.1 j (20 + 15 * k + 6)), .int (G.1 j (20 + 15 * k + 7)), .int (G.1 j (20 + 15 * k + 12)), .int (G.1 j (20 + 15 * k + 8)), .int (G.1 j (20 + 15 * k + 9)), .int (G.1 j (20 + 15 * k + 10)), .int (G.1 j (20 + 15 * k + 11)), .int (G.1 j (20 + 15 * k + 13)), .int (G.1 j (20 + 15 * k + 14))])
  | (4, j, _) => .inr (2, [.int (G.1 j 0), .int (G.1 j 1), .int (G.1 j 2), .int (G.1 j 3), .int (G.1 j 4), .int (G.1 j 5)])
  | (5, j, _) => .inr (0, [.ref (ad (6, j, 0)), .ref (ad (7, j, 0)), .int (G.1 j 14), .int (G.1 j 15)])
  | (6, j, _) => .inl (ca 0, 4, .inl (tr 4 96 (G.1 j)))
  | (7, j, _) => .inl (ca 0, 20, .inl (tr 20 100 (G.1 j)))
  | (8, _, _) => .inl (ca 4, 4, .inr (.inr (.inr (.inr (trR 4 (fun i => ad (1, (G.2.1 (1 + i)).val, 0)))))))
  | (9, _, _) => .inl (ca 4, 2, .inr (.inr (.inr (.inr (trR 2 (fun i => ad (1, 7 + i, 0)))))))
  | (10, _, _) => .inl (ca 2, 2, .inl (tr 2 0 (G.1 12)))
  | (11, _, _) => .inr (4, [.ref (ad (12, 0, 0)), .ref (ad (13, 0, 0)), .int (G.1 11 0), .int (G.1 11 1), .int (G.1 11 2), .int (G.1 11 3), .int (G.1 11 4), .int (G.1 11 5)])
  | (12, _, _) => .inl (ca 1, 60, .inl (tr 60 0 (G.1 9)))
  | (13, _, _) => .inl (ca 0, 3, .inl (tr 3 0 (G.1 10)))
  | (_, r, _) => .inl (ca 0, lenL r, .inl (tr (lenL r) 0 (G.2.2 r)))
def wsG (ca : Nat → ClassId) (ad : I3 → Nat) (G : GS) : va_W := (idA ad).map (fun i => (ad i, cell ca ad G i))
def tysG (ca : Nat → ClassId) : List (ClassId × FieldType) := [(ca 0, .int), (ca 1, .char), (ca 2, .boolean), (ca 3, .object RX1), (ca 4, .object RX3)]
def adI (ad : I3 → Nat) : Prop := (∀ i ∈ idA ad, ∀ j ∈ idA ad, ad i = ad j → i = j) ∧ ∀ i ∈ idC, 0 < ad i
theorem ia {ad : I3 → Nat} (hi : adI ad) {id : I3} (h : id ∈ idC) : id ∈ idA ad := idA_of (List.mem_append_left _ h) (hi.2 id h)
def adA (ad : I3 → Nat) : Nat → Prop := fun q => (∃ i ∈ idA ad, ad i = q) ∨ (0 < ad (16, 0, 0) ∧ ad (16, 0, 0) ≤ q)
theorem ws_ix {ad : I3 → Nat} {id : I3} (h : id ∈ idA ad) : ∃ q : Nat, (idA ad)[q]? = some id := List.getElem?_of_mem h
theorem ws_at {ca : Nat → ClassId} {ad : I3 → Nat} {G : GS} {id : I3} {q : Nat} (h : (idA ad)[q]? = some id) : (wsG ca ad G)[q]? = some (ad id, cell ca ad G id) := by
  unfold wsG
  rw [List.getElem?_map, h]; rfl
theorem ws_of {ca : Nat → ClassId} {ad : I3 → Nat} {G : GS} {q : Nat} {x : Nat × va_E} (h : (wsG ca ad G)[q]? = some x) : ∃ id, (idA ad)[q]? = some id ∧ x = (ad id, cell ca ad G id) := by
  unfold wsG at h
  rw [List.getElem?_map] at h
  cases hq : (idA ad)[q]? with
  | none => rw [hq] at h; cases h
  | some id => rw [hq] at h; cases h; exact ⟨id, rfl, rfl⟩
theorem id_inj {ad : I3 → Nat} {p q : Nat} {id : I3} (h1 : (idA ad)[p]? = some id) (h2 : (idA ad)[q]? = some id) : p = q := by
  have hl := (List.getElem?_eq_some_iff.mp h1).1
  exact (List.getElem?_inj hl (idA_nodup ad)).mp (h1.trans h2.symm)
theorem ws_set {ca : Nat → ClassId} {ad : I3 → Nat} {G G' : GS} {id : I3} {q : Nat} {e : va_E} (h : (idA ad)[q]? = some id) (he : cell ca ad G' id = e) (ho : ∀ id' ∈ idL, id' ≠ id → cell ca ad G' id' = cell ca ad G id') : (wsG ca ad G).set q (ad id, e) = wsG ca ad G' := by
  subst he
  apply List.ext_getElem?
  intro k
  by_cases hk : k = q
  · subst hk
    rw [List.getElem?_set_self (List.getElem?_eq_some_iff.mp (ws_at h)).1, ws_at h]
  · rw [List.getElem?_set_ne (Ne.symm hk)]
    unfold wsG
    rw [List.getElem?_map, List.getElem?_map]
    cases hx : (idA ad)[k]? with
    | none => rfl
    | some id' =>
      have hne : id' ≠ id := fun e => hk (id_inj (e ▸ hx) h)
      show some (ad id', cell ca ad G id') = some (ad id', cell ca ad G' id')
      rw [ho id' (idA_L (List.mem_of_getElem? hx)) hne]
theorem ws_D {ca : Nat → ClassId} {ad : I3 → Nat} (hi : adI ad) (G : GS) : va_D (adA ad) (wsG ca ad G) := by
  refine ⟨fun i j p q h1 h2 hpq => ?_, fun k q h => ?_⟩
  · obtain ⟨a, ha, rfl⟩ := ws_of h1
    obtain ⟨b, hb, rfl⟩ := ws_of h2
    have := hi.1 a (List.mem_of_getElem? ha) b (List.mem_of_getElem? hb) hpq
    subst this
    exact id_inj ha hb
  · obtain ⟨a, ha, rfl⟩ := ws_of h
    exact Or.inl ⟨a, List.mem_of_getElem? ha, rfl⟩
/-! places of numbers -/
def updA (C : Nat → Nat → Int32) (a : Nat) (f : Nat → Int32) : Nat → Nat → Int32 := fun x => if x = a then f else C x
abbrev Lc : Type := Bool × Nat × Nat
def grow (G : GS) (b : Bool) (a : Nat) : Nat → Int32 := if b then G.2.2 a else G.1 a
def gget (G : GS) (L : Lc) : Int32 := grow G L.1 L.2.1 L.2.2
def gset (G : GS) (L : Lc) (v : Int32) : GS := if L.1 then (G.1, G.2.1, updA G.2.2 L.2.1 (upd (G.2.2 L.2.1) L.2.2 v)) else (updA G.1 L.2.1 (upd (G.1 L.2.1) L.2.2 v), G.2)
theorem gset_B (G : GS) (L : Lc) (v : Int32) : (gset G L v).2.1 = G.2.1 := by
  obtain ⟨b, a, i⟩ := L
  cases b <;> rfl
theorem updA_same (C : Nat → Nat → Int32) (a : Nat) (f : Nat → Int32) : updA C a f a = f := by simp [updA]
theorem updA_ne {C : Nat → Nat → Int32} {a x : Nat} (f : Nat → Int32) (h : x ≠ a) : updA C a f x = C x := by simp [updA, h]
theorem updA_updA (C : Nat → Nat → Int32) (a : Nat) (f g : Nat → Int32) : updA (updA C a f) a g = updA C a g := by
  funext x
  by_cases h : x = a <;> simp [updA, h]
theorem updA_self (C : Nat → Nat → Int32) (a : Nat) : updA C a (C a) = C := by
  funext x
  by_cases h : x = a <;> simp [updA, h]
theorem gget_gset (G : GS) (L : Lc) (v : Int32) : gget (gset G L v) L = v := by
  obtain ⟨b, a, i⟩ := L
  cases b <;> simp [gget, gset, grow, updA, upd]
theorem updA_upd_ne {C : Nat → Nat → Int32} {a i a' i' : Nat} (v : Int32) (h : ¬ (a' = a ∧ i' = i)) : updA C a (upd (C a) i v) a' i' = C a' i' := by
  unfold updA upd
  by_cases ha : a' = a
  · subst ha
    rw [if_pos rfl, if_neg (fun e => h ⟨rfl, e⟩)]
  · rw [if_neg ha]
theorem gget_gset_ne {G : GS} {L L' : Lc} (v : Int32) (h : L' ≠ L) : gget (gset G L v) L' = gget G L' := by
  obtain ⟨b, a, i⟩ := L
  obtain ⟨b', a', i'⟩ := L'
  cases b <;> cases b'
  · exact updA_upd_ne v (fun e => h (by obtain ⟨rfl, rfl⟩ : a' = a ∧ i' = i := e; rfl))
  · rfl
  · rfl
  · exact updA_upd_ne v (fun e => h (by obtain ⟨rfl, rfl⟩ : a' = a ∧ i' = i := e; rfl))
def ownL (L : Lc) : I3 := match L with
  | (false, a, i) => if a < 9 then (if i < 6 then (4, a, 0) else if i < 14 then (1, a, 0) else if i < 16 then (5, a, 0) else if i < 20 then (1, a, 0) else if i < 95 then (3, a, (i - 20) / 15) else if i < 96 then (1, a, 0) else if i < 100 then (6, a, 0) else (7, a, 0)) else if a = 9 then (12, 0, 0) else if a = 10 then (13, 0, 0) else if a = 11 then (11, 0, 0) else if a = 12 then (10, 0, 0) else (0, 0, 0)
  | (true, a, _) => (14, a, 0)
theorem tr_congr {n off : Nat} {f g : Nat → Int32} (h : ∀ i, i < n → f (off + i) = g (off + i)) : tr n off f = tr n off g := by
  funext i
  unfold tr
  by_cases hi : i < n
  · rw [if_pos hi, if_pos hi, h i hi]
  · rw [if_neg hi, if_neg hi]
theorem tr_upd {n off i : Nat} (f : Nat → Int32) (v : Int32) (hi : i < n) : tr n off (upd f (off + i) v) = upd (tr n off f) i v := by
  funext j
  unfold tr upd
  by_cases hj : j = i
  · subst hj; simp [hi]
  · by_cases hn : j < n
    · simp [hn, hj]
    · simp [hn, hj]
theorem tr_at {n off i : Nat} (f : Nat → Int32) (hi : i < n) : tr n off f i = f (off + i) := by simp [tr, hi]
