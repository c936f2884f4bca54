/-! NEW CELLS: an array of the law's own that comes while a method runs -/
def adN (ad : I3 → Nat) (r q : Nat) : I3 → Nat := fun i => if i = (14, r, 0) then q else ad i
theorem adN_ne {ad : I3 → Nat} {r q : Nat} {i : I3} (h : i ≠ (14, r, 0)) : adN ad r q i = ad i := if_neg h
theorem adN_eq {ad : I3 → Nat} {r q : Nat} : adN ad r q (14, r, 0) = q := if_pos rfl
theorem adN_t {ad : I3 → Nat} {r q : Nat} {i : I3} (h : i.1 ≠ 14) : adN ad r q i = ad i := adN_ne (fun e => h (by rw [e]))
theorem cell_ad {ca : Nat → ClassId} {ad ad' : I3 → Nat} (h : ∀ i : I3, i.1 ≠ 14 → ad' i = ad i) (G : GS) : ∀ id : I3, id ∈ idL → cell ca ad' G id = cell ca ad G id := by
  intro id hid
  have ho := id_ok id hid
  obtain ⟨t, a, k⟩ := id
  have f1 : ∀ a b : Nat, ad' (1, a, b) = ad (1, a, b) := fun a b => h _ (by show (1 : Nat) ≠ 14; decide)
  have f2 : ∀ a b : Nat, ad' (2, a, b) = ad (2, a, b) := fun a b => h _ (by show (2 : Nat) ≠ 14; decide)
  have f3 : ∀ a b : Nat, ad' (3, a, b) = ad (3, a, b) := fun a b => h _ (by show (3 : Nat) ≠ 14; decide)
  have f4 : ∀ a b : Nat, ad' (4, a, b) = ad (4, a, b) := fun a b => h _ (by show (4 : Nat) ≠ 14; decide)
  have f5 : ∀ a b : Nat, ad' (5, a, b) = ad (5, a, b) := fun a b => h _ (by show (5 : Nat) ≠ 14; decide)
  have f6 : ∀ a b : Nat, ad' (6, a, b) = ad (6, a, b) := fun a b => h _ (by show (6 : Nat) ≠ 14; decide)
  have f7 : ∀ a b : Nat, ad' (7, a, b) = ad (7, a, b) := fun a b => h _ (by show (7 : Nat) ≠ 14; decide)
  have f8 : ∀ a b : Nat, ad' (8, a, b) = ad (8, a, b) := fun a b => h _ (by show (8 : Nat) ≠ 14; decide)
  have f9 : ∀ a b : Nat, ad' (9, a, b) = ad (9, a, b) := fun a b => h _ (by show (9 : Nat) ≠ 14; decide)
  have f10 : ∀ a b : Nat, ad' (10, a, b) = ad (10, a, b) := fun a b => h _ (by show (10 : Nat) ≠ 14; decide)
  have f11 : ∀ a b : Nat, ad' (11, a, b) = ad (11, a, b) := fun a b => h _ (by show (11 : Nat) ≠ 14; decide)
  have f12 : ∀ a b : Nat, ad' (12, a, b) = ad (12, a, b) := fun a b => h _ (by show (12 : Nat) ≠ 14; decide)
  have f13 : ∀ a b : Nat, ad' (13, a, b) = ad (13, a, b) := fun a b => h _ (by show (13 : Nat) ≠ 14; decide)
  unfold okId at ho
  split at ho <;> rename_i heq <;> cases heq
  · simp only [cell, f1, f8, f9, f10, f11]
  · simp only [cell]
  · simp only [cell, f1]
  · simp only [cell, f1]
  · simp only [cell]
  · simp only [cell, f12, f13]
  · simp only [cell]
  · simp only [cell]
  · simp only [cell]
  · simp only [Bool.and_eq_true, decide_eq_true_eq, beq_iff_eq] at ho
    obtain ⟨⟨h8', hj⟩, rfl⟩ := ho
    rcases (show t = 0 ∨ t = 1 ∨ t = 2 ∨ t = 3 ∨ t = 4 ∨ t = 5 ∨ t = 6 ∨ t = 7 by omega) with rfl | rfl | rfl | rfl | rfl | rfl | rfl | rfl
    · simp_all
    · simp only [cell, f2, f4, f5]
    · simp only [cell, f3]
    · simp_all
    · simp only [cell]
    · simp only [cell, f6, f7]
    · simp only [cell]
    · simp only [cell]
/-- fewer cells: what holds in the wider world -/
theorem wsG_sub {D : va_G} {ca : Nat → ClassId} {ad ad' : I3 → Nat} {G : GS} {H : Heap} (h : ∀ i : I3, i.1 ≠ 14 → ad' i = ad i) (h2 : ∀ i ∈ idA ad, ad' i = ad i) (hP : va_P D vwCl (wsG ca ad' G) H) : va_P D vwCl (wsG ca ad G) H := by
  intro k q hk
  obtain ⟨id, hid, rfl⟩ := ws_of hk
  have hm := List.mem_of_getElem? hid
  have hm' : id ∈ idA ad' := idA_of (idA_L hm) (by rw [h2 id hm]; exact of_decide_eq_true (List.mem_filter.mp hm).2)
  obtain ⟨z, hz⟩ := ws_ix hm'
  have := hP z _ (ws_at (ca := ca) (ad := ad') (G := G) hz)
  rw [cell_ad h G id (idA_L hm), h2 id hm] at this
  exact this
section NW
variable {D : va_G} {ca : Nat → ClassId} {ad : I3 → Nat} {p : Program} {l : Launch} {e : Env} {R : Room} {s : State} {m : MethodId} {args : Array Value} {below : List Frame} {meth : Method} {c : Code} {cc : ByteArray} {nL : Nat} {ow : String} {k n : Nat} {Q : State → Prop} {G : GS} {pc : Nat} {lv : List (Nat × Value)} {st : List Value}
theorem adA_up {q : Nat} (h : 0 < ad (16, 0, 0)) (hq : ad (16, 0, 0) ≤ q) : adA ad q := Or.inr ⟨h, hq⟩
theorem adN_A {r q : Nat} (hz : 0 < ad (16, 0, 0)) (hr : ad (14, r, 0) = 0) (hq : ad (16, 0, 0) ≤ q) : adA (adN ad r q) = adA ad := by
  have e16 : adN ad r q (16, 0, 0) = ad (16, 0, 0) := adN_t (by show (16 : Nat) ≠ 14; decide)
  funext x
  refine propext ⟨fun h => ?_, fun h => ?_⟩
  · rcases h with ⟨i, hi, e⟩ | h
    · by_cases c : i = (14, r, 0)
      · rw [c, adN_eq] at e
        exact Or.inr ⟨hz, by omega⟩
      · rw [adN_ne c] at e
        exact Or.inl ⟨i, idA_of (idA_L hi) (by have := of_decide_eq_true (List.mem_filter.mp hi).2; rw [adN_ne c] at this; exact this), e⟩
    · rw [e16] at h
      exact Or.inr h
  · rcases h with ⟨i, hi, e⟩ | h
    · have hp := of_decide_eq_true (List.mem_filter.mp hi).2
      have c : i ≠ (14, r, 0) := fun e2 => by rw [e2, hr] at hp; exact absurd hp (by decide)
      exact Or.inl ⟨i, idA_of (idA_L hi) (by rw [adN_ne c]; exact hp), by rw [adN_ne c]; exact e⟩
    · exact Or.inr (by rw [e16]; exact h)
theorem wsG_new {r q : Nat} {H : Heap} (hr : r = 4 ∨ r = 5 ∨ r = 6) (hP : va_P D vwCl (wsG ca ad G ++ [(q, .inl (ca 0, lenL r, .inl (fun _ => 0)))]) H) : va_P D vwCl (wsG ca (adN ad r q) (G.1, G.2.1, updA G.2.2 r (fun _ => 0))) H := by
  have hl : (wsG ca ad G).length = (wsG ca ad G).length := rfl
  intro k x hk
  obtain ⟨id, hid, rfl⟩ := ws_of hk
  have hm := List.mem_of_getElem? hid
  have hL := idA_L hm
  by_cases c : id = (14, r, 0)
  · subst c
    have hx := hP (wsG ca ad G).length (q, .inl (ca 0, lenL r, .inl (fun _ => 0))) (by rw [List.getElem?_append_right (Nat.le_refl _), Nat.sub_self]; rfl)
    rw [adN_eq]
    have e : cell ca (adN ad r q) (G.1, G.2.1, updA G.2.2 r (fun _ => 0)) (14, r, 0) = .inl (ca 0, lenL r, .inl (fun _ => 0)) := by
      show (.inl (ca 0, lenL r, .inl (tr (lenL r) 0 (updA G.2.2 r (fun _ => 0) r))) : va_E) = _
      rw [updA_same]
      have : tr (lenL r) 0 (fun _ => 0) = fun _ => 0 := by
        funext i
        unfold tr
        split <;> rfl
      rw [this]
    rw [e]
    exact hx
  · have hm2 : id ∈ idA ad := idA_of hL (by have := of_decide_eq_true (List.mem_filter.mp hm).2; rw [adN_ne c] at this; exact this)
    obtain ⟨z, hz⟩ := ws_ix hm2
    have ha := ws_at (ca := ca) (ad := ad) (G := G) hz
    have hx := hP z (ad id, cell ca ad G id) (by rw [List.getElem?_append_left (List.getElem?_eq_some_iff.mp ha).1]; exact ha)
    rw [adN_ne c, cell_ad (fun i h => adN_t h) _ id hL]
    have e : cell ca ad (G.1, G.2.1, updA G.2.2 r (fun _ => 0)) id = cell ca ad G id := by
      refine cell_frame hL rfl (fun L hLo => ?_)
      obtain ⟨b, a, i⟩ := L
      cases b
      · rfl
      · show updA G.2.2 r (fun _ => 0) a i = G.2.2 a i
        have : a ≠ r := fun h => c (by rw [← hLo, h]; rfl)
        rw [updA_ne _ this]
    rw [e]
    exact hx
theorem adI_new {r q : Nat} {H : Heap} (hi : adI ad) (hr : r = 4 ∨ r = 5 ∨ r = 6) (hq : 0 < q) (hD : va_D (adA ad) (wsG ca ad G ++ [(q, .inl (ca 0, lenL r, .inl (fun _ => 0)))])) : adI (adN ad r q) ∧ ∀ i ∈ idA ad, ad i ≠ q := by
  have hne : ∀ i ∈ idA ad, ad i ≠ q := by
    intro i hm e
    obtain ⟨z, hz⟩ := ws_ix hm
    have ha := ws_at (ca := ca) (ad := ad) (G := G) hz
    have hlt := (List.getElem?_eq_some_iff.mp ha).1
    have := hD.1 z (wsG ca ad G).length (ad i, cell ca ad G i) (q, .inl (ca 0, lenL r, .inl (fun _ => 0))) (by rw [List.getElem?_append_left hlt]; exact ha) (by rw [List.getElem?_append_right (Nat.le_refl _), Nat.sub_self]; rfl) e
    omega
  have old : ∀ i ∈ idA (adN ad r q), i ≠ (14, r, 0) → i ∈ idA ad := fun i hm c => idA_of (idA_L hm) (by have := of_decide_eq_true (List.mem_filter.mp hm).2; rw [adN_ne c] at this; exact this)
  refine ⟨⟨fun i h1 j h2 e => ?_, fun i hm => ?_⟩, hne⟩
  · by_cases c1 : i = (14, r, 0) <;> by_cases c2 : j = (14, r, 0)
    · rw [c1, c2]
    · rw [c1, adN_eq, adN_ne c2] at e
      exact absurd e.symm (hne j (old j h2 c2))
    · rw [c2, adN_eq, adN_ne c1] at e
      exact absurd e (hne i (old i h1 c1))
    · rw [adN_ne c1, adN_ne c2] at e
      exact hi.1 i (old i h1 c1) j (old j h2 c2) e
  · have c : i ≠ (14, r, 0) := fun e => by
      subst e
      rcases hr with rfl | rfl | rfl <;> exact absurd hm (by decide +kernel)
    rw [adN_ne c]
    exact hi.2 i hm
/-- a new array of ints -/
theorem j_newa (C0 : Cx D ca ad p s m args meth c cc nL ow) (hac : Cond.arrayClass .int ∈ BG) (hz : 0 < ad (16, 0, 0)) (hs : ad (16, 0, 0) ≤ s.heap.size) {r : Nat} (hr : r = 4 ∨ r = 5 ∨ r = 6) (h0 : ad (14, r, 0) = 0) {x : Int32} (hn : ¬ x < 0) (hx : x.toNatClampNeg = lenL r) (hR : k + 1 ≤ R.cells ∧ n + lenL r ≤ R.slots) (hdg : decode cc pc = .ok (.newarray .int, 2))
    (kk : ∀ q : Nat, 0 < q → adI (adN ad r q) → adA (adN ad r q) = adA ad → Cx D ca (adN ad r q) p s m args meth c cc nL ow → J D ca (adN ad r q) p l e R s m args below meth c (k + 1) (n + lenL r) Q nL (G.1, G.2.1, updA G.2.2 r (fun _ => 0)) (pc + 2) lv (.ref q :: st)) : J D ca ad p l e R s m args below meth c k n Q nL G pc lv (.int x :: st) := by
  intro H locs ls hP hS hl
  obtain ⟨c1, c2, c3, c4, c5, c6, c7, c8, c9, c10⟩ := C0
  have hb : lenL r * componentBytes .int ≤ 536870912 := by rcases hr with rfl | rfl | rfl <;> decide
  refine va_newa (atype := .int) (ty := .int) c1 c2 (c5 _ hac) rfl c6 hP (ws_D c9 G) hS (fun q h => adA_up hz (Nat.le_trans hs h)) (a0 := (lenL r, .inl (fun _ => 0))) (fun _ => rfl) hn hx hb hR.1 hR.2 hdg (fun q cA H1 hK1 hP1 hD1 hS1 => ?_)
  have e : cA = ca 0 := by
    have h1 := (hK1.2 5 (cA, .int) rfl).2
    have h2 := (c6.2 0 (ca 0, .int) rfl).2
    exact Option.some.inj (Eq.trans (Eq.symm h1) h2)
  subst e
  have hAq : adA ad q := hD1.2 (wsG ca ad G).length (q, .inl (ca 0, lenL r, .inl (fun _ => 0))) (by rw [List.getElem?_append_right (Nat.le_refl _), Nat.sub_self]; rfl)
  have hne : ∀ i ∈ idA ad, ad i ≠ q := by
    intro i hm e
    obtain ⟨z, hz⟩ := ws_ix hm
    have ha := ws_at (ca := ca) (ad := ad) (G := G) hz
    have hlt := (List.getElem?_eq_some_iff.mp ha).1
    have := hD1.1 z (wsG ca ad G).length (ad i, cell ca ad G i) (q, .inl (ca 0, lenL r, .inl (fun _ => 0))) (by rw [List.getElem?_append_left hlt]; exact ha) (by rw [List.getElem?_append_right (Nat.le_refl _), Nat.sub_self]; rfl) e
    omega
  have hq : ad (16, 0, 0) ≤ q := by
    rcases hAq with ⟨i, h1, h2⟩ | h
    · exact absurd h2 (hne i h1)
    · exact h.2
  obtain ⟨hi', -⟩ := adI_new (H := H1) c9 hr (by omega) hD1
  have eA := adN_A hz h0 hq
  have eZ : ∀ t i j : Nat, t ≠ 14 → adN ad r q (t, i, j) = ad (t, i, j) := fun t i j h => adN_t h
  have hst : stA (adN ad r q) s s.heap := by
    have esc : ∀ i, scX (adN ad r q) i = scX ad i := fun i => by unfold scX; rw [eZ _ _ _ (by decide)]
    unfold stA
    rw [eA]
    simp only [eZ 17 _ _ (by decide), eZ 19 _ _ (by decide), esc]
    exact c7
  exact kk q (by omega) hi' eA ⟨c1, c2, c3, c4, c5, c6, hst, c8, hi', c10⟩ H1 locs ls (wsG_new hr hP1) (by rw [eA]; exact hS1) hl
/-- a method that makes new cells -/
def MTa (l : Launch) (D : va_G) (ca : Nat → ClassId) (ad : I3 → Nat) (y : MethodName) (b : ByteArray) (maxL : Nat) (ret : Option FieldType) (fr lo mc ms : Nat) (av : List Value) (G : GS) (ro : Option Value) (G' : GS) : Prop :=
  Met l y (.code y b maxL ret :: BG) ({ frames := fr, cells := mc, slots := ms, locals := lo }) (pre D ca ad av G) (post D ca ad ro G') mc ms (adA ad)
theorem met_Ja {y : MethodName} {b : ByteArray} {maxL : Nat} {ret : Option FieldType} {fr lo mc ms : Nat} {av : List Value} {ro : Option Value} {G' : GS} {lv : List (Nat × Value)}
    (hi : adI ad) (hy : plainFor y = true) (hn : (lg_sl av).length ≤ maxL) (hlv : lv_args 0 av = lv)
    (body : ∀ (p : Program) (e : Env) (s : State) (m : MethodId) (below : List Frame) (meth : Method) (c : Code), Cx D ca ad p s m av.toArray meth c b maxL y.cls → meth.sig.returnType = ret → ad (14, 0, 0) < s.heap.size →
      J D ca ad p l e ({ frames := fr, cells := mc, slots := ms, locals := lo }) s m av.toArray below meth c 0 0 (MQ below (post D ca ad ro G') av.toArray s mc ms (adA ad)) maxL G 0 lv []) : MTa l D ca ad y b maxL ret fr lo mc ms av G ro G' := by
  unfold MTa
  refine Met.ofWF (cc := b) (maxL := maxL) (ret := ret) hy rfl ?_
  intro p e s m args below meth c s₁ B hml hv
  obtain ⟨rfl, hP, hK, hZ, hN⟩ := hv
  have hts := atoms_spec (ws := .code y b maxL ret :: BG) B.pre
  rw [lg_entry_eq]
  obtain ⟨z, hz⟩ := ws_ix (ia hi (show (14, 0, 0) ∈ idC by decide +kernel))
  have hlt := (hP z _ (ws_at (ca := ca) (ad := ad) (G := G) hz)).lt
  refine body p e s m below meth c ⟨B.exec, B.bytes, hml, findClass_of_methodNamed B.named, fun w hw => hts w (List.mem_cons_of_mem _ hw), hK, hZ, hN, hi, B.notSynchronized⟩ B.returns hlt s.heap [] _ hP va_S.rf ?_
  rw [← hlv]
  exact lv_entry av hn
theorem j_backa (C0 : Cx D ca ad p s m args meth c cc nL ow) {mc ms : Nat} {ro : Option Value} {G' : GS} {rest : List Value} {a : Array Value} {H : Heap} {locs : List Loc} {ls : Array Slot}
    (hr : va_Run p l e R s m args below meth c H locs k n mc ms (F0 m pc ls st) rest (post D ca ad ro G' a) (adA ad)) (hS : va_S (adA ad) s.heap H locs) (hl : lv_has ls nL lv)
    (kk : J D ca ad p l e R s m args below meth c (k + mc) (n + ms) Q nL G' (pc + 3) lv (ro.toList ++ rest)) : W p l e R s m args below meth c H locs k n Q (F0 m pc ls st) := by
  intro T hT X
  obtain ⟨v, st₀, t, T', L, h0, X', hL, e1, e2, ⟨hv, hU, hz, hk⟩, stp⟩ := hr T hT X
  cases hv
  rw [h0] at hz hk
  obtain ⟨t2, a1, b1⟩ := kk T'.heap (locs ++ L) ls (by rw [e1]; exact hU.1)
    ⟨Nat.le_trans hS.1 (by rw [e1]; exact hz), fun q h1 h2 => by rw [e1, hk q (Nat.lt_of_lt_of_le h1 hS.1) h2]; exact hS.2.1 q h1 h2, fun q hq => by
      rcases List.mem_append.mp hq with h | h
      · exact hS.2.2 q h
      · exact hL q h⟩ hl T' rfl X'
  exact ⟨t2, stp t2 a1, b1⟩
theorem j_callSa (C0 : Cx D ca ad p s m args meth c cc nL ow) {stk : List Value} {G2 : GS} {y : MethodName} {b : ByteArray} {maxL : Nat} {ret : Option FieldType} {fr lo na idx mc ms : Nat} {As rest : List Value} {G1 G' : GS} {ro : Option Value} (hM : MTa l D ca ad y b maxL ret fr lo mc ms As G1 ro G') (kw : KW ow idx y b maxL ret na) (ki : Cond.static y ∈ BG) (hG : G1 = G) (hR : fr + 1 ≤ R.frames ∧ 8 + (maxL + 11) + lo ≤ R.locals) (hq : k + mc ≤ R.cells ∧ n + ms ≤ R.slots) (hA : As.length = na) (hst : st = As.reverse ++ rest) (hW : (rest.map fun v => v.category).sum ≤ 8) (hk : ro.toList ++ rest = stk) (hG2 : G' = G2) (hdg : decode cc pc = .ok (.invokestatic idx, 3)) (kk : J D ca ad p l e R s m args below meth c (k + mc) (n + ms) Q nL G2 (pc + 3) lv stk) : J D ca ad p l e R s m args below meth c k n Q nL G pc lv st := by
  subst hG; subst hst; subst hk; subst hG2
  intro H locs ls hP hS hl
  have hts := C0.2.2.2.2.1
  refine j_backa C0 (va_runS (n := na) (Ts := BG) (own := ow) (index := idx) (As := As) (rest := rest) ⟨C0.1, C0.2.1, C0.2.2.1, C0.2.2.2.1, hts⟩ hM ⟨callB_of na hts (code_good kw.2.2.1) rfl rfl rfl (hts _ kw.2.1) (hts _ kw.1) kw.2.2.2 hR, hts _ ki⟩ ⟨pre_blind, fun U hU hWm => pre_at C0 hP hS hU hWm⟩ rfl hA hl.1 rfl ?_ hdg hq) hS hl kk
  show 2 * 0 + _ ≤ 8
  omega
/-- an end, in a wider world or the same, with room left -/
theorem j_zretw {ad' : I3 → Nat} (C0 : Cx D ca ad' p s m args meth c cc nL ow) (C1 : Cx D ca ad p s m args meth c cc nL ow) (h : ∀ i : I3, i.1 ≠ 14 → ad' i = ad i) (h2 : ∀ i ∈ idA ad, ad' i = ad i) (hA : adA ad' = adA ad) {mc ms : Nat} (hq : k ≤ mc ∧ n ≤ ms) {G' : GS} {v r0 : Int32} {ty : FieldType} (hr : meth.sig.returnType = some ty) (hn : narrow ty (.int v) = .int v) (hdg : decode cc pc = .ok (.ireturn, 1)) (hv : v = r0) (hG : G = G') : J D ca ad' p l e R s m args below meth c k n (MQ below (post D ca ad (some (.int r0)) G') args s mc ms (adA ad)) nL G pc lv [.int v] := by
  subst hv; subst hG
  intro H locs ls hP hS hl
  rw [hA] at hS
  exact W.widen hq.1 hq.2 (W.zret C1.1 C1.2.1 hr hn (fun t ht hW => post_at C1 (wsG_sub h h2 hP) hS ht hW) hS.2.2 hdg C1.2.2.2.2.2.2.2.2.2)
end NW
