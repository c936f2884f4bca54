/-! ROWS: one judgement J over the picture of all cells-/
def tab (t i : Nat) : Int32 := ([[500, 20, 50, 1, 0, 0], [5000, 900, 5000, 30, 12, 1], [50, 200, 700]].getD t []).getD i 0
def tabN (t : Nat) : Nat := if t = 2 then 3 else 6
def tabF (t : Nat) : String := if t = 0 then "LEAST_SETTINGS" else if t = 1 then "MOST_SETTINGS" else "JUGS"
/-- the static tables -/
def scX (ad : I3 → Nat) (i : Nat) : Int32 := Int32.ofNat (ad (18, i, 0))
def stA (ad : I3 → Nat) (U : State) (H : Heap) : Prop := (∀ t, t < 3 → va_Z RX5 (tabF t) "[I" (.ref (ad (17, t, 0))) (adA ad) U H ∧ va_T .int (ad (17, t, 0)) (tabN t) (fun i => .int (tab t i)) (adA ad) U H) ∧ va_T .int (ad (17, 3, 0)) (ad (19, 0, 0)) (fun i => .int (scX ad i)) (adA ad) U H
theorem stA_to {ad : I3 → Nat} {s t : State} {H : Heap} {locs : List Loc} (h : stA ad s s.heap) (hW : s.WarmedH t.vm) (hS : va_S (adA ad) s.heap H locs) (ht : t.heap = H) : stA ad t t.heap := by
  have hk : ∀ a : Nat, a < s.heap.size → ¬ adA ad a → t.heap[a]? = s.heap[a]? := fun a h1 h2 => by rw [ht]; exact hS.2.1 a h1 h2
  exact ⟨fun i hi => ⟨((h.1 i hi).1.kept hk).moved hW.alike, ((h.1 i hi).2.kept hk).moved hW.alike⟩, (h.2.kept hk).moved hW.alike⟩
/-- the world as a method sees it -/
def rU (D : va_G) (ca : Nat → ClassId) (ad : I3 → Nat) (G : GS) (U : State) : Prop := va_P D vwCl (wsG ca ad G) U.heap ∧ va_K D vwCl (tysG ca) U ∧ stA ad U U.heap ∧ nwU U
theorem rU_calling {D : va_G} {ca : Nat → ClassId} {ad : I3 → Nat} {G : GS} {U : State} (g : JFrame) (mk : MethodId) (a : Array Value) (h : rU D ca ad G U) : rU D ca ad G (U.calling g mk a) := by
  obtain ⟨h1, h2, h3, h4⟩ := h
  refine ⟨h1, va_K.moved (u := U) (U := U.calling g mk a) (Vm.Alike.refl U.vm) h2, ⟨fun t ht => ⟨?_, ?_⟩, ?_⟩, nw_same (u := U) (U := U.calling g mk a) rfl h4⟩
  · exact va_Z.moved (u := U) (U := U.calling g mk a) (Vm.Alike.refl U.vm) (h3.1 t ht).1
  · exact va_T.moved (u := U) (U := U.calling g mk a) (Vm.Alike.refl U.vm) (h3.1 t ht).2
  · exact va_T.moved (u := U) (U := U.calling g mk a) (Vm.Alike.refl U.vm) h3.2
def pre (D : va_G) (ca : Nat → ClassId) (ad : I3 → Nat) (av : List Value) (G : GS) : Array Value → State → Prop := fun v U => v = av.toArray ∧ rU D ca ad G U
def post (D : va_G) (ca : Nat → ClassId) (ad : I3 → Nat) (ro : Option Value) (G : GS) : Array Value → State → Outcome → State → Prop := fun _ st oc t => oc = .returned ro ∧ rU D ca ad G t ∧ va_F (adA ad) st t
/-- a method's contract: called in the picture G it answers ro and leaves the picture G' -/
def MT (l : Launch) (D : va_G) (ca : Nat → ClassId) (ad : I3 → Nat) (y : MethodName) (b : ByteArray) (maxL : Nat) (ret : Option FieldType) (fr lo : Nat) (av : List Value) (G : GS) (ro : Option Value) (G' : GS) : Prop :=
  Met l y (.code y b maxL ret :: BG) ({ frames := fr, cells := 0, slots := 0, locals := lo }) (pre D ca ad av G) (post D ca ad ro G') 0 0 (adA ad)
def Cx (D : va_G) (ca : Nat → ClassId) (ad : I3 → Nat) (p : Program) (s : State) (m : MethodId) (args : Array Value) (meth : Method) (c : Code) (cc : ByteArray) (nL : Nat) (ow : String) : Prop :=
  p.tables.exec = Jvm.exec ∧ c.code = cc ∧ c.maxLocals = nL ∧ s.vm.findClass ow = some m.cls ∧ (∀ w ∈ BG, w.before args s = true) ∧ va_K D vwCl (tysG ca) s ∧ stA ad s s.heap ∧ nwU s ∧ adI ad ∧ meth.locks = false
def J (D : va_G) (ca : Nat → ClassId) (ad : I3 → Nat) (p : Program) (l : Launch) (e : Env) (R : Room) (s : State) (m : MethodId) (args : Array Value) (below : List Frame) (meth : Method) (c : Code) (k n : Nat) (Q : State → Prop) (nL : Nat) (G : GS) (pc : Nat) (lv : List (Nat × Value)) (st : List Value) : Prop :=
  ∀ (H : Heap) (locs : List Loc) (ls : Array Slot), va_P D vwCl (wsG ca ad G) H → va_S (adA ad) s.heap H locs → lv_has ls nL lv → W p l e R s m args below meth c H locs k n Q (F0 m pc ls st)
/-! what the tables say of a field's place, of a method -/
def FLw (ow : String) (idx ci k : Nat) (r : vw_C) : Prop := vwCl[ci]? = some r ∧ (∀ w ∈ u_ws r.1 r.2.1 r.2.2, w ∈ BG) ∧ k < r.2.2 ∧ (r.2.1 k).1 = r.1 ∧ Cond.fieldLink ow idx r.1 (r.2.1 k).2.1 (r.2.1 k).2.2.1 ∈ BG
def FLn (ow : String) (idx ci k : Nat) (r : vw_C) (host : String) : Prop := vwCl[ci]? = some r ∧ (∀ w ∈ u_ws r.1 r.2.1 r.2.2, w ∈ BG) ∧ k < r.2.2 ∧ (r.2.1 k).1 = r.1 ∧ Cond.fieldLinkNest ow idx r.1 (r.2.1 k).2.1 (r.2.1 k).2.2.1 host ∈ nestL
def PLw (k : Nat) (ty : FieldType) (r : vw_C) : Prop := (∃ ty0 : Nat → FieldType, ∀ j, j < r.2.2 → parseFieldDescriptor (r.2.1 j).2.2.1 = some (ty0 j)) ∧ (∀ a, a < r.2.2 → ∀ b, b < r.2.2 → a ≠ b → (r.2.1 a).2.1 ≠ (r.2.1 b).2.1) ∧ (r.2.1 k).2.2.2 = false ∧ parseFieldDescriptor (r.2.1 k).2.2.1 = some ty
def SL (ca : Nat → ClassId) (ad : I3 → Nat) (ci : Nat) (id : I3) (k : Nat) (L : Lc) : Prop := ∀ G : GS, ∃ fs, cell ca ad G id = .inr (ci, fs) ∧ fs[k]? = some (.int (gget G L)) ∧ k < fs.length ∧ ∀ v, cell ca ad (gset G L v) id = .inr (ci, fs.set k (.int v)) ∧ ∀ id' ∈ idL, id' ≠ id → cell ca ad (gset G L v) id' = cell ca ad G id'
theorem frame_at {ca : Nat → ClassId} {ad : I3 → Nat} {id : I3} {L : Lc} (ho : ownL L = id) (G : GS) (v : Int32) : ∀ id' ∈ idL, id' ≠ id → cell ca ad (gset G L v) id' = cell ca ad G id' := by
  intro id' h1 h2
  refine cell_frame h1 (gset_B G L v) (fun L' hL' => gget_gset_ne v (fun e => h2 ?_))
  rw [← hL', e, ho]
theorem sl_of {ca : Nat → ClassId} {ad : I3 → Nat} {ci : Nat} {id : I3} {k : Nat} {L : Lc} (ho : ownL L = id) (h : ∀ G : GS, ∃ fs, cell ca ad G id = .inr (ci, fs) ∧ fs[k]? = some (.int (gget G L)) ∧ k < fs.length ∧ ∀ v, cell ca ad (gset G L v) id = .inr (ci, fs.set k (.int v))) : SL ca ad ci id k L := by
  intro G
  obtain ⟨fs, h1, h2, h3, h4⟩ := h G
  exact ⟨fs, h1, h2, h3, fun v => ⟨h4 v, frame_at ho G v⟩⟩
def RK (ca : Nat → ClassId) (ad : I3 → Nat) (ci : Nat) (id : I3) (k : Nat) (id2 : I3) : Prop := ∀ G : GS, ∃ fs, cell ca ad G id = .inr (ci, fs) ∧ fs[k]? = some (.ref (ad id2))
def AL (ca : Nat → ClassId) (ad : I3 → Nat) (id : I3) (t n : Nat) (b : Bool) (a off : Nat) : Prop := (∀ i, i < n → ownL (b, a, off + i) = id) ∧ ∀ G : GS, cell ca ad G id = .inl (ca t, n, .inl (tr n off (grow G b a)))
def OC (ca : Nat → ClassId) (ad : I3 → Nat) (id : I3) (C : String) : Prop := ∀ G : GS, ∃ ci fs r, cell ca ad G id = .inr (ci, fs) ∧ vwCl[ci]? = some r ∧ r.1 = C
def inb (i : Int32) (n : Nat) : Bool := decide (0 ≤ i.toInt ∧ i.toInt < (n : Int))
theorem inb_vp {i : Int32} {n : Nat} (h : inb i n = true) : vp_in i n := by
  have h1 := of_decide_eq_true h
  intro q
  rcases q with q | q
  · rw [Int32.lt_iff_toInt_lt] at q
    simp at q
    omega
  · have : i.toNatClampNeg = i.toInt.toNat := rfl
    omega
theorem inb_lt {i : Int32} {n : Nat} (h : inb i n = true) : i.toNatClampNeg < n := by
  have h1 := of_decide_eq_true h
  have : i.toNatClampNeg = i.toInt.toNat := rfl
  omega
def gd {α : Type} (b : Bool) (t : Option α) : Option α := if b then t else none
theorem gd_some {α : Type} {b : Bool} {t : Option α} {r : α} (h : gd b t = some r) : b = true ∧ t = some r := by
  unfold gd at h
  cases b
  · cases h
  · exact ⟨rfl, h⟩
theorem bd_some {α β : Type} {x : Option α} {f : α → Option β} {r : β} (h : x.bind f = some r) : ∃ a, x = some a ∧ f a = some r := Option.bind_eq_some_iff.mp h
theorem if_t {α : Type} {c : Prop} {i : Decidable c} {a b r : α} (h : c) (hf : @ite α c i a b = r) : a = r := by rw [if_pos h] at hf; exact hf
theorem if_f {α : Type} {c : Prop} {i : Decidable c} {a b r : α} (h : ¬ c) (hf : @ite α c i a b = r) : b = r := by rw [if_neg h] at hf; exact hf
def nz (x : Int32) : Bool := decide (¬ x = 0)
theorem nz_ne {x : Int32} (h : nz x = true) : ¬ x = 0 := of_decide_eq_true h
def isC (x : Int32) : Bool := decide (narrow .char (.int x) = .int x ∧ fits .char (.int x) = true)
theorem isC_eq {x : Int32} (h : isC x = true) : narrow .char (.int x) = .int x := (of_decide_eq_true h).1
theorem isC_fit {x : Int32} (h : isC x = true) : fits .char (.int x) = true := (of_decide_eq_true h).2
def isZ (x : Int32) : Bool := decide (narrow .boolean (.int x) = .int x)
theorem isZ_eq {x : Int32} (h : isZ x = true) : narrow .boolean (.int x) = .int x := of_decide_eq_true h
def nN (x : UInt32) : Bool := decide (x &&& 0x7fffffff ≤ 0x7f800000)
theorem nN_ok {x : UInt32} (h : nN x = true) : vf_n32 x := by unfold vf_n32; exact of_decide_eq_true h

theorem al_set {ca : Nat → ClassId} {ad : I3 → Nat} {id : I3} {t n a off i : Nat} {b : Bool} (al : AL ca ad id t n b a off) (hi : i < n) (G : GS) (v : Int32) : cell ca ad (gset G (b, a, off + i) v) id = .inl (ca t, n, .inl (upd (tr n off (grow G b a)) i v)) := by
  rw [al.2, ← tr_upd _ v hi]
  have h : grow (gset G (b, a, off + i) v) b a = upd (grow G b a) (off + i) v := by
    cases b
    · show updA G.1 a (upd (G.1 a) (off + i) v) a = _
      rw [updA_same]; rfl
    · show updA G.2.2 a (upd (G.2.2 a) (off + i) v) a = _
      rw [updA_same]; rfl
  rw [h]
section JS
variable {D : va_G} {ca : Nat → ClassId} {ad : I3 → Nat} {p : Program} {l : Launch} {e : Env} {R : Room} {s : State} {m : MethodId} {args : Array Value} {below : List Frame} {meth : Method} {c : Code} {cc : ByteArray} {nL : Nat} {ow : String} {k n : Nat} {Q : State → Prop} {G : GS} {pc : Nat} {lv : List (Nat × Value)} {st : List Value}
theorem j_iconst (C0 : Cx D ca ad p s m args meth c cc nL ow) {i : Int} {v : Int32} (hdg : decode cc pc = .ok (.iconst i, 1)) (hv : Int32.ofInt i = v) (kk : J D ca ad p l e R s m args below meth c k n Q nL G (pc + 1) lv (.int v :: st)) : J D ca ad p l e R s m args below meth c k n Q nL G pc lv st := fun H locs ls hP hS hl => lv_iconst C0.1 C0.2.1 hdg hv (kk H locs ls hP hS hl)
theorem j_bipush (C0 : Cx D ca ad p s m args meth c cc nL ow) {i : Int} {v : Int32} (hdg : decode cc pc = .ok (.bipush i, 2)) (hv : (Int8.ofInt i).toInt32 = v) (kk : J D ca ad p l e R s m args below meth c k n Q nL G (pc + 2) lv (.int v :: st)) : J D ca ad p l e R s m args below meth c k n Q nL G pc lv st := fun H locs ls hP hS hl => lv_bipush C0.1 C0.2.1 hdg hv (kk H locs ls hP hS hl)
theorem j_sipush (C0 : Cx D ca ad p s m args meth c cc nL ow) {i : Int} {v : Int32} (hdg : decode cc pc = .ok (.sipush i, 3)) (hv : (Int16.ofInt i).toInt32 = v) (kk : J D ca ad p l e R s m args below meth c k n Q nL G (pc + 3) lv (.int v :: st)) : J D ca ad p l e R s m args below meth c k n Q nL G pc lv st := fun H locs ls hP hS hl => lv_sipush C0.1 C0.2.1 hdg hv (kk H locs ls hP hS hl)
theorem j_iload_n (C0 : Cx D ca ad p s m args meth c cc nL ow) {q : Fin 4} {i : Nat} {x : Int32} (hdg : decode cc pc = .ok (.iload_n q, 1)) (hi : (q : Nat) = i) (pl : Nat) (hv : lv[pl]? = some (i, .int x)) (kk : J D ca ad p l e R s m args below meth c k n Q nL G (pc + 1) lv (.int x :: st)) : J D ca ad p l e R s m args below meth c k n Q nL G pc lv st := fun H locs ls hP hS hl => lv_iload_n C0.1 C0.2.1 hdg hi (lv_at hl pl hv) (kk H locs ls hP hS hl)
theorem j_iload (C0 : Cx D ca ad p s m args meth c cc nL ow) {i : Nat} {x : Int32} (hdg : decode cc pc = .ok (.iload i, 2)) (pl : Nat) (hv : lv[pl]? = some (i, .int x)) (kk : J D ca ad p l e R s m args below meth c k n Q nL G (pc + 2) lv (.int x :: st)) : J D ca ad p l e R s m args below meth c k n Q nL G pc lv st := fun H locs ls hP hS hl => lv_iload C0.1 C0.2.1 hdg (lv_at hl pl hv) (kk H locs ls hP hS hl)
theorem j_istore_n (C0 : Cx D ca ad p s m args meth c cc nL ow) {lv' : List (Nat × Value)} {q : Fin 4} {i : Nat} {x : Int32} (hdg : decode cc pc = .ok (.istore_n q, 1)) (hi : (q : Nat) = i) (hn : i < nL) (hl' : (i, Value.int x) :: lv.filter (fun q => !(q.1 == i) && !(q.1 + 1 == i && q.2.category == 2)) = lv') (kk : J D ca ad p l e R s m args below meth c k n Q nL G (pc + 1) lv' st) : J D ca ad p l e R s m args below meth c k n Q nL G pc lv (.int x :: st) := fun H locs ls hP hS hl => lv_istore_n C0.1 C0.2.1 hdg hi hl hn hl' (fun ls' hl2 => kk H locs ls' hP hS hl2)
theorem j_istore (C0 : Cx D ca ad p s m args meth c cc nL ow) {lv' : List (Nat × Value)} {i : Nat} {x : Int32} (hdg : decode cc pc = .ok (.istore i, 2)) (hn : i < nL) (hl' : (i, Value.int x) :: lv.filter (fun q => !(q.1 == i) && !(q.1 + 1 == i && q.2.category == 2)) = lv') (kk : J D ca ad p l e R s m args below meth c k n Q nL G (pc + 2) lv' st) : J D ca ad p l e R s m args below meth c k n Q nL G pc lv (.int x :: st) := fun H locs ls hP hS hl => lv_istore C0.1 C0.2.1 hdg hl hn hl' (fun ls' hl2 => kk H locs ls' hP hS hl2)
theorem j_aload_n (C0 : Cx D ca ad p s m args meth c cc nL ow) {q : Fin 4} {i : Nat} {x : Nat} (hdg : decode cc pc = .ok (.aload_n q, 1)) (hi : (q : Nat) = i) (pl : Nat) (hv : lv[pl]? = some (i, .ref x)) (kk : J D ca ad p l e R s m args below meth c k n Q nL G (pc + 1) lv (.ref x :: st)) : J D ca ad p l e R s m args below meth c k n Q nL G pc lv st := fun H locs ls hP hS hl => lv_aload_n C0.1 C0.2.1 hdg hi (lv_at hl pl hv) (kk H locs ls hP hS hl)
theorem j_aload (C0 : Cx D ca ad p s m args meth c cc nL ow) {i : Nat} {x : Nat} (hdg : decode cc pc = .ok (.aload i, 2)) (pl : Nat) (hv : lv[pl]? = some (i, .ref x)) (kk : J D ca ad p l e R s m args below meth c k n Q nL G (pc + 2) lv (.ref x :: st)) : J D ca ad p l e R s m args below meth c k n Q nL G pc lv st := fun H locs ls hP hS hl => lv_aload C0.1 C0.2.1 hdg (lv_at hl pl hv) (kk H locs ls hP hS hl)
theorem j_astore_n (C0 : Cx D ca ad p s m args meth c cc nL ow) {lv' : List (Nat × Value)} {q : Fin 4} {i : Nat} {x : Nat} (hdg : decode cc pc = .ok (.astore_n q, 1)) (hi : (q : Nat) = i) (hn : i < nL) (hl' : (i, Value.ref x) :: lv.filter (fun q => !(q.1 == i) && !(q.1 + 1 == i && q.2.category == 2)) = lv') (kk : J D ca ad p l e R s m args below meth c k n Q nL G (pc + 1) lv' st) : J D ca ad p l e R s m args below meth c k n Q nL G pc lv (.ref x :: st) := fun H locs ls hP hS hl => lv_astore_n C0.1 C0.2.1 hdg hi hl hn hl' (fun ls' hl2 => kk H locs ls' hP hS hl2)
theorem j_astore (C0 : Cx D ca ad p s m args meth c cc nL ow) {lv' : List (Nat × Value)} {i : Nat} {x : Nat} (hdg : decode cc pc = .ok (.astore i, 2)) (hn : i < nL) (hl' : (i, Value.ref x) :: lv.filter (fun q => !(q.1 == i) && !(q.1 + 1 == i && q.2.category == 2)) = lv') (kk : J D ca ad p l e R s m args below meth c k n Q nL G (pc + 2) lv' st) : J D ca ad p l e R s m args below meth c k n Q nL G pc lv (.ref x :: st) := fun H locs ls hP hS hl => lv_astore C0.1 C0.2.1 hdg hl hn hl' (fun ls' hl2 => kk H locs ls' hP hS hl2)
theorem j_fload_n (C0 : Cx D ca ad p s m args meth c cc nL ow) {q : Fin 4} {i : Nat} {x : UInt32} (hdg : decode cc pc = .ok (.fload_n q, 1)) (hi : (q : Nat) = i) (pl : Nat) (hv : lv[pl]? = some (i, .float x)) (kk : J D ca ad p l e R s m args below meth c k n Q nL G (pc + 1) lv (.float x :: st)) : J D ca ad p l e R s m args below meth c k n Q nL G pc lv st := fun H locs ls hP hS hl => lv_fload_n C0.1 C0.2.1 hdg hi (lv_at hl pl hv) (kk H locs ls hP hS hl)
theorem j_fload (C0 : Cx D ca ad p s m args meth c cc nL ow) {i : Nat} {x : UInt32} (hdg : decode cc pc = .ok (.fload i, 2)) (pl : Nat) (hv : lv[pl]? = some (i, .float x)) (kk : J D ca ad p l e R s m args below meth c k n Q nL G (pc + 2) lv (.float x :: st)) : J D ca ad p l e R s m args below meth c k n Q nL G pc lv st := fun H locs ls hP hS hl => lv_fload C0.1 C0.2.1 hdg (lv_at hl pl hv) (kk H locs ls hP hS hl)
theorem j_fstore_n (C0 : Cx D ca ad p s m args meth c cc nL ow) {lv' : List (Nat × Value)} {q : Fin 4} {i : Nat} {x : UInt32} (hdg : decode cc pc = .ok (.fstore_n q, 1)) (hi : (q : Nat) = i) (hn : i < nL) (hl' : (i, Value.float x) :: lv.filter (fun q => !(q.1 == i) && !(q.1 + 1 == i && q.2.category == 2)) = lv') (kk : J D ca ad p l e R s m args below meth c k n Q nL G (pc + 1) lv' st) : J D ca ad p l e R s m args below meth c k n Q nL G pc lv (.float x :: st) := fun H locs ls hP hS hl => lv_fstore_n C0.1 C0.2.1 hdg hi hl hn hl' (fun ls' hl2 => kk H locs ls' hP hS hl2)
theorem j_fstore (C0 : Cx D ca ad p s m args meth c cc nL ow) {lv' : List (Nat × Value)} {i : Nat} {x : UInt32} (hdg : decode cc pc = .ok (.fstore i, 2)) (hn : i < nL) (hl' : (i, Value.float x) :: lv.filter (fun q => !(q.1 == i) && !(q.1 + 1 == i && q.2.category == 2)) = lv') (kk : J D ca ad p l e R s m args below meth c k n Q nL G (pc + 2) lv' st) : J D ca ad p l e R s m args below meth c k n Q nL G pc lv (.float x :: st) := fun H locs ls hP hS hl => lv_fstore C0.1 C0.2.1 hdg hl hn hl' (fun ls' hl2 => kk H locs ls' hP hS hl2)
theorem j_aload_nN (C0 : Cx D ca ad p s m args meth c cc nL ow) {q : Fin 4} {i : Nat} (hdg : decode cc pc = .ok (.aload_n q, 1)) (hi : (q : Nat) = i) (pl : Nat) (hv : lv[pl]? = some (i, .null)) (kk : J D ca ad p l e R s m args below meth c k n Q nL G (pc + 1) lv (.null :: st)) : J D ca ad p l e R s m args below meth c k n Q nL G pc lv st := fun H locs ls hP hS hl => lv_aload_nN C0.1 C0.2.1 hdg hi (lv_at hl pl hv) (kk H locs ls hP hS hl)
theorem j_aloadN (C0 : Cx D ca ad p s m args meth c cc nL ow) {i : Nat} (hdg : decode cc pc = .ok (.aload i, 2)) (pl : Nat) (hv : lv[pl]? = some (i, .null)) (kk : J D ca ad p l e R s m args below meth c k n Q nL G (pc + 2) lv (.null :: st)) : J D ca ad p l e R s m args below meth c k n Q nL G pc lv st := fun H locs ls hP hS hl => lv_aloadN C0.1 C0.2.1 hdg (lv_at hl pl hv) (kk H locs ls hP hS hl)
theorem j_astore_nN (C0 : Cx D ca ad p s m args meth c cc nL ow) {lv' : List (Nat × Value)} {q : Fin 4} {i : Nat} (hdg : decode cc pc = .ok (.astore_n q, 1)) (hi : (q : Nat) = i) (hn : i < nL) (hl' : (i, Value.null) :: lv.filter (fun q => !(q.1 == i) && !(q.1 + 1 == i && q.2.category == 2)) = lv') (kk : J D ca ad p l e R s m args below meth c k n Q nL G (pc + 1) lv' st) : J D ca ad p l e R s m args below meth c k n Q nL G pc lv (.null :: st) := fun H locs ls hP hS hl => lv_astore_nN C0.1 C0.2.1 hdg hi hl hn hl' (fun ls' hl2 => kk H locs ls' hP hS hl2)
theorem j_astoreN (C0 : Cx D ca ad p s m args meth c cc nL ow) {lv' : List (Nat × Value)} {i : Nat} (hdg : decode cc pc = .ok (.astore i, 2)) (hn : i < nL) (hl' : (i, Value.null) :: lv.filter (fun q => !(q.1 == i) && !(q.1 + 1 == i && q.2.category == 2)) = lv') (kk : J D ca ad p l e R s m args below meth c k n Q nL G (pc + 2) lv' st) : J D ca ad p l e R s m args below meth c k n Q nL G pc lv (.null :: st) := fun H locs ls hP hS hl => lv_astoreN C0.1 C0.2.1 hdg hl hn hl' (fun ls' hl2 => kk H locs ls' hP hS hl2)
theorem j_iinc (C0 : Cx D ca ad p s m args meth c cc nL ow) {lv' : List (Nat × Value)} {i : Nat} {a : Int} {x v : Int32} (hdg : decode cc pc = .ok (.iinc i a, 3)) (pl : Nat) (hk : lv[pl]? = some (i, .int x)) (hv : x + Int32.ofInt a = v) (hn : i < nL) (hl' : (i, Value.int v) :: lv.filter (fun q => !(q.1 == i) && !(q.1 + 1 == i && q.2.category == 2)) = lv') (kk : J D ca ad p l e R s m args below meth c k n Q nL G (pc + 3) lv' st) : J D ca ad p l e R s m args below meth c k n Q nL G pc lv st := fun H locs ls hP hS hl => lv_iinc C0.1 C0.2.1 hdg hl hk hv hn hl' (fun ls' hl2 => kk H locs ls' hP hS hl2)
theorem j_iadd (C0 : Cx D ca ad p s m args meth c cc nL ow) {x y : Int32} (hdg : decode cc pc = .ok (.iadd, 1)) (kk : J D ca ad p l e R s m args below meth c k n Q nL G (pc + 1) lv (.int (x + y) :: st)) : J D ca ad p l e R s m args below meth c k n Q nL G pc lv (.int y :: .int x :: st) := fun H locs ls hP hS hl => lv_iadd C0.1 C0.2.1 hdg (kk H locs ls hP hS hl)
theorem j_isub (C0 : Cx D ca ad p s m args meth c cc nL ow) {x y : Int32} (hdg : decode cc pc = .ok (.isub, 1)) (kk : J D ca ad p l e R s m args below meth c k n Q nL G (pc + 1) lv (.int (x - y) :: st)) : J D ca ad p l e R s m args below meth c k n Q nL G pc lv (.int y :: .int x :: st) := fun H locs ls hP hS hl => lv_isub C0.1 C0.2.1 hdg (kk H locs ls hP hS hl)
theorem j_imul (C0 : Cx D ca ad p s m args meth c cc nL ow) {x y : Int32} (hdg : decode cc pc = .ok (.imul, 1)) (kk : J D ca ad p l e R s m args below meth c k n Q nL G (pc + 1) lv (.int (x * y) :: st)) : J D ca ad p l e R s m args below meth c k n Q nL G pc lv (.int y :: .int x :: st) := fun H locs ls hP hS hl => lv_imul C0.1 C0.2.1 hdg (kk H locs ls hP hS hl)
theorem j_iand (C0 : Cx D ca ad p s m args meth c cc nL ow) {x y : Int32} (hdg : decode cc pc = .ok (.iand, 1)) (kk : J D ca ad p l e R s m args below meth c k n Q nL G (pc + 1) lv (.int (x &&& y) :: st)) : J D ca ad p l e R s m args below meth c k n Q nL G pc lv (.int y :: .int x :: st) := fun H locs ls hP hS hl => lv_iand C0.1 C0.2.1 hdg (kk H locs ls hP hS hl)
theorem j_ior (C0 : Cx D ca ad p s m args meth c cc nL ow) {x y : Int32} (hdg : decode cc pc = .ok (.ior, 1)) (kk : J D ca ad p l e R s m args below meth c k n Q nL G (pc + 1) lv (.int (x ||| y) :: st)) : J D ca ad p l e R s m args below meth c k n Q nL G pc lv (.int y :: .int x :: st) := fun H locs ls hP hS hl => lv_ior C0.1 C0.2.1 hdg (kk H locs ls hP hS hl)
theorem j_ixor (C0 : Cx D ca ad p s m args meth c cc nL ow) {x y : Int32} (hdg : decode cc pc = .ok (.ixor, 1)) (kk : J D ca ad p l e R s m args below meth c k n Q nL G (pc + 1) lv (.int (x ^^^ y) :: st)) : J D ca ad p l e R s m args below meth c k n Q nL G pc lv (.int y :: .int x :: st) := fun H locs ls hP hS hl => lv_ixor C0.1 C0.2.1 hdg (kk H locs ls hP hS hl)
theorem j_ishl (C0 : Cx D ca ad p s m args meth c cc nL ow) {x y : Int32} (hdg : decode cc pc = .ok (.ishl, 1)) (kk : J D ca ad p l e R s m args below meth c k n Q nL G (pc + 1) lv (.int (x <<< (y &&& 31)) :: st)) : J D ca ad p l e R s m args below meth c k n Q nL G pc lv (.int y :: .int x :: st) := fun H locs ls hP hS hl => lv_ishl C0.1 C0.2.1 hdg (kk H locs ls hP hS hl)
theorem j_ishr (C0 : Cx D ca ad p s m args meth c cc nL ow) {x y : Int32} (hdg : decode cc pc = .ok (.ishr, 1)) (kk : J D ca ad p l e R s m args below meth c k n Q nL G (pc + 1) lv (.int (x >>> (y &&& 31)) :: st)) : J D ca ad p l e R s m args below meth c k n Q nL G pc lv (.int y :: .int x :: st) := fun H locs ls hP hS hl => lv_ishr C0.1 C0.2.1 hdg (kk H locs ls hP hS hl)
theorem j_ineg (C0 : Cx D ca ad p s m args meth c cc nL ow) {x : Int32} (hdg : decode cc pc = .ok (.ineg, 1)) (kk : J D ca ad p l e R s m args below meth c k n Q nL G (pc + 1) lv (.int (-x) :: st)) : J D ca ad p l e R s m args below meth c k n Q nL G pc lv (.int x :: st) := fun H locs ls hP hS hl => lv_ineg C0.1 C0.2.1 hdg (kk H locs ls hP hS hl)
theorem j_idiv (C0 : Cx D ca ad p s m args meth c cc nL ow) {x y : Int32} (hdg : decode cc pc = .ok (.idiv, 1)) (hne : nz y = true) (kk : J D ca ad p l e R s m args below meth c k n Q nL G (pc + 1) lv (.int (x / y) :: st)) : J D ca ad p l e R s m args below meth c k n Q nL G pc lv (.int y :: .int x :: st) := fun H locs ls hP hS hl => lv_idiv C0.1 C0.2.1 hdg (nz_ne hne) (kk H locs ls hP hS hl)
theorem j_irem (C0 : Cx D ca ad p s m args meth c cc nL ow) {x y : Int32} (hdg : decode cc pc = .ok (.irem, 1)) (hne : nz y = true) (kk : J D ca ad p l e R s m args below meth c k n Q nL G (pc + 1) lv (.int (x - x / y * y) :: st)) : J D ca ad p l e R s m args below meth c k n Q nL G pc lv (.int y :: .int x :: st) := fun H locs ls hP hS hl => lv_irem C0.1 C0.2.1 hdg (nz_ne hne) (kk H locs ls hP hS hl)
theorem j_i2c (C0 : Cx D ca ad p s m args meth c cc nL ow) {x v : Int32} (hdg : decode cc pc = .ok (.i2c, 1)) (hv : (x.toUInt32 % 65536).toInt32 = v) (kk : J D ca ad p l e R s m args below meth c k n Q nL G (pc + 1) lv (.int v :: st)) : J D ca ad p l e R s m args below meth c k n Q nL G pc lv (.int x :: st) := fun H locs ls hP hS hl => lv_i2c C0.1 C0.2.1 hdg hv (kk H locs ls hP hS hl)
theorem j_dup (C0 : Cx D ca ad p s m args meth c cc nL ow) {va : Value} (hdg : decode cc pc = .ok (.dup, 1)) (hva : va.category = 1) (kk : J D ca ad p l e R s m args below meth c k n Q nL G (pc + 1) lv (va :: va :: st)) : J D ca ad p l e R s m args below meth c k n Q nL G pc lv (va :: st) := fun H locs ls hP hS hl => lv_dup C0.1 C0.2.1 hdg hva (kk H locs ls hP hS hl)
theorem j_pop (C0 : Cx D ca ad p s m args meth c cc nL ow) {va : Value} (hdg : decode cc pc = .ok (.pop, 1)) (hva : va.category = 1) (kk : J D ca ad p l e R s m args below meth c k n Q nL G (pc + 1) lv st) : J D ca ad p l e R s m args below meth c k n Q nL G pc lv (va :: st) := fun H locs ls hP hS hl => lv_pop C0.1 C0.2.1 hdg hva (kk H locs ls hP hS hl)
theorem j_dup2 (C0 : Cx D ca ad p s m args meth c cc nL ow) {va vb : Value} (hdg : decode cc pc = .ok (.dup2, 1)) (hva : va.category = 1) (hvb : vb.category = 1) (kk : J D ca ad p l e R s m args below meth c k n Q nL G (pc + 1) lv (va :: vb :: va :: vb :: st)) : J D ca ad p l e R s m args below meth c k n Q nL G pc lv (va :: vb :: st) := fun H locs ls hP hS hl => lv_dup2_11 C0.1 C0.2.1 hdg hva hvb (kk H locs ls hP hS hl)
theorem j_goto (C0 : Cx D ca ad p s m args meth c cc nL ow) {off : Int} {tgt : Nat} (hdg : decode cc pc = .ok (.goto off, 3)) (ht : (pc : Int) + off = (tgt : Int)) (kk : J D ca ad p l e R s m args below meth c k n Q nL G tgt lv st) : J D ca ad p l e R s m args below meth c k n Q nL G pc lv st := fun H locs ls hP hS hl => lv_goto C0.1 C0.2.1 hdg ht (kk H locs ls hP hS hl)
theorem j_null (C0 : Cx D ca ad p s m args meth c cc nL ow) (hdg : decode cc pc = .ok (.aconst_null, 1)) (kk : J D ca ad p l e R s m args below meth c k n Q nL G (pc + 1) lv (.null :: st)) : J D ca ad p l e R s m args below meth c k n Q nL G pc lv st := fun H locs ls hP hS hl => lv_null C0.1 C0.2.1 hdg (kk H locs ls hP hS hl)
theorem j_if_eq (C0 : Cx D ca ad p s m args meth c cc nL ow) {x : Int32} {off : Int} {tgt : Nat} (hdg : decode cc pc = .ok (.ifCond .eq off, 3)) (ht : (pc : Int) + off = (tgt : Int)) (kt : x = 0 → J D ca ad p l e R s m args below meth c k n Q nL G tgt lv st) (kf : ¬ x = 0 → J D ca ad p l e R s m args below meth c k n Q nL G (pc + 3) lv st) : J D ca ad p l e R s m args below meth c k n Q nL G pc lv (.int x :: st) := fun H locs ls hP hS hl => lv_if_eq C0.1 C0.2.1 hdg ht (fun h => kt h H locs ls hP hS hl) (fun h => kf h H locs ls hP hS hl)
theorem j_icmp_eq (C0 : Cx D ca ad p s m args meth c cc nL ow) {x y : Int32} {off : Int} {tgt : Nat} (hdg : decode cc pc = .ok (.if_icmp .eq off, 3)) (ht : (pc : Int) + off = (tgt : Int)) (kt : x = y → J D ca ad p l e R s m args below meth c k n Q nL G tgt lv st) (kf : ¬ x = y → J D ca ad p l e R s m args below meth c k n Q nL G (pc + 3) lv st) : J D ca ad p l e R s m args below meth c k n Q nL G pc lv (.int y :: .int x :: st) := fun H locs ls hP hS hl => lv_icmp_eq C0.1 C0.2.1 hdg ht (fun h => kt h H locs ls hP hS hl) (fun h => kf h H locs ls hP hS hl)
theorem j_if_ne (C0 : Cx D ca ad p s m args meth c cc nL ow) {x : Int32} {off : Int} {tgt : Nat} (hdg : decode cc pc = .ok (.ifCond .ne off, 3)) (ht : (pc : Int) + off = (tgt : Int)) (kt : ¬ x = 0 → J D ca ad p l e R s m args below meth c k n Q nL G tgt lv st) (kf : x = 0 → J D ca ad p l e R s m args below meth c k n Q nL G (pc + 3) lv st) : J D ca ad p l e R s m args below meth c k n Q nL G pc lv (.int x :: st) := fun H locs ls hP hS hl => lv_if_ne C0.1 C0.2.1 hdg ht (fun h => kt h H locs ls hP hS hl) (fun h => kf h H locs ls hP hS hl)
theorem j_icmp_ne (C0 : Cx D ca ad p s m args meth c cc nL ow) {x y : Int32} {off : Int} {tgt : Nat} (hdg : decode cc pc = .ok (.if_icmp .ne off, 3)) (ht : (pc : Int) + off = (tgt : Int)) (kt : ¬ x = y → J D ca ad p l e R s m args below meth c k n Q nL G tgt lv st) (kf : x = y → J D ca ad p l e R s m args below meth c k n Q nL G (pc + 3) lv st) : J D ca ad p l e R s m args below meth c k n Q nL G pc lv (.int y :: .int x :: st) := fun H locs ls hP hS hl => lv_icmp_ne C0.1 C0.2.1 hdg ht (fun h => kt h H locs ls hP hS hl) (fun h => kf h H locs ls hP hS hl)
theorem j_if_lt (C0 : Cx D ca ad p s m args meth c cc nL ow) {x : Int32} {off : Int} {tgt : Nat} (hdg : decode cc pc = .ok (.ifCond .lt off, 3)) (ht : (pc : Int) + off = (tgt : Int)) (kt : x < 0 → J D ca ad p l e R s m args below meth c k n Q nL G tgt lv st) (kf : ¬ x < 0 → J D ca ad p l e R s m args below meth c k n Q nL G (pc + 3) lv st) : J D ca ad p l e R s m args below meth c k n Q nL G pc lv (.int x :: st) := fun H locs ls hP hS hl => lv_if_lt C0.1 C0.2.1 hdg ht (fun h => kt h H locs ls hP hS hl) (fun h => kf h H locs ls hP hS hl)
theorem j_icmp_lt (C0 : Cx D ca ad p s m args meth c cc nL ow) {x y : Int32} {off : Int} {tgt : Nat} (hdg : decode cc pc = .ok (.if_icmp .lt off, 3)) (ht : (pc : Int) + off = (tgt : Int)) (kt : x < y → J D ca ad p l e R s m args below meth c k n Q nL G tgt lv st) (kf : ¬ x < y → J D ca ad p l e R s m args below meth c k n Q nL G (pc + 3) lv st) : J D ca ad p l e R s m args below meth c k n Q nL G pc lv (.int y :: .int x :: st) := fun H locs ls hP hS hl => lv_icmp_lt C0.1 C0.2.1 hdg ht (fun h => kt h H locs ls hP hS hl) (fun h => kf h H locs ls hP hS hl)
theorem j_if_ge (C0 : Cx D ca ad p s m args meth c cc nL ow) {x : Int32} {off : Int} {tgt : Nat} (hdg : decode cc pc = .ok (.ifCond .ge off, 3)) (ht : (pc : Int) + off = (tgt : Int)) (kt : 0 ≤ x → J D ca ad p l e R s m args below meth c k n Q nL G tgt lv st) (kf : ¬ 0 ≤ x → J D ca ad p l e R s m args below meth c k n Q nL G (pc + 3) lv st) : J D ca ad p l e R s m args below meth c k n Q nL G pc lv (.int x :: st) := fun H locs ls hP hS hl => lv_if_ge C0.1 C0.2.1 hdg ht (fun h => kt h H locs ls hP hS hl) (fun h => kf h H locs ls hP hS hl)
theorem j_icmp_ge (C0 : Cx D ca ad p s m args meth c cc nL ow) {x y : Int32} {off : Int} {tgt : Nat} (hdg : decode cc pc = .ok (.if_icmp .ge off, 3)) (ht : (pc : Int) + off = (tgt : Int)) (kt : y ≤ x → J D ca ad p l e R s m args below meth c k n Q nL G tgt lv st) (kf : ¬ y ≤ x → J D ca ad p l e R s m args below meth c k n Q nL G (pc + 3) lv st) : J D ca ad p l e R s m args below meth c k n Q nL G pc lv (.int y :: .int x :: st) := fun H locs ls hP hS hl => lv_icmp_ge C0.1 C0.2.1 hdg ht (fun h => kt h H locs ls hP hS hl) (fun h => kf h H locs ls hP hS hl)
theorem j_if_gt (C0 : Cx D ca ad p s m args meth c cc nL ow) {x : Int32} {off : Int} {tgt : Nat} (hdg : decode cc pc = .ok (.ifCond .gt off, 3)) (ht : (pc : Int) + off = (tgt : Int)) (kt : 0 < x → J D ca ad p l e R s m args below meth c k n Q nL G tgt lv st) (kf : ¬ 0 < x → J D ca ad p l e R s m args below meth c k n Q nL G (pc + 3) lv st) : J D ca ad p l e R s m args below meth c k n Q nL G pc lv (.int x :: st) := fun H locs ls hP hS hl => lv_if_gt C0.1 C0.2.1 hdg ht (fun h => kt h H locs ls hP hS hl) (fun h => kf h H locs ls hP hS hl)
theorem j_icmp_gt (C0 : Cx D ca ad p s m args meth c cc nL ow) {x y : Int32} {off : Int} {tgt : Nat} (hdg : decode cc pc = .ok (.if_icmp .gt off, 3)) (ht : (pc : Int) + off = (tgt : Int)) (kt : y < x → J D ca ad p l e R s m args below meth c k n Q nL G tgt lv st) (kf : ¬ y < x → J D ca ad p l e R s m args below meth c k n Q nL G (pc + 3) lv st) : J D ca ad p l e R s m args below meth c k n Q nL G pc lv (.int y :: .int x :: st) := fun H locs ls hP hS hl => lv_icmp_gt C0.1 C0.2.1 hdg ht (fun h => kt h H locs ls hP hS hl) (fun h => kf h H locs ls hP hS hl)
theorem j_if_le (C0 : Cx D ca ad p s m args meth c cc nL ow) {x : Int32} {off : Int} {tgt : Nat} (hdg : decode cc pc = .ok (.ifCond .le off, 3)) (ht : (pc : Int) + off = (tgt : Int)) (kt : x ≤ 0 → J D ca ad p l e R s m args below meth c k n Q nL G tgt lv st) (kf : ¬ x ≤ 0 → J D ca ad p l e R s m args below meth c k n Q nL G (pc + 3) lv st) : J D ca ad p l e R s m args below meth c k n Q nL G pc lv (.int x :: st) := fun H locs ls hP hS hl => lv_if_le C0.1 C0.2.1 hdg ht (fun h => kt h H locs ls hP hS hl) (fun h => kf h H locs ls hP hS hl)
theorem j_icmp_le (C0 : Cx D ca ad p s m args meth c cc nL ow) {x y : Int32} {off : Int} {tgt : Nat} (hdg : decode cc pc = .ok (.if_icmp .le off, 3)) (ht : (pc : Int) + off = (tgt : Int)) (kt : x ≤ y → J D ca ad p l e R s m args below meth c k n Q nL G tgt lv st) (kf : ¬ x ≤ y → J D ca ad p l e R s m args below meth c k n Q nL G (pc + 3) lv st) : J D ca ad p l e R s m args below meth c k n Q nL G pc lv (.int y :: .int x :: st) := fun H locs ls hP hS hl => lv_icmp_le C0.1 C0.2.1 hdg ht (fun h => kt h H locs ls hP hS hl) (fun h => kf h H locs ls hP hS hl)
theorem j_ifnonnull (C0 : Cx D ca ad p s m args meth c cc nL ow) {x : Nat} {off : Int} {tgt : Nat} (hdg : decode cc pc = .ok (.ifnonnull off, 3)) (ht : (pc : Int) + off = (tgt : Int)) (kk : J D ca ad p l e R s m args below meth c k n Q nL G tgt lv st) : J D ca ad p l e R s m args below meth c k n Q nL G pc lv (.ref x :: st) := fun H locs ls hP hS hl => lv_ifnonnull C0.1 C0.2.1 hdg ht (kk H locs ls hP hS hl)
theorem j_ifnull (C0 : Cx D ca ad p s m args meth c cc nL ow) {x : Nat} {off : Int} (hdg : decode cc pc = .ok (.ifnull off, 3)) (kk : J D ca ad p l e R s m args below meth c k n Q nL G (pc + 3) lv st) : J D ca ad p l e R s m args below meth c k n Q nL G pc lv (.ref x :: st) := fun H locs ls hP hS hl => lv_ifnull C0.1 C0.2.1 hdg (kk H locs ls hP hS hl)
theorem j_ifnullN (C0 : Cx D ca ad p s m args meth c cc nL ow) {off : Int} {tgt : Nat} (hdg : decode cc pc = .ok (.ifnull off, 3)) (ht : (pc : Int) + off = (tgt : Int)) (kk : J D ca ad p l e R s m args below meth c k n Q nL G tgt lv st) : J D ca ad p l e R s m args below meth c k n Q nL G pc lv (.null :: st) := fun H locs ls hP hS hl => lv_ifnullN C0.1 C0.2.1 hdg ht (kk H locs ls hP hS hl)
theorem j_ifnonnullN (C0 : Cx D ca ad p s m args meth c cc nL ow) {off : Int} (hdg : decode cc pc = .ok (.ifnonnull off, 3)) (kk : J D ca ad p l e R s m args below meth c k n Q nL G (pc + 3) lv st) : J D ca ad p l e R s m args below meth c k n Q nL G pc lv (.null :: st) := fun H locs ls hP hS hl => lv_ifnonnullN C0.1 C0.2.1 hdg (kk H locs ls hP hS hl)
theorem j_ldc (C0 : Cx D ca ad p s m args meth c cc nL ow) {v : Int32} {i : Nat} (hdg : decode cc pc = .ok (.ldc i, 2)) (hc : Cond.constant ow i v ∈ BG) (kk : J D ca ad p l e R s m args below meth c k n Q nL G (pc + 2) lv (.int v :: st)) : J D ca ad p l e R s m args below meth c k n Q nL G pc lv st := fun H locs ls hP hS hl => lv_ldc C0.1 C0.2.1 C0.2.2.2.1 (C0.2.2.2.2.1 _ hc) hdg (kk H locs ls hP hS hl)
theorem j_ldcf (C0 : Cx D ca ad p s m args meth c cc nL ow) {v : UInt32} {i : Nat} (hdg : decode cc pc = .ok (.ldc i, 2)) (hc : Cond.constantFloat ow i v ∈ BG) (kk : J D ca ad p l e R s m args below meth c k n Q nL G (pc + 2) lv (.float v :: st)) : J D ca ad p l e R s m args below meth c k n Q nL G pc lv st := fun H locs ls hP hS hl => lv_ldcf C0.1 C0.2.1 C0.2.2.2.1 (C0.2.2.2.2.1 _ hc) hdg (kk H locs ls hP hS hl)
theorem j_ldcW (C0 : Cx D ca ad p s m args meth c cc nL ow) {v : Int32} {i : Nat} (hdg : decode cc pc = .ok (.ldc_w i, 3)) (hc : Cond.constant ow i v ∈ BG) (kk : J D ca ad p l e R s m args below meth c k n Q nL G (pc + 3) lv (.int v :: st)) : J D ca ad p l e R s m args below meth c k n Q nL G pc lv st := fun H locs ls hP hS hl => lv_ldcw C0.1 C0.2.1 C0.2.2.2.1 (C0.2.2.2.2.1 _ hc) hdg (kk H locs ls hP hS hl)
theorem j_ldcfW (C0 : Cx D ca ad p s m args meth c cc nL ow) {v : UInt32} {i : Nat} (hdg : decode cc pc = .ok (.ldc_w i, 3)) (hc : Cond.constantFloat ow i v ∈ BG) (kk : J D ca ad p l e R s m args below meth c k n Q nL G (pc + 3) lv (.float v :: st)) : J D ca ad p l e R s m args below meth c k n Q nL G pc lv st := by
  intro H locs ls hP hS hl T hT X
  obtain ⟨t, a, b⟩ := kk H locs ls hP hS hl T hT X
  obtain ⟨k0, cf, hk, hcf, hcp⟩ := Cond.constantFloat_spec C0.2.2.2.1 (C0.2.2.2.2.1 _ hc)
  obtain ⟨k', hk', he⟩ := X.warmed.alike.2.2 _ _ hk
  refine ⟨t, ?_, b⟩
  jvm_step X.here [C0.1, C0.2.1, hdg, ldc_w.wp_float (s := T) (f := F0 m pc ls st) X.here.top hk' (by rw [he]; exact hcf) hcp]
  exact a
theorem j_fconst0 (C0 : Cx D ca ad p s m args meth c cc nL ow) (hdg : decode cc pc = .ok (.fconst 0, 1)) (kk : J D ca ad p l e R s m args below meth c k n Q nL G (pc + 1) lv (.float FP.fconst0 :: st)) : J D ca ad p l e R s m args below meth c k n Q nL G pc lv st := fun H locs ls hP hS hl => lv_fconst0 C0.1 C0.2.1 hdg (kk H locs ls hP hS hl)
theorem j_fconst1 (C0 : Cx D ca ad p s m args meth c cc nL ow) (hdg : decode cc pc = .ok (.fconst 1, 1)) (kk : J D ca ad p l e R s m args below meth c k n Q nL G (pc + 1) lv (.float FP.fconst1 :: st)) : J D ca ad p l e R s m args below meth c k n Q nL G pc lv st := fun H locs ls hP hS hl => lv_fconst1 C0.1 C0.2.1 hdg (kk H locs ls hP hS hl)
theorem j_fconst2 (C0 : Cx D ca ad p s m args meth c cc nL ow) (hdg : decode cc pc = .ok (.fconst 2, 1)) (kk : J D ca ad p l e R s m args below meth c k n Q nL G (pc + 1) lv (.float FP.fconst2 :: st)) : J D ca ad p l e R s m args below meth c k n Q nL G pc lv st := fun H locs ls hP hS hl => lv_fconst2 C0.1 C0.2.1 hdg (kk H locs ls hP hS hl)
theorem j_fsub (C0 : Cx D ca ad p s m args meth c cc nL ow) {x y : UInt32} (hdg : decode cc pc = .ok (.fsub, 1)) (hne : nN (FP.fsub x y) = true) (kk : J D ca ad p l e R s m args below meth c k n Q nL G (pc + 1) lv (.float (FP.fsub x y) :: st)) : J D ca ad p l e R s m args below meth c k n Q nL G pc lv (.float y :: .float x :: st) := fun H locs ls hP hS hl => lv_fsub C0.1 C0.2.1 hdg (nN_ok hne) (kk H locs ls hP hS hl)
theorem j_fmul (C0 : Cx D ca ad p s m args meth c cc nL ow) {x y : UInt32} (hdg : decode cc pc = .ok (.fmul, 1)) (hne : nN (FP.fmul x y) = true) (kk : J D ca ad p l e R s m args below meth c k n Q nL G (pc + 1) lv (.float (FP.fmul x y) :: st)) : J D ca ad p l e R s m args below meth c k n Q nL G pc lv (.float y :: .float x :: st) := fun H locs ls hP hS hl => lv_fmul C0.1 C0.2.1 hdg (nN_ok hne) (kk H locs ls hP hS hl)
theorem j_fdiv (C0 : Cx D ca ad p s m args meth c cc nL ow) {x y : UInt32} (hdg : decode cc pc = .ok (.fdiv, 1)) (hne : nN (FP.fdiv x y) = true) (kk : J D ca ad p l e R s m args below meth c k n Q nL G (pc + 1) lv (.float (FP.fdiv x y) :: st)) : J D ca ad p l e R s m args below meth c k n Q nL G pc lv (.float y :: .float x :: st) := fun H locs ls hP hS hl => lv_fdiv C0.1 C0.2.1 hdg (nN_ok hne) (kk H locs ls hP hS hl)
theorem j_fcmp (C0 : Cx D ca ad p s m args meth c cc nL ow) {x y : UInt32} {op : CmpOp} (hdg : decode cc pc = .ok (.fcmp op, 1)) (kk : J D ca ad p l e R s m args below meth c k n Q nL G (pc + 1) lv (.int (Op.cmpValue (FP.fcmp x y) op) :: st)) : J D ca ad p l e R s m args below meth c k n Q nL G pc lv (.float y :: .float x :: st) := fun H locs ls hP hS hl => lv_fcmp C0.1 C0.2.1 hdg (kk H locs ls hP hS hl)
theorem j_i2f (C0 : Cx D ca ad p s m args meth c cc nL ow) {x : Int32} (hdg : decode cc pc = .ok (.i2f, 1)) (kk : J D ca ad p l e R s m args below meth c k n Q nL G (pc + 1) lv (.float (FP.i2f x) :: st)) : J D ca ad p l e R s m args below meth c k n Q nL G pc lv (.int x :: st) := fun H locs ls hP hS hl => lv_i2f C0.1 C0.2.1 hdg (kk H locs ls hP hS hl)
theorem j_f2i (C0 : Cx D ca ad p s m args meth c cc nL ow) {x : UInt32} (hdg : decode cc pc = .ok (.f2i, 1)) (kk : J D ca ad p l e R s m args below meth c k n Q nL G (pc + 1) lv (.int (FP.f2i x) :: st)) : J D ca ad p l e R s m args below meth c k n Q nL G pc lv (.float x :: st) := fun H locs ls hP hS hl => lv_f2i C0.1 C0.2.1 hdg (kk H locs ls hP hS hl)
theorem j_lookup (C0 : Cx D ca ad p s m args meth c cc nL ow) {dflt : Int} {ps : Array (Int × Int)} {len : Nat} {x : Int32} {off : Int} {tgt : Nat} (hdg : decode cc pc = .ok (.lookupswitch dflt ps, len)) (hp : (ps.toList.zip (ps.toList.drop 1)).all (fun (a, next) => a.1 < next.1) = true) (ho : Op.lookupswitch.offset ps.toList dflt x.toInt = off) (ht : (pc : Int) + off = (tgt : Int)) (kk : J D ca ad p l e R s m args below meth c k n Q nL G tgt lv st) : J D ca ad p l e R s m args below meth c k n Q nL G pc lv (.int x :: st) := fun H locs ls hP hS hl => lv_lookup C0.1 C0.2.1 hdg hp ho ht (kk H locs ls hP hS hl)
theorem j_tableOut (C0 : Cx D ca ad p s m args meth c cc nL ow) {dflt lo hi : Int} {offs : Array Int} {len : Nat} {x : Int32} {tgt : Nat} (hdg : decode cc pc = .ok (.tableswitch dflt lo hi offs, len)) (h : x.toInt < lo ∨ hi < x.toInt) (ht : (pc : Int) + dflt = (tgt : Int)) (kk : J D ca ad p l e R s m args below meth c k n Q nL G tgt lv st) : J D ca ad p l e R s m args below meth c k n Q nL G pc lv (.int x :: st) := fun H locs ls hP hS hl => lv_tableOut C0.1 C0.2.1 hdg h ht (kk H locs ls hP hS hl)
theorem j_tableIn (C0 : Cx D ca ad p s m args meth c cc nL ow) {dflt lo hi : Int} {offs : Array Int} {len : Nat} {x : Int32} {off : Int} {tgt : Nat} (hdg : decode cc pc = .ok (.tableswitch dflt lo hi offs, len)) (h1 : ¬ x.toInt < lo) (h2 : ¬ hi < x.toInt) (ho : offs[(x.toInt - lo).toNat]? = some off) (ht : (pc : Int) + off = (tgt : Int)) (kk : J D ca ad p l e R s m args below meth c k n Q nL G tgt lv st) : J D ca ad p l e R s m args below meth c k n Q nL G pc lv (.int x :: st) := fun H locs ls hP hS hl => lv_tableIn C0.1 C0.2.1 hdg h1 h2 ho ht (kk H locs ls hP hS hl)
theorem j_get (C0 : Cx D ca ad p s m args meth c cc nL ow) {idx ci kk0 : Nat} {r : vw_C} {id : I3} {v : Value} (fl : FLw ow idx ci kk0 r) (hid : id ∈ idA ad) (hc : ∃ fs, cell ca ad G id = .inr (ci, fs) ∧ fs[kk0]? = some v) (hdg : decode cc pc = .ok (.getfield idx, 3)) (kk : J D ca ad p l e R s m args below meth c k n Q nL G (pc + 3) lv (v :: st)) : J D ca ad p l e R s m args below meth c k n Q nL G pc lv (.ref (ad id) :: st) := by
  intro H locs ls hP hS hl
  obtain ⟨q, hq⟩ := ws_ix hid
  obtain ⟨fs, hfs, hv⟩ := hc
  obtain ⟨f1, f2, f3, f4, f5⟩ := fl
  have he := ws_at (ca := ca) (ad := ad) (G := G) hq
  rw [hfs] at he
  exact va_get C0.1 C0.2.1 C0.2.2.2.2.1 f2 C0.2.2.2.1 C0.2.2.2.2.2.1 hP q he f1 kk0 f3 (C0.2.2.2.2.1 _ f5) (fun x hx => by rw [f4] at hx; exact hx) hv hdg (kk H locs ls hP hS hl)
theorem j_getN (C0 : Cx D ca ad p s m args meth c cc nL ow) {idx ci kk0 : Nat} {r : vw_C} {host : String} {id : I3} {v : Value} (fl : FLn ow idx ci kk0 r host) (hid : id ∈ idA ad) (hc : ∃ fs, cell ca ad G id = .inr (ci, fs) ∧ fs[kk0]? = some v) (hdg : decode cc pc = .ok (.getfield idx, 3)) (kk : J D ca ad p l e R s m args below meth c k n Q nL G (pc + 3) lv (v :: st)) : J D ca ad p l e R s m args below meth c k n Q nL G pc lv (.ref (ad id) :: st) := by
  intro H locs ls hP hS hl
  obtain ⟨q, hq⟩ := ws_ix hid
  obtain ⟨fs, hfs, hv⟩ := hc
  obtain ⟨f1, f2, f3, f4, f5⟩ := fl
  have he := ws_at (ca := ca) (ad := ad) (G := G) hq
  rw [hfs] at he
  exact va_getN C0.1 C0.2.1 C0.2.2.2.2.1 f2 C0.2.2.2.1 C0.2.2.2.2.2.1 hP q he f1 kk0 f3 (va_Nw.use rfl (C0.2.2.2.2.2.2.2.1 _ f5)) (fun x hx => by rw [f4] at hx; exact hx) hv hdg (kk H locs ls hP hS hl)
theorem j_geti (C0 : Cx D ca ad p s m args meth c cc nL ow) {idx ci kk0 : Nat} {r : vw_C} {id : I3} {L : Lc} {x : Int32} (fl : FLw ow idx ci kk0 r) (sl : SL ca ad ci id kk0 L) (hid : id ∈ idA ad) (hx : gget G L = x) (hdg : decode cc pc = .ok (.getfield idx, 3)) (kk : J D ca ad p l e R s m args below meth c k n Q nL G (pc + 3) lv (.int x :: st)) : J D ca ad p l e R s m args below meth c k n Q nL G pc lv (.ref (ad id) :: st) := by
  obtain ⟨fs, h1, h2, -⟩ := sl G
  exact j_get C0 fl hid ⟨fs, h1, by rw [h2, hx]⟩ hdg kk
theorem j_getiN (C0 : Cx D ca ad p s m args meth c cc nL ow) {idx ci kk0 : Nat} {r : vw_C} {host : String} {id : I3} {L : Lc} {x : Int32} (fl : FLn ow idx ci kk0 r host) (sl : SL ca ad ci id kk0 L) (hid : id ∈ idA ad) (hx : gget G L = x) (hdg : decode cc pc = .ok (.getfield idx, 3)) (kk : J D ca ad p l e R s m args below meth c k n Q nL G (pc + 3) lv (.int x :: st)) : J D ca ad p l e R s m args below meth c k n Q nL G pc lv (.ref (ad id) :: st) := by
  obtain ⟨fs, h1, h2, -⟩ := sl G
  exact j_getN C0 fl hid ⟨fs, h1, by rw [h2, hx]⟩ hdg kk
theorem j_getr (C0 : Cx D ca ad p s m args meth c cc nL ow) {idx ci kk0 : Nat} {r : vw_C} {id id2 : I3} (fl : FLw ow idx ci kk0 r) (rl : RK ca ad ci id kk0 id2) (hid : id ∈ idA ad) (hdg : decode cc pc = .ok (.getfield idx, 3)) (kk : J D ca ad p l e R s m args below meth c k n Q nL G (pc + 3) lv (.ref (ad id2) :: st)) : J D ca ad p l e R s m args below meth c k n Q nL G pc lv (.ref (ad id) :: st) := j_get C0 fl hid (rl G) hdg kk
theorem j_puti (C0 : Cx D ca ad p s m args meth c cc nL ow) {idx ci kk0 : Nat} {r : vw_C} {ty : FieldType} {id : I3} {L : Lc} {x : Int32} {G' : GS} (fl : FLw ow idx ci kk0 r) (pl : PLw kk0 ty r) (sl : SL ca ad ci id kk0 L) (hid : id ∈ idA ad) (hn : narrow ty (.int x) = .int x) (hft : fits ty (.int x) = true) (hG : gset G L x = G') (hdg : decode cc pc = .ok (.putfield idx, 3)) (kk : J D ca ad p l e R s m args below meth c k n Q nL G' (pc + 3) lv st) : J D ca ad p l e R s m args below meth c k n Q nL G pc lv (.int x :: .ref (ad id) :: st) := by
  intro H locs ls hP hS hl
  subst hG
  obtain ⟨q, hq⟩ := ws_ix hid
  obtain ⟨fs, hfs, hv, hlen, hset⟩ := sl G
  obtain ⟨h1, h2⟩ := hset x
  obtain ⟨f1, f2, f3, f4, f5⟩ := fl
  obtain ⟨⟨ty0, p1⟩, p2, p3, p4⟩ := pl
  have he := ws_at (ca := ca) (ad := ad) (G := G) hq
  rw [hfs] at he
  refine va_put C0.1 C0.2.1 C0.2.2.2.2.1 f2 ty0 p1 p2 C0.2.2.2.1 C0.2.2.2.2.2.1 hP (ws_D C0.2.2.2.2.2.2.2.2.1 G) hS q he f1 kk0 f3 (C0.2.2.2.2.1 _ f5) (fun x hx => by rw [f4] at hx; exact hx) p3 p4 hn hft hlen hdg (fun H1 locs1 hP1 _ hS1 => ?_)
  rw [ws_set hq h1 h2] at hP1
  exact kk H1 locs1 ls hP1 hS1 hl
theorem j_iald (C0 : Cx D ca ad p s m args meth c cc nL ow) {t0 n0 a0 off : Nat} {b0 : Bool} {id : I3} {i x : Int32} (al : AL ca ad id t0 n0 b0 a0 off) (ht : (tysG ca)[t0]? = some (ca t0, .int)) (hid : id ∈ idA ad) (hin : inb i n0 = true) (hx : gget G (b0, a0, off + i.toNatClampNeg) = x) (hdg : decode cc pc = .ok (.iaload, 1)) (kk : J D ca ad p l e R s m args below meth c k n Q nL G (pc + 1) lv (.int x :: st)) : J D ca ad p l e R s m args below meth c k n Q nL G pc lv (.int i :: .ref (ad id) :: st) := by
  intro H locs ls hP hS hl
  obtain ⟨q, hq⟩ := ws_ix hid
  have he := ws_at (ca := ca) (ad := ad) (G := G) hq
  rw [al.2 G] at he
  refine va_iald C0.1 C0.2.1 C0.2.2.2.2.2.1 hP q t0 he ht (inb_vp hin) hdg ?_
  rw [tr_at _ (inb_lt hin), show grow G b0 a0 (off + i.toNatClampNeg) = x from hx]
  exact kk H locs ls hP hS hl
theorem j_cald (C0 : Cx D ca ad p s m args meth c cc nL ow) {t0 n0 a0 off : Nat} {b0 : Bool} {id : I3} {i x : Int32} (al : AL ca ad id t0 n0 b0 a0 off) (ht : (tysG ca)[t0]? = some (ca t0, .char)) (hid : id ∈ idA ad) (hin : inb i n0 = true) (hx : gget G (b0, a0, off + i.toNatClampNeg) = x) (hdg : decode cc pc = .ok (.caload, 1)) (kk : J D ca ad p l e R s m args below meth c k n Q nL G (pc + 1) lv (.int x :: st)) : J D ca ad p l e R s m args below meth c k n Q nL G pc lv (.int i :: .ref (ad id) :: st) := by
  intro H locs ls hP hS hl
  obtain ⟨q, hq⟩ := ws_ix hid
  have he := ws_at (ca := ca) (ad := ad) (G := G) hq
  rw [al.2 G] at he
  refine va_cald C0.1 C0.2.1 C0.2.2.2.2.2.1 hP q t0 he ht (inb_vp hin) hdg ?_
  rw [tr_at _ (inb_lt hin), show grow G b0 a0 (off + i.toNatClampNeg) = x from hx]
  exact kk H locs ls hP hS hl
theorem j_zald (C0 : Cx D ca ad p s m args meth c cc nL ow) {t0 n0 a0 off : Nat} {b0 : Bool} {id : I3} {i x : Int32} (al : AL ca ad id t0 n0 b0 a0 off) (ht : (tysG ca)[t0]? = some (ca t0, .boolean)) (hid : id ∈ idA ad) (hin : inb i n0 = true) (hx : gget G (b0, a0, off + i.toNatClampNeg) = x) (hdg : decode cc pc = .ok (.baload, 1)) (kk : J D ca ad p l e R s m args below meth c k n Q nL G (pc + 1) lv (.int x :: st)) : J D ca ad p l e R s m args below meth c k n Q nL G pc lv (.int i :: .ref (ad id) :: st) := by
  intro H locs ls hP hS hl
  obtain ⟨q, hq⟩ := ws_ix hid
  have he := ws_at (ca := ca) (ad := ad) (G := G) hq
  rw [al.2 G] at he
  refine va_zald C0.1 C0.2.1 C0.2.2.2.2.2.1 hP q t0 he ht (inb_vp hin) hdg ?_
  rw [tr_at _ (inb_lt hin), show grow G b0 a0 (off + i.toNatClampNeg) = x from hx]
  exact kk H locs ls hP hS hl
theorem j_iast (C0 : Cx D ca ad p s m args meth c cc nL ow) {t0 n0 a0 off : Nat} {b0 : Bool} {id : I3} {i x : Int32} {G' : GS} (al : AL ca ad id t0 n0 b0 a0 off) (ht : (tysG ca)[t0]? = some (ca t0, .int)) (hid : id ∈ idA ad) (hin : inb i n0 = true) (hG : gset G (b0, a0, off + i.toNatClampNeg) x = G') (hdg : decode cc pc = .ok (.iastore, 1)) (kk : J D ca ad p l e R s m args below meth c k n Q nL G' (pc + 1) lv st) : J D ca ad p l e R s m args below meth c k n Q nL G pc lv (.int x :: .int i :: .ref (ad id) :: st) := by
  intro H locs ls hP hS hl
  subst hG
  obtain ⟨q, hq⟩ := ws_ix hid
  have he := ws_at (ca := ca) (ad := ad) (G := G) hq
  rw [al.2 G] at he
  refine va_iast C0.1 C0.2.1 C0.2.2.2.2.2.1 hP (ws_D C0.2.2.2.2.2.2.2.2.1 G) hS q t0 he ht (inb_vp hin) hdg (fun H1 locs1 hP1 _ hS1 => ?_)
  rw [ws_set (G' := gset G (b0, a0, off + i.toNatClampNeg) x) hq (al_set al (inb_lt hin) G _) (frame_at (al.1 _ (inb_lt hin)) G _)] at hP1
  exact kk H1 locs1 ls hP1 hS1 hl
theorem j_cast (C0 : Cx D ca ad p s m args meth c cc nL ow) {t0 n0 a0 off : Nat} {b0 : Bool} {id : I3} {i x : Int32} {G' : GS} (al : AL ca ad id t0 n0 b0 a0 off) (ht : (tysG ca)[t0]? = some (ca t0, .char)) (hid : id ∈ idA ad) (hin : inb i n0 = true) (hG : gset G (b0, a0, off + i.toNatClampNeg) (vp_nar .char x) = G') (hdg : decode cc pc = .ok (.castore, 1)) (kk : J D ca ad p l e R s m args below meth c k n Q nL G' (pc + 1) lv st) : J D ca ad p l e R s m args below meth c k n Q nL G pc lv (.int x :: .int i :: .ref (ad id) :: st) := by
  intro H locs ls hP hS hl
  subst hG
  obtain ⟨q, hq⟩ := ws_ix hid
  have he := ws_at (ca := ca) (ad := ad) (G := G) hq
  rw [al.2 G] at he
  refine va_cast C0.1 C0.2.1 C0.2.2.2.2.2.1 hP (ws_D C0.2.2.2.2.2.2.2.2.1 G) hS q t0 he ht (inb_vp hin) hdg (fun H1 locs1 hP1 _ hS1 => ?_)
  rw [ws_set (G' := gset G (b0, a0, off + i.toNatClampNeg) (vp_nar .char x)) hq (al_set al (inb_lt hin) G _) (frame_at (al.1 _ (inb_lt hin)) G _)] at hP1
  exact kk H1 locs1 ls hP1 hS1 hl
theorem j_zast (C0 : Cx D ca ad p s m args meth c cc nL ow) {t0 n0 a0 off : Nat} {b0 : Bool} {id : I3} {i x : Int32} {G' : GS} (al : AL ca ad id t0 n0 b0 a0 off) (ht : (tysG ca)[t0]? = some (ca t0, .boolean)) (hid : id ∈ idA ad) (hin : inb i n0 = true) (hG : gset G (b0, a0, off + i.toNatClampNeg) (vp_nar .boolean x) = G') (hdg : decode cc pc = .ok (.bastore, 1)) (kk : J D ca ad p l e R s m args below meth c k n Q nL G' (pc + 1) lv st) : J D ca ad p l e R s m args below meth c k n Q nL G pc lv (.int x :: .int i :: .ref (ad id) :: st) := by
  intro H locs ls hP hS hl
  subst hG
  obtain ⟨q, hq⟩ := ws_ix hid
  have he := ws_at (ca := ca) (ad := ad) (G := G) hq
  rw [al.2 G] at he
  refine va_zast C0.1 C0.2.1 C0.2.2.2.2.2.1 hP (ws_D C0.2.2.2.2.2.2.2.2.1 G) hS q t0 he ht (inb_vp hin) hdg (fun H1 locs1 hP1 _ hS1 => ?_)
  rw [ws_set (G' := gset G (b0, a0, off + i.toNatClampNeg) (vp_nar .boolean x)) hq (al_set al (inb_lt hin) G _) (frame_at (al.1 _ (inb_lt hin)) G _)] at hP1
  exact kk H1 locs1 ls hP1 hS1 hl
theorem j_alen (C0 : Cx D ca ad p s m args meth c cc nL ow) {t0 n0 a0 off : Nat} {b0 : Bool} {id : I3} {v : Int32} {ty : FieldType} (al : AL ca ad id t0 n0 b0 a0 off) (ht : (tysG ca)[t0]? = some (ca t0, ty)) (hid : id ∈ idA ad) (hv : Int32.ofNat n0 = v) (hdg : decode cc pc = .ok (.arraylength, 1)) (kk : J D ca ad p l e R s m args below meth c k n Q nL G (pc + 1) lv (.int v :: st)) : J D ca ad p l e R s m args below meth c k n Q nL G pc lv (.ref (ad id) :: st) := by
  intro H locs ls hP hS hl
  obtain ⟨q, hq⟩ := ws_ix hid
  have he := ws_at (ca := ca) (ad := ad) (G := G) hq
  rw [al.2 G] at he
  exact va_alen C0.1 C0.2.1 C0.2.2.2.2.2.1 hP q t0 he ht hv hdg (kk H locs ls hP hS hl)
theorem j_alenq (C0 : Cx D ca ad p s m args meth c cc nL ow) {t0 n0 : Nat} {f : Nat → Nat} {id : I3} {v : Int32} {ty : FieldType} (al : cell ca ad G id = .inl (ca t0, n0, .inr (.inr (.inr (.inr (trR n0 f)))))) (ht : (tysG ca)[t0]? = some (ca t0, ty)) (hid : id ∈ idA ad) (hv : Int32.ofNat n0 = v) (hdg : decode cc pc = .ok (.arraylength, 1)) (kk : J D ca ad p l e R s m args below meth c k n Q nL G (pc + 1) lv (.int v :: st)) : J D ca ad p l e R s m args below meth c k n Q nL G pc lv (.ref (ad id) :: st) := by
  intro H locs ls hP hS hl
  obtain ⟨q, hq⟩ := ws_ix hid
  have he := ws_at (ca := ca) (ad := ad) (G := G) hq
  rw [al] at he
  exact va_alen C0.1 C0.2.1 C0.2.2.2.2.2.1 hP q t0 he ht hv hdg (kk H locs ls hP hS hl)
theorem j_aldq (C0 : Cx D ca ad p s m args meth c cc nL ow) {t0 n0 : Nat} {f : Nat → Nat} {id : I3} {i : Int32} {C : String} (al : cell ca ad G id = .inl (ca t0, n0, .inr (.inr (.inr (.inr (trR n0 f)))))) (ht : (tysG ca)[t0]? = some (ca t0, .object C)) (hid : id ∈ idA ad) (hin : inb i n0 = true) (hdg : decode cc pc = .ok (.aaload, 1)) (kk : J D ca ad p l e R s m args below meth c k n Q nL G (pc + 1) lv (.ref (f i.toNatClampNeg) :: st)) : J D ca ad p l e R s m args below meth c k n Q nL G pc lv (.int i :: .ref (ad id) :: st) := by
  intro H locs ls hP hS hl
  obtain ⟨q, hq⟩ := ws_ix hid
  have he := ws_at (ca := ca) (ad := ad) (G := G) hq
  rw [al] at he
  refine va_aldq C0.1 C0.2.1 C0.2.2.2.2.2.1 hP q t0 he ht (inb_vp hin) hdg ?_
  rw [show trR n0 f i.toNatClampNeg = some (f i.toNatClampNeg) from if_pos (inb_lt hin)]
  exact kk H locs ls hP hS hl
theorem j_gets (C0 : Cx D ca ad p s m args meth c cc nL ow) {idx t : Nat} (ht : t < 3) (hc : Cond.fieldLink ow idx RX5 (tabF t) "[I" ∈ BG) (hdg : decode cc pc = .ok (.getstatic idx, 3)) (kk : J D ca ad p l e R s m args below meth c k n Q nL G (pc + 3) lv (.ref (ad (17, t, 0)) :: st)) : J D ca ad p l e R s m args below meth c k n Q nL G pc lv st := fun H locs ls hP hS hl => va_gets C0.1 C0.2.1 (C0.2.2.2.2.2.2.1.1 t ht).1 hS C0.2.2.2.1 (C0.2.2.2.2.1 _ hc) (fun _ h => h) hdg (kk H locs ls hP hS hl)
theorem j_getsN (C0 : Cx D ca ad p s m args meth c cc nL ow) {idx t : Nat} {host : String} (ht : t < 3) (hc : Cond.fieldLinkNest ow idx RX5 (tabF t) "[I" host ∈ nestL) (hdg : decode cc pc = .ok (.getstatic idx, 3)) (kk : J D ca ad p l e R s m args below meth c k n Q nL G (pc + 3) lv (.ref (ad (17, t, 0)) :: st)) : J D ca ad p l e R s m args below meth c k n Q nL G pc lv st := fun H locs ls hP hS hl => va_getsN C0.1 C0.2.1 (C0.2.2.2.2.2.2.1.1 t ht).1 hS C0.2.2.2.1 (va_Nw.use rfl (C0.2.2.2.2.2.2.2.1 _ hc)) (fun _ h => h) hdg (kk H locs ls hP hS hl)
theorem j_ti (C0 : Cx D ca ad p s m args meth c cc nL ow) {t : Nat} {i : Int32} (ht : t < 3) (hin : inb i (tabN t) = true) (hdg : decode cc pc = .ok (.iaload, 1)) (kk : J D ca ad p l e R s m args below meth c k n Q nL G (pc + 1) lv (.int (tab t i.toNatClampNeg) :: st)) : J D ca ad p l e R s m args below meth c k n Q nL G pc lv (.int i :: .ref (ad (17, t, 0)) :: st) := fun H locs ls hP hS hl => va_ti C0.1 C0.2.1 (C0.2.2.2.2.2.2.1.1 t ht).2 hS (inb_vp hin) rfl hdg (kk H locs ls hP hS hl)
theorem j_tlen (C0 : Cx D ca ad p s m args meth c cc nL ow) {t : Nat} {v : Int32} (ht : t < 3) (hv : Int32.ofNat (tabN t) = v) (hdg : decode cc pc = .ok (.arraylength, 1)) (kk : J D ca ad p l e R s m args below meth c k n Q nL G (pc + 1) lv (.int v :: st)) : J D ca ad p l e R s m args below meth c k n Q nL G pc lv (.ref (ad (17, t, 0)) :: st) := fun H locs ls hP hS hl => va_tlen C0.1 C0.2.1 (C0.2.2.2.2.2.2.1.1 t ht).2 hS hv hdg (kk H locs ls hP hS hl)
theorem j_sci (C0 : Cx D ca ad p s m args meth c cc nL ow) {i : Int32} (hin : inb i (ad (19, 0, 0)) = true) (hdg : decode cc pc = .ok (.iaload, 1)) (kk : J D ca ad p l e R s m args below meth c k n Q nL G (pc + 1) lv (.int (scX ad i.toNatClampNeg) :: st)) : J D ca ad p l e R s m args below meth c k n Q nL G pc lv (.int i :: .ref (ad (17, 3, 0)) :: st) := fun H locs ls hP hS hl => va_ti C0.1 C0.2.1 C0.2.2.2.2.2.2.1.2 hS (inb_vp hin) rfl hdg (kk H locs ls hP hS hl)
theorem j_sclen (C0 : Cx D ca ad p s m args meth c cc nL ow) {v : Int32} (hv : Int32.ofNat (ad (19, 0, 0)) = v) (hdg : decode cc pc = .ok (.arraylength, 1)) (kk : J D ca ad p l e R s m args below meth c k n Q nL G (pc + 1) lv (.int v :: st)) : J D ca ad p l e R s m args below meth c k n Q nL G pc lv (.ref (ad (17, 3, 0)) :: st) := fun H locs ls hP hS hl => va_tlen C0.1 C0.2.1 C0.2.2.2.2.2.2.1.2 hS hv hdg (kk H locs ls hP hS hl)
end JS
