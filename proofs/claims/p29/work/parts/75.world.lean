/-! WORLDS: how the cells come: a judgement over any list of cells; what is new stands behind -/
def aoU (U : State) : Prop := va_AO RX1 U ∧ va_AO RX3 U
theorem aoU_moved {u U : State} (h : u.vm.Alike U.vm) (a : aoU u) : aoU U := ⟨a.1.moved h, a.2.moved h⟩
def Cw (D : va_G) (ca : Nat → ClassId) (A : Nat → Prop) (p : Program) (s : State) (m : MethodId) (args : Array Value) (meth : Method) (c : Code) (cc : ByteArray) (nL : Nat) (ow : String) : Prop :=
  p.tables.exec = Jvm.exec ∧ c.code = cc ∧ c.maxLocals = nL ∧ s.vm.findClass ow = some m.cls ∧ (∀ w ∈ BG, w.before args s = true) ∧ va_K D vwCl (tysG ca) s ∧ nwU s ∧ aoU s ∧ (∀ q : Nat, s.heap.size ≤ q → A q) ∧ meth.locks = false
def JW (D : va_G) (A : Nat → Prop) (p : Program) (l : Launch) (e : Env) (R : Room) (s : State) (m : MethodId) (args : Array Value) (below : List Frame) (meth : Method) (c : Code) (k n : Nat) (Q : State → Prop) (nL : Nat) (ws : va_W) (pc : Nat) (lv : List (Nat × Value)) (st : List Value) : Prop :=
  ∀ (H : Heap) (locs : List Loc) (ls : Array Slot), va_P D vwCl ws H → va_D A ws → va_S A s.heap H locs → lv_has ls nL lv → W p l e R s m args below meth c H locs k n Q (F0 m pc ls st)
theorem ra_one {U : State} {a b : ClassId} {ty : FieldType} (h1 : va_RA U a ty) (h2 : va_RA U b ty) : a = b := by
  cases ty with
  | object C =>
    obtain ⟨_, _, -, -, -, h3⟩ := h1
    obtain ⟨_, _, -, -, -, h4⟩ := h2
    exact Option.some.inj (h3.symm.trans h4)
  | _ => exact Option.some.inj (Eq.trans (Eq.symm h1) h2)
/-- the class of a new array is the one that the tables say -/
theorem ca_one {D : va_G} {ca : Nat → ClassId} {s : State} {cA : ClassId} {ty : FieldType} (h : va_K D vwCl (tysG ca) s) (h2 : va_K D vwCl (tysG ca ++ [(cA, ty)]) s) (t : Nat) (ht : (tysG ca)[t]? = some (ca t, ty)) : cA = ca t :=
  ra_one (h2.2 5 (cA, ty) rfl).2 (h.2 t _ ht).2
theorem bo_inst : Cond.instanceMethod objectInit ∈ BG := bg_t 14 (by decide +kernel) rfl
theorem bo_code : Cond.code objectInit ⟨#[0xb1]⟩ 1 none ∈ BG := bg_t 15 (by decide +kernel) rfl
theorem join_end {A : Nat → Prop} {D : va_G} {cl : List vw_C} {ws w1 : va_W} {x : Nat × va_E} {H H1 : Heap} (hP : va_P D cl (ws ++ [x]) H) (hD : va_D A (ws ++ [x])) (hk : ∀ q : Nat, q < H.size → ¬ va_A [x] H.size q → H1[q]? = H[q]?) (hF : ∀ q, va_A [x] H.size q → A q) (hP1 : va_P D cl w1 H1) (hD1 : va_D (va_A [x] H.size) w1) :
    va_P D cl (ws ++ w1) H1 ∧ va_D A (ws ++ w1) := by
  have up : ∀ (k : Nat) (q : Nat × va_E), ws[k]? = some q → k < ws.length ∧ (ws ++ [x])[k]? = some q := fun k q h => by
    have hl := (List.getElem?_eq_some_iff.mp h).1
    exact ⟨hl, by rw [List.getElem?_append_left hl]; exact h⟩
  have hx : (ws ++ [x])[ws.length]? = some x := by rw [List.getElem?_append_right (Nat.le_refl _), Nat.sub_self]; rfl
  have apart : ∀ (k : Nat) (q : Nat × va_E), ws[k]? = some q → q.1 < H.size ∧ ¬ va_A [x] H.size q.1 := fun k q h => by
    obtain ⟨hl, h2⟩ := up k q h
    have hlt := (hP k q h2).lt
    refine ⟨hlt, fun z => ?_⟩
    rcases z with ⟨k2, e, z⟩ | z
    · have hz : k2 < 1 := (List.getElem?_eq_some_iff.mp z).1
      rw [show k2 = 0 by omega] at z
      have e1 : x = (q.1, e) := Option.some.inj z
      have := hD.1 k ws.length q x h2 hx (by rw [e1])
      omega
    · omega
  have hD0 : va_D A ws := ⟨fun i j a b ha hb hab => hD.1 i j a b (up i a ha).2 (up j b hb).2 hab, fun k q h => hD.2 k q (up k q h).2⟩
  refine ⟨va_P.app (fun k q h => ?_) hP1, va_D.app hD0 (hD1.weaken (fun k q _ h => hF q.1 h)) (fun i j a b ha hb hab => ?_)⟩
  · obtain ⟨g1, g2⟩ := apart k q h
    exact (hP k q (up k q h).2).kept (hk q.1 g1 g2)
  · exact (apart i a ha).2 (by rw [hab]; exact hD1.2 j b hb)
theorem last_P {D : va_G} {cl : List vw_C} {ws : va_W} {x : Nat × va_E} {H : Heap} (hP : va_P D cl (ws ++ [x]) H) : va_P D cl [x] H := fun k q h => by
  have hz : k < 1 := (List.getElem?_eq_some_iff.mp h).1
  rw [show k = 0 by omega] at h
  exact hP ws.length q (by rw [List.getElem?_append_right (Nat.le_refl _), Nat.sub_self]; exact h)
theorem last_D {A : Nat → Prop} {ws : va_W} {x : Nat × va_E} (hD : va_D A (ws ++ [x])) : va_D A [x] := by
  refine ⟨fun i j a b ha hb _ => ?_, fun k q h => ?_⟩
  · have h1 : i < 1 := (List.getElem?_eq_some_iff.mp ha).1
    have h2 : j < 1 := (List.getElem?_eq_some_iff.mp hb).1
    omega
  · have hz : k < 1 := (List.getElem?_eq_some_iff.mp h).1
    rw [show k = 0 by omega] at h
    exact hD.2 ws.length q (by rw [List.getElem?_append_right (Nat.le_refl _), Nat.sub_self]; exact h)
theorem one_D {A : Nat → Prop} {x : Nat × va_E} (h : A x.1) : va_D A [x] := by
  refine ⟨fun i j a b ha hb _ => ?_, fun k q h' => ?_⟩
  · have h1 : i < 1 := (List.getElem?_eq_some_iff.mp ha).1
    have h2 : j < 1 := (List.getElem?_eq_some_iff.mp hb).1
    omega
  · have hz : k < 1 := (List.getElem?_eq_some_iff.mp h').1
    rw [show k = 0 by omega] at h'
    have e : x = q := Option.some.inj h'
    rw [← e]; exact h
/-- a constructor's start and its contract -/
def cpre (D : va_G) (ca : Nat → ClassId) (ws : va_W) (sz : Nat) : State → Prop := fun U => U.heap.size = sz ∧ va_P D vwCl ws U.heap ∧ va_K D vwCl (tysG ca) U ∧ nwU U ∧ aoU U
def CT (l : Launch) (D : va_G) (ca : Nat → ClassId) (y : MethodName) (b : ByteArray) (maxL fr lo mc ms : Nat) (As : List Value) (e0 : va_E) {S : Type} (wp : Nat → S → va_W) : Prop :=
  ∀ h0 sz : Nat, Met l y (.code y b maxL none :: BG) ({ frames := fr, cells := mc, slots := ms, locals := lo }) (va_Pc (.ref h0 :: As) (cpre D ca [(h0, e0)] sz)) (va_Qv (fun _ : S => True) (fun u t => va_P D vwCl (wp h0 u) t.heap ∧ va_D (va_A [(h0, e0)] sz) (wp h0 u)) (va_A [(h0, e0)] sz)) mc ms (va_A [(h0, e0)] sz)
theorem ctor_J {l : Launch} {D : va_G} {ca : Nat → ClassId} {y : MethodName} {b : ByteArray} {maxL fr lo mc ms : Nat} {As : List Value} {e0 : va_E} {S : Type} {wp : Nat → S → va_W} {lvF : Nat → List (Nat × Value)}
    (hy : plainName y.cls = true) (hn : ∀ h0 : Nat, (lg_sl (.ref h0 :: As)).length ≤ maxL) (hlv : ∀ h0 : Nat, lv_args 0 (.ref h0 :: As) = lvF h0)
    (body : ∀ (A : Nat → Prop) (h0 : Nat) (p : Program) (e : Env) (s : State) (m : MethodId) (below : List Frame) (meth : Method) (c : Code), Cw D ca A p s m (Value.ref h0 :: As).toArray meth c b maxL y.cls → meth.sig.returnType = none → meth.name = y.name →
      JW D A p l e ({ frames := fr, cells := mc, slots := ms, locals := lo }) s m (Value.ref h0 :: As).toArray below meth c 0 0 (MQ below (va_Qv (fun _ : S => True) (fun u t => va_P D vwCl (wp h0 u) t.heap ∧ va_D A (wp h0 u)) A) (Value.ref h0 :: As).toArray s mc ms A) maxL [(h0, e0)] 0 (lvF h0) []) : CT l D ca y b maxL fr lo mc ms As e0 wp := by
  intro h0 sz
  refine Met.ofW (cc := b) (maxL := maxL) (ret := none) hy rfl ?_
  intro p e s m args below meth c s₁ B hml hv
  obtain ⟨rfl, hsz, hP, hK, hN, hO⟩ := hv
  subst hsz
  have hts := atoms_spec (ws := .code y b maxL none :: BG) B.pre
  have hA : ∀ q : Nat, s.heap.size ≤ q → va_A [(h0, e0)] s.heap.size q := fun q h => Or.inr h
  have hD : va_D (va_A [(h0, e0)] s.heap.size) [(h0, e0)] := one_D (Or.inl ⟨0, e0, rfl⟩)
  rw [lg_entry_eq]
  refine body (va_A [(h0, e0)] s.heap.size) h0 p e s m below meth c ⟨B.exec, B.bytes, hml, findClass_of_methodNamed B.named, fun w hw => hts w (List.mem_cons_of_mem _ hw), hK, hN, hO, hA, B.notSynchronized⟩ B.returns (name_of_methodNamed B.named B.method).1 s.heap [] _ hP hD va_S.rf ?_
  rw [← hlv]
  exact lv_entry (.ref h0 :: As) (hn h0)
section WJ
variable {D : va_G} {ca : Nat → ClassId} {A : Nat → Prop} {p : Program} {l : Launch} {e : Env} {R : Room} {s : State} {m : MethodId} {args : Array Value} {below : List Frame} {meth : Method} {c : Code} {cc : ByteArray} {nL : Nat} {ow : String} {k n : Nat} {Q : State → Prop} {ws : va_W} {pc : Nat} {lv : List (Nat × Value)} {st : List Value}
theorem w_aload_n (C0 : Cw D ca A p s m args meth c cc nL ow) {q : Fin 4} {i : Nat} {x : Nat} (hdg : decode cc pc = .ok (.aload_n q, 1)) (hi : (q : Nat) = i) (pl : Nat) (hv : lv[pl]? = some (i, .ref x)) (kk : JW D A p l e R s m args below meth c k n Q nL ws (pc + 1) lv (.ref x :: st)) : JW D A p l e R s m args below meth c k n Q nL ws pc lv st := fun H locs ls hP hD hS hl => lv_aload_n C0.1 C0.2.1 hdg hi (lv_at hl pl hv) (kk H locs ls hP hD hS hl)
theorem w_iload_n (C0 : Cw D ca A p s m args meth c cc nL ow) {q : Fin 4} {i : Nat} {x : Int32} (hdg : decode cc pc = .ok (.iload_n q, 1)) (hi : (q : Nat) = i) (pl : Nat) (hv : lv[pl]? = some (i, .int x)) (kk : JW D A p l e R s m args below meth c k n Q nL ws (pc + 1) lv (.int x :: st)) : JW D A p l e R s m args below meth c k n Q nL ws pc lv st := fun H locs ls hP hD hS hl => lv_iload_n C0.1 C0.2.1 hdg hi (lv_at hl pl hv) (kk H locs ls hP hD hS hl)
theorem w_iconst (C0 : Cw D ca A p s m args meth c cc nL ow) {i : Int} {v : Int32} (hdg : decode cc pc = .ok (.iconst i, 1)) (hv : Int32.ofInt i = v) (kk : JW D A p l e R s m args below meth c k n Q nL ws (pc + 1) lv (.int v :: st)) : JW D A p l e R s m args below meth c k n Q nL ws pc lv st := fun H locs ls hP hD hS hl => lv_iconst C0.1 C0.2.1 hdg hv (kk H locs ls hP hD hS hl)
theorem w_bipush (C0 : Cw D ca A p s m args meth c cc nL ow) {i : Int} {v : Int32} (hdg : decode cc pc = .ok (.bipush i, 2)) (hv : (Int8.ofInt i).toInt32 = v) (kk : JW D A p l e R s m args below meth c k n Q nL ws (pc + 2) lv (.int v :: st)) : JW D A p l e R s m args below meth c k n Q nL ws pc lv st := fun H locs ls hP hD hS hl => lv_bipush C0.1 C0.2.1 hdg hv (kk H locs ls hP hD hS hl)
theorem w_sipush (C0 : Cw D ca A p s m args meth c cc nL ow) {i : Int} {v : Int32} (hdg : decode cc pc = .ok (.sipush i, 3)) (hv : (Int16.ofInt i).toInt32 = v) (kk : JW D A p l e R s m args below meth c k n Q nL ws (pc + 3) lv (.int v :: st)) : JW D A p l e R s m args below meth c k n Q nL ws pc lv st := fun H locs ls hP hD hS hl => lv_sipush C0.1 C0.2.1 hdg hv (kk H locs ls hP hD hS hl)
theorem w_istore_n (C0 : Cw D ca A p s m args meth c cc nL ow) {lv' : List (Nat × Value)} {q : Fin 4} {i : Nat} {x : Int32} (hdg : decode cc pc = .ok (.istore_n q, 1)) (hi : (q : Nat) = i) (hn : i < nL) (hl' : (i, Value.int x) :: lv.filter (fun q => !(q.1 == i) && !(q.1 + 1 == i && q.2.category == 2)) = lv') (kk : JW D A p l e R s m args below meth c k n Q nL ws (pc + 1) lv' st) : JW D A p l e R s m args below meth c k n Q nL ws pc lv (.int x :: st) := fun H locs ls hP hD hS hl => lv_istore_n C0.1 C0.2.1 hdg hi hl hn hl' (fun ls' hl2 => kk H locs ls' hP hD hS hl2)
theorem w_astore_n (C0 : Cw D ca A p s m args meth c cc nL ow) {lv' : List (Nat × Value)} {q : Fin 4} {i : Nat} {x : Nat} (hdg : decode cc pc = .ok (.astore_n q, 1)) (hi : (q : Nat) = i) (hn : i < nL) (hl' : (i, Value.ref x) :: lv.filter (fun q => !(q.1 == i) && !(q.1 + 1 == i && q.2.category == 2)) = lv') (kk : JW D A p l e R s m args below meth c k n Q nL ws (pc + 1) lv' st) : JW D A p l e R s m args below meth c k n Q nL ws pc lv (.ref x :: st) := fun H locs ls hP hD hS hl => lv_astore_n C0.1 C0.2.1 hdg hi hl hn hl' (fun ls' hl2 => kk H locs ls' hP hD hS hl2)
theorem w_astore (C0 : Cw D ca A p s m args meth c cc nL ow) {lv' : List (Nat × Value)} {i : Nat} {x : Nat} (hdg : decode cc pc = .ok (.astore i, 2)) (hn : i < nL) (hl' : (i, Value.ref x) :: lv.filter (fun q => !(q.1 == i) && !(q.1 + 1 == i && q.2.category == 2)) = lv') (kk : JW D A p l e R s m args below meth c k n Q nL ws (pc + 2) lv' st) : JW D A p l e R s m args below meth c k n Q nL ws pc lv (.ref x :: st) := fun H locs ls hP hD hS hl => lv_astore C0.1 C0.2.1 hdg hl hn hl' (fun ls' hl2 => kk H locs ls' hP hD hS hl2)
theorem w_iinc (C0 : Cw D ca A p s m args meth c cc nL ow) {lv' : List (Nat × Value)} {i : Nat} {a : Int} {x v : Int32} (hdg : decode cc pc = .ok (.iinc i a, 3)) (pl : Nat) (hk : lv[pl]? = some (i, .int x)) (hv : x + Int32.ofInt a = v) (hn : i < nL) (hl' : (i, Value.int v) :: lv.filter (fun q => !(q.1 == i) && !(q.1 + 1 == i && q.2.category == 2)) = lv') (kk : JW D A p l e R s m args below meth c k n Q nL ws (pc + 3) lv' st) : JW D A p l e R s m args below meth c k n Q nL ws pc lv st := fun H locs ls hP hD hS hl => lv_iinc C0.1 C0.2.1 hdg hl hk hv hn hl' (fun ls' hl2 => kk H locs ls' hP hD hS hl2)
theorem w_dup (C0 : Cw D ca A p s m args meth c cc nL ow) {va : Value} (hdg : decode cc pc = .ok (.dup, 1)) (hva : va.category = 1) (kk : JW D A p l e R s m args below meth c k n Q nL ws (pc + 1) lv (va :: va :: st)) : JW D A p l e R s m args below meth c k n Q nL ws pc lv (va :: st) := fun H locs ls hP hD hS hl => lv_dup C0.1 C0.2.1 hdg hva (kk H locs ls hP hD hS hl)
theorem w_goto (C0 : Cw D ca A p s m args meth c cc nL ow) {off : Int} {tgt : Nat} (hdg : decode cc pc = .ok (.goto off, 3)) (ht : (pc : Int) + off = (tgt : Int)) (kk : JW D A p l e R s m args below meth c k n Q nL ws tgt lv st) : JW D A p l e R s m args below meth c k n Q nL ws pc lv st := fun H locs ls hP hD hS hl => lv_goto C0.1 C0.2.1 hdg ht (kk H locs ls hP hD hS hl)
theorem w_ge_t (C0 : Cw D ca A p s m args meth c cc nL ow) {x y : Int32} {off : Int} {tgt : Nat} (h : y ≤ x) (hdg : decode cc pc = .ok (.if_icmp .ge off, 3)) (ht : (pc : Int) + off = (tgt : Int)) (kt : JW D A p l e R s m args below meth c k n Q nL ws tgt lv st) : JW D A p l e R s m args below meth c k n Q nL ws pc lv (.int y :: .int x :: st) := fun H locs ls hP hD hS hl => lv_icmp_ge C0.1 C0.2.1 hdg ht (fun _ => kt H locs ls hP hD hS hl) (fun h' => absurd h h')
theorem w_ge_f (C0 : Cw D ca A p s m args meth c cc nL ow) {x y : Int32} {off : Int} {tgt : Nat} (h : ¬ y ≤ x) (hdg : decode cc pc = .ok (.if_icmp .ge off, 3)) (ht : (pc : Int) + off = (tgt : Int)) (kf : JW D A p l e R s m args below meth c k n Q nL ws (pc + 3) lv st) : JW D A p l e R s m args below meth c k n Q nL ws pc lv (.int y :: .int x :: st) := fun H locs ls hP hD hS hl => lv_icmp_ge C0.1 C0.2.1 hdg ht (fun h' => absurd h' h) (fun _ => kf H locs ls hP hD hS hl)
theorem w_obj (C0 : Cw D ca A p s m args meth c cc nL ow) {a idx : Nat} (h1 : Cond.methodLink ow idx objectInit ∈ BG) (hR : 1 ≤ R.frames ∧ (st.map fun v => v.category).sum + 12 ≤ R.locals) (hdg : decode cc pc = .ok (.invokespecial idx, 3)) (kk : JW D A p l e R s m args below meth c k n Q nL ws (pc + 3) lv st) : JW D A p l e R s m args below meth c k n Q nL ws pc lv (.ref a :: st) := fun H locs ls hP hD hS hl =>
  W.objInit C0.1 C0.2.1 C0.2.2.2.1 (C0.2.2.2.2.1 _ h1) (C0.2.2.2.2.1 _ bo_inst) (C0.2.2.2.2.1 _ bo_code) rfl (by rw [C0.2.2.1]; exact hl.1) rfl hdg hR.1 (by show 2 * 0 + _ + 12 ≤ _; have := hR.2; omega) (W.eq (g2 := F0 m (pc + 3) ls st) rfl (kk H locs ls hP hD hS hl))
theorem w_new (C0 : Cw D ca A p s m args meth c cc nL ow) {ci idx N : Nat} {r : vw_C} {ty : Nat → FieldType} {fs : List Value} (hr : vwCl[ci]? = some r) (hin : ∀ w ∈ u_ws r.1 r.2.1 r.2.2, w ∈ BG) (hty : ∀ k, k < r.2.2 → parseFieldDescriptor (r.2.1 k).2.2.1 = some (ty k)) (hcl : Cond.classLink ow idx r.1 ∈ BG) (hi : Cond.instantiable r.1 r.2.2 ∈ BG) (hn : Cond.initialized r.1 ∈ BG) (hN : r.2.2 = N) (hfs : ∀ j, j < r.2.2 → defaultValue (ty j) = vp_V fs j) (hR : k + 1 ≤ R.cells ∧ n + N ≤ R.slots) (hdg : decode cc pc = .ok (.new idx, 3)) (kk : ∀ q : Nat, JW D A p l e R s m args below meth c (k + 1) (n + N) Q nL (ws ++ [(q, .inr (ci, fs))]) (pc + 3) lv (.ref q :: st)) : JW D A p l e R s m args below meth c k n Q nL ws pc lv st := by
  subst hN
  exact fun H locs ls hP hD hS hl => va_new (ci := ci) C0.1 C0.2.1 C0.2.2.2.2.1 hin ty hty C0.2.2.2.1 (C0.2.2.2.2.1 _ hcl) (C0.2.2.2.2.1 _ hi) (C0.2.2.2.2.1 _ hn) C0.2.2.2.2.2.1 hP hD hS C0.2.2.2.2.2.2.2.2.1 hr hfs hR.1 hR.2 hdg (fun q H1 hP1 hD1 hS1 => kk q H1 locs ls hP1 hD1 hS1 hl)
theorem w_newa (C0 : Cw D ca A p s m args meth c cc nL ow) {atype : ArrayType} {ty : FieldType} {x : Int32} {N t : Nat} (hw : Cond.arrayClass (newarray.typeOf atype) ∈ BG) (hty : newarray.typeOf atype = ty) (ht : (tysG ca)[t]? = some (ca t, ty)) (ha : ∀ cA : ClassId, vp_cell cA (N, .inl (fun _ => 0)) = arrV cA N (fun _ => defaultValue ty)) (hn : ¬ x < 0) (hN : x.toNatClampNeg = N) (hb : N * componentBytes ty ≤ 536870912) (hR : k + 1 ≤ R.cells ∧ n + N ≤ R.slots) (hdg : decode cc pc = .ok (.newarray atype, 2)) (kk : ∀ q : Nat, JW D A p l e R s m args below meth c (k + 1) (n + N) Q nL (ws ++ [(q, .inl (ca t, N, .inl (fun _ => 0)))]) (pc + 2) lv (.ref q :: st)) : JW D A p l e R s m args below meth c k n Q nL ws pc lv (.int x :: st) :=
  fun H locs ls hP hD hS hl => va_newa C0.1 C0.2.1 (C0.2.2.2.2.1 _ hw) hty C0.2.2.2.2.2.1 hP hD hS C0.2.2.2.2.2.2.2.2.1 ha hn hN hb hR.1 hR.2 hdg (fun q cA H1 hK1 hP1 hD1 hS1 => by
    have e := ca_one C0.2.2.2.2.2.1 hK1 t ht
    subst e
    exact kk q H1 locs ls hP1 hD1 hS1 hl)
theorem w_newq (C0 : Cw D ca A p s m args meth c cc nL ow) {C : String} {x : Int32} {idx N t : Nat} (hcl : Cond.classLink ow idx C ∈ BG) (hao : va_AO C s) (ht : (tysG ca)[t]? = some (ca t, .object C)) (hn : ¬ x < 0) (hN : x.toNatClampNeg = N) (hb : N * 4 ≤ 536870912) (hR : k + 1 ≤ R.cells ∧ n + N ≤ R.slots) (hdg : decode cc pc = .ok (.anewarray idx, 3)) (kk : ∀ q : Nat, JW D A p l e R s m args below meth c (k + 1) (n + N) Q nL (ws ++ [(q, .inl (ca t, N, .inr (.inr (.inr (.inr (fun _ => none))))))]) (pc + 3) lv (.ref q :: st)) : JW D A p l e R s m args below meth c k n Q nL ws pc lv (.int x :: st) :=
  fun H locs ls hP hD hS hl => va_newq C0.1 C0.2.1 C0.2.2.2.1 (C0.2.2.2.2.1 _ hcl) hao C0.2.2.2.2.2.1 hP hD hS C0.2.2.2.2.2.2.2.2.1 hn hN hb hR.1 hR.2 hdg (fun q cA H1 hK1 hP1 hD1 hS1 => by
    have e := ca_one C0.2.2.2.2.2.1 hK1 t ht
    subst e
    exact kk q H1 locs ls hP1 hD1 hS1 hl)
theorem w_put (C0 : Cw D ca A p s m args meth c cc nL ow) {idx ci j : Nat} {r : vw_C} {tyF : Nat → FieldType} {ty : FieldType} {a q0 : Nat} {fs : List Value} {v : Value} {ws' : va_W} (fl : FLw ow idx ci j r) (hty : ∀ k, k < r.2.2 → parseFieldDescriptor (r.2.1 k).2.2.1 = some (tyF k)) (hnm : ∀ a, a < r.2.2 → ∀ b, b < r.2.2 → a ≠ b → (r.2.1 a).2.1 ≠ (r.2.1 b).2.1) (hf : (r.2.1 j).2.2.2 = false) (hd : parseFieldDescriptor (r.2.1 j).2.2.1 = some ty) (he : ws[q0]? = some (a, .inr (ci, fs))) (hv : narrow ty v = v ∧ fits ty v = true) (hl : j < fs.length) (hw : ws.set q0 (a, .inr (ci, fs.set j v)) = ws') (hdg : decode cc pc = .ok (.putfield idx, 3)) (kk : JW D A p l e R s m args below meth c k n Q nL ws' (pc + 3) lv st) : JW D A p l e R s m args below meth c k n Q nL ws pc lv (v :: .ref a :: st) := by
  subst hw
  obtain ⟨f1, f2, f3, f4, f5⟩ := fl
  exact fun H locs ls hP hD hS hl2 => va_put (ty := ty) C0.1 C0.2.1 C0.2.2.2.2.1 f2 tyF hty hnm C0.2.2.2.1 C0.2.2.2.2.2.1 hP hD hS q0 he f1 j f3 (C0.2.2.2.2.1 _ f5) (fun x hx => by rw [f4] at hx; exact hx) hf hd hv.1 hv.2 hl hdg (fun H1 locs1 hP1 hD1 hS1 => kk H1 locs1 ls hP1 hD1 hS1 hl2)
theorem w_putF (C0 : Cw D ca A p s m args meth c cc nL ow) {idx ci j : Nat} {r : vw_C} {tyF : Nat → FieldType} {ty : FieldType} {a q0 : Nat} {fs : List Value} {v : Value} {ws' : va_W} (fl : FLw ow idx ci j r) (hty : ∀ k, k < r.2.2 → parseFieldDescriptor (r.2.1 k).2.2.1 = some (tyF k)) (hnm : ∀ a, a < r.2.2 → ∀ b, b < r.2.2 → a ≠ b → (r.2.1 a).2.1 ≠ (r.2.1 b).2.1) (hf : (r.2.1 j).2.2.2 = true) (hin : meth.name = "<init>") (how : r.1 = ow) (hd : parseFieldDescriptor (r.2.1 j).2.2.1 = some ty) (he : ws[q0]? = some (a, .inr (ci, fs))) (hv : narrow ty v = v ∧ fits ty v = true) (hl : j < fs.length) (hw : ws.set q0 (a, .inr (ci, fs.set j v)) = ws') (hdg : decode cc pc = .ok (.putfield idx, 3)) (kk : JW D A p l e R s m args below meth c k n Q nL ws' (pc + 3) lv st) : JW D A p l e R s m args below meth c k n Q nL ws pc lv (v :: .ref a :: st) := by
  subst hw
  obtain ⟨f1, f2, f3, f4, f5⟩ := fl
  exact fun H locs ls hP hD hS hl2 => va_putF (ty := ty) C0.1 C0.2.1 C0.2.2.2.2.1 f2 tyF hty hnm C0.2.2.2.1 C0.2.2.2.2.2.1 hP hD hS q0 he f1 j f3 (C0.2.2.2.2.1 _ f5) (fun x hx => by rw [f4] at hx; exact hx) hf hin (f4.trans how) hd hv.1 hv.2 hl hdg (fun H1 locs1 hP1 hD1 hS1 => kk H1 locs1 ls hP1 hD1 hS1 hl2)
theorem w_get (C0 : Cw D ca A p s m args meth c cc nL ow) {idx ci j : Nat} {r : vw_C} {a q0 : Nat} {fs : List Value} {v : Value} (fl : FLw ow idx ci j r) (he : ws[q0]? = some (a, .inr (ci, fs))) (hv : fs[j]? = some v) (hdg : decode cc pc = .ok (.getfield idx, 3)) (kk : JW D A p l e R s m args below meth c k n Q nL ws (pc + 3) lv (v :: st)) : JW D A p l e R s m args below meth c k n Q nL ws pc lv (.ref a :: st) := by
  obtain ⟨f1, f2, f3, f4, f5⟩ := fl
  exact fun H locs ls hP hD hS hl => va_get C0.1 C0.2.1 C0.2.2.2.2.1 f2 C0.2.2.2.1 C0.2.2.2.2.2.1 hP q0 he f1 j f3 (C0.2.2.2.2.1 _ f5) (fun x hx => by rw [f4] at hx; exact hx) hv hdg (kk H locs ls hP hD hS hl)
theorem w_alen (C0 : Cw D ca A p s m args meth c cc nL ow) {a q0 t : Nat} {x : vp_A} {ty : FieldType} {v : Int32} (he : ws[q0]? = some (a, .inl (ca t, x))) (ht : (tysG ca)[t]? = some (ca t, ty)) (hv : Int32.ofNat x.1 = v) (hdg : decode cc pc = .ok (.arraylength, 1)) (kk : JW D A p l e R s m args below meth c k n Q nL ws (pc + 1) lv (.int v :: st)) : JW D A p l e R s m args below meth c k n Q nL ws pc lv (.ref a :: st) :=
  fun H locs ls hP hD hS hl => va_alen C0.1 C0.2.1 C0.2.2.2.2.2.1 hP q0 t he ht hv hdg (kk H locs ls hP hD hS hl)
theorem w_iast (C0 : Cw D ca A p s m args meth c cc nL ow) {a q0 N : Nat} {f : Nat → Int32} {i x : Int32} {ws' : va_W} (he : ws[q0]? = some (a, .inl (ca 0, N, .inl f))) (hin : inb i N = true) (hw : ws.set q0 (a, .inl (ca 0, N, .inl (upd f i.toNatClampNeg x))) = ws') (hdg : decode cc pc = .ok (.iastore, 1)) (kk : JW D A p l e R s m args below meth c k n Q nL ws' (pc + 1) lv st) : JW D A p l e R s m args below meth c k n Q nL ws pc lv (.int x :: .int i :: .ref a :: st) := by
  subst hw
  exact fun H locs ls hP hD hS hl => va_iast C0.1 C0.2.1 C0.2.2.2.2.2.1 hP hD hS q0 0 he rfl (inb_vp hin) hdg (fun H1 locs1 hP1 hD1 hS1 => kk H1 locs1 ls hP1 hD1 hS1 hl)
theorem w_aast (C0 : Cw D ca A p s m args meth c cc nL ow) {a q0 qk t ci v N : Nat} {r : vw_C} {vs : List Value} {f : Nat → Option Nat} {i : Int32} {ws' : va_W} (he : ws[q0]? = some (a, .inl (ca t, N, .inr (.inr (.inr (.inr f)))))) (ht : (tysG ca)[t]? = some (ca t, .object r.1)) (hr : vwCl[ci]? = some r) (hv : ws[qk]? = some (v, .inr (ci, vs))) (hin : inb i N = true) (hw : ws.set q0 (a, .inl (ca t, N, .inr (.inr (.inr (.inr (va_up f i.toNatClampNeg (some v))))))) = ws') (hdg : decode cc pc = .ok (.aastore, 1)) (kk : JW D A p l e R s m args below meth c k n Q nL ws' (pc + 1) lv st) : JW D A p l e R s m args below meth c k n Q nL ws pc lv (.ref v :: .int i :: .ref a :: st) := by
  subst hw
  exact fun H locs ls hP hD hS hl => va_astq (r := r) C0.1 C0.2.1 C0.2.2.2.2.2.1 hP hD hS q0 t qk ci he ht hv hr (inb_vp hin) hdg (fun H1 locs1 hP1 hD1 hS1 => kk H1 locs1 ls hP1 hD1 hS1 hl)
theorem cpre_blind {w0 : va_W} {sz : Nat} {av : List Value} : FrameBlind (va_Pc av (cpre D ca w0 sz)) := fun a U g mk h => by
  obtain ⟨h0, h1, h2, h3, h4, h5⟩ := h
  exact ⟨h0, h1, h2, va_K.moved (u := U) (U := U.calling g mk a) (Vm.Alike.refl U.vm) h3, nw_same (u := U) (U := U.calling g mk a) rfl h4, aoU_moved (u := U) (U := U.calling g mk a) (Vm.Alike.refl U.vm) h5⟩
theorem w_back (C0 : Cw D ca A p s m args meth c cc nL ow) {S : Type} {wp : Nat → S → va_W} {e0 : va_E} {q mc ms : Nat} {rest : List Value} {a : Array Value} {H : Heap} {locs : List Loc} {ls : Array Slot} (hP : va_P D vwCl (ws ++ [(q, e0)]) H) (hD : va_D A (ws ++ [(q, e0)])) (hS : va_S A s.heap H locs) (hl : lv_has ls nL lv)
    (hr : va_Run p l e R s m args below meth c H locs k n mc ms (F0 m pc ls st) rest (va_Qv (fun _ : S => True) (fun u t => va_P D vwCl (wp q u) t.heap ∧ va_D (va_A [(q, e0)] H.size) (wp q u)) (va_A [(q, e0)] H.size) a) (va_A [(q, e0)] H.size))
    (kk : ∀ u : S, JW D A p l e R s m args below meth c (k + mc) (n + ms) Q nL (ws ++ wp q u) (pc + 3) lv rest) : W p l e R s m args below meth c H locs k n Q (F0 m pc ls st) := by
  have hDq := last_D hD
  have hF : ∀ x, va_A [(q, e0)] H.size x → A x := fun x h => by
    rcases h with ⟨k2, e2, z⟩ | z
    · exact hDq.2 k2 (x, e2) z
    · exact C0.2.2.2.2.2.2.2.2.1 x (Nat.le_trans hS.1 z)
  exact va_callv hr hS (fun x _ h => hF x h) hF (fun u t H1 locs1 ht hvm h5 hB hz1 hk1 hS1 => by
    obtain ⟨hP1, hD1⟩ := hB
    rw [ht] at hP1
    obtain ⟨hP2, hD2⟩ := join_end hP hD hk1 hF hP1 hD1
    exact kk u H1 locs1 ls hP2 hD2 hS1 hl)
theorem w_ctor (C0 : Cw D ca A p s m args meth c cc nL ow) {S : Type} {wp : Nat → S → va_W} {e0 : va_E} {y : MethodName} {b : ByteArray} {q maxL fr lo mc ms na idx : Nat} {As rest : List Value} (hM : CT l D ca y b maxL fr lo mc ms As e0 wp) (kw : KW ow idx y b maxL none na) (ki : Cond.instanceMethod y ∈ BG) (hy1 : y.name = "<init>") (hR : fr + 1 ≤ R.frames ∧ 8 + (maxL + 11) + lo ≤ R.locals) (hq : k + mc ≤ R.cells ∧ n + ms ≤ R.slots) (hA : As.length = na) (hst : st = As.reverse ++ .ref q :: rest) (hW : (rest.map fun v => v.category).sum ≤ 8) (hdg : decode cc pc = .ok (.invokespecial idx, 3))
    (kk : ∀ u : S, JW D A p l e R s m args below meth c (k + mc) (n + ms) Q nL (ws ++ wp q u) (pc + 3) lv rest) : JW D A p l e R s m args below meth c k n Q nL (ws ++ [(q, e0)]) pc lv st := by
  subst hst
  intro H locs ls hP hD hS hl
  have hts := C0.2.2.2.2.1
  refine w_back C0 hP hD hS hl (va_runI (n := na) (Ts := BG) (own := ow) (index := idx) (b := q) (As := As) (rest := rest) ⟨C0.1, C0.2.1, C0.2.2.1, C0.2.2.2.1, hts⟩ (hM q H.size) ⟨callB_of na hts (code_good kw.2.2.1) rfl rfl rfl (hts _ kw.2.1) (hts _ kw.1) kw.2.2.2 hR, hy1, hts _ ki⟩ ⟨cpre_blind, fun U hU hWm => ⟨rfl, by rw [hU], by rw [hU]; exact last_P hP, va_K.moved hWm.alike C0.2.2.2.2.2.1, nw_warm hWm C0.2.2.2.2.2.2.1, aoU_moved hWm.alike C0.2.2.2.2.2.2.2.1⟩⟩ rfl hA hl.1 rfl ?_ hdg hq) kk
  show 2 * 0 + _ ≤ 8
  omega
theorem w_ctorN (C0 : Cw D ca A p s m args meth c cc nL ow) {S : Type} {wp : Nat → S → va_W} {e0 : va_E} {y : MethodName} {host : String} {b : ByteArray} {q maxL fr lo mc ms na idx : Nat} {As rest : List Value} (hM : CT l D ca y b maxL fr lo mc ms As e0 wp) (kw : KN ow idx y host b maxL none na) (ki : Cond.instanceMethod y ∈ BG) (hy1 : y.name = "<init>") (hR : fr + 1 ≤ R.frames ∧ 8 + (maxL + 11) + lo ≤ R.locals) (hq : k + mc ≤ R.cells ∧ n + ms ≤ R.slots) (hA : As.length = na) (hst : st = As.reverse ++ .ref q :: rest) (hW : (rest.map fun v => v.category).sum ≤ 8) (hdg : decode cc pc = .ok (.invokespecial idx, 3))
    (kk : ∀ u : S, JW D A p l e R s m args below meth c (k + mc) (n + ms) Q nL (ws ++ wp q u) (pc + 3) lv rest) : JW D A p l e R s m args below meth c k n Q nL (ws ++ [(q, e0)]) pc lv st := by
  subst hst
  intro H locs ls hP hD hS hl
  have hts := C0.2.2.2.2.1
  refine w_back C0 hP hD hS hl (va_runIN (n := na) (Ts := BG) (own := ow) (index := idx) (b := q) (As := As) (rest := rest) ⟨C0.1, C0.2.1, C0.2.2.1, C0.2.2.2.1, hts⟩ (hM q H.size) ⟨va_cnB na hts (code_good kw.2.2.1) rfl rfl rfl (C0.2.2.2.2.2.2.1 _ kw.1) (hts _ kw.2.1) kw.2.2.2 hR, hy1, hts _ ki⟩ ⟨cpre_blind, fun U hU hWm => ⟨rfl, by rw [hU], by rw [hU]; exact last_P hP, va_K.moved hWm.alike C0.2.2.2.2.2.1, nw_warm hWm C0.2.2.2.2.2.2.1, aoU_moved hWm.alike C0.2.2.2.2.2.2.2.1⟩⟩ rfl hA hl.1 rfl ?_ hdg hq) kk
  show 2 * 0 + _ ≤ 8
  omega
theorem w_ret (C0 : Cw D ca A p s m args meth c cc nL ow) {S : Type} {wp : S → va_W} (u : S) (hu : wp u = ws) (hr : meth.sig.returnType = none) (hdg : decode cc pc = .ok (.return_, 1)) : JW D A p l e R s m args below meth c k n (MQ below (va_Qv (fun _ : S => True) (fun u t => va_P D vwCl (wp u) t.heap ∧ va_D A (wp u)) A) args s k n A) nL ws pc lv [] := by
  subst hu
  exact fun H locs ls hP hD hS hl => W.vret C0.1 C0.2.1 hr (fun t ht hW => ⟨⟨u, rfl, trivial, by rw [ht]; exact hP, hD⟩, hS.F ht⟩) hS.2.2 hdg C0.2.2.2.2.2.2.2.2.2
end WJ
