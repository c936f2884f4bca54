/-! a method from its entry; its ends; calls -/
theorem Met.ofWF {l : Launch} {y : MethodName} {ws ws' : List Cond} {rm : Room} {Pc : Array Value → State → Prop} {Qc : Array Value → State → Outcome → State → Prop} {mc ms : Nat} {free : Addr → Prop} {cc : ByteArray} {maxL : Nat} {ret : Option FieldType}
    (hy : plainFor y = true) (hw : ws = Cond.code y cc maxL ret :: ws')
    (body : ∀ p e s m args below meth c s₁, BodyLoose p l y (headSpec ws rm) cc maxL ret e s m args below meth c s₁ → c.maxLocals = maxL → Pc args s →
      W p l e (headSpec ws rm).room s m args below meth c s.heap [] 0 0 (MQ below Qc args s mc ms free) (entryFrame m args maxL)) : Met l y ws rm Pc Qc mc ms free := by
  refine MetFree.of_bodySF (code := cc) (maxLocals := maxL) (ret := ret) hy ?_ ?_
  · intro args s m h hn
    obtain ⟨meth, c, h1, h2, h3, h4, h5, h6, -, -⟩ := Cond.code_spec hn (atoms_spec (ws := ws) h _ (by rw [hw]; exact List.mem_cons_self))
    exact ⟨meth, c, h1, h2, h3, h4, h5, h6⟩
  · intro p e s m args below meth c s₁ B hml hP _
    have hh0 : s₁.heap = s.heap := by rw [B.state]; rfl
    obtain ⟨t, a1, o, b1, b2, b3⟩ := body p e s m args below meth c s₁ B hml hP s₁ hh0 (Stand.of_body B)
    exact ⟨t, o, a1, b1, b2, ⟨b3.1, b3.2⟩⟩
theorem met_J {l : Launch} {D : va_G} {ca : Nat → ClassId} {ad : I3 → Nat} {y : MethodName} {b : ByteArray} {maxL : Nat} {ret : Option FieldType} {fr lo : Nat} {av : List Value} {G : GS} {ro : Option Value} {G' : GS} {lv : List (Nat × Value)}
    (hi : adI ad) (hy : plainFor y = true) (hn : (lg_sl av).length ≤ maxL) (hlv : lv_args 0 av = lv)
    (body : ∀ (p : Program) (e : Env) (s : State) (m : MethodId) (below : List Frame) (meth : Method) (c : Code), Cx D ca ad p s m av.toArray meth c b maxL y.cls → meth.sig.returnType = ret →
      J D ca ad p l e ({ frames := fr, cells := 0, slots := 0, locals := lo }) s m av.toArray below meth c 0 0 (MQ below (post D ca ad ro G') av.toArray s 0 0 (adA ad)) maxL G 0 lv []) : MT l D ca ad y b maxL ret fr lo av G ro G' := by
  unfold MT
  refine Met.ofWF (cc := b) (maxL := maxL) (ret := ret) hy rfl ?_
  intro p e s m args below meth c s₁ B hml hv
  obtain ⟨rfl, hP, hK, hZ, hN⟩ := hv
  have hts := atoms_spec (ws := .code y b maxL ret :: BG) B.pre
  rw [lg_entry_eq]
  refine body p e s m below meth c ⟨B.exec, B.bytes, hml, findClass_of_methodNamed B.named, fun w hw => hts w (List.mem_cons_of_mem _ hw), hK, hZ, hN, hi, B.notSynchronized⟩ B.returns s.heap [] _ hP va_S.rf ?_
  rw [← hlv]
  exact lv_entry av hn
theorem post_at {D : va_G} {ca : Nat → ClassId} {ad : I3 → Nat} {ro : Option Value} {G : GS} {s t : State} {H : Heap} {locs : List Loc} {p : Program} {m : MethodId} {args a : Array Value} {meth : Method} {c : Code} {cc : ByteArray} {nL : Nat} {ow : String} (C0 : Cx D ca ad p s m args meth c cc nL ow)
    (hP : va_P D vwCl (wsG ca ad G) H) (hS : va_S (adA ad) s.heap H locs) (ht : t.heap = H) (hW : s.WarmedH t.vm) : post D ca ad ro G a s (.returned ro) t :=
  ⟨rfl, ⟨by rw [ht]; exact hP, va_K.moved hW.alike C0.2.2.2.2.2.1, stA_to C0.2.2.2.2.2.2.1 hW hS ht, nw_warm hW C0.2.2.2.2.2.2.2.1⟩, hS.F ht⟩
def va_E_hist (ca : Nat → ClassId) (ad : I3 → Nat) (B : Nat → Fin 9) : va_E := .inl (ca 4, 4, .inr (.inr (.inr (.inr (trR 4 (fun i => ad (1, (B (1 + i)).val, 0)))))))
section JC
variable {D : va_G} {ca : Nat → ClassId} {ad : I3 → Nat} {p : Program} {l : Launch} {e : Env} {R : Room} {s : State} {m : MethodId} {args : Array Value} {below : List Frame} {meth : Method} {c : Code} {cc : ByteArray} {nL : Nat} {ow : String} {k n : Nat} {Q : State → Prop} {G : GS} {pc : Nat} {lv : List (Nat × Value)} {st : List Value}
theorem j_iret (C0 : Cx D ca ad p s m args meth c cc nL ow) {G' : GS} {v r0 : Int32} (hr : meth.sig.returnType = some .int) (hdg : decode cc pc = .ok (.ireturn, 1)) (hv : v = r0) (hG : G = G') : J D ca ad p l e R s m args below meth c k n (MQ below (post D ca ad (some (.int r0)) G') args s k n (adA ad)) nL G pc lv [.int v] := by
  subst hv; subst hG
  intro H locs ls hP hS hl
  exact W.iret C0.1 C0.2.1 hr (fun t ht hW => post_at C0 hP hS ht hW) hS.2.2 hdg C0.2.2.2.2.2.2.2.2.2
theorem j_zret (C0 : Cx D ca ad p s m args meth c cc nL ow) {G' : GS} {v r0 : Int32} {ty : FieldType} (hr : meth.sig.returnType = some ty) (hn : narrow ty (.int v) = .int v) (hdg : decode cc pc = .ok (.ireturn, 1)) (hv : v = r0) (hG : G = G') : J D ca ad p l e R s m args below meth c k n (MQ below (post D ca ad (some (.int r0)) G') args s k n (adA ad)) nL G pc lv [.int v] := by
  subst hv; subst hG
  intro H locs ls hP hS hl
  exact W.zret C0.1 C0.2.1 hr hn (fun t ht hW => post_at C0 hP hS ht hW) hS.2.2 hdg C0.2.2.2.2.2.2.2.2.2
theorem j_vret (C0 : Cx D ca ad p s m args meth c cc nL ow) {G' : GS} (hr : meth.sig.returnType = none) (hdg : decode cc pc = .ok (.return_, 1)) (hG : G = G') : J D ca ad p l e R s m args below meth c k n (MQ below (post D ca ad none G') args s k n (adA ad)) nL G pc lv [] := by
  subst hG
  intro H locs ls hP hS hl
  exact W.vret C0.1 C0.2.1 hr (fun t ht hW => post_at C0 hP hS ht hW) hS.2.2 hdg C0.2.2.2.2.2.2.2.2.2
theorem j_aret (C0 : Cx D ca ad p s m args meth c cc nL ow) {G' : GS} {v r0 : Value} {C : String} (hr : meth.sig.returnType = some (.object C)) (hdg : decode cc pc = .ok (.areturn, 1)) (hv : v = r0) (hG : G = G') (hq : v = .null ∨ ∃ a, v = .ref a) : J D ca ad p l e R s m args below meth c k n (MQ below (post D ca ad (some r0) G') args s k n (adA ad)) nL G pc lv [v] := by
  subst hv; subst hG
  intro H locs ls hP hS hl
  exact W.aret C0.1 C0.2.1 hr (Or.inl ⟨C, rfl⟩) hq (fun t ht hW => post_at C0 hP hS ht hW) hS.2.2 hdg C0.2.2.2.2.2.2.2.2.2
/-- behind a call: the callee's answer on the stack, its picture -/
theorem j_back (C0 : Cx D ca ad p s m args meth c cc nL ow) {ro : Option Value} {G' : GS} {rest : List Value} {a : Array Value} {H : Heap} {locs : List Loc} {ls : Array Slot}
    (hr : va_Run p l e R s m args below meth c H locs k n 0 0 (F0 m pc ls st) rest (post D ca ad ro G' a) (adA ad)) (hS : va_S (adA ad) s.heap H locs) (hl : lv_has ls nL lv)
    (kk : J D ca ad p l e R s m args below meth c k n Q nL G' (pc + 3) lv (ro.toList ++ rest)) : W p l e R s m args below meth c H locs k n Q (F0 m pc ls st) := by
  intro T hT X
  obtain ⟨v, st₀, t, T', L, h0, X', hL, e1, e2, ⟨hv, hU, hz, hk⟩, stp⟩ := hr T hT X
  cases hv
  rw [h0] at hz hk
  obtain ⟨t2, a1, b1⟩ := kk T'.heap (locs ++ L) ls (by rw [e1]; exact hU.1)
    ⟨Nat.le_trans hS.1 (by rw [e1]; exact hz), fun q h1 h2 => by rw [e1, hk q (Nat.lt_of_lt_of_le h1 hS.1) h2]; exact hS.2.1 q h1 h2, fun q hq => by
      rcases List.mem_append.mp hq with h | h
      · exact hS.2.2 q h
      · exact hL q h⟩ hl T' rfl X'
  exact ⟨t2, stp t2 a1, b1⟩
theorem pre_at (C0 : Cx D ca ad p s m args meth c cc nL ow) {av : List Value} {U : State} {H : Heap} {locs : List Loc} (hP : va_P D vwCl (wsG ca ad G) H) (hS : va_S (adA ad) s.heap H locs) (hU : U.heap = H) (hW : s.WarmedH U.vm) : pre D ca ad av G av.toArray U :=
  ⟨rfl, by rw [hU]; exact hP, va_K.moved hW.alike C0.2.2.2.2.2.1, stA_to C0.2.2.2.2.2.2.1 hW hS hU, nw_warm hW C0.2.2.2.2.2.2.2.1⟩
theorem pre_blind {av : List Value} : FrameBlind (pre D ca ad av G) := fun a U g mk h => ⟨h.1, rU_calling g mk a h.2⟩
/-- a call's words -/
def KW (ow : String) (idx : Nat) (y : MethodName) (b : ByteArray) (maxL : Nat) (ret : Option FieldType) (na : Nat) : Prop := Cond.methodLink ow idx y ∈ BG ∧ Cond.initialized y.cls ∈ BG ∧ Cond.code y b maxL ret ∈ BG ∧ y.cls ≠ "java/lang/invoke/MethodHandle" ∧ y.cls ≠ "java/lang/invoke/VarHandle" ∧ (parseMethodDescriptor y.desc).map (fun d => d.parameters.length) = some na
def KN (ow : String) (idx : Nat) (y : MethodName) (host : String) (b : ByteArray) (maxL : Nat) (ret : Option FieldType) (na : Nat) : Prop := Cond.methodLinkNest ow idx y host ∈ nestL ∧ Cond.initialized y.cls ∈ BG ∧ Cond.code y b maxL ret ∈ BG ∧ y.cls ≠ "java/lang/invoke/MethodHandle" ∧ y.cls ≠ "java/lang/invoke/VarHandle" ∧ (parseMethodDescriptor y.desc).map (fun d => d.parameters.length) = some na
theorem code_good {y : MethodName} {b : ByteArray} {maxL : Nat} {ret : Option FieldType} (h : Cond.code y b maxL ret ∈ BG) : GoodIn BG (.code y b maxL ret :: BG) := bg_good (fun w hw => by
  rcases List.mem_cons.mp hw with rfl | h'
  · exact h
  · exact h')
theorem j_callV (C0 : Cx D ca ad p s m args meth c cc nL ow) {stk : List Value} {G2 : GS} {y : MethodName} {b : ByteArray} {maxL : Nat} {ret : Option FieldType} {fr lo na idx : Nat} {As rest : List Value} {G1 G' : GS} {ro : Option Value} {id : I3} (hM : MT l D ca ad y b maxL ret fr lo (.ref (ad id) :: As) G1 ro G') (kw : KW ow idx y b maxL ret na) (ki : Cond.instanceMethod y ∈ BG) (ks : Cond.selects y.cls y y ∈ BG) (hid : id ∈ idA ad) (oc : OC ca ad id y.cls) (hG : G1 = G) (hR : fr + 1 ≤ R.frames ∧ 8 + (maxL + 11) + lo ≤ R.locals) (hq : k ≤ R.cells ∧ n ≤ R.slots) (hA : As.length = na) (hst : st = As.reverse ++ .ref (ad id) :: rest) (hW : (rest.map fun v => v.category).sum ≤ 8) (hk : ro.toList ++ rest = stk) (hG2 : G' = G2) (hdg : decode cc pc = .ok (.invokevirtual idx, 3)) (kk : J D ca ad p l e R s m args below meth c k n Q nL G2 (pc + 3) lv stk) : J D ca ad p l e R s m args below meth c k n Q nL G pc lv st := by
  subst hG; subst hst; subst hk; subst hG2
  intro H locs ls hP hS hl
  obtain ⟨q, hq0⟩ := ws_ix hid
  have he := ws_at (ca := ca) (ad := ad) (G := G1) hq0
  obtain ⟨ci, fs, r, hc1, hc2, hc3⟩ := oc G1
  rw [hc1] at he
  have hts := C0.2.2.2.2.1
  have hrv := va_recv C0.2.2.2.2.2.1 hP hc2 he
  rw [hc3] at hrv
  refine j_back C0 (va_runV (n := na) (Ts := BG) (own := ow) (index := idx) (C := y.cls) (b := ad id) (As := As) (rest := rest) ⟨C0.1, C0.2.1, C0.2.2.1, C0.2.2.2.1, hts⟩ hM ⟨callB_of na hts (code_good kw.2.2.1) rfl rfl rfl (hts _ kw.2.1) (hts _ kw.1) kw.2.2.2 hR, hts _ ki, hts _ ks⟩ ⟨pre_blind, hrv, fun U hU hWm => pre_at C0 hP hS hU hWm⟩ rfl hA hl.1 rfl ?_ hdg hq) hS hl kk
  show 2 * 0 + _ ≤ 8
  omega
theorem j_callS (C0 : Cx D ca ad p s m args meth c cc nL ow) {stk : List Value} {G2 : GS} {y : MethodName} {b : ByteArray} {maxL : Nat} {ret : Option FieldType} {fr lo na idx : Nat} {As rest : List Value} {G1 G' : GS} {ro : Option Value} (hM : MT l D ca ad y b maxL ret fr lo As G1 ro G') (kw : KW ow idx y b maxL ret na) (ki : Cond.static y ∈ BG) (hG : G1 = G) (hR : fr + 1 ≤ R.frames ∧ 8 + (maxL + 11) + lo ≤ R.locals) (hq : k ≤ R.cells ∧ n ≤ R.slots) (hA : As.length = na) (hst : st = As.reverse ++ rest) (hW : (rest.map fun v => v.category).sum ≤ 8) (hk : ro.toList ++ rest = stk) (hG2 : G' = G2) (hdg : decode cc pc = .ok (.invokestatic idx, 3)) (kk : J D ca ad p l e R s m args below meth c k n Q nL G2 (pc + 3) lv stk) : J D ca ad p l e R s m args below meth c k n Q nL G pc lv st := by
  subst hG; subst hst; subst hk; subst hG2
  intro H locs ls hP hS hl
  have hts := C0.2.2.2.2.1
  refine j_back C0 (va_runS (n := na) (Ts := BG) (own := ow) (index := idx) (As := As) (rest := rest) ⟨C0.1, C0.2.1, C0.2.2.1, C0.2.2.2.1, hts⟩ hM ⟨callB_of na hts (code_good kw.2.2.1) rfl rfl rfl (hts _ kw.2.1) (hts _ kw.1) kw.2.2.2 hR, hts _ ki⟩ ⟨pre_blind, fun U hU hWm => pre_at C0 hP hS hU hWm⟩ rfl hA hl.1 rfl ?_ hdg hq) hS hl kk
  show 2 * 0 + _ ≤ 8
  omega
theorem j_callSN (C0 : Cx D ca ad p s m args meth c cc nL ow) {stk : List Value} {G2 : GS} {y : MethodName} {b : ByteArray} {maxL : Nat} {ret : Option FieldType} {fr lo na idx : Nat} {As rest : List Value} {G1 G' : GS} {ro : Option Value} {host : String} (hM : MT l D ca ad y b maxL ret fr lo As G1 ro G') (kw : KN ow idx y host b maxL ret na) (ki : Cond.static y ∈ BG) (hG : G1 = G) (hR : fr + 1 ≤ R.frames ∧ 8 + (maxL + 11) + lo ≤ R.locals) (hq : k ≤ R.cells ∧ n ≤ R.slots) (hA : As.length = na) (hst : st = As.reverse ++ rest) (hW : (rest.map fun v => v.category).sum ≤ 8) (hk : ro.toList ++ rest = stk) (hG2 : G' = G2) (hdg : decode cc pc = .ok (.invokestatic idx, 3)) (kk : J D ca ad p l e R s m args below meth c k n Q nL G2 (pc + 3) lv stk) : J D ca ad p l e R s m args below meth c k n Q nL G pc lv st := by
  subst hG; subst hst; subst hk; subst hG2
  intro H locs ls hP hS hl
  have hts := C0.2.2.2.2.1
  refine j_back C0 (va_runSN (n := na) (Ts := BG) (own := ow) (index := idx) (As := As) (rest := rest) ⟨C0.1, C0.2.1, C0.2.2.1, C0.2.2.2.1, hts⟩ hM ⟨va_cnB na hts (code_good kw.2.2.1) rfl rfl rfl (C0.2.2.2.2.2.2.2.1 _ kw.1) (hts _ kw.2.1) kw.2.2.2 hR, hts _ ki, trivial⟩ ⟨pre_blind, fun U hU hWm => pre_at C0 hP hS hU hWm⟩ rfl hA hl.1 rfl ?_ hdg hq) hS hl kk
  show 2 * 0 + _ ≤ 8
  omega
theorem j_G {G' : GS} (h : G = G') (kk : J D ca ad p l e R s m args below meth c k n Q nL G' pc lv st) : J D ca ad p l e R s m args below meth c k n Q nL G pc lv st := by subst h; exact kk
theorem so {α : Type} {a b : α} (h : some a = some b) : a = b := Option.some.inj h
theorem pr1 {α β : Type} {a c : α} {b d : β} (h : some (a, b) = some (c, d)) : a = c := (Prod.mk.inj (Option.some.inj h)).1
theorem pr2 {α β : Type} {a c : α} {b d : β} (h : some (a, b) = some (c, d)) : b = d := (Prod.mk.inj (Option.some.inj h)).2
def rv (ad : I3 → Nat) (j : Nat) (r : Option Nat) : Value := match r with
  | none => .null
  | some k => .ref (ad (3, j, k))
abbrev XS : Type := (Nat → Nat → Int32) × (Nat → Fin 9)
def updB (B : Nat → Fin 9) (k : Nat) (v : Fin 9) : Nat → Fin 9 := fun i => if i = k then v else B i
theorem cell_B {ca : Nat → ClassId} {ad : I3 → Nat} {C : Nat → Nat → Int32} {B B' : Nat → Fin 9} {M : Nat → Nat → Int32} {id : I3} (h0 : id = (0, 0, 0) → B' 0 = B 0) (h8 : id = (8, 0, 0) → ∀ i, i < 4 → B' (1 + i) = B (1 + i)) (hid : id ∈ idL) : cell ca ad (C, B', M) id = cell ca ad (C, B, M) id := by
  have ho := id_ok id hid
  obtain ⟨t, a, k⟩ := id
  unfold okId at ho
  split at ho <;> rename_i heq <;> cases heq
  · simp only [Bool.and_eq_true, beq_iff_eq] at ho
    obtain ⟨rfl, rfl⟩ := ho
    simp only [cell, h0 rfl]
  · rfl
  · simp only [Bool.and_eq_true, beq_iff_eq] at ho
    obtain ⟨rfl, rfl⟩ := ho
    have : trR 4 (fun i => ad (1, (B' (1 + i)).val, 0)) = trR 4 (fun i => ad (1, (B (1 + i)).val, 0)) := by
      funext i
      unfold trR
      by_cases hi : i < 4
      · rw [if_pos hi, if_pos hi]; show some (ad (1, (B' (1 + i)).val, 0)) = some (ad (1, (B (1 + i)).val, 0)); rw [h8 rfl i hi]
      · rw [if_neg hi, if_neg hi]
    simp only [cell, this]
  · rfl
  · rfl
  · rfl
  · rfl
  · rfl
  · rfl
  · simp only [Bool.and_eq_true, decide_eq_true_eq, beq_iff_eq] at ho
    obtain ⟨⟨h8', hj⟩, rfl⟩ := ho
    rcases (show t = 0 ∨ t = 1 ∨ t = 2 ∨ t = 3 ∨ t = 4 ∨ t = 5 ∨ t = 6 ∨ t = 7 by omega) with rfl | rfl | rfl | rfl | rfl | rfl | rfl | rfl
    · simp_all
    · rfl
    · rfl
    · simp_all
    · rfl
    · rfl
    · rfl
    · rfl
theorem j_putb (C0 : Cx D ca ad p s m args meth c cc nL ow) {idx : Nat} {r : vw_C} {C : Nat → Nat → Int32} {B B' : Nat → Fin 9} {M : Nat → Nat → Int32} {f : Fin 9} (fl : FLw ow idx 5 6 r) (hr : r = (RX5, TX5, 8)) (hB : updB B 0 f = B') (hdg : decode cc pc = .ok (.putfield idx, 3)) (kk : J D ca ad p l e R s m args below meth c k n Q nL (C, B', M) (pc + 3) lv st) : J D ca ad p l e R s m args below meth c k n Q nL (C, B, M) pc lv (.ref (ad (1, f.val, 0)) :: .ref (ad (0, 0, 0)) :: st) := by
  intro H locs ls hP hS hl
  subst hB; subst hr
  have hid : ((0, 0, 0) : I3) ∈ idC := by decide +kernel
  obtain ⟨q, hq⟩ := ws_ix (ia C0.2.2.2.2.2.2.2.2.1 hid)
  obtain ⟨f1, f2, f3, f4, f5⟩ := fl
  have he := ws_at (ca := ca) (ad := ad) (G := (C, B, M)) hq
  refine va_put (ty := .object RX3) C0.1 C0.2.1 C0.2.2.2.2.1 f2 tyX5 tyX5_ok nmX5 C0.2.2.2.1 C0.2.2.2.2.2.1 hP (ws_D C0.2.2.2.2.2.2.2.2.1 _) hS q he f1 6 f3 (C0.2.2.2.2.1 _ f5) (fun x hx => by rw [f4] at hx; exact hx) rfl (by decide +kernel) rfl rfl (Nat.le_of_ble_eq_true rfl) hdg (fun H1 locs1 hP1 _ hS1 => ?_)
  rw [ws_set (G' := (C, updB B 0 f, M)) hq ?_ ?_] at hP1
  · exact kk H1 locs1 ls hP1 hS1 hl
  · rfl
  · intro id' h1 h2
    exact cell_B (fun h => absurd h h2) (fun _ i _ => by simp [updB]) h1
theorem trR_up (n : Nat) (g : Nat → Nat) (i v : Nat) (hi : i < n) : va_up (trR n g) i (some v) = trR n (fun x => if x = i then v else g x) := by
  funext x
  unfold va_up trR
  by_cases hx : x = i
  · subst hx; simp [hi]
  · simp [hx]
theorem j_asth (C0 : Cx D ca ad p s m args meth c cc nL ow) {C : Nat → Nat → Int32} {B B' : Nat → Fin 9} {M : Nat → Nat → Int32} {f : Fin 9} {i : Int32} (hin : inb i 4 = true) (hB : updB B (1 + i.toNatClampNeg) f = B') (hdg : decode cc pc = .ok (.aastore, 1)) (kk : J D ca ad p l e R s m args below meth c k n Q nL (C, B', M) (pc + 1) lv st) : J D ca ad p l e R s m args below meth c k n Q nL (C, B, M) pc lv (.ref (ad (1, f.val, 0)) :: .int i :: .ref (ad (8, 0, 0)) :: st) := by
  intro H locs ls hP hS hl
  subst hB
  have hid : ((8, 0, 0) : I3) ∈ idC := by decide +kernel
  obtain ⟨q, hq⟩ := ws_ix (ia C0.2.2.2.2.2.2.2.2.1 hid)
  obtain ⟨q2, hq2⟩ := ws_ix (ia C0.2.2.2.2.2.2.2.2.1 (id_1 f.isLt))
  have he := ws_at (ca := ca) (ad := ad) (G := (C, B, M)) hq
  have he2 := ws_at (ca := ca) (ad := ad) (G := (C, B, M)) hq2
  refine va_astq (r := (RX3, TX3, 13)) C0.1 C0.2.1 C0.2.2.2.2.2.1 hP (ws_D C0.2.2.2.2.2.2.2.2.1 _) hS q 4 q2 3 he rfl he2 rfl (inb_vp hin) hdg (fun H1 locs1 hP1 _ hS1 => ?_)
  rw [trR_up 4 _ _ _ (inb_lt hin), ws_set (G' := (C, updB B (1 + i.toNatClampNeg) f, M)) hq ?_ ?_] at hP1
  · exact kk H1 locs1 ls hP1 hS1 hl
  · show va_E_hist ca ad (updB B (1 + i.toNatClampNeg) f) = _
    have hx : (fun x => ad (1, (updB B (1 + i.toNatClampNeg) f (1 + x)).val, 0)) = (fun x => if x = i.toNatClampNeg then ad (1, f.val, 0) else ad (1, (B (1 + x)).val, 0)) := by
      funext x
      by_cases hx : x = i.toNatClampNeg
      · subst hx; simp [updB]
      · have : ¬ (1 + x = 1 + i.toNatClampNeg) := by omega
        simp [updB, hx, this]
    unfold va_E_hist
    rw [hx]
  · intro id' h1 h2
    exact cell_B (fun _ => by unfold updB; rw [if_neg (by omega)]) (fun h => absurd h h2) h1
end JC
