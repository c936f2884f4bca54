/-! a method from its entry; its ends; calls -/
theorem met_J {l : Launch} {D : va_G} {ca : Nat → ClassId} {ad : I3 → Nat} {y : MethodName} {b : ByteArray} {maxL : Nat} {ret : Option FieldType} {fr lo : Nat} {av : List Value} {G : GS} {ro : Option Value} {G' : GS} {lv : List (Nat × Value)}
    (hi : adI ad) (hy : plainName y.cls = true) (hn : (lg_sl av).length ≤ maxL) (hlv : lv_args 0 av = lv)
    (body : ∀ (p : Program) (e : Env) (s : State) (m : MethodId) (below : List Frame) (meth : Method) (c : Code), Cx D ca ad p s m av.toArray meth c b maxL y.cls → meth.sig.returnType = ret →
      J D ca ad p l e ({ frames := fr, cells := 0, slots := 0, locals := lo }) s m av.toArray below meth c 0 0 (MQ below (post D ca ad ro G') av.toArray s 0 0 (adA ad)) maxL G 0 lv []) : MT l D ca ad y b maxL ret fr lo av G ro G' := by
  unfold MT
  refine Met.ofW (cc := b) (maxL := maxL) (ret := ret) hy rfl ?_
  intro p e s m args below meth c s₁ B hml hv
  obtain ⟨rfl, hP, hK, hZ, hN⟩ := hv
  have hts := atoms_spec (ws := .code y b maxL ret :: BG) B.pre
  rw [lg_entry_eq]
  refine body p e s m below meth c ⟨B.exec, B.bytes, hml, findClass_of_methodNamed B.named, fun w hw => hts w (List.mem_cons_of_mem _ hw), hK, hZ, hN, hi, B.notSynchronized⟩ B.returns s.heap [] _ hP va_S.rf ?_
  rw [← hlv]
  exact lv_entry av hn
theorem post_at {D : va_G} {ca : Nat → ClassId} {ad : I3 → Nat} {ro : Option Value} {G : GS} {s t : State} {H : Heap} {locs : List Loc} {p : Program} {m : MethodId} {args a : Array Value} {meth : Method} {c : Code} {cc : ByteArray} {nL : Nat} {ow : String} (C0 : Cx D ca ad p s m args meth c cc nL ow)
    (hP : va_P D vwCl (wsG ca ad G) H) (hS : va_S (adA ad) s.heap H locs) (ht : t.heap = H) (hW : s.WarmedH t.vm) : post D ca ad ro G a s (.returned ro) t :=
  ⟨rfl, ⟨by rw [ht]; exact hP, va_K.moved hW.alike C0.2.2.2.2.2.1, stA_to C0.2.2.2.2.2.2.1 hW hS ht, nw_warm hW C0.2.2.2.2.2.2.2.1⟩, hS.F ht⟩
section JC
variable {D : va_G} {ca : Nat → ClassId} {ad : I3 → Nat} {p : Program} {l : Launch} {e : Env} {R : Room} {s : State} {m : MethodId} {args : Array Value} {below : List Frame} {meth : Method} {c : Code} {cc : ByteArray} {nL : Nat} {ow : String} {k n : Nat} {Q : State → Prop} {G : GS} {pc : Nat} {lv : List (Nat × Value)} {st : List Value}
theorem j_iret (C0 : Cx D ca ad p s m args meth c cc nL ow) {G' : GS} {v r0 : Int32} (hr : meth.sig.returnType = some .int) (hdg : decode cc pc = .ok (.ireturn, 1)) (hv : v = r0) (hG : G = G') : J D ca ad p l e R s m args below meth c k n (MQ below (post D ca ad (some (.int r0)) G') args s k n (adA ad)) nL G pc lv [.int v] := by
  subst hv; subst hG
  intro H locs ls hP hS hl
  exact W.iret C0.1 C0.2.1 hr (fun t ht hW => post_at C0 hP hS ht hW) hS.2.2 hdg C0.2.2.2.2.2.2.2.2.2
theorem j_zret (C0 : Cx D ca ad p s m args meth c cc nL ow) {G' : GS} {v r0 : Int32} {ty : FieldType} (hr : meth.sig.returnType = some ty) (hn : narrow ty (.int v) = .int v) (hdg : decode cc pc = .ok (.ireturn, 1)) (hv : v = r0) (hG : G = G') : J D ca ad p l e R s m args below meth c k n (MQ below (post D ca ad (some (.int r0)) G') args s k n (adA ad)) nL G pc lv [.int v] := by
  subst hv; subst hG
  intro H locs ls hP hS hl
  exact W.zret C0.1 C0.2.1 hr hn (fun t ht hW => post_at C0 hP hS ht hW) hS.2.2 hdg C0.2.2.2.2.2.2.2.2.2
theorem j_vret (C0 : Cx D ca ad p s m args meth c cc nL ow) {G' : GS} (hr : meth.sig.returnType = none) (hdg : decode cc pc = .ok (.return_, 1)) (hG : G = G') : J D ca ad p l e R s m args below meth c k n (MQ below (post D ca ad none G') args s k n (adA ad)) nL G pc lv [] := by
  subst hG
  intro H locs ls hP hS hl
  exact W.vret C0.1 C0.2.1 hr (fun t ht hW => post_at C0 hP hS ht hW) hS.2.2 hdg C0.2.2.2.2.2.2.2.2.2
theorem j_aret (C0 : Cx D ca ad p s m args meth c cc nL ow) {G' : GS} {v r0 : Value} {C : String} (hr : meth.sig.returnType = some (.object C)) (hdg : decode cc pc = .ok (.areturn, 1)) (hv : v = r0) (hG : G = G') (hq : v = .null ∨ ∃ a, v = .ref a) : J D ca ad p l e R s m args below meth c k n (MQ below (post D ca ad (some r0) G') args s k n (adA ad)) nL G pc lv [v] := by
  subst hv; subst hG
  intro H locs ls hP hS hl
  exact W.aret C0.1 C0.2.1 hr (Or.inl ⟨C, rfl⟩) hq (fun t ht hW => post_at C0 hP hS ht hW) hS.2.2 hdg C0.2.2.2.2.2.2.2.2.2
/-- behind a call: the callee's answer on the stack, its picture -/
theorem j_back (C0 : Cx D ca ad p s m args meth c cc nL ow) {ro : Option Value} {G' : GS} {rest : List Value} {a : Array Value} {H : Heap} {locs : List Loc} {ls : Array Slot}
    (hr : va_Run p l e R s m args below meth c H locs k n 0 0 (F0 m pc ls st) rest (post D ca ad ro G' a) (adA ad)) (hS : va_S (adA ad) s.heap H locs) (hl : lv_has ls nL lv)
    (kk : J D ca ad p l e R s m args below meth c k n Q nL G' (pc + 3) lv (ro.toList ++ rest)) : W p l e R s m args below meth c H locs k n Q (F0 m pc ls st) := by
  intro T hT X
  obtain ⟨v, st₀, t, T', L, h0, X', hL, e1, e2, ⟨hv, hU, hz, hk⟩, stp⟩ := hr T hT X
  cases hv
  rw [h0] at hz hk
  obtain ⟨t2, a1, b1⟩ := kk T'.heap (locs ++ L) ls (by rw [e1]; exact hU.1)
    ⟨Nat.le_trans hS.1 (by rw [e1]; exact hz), fun q h1 h2 => by rw [e1, hk q (Nat.lt_of_lt_of_le h1 hS.1) h2]; exact hS.2.1 q h1 h2, fun q hq => by
      rcases List.mem_append.mp hq with h | h
      · exact hS.2.2 q h
      · exact hL q h⟩ hl T' rfl X'
  exact ⟨t2, stp t2 a1, b1⟩
theorem pre_at (C0 : Cx D ca ad p s m args meth c cc nL ow) {av : List Value} {U : State} {H : Heap} {locs : List Loc} (hP : va_P D vwCl (wsG ca ad G) H) (hS : va_S (adA ad) s.heap H locs) (hU : U.heap = H) (hW : s.WarmedH U.vm) : pre D ca ad av G av.toArray U :=
  ⟨rfl, by rw [hU]; exact hP, va_K.moved hW.alike C0.2.2.2.2.2.1, stA_to C0.2.2.2.2.2.2.1 hW hS hU, nw_warm hW C0.2.2.2.2.2.2.2.1⟩
theorem pre_blind {av : List Value} : FrameBlind (pre D ca ad av G) := fun a U g mk h => ⟨h.1, rU_calling g mk a h.2⟩
/-- a call's words -/
def KW (ow : String) (idx : Nat) (y : MethodName) (b : ByteArray) (maxL : Nat) (ret : Option FieldType) (na : Nat) : Prop := Cond.methodLink ow idx y ∈ BG ∧ Cond.initialized y.cls ∈ BG ∧ Cond.code y b maxL ret ∈ BG ∧ y.cls ≠ "java/lang/invoke/MethodHandle" ∧ y.cls ≠ "java/lang/invoke/VarHandle" ∧ (parseMethodDescriptor y.desc).map (fun d => d.parameters.length) = some na
def KN (ow : String) (idx : Nat) (y : MethodName) (host : String) (b : ByteArray) (maxL : Nat) (ret : Option FieldType) (na : Nat) : Prop := Cond.methodLinkNest ow idx y host ∈ nestL ∧ Cond.initialized y.cls ∈ BG ∧ Cond.code y b maxL ret ∈ BG ∧ y.cls ≠ "java/lang/invoke/MethodHandle" ∧ y.cls ≠ "java/lang/invoke/VarHandle" ∧ (parseMethodDescriptor y.desc).map (fun d => d.parameters.length) = some na
theorem code_good {y : MethodName} {b : ByteArray} {maxL : Nat} {ret : Option FieldType} (h : Cond.code y b maxL ret ∈ BG) : GoodIn BG (.code y b maxL ret :: BG) := bg_good (fun w hw => by
  rcases List.mem_cons.mp hw with rfl | h'
  · exact h
  · exact h')
theorem j_callV (C0 : Cx D ca ad p s m args meth c cc nL ow) {y : MethodName} {b : ByteArray} {maxL : Nat} {ret : Option FieldType} {fr lo na idx : Nat} {As rest : List Value} {G1 G' : GS} {ro : Option Value} {id : I3} (hM : MT l D ca ad y b maxL ret fr lo (.ref (ad id) :: As) G1 ro G') (kw : KW ow idx y b maxL ret na) (ki : Cond.instanceMethod y ∈ BG) (ks : Cond.selects y.cls y y ∈ BG) (hid : id ∈ idL) (oc : OC ca ad id y.cls) (hG : G1 = G) (hR : fr + 1 ≤ R.frames ∧ 8 + (maxL + 11) + lo ≤ R.locals) (hq : k ≤ R.cells ∧ n ≤ R.slots) (hA : As.length = na) (hst : st = As.reverse ++ .ref (ad id) :: rest) (hW : (rest.map fun v => v.category).sum ≤ 8) (hdg : decode cc pc = .ok (.invokevirtual idx, 3)) (kk : J D ca ad p l e R s m args below meth c k n Q nL G' (pc + 3) lv (ro.toList ++ rest)) : J D ca ad p l e R s m args below meth c k n Q nL G pc lv st := by
  subst hG; subst hst
  intro H locs ls hP hS hl
  obtain ⟨q, hq0⟩ := ws_ix hid
  have he := ws_at (ca := ca) (ad := ad) (G := G1) hq0
  obtain ⟨ci, fs, r, hc1, hc2, hc3⟩ := oc G1
  rw [hc1] at he
  have hts := C0.2.2.2.2.1
  have hrv := va_recv C0.2.2.2.2.2.1 hP hc2 he
  rw [hc3] at hrv
  refine j_back C0 (va_runV (n := na) (Ts := BG) (own := ow) (index := idx) (C := y.cls) (b := ad id) (As := As) (rest := rest) ⟨C0.1, C0.2.1, C0.2.2.1, C0.2.2.2.1, hts⟩ hM ⟨callB_of na hts (code_good kw.2.2.1) rfl rfl rfl (hts _ kw.2.1) (hts _ kw.1) kw.2.2.2 hR, hts _ ki, hts _ ks⟩ ⟨pre_blind, hrv, fun U hU hWm => pre_at C0 hP hS hU hWm⟩ rfl hA hl.1 rfl ?_ hdg hq) hS hl kk
  show 2 * 0 + _ ≤ 8
  omega
theorem j_callS (C0 : Cx D ca ad p s m args meth c cc nL ow) {y : MethodName} {b : ByteArray} {maxL : Nat} {ret : Option FieldType} {fr lo na idx : Nat} {As rest : List Value} {G1 G' : GS} {ro : Option Value} (hM : MT l D ca ad y b maxL ret fr lo As G1 ro G') (kw : KW ow idx y b maxL ret na) (ki : Cond.static y ∈ BG) (hG : G1 = G) (hR : fr + 1 ≤ R.frames ∧ 8 + (maxL + 11) + lo ≤ R.locals) (hq : k ≤ R.cells ∧ n ≤ R.slots) (hA : As.length = na) (hst : st = As.reverse ++ rest) (hW : (rest.map fun v => v.category).sum ≤ 8) (hdg : decode cc pc = .ok (.invokestatic idx, 3)) (kk : J D ca ad p l e R s m args below meth c k n Q nL G' (pc + 3) lv (ro.toList ++ rest)) : J D ca ad p l e R s m args below meth c k n Q nL G pc lv st := by
  subst hG; subst hst
  intro H locs ls hP hS hl
  have hts := C0.2.2.2.2.1
  refine j_back C0 (va_runS (n := na) (Ts := BG) (own := ow) (index := idx) (As := As) (rest := rest) ⟨C0.1, C0.2.1, C0.2.2.1, C0.2.2.2.1, hts⟩ hM ⟨callB_of na hts (code_good kw.2.2.1) rfl rfl rfl (hts _ kw.2.1) (hts _ kw.1) kw.2.2.2 hR, hts _ ki⟩ ⟨pre_blind, fun U hU hWm => pre_at C0 hP hS hU hWm⟩ rfl hA hl.1 rfl ?_ hdg hq) hS hl kk
  show 2 * 0 + _ ≤ 8
  omega
theorem j_callSN (C0 : Cx D ca ad p s m args meth c cc nL ow) {y : MethodName} {b : ByteArray} {maxL : Nat} {ret : Option FieldType} {fr lo na idx : Nat} {As rest : List Value} {G1 G' : GS} {ro : Option Value} {host : String} (hM : MT l D ca ad y b maxL ret fr lo As G1 ro G') (kw : KN ow idx y host b maxL ret na) (ki : Cond.static y ∈ BG) (hG : G1 = G) (hR : fr + 1 ≤ R.frames ∧ 8 + (maxL + 11) + lo ≤ R.locals) (hq : k ≤ R.cells ∧ n ≤ R.slots) (hA : As.length = na) (hst : st = As.reverse ++ rest) (hW : (rest.map fun v => v.category).sum ≤ 8) (hdg : decode cc pc = .ok (.invokestatic idx, 3)) (kk : J D ca ad p l e R s m args below meth c k n Q nL G' (pc + 3) lv (ro.toList ++ rest)) : J D ca ad p l e R s m args below meth c k n Q nL G pc lv st := by
  subst hG; subst hst
  intro H locs ls hP hS hl
  have hts := C0.2.2.2.2.1
  refine j_back C0 (va_runSN (n := na) (Ts := BG) (own := ow) (index := idx) (As := As) (rest := rest) ⟨C0.1, C0.2.1, C0.2.2.1, C0.2.2.2.1, hts⟩ hM ⟨va_cnB na hts (code_good kw.2.2.1) rfl rfl rfl (C0.2.2.2.2.2.2.2.1 _ kw.1) (hts _ kw.2.1) kw.2.2.2 hR, hts _ ki, trivial⟩ ⟨pre_blind, fun U hU hWm => pre_at C0 hP hS hU hWm⟩ rfl hA hl.1 rfl ?_ hdg hq) hS hl kk
  show 2 * 0 + _ ≤ 8
  omega
theorem j_f2i0 (C0 : Cx D ca ad p s m args meth c cc nL ow) {idx : Nat} {b : UInt32} (h1 : Cond.methodLink ow idx ⟨"java/lang/Float", "floatToRawIntBits", "(F)I"⟩ ∈ BG) (h2 : Cond.native ⟨"java/lang/Float", "floatToRawIntBits", "(F)I"⟩ ∈ BG) (h3 : Cond.static ⟨"java/lang/Float", "floatToRawIntBits", "(F)I"⟩ ∈ BG) (h4 : Cond.initialized "java/lang/Float" ∈ BG) (hR : 1 ≤ R.frames) (hW : (st.map fun v => v.category).sum + 15 ≤ R.locals) (hdg : decode cc pc = .ok (.invokestatic idx, 3)) (kk : J D ca ad p l e R s m args below meth c k n Q nL G (pc + 3) lv (.int b.toInt32 :: st)) : J D ca ad p l e R s m args below meth c k n Q nL G pc lv (.float b :: st) := fun H locs ls hP hS hl =>
  vn_f2i C0.1 C0.2.1 (C0.2.2.1.trans hl.1.symm) C0.2.2.2.1 (C0.2.2.2.2.1 _ h1) (C0.2.2.2.2.1 _ h2) (C0.2.2.2.2.1 _ h3) (C0.2.2.2.2.1 _ h4) hR hW hdg (kk H locs ls hP hS hl)
end JC
