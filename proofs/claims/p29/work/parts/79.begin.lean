/-! THE START: what the tables and the start say; the walk to the law's loop -/
theorem arr_i {s : State} {args : Array Value} {ty : FieldType} (h : (Cond.arrayClass ty).before args s = true) (hc : ∀ cA, s.vm.findClass ("[" ++ ty.toString) = some cA → va_RA s cA ty) : ∃ cA : ClassId, ArrOfT s cA ty ∧ va_RA s cA ty := by
  obtain ⟨cA, kA, comp, h1, h2, h3⟩ := Cond.arrayClass_spec h
  exact ⟨cA, fun n z => ⟨(fun k h => by cases h), kA, h2, comp, h3⟩, hc cA h1⟩
theorem arr_q {s : State} {args : Array Value} {C : String} (h : (Cond.arrayOver (.object C)).before args s = true) : ∃ cA : ClassId, ArrOfT s cA (.object C) ∧ va_RA s cA (.object C) := by
  obtain ⟨comp, cA, kA, h1, -, h3, h4, h5⟩ := Cond.arrayOver_spec h
  exact ⟨cA, fun n z => ⟨(fun k h => by cases h), kA, h3, comp, h4⟩, kA, comp, h3, h4, h1, h5⟩
theorem know_K {s : State} {b : Nat} (hts : ∀ w ∈ lw_tbl, w.before #[Value.ref b] s = true) : ∃ (D : va_G) (ca : Nat → ClassId), va_K D vwCl (tysG ca) s ∧ nwU s ∧ aoU s ∧ ∀ w ∈ BG, w.before #[Value.ref b] s = true := by
  have hb : ∀ w ∈ BG, w.before #[Value.ref b] s = true := fun w h => hts w (List.mem_filter.mp h).1
  have htab : ∀ w ∈ tables_1, w.before #[Value.ref b] s = true := fun w h => hts w (List.mem_append_right _ h)
  obtain ⟨c0, i0, k0⟩ := u_known hb ub_0 (hb _ is_X0)
  obtain ⟨c1, i1, k1⟩ := u_known hb ub_1 (hb _ is_X1)
  obtain ⟨c2, i2, k2⟩ := u_known hb ub_2 (hb _ is_X2)
  obtain ⟨c3, i3, k3⟩ := u_known hb ub_3 (hb _ is_X3)
  obtain ⟨c4, i4, k4⟩ := u_known hb ub_4 (hb _ is_X4)
  obtain ⟨c5, i5, k5⟩ := u_known hb ub_5 (hb _ is_X5)
  obtain ⟨t0, a0, r0⟩ := arr_i (hb _ ac_int) (fun _ h => h)
  obtain ⟨t1, a1, r1⟩ := arr_i (hb _ ac_char) (fun _ h => h)
  obtain ⟨t2, a2, r2⟩ := arr_i (hb _ ac_boolean) (fun _ h => h)
  have o1 : (Cond.arrayOver (.object RX1)).before #[Value.ref b] s = true := htab _ (List.mem_of_getElem? (i := 23) (by decide +kernel))
  have o3 : (Cond.arrayOver (.object RX3)).before #[Value.ref b] s = true := htab _ (List.mem_of_getElem? (i := 195) (by decide +kernel))
  obtain ⟨t3, a3, r3⟩ := arr_q o1
  obtain ⟨t4, a4, r4⟩ := arr_q o3
  refine ⟨(fun i => [c0, c1, c2, c3, c4, c5].getD i c0, fun i => [i0, i1, i2, i3, i4, i5].getD i i0), fun i => [t0, t1, t2, t3, t4].getD i t0, ⟨fun c q hq => ?_, fun k q hk => ?_⟩, fun w hw => va_Nw.of (nest_tab (List.mem_filter.mp hw).2) (htab w (List.mem_filter.mp hw).1), ⟨va_AO.of o1, va_AO.of o3⟩, hb⟩
  · have hc : c < 6 := (List.getElem?_eq_some_iff.mp hq).1
    rcases (show c = 0 ∨ c = 1 ∨ c = 2 ∨ c = 3 ∨ c = 4 ∨ c = 5 by omega) with rfl | rfl | rfl | rfl | rfl | rfl
    · have e := Option.some.inj hq
      subst e
      exact k0
    · have e := Option.some.inj hq
      subst e
      exact k1
    · have e := Option.some.inj hq
      subst e
      exact k2
    · have e := Option.some.inj hq
      subst e
      exact k3
    · have e := Option.some.inj hq
      subst e
      exact k4
    · have e := Option.some.inj hq
      subst e
      exact k5
  · have hc : k < 5 := (List.getElem?_eq_some_iff.mp hk).1
    rcases (show k = 0 ∨ k = 1 ∨ k = 2 ∨ k = 3 ∨ k = 4 by omega) with rfl | rfl | rfl | rfl | rfl
    · have e := Option.some.inj hk
      subst e
      exact ⟨a0, r0⟩
    · have e := Option.some.inj hk
      subst e
      exact ⟨a1, r1⟩
    · have e := Option.some.inj hk
      subst e
      exact ⟨a2, r2⟩
    · have e := Option.some.inj hk
      subst e
      exact ⟨a3, r3⟩
    · have e := Option.some.inj hk
      subst e
      exact ⟨a4, r4⟩
theorem st_one {s : State} {args : Array Value} {C n : String} {N : Nat} {f : Nat → Value} (hN : N < 2 ^ 31) (harr : (Cond.arrayOf (.static C n "[I") .int).before args s = true) (hlen : (Term.length (.static C n "[I")).eval args s none [] s = some (.int (Int32.ofNat N))) (hel : ∀ j : Nat, j < N → (Term.elem (.static C n "[I") (.int (Int32.ofNat j))).eval args s none [] s = some (f j)) (hl : (Cond.laysStatic C n "[I").before args s = true) (hini : (Cond.initialized C).before args s = true) :
    ∃ t : Nat, ∀ A : Nat → Prop, (∀ a : Nat, a < s.heap.size → ¬ A a) → va_Z C n "[I" (.ref t) A s s.heap ∧ va_T .int t N f A s s.heap := by
  obtain ⟨t, e, -⟩ := va_Tof (A := fun _ => False) hN harr hlen hel (fun _ _ h => h)
  refine ⟨t, fun A hA => ⟨va_Zref hl hini e hA, ?_⟩⟩
  obtain ⟨t', e', h⟩ := va_Tof (A := A) hN harr hlen hel hA
  have ht : t' = t := by
    rw [e] at e'
    cases e'; rfl
  subst ht
  exact h
theorem know_st {s : State} {b : Nat} (hts : ∀ w ∈ lw_tbl, w.before #[Value.ref b] s = true) (hg : (Jvm.Cond.and given_1 narrow_1).before #[Value.ref b] s = true) : ∃ z : Nat → Nat, ∀ A : Nat → Prop, (∀ a : Nat, a < s.heap.size → ¬ A a) → ∀ t, t < 3 → va_Z RX5 (tabF t) "[I" (.ref (z t)) A s s.heap ∧ va_T .int (z t) (tabN t) (fun i => .int (tab t i)) A s s.heap := by
  have htab : ∀ w ∈ tables_1, w.before #[Value.ref b] s = true := fun w h => hts w (List.mem_append_right _ h)
  have hs := flat_of_before _ hg
  have hini : (Cond.initialized RX5).before #[Value.ref b] s = true := htab _ (List.mem_of_getElem? (i := 1) (by decide +kernel))
  have l0 : (Cond.laysStatic RX5 "LEAST_SETTINGS" "[I").before #[Value.ref b] s = true := htab _ (List.mem_of_getElem? (i := 658) (by decide +kernel))
  have r0 : (Cond.arrayOf (.static "LeakingClocks" "LEAST_SETTINGS" "[I") .int).before #[Value.ref b] s = true := hs _ (by decide +kernel)
  have n0 : (Term.length (.static RX5 "LEAST_SETTINGS" "[I")).eval #[Value.ref b] s none [] s = some (.int (Int32.ofNat 6)) := va_eqt (hs (Cond.eq (.length (.static "LeakingClocks" "LEAST_SETTINGS" "[I")) (.int 6)) (by decide +kernel))
  have v0 : ∀ j : Nat, j < 6 → (Term.elem (.static RX5 "LEAST_SETTINGS" "[I") (.int (Int32.ofNat j))).eval #[Value.ref b] s none [] s = some (.int (tab 0 j)) := fun j hj => by
    rcases (show j = 0 ∨ j = 1 ∨ j = 2 ∨ j = 3 ∨ j = 4 ∨ j = 5 by omega) with rfl | rfl | rfl | rfl | rfl | rfl
    · exact va_eqt (hs (Cond.eq (.elem (.static "LeakingClocks" "LEAST_SETTINGS" "[I") (.int 0)) (.int 500)) (by decide +kernel))
    · exact va_eqt (hs (Cond.eq (.elem (.static "LeakingClocks" "LEAST_SETTINGS" "[I") (.int 1)) (.int 20)) (by decide +kernel))
    · exact va_eqt (hs (Cond.eq (.elem (.static "LeakingClocks" "LEAST_SETTINGS" "[I") (.int 2)) (.int 50)) (by decide +kernel))
    · exact va_eqt (hs (Cond.eq (.elem (.static "LeakingClocks" "LEAST_SETTINGS" "[I") (.int 3)) (.int 1)) (by decide +kernel))
    · exact va_eqt (hs (Cond.eq (.elem (.static "LeakingClocks" "LEAST_SETTINGS" "[I") (.int 4)) (.int 0)) (by decide +kernel))
    · exact va_eqt (hs (Cond.eq (.elem (.static "LeakingClocks" "LEAST_SETTINGS" "[I") (.int 5)) (.int 0)) (by decide +kernel))
  obtain ⟨z0, w0⟩ := st_one (by decide) r0 n0 v0 l0 hini
  have l1 : (Cond.laysStatic RX5 "MOST_SETTINGS" "[I").before #[Value.ref b] s = true := htab _ (List.mem_of_getElem? (i := 661) (by decide +kernel))
  have r1 : (Cond.arrayOf (.static "LeakingClocks" "MOST_SETTINGS" "[I") .int).before #[Value.ref b] s = true := hs _ (by decide +kernel)
  have n1 : (Term.length (.static RX5 "MOST_SETTINGS" "[I")).eval #[Value.ref b] s none [] s = some (.int (Int32.ofNat 6)) := va_eqt (hs (Cond.eq (.length (.static "LeakingClocks" "MOST_SETTINGS" "[I")) (.int 6)) (by decide +kernel))
  have v1 : ∀ j : Nat, j < 6 → (Term.elem (.static RX5 "MOST_SETTINGS" "[I") (.int (Int32.ofNat j))).eval #[Value.ref b] s none [] s = some (.int (tab 1 j)) := fun j hj => by
    rcases (show j = 0 ∨ j = 1 ∨ j = 2 ∨ j = 3 ∨ j = 4 ∨ j = 5 by omega) with rfl | rfl | rfl | rfl | rfl | rfl
    · exact va_eqt (hs (Cond.eq (.elem (.static "LeakingClocks" "MOST_SETTINGS" "[I") (.int 0)) (.int 5000)) (by decide +kernel))
    · exact va_eqt (hs (Cond.eq (.elem (.static "LeakingClocks" "MOST_SETTINGS" "[I") (.int 1)) (.int 900)) (by decide +kernel))
    · exact va_eqt (hs (Cond.eq (.elem (.static "LeakingClocks" "MOST_SETTINGS" "[I") (.int 2)) (.int 5000)) (by decide +kernel))
    · exact va_eqt (hs (Cond.eq (.elem (.static "LeakingClocks" "MOST_SETTINGS" "[I") (.int 3)) (.int 30)) (by decide +kernel))
    · exact va_eqt (hs (Cond.eq (.elem (.static "LeakingClocks" "MOST_SETTINGS" "[I") (.int 4)) (.int 12)) (by decide +kernel))
    · exact va_eqt (hs (Cond.eq (.elem (.static "LeakingClocks" "MOST_SETTINGS" "[I") (.int 5)) (.int 1)) (by decide +kernel))
  obtain ⟨z1, w1⟩ := st_one (by decide) r1 n1 v1 l1 hini
  have l2 : (Cond.laysStatic RX5 "JUGS" "[I").before #[Value.ref b] s = true := htab _ (List.mem_of_getElem? (i := 515) (by decide +kernel))
  have r2 : (Cond.arrayOf (.static "LeakingClocks" "JUGS" "[I") .int).before #[Value.ref b] s = true := hs _ (by decide +kernel)
  have n2 : (Term.length (.static RX5 "JUGS" "[I")).eval #[Value.ref b] s none [] s = some (.int (Int32.ofNat 3)) := va_eqt (hs (Cond.eq (.length (.static "LeakingClocks" "JUGS" "[I")) (.int 3)) (by decide +kernel))
  have v2 : ∀ j : Nat, j < 3 → (Term.elem (.static RX5 "JUGS" "[I") (.int (Int32.ofNat j))).eval #[Value.ref b] s none [] s = some (.int (tab 2 j)) := fun j hj => by
    rcases (show j = 0 ∨ j = 1 ∨ j = 2 by omega) with rfl | rfl | rfl
    · exact va_eqt (hs (Cond.eq (.elem (.static "LeakingClocks" "JUGS" "[I") (.int 0)) (.int 50)) (by decide +kernel))
    · exact va_eqt (hs (Cond.eq (.elem (.static "LeakingClocks" "JUGS" "[I") (.int 1)) (.int 200)) (by decide +kernel))
    · exact va_eqt (hs (Cond.eq (.elem (.static "LeakingClocks" "JUGS" "[I") (.int 2)) (.int 700)) (by decide +kernel))
  obtain ⟨z2, w2⟩ := st_one (by decide) r2 n2 v2 l2 hini
  refine ⟨fun t => if t = 0 then z0 else if t = 1 then z1 else z2, fun A hA t ht => ?_⟩
  rcases (show t = 0 ∨ t = 1 ∨ t = 2 by omega) with rfl | rfl | rfl
  · exact w0 A hA
  · exact w1 A hA
  · exact w2 A hA
set_option maxHeartbeats 4000000 in
set_option maxRecDepth 100000 in
theorem law_start {D : va_G} {ca : Nat → ClassId} {A : Nat → Prop} {p : Program} {e : Env} {s : State} {m : MethodId} {below : List Frame} {meth : Method} {c : Code} {b : Nat} {Q : State → Prop} (l : Launch) (C0 : Cw D ca A p s m #[Value.ref b] meth c cL_law 11 RL)
    (hend : ∀ (q1 : Nat) (u1 : (Nat → Nat) × (Nat → Nat → Nat)) (h : Nat → Nat), JW D A p l e room_1 s m #[Value.ref b] below meth c 200 2000 Q 11 (([] ++ xW ca q1 u1) ++ lawW ca h) 30 [(5, .ref (h 3)), (4, .ref (h 2)), (3, .ref (h 1)), (2, .ref (h 0)), (1, .ref q1), (0, .ref b)] []) : JW D A p l e room_1 s m #[Value.ref b] below meth c 0 0 Q 11 [] 0 [(0, .ref b)] [] := by
  refine w_new (ci := 5) (N := 8) (r := (RX5, TX5, 8)) (ty := tyX5) (fs := [.null, .null, .null, .null, .null, .null, .null, .int 0]) C0 rfl ub_5 tyX5_ok cl_L_43 is_X5 bn_X5 rfl nf_5 ⟨Nat.le_of_ble_eq_true rfl, Nat.le_of_ble_eq_true rfl⟩ dL_law_0 (fun q1 => ?_)
  refine w_dup C0 dL_law_3 rfl ?_
  refine w_ctor (wp := xW ca) (As := []) (rest := [.ref q1]) C0 (ct_X5 l D ca) kw_L_147 bi_X5_init rfl ⟨Nat.le_of_ble_eq_true rfl, Nat.le_of_ble_eq_true rfl⟩ ⟨Nat.le_of_ble_eq_true rfl, Nat.le_of_ble_eq_true rfl⟩ rfl rfl (Nat.le_of_ble_eq_true rfl) dL_law_4 (fun u1 => ?_)
  refine w_astore_n (lv' := [(1, .ref q1), (0, .ref b)]) C0 dL_law_7 rfl (by decide) rfl ?_
  refine w_bipush (v := 19) C0 dL_law_8 rfl ?_
  refine w_newa (atype := .int) (ty := .int) (N := 19) (t := 0) C0 ac_int rfl rfl (fun _ => rfl) (by decide) rfl (by decide) ⟨Nat.le_of_ble_eq_true rfl, Nat.le_of_ble_eq_true rfl⟩ dL_law_10 (fun h0 => ?_)
  refine w_astore_n (lv' := [(2, .ref h0), (1, .ref q1), (0, .ref b)]) C0 dL_law_12 rfl (by decide) rfl ?_
  refine w_bipush (v := 35) C0 dL_law_13 rfl ?_
  refine w_newa (atype := .int) (ty := .int) (N := 35) (t := 0) C0 ac_int rfl rfl (fun _ => rfl) (by decide) rfl (by decide) ⟨Nat.le_of_ble_eq_true rfl, Nat.le_of_ble_eq_true rfl⟩ dL_law_15 (fun h1 => ?_)
  refine w_astore_n (lv' := [(3, .ref h1), (2, .ref h0), (1, .ref q1), (0, .ref b)]) C0 dL_law_17 rfl (by decide) rfl ?_
  refine w_bipush (v := 40) C0 dL_law_18 rfl ?_
  refine w_newa (atype := .int) (ty := .int) (N := 40) (t := 0) C0 ac_int rfl rfl (fun _ => rfl) (by decide) rfl (by decide) ⟨Nat.le_of_ble_eq_true rfl, Nat.le_of_ble_eq_true rfl⟩ dL_law_20 (fun h2 => ?_)
  refine w_astore (lv' := [(4, .ref h2), (3, .ref h1), (2, .ref h0), (1, .ref q1), (0, .ref b)]) C0 dL_law_22 (by decide) rfl ?_
  refine w_bipush (v := 25) C0 dL_law_24 rfl ?_
  refine w_newa (atype := .int) (ty := .int) (N := 25) (t := 0) C0 ac_int rfl rfl (fun _ => rfl) (by decide) rfl (by decide) ⟨Nat.le_of_ble_eq_true rfl, Nat.le_of_ble_eq_true rfl⟩ dL_law_26 (fun h3 => ?_)
  refine w_astore (lv' := [(5, .ref h3), (4, .ref h2), (3, .ref h1), (2, .ref h0), (1, .ref q1), (0, .ref b)]) C0 dL_law_28 (by decide) rfl ?_
  intro H locs ls hP hD hS hl
  refine W.widen (k := 200) (n := 2000) (Nat.le_of_ble_eq_true rfl) (Nat.le_of_ble_eq_true rfl) (hend q1 u1 (fun i => [h0, h1, h2, h3].getD i 0) H locs ls ?_ ?_ hS hl)
  · have e : ([] ++ xW ca q1 u1) ++ lawW ca (fun i => [h0, h1, h2, h3].getD i 0) = ((((([] ++ xW ca q1 u1) ++ [(h0, .inl (ca 0, 19, .inl (fun _ => 0)))]) ++ [(h1, .inl (ca 0, 35, .inl (fun _ => 0)))]) ++ [(h2, .inl (ca 0, 40, .inl (fun _ => 0)))]) ++ [(h3, .inl (ca 0, 25, .inl (fun _ => 0)))]) := by
      simp only [lawW, List.append_assoc]
      rfl
    rw [e]; exact hP
  · have e : ([] ++ xW ca q1 u1) ++ lawW ca (fun i => [h0, h1, h2, h3].getD i 0) = ((((([] ++ xW ca q1 u1) ++ [(h0, .inl (ca 0, 19, .inl (fun _ => 0)))]) ++ [(h1, .inl (ca 0, 35, .inl (fun _ => 0)))]) ++ [(h2, .inl (ca 0, 40, .inl (fun _ => 0)))]) ++ [(h3, .inl (ca 0, 25, .inl (fun _ => 0)))]) := by
      simp only [lawW, List.append_assoc]
      rfl
    rw [e]; exact hD
