/-! the two methods that make arrays -/
theorem ac_int0 : Cond.arrayClass .int ∈ BG := bg_t 77 (by decide +kernel) rfl
theorem so3 {α β γ : Type} {a a' : α} {b b' : β} {c c' : γ} (h : some (a, b, c) = some (a', b', c')) : a = a' ∧ (b, c) = (b', c') := ⟨(Prod.mk.inj (Option.some.inj h)).1, (Prod.mk.inj (Option.some.inj h)).2⟩
theorem r3 {a a' : Int32} {β γ : Type} {b b' : β} {c c' : γ} (h : some (a, b, c) = some (a', b', c')) (hz : narrow .boolean (.int a) = .int a) : narrow .boolean (.int a') = .int a' := by
  have := (so3 h).1
  rw [← this]; exact hz
section JE
variable {D : va_G} {ca : Nat → ClassId} {ad : I3 → Nat} {p : Program} {l : Launch} {e : Env} {R : Room} {s : State} {m : MethodId} {args : Array Value} {below : List Frame} {meth : Method} {c : Code} {nL : Nat} {k n : Nat} {Q : State → Prop} {pc : Nat} {lv : List (Nat × Value)}
theorem j_end3 {X X' : XS} {M M' : Nat → Nat → Int32} {v r0 : Int32} (h : some (v, X, M) = some (r0, X', M')) (kk : J D ca ad p l e R s m args below meth c k n Q nL (X'.1, X'.2, M') pc lv [.int r0]) : J D ca ad p l e R s m args below meth c k n Q nL (X.1, X.2, M) pc lv [.int v] := by
  cases h
  exact kk
end JE
set_option maxHeartbeats 8000000 in
set_option maxRecDepth 100000 in
theorem L_would_tail {l : Launch} {D : va_G} {ca : Nat → ClassId} {ad : I3 → Nat} (hi : adI ad) (hn4 : (14, 4, 0) ∈ idA ad) (hn5 : (14, 5, 0) ∈ idA ad) (hn6 : (14, 6, 0) ∈ idA ad) {p : Program} {e : Env} {s : State} {m : MethodId} {args : Array Value} {below : List Frame} {meth : Method} {c : Code} {Q : State → Prop} {X X' : XS} {M M' : Nat → Nat → Int32} {r0 : Int32} {z5 : Int32} {z6 : Int32} {z7 : Int32} {z8 : Int32} (C0 : Cx D ca ad p s m args meth c cL_would 17 RL) (hend : ∀ (lv : List (Nat × Value)) (pc : Nat), narrow .boolean (.int r0) = .int r0 → decode cL_would pc = .ok (.ireturn, 1) → J D ca ad p l e ({ frames := 7, cells := 3, slots := 94, locals := 165 }) s m args below meth c 3 94 Q 17 (X'.1, X'.2, M') pc lv [.int r0]) (hf : fL_wouldT X M z5 z6 z7 z8 = some (r0, X', M')) : J D ca ad p l e ({ frames := 7, cells := 3, slots := 94, locals := 165 }) s m args below meth c 3 94 Q 17 (X.1, X.2, M) 121 [(0, .ref (ad (0, 0, 0))), (1, .ref (ad (14, 0, 0))), (2, .ref (ad (14, 1, 0))), (3, .ref (ad (14, 2, 0))), (4, .ref (ad (14, 3, 0))), (5, .int z5), (6, .int z6), (7, .int z7), (8, .int z8), (9, .ref (ad (14, 4, 0))), (10, .ref (ad (14, 5, 0))), (11, .ref (ad (14, 6, 0)))] [] := by
  have L258 : ∀ (n : Nat) (X : XS) (M : Nat → Nat → Int32) (y5 : Int32) (y6 : Int32) (y13 : Int32) (y14 : Int32) (y15 : Int32) (y16 : Int32), fL_wouldT_L258 n X M y5 y6 y13 y14 y15 y16 = some (r0, X', M') → J D ca ad p l e ({ frames := 7, cells := 3, slots := 94, locals := 165 }) s m args below meth c 3 94 Q 17 (X.1, X.2, M) 258 [(0, .ref (ad (0, 0, 0))), (1, .ref (ad (14, 0, 0))), (2, .ref (ad (14, 1, 0))), (3, .ref (ad (14, 2, 0))), (4, .ref (ad (14, 3, 0))), (5, .int y5), (6, .int y6), (9, .ref (ad (14, 4, 0))), (10, .ref (ad (14, 5, 0))), (11, .ref (ad (14, 6, 0))), (13, .int y13), (14, .int y14), (15, .int y15), (16, .int y16)] [] := by
    intro n
    induction n with
    | zero =>
      intro X M y5 y6 y13 y14 y15 y16 hf
      exact (none_ne hf).elim
    | succ n ih =>
      intro X M y5 y6 y13 y14 y15 y16 hf
      rw [fL_wouldT_L258] at hf
      refine j_iload C0 dL_would_258 13 rfl ?_
      refine j_aload_n C0 dL_would_260 rfl 2 rfl ?_
      refine j_bipush (v := 10) C0 dL_would_261 rfl ?_
      refine j_iload C0 dL_would_263 6 rfl ?_
      refine j_iadd C0 dL_would_265 ?_
      obtain ⟨h14, hf⟩ := gd_some hf
      refine j_iald (x := (M 1 (((10 : Int32) + y6).toNatClampNeg))) C0 al_14_1 rfl (ia hi id_l1) h14 (by rw [Nat.zero_add]; rfl) dL_would_266 ?_
      refine j_icmp_ge (tgt := 381) C0 dL_would_267 (by decide) (fun c15 => ?_) (fun c15 => ?_)
      · have hf := if_t c15 hf
        refine j_iload C0 dL_would_381 5 rfl ?_
        refine j_iconst (v := 5) C0 dL_would_383 rfl ?_
        refine j_ishr C0 dL_would_384 ?_
        refine j_iconst (v := 4) C0 dL_would_385 rfl ?_
        obtain ⟨q16, hcq16, hf⟩ := bd_some hf
        refine j_callS (As := [.int (y5 >>> ((5 : Int32) &&& 31)), .int (4 : Int32)]) (rest := []) (stk := [.int q16]) (G2 := (X.1, X.2, M)) C0 (c_L_low hi (G0 := (X.1, X.2, M))  hcq16) kw_L_85 bi_L_low rfl ⟨by decide, by decide⟩ ⟨Nat.le_of_ble_eq_true rfl, Nat.le_of_ble_eq_true rfl⟩ rfl rfl (Nat.le_of_ble_eq_true rfl) rfl rfl dL_would_386 ?_
        refine j_if_gt (tgt := 420) C0 dL_would_389 (by decide) (fun c17 => ?_) (fun c17 => ?_)
        · have hf := if_t c17 hf
          refine j_iconst (v := 1) C0 dL_would_420 rfl ?_
          refine j_goto (tgt := 425) C0 dL_would_421 (by decide) ?_
          exact j_end3 hf (hend _ _ (r3 hf rfl) dL_would_425)
        have hf := if_f c17 hf
        refine j_aload_n C0 dL_would_392 rfl 0 rfl ?_
        refine j_iload C0 dL_would_393 6 rfl ?_
        refine j_iconst (v := 0) C0 dL_would_395 rfl ?_
        obtain ⟨q18, hcq18, hf⟩ := bd_some hf
        refine j_callV (As := [.int y6, .int (0 : Int32)]) (rest := []) (stk := [.int q18.1]) (G2 := (q18.2.1, q18.2.2, M)) C0 (c_X5_bestWax hi (M0 := M)  hcq18) kw_L_82 bi_X5_bestWax bx_X5_bestWax (ia hi id_c0) oc_0 rfl ⟨by decide, by decide⟩ ⟨Nat.le_of_ble_eq_true rfl, Nat.le_of_ble_eq_true rfl⟩ rfl rfl (Nat.le_of_ble_eq_true rfl) rfl rfl dL_would_396 ?_
        refine j_iload C0 dL_would_399 10 rfl ?_
        refine j_icmp_ne (tgt := 424) C0 dL_would_401 (by decide) (fun c19 => ?_) (fun c19 => ?_)
        · have hf := if_f c19 hf
          refine j_iconst (v := 0) C0 dL_would_424 rfl ?_
          exact j_end3 hf (hend _ _ (r3 hf rfl) dL_would_425)
        have hf := if_t c19 hf
        refine j_aload_n C0 dL_would_404 rfl 0 rfl ?_
        refine j_iload C0 dL_would_405 6 rfl ?_
        refine j_iconst (v := 1) C0 dL_would_407 rfl ?_
        obtain ⟨q20, hcq20, hf⟩ := bd_some hf
        refine j_callV (As := [.int y6, .int (1 : Int32)]) (rest := []) (stk := [.int q20.1]) (G2 := (q20.2.1, q20.2.2, M)) C0 (c_X5_bestWax hi (M0 := M)  hcq20) kw_L_82 bi_X5_bestWax bx_X5_bestWax (ia hi id_c0) oc_0 rfl ⟨by decide, by decide⟩ ⟨Nat.le_of_ble_eq_true rfl, Nat.le_of_ble_eq_true rfl⟩ rfl rfl (Nat.le_of_ble_eq_true rfl) rfl rfl dL_would_408 ?_
        refine j_iload C0 dL_would_411 12 rfl ?_
        refine j_sipush (v := 10000) C0 dL_would_413 rfl ?_
        refine j_iadd C0 dL_would_416 ?_
        refine j_icmp_ne (tgt := 424) C0 dL_would_417 (by decide) (fun c21 => ?_) (fun c21 => ?_)
        · have hf := if_f c21 hf
          refine j_iconst (v := 0) C0 dL_would_424 rfl ?_
          exact j_end3 hf (hend _ _ (r3 hf rfl) dL_would_425)
        have hf := if_t c21 hf
        refine j_iconst (v := 1) C0 dL_would_420 rfl ?_
        refine j_goto (tgt := 425) C0 dL_would_421 (by decide) ?_
        exact j_end3 hf (hend _ _ (r3 hf rfl) dL_would_425)
      have hf := if_f c15 hf
      refine j_iload C0 dL_would_270 5 rfl ?_
      refine j_iconst (v := 5) C0 dL_would_272 rfl ?_
      refine j_ishr C0 dL_would_273 ?_
      refine j_iconst (v := 4) C0 dL_would_274 rfl ?_
      obtain ⟨q22, hcq22, hf⟩ := bd_some hf
      refine j_callS (As := [.int (y5 >>> ((5 : Int32) &&& 31)), .int (4 : Int32)]) (rest := []) (stk := [.int q22]) (G2 := (X.1, X.2, M)) C0 (c_L_low hi (G0 := (X.1, X.2, M))  hcq22) kw_L_85 bi_L_low rfl ⟨by decide, by decide⟩ ⟨Nat.le_of_ble_eq_true rfl, Nat.le_of_ble_eq_true rfl⟩ rfl rfl (Nat.le_of_ble_eq_true rfl) rfl rfl dL_would_275 ?_
      refine j_if_ne (tgt := 381) C0 dL_would_278 (by decide) (fun c23 => ?_) (fun c23 => ?_)
      · have hf := if_f c23 hf
        refine j_iload C0 dL_would_381 5 rfl ?_
        refine j_iconst (v := 5) C0 dL_would_383 rfl ?_
        refine j_ishr C0 dL_would_384 ?_
        refine j_iconst (v := 4) C0 dL_would_385 rfl ?_
        obtain ⟨q24, hcq24, hf⟩ := bd_some hf
        refine j_callS (As := [.int (y5 >>> ((5 : Int32) &&& 31)), .int (4 : Int32)]) (rest := []) (stk := [.int q24]) (G2 := (X.1, X.2, M)) C0 (c_L_low hi (G0 := (X.1, X.2, M))  hcq24) kw_L_85 bi_L_low rfl ⟨by decide, by decide⟩ ⟨Nat.le_of_ble_eq_true rfl, Nat.le_of_ble_eq_true rfl⟩ rfl rfl (Nat.le_of_ble_eq_true rfl) rfl rfl dL_would_386 ?_
        refine j_if_gt (tgt := 420) C0 dL_would_389 (by decide) (fun c25 => ?_) (fun c25 => ?_)
        · have hf := if_t c25 hf
          refine j_iconst (v := 1) C0 dL_would_420 rfl ?_
          refine j_goto (tgt := 425) C0 dL_would_421 (by decide) ?_
          exact j_end3 hf (hend _ _ (r3 hf rfl) dL_would_425)
        have hf := if_f c25 hf
        refine j_aload_n C0 dL_would_392 rfl 0 rfl ?_
        refine j_iload C0 dL_would_393 6 rfl ?_
        refine j_iconst (v := 0) C0 dL_would_395 rfl ?_
        obtain ⟨q26, hcq26, hf⟩ := bd_some hf
        refine j_callV (As := [.int y6, .int (0 : Int32)]) (rest := []) (stk := [.int q26.1]) (G2 := (q26.2.1, q26.2.2, M)) C0 (c_X5_bestWax hi (M0 := M)  hcq26) kw_L_82 bi_X5_bestWax bx_X5_bestWax (ia hi id_c0) oc_0 rfl ⟨by decide, by decide⟩ ⟨Nat.le_of_ble_eq_true rfl, Nat.le_of_ble_eq_true rfl⟩ rfl rfl (Nat.le_of_ble_eq_true rfl) rfl rfl dL_would_396 ?_
        refine j_iload C0 dL_would_399 10 rfl ?_
        refine j_icmp_ne (tgt := 424) C0 dL_would_401 (by decide) (fun c27 => ?_) (fun c27 => ?_)
        · have hf := if_f c27 hf
          refine j_iconst (v := 0) C0 dL_would_424 rfl ?_
          exact j_end3 hf (hend _ _ (r3 hf rfl) dL_would_425)
        have hf := if_t c27 hf
        refine j_aload_n C0 dL_would_404 rfl 0 rfl ?_
        refine j_iload C0 dL_would_405 6 rfl ?_
        refine j_iconst (v := 1) C0 dL_would_407 rfl ?_
        obtain ⟨q28, hcq28, hf⟩ := bd_some hf
        refine j_callV (As := [.int y6, .int (1 : Int32)]) (rest := []) (stk := [.int q28.1]) (G2 := (q28.2.1, q28.2.2, M)) C0 (c_X5_bestWax hi (M0 := M)  hcq28) kw_L_82 bi_X5_bestWax bx_X5_bestWax (ia hi id_c0) oc_0 rfl ⟨by decide, by decide⟩ ⟨Nat.le_of_ble_eq_true rfl, Nat.le_of_ble_eq_true rfl⟩ rfl rfl (Nat.le_of_ble_eq_true rfl) rfl rfl dL_would_408 ?_
        refine j_iload C0 dL_would_411 12 rfl ?_
        refine j_sipush (v := 10000) C0 dL_would_413 rfl ?_
        refine j_iadd C0 dL_would_416 ?_
        refine j_icmp_ne (tgt := 424) C0 dL_would_417 (by decide) (fun c29 => ?_) (fun c29 => ?_)
        · have hf := if_f c29 hf
          refine j_iconst (v := 0) C0 dL_would_424 rfl ?_
          exact j_end3 hf (hend _ _ (r3 hf rfl) dL_would_425)
        have hf := if_t c29 hf
        refine j_iconst (v := 1) C0 dL_would_420 rfl ?_
        refine j_goto (tgt := 425) C0 dL_would_421 (by decide) ?_
        exact j_end3 hf (hend _ _ (r3 hf rfl) dL_would_425)
      have hf := if_t c23 hf
      refine j_aload_n C0 dL_would_281 rfl 1 rfl ?_
      refine j_aload C0 dL_would_282 7 rfl ?_
      obtain ⟨q30, hcq30, hf⟩ := bd_some hf
      refine j_callS (As := [.ref (ad (14, 0, 0)), .ref (ad (14, 4, 0))]) (rest := []) (stk := []) (G2 := (X.1, X.2, q30)) C0 (c_L_copy hi (Cc := X.1) (Bb := X.2) al_14_0 (ia hi id_l0) al_14_4 hn4 hcq30) kw_L_88 bi_L_copy rfl ⟨by decide, by decide⟩ ⟨Nat.le_of_ble_eq_true rfl, Nat.le_of_ble_eq_true rfl⟩ rfl rfl (Nat.le_of_ble_eq_true rfl) rfl rfl dL_would_284 ?_
      refine j_aload_n C0 dL_would_287 rfl 2 rfl ?_
      refine j_aload C0 dL_would_288 8 rfl ?_
      obtain ⟨q31, hcq31, hf⟩ := bd_some hf
      refine j_callS (As := [.ref (ad (14, 1, 0)), .ref (ad (14, 5, 0))]) (rest := []) (stk := []) (G2 := (X.1, X.2, q31)) C0 (c_L_copy hi (Cc := X.1) (Bb := X.2) al_14_1 (ia hi id_l1) al_14_5 hn5 hcq31) kw_L_88 bi_L_copy rfl ⟨by decide, by decide⟩ ⟨Nat.le_of_ble_eq_true rfl, Nat.le_of_ble_eq_true rfl⟩ rfl rfl (Nat.le_of_ble_eq_true rfl) rfl rfl dL_would_290 ?_
      refine j_aload_n C0 dL_would_293 rfl 3 rfl ?_
      refine j_aload C0 dL_would_294 9 rfl ?_
      obtain ⟨q32, hcq32, hf⟩ := bd_some hf
      refine j_callS (As := [.ref (ad (14, 2, 0)), .ref (ad (14, 6, 0))]) (rest := []) (stk := []) (G2 := (X.1, X.2, q32)) C0 (c_L_copy hi (Cc := X.1) (Bb := X.2) al_14_2 (ia hi id_l2) al_14_6 hn6 hcq32) kw_L_88 bi_L_copy rfl ⟨by decide, by decide⟩ ⟨Nat.le_of_ble_eq_true rfl, Nat.le_of_ble_eq_true rfl⟩ rfl rfl (Nat.le_of_ble_eq_true rfl) rfl rfl dL_would_296 ?_
      refine j_aload C0 dL_would_299 8 rfl ?_
      refine j_bipush (v := 10) C0 dL_would_301 rfl ?_
      refine j_iload C0 dL_would_303 6 rfl ?_
      refine j_iadd C0 dL_would_305 ?_
      refine j_dup2 C0 dL_would_306 rfl rfl ?_
      obtain ⟨h33, hf⟩ := gd_some hf
      refine j_iald (x := (q32 5 (((10 : Int32) + y6).toNatClampNeg))) C0 al_14_5 rfl hn5 h33 (by rw [Nat.zero_add]; rfl) dL_would_307 ?_
      refine j_iload C0 dL_would_308 13 rfl ?_
      refine j_isub C0 dL_would_310 ?_
      obtain ⟨h34, hf⟩ := gd_some hf
      obtain ⟨M35, e36, hf⟩ := lt_some hf
      refine j_iast (G' := (X.1, X.2, M35)) C0 al_14_5 rfl hn5 h34 (by rw [Nat.zero_add]; exact (eM_set e36)) dL_would_311 ?_
      refine j_aload C0 dL_would_312 7 rfl ?_
      refine j_aload C0 dL_would_314 8 rfl ?_
      refine j_aload C0 dL_would_316 9 rfl ?_
      refine j_aload C0 dL_would_318 4 rfl ?_
      refine j_sipush (v := 400) C0 dL_would_320 rfl ?_
      refine j_iconst (v := 0) C0 dL_would_323 rfl ?_
      obtain ⟨q37, hcq37, hf⟩ := bd_some hf
      refine j_callS (As := [.ref (ad (14, 4, 0)), .ref (ad (14, 5, 0)), .ref (ad (14, 6, 0)), .ref (ad (14, 3, 0)), .int (400 : Int32), .int (0 : Int32)]) (rest := []) (stk := [.int q37.1]) (G2 := (X.1, X.2, q37.2)) C0 (c_L_ticks hi (Cc := X.1) (Bb := X.2) al_14_4 hn4 al_14_5 hn5 al_14_6 hn6 al_14_3 (ia hi id_l3) hcq37) kw_L_92 bi_L_ticks rfl ⟨by decide, by decide⟩ ⟨Nat.le_of_ble_eq_true rfl, Nat.le_of_ble_eq_true rfl⟩ rfl rfl (Nat.le_of_ble_eq_true rfl) rfl rfl dL_would_324 ?_
      refine j_istore (lv' := [(12, .int q37.1), (0, .ref (ad (0, 0, 0))), (1, .ref (ad (14, 0, 0))), (2, .ref (ad (14, 1, 0))), (3, .ref (ad (14, 2, 0))), (4, .ref (ad (14, 3, 0))), (5, .int y5), (6, .int y6), (9, .ref (ad (14, 4, 0))), (10, .ref (ad (14, 5, 0))), (11, .ref (ad (14, 6, 0))), (13, .int y13), (14, .int y14), (15, .int y15), (16, .int y16)]) C0 dL_would_327 (by decide) rfl ?_
      refine j_aload C0 dL_would_329 8 rfl ?_
      refine j_aload C0 dL_would_331 9 rfl ?_
      refine j_aload C0 dL_would_333 10 rfl ?_
      refine j_iload C0 dL_would_335 7 rfl ?_
      obtain ⟨q38, hcq38, hf⟩ := bd_some hf
      refine j_callS (As := [.ref (ad (14, 4, 0)), .ref (ad (14, 5, 0)), .ref (ad (14, 6, 0)), .int y6]) (rest := []) (stk := [.int q38]) (G2 := (X.1, X.2, q37.2)) C0 (c_L_off hi (Cc := X.1) (Bb := X.2) al_14_4 hn4 al_14_5 hn5 al_14_6 hn6 hcq38) kw_L_35 bi_L_off rfl ⟨by decide, by decide⟩ ⟨Nat.le_of_ble_eq_true rfl, Nat.le_of_ble_eq_true rfl⟩ rfl rfl (Nat.le_of_ble_eq_true rfl) rfl rfl dL_would_337 ?_
      refine j_iload C0 dL_would_340 12 rfl ?_
      refine j_icmp_ge (tgt := 375) C0 dL_would_342 (by decide) (fun c39 => ?_) (fun c39 => ?_)
      · have hf := if_t c39 hf
        refine j_iinc (v := (y16 + 1)) (lv' := [(16, .int (y16 + 1)), (12, .int q37.1), (0, .ref (ad (0, 0, 0))), (1, .ref (ad (14, 0, 0))), (2, .ref (ad (14, 1, 0))), (3, .ref (ad (14, 2, 0))), (4, .ref (ad (14, 3, 0))), (5, .int y5), (6, .int y6), (9, .ref (ad (14, 4, 0))), (10, .ref (ad (14, 5, 0))), (11, .ref (ad (14, 6, 0))), (13, .int y13), (14, .int y14), (15, .int y15)]) C0 dL_would_375 14 rfl rfl (by decide) rfl ?_
        refine j_goto (tgt := 258) C0 dL_would_378 (by decide) ?_
        exact j_sub [2, 3, 4, 5, 6, 7, 8, 9, 10, 11, 12, 13, 14, 0] rfl (ih X q37.2 y5 y6 y13 y14 y15 (y16 + 1) hf)
      have hf := if_f c39 hf
      refine j_iload C0 dL_would_345 14 rfl ?_
      refine j_istore (lv' := [(13, .int y16), (12, .int q37.1), (0, .ref (ad (0, 0, 0))), (1, .ref (ad (14, 0, 0))), (2, .ref (ad (14, 1, 0))), (3, .ref (ad (14, 2, 0))), (4, .ref (ad (14, 3, 0))), (5, .int y5), (6, .int y6), (9, .ref (ad (14, 4, 0))), (10, .ref (ad (14, 5, 0))), (11, .ref (ad (14, 6, 0))), (14, .int y14), (15, .int y15), (16, .int y16)]) C0 dL_would_347 (by decide) rfl ?_
      refine j_aload C0 dL_would_349 9 rfl ?_
      refine j_aload C0 dL_would_351 10 rfl ?_
      refine j_aload C0 dL_would_353 11 rfl ?_
      refine j_iload C0 dL_would_355 8 rfl ?_
      obtain ⟨q40, hcq40, hf⟩ := bd_some hf
      refine j_callS (As := [.ref (ad (14, 4, 0)), .ref (ad (14, 5, 0)), .ref (ad (14, 6, 0)), .int y6]) (rest := []) (stk := [.int q40]) (G2 := (X.1, X.2, q37.2)) C0 (c_L_off hi (Cc := X.1) (Bb := X.2) al_14_4 hn4 al_14_5 hn5 al_14_6 hn6 hcq40) kw_L_35 bi_L_off rfl ⟨by decide, by decide⟩ ⟨Nat.le_of_ble_eq_true rfl, Nat.le_of_ble_eq_true rfl⟩ rfl rfl (Nat.le_of_ble_eq_true rfl) rfl rfl dL_would_357 ?_
      refine j_istore (lv' := [(14, .int q40), (13, .int y16), (12, .int q37.1), (0, .ref (ad (0, 0, 0))), (1, .ref (ad (14, 0, 0))), (2, .ref (ad (14, 1, 0))), (3, .ref (ad (14, 2, 0))), (4, .ref (ad (14, 3, 0))), (5, .int y5), (6, .int y6), (9, .ref (ad (14, 4, 0))), (10, .ref (ad (14, 5, 0))), (11, .ref (ad (14, 6, 0))), (15, .int y15), (16, .int y16)]) C0 dL_would_360 (by decide) rfl ?_
      refine j_aload C0 dL_would_362 10 rfl ?_
      refine j_aload C0 dL_would_364 11 rfl ?_
      refine j_aload C0 dL_would_366 12 rfl ?_
      refine j_iload C0 dL_would_368 9 rfl ?_
      obtain ⟨q41, hcq41, hf⟩ := bd_some hf
      refine j_callS (As := [.ref (ad (14, 4, 0)), .ref (ad (14, 5, 0)), .ref (ad (14, 6, 0)), .int y6]) (rest := []) (stk := [.int q41]) (G2 := (X.1, X.2, q37.2)) C0 (c_L_error hi (Cc := X.1) (Bb := X.2) al_14_4 hn4 al_14_5 hn5 al_14_6 hn6 hcq41) kw_L_15 bi_L_error rfl ⟨by decide, by decide⟩ ⟨Nat.le_of_ble_eq_true rfl, Nat.le_of_ble_eq_true rfl⟩ rfl rfl (Nat.le_of_ble_eq_true rfl) rfl rfl dL_would_370 ?_
      refine j_istore (lv' := [(15, .int q41), (14, .int q40), (13, .int y16), (12, .int q37.1), (0, .ref (ad (0, 0, 0))), (1, .ref (ad (14, 0, 0))), (2, .ref (ad (14, 1, 0))), (3, .ref (ad (14, 2, 0))), (4, .ref (ad (14, 3, 0))), (5, .int y5), (6, .int y6), (9, .ref (ad (14, 4, 0))), (10, .ref (ad (14, 5, 0))), (11, .ref (ad (14, 6, 0))), (16, .int y16)]) C0 dL_would_373 (by decide) rfl ?_
      refine j_iinc (v := (y16 + 1)) (lv' := [(16, .int (y16 + 1)), (15, .int q41), (14, .int q40), (13, .int y16), (12, .int q37.1), (0, .ref (ad (0, 0, 0))), (1, .ref (ad (14, 0, 0))), (2, .ref (ad (14, 1, 0))), (3, .ref (ad (14, 2, 0))), (4, .ref (ad (14, 3, 0))), (5, .int y5), (6, .int y6), (9, .ref (ad (14, 4, 0))), (10, .ref (ad (14, 5, 0))), (11, .ref (ad (14, 6, 0)))]) C0 dL_would_375 14 rfl rfl (by decide) rfl ?_
      refine j_goto (tgt := 258) C0 dL_would_378 (by decide) ?_
      exact j_sub [5, 6, 7, 8, 9, 10, 11, 12, 13, 14, 3, 2, 1, 0] rfl (ih X q37.2 y5 y6 y16 q40 q41 (y16 + 1) hf)
  unfold fL_wouldT at hf
  refine j_aload_n C0 dL_would_121 rfl 1 rfl ?_
  refine j_aload C0 dL_would_122 9 rfl ?_
  obtain ⟨q1, hcq1, hf⟩ := bd_some hf
  refine j_callS (As := [.ref (ad (14, 0, 0)), .ref (ad (14, 4, 0))]) (rest := []) (stk := []) (G2 := (X.1, X.2, q1)) C0 (c_L_copy hi (Cc := X.1) (Bb := X.2) al_14_0 (ia hi id_l0) al_14_4 hn4 hcq1) kw_L_88 bi_L_copy rfl ⟨by decide, by decide⟩ ⟨Nat.le_of_ble_eq_true rfl, Nat.le_of_ble_eq_true rfl⟩ rfl rfl (Nat.le_of_ble_eq_true rfl) rfl rfl dL_would_124 ?_
  refine j_aload_n C0 dL_would_127 rfl 2 rfl ?_
  refine j_aload C0 dL_would_128 10 rfl ?_
  obtain ⟨q2, hcq2, hf⟩ := bd_some hf
  refine j_callS (As := [.ref (ad (14, 1, 0)), .ref (ad (14, 5, 0))]) (rest := []) (stk := []) (G2 := (X.1, X.2, q2)) C0 (c_L_copy hi (Cc := X.1) (Bb := X.2) al_14_1 (ia hi id_l1) al_14_5 hn5 hcq2) kw_L_88 bi_L_copy rfl ⟨by decide, by decide⟩ ⟨Nat.le_of_ble_eq_true rfl, Nat.le_of_ble_eq_true rfl⟩ rfl rfl (Nat.le_of_ble_eq_true rfl) rfl rfl dL_would_130 ?_
  refine j_aload_n C0 dL_would_133 rfl 3 rfl ?_
  refine j_aload C0 dL_would_134 11 rfl ?_
  obtain ⟨q3, hcq3, hf⟩ := bd_some hf
  refine j_callS (As := [.ref (ad (14, 2, 0)), .ref (ad (14, 6, 0))]) (rest := []) (stk := []) (G2 := (X.1, X.2, q3)) C0 (c_L_copy hi (Cc := X.1) (Bb := X.2) al_14_2 (ia hi id_l2) al_14_6 hn6 hcq3) kw_L_88 bi_L_copy rfl ⟨by decide, by decide⟩ ⟨Nat.le_of_ble_eq_true rfl, Nat.le_of_ble_eq_true rfl⟩ rfl rfl (Nat.le_of_ble_eq_true rfl) rfl rfl dL_would_136 ?_
  refine j_aload C0 dL_would_139 9 rfl ?_
  refine j_aload C0 dL_would_141 10 rfl ?_
  refine j_aload C0 dL_would_143 11 rfl ?_
  refine j_aload C0 dL_would_145 4 rfl ?_
  refine j_sipush (v := 400) C0 dL_would_147 rfl ?_
  refine j_iconst (v := 0) C0 dL_would_150 rfl ?_
  obtain ⟨q4, hcq4, hf⟩ := bd_some hf
  refine j_callS (As := [.ref (ad (14, 4, 0)), .ref (ad (14, 5, 0)), .ref (ad (14, 6, 0)), .ref (ad (14, 3, 0)), .int (400 : Int32), .int (0 : Int32)]) (rest := []) (stk := [.int q4.1]) (G2 := (X.1, X.2, q4.2)) C0 (c_L_ticks hi (Cc := X.1) (Bb := X.2) al_14_4 hn4 al_14_5 hn5 al_14_6 hn6 al_14_3 (ia hi id_l3) hcq4) kw_L_92 bi_L_ticks rfl ⟨by decide, by decide⟩ ⟨Nat.le_of_ble_eq_true rfl, Nat.le_of_ble_eq_true rfl⟩ rfl rfl (Nat.le_of_ble_eq_true rfl) rfl rfl dL_would_151 ?_
  refine j_istore (lv' := [(12, .int q4.1), (0, .ref (ad (0, 0, 0))), (1, .ref (ad (14, 0, 0))), (2, .ref (ad (14, 1, 0))), (3, .ref (ad (14, 2, 0))), (4, .ref (ad (14, 3, 0))), (5, .int z5), (6, .int z6), (7, .int z7), (8, .int z8), (9, .ref (ad (14, 4, 0))), (10, .ref (ad (14, 5, 0))), (11, .ref (ad (14, 6, 0)))]) C0 dL_would_154 (by decide) rfl ?_
  refine j_aload_n C0 dL_would_156 rfl 1 rfl ?_
  refine j_iload C0 dL_would_157 7 rfl ?_
  obtain ⟨q5, hcq5, hf⟩ := bd_some hf
  refine j_callV (As := [.int z6]) (rest := []) (stk := [.int q5.1]) (G2 := (q5.2.1, q5.2.2, q4.2)) C0 (c_X5_noonError hi (M0 := q4.2)  hcq5) kw_L_73 bi_X5_noonError bx_X5_noonError (ia hi id_c0) oc_0 rfl ⟨by decide, by decide⟩ ⟨Nat.le_of_ble_eq_true rfl, Nat.le_of_ble_eq_true rfl⟩ rfl rfl (Nat.le_of_ble_eq_true rfl) rfl rfl dL_would_159 ?_
  refine j_aload C0 dL_would_162 10 rfl ?_
  refine j_aload C0 dL_would_164 11 rfl ?_
  refine j_aload C0 dL_would_166 12 rfl ?_
  refine j_iload C0 dL_would_168 7 rfl ?_
  obtain ⟨q6, hcq6, hf⟩ := bd_some hf
  refine j_callS (As := [.ref (ad (14, 4, 0)), .ref (ad (14, 5, 0)), .ref (ad (14, 6, 0)), .int z6]) (rest := [.int q5.1]) (stk := [.int q6, .int q5.1]) (G2 := (q5.2.1, q5.2.2, q4.2)) C0 (c_L_error hi (Cc := q5.2.1) (Bb := q5.2.2) al_14_4 hn4 al_14_5 hn5 al_14_6 hn6 hcq6) kw_L_15 bi_L_error rfl ⟨by decide, by decide⟩ ⟨Nat.le_of_ble_eq_true rfl, Nat.le_of_ble_eq_true rfl⟩ rfl rfl (Nat.le_of_ble_eq_true rfl) rfl rfl dL_would_170 ?_
  refine j_sipush (v := 10000) C0 dL_would_173 rfl ?_
  refine j_iadd C0 dL_would_176 ?_
  refine j_icmp_ne (tgt := 224) C0 dL_would_177 (by decide) (fun c7 => ?_) (fun c7 => ?_)
  · have hf := if_f c7 hf
    refine j_iconst (v := 0) C0 dL_would_224 rfl ?_
    exact j_end3 hf (hend _ _ (r3 hf rfl) dL_would_225)
  have hf := if_t c7 hf
  refine j_iload C0 dL_would_180 0 rfl ?_
  refine j_if_lt (tgt := 224) C0 dL_would_182 (by decide) (fun c8 => ?_) (fun c8 => ?_)
  · have hf := if_t c8 hf
    refine j_iconst (v := 0) C0 dL_would_224 rfl ?_
    exact j_end3 hf (hend _ _ (r3 hf rfl) dL_would_225)
  have hf := if_f c8 hf
  refine j_aload_n C0 dL_would_185 rfl 1 rfl ?_
  refine j_iload C0 dL_would_186 7 rfl ?_
  refine j_iload C0 dL_would_188 8 rfl ?_
  obtain ⟨q9, hcq9, hf⟩ := bd_some hf
  refine j_callV (As := [.int z6, .int z7]) (rest := []) (stk := [.int q9]) (G2 := (q5.2.1, q5.2.2, q4.2)) C0 (c_X5_why hi (M0 := q4.2)  hcq9) kw_L_79 bi_X5_why bx_X5_why (ia hi id_c0) oc_0 rfl ⟨by decide, by decide⟩ ⟨Nat.le_of_ble_eq_true rfl, Nat.le_of_ble_eq_true rfl⟩ rfl rfl (Nat.le_of_ble_eq_true rfl) rfl rfl dL_would_190 ?_
  refine j_aload_n C0 dL_would_193 rfl 2 rfl ?_
  refine j_bipush (v := 7) C0 dL_would_194 rfl ?_
  refine j_iald (x := (q4.2 0 7)) C0 al_14_0 rfl (ia hi id_l0) (by decide) (by rw [Nat.zero_add]; rfl) dL_would_196 ?_
  refine j_iload C0 dL_would_197 9 rfl ?_
  obtain ⟨q10, hsq10, hf⟩ := bd_some hf
  have Jq10 : J D ca ad p l e ({ frames := 7, cells := 3, slots := 94, locals := 165 }) s m args below meth c 3 94 Q 17 (q5.2.1, q5.2.2, q4.2) 221 [(0, .ref (ad (0, 0, 0))), (1, .ref (ad (14, 0, 0))), (2, .ref (ad (14, 1, 0))), (3, .ref (ad (14, 2, 0))), (4, .ref (ad (14, 3, 0))), (5, .int z5), (6, .int z6), (9, .ref (ad (14, 4, 0))), (10, .ref (ad (14, 5, 0))), (11, .ref (ad (14, 6, 0)))] [.int q10, .int q9] := by
    refine j_icmp_eq (tgt := 226) C0 dL_would_221 (by decide) (fun c11 => ?_) (fun c11 => ?_)
    · have hf := if_t c11 hf
      refine j_iconst (v := 0) C0 dL_would_226 rfl ?_
      refine j_istore (lv' := [(13, .int (0 : Int32)), (0, .ref (ad (0, 0, 0))), (1, .ref (ad (14, 0, 0))), (2, .ref (ad (14, 1, 0))), (3, .ref (ad (14, 2, 0))), (4, .ref (ad (14, 3, 0))), (5, .int z5), (6, .int z6), (9, .ref (ad (14, 4, 0))), (10, .ref (ad (14, 5, 0))), (11, .ref (ad (14, 6, 0)))]) C0 dL_would_227 (by decide) rfl ?_
      refine j_aload C0 dL_would_229 8 rfl ?_
      refine j_aload C0 dL_would_231 9 rfl ?_
      refine j_aload C0 dL_would_233 10 rfl ?_
      refine j_iload C0 dL_would_235 7 rfl ?_
      obtain ⟨q12, hcq12, hf⟩ := bd_some hf
      refine j_callS (As := [.ref (ad (14, 4, 0)), .ref (ad (14, 5, 0)), .ref (ad (14, 6, 0)), .int z6]) (rest := []) (stk := [.int q12]) (G2 := (q5.2.1, q5.2.2, q4.2)) C0 (c_L_off hi (Cc := q5.2.1) (Bb := q5.2.2) al_14_4 hn4 al_14_5 hn5 al_14_6 hn6 hcq12) kw_L_35 bi_L_off rfl ⟨by decide, by decide⟩ ⟨Nat.le_of_ble_eq_true rfl, Nat.le_of_ble_eq_true rfl⟩ rfl rfl (Nat.le_of_ble_eq_true rfl) rfl rfl dL_would_237 ?_
      refine j_istore (lv' := [(14, .int q12), (13, .int (0 : Int32)), (0, .ref (ad (0, 0, 0))), (1, .ref (ad (14, 0, 0))), (2, .ref (ad (14, 1, 0))), (3, .ref (ad (14, 2, 0))), (4, .ref (ad (14, 3, 0))), (5, .int z5), (6, .int z6), (9, .ref (ad (14, 4, 0))), (10, .ref (ad (14, 5, 0))), (11, .ref (ad (14, 6, 0)))]) C0 dL_would_240 (by decide) rfl ?_
      refine j_aload C0 dL_would_242 9 rfl ?_
      refine j_aload C0 dL_would_244 10 rfl ?_
      refine j_aload C0 dL_would_246 11 rfl ?_
      refine j_iload C0 dL_would_248 8 rfl ?_
      obtain ⟨q13, hcq13, hf⟩ := bd_some hf
      refine j_callS (As := [.ref (ad (14, 4, 0)), .ref (ad (14, 5, 0)), .ref (ad (14, 6, 0)), .int z6]) (rest := []) (stk := [.int q13]) (G2 := (q5.2.1, q5.2.2, q4.2)) C0 (c_L_error hi (Cc := q5.2.1) (Bb := q5.2.2) al_14_4 hn4 al_14_5 hn5 al_14_6 hn6 hcq13) kw_L_15 bi_L_error rfl ⟨by decide, by decide⟩ ⟨Nat.le_of_ble_eq_true rfl, Nat.le_of_ble_eq_true rfl⟩ rfl rfl (Nat.le_of_ble_eq_true rfl) rfl rfl dL_would_250 ?_
      refine j_istore (lv' := [(15, .int q13), (14, .int q12), (13, .int (0 : Int32)), (0, .ref (ad (0, 0, 0))), (1, .ref (ad (14, 0, 0))), (2, .ref (ad (14, 1, 0))), (3, .ref (ad (14, 2, 0))), (4, .ref (ad (14, 3, 0))), (5, .int z5), (6, .int z6), (9, .ref (ad (14, 4, 0))), (10, .ref (ad (14, 5, 0))), (11, .ref (ad (14, 6, 0)))]) C0 dL_would_253 (by decide) rfl ?_
      refine j_iconst (v := 1) C0 dL_would_255 rfl ?_
      refine j_istore (lv' := [(16, .int (1 : Int32)), (15, .int q13), (14, .int q12), (13, .int (0 : Int32)), (0, .ref (ad (0, 0, 0))), (1, .ref (ad (14, 0, 0))), (2, .ref (ad (14, 1, 0))), (3, .ref (ad (14, 2, 0))), (4, .ref (ad (14, 3, 0))), (5, .int z5), (6, .int z6), (9, .ref (ad (14, 4, 0))), (10, .ref (ad (14, 5, 0))), (11, .ref (ad (14, 6, 0)))]) C0 dL_would_256 (by decide) rfl ?_
      exact j_sub [4, 5, 6, 7, 8, 9, 10, 11, 12, 13, 3, 2, 1, 0] rfl (L258 fuel q5.2 q4.2 z5 z6 (0 : Int32) q12 q13 (1 : Int32) hf)
    have hf := if_f c11 hf
    refine j_iconst (v := 0) C0 dL_would_224 rfl ?_
    exact j_end3 hf (hend _ _ (r3 hf rfl) dL_would_225)
  refine j_icmp_ge (tgt := 206) C0 dL_would_199 (by decide) (fun c42 => ?_) (fun c42 => ?_)
  · have hsq10 := if_t c42 hsq10
    refine j_aload_n C0 dL_would_206 rfl 3 rfl ?_
    refine j_iload C0 dL_would_207 7 rfl ?_
    obtain ⟨h43, hsq10⟩ := gd_some hsq10
    refine j_iald (x := (q4.2 1 (z6.toNatClampNeg))) C0 al_14_1 rfl (ia hi id_l1) h43 (by rw [Nat.zero_add]; rfl) dL_would_209 ?_
    refine j_aload_n C0 dL_would_210 rfl 2 rfl ?_
    refine j_iconst (v := 0) C0 dL_would_211 rfl ?_
    refine j_iald (x := (q4.2 0 0)) C0 al_14_0 rfl (ia hi id_l0) (by decide) (by rw [Nat.zero_add]; rfl) dL_would_212 ?_
    refine j_icmp_lt (tgt := 220) C0 dL_would_213 (by decide) (fun c44 => ?_) (fun c44 => ?_)
    · have hsq10 := if_t c44 hsq10
      refine j_iconst (v := 0) C0 dL_would_220 rfl ?_
      obtain rfl := so hsq10
      exact j_sub [1, 2, 3, 4, 5, 6, 7, 10, 11, 12] rfl Jq10
    have hsq10 := if_f c44 hsq10
    refine j_iconst (v := 2) C0 dL_would_216 rfl ?_
    refine j_goto (tgt := 221) C0 dL_would_217 (by decide) ?_
    obtain rfl := so hsq10
    exact j_sub [1, 2, 3, 4, 5, 6, 7, 10, 11, 12] rfl Jq10
  have hsq10 := if_f c42 hsq10
  refine j_iconst (v := 1) C0 dL_would_202 rfl ?_
  refine j_goto (tgt := 221) C0 dL_would_203 (by decide) ?_
  obtain rfl := so hsq10
  exact j_sub [1, 2, 3, 4, 5, 6, 7, 10, 11, 12] rfl Jq10
set_option maxHeartbeats 8000000 in
set_option maxRecDepth 100000 in
theorem c_L_would {l : Launch} {D : va_G} {ca : Nat → ClassId} {ad : I3 → Nat} (hi : adI ad) (hz : 0 < ad (16, 0, 0)) (hs : ad (16, 0, 0) ≤ ad (14, 0, 0)) (h4 : ad (14, 4, 0) = 0) (h5 : ad (14, 5, 0) = 0) (h6 : ad (14, 6, 0) = 0) {X X' : XS} {M M' : Nat → Nat → Int32} {r0 : Int32} {x6 : Int32} (hf : fL_would X M x6 = some (r0, X', M')) : MTa l D ca ad yL_would cL_would 17 (some .boolean) 7 165 3 94 [.ref (ad (0, 0, 0)), .ref (ad (14, 0, 0)), .ref (ad (14, 1, 0)), .ref (ad (14, 2, 0)), .ref (ad (14, 3, 0)), .int x6] (X.1, X.2, M) (some (.int r0)) (X'.1, X'.2, M') := by
  refine met_Ja (lv := [(0, .ref (ad (0, 0, 0))), (1, .ref (ad (14, 0, 0))), (2, .ref (ad (14, 1, 0))), (3, .ref (ad (14, 2, 0))), (4, .ref (ad (14, 3, 0))), (5, .int x6)]) hi (by decide +kernel) (Nat.le_of_ble_eq_true rfl) rfl (fun p e s m below meth c C0 hr hlt => ?_)
  have hss : ad (16, 0, 0) ≤ s.heap.size := Nat.le_trans hs (Nat.le_of_lt hlt)
  unfold fL_would at hf
  refine j_aload_n C0 dL_would_0 rfl 1 rfl ?_
  refine j_bipush (v := 18) C0 dL_would_1 rfl ?_
  refine j_iald (x := (M 0 18)) C0 al_14_0 rfl (ia hi id_l0) (by decide) (by rw [Nat.zero_add]; rfl) dL_would_3 ?_
  refine j_if_ne (tgt := 55) C0 dL_would_4 (by decide) (fun c1 => ?_) (fun c1 => ?_)
  · have hf := if_f c1 hf
    refine j_iload C0 dL_would_55 5 rfl ?_
    refine j_aload_n C0 dL_would_57 rfl 1 rfl ?_
    refine j_bipush (v := 18) C0 dL_would_58 rfl ?_
    refine j_iald (x := (M 0 18)) C0 al_14_0 rfl (ia hi id_l0) (by decide) (by rw [Nat.zero_add]; rfl) dL_would_60 ?_
    obtain ⟨q2, hcq2, hf⟩ := bd_some hf
    refine j_callS (As := [.int x6, .int (M 0 18)]) (rest := []) (stk := [.int q2]) (G2 := (X.1, X.2, M)) C0 (c_L_low hi (G0 := (X.1, X.2, M))  hcq2) kw_L_85 bi_L_low rfl ⟨by decide, by decide⟩ ⟨Nat.le_of_ble_eq_true rfl, Nat.le_of_ble_eq_true rfl⟩ rfl rfl (Nat.le_of_ble_eq_true rfl) rfl rfl dL_would_61 ?_
    refine j_istore (lv' := [(6, .int q2), (0, .ref (ad (0, 0, 0))), (1, .ref (ad (14, 0, 0))), (2, .ref (ad (14, 1, 0))), (3, .ref (ad (14, 2, 0))), (4, .ref (ad (14, 3, 0))), (5, .int x6)]) C0 dL_would_64 (by decide) rfl ?_
    refine j_iload C0 dL_would_66 6 rfl ?_
    refine j_iconst (v := 3) C0 dL_would_68 rfl ?_
    refine j_ishr C0 dL_would_69 ?_
    refine j_iconst (v := 3) C0 dL_would_70 rfl ?_
    obtain ⟨q3, hcq3, hf⟩ := bd_some hf
    refine j_callS (As := [.int (x6 >>> ((3 : Int32) &&& 31)), .int (3 : Int32)]) (rest := []) (stk := [.int q3]) (G2 := (X.1, X.2, M)) C0 (c_L_low hi (G0 := (X.1, X.2, M))  hcq3) kw_L_85 bi_L_low rfl ⟨by decide, by decide⟩ ⟨Nat.le_of_ble_eq_true rfl, Nat.le_of_ble_eq_true rfl⟩ rfl rfl (Nat.le_of_ble_eq_true rfl) rfl rfl dL_would_71 ?_
    refine j_istore (lv' := [(7, .int q3), (6, .int q2), (0, .ref (ad (0, 0, 0))), (1, .ref (ad (14, 0, 0))), (2, .ref (ad (14, 1, 0))), (3, .ref (ad (14, 2, 0))), (4, .ref (ad (14, 3, 0))), (5, .int x6)]) C0 dL_would_74 (by decide) rfl ?_
    refine j_iload C0 dL_would_76 0 rfl ?_
    refine j_if_ne (tgt := 86) C0 dL_would_78 (by decide) (fun c4 => ?_) (fun c4 => ?_)
    · have hf := if_f c4 hf
      refine j_iload C0 dL_would_86 0 rfl ?_
      refine j_iconst (v := 1) C0 dL_would_88 rfl ?_
      refine j_icmp_ne (tgt := 98) C0 dL_would_89 (by decide) (fun c5 => ?_) (fun c5 => ?_)
      · have hf := if_f c5 hf
        refine j_sipush (v := 700) C0 dL_would_98 rfl ?_
        refine j_istore (lv' := [(8, .int (700 : Int32)), (7, .int q3), (6, .int q2), (0, .ref (ad (0, 0, 0))), (1, .ref (ad (14, 0, 0))), (2, .ref (ad (14, 1, 0))), (3, .ref (ad (14, 2, 0))), (4, .ref (ad (14, 3, 0))), (5, .int x6)]) C0 dL_would_101 (by decide) rfl ?_
        refine j_bipush (v := 19) C0 dL_would_103 rfl ?_
        refine j_newa (r := 4) C0 ac_int0 hz hss (by decide) h4 (by decide) rfl ⟨Nat.le_of_ble_eq_true rfl, Nat.le_of_ble_eq_true rfl⟩ dL_would_105 (fun q4 p4 hi4 eA4 C4 => ?_)
        refine j_astore (lv' := [(9, .ref q4), (8, .int (700 : Int32)), (7, .int q3), (6, .int q2), (0, .ref (ad (0, 0, 0))), (1, .ref (ad (14, 0, 0))), (2, .ref (ad (14, 1, 0))), (3, .ref (ad (14, 2, 0))), (4, .ref (ad (14, 3, 0))), (5, .int x6)]) C4 dL_would_107 (by decide) rfl ?_
        refine j_bipush (v := 35) C4 dL_would_109 rfl ?_
        refine j_newa (r := 5) C4 ac_int0 hz hss (by decide) h5 (by decide) rfl ⟨Nat.le_of_ble_eq_true rfl, Nat.le_of_ble_eq_true rfl⟩ dL_would_111 (fun q5 p5 hi5 eA5 C5 => ?_)
        refine j_astore (lv' := [(10, .ref q5), (9, .ref q4), (8, .int (700 : Int32)), (7, .int q3), (6, .int q2), (0, .ref (ad (0, 0, 0))), (1, .ref (ad (14, 0, 0))), (2, .ref (ad (14, 1, 0))), (3, .ref (ad (14, 2, 0))), (4, .ref (ad (14, 3, 0))), (5, .int x6)]) C5 dL_would_113 (by decide) rfl ?_
        refine j_bipush (v := 40) C5 dL_would_115 rfl ?_
        refine j_newa (r := 6) C5 ac_int0 hz hss (by decide) h6 (by decide) rfl ⟨Nat.le_of_ble_eq_true rfl, Nat.le_of_ble_eq_true rfl⟩ dL_would_117 (fun q6 p6 hi6 eA6 C6 => ?_)
        refine j_astore (lv' := [(11, .ref q6), (10, .ref q5), (9, .ref q4), (8, .int (700 : Int32)), (7, .int q3), (6, .int q2), (0, .ref (ad (0, 0, 0))), (1, .ref (ad (14, 0, 0))), (2, .ref (ad (14, 1, 0))), (3, .ref (ad (14, 2, 0))), (4, .ref (ad (14, 3, 0))), (5, .int x6)]) C6 dL_would_119 (by decide) rfl ?_
        refine j_sub [6, 7, 8, 9, 10, 11, 5, 4, 3, 2, 1, 0] rfl ?_
        refine L_would_tail hi6 (idA_of (by decide +kernel) p4) (idA_of (by decide +kernel) p5) (idA_of (by decide +kernel) p6) C6 (fun lv pc hz9 hd9 => j_zretw C6 C0 (fun i hI => ?_) (fun i hI => ?_) (eA6.trans (eA5.trans eA4)) ⟨Nat.le_of_ble_eq_true rfl, Nat.le_of_ble_eq_true rfl⟩ hr hz9 hd9 rfl rfl) hf
        · exact (adN_t hI).trans ((adN_t hI).trans (adN_t hI))
        · have hp := of_decide_eq_true (List.mem_filter.mp hI).2
          have n4 : i ≠ (14, 4, 0) := fun e => absurd hp (by rw [e, h4]; decide)
          have n5 : i ≠ (14, 5, 0) := fun e => absurd hp (by rw [e, h5]; decide)
          have n6 : i ≠ (14, 6, 0) := fun e => absurd hp (by rw [e, h6]; decide)
          exact (adN_ne n6).trans ((adN_ne n5).trans (adN_ne n4))
      have hf := if_t c5 hf
      refine j_sipush (v := 200) C0 dL_would_92 rfl ?_
      refine j_goto (tgt := 101) C0 dL_would_95 (by decide) ?_
      refine j_istore (lv' := [(8, .int (200 : Int32)), (7, .int q3), (6, .int q2), (0, .ref (ad (0, 0, 0))), (1, .ref (ad (14, 0, 0))), (2, .ref (ad (14, 1, 0))), (3, .ref (ad (14, 2, 0))), (4, .ref (ad (14, 3, 0))), (5, .int x6)]) C0 dL_would_101 (by decide) rfl ?_
      refine j_bipush (v := 19) C0 dL_would_103 rfl ?_
      refine j_newa (r := 4) C0 ac_int0 hz hss (by decide) h4 (by decide) rfl ⟨Nat.le_of_ble_eq_true rfl, Nat.le_of_ble_eq_true rfl⟩ dL_would_105 (fun q4 p4 hi4 eA4 C4 => ?_)
      refine j_astore (lv' := [(9, .ref q4), (8, .int (200 : Int32)), (7, .int q3), (6, .int q2), (0, .ref (ad (0, 0, 0))), (1, .ref (ad (14, 0, 0))), (2, .ref (ad (14, 1, 0))), (3, .ref (ad (14, 2, 0))), (4, .ref (ad (14, 3, 0))), (5, .int x6)]) C4 dL_would_107 (by decide) rfl ?_
      refine j_bipush (v := 35) C4 dL_would_109 rfl ?_
      refine j_newa (r := 5) C4 ac_int0 hz hss (by decide) h5 (by decide) rfl ⟨Nat.le_of_ble_eq_true rfl, Nat.le_of_ble_eq_true rfl⟩ dL_would_111 (fun q5 p5 hi5 eA5 C5 => ?_)
      refine j_astore (lv' := [(10, .ref q5), (9, .ref q4), (8, .int (200 : Int32)), (7, .int q3), (6, .int q2), (0, .ref (ad (0, 0, 0))), (1, .ref (ad (14, 0, 0))), (2, .ref (ad (14, 1, 0))), (3, .ref (ad (14, 2, 0))), (4, .ref (ad (14, 3, 0))), (5, .int x6)]) C5 dL_would_113 (by decide) rfl ?_
      refine j_bipush (v := 40) C5 dL_would_115 rfl ?_
      refine j_newa (r := 6) C5 ac_int0 hz hss (by decide) h6 (by decide) rfl ⟨Nat.le_of_ble_eq_true rfl, Nat.le_of_ble_eq_true rfl⟩ dL_would_117 (fun q6 p6 hi6 eA6 C6 => ?_)
      refine j_astore (lv' := [(11, .ref q6), (10, .ref q5), (9, .ref q4), (8, .int (200 : Int32)), (7, .int q3), (6, .int q2), (0, .ref (ad (0, 0, 0))), (1, .ref (ad (14, 0, 0))), (2, .ref (ad (14, 1, 0))), (3, .ref (ad (14, 2, 0))), (4, .ref (ad (14, 3, 0))), (5, .int x6)]) C6 dL_would_119 (by decide) rfl ?_
      refine j_sub [6, 7, 8, 9, 10, 11, 5, 4, 3, 2, 1, 0] rfl ?_
      refine L_would_tail hi6 (idA_of (by decide +kernel) p4) (idA_of (by decide +kernel) p5) (idA_of (by decide +kernel) p6) C6 (fun lv pc hz9 hd9 => j_zretw C6 C0 (fun i hI => ?_) (fun i hI => ?_) (eA6.trans (eA5.trans eA4)) ⟨Nat.le_of_ble_eq_true rfl, Nat.le_of_ble_eq_true rfl⟩ hr hz9 hd9 rfl rfl) hf
      · exact (adN_t hI).trans ((adN_t hI).trans (adN_t hI))
      · have hp := of_decide_eq_true (List.mem_filter.mp hI).2
        have n4 : i ≠ (14, 4, 0) := fun e => absurd hp (by rw [e, h4]; decide)
        have n5 : i ≠ (14, 5, 0) := fun e => absurd hp (by rw [e, h5]; decide)
        have n6 : i ≠ (14, 6, 0) := fun e => absurd hp (by rw [e, h6]; decide)
        exact (adN_ne n6).trans ((adN_ne n5).trans (adN_ne n4))
    have hf := if_t c4 hf
    refine j_bipush (v := 50) C0 dL_would_81 rfl ?_
    refine j_goto (tgt := 101) C0 dL_would_83 (by decide) ?_
    refine j_istore (lv' := [(8, .int (50 : Int32)), (7, .int q3), (6, .int q2), (0, .ref (ad (0, 0, 0))), (1, .ref (ad (14, 0, 0))), (2, .ref (ad (14, 1, 0))), (3, .ref (ad (14, 2, 0))), (4, .ref (ad (14, 3, 0))), (5, .int x6)]) C0 dL_would_101 (by decide) rfl ?_
    refine j_bipush (v := 19) C0 dL_would_103 rfl ?_
    refine j_newa (r := 4) C0 ac_int0 hz hss (by decide) h4 (by decide) rfl ⟨Nat.le_of_ble_eq_true rfl, Nat.le_of_ble_eq_true rfl⟩ dL_would_105 (fun q4 p4 hi4 eA4 C4 => ?_)
    refine j_astore (lv' := [(9, .ref q4), (8, .int (50 : Int32)), (7, .int q3), (6, .int q2), (0, .ref (ad (0, 0, 0))), (1, .ref (ad (14, 0, 0))), (2, .ref (ad (14, 1, 0))), (3, .ref (ad (14, 2, 0))), (4, .ref (ad (14, 3, 0))), (5, .int x6)]) C4 dL_would_107 (by decide) rfl ?_
    refine j_bipush (v := 35) C4 dL_would_109 rfl ?_
    refine j_newa (r := 5) C4 ac_int0 hz hss (by decide) h5 (by decide) rfl ⟨Nat.le_of_ble_eq_true rfl, Nat.le_of_ble_eq_true rfl⟩ dL_would_111 (fun q5 p5 hi5 eA5 C5 => ?_)
    refine j_astore (lv' := [(10, .ref q5), (9, .ref q4), (8, .int (50 : Int32)), (7, .int q3), (6, .int q2), (0, .ref (ad (0, 0, 0))), (1, .ref (ad (14, 0, 0))), (2, .ref (ad (14, 1, 0))), (3, .ref (ad (14, 2, 0))), (4, .ref (ad (14, 3, 0))), (5, .int x6)]) C5 dL_would_113 (by decide) rfl ?_
    refine j_bipush (v := 40) C5 dL_would_115 rfl ?_
    refine j_newa (r := 6) C5 ac_int0 hz hss (by decide) h6 (by decide) rfl ⟨Nat.le_of_ble_eq_true rfl, Nat.le_of_ble_eq_true rfl⟩ dL_would_117 (fun q6 p6 hi6 eA6 C6 => ?_)
    refine j_astore (lv' := [(11, .ref q6), (10, .ref q5), (9, .ref q4), (8, .int (50 : Int32)), (7, .int q3), (6, .int q2), (0, .ref (ad (0, 0, 0))), (1, .ref (ad (14, 0, 0))), (2, .ref (ad (14, 1, 0))), (3, .ref (ad (14, 2, 0))), (4, .ref (ad (14, 3, 0))), (5, .int x6)]) C6 dL_would_119 (by decide) rfl ?_
    refine j_sub [6, 7, 8, 9, 10, 11, 5, 4, 3, 2, 1, 0] rfl ?_
    refine L_would_tail hi6 (idA_of (by decide +kernel) p4) (idA_of (by decide +kernel) p5) (idA_of (by decide +kernel) p6) C6 (fun lv pc hz9 hd9 => j_zretw C6 C0 (fun i hI => ?_) (fun i hI => ?_) (eA6.trans (eA5.trans eA4)) ⟨Nat.le_of_ble_eq_true rfl, Nat.le_of_ble_eq_true rfl⟩ hr hz9 hd9 rfl rfl) hf
    · exact (adN_t hI).trans ((adN_t hI).trans (adN_t hI))
    · have hp := of_decide_eq_true (List.mem_filter.mp hI).2
      have n4 : i ≠ (14, 4, 0) := fun e => absurd hp (by rw [e, h4]; decide)
      have n5 : i ≠ (14, 5, 0) := fun e => absurd hp (by rw [e, h5]; decide)
      have n6 : i ≠ (14, 6, 0) := fun e => absurd hp (by rw [e, h6]; decide)
      exact (adN_ne n6).trans ((adN_ne n5).trans (adN_ne n4))
  have hf := if_t c1 hf
  refine j_aload_n C0 dL_would_7 rfl 0 rfl ?_
  refine j_iconst (v := 0) C0 dL_would_8 rfl ?_
  obtain ⟨q6, hcq6, hf⟩ := bd_some hf
  refine j_callV (As := [.int (0 : Int32)]) (rest := []) (stk := [.int q6.1]) (G2 := (q6.2.1, q6.2.2, M)) C0 (c_X5_noonError hi (M0 := M)  hcq6) kw_L_73 bi_X5_noonError bx_X5_noonError (ia hi id_c0) oc_0 rfl ⟨by decide, by decide⟩ ⟨Nat.le_of_ble_eq_true rfl, Nat.le_of_ble_eq_true rfl⟩ rfl rfl (Nat.le_of_ble_eq_true rfl) rfl rfl dL_would_9 ?_
  refine j_ldc (v := -1000001) C0 dL_would_12 cw_L_49 ?_
  refine j_icmp_ne (tgt := 53) C0 dL_would_14 (by decide) (fun c7 => ?_) (fun c7 => ?_)
  · have hf := if_f c7 hf
    refine j_iconst (v := 0) C0 dL_would_53 rfl ?_
    exact j_zretw C0 C0 (fun _ _ => rfl) (fun _ _ => rfl) rfl ⟨Nat.le_of_ble_eq_true rfl, Nat.le_of_ble_eq_true rfl⟩ hr rfl dL_would_54 (so3 hf).1 (congrArg (fun z => (z.1.1, z.1.2, z.2)) (so3 hf).2)
  have hf := if_t c7 hf
  refine j_aload_n C0 dL_would_17 rfl 0 rfl ?_
  refine j_iconst (v := 0) C0 dL_would_18 rfl ?_
  obtain ⟨q8, hcq8, hf⟩ := bd_some hf
  refine j_callV (As := [.int (0 : Int32)]) (rest := []) (stk := [.int q8.1]) (G2 := (q8.2.1, q8.2.2, M)) C0 (c_X5_emptyIn hi (M0 := M)  hcq8) kw_L_76 bi_X5_emptyIn bx_X5_emptyIn (ia hi id_c0) oc_0 rfl ⟨by decide, by decide⟩ ⟨Nat.le_of_ble_eq_true rfl, Nat.le_of_ble_eq_true rfl⟩ rfl rfl (Nat.le_of_ble_eq_true rfl) rfl rfl dL_would_19 ?_
  refine j_ldc (v := -1000001) C0 dL_would_22 cw_L_49 ?_
  refine j_icmp_ne (tgt := 53) C0 dL_would_24 (by decide) (fun c9 => ?_) (fun c9 => ?_)
  · have hf := if_f c9 hf
    refine j_iconst (v := 0) C0 dL_would_53 rfl ?_
    exact j_zretw C0 C0 (fun _ _ => rfl) (fun _ _ => rfl) rfl ⟨Nat.le_of_ble_eq_true rfl, Nat.le_of_ble_eq_true rfl⟩ hr rfl dL_would_54 (so3 hf).1 (congrArg (fun z => (z.1.1, z.1.2, z.2)) (so3 hf).2)
  have hf := if_t c9 hf
  refine j_aload_n C0 dL_would_27 rfl 0 rfl ?_
  refine j_iconst (v := 0) C0 dL_would_28 rfl ?_
  refine j_iconst (v := 0) C0 dL_would_29 rfl ?_
  obtain ⟨q10, hcq10, hf⟩ := bd_some hf
  refine j_callV (As := [.int (0 : Int32), .int (0 : Int32)]) (rest := []) (stk := [.int q10]) (G2 := (q8.2.1, q8.2.2, M)) C0 (c_X5_why hi (M0 := M)  hcq10) kw_L_79 bi_X5_why bx_X5_why (ia hi id_c0) oc_0 rfl ⟨by decide, by decide⟩ ⟨Nat.le_of_ble_eq_true rfl, Nat.le_of_ble_eq_true rfl⟩ rfl rfl (Nat.le_of_ble_eq_true rfl) rfl rfl dL_would_30 ?_
  refine j_ldc (v := -1000001) C0 dL_would_33 cw_L_49 ?_
  refine j_icmp_ne (tgt := 53) C0 dL_would_35 (by decide) (fun c11 => ?_) (fun c11 => ?_)
  · have hf := if_f c11 hf
    refine j_iconst (v := 0) C0 dL_would_53 rfl ?_
    exact j_zretw C0 C0 (fun _ _ => rfl) (fun _ _ => rfl) rfl ⟨Nat.le_of_ble_eq_true rfl, Nat.le_of_ble_eq_true rfl⟩ hr rfl dL_would_54 (so3 hf).1 (congrArg (fun z => (z.1.1, z.1.2, z.2)) (so3 hf).2)
  have hf := if_t c11 hf
  refine j_aload_n C0 dL_would_38 rfl 0 rfl ?_
  refine j_iconst (v := 0) C0 dL_would_39 rfl ?_
  refine j_iconst (v := 0) C0 dL_would_40 rfl ?_
  obtain ⟨q12, hcq12, hf⟩ := bd_some hf
  refine j_callV (As := [.int (0 : Int32), .int (0 : Int32)]) (rest := []) (stk := [.int q12.1]) (G2 := (q12.2.1, q12.2.2, M)) C0 (c_X5_bestWax hi (M0 := M)  hcq12) kw_L_82 bi_X5_bestWax bx_X5_bestWax (ia hi id_c0) oc_0 rfl ⟨by decide, by decide⟩ ⟨Nat.le_of_ble_eq_true rfl, Nat.le_of_ble_eq_true rfl⟩ rfl rfl (Nat.le_of_ble_eq_true rfl) rfl rfl dL_would_41 ?_
  refine j_ldc (v := -1000001) C0 dL_would_44 cw_L_49 ?_
  refine j_icmp_ne (tgt := 53) C0 dL_would_46 (by decide) (fun c13 => ?_) (fun c13 => ?_)
  · have hf := if_f c13 hf
    refine j_iconst (v := 0) C0 dL_would_53 rfl ?_
    exact j_zretw C0 C0 (fun _ _ => rfl) (fun _ _ => rfl) rfl ⟨Nat.le_of_ble_eq_true rfl, Nat.le_of_ble_eq_true rfl⟩ hr rfl dL_would_54 (so3 hf).1 (congrArg (fun z => (z.1.1, z.1.2, z.2)) (so3 hf).2)
  have hf := if_t c13 hf
  refine j_iconst (v := 1) C0 dL_would_49 rfl ?_
  refine j_goto (tgt := 54) C0 dL_would_50 (by decide) ?_
  exact j_zretw C0 C0 (fun _ _ => rfl) (fun _ _ => rfl) rfl ⟨Nat.le_of_ble_eq_true rfl, Nat.le_of_ble_eq_true rfl⟩ hr rfl dL_would_54 (so3 hf).1 (congrArg (fun z => (z.1.1, z.1.2, z.2)) (so3 hf).2)
