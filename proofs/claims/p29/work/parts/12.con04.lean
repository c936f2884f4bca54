set_option maxHeartbeats 4000000 in
set_option maxRecDepth 100000 in
theorem c_L_areClocks {l : Launch} {D : va_G} {ca : Nat → ClassId} {ad : I3 → Nat} (hi : adI ad) {X : XS} {M : Nat → Nat → Int32} {r0 : Int32}  (hf : fL_areClocks X M = some (r0)) : MT l D ca ad yL_areClocks cL_areClocks 7 (some .boolean) 5 107 [.ref (ad (0, 0, 0)), .ref (ad (14, 0, 0)), .ref (ad (14, 1, 0)), .ref (ad (14, 2, 0))] (X.1, X.2, M) (some (.int r0)) (X.1, X.2, M) := by
  refine met_J (lv := [(0, .ref (ad (0, 0, 0))), (1, .ref (ad (14, 0, 0))), (2, .ref (ad (14, 1, 0))), (3, .ref (ad (14, 2, 0)))]) hi (by decide +kernel) (Nat.le_of_ble_eq_true rfl) rfl (fun p e s m below meth c C0 hr => ?_)
  have L6 : ∀ (n : Nat) (X : XS) (M : Nat → Nat → Int32) (y4 : Int32) (y5 : Int32), fL_areClocks_L6 n X M y4 y5 = some (r0) → J D ca ad p l e ({ frames := 5, cells := 0, slots := 0, locals := 107 }) s m [.ref (ad (0, 0, 0)), .ref (ad (14, 0, 0)), .ref (ad (14, 1, 0)), .ref (ad (14, 2, 0))].toArray below meth c 0 0 (MQ below (post D ca ad (some (.int r0)) (X.1, X.2, M)) [.ref (ad (0, 0, 0)), .ref (ad (14, 0, 0)), .ref (ad (14, 1, 0)), .ref (ad (14, 2, 0))].toArray s 0 0 (adA ad)) 7 (X.1, X.2, M) 6 [(0, .ref (ad (0, 0, 0))), (1, .ref (ad (14, 0, 0))), (2, .ref (ad (14, 1, 0))), (3, .ref (ad (14, 2, 0))), (4, .int y4), (5, .int y5)] [] := by
    intro n
    induction n with
    | zero =>
      intro X M y4 y5 hf
      exact (none_ne hf).elim
    | succ n ih =>
      intro X M y4 y5 hf
      rw [fL_areClocks_L6] at hf
      refine j_iload C0 dL_areClocks_6 5 rfl ?_
      refine j_aload_n C0 dL_areClocks_8 rfl 1 rfl ?_
      refine j_bipush (v := 18) C0 dL_areClocks_9 rfl ?_
      refine j_iald (x := (M 0 18)) C0 al_14_0 rfl (ia hi id_l0) (by decide) (by rw [Nat.zero_add]; rfl) dL_areClocks_11 ?_
      refine j_icmp_ge (tgt := 399) C0 dL_areClocks_12 (by decide) (fun c1 => ?_) (fun c1 => ?_)
      · have hf := if_t c1 hf
        refine j_iload C0 dL_areClocks_399 4 rfl ?_
        refine j_if_eq (tgt := 436) C0 dL_areClocks_401 (by decide) (fun c2 => ?_) (fun c2 => ?_)
        · have hf := if_t c2 hf
          refine j_iconst (v := 0) C0 dL_areClocks_436 rfl ?_
          exact j_zret C0 hr rfl dL_areClocks_437 (so hf) rfl
        have hf := if_f c2 hf
        refine j_aload_n C0 dL_areClocks_404 rfl 0 rfl ?_
        refine j_aload_n C0 dL_areClocks_405 rfl 1 rfl ?_
        refine j_bipush (v := 18) C0 dL_areClocks_406 rfl ?_
        refine j_iald (x := (M 0 18)) C0 al_14_0 rfl (ia hi id_l0) (by decide) (by rw [Nat.zero_add]; rfl) dL_areClocks_408 ?_
        refine j_iconst (v := 0) C0 dL_areClocks_409 rfl ?_
        obtain ⟨q3, hcq3, hf⟩ := bd_some hf
        refine j_callV (As := [.int (M 0 18), .int (0 : Int32)]) (rest := []) (stk := [.int q3]) (G2 := (X.1, X.2, M)) C0 (c_X5_clockOf hi (M0 := M)  hcq3) kw_L_42 bi_X5_clockOf bx_X5_clockOf (ia hi id_c0) oc_0 rfl ⟨by decide, by decide⟩ ⟨Nat.zero_le _, Nat.zero_le _⟩ rfl rfl (Nat.le_of_ble_eq_true rfl) rfl rfl dL_areClocks_410 ?_
        refine j_ldc (v := -1000001) C0 dL_areClocks_413 cw_L_49 ?_
        refine j_icmp_ne (tgt := 436) C0 dL_areClocks_415 (by decide) (fun c4 => ?_) (fun c4 => ?_)
        · have hf := if_f c4 hf
          refine j_iconst (v := 0) C0 dL_areClocks_436 rfl ?_
          exact j_zret C0 hr rfl dL_areClocks_437 (so hf) rfl
        have hf := if_t c4 hf
        refine j_aload_n C0 dL_areClocks_418 rfl 0 rfl ?_
        refine j_aload_n C0 dL_areClocks_419 rfl 1 rfl ?_
        refine j_bipush (v := 18) C0 dL_areClocks_420 rfl ?_
        refine j_iald (x := (M 0 18)) C0 al_14_0 rfl (ia hi id_l0) (by decide) (by rw [Nat.zero_add]; rfl) dL_areClocks_422 ?_
        refine j_iconst (v := 0) C0 dL_areClocks_423 rfl ?_
        obtain ⟨q5, hcq5, hf⟩ := bd_some hf
        refine j_callV (As := [.int (M 0 18), .int (0 : Int32)]) (rest := []) (stk := [.int q5]) (G2 := (X.1, X.2, M)) C0 (c_X5_hour hi (M0 := M)  hcq5) kw_L_50 bi_X5_hour bx_X5_hour (ia hi id_c0) oc_0 rfl ⟨by decide, by decide⟩ ⟨Nat.zero_le _, Nat.zero_le _⟩ rfl rfl (Nat.le_of_ble_eq_true rfl) rfl rfl dL_areClocks_424 ?_
        refine j_ldc (v := -1000001) C0 dL_areClocks_427 cw_L_49 ?_
        refine j_icmp_ne (tgt := 436) C0 dL_areClocks_429 (by decide) (fun c6 => ?_) (fun c6 => ?_)
        · have hf := if_f c6 hf
          refine j_iconst (v := 0) C0 dL_areClocks_436 rfl ?_
          exact j_zret C0 hr rfl dL_areClocks_437 (so hf) rfl
        have hf := if_t c6 hf
        refine j_iconst (v := 1) C0 dL_areClocks_432 rfl ?_
        refine j_goto (tgt := 437) C0 dL_areClocks_433 (by decide) ?_
        exact j_zret C0 hr rfl dL_areClocks_437 (so hf) rfl
      have hf := if_f c1 hf
      refine j_iload C0 dL_areClocks_15 4 rfl ?_
      refine j_if_eq (tgt := 399) C0 dL_areClocks_17 (by decide) (fun c7 => ?_) (fun c7 => ?_)
      · have hf := if_t c7 hf
        refine j_iload C0 dL_areClocks_399 4 rfl ?_
        refine j_if_eq (tgt := 436) C0 dL_areClocks_401 (by decide) (fun c8 => ?_) (fun c8 => ?_)
        · have hf := if_t c8 hf
          refine j_iconst (v := 0) C0 dL_areClocks_436 rfl ?_
          exact j_zret C0 hr rfl dL_areClocks_437 (so hf) rfl
        have hf := if_f c8 hf
        refine j_aload_n C0 dL_areClocks_404 rfl 0 rfl ?_
        refine j_aload_n C0 dL_areClocks_405 rfl 1 rfl ?_
        refine j_bipush (v := 18) C0 dL_areClocks_406 rfl ?_
        refine j_iald (x := (M 0 18)) C0 al_14_0 rfl (ia hi id_l0) (by decide) (by rw [Nat.zero_add]; rfl) dL_areClocks_408 ?_
        refine j_iconst (v := 0) C0 dL_areClocks_409 rfl ?_
        obtain ⟨q9, hcq9, hf⟩ := bd_some hf
        refine j_callV (As := [.int (M 0 18), .int (0 : Int32)]) (rest := []) (stk := [.int q9]) (G2 := (X.1, X.2, M)) C0 (c_X5_clockOf hi (M0 := M)  hcq9) kw_L_42 bi_X5_clockOf bx_X5_clockOf (ia hi id_c0) oc_0 rfl ⟨by decide, by decide⟩ ⟨Nat.zero_le _, Nat.zero_le _⟩ rfl rfl (Nat.le_of_ble_eq_true rfl) rfl rfl dL_areClocks_410 ?_
        refine j_ldc (v := -1000001) C0 dL_areClocks_413 cw_L_49 ?_
        refine j_icmp_ne (tgt := 436) C0 dL_areClocks_415 (by decide) (fun c10 => ?_) (fun c10 => ?_)
        · have hf := if_f c10 hf
          refine j_iconst (v := 0) C0 dL_areClocks_436 rfl ?_
          exact j_zret C0 hr rfl dL_areClocks_437 (so hf) rfl
        have hf := if_t c10 hf
        refine j_aload_n C0 dL_areClocks_418 rfl 0 rfl ?_
        refine j_aload_n C0 dL_areClocks_419 rfl 1 rfl ?_
        refine j_bipush (v := 18) C0 dL_areClocks_420 rfl ?_
        refine j_iald (x := (M 0 18)) C0 al_14_0 rfl (ia hi id_l0) (by decide) (by rw [Nat.zero_add]; rfl) dL_areClocks_422 ?_
        refine j_iconst (v := 0) C0 dL_areClocks_423 rfl ?_
        obtain ⟨q11, hcq11, hf⟩ := bd_some hf
        refine j_callV (As := [.int (M 0 18), .int (0 : Int32)]) (rest := []) (stk := [.int q11]) (G2 := (X.1, X.2, M)) C0 (c_X5_hour hi (M0 := M)  hcq11) kw_L_50 bi_X5_hour bx_X5_hour (ia hi id_c0) oc_0 rfl ⟨by decide, by decide⟩ ⟨Nat.zero_le _, Nat.zero_le _⟩ rfl rfl (Nat.le_of_ble_eq_true rfl) rfl rfl dL_areClocks_424 ?_
        refine j_ldc (v := -1000001) C0 dL_areClocks_427 cw_L_49 ?_
        refine j_icmp_ne (tgt := 436) C0 dL_areClocks_429 (by decide) (fun c12 => ?_) (fun c12 => ?_)
        · have hf := if_f c12 hf
          refine j_iconst (v := 0) C0 dL_areClocks_436 rfl ?_
          exact j_zret C0 hr rfl dL_areClocks_437 (so hf) rfl
        have hf := if_t c12 hf
        refine j_iconst (v := 1) C0 dL_areClocks_432 rfl ?_
        refine j_goto (tgt := 437) C0 dL_areClocks_433 (by decide) ?_
        exact j_zret C0 hr rfl dL_areClocks_437 (so hf) rfl
      have hf := if_f c7 hf
      refine j_aload_n C0 dL_areClocks_20 rfl 2 rfl ?_
      refine j_bipush (v := 20) C0 dL_areClocks_21 rfl ?_
      refine j_iload C0 dL_areClocks_23 5 rfl ?_
      refine j_iadd C0 dL_areClocks_25 ?_
      obtain ⟨h13, hf⟩ := gd_some hf
      refine j_iald (x := (M 1 (((20 : Int32) + y5).toNatClampNeg))) C0 al_14_1 rfl (ia hi id_l1) h13 (by rw [Nat.zero_add]; rfl) dL_areClocks_26 ?_
      refine j_istore (lv' := [(6, .int (M 1 (((20 : Int32) + y5).toNatClampNeg))), (0, .ref (ad (0, 0, 0))), (1, .ref (ad (14, 0, 0))), (2, .ref (ad (14, 1, 0))), (3, .ref (ad (14, 2, 0))), (4, .int y4), (5, .int y5)]) C0 dL_areClocks_27 (by decide) rfl ?_
      refine j_aload_n C0 dL_areClocks_29 rfl 1 rfl ?_
      refine j_iload C0 dL_areClocks_30 6 rfl ?_
      refine j_iconst (v := 0) C0 dL_areClocks_32 rfl ?_
      obtain ⟨q14, hcq14, hf⟩ := bd_some hf
      refine j_callV (As := [.int y5, .int (0 : Int32)]) (rest := []) (stk := [.int q14]) (G2 := (X.1, X.2, M)) C0 (c_X5_clockOf hi (M0 := M)  hcq14) kw_L_42 bi_X5_clockOf bx_X5_clockOf (ia hi id_c0) oc_0 rfl ⟨by decide, by decide⟩ ⟨Nat.zero_le _, Nat.zero_le _⟩ rfl rfl (Nat.le_of_ble_eq_true rfl) rfl rfl dL_areClocks_33 ?_
      refine j_iload C0 dL_areClocks_36 0 rfl ?_
      obtain ⟨q15, hsq15, hf⟩ := bd_some hf
      have Jq15 : J D ca ad p l e ({ frames := 5, cells := 0, slots := 0, locals := 107 }) s m [.ref (ad (0, 0, 0)), .ref (ad (14, 0, 0)), .ref (ad (14, 1, 0)), .ref (ad (14, 2, 0))].toArray below meth c 0 0 (MQ below (post D ca ad (some (.int r0)) (X.1, X.2, M)) [.ref (ad (0, 0, 0)), .ref (ad (14, 0, 0)), .ref (ad (14, 1, 0)), .ref (ad (14, 2, 0))].toArray s 0 0 (adA ad)) 7 (X.1, X.2, M) 182 [(0, .ref (ad (0, 0, 0))), (1, .ref (ad (14, 0, 0))), (2, .ref (ad (14, 1, 0))), (3, .ref (ad (14, 2, 0))), (5, .int y5)] [.int q15] := by
        refine j_istore (lv' := [(4, .int q15), (0, .ref (ad (0, 0, 0))), (1, .ref (ad (14, 0, 0))), (2, .ref (ad (14, 1, 0))), (3, .ref (ad (14, 2, 0))), (5, .int y5)]) C0 dL_areClocks_182 (by decide) rfl ?_
        refine j_iload C0 dL_areClocks_184 0 rfl ?_
        obtain ⟨q16, hsq16, hf⟩ := bd_some hf
        have Jq16 : J D ca ad p l e ({ frames := 5, cells := 0, slots := 0, locals := 107 }) s m [.ref (ad (0, 0, 0)), .ref (ad (14, 0, 0)), .ref (ad (14, 1, 0)), .ref (ad (14, 2, 0))].toArray below meth c 0 0 (MQ below (post D ca ad (some (.int r0)) (X.1, X.2, M)) [.ref (ad (0, 0, 0)), .ref (ad (14, 0, 0)), .ref (ad (14, 1, 0)), .ref (ad (14, 2, 0))].toArray s 0 0 (adA ad)) 7 (X.1, X.2, M) 296 [(0, .ref (ad (0, 0, 0))), (1, .ref (ad (14, 0, 0))), (2, .ref (ad (14, 1, 0))), (3, .ref (ad (14, 2, 0))), (5, .int y5)] [.int q16] := by
          refine j_istore (lv' := [(4, .int q16), (0, .ref (ad (0, 0, 0))), (1, .ref (ad (14, 0, 0))), (2, .ref (ad (14, 1, 0))), (3, .ref (ad (14, 2, 0))), (5, .int y5)]) C0 dL_areClocks_296 (by decide) rfl ?_
          refine j_iload C0 dL_areClocks_298 0 rfl ?_
          refine j_if_eq (tgt := 390) C0 dL_areClocks_300 (by decide) (fun c17 => ?_) (fun c17 => ?_)
          · have hf := if_t c17 hf
            refine j_iconst (v := 0) C0 dL_areClocks_390 rfl ?_
            refine j_istore (lv' := [(4, .int (0 : Int32)), (0, .ref (ad (0, 0, 0))), (1, .ref (ad (14, 0, 0))), (2, .ref (ad (14, 1, 0))), (3, .ref (ad (14, 2, 0))), (5, .int y5)]) C0 dL_areClocks_391 (by decide) rfl ?_
            refine j_iinc (v := (y5 + 1)) (lv' := [(5, .int (y5 + 1)), (4, .int (0 : Int32)), (0, .ref (ad (0, 0, 0))), (1, .ref (ad (14, 0, 0))), (2, .ref (ad (14, 1, 0))), (3, .ref (ad (14, 2, 0)))]) C0 dL_areClocks_393 5 rfl rfl (by decide) rfl ?_
            refine j_goto (tgt := 6) C0 dL_areClocks_396 (by decide) ?_
            exact j_sub [2, 3, 4, 5, 1, 0] rfl (ih X M (0 : Int32) (y5 + 1) hf)
          have hf := if_f c17 hf
          refine j_aload_n C0 dL_areClocks_303 rfl 1 rfl ?_
          refine j_iload C0 dL_areClocks_304 5 rfl ?_
          refine j_iconst (v := 0) C0 dL_areClocks_306 rfl ?_
          obtain ⟨q18, hcq18, hf⟩ := bd_some hf
          refine j_callV (As := [.int y5, .int (0 : Int32)]) (rest := []) (stk := [.int q18]) (G2 := (X.1, X.2, M)) C0 (c_X5_hour hi (M0 := M)  hcq18) kw_L_50 bi_X5_hour bx_X5_hour (ia hi id_c0) oc_0 rfl ⟨by decide, by decide⟩ ⟨Nat.zero_le _, Nat.zero_le _⟩ rfl rfl (Nat.le_of_ble_eq_true rfl) rfl rfl dL_areClocks_307 ?_
          refine j_aload_n C0 dL_areClocks_310 rfl 2 rfl ?_
          refine j_aload_n C0 dL_areClocks_311 rfl 3 rfl ?_
          refine j_aload_n C0 dL_areClocks_312 rfl 4 rfl ?_
          refine j_iload C0 dL_areClocks_313 5 rfl ?_
          obtain ⟨q19, hcq19, hf⟩ := bd_some hf
          refine j_callS (As := [.ref (ad (14, 0, 0)), .ref (ad (14, 1, 0)), .ref (ad (14, 2, 0)), .int y5]) (rest := [.int q18]) (stk := [.int q19, .int q18]) (G2 := (X.1, X.2, M)) C0 (c_L_error hi (Cc := X.1) (Bb := X.2) al_14_0 (ia hi id_l0) al_14_1 (ia hi id_l1) al_14_2 (ia hi id_l2) hcq19) kw_L_15 bi_L_error rfl ⟨by decide, by decide⟩ ⟨Nat.zero_le _, Nat.zero_le _⟩ rfl rfl (Nat.le_of_ble_eq_true rfl) rfl rfl dL_areClocks_315 ?_
          refine j_aload_n C0 dL_areClocks_318 rfl 2 rfl ?_
          refine j_bipush (v := 6) C0 dL_areClocks_319 rfl ?_
          refine j_iald (x := (M 0 6)) C0 al_14_0 rfl (ia hi id_l0) (by decide) (by rw [Nat.zero_add]; rfl) dL_areClocks_321 ?_
          refine j_aload_n C0 dL_areClocks_322 rfl 2 rfl ?_
          refine j_iconst (v := 3) C0 dL_areClocks_323 rfl ?_
          refine j_iald (x := (M 0 3)) C0 al_14_0 rfl (ia hi id_l0) (by decide) (by rw [Nat.zero_add]; rfl) dL_areClocks_324 ?_
          obtain ⟨h20, hf⟩ := gd_some hf
          refine j_idiv C0 dL_areClocks_325 h20 ?_
          refine j_iadd C0 dL_areClocks_326 ?_
          refine j_sipush (v := 10000) C0 dL_areClocks_327 rfl ?_
          refine j_iadd C0 dL_areClocks_330 ?_
          refine j_icmp_ne (tgt := 390) C0 dL_areClocks_331 (by decide) (fun c21 => ?_) (fun c21 => ?_)
          · have hf := if_f c21 hf
            refine j_iconst (v := 0) C0 dL_areClocks_390 rfl ?_
            refine j_istore (lv' := [(4, .int (0 : Int32)), (0, .ref (ad (0, 0, 0))), (1, .ref (ad (14, 0, 0))), (2, .ref (ad (14, 1, 0))), (3, .ref (ad (14, 2, 0))), (5, .int y5)]) C0 dL_areClocks_391 (by decide) rfl ?_
            refine j_iinc (v := (y5 + 1)) (lv' := [(5, .int (y5 + 1)), (4, .int (0 : Int32)), (0, .ref (ad (0, 0, 0))), (1, .ref (ad (14, 0, 0))), (2, .ref (ad (14, 1, 0))), (3, .ref (ad (14, 2, 0)))]) C0 dL_areClocks_393 5 rfl rfl (by decide) rfl ?_
            refine j_goto (tgt := 6) C0 dL_areClocks_396 (by decide) ?_
            exact j_sub [2, 3, 4, 5, 1, 0] rfl (ih X M (0 : Int32) (y5 + 1) hf)
          have hf := if_t c21 hf
          refine j_aload_n C0 dL_areClocks_334 rfl 1 rfl ?_
          refine j_iload C0 dL_areClocks_335 5 rfl ?_
          refine j_iconst (v := 1) C0 dL_areClocks_337 rfl ?_
          obtain ⟨q22, hcq22, hf⟩ := bd_some hf
          refine j_callV (As := [.int y5, .int (1 : Int32)]) (rest := []) (stk := [.int q22]) (G2 := (X.1, X.2, M)) C0 (c_X5_hour hi (M0 := M)  hcq22) kw_L_50 bi_X5_hour bx_X5_hour (ia hi id_c0) oc_0 rfl ⟨by decide, by decide⟩ ⟨Nat.zero_le _, Nat.zero_le _⟩ rfl rfl (Nat.le_of_ble_eq_true rfl) rfl rfl dL_areClocks_338 ?_
          refine j_aload_n C0 dL_areClocks_341 rfl 2 rfl ?_
          refine j_aload_n C0 dL_areClocks_342 rfl 3 rfl ?_
          refine j_aload_n C0 dL_areClocks_343 rfl 4 rfl ?_
          refine j_iload C0 dL_areClocks_344 5 rfl ?_
          obtain ⟨q23, hcq23, hf⟩ := bd_some hf
          refine j_callS (As := [.ref (ad (14, 0, 0)), .ref (ad (14, 1, 0)), .ref (ad (14, 2, 0)), .int y5]) (rest := [.int q22]) (stk := [.int q23, .int q22]) (G2 := (X.1, X.2, M)) C0 (c_L_error hi (Cc := X.1) (Bb := X.2) al_14_0 (ia hi id_l0) al_14_1 (ia hi id_l1) al_14_2 (ia hi id_l2) hcq23) kw_L_15 bi_L_error rfl ⟨by decide, by decide⟩ ⟨Nat.zero_le _, Nat.zero_le _⟩ rfl rfl (Nat.le_of_ble_eq_true rfl) rfl rfl dL_areClocks_346 ?_
          refine j_sipush (v := 10000) C0 dL_areClocks_349 rfl ?_
          refine j_iadd C0 dL_areClocks_352 ?_
          refine j_icmp_ne (tgt := 390) C0 dL_areClocks_353 (by decide) (fun c24 => ?_) (fun c24 => ?_)
          · have hf := if_f c24 hf
            refine j_iconst (v := 0) C0 dL_areClocks_390 rfl ?_
            refine j_istore (lv' := [(4, .int (0 : Int32)), (0, .ref (ad (0, 0, 0))), (1, .ref (ad (14, 0, 0))), (2, .ref (ad (14, 1, 0))), (3, .ref (ad (14, 2, 0))), (5, .int y5)]) C0 dL_areClocks_391 (by decide) rfl ?_
            refine j_iinc (v := (y5 + 1)) (lv' := [(5, .int (y5 + 1)), (4, .int (0 : Int32)), (0, .ref (ad (0, 0, 0))), (1, .ref (ad (14, 0, 0))), (2, .ref (ad (14, 1, 0))), (3, .ref (ad (14, 2, 0)))]) C0 dL_areClocks_393 5 rfl rfl (by decide) rfl ?_
            refine j_goto (tgt := 6) C0 dL_areClocks_396 (by decide) ?_
            exact j_sub [2, 3, 4, 5, 1, 0] rfl (ih X M (0 : Int32) (y5 + 1) hf)
          have hf := if_t c24 hf
          refine j_aload_n C0 dL_areClocks_356 rfl 1 rfl ?_
          refine j_iload C0 dL_areClocks_357 5 rfl ?_
          refine j_iconst (v := 2) C0 dL_areClocks_359 rfl ?_
          obtain ⟨q25, hcq25, hf⟩ := bd_some hf
          refine j_callV (As := [.int y5, .int (2 : Int32)]) (rest := []) (stk := [.int q25]) (G2 := (X.1, X.2, M)) C0 (c_X5_hour hi (M0 := M)  hcq25) kw_L_50 bi_X5_hour bx_X5_hour (ia hi id_c0) oc_0 rfl ⟨by decide, by decide⟩ ⟨Nat.zero_le _, Nat.zero_le _⟩ rfl rfl (Nat.le_of_ble_eq_true rfl) rfl rfl dL_areClocks_360 ?_
          refine j_aload_n C0 dL_areClocks_363 rfl 2 rfl ?_
          refine j_bipush (v := 6) C0 dL_areClocks_364 rfl ?_
          refine j_iald (x := (M 0 6)) C0 al_14_0 rfl (ia hi id_l0) (by decide) (by rw [Nat.zero_add]; rfl) dL_areClocks_366 ?_
          refine j_aload_n C0 dL_areClocks_367 rfl 2 rfl ?_
          refine j_iconst (v := 3) C0 dL_areClocks_368 rfl ?_
          refine j_iald (x := (M 0 3)) C0 al_14_0 rfl (ia hi id_l0) (by decide) (by rw [Nat.zero_add]; rfl) dL_areClocks_369 ?_
          obtain ⟨h26, hf⟩ := gd_some hf
          refine j_idiv C0 dL_areClocks_370 h26 ?_
          refine j_icmp_ne (tgt := 390) C0 dL_areClocks_371 (by decide) (fun c27 => ?_) (fun c27 => ?_)
          · have hf := if_f c27 hf
            refine j_iconst (v := 0) C0 dL_areClocks_390 rfl ?_
            refine j_istore (lv' := [(4, .int (0 : Int32)), (0, .ref (ad (0, 0, 0))), (1, .ref (ad (14, 0, 0))), (2, .ref (ad (14, 1, 0))), (3, .ref (ad (14, 2, 0))), (5, .int y5)]) C0 dL_areClocks_391 (by decide) rfl ?_
            refine j_iinc (v := (y5 + 1)) (lv' := [(5, .int (y5 + 1)), (4, .int (0 : Int32)), (0, .ref (ad (0, 0, 0))), (1, .ref (ad (14, 0, 0))), (2, .ref (ad (14, 1, 0))), (3, .ref (ad (14, 2, 0)))]) C0 dL_areClocks_393 5 rfl rfl (by decide) rfl ?_
            refine j_goto (tgt := 6) C0 dL_areClocks_396 (by decide) ?_
            exact j_sub [2, 3, 4, 5, 1, 0] rfl (ih X M (0 : Int32) (y5 + 1) hf)
          have hf := if_t c27 hf
          refine j_aload_n C0 dL_areClocks_374 rfl 1 rfl ?_
          refine j_iload C0 dL_areClocks_375 5 rfl ?_
          refine j_iconst (v := 3) C0 dL_areClocks_377 rfl ?_
          obtain ⟨q28, hcq28, hf⟩ := bd_some hf
          refine j_callV (As := [.int y5, .int (3 : Int32)]) (rest := []) (stk := [.int q28]) (G2 := (X.1, X.2, M)) C0 (c_X5_hour hi (M0 := M)  hcq28) kw_L_50 bi_X5_hour bx_X5_hour (ia hi id_c0) oc_0 rfl ⟨by decide, by decide⟩ ⟨Nat.zero_le _, Nat.zero_le _⟩ rfl rfl (Nat.le_of_ble_eq_true rfl) rfl rfl dL_areClocks_378 ?_
          refine j_ldc (v := -1000001) C0 dL_areClocks_381 cw_L_49 ?_
          refine j_icmp_ne (tgt := 390) C0 dL_areClocks_383 (by decide) (fun c29 => ?_) (fun c29 => ?_)
          · have hf := if_f c29 hf
            refine j_iconst (v := 0) C0 dL_areClocks_390 rfl ?_
            refine j_istore (lv' := [(4, .int (0 : Int32)), (0, .ref (ad (0, 0, 0))), (1, .ref (ad (14, 0, 0))), (2, .ref (ad (14, 1, 0))), (3, .ref (ad (14, 2, 0))), (5, .int y5)]) C0 dL_areClocks_391 (by decide) rfl ?_
            refine j_iinc (v := (y5 + 1)) (lv' := [(5, .int (y5 + 1)), (4, .int (0 : Int32)), (0, .ref (ad (0, 0, 0))), (1, .ref (ad (14, 0, 0))), (2, .ref (ad (14, 1, 0))), (3, .ref (ad (14, 2, 0)))]) C0 dL_areClocks_393 5 rfl rfl (by decide) rfl ?_
            refine j_goto (tgt := 6) C0 dL_areClocks_396 (by decide) ?_
            exact j_sub [2, 3, 4, 5, 1, 0] rfl (ih X M (0 : Int32) (y5 + 1) hf)
          have hf := if_t c29 hf
          refine j_iconst (v := 1) C0 dL_areClocks_386 rfl ?_
          refine j_goto (tgt := 391) C0 dL_areClocks_387 (by decide) ?_
          refine j_istore (lv' := [(4, .int (1 : Int32)), (0, .ref (ad (0, 0, 0))), (1, .ref (ad (14, 0, 0))), (2, .ref (ad (14, 1, 0))), (3, .ref (ad (14, 2, 0))), (5, .int y5)]) C0 dL_areClocks_391 (by decide) rfl ?_
          refine j_iinc (v := (y5 + 1)) (lv' := [(5, .int (y5 + 1)), (4, .int (1 : Int32)), (0, .ref (ad (0, 0, 0))), (1, .ref (ad (14, 0, 0))), (2, .ref (ad (14, 1, 0))), (3, .ref (ad (14, 2, 0)))]) C0 dL_areClocks_393 5 rfl rfl (by decide) rfl ?_
          refine j_goto (tgt := 6) C0 dL_areClocks_396 (by decide) ?_
          exact j_sub [2, 3, 4, 5, 1, 0] rfl (ih X M (1 : Int32) (y5 + 1) hf)
        refine j_if_eq (tgt := 295) C0 dL_areClocks_186 (by decide) (fun c30 => ?_) (fun c30 => ?_)
        · have hsq16 := if_t c30 hsq16
          refine j_iconst (v := 0) C0 dL_areClocks_295 rfl ?_
          obtain rfl := so hsq16
          exact j_sub [1, 2, 3, 4, 5] rfl Jq16
        have hsq16 := if_f c30 hsq16
        refine j_aload_n C0 dL_areClocks_189 rfl 1 rfl ?_
        refine j_iload C0 dL_areClocks_190 5 rfl ?_
        refine j_bipush (v := 8) C0 dL_areClocks_192 rfl ?_
        obtain ⟨q31, hcq31, hsq16⟩ := bd_some hsq16
        refine j_callV (As := [.int y5, .int (8 : Int32)]) (rest := []) (stk := [.int q31]) (G2 := (X.1, X.2, M)) C0 (c_X5_clockOf hi (M0 := M)  hcq31) kw_L_42 bi_X5_clockOf bx_X5_clockOf (ia hi id_c0) oc_0 rfl ⟨by decide, by decide⟩ ⟨Nat.zero_le _, Nat.zero_le _⟩ rfl rfl (Nat.le_of_ble_eq_true rfl) rfl rfl dL_areClocks_194 ?_
        refine j_aload_n C0 dL_areClocks_197 rfl 3 rfl ?_
        refine j_bipush (v := 25) C0 dL_areClocks_198 rfl ?_
        refine j_iload C0 dL_areClocks_200 5 rfl ?_
        refine j_iadd C0 dL_areClocks_202 ?_
        obtain ⟨h32, hsq16⟩ := gd_some hsq16
        refine j_iald (x := (M 1 (((25 : Int32) + y5).toNatClampNeg))) C0 al_14_1 rfl (ia hi id_l1) h32 (by rw [Nat.zero_add]; rfl) dL_areClocks_203 ?_
        refine j_iload C0 dL_areClocks_204 5 rfl ?_
        obtain ⟨q33, hsq33, hsq16⟩ := bd_some hsq16
        have Jq33 : J D ca ad p l e ({ frames := 5, cells := 0, slots := 0, locals := 107 }) s m [.ref (ad (0, 0, 0)), .ref (ad (14, 0, 0)), .ref (ad (14, 1, 0)), .ref (ad (14, 2, 0))].toArray below meth c 0 0 (MQ below (post D ca ad (some (.int r0)) (X.1, X.2, M)) [.ref (ad (0, 0, 0)), .ref (ad (14, 0, 0)), .ref (ad (14, 1, 0)), .ref (ad (14, 2, 0))].toArray s 0 0 (adA ad)) 7 (X.1, X.2, M) 221 [(0, .ref (ad (0, 0, 0))), (1, .ref (ad (14, 0, 0))), (2, .ref (ad (14, 1, 0))), (3, .ref (ad (14, 2, 0))), (5, .int y5)] [.int q33, .int q31] := by
          refine j_icmp_ne (tgt := 295) C0 dL_areClocks_221 (by decide) (fun c34 => ?_) (fun c34 => ?_)
          · have hsq16 := if_f c34 hsq16
            refine j_iconst (v := 0) C0 dL_areClocks_295 rfl ?_
            obtain rfl := so hsq16
            exact j_sub [0, 1, 2, 3, 4] rfl Jq16
          have hsq16 := if_t c34 hsq16
          refine j_aload_n C0 dL_areClocks_224 rfl 0 rfl ?_
          refine j_iload C0 dL_areClocks_225 4 rfl ?_
          refine j_bipush (v := 9) C0 dL_areClocks_227 rfl ?_
          obtain ⟨q35, hcq35, hsq16⟩ := bd_some hsq16
          refine j_callV (As := [.int y5, .int (9 : Int32)]) (rest := []) (stk := [.int q35]) (G2 := (X.1, X.2, M)) C0 (c_X5_clockOf hi (M0 := M)  hcq35) kw_L_42 bi_X5_clockOf bx_X5_clockOf (ia hi id_c0) oc_0 rfl ⟨by decide, by decide⟩ ⟨Nat.zero_le _, Nat.zero_le _⟩ rfl rfl (Nat.le_of_ble_eq_true rfl) rfl rfl dL_areClocks_229 ?_
          refine j_aload_n C0 dL_areClocks_232 rfl 3 rfl ?_
          refine j_bipush (v := 15) C0 dL_areClocks_233 rfl ?_
          refine j_iload C0 dL_areClocks_235 4 rfl ?_
          refine j_iadd C0 dL_areClocks_237 ?_
          obtain ⟨h36, hsq16⟩ := gd_some hsq16
          refine j_iald (x := (M 2 (((15 : Int32) + y5).toNatClampNeg))) C0 al_14_2 rfl (ia hi id_l2) h36 (by rw [Nat.zero_add]; rfl) dL_areClocks_238 ?_
          refine j_icmp_ne (tgt := 295) C0 dL_areClocks_239 (by decide) (fun c37 => ?_) (fun c37 => ?_)
          · have hsq16 := if_f c37 hsq16
            refine j_iconst (v := 0) C0 dL_areClocks_295 rfl ?_
            obtain rfl := so hsq16
            exact j_sub [0, 1, 2, 3, 4] rfl Jq16
          have hsq16 := if_t c37 hsq16
          refine j_aload_n C0 dL_areClocks_242 rfl 0 rfl ?_
          refine j_iload C0 dL_areClocks_243 4 rfl ?_
          refine j_bipush (v := 10) C0 dL_areClocks_245 rfl ?_
          obtain ⟨q38, hcq38, hsq16⟩ := bd_some hsq16
          refine j_callV (As := [.int y5, .int (10 : Int32)]) (rest := []) (stk := [.int q38]) (G2 := (X.1, X.2, M)) C0 (c_X5_clockOf hi (M0 := M)  hcq38) kw_L_42 bi_X5_clockOf bx_X5_clockOf (ia hi id_c0) oc_0 rfl ⟨by decide, by decide⟩ ⟨Nat.zero_le _, Nat.zero_le _⟩ rfl rfl (Nat.le_of_ble_eq_true rfl) rfl rfl dL_areClocks_247 ?_
          refine j_aload_n C0 dL_areClocks_250 rfl 3 rfl ?_
          refine j_bipush (v := 20) C0 dL_areClocks_251 rfl ?_
          refine j_iload C0 dL_areClocks_253 4 rfl ?_
          refine j_iadd C0 dL_areClocks_255 ?_
          obtain ⟨h39, hsq16⟩ := gd_some hsq16
          refine j_iald (x := (M 2 (((20 : Int32) + y5).toNatClampNeg))) C0 al_14_2 rfl (ia hi id_l2) h39 (by rw [Nat.zero_add]; rfl) dL_areClocks_256 ?_
          refine j_icmp_ne (tgt := 295) C0 dL_areClocks_257 (by decide) (fun c40 => ?_) (fun c40 => ?_)
          · have hsq16 := if_f c40 hsq16
            refine j_iconst (v := 0) C0 dL_areClocks_295 rfl ?_
            obtain rfl := so hsq16
            exact j_sub [0, 1, 2, 3, 4] rfl Jq16
          have hsq16 := if_t c40 hsq16
          refine j_aload_n C0 dL_areClocks_260 rfl 0 rfl ?_
          refine j_iload C0 dL_areClocks_261 4 rfl ?_
          refine j_bipush (v := 11) C0 dL_areClocks_263 rfl ?_
          obtain ⟨q41, hcq41, hsq16⟩ := bd_some hsq16
          refine j_callV (As := [.int y5, .int (11 : Int32)]) (rest := []) (stk := [.int q41]) (G2 := (X.1, X.2, M)) C0 (c_X5_clockOf hi (M0 := M)  hcq41) kw_L_42 bi_X5_clockOf bx_X5_clockOf (ia hi id_c0) oc_0 rfl ⟨by decide, by decide⟩ ⟨Nat.zero_le _, Nat.zero_le _⟩ rfl rfl (Nat.le_of_ble_eq_true rfl) rfl rfl dL_areClocks_265 ?_
          refine j_aload_n C0 dL_areClocks_268 rfl 3 rfl ?_
          refine j_bipush (v := 25) C0 dL_areClocks_269 rfl ?_
          refine j_iload C0 dL_areClocks_271 4 rfl ?_
          refine j_iadd C0 dL_areClocks_273 ?_
          obtain ⟨h42, hsq16⟩ := gd_some hsq16
          refine j_iald (x := (M 2 (((25 : Int32) + y5).toNatClampNeg))) C0 al_14_2 rfl (ia hi id_l2) h42 (by rw [Nat.zero_add]; rfl) dL_areClocks_274 ?_
          refine j_icmp_ne (tgt := 295) C0 dL_areClocks_275 (by decide) (fun c43 => ?_) (fun c43 => ?_)
          · have hsq16 := if_f c43 hsq16
            refine j_iconst (v := 0) C0 dL_areClocks_295 rfl ?_
            obtain rfl := so hsq16
            exact j_sub [0, 1, 2, 3, 4] rfl Jq16
          have hsq16 := if_t c43 hsq16
          refine j_aload_n C0 dL_areClocks_278 rfl 0 rfl ?_
          refine j_iload C0 dL_areClocks_279 4 rfl ?_
          refine j_bipush (v := 12) C0 dL_areClocks_281 rfl ?_
          obtain ⟨q44, hcq44, hsq16⟩ := bd_some hsq16
          refine j_callV (As := [.int y5, .int (12 : Int32)]) (rest := []) (stk := [.int q44]) (G2 := (X.1, X.2, M)) C0 (c_X5_clockOf hi (M0 := M)  hcq44) kw_L_42 bi_X5_clockOf bx_X5_clockOf (ia hi id_c0) oc_0 rfl ⟨by decide, by decide⟩ ⟨Nat.zero_le _, Nat.zero_le _⟩ rfl rfl (Nat.le_of_ble_eq_true rfl) rfl rfl dL_areClocks_283 ?_
          refine j_ldc (v := -1000001) C0 dL_areClocks_286 cw_L_49 ?_
          refine j_icmp_ne (tgt := 295) C0 dL_areClocks_288 (by decide) (fun c45 => ?_) (fun c45 => ?_)
          · have hsq16 := if_f c45 hsq16
            refine j_iconst (v := 0) C0 dL_areClocks_295 rfl ?_
            obtain rfl := so hsq16
            exact j_sub [0, 1, 2, 3, 4] rfl Jq16
          have hsq16 := if_t c45 hsq16
          refine j_iconst (v := 1) C0 dL_areClocks_291 rfl ?_
          refine j_goto (tgt := 296) C0 dL_areClocks_292 (by decide) ?_
          obtain rfl := so hsq16
          exact j_sub [0, 1, 2, 3, 4] rfl Jq16
        refine j_icmp_ne (tgt := 214) C0 dL_areClocks_206 (by decide) (fun c46 => ?_) (fun c46 => ?_)
        · have hsq33 := if_f c46 hsq33
          refine j_aload_n C0 dL_areClocks_214 rfl 3 rfl ?_
          refine j_bipush (v := 25) C0 dL_areClocks_215 rfl ?_
          refine j_iload C0 dL_areClocks_217 5 rfl ?_
          refine j_iadd C0 dL_areClocks_219 ?_
          obtain ⟨h47, hsq33⟩ := gd_some hsq33
          refine j_iald (x := (M 1 (((25 : Int32) + y5).toNatClampNeg))) C0 al_14_1 rfl (ia hi id_l1) h47 (by rw [Nat.zero_add]; rfl) dL_areClocks_220 ?_
          obtain rfl := so hsq33
          exact j_sub [1, 2, 3, 4, 5] rfl Jq33
        have hsq33 := if_t c46 hsq33
        refine j_ldc (v := -1000004) C0 dL_areClocks_209 cw_L_48 ?_
        refine j_goto (tgt := 221) C0 dL_areClocks_211 (by decide) ?_
        obtain rfl := so hsq33
        exact j_sub [1, 2, 3, 4, 5] rfl Jq33
      refine j_icmp_ne (tgt := 181) C0 dL_areClocks_38 (by decide) (fun c48 => ?_) (fun c48 => ?_)
      · have hsq15 := if_f c48 hsq15
        refine j_iconst (v := 0) C0 dL_areClocks_181 rfl ?_
        obtain rfl := so hsq15
        exact j_sub [1, 2, 3, 4, 6] rfl Jq15
      have hsq15 := if_t c48 hsq15
      refine j_aload_n C0 dL_areClocks_41 rfl 1 rfl ?_
      refine j_iload C0 dL_areClocks_42 6 rfl ?_
      refine j_iconst (v := 1) C0 dL_areClocks_44 rfl ?_
      obtain ⟨q49, hcq49, hsq15⟩ := bd_some hsq15
      refine j_callV (As := [.int y5, .int (1 : Int32)]) (rest := []) (stk := [.int q49]) (G2 := (X.1, X.2, M)) C0 (c_X5_clockOf hi (M0 := M)  hcq49) kw_L_42 bi_X5_clockOf bx_X5_clockOf (ia hi id_c0) oc_0 rfl ⟨by decide, by decide⟩ ⟨Nat.zero_le _, Nat.zero_le _⟩ rfl rfl (Nat.le_of_ble_eq_true rfl) rfl rfl dL_areClocks_45 ?_
      refine j_aload_n C0 dL_areClocks_48 rfl 3 rfl ?_
      refine j_iload C0 dL_areClocks_49 6 rfl ?_
      obtain ⟨h50, hsq15⟩ := gd_some hsq15
      refine j_iald (x := (M 1 (y5.toNatClampNeg))) C0 al_14_1 rfl (ia hi id_l1) h50 (by rw [Nat.zero_add]; rfl) dL_areClocks_51 ?_
      refine j_icmp_ne (tgt := 181) C0 dL_areClocks_52 (by decide) (fun c51 => ?_) (fun c51 => ?_)
      · have hsq15 := if_f c51 hsq15
        refine j_iconst (v := 0) C0 dL_areClocks_181 rfl ?_
        obtain rfl := so hsq15
        exact j_sub [1, 2, 3, 4, 6] rfl Jq15
      have hsq15 := if_t c51 hsq15
      refine j_aload_n C0 dL_areClocks_55 rfl 1 rfl ?_
      refine j_iload C0 dL_areClocks_56 6 rfl ?_
      refine j_iconst (v := 2) C0 dL_areClocks_58 rfl ?_
      obtain ⟨q52, hcq52, hsq15⟩ := bd_some hsq15
      refine j_callV (As := [.int y5, .int (2 : Int32)]) (rest := []) (stk := [.int q52]) (G2 := (X.1, X.2, M)) C0 (c_X5_clockOf hi (M0 := M)  hcq52) kw_L_42 bi_X5_clockOf bx_X5_clockOf (ia hi id_c0) oc_0 rfl ⟨by decide, by decide⟩ ⟨Nat.zero_le _, Nat.zero_le _⟩ rfl rfl (Nat.le_of_ble_eq_true rfl) rfl rfl dL_areClocks_59 ?_
      refine j_iload C0 dL_areClocks_62 0 rfl ?_
      obtain ⟨q53, hsq53, hsq15⟩ := bd_some hsq15
      have Jq53 : J D ca ad p l e ({ frames := 5, cells := 0, slots := 0, locals := 107 }) s m [.ref (ad (0, 0, 0)), .ref (ad (14, 0, 0)), .ref (ad (14, 1, 0)), .ref (ad (14, 2, 0))].toArray below meth c 0 0 (MQ below (post D ca ad (some (.int r0)) (X.1, X.2, M)) [.ref (ad (0, 0, 0)), .ref (ad (14, 0, 0)), .ref (ad (14, 1, 0)), .ref (ad (14, 2, 0))].toArray s 0 0 (adA ad)) 7 (X.1, X.2, M) 78 [(0, .ref (ad (0, 0, 0))), (1, .ref (ad (14, 0, 0))), (2, .ref (ad (14, 1, 0))), (3, .ref (ad (14, 2, 0))), (5, .int y5), (6, .int (M 1 (((20 : Int32) + y5).toNatClampNeg)))] [.int q53, .int q52] := by
        refine j_icmp_ne (tgt := 181) C0 dL_areClocks_78 (by decide) (fun c54 => ?_) (fun c54 => ?_)
        · have hsq15 := if_f c54 hsq15
          refine j_iconst (v := 0) C0 dL_areClocks_181 rfl ?_
          obtain rfl := so hsq15
          exact j_sub [0, 1, 2, 3, 4] rfl Jq15
        have hsq15 := if_t c54 hsq15
        refine j_aload_n C0 dL_areClocks_81 rfl 0 rfl ?_
        refine j_iload C0 dL_areClocks_82 4 rfl ?_
        refine j_iconst (v := 3) C0 dL_areClocks_84 rfl ?_
        obtain ⟨q55, hcq55, hsq15⟩ := bd_some hsq15
        refine j_callV (As := [.int y5, .int (3 : Int32)]) (rest := []) (stk := [.int q55]) (G2 := (X.1, X.2, M)) C0 (c_X5_clockOf hi (M0 := M)  hcq55) kw_L_42 bi_X5_clockOf bx_X5_clockOf (ia hi id_c0) oc_0 rfl ⟨by decide, by decide⟩ ⟨Nat.zero_le _, Nat.zero_le _⟩ rfl rfl (Nat.le_of_ble_eq_true rfl) rfl rfl dL_areClocks_85 ?_
        refine j_aload_n C0 dL_areClocks_88 rfl 2 rfl ?_
        refine j_bipush (v := 10) C0 dL_areClocks_89 rfl ?_
        refine j_iload C0 dL_areClocks_91 4 rfl ?_
        refine j_iadd C0 dL_areClocks_93 ?_
        obtain ⟨h56, hsq15⟩ := gd_some hsq15
        refine j_iald (x := (M 1 (((10 : Int32) + y5).toNatClampNeg))) C0 al_14_1 rfl (ia hi id_l1) h56 (by rw [Nat.zero_add]; rfl) dL_areClocks_94 ?_
        refine j_icmp_ne (tgt := 181) C0 dL_areClocks_95 (by decide) (fun c57 => ?_) (fun c57 => ?_)
        · have hsq15 := if_f c57 hsq15
          refine j_iconst (v := 0) C0 dL_areClocks_181 rfl ?_
          obtain rfl := so hsq15
          exact j_sub [0, 1, 2, 3, 4] rfl Jq15
        have hsq15 := if_t c57 hsq15
        refine j_aload_n C0 dL_areClocks_98 rfl 0 rfl ?_
        refine j_iload C0 dL_areClocks_99 4 rfl ?_
        refine j_iconst (v := 4) C0 dL_areClocks_101 rfl ?_
        obtain ⟨q58, hcq58, hsq15⟩ := bd_some hsq15
        refine j_callV (As := [.int y5, .int (4 : Int32)]) (rest := []) (stk := [.int q58]) (G2 := (X.1, X.2, M)) C0 (c_X5_clockOf hi (M0 := M)  hcq58) kw_L_42 bi_X5_clockOf bx_X5_clockOf (ia hi id_c0) oc_0 rfl ⟨by decide, by decide⟩ ⟨Nat.zero_le _, Nat.zero_le _⟩ rfl rfl (Nat.le_of_ble_eq_true rfl) rfl rfl dL_areClocks_102 ?_
        refine j_aload_n C0 dL_areClocks_105 rfl 2 rfl ?_
        refine j_bipush (v := 15) C0 dL_areClocks_106 rfl ?_
        refine j_iload C0 dL_areClocks_108 4 rfl ?_
        refine j_iadd C0 dL_areClocks_110 ?_
        obtain ⟨h59, hsq15⟩ := gd_some hsq15
        refine j_iald (x := (M 1 (((15 : Int32) + y5).toNatClampNeg))) C0 al_14_1 rfl (ia hi id_l1) h59 (by rw [Nat.zero_add]; rfl) dL_areClocks_111 ?_
        refine j_icmp_ne (tgt := 181) C0 dL_areClocks_112 (by decide) (fun c60 => ?_) (fun c60 => ?_)
        · have hsq15 := if_f c60 hsq15
          refine j_iconst (v := 0) C0 dL_areClocks_181 rfl ?_
          obtain rfl := so hsq15
          exact j_sub [0, 1, 2, 3, 4] rfl Jq15
        have hsq15 := if_t c60 hsq15
        refine j_aload_n C0 dL_areClocks_115 rfl 0 rfl ?_
        refine j_iload C0 dL_areClocks_116 4 rfl ?_
        refine j_iconst (v := 5) C0 dL_areClocks_118 rfl ?_
        obtain ⟨q61, hcq61, hsq15⟩ := bd_some hsq15
        refine j_callV (As := [.int y5, .int (5 : Int32)]) (rest := []) (stk := [.int q61]) (G2 := (X.1, X.2, M)) C0 (c_X5_clockOf hi (M0 := M)  hcq61) kw_L_42 bi_X5_clockOf bx_X5_clockOf (ia hi id_c0) oc_0 rfl ⟨by decide, by decide⟩ ⟨Nat.zero_le _, Nat.zero_le _⟩ rfl rfl (Nat.le_of_ble_eq_true rfl) rfl rfl dL_areClocks_119 ?_
        refine j_aload_n C0 dL_areClocks_122 rfl 2 rfl ?_
        refine j_bipush (v := 30) C0 dL_areClocks_123 rfl ?_
        refine j_iload C0 dL_areClocks_125 4 rfl ?_
        refine j_iadd C0 dL_areClocks_127 ?_
        obtain ⟨h62, hsq15⟩ := gd_some hsq15
        refine j_iald (x := (M 1 (((30 : Int32) + y5).toNatClampNeg))) C0 al_14_1 rfl (ia hi id_l1) h62 (by rw [Nat.zero_add]; rfl) dL_areClocks_128 ?_
        refine j_icmp_ne (tgt := 181) C0 dL_areClocks_129 (by decide) (fun c63 => ?_) (fun c63 => ?_)
        · have hsq15 := if_f c63 hsq15
          refine j_iconst (v := 0) C0 dL_areClocks_181 rfl ?_
          obtain rfl := so hsq15
          exact j_sub [0, 1, 2, 3, 4] rfl Jq15
        have hsq15 := if_t c63 hsq15
        refine j_aload_n C0 dL_areClocks_132 rfl 0 rfl ?_
        refine j_iload C0 dL_areClocks_133 4 rfl ?_
        refine j_bipush (v := 6) C0 dL_areClocks_135 rfl ?_
        obtain ⟨q64, hcq64, hsq15⟩ := bd_some hsq15
        refine j_callV (As := [.int y5, .int (6 : Int32)]) (rest := []) (stk := [.int q64]) (G2 := (X.1, X.2, M)) C0 (c_X5_clockOf hi (M0 := M)  hcq64) kw_L_42 bi_X5_clockOf bx_X5_clockOf (ia hi id_c0) oc_0 rfl ⟨by decide, by decide⟩ ⟨Nat.zero_le _, Nat.zero_le _⟩ rfl rfl (Nat.le_of_ble_eq_true rfl) rfl rfl dL_areClocks_137 ?_
        refine j_aload_n C0 dL_areClocks_140 rfl 2 rfl ?_
        refine j_iload C0 dL_areClocks_141 4 rfl ?_
        obtain ⟨q65, hcq65, hsq15⟩ := bd_some hsq15
        refine j_callS (As := [.ref (ad (14, 1, 0)), .int y5]) (rest := [.int q64]) (stk := [.int q65, .int q64]) (G2 := (X.1, X.2, M)) C0 (c_L_drip hi (Cc := X.1) (Bb := X.2) al_14_1 (ia hi id_l1) hcq65) kw_L_23 bi_L_drip rfl ⟨by decide, by decide⟩ ⟨Nat.zero_le _, Nat.zero_le _⟩ rfl rfl (Nat.le_of_ble_eq_true rfl) rfl rfl dL_areClocks_143 ?_
        refine j_icmp_ne (tgt := 181) C0 dL_areClocks_146 (by decide) (fun c66 => ?_) (fun c66 => ?_)
        · have hsq15 := if_f c66 hsq15
          refine j_iconst (v := 0) C0 dL_areClocks_181 rfl ?_
          obtain rfl := so hsq15
          exact j_sub [0, 1, 2, 3, 4] rfl Jq15
        have hsq15 := if_t c66 hsq15
        refine j_aload_n C0 dL_areClocks_149 rfl 0 rfl ?_
        refine j_iload C0 dL_areClocks_150 4 rfl ?_
        refine j_bipush (v := 7) C0 dL_areClocks_152 rfl ?_
        obtain ⟨q67, hcq67, hsq15⟩ := bd_some hsq15
        refine j_callV (As := [.int y5, .int (7 : Int32)]) (rest := []) (stk := [.int q67]) (G2 := (X.1, X.2, M)) C0 (c_X5_clockOf hi (M0 := M)  hcq67) kw_L_42 bi_X5_clockOf bx_X5_clockOf (ia hi id_c0) oc_0 rfl ⟨by decide, by decide⟩ ⟨Nat.zero_le _, Nat.zero_le _⟩ rfl rfl (Nat.le_of_ble_eq_true rfl) rfl rfl dL_areClocks_154 ?_
        refine j_iload C0 dL_areClocks_157 5 rfl ?_
        refine j_iconst (v := 2) C0 dL_areClocks_159 rfl ?_
        refine j_icmp_ne (tgt := 172) C0 dL_areClocks_160 (by decide) (fun c68 => ?_) (fun c68 => ?_)
        · have hsq15 := if_f c68 hsq15
          refine j_ldc (v := -1000004) C0 dL_areClocks_172 cw_L_48 ?_
          refine j_icmp_ne (tgt := 181) C0 dL_areClocks_174 (by decide) (fun c69 => ?_) (fun c69 => ?_)
          · have hsq15 := if_f c69 hsq15
            refine j_iconst (v := 0) C0 dL_areClocks_181 rfl ?_
            obtain rfl := so hsq15
            exact j_sub [0, 1, 2, 3, 4] rfl Jq15
          have hsq15 := if_t c69 hsq15
          refine j_iconst (v := 1) C0 dL_areClocks_177 rfl ?_
          refine j_goto (tgt := 182) C0 dL_areClocks_178 (by decide) ?_
          obtain rfl := so hsq15
          exact j_sub [0, 1, 2, 3, 4] rfl Jq15
        have hsq15 := if_t c68 hsq15
        refine j_aload_n C0 dL_areClocks_163 rfl 3 rfl ?_
        refine j_iconst (v := 5) C0 dL_areClocks_164 rfl ?_
        refine j_iload C0 dL_areClocks_165 4 rfl ?_
        refine j_iadd C0 dL_areClocks_167 ?_
        obtain ⟨h70, hsq15⟩ := gd_some hsq15
        refine j_iald (x := (M 2 (((5 : Int32) + y5).toNatClampNeg))) C0 al_14_2 rfl (ia hi id_l2) h70 (by rw [Nat.zero_add]; rfl) dL_areClocks_168 ?_
        refine j_goto (tgt := 174) C0 dL_areClocks_169 (by decide) ?_
        refine j_icmp_ne (tgt := 181) C0 dL_areClocks_174 (by decide) (fun c71 => ?_) (fun c71 => ?_)
        · have hsq15 := if_f c71 hsq15
          refine j_iconst (v := 0) C0 dL_areClocks_181 rfl ?_
          obtain rfl := so hsq15
          exact j_sub [0, 1, 2, 3, 4] rfl Jq15
        have hsq15 := if_t c71 hsq15
        refine j_iconst (v := 1) C0 dL_areClocks_177 rfl ?_
        refine j_goto (tgt := 182) C0 dL_areClocks_178 (by decide) ?_
        obtain rfl := so hsq15
        exact j_sub [0, 1, 2, 3, 4] rfl Jq15
      refine j_if_ne (tgt := 72) C0 dL_areClocks_64 (by decide) (fun c72 => ?_) (fun c72 => ?_)
      · have hsq53 := if_f c72 hsq53
        refine j_aload_n C0 dL_areClocks_72 rfl 3 rfl ?_
        refine j_iconst (v := 5) C0 dL_areClocks_73 rfl ?_
        refine j_iload C0 dL_areClocks_74 6 rfl ?_
        refine j_iadd C0 dL_areClocks_76 ?_
        obtain ⟨h73, hsq53⟩ := gd_some hsq53
        refine j_iald (x := (M 1 (((5 : Int32) + y5).toNatClampNeg))) C0 al_14_1 rfl (ia hi id_l1) h73 (by rw [Nat.zero_add]; rfl) dL_areClocks_77 ?_
        obtain rfl := so hsq53
        exact j_sub [1, 2, 3, 4, 6, 0] rfl Jq53
      have hsq53 := if_t c72 hsq53
      refine j_ldc (v := -1000004) C0 dL_areClocks_67 cw_L_48 ?_
      refine j_goto (tgt := 78) C0 dL_areClocks_69 (by decide) ?_
      obtain rfl := so hsq53
      exact j_sub [1, 2, 3, 4, 6, 0] rfl Jq53
  unfold fL_areClocks at hf
  refine j_iconst (v := 1) C0 dL_areClocks_0 rfl ?_
  refine j_istore (lv' := [(4, .int (1 : Int32)), (0, .ref (ad (0, 0, 0))), (1, .ref (ad (14, 0, 0))), (2, .ref (ad (14, 1, 0))), (3, .ref (ad (14, 2, 0)))]) C0 dL_areClocks_1 (by decide) rfl ?_
  refine j_iconst (v := 0) C0 dL_areClocks_3 rfl ?_
  refine j_istore (lv' := [(5, .int (0 : Int32)), (4, .int (1 : Int32)), (0, .ref (ad (0, 0, 0))), (1, .ref (ad (14, 0, 0))), (2, .ref (ad (14, 1, 0))), (3, .ref (ad (14, 2, 0)))]) C0 dL_areClocks_4 (by decide) rfl ?_
  exact j_sub [2, 3, 4, 5, 1, 0] rfl (L6 fuel X M (1 : Int32) (0 : Int32) hf)

set_option maxHeartbeats 4000000 in
set_option maxRecDepth 100000 in
theorem c_L_isWater {l : Launch} {D : va_G} {ca : Nat → ClassId} {ad : I3 → Nat} (hi : adI ad) {X : XS} {M : Nat → Nat → Int32} {r0 : Int32}  (hf : fL_isWater X M = some (r0)) : MT l D ca ad yL_isWater cL_isWater 6 (some .boolean) 6 126 [.ref (ad (0, 0, 0)), .ref (ad (14, 0, 0)), .ref (ad (14, 1, 0))] (X.1, X.2, M) (some (.int r0)) (X.1, X.2, M) := by
  refine met_J (lv := [(0, .ref (ad (0, 0, 0))), (1, .ref (ad (14, 0, 0))), (2, .ref (ad (14, 1, 0)))]) hi (by decide +kernel) (Nat.le_of_ble_eq_true rfl) rfl (fun p e s m below meth c C0 hr => ?_)
  have L8 : ∀ (n : Nat) (X : XS) (M : Nat → Nat → Int32) (y3 : Int32) (y4 : Int32) (y5 : Int32), fL_isWater_L8 n X M y3 y4 y5 = some (r0) → J D ca ad p l e ({ frames := 6, cells := 0, slots := 0, locals := 126 }) s m [.ref (ad (0, 0, 0)), .ref (ad (14, 0, 0)), .ref (ad (14, 1, 0))].toArray below meth c 0 0 (MQ below (post D ca ad (some (.int r0)) (X.1, X.2, M)) [.ref (ad (0, 0, 0)), .ref (ad (14, 0, 0)), .ref (ad (14, 1, 0))].toArray s 0 0 (adA ad)) 6 (X.1, X.2, M) 8 [(0, .ref (ad (0, 0, 0))), (1, .ref (ad (14, 0, 0))), (2, .ref (ad (14, 1, 0))), (3, .int y3), (4, .int y4), (5, .int y5)] [] := by
    intro n
    induction n with
    | zero =>
      intro X M y3 y4 y5 hf
      exact (none_ne hf).elim
    | succ n ih =>
      intro X M y3 y4 y5 hf
      rw [fL_isWater_L8] at hf
      refine j_iload C0 dL_isWater_8 5 rfl ?_
      refine j_aload_n C0 dL_isWater_10 rfl 1 rfl ?_
      refine j_bipush (v := 18) C0 dL_isWater_11 rfl ?_
      refine j_iald (x := (M 0 18)) C0 al_14_0 rfl (ia hi id_l0) (by decide) (by rw [Nat.zero_add]; rfl) dL_isWater_13 ?_
      refine j_icmp_ge (tgt := 41) C0 dL_isWater_14 (by decide) (fun c1 => ?_) (fun c1 => ?_)
      · have hf := if_t c1 hf
        refine j_aload_n C0 dL_isWater_41 rfl 1 rfl ?_
        refine j_bipush (v := 7) C0 dL_isWater_42 rfl ?_
        refine j_iald (x := (M 0 7)) C0 al_14_0 rfl (ia hi id_l0) (by decide) (by rw [Nat.zero_add]; rfl) dL_isWater_44 ?_
        refine j_iload_n C0 dL_isWater_45 rfl 3 rfl ?_
        refine j_iadd C0 dL_isWater_46 ?_
        refine j_iload C0 dL_isWater_47 4 rfl ?_
        refine j_iadd C0 dL_isWater_49 ?_
        refine j_aload_n C0 dL_isWater_50 rfl 1 rfl ?_
        refine j_bipush (v := 8) C0 dL_isWater_51 rfl ?_
        refine j_iald (x := (M 0 8)) C0 al_14_0 rfl (ia hi id_l0) (by decide) (by rw [Nat.zero_add]; rfl) dL_isWater_53 ?_
        refine j_iadd C0 dL_isWater_54 ?_
        refine j_aload_n C0 dL_isWater_55 rfl 1 rfl ?_
        refine j_bipush (v := 9) C0 dL_isWater_56 rfl ?_
        refine j_iald (x := (M 0 9)) C0 al_14_0 rfl (ia hi id_l0) (by decide) (by rw [Nat.zero_add]; rfl) dL_isWater_58 ?_
        refine j_iadd C0 dL_isWater_59 ?_
        refine j_sipush (v := 20000) C0 dL_isWater_60 rfl ?_
        obtain ⟨q2, hsq2, hf⟩ := bd_some hf
        have Jq2 : J D ca ad p l e ({ frames := 6, cells := 0, slots := 0, locals := 126 }) s m [.ref (ad (0, 0, 0)), .ref (ad (14, 0, 0)), .ref (ad (14, 1, 0))].toArray below meth c 0 0 (MQ below (post D ca ad (some (.int r0)) (X.1, X.2, M)) [.ref (ad (0, 0, 0)), .ref (ad (14, 0, 0)), .ref (ad (14, 1, 0))].toArray s 0 0 (adA ad)) 6 (X.1, X.2, M) 137 [(0, .ref (ad (0, 0, 0))), (1, .ref (ad (14, 0, 0)))] [.int q2] := by
          refine j_istore (lv' := [(5, .int q2), (0, .ref (ad (0, 0, 0))), (1, .ref (ad (14, 0, 0)))]) C0 dL_isWater_137 (by decide) rfl ?_
          refine j_iload C0 dL_isWater_139 0 rfl ?_
          refine j_if_eq (tgt := 228) C0 dL_isWater_141 (by decide) (fun c3 => ?_) (fun c3 => ?_)
          · have hf := if_t c3 hf
            refine j_iconst (v := 0) C0 dL_isWater_228 rfl ?_
            exact j_zret C0 hr rfl dL_isWater_229 (so hf) rfl
          have hf := if_f c3 hf
          refine j_aload_n C0 dL_isWater_144 rfl 1 rfl ?_
          refine j_bipush (v := 6) C0 dL_isWater_145 rfl ?_
          obtain ⟨q4, hcq4, hf⟩ := bd_some hf
          refine j_callV (As := [.int (6 : Int32)]) (rest := []) (stk := [.int q4]) (G2 := (X.1, X.2, M)) C0 (c_X5_water hi (M0 := M)  hcq4) kw_L_53 bi_X5_water bx_X5_water (ia hi id_c0) oc_0 rfl ⟨by decide, by decide⟩ ⟨Nat.zero_le _, Nat.zero_le _⟩ rfl rfl (Nat.le_of_ble_eq_true rfl) rfl rfl dL_isWater_147 ?_
          refine j_sipush (v := 20000) C0 dL_isWater_150 rfl ?_
          refine j_aload_n C0 dL_isWater_153 rfl 2 rfl ?_
          refine j_bipush (v := 7) C0 dL_isWater_154 rfl ?_
          refine j_iald (x := (M 0 7)) C0 al_14_0 rfl (ia hi id_l0) (by decide) (by rw [Nat.zero_add]; rfl) dL_isWater_156 ?_
          refine j_isub C0 dL_isWater_157 ?_
          refine j_icmp_ne (tgt := 228) C0 dL_isWater_158 (by decide) (fun c5 => ?_) (fun c5 => ?_)
          · have hf := if_f c5 hf
            refine j_iconst (v := 0) C0 dL_isWater_228 rfl ?_
            exact j_zret C0 hr rfl dL_isWater_229 (so hf) rfl
          have hf := if_t c5 hf
          refine j_aload_n C0 dL_isWater_161 rfl 1 rfl ?_
          refine j_bipush (v := 6) C0 dL_isWater_162 rfl ?_
          obtain ⟨q6, hcq6, hf⟩ := bd_some hf
          refine j_callV (As := [.int (6 : Int32)]) (rest := []) (stk := [.int q6]) (G2 := (X.1, X.2, M)) C0 (c_X5_water hi (M0 := M)  hcq6) kw_L_53 bi_X5_water bx_X5_water (ia hi id_c0) oc_0 rfl ⟨by decide, by decide⟩ ⟨Nat.zero_le _, Nat.zero_le _⟩ rfl rfl (Nat.le_of_ble_eq_true rfl) rfl rfl dL_isWater_164 ?_
          refine j_aload_n C0 dL_isWater_167 rfl 2 rfl ?_
          refine j_bipush (v := 10) C0 dL_isWater_168 rfl ?_
          refine j_iald (x := (M 0 10)) C0 al_14_0 rfl (ia hi id_l0) (by decide) (by rw [Nat.zero_add]; rfl) dL_isWater_170 ?_
          refine j_icmp_ne (tgt := 228) C0 dL_isWater_171 (by decide) (fun c7 => ?_) (fun c7 => ?_)
          · have hf := if_f c7 hf
            refine j_iconst (v := 0) C0 dL_isWater_228 rfl ?_
            exact j_zret C0 hr rfl dL_isWater_229 (so hf) rfl
          have hf := if_t c7 hf
          refine j_aload_n C0 dL_isWater_174 rfl 1 rfl ?_
          refine j_bipush (v := 7) C0 dL_isWater_175 rfl ?_
          obtain ⟨q8, hcq8, hf⟩ := bd_some hf
          refine j_callV (As := [.int (7 : Int32)]) (rest := []) (stk := [.int q8]) (G2 := (X.1, X.2, M)) C0 (c_X5_water hi (M0 := M)  hcq8) kw_L_53 bi_X5_water bx_X5_water (ia hi id_c0) oc_0 rfl ⟨by decide, by decide⟩ ⟨Nat.zero_le _, Nat.zero_le _⟩ rfl rfl (Nat.le_of_ble_eq_true rfl) rfl rfl dL_isWater_177 ?_
          refine j_aload_n C0 dL_isWater_180 rfl 2 rfl ?_
          refine j_bipush (v := 11) C0 dL_isWater_181 rfl ?_
          refine j_iald (x := (M 0 11)) C0 al_14_0 rfl (ia hi id_l0) (by decide) (by rw [Nat.zero_add]; rfl) dL_isWater_183 ?_
          refine j_icmp_ne (tgt := 228) C0 dL_isWater_184 (by decide) (fun c9 => ?_) (fun c9 => ?_)
          · have hf := if_f c9 hf
            refine j_iconst (v := 0) C0 dL_isWater_228 rfl ?_
            exact j_zret C0 hr rfl dL_isWater_229 (so hf) rfl
          have hf := if_t c9 hf
          refine j_aload_n C0 dL_isWater_187 rfl 1 rfl ?_
          refine j_bipush (v := 8) C0 dL_isWater_188 rfl ?_
          obtain ⟨q10, hcq10, hf⟩ := bd_some hf
          refine j_callV (As := [.int (8 : Int32)]) (rest := []) (stk := [.int q10]) (G2 := (X.1, X.2, M)) C0 (c_X5_water hi (M0 := M)  hcq10) kw_L_53 bi_X5_water bx_X5_water (ia hi id_c0) oc_0 rfl ⟨by decide, by decide⟩ ⟨Nat.zero_le _, Nat.zero_le _⟩ rfl rfl (Nat.le_of_ble_eq_true rfl) rfl rfl dL_isWater_190 ?_
          refine j_aload_n C0 dL_isWater_193 rfl 2 rfl ?_
          refine j_bipush (v := 11) C0 dL_isWater_194 rfl ?_
          refine j_iald (x := (M 0 11)) C0 al_14_0 rfl (ia hi id_l0) (by decide) (by rw [Nat.zero_add]; rfl) dL_isWater_196 ?_
          refine j_icmp_ne (tgt := 228) C0 dL_isWater_197 (by decide) (fun c11 => ?_) (fun c11 => ?_)
          · have hf := if_f c11 hf
            refine j_iconst (v := 0) C0 dL_isWater_228 rfl ?_
            exact j_zret C0 hr rfl dL_isWater_229 (so hf) rfl
          have hf := if_t c11 hf
          refine j_aload_n C0 dL_isWater_200 rfl 1 rfl ?_
          refine j_bipush (v := 9) C0 dL_isWater_201 rfl ?_
          obtain ⟨q12, hcq12, hf⟩ := bd_some hf
          refine j_callV (As := [.int (9 : Int32)]) (rest := []) (stk := [.int q12]) (G2 := (X.1, X.2, M)) C0 (c_X5_water hi (M0 := M)  hcq12) kw_L_53 bi_X5_water bx_X5_water (ia hi id_c0) oc_0 rfl ⟨by decide, by decide⟩ ⟨Nat.zero_le _, Nat.zero_le _⟩ rfl rfl (Nat.le_of_ble_eq_true rfl) rfl rfl dL_isWater_203 ?_
          refine j_aload_n C0 dL_isWater_206 rfl 2 rfl ?_
          refine j_bipush (v := 12) C0 dL_isWater_207 rfl ?_
          refine j_iald (x := (M 0 12)) C0 al_14_0 rfl (ia hi id_l0) (by decide) (by rw [Nat.zero_add]; rfl) dL_isWater_209 ?_
          refine j_icmp_ne (tgt := 228) C0 dL_isWater_210 (by decide) (fun c13 => ?_) (fun c13 => ?_)
          · have hf := if_f c13 hf
            refine j_iconst (v := 0) C0 dL_isWater_228 rfl ?_
            exact j_zret C0 hr rfl dL_isWater_229 (so hf) rfl
          have hf := if_t c13 hf
          refine j_aload_n C0 dL_isWater_213 rfl 1 rfl ?_
          refine j_bipush (v := 10) C0 dL_isWater_214 rfl ?_
          obtain ⟨q14, hcq14, hf⟩ := bd_some hf
          refine j_callV (As := [.int (10 : Int32)]) (rest := []) (stk := [.int q14]) (G2 := (X.1, X.2, M)) C0 (c_X5_water hi (M0 := M)  hcq14) kw_L_53 bi_X5_water bx_X5_water (ia hi id_c0) oc_0 rfl ⟨by decide, by decide⟩ ⟨Nat.zero_le _, Nat.zero_le _⟩ rfl rfl (Nat.le_of_ble_eq_true rfl) rfl rfl dL_isWater_216 ?_
          refine j_ldc (v := -1000001) C0 dL_isWater_219 cw_L_49 ?_
          refine j_icmp_ne (tgt := 228) C0 dL_isWater_221 (by decide) (fun c15 => ?_) (fun c15 => ?_)
          · have hf := if_f c15 hf
            refine j_iconst (v := 0) C0 dL_isWater_228 rfl ?_
            exact j_zret C0 hr rfl dL_isWater_229 (so hf) rfl
          have hf := if_t c15 hf
          refine j_iconst (v := 1) C0 dL_isWater_224 rfl ?_
          refine j_goto (tgt := 229) C0 dL_isWater_225 (by decide) ?_
          exact j_zret C0 hr rfl dL_isWater_229 (so hf) rfl
        refine j_icmp_ne (tgt := 136) C0 dL_isWater_63 (by decide) (fun c16 => ?_) (fun c16 => ?_)
        · have hsq2 := if_f c16 hsq2
          refine j_iconst (v := 0) C0 dL_isWater_136 rfl ?_
          obtain rfl := so hsq2
          exact j_sub [0, 1] rfl Jq2
        have hsq2 := if_t c16 hsq2
        refine j_aload_n C0 dL_isWater_66 rfl 0 rfl ?_
        refine j_iconst (v := 5) C0 dL_isWater_67 rfl ?_
        obtain ⟨q17, hcq17, hsq2⟩ := bd_some hsq2
        refine j_callV (As := [.int (5 : Int32)]) (rest := []) (stk := [.int q17]) (G2 := (X.1, X.2, M)) C0 (c_X5_water hi (M0 := M)  hcq17) kw_L_53 bi_X5_water bx_X5_water (ia hi id_c0) oc_0 rfl ⟨by decide, by decide⟩ ⟨Nat.zero_le _, Nat.zero_le _⟩ rfl rfl (Nat.le_of_ble_eq_true rfl) rfl rfl dL_isWater_68 ?_
        refine j_sipush (v := 20000) C0 dL_isWater_71 rfl ?_
        refine j_icmp_ne (tgt := 136) C0 dL_isWater_74 (by decide) (fun c18 => ?_) (fun c18 => ?_)
        · have hsq2 := if_f c18 hsq2
          refine j_iconst (v := 0) C0 dL_isWater_136 rfl ?_
          obtain rfl := so hsq2
          exact j_sub [0, 1] rfl Jq2
        have hsq2 := if_t c18 hsq2
        refine j_aload_n C0 dL_isWater_77 rfl 0 rfl ?_
        refine j_iconst (v := 0) C0 dL_isWater_78 rfl ?_
        obtain ⟨q19, hcq19, hsq2⟩ := bd_some hsq2
        refine j_callV (As := [.int (0 : Int32)]) (rest := []) (stk := [.int q19]) (G2 := (X.1, X.2, M)) C0 (c_X5_water hi (M0 := M)  hcq19) kw_L_53 bi_X5_water bx_X5_water (ia hi id_c0) oc_0 rfl ⟨by decide, by decide⟩ ⟨Nat.zero_le _, Nat.zero_le _⟩ rfl rfl (Nat.le_of_ble_eq_true rfl) rfl rfl dL_isWater_79 ?_
        refine j_aload_n C0 dL_isWater_82 rfl 1 rfl ?_
        refine j_bipush (v := 7) C0 dL_isWater_83 rfl ?_
        refine j_iald (x := (M 0 7)) C0 al_14_0 rfl (ia hi id_l0) (by decide) (by rw [Nat.zero_add]; rfl) dL_isWater_85 ?_
        refine j_icmp_ne (tgt := 136) C0 dL_isWater_86 (by decide) (fun c20 => ?_) (fun c20 => ?_)
        · have hsq2 := if_f c20 hsq2
          refine j_iconst (v := 0) C0 dL_isWater_136 rfl ?_
          obtain rfl := so hsq2
          exact j_sub [0, 1] rfl Jq2
        have hsq2 := if_t c20 hsq2
        refine j_aload_n C0 dL_isWater_89 rfl 0 rfl ?_
        refine j_iconst (v := 1) C0 dL_isWater_90 rfl ?_
        obtain ⟨q21, hcq21, hsq2⟩ := bd_some hsq2
        refine j_callV (As := [.int (1 : Int32)]) (rest := []) (stk := [.int q21]) (G2 := (X.1, X.2, M)) C0 (c_X5_water hi (M0 := M)  hcq21) kw_L_53 bi_X5_water bx_X5_water (ia hi id_c0) oc_0 rfl ⟨by decide, by decide⟩ ⟨Nat.zero_le _, Nat.zero_le _⟩ rfl rfl (Nat.le_of_ble_eq_true rfl) rfl rfl dL_isWater_91 ?_
        refine j_iload_n C0 dL_isWater_94 rfl 3 rfl ?_
        refine j_icmp_ne (tgt := 136) C0 dL_isWater_95 (by decide) (fun c22 => ?_) (fun c22 => ?_)
        · have hsq2 := if_f c22 hsq2
          refine j_iconst (v := 0) C0 dL_isWater_136 rfl ?_
          obtain rfl := so hsq2
          exact j_sub [0, 1] rfl Jq2
        have hsq2 := if_t c22 hsq2
        refine j_aload_n C0 dL_isWater_98 rfl 0 rfl ?_
        refine j_iconst (v := 2) C0 dL_isWater_99 rfl ?_
        obtain ⟨q23, hcq23, hsq2⟩ := bd_some hsq2
        refine j_callV (As := [.int (2 : Int32)]) (rest := []) (stk := [.int q23]) (G2 := (X.1, X.2, M)) C0 (c_X5_water hi (M0 := M)  hcq23) kw_L_53 bi_X5_water bx_X5_water (ia hi id_c0) oc_0 rfl ⟨by decide, by decide⟩ ⟨Nat.zero_le _, Nat.zero_le _⟩ rfl rfl (Nat.le_of_ble_eq_true rfl) rfl rfl dL_isWater_100 ?_
        refine j_iload C0 dL_isWater_103 4 rfl ?_
        refine j_icmp_ne (tgt := 136) C0 dL_isWater_105 (by decide) (fun c24 => ?_) (fun c24 => ?_)
        · have hsq2 := if_f c24 hsq2
          refine j_iconst (v := 0) C0 dL_isWater_136 rfl ?_
          obtain rfl := so hsq2
          exact j_sub [0, 1] rfl Jq2
        have hsq2 := if_t c24 hsq2
        refine j_aload_n C0 dL_isWater_108 rfl 0 rfl ?_
        refine j_iconst (v := 3) C0 dL_isWater_109 rfl ?_
        obtain ⟨q25, hcq25, hsq2⟩ := bd_some hsq2
        refine j_callV (As := [.int (3 : Int32)]) (rest := []) (stk := [.int q25]) (G2 := (X.1, X.2, M)) C0 (c_X5_water hi (M0 := M)  hcq25) kw_L_53 bi_X5_water bx_X5_water (ia hi id_c0) oc_0 rfl ⟨by decide, by decide⟩ ⟨Nat.zero_le _, Nat.zero_le _⟩ rfl rfl (Nat.le_of_ble_eq_true rfl) rfl rfl dL_isWater_110 ?_
        refine j_aload_n C0 dL_isWater_113 rfl 1 rfl ?_
        refine j_bipush (v := 8) C0 dL_isWater_114 rfl ?_
        refine j_iald (x := (M 0 8)) C0 al_14_0 rfl (ia hi id_l0) (by decide) (by rw [Nat.zero_add]; rfl) dL_isWater_116 ?_
        refine j_icmp_ne (tgt := 136) C0 dL_isWater_117 (by decide) (fun c26 => ?_) (fun c26 => ?_)
        · have hsq2 := if_f c26 hsq2
          refine j_iconst (v := 0) C0 dL_isWater_136 rfl ?_
          obtain rfl := so hsq2
          exact j_sub [0, 1] rfl Jq2
        have hsq2 := if_t c26 hsq2
        refine j_aload_n C0 dL_isWater_120 rfl 0 rfl ?_
        refine j_iconst (v := 4) C0 dL_isWater_121 rfl ?_
        obtain ⟨q27, hcq27, hsq2⟩ := bd_some hsq2
        refine j_callV (As := [.int (4 : Int32)]) (rest := []) (stk := [.int q27]) (G2 := (X.1, X.2, M)) C0 (c_X5_water hi (M0 := M)  hcq27) kw_L_53 bi_X5_water bx_X5_water (ia hi id_c0) oc_0 rfl ⟨by decide, by decide⟩ ⟨Nat.zero_le _, Nat.zero_le _⟩ rfl rfl (Nat.le_of_ble_eq_true rfl) rfl rfl dL_isWater_122 ?_
        refine j_aload_n C0 dL_isWater_125 rfl 1 rfl ?_
        refine j_bipush (v := 9) C0 dL_isWater_126 rfl ?_
        refine j_iald (x := (M 0 9)) C0 al_14_0 rfl (ia hi id_l0) (by decide) (by rw [Nat.zero_add]; rfl) dL_isWater_128 ?_
        refine j_icmp_ne (tgt := 136) C0 dL_isWater_129 (by decide) (fun c28 => ?_) (fun c28 => ?_)
        · have hsq2 := if_f c28 hsq2
          refine j_iconst (v := 0) C0 dL_isWater_136 rfl ?_
          obtain rfl := so hsq2
          exact j_sub [0, 1] rfl Jq2
        have hsq2 := if_t c28 hsq2
        refine j_iconst (v := 1) C0 dL_isWater_132 rfl ?_
        refine j_goto (tgt := 137) C0 dL_isWater_133 (by decide) ?_
        obtain rfl := so hsq2
        exact j_sub [0, 1] rfl Jq2
      have hf := if_f c1 hf
      refine j_iload_n C0 dL_isWater_17 rfl 3 rfl ?_
      refine j_aload_n C0 dL_isWater_18 rfl 2 rfl ?_
      refine j_iload C0 dL_isWater_19 5 rfl ?_
      obtain ⟨h29, hf⟩ := gd_some hf
      refine j_iald (x := (M 1 (y5.toNatClampNeg))) C0 al_14_1 rfl (ia hi id_l1) h29 (by rw [Nat.zero_add]; rfl) dL_isWater_21 ?_
      refine j_iadd C0 dL_isWater_22 ?_
      refine j_istore_n (lv' := [(3, .int (y3 + (M 1 (y5.toNatClampNeg)))), (0, .ref (ad (0, 0, 0))), (1, .ref (ad (14, 0, 0))), (2, .ref (ad (14, 1, 0))), (4, .int y4), (5, .int y5)]) C0 dL_isWater_23 rfl (by decide) rfl ?_
      refine j_iload C0 dL_isWater_24 4 rfl ?_
      refine j_aload_n C0 dL_isWater_26 rfl 3 rfl ?_
      refine j_iconst (v := 5) C0 dL_isWater_27 rfl ?_
      refine j_iload C0 dL_isWater_28 5 rfl ?_
      refine j_iadd C0 dL_isWater_30 ?_
      obtain ⟨h30, hf⟩ := gd_some hf
      refine j_iald (x := (M 1 (((5 : Int32) + y5).toNatClampNeg))) C0 al_14_1 rfl (ia hi id_l1) h30 (by rw [Nat.zero_add]; rfl) dL_isWater_31 ?_
      refine j_iadd C0 dL_isWater_32 ?_
      refine j_istore (lv' := [(4, .int (y4 + (M 1 (((5 : Int32) + y5).toNatClampNeg)))), (3, .int (y3 + (M 1 (y5.toNatClampNeg)))), (0, .ref (ad (0, 0, 0))), (1, .ref (ad (14, 0, 0))), (2, .ref (ad (14, 1, 0))), (5, .int y5)]) C0 dL_isWater_33 (by decide) rfl ?_
      refine j_iinc (v := (y5 + 1)) (lv' := [(5, .int (y5 + 1)), (4, .int (y4 + (M 1 (((5 : Int32) + y5).toNatClampNeg)))), (3, .int (y3 + (M 1 (y5.toNatClampNeg)))), (0, .ref (ad (0, 0, 0))), (1, .ref (ad (14, 0, 0))), (2, .ref (ad (14, 1, 0)))]) C0 dL_isWater_35 5 rfl rfl (by decide) rfl ?_
      refine j_goto (tgt := 8) C0 dL_isWater_38 (by decide) ?_
      exact j_sub [3, 4, 5, 2, 1, 0] rfl (ih X M (y3 + (M 1 (y5.toNatClampNeg))) (y4 + (M 1 (((5 : Int32) + y5).toNatClampNeg))) (y5 + 1) hf)
  unfold fL_isWater at hf
  refine j_iconst (v := 0) C0 dL_isWater_0 rfl ?_
  refine j_istore_n (lv' := [(3, .int (0 : Int32)), (0, .ref (ad (0, 0, 0))), (1, .ref (ad (14, 0, 0))), (2, .ref (ad (14, 1, 0)))]) C0 dL_isWater_1 rfl (by decide) rfl ?_
  refine j_iconst (v := 0) C0 dL_isWater_2 rfl ?_
  refine j_istore (lv' := [(4, .int (0 : Int32)), (3, .int (0 : Int32)), (0, .ref (ad (0, 0, 0))), (1, .ref (ad (14, 0, 0))), (2, .ref (ad (14, 1, 0)))]) C0 dL_isWater_3 (by decide) rfl ?_
  refine j_iconst (v := 0) C0 dL_isWater_5 rfl ?_
  refine j_istore (lv' := [(5, .int (0 : Int32)), (4, .int (0 : Int32)), (3, .int (0 : Int32)), (0, .ref (ad (0, 0, 0))), (1, .ref (ad (14, 0, 0))), (2, .ref (ad (14, 1, 0)))]) C0 dL_isWater_6 (by decide) rfl ?_
  exact j_sub [3, 4, 5, 2, 1, 0] rfl (L8 fuel X M (0 : Int32) (0 : Int32) (0 : Int32) hf)

set_option maxHeartbeats 4000000 in
set_option maxRecDepth 100000 in
theorem c_L_isMean {l : Launch} {D : va_G} {ca : Nat → ClassId} {ad : I3 → Nat} (hi : adI ad) {G0 : GS} {x1 : Int32} {x2 : Int32} {x3 : Int32} {r0 : Int32}  (hf : fL_isMean x1 x2 x3 = some (r0)) : MT l D ca ad yL_isMean cL_isMean 5 (some .boolean) 0 0 [.int x1, .int x2, .int x3] G0 (some (.int r0)) G0 := by
  refine met_J (lv := [(0, .int x1), (1, .int x2), (2, .int x3)]) hi (by decide +kernel) (Nat.le_of_ble_eq_true rfl) rfl (fun p e s m below meth c C0 hr => ?_)
  have L23 : ∀ (n : Nat) (y0 : Int32) (y3 : Int32) (y4 : Int32), fL_isMean_L23 n y0 y3 y4 = some (r0) → J D ca ad p l e ({ frames := 0, cells := 0, slots := 0, locals := 0 }) s m [.int x1, .int x2, .int x3].toArray below meth c 0 0 (MQ below (post D ca ad (some (.int r0)) G0) [.int x1, .int x2, .int x3].toArray s 0 0 (adA ad)) 5 G0 23 [(0, .int y0), (3, .int y3), (4, .int y4)] [] := by
    intro n
    induction n with
    | zero =>
      intro y0 y3 y4 hf
      exact (none_ne hf).elim
    | succ n ih =>
      intro y0 y3 y4 hf
      rw [fL_isMean_L23] at hf
      refine j_iload_n C0 dL_isMean_23 rfl 1 rfl ?_
      refine j_iload C0 dL_isMean_24 2 rfl ?_
      refine j_iconst (v := 1) C0 dL_isMean_26 rfl ?_
      refine j_iadd C0 dL_isMean_27 ?_
      refine j_ishr C0 dL_isMean_28 ?_
      refine j_if_le (tgt := 38) C0 dL_isMean_29 (by decide) (fun c3 => ?_) (fun c3 => ?_)
      · have hf := if_t c3 hf
        refine j_iload_n C0 dL_isMean_38 rfl 0 rfl ?_
        refine j_iload C0 dL_isMean_39 2 rfl ?_
        refine j_bipush (v := 125) C0 dL_isMean_41 rfl ?_
        refine j_iadd C0 dL_isMean_43 ?_
        refine j_bipush (v := 23) C0 dL_isMean_44 rfl ?_
        refine j_ishl C0 dL_isMean_46 ?_
        refine j_iload_n C0 dL_isMean_47 rfl 1 rfl ?_
        refine j_iconst (v := 1) C0 dL_isMean_48 rfl ?_
        refine j_iload C0 dL_isMean_49 2 rfl ?_
        refine j_ishl C0 dL_isMean_51 ?_
        refine j_isub C0 dL_isMean_52 ?_
        refine j_bipush (v := 23) C0 dL_isMean_53 rfl ?_
        refine j_iload C0 dL_isMean_55 2 rfl ?_
        refine j_isub C0 dL_isMean_57 ?_
        refine j_ishl C0 dL_isMean_58 ?_
        refine j_iadd C0 dL_isMean_59 ?_
        refine j_icmp_ne (tgt := 67) C0 dL_isMean_60 (by decide) (fun c4 => ?_) (fun c4 => ?_)
        · have hf := if_f c4 hf
          refine j_iconst (v := 0) C0 dL_isMean_67 rfl ?_
          exact j_zret C0 hr rfl dL_isMean_68 (so hf) rfl
        have hf := if_t c4 hf
        refine j_iconst (v := 1) C0 dL_isMean_63 rfl ?_
        refine j_goto (tgt := 68) C0 dL_isMean_64 (by decide) ?_
        exact j_zret C0 hr rfl dL_isMean_68 (so hf) rfl
      have hf := if_f c3 hf
      refine j_iinc (v := (y4 + 1)) (lv' := [(4, .int (y4 + 1)), (0, .int y0), (3, .int y3)]) C0 dL_isMean_32 2 rfl rfl (by decide) rfl ?_
      refine j_goto (tgt := 23) C0 dL_isMean_35 (by decide) ?_
      exact j_sub [1, 2, 0] rfl (ih y0 y3 (y4 + 1) hf)
  unfold fL_isMean at hf
  refine j_iload_n C0 dL_isMean_0 rfl 1 rfl ?_
  refine j_iconst (v := 4) C0 dL_isMean_1 rfl ?_
  refine j_iload_n C0 dL_isMean_2 rfl 2 rfl ?_
  obtain ⟨h1, hf⟩ := gd_some hf
  refine j_idiv C0 dL_isMean_3 h1 ?_
  refine j_imul C0 dL_isMean_4 ?_
  refine j_istore_n (lv' := [(3, .int (x2 * ((4 : Int32) / x3))), (0, .int x1), (1, .int x2), (2, .int x3)]) C0 dL_isMean_5 rfl (by decide) rfl ?_
  refine j_iload_n C0 dL_isMean_6 rfl 0 rfl ?_
  refine j_if_ne (tgt := 20) C0 dL_isMean_7 (by decide) (fun c2 => ?_) (fun c2 => ?_)
  · have hf := if_f c2 hf
    refine j_iconst (v := 0) C0 dL_isMean_20 rfl ?_
    refine j_istore (lv' := [(4, .int (0 : Int32)), (3, .int (x2 * ((4 : Int32) / x3))), (0, .int x1), (1, .int x2), (2, .int x3)]) C0 dL_isMean_21 (by decide) rfl ?_
    exact j_sub [2, 1, 0] rfl (L23 fuel x1 (x2 * ((4 : Int32) / x3)) (0 : Int32) hf)
  have hf := if_t c2 hf
  refine j_iload_n C0 dL_isMean_10 rfl 1 rfl ?_
  refine j_if_ne (tgt := 18) C0 dL_isMean_11 (by decide) (fun c5 => ?_) (fun c5 => ?_)
  · have hf := if_f c5 hf
    refine j_iconst (v := 0) C0 dL_isMean_18 rfl ?_
    exact j_zret C0 hr rfl dL_isMean_19 (so hf) rfl
  have hf := if_t c5 hf
  refine j_iconst (v := 1) C0 dL_isMean_14 rfl ?_
  refine j_goto (tgt := 19) C0 dL_isMean_15 (by decide) ?_
  exact j_zret C0 hr rfl dL_isMean_19 (so hf) rfl

