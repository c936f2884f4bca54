set_option maxHeartbeats 4000000 in
set_option maxRecDepth 100000 in
theorem c_X6_leadNow {l : Launch} {D : va_G} {ca : Nat → ClassId} {ad : I3 → Nat} (hi : adI ad) {Cc : Nat → Nat → Int32} {Bb : Nat → Fin 9} {M : Nat → Nat → Int32} {x1 : Int32} {x2 : Int32} {r0 : Int32} {M' : Nat → Nat → Int32}  (hf : fM_leadNow M x1 x2 = some (r0, M')) : MT l D ca ad yX6_leadNow cX6_leadNow 4 (some .int) 2 43 [.ref (ad (14, 0, 0)), .int x1, .int x2] (Cc, Bb, M) (some (.int r0)) (Cc, Bb, M') := by
  refine met_J (lv := [(0, .ref (ad (14, 0, 0))), (1, .int x1), (2, .int x2)]) hi (by decide +kernel) (Nat.le_of_ble_eq_true rfl) rfl (fun p e s m below meth c C0 hr => ?_)
  unfold fM_leadNow at hf
  refine j_aload_n C0 dX6_leadNow_0 rfl 0 rfl ?_
  refine j_iload_n C0 dX6_leadNow_1 rfl 1 rfl ?_
  obtain ⟨q1, hcq1, hf⟩ := bd_some hf
  refine j_callV (As := [.int x1]) (rest := []) (stk := [.int q1]) (G2 := (Cc, Bb, M)) C0 (c_X6_isClock hi (Cc := Cc) (Bb := Bb)  hcq1) kw_X6_125 bi_X6_isClock bx_X6_isClock id_c14 oc_14 rfl ⟨by decide, by decide⟩ ⟨Nat.zero_le _, Nat.zero_le _⟩ rfl rfl (Nat.le_of_ble_eq_true rfl) rfl rfl dX6_leadNow_2 ?_
  refine j_if_eq (tgt := 21) C0 dX6_leadNow_5 (by decide) (fun c2 => ?_) (fun c2 => ?_)
  · have hf := if_t c2 hf
    refine j_ldc (v := -1000001) C0 dX6_leadNow_21 cw_X6_35 ?_
    exact j_iret C0 hr dX6_leadNow_23 (pr1 hf) (congrArg (fun z => (Cc, Bb, z)) (pr2 hf))
  have hf := if_f c2 hf
  refine j_aload_n C0 dX6_leadNow_8 rfl 0 rfl ?_
  refine j_iload_n C0 dX6_leadNow_9 rfl 2 rfl ?_
  obtain ⟨q3, hcq3, hf⟩ := bd_some hf
  refine j_callV (As := [.int x2]) (rest := []) (stk := [.int q3]) (G2 := (Cc, Bb, M)) C0 (c_X6_isClock hi (Cc := Cc) (Bb := Bb)  hcq3) kw_X6_125 bi_X6_isClock bx_X6_isClock id_c14 oc_14 rfl ⟨by decide, by decide⟩ ⟨Nat.zero_le _, Nat.zero_le _⟩ rfl rfl (Nat.le_of_ble_eq_true rfl) rfl rfl dX6_leadNow_10 ?_
  refine j_if_eq (tgt := 21) C0 dX6_leadNow_13 (by decide) (fun c4 => ?_) (fun c4 => ?_)
  · have hf := if_t c4 hf
    refine j_ldc (v := -1000001) C0 dX6_leadNow_21 cw_X6_35 ?_
    exact j_iret C0 hr dX6_leadNow_23 (pr1 hf) (congrArg (fun z => (Cc, Bb, z)) (pr2 hf))
  have hf := if_f c4 hf
  refine j_iload_n C0 dX6_leadNow_16 rfl 2 rfl ?_
  refine j_iload_n C0 dX6_leadNow_17 rfl 1 rfl ?_
  refine j_icmp_ge (tgt := 24) C0 dX6_leadNow_18 (by decide) (fun c5 => ?_) (fun c5 => ?_)
  · have hf := if_t c5 hf
    refine j_aload_n C0 dX6_leadNow_24 rfl 0 rfl ?_
    refine j_iload_n C0 dX6_leadNow_25 rfl 1 rfl ?_
    refine j_iconst (v := 0) C0 dX6_leadNow_26 rfl ?_
    obtain ⟨q6, hcq6, hf⟩ := bd_some hf
    refine j_callV (As := [.int x1, .int (0 : Int32)]) (rest := []) (stk := [.int q6]) (G2 := (Cc, Bb, M)) C0 (c_X6_of hi (Cc := Cc) (Bb := Bb)  hcq6) kw_X6_48 bi_X6_of bx_X6_of id_c14 oc_14 rfl ⟨by decide, by decide⟩ ⟨Nat.zero_le _, Nat.zero_le _⟩ rfl rfl (Nat.le_of_ble_eq_true rfl) rfl rfl dX6_leadNow_27 ?_
    refine j_iconst (v := 1) C0 dX6_leadNow_30 rfl ?_
    refine j_icmp_ne (tgt := 37) C0 dX6_leadNow_31 (by decide) (fun c7 => ?_) (fun c7 => ?_)
    · have hf := if_f c7 hf
      refine j_aload_n C0 dX6_leadNow_37 rfl 0 rfl ?_
      refine j_iload_n C0 dX6_leadNow_38 rfl 1 rfl ?_
      refine j_iconst (v := 5) C0 dX6_leadNow_39 rfl ?_
      obtain ⟨q8, hcq8, hf⟩ := bd_some hf
      refine j_callV (As := [.int x1, .int (5 : Int32)]) (rest := []) (stk := [.int q8]) (G2 := (Cc, Bb, M)) C0 (c_X6_of hi (Cc := Cc) (Bb := Bb)  hcq8) kw_X6_48 bi_X6_of bx_X6_of id_c14 oc_14 rfl ⟨by decide, by decide⟩ ⟨Nat.zero_le _, Nat.zero_le _⟩ rfl rfl (Nat.le_of_ble_eq_true rfl) rfl rfl dX6_leadNow_40 ?_
      refine j_istore_n (lv' := [(3, .int q8), (0, .ref (ad (14, 0, 0))), (1, .int x1), (2, .int x2)]) C0 dX6_leadNow_43 rfl (by decide) rfl ?_
      refine j_aload_n C0 dX6_leadNow_44 rfl 1 rfl ?_
      refine j_iload_n C0 dX6_leadNow_45 rfl 2 rfl ?_
      refine j_iconst (v := 5) C0 dX6_leadNow_46 rfl ?_
      refine j_iload_n C0 dX6_leadNow_47 rfl 3 rfl ?_
      obtain ⟨q9, hcq9, hf⟩ := bd_some hf
      refine j_callV (As := [.int x1, .int (5 : Int32), .int x2]) (rest := []) (stk := []) (G2 := (Cc, Bb, q9)) C0 (c_X6_put hi (Cc := Cc) (Bb := Bb)  hcq9) kw_X6_72 bi_X6_put bx_X6_put id_c14 oc_14 rfl ⟨by decide, by decide⟩ ⟨Nat.zero_le _, Nat.zero_le _⟩ rfl rfl (Nat.le_of_ble_eq_true rfl) rfl rfl dX6_leadNow_48 ?_
      refine j_iload_n C0 dX6_leadNow_51 rfl 0 rfl ?_
      exact j_iret C0 hr dX6_leadNow_52 (pr1 hf) (congrArg (fun z => (Cc, Bb, z)) (pr2 hf))
    have hf := if_t c7 hf
    refine j_ldc (v := -1000002) C0 dX6_leadNow_34 cw_X6_128 ?_
    exact j_iret C0 hr dX6_leadNow_36 (pr1 hf) (congrArg (fun z => (Cc, Bb, z)) (pr2 hf))
  have hf := if_f c5 hf
  refine j_ldc (v := -1000001) C0 dX6_leadNow_21 cw_X6_35 ?_
  exact j_iret C0 hr dX6_leadNow_23 (pr1 hf) (congrArg (fun z => (Cc, Bb, z)) (pr2 hf))

set_option maxHeartbeats 4000000 in
set_option maxRecDepth 100000 in
theorem c_X6_jug {l : Launch} {D : va_G} {ca : Nat → ClassId} {ad : I3 → Nat} (hi : adI ad) {G0 : GS} {x1 : Int32} {r0 : Int32}  (hf : fM_jug x1 = some (r0)) : MT l D ca ad yX6_jug cX6_jug 1 (some .int) 0 0 [.int x1] G0 (some (.int r0)) G0 := by
  refine met_J (lv := [(0, .int x1)]) hi (by decide +kernel) (Nat.le_of_ble_eq_true rfl) rfl (fun p e s m below meth c C0 hr => ?_)
  unfold fM_jug at hf
  refine j_iload_n C0 dX6_jug_0 rfl 0 rfl ?_
  refine j_if_ne (tgt := 9) C0 dX6_jug_1 (by decide) (fun c1 => ?_) (fun c1 => ?_)
  · have hf := if_f c1 hf
    refine j_iload_n C0 dX6_jug_9 rfl 0 rfl ?_
    refine j_iconst (v := 1) C0 dX6_jug_10 rfl ?_
    refine j_icmp_ne (tgt := 20) C0 dX6_jug_11 (by decide) (fun c2 => ?_) (fun c2 => ?_)
    · have hf := if_f c2 hf
      refine j_sipush (v := 700) C0 dX6_jug_20 rfl ?_
      exact j_iret C0 hr dX6_jug_23 (so hf) rfl
    have hf := if_t c2 hf
    refine j_sipush (v := 200) C0 dX6_jug_14 rfl ?_
    refine j_goto (tgt := 23) C0 dX6_jug_17 (by decide) ?_
    exact j_iret C0 hr dX6_jug_23 (so hf) rfl
  have hf := if_t c1 hf
  refine j_bipush (v := 50) C0 dX6_jug_4 rfl ?_
  refine j_goto (tgt := 23) C0 dX6_jug_6 (by decide) ?_
  exact j_iret C0 hr dX6_jug_23 (so hf) rfl

set_option maxHeartbeats 4000000 in
set_option maxRecDepth 100000 in
theorem c_X6_reason {l : Launch} {D : va_G} {ca : Nat → ClassId} {ad : I3 → Nat} (hi : adI ad) {Cc : Nat → Nat → Int32} {Bb : Nat → Fin 9} {M : Nat → Nat → Int32} {x1 : Int32} {x2 : Int32} {r0 : Int32}  (hf : fM_reason M x1 x2 = some (r0)) : MT l D ca ad yX6_reason cX6_reason 3 (some .int) 1 22 [.ref (ad (14, 0, 0)), .int x1, .int x2] (Cc, Bb, M) (some (.int r0)) (Cc, Bb, M) := by
  refine met_J (lv := [(0, .ref (ad (14, 0, 0))), (1, .int x1), (2, .int x2)]) hi (by decide +kernel) (Nat.le_of_ble_eq_true rfl) rfl (fun p e s m below meth c C0 hr => ?_)
  unfold fM_reason at hf
  refine j_aload_n C0 dX6_reason_0 rfl 0 rfl ?_
  refine j_getr (id2 := (15, 0, 0)) C0 fl_X6_7 rl_6_0 id_c14 dX6_reason_1 ?_
  refine j_bipush (v := 7) C0 dX6_reason_4 rfl ?_
  refine j_iald (x := (M 0 7)) C0 al_15_0 rfl id_m0 (by decide) (by rw [Nat.zero_add]; rfl) dX6_reason_6 ?_
  refine j_iload_n C0 dX6_reason_7 rfl 2 rfl ?_
  obtain ⟨q1, hcq1, hf⟩ := bd_some hf
  refine j_callS (As := [.int x2]) (rest := [.int (M 0 7)]) (stk := [.int q1, .int (M 0 7)]) (G2 := (Cc, Bb, M)) C0 (c_X6_jug hi (G0 := (Cc, Bb, M))  hcq1) kw_X6_129 bi_X6_jug rfl ⟨by decide, by decide⟩ ⟨Nat.zero_le _, Nat.zero_le _⟩ rfl rfl (Nat.le_of_ble_eq_true rfl) rfl rfl dX6_reason_8 ?_
  refine j_icmp_ge (tgt := 18) C0 dX6_reason_11 (by decide) (fun c2 => ?_) (fun c2 => ?_)
  · have hf := if_t c2 hf
    refine j_aload_n C0 dX6_reason_18 rfl 0 rfl ?_
    refine j_iload_n C0 dX6_reason_19 rfl 1 rfl ?_
    refine j_iconst (v := 3) C0 dX6_reason_20 rfl ?_
    obtain ⟨q3, hcq3, hf⟩ := bd_some hf
    refine j_callV (As := [.int x1, .int (3 : Int32)]) (rest := []) (stk := [.int q3]) (G2 := (Cc, Bb, M)) C0 (c_X6_of hi (Cc := Cc) (Bb := Bb)  hcq3) kw_X6_48 bi_X6_of bx_X6_of id_c14 oc_14 rfl ⟨by decide, by decide⟩ ⟨Nat.zero_le _, Nat.zero_le _⟩ rfl rfl (Nat.le_of_ble_eq_true rfl) rfl rfl dX6_reason_21 ?_
    refine j_aload_n C0 dX6_reason_24 rfl 0 rfl ?_
    refine j_getr (id2 := (15, 0, 0)) C0 fl_X6_7 rl_6_0 id_c14 dX6_reason_25 ?_
    refine j_iconst (v := 0) C0 dX6_reason_28 rfl ?_
    refine j_iald (x := (M 0 0)) C0 al_15_0 rfl id_m0 (by decide) (by rw [Nat.zero_add]; rfl) dX6_reason_29 ?_
    refine j_icmp_lt (tgt := 37) C0 dX6_reason_30 (by decide) (fun c4 => ?_) (fun c4 => ?_)
    · have hf := if_t c4 hf
      refine j_iconst (v := 0) C0 dX6_reason_37 rfl ?_
      exact j_iret C0 hr dX6_reason_38 (so hf) rfl
    have hf := if_f c4 hf
    refine j_iconst (v := 2) C0 dX6_reason_33 rfl ?_
    refine j_goto (tgt := 38) C0 dX6_reason_34 (by decide) ?_
    exact j_iret C0 hr dX6_reason_38 (so hf) rfl
  have hf := if_f c2 hf
  refine j_iconst (v := 1) C0 dX6_reason_14 rfl ?_
  refine j_goto (tgt := 38) C0 dX6_reason_15 (by decide) ?_
  exact j_iret C0 hr dX6_reason_38 (so hf) rfl

set_option maxHeartbeats 4000000 in
set_option maxRecDepth 100000 in
theorem c_X6_pourNow {l : Launch} {D : va_G} {ca : Nat → ClassId} {ad : I3 → Nat} (hi : adI ad) {Cc : Nat → Nat → Int32} {Bb : Nat → Fin 9} {M : Nat → Nat → Int32} {x1 : Int32} {x2 : Int32} {r0 : Int32} {M' : Nat → Nat → Int32}  (hf : fM_pourNow M x1 x2 = some (r0, M')) : MT l D ca ad yX6_pourNow cX6_pourNow 3 (some .int) 2 47 [.ref (ad (14, 0, 0)), .int x1, .int x2] (Cc, Bb, M) (some (.int r0)) (Cc, Bb, M') := by
  refine met_J (lv := [(0, .ref (ad (14, 0, 0))), (1, .int x1), (2, .int x2)]) hi (by decide +kernel) (Nat.le_of_ble_eq_true rfl) rfl (fun p e s m below meth c C0 hr => ?_)
  unfold fM_pourNow at hf
  refine j_aload_n C0 dX6_pourNow_0 rfl 0 rfl ?_
  refine j_iload_n C0 dX6_pourNow_1 rfl 1 rfl ?_
  obtain ⟨q1, hcq1, hf⟩ := bd_some hf
  refine j_callV (As := [.int x1]) (rest := []) (stk := [.int q1]) (G2 := (Cc, Bb, M)) C0 (c_X6_isClock hi (Cc := Cc) (Bb := Bb)  hcq1) kw_X6_125 bi_X6_isClock bx_X6_isClock id_c14 oc_14 rfl ⟨by decide, by decide⟩ ⟨Nat.zero_le _, Nat.zero_le _⟩ rfl rfl (Nat.le_of_ble_eq_true rfl) rfl rfl dX6_pourNow_2 ?_
  refine j_if_eq (tgt := 17) C0 dX6_pourNow_5 (by decide) (fun c2 => ?_) (fun c2 => ?_)
  · have hf := if_t c2 hf
    refine j_ldc (v := -1000001) C0 dX6_pourNow_17 cw_X6_35 ?_
    exact j_iret C0 hr dX6_pourNow_19 (pr1 hf) (congrArg (fun z => (Cc, Bb, z)) (pr2 hf))
  have hf := if_f c2 hf
  refine j_iload_n C0 dX6_pourNow_8 rfl 2 rfl ?_
  refine j_iconst (v := 0) C0 dX6_pourNow_9 rfl ?_
  refine j_iconst (v := 2) C0 dX6_pourNow_10 rfl ?_
  obtain ⟨q3, hcq3, hf⟩ := bd_some hf
  refine j_callS (As := [.int x2, .int (0 : Int32), .int (2 : Int32)]) (rest := []) (stk := [.int q3]) (G2 := (Cc, Bb, M)) C0 (c_X6_in hi (G0 := (Cc, Bb, M))  hcq3) kw_X6_36 bi_X6_in rfl ⟨by decide, by decide⟩ ⟨Nat.zero_le _, Nat.zero_le _⟩ rfl rfl (Nat.le_of_ble_eq_true rfl) rfl rfl dX6_pourNow_11 ?_
  refine j_if_ne (tgt := 20) C0 dX6_pourNow_14 (by decide) (fun c4 => ?_) (fun c4 => ?_)
  · have hf := if_f c4 hf
    refine j_aload_n C0 dX6_pourNow_20 rfl 0 rfl ?_
    refine j_iload_n C0 dX6_pourNow_21 rfl 1 rfl ?_
    refine j_iload_n C0 dX6_pourNow_22 rfl 2 rfl ?_
    obtain ⟨q5, hcq5, hf⟩ := bd_some hf
    refine j_callV (As := [.int x1, .int x2]) (rest := []) (stk := [.int q5]) (G2 := (Cc, Bb, M)) C0 (c_X6_reason hi (Cc := Cc) (Bb := Bb)  hcq5) kw_X6_132 bi_X6_reason bx_X6_reason id_c14 oc_14 rfl ⟨by decide, by decide⟩ ⟨Nat.zero_le _, Nat.zero_le _⟩ rfl rfl (Nat.le_of_ble_eq_true rfl) rfl rfl dX6_pourNow_23 ?_
    refine j_if_le (tgt := 32) C0 dX6_pourNow_26 (by decide) (fun c6 => ?_) (fun c6 => ?_)
    · have hf := if_t c6 hf
      refine j_aload_n C0 dX6_pourNow_32 rfl 0 rfl ?_
      refine j_getr (id2 := (15, 0, 0)) C0 fl_X6_7 rl_6_0 id_c14 dX6_pourNow_33 ?_
      refine j_bipush (v := 7) C0 dX6_pourNow_36 rfl ?_
      refine j_dup2 C0 dX6_pourNow_38 rfl rfl ?_
      refine j_iald (x := (M 0 7)) C0 al_15_0 rfl id_m0 (by decide) (by rw [Nat.zero_add]; rfl) dX6_pourNow_39 ?_
      refine j_iload_n C0 dX6_pourNow_40 rfl 2 rfl ?_
      obtain ⟨q7, hcq7, hf⟩ := bd_some hf
      refine j_callS (As := [.int x2]) (rest := [.int (M 0 7), .int (7 : Int32), .ref (ad (15, 0, 0))]) (stk := [.int q7, .int (M 0 7), .int (7 : Int32), .ref (ad (15, 0, 0))]) (G2 := (Cc, Bb, M)) C0 (c_X6_jug hi (G0 := (Cc, Bb, M))  hcq7) kw_X6_129 bi_X6_jug rfl ⟨by decide, by decide⟩ ⟨Nat.zero_le _, Nat.zero_le _⟩ rfl rfl (Nat.le_of_ble_eq_true rfl) rfl rfl dX6_pourNow_41 ?_
      refine j_isub C0 dX6_pourNow_44 ?_
      obtain ⟨M8, e9, hf⟩ := lt_some hf
      refine j_iast (G' := (Cc, Bb, M8)) C0 al_15_0 rfl id_m0 (by decide) (by rw [Nat.zero_add]; exact (eM_set e9)) dX6_pourNow_45 ?_
      refine j_aload_n C0 dX6_pourNow_46 rfl 0 rfl ?_
      refine j_getr (id2 := (15, 0, 0)) C0 fl_X6_7 rl_6_0 id_c14 dX6_pourNow_47 ?_
      refine j_bipush (v := 10) C0 dX6_pourNow_50 rfl ?_
      refine j_dup2 C0 dX6_pourNow_52 rfl rfl ?_
      refine j_iald (x := (M8 0 10)) C0 al_15_0 rfl id_m0 (by decide) (by rw [Nat.zero_add]; rfl) dX6_pourNow_53 ?_
      refine j_iload_n C0 dX6_pourNow_54 rfl 2 rfl ?_
      obtain ⟨q10, hcq10, hf⟩ := bd_some hf
      refine j_callS (As := [.int x2]) (rest := [.int (M8 0 10), .int (10 : Int32), .ref (ad (15, 0, 0))]) (stk := [.int q10, .int (M8 0 10), .int (10 : Int32), .ref (ad (15, 0, 0))]) (G2 := (Cc, Bb, M8)) C0 (c_X6_jug hi (G0 := (Cc, Bb, M8))  hcq10) kw_X6_129 bi_X6_jug rfl ⟨by decide, by decide⟩ ⟨Nat.zero_le _, Nat.zero_le _⟩ rfl rfl (Nat.le_of_ble_eq_true rfl) rfl rfl dX6_pourNow_55 ?_
      refine j_iadd C0 dX6_pourNow_58 ?_
      obtain ⟨M11, e12, hf⟩ := lt_some hf
      refine j_iast (G' := (Cc, Bb, M11)) C0 al_15_0 rfl id_m0 (by decide) (by rw [Nat.zero_add]; exact (eM_set e12)) dX6_pourNow_59 ?_
      refine j_aload_n C0 dX6_pourNow_60 rfl 0 rfl ?_
      refine j_getr (id2 := (15, 0, 0)) C0 fl_X6_7 rl_6_0 id_c14 dX6_pourNow_61 ?_
      refine j_bipush (v := 18) C0 dX6_pourNow_64 rfl ?_
      refine j_dup2 C0 dX6_pourNow_66 rfl rfl ?_
      refine j_iald (x := (M11 0 18)) C0 al_15_0 rfl id_m0 (by decide) (by rw [Nat.zero_add]; rfl) dX6_pourNow_67 ?_
      refine j_iconst (v := 1) C0 dX6_pourNow_68 rfl ?_
      refine j_iadd C0 dX6_pourNow_69 ?_
      obtain ⟨M13, e14, hf⟩ := lt_some hf
      refine j_iast (G' := (Cc, Bb, M13)) C0 al_15_0 rfl id_m0 (by decide) (by rw [Nat.zero_add]; exact (eM_set e14)) dX6_pourNow_70 ?_
      refine j_aload_n C0 dX6_pourNow_71 rfl 0 rfl ?_
      refine j_iload_n C0 dX6_pourNow_72 rfl 1 rfl ?_
      refine j_bipush (v := 10) C0 dX6_pourNow_73 rfl ?_
      refine j_iload_n C0 dX6_pourNow_75 rfl 2 rfl ?_
      obtain ⟨q15, hcq15, hf⟩ := bd_some hf
      refine j_callS (As := [.int x2]) (rest := [.int (10 : Int32), .int x1, .ref (ad (14, 0, 0))]) (stk := [.int q15, .int (10 : Int32), .int x1, .ref (ad (14, 0, 0))]) (G2 := (Cc, Bb, M13)) C0 (c_X6_jug hi (G0 := (Cc, Bb, M13))  hcq15) kw_X6_129 bi_X6_jug rfl ⟨by decide, by decide⟩ ⟨Nat.zero_le _, Nat.zero_le _⟩ rfl rfl (Nat.le_of_ble_eq_true rfl) rfl rfl dX6_pourNow_76 ?_
      obtain ⟨q16, hcq16, hf⟩ := bd_some hf
      refine j_callV (As := [.int x1, .int (10 : Int32), .int q15]) (rest := []) (stk := []) (G2 := (Cc, Bb, q16)) C0 (c_X6_add hi (Cc := Cc) (Bb := Bb)  hcq16) kw_X6_80 bi_X6_add bx_X6_add id_c14 oc_14 rfl ⟨by decide, by decide⟩ ⟨Nat.zero_le _, Nat.zero_le _⟩ rfl rfl (Nat.le_of_ble_eq_true rfl) rfl rfl dX6_pourNow_79 ?_
      refine j_aload_n C0 dX6_pourNow_82 rfl 0 rfl ?_
      refine j_iload_n C0 dX6_pourNow_83 rfl 1 rfl ?_
      refine j_iload_n C0 dX6_pourNow_84 rfl 2 rfl ?_
      obtain ⟨q17, hcq17, hf⟩ := bd_some hf
      refine j_callS (As := [.int x2]) (rest := [.int x1, .ref (ad (14, 0, 0))]) (stk := [.int q17, .int x1, .ref (ad (14, 0, 0))]) (G2 := (Cc, Bb, q16)) C0 (c_X6_jug hi (G0 := (Cc, Bb, q16))  hcq17) kw_X6_129 bi_X6_jug rfl ⟨by decide, by decide⟩ ⟨Nat.zero_le _, Nat.zero_le _⟩ rfl rfl (Nat.le_of_ble_eq_true rfl) rfl rfl dX6_pourNow_85 ?_
      obtain ⟨q18, hcq18, hf⟩ := bd_some hf
      refine j_callV (As := [.int x1, .int q17]) (rest := []) (stk := [.int q18.1]) (G2 := (Cc, Bb, q18.2)) C0 (c_X6_fill hi (Cc := Cc) (Bb := Bb)  hcq18) kw_X6_83 bi_X6_fill bx_X6_fill id_c14 oc_14 rfl ⟨by decide, by decide⟩ ⟨Nat.zero_le _, Nat.zero_le _⟩ rfl rfl (Nat.le_of_ble_eq_true rfl) rfl rfl dX6_pourNow_88 ?_
      exact j_iret C0 hr dX6_pourNow_91 (pr1 hf) (congrArg (fun z => (Cc, Bb, z)) (pr2 hf))
    have hf := if_f c6 hf
    refine j_ldc (v := -1000002) C0 dX6_pourNow_29 cw_X6_128 ?_
    exact j_iret C0 hr dX6_pourNow_31 (pr1 hf) (congrArg (fun z => (Cc, Bb, z)) (pr2 hf))
  have hf := if_t c4 hf
  refine j_ldc (v := -1000001) C0 dX6_pourNow_17 cw_X6_35 ?_
  exact j_iret C0 hr dX6_pourNow_19 (pr1 hf) (congrArg (fun z => (Cc, Bb, z)) (pr2 hf))

set_option maxHeartbeats 4000000 in
set_option maxRecDepth 100000 in
theorem c_X6_waxNow {l : Launch} {D : va_G} {ca : Nat → ClassId} {ad : I3 → Nat} (hi : adI ad) {Cc : Nat → Nat → Int32} {Bb : Nat → Fin 9} {M : Nat → Nat → Int32} {x1 : Int32} {x2 : Int32} {r0 : Int32} {M' : Nat → Nat → Int32}  (hf : fM_waxNow M x1 x2 = some (r0, M')) : MT l D ca ad yX6_waxNow cX6_waxNow 3 (some .int) 2 43 [.ref (ad (14, 0, 0)), .int x1, .int x2] (Cc, Bb, M) (some (.int r0)) (Cc, Bb, M') := by
  refine met_J (lv := [(0, .ref (ad (14, 0, 0))), (1, .int x1), (2, .int x2)]) hi (by decide +kernel) (Nat.le_of_ble_eq_true rfl) rfl (fun p e s m below meth c C0 hr => ?_)
  unfold fM_waxNow at hf
  refine j_aload_n C0 dX6_waxNow_0 rfl 0 rfl ?_
  refine j_iload_n C0 dX6_waxNow_1 rfl 1 rfl ?_
  obtain ⟨q1, hcq1, hf⟩ := bd_some hf
  refine j_callV (As := [.int x1]) (rest := []) (stk := [.int q1]) (G2 := (Cc, Bb, M)) C0 (c_X6_isClock hi (Cc := Cc) (Bb := Bb)  hcq1) kw_X6_125 bi_X6_isClock bx_X6_isClock id_c14 oc_14 rfl ⟨by decide, by decide⟩ ⟨Nat.zero_le _, Nat.zero_le _⟩ rfl rfl (Nat.le_of_ble_eq_true rfl) rfl rfl dX6_waxNow_2 ?_
  refine j_if_eq (tgt := 18) C0 dX6_waxNow_5 (by decide) (fun c2 => ?_) (fun c2 => ?_)
  · have hf := if_t c2 hf
    refine j_ldc (v := -1000001) C0 dX6_waxNow_18 cw_X6_35 ?_
    exact j_iret C0 hr dX6_waxNow_20 (pr1 hf) (congrArg (fun z => (Cc, Bb, z)) (pr2 hf))
  have hf := if_f c2 hf
  refine j_iload_n C0 dX6_waxNow_8 rfl 2 rfl ?_
  refine j_iconst (v := 1) C0 dX6_waxNow_9 rfl ?_
  refine j_bipush (v := 59) C0 dX6_waxNow_10 rfl ?_
  obtain ⟨q3, hcq3, hf⟩ := bd_some hf
  refine j_callS (As := [.int x2, .int (1 : Int32), .int (59 : Int32)]) (rest := []) (stk := [.int q3]) (G2 := (Cc, Bb, M)) C0 (c_X6_in hi (G0 := (Cc, Bb, M))  hcq3) kw_X6_36 bi_X6_in rfl ⟨by decide, by decide⟩ ⟨Nat.zero_le _, Nat.zero_le _⟩ rfl rfl (Nat.le_of_ble_eq_true rfl) rfl rfl dX6_waxNow_12 ?_
  refine j_if_ne (tgt := 21) C0 dX6_waxNow_15 (by decide) (fun c4 => ?_) (fun c4 => ?_)
  · have hf := if_f c4 hf
    refine j_aload_n C0 dX6_waxNow_21 rfl 0 rfl ?_
    refine j_iload_n C0 dX6_waxNow_22 rfl 1 rfl ?_
    refine j_iconst (v := 1) C0 dX6_waxNow_23 rfl ?_
    obtain ⟨q5, hcq5, hf⟩ := bd_some hf
    refine j_callV (As := [.int x1, .int (1 : Int32)]) (rest := []) (stk := [.int q5]) (G2 := (Cc, Bb, M)) C0 (c_X6_of hi (Cc := Cc) (Bb := Bb)  hcq5) kw_X6_48 bi_X6_of bx_X6_of id_c14 oc_14 rfl ⟨by decide, by decide⟩ ⟨Nat.zero_le _, Nat.zero_le _⟩ rfl rfl (Nat.le_of_ble_eq_true rfl) rfl rfl dX6_waxNow_24 ?_
    refine j_iload_n C0 dX6_waxNow_27 rfl 2 rfl ?_
    refine j_isub C0 dX6_waxNow_28 ?_
    refine j_iconst (v := 1) C0 dX6_waxNow_29 rfl ?_
    refine j_icmp_ge (tgt := 36) C0 dX6_waxNow_30 (by decide) (fun c6 => ?_) (fun c6 => ?_)
    · have hf := if_t c6 hf
      refine j_aload_n C0 dX6_waxNow_36 rfl 0 rfl ?_
      refine j_iload_n C0 dX6_waxNow_37 rfl 1 rfl ?_
      refine j_iconst (v := 1) C0 dX6_waxNow_38 rfl ?_
      refine j_iload_n C0 dX6_waxNow_39 rfl 2 rfl ?_
      refine j_ineg C0 dX6_waxNow_40 ?_
      obtain ⟨q7, hcq7, hf⟩ := bd_some hf
      refine j_callV (As := [.int x1, .int (1 : Int32), .int (-x2)]) (rest := []) (stk := []) (G2 := (Cc, Bb, q7)) C0 (c_X6_add hi (Cc := Cc) (Bb := Bb)  hcq7) kw_X6_80 bi_X6_add bx_X6_add id_c14 oc_14 rfl ⟨by decide, by decide⟩ ⟨Nat.zero_le _, Nat.zero_le _⟩ rfl rfl (Nat.le_of_ble_eq_true rfl) rfl rfl dX6_waxNow_41 ?_
      refine j_aload_n C0 dX6_waxNow_44 rfl 0 rfl ?_
      refine j_iload_n C0 dX6_waxNow_45 rfl 1 rfl ?_
      refine j_iconst (v := 1) C0 dX6_waxNow_46 rfl ?_
      obtain ⟨q8, hcq8, hf⟩ := bd_some hf
      refine j_callV (As := [.int x1, .int (1 : Int32)]) (rest := []) (stk := [.int q8]) (G2 := (Cc, Bb, q7)) C0 (c_X6_of hi (Cc := Cc) (Bb := Bb)  hcq8) kw_X6_48 bi_X6_of bx_X6_of id_c14 oc_14 rfl ⟨by decide, by decide⟩ ⟨Nat.zero_le _, Nat.zero_le _⟩ rfl rfl (Nat.le_of_ble_eq_true rfl) rfl rfl dX6_waxNow_47 ?_
      exact j_iret C0 hr dX6_waxNow_50 (pr1 hf) (congrArg (fun z => (Cc, Bb, z)) (pr2 hf))
    have hf := if_f c6 hf
    refine j_ldc (v := -1000002) C0 dX6_waxNow_33 cw_X6_128 ?_
    exact j_iret C0 hr dX6_waxNow_35 (pr1 hf) (congrArg (fun z => (Cc, Bb, z)) (pr2 hf))
  have hf := if_t c4 hf
  refine j_ldc (v := -1000001) C0 dX6_waxNow_18 cw_X6_35 ?_
  exact j_iret C0 hr dX6_waxNow_20 (pr1 hf) (congrArg (fun z => (Cc, Bb, z)) (pr2 hf))

set_option maxHeartbeats 4000000 in
set_option maxRecDepth 100000 in
theorem c_X6_pitchNow {l : Launch} {D : va_G} {ca : Nat → ClassId} {ad : I3 → Nat} (hi : adI ad) {Cc : Nat → Nat → Int32} {Bb : Nat → Fin 9} {M : Nat → Nat → Int32} {x1 : Int32} {x2 : Int32} {r0 : Int32} {M' : Nat → Nat → Int32}  (hf : fM_pitchNow M x1 x2 = some (r0, M')) : MT l D ca ad yX6_pitchNow cX6_pitchNow 4 (some .int) 4 86 [.ref (ad (14, 0, 0)), .int x1, .int x2] (Cc, Bb, M) (some (.int r0)) (Cc, Bb, M') := by
  refine met_J (lv := [(0, .ref (ad (14, 0, 0))), (1, .int x1), (2, .int x2)]) hi (by decide +kernel) (Nat.le_of_ble_eq_true rfl) rfl (fun p e s m below meth c C0 hr => ?_)
  unfold fM_pitchNow at hf
  refine j_aload_n C0 dX6_pitchNow_0 rfl 0 rfl ?_
  refine j_iload_n C0 dX6_pitchNow_1 rfl 1 rfl ?_
  obtain ⟨q1, hcq1, hf⟩ := bd_some hf
  refine j_callV (As := [.int x1]) (rest := []) (stk := [.int q1]) (G2 := (Cc, Bb, M)) C0 (c_X6_isClock hi (Cc := Cc) (Bb := Bb)  hcq1) kw_X6_125 bi_X6_isClock bx_X6_isClock id_c14 oc_14 rfl ⟨by decide, by decide⟩ ⟨Nat.zero_le _, Nat.zero_le _⟩ rfl rfl (Nat.le_of_ble_eq_true rfl) rfl rfl dX6_pitchNow_2 ?_
  refine j_if_eq (tgt := 19) C0 dX6_pitchNow_5 (by decide) (fun c2 => ?_) (fun c2 => ?_)
  · have hf := if_t c2 hf
    refine j_ldc (v := -1000001) C0 dX6_pitchNow_19 cw_X6_35 ?_
    exact j_iret C0 hr dX6_pitchNow_21 (pr1 hf) (congrArg (fun z => (Cc, Bb, z)) (pr2 hf))
  have hf := if_f c2 hf
  refine j_iload_n C0 dX6_pitchNow_8 rfl 2 rfl ?_
  refine j_iconst (v := 1) C0 dX6_pitchNow_9 rfl ?_
  refine j_sipush (v := 500) C0 dX6_pitchNow_10 rfl ?_
  obtain ⟨q3, hcq3, hf⟩ := bd_some hf
  refine j_callS (As := [.int x2, .int (1 : Int32), .int (500 : Int32)]) (rest := []) (stk := [.int q3]) (G2 := (Cc, Bb, M)) C0 (c_X6_in hi (G0 := (Cc, Bb, M))  hcq3) kw_X6_36 bi_X6_in rfl ⟨by decide, by decide⟩ ⟨Nat.zero_le _, Nat.zero_le _⟩ rfl rfl (Nat.le_of_ble_eq_true rfl) rfl rfl dX6_pitchNow_13 ?_
  refine j_if_ne (tgt := 22) C0 dX6_pitchNow_16 (by decide) (fun c4 => ?_) (fun c4 => ?_)
  · have hf := if_f c4 hf
    refine j_aload_n C0 dX6_pitchNow_22 rfl 0 rfl ?_
    refine j_iload_n C0 dX6_pitchNow_23 rfl 1 rfl ?_
    refine j_iconst (v := 2) C0 dX6_pitchNow_24 rfl ?_
    obtain ⟨q5, hcq5, hf⟩ := bd_some hf
    refine j_callV (As := [.int x1, .int (2 : Int32)]) (rest := []) (stk := [.int q5]) (G2 := (Cc, Bb, M)) C0 (c_X6_of hi (Cc := Cc) (Bb := Bb)  hcq5) kw_X6_48 bi_X6_of bx_X6_of id_c14 oc_14 rfl ⟨by decide, by decide⟩ ⟨Nat.zero_le _, Nat.zero_le _⟩ rfl rfl (Nat.le_of_ble_eq_true rfl) rfl rfl dX6_pitchNow_25 ?_
    refine j_istore_n (lv' := [(3, .int q5), (0, .ref (ad (14, 0, 0))), (1, .int x1), (2, .int x2)]) C0 dX6_pitchNow_28 rfl (by decide) rfl ?_
    refine j_aload_n C0 dX6_pitchNow_29 rfl 1 rfl ?_
    refine j_iload_n C0 dX6_pitchNow_30 rfl 2 rfl ?_
    refine j_iconst (v := 2) C0 dX6_pitchNow_31 rfl ?_
    refine j_iload_n C0 dX6_pitchNow_32 rfl 3 rfl ?_
    obtain ⟨q6, hcq6, hf⟩ := bd_some hf
    refine j_callV (As := [.int x1, .int (2 : Int32), .int x2]) (rest := []) (stk := []) (G2 := (Cc, Bb, q6)) C0 (c_X6_put hi (Cc := Cc) (Bb := Bb)  hcq6) kw_X6_72 bi_X6_put bx_X6_put id_c14 oc_14 rfl ⟨by decide, by decide⟩ ⟨Nat.zero_le _, Nat.zero_le _⟩ rfl rfl (Nat.le_of_ble_eq_true rfl) rfl rfl dX6_pitchNow_33 ?_
    refine j_aload_n C0 dX6_pitchNow_36 rfl 1 rfl ?_
    refine j_iload_n C0 dX6_pitchNow_37 rfl 2 rfl ?_
    obtain ⟨q7, hcq7, hf⟩ := bd_some hf
    refine j_callV (As := [.int x1]) (rest := []) (stk := []) (G2 := (Cc, Bb, q7)) C0 (c_X6_makeTrue hi (Cc := Cc) (Bb := Bb)  hcq7) kw_X6_105 bi_X6_makeTrue bx_X6_makeTrue id_c14 oc_14 rfl ⟨by decide, by decide⟩ ⟨Nat.zero_le _, Nat.zero_le _⟩ rfl rfl (Nat.le_of_ble_eq_true rfl) rfl rfl dX6_pitchNow_38 ?_
    refine j_iload_n C0 dX6_pitchNow_41 rfl 0 rfl ?_
    exact j_iret C0 hr dX6_pitchNow_42 (pr1 hf) (congrArg (fun z => (Cc, Bb, z)) (pr2 hf))
  have hf := if_t c4 hf
  refine j_ldc (v := -1000001) C0 dX6_pitchNow_19 cw_X6_35 ?_
  exact j_iret C0 hr dX6_pitchNow_21 (pr1 hf) (congrArg (fun z => (Cc, Bb, z)) (pr2 hf))

set_option maxHeartbeats 4000000 in
set_option maxRecDepth 100000 in
theorem c_X6_trueNow {l : Launch} {D : va_G} {ca : Nat → ClassId} {ad : I3 → Nat} (hi : adI ad) {Cc : Nat → Nat → Int32} {Bb : Nat → Fin 9} {M : Nat → Nat → Int32} {x1 : Int32} {r0 : Int32} {M' : Nat → Nat → Int32}  (hf : fM_trueNow M x1 = some (r0, M')) : MT l D ca ad yX6_trueNow cX6_trueNow 3 (some .int) 4 86 [.ref (ad (14, 0, 0)), .int x1] (Cc, Bb, M) (some (.int r0)) (Cc, Bb, M') := by
  refine met_J (lv := [(0, .ref (ad (14, 0, 0))), (1, .int x1)]) hi (by decide +kernel) (Nat.le_of_ble_eq_true rfl) rfl (fun p e s m below meth c C0 hr => ?_)
  unfold fM_trueNow at hf
  refine j_aload_n C0 dX6_trueNow_0 rfl 0 rfl ?_
  refine j_iload_n C0 dX6_trueNow_1 rfl 1 rfl ?_
  obtain ⟨q1, hcq1, hf⟩ := bd_some hf
  refine j_callV (As := [.int x1]) (rest := []) (stk := [.int q1]) (G2 := (Cc, Bb, M)) C0 (c_X6_isClock hi (Cc := Cc) (Bb := Bb)  hcq1) kw_X6_125 bi_X6_isClock bx_X6_isClock id_c14 oc_14 rfl ⟨by decide, by decide⟩ ⟨Nat.zero_le _, Nat.zero_le _⟩ rfl rfl (Nat.le_of_ble_eq_true rfl) rfl rfl dX6_trueNow_2 ?_
  refine j_if_ne (tgt := 11) C0 dX6_trueNow_5 (by decide) (fun c2 => ?_) (fun c2 => ?_)
  · have hf := if_f c2 hf
    refine j_aload_n C0 dX6_trueNow_11 rfl 0 rfl ?_
    refine j_iload_n C0 dX6_trueNow_12 rfl 1 rfl ?_
    obtain ⟨q3, hcq3, hf⟩ := bd_some hf
    refine j_callV (As := [.int x1]) (rest := []) (stk := [.int q3]) (G2 := (Cc, Bb, M)) C0 (c_X6_error hi (Cc := Cc) (Bb := Bb)  hcq3) kw_X6_66 bi_X6_error bx_X6_error id_c14 oc_14 rfl ⟨by decide, by decide⟩ ⟨Nat.zero_le _, Nat.zero_le _⟩ rfl rfl (Nat.le_of_ble_eq_true rfl) rfl rfl dX6_trueNow_13 ?_
    refine j_sipush (v := 10000) C0 dX6_trueNow_16 rfl ?_
    refine j_iadd C0 dX6_trueNow_19 ?_
    refine j_istore_n (lv' := [(2, .int (q3 + (10000 : Int32))), (0, .ref (ad (14, 0, 0))), (1, .int x1)]) C0 dX6_trueNow_20 rfl (by decide) rfl ?_
    refine j_aload_n C0 dX6_trueNow_21 rfl 1 rfl ?_
    refine j_iload_n C0 dX6_trueNow_22 rfl 2 rfl ?_
    obtain ⟨q4, hcq4, hf⟩ := bd_some hf
    refine j_callV (As := [.int x1]) (rest := []) (stk := []) (G2 := (Cc, Bb, q4)) C0 (c_X6_makeTrue hi (Cc := Cc) (Bb := Bb)  hcq4) kw_X6_105 bi_X6_makeTrue bx_X6_makeTrue id_c14 oc_14 rfl ⟨by decide, by decide⟩ ⟨Nat.zero_le _, Nat.zero_le _⟩ rfl rfl (Nat.le_of_ble_eq_true rfl) rfl rfl dX6_trueNow_23 ?_
    refine j_iload_n C0 dX6_trueNow_26 rfl 0 rfl ?_
    exact j_iret C0 hr dX6_trueNow_27 (pr1 hf) (congrArg (fun z => (Cc, Bb, z)) (pr2 hf))
  have hf := if_t c2 hf
  refine j_ldc (v := -1000001) C0 dX6_trueNow_8 cw_X6_35 ?_
  exact j_iret C0 hr dX6_trueNow_10 (pr1 hf) (congrArg (fun z => (Cc, Bb, z)) (pr2 hf))

set_option maxHeartbeats 4000000 in
set_option maxRecDepth 100000 in
theorem c_X6_ticksNow {l : Launch} {D : va_G} {ca : Nat → ClassId} {ad : I3 → Nat} (hi : adI ad) {Cc : Nat → Nat → Int32} {Bb : Nat → Fin 9} {M : Nat → Nat → Int32} {x1 : Int32} {r0 : Int32} {M' : Nat → Nat → Int32}  (hf : fM_ticksNow M x1 = some (r0, M')) : MT l D ca ad yX6_ticksNow cX6_ticksNow 4 (some .int) 7 157 [.ref (ad (14, 0, 0)), .int x1] (Cc, Bb, M) (some (.int r0)) (Cc, Bb, M') := by
  refine met_J (lv := [(0, .ref (ad (14, 0, 0))), (1, .int x1)]) hi (by decide +kernel) (Nat.le_of_ble_eq_true rfl) rfl (fun p e s m below meth c C0 hr => ?_)
  have L35 : ∀ (n : Nat) (M : Nat → Nat → Int32) (y1 : Int32) (y2 : Int32) (y3 : Int32), fM_ticksNow_L35 n M y1 y2 y3 = some (r0, M') → J D ca ad p l e ({ frames := 7, cells := 0, slots := 0, locals := 157 }) s m [.ref (ad (14, 0, 0)), .int x1].toArray below meth c 0 0 (MQ below (post D ca ad (some (.int r0)) (Cc, Bb, M')) [.ref (ad (14, 0, 0)), .int x1].toArray s 0 0 (adA ad)) 4 (Cc, Bb, M) 35 [(0, .ref (ad (14, 0, 0))), (1, .int y1), (2, .int y2), (3, .int y3)] [] := by
    intro n
    induction n with
    | zero =>
      intro M y1 y2 y3 hf
      exact (none_ne hf).elim
    | succ n ih =>
      intro M y1 y2 y3 hf
      rw [fM_ticksNow_L35] at hf
      refine j_iload_n C0 dX6_ticksNow_35 rfl 3 rfl ?_
      refine j_iload_n C0 dX6_ticksNow_36 rfl 1 rfl ?_
      refine j_icmp_ge (tgt := 53) C0 dX6_ticksNow_37 (by decide) (fun c4 => ?_) (fun c4 => ?_)
      · have hf := if_t c4 hf
        refine j_iload_n C0 dX6_ticksNow_53 rfl 2 rfl ?_
        exact j_iret C0 hr dX6_ticksNow_54 (pr1 hf) (congrArg (fun z => (Cc, Bb, z)) (pr2 hf))
      have hf := if_f c4 hf
      refine j_iload_n C0 dX6_ticksNow_40 rfl 2 rfl ?_
      refine j_aload_n C0 dX6_ticksNow_41 rfl 0 rfl ?_
      obtain ⟨q5, hcq5, hf⟩ := bd_some hf
      refine j_callV (As := []) (rest := [.int y2]) (stk := [.int q5.1, .int y2]) (G2 := (Cc, Bb, q5.2)) C0 (c_X6_tick hi (Cc := Cc) (Bb := Bb)  hcq5) kw_X6_136 bi_X6_tick bx_X6_tick id_c14 oc_14 rfl ⟨by decide, by decide⟩ ⟨Nat.zero_le _, Nat.zero_le _⟩ rfl rfl (Nat.le_of_ble_eq_true rfl) rfl rfl dX6_ticksNow_42 ?_
      refine j_iadd C0 dX6_ticksNow_45 ?_
      refine j_istore_n (lv' := [(2, .int (y2 + q5.1)), (0, .ref (ad (14, 0, 0))), (1, .int y1), (3, .int y3)]) C0 dX6_ticksNow_46 rfl (by decide) rfl ?_
      refine j_iinc (v := (y3 + 1)) (lv' := [(3, .int (y3 + 1)), (2, .int (y2 + q5.1)), (0, .ref (ad (14, 0, 0))), (1, .int y1)]) C0 dX6_ticksNow_47 3 rfl rfl (by decide) rfl ?_
      refine j_goto (tgt := 35) C0 dX6_ticksNow_50 (by decide) ?_
      exact j_sub [2, 3, 1, 0] rfl (ih q5.2 y1 (y2 + q5.1) (y3 + 1) hf)
  unfold fM_ticksNow at hf
  refine j_iload_n C0 dX6_ticksNow_0 rfl 1 rfl ?_
  refine j_iconst (v := 1) C0 dX6_ticksNow_1 rfl ?_
  refine j_sipush (v := 999) C0 dX6_ticksNow_2 rfl ?_
  obtain ⟨q1, hcq1, hf⟩ := bd_some hf
  refine j_callS (As := [.int x1, .int (1 : Int32), .int (999 : Int32)]) (rest := []) (stk := [.int q1]) (G2 := (Cc, Bb, M)) C0 (c_X6_in hi (G0 := (Cc, Bb, M))  hcq1) kw_X6_36 bi_X6_in rfl ⟨by decide, by decide⟩ ⟨Nat.zero_le _, Nat.zero_le _⟩ rfl rfl (Nat.le_of_ble_eq_true rfl) rfl rfl dX6_ticksNow_5 ?_
  refine j_if_ne (tgt := 14) C0 dX6_ticksNow_8 (by decide) (fun c2 => ?_) (fun c2 => ?_)
  · have hf := if_f c2 hf
    refine j_aload_n C0 dX6_ticksNow_14 rfl 0 rfl ?_
    refine j_getr (id2 := (15, 0, 0)) C0 fl_X6_7 rl_6_0 id_c14 dX6_ticksNow_15 ?_
    refine j_bipush (v := 6) C0 dX6_ticksNow_18 rfl ?_
    refine j_iald (x := (M 0 6)) C0 al_15_0 rfl id_m0 (by decide) (by rw [Nat.zero_add]; rfl) dX6_ticksNow_20 ?_
    refine j_iload_n C0 dX6_ticksNow_21 rfl 1 rfl ?_
    refine j_iadd C0 dX6_ticksNow_22 ?_
    refine j_ldc (v := 99999) C0 dX6_ticksNow_23 cw_X6_135 ?_
    refine j_icmp_le (tgt := 31) C0 dX6_ticksNow_25 (by decide) (fun c3 => ?_) (fun c3 => ?_)
    · have hf := if_t c3 hf
      refine j_iconst (v := 0) C0 dX6_ticksNow_31 rfl ?_
      refine j_istore_n (lv' := [(2, .int (0 : Int32)), (0, .ref (ad (14, 0, 0))), (1, .int x1)]) C0 dX6_ticksNow_32 rfl (by decide) rfl ?_
      refine j_iconst (v := 0) C0 dX6_ticksNow_33 rfl ?_
      refine j_istore_n (lv' := [(3, .int (0 : Int32)), (2, .int (0 : Int32)), (0, .ref (ad (14, 0, 0))), (1, .int x1)]) C0 dX6_ticksNow_34 rfl (by decide) rfl ?_
      exact j_sub [2, 3, 1, 0] rfl (L35 fuel M x1 (0 : Int32) (0 : Int32) hf)
    have hf := if_f c3 hf
    refine j_ldc (v := -1000003) C0 dX6_ticksNow_28 cw_X6_124 ?_
    exact j_iret C0 hr dX6_ticksNow_30 (pr1 hf) (congrArg (fun z => (Cc, Bb, z)) (pr2 hf))
  have hf := if_t c2 hf
  refine j_ldc (v := -1000001) C0 dX6_ticksNow_11 cw_X6_35 ?_
  exact j_iret C0 hr dX6_ticksNow_13 (pr1 hf) (congrArg (fun z => (Cc, Bb, z)) (pr2 hf))

set_option maxHeartbeats 4000000 in
set_option maxRecDepth 100000 in
theorem c_X6_maySet {l : Launch} {D : va_G} {ca : Nat → ClassId} {ad : I3 → Nat} (hi : adI ad) {G0 : GS} {x1 : Int32} {x2 : Int32} {r0 : Int32}  (hf : fM_maySet x1 x2 = some (r0)) : MT l D ca ad yX6_maySet cX6_maySet 2 (some .boolean) 1 22 [.int x1, .int x2] G0 (some (.int r0)) G0 := by
  refine met_J (lv := [(0, .int x1), (1, .int x2)]) hi (by decide +kernel) (Nat.le_of_ble_eq_true rfl) rfl (fun p e s m below meth c C0 hr => ?_)
  unfold fM_maySet at hf
  refine j_iload_n C0 dX6_maySet_0 rfl 0 rfl ?_
  by_cases c1 : (x1.toInt < 0 ∨ 4 < x1.toInt)
  · have hf := if_t c1 hf
    refine j_tableOut (tgt := 83) C0 dX6_maySet_1 c1 (by decide) ?_
    refine j_iload_n C0 dX6_maySet_83 rfl 0 rfl ?_
    refine j_iconst (v := 5) C0 dX6_maySet_84 rfl ?_
    refine j_icmp_ne (tgt := 101) C0 dX6_maySet_85 (by decide) (fun c2 => ?_) (fun c2 => ?_)
    · have hf := if_f c2 hf
      refine j_iconst (v := 0) C0 dX6_maySet_101 rfl ?_
      exact j_zret C0 hr rfl dX6_maySet_102 (so hf) rfl
    have hf := if_t c2 hf
    refine j_iload_n C0 dX6_maySet_88 rfl 1 rfl ?_
    refine j_iconst (v := 0) C0 dX6_maySet_89 rfl ?_
    refine j_iconst (v := 1) C0 dX6_maySet_90 rfl ?_
    obtain ⟨q3, hcq3, hf⟩ := bd_some hf
    refine j_callS (As := [.int x2, .int (0 : Int32), .int (1 : Int32)]) (rest := []) (stk := [.int q3]) (G2 := G0) C0 (c_X6_in hi (G0 := G0)  hcq3) kw_X6_36 bi_X6_in rfl ⟨by decide, by decide⟩ ⟨Nat.zero_le _, Nat.zero_le _⟩ rfl rfl (Nat.le_of_ble_eq_true rfl) rfl rfl dX6_maySet_91 ?_
    refine j_if_eq (tgt := 101) C0 dX6_maySet_94 (by decide) (fun c4 => ?_) (fun c4 => ?_)
    · have hf := if_t c4 hf
      refine j_iconst (v := 0) C0 dX6_maySet_101 rfl ?_
      exact j_zret C0 hr rfl dX6_maySet_102 (so hf) rfl
    have hf := if_f c4 hf
    refine j_iconst (v := 1) C0 dX6_maySet_97 rfl ?_
    refine j_goto (tgt := 102) C0 dX6_maySet_98 (by decide) ?_
    exact j_zret C0 hr rfl dX6_maySet_102 (so hf) rfl
  have hf := if_f c1 hf
  by_cases c5 : x1 = 0
  · have hf := if_t c5 hf
    refine j_tableEq C0 0 (tgt := 36) c5 dX6_maySet_1 (by decide) (by decide) rfl (by decide) ?_
    refine j_iload_n C0 dX6_maySet_36 rfl 1 rfl ?_
    refine j_sipush (v := 500) C0 dX6_maySet_37 rfl ?_
    refine j_sipush (v := 5000) C0 dX6_maySet_40 rfl ?_
    obtain ⟨q6, hcq6, hf⟩ := bd_some hf
    refine j_callS (As := [.int x2, .int (500 : Int32), .int (5000 : Int32)]) (rest := []) (stk := [.int q6]) (G2 := G0) C0 (c_X6_in hi (G0 := G0)  hcq6) kw_X6_36 bi_X6_in rfl ⟨by decide, by decide⟩ ⟨Nat.zero_le _, Nat.zero_le _⟩ rfl rfl (Nat.le_of_ble_eq_true rfl) rfl rfl dX6_maySet_43 ?_
    obtain ⟨h7, hf⟩ := gd_some hf
    exact j_zret C0 hr (isZ_eq h7) dX6_maySet_46 (so hf) rfl
  have hf := if_f c5 hf
  by_cases c8 : x1 = 1
  · have hf := if_t c8 hf
    refine j_tableEq C0 1 (tgt := 47) c8 dX6_maySet_1 (by decide) (by decide) rfl (by decide) ?_
    refine j_iload_n C0 dX6_maySet_47 rfl 1 rfl ?_
    refine j_bipush (v := 20) C0 dX6_maySet_48 rfl ?_
    refine j_sipush (v := 900) C0 dX6_maySet_50 rfl ?_
    obtain ⟨q9, hcq9, hf⟩ := bd_some hf
    refine j_callS (As := [.int x2, .int (20 : Int32), .int (900 : Int32)]) (rest := []) (stk := [.int q9]) (G2 := G0) C0 (c_X6_in hi (G0 := G0)  hcq9) kw_X6_36 bi_X6_in rfl ⟨by decide, by decide⟩ ⟨Nat.zero_le _, Nat.zero_le _⟩ rfl rfl (Nat.le_of_ble_eq_true rfl) rfl rfl dX6_maySet_53 ?_
    obtain ⟨h10, hf⟩ := gd_some hf
    exact j_zret C0 hr (isZ_eq h10) dX6_maySet_56 (so hf) rfl
  have hf := if_f c8 hf
  by_cases c11 : x1 = 2
  · have hf := if_t c11 hf
    refine j_tableEq C0 2 (tgt := 57) c11 dX6_maySet_1 (by decide) (by decide) rfl (by decide) ?_
    refine j_iload_n C0 dX6_maySet_57 rfl 1 rfl ?_
    refine j_bipush (v := 50) C0 dX6_maySet_58 rfl ?_
    refine j_sipush (v := 5000) C0 dX6_maySet_60 rfl ?_
    obtain ⟨q12, hcq12, hf⟩ := bd_some hf
    refine j_callS (As := [.int x2, .int (50 : Int32), .int (5000 : Int32)]) (rest := []) (stk := [.int q12]) (G2 := G0) C0 (c_X6_in hi (G0 := G0)  hcq12) kw_X6_36 bi_X6_in rfl ⟨by decide, by decide⟩ ⟨Nat.zero_le _, Nat.zero_le _⟩ rfl rfl (Nat.le_of_ble_eq_true rfl) rfl rfl dX6_maySet_63 ?_
    obtain ⟨h13, hf⟩ := gd_some hf
    exact j_zret C0 hr (isZ_eq h13) dX6_maySet_66 (so hf) rfl
  have hf := if_f c11 hf
  by_cases c14 : x1 = 3
  · have hf := if_t c14 hf
    refine j_tableEq C0 3 (tgt := 67) c14 dX6_maySet_1 (by decide) (by decide) rfl (by decide) ?_
    refine j_iload_n C0 dX6_maySet_67 rfl 1 rfl ?_
    refine j_iconst (v := 1) C0 dX6_maySet_68 rfl ?_
    refine j_bipush (v := 30) C0 dX6_maySet_69 rfl ?_
    obtain ⟨q15, hcq15, hf⟩ := bd_some hf
    refine j_callS (As := [.int x2, .int (1 : Int32), .int (30 : Int32)]) (rest := []) (stk := [.int q15]) (G2 := G0) C0 (c_X6_in hi (G0 := G0)  hcq15) kw_X6_36 bi_X6_in rfl ⟨by decide, by decide⟩ ⟨Nat.zero_le _, Nat.zero_le _⟩ rfl rfl (Nat.le_of_ble_eq_true rfl) rfl rfl dX6_maySet_71 ?_
    obtain ⟨h16, hf⟩ := gd_some hf
    exact j_zret C0 hr (isZ_eq h16) dX6_maySet_74 (so hf) rfl
  have hf := if_f c14 hf
  by_cases c17 : x1 = 4
  · have hf := if_t c17 hf
    refine j_tableEq C0 4 (tgt := 75) c17 dX6_maySet_1 (by decide) (by decide) rfl (by decide) ?_
    refine j_iload_n C0 dX6_maySet_75 rfl 1 rfl ?_
    refine j_iconst (v := 0) C0 dX6_maySet_76 rfl ?_
    refine j_bipush (v := 12) C0 dX6_maySet_77 rfl ?_
    obtain ⟨q18, hcq18, hf⟩ := bd_some hf
    refine j_callS (As := [.int x2, .int (0 : Int32), .int (12 : Int32)]) (rest := []) (stk := [.int q18]) (G2 := G0) C0 (c_X6_in hi (G0 := G0)  hcq18) kw_X6_36 bi_X6_in rfl ⟨by decide, by decide⟩ ⟨Nat.zero_le _, Nat.zero_le _⟩ rfl rfl (Nat.le_of_ble_eq_true rfl) rfl rfl dX6_maySet_79 ?_
    obtain ⟨h19, hf⟩ := gd_some hf
    exact j_zret C0 hr (isZ_eq h19) dX6_maySet_82 (so hf) rfl
  have hf := if_f c17 hf
  exact (none_ne hf).elim

set_option maxHeartbeats 4000000 in
set_option maxRecDepth 100000 in
theorem c_X6_setNow {l : Launch} {D : va_G} {ca : Nat → ClassId} {ad : I3 → Nat} (hi : adI ad) {Cc : Nat → Nat → Int32} {Bb : Nat → Fin 9} {M : Nat → Nat → Int32} {x1 : Int32} {x2 : Int32} {r0 : Int32} {M' : Nat → Nat → Int32}  (hf : fM_setNow M x1 x2 = some (r0, M')) : MT l D ca ad yX6_setNow cX6_setNow 4 (some .int) 2 43 [.ref (ad (14, 0, 0)), .int x1, .int x2] (Cc, Bb, M) (some (.int r0)) (Cc, Bb, M') := by
  refine met_J (lv := [(0, .ref (ad (14, 0, 0))), (1, .int x1), (2, .int x2)]) hi (by decide +kernel) (Nat.le_of_ble_eq_true rfl) rfl (fun p e s m below meth c C0 hr => ?_)
  unfold fM_setNow at hf
  refine j_iload_n C0 dX6_setNow_0 rfl 1 rfl ?_
  refine j_iload_n C0 dX6_setNow_1 rfl 2 rfl ?_
  obtain ⟨q1, hcq1, hf⟩ := bd_some hf
  refine j_callS (As := [.int x1, .int x2]) (rest := []) (stk := [.int q1]) (G2 := (Cc, Bb, M)) C0 (c_X6_maySet hi (G0 := (Cc, Bb, M))  hcq1) kw_X6_139 bi_X6_maySet rfl ⟨by decide, by decide⟩ ⟨Nat.zero_le _, Nat.zero_le _⟩ rfl rfl (Nat.le_of_ble_eq_true rfl) rfl rfl dX6_setNow_2 ?_
  refine j_if_ne (tgt := 11) C0 dX6_setNow_5 (by decide) (fun c2 => ?_) (fun c2 => ?_)
  · have hf := if_f c2 hf
    refine j_aload_n C0 dX6_setNow_11 rfl 0 rfl ?_
    refine j_getr (id2 := (15, 0, 0)) C0 fl_X6_7 rl_6_0 id_c14 dX6_setNow_12 ?_
    refine j_iload_n C0 dX6_setNow_15 rfl 1 rfl ?_
    obtain ⟨h3, hf⟩ := gd_some hf
    refine j_iald (x := (M 0 (x1.toNatClampNeg))) C0 al_15_0 rfl id_m0 h3 (by rw [Nat.zero_add]; rfl) dX6_setNow_16 ?_
    refine j_istore_n (lv' := [(3, .int (M 0 (x1.toNatClampNeg))), (0, .ref (ad (14, 0, 0))), (1, .int x1), (2, .int x2)]) C0 dX6_setNow_17 rfl (by decide) rfl ?_
    refine j_aload_n C0 dX6_setNow_18 rfl 1 rfl ?_
    refine j_getr (id2 := (15, 0, 0)) C0 fl_X6_7 rl_6_0 id_c14 dX6_setNow_19 ?_
    refine j_iload_n C0 dX6_setNow_22 rfl 2 rfl ?_
    refine j_iload_n C0 dX6_setNow_23 rfl 3 rfl ?_
    obtain ⟨h4, hf⟩ := gd_some hf
    obtain ⟨M5, e6, hf⟩ := lt_some hf
    refine j_iast (G' := (Cc, Bb, M5)) C0 al_15_0 rfl id_m0 h4 (by rw [Nat.zero_add]; exact (eM_set e6)) dX6_setNow_24 ?_
    refine j_iload_n C0 dX6_setNow_25 rfl 0 rfl ?_
    exact j_iret C0 hr dX6_setNow_26 (pr1 hf) (congrArg (fun z => (Cc, Bb, z)) (pr2 hf))
  have hf := if_t c2 hf
  refine j_ldc (v := -1000001) C0 dX6_setNow_8 cw_X6_35 ?_
  exact j_iret C0 hr dX6_setNow_10 (pr1 hf) (congrArg (fun z => (Cc, Bb, z)) (pr2 hf))

set_option maxHeartbeats 4000000 in
set_option maxRecDepth 100000 in
theorem c_X6_clock {l : Launch} {D : va_G} {ca : Nat → ClassId} {ad : I3 → Nat} (hi : adI ad) {Cc : Nat → Nat → Int32} {Bb : Nat → Fin 9} {M : Nat → Nat → Int32} {x1 : Int32} {x2 : Int32} {x3 : Int32} {r0 : Int32} {M' : Nat → Nat → Int32}  (hf : fM_clock M x1 x2 x3 = some (r0, M')) : MT l D ca ad yX6_clock cX6_clock 4 (some .int) 4 90 [.ref (ad (14, 0, 0)), .int x1, .int x2, .int x3] (Cc, Bb, M) (some (.int r0)) (Cc, Bb, M') := by
  refine met_J (lv := [(0, .ref (ad (14, 0, 0))), (1, .int x1), (2, .int x2), (3, .int x3)]) hi (by decide +kernel) (Nat.le_of_ble_eq_true rfl) rfl (fun p e s m below meth c C0 hr => ?_)
  unfold fM_clock at hf
  refine j_aload_n C0 dX6_clock_0 rfl 0 rfl ?_
  obtain ⟨q1, hcq1, hf⟩ := bd_some hf
  refine j_callV (As := []) (rest := []) (stk := []) (G2 := (Cc, Bb, q1)) C0 (c_X6_note hi (Cc := Cc) (Bb := Bb)  hcq1) kw_X6_143 bi_X6_note bx_X6_note id_c14 oc_14 rfl ⟨by decide, by decide⟩ ⟨Nat.zero_le _, Nat.zero_le _⟩ rfl rfl (Nat.le_of_ble_eq_true rfl) rfl rfl dX6_clock_1 ?_
  refine j_aload_n C0 dX6_clock_4 rfl 0 rfl ?_
  refine j_aload_n C0 dX6_clock_5 rfl 0 rfl ?_
  refine j_iload_n C0 dX6_clock_6 rfl 1 rfl ?_
  refine j_iload_n C0 dX6_clock_7 rfl 2 rfl ?_
  refine j_iload_n C0 dX6_clock_8 rfl 3 rfl ?_
  obtain ⟨q2, hcq2, hf⟩ := bd_some hf
  refine j_callV (As := [.int x1, .int x2, .int x3]) (rest := [.ref (ad (14, 0, 0))]) (stk := [.int q2.1, .ref (ad (14, 0, 0))]) (G2 := (Cc, Bb, q2.2)) C0 (c_X6_clockNow hi (Cc := Cc) (Bb := Bb)  hcq2) kw_X6_146 bi_X6_clockNow bx_X6_clockNow id_c14 oc_14 rfl ⟨by decide, by decide⟩ ⟨Nat.zero_le _, Nat.zero_le _⟩ rfl rfl (Nat.le_of_ble_eq_true rfl) rfl rfl dX6_clock_9 ?_
  obtain ⟨q3, hcq3, hf⟩ := bd_some hf
  refine j_callV (As := [.int q2.1]) (rest := []) (stk := [.int q3.1]) (G2 := (Cc, Bb, q3.2)) C0 (c_X6_recorded hi (Cc := Cc) (Bb := Bb)  hcq3) kw_X6_150 bi_X6_recorded bx_X6_recorded id_c14 oc_14 rfl ⟨by decide, by decide⟩ ⟨Nat.zero_le _, Nat.zero_le _⟩ rfl rfl (Nat.le_of_ble_eq_true rfl) rfl rfl dX6_clock_12 ?_
  exact j_iret C0 hr dX6_clock_15 (pr1 hf) (congrArg (fun z => (Cc, Bb, z)) (pr2 hf))

set_option maxHeartbeats 4000000 in
set_option maxRecDepth 100000 in
theorem c_X6_lead {l : Launch} {D : va_G} {ca : Nat → ClassId} {ad : I3 → Nat} (hi : adI ad) {Cc : Nat → Nat → Int32} {Bb : Nat → Fin 9} {M : Nat → Nat → Int32} {x1 : Int32} {x2 : Int32} {r0 : Int32} {M' : Nat → Nat → Int32}  (hf : fM_lead M x1 x2 = some (r0, M')) : MT l D ca ad yX6_lead cX6_lead 3 (some .int) 3 66 [.ref (ad (14, 0, 0)), .int x1, .int x2] (Cc, Bb, M) (some (.int r0)) (Cc, Bb, M') := by
  refine met_J (lv := [(0, .ref (ad (14, 0, 0))), (1, .int x1), (2, .int x2)]) hi (by decide +kernel) (Nat.le_of_ble_eq_true rfl) rfl (fun p e s m below meth c C0 hr => ?_)
  unfold fM_lead at hf
  refine j_aload_n C0 dX6_lead_0 rfl 0 rfl ?_
  obtain ⟨q1, hcq1, hf⟩ := bd_some hf
  refine j_callV (As := []) (rest := []) (stk := []) (G2 := (Cc, Bb, q1)) C0 (c_X6_note hi (Cc := Cc) (Bb := Bb)  hcq1) kw_X6_143 bi_X6_note bx_X6_note id_c14 oc_14 rfl ⟨by decide, by decide⟩ ⟨Nat.zero_le _, Nat.zero_le _⟩ rfl rfl (Nat.le_of_ble_eq_true rfl) rfl rfl dX6_lead_1 ?_
  refine j_aload_n C0 dX6_lead_4 rfl 0 rfl ?_
  refine j_aload_n C0 dX6_lead_5 rfl 0 rfl ?_
  refine j_iload_n C0 dX6_lead_6 rfl 1 rfl ?_
  refine j_iload_n C0 dX6_lead_7 rfl 2 rfl ?_
  obtain ⟨q2, hcq2, hf⟩ := bd_some hf
  refine j_callV (As := [.int x1, .int x2]) (rest := [.ref (ad (14, 0, 0))]) (stk := [.int q2.1, .ref (ad (14, 0, 0))]) (G2 := (Cc, Bb, q2.2)) C0 (c_X6_leadNow hi (Cc := Cc) (Bb := Bb)  hcq2) kw_X6_153 bi_X6_leadNow bx_X6_leadNow id_c14 oc_14 rfl ⟨by decide, by decide⟩ ⟨Nat.zero_le _, Nat.zero_le _⟩ rfl rfl (Nat.le_of_ble_eq_true rfl) rfl rfl dX6_lead_8 ?_
  obtain ⟨q3, hcq3, hf⟩ := bd_some hf
  refine j_callV (As := [.int q2.1]) (rest := []) (stk := [.int q3.1]) (G2 := (Cc, Bb, q3.2)) C0 (c_X6_recorded hi (Cc := Cc) (Bb := Bb)  hcq3) kw_X6_150 bi_X6_recorded bx_X6_recorded id_c14 oc_14 rfl ⟨by decide, by decide⟩ ⟨Nat.zero_le _, Nat.zero_le _⟩ rfl rfl (Nat.le_of_ble_eq_true rfl) rfl rfl dX6_lead_11 ?_
  exact j_iret C0 hr dX6_lead_14 (pr1 hf) (congrArg (fun z => (Cc, Bb, z)) (pr2 hf))

set_option maxHeartbeats 4000000 in
set_option maxRecDepth 100000 in
theorem c_X6_pour {l : Launch} {D : va_G} {ca : Nat → ClassId} {ad : I3 → Nat} (hi : adI ad) {Cc : Nat → Nat → Int32} {Bb : Nat → Fin 9} {M : Nat → Nat → Int32} {x1 : Int32} {x2 : Int32} {r0 : Int32} {M' : Nat → Nat → Int32}  (hf : fM_pour M x1 x2 = some (r0, M')) : MT l D ca ad yX6_pour cX6_pour 3 (some .int) 3 69 [.ref (ad (14, 0, 0)), .int x1, .int x2] (Cc, Bb, M) (some (.int r0)) (Cc, Bb, M') := by
  refine met_J (lv := [(0, .ref (ad (14, 0, 0))), (1, .int x1), (2, .int x2)]) hi (by decide +kernel) (Nat.le_of_ble_eq_true rfl) rfl (fun p e s m below meth c C0 hr => ?_)
  unfold fM_pour at hf
  refine j_aload_n C0 dX6_pour_0 rfl 0 rfl ?_
  obtain ⟨q1, hcq1, hf⟩ := bd_some hf
  refine j_callV (As := []) (rest := []) (stk := []) (G2 := (Cc, Bb, q1)) C0 (c_X6_note hi (Cc := Cc) (Bb := Bb)  hcq1) kw_X6_143 bi_X6_note bx_X6_note id_c14 oc_14 rfl ⟨by decide, by decide⟩ ⟨Nat.zero_le _, Nat.zero_le _⟩ rfl rfl (Nat.le_of_ble_eq_true rfl) rfl rfl dX6_pour_1 ?_
  refine j_aload_n C0 dX6_pour_4 rfl 0 rfl ?_
  refine j_aload_n C0 dX6_pour_5 rfl 0 rfl ?_
  refine j_iload_n C0 dX6_pour_6 rfl 1 rfl ?_
  refine j_iload_n C0 dX6_pour_7 rfl 2 rfl ?_
  obtain ⟨q2, hcq2, hf⟩ := bd_some hf
  refine j_callV (As := [.int x1, .int x2]) (rest := [.ref (ad (14, 0, 0))]) (stk := [.int q2.1, .ref (ad (14, 0, 0))]) (G2 := (Cc, Bb, q2.2)) C0 (c_X6_pourNow hi (Cc := Cc) (Bb := Bb)  hcq2) kw_X6_156 bi_X6_pourNow bx_X6_pourNow id_c14 oc_14 rfl ⟨by decide, by decide⟩ ⟨Nat.zero_le _, Nat.zero_le _⟩ rfl rfl (Nat.le_of_ble_eq_true rfl) rfl rfl dX6_pour_8 ?_
  obtain ⟨q3, hcq3, hf⟩ := bd_some hf
  refine j_callV (As := [.int q2.1]) (rest := []) (stk := [.int q3.1]) (G2 := (Cc, Bb, q3.2)) C0 (c_X6_recorded hi (Cc := Cc) (Bb := Bb)  hcq3) kw_X6_150 bi_X6_recorded bx_X6_recorded id_c14 oc_14 rfl ⟨by decide, by decide⟩ ⟨Nat.zero_le _, Nat.zero_le _⟩ rfl rfl (Nat.le_of_ble_eq_true rfl) rfl rfl dX6_pour_11 ?_
  exact j_iret C0 hr dX6_pour_14 (pr1 hf) (congrArg (fun z => (Cc, Bb, z)) (pr2 hf))

set_option maxHeartbeats 4000000 in
set_option maxRecDepth 100000 in
theorem c_X6_wax {l : Launch} {D : va_G} {ca : Nat → ClassId} {ad : I3 → Nat} (hi : adI ad) {Cc : Nat → Nat → Int32} {Bb : Nat → Fin 9} {M : Nat → Nat → Int32} {x1 : Int32} {x2 : Int32} {r0 : Int32} {M' : Nat → Nat → Int32}  (hf : fM_wax M x1 x2 = some (r0, M')) : MT l D ca ad yX6_wax cX6_wax 3 (some .int) 3 65 [.ref (ad (14, 0, 0)), .int x1, .int x2] (Cc, Bb, M) (some (.int r0)) (Cc, Bb, M') := by
  refine met_J (lv := [(0, .ref (ad (14, 0, 0))), (1, .int x1), (2, .int x2)]) hi (by decide +kernel) (Nat.le_of_ble_eq_true rfl) rfl (fun p e s m below meth c C0 hr => ?_)
  unfold fM_wax at hf
  refine j_aload_n C0 dX6_wax_0 rfl 0 rfl ?_
  obtain ⟨q1, hcq1, hf⟩ := bd_some hf
  refine j_callV (As := []) (rest := []) (stk := []) (G2 := (Cc, Bb, q1)) C0 (c_X6_note hi (Cc := Cc) (Bb := Bb)  hcq1) kw_X6_143 bi_X6_note bx_X6_note id_c14 oc_14 rfl ⟨by decide, by decide⟩ ⟨Nat.zero_le _, Nat.zero_le _⟩ rfl rfl (Nat.le_of_ble_eq_true rfl) rfl rfl dX6_wax_1 ?_
  refine j_aload_n C0 dX6_wax_4 rfl 0 rfl ?_
  refine j_aload_n C0 dX6_wax_5 rfl 0 rfl ?_
  refine j_iload_n C0 dX6_wax_6 rfl 1 rfl ?_
  refine j_iload_n C0 dX6_wax_7 rfl 2 rfl ?_
  obtain ⟨q2, hcq2, hf⟩ := bd_some hf
  refine j_callV (As := [.int x1, .int x2]) (rest := [.ref (ad (14, 0, 0))]) (stk := [.int q2.1, .ref (ad (14, 0, 0))]) (G2 := (Cc, Bb, q2.2)) C0 (c_X6_waxNow hi (Cc := Cc) (Bb := Bb)  hcq2) kw_X6_159 bi_X6_waxNow bx_X6_waxNow id_c14 oc_14 rfl ⟨by decide, by decide⟩ ⟨Nat.zero_le _, Nat.zero_le _⟩ rfl rfl (Nat.le_of_ble_eq_true rfl) rfl rfl dX6_wax_8 ?_
  obtain ⟨q3, hcq3, hf⟩ := bd_some hf
  refine j_callV (As := [.int q2.1]) (rest := []) (stk := [.int q3.1]) (G2 := (Cc, Bb, q3.2)) C0 (c_X6_recorded hi (Cc := Cc) (Bb := Bb)  hcq3) kw_X6_150 bi_X6_recorded bx_X6_recorded id_c14 oc_14 rfl ⟨by decide, by decide⟩ ⟨Nat.zero_le _, Nat.zero_le _⟩ rfl rfl (Nat.le_of_ble_eq_true rfl) rfl rfl dX6_wax_11 ?_
  exact j_iret C0 hr dX6_wax_14 (pr1 hf) (congrArg (fun z => (Cc, Bb, z)) (pr2 hf))

set_option maxHeartbeats 4000000 in
set_option maxRecDepth 100000 in
theorem c_X6_pitch {l : Launch} {D : va_G} {ca : Nat → ClassId} {ad : I3 → Nat} (hi : adI ad) {Cc : Nat → Nat → Int32} {Bb : Nat → Fin 9} {M : Nat → Nat → Int32} {x1 : Int32} {x2 : Int32} {r0 : Int32} {M' : Nat → Nat → Int32}  (hf : fM_pitch M x1 x2 = some (r0, M')) : MT l D ca ad yX6_pitch cX6_pitch 3 (some .int) 5 109 [.ref (ad (14, 0, 0)), .int x1, .int x2] (Cc, Bb, M) (some (.int r0)) (Cc, Bb, M') := by
  refine met_J (lv := [(0, .ref (ad (14, 0, 0))), (1, .int x1), (2, .int x2)]) hi (by decide +kernel) (Nat.le_of_ble_eq_true rfl) rfl (fun p e s m below meth c C0 hr => ?_)
  unfold fM_pitch at hf
  refine j_aload_n C0 dX6_pitch_0 rfl 0 rfl ?_
  obtain ⟨q1, hcq1, hf⟩ := bd_some hf
  refine j_callV (As := []) (rest := []) (stk := []) (G2 := (Cc, Bb, q1)) C0 (c_X6_note hi (Cc := Cc) (Bb := Bb)  hcq1) kw_X6_143 bi_X6_note bx_X6_note id_c14 oc_14 rfl ⟨by decide, by decide⟩ ⟨Nat.zero_le _, Nat.zero_le _⟩ rfl rfl (Nat.le_of_ble_eq_true rfl) rfl rfl dX6_pitch_1 ?_
  refine j_aload_n C0 dX6_pitch_4 rfl 0 rfl ?_
  refine j_aload_n C0 dX6_pitch_5 rfl 0 rfl ?_
  refine j_iload_n C0 dX6_pitch_6 rfl 1 rfl ?_
  refine j_iload_n C0 dX6_pitch_7 rfl 2 rfl ?_
  obtain ⟨q2, hcq2, hf⟩ := bd_some hf
  refine j_callV (As := [.int x1, .int x2]) (rest := [.ref (ad (14, 0, 0))]) (stk := [.int q2.1, .ref (ad (14, 0, 0))]) (G2 := (Cc, Bb, q2.2)) C0 (c_X6_pitchNow hi (Cc := Cc) (Bb := Bb)  hcq2) kw_X6_162 bi_X6_pitchNow bx_X6_pitchNow id_c14 oc_14 rfl ⟨by decide, by decide⟩ ⟨Nat.zero_le _, Nat.zero_le _⟩ rfl rfl (Nat.le_of_ble_eq_true rfl) rfl rfl dX6_pitch_8 ?_
  obtain ⟨q3, hcq3, hf⟩ := bd_some hf
  refine j_callV (As := [.int q2.1]) (rest := []) (stk := [.int q3.1]) (G2 := (Cc, Bb, q3.2)) C0 (c_X6_recorded hi (Cc := Cc) (Bb := Bb)  hcq3) kw_X6_150 bi_X6_recorded bx_X6_recorded id_c14 oc_14 rfl ⟨by decide, by decide⟩ ⟨Nat.zero_le _, Nat.zero_le _⟩ rfl rfl (Nat.le_of_ble_eq_true rfl) rfl rfl dX6_pitch_11 ?_
  exact j_iret C0 hr dX6_pitch_14 (pr1 hf) (congrArg (fun z => (Cc, Bb, z)) (pr2 hf))

set_option maxHeartbeats 4000000 in
set_option maxRecDepth 100000 in
theorem c_X6_trueUp {l : Launch} {D : va_G} {ca : Nat → ClassId} {ad : I3 → Nat} (hi : adI ad) {Cc : Nat → Nat → Int32} {Bb : Nat → Fin 9} {M : Nat → Nat → Int32} {x1 : Int32} {r0 : Int32} {M' : Nat → Nat → Int32}  (hf : fM_trueUp M x1 = some (r0, M')) : MT l D ca ad yX6_trueUp cX6_trueUp 2 (some .int) 5 108 [.ref (ad (14, 0, 0)), .int x1] (Cc, Bb, M) (some (.int r0)) (Cc, Bb, M') := by
  refine met_J (lv := [(0, .ref (ad (14, 0, 0))), (1, .int x1)]) hi (by decide +kernel) (Nat.le_of_ble_eq_true rfl) rfl (fun p e s m below meth c C0 hr => ?_)
  unfold fM_trueUp at hf
  refine j_aload_n C0 dX6_trueUp_0 rfl 0 rfl ?_
  obtain ⟨q1, hcq1, hf⟩ := bd_some hf
  refine j_callV (As := []) (rest := []) (stk := []) (G2 := (Cc, Bb, q1)) C0 (c_X6_note hi (Cc := Cc) (Bb := Bb)  hcq1) kw_X6_143 bi_X6_note bx_X6_note id_c14 oc_14 rfl ⟨by decide, by decide⟩ ⟨Nat.zero_le _, Nat.zero_le _⟩ rfl rfl (Nat.le_of_ble_eq_true rfl) rfl rfl dX6_trueUp_1 ?_
  refine j_aload_n C0 dX6_trueUp_4 rfl 0 rfl ?_
  refine j_aload_n C0 dX6_trueUp_5 rfl 0 rfl ?_
  refine j_iload_n C0 dX6_trueUp_6 rfl 1 rfl ?_
  obtain ⟨q2, hcq2, hf⟩ := bd_some hf
  refine j_callV (As := [.int x1]) (rest := [.ref (ad (14, 0, 0))]) (stk := [.int q2.1, .ref (ad (14, 0, 0))]) (G2 := (Cc, Bb, q2.2)) C0 (c_X6_trueNow hi (Cc := Cc) (Bb := Bb)  hcq2) kw_X6_165 bi_X6_trueNow bx_X6_trueNow id_c14 oc_14 rfl ⟨by decide, by decide⟩ ⟨Nat.zero_le _, Nat.zero_le _⟩ rfl rfl (Nat.le_of_ble_eq_true rfl) rfl rfl dX6_trueUp_7 ?_
  obtain ⟨q3, hcq3, hf⟩ := bd_some hf
  refine j_callV (As := [.int q2.1]) (rest := []) (stk := [.int q3.1]) (G2 := (Cc, Bb, q3.2)) C0 (c_X6_recorded hi (Cc := Cc) (Bb := Bb)  hcq3) kw_X6_150 bi_X6_recorded bx_X6_recorded id_c14 oc_14 rfl ⟨by decide, by decide⟩ ⟨Nat.zero_le _, Nat.zero_le _⟩ rfl rfl (Nat.le_of_ble_eq_true rfl) rfl rfl dX6_trueUp_10 ?_
  exact j_iret C0 hr dX6_trueUp_13 (pr1 hf) (congrArg (fun z => (Cc, Bb, z)) (pr2 hf))

set_option maxHeartbeats 4000000 in
set_option maxRecDepth 100000 in
theorem c_X6_ticks {l : Launch} {D : va_G} {ca : Nat → ClassId} {ad : I3 → Nat} (hi : adI ad) {Cc : Nat → Nat → Int32} {Bb : Nat → Fin 9} {M : Nat → Nat → Int32} {x1 : Int32} {r0 : Int32} {M' : Nat → Nat → Int32}  (hf : fM_ticks M x1 = some (r0, M')) : MT l D ca ad yX6_ticks cX6_ticks 2 (some .int) 8 180 [.ref (ad (14, 0, 0)), .int x1] (Cc, Bb, M) (some (.int r0)) (Cc, Bb, M') := by
  refine met_J (lv := [(0, .ref (ad (14, 0, 0))), (1, .int x1)]) hi (by decide +kernel) (Nat.le_of_ble_eq_true rfl) rfl (fun p e s m below meth c C0 hr => ?_)
  unfold fM_ticks at hf
  refine j_aload_n C0 dX6_ticks_0 rfl 0 rfl ?_
  obtain ⟨q1, hcq1, hf⟩ := bd_some hf
  refine j_callV (As := []) (rest := []) (stk := []) (G2 := (Cc, Bb, q1)) C0 (c_X6_note hi (Cc := Cc) (Bb := Bb)  hcq1) kw_X6_143 bi_X6_note bx_X6_note id_c14 oc_14 rfl ⟨by decide, by decide⟩ ⟨Nat.zero_le _, Nat.zero_le _⟩ rfl rfl (Nat.le_of_ble_eq_true rfl) rfl rfl dX6_ticks_1 ?_
  refine j_aload_n C0 dX6_ticks_4 rfl 0 rfl ?_
  refine j_aload_n C0 dX6_ticks_5 rfl 0 rfl ?_
  refine j_iload_n C0 dX6_ticks_6 rfl 1 rfl ?_
  obtain ⟨q2, hcq2, hf⟩ := bd_some hf
  refine j_callV (As := [.int x1]) (rest := [.ref (ad (14, 0, 0))]) (stk := [.int q2.1, .ref (ad (14, 0, 0))]) (G2 := (Cc, Bb, q2.2)) C0 (c_X6_ticksNow hi (Cc := Cc) (Bb := Bb)  hcq2) kw_X6_168 bi_X6_ticksNow bx_X6_ticksNow id_c14 oc_14 rfl ⟨by decide, by decide⟩ ⟨Nat.zero_le _, Nat.zero_le _⟩ rfl rfl (Nat.le_of_ble_eq_true rfl) rfl rfl dX6_ticks_7 ?_
  obtain ⟨q3, hcq3, hf⟩ := bd_some hf
  refine j_callV (As := [.int q2.1]) (rest := []) (stk := [.int q3.1]) (G2 := (Cc, Bb, q3.2)) C0 (c_X6_recorded hi (Cc := Cc) (Bb := Bb)  hcq3) kw_X6_150 bi_X6_recorded bx_X6_recorded id_c14 oc_14 rfl ⟨by decide, by decide⟩ ⟨Nat.zero_le _, Nat.zero_le _⟩ rfl rfl (Nat.le_of_ble_eq_true rfl) rfl rfl dX6_ticks_10 ?_
  exact j_iret C0 hr dX6_ticks_13 (pr1 hf) (congrArg (fun z => (Cc, Bb, z)) (pr2 hf))

set_option maxHeartbeats 4000000 in
set_option maxRecDepth 100000 in
theorem c_X6_set {l : Launch} {D : va_G} {ca : Nat → ClassId} {ad : I3 → Nat} (hi : adI ad) {Cc : Nat → Nat → Int32} {Bb : Nat → Fin 9} {M : Nat → Nat → Int32} {x1 : Int32} {x2 : Int32} {r0 : Int32} {M' : Nat → Nat → Int32}  (hf : fM_set M x1 x2 = some (r0, M')) : MT l D ca ad yX6_set cX6_set 3 (some .int) 3 66 [.ref (ad (14, 0, 0)), .int x1, .int x2] (Cc, Bb, M) (some (.int r0)) (Cc, Bb, M') := by
  refine met_J (lv := [(0, .ref (ad (14, 0, 0))), (1, .int x1), (2, .int x2)]) hi (by decide +kernel) (Nat.le_of_ble_eq_true rfl) rfl (fun p e s m below meth c C0 hr => ?_)
  unfold fM_set at hf
  refine j_aload_n C0 dX6_set_0 rfl 0 rfl ?_
  obtain ⟨q1, hcq1, hf⟩ := bd_some hf
  refine j_callV (As := []) (rest := []) (stk := []) (G2 := (Cc, Bb, q1)) C0 (c_X6_note hi (Cc := Cc) (Bb := Bb)  hcq1) kw_X6_143 bi_X6_note bx_X6_note id_c14 oc_14 rfl ⟨by decide, by decide⟩ ⟨Nat.zero_le _, Nat.zero_le _⟩ rfl rfl (Nat.le_of_ble_eq_true rfl) rfl rfl dX6_set_1 ?_
  refine j_aload_n C0 dX6_set_4 rfl 0 rfl ?_
  refine j_aload_n C0 dX6_set_5 rfl 0 rfl ?_
  refine j_iload_n C0 dX6_set_6 rfl 1 rfl ?_
  refine j_iload_n C0 dX6_set_7 rfl 2 rfl ?_
  obtain ⟨q2, hcq2, hf⟩ := bd_some hf
  refine j_callV (As := [.int x1, .int x2]) (rest := [.ref (ad (14, 0, 0))]) (stk := [.int q2.1, .ref (ad (14, 0, 0))]) (G2 := (Cc, Bb, q2.2)) C0 (c_X6_setNow hi (Cc := Cc) (Bb := Bb)  hcq2) kw_X6_171 bi_X6_setNow bx_X6_setNow id_c14 oc_14 rfl ⟨by decide, by decide⟩ ⟨Nat.zero_le _, Nat.zero_le _⟩ rfl rfl (Nat.le_of_ble_eq_true rfl) rfl rfl dX6_set_8 ?_
  obtain ⟨q3, hcq3, hf⟩ := bd_some hf
  refine j_callV (As := [.int q2.1]) (rest := []) (stk := [.int q3.1]) (G2 := (Cc, Bb, q3.2)) C0 (c_X6_recorded hi (Cc := Cc) (Bb := Bb)  hcq3) kw_X6_150 bi_X6_recorded bx_X6_recorded id_c14 oc_14 rfl ⟨by decide, by decide⟩ ⟨Nat.zero_le _, Nat.zero_le _⟩ rfl rfl (Nat.le_of_ble_eq_true rfl) rfl rfl dX6_set_11 ?_
  exact j_iret C0 hr dX6_set_14 (pr1 hf) (congrArg (fun z => (Cc, Bb, z)) (pr2 hf))

set_option maxHeartbeats 4000000 in
set_option maxRecDepth 100000 in
theorem c_X6_keep {l : Launch} {D : va_G} {ca : Nat → ClassId} {ad : I3 → Nat} (hi : adI ad) {Cc : Nat → Nat → Int32} {Bb : Nat → Fin 9} {M : Nat → Nat → Int32} {x1 : Int32} {r0 : Int32} {M' : Nat → Nat → Int32}  (hf : fM_keep M x1 = some (r0, M')) : MT l D ca ad yX6_keep cX6_keep 3 (some .int) 1 22 [.ref (ad (14, 0, 0)), .int x1] (Cc, Bb, M) (some (.int r0)) (Cc, Bb, M') := by
  refine met_J (lv := [(0, .ref (ad (14, 0, 0))), (1, .int x1)]) hi (by decide +kernel) (Nat.le_of_ble_eq_true rfl) rfl (fun p e s m below meth c C0 hr => ?_)
  have L14 : ∀ (n : Nat) (M : Nat → Nat → Int32) (y1 : Int32) (y2 : Int32), fM_keep_L14 n M y1 y2 = some (r0, M') → J D ca ad p l e ({ frames := 1, cells := 0, slots := 0, locals := 22 }) s m [.ref (ad (14, 0, 0)), .int x1].toArray below meth c 0 0 (MQ below (post D ca ad (some (.int r0)) (Cc, Bb, M')) [.ref (ad (14, 0, 0)), .int x1].toArray s 0 0 (adA ad)) 3 (Cc, Bb, M) 14 [(0, .ref (ad (14, 0, 0))), (1, .int y1), (2, .int y2)] [] := by
    intro n
    induction n with
    | zero =>
      intro M y1 y2 hf
      exact (none_ne hf).elim
    | succ n ih =>
      intro M y1 y2 hf
      rw [fM_keep_L14] at hf
      refine j_iload_n C0 dX6_keep_14 rfl 2 rfl ?_
      refine j_bipush (v := 120) C0 dX6_keep_15 rfl ?_
      refine j_icmp_ge (tgt := 43) C0 dX6_keep_17 (by decide) (fun c3 => ?_) (fun c3 => ?_)
      · have hf := if_t c3 hf
        refine j_aload_n C0 dX6_keep_43 rfl 0 rfl ?_
        refine j_getr (id2 := (16, 0, 0)) C0 fl_X6_22 rl_6_5 id_c14 dX6_keep_44 ?_
        refine j_iload_n C0 dX6_keep_47 rfl 1 rfl ?_
        refine j_iconst (v := 1) C0 dX6_keep_48 rfl ?_
        obtain ⟨h4, hf⟩ := gd_some hf
        obtain ⟨M5, e6, hf⟩ := lt_some hf
        refine j_zast (G' := (Cc, Bb, M5)) C0 al_16 rfl id_c16 h4 (by rw [Nat.zero_add]; exact (eM_set e6)) dX6_keep_49 ?_
        refine j_aload_n C0 dX6_keep_50 rfl 0 rfl ?_
        refine j_getr (id2 := (15, 0, 0)) C0 fl_X6_7 rl_6_0 id_c14 dX6_keep_51 ?_
        refine j_bipush (v := 19) C0 dX6_keep_54 rfl ?_
        refine j_iald (x := (M5 0 19)) C0 al_15_0 rfl id_m0 (by decide) (by rw [Nat.zero_add]; rfl) dX6_keep_56 ?_
        exact j_iret C0 hr dX6_keep_57 (pr1 hf) (congrArg (fun z => (Cc, Bb, z)) (pr2 hf))
      have hf := if_f c3 hf
      refine j_aload_n C0 dX6_keep_20 rfl 0 rfl ?_
      refine j_getr (id2 := (15, 3, 0)) C0 fl_X6_19 rl_6_4 id_c14 dX6_keep_21 ?_
      refine j_bipush (v := 120) C0 dX6_keep_24 rfl ?_
      refine j_iload_n C0 dX6_keep_26 rfl 1 rfl ?_
      refine j_imul C0 dX6_keep_27 ?_
      refine j_iload_n C0 dX6_keep_28 rfl 2 rfl ?_
      refine j_iadd C0 dX6_keep_29 ?_
      refine j_aload_n C0 dX6_keep_30 rfl 0 rfl ?_
      refine j_getr (id2 := (15, 0, 0)) C0 fl_X6_7 rl_6_0 id_c14 dX6_keep_31 ?_
      refine j_iload_n C0 dX6_keep_34 rfl 2 rfl ?_
      obtain ⟨h7, hf⟩ := gd_some hf
      refine j_iald (x := (M 0 (y2.toNatClampNeg))) C0 al_15_0 rfl id_m0 h7 (by rw [Nat.zero_add]; rfl) dX6_keep_35 ?_
      obtain ⟨h8, hf⟩ := gd_some hf
      obtain ⟨M9, e10, hf⟩ := lt_some hf
      refine j_iast (G' := (Cc, Bb, M9)) C0 al_15_3 rfl id_m3 h8 (by rw [Nat.zero_add]; exact (eM_set e10)) dX6_keep_36 ?_
      refine j_iinc (v := (y2 + 1)) (lv' := [(2, .int (y2 + 1)), (0, .ref (ad (14, 0, 0))), (1, .int y1)]) C0 dX6_keep_37 2 rfl rfl (by decide) rfl ?_
      refine j_goto (tgt := 14) C0 dX6_keep_40 (by decide) ?_
      exact j_sub [1, 2, 0] rfl (ih M9 y1 (y2 + 1) hf)
  unfold fM_keep at hf
  refine j_iload_n C0 dX6_keep_0 rfl 1 rfl ?_
  refine j_iconst (v := 0) C0 dX6_keep_1 rfl ?_
  refine j_iconst (v := 1) C0 dX6_keep_2 rfl ?_
  obtain ⟨q1, hcq1, hf⟩ := bd_some hf
  refine j_callS (As := [.int x1, .int (0 : Int32), .int (1 : Int32)]) (rest := []) (stk := [.int q1]) (G2 := (Cc, Bb, M)) C0 (c_X6_in hi (G0 := (Cc, Bb, M))  hcq1) kw_X6_36 bi_X6_in rfl ⟨by decide, by decide⟩ ⟨Nat.zero_le _, Nat.zero_le _⟩ rfl rfl (Nat.le_of_ble_eq_true rfl) rfl rfl dX6_keep_3 ?_
  refine j_if_ne (tgt := 12) C0 dX6_keep_6 (by decide) (fun c2 => ?_) (fun c2 => ?_)
  · have hf := if_f c2 hf
    refine j_iconst (v := 0) C0 dX6_keep_12 rfl ?_
    refine j_istore_n (lv' := [(2, .int (0 : Int32)), (0, .ref (ad (14, 0, 0))), (1, .int x1)]) C0 dX6_keep_13 rfl (by decide) rfl ?_
    exact j_sub [1, 2, 0] rfl (L14 fuel M x1 (0 : Int32) hf)
  have hf := if_t c2 hf
  refine j_ldc (v := -1000001) C0 dX6_keep_9 cw_X6_35 ?_
  exact j_iret C0 hr dX6_keep_11 (pr1 hf) (congrArg (fun z => (Cc, Bb, z)) (pr2 hf))

set_option maxHeartbeats 4000000 in
set_option maxRecDepth 100000 in
theorem c_X6_back {l : Launch} {D : va_G} {ca : Nat → ClassId} {ad : I3 → Nat} (hi : adI ad) {Cc : Nat → Nat → Int32} {Bb : Nat → Fin 9} {M : Nat → Nat → Int32} {x1 : Int32} {r0 : Int32} {M' : Nat → Nat → Int32}  (hf : fM_back M x1 = some (r0, M')) : MT l D ca ad yX6_back cX6_back 3 (some .int) 2 42 [.ref (ad (14, 0, 0)), .int x1] (Cc, Bb, M) (some (.int r0)) (Cc, Bb, M') := by
  refine met_J (lv := [(0, .ref (ad (14, 0, 0))), (1, .int x1)]) hi (by decide +kernel) (Nat.le_of_ble_eq_true rfl) rfl (fun p e s m below meth c C0 hr => ?_)
  have L30 : ∀ (n : Nat) (M : Nat → Nat → Int32) (y1 : Int32) (y2 : Int32), fM_back_L30 n M y1 y2 = some (r0, M') → J D ca ad p l e ({ frames := 2, cells := 0, slots := 0, locals := 42 }) s m [.ref (ad (14, 0, 0)), .int x1].toArray below meth c 0 0 (MQ below (post D ca ad (some (.int r0)) (Cc, Bb, M')) [.ref (ad (14, 0, 0)), .int x1].toArray s 0 0 (adA ad)) 3 (Cc, Bb, M) 30 [(0, .ref (ad (14, 0, 0))), (1, .int y1), (2, .int y2)] [] := by
    intro n
    induction n with
    | zero =>
      intro M y1 y2 hf
      exact (none_ne hf).elim
    | succ n ih =>
      intro M y1 y2 hf
      rw [fM_back_L30] at hf
      refine j_iload_n C0 dX6_back_30 rfl 2 rfl ?_
      refine j_bipush (v := 120) C0 dX6_back_31 rfl ?_
      refine j_icmp_ge (tgt := 59) C0 dX6_back_33 (by decide) (fun c6 => ?_) (fun c6 => ?_)
      · have hf := if_t c6 hf
        refine j_aload_n C0 dX6_back_59 rfl 0 rfl ?_
        refine j_aload_n C0 dX6_back_60 rfl 0 rfl ?_
        refine j_getr (id2 := (15, 0, 0)) C0 fl_X6_7 rl_6_0 id_c14 dX6_back_61 ?_
        refine j_bipush (v := 19) C0 dX6_back_64 rfl ?_
        refine j_iald (x := (M 0 19)) C0 al_15_0 rfl id_m0 (by decide) (by rw [Nat.zero_add]; rfl) dX6_back_66 ?_
        obtain ⟨q7, hcq7, hf⟩ := bd_some hf
        refine j_callV (As := [.int (M 0 19)]) (rest := []) (stk := [.int q7.1]) (G2 := (Cc, Bb, q7.2)) C0 (c_X6_recorded hi (Cc := Cc) (Bb := Bb)  hcq7) kw_X6_150 bi_X6_recorded bx_X6_recorded id_c14 oc_14 rfl ⟨by decide, by decide⟩ ⟨Nat.zero_le _, Nat.zero_le _⟩ rfl rfl (Nat.le_of_ble_eq_true rfl) rfl rfl dX6_back_67 ?_
        exact j_iret C0 hr dX6_back_70 (pr1 hf) (congrArg (fun z => (Cc, Bb, z)) (pr2 hf))
      have hf := if_f c6 hf
      refine j_aload_n C0 dX6_back_36 rfl 0 rfl ?_
      refine j_getr (id2 := (15, 0, 0)) C0 fl_X6_7 rl_6_0 id_c14 dX6_back_37 ?_
      refine j_iload_n C0 dX6_back_40 rfl 2 rfl ?_
      refine j_aload_n C0 dX6_back_41 rfl 0 rfl ?_
      refine j_getr (id2 := (15, 3, 0)) C0 fl_X6_19 rl_6_4 id_c14 dX6_back_42 ?_
      refine j_bipush (v := 120) C0 dX6_back_45 rfl ?_
      refine j_iload_n C0 dX6_back_47 rfl 1 rfl ?_
      refine j_imul C0 dX6_back_48 ?_
      refine j_iload_n C0 dX6_back_49 rfl 2 rfl ?_
      refine j_iadd C0 dX6_back_50 ?_
      obtain ⟨h8, hf⟩ := gd_some hf
      refine j_iald (x := (M 3 ((((120 : Int32) * y1) + y2).toNatClampNeg))) C0 al_15_3 rfl id_m3 h8 (by rw [Nat.zero_add]; rfl) dX6_back_51 ?_
      obtain ⟨h9, hf⟩ := gd_some hf
      obtain ⟨M10, e11, hf⟩ := lt_some hf
      refine j_iast (G' := (Cc, Bb, M10)) C0 al_15_0 rfl id_m0 h9 (by rw [Nat.zero_add]; exact (eM_set e11)) dX6_back_52 ?_
      refine j_iinc (v := (y2 + 1)) (lv' := [(2, .int (y2 + 1)), (0, .ref (ad (14, 0, 0))), (1, .int y1)]) C0 dX6_back_53 2 rfl rfl (by decide) rfl ?_
      refine j_goto (tgt := 30) C0 dX6_back_56 (by decide) ?_
      exact j_sub [1, 2, 0] rfl (ih M10 y1 (y2 + 1) hf)
  unfold fM_back at hf
  refine j_iload_n C0 dX6_back_0 rfl 1 rfl ?_
  refine j_iconst (v := 0) C0 dX6_back_1 rfl ?_
  refine j_iconst (v := 1) C0 dX6_back_2 rfl ?_
  obtain ⟨q1, hcq1, hf⟩ := bd_some hf
  refine j_callS (As := [.int x1, .int (0 : Int32), .int (1 : Int32)]) (rest := []) (stk := [.int q1]) (G2 := (Cc, Bb, M)) C0 (c_X6_in hi (G0 := (Cc, Bb, M))  hcq1) kw_X6_36 bi_X6_in rfl ⟨by decide, by decide⟩ ⟨Nat.zero_le _, Nat.zero_le _⟩ rfl rfl (Nat.le_of_ble_eq_true rfl) rfl rfl dX6_back_3 ?_
  refine j_if_ne (tgt := 12) C0 dX6_back_6 (by decide) (fun c2 => ?_) (fun c2 => ?_)
  · have hf := if_f c2 hf
    refine j_aload_n C0 dX6_back_12 rfl 0 rfl ?_
    refine j_getr (id2 := (16, 0, 0)) C0 fl_X6_22 rl_6_5 id_c14 dX6_back_13 ?_
    refine j_iload_n C0 dX6_back_16 rfl 1 rfl ?_
    obtain ⟨h3, hf⟩ := gd_some hf
    refine j_zald (x := (M 4 (x1.toNatClampNeg))) C0 al_16 rfl id_c16 h3 (by rw [Nat.zero_add]; rfl) dX6_back_17 ?_
    refine j_if_ne (tgt := 24) C0 dX6_back_18 (by decide) (fun c4 => ?_) (fun c4 => ?_)
    · have hf := if_f c4 hf
      refine j_aload_n C0 dX6_back_24 rfl 0 rfl ?_
      obtain ⟨q5, hcq5, hf⟩ := bd_some hf
      refine j_callV (As := []) (rest := []) (stk := []) (G2 := (Cc, Bb, q5)) C0 (c_X6_note hi (Cc := Cc) (Bb := Bb)  hcq5) kw_X6_143 bi_X6_note bx_X6_note id_c14 oc_14 rfl ⟨by decide, by decide⟩ ⟨Nat.zero_le _, Nat.zero_le _⟩ rfl rfl (Nat.le_of_ble_eq_true rfl) rfl rfl dX6_back_25 ?_
      refine j_iconst (v := 0) C0 dX6_back_28 rfl ?_
      refine j_istore_n (lv' := [(2, .int (0 : Int32)), (0, .ref (ad (14, 0, 0))), (1, .int x1)]) C0 dX6_back_29 rfl (by decide) rfl ?_
      exact j_sub [1, 2, 0] rfl (L30 fuel q5 x1 (0 : Int32) hf)
    have hf := if_t c4 hf
    refine j_ldc (v := -1000002) C0 dX6_back_21 cw_X6_128 ?_
    exact j_iret C0 hr dX6_back_23 (pr1 hf) (congrArg (fun z => (Cc, Bb, z)) (pr2 hf))
  have hf := if_t c2 hf
  refine j_ldc (v := -1000001) C0 dX6_back_9 cw_X6_35 ?_
  exact j_iret C0 hr dX6_back_11 (pr1 hf) (congrArg (fun z => (Cc, Bb, z)) (pr2 hf))

set_option maxHeartbeats 4000000 in
set_option maxRecDepth 100000 in
theorem c_X6_undo {l : Launch} {D : va_G} {ca : Nat → ClassId} {ad : I3 → Nat} (hi : adI ad) {Cc : Nat → Nat → Int32} {Bb : Nat → Fin 9} {M : Nat → Nat → Int32} {r0 : Int32} {M' : Nat → Nat → Int32}  (hf : fM_undo M = some (r0, M')) : MT l D ca ad yX6_undo cX6_undo 2 (some .int) 0 0 [.ref (ad (14, 0, 0))] (Cc, Bb, M) (some (.int r0)) (Cc, Bb, M') := by
  refine met_J (lv := [(0, .ref (ad (14, 0, 0)))]) hi (by decide +kernel) (Nat.le_of_ble_eq_true rfl) rfl (fun p e s m below meth c C0 hr => ?_)
  have L22 : ∀ (n : Nat) (M : Nat → Nat → Int32) (y1 : Int32), fM_undo_L22 n M y1 = some (r0, M') → J D ca ad p l e ({ frames := 0, cells := 0, slots := 0, locals := 0 }) s m [.ref (ad (14, 0, 0))].toArray below meth c 0 0 (MQ below (post D ca ad (some (.int r0)) (Cc, Bb, M')) [.ref (ad (14, 0, 0))].toArray s 0 0 (adA ad)) 2 (Cc, Bb, M) 22 [(0, .ref (ad (14, 0, 0))), (1, .int y1)] [] := by
    intro n
    induction n with
    | zero =>
      intro M y1 hf
      exact (none_ne hf).elim
    | succ n ih =>
      intro M y1 hf
      rw [fM_undo_L22] at hf
      refine j_iload_n C0 dX6_undo_22 rfl 1 rfl ?_
      refine j_bipush (v := 120) C0 dX6_undo_23 rfl ?_
      refine j_icmp_ge (tgt := 54) C0 dX6_undo_25 (by decide) (fun c4 => ?_) (fun c4 => ?_)
      · have hf := if_t c4 hf
        refine j_aload_n C0 dX6_undo_54 rfl 0 rfl ?_
        refine j_geti (x := (M 8 0)) C0 fl_X6_44 sl_6_3 id_c14 rfl dX6_undo_55 ?_
        exact j_iret C0 hr dX6_undo_58 (pr1 hf) (congrArg (fun z => (Cc, Bb, z)) (pr2 hf))
      have hf := if_f c4 hf
      refine j_aload_n C0 dX6_undo_28 rfl 0 rfl ?_
      refine j_getr (id2 := (15, 0, 0)) C0 fl_X6_7 rl_6_0 id_c14 dX6_undo_29 ?_
      refine j_iload_n C0 dX6_undo_32 rfl 1 rfl ?_
      refine j_aload_n C0 dX6_undo_33 rfl 0 rfl ?_
      refine j_getr (id2 := (15, 2, 0)) C0 fl_X6_16 rl_6_2 id_c14 dX6_undo_34 ?_
      refine j_bipush (v := 120) C0 dX6_undo_37 rfl ?_
      refine j_aload_n C0 dX6_undo_39 rfl 0 rfl ?_
      refine j_geti (x := (M 8 0)) C0 fl_X6_44 sl_6_3 id_c14 rfl dX6_undo_40 ?_
      refine j_imul C0 dX6_undo_43 ?_
      refine j_iload_n C0 dX6_undo_44 rfl 1 rfl ?_
      refine j_iadd C0 dX6_undo_45 ?_
      obtain ⟨h5, hf⟩ := gd_some hf
      refine j_iald (x := (M 2 ((((120 : Int32) * (M 8 0)) + y1).toNatClampNeg))) C0 al_15_2 rfl id_m2 h5 (by rw [Nat.zero_add]; rfl) dX6_undo_46 ?_
      obtain ⟨h6, hf⟩ := gd_some hf
      obtain ⟨M7, e8, hf⟩ := lt_some hf
      refine j_iast (G' := (Cc, Bb, M7)) C0 al_15_0 rfl id_m0 h6 (by rw [Nat.zero_add]; exact (eM_set e8)) dX6_undo_47 ?_
      refine j_iinc (v := (y1 + 1)) (lv' := [(1, .int (y1 + 1)), (0, .ref (ad (14, 0, 0)))]) C0 dX6_undo_48 1 rfl rfl (by decide) rfl ?_
      refine j_goto (tgt := 22) C0 dX6_undo_51 (by decide) ?_
      exact j_sub [1, 0] rfl (ih M7 (y1 + 1) hf)
  unfold fM_undo at hf
  refine j_aload_n C0 dX6_undo_0 rfl 0 rfl ?_
  refine j_geti (x := (M 8 0)) C0 fl_X6_44 sl_6_3 id_c14 rfl dX6_undo_1 ?_
  refine j_if_ne (tgt := 10) C0 dX6_undo_4 (by decide) (fun c1 => ?_) (fun c1 => ?_)
  · have hf := if_f c1 hf
    refine j_aload_n C0 dX6_undo_10 rfl 0 rfl ?_
    refine j_dup C0 dX6_undo_11 rfl ?_
    refine j_geti (x := (M 8 0)) C0 fl_X6_44 sl_6_3 id_c14 rfl dX6_undo_12 ?_
    refine j_iconst (v := 1) C0 dX6_undo_15 rfl ?_
    refine j_isub C0 dX6_undo_16 ?_
    obtain ⟨M2, e3, hf⟩ := lt_some hf
    refine j_puti (G' := (Cc, Bb, M2)) C0 fl_X6_44 pw_6_3 sl_6_3 id_c14 rfl rfl (eM_set e3) dX6_undo_17 ?_
    refine j_iconst (v := 0) C0 dX6_undo_20 rfl ?_
    refine j_istore_n (lv' := [(1, .int (0 : Int32)), (0, .ref (ad (14, 0, 0)))]) C0 dX6_undo_21 rfl (by decide) rfl ?_
    exact j_sub [1, 0] rfl (L22 fuel M2 (0 : Int32) hf)
  have hf := if_t c1 hf
  refine j_ldc (v := -1000002) C0 dX6_undo_7 cw_X6_128 ?_
  exact j_iret C0 hr dX6_undo_9 (pr1 hf) (congrArg (fun z => (Cc, Bb, z)) (pr2 hf))

set_option maxHeartbeats 4000000 in
set_option maxRecDepth 100000 in
theorem c_X6_property {l : Launch} {D : va_G} {ca : Nat → ClassId} {ad : I3 → Nat} (hi : adI ad) {Cc : Nat → Nat → Int32} {Bb : Nat → Fin 9} {M : Nat → Nat → Int32} {x1 : Int32} {x2 : Int32} {r0 : Int32}  (hf : fM_property M x1 x2 = some (r0)) : MT l D ca ad yX6_property cX6_property 4 (some .int) 2 44 [.ref (ad (14, 0, 0)), .int x1, .int x2] (Cc, Bb, M) (some (.int r0)) (Cc, Bb, M) := by
  refine met_J (lv := [(0, .ref (ad (14, 0, 0))), (1, .int x1), (2, .int x2)]) hi (by decide +kernel) (Nat.le_of_ble_eq_true rfl) rfl (fun p e s m below meth c C0 hr => ?_)
  unfold fM_property at hf
  refine j_aload_n C0 dX6_property_0 rfl 0 rfl ?_
  refine j_iload_n C0 dX6_property_1 rfl 1 rfl ?_
  refine j_iconst (v := 0) C0 dX6_property_2 rfl ?_
  obtain ⟨q1, hcq1, hf⟩ := bd_some hf
  refine j_callV (As := [.int x1, .int (0 : Int32)]) (rest := []) (stk := [.int q1]) (G2 := (Cc, Bb, M)) C0 (c_X6_of hi (Cc := Cc) (Bb := Bb)  hcq1) kw_X6_48 bi_X6_of bx_X6_of id_c14 oc_14 rfl ⟨by decide, by decide⟩ ⟨Nat.zero_le _, Nat.zero_le _⟩ rfl rfl (Nat.le_of_ble_eq_true rfl) rfl rfl dX6_property_3 ?_
  refine j_istore_n (lv' := [(3, .int q1), (0, .ref (ad (14, 0, 0))), (1, .int x1), (2, .int x2)]) C0 dX6_property_6 rfl (by decide) rfl ?_
  refine j_iload_n C0 dX6_property_7 rfl 3 rfl ?_
  by_cases c2 : (x2.toInt < 0 ∨ 10 < x2.toInt)
  · have hf := if_t c2 hf
    refine j_tableOut (tgt := 177) C0 dX6_property_8 c2 (by decide) ?_
    refine j_aload_n C0 dX6_property_177 rfl 1 rfl ?_
    refine j_iload_n C0 dX6_property_178 rfl 2 rfl ?_
    refine j_bipush (v := 12) C0 dX6_property_179 rfl ?_
    obtain ⟨q3, hcq3, hf⟩ := bd_some hf
    refine j_callV (As := [.int x1, .int (12 : Int32)]) (rest := []) (stk := [.int q3]) (G2 := (Cc, Bb, M)) C0 (c_X6_of hi (Cc := Cc) (Bb := Bb)  hcq3) kw_X6_48 bi_X6_of bx_X6_of id_c14 oc_14 rfl ⟨by decide, by decide⟩ ⟨Nat.zero_le _, Nat.zero_le _⟩ rfl rfl (Nat.le_of_ble_eq_true rfl) rfl rfl dX6_property_181 ?_
    exact j_iret C0 hr dX6_property_184 (so hf) rfl
  have hf := if_f c2 hf
  by_cases c4 : x2 = 0
  · have hf := if_t c4 hf
    refine j_tableEq C0 0 (tgt := 68) c4 dX6_property_8 (by decide) (by decide) rfl (by decide) ?_
    refine j_iload_n C0 dX6_property_68 rfl 0 rfl ?_
    exact j_iret C0 hr dX6_property_69 (so hf) rfl
  have hf := if_f c4 hf
  by_cases c5 : x2 = 1
  · have hf := if_t c5 hf
    refine j_tableEq C0 1 (tgt := 70) c5 dX6_property_8 (by decide) (by decide) rfl (by decide) ?_
    refine j_aload_n C0 dX6_property_70 rfl 1 rfl ?_
    refine j_iload_n C0 dX6_property_71 rfl 2 rfl ?_
    refine j_iconst (v := 3) C0 dX6_property_72 rfl ?_
    obtain ⟨q6, hcq6, hf⟩ := bd_some hf
    refine j_callV (As := [.int x1, .int (3 : Int32)]) (rest := []) (stk := [.int q6]) (G2 := (Cc, Bb, M)) C0 (c_X6_of hi (Cc := Cc) (Bb := Bb)  hcq6) kw_X6_48 bi_X6_of bx_X6_of id_c14 oc_14 rfl ⟨by decide, by decide⟩ ⟨Nat.zero_le _, Nat.zero_le _⟩ rfl rfl (Nat.le_of_ble_eq_true rfl) rfl rfl dX6_property_73 ?_
    exact j_iret C0 hr dX6_property_76 (so hf) rfl
  have hf := if_f c5 hf
  by_cases c7 : x2 = 2
  · have hf := if_t c7 hf
    refine j_tableEq C0 2 (tgt := 77) c7 dX6_property_8 (by decide) (by decide) rfl (by decide) ?_
    refine j_iload_n C0 dX6_property_77 rfl 0 rfl ?_
    refine j_if_ne (tgt := 86) C0 dX6_property_78 (by decide) (fun c8 => ?_) (fun c8 => ?_)
    · have hf := if_f c8 hf
      refine j_aload_n C0 dX6_property_86 rfl 1 rfl ?_
      refine j_iload_n C0 dX6_property_87 rfl 2 rfl ?_
      refine j_iconst (v := 4) C0 dX6_property_88 rfl ?_
      obtain ⟨q9, hcq9, hf⟩ := bd_some hf
      refine j_callV (As := [.int x1, .int (4 : Int32)]) (rest := []) (stk := [.int q9]) (G2 := (Cc, Bb, M)) C0 (c_X6_of hi (Cc := Cc) (Bb := Bb)  hcq9) kw_X6_48 bi_X6_of bx_X6_of id_c14 oc_14 rfl ⟨by decide, by decide⟩ ⟨Nat.zero_le _, Nat.zero_le _⟩ rfl rfl (Nat.le_of_ble_eq_true rfl) rfl rfl dX6_property_89 ?_
      exact j_iret C0 hr dX6_property_92 (so hf) rfl
    have hf := if_t c8 hf
    refine j_ldc (v := -1000004) C0 dX6_property_81 cw_X6_174 ?_
    refine j_goto (tgt := 92) C0 dX6_property_83 (by decide) ?_
    exact j_iret C0 hr dX6_property_92 (so hf) rfl
  have hf := if_f c7 hf
  by_cases c10 : x2 = 3
  · have hf := if_t c10 hf
    refine j_tableEq C0 3 (tgt := 93) c10 dX6_property_8 (by decide) (by decide) rfl (by decide) ?_
    refine j_aload_n C0 dX6_property_93 rfl 1 rfl ?_
    refine j_iload_n C0 dX6_property_94 rfl 2 rfl ?_
    refine j_iconst (v := 1) C0 dX6_property_95 rfl ?_
    obtain ⟨q11, hcq11, hf⟩ := bd_some hf
    refine j_callV (As := [.int x1, .int (1 : Int32)]) (rest := []) (stk := [.int q11]) (G2 := (Cc, Bb, M)) C0 (c_X6_of hi (Cc := Cc) (Bb := Bb)  hcq11) kw_X6_48 bi_X6_of bx_X6_of id_c14 oc_14 rfl ⟨by decide, by decide⟩ ⟨Nat.zero_le _, Nat.zero_le _⟩ rfl rfl (Nat.le_of_ble_eq_true rfl) rfl rfl dX6_property_96 ?_
    exact j_iret C0 hr dX6_property_99 (so hf) rfl
  have hf := if_f c10 hf
  by_cases c12 : x2 = 4
  · have hf := if_t c12 hf
    refine j_tableEq C0 4 (tgt := 100) c12 dX6_property_8 (by decide) (by decide) rfl (by decide) ?_
    refine j_aload_n C0 dX6_property_100 rfl 1 rfl ?_
    refine j_iload_n C0 dX6_property_101 rfl 2 rfl ?_
    refine j_iconst (v := 2) C0 dX6_property_102 rfl ?_
    obtain ⟨q13, hcq13, hf⟩ := bd_some hf
    refine j_callV (As := [.int x1, .int (2 : Int32)]) (rest := []) (stk := [.int q13]) (G2 := (Cc, Bb, M)) C0 (c_X6_of hi (Cc := Cc) (Bb := Bb)  hcq13) kw_X6_48 bi_X6_of bx_X6_of id_c14 oc_14 rfl ⟨by decide, by decide⟩ ⟨Nat.zero_le _, Nat.zero_le _⟩ rfl rfl (Nat.le_of_ble_eq_true rfl) rfl rfl dX6_property_103 ?_
    exact j_iret C0 hr dX6_property_106 (so hf) rfl
  have hf := if_f c12 hf
  by_cases c14 : x2 = 5
  · have hf := if_t c14 hf
    refine j_tableEq C0 5 (tgt := 107) c14 dX6_property_8 (by decide) (by decide) rfl (by decide) ?_
    refine j_aload_n C0 dX6_property_107 rfl 1 rfl ?_
    refine j_iload_n C0 dX6_property_108 rfl 2 rfl ?_
    refine j_bipush (v := 6) C0 dX6_property_109 rfl ?_
    obtain ⟨q15, hcq15, hf⟩ := bd_some hf
    refine j_callV (As := [.int x1, .int (6 : Int32)]) (rest := []) (stk := [.int q15]) (G2 := (Cc, Bb, M)) C0 (c_X6_of hi (Cc := Cc) (Bb := Bb)  hcq15) kw_X6_48 bi_X6_of bx_X6_of id_c14 oc_14 rfl ⟨by decide, by decide⟩ ⟨Nat.zero_le _, Nat.zero_le _⟩ rfl rfl (Nat.le_of_ble_eq_true rfl) rfl rfl dX6_property_111 ?_
    exact j_iret C0 hr dX6_property_114 (so hf) rfl
  have hf := if_f c14 hf
  by_cases c16 : x2 = 6
  · have hf := if_t c16 hf
    refine j_tableEq C0 6 (tgt := 115) c16 dX6_property_8 (by decide) (by decide) rfl (by decide) ?_
    refine j_aload_n C0 dX6_property_115 rfl 1 rfl ?_
    refine j_iload_n C0 dX6_property_116 rfl 2 rfl ?_
    obtain ⟨q17, hcq17, hf⟩ := bd_some hf
    refine j_callV (As := [.int x1]) (rest := []) (stk := [.int q17]) (G2 := (Cc, Bb, M)) C0 (c_X6_dripOf hi (Cc := Cc) (Bb := Bb)  hcq17) kw_X6_90 bi_X6_dripOf bx_X6_dripOf id_c14 oc_14 rfl ⟨by decide, by decide⟩ ⟨Nat.zero_le _, Nat.zero_le _⟩ rfl rfl (Nat.le_of_ble_eq_true rfl) rfl rfl dX6_property_117 ?_
    exact j_iret C0 hr dX6_property_120 (so hf) rfl
  have hf := if_f c16 hf
  by_cases c18 : x2 = 7
  · have hf := if_t c18 hf
    refine j_tableEq C0 7 (tgt := 121) c18 dX6_property_8 (by decide) (by decide) rfl (by decide) ?_
    refine j_iload_n C0 dX6_property_121 rfl 0 rfl ?_
    refine j_iconst (v := 2) C0 dX6_property_122 rfl ?_
    refine j_icmp_ne (tgt := 136) C0 dX6_property_123 (by decide) (fun c19 => ?_) (fun c19 => ?_)
    · have hf := if_f c19 hf
      refine j_ldc (v := -1000004) C0 dX6_property_136 cw_X6_174 ?_
      exact j_iret C0 hr dX6_property_138 (so hf) rfl
    have hf := if_t c19 hf
    refine j_aload_n C0 dX6_property_126 rfl 1 rfl ?_
    refine j_iload_n C0 dX6_property_127 rfl 2 rfl ?_
    refine j_bipush (v := 8) C0 dX6_property_128 rfl ?_
    obtain ⟨q20, hcq20, hf⟩ := bd_some hf
    refine j_callV (As := [.int x1, .int (8 : Int32)]) (rest := []) (stk := [.int q20]) (G2 := (Cc, Bb, M)) C0 (c_X6_of hi (Cc := Cc) (Bb := Bb)  hcq20) kw_X6_48 bi_X6_of bx_X6_of id_c14 oc_14 rfl ⟨by decide, by decide⟩ ⟨Nat.zero_le _, Nat.zero_le _⟩ rfl rfl (Nat.le_of_ble_eq_true rfl) rfl rfl dX6_property_130 ?_
    refine j_goto (tgt := 138) C0 dX6_property_133 (by decide) ?_
    exact j_iret C0 hr dX6_property_138 (so hf) rfl
  have hf := if_f c18 hf
  by_cases c21 : x2 = 8
  · have hf := if_t c21 hf
    refine j_tableEq C0 8 (tgt := 139) c21 dX6_property_8 (by decide) (by decide) rfl (by decide) ?_
    refine j_aload_n C0 dX6_property_139 rfl 1 rfl ?_
    refine j_iload_n C0 dX6_property_140 rfl 2 rfl ?_
    refine j_iconst (v := 5) C0 dX6_property_141 rfl ?_
    obtain ⟨q22, hcq22, hf⟩ := bd_some hf
    refine j_callV (As := [.int x1, .int (5 : Int32)]) (rest := []) (stk := [.int q22]) (G2 := (Cc, Bb, M)) C0 (c_X6_of hi (Cc := Cc) (Bb := Bb)  hcq22) kw_X6_48 bi_X6_of bx_X6_of id_c14 oc_14 rfl ⟨by decide, by decide⟩ ⟨Nat.zero_le _, Nat.zero_le _⟩ rfl rfl (Nat.le_of_ble_eq_true rfl) rfl rfl dX6_property_142 ?_
    refine j_iload_n C0 dX6_property_145 rfl 2 rfl ?_
    refine j_icmp_ne (tgt := 154) C0 dX6_property_146 (by decide) (fun c23 => ?_) (fun c23 => ?_)
    · have hf := if_f c23 hf
      refine j_aload_n C0 dX6_property_154 rfl 1 rfl ?_
      refine j_iload_n C0 dX6_property_155 rfl 2 rfl ?_
      refine j_iconst (v := 5) C0 dX6_property_156 rfl ?_
      obtain ⟨q24, hcq24, hf⟩ := bd_some hf
      refine j_callV (As := [.int x1, .int (5 : Int32)]) (rest := []) (stk := [.int q24]) (G2 := (Cc, Bb, M)) C0 (c_X6_of hi (Cc := Cc) (Bb := Bb)  hcq24) kw_X6_48 bi_X6_of bx_X6_of id_c14 oc_14 rfl ⟨by decide, by decide⟩ ⟨Nat.zero_le _, Nat.zero_le _⟩ rfl rfl (Nat.le_of_ble_eq_true rfl) rfl rfl dX6_property_157 ?_
      exact j_iret C0 hr dX6_property_160 (so hf) rfl
    have hf := if_t c23 hf
    refine j_ldc (v := -1000004) C0 dX6_property_149 cw_X6_174 ?_
    refine j_goto (tgt := 160) C0 dX6_property_151 (by decide) ?_
    exact j_iret C0 hr dX6_property_160 (so hf) rfl
  have hf := if_f c21 hf
  by_cases c25 : x2 = 9
  · have hf := if_t c25 hf
    refine j_tableEq C0 9 (tgt := 161) c25 dX6_property_8 (by decide) (by decide) rfl (by decide) ?_
    refine j_aload_n C0 dX6_property_161 rfl 1 rfl ?_
    refine j_iload_n C0 dX6_property_162 rfl 2 rfl ?_
    refine j_bipush (v := 10) C0 dX6_property_163 rfl ?_
    obtain ⟨q26, hcq26, hf⟩ := bd_some hf
    refine j_callV (As := [.int x1, .int (10 : Int32)]) (rest := []) (stk := [.int q26]) (G2 := (Cc, Bb, M)) C0 (c_X6_of hi (Cc := Cc) (Bb := Bb)  hcq26) kw_X6_48 bi_X6_of bx_X6_of id_c14 oc_14 rfl ⟨by decide, by decide⟩ ⟨Nat.zero_le _, Nat.zero_le _⟩ rfl rfl (Nat.le_of_ble_eq_true rfl) rfl rfl dX6_property_165 ?_
    exact j_iret C0 hr dX6_property_168 (so hf) rfl
  have hf := if_f c25 hf
  by_cases c27 : x2 = 10
  · have hf := if_t c27 hf
    refine j_tableEq C0 10 (tgt := 169) c27 dX6_property_8 (by decide) (by decide) rfl (by decide) ?_
    refine j_aload_n C0 dX6_property_169 rfl 1 rfl ?_
    refine j_iload_n C0 dX6_property_170 rfl 2 rfl ?_
    refine j_bipush (v := 11) C0 dX6_property_171 rfl ?_
    obtain ⟨q28, hcq28, hf⟩ := bd_some hf
    refine j_callV (As := [.int x1, .int (11 : Int32)]) (rest := []) (stk := [.int q28]) (G2 := (Cc, Bb, M)) C0 (c_X6_of hi (Cc := Cc) (Bb := Bb)  hcq28) kw_X6_48 bi_X6_of bx_X6_of id_c14 oc_14 rfl ⟨by decide, by decide⟩ ⟨Nat.zero_le _, Nat.zero_le _⟩ rfl rfl (Nat.le_of_ble_eq_true rfl) rfl rfl dX6_property_173 ?_
    exact j_iret C0 hr dX6_property_176 (so hf) rfl
  have hf := if_f c27 hf
  exact (none_ne hf).elim

set_option maxHeartbeats 4000000 in
set_option maxRecDepth 100000 in
theorem c_X6_clockOf {l : Launch} {D : va_G} {ca : Nat → ClassId} {ad : I3 → Nat} (hi : adI ad) {Cc : Nat → Nat → Int32} {Bb : Nat → Fin 9} {M : Nat → Nat → Int32} {x1 : Int32} {x2 : Int32} {r0 : Int32}  (hf : fM_clockOf M x1 x2 = some (r0)) : MT l D ca ad yX6_clockOf cX6_clockOf 3 (some .int) 3 67 [.ref (ad (14, 0, 0)), .int x1, .int x2] (Cc, Bb, M) (some (.int r0)) (Cc, Bb, M) := by
  refine met_J (lv := [(0, .ref (ad (14, 0, 0))), (1, .int x1), (2, .int x2)]) hi (by decide +kernel) (Nat.le_of_ble_eq_true rfl) rfl (fun p e s m below meth c C0 hr => ?_)
  unfold fM_clockOf at hf
  refine j_aload_n C0 dX6_clockOf_0 rfl 0 rfl ?_
  refine j_iload_n C0 dX6_clockOf_1 rfl 1 rfl ?_
  obtain ⟨q1, hcq1, hf⟩ := bd_some hf
  refine j_callV (As := [.int x1]) (rest := []) (stk := [.int q1]) (G2 := (Cc, Bb, M)) C0 (c_X6_isClock hi (Cc := Cc) (Bb := Bb)  hcq1) kw_X6_125 bi_X6_isClock bx_X6_isClock id_c14 oc_14 rfl ⟨by decide, by decide⟩ ⟨Nat.zero_le _, Nat.zero_le _⟩ rfl rfl (Nat.le_of_ble_eq_true rfl) rfl rfl dX6_clockOf_2 ?_
  refine j_if_eq (tgt := 27) C0 dX6_clockOf_5 (by decide) (fun c2 => ?_) (fun c2 => ?_)
  · have hf := if_t c2 hf
    refine j_ldc (v := -1000001) C0 dX6_clockOf_27 cw_X6_35 ?_
    exact j_iret C0 hr dX6_clockOf_29 (so hf) rfl
  have hf := if_f c2 hf
  refine j_iload_n C0 dX6_clockOf_8 rfl 2 rfl ?_
  refine j_iconst (v := 0) C0 dX6_clockOf_9 rfl ?_
  refine j_bipush (v := 11) C0 dX6_clockOf_10 rfl ?_
  obtain ⟨q3, hcq3, hf⟩ := bd_some hf
  refine j_callS (As := [.int x2, .int (0 : Int32), .int (11 : Int32)]) (rest := []) (stk := [.int q3]) (G2 := (Cc, Bb, M)) C0 (c_X6_in hi (G0 := (Cc, Bb, M))  hcq3) kw_X6_36 bi_X6_in rfl ⟨by decide, by decide⟩ ⟨Nat.zero_le _, Nat.zero_le _⟩ rfl rfl (Nat.le_of_ble_eq_true rfl) rfl rfl dX6_clockOf_12 ?_
  refine j_if_eq (tgt := 27) C0 dX6_clockOf_15 (by decide) (fun c4 => ?_) (fun c4 => ?_)
  · have hf := if_t c4 hf
    refine j_ldc (v := -1000001) C0 dX6_clockOf_27 cw_X6_35 ?_
    exact j_iret C0 hr dX6_clockOf_29 (so hf) rfl
  have hf := if_f c4 hf
  refine j_aload_n C0 dX6_clockOf_18 rfl 0 rfl ?_
  refine j_iload_n C0 dX6_clockOf_19 rfl 1 rfl ?_
  refine j_iload_n C0 dX6_clockOf_20 rfl 2 rfl ?_
  obtain ⟨q5, hcq5, hf⟩ := bd_some hf
  refine j_callV (As := [.int x1, .int x2]) (rest := []) (stk := [.int q5]) (G2 := (Cc, Bb, M)) C0 (c_X6_property hi (Cc := Cc) (Bb := Bb)  hcq5) kw_X6_175 bi_X6_property bx_X6_property id_c14 oc_14 rfl ⟨by decide, by decide⟩ ⟨Nat.zero_le _, Nat.zero_le _⟩ rfl rfl (Nat.le_of_ble_eq_true rfl) rfl rfl dX6_clockOf_21 ?_
  refine j_goto (tgt := 29) C0 dX6_clockOf_24 (by decide) ?_
  exact j_iret C0 hr dX6_clockOf_29 (so hf) rfl

set_option maxHeartbeats 4000000 in
set_option maxRecDepth 100000 in
theorem c_X6_hour {l : Launch} {D : va_G} {ca : Nat → ClassId} {ad : I3 → Nat} (hi : adI ad) {Cc : Nat → Nat → Int32} {Bb : Nat → Fin 9} {M : Nat → Nat → Int32} {x1 : Int32} {x2 : Int32} {r0 : Int32}  (hf : fM_hour M x1 x2 = some (r0)) : MT l D ca ad yX6_hour cX6_hour 3 (some .int) 4 86 [.ref (ad (14, 0, 0)), .int x1, .int x2] (Cc, Bb, M) (some (.int r0)) (Cc, Bb, M) := by
  refine met_J (lv := [(0, .ref (ad (14, 0, 0))), (1, .int x1), (2, .int x2)]) hi (by decide +kernel) (Nat.le_of_ble_eq_true rfl) rfl (fun p e s m below meth c C0 hr => ?_)
  unfold fM_hour at hf
  refine j_aload_n C0 dX6_hour_0 rfl 0 rfl ?_
  refine j_iload_n C0 dX6_hour_1 rfl 1 rfl ?_
  obtain ⟨q1, hcq1, hf⟩ := bd_some hf
  refine j_callV (As := [.int x1]) (rest := []) (stk := [.int q1]) (G2 := (Cc, Bb, M)) C0 (c_X6_isClock hi (Cc := Cc) (Bb := Bb)  hcq1) kw_X6_125 bi_X6_isClock bx_X6_isClock id_c14 oc_14 rfl ⟨by decide, by decide⟩ ⟨Nat.zero_le _, Nat.zero_le _⟩ rfl rfl (Nat.le_of_ble_eq_true rfl) rfl rfl dX6_hour_2 ?_
  refine j_if_eq (tgt := 17) C0 dX6_hour_5 (by decide) (fun c2 => ?_) (fun c2 => ?_)
  · have hf := if_t c2 hf
    refine j_ldc (v := -1000001) C0 dX6_hour_17 cw_X6_35 ?_
    exact j_iret C0 hr dX6_hour_19 (so hf) rfl
  have hf := if_f c2 hf
  refine j_iload_n C0 dX6_hour_8 rfl 2 rfl ?_
  refine j_iconst (v := 0) C0 dX6_hour_9 rfl ?_
  refine j_iconst (v := 2) C0 dX6_hour_10 rfl ?_
  obtain ⟨q3, hcq3, hf⟩ := bd_some hf
  refine j_callS (As := [.int x2, .int (0 : Int32), .int (2 : Int32)]) (rest := []) (stk := [.int q3]) (G2 := (Cc, Bb, M)) C0 (c_X6_in hi (G0 := (Cc, Bb, M))  hcq3) kw_X6_36 bi_X6_in rfl ⟨by decide, by decide⟩ ⟨Nat.zero_le _, Nat.zero_le _⟩ rfl rfl (Nat.le_of_ble_eq_true rfl) rfl rfl dX6_hour_11 ?_
  refine j_if_ne (tgt := 20) C0 dX6_hour_14 (by decide) (fun c4 => ?_) (fun c4 => ?_)
  · have hf := if_f c4 hf
    refine j_iload_n C0 dX6_hour_20 rfl 2 rfl ?_
    refine j_if_ne (tgt := 36) C0 dX6_hour_21 (by decide) (fun c5 => ?_) (fun c5 => ?_)
    · have hf := if_f c5 hf
      refine j_iload_n C0 dX6_hour_36 rfl 2 rfl ?_
      refine j_iconst (v := 1) C0 dX6_hour_37 rfl ?_
      refine j_icmp_ne (tgt := 53) C0 dX6_hour_38 (by decide) (fun c6 => ?_) (fun c6 => ?_)
      · have hf := if_f c6 hf
        refine j_aload_n C0 dX6_hour_53 rfl 0 rfl ?_
        obtain ⟨q7, hcq7, hf⟩ := bd_some hf
        refine j_callV (As := []) (rest := []) (stk := [.int q7]) (G2 := (Cc, Bb, M)) C0 (c_X6_trueHour hi (Cc := Cc) (Bb := Bb)  hcq7) kw_X6_62 bi_X6_trueHour bx_X6_trueHour id_c14 oc_14 rfl ⟨by decide, by decide⟩ ⟨Nat.zero_le _, Nat.zero_le _⟩ rfl rfl (Nat.le_of_ble_eq_true rfl) rfl rfl dX6_hour_54 ?_
        exact j_iret C0 hr dX6_hour_57 (so hf) rfl
      have hf := if_t c6 hf
      refine j_aload_n C0 dX6_hour_41 rfl 0 rfl ?_
      refine j_iload_n C0 dX6_hour_42 rfl 1 rfl ?_
      obtain ⟨q8, hcq8, hf⟩ := bd_some hf
      refine j_callV (As := [.int x1]) (rest := []) (stk := [.int q8]) (G2 := (Cc, Bb, M)) C0 (c_X6_error hi (Cc := Cc) (Bb := Bb)  hcq8) kw_X6_66 bi_X6_error bx_X6_error id_c14 oc_14 rfl ⟨by decide, by decide⟩ ⟨Nat.zero_le _, Nat.zero_le _⟩ rfl rfl (Nat.le_of_ble_eq_true rfl) rfl rfl dX6_hour_43 ?_
      refine j_sipush (v := 10000) C0 dX6_hour_46 rfl ?_
      refine j_iadd C0 dX6_hour_49 ?_
      refine j_goto (tgt := 57) C0 dX6_hour_50 (by decide) ?_
      exact j_iret C0 hr dX6_hour_57 (so hf) rfl
    have hf := if_t c5 hf
    refine j_aload_n C0 dX6_hour_24 rfl 0 rfl ?_
    refine j_iload_n C0 dX6_hour_25 rfl 1 rfl ?_
    obtain ⟨q9, hcq9, hf⟩ := bd_some hf
    refine j_callV (As := [.int x1]) (rest := []) (stk := [.int q9]) (G2 := (Cc, Bb, M)) C0 (c_X6_hourOf hi (Cc := Cc) (Bb := Bb)  hcq9) kw_X6_59 bi_X6_hourOf bx_X6_hourOf id_c14 oc_14 rfl ⟨by decide, by decide⟩ ⟨Nat.zero_le _, Nat.zero_le _⟩ rfl rfl (Nat.le_of_ble_eq_true rfl) rfl rfl dX6_hour_26 ?_
    refine j_sipush (v := 10000) C0 dX6_hour_29 rfl ?_
    refine j_iadd C0 dX6_hour_32 ?_
    refine j_goto (tgt := 57) C0 dX6_hour_33 (by decide) ?_
    exact j_iret C0 hr dX6_hour_57 (so hf) rfl
  have hf := if_t c4 hf
  refine j_ldc (v := -1000001) C0 dX6_hour_17 cw_X6_35 ?_
  exact j_iret C0 hr dX6_hour_19 (so hf) rfl

set_option maxHeartbeats 4000000 in
set_option maxRecDepth 100000 in
theorem c_X6_sum {l : Launch} {D : va_G} {ca : Nat → ClassId} {ad : I3 → Nat} (hi : adI ad) {Cc : Nat → Nat → Int32} {Bb : Nat → Fin 9} {M : Nat → Nat → Int32} {x1 : Int32} {r0 : Int32}  (hf : fM_sum M x1 = some (r0)) : MT l D ca ad yX6_sum cX6_sum 4 (some .int) 1 22 [.ref (ad (14, 0, 0)), .int x1] (Cc, Bb, M) (some (.int r0)) (Cc, Bb, M) := by
  refine met_J (lv := [(0, .ref (ad (14, 0, 0))), (1, .int x1)]) hi (by decide +kernel) (Nat.le_of_ble_eq_true rfl) rfl (fun p e s m below meth c C0 hr => ?_)
  have L4 : ∀ (n : Nat) (M : Nat → Nat → Int32) (y1 : Int32) (y2 : Int32) (y3 : Int32), fM_sum_L4 n M y1 y2 y3 = some (r0) → J D ca ad p l e ({ frames := 1, cells := 0, slots := 0, locals := 22 }) s m [.ref (ad (14, 0, 0)), .int x1].toArray below meth c 0 0 (MQ below (post D ca ad (some (.int r0)) (Cc, Bb, M)) [.ref (ad (14, 0, 0)), .int x1].toArray s 0 0 (adA ad)) 4 (Cc, Bb, M) 4 [(0, .ref (ad (14, 0, 0))), (1, .int y1), (2, .int y2), (3, .int y3)] [] := by
    intro n
    induction n with
    | zero =>
      intro M y1 y2 y3 hf
      exact (none_ne hf).elim
    | succ n ih =>
      intro M y1 y2 y3 hf
      rw [fM_sum_L4] at hf
      refine j_iload_n C0 dX6_sum_4 rfl 3 rfl ?_
      refine j_aload_n C0 dX6_sum_5 rfl 0 rfl ?_
      refine j_getr (id2 := (15, 0, 0)) C0 fl_X6_7 rl_6_0 id_c14 dX6_sum_6 ?_
      refine j_bipush (v := 19) C0 dX6_sum_9 rfl ?_
      refine j_iald (x := (M 0 19)) C0 al_15_0 rfl id_m0 (by decide) (by rw [Nat.zero_add]; rfl) dX6_sum_11 ?_
      refine j_icmp_ge (tgt := 30) C0 dX6_sum_12 (by decide) (fun c1 => ?_) (fun c1 => ?_)
      · have hf := if_t c1 hf
        refine j_iload_n C0 dX6_sum_30 rfl 2 rfl ?_
        exact j_iret C0 hr dX6_sum_31 (so hf) rfl
      have hf := if_f c1 hf
      refine j_iload_n C0 dX6_sum_15 rfl 2 rfl ?_
      refine j_aload_n C0 dX6_sum_16 rfl 0 rfl ?_
      refine j_iload_n C0 dX6_sum_17 rfl 3 rfl ?_
      refine j_iload_n C0 dX6_sum_18 rfl 1 rfl ?_
      obtain ⟨q2, hcq2, hf⟩ := bd_some hf
      refine j_callV (As := [.int y3, .int y1]) (rest := [.int y2]) (stk := [.int q2, .int y2]) (G2 := (Cc, Bb, M)) C0 (c_X6_of hi (Cc := Cc) (Bb := Bb)  hcq2) kw_X6_48 bi_X6_of bx_X6_of id_c14 oc_14 rfl ⟨by decide, by decide⟩ ⟨Nat.zero_le _, Nat.zero_le _⟩ rfl rfl (Nat.le_of_ble_eq_true rfl) rfl rfl dX6_sum_19 ?_
      refine j_iadd C0 dX6_sum_22 ?_
      refine j_istore_n (lv' := [(2, .int (y2 + q2)), (0, .ref (ad (14, 0, 0))), (1, .int y1), (3, .int y3)]) C0 dX6_sum_23 rfl (by decide) rfl ?_
      refine j_iinc (v := (y3 + 1)) (lv' := [(3, .int (y3 + 1)), (2, .int (y2 + q2)), (0, .ref (ad (14, 0, 0))), (1, .int y1)]) C0 dX6_sum_24 3 rfl rfl (by decide) rfl ?_
      refine j_goto (tgt := 4) C0 dX6_sum_27 (by decide) ?_
      exact j_sub [2, 3, 1, 0] rfl (ih M y1 (y2 + q2) (y3 + 1) hf)
  unfold fM_sum at hf
  refine j_iconst (v := 0) C0 dX6_sum_0 rfl ?_
  refine j_istore_n (lv' := [(2, .int (0 : Int32)), (0, .ref (ad (14, 0, 0))), (1, .int x1)]) C0 dX6_sum_1 rfl (by decide) rfl ?_
  refine j_iconst (v := 0) C0 dX6_sum_2 rfl ?_
  refine j_istore_n (lv' := [(3, .int (0 : Int32)), (2, .int (0 : Int32)), (0, .ref (ad (14, 0, 0))), (1, .int x1)]) C0 dX6_sum_3 rfl (by decide) rfl ?_
  exact j_sub [2, 3, 1, 0] rfl (L4 fuel M x1 (0 : Int32) (0 : Int32) hf)

set_option maxHeartbeats 4000000 in
set_option maxRecDepth 100000 in
theorem c_X6_water {l : Launch} {D : va_G} {ca : Nat → ClassId} {ad : I3 → Nat} (hi : adI ad) {Cc : Nat → Nat → Int32} {Bb : Nat → Fin 9} {M : Nat → Nat → Int32} {x1 : Int32} {r0 : Int32}  (hf : fM_water M x1 = some (r0)) : MT l D ca ad yX6_water cX6_water 2 (some .int) 2 45 [.ref (ad (14, 0, 0)), .int x1] (Cc, Bb, M) (some (.int r0)) (Cc, Bb, M) := by
  refine met_J (lv := [(0, .ref (ad (14, 0, 0))), (1, .int x1)]) hi (by decide +kernel) (Nat.le_of_ble_eq_true rfl) rfl (fun p e s m below meth c C0 hr => ?_)
  unfold fM_water at hf
  refine j_iload_n C0 dX6_water_0 rfl 1 rfl ?_
  by_cases c1 : (x1.toInt < 0 ∨ 9 < x1.toInt)
  · have hf := if_t c1 hf
    refine j_tableOut (tgt := 166) C0 dX6_water_1 c1 (by decide) ?_
    refine j_ldc (v := -1000001) C0 dX6_water_166 cw_X6_35 ?_
    exact j_iret C0 hr dX6_water_168 (so hf) rfl
  have hf := if_f c1 hf
  by_cases c2 : x1 = 0
  · have hf := if_t c2 hf
    refine j_tableEq C0 0 (tgt := 56) c2 dX6_water_1 (by decide) (by decide) rfl (by decide) ?_
    refine j_aload_n C0 dX6_water_56 rfl 0 rfl ?_
    refine j_getr (id2 := (15, 0, 0)) C0 fl_X6_7 rl_6_0 id_c14 dX6_water_57 ?_
    refine j_bipush (v := 7) C0 dX6_water_60 rfl ?_
    refine j_iald (x := (M 0 7)) C0 al_15_0 rfl id_m0 (by decide) (by rw [Nat.zero_add]; rfl) dX6_water_62 ?_
    exact j_iret C0 hr dX6_water_63 (so hf) rfl
  have hf := if_f c2 hf
  by_cases c3 : x1 = 1
  · have hf := if_t c3 hf
    refine j_tableEq C0 1 (tgt := 64) c3 dX6_water_1 (by decide) (by decide) rfl (by decide) ?_
    refine j_aload_n C0 dX6_water_64 rfl 0 rfl ?_
    refine j_iconst (v := 3) C0 dX6_water_65 rfl ?_
    obtain ⟨q4, hcq4, hf⟩ := bd_some hf
    refine j_callV (As := [.int (3 : Int32)]) (rest := []) (stk := [.int q4]) (G2 := (Cc, Bb, M)) C0 (c_X6_sum hi (Cc := Cc) (Bb := Bb)  hcq4) kw_X6_178 bi_X6_sum bx_X6_sum id_c14 oc_14 rfl ⟨by decide, by decide⟩ ⟨Nat.zero_le _, Nat.zero_le _⟩ rfl rfl (Nat.le_of_ble_eq_true rfl) rfl rfl dX6_water_66 ?_
    exact j_iret C0 hr dX6_water_69 (so hf) rfl
  have hf := if_f c3 hf
  by_cases c5 : x1 = 2
  · have hf := if_t c5 hf
    refine j_tableEq C0 2 (tgt := 70) c5 dX6_water_1 (by decide) (by decide) rfl (by decide) ?_
    refine j_aload_n C0 dX6_water_70 rfl 0 rfl ?_
    refine j_iconst (v := 4) C0 dX6_water_71 rfl ?_
    obtain ⟨q6, hcq6, hf⟩ := bd_some hf
    refine j_callV (As := [.int (4 : Int32)]) (rest := []) (stk := [.int q6]) (G2 := (Cc, Bb, M)) C0 (c_X6_sum hi (Cc := Cc) (Bb := Bb)  hcq6) kw_X6_178 bi_X6_sum bx_X6_sum id_c14 oc_14 rfl ⟨by decide, by decide⟩ ⟨Nat.zero_le _, Nat.zero_le _⟩ rfl rfl (Nat.le_of_ble_eq_true rfl) rfl rfl dX6_water_72 ?_
    exact j_iret C0 hr dX6_water_75 (so hf) rfl
  have hf := if_f c5 hf
  by_cases c7 : x1 = 3
  · have hf := if_t c7 hf
    refine j_tableEq C0 3 (tgt := 76) c7 dX6_water_1 (by decide) (by decide) rfl (by decide) ?_
    refine j_aload_n C0 dX6_water_76 rfl 0 rfl ?_
    refine j_getr (id2 := (15, 0, 0)) C0 fl_X6_7 rl_6_0 id_c14 dX6_water_77 ?_
    refine j_bipush (v := 8) C0 dX6_water_80 rfl ?_
    refine j_iald (x := (M 0 8)) C0 al_15_0 rfl id_m0 (by decide) (by rw [Nat.zero_add]; rfl) dX6_water_82 ?_
    exact j_iret C0 hr dX6_water_83 (so hf) rfl
  have hf := if_f c7 hf
  by_cases c8 : x1 = 4
  · have hf := if_t c8 hf
    refine j_tableEq C0 4 (tgt := 84) c8 dX6_water_1 (by decide) (by decide) rfl (by decide) ?_
    refine j_aload_n C0 dX6_water_84 rfl 0 rfl ?_
    refine j_getr (id2 := (15, 0, 0)) C0 fl_X6_7 rl_6_0 id_c14 dX6_water_85 ?_
    refine j_bipush (v := 9) C0 dX6_water_88 rfl ?_
    refine j_iald (x := (M 0 9)) C0 al_15_0 rfl id_m0 (by decide) (by rw [Nat.zero_add]; rfl) dX6_water_90 ?_
    exact j_iret C0 hr dX6_water_91 (so hf) rfl
  have hf := if_f c8 hf
  by_cases c9 : x1 = 5
  · have hf := if_t c9 hf
    refine j_tableEq C0 5 (tgt := 92) c9 dX6_water_1 (by decide) (by decide) rfl (by decide) ?_
    refine j_aload_n C0 dX6_water_92 rfl 0 rfl ?_
    refine j_getr (id2 := (15, 0, 0)) C0 fl_X6_7 rl_6_0 id_c14 dX6_water_93 ?_
    refine j_bipush (v := 7) C0 dX6_water_96 rfl ?_
    refine j_iald (x := (M 0 7)) C0 al_15_0 rfl id_m0 (by decide) (by rw [Nat.zero_add]; rfl) dX6_water_98 ?_
    refine j_aload_n C0 dX6_water_99 rfl 0 rfl ?_
    refine j_iconst (v := 3) C0 dX6_water_100 rfl ?_
    obtain ⟨q10, hcq10, hf⟩ := bd_some hf
    refine j_callV (As := [.int (3 : Int32)]) (rest := [.int (M 0 7)]) (stk := [.int q10, .int (M 0 7)]) (G2 := (Cc, Bb, M)) C0 (c_X6_sum hi (Cc := Cc) (Bb := Bb)  hcq10) kw_X6_178 bi_X6_sum bx_X6_sum id_c14 oc_14 rfl ⟨by decide, by decide⟩ ⟨Nat.zero_le _, Nat.zero_le _⟩ rfl rfl (Nat.le_of_ble_eq_true rfl) rfl rfl dX6_water_101 ?_
    refine j_iadd C0 dX6_water_104 ?_
    refine j_aload_n C0 dX6_water_105 rfl 0 rfl ?_
    refine j_iconst (v := 4) C0 dX6_water_106 rfl ?_
    obtain ⟨q11, hcq11, hf⟩ := bd_some hf
    refine j_callV (As := [.int (4 : Int32)]) (rest := [.int ((M 0 7) + q10)]) (stk := [.int q11, .int ((M 0 7) + q10)]) (G2 := (Cc, Bb, M)) C0 (c_X6_sum hi (Cc := Cc) (Bb := Bb)  hcq11) kw_X6_178 bi_X6_sum bx_X6_sum id_c14 oc_14 rfl ⟨by decide, by decide⟩ ⟨Nat.zero_le _, Nat.zero_le _⟩ rfl rfl (Nat.le_of_ble_eq_true rfl) rfl rfl dX6_water_107 ?_
    refine j_iadd C0 dX6_water_110 ?_
    refine j_aload_n C0 dX6_water_111 rfl 0 rfl ?_
    refine j_getr (id2 := (15, 0, 0)) C0 fl_X6_7 rl_6_0 id_c14 dX6_water_112 ?_
    refine j_bipush (v := 8) C0 dX6_water_115 rfl ?_
    refine j_iald (x := (M 0 8)) C0 al_15_0 rfl id_m0 (by decide) (by rw [Nat.zero_add]; rfl) dX6_water_117 ?_
    refine j_iadd C0 dX6_water_118 ?_
    refine j_aload_n C0 dX6_water_119 rfl 0 rfl ?_
    refine j_getr (id2 := (15, 0, 0)) C0 fl_X6_7 rl_6_0 id_c14 dX6_water_120 ?_
    refine j_bipush (v := 9) C0 dX6_water_123 rfl ?_
    refine j_iald (x := (M 0 9)) C0 al_15_0 rfl id_m0 (by decide) (by rw [Nat.zero_add]; rfl) dX6_water_125 ?_
    refine j_iadd C0 dX6_water_126 ?_
    exact j_iret C0 hr dX6_water_127 (so hf) rfl
  have hf := if_f c9 hf
  by_cases c12 : x1 = 6
  · have hf := if_t c12 hf
    refine j_tableEq C0 6 (tgt := 128) c12 dX6_water_1 (by decide) (by decide) rfl (by decide) ?_
    refine j_aload_n C0 dX6_water_128 rfl 0 rfl ?_
    refine j_getr (id2 := (15, 0, 0)) C0 fl_X6_7 rl_6_0 id_c14 dX6_water_129 ?_
    refine j_bipush (v := 10) C0 dX6_water_132 rfl ?_
    refine j_iald (x := (M 0 10)) C0 al_15_0 rfl id_m0 (by decide) (by rw [Nat.zero_add]; rfl) dX6_water_134 ?_
    exact j_iret C0 hr dX6_water_135 (so hf) rfl
  have hf := if_f c12 hf
  by_cases c13 : x1 = 7
  · have hf := if_t c13 hf
    refine j_tableEq C0 7 (tgt := 136) c13 dX6_water_1 (by decide) (by decide) rfl (by decide) ?_
    refine j_aload_n C0 dX6_water_136 rfl 0 rfl ?_
    refine j_getr (id2 := (15, 0, 0)) C0 fl_X6_7 rl_6_0 id_c14 dX6_water_137 ?_
    refine j_bipush (v := 11) C0 dX6_water_140 rfl ?_
    refine j_iald (x := (M 0 11)) C0 al_15_0 rfl id_m0 (by decide) (by rw [Nat.zero_add]; rfl) dX6_water_142 ?_
    exact j_iret C0 hr dX6_water_143 (so hf) rfl
  have hf := if_f c13 hf
  by_cases c14 : x1 = 8
  · have hf := if_t c14 hf
    refine j_tableEq C0 8 (tgt := 144) c14 dX6_water_1 (by decide) (by decide) rfl (by decide) ?_
    refine j_aload_n C0 dX6_water_144 rfl 0 rfl ?_
    refine j_getr (id2 := (15, 0, 0)) C0 fl_X6_7 rl_6_0 id_c14 dX6_water_145 ?_
    refine j_bipush (v := 12) C0 dX6_water_148 rfl ?_
    refine j_iald (x := (M 0 12)) C0 al_15_0 rfl id_m0 (by decide) (by rw [Nat.zero_add]; rfl) dX6_water_150 ?_
    refine j_aload_n C0 dX6_water_151 rfl 0 rfl ?_
    refine j_iconst (v := 3) C0 dX6_water_152 rfl ?_
    obtain ⟨q15, hcq15, hf⟩ := bd_some hf
    refine j_callV (As := [.int (3 : Int32)]) (rest := [.int (M 0 12)]) (stk := [.int q15, .int (M 0 12)]) (G2 := (Cc, Bb, M)) C0 (c_X6_sum hi (Cc := Cc) (Bb := Bb)  hcq15) kw_X6_178 bi_X6_sum bx_X6_sum id_c14 oc_14 rfl ⟨by decide, by decide⟩ ⟨Nat.zero_le _, Nat.zero_le _⟩ rfl rfl (Nat.le_of_ble_eq_true rfl) rfl rfl dX6_water_153 ?_
    refine j_isub C0 dX6_water_156 ?_
    exact j_iret C0 hr dX6_water_157 (so hf) rfl
  have hf := if_f c14 hf
  by_cases c16 : x1 = 9
  · have hf := if_t c16 hf
    refine j_tableEq C0 9 (tgt := 158) c16 dX6_water_1 (by decide) (by decide) rfl (by decide) ?_
    refine j_aload_n C0 dX6_water_158 rfl 0 rfl ?_
    refine j_getr (id2 := (15, 0, 0)) C0 fl_X6_7 rl_6_0 id_c14 dX6_water_159 ?_
    refine j_bipush (v := 13) C0 dX6_water_162 rfl ?_
    refine j_iald (x := (M 0 13)) C0 al_15_0 rfl id_m0 (by decide) (by rw [Nat.zero_add]; rfl) dX6_water_164 ?_
    exact j_iret C0 hr dX6_water_165 (so hf) rfl
  have hf := if_f c16 hf
  exact (none_ne hf).elim

