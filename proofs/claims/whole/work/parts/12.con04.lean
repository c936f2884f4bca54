set_option maxHeartbeats 4000000 in
set_option maxRecDepth 100000 in
theorem c_X6_trueHour {l : Launch} {D : va_G} {ca : Nat → ClassId} {ad : I3 → Nat} (hi : adI ad) {Cc : Nat → Nat → Int32} {Bb : Nat → Fin 9} {M : Nat → Nat → Int32} {r0 : Int32}  (hf : fM_trueHour M = some (r0)) : MT l D ca ad yX6_trueHour cX6_trueHour 1 (some .int) 0 0 [.ref (ad (14, 0, 0))] (Cc, Bb, M) (some (.int r0)) (Cc, Bb, M) := by
  refine met_J (lv := [(0, .ref (ad (14, 0, 0)))]) hi (by decide +kernel) (Nat.le_of_ble_eq_true rfl) rfl (fun p e s m below meth c C0 hr => ?_)
  unfold fM_trueHour at hf
  refine j_aload_n C0 dX6_trueHour_0 rfl 0 rfl ?_
  refine j_getr (id2 := (15, 0, 0)) C0 fl_X6_7 rl_6_0 id_c14 dX6_trueHour_1 ?_
  refine j_bipush (v := 6) C0 dX6_trueHour_4 rfl ?_
  refine j_iald (x := (M 0 6)) C0 al_15_0 rfl id_m0 (by decide) (by rw [Nat.zero_add]; rfl) dX6_trueHour_6 ?_
  refine j_aload_n C0 dX6_trueHour_7 rfl 0 rfl ?_
  refine j_getr (id2 := (15, 0, 0)) C0 fl_X6_7 rl_6_0 id_c14 dX6_trueHour_8 ?_
  refine j_iconst (v := 3) C0 dX6_trueHour_11 rfl ?_
  refine j_iald (x := (M 0 3)) C0 al_15_0 rfl id_m0 (by decide) (by rw [Nat.zero_add]; rfl) dX6_trueHour_12 ?_
  obtain ⟨h1, hf⟩ := gd_some hf
  refine j_idiv C0 dX6_trueHour_13 h1 ?_
  exact j_iret C0 hr dX6_trueHour_14 (so hf) rfl

set_option maxHeartbeats 4000000 in
set_option maxRecDepth 100000 in
theorem c_X6_drops {l : Launch} {D : va_G} {ca : Nat → ClassId} {ad : I3 → Nat} (hi : adI ad) {Cc : Nat → Nat → Int32} {Bb : Nat → Fin 9} {M : Nat → Nat → Int32} {x1 : Int32} {r0 : Int32}  (hf : fM_drops M x1 = some (r0)) : MT l D ca ad yX6_drops cX6_drops 3 (some .int) 1 22 [.ref (ad (14, 0, 0)), .int x1] (Cc, Bb, M) (some (.int r0)) (Cc, Bb, M) := by
  refine met_J (lv := [(0, .ref (ad (14, 0, 0))), (1, .int x1)]) hi (by decide +kernel) (Nat.le_of_ble_eq_true rfl) rfl (fun p e s m below meth c C0 hr => ?_)
  unfold fM_drops at hf
  refine j_aload_n C0 dX6_drops_0 rfl 0 rfl ?_
  refine j_iload_n C0 dX6_drops_1 rfl 1 rfl ?_
  refine j_iconst (v := 0) C0 dX6_drops_2 rfl ?_
  obtain ⟨q1, hcq1, hf⟩ := bd_some hf
  refine j_callV (As := [.int x1, .int (0 : Int32)]) (rest := []) (stk := [.int q1]) (G2 := (Cc, Bb, M)) C0 (c_X6_of hi (Cc := Cc) (Bb := Bb)  hcq1) kw_X6_48 bi_X6_of bx_X6_of id_c14 oc_14 rfl ⟨by decide, by decide⟩ ⟨Nat.zero_le _, Nat.zero_le _⟩ rfl rfl (Nat.le_of_ble_eq_true rfl) rfl rfl dX6_drops_3 ?_
  refine j_istore_n (lv' := [(2, .int q1), (0, .ref (ad (14, 0, 0))), (1, .int x1)]) C0 dX6_drops_6 rfl (by decide) rfl ?_
  refine j_iload_n C0 dX6_drops_7 rfl 0 rfl ?_
  refine j_if_ne (tgt := 21) C0 dX6_drops_8 (by decide) (fun c2 => ?_) (fun c2 => ?_)
  · have hf := if_f c2 hf
    refine j_iload_n C0 dX6_drops_21 rfl 0 rfl ?_
    refine j_iconst (v := 1) C0 dX6_drops_22 rfl ?_
    refine j_icmp_ne (tgt := 35) C0 dX6_drops_23 (by decide) (fun c3 => ?_) (fun c3 => ?_)
    · have hf := if_f c3 hf
      refine j_aload_n C0 dX6_drops_35 rfl 1 rfl ?_
      refine j_iload_n C0 dX6_drops_36 rfl 2 rfl ?_
      refine j_bipush (v := 9) C0 dX6_drops_37 rfl ?_
      obtain ⟨q4, hcq4, hf⟩ := bd_some hf
      refine j_callV (As := [.int x1, .int (9 : Int32)]) (rest := []) (stk := [.int q4]) (G2 := (Cc, Bb, M)) C0 (c_X6_of hi (Cc := Cc) (Bb := Bb)  hcq4) kw_X6_48 bi_X6_of bx_X6_of id_c14 oc_14 rfl ⟨by decide, by decide⟩ ⟨Nat.zero_le _, Nat.zero_le _⟩ rfl rfl (Nat.le_of_ble_eq_true rfl) rfl rfl dX6_drops_39 ?_
      refine j_aload_n C0 dX6_drops_42 rfl 1 rfl ?_
      refine j_iload_n C0 dX6_drops_43 rfl 2 rfl ?_
      refine j_iconst (v := 4) C0 dX6_drops_44 rfl ?_
      obtain ⟨q5, hcq5, hf⟩ := bd_some hf
      refine j_callV (As := [.int x1, .int (4 : Int32)]) (rest := [.int q4]) (stk := [.int q5, .int q4]) (G2 := (Cc, Bb, M)) C0 (c_X6_of hi (Cc := Cc) (Bb := Bb)  hcq5) kw_X6_48 bi_X6_of bx_X6_of id_c14 oc_14 rfl ⟨by decide, by decide⟩ ⟨Nat.zero_le _, Nat.zero_le _⟩ rfl rfl (Nat.le_of_ble_eq_true rfl) rfl rfl dX6_drops_45 ?_
      refine j_iadd C0 dX6_drops_48 ?_
      exact j_iret C0 hr dX6_drops_49 (so hf) rfl
    have hf := if_t c3 hf
    refine j_aload_n C0 dX6_drops_26 rfl 1 rfl ?_
    refine j_iload_n C0 dX6_drops_27 rfl 2 rfl ?_
    refine j_iconst (v := 4) C0 dX6_drops_28 rfl ?_
    obtain ⟨q6, hcq6, hf⟩ := bd_some hf
    refine j_callV (As := [.int x1, .int (4 : Int32)]) (rest := []) (stk := [.int q6]) (G2 := (Cc, Bb, M)) C0 (c_X6_of hi (Cc := Cc) (Bb := Bb)  hcq6) kw_X6_48 bi_X6_of bx_X6_of id_c14 oc_14 rfl ⟨by decide, by decide⟩ ⟨Nat.zero_le _, Nat.zero_le _⟩ rfl rfl (Nat.le_of_ble_eq_true rfl) rfl rfl dX6_drops_29 ?_
    refine j_goto (tgt := 49) C0 dX6_drops_32 (by decide) ?_
    exact j_iret C0 hr dX6_drops_49 (so hf) rfl
  have hf := if_t c2 hf
  refine j_aload_n C0 dX6_drops_11 rfl 1 rfl ?_
  refine j_iload_n C0 dX6_drops_12 rfl 2 rfl ?_
  refine j_iconst (v := 3) C0 dX6_drops_13 rfl ?_
  obtain ⟨q7, hcq7, hf⟩ := bd_some hf
  refine j_callV (As := [.int x1, .int (3 : Int32)]) (rest := []) (stk := [.int q7]) (G2 := (Cc, Bb, M)) C0 (c_X6_of hi (Cc := Cc) (Bb := Bb)  hcq7) kw_X6_48 bi_X6_of bx_X6_of id_c14 oc_14 rfl ⟨by decide, by decide⟩ ⟨Nat.zero_le _, Nat.zero_le _⟩ rfl rfl (Nat.le_of_ble_eq_true rfl) rfl rfl dX6_drops_14 ?_
  refine j_ineg C0 dX6_drops_17 ?_
  refine j_goto (tgt := 49) C0 dX6_drops_18 (by decide) ?_
  exact j_iret C0 hr dX6_drops_49 (so hf) rfl

set_option maxHeartbeats 4000000 in
set_option maxRecDepth 100000 in
theorem c_X6_hourOf {l : Launch} {D : va_G} {ca : Nat → ClassId} {ad : I3 → Nat} (hi : adI ad) {Cc : Nat → Nat → Int32} {Bb : Nat → Fin 9} {M : Nat → Nat → Int32} {x1 : Int32} {r0 : Int32}  (hf : fM_hourOf M x1 = some (r0)) : MT l D ca ad yX6_hourOf cX6_hourOf 2 (some .int) 2 44 [.ref (ad (14, 0, 0)), .int x1] (Cc, Bb, M) (some (.int r0)) (Cc, Bb, M) := by
  refine met_J (lv := [(0, .ref (ad (14, 0, 0))), (1, .int x1)]) hi (by decide +kernel) (Nat.le_of_ble_eq_true rfl) rfl (fun p e s m below meth c C0 hr => ?_)
  unfold fM_hourOf at hf
  refine j_aload_n C0 dX6_hourOf_0 rfl 0 rfl ?_
  refine j_iload_n C0 dX6_hourOf_1 rfl 1 rfl ?_
  refine j_bipush (v := 13) C0 dX6_hourOf_2 rfl ?_
  obtain ⟨q1, hcq1, hf⟩ := bd_some hf
  refine j_callV (As := [.int x1, .int (13 : Int32)]) (rest := []) (stk := [.int q1]) (G2 := (Cc, Bb, M)) C0 (c_X6_of hi (Cc := Cc) (Bb := Bb)  hcq1) kw_X6_48 bi_X6_of bx_X6_of id_c14 oc_14 rfl ⟨by decide, by decide⟩ ⟨Nat.zero_le _, Nat.zero_le _⟩ rfl rfl (Nat.le_of_ble_eq_true rfl) rfl rfl dX6_hourOf_4 ?_
  refine j_aload_n C0 dX6_hourOf_7 rfl 0 rfl ?_
  refine j_iload_n C0 dX6_hourOf_8 rfl 1 rfl ?_
  obtain ⟨q2, hcq2, hf⟩ := bd_some hf
  refine j_callV (As := [.int x1]) (rest := [.int q1]) (stk := [.int q2, .int q1]) (G2 := (Cc, Bb, M)) C0 (c_X6_drops hi (Cc := Cc) (Bb := Bb)  hcq2) kw_X6_52 bi_X6_drops bx_X6_drops id_c14 oc_14 rfl ⟨by decide, by decide⟩ ⟨Nat.zero_le _, Nat.zero_le _⟩ rfl rfl (Nat.le_of_ble_eq_true rfl) rfl rfl dX6_hourOf_9 ?_
  refine j_aload_n C0 dX6_hourOf_12 rfl 0 rfl ?_
  refine j_iload_n C0 dX6_hourOf_13 rfl 1 rfl ?_
  refine j_bipush (v := 14) C0 dX6_hourOf_14 rfl ?_
  obtain ⟨q3, hcq3, hf⟩ := bd_some hf
  refine j_callV (As := [.int x1, .int (14 : Int32)]) (rest := [.int q2, .int q1]) (stk := [.int q3, .int q2, .int q1]) (G2 := (Cc, Bb, M)) C0 (c_X6_of hi (Cc := Cc) (Bb := Bb)  hcq3) kw_X6_48 bi_X6_of bx_X6_of id_c14 oc_14 rfl ⟨by decide, by decide⟩ ⟨Nat.zero_le _, Nat.zero_le _⟩ rfl rfl (Nat.le_of_ble_eq_true rfl) rfl rfl dX6_hourOf_16 ?_
  refine j_isub C0 dX6_hourOf_19 ?_
  refine j_aload_n C0 dX6_hourOf_20 rfl 0 rfl ?_
  refine j_iload_n C0 dX6_hourOf_21 rfl 1 rfl ?_
  refine j_iconst (v := 2) C0 dX6_hourOf_22 rfl ?_
  obtain ⟨q4, hcq4, hf⟩ := bd_some hf
  refine j_callV (As := [.int x1, .int (2 : Int32)]) (rest := [.int (q2 - q3), .int q1]) (stk := [.int q4, .int (q2 - q3), .int q1]) (G2 := (Cc, Bb, M)) C0 (c_X6_of hi (Cc := Cc) (Bb := Bb)  hcq4) kw_X6_48 bi_X6_of bx_X6_of id_c14 oc_14 rfl ⟨by decide, by decide⟩ ⟨Nat.zero_le _, Nat.zero_le _⟩ rfl rfl (Nat.le_of_ble_eq_true rfl) rfl rfl dX6_hourOf_23 ?_
  obtain ⟨q5, hcq5, hf⟩ := bd_some hf
  refine j_callS (As := [.int (q2 - q3), .int q4]) (rest := [.int q1]) (stk := [.int q5, .int q1]) (G2 := (Cc, Bb, M)) C0 (c_X6_floor hi (G0 := (Cc, Bb, M))  hcq5) kw_X6_56 bi_X6_floor rfl ⟨by decide, by decide⟩ ⟨Nat.zero_le _, Nat.zero_le _⟩ rfl rfl (Nat.le_of_ble_eq_true rfl) rfl rfl dX6_hourOf_26 ?_
  refine j_iadd C0 dX6_hourOf_29 ?_
  exact j_iret C0 hr dX6_hourOf_30 (so hf) rfl

set_option maxHeartbeats 4000000 in
set_option maxRecDepth 100000 in
theorem c_X6_error {l : Launch} {D : va_G} {ca : Nat → ClassId} {ad : I3 → Nat} (hi : adI ad) {Cc : Nat → Nat → Int32} {Bb : Nat → Fin 9} {M : Nat → Nat → Int32} {x1 : Int32} {r0 : Int32}  (hf : fM_error M x1 = some (r0)) : MT l D ca ad yX6_error cX6_error 2 (some .int) 3 65 [.ref (ad (14, 0, 0)), .int x1] (Cc, Bb, M) (some (.int r0)) (Cc, Bb, M) := by
  refine met_J (lv := [(0, .ref (ad (14, 0, 0))), (1, .int x1)]) hi (by decide +kernel) (Nat.le_of_ble_eq_true rfl) rfl (fun p e s m below meth c C0 hr => ?_)
  unfold fM_error at hf
  refine j_aload_n C0 dX6_error_0 rfl 0 rfl ?_
  refine j_iload_n C0 dX6_error_1 rfl 1 rfl ?_
  obtain ⟨q1, hcq1, hf⟩ := bd_some hf
  refine j_callV (As := [.int x1]) (rest := []) (stk := [.int q1]) (G2 := (Cc, Bb, M)) C0 (c_X6_hourOf hi (Cc := Cc) (Bb := Bb)  hcq1) kw_X6_59 bi_X6_hourOf bx_X6_hourOf id_c14 oc_14 rfl ⟨by decide, by decide⟩ ⟨Nat.zero_le _, Nat.zero_le _⟩ rfl rfl (Nat.le_of_ble_eq_true rfl) rfl rfl dX6_error_2 ?_
  refine j_aload_n C0 dX6_error_5 rfl 0 rfl ?_
  obtain ⟨q2, hcq2, hf⟩ := bd_some hf
  refine j_callV (As := []) (rest := [.int q1]) (stk := [.int q2, .int q1]) (G2 := (Cc, Bb, M)) C0 (c_X6_trueHour hi (Cc := Cc) (Bb := Bb)  hcq2) kw_X6_62 bi_X6_trueHour bx_X6_trueHour id_c14 oc_14 rfl ⟨by decide, by decide⟩ ⟨Nat.zero_le _, Nat.zero_le _⟩ rfl rfl (Nat.le_of_ble_eq_true rfl) rfl rfl dX6_error_6 ?_
  refine j_isub C0 dX6_error_9 ?_
  exact j_iret C0 hr dX6_error_10 (so hf) rfl

set_option maxHeartbeats 4000000 in
set_option maxRecDepth 100000 in
theorem c_X6_size {l : Launch} {D : va_G} {ca : Nat → ClassId} {ad : I3 → Nat} (hi : adI ad) {Cc : Nat → Nat → Int32} {Bb : Nat → Fin 9} {M : Nat → Nat → Int32} {x1 : Int32} {r0 : Int32}  (hf : fM_size M x1 = some (r0)) : MT l D ca ad yX6_size cX6_size 2 (some .int) 0 0 [.ref (ad (14, 0, 0)), .int x1] (Cc, Bb, M) (some (.int r0)) (Cc, Bb, M) := by
  refine met_J (lv := [(0, .ref (ad (14, 0, 0))), (1, .int x1)]) hi (by decide +kernel) (Nat.le_of_ble_eq_true rfl) rfl (fun p e s m below meth c C0 hr => ?_)
  unfold fM_size at hf
  refine j_iload_n C0 dX6_size_0 rfl 1 rfl ?_
  refine j_if_ge (tgt := 9) C0 dX6_size_1 (by decide) (fun c1 => ?_) (fun c1 => ?_)
  · have hf := if_t c1 hf
    refine j_iload_n C0 dX6_size_9 rfl 1 rfl ?_
    exact j_iret C0 hr dX6_size_10 (so hf) rfl
  have hf := if_f c1 hf
  refine j_iload_n C0 dX6_size_4 rfl 1 rfl ?_
  refine j_ineg C0 dX6_size_5 ?_
  refine j_goto (tgt := 10) C0 dX6_size_6 (by decide) ?_
  exact j_iret C0 hr dX6_size_10 (so hf) rfl

set_option maxHeartbeats 4000000 in
set_option maxRecDepth 100000 in
theorem c_X6_isOff {l : Launch} {D : va_G} {ca : Nat → ClassId} {ad : I3 → Nat} (hi : adI ad) {Cc : Nat → Nat → Int32} {Bb : Nat → Fin 9} {M : Nat → Nat → Int32} {x1 : Int32} {r0 : Int32}  (hf : fM_isOff M x1 = some (r0)) : MT l D ca ad yX6_isOff cX6_isOff 2 (some .boolean) 4 86 [.ref (ad (14, 0, 0)), .int x1] (Cc, Bb, M) (some (.int r0)) (Cc, Bb, M) := by
  refine met_J (lv := [(0, .ref (ad (14, 0, 0))), (1, .int x1)]) hi (by decide +kernel) (Nat.le_of_ble_eq_true rfl) rfl (fun p e s m below meth c C0 hr => ?_)
  unfold fM_isOff at hf
  refine j_aload_n C0 dX6_isOff_0 rfl 0 rfl ?_
  refine j_aload_n C0 dX6_isOff_1 rfl 0 rfl ?_
  refine j_iload_n C0 dX6_isOff_2 rfl 1 rfl ?_
  obtain ⟨q1, hcq1, hf⟩ := bd_some hf
  refine j_callV (As := [.int x1]) (rest := [.ref (ad (14, 0, 0))]) (stk := [.int q1, .ref (ad (14, 0, 0))]) (G2 := (Cc, Bb, M)) C0 (c_X6_error hi (Cc := Cc) (Bb := Bb)  hcq1) kw_X6_66 bi_X6_error bx_X6_error id_c14 oc_14 rfl ⟨by decide, by decide⟩ ⟨Nat.zero_le _, Nat.zero_le _⟩ rfl rfl (Nat.le_of_ble_eq_true rfl) rfl rfl dX6_isOff_3 ?_
  obtain ⟨q2, hcq2, hf⟩ := bd_some hf
  refine j_callV (As := [.int q1]) (rest := []) (stk := [.int q2]) (G2 := (Cc, Bb, M)) C0 (c_X6_size hi (Cc := Cc) (Bb := Bb)  hcq2) kw_X6_69 bi_X6_size bx_X6_size id_c14 oc_14 rfl ⟨by decide, by decide⟩ ⟨Nat.zero_le _, Nat.zero_le _⟩ rfl rfl (Nat.le_of_ble_eq_true rfl) rfl rfl dX6_isOff_6 ?_
  refine j_aload_n C0 dX6_isOff_9 rfl 0 rfl ?_
  refine j_getr (id2 := (15, 0, 0)) C0 fl_X6_7 rl_6_0 id_c14 dX6_isOff_10 ?_
  refine j_iconst (v := 4) C0 dX6_isOff_13 rfl ?_
  refine j_iald (x := (M 0 4)) C0 al_15_0 rfl id_m0 (by decide) (by rw [Nat.zero_add]; rfl) dX6_isOff_14 ?_
  refine j_icmp_le (tgt := 22) C0 dX6_isOff_15 (by decide) (fun c3 => ?_) (fun c3 => ?_)
  · have hf := if_t c3 hf
    refine j_iconst (v := 0) C0 dX6_isOff_22 rfl ?_
    exact j_zret C0 hr rfl dX6_isOff_23 (so hf) rfl
  have hf := if_f c3 hf
  refine j_iconst (v := 1) C0 dX6_isOff_18 rfl ?_
  refine j_goto (tgt := 23) C0 dX6_isOff_19 (by decide) ?_
  exact j_zret C0 hr rfl dX6_isOff_23 (so hf) rfl

set_option maxHeartbeats 4000000 in
set_option maxRecDepth 100000 in
theorem c_X6_lay {l : Launch} {D : va_G} {ca : Nat → ClassId} {ad : I3 → Nat} (hi : adI ad) {Cc : Nat → Nat → Int32} {Bb : Nat → Fin 9} {M : Nat → Nat → Int32} {x1 : Int32} {M' : Nat → Nat → Int32}  (hf : fM_lay M x1 = some (M')) : MT l D ca ad yX6_lay cX6_lay 2 none 2 44 [.ref (ad (14, 0, 0)), .int x1] (Cc, Bb, M) none (Cc, Bb, M') := by
  refine met_J (lv := [(0, .ref (ad (14, 0, 0))), (1, .int x1)]) hi (by decide +kernel) (Nat.le_of_ble_eq_true rfl) rfl (fun p e s m below meth c C0 hr => ?_)
  unfold fM_lay at hf
  refine j_aload_n C0 dX6_lay_0 rfl 0 rfl ?_
  refine j_iload_n C0 dX6_lay_1 rfl 1 rfl ?_
  refine j_bipush (v := 13) C0 dX6_lay_2 rfl ?_
  refine j_aload_n C0 dX6_lay_4 rfl 0 rfl ?_
  obtain ⟨q1, hcq1, hf⟩ := bd_some hf
  refine j_callV (As := []) (rest := [.int (13 : Int32), .int x1, .ref (ad (14, 0, 0))]) (stk := [.int q1, .int (13 : Int32), .int x1, .ref (ad (14, 0, 0))]) (G2 := (Cc, Bb, M)) C0 (c_X6_trueHour hi (Cc := Cc) (Bb := Bb)  hcq1) kw_X6_62 bi_X6_trueHour bx_X6_trueHour id_c14 oc_14 rfl ⟨by decide, by decide⟩ ⟨Nat.zero_le _, Nat.zero_le _⟩ rfl rfl (Nat.le_of_ble_eq_true rfl) rfl rfl dX6_lay_5 ?_
  obtain ⟨q2, hcq2, hf⟩ := bd_some hf
  refine j_callV (As := [.int x1, .int (13 : Int32), .int q1]) (rest := []) (stk := []) (G2 := (Cc, Bb, q2)) C0 (c_X6_put hi (Cc := Cc) (Bb := Bb)  hcq2) kw_X6_72 bi_X6_put bx_X6_put id_c14 oc_14 rfl ⟨by decide, by decide⟩ ⟨Nat.zero_le _, Nat.zero_le _⟩ rfl rfl (Nat.le_of_ble_eq_true rfl) rfl rfl dX6_lay_8 ?_
  refine j_aload_n C0 dX6_lay_11 rfl 0 rfl ?_
  refine j_iload_n C0 dX6_lay_12 rfl 1 rfl ?_
  refine j_bipush (v := 14) C0 dX6_lay_13 rfl ?_
  refine j_aload_n C0 dX6_lay_15 rfl 0 rfl ?_
  refine j_iload_n C0 dX6_lay_16 rfl 1 rfl ?_
  obtain ⟨q3, hcq3, hf⟩ := bd_some hf
  refine j_callV (As := [.int x1]) (rest := [.int (14 : Int32), .int x1, .ref (ad (14, 0, 0))]) (stk := [.int q3, .int (14 : Int32), .int x1, .ref (ad (14, 0, 0))]) (G2 := (Cc, Bb, q2)) C0 (c_X6_drops hi (Cc := Cc) (Bb := Bb)  hcq3) kw_X6_52 bi_X6_drops bx_X6_drops id_c14 oc_14 rfl ⟨by decide, by decide⟩ ⟨Nat.zero_le _, Nat.zero_le _⟩ rfl rfl (Nat.le_of_ble_eq_true rfl) rfl rfl dX6_lay_17 ?_
  obtain ⟨q4, hcq4, hf⟩ := bd_some hf
  refine j_callV (As := [.int x1, .int (14 : Int32), .int q3]) (rest := []) (stk := []) (G2 := (Cc, Bb, q4)) C0 (c_X6_put hi (Cc := Cc) (Bb := Bb)  hcq4) kw_X6_72 bi_X6_put bx_X6_put id_c14 oc_14 rfl ⟨by decide, by decide⟩ ⟨Nat.zero_le _, Nat.zero_le _⟩ rfl rfl (Nat.le_of_ble_eq_true rfl) rfl rfl dX6_lay_20 ?_
  exact j_vret C0 hr dX6_lay_23 (congrArg (fun z => (Cc, Bb, z)) (so hf))

set_option maxHeartbeats 4000000 in
set_option maxRecDepth 100000 in
theorem c_X6_makeTrue {l : Launch} {D : va_G} {ca : Nat → ClassId} {ad : I3 → Nat} (hi : adI ad) {Cc : Nat → Nat → Int32} {Bb : Nat → Fin 9} {M : Nat → Nat → Int32} {x1 : Int32} {M' : Nat → Nat → Int32}  (hf : fM_makeTrue M x1 = some (M')) : MT l D ca ad yX6_makeTrue cX6_makeTrue 2 none 3 65 [.ref (ad (14, 0, 0)), .int x1] (Cc, Bb, M) none (Cc, Bb, M') := by
  refine met_J (lv := [(0, .ref (ad (14, 0, 0))), (1, .int x1)]) hi (by decide +kernel) (Nat.le_of_ble_eq_true rfl) rfl (fun p e s m below meth c C0 hr => ?_)
  unfold fM_makeTrue at hf
  refine j_aload_n C0 dX6_makeTrue_0 rfl 0 rfl ?_
  refine j_iload_n C0 dX6_makeTrue_1 rfl 1 rfl ?_
  obtain ⟨q1, hcq1, hf⟩ := bd_some hf
  refine j_callV (As := [.int x1]) (rest := []) (stk := []) (G2 := (Cc, Bb, q1)) C0 (c_X6_lay hi (Cc := Cc) (Bb := Bb)  hcq1) kw_X6_76 bi_X6_lay bx_X6_lay id_c14 oc_14 rfl ⟨by decide, by decide⟩ ⟨Nat.zero_le _, Nat.zero_le _⟩ rfl rfl (Nat.le_of_ble_eq_true rfl) rfl rfl dX6_makeTrue_2 ?_
  refine j_aload_n C0 dX6_makeTrue_5 rfl 0 rfl ?_
  refine j_iload_n C0 dX6_makeTrue_6 rfl 1 rfl ?_
  refine j_bipush (v := 11) C0 dX6_makeTrue_7 rfl ?_
  refine j_iconst (v := 1) C0 dX6_makeTrue_9 rfl ?_
  obtain ⟨q2, hcq2, hf⟩ := bd_some hf
  refine j_callV (As := [.int x1, .int (11 : Int32), .int (1 : Int32)]) (rest := []) (stk := []) (G2 := (Cc, Bb, q2)) C0 (c_X6_add hi (Cc := Cc) (Bb := Bb)  hcq2) kw_X6_80 bi_X6_add bx_X6_add id_c14 oc_14 rfl ⟨by decide, by decide⟩ ⟨Nat.zero_le _, Nat.zero_le _⟩ rfl rfl (Nat.le_of_ble_eq_true rfl) rfl rfl dX6_makeTrue_10 ?_
  refine j_aload_n C0 dX6_makeTrue_13 rfl 0 rfl ?_
  refine j_getr (id2 := (15, 0, 0)) C0 fl_X6_7 rl_6_0 id_c14 dX6_makeTrue_14 ?_
  refine j_bipush (v := 16) C0 dX6_makeTrue_17 rfl ?_
  refine j_dup2 C0 dX6_makeTrue_19 rfl rfl ?_
  refine j_iald (x := (q2 0 16)) C0 al_15_0 rfl id_m0 (by decide) (by rw [Nat.zero_add]; rfl) dX6_makeTrue_20 ?_
  refine j_iconst (v := 1) C0 dX6_makeTrue_21 rfl ?_
  refine j_iadd C0 dX6_makeTrue_22 ?_
  obtain ⟨M3, e4, hf⟩ := lt_some hf
  refine j_iast (G' := (Cc, Bb, M3)) C0 al_15_0 rfl id_m0 (by decide) (by rw [Nat.zero_add]; exact (eM_set e4)) dX6_makeTrue_23 ?_
  exact j_vret C0 hr dX6_makeTrue_24 (congrArg (fun z => (Cc, Bb, z)) (so hf))

set_option maxHeartbeats 4000000 in
set_option maxRecDepth 100000 in
theorem c_X6_fill {l : Launch} {D : va_G} {ca : Nat → ClassId} {ad : I3 → Nat} (hi : adI ad) {Cc : Nat → Nat → Int32} {Bb : Nat → Fin 9} {M : Nat → Nat → Int32} {x1 : Int32} {x2 : Int32} {r0 : Int32} {M' : Nat → Nat → Int32}  (hf : fM_fill M x1 x2 = some (r0, M')) : MT l D ca ad yX6_fill cX6_fill 5 (some .int) 1 23 [.ref (ad (14, 0, 0)), .int x1, .int x2] (Cc, Bb, M) (some (.int r0)) (Cc, Bb, M') := by
  refine met_J (lv := [(0, .ref (ad (14, 0, 0))), (1, .int x1), (2, .int x2)]) hi (by decide +kernel) (Nat.le_of_ble_eq_true rfl) rfl (fun p e s m below meth c C0 hr => ?_)
  unfold fM_fill at hf
  refine j_aload_n C0 dX6_fill_0 rfl 0 rfl ?_
  refine j_getr (id2 := (15, 0, 0)) C0 fl_X6_7 rl_6_0 id_c14 dX6_fill_1 ?_
  refine j_iconst (v := 0) C0 dX6_fill_4 rfl ?_
  refine j_iald (x := (M 0 0)) C0 al_15_0 rfl id_m0 (by decide) (by rw [Nat.zero_add]; rfl) dX6_fill_5 ?_
  refine j_aload_n C0 dX6_fill_6 rfl 0 rfl ?_
  refine j_iload_n C0 dX6_fill_7 rfl 1 rfl ?_
  refine j_iconst (v := 3) C0 dX6_fill_8 rfl ?_
  obtain ⟨q1, hcq1, hf⟩ := bd_some hf
  refine j_callV (As := [.int x1, .int (3 : Int32)]) (rest := [.int (M 0 0)]) (stk := [.int q1, .int (M 0 0)]) (G2 := (Cc, Bb, M)) C0 (c_X6_of hi (Cc := Cc) (Bb := Bb)  hcq1) kw_X6_48 bi_X6_of bx_X6_of id_c14 oc_14 rfl ⟨by decide, by decide⟩ ⟨Nat.zero_le _, Nat.zero_le _⟩ rfl rfl (Nat.le_of_ble_eq_true rfl) rfl rfl dX6_fill_9 ?_
  obtain ⟨q2, hsq2, hf⟩ := bd_some hf
  have Jq2 : J D ca ad p l e ({ frames := 1, cells := 0, slots := 0, locals := 23 }) s m [.ref (ad (14, 0, 0)), .int x1, .int x2].toArray below meth c 0 0 (MQ below (post D ca ad (some (.int r0)) (Cc, Bb, M')) [.ref (ad (14, 0, 0)), .int x1, .int x2].toArray s 0 0 (adA ad)) 5 (Cc, Bb, M) 32 [(0, .ref (ad (14, 0, 0))), (1, .int x1), (2, .int x2)] [.int q2] := by
    refine j_istore_n (lv' := [(3, .int q2), (0, .ref (ad (14, 0, 0))), (1, .int x1), (2, .int x2)]) C0 dX6_fill_32 rfl (by decide) rfl ?_
    refine j_iload_n C0 dX6_fill_33 rfl 3 rfl ?_
    refine j_iload_n C0 dX6_fill_34 rfl 0 rfl ?_
    obtain ⟨q3, hsq3, hf⟩ := bd_some hf
    have Jq3 : J D ca ad p l e ({ frames := 1, cells := 0, slots := 0, locals := 23 }) s m [.ref (ad (14, 0, 0)), .int x1, .int x2].toArray below meth c 0 0 (MQ below (post D ca ad (some (.int r0)) (Cc, Bb, M')) [.ref (ad (14, 0, 0)), .int x1, .int x2].toArray s 0 0 (adA ad)) 5 (Cc, Bb, M) 43 [(0, .ref (ad (14, 0, 0))), (1, .int x1), (2, .int x2)] [.int q3] := by
      refine j_istore (lv' := [(4, .int q3), (0, .ref (ad (14, 0, 0))), (1, .int x1), (2, .int x2)]) C0 dX6_fill_43 (by decide) rfl ?_
      refine j_aload_n C0 dX6_fill_45 rfl 1 rfl ?_
      refine j_iload_n C0 dX6_fill_46 rfl 2 rfl ?_
      refine j_iconst (v := 3) C0 dX6_fill_47 rfl ?_
      refine j_iload C0 dX6_fill_48 0 rfl ?_
      obtain ⟨q4, hcq4, hf⟩ := bd_some hf
      refine j_callV (As := [.int x1, .int (3 : Int32), .int q3]) (rest := []) (stk := []) (G2 := (Cc, Bb, q4)) C0 (c_X6_add hi (Cc := Cc) (Bb := Bb)  hcq4) kw_X6_80 bi_X6_add bx_X6_add id_c14 oc_14 rfl ⟨by decide, by decide⟩ ⟨Nat.zero_le _, Nat.zero_le _⟩ rfl rfl (Nat.le_of_ble_eq_true rfl) rfl rfl dX6_fill_50 ?_
      refine j_aload_n C0 dX6_fill_53 rfl 1 rfl ?_
      refine j_getr (id2 := (15, 0, 0)) C0 fl_X6_7 rl_6_0 id_c14 dX6_fill_54 ?_
      refine j_bipush (v := 12) C0 dX6_fill_57 rfl ?_
      refine j_dup2 C0 dX6_fill_59 rfl rfl ?_
      refine j_iald (x := (q4 0 12)) C0 al_15_0 rfl id_m0 (by decide) (by rw [Nat.zero_add]; rfl) dX6_fill_60 ?_
      refine j_iload C0 dX6_fill_61 0 rfl ?_
      refine j_iadd C0 dX6_fill_63 ?_
      obtain ⟨M5, e6, hf⟩ := lt_some hf
      refine j_iast (G' := (Cc, Bb, M5)) C0 al_15_0 rfl id_m0 (by decide) (by rw [Nat.zero_add]; exact (eM_set e6)) dX6_fill_64 ?_
      refine j_aload_n C0 dX6_fill_65 rfl 1 rfl ?_
      refine j_getr (id2 := (15, 0, 0)) C0 fl_X6_7 rl_6_0 id_c14 dX6_fill_66 ?_
      refine j_bipush (v := 9) C0 dX6_fill_69 rfl ?_
      refine j_dup2 C0 dX6_fill_71 rfl rfl ?_
      refine j_iald (x := (M5 0 9)) C0 al_15_0 rfl id_m0 (by decide) (by rw [Nat.zero_add]; rfl) dX6_fill_72 ?_
      refine j_iload_n C0 dX6_fill_73 rfl 3 rfl ?_
      refine j_iload C0 dX6_fill_74 0 rfl ?_
      refine j_isub C0 dX6_fill_76 ?_
      refine j_iadd C0 dX6_fill_77 ?_
      obtain ⟨M7, e8, hf⟩ := lt_some hf
      refine j_iast (G' := (Cc, Bb, M7)) C0 al_15_0 rfl id_m0 (by decide) (by rw [Nat.zero_add]; exact (eM_set e8)) dX6_fill_78 ?_
      refine j_iload_n C0 dX6_fill_79 rfl 3 rfl ?_
      refine j_iload C0 dX6_fill_80 0 rfl ?_
      refine j_isub C0 dX6_fill_82 ?_
      exact j_iret C0 hr dX6_fill_83 (pr1 hf) (congrArg (fun z => (Cc, Bb, z)) (pr2 hf))
    refine j_icmp_ge (tgt := 42) C0 dX6_fill_35 (by decide) (fun c9 => ?_) (fun c9 => ?_)
    · have hsq3 := if_t c9 hsq3
      refine j_iload_n C0 dX6_fill_42 rfl 0 rfl ?_
      obtain rfl := so hsq3
      exact j_sub [1, 2, 3] rfl Jq3
    have hsq3 := if_f c9 hsq3
    refine j_iload_n C0 dX6_fill_38 rfl 3 rfl ?_
    refine j_goto (tgt := 43) C0 dX6_fill_39 (by decide) ?_
    obtain rfl := so hsq3
    exact j_sub [1, 2, 3] rfl Jq3
  refine j_icmp_le (tgt := 31) C0 dX6_fill_12 (by decide) (fun c10 => ?_) (fun c10 => ?_)
  · have hsq2 := if_t c10 hsq2
    refine j_iconst (v := 0) C0 dX6_fill_31 rfl ?_
    obtain rfl := so hsq2
    exact j_sub [0, 1, 2] rfl Jq2
  have hsq2 := if_f c10 hsq2
  refine j_aload_n C0 dX6_fill_15 rfl 0 rfl ?_
  refine j_getr (id2 := (15, 0, 0)) C0 fl_X6_7 rl_6_0 id_c14 dX6_fill_16 ?_
  refine j_iconst (v := 0) C0 dX6_fill_19 rfl ?_
  refine j_iald (x := (M 0 0)) C0 al_15_0 rfl id_m0 (by decide) (by rw [Nat.zero_add]; rfl) dX6_fill_20 ?_
  refine j_aload_n C0 dX6_fill_21 rfl 0 rfl ?_
  refine j_iload_n C0 dX6_fill_22 rfl 1 rfl ?_
  refine j_iconst (v := 3) C0 dX6_fill_23 rfl ?_
  obtain ⟨q11, hcq11, hsq2⟩ := bd_some hsq2
  refine j_callV (As := [.int x1, .int (3 : Int32)]) (rest := [.int (M 0 0)]) (stk := [.int q11, .int (M 0 0)]) (G2 := (Cc, Bb, M)) C0 (c_X6_of hi (Cc := Cc) (Bb := Bb)  hcq11) kw_X6_48 bi_X6_of bx_X6_of id_c14 oc_14 rfl ⟨by decide, by decide⟩ ⟨Nat.zero_le _, Nat.zero_le _⟩ rfl rfl (Nat.le_of_ble_eq_true rfl) rfl rfl dX6_fill_24 ?_
  refine j_isub C0 dX6_fill_27 ?_
  refine j_goto (tgt := 32) C0 dX6_fill_28 (by decide) ?_
  obtain rfl := so hsq2
  exact j_sub [0, 1, 2] rfl Jq2

set_option maxHeartbeats 4000000 in
set_option maxRecDepth 100000 in
theorem c_X6_goOn {l : Launch} {D : va_G} {ca : Nat → ClassId} {ad : I3 → Nat} (hi : adI ad) {Cc : Nat → Nat → Int32} {Bb : Nat → Fin 9} {M : Nat → Nat → Int32} {x1 : Int32} {x2 : Int32} {M' : Nat → Nat → Int32}  (hf : fM_goOn M x1 x2 = some (M')) : MT l D ca ad yX6_goOn cX6_goOn 4 none 2 47 [.ref (ad (14, 0, 0)), .int x1, .int x2] (Cc, Bb, M) none (Cc, Bb, M') := by
  refine met_J (lv := [(0, .ref (ad (14, 0, 0))), (1, .int x1), (2, .int x2)]) hi (by decide +kernel) (Nat.le_of_ble_eq_true rfl) rfl (fun p e s m below meth c C0 hr => ?_)
  unfold fM_goOn at hf
  refine j_aload_n C0 dX6_goOn_0 rfl 0 rfl ?_
  refine j_iload_n C0 dX6_goOn_1 rfl 1 rfl ?_
  refine j_iconst (v := 5) C0 dX6_goOn_2 rfl ?_
  obtain ⟨q1, hcq1, hf⟩ := bd_some hf
  refine j_callV (As := [.int x1, .int (5 : Int32)]) (rest := []) (stk := [.int q1]) (G2 := (Cc, Bb, M)) C0 (c_X6_of hi (Cc := Cc) (Bb := Bb)  hcq1) kw_X6_48 bi_X6_of bx_X6_of id_c14 oc_14 rfl ⟨by decide, by decide⟩ ⟨Nat.zero_le _, Nat.zero_le _⟩ rfl rfl (Nat.le_of_ble_eq_true rfl) rfl rfl dX6_goOn_3 ?_
  refine j_iload_n C0 dX6_goOn_6 rfl 1 rfl ?_
  refine j_icmp_ne (tgt := 24) C0 dX6_goOn_7 (by decide) (fun c2 => ?_) (fun c2 => ?_)
  · have hf := if_f c2 hf
    refine j_aload_n C0 dX6_goOn_24 rfl 0 rfl ?_
    refine j_aload_n C0 dX6_goOn_25 rfl 0 rfl ?_
    refine j_iload_n C0 dX6_goOn_26 rfl 1 rfl ?_
    refine j_iconst (v := 5) C0 dX6_goOn_27 rfl ?_
    obtain ⟨q3, hcq3, hf⟩ := bd_some hf
    refine j_callV (As := [.int x1, .int (5 : Int32)]) (rest := [.ref (ad (14, 0, 0))]) (stk := [.int q3, .ref (ad (14, 0, 0))]) (G2 := (Cc, Bb, M)) C0 (c_X6_of hi (Cc := Cc) (Bb := Bb)  hcq3) kw_X6_48 bi_X6_of bx_X6_of id_c14 oc_14 rfl ⟨by decide, by decide⟩ ⟨Nat.zero_le _, Nat.zero_le _⟩ rfl rfl (Nat.le_of_ble_eq_true rfl) rfl rfl dX6_goOn_28 ?_
    refine j_iload_n C0 dX6_goOn_31 rfl 2 rfl ?_
    obtain ⟨q4, hcq4, hf⟩ := bd_some hf
    refine j_callV (As := [.int q3, .int x2]) (rest := []) (stk := [.int q4.1]) (G2 := (Cc, Bb, q4.2)) C0 (c_X6_fill hi (Cc := Cc) (Bb := Bb)  hcq4) kw_X6_83 bi_X6_fill bx_X6_fill id_c14 oc_14 rfl ⟨by decide, by decide⟩ ⟨Nat.zero_le _, Nat.zero_le _⟩ rfl rfl (Nat.le_of_ble_eq_true rfl) rfl rfl dX6_goOn_32 ?_
    refine j_istore_n (lv' := [(3, .int q4.1), (0, .ref (ad (14, 0, 0))), (1, .int x1), (2, .int x2)]) C0 dX6_goOn_35 rfl (by decide) rfl ?_
    exact j_vret C0 hr dX6_goOn_36 (congrArg (fun z => (Cc, Bb, z)) (so hf))
  have hf := if_t c2 hf
  refine j_aload_n C0 dX6_goOn_10 rfl 0 rfl ?_
  refine j_getr (id2 := (15, 0, 0)) C0 fl_X6_7 rl_6_0 id_c14 dX6_goOn_11 ?_
  refine j_bipush (v := 8) C0 dX6_goOn_14 rfl ?_
  refine j_dup2 C0 dX6_goOn_16 rfl rfl ?_
  refine j_iald (x := (M 0 8)) C0 al_15_0 rfl id_m0 (by decide) (by rw [Nat.zero_add]; rfl) dX6_goOn_17 ?_
  refine j_iload_n C0 dX6_goOn_18 rfl 2 rfl ?_
  refine j_iadd C0 dX6_goOn_19 ?_
  obtain ⟨M5, e6, hf⟩ := lt_some hf
  refine j_iast (G' := (Cc, Bb, M5)) C0 al_15_0 rfl id_m0 (by decide) (by rw [Nat.zero_add]; exact (eM_set e6)) dX6_goOn_20 ?_
  refine j_goto (tgt := 36) C0 dX6_goOn_21 (by decide) ?_
  exact j_vret C0 hr dX6_goOn_36 (congrArg (fun z => (Cc, Bb, z)) (so hf))

set_option maxHeartbeats 4000000 in
set_option maxRecDepth 100000 in
theorem c_X6_dripOf {l : Launch} {D : va_G} {ca : Nat → ClassId} {ad : I3 → Nat} (hi : adI ad) {Cc : Nat → Nat → Int32} {Bb : Nat → Fin 9} {M : Nat → Nat → Int32} {x1 : Int32} {r0 : Int32}  (hf : fM_dripOf M x1 = some (r0)) : MT l D ca ad yX6_dripOf cX6_dripOf 3 (some .int) 1 22 [.ref (ad (14, 0, 0)), .int x1] (Cc, Bb, M) (some (.int r0)) (Cc, Bb, M) := by
  refine met_J (lv := [(0, .ref (ad (14, 0, 0))), (1, .int x1)]) hi (by decide +kernel) (Nat.le_of_ble_eq_true rfl) rfl (fun p e s m below meth c C0 hr => ?_)
  unfold fM_dripOf at hf
  refine j_aload_n C0 dX6_dripOf_0 rfl 0 rfl ?_
  refine j_iload_n C0 dX6_dripOf_1 rfl 1 rfl ?_
  refine j_iconst (v := 1) C0 dX6_dripOf_2 rfl ?_
  obtain ⟨q1, hcq1, hf⟩ := bd_some hf
  refine j_callV (As := [.int x1, .int (1 : Int32)]) (rest := []) (stk := [.int q1]) (G2 := (Cc, Bb, M)) C0 (c_X6_of hi (Cc := Cc) (Bb := Bb)  hcq1) kw_X6_48 bi_X6_of bx_X6_of id_c14 oc_14 rfl ⟨by decide, by decide⟩ ⟨Nat.zero_le _, Nat.zero_le _⟩ rfl rfl (Nat.le_of_ble_eq_true rfl) rfl rfl dX6_dripOf_3 ?_
  refine j_aload_n C0 dX6_dripOf_6 rfl 0 rfl ?_
  refine j_iload_n C0 dX6_dripOf_7 rfl 1 rfl ?_
  refine j_iconst (v := 1) C0 dX6_dripOf_8 rfl ?_
  obtain ⟨q2, hcq2, hf⟩ := bd_some hf
  refine j_callV (As := [.int x1, .int (1 : Int32)]) (rest := [.int q1]) (stk := [.int q2, .int q1]) (G2 := (Cc, Bb, M)) C0 (c_X6_of hi (Cc := Cc) (Bb := Bb)  hcq2) kw_X6_48 bi_X6_of bx_X6_of id_c14 oc_14 rfl ⟨by decide, by decide⟩ ⟨Nat.zero_le _, Nat.zero_le _⟩ rfl rfl (Nat.le_of_ble_eq_true rfl) rfl rfl dX6_dripOf_9 ?_
  refine j_aload_n C0 dX6_dripOf_12 rfl 0 rfl ?_
  refine j_iload_n C0 dX6_dripOf_13 rfl 1 rfl ?_
  refine j_iconst (v := 3) C0 dX6_dripOf_14 rfl ?_
  obtain ⟨q3, hcq3, hf⟩ := bd_some hf
  refine j_callV (As := [.int x1, .int (3 : Int32)]) (rest := [.int q2, .int q1]) (stk := [.int q3, .int q2, .int q1]) (G2 := (Cc, Bb, M)) C0 (c_X6_of hi (Cc := Cc) (Bb := Bb)  hcq3) kw_X6_48 bi_X6_of bx_X6_of id_c14 oc_14 rfl ⟨by decide, by decide⟩ ⟨Nat.zero_le _, Nat.zero_le _⟩ rfl rfl (Nat.le_of_ble_eq_true rfl) rfl rfl dX6_dripOf_15 ?_
  refine j_imul C0 dX6_dripOf_18 ?_
  refine j_sipush (v := 1000) C0 dX6_dripOf_19 rfl ?_
  refine j_idiv C0 dX6_dripOf_22 (by decide) ?_
  refine j_iadd C0 dX6_dripOf_23 ?_
  refine j_istore_n (lv' := [(2, .int (q1 + ((q2 * q3) / (1000 : Int32)))), (0, .ref (ad (14, 0, 0))), (1, .int x1)]) C0 dX6_dripOf_24 rfl (by decide) rfl ?_
  refine j_iload_n C0 dX6_dripOf_25 rfl 0 rfl ?_
  refine j_aload_n C0 dX6_dripOf_26 rfl 1 rfl ?_
  refine j_iload_n C0 dX6_dripOf_27 rfl 2 rfl ?_
  refine j_iconst (v := 3) C0 dX6_dripOf_28 rfl ?_
  obtain ⟨q4, hcq4, hf⟩ := bd_some hf
  refine j_callV (As := [.int x1, .int (3 : Int32)]) (rest := [.int (q1 + ((q2 * q3) / (1000 : Int32)))]) (stk := [.int q4, .int (q1 + ((q2 * q3) / (1000 : Int32)))]) (G2 := (Cc, Bb, M)) C0 (c_X6_of hi (Cc := Cc) (Bb := Bb)  hcq4) kw_X6_48 bi_X6_of bx_X6_of id_c14 oc_14 rfl ⟨by decide, by decide⟩ ⟨Nat.zero_le _, Nat.zero_le _⟩ rfl rfl (Nat.le_of_ble_eq_true rfl) rfl rfl dX6_dripOf_29 ?_
  refine j_icmp_ge (tgt := 39) C0 dX6_dripOf_32 (by decide) (fun c5 => ?_) (fun c5 => ?_)
  · have hf := if_t c5 hf
    refine j_aload_n C0 dX6_dripOf_39 rfl 1 rfl ?_
    refine j_iload_n C0 dX6_dripOf_40 rfl 2 rfl ?_
    refine j_iconst (v := 3) C0 dX6_dripOf_41 rfl ?_
    obtain ⟨q6, hcq6, hf⟩ := bd_some hf
    refine j_callV (As := [.int x1, .int (3 : Int32)]) (rest := []) (stk := [.int q6]) (G2 := (Cc, Bb, M)) C0 (c_X6_of hi (Cc := Cc) (Bb := Bb)  hcq6) kw_X6_48 bi_X6_of bx_X6_of id_c14 oc_14 rfl ⟨by decide, by decide⟩ ⟨Nat.zero_le _, Nat.zero_le _⟩ rfl rfl (Nat.le_of_ble_eq_true rfl) rfl rfl dX6_dripOf_42 ?_
    exact j_iret C0 hr dX6_dripOf_45 (so hf) rfl
  have hf := if_f c5 hf
  refine j_iload_n C0 dX6_dripOf_35 rfl 0 rfl ?_
  refine j_goto (tgt := 45) C0 dX6_dripOf_36 (by decide) ?_
  exact j_iret C0 hr dX6_dripOf_45 (so hf) rfl

set_option maxHeartbeats 4000000 in
set_option maxRecDepth 100000 in
theorem c_X6_rise {l : Launch} {D : va_G} {ca : Nat → ClassId} {ad : I3 → Nat} (hi : adI ad) {Cc : Nat → Nat → Int32} {Bb : Nat → Fin 9} {M : Nat → Nat → Int32} {x1 : Int32} {x2 : Int32} {M' : Nat → Nat → Int32}  (hf : fM_rise M x1 x2 = some (M')) : MT l D ca ad yX6_rise cX6_rise 5 none 1 23 [.ref (ad (14, 0, 0)), .int x1, .int x2] (Cc, Bb, M) none (Cc, Bb, M') := by
  refine met_J (lv := [(0, .ref (ad (14, 0, 0))), (1, .int x1), (2, .int x2)]) hi (by decide +kernel) (Nat.le_of_ble_eq_true rfl) rfl (fun p e s m below meth c C0 hr => ?_)
  unfold fM_rise at hf
  refine j_aload_n C0 dX6_rise_0 rfl 0 rfl ?_
  refine j_getr (id2 := (15, 0, 0)) C0 fl_X6_7 rl_6_0 id_c14 dX6_rise_1 ?_
  refine j_iconst (v := 0) C0 dX6_rise_4 rfl ?_
  refine j_iald (x := (M 0 0)) C0 al_15_0 rfl id_m0 (by decide) (by rw [Nat.zero_add]; rfl) dX6_rise_5 ?_
  refine j_aload_n C0 dX6_rise_6 rfl 0 rfl ?_
  refine j_iload_n C0 dX6_rise_7 rfl 1 rfl ?_
  refine j_iconst (v := 4) C0 dX6_rise_8 rfl ?_
  obtain ⟨q1, hcq1, hf⟩ := bd_some hf
  refine j_callV (As := [.int x1, .int (4 : Int32)]) (rest := [.int (M 0 0)]) (stk := [.int q1, .int (M 0 0)]) (G2 := (Cc, Bb, M)) C0 (c_X6_of hi (Cc := Cc) (Bb := Bb)  hcq1) kw_X6_48 bi_X6_of bx_X6_of id_c14 oc_14 rfl ⟨by decide, by decide⟩ ⟨Nat.zero_le _, Nat.zero_le _⟩ rfl rfl (Nat.le_of_ble_eq_true rfl) rfl rfl dX6_rise_9 ?_
  obtain ⟨q2, hsq2, hf⟩ := bd_some hf
  have Jq2 : J D ca ad p l e ({ frames := 1, cells := 0, slots := 0, locals := 23 }) s m [.ref (ad (14, 0, 0)), .int x1, .int x2].toArray below meth c 0 0 (MQ below (post D ca ad none (Cc, Bb, M')) [.ref (ad (14, 0, 0)), .int x1, .int x2].toArray s 0 0 (adA ad)) 5 (Cc, Bb, M) 32 [(0, .ref (ad (14, 0, 0))), (1, .int x1), (2, .int x2)] [.int q2] := by
    refine j_istore_n (lv' := [(3, .int q2), (0, .ref (ad (14, 0, 0))), (1, .int x1), (2, .int x2)]) C0 dX6_rise_32 rfl (by decide) rfl ?_
    refine j_iload_n C0 dX6_rise_33 rfl 3 rfl ?_
    refine j_iload_n C0 dX6_rise_34 rfl 0 rfl ?_
    obtain ⟨q3, hsq3, hf⟩ := bd_some hf
    have Jq3 : J D ca ad p l e ({ frames := 1, cells := 0, slots := 0, locals := 23 }) s m [.ref (ad (14, 0, 0)), .int x1, .int x2].toArray below meth c 0 0 (MQ below (post D ca ad none (Cc, Bb, M')) [.ref (ad (14, 0, 0)), .int x1, .int x2].toArray s 0 0 (adA ad)) 5 (Cc, Bb, M) 43 [(0, .ref (ad (14, 0, 0))), (1, .int x1), (2, .int x2)] [.int q3] := by
      refine j_istore (lv' := [(4, .int q3), (0, .ref (ad (14, 0, 0))), (1, .int x1), (2, .int x2)]) C0 dX6_rise_43 (by decide) rfl ?_
      refine j_aload_n C0 dX6_rise_45 rfl 1 rfl ?_
      refine j_iload_n C0 dX6_rise_46 rfl 2 rfl ?_
      refine j_iconst (v := 4) C0 dX6_rise_47 rfl ?_
      refine j_iload C0 dX6_rise_48 0 rfl ?_
      obtain ⟨q4, hcq4, hf⟩ := bd_some hf
      refine j_callV (As := [.int x1, .int (4 : Int32), .int q3]) (rest := []) (stk := []) (G2 := (Cc, Bb, q4)) C0 (c_X6_add hi (Cc := Cc) (Bb := Bb)  hcq4) kw_X6_80 bi_X6_add bx_X6_add id_c14 oc_14 rfl ⟨by decide, by decide⟩ ⟨Nat.zero_le _, Nat.zero_le _⟩ rfl rfl (Nat.le_of_ble_eq_true rfl) rfl rfl dX6_rise_50 ?_
      refine j_aload_n C0 dX6_rise_53 rfl 1 rfl ?_
      refine j_getr (id2 := (15, 0, 0)) C0 fl_X6_7 rl_6_0 id_c14 dX6_rise_54 ?_
      refine j_bipush (v := 9) C0 dX6_rise_57 rfl ?_
      refine j_dup2 C0 dX6_rise_59 rfl rfl ?_
      refine j_iald (x := (q4 0 9)) C0 al_15_0 rfl id_m0 (by decide) (by rw [Nat.zero_add]; rfl) dX6_rise_60 ?_
      refine j_iload_n C0 dX6_rise_61 rfl 3 rfl ?_
      refine j_iload C0 dX6_rise_62 0 rfl ?_
      refine j_isub C0 dX6_rise_64 ?_
      refine j_iadd C0 dX6_rise_65 ?_
      obtain ⟨M5, e6, hf⟩ := lt_some hf
      refine j_iast (G' := (Cc, Bb, M5)) C0 al_15_0 rfl id_m0 (by decide) (by rw [Nat.zero_add]; exact (eM_set e6)) dX6_rise_66 ?_
      exact j_vret C0 hr dX6_rise_67 (congrArg (fun z => (Cc, Bb, z)) (so hf))
    refine j_icmp_ge (tgt := 42) C0 dX6_rise_35 (by decide) (fun c7 => ?_) (fun c7 => ?_)
    · have hsq3 := if_t c7 hsq3
      refine j_iload_n C0 dX6_rise_42 rfl 0 rfl ?_
      obtain rfl := so hsq3
      exact j_sub [1, 2, 3] rfl Jq3
    have hsq3 := if_f c7 hsq3
    refine j_iload_n C0 dX6_rise_38 rfl 3 rfl ?_
    refine j_goto (tgt := 43) C0 dX6_rise_39 (by decide) ?_
    obtain rfl := so hsq3
    exact j_sub [1, 2, 3] rfl Jq3
  refine j_icmp_le (tgt := 31) C0 dX6_rise_12 (by decide) (fun c8 => ?_) (fun c8 => ?_)
  · have hsq2 := if_t c8 hsq2
    refine j_iconst (v := 0) C0 dX6_rise_31 rfl ?_
    obtain rfl := so hsq2
    exact j_sub [0, 1, 2] rfl Jq2
  have hsq2 := if_f c8 hsq2
  refine j_aload_n C0 dX6_rise_15 rfl 0 rfl ?_
  refine j_getr (id2 := (15, 0, 0)) C0 fl_X6_7 rl_6_0 id_c14 dX6_rise_16 ?_
  refine j_iconst (v := 0) C0 dX6_rise_19 rfl ?_
  refine j_iald (x := (M 0 0)) C0 al_15_0 rfl id_m0 (by decide) (by rw [Nat.zero_add]; rfl) dX6_rise_20 ?_
  refine j_aload_n C0 dX6_rise_21 rfl 0 rfl ?_
  refine j_iload_n C0 dX6_rise_22 rfl 1 rfl ?_
  refine j_iconst (v := 4) C0 dX6_rise_23 rfl ?_
  obtain ⟨q9, hcq9, hsq2⟩ := bd_some hsq2
  refine j_callV (As := [.int x1, .int (4 : Int32)]) (rest := [.int (M 0 0)]) (stk := [.int q9, .int (M 0 0)]) (G2 := (Cc, Bb, M)) C0 (c_X6_of hi (Cc := Cc) (Bb := Bb)  hcq9) kw_X6_48 bi_X6_of bx_X6_of id_c14 oc_14 rfl ⟨by decide, by decide⟩ ⟨Nat.zero_le _, Nat.zero_le _⟩ rfl rfl (Nat.le_of_ble_eq_true rfl) rfl rfl dX6_rise_24 ?_
  refine j_isub C0 dX6_rise_27 ?_
  refine j_goto (tgt := 32) C0 dX6_rise_28 (by decide) ?_
  obtain rfl := so hsq2
  exact j_sub [0, 1, 2] rfl Jq2

set_option maxHeartbeats 4000000 in
set_option maxRecDepth 100000 in
theorem c_X6_stroke {l : Launch} {D : va_G} {ca : Nat → ClassId} {ad : I3 → Nat} (hi : adI ad) {Cc : Nat → Nat → Int32} {Bb : Nat → Fin 9} {M : Nat → Nat → Int32} {x1 : Int32} {M' : Nat → Nat → Int32}  (hf : fM_stroke M x1 = some (M')) : MT l D ca ad yX6_stroke cX6_stroke 3 none 3 70 [.ref (ad (14, 0, 0)), .int x1] (Cc, Bb, M) none (Cc, Bb, M') := by
  refine met_J (lv := [(0, .ref (ad (14, 0, 0))), (1, .int x1)]) hi (by decide +kernel) (Nat.le_of_ble_eq_true rfl) rfl (fun p e s m below meth c C0 hr => ?_)
  unfold fM_stroke at hf
  refine j_aload_n C0 dX6_stroke_0 rfl 0 rfl ?_
  refine j_iload_n C0 dX6_stroke_1 rfl 1 rfl ?_
  refine j_iconst (v := 4) C0 dX6_stroke_2 rfl ?_
  obtain ⟨q1, hcq1, hf⟩ := bd_some hf
  refine j_callV (As := [.int x1, .int (4 : Int32)]) (rest := []) (stk := [.int q1]) (G2 := (Cc, Bb, M)) C0 (c_X6_of hi (Cc := Cc) (Bb := Bb)  hcq1) kw_X6_48 bi_X6_of bx_X6_of id_c14 oc_14 rfl ⟨by decide, by decide⟩ ⟨Nat.zero_le _, Nat.zero_le _⟩ rfl rfl (Nat.le_of_ble_eq_true rfl) rfl rfl dX6_stroke_3 ?_
  refine j_istore_n (lv' := [(2, .int q1), (0, .ref (ad (14, 0, 0))), (1, .int x1)]) C0 dX6_stroke_6 rfl (by decide) rfl ?_
  refine j_aload_n C0 dX6_stroke_7 rfl 1 rfl ?_
  refine j_iload_n C0 dX6_stroke_8 rfl 2 rfl ?_
  refine j_iconst (v := 4) C0 dX6_stroke_9 rfl ?_
  refine j_iconst (v := 0) C0 dX6_stroke_10 rfl ?_
  obtain ⟨q2, hcq2, hf⟩ := bd_some hf
  refine j_callV (As := [.int x1, .int (4 : Int32), .int (0 : Int32)]) (rest := []) (stk := []) (G2 := (Cc, Bb, q2)) C0 (c_X6_put hi (Cc := Cc) (Bb := Bb)  hcq2) kw_X6_72 bi_X6_put bx_X6_put id_c14 oc_14 rfl ⟨by decide, by decide⟩ ⟨Nat.zero_le _, Nat.zero_le _⟩ rfl rfl (Nat.le_of_ble_eq_true rfl) rfl rfl dX6_stroke_11 ?_
  refine j_aload_n C0 dX6_stroke_14 rfl 1 rfl ?_
  refine j_iload_n C0 dX6_stroke_15 rfl 2 rfl ?_
  refine j_bipush (v := 8) C0 dX6_stroke_16 rfl ?_
  refine j_iconst (v := 1) C0 dX6_stroke_18 rfl ?_
  obtain ⟨q3, hcq3, hf⟩ := bd_some hf
  refine j_callV (As := [.int x1, .int (8 : Int32), .int (1 : Int32)]) (rest := []) (stk := []) (G2 := (Cc, Bb, q3)) C0 (c_X6_add hi (Cc := Cc) (Bb := Bb)  hcq3) kw_X6_80 bi_X6_add bx_X6_add id_c14 oc_14 rfl ⟨by decide, by decide⟩ ⟨Nat.zero_le _, Nat.zero_le _⟩ rfl rfl (Nat.le_of_ble_eq_true rfl) rfl rfl dX6_stroke_19 ?_
  refine j_aload_n C0 dX6_stroke_22 rfl 1 rfl ?_
  refine j_iload_n C0 dX6_stroke_23 rfl 2 rfl ?_
  refine j_bipush (v := 9) C0 dX6_stroke_24 rfl ?_
  refine j_aload_n C0 dX6_stroke_26 rfl 1 rfl ?_
  refine j_getr (id2 := (15, 0, 0)) C0 fl_X6_7 rl_6_0 id_c14 dX6_stroke_27 ?_
  refine j_iconst (v := 1) C0 dX6_stroke_30 rfl ?_
  refine j_iald (x := (q3 0 1)) C0 al_15_0 rfl id_m0 (by decide) (by rw [Nat.zero_add]; rfl) dX6_stroke_31 ?_
  obtain ⟨q4, hcq4, hf⟩ := bd_some hf
  refine j_callV (As := [.int x1, .int (9 : Int32), .int (q3 0 1)]) (rest := []) (stk := []) (G2 := (Cc, Bb, q4)) C0 (c_X6_add hi (Cc := Cc) (Bb := Bb)  hcq4) kw_X6_80 bi_X6_add bx_X6_add id_c14 oc_14 rfl ⟨by decide, by decide⟩ ⟨Nat.zero_le _, Nat.zero_le _⟩ rfl rfl (Nat.le_of_ble_eq_true rfl) rfl rfl dX6_stroke_32 ?_
  refine j_aload_n C0 dX6_stroke_35 rfl 1 rfl ?_
  refine j_getr (id2 := (15, 0, 0)) C0 fl_X6_7 rl_6_0 id_c14 dX6_stroke_36 ?_
  refine j_bipush (v := 17) C0 dX6_stroke_39 rfl ?_
  refine j_dup2 C0 dX6_stroke_41 rfl rfl ?_
  refine j_iald (x := (q4 0 17)) C0 al_15_0 rfl id_m0 (by decide) (by rw [Nat.zero_add]; rfl) dX6_stroke_42 ?_
  refine j_iconst (v := 1) C0 dX6_stroke_43 rfl ?_
  refine j_iadd C0 dX6_stroke_44 ?_
  obtain ⟨M5, e6, hf⟩ := lt_some hf
  refine j_iast (G' := (Cc, Bb, M5)) C0 al_15_0 rfl id_m0 (by decide) (by rw [Nat.zero_add]; exact (eM_set e6)) dX6_stroke_45 ?_
  refine j_aload_n C0 dX6_stroke_46 rfl 1 rfl ?_
  refine j_getr (id2 := (15, 0, 0)) C0 fl_X6_7 rl_6_0 id_c14 dX6_stroke_47 ?_
  refine j_bipush (v := 13) C0 dX6_stroke_50 rfl ?_
  refine j_dup2 C0 dX6_stroke_52 rfl rfl ?_
  refine j_iald (x := (M5 0 13)) C0 al_15_0 rfl id_m0 (by decide) (by rw [Nat.zero_add]; rfl) dX6_stroke_53 ?_
  refine j_iload_n C0 dX6_stroke_54 rfl 0 rfl ?_
  refine j_iadd C0 dX6_stroke_55 ?_
  obtain ⟨M7, e8, hf⟩ := lt_some hf
  refine j_iast (G' := (Cc, Bb, M7)) C0 al_15_0 rfl id_m0 (by decide) (by rw [Nat.zero_add]; exact (eM_set e8)) dX6_stroke_56 ?_
  refine j_aload_n C0 dX6_stroke_57 rfl 1 rfl ?_
  refine j_iload_n C0 dX6_stroke_58 rfl 2 rfl ?_
  refine j_iload_n C0 dX6_stroke_59 rfl 0 rfl ?_
  obtain ⟨q9, hcq9, hf⟩ := bd_some hf
  refine j_callV (As := [.int x1, .int q1]) (rest := []) (stk := []) (G2 := (Cc, Bb, q9)) C0 (c_X6_goOn hi (Cc := Cc) (Bb := Bb)  hcq9) kw_X6_86 bi_X6_goOn bx_X6_goOn id_c14 oc_14 rfl ⟨by decide, by decide⟩ ⟨Nat.zero_le _, Nat.zero_le _⟩ rfl rfl (Nat.le_of_ble_eq_true rfl) rfl rfl dX6_stroke_60 ?_
  exact j_vret C0 hr dX6_stroke_63 (congrArg (fun z => (Cc, Bb, z)) (so hf))

set_option maxHeartbeats 4000000 in
set_option maxRecDepth 100000 in
theorem c_X6_drip {l : Launch} {D : va_G} {ca : Nat → ClassId} {ad : I3 → Nat} (hi : adI ad) {Cc : Nat → Nat → Int32} {Bb : Nat → Fin 9} {M : Nat → Nat → Int32} {x1 : Int32} {r0 : Int32} {M' : Nat → Nat → Int32}  (hf : fM_drip M x1 = some (r0, M')) : MT l D ca ad yX6_drip cX6_drip 3 (some .int) 4 92 [.ref (ad (14, 0, 0)), .int x1] (Cc, Bb, M) (some (.int r0)) (Cc, Bb, M') := by
  refine met_J (lv := [(0, .ref (ad (14, 0, 0))), (1, .int x1)]) hi (by decide +kernel) (Nat.le_of_ble_eq_true rfl) rfl (fun p e s m below meth c C0 hr => ?_)
  unfold fM_drip at hf
  refine j_aload_n C0 dX6_drip_0 rfl 0 rfl ?_
  refine j_iload_n C0 dX6_drip_1 rfl 1 rfl ?_
  obtain ⟨q1, hcq1, hf⟩ := bd_some hf
  refine j_callV (As := [.int x1]) (rest := []) (stk := [.int q1]) (G2 := (Cc, Bb, M)) C0 (c_X6_dripOf hi (Cc := Cc) (Bb := Bb)  hcq1) kw_X6_90 bi_X6_dripOf bx_X6_dripOf id_c14 oc_14 rfl ⟨by decide, by decide⟩ ⟨Nat.zero_le _, Nat.zero_le _⟩ rfl rfl (Nat.le_of_ble_eq_true rfl) rfl rfl dX6_drip_2 ?_
  refine j_istore_n (lv' := [(2, .int q1), (0, .ref (ad (14, 0, 0))), (1, .int x1)]) C0 dX6_drip_5 rfl (by decide) rfl ?_
  refine j_aload_n C0 dX6_drip_6 rfl 1 rfl ?_
  refine j_iload_n C0 dX6_drip_7 rfl 2 rfl ?_
  refine j_iconst (v := 3) C0 dX6_drip_8 rfl ?_
  refine j_iload_n C0 dX6_drip_9 rfl 0 rfl ?_
  refine j_ineg C0 dX6_drip_10 ?_
  obtain ⟨q2, hcq2, hf⟩ := bd_some hf
  refine j_callV (As := [.int x1, .int (3 : Int32), .int (-q1)]) (rest := []) (stk := []) (G2 := (Cc, Bb, q2)) C0 (c_X6_add hi (Cc := Cc) (Bb := Bb)  hcq2) kw_X6_80 bi_X6_add bx_X6_add id_c14 oc_14 rfl ⟨by decide, by decide⟩ ⟨Nat.zero_le _, Nat.zero_le _⟩ rfl rfl (Nat.le_of_ble_eq_true rfl) rfl rfl dX6_drip_11 ?_
  refine j_aload_n C0 dX6_drip_14 rfl 1 rfl ?_
  refine j_iload_n C0 dX6_drip_15 rfl 2 rfl ?_
  refine j_bipush (v := 6) C0 dX6_drip_16 rfl ?_
  refine j_iload_n C0 dX6_drip_18 rfl 0 rfl ?_
  obtain ⟨q3, hcq3, hf⟩ := bd_some hf
  refine j_callV (As := [.int x1, .int (6 : Int32), .int q1]) (rest := []) (stk := []) (G2 := (Cc, Bb, q3)) C0 (c_X6_add hi (Cc := Cc) (Bb := Bb)  hcq3) kw_X6_80 bi_X6_add bx_X6_add id_c14 oc_14 rfl ⟨by decide, by decide⟩ ⟨Nat.zero_le _, Nat.zero_le _⟩ rfl rfl (Nat.le_of_ble_eq_true rfl) rfl rfl dX6_drip_19 ?_
  refine j_aload_n C0 dX6_drip_22 rfl 1 rfl ?_
  refine j_iload_n C0 dX6_drip_23 rfl 2 rfl ?_
  refine j_bipush (v := 7) C0 dX6_drip_24 rfl ?_
  refine j_iload_n C0 dX6_drip_26 rfl 0 rfl ?_
  obtain ⟨q4, hcq4, hf⟩ := bd_some hf
  refine j_callV (As := [.int x1, .int (7 : Int32), .int q1]) (rest := []) (stk := []) (G2 := (Cc, Bb, q4)) C0 (c_X6_add hi (Cc := Cc) (Bb := Bb)  hcq4) kw_X6_80 bi_X6_add bx_X6_add id_c14 oc_14 rfl ⟨by decide, by decide⟩ ⟨Nat.zero_le _, Nat.zero_le _⟩ rfl rfl (Nat.le_of_ble_eq_true rfl) rfl rfl dX6_drip_27 ?_
  refine j_aload_n C0 dX6_drip_30 rfl 1 rfl ?_
  refine j_iload_n C0 dX6_drip_31 rfl 2 rfl ?_
  refine j_iconst (v := 0) C0 dX6_drip_32 rfl ?_
  obtain ⟨q5, hcq5, hf⟩ := bd_some hf
  refine j_callV (As := [.int x1, .int (0 : Int32)]) (rest := []) (stk := [.int q5]) (G2 := (Cc, Bb, q4)) C0 (c_X6_of hi (Cc := Cc) (Bb := Bb)  hcq5) kw_X6_48 bi_X6_of bx_X6_of id_c14 oc_14 rfl ⟨by decide, by decide⟩ ⟨Nat.zero_le _, Nat.zero_le _⟩ rfl rfl (Nat.le_of_ble_eq_true rfl) rfl rfl dX6_drip_33 ?_
  refine j_if_ne (tgt := 48) C0 dX6_drip_36 (by decide) (fun c6 => ?_) (fun c6 => ?_)
  · have hf := if_f c6 hf
    refine j_aload_n C0 dX6_drip_48 rfl 1 rfl ?_
    refine j_iload_n C0 dX6_drip_49 rfl 2 rfl ?_
    refine j_iconst (v := 0) C0 dX6_drip_50 rfl ?_
    obtain ⟨q7, hcq7, hf⟩ := bd_some hf
    refine j_callV (As := [.int x1, .int (0 : Int32)]) (rest := []) (stk := [.int q7]) (G2 := (Cc, Bb, q4)) C0 (c_X6_of hi (Cc := Cc) (Bb := Bb)  hcq7) kw_X6_48 bi_X6_of bx_X6_of id_c14 oc_14 rfl ⟨by decide, by decide⟩ ⟨Nat.zero_le _, Nat.zero_le _⟩ rfl rfl (Nat.le_of_ble_eq_true rfl) rfl rfl dX6_drip_51 ?_
    refine j_iconst (v := 1) C0 dX6_drip_54 rfl ?_
    refine j_icmp_ne (tgt := 67) C0 dX6_drip_55 (by decide) (fun c8 => ?_) (fun c8 => ?_)
    · have hf := if_f c8 hf
      refine j_aload_n C0 dX6_drip_67 rfl 1 rfl ?_
      refine j_iload_n C0 dX6_drip_68 rfl 2 rfl ?_
      refine j_iconst (v := 4) C0 dX6_drip_69 rfl ?_
      refine j_iload_n C0 dX6_drip_70 rfl 0 rfl ?_
      obtain ⟨q9, hcq9, hf⟩ := bd_some hf
      refine j_callV (As := [.int x1, .int (4 : Int32), .int q1]) (rest := []) (stk := []) (G2 := (Cc, Bb, q9)) C0 (c_X6_add hi (Cc := Cc) (Bb := Bb)  hcq9) kw_X6_80 bi_X6_add bx_X6_add id_c14 oc_14 rfl ⟨by decide, by decide⟩ ⟨Nat.zero_le _, Nat.zero_le _⟩ rfl rfl (Nat.le_of_ble_eq_true rfl) rfl rfl dX6_drip_71 ?_
      refine j_aload_n C0 dX6_drip_74 rfl 1 rfl ?_
      refine j_iload_n C0 dX6_drip_75 rfl 2 rfl ?_
      refine j_iconst (v := 4) C0 dX6_drip_76 rfl ?_
      obtain ⟨q10, hcq10, hf⟩ := bd_some hf
      refine j_callV (As := [.int x1, .int (4 : Int32)]) (rest := []) (stk := [.int q10]) (G2 := (Cc, Bb, q9)) C0 (c_X6_of hi (Cc := Cc) (Bb := Bb)  hcq10) kw_X6_48 bi_X6_of bx_X6_of id_c14 oc_14 rfl ⟨by decide, by decide⟩ ⟨Nat.zero_le _, Nat.zero_le _⟩ rfl rfl (Nat.le_of_ble_eq_true rfl) rfl rfl dX6_drip_77 ?_
      refine j_aload_n C0 dX6_drip_80 rfl 1 rfl ?_
      refine j_getr (id2 := (15, 0, 0)) C0 fl_X6_7 rl_6_0 id_c14 dX6_drip_81 ?_
      refine j_iconst (v := 1) C0 dX6_drip_84 rfl ?_
      refine j_iald (x := (q9 0 1)) C0 al_15_0 rfl id_m0 (by decide) (by rw [Nat.zero_add]; rfl) dX6_drip_85 ?_
      refine j_icmp_lt (tgt := 94) C0 dX6_drip_86 (by decide) (fun c11 => ?_) (fun c11 => ?_)
      · have hf := if_t c11 hf
        refine j_iload_n C0 dX6_drip_94 rfl 0 rfl ?_
        exact j_iret C0 hr dX6_drip_95 (pr1 hf) (congrArg (fun z => (Cc, Bb, z)) (pr2 hf))
      have hf := if_f c11 hf
      refine j_aload_n C0 dX6_drip_89 rfl 1 rfl ?_
      refine j_iload_n C0 dX6_drip_90 rfl 2 rfl ?_
      obtain ⟨q12, hcq12, hf⟩ := bd_some hf
      refine j_callV (As := [.int x1]) (rest := []) (stk := []) (G2 := (Cc, Bb, q12)) C0 (c_X6_stroke hi (Cc := Cc) (Bb := Bb)  hcq12) kw_X6_96 bi_X6_stroke bx_X6_stroke id_c14 oc_14 rfl ⟨by decide, by decide⟩ ⟨Nat.zero_le _, Nat.zero_le _⟩ rfl rfl (Nat.le_of_ble_eq_true rfl) rfl rfl dX6_drip_91 ?_
      refine j_iload_n C0 dX6_drip_94 rfl 0 rfl ?_
      exact j_iret C0 hr dX6_drip_95 (pr1 hf) (congrArg (fun z => (Cc, Bb, z)) (pr2 hf))
    have hf := if_t c8 hf
    refine j_aload_n C0 dX6_drip_58 rfl 1 rfl ?_
    refine j_iload_n C0 dX6_drip_59 rfl 2 rfl ?_
    refine j_iload_n C0 dX6_drip_60 rfl 0 rfl ?_
    obtain ⟨q13, hcq13, hf⟩ := bd_some hf
    refine j_callV (As := [.int x1, .int q1]) (rest := []) (stk := []) (G2 := (Cc, Bb, q13)) C0 (c_X6_rise hi (Cc := Cc) (Bb := Bb)  hcq13) kw_X6_93 bi_X6_rise bx_X6_rise id_c14 oc_14 rfl ⟨by decide, by decide⟩ ⟨Nat.zero_le _, Nat.zero_le _⟩ rfl rfl (Nat.le_of_ble_eq_true rfl) rfl rfl dX6_drip_61 ?_
    refine j_goto (tgt := 94) C0 dX6_drip_64 (by decide) ?_
    refine j_iload_n C0 dX6_drip_94 rfl 0 rfl ?_
    exact j_iret C0 hr dX6_drip_95 (pr1 hf) (congrArg (fun z => (Cc, Bb, z)) (pr2 hf))
  have hf := if_t c6 hf
  refine j_aload_n C0 dX6_drip_39 rfl 1 rfl ?_
  refine j_iload_n C0 dX6_drip_40 rfl 2 rfl ?_
  refine j_iload_n C0 dX6_drip_41 rfl 0 rfl ?_
  obtain ⟨q14, hcq14, hf⟩ := bd_some hf
  refine j_callV (As := [.int x1, .int q1]) (rest := []) (stk := []) (G2 := (Cc, Bb, q14)) C0 (c_X6_goOn hi (Cc := Cc) (Bb := Bb)  hcq14) kw_X6_86 bi_X6_goOn bx_X6_goOn id_c14 oc_14 rfl ⟨by decide, by decide⟩ ⟨Nat.zero_le _, Nat.zero_le _⟩ rfl rfl (Nat.le_of_ble_eq_true rfl) rfl rfl dX6_drip_42 ?_
  refine j_goto (tgt := 94) C0 dX6_drip_45 (by decide) ?_
  refine j_iload_n C0 dX6_drip_94 rfl 0 rfl ?_
  exact j_iret C0 hr dX6_drip_95 (pr1 hf) (congrArg (fun z => (Cc, Bb, z)) (pr2 hf))

set_option maxHeartbeats 4000000 in
set_option maxRecDepth 100000 in
theorem c_X6_widen {l : Launch} {D : va_G} {ca : Nat → ClassId} {ad : I3 → Nat} (hi : adI ad) {Cc : Nat → Nat → Int32} {Bb : Nat → Fin 9} {M : Nat → Nat → Int32} {x1 : Int32} {M' : Nat → Nat → Int32}  (hf : fM_widen M x1 = some (M')) : MT l D ca ad yX6_widen cX6_widen 3 none 1 23 [.ref (ad (14, 0, 0)), .int x1] (Cc, Bb, M) none (Cc, Bb, M') := by
  refine met_J (lv := [(0, .ref (ad (14, 0, 0))), (1, .int x1)]) hi (by decide +kernel) (Nat.le_of_ble_eq_true rfl) rfl (fun p e s m below meth c C0 hr => ?_)
  have L0 : ∀ (n : Nat) (M : Nat → Nat → Int32) (y1 : Int32), fM_widen_L0 n M y1 = some (M') → J D ca ad p l e ({ frames := 1, cells := 0, slots := 0, locals := 23 }) s m [.ref (ad (14, 0, 0)), .int x1].toArray below meth c 0 0 (MQ below (post D ca ad none (Cc, Bb, M')) [.ref (ad (14, 0, 0)), .int x1].toArray s 0 0 (adA ad)) 3 (Cc, Bb, M) 0 [(0, .ref (ad (14, 0, 0))), (1, .int y1)] [] := by
    intro n
    induction n with
    | zero =>
      intro M y1 hf
      exact (none_ne hf).elim
    | succ n ih =>
      intro M y1 hf
      rw [fM_widen_L0] at hf
      refine j_aload_n C0 dX6_widen_0 rfl 0 rfl ?_
      refine j_iload_n C0 dX6_widen_1 rfl 1 rfl ?_
      refine j_bipush (v := 7) C0 dX6_widen_2 rfl ?_
      obtain ⟨q1, hcq1, hf⟩ := bd_some hf
      refine j_callV (As := [.int y1, .int (7 : Int32)]) (rest := []) (stk := [.int q1]) (G2 := (Cc, Bb, M)) C0 (c_X6_of hi (Cc := Cc) (Bb := Bb)  hcq1) kw_X6_48 bi_X6_of bx_X6_of id_c14 oc_14 rfl ⟨by decide, by decide⟩ ⟨Nat.zero_le _, Nat.zero_le _⟩ rfl rfl (Nat.le_of_ble_eq_true rfl) rfl rfl dX6_widen_4 ?_
      refine j_aload_n C0 dX6_widen_7 rfl 0 rfl ?_
      refine j_getr (id2 := (15, 0, 0)) C0 fl_X6_7 rl_6_0 id_c14 dX6_widen_8 ?_
      refine j_iconst (v := 2) C0 dX6_widen_11 rfl ?_
      refine j_iald (x := (M 0 2)) C0 al_15_0 rfl id_m0 (by decide) (by rw [Nat.zero_add]; rfl) dX6_widen_12 ?_
      refine j_icmp_lt (tgt := 65) C0 dX6_widen_13 (by decide) (fun c2 => ?_) (fun c2 => ?_)
      · have hf := if_t c2 hf
        exact j_vret C0 hr dX6_widen_65 (congrArg (fun z => (Cc, Bb, z)) (so hf))
      have hf := if_f c2 hf
      refine j_aload_n C0 dX6_widen_16 rfl 0 rfl ?_
      refine j_iload_n C0 dX6_widen_17 rfl 1 rfl ?_
      refine j_bipush (v := 7) C0 dX6_widen_18 rfl ?_
      refine j_aload_n C0 dX6_widen_20 rfl 0 rfl ?_
      refine j_getr (id2 := (15, 0, 0)) C0 fl_X6_7 rl_6_0 id_c14 dX6_widen_21 ?_
      refine j_iconst (v := 2) C0 dX6_widen_24 rfl ?_
      refine j_iald (x := (M 0 2)) C0 al_15_0 rfl id_m0 (by decide) (by rw [Nat.zero_add]; rfl) dX6_widen_25 ?_
      refine j_ineg C0 dX6_widen_26 ?_
      obtain ⟨q3, hcq3, hf⟩ := bd_some hf
      refine j_callV (As := [.int y1, .int (7 : Int32), .int (-(M 0 2))]) (rest := []) (stk := []) (G2 := (Cc, Bb, q3)) C0 (c_X6_add hi (Cc := Cc) (Bb := Bb)  hcq3) kw_X6_80 bi_X6_add bx_X6_add id_c14 oc_14 rfl ⟨by decide, by decide⟩ ⟨Nat.zero_le _, Nat.zero_le _⟩ rfl rfl (Nat.le_of_ble_eq_true rfl) rfl rfl dX6_widen_27 ?_
      refine j_aload_n C0 dX6_widen_30 rfl 0 rfl ?_
      refine j_iload_n C0 dX6_widen_31 rfl 1 rfl ?_
      refine j_iconst (v := 1) C0 dX6_widen_32 rfl ?_
      obtain ⟨q4, hcq4, hf⟩ := bd_some hf
      refine j_callV (As := [.int y1, .int (1 : Int32)]) (rest := []) (stk := [.int q4]) (G2 := (Cc, Bb, q3)) C0 (c_X6_of hi (Cc := Cc) (Bb := Bb)  hcq4) kw_X6_48 bi_X6_of bx_X6_of id_c14 oc_14 rfl ⟨by decide, by decide⟩ ⟨Nat.zero_le _, Nat.zero_le _⟩ rfl rfl (Nat.le_of_ble_eq_true rfl) rfl rfl dX6_widen_33 ?_
      refine j_bipush (v := 60) C0 dX6_widen_36 rfl ?_
      obtain ⟨q5, hsq5, hf⟩ := bd_some hf
      have Jq5 : J D ca ad p l e ({ frames := 1, cells := 0, slots := 0, locals := 23 }) s m [.ref (ad (14, 0, 0)), .int x1].toArray below meth c 0 0 (MQ below (post D ca ad none (Cc, Bb, M')) [.ref (ad (14, 0, 0)), .int x1].toArray s 0 0 (adA ad)) 3 (Cc, Bb, q3) 46 [(0, .ref (ad (14, 0, 0))), (1, .int y1)] [.int q5] := by
        refine j_istore_n (lv' := [(2, .int q5), (0, .ref (ad (14, 0, 0))), (1, .int y1)]) C0 dX6_widen_46 rfl (by decide) rfl ?_
        refine j_aload_n C0 dX6_widen_47 rfl 1 rfl ?_
        refine j_iload_n C0 dX6_widen_48 rfl 2 rfl ?_
        refine j_iconst (v := 1) C0 dX6_widen_49 rfl ?_
        refine j_iload_n C0 dX6_widen_50 rfl 0 rfl ?_
        obtain ⟨q6, hcq6, hf⟩ := bd_some hf
        refine j_callV (As := [.int y1, .int (1 : Int32), .int q5]) (rest := []) (stk := []) (G2 := (Cc, Bb, q6)) C0 (c_X6_add hi (Cc := Cc) (Bb := Bb)  hcq6) kw_X6_80 bi_X6_add bx_X6_add id_c14 oc_14 rfl ⟨by decide, by decide⟩ ⟨Nat.zero_le _, Nat.zero_le _⟩ rfl rfl (Nat.le_of_ble_eq_true rfl) rfl rfl dX6_widen_51 ?_
        refine j_aload_n C0 dX6_widen_54 rfl 1 rfl ?_
        refine j_iload_n C0 dX6_widen_55 rfl 2 rfl ?_
        refine j_bipush (v := 12) C0 dX6_widen_56 rfl ?_
        refine j_iload_n C0 dX6_widen_58 rfl 0 rfl ?_
        obtain ⟨q7, hcq7, hf⟩ := bd_some hf
        refine j_callV (As := [.int y1, .int (12 : Int32), .int q5]) (rest := []) (stk := []) (G2 := (Cc, Bb, q7)) C0 (c_X6_add hi (Cc := Cc) (Bb := Bb)  hcq7) kw_X6_80 bi_X6_add bx_X6_add id_c14 oc_14 rfl ⟨by decide, by decide⟩ ⟨Nat.zero_le _, Nat.zero_le _⟩ rfl rfl (Nat.le_of_ble_eq_true rfl) rfl rfl dX6_widen_59 ?_
        refine j_goto (tgt := 0) C0 dX6_widen_62 (by decide) ?_
        exact j_sub [1, 2] rfl (ih q7 y1 hf)
      refine j_icmp_ge (tgt := 45) C0 dX6_widen_38 (by decide) (fun c8 => ?_) (fun c8 => ?_)
      · have hsq5 := if_t c8 hsq5
        refine j_iconst (v := 0) C0 dX6_widen_45 rfl ?_
        obtain rfl := so hsq5
        exact j_sub [0, 1] rfl Jq5
      have hsq5 := if_f c8 hsq5
      refine j_iconst (v := 1) C0 dX6_widen_41 rfl ?_
      refine j_goto (tgt := 46) C0 dX6_widen_42 (by decide) ?_
      obtain rfl := so hsq5
      exact j_sub [0, 1] rfl Jq5
  unfold fM_widen at hf
  exact j_sub [0, 1] rfl (L0 fuel M x1 hf)

set_option maxHeartbeats 4000000 in
set_option maxRecDepth 100000 in
theorem c_X6_isNoon {l : Launch} {D : va_G} {ca : Nat → ClassId} {ad : I3 → Nat} (hi : adI ad) {Cc : Nat → Nat → Int32} {Bb : Nat → Fin 9} {M : Nat → Nat → Int32} {r0 : Int32}  (hf : fM_isNoon M = some (r0)) : MT l D ca ad yX6_isNoon cX6_isNoon 1 (some .boolean) 1 20 [.ref (ad (14, 0, 0))] (Cc, Bb, M) (some (.int r0)) (Cc, Bb, M) := by
  refine met_J (lv := [(0, .ref (ad (14, 0, 0)))]) hi (by decide +kernel) (Nat.le_of_ble_eq_true rfl) rfl (fun p e s m below meth c C0 hr => ?_)
  unfold fM_isNoon at hf
  refine j_aload_n C0 dX6_isNoon_0 rfl 0 rfl ?_
  refine j_getr (id2 := (15, 0, 0)) C0 fl_X6_7 rl_6_0 id_c14 dX6_isNoon_1 ?_
  refine j_bipush (v := 6) C0 dX6_isNoon_4 rfl ?_
  refine j_iald (x := (M 0 6)) C0 al_15_0 rfl id_m0 (by decide) (by rw [Nat.zero_add]; rfl) dX6_isNoon_6 ?_
  refine j_aload_n C0 dX6_isNoon_7 rfl 0 rfl ?_
  refine j_getr (id2 := (15, 0, 0)) C0 fl_X6_7 rl_6_0 id_c14 dX6_isNoon_8 ?_
  refine j_iconst (v := 3) C0 dX6_isNoon_11 rfl ?_
  refine j_iald (x := (M 0 3)) C0 al_15_0 rfl id_m0 (by decide) (by rw [Nat.zero_add]; rfl) dX6_isNoon_12 ?_
  obtain ⟨h1, hf⟩ := gd_some hf
  refine j_irem C0 dX6_isNoon_13 h1 ?_
  refine j_if_ne (tgt := 31) C0 dX6_isNoon_14 (by decide) (fun c2 => ?_) (fun c2 => ?_)
  · have hf := if_f c2 hf
    refine j_iconst (v := 0) C0 dX6_isNoon_31 rfl ?_
    exact j_zret C0 hr rfl dX6_isNoon_32 (so hf) rfl
  have hf := if_t c2 hf
  refine j_aload_n C0 dX6_isNoon_17 rfl 0 rfl ?_
  obtain ⟨q3, hcq3, hf⟩ := bd_some hf
  refine j_callV (As := []) (rest := []) (stk := [.int q3]) (G2 := (Cc, Bb, M)) C0 (c_X6_trueHour hi (Cc := Cc) (Bb := Bb)  hcq3) kw_X6_62 bi_X6_trueHour bx_X6_trueHour id_c14 oc_14 rfl ⟨by decide, by decide⟩ ⟨Nat.zero_le _, Nat.zero_le _⟩ rfl rfl (Nat.le_of_ble_eq_true rfl) rfl rfl dX6_isNoon_18 ?_
  refine j_bipush (v := 12) C0 dX6_isNoon_21 rfl ?_
  refine j_irem C0 dX6_isNoon_23 (by decide) ?_
  refine j_if_ne (tgt := 31) C0 dX6_isNoon_24 (by decide) (fun c4 => ?_) (fun c4 => ?_)
  · have hf := if_f c4 hf
    refine j_iconst (v := 0) C0 dX6_isNoon_31 rfl ?_
    exact j_zret C0 hr rfl dX6_isNoon_32 (so hf) rfl
  have hf := if_t c4 hf
  refine j_iconst (v := 1) C0 dX6_isNoon_27 rfl ?_
  refine j_goto (tgt := 32) C0 dX6_isNoon_28 (by decide) ?_
  exact j_zret C0 hr rfl dX6_isNoon_32 (so hf) rfl

set_option maxHeartbeats 4000000 in
set_option maxRecDepth 100000 in
theorem c_X6_book {l : Launch} {D : va_G} {ca : Nat → ClassId} {ad : I3 → Nat} (hi : adI ad) {Cc : Nat → Nat → Int32} {Bb : Nat → Fin 9} {M : Nat → Nat → Int32} {M' : Nat → Nat → Int32}  (hf : fM_book M = some (M')) : MT l D ca ad yX6_book cX6_book 2 none 4 86 [.ref (ad (14, 0, 0))] (Cc, Bb, M) none (Cc, Bb, M') := by
  refine met_J (lv := [(0, .ref (ad (14, 0, 0)))]) hi (by decide +kernel) (Nat.le_of_ble_eq_true rfl) rfl (fun p e s m below meth c C0 hr => ?_)
  have L52 : ∀ (n : Nat) (M : Nat → Nat → Int32) (y1 : Int32), fM_book_L52 n M y1 = some (M') → J D ca ad p l e ({ frames := 4, cells := 0, slots := 0, locals := 86 }) s m [.ref (ad (14, 0, 0))].toArray below meth c 0 0 (MQ below (post D ca ad none (Cc, Bb, M')) [.ref (ad (14, 0, 0))].toArray s 0 0 (adA ad)) 2 (Cc, Bb, M) 52 [(0, .ref (ad (14, 0, 0))), (1, .int y1)] [] := by
    intro n
    induction n with
    | zero =>
      intro M y1 hf
      exact (none_ne hf).elim
    | succ n ih =>
      intro M y1 hf
      rw [fM_book_L52] at hf
      refine j_iload_n C0 dX6_book_52 rfl 1 rfl ?_
      refine j_iconst (v := 5) C0 dX6_book_53 rfl ?_
      refine j_icmp_ge (tgt := 92) C0 dX6_book_54 (by decide) (fun c4 => ?_) (fun c4 => ?_)
      · have hf := if_t c4 hf
        refine j_aload_n C0 dX6_book_92 rfl 0 rfl ?_
        refine j_getr (id2 := (15, 0, 0)) C0 fl_X6_7 rl_6_0 id_c14 dX6_book_93 ?_
        refine j_bipush (v := 95) C0 dX6_book_96 rfl ?_
        refine j_dup2 C0 dX6_book_98 rfl rfl ?_
        refine j_iald (x := (M 0 95)) C0 al_15_0 rfl id_m0 (by decide) (by rw [Nat.zero_add]; rfl) dX6_book_99 ?_
        refine j_aload_n C0 dX6_book_100 rfl 0 rfl ?_
        refine j_getr (id2 := (15, 0, 0)) C0 fl_X6_7 rl_6_0 id_c14 dX6_book_101 ?_
        refine j_bipush (v := 95) C0 dX6_book_104 rfl ?_
        refine j_iald (x := (M 0 95)) C0 al_15_0 rfl id_m0 (by decide) (by rw [Nat.zero_add]; rfl) dX6_book_106 ?_
        refine j_iconst (v := 4) C0 dX6_book_107 rfl ?_
        obtain ⟨q5, hsq5, hf⟩ := bd_some hf
        have Jq5 : J D ca ad p l e ({ frames := 4, cells := 0, slots := 0, locals := 86 }) s m [.ref (ad (14, 0, 0))].toArray below meth c 0 0 (MQ below (post D ca ad none (Cc, Bb, M')) [.ref (ad (14, 0, 0))].toArray s 0 0 (adA ad)) 2 (Cc, Bb, M) 116 [(0, .ref (ad (14, 0, 0)))] [.int q5, .int (M 0 95), .int (95 : Int32), .ref (ad (15, 0, 0))] := by
          refine j_iadd C0 dX6_book_116 ?_
          obtain ⟨M6, e7, hf⟩ := lt_some hf
          refine j_iast (G' := (Cc, Bb, M6)) C0 al_15_0 rfl id_m0 (by decide) (by rw [Nat.zero_add]; exact (eM_set e7)) dX6_book_117 ?_
          refine j_aload_n C0 dX6_book_118 rfl 0 rfl ?_
          refine j_getr (id2 := (15, 0, 0)) C0 fl_X6_7 rl_6_0 id_c14 dX6_book_119 ?_
          refine j_bipush (v := 14) C0 dX6_book_122 rfl ?_
          refine j_dup2 C0 dX6_book_124 rfl rfl ?_
          refine j_iald (x := (M6 0 14)) C0 al_15_0 rfl id_m0 (by decide) (by rw [Nat.zero_add]; rfl) dX6_book_125 ?_
          refine j_iconst (v := 1) C0 dX6_book_126 rfl ?_
          refine j_iadd C0 dX6_book_127 ?_
          obtain ⟨M8, e9, hf⟩ := lt_some hf
          refine j_iast (G' := (Cc, Bb, M8)) C0 al_15_0 rfl id_m0 (by decide) (by rw [Nat.zero_add]; exact (eM_set e9)) dX6_book_128 ?_
          exact j_vret C0 hr dX6_book_129 (congrArg (fun z => (Cc, Bb, z)) (so hf))
        refine j_icmp_ge (tgt := 115) C0 dX6_book_108 (by decide) (fun c10 => ?_) (fun c10 => ?_)
        · have hsq5 := if_t c10 hsq5
          refine j_iconst (v := 0) C0 dX6_book_115 rfl ?_
          obtain rfl := so hsq5
          exact j_sub [0] rfl Jq5
        have hsq5 := if_f c10 hsq5
        refine j_iconst (v := 1) C0 dX6_book_111 rfl ?_
        refine j_goto (tgt := 116) C0 dX6_book_112 (by decide) ?_
        obtain rfl := so hsq5
        exact j_sub [0] rfl Jq5
      have hf := if_f c4 hf
      refine j_aload_n C0 dX6_book_57 rfl 0 rfl ?_
      refine j_getr (id2 := (15, 0, 0)) C0 fl_X6_7 rl_6_0 id_c14 dX6_book_58 ?_
      refine j_bipush (v := 97) C0 dX6_book_61 rfl ?_
      refine j_iload_n C0 dX6_book_63 rfl 1 rfl ?_
      refine j_iadd C0 dX6_book_64 ?_
      refine j_iload_n C0 dX6_book_65 rfl 1 rfl ?_
      refine j_aload_n C0 dX6_book_66 rfl 0 rfl ?_
      refine j_getr (id2 := (15, 0, 0)) C0 fl_X6_7 rl_6_0 id_c14 dX6_book_67 ?_
      refine j_bipush (v := 19) C0 dX6_book_70 rfl ?_
      refine j_iald (x := (M 0 19)) C0 al_15_0 rfl id_m0 (by decide) (by rw [Nat.zero_add]; rfl) dX6_book_72 ?_
      refine j_icmp_ge (tgt := 84) C0 dX6_book_73 (by decide) (fun c11 => ?_) (fun c11 => ?_)
      · have hf := if_t c11 hf
        refine j_iconst (v := 0) C0 dX6_book_84 rfl ?_
        obtain ⟨h12, hf⟩ := gd_some hf
        obtain ⟨M13, e14, hf⟩ := lt_some hf
        refine j_iast (G' := (Cc, Bb, M13)) C0 al_15_0 rfl id_m0 h12 (by rw [Nat.zero_add]; exact (eM_set e14)) dX6_book_85 ?_
        refine j_iinc (v := (y1 + 1)) (lv' := [(1, .int (y1 + 1)), (0, .ref (ad (14, 0, 0)))]) C0 dX6_book_86 1 rfl rfl (by decide) rfl ?_
        refine j_goto (tgt := 52) C0 dX6_book_89 (by decide) ?_
        exact j_sub [1, 0] rfl (ih M13 (y1 + 1) hf)
      have hf := if_f c11 hf
      refine j_aload_n C0 dX6_book_76 rfl 0 rfl ?_
      refine j_iload_n C0 dX6_book_77 rfl 1 rfl ?_
      obtain ⟨q15, hcq15, hf⟩ := bd_some hf
      refine j_callV (As := [.int y1]) (rest := [.int ((97 : Int32) + y1), .ref (ad (15, 0, 0))]) (stk := [.int q15, .int ((97 : Int32) + y1), .ref (ad (15, 0, 0))]) (G2 := (Cc, Bb, M)) C0 (c_X6_error hi (Cc := Cc) (Bb := Bb)  hcq15) kw_X6_66 bi_X6_error bx_X6_error id_c14 oc_14 rfl ⟨by decide, by decide⟩ ⟨Nat.zero_le _, Nat.zero_le _⟩ rfl rfl (Nat.le_of_ble_eq_true rfl) rfl rfl dX6_book_78 ?_
      refine j_goto (tgt := 85) C0 dX6_book_81 (by decide) ?_
      obtain ⟨h16, hf⟩ := gd_some hf
      obtain ⟨M17, e18, hf⟩ := lt_some hf
      refine j_iast (G' := (Cc, Bb, M17)) C0 al_15_0 rfl id_m0 h16 (by rw [Nat.zero_add]; exact (eM_set e18)) dX6_book_85 ?_
      refine j_iinc (v := (y1 + 1)) (lv' := [(1, .int (y1 + 1)), (0, .ref (ad (14, 0, 0)))]) C0 dX6_book_86 1 rfl rfl (by decide) rfl ?_
      refine j_goto (tgt := 52) C0 dX6_book_89 (by decide) ?_
      exact j_sub [1, 0] rfl (ih M17 (y1 + 1) hf)
  have L3 : ∀ (n : Nat) (M : Nat → Nat → Int32) (y1 : Int32), fM_book_L3 n M y1 = some (M') → J D ca ad p l e ({ frames := 4, cells := 0, slots := 0, locals := 86 }) s m [.ref (ad (14, 0, 0))].toArray below meth c 0 0 (MQ below (post D ca ad none (Cc, Bb, M')) [.ref (ad (14, 0, 0))].toArray s 0 0 (adA ad)) 2 (Cc, Bb, M) 3 [(0, .ref (ad (14, 0, 0))), (1, .int y1)] [] := by
    intro n
    induction n with
    | zero =>
      intro M y1 hf
      exact (none_ne hf).elim
    | succ n ih =>
      intro M y1 hf
      rw [fM_book_L3] at hf
      refine j_iload_n C0 dX6_book_3 rfl 1 rfl ?_
      refine j_bipush (v := 6) C0 dX6_book_4 rfl ?_
      refine j_icmp_lt (tgt := 36) C0 dX6_book_6 (by decide) (fun c1 => ?_) (fun c1 => ?_)
      · have hf := if_t c1 hf
        refine j_aload_n C0 dX6_book_36 rfl 0 rfl ?_
        refine j_getr (id2 := (15, 0, 0)) C0 fl_X6_7 rl_6_0 id_c14 dX6_book_37 ?_
        refine j_bipush (v := 96) C0 dX6_book_40 rfl ?_
        refine j_aload_n C0 dX6_book_42 rfl 0 rfl ?_
        refine j_getr (id2 := (15, 0, 0)) C0 fl_X6_7 rl_6_0 id_c14 dX6_book_43 ?_
        refine j_bipush (v := 19) C0 dX6_book_46 rfl ?_
        refine j_iald (x := (M 0 19)) C0 al_15_0 rfl id_m0 (by decide) (by rw [Nat.zero_add]; rfl) dX6_book_48 ?_
        obtain ⟨M2, e3, hf⟩ := lt_some hf
        refine j_iast (G' := (Cc, Bb, M2)) C0 al_15_0 rfl id_m0 (by decide) (by rw [Nat.zero_add]; exact (eM_set e3)) dX6_book_49 ?_
        refine j_iconst (v := 0) C0 dX6_book_50 rfl ?_
        refine j_istore_n (lv' := [(1, .int (0 : Int32)), (0, .ref (ad (14, 0, 0)))]) C0 dX6_book_51 rfl (by decide) rfl ?_
        exact j_sub [1, 0] rfl (L52 fuel M2 (0 : Int32) hf)
      have hf := if_f c1 hf
      refine j_aload_n C0 dX6_book_9 rfl 0 rfl ?_
      refine j_getr (id2 := (15, 0, 0)) C0 fl_X6_7 rl_6_0 id_c14 dX6_book_10 ?_
      refine j_bipush (v := 96) C0 dX6_book_13 rfl ?_
      refine j_iload_n C0 dX6_book_15 rfl 1 rfl ?_
      refine j_iadd C0 dX6_book_16 ?_
      refine j_aload_n C0 dX6_book_17 rfl 0 rfl ?_
      refine j_getr (id2 := (15, 0, 0)) C0 fl_X6_7 rl_6_0 id_c14 dX6_book_18 ?_
      refine j_bipush (v := 96) C0 dX6_book_21 rfl ?_
      refine j_iload_n C0 dX6_book_23 rfl 1 rfl ?_
      refine j_iadd C0 dX6_book_24 ?_
      refine j_bipush (v := 6) C0 dX6_book_25 rfl ?_
      refine j_isub C0 dX6_book_27 ?_
      obtain ⟨h19, hf⟩ := gd_some hf
      refine j_iald (x := (M 0 ((((96 : Int32) + y1) - (6 : Int32)).toNatClampNeg))) C0 al_15_0 rfl id_m0 h19 (by rw [Nat.zero_add]; rfl) dX6_book_28 ?_
      obtain ⟨h20, hf⟩ := gd_some hf
      obtain ⟨M21, e22, hf⟩ := lt_some hf
      refine j_iast (G' := (Cc, Bb, M21)) C0 al_15_0 rfl id_m0 h20 (by rw [Nat.zero_add]; exact (eM_set e22)) dX6_book_29 ?_
      refine j_iinc (v := (y1 + (-1))) (lv' := [(1, .int (y1 + (-1))), (0, .ref (ad (14, 0, 0)))]) C0 dX6_book_30 1 rfl rfl (by decide) rfl ?_
      refine j_goto (tgt := 3) C0 dX6_book_33 (by decide) ?_
      exact j_sub [1, 0] rfl (ih M21 (y1 + (-1)) hf)
  unfold fM_book at hf
  refine j_bipush (v := 23) C0 dX6_book_0 rfl ?_
  refine j_istore_n (lv' := [(1, .int (23 : Int32)), (0, .ref (ad (14, 0, 0)))]) C0 dX6_book_2 rfl (by decide) rfl ?_
  exact j_sub [1, 0] rfl (L3 fuel M (23 : Int32) hf)

set_option maxHeartbeats 4000000 in
set_option maxRecDepth 100000 in
theorem c_X6_noon {l : Launch} {D : va_G} {ca : Nat → ClassId} {ad : I3 → Nat} (hi : adI ad) {Cc : Nat → Nat → Int32} {Bb : Nat → Fin 9} {M : Nat → Nat → Int32} {M' : Nat → Nat → Int32}  (hf : fM_noon M = some (M')) : MT l D ca ad yX6_noon cX6_noon 3 none 5 107 [.ref (ad (14, 0, 0))] (Cc, Bb, M) none (Cc, Bb, M') := by
  refine met_J (lv := [(0, .ref (ad (14, 0, 0)))]) hi (by decide +kernel) (Nat.le_of_ble_eq_true rfl) rfl (fun p e s m below meth c C0 hr => ?_)
  have L6 : ∀ (n : Nat) (M : Nat → Nat → Int32) (y1 : Int32), fM_noon_L6 n M y1 = some (M') → J D ca ad p l e ({ frames := 5, cells := 0, slots := 0, locals := 107 }) s m [.ref (ad (14, 0, 0))].toArray below meth c 0 0 (MQ below (post D ca ad none (Cc, Bb, M')) [.ref (ad (14, 0, 0))].toArray s 0 0 (adA ad)) 3 (Cc, Bb, M) 6 [(0, .ref (ad (14, 0, 0))), (1, .int y1)] [] := by
    intro n
    induction n with
    | zero =>
      intro M y1 hf
      exact (none_ne hf).elim
    | succ n ih =>
      intro M y1 hf
      rw [fM_noon_L6] at hf
      refine j_iload_n C0 dX6_noon_6 rfl 1 rfl ?_
      refine j_aload_n C0 dX6_noon_7 rfl 0 rfl ?_
      refine j_getr (id2 := (15, 0, 0)) C0 fl_X6_7 rl_6_0 id_c14 dX6_noon_8 ?_
      refine j_bipush (v := 19) C0 dX6_noon_11 rfl ?_
      refine j_iald (x := (M 0 19)) C0 al_15_0 rfl id_m0 (by decide) (by rw [Nat.zero_add]; rfl) dX6_noon_13 ?_
      refine j_icmp_ge (tgt := 67) C0 dX6_noon_14 (by decide) (fun c2 => ?_) (fun c2 => ?_)
      · have hf := if_t c2 hf
        exact j_vret C0 hr dX6_noon_67 (congrArg (fun z => (Cc, Bb, z)) (so hf))
      have hf := if_f c2 hf
      refine j_aload_n C0 dX6_noon_17 rfl 0 rfl ?_
      refine j_iload_n C0 dX6_noon_18 rfl 1 rfl ?_
      obtain ⟨q3, hcq3, hf⟩ := bd_some hf
      refine j_callV (As := [.int y1]) (rest := []) (stk := [.int q3]) (G2 := (Cc, Bb, M)) C0 (c_X6_isOff hi (Cc := Cc) (Bb := Bb)  hcq3) kw_X6_102 bi_X6_isOff bx_X6_isOff id_c14 oc_14 rfl ⟨by decide, by decide⟩ ⟨Nat.zero_le _, Nat.zero_le _⟩ rfl rfl (Nat.le_of_ble_eq_true rfl) rfl rfl dX6_noon_19 ?_
      refine j_istore_n (lv' := [(2, .int q3), (0, .ref (ad (14, 0, 0))), (1, .int y1)]) C0 dX6_noon_22 rfl (by decide) rfl ?_
      refine j_aload_n C0 dX6_noon_23 rfl 1 rfl ?_
      refine j_getr (id2 := (15, 0, 0)) C0 fl_X6_7 rl_6_0 id_c14 dX6_noon_24 ?_
      refine j_bipush (v := 15) C0 dX6_noon_27 rfl ?_
      refine j_dup2 C0 dX6_noon_29 rfl rfl ?_
      refine j_iald (x := (M 0 15)) C0 al_15_0 rfl id_m0 (by decide) (by rw [Nat.zero_add]; rfl) dX6_noon_30 ?_
      refine j_iload_n C0 dX6_noon_31 rfl 0 rfl ?_
      obtain ⟨q4, hsq4, hf⟩ := bd_some hf
      have Jq4 : J D ca ad p l e ({ frames := 5, cells := 0, slots := 0, locals := 107 }) s m [.ref (ad (14, 0, 0))].toArray below meth c 0 0 (MQ below (post D ca ad none (Cc, Bb, M')) [.ref (ad (14, 0, 0))].toArray s 0 0 (adA ad)) 3 (Cc, Bb, M) 40 [(0, .ref (ad (14, 0, 0))), (1, .int y1), (2, .int q3)] [.int q4, .int (M 0 15), .int (15 : Int32), .ref (ad (15, 0, 0))] := by
        refine j_iadd C0 dX6_noon_40 ?_
        obtain ⟨M5, e6, hf⟩ := lt_some hf
        refine j_iast (G' := (Cc, Bb, M5)) C0 al_15_0 rfl id_m0 (by decide) (by rw [Nat.zero_add]; exact (eM_set e6)) dX6_noon_41 ?_
        refine j_iload_n C0 dX6_noon_42 rfl 2 rfl ?_
        refine j_if_eq (tgt := 61) C0 dX6_noon_43 (by decide) (fun c7 => ?_) (fun c7 => ?_)
        · have hf := if_t c7 hf
          refine j_iinc (v := (y1 + 1)) (lv' := [(1, .int (y1 + 1)), (0, .ref (ad (14, 0, 0))), (2, .int q3)]) C0 dX6_noon_61 1 rfl rfl (by decide) rfl ?_
          refine j_goto (tgt := 6) C0 dX6_noon_64 (by decide) ?_
          exact j_sub [1, 0] rfl (ih M5 (y1 + 1) hf)
        have hf := if_f c7 hf
        refine j_aload_n C0 dX6_noon_46 rfl 0 rfl ?_
        refine j_getr (id2 := (15, 0, 0)) C0 fl_X6_7 rl_6_0 id_c14 dX6_noon_47 ?_
        refine j_iconst (v := 5) C0 dX6_noon_50 rfl ?_
        refine j_iald (x := (M5 0 5)) C0 al_15_0 rfl id_m0 (by decide) (by rw [Nat.zero_add]; rfl) dX6_noon_51 ?_
        refine j_iconst (v := 1) C0 dX6_noon_52 rfl ?_
        refine j_icmp_ne (tgt := 61) C0 dX6_noon_53 (by decide) (fun c8 => ?_) (fun c8 => ?_)
        · have hf := if_f c8 hf
          refine j_iinc (v := (y1 + 1)) (lv' := [(1, .int (y1 + 1)), (0, .ref (ad (14, 0, 0))), (2, .int q3)]) C0 dX6_noon_61 1 rfl rfl (by decide) rfl ?_
          refine j_goto (tgt := 6) C0 dX6_noon_64 (by decide) ?_
          exact j_sub [1, 0] rfl (ih M5 (y1 + 1) hf)
        have hf := if_t c8 hf
        refine j_aload_n C0 dX6_noon_56 rfl 0 rfl ?_
        refine j_iload_n C0 dX6_noon_57 rfl 1 rfl ?_
        obtain ⟨q9, hcq9, hf⟩ := bd_some hf
        refine j_callV (As := [.int y1]) (rest := []) (stk := []) (G2 := (Cc, Bb, q9)) C0 (c_X6_makeTrue hi (Cc := Cc) (Bb := Bb)  hcq9) kw_X6_105 bi_X6_makeTrue bx_X6_makeTrue id_c14 oc_14 rfl ⟨by decide, by decide⟩ ⟨Nat.zero_le _, Nat.zero_le _⟩ rfl rfl (Nat.le_of_ble_eq_true rfl) rfl rfl dX6_noon_58 ?_
        refine j_iinc (v := (y1 + 1)) (lv' := [(1, .int (y1 + 1)), (0, .ref (ad (14, 0, 0))), (2, .int q3)]) C0 dX6_noon_61 1 rfl rfl (by decide) rfl ?_
        refine j_goto (tgt := 6) C0 dX6_noon_64 (by decide) ?_
        exact j_sub [1, 0] rfl (ih q9 (y1 + 1) hf)
      refine j_if_eq (tgt := 39) C0 dX6_noon_32 (by decide) (fun c10 => ?_) (fun c10 => ?_)
      · have hsq4 := if_t c10 hsq4
        refine j_iconst (v := 0) C0 dX6_noon_39 rfl ?_
        obtain rfl := so hsq4
        exact j_sub [1, 2, 0] rfl Jq4
      have hsq4 := if_f c10 hsq4
      refine j_iconst (v := 1) C0 dX6_noon_35 rfl ?_
      refine j_goto (tgt := 40) C0 dX6_noon_36 (by decide) ?_
      obtain rfl := so hsq4
      exact j_sub [1, 2, 0] rfl Jq4
  unfold fM_noon at hf
  refine j_aload_n C0 dX6_noon_0 rfl 0 rfl ?_
  obtain ⟨q1, hcq1, hf⟩ := bd_some hf
  refine j_callV (As := []) (rest := []) (stk := []) (G2 := (Cc, Bb, q1)) C0 (c_X6_book hi (Cc := Cc) (Bb := Bb)  hcq1) kw_X6_99 bi_X6_book bx_X6_book id_c14 oc_14 rfl ⟨by decide, by decide⟩ ⟨Nat.zero_le _, Nat.zero_le _⟩ rfl rfl (Nat.le_of_ble_eq_true rfl) rfl rfl dX6_noon_1 ?_
  refine j_iconst (v := 0) C0 dX6_noon_4 rfl ?_
  refine j_istore_n (lv' := [(1, .int (0 : Int32)), (0, .ref (ad (14, 0, 0)))]) C0 dX6_noon_5 rfl (by decide) rfl ?_
  exact j_sub [1, 0] rfl (L6 fuel q1 (0 : Int32) hf)

set_option maxHeartbeats 4000000 in
set_option maxRecDepth 100000 in
theorem c_X6_pass {l : Launch} {D : va_G} {ca : Nat → ClassId} {ad : I3 → Nat} (hi : adI ad) {Cc : Nat → Nat → Int32} {Bb : Nat → Fin 9} {M : Nat → Nat → Int32} {r0 : Int32} {M' : Nat → Nat → Int32}  (hf : fM_pass M = some (r0, M')) : MT l D ca ad yX6_pass cX6_pass 3 (some .int) 5 114 [.ref (ad (14, 0, 0))] (Cc, Bb, M) (some (.int r0)) (Cc, Bb, M') := by
  refine met_J (lv := [(0, .ref (ad (14, 0, 0)))]) hi (by decide +kernel) (Nat.le_of_ble_eq_true rfl) rfl (fun p e s m below meth c C0 hr => ?_)
  have L31 : ∀ (n : Nat) (M : Nat → Nat → Int32) (y1 : Int32) (y2 : Int32), fM_pass_L31 n M y1 y2 = some (r0, M') → J D ca ad p l e ({ frames := 5, cells := 0, slots := 0, locals := 114 }) s m [.ref (ad (14, 0, 0))].toArray below meth c 0 0 (MQ below (post D ca ad (some (.int r0)) (Cc, Bb, M')) [.ref (ad (14, 0, 0))].toArray s 0 0 (adA ad)) 3 (Cc, Bb, M) 31 [(0, .ref (ad (14, 0, 0))), (1, .int y1), (2, .int y2)] [] := by
    intro n
    induction n with
    | zero =>
      intro M y1 y2 hf
      exact (none_ne hf).elim
    | succ n ih =>
      intro M y1 y2 hf
      rw [fM_pass_L31] at hf
      refine j_iload_n C0 dX6_pass_31 rfl 2 rfl ?_
      refine j_aload_n C0 dX6_pass_32 rfl 0 rfl ?_
      refine j_getr (id2 := (15, 0, 0)) C0 fl_X6_7 rl_6_0 id_c14 dX6_pass_33 ?_
      refine j_bipush (v := 19) C0 dX6_pass_36 rfl ?_
      refine j_iald (x := (M 0 19)) C0 al_15_0 rfl id_m0 (by decide) (by rw [Nat.zero_add]; rfl) dX6_pass_38 ?_
      refine j_icmp_ge (tgt := 53) C0 dX6_pass_39 (by decide) (fun c2 => ?_) (fun c2 => ?_)
      · have hf := if_t c2 hf
        refine j_aload_n C0 dX6_pass_53 rfl 0 rfl ?_
        refine j_getr (id2 := (15, 0, 0)) C0 fl_X6_7 rl_6_0 id_c14 dX6_pass_54 ?_
        refine j_bipush (v := 11) C0 dX6_pass_57 rfl ?_
        refine j_dup2 C0 dX6_pass_59 rfl rfl ?_
        refine j_iald (x := (M 0 11)) C0 al_15_0 rfl id_m0 (by decide) (by rw [Nat.zero_add]; rfl) dX6_pass_60 ?_
        refine j_iload_n C0 dX6_pass_61 rfl 1 rfl ?_
        refine j_iadd C0 dX6_pass_62 ?_
        obtain ⟨M3, e4, hf⟩ := lt_some hf
        refine j_iast (G' := (Cc, Bb, M3)) C0 al_15_0 rfl id_m0 (by decide) (by rw [Nat.zero_add]; exact (eM_set e4)) dX6_pass_63 ?_
        refine j_aload_n C0 dX6_pass_64 rfl 0 rfl ?_
        refine j_getr (id2 := (15, 0, 0)) C0 fl_X6_7 rl_6_0 id_c14 dX6_pass_65 ?_
        refine j_bipush (v := 6) C0 dX6_pass_68 rfl ?_
        refine j_dup2 C0 dX6_pass_70 rfl rfl ?_
        refine j_iald (x := (M3 0 6)) C0 al_15_0 rfl id_m0 (by decide) (by rw [Nat.zero_add]; rfl) dX6_pass_71 ?_
        refine j_iconst (v := 1) C0 dX6_pass_72 rfl ?_
        refine j_iadd C0 dX6_pass_73 ?_
        obtain ⟨M5, e6, hf⟩ := lt_some hf
        refine j_iast (G' := (Cc, Bb, M5)) C0 al_15_0 rfl id_m0 (by decide) (by rw [Nat.zero_add]; exact (eM_set e6)) dX6_pass_74 ?_
        refine j_iload_n C0 dX6_pass_75 rfl 1 rfl ?_
        exact j_iret C0 hr dX6_pass_76 (pr1 hf) (congrArg (fun z => (Cc, Bb, z)) (pr2 hf))
      have hf := if_f c2 hf
      refine j_aload_n C0 dX6_pass_42 rfl 0 rfl ?_
      refine j_iload_n C0 dX6_pass_43 rfl 2 rfl ?_
      obtain ⟨q7, hcq7, hf⟩ := bd_some hf
      refine j_callV (As := [.int y2]) (rest := []) (stk := []) (G2 := (Cc, Bb, q7)) C0 (c_X6_widen hi (Cc := Cc) (Bb := Bb)  hcq7) kw_X6_111 bi_X6_widen bx_X6_widen id_c14 oc_14 rfl ⟨by decide, by decide⟩ ⟨Nat.zero_le _, Nat.zero_le _⟩ rfl rfl (Nat.le_of_ble_eq_true rfl) rfl rfl dX6_pass_44 ?_
      refine j_iinc (v := (y2 + 1)) (lv' := [(2, .int (y2 + 1)), (0, .ref (ad (14, 0, 0))), (1, .int y1)]) C0 dX6_pass_47 2 rfl rfl (by decide) rfl ?_
      refine j_goto (tgt := 31) C0 dX6_pass_50 (by decide) ?_
      exact j_sub [1, 2, 0] rfl (ih q7 y1 (y2 + 1) hf)
  have L4 : ∀ (n : Nat) (M : Nat → Nat → Int32) (y1 : Int32) (y2 : Int32), fM_pass_L4 n M y1 y2 = some (r0, M') → J D ca ad p l e ({ frames := 5, cells := 0, slots := 0, locals := 114 }) s m [.ref (ad (14, 0, 0))].toArray below meth c 0 0 (MQ below (post D ca ad (some (.int r0)) (Cc, Bb, M')) [.ref (ad (14, 0, 0))].toArray s 0 0 (adA ad)) 3 (Cc, Bb, M) 4 [(0, .ref (ad (14, 0, 0))), (1, .int y1), (2, .int y2)] [] := by
    intro n
    induction n with
    | zero =>
      intro M y1 y2 hf
      exact (none_ne hf).elim
    | succ n ih =>
      intro M y1 y2 hf
      rw [fM_pass_L4] at hf
      refine j_iload_n C0 dX6_pass_4 rfl 2 rfl ?_
      refine j_aload_n C0 dX6_pass_5 rfl 0 rfl ?_
      refine j_getr (id2 := (15, 0, 0)) C0 fl_X6_7 rl_6_0 id_c14 dX6_pass_6 ?_
      refine j_bipush (v := 19) C0 dX6_pass_9 rfl ?_
      refine j_iald (x := (M 0 19)) C0 al_15_0 rfl id_m0 (by decide) (by rw [Nat.zero_add]; rfl) dX6_pass_11 ?_
      refine j_icmp_ge (tgt := 29) C0 dX6_pass_12 (by decide) (fun c1 => ?_) (fun c1 => ?_)
      · have hf := if_t c1 hf
        refine j_iconst (v := 0) C0 dX6_pass_29 rfl ?_
        refine j_istore_n (lv' := [(2, .int (0 : Int32)), (0, .ref (ad (14, 0, 0))), (1, .int y1)]) C0 dX6_pass_30 rfl (by decide) rfl ?_
        exact j_sub [1, 2, 0] rfl (L31 fuel M y1 (0 : Int32) hf)
      have hf := if_f c1 hf
      refine j_iload_n C0 dX6_pass_15 rfl 1 rfl ?_
      refine j_aload_n C0 dX6_pass_16 rfl 0 rfl ?_
      refine j_iload_n C0 dX6_pass_17 rfl 2 rfl ?_
      obtain ⟨q8, hcq8, hf⟩ := bd_some hf
      refine j_callV (As := [.int y2]) (rest := [.int y1]) (stk := [.int q8.1, .int y1]) (G2 := (Cc, Bb, q8.2)) C0 (c_X6_drip hi (Cc := Cc) (Bb := Bb)  hcq8) kw_X6_108 bi_X6_drip bx_X6_drip id_c14 oc_14 rfl ⟨by decide, by decide⟩ ⟨Nat.zero_le _, Nat.zero_le _⟩ rfl rfl (Nat.le_of_ble_eq_true rfl) rfl rfl dX6_pass_18 ?_
      refine j_iadd C0 dX6_pass_21 ?_
      refine j_istore_n (lv' := [(1, .int (y1 + q8.1)), (0, .ref (ad (14, 0, 0))), (2, .int y2)]) C0 dX6_pass_22 rfl (by decide) rfl ?_
      refine j_iinc (v := (y2 + 1)) (lv' := [(2, .int (y2 + 1)), (1, .int (y1 + q8.1)), (0, .ref (ad (14, 0, 0)))]) C0 dX6_pass_23 2 rfl rfl (by decide) rfl ?_
      refine j_goto (tgt := 4) C0 dX6_pass_26 (by decide) ?_
      exact j_sub [2, 1, 0] rfl (ih q8.2 (y1 + q8.1) (y2 + 1) hf)
  unfold fM_pass at hf
  refine j_iconst (v := 0) C0 dX6_pass_0 rfl ?_
  refine j_istore_n (lv' := [(1, .int (0 : Int32)), (0, .ref (ad (14, 0, 0)))]) C0 dX6_pass_1 rfl (by decide) rfl ?_
  refine j_iconst (v := 0) C0 dX6_pass_2 rfl ?_
  refine j_istore_n (lv' := [(2, .int (0 : Int32)), (1, .int (0 : Int32)), (0, .ref (ad (14, 0, 0)))]) C0 dX6_pass_3 rfl (by decide) rfl ?_
  exact j_sub [2, 1, 0] rfl (L4 fuel M (0 : Int32) (0 : Int32) hf)

set_option maxHeartbeats 4000000 in
set_option maxRecDepth 100000 in
theorem c_X6_tick {l : Launch} {D : va_G} {ca : Nat → ClassId} {ad : I3 → Nat} (hi : adI ad) {Cc : Nat → Nat → Int32} {Bb : Nat → Fin 9} {M : Nat → Nat → Int32} {r0 : Int32} {M' : Nat → Nat → Int32}  (hf : fM_tick M = some (r0, M')) : MT l D ca ad yX6_tick cX6_tick 2 (some .int) 6 136 [.ref (ad (14, 0, 0))] (Cc, Bb, M) (some (.int r0)) (Cc, Bb, M') := by
  refine met_J (lv := [(0, .ref (ad (14, 0, 0)))]) hi (by decide +kernel) (Nat.le_of_ble_eq_true rfl) rfl (fun p e s m below meth c C0 hr => ?_)
  unfold fM_tick at hf
  refine j_aload_n C0 dX6_tick_0 rfl 0 rfl ?_
  obtain ⟨q1, hcq1, hf⟩ := bd_some hf
  refine j_callV (As := []) (rest := []) (stk := [.int q1.1]) (G2 := (Cc, Bb, q1.2)) C0 (c_X6_pass hi (Cc := Cc) (Bb := Bb)  hcq1) kw_X6_114 bi_X6_pass bx_X6_pass id_c14 oc_14 rfl ⟨by decide, by decide⟩ ⟨Nat.zero_le _, Nat.zero_le _⟩ rfl rfl (Nat.le_of_ble_eq_true rfl) rfl rfl dX6_tick_1 ?_
  refine j_istore_n (lv' := [(1, .int q1.1), (0, .ref (ad (14, 0, 0)))]) C0 dX6_tick_4 rfl (by decide) rfl ?_
  refine j_aload_n C0 dX6_tick_5 rfl 1 rfl ?_
  obtain ⟨q2, hcq2, hf⟩ := bd_some hf
  refine j_callV (As := []) (rest := []) (stk := [.int q2]) (G2 := (Cc, Bb, q1.2)) C0 (c_X6_isNoon hi (Cc := Cc) (Bb := Bb)  hcq2) kw_X6_117 bi_X6_isNoon bx_X6_isNoon id_c14 oc_14 rfl ⟨by decide, by decide⟩ ⟨Nat.zero_le _, Nat.zero_le _⟩ rfl rfl (Nat.le_of_ble_eq_true rfl) rfl rfl dX6_tick_6 ?_
  refine j_if_eq (tgt := 16) C0 dX6_tick_9 (by decide) (fun c3 => ?_) (fun c3 => ?_)
  · have hf := if_t c3 hf
    refine j_iload_n C0 dX6_tick_16 rfl 0 rfl ?_
    exact j_iret C0 hr dX6_tick_17 (pr1 hf) (congrArg (fun z => (Cc, Bb, z)) (pr2 hf))
  have hf := if_f c3 hf
  refine j_aload_n C0 dX6_tick_12 rfl 1 rfl ?_
  obtain ⟨q4, hcq4, hf⟩ := bd_some hf
  refine j_callV (As := []) (rest := []) (stk := []) (G2 := (Cc, Bb, q4)) C0 (c_X6_noon hi (Cc := Cc) (Bb := Bb)  hcq4) kw_X6_121 bi_X6_noon bx_X6_noon id_c14 oc_14 rfl ⟨by decide, by decide⟩ ⟨Nat.zero_le _, Nat.zero_le _⟩ rfl rfl (Nat.le_of_ble_eq_true rfl) rfl rfl dX6_tick_13 ?_
  refine j_iload_n C0 dX6_tick_16 rfl 0 rfl ?_
  exact j_iret C0 hr dX6_tick_17 (pr1 hf) (congrArg (fun z => (Cc, Bb, z)) (pr2 hf))

set_option maxHeartbeats 4000000 in
set_option maxRecDepth 100000 in
theorem c_X6_clockNow {l : Launch} {D : va_G} {ca : Nat → ClassId} {ad : I3 → Nat} (hi : adI ad) {Cc : Nat → Nat → Int32} {Bb : Nat → Fin 9} {M : Nat → Nat → Int32} {x1 : Int32} {x2 : Int32} {x3 : Int32} {r0 : Int32} {M' : Nat → Nat → Int32}  (hf : fM_clockNow M x1 x2 x3 = some (r0, M')) : MT l D ca ad yX6_clockNow cX6_clockNow 6 (some .int) 3 65 [.ref (ad (14, 0, 0)), .int x1, .int x2, .int x3] (Cc, Bb, M) (some (.int r0)) (Cc, Bb, M') := by
  refine met_J (lv := [(0, .ref (ad (14, 0, 0))), (1, .int x1), (2, .int x2), (3, .int x3)]) hi (by decide +kernel) (Nat.le_of_ble_eq_true rfl) rfl (fun p e s m below meth c C0 hr => ?_)
  have L70 : ∀ (n : Nat) (M : Nat → Nat → Int32) (y1 : Int32) (y2 : Int32) (y3 : Int32) (y4 : Int32) (y5 : Int32), fM_clockNow_L70 n M y1 y2 y3 y4 y5 = some (r0, M') → J D ca ad p l e ({ frames := 3, cells := 0, slots := 0, locals := 65 }) s m [.ref (ad (14, 0, 0)), .int x1, .int x2, .int x3].toArray below meth c 0 0 (MQ below (post D ca ad (some (.int r0)) (Cc, Bb, M')) [.ref (ad (14, 0, 0)), .int x1, .int x2, .int x3].toArray s 0 0 (adA ad)) 6 (Cc, Bb, M) 70 [(0, .ref (ad (14, 0, 0))), (1, .int y1), (2, .int y2), (3, .int y3), (4, .int y4), (5, .int y5)] [] := by
    intro n
    induction n with
    | zero =>
      intro M y1 y2 y3 y4 y5 hf
      exact (none_ne hf).elim
    | succ n ih =>
      intro M y1 y2 y3 y4 y5 hf
      rw [fM_clockNow_L70] at hf
      refine j_iload C0 dX6_clockNow_70 5 rfl ?_
      refine j_bipush (v := 15) C0 dX6_clockNow_72 rfl ?_
      refine j_icmp_ge (tgt := 92) C0 dX6_clockNow_74 (by decide) (fun c10 => ?_) (fun c10 => ?_)
      · have hf := if_t c10 hf
        refine j_aload_n C0 dX6_clockNow_92 rfl 0 rfl ?_
        refine j_iload C0 dX6_clockNow_93 4 rfl ?_
        refine j_iconst (v := 0) C0 dX6_clockNow_95 rfl ?_
        refine j_iload_n C0 dX6_clockNow_96 rfl 1 rfl ?_
        obtain ⟨q11, hcq11, hf⟩ := bd_some hf
        refine j_callV (As := [.int y4, .int (0 : Int32), .int y1]) (rest := []) (stk := []) (G2 := (Cc, Bb, q11)) C0 (c_X6_put hi (Cc := Cc) (Bb := Bb)  hcq11) kw_X6_72 bi_X6_put bx_X6_put id_c14 oc_14 rfl ⟨by decide, by decide⟩ ⟨Nat.zero_le _, Nat.zero_le _⟩ rfl rfl (Nat.le_of_ble_eq_true rfl) rfl rfl dX6_clockNow_97 ?_
        refine j_aload_n C0 dX6_clockNow_100 rfl 0 rfl ?_
        refine j_iload C0 dX6_clockNow_101 4 rfl ?_
        refine j_iconst (v := 1) C0 dX6_clockNow_103 rfl ?_
        refine j_iload_n C0 dX6_clockNow_104 rfl 2 rfl ?_
        obtain ⟨q12, hcq12, hf⟩ := bd_some hf
        refine j_callV (As := [.int y4, .int (1 : Int32), .int y2]) (rest := []) (stk := []) (G2 := (Cc, Bb, q12)) C0 (c_X6_put hi (Cc := Cc) (Bb := Bb)  hcq12) kw_X6_72 bi_X6_put bx_X6_put id_c14 oc_14 rfl ⟨by decide, by decide⟩ ⟨Nat.zero_le _, Nat.zero_le _⟩ rfl rfl (Nat.le_of_ble_eq_true rfl) rfl rfl dX6_clockNow_105 ?_
        refine j_aload_n C0 dX6_clockNow_108 rfl 0 rfl ?_
        refine j_iload C0 dX6_clockNow_109 4 rfl ?_
        refine j_iconst (v := 2) C0 dX6_clockNow_111 rfl ?_
        refine j_iload_n C0 dX6_clockNow_112 rfl 3 rfl ?_
        obtain ⟨q13, hcq13, hf⟩ := bd_some hf
        refine j_callV (As := [.int y4, .int (2 : Int32), .int y3]) (rest := []) (stk := []) (G2 := (Cc, Bb, q13)) C0 (c_X6_put hi (Cc := Cc) (Bb := Bb)  hcq13) kw_X6_72 bi_X6_put bx_X6_put id_c14 oc_14 rfl ⟨by decide, by decide⟩ ⟨Nat.zero_le _, Nat.zero_le _⟩ rfl rfl (Nat.le_of_ble_eq_true rfl) rfl rfl dX6_clockNow_113 ?_
        refine j_aload_n C0 dX6_clockNow_116 rfl 0 rfl ?_
        refine j_iload C0 dX6_clockNow_117 4 rfl ?_
        refine j_iconst (v := 5) C0 dX6_clockNow_119 rfl ?_
        refine j_iload C0 dX6_clockNow_120 4 rfl ?_
        obtain ⟨q14, hcq14, hf⟩ := bd_some hf
        refine j_callV (As := [.int y4, .int (5 : Int32), .int y4]) (rest := []) (stk := []) (G2 := (Cc, Bb, q14)) C0 (c_X6_put hi (Cc := Cc) (Bb := Bb)  hcq14) kw_X6_72 bi_X6_put bx_X6_put id_c14 oc_14 rfl ⟨by decide, by decide⟩ ⟨Nat.zero_le _, Nat.zero_le _⟩ rfl rfl (Nat.le_of_ble_eq_true rfl) rfl rfl dX6_clockNow_122 ?_
        refine j_aload_n C0 dX6_clockNow_125 rfl 0 rfl ?_
        refine j_iload C0 dX6_clockNow_126 4 rfl ?_
        obtain ⟨q15, hcq15, hf⟩ := bd_some hf
        refine j_callV (As := [.int y4]) (rest := []) (stk := []) (G2 := (Cc, Bb, q15)) C0 (c_X6_lay hi (Cc := Cc) (Bb := Bb)  hcq15) kw_X6_76 bi_X6_lay bx_X6_lay id_c14 oc_14 rfl ⟨by decide, by decide⟩ ⟨Nat.zero_le _, Nat.zero_le _⟩ rfl rfl (Nat.le_of_ble_eq_true rfl) rfl rfl dX6_clockNow_128 ?_
        refine j_iload C0 dX6_clockNow_131 4 rfl ?_
        exact j_iret C0 hr dX6_clockNow_133 (pr1 hf) (congrArg (fun z => (Cc, Bb, z)) (pr2 hf))
      have hf := if_f c10 hf
      refine j_aload_n C0 dX6_clockNow_77 rfl 0 rfl ?_
      refine j_iload C0 dX6_clockNow_78 4 rfl ?_
      refine j_iload C0 dX6_clockNow_80 5 rfl ?_
      refine j_iconst (v := 0) C0 dX6_clockNow_82 rfl ?_
      obtain ⟨q16, hcq16, hf⟩ := bd_some hf
      refine j_callV (As := [.int y4, .int y5, .int (0 : Int32)]) (rest := []) (stk := []) (G2 := (Cc, Bb, q16)) C0 (c_X6_put hi (Cc := Cc) (Bb := Bb)  hcq16) kw_X6_72 bi_X6_put bx_X6_put id_c14 oc_14 rfl ⟨by decide, by decide⟩ ⟨Nat.zero_le _, Nat.zero_le _⟩ rfl rfl (Nat.le_of_ble_eq_true rfl) rfl rfl dX6_clockNow_83 ?_
      refine j_iinc (v := (y5 + 1)) (lv' := [(5, .int (y5 + 1)), (0, .ref (ad (14, 0, 0))), (1, .int y1), (2, .int y2), (3, .int y3), (4, .int y4)]) C0 dX6_clockNow_86 5 rfl rfl (by decide) rfl ?_
      refine j_goto (tgt := 70) C0 dX6_clockNow_89 (by decide) ?_
      exact j_sub [1, 2, 3, 4, 5, 0] rfl (ih q16 y1 y2 y3 y4 (y5 + 1) hf)
  unfold fM_clockNow at hf
  refine j_iload_n C0 dX6_clockNow_0 rfl 1 rfl ?_
  refine j_iconst (v := 0) C0 dX6_clockNow_1 rfl ?_
  refine j_iconst (v := 2) C0 dX6_clockNow_2 rfl ?_
  obtain ⟨q1, hcq1, hf⟩ := bd_some hf
  refine j_callS (As := [.int x1, .int (0 : Int32), .int (2 : Int32)]) (rest := []) (stk := [.int q1]) (G2 := (Cc, Bb, M)) C0 (c_X6_in hi (G0 := (Cc, Bb, M))  hcq1) kw_X6_36 bi_X6_in rfl ⟨by decide, by decide⟩ ⟨Nat.zero_le _, Nat.zero_le _⟩ rfl rfl (Nat.le_of_ble_eq_true rfl) rfl rfl dX6_clockNow_3 ?_
  refine j_if_eq (tgt := 30) C0 dX6_clockNow_6 (by decide) (fun c2 => ?_) (fun c2 => ?_)
  · have hf := if_t c2 hf
    refine j_ldc (v := -1000001) C0 dX6_clockNow_30 cw_X6_35 ?_
    exact j_iret C0 hr dX6_clockNow_32 (pr1 hf) (congrArg (fun z => (Cc, Bb, z)) (pr2 hf))
  have hf := if_f c2 hf
  refine j_iload_n C0 dX6_clockNow_9 rfl 2 rfl ?_
  refine j_iconst (v := 1) C0 dX6_clockNow_10 rfl ?_
  refine j_bipush (v := 60) C0 dX6_clockNow_11 rfl ?_
  obtain ⟨q3, hcq3, hf⟩ := bd_some hf
  refine j_callS (As := [.int x2, .int (1 : Int32), .int (60 : Int32)]) (rest := []) (stk := [.int q3]) (G2 := (Cc, Bb, M)) C0 (c_X6_in hi (G0 := (Cc, Bb, M))  hcq3) kw_X6_36 bi_X6_in rfl ⟨by decide, by decide⟩ ⟨Nat.zero_le _, Nat.zero_le _⟩ rfl rfl (Nat.le_of_ble_eq_true rfl) rfl rfl dX6_clockNow_13 ?_
  refine j_if_eq (tgt := 30) C0 dX6_clockNow_16 (by decide) (fun c4 => ?_) (fun c4 => ?_)
  · have hf := if_t c4 hf
    refine j_ldc (v := -1000001) C0 dX6_clockNow_30 cw_X6_35 ?_
    exact j_iret C0 hr dX6_clockNow_32 (pr1 hf) (congrArg (fun z => (Cc, Bb, z)) (pr2 hf))
  have hf := if_f c4 hf
  refine j_iload_n C0 dX6_clockNow_19 rfl 3 rfl ?_
  refine j_iconst (v := 1) C0 dX6_clockNow_20 rfl ?_
  refine j_sipush (v := 500) C0 dX6_clockNow_21 rfl ?_
  obtain ⟨q5, hcq5, hf⟩ := bd_some hf
  refine j_callS (As := [.int x3, .int (1 : Int32), .int (500 : Int32)]) (rest := []) (stk := [.int q5]) (G2 := (Cc, Bb, M)) C0 (c_X6_in hi (G0 := (Cc, Bb, M))  hcq5) kw_X6_36 bi_X6_in rfl ⟨by decide, by decide⟩ ⟨Nat.zero_le _, Nat.zero_le _⟩ rfl rfl (Nat.le_of_ble_eq_true rfl) rfl rfl dX6_clockNow_24 ?_
  refine j_if_ne (tgt := 33) C0 dX6_clockNow_27 (by decide) (fun c6 => ?_) (fun c6 => ?_)
  · have hf := if_f c6 hf
    refine j_aload_n C0 dX6_clockNow_33 rfl 0 rfl ?_
    refine j_getr (id2 := (15, 0, 0)) C0 fl_X6_7 rl_6_0 id_c14 dX6_clockNow_34 ?_
    refine j_bipush (v := 19) C0 dX6_clockNow_37 rfl ?_
    refine j_iald (x := (M 0 19)) C0 al_15_0 rfl id_m0 (by decide) (by rw [Nat.zero_add]; rfl) dX6_clockNow_39 ?_
    refine j_iconst (v := 5) C0 dX6_clockNow_40 rfl ?_
    refine j_icmp_ne (tgt := 47) C0 dX6_clockNow_41 (by decide) (fun c7 => ?_) (fun c7 => ?_)
    · have hf := if_f c7 hf
      refine j_aload_n C0 dX6_clockNow_47 rfl 0 rfl ?_
      refine j_getr (id2 := (15, 0, 0)) C0 fl_X6_7 rl_6_0 id_c14 dX6_clockNow_48 ?_
      refine j_bipush (v := 19) C0 dX6_clockNow_51 rfl ?_
      refine j_iald (x := (M 0 19)) C0 al_15_0 rfl id_m0 (by decide) (by rw [Nat.zero_add]; rfl) dX6_clockNow_53 ?_
      refine j_istore (lv' := [(4, .int (M 0 19)), (0, .ref (ad (14, 0, 0))), (1, .int x1), (2, .int x2), (3, .int x3)]) C0 dX6_clockNow_54 (by decide) rfl ?_
      refine j_aload_n C0 dX6_clockNow_56 rfl 1 rfl ?_
      refine j_getr (id2 := (15, 0, 0)) C0 fl_X6_7 rl_6_0 id_c14 dX6_clockNow_57 ?_
      refine j_bipush (v := 19) C0 dX6_clockNow_60 rfl ?_
      refine j_dup2 C0 dX6_clockNow_62 rfl rfl ?_
      refine j_iald (x := (M 0 19)) C0 al_15_0 rfl id_m0 (by decide) (by rw [Nat.zero_add]; rfl) dX6_clockNow_63 ?_
      refine j_iconst (v := 1) C0 dX6_clockNow_64 rfl ?_
      refine j_iadd C0 dX6_clockNow_65 ?_
      obtain ⟨M8, e9, hf⟩ := lt_some hf
      refine j_iast (G' := (Cc, Bb, M8)) C0 al_15_0 rfl id_m0 (by decide) (by rw [Nat.zero_add]; exact (eM_set e9)) dX6_clockNow_66 ?_
      refine j_iconst (v := 0) C0 dX6_clockNow_67 rfl ?_
      refine j_istore (lv' := [(5, .int (0 : Int32)), (4, .int (M 0 19)), (0, .ref (ad (14, 0, 0))), (1, .int x1), (2, .int x2), (3, .int x3)]) C0 dX6_clockNow_68 (by decide) rfl ?_
      exact j_sub [2, 3, 4, 5, 1, 0] rfl (L70 fuel M8 x1 x2 x3 (M 0 19) (0 : Int32) hf)
    have hf := if_t c7 hf
    refine j_ldc (v := -1000003) C0 dX6_clockNow_44 cw_X6_124 ?_
    exact j_iret C0 hr dX6_clockNow_46 (pr1 hf) (congrArg (fun z => (Cc, Bb, z)) (pr2 hf))
  have hf := if_t c6 hf
  refine j_ldc (v := -1000001) C0 dX6_clockNow_30 cw_X6_35 ?_
  exact j_iret C0 hr dX6_clockNow_32 (pr1 hf) (congrArg (fun z => (Cc, Bb, z)) (pr2 hf))

