set_option maxHeartbeats 4000000 in
set_option maxRecDepth 100000 in
theorem c_X6_noon_ {l : Launch} {D : va_G} {ca : Nat → ClassId} {ad : I3 → Nat} (hi : adI ad) {Cc : Nat → Nat → Int32} {Bb : Nat → Fin 9} {M : Nat → Nat → Int32} {x1 : Int32} {x2 : Int32} {r0 : Int32}  (hf : fM_noon_ M x1 x2 = some (r0)) : MT l D ca ad yX6_noon_ cX6_noon_ 3 (some .int) 0 0 [.ref (ad (14, 0, 0)), .int x1, .int x2] (Cc, Bb, M) (some (.int r0)) (Cc, Bb, M) := by
  refine met_J (lv := [(0, .ref (ad (14, 0, 0))), (1, .int x1), (2, .int x2)]) hi (by decide +kernel) (Nat.le_of_ble_eq_true rfl) rfl (fun p e s m below meth c C0 hr => ?_)
  unfold fM_noon_ at hf
  refine j_iload_n C0 dX6_noon__0 rfl 1 rfl ?_
  refine j_if_lt (tgt := 8) C0 dX6_noon__1 (by decide) (fun c1 => ?_) (fun c1 => ?_)
  · have hf := if_t c1 hf
    refine j_ldc (v := -1000001) C0 dX6_noon__8 cw_X6_35 ?_
    exact j_iret C0 hr dX6_noon__10 (so hf) rfl
  have hf := if_f c1 hf
  refine j_iload_n C0 dX6_noon__4 rfl 2 rfl ?_
  refine j_if_ge (tgt := 11) C0 dX6_noon__5 (by decide) (fun c2 => ?_) (fun c2 => ?_)
  · have hf := if_t c2 hf
    refine j_iload_n C0 dX6_noon__11 rfl 1 rfl ?_
    refine j_aload_n C0 dX6_noon__12 rfl 0 rfl ?_
    refine j_getr (id2 := (15, 0, 0)) C0 fl_X6_7 rl_6_0 id_c14 dX6_noon__13 ?_
    refine j_bipush (v := 95) C0 dX6_noon__16 rfl ?_
    refine j_iald (x := (M 0 95)) C0 al_15_0 rfl id_m0 (by decide) (by rw [Nat.zero_add]; rfl) dX6_noon__18 ?_
    refine j_icmp_ge (tgt := 61) C0 dX6_noon__19 (by decide) (fun c3 => ?_) (fun c3 => ?_)
    · have hf := if_t c3 hf
      refine j_ldc (v := -1000004) C0 dX6_noon__61 cw_X6_174 ?_
      exact j_iret C0 hr dX6_noon__63 (so hf) rfl
    have hf := if_f c3 hf
    refine j_iload_n C0 dX6_noon__22 rfl 2 rfl ?_
    refine j_aload_n C0 dX6_noon__23 rfl 0 rfl ?_
    refine j_getr (id2 := (15, 0, 0)) C0 fl_X6_7 rl_6_0 id_c14 dX6_noon__24 ?_
    refine j_bipush (v := 96) C0 dX6_noon__27 rfl ?_
    refine j_bipush (v := 6) C0 dX6_noon__29 rfl ?_
    refine j_iload_n C0 dX6_noon__31 rfl 1 rfl ?_
    refine j_imul C0 dX6_noon__32 ?_
    refine j_iadd C0 dX6_noon__33 ?_
    obtain ⟨h4, hf⟩ := gd_some hf
    refine j_iald (x := (M 0 (((96 : Int32) + ((6 : Int32) * x1)).toNatClampNeg))) C0 al_15_0 rfl id_m0 h4 (by rw [Nat.zero_add]; rfl) dX6_noon__34 ?_
    refine j_icmp_ge (tgt := 61) C0 dX6_noon__35 (by decide) (fun c5 => ?_) (fun c5 => ?_)
    · have hf := if_t c5 hf
      refine j_ldc (v := -1000004) C0 dX6_noon__61 cw_X6_174 ?_
      exact j_iret C0 hr dX6_noon__63 (so hf) rfl
    have hf := if_f c5 hf
    refine j_aload_n C0 dX6_noon__38 rfl 0 rfl ?_
    refine j_getr (id2 := (15, 0, 0)) C0 fl_X6_7 rl_6_0 id_c14 dX6_noon__39 ?_
    refine j_bipush (v := 96) C0 dX6_noon__42 rfl ?_
    refine j_bipush (v := 6) C0 dX6_noon__44 rfl ?_
    refine j_iload_n C0 dX6_noon__46 rfl 1 rfl ?_
    refine j_imul C0 dX6_noon__47 ?_
    refine j_iadd C0 dX6_noon__48 ?_
    refine j_iconst (v := 1) C0 dX6_noon__49 rfl ?_
    refine j_iadd C0 dX6_noon__50 ?_
    refine j_iload_n C0 dX6_noon__51 rfl 2 rfl ?_
    refine j_iadd C0 dX6_noon__52 ?_
    obtain ⟨h6, hf⟩ := gd_some hf
    refine j_iald (x := (M 0 (((((96 : Int32) + ((6 : Int32) * x1)) + (1 : Int32)) + x2).toNatClampNeg))) C0 al_15_0 rfl id_m0 h6 (by rw [Nat.zero_add]; rfl) dX6_noon__53 ?_
    refine j_sipush (v := 10000) C0 dX6_noon__54 rfl ?_
    refine j_iadd C0 dX6_noon__57 ?_
    refine j_goto (tgt := 63) C0 dX6_noon__58 (by decide) ?_
    exact j_iret C0 hr dX6_noon__63 (so hf) rfl
  have hf := if_f c2 hf
  refine j_ldc (v := -1000001) C0 dX6_noon__8 cw_X6_35 ?_
  exact j_iret C0 hr dX6_noon__10 (so hf) rfl

set_option maxHeartbeats 4000000 in
set_option maxRecDepth 100000 in
theorem c_X6_why {l : Launch} {D : va_G} {ca : Nat → ClassId} {ad : I3 → Nat} (hi : adI ad) {Cc : Nat → Nat → Int32} {Bb : Nat → Fin 9} {M : Nat → Nat → Int32} {x1 : Int32} {x2 : Int32} {r0 : Int32}  (hf : fM_why M x1 x2 = some (r0)) : MT l D ca ad yX6_why cX6_why 3 (some .int) 2 44 [.ref (ad (14, 0, 0)), .int x1, .int x2] (Cc, Bb, M) (some (.int r0)) (Cc, Bb, M) := by
  refine met_J (lv := [(0, .ref (ad (14, 0, 0))), (1, .int x1), (2, .int x2)]) hi (by decide +kernel) (Nat.le_of_ble_eq_true rfl) rfl (fun p e s m below meth c C0 hr => ?_)
  unfold fM_why at hf
  refine j_aload_n C0 dX6_why_0 rfl 0 rfl ?_
  refine j_iload_n C0 dX6_why_1 rfl 1 rfl ?_
  obtain ⟨q1, hcq1, hf⟩ := bd_some hf
  refine j_callV (As := [.int x1]) (rest := []) (stk := [.int q1]) (G2 := (Cc, Bb, M)) C0 (c_X6_isClock hi (Cc := Cc) (Bb := Bb)  hcq1) kw_X6_125 bi_X6_isClock bx_X6_isClock id_c14 oc_14 rfl ⟨by decide, by decide⟩ ⟨Nat.zero_le _, Nat.zero_le _⟩ rfl rfl (Nat.le_of_ble_eq_true rfl) rfl rfl dX6_why_2 ?_
  refine j_if_eq (tgt := 26) C0 dX6_why_5 (by decide) (fun c2 => ?_) (fun c2 => ?_)
  · have hf := if_t c2 hf
    refine j_ldc (v := -1000001) C0 dX6_why_26 cw_X6_35 ?_
    exact j_iret C0 hr dX6_why_28 (so hf) rfl
  have hf := if_f c2 hf
  refine j_iload_n C0 dX6_why_8 rfl 2 rfl ?_
  refine j_iconst (v := 0) C0 dX6_why_9 rfl ?_
  refine j_iconst (v := 2) C0 dX6_why_10 rfl ?_
  obtain ⟨q3, hcq3, hf⟩ := bd_some hf
  refine j_callS (As := [.int x2, .int (0 : Int32), .int (2 : Int32)]) (rest := []) (stk := [.int q3]) (G2 := (Cc, Bb, M)) C0 (c_X6_in hi (G0 := (Cc, Bb, M))  hcq3) kw_X6_36 bi_X6_in rfl ⟨by decide, by decide⟩ ⟨Nat.zero_le _, Nat.zero_le _⟩ rfl rfl (Nat.le_of_ble_eq_true rfl) rfl rfl dX6_why_11 ?_
  refine j_if_eq (tgt := 26) C0 dX6_why_14 (by decide) (fun c4 => ?_) (fun c4 => ?_)
  · have hf := if_t c4 hf
    refine j_ldc (v := -1000001) C0 dX6_why_26 cw_X6_35 ?_
    exact j_iret C0 hr dX6_why_28 (so hf) rfl
  have hf := if_f c4 hf
  refine j_aload_n C0 dX6_why_17 rfl 0 rfl ?_
  refine j_iload_n C0 dX6_why_18 rfl 1 rfl ?_
  refine j_iload_n C0 dX6_why_19 rfl 2 rfl ?_
  obtain ⟨q5, hcq5, hf⟩ := bd_some hf
  refine j_callV (As := [.int x1, .int x2]) (rest := []) (stk := [.int q5]) (G2 := (Cc, Bb, M)) C0 (c_X6_reason hi (Cc := Cc) (Bb := Bb)  hcq5) kw_X6_132 bi_X6_reason bx_X6_reason id_c14 oc_14 rfl ⟨by decide, by decide⟩ ⟨Nat.zero_le _, Nat.zero_le _⟩ rfl rfl (Nat.le_of_ble_eq_true rfl) rfl rfl dX6_why_20 ?_
  refine j_goto (tgt := 28) C0 dX6_why_23 (by decide) ?_
  exact j_iret C0 hr dX6_why_28 (so hf) rfl

set_option maxHeartbeats 4000000 in
set_option maxRecDepth 100000 in
theorem c_X6_emptyIn {l : Launch} {D : va_G} {ca : Nat → ClassId} {ad : I3 → Nat} (hi : adI ad) {Cc : Nat → Nat → Int32} {Bb : Nat → Fin 9} {M : Nat → Nat → Int32} {x1 : Int32} {r0 : Int32} {M' : Nat → Nat → Int32}  (hf : fM_emptyIn M x1 = some (r0, M')) : MT l D ca ad yX6_emptyIn cX6_emptyIn 4 (some .int) 7 157 [.ref (ad (14, 0, 0)), .int x1] (Cc, Bb, M) (some (.int r0)) (Cc, Bb, M') := by
  refine met_J (lv := [(0, .ref (ad (14, 0, 0))), (1, .int x1)]) hi (by decide +kernel) (Nat.le_of_ble_eq_true rfl) rfl (fun p e s m below meth c C0 hr => ?_)
  have L17 : ∀ (n : Nat) (M : Nat → Nat → Int32) (y1 : Int32) (y2 : Int32), fM_emptyIn_L17 n M y1 y2 = some (r0, M') → J D ca ad p l e ({ frames := 7, cells := 0, slots := 0, locals := 157 }) s m [.ref (ad (14, 0, 0)), .int x1].toArray below meth c 0 0 (MQ below (post D ca ad (some (.int r0)) (Cc, Bb, M')) [.ref (ad (14, 0, 0)), .int x1].toArray s 0 0 (adA ad)) 4 (Cc, Bb, M) 17 [(0, .ref (ad (14, 0, 0))), (1, .int y1), (2, .int y2)] [] := by
    intro n
    induction n with
    | zero =>
      intro M y1 y2 hf
      exact (none_ne hf).elim
    | succ n ih =>
      intro M y1 y2 hf
      rw [fM_emptyIn_L17] at hf
      refine j_iload_n C0 dX6_emptyIn_17 rfl 2 rfl ?_
      refine j_sipush (v := 1000) C0 dX6_emptyIn_18 rfl ?_
      refine j_icmp_ge (tgt := 44) C0 dX6_emptyIn_21 (by decide) (fun c4 => ?_) (fun c4 => ?_)
      · have hf := if_t c4 hf
        refine j_aload_n C0 dX6_emptyIn_44 rfl 0 rfl ?_
        refine j_iload_n C0 dX6_emptyIn_45 rfl 1 rfl ?_
        refine j_iconst (v := 3) C0 dX6_emptyIn_46 rfl ?_
        obtain ⟨q5, hcq5, hf⟩ := bd_some hf
        refine j_callV (As := [.int y1, .int (3 : Int32)]) (rest := []) (stk := [.int q5]) (G2 := (Cc, Bb, M)) C0 (c_X6_of hi (Cc := Cc) (Bb := Bb)  hcq5) kw_X6_48 bi_X6_of bx_X6_of id_c14 oc_14 rfl ⟨by decide, by decide⟩ ⟨Nat.zero_le _, Nat.zero_le _⟩ rfl rfl (Nat.le_of_ble_eq_true rfl) rfl rfl dX6_emptyIn_47 ?_
        refine j_if_ne (tgt := 57) C0 dX6_emptyIn_50 (by decide) (fun c6 => ?_) (fun c6 => ?_)
        · have hf := if_f c6 hf
          refine j_ldc (v := -1000004) C0 dX6_emptyIn_57 cw_X6_174 ?_
          refine j_istore_n (lv' := [(3, .int (-1000004 : Int32)), (0, .ref (ad (14, 0, 0))), (1, .int y1), (2, .int y2)]) C0 dX6_emptyIn_59 rfl (by decide) rfl ?_
          refine j_aload_n C0 dX6_emptyIn_60 rfl 1 rfl ?_
          obtain ⟨q7, hcq7, hf⟩ := bd_some hf
          refine j_callV (As := []) (rest := []) (stk := []) (G2 := (Cc, Bb, q7)) C0 (c_X6_putBack hi (Cc := Cc) (Bb := Bb)  hcq7) kw_X6_184 bi_X6_putBack bx_X6_putBack id_c14 oc_14 rfl ⟨by decide, by decide⟩ ⟨Nat.zero_le _, Nat.zero_le _⟩ rfl rfl (Nat.le_of_ble_eq_true rfl) rfl rfl dX6_emptyIn_61 ?_
          refine j_iload_n C0 dX6_emptyIn_64 rfl 0 rfl ?_
          exact j_iret C0 hr dX6_emptyIn_65 (pr1 hf) (congrArg (fun z => (Cc, Bb, z)) (pr2 hf))
        have hf := if_t c6 hf
        refine j_iload_n C0 dX6_emptyIn_53 rfl 2 rfl ?_
        refine j_goto (tgt := 59) C0 dX6_emptyIn_54 (by decide) ?_
        refine j_istore_n (lv' := [(3, .int y2), (0, .ref (ad (14, 0, 0))), (1, .int y1), (2, .int y2)]) C0 dX6_emptyIn_59 rfl (by decide) rfl ?_
        refine j_aload_n C0 dX6_emptyIn_60 rfl 1 rfl ?_
        obtain ⟨q8, hcq8, hf⟩ := bd_some hf
        refine j_callV (As := []) (rest := []) (stk := []) (G2 := (Cc, Bb, q8)) C0 (c_X6_putBack hi (Cc := Cc) (Bb := Bb)  hcq8) kw_X6_184 bi_X6_putBack bx_X6_putBack id_c14 oc_14 rfl ⟨by decide, by decide⟩ ⟨Nat.zero_le _, Nat.zero_le _⟩ rfl rfl (Nat.le_of_ble_eq_true rfl) rfl rfl dX6_emptyIn_61 ?_
        refine j_iload_n C0 dX6_emptyIn_64 rfl 0 rfl ?_
        exact j_iret C0 hr dX6_emptyIn_65 (pr1 hf) (congrArg (fun z => (Cc, Bb, z)) (pr2 hf))
      have hf := if_f c4 hf
      refine j_aload_n C0 dX6_emptyIn_24 rfl 0 rfl ?_
      refine j_iload_n C0 dX6_emptyIn_25 rfl 1 rfl ?_
      refine j_iconst (v := 3) C0 dX6_emptyIn_26 rfl ?_
      obtain ⟨q9, hcq9, hf⟩ := bd_some hf
      refine j_callV (As := [.int y1, .int (3 : Int32)]) (rest := []) (stk := [.int q9]) (G2 := (Cc, Bb, M)) C0 (c_X6_of hi (Cc := Cc) (Bb := Bb)  hcq9) kw_X6_48 bi_X6_of bx_X6_of id_c14 oc_14 rfl ⟨by decide, by decide⟩ ⟨Nat.zero_le _, Nat.zero_le _⟩ rfl rfl (Nat.le_of_ble_eq_true rfl) rfl rfl dX6_emptyIn_27 ?_
      refine j_if_le (tgt := 44) C0 dX6_emptyIn_30 (by decide) (fun c10 => ?_) (fun c10 => ?_)
      · have hf := if_t c10 hf
        refine j_aload_n C0 dX6_emptyIn_44 rfl 0 rfl ?_
        refine j_iload_n C0 dX6_emptyIn_45 rfl 1 rfl ?_
        refine j_iconst (v := 3) C0 dX6_emptyIn_46 rfl ?_
        obtain ⟨q11, hcq11, hf⟩ := bd_some hf
        refine j_callV (As := [.int y1, .int (3 : Int32)]) (rest := []) (stk := [.int q11]) (G2 := (Cc, Bb, M)) C0 (c_X6_of hi (Cc := Cc) (Bb := Bb)  hcq11) kw_X6_48 bi_X6_of bx_X6_of id_c14 oc_14 rfl ⟨by decide, by decide⟩ ⟨Nat.zero_le _, Nat.zero_le _⟩ rfl rfl (Nat.le_of_ble_eq_true rfl) rfl rfl dX6_emptyIn_47 ?_
        refine j_if_ne (tgt := 57) C0 dX6_emptyIn_50 (by decide) (fun c12 => ?_) (fun c12 => ?_)
        · have hf := if_f c12 hf
          refine j_ldc (v := -1000004) C0 dX6_emptyIn_57 cw_X6_174 ?_
          refine j_istore_n (lv' := [(3, .int (-1000004 : Int32)), (0, .ref (ad (14, 0, 0))), (1, .int y1), (2, .int y2)]) C0 dX6_emptyIn_59 rfl (by decide) rfl ?_
          refine j_aload_n C0 dX6_emptyIn_60 rfl 1 rfl ?_
          obtain ⟨q13, hcq13, hf⟩ := bd_some hf
          refine j_callV (As := []) (rest := []) (stk := []) (G2 := (Cc, Bb, q13)) C0 (c_X6_putBack hi (Cc := Cc) (Bb := Bb)  hcq13) kw_X6_184 bi_X6_putBack bx_X6_putBack id_c14 oc_14 rfl ⟨by decide, by decide⟩ ⟨Nat.zero_le _, Nat.zero_le _⟩ rfl rfl (Nat.le_of_ble_eq_true rfl) rfl rfl dX6_emptyIn_61 ?_
          refine j_iload_n C0 dX6_emptyIn_64 rfl 0 rfl ?_
          exact j_iret C0 hr dX6_emptyIn_65 (pr1 hf) (congrArg (fun z => (Cc, Bb, z)) (pr2 hf))
        have hf := if_t c12 hf
        refine j_iload_n C0 dX6_emptyIn_53 rfl 2 rfl ?_
        refine j_goto (tgt := 59) C0 dX6_emptyIn_54 (by decide) ?_
        refine j_istore_n (lv' := [(3, .int y2), (0, .ref (ad (14, 0, 0))), (1, .int y1), (2, .int y2)]) C0 dX6_emptyIn_59 rfl (by decide) rfl ?_
        refine j_aload_n C0 dX6_emptyIn_60 rfl 1 rfl ?_
        obtain ⟨q14, hcq14, hf⟩ := bd_some hf
        refine j_callV (As := []) (rest := []) (stk := []) (G2 := (Cc, Bb, q14)) C0 (c_X6_putBack hi (Cc := Cc) (Bb := Bb)  hcq14) kw_X6_184 bi_X6_putBack bx_X6_putBack id_c14 oc_14 rfl ⟨by decide, by decide⟩ ⟨Nat.zero_le _, Nat.zero_le _⟩ rfl rfl (Nat.le_of_ble_eq_true rfl) rfl rfl dX6_emptyIn_61 ?_
        refine j_iload_n C0 dX6_emptyIn_64 rfl 0 rfl ?_
        exact j_iret C0 hr dX6_emptyIn_65 (pr1 hf) (congrArg (fun z => (Cc, Bb, z)) (pr2 hf))
      have hf := if_f c10 hf
      refine j_aload_n C0 dX6_emptyIn_33 rfl 0 rfl ?_
      obtain ⟨q15, hcq15, hf⟩ := bd_some hf
      refine j_callV (As := []) (rest := []) (stk := [.int q15.1]) (G2 := (Cc, Bb, q15.2)) C0 (c_X6_tick hi (Cc := Cc) (Bb := Bb)  hcq15) kw_X6_136 bi_X6_tick bx_X6_tick id_c14 oc_14 rfl ⟨by decide, by decide⟩ ⟨Nat.zero_le _, Nat.zero_le _⟩ rfl rfl (Nat.le_of_ble_eq_true rfl) rfl rfl dX6_emptyIn_34 ?_
      refine j_istore_n (lv' := [(3, .int q15.1), (0, .ref (ad (14, 0, 0))), (1, .int y1), (2, .int y2)]) C0 dX6_emptyIn_37 rfl (by decide) rfl ?_
      refine j_iinc (v := (y2 + 1)) (lv' := [(2, .int (y2 + 1)), (3, .int q15.1), (0, .ref (ad (14, 0, 0))), (1, .int y1)]) C0 dX6_emptyIn_38 3 rfl rfl (by decide) rfl ?_
      refine j_goto (tgt := 17) C0 dX6_emptyIn_41 (by decide) ?_
      exact j_sub [2, 3, 0] rfl (ih q15.2 y1 (y2 + 1) hf)
  unfold fM_emptyIn at hf
  refine j_aload_n C0 dX6_emptyIn_0 rfl 0 rfl ?_
  refine j_iload_n C0 dX6_emptyIn_1 rfl 1 rfl ?_
  obtain ⟨q1, hcq1, hf⟩ := bd_some hf
  refine j_callV (As := [.int x1]) (rest := []) (stk := [.int q1]) (G2 := (Cc, Bb, M)) C0 (c_X6_isClock hi (Cc := Cc) (Bb := Bb)  hcq1) kw_X6_125 bi_X6_isClock bx_X6_isClock id_c14 oc_14 rfl ⟨by decide, by decide⟩ ⟨Nat.zero_le _, Nat.zero_le _⟩ rfl rfl (Nat.le_of_ble_eq_true rfl) rfl rfl dX6_emptyIn_2 ?_
  refine j_if_ne (tgt := 11) C0 dX6_emptyIn_5 (by decide) (fun c2 => ?_) (fun c2 => ?_)
  · have hf := if_f c2 hf
    refine j_aload_n C0 dX6_emptyIn_11 rfl 0 rfl ?_
    obtain ⟨q3, hcq3, hf⟩ := bd_some hf
    refine j_callV (As := []) (rest := []) (stk := []) (G2 := (Cc, Bb, q3)) C0 (c_X6_putAside hi (Cc := Cc) (Bb := Bb)  hcq3) kw_X6_181 bi_X6_putAside bx_X6_putAside id_c14 oc_14 rfl ⟨by decide, by decide⟩ ⟨Nat.zero_le _, Nat.zero_le _⟩ rfl rfl (Nat.le_of_ble_eq_true rfl) rfl rfl dX6_emptyIn_12 ?_
    refine j_iconst (v := 0) C0 dX6_emptyIn_15 rfl ?_
    refine j_istore_n (lv' := [(2, .int (0 : Int32)), (0, .ref (ad (14, 0, 0))), (1, .int x1)]) C0 dX6_emptyIn_16 rfl (by decide) rfl ?_
    exact j_sub [1, 2, 0] rfl (L17 fuel q3 x1 (0 : Int32) hf)
  have hf := if_t c2 hf
  refine j_ldc (v := -1000001) C0 dX6_emptyIn_8 cw_X6_35 ?_
  exact j_iret C0 hr dX6_emptyIn_10 (pr1 hf) (congrArg (fun z => (Cc, Bb, z)) (pr2 hf))

set_option maxHeartbeats 4000000 in
set_option maxRecDepth 100000 in
theorem c_X6_errorAtNoon {l : Launch} {D : va_G} {ca : Nat → ClassId} {ad : I3 → Nat} (hi : adI ad) {Cc : Nat → Nat → Int32} {Bb : Nat → Fin 9} {M : Nat → Nat → Int32} {x1 : Int32} {x2 : Int32} {r0 : Int32} {M' : Nat → Nat → Int32}  (hf : fM_errorAtNoon M x1 x2 = some (r0, M')) : MT l D ca ad yX6_errorAtNoon cX6_errorAtNoon 5 (some .int) 6 136 [.ref (ad (14, 0, 0)), .int x1, .int x2] (Cc, Bb, M) (some (.int r0)) (Cc, Bb, M') := by
  refine met_J (lv := [(0, .ref (ad (14, 0, 0))), (1, .int x1), (2, .int x2)]) hi (by decide +kernel) (Nat.le_of_ble_eq_true rfl) rfl (fun p e s m below meth c C0 hr => ?_)
  have L17 : ∀ (n : Nat) (M : Nat → Nat → Int32) (y1 : Int32), fM_errorAtNoon_L17 n M y1 = some (r0, M') → J D ca ad p l e ({ frames := 6, cells := 0, slots := 0, locals := 136 }) s m [.ref (ad (14, 0, 0)), .int x1, .int x2].toArray below meth c 0 0 (MQ below (post D ca ad (some (.int r0)) (Cc, Bb, M')) [.ref (ad (14, 0, 0)), .int x1, .int x2].toArray s 0 0 (adA ad)) 5 (Cc, Bb, M) 17 [(0, .ref (ad (14, 0, 0))), (1, .int y1)] [] := by
    intro n
    induction n with
    | zero =>
      intro M y1 hf
      exact (none_ne hf).elim
    | succ n ih =>
      intro M y1 hf
      rw [fM_errorAtNoon_L17] at hf
      refine j_aload_n C0 dX6_errorAtNoon_17 rfl 0 rfl ?_
      obtain ⟨q4, hcq4, hf⟩ := bd_some hf
      refine j_callV (As := []) (rest := []) (stk := [.int q4]) (G2 := (Cc, Bb, M)) C0 (c_X6_isNoon hi (Cc := Cc) (Bb := Bb)  hcq4) kw_X6_117 bi_X6_isNoon bx_X6_isNoon id_c14 oc_14 rfl ⟨by decide, by decide⟩ ⟨Nat.zero_le _, Nat.zero_le _⟩ rfl rfl (Nat.le_of_ble_eq_true rfl) rfl rfl dX6_errorAtNoon_18 ?_
      refine j_if_ne (tgt := 32) C0 dX6_errorAtNoon_21 (by decide) (fun c5 => ?_) (fun c5 => ?_)
      · have hf := if_f c5 hf
        refine j_aload_n C0 dX6_errorAtNoon_32 rfl 0 rfl ?_
        refine j_iload_n C0 dX6_errorAtNoon_33 rfl 1 rfl ?_
        obtain ⟨q6, hcq6, hf⟩ := bd_some hf
        refine j_callV (As := [.int y1]) (rest := []) (stk := [.int q6]) (G2 := (Cc, Bb, M)) C0 (c_X6_error hi (Cc := Cc) (Bb := Bb)  hcq6) kw_X6_66 bi_X6_error bx_X6_error id_c14 oc_14 rfl ⟨by decide, by decide⟩ ⟨Nat.zero_le _, Nat.zero_le _⟩ rfl rfl (Nat.le_of_ble_eq_true rfl) rfl rfl dX6_errorAtNoon_34 ?_
        refine j_istore (lv' := [(4, .int q6), (0, .ref (ad (14, 0, 0))), (1, .int y1)]) C0 dX6_errorAtNoon_37 (by decide) rfl ?_
        refine j_aload_n C0 dX6_errorAtNoon_39 rfl 1 rfl ?_
        obtain ⟨q7, hcq7, hf⟩ := bd_some hf
        refine j_callV (As := []) (rest := []) (stk := []) (G2 := (Cc, Bb, q7)) C0 (c_X6_putBack hi (Cc := Cc) (Bb := Bb)  hcq7) kw_X6_184 bi_X6_putBack bx_X6_putBack id_c14 oc_14 rfl ⟨by decide, by decide⟩ ⟨Nat.zero_le _, Nat.zero_le _⟩ rfl rfl (Nat.le_of_ble_eq_true rfl) rfl rfl dX6_errorAtNoon_40 ?_
        refine j_iload C0 dX6_errorAtNoon_43 0 rfl ?_
        exact j_iret C0 hr dX6_errorAtNoon_45 (pr1 hf) (congrArg (fun z => (Cc, Bb, z)) (pr2 hf))
      have hf := if_t c5 hf
      refine j_aload_n C0 dX6_errorAtNoon_24 rfl 0 rfl ?_
      obtain ⟨q8, hcq8, hf⟩ := bd_some hf
      refine j_callV (As := []) (rest := []) (stk := [.int q8.1]) (G2 := (Cc, Bb, q8.2)) C0 (c_X6_pass hi (Cc := Cc) (Bb := Bb)  hcq8) kw_X6_114 bi_X6_pass bx_X6_pass id_c14 oc_14 rfl ⟨by decide, by decide⟩ ⟨Nat.zero_le _, Nat.zero_le _⟩ rfl rfl (Nat.le_of_ble_eq_true rfl) rfl rfl dX6_errorAtNoon_25 ?_
      refine j_istore_n (lv' := [(3, .int q8.1), (0, .ref (ad (14, 0, 0))), (1, .int y1)]) C0 dX6_errorAtNoon_28 rfl (by decide) rfl ?_
      refine j_goto (tgt := 17) C0 dX6_errorAtNoon_29 (by decide) ?_
      exact j_sub [1, 2] rfl (ih q8.2 y1 hf)
  unfold fM_errorAtNoon at hf
  refine j_aload_n C0 dX6_errorAtNoon_0 rfl 0 rfl ?_
  obtain ⟨q1, hcq1, hf⟩ := bd_some hf
  refine j_callV (As := []) (rest := []) (stk := []) (G2 := (Cc, Bb, q1)) C0 (c_X6_putAside hi (Cc := Cc) (Bb := Bb)  hcq1) kw_X6_181 bi_X6_putAside bx_X6_putAside id_c14 oc_14 rfl ⟨by decide, by decide⟩ ⟨Nat.zero_le _, Nat.zero_le _⟩ rfl rfl (Nat.le_of_ble_eq_true rfl) rfl rfl dX6_errorAtNoon_1 ?_
  refine j_aload_n C0 dX6_errorAtNoon_4 rfl 0 rfl ?_
  refine j_iload_n C0 dX6_errorAtNoon_5 rfl 1 rfl ?_
  refine j_iconst (v := 1) C0 dX6_errorAtNoon_6 rfl ?_
  refine j_iload_n C0 dX6_errorAtNoon_7 rfl 2 rfl ?_
  refine j_ineg C0 dX6_errorAtNoon_8 ?_
  obtain ⟨q2, hcq2, hf⟩ := bd_some hf
  refine j_callV (As := [.int x1, .int (1 : Int32), .int (-x2)]) (rest := []) (stk := []) (G2 := (Cc, Bb, q2)) C0 (c_X6_add hi (Cc := Cc) (Bb := Bb)  hcq2) kw_X6_80 bi_X6_add bx_X6_add id_c14 oc_14 rfl ⟨by decide, by decide⟩ ⟨Nat.zero_le _, Nat.zero_le _⟩ rfl rfl (Nat.le_of_ble_eq_true rfl) rfl rfl dX6_errorAtNoon_9 ?_
  refine j_aload_n C0 dX6_errorAtNoon_12 rfl 0 rfl ?_
  obtain ⟨q3, hcq3, hf⟩ := bd_some hf
  refine j_callV (As := []) (rest := []) (stk := [.int q3.1]) (G2 := (Cc, Bb, q3.2)) C0 (c_X6_pass hi (Cc := Cc) (Bb := Bb)  hcq3) kw_X6_114 bi_X6_pass bx_X6_pass id_c14 oc_14 rfl ⟨by decide, by decide⟩ ⟨Nat.zero_le _, Nat.zero_le _⟩ rfl rfl (Nat.le_of_ble_eq_true rfl) rfl rfl dX6_errorAtNoon_13 ?_
  refine j_istore_n (lv' := [(3, .int q3.1), (0, .ref (ad (14, 0, 0))), (1, .int x1), (2, .int x2)]) C0 dX6_errorAtNoon_16 rfl (by decide) rfl ?_
  exact j_sub [1, 2] rfl (L17 fuel q3.2 x1 hf)

set_option maxHeartbeats 4000000 in
set_option maxRecDepth 100000 in
theorem c_X6_noonError {l : Launch} {D : va_G} {ca : Nat → ClassId} {ad : I3 → Nat} (hi : adI ad) {Cc : Nat → Nat → Int32} {Bb : Nat → Fin 9} {M : Nat → Nat → Int32} {x1 : Int32} {r0 : Int32} {M' : Nat → Nat → Int32}  (hf : fM_noonError M x1 = some (r0, M')) : MT l D ca ad yX6_noonError cX6_noonError 2 (some .int) 7 160 [.ref (ad (14, 0, 0)), .int x1] (Cc, Bb, M) (some (.int r0)) (Cc, Bb, M') := by
  refine met_J (lv := [(0, .ref (ad (14, 0, 0))), (1, .int x1)]) hi (by decide +kernel) (Nat.le_of_ble_eq_true rfl) rfl (fun p e s m below meth c C0 hr => ?_)
  unfold fM_noonError at hf
  refine j_aload_n C0 dX6_noonError_0 rfl 0 rfl ?_
  refine j_iload_n C0 dX6_noonError_1 rfl 1 rfl ?_
  obtain ⟨q1, hcq1, hf⟩ := bd_some hf
  refine j_callV (As := [.int x1]) (rest := []) (stk := [.int q1]) (G2 := (Cc, Bb, M)) C0 (c_X6_isClock hi (Cc := Cc) (Bb := Bb)  hcq1) kw_X6_125 bi_X6_isClock bx_X6_isClock id_c14 oc_14 rfl ⟨by decide, by decide⟩ ⟨Nat.zero_le _, Nat.zero_le _⟩ rfl rfl (Nat.le_of_ble_eq_true rfl) rfl rfl dX6_noonError_2 ?_
  refine j_if_eq (tgt := 21) C0 dX6_noonError_5 (by decide) (fun c2 => ?_) (fun c2 => ?_)
  · have hf := if_t c2 hf
    refine j_ldc (v := -1000001) C0 dX6_noonError_21 cw_X6_35 ?_
    exact j_iret C0 hr dX6_noonError_23 (pr1 hf) (congrArg (fun z => (Cc, Bb, z)) (pr2 hf))
  have hf := if_f c2 hf
  refine j_aload_n C0 dX6_noonError_8 rfl 0 rfl ?_
  refine j_iload_n C0 dX6_noonError_9 rfl 1 rfl ?_
  refine j_iconst (v := 0) C0 dX6_noonError_10 rfl ?_
  obtain ⟨q3, hcq3, hf⟩ := bd_some hf
  refine j_callV (As := [.int x1, .int (0 : Int32)]) (rest := []) (stk := [.int q3.1]) (G2 := (Cc, Bb, q3.2)) C0 (c_X6_errorAtNoon hi (Cc := Cc) (Bb := Bb)  hcq3) kw_X6_187 bi_X6_errorAtNoon bx_X6_errorAtNoon id_c14 oc_14 rfl ⟨by decide, by decide⟩ ⟨Nat.zero_le _, Nat.zero_le _⟩ rfl rfl (Nat.le_of_ble_eq_true rfl) rfl rfl dX6_noonError_11 ?_
  refine j_sipush (v := 10000) C0 dX6_noonError_14 rfl ?_
  refine j_iadd C0 dX6_noonError_17 ?_
  refine j_goto (tgt := 23) C0 dX6_noonError_18 (by decide) ?_
  exact j_iret C0 hr dX6_noonError_23 (pr1 hf) (congrArg (fun z => (Cc, Bb, z)) (pr2 hf))

set_option maxHeartbeats 4000000 in
set_option maxRecDepth 100000 in
theorem c_X6_waxFor {l : Launch} {D : va_G} {ca : Nat → ClassId} {ad : I3 → Nat} (hi : adI ad) {Cc : Nat → Nat → Int32} {Bb : Nat → Fin 9} {M : Nat → Nat → Int32} {x1 : Int32} {r0 : Int32} {M' : Nat → Nat → Int32}  (hf : fM_waxFor M x1 = some (r0, M')) : MT l D ca ad yX6_waxFor cX6_waxFor 6 (some .int) 7 160 [.ref (ad (14, 0, 0)), .int x1] (Cc, Bb, M) (some (.int r0)) (Cc, Bb, M') := by
  refine met_J (lv := [(0, .ref (ad (14, 0, 0))), (1, .int x1)]) hi (by decide +kernel) (Nat.le_of_ble_eq_true rfl) rfl (fun p e s m below meth c C0 hr => ?_)
  have L16 : ∀ (n : Nat) (M : Nat → Nat → Int32) (y1 : Int32) (y2 : Int32) (y3 : Int32) (y4 : Int32), fM_waxFor_L16 n M y1 y2 y3 y4 = some (r0, M') → J D ca ad p l e ({ frames := 7, cells := 0, slots := 0, locals := 160 }) s m [.ref (ad (14, 0, 0)), .int x1].toArray below meth c 0 0 (MQ below (post D ca ad (some (.int r0)) (Cc, Bb, M')) [.ref (ad (14, 0, 0)), .int x1].toArray s 0 0 (adA ad)) 6 (Cc, Bb, M) 16 [(0, .ref (ad (14, 0, 0))), (1, .int y1), (2, .int y2), (3, .int y3), (4, .int y4)] [] := by
    intro n
    induction n with
    | zero =>
      intro M y1 y2 y3 y4 hf
      exact (none_ne hf).elim
    | succ n ih =>
      intro M y1 y2 y3 y4 hf
      rw [fM_waxFor_L16] at hf
      refine j_iload C0 dX6_waxFor_16 4 rfl ?_
      refine j_aload_n C0 dX6_waxFor_18 rfl 0 rfl ?_
      refine j_iload_n C0 dX6_waxFor_19 rfl 1 rfl ?_
      refine j_iconst (v := 1) C0 dX6_waxFor_20 rfl ?_
      obtain ⟨q3, hcq3, hf⟩ := bd_some hf
      refine j_callV (As := [.int y1, .int (1 : Int32)]) (rest := [.int y4]) (stk := [.int q3, .int y4]) (G2 := (Cc, Bb, M)) C0 (c_X6_of hi (Cc := Cc) (Bb := Bb)  hcq3) kw_X6_48 bi_X6_of bx_X6_of id_c14 oc_14 rfl ⟨by decide, by decide⟩ ⟨Nat.zero_le _, Nat.zero_le _⟩ rfl rfl (Nat.le_of_ble_eq_true rfl) rfl rfl dX6_waxFor_21 ?_
      refine j_icmp_ge (tgt := 72) C0 dX6_waxFor_24 (by decide) (fun c4 => ?_) (fun c4 => ?_)
      · have hf := if_t c4 hf
        refine j_iload_n C0 dX6_waxFor_72 rfl 2 rfl ?_
        exact j_iret C0 hr dX6_waxFor_73 (pr1 hf) (congrArg (fun z => (Cc, Bb, z)) (pr2 hf))
      have hf := if_f c4 hf
      refine j_aload_n C0 dX6_waxFor_27 rfl 0 rfl ?_
      refine j_aload_n C0 dX6_waxFor_28 rfl 0 rfl ?_
      refine j_iload_n C0 dX6_waxFor_29 rfl 1 rfl ?_
      refine j_iload C0 dX6_waxFor_30 4 rfl ?_
      obtain ⟨q5, hcq5, hf⟩ := bd_some hf
      refine j_callV (As := [.int y1, .int y4]) (rest := [.ref (ad (14, 0, 0))]) (stk := [.int q5.1, .ref (ad (14, 0, 0))]) (G2 := (Cc, Bb, q5.2)) C0 (c_X6_errorAtNoon hi (Cc := Cc) (Bb := Bb)  hcq5) kw_X6_187 bi_X6_errorAtNoon bx_X6_errorAtNoon id_c14 oc_14 rfl ⟨by decide, by decide⟩ ⟨Nat.zero_le _, Nat.zero_le _⟩ rfl rfl (Nat.le_of_ble_eq_true rfl) rfl rfl dX6_waxFor_32 ?_
      obtain ⟨q6, hcq6, hf⟩ := bd_some hf
      refine j_callV (As := [.int q5.1]) (rest := []) (stk := [.int q6]) (G2 := (Cc, Bb, q5.2)) C0 (c_X6_size hi (Cc := Cc) (Bb := Bb)  hcq6) kw_X6_69 bi_X6_size bx_X6_size id_c14 oc_14 rfl ⟨by decide, by decide⟩ ⟨Nat.zero_le _, Nat.zero_le _⟩ rfl rfl (Nat.le_of_ble_eq_true rfl) rfl rfl dX6_waxFor_35 ?_
      refine j_istore (lv' := [(5, .int q6), (0, .ref (ad (14, 0, 0))), (1, .int y1), (2, .int y2), (3, .int y3), (4, .int y4)]) C0 dX6_waxFor_38 (by decide) rfl ?_
      refine j_iload C0 dX6_waxFor_40 0 rfl ?_
      refine j_iload_n C0 dX6_waxFor_42 rfl 4 rfl ?_
      obtain ⟨q7, hsq7, hf⟩ := bd_some hf
      have Jq7 : J D ca ad p l e ({ frames := 7, cells := 0, slots := 0, locals := 160 }) s m [.ref (ad (14, 0, 0)), .int x1].toArray below meth c 0 0 (MQ below (post D ca ad (some (.int r0)) (Cc, Bb, M')) [.ref (ad (14, 0, 0)), .int x1].toArray s 0 0 (adA ad)) 6 (Cc, Bb, q5.2) 52 [(0, .ref (ad (14, 0, 0))), (1, .int y1), (3, .int y3), (4, .int y4), (5, .int q6)] [.int q7] := by
        refine j_istore_n (lv' := [(2, .int q7), (0, .ref (ad (14, 0, 0))), (1, .int y1), (3, .int y3), (4, .int y4), (5, .int q6)]) C0 dX6_waxFor_52 rfl (by decide) rfl ?_
        refine j_iload C0 dX6_waxFor_53 5 rfl ?_
        refine j_iload_n C0 dX6_waxFor_55 rfl 3 rfl ?_
        refine j_icmp_ge (tgt := 64) C0 dX6_waxFor_56 (by decide) (fun c8 => ?_) (fun c8 => ?_)
        · have hf := if_t c8 hf
          refine j_iload_n C0 dX6_waxFor_64 rfl 3 rfl ?_
          refine j_istore_n (lv' := [(3, .int y3), (2, .int q7), (0, .ref (ad (14, 0, 0))), (1, .int y1), (4, .int y4), (5, .int q6)]) C0 dX6_waxFor_65 rfl (by decide) rfl ?_
          refine j_iinc (v := (y4 + 1)) (lv' := [(4, .int (y4 + 1)), (3, .int y3), (2, .int q7), (0, .ref (ad (14, 0, 0))), (1, .int y1), (5, .int q6)]) C0 dX6_waxFor_66 4 rfl rfl (by decide) rfl ?_
          refine j_goto (tgt := 16) C0 dX6_waxFor_69 (by decide) ?_
          exact j_sub [3, 4, 2, 1, 0] rfl (ih q5.2 y1 q7 y3 (y4 + 1) hf)
        have hf := if_f c8 hf
        refine j_iload C0 dX6_waxFor_59 5 rfl ?_
        refine j_goto (tgt := 65) C0 dX6_waxFor_61 (by decide) ?_
        refine j_istore_n (lv' := [(3, .int q6), (2, .int q7), (0, .ref (ad (14, 0, 0))), (1, .int y1), (4, .int y4), (5, .int q6)]) C0 dX6_waxFor_65 rfl (by decide) rfl ?_
        refine j_iinc (v := (y4 + 1)) (lv' := [(4, .int (y4 + 1)), (3, .int q6), (2, .int q7), (0, .ref (ad (14, 0, 0))), (1, .int y1), (5, .int q6)]) C0 dX6_waxFor_66 4 rfl rfl (by decide) rfl ?_
        refine j_goto (tgt := 16) C0 dX6_waxFor_69 (by decide) ?_
        exact j_sub [3, 4, 2, 1, 0] rfl (ih q5.2 y1 q7 q6 (y4 + 1) hf)
      refine j_icmp_ge (tgt := 51) C0 dX6_waxFor_43 (by decide) (fun c9 => ?_) (fun c9 => ?_)
      · have hsq7 := if_t c9 hsq7
        refine j_iload_n C0 dX6_waxFor_51 rfl 3 rfl ?_
        obtain rfl := so hsq7
        exact j_sub [1, 2, 4, 5, 0] rfl Jq7
      have hsq7 := if_f c9 hsq7
      refine j_iload C0 dX6_waxFor_46 5 rfl ?_
      refine j_goto (tgt := 52) C0 dX6_waxFor_48 (by decide) ?_
      obtain rfl := so hsq7
      exact j_sub [1, 2, 4, 5, 0] rfl Jq7
  unfold fM_waxFor at hf
  refine j_iconst (v := 0) C0 dX6_waxFor_0 rfl ?_
  refine j_istore_n (lv' := [(2, .int (0 : Int32)), (0, .ref (ad (14, 0, 0))), (1, .int x1)]) C0 dX6_waxFor_1 rfl (by decide) rfl ?_
  refine j_aload_n C0 dX6_waxFor_2 rfl 1 rfl ?_
  refine j_aload_n C0 dX6_waxFor_3 rfl 1 rfl ?_
  refine j_iload_n C0 dX6_waxFor_4 rfl 2 rfl ?_
  refine j_iconst (v := 0) C0 dX6_waxFor_5 rfl ?_
  obtain ⟨q1, hcq1, hf⟩ := bd_some hf
  refine j_callV (As := [.int x1, .int (0 : Int32)]) (rest := [.ref (ad (14, 0, 0))]) (stk := [.int q1.1, .ref (ad (14, 0, 0))]) (G2 := (Cc, Bb, q1.2)) C0 (c_X6_errorAtNoon hi (Cc := Cc) (Bb := Bb)  hcq1) kw_X6_187 bi_X6_errorAtNoon bx_X6_errorAtNoon id_c14 oc_14 rfl ⟨by decide, by decide⟩ ⟨Nat.zero_le _, Nat.zero_le _⟩ rfl rfl (Nat.le_of_ble_eq_true rfl) rfl rfl dX6_waxFor_6 ?_
  obtain ⟨q2, hcq2, hf⟩ := bd_some hf
  refine j_callV (As := [.int q1.1]) (rest := []) (stk := [.int q2]) (G2 := (Cc, Bb, q1.2)) C0 (c_X6_size hi (Cc := Cc) (Bb := Bb)  hcq2) kw_X6_69 bi_X6_size bx_X6_size id_c14 oc_14 rfl ⟨by decide, by decide⟩ ⟨Nat.zero_le _, Nat.zero_le _⟩ rfl rfl (Nat.le_of_ble_eq_true rfl) rfl rfl dX6_waxFor_9 ?_
  refine j_istore_n (lv' := [(3, .int q2), (2, .int (0 : Int32)), (0, .ref (ad (14, 0, 0))), (1, .int x1)]) C0 dX6_waxFor_12 rfl (by decide) rfl ?_
  refine j_iconst (v := 1) C0 dX6_waxFor_13 rfl ?_
  refine j_istore (lv' := [(4, .int (1 : Int32)), (3, .int q2), (2, .int (0 : Int32)), (0, .ref (ad (14, 0, 0))), (1, .int x1)]) C0 dX6_waxFor_14 (by decide) rfl ?_
  exact j_sub [3, 4, 2, 1, 0] rfl (L16 fuel q1.2 x1 (0 : Int32) q2 (1 : Int32) hf)

set_option maxHeartbeats 4000000 in
set_option maxRecDepth 100000 in
theorem c_X6_bestWax {l : Launch} {D : va_G} {ca : Nat → ClassId} {ad : I3 → Nat} (hi : adI ad) {Cc : Nat → Nat → Int32} {Bb : Nat → Fin 9} {M : Nat → Nat → Int32} {x1 : Int32} {x2 : Int32} {r0 : Int32} {M' : Nat → Nat → Int32}  (hf : fM_bestWax M x1 x2 = some (r0, M')) : MT l D ca ad yX6_bestWax cX6_bestWax 4 (some .int) 8 185 [.ref (ad (14, 0, 0)), .int x1, .int x2] (Cc, Bb, M) (some (.int r0)) (Cc, Bb, M') := by
  refine met_J (lv := [(0, .ref (ad (14, 0, 0))), (1, .int x1), (2, .int x2)]) hi (by decide +kernel) (Nat.le_of_ble_eq_true rfl) rfl (fun p e s m below meth c C0 hr => ?_)
  unfold fM_bestWax at hf
  refine j_aload_n C0 dX6_bestWax_0 rfl 0 rfl ?_
  refine j_iload_n C0 dX6_bestWax_1 rfl 1 rfl ?_
  obtain ⟨q1, hcq1, hf⟩ := bd_some hf
  refine j_callV (As := [.int x1]) (rest := []) (stk := [.int q1]) (G2 := (Cc, Bb, M)) C0 (c_X6_isClock hi (Cc := Cc) (Bb := Bb)  hcq1) kw_X6_125 bi_X6_isClock bx_X6_isClock id_c14 oc_14 rfl ⟨by decide, by decide⟩ ⟨Nat.zero_le _, Nat.zero_le _⟩ rfl rfl (Nat.le_of_ble_eq_true rfl) rfl rfl dX6_bestWax_2 ?_
  refine j_if_eq (tgt := 17) C0 dX6_bestWax_5 (by decide) (fun c2 => ?_) (fun c2 => ?_)
  · have hf := if_t c2 hf
    refine j_ldc (v := -1000001) C0 dX6_bestWax_17 cw_X6_35 ?_
    exact j_iret C0 hr dX6_bestWax_19 (pr1 hf) (congrArg (fun z => (Cc, Bb, z)) (pr2 hf))
  have hf := if_f c2 hf
  refine j_iload_n C0 dX6_bestWax_8 rfl 2 rfl ?_
  refine j_iconst (v := 0) C0 dX6_bestWax_9 rfl ?_
  refine j_iconst (v := 1) C0 dX6_bestWax_10 rfl ?_
  obtain ⟨q3, hcq3, hf⟩ := bd_some hf
  refine j_callS (As := [.int x2, .int (0 : Int32), .int (1 : Int32)]) (rest := []) (stk := [.int q3]) (G2 := (Cc, Bb, M)) C0 (c_X6_in hi (G0 := (Cc, Bb, M))  hcq3) kw_X6_36 bi_X6_in rfl ⟨by decide, by decide⟩ ⟨Nat.zero_le _, Nat.zero_le _⟩ rfl rfl (Nat.le_of_ble_eq_true rfl) rfl rfl dX6_bestWax_11 ?_
  refine j_if_ne (tgt := 20) C0 dX6_bestWax_14 (by decide) (fun c4 => ?_) (fun c4 => ?_)
  · have hf := if_f c4 hf
    refine j_aload_n C0 dX6_bestWax_20 rfl 0 rfl ?_
    refine j_iload_n C0 dX6_bestWax_21 rfl 1 rfl ?_
    obtain ⟨q5, hcq5, hf⟩ := bd_some hf
    refine j_callV (As := [.int x1]) (rest := []) (stk := [.int q5.1]) (G2 := (Cc, Bb, q5.2)) C0 (c_X6_waxFor hi (Cc := Cc) (Bb := Bb)  hcq5) kw_X6_190 bi_X6_waxFor bx_X6_waxFor id_c14 oc_14 rfl ⟨by decide, by decide⟩ ⟨Nat.zero_le _, Nat.zero_le _⟩ rfl rfl (Nat.le_of_ble_eq_true rfl) rfl rfl dX6_bestWax_22 ?_
    refine j_istore_n (lv' := [(3, .int q5.1), (0, .ref (ad (14, 0, 0))), (1, .int x1), (2, .int x2)]) C0 dX6_bestWax_25 rfl (by decide) rfl ?_
    refine j_iload_n C0 dX6_bestWax_26 rfl 3 rfl ?_
    refine j_if_ne (tgt := 34) C0 dX6_bestWax_27 (by decide) (fun c6 => ?_) (fun c6 => ?_)
    · have hf := if_f c6 hf
      refine j_aload_n C0 dX6_bestWax_34 rfl 1 rfl ?_
      refine j_iload_n C0 dX6_bestWax_35 rfl 2 rfl ?_
      refine j_iload_n C0 dX6_bestWax_36 rfl 0 rfl ?_
      obtain ⟨q7, hcq7, hf⟩ := bd_some hf
      refine j_callV (As := [.int x1, .int q5.1]) (rest := []) (stk := [.int q7.1]) (G2 := (Cc, Bb, q7.2)) C0 (c_X6_errorAtNoon hi (Cc := Cc) (Bb := Bb)  hcq7) kw_X6_187 bi_X6_errorAtNoon bx_X6_errorAtNoon id_c14 oc_14 rfl ⟨by decide, by decide⟩ ⟨Nat.zero_le _, Nat.zero_le _⟩ rfl rfl (Nat.le_of_ble_eq_true rfl) rfl rfl dX6_bestWax_37 ?_
      refine j_sipush (v := 10000) C0 dX6_bestWax_40 rfl ?_
      refine j_iadd C0 dX6_bestWax_43 ?_
      exact j_iret C0 hr dX6_bestWax_44 (pr1 hf) (congrArg (fun z => (Cc, Bb, z)) (pr2 hf))
    have hf := if_t c6 hf
    refine j_iload_n C0 dX6_bestWax_30 rfl 0 rfl ?_
    refine j_goto (tgt := 44) C0 dX6_bestWax_31 (by decide) ?_
    exact j_iret C0 hr dX6_bestWax_44 (pr1 hf) (congrArg (fun z => (Cc, Bb, z)) (pr2 hf))
  have hf := if_t c4 hf
  refine j_ldc (v := -1000001) C0 dX6_bestWax_17 cw_X6_35 ?_
  exact j_iret C0 hr dX6_bestWax_19 (pr1 hf) (congrArg (fun z => (Cc, Bb, z)) (pr2 hf))

set_option maxHeartbeats 4000000 in
set_option maxRecDepth 100000 in
theorem c_X6_rankOf {l : Launch} {D : va_G} {ca : Nat → ClassId} {ad : I3 → Nat} (hi : adI ad) {Cc : Nat → Nat → Int32} {Bb : Nat → Fin 9} {M : Nat → Nat → Int32} {x1 : Int32} {r0 : Int32}  (hf : fM_rankOf M x1 = some (r0)) : MT l D ca ad yX6_rankOf cX6_rankOf 5 (some .int) 4 86 [.ref (ad (14, 0, 0)), .int x1] (Cc, Bb, M) (some (.int r0)) (Cc, Bb, M) := by
  refine met_J (lv := [(0, .ref (ad (14, 0, 0))), (1, .int x1)]) hi (by decide +kernel) (Nat.le_of_ble_eq_true rfl) rfl (fun p e s m below meth c C0 hr => ?_)
  have L4 : ∀ (n : Nat) (M : Nat → Nat → Int32) (y1 : Int32) (y2 : Int32) (y3 : Int32), fM_rankOf_L4 n M y1 y2 y3 = some (r0) → J D ca ad p l e ({ frames := 4, cells := 0, slots := 0, locals := 86 }) s m [.ref (ad (14, 0, 0)), .int x1].toArray below meth c 0 0 (MQ below (post D ca ad (some (.int r0)) (Cc, Bb, M)) [.ref (ad (14, 0, 0)), .int x1].toArray s 0 0 (adA ad)) 5 (Cc, Bb, M) 4 [(0, .ref (ad (14, 0, 0))), (1, .int y1), (2, .int y2), (3, .int y3)] [] := by
    intro n
    induction n with
    | zero =>
      intro M y1 y2 y3 hf
      exact (none_ne hf).elim
    | succ n ih =>
      intro M y1 y2 y3 hf
      rw [fM_rankOf_L4] at hf
      refine j_iload_n C0 dX6_rankOf_4 rfl 3 rfl ?_
      refine j_aload_n C0 dX6_rankOf_5 rfl 0 rfl ?_
      refine j_getr (id2 := (15, 0, 0)) C0 fl_X6_7 rl_6_0 id_c14 dX6_rankOf_6 ?_
      refine j_bipush (v := 19) C0 dX6_rankOf_9 rfl ?_
      refine j_iald (x := (M 0 19)) C0 al_15_0 rfl id_m0 (by decide) (by rw [Nat.zero_add]; rfl) dX6_rankOf_11 ?_
      refine j_icmp_ge (tgt := 65) C0 dX6_rankOf_12 (by decide) (fun c1 => ?_) (fun c1 => ?_)
      · have hf := if_t c1 hf
        refine j_iload_n C0 dX6_rankOf_65 rfl 2 rfl ?_
        exact j_iret C0 hr dX6_rankOf_66 (so hf) rfl
      have hf := if_f c1 hf
      refine j_aload_n C0 dX6_rankOf_15 rfl 0 rfl ?_
      refine j_aload_n C0 dX6_rankOf_16 rfl 0 rfl ?_
      refine j_iload_n C0 dX6_rankOf_17 rfl 3 rfl ?_
      obtain ⟨q2, hcq2, hf⟩ := bd_some hf
      refine j_callV (As := [.int y3]) (rest := [.ref (ad (14, 0, 0))]) (stk := [.int q2, .ref (ad (14, 0, 0))]) (G2 := (Cc, Bb, M)) C0 (c_X6_error hi (Cc := Cc) (Bb := Bb)  hcq2) kw_X6_66 bi_X6_error bx_X6_error id_c14 oc_14 rfl ⟨by decide, by decide⟩ ⟨Nat.zero_le _, Nat.zero_le _⟩ rfl rfl (Nat.le_of_ble_eq_true rfl) rfl rfl dX6_rankOf_18 ?_
      obtain ⟨q3, hcq3, hf⟩ := bd_some hf
      refine j_callV (As := [.int q2]) (rest := []) (stk := [.int q3]) (G2 := (Cc, Bb, M)) C0 (c_X6_size hi (Cc := Cc) (Bb := Bb)  hcq3) kw_X6_69 bi_X6_size bx_X6_size id_c14 oc_14 rfl ⟨by decide, by decide⟩ ⟨Nat.zero_le _, Nat.zero_le _⟩ rfl rfl (Nat.le_of_ble_eq_true rfl) rfl rfl dX6_rankOf_21 ?_
      refine j_aload_n C0 dX6_rankOf_24 rfl 0 rfl ?_
      refine j_aload_n C0 dX6_rankOf_25 rfl 0 rfl ?_
      refine j_iload_n C0 dX6_rankOf_26 rfl 1 rfl ?_
      obtain ⟨q4, hcq4, hf⟩ := bd_some hf
      refine j_callV (As := [.int y1]) (rest := [.ref (ad (14, 0, 0)), .int q3]) (stk := [.int q4, .ref (ad (14, 0, 0)), .int q3]) (G2 := (Cc, Bb, M)) C0 (c_X6_error hi (Cc := Cc) (Bb := Bb)  hcq4) kw_X6_66 bi_X6_error bx_X6_error id_c14 oc_14 rfl ⟨by decide, by decide⟩ ⟨Nat.zero_le _, Nat.zero_le _⟩ rfl rfl (Nat.le_of_ble_eq_true rfl) rfl rfl dX6_rankOf_27 ?_
      obtain ⟨q5, hcq5, hf⟩ := bd_some hf
      refine j_callV (As := [.int q4]) (rest := [.int q3]) (stk := [.int q5, .int q3]) (G2 := (Cc, Bb, M)) C0 (c_X6_size hi (Cc := Cc) (Bb := Bb)  hcq5) kw_X6_69 bi_X6_size bx_X6_size id_c14 oc_14 rfl ⟨by decide, by decide⟩ ⟨Nat.zero_le _, Nat.zero_le _⟩ rfl rfl (Nat.le_of_ble_eq_true rfl) rfl rfl dX6_rankOf_30 ?_
      refine j_isub C0 dX6_rankOf_33 ?_
      refine j_istore (lv' := [(4, .int (q3 - q5)), (0, .ref (ad (14, 0, 0))), (1, .int y1), (2, .int y2), (3, .int y3)]) C0 dX6_rankOf_34 (by decide) rfl ?_
      refine j_iload_n C0 dX6_rankOf_36 rfl 3 rfl ?_
      refine j_iload C0 dX6_rankOf_37 0 rfl ?_
      refine j_if_gt (tgt := 52) C0 dX6_rankOf_39 (by decide) (fun c6 => ?_) (fun c6 => ?_)
      · have hf := if_t c6 hf
        refine j_iconst (v := 1) C0 dX6_rankOf_52 rfl ?_
        refine j_goto (tgt := 57) C0 dX6_rankOf_53 (by decide) ?_
        refine j_iadd C0 dX6_rankOf_57 ?_
        refine j_istore_n (lv' := [(2, .int (y2 + (1 : Int32))), (4, .int (q3 - q5)), (0, .ref (ad (14, 0, 0))), (1, .int y1), (3, .int y3)]) C0 dX6_rankOf_58 rfl (by decide) rfl ?_
        refine j_iinc (v := (y3 + 1)) (lv' := [(3, .int (y3 + 1)), (2, .int (y2 + (1 : Int32))), (4, .int (q3 - q5)), (0, .ref (ad (14, 0, 0))), (1, .int y1)]) C0 dX6_rankOf_59 4 rfl rfl (by decide) rfl ?_
        refine j_goto (tgt := 4) C0 dX6_rankOf_62 (by decide) ?_
        exact j_sub [3, 4, 1, 0] rfl (ih M y1 (y2 + (1 : Int32)) (y3 + 1) hf)
      have hf := if_f c6 hf
      refine j_iload C0 dX6_rankOf_42 0 rfl ?_
      refine j_if_ne (tgt := 56) C0 dX6_rankOf_44 (by decide) (fun c7 => ?_) (fun c7 => ?_)
      · have hf := if_f c7 hf
        refine j_iconst (v := 0) C0 dX6_rankOf_56 rfl ?_
        refine j_iadd C0 dX6_rankOf_57 ?_
        refine j_istore_n (lv' := [(2, .int (y2 + (0 : Int32))), (4, .int (q3 - q5)), (0, .ref (ad (14, 0, 0))), (1, .int y1), (3, .int y3)]) C0 dX6_rankOf_58 rfl (by decide) rfl ?_
        refine j_iinc (v := (y3 + 1)) (lv' := [(3, .int (y3 + 1)), (2, .int (y2 + (0 : Int32))), (4, .int (q3 - q5)), (0, .ref (ad (14, 0, 0))), (1, .int y1)]) C0 dX6_rankOf_59 4 rfl rfl (by decide) rfl ?_
        refine j_goto (tgt := 4) C0 dX6_rankOf_62 (by decide) ?_
        exact j_sub [3, 4, 1, 0] rfl (ih M y1 (y2 + (0 : Int32)) (y3 + 1) hf)
      have hf := if_t c7 hf
      refine j_iload_n C0 dX6_rankOf_47 rfl 4 rfl ?_
      refine j_iload_n C0 dX6_rankOf_48 rfl 2 rfl ?_
      refine j_icmp_ge (tgt := 56) C0 dX6_rankOf_49 (by decide) (fun c8 => ?_) (fun c8 => ?_)
      · have hf := if_t c8 hf
        refine j_iconst (v := 0) C0 dX6_rankOf_56 rfl ?_
        refine j_iadd C0 dX6_rankOf_57 ?_
        refine j_istore_n (lv' := [(2, .int (y2 + (0 : Int32))), (4, .int (q3 - q5)), (0, .ref (ad (14, 0, 0))), (1, .int y1), (3, .int y3)]) C0 dX6_rankOf_58 rfl (by decide) rfl ?_
        refine j_iinc (v := (y3 + 1)) (lv' := [(3, .int (y3 + 1)), (2, .int (y2 + (0 : Int32))), (4, .int (q3 - q5)), (0, .ref (ad (14, 0, 0))), (1, .int y1)]) C0 dX6_rankOf_59 4 rfl rfl (by decide) rfl ?_
        refine j_goto (tgt := 4) C0 dX6_rankOf_62 (by decide) ?_
        exact j_sub [3, 4, 1, 0] rfl (ih M y1 (y2 + (0 : Int32)) (y3 + 1) hf)
      have hf := if_f c8 hf
      refine j_iconst (v := 1) C0 dX6_rankOf_52 rfl ?_
      refine j_goto (tgt := 57) C0 dX6_rankOf_53 (by decide) ?_
      refine j_iadd C0 dX6_rankOf_57 ?_
      refine j_istore_n (lv' := [(2, .int (y2 + (1 : Int32))), (4, .int (q3 - q5)), (0, .ref (ad (14, 0, 0))), (1, .int y1), (3, .int y3)]) C0 dX6_rankOf_58 rfl (by decide) rfl ?_
      refine j_iinc (v := (y3 + 1)) (lv' := [(3, .int (y3 + 1)), (2, .int (y2 + (1 : Int32))), (4, .int (q3 - q5)), (0, .ref (ad (14, 0, 0))), (1, .int y1)]) C0 dX6_rankOf_59 4 rfl rfl (by decide) rfl ?_
      refine j_goto (tgt := 4) C0 dX6_rankOf_62 (by decide) ?_
      exact j_sub [3, 4, 1, 0] rfl (ih M y1 (y2 + (1 : Int32)) (y3 + 1) hf)
  unfold fM_rankOf at hf
  refine j_iconst (v := 0) C0 dX6_rankOf_0 rfl ?_
  refine j_istore_n (lv' := [(2, .int (0 : Int32)), (0, .ref (ad (14, 0, 0))), (1, .int x1)]) C0 dX6_rankOf_1 rfl (by decide) rfl ?_
  refine j_iconst (v := 0) C0 dX6_rankOf_2 rfl ?_
  refine j_istore_n (lv' := [(3, .int (0 : Int32)), (2, .int (0 : Int32)), (0, .ref (ad (14, 0, 0))), (1, .int x1)]) C0 dX6_rankOf_3 rfl (by decide) rfl ?_
  exact j_sub [2, 3, 1, 0] rfl (L4 fuel M x1 (0 : Int32) (0 : Int32) hf)

set_option maxHeartbeats 4000000 in
set_option maxRecDepth 100000 in
theorem c_X6_worst {l : Launch} {D : va_G} {ca : Nat → ClassId} {ad : I3 → Nat} (hi : adI ad) {Cc : Nat → Nat → Int32} {Bb : Nat → Fin 9} {M : Nat → Nat → Int32} {x1 : Int32} {r0 : Int32}  (hf : fM_worst M x1 = some (r0)) : MT l D ca ad yX6_worst cX6_worst 4 (some .int) 5 110 [.ref (ad (14, 0, 0)), .int x1] (Cc, Bb, M) (some (.int r0)) (Cc, Bb, M) := by
  refine met_J (lv := [(0, .ref (ad (14, 0, 0))), (1, .int x1)]) hi (by decide +kernel) (Nat.le_of_ble_eq_true rfl) rfl (fun p e s m below meth c C0 hr => ?_)
  have L12 : ∀ (n : Nat) (M : Nat → Nat → Int32) (y1 : Int32) (y2 : Int32) (y3 : Int32), fM_worst_L12 n M y1 y2 y3 = some (r0) → J D ca ad p l e ({ frames := 5, cells := 0, slots := 0, locals := 110 }) s m [.ref (ad (14, 0, 0)), .int x1].toArray below meth c 0 0 (MQ below (post D ca ad (some (.int r0)) (Cc, Bb, M)) [.ref (ad (14, 0, 0)), .int x1].toArray s 0 0 (adA ad)) 4 (Cc, Bb, M) 12 [(0, .ref (ad (14, 0, 0))), (1, .int y1), (2, .int y2), (3, .int y3)] [] := by
    intro n
    induction n with
    | zero =>
      intro M y1 y2 y3 hf
      exact (none_ne hf).elim
    | succ n ih =>
      intro M y1 y2 y3 hf
      rw [fM_worst_L12] at hf
      refine j_iload_n C0 dX6_worst_12 rfl 3 rfl ?_
      refine j_aload_n C0 dX6_worst_13 rfl 0 rfl ?_
      refine j_getr (id2 := (15, 0, 0)) C0 fl_X6_7 rl_6_0 id_c14 dX6_worst_14 ?_
      refine j_bipush (v := 19) C0 dX6_worst_17 rfl ?_
      refine j_iald (x := (M 0 19)) C0 al_15_0 rfl id_m0 (by decide) (by rw [Nat.zero_add]; rfl) dX6_worst_19 ?_
      refine j_icmp_ge (tgt := 44) C0 dX6_worst_20 (by decide) (fun c2 => ?_) (fun c2 => ?_)
      · have hf := if_t c2 hf
        refine j_iload_n C0 dX6_worst_44 rfl 2 rfl ?_
        exact j_iret C0 hr dX6_worst_45 (so hf) rfl
      have hf := if_f c2 hf
      refine j_aload_n C0 dX6_worst_23 rfl 0 rfl ?_
      refine j_iload_n C0 dX6_worst_24 rfl 3 rfl ?_
      obtain ⟨q3, hcq3, hf⟩ := bd_some hf
      refine j_callV (As := [.int y3]) (rest := []) (stk := [.int q3]) (G2 := (Cc, Bb, M)) C0 (c_X6_rankOf hi (Cc := Cc) (Bb := Bb)  hcq3) kw_X6_193 bi_X6_rankOf bx_X6_rankOf id_c14 oc_14 rfl ⟨by decide, by decide⟩ ⟨Nat.zero_le _, Nat.zero_le _⟩ rfl rfl (Nat.le_of_ble_eq_true rfl) rfl rfl dX6_worst_25 ?_
      refine j_iload_n C0 dX6_worst_28 rfl 1 rfl ?_
      refine j_icmp_ne (tgt := 36) C0 dX6_worst_29 (by decide) (fun c4 => ?_) (fun c4 => ?_)
      · have hf := if_f c4 hf
        refine j_iload_n C0 dX6_worst_36 rfl 2 rfl ?_
        refine j_istore_n (lv' := [(2, .int y2), (0, .ref (ad (14, 0, 0))), (1, .int y1), (3, .int y3)]) C0 dX6_worst_37 rfl (by decide) rfl ?_
        refine j_iinc (v := (y3 + 1)) (lv' := [(3, .int (y3 + 1)), (2, .int y2), (0, .ref (ad (14, 0, 0))), (1, .int y1)]) C0 dX6_worst_38 3 rfl rfl (by decide) rfl ?_
        refine j_goto (tgt := 12) C0 dX6_worst_41 (by decide) ?_
        exact j_sub [2, 3, 1, 0] rfl (ih M y1 y2 (y3 + 1) hf)
      have hf := if_t c4 hf
      refine j_iload_n C0 dX6_worst_32 rfl 3 rfl ?_
      refine j_goto (tgt := 37) C0 dX6_worst_33 (by decide) ?_
      refine j_istore_n (lv' := [(2, .int y3), (0, .ref (ad (14, 0, 0))), (1, .int y1), (3, .int y3)]) C0 dX6_worst_37 rfl (by decide) rfl ?_
      refine j_iinc (v := (y3 + 1)) (lv' := [(3, .int (y3 + 1)), (2, .int y3), (0, .ref (ad (14, 0, 0))), (1, .int y1)]) C0 dX6_worst_38 3 rfl rfl (by decide) rfl ?_
      refine j_goto (tgt := 12) C0 dX6_worst_41 (by decide) ?_
      exact j_sub [2, 3, 1, 0] rfl (ih M y1 y3 (y3 + 1) hf)
  unfold fM_worst at hf
  refine j_iload_n C0 dX6_worst_0 rfl 1 rfl ?_
  refine j_if_ge (tgt := 7) C0 dX6_worst_1 (by decide) (fun c1 => ?_) (fun c1 => ?_)
  · have hf := if_t c1 hf
    refine j_ldc (v := -1000004) C0 dX6_worst_7 cw_X6_174 ?_
    refine j_istore_n (lv' := [(2, .int (-1000004 : Int32)), (0, .ref (ad (14, 0, 0))), (1, .int x1)]) C0 dX6_worst_9 rfl (by decide) rfl ?_
    refine j_iconst (v := 0) C0 dX6_worst_10 rfl ?_
    refine j_istore_n (lv' := [(3, .int (0 : Int32)), (2, .int (-1000004 : Int32)), (0, .ref (ad (14, 0, 0))), (1, .int x1)]) C0 dX6_worst_11 rfl (by decide) rfl ?_
    exact j_sub [2, 3, 1, 0] rfl (L12 fuel M x1 (-1000004 : Int32) (0 : Int32) hf)
  have hf := if_f c1 hf
  refine j_ldc (v := -1000001) C0 dX6_worst_4 cw_X6_35 ?_
  exact j_iret C0 hr dX6_worst_6 (so hf) rfl

set_option maxHeartbeats 4000000 in
set_option maxRecDepth 100000 in
theorem c_Jxf58ca_isNaN_12338 {l : Launch} {D : va_G} {ca : Nat → ClassId} {ad : I3 → Nat} (hi : adI ad) {G0 : GS} {x1 : UInt32} {r0 : Int32}  (hf : fJ_isNaN x1 = some (r0)) : MT l D ca ad yJxf58ca_isNaN_12338 cJxf58ca_isNaN_12338 1 (some .boolean) 0 0 [.float x1] G0 (some (.int r0)) G0 := by
  refine met_J (lv := [(0, .float x1)]) hi (by decide +kernel) (Nat.le_of_ble_eq_true rfl) rfl (fun p e s m below meth c C0 hr => ?_)
  unfold fJ_isNaN at hf
  refine j_fload_n C0 dJxf58ca_isNaN_12338_0 rfl 0 rfl ?_
  refine j_fload_n C0 dJxf58ca_isNaN_12338_1 rfl 0 rfl ?_
  refine j_fcmp C0 dJxf58ca_isNaN_12338_2 ?_
  refine j_if_eq (tgt := 10) C0 dJxf58ca_isNaN_12338_3 (by decide) (fun c1 => ?_) (fun c1 => ?_)
  · have hf := if_t c1 hf
    refine j_iconst (v := 0) C0 dJxf58ca_isNaN_12338_10 rfl ?_
    exact j_zret C0 hr rfl dJxf58ca_isNaN_12338_11 (so hf) rfl
  have hf := if_f c1 hf
  refine j_iconst (v := 1) C0 dJxf58ca_isNaN_12338_6 rfl ?_
  refine j_goto (tgt := 11) C0 dJxf58ca_isNaN_12338_7 (by decide) ?_
  exact j_zret C0 hr rfl dJxf58ca_isNaN_12338_11 (so hf) rfl

set_option maxHeartbeats 4000000 in
set_option maxRecDepth 100000 in
theorem c_Jxf58ca_floatToIntBits_5c35a {l : Launch} {D : va_G} {ca : Nat → ClassId} {ad : I3 → Nat} (hi : adI ad) {G0 : GS} {x1 : UInt32} {r0 : Int32}  (hf : fJ_floatToIntBits x1 = some (r0)) : MT l D ca ad yJxf58ca_floatToIntBits_5c35a cJxf58ca_floatToIntBits_5c35a 1 (some .int) 1 20 [.float x1] G0 (some (.int r0)) G0 := by
  refine met_J (lv := [(0, .float x1)]) hi (by decide +kernel) (Nat.le_of_ble_eq_true rfl) rfl (fun p e s m below meth c C0 hr => ?_)
  unfold fJ_floatToIntBits at hf
  refine j_fload_n C0 dJxf58ca_floatToIntBits_5c35a_0 rfl 0 rfl ?_
  obtain ⟨q1, hcq1, hf⟩ := bd_some hf
  refine j_callS (As := [.float x1]) (rest := []) (stk := [.int q1]) (G2 := G0) C0 (c_Jxf58ca_isNaN_12338 hi (G0 := G0)  hcq1) kw_Jxf58ca_59 bi_Jxf58ca_isNaN_12338 rfl ⟨by decide, by decide⟩ ⟨Nat.zero_le _, Nat.zero_le _⟩ rfl rfl (Nat.le_of_ble_eq_true rfl) rfl rfl dJxf58ca_floatToIntBits_5c35a_1 ?_
  refine j_if_ne (tgt := 12) C0 dJxf58ca_floatToIntBits_5c35a_4 (by decide) (fun c2 => ?_) (fun c2 => ?_)
  · have hf := if_f c2 hf
    refine j_ldc (v := 2143289344) C0 dJxf58ca_floatToIntBits_5c35a_12 cw_Jxf58ca_77 ?_
    exact j_iret C0 hr dJxf58ca_floatToIntBits_5c35a_14 (so hf) rfl
  have hf := if_t c2 hf
  refine j_fload_n C0 dJxf58ca_floatToIntBits_5c35a_7 rfl 0 rfl ?_
  refine j_f2i0 C0 w_raw1 w_raw2 w_raw3 w_raw4 (by decide) (by decide) dJxf58ca_floatToIntBits_5c35a_8 ?_
  exact j_iret C0 hr dJxf58ca_floatToIntBits_5c35a_11 (so hf) rfl

set_option maxHeartbeats 4000000 in
set_option maxRecDepth 100000 in
theorem c_X6_mean {l : Launch} {D : va_G} {ca : Nat → ClassId} {ad : I3 → Nat} (hi : adI ad) {Cc : Nat → Nat → Int32} {Bb : Nat → Fin 9} {M : Nat → Nat → Int32} {r0 : Int32}  (hf : fM_mean M = some (r0)) : MT l D ca ad yX6_mean cX6_mean 3 (some .int) 4 86 [.ref (ad (14, 0, 0))] (Cc, Bb, M) (some (.int r0)) (Cc, Bb, M) := by
  refine met_J (lv := [(0, .ref (ad (14, 0, 0)))]) hi (by decide +kernel) (Nat.le_of_ble_eq_true rfl) rfl (fun p e s m below meth c C0 hr => ?_)
  have L17 : ∀ (n : Nat) (M : Nat → Nat → Int32) (y1 : Int32) (y2 : Int32), fM_mean_L17 n M y1 y2 = some (r0) → J D ca ad p l e ({ frames := 4, cells := 0, slots := 0, locals := 86 }) s m [.ref (ad (14, 0, 0))].toArray below meth c 0 0 (MQ below (post D ca ad (some (.int r0)) (Cc, Bb, M)) [.ref (ad (14, 0, 0))].toArray s 0 0 (adA ad)) 3 (Cc, Bb, M) 17 [(0, .ref (ad (14, 0, 0))), (1, .int y1), (2, .int y2)] [] := by
    intro n
    induction n with
    | zero =>
      intro M y1 y2 hf
      exact (none_ne hf).elim
    | succ n ih =>
      intro M y1 y2 hf
      rw [fM_mean_L17] at hf
      refine j_iload_n C0 dX6_mean_17 rfl 2 rfl ?_
      refine j_aload_n C0 dX6_mean_18 rfl 0 rfl ?_
      refine j_getr (id2 := (15, 0, 0)) C0 fl_X6_7 rl_6_0 id_c14 dX6_mean_19 ?_
      refine j_bipush (v := 19) C0 dX6_mean_22 rfl ?_
      refine j_iald (x := (M 0 19)) C0 al_15_0 rfl id_m0 (by decide) (by rw [Nat.zero_add]; rfl) dX6_mean_24 ?_
      refine j_icmp_ge (tgt := 46) C0 dX6_mean_25 (by decide) (fun c2 => ?_) (fun c2 => ?_)
      · have hf := if_t c2 hf
        refine j_iload_n C0 dX6_mean_46 rfl 1 rfl ?_
        refine j_i2f C0 dX6_mean_47 ?_
        refine j_aload_n C0 dX6_mean_48 rfl 0 rfl ?_
        refine j_getr (id2 := (15, 0, 0)) C0 fl_X6_7 rl_6_0 id_c14 dX6_mean_49 ?_
        refine j_bipush (v := 19) C0 dX6_mean_52 rfl ?_
        refine j_iald (x := (M 0 19)) C0 al_15_0 rfl id_m0 (by decide) (by rw [Nat.zero_add]; rfl) dX6_mean_54 ?_
        refine j_i2f C0 dX6_mean_55 ?_
        obtain ⟨h3, hf⟩ := gd_some hf
        refine j_fdiv C0 dX6_mean_56 h3 ?_
        obtain ⟨q4, hcq4, hf⟩ := bd_some hf
        refine j_callS (As := [.float (FP.fdiv (FP.i2f y1) (FP.i2f (M 0 19)))]) (rest := []) (stk := [.int q4]) (G2 := (Cc, Bb, M)) C0 (c_Jxf58ca_floatToIntBits_5c35a hi (G0 := (Cc, Bb, M))  hcq4) kw_X6_196 bi_Jxf58ca_floatToIntBits_5c35a rfl ⟨by decide, by decide⟩ ⟨Nat.zero_le _, Nat.zero_le _⟩ rfl rfl (Nat.le_of_ble_eq_true rfl) rfl rfl dX6_mean_57 ?_
        exact j_iret C0 hr dX6_mean_60 (so hf) rfl
      have hf := if_f c2 hf
      refine j_iload_n C0 dX6_mean_28 rfl 1 rfl ?_
      refine j_aload_n C0 dX6_mean_29 rfl 0 rfl ?_
      refine j_aload_n C0 dX6_mean_30 rfl 0 rfl ?_
      refine j_iload_n C0 dX6_mean_31 rfl 2 rfl ?_
      obtain ⟨q5, hcq5, hf⟩ := bd_some hf
      refine j_callV (As := [.int y2]) (rest := [.ref (ad (14, 0, 0)), .int y1]) (stk := [.int q5, .ref (ad (14, 0, 0)), .int y1]) (G2 := (Cc, Bb, M)) C0 (c_X6_error hi (Cc := Cc) (Bb := Bb)  hcq5) kw_X6_66 bi_X6_error bx_X6_error id_c14 oc_14 rfl ⟨by decide, by decide⟩ ⟨Nat.zero_le _, Nat.zero_le _⟩ rfl rfl (Nat.le_of_ble_eq_true rfl) rfl rfl dX6_mean_32 ?_
      obtain ⟨q6, hcq6, hf⟩ := bd_some hf
      refine j_callV (As := [.int q5]) (rest := [.int y1]) (stk := [.int q6, .int y1]) (G2 := (Cc, Bb, M)) C0 (c_X6_size hi (Cc := Cc) (Bb := Bb)  hcq6) kw_X6_69 bi_X6_size bx_X6_size id_c14 oc_14 rfl ⟨by decide, by decide⟩ ⟨Nat.zero_le _, Nat.zero_le _⟩ rfl rfl (Nat.le_of_ble_eq_true rfl) rfl rfl dX6_mean_35 ?_
      refine j_iadd C0 dX6_mean_38 ?_
      refine j_istore_n (lv' := [(1, .int (y1 + q6)), (0, .ref (ad (14, 0, 0))), (2, .int y2)]) C0 dX6_mean_39 rfl (by decide) rfl ?_
      refine j_iinc (v := (y2 + 1)) (lv' := [(2, .int (y2 + 1)), (1, .int (y1 + q6)), (0, .ref (ad (14, 0, 0)))]) C0 dX6_mean_40 2 rfl rfl (by decide) rfl ?_
      refine j_goto (tgt := 17) C0 dX6_mean_43 (by decide) ?_
      exact j_sub [2, 1, 0] rfl (ih M (y1 + q6) (y2 + 1) hf)
  unfold fM_mean at hf
  refine j_aload_n C0 dX6_mean_0 rfl 0 rfl ?_
  refine j_getr (id2 := (15, 0, 0)) C0 fl_X6_7 rl_6_0 id_c14 dX6_mean_1 ?_
  refine j_bipush (v := 19) C0 dX6_mean_4 rfl ?_
  refine j_iald (x := (M 0 19)) C0 al_15_0 rfl id_m0 (by decide) (by rw [Nat.zero_add]; rfl) dX6_mean_6 ?_
  refine j_if_ne (tgt := 13) C0 dX6_mean_7 (by decide) (fun c1 => ?_) (fun c1 => ?_)
  · have hf := if_f c1 hf
    refine j_iconst (v := 0) C0 dX6_mean_13 rfl ?_
    refine j_istore_n (lv' := [(1, .int (0 : Int32)), (0, .ref (ad (14, 0, 0)))]) C0 dX6_mean_14 rfl (by decide) rfl ?_
    refine j_iconst (v := 0) C0 dX6_mean_15 rfl ?_
    refine j_istore_n (lv' := [(2, .int (0 : Int32)), (1, .int (0 : Int32)), (0, .ref (ad (14, 0, 0)))]) C0 dX6_mean_16 rfl (by decide) rfl ?_
    exact j_sub [2, 1, 0] rfl (L17 fuel M (0 : Int32) (0 : Int32) hf)
  have hf := if_t c1 hf
  refine j_ldc (v := -1000004) C0 dX6_mean_10 cw_X6_174 ?_
  exact j_iret C0 hr dX6_mean_12 (so hf) rfl

set_option maxHeartbeats 4000000 in
set_option maxRecDepth 100000 in
theorem c_X6_clocksOff {l : Launch} {D : va_G} {ca : Nat → ClassId} {ad : I3 → Nat} (hi : adI ad) {Cc : Nat → Nat → Int32} {Bb : Nat → Fin 9} {M : Nat → Nat → Int32} {r0 : Int32}  (hf : fM_clocksOff M = some (r0)) : MT l D ca ad yX6_clocksOff cX6_clocksOff 3 (some .int) 5 107 [.ref (ad (14, 0, 0))] (Cc, Bb, M) (some (.int r0)) (Cc, Bb, M) := by
  refine met_J (lv := [(0, .ref (ad (14, 0, 0)))]) hi (by decide +kernel) (Nat.le_of_ble_eq_true rfl) rfl (fun p e s m below meth c C0 hr => ?_)
  have L4 : ∀ (n : Nat) (M : Nat → Nat → Int32) (y1 : Int32) (y2 : Int32), fM_clocksOff_L4 n M y1 y2 = some (r0) → J D ca ad p l e ({ frames := 5, cells := 0, slots := 0, locals := 107 }) s m [.ref (ad (14, 0, 0))].toArray below meth c 0 0 (MQ below (post D ca ad (some (.int r0)) (Cc, Bb, M)) [.ref (ad (14, 0, 0))].toArray s 0 0 (adA ad)) 3 (Cc, Bb, M) 4 [(0, .ref (ad (14, 0, 0))), (1, .int y1), (2, .int y2)] [] := by
    intro n
    induction n with
    | zero =>
      intro M y1 y2 hf
      exact (none_ne hf).elim
    | succ n ih =>
      intro M y1 y2 hf
      rw [fM_clocksOff_L4] at hf
      refine j_iload_n C0 dX6_clocksOff_4 rfl 2 rfl ?_
      refine j_aload_n C0 dX6_clocksOff_5 rfl 0 rfl ?_
      refine j_getr (id2 := (15, 0, 0)) C0 fl_X6_7 rl_6_0 id_c14 dX6_clocksOff_6 ?_
      refine j_bipush (v := 19) C0 dX6_clocksOff_9 rfl ?_
      refine j_iald (x := (M 0 19)) C0 al_15_0 rfl id_m0 (by decide) (by rw [Nat.zero_add]; rfl) dX6_clocksOff_11 ?_
      refine j_icmp_ge (tgt := 39) C0 dX6_clocksOff_12 (by decide) (fun c1 => ?_) (fun c1 => ?_)
      · have hf := if_t c1 hf
        refine j_iload_n C0 dX6_clocksOff_39 rfl 1 rfl ?_
        exact j_iret C0 hr dX6_clocksOff_40 (so hf) rfl
      have hf := if_f c1 hf
      refine j_iload_n C0 dX6_clocksOff_15 rfl 1 rfl ?_
      refine j_aload_n C0 dX6_clocksOff_16 rfl 0 rfl ?_
      refine j_iload_n C0 dX6_clocksOff_17 rfl 2 rfl ?_
      obtain ⟨q2, hcq2, hf⟩ := bd_some hf
      refine j_callV (As := [.int y2]) (rest := [.int y1]) (stk := [.int q2, .int y1]) (G2 := (Cc, Bb, M)) C0 (c_X6_isOff hi (Cc := Cc) (Bb := Bb)  hcq2) kw_X6_102 bi_X6_isOff bx_X6_isOff id_c14 oc_14 rfl ⟨by decide, by decide⟩ ⟨Nat.zero_le _, Nat.zero_le _⟩ rfl rfl (Nat.le_of_ble_eq_true rfl) rfl rfl dX6_clocksOff_18 ?_
      refine j_if_eq (tgt := 30) C0 dX6_clocksOff_21 (by decide) (fun c3 => ?_) (fun c3 => ?_)
      · have hf := if_t c3 hf
        refine j_iconst (v := 0) C0 dX6_clocksOff_30 rfl ?_
        refine j_ior C0 dX6_clocksOff_31 ?_
        refine j_istore_n (lv' := [(1, .int (y1 ||| (0 : Int32))), (0, .ref (ad (14, 0, 0))), (2, .int y2)]) C0 dX6_clocksOff_32 rfl (by decide) rfl ?_
        refine j_iinc (v := (y2 + 1)) (lv' := [(2, .int (y2 + 1)), (1, .int (y1 ||| (0 : Int32))), (0, .ref (ad (14, 0, 0)))]) C0 dX6_clocksOff_33 2 rfl rfl (by decide) rfl ?_
        refine j_goto (tgt := 4) C0 dX6_clocksOff_36 (by decide) ?_
        exact j_sub [2, 1, 0] rfl (ih M (y1 ||| (0 : Int32)) (y2 + 1) hf)
      have hf := if_f c3 hf
      refine j_iconst (v := 1) C0 dX6_clocksOff_24 rfl ?_
      refine j_iload_n C0 dX6_clocksOff_25 rfl 2 rfl ?_
      refine j_ishl C0 dX6_clocksOff_26 ?_
      refine j_goto (tgt := 31) C0 dX6_clocksOff_27 (by decide) ?_
      refine j_ior C0 dX6_clocksOff_31 ?_
      refine j_istore_n (lv' := [(1, .int (y1 ||| ((1 : Int32) <<< (y2 &&& 31)))), (0, .ref (ad (14, 0, 0))), (2, .int y2)]) C0 dX6_clocksOff_32 rfl (by decide) rfl ?_
      refine j_iinc (v := (y2 + 1)) (lv' := [(2, .int (y2 + 1)), (1, .int (y1 ||| ((1 : Int32) <<< (y2 &&& 31)))), (0, .ref (ad (14, 0, 0)))]) C0 dX6_clocksOff_33 2 rfl rfl (by decide) rfl ?_
      refine j_goto (tgt := 4) C0 dX6_clocksOff_36 (by decide) ?_
      exact j_sub [2, 1, 0] rfl (ih M (y1 ||| ((1 : Int32) <<< (y2 &&& 31))) (y2 + 1) hf)
  unfold fM_clocksOff at hf
  refine j_iconst (v := 0) C0 dX6_clocksOff_0 rfl ?_
  refine j_istore_n (lv' := [(1, .int (0 : Int32)), (0, .ref (ad (14, 0, 0)))]) C0 dX6_clocksOff_1 rfl (by decide) rfl ?_
  refine j_iconst (v := 0) C0 dX6_clocksOff_2 rfl ?_
  refine j_istore_n (lv' := [(2, .int (0 : Int32)), (1, .int (0 : Int32)), (0, .ref (ad (14, 0, 0)))]) C0 dX6_clocksOff_3 rfl (by decide) rfl ?_
  exact j_sub [2, 1, 0] rfl (L4 fuel M (0 : Int32) (0 : Int32) hf)

set_option maxHeartbeats 4000000 in
set_option maxRecDepth 100000 in
theorem c_X6_clocksEmpty {l : Launch} {D : va_G} {ca : Nat → ClassId} {ad : I3 → Nat} (hi : adI ad) {Cc : Nat → Nat → Int32} {Bb : Nat → Fin 9} {M : Nat → Nat → Int32} {r0 : Int32}  (hf : fM_clocksEmpty M = some (r0)) : MT l D ca ad yX6_clocksEmpty cX6_clocksEmpty 3 (some .int) 1 22 [.ref (ad (14, 0, 0))] (Cc, Bb, M) (some (.int r0)) (Cc, Bb, M) := by
  refine met_J (lv := [(0, .ref (ad (14, 0, 0)))]) hi (by decide +kernel) (Nat.le_of_ble_eq_true rfl) rfl (fun p e s m below meth c C0 hr => ?_)
  have L4 : ∀ (n : Nat) (M : Nat → Nat → Int32) (y1 : Int32) (y2 : Int32), fM_clocksEmpty_L4 n M y1 y2 = some (r0) → J D ca ad p l e ({ frames := 1, cells := 0, slots := 0, locals := 22 }) s m [.ref (ad (14, 0, 0))].toArray below meth c 0 0 (MQ below (post D ca ad (some (.int r0)) (Cc, Bb, M)) [.ref (ad (14, 0, 0))].toArray s 0 0 (adA ad)) 3 (Cc, Bb, M) 4 [(0, .ref (ad (14, 0, 0))), (1, .int y1), (2, .int y2)] [] := by
    intro n
    induction n with
    | zero =>
      intro M y1 y2 hf
      exact (none_ne hf).elim
    | succ n ih =>
      intro M y1 y2 hf
      rw [fM_clocksEmpty_L4] at hf
      refine j_iload_n C0 dX6_clocksEmpty_4 rfl 2 rfl ?_
      refine j_aload_n C0 dX6_clocksEmpty_5 rfl 0 rfl ?_
      refine j_getr (id2 := (15, 0, 0)) C0 fl_X6_7 rl_6_0 id_c14 dX6_clocksEmpty_6 ?_
      refine j_bipush (v := 19) C0 dX6_clocksEmpty_9 rfl ?_
      refine j_iald (x := (M 0 19)) C0 al_15_0 rfl id_m0 (by decide) (by rw [Nat.zero_add]; rfl) dX6_clocksEmpty_11 ?_
      refine j_icmp_ge (tgt := 40) C0 dX6_clocksEmpty_12 (by decide) (fun c1 => ?_) (fun c1 => ?_)
      · have hf := if_t c1 hf
        refine j_iload_n C0 dX6_clocksEmpty_40 rfl 1 rfl ?_
        exact j_iret C0 hr dX6_clocksEmpty_41 (so hf) rfl
      have hf := if_f c1 hf
      refine j_iload_n C0 dX6_clocksEmpty_15 rfl 1 rfl ?_
      refine j_aload_n C0 dX6_clocksEmpty_16 rfl 0 rfl ?_
      refine j_iload_n C0 dX6_clocksEmpty_17 rfl 2 rfl ?_
      refine j_iconst (v := 3) C0 dX6_clocksEmpty_18 rfl ?_
      obtain ⟨q2, hcq2, hf⟩ := bd_some hf
      refine j_callV (As := [.int y2, .int (3 : Int32)]) (rest := [.int y1]) (stk := [.int q2, .int y1]) (G2 := (Cc, Bb, M)) C0 (c_X6_of hi (Cc := Cc) (Bb := Bb)  hcq2) kw_X6_48 bi_X6_of bx_X6_of id_c14 oc_14 rfl ⟨by decide, by decide⟩ ⟨Nat.zero_le _, Nat.zero_le _⟩ rfl rfl (Nat.le_of_ble_eq_true rfl) rfl rfl dX6_clocksEmpty_19 ?_
      refine j_if_ne (tgt := 31) C0 dX6_clocksEmpty_22 (by decide) (fun c3 => ?_) (fun c3 => ?_)
      · have hf := if_f c3 hf
        refine j_iconst (v := 0) C0 dX6_clocksEmpty_31 rfl ?_
        refine j_ior C0 dX6_clocksEmpty_32 ?_
        refine j_istore_n (lv' := [(1, .int (y1 ||| (0 : Int32))), (0, .ref (ad (14, 0, 0))), (2, .int y2)]) C0 dX6_clocksEmpty_33 rfl (by decide) rfl ?_
        refine j_iinc (v := (y2 + 1)) (lv' := [(2, .int (y2 + 1)), (1, .int (y1 ||| (0 : Int32))), (0, .ref (ad (14, 0, 0)))]) C0 dX6_clocksEmpty_34 2 rfl rfl (by decide) rfl ?_
        refine j_goto (tgt := 4) C0 dX6_clocksEmpty_37 (by decide) ?_
        exact j_sub [2, 1, 0] rfl (ih M (y1 ||| (0 : Int32)) (y2 + 1) hf)
      have hf := if_t c3 hf
      refine j_iconst (v := 1) C0 dX6_clocksEmpty_25 rfl ?_
      refine j_iload_n C0 dX6_clocksEmpty_26 rfl 2 rfl ?_
      refine j_ishl C0 dX6_clocksEmpty_27 ?_
      refine j_goto (tgt := 32) C0 dX6_clocksEmpty_28 (by decide) ?_
      refine j_ior C0 dX6_clocksEmpty_32 ?_
      refine j_istore_n (lv' := [(1, .int (y1 ||| ((1 : Int32) <<< (y2 &&& 31)))), (0, .ref (ad (14, 0, 0))), (2, .int y2)]) C0 dX6_clocksEmpty_33 rfl (by decide) rfl ?_
      refine j_iinc (v := (y2 + 1)) (lv' := [(2, .int (y2 + 1)), (1, .int (y1 ||| ((1 : Int32) <<< (y2 &&& 31)))), (0, .ref (ad (14, 0, 0)))]) C0 dX6_clocksEmpty_34 2 rfl rfl (by decide) rfl ?_
      refine j_goto (tgt := 4) C0 dX6_clocksEmpty_37 (by decide) ?_
      exact j_sub [2, 1, 0] rfl (ih M (y1 ||| ((1 : Int32) <<< (y2 &&& 31))) (y2 + 1) hf)
  unfold fM_clocksEmpty at hf
  refine j_iconst (v := 0) C0 dX6_clocksEmpty_0 rfl ?_
  refine j_istore_n (lv' := [(1, .int (0 : Int32)), (0, .ref (ad (14, 0, 0)))]) C0 dX6_clocksEmpty_1 rfl (by decide) rfl ?_
  refine j_iconst (v := 0) C0 dX6_clocksEmpty_2 rfl ?_
  refine j_istore_n (lv' := [(2, .int (0 : Int32)), (1, .int (0 : Int32)), (0, .ref (ad (14, 0, 0)))]) C0 dX6_clocksEmpty_3 rfl (by decide) rfl ?_
  exact j_sub [2, 1, 0] rfl (L4 fuel M (0 : Int32) (0 : Int32) hf)

set_option maxHeartbeats 4000000 in
set_option maxRecDepth 100000 in
theorem c_X6_number {l : Launch} {D : va_G} {ca : Nat → ClassId} {ad : I3 → Nat} (hi : adI ad) {Cc : Nat → Nat → Int32} {Bb : Nat → Fin 9} {M : Nat → Nat → Int32} {x1 : Int32} {r0 : Int32}  (hf : fM_number M x1 = some (r0)) : MT l D ca ad yX6_number cX6_number 2 (some .int) 6 129 [.ref (ad (14, 0, 0)), .int x1] (Cc, Bb, M) (some (.int r0)) (Cc, Bb, M) := by
  refine met_J (lv := [(0, .ref (ad (14, 0, 0))), (1, .int x1)]) hi (by decide +kernel) (Nat.le_of_ble_eq_true rfl) rfl (fun p e s m below meth c C0 hr => ?_)
  unfold fM_number at hf
  refine j_iload_n C0 dX6_number_0 rfl 1 rfl ?_
  by_cases c1 : (x1.toInt < 0 ∨ 11 < x1.toInt)
  · have hf := if_t c1 hf
    refine j_tableOut (tgt := 171) C0 dX6_number_1 c1 (by decide) ?_
    refine j_aload_n C0 dX6_number_171 rfl 0 rfl ?_
    refine j_geti (x := (M 8 1)) C0 fl_X6_208 sl_6_8 id_c14 rfl dX6_number_172 ?_
    exact j_iret C0 hr dX6_number_175 (so hf) rfl
  have hf := if_f c1 hf
  by_cases c2 : x1 = 0
  · have hf := if_t c2 hf
    refine j_tableEq C0 0 (tgt := 64) c2 dX6_number_1 (by decide) (by decide) rfl (by decide) ?_
    refine j_aload_n C0 dX6_number_64 rfl 0 rfl ?_
    refine j_getr (id2 := (15, 0, 0)) C0 fl_X6_7 rl_6_0 id_c14 dX6_number_65 ?_
    refine j_bipush (v := 6) C0 dX6_number_68 rfl ?_
    refine j_iald (x := (M 0 6)) C0 al_15_0 rfl id_m0 (by decide) (by rw [Nat.zero_add]; rfl) dX6_number_70 ?_
    exact j_iret C0 hr dX6_number_71 (so hf) rfl
  have hf := if_f c2 hf
  by_cases c3 : x1 = 1
  · have hf := if_t c3 hf
    refine j_tableEq C0 1 (tgt := 72) c3 dX6_number_1 (by decide) (by decide) rfl (by decide) ?_
    refine j_aload_n C0 dX6_number_72 rfl 0 rfl ?_
    refine j_getr (id2 := (15, 0, 0)) C0 fl_X6_7 rl_6_0 id_c14 dX6_number_73 ?_
    refine j_bipush (v := 19) C0 dX6_number_76 rfl ?_
    refine j_iald (x := (M 0 19)) C0 al_15_0 rfl id_m0 (by decide) (by rw [Nat.zero_add]; rfl) dX6_number_78 ?_
    exact j_iret C0 hr dX6_number_79 (so hf) rfl
  have hf := if_f c3 hf
  by_cases c4 : x1 = 2
  · have hf := if_t c4 hf
    refine j_tableEq C0 2 (tgt := 80) c4 dX6_number_1 (by decide) (by decide) rfl (by decide) ?_
    refine j_aload_n C0 dX6_number_80 rfl 0 rfl ?_
    obtain ⟨q5, hcq5, hf⟩ := bd_some hf
    refine j_callV (As := []) (rest := []) (stk := [.int q5]) (G2 := (Cc, Bb, M)) C0 (c_X6_clocksOff hi (Cc := Cc) (Bb := Bb)  hcq5) kw_X6_202 bi_X6_clocksOff bx_X6_clocksOff id_c14 oc_14 rfl ⟨by decide, by decide⟩ ⟨Nat.zero_le _, Nat.zero_le _⟩ rfl rfl (Nat.le_of_ble_eq_true rfl) rfl rfl dX6_number_81 ?_
    exact j_iret C0 hr dX6_number_84 (so hf) rfl
  have hf := if_f c4 hf
  by_cases c6 : x1 = 3
  · have hf := if_t c6 hf
    refine j_tableEq C0 3 (tgt := 85) c6 dX6_number_1 (by decide) (by decide) rfl (by decide) ?_
    refine j_aload_n C0 dX6_number_85 rfl 0 rfl ?_
    obtain ⟨q7, hcq7, hf⟩ := bd_some hf
    refine j_callV (As := []) (rest := []) (stk := [.int q7]) (G2 := (Cc, Bb, M)) C0 (c_X6_clocksEmpty hi (Cc := Cc) (Bb := Bb)  hcq7) kw_X6_205 bi_X6_clocksEmpty bx_X6_clocksEmpty id_c14 oc_14 rfl ⟨by decide, by decide⟩ ⟨Nat.zero_le _, Nat.zero_le _⟩ rfl rfl (Nat.le_of_ble_eq_true rfl) rfl rfl dX6_number_86 ?_
    exact j_iret C0 hr dX6_number_89 (so hf) rfl
  have hf := if_f c6 hf
  by_cases c8 : x1 = 4
  · have hf := if_t c8 hf
    refine j_tableEq C0 4 (tgt := 90) c8 dX6_number_1 (by decide) (by decide) rfl (by decide) ?_
    refine j_aload_n C0 dX6_number_90 rfl 0 rfl ?_
    refine j_getr (id2 := (15, 0, 0)) C0 fl_X6_7 rl_6_0 id_c14 dX6_number_91 ?_
    refine j_bipush (v := 14) C0 dX6_number_94 rfl ?_
    refine j_iald (x := (M 0 14)) C0 al_15_0 rfl id_m0 (by decide) (by rw [Nat.zero_add]; rfl) dX6_number_96 ?_
    exact j_iret C0 hr dX6_number_97 (so hf) rfl
  have hf := if_f c8 hf
  by_cases c9 : x1 = 5
  · have hf := if_t c9 hf
    refine j_tableEq C0 5 (tgt := 98) c9 dX6_number_1 (by decide) (by decide) rfl (by decide) ?_
    refine j_aload_n C0 dX6_number_98 rfl 0 rfl ?_
    refine j_getr (id2 := (15, 0, 0)) C0 fl_X6_7 rl_6_0 id_c14 dX6_number_99 ?_
    refine j_bipush (v := 15) C0 dX6_number_102 rfl ?_
    refine j_iald (x := (M 0 15)) C0 al_15_0 rfl id_m0 (by decide) (by rw [Nat.zero_add]; rfl) dX6_number_104 ?_
    exact j_iret C0 hr dX6_number_105 (so hf) rfl
  have hf := if_f c9 hf
  by_cases c10 : x1 = 6
  · have hf := if_t c10 hf
    refine j_tableEq C0 6 (tgt := 106) c10 dX6_number_1 (by decide) (by decide) rfl (by decide) ?_
    refine j_aload_n C0 dX6_number_106 rfl 0 rfl ?_
    refine j_getr (id2 := (15, 0, 0)) C0 fl_X6_7 rl_6_0 id_c14 dX6_number_107 ?_
    refine j_bipush (v := 16) C0 dX6_number_110 rfl ?_
    refine j_iald (x := (M 0 16)) C0 al_15_0 rfl id_m0 (by decide) (by rw [Nat.zero_add]; rfl) dX6_number_112 ?_
    exact j_iret C0 hr dX6_number_113 (so hf) rfl
  have hf := if_f c10 hf
  by_cases c11 : x1 = 7
  · have hf := if_t c11 hf
    refine j_tableEq C0 7 (tgt := 114) c11 dX6_number_1 (by decide) (by decide) rfl (by decide) ?_
    refine j_aload_n C0 dX6_number_114 rfl 0 rfl ?_
    refine j_getr (id2 := (15, 0, 0)) C0 fl_X6_7 rl_6_0 id_c14 dX6_number_115 ?_
    refine j_bipush (v := 17) C0 dX6_number_118 rfl ?_
    refine j_iald (x := (M 0 17)) C0 al_15_0 rfl id_m0 (by decide) (by rw [Nat.zero_add]; rfl) dX6_number_120 ?_
    exact j_iret C0 hr dX6_number_121 (so hf) rfl
  have hf := if_f c11 hf
  by_cases c12 : x1 = 8
  · have hf := if_t c12 hf
    refine j_tableEq C0 8 (tgt := 122) c12 dX6_number_1 (by decide) (by decide) rfl (by decide) ?_
    refine j_bipush (v := 12) C0 dX6_number_122 rfl ?_
    refine j_aload_n C0 dX6_number_124 rfl 0 rfl ?_
    refine j_getr (id2 := (15, 0, 0)) C0 fl_X6_7 rl_6_0 id_c14 dX6_number_125 ?_
    refine j_iconst (v := 3) C0 dX6_number_128 rfl ?_
    refine j_iald (x := (M 0 3)) C0 al_15_0 rfl id_m0 (by decide) (by rw [Nat.zero_add]; rfl) dX6_number_129 ?_
    refine j_imul C0 dX6_number_130 ?_
    refine j_aload_n C0 dX6_number_131 rfl 0 rfl ?_
    refine j_getr (id2 := (15, 0, 0)) C0 fl_X6_7 rl_6_0 id_c14 dX6_number_132 ?_
    refine j_bipush (v := 6) C0 dX6_number_135 rfl ?_
    refine j_iald (x := (M 0 6)) C0 al_15_0 rfl id_m0 (by decide) (by rw [Nat.zero_add]; rfl) dX6_number_137 ?_
    refine j_bipush (v := 12) C0 dX6_number_138 rfl ?_
    refine j_aload_n C0 dX6_number_140 rfl 0 rfl ?_
    refine j_getr (id2 := (15, 0, 0)) C0 fl_X6_7 rl_6_0 id_c14 dX6_number_141 ?_
    refine j_iconst (v := 3) C0 dX6_number_144 rfl ?_
    refine j_iald (x := (M 0 3)) C0 al_15_0 rfl id_m0 (by decide) (by rw [Nat.zero_add]; rfl) dX6_number_145 ?_
    refine j_imul C0 dX6_number_146 ?_
    obtain ⟨h13, hf⟩ := gd_some hf
    refine j_irem C0 dX6_number_147 h13 ?_
    refine j_isub C0 dX6_number_148 ?_
    exact j_iret C0 hr dX6_number_149 (so hf) rfl
  have hf := if_f c12 hf
  by_cases c14 : x1 = 9
  · have hf := if_t c14 hf
    refine j_tableEq C0 9 (tgt := 150) c14 dX6_number_1 (by decide) (by decide) rfl (by decide) ?_
    refine j_aload_n C0 dX6_number_150 rfl 0 rfl ?_
    refine j_getr (id2 := (15, 0, 0)) C0 fl_X6_7 rl_6_0 id_c14 dX6_number_151 ?_
    refine j_bipush (v := 18) C0 dX6_number_154 rfl ?_
    refine j_iald (x := (M 0 18)) C0 al_15_0 rfl id_m0 (by decide) (by rw [Nat.zero_add]; rfl) dX6_number_156 ?_
    exact j_iret C0 hr dX6_number_157 (so hf) rfl
  have hf := if_f c14 hf
  by_cases c15 : x1 = 10
  · have hf := if_t c15 hf
    refine j_tableEq C0 10 (tgt := 158) c15 dX6_number_1 (by decide) (by decide) rfl (by decide) ?_
    refine j_aload_n C0 dX6_number_158 rfl 0 rfl ?_
    refine j_getr (id2 := (15, 0, 0)) C0 fl_X6_7 rl_6_0 id_c14 dX6_number_159 ?_
    refine j_bipush (v := 95) C0 dX6_number_162 rfl ?_
    refine j_iald (x := (M 0 95)) C0 al_15_0 rfl id_m0 (by decide) (by rw [Nat.zero_add]; rfl) dX6_number_164 ?_
    exact j_iret C0 hr dX6_number_165 (so hf) rfl
  have hf := if_f c15 hf
  by_cases c16 : x1 = 11
  · have hf := if_t c16 hf
    refine j_tableEq C0 11 (tgt := 166) c16 dX6_number_1 (by decide) (by decide) rfl (by decide) ?_
    refine j_aload_n C0 dX6_number_166 rfl 0 rfl ?_
    refine j_geti (x := (M 8 0)) C0 fl_X6_44 sl_6_3 id_c14 rfl dX6_number_167 ?_
    exact j_iret C0 hr dX6_number_170 (so hf) rfl
  have hf := if_f c16 hf
  exact (none_ne hf).elim

set_option maxHeartbeats 4000000 in
set_option maxRecDepth 100000 in
theorem c_X6_count {l : Launch} {D : va_G} {ca : Nat → ClassId} {ad : I3 → Nat} (hi : adI ad) {Cc : Nat → Nat → Int32} {Bb : Nat → Fin 9} {M : Nat → Nat → Int32} {x1 : Int32} {r0 : Int32}  (hf : fM_count M x1 = some (r0)) : MT l D ca ad yX6_count cX6_count 2 (some .int) 7 150 [.ref (ad (14, 0, 0)), .int x1] (Cc, Bb, M) (some (.int r0)) (Cc, Bb, M) := by
  refine met_J (lv := [(0, .ref (ad (14, 0, 0))), (1, .int x1)]) hi (by decide +kernel) (Nat.le_of_ble_eq_true rfl) rfl (fun p e s m below meth c C0 hr => ?_)
  unfold fM_count at hf
  refine j_iload_n C0 dX6_count_0 rfl 1 rfl ?_
  refine j_iconst (v := 0) C0 dX6_count_1 rfl ?_
  refine j_bipush (v := 12) C0 dX6_count_2 rfl ?_
  obtain ⟨q1, hcq1, hf⟩ := bd_some hf
  refine j_callS (As := [.int x1, .int (0 : Int32), .int (12 : Int32)]) (rest := []) (stk := [.int q1]) (G2 := (Cc, Bb, M)) C0 (c_X6_in hi (G0 := (Cc, Bb, M))  hcq1) kw_X6_36 bi_X6_in rfl ⟨by decide, by decide⟩ ⟨Nat.zero_le _, Nat.zero_le _⟩ rfl rfl (Nat.le_of_ble_eq_true rfl) rfl rfl dX6_count_4 ?_
  refine j_if_eq (tgt := 18) C0 dX6_count_7 (by decide) (fun c2 => ?_) (fun c2 => ?_)
  · have hf := if_t c2 hf
    refine j_iload_n C0 dX6_count_18 rfl 1 rfl ?_
    refine j_bipush (v := 20) C0 dX6_count_19 rfl ?_
    refine j_bipush (v := 25) C0 dX6_count_21 rfl ?_
    obtain ⟨q3, hcq3, hf⟩ := bd_some hf
    refine j_callS (As := [.int x1, .int (20 : Int32), .int (25 : Int32)]) (rest := []) (stk := [.int q3]) (G2 := (Cc, Bb, M)) C0 (c_X6_in hi (G0 := (Cc, Bb, M))  hcq3) kw_X6_36 bi_X6_in rfl ⟨by decide, by decide⟩ ⟨Nat.zero_le _, Nat.zero_le _⟩ rfl rfl (Nat.le_of_ble_eq_true rfl) rfl rfl dX6_count_23 ?_
    refine j_if_eq (tgt := 41) C0 dX6_count_26 (by decide) (fun c4 => ?_) (fun c4 => ?_)
    · have hf := if_t c4 hf
      refine j_ldc (v := -1000001) C0 dX6_count_41 cw_X6_35 ?_
      exact j_iret C0 hr dX6_count_43 (so hf) rfl
    have hf := if_f c4 hf
    refine j_aload_n C0 dX6_count_29 rfl 0 rfl ?_
    refine j_getr (id2 := (15, 0, 0)) C0 fl_X6_7 rl_6_0 id_c14 dX6_count_30 ?_
    refine j_iload_n C0 dX6_count_33 rfl 1 rfl ?_
    refine j_bipush (v := 20) C0 dX6_count_34 rfl ?_
    refine j_isub C0 dX6_count_36 ?_
    obtain ⟨h5, hf⟩ := gd_some hf
    refine j_iald (x := (M 0 ((x1 - (20 : Int32)).toNatClampNeg))) C0 al_15_0 rfl id_m0 h5 (by rw [Nat.zero_add]; rfl) dX6_count_37 ?_
    refine j_goto (tgt := 43) C0 dX6_count_38 (by decide) ?_
    exact j_iret C0 hr dX6_count_43 (so hf) rfl
  have hf := if_f c2 hf
  refine j_aload_n C0 dX6_count_10 rfl 0 rfl ?_
  refine j_iload_n C0 dX6_count_11 rfl 1 rfl ?_
  obtain ⟨q6, hcq6, hf⟩ := bd_some hf
  refine j_callV (As := [.int x1]) (rest := []) (stk := [.int q6]) (G2 := (Cc, Bb, M)) C0 (c_X6_number hi (Cc := Cc) (Bb := Bb)  hcq6) kw_X6_211 bi_X6_number bx_X6_number id_c14 oc_14 rfl ⟨by decide, by decide⟩ ⟨Nat.zero_le _, Nat.zero_le _⟩ rfl rfl (Nat.le_of_ble_eq_true rfl) rfl rfl dX6_count_12 ?_
  refine j_goto (tgt := 43) C0 dX6_count_15 (by decide) ?_
  exact j_iret C0 hr dX6_count_43 (so hf) rfl

set_option maxHeartbeats 4000000 in
set_option maxRecDepth 100000 in
theorem c_X6_type {l : Launch} {D : va_G} {ca : Nat → ClassId} {ad : I3 → Nat} (hi : adI ad) {Cc : Nat → Nat → Int32} {Bb : Nat → Fin 9} {M : Nat → Nat → Int32} {x1 : Int32} {r0 : Int32} {M' : Nat → Nat → Int32}  (hf : fM_type M x1 = some (r0, M')) : MT l D ca ad yX6_type cX6_type 2 (some .int) 1 22 [.ref (ad (14, 0, 0)), .int x1] (Cc, Bb, M) (some (.int r0)) (Cc, Bb, M') := by
  refine met_J (lv := [(0, .ref (ad (14, 0, 0))), (1, .int x1)]) hi (by decide +kernel) (Nat.le_of_ble_eq_true rfl) rfl (fun p e s m below meth c C0 hr => ?_)
  unfold fM_type at hf
  refine j_iload_n C0 dX6_type_0 rfl 1 rfl ?_
  refine j_bipush (v := 32) C0 dX6_type_1 rfl ?_
  refine j_bipush (v := 126) C0 dX6_type_3 rfl ?_
  obtain ⟨q1, hcq1, hf⟩ := bd_some hf
  refine j_callS (As := [.int x1, .int (32 : Int32), .int (126 : Int32)]) (rest := []) (stk := [.int q1]) (G2 := (Cc, Bb, M)) C0 (c_X6_in hi (G0 := (Cc, Bb, M))  hcq1) kw_X6_36 bi_X6_in rfl ⟨by decide, by decide⟩ ⟨Nat.zero_le _, Nat.zero_le _⟩ rfl rfl (Nat.le_of_ble_eq_true rfl) rfl rfl dX6_type_5 ?_
  refine j_if_ne (tgt := 14) C0 dX6_type_8 (by decide) (fun c2 => ?_) (fun c2 => ?_)
  · have hf := if_f c2 hf
    refine j_aload_n C0 dX6_type_14 rfl 0 rfl ?_
    refine j_geti (x := (M 8 1)) C0 fl_X6_208 sl_6_8 id_c14 rfl dX6_type_15 ?_
    refine j_bipush (v := 60) C0 dX6_type_18 rfl ?_
    refine j_icmp_ne (tgt := 26) C0 dX6_type_20 (by decide) (fun c3 => ?_) (fun c3 => ?_)
    · have hf := if_f c3 hf
      refine j_aload_n C0 dX6_type_26 rfl 0 rfl ?_
      refine j_getr (id2 := (15, 6, 0)) C0 fl_X6_29 rl_6_7 id_c14 dX6_type_27 ?_
      refine j_aload_n C0 dX6_type_30 rfl 0 rfl ?_
      refine j_geti (x := (M 8 1)) C0 fl_X6_208 sl_6_8 id_c14 rfl dX6_type_31 ?_
      refine j_iload_n C0 dX6_type_34 rfl 1 rfl ?_
      obtain ⟨h4, hf⟩ := gd_some hf
      obtain ⟨M5, e6, hf⟩ := lt_some hf
      refine j_iast (G' := (Cc, Bb, M5)) C0 al_15_6 rfl id_m6 h4 (by rw [Nat.zero_add]; exact (eM_set e6)) dX6_type_35 ?_
      refine j_aload_n C0 dX6_type_36 rfl 0 rfl ?_
      refine j_dup C0 dX6_type_37 rfl ?_
      refine j_geti (x := (M5 8 1)) C0 fl_X6_208 sl_6_8 id_c14 rfl dX6_type_38 ?_
      refine j_iconst (v := 1) C0 dX6_type_41 rfl ?_
      refine j_iadd C0 dX6_type_42 ?_
      obtain ⟨M7, e8, hf⟩ := lt_some hf
      refine j_puti (G' := (Cc, Bb, M7)) C0 fl_X6_208 pw_6_8 sl_6_8 id_c14 rfl rfl (eM_set e8) dX6_type_43 ?_
      refine j_aload_n C0 dX6_type_46 rfl 0 rfl ?_
      refine j_geti (x := (M7 8 1)) C0 fl_X6_208 sl_6_8 id_c14 rfl dX6_type_47 ?_
      exact j_iret C0 hr dX6_type_50 (pr1 hf) (congrArg (fun z => (Cc, Bb, z)) (pr2 hf))
    have hf := if_t c3 hf
    refine j_ldc (v := -1000003) C0 dX6_type_23 cw_X6_124 ?_
    exact j_iret C0 hr dX6_type_25 (pr1 hf) (congrArg (fun z => (Cc, Bb, z)) (pr2 hf))
  have hf := if_t c2 hf
  refine j_ldc (v := -1000001) C0 dX6_type_11 cw_X6_35 ?_
  exact j_iret C0 hr dX6_type_13 (pr1 hf) (congrArg (fun z => (Cc, Bb, z)) (pr2 hf))

set_option maxHeartbeats 4000000 in
set_option maxRecDepth 100000 in
theorem c_X6_clearText {l : Launch} {D : va_G} {ca : Nat → ClassId} {ad : I3 → Nat} (hi : adI ad) {Cc : Nat → Nat → Int32} {Bb : Nat → Fin 9} {M : Nat → Nat → Int32} {r0 : Int32} {M' : Nat → Nat → Int32}  (hf : fM_clearText M = some (r0, M')) : MT l D ca ad yX6_clearText cX6_clearText 2 (some .int) 0 0 [.ref (ad (14, 0, 0))] (Cc, Bb, M) (some (.int r0)) (Cc, Bb, M') := by
  refine met_J (lv := [(0, .ref (ad (14, 0, 0)))]) hi (by decide +kernel) (Nat.le_of_ble_eq_true rfl) rfl (fun p e s m below meth c C0 hr => ?_)
  unfold fM_clearText at hf
  refine j_aload_n C0 dX6_clearText_0 rfl 0 rfl ?_
  refine j_geti (x := (M 8 1)) C0 fl_X6_208 sl_6_8 id_c14 rfl dX6_clearText_1 ?_
  refine j_istore_n (lv' := [(1, .int (M 8 1)), (0, .ref (ad (14, 0, 0)))]) C0 dX6_clearText_4 rfl (by decide) rfl ?_
  refine j_aload_n C0 dX6_clearText_5 rfl 1 rfl ?_
  refine j_iconst (v := 0) C0 dX6_clearText_6 rfl ?_
  obtain ⟨M1, e2, hf⟩ := lt_some hf
  refine j_puti (G' := (Cc, Bb, M1)) C0 fl_X6_208 pw_6_8 sl_6_8 id_c14 rfl rfl (eM_set e2) dX6_clearText_7 ?_
  refine j_iload_n C0 dX6_clearText_10 rfl 0 rfl ?_
  exact j_iret C0 hr dX6_clearText_11 (pr1 hf) (congrArg (fun z => (Cc, Bb, z)) (pr2 hf))

set_option maxHeartbeats 4000000 in
set_option maxRecDepth 100000 in
theorem c_X6_isAt {l : Launch} {D : va_G} {ca : Nat → ClassId} {ad : I3 → Nat} (hi : adI ad) {Cc : Nat → Nat → Int32} {Bb : Nat → Fin 9} {M : Nat → Nat → Int32} {x1 : Int32} {x2 : Int32} {r0 : Int32}  (hf : fM_isAt M x1 x2 = some (r0)) : MT l D ca ad yX6_isAt cX6_isAt 3 (some .boolean) 1 22 [.ref (ad (14, 0, 0)), .int x1, .int x2] (Cc, Bb, M) (some (.int r0)) (Cc, Bb, M) := by
  refine met_J (lv := [(0, .ref (ad (14, 0, 0))), (1, .int x1), (2, .int x2)]) hi (by decide +kernel) (Nat.le_of_ble_eq_true rfl) rfl (fun p e s m below meth c C0 hr => ?_)
  unfold fM_isAt at hf
  refine j_aload_n C0 dX6_isAt_0 rfl 0 rfl ?_
  refine j_geti (x := (M 8 2)) C0 fl_X6_214 sl_6_9 id_c14 rfl dX6_isAt_1 ?_
  refine j_aload_n C0 dX6_isAt_4 rfl 0 rfl ?_
  refine j_geti (x := (M 8 1)) C0 fl_X6_208 sl_6_8 id_c14 rfl dX6_isAt_5 ?_
  refine j_icmp_ge (tgt := 32) C0 dX6_isAt_8 (by decide) (fun c1 => ?_) (fun c1 => ?_)
  · have hf := if_t c1 hf
    refine j_iconst (v := 0) C0 dX6_isAt_32 rfl ?_
    exact j_zret C0 hr rfl dX6_isAt_33 (so hf) rfl
  have hf := if_f c1 hf
  refine j_aload_n C0 dX6_isAt_11 rfl 0 rfl ?_
  refine j_getr (id2 := (15, 6, 0)) C0 fl_X6_29 rl_6_7 id_c14 dX6_isAt_12 ?_
  refine j_aload_n C0 dX6_isAt_15 rfl 0 rfl ?_
  refine j_geti (x := (M 8 2)) C0 fl_X6_214 sl_6_9 id_c14 rfl dX6_isAt_16 ?_
  obtain ⟨h2, hf⟩ := gd_some hf
  refine j_iald (x := (M 6 ((M 8 2).toNatClampNeg))) C0 al_15_6 rfl id_m6 h2 (by rw [Nat.zero_add]; rfl) dX6_isAt_19 ?_
  refine j_iload_n C0 dX6_isAt_20 rfl 1 rfl ?_
  refine j_iload_n C0 dX6_isAt_21 rfl 2 rfl ?_
  obtain ⟨q3, hcq3, hf⟩ := bd_some hf
  refine j_callS (As := [.int (M 6 ((M 8 2).toNatClampNeg)), .int x1, .int x2]) (rest := []) (stk := [.int q3]) (G2 := (Cc, Bb, M)) C0 (c_X6_in hi (G0 := (Cc, Bb, M))  hcq3) kw_X6_36 bi_X6_in rfl ⟨by decide, by decide⟩ ⟨Nat.zero_le _, Nat.zero_le _⟩ rfl rfl (Nat.le_of_ble_eq_true rfl) rfl rfl dX6_isAt_22 ?_
  refine j_if_eq (tgt := 32) C0 dX6_isAt_25 (by decide) (fun c4 => ?_) (fun c4 => ?_)
  · have hf := if_t c4 hf
    refine j_iconst (v := 0) C0 dX6_isAt_32 rfl ?_
    exact j_zret C0 hr rfl dX6_isAt_33 (so hf) rfl
  have hf := if_f c4 hf
  refine j_iconst (v := 1) C0 dX6_isAt_28 rfl ?_
  refine j_goto (tgt := 33) C0 dX6_isAt_29 (by decide) ?_
  exact j_zret C0 hr rfl dX6_isAt_33 (so hf) rfl

set_option maxHeartbeats 4000000 in
set_option maxRecDepth 100000 in
theorem c_X6_readSign {l : Launch} {D : va_G} {ca : Nat → ClassId} {ad : I3 → Nat} (hi : adI ad) {Cc : Nat → Nat → Int32} {Bb : Nat → Fin 9} {M : Nat → Nat → Int32} {x1 : Int32} {r0 : Int32} {M' : Nat → Nat → Int32}  (hf : fM_readSign M x1 = some (r0, M')) : MT l D ca ad yX6_readSign cX6_readSign 3 (some .boolean) 2 44 [.ref (ad (14, 0, 0)), .int x1] (Cc, Bb, M) (some (.int r0)) (Cc, Bb, M') := by
  refine met_J (lv := [(0, .ref (ad (14, 0, 0))), (1, .int x1)]) hi (by decide +kernel) (Nat.le_of_ble_eq_true rfl) rfl (fun p e s m below meth c C0 hr => ?_)
  unfold fM_readSign at hf
  refine j_aload_n C0 dX6_readSign_0 rfl 0 rfl ?_
  refine j_iload_n C0 dX6_readSign_1 rfl 1 rfl ?_
  refine j_iload_n C0 dX6_readSign_2 rfl 1 rfl ?_
  obtain ⟨q1, hcq1, hf⟩ := bd_some hf
  refine j_callV (As := [.int x1, .int x1]) (rest := []) (stk := [.int q1]) (G2 := (Cc, Bb, M)) C0 (c_X6_isAt hi (Cc := Cc) (Bb := Bb)  hcq1) kw_X6_217 bi_X6_isAt bx_X6_isAt id_c14 oc_14 rfl ⟨by decide, by decide⟩ ⟨Nat.zero_le _, Nat.zero_le _⟩ rfl rfl (Nat.le_of_ble_eq_true rfl) rfl rfl dX6_readSign_3 ?_
  refine j_istore_n (lv' := [(2, .int q1), (0, .ref (ad (14, 0, 0))), (1, .int x1)]) C0 dX6_readSign_6 rfl (by decide) rfl ?_
  refine j_aload_n C0 dX6_readSign_7 rfl 1 rfl ?_
  refine j_dup C0 dX6_readSign_8 rfl ?_
  refine j_geti (x := (M 8 2)) C0 fl_X6_214 sl_6_9 id_c14 rfl dX6_readSign_9 ?_
  refine j_iload_n C0 dX6_readSign_12 rfl 0 rfl ?_
  refine j_if_eq (tgt := 20) C0 dX6_readSign_13 (by decide) (fun c2 => ?_) (fun c2 => ?_)
  · have hf := if_t c2 hf
    refine j_iconst (v := 0) C0 dX6_readSign_20 rfl ?_
    refine j_iadd C0 dX6_readSign_21 ?_
    obtain ⟨M3, e4, hf⟩ := lt_some hf
    refine j_puti (G' := (Cc, Bb, M3)) C0 fl_X6_214 pw_6_9 sl_6_9 id_c14 rfl rfl (eM_set e4) dX6_readSign_22 ?_
    refine j_iload_n C0 dX6_readSign_25 rfl 0 rfl ?_
    obtain ⟨h5, hf⟩ := gd_some hf
    exact j_zret C0 hr (isZ_eq h5) dX6_readSign_26 (pr1 hf) (congrArg (fun z => (Cc, Bb, z)) (pr2 hf))
  have hf := if_f c2 hf
  refine j_iconst (v := 1) C0 dX6_readSign_16 rfl ?_
  refine j_goto (tgt := 21) C0 dX6_readSign_17 (by decide) ?_
  refine j_iadd C0 dX6_readSign_21 ?_
  obtain ⟨M6, e7, hf⟩ := lt_some hf
  refine j_puti (G' := (Cc, Bb, M6)) C0 fl_X6_214 pw_6_9 sl_6_9 id_c14 rfl rfl (eM_set e7) dX6_readSign_22 ?_
  refine j_iload_n C0 dX6_readSign_25 rfl 0 rfl ?_
  obtain ⟨h8, hf⟩ := gd_some hf
  exact j_zret C0 hr (isZ_eq h8) dX6_readSign_26 (pr1 hf) (congrArg (fun z => (Cc, Bb, z)) (pr2 hf))

set_option maxHeartbeats 4000000 in
set_option maxRecDepth 100000 in
theorem c_X6_readNumber {l : Launch} {D : va_G} {ca : Nat → ClassId} {ad : I3 → Nat} (hi : adI ad) {Cc : Nat → Nat → Int32} {Bb : Nat → Fin 9} {M : Nat → Nat → Int32} {x1 : Int32} {r0 : Int32} {M' : Nat → Nat → Int32}  (hf : fM_readNumber M x1 = some (r0, M')) : MT l D ca ad yX6_readNumber cX6_readNumber 3 (some .boolean) 2 44 [.ref (ad (14, 0, 0)), .int x1] (Cc, Bb, M) (some (.int r0)) (Cc, Bb, M') := by
  refine met_J (lv := [(0, .ref (ad (14, 0, 0))), (1, .int x1)]) hi (by decide +kernel) (Nat.le_of_ble_eq_true rfl) rfl (fun p e s m below meth c C0 hr => ?_)
  have L9 : ∀ (n : Nat) (M : Nat → Nat → Int32) (y1 : Int32) (y2 : Int32), fM_readNumber_L9 n M y1 y2 = some (r0, M') → J D ca ad p l e ({ frames := 2, cells := 0, slots := 0, locals := 44 }) s m [.ref (ad (14, 0, 0)), .int x1].toArray below meth c 0 0 (MQ below (post D ca ad (some (.int r0)) (Cc, Bb, M')) [.ref (ad (14, 0, 0)), .int x1].toArray s 0 0 (adA ad)) 3 (Cc, Bb, M) 9 [(0, .ref (ad (14, 0, 0))), (1, .int y1), (2, .int y2)] [] := by
    intro n
    induction n with
    | zero =>
      intro M y1 y2 hf
      exact (none_ne hf).elim
    | succ n ih =>
      intro M y1 y2 hf
      rw [fM_readNumber_L9] at hf
      refine j_iload_n C0 dX6_readNumber_9 rfl 2 rfl ?_
      refine j_iconst (v := 3) C0 dX6_readNumber_10 rfl ?_
      refine j_icmp_ge (tgt := 69) C0 dX6_readNumber_11 (by decide) (fun c4 => ?_) (fun c4 => ?_)
      · have hf := if_t c4 hf
        refine j_iload_n C0 dX6_readNumber_69 rfl 2 rfl ?_
        refine j_if_le (tgt := 77) C0 dX6_readNumber_70 (by decide) (fun c5 => ?_) (fun c5 => ?_)
        · have hf := if_t c5 hf
          refine j_iconst (v := 0) C0 dX6_readNumber_77 rfl ?_
          exact j_zret C0 hr rfl dX6_readNumber_78 (pr1 hf) (congrArg (fun z => (Cc, Bb, z)) (pr2 hf))
        have hf := if_f c5 hf
        refine j_iconst (v := 1) C0 dX6_readNumber_73 rfl ?_
        refine j_goto (tgt := 78) C0 dX6_readNumber_74 (by decide) ?_
        exact j_zret C0 hr rfl dX6_readNumber_78 (pr1 hf) (congrArg (fun z => (Cc, Bb, z)) (pr2 hf))
      have hf := if_f c4 hf
      refine j_aload_n C0 dX6_readNumber_14 rfl 0 rfl ?_
      refine j_bipush (v := 48) C0 dX6_readNumber_15 rfl ?_
      refine j_bipush (v := 57) C0 dX6_readNumber_17 rfl ?_
      obtain ⟨q6, hcq6, hf⟩ := bd_some hf
      refine j_callV (As := [.int (48 : Int32), .int (57 : Int32)]) (rest := []) (stk := [.int q6]) (G2 := (Cc, Bb, M)) C0 (c_X6_isAt hi (Cc := Cc) (Bb := Bb)  hcq6) kw_X6_217 bi_X6_isAt bx_X6_isAt id_c14 oc_14 rfl ⟨by decide, by decide⟩ ⟨Nat.zero_le _, Nat.zero_le _⟩ rfl rfl (Nat.le_of_ble_eq_true rfl) rfl rfl dX6_readNumber_19 ?_
      refine j_if_eq (tgt := 69) C0 dX6_readNumber_22 (by decide) (fun c7 => ?_) (fun c7 => ?_)
      · have hf := if_t c7 hf
        refine j_iload_n C0 dX6_readNumber_69 rfl 2 rfl ?_
        refine j_if_le (tgt := 77) C0 dX6_readNumber_70 (by decide) (fun c8 => ?_) (fun c8 => ?_)
        · have hf := if_t c8 hf
          refine j_iconst (v := 0) C0 dX6_readNumber_77 rfl ?_
          exact j_zret C0 hr rfl dX6_readNumber_78 (pr1 hf) (congrArg (fun z => (Cc, Bb, z)) (pr2 hf))
        have hf := if_f c8 hf
        refine j_iconst (v := 1) C0 dX6_readNumber_73 rfl ?_
        refine j_goto (tgt := 78) C0 dX6_readNumber_74 (by decide) ?_
        exact j_zret C0 hr rfl dX6_readNumber_78 (pr1 hf) (congrArg (fun z => (Cc, Bb, z)) (pr2 hf))
      have hf := if_f c7 hf
      refine j_aload_n C0 dX6_readNumber_25 rfl 0 rfl ?_
      refine j_getr (id2 := (15, 7, 0)) C0 fl_X6_32 rl_6_10 id_c14 dX6_readNumber_26 ?_
      refine j_iload_n C0 dX6_readNumber_29 rfl 1 rfl ?_
      refine j_bipush (v := 10) C0 dX6_readNumber_30 rfl ?_
      refine j_aload_n C0 dX6_readNumber_32 rfl 0 rfl ?_
      refine j_getr (id2 := (15, 7, 0)) C0 fl_X6_32 rl_6_10 id_c14 dX6_readNumber_33 ?_
      refine j_iload_n C0 dX6_readNumber_36 rfl 1 rfl ?_
      obtain ⟨h9, hf⟩ := gd_some hf
      refine j_iald (x := (M 7 (y1.toNatClampNeg))) C0 al_15_7 rfl id_m7 h9 (by rw [Nat.zero_add]; rfl) dX6_readNumber_37 ?_
      refine j_imul C0 dX6_readNumber_38 ?_
      refine j_aload_n C0 dX6_readNumber_39 rfl 0 rfl ?_
      refine j_getr (id2 := (15, 6, 0)) C0 fl_X6_29 rl_6_7 id_c14 dX6_readNumber_40 ?_
      refine j_aload_n C0 dX6_readNumber_43 rfl 0 rfl ?_
      refine j_geti (x := (M 8 2)) C0 fl_X6_214 sl_6_9 id_c14 rfl dX6_readNumber_44 ?_
      obtain ⟨h10, hf⟩ := gd_some hf
      refine j_iald (x := (M 6 ((M 8 2).toNatClampNeg))) C0 al_15_6 rfl id_m6 h10 (by rw [Nat.zero_add]; rfl) dX6_readNumber_47 ?_
      refine j_iadd C0 dX6_readNumber_48 ?_
      refine j_bipush (v := 48) C0 dX6_readNumber_49 rfl ?_
      refine j_isub C0 dX6_readNumber_51 ?_
      obtain ⟨h11, hf⟩ := gd_some hf
      obtain ⟨M12, e13, hf⟩ := lt_some hf
      refine j_iast (G' := (Cc, Bb, M12)) C0 al_15_7 rfl id_m7 h11 (by rw [Nat.zero_add]; exact (eM_set e13)) dX6_readNumber_52 ?_
      refine j_aload_n C0 dX6_readNumber_53 rfl 0 rfl ?_
      refine j_dup C0 dX6_readNumber_54 rfl ?_
      refine j_geti (x := (M12 8 2)) C0 fl_X6_214 sl_6_9 id_c14 rfl dX6_readNumber_55 ?_
      refine j_iconst (v := 1) C0 dX6_readNumber_58 rfl ?_
      refine j_iadd C0 dX6_readNumber_59 ?_
      obtain ⟨M14, e15, hf⟩ := lt_some hf
      refine j_puti (G' := (Cc, Bb, M14)) C0 fl_X6_214 pw_6_9 sl_6_9 id_c14 rfl rfl (eM_set e15) dX6_readNumber_60 ?_
      refine j_iinc (v := (y2 + 1)) (lv' := [(2, .int (y2 + 1)), (0, .ref (ad (14, 0, 0))), (1, .int y1)]) C0 dX6_readNumber_63 2 rfl rfl (by decide) rfl ?_
      refine j_goto (tgt := 9) C0 dX6_readNumber_66 (by decide) ?_
      exact j_sub [1, 2, 0] rfl (ih M14 y1 (y2 + 1) hf)
  unfold fM_readNumber at hf
  refine j_aload_n C0 dX6_readNumber_0 rfl 0 rfl ?_
  refine j_getr (id2 := (15, 7, 0)) C0 fl_X6_32 rl_6_10 id_c14 dX6_readNumber_1 ?_
  refine j_iload_n C0 dX6_readNumber_4 rfl 1 rfl ?_
  refine j_iconst (v := 0) C0 dX6_readNumber_5 rfl ?_
  obtain ⟨h1, hf⟩ := gd_some hf
  obtain ⟨M2, e3, hf⟩ := lt_some hf
  refine j_iast (G' := (Cc, Bb, M2)) C0 al_15_7 rfl id_m7 h1 (by rw [Nat.zero_add]; exact (eM_set e3)) dX6_readNumber_6 ?_
  refine j_iconst (v := 0) C0 dX6_readNumber_7 rfl ?_
  refine j_istore_n (lv' := [(2, .int (0 : Int32)), (0, .ref (ad (14, 0, 0))), (1, .int x1)]) C0 dX6_readNumber_8 rfl (by decide) rfl ?_
  exact j_sub [1, 2, 0] rfl (L9 fuel M2 x1 (0 : Int32) hf)

set_option maxHeartbeats 4000000 in
set_option maxRecDepth 100000 in
theorem c_X6_numbersOf {l : Launch} {D : va_G} {ca : Nat → ClassId} {ad : I3 → Nat} (hi : adI ad) {G0 : GS} {x1 : Int32} {r0 : Int32}  (hf : fM_numbersOf x1 = some (r0)) : MT l D ca ad yX6_numbersOf cX6_numbersOf 1 (some .int) 0 0 [.int x1] G0 (some (.int r0)) G0 := by
  refine met_J (lv := [(0, .int x1)]) hi (by decide +kernel) (Nat.le_of_ble_eq_true rfl) rfl (fun p e s m below meth c C0 hr => ?_)
  unfold fM_numbersOf at hf
  refine j_iload_n C0 dX6_numbersOf_0 rfl 0 rfl ?_
  by_cases c1 : x1 = 99
  · have hf := if_t c1 hf
    refine j_lookupEq C0 99 (off := 59) (tgt := 60) c1 dX6_numbersOf_1 (by decide) (by decide) (by decide) ?_
    refine j_iconst (v := 3) C0 dX6_numbersOf_60 rfl ?_
    exact j_iret C0 hr dX6_numbersOf_61 (so hf) rfl
  have hf := if_f c1 hf
  by_cases c2 : x1 = 108
  · have hf := if_t c2 hf
    refine j_lookupEq C0 108 (off := 61) (tgt := 62) c2 dX6_numbersOf_1 (by decide) (by decide) (by decide) ?_
    refine j_iconst (v := 2) C0 dX6_numbersOf_62 rfl ?_
    exact j_iret C0 hr dX6_numbersOf_63 (so hf) rfl
  have hf := if_f c2 hf
  by_cases c3 : x1 = 112
  · have hf := if_t c3 hf
    refine j_lookupEq C0 112 (off := 61) (tgt := 62) c3 dX6_numbersOf_1 (by decide) (by decide) (by decide) ?_
    refine j_iconst (v := 2) C0 dX6_numbersOf_62 rfl ?_
    exact j_iret C0 hr dX6_numbersOf_63 (so hf) rfl
  have hf := if_f c3 hf
  by_cases c4 : x1 = 116
  · have hf := if_t c4 hf
    refine j_lookupEq C0 116 (off := 63) (tgt := 64) c4 dX6_numbersOf_1 (by decide) (by decide) (by decide) ?_
    refine j_iconst (v := 1) C0 dX6_numbersOf_64 rfl ?_
    exact j_iret C0 hr dX6_numbersOf_65 (so hf) rfl
  have hf := if_f c4 hf
  by_cases c5 : x1 = 119
  · have hf := if_t c5 hf
    refine j_lookupEq C0 119 (off := 61) (tgt := 62) c5 dX6_numbersOf_1 (by decide) (by decide) (by decide) ?_
    refine j_iconst (v := 2) C0 dX6_numbersOf_62 rfl ?_
    exact j_iret C0 hr dX6_numbersOf_63 (so hf) rfl
  have hf := if_f c5 hf
  by_cases c6 : x1 = 120
  · have hf := if_t c6 hf
    refine j_lookupEq C0 120 (off := 63) (tgt := 64) c6 dX6_numbersOf_1 (by decide) (by decide) (by decide) ?_
    refine j_iconst (v := 1) C0 dX6_numbersOf_64 rfl ?_
    exact j_iret C0 hr dX6_numbersOf_65 (so hf) rfl
  have hf := if_f c6 hf
  refine j_lookup (off := 65) (tgt := 66) C0 dX6_numbersOf_1 (by decide) ((lv_osw c1 rfl).trans ((lv_osw c2 rfl).trans ((lv_osw c3 rfl).trans ((lv_osw c4 rfl).trans ((lv_osw c5 rfl).trans ((lv_osw c6 rfl).trans (rfl))))))) (by decide) ?_
  refine j_iconst (v := 0) C0 dX6_numbersOf_66 rfl ?_
  exact j_iret C0 hr dX6_numbersOf_67 (so hf) rfl

set_option maxHeartbeats 4000000 in
set_option maxRecDepth 100000 in
theorem c_X6_readOrder {l : Launch} {D : va_G} {ca : Nat → ClassId} {ad : I3 → Nat} (hi : adI ad) {Cc : Nat → Nat → Int32} {Bb : Nat → Fin 9} {M : Nat → Nat → Int32} {r0 : Int32} {M' : Nat → Nat → Int32}  (hf : fM_readOrder M = some (r0, M')) : MT l D ca ad yX6_readOrder cX6_readOrder 4 (some .boolean) 3 66 [.ref (ad (14, 0, 0))] (Cc, Bb, M) (some (.int r0)) (Cc, Bb, M') := by
  refine met_J (lv := [(0, .ref (ad (14, 0, 0)))]) hi (by decide +kernel) (Nat.le_of_ble_eq_true rfl) rfl (fun p e s m below meth c C0 hr => ?_)
  have L37 : ∀ (n : Nat) (M : Nat → Nat → Int32) (y1 : Int32) (y2 : Int32) (y3 : Int32), fM_readOrder_L37 n M y1 y2 y3 = some (r0, M') → J D ca ad p l e ({ frames := 3, cells := 0, slots := 0, locals := 66 }) s m [.ref (ad (14, 0, 0))].toArray below meth c 0 0 (MQ below (post D ca ad (some (.int r0)) (Cc, Bb, M')) [.ref (ad (14, 0, 0))].toArray s 0 0 (adA ad)) 4 (Cc, Bb, M) 37 [(0, .ref (ad (14, 0, 0))), (1, .int y1), (2, .int y2), (3, .int y3)] [] := by
    intro n
    induction n with
    | zero =>
      intro M y1 y2 y3 hf
      exact (none_ne hf).elim
    | succ n ih =>
      intro M y1 y2 y3 hf
      rw [fM_readOrder_L37] at hf
      refine j_iload_n C0 dX6_readOrder_37 rfl 3 rfl ?_
      refine j_iload_n C0 dX6_readOrder_38 rfl 1 rfl ?_
      refine j_icmp_ge (tgt := 75) C0 dX6_readOrder_39 (by decide) (fun c7 => ?_) (fun c7 => ?_)
      · have hf := if_t c7 hf
        refine j_iload_n C0 dX6_readOrder_75 rfl 2 rfl ?_
        refine j_if_eq (tgt := 92) C0 dX6_readOrder_76 (by decide) (fun c8 => ?_) (fun c8 => ?_)
        · have hf := if_t c8 hf
          refine j_iconst (v := 0) C0 dX6_readOrder_92 rfl ?_
          exact j_zret C0 hr rfl dX6_readOrder_93 (pr1 hf) (congrArg (fun z => (Cc, Bb, z)) (pr2 hf))
        have hf := if_f c8 hf
        refine j_aload_n C0 dX6_readOrder_79 rfl 0 rfl ?_
        refine j_bipush (v := 59) C0 dX6_readOrder_80 rfl ?_
        obtain ⟨q9, hcq9, hf⟩ := bd_some hf
        refine j_callV (As := [.int (59 : Int32)]) (rest := []) (stk := [.int q9.1]) (G2 := (Cc, Bb, q9.2)) C0 (c_X6_readSign hi (Cc := Cc) (Bb := Bb)  hcq9) kw_X6_226 bi_X6_readSign bx_X6_readSign id_c14 oc_14 rfl ⟨by decide, by decide⟩ ⟨Nat.zero_le _, Nat.zero_le _⟩ rfl rfl (Nat.le_of_ble_eq_true rfl) rfl rfl dX6_readOrder_82 ?_
        refine j_if_eq (tgt := 92) C0 dX6_readOrder_85 (by decide) (fun c10 => ?_) (fun c10 => ?_)
        · have hf := if_t c10 hf
          refine j_iconst (v := 0) C0 dX6_readOrder_92 rfl ?_
          exact j_zret C0 hr rfl dX6_readOrder_93 (pr1 hf) (congrArg (fun z => (Cc, Bb, z)) (pr2 hf))
        have hf := if_f c10 hf
        refine j_iconst (v := 1) C0 dX6_readOrder_88 rfl ?_
        refine j_goto (tgt := 93) C0 dX6_readOrder_89 (by decide) ?_
        exact j_zret C0 hr rfl dX6_readOrder_93 (pr1 hf) (congrArg (fun z => (Cc, Bb, z)) (pr2 hf))
      have hf := if_f c7 hf
      refine j_iload_n C0 dX6_readOrder_42 rfl 2 rfl ?_
      refine j_if_eq (tgt := 75) C0 dX6_readOrder_43 (by decide) (fun c11 => ?_) (fun c11 => ?_)
      · have hf := if_t c11 hf
        refine j_iload_n C0 dX6_readOrder_75 rfl 2 rfl ?_
        refine j_if_eq (tgt := 92) C0 dX6_readOrder_76 (by decide) (fun c12 => ?_) (fun c12 => ?_)
        · have hf := if_t c12 hf
          refine j_iconst (v := 0) C0 dX6_readOrder_92 rfl ?_
          exact j_zret C0 hr rfl dX6_readOrder_93 (pr1 hf) (congrArg (fun z => (Cc, Bb, z)) (pr2 hf))
        have hf := if_f c12 hf
        refine j_aload_n C0 dX6_readOrder_79 rfl 0 rfl ?_
        refine j_bipush (v := 59) C0 dX6_readOrder_80 rfl ?_
        obtain ⟨q13, hcq13, hf⟩ := bd_some hf
        refine j_callV (As := [.int (59 : Int32)]) (rest := []) (stk := [.int q13.1]) (G2 := (Cc, Bb, q13.2)) C0 (c_X6_readSign hi (Cc := Cc) (Bb := Bb)  hcq13) kw_X6_226 bi_X6_readSign bx_X6_readSign id_c14 oc_14 rfl ⟨by decide, by decide⟩ ⟨Nat.zero_le _, Nat.zero_le _⟩ rfl rfl (Nat.le_of_ble_eq_true rfl) rfl rfl dX6_readOrder_82 ?_
        refine j_if_eq (tgt := 92) C0 dX6_readOrder_85 (by decide) (fun c14 => ?_) (fun c14 => ?_)
        · have hf := if_t c14 hf
          refine j_iconst (v := 0) C0 dX6_readOrder_92 rfl ?_
          exact j_zret C0 hr rfl dX6_readOrder_93 (pr1 hf) (congrArg (fun z => (Cc, Bb, z)) (pr2 hf))
        have hf := if_f c14 hf
        refine j_iconst (v := 1) C0 dX6_readOrder_88 rfl ?_
        refine j_goto (tgt := 93) C0 dX6_readOrder_89 (by decide) ?_
        exact j_zret C0 hr rfl dX6_readOrder_93 (pr1 hf) (congrArg (fun z => (Cc, Bb, z)) (pr2 hf))
      have hf := if_f c11 hf
      refine j_aload_n C0 dX6_readOrder_46 rfl 0 rfl ?_
      refine j_bipush (v := 44) C0 dX6_readOrder_47 rfl ?_
      obtain ⟨q15, hcq15, hf⟩ := bd_some hf
      refine j_callV (As := [.int (44 : Int32)]) (rest := []) (stk := [.int q15.1]) (G2 := (Cc, Bb, q15.2)) C0 (c_X6_readSign hi (Cc := Cc) (Bb := Bb)  hcq15) kw_X6_226 bi_X6_readSign bx_X6_readSign id_c14 oc_14 rfl ⟨by decide, by decide⟩ ⟨Nat.zero_le _, Nat.zero_le _⟩ rfl rfl (Nat.le_of_ble_eq_true rfl) rfl rfl dX6_readOrder_49 ?_
      refine j_if_eq (tgt := 67) C0 dX6_readOrder_52 (by decide) (fun c16 => ?_) (fun c16 => ?_)
      · have hf := if_t c16 hf
        refine j_iconst (v := 0) C0 dX6_readOrder_67 rfl ?_
        refine j_istore_n (lv' := [(2, .int (0 : Int32)), (0, .ref (ad (14, 0, 0))), (1, .int y1), (3, .int y3)]) C0 dX6_readOrder_68 rfl (by decide) rfl ?_
        refine j_iinc (v := (y3 + 1)) (lv' := [(3, .int (y3 + 1)), (2, .int (0 : Int32)), (0, .ref (ad (14, 0, 0))), (1, .int y1)]) C0 dX6_readOrder_69 3 rfl rfl (by decide) rfl ?_
        refine j_goto (tgt := 37) C0 dX6_readOrder_72 (by decide) ?_
        exact j_sub [2, 3, 1, 0] rfl (ih q15.2 y1 (0 : Int32) (y3 + 1) hf)
      have hf := if_f c16 hf
      refine j_aload_n C0 dX6_readOrder_55 rfl 0 rfl ?_
      refine j_iload_n C0 dX6_readOrder_56 rfl 3 rfl ?_
      obtain ⟨q17, hcq17, hf⟩ := bd_some hf
      refine j_callV (As := [.int y3]) (rest := []) (stk := [.int q17.1]) (G2 := (Cc, Bb, q17.2)) C0 (c_X6_readNumber hi (Cc := Cc) (Bb := Bb)  hcq17) kw_X6_223 bi_X6_readNumber bx_X6_readNumber id_c14 oc_14 rfl ⟨by decide, by decide⟩ ⟨Nat.zero_le _, Nat.zero_le _⟩ rfl rfl (Nat.le_of_ble_eq_true rfl) rfl rfl dX6_readOrder_57 ?_
      refine j_if_eq (tgt := 67) C0 dX6_readOrder_60 (by decide) (fun c18 => ?_) (fun c18 => ?_)
      · have hf := if_t c18 hf
        refine j_iconst (v := 0) C0 dX6_readOrder_67 rfl ?_
        refine j_istore_n (lv' := [(2, .int (0 : Int32)), (0, .ref (ad (14, 0, 0))), (1, .int y1), (3, .int y3)]) C0 dX6_readOrder_68 rfl (by decide) rfl ?_
        refine j_iinc (v := (y3 + 1)) (lv' := [(3, .int (y3 + 1)), (2, .int (0 : Int32)), (0, .ref (ad (14, 0, 0))), (1, .int y1)]) C0 dX6_readOrder_69 3 rfl rfl (by decide) rfl ?_
        refine j_goto (tgt := 37) C0 dX6_readOrder_72 (by decide) ?_
        exact j_sub [2, 3, 1, 0] rfl (ih q17.2 y1 (0 : Int32) (y3 + 1) hf)
      have hf := if_f c18 hf
      refine j_iconst (v := 1) C0 dX6_readOrder_63 rfl ?_
      refine j_goto (tgt := 68) C0 dX6_readOrder_64 (by decide) ?_
      refine j_istore_n (lv' := [(2, .int (1 : Int32)), (0, .ref (ad (14, 0, 0))), (1, .int y1), (3, .int y3)]) C0 dX6_readOrder_68 rfl (by decide) rfl ?_
      refine j_iinc (v := (y3 + 1)) (lv' := [(3, .int (y3 + 1)), (2, .int (1 : Int32)), (0, .ref (ad (14, 0, 0))), (1, .int y1)]) C0 dX6_readOrder_69 3 rfl rfl (by decide) rfl ?_
      refine j_goto (tgt := 37) C0 dX6_readOrder_72 (by decide) ?_
      exact j_sub [2, 3, 1, 0] rfl (ih q17.2 y1 (1 : Int32) (y3 + 1) hf)
  unfold fM_readOrder at hf
  refine j_aload_n C0 dX6_readOrder_0 rfl 0 rfl ?_
  refine j_getr (id2 := (15, 6, 0)) C0 fl_X6_29 rl_6_7 id_c14 dX6_readOrder_1 ?_
  refine j_aload_n C0 dX6_readOrder_4 rfl 0 rfl ?_
  refine j_geti (x := (M 8 2)) C0 fl_X6_214 sl_6_9 id_c14 rfl dX6_readOrder_5 ?_
  obtain ⟨h1, hf⟩ := gd_some hf
  refine j_iald (x := (M 6 ((M 8 2).toNatClampNeg))) C0 al_15_6 rfl id_m6 h1 (by rw [Nat.zero_add]; rfl) dX6_readOrder_8 ?_
  obtain ⟨q2, hcq2, hf⟩ := bd_some hf
  refine j_callS (As := [.int (M 6 ((M 8 2).toNatClampNeg))]) (rest := []) (stk := [.int q2]) (G2 := (Cc, Bb, M)) C0 (c_X6_numbersOf hi (G0 := (Cc, Bb, M))  hcq2) kw_X6_220 bi_X6_numbersOf rfl ⟨by decide, by decide⟩ ⟨Nat.zero_le _, Nat.zero_le _⟩ rfl rfl (Nat.le_of_ble_eq_true rfl) rfl rfl dX6_readOrder_9 ?_
  refine j_istore_n (lv' := [(1, .int q2), (0, .ref (ad (14, 0, 0)))]) C0 dX6_readOrder_12 rfl (by decide) rfl ?_
  refine j_iload_n C0 dX6_readOrder_13 rfl 0 rfl ?_
  refine j_if_ne (tgt := 19) C0 dX6_readOrder_14 (by decide) (fun c3 => ?_) (fun c3 => ?_)
  · have hf := if_f c3 hf
    refine j_aload_n C0 dX6_readOrder_19 rfl 1 rfl ?_
    refine j_dup C0 dX6_readOrder_20 rfl ?_
    refine j_geti (x := (M 8 2)) C0 fl_X6_214 sl_6_9 id_c14 rfl dX6_readOrder_21 ?_
    refine j_iconst (v := 1) C0 dX6_readOrder_24 rfl ?_
    refine j_iadd C0 dX6_readOrder_25 ?_
    obtain ⟨M4, e5, hf⟩ := lt_some hf
    refine j_puti (G' := (Cc, Bb, M4)) C0 fl_X6_214 pw_6_9 sl_6_9 id_c14 rfl rfl (eM_set e5) dX6_readOrder_26 ?_
    refine j_aload_n C0 dX6_readOrder_29 rfl 1 rfl ?_
    refine j_iconst (v := 0) C0 dX6_readOrder_30 rfl ?_
    obtain ⟨q6, hcq6, hf⟩ := bd_some hf
    refine j_callV (As := [.int (0 : Int32)]) (rest := []) (stk := [.int q6.1]) (G2 := (Cc, Bb, q6.2)) C0 (c_X6_readNumber hi (Cc := Cc) (Bb := Bb)  hcq6) kw_X6_223 bi_X6_readNumber bx_X6_readNumber id_c14 oc_14 rfl ⟨by decide, by decide⟩ ⟨Nat.zero_le _, Nat.zero_le _⟩ rfl rfl (Nat.le_of_ble_eq_true rfl) rfl rfl dX6_readOrder_31 ?_
    refine j_istore_n (lv' := [(2, .int q6.1), (1, .int q2), (0, .ref (ad (14, 0, 0)))]) C0 dX6_readOrder_34 rfl (by decide) rfl ?_
    refine j_iconst (v := 1) C0 dX6_readOrder_35 rfl ?_
    refine j_istore_n (lv' := [(3, .int (1 : Int32)), (2, .int q6.1), (1, .int q2), (0, .ref (ad (14, 0, 0)))]) C0 dX6_readOrder_36 rfl (by decide) rfl ?_
    exact j_sub [3, 2, 1, 0] rfl (L37 fuel q6.2 q2 q6.1 (1 : Int32) hf)
  have hf := if_t c3 hf
  refine j_iconst (v := 0) C0 dX6_readOrder_17 rfl ?_
  exact j_zret C0 hr rfl dX6_readOrder_18 (pr1 hf) (congrArg (fun z => (Cc, Bb, z)) (pr2 hf))

