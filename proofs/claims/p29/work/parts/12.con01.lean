set_option maxHeartbeats 4000000 in
set_option maxRecDepth 100000 in
theorem c_X1_trueTo {l : Launch} {D : va_G} {ca : Nat → ClassId} {ad : I3 → Nat} (hi : adI ad) {G0 : GS} {j : Nat} {σ : Nat → Int32} {k0 : Nat} {x1 : Int32} {σ' : Nat → Int32} (hj : j < 9) (hk0 : k0 < 5) (hf : fK_trueTo σ k0 x1 = some (σ')) : MT l D ca ad yX1_trueTo cX1_trueTo 2 none 1 20 [.ref (ad (3, j, k0)), .int x1] (eS G0 j σ) none (eS G0 j σ') := by
  refine met_J (lv := [(0, .ref (ad (3, j, k0))), (1, .int x1)]) hi (by decide +kernel) (Nat.le_of_ble_eq_true rfl) rfl (fun p e s m below meth c C0 hr => ?_)
  unfold fK_trueTo at hf
  refine j_aload_n C0 dX1_trueTo_0 rfl 0 rfl ?_
  refine j_iload_n C0 dX1_trueTo_1 rfl 1 rfl ?_
  obtain ⟨σ1, e2, hf⟩ := lt_some hf
  refine j_puti (G' := (eS G0 j σ1)) C0 fl_X1_54 pw_1_14 (sl_1_14 hj hk0) (ia hi (id_3 hj hk0)) rfl rfl (eS_set e2) dX1_trueTo_2 ?_
  refine j_aload_n C0 dX1_trueTo_5 rfl 0 rfl ?_
  refine j_aload_n C0 dX1_trueTo_6 rfl 0 rfl ?_
  obtain ⟨q3, hcq3, hf⟩ := bd_some hf
  refine j_callV (As := []) (rest := [.ref (ad (3, j, k0))]) (stk := [.int q3, .ref (ad (3, j, k0))]) (G2 := (eS G0 j σ1)) C0 (c_X1_dropsCounted hi (G0 := G0) (j := j) hj hk0 hcq3) kw_X1_64 bi_X1_dropsCounted bx_X1_dropsCounted (ia hi (id_3 hj hk0)) oc_3 rfl ⟨by decide, by decide⟩ ⟨Nat.zero_le _, Nat.zero_le _⟩ rfl rfl (Nat.le_of_ble_eq_true rfl) rfl rfl dX1_trueTo_7 ?_
  obtain ⟨σ4, e5, hf⟩ := lt_some hf
  refine j_puti (G' := (eS G0 j σ4)) C0 fl_X1_57 pw_1_15 (sl_1_15 hj hk0) (ia hi (id_3 hj hk0)) rfl rfl (eS_set e5) dX1_trueTo_10 ?_
  refine j_aload_n C0 dX1_trueTo_13 rfl 0 rfl ?_
  refine j_dup C0 dX1_trueTo_14 rfl ?_
  refine j_geti (x := (σ4 (KI k0 11))) C0 fl_X1_51 (sl_1_13 hj hk0) (ia hi (id_3 hj hk0)) eS_get dX1_trueTo_15 ?_
  refine j_iconst (v := 1) C0 dX1_trueTo_18 rfl ?_
  refine j_iadd C0 dX1_trueTo_19 ?_
  obtain ⟨σ6, e7, hf⟩ := lt_some hf
  refine j_puti (G' := (eS G0 j σ6)) C0 fl_X1_51 pw_1_13 (sl_1_13 hj hk0) (ia hi (id_3 hj hk0)) rfl rfl (eS_set e7) dX1_trueTo_20 ?_
  exact j_vret C0 hr dX1_trueTo_23 (congrArg (fun z => (eS G0 j z)) (so hf))

set_option maxHeartbeats 4000000 in
set_option maxRecDepth 100000 in
theorem c_X3_changePitch {l : Launch} {D : va_G} {ca : Nat → ClassId} {ad : I3 → Nat} (hi : adI ad) {G0 : GS} {j : Nat} {σ : Nat → Int32} {x1 : Int32} {x2 : Int32} {r0 : Int32} {σ' : Nat → Int32} (hj : j < 9) (hf : fS_changePitch σ x1 x2 = some (r0, σ')) : MT l D ca ad yX3_changePitch cX3_changePitch 5 (some .int) 3 63 [.ref (ad (1, j, 0)), .int x1, .int x2] (eS G0 j σ) (some (.int r0)) (eS G0 j σ') := by
  refine met_J (lv := [(0, .ref (ad (1, j, 0))), (1, .int x1), (2, .int x2)]) hi (by decide +kernel) (Nat.le_of_ble_eq_true rfl) rfl (fun p e s m below meth c C0 hr => ?_)
  unfold fS_changePitch at hf
  refine j_aload_n C0 dX3_changePitch_0 rfl 0 rfl ?_
  refine j_iload_n C0 dX3_changePitch_1 rfl 1 rfl ?_
  obtain ⟨q1, hcq1, hf⟩ := bd_some hf
  rcases q1 with _ | kq1
  · have hf := onN_none hf
    refine j_callV (As := [.int x1]) (rest := []) (stk := [.null]) (G2 := (eS G0 j σ)) C0 (c_X3_clockAt hi (G0 := G0) (j := j) hj hcq1) kw_X3_85 bi_X3_clockAt bx_X3_clockAt (ia hi (id_1 hj)) oc_1 rfl ⟨by decide, by decide⟩ ⟨Nat.zero_le _, Nat.zero_le _⟩ rfl rfl (Nat.le_of_ble_eq_true rfl) rfl rfl dX3_changePitch_2 ?_
    refine j_astore_nN (lv' := [(3, .null), (0, .ref (ad (1, j, 0))), (1, .int x1), (2, .int x2)]) C0 dX3_changePitch_5 rfl (by decide) rfl ?_
    refine j_aload_nN C0 dX3_changePitch_6 rfl 0 rfl ?_
    refine j_ifnullN (tgt := 22) C0 dX3_changePitch_7 (by decide) ?_
    refine j_ldc (v := -1000001) C0 dX3_changePitch_22 cw_X3_75 ?_
    exact j_iret C0 hr dX3_changePitch_24 (pr1 hf) (congrArg (fun z => (eS G0 j z)) (pr2 hf))
  have hf := onN_some hf
  have hk2 := clockAt_lt hcq1
  refine j_callV (As := [.int x1]) (rest := []) (stk := [.ref (ad (3, j, kq1))]) (G2 := (eS G0 j σ)) C0 (c_X3_clockAt hi (G0 := G0) (j := j) hj hcq1) kw_X3_85 bi_X3_clockAt bx_X3_clockAt (ia hi (id_1 hj)) oc_1 rfl ⟨by decide, by decide⟩ ⟨Nat.zero_le _, Nat.zero_le _⟩ rfl rfl (Nat.le_of_ble_eq_true rfl) rfl rfl dX3_changePitch_2 ?_
  refine j_astore_n (lv' := [(3, .ref (ad (3, j, kq1))), (0, .ref (ad (1, j, 0))), (1, .int x1), (2, .int x2)]) C0 dX3_changePitch_5 rfl (by decide) rfl ?_
  refine j_aload_n C0 dX3_changePitch_6 rfl 0 rfl ?_
  refine j_ifnull C0 dX3_changePitch_7 ?_
  refine j_iload_n C0 dX3_changePitch_10 rfl 3 rfl ?_
  refine j_iconst (v := 1) C0 dX3_changePitch_11 rfl ?_
  refine j_icmp_lt (tgt := 22) C0 dX3_changePitch_12 (by decide) (fun c3 => ?_) (fun c3 => ?_)
  · have hf := if_t c3 hf
    refine j_ldc (v := -1000001) C0 dX3_changePitch_22 cw_X3_75 ?_
    exact j_iret C0 hr dX3_changePitch_24 (pr1 hf) (congrArg (fun z => (eS G0 j z)) (pr2 hf))
  have hf := if_f c3 hf
  refine j_iload_n C0 dX3_changePitch_15 rfl 3 rfl ?_
  refine j_sipush (v := 500) C0 dX3_changePitch_16 rfl ?_
  refine j_icmp_le (tgt := 25) C0 dX3_changePitch_19 (by decide) (fun c4 => ?_) (fun c4 => ?_)
  · have hf := if_t c4 hf
    refine j_aload_n C0 dX3_changePitch_25 rfl 0 rfl ?_
    refine j_geti (x := (σ (KI kq1 2))) C0 fl_X3_121 (sl_1_3 hj hk2) (ia hi (id_3 hj hk2)) eS_get dX3_changePitch_26 ?_
    refine j_istore (lv' := [(4, .int (σ (KI kq1 2))), (3, .ref (ad (3, j, kq1))), (0, .ref (ad (1, j, 0))), (1, .int x1), (2, .int x2)]) C0 dX3_changePitch_29 (by decide) rfl ?_
    refine j_aload_n C0 dX3_changePitch_31 rfl 1 rfl ?_
    refine j_iload_n C0 dX3_changePitch_32 rfl 4 rfl ?_
    obtain ⟨σ5, e6, hf⟩ := lt_some hf
    refine j_puti (G' := (eS G0 j σ5)) C0 fl_X3_121 pw_1_3 (sl_1_3 hj hk2) (ia hi (id_3 hj hk2)) rfl rfl (eS_set e6) dX3_changePitch_33 ?_
    refine j_aload_n C0 dX3_changePitch_36 rfl 1 rfl ?_
    refine j_aload_n C0 dX3_changePitch_37 rfl 2 rfl ?_
    obtain ⟨q7, hcq7, hf⟩ := bd_some hf
    refine j_callV (As := []) (rest := [.ref (ad (3, j, kq1))]) (stk := [.int q7, .ref (ad (3, j, kq1))]) (G2 := (eS G0 j σ5)) C0 (c_X3_trueHour hi (G0 := G0) (j := j) hj hcq7) kw_X3_77 bi_X3_trueHour bx_X3_trueHour (ia hi (id_1 hj)) oc_1 rfl ⟨by decide, by decide⟩ ⟨Nat.zero_le _, Nat.zero_le _⟩ rfl rfl (Nat.le_of_ble_eq_true rfl) rfl rfl dX3_changePitch_38 ?_
    obtain ⟨q8, hcq8, hf⟩ := bd_some hf
    refine j_callV (As := [.int q7]) (rest := []) (stk := []) (G2 := (eS G0 j q8)) C0 (c_X1_trueTo hi (G0 := G0) (j := j) hj hk2 hcq8) kw_X3_124 bi_X1_trueTo bx_X1_trueTo (ia hi (id_3 hj hk2)) oc_3 rfl ⟨by decide, by decide⟩ ⟨Nat.zero_le _, Nat.zero_le _⟩ rfl rfl (Nat.le_of_ble_eq_true rfl) rfl rfl dX3_changePitch_41 ?_
    refine j_iload C0 dX3_changePitch_44 0 rfl ?_
    exact j_iret C0 hr dX3_changePitch_46 (pr1 hf) (congrArg (fun z => (eS G0 j z)) (pr2 hf))
  have hf := if_f c4 hf
  refine j_ldc (v := -1000001) C0 dX3_changePitch_22 cw_X3_75 ?_
  exact j_iret C0 hr dX3_changePitch_24 (pr1 hf) (congrArg (fun z => (eS G0 j z)) (pr2 hf))

set_option maxHeartbeats 4000000 in
set_option maxRecDepth 100000 in
theorem c_X5_pitch {l : Launch} {D : va_G} {ca : Nat → ClassId} {ad : I3 → Nat} (hi : adI ad) {M0 : Nat → Nat → Int32} {X : XS} {x1 : Int32} {x2 : Int32} {r0 : Int32} {X' : XS}  (hf : fX_pitch X x1 x2 = some (r0, X')) : MT l D ca ad yX5_pitch cX5_pitch 3 (some .int) 4 87 [.ref (ad (0, 0, 0)), .int x1, .int x2] (X.1, X.2, M0) (some (.int r0)) (X'.1, X'.2, M0) := by
  refine met_J (lv := [(0, .ref (ad (0, 0, 0))), (1, .int x1), (2, .int x2)]) hi (by decide +kernel) (Nat.le_of_ble_eq_true rfl) rfl (fun p e s m below meth c C0 hr => ?_)
  unfold fX_pitch at hf
  refine j_aload_n C0 dX5_pitch_0 rfl 0 rfl ?_
  refine j_get C0 fl_X5_19 (ia hi id_c0) ⟨_, rfl, rfl⟩ dX5_pitch_1 ?_
  refine j_aload_n C0 dX5_pitch_4 rfl 0 rfl ?_
  refine j_getr (id2 := (1, 0, 0)) C0 fl_X5_10 rl_5_0 (ia hi id_c0) dX5_pitch_5 ?_
  obtain ⟨q1, hcq1, hf⟩ := bd_some hf
  obtain ⟨X2, e3, hf⟩ := lt_some hf
  refine j_callV (As := [.ref (ad (1, 0, 0))]) (rest := []) (stk := []) (G2 := (X2.1, X2.2, M0)) C0 (c_X3_copyFrom hi (R0 := (X.2, M0)) (X.2 0).isLt (by decide) hcq1) kw_X5_40 bi_X3_copyFrom bx_X3_copyFrom (ia hi (id_1 (X.2 0).isLt)) oc_1 rfl ⟨by decide, by decide⟩ ⟨Nat.zero_le _, Nat.zero_le _⟩ rfl rfl (Nat.le_of_ble_eq_true rfl) rfl (by rw [← e3]; try rfl) dX5_pitch_8 ?_
  refine j_aload_n C0 dX5_pitch_11 rfl 0 rfl ?_
  refine j_aload_n C0 dX5_pitch_12 rfl 0 rfl ?_
  refine j_getr (id2 := (1, 0, 0)) C0 fl_X5_10 rl_5_0 (ia hi id_c0) dX5_pitch_13 ?_
  refine j_iload_n C0 dX5_pitch_16 rfl 1 rfl ?_
  refine j_iload_n C0 dX5_pitch_17 rfl 2 rfl ?_
  obtain ⟨q4, hcq4, hf⟩ := bd_some hf
  obtain ⟨X5, e6, hf⟩ := lt_some hf
  refine j_callV (As := [.int x1, .int x2]) (rest := [.ref (ad (0, 0, 0))]) (stk := [.int q4.1, .ref (ad (0, 0, 0))]) (G2 := (X5.1, X5.2, M0)) C0 (c_X3_changePitch hi (G0 := (X2.1, X2.2, M0)) (j := 0) (by decide) hcq4) kw_X5_62 bi_X3_changePitch bx_X3_changePitch (ia hi (id_1 (by decide))) oc_1 (eS_self _ _ _) ⟨by decide, by decide⟩ ⟨Nat.zero_le _, Nat.zero_le _⟩ rfl rfl (Nat.le_of_ble_eq_true rfl) rfl (by rw [← e6]; try rfl) dX5_pitch_18 ?_
  obtain ⟨q7, hcq7, hf⟩ := bd_some hf
  refine j_callV (As := [.int q4.1]) (rest := []) (stk := [.int q7.1]) (G2 := (q7.2.1, q7.2.2, M0)) C0 (c_X5_changed hi (M0 := M0)  hcq7) kw_X5_48 bi_X5_changed bx_X5_changed (ia hi id_c0) oc_0 rfl ⟨by decide, by decide⟩ ⟨Nat.zero_le _, Nat.zero_le _⟩ rfl rfl (Nat.le_of_ble_eq_true rfl) rfl rfl dX5_pitch_21 ?_
  exact j_iret C0 hr dX5_pitch_24 (pr1 hf) (congrArg (fun z => (z.1, z.2, M0)) (pr2 hf))

set_option maxHeartbeats 4000000 in
set_option maxRecDepth 100000 in
theorem c_X1_hourTold {l : Launch} {D : va_G} {ca : Nat → ClassId} {ad : I3 → Nat} (hi : adI ad) {G0 : GS} {j : Nat} {σ : Nat → Int32} {k0 : Nat} {r0 : Int32} (hj : j < 9) (hk0 : k0 < 5) (hf : fK_hourTold σ k0 = some (r0)) : MT l D ca ad yX1_hourTold cX1_hourTold 1 (some .int) 2 43 [.ref (ad (3, j, k0))] (eS G0 j σ) (some (.int r0)) (eS G0 j σ) := by
  refine met_J (lv := [(0, .ref (ad (3, j, k0)))]) hi (by decide +kernel) (Nat.le_of_ble_eq_true rfl) rfl (fun p e s m below meth c C0 hr => ?_)
  unfold fK_hourTold at hf
  refine j_aload_n C0 dX1_hourTold_0 rfl 0 rfl ?_
  refine j_geti (x := (σ (KI k0 13))) C0 fl_X1_54 (sl_1_14 hj hk0) (ia hi (id_3 hj hk0)) eS_get dX1_hourTold_1 ?_
  refine j_aload_n C0 dX1_hourTold_4 rfl 0 rfl ?_
  obtain ⟨q1, hcq1, hf⟩ := bd_some hf
  refine j_callV (As := []) (rest := [.int (σ (KI k0 13))]) (stk := [.int q1, .int (σ (KI k0 13))]) (G2 := (eS G0 j σ)) C0 (c_X1_dropsCounted hi (G0 := G0) (j := j) hj hk0 hcq1) kw_X1_64 bi_X1_dropsCounted bx_X1_dropsCounted (ia hi (id_3 hj hk0)) oc_3 rfl ⟨by decide, by decide⟩ ⟨Nat.zero_le _, Nat.zero_le _⟩ rfl rfl (Nat.le_of_ble_eq_true rfl) rfl rfl dX1_hourTold_5 ?_
  refine j_aload_n C0 dX1_hourTold_8 rfl 0 rfl ?_
  refine j_geti (x := (σ (KI k0 14))) C0 fl_X1_57 (sl_1_15 hj hk0) (ia hi (id_3 hj hk0)) eS_get dX1_hourTold_9 ?_
  refine j_isub C0 dX1_hourTold_12 ?_
  refine j_aload_n C0 dX1_hourTold_13 rfl 0 rfl ?_
  refine j_geti (x := (σ (KI k0 2))) C0 fl_X1_21 (sl_1_3 hj hk0) (ia hi (id_3 hj hk0)) eS_get dX1_hourTold_14 ?_
  obtain ⟨q2, hcq2, hf⟩ := bd_some hf
  refine j_callSN (As := [.int (q1 - (σ (KI k0 14))), .int (σ (KI k0 2))]) (rest := [.int (σ (KI k0 13))]) (stk := [.int q2, .int (σ (KI k0 13))]) (G2 := (eS G0 j σ)) C0 (c_X5_quotient hi (G0 := (eS G0 j σ))  hcq2) kw_X1_67 bi_X5_quotient rfl ⟨by decide, by decide⟩ ⟨Nat.zero_le _, Nat.zero_le _⟩ rfl rfl (Nat.le_of_ble_eq_true rfl) rfl rfl dX1_hourTold_17 ?_
  refine j_iadd C0 dX1_hourTold_20 ?_
  exact j_iret C0 hr dX1_hourTold_21 (so hf) rfl

set_option maxHeartbeats 4000000 in
set_option maxRecDepth 100000 in
theorem c_X3_errorOf {l : Launch} {D : va_G} {ca : Nat → ClassId} {ad : I3 → Nat} (hi : adI ad) {G0 : GS} {j : Nat} {σ : Nat → Int32} {k1 : Nat} {r0 : Int32} (hj : j < 9) (hk1 : k1 < 5) (hf : fS_errorOf σ k1 = some (r0)) : MT l D ca ad yX3_errorOf cX3_errorOf 2 (some .int) 3 63 [.ref (ad (1, j, 0)), .ref (ad (3, j, k1))] (eS G0 j σ) (some (.int r0)) (eS G0 j σ) := by
  refine met_J (lv := [(0, .ref (ad (1, j, 0))), (1, .ref (ad (3, j, k1)))]) hi (by decide +kernel) (Nat.le_of_ble_eq_true rfl) rfl (fun p e s m below meth c C0 hr => ?_)
  unfold fS_errorOf at hf
  refine j_aload_n C0 dX3_errorOf_0 rfl 1 rfl ?_
  obtain ⟨q1, hcq1, hf⟩ := bd_some hf
  refine j_callV (As := []) (rest := []) (stk := [.int q1]) (G2 := (eS G0 j σ)) C0 (c_X1_hourTold hi (G0 := G0) (j := j) hj hk1 hcq1) kw_X3_215 bi_X1_hourTold bx_X1_hourTold (ia hi (id_3 hj hk1)) oc_3 rfl ⟨by decide, by decide⟩ ⟨Nat.zero_le _, Nat.zero_le _⟩ rfl rfl (Nat.le_of_ble_eq_true rfl) rfl rfl dX3_errorOf_1 ?_
  refine j_aload_n C0 dX3_errorOf_4 rfl 0 rfl ?_
  obtain ⟨q2, hcq2, hf⟩ := bd_some hf
  refine j_callV (As := []) (rest := [.int q1]) (stk := [.int q2, .int q1]) (G2 := (eS G0 j σ)) C0 (c_X3_trueHour hi (G0 := G0) (j := j) hj hcq2) kw_X3_77 bi_X3_trueHour bx_X3_trueHour (ia hi (id_1 hj)) oc_1 rfl ⟨by decide, by decide⟩ ⟨Nat.zero_le _, Nat.zero_le _⟩ rfl rfl (Nat.le_of_ble_eq_true rfl) rfl rfl dX3_errorOf_5 ?_
  refine j_isub C0 dX3_errorOf_8 ?_
  exact j_iret C0 hr dX3_errorOf_9 (so hf) rfl

set_option maxHeartbeats 4000000 in
set_option maxRecDepth 100000 in
theorem c_X3_trueClock {l : Launch} {D : va_G} {ca : Nat → ClassId} {ad : I3 → Nat} (hi : adI ad) {G0 : GS} {j : Nat} {σ : Nat → Int32} {x1 : Int32} {r0 : Int32} {σ' : Nat → Int32} (hj : j < 9) (hf : fS_trueClock σ x1 = some (r0, σ')) : MT l D ca ad yX3_trueClock cX3_trueClock 4 (some .int) 4 84 [.ref (ad (1, j, 0)), .int x1] (eS G0 j σ) (some (.int r0)) (eS G0 j σ') := by
  refine met_J (lv := [(0, .ref (ad (1, j, 0))), (1, .int x1)]) hi (by decide +kernel) (Nat.le_of_ble_eq_true rfl) rfl (fun p e s m below meth c C0 hr => ?_)
  unfold fS_trueClock at hf
  refine j_aload_n C0 dX3_trueClock_0 rfl 0 rfl ?_
  refine j_iload_n C0 dX3_trueClock_1 rfl 1 rfl ?_
  obtain ⟨q1, hcq1, hf⟩ := bd_some hf
  rcases q1 with _ | kq1
  · have hf := onN_none hf
    refine j_callV (As := [.int x1]) (rest := []) (stk := [.null]) (G2 := (eS G0 j σ)) C0 (c_X3_clockAt hi (G0 := G0) (j := j) hj hcq1) kw_X3_85 bi_X3_clockAt bx_X3_clockAt (ia hi (id_1 hj)) oc_1 rfl ⟨by decide, by decide⟩ ⟨Nat.zero_le _, Nat.zero_le _⟩ rfl rfl (Nat.le_of_ble_eq_true rfl) rfl rfl dX3_trueClock_2 ?_
    refine j_astore_nN (lv' := [(2, .null), (0, .ref (ad (1, j, 0))), (1, .int x1)]) C0 dX3_trueClock_5 rfl (by decide) rfl ?_
    refine j_aload_nN C0 dX3_trueClock_6 rfl 0 rfl ?_
    refine j_ifnonnullN C0 dX3_trueClock_7 ?_
    refine j_ldc (v := -1000001) C0 dX3_trueClock_10 cw_X3_75 ?_
    exact j_iret C0 hr dX3_trueClock_12 (pr1 hf) (congrArg (fun z => (eS G0 j z)) (pr2 hf))
  have hf := onN_some hf
  have hk2 := clockAt_lt hcq1
  refine j_callV (As := [.int x1]) (rest := []) (stk := [.ref (ad (3, j, kq1))]) (G2 := (eS G0 j σ)) C0 (c_X3_clockAt hi (G0 := G0) (j := j) hj hcq1) kw_X3_85 bi_X3_clockAt bx_X3_clockAt (ia hi (id_1 hj)) oc_1 rfl ⟨by decide, by decide⟩ ⟨Nat.zero_le _, Nat.zero_le _⟩ rfl rfl (Nat.le_of_ble_eq_true rfl) rfl rfl dX3_trueClock_2 ?_
  refine j_astore_n (lv' := [(2, .ref (ad (3, j, kq1))), (0, .ref (ad (1, j, 0))), (1, .int x1)]) C0 dX3_trueClock_5 rfl (by decide) rfl ?_
  refine j_aload_n C0 dX3_trueClock_6 rfl 0 rfl ?_
  refine j_ifnonnull (tgt := 13) C0 dX3_trueClock_7 (by decide) ?_
  refine j_aload_n C0 dX3_trueClock_13 rfl 1 rfl ?_
  refine j_aload_n C0 dX3_trueClock_14 rfl 0 rfl ?_
  obtain ⟨q3, hcq3, hf⟩ := bd_some hf
  refine j_callV (As := [.ref (ad (3, j, kq1))]) (rest := []) (stk := [.int q3]) (G2 := (eS G0 j σ)) C0 (c_X3_errorOf hi (G0 := G0) (j := j) hj hk2 hcq3) kw_X3_127 bi_X3_errorOf bx_X3_errorOf (ia hi (id_1 hj)) oc_1 rfl ⟨by decide, by decide⟩ ⟨Nat.zero_le _, Nat.zero_le _⟩ rfl rfl (Nat.le_of_ble_eq_true rfl) rfl rfl dX3_trueClock_15 ?_
  refine j_istore_n (lv' := [(3, .int q3), (2, .ref (ad (3, j, kq1))), (0, .ref (ad (1, j, 0))), (1, .int x1)]) C0 dX3_trueClock_18 rfl (by decide) rfl ?_
  refine j_aload_n C0 dX3_trueClock_19 rfl 1 rfl ?_
  refine j_aload_n C0 dX3_trueClock_20 rfl 2 rfl ?_
  obtain ⟨q4, hcq4, hf⟩ := bd_some hf
  refine j_callV (As := []) (rest := [.ref (ad (3, j, kq1))]) (stk := [.int q4, .ref (ad (3, j, kq1))]) (G2 := (eS G0 j σ)) C0 (c_X3_trueHour hi (G0 := G0) (j := j) hj hcq4) kw_X3_77 bi_X3_trueHour bx_X3_trueHour (ia hi (id_1 hj)) oc_1 rfl ⟨by decide, by decide⟩ ⟨Nat.zero_le _, Nat.zero_le _⟩ rfl rfl (Nat.le_of_ble_eq_true rfl) rfl rfl dX3_trueClock_21 ?_
  obtain ⟨q5, hcq5, hf⟩ := bd_some hf
  refine j_callV (As := [.int q4]) (rest := []) (stk := []) (G2 := (eS G0 j q5)) C0 (c_X1_trueTo hi (G0 := G0) (j := j) hj hk2 hcq5) kw_X3_124 bi_X1_trueTo bx_X1_trueTo (ia hi (id_3 hj hk2)) oc_3 rfl ⟨by decide, by decide⟩ ⟨Nat.zero_le _, Nat.zero_le _⟩ rfl rfl (Nat.le_of_ble_eq_true rfl) rfl rfl dX3_trueClock_24 ?_
  refine j_iload_n C0 dX3_trueClock_27 rfl 0 rfl ?_
  refine j_sipush (v := 10000) C0 dX3_trueClock_28 rfl ?_
  refine j_iadd C0 dX3_trueClock_31 ?_
  exact j_iret C0 hr dX3_trueClock_32 (pr1 hf) (congrArg (fun z => (eS G0 j z)) (pr2 hf))

set_option maxHeartbeats 4000000 in
set_option maxRecDepth 100000 in
theorem c_X5_trueUp {l : Launch} {D : va_G} {ca : Nat → ClassId} {ad : I3 → Nat} (hi : adI ad) {M0 : Nat → Nat → Int32} {X : XS} {x1 : Int32} {r0 : Int32} {X' : XS}  (hf : fX_trueUp X x1 = some (r0, X')) : MT l D ca ad yX5_trueUp cX5_trueUp 2 (some .int) 5 107 [.ref (ad (0, 0, 0)), .int x1] (X.1, X.2, M0) (some (.int r0)) (X'.1, X'.2, M0) := by
  refine met_J (lv := [(0, .ref (ad (0, 0, 0))), (1, .int x1)]) hi (by decide +kernel) (Nat.le_of_ble_eq_true rfl) rfl (fun p e s m below meth c C0 hr => ?_)
  unfold fX_trueUp at hf
  refine j_aload_n C0 dX5_trueUp_0 rfl 0 rfl ?_
  refine j_get C0 fl_X5_19 (ia hi id_c0) ⟨_, rfl, rfl⟩ dX5_trueUp_1 ?_
  refine j_aload_n C0 dX5_trueUp_4 rfl 0 rfl ?_
  refine j_getr (id2 := (1, 0, 0)) C0 fl_X5_10 rl_5_0 (ia hi id_c0) dX5_trueUp_5 ?_
  obtain ⟨q1, hcq1, hf⟩ := bd_some hf
  obtain ⟨X2, e3, hf⟩ := lt_some hf
  refine j_callV (As := [.ref (ad (1, 0, 0))]) (rest := []) (stk := []) (G2 := (X2.1, X2.2, M0)) C0 (c_X3_copyFrom hi (R0 := (X.2, M0)) (X.2 0).isLt (by decide) hcq1) kw_X5_40 bi_X3_copyFrom bx_X3_copyFrom (ia hi (id_1 (X.2 0).isLt)) oc_1 rfl ⟨by decide, by decide⟩ ⟨Nat.zero_le _, Nat.zero_le _⟩ rfl rfl (Nat.le_of_ble_eq_true rfl) rfl (by rw [← e3]; try rfl) dX5_trueUp_8 ?_
  refine j_aload_n C0 dX5_trueUp_11 rfl 0 rfl ?_
  refine j_aload_n C0 dX5_trueUp_12 rfl 0 rfl ?_
  refine j_getr (id2 := (1, 0, 0)) C0 fl_X5_10 rl_5_0 (ia hi id_c0) dX5_trueUp_13 ?_
  refine j_iload_n C0 dX5_trueUp_16 rfl 1 rfl ?_
  obtain ⟨q4, hcq4, hf⟩ := bd_some hf
  obtain ⟨X5, e6, hf⟩ := lt_some hf
  refine j_callV (As := [.int x1]) (rest := [.ref (ad (0, 0, 0))]) (stk := [.int q4.1, .ref (ad (0, 0, 0))]) (G2 := (X5.1, X5.2, M0)) C0 (c_X3_trueClock hi (G0 := (X2.1, X2.2, M0)) (j := 0) (by decide) hcq4) kw_X5_65 bi_X3_trueClock bx_X3_trueClock (ia hi (id_1 (by decide))) oc_1 (eS_self _ _ _) ⟨by decide, by decide⟩ ⟨Nat.zero_le _, Nat.zero_le _⟩ rfl rfl (Nat.le_of_ble_eq_true rfl) rfl (by rw [← e6]; try rfl) dX5_trueUp_17 ?_
  obtain ⟨q7, hcq7, hf⟩ := bd_some hf
  refine j_callV (As := [.int q4.1]) (rest := []) (stk := [.int q7.1]) (G2 := (q7.2.1, q7.2.2, M0)) C0 (c_X5_changed hi (M0 := M0)  hcq7) kw_X5_48 bi_X5_changed bx_X5_changed (ia hi id_c0) oc_0 rfl ⟨by decide, by decide⟩ ⟨Nat.zero_le _, Nat.zero_le _⟩ rfl rfl (Nat.le_of_ble_eq_true rfl) rfl rfl dX5_trueUp_20 ?_
  exact j_iret C0 hr dX5_trueUp_23 (pr1 hf) (congrArg (fun z => (z.1, z.2, M0)) (pr2 hf))

set_option maxHeartbeats 4000000 in
set_option maxRecDepth 100000 in
theorem c_X1_nextDrip {l : Launch} {D : va_G} {ca : Nat → ClassId} {ad : I3 → Nat} (hi : adI ad) {G0 : GS} {j : Nat} {σ : Nat → Int32} {k0 : Nat} {r0 : Int32} (hj : j < 9) (hk0 : k0 < 5) (hf : fK_nextDrip σ k0 = some (r0)) : MT l D ca ad yX1_nextDrip cX1_nextDrip 1 (some .int) 1 21 [.ref (ad (3, j, k0))] (eS G0 j σ) (some (.int r0)) (eS G0 j σ) := by
  refine met_J (lv := [(0, .ref (ad (3, j, k0)))]) hi (by decide +kernel) (Nat.le_of_ble_eq_true rfl) rfl (fun p e s m below meth c C0 hr => ?_)
  unfold fK_nextDrip at hf
  refine j_aload_n C0 dX1_nextDrip_0 rfl 0 rfl ?_
  refine j_geti (x := (σ (KI k0 3))) C0 fl_X1_27 (sl_1_5 hj hk0) (ia hi (id_3 hj hk0)) eS_get dX1_nextDrip_1 ?_
  refine j_aload_n C0 dX1_nextDrip_4 rfl 0 rfl ?_
  refine j_geti (x := (σ (KI k0 1))) C0 fl_X1_18 (sl_1_2 hj hk0) (ia hi (id_3 hj hk0)) eS_get dX1_nextDrip_5 ?_
  refine j_aload_n C0 dX1_nextDrip_8 rfl 0 rfl ?_
  refine j_geti (x := (σ (KI k0 1))) C0 fl_X1_18 (sl_1_2 hj hk0) (ia hi (id_3 hj hk0)) eS_get dX1_nextDrip_9 ?_
  refine j_aload_n C0 dX1_nextDrip_12 rfl 0 rfl ?_
  refine j_geti (x := (σ (KI k0 3))) C0 fl_X1_27 (sl_1_5 hj hk0) (ia hi (id_3 hj hk0)) eS_get dX1_nextDrip_13 ?_
  refine j_imul C0 dX1_nextDrip_16 ?_
  refine j_sipush (v := 1000) C0 dX1_nextDrip_17 rfl ?_
  refine j_idiv C0 dX1_nextDrip_20 (by decide) ?_
  refine j_iadd C0 dX1_nextDrip_21 ?_
  obtain ⟨q1, hcq1, hf⟩ := bd_some hf
  refine j_callS (As := [.int (σ (KI k0 3)), .int ((σ (KI k0 1)) + (((σ (KI k0 1)) * (σ (KI k0 3))) / (1000 : Int32)))]) (rest := []) (stk := [.int q1]) (G2 := (eS G0 j σ)) C0 (c_J9_min_7cf53 hi (G0 := (eS G0 j σ))  hcq1) kw_X1_71 bi_J9_min_7cf53 rfl ⟨by decide, by decide⟩ ⟨Nat.zero_le _, Nat.zero_le _⟩ rfl rfl (Nat.le_of_ble_eq_true rfl) rfl rfl dX1_nextDrip_22 ?_
  exact j_iret C0 hr dX1_nextDrip_25 (so hf) rfl

set_option maxHeartbeats 4000000 in
set_option maxRecDepth 100000 in
theorem c_X1_letThrough {l : Launch} {D : va_G} {ca : Nat → ClassId} {ad : I3 → Nat} (hi : adI ad) {G0 : GS} {j : Nat} {σ : Nat → Int32} {k0 : Nat} {r0 : Int32} {σ' : Nat → Int32} (hj : j < 9) (hk0 : k0 < 5) (hf : fK_letThrough σ k0 = some (r0, σ')) : MT l D ca ad yX1_letThrough cX1_letThrough 2 (some .int) 2 41 [.ref (ad (3, j, k0))] (eS G0 j σ) (some (.int r0)) (eS G0 j σ') := by
  refine met_J (lv := [(0, .ref (ad (3, j, k0)))]) hi (by decide +kernel) (Nat.le_of_ble_eq_true rfl) rfl (fun p e s m below meth c C0 hr => ?_)
  unfold fK_letThrough at hf
  refine j_aload_n C0 dX1_letThrough_0 rfl 0 rfl ?_
  obtain ⟨q1, hcq1, hf⟩ := bd_some hf
  refine j_callV (As := []) (rest := []) (stk := [.int q1]) (G2 := (eS G0 j σ)) C0 (c_X1_nextDrip hi (G0 := G0) (j := j) hj hk0 hcq1) kw_X1_60 bi_X1_nextDrip bx_X1_nextDrip (ia hi (id_3 hj hk0)) oc_3 rfl ⟨by decide, by decide⟩ ⟨Nat.zero_le _, Nat.zero_le _⟩ rfl rfl (Nat.le_of_ble_eq_true rfl) rfl rfl dX1_letThrough_1 ?_
  refine j_istore_n (lv' := [(1, .int q1), (0, .ref (ad (3, j, k0)))]) C0 dX1_letThrough_4 rfl (by decide) rfl ?_
  refine j_aload_n C0 dX1_letThrough_5 rfl 1 rfl ?_
  refine j_dup C0 dX1_letThrough_6 rfl ?_
  refine j_geti (x := (σ (KI k0 3))) C0 fl_X1_27 (sl_1_5 hj hk0) (ia hi (id_3 hj hk0)) eS_get dX1_letThrough_7 ?_
  refine j_iload_n C0 dX1_letThrough_10 rfl 0 rfl ?_
  refine j_isub C0 dX1_letThrough_11 ?_
  obtain ⟨σ2, e3, hf⟩ := lt_some hf
  refine j_puti (G' := (eS G0 j σ2)) C0 fl_X1_27 pw_1_5 (sl_1_5 hj hk0) (ia hi (id_3 hj hk0)) rfl rfl (eS_set e3) dX1_letThrough_12 ?_
  refine j_aload_n C0 dX1_letThrough_15 rfl 1 rfl ?_
  refine j_dup C0 dX1_letThrough_16 rfl ?_
  refine j_geti (x := (σ2 (KI k0 6))) C0 fl_X1_33 (sl_1_7 hj hk0) (ia hi (id_3 hj hk0)) eS_get dX1_letThrough_17 ?_
  refine j_iload_n C0 dX1_letThrough_20 rfl 0 rfl ?_
  refine j_iadd C0 dX1_letThrough_21 ?_
  obtain ⟨σ4, e5, hf⟩ := lt_some hf
  refine j_puti (G' := (eS G0 j σ4)) C0 fl_X1_33 pw_1_7 (sl_1_7 hj hk0) (ia hi (id_3 hj hk0)) rfl rfl (eS_set e5) dX1_letThrough_22 ?_
  refine j_aload_n C0 dX1_letThrough_25 rfl 1 rfl ?_
  refine j_dup C0 dX1_letThrough_26 rfl ?_
  refine j_geti (x := (σ4 (KI k0 7))) C0 fl_X1_36 (sl_1_8 hj hk0) (ia hi (id_3 hj hk0)) eS_get dX1_letThrough_27 ?_
  refine j_iload_n C0 dX1_letThrough_30 rfl 0 rfl ?_
  refine j_iadd C0 dX1_letThrough_31 ?_
  obtain ⟨σ6, e7, hf⟩ := lt_some hf
  refine j_puti (G' := (eS G0 j σ6)) C0 fl_X1_36 pw_1_8 (sl_1_8 hj hk0) (ia hi (id_3 hj hk0)) rfl rfl (eS_set e7) dX1_letThrough_32 ?_
  refine j_iload_n C0 dX1_letThrough_35 rfl 0 rfl ?_
  exact j_iret C0 hr dX1_letThrough_36 (pr1 hf) (congrArg (fun z => (eS G0 j z)) (pr2 hf))

set_option maxHeartbeats 4000000 in
set_option maxRecDepth 100000 in
theorem c_X3_goOn {l : Launch} {D : va_G} {ca : Nat → ClassId} {ad : I3 → Nat} (hi : adI ad) {G0 : GS} {j : Nat} {σ : Nat → Int32} {k1 : Nat} {x2 : Int32} {σ' : Nat → Int32} (hj : j < 9) (hk1 : k1 < 5) (hf : fS_goOn σ k1 x2 = some (σ')) : MT l D ca ad yX3_goOn cX3_goOn 4 none 2 44 [.ref (ad (1, j, 0)), .ref (ad (3, j, k1)), .int x2] (eS G0 j σ) none (eS G0 j σ') := by
  refine met_J (lv := [(0, .ref (ad (1, j, 0))), (1, .ref (ad (3, j, k1))), (2, .int x2)]) hi (by decide +kernel) (Nat.le_of_ble_eq_true rfl) rfl (fun p e s m below meth c C0 hr => ?_)
  unfold fS_goOn at hf
  refine j_aload_n C0 dX3_goOn_0 rfl 1 rfl ?_
  refine j_geti (x := (σ (KI k1 5))) C0 fl_X3_93 (sl_1_4 hj hk1) (ia hi (id_3 hj hk1)) eS_get dX3_goOn_1 ?_
  refine j_aload_n C0 dX3_goOn_4 rfl 1 rfl ?_
  refine j_get C0 fl_X3_194 (ia hi (id_3 hj hk1)) ⟨_, rfl, rfl⟩ dX3_goOn_5 ?_
  refine j_icmp_ne (tgt := 15) C0 dX3_goOn_8 (by decide) (fun c1 => ?_) (fun c1 => ?_)
  · have hf := if_f c1 hf
    refine j_aload_n C0 dX3_goOn_15 rfl 0 rfl ?_
    refine j_aload_n C0 dX3_goOn_16 rfl 1 rfl ?_
    refine j_geti (x := (σ (KI k1 5))) C0 fl_X3_93 (sl_1_4 hj hk1) (ia hi (id_3 hj hk1)) eS_get dX3_goOn_17 ?_
    obtain ⟨q2, hcq2, hf⟩ := bd_some hf
    rcases q2 with _ | kq2
    · have hf := onN_none hf
      refine j_callV (As := [.int (σ (KI k1 5))]) (rest := []) (stk := [.null]) (G2 := (eS G0 j σ)) C0 (c_X3_clockAt hi (G0 := G0) (j := j) hj hcq2) kw_X3_85 bi_X3_clockAt bx_X3_clockAt (ia hi (id_1 hj)) oc_1 rfl ⟨by decide, by decide⟩ ⟨Nat.zero_le _, Nat.zero_le _⟩ rfl rfl (Nat.le_of_ble_eq_true rfl) rfl rfl dX3_goOn_20 ?_
      refine j_astore_nN (lv' := [(3, .null), (0, .ref (ad (1, j, 0))), (1, .ref (ad (3, j, k1))), (2, .int x2)]) C0 dX3_goOn_23 rfl (by decide) rfl ?_
      refine j_aload_nN C0 dX3_goOn_24 rfl 0 rfl ?_
      refine j_ifnonnullN C0 dX3_goOn_25 ?_
      refine j_aload_n C0 dX3_goOn_28 rfl 1 rfl ?_
      refine j_dup C0 dX3_goOn_29 rfl ?_
      refine j_geti (x := (σ 8)) C0 fl_X3_54 (sl_3_6 hj) (ia hi (id_1 hj)) eS_get dX3_goOn_30 ?_
      refine j_iload_n C0 dX3_goOn_33 rfl 3 rfl ?_
      refine j_iadd C0 dX3_goOn_34 ?_
      obtain ⟨σ3, e4, hf⟩ := lt_some hf
      refine j_puti (G' := (eS G0 j σ3)) C0 fl_X3_54 pw_3_6 (sl_3_6 hj) (ia hi (id_1 hj)) rfl rfl (eS_set e4) dX3_goOn_35 ?_
      refine j_goto (tgt := 48) C0 dX3_goOn_38 (by decide) ?_
      exact j_vret C0 hr dX3_goOn_48 (congrArg (fun z => (eS G0 j z)) (so hf))
    have hf := onN_some hf
    have hk5 := clockAt_lt hcq2
    refine j_callV (As := [.int (σ (KI k1 5))]) (rest := []) (stk := [.ref (ad (3, j, kq2))]) (G2 := (eS G0 j σ)) C0 (c_X3_clockAt hi (G0 := G0) (j := j) hj hcq2) kw_X3_85 bi_X3_clockAt bx_X3_clockAt (ia hi (id_1 hj)) oc_1 rfl ⟨by decide, by decide⟩ ⟨Nat.zero_le _, Nat.zero_le _⟩ rfl rfl (Nat.le_of_ble_eq_true rfl) rfl rfl dX3_goOn_20 ?_
    refine j_astore_n (lv' := [(3, .ref (ad (3, j, kq2))), (0, .ref (ad (1, j, 0))), (1, .ref (ad (3, j, k1))), (2, .int x2)]) C0 dX3_goOn_23 rfl (by decide) rfl ?_
    refine j_aload_n C0 dX3_goOn_24 rfl 0 rfl ?_
    refine j_ifnonnull (tgt := 41) C0 dX3_goOn_25 (by decide) ?_
    refine j_aload_n C0 dX3_goOn_41 rfl 1 rfl ?_
    refine j_aload_n C0 dX3_goOn_42 rfl 0 rfl ?_
    refine j_iload_n C0 dX3_goOn_43 rfl 3 rfl ?_
    obtain ⟨q6, hcq6, hf⟩ := bd_some hf
    refine j_callV (As := [.ref (ad (3, j, kq2)), .int x2]) (rest := []) (stk := [.int q6.1]) (G2 := (eS G0 j q6.2)) C0 (c_X3_enterUpper hi (G0 := G0) (j := j) hj hk5 hcq6) kw_X3_115 bi_X3_enterUpper bx_X3_enterUpper (ia hi (id_1 hj)) oc_1 rfl ⟨by decide, by decide⟩ ⟨Nat.zero_le _, Nat.zero_le _⟩ rfl rfl (Nat.le_of_ble_eq_true rfl) rfl rfl dX3_goOn_44 ?_
    refine j_pop C0 dX3_goOn_47 rfl ?_
    exact j_vret C0 hr dX3_goOn_48 (congrArg (fun z => (eS G0 j z)) (so hf))
  have hf := if_t c1 hf
  refine j_null C0 dX3_goOn_11 ?_
  refine j_goto (tgt := 23) C0 dX3_goOn_12 (by decide) ?_
  refine j_astore_nN (lv' := [(3, .null), (0, .ref (ad (1, j, 0))), (1, .ref (ad (3, j, k1))), (2, .int x2)]) C0 dX3_goOn_23 rfl (by decide) rfl ?_
  refine j_aload_nN C0 dX3_goOn_24 rfl 0 rfl ?_
  refine j_ifnonnullN C0 dX3_goOn_25 ?_
  refine j_aload_n C0 dX3_goOn_28 rfl 1 rfl ?_
  refine j_dup C0 dX3_goOn_29 rfl ?_
  refine j_geti (x := (σ 8)) C0 fl_X3_54 (sl_3_6 hj) (ia hi (id_1 hj)) eS_get dX3_goOn_30 ?_
  refine j_iload_n C0 dX3_goOn_33 rfl 3 rfl ?_
  refine j_iadd C0 dX3_goOn_34 ?_
  obtain ⟨σ7, e8, hf⟩ := lt_some hf
  refine j_puti (G' := (eS G0 j σ7)) C0 fl_X3_54 pw_3_6 (sl_3_6 hj) (ia hi (id_1 hj)) rfl rfl (eS_set e8) dX3_goOn_35 ?_
  refine j_goto (tgt := 48) C0 dX3_goOn_38 (by decide) ?_
  exact j_vret C0 hr dX3_goOn_48 (congrArg (fun z => (eS G0 j z)) (so hf))

set_option maxHeartbeats 4000000 in
set_option maxRecDepth 100000 in
theorem c_X3_strokeOf {l : Launch} {D : va_G} {ca : Nat → ClassId} {ad : I3 → Nat} (hi : adI ad) {G0 : GS} {j : Nat} {σ : Nat → Int32} {k1 : Nat} {r0 : Int32} {σ' : Nat → Int32} (hj : j < 9) (hk1 : k1 < 5) (hf : fS_strokeOf σ k1 = some (r0, σ')) : MT l D ca ad yX3_strokeOf cX3_strokeOf 3 (some .int) 0 0 [.ref (ad (1, j, 0)), .ref (ad (3, j, k1))] (eS G0 j σ) (some (.int r0)) (eS G0 j σ') := by
  refine met_J (lv := [(0, .ref (ad (1, j, 0))), (1, .ref (ad (3, j, k1)))]) hi (by decide +kernel) (Nat.le_of_ble_eq_true rfl) rfl (fun p e s m below meth c C0 hr => ?_)
  unfold fS_strokeOf at hf
  refine j_aload_n C0 dX3_strokeOf_0 rfl 1 rfl ?_
  refine j_geti (x := (σ (KI k1 4))) C0 fl_X3_164 (sl_1_6 hj hk1) (ia hi (id_3 hj hk1)) eS_get dX3_strokeOf_1 ?_
  refine j_aload_n C0 dX3_strokeOf_4 rfl 0 rfl ?_
  refine j_getr (id2 := (4, j, 0)) C0 fl_X3_20 rl_3_1 (ia hi (id_1 hj)) dX3_strokeOf_5 ?_
  refine j_geti (x := (σ 1)) C0 fl_X3_185 (sl_2_1 hj) (ia hi (id_4 hj)) eS_get dX3_strokeOf_8 ?_
  refine j_icmp_ge (tgt := 16) C0 dX3_strokeOf_11 (by decide) (fun c1 => ?_) (fun c1 => ?_)
  · have hf := if_t c1 hf
    refine j_aload_n C0 dX3_strokeOf_16 rfl 1 rfl ?_
    refine j_geti (x := (σ (KI k1 4))) C0 fl_X3_164 (sl_1_6 hj hk1) (ia hi (id_3 hj hk1)) eS_get dX3_strokeOf_17 ?_
    refine j_istore_n (lv' := [(2, .int (σ (KI k1 4))), (0, .ref (ad (1, j, 0))), (1, .ref (ad (3, j, k1)))]) C0 dX3_strokeOf_20 rfl (by decide) rfl ?_
    refine j_aload_n C0 dX3_strokeOf_21 rfl 2 rfl ?_
    refine j_iconst (v := 0) C0 dX3_strokeOf_22 rfl ?_
    obtain ⟨σ2, e3, hf⟩ := lt_some hf
    refine j_puti (G' := (eS G0 j σ2)) C0 fl_X3_164 pw_1_6 (sl_1_6 hj hk1) (ia hi (id_3 hj hk1)) rfl rfl (eS_set e3) dX3_strokeOf_23 ?_
    refine j_aload_n C0 dX3_strokeOf_26 rfl 2 rfl ?_
    refine j_dup C0 dX3_strokeOf_27 rfl ?_
    refine j_geti (x := (σ2 (KI k1 8))) C0 fl_X3_188 (sl_1_10 hj hk1) (ia hi (id_3 hj hk1)) eS_get dX3_strokeOf_28 ?_
    refine j_iconst (v := 1) C0 dX3_strokeOf_31 rfl ?_
    refine j_iadd C0 dX3_strokeOf_32 ?_
    obtain ⟨σ4, e5, hf⟩ := lt_some hf
    refine j_puti (G' := (eS G0 j σ4)) C0 fl_X3_188 pw_1_10 (sl_1_10 hj hk1) (ia hi (id_3 hj hk1)) rfl rfl (eS_set e5) dX3_strokeOf_33 ?_
    refine j_aload_n C0 dX3_strokeOf_36 rfl 2 rfl ?_
    refine j_dup C0 dX3_strokeOf_37 rfl ?_
    refine j_geti (x := (σ4 (KI k1 9))) C0 fl_X3_191 (sl_1_11 hj hk1) (ia hi (id_3 hj hk1)) eS_get dX3_strokeOf_38 ?_
    refine j_aload_n C0 dX3_strokeOf_41 rfl 1 rfl ?_
    refine j_getr (id2 := (4, j, 0)) C0 fl_X3_20 rl_3_1 (ia hi (id_1 hj)) dX3_strokeOf_42 ?_
    refine j_geti (x := (σ4 1)) C0 fl_X3_185 (sl_2_1 hj) (ia hi (id_4 hj)) eS_get dX3_strokeOf_45 ?_
    refine j_iadd C0 dX3_strokeOf_48 ?_
    obtain ⟨σ6, e7, hf⟩ := lt_some hf
    refine j_puti (G' := (eS G0 j σ6)) C0 fl_X3_191 pw_1_11 (sl_1_11 hj hk1) (ia hi (id_3 hj hk1)) rfl rfl (eS_set e7) dX3_strokeOf_49 ?_
    refine j_aload_n C0 dX3_strokeOf_52 rfl 1 rfl ?_
    refine j_dup C0 dX3_strokeOf_53 rfl ?_
    refine j_geti (x := (σ6 13)) C0 fl_X3_72 (sl_3_12 hj) (ia hi (id_1 hj)) eS_get dX3_strokeOf_54 ?_
    refine j_iload_n C0 dX3_strokeOf_57 rfl 0 rfl ?_
    refine j_iadd C0 dX3_strokeOf_58 ?_
    obtain ⟨σ8, e9, hf⟩ := lt_some hf
    refine j_puti (G' := (eS G0 j σ8)) C0 fl_X3_72 pw_3_12 (sl_3_12 hj) (ia hi (id_1 hj)) rfl rfl (eS_set e9) dX3_strokeOf_59 ?_
    refine j_iload_n C0 dX3_strokeOf_62 rfl 0 rfl ?_
    exact j_iret C0 hr dX3_strokeOf_63 (pr1 hf) (congrArg (fun z => (eS G0 j z)) (pr2 hf))
  have hf := if_f c1 hf
  refine j_iconst (v := 0) C0 dX3_strokeOf_14 rfl ?_
  exact j_iret C0 hr dX3_strokeOf_15 (pr1 hf) (congrArg (fun z => (eS G0 j z)) (pr2 hf))

set_option maxHeartbeats 4000000 in
set_option maxRecDepth 100000 in
theorem c_X1_wearHole {l : Launch} {D : va_G} {ca : Nat → ClassId} {ad : I3 → Nat} (hi : adI ad) {G0 : GS} {j : Nat} {σ : Nat → Int32} {k0 : Nat} {x1 : Int32} {σ' : Nat → Int32} (hj : j < 9) (hk0 : k0 < 5) (hf : fK_wearHole σ k0 x1 = some (σ')) : MT l D ca ad yX1_wearHole cX1_wearHole 4 none 2 43 [.ref (ad (3, j, k0)), .int x1] (eS G0 j σ) none (eS G0 j σ') := by
  refine met_J (lv := [(0, .ref (ad (3, j, k0))), (1, .int x1)]) hi (by decide +kernel) (Nat.le_of_ble_eq_true rfl) rfl (fun p e s m below meth c C0 hr => ?_)
  unfold fK_wearHole at hf
  refine j_aload_n C0 dX1_wearHole_0 rfl 0 rfl ?_
  refine j_geti (x := (σ (KI k0 7))) C0 fl_X1_36 (sl_1_8 hj hk0) (ia hi (id_3 hj hk0)) eS_get dX1_wearHole_1 ?_
  refine j_iload_n C0 dX1_wearHole_4 rfl 1 rfl ?_
  obtain ⟨q1, hcq1, hf⟩ := bd_some hf
  refine j_callSN (As := [.int (σ (KI k0 7)), .int x1]) (rest := []) (stk := [.int q1]) (G2 := (eS G0 j σ)) C0 (c_X5_quotient hi (G0 := (eS G0 j σ))  hcq1) kw_X1_67 bi_X5_quotient rfl ⟨by decide, by decide⟩ ⟨Nat.zero_le _, Nat.zero_le _⟩ rfl rfl (Nat.le_of_ble_eq_true rfl) rfl rfl dX1_wearHole_5 ?_
  refine j_istore_n (lv' := [(2, .int q1), (0, .ref (ad (3, j, k0))), (1, .int x1)]) C0 dX1_wearHole_8 rfl (by decide) rfl ?_
  refine j_iload_n C0 dX1_wearHole_9 rfl 0 rfl ?_
  refine j_bipush (v := 60) C0 dX1_wearHole_10 rfl ?_
  refine j_aload_n C0 dX1_wearHole_12 rfl 1 rfl ?_
  refine j_geti (x := (σ (KI k0 1))) C0 fl_X1_18 (sl_1_2 hj hk0) (ia hi (id_3 hj hk0)) eS_get dX1_wearHole_13 ?_
  refine j_isub C0 dX1_wearHole_16 ?_
  obtain ⟨q2, hcq2, hf⟩ := bd_some hf
  refine j_callS (As := [.int q1, .int ((60 : Int32) - (σ (KI k0 1)))]) (rest := []) (stk := [.int q2]) (G2 := (eS G0 j σ)) C0 (c_J9_min_7cf53 hi (G0 := (eS G0 j σ))  hcq2) kw_X1_71 bi_J9_min_7cf53 rfl ⟨by decide, by decide⟩ ⟨Nat.zero_le _, Nat.zero_le _⟩ rfl rfl (Nat.le_of_ble_eq_true rfl) rfl rfl dX1_wearHole_17 ?_
  refine j_istore_n (lv' := [(3, .int q2), (2, .int q1), (0, .ref (ad (3, j, k0))), (1, .int x1)]) C0 dX1_wearHole_20 rfl (by decide) rfl ?_
  refine j_aload_n C0 dX1_wearHole_21 rfl 2 rfl ?_
  refine j_dup C0 dX1_wearHole_22 rfl ?_
  refine j_geti (x := (σ (KI k0 7))) C0 fl_X1_36 (sl_1_8 hj hk0) (ia hi (id_3 hj hk0)) eS_get dX1_wearHole_23 ?_
  refine j_iload_n C0 dX1_wearHole_26 rfl 1 rfl ?_
  refine j_iload_n C0 dX1_wearHole_27 rfl 3 rfl ?_
  refine j_imul C0 dX1_wearHole_28 ?_
  refine j_isub C0 dX1_wearHole_29 ?_
  obtain ⟨σ3, e4, hf⟩ := lt_some hf
  refine j_puti (G' := (eS G0 j σ3)) C0 fl_X1_36 pw_1_8 (sl_1_8 hj hk0) (ia hi (id_3 hj hk0)) rfl rfl (eS_set e4) dX1_wearHole_30 ?_
  refine j_aload_n C0 dX1_wearHole_33 rfl 2 rfl ?_
  refine j_dup C0 dX1_wearHole_34 rfl ?_
  refine j_geti (x := (σ3 (KI k0 1))) C0 fl_X1_18 (sl_1_2 hj hk0) (ia hi (id_3 hj hk0)) eS_get dX1_wearHole_35 ?_
  refine j_iload_n C0 dX1_wearHole_38 rfl 0 rfl ?_
  refine j_iadd C0 dX1_wearHole_39 ?_
  obtain ⟨σ5, e6, hf⟩ := lt_some hf
  refine j_puti (G' := (eS G0 j σ5)) C0 fl_X1_18 pw_1_2 (sl_1_2 hj hk0) (ia hi (id_3 hj hk0)) rfl rfl (eS_set e6) dX1_wearHole_40 ?_
  refine j_aload_n C0 dX1_wearHole_43 rfl 2 rfl ?_
  refine j_dup C0 dX1_wearHole_44 rfl ?_
  refine j_geti (x := (σ5 (KI k0 12))) C0 fl_X1_39 (sl_1_9 hj hk0) (ia hi (id_3 hj hk0)) eS_get dX1_wearHole_45 ?_
  refine j_iload_n C0 dX1_wearHole_48 rfl 0 rfl ?_
  refine j_iadd C0 dX1_wearHole_49 ?_
  obtain ⟨σ7, e8, hf⟩ := lt_some hf
  refine j_puti (G' := (eS G0 j σ7)) C0 fl_X1_39 pw_1_9 (sl_1_9 hj hk0) (ia hi (id_3 hj hk0)) rfl rfl (eS_set e8) dX1_wearHole_50 ?_
  exact j_vret C0 hr dX1_wearHole_53 (congrArg (fun z => (eS G0 j z)) (so hf))

set_option maxHeartbeats 4000000 in
set_option maxRecDepth 100000 in
theorem c_X3_dripOf {l : Launch} {D : va_G} {ca : Nat → ClassId} {ad : I3 → Nat} (hi : adI ad) {G0 : GS} {j : Nat} {σ : Nat → Int32} {k1 : Nat} {r0 : Int32} {σ' : Nat → Int32} (hj : j < 9) (hk1 : k1 < 5) (hf : fS_dripOf σ k1 = some (r0, σ')) : MT l D ca ad yX3_dripOf cX3_dripOf 4 (some .int) 3 67 [.ref (ad (1, j, 0)), .ref (ad (3, j, k1))] (eS G0 j σ) (some (.int r0)) (eS G0 j σ') := by
  refine met_J (lv := [(0, .ref (ad (1, j, 0))), (1, .ref (ad (3, j, k1)))]) hi (by decide +kernel) (Nat.le_of_ble_eq_true rfl) rfl (fun p e s m below meth c C0 hr => ?_)
  unfold fS_dripOf at hf
  refine j_aload_n C0 dX3_dripOf_0 rfl 1 rfl ?_
  obtain ⟨q1, hcq1, hf⟩ := bd_some hf
  refine j_callV (As := []) (rest := []) (stk := [.int q1.1]) (G2 := (eS G0 j q1.2)) C0 (c_X1_letThrough hi (G0 := G0) (j := j) hj hk1 hcq1) kw_X3_157 bi_X1_letThrough bx_X1_letThrough (ia hi (id_3 hj hk1)) oc_3 rfl ⟨by decide, by decide⟩ ⟨Nat.zero_le _, Nat.zero_le _⟩ rfl rfl (Nat.le_of_ble_eq_true rfl) rfl rfl dX3_dripOf_1 ?_
  refine j_istore_n (lv' := [(2, .int q1.1), (0, .ref (ad (1, j, 0))), (1, .ref (ad (3, j, k1)))]) C0 dX3_dripOf_4 rfl (by decide) rfl ?_
  refine j_aload_n C0 dX3_dripOf_5 rfl 1 rfl ?_
  refine j_dup C0 dX3_dripOf_6 rfl ?_
  refine j_geti (x := (q1.2 11)) C0 fl_X3_66 (sl_3_10 hj) (ia hi (id_1 hj)) eS_get dX3_dripOf_7 ?_
  refine j_iload_n C0 dX3_dripOf_10 rfl 0 rfl ?_
  refine j_iadd C0 dX3_dripOf_11 ?_
  obtain ⟨σ2, e3, hf⟩ := lt_some hf
  refine j_puti (G' := (eS G0 j σ2)) C0 fl_X3_66 pw_3_10 (sl_3_10 hj) (ia hi (id_1 hj)) rfl rfl (eS_set e3) dX3_dripOf_12 ?_
  refine j_aload_n C0 dX3_dripOf_15 rfl 2 rfl ?_
  refine j_geti (x := (σ2 (KI k1 0))) C0 fl_X3_89 (sl_1_1 hj hk1) (ia hi (id_3 hj hk1)) eS_get dX3_dripOf_16 ?_
  obtain ⟨q4, hsq4, hf⟩ := bd_some hf
  have Jq4 : J D ca ad p l e ({ frames := 3, cells := 0, slots := 0, locals := 67 }) s m [.ref (ad (1, j, 0)), .ref (ad (3, j, k1))].toArray below meth c 0 0 (MQ below (post D ca ad (some (.int r0)) (eS G0 j σ')) [.ref (ad (1, j, 0)), .ref (ad (3, j, k1))].toArray s 0 0 (adA ad)) 4 (eS G0 j q4) 97 [(0, .ref (ad (1, j, 0))), (1, .ref (ad (3, j, k1))), (2, .int q1.1)] [] := by
    refine j_aload_n C0 dX3_dripOf_97 rfl 1 rfl ?_
    refine j_aload_n C0 dX3_dripOf_98 rfl 0 rfl ?_
    refine j_getr (id2 := (4, j, 0)) C0 fl_X3_20 rl_3_1 (ia hi (id_1 hj)) dX3_dripOf_99 ?_
    refine j_geti (x := (q4 2)) C0 fl_X3_179 (sl_2_2 hj) (ia hi (id_4 hj)) eS_get dX3_dripOf_102 ?_
    obtain ⟨q5, hcq5, hf⟩ := bd_some hf
    refine j_callV (As := [.int (q4 2)]) (rest := []) (stk := []) (G2 := (eS G0 j q5)) C0 (c_X1_wearHole hi (G0 := G0) (j := j) hj hk1 hcq5) kw_X3_182 bi_X1_wearHole bx_X1_wearHole (ia hi (id_3 hj hk1)) oc_3 rfl ⟨by decide, by decide⟩ ⟨Nat.zero_le _, Nat.zero_le _⟩ rfl rfl (Nat.le_of_ble_eq_true rfl) rfl rfl dX3_dripOf_105 ?_
    refine j_iload_n C0 dX3_dripOf_108 rfl 2 rfl ?_
    exact j_iret C0 hr dX3_dripOf_109 (pr1 hf) (congrArg (fun z => (eS G0 j z)) (pr2 hf))
  refine j_if_ne (tgt := 31) C0 dX3_dripOf_19 (by decide) (fun c6 => ?_) (fun c6 => ?_)
  · have hsq4 := if_f c6 hsq4
    refine j_aload_n C0 dX3_dripOf_31 rfl 2 rfl ?_
    refine j_geti (x := (σ2 (KI k1 0))) C0 fl_X3_89 (sl_1_1 hj hk1) (ia hi (id_3 hj hk1)) eS_get dX3_dripOf_32 ?_
    refine j_iconst (v := 1) C0 dX3_dripOf_35 rfl ?_
    refine j_icmp_ne (tgt := 77) C0 dX3_dripOf_36 (by decide) (fun c7 => ?_) (fun c7 => ?_)
    · have hsq4 := if_f c7 hsq4
      refine j_aload_n C0 dX3_dripOf_77 rfl 2 rfl ?_
      refine j_dup C0 dX3_dripOf_78 rfl ?_
      refine j_geti (x := (σ2 (KI k1 4))) C0 fl_X3_164 (sl_1_6 hj hk1) (ia hi (id_3 hj hk1)) eS_get dX3_dripOf_79 ?_
      refine j_iload_n C0 dX3_dripOf_82 rfl 0 rfl ?_
      refine j_iadd C0 dX3_dripOf_83 ?_
      obtain ⟨σ8, e9, hsq4⟩ := lt_some hsq4
      refine j_puti (G' := (eS G0 j σ8)) C0 fl_X3_164 pw_1_6 (sl_1_6 hj hk1) (ia hi (id_3 hj hk1)) rfl rfl (eS_set e9) dX3_dripOf_84 ?_
      refine j_aload_n C0 dX3_dripOf_87 rfl 1 rfl ?_
      refine j_aload_n C0 dX3_dripOf_88 rfl 2 rfl ?_
      refine j_aload_n C0 dX3_dripOf_89 rfl 1 rfl ?_
      refine j_aload_n C0 dX3_dripOf_90 rfl 2 rfl ?_
      obtain ⟨q10, hcq10, hsq4⟩ := bd_some hsq4
      refine j_callV (As := [.ref (ad (3, j, k1))]) (rest := [.ref (ad (3, j, k1)), .ref (ad (1, j, 0))]) (stk := [.int q10.1, .ref (ad (3, j, k1)), .ref (ad (1, j, 0))]) (G2 := (eS G0 j q10.2)) C0 (c_X3_strokeOf hi (G0 := G0) (j := j) hj hk1 hcq10) kw_X3_176 bi_X3_strokeOf bx_X3_strokeOf (ia hi (id_1 hj)) oc_1 rfl ⟨by decide, by decide⟩ ⟨Nat.zero_le _, Nat.zero_le _⟩ rfl rfl (Nat.le_of_ble_eq_true rfl) rfl rfl dX3_dripOf_91 ?_
      obtain ⟨q11, hcq11, hsq4⟩ := bd_some hsq4
      refine j_callV (As := [.ref (ad (3, j, k1)), .int q10.1]) (rest := []) (stk := []) (G2 := (eS G0 j q11)) C0 (c_X3_goOn hi (G0 := G0) (j := j) hj hk1 hcq11) kw_X3_160 bi_X3_goOn bx_X3_goOn (ia hi (id_1 hj)) oc_1 rfl ⟨by decide, by decide⟩ ⟨Nat.zero_le _, Nat.zero_le _⟩ rfl rfl (Nat.le_of_ble_eq_true rfl) rfl rfl dX3_dripOf_94 ?_
      obtain rfl := so hsq4
      exact j_sub [1, 2, 0] rfl Jq4
    have hsq4 := if_t c7 hsq4
    refine j_iload_n C0 dX3_dripOf_39 rfl 0 rfl ?_
    refine j_aload_n C0 dX3_dripOf_40 rfl 1 rfl ?_
    refine j_aload_n C0 dX3_dripOf_41 rfl 2 rfl ?_
    refine j_geti (x := (σ2 (KI k1 4))) C0 fl_X3_164 (sl_1_6 hj hk1) (ia hi (id_3 hj hk1)) eS_get dX3_dripOf_42 ?_
    obtain ⟨q12, hcq12, hsq4⟩ := bd_some hsq4
    refine j_callV (As := [.int (σ2 (KI k1 4))]) (rest := [.int q1.1]) (stk := [.int q12, .int q1.1]) (G2 := (eS G0 j σ2)) C0 (c_X3_roomAbove hi (G0 := G0) (j := j) hj hcq12) kw_X3_167 bi_X3_roomAbove bx_X3_roomAbove (ia hi (id_1 hj)) oc_1 rfl ⟨by decide, by decide⟩ ⟨Nat.zero_le _, Nat.zero_le _⟩ rfl rfl (Nat.le_of_ble_eq_true rfl) rfl rfl dX3_dripOf_45 ?_
    obtain ⟨q13, hcq13, hsq4⟩ := bd_some hsq4
    refine j_callS (As := [.int q1.1, .int q12]) (rest := []) (stk := [.int q13]) (G2 := (eS G0 j σ2)) C0 (c_J9_min_7cf53 hi (G0 := (eS G0 j σ2))  hcq13) kw_X3_170 bi_J9_min_7cf53 rfl ⟨by decide, by decide⟩ ⟨Nat.zero_le _, Nat.zero_le _⟩ rfl rfl (Nat.le_of_ble_eq_true rfl) rfl rfl dX3_dripOf_48 ?_
    refine j_istore_n (lv' := [(3, .int q13), (2, .int q1.1), (0, .ref (ad (1, j, 0))), (1, .ref (ad (3, j, k1)))]) C0 dX3_dripOf_51 rfl (by decide) rfl ?_
    refine j_aload_n C0 dX3_dripOf_52 rfl 3 rfl ?_
    refine j_dup C0 dX3_dripOf_53 rfl ?_
    refine j_geti (x := (σ2 (KI k1 4))) C0 fl_X3_164 (sl_1_6 hj hk1) (ia hi (id_3 hj hk1)) eS_get dX3_dripOf_54 ?_
    refine j_iload_n C0 dX3_dripOf_57 rfl 0 rfl ?_
    refine j_iadd C0 dX3_dripOf_58 ?_
    obtain ⟨σ14, e15, hsq4⟩ := lt_some hsq4
    refine j_puti (G' := (eS G0 j σ14)) C0 fl_X3_164 pw_1_6 (sl_1_6 hj hk1) (ia hi (id_3 hj hk1)) rfl rfl (eS_set e15) dX3_dripOf_59 ?_
    refine j_aload_n C0 dX3_dripOf_62 rfl 2 rfl ?_
    refine j_dup C0 dX3_dripOf_63 rfl ?_
    refine j_geti (x := (σ14 9)) C0 fl_X3_57 (sl_3_7 hj) (ia hi (id_1 hj)) eS_get dX3_dripOf_64 ?_
    refine j_iload_n C0 dX3_dripOf_67 rfl 1 rfl ?_
    refine j_iload_n C0 dX3_dripOf_68 rfl 0 rfl ?_
    refine j_isub C0 dX3_dripOf_69 ?_
    refine j_iadd C0 dX3_dripOf_70 ?_
    obtain ⟨σ16, e17, hsq4⟩ := lt_some hsq4
    refine j_puti (G' := (eS G0 j σ16)) C0 fl_X3_57 pw_3_7 (sl_3_7 hj) (ia hi (id_1 hj)) rfl rfl (eS_set e17) dX3_dripOf_71 ?_
    refine j_goto (tgt := 97) C0 dX3_dripOf_74 (by decide) ?_
    obtain rfl := so hsq4
    exact j_sub [2, 3, 1] rfl Jq4
  have hsq4 := if_t c6 hsq4
  refine j_aload_n C0 dX3_dripOf_22 rfl 1 rfl ?_
  refine j_aload_n C0 dX3_dripOf_23 rfl 2 rfl ?_
  refine j_iload_n C0 dX3_dripOf_24 rfl 0 rfl ?_
  obtain ⟨q18, hcq18, hsq4⟩ := bd_some hsq4
  refine j_callV (As := [.ref (ad (3, j, k1)), .int q1.1]) (rest := []) (stk := []) (G2 := (eS G0 j q18)) C0 (c_X3_goOn hi (G0 := G0) (j := j) hj hk1 hcq18) kw_X3_160 bi_X3_goOn bx_X3_goOn (ia hi (id_1 hj)) oc_1 rfl ⟨by decide, by decide⟩ ⟨Nat.zero_le _, Nat.zero_le _⟩ rfl rfl (Nat.le_of_ble_eq_true rfl) rfl rfl dX3_dripOf_25 ?_
  refine j_goto (tgt := 97) C0 dX3_dripOf_28 (by decide) ?_
  obtain rfl := so hsq4
  exact j_sub [1, 2, 0] rfl Jq4

set_option maxHeartbeats 4000000 in
set_option maxRecDepth 100000 in
theorem c_X3_drip {l : Launch} {D : va_G} {ca : Nat → ClassId} {ad : I3 → Nat} (hi : adI ad) {G0 : GS} {j : Nat} {σ : Nat → Int32} {x1 : Int32} {r0 : Int32} {σ' : Nat → Int32} (hj : j < 9) (hf : fS_drip σ x1 = some (r0, σ')) : MT l D ca ad yX3_drip cX3_drip 4 (some .int) 4 90 [.ref (ad (1, j, 0)), .int x1] (eS G0 j σ) (some (.int r0)) (eS G0 j σ') := by
  refine met_J (lv := [(0, .ref (ad (1, j, 0))), (1, .int x1)]) hi (by decide +kernel) (Nat.le_of_ble_eq_true rfl) rfl (fun p e s m below meth c C0 hr => ?_)
  have L4 : ∀ (n : Nat) (σ : Nat → Int32) (y1 : Int32) (y2 : Int32) (y3 : Int32), fS_drip_L4 n σ y1 y2 y3 = some (r0, σ') → J D ca ad p l e ({ frames := 4, cells := 0, slots := 0, locals := 90 }) s m [.ref (ad (1, j, 0)), .int x1].toArray below meth c 0 0 (MQ below (post D ca ad (some (.int r0)) (eS G0 j σ')) [.ref (ad (1, j, 0)), .int x1].toArray s 0 0 (adA ad)) 4 (eS G0 j σ) 4 [(0, .ref (ad (1, j, 0))), (1, .int y1), (2, .int y2), (3, .int y3)] [] := by
    intro n
    induction n with
    | zero =>
      intro σ y1 y2 y3 hf
      exact (none_ne hf).elim
    | succ n ih =>
      intro σ y1 y2 y3 hf
      rw [fS_drip_L4] at hf
      refine j_iload_n C0 dX3_drip_4 rfl 3 rfl ?_
      refine j_iload_n C0 dX3_drip_5 rfl 1 rfl ?_
      refine j_icmp_gt (tgt := 45) C0 dX3_drip_6 (by decide) (fun c1 => ?_) (fun c1 => ?_)
      · have hf := if_t c1 hf
        refine j_iload_n C0 dX3_drip_45 rfl 2 rfl ?_
        exact j_iret C0 hr dX3_drip_46 (pr1 hf) (congrArg (fun z => (eS G0 j z)) (pr2 hf))
      have hf := if_f c1 hf
      refine j_iload_n C0 dX3_drip_9 rfl 3 rfl ?_
      refine j_aload_n C0 dX3_drip_10 rfl 0 rfl ?_
      refine j_geti (x := (σ 19)) C0 fl_X3_48 (sl_3_3 hj) (ia hi (id_1 hj)) eS_get dX3_drip_11 ?_
      refine j_icmp_ge (tgt := 45) C0 dX3_drip_14 (by decide) (fun c2 => ?_) (fun c2 => ?_)
      · have hf := if_t c2 hf
        refine j_iload_n C0 dX3_drip_45 rfl 2 rfl ?_
        exact j_iret C0 hr dX3_drip_46 (pr1 hf) (congrArg (fun z => (eS G0 j z)) (pr2 hf))
      have hf := if_f c2 hf
      refine j_iload_n C0 dX3_drip_17 rfl 3 rfl ?_
      refine j_aload_n C0 dX3_drip_18 rfl 0 rfl ?_
      refine j_getr (id2 := (2, j, 0)) C0 fl_X3_11 rl_3_0 (ia hi (id_1 hj)) dX3_drip_19 ?_
      refine j_alenq (t0 := 3) (n0 := 5) (f := fun i => ad (3, j, i)) (v := (5 : Int32)) C0 rfl rfl (ia hi (id_2 hj)) rfl dX3_drip_22 ?_
      refine j_icmp_ge (tgt := 45) C0 dX3_drip_23 (by decide) (fun c3 => ?_) (fun c3 => ?_)
      · have hf := if_t c3 hf
        refine j_iload_n C0 dX3_drip_45 rfl 2 rfl ?_
        exact j_iret C0 hr dX3_drip_46 (pr1 hf) (congrArg (fun z => (eS G0 j z)) (pr2 hf))
      have hf := if_f c3 hf
      refine j_iload_n C0 dX3_drip_26 rfl 2 rfl ?_
      refine j_aload_n C0 dX3_drip_27 rfl 0 rfl ?_
      refine j_aload_n C0 dX3_drip_28 rfl 0 rfl ?_
      refine j_getr (id2 := (2, j, 0)) C0 fl_X3_11 rl_3_0 (ia hi (id_1 hj)) dX3_drip_29 ?_
      refine j_iload_n C0 dX3_drip_32 rfl 3 rfl ?_
      obtain ⟨h4, hf⟩ := gd_some hf
      refine j_aldq (t0 := 3) (n0 := 5) (f := fun i => ad (3, j, i)) C0 rfl rfl (ia hi (id_2 hj)) h4 dX3_drip_33 ?_
      obtain ⟨q5, hcq5, hf⟩ := bd_some hf
      refine j_callV (As := [.ref (ad (3, j, y3.toNatClampNeg))]) (rest := [.int y2]) (stk := [.int q5.1, .int y2]) (G2 := (eS G0 j q5.2)) C0 (c_X3_dripOf hi (G0 := G0) (j := j) hj (inb_lt h4) hcq5) kw_X3_154 bi_X3_dripOf bx_X3_dripOf (ia hi (id_1 hj)) oc_1 rfl ⟨by decide, by decide⟩ ⟨Nat.zero_le _, Nat.zero_le _⟩ rfl rfl (Nat.le_of_ble_eq_true rfl) rfl rfl dX3_drip_34 ?_
      refine j_iadd C0 dX3_drip_37 ?_
      refine j_istore_n (lv' := [(2, .int (y2 + q5.1)), (0, .ref (ad (1, j, 0))), (1, .int y1), (3, .int y3)]) C0 dX3_drip_38 rfl (by decide) rfl ?_
      refine j_iinc (v := (y3 + 1)) (lv' := [(3, .int (y3 + 1)), (2, .int (y2 + q5.1)), (0, .ref (ad (1, j, 0))), (1, .int y1)]) C0 dX3_drip_39 3 rfl rfl (by decide) rfl ?_
      refine j_goto (tgt := 4) C0 dX3_drip_42 (by decide) ?_
      exact j_sub [2, 3, 1, 0] rfl (ih q5.2 y1 (y2 + q5.1) (y3 + 1) hf)
  unfold fS_drip at hf
  refine j_iconst (v := 0) C0 dX3_drip_0 rfl ?_
  refine j_istore_n (lv' := [(2, .int (0 : Int32)), (0, .ref (ad (1, j, 0))), (1, .int x1)]) C0 dX3_drip_1 rfl (by decide) rfl ?_
  refine j_iconst (v := 0) C0 dX3_drip_2 rfl ?_
  refine j_istore_n (lv' := [(3, .int (0 : Int32)), (2, .int (0 : Int32)), (0, .ref (ad (1, j, 0))), (1, .int x1)]) C0 dX3_drip_3 rfl (by decide) rfl ?_
  exact j_sub [2, 3, 1, 0] rfl (L4 fuel σ x1 (0 : Int32) (0 : Int32) hf)

set_option maxHeartbeats 4000000 in
set_option maxRecDepth 100000 in
theorem c_X3_noonTicks {l : Launch} {D : va_G} {ca : Nat → ClassId} {ad : I3 → Nat} (hi : adI ad) {G0 : GS} {j : Nat} {σ : Nat → Int32} {r0 : Int32} (hj : j < 9) (hf : fS_noonTicks σ = some (r0)) : MT l D ca ad yX3_noonTicks cX3_noonTicks 1 (some .int) 0 0 [.ref (ad (1, j, 0))] (eS G0 j σ) (some (.int r0)) (eS G0 j σ) := by
  refine met_J (lv := [(0, .ref (ad (1, j, 0)))]) hi (by decide +kernel) (Nat.le_of_ble_eq_true rfl) rfl (fun p e s m below meth c C0 hr => ?_)
  unfold fS_noonTicks at hf
  refine j_bipush (v := 12) C0 dX3_noonTicks_0 rfl ?_
  refine j_aload_n C0 dX3_noonTicks_2 rfl 0 rfl ?_
  refine j_getr (id2 := (4, j, 0)) C0 fl_X3_20 rl_3_1 (ia hi (id_1 hj)) dX3_noonTicks_3 ?_
  refine j_geti (x := (σ 3)) C0 fl_X3_209 (sl_2_3 hj) (ia hi (id_4 hj)) eS_get dX3_noonTicks_6 ?_
  refine j_imul C0 dX3_noonTicks_9 ?_
  exact j_iret C0 hr dX3_noonTicks_10 (so hf) rfl

set_option maxHeartbeats 4000000 in
set_option maxRecDepth 100000 in
theorem c_X3_untilNoon {l : Launch} {D : va_G} {ca : Nat → ClassId} {ad : I3 → Nat} (hi : adI ad) {G0 : GS} {j : Nat} {σ : Nat → Int32} {r0 : Int32} (hj : j < 9) (hf : fS_untilNoon σ = some (r0)) : MT l D ca ad yX3_untilNoon cX3_untilNoon 2 (some .int) 2 43 [.ref (ad (1, j, 0))] (eS G0 j σ) (some (.int r0)) (eS G0 j σ) := by
  refine met_J (lv := [(0, .ref (ad (1, j, 0)))]) hi (by decide +kernel) (Nat.le_of_ble_eq_true rfl) rfl (fun p e s m below meth c C0 hr => ?_)
  unfold fS_untilNoon at hf
  refine j_aload_n C0 dX3_untilNoon_0 rfl 0 rfl ?_
  obtain ⟨q1, hcq1, hf⟩ := bd_some hf
  refine j_callV (As := []) (rest := []) (stk := [.int q1]) (G2 := (eS G0 j σ)) C0 (c_X3_noonTicks hi (G0 := G0) (j := j) hj hcq1) kw_X3_218 bi_X3_noonTicks bx_X3_noonTicks (ia hi (id_1 hj)) oc_1 rfl ⟨by decide, by decide⟩ ⟨Nat.zero_le _, Nat.zero_le _⟩ rfl rfl (Nat.le_of_ble_eq_true rfl) rfl rfl dX3_untilNoon_1 ?_
  refine j_istore_n (lv' := [(1, .int q1), (0, .ref (ad (1, j, 0)))]) C0 dX3_untilNoon_4 rfl (by decide) rfl ?_
  refine j_iload_n C0 dX3_untilNoon_5 rfl 0 rfl ?_
  refine j_aload_n C0 dX3_untilNoon_6 rfl 1 rfl ?_
  refine j_geti (x := (σ 6)) C0 fl_X3_51 (sl_3_4 hj) (ia hi (id_1 hj)) eS_get dX3_untilNoon_7 ?_
  refine j_aload_n C0 dX3_untilNoon_10 rfl 1 rfl ?_
  refine j_geti (x := (σ 6)) C0 fl_X3_51 (sl_3_4 hj) (ia hi (id_1 hj)) eS_get dX3_untilNoon_11 ?_
  refine j_iload_n C0 dX3_untilNoon_14 rfl 0 rfl ?_
  obtain ⟨q2, hcq2, hf⟩ := bd_some hf
  refine j_callSN (As := [.int (σ 6), .int q1]) (rest := [.int (σ 6), .int q1]) (stk := [.int q2, .int (σ 6), .int q1]) (G2 := (eS G0 j σ)) C0 (c_X5_quotient hi (G0 := (eS G0 j σ))  hcq2) kw_X3_212 bi_X5_quotient rfl ⟨by decide, by decide⟩ ⟨Nat.zero_le _, Nat.zero_le _⟩ rfl rfl (Nat.le_of_ble_eq_true rfl) rfl rfl dX3_untilNoon_15 ?_
  refine j_iload_n C0 dX3_untilNoon_18 rfl 0 rfl ?_
  refine j_imul C0 dX3_untilNoon_19 ?_
  refine j_isub C0 dX3_untilNoon_20 ?_
  refine j_isub C0 dX3_untilNoon_21 ?_
  exact j_iret C0 hr dX3_untilNoon_22 (so hf) rfl

set_option maxHeartbeats 4000000 in
set_option maxRecDepth 100000 in
theorem c_X3_isNoon {l : Launch} {D : va_G} {ca : Nat → ClassId} {ad : I3 → Nat} (hi : adI ad) {G0 : GS} {j : Nat} {σ : Nat → Int32} {r0 : Int32} (hj : j < 9) (hf : fS_isNoon σ = some (r0)) : MT l D ca ad yX3_isNoon cX3_isNoon 1 (some .boolean) 3 64 [.ref (ad (1, j, 0))] (eS G0 j σ) (some (.int r0)) (eS G0 j σ) := by
  refine met_J (lv := [(0, .ref (ad (1, j, 0)))]) hi (by decide +kernel) (Nat.le_of_ble_eq_true rfl) rfl (fun p e s m below meth c C0 hr => ?_)
  unfold fS_isNoon at hf
  refine j_aload_n C0 dX3_isNoon_0 rfl 0 rfl ?_
  obtain ⟨q1, hcq1, hf⟩ := bd_some hf
  refine j_callV (As := []) (rest := []) (stk := [.int q1]) (G2 := (eS G0 j σ)) C0 (c_X3_untilNoon hi (G0 := G0) (j := j) hj hcq1) kw_X3_221 bi_X3_untilNoon bx_X3_untilNoon (ia hi (id_1 hj)) oc_1 rfl ⟨by decide, by decide⟩ ⟨Nat.zero_le _, Nat.zero_le _⟩ rfl rfl (Nat.le_of_ble_eq_true rfl) rfl rfl dX3_isNoon_1 ?_
  refine j_aload_n C0 dX3_isNoon_4 rfl 0 rfl ?_
  obtain ⟨q2, hcq2, hf⟩ := bd_some hf
  refine j_callV (As := []) (rest := [.int q1]) (stk := [.int q2, .int q1]) (G2 := (eS G0 j σ)) C0 (c_X3_noonTicks hi (G0 := G0) (j := j) hj hcq2) kw_X3_218 bi_X3_noonTicks bx_X3_noonTicks (ia hi (id_1 hj)) oc_1 rfl ⟨by decide, by decide⟩ ⟨Nat.zero_le _, Nat.zero_le _⟩ rfl rfl (Nat.le_of_ble_eq_true rfl) rfl rfl dX3_isNoon_5 ?_
  refine j_icmp_ne (tgt := 15) C0 dX3_isNoon_8 (by decide) (fun c3 => ?_) (fun c3 => ?_)
  · have hf := if_f c3 hf
    refine j_iconst (v := 0) C0 dX3_isNoon_15 rfl ?_
    exact j_zret C0 hr rfl dX3_isNoon_16 (so hf) rfl
  have hf := if_t c3 hf
  refine j_iconst (v := 1) C0 dX3_isNoon_11 rfl ?_
  refine j_goto (tgt := 16) C0 dX3_isNoon_12 (by decide) ?_
  exact j_zret C0 hr rfl dX3_isNoon_16 (so hf) rfl

set_option maxHeartbeats 4000000 in
set_option maxRecDepth 100000 in
theorem c_J9_floorMod_7cf53 {l : Launch} {D : va_G} {ca : Nat → ClassId} {ad : I3 → Nat} (hi : adI ad) {G0 : GS} {x1 : Int32} {x2 : Int32} {r0 : Int32}  (hf : fJ_floorMod x1 x2 = some (r0)) : MT l D ca ad yJ9_floorMod_7cf53 cJ9_floorMod_7cf53 3 (some .int) 0 0 [.int x1, .int x2] G0 (some (.int r0)) G0 := by
  refine met_J (lv := [(0, .int x1), (1, .int x2)]) hi (by decide +kernel) (Nat.le_of_ble_eq_true rfl) rfl (fun p e s m below meth c C0 hr => ?_)
  unfold fJ_floorMod at hf
  refine j_iload_n C0 dJ9_floorMod_7cf53_0 rfl 0 rfl ?_
  refine j_iload_n C0 dJ9_floorMod_7cf53_1 rfl 1 rfl ?_
  obtain ⟨h1, hf⟩ := gd_some hf
  refine j_irem C0 dJ9_floorMod_7cf53_2 h1 ?_
  refine j_istore_n (lv' := [(2, .int (x1 - x1 / x2 * x2)), (0, .int x1), (1, .int x2)]) C0 dJ9_floorMod_7cf53_3 rfl (by decide) rfl ?_
  refine j_iload_n C0 dJ9_floorMod_7cf53_4 rfl 1 rfl ?_
  refine j_iload_n C0 dJ9_floorMod_7cf53_5 rfl 2 rfl ?_
  refine j_ixor C0 dJ9_floorMod_7cf53_6 ?_
  refine j_if_ge (tgt := 18) C0 dJ9_floorMod_7cf53_7 (by decide) (fun c2 => ?_) (fun c2 => ?_)
  · have hf := if_t c2 hf
    refine j_iload_n C0 dJ9_floorMod_7cf53_18 rfl 0 rfl ?_
    exact j_iret C0 hr dJ9_floorMod_7cf53_19 (so hf) rfl
  have hf := if_f c2 hf
  refine j_iload_n C0 dJ9_floorMod_7cf53_10 rfl 0 rfl ?_
  refine j_if_eq (tgt := 18) C0 dJ9_floorMod_7cf53_11 (by decide) (fun c3 => ?_) (fun c3 => ?_)
  · have hf := if_t c3 hf
    refine j_iload_n C0 dJ9_floorMod_7cf53_18 rfl 0 rfl ?_
    exact j_iret C0 hr dJ9_floorMod_7cf53_19 (so hf) rfl
  have hf := if_f c3 hf
  refine j_iload_n C0 dJ9_floorMod_7cf53_14 rfl 0 rfl ?_
  refine j_iload_n C0 dJ9_floorMod_7cf53_15 rfl 2 rfl ?_
  refine j_iadd C0 dJ9_floorMod_7cf53_16 ?_
  exact j_iret C0 hr dJ9_floorMod_7cf53_17 (so hf) rfl

set_option maxHeartbeats 4000000 in
set_option maxRecDepth 100000 in
theorem c_X0_place {l : Launch} {D : va_G} {ca : Nat → ClassId} {ad : I3 → Nat} (hi : adI ad) {G0 : GS} {j : Nat} {σ : Nat → Int32} {x1 : Int32} {r0 : Int32} (hj : j < 9) (hf : fB_place σ x1 = some (r0)) : MT l D ca ad yX0_place cX0_place 2 (some .int) 1 22 [.ref (ad (5, j, 0)), .int x1] (eS G0 j σ) (some (.int r0)) (eS G0 j σ) := by
  refine met_J (lv := [(0, .ref (ad (5, j, 0))), (1, .int x1)]) hi (by decide +kernel) (Nat.le_of_ble_eq_true rfl) rfl (fun p e s m below meth c C0 hr => ?_)
  unfold fB_place at hf
  refine j_aload_n C0 dX0_place_0 rfl 0 rfl ?_
  refine j_geti (x := (σ 14)) C0 fl_X0_22 (sl_0_2 hj) (ia hi (id_5 hj)) eS_get dX0_place_1 ?_
  refine j_iconst (v := 1) C0 dX0_place_4 rfl ?_
  refine j_isub C0 dX0_place_5 ?_
  refine j_iload_n C0 dX0_place_6 rfl 1 rfl ?_
  refine j_isub C0 dX0_place_7 ?_
  refine j_iconst (v := 4) C0 dX0_place_8 rfl ?_
  obtain ⟨q1, hcq1, hf⟩ := bd_some hf
  refine j_callS (As := [.int (((σ 14) - (1 : Int32)) - x1), .int (4 : Int32)]) (rest := []) (stk := [.int q1]) (G2 := (eS G0 j σ)) C0 (c_J9_floorMod_7cf53 hi (G0 := (eS G0 j σ))  hcq1) kw_X0_51 bi_J9_floorMod_7cf53 rfl ⟨by decide, by decide⟩ ⟨Nat.zero_le _, Nat.zero_le _⟩ rfl rfl (Nat.le_of_ble_eq_true rfl) rfl rfl dX0_place_9 ?_
  exact j_iret C0 hr dX0_place_12 (so hf) rfl

set_option maxHeartbeats 4000000 in
set_option maxRecDepth 100000 in
theorem c_X5_put {l : Launch} {D : va_G} {ca : Nat → ClassId} {ad : I3 → Nat} (hi : adI ad) {G0 : GS} {j : Nat} {σ : Nat → Int32} {n : Nat} {off : Nat} {x2 : Int32} {x3 : Int32} {σ' : Nat → Int32} {id : I3} (al : AL ca ad id 0 n false j off) (hid : id ∈ idA ad) (hf : fX_put σ n off x2 x3 = some (σ')) : MT l D ca ad yX5_put cX5_put 3 none 0 0 [.ref (ad id), .int x2, .int x3] (eS G0 j σ) none (eS G0 j σ') := by
  refine met_J (lv := [(0, .ref (ad id)), (1, .int x2), (2, .int x3)]) hi (by decide +kernel) (Nat.le_of_ble_eq_true rfl) rfl (fun p e s m below meth c C0 hr => ?_)
  unfold fX_put at hf
  refine j_iload_n C0 dX5_put_0 rfl 1 rfl ?_
  refine j_if_lt (tgt := 14) C0 dX5_put_1 (by decide) (fun c1 => ?_) (fun c1 => ?_)
  · have hf := if_t c1 hf
    exact j_vret C0 hr dX5_put_14 (congrArg (fun z => (eS G0 j z)) (so hf))
  have hf := if_f c1 hf
  refine j_iload_n C0 dX5_put_4 rfl 1 rfl ?_
  refine j_aload_n C0 dX5_put_5 rfl 0 rfl ?_
  refine j_alen (v := (Int32.ofNat n)) C0 al rfl hid rfl dX5_put_6 ?_
  refine j_icmp_ge (tgt := 14) C0 dX5_put_7 (by decide) (fun c2 => ?_) (fun c2 => ?_)
  · have hf := if_t c2 hf
    exact j_vret C0 hr dX5_put_14 (congrArg (fun z => (eS G0 j z)) (so hf))
  have hf := if_f c2 hf
  refine j_aload_n C0 dX5_put_10 rfl 0 rfl ?_
  refine j_iload_n C0 dX5_put_11 rfl 1 rfl ?_
  refine j_iload_n C0 dX5_put_12 rfl 2 rfl ?_
  obtain ⟨h3, hf⟩ := gd_some hf
  obtain ⟨σ4, e5, hf⟩ := lt_some hf
  refine j_iast (G' := (eS G0 j σ4)) C0 al rfl hid h3 (eS_set e5) dX5_put_13 ?_
  exact j_vret C0 hr dX5_put_14 (congrArg (fun z => (eS G0 j z)) (so hf))

set_option maxHeartbeats 4000000 in
set_option maxRecDepth 100000 in
theorem c_X0_open {l : Launch} {D : va_G} {ca : Nat → ClassId} {ad : I3 → Nat} (hi : adI ad) {G0 : GS} {j : Nat} {σ : Nat → Int32} {x1 : Int32} {σ' : Nat → Int32} (hj : j < 9) (hf : fB_open σ x1 = some (σ')) : MT l D ca ad yX0_open cX0_open 2 none 2 43 [.ref (ad (5, j, 0)), .int x1] (eS G0 j σ) none (eS G0 j σ') := by
  refine met_J (lv := [(0, .ref (ad (5, j, 0))), (1, .int x1)]) hi (by decide +kernel) (Nat.le_of_ble_eq_true rfl) rfl (fun p e s m below meth c C0 hr => ?_)
  unfold fB_open at hf
  refine j_aload_n C0 dX0_open_0 rfl 0 rfl ?_
  refine j_dup C0 dX0_open_1 rfl ?_
  refine j_geti (x := (σ 14)) C0 fl_X0_22 (sl_0_2 hj) (ia hi (id_5 hj)) eS_get dX0_open_2 ?_
  refine j_iconst (v := 1) C0 dX0_open_5 rfl ?_
  refine j_iadd C0 dX0_open_6 ?_
  obtain ⟨σ1, e2, hf⟩ := lt_some hf
  refine j_puti (G' := (eS G0 j σ1)) C0 fl_X0_22 pw_0_2 (sl_0_2 hj) (ia hi (id_5 hj)) rfl rfl (eS_set e2) dX0_open_7 ?_
  refine j_aload_n C0 dX0_open_10 rfl 0 rfl ?_
  refine j_getr (id2 := (6, j, 0)) C0 fl_X0_9 rl_0_0 (ia hi (id_5 hj)) dX0_open_11 ?_
  refine j_aload_n C0 dX0_open_14 rfl 0 rfl ?_
  refine j_iconst (v := 0) C0 dX0_open_15 rfl ?_
  obtain ⟨q3, hcq3, hf⟩ := bd_some hf
  refine j_callV (As := [.int (0 : Int32)]) (rest := [.ref (ad (6, j, 0))]) (stk := [.int q3, .ref (ad (6, j, 0))]) (G2 := (eS G0 j σ1)) C0 (c_X0_place hi (G0 := G0) (j := j) hj hcq3) kw_X0_29 bi_X0_place bx_X0_place (ia hi (id_5 hj)) oc_5 rfl ⟨by decide, by decide⟩ ⟨Nat.zero_le _, Nat.zero_le _⟩ rfl rfl (Nat.le_of_ble_eq_true rfl) rfl rfl dX0_open_16 ?_
  refine j_iload_n C0 dX0_open_19 rfl 1 rfl ?_
  obtain ⟨q4, hcq4, hf⟩ := bd_some hf
  refine j_callSN (As := [.ref (ad (6, j, 0)), .int q3, .int x1]) (rest := []) (stk := []) (G2 := (eS G0 j q4)) C0 (c_X5_put hi (G0 := G0) (j := j) (al_6 hj) (ia hi (id_6 hj)) hcq4) kw_X0_33 bi_X5_put rfl ⟨by decide, by decide⟩ ⟨Nat.zero_le _, Nat.zero_le _⟩ rfl rfl (Nat.le_of_ble_eq_true rfl) rfl rfl dX0_open_20 ?_
  exact j_vret C0 hr dX0_open_23 (congrArg (fun z => (eS G0 j z)) (so hf))

set_option maxHeartbeats 4000000 in
set_option maxRecDepth 100000 in
theorem c_X0_write {l : Launch} {D : va_G} {ca : Nat → ClassId} {ad : I3 → Nat} (hi : adI ad) {G0 : GS} {j : Nat} {σ : Nat → Int32} {x1 : Int32} {x2 : Int32} {σ' : Nat → Int32} (hj : j < 9) (hf : fB_write σ x1 x2 = some (σ')) : MT l D ca ad yX0_write cX0_write 3 none 2 43 [.ref (ad (5, j, 0)), .int x1, .int x2] (eS G0 j σ) none (eS G0 j σ') := by
  refine met_J (lv := [(0, .ref (ad (5, j, 0))), (1, .int x1), (2, .int x2)]) hi (by decide +kernel) (Nat.le_of_ble_eq_true rfl) rfl (fun p e s m below meth c C0 hr => ?_)
  unfold fB_write at hf
  refine j_aload_n C0 dX0_write_0 rfl 0 rfl ?_
  refine j_getr (id2 := (7, j, 0)) C0 fl_X0_15 rl_0_1 (ia hi (id_5 hj)) dX0_write_1 ?_
  refine j_aload_n C0 dX0_write_4 rfl 0 rfl ?_
  refine j_iconst (v := 0) C0 dX0_write_5 rfl ?_
  obtain ⟨q1, hcq1, hf⟩ := bd_some hf
  refine j_callV (As := [.int (0 : Int32)]) (rest := [.ref (ad (7, j, 0))]) (stk := [.int q1, .ref (ad (7, j, 0))]) (G2 := (eS G0 j σ)) C0 (c_X0_place hi (G0 := G0) (j := j) hj hcq1) kw_X0_29 bi_X0_place bx_X0_place (ia hi (id_5 hj)) oc_5 rfl ⟨by decide, by decide⟩ ⟨Nat.zero_le _, Nat.zero_le _⟩ rfl rfl (Nat.le_of_ble_eq_true rfl) rfl rfl dX0_write_6 ?_
  refine j_iconst (v := 5) C0 dX0_write_9 rfl ?_
  refine j_imul C0 dX0_write_10 ?_
  refine j_iload_n C0 dX0_write_11 rfl 1 rfl ?_
  refine j_iadd C0 dX0_write_12 ?_
  refine j_iload_n C0 dX0_write_13 rfl 2 rfl ?_
  obtain ⟨q2, hcq2, hf⟩ := bd_some hf
  refine j_callSN (As := [.ref (ad (7, j, 0)), .int ((q1 * (5 : Int32)) + x1), .int x2]) (rest := []) (stk := []) (G2 := (eS G0 j q2)) C0 (c_X5_put hi (G0 := G0) (j := j) (al_7 hj) (ia hi (id_7 hj)) hcq2) kw_X0_33 bi_X5_put rfl ⟨by decide, by decide⟩ ⟨Nat.zero_le _, Nat.zero_le _⟩ rfl rfl (Nat.le_of_ble_eq_true rfl) rfl rfl dX0_write_14 ?_
  exact j_vret C0 hr dX0_write_17 (congrArg (fun z => (eS G0 j z)) (so hf))

set_option maxHeartbeats 4000000 in
set_option maxRecDepth 100000 in
theorem c_J9_abs_0f7a4 {l : Launch} {D : va_G} {ca : Nat → ClassId} {ad : I3 → Nat} (hi : adI ad) {G0 : GS} {x1 : Int32} {r0 : Int32}  (hf : fJ_abs x1 = some (r0)) : MT l D ca ad yJ9_abs_0f7a4 cJ9_abs_0f7a4 1 (some .int) 0 0 [.int x1] G0 (some (.int r0)) G0 := by
  refine met_J (lv := [(0, .int x1)]) hi (by decide +kernel) (Nat.le_of_ble_eq_true rfl) rfl (fun p e s m below meth c C0 hr => ?_)
  unfold fJ_abs at hf
  refine j_iload_n C0 dJ9_abs_0f7a4_0 rfl 0 rfl ?_
  refine j_if_ge (tgt := 9) C0 dJ9_abs_0f7a4_1 (by decide) (fun c1 => ?_) (fun c1 => ?_)
  · have hf := if_t c1 hf
    refine j_iload_n C0 dJ9_abs_0f7a4_9 rfl 0 rfl ?_
    exact j_iret C0 hr dJ9_abs_0f7a4_10 (so hf) rfl
  have hf := if_f c1 hf
  refine j_iload_n C0 dJ9_abs_0f7a4_4 rfl 0 rfl ?_
  refine j_ineg C0 dJ9_abs_0f7a4_5 ?_
  refine j_goto (tgt := 10) C0 dJ9_abs_0f7a4_6 (by decide) ?_
  exact j_iret C0 hr dJ9_abs_0f7a4_10 (so hf) rfl

set_option maxHeartbeats 4000000 in
set_option maxRecDepth 100000 in
theorem c_X3_isOff {l : Launch} {D : va_G} {ca : Nat → ClassId} {ad : I3 → Nat} (hi : adI ad) {G0 : GS} {j : Nat} {σ : Nat → Int32} {x1 : Int32} {r0 : Int32} (hj : j < 9) (hf : fS_isOff σ x1 = some (r0)) : MT l D ca ad yX3_isOff cX3_isOff 2 (some .boolean) 1 20 [.ref (ad (1, j, 0)), .int x1] (eS G0 j σ) (some (.int r0)) (eS G0 j σ) := by
  refine met_J (lv := [(0, .ref (ad (1, j, 0))), (1, .int x1)]) hi (by decide +kernel) (Nat.le_of_ble_eq_true rfl) rfl (fun p e s m below meth c C0 hr => ?_)
  unfold fS_isOff at hf
  refine j_iload_n C0 dX3_isOff_0 rfl 1 rfl ?_
  obtain ⟨q1, hcq1, hf⟩ := bd_some hf
  refine j_callS (As := [.int x1]) (rest := []) (stk := [.int q1]) (G2 := (eS G0 j σ)) C0 (c_J9_abs_0f7a4 hi (G0 := (eS G0 j σ))  hcq1) kw_X3_224 bi_J9_abs_0f7a4 rfl ⟨by decide, by decide⟩ ⟨Nat.zero_le _, Nat.zero_le _⟩ rfl rfl (Nat.le_of_ble_eq_true rfl) rfl rfl dX3_isOff_1 ?_
  refine j_aload_n C0 dX3_isOff_4 rfl 0 rfl ?_
  refine j_getr (id2 := (4, j, 0)) C0 fl_X3_20 rl_3_1 (ia hi (id_1 hj)) dX3_isOff_5 ?_
  refine j_geti (x := (σ 4)) C0 fl_X3_227 (sl_2_4 hj) (ia hi (id_4 hj)) eS_get dX3_isOff_8 ?_
  refine j_icmp_le (tgt := 18) C0 dX3_isOff_11 (by decide) (fun c2 => ?_) (fun c2 => ?_)
  · have hf := if_t c2 hf
    refine j_iconst (v := 0) C0 dX3_isOff_18 rfl ?_
    exact j_zret C0 hr rfl dX3_isOff_19 (so hf) rfl
  have hf := if_f c2 hf
  refine j_iconst (v := 1) C0 dX3_isOff_14 rfl ?_
  refine j_goto (tgt := 19) C0 dX3_isOff_15 (by decide) ?_
  exact j_zret C0 hr rfl dX3_isOff_19 (so hf) rfl

set_option maxHeartbeats 4000000 in
set_option maxRecDepth 100000 in
theorem c_X3_noonComes {l : Launch} {D : va_G} {ca : Nat → ClassId} {ad : I3 → Nat} (hi : adI ad) {G0 : GS} {j : Nat} {σ : Nat → Int32} {σ' : Nat → Int32} (hj : j < 9) (hf : fS_noonComes σ = some (σ')) : MT l D ca ad yX3_noonComes cX3_noonComes 4 none 4 84 [.ref (ad (1, j, 0))] (eS G0 j σ) none (eS G0 j σ') := by
  refine met_J (lv := [(0, .ref (ad (1, j, 0)))]) hi (by decide +kernel) (Nat.le_of_ble_eq_true rfl) rfl (fun p e s m below meth c C0 hr => ?_)
  have L13 : ∀ (n : Nat) (σ : Nat → Int32) (y1 : Int32), fS_noonComes_L13 n σ y1 = some (σ') → J D ca ad p l e ({ frames := 4, cells := 0, slots := 0, locals := 84 }) s m [.ref (ad (1, j, 0))].toArray below meth c 0 0 (MQ below (post D ca ad none (eS G0 j σ')) [.ref (ad (1, j, 0))].toArray s 0 0 (adA ad)) 4 (eS G0 j σ) 13 [(0, .ref (ad (1, j, 0))), (1, .int y1)] [] := by
    intro n
    induction n with
    | zero =>
      intro σ y1 hf
      exact (none_ne hf).elim
    | succ n ih =>
      intro σ y1 hf
      rw [fS_noonComes_L13] at hf
      refine j_iload_n C0 dX3_noonComes_13 rfl 1 rfl ?_
      refine j_aload_n C0 dX3_noonComes_14 rfl 0 rfl ?_
      refine j_geti (x := (σ 19)) C0 fl_X3_48 (sl_3_3 hj) (ia hi (id_1 hj)) eS_get dX3_noonComes_15 ?_
      refine j_icmp_ge (tgt := 98) C0 dX3_noonComes_18 (by decide) (fun c2 => ?_) (fun c2 => ?_)
      · have hf := if_t c2 hf
        exact j_vret C0 hr dX3_noonComes_98 (congrArg (fun z => (eS G0 j z)) (so hf))
      have hf := if_f c2 hf
      refine j_iload_n C0 dX3_noonComes_21 rfl 1 rfl ?_
      refine j_aload_n C0 dX3_noonComes_22 rfl 0 rfl ?_
      refine j_getr (id2 := (2, j, 0)) C0 fl_X3_11 rl_3_0 (ia hi (id_1 hj)) dX3_noonComes_23 ?_
      refine j_alenq (t0 := 3) (n0 := 5) (f := fun i => ad (3, j, i)) (v := (5 : Int32)) C0 rfl rfl (ia hi (id_2 hj)) rfl dX3_noonComes_26 ?_
      refine j_icmp_ge (tgt := 98) C0 dX3_noonComes_27 (by decide) (fun c3 => ?_) (fun c3 => ?_)
      · have hf := if_t c3 hf
        exact j_vret C0 hr dX3_noonComes_98 (congrArg (fun z => (eS G0 j z)) (so hf))
      have hf := if_f c3 hf
      refine j_aload_n C0 dX3_noonComes_30 rfl 0 rfl ?_
      refine j_getr (id2 := (2, j, 0)) C0 fl_X3_11 rl_3_0 (ia hi (id_1 hj)) dX3_noonComes_31 ?_
      refine j_iload_n C0 dX3_noonComes_34 rfl 1 rfl ?_
      obtain ⟨h4, hf⟩ := gd_some hf
      refine j_aldq (t0 := 3) (n0 := 5) (f := fun i => ad (3, j, i)) C0 rfl rfl (ia hi (id_2 hj)) h4 dX3_noonComes_35 ?_
      refine j_astore_n (lv' := [(2, .ref (ad (3, j, y1.toNatClampNeg))), (0, .ref (ad (1, j, 0))), (1, .int y1)]) C0 dX3_noonComes_36 rfl (by decide) rfl ?_
      refine j_aload_n C0 dX3_noonComes_37 rfl 1 rfl ?_
      refine j_aload_n C0 dX3_noonComes_38 rfl 0 rfl ?_
      obtain ⟨q5, hcq5, hf⟩ := bd_some hf
      refine j_callV (As := [.ref (ad (3, j, y1.toNatClampNeg))]) (rest := []) (stk := [.int q5]) (G2 := (eS G0 j σ)) C0 (c_X3_errorOf hi (G0 := G0) (j := j) hj (inb_lt h4) hcq5) kw_X3_127 bi_X3_errorOf bx_X3_errorOf (ia hi (id_1 hj)) oc_1 rfl ⟨by decide, by decide⟩ ⟨Nat.zero_le _, Nat.zero_le _⟩ rfl rfl (Nat.le_of_ble_eq_true rfl) rfl rfl dX3_noonComes_39 ?_
      refine j_istore_n (lv' := [(3, .int q5), (2, .ref (ad (3, j, y1.toNatClampNeg))), (0, .ref (ad (1, j, 0))), (1, .int y1)]) C0 dX3_noonComes_42 rfl (by decide) rfl ?_
      refine j_aload_n C0 dX3_noonComes_43 rfl 2 rfl ?_
      refine j_getr (id2 := (5, j, 0)) C0 fl_X3_27 rl_3_2 (ia hi (id_1 hj)) dX3_noonComes_44 ?_
      refine j_iload_n C0 dX3_noonComes_47 rfl 3 rfl ?_
      refine j_iload_n C0 dX3_noonComes_48 rfl 0 rfl ?_
      obtain ⟨q6, hcq6, hf⟩ := bd_some hf
      refine j_callV (As := [.int y1, .int q5]) (rest := []) (stk := []) (G2 := (eS G0 j q6)) C0 (c_X0_write hi (G0 := G0) (j := j) hj hcq6) kw_X3_233 bi_X0_write bx_X0_write (ia hi (id_5 hj)) oc_5 rfl ⟨by decide, by decide⟩ ⟨Nat.zero_le _, Nat.zero_le _⟩ rfl rfl (Nat.le_of_ble_eq_true rfl) rfl rfl dX3_noonComes_49 ?_
      refine j_aload_n C0 dX3_noonComes_52 rfl 2 rfl ?_
      refine j_iload_n C0 dX3_noonComes_53 rfl 0 rfl ?_
      obtain ⟨q7, hcq7, hf⟩ := bd_some hf
      refine j_callV (As := [.int q5]) (rest := []) (stk := [.int q7]) (G2 := (eS G0 j q6)) C0 (c_X3_isOff hi (G0 := G0) (j := j) hj hcq7) kw_X3_236 bi_X3_isOff bx_X3_isOff (ia hi (id_1 hj)) oc_1 rfl ⟨by decide, by decide⟩ ⟨Nat.zero_le _, Nat.zero_le _⟩ rfl rfl (Nat.le_of_ble_eq_true rfl) rfl rfl dX3_noonComes_54 ?_
      refine j_if_eq (tgt := 92) C0 dX3_noonComes_57 (by decide) (fun c8 => ?_) (fun c8 => ?_)
      · have hf := if_t c8 hf
        refine j_iinc (v := (y1 + 1)) (lv' := [(1, .int (y1 + 1)), (3, .int q5), (2, .ref (ad (3, j, y1.toNatClampNeg))), (0, .ref (ad (1, j, 0)))]) C0 dX3_noonComes_92 3 rfl rfl (by decide) rfl ?_
        refine j_goto (tgt := 13) C0 dX3_noonComes_95 (by decide) ?_
        exact j_sub [3, 0] rfl (ih q6 (y1 + 1) hf)
      have hf := if_f c8 hf
      refine j_aload_n C0 dX3_noonComes_60 rfl 2 rfl ?_
      refine j_getr (id2 := (5, j, 0)) C0 fl_X3_27 rl_3_2 (ia hi (id_1 hj)) dX3_noonComes_61 ?_
      refine j_dup C0 dX3_noonComes_64 rfl ?_
      refine j_geti (x := (q6 15)) C0 fl_X3_239 (sl_0_3 hj) (ia hi (id_5 hj)) eS_get dX3_noonComes_65 ?_
      refine j_iconst (v := 1) C0 dX3_noonComes_68 rfl ?_
      refine j_iadd C0 dX3_noonComes_69 ?_
      obtain ⟨σ9, e10, hf⟩ := lt_some hf
      refine j_puti (G' := (eS G0 j σ9)) C0 fl_X3_239 pw_0_3 (sl_0_3 hj) (ia hi (id_5 hj)) rfl rfl (eS_set e10) dX3_noonComes_70 ?_
      refine j_aload_n C0 dX3_noonComes_73 rfl 2 rfl ?_
      refine j_getr (id2 := (4, j, 0)) C0 fl_X3_20 rl_3_1 (ia hi (id_1 hj)) dX3_noonComes_74 ?_
      refine j_geti (x := (σ9 5)) C0 fl_X3_242 (sl_2_5 hj) (ia hi (id_4 hj)) eS_get dX3_noonComes_77 ?_
      refine j_iconst (v := 1) C0 dX3_noonComes_80 rfl ?_
      refine j_icmp_ne (tgt := 92) C0 dX3_noonComes_81 (by decide) (fun c11 => ?_) (fun c11 => ?_)
      · have hf := if_f c11 hf
        refine j_iinc (v := (y1 + 1)) (lv' := [(1, .int (y1 + 1)), (3, .int q5), (2, .ref (ad (3, j, y1.toNatClampNeg))), (0, .ref (ad (1, j, 0)))]) C0 dX3_noonComes_92 3 rfl rfl (by decide) rfl ?_
        refine j_goto (tgt := 13) C0 dX3_noonComes_95 (by decide) ?_
        exact j_sub [3, 0] rfl (ih σ9 (y1 + 1) hf)
      have hf := if_t c11 hf
      refine j_aload_n C0 dX3_noonComes_84 rfl 1 rfl ?_
      refine j_aload_n C0 dX3_noonComes_85 rfl 2 rfl ?_
      obtain ⟨q12, hcq12, hf⟩ := bd_some hf
      refine j_callV (As := []) (rest := [.ref (ad (3, j, y1.toNatClampNeg))]) (stk := [.int q12, .ref (ad (3, j, y1.toNatClampNeg))]) (G2 := (eS G0 j σ9)) C0 (c_X3_trueHour hi (G0 := G0) (j := j) hj hcq12) kw_X3_77 bi_X3_trueHour bx_X3_trueHour (ia hi (id_1 hj)) oc_1 rfl ⟨by decide, by decide⟩ ⟨Nat.zero_le _, Nat.zero_le _⟩ rfl rfl (Nat.le_of_ble_eq_true rfl) rfl rfl dX3_noonComes_86 ?_
      obtain ⟨q13, hcq13, hf⟩ := bd_some hf
      refine j_callV (As := [.int q12]) (rest := []) (stk := []) (G2 := (eS G0 j q13)) C0 (c_X1_trueTo hi (G0 := G0) (j := j) hj (inb_lt h4) hcq13) kw_X3_124 bi_X1_trueTo bx_X1_trueTo (ia hi (id_3 hj (inb_lt h4))) oc_3 rfl ⟨by decide, by decide⟩ ⟨Nat.zero_le _, Nat.zero_le _⟩ rfl rfl (Nat.le_of_ble_eq_true rfl) rfl rfl dX3_noonComes_89 ?_
      refine j_iinc (v := (y1 + 1)) (lv' := [(1, .int (y1 + 1)), (3, .int q5), (2, .ref (ad (3, j, y1.toNatClampNeg))), (0, .ref (ad (1, j, 0)))]) C0 dX3_noonComes_92 3 rfl rfl (by decide) rfl ?_
      refine j_goto (tgt := 13) C0 dX3_noonComes_95 (by decide) ?_
      exact j_sub [3, 0] rfl (ih q13 (y1 + 1) hf)
  unfold fS_noonComes at hf
  refine j_aload_n C0 dX3_noonComes_0 rfl 0 rfl ?_
  refine j_getr (id2 := (5, j, 0)) C0 fl_X3_27 rl_3_2 (ia hi (id_1 hj)) dX3_noonComes_1 ?_
  refine j_aload_n C0 dX3_noonComes_4 rfl 0 rfl ?_
  refine j_geti (x := (σ 19)) C0 fl_X3_48 (sl_3_3 hj) (ia hi (id_1 hj)) eS_get dX3_noonComes_5 ?_
  obtain ⟨q1, hcq1, hf⟩ := bd_some hf
  refine j_callV (As := [.int (σ 19)]) (rest := []) (stk := []) (G2 := (eS G0 j q1)) C0 (c_X0_open hi (G0 := G0) (j := j) hj hcq1) kw_X3_230 bi_X0_open bx_X0_open (ia hi (id_5 hj)) oc_5 rfl ⟨by decide, by decide⟩ ⟨Nat.zero_le _, Nat.zero_le _⟩ rfl rfl (Nat.le_of_ble_eq_true rfl) rfl rfl dX3_noonComes_8 ?_
  refine j_iconst (v := 0) C0 dX3_noonComes_11 rfl ?_
  refine j_istore_n (lv' := [(1, .int (0 : Int32)), (0, .ref (ad (1, j, 0)))]) C0 dX3_noonComes_12 rfl (by decide) rfl ?_
  exact j_sub [1, 0] rfl (L13 fuel q1 (0 : Int32) hf)

set_option maxHeartbeats 4000000 in
set_option maxRecDepth 100000 in
theorem c_X3_passTicks {l : Launch} {D : va_G} {ca : Nat → ClassId} {ad : I3 → Nat} (hi : adI ad) {G0 : GS} {j : Nat} {σ : Nat → Int32} {x1 : Int32} {r0 : Int32} {σ' : Nat → Int32} (hj : j < 9) (hf : fS_passTicks σ x1 = some (r0, σ')) : MT l D ca ad yX3_passTicks cX3_passTicks 4 (some .int) 5 113 [.ref (ad (1, j, 0)), .int x1] (eS G0 j σ) (some (.int r0)) (eS G0 j σ') := by
  refine met_J (lv := [(0, .ref (ad (1, j, 0))), (1, .int x1)]) hi (by decide +kernel) (Nat.le_of_ble_eq_true rfl) rfl (fun p e s m below meth c C0 hr => ?_)
  have L33 : ∀ (n : Nat) (σ : Nat → Int32) (y1 : Int32) (y2 : Int32) (y3 : Int32), fS_passTicks_L33 n σ y1 y2 y3 = some (r0, σ') → J D ca ad p l e ({ frames := 5, cells := 0, slots := 0, locals := 113 }) s m [.ref (ad (1, j, 0)), .int x1].toArray below meth c 0 0 (MQ below (post D ca ad (some (.int r0)) (eS G0 j σ')) [.ref (ad (1, j, 0)), .int x1].toArray s 0 0 (adA ad)) 4 (eS G0 j σ) 33 [(0, .ref (ad (1, j, 0))), (1, .int y1), (2, .int y2), (3, .int y3)] [] := by
    intro n
    induction n with
    | zero =>
      intro σ y1 y2 y3 hf
      exact (none_ne hf).elim
    | succ n ih =>
      intro σ y1 y2 y3 hf
      rw [fS_passTicks_L33] at hf
      refine j_iload_n C0 dX3_passTicks_33 rfl 3 rfl ?_
      refine j_iload_n C0 dX3_passTicks_34 rfl 1 rfl ?_
      refine j_icmp_ge (tgt := 78) C0 dX3_passTicks_35 (by decide) (fun c4 => ?_) (fun c4 => ?_)
      · have hf := if_t c4 hf
        refine j_iload_n C0 dX3_passTicks_78 rfl 2 rfl ?_
        exact j_iret C0 hr dX3_passTicks_79 (pr1 hf) (congrArg (fun z => (eS G0 j z)) (pr2 hf))
      have hf := if_f c4 hf
      refine j_iload_n C0 dX3_passTicks_38 rfl 2 rfl ?_
      refine j_aload_n C0 dX3_passTicks_39 rfl 0 rfl ?_
      refine j_aload_n C0 dX3_passTicks_40 rfl 0 rfl ?_
      refine j_geti (x := (σ 19)) C0 fl_X3_48 (sl_3_3 hj) (ia hi (id_1 hj)) eS_get dX3_passTicks_41 ?_
      refine j_iconst (v := 1) C0 dX3_passTicks_44 rfl ?_
      refine j_isub C0 dX3_passTicks_45 ?_
      obtain ⟨q5, hcq5, hf⟩ := bd_some hf
      refine j_callV (As := [.int ((σ 19) - (1 : Int32))]) (rest := [.int y2]) (stk := [.int q5.1, .int y2]) (G2 := (eS G0 j q5.2)) C0 (c_X3_drip hi (G0 := G0) (j := j) hj hcq5) kw_X3_132 bi_X3_drip bx_X3_drip (ia hi (id_1 hj)) oc_1 rfl ⟨by decide, by decide⟩ ⟨Nat.zero_le _, Nat.zero_le _⟩ rfl rfl (Nat.le_of_ble_eq_true rfl) rfl rfl dX3_passTicks_46 ?_
      refine j_iadd C0 dX3_passTicks_49 ?_
      refine j_istore_n (lv' := [(2, .int (y2 + q5.1)), (0, .ref (ad (1, j, 0))), (1, .int y1), (3, .int y3)]) C0 dX3_passTicks_50 rfl (by decide) rfl ?_
      refine j_aload_n C0 dX3_passTicks_51 rfl 1 rfl ?_
      refine j_dup C0 dX3_passTicks_52 rfl ?_
      refine j_geti (x := (q5.2 6)) C0 fl_X3_51 (sl_3_4 hj) (ia hi (id_1 hj)) eS_get dX3_passTicks_53 ?_
      refine j_iconst (v := 1) C0 dX3_passTicks_56 rfl ?_
      refine j_iadd C0 dX3_passTicks_57 ?_
      obtain ⟨σ6, e7, hf⟩ := lt_some hf
      refine j_puti (G' := (eS G0 j σ6)) C0 fl_X3_51 pw_3_4 (sl_3_4 hj) (ia hi (id_1 hj)) rfl rfl (eS_set e7) dX3_passTicks_58 ?_
      refine j_aload_n C0 dX3_passTicks_61 rfl 1 rfl ?_
      obtain ⟨q8, hcq8, hf⟩ := bd_some hf
      refine j_callV (As := []) (rest := []) (stk := [.int q8]) (G2 := (eS G0 j σ6)) C0 (c_X3_isNoon hi (G0 := G0) (j := j) hj hcq8) kw_X3_136 bi_X3_isNoon bx_X3_isNoon (ia hi (id_1 hj)) oc_1 rfl ⟨by decide, by decide⟩ ⟨Nat.zero_le _, Nat.zero_le _⟩ rfl rfl (Nat.le_of_ble_eq_true rfl) rfl rfl dX3_passTicks_62 ?_
      refine j_if_eq (tgt := 72) C0 dX3_passTicks_65 (by decide) (fun c9 => ?_) (fun c9 => ?_)
      · have hf := if_t c9 hf
        refine j_iinc (v := (y3 + 1)) (lv' := [(3, .int (y3 + 1)), (2, .int (y2 + q5.1)), (0, .ref (ad (1, j, 0))), (1, .int y1)]) C0 dX3_passTicks_72 3 rfl rfl (by decide) rfl ?_
        refine j_goto (tgt := 33) C0 dX3_passTicks_75 (by decide) ?_
        exact j_sub [2, 3, 1, 0] rfl (ih σ6 y1 (y2 + q5.1) (y3 + 1) hf)
      have hf := if_f c9 hf
      refine j_aload_n C0 dX3_passTicks_68 rfl 1 rfl ?_
      obtain ⟨q10, hcq10, hf⟩ := bd_some hf
      refine j_callV (As := []) (rest := []) (stk := []) (G2 := (eS G0 j q10)) C0 (c_X3_noonComes hi (G0 := G0) (j := j) hj hcq10) kw_X3_140 bi_X3_noonComes bx_X3_noonComes (ia hi (id_1 hj)) oc_1 rfl ⟨by decide, by decide⟩ ⟨Nat.zero_le _, Nat.zero_le _⟩ rfl rfl (Nat.le_of_ble_eq_true rfl) rfl rfl dX3_passTicks_69 ?_
      refine j_iinc (v := (y3 + 1)) (lv' := [(3, .int (y3 + 1)), (2, .int (y2 + q5.1)), (0, .ref (ad (1, j, 0))), (1, .int y1)]) C0 dX3_passTicks_72 3 rfl rfl (by decide) rfl ?_
      refine j_goto (tgt := 33) C0 dX3_passTicks_75 (by decide) ?_
      exact j_sub [2, 3, 1, 0] rfl (ih q10 y1 (y2 + q5.1) (y3 + 1) hf)
  unfold fS_passTicks at hf
  refine j_iload_n C0 dX3_passTicks_0 rfl 1 rfl ?_
  refine j_iconst (v := 1) C0 dX3_passTicks_1 rfl ?_
  refine j_icmp_lt (tgt := 12) C0 dX3_passTicks_2 (by decide) (fun c1 => ?_) (fun c1 => ?_)
  · have hf := if_t c1 hf
    refine j_ldc (v := -1000001) C0 dX3_passTicks_12 cw_X3_75 ?_
    exact j_iret C0 hr dX3_passTicks_14 (pr1 hf) (congrArg (fun z => (eS G0 j z)) (pr2 hf))
  have hf := if_f c1 hf
  refine j_iload_n C0 dX3_passTicks_5 rfl 1 rfl ?_
  refine j_sipush (v := 999) C0 dX3_passTicks_6 rfl ?_
  refine j_icmp_le (tgt := 15) C0 dX3_passTicks_9 (by decide) (fun c2 => ?_) (fun c2 => ?_)
  · have hf := if_t c2 hf
    refine j_aload_n C0 dX3_passTicks_15 rfl 0 rfl ?_
    refine j_geti (x := (σ 6)) C0 fl_X3_51 (sl_3_4 hj) (ia hi (id_1 hj)) eS_get dX3_passTicks_16 ?_
    refine j_iload_n C0 dX3_passTicks_19 rfl 1 rfl ?_
    refine j_iadd C0 dX3_passTicks_20 ?_
    refine j_ldc (v := 99999) C0 dX3_passTicks_21 cw_X3_131 ?_
    refine j_icmp_le (tgt := 29) C0 dX3_passTicks_23 (by decide) (fun c3 => ?_) (fun c3 => ?_)
    · have hf := if_t c3 hf
      refine j_iconst (v := 0) C0 dX3_passTicks_29 rfl ?_
      refine j_istore_n (lv' := [(2, .int (0 : Int32)), (0, .ref (ad (1, j, 0))), (1, .int x1)]) C0 dX3_passTicks_30 rfl (by decide) rfl ?_
      refine j_iconst (v := 0) C0 dX3_passTicks_31 rfl ?_
      refine j_istore_n (lv' := [(3, .int (0 : Int32)), (2, .int (0 : Int32)), (0, .ref (ad (1, j, 0))), (1, .int x1)]) C0 dX3_passTicks_32 rfl (by decide) rfl ?_
      exact j_sub [2, 3, 1, 0] rfl (L33 fuel σ x1 (0 : Int32) (0 : Int32) hf)
    have hf := if_f c3 hf
    refine j_ldc (v := -1000003) C0 dX3_passTicks_26 cw_X3_76 ?_
    exact j_iret C0 hr dX3_passTicks_28 (pr1 hf) (congrArg (fun z => (eS G0 j z)) (pr2 hf))
  have hf := if_f c2 hf
  refine j_ldc (v := -1000001) C0 dX3_passTicks_12 cw_X3_75 ?_
  exact j_iret C0 hr dX3_passTicks_14 (pr1 hf) (congrArg (fun z => (eS G0 j z)) (pr2 hf))

set_option maxHeartbeats 4000000 in
set_option maxRecDepth 100000 in
theorem c_X5_ticks {l : Launch} {D : va_G} {ca : Nat → ClassId} {ad : I3 → Nat} (hi : adI ad) {M0 : Nat → Nat → Int32} {X : XS} {x1 : Int32} {r0 : Int32} {X' : XS}  (hf : fX_ticks X x1 = some (r0, X')) : MT l D ca ad yX5_ticks cX5_ticks 2 (some .int) 6 136 [.ref (ad (0, 0, 0)), .int x1] (X.1, X.2, M0) (some (.int r0)) (X'.1, X'.2, M0) := by
  refine met_J (lv := [(0, .ref (ad (0, 0, 0))), (1, .int x1)]) hi (by decide +kernel) (Nat.le_of_ble_eq_true rfl) rfl (fun p e s m below meth c C0 hr => ?_)
  unfold fX_ticks at hf
  refine j_aload_n C0 dX5_ticks_0 rfl 0 rfl ?_
  refine j_get C0 fl_X5_19 (ia hi id_c0) ⟨_, rfl, rfl⟩ dX5_ticks_1 ?_
  refine j_aload_n C0 dX5_ticks_4 rfl 0 rfl ?_
  refine j_getr (id2 := (1, 0, 0)) C0 fl_X5_10 rl_5_0 (ia hi id_c0) dX5_ticks_5 ?_
  obtain ⟨q1, hcq1, hf⟩ := bd_some hf
  obtain ⟨X2, e3, hf⟩ := lt_some hf
  refine j_callV (As := [.ref (ad (1, 0, 0))]) (rest := []) (stk := []) (G2 := (X2.1, X2.2, M0)) C0 (c_X3_copyFrom hi (R0 := (X.2, M0)) (X.2 0).isLt (by decide) hcq1) kw_X5_40 bi_X3_copyFrom bx_X3_copyFrom (ia hi (id_1 (X.2 0).isLt)) oc_1 rfl ⟨by decide, by decide⟩ ⟨Nat.zero_le _, Nat.zero_le _⟩ rfl rfl (Nat.le_of_ble_eq_true rfl) rfl (by rw [← e3]; try rfl) dX5_ticks_8 ?_
  refine j_aload_n C0 dX5_ticks_11 rfl 0 rfl ?_
  refine j_aload_n C0 dX5_ticks_12 rfl 0 rfl ?_
  refine j_getr (id2 := (1, 0, 0)) C0 fl_X5_10 rl_5_0 (ia hi id_c0) dX5_ticks_13 ?_
  refine j_iload_n C0 dX5_ticks_16 rfl 1 rfl ?_
  obtain ⟨q4, hcq4, hf⟩ := bd_some hf
  obtain ⟨X5, e6, hf⟩ := lt_some hf
  refine j_callV (As := [.int x1]) (rest := [.ref (ad (0, 0, 0))]) (stk := [.int q4.1, .ref (ad (0, 0, 0))]) (G2 := (X5.1, X5.2, M0)) C0 (c_X3_passTicks hi (G0 := (X2.1, X2.2, M0)) (j := 0) (by decide) hcq4) kw_X5_68 bi_X3_passTicks bx_X3_passTicks (ia hi (id_1 (by decide))) oc_1 (eS_self _ _ _) ⟨by decide, by decide⟩ ⟨Nat.zero_le _, Nat.zero_le _⟩ rfl rfl (Nat.le_of_ble_eq_true rfl) rfl (by rw [← e6]; try rfl) dX5_ticks_17 ?_
  obtain ⟨q7, hcq7, hf⟩ := bd_some hf
  refine j_callV (As := [.int q4.1]) (rest := []) (stk := [.int q7.1]) (G2 := (q7.2.1, q7.2.2, M0)) C0 (c_X5_changed hi (M0 := M0)  hcq7) kw_X5_48 bi_X5_changed bx_X5_changed (ia hi id_c0) oc_0 rfl ⟨by decide, by decide⟩ ⟨Nat.zero_le _, Nat.zero_le _⟩ rfl rfl (Nat.le_of_ble_eq_true rfl) rfl rfl dX5_ticks_20 ?_
  exact j_iret C0 hr dX5_ticks_23 (pr1 hf) (congrArg (fun z => (z.1, z.2, M0)) (pr2 hf))

set_option maxHeartbeats 4000000 in
set_option maxRecDepth 100000 in
theorem c_X2_isInRange {l : Launch} {D : va_G} {ca : Nat → ClassId} {ad : I3 → Nat} (hi : adI ad) {G0 : GS} {x1 : Int32} {x2 : Int32} {r0 : Int32}  (hf : fE_isInRange x1 x2 = some (r0)) : MT l D ca ad yX2_isInRange cX2_isInRange 2 (some .boolean) 1 21 [.int x1, .int x2] G0 (some (.int r0)) G0 := by
  refine met_J (lv := [(0, .int x1), (1, .int x2)]) hi (by decide +kernel) (Nat.le_of_ble_eq_true rfl) rfl (fun p e s m below meth c C0 hr => ?_)
  unfold fE_isInRange at hf
  refine j_iload_n C0 dX2_isInRange_0 rfl 0 rfl ?_
  refine j_if_lt (tgt := 12) C0 dX2_isInRange_1 (by decide) (fun c1 => ?_) (fun c1 => ?_)
  · have hf := if_t c1 hf
    refine j_iconst (v := 0) C0 dX2_isInRange_12 rfl ?_
    exact j_zret C0 hr rfl dX2_isInRange_13 (so hf) rfl
  have hf := if_f c1 hf
  refine j_iload_n C0 dX2_isInRange_4 rfl 0 rfl ?_
  refine j_getsN (t := 0) C0 (by decide) fg_X2_28 dX2_isInRange_5 ?_
  refine j_tlen (v := (6 : Int32)) C0 (by decide) rfl dX2_isInRange_8 ?_
  refine j_icmp_lt (tgt := 14) C0 dX2_isInRange_9 (by decide) (fun c2 => ?_) (fun c2 => ?_)
  · have hf := if_t c2 hf
    refine j_iload_n C0 dX2_isInRange_14 rfl 1 rfl ?_
    refine j_getsN (t := 0) C0 (by decide) fg_X2_28 dX2_isInRange_15 ?_
    refine j_iload_n C0 dX2_isInRange_18 rfl 0 rfl ?_
    obtain ⟨q3, hcq3, hf⟩ := bd_some hf
    refine j_callSN (As := [.ref (ad (17, 0, 0)), .int x1]) (rest := [.int x2]) (stk := [.int q3, .int x2]) (G2 := G0) C0 (c_X5_element_t hi (G0 := G0) (t := 0) (by decide) hcq3) kw_X2_34 bi_X5_element rfl ⟨by decide, by decide⟩ ⟨Nat.zero_le _, Nat.zero_le _⟩ rfl rfl (Nat.le_of_ble_eq_true rfl) rfl rfl dX2_isInRange_19 ?_
    refine j_icmp_lt (tgt := 40) C0 dX2_isInRange_22 (by decide) (fun c4 => ?_) (fun c4 => ?_)
    · have hf := if_t c4 hf
      refine j_iconst (v := 0) C0 dX2_isInRange_40 rfl ?_
      exact j_zret C0 hr rfl dX2_isInRange_41 (so hf) rfl
    have hf := if_f c4 hf
    refine j_iload_n C0 dX2_isInRange_25 rfl 1 rfl ?_
    refine j_getsN (t := 1) C0 (by decide) fg_X2_38 dX2_isInRange_26 ?_
    refine j_iload_n C0 dX2_isInRange_29 rfl 0 rfl ?_
    obtain ⟨q5, hcq5, hf⟩ := bd_some hf
    refine j_callSN (As := [.ref (ad (17, 1, 0)), .int x1]) (rest := [.int x2]) (stk := [.int q5, .int x2]) (G2 := G0) C0 (c_X5_element_t hi (G0 := G0) (t := 1) (by decide) hcq5) kw_X2_34 bi_X5_element rfl ⟨by decide, by decide⟩ ⟨Nat.zero_le _, Nat.zero_le _⟩ rfl rfl (Nat.le_of_ble_eq_true rfl) rfl rfl dX2_isInRange_30 ?_
    refine j_icmp_gt (tgt := 40) C0 dX2_isInRange_33 (by decide) (fun c6 => ?_) (fun c6 => ?_)
    · have hf := if_t c6 hf
      refine j_iconst (v := 0) C0 dX2_isInRange_40 rfl ?_
      exact j_zret C0 hr rfl dX2_isInRange_41 (so hf) rfl
    have hf := if_f c6 hf
    refine j_iconst (v := 1) C0 dX2_isInRange_36 rfl ?_
    refine j_goto (tgt := 41) C0 dX2_isInRange_37 (by decide) ?_
    exact j_zret C0 hr rfl dX2_isInRange_41 (so hf) rfl
  have hf := if_f c2 hf
  refine j_iconst (v := 0) C0 dX2_isInRange_12 rfl ?_
  exact j_zret C0 hr rfl dX2_isInRange_13 (so hf) rfl

set_option maxHeartbeats 4000000 in
set_option maxRecDepth 100000 in
theorem c_X2_valueOf {l : Launch} {D : va_G} {ca : Nat → ClassId} {ad : I3 → Nat} (hi : adI ad) {G0 : GS} {j : Nat} {σ : Nat → Int32} {x1 : Int32} {r0 : Int32} (hj : j < 9) (hf : fE_valueOf σ x1 = some (r0)) : MT l D ca ad yX2_valueOf cX2_valueOf 2 (some .int) 0 0 [.ref (ad (4, j, 0)), .int x1] (eS G0 j σ) (some (.int r0)) (eS G0 j σ) := by
  refine met_J (lv := [(0, .ref (ad (4, j, 0))), (1, .int x1)]) hi (by decide +kernel) (Nat.le_of_ble_eq_true rfl) rfl (fun p e s m below meth c C0 hr => ?_)
  unfold fE_valueOf at hf
  refine j_iload_n C0 dX2_valueOf_0 rfl 1 rfl ?_
  by_cases c1 : (x1.toInt < 0 ∨ 4 < x1.toInt)
  · have hf := if_t c1 hf
    refine j_tableOut (tgt := 61) C0 dX2_valueOf_1 c1 (by decide) ?_
    refine j_aload_n C0 dX2_valueOf_61 rfl 0 rfl ?_
    refine j_geti (x := (σ 5)) C0 fl_X2_25 (sl_2_5 hj) (ia hi (id_4 hj)) eS_get dX2_valueOf_62 ?_
    exact j_iret C0 hr dX2_valueOf_65 (so hf) rfl
  have hf := if_f c1 hf
  by_cases c2 : x1 = 0
  · have hf := if_t c2 hf
    refine j_tableEq C0 0 (tgt := 36) c2 dX2_valueOf_1 (by decide) (by decide) rfl (by decide) ?_
    refine j_aload_n C0 dX2_valueOf_36 rfl 0 rfl ?_
    refine j_geti (x := (σ 0)) C0 fl_X2_7 (sl_2_0 hj) (ia hi (id_4 hj)) eS_get dX2_valueOf_37 ?_
    exact j_iret C0 hr dX2_valueOf_40 (so hf) rfl
  have hf := if_f c2 hf
  by_cases c3 : x1 = 1
  · have hf := if_t c3 hf
    refine j_tableEq C0 1 (tgt := 41) c3 dX2_valueOf_1 (by decide) (by decide) rfl (by decide) ?_
    refine j_aload_n C0 dX2_valueOf_41 rfl 0 rfl ?_
    refine j_geti (x := (σ 1)) C0 fl_X2_13 (sl_2_1 hj) (ia hi (id_4 hj)) eS_get dX2_valueOf_42 ?_
    exact j_iret C0 hr dX2_valueOf_45 (so hf) rfl
  have hf := if_f c3 hf
  by_cases c4 : x1 = 2
  · have hf := if_t c4 hf
    refine j_tableEq C0 2 (tgt := 46) c4 dX2_valueOf_1 (by decide) (by decide) rfl (by decide) ?_
    refine j_aload_n C0 dX2_valueOf_46 rfl 0 rfl ?_
    refine j_geti (x := (σ 2)) C0 fl_X2_16 (sl_2_2 hj) (ia hi (id_4 hj)) eS_get dX2_valueOf_47 ?_
    exact j_iret C0 hr dX2_valueOf_50 (so hf) rfl
  have hf := if_f c4 hf
  by_cases c5 : x1 = 3
  · have hf := if_t c5 hf
    refine j_tableEq C0 3 (tgt := 51) c5 dX2_valueOf_1 (by decide) (by decide) rfl (by decide) ?_
    refine j_aload_n C0 dX2_valueOf_51 rfl 0 rfl ?_
    refine j_geti (x := (σ 3)) C0 fl_X2_19 (sl_2_3 hj) (ia hi (id_4 hj)) eS_get dX2_valueOf_52 ?_
    exact j_iret C0 hr dX2_valueOf_55 (so hf) rfl
  have hf := if_f c5 hf
  by_cases c6 : x1 = 4
  · have hf := if_t c6 hf
    refine j_tableEq C0 4 (tgt := 56) c6 dX2_valueOf_1 (by decide) (by decide) rfl (by decide) ?_
    refine j_aload_n C0 dX2_valueOf_56 rfl 0 rfl ?_
    refine j_geti (x := (σ 4)) C0 fl_X2_22 (sl_2_4 hj) (ia hi (id_4 hj)) eS_get dX2_valueOf_57 ?_
    exact j_iret C0 hr dX2_valueOf_60 (so hf) rfl
  have hf := if_f c6 hf
  exact (none_ne hf).elim

set_option maxHeartbeats 4000000 in
set_option maxRecDepth 100000 in
theorem c_X2_change {l : Launch} {D : va_G} {ca : Nat → ClassId} {ad : I3 → Nat} (hi : adI ad) {G0 : GS} {j : Nat} {σ : Nat → Int32} {x1 : Int32} {x2 : Int32} {σ' : Nat → Int32} (hj : j < 9) (hf : fE_change σ x1 x2 = some (σ')) : MT l D ca ad yX2_change cX2_change 3 none 0 0 [.ref (ad (4, j, 0)), .int x1, .int x2] (eS G0 j σ) none (eS G0 j σ') := by
  refine met_J (lv := [(0, .ref (ad (4, j, 0))), (1, .int x1), (2, .int x2)]) hi (by decide +kernel) (Nat.le_of_ble_eq_true rfl) rfl (fun p e s m below meth c C0 hr => ?_)
  unfold fE_change at hf
  refine j_iload_n C0 dX2_change_0 rfl 1 rfl ?_
  by_cases c1 : (x1.toInt < 0 ∨ 4 < x1.toInt)
  · have hf := if_t c1 hf
    refine j_tableOut (tgt := 76) C0 dX2_change_1 c1 (by decide) ?_
    refine j_aload_n C0 dX2_change_76 rfl 0 rfl ?_
    refine j_iload_n C0 dX2_change_77 rfl 2 rfl ?_
    obtain ⟨σ2, e3, hf⟩ := lt_some hf
    refine j_puti (G' := (eS G0 j σ2)) C0 fl_X2_25 pw_2_5 (sl_2_5 hj) (ia hi (id_4 hj)) rfl rfl (eS_set e3) dX2_change_78 ?_
    exact j_vret C0 hr dX2_change_81 (congrArg (fun z => (eS G0 j z)) (so hf))
  have hf := if_f c1 hf
  by_cases c4 : x1 = 0
  · have hf := if_t c4 hf
    refine j_tableEq C0 0 (tgt := 36) c4 dX2_change_1 (by decide) (by decide) rfl (by decide) ?_
    refine j_aload_n C0 dX2_change_36 rfl 0 rfl ?_
    refine j_iload_n C0 dX2_change_37 rfl 2 rfl ?_
    obtain ⟨σ5, e6, hf⟩ := lt_some hf
    refine j_puti (G' := (eS G0 j σ5)) C0 fl_X2_7 pw_2_0 (sl_2_0 hj) (ia hi (id_4 hj)) rfl rfl (eS_set e6) dX2_change_38 ?_
    refine j_goto (tgt := 81) C0 dX2_change_41 (by decide) ?_
    exact j_vret C0 hr dX2_change_81 (congrArg (fun z => (eS G0 j z)) (so hf))
  have hf := if_f c4 hf
  by_cases c7 : x1 = 1
  · have hf := if_t c7 hf
    refine j_tableEq C0 1 (tgt := 44) c7 dX2_change_1 (by decide) (by decide) rfl (by decide) ?_
    refine j_aload_n C0 dX2_change_44 rfl 0 rfl ?_
    refine j_iload_n C0 dX2_change_45 rfl 2 rfl ?_
    obtain ⟨σ8, e9, hf⟩ := lt_some hf
    refine j_puti (G' := (eS G0 j σ8)) C0 fl_X2_13 pw_2_1 (sl_2_1 hj) (ia hi (id_4 hj)) rfl rfl (eS_set e9) dX2_change_46 ?_
    refine j_goto (tgt := 81) C0 dX2_change_49 (by decide) ?_
    exact j_vret C0 hr dX2_change_81 (congrArg (fun z => (eS G0 j z)) (so hf))
  have hf := if_f c7 hf
  by_cases c10 : x1 = 2
  · have hf := if_t c10 hf
    refine j_tableEq C0 2 (tgt := 52) c10 dX2_change_1 (by decide) (by decide) rfl (by decide) ?_
    refine j_aload_n C0 dX2_change_52 rfl 0 rfl ?_
    refine j_iload_n C0 dX2_change_53 rfl 2 rfl ?_
    obtain ⟨σ11, e12, hf⟩ := lt_some hf
    refine j_puti (G' := (eS G0 j σ11)) C0 fl_X2_16 pw_2_2 (sl_2_2 hj) (ia hi (id_4 hj)) rfl rfl (eS_set e12) dX2_change_54 ?_
    refine j_goto (tgt := 81) C0 dX2_change_57 (by decide) ?_
    exact j_vret C0 hr dX2_change_81 (congrArg (fun z => (eS G0 j z)) (so hf))
  have hf := if_f c10 hf
  by_cases c13 : x1 = 3
  · have hf := if_t c13 hf
    refine j_tableEq C0 3 (tgt := 60) c13 dX2_change_1 (by decide) (by decide) rfl (by decide) ?_
    refine j_aload_n C0 dX2_change_60 rfl 0 rfl ?_
    refine j_iload_n C0 dX2_change_61 rfl 2 rfl ?_
    obtain ⟨σ14, e15, hf⟩ := lt_some hf
    refine j_puti (G' := (eS G0 j σ14)) C0 fl_X2_19 pw_2_3 (sl_2_3 hj) (ia hi (id_4 hj)) rfl rfl (eS_set e15) dX2_change_62 ?_
    refine j_goto (tgt := 81) C0 dX2_change_65 (by decide) ?_
    exact j_vret C0 hr dX2_change_81 (congrArg (fun z => (eS G0 j z)) (so hf))
  have hf := if_f c13 hf
  by_cases c16 : x1 = 4
  · have hf := if_t c16 hf
    refine j_tableEq C0 4 (tgt := 68) c16 dX2_change_1 (by decide) (by decide) rfl (by decide) ?_
    refine j_aload_n C0 dX2_change_68 rfl 0 rfl ?_
    refine j_iload_n C0 dX2_change_69 rfl 2 rfl ?_
    obtain ⟨σ17, e18, hf⟩ := lt_some hf
    refine j_puti (G' := (eS G0 j σ17)) C0 fl_X2_22 pw_2_4 (sl_2_4 hj) (ia hi (id_4 hj)) rfl rfl (eS_set e18) dX2_change_70 ?_
    refine j_goto (tgt := 81) C0 dX2_change_73 (by decide) ?_
    exact j_vret C0 hr dX2_change_81 (congrArg (fun z => (eS G0 j z)) (so hf))
  have hf := if_f c16 hf
  exact (none_ne hf).elim

set_option maxHeartbeats 4000000 in
set_option maxRecDepth 100000 in
theorem c_X3_changeSetting {l : Launch} {D : va_G} {ca : Nat → ClassId} {ad : I3 → Nat} (hi : adI ad) {G0 : GS} {j : Nat} {σ : Nat → Int32} {x1 : Int32} {x2 : Int32} {r0 : Int32} {σ' : Nat → Int32} (hj : j < 9) (hf : fS_changeSetting σ x1 x2 = some (r0, σ')) : MT l D ca ad yX3_changeSetting cX3_changeSetting 4 (some .int) 2 42 [.ref (ad (1, j, 0)), .int x1, .int x2] (eS G0 j σ) (some (.int r0)) (eS G0 j σ') := by
  refine met_J (lv := [(0, .ref (ad (1, j, 0))), (1, .int x1), (2, .int x2)]) hi (by decide +kernel) (Nat.le_of_ble_eq_true rfl) rfl (fun p e s m below meth c C0 hr => ?_)
  unfold fS_changeSetting at hf
  refine j_iload_n C0 dX3_changeSetting_0 rfl 1 rfl ?_
  refine j_iload_n C0 dX3_changeSetting_1 rfl 2 rfl ?_
  obtain ⟨q1, hcq1, hf⟩ := bd_some hf
  refine j_callS (As := [.int x1, .int x2]) (rest := []) (stk := [.int q1]) (G2 := (eS G0 j σ)) C0 (c_X2_isInRange hi (G0 := (eS G0 j σ))  hcq1) kw_X3_143 bi_X2_isInRange rfl ⟨by decide, by decide⟩ ⟨Nat.zero_le _, Nat.zero_le _⟩ rfl rfl (Nat.le_of_ble_eq_true rfl) rfl rfl dX3_changeSetting_2 ?_
  refine j_if_ne (tgt := 11) C0 dX3_changeSetting_5 (by decide) (fun c2 => ?_) (fun c2 => ?_)
  · have hf := if_f c2 hf
    refine j_aload_n C0 dX3_changeSetting_11 rfl 0 rfl ?_
    refine j_getr (id2 := (4, j, 0)) C0 fl_X3_20 rl_3_1 (ia hi (id_1 hj)) dX3_changeSetting_12 ?_
    refine j_iload_n C0 dX3_changeSetting_15 rfl 1 rfl ?_
    obtain ⟨q3, hcq3, hf⟩ := bd_some hf
    refine j_callV (As := [.int x1]) (rest := []) (stk := [.int q3]) (G2 := (eS G0 j σ)) C0 (c_X2_valueOf hi (G0 := G0) (j := j) hj hcq3) kw_X3_147 bi_X2_valueOf bx_X2_valueOf (ia hi (id_4 hj)) oc_4 rfl ⟨by decide, by decide⟩ ⟨Nat.zero_le _, Nat.zero_le _⟩ rfl rfl (Nat.le_of_ble_eq_true rfl) rfl rfl dX3_changeSetting_16 ?_
    refine j_istore_n (lv' := [(3, .int q3), (0, .ref (ad (1, j, 0))), (1, .int x1), (2, .int x2)]) C0 dX3_changeSetting_19 rfl (by decide) rfl ?_
    refine j_aload_n C0 dX3_changeSetting_20 rfl 1 rfl ?_
    refine j_getr (id2 := (4, j, 0)) C0 fl_X3_20 rl_3_1 (ia hi (id_1 hj)) dX3_changeSetting_21 ?_
    refine j_iload_n C0 dX3_changeSetting_24 rfl 2 rfl ?_
    refine j_iload_n C0 dX3_changeSetting_25 rfl 3 rfl ?_
    obtain ⟨q4, hcq4, hf⟩ := bd_some hf
    refine j_callV (As := [.int x1, .int x2]) (rest := []) (stk := []) (G2 := (eS G0 j q4)) C0 (c_X2_change hi (G0 := G0) (j := j) hj hcq4) kw_X3_150 bi_X2_change bx_X2_change (ia hi (id_4 hj)) oc_4 rfl ⟨by decide, by decide⟩ ⟨Nat.zero_le _, Nat.zero_le _⟩ rfl rfl (Nat.le_of_ble_eq_true rfl) rfl rfl dX3_changeSetting_26 ?_
    refine j_iload_n C0 dX3_changeSetting_29 rfl 0 rfl ?_
    exact j_iret C0 hr dX3_changeSetting_30 (pr1 hf) (congrArg (fun z => (eS G0 j z)) (pr2 hf))
  have hf := if_t c2 hf
  refine j_ldc (v := -1000001) C0 dX3_changeSetting_8 cw_X3_75 ?_
  exact j_iret C0 hr dX3_changeSetting_10 (pr1 hf) (congrArg (fun z => (eS G0 j z)) (pr2 hf))

set_option maxHeartbeats 4000000 in
set_option maxRecDepth 100000 in
theorem c_X5_set {l : Launch} {D : va_G} {ca : Nat → ClassId} {ad : I3 → Nat} (hi : adI ad) {M0 : Nat → Nat → Int32} {X : XS} {x1 : Int32} {x2 : Int32} {r0 : Int32} {X' : XS}  (hf : fX_set X x1 x2 = some (r0, X')) : MT l D ca ad yX5_set cX5_set 3 (some .int) 3 65 [.ref (ad (0, 0, 0)), .int x1, .int x2] (X.1, X.2, M0) (some (.int r0)) (X'.1, X'.2, M0) := by
  refine met_J (lv := [(0, .ref (ad (0, 0, 0))), (1, .int x1), (2, .int x2)]) hi (by decide +kernel) (Nat.le_of_ble_eq_true rfl) rfl (fun p e s m below meth c C0 hr => ?_)
  unfold fX_set at hf
  refine j_aload_n C0 dX5_set_0 rfl 0 rfl ?_
  refine j_get C0 fl_X5_19 (ia hi id_c0) ⟨_, rfl, rfl⟩ dX5_set_1 ?_
  refine j_aload_n C0 dX5_set_4 rfl 0 rfl ?_
  refine j_getr (id2 := (1, 0, 0)) C0 fl_X5_10 rl_5_0 (ia hi id_c0) dX5_set_5 ?_
  obtain ⟨q1, hcq1, hf⟩ := bd_some hf
  obtain ⟨X2, e3, hf⟩ := lt_some hf
  refine j_callV (As := [.ref (ad (1, 0, 0))]) (rest := []) (stk := []) (G2 := (X2.1, X2.2, M0)) C0 (c_X3_copyFrom hi (R0 := (X.2, M0)) (X.2 0).isLt (by decide) hcq1) kw_X5_40 bi_X3_copyFrom bx_X3_copyFrom (ia hi (id_1 (X.2 0).isLt)) oc_1 rfl ⟨by decide, by decide⟩ ⟨Nat.zero_le _, Nat.zero_le _⟩ rfl rfl (Nat.le_of_ble_eq_true rfl) rfl (by rw [← e3]; try rfl) dX5_set_8 ?_
  refine j_aload_n C0 dX5_set_11 rfl 0 rfl ?_
  refine j_aload_n C0 dX5_set_12 rfl 0 rfl ?_
  refine j_getr (id2 := (1, 0, 0)) C0 fl_X5_10 rl_5_0 (ia hi id_c0) dX5_set_13 ?_
  refine j_iload_n C0 dX5_set_16 rfl 1 rfl ?_
  refine j_iload_n C0 dX5_set_17 rfl 2 rfl ?_
  obtain ⟨q4, hcq4, hf⟩ := bd_some hf
  obtain ⟨X5, e6, hf⟩ := lt_some hf
  refine j_callV (As := [.int x1, .int x2]) (rest := [.ref (ad (0, 0, 0))]) (stk := [.int q4.1, .ref (ad (0, 0, 0))]) (G2 := (X5.1, X5.2, M0)) C0 (c_X3_changeSetting hi (G0 := (X2.1, X2.2, M0)) (j := 0) (by decide) hcq4) kw_X5_71 bi_X3_changeSetting bx_X3_changeSetting (ia hi (id_1 (by decide))) oc_1 (eS_self _ _ _) ⟨by decide, by decide⟩ ⟨Nat.zero_le _, Nat.zero_le _⟩ rfl rfl (Nat.le_of_ble_eq_true rfl) rfl (by rw [← e6]; try rfl) dX5_set_18 ?_
  obtain ⟨q7, hcq7, hf⟩ := bd_some hf
  refine j_callV (As := [.int q4.1]) (rest := []) (stk := [.int q7.1]) (G2 := (q7.2.1, q7.2.2, M0)) C0 (c_X5_changed hi (M0 := M0)  hcq7) kw_X5_48 bi_X5_changed bx_X5_changed (ia hi id_c0) oc_0 rfl ⟨by decide, by decide⟩ ⟨Nat.zero_le _, Nat.zero_le _⟩ rfl rfl (Nat.le_of_ble_eq_true rfl) rfl rfl dX5_set_21 ?_
  exact j_iret C0 hr dX5_set_24 (pr1 hf) (congrArg (fun z => (z.1, z.2, M0)) (pr2 hf))

set_option maxHeartbeats 4000000 in
set_option maxRecDepth 100000 in
theorem c_X1_has {l : Launch} {D : va_G} {ca : Nat → ClassId} {ad : I3 → Nat} (hi : adI ad) {G0 : GS} {j : Nat} {σ : Nat → Int32} {k0 : Nat} {x1 : Int32} {r0 : Int32} (hj : j < 9) (hk0 : k0 < 5) (hf : fK_has σ k0 x1 = some (r0)) : MT l D ca ad yX1_has cX1_has 2 (some .boolean) 0 0 [.ref (ad (3, j, k0)), .int x1] (eS G0 j σ) (some (.int r0)) (eS G0 j σ) := by
  refine met_J (lv := [(0, .ref (ad (3, j, k0))), (1, .int x1)]) hi (by decide +kernel) (Nat.le_of_ble_eq_true rfl) rfl (fun p e s m below meth c C0 hr => ?_)
  unfold fK_has at hf
  refine j_iload_n C0 dX1_has_0 rfl 1 rfl ?_
  by_cases c1 : x1 = 2
  · have hf := if_t c1 hf
    refine j_lookupEq C0 2 (off := 35) (tgt := 36) c1 dX1_has_1 (by decide) (by decide) (by decide) ?_
    refine j_aload_n C0 dX1_has_36 rfl 0 rfl ?_
    refine j_geti (x := (σ (KI k0 0))) C0 fl_X1_15 (sl_1_1 hj hk0) (ia hi (id_3 hj hk0)) eS_get dX1_has_37 ?_
    refine j_if_eq (tgt := 47) C0 dX1_has_40 (by decide) (fun c2 => ?_) (fun c2 => ?_)
    · have hf := if_t c2 hf
      refine j_iconst (v := 0) C0 dX1_has_47 rfl ?_
      exact j_zret C0 hr rfl dX1_has_48 (so hf) rfl
    have hf := if_f c2 hf
    refine j_iconst (v := 1) C0 dX1_has_43 rfl ?_
    refine j_goto (tgt := 48) C0 dX1_has_44 (by decide) ?_
    exact j_zret C0 hr rfl dX1_has_48 (so hf) rfl
  have hf := if_f c1 hf
  by_cases c3 : x1 = 7
  · have hf := if_t c3 hf
    refine j_lookupEq C0 7 (off := 48) (tgt := 49) c3 dX1_has_1 (by decide) (by decide) (by decide) ?_
    refine j_aload_n C0 dX1_has_49 rfl 0 rfl ?_
    refine j_geti (x := (σ (KI k0 0))) C0 fl_X1_15 (sl_1_1 hj hk0) (ia hi (id_3 hj hk0)) eS_get dX1_has_50 ?_
    refine j_iconst (v := 2) C0 dX1_has_53 rfl ?_
    refine j_icmp_ne (tgt := 61) C0 dX1_has_54 (by decide) (fun c4 => ?_) (fun c4 => ?_)
    · have hf := if_f c4 hf
      refine j_iconst (v := 0) C0 dX1_has_61 rfl ?_
      exact j_zret C0 hr rfl dX1_has_62 (so hf) rfl
    have hf := if_t c4 hf
    refine j_iconst (v := 1) C0 dX1_has_57 rfl ?_
    refine j_goto (tgt := 62) C0 dX1_has_58 (by decide) ?_
    exact j_zret C0 hr rfl dX1_has_62 (so hf) rfl
  have hf := if_f c3 hf
  by_cases c5 : x1 = 8
  · have hf := if_t c5 hf
    refine j_lookupEq C0 8 (off := 62) (tgt := 63) c5 dX1_has_1 (by decide) (by decide) (by decide) ?_
    refine j_aload_n C0 dX1_has_63 rfl 0 rfl ?_
    refine j_geti (x := (σ (KI k0 5))) C0 fl_X1_24 (sl_1_4 hj hk0) (ia hi (id_3 hj hk0)) eS_get dX1_has_64 ?_
    refine j_aload_n C0 dX1_has_67 rfl 0 rfl ?_
    refine j_get C0 fl_X1_9 (ia hi (id_3 hj hk0)) ⟨_, rfl, rfl⟩ dX1_has_68 ?_
    refine j_icmp_eq (tgt := 78) C0 dX1_has_71 (by decide) (fun c6 => ?_) (fun c6 => ?_)
    · have hf := if_t c6 hf
      refine j_iconst (v := 0) C0 dX1_has_78 rfl ?_
      exact j_zret C0 hr rfl dX1_has_79 (so hf) rfl
    have hf := if_f c6 hf
    refine j_iconst (v := 1) C0 dX1_has_74 rfl ?_
    refine j_goto (tgt := 79) C0 dX1_has_75 (by decide) ?_
    exact j_zret C0 hr rfl dX1_has_79 (so hf) rfl
  have hf := if_f c5 hf
  refine j_lookup (off := 79) (tgt := 80) C0 dX1_has_1 (by decide) ((lv_osw c1 rfl).trans ((lv_osw c3 rfl).trans ((lv_osw c5 rfl).trans (rfl)))) (by decide) ?_
  refine j_iload_n C0 dX1_has_80 rfl 1 rfl ?_
  refine j_if_lt (tgt := 94) C0 dX1_has_81 (by decide) (fun c7 => ?_) (fun c7 => ?_)
  · have hf := if_t c7 hf
    refine j_iconst (v := 0) C0 dX1_has_94 rfl ?_
    exact j_zret C0 hr rfl dX1_has_95 (so hf) rfl
  have hf := if_f c7 hf
  refine j_iload_n C0 dX1_has_84 rfl 1 rfl ?_
  refine j_bipush (v := 11) C0 dX1_has_85 rfl ?_
  refine j_icmp_gt (tgt := 94) C0 dX1_has_87 (by decide) (fun c8 => ?_) (fun c8 => ?_)
  · have hf := if_t c8 hf
    refine j_iconst (v := 0) C0 dX1_has_94 rfl ?_
    exact j_zret C0 hr rfl dX1_has_95 (so hf) rfl
  have hf := if_f c8 hf
  refine j_iconst (v := 1) C0 dX1_has_90 rfl ?_
  refine j_goto (tgt := 95) C0 dX1_has_91 (by decide) ?_
  exact j_zret C0 hr rfl dX1_has_95 (so hf) rfl

