set_option maxHeartbeats 4000000 in
set_option maxRecDepth 100000 in
theorem c_X1_figure {l : Launch} {D : va_G} {ca : Nat → ClassId} {ad : I3 → Nat} (hi : adI ad) {G0 : GS} {j : Nat} {σ : Nat → Int32} {k0 : Nat} {x1 : Int32} {r0 : Int32} (hj : j < 9) (hk0 : k0 < 5) (hf : fK_figure σ k0 x1 = some (r0)) : MT l D ca ad yX1_figure cX1_figure 2 (some .int) 2 41 [.ref (ad (3, j, k0)), .int x1] (eS G0 j σ) (some (.int r0)) (eS G0 j σ) := by
  refine met_J (lv := [(0, .ref (ad (3, j, k0))), (1, .int x1)]) hi (by decide +kernel) (Nat.le_of_ble_eq_true rfl) rfl (fun p e s m below meth c C0 hr => ?_)
  unfold fK_figure at hf
  refine j_iload_n C0 dX1_figure_0 rfl 1 rfl ?_
  by_cases c1 : (x1.toInt < 0 ∨ 10 < x1.toInt)
  · have hf := if_t c1 hf
    refine j_tableOut (tgt := 115) C0 dX1_figure_1 c1 (by decide) ?_
    refine j_aload_n C0 dX1_figure_115 rfl 0 rfl ?_
    refine j_geti (x := (σ (KI k0 12))) C0 fl_X1_39 (sl_1_9 hj hk0) (ia hi (id_3 hj hk0)) eS_get dX1_figure_116 ?_
    exact j_iret C0 hr dX1_figure_119 (so hf) rfl
  have hf := if_f c1 hf
  by_cases c2 : x1 = 0
  · have hf := if_t c2 hf
    refine j_tableEq C0 0 (tgt := 60) c2 dX1_figure_1 (by decide) (by decide) rfl (by decide) ?_
    refine j_aload_n C0 dX1_figure_60 rfl 0 rfl ?_
    refine j_geti (x := (σ (KI k0 0))) C0 fl_X1_15 (sl_1_1 hj hk0) (ia hi (id_3 hj hk0)) eS_get dX1_figure_61 ?_
    exact j_iret C0 hr dX1_figure_64 (so hf) rfl
  have hf := if_f c2 hf
  by_cases c3 : x1 = 1
  · have hf := if_t c3 hf
    refine j_tableEq C0 1 (tgt := 65) c3 dX1_figure_1 (by decide) (by decide) rfl (by decide) ?_
    refine j_aload_n C0 dX1_figure_65 rfl 0 rfl ?_
    refine j_geti (x := (σ (KI k0 3))) C0 fl_X1_27 (sl_1_5 hj hk0) (ia hi (id_3 hj hk0)) eS_get dX1_figure_66 ?_
    exact j_iret C0 hr dX1_figure_69 (so hf) rfl
  have hf := if_f c3 hf
  by_cases c4 : x1 = 2
  · have hf := if_t c4 hf
    refine j_tableEq C0 2 (tgt := 70) c4 dX1_figure_1 (by decide) (by decide) rfl (by decide) ?_
    refine j_aload_n C0 dX1_figure_70 rfl 0 rfl ?_
    refine j_geti (x := (σ (KI k0 4))) C0 fl_X1_30 (sl_1_6 hj hk0) (ia hi (id_3 hj hk0)) eS_get dX1_figure_71 ?_
    exact j_iret C0 hr dX1_figure_74 (so hf) rfl
  have hf := if_f c4 hf
  by_cases c5 : x1 = 3
  · have hf := if_t c5 hf
    refine j_tableEq C0 3 (tgt := 75) c5 dX1_figure_1 (by decide) (by decide) rfl (by decide) ?_
    refine j_aload_n C0 dX1_figure_75 rfl 0 rfl ?_
    refine j_geti (x := (σ (KI k0 1))) C0 fl_X1_18 (sl_1_2 hj hk0) (ia hi (id_3 hj hk0)) eS_get dX1_figure_76 ?_
    exact j_iret C0 hr dX1_figure_79 (so hf) rfl
  have hf := if_f c5 hf
  by_cases c6 : x1 = 4
  · have hf := if_t c6 hf
    refine j_tableEq C0 4 (tgt := 80) c6 dX1_figure_1 (by decide) (by decide) rfl (by decide) ?_
    refine j_aload_n C0 dX1_figure_80 rfl 0 rfl ?_
    refine j_geti (x := (σ (KI k0 2))) C0 fl_X1_21 (sl_1_3 hj hk0) (ia hi (id_3 hj hk0)) eS_get dX1_figure_81 ?_
    exact j_iret C0 hr dX1_figure_84 (so hf) rfl
  have hf := if_f c6 hf
  by_cases c7 : x1 = 5
  · have hf := if_t c7 hf
    refine j_tableEq C0 5 (tgt := 85) c7 dX1_figure_1 (by decide) (by decide) rfl (by decide) ?_
    refine j_aload_n C0 dX1_figure_85 rfl 0 rfl ?_
    refine j_geti (x := (σ (KI k0 6))) C0 fl_X1_33 (sl_1_7 hj hk0) (ia hi (id_3 hj hk0)) eS_get dX1_figure_86 ?_
    exact j_iret C0 hr dX1_figure_89 (so hf) rfl
  have hf := if_f c7 hf
  by_cases c8 : x1 = 6
  · have hf := if_t c8 hf
    refine j_tableEq C0 6 (tgt := 90) c8 dX1_figure_1 (by decide) (by decide) rfl (by decide) ?_
    refine j_aload_n C0 dX1_figure_90 rfl 0 rfl ?_
    obtain ⟨q9, hcq9, hf⟩ := bd_some hf
    refine j_callV (As := []) (rest := []) (stk := [.int q9]) (G2 := (eS G0 j σ)) C0 (c_X1_nextDrip hi (G0 := G0) (j := j) hj hk0 hcq9) kw_X1_60 bi_X1_nextDrip bx_X1_nextDrip (ia hi (id_3 hj hk0)) oc_3 rfl ⟨by decide, by decide⟩ ⟨Nat.zero_le _, Nat.zero_le _⟩ rfl rfl (Nat.le_of_ble_eq_true rfl) rfl rfl dX1_figure_91 ?_
    exact j_iret C0 hr dX1_figure_94 (so hf) rfl
  have hf := if_f c8 hf
  by_cases c10 : x1 = 7
  · have hf := if_t c10 hf
    refine j_tableEq C0 7 (tgt := 95) c10 dX1_figure_1 (by decide) (by decide) rfl (by decide) ?_
    refine j_aload_n C0 dX1_figure_95 rfl 0 rfl ?_
    refine j_geti (x := (σ (KI k0 8))) C0 fl_X1_42 (sl_1_10 hj hk0) (ia hi (id_3 hj hk0)) eS_get dX1_figure_96 ?_
    exact j_iret C0 hr dX1_figure_99 (so hf) rfl
  have hf := if_f c10 hf
  by_cases c11 : x1 = 8
  · have hf := if_t c11 hf
    refine j_tableEq C0 8 (tgt := 100) c11 dX1_figure_1 (by decide) (by decide) rfl (by decide) ?_
    refine j_aload_n C0 dX1_figure_100 rfl 0 rfl ?_
    refine j_geti (x := (σ (KI k0 5))) C0 fl_X1_24 (sl_1_4 hj hk0) (ia hi (id_3 hj hk0)) eS_get dX1_figure_101 ?_
    exact j_iret C0 hr dX1_figure_104 (so hf) rfl
  have hf := if_f c11 hf
  by_cases c12 : x1 = 9
  · have hf := if_t c12 hf
    refine j_tableEq C0 9 (tgt := 105) c12 dX1_figure_1 (by decide) (by decide) rfl (by decide) ?_
    refine j_aload_n C0 dX1_figure_105 rfl 0 rfl ?_
    refine j_geti (x := (σ (KI k0 10))) C0 fl_X1_48 (sl_1_12 hj hk0) (ia hi (id_3 hj hk0)) eS_get dX1_figure_106 ?_
    exact j_iret C0 hr dX1_figure_109 (so hf) rfl
  have hf := if_f c12 hf
  by_cases c13 : x1 = 10
  · have hf := if_t c13 hf
    refine j_tableEq C0 10 (tgt := 110) c13 dX1_figure_1 (by decide) (by decide) rfl (by decide) ?_
    refine j_aload_n C0 dX1_figure_110 rfl 0 rfl ?_
    refine j_geti (x := (σ (KI k0 11))) C0 fl_X1_51 (sl_1_13 hj hk0) (ia hi (id_3 hj hk0)) eS_get dX1_figure_111 ?_
    exact j_iret C0 hr dX1_figure_114 (so hf) rfl
  have hf := if_f c13 hf
  exact (none_ne hf).elim

set_option maxHeartbeats 4000000 in
set_option maxRecDepth 100000 in
theorem c_X5_clockOf {l : Launch} {D : va_G} {ca : Nat → ClassId} {ad : I3 → Nat} (hi : adI ad) {M0 : Nat → Nat → Int32} {X : XS} {x1 : Int32} {x2 : Int32} {r0 : Int32}  (hf : fX_clockOf X x1 x2 = some (r0)) : MT l D ca ad yX5_clockOf cX5_clockOf 4 (some .int) 3 62 [.ref (ad (0, 0, 0)), .int x1, .int x2] (X.1, X.2, M0) (some (.int r0)) (X.1, X.2, M0) := by
  refine met_J (lv := [(0, .ref (ad (0, 0, 0))), (1, .int x1), (2, .int x2)]) hi (by decide +kernel) (Nat.le_of_ble_eq_true rfl) rfl (fun p e s m below meth c C0 hr => ?_)
  unfold fX_clockOf at hf
  refine j_aload_n C0 dX5_clockOf_0 rfl 0 rfl ?_
  refine j_getr (id2 := (1, 0, 0)) C0 fl_X5_10 rl_5_0 (ia hi id_c0) dX5_clockOf_1 ?_
  refine j_iload_n C0 dX5_clockOf_4 rfl 1 rfl ?_
  obtain ⟨q1, hcq1, hf⟩ := bd_some hf
  rcases q1 with _ | kq1
  · have hf := onN_none hf
    refine j_callV (As := [.int x1]) (rest := []) (stk := [.null]) (G2 := (X.1, X.2, M0)) C0 (c_X3_clockAt hi (G0 := (X.1, X.2, M0)) (j := 0) (by decide) hcq1) kw_X5_84 bi_X3_clockAt bx_X3_clockAt (ia hi (id_1 (by decide))) oc_1 (eS_self _ _ _) ⟨by decide, by decide⟩ ⟨Nat.zero_le _, Nat.zero_le _⟩ rfl rfl (Nat.le_of_ble_eq_true rfl) rfl (eS_self _ _ _) dX5_clockOf_5 ?_
    refine j_astore_nN (lv' := [(3, .null), (0, .ref (ad (0, 0, 0))), (1, .int x1), (2, .int x2)]) C0 dX5_clockOf_8 rfl (by decide) rfl ?_
    refine j_aload_nN C0 dX5_clockOf_9 rfl 0 rfl ?_
    refine j_ifnullN (tgt := 23) C0 dX5_clockOf_10 (by decide) ?_
    refine j_ldc (v := -1000001) C0 dX5_clockOf_23 cw_X5_78 ?_
    exact j_iret C0 hr dX5_clockOf_25 (so hf) rfl
  have hf := onN_some hf
  have hk2 := clockAt_lt hcq1
  refine j_callV (As := [.int x1]) (rest := []) (stk := [.ref (ad (3, 0, kq1))]) (G2 := (X.1, X.2, M0)) C0 (c_X3_clockAt hi (G0 := (X.1, X.2, M0)) (j := 0) (by decide) hcq1) kw_X5_84 bi_X3_clockAt bx_X3_clockAt (ia hi (id_1 (by decide))) oc_1 (eS_self _ _ _) ⟨by decide, by decide⟩ ⟨Nat.zero_le _, Nat.zero_le _⟩ rfl rfl (Nat.le_of_ble_eq_true rfl) rfl (eS_self _ _ _) dX5_clockOf_5 ?_
  refine j_astore_n (lv' := [(3, .ref (ad (3, 0, kq1))), (0, .ref (ad (0, 0, 0))), (1, .int x1), (2, .int x2)]) C0 dX5_clockOf_8 rfl (by decide) rfl ?_
  refine j_aload_n C0 dX5_clockOf_9 rfl 0 rfl ?_
  refine j_ifnull C0 dX5_clockOf_10 ?_
  refine j_iload_n C0 dX5_clockOf_13 rfl 3 rfl ?_
  refine j_if_lt (tgt := 23) C0 dX5_clockOf_14 (by decide) (fun c3 => ?_) (fun c3 => ?_)
  · have hf := if_t c3 hf
    refine j_ldc (v := -1000001) C0 dX5_clockOf_23 cw_X5_78 ?_
    exact j_iret C0 hr dX5_clockOf_25 (so hf) rfl
  have hf := if_f c3 hf
  refine j_iload_n C0 dX5_clockOf_17 rfl 3 rfl ?_
  refine j_bipush (v := 11) C0 dX5_clockOf_18 rfl ?_
  refine j_icmp_le (tgt := 26) C0 dX5_clockOf_20 (by decide) (fun c4 => ?_) (fun c4 => ?_)
  · have hf := if_t c4 hf
    refine j_aload_n C0 dX5_clockOf_26 rfl 0 rfl ?_
    refine j_iload_n C0 dX5_clockOf_27 rfl 3 rfl ?_
    obtain ⟨q5, hcq5, hf⟩ := bd_some hf
    refine j_callV (As := [.int x2]) (rest := []) (stk := [.int q5]) (G2 := (X.1, X.2, M0)) C0 (c_X1_has hi (G0 := (X.1, X.2, M0)) (j := 0) (by decide) hk2 hcq5) kw_X5_88 bi_X1_has bx_X1_has (ia hi (id_3 (by decide) hk2)) oc_3 (eS_self _ _ _) ⟨by decide, by decide⟩ ⟨Nat.zero_le _, Nat.zero_le _⟩ rfl rfl (Nat.le_of_ble_eq_true rfl) rfl (eS_self _ _ _) dX5_clockOf_28 ?_
    refine j_if_eq (tgt := 42) C0 dX5_clockOf_31 (by decide) (fun c6 => ?_) (fun c6 => ?_)
    · have hf := if_t c6 hf
      refine j_ldc (v := -1000004) C0 dX5_clockOf_42 cw_X5_96 ?_
      exact j_iret C0 hr dX5_clockOf_44 (so hf) rfl
    have hf := if_f c6 hf
    refine j_aload_n C0 dX5_clockOf_34 rfl 0 rfl ?_
    refine j_iload_n C0 dX5_clockOf_35 rfl 3 rfl ?_
    obtain ⟨q7, hcq7, hf⟩ := bd_some hf
    refine j_callV (As := [.int x2]) (rest := []) (stk := [.int q7]) (G2 := (X.1, X.2, M0)) C0 (c_X1_figure hi (G0 := (X.1, X.2, M0)) (j := 0) (by decide) hk2 hcq7) kw_X5_93 bi_X1_figure bx_X1_figure (ia hi (id_3 (by decide) hk2)) oc_3 (eS_self _ _ _) ⟨by decide, by decide⟩ ⟨Nat.zero_le _, Nat.zero_le _⟩ rfl rfl (Nat.le_of_ble_eq_true rfl) rfl (eS_self _ _ _) dX5_clockOf_36 ?_
    refine j_goto (tgt := 44) C0 dX5_clockOf_39 (by decide) ?_
    exact j_iret C0 hr dX5_clockOf_44 (so hf) rfl
  have hf := if_f c4 hf
  refine j_ldc (v := -1000001) C0 dX5_clockOf_23 cw_X5_78 ?_
  exact j_iret C0 hr dX5_clockOf_25 (so hf) rfl

set_option maxHeartbeats 4000000 in
set_option maxRecDepth 100000 in
theorem c_X5_hour {l : Launch} {D : va_G} {ca : Nat → ClassId} {ad : I3 → Nat} (hi : adI ad) {M0 : Nat → Nat → Int32} {X : XS} {x1 : Int32} {x2 : Int32} {r0 : Int32}  (hf : fX_hour X x1 x2 = some (r0)) : MT l D ca ad yX5_hour cX5_hour 4 (some .int) 4 84 [.ref (ad (0, 0, 0)), .int x1, .int x2] (X.1, X.2, M0) (some (.int r0)) (X.1, X.2, M0) := by
  refine met_J (lv := [(0, .ref (ad (0, 0, 0))), (1, .int x1), (2, .int x2)]) hi (by decide +kernel) (Nat.le_of_ble_eq_true rfl) rfl (fun p e s m below meth c C0 hr => ?_)
  unfold fX_hour at hf
  refine j_aload_n C0 dX5_hour_0 rfl 0 rfl ?_
  refine j_getr (id2 := (1, 0, 0)) C0 fl_X5_10 rl_5_0 (ia hi id_c0) dX5_hour_1 ?_
  refine j_iload_n C0 dX5_hour_4 rfl 1 rfl ?_
  obtain ⟨q1, hcq1, hf⟩ := bd_some hf
  rcases q1 with _ | kq1
  · have hf := onN_none hf
    refine j_callV (As := [.int x1]) (rest := []) (stk := [.null]) (G2 := (X.1, X.2, M0)) C0 (c_X3_clockAt hi (G0 := (X.1, X.2, M0)) (j := 0) (by decide) hcq1) kw_X5_84 bi_X3_clockAt bx_X3_clockAt (ia hi (id_1 (by decide))) oc_1 (eS_self _ _ _) ⟨by decide, by decide⟩ ⟨Nat.zero_le _, Nat.zero_le _⟩ rfl rfl (Nat.le_of_ble_eq_true rfl) rfl (eS_self _ _ _) dX5_hour_5 ?_
    refine j_astore_nN (lv' := [(3, .null), (0, .ref (ad (0, 0, 0))), (1, .int x1), (2, .int x2)]) C0 dX5_hour_8 rfl (by decide) rfl ?_
    refine j_aload_nN C0 dX5_hour_9 rfl 0 rfl ?_
    refine j_ifnullN (tgt := 22) C0 dX5_hour_10 (by decide) ?_
    refine j_ldc (v := -1000001) C0 dX5_hour_22 cw_X5_78 ?_
    exact j_iret C0 hr dX5_hour_24 (so hf) rfl
  have hf := onN_some hf
  have hk2 := clockAt_lt hcq1
  refine j_callV (As := [.int x1]) (rest := []) (stk := [.ref (ad (3, 0, kq1))]) (G2 := (X.1, X.2, M0)) C0 (c_X3_clockAt hi (G0 := (X.1, X.2, M0)) (j := 0) (by decide) hcq1) kw_X5_84 bi_X3_clockAt bx_X3_clockAt (ia hi (id_1 (by decide))) oc_1 (eS_self _ _ _) ⟨by decide, by decide⟩ ⟨Nat.zero_le _, Nat.zero_le _⟩ rfl rfl (Nat.le_of_ble_eq_true rfl) rfl (eS_self _ _ _) dX5_hour_5 ?_
  refine j_astore_n (lv' := [(3, .ref (ad (3, 0, kq1))), (0, .ref (ad (0, 0, 0))), (1, .int x1), (2, .int x2)]) C0 dX5_hour_8 rfl (by decide) rfl ?_
  refine j_aload_n C0 dX5_hour_9 rfl 0 rfl ?_
  refine j_ifnull C0 dX5_hour_10 ?_
  refine j_iload_n C0 dX5_hour_13 rfl 3 rfl ?_
  refine j_if_lt (tgt := 22) C0 dX5_hour_14 (by decide) (fun c3 => ?_) (fun c3 => ?_)
  · have hf := if_t c3 hf
    refine j_ldc (v := -1000001) C0 dX5_hour_22 cw_X5_78 ?_
    exact j_iret C0 hr dX5_hour_24 (so hf) rfl
  have hf := if_f c3 hf
  refine j_iload_n C0 dX5_hour_17 rfl 3 rfl ?_
  refine j_iconst (v := 2) C0 dX5_hour_18 rfl ?_
  refine j_icmp_le (tgt := 25) C0 dX5_hour_19 (by decide) (fun c4 => ?_) (fun c4 => ?_)
  · have hf := if_t c4 hf
    refine j_iload_n C0 dX5_hour_25 rfl 3 rfl ?_
    refine j_if_ne (tgt := 38) C0 dX5_hour_26 (by decide) (fun c5 => ?_) (fun c5 => ?_)
    · have hf := if_f c5 hf
      refine j_iload_n C0 dX5_hour_38 rfl 3 rfl ?_
      refine j_iconst (v := 1) C0 dX5_hour_39 rfl ?_
      refine j_icmp_ne (tgt := 58) C0 dX5_hour_40 (by decide) (fun c6 => ?_) (fun c6 => ?_)
      · have hf := if_f c6 hf
        refine j_aload_n C0 dX5_hour_58 rfl 1 rfl ?_
        refine j_getr (id2 := (1, 0, 0)) C0 fl_X5_10 rl_5_0 (ia hi id_c0) dX5_hour_59 ?_
        obtain ⟨q7, hcq7, hf⟩ := bd_some hf
        refine j_callV (As := []) (rest := []) (stk := [.int q7]) (G2 := (X.1, X.2, M0)) C0 (c_X3_trueHour hi (G0 := (X.1, X.2, M0)) (j := 0) (by decide) hcq7) kw_X5_105 bi_X3_trueHour bx_X3_trueHour (ia hi (id_1 (by decide))) oc_1 (eS_self _ _ _) ⟨by decide, by decide⟩ ⟨Nat.zero_le _, Nat.zero_le _⟩ rfl rfl (Nat.le_of_ble_eq_true rfl) rfl (eS_self _ _ _) dX5_hour_62 ?_
        exact j_iret C0 hr dX5_hour_65 (so hf) rfl
      have hf := if_t c6 hf
      refine j_aload_n C0 dX5_hour_43 rfl 1 rfl ?_
      refine j_getr (id2 := (1, 0, 0)) C0 fl_X5_10 rl_5_0 (ia hi id_c0) dX5_hour_44 ?_
      refine j_aload_n C0 dX5_hour_47 rfl 0 rfl ?_
      obtain ⟨q8, hcq8, hf⟩ := bd_some hf
      refine j_callV (As := [.ref (ad (3, 0, kq1))]) (rest := []) (stk := [.int q8]) (G2 := (X.1, X.2, M0)) C0 (c_X3_errorOf hi (G0 := (X.1, X.2, M0)) (j := 0) (by decide) hk2 hcq8) kw_X5_101 bi_X3_errorOf bx_X3_errorOf (ia hi (id_1 (by decide))) oc_1 (eS_self _ _ _) ⟨by decide, by decide⟩ ⟨Nat.zero_le _, Nat.zero_le _⟩ rfl rfl (Nat.le_of_ble_eq_true rfl) rfl (eS_self _ _ _) dX5_hour_48 ?_
      refine j_sipush (v := 10000) C0 dX5_hour_51 rfl ?_
      refine j_iadd C0 dX5_hour_54 ?_
      refine j_goto (tgt := 65) C0 dX5_hour_55 (by decide) ?_
      exact j_iret C0 hr dX5_hour_65 (so hf) rfl
    have hf := if_t c5 hf
    refine j_aload_n C0 dX5_hour_29 rfl 0 rfl ?_
    obtain ⟨q9, hcq9, hf⟩ := bd_some hf
    refine j_callV (As := []) (rest := []) (stk := [.int q9]) (G2 := (X.1, X.2, M0)) C0 (c_X1_hourTold hi (G0 := (X.1, X.2, M0)) (j := 0) (by decide) hk2 hcq9) kw_X5_97 bi_X1_hourTold bx_X1_hourTold (ia hi (id_3 (by decide) hk2)) oc_3 (eS_self _ _ _) ⟨by decide, by decide⟩ ⟨Nat.zero_le _, Nat.zero_le _⟩ rfl rfl (Nat.le_of_ble_eq_true rfl) rfl (eS_self _ _ _) dX5_hour_30 ?_
    refine j_sipush (v := 10000) C0 dX5_hour_33 rfl ?_
    refine j_iadd C0 dX5_hour_36 ?_
    exact j_iret C0 hr dX5_hour_37 (so hf) rfl
  have hf := if_f c4 hf
  refine j_ldc (v := -1000001) C0 dX5_hour_22 cw_X5_78 ?_
  exact j_iret C0 hr dX5_hour_24 (so hf) rfl

set_option maxHeartbeats 4000000 in
set_option maxRecDepth 100000 in
theorem c_X3_together {l : Launch} {D : va_G} {ca : Nat → ClassId} {ad : I3 → Nat} (hi : adI ad) {G0 : GS} {j : Nat} {σ : Nat → Int32} {x1 : Int32} {r0 : Int32} (hj : j < 9) (hf : fS_together σ x1 = some (r0)) : MT l D ca ad yX3_together cX3_together 4 (some .int) 3 62 [.ref (ad (1, j, 0)), .int x1] (eS G0 j σ) (some (.int r0)) (eS G0 j σ) := by
  refine met_J (lv := [(0, .ref (ad (1, j, 0))), (1, .int x1)]) hi (by decide +kernel) (Nat.le_of_ble_eq_true rfl) rfl (fun p e s m below meth c C0 hr => ?_)
  have L4 : ∀ (n : Nat) (σ : Nat → Int32) (y1 : Int32) (y2 : Int32) (y3 : Int32), fS_together_L4 n σ y1 y2 y3 = some (r0) → J D ca ad p l e ({ frames := 3, cells := 0, slots := 0, locals := 62 }) s m [.ref (ad (1, j, 0)), .int x1].toArray below meth c 0 0 (MQ below (post D ca ad (some (.int r0)) (eS G0 j σ)) [.ref (ad (1, j, 0)), .int x1].toArray s 0 0 (adA ad)) 4 (eS G0 j σ) 4 [(0, .ref (ad (1, j, 0))), (1, .int y1), (2, .int y2), (3, .int y3)] [] := by
    intro n
    induction n with
    | zero =>
      intro σ y1 y2 y3 hf
      exact (none_ne hf).elim
    | succ n ih =>
      intro σ y1 y2 y3 hf
      rw [fS_together_L4] at hf
      refine j_iload_n C0 dX3_together_4 rfl 3 rfl ?_
      refine j_aload_n C0 dX3_together_5 rfl 0 rfl ?_
      refine j_geti (x := (σ 19)) C0 fl_X3_48 (sl_3_3 hj) (ia hi (id_1 hj)) eS_get dX3_together_6 ?_
      refine j_icmp_ge (tgt := 40) C0 dX3_together_9 (by decide) (fun c1 => ?_) (fun c1 => ?_)
      · have hf := if_t c1 hf
        refine j_iload_n C0 dX3_together_40 rfl 2 rfl ?_
        exact j_iret C0 hr dX3_together_41 (so hf) rfl
      have hf := if_f c1 hf
      refine j_iload_n C0 dX3_together_12 rfl 3 rfl ?_
      refine j_aload_n C0 dX3_together_13 rfl 0 rfl ?_
      refine j_getr (id2 := (2, j, 0)) C0 fl_X3_11 rl_3_0 (ia hi (id_1 hj)) dX3_together_14 ?_
      refine j_alenq (t0 := 3) (n0 := 5) (f := fun i => ad (3, j, i)) (v := (5 : Int32)) C0 rfl rfl (ia hi (id_2 hj)) rfl dX3_together_17 ?_
      refine j_icmp_ge (tgt := 40) C0 dX3_together_18 (by decide) (fun c2 => ?_) (fun c2 => ?_)
      · have hf := if_t c2 hf
        refine j_iload_n C0 dX3_together_40 rfl 2 rfl ?_
        exact j_iret C0 hr dX3_together_41 (so hf) rfl
      have hf := if_f c2 hf
      refine j_iload_n C0 dX3_together_21 rfl 2 rfl ?_
      refine j_aload_n C0 dX3_together_22 rfl 0 rfl ?_
      refine j_getr (id2 := (2, j, 0)) C0 fl_X3_11 rl_3_0 (ia hi (id_1 hj)) dX3_together_23 ?_
      refine j_iload_n C0 dX3_together_26 rfl 3 rfl ?_
      obtain ⟨h3, hf⟩ := gd_some hf
      refine j_aldq (t0 := 3) (n0 := 5) (f := fun i => ad (3, j, i)) C0 rfl rfl (ia hi (id_2 hj)) h3 dX3_together_27 ?_
      refine j_iload_n C0 dX3_together_28 rfl 1 rfl ?_
      obtain ⟨q4, hcq4, hf⟩ := bd_some hf
      refine j_callV (As := [.int y1]) (rest := [.int y2]) (stk := [.int q4, .int y2]) (G2 := (eS G0 j σ)) C0 (c_X1_figure hi (G0 := G0) (j := j) hj (inb_lt h3) hcq4) kw_X3_203 bi_X1_figure bx_X1_figure (ia hi (id_3 hj (inb_lt h3))) oc_3 rfl ⟨by decide, by decide⟩ ⟨Nat.zero_le _, Nat.zero_le _⟩ rfl rfl (Nat.le_of_ble_eq_true rfl) rfl rfl dX3_together_29 ?_
      refine j_iadd C0 dX3_together_32 ?_
      refine j_istore_n (lv' := [(2, .int (y2 + q4)), (0, .ref (ad (1, j, 0))), (1, .int y1), (3, .int y3)]) C0 dX3_together_33 rfl (by decide) rfl ?_
      refine j_iinc (v := (y3 + 1)) (lv' := [(3, .int (y3 + 1)), (2, .int (y2 + q4)), (0, .ref (ad (1, j, 0))), (1, .int y1)]) C0 dX3_together_34 3 rfl rfl (by decide) rfl ?_
      refine j_goto (tgt := 4) C0 dX3_together_37 (by decide) ?_
      exact j_sub [2, 3, 1, 0] rfl (ih σ y1 (y2 + q4) (y3 + 1) hf)
  unfold fS_together at hf
  refine j_iconst (v := 0) C0 dX3_together_0 rfl ?_
  refine j_istore_n (lv' := [(2, .int (0 : Int32)), (0, .ref (ad (1, j, 0))), (1, .int x1)]) C0 dX3_together_1 rfl (by decide) rfl ?_
  refine j_iconst (v := 0) C0 dX3_together_2 rfl ?_
  refine j_istore_n (lv' := [(3, .int (0 : Int32)), (2, .int (0 : Int32)), (0, .ref (ad (1, j, 0))), (1, .int x1)]) C0 dX3_together_3 rfl (by decide) rfl ?_
  exact j_sub [2, 3, 1, 0] rfl (L4 fuel σ x1 (0 : Int32) (0 : Int32) hf)

set_option maxHeartbeats 4000000 in
set_option maxRecDepth 100000 in
theorem c_X3_allWater {l : Launch} {D : va_G} {ca : Nat → ClassId} {ad : I3 → Nat} (hi : adI ad) {G0 : GS} {j : Nat} {σ : Nat → Int32} {r0 : Int32} (hj : j < 9) (hf : fS_allWater σ = some (r0)) : MT l D ca ad yX3_allWater cX3_allWater 1 (some .int) 4 85 [.ref (ad (1, j, 0))] (eS G0 j σ) (some (.int r0)) (eS G0 j σ) := by
  refine met_J (lv := [(0, .ref (ad (1, j, 0)))]) hi (by decide +kernel) (Nat.le_of_ble_eq_true rfl) rfl (fun p e s m below meth c C0 hr => ?_)
  unfold fS_allWater at hf
  refine j_aload_n C0 dX3_allWater_0 rfl 0 rfl ?_
  refine j_geti (x := (σ 7)) C0 fl_X3_31 (sl_3_5 hj) (ia hi (id_1 hj)) eS_get dX3_allWater_1 ?_
  refine j_aload_n C0 dX3_allWater_4 rfl 0 rfl ?_
  refine j_iconst (v := 1) C0 dX3_allWater_5 rfl ?_
  obtain ⟨q1, hcq1, hf⟩ := bd_some hf
  refine j_callV (As := [.int (1 : Int32)]) (rest := [.int (σ 7)]) (stk := [.int q1, .int (σ 7)]) (G2 := (eS G0 j σ)) C0 (c_X3_together hi (G0 := G0) (j := j) hj hcq1) kw_X3_206 bi_X3_together bx_X3_together (ia hi (id_1 hj)) oc_1 rfl ⟨by decide, by decide⟩ ⟨Nat.zero_le _, Nat.zero_le _⟩ rfl rfl (Nat.le_of_ble_eq_true rfl) rfl rfl dX3_allWater_6 ?_
  refine j_iadd C0 dX3_allWater_9 ?_
  refine j_aload_n C0 dX3_allWater_10 rfl 0 rfl ?_
  refine j_iconst (v := 2) C0 dX3_allWater_11 rfl ?_
  obtain ⟨q2, hcq2, hf⟩ := bd_some hf
  refine j_callV (As := [.int (2 : Int32)]) (rest := [.int ((σ 7) + q1)]) (stk := [.int q2, .int ((σ 7) + q1)]) (G2 := (eS G0 j σ)) C0 (c_X3_together hi (G0 := G0) (j := j) hj hcq2) kw_X3_206 bi_X3_together bx_X3_together (ia hi (id_1 hj)) oc_1 rfl ⟨by decide, by decide⟩ ⟨Nat.zero_le _, Nat.zero_le _⟩ rfl rfl (Nat.le_of_ble_eq_true rfl) rfl rfl dX3_allWater_12 ?_
  refine j_iadd C0 dX3_allWater_15 ?_
  refine j_aload_n C0 dX3_allWater_16 rfl 0 rfl ?_
  refine j_geti (x := (σ 8)) C0 fl_X3_54 (sl_3_6 hj) (ia hi (id_1 hj)) eS_get dX3_allWater_17 ?_
  refine j_iadd C0 dX3_allWater_20 ?_
  refine j_aload_n C0 dX3_allWater_21 rfl 0 rfl ?_
  refine j_geti (x := (σ 9)) C0 fl_X3_57 (sl_3_7 hj) (ia hi (id_1 hj)) eS_get dX3_allWater_22 ?_
  refine j_iadd C0 dX3_allWater_25 ?_
  exact j_iret C0 hr dX3_allWater_26 (so hf) rfl

set_option maxHeartbeats 4000000 in
set_option maxRecDepth 100000 in
theorem c_X5_water {l : Launch} {D : va_G} {ca : Nat → ClassId} {ad : I3 → Nat} (hi : adI ad) {M0 : Nat → Nat → Int32} {X : XS} {x1 : Int32} {r0 : Int32}  (hf : fX_water X x1 = some (r0)) : MT l D ca ad yX5_water cX5_water 2 (some .int) 5 105 [.ref (ad (0, 0, 0)), .int x1] (X.1, X.2, M0) (some (.int r0)) (X.1, X.2, M0) := by
  refine met_J (lv := [(0, .ref (ad (0, 0, 0))), (1, .int x1)]) hi (by decide +kernel) (Nat.le_of_ble_eq_true rfl) rfl (fun p e s m below meth c C0 hr => ?_)
  unfold fX_water at hf
  refine j_iload_n C0 dX5_water_0 rfl 1 rfl ?_
  by_cases c1 : (x1.toInt < 0 ∨ 9 < x1.toInt)
  · have hf := if_t c1 hf
    refine j_tableOut (tgt := 147) C0 dX5_water_1 c1 (by decide) ?_
    refine j_ldc (v := -1000001) C0 dX5_water_147 cw_X5_78 ?_
    exact j_iret C0 hr dX5_water_149 (so hf) rfl
  have hf := if_f c1 hf
  by_cases c2 : x1 = 0
  · have hf := if_t c2 hf
    refine j_tableEq C0 0 (tgt := 56) c2 dX5_water_1 (by decide) (by decide) rfl (by decide) ?_
    refine j_aload_n C0 dX5_water_56 rfl 0 rfl ?_
    refine j_getr (id2 := (1, 0, 0)) C0 fl_X5_10 rl_5_0 (ia hi id_c0) dX5_water_57 ?_
    refine j_geti (x := (X.1 0 7)) C0 fl_X5_108 (sl_3_5 (by decide)) (ia hi (id_1 (by decide))) rfl dX5_water_60 ?_
    exact j_iret C0 hr dX5_water_63 (so hf) rfl
  have hf := if_f c2 hf
  by_cases c3 : x1 = 1
  · have hf := if_t c3 hf
    refine j_tableEq C0 1 (tgt := 64) c3 dX5_water_1 (by decide) (by decide) rfl (by decide) ?_
    refine j_aload_n C0 dX5_water_64 rfl 0 rfl ?_
    refine j_getr (id2 := (1, 0, 0)) C0 fl_X5_10 rl_5_0 (ia hi id_c0) dX5_water_65 ?_
    refine j_iconst (v := 1) C0 dX5_water_68 rfl ?_
    obtain ⟨q4, hcq4, hf⟩ := bd_some hf
    refine j_callV (As := [.int (1 : Int32)]) (rest := []) (stk := [.int q4]) (G2 := (X.1, X.2, M0)) C0 (c_X3_together hi (G0 := (X.1, X.2, M0)) (j := 0) (by decide) hcq4) kw_X5_111 bi_X3_together bx_X3_together (ia hi (id_1 (by decide))) oc_1 (eS_self _ _ _) ⟨by decide, by decide⟩ ⟨Nat.zero_le _, Nat.zero_le _⟩ rfl rfl (Nat.le_of_ble_eq_true rfl) rfl (eS_self _ _ _) dX5_water_69 ?_
    exact j_iret C0 hr dX5_water_72 (so hf) rfl
  have hf := if_f c3 hf
  by_cases c5 : x1 = 2
  · have hf := if_t c5 hf
    refine j_tableEq C0 2 (tgt := 73) c5 dX5_water_1 (by decide) (by decide) rfl (by decide) ?_
    refine j_aload_n C0 dX5_water_73 rfl 0 rfl ?_
    refine j_getr (id2 := (1, 0, 0)) C0 fl_X5_10 rl_5_0 (ia hi id_c0) dX5_water_74 ?_
    refine j_iconst (v := 2) C0 dX5_water_77 rfl ?_
    obtain ⟨q6, hcq6, hf⟩ := bd_some hf
    refine j_callV (As := [.int (2 : Int32)]) (rest := []) (stk := [.int q6]) (G2 := (X.1, X.2, M0)) C0 (c_X3_together hi (G0 := (X.1, X.2, M0)) (j := 0) (by decide) hcq6) kw_X5_111 bi_X3_together bx_X3_together (ia hi (id_1 (by decide))) oc_1 (eS_self _ _ _) ⟨by decide, by decide⟩ ⟨Nat.zero_le _, Nat.zero_le _⟩ rfl rfl (Nat.le_of_ble_eq_true rfl) rfl (eS_self _ _ _) dX5_water_78 ?_
    exact j_iret C0 hr dX5_water_81 (so hf) rfl
  have hf := if_f c5 hf
  by_cases c7 : x1 = 3
  · have hf := if_t c7 hf
    refine j_tableEq C0 3 (tgt := 82) c7 dX5_water_1 (by decide) (by decide) rfl (by decide) ?_
    refine j_aload_n C0 dX5_water_82 rfl 0 rfl ?_
    refine j_getr (id2 := (1, 0, 0)) C0 fl_X5_10 rl_5_0 (ia hi id_c0) dX5_water_83 ?_
    refine j_geti (x := (X.1 0 8)) C0 fl_X5_114 (sl_3_6 (by decide)) (ia hi (id_1 (by decide))) rfl dX5_water_86 ?_
    exact j_iret C0 hr dX5_water_89 (so hf) rfl
  have hf := if_f c7 hf
  by_cases c8 : x1 = 4
  · have hf := if_t c8 hf
    refine j_tableEq C0 4 (tgt := 90) c8 dX5_water_1 (by decide) (by decide) rfl (by decide) ?_
    refine j_aload_n C0 dX5_water_90 rfl 0 rfl ?_
    refine j_getr (id2 := (1, 0, 0)) C0 fl_X5_10 rl_5_0 (ia hi id_c0) dX5_water_91 ?_
    refine j_geti (x := (X.1 0 9)) C0 fl_X5_117 (sl_3_7 (by decide)) (ia hi (id_1 (by decide))) rfl dX5_water_94 ?_
    exact j_iret C0 hr dX5_water_97 (so hf) rfl
  have hf := if_f c8 hf
  by_cases c9 : x1 = 5
  · have hf := if_t c9 hf
    refine j_tableEq C0 5 (tgt := 98) c9 dX5_water_1 (by decide) (by decide) rfl (by decide) ?_
    refine j_aload_n C0 dX5_water_98 rfl 0 rfl ?_
    refine j_getr (id2 := (1, 0, 0)) C0 fl_X5_10 rl_5_0 (ia hi id_c0) dX5_water_99 ?_
    obtain ⟨q10, hcq10, hf⟩ := bd_some hf
    refine j_callV (As := []) (rest := []) (stk := [.int q10]) (G2 := (X.1, X.2, M0)) C0 (c_X3_allWater hi (G0 := (X.1, X.2, M0)) (j := 0) (by decide) hcq10) kw_X5_120 bi_X3_allWater bx_X3_allWater (ia hi (id_1 (by decide))) oc_1 (eS_self _ _ _) ⟨by decide, by decide⟩ ⟨Nat.zero_le _, Nat.zero_le _⟩ rfl rfl (Nat.le_of_ble_eq_true rfl) rfl (eS_self _ _ _) dX5_water_102 ?_
    exact j_iret C0 hr dX5_water_105 (so hf) rfl
  have hf := if_f c9 hf
  by_cases c11 : x1 = 6
  · have hf := if_t c11 hf
    refine j_tableEq C0 6 (tgt := 106) c11 dX5_water_1 (by decide) (by decide) rfl (by decide) ?_
    refine j_aload_n C0 dX5_water_106 rfl 0 rfl ?_
    refine j_getr (id2 := (1, 0, 0)) C0 fl_X5_10 rl_5_0 (ia hi id_c0) dX5_water_107 ?_
    refine j_geti (x := (X.1 0 10)) C0 fl_X5_123 (sl_3_8 (by decide)) (ia hi (id_1 (by decide))) rfl dX5_water_110 ?_
    exact j_iret C0 hr dX5_water_113 (so hf) rfl
  have hf := if_f c11 hf
  by_cases c12 : x1 = 7
  · have hf := if_t c12 hf
    refine j_tableEq C0 7 (tgt := 114) c12 dX5_water_1 (by decide) (by decide) rfl (by decide) ?_
    refine j_aload_n C0 dX5_water_114 rfl 0 rfl ?_
    refine j_getr (id2 := (1, 0, 0)) C0 fl_X5_10 rl_5_0 (ia hi id_c0) dX5_water_115 ?_
    refine j_geti (x := (X.1 0 11)) C0 fl_X5_126 (sl_3_10 (by decide)) (ia hi (id_1 (by decide))) rfl dX5_water_118 ?_
    exact j_iret C0 hr dX5_water_121 (so hf) rfl
  have hf := if_f c12 hf
  by_cases c13 : x1 = 8
  · have hf := if_t c13 hf
    refine j_tableEq C0 8 (tgt := 122) c13 dX5_water_1 (by decide) (by decide) rfl (by decide) ?_
    refine j_aload_n C0 dX5_water_122 rfl 0 rfl ?_
    refine j_getr (id2 := (1, 0, 0)) C0 fl_X5_10 rl_5_0 (ia hi id_c0) dX5_water_123 ?_
    refine j_geti (x := (X.1 0 12)) C0 fl_X5_129 (sl_3_11 (by decide)) (ia hi (id_1 (by decide))) rfl dX5_water_126 ?_
    refine j_aload_n C0 dX5_water_129 rfl 0 rfl ?_
    refine j_getr (id2 := (1, 0, 0)) C0 fl_X5_10 rl_5_0 (ia hi id_c0) dX5_water_130 ?_
    refine j_iconst (v := 1) C0 dX5_water_133 rfl ?_
    obtain ⟨q14, hcq14, hf⟩ := bd_some hf
    refine j_callV (As := [.int (1 : Int32)]) (rest := [.int (X.1 0 12)]) (stk := [.int q14, .int (X.1 0 12)]) (G2 := (X.1, X.2, M0)) C0 (c_X3_together hi (G0 := (X.1, X.2, M0)) (j := 0) (by decide) hcq14) kw_X5_111 bi_X3_together bx_X3_together (ia hi (id_1 (by decide))) oc_1 (eS_self _ _ _) ⟨by decide, by decide⟩ ⟨Nat.zero_le _, Nat.zero_le _⟩ rfl rfl (Nat.le_of_ble_eq_true rfl) rfl (eS_self _ _ _) dX5_water_134 ?_
    refine j_isub C0 dX5_water_137 ?_
    exact j_iret C0 hr dX5_water_138 (so hf) rfl
  have hf := if_f c13 hf
  by_cases c15 : x1 = 9
  · have hf := if_t c15 hf
    refine j_tableEq C0 9 (tgt := 139) c15 dX5_water_1 (by decide) (by decide) rfl (by decide) ?_
    refine j_aload_n C0 dX5_water_139 rfl 0 rfl ?_
    refine j_getr (id2 := (1, 0, 0)) C0 fl_X5_10 rl_5_0 (ia hi id_c0) dX5_water_140 ?_
    refine j_geti (x := (X.1 0 13)) C0 fl_X5_132 (sl_3_12 (by decide)) (ia hi (id_1 (by decide))) rfl dX5_water_143 ?_
    exact j_iret C0 hr dX5_water_146 (so hf) rfl
  have hf := if_f c15 hf
  exact (none_ne hf).elim

set_option maxHeartbeats 4000000 in
set_option maxRecDepth 100000 in
theorem c_X0_size {l : Launch} {D : va_G} {ca : Nat → ClassId} {ad : I3 → Nat} (hi : adI ad) {G0 : GS} {j : Nat} {σ : Nat → Int32} {r0 : Int32} (hj : j < 9) (hf : fB_size σ = some (r0)) : MT l D ca ad yX0_size cX0_size 1 (some .int) 1 21 [.ref (ad (5, j, 0))] (eS G0 j σ) (some (.int r0)) (eS G0 j σ) := by
  refine met_J (lv := [(0, .ref (ad (5, j, 0)))]) hi (by decide +kernel) (Nat.le_of_ble_eq_true rfl) rfl (fun p e s m below meth c C0 hr => ?_)
  unfold fB_size at hf
  refine j_aload_n C0 dX0_size_0 rfl 0 rfl ?_
  refine j_geti (x := (σ 14)) C0 fl_X0_22 (sl_0_2 hj) (ia hi (id_5 hj)) eS_get dX0_size_1 ?_
  refine j_iconst (v := 4) C0 dX0_size_4 rfl ?_
  obtain ⟨q1, hcq1, hf⟩ := bd_some hf
  refine j_callS (As := [.int (σ 14), .int (4 : Int32)]) (rest := []) (stk := [.int q1]) (G2 := (eS G0 j σ)) C0 (c_J9_min_7cf53 hi (G0 := (eS G0 j σ))  hcq1) kw_X0_37 bi_J9_min_7cf53 rfl ⟨by decide, by decide⟩ ⟨Nat.zero_le _, Nat.zero_le _⟩ rfl rfl (Nat.le_of_ble_eq_true rfl) rfl rfl dX0_size_5 ?_
  exact j_iret C0 hr dX0_size_8 (so hf) rfl

set_option maxHeartbeats 4000000 in
set_option maxRecDepth 100000 in
theorem c_X0_has {l : Launch} {D : va_G} {ca : Nat → ClassId} {ad : I3 → Nat} (hi : adI ad) {G0 : GS} {j : Nat} {σ : Nat → Int32} {x1 : Int32} {x2 : Int32} {r0 : Int32} (hj : j < 9) (hf : fB_has σ x1 x2 = some (r0)) : MT l D ca ad yX0_has cX0_has 3 (some .boolean) 2 43 [.ref (ad (5, j, 0)), .int x1, .int x2] (eS G0 j σ) (some (.int r0)) (eS G0 j σ) := by
  refine met_J (lv := [(0, .ref (ad (5, j, 0))), (1, .int x1), (2, .int x2)]) hi (by decide +kernel) (Nat.le_of_ble_eq_true rfl) rfl (fun p e s m below meth c C0 hr => ?_)
  unfold fB_has at hf
  refine j_iload_n C0 dX0_has_0 rfl 1 rfl ?_
  refine j_aload_n C0 dX0_has_1 rfl 0 rfl ?_
  obtain ⟨q1, hcq1, hf⟩ := bd_some hf
  refine j_callV (As := []) (rest := [.int x1]) (stk := [.int q1, .int x1]) (G2 := (eS G0 j σ)) C0 (c_X0_size hi (G0 := G0) (j := j) hj hcq1) kw_X0_43 bi_X0_size bx_X0_size (ia hi (id_5 hj)) oc_5 rfl ⟨by decide, by decide⟩ ⟨Nat.zero_le _, Nat.zero_le _⟩ rfl rfl (Nat.le_of_ble_eq_true rfl) rfl rfl dX0_has_2 ?_
  refine j_icmp_ge (tgt := 28) C0 dX0_has_5 (by decide) (fun c2 => ?_) (fun c2 => ?_)
  · have hf := if_t c2 hf
    refine j_iconst (v := 0) C0 dX0_has_28 rfl ?_
    exact j_zret C0 hr rfl dX0_has_29 (so hf) rfl
  have hf := if_f c2 hf
  refine j_iload_n C0 dX0_has_8 rfl 2 rfl ?_
  refine j_aload_n C0 dX0_has_9 rfl 0 rfl ?_
  refine j_getr (id2 := (6, j, 0)) C0 fl_X0_9 rl_0_0 (ia hi (id_5 hj)) dX0_has_10 ?_
  refine j_aload_n C0 dX0_has_13 rfl 0 rfl ?_
  refine j_iload_n C0 dX0_has_14 rfl 1 rfl ?_
  obtain ⟨q3, hcq3, hf⟩ := bd_some hf
  refine j_callV (As := [.int x1]) (rest := [.ref (ad (6, j, 0)), .int x2]) (stk := [.int q3, .ref (ad (6, j, 0)), .int x2]) (G2 := (eS G0 j σ)) C0 (c_X0_place hi (G0 := G0) (j := j) hj hcq3) kw_X0_29 bi_X0_place bx_X0_place (ia hi (id_5 hj)) oc_5 rfl ⟨by decide, by decide⟩ ⟨Nat.zero_le _, Nat.zero_le _⟩ rfl rfl (Nat.le_of_ble_eq_true rfl) rfl rfl dX0_has_15 ?_
  obtain ⟨q4, hcq4, hf⟩ := bd_some hf
  refine j_callSN (As := [.ref (ad (6, j, 0)), .int q3]) (rest := [.int x2]) (stk := [.int q4, .int x2]) (G2 := (eS G0 j σ)) C0 (c_X5_element_w hi (G0 := (eS G0 j σ)) (al_6 hj) (ia hi (id_6 hj)) (fun q => eS_get) hcq4) kw_X0_47 bi_X5_element rfl ⟨by decide, by decide⟩ ⟨Nat.zero_le _, Nat.zero_le _⟩ rfl rfl (Nat.le_of_ble_eq_true rfl) rfl rfl dX0_has_18 ?_
  refine j_icmp_ge (tgt := 28) C0 dX0_has_21 (by decide) (fun c5 => ?_) (fun c5 => ?_)
  · have hf := if_t c5 hf
    refine j_iconst (v := 0) C0 dX0_has_28 rfl ?_
    exact j_zret C0 hr rfl dX0_has_29 (so hf) rfl
  have hf := if_f c5 hf
  refine j_iconst (v := 1) C0 dX0_has_24 rfl ?_
  refine j_goto (tgt := 29) C0 dX0_has_25 (by decide) ?_
  exact j_zret C0 hr rfl dX0_has_29 (so hf) rfl

set_option maxHeartbeats 4000000 in
set_option maxRecDepth 100000 in
theorem c_X0_errorAt {l : Launch} {D : va_G} {ca : Nat → ClassId} {ad : I3 → Nat} (hi : adI ad) {G0 : GS} {j : Nat} {σ : Nat → Int32} {x1 : Int32} {x2 : Int32} {r0 : Int32} (hj : j < 9) (hf : fB_errorAt σ x1 x2 = some (r0)) : MT l D ca ad yX0_errorAt cX0_errorAt 3 (some .int) 2 43 [.ref (ad (5, j, 0)), .int x1, .int x2] (eS G0 j σ) (some (.int r0)) (eS G0 j σ) := by
  refine met_J (lv := [(0, .ref (ad (5, j, 0))), (1, .int x1), (2, .int x2)]) hi (by decide +kernel) (Nat.le_of_ble_eq_true rfl) rfl (fun p e s m below meth c C0 hr => ?_)
  unfold fB_errorAt at hf
  refine j_aload_n C0 dX0_errorAt_0 rfl 0 rfl ?_
  refine j_getr (id2 := (7, j, 0)) C0 fl_X0_15 rl_0_1 (ia hi (id_5 hj)) dX0_errorAt_1 ?_
  refine j_aload_n C0 dX0_errorAt_4 rfl 0 rfl ?_
  refine j_iload_n C0 dX0_errorAt_5 rfl 1 rfl ?_
  obtain ⟨q1, hcq1, hf⟩ := bd_some hf
  refine j_callV (As := [.int x1]) (rest := [.ref (ad (7, j, 0))]) (stk := [.int q1, .ref (ad (7, j, 0))]) (G2 := (eS G0 j σ)) C0 (c_X0_place hi (G0 := G0) (j := j) hj hcq1) kw_X0_29 bi_X0_place bx_X0_place (ia hi (id_5 hj)) oc_5 rfl ⟨by decide, by decide⟩ ⟨Nat.zero_le _, Nat.zero_le _⟩ rfl rfl (Nat.le_of_ble_eq_true rfl) rfl rfl dX0_errorAt_6 ?_
  refine j_iconst (v := 5) C0 dX0_errorAt_9 rfl ?_
  refine j_imul C0 dX0_errorAt_10 ?_
  refine j_iload_n C0 dX0_errorAt_11 rfl 2 rfl ?_
  refine j_iadd C0 dX0_errorAt_12 ?_
  obtain ⟨q2, hcq2, hf⟩ := bd_some hf
  refine j_callSN (As := [.ref (ad (7, j, 0)), .int ((q1 * (5 : Int32)) + x2)]) (rest := []) (stk := [.int q2]) (G2 := (eS G0 j σ)) C0 (c_X5_element_w hi (G0 := (eS G0 j σ)) (al_7 hj) (ia hi (id_7 hj)) (fun q => eS_get) hcq2) kw_X0_47 bi_X5_element rfl ⟨by decide, by decide⟩ ⟨Nat.zero_le _, Nat.zero_le _⟩ rfl rfl (Nat.le_of_ble_eq_true rfl) rfl rfl dX0_errorAt_13 ?_
  exact j_iret C0 hr dX0_errorAt_16 (so hf) rfl

set_option maxHeartbeats 4000000 in
set_option maxRecDepth 100000 in
theorem c_X5_noon {l : Launch} {D : va_G} {ca : Nat → ClassId} {ad : I3 → Nat} (hi : adI ad) {M0 : Nat → Nat → Int32} {X : XS} {x1 : Int32} {x2 : Int32} {r0 : Int32}  (hf : fX_noon X x1 x2 = some (r0)) : MT l D ca ad yX5_noon cX5_noon 3 (some .int) 3 65 [.ref (ad (0, 0, 0)), .int x1, .int x2] (X.1, X.2, M0) (some (.int r0)) (X.1, X.2, M0) := by
  refine met_J (lv := [(0, .ref (ad (0, 0, 0))), (1, .int x1), (2, .int x2)]) hi (by decide +kernel) (Nat.le_of_ble_eq_true rfl) rfl (fun p e s m below meth c C0 hr => ?_)
  unfold fX_noon at hf
  refine j_iload_n C0 dX5_noon_0 rfl 1 rfl ?_
  refine j_if_lt (tgt := 8) C0 dX5_noon_1 (by decide) (fun c1 => ?_) (fun c1 => ?_)
  · have hf := if_t c1 hf
    refine j_ldc (v := -1000001) C0 dX5_noon_8 cw_X5_78 ?_
    exact j_iret C0 hr dX5_noon_10 (so hf) rfl
  have hf := if_f c1 hf
  refine j_iload_n C0 dX5_noon_4 rfl 2 rfl ?_
  refine j_if_ge (tgt := 11) C0 dX5_noon_5 (by decide) (fun c2 => ?_) (fun c2 => ?_)
  · have hf := if_t c2 hf
    refine j_aload_n C0 dX5_noon_11 rfl 0 rfl ?_
    refine j_getr (id2 := (1, 0, 0)) C0 fl_X5_10 rl_5_0 (ia hi id_c0) dX5_noon_12 ?_
    refine j_getr (id2 := (5, 0, 0)) C0 fl_X5_135 rl_3_2 (ia hi (id_1 (by decide))) dX5_noon_15 ?_
    refine j_iload_n C0 dX5_noon_18 rfl 1 rfl ?_
    refine j_iload_n C0 dX5_noon_19 rfl 2 rfl ?_
    obtain ⟨q3, hcq3, hf⟩ := bd_some hf
    refine j_callV (As := [.int x1, .int x2]) (rest := []) (stk := [.int q3]) (G2 := (X.1, X.2, M0)) C0 (c_X0_has hi (G0 := (X.1, X.2, M0)) (j := 0) (by decide) hcq3) kw_X5_139 bi_X0_has bx_X0_has (ia hi (id_5 (by decide))) oc_5 (eS_self _ _ _) ⟨by decide, by decide⟩ ⟨Nat.zero_le _, Nat.zero_le _⟩ rfl rfl (Nat.le_of_ble_eq_true rfl) rfl (eS_self _ _ _) dX5_noon_20 ?_
    refine j_if_ne (tgt := 29) C0 dX5_noon_23 (by decide) (fun c4 => ?_) (fun c4 => ?_)
    · have hf := if_f c4 hf
      refine j_aload_n C0 dX5_noon_29 rfl 0 rfl ?_
      refine j_getr (id2 := (1, 0, 0)) C0 fl_X5_10 rl_5_0 (ia hi id_c0) dX5_noon_30 ?_
      refine j_getr (id2 := (5, 0, 0)) C0 fl_X5_135 rl_3_2 (ia hi (id_1 (by decide))) dX5_noon_33 ?_
      refine j_iload_n C0 dX5_noon_36 rfl 1 rfl ?_
      refine j_iload_n C0 dX5_noon_37 rfl 2 rfl ?_
      obtain ⟨q5, hcq5, hf⟩ := bd_some hf
      refine j_callV (As := [.int x1, .int x2]) (rest := []) (stk := [.int q5]) (G2 := (X.1, X.2, M0)) C0 (c_X0_errorAt hi (G0 := (X.1, X.2, M0)) (j := 0) (by decide) hcq5) kw_X5_144 bi_X0_errorAt bx_X0_errorAt (ia hi (id_5 (by decide))) oc_5 (eS_self _ _ _) ⟨by decide, by decide⟩ ⟨Nat.zero_le _, Nat.zero_le _⟩ rfl rfl (Nat.le_of_ble_eq_true rfl) rfl (eS_self _ _ _) dX5_noon_38 ?_
      refine j_sipush (v := 10000) C0 dX5_noon_41 rfl ?_
      refine j_iadd C0 dX5_noon_44 ?_
      exact j_iret C0 hr dX5_noon_45 (so hf) rfl
    have hf := if_t c4 hf
    refine j_ldc (v := -1000004) C0 dX5_noon_26 cw_X5_96 ?_
    exact j_iret C0 hr dX5_noon_28 (so hf) rfl
  have hf := if_f c2 hf
  refine j_ldc (v := -1000001) C0 dX5_noon_8 cw_X5_78 ?_
  exact j_iret C0 hr dX5_noon_10 (so hf) rfl

set_option maxHeartbeats 4000000 in
set_option maxRecDepth 100000 in
theorem c_X5_why {l : Launch} {D : va_G} {ca : Nat → ClassId} {ad : I3 → Nat} (hi : adI ad) {M0 : Nat → Nat → Int32} {X : XS} {x1 : Int32} {x2 : Int32} {r0 : Int32}  (hf : fX_why X x1 x2 = some (r0)) : MT l D ca ad yX5_why cX5_why 4 (some .int) 2 43 [.ref (ad (0, 0, 0)), .int x1, .int x2] (X.1, X.2, M0) (some (.int r0)) (X.1, X.2, M0) := by
  refine met_J (lv := [(0, .ref (ad (0, 0, 0))), (1, .int x1), (2, .int x2)]) hi (by decide +kernel) (Nat.le_of_ble_eq_true rfl) rfl (fun p e s m below meth c C0 hr => ?_)
  unfold fX_why at hf
  refine j_aload_n C0 dX5_why_0 rfl 0 rfl ?_
  refine j_getr (id2 := (1, 0, 0)) C0 fl_X5_10 rl_5_0 (ia hi id_c0) dX5_why_1 ?_
  refine j_iload_n C0 dX5_why_4 rfl 1 rfl ?_
  obtain ⟨q1, hcq1, hf⟩ := bd_some hf
  rcases q1 with _ | kq1
  · have hf := onN_none hf
    refine j_callV (As := [.int x1]) (rest := []) (stk := [.null]) (G2 := (X.1, X.2, M0)) C0 (c_X3_clockAt hi (G0 := (X.1, X.2, M0)) (j := 0) (by decide) hcq1) kw_X5_84 bi_X3_clockAt bx_X3_clockAt (ia hi (id_1 (by decide))) oc_1 (eS_self _ _ _) ⟨by decide, by decide⟩ ⟨Nat.zero_le _, Nat.zero_le _⟩ rfl rfl (Nat.le_of_ble_eq_true rfl) rfl (eS_self _ _ _) dX5_why_5 ?_
    refine j_astore_nN (lv' := [(3, .null), (0, .ref (ad (0, 0, 0))), (1, .int x1), (2, .int x2)]) C0 dX5_why_8 rfl (by decide) rfl ?_
    refine j_aload_nN C0 dX5_why_9 rfl 0 rfl ?_
    refine j_ifnullN (tgt := 20) C0 dX5_why_10 (by decide) ?_
    refine j_ldc (v := -1000001) C0 dX5_why_20 cw_X5_78 ?_
    exact j_iret C0 hr dX5_why_22 (so hf) rfl
  have hf := onN_some hf
  have hk2 := clockAt_lt hcq1
  refine j_callV (As := [.int x1]) (rest := []) (stk := [.ref (ad (3, 0, kq1))]) (G2 := (X.1, X.2, M0)) C0 (c_X3_clockAt hi (G0 := (X.1, X.2, M0)) (j := 0) (by decide) hcq1) kw_X5_84 bi_X3_clockAt bx_X3_clockAt (ia hi (id_1 (by decide))) oc_1 (eS_self _ _ _) ⟨by decide, by decide⟩ ⟨Nat.zero_le _, Nat.zero_le _⟩ rfl rfl (Nat.le_of_ble_eq_true rfl) rfl (eS_self _ _ _) dX5_why_5 ?_
  refine j_astore_n (lv' := [(3, .ref (ad (3, 0, kq1))), (0, .ref (ad (0, 0, 0))), (1, .int x1), (2, .int x2)]) C0 dX5_why_8 rfl (by decide) rfl ?_
  refine j_aload_n C0 dX5_why_9 rfl 0 rfl ?_
  refine j_ifnull C0 dX5_why_10 ?_
  refine j_iload_n C0 dX5_why_13 rfl 3 rfl ?_
  obtain ⟨q3, hcq3, hf⟩ := bd_some hf
  refine j_callS (As := [.int x2]) (rest := []) (stk := [.int q3]) (G2 := (X.1, X.2, M0)) C0 (c_X5_isJug hi (G0 := (X.1, X.2, M0))  hcq3) kw_X5_147 bi_X5_isJug rfl ⟨by decide, by decide⟩ ⟨Nat.zero_le _, Nat.zero_le _⟩ rfl rfl (Nat.le_of_ble_eq_true rfl) rfl rfl dX5_why_14 ?_
  refine j_if_ne (tgt := 23) C0 dX5_why_17 (by decide) (fun c4 => ?_) (fun c4 => ?_)
  · have hf := if_f c4 hf
    refine j_aload_n C0 dX5_why_23 rfl 1 rfl ?_
    refine j_getr (id2 := (1, 0, 0)) C0 fl_X5_10 rl_5_0 (ia hi id_c0) dX5_why_24 ?_
    refine j_aload_n C0 dX5_why_27 rfl 0 rfl ?_
    refine j_iload_n C0 dX5_why_28 rfl 3 rfl ?_
    obtain ⟨q5, hcq5, hf⟩ := bd_some hf
    refine j_callV (As := [.ref (ad (3, 0, kq1)), .int x2]) (rest := []) (stk := [.int q5]) (G2 := (X.1, X.2, M0)) C0 (c_X3_whyNotPoured hi (G0 := (X.1, X.2, M0)) (j := 0) (by decide) hk2 hcq5) kw_X5_150 bi_X3_whyNotPoured bx_X3_whyNotPoured (ia hi (id_1 (by decide))) oc_1 (eS_self _ _ _) ⟨by decide, by decide⟩ ⟨Nat.zero_le _, Nat.zero_le _⟩ rfl rfl (Nat.le_of_ble_eq_true rfl) rfl (eS_self _ _ _) dX5_why_29 ?_
    exact j_iret C0 hr dX5_why_32 (so hf) rfl
  have hf := if_t c4 hf
  refine j_ldc (v := -1000001) C0 dX5_why_20 cw_X5_78 ?_
  exact j_iret C0 hr dX5_why_22 (so hf) rfl

set_option maxHeartbeats 4000000 in
set_option maxRecDepth 100000 in
theorem c_X3_isEmpty {l : Launch} {D : va_G} {ca : Nat → ClassId} {ad : I3 → Nat} (hi : adI ad) {G0 : GS} {j : Nat} {σ : Nat → Int32} {x1 : Int32} {r0 : Int32} (hj : j < 9) (hf : fS_isEmpty σ x1 = some (r0)) : MT l D ca ad yX3_isEmpty cX3_isEmpty 3 (some .boolean) 1 21 [.ref (ad (1, j, 0)), .int x1] (eS G0 j σ) (some (.int r0)) (eS G0 j σ) := by
  refine met_J (lv := [(0, .ref (ad (1, j, 0))), (1, .int x1)]) hi (by decide +kernel) (Nat.le_of_ble_eq_true rfl) rfl (fun p e s m below meth c C0 hr => ?_)
  unfold fS_isEmpty at hf
  refine j_aload_n C0 dX3_isEmpty_0 rfl 0 rfl ?_
  refine j_iload_n C0 dX3_isEmpty_1 rfl 1 rfl ?_
  obtain ⟨q1, hcq1, hf⟩ := bd_some hf
  rcases q1 with _ | kq1
  · have hf := onN_none hf
    refine j_callV (As := [.int x1]) (rest := []) (stk := [.null]) (G2 := (eS G0 j σ)) C0 (c_X3_clockAt hi (G0 := G0) (j := j) hj hcq1) kw_X3_85 bi_X3_clockAt bx_X3_clockAt (ia hi (id_1 hj)) oc_1 rfl ⟨by decide, by decide⟩ ⟨Nat.zero_le _, Nat.zero_le _⟩ rfl rfl (Nat.le_of_ble_eq_true rfl) rfl rfl dX3_isEmpty_2 ?_
    refine j_astore_nN (lv' := [(2, .null), (0, .ref (ad (1, j, 0))), (1, .int x1)]) C0 dX3_isEmpty_5 rfl (by decide) rfl ?_
    refine j_aload_nN C0 dX3_isEmpty_6 rfl 0 rfl ?_
    refine j_ifnullN (tgt := 21) C0 dX3_isEmpty_7 (by decide) ?_
    refine j_iconst (v := 0) C0 dX3_isEmpty_21 rfl ?_
    exact j_zret C0 hr rfl dX3_isEmpty_22 (so hf) rfl
  have hf := onN_some hf
  have hk2 := clockAt_lt hcq1
  refine j_callV (As := [.int x1]) (rest := []) (stk := [.ref (ad (3, j, kq1))]) (G2 := (eS G0 j σ)) C0 (c_X3_clockAt hi (G0 := G0) (j := j) hj hcq1) kw_X3_85 bi_X3_clockAt bx_X3_clockAt (ia hi (id_1 hj)) oc_1 rfl ⟨by decide, by decide⟩ ⟨Nat.zero_le _, Nat.zero_le _⟩ rfl rfl (Nat.le_of_ble_eq_true rfl) rfl rfl dX3_isEmpty_2 ?_
  refine j_astore_n (lv' := [(2, .ref (ad (3, j, kq1))), (0, .ref (ad (1, j, 0))), (1, .int x1)]) C0 dX3_isEmpty_5 rfl (by decide) rfl ?_
  refine j_aload_n C0 dX3_isEmpty_6 rfl 0 rfl ?_
  refine j_ifnull C0 dX3_isEmpty_7 ?_
  refine j_aload_n C0 dX3_isEmpty_10 rfl 0 rfl ?_
  refine j_geti (x := (σ (KI kq1 3))) C0 fl_X3_197 (sl_1_5 hj hk2) (ia hi (id_3 hj hk2)) eS_get dX3_isEmpty_11 ?_
  refine j_if_ne (tgt := 21) C0 dX3_isEmpty_14 (by decide) (fun c3 => ?_) (fun c3 => ?_)
  · have hf := if_f c3 hf
    refine j_iconst (v := 0) C0 dX3_isEmpty_21 rfl ?_
    exact j_zret C0 hr rfl dX3_isEmpty_22 (so hf) rfl
  have hf := if_t c3 hf
  refine j_iconst (v := 1) C0 dX3_isEmpty_17 rfl ?_
  refine j_goto (tgt := 22) C0 dX3_isEmpty_18 (by decide) ?_
  exact j_zret C0 hr rfl dX3_isEmpty_22 (so hf) rfl

set_option maxHeartbeats 4000000 in
set_option maxRecDepth 100000 in
theorem c_X5_emptyIn {l : Launch} {D : va_G} {ca : Nat → ClassId} {ad : I3 → Nat} (hi : adI ad) {M0 : Nat → Nat → Int32} {X : XS} {x1 : Int32} {r0 : Int32} {X' : XS}  (hf : fX_emptyIn X x1 = some (r0, X')) : MT l D ca ad yX5_emptyIn cX5_emptyIn 3 (some .int) 5 113 [.ref (ad (0, 0, 0)), .int x1] (X.1, X.2, M0) (some (.int r0)) (X'.1, X'.2, M0) := by
  refine met_J (lv := [(0, .ref (ad (0, 0, 0))), (1, .int x1)]) hi (by decide +kernel) (Nat.le_of_ble_eq_true rfl) rfl (fun p e s m below meth c C0 hr => ?_)
  have L27 : ∀ (n : Nat) (X : XS) (y1 : Int32) (y2 : Int32), fX_emptyIn_L27 n X y1 y2 = some (r0, X') → J D ca ad p l e ({ frames := 5, cells := 0, slots := 0, locals := 113 }) s m [.ref (ad (0, 0, 0)), .int x1].toArray below meth c 0 0 (MQ below (post D ca ad (some (.int r0)) (X'.1, X'.2, M0)) [.ref (ad (0, 0, 0)), .int x1].toArray s 0 0 (adA ad)) 3 (X.1, X.2, M0) 27 [(0, .ref (ad (0, 0, 0))), (1, .int y1), (2, .int y2)] [] := by
    intro n
    induction n with
    | zero =>
      intro X y1 y2 hf
      exact (none_ne hf).elim
    | succ n ih =>
      intro X y1 y2 hf
      rw [fX_emptyIn_L27] at hf
      refine j_iload_n C0 dX5_emptyIn_27 rfl 2 rfl ?_
      refine j_sipush (v := 1000) C0 dX5_emptyIn_28 rfl ?_
      refine j_icmp_gt (tgt := 62) C0 dX5_emptyIn_31 (by decide) (fun c6 => ?_) (fun c6 => ?_)
      · have hf := if_t c6 hf
        refine j_ldc (v := -1000004) C0 dX5_emptyIn_62 cw_X5_96 ?_
        exact j_iret C0 hr dX5_emptyIn_64 (pr1 hf) (congrArg (fun z => (z.1, z.2, M0)) (pr2 hf))
      have hf := if_f c6 hf
      refine j_aload_n C0 dX5_emptyIn_34 rfl 0 rfl ?_
      refine j_getr (id2 := (1, 1, 0)) C0 fl_X5_16 rl_5_1 (ia hi id_c0) dX5_emptyIn_35 ?_
      refine j_iload_n C0 dX5_emptyIn_38 rfl 1 rfl ?_
      obtain ⟨q7, hcq7, hf⟩ := bd_some hf
      refine j_callV (As := [.int y1]) (rest := []) (stk := [.int q7]) (G2 := (X.1, X.2, M0)) C0 (c_X3_isEmpty hi (G0 := (X.1, X.2, M0)) (j := 1) (by decide) hcq7) kw_X5_154 bi_X3_isEmpty bx_X3_isEmpty (ia hi (id_1 (by decide))) oc_1 (eS_self _ _ _) ⟨by decide, by decide⟩ ⟨Nat.zero_le _, Nat.zero_le _⟩ rfl rfl (Nat.le_of_ble_eq_true rfl) rfl (eS_self _ _ _) dX5_emptyIn_39 ?_
      refine j_if_eq (tgt := 47) C0 dX5_emptyIn_42 (by decide) (fun c8 => ?_) (fun c8 => ?_)
      · have hf := if_t c8 hf
        refine j_aload_n C0 dX5_emptyIn_47 rfl 0 rfl ?_
        refine j_getr (id2 := (1, 1, 0)) C0 fl_X5_16 rl_5_1 (ia hi id_c0) dX5_emptyIn_48 ?_
        refine j_iload_n C0 dX5_emptyIn_51 rfl 1 rfl ?_
        obtain ⟨q9, hcq9, hf⟩ := bd_some hf
        obtain ⟨X10, e11, hf⟩ := lt_some hf
        refine j_callV (As := [.int y1]) (rest := []) (stk := [.int q9.1]) (G2 := (X10.1, X10.2, M0)) C0 (c_X3_drip hi (G0 := (X.1, X.2, M0)) (j := 1) (by decide) hcq9) kw_X5_157 bi_X3_drip bx_X3_drip (ia hi (id_1 (by decide))) oc_1 (eS_self _ _ _) ⟨by decide, by decide⟩ ⟨Nat.zero_le _, Nat.zero_le _⟩ rfl rfl (Nat.le_of_ble_eq_true rfl) rfl (by rw [← e11]; try rfl) dX5_emptyIn_52 ?_
        refine j_pop C0 dX5_emptyIn_55 rfl ?_
        refine j_iinc (v := (y2 + 1)) (lv' := [(2, .int (y2 + 1)), (0, .ref (ad (0, 0, 0))), (1, .int y1)]) C0 dX5_emptyIn_56 2 rfl rfl (by decide) rfl ?_
        refine j_goto (tgt := 27) C0 dX5_emptyIn_59 (by decide) ?_
        exact j_sub [1, 2, 0] rfl (ih X10 y1 (y2 + 1) hf)
      have hf := if_f c8 hf
      refine j_iload_n C0 dX5_emptyIn_45 rfl 2 rfl ?_
      exact j_iret C0 hr dX5_emptyIn_46 (pr1 hf) (congrArg (fun z => (z.1, z.2, M0)) (pr2 hf))
  unfold fX_emptyIn at hf
  refine j_aload_n C0 dX5_emptyIn_0 rfl 0 rfl ?_
  refine j_getr (id2 := (1, 0, 0)) C0 fl_X5_10 rl_5_0 (ia hi id_c0) dX5_emptyIn_1 ?_
  refine j_iload_n C0 dX5_emptyIn_4 rfl 1 rfl ?_
  obtain ⟨q1, hcq1, hf⟩ := bd_some hf
  rcases q1 with _ | kq1
  · have hf := onN_none hf
    refine j_callV (As := [.int x1]) (rest := []) (stk := [.null]) (G2 := (X.1, X.2, M0)) C0 (c_X3_clockAt hi (G0 := (X.1, X.2, M0)) (j := 0) (by decide) hcq1) kw_X5_84 bi_X3_clockAt bx_X3_clockAt (ia hi (id_1 (by decide))) oc_1 (eS_self _ _ _) ⟨by decide, by decide⟩ ⟨Nat.zero_le _, Nat.zero_le _⟩ rfl rfl (Nat.le_of_ble_eq_true rfl) rfl (eS_self _ _ _) dX5_emptyIn_5 ?_
    refine j_ifnonnullN C0 dX5_emptyIn_8 ?_
    refine j_ldc (v := -1000001) C0 dX5_emptyIn_11 cw_X5_78 ?_
    exact j_iret C0 hr dX5_emptyIn_13 (pr1 hf) (congrArg (fun z => (z.1, z.2, M0)) (pr2 hf))
  have hf := onN_some hf
  have hk2 := clockAt_lt hcq1
  refine j_callV (As := [.int x1]) (rest := []) (stk := [.ref (ad (3, 0, kq1))]) (G2 := (X.1, X.2, M0)) C0 (c_X3_clockAt hi (G0 := (X.1, X.2, M0)) (j := 0) (by decide) hcq1) kw_X5_84 bi_X3_clockAt bx_X3_clockAt (ia hi (id_1 (by decide))) oc_1 (eS_self _ _ _) ⟨by decide, by decide⟩ ⟨Nat.zero_le _, Nat.zero_le _⟩ rfl rfl (Nat.le_of_ble_eq_true rfl) rfl (eS_self _ _ _) dX5_emptyIn_5 ?_
  refine j_ifnonnull (tgt := 14) C0 dX5_emptyIn_8 (by decide) ?_
  refine j_aload_n C0 dX5_emptyIn_14 rfl 0 rfl ?_
  refine j_getr (id2 := (1, 1, 0)) C0 fl_X5_16 rl_5_1 (ia hi id_c0) dX5_emptyIn_15 ?_
  refine j_aload_n C0 dX5_emptyIn_18 rfl 0 rfl ?_
  refine j_getr (id2 := (1, 0, 0)) C0 fl_X5_10 rl_5_0 (ia hi id_c0) dX5_emptyIn_19 ?_
  obtain ⟨q3, hcq3, hf⟩ := bd_some hf
  obtain ⟨X4, e5, hf⟩ := lt_some hf
  refine j_callV (As := [.ref (ad (1, 0, 0))]) (rest := []) (stk := []) (G2 := (X4.1, X4.2, M0)) C0 (c_X3_copyFrom hi (R0 := (X.2, M0)) (by decide) (by decide) hcq3) kw_X5_40 bi_X3_copyFrom bx_X3_copyFrom (ia hi (id_1 (by decide))) oc_1 rfl ⟨by decide, by decide⟩ ⟨Nat.zero_le _, Nat.zero_le _⟩ rfl rfl (Nat.le_of_ble_eq_true rfl) rfl (by rw [← e5]; try rfl) dX5_emptyIn_22 ?_
  refine j_iconst (v := 0) C0 dX5_emptyIn_25 rfl ?_
  refine j_istore_n (lv' := [(2, .int (0 : Int32)), (0, .ref (ad (0, 0, 0))), (1, .int x1)]) C0 dX5_emptyIn_26 rfl (by decide) rfl ?_
  exact j_sub [1, 2, 0] rfl (L27 fuel X4 x1 (0 : Int32) hf)

set_option maxHeartbeats 4000000 in
set_option maxRecDepth 100000 in
theorem c_X5_noonErrorWith {l : Launch} {D : va_G} {ca : Nat → ClassId} {ad : I3 → Nat} (hi : adI ad) {M0 : Nat → Nat → Int32} {X : XS} {x1 : Int32} {x2 : Int32} {r0 : Int32} {X' : XS}  (hf : fX_noonErrorWith X x1 x2 = some (r0, X')) : MT l D ca ad yX5_noonErrorWith cX5_noonErrorWith 6 (some .int) 5 113 [.ref (ad (0, 0, 0)), .int x1, .int x2] (X.1, X.2, M0) (some (.int r0)) (X'.1, X'.2, M0) := by
  refine met_J (lv := [(0, .ref (ad (0, 0, 0))), (1, .int x1), (2, .int x2)]) hi (by decide +kernel) (Nat.le_of_ble_eq_true rfl) rfl (fun p e s m below meth c C0 hr => ?_)
  have L48 : ∀ (n : Nat) (X : XS) (y1 : Int32) (y3 : Nat) (y4 : Int32) (y5 : Int32) (hy3 : y3 < 5), fX_noonErrorWith_L48 n X y1 y3 y4 y5 = some (r0, X') → J D ca ad p l e ({ frames := 5, cells := 0, slots := 0, locals := 113 }) s m [.ref (ad (0, 0, 0)), .int x1, .int x2].toArray below meth c 0 0 (MQ below (post D ca ad (some (.int r0)) (X'.1, X'.2, M0)) [.ref (ad (0, 0, 0)), .int x1, .int x2].toArray s 0 0 (adA ad)) 6 (X.1, X.2, M0) 48 [(0, .ref (ad (0, 0, 0))), (1, .int y1), (3, .ref (ad (3, 1, y3))), (4, .int y4), (5, .int y5)] [] := by
    intro n
    induction n with
    | zero =>
      intro X y1 y3 y4 y5 hy3 hf
      exact (none_ne hf).elim
    | succ n ih =>
      intro X y1 y3 y4 y5 hy3 hf
      rw [fX_noonErrorWith_L48] at hf
      refine j_iload C0 dX5_noonErrorWith_48 4 rfl ?_
      refine j_iload C0 dX5_noonErrorWith_50 3 rfl ?_
      refine j_icmp_ge (tgt := 75) C0 dX5_noonErrorWith_52 (by decide) (fun c9 => ?_) (fun c9 => ?_)
      · have hf := if_t c9 hf
        refine j_aload_n C0 dX5_noonErrorWith_75 rfl 0 rfl ?_
        refine j_getr (id2 := (1, 1, 0)) C0 fl_X5_16 rl_5_1 (ia hi id_c0) dX5_noonErrorWith_76 ?_
        refine j_dup C0 dX5_noonErrorWith_79 rfl ?_
        refine j_geti (x := (X.1 1 6)) C0 fl_X5_181 (sl_3_4 (by decide)) (ia hi (id_1 (by decide))) rfl dX5_noonErrorWith_80 ?_
        refine j_iload C0 dX5_noonErrorWith_83 3 rfl ?_
        refine j_iadd C0 dX5_noonErrorWith_85 ?_
        obtain ⟨X10, e11, hf⟩ := lt_some hf
        refine j_puti (G' := (X10.1, X10.2, M0)) C0 fl_X5_181 pw_3_4 (sl_3_4 (by decide)) (ia hi (id_1 (by decide))) rfl rfl (by rw [← e11]; try rfl) dX5_noonErrorWith_86 ?_
        refine j_aload_n C0 dX5_noonErrorWith_89 rfl 0 rfl ?_
        refine j_getr (id2 := (1, 1, 0)) C0 fl_X5_16 rl_5_1 (ia hi id_c0) dX5_noonErrorWith_90 ?_
        refine j_aload_n C0 dX5_noonErrorWith_93 rfl 2 rfl ?_
        obtain ⟨q12, hcq12, hf⟩ := bd_some hf
        refine j_callV (As := [.ref (ad (3, 1, y3))]) (rest := []) (stk := [.int q12]) (G2 := (X10.1, X10.2, M0)) C0 (c_X3_errorOf hi (G0 := (X10.1, X10.2, M0)) (j := 1) (by decide) hy3 hcq12) kw_X5_101 bi_X3_errorOf bx_X3_errorOf (ia hi (id_1 (by decide))) oc_1 (eS_self _ _ _) ⟨by decide, by decide⟩ ⟨Nat.zero_le _, Nat.zero_le _⟩ rfl rfl (Nat.le_of_ble_eq_true rfl) rfl (eS_self _ _ _) dX5_noonErrorWith_94 ?_
        exact j_iret C0 hr dX5_noonErrorWith_97 (pr1 hf) (congrArg (fun z => (z.1, z.2, M0)) (pr2 hf))
      have hf := if_f c9 hf
      refine j_aload_n C0 dX5_noonErrorWith_55 rfl 0 rfl ?_
      refine j_getr (id2 := (1, 1, 0)) C0 fl_X5_16 rl_5_1 (ia hi id_c0) dX5_noonErrorWith_56 ?_
      refine j_iload_n C0 dX5_noonErrorWith_59 rfl 1 rfl ?_
      obtain ⟨q13, hcq13, hf⟩ := bd_some hf
      obtain ⟨X14, e15, hf⟩ := lt_some hf
      refine j_callV (As := [.int y1]) (rest := []) (stk := [.int q13.1]) (G2 := (X14.1, X14.2, M0)) C0 (c_X3_drip hi (G0 := (X.1, X.2, M0)) (j := 1) (by decide) hcq13) kw_X5_157 bi_X3_drip bx_X3_drip (ia hi (id_1 (by decide))) oc_1 (eS_self _ _ _) ⟨by decide, by decide⟩ ⟨Nat.zero_le _, Nat.zero_le _⟩ rfl rfl (Nat.le_of_ble_eq_true rfl) rfl (by rw [← e15]; try rfl) dX5_noonErrorWith_60 ?_
      refine j_if_ne (tgt := 69) C0 dX5_noonErrorWith_63 (by decide) (fun c16 => ?_) (fun c16 => ?_)
      · have hf := if_f c16 hf
        refine j_iinc (v := (y5 + 1)) (lv' := [(5, .int (y5 + 1)), (0, .ref (ad (0, 0, 0))), (1, .int y1), (3, .ref (ad (3, 1, y3))), (4, .int y4)]) C0 dX5_noonErrorWith_69 4 rfl rfl (by decide) rfl ?_
        refine j_goto (tgt := 48) C0 dX5_noonErrorWith_72 (by decide) ?_
        exact j_sub [1, 2, 3, 4, 0] rfl (ih X14 y1 y3 y4 (y5 + 1) hy3 hf)
      have hf := if_t c16 hf
      refine j_goto (tgt := 75) C0 dX5_noonErrorWith_66 (by decide) ?_
      refine j_aload_n C0 dX5_noonErrorWith_75 rfl 0 rfl ?_
      refine j_getr (id2 := (1, 1, 0)) C0 fl_X5_16 rl_5_1 (ia hi id_c0) dX5_noonErrorWith_76 ?_
      refine j_dup C0 dX5_noonErrorWith_79 rfl ?_
      refine j_geti (x := (X14.1 1 6)) C0 fl_X5_181 (sl_3_4 (by decide)) (ia hi (id_1 (by decide))) rfl dX5_noonErrorWith_80 ?_
      refine j_iload C0 dX5_noonErrorWith_83 3 rfl ?_
      refine j_iadd C0 dX5_noonErrorWith_85 ?_
      obtain ⟨X17, e18, hf⟩ := lt_some hf
      refine j_puti (G' := (X17.1, X17.2, M0)) C0 fl_X5_181 pw_3_4 (sl_3_4 (by decide)) (ia hi (id_1 (by decide))) rfl rfl (by rw [← e18]; try rfl) dX5_noonErrorWith_86 ?_
      refine j_aload_n C0 dX5_noonErrorWith_89 rfl 0 rfl ?_
      refine j_getr (id2 := (1, 1, 0)) C0 fl_X5_16 rl_5_1 (ia hi id_c0) dX5_noonErrorWith_90 ?_
      refine j_aload_n C0 dX5_noonErrorWith_93 rfl 2 rfl ?_
      obtain ⟨q19, hcq19, hf⟩ := bd_some hf
      refine j_callV (As := [.ref (ad (3, 1, y3))]) (rest := []) (stk := [.int q19]) (G2 := (X17.1, X17.2, M0)) C0 (c_X3_errorOf hi (G0 := (X17.1, X17.2, M0)) (j := 1) (by decide) hy3 hcq19) kw_X5_101 bi_X3_errorOf bx_X3_errorOf (ia hi (id_1 (by decide))) oc_1 (eS_self _ _ _) ⟨by decide, by decide⟩ ⟨Nat.zero_le _, Nat.zero_le _⟩ rfl rfl (Nat.le_of_ble_eq_true rfl) rfl (eS_self _ _ _) dX5_noonErrorWith_94 ?_
      exact j_iret C0 hr dX5_noonErrorWith_97 (pr1 hf) (congrArg (fun z => (z.1, z.2, M0)) (pr2 hf))
  unfold fX_noonErrorWith at hf
  refine j_aload_n C0 dX5_noonErrorWith_0 rfl 0 rfl ?_
  refine j_getr (id2 := (1, 1, 0)) C0 fl_X5_16 rl_5_1 (ia hi id_c0) dX5_noonErrorWith_1 ?_
  refine j_aload_n C0 dX5_noonErrorWith_4 rfl 0 rfl ?_
  refine j_getr (id2 := (1, 0, 0)) C0 fl_X5_10 rl_5_0 (ia hi id_c0) dX5_noonErrorWith_5 ?_
  obtain ⟨q1, hcq1, hf⟩ := bd_some hf
  obtain ⟨X2, e3, hf⟩ := lt_some hf
  refine j_callV (As := [.ref (ad (1, 0, 0))]) (rest := []) (stk := []) (G2 := (X2.1, X2.2, M0)) C0 (c_X3_copyFrom hi (R0 := (X.2, M0)) (by decide) (by decide) hcq1) kw_X5_40 bi_X3_copyFrom bx_X3_copyFrom (ia hi (id_1 (by decide))) oc_1 rfl ⟨by decide, by decide⟩ ⟨Nat.zero_le _, Nat.zero_le _⟩ rfl rfl (Nat.le_of_ble_eq_true rfl) rfl (by rw [← e3]; try rfl) dX5_noonErrorWith_8 ?_
  refine j_aload_n C0 dX5_noonErrorWith_11 rfl 0 rfl ?_
  refine j_getr (id2 := (1, 1, 0)) C0 fl_X5_16 rl_5_1 (ia hi id_c0) dX5_noonErrorWith_12 ?_
  refine j_iload_n C0 dX5_noonErrorWith_15 rfl 1 rfl ?_
  obtain ⟨q4, hcq4, hf⟩ := bd_some hf
  rcases q4 with _ | kq4
  · have hf := onN_none hf
    refine j_callV (As := [.int x1]) (rest := []) (stk := [.null]) (G2 := (X2.1, X2.2, M0)) C0 (c_X3_clockAt hi (G0 := (X2.1, X2.2, M0)) (j := 1) (by decide) hcq4) kw_X5_84 bi_X3_clockAt bx_X3_clockAt (ia hi (id_1 (by decide))) oc_1 (eS_self _ _ _) ⟨by decide, by decide⟩ ⟨Nat.zero_le _, Nat.zero_le _⟩ rfl rfl (Nat.le_of_ble_eq_true rfl) rfl (eS_self _ _ _) dX5_noonErrorWith_16 ?_
    refine j_astore_nN (lv' := [(3, .null), (0, .ref (ad (0, 0, 0))), (1, .int x1), (2, .int x2)]) C0 dX5_noonErrorWith_19 rfl (by decide) rfl ?_
    refine j_aload_nN C0 dX5_noonErrorWith_20 rfl 0 rfl ?_
    refine j_ifnonnullN C0 dX5_noonErrorWith_21 ?_
    refine j_iconst (v := 0) C0 dX5_noonErrorWith_24 rfl ?_
    exact j_iret C0 hr dX5_noonErrorWith_25 (pr1 hf) (congrArg (fun z => (z.1, z.2, M0)) (pr2 hf))
  have hf := onN_some hf
  have hk5 := clockAt_lt hcq4
  refine j_callV (As := [.int x1]) (rest := []) (stk := [.ref (ad (3, 1, kq4))]) (G2 := (X2.1, X2.2, M0)) C0 (c_X3_clockAt hi (G0 := (X2.1, X2.2, M0)) (j := 1) (by decide) hcq4) kw_X5_84 bi_X3_clockAt bx_X3_clockAt (ia hi (id_1 (by decide))) oc_1 (eS_self _ _ _) ⟨by decide, by decide⟩ ⟨Nat.zero_le _, Nat.zero_le _⟩ rfl rfl (Nat.le_of_ble_eq_true rfl) rfl (eS_self _ _ _) dX5_noonErrorWith_16 ?_
  refine j_astore_n (lv' := [(3, .ref (ad (3, 1, kq4))), (0, .ref (ad (0, 0, 0))), (1, .int x1), (2, .int x2)]) C0 dX5_noonErrorWith_19 rfl (by decide) rfl ?_
  refine j_aload_n C0 dX5_noonErrorWith_20 rfl 0 rfl ?_
  refine j_ifnonnull (tgt := 26) C0 dX5_noonErrorWith_21 (by decide) ?_
  refine j_aload_n C0 dX5_noonErrorWith_26 rfl 0 rfl ?_
  refine j_dup C0 dX5_noonErrorWith_27 rfl ?_
  refine j_geti (x := (X2.1 1 (KI kq4 1))) C0 fl_X5_163 (sl_1_2 (by decide) hk5) (ia hi (id_3 (by decide) hk5)) rfl dX5_noonErrorWith_28 ?_
  refine j_iload_n C0 dX5_noonErrorWith_31 rfl 3 rfl ?_
  refine j_isub C0 dX5_noonErrorWith_32 ?_
  obtain ⟨X6, e7, hf⟩ := lt_some hf
  refine j_puti (G' := (X6.1, X6.2, M0)) C0 fl_X5_163 pw_1_2 (sl_1_2 (by decide) hk5) (ia hi (id_3 (by decide) hk5)) rfl rfl (by rw [← e7]; try rfl) dX5_noonErrorWith_33 ?_
  refine j_aload_n C0 dX5_noonErrorWith_36 rfl 1 rfl ?_
  refine j_getr (id2 := (1, 1, 0)) C0 fl_X5_16 rl_5_1 (ia hi id_c0) dX5_noonErrorWith_37 ?_
  obtain ⟨q8, hcq8, hf⟩ := bd_some hf
  refine j_callV (As := []) (rest := []) (stk := [.int q8]) (G2 := (X6.1, X6.2, M0)) C0 (c_X3_untilNoon hi (G0 := (X6.1, X6.2, M0)) (j := 1) (by decide) hcq8) kw_X5_196 bi_X3_untilNoon bx_X3_untilNoon (ia hi (id_1 (by decide))) oc_1 (eS_self _ _ _) ⟨by decide, by decide⟩ ⟨Nat.zero_le _, Nat.zero_le _⟩ rfl rfl (Nat.le_of_ble_eq_true rfl) rfl (eS_self _ _ _) dX5_noonErrorWith_40 ?_
  refine j_istore (lv' := [(4, .int q8), (3, .ref (ad (3, 1, kq4))), (0, .ref (ad (0, 0, 0))), (1, .int x1), (2, .int x2)]) C0 dX5_noonErrorWith_43 (by decide) rfl ?_
  refine j_iconst (v := 0) C0 dX5_noonErrorWith_45 rfl ?_
  refine j_istore (lv' := [(5, .int (0 : Int32)), (4, .int q8), (3, .ref (ad (3, 1, kq4))), (0, .ref (ad (0, 0, 0))), (1, .int x1), (2, .int x2)]) C0 dX5_noonErrorWith_46 (by decide) rfl ?_
  exact j_sub [3, 4, 2, 1, 0] rfl (L48 fuel X6 x1 kq4 q8 (0 : Int32) hk5 hf)

set_option maxHeartbeats 4000000 in
set_option maxRecDepth 100000 in
theorem c_X5_noonError {l : Launch} {D : va_G} {ca : Nat → ClassId} {ad : I3 → Nat} (hi : adI ad) {M0 : Nat → Nat → Int32} {X : XS} {x1 : Int32} {r0 : Int32} {X' : XS}  (hf : fX_noonError X x1 = some (r0, X')) : MT l D ca ad yX5_noonError cX5_noonError 2 (some .int) 6 138 [.ref (ad (0, 0, 0)), .int x1] (X.1, X.2, M0) (some (.int r0)) (X'.1, X'.2, M0) := by
  refine met_J (lv := [(0, .ref (ad (0, 0, 0))), (1, .int x1)]) hi (by decide +kernel) (Nat.le_of_ble_eq_true rfl) rfl (fun p e s m below meth c C0 hr => ?_)
  unfold fX_noonError at hf
  refine j_aload_n C0 dX5_noonError_0 rfl 0 rfl ?_
  refine j_getr (id2 := (1, 0, 0)) C0 fl_X5_10 rl_5_0 (ia hi id_c0) dX5_noonError_1 ?_
  refine j_iload_n C0 dX5_noonError_4 rfl 1 rfl ?_
  obtain ⟨q1, hcq1, hf⟩ := bd_some hf
  rcases q1 with _ | kq1
  · have hf := onN_none hf
    refine j_callV (As := [.int x1]) (rest := []) (stk := [.null]) (G2 := (X.1, X.2, M0)) C0 (c_X3_clockAt hi (G0 := (X.1, X.2, M0)) (j := 0) (by decide) hcq1) kw_X5_84 bi_X3_clockAt bx_X3_clockAt (ia hi (id_1 (by decide))) oc_1 (eS_self _ _ _) ⟨by decide, by decide⟩ ⟨Nat.zero_le _, Nat.zero_le _⟩ rfl rfl (Nat.le_of_ble_eq_true rfl) rfl (eS_self _ _ _) dX5_noonError_5 ?_
    refine j_ifnonnullN C0 dX5_noonError_8 ?_
    refine j_ldc (v := -1000001) C0 dX5_noonError_11 cw_X5_78 ?_
    exact j_iret C0 hr dX5_noonError_13 (pr1 hf) (congrArg (fun z => (z.1, z.2, M0)) (pr2 hf))
  have hf := onN_some hf
  have hk2 := clockAt_lt hcq1
  refine j_callV (As := [.int x1]) (rest := []) (stk := [.ref (ad (3, 0, kq1))]) (G2 := (X.1, X.2, M0)) C0 (c_X3_clockAt hi (G0 := (X.1, X.2, M0)) (j := 0) (by decide) hcq1) kw_X5_84 bi_X3_clockAt bx_X3_clockAt (ia hi (id_1 (by decide))) oc_1 (eS_self _ _ _) ⟨by decide, by decide⟩ ⟨Nat.zero_le _, Nat.zero_le _⟩ rfl rfl (Nat.le_of_ble_eq_true rfl) rfl (eS_self _ _ _) dX5_noonError_5 ?_
  refine j_ifnonnull (tgt := 14) C0 dX5_noonError_8 (by decide) ?_
  refine j_aload_n C0 dX5_noonError_14 rfl 0 rfl ?_
  refine j_iload_n C0 dX5_noonError_15 rfl 1 rfl ?_
  refine j_iconst (v := 0) C0 dX5_noonError_16 rfl ?_
  obtain ⟨q3, hcq3, hf⟩ := bd_some hf
  refine j_callV (As := [.int x1, .int (0 : Int32)]) (rest := []) (stk := [.int q3.1]) (G2 := (q3.2.1, q3.2.2, M0)) C0 (c_X5_noonErrorWith hi (M0 := M0)  hcq3) kw_X5_160 bi_X5_noonErrorWith bx_X5_noonErrorWith (ia hi id_c0) oc_0 rfl ⟨by decide, by decide⟩ ⟨Nat.zero_le _, Nat.zero_le _⟩ rfl rfl (Nat.le_of_ble_eq_true rfl) rfl rfl dX5_noonError_17 ?_
  refine j_sipush (v := 10000) C0 dX5_noonError_20 rfl ?_
  refine j_iadd C0 dX5_noonError_23 ?_
  exact j_iret C0 hr dX5_noonError_24 (pr1 hf) (congrArg (fun z => (z.1, z.2, M0)) (pr2 hf))

set_option maxHeartbeats 4000000 in
set_option maxRecDepth 100000 in
theorem c_X5_bestWax {l : Launch} {D : va_G} {ca : Nat → ClassId} {ad : I3 → Nat} (hi : adI ad) {M0 : Nat → Nat → Int32} {X : XS} {x1 : Int32} {x2 : Int32} {r0 : Int32} {X' : XS}  (hf : fX_bestWax X x1 x2 = some (r0, X')) : MT l D ca ad yX5_bestWax cX5_bestWax 8 (some .int) 6 138 [.ref (ad (0, 0, 0)), .int x1, .int x2] (X.1, X.2, M0) (some (.int r0)) (X'.1, X'.2, M0) := by
  refine met_J (lv := [(0, .ref (ad (0, 0, 0))), (1, .int x1), (2, .int x2)]) hi (by decide +kernel) (Nat.le_of_ble_eq_true rfl) rfl (fun p e s m below meth c C0 hr => ?_)
  have L39 : ∀ (n : Nat) (X : XS) (y1 : Int32) (y2 : Int32) (y3 : Nat) (y4 : Int32) (y5 : Int32) (y6 : Int32) (hy3 : y3 < 5), fX_bestWax_L39 n X y1 y2 y3 y4 y5 y6 = some (r0, X') → J D ca ad p l e ({ frames := 6, cells := 0, slots := 0, locals := 138 }) s m [.ref (ad (0, 0, 0)), .int x1, .int x2].toArray below meth c 0 0 (MQ below (post D ca ad (some (.int r0)) (X'.1, X'.2, M0)) [.ref (ad (0, 0, 0)), .int x1, .int x2].toArray s 0 0 (adA ad)) 8 (X.1, X.2, M0) 39 [(0, .ref (ad (0, 0, 0))), (1, .int y1), (2, .int y2), (3, .ref (ad (3, 0, y3))), (4, .int y4), (5, .int y5), (6, .int y6)] [] := by
    intro n
    induction n with
    | zero =>
      intro X y1 y2 y3 y4 y5 y6 hy3 hf
      exact (none_ne hf).elim
    | succ n ih =>
      intro X y1 y2 y3 y4 y5 y6 hy3 hf
      rw [fX_bestWax_L39] at hf
      refine j_iload C0 dX5_bestWax_39 6 rfl ?_
      refine j_aload_n C0 dX5_bestWax_41 rfl 3 rfl ?_
      refine j_geti (x := (X.1 0 (KI y3 1))) C0 fl_X5_163 (sl_1_2 (by decide) hy3) (ia hi (id_3 (by decide) hy3)) rfl dX5_bestWax_42 ?_
      refine j_icmp_ge (tgt := 91) C0 dX5_bestWax_45 (by decide) (fun c6 => ?_) (fun c6 => ?_)
      · have hf := if_t c6 hf
        refine j_iload_n C0 dX5_bestWax_91 rfl 2 rfl ?_
        refine j_if_ne (tgt := 100) C0 dX5_bestWax_92 (by decide) (fun c7 => ?_) (fun c7 => ?_)
        · have hf := if_f c7 hf
          refine j_iload C0 dX5_bestWax_100 5 rfl ?_
          refine j_sipush (v := 10000) C0 dX5_bestWax_102 rfl ?_
          refine j_iadd C0 dX5_bestWax_105 ?_
          exact j_iret C0 hr dX5_bestWax_106 (pr1 hf) (congrArg (fun z => (z.1, z.2, M0)) (pr2 hf))
        have hf := if_t c7 hf
        refine j_iload C0 dX5_bestWax_95 4 rfl ?_
        refine j_goto (tgt := 106) C0 dX5_bestWax_97 (by decide) ?_
        exact j_iret C0 hr dX5_bestWax_106 (pr1 hf) (congrArg (fun z => (z.1, z.2, M0)) (pr2 hf))
      have hf := if_f c6 hf
      refine j_iload C0 dX5_bestWax_48 6 rfl ?_
      refine j_bipush (v := 60) C0 dX5_bestWax_50 rfl ?_
      refine j_icmp_ge (tgt := 91) C0 dX5_bestWax_52 (by decide) (fun c8 => ?_) (fun c8 => ?_)
      · have hf := if_t c8 hf
        refine j_iload_n C0 dX5_bestWax_91 rfl 2 rfl ?_
        refine j_if_ne (tgt := 100) C0 dX5_bestWax_92 (by decide) (fun c9 => ?_) (fun c9 => ?_)
        · have hf := if_f c9 hf
          refine j_iload C0 dX5_bestWax_100 5 rfl ?_
          refine j_sipush (v := 10000) C0 dX5_bestWax_102 rfl ?_
          refine j_iadd C0 dX5_bestWax_105 ?_
          exact j_iret C0 hr dX5_bestWax_106 (pr1 hf) (congrArg (fun z => (z.1, z.2, M0)) (pr2 hf))
        have hf := if_t c9 hf
        refine j_iload C0 dX5_bestWax_95 4 rfl ?_
        refine j_goto (tgt := 106) C0 dX5_bestWax_97 (by decide) ?_
        exact j_iret C0 hr dX5_bestWax_106 (pr1 hf) (congrArg (fun z => (z.1, z.2, M0)) (pr2 hf))
      have hf := if_f c8 hf
      refine j_aload_n C0 dX5_bestWax_55 rfl 0 rfl ?_
      refine j_iload_n C0 dX5_bestWax_56 rfl 1 rfl ?_
      refine j_iload C0 dX5_bestWax_57 6 rfl ?_
      obtain ⟨q10, hcq10, hf⟩ := bd_some hf
      refine j_callV (As := [.int y1, .int y6]) (rest := []) (stk := [.int q10.1]) (G2 := (q10.2.1, q10.2.2, M0)) C0 (c_X5_noonErrorWith hi (M0 := M0)  hcq10) kw_X5_160 bi_X5_noonErrorWith bx_X5_noonErrorWith (ia hi id_c0) oc_0 rfl ⟨by decide, by decide⟩ ⟨Nat.zero_le _, Nat.zero_le _⟩ rfl rfl (Nat.le_of_ble_eq_true rfl) rfl rfl dX5_bestWax_59 ?_
      refine j_istore (lv' := [(7, .int q10.1), (0, .ref (ad (0, 0, 0))), (1, .int y1), (2, .int y2), (3, .ref (ad (3, 0, y3))), (4, .int y4), (5, .int y5), (6, .int y6)]) C0 dX5_bestWax_62 (by decide) rfl ?_
      refine j_iload C0 dX5_bestWax_64 0 rfl ?_
      obtain ⟨q11, hcq11, hf⟩ := bd_some hf
      refine j_callS (As := [.int q10.1]) (rest := []) (stk := [.int q11]) (G2 := (q10.2.1, q10.2.2, M0)) C0 (c_J9_abs_0f7a4 hi (G0 := (q10.2.1, q10.2.2, M0))  hcq11) kw_X5_166 bi_J9_abs_0f7a4 rfl ⟨by decide, by decide⟩ ⟨Nat.zero_le _, Nat.zero_le _⟩ rfl rfl (Nat.le_of_ble_eq_true rfl) rfl rfl dX5_bestWax_66 ?_
      refine j_iload C0 dX5_bestWax_69 6 rfl ?_
      obtain ⟨q12, hcq12, hf⟩ := bd_some hf
      refine j_callS (As := [.int y5]) (rest := [.int q11]) (stk := [.int q12, .int q11]) (G2 := (q10.2.1, q10.2.2, M0)) C0 (c_J9_abs_0f7a4 hi (G0 := (q10.2.1, q10.2.2, M0))  hcq12) kw_X5_166 bi_J9_abs_0f7a4 rfl ⟨by decide, by decide⟩ ⟨Nat.zero_le _, Nat.zero_le _⟩ rfl rfl (Nat.le_of_ble_eq_true rfl) rfl rfl dX5_bestWax_71 ?_
      refine j_icmp_ge (tgt := 85) C0 dX5_bestWax_74 (by decide) (fun c13 => ?_) (fun c13 => ?_)
      · have hf := if_t c13 hf
        refine j_iinc (v := (y6 + 1)) (lv' := [(6, .int (y6 + 1)), (7, .int q10.1), (0, .ref (ad (0, 0, 0))), (1, .int y1), (2, .int y2), (3, .ref (ad (3, 0, y3))), (4, .int y4), (5, .int y5)]) C0 dX5_bestWax_85 7 rfl rfl (by decide) rfl ?_
        refine j_goto (tgt := 39) C0 dX5_bestWax_88 (by decide) ?_
        exact j_sub [2, 3, 4, 5, 6, 7, 0] rfl (ih q10.2 y1 y2 y3 y4 y5 (y6 + 1) hy3 hf)
      have hf := if_f c13 hf
      refine j_iload C0 dX5_bestWax_77 7 rfl ?_
      refine j_istore (lv' := [(4, .int y6), (7, .int q10.1), (0, .ref (ad (0, 0, 0))), (1, .int y1), (2, .int y2), (3, .ref (ad (3, 0, y3))), (5, .int y5), (6, .int y6)]) C0 dX5_bestWax_79 (by decide) rfl ?_
      refine j_iload C0 dX5_bestWax_81 1 rfl ?_
      refine j_istore (lv' := [(5, .int q10.1), (4, .int y6), (7, .int q10.1), (0, .ref (ad (0, 0, 0))), (1, .int y1), (2, .int y2), (3, .ref (ad (3, 0, y3))), (6, .int y6)]) C0 dX5_bestWax_83 (by decide) rfl ?_
      refine j_iinc (v := (y6 + 1)) (lv' := [(6, .int (y6 + 1)), (5, .int q10.1), (4, .int y6), (7, .int q10.1), (0, .ref (ad (0, 0, 0))), (1, .int y1), (2, .int y2), (3, .ref (ad (3, 0, y3)))]) C0 dX5_bestWax_85 7 rfl rfl (by decide) rfl ?_
      refine j_goto (tgt := 39) C0 dX5_bestWax_88 (by decide) ?_
      exact j_sub [4, 5, 6, 7, 2, 1, 0] rfl (ih q10.2 y1 y2 y3 y6 q10.1 (y6 + 1) hy3 hf)
  unfold fX_bestWax at hf
  refine j_aload_n C0 dX5_bestWax_0 rfl 0 rfl ?_
  refine j_getr (id2 := (1, 0, 0)) C0 fl_X5_10 rl_5_0 (ia hi id_c0) dX5_bestWax_1 ?_
  refine j_iload_n C0 dX5_bestWax_4 rfl 1 rfl ?_
  obtain ⟨q1, hcq1, hf⟩ := bd_some hf
  rcases q1 with _ | kq1
  · have hf := onN_none hf
    refine j_callV (As := [.int x1]) (rest := []) (stk := [.null]) (G2 := (X.1, X.2, M0)) C0 (c_X3_clockAt hi (G0 := (X.1, X.2, M0)) (j := 0) (by decide) hcq1) kw_X5_84 bi_X3_clockAt bx_X3_clockAt (ia hi (id_1 (by decide))) oc_1 (eS_self _ _ _) ⟨by decide, by decide⟩ ⟨Nat.zero_le _, Nat.zero_le _⟩ rfl rfl (Nat.le_of_ble_eq_true rfl) rfl (eS_self _ _ _) dX5_bestWax_5 ?_
    refine j_astore_nN (lv' := [(3, .null), (0, .ref (ad (0, 0, 0))), (1, .int x1), (2, .int x2)]) C0 dX5_bestWax_8 rfl (by decide) rfl ?_
    refine j_aload_nN C0 dX5_bestWax_9 rfl 0 rfl ?_
    refine j_ifnullN (tgt := 22) C0 dX5_bestWax_10 (by decide) ?_
    refine j_ldc (v := -1000001) C0 dX5_bestWax_22 cw_X5_78 ?_
    exact j_iret C0 hr dX5_bestWax_24 (pr1 hf) (congrArg (fun z => (z.1, z.2, M0)) (pr2 hf))
  have hf := onN_some hf
  have hk2 := clockAt_lt hcq1
  refine j_callV (As := [.int x1]) (rest := []) (stk := [.ref (ad (3, 0, kq1))]) (G2 := (X.1, X.2, M0)) C0 (c_X3_clockAt hi (G0 := (X.1, X.2, M0)) (j := 0) (by decide) hcq1) kw_X5_84 bi_X3_clockAt bx_X3_clockAt (ia hi (id_1 (by decide))) oc_1 (eS_self _ _ _) ⟨by decide, by decide⟩ ⟨Nat.zero_le _, Nat.zero_le _⟩ rfl rfl (Nat.le_of_ble_eq_true rfl) rfl (eS_self _ _ _) dX5_bestWax_5 ?_
  refine j_astore_n (lv' := [(3, .ref (ad (3, 0, kq1))), (0, .ref (ad (0, 0, 0))), (1, .int x1), (2, .int x2)]) C0 dX5_bestWax_8 rfl (by decide) rfl ?_
  refine j_aload_n C0 dX5_bestWax_9 rfl 0 rfl ?_
  refine j_ifnull C0 dX5_bestWax_10 ?_
  refine j_iload_n C0 dX5_bestWax_13 rfl 3 rfl ?_
  refine j_if_lt (tgt := 22) C0 dX5_bestWax_14 (by decide) (fun c3 => ?_) (fun c3 => ?_)
  · have hf := if_t c3 hf
    refine j_ldc (v := -1000001) C0 dX5_bestWax_22 cw_X5_78 ?_
    exact j_iret C0 hr dX5_bestWax_24 (pr1 hf) (congrArg (fun z => (z.1, z.2, M0)) (pr2 hf))
  have hf := if_f c3 hf
  refine j_iload_n C0 dX5_bestWax_17 rfl 3 rfl ?_
  refine j_iconst (v := 1) C0 dX5_bestWax_18 rfl ?_
  refine j_icmp_le (tgt := 25) C0 dX5_bestWax_19 (by decide) (fun c4 => ?_) (fun c4 => ?_)
  · have hf := if_t c4 hf
    refine j_iconst (v := 0) C0 dX5_bestWax_25 rfl ?_
    refine j_istore (lv' := [(4, .int (0 : Int32)), (3, .ref (ad (3, 0, kq1))), (0, .ref (ad (0, 0, 0))), (1, .int x1), (2, .int x2)]) C0 dX5_bestWax_26 (by decide) rfl ?_
    refine j_aload_n C0 dX5_bestWax_28 rfl 2 rfl ?_
    refine j_iload_n C0 dX5_bestWax_29 rfl 3 rfl ?_
    refine j_iconst (v := 0) C0 dX5_bestWax_30 rfl ?_
    obtain ⟨q5, hcq5, hf⟩ := bd_some hf
    refine j_callV (As := [.int x1, .int (0 : Int32)]) (rest := []) (stk := [.int q5.1]) (G2 := (q5.2.1, q5.2.2, M0)) C0 (c_X5_noonErrorWith hi (M0 := M0)  hcq5) kw_X5_160 bi_X5_noonErrorWith bx_X5_noonErrorWith (ia hi id_c0) oc_0 rfl ⟨by decide, by decide⟩ ⟨Nat.zero_le _, Nat.zero_le _⟩ rfl rfl (Nat.le_of_ble_eq_true rfl) rfl rfl dX5_bestWax_31 ?_
    refine j_istore (lv' := [(5, .int q5.1), (4, .int (0 : Int32)), (3, .ref (ad (3, 0, kq1))), (0, .ref (ad (0, 0, 0))), (1, .int x1), (2, .int x2)]) C0 dX5_bestWax_34 (by decide) rfl ?_
    refine j_iconst (v := 1) C0 dX5_bestWax_36 rfl ?_
    refine j_istore (lv' := [(6, .int (1 : Int32)), (5, .int q5.1), (4, .int (0 : Int32)), (3, .ref (ad (3, 0, kq1))), (0, .ref (ad (0, 0, 0))), (1, .int x1), (2, .int x2)]) C0 dX5_bestWax_37 (by decide) rfl ?_
    exact j_sub [4, 5, 6, 3, 2, 1, 0] rfl (L39 fuel q5.2 x1 x2 kq1 (0 : Int32) q5.1 (1 : Int32) hk2 hf)
  have hf := if_f c4 hf
  refine j_ldc (v := -1000001) C0 dX5_bestWax_22 cw_X5_78 ?_
  exact j_iret C0 hr dX5_bestWax_24 (pr1 hf) (congrArg (fun z => (z.1, z.2, M0)) (pr2 hf))

set_option maxHeartbeats 4000000 in
set_option maxRecDepth 100000 in
theorem c_X3_sizeOfError {l : Launch} {D : va_G} {ca : Nat → ClassId} {ad : I3 → Nat} (hi : adI ad) {G0 : GS} {j : Nat} {σ : Nat → Int32} {x1 : Int32} {r0 : Int32} (hj : j < 9) (hf : fS_sizeOfError σ x1 = some (r0)) : MT l D ca ad yX3_sizeOfError cX3_sizeOfError 3 (some .int) 4 84 [.ref (ad (1, j, 0)), .int x1] (eS G0 j σ) (some (.int r0)) (eS G0 j σ) := by
  refine met_J (lv := [(0, .ref (ad (1, j, 0))), (1, .int x1)]) hi (by decide +kernel) (Nat.le_of_ble_eq_true rfl) rfl (fun p e s m below meth c C0 hr => ?_)
  unfold fS_sizeOfError at hf
  refine j_aload_n C0 dX3_sizeOfError_0 rfl 0 rfl ?_
  refine j_iload_n C0 dX3_sizeOfError_1 rfl 1 rfl ?_
  obtain ⟨q1, hcq1, hf⟩ := bd_some hf
  rcases q1 with _ | kq1
  · have hf := onN_none hf
    refine j_callV (As := [.int x1]) (rest := []) (stk := [.null]) (G2 := (eS G0 j σ)) C0 (c_X3_clockAt hi (G0 := G0) (j := j) hj hcq1) kw_X3_85 bi_X3_clockAt bx_X3_clockAt (ia hi (id_1 hj)) oc_1 rfl ⟨by decide, by decide⟩ ⟨Nat.zero_le _, Nat.zero_le _⟩ rfl rfl (Nat.le_of_ble_eq_true rfl) rfl rfl dX3_sizeOfError_2 ?_
    refine j_astore_nN (lv' := [(2, .null), (0, .ref (ad (1, j, 0))), (1, .int x1)]) C0 dX3_sizeOfError_5 rfl (by decide) rfl ?_
    refine j_aload_nN C0 dX3_sizeOfError_6 rfl 0 rfl ?_
    refine j_ifnonnullN C0 dX3_sizeOfError_7 ?_
    refine j_iconst (v := 0) C0 dX3_sizeOfError_10 rfl ?_
    refine j_goto (tgt := 22) C0 dX3_sizeOfError_11 (by decide) ?_
    exact j_iret C0 hr dX3_sizeOfError_22 (so hf) rfl
  have hf := onN_some hf
  have hk2 := clockAt_lt hcq1
  refine j_callV (As := [.int x1]) (rest := []) (stk := [.ref (ad (3, j, kq1))]) (G2 := (eS G0 j σ)) C0 (c_X3_clockAt hi (G0 := G0) (j := j) hj hcq1) kw_X3_85 bi_X3_clockAt bx_X3_clockAt (ia hi (id_1 hj)) oc_1 rfl ⟨by decide, by decide⟩ ⟨Nat.zero_le _, Nat.zero_le _⟩ rfl rfl (Nat.le_of_ble_eq_true rfl) rfl rfl dX3_sizeOfError_2 ?_
  refine j_astore_n (lv' := [(2, .ref (ad (3, j, kq1))), (0, .ref (ad (1, j, 0))), (1, .int x1)]) C0 dX3_sizeOfError_5 rfl (by decide) rfl ?_
  refine j_aload_n C0 dX3_sizeOfError_6 rfl 0 rfl ?_
  refine j_ifnonnull (tgt := 14) C0 dX3_sizeOfError_7 (by decide) ?_
  refine j_aload_n C0 dX3_sizeOfError_14 rfl 1 rfl ?_
  refine j_aload_n C0 dX3_sizeOfError_15 rfl 0 rfl ?_
  obtain ⟨q3, hcq3, hf⟩ := bd_some hf
  refine j_callV (As := [.ref (ad (3, j, kq1))]) (rest := []) (stk := [.int q3]) (G2 := (eS G0 j σ)) C0 (c_X3_errorOf hi (G0 := G0) (j := j) hj hk2 hcq3) kw_X3_127 bi_X3_errorOf bx_X3_errorOf (ia hi (id_1 hj)) oc_1 rfl ⟨by decide, by decide⟩ ⟨Nat.zero_le _, Nat.zero_le _⟩ rfl rfl (Nat.le_of_ble_eq_true rfl) rfl rfl dX3_sizeOfError_16 ?_
  obtain ⟨q4, hcq4, hf⟩ := bd_some hf
  refine j_callS (As := [.int q3]) (rest := []) (stk := [.int q4]) (G2 := (eS G0 j σ)) C0 (c_J9_abs_0f7a4 hi (G0 := (eS G0 j σ))  hcq4) kw_X3_224 bi_J9_abs_0f7a4 rfl ⟨by decide, by decide⟩ ⟨Nat.zero_le _, Nat.zero_le _⟩ rfl rfl (Nat.le_of_ble_eq_true rfl) rfl rfl dX3_sizeOfError_19 ?_
  exact j_iret C0 hr dX3_sizeOfError_22 (so hf) rfl

set_option maxHeartbeats 4000000 in
set_option maxRecDepth 100000 in
theorem c_X3_rankOf {l : Launch} {D : va_G} {ca : Nat → ClassId} {ad : I3 → Nat} (hi : adI ad) {G0 : GS} {j : Nat} {σ : Nat → Int32} {x1 : Int32} {r0 : Int32} (hj : j < 9) (hf : fS_rankOf σ x1 = some (r0)) : MT l D ca ad yX3_rankOf cX3_rankOf 6 (some .int) 5 106 [.ref (ad (1, j, 0)), .int x1] (eS G0 j σ) (some (.int r0)) (eS G0 j σ) := by
  refine met_J (lv := [(0, .ref (ad (1, j, 0))), (1, .int x1)]) hi (by decide +kernel) (Nat.le_of_ble_eq_true rfl) rfl (fun p e s m below meth c C0 hr => ?_)
  have L11 : ∀ (n : Nat) (σ : Nat → Int32) (y1 : Int32) (y2 : Int32) (y3 : Int32) (y4 : Int32), fS_rankOf_L11 n σ y1 y2 y3 y4 = some (r0) → J D ca ad p l e ({ frames := 5, cells := 0, slots := 0, locals := 106 }) s m [.ref (ad (1, j, 0)), .int x1].toArray below meth c 0 0 (MQ below (post D ca ad (some (.int r0)) (eS G0 j σ)) [.ref (ad (1, j, 0)), .int x1].toArray s 0 0 (adA ad)) 6 (eS G0 j σ) 11 [(0, .ref (ad (1, j, 0))), (1, .int y1), (2, .int y2), (3, .int y3), (4, .int y4)] [] := by
    intro n
    induction n with
    | zero =>
      intro σ y1 y2 y3 y4 hf
      exact (none_ne hf).elim
    | succ n ih =>
      intro σ y1 y2 y3 y4 hf
      rw [fS_rankOf_L11] at hf
      refine j_iload C0 dX3_rankOf_11 4 rfl ?_
      refine j_aload_n C0 dX3_rankOf_13 rfl 0 rfl ?_
      refine j_geti (x := (σ 19)) C0 fl_X3_48 (sl_3_3 hj) (ia hi (id_1 hj)) eS_get dX3_rankOf_14 ?_
      refine j_icmp_ge (tgt := 55) C0 dX3_rankOf_17 (by decide) (fun c2 => ?_) (fun c2 => ?_)
      · have hf := if_t c2 hf
        refine j_iload_n C0 dX3_rankOf_55 rfl 3 rfl ?_
        exact j_iret C0 hr dX3_rankOf_56 (so hf) rfl
      have hf := if_f c2 hf
      refine j_aload_n C0 dX3_rankOf_20 rfl 0 rfl ?_
      refine j_iload C0 dX3_rankOf_21 4 rfl ?_
      obtain ⟨q3, hcq3, hf⟩ := bd_some hf
      refine j_callV (As := [.int y4]) (rest := []) (stk := [.int q3]) (G2 := (eS G0 j σ)) C0 (c_X3_sizeOfError hi (G0 := G0) (j := j) hj hcq3) kw_X3_245 bi_X3_sizeOfError bx_X3_sizeOfError (ia hi (id_1 hj)) oc_1 rfl ⟨by decide, by decide⟩ ⟨Nat.zero_le _, Nat.zero_le _⟩ rfl rfl (Nat.le_of_ble_eq_true rfl) rfl rfl dX3_rankOf_23 ?_
      refine j_istore (lv' := [(5, .int q3), (0, .ref (ad (1, j, 0))), (1, .int y1), (2, .int y2), (3, .int y3), (4, .int y4)]) C0 dX3_rankOf_26 (by decide) rfl ?_
      refine j_iload C0 dX3_rankOf_28 0 rfl ?_
      refine j_iload_n C0 dX3_rankOf_30 rfl 3 rfl ?_
      refine j_icmp_gt (tgt := 46) C0 dX3_rankOf_31 (by decide) (fun c4 => ?_) (fun c4 => ?_)
      · have hf := if_t c4 hf
        refine j_iinc (v := (y3 + 1)) (lv' := [(3, .int (y3 + 1)), (5, .int q3), (0, .ref (ad (1, j, 0))), (1, .int y1), (2, .int y2), (4, .int y4)]) C0 dX3_rankOf_46 4 rfl rfl (by decide) rfl ?_
        refine j_iinc (v := (y4 + 1)) (lv' := [(4, .int (y4 + 1)), (3, .int (y3 + 1)), (5, .int q3), (0, .ref (ad (1, j, 0))), (1, .int y1), (2, .int y2)]) C0 dX3_rankOf_49 5 rfl rfl (by decide) rfl ?_
        refine j_goto (tgt := 11) C0 dX3_rankOf_52 (by decide) ?_
        exact j_sub [3, 4, 5, 1, 0] rfl (ih σ y1 y2 (y3 + 1) (y4 + 1) hf)
      have hf := if_f c4 hf
      refine j_iload C0 dX3_rankOf_34 0 rfl ?_
      refine j_iload_n C0 dX3_rankOf_36 rfl 3 rfl ?_
      refine j_icmp_ne (tgt := 49) C0 dX3_rankOf_37 (by decide) (fun c5 => ?_) (fun c5 => ?_)
      · have hf := if_f c5 hf
        refine j_iinc (v := (y4 + 1)) (lv' := [(4, .int (y4 + 1)), (5, .int q3), (0, .ref (ad (1, j, 0))), (1, .int y1), (2, .int y2), (3, .int y3)]) C0 dX3_rankOf_49 5 rfl rfl (by decide) rfl ?_
        refine j_goto (tgt := 11) C0 dX3_rankOf_52 (by decide) ?_
        exact j_sub [2, 3, 4, 5, 0] rfl (ih σ y1 y2 y3 (y4 + 1) hf)
      have hf := if_t c5 hf
      refine j_iload C0 dX3_rankOf_40 5 rfl ?_
      refine j_iload_n C0 dX3_rankOf_42 rfl 2 rfl ?_
      refine j_icmp_ge (tgt := 49) C0 dX3_rankOf_43 (by decide) (fun c6 => ?_) (fun c6 => ?_)
      · have hf := if_t c6 hf
        refine j_iinc (v := (y4 + 1)) (lv' := [(4, .int (y4 + 1)), (5, .int q3), (0, .ref (ad (1, j, 0))), (1, .int y1), (2, .int y2), (3, .int y3)]) C0 dX3_rankOf_49 5 rfl rfl (by decide) rfl ?_
        refine j_goto (tgt := 11) C0 dX3_rankOf_52 (by decide) ?_
        exact j_sub [2, 3, 4, 5, 0] rfl (ih σ y1 y2 y3 (y4 + 1) hf)
      have hf := if_f c6 hf
      refine j_iinc (v := (y3 + 1)) (lv' := [(3, .int (y3 + 1)), (5, .int q3), (0, .ref (ad (1, j, 0))), (1, .int y1), (2, .int y2), (4, .int y4)]) C0 dX3_rankOf_46 4 rfl rfl (by decide) rfl ?_
      refine j_iinc (v := (y4 + 1)) (lv' := [(4, .int (y4 + 1)), (3, .int (y3 + 1)), (5, .int q3), (0, .ref (ad (1, j, 0))), (1, .int y1), (2, .int y2)]) C0 dX3_rankOf_49 5 rfl rfl (by decide) rfl ?_
      refine j_goto (tgt := 11) C0 dX3_rankOf_52 (by decide) ?_
      exact j_sub [3, 4, 5, 1, 0] rfl (ih σ y1 y2 (y3 + 1) (y4 + 1) hf)
  unfold fS_rankOf at hf
  refine j_aload_n C0 dX3_rankOf_0 rfl 0 rfl ?_
  refine j_iload_n C0 dX3_rankOf_1 rfl 1 rfl ?_
  obtain ⟨q1, hcq1, hf⟩ := bd_some hf
  refine j_callV (As := [.int x1]) (rest := []) (stk := [.int q1]) (G2 := (eS G0 j σ)) C0 (c_X3_sizeOfError hi (G0 := G0) (j := j) hj hcq1) kw_X3_245 bi_X3_sizeOfError bx_X3_sizeOfError (ia hi (id_1 hj)) oc_1 rfl ⟨by decide, by decide⟩ ⟨Nat.zero_le _, Nat.zero_le _⟩ rfl rfl (Nat.le_of_ble_eq_true rfl) rfl rfl dX3_rankOf_2 ?_
  refine j_istore_n (lv' := [(2, .int q1), (0, .ref (ad (1, j, 0))), (1, .int x1)]) C0 dX3_rankOf_5 rfl (by decide) rfl ?_
  refine j_iconst (v := 0) C0 dX3_rankOf_6 rfl ?_
  refine j_istore_n (lv' := [(3, .int (0 : Int32)), (2, .int q1), (0, .ref (ad (1, j, 0))), (1, .int x1)]) C0 dX3_rankOf_7 rfl (by decide) rfl ?_
  refine j_iconst (v := 0) C0 dX3_rankOf_8 rfl ?_
  refine j_istore (lv' := [(4, .int (0 : Int32)), (3, .int (0 : Int32)), (2, .int q1), (0, .ref (ad (1, j, 0))), (1, .int x1)]) C0 dX3_rankOf_9 (by decide) rfl ?_
  exact j_sub [3, 4, 2, 1, 0] rfl (L11 fuel σ x1 q1 (0 : Int32) (0 : Int32) hf)

set_option maxHeartbeats 4000000 in
set_option maxRecDepth 100000 in
theorem c_X5_worst {l : Launch} {D : va_G} {ca : Nat → ClassId} {ad : I3 → Nat} (hi : adI ad) {M0 : Nat → Nat → Int32} {X : XS} {x1 : Int32} {r0 : Int32}  (hf : fX_worst X x1 = some (r0)) : MT l D ca ad yX5_worst cX5_worst 3 (some .int) 6 131 [.ref (ad (0, 0, 0)), .int x1] (X.1, X.2, M0) (some (.int r0)) (X.1, X.2, M0) := by
  refine met_J (lv := [(0, .ref (ad (0, 0, 0))), (1, .int x1)]) hi (by decide +kernel) (Nat.le_of_ble_eq_true rfl) rfl (fun p e s m below meth c C0 hr => ?_)
  have L9 : ∀ (n : Nat) (X : XS) (y1 : Int32) (y2 : Int32), fX_worst_L9 n X y1 y2 = some (r0) → J D ca ad p l e ({ frames := 6, cells := 0, slots := 0, locals := 131 }) s m [.ref (ad (0, 0, 0)), .int x1].toArray below meth c 0 0 (MQ below (post D ca ad (some (.int r0)) (X.1, X.2, M0)) [.ref (ad (0, 0, 0)), .int x1].toArray s 0 0 (adA ad)) 3 (X.1, X.2, M0) 9 [(0, .ref (ad (0, 0, 0))), (1, .int y1), (2, .int y2)] [] := by
    intro n
    induction n with
    | zero =>
      intro X y1 y2 hf
      exact (none_ne hf).elim
    | succ n ih =>
      intro X y1 y2 hf
      rw [fX_worst_L9] at hf
      refine j_iload_n C0 dX5_worst_9 rfl 2 rfl ?_
      refine j_aload_n C0 dX5_worst_10 rfl 0 rfl ?_
      refine j_getr (id2 := (1, 0, 0)) C0 fl_X5_10 rl_5_0 (ia hi id_c0) dX5_worst_11 ?_
      refine j_geti (x := (X.1 0 19)) C0 fl_X5_79 (sl_3_3 (by decide)) (ia hi (id_1 (by decide))) rfl dX5_worst_14 ?_
      refine j_icmp_ge (tgt := 40) C0 dX5_worst_17 (by decide) (fun c2 => ?_) (fun c2 => ?_)
      · have hf := if_t c2 hf
        refine j_ldc (v := -1000004) C0 dX5_worst_40 cw_X5_96 ?_
        exact j_iret C0 hr dX5_worst_42 (so hf) rfl
      have hf := if_f c2 hf
      refine j_aload_n C0 dX5_worst_20 rfl 0 rfl ?_
      refine j_getr (id2 := (1, 0, 0)) C0 fl_X5_10 rl_5_0 (ia hi id_c0) dX5_worst_21 ?_
      refine j_iload_n C0 dX5_worst_24 rfl 2 rfl ?_
      obtain ⟨q3, hcq3, hf⟩ := bd_some hf
      refine j_callV (As := [.int y2]) (rest := []) (stk := [.int q3]) (G2 := (X.1, X.2, M0)) C0 (c_X3_rankOf hi (G0 := (X.1, X.2, M0)) (j := 0) (by decide) hcq3) kw_X5_171 bi_X3_rankOf bx_X3_rankOf (ia hi (id_1 (by decide))) oc_1 (eS_self _ _ _) ⟨by decide, by decide⟩ ⟨Nat.zero_le _, Nat.zero_le _⟩ rfl rfl (Nat.le_of_ble_eq_true rfl) rfl (eS_self _ _ _) dX5_worst_25 ?_
      refine j_iload_n C0 dX5_worst_28 rfl 1 rfl ?_
      refine j_icmp_ne (tgt := 34) C0 dX5_worst_29 (by decide) (fun c4 => ?_) (fun c4 => ?_)
      · have hf := if_f c4 hf
        refine j_iinc (v := (y2 + 1)) (lv' := [(2, .int (y2 + 1)), (0, .ref (ad (0, 0, 0))), (1, .int y1)]) C0 dX5_worst_34 2 rfl rfl (by decide) rfl ?_
        refine j_goto (tgt := 9) C0 dX5_worst_37 (by decide) ?_
        exact j_sub [1, 2, 0] rfl (ih X y1 (y2 + 1) hf)
      have hf := if_t c4 hf
      refine j_iload_n C0 dX5_worst_32 rfl 2 rfl ?_
      exact j_iret C0 hr dX5_worst_33 (so hf) rfl
  unfold fX_worst at hf
  refine j_iload_n C0 dX5_worst_0 rfl 1 rfl ?_
  refine j_if_ge (tgt := 7) C0 dX5_worst_1 (by decide) (fun c1 => ?_) (fun c1 => ?_)
  · have hf := if_t c1 hf
    refine j_iconst (v := 0) C0 dX5_worst_7 rfl ?_
    refine j_istore_n (lv' := [(2, .int (0 : Int32)), (0, .ref (ad (0, 0, 0))), (1, .int x1)]) C0 dX5_worst_8 rfl (by decide) rfl ?_
    exact j_sub [1, 2, 0] rfl (L9 fuel X x1 (0 : Int32) hf)
  have hf := if_f c1 hf
  refine j_ldc (v := -1000001) C0 dX5_worst_4 cw_X5_78 ?_
  exact j_iret C0 hr dX5_worst_6 (so hf) rfl

set_option maxHeartbeats 4000000 in
set_option maxRecDepth 100000 in
theorem c_X3_errorsTogether {l : Launch} {D : va_G} {ca : Nat → ClassId} {ad : I3 → Nat} (hi : adI ad) {G0 : GS} {j : Nat} {σ : Nat → Int32} {r0 : Int32} (hj : j < 9) (hf : fS_errorsTogether σ = some (r0)) : MT l D ca ad yX3_errorsTogether cX3_errorsTogether 3 (some .int) 5 106 [.ref (ad (1, j, 0))] (eS G0 j σ) (some (.int r0)) (eS G0 j σ) := by
  refine met_J (lv := [(0, .ref (ad (1, j, 0)))]) hi (by decide +kernel) (Nat.le_of_ble_eq_true rfl) rfl (fun p e s m below meth c C0 hr => ?_)
  have L4 : ∀ (n : Nat) (σ : Nat → Int32) (y1 : Int32) (y2 : Int32), fS_errorsTogether_L4 n σ y1 y2 = some (r0) → J D ca ad p l e ({ frames := 5, cells := 0, slots := 0, locals := 106 }) s m [.ref (ad (1, j, 0))].toArray below meth c 0 0 (MQ below (post D ca ad (some (.int r0)) (eS G0 j σ)) [.ref (ad (1, j, 0))].toArray s 0 0 (adA ad)) 3 (eS G0 j σ) 4 [(0, .ref (ad (1, j, 0))), (1, .int y1), (2, .int y2)] [] := by
    intro n
    induction n with
    | zero =>
      intro σ y1 y2 hf
      exact (none_ne hf).elim
    | succ n ih =>
      intro σ y1 y2 hf
      rw [fS_errorsTogether_L4] at hf
      refine j_iload_n C0 dX3_errorsTogether_4 rfl 2 rfl ?_
      refine j_aload_n C0 dX3_errorsTogether_5 rfl 0 rfl ?_
      refine j_geti (x := (σ 19)) C0 fl_X3_48 (sl_3_3 hj) (ia hi (id_1 hj)) eS_get dX3_errorsTogether_6 ?_
      refine j_icmp_ge (tgt := 26) C0 dX3_errorsTogether_9 (by decide) (fun c1 => ?_) (fun c1 => ?_)
      · have hf := if_t c1 hf
        refine j_iload_n C0 dX3_errorsTogether_26 rfl 1 rfl ?_
        exact j_iret C0 hr dX3_errorsTogether_27 (so hf) rfl
      have hf := if_f c1 hf
      refine j_iload_n C0 dX3_errorsTogether_12 rfl 1 rfl ?_
      refine j_aload_n C0 dX3_errorsTogether_13 rfl 0 rfl ?_
      refine j_iload_n C0 dX3_errorsTogether_14 rfl 2 rfl ?_
      obtain ⟨q2, hcq2, hf⟩ := bd_some hf
      refine j_callV (As := [.int y2]) (rest := [.int y1]) (stk := [.int q2, .int y1]) (G2 := (eS G0 j σ)) C0 (c_X3_sizeOfError hi (G0 := G0) (j := j) hj hcq2) kw_X3_245 bi_X3_sizeOfError bx_X3_sizeOfError (ia hi (id_1 hj)) oc_1 rfl ⟨by decide, by decide⟩ ⟨Nat.zero_le _, Nat.zero_le _⟩ rfl rfl (Nat.le_of_ble_eq_true rfl) rfl rfl dX3_errorsTogether_15 ?_
      refine j_iadd C0 dX3_errorsTogether_18 ?_
      refine j_istore_n (lv' := [(1, .int (y1 + q2)), (0, .ref (ad (1, j, 0))), (2, .int y2)]) C0 dX3_errorsTogether_19 rfl (by decide) rfl ?_
      refine j_iinc (v := (y2 + 1)) (lv' := [(2, .int (y2 + 1)), (1, .int (y1 + q2)), (0, .ref (ad (1, j, 0)))]) C0 dX3_errorsTogether_20 2 rfl rfl (by decide) rfl ?_
      refine j_goto (tgt := 4) C0 dX3_errorsTogether_23 (by decide) ?_
      exact j_sub [2, 1, 0] rfl (ih σ (y1 + q2) (y2 + 1) hf)
  unfold fS_errorsTogether at hf
  refine j_iconst (v := 0) C0 dX3_errorsTogether_0 rfl ?_
  refine j_istore_n (lv' := [(1, .int (0 : Int32)), (0, .ref (ad (1, j, 0)))]) C0 dX3_errorsTogether_1 rfl (by decide) rfl ?_
  refine j_iconst (v := 0) C0 dX3_errorsTogether_2 rfl ?_
  refine j_istore_n (lv' := [(2, .int (0 : Int32)), (1, .int (0 : Int32)), (0, .ref (ad (1, j, 0)))]) C0 dX3_errorsTogether_3 rfl (by decide) rfl ?_
  exact j_sub [2, 1, 0] rfl (L4 fuel σ (0 : Int32) (0 : Int32) hf)

set_option maxHeartbeats 4000000 in
set_option maxRecDepth 100000 in
theorem c_X5_bitsOf {l : Launch} {D : va_G} {ca : Nat → ClassId} {ad : I3 → Nat} (hi : adI ad) {G0 : GS} {x1 : UInt32} {r0 : Int32}  (hf : fX_bitsOf x1 = some (r0)) : MT l D ca ad yX5_bitsOf cX5_bitsOf 3 (some .int) 0 0 [.float x1] G0 (some (.int r0)) G0 := by
  refine met_J (lv := [(0, .float x1)]) hi (by decide +kernel) (Nat.le_of_ble_eq_true rfl) rfl (fun p e s m below meth c C0 hr => ?_)
  have L34 : ∀ (n : Nat) (y1 : UInt32) (y2 : Int32), fX_bitsOf_L34 n y1 y2 = some (r0) → J D ca ad p l e ({ frames := 0, cells := 0, slots := 0, locals := 0 }) s m [.float x1].toArray below meth c 0 0 (MQ below (post D ca ad (some (.int r0)) G0) [.float x1].toArray s 0 0 (adA ad)) 3 G0 34 [(1, .float y1), (2, .int y2)] [] := by
    intro n
    induction n with
    | zero =>
      intro y1 y2 hf
      exact (none_ne hf).elim
    | succ n ih =>
      intro y1 y2 hf
      rw [fX_bitsOf_L34] at hf
      refine j_fload_n C0 dX5_bitsOf_34 rfl 0 rfl ?_
      refine j_fconst1 C0 dX5_bitsOf_35 ?_
      refine j_fcmp C0 dX5_bitsOf_36 ?_
      refine j_if_ge (tgt := 56) C0 dX5_bitsOf_37 (by decide) (fun c3 => ?_) (fun c3 => ?_)
      · have hf := if_t c3 hf
        refine j_iload_n C0 dX5_bitsOf_56 rfl 1 rfl ?_
        refine j_bipush (v := 127) C0 dX5_bitsOf_57 rfl ?_
        refine j_iadd C0 dX5_bitsOf_59 ?_
        refine j_bipush (v := 23) C0 dX5_bitsOf_60 rfl ?_
        refine j_ishl C0 dX5_bitsOf_62 ?_
        refine j_fload_n C0 dX5_bitsOf_63 rfl 0 rfl ?_
        refine j_fconst1 C0 dX5_bitsOf_64 ?_
        obtain ⟨h4, hf⟩ := gd_some hf
        refine j_fsub C0 dX5_bitsOf_65 h4 ?_
        refine j_ldcfW (v := 1258291200) C0 dX5_bitsOf_66 cw_X5_267 ?_
        obtain ⟨h5, hf⟩ := gd_some hf
        refine j_fmul C0 dX5_bitsOf_69 h5 ?_
        refine j_f2i C0 dX5_bitsOf_70 ?_
        refine j_iadd C0 dX5_bitsOf_71 ?_
        exact j_iret C0 hr dX5_bitsOf_72 (so hf) rfl
      have hf := if_f c3 hf
      refine j_iload_n C0 dX5_bitsOf_40 rfl 1 rfl ?_
      refine j_bipush (v := -126) C0 dX5_bitsOf_41 rfl ?_
      refine j_icmp_le (tgt := 56) C0 dX5_bitsOf_43 (by decide) (fun c6 => ?_) (fun c6 => ?_)
      · have hf := if_t c6 hf
        refine j_iload_n C0 dX5_bitsOf_56 rfl 1 rfl ?_
        refine j_bipush (v := 127) C0 dX5_bitsOf_57 rfl ?_
        refine j_iadd C0 dX5_bitsOf_59 ?_
        refine j_bipush (v := 23) C0 dX5_bitsOf_60 rfl ?_
        refine j_ishl C0 dX5_bitsOf_62 ?_
        refine j_fload_n C0 dX5_bitsOf_63 rfl 0 rfl ?_
        refine j_fconst1 C0 dX5_bitsOf_64 ?_
        obtain ⟨h7, hf⟩ := gd_some hf
        refine j_fsub C0 dX5_bitsOf_65 h7 ?_
        refine j_ldcfW (v := 1258291200) C0 dX5_bitsOf_66 cw_X5_267 ?_
        obtain ⟨h8, hf⟩ := gd_some hf
        refine j_fmul C0 dX5_bitsOf_69 h8 ?_
        refine j_f2i C0 dX5_bitsOf_70 ?_
        refine j_iadd C0 dX5_bitsOf_71 ?_
        exact j_iret C0 hr dX5_bitsOf_72 (so hf) rfl
      have hf := if_f c6 hf
      refine j_fload_n C0 dX5_bitsOf_46 rfl 0 rfl ?_
      refine j_fconst2 C0 dX5_bitsOf_47 ?_
      obtain ⟨h9, hf⟩ := gd_some hf
      refine j_fmul C0 dX5_bitsOf_48 h9 ?_
      refine j_fstore_n (lv' := [(1, .float (FP.fmul y1 FP.fconst2)), (2, .int y2)]) C0 dX5_bitsOf_49 rfl (by decide) rfl ?_
      refine j_iinc (v := (y2 + (-1))) (lv' := [(2, .int (y2 + (-1))), (1, .float (FP.fmul y1 FP.fconst2))]) C0 dX5_bitsOf_50 1 rfl rfl (by decide) rfl ?_
      refine j_goto (tgt := 34) C0 dX5_bitsOf_53 (by decide) ?_
      exact j_sub [1, 0] rfl (ih (FP.fmul y1 FP.fconst2) (y2 + (-1)) hf)
  have L12 : ∀ (n : Nat) (y1 : UInt32) (y2 : Int32), fX_bitsOf_L12 n y1 y2 = some (r0) → J D ca ad p l e ({ frames := 0, cells := 0, slots := 0, locals := 0 }) s m [.float x1].toArray below meth c 0 0 (MQ below (post D ca ad (some (.int r0)) G0) [.float x1].toArray s 0 0 (adA ad)) 3 G0 12 [(1, .float y1), (2, .int y2)] [] := by
    intro n
    induction n with
    | zero =>
      intro y1 y2 hf
      exact (none_ne hf).elim
    | succ n ih =>
      intro y1 y2 hf
      rw [fX_bitsOf_L12] at hf
      refine j_fload_n C0 dX5_bitsOf_12 rfl 0 rfl ?_
      refine j_fconst2 C0 dX5_bitsOf_13 ?_
      refine j_fcmp C0 dX5_bitsOf_14 ?_
      refine j_if_lt (tgt := 34) C0 dX5_bitsOf_15 (by decide) (fun c2 => ?_) (fun c2 => ?_)
      · have hf := if_t c2 hf
        exact j_sub [0, 1] rfl (L34 fuel y1 y2 hf)
      have hf := if_f c2 hf
      refine j_iload_n C0 dX5_bitsOf_18 rfl 1 rfl ?_
      refine j_bipush (v := 127) C0 dX5_bitsOf_19 rfl ?_
      refine j_icmp_ge (tgt := 34) C0 dX5_bitsOf_21 (by decide) (fun c10 => ?_) (fun c10 => ?_)
      · have hf := if_t c10 hf
        exact j_sub [0, 1] rfl (L34 fuel y1 y2 hf)
      have hf := if_f c10 hf
      refine j_fload_n C0 dX5_bitsOf_24 rfl 0 rfl ?_
      refine j_fconst2 C0 dX5_bitsOf_25 ?_
      obtain ⟨h11, hf⟩ := gd_some hf
      refine j_fdiv C0 dX5_bitsOf_26 h11 ?_
      refine j_fstore_n (lv' := [(1, .float (FP.fdiv y1 FP.fconst2)), (2, .int y2)]) C0 dX5_bitsOf_27 rfl (by decide) rfl ?_
      refine j_iinc (v := (y2 + 1)) (lv' := [(2, .int (y2 + 1)), (1, .float (FP.fdiv y1 FP.fconst2))]) C0 dX5_bitsOf_28 1 rfl rfl (by decide) rfl ?_
      refine j_goto (tgt := 12) C0 dX5_bitsOf_31 (by decide) ?_
      exact j_sub [1, 0] rfl (ih (FP.fdiv y1 FP.fconst2) (y2 + 1) hf)
  unfold fX_bitsOf at hf
  refine j_fload_n C0 dX5_bitsOf_0 rfl 0 rfl ?_
  refine j_fconst0 C0 dX5_bitsOf_1 ?_
  refine j_fcmp C0 dX5_bitsOf_2 ?_
  refine j_if_gt (tgt := 8) C0 dX5_bitsOf_3 (by decide) (fun c1 => ?_) (fun c1 => ?_)
  · have hf := if_t c1 hf
    refine j_fload_n C0 dX5_bitsOf_8 rfl 0 rfl ?_
    refine j_fstore_n (lv' := [(1, .float x1), (0, .float x1)]) C0 dX5_bitsOf_9 rfl (by decide) rfl ?_
    refine j_iconst (v := 0) C0 dX5_bitsOf_10 rfl ?_
    refine j_istore_n (lv' := [(2, .int (0 : Int32)), (1, .float x1), (0, .float x1)]) C0 dX5_bitsOf_11 rfl (by decide) rfl ?_
    exact j_sub [1, 0] rfl (L12 fuel x1 (0 : Int32) hf)
  have hf := if_f c1 hf
  refine j_iconst (v := 0) C0 dX5_bitsOf_6 rfl ?_
  exact j_iret C0 hr dX5_bitsOf_7 (so hf) rfl

set_option maxHeartbeats 4000000 in
set_option maxRecDepth 100000 in
theorem c_X5_mean {l : Launch} {D : va_G} {ca : Nat → ClassId} {ad : I3 → Nat} (hi : adI ad) {M0 : Nat → Nat → Int32} {X : XS} {r0 : Int32}  (hf : fX_mean X = some (r0)) : MT l D ca ad yX5_mean cX5_mean 1 (some .int) 6 128 [.ref (ad (0, 0, 0))] (X.1, X.2, M0) (some (.int r0)) (X.1, X.2, M0) := by
  refine met_J (lv := [(0, .ref (ad (0, 0, 0)))]) hi (by decide +kernel) (Nat.le_of_ble_eq_true rfl) rfl (fun p e s m below meth c C0 hr => ?_)
  unfold fX_mean at hf
  refine j_aload_n C0 dX5_mean_0 rfl 0 rfl ?_
  refine j_getr (id2 := (1, 0, 0)) C0 fl_X5_10 rl_5_0 (ia hi id_c0) dX5_mean_1 ?_
  refine j_geti (x := (X.1 0 19)) C0 fl_X5_79 (sl_3_3 (by decide)) (ia hi (id_1 (by decide))) rfl dX5_mean_4 ?_
  refine j_iconst (v := 1) C0 dX5_mean_7 rfl ?_
  refine j_icmp_ge (tgt := 14) C0 dX5_mean_8 (by decide) (fun c1 => ?_) (fun c1 => ?_)
  · have hf := if_t c1 hf
    refine j_aload_n C0 dX5_mean_14 rfl 0 rfl ?_
    refine j_getr (id2 := (1, 0, 0)) C0 fl_X5_10 rl_5_0 (ia hi id_c0) dX5_mean_15 ?_
    obtain ⟨q2, hcq2, hf⟩ := bd_some hf
    refine j_callV (As := []) (rest := []) (stk := [.int q2]) (G2 := (X.1, X.2, M0)) C0 (c_X3_errorsTogether hi (G0 := (X.1, X.2, M0)) (j := 0) (by decide) hcq2) kw_X5_174 bi_X3_errorsTogether bx_X3_errorsTogether (ia hi (id_1 (by decide))) oc_1 (eS_self _ _ _) ⟨by decide, by decide⟩ ⟨Nat.zero_le _, Nat.zero_le _⟩ rfl rfl (Nat.le_of_ble_eq_true rfl) rfl (eS_self _ _ _) dX5_mean_18 ?_
    refine j_i2f C0 dX5_mean_21 ?_
    refine j_aload_n C0 dX5_mean_22 rfl 0 rfl ?_
    refine j_getr (id2 := (1, 0, 0)) C0 fl_X5_10 rl_5_0 (ia hi id_c0) dX5_mean_23 ?_
    refine j_geti (x := (X.1 0 19)) C0 fl_X5_79 (sl_3_3 (by decide)) (ia hi (id_1 (by decide))) rfl dX5_mean_26 ?_
    refine j_i2f C0 dX5_mean_29 ?_
    obtain ⟨h3, hf⟩ := gd_some hf
    refine j_fdiv C0 dX5_mean_30 h3 ?_
    obtain ⟨q4, hcq4, hf⟩ := bd_some hf
    refine j_callS (As := [.float (FP.fdiv (FP.i2f q2) (FP.i2f (X.1 0 19)))]) (rest := []) (stk := [.int q4]) (G2 := (X.1, X.2, M0)) C0 (c_X5_bitsOf hi (G0 := (X.1, X.2, M0))  hcq4) kw_X5_177 bi_X5_bitsOf rfl ⟨by decide, by decide⟩ ⟨Nat.zero_le _, Nat.zero_le _⟩ rfl rfl (Nat.le_of_ble_eq_true rfl) rfl rfl dX5_mean_31 ?_
    exact j_iret C0 hr dX5_mean_34 (so hf) rfl
  have hf := if_f c1 hf
  refine j_ldc (v := -1000004) C0 dX5_mean_11 cw_X5_96 ?_
  exact j_iret C0 hr dX5_mean_13 (so hf) rfl

set_option maxHeartbeats 4000000 in
set_option maxRecDepth 100000 in
theorem c_X3_clocksOff {l : Launch} {D : va_G} {ca : Nat → ClassId} {ad : I3 → Nat} (hi : adI ad) {G0 : GS} {j : Nat} {σ : Nat → Int32} {r0 : Int32} (hj : j < 9) (hf : fS_clocksOff σ = some (r0)) : MT l D ca ad yX3_clocksOff cX3_clocksOff 3 (some .int) 4 84 [.ref (ad (1, j, 0))] (eS G0 j σ) (some (.int r0)) (eS G0 j σ) := by
  refine met_J (lv := [(0, .ref (ad (1, j, 0)))]) hi (by decide +kernel) (Nat.le_of_ble_eq_true rfl) rfl (fun p e s m below meth c C0 hr => ?_)
  have L4 : ∀ (n : Nat) (σ : Nat → Int32) (y1 : Int32) (y2 : Int32), fS_clocksOff_L4 n σ y1 y2 = some (r0) → J D ca ad p l e ({ frames := 4, cells := 0, slots := 0, locals := 84 }) s m [.ref (ad (1, j, 0))].toArray below meth c 0 0 (MQ below (post D ca ad (some (.int r0)) (eS G0 j σ)) [.ref (ad (1, j, 0))].toArray s 0 0 (adA ad)) 3 (eS G0 j σ) 4 [(0, .ref (ad (1, j, 0))), (1, .int y1), (2, .int y2)] [] := by
    intro n
    induction n with
    | zero =>
      intro σ y1 y2 hf
      exact (none_ne hf).elim
    | succ n ih =>
      intro σ y1 y2 hf
      rw [fS_clocksOff_L4] at hf
      refine j_iload_n C0 dX3_clocksOff_4 rfl 2 rfl ?_
      refine j_aload_n C0 dX3_clocksOff_5 rfl 0 rfl ?_
      refine j_geti (x := (σ 19)) C0 fl_X3_48 (sl_3_3 hj) (ia hi (id_1 hj)) eS_get dX3_clocksOff_6 ?_
      refine j_icmp_ge (tgt := 50) C0 dX3_clocksOff_9 (by decide) (fun c1 => ?_) (fun c1 => ?_)
      · have hf := if_t c1 hf
        refine j_iload_n C0 dX3_clocksOff_50 rfl 1 rfl ?_
        exact j_iret C0 hr dX3_clocksOff_51 (so hf) rfl
      have hf := if_f c1 hf
      refine j_iload_n C0 dX3_clocksOff_12 rfl 2 rfl ?_
      refine j_aload_n C0 dX3_clocksOff_13 rfl 0 rfl ?_
      refine j_getr (id2 := (2, j, 0)) C0 fl_X3_11 rl_3_0 (ia hi (id_1 hj)) dX3_clocksOff_14 ?_
      refine j_alenq (t0 := 3) (n0 := 5) (f := fun i => ad (3, j, i)) (v := (5 : Int32)) C0 rfl rfl (ia hi (id_2 hj)) rfl dX3_clocksOff_17 ?_
      refine j_icmp_ge (tgt := 50) C0 dX3_clocksOff_18 (by decide) (fun c2 => ?_) (fun c2 => ?_)
      · have hf := if_t c2 hf
        refine j_iload_n C0 dX3_clocksOff_50 rfl 1 rfl ?_
        exact j_iret C0 hr dX3_clocksOff_51 (so hf) rfl
      have hf := if_f c2 hf
      refine j_aload_n C0 dX3_clocksOff_21 rfl 0 rfl ?_
      refine j_aload_n C0 dX3_clocksOff_22 rfl 0 rfl ?_
      refine j_aload_n C0 dX3_clocksOff_23 rfl 0 rfl ?_
      refine j_getr (id2 := (2, j, 0)) C0 fl_X3_11 rl_3_0 (ia hi (id_1 hj)) dX3_clocksOff_24 ?_
      refine j_iload_n C0 dX3_clocksOff_27 rfl 2 rfl ?_
      obtain ⟨h3, hf⟩ := gd_some hf
      refine j_aldq (t0 := 3) (n0 := 5) (f := fun i => ad (3, j, i)) C0 rfl rfl (ia hi (id_2 hj)) h3 dX3_clocksOff_28 ?_
      obtain ⟨q4, hcq4, hf⟩ := bd_some hf
      refine j_callV (As := [.ref (ad (3, j, y2.toNatClampNeg))]) (rest := [.ref (ad (1, j, 0))]) (stk := [.int q4, .ref (ad (1, j, 0))]) (G2 := (eS G0 j σ)) C0 (c_X3_errorOf hi (G0 := G0) (j := j) hj (inb_lt h3) hcq4) kw_X3_127 bi_X3_errorOf bx_X3_errorOf (ia hi (id_1 hj)) oc_1 rfl ⟨by decide, by decide⟩ ⟨Nat.zero_le _, Nat.zero_le _⟩ rfl rfl (Nat.le_of_ble_eq_true rfl) rfl rfl dX3_clocksOff_29 ?_
      obtain ⟨q5, hcq5, hf⟩ := bd_some hf
      refine j_callV (As := [.int q4]) (rest := []) (stk := [.int q5]) (G2 := (eS G0 j σ)) C0 (c_X3_isOff hi (G0 := G0) (j := j) hj hcq5) kw_X3_236 bi_X3_isOff bx_X3_isOff (ia hi (id_1 hj)) oc_1 rfl ⟨by decide, by decide⟩ ⟨Nat.zero_le _, Nat.zero_le _⟩ rfl rfl (Nat.le_of_ble_eq_true rfl) rfl rfl dX3_clocksOff_32 ?_
      refine j_if_eq (tgt := 44) C0 dX3_clocksOff_35 (by decide) (fun c6 => ?_) (fun c6 => ?_)
      · have hf := if_t c6 hf
        refine j_iinc (v := (y2 + 1)) (lv' := [(2, .int (y2 + 1)), (0, .ref (ad (1, j, 0))), (1, .int y1)]) C0 dX3_clocksOff_44 2 rfl rfl (by decide) rfl ?_
        refine j_goto (tgt := 4) C0 dX3_clocksOff_47 (by decide) ?_
        exact j_sub [1, 2, 0] rfl (ih σ y1 (y2 + 1) hf)
      have hf := if_f c6 hf
      refine j_iload_n C0 dX3_clocksOff_38 rfl 1 rfl ?_
      refine j_iconst (v := 1) C0 dX3_clocksOff_39 rfl ?_
      refine j_iload_n C0 dX3_clocksOff_40 rfl 2 rfl ?_
      refine j_ishl C0 dX3_clocksOff_41 ?_
      refine j_ior C0 dX3_clocksOff_42 ?_
      refine j_istore_n (lv' := [(1, .int (y1 ||| ((1 : Int32) <<< (y2 &&& 31)))), (0, .ref (ad (1, j, 0))), (2, .int y2)]) C0 dX3_clocksOff_43 rfl (by decide) rfl ?_
      refine j_iinc (v := (y2 + 1)) (lv' := [(2, .int (y2 + 1)), (1, .int (y1 ||| ((1 : Int32) <<< (y2 &&& 31)))), (0, .ref (ad (1, j, 0)))]) C0 dX3_clocksOff_44 2 rfl rfl (by decide) rfl ?_
      refine j_goto (tgt := 4) C0 dX3_clocksOff_47 (by decide) ?_
      exact j_sub [2, 1, 0] rfl (ih σ (y1 ||| ((1 : Int32) <<< (y2 &&& 31))) (y2 + 1) hf)
  unfold fS_clocksOff at hf
  refine j_iconst (v := 0) C0 dX3_clocksOff_0 rfl ?_
  refine j_istore_n (lv' := [(1, .int (0 : Int32)), (0, .ref (ad (1, j, 0)))]) C0 dX3_clocksOff_1 rfl (by decide) rfl ?_
  refine j_iconst (v := 0) C0 dX3_clocksOff_2 rfl ?_
  refine j_istore_n (lv' := [(2, .int (0 : Int32)), (1, .int (0 : Int32)), (0, .ref (ad (1, j, 0)))]) C0 dX3_clocksOff_3 rfl (by decide) rfl ?_
  exact j_sub [2, 1, 0] rfl (L4 fuel σ (0 : Int32) (0 : Int32) hf)

set_option maxHeartbeats 4000000 in
set_option maxRecDepth 100000 in
theorem c_X3_clocksEmpty {l : Launch} {D : va_G} {ca : Nat → ClassId} {ad : I3 → Nat} (hi : adI ad) {G0 : GS} {j : Nat} {σ : Nat → Int32} {r0 : Int32} (hj : j < 9) (hf : fS_clocksEmpty σ = some (r0)) : MT l D ca ad yX3_clocksEmpty cX3_clocksEmpty 3 (some .int) 0 0 [.ref (ad (1, j, 0))] (eS G0 j σ) (some (.int r0)) (eS G0 j σ) := by
  refine met_J (lv := [(0, .ref (ad (1, j, 0)))]) hi (by decide +kernel) (Nat.le_of_ble_eq_true rfl) rfl (fun p e s m below meth c C0 hr => ?_)
  have L4 : ∀ (n : Nat) (σ : Nat → Int32) (y1 : Int32) (y2 : Int32), fS_clocksEmpty_L4 n σ y1 y2 = some (r0) → J D ca ad p l e ({ frames := 0, cells := 0, slots := 0, locals := 0 }) s m [.ref (ad (1, j, 0))].toArray below meth c 0 0 (MQ below (post D ca ad (some (.int r0)) (eS G0 j σ)) [.ref (ad (1, j, 0))].toArray s 0 0 (adA ad)) 3 (eS G0 j σ) 4 [(0, .ref (ad (1, j, 0))), (1, .int y1), (2, .int y2)] [] := by
    intro n
    induction n with
    | zero =>
      intro σ y1 y2 hf
      exact (none_ne hf).elim
    | succ n ih =>
      intro σ y1 y2 hf
      rw [fS_clocksEmpty_L4] at hf
      refine j_iload_n C0 dX3_clocksEmpty_4 rfl 2 rfl ?_
      refine j_aload_n C0 dX3_clocksEmpty_5 rfl 0 rfl ?_
      refine j_geti (x := (σ 19)) C0 fl_X3_48 (sl_3_3 hj) (ia hi (id_1 hj)) eS_get dX3_clocksEmpty_6 ?_
      refine j_icmp_ge (tgt := 45) C0 dX3_clocksEmpty_9 (by decide) (fun c1 => ?_) (fun c1 => ?_)
      · have hf := if_t c1 hf
        refine j_iload_n C0 dX3_clocksEmpty_45 rfl 1 rfl ?_
        exact j_iret C0 hr dX3_clocksEmpty_46 (so hf) rfl
      have hf := if_f c1 hf
      refine j_iload_n C0 dX3_clocksEmpty_12 rfl 2 rfl ?_
      refine j_aload_n C0 dX3_clocksEmpty_13 rfl 0 rfl ?_
      refine j_getr (id2 := (2, j, 0)) C0 fl_X3_11 rl_3_0 (ia hi (id_1 hj)) dX3_clocksEmpty_14 ?_
      refine j_alenq (t0 := 3) (n0 := 5) (f := fun i => ad (3, j, i)) (v := (5 : Int32)) C0 rfl rfl (ia hi (id_2 hj)) rfl dX3_clocksEmpty_17 ?_
      refine j_icmp_ge (tgt := 45) C0 dX3_clocksEmpty_18 (by decide) (fun c2 => ?_) (fun c2 => ?_)
      · have hf := if_t c2 hf
        refine j_iload_n C0 dX3_clocksEmpty_45 rfl 1 rfl ?_
        exact j_iret C0 hr dX3_clocksEmpty_46 (so hf) rfl
      have hf := if_f c2 hf
      refine j_aload_n C0 dX3_clocksEmpty_21 rfl 0 rfl ?_
      refine j_getr (id2 := (2, j, 0)) C0 fl_X3_11 rl_3_0 (ia hi (id_1 hj)) dX3_clocksEmpty_22 ?_
      refine j_iload_n C0 dX3_clocksEmpty_25 rfl 2 rfl ?_
      obtain ⟨h3, hf⟩ := gd_some hf
      refine j_aldq (t0 := 3) (n0 := 5) (f := fun i => ad (3, j, i)) C0 rfl rfl (ia hi (id_2 hj)) h3 dX3_clocksEmpty_26 ?_
      refine j_geti (x := (σ (KI y2.toNatClampNeg 3))) C0 fl_X3_197 (sl_1_5 hj (inb_lt h3)) (ia hi (id_3 hj (inb_lt h3))) eS_get dX3_clocksEmpty_27 ?_
      refine j_if_ne (tgt := 39) C0 dX3_clocksEmpty_30 (by decide) (fun c4 => ?_) (fun c4 => ?_)
      · have hf := if_f c4 hf
        refine j_iinc (v := (y2 + 1)) (lv' := [(2, .int (y2 + 1)), (0, .ref (ad (1, j, 0))), (1, .int y1)]) C0 dX3_clocksEmpty_39 2 rfl rfl (by decide) rfl ?_
        refine j_goto (tgt := 4) C0 dX3_clocksEmpty_42 (by decide) ?_
        exact j_sub [1, 2, 0] rfl (ih σ y1 (y2 + 1) hf)
      have hf := if_t c4 hf
      refine j_iload_n C0 dX3_clocksEmpty_33 rfl 1 rfl ?_
      refine j_iconst (v := 1) C0 dX3_clocksEmpty_34 rfl ?_
      refine j_iload_n C0 dX3_clocksEmpty_35 rfl 2 rfl ?_
      refine j_ishl C0 dX3_clocksEmpty_36 ?_
      refine j_ior C0 dX3_clocksEmpty_37 ?_
      refine j_istore_n (lv' := [(1, .int (y1 ||| ((1 : Int32) <<< (y2 &&& 31)))), (0, .ref (ad (1, j, 0))), (2, .int y2)]) C0 dX3_clocksEmpty_38 rfl (by decide) rfl ?_
      refine j_iinc (v := (y2 + 1)) (lv' := [(2, .int (y2 + 1)), (1, .int (y1 ||| ((1 : Int32) <<< (y2 &&& 31)))), (0, .ref (ad (1, j, 0)))]) C0 dX3_clocksEmpty_39 2 rfl rfl (by decide) rfl ?_
      refine j_goto (tgt := 4) C0 dX3_clocksEmpty_42 (by decide) ?_
      exact j_sub [2, 1, 0] rfl (ih σ (y1 ||| ((1 : Int32) <<< (y2 &&& 31))) (y2 + 1) hf)
  unfold fS_clocksEmpty at hf
  refine j_iconst (v := 0) C0 dX3_clocksEmpty_0 rfl ?_
  refine j_istore_n (lv' := [(1, .int (0 : Int32)), (0, .ref (ad (1, j, 0)))]) C0 dX3_clocksEmpty_1 rfl (by decide) rfl ?_
  refine j_iconst (v := 0) C0 dX3_clocksEmpty_2 rfl ?_
  refine j_istore_n (lv' := [(2, .int (0 : Int32)), (1, .int (0 : Int32)), (0, .ref (ad (1, j, 0)))]) C0 dX3_clocksEmpty_3 rfl (by decide) rfl ?_
  exact j_sub [2, 1, 0] rfl (L4 fuel σ (0 : Int32) (0 : Int32) hf)

