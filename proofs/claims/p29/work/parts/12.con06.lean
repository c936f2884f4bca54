set_option maxHeartbeats 4000000 in
set_option maxRecDepth 100000 in
theorem c_L_pitches {l : Launch} {D : va_G} {ca : Nat → ClassId} {ad : I3 → Nat} (hi : adI ad) {X : XS} {M : Nat → Nat → Int32} {x5 : Int32} {r0 : Int32} {X' : XS} {M' : Nat → Nat → Int32}  (hf : fL_pitches X M x5 = some (r0, X', M')) : MT l D ca ad yL_pitches cL_pitches 8 (some .boolean) 5 109 [.ref (ad (0, 0, 0)), .ref (ad (14, 0, 0)), .ref (ad (14, 1, 0)), .ref (ad (14, 2, 0)), .int x5] (X.1, X.2, M) (some (.int r0)) (X'.1, X'.2, M') := by
  refine met_J (lv := [(0, .ref (ad (0, 0, 0))), (1, .ref (ad (14, 0, 0))), (2, .ref (ad (14, 1, 0))), (3, .ref (ad (14, 2, 0))), (4, .int x5)]) hi (by decide +kernel) (Nat.le_of_ble_eq_true rfl) rfl (fun p e s m below meth c C0 hr => ?_)
  unfold fL_pitches at hf
  refine j_iload C0 dL_pitches_0 4 rfl ?_
  refine j_bipush (v := 6) C0 dL_pitches_2 rfl ?_
  obtain ⟨q1, hcq1, hf⟩ := bd_some hf
  refine j_callS (As := [.int x5, .int (6 : Int32)]) (rest := []) (stk := [.int q1]) (G2 := (X.1, X.2, M)) C0 (c_L_low hi (G0 := (X.1, X.2, M))  hcq1) kw_L_85 bi_L_low rfl ⟨by decide, by decide⟩ ⟨Nat.zero_le _, Nat.zero_le _⟩ rfl rfl (Nat.le_of_ble_eq_true rfl) rfl rfl dL_pitches_4 ?_
  refine j_istore (lv' := [(5, .int q1), (0, .ref (ad (0, 0, 0))), (1, .ref (ad (14, 0, 0))), (2, .ref (ad (14, 1, 0))), (3, .ref (ad (14, 2, 0))), (4, .int x5)]) C0 dL_pitches_7 (by decide) rfl ?_
  refine j_iload C0 dL_pitches_9 5 rfl ?_
  refine j_iconst (v := 3) C0 dL_pitches_11 rfl ?_
  refine j_ishr C0 dL_pitches_12 ?_
  refine j_sipush (v := 502) C0 dL_pitches_13 rfl ?_
  obtain ⟨q2, hcq2, hf⟩ := bd_some hf
  refine j_callS (As := [.int (x5 >>> ((3 : Int32) &&& 31)), .int (502 : Int32)]) (rest := []) (stk := [.int q2]) (G2 := (X.1, X.2, M)) C0 (c_L_low hi (G0 := (X.1, X.2, M))  hcq2) kw_L_85 bi_L_low rfl ⟨by decide, by decide⟩ ⟨Nat.zero_le _, Nat.zero_le _⟩ rfl rfl (Nat.le_of_ble_eq_true rfl) rfl rfl dL_pitches_16 ?_
  refine j_istore (lv' := [(6, .int q2), (5, .int q1), (0, .ref (ad (0, 0, 0))), (1, .ref (ad (14, 0, 0))), (2, .ref (ad (14, 1, 0))), (3, .ref (ad (14, 2, 0))), (4, .int x5)]) C0 dL_pitches_19 (by decide) rfl ?_
  refine j_iload C0 dL_pitches_21 1 rfl ?_
  refine j_aload_n C0 dL_pitches_23 rfl 3 rfl ?_
  refine j_bipush (v := 18) C0 dL_pitches_24 rfl ?_
  refine j_iald (x := (M 0 18)) C0 al_14_0 rfl (ia hi id_l0) (by decide) (by rw [Nat.zero_add]; rfl) dL_pitches_26 ?_
  refine j_icmp_ge (tgt := 44) C0 dL_pitches_27 (by decide) (fun c3 => ?_) (fun c3 => ?_)
  · have hf := if_t c3 hf
    refine j_aload_n C0 dL_pitches_44 rfl 2 rfl ?_
    refine j_iload C0 dL_pitches_45 1 rfl ?_
    refine j_iload C0 dL_pitches_47 0 rfl ?_
    obtain ⟨q4, hcq4, hf⟩ := bd_some hf
    refine j_callV (As := [.int q1, .int q2]) (rest := []) (stk := [.int q4.1]) (G2 := (q4.2.1, q4.2.2, M)) C0 (c_X5_pitch hi (M0 := M)  hcq4) kw_L_111 bi_X5_pitch bx_X5_pitch (ia hi id_c0) oc_0 rfl ⟨by decide, by decide⟩ ⟨Nat.zero_le _, Nat.zero_le _⟩ rfl rfl (Nat.le_of_ble_eq_true rfl) rfl rfl dL_pitches_49 ?_
    refine j_ldc (v := -1000001) C0 dL_pitches_52 cw_L_49 ?_
    refine j_icmp_ne (tgt := 61) C0 dL_pitches_54 (by decide) (fun c5 => ?_) (fun c5 => ?_)
    · have hf := if_f c5 hf
      refine j_iconst (v := 0) C0 dL_pitches_61 rfl ?_
      exact j_zret C0 hr rfl dL_pitches_62 (pr1 hf) (congrArg (fun z => (z.1.1, z.1.2, z.2)) (pr2 hf))
    have hf := if_t c5 hf
    refine j_iconst (v := 1) C0 dL_pitches_57 rfl ?_
    refine j_goto (tgt := 62) C0 dL_pitches_58 (by decide) ?_
    exact j_zret C0 hr rfl dL_pitches_62 (pr1 hf) (congrArg (fun z => (z.1.1, z.1.2, z.2)) (pr2 hf))
  have hf := if_f c3 hf
  refine j_iload C0 dL_pitches_30 0 rfl ?_
  refine j_iconst (v := 1) C0 dL_pitches_32 rfl ?_
  refine j_icmp_lt (tgt := 44) C0 dL_pitches_33 (by decide) (fun c6 => ?_) (fun c6 => ?_)
  · have hf := if_t c6 hf
    refine j_aload_n C0 dL_pitches_44 rfl 2 rfl ?_
    refine j_iload C0 dL_pitches_45 1 rfl ?_
    refine j_iload C0 dL_pitches_47 0 rfl ?_
    obtain ⟨q7, hcq7, hf⟩ := bd_some hf
    refine j_callV (As := [.int q1, .int q2]) (rest := []) (stk := [.int q7.1]) (G2 := (q7.2.1, q7.2.2, M)) C0 (c_X5_pitch hi (M0 := M)  hcq7) kw_L_111 bi_X5_pitch bx_X5_pitch (ia hi id_c0) oc_0 rfl ⟨by decide, by decide⟩ ⟨Nat.zero_le _, Nat.zero_le _⟩ rfl rfl (Nat.le_of_ble_eq_true rfl) rfl rfl dL_pitches_49 ?_
    refine j_ldc (v := -1000001) C0 dL_pitches_52 cw_L_49 ?_
    refine j_icmp_ne (tgt := 61) C0 dL_pitches_54 (by decide) (fun c8 => ?_) (fun c8 => ?_)
    · have hf := if_f c8 hf
      refine j_iconst (v := 0) C0 dL_pitches_61 rfl ?_
      exact j_zret C0 hr rfl dL_pitches_62 (pr1 hf) (congrArg (fun z => (z.1.1, z.1.2, z.2)) (pr2 hf))
    have hf := if_t c8 hf
    refine j_iconst (v := 1) C0 dL_pitches_57 rfl ?_
    refine j_goto (tgt := 62) C0 dL_pitches_58 (by decide) ?_
    exact j_zret C0 hr rfl dL_pitches_62 (pr1 hf) (congrArg (fun z => (z.1.1, z.1.2, z.2)) (pr2 hf))
  have hf := if_f c6 hf
  refine j_iload C0 dL_pitches_36 0 rfl ?_
  refine j_sipush (v := 500) C0 dL_pitches_38 rfl ?_
  refine j_icmp_le (tgt := 63) C0 dL_pitches_41 (by decide) (fun c9 => ?_) (fun c9 => ?_)
  · have hf := if_t c9 hf
    refine j_aload_n C0 dL_pitches_63 rfl 4 rfl ?_
    refine j_bipush (v := 15) C0 dL_pitches_64 rfl ?_
    refine j_iload C0 dL_pitches_66 1 rfl ?_
    refine j_iadd C0 dL_pitches_68 ?_
    obtain ⟨h10, hf⟩ := gd_some hf
    refine j_iald (x := (M 1 (((15 : Int32) + q1).toNatClampNeg))) C0 al_14_1 rfl (ia hi id_l1) h10 (by rw [Nat.zero_add]; rfl) dL_pitches_69 ?_
    refine j_istore (lv' := [(7, .int (M 1 (((15 : Int32) + q1).toNatClampNeg))), (6, .int q2), (5, .int q1), (0, .ref (ad (0, 0, 0))), (1, .ref (ad (14, 0, 0))), (2, .ref (ad (14, 1, 0))), (3, .ref (ad (14, 2, 0))), (4, .int x5)]) C0 dL_pitches_70 (by decide) rfl ?_
    refine j_aload_n C0 dL_pitches_72 rfl 5 rfl ?_
    refine j_bipush (v := 15) C0 dL_pitches_73 rfl ?_
    refine j_iload C0 dL_pitches_75 2 rfl ?_
    refine j_iadd C0 dL_pitches_77 ?_
    refine j_iload C0 dL_pitches_78 1 rfl ?_
    obtain ⟨h11, hf⟩ := gd_some hf
    obtain ⟨M12, e13, hf⟩ := lt_some hf
    refine j_iast (G' := (X.1, X.2, M12)) C0 al_14_1 rfl (ia hi id_l1) h11 (by rw [Nat.zero_add]; exact (eM_set e13)) dL_pitches_80 ?_
    refine j_aload_n C0 dL_pitches_81 rfl 4 rfl ?_
    refine j_aload_n C0 dL_pitches_82 rfl 5 rfl ?_
    refine j_aload_n C0 dL_pitches_83 rfl 6 rfl ?_
    refine j_iload C0 dL_pitches_84 2 rfl ?_
    obtain ⟨q14, hcq14, hf⟩ := bd_some hf
    refine j_callS (As := [.ref (ad (14, 0, 0)), .ref (ad (14, 1, 0)), .ref (ad (14, 2, 0)), .int q1]) (rest := []) (stk := []) (G2 := (X.1, X.2, q14)) C0 (c_L_trues hi (Cc := X.1) (Bb := X.2) al_14_0 (ia hi id_l0) al_14_1 (ia hi id_l1) al_14_2 (ia hi id_l2) hcq14) kw_L_38 bi_L_trues rfl ⟨by decide, by decide⟩ ⟨Nat.zero_le _, Nat.zero_le _⟩ rfl rfl (Nat.le_of_ble_eq_true rfl) rfl rfl dL_pitches_86 ?_
    refine j_aload_n C0 dL_pitches_89 rfl 6 rfl ?_
    refine j_bipush (v := 20) C0 dL_pitches_90 rfl ?_
    refine j_iload C0 dL_pitches_92 2 rfl ?_
    refine j_iadd C0 dL_pitches_94 ?_
    refine j_dup2 C0 dL_pitches_95 rfl rfl ?_
    obtain ⟨h15, hf⟩ := gd_some hf
    refine j_iald (x := (q14 2 (((20 : Int32) + q1).toNatClampNeg))) C0 al_14_2 rfl (ia hi id_l2) h15 (by rw [Nat.zero_add]; rfl) dL_pitches_96 ?_
    refine j_iconst (v := 1) C0 dL_pitches_97 rfl ?_
    refine j_iadd C0 dL_pitches_98 ?_
    obtain ⟨h16, hf⟩ := gd_some hf
    obtain ⟨M17, e18, hf⟩ := lt_some hf
    refine j_iast (G' := (X.1, X.2, M17)) C0 al_14_2 rfl (ia hi id_l2) h16 (by rw [Nat.zero_add]; exact (eM_set e18)) dL_pitches_99 ?_
    refine j_aload_n C0 dL_pitches_100 rfl 4 rfl ?_
    refine j_bipush (v := 15) C0 dL_pitches_101 rfl ?_
    refine j_dup2 C0 dL_pitches_103 rfl rfl ?_
    refine j_iald (x := (M17 0 15)) C0 al_14_0 rfl (ia hi id_l0) (by decide) (by rw [Nat.zero_add]; rfl) dL_pitches_104 ?_
    refine j_iconst (v := 1) C0 dL_pitches_105 rfl ?_
    refine j_iadd C0 dL_pitches_106 ?_
    obtain ⟨M19, e20, hf⟩ := lt_some hf
    refine j_iast (G' := (X.1, X.2, M19)) C0 al_14_0 rfl (ia hi id_l0) (by decide) (by rw [Nat.zero_add]; exact (eM_set e20)) dL_pitches_107 ?_
    refine j_aload_n C0 dL_pitches_108 rfl 3 rfl ?_
    refine j_iload C0 dL_pitches_109 2 rfl ?_
    refine j_iload C0 dL_pitches_111 1 rfl ?_
    obtain ⟨q21, hcq21, hf⟩ := bd_some hf
    refine j_callV (As := [.int q1, .int q2]) (rest := []) (stk := [.int q21.1]) (G2 := (q21.2.1, q21.2.2, M19)) C0 (c_X5_pitch hi (M0 := M19)  hcq21) kw_L_111 bi_X5_pitch bx_X5_pitch (ia hi id_c0) oc_0 rfl ⟨by decide, by decide⟩ ⟨Nat.zero_le _, Nat.zero_le _⟩ rfl rfl (Nat.le_of_ble_eq_true rfl) rfl rfl dL_pitches_113 ?_
    refine j_iload C0 dL_pitches_116 0 rfl ?_
    refine j_icmp_ne (tgt := 125) C0 dL_pitches_118 (by decide) (fun c22 => ?_) (fun c22 => ?_)
    · have hf := if_f c22 hf
      refine j_iconst (v := 0) C0 dL_pitches_125 rfl ?_
      exact j_zret C0 hr rfl dL_pitches_126 (pr1 hf) (congrArg (fun z => (z.1.1, z.1.2, z.2)) (pr2 hf))
    have hf := if_t c22 hf
    refine j_iconst (v := 1) C0 dL_pitches_121 rfl ?_
    refine j_goto (tgt := 126) C0 dL_pitches_122 (by decide) ?_
    exact j_zret C0 hr rfl dL_pitches_126 (pr1 hf) (congrArg (fun z => (z.1.1, z.1.2, z.2)) (pr2 hf))
  have hf := if_f c9 hf
  refine j_aload_n C0 dL_pitches_44 rfl 2 rfl ?_
  refine j_iload C0 dL_pitches_45 1 rfl ?_
  refine j_iload C0 dL_pitches_47 0 rfl ?_
  obtain ⟨q23, hcq23, hf⟩ := bd_some hf
  refine j_callV (As := [.int q1, .int q2]) (rest := []) (stk := [.int q23.1]) (G2 := (q23.2.1, q23.2.2, M)) C0 (c_X5_pitch hi (M0 := M)  hcq23) kw_L_111 bi_X5_pitch bx_X5_pitch (ia hi id_c0) oc_0 rfl ⟨by decide, by decide⟩ ⟨Nat.zero_le _, Nat.zero_le _⟩ rfl rfl (Nat.le_of_ble_eq_true rfl) rfl rfl dL_pitches_49 ?_
  refine j_ldc (v := -1000001) C0 dL_pitches_52 cw_L_49 ?_
  refine j_icmp_ne (tgt := 61) C0 dL_pitches_54 (by decide) (fun c24 => ?_) (fun c24 => ?_)
  · have hf := if_f c24 hf
    refine j_iconst (v := 0) C0 dL_pitches_61 rfl ?_
    exact j_zret C0 hr rfl dL_pitches_62 (pr1 hf) (congrArg (fun z => (z.1.1, z.1.2, z.2)) (pr2 hf))
  have hf := if_t c24 hf
  refine j_iconst (v := 1) C0 dL_pitches_57 rfl ?_
  refine j_goto (tgt := 62) C0 dL_pitches_58 (by decide) ?_
  exact j_zret C0 hr rfl dL_pitches_62 (pr1 hf) (congrArg (fun z => (z.1.1, z.1.2, z.2)) (pr2 hf))

set_option maxHeartbeats 4000000 in
set_option maxRecDepth 100000 in
theorem c_L_truesUp {l : Launch} {D : va_G} {ca : Nat → ClassId} {ad : I3 → Nat} (hi : adI ad) {X : XS} {M : Nat → Nat → Int32} {x5 : Int32} {r0 : Int32} {X' : XS} {M' : Nat → Nat → Int32}  (hf : fL_truesUp X M x5 = some (r0, X', M')) : MT l D ca ad yL_truesUp cL_truesUp 6 (some .boolean) 6 128 [.ref (ad (0, 0, 0)), .ref (ad (14, 0, 0)), .ref (ad (14, 1, 0)), .ref (ad (14, 2, 0)), .int x5] (X.1, X.2, M) (some (.int r0)) (X'.1, X'.2, M') := by
  refine met_J (lv := [(0, .ref (ad (0, 0, 0))), (1, .ref (ad (14, 0, 0))), (2, .ref (ad (14, 1, 0))), (3, .ref (ad (14, 2, 0))), (4, .int x5)]) hi (by decide +kernel) (Nat.le_of_ble_eq_true rfl) rfl (fun p e s m below meth c C0 hr => ?_)
  unfold fL_truesUp at hf
  refine j_iload C0 dL_truesUp_0 4 rfl ?_
  refine j_aload_n C0 dL_truesUp_2 rfl 1 rfl ?_
  refine j_bipush (v := 18) C0 dL_truesUp_3 rfl ?_
  refine j_iald (x := (M 0 18)) C0 al_14_0 rfl (ia hi id_l0) (by decide) (by rw [Nat.zero_add]; rfl) dL_truesUp_5 ?_
  refine j_icmp_lt (tgt := 26) C0 dL_truesUp_6 (by decide) (fun c1 => ?_) (fun c1 => ?_)
  · have hf := if_t c1 hf
    refine j_aload_n C0 dL_truesUp_26 rfl 1 rfl ?_
    refine j_aload_n C0 dL_truesUp_27 rfl 2 rfl ?_
    refine j_aload_n C0 dL_truesUp_28 rfl 3 rfl ?_
    refine j_iload C0 dL_truesUp_29 4 rfl ?_
    obtain ⟨q2, hcq2, hf⟩ := bd_some hf
    refine j_callS (As := [.ref (ad (14, 0, 0)), .ref (ad (14, 1, 0)), .ref (ad (14, 2, 0)), .int x5]) (rest := []) (stk := [.int q2]) (G2 := (X.1, X.2, M)) C0 (c_L_error hi (Cc := X.1) (Bb := X.2) al_14_0 (ia hi id_l0) al_14_1 (ia hi id_l1) al_14_2 (ia hi id_l2) hcq2) kw_L_15 bi_L_error rfl ⟨by decide, by decide⟩ ⟨Nat.zero_le _, Nat.zero_le _⟩ rfl rfl (Nat.le_of_ble_eq_true rfl) rfl rfl dL_truesUp_31 ?_
    refine j_sipush (v := 10000) C0 dL_truesUp_34 rfl ?_
    refine j_iadd C0 dL_truesUp_37 ?_
    refine j_istore (lv' := [(5, .int (q2 + (10000 : Int32))), (0, .ref (ad (0, 0, 0))), (1, .ref (ad (14, 0, 0))), (2, .ref (ad (14, 1, 0))), (3, .ref (ad (14, 2, 0))), (4, .int x5)]) C0 dL_truesUp_38 (by decide) rfl ?_
    refine j_aload_n C0 dL_truesUp_40 rfl 2 rfl ?_
    refine j_aload_n C0 dL_truesUp_41 rfl 3 rfl ?_
    refine j_aload_n C0 dL_truesUp_42 rfl 4 rfl ?_
    refine j_iload C0 dL_truesUp_43 5 rfl ?_
    obtain ⟨q3, hcq3, hf⟩ := bd_some hf
    refine j_callS (As := [.ref (ad (14, 0, 0)), .ref (ad (14, 1, 0)), .ref (ad (14, 2, 0)), .int x5]) (rest := []) (stk := []) (G2 := (X.1, X.2, q3)) C0 (c_L_trues hi (Cc := X.1) (Bb := X.2) al_14_0 (ia hi id_l0) al_14_1 (ia hi id_l1) al_14_2 (ia hi id_l2) hcq3) kw_L_38 bi_L_trues rfl ⟨by decide, by decide⟩ ⟨Nat.zero_le _, Nat.zero_le _⟩ rfl rfl (Nat.le_of_ble_eq_true rfl) rfl rfl dL_truesUp_45 ?_
    refine j_aload_n C0 dL_truesUp_48 rfl 4 rfl ?_
    refine j_bipush (v := 20) C0 dL_truesUp_49 rfl ?_
    refine j_iload C0 dL_truesUp_51 5 rfl ?_
    refine j_iadd C0 dL_truesUp_53 ?_
    refine j_dup2 C0 dL_truesUp_54 rfl rfl ?_
    obtain ⟨h4, hf⟩ := gd_some hf
    refine j_iald (x := (q3 2 (((20 : Int32) + x5).toNatClampNeg))) C0 al_14_2 rfl (ia hi id_l2) h4 (by rw [Nat.zero_add]; rfl) dL_truesUp_55 ?_
    refine j_iconst (v := 1) C0 dL_truesUp_56 rfl ?_
    refine j_iadd C0 dL_truesUp_57 ?_
    obtain ⟨h5, hf⟩ := gd_some hf
    obtain ⟨M6, e7, hf⟩ := lt_some hf
    refine j_iast (G' := (X.1, X.2, M6)) C0 al_14_2 rfl (ia hi id_l2) h5 (by rw [Nat.zero_add]; exact (eM_set e7)) dL_truesUp_58 ?_
    refine j_aload_n C0 dL_truesUp_59 rfl 2 rfl ?_
    refine j_bipush (v := 15) C0 dL_truesUp_60 rfl ?_
    refine j_dup2 C0 dL_truesUp_62 rfl rfl ?_
    refine j_iald (x := (M6 0 15)) C0 al_14_0 rfl (ia hi id_l0) (by decide) (by rw [Nat.zero_add]; rfl) dL_truesUp_63 ?_
    refine j_iconst (v := 1) C0 dL_truesUp_64 rfl ?_
    refine j_iadd C0 dL_truesUp_65 ?_
    obtain ⟨M8, e9, hf⟩ := lt_some hf
    refine j_iast (G' := (X.1, X.2, M8)) C0 al_14_0 rfl (ia hi id_l0) (by decide) (by rw [Nat.zero_add]; exact (eM_set e9)) dL_truesUp_66 ?_
    refine j_aload_n C0 dL_truesUp_67 rfl 1 rfl ?_
    refine j_iload C0 dL_truesUp_68 5 rfl ?_
    obtain ⟨q10, hcq10, hf⟩ := bd_some hf
    refine j_callV (As := [.int x5]) (rest := []) (stk := [.int q10.1]) (G2 := (q10.2.1, q10.2.2, M8)) C0 (c_X5_trueUp hi (M0 := M8)  hcq10) kw_L_114 bi_X5_trueUp bx_X5_trueUp (ia hi id_c0) oc_0 rfl ⟨by decide, by decide⟩ ⟨Nat.zero_le _, Nat.zero_le _⟩ rfl rfl (Nat.le_of_ble_eq_true rfl) rfl rfl dL_truesUp_70 ?_
    refine j_iload C0 dL_truesUp_73 0 rfl ?_
    refine j_icmp_ne (tgt := 82) C0 dL_truesUp_75 (by decide) (fun c11 => ?_) (fun c11 => ?_)
    · have hf := if_f c11 hf
      refine j_iconst (v := 0) C0 dL_truesUp_82 rfl ?_
      exact j_zret C0 hr rfl dL_truesUp_83 (pr1 hf) (congrArg (fun z => (z.1.1, z.1.2, z.2)) (pr2 hf))
    have hf := if_t c11 hf
    refine j_iconst (v := 1) C0 dL_truesUp_78 rfl ?_
    refine j_goto (tgt := 83) C0 dL_truesUp_79 (by decide) ?_
    exact j_zret C0 hr rfl dL_truesUp_83 (pr1 hf) (congrArg (fun z => (z.1.1, z.1.2, z.2)) (pr2 hf))
  have hf := if_f c1 hf
  refine j_aload_n C0 dL_truesUp_9 rfl 0 rfl ?_
  refine j_iload C0 dL_truesUp_10 4 rfl ?_
  obtain ⟨q12, hcq12, hf⟩ := bd_some hf
  refine j_callV (As := [.int x5]) (rest := []) (stk := [.int q12.1]) (G2 := (q12.2.1, q12.2.2, M)) C0 (c_X5_trueUp hi (M0 := M)  hcq12) kw_L_114 bi_X5_trueUp bx_X5_trueUp (ia hi id_c0) oc_0 rfl ⟨by decide, by decide⟩ ⟨Nat.zero_le _, Nat.zero_le _⟩ rfl rfl (Nat.le_of_ble_eq_true rfl) rfl rfl dL_truesUp_12 ?_
  refine j_ldc (v := -1000001) C0 dL_truesUp_15 cw_L_49 ?_
  refine j_icmp_ne (tgt := 24) C0 dL_truesUp_17 (by decide) (fun c13 => ?_) (fun c13 => ?_)
  · have hf := if_f c13 hf
    refine j_iconst (v := 0) C0 dL_truesUp_24 rfl ?_
    exact j_zret C0 hr rfl dL_truesUp_25 (pr1 hf) (congrArg (fun z => (z.1.1, z.1.2, z.2)) (pr2 hf))
  have hf := if_t c13 hf
  refine j_iconst (v := 1) C0 dL_truesUp_20 rfl ?_
  refine j_goto (tgt := 25) C0 dL_truesUp_21 (by decide) ?_
  exact j_zret C0 hr rfl dL_truesUp_25 (pr1 hf) (congrArg (fun z => (z.1.1, z.1.2, z.2)) (pr2 hf))

set_option maxHeartbeats 4000000 in
set_option maxRecDepth 100000 in
theorem c_L_sets {l : Launch} {D : va_G} {ca : Nat → ClassId} {ad : I3 → Nat} (hi : adI ad) {X : XS} {M : Nat → Nat → Int32} {x3 : Int32} {r0 : Int32} {X' : XS} {M' : Nat → Nat → Int32}  (hf : fL_sets X M x3 = some (r0, X', M')) : MT l D ca ad yL_sets cL_sets 8 (some .boolean) 4 87 [.ref (ad (0, 0, 0)), .ref (ad (14, 0, 0)), .int x3] (X.1, X.2, M) (some (.int r0)) (X'.1, X'.2, M') := by
  refine met_J (lv := [(0, .ref (ad (0, 0, 0))), (1, .ref (ad (14, 0, 0))), (2, .int x3)]) hi (by decide +kernel) (Nat.le_of_ble_eq_true rfl) rfl (fun p e s m below meth c C0 hr => ?_)
  unfold fL_sets at hf
  refine j_iload_n C0 dL_sets_0 rfl 2 rfl ?_
  refine j_bipush (v := 6) C0 dL_sets_1 rfl ?_
  obtain ⟨q1, hcq1, hf⟩ := bd_some hf
  refine j_callS (As := [.int x3, .int (6 : Int32)]) (rest := []) (stk := [.int q1]) (G2 := (X.1, X.2, M)) C0 (c_L_low hi (G0 := (X.1, X.2, M))  hcq1) kw_L_85 bi_L_low rfl ⟨by decide, by decide⟩ ⟨Nat.zero_le _, Nat.zero_le _⟩ rfl rfl (Nat.le_of_ble_eq_true rfl) rfl rfl dL_sets_3 ?_
  refine j_istore_n (lv' := [(3, .int q1), (0, .ref (ad (0, 0, 0))), (1, .ref (ad (14, 0, 0))), (2, .int x3)]) C0 dL_sets_6 rfl (by decide) rfl ?_
  refine j_iload_n C0 dL_sets_7 rfl 0 rfl ?_
  obtain ⟨q2, hsq2, hf⟩ := bd_some hf
  have Jq2 : J D ca ad p l e ({ frames := 4, cells := 0, slots := 0, locals := 87 }) s m [.ref (ad (0, 0, 0)), .ref (ad (14, 0, 0)), .int x3].toArray below meth c 0 0 (MQ below (post D ca ad (some (.int r0)) (X'.1, X'.2, M')) [.ref (ad (0, 0, 0)), .ref (ad (14, 0, 0)), .int x3].toArray s 0 0 (adA ad)) 8 (X.1, X.2, M) 54 [(0, .ref (ad (0, 0, 0))), (1, .ref (ad (14, 0, 0))), (2, .int x3), (3, .int q1)] [.int q2] := by
    refine j_istore (lv' := [(4, .int q2), (0, .ref (ad (0, 0, 0))), (1, .ref (ad (14, 0, 0))), (2, .int x3), (3, .int q1)]) C0 dL_sets_54 (by decide) rfl ?_
    refine j_iload_n C0 dL_sets_56 rfl 4 rfl ?_
    obtain ⟨q3, hsq3, hf⟩ := bd_some hf
    have Jq3 : J D ca ad p l e ({ frames := 4, cells := 0, slots := 0, locals := 87 }) s m [.ref (ad (0, 0, 0)), .ref (ad (14, 0, 0)), .int x3].toArray below meth c 0 0 (MQ below (post D ca ad (some (.int r0)) (X'.1, X'.2, M')) [.ref (ad (0, 0, 0)), .ref (ad (14, 0, 0)), .int x3].toArray s 0 0 (adA ad)) 8 (X.1, X.2, M) 96 [(0, .ref (ad (0, 0, 0))), (1, .ref (ad (14, 0, 0))), (2, .int x3), (3, .int q1), (4, .int q2)] [.int q3] := by
      refine j_istore (lv' := [(5, .int q3), (0, .ref (ad (0, 0, 0))), (1, .ref (ad (14, 0, 0))), (2, .int x3), (3, .int q1), (4, .int q2)]) C0 dL_sets_96 (by decide) rfl ?_
      refine j_iload C0 dL_sets_98 0 rfl ?_
      refine j_iconst (v := 1) C0 dL_sets_100 rfl ?_
      refine j_isub C0 dL_sets_101 ?_
      refine j_iload_n C0 dL_sets_102 rfl 3 rfl ?_
      refine j_iconst (v := 4) C0 dL_sets_103 rfl ?_
      refine j_ishr C0 dL_sets_104 ?_
      refine j_iload C0 dL_sets_105 5 rfl ?_
      refine j_iload C0 dL_sets_107 0 rfl ?_
      refine j_isub C0 dL_sets_109 ?_
      refine j_iconst (v := 3) C0 dL_sets_110 rfl ?_
      refine j_iadd C0 dL_sets_111 ?_
      obtain ⟨q4, hcq4, hf⟩ := bd_some hf
      refine j_callS (As := [.int (x3 >>> ((4 : Int32) &&& 31)), .int ((q2 - q3) + (3 : Int32))]) (rest := [.int (q3 - (1 : Int32))]) (stk := [.int q4, .int (q3 - (1 : Int32))]) (G2 := (X.1, X.2, M)) C0 (c_L_low hi (G0 := (X.1, X.2, M))  hcq4) kw_L_85 bi_L_low rfl ⟨by decide, by decide⟩ ⟨Nat.zero_le _, Nat.zero_le _⟩ rfl rfl (Nat.le_of_ble_eq_true rfl) rfl rfl dL_sets_112 ?_
      refine j_iadd C0 dL_sets_115 ?_
      refine j_istore (lv' := [(6, .int ((q3 - (1 : Int32)) + q4)), (5, .int q3), (0, .ref (ad (0, 0, 0))), (1, .ref (ad (14, 0, 0))), (2, .int x3), (3, .int q1), (4, .int q2)]) C0 dL_sets_116 (by decide) rfl ?_
      refine j_iload C0 dL_sets_118 0 rfl ?_
      refine j_iload C0 dL_sets_120 1 rfl ?_
      refine j_icmp_lt (tgt := 132) C0 dL_sets_122 (by decide) (fun c5 => ?_) (fun c5 => ?_)
      · have hf := if_t c5 hf
        refine j_aload_n C0 dL_sets_132 rfl 2 rfl ?_
        refine j_iload_n C0 dL_sets_133 rfl 5 rfl ?_
        refine j_iload C0 dL_sets_134 0 rfl ?_
        obtain ⟨q6, hcq6, hf⟩ := bd_some hf
        refine j_callV (As := [.int q1, .int ((q3 - (1 : Int32)) + q4)]) (rest := []) (stk := [.int q6.1]) (G2 := (q6.2.1, q6.2.2, M)) C0 (c_X5_set hi (M0 := M)  hcq6) kw_L_117 bi_X5_set bx_X5_set (ia hi id_c0) oc_0 rfl ⟨by decide, by decide⟩ ⟨Nat.zero_le _, Nat.zero_le _⟩ rfl rfl (Nat.le_of_ble_eq_true rfl) rfl rfl dL_sets_136 ?_
        refine j_ldc (v := -1000001) C0 dL_sets_139 cw_L_49 ?_
        refine j_icmp_ne (tgt := 148) C0 dL_sets_141 (by decide) (fun c7 => ?_) (fun c7 => ?_)
        · have hf := if_f c7 hf
          refine j_iconst (v := 0) C0 dL_sets_148 rfl ?_
          exact j_zret C0 hr rfl dL_sets_149 (pr1 hf) (congrArg (fun z => (z.1.1, z.1.2, z.2)) (pr2 hf))
        have hf := if_t c7 hf
        refine j_iconst (v := 1) C0 dL_sets_144 rfl ?_
        refine j_goto (tgt := 149) C0 dL_sets_145 (by decide) ?_
        exact j_zret C0 hr rfl dL_sets_149 (pr1 hf) (congrArg (fun z => (z.1.1, z.1.2, z.2)) (pr2 hf))
      have hf := if_f c5 hf
      refine j_iload C0 dL_sets_125 0 rfl ?_
      refine j_iload C0 dL_sets_127 6 rfl ?_
      refine j_icmp_le (tgt := 150) C0 dL_sets_129 (by decide) (fun c8 => ?_) (fun c8 => ?_)
      · have hf := if_t c8 hf
        refine j_aload_n C0 dL_sets_150 rfl 3 rfl ?_
        refine j_iload_n C0 dL_sets_151 rfl 5 rfl ?_
        obtain ⟨h9, hf⟩ := gd_some hf
        refine j_iald (x := (M 0 (q1.toNatClampNeg))) C0 al_14_0 rfl (ia hi id_l0) h9 (by rw [Nat.zero_add]; rfl) dL_sets_152 ?_
        refine j_istore (lv' := [(7, .int (M 0 (q1.toNatClampNeg))), (6, .int ((q3 - (1 : Int32)) + q4)), (5, .int q3), (0, .ref (ad (0, 0, 0))), (1, .ref (ad (14, 0, 0))), (2, .int x3), (3, .int q1), (4, .int q2)]) C0 dL_sets_153 (by decide) rfl ?_
        refine j_aload_n C0 dL_sets_155 rfl 4 rfl ?_
        refine j_iload_n C0 dL_sets_156 rfl 6 rfl ?_
        refine j_iload C0 dL_sets_157 1 rfl ?_
        obtain ⟨h10, hf⟩ := gd_some hf
        obtain ⟨M11, e12, hf⟩ := lt_some hf
        refine j_iast (G' := (X.1, X.2, M11)) C0 al_14_0 rfl (ia hi id_l0) h10 (by rw [Nat.zero_add]; exact (eM_set e12)) dL_sets_159 ?_
        refine j_aload_n C0 dL_sets_160 rfl 3 rfl ?_
        refine j_iload_n C0 dL_sets_161 rfl 6 rfl ?_
        refine j_iload C0 dL_sets_162 1 rfl ?_
        obtain ⟨q13, hcq13, hf⟩ := bd_some hf
        refine j_callV (As := [.int q1, .int ((q3 - (1 : Int32)) + q4)]) (rest := []) (stk := [.int q13.1]) (G2 := (q13.2.1, q13.2.2, M11)) C0 (c_X5_set hi (M0 := M11)  hcq13) kw_L_117 bi_X5_set bx_X5_set (ia hi id_c0) oc_0 rfl ⟨by decide, by decide⟩ ⟨Nat.zero_le _, Nat.zero_le _⟩ rfl rfl (Nat.le_of_ble_eq_true rfl) rfl rfl dL_sets_164 ?_
        refine j_iload C0 dL_sets_167 0 rfl ?_
        refine j_icmp_ne (tgt := 176) C0 dL_sets_169 (by decide) (fun c14 => ?_) (fun c14 => ?_)
        · have hf := if_f c14 hf
          refine j_iconst (v := 0) C0 dL_sets_176 rfl ?_
          exact j_zret C0 hr rfl dL_sets_177 (pr1 hf) (congrArg (fun z => (z.1.1, z.1.2, z.2)) (pr2 hf))
        have hf := if_t c14 hf
        refine j_iconst (v := 1) C0 dL_sets_172 rfl ?_
        refine j_goto (tgt := 177) C0 dL_sets_173 (by decide) ?_
        exact j_zret C0 hr rfl dL_sets_177 (pr1 hf) (congrArg (fun z => (z.1.1, z.1.2, z.2)) (pr2 hf))
      have hf := if_f c8 hf
      refine j_aload_n C0 dL_sets_132 rfl 2 rfl ?_
      refine j_iload_n C0 dL_sets_133 rfl 5 rfl ?_
      refine j_iload C0 dL_sets_134 0 rfl ?_
      obtain ⟨q15, hcq15, hf⟩ := bd_some hf
      refine j_callV (As := [.int q1, .int ((q3 - (1 : Int32)) + q4)]) (rest := []) (stk := [.int q15.1]) (G2 := (q15.2.1, q15.2.2, M)) C0 (c_X5_set hi (M0 := M)  hcq15) kw_L_117 bi_X5_set bx_X5_set (ia hi id_c0) oc_0 rfl ⟨by decide, by decide⟩ ⟨Nat.zero_le _, Nat.zero_le _⟩ rfl rfl (Nat.le_of_ble_eq_true rfl) rfl rfl dL_sets_136 ?_
      refine j_ldc (v := -1000001) C0 dL_sets_139 cw_L_49 ?_
      refine j_icmp_ne (tgt := 148) C0 dL_sets_141 (by decide) (fun c16 => ?_) (fun c16 => ?_)
      · have hf := if_f c16 hf
        refine j_iconst (v := 0) C0 dL_sets_148 rfl ?_
        exact j_zret C0 hr rfl dL_sets_149 (pr1 hf) (congrArg (fun z => (z.1.1, z.1.2, z.2)) (pr2 hf))
      have hf := if_t c16 hf
      refine j_iconst (v := 1) C0 dL_sets_144 rfl ?_
      refine j_goto (tgt := 149) C0 dL_sets_145 (by decide) ?_
      exact j_zret C0 hr rfl dL_sets_149 (pr1 hf) (congrArg (fun z => (z.1.1, z.1.2, z.2)) (pr2 hf))
    refine j_if_ne (tgt := 66) C0 dL_sets_57 (by decide) (fun c17 => ?_) (fun c17 => ?_)
    · have hsq3 := if_f c17 hsq3
      refine j_iload_n C0 dL_sets_66 rfl 4 rfl ?_
      refine j_iconst (v := 1) C0 dL_sets_67 rfl ?_
      refine j_icmp_ne (tgt := 76) C0 dL_sets_68 (by decide) (fun c18 => ?_) (fun c18 => ?_)
      · have hsq3 := if_f c18 hsq3
        refine j_iload_n C0 dL_sets_76 rfl 4 rfl ?_
        refine j_iconst (v := 2) C0 dL_sets_77 rfl ?_
        refine j_icmp_ne (tgt := 86) C0 dL_sets_78 (by decide) (fun c19 => ?_) (fun c19 => ?_)
        · have hsq3 := if_f c19 hsq3
          refine j_iload_n C0 dL_sets_86 rfl 4 rfl ?_
          refine j_iconst (v := 3) C0 dL_sets_87 rfl ?_
          refine j_icmp_ne (tgt := 95) C0 dL_sets_88 (by decide) (fun c20 => ?_) (fun c20 => ?_)
          · have hsq3 := if_f c20 hsq3
            refine j_iconst (v := 0) C0 dL_sets_95 rfl ?_
            obtain rfl := so hsq3
            exact j_sub [1, 2, 3, 4, 0] rfl Jq3
          have hsq3 := if_t c20 hsq3
          refine j_iconst (v := 1) C0 dL_sets_91 rfl ?_
          refine j_goto (tgt := 96) C0 dL_sets_92 (by decide) ?_
          obtain rfl := so hsq3
          exact j_sub [1, 2, 3, 4, 0] rfl Jq3
        have hsq3 := if_t c19 hsq3
        refine j_bipush (v := 50) C0 dL_sets_81 rfl ?_
        refine j_goto (tgt := 96) C0 dL_sets_83 (by decide) ?_
        obtain rfl := so hsq3
        exact j_sub [1, 2, 3, 4, 0] rfl Jq3
      have hsq3 := if_t c18 hsq3
      refine j_bipush (v := 20) C0 dL_sets_71 rfl ?_
      refine j_goto (tgt := 96) C0 dL_sets_73 (by decide) ?_
      obtain rfl := so hsq3
      exact j_sub [1, 2, 3, 4, 0] rfl Jq3
    have hsq3 := if_t c17 hsq3
    refine j_sipush (v := 500) C0 dL_sets_60 rfl ?_
    refine j_goto (tgt := 96) C0 dL_sets_63 (by decide) ?_
    obtain rfl := so hsq3
    exact j_sub [1, 2, 3, 4, 0] rfl Jq3
  refine j_if_eq (tgt := 16) C0 dL_sets_8 (by decide) (fun c21 => ?_) (fun c21 => ?_)
  · have hsq2 := if_t c21 hsq2
    refine j_sipush (v := 5000) C0 dL_sets_16 rfl ?_
    refine j_goto (tgt := 54) C0 dL_sets_19 (by decide) ?_
    obtain rfl := so hsq2
    exact j_sub [1, 2, 3, 0] rfl Jq2
  have hsq2 := if_f c21 hsq2
  refine j_iload_n C0 dL_sets_11 rfl 0 rfl ?_
  refine j_iconst (v := 2) C0 dL_sets_12 rfl ?_
  refine j_icmp_ne (tgt := 22) C0 dL_sets_13 (by decide) (fun c22 => ?_) (fun c22 => ?_)
  · have hsq2 := if_f c22 hsq2
    refine j_iload_n C0 dL_sets_22 rfl 0 rfl ?_
    refine j_iconst (v := 1) C0 dL_sets_23 rfl ?_
    refine j_icmp_ne (tgt := 33) C0 dL_sets_24 (by decide) (fun c23 => ?_) (fun c23 => ?_)
    · have hsq2 := if_f c23 hsq2
      refine j_iload_n C0 dL_sets_33 rfl 0 rfl ?_
      refine j_iconst (v := 3) C0 dL_sets_34 rfl ?_
      refine j_icmp_ne (tgt := 43) C0 dL_sets_35 (by decide) (fun c24 => ?_) (fun c24 => ?_)
      · have hsq2 := if_f c24 hsq2
        refine j_iload_n C0 dL_sets_43 rfl 0 rfl ?_
        refine j_iconst (v := 4) C0 dL_sets_44 rfl ?_
        refine j_icmp_ne (tgt := 53) C0 dL_sets_45 (by decide) (fun c25 => ?_) (fun c25 => ?_)
        · have hsq2 := if_f c25 hsq2
          refine j_iconst (v := 1) C0 dL_sets_53 rfl ?_
          obtain rfl := so hsq2
          exact j_sub [1, 2, 3, 0] rfl Jq2
        have hsq2 := if_t c25 hsq2
        refine j_bipush (v := 12) C0 dL_sets_48 rfl ?_
        refine j_goto (tgt := 54) C0 dL_sets_50 (by decide) ?_
        obtain rfl := so hsq2
        exact j_sub [1, 2, 3, 0] rfl Jq2
      have hsq2 := if_t c24 hsq2
      refine j_bipush (v := 30) C0 dL_sets_38 rfl ?_
      refine j_goto (tgt := 54) C0 dL_sets_40 (by decide) ?_
      obtain rfl := so hsq2
      exact j_sub [1, 2, 3, 0] rfl Jq2
    have hsq2 := if_t c23 hsq2
    refine j_sipush (v := 900) C0 dL_sets_27 rfl ?_
    refine j_goto (tgt := 54) C0 dL_sets_30 (by decide) ?_
    obtain rfl := so hsq2
    exact j_sub [1, 2, 3, 0] rfl Jq2
  have hsq2 := if_t c22 hsq2
  refine j_sipush (v := 5000) C0 dL_sets_16 rfl ?_
  refine j_goto (tgt := 54) C0 dL_sets_19 (by decide) ?_
  obtain rfl := so hsq2
  exact j_sub [1, 2, 3, 0] rfl Jq2

set_option maxHeartbeats 4000000 in
set_option maxRecDepth 100000 in
theorem c_L_acts {l : Launch} {D : va_G} {ca : Nat → ClassId} {ad : I3 → Nat} (hi : adI ad) {X : XS} {M : Nat → Nat → Int32} {x6 : Int32} {x7 : Int32} {x8 : Int32} {r0 : Int32} {X' : XS} {M' : Nat → Nat → Int32}  (hf : fL_acts X M x6 x7 x8 = some (r0, X', M')) : MT l D ca ad yL_acts cL_acts 9 (some .boolean) 7 157 [.ref (ad (0, 0, 0)), .ref (ad (14, 0, 0)), .ref (ad (14, 1, 0)), .ref (ad (14, 2, 0)), .ref (ad (14, 3, 0)), .int x6, .int x7, .int x8] (X.1, X.2, M) (some (.int r0)) (X'.1, X'.2, M') := by
  refine met_J (lv := [(0, .ref (ad (0, 0, 0))), (1, .ref (ad (14, 0, 0))), (2, .ref (ad (14, 1, 0))), (3, .ref (ad (14, 2, 0))), (4, .ref (ad (14, 3, 0))), (5, .int x6), (6, .int x7), (7, .int x8)]) hi (by decide +kernel) (Nat.le_of_ble_eq_true rfl) rfl (fun p e s m below meth c C0 hr => ?_)
  unfold fL_acts at hf
  refine j_iload C0 dL_acts_0 5 rfl ?_
  by_cases c1 : (x6.toInt < 0 ∨ 10 < x6.toInt)
  · have hf := if_t c1 hf
    refine j_tableOut (tgt := 133) C0 dL_acts_2 c1 (by decide) ?_
    refine j_iconst (v := 1) C0 dL_acts_133 rfl ?_
    refine j_iload C0 dL_acts_134 6 rfl ?_
    refine j_iload C0 dL_acts_136 7 rfl ?_
    refine j_iconst (v := 3) C0 dL_acts_138 rfl ?_
    obtain ⟨q2, hcq2, hf⟩ := bd_some hf
    refine j_callS (As := [.int x8, .int (3 : Int32)]) (rest := [.int x7, .int (1 : Int32)]) (stk := [.int q2, .int x7, .int (1 : Int32)]) (G2 := (X.1, X.2, M)) C0 (c_L_low hi (G0 := (X.1, X.2, M))  hcq2) kw_L_85 bi_L_low rfl ⟨by decide, by decide⟩ ⟨Nat.zero_le _, Nat.zero_le _⟩ rfl rfl (Nat.le_of_ble_eq_true rfl) rfl rfl dL_acts_139 ?_
    obtain ⟨q3, hsq3, hf⟩ := bd_some hf
    have Jq3 : J D ca ad p l e ({ frames := 7, cells := 0, slots := 0, locals := 157 }) s m [.ref (ad (0, 0, 0)), .ref (ad (14, 0, 0)), .ref (ad (14, 1, 0)), .ref (ad (14, 2, 0)), .ref (ad (14, 3, 0)), .int x6, .int x7, .int x8].toArray below meth c 0 0 (MQ below (post D ca ad (some (.int r0)) (X'.1, X'.2, M')) [.ref (ad (0, 0, 0)), .ref (ad (14, 0, 0)), .ref (ad (14, 1, 0)), .ref (ad (14, 2, 0)), .ref (ad (14, 3, 0)), .int x6, .int x7, .int x8].toArray s 0 0 (adA ad)) 9 (X.1, X.2, M) 153 [(0, .ref (ad (0, 0, 0))), (1, .ref (ad (14, 0, 0))), (2, .ref (ad (14, 1, 0))), (3, .ref (ad (14, 2, 0))), (4, .ref (ad (14, 3, 0)))] [.int q3, .int x7, .int (1 : Int32)] := by
      obtain ⟨q4, hcq4, hf⟩ := bd_some hf
      refine j_callS (As := [.int x7, .int q3]) (rest := [.int (1 : Int32)]) (stk := [.int q4, .int (1 : Int32)]) (G2 := (X.1, X.2, M)) C0 (c_L_low hi (G0 := (X.1, X.2, M))  hcq4) kw_L_85 bi_L_low rfl ⟨by decide, by decide⟩ ⟨Nat.zero_le _, Nat.zero_le _⟩ rfl rfl (Nat.le_of_ble_eq_true rfl) rfl rfl dL_acts_153 ?_
      refine j_iadd C0 dL_acts_156 ?_
      refine j_istore (lv' := [(8, .int ((1 : Int32) + q4)), (0, .ref (ad (0, 0, 0))), (1, .ref (ad (14, 0, 0))), (2, .ref (ad (14, 1, 0))), (3, .ref (ad (14, 2, 0))), (4, .ref (ad (14, 3, 0)))]) C0 dL_acts_157 (by decide) rfl ?_
      refine j_aload_n C0 dL_acts_159 rfl 1 rfl ?_
      refine j_iload C0 dL_acts_160 0 rfl ?_
      obtain ⟨q5, hcq5, hf⟩ := bd_some hf
      refine j_callV (As := [.int ((1 : Int32) + q4)]) (rest := []) (stk := [.int q5.1]) (G2 := (q5.2.1, q5.2.2, M)) C0 (c_X5_ticks hi (M0 := M)  hcq5) kw_L_145 bi_X5_ticks bx_X5_ticks (ia hi id_c0) oc_0 rfl ⟨by decide, by decide⟩ ⟨Nat.zero_le _, Nat.zero_le _⟩ rfl rfl (Nat.le_of_ble_eq_true rfl) rfl rfl dL_acts_162 ?_
      refine j_aload_n C0 dL_acts_165 rfl 2 rfl ?_
      refine j_aload_n C0 dL_acts_166 rfl 3 rfl ?_
      refine j_aload_n C0 dL_acts_167 rfl 4 rfl ?_
      refine j_aload C0 dL_acts_168 5 rfl ?_
      refine j_iload C0 dL_acts_170 0 rfl ?_
      refine j_iconst (v := 1) C0 dL_acts_172 rfl ?_
      obtain ⟨q6, hcq6, hf⟩ := bd_some hf
      refine j_callS (As := [.ref (ad (14, 0, 0)), .ref (ad (14, 1, 0)), .ref (ad (14, 2, 0)), .ref (ad (14, 3, 0)), .int ((1 : Int32) + q4), .int (1 : Int32)]) (rest := [.int q5.1]) (stk := [.int q6.1, .int q5.1]) (G2 := (q5.2.1, q5.2.2, q6.2)) C0 (c_L_ticks hi (Cc := q5.2.1) (Bb := q5.2.2) al_14_0 (ia hi id_l0) al_14_1 (ia hi id_l1) al_14_2 (ia hi id_l2) al_14_3 (ia hi id_l3) hcq6) kw_L_92 bi_L_ticks rfl ⟨by decide, by decide⟩ ⟨Nat.zero_le _, Nat.zero_le _⟩ rfl rfl (Nat.le_of_ble_eq_true rfl) rfl rfl dL_acts_173 ?_
      refine j_icmp_ne (tgt := 183) C0 dL_acts_176 (by decide) (fun c7 => ?_) (fun c7 => ?_)
      · have hf := if_f c7 hf
        refine j_iconst (v := 0) C0 dL_acts_183 rfl ?_
        exact j_zret C0 hr rfl dL_acts_184 (pr1 hf) (congrArg (fun z => (z.1.1, z.1.2, z.2)) (pr2 hf))
      have hf := if_t c7 hf
      refine j_iconst (v := 1) C0 dL_acts_179 rfl ?_
      refine j_goto (tgt := 184) C0 dL_acts_180 (by decide) ?_
      exact j_zret C0 hr rfl dL_acts_184 (pr1 hf) (congrArg (fun z => (z.1.1, z.1.2, z.2)) (pr2 hf))
    refine j_if_ne (tgt := 151) C0 dL_acts_142 (by decide) (fun c8 => ?_) (fun c8 => ?_)
    · have hsq3 := if_f c8 hsq3
      refine j_bipush (v := 30) C0 dL_acts_151 rfl ?_
      obtain rfl := so hsq3
      exact j_sub [0, 1, 2, 3, 4] rfl Jq3
    have hsq3 := if_t c8 hsq3
    refine j_sipush (v := 400) C0 dL_acts_145 rfl ?_
    refine j_goto (tgt := 153) C0 dL_acts_148 (by decide) ?_
    obtain rfl := so hsq3
    exact j_sub [0, 1, 2, 3, 4] rfl Jq3
  have hf := if_f c1 hf
  by_cases c9 : x6 = 0
  · have hf := if_t c9 hf
    refine j_tableEq C0 0 (tgt := 60) c9 dL_acts_2 (by decide) (by decide) rfl (by decide) ?_
    refine j_aload_n C0 dL_acts_60 rfl 0 rfl ?_
    refine j_aload_n C0 dL_acts_61 rfl 1 rfl ?_
    refine j_aload_n C0 dL_acts_62 rfl 2 rfl ?_
    refine j_aload_n C0 dL_acts_63 rfl 3 rfl ?_
    refine j_iload C0 dL_acts_64 6 rfl ?_
    refine j_iload C0 dL_acts_66 7 rfl ?_
    obtain ⟨q10, hcq10, hf⟩ := bd_some hf
    refine j_callS (As := [.ref (ad (0, 0, 0)), .ref (ad (14, 0, 0)), .ref (ad (14, 1, 0)), .ref (ad (14, 2, 0)), .int x7, .int x8]) (rest := []) (stk := [.int q10.1]) (G2 := (q10.2.1.1, q10.2.1.2, q10.2.2)) C0 (c_L_adds hi   hcq10) kw_L_120 bi_L_adds rfl ⟨by decide, by decide⟩ ⟨Nat.zero_le _, Nat.zero_le _⟩ rfl rfl (Nat.le_of_ble_eq_true rfl) rfl rfl dL_acts_68 ?_
    obtain ⟨h11, hf⟩ := gd_some hf
    exact j_zret C0 hr (isZ_eq h11) dL_acts_71 (pr1 hf) (congrArg (fun z => (z.1.1, z.1.2, z.2)) (pr2 hf))
  have hf := if_f c9 hf
  by_cases c12 : x6 = 1
  · have hf := if_t c12 hf
    refine j_tableEq C0 1 (tgt := 72) c12 dL_acts_2 (by decide) (by decide) rfl (by decide) ?_
    refine j_aload_n C0 dL_acts_72 rfl 0 rfl ?_
    refine j_aload_n C0 dL_acts_73 rfl 1 rfl ?_
    refine j_aload_n C0 dL_acts_74 rfl 2 rfl ?_
    refine j_aload_n C0 dL_acts_75 rfl 3 rfl ?_
    refine j_iload C0 dL_acts_76 6 rfl ?_
    obtain ⟨q13, hcq13, hf⟩ := bd_some hf
    refine j_callS (As := [.ref (ad (0, 0, 0)), .ref (ad (14, 0, 0)), .ref (ad (14, 1, 0)), .ref (ad (14, 2, 0)), .int x7]) (rest := []) (stk := [.int q13.1]) (G2 := (q13.2.1.1, q13.2.1.2, q13.2.2)) C0 (c_L_pours hi   hcq13) kw_L_124 bi_L_pours rfl ⟨by decide, by decide⟩ ⟨Nat.zero_le _, Nat.zero_le _⟩ rfl rfl (Nat.le_of_ble_eq_true rfl) rfl rfl dL_acts_78 ?_
    obtain ⟨h14, hf⟩ := gd_some hf
    exact j_zret C0 hr (isZ_eq h14) dL_acts_81 (pr1 hf) (congrArg (fun z => (z.1.1, z.1.2, z.2)) (pr2 hf))
  have hf := if_f c12 hf
  by_cases c15 : x6 = 2
  · have hf := if_t c15 hf
    refine j_tableEq C0 2 (tgt := 72) c15 dL_acts_2 (by decide) (by decide) rfl (by decide) ?_
    refine j_aload_n C0 dL_acts_72 rfl 0 rfl ?_
    refine j_aload_n C0 dL_acts_73 rfl 1 rfl ?_
    refine j_aload_n C0 dL_acts_74 rfl 2 rfl ?_
    refine j_aload_n C0 dL_acts_75 rfl 3 rfl ?_
    refine j_iload C0 dL_acts_76 6 rfl ?_
    obtain ⟨q16, hcq16, hf⟩ := bd_some hf
    refine j_callS (As := [.ref (ad (0, 0, 0)), .ref (ad (14, 0, 0)), .ref (ad (14, 1, 0)), .ref (ad (14, 2, 0)), .int x7]) (rest := []) (stk := [.int q16.1]) (G2 := (q16.2.1.1, q16.2.1.2, q16.2.2)) C0 (c_L_pours hi   hcq16) kw_L_124 bi_L_pours rfl ⟨by decide, by decide⟩ ⟨Nat.zero_le _, Nat.zero_le _⟩ rfl rfl (Nat.le_of_ble_eq_true rfl) rfl rfl dL_acts_78 ?_
    obtain ⟨h17, hf⟩ := gd_some hf
    exact j_zret C0 hr (isZ_eq h17) dL_acts_81 (pr1 hf) (congrArg (fun z => (z.1.1, z.1.2, z.2)) (pr2 hf))
  have hf := if_f c15 hf
  by_cases c18 : x6 = 3
  · have hf := if_t c18 hf
    refine j_tableEq C0 3 (tgt := 72) c18 dL_acts_2 (by decide) (by decide) rfl (by decide) ?_
    refine j_aload_n C0 dL_acts_72 rfl 0 rfl ?_
    refine j_aload_n C0 dL_acts_73 rfl 1 rfl ?_
    refine j_aload_n C0 dL_acts_74 rfl 2 rfl ?_
    refine j_aload_n C0 dL_acts_75 rfl 3 rfl ?_
    refine j_iload C0 dL_acts_76 6 rfl ?_
    obtain ⟨q19, hcq19, hf⟩ := bd_some hf
    refine j_callS (As := [.ref (ad (0, 0, 0)), .ref (ad (14, 0, 0)), .ref (ad (14, 1, 0)), .ref (ad (14, 2, 0)), .int x7]) (rest := []) (stk := [.int q19.1]) (G2 := (q19.2.1.1, q19.2.1.2, q19.2.2)) C0 (c_L_pours hi   hcq19) kw_L_124 bi_L_pours rfl ⟨by decide, by decide⟩ ⟨Nat.zero_le _, Nat.zero_le _⟩ rfl rfl (Nat.le_of_ble_eq_true rfl) rfl rfl dL_acts_78 ?_
    obtain ⟨h20, hf⟩ := gd_some hf
    exact j_zret C0 hr (isZ_eq h20) dL_acts_81 (pr1 hf) (congrArg (fun z => (z.1.1, z.1.2, z.2)) (pr2 hf))
  have hf := if_f c18 hf
  by_cases c21 : x6 = 4
  · have hf := if_t c21 hf
    refine j_tableEq C0 4 (tgt := 72) c21 dL_acts_2 (by decide) (by decide) rfl (by decide) ?_
    refine j_aload_n C0 dL_acts_72 rfl 0 rfl ?_
    refine j_aload_n C0 dL_acts_73 rfl 1 rfl ?_
    refine j_aload_n C0 dL_acts_74 rfl 2 rfl ?_
    refine j_aload_n C0 dL_acts_75 rfl 3 rfl ?_
    refine j_iload C0 dL_acts_76 6 rfl ?_
    obtain ⟨q22, hcq22, hf⟩ := bd_some hf
    refine j_callS (As := [.ref (ad (0, 0, 0)), .ref (ad (14, 0, 0)), .ref (ad (14, 1, 0)), .ref (ad (14, 2, 0)), .int x7]) (rest := []) (stk := [.int q22.1]) (G2 := (q22.2.1.1, q22.2.1.2, q22.2.2)) C0 (c_L_pours hi   hcq22) kw_L_124 bi_L_pours rfl ⟨by decide, by decide⟩ ⟨Nat.zero_le _, Nat.zero_le _⟩ rfl rfl (Nat.le_of_ble_eq_true rfl) rfl rfl dL_acts_78 ?_
    obtain ⟨h23, hf⟩ := gd_some hf
    exact j_zret C0 hr (isZ_eq h23) dL_acts_81 (pr1 hf) (congrArg (fun z => (z.1.1, z.1.2, z.2)) (pr2 hf))
  have hf := if_f c21 hf
  by_cases c24 : x6 = 5
  · have hf := if_t c24 hf
    refine j_tableEq C0 5 (tgt := 82) c24 dL_acts_2 (by decide) (by decide) rfl (by decide) ?_
    refine j_aload_n C0 dL_acts_82 rfl 0 rfl ?_
    refine j_aload_n C0 dL_acts_83 rfl 1 rfl ?_
    refine j_aload_n C0 dL_acts_84 rfl 2 rfl ?_
    refine j_iload C0 dL_acts_85 6 rfl ?_
    obtain ⟨q25, hcq25, hf⟩ := bd_some hf
    refine j_callS (As := [.ref (ad (0, 0, 0)), .ref (ad (14, 0, 0)), .ref (ad (14, 1, 0)), .int x7]) (rest := []) (stk := [.int q25.1]) (G2 := (q25.2.1.1, q25.2.1.2, q25.2.2)) C0 (c_L_leads hi   hcq25) kw_L_128 bi_L_leads rfl ⟨by decide, by decide⟩ ⟨Nat.zero_le _, Nat.zero_le _⟩ rfl rfl (Nat.le_of_ble_eq_true rfl) rfl rfl dL_acts_87 ?_
    obtain ⟨h26, hf⟩ := gd_some hf
    exact j_zret C0 hr (isZ_eq h26) dL_acts_90 (pr1 hf) (congrArg (fun z => (z.1.1, z.1.2, z.2)) (pr2 hf))
  have hf := if_f c24 hf
  by_cases c27 : x6 = 6
  · have hf := if_t c27 hf
    refine j_tableEq C0 6 (tgt := 91) c27 dL_acts_2 (by decide) (by decide) rfl (by decide) ?_
    refine j_aload_n C0 dL_acts_91 rfl 0 rfl ?_
    refine j_aload_n C0 dL_acts_92 rfl 1 rfl ?_
    refine j_aload_n C0 dL_acts_93 rfl 2 rfl ?_
    refine j_iload C0 dL_acts_94 6 rfl ?_
    obtain ⟨q28, hcq28, hf⟩ := bd_some hf
    refine j_callS (As := [.ref (ad (0, 0, 0)), .ref (ad (14, 0, 0)), .ref (ad (14, 1, 0)), .int x7]) (rest := []) (stk := [.int q28.1]) (G2 := (q28.2.1.1, q28.2.1.2, q28.2.2)) C0 (c_L_waxes hi   hcq28) kw_L_132 bi_L_waxes rfl ⟨by decide, by decide⟩ ⟨Nat.zero_le _, Nat.zero_le _⟩ rfl rfl (Nat.le_of_ble_eq_true rfl) rfl rfl dL_acts_96 ?_
    obtain ⟨h29, hf⟩ := gd_some hf
    exact j_zret C0 hr (isZ_eq h29) dL_acts_99 (pr1 hf) (congrArg (fun z => (z.1.1, z.1.2, z.2)) (pr2 hf))
  have hf := if_f c27 hf
  by_cases c30 : x6 = 7
  · have hf := if_t c30 hf
    refine j_tableEq C0 7 (tgt := 100) c30 dL_acts_2 (by decide) (by decide) rfl (by decide) ?_
    refine j_aload_n C0 dL_acts_100 rfl 0 rfl ?_
    refine j_aload_n C0 dL_acts_101 rfl 1 rfl ?_
    refine j_aload_n C0 dL_acts_102 rfl 2 rfl ?_
    refine j_aload_n C0 dL_acts_103 rfl 3 rfl ?_
    refine j_iload C0 dL_acts_104 6 rfl ?_
    obtain ⟨q31, hcq31, hf⟩ := bd_some hf
    refine j_callS (As := [.ref (ad (0, 0, 0)), .ref (ad (14, 0, 0)), .ref (ad (14, 1, 0)), .ref (ad (14, 2, 0)), .int x7]) (rest := []) (stk := [.int q31.1]) (G2 := (q31.2.1.1, q31.2.1.2, q31.2.2)) C0 (c_L_pitches hi   hcq31) kw_L_135 bi_L_pitches rfl ⟨by decide, by decide⟩ ⟨Nat.zero_le _, Nat.zero_le _⟩ rfl rfl (Nat.le_of_ble_eq_true rfl) rfl rfl dL_acts_106 ?_
    obtain ⟨h32, hf⟩ := gd_some hf
    exact j_zret C0 hr (isZ_eq h32) dL_acts_109 (pr1 hf) (congrArg (fun z => (z.1.1, z.1.2, z.2)) (pr2 hf))
  have hf := if_f c30 hf
  by_cases c33 : x6 = 8
  · have hf := if_t c33 hf
    refine j_tableEq C0 8 (tgt := 110) c33 dL_acts_2 (by decide) (by decide) rfl (by decide) ?_
    refine j_aload_n C0 dL_acts_110 rfl 0 rfl ?_
    refine j_aload_n C0 dL_acts_111 rfl 1 rfl ?_
    refine j_aload_n C0 dL_acts_112 rfl 2 rfl ?_
    refine j_aload_n C0 dL_acts_113 rfl 3 rfl ?_
    refine j_iload C0 dL_acts_114 6 rfl ?_
    refine j_bipush (v := 6) C0 dL_acts_116 rfl ?_
    obtain ⟨q34, hcq34, hf⟩ := bd_some hf
    refine j_callS (As := [.int x7, .int (6 : Int32)]) (rest := [.ref (ad (14, 2, 0)), .ref (ad (14, 1, 0)), .ref (ad (14, 0, 0)), .ref (ad (0, 0, 0))]) (stk := [.int q34, .ref (ad (14, 2, 0)), .ref (ad (14, 1, 0)), .ref (ad (14, 0, 0)), .ref (ad (0, 0, 0))]) (G2 := (X.1, X.2, M)) C0 (c_L_low hi (G0 := (X.1, X.2, M))  hcq34) kw_L_85 bi_L_low rfl ⟨by decide, by decide⟩ ⟨Nat.zero_le _, Nat.zero_le _⟩ rfl rfl (Nat.le_of_ble_eq_true rfl) rfl rfl dL_acts_118 ?_
    obtain ⟨q35, hcq35, hf⟩ := bd_some hf
    refine j_callS (As := [.ref (ad (0, 0, 0)), .ref (ad (14, 0, 0)), .ref (ad (14, 1, 0)), .ref (ad (14, 2, 0)), .int q34]) (rest := []) (stk := [.int q35.1]) (G2 := (q35.2.1.1, q35.2.1.2, q35.2.2)) C0 (c_L_truesUp hi   hcq35) kw_L_138 bi_L_truesUp rfl ⟨by decide, by decide⟩ ⟨Nat.zero_le _, Nat.zero_le _⟩ rfl rfl (Nat.le_of_ble_eq_true rfl) rfl rfl dL_acts_121 ?_
    obtain ⟨h36, hf⟩ := gd_some hf
    exact j_zret C0 hr (isZ_eq h36) dL_acts_124 (pr1 hf) (congrArg (fun z => (z.1.1, z.1.2, z.2)) (pr2 hf))
  have hf := if_f c33 hf
  by_cases c37 : x6 = 9
  · have hf := if_t c37 hf
    refine j_tableEq C0 9 (tgt := 125) c37 dL_acts_2 (by decide) (by decide) rfl (by decide) ?_
    refine j_aload_n C0 dL_acts_125 rfl 0 rfl ?_
    refine j_aload_n C0 dL_acts_126 rfl 1 rfl ?_
    refine j_iload C0 dL_acts_127 6 rfl ?_
    obtain ⟨q38, hcq38, hf⟩ := bd_some hf
    refine j_callS (As := [.ref (ad (0, 0, 0)), .ref (ad (14, 0, 0)), .int x7]) (rest := []) (stk := [.int q38.1]) (G2 := (q38.2.1.1, q38.2.1.2, q38.2.2)) C0 (c_L_sets hi   hcq38) kw_L_141 bi_L_sets rfl ⟨by decide, by decide⟩ ⟨Nat.zero_le _, Nat.zero_le _⟩ rfl rfl (Nat.le_of_ble_eq_true rfl) rfl rfl dL_acts_129 ?_
    obtain ⟨h39, hf⟩ := gd_some hf
    exact j_zret C0 hr (isZ_eq h39) dL_acts_132 (pr1 hf) (congrArg (fun z => (z.1.1, z.1.2, z.2)) (pr2 hf))
  have hf := if_f c37 hf
  by_cases c40 : x6 = 10
  · have hf := if_t c40 hf
    refine j_tableEq C0 10 (tgt := 125) c40 dL_acts_2 (by decide) (by decide) rfl (by decide) ?_
    refine j_aload_n C0 dL_acts_125 rfl 0 rfl ?_
    refine j_aload_n C0 dL_acts_126 rfl 1 rfl ?_
    refine j_iload C0 dL_acts_127 6 rfl ?_
    obtain ⟨q41, hcq41, hf⟩ := bd_some hf
    refine j_callS (As := [.ref (ad (0, 0, 0)), .ref (ad (14, 0, 0)), .int x7]) (rest := []) (stk := [.int q41.1]) (G2 := (q41.2.1.1, q41.2.1.2, q41.2.2)) C0 (c_L_sets hi   hcq41) kw_L_141 bi_L_sets rfl ⟨by decide, by decide⟩ ⟨Nat.zero_le _, Nat.zero_le _⟩ rfl rfl (Nat.le_of_ble_eq_true rfl) rfl rfl dL_acts_129 ?_
    obtain ⟨h42, hf⟩ := gd_some hf
    exact j_zret C0 hr (isZ_eq h42) dL_acts_132 (pr1 hf) (congrArg (fun z => (z.1.1, z.1.2, z.2)) (pr2 hf))
  have hf := if_f c40 hf
  exact (none_ne hf).elim

