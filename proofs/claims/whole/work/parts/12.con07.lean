set_option maxHeartbeats 4000000 in
set_option maxRecDepth 100000 in
theorem c_X6_doOrder {l : Launch} {D : va_G} {ca : Nat → ClassId} {ad : I3 → Nat} (hi : adI ad) {Cc : Nat → Nat → Int32} {Bb : Nat → Fin 9} {M : Nat → Nat → Int32} {x1 : Int32} {r0 : Int32} {M' : Nat → Nat → Int32}  (hf : fM_doOrder M x1 = some (r0, M')) : MT l D ca ad yX6_doOrder cX6_doOrder 2 (some .int) 8 180 [.ref (ad (14, 0, 0)), .int x1] (Cc, Bb, M) (some (.int r0)) (Cc, Bb, M') := by
  refine met_J (lv := [(0, .ref (ad (14, 0, 0))), (1, .int x1)]) hi (by decide +kernel) (Nat.le_of_ble_eq_true rfl) rfl (fun p e s m below meth c C0 hr => ?_)
  unfold fM_doOrder at hf
  refine j_iload_n C0 dX6_doOrder_0 rfl 1 rfl ?_
  by_cases c1 : x1 = 99
  · have hf := if_t c1 hf
    refine j_lookupEq C0 99 (off := 51) (tgt := 52) c1 dX6_doOrder_1 (by decide) (by decide) (by decide) ?_
    refine j_aload_n C0 dX6_doOrder_52 rfl 0 rfl ?_
    refine j_aload_n C0 dX6_doOrder_53 rfl 0 rfl ?_
    refine j_getr (id2 := (15, 7, 0)) C0 fl_X6_32 rl_6_10 id_c14 dX6_doOrder_54 ?_
    refine j_iconst (v := 0) C0 dX6_doOrder_57 rfl ?_
    refine j_iald (x := (M 7 0)) C0 al_15_7 rfl id_m7 (by decide) (by rw [Nat.zero_add]; rfl) dX6_doOrder_58 ?_
    refine j_aload_n C0 dX6_doOrder_59 rfl 0 rfl ?_
    refine j_getr (id2 := (15, 7, 0)) C0 fl_X6_32 rl_6_10 id_c14 dX6_doOrder_60 ?_
    refine j_iconst (v := 1) C0 dX6_doOrder_63 rfl ?_
    refine j_iald (x := (M 7 1)) C0 al_15_7 rfl id_m7 (by decide) (by rw [Nat.zero_add]; rfl) dX6_doOrder_64 ?_
    refine j_aload_n C0 dX6_doOrder_65 rfl 0 rfl ?_
    refine j_getr (id2 := (15, 7, 0)) C0 fl_X6_32 rl_6_10 id_c14 dX6_doOrder_66 ?_
    refine j_iconst (v := 2) C0 dX6_doOrder_69 rfl ?_
    refine j_iald (x := (M 7 2)) C0 al_15_7 rfl id_m7 (by decide) (by rw [Nat.zero_add]; rfl) dX6_doOrder_70 ?_
    obtain ⟨q2, hcq2, hf⟩ := bd_some hf
    refine j_callV (As := [.int (M 7 0), .int (M 7 1), .int (M 7 2)]) (rest := []) (stk := [.int q2.1]) (G2 := (Cc, Bb, q2.2)) C0 (c_X6_clockNow hi (Cc := Cc) (Bb := Bb)  hcq2) kw_X6_146 bi_X6_clockNow bx_X6_clockNow id_c14 oc_14 rfl ⟨by decide, by decide⟩ ⟨Nat.zero_le _, Nat.zero_le _⟩ rfl rfl (Nat.le_of_ble_eq_true rfl) rfl rfl dX6_doOrder_71 ?_
    exact j_iret C0 hr dX6_doOrder_74 (pr1 hf) (congrArg (fun z => (Cc, Bb, z)) (pr2 hf))
  have hf := if_f c1 hf
  by_cases c3 : x1 = 108
  · have hf := if_t c3 hf
    refine j_lookupEq C0 108 (off := 108) (tgt := 109) c3 dX6_doOrder_1 (by decide) (by decide) (by decide) ?_
    refine j_aload_n C0 dX6_doOrder_109 rfl 0 rfl ?_
    refine j_aload_n C0 dX6_doOrder_110 rfl 0 rfl ?_
    refine j_getr (id2 := (15, 7, 0)) C0 fl_X6_32 rl_6_10 id_c14 dX6_doOrder_111 ?_
    refine j_iconst (v := 0) C0 dX6_doOrder_114 rfl ?_
    refine j_iald (x := (M 7 0)) C0 al_15_7 rfl id_m7 (by decide) (by rw [Nat.zero_add]; rfl) dX6_doOrder_115 ?_
    refine j_aload_n C0 dX6_doOrder_116 rfl 0 rfl ?_
    refine j_getr (id2 := (15, 7, 0)) C0 fl_X6_32 rl_6_10 id_c14 dX6_doOrder_117 ?_
    refine j_iconst (v := 1) C0 dX6_doOrder_120 rfl ?_
    refine j_iald (x := (M 7 1)) C0 al_15_7 rfl id_m7 (by decide) (by rw [Nat.zero_add]; rfl) dX6_doOrder_121 ?_
    obtain ⟨q4, hcq4, hf⟩ := bd_some hf
    refine j_callV (As := [.int (M 7 0), .int (M 7 1)]) (rest := []) (stk := [.int q4.1]) (G2 := (Cc, Bb, q4.2)) C0 (c_X6_leadNow hi (Cc := Cc) (Bb := Bb)  hcq4) kw_X6_153 bi_X6_leadNow bx_X6_leadNow id_c14 oc_14 rfl ⟨by decide, by decide⟩ ⟨Nat.zero_le _, Nat.zero_le _⟩ rfl rfl (Nat.le_of_ble_eq_true rfl) rfl rfl dX6_doOrder_122 ?_
    exact j_iret C0 hr dX6_doOrder_125 (pr1 hf) (congrArg (fun z => (Cc, Bb, z)) (pr2 hf))
  have hf := if_f c3 hf
  by_cases c5 : x1 = 112
  · have hf := if_t c5 hf
    refine j_lookupEq C0 112 (off := 74) (tgt := 75) c5 dX6_doOrder_1 (by decide) (by decide) (by decide) ?_
    refine j_aload_n C0 dX6_doOrder_75 rfl 0 rfl ?_
    refine j_aload_n C0 dX6_doOrder_76 rfl 0 rfl ?_
    refine j_getr (id2 := (15, 7, 0)) C0 fl_X6_32 rl_6_10 id_c14 dX6_doOrder_77 ?_
    refine j_iconst (v := 0) C0 dX6_doOrder_80 rfl ?_
    refine j_iald (x := (M 7 0)) C0 al_15_7 rfl id_m7 (by decide) (by rw [Nat.zero_add]; rfl) dX6_doOrder_81 ?_
    refine j_aload_n C0 dX6_doOrder_82 rfl 0 rfl ?_
    refine j_getr (id2 := (15, 7, 0)) C0 fl_X6_32 rl_6_10 id_c14 dX6_doOrder_83 ?_
    refine j_iconst (v := 1) C0 dX6_doOrder_86 rfl ?_
    refine j_iald (x := (M 7 1)) C0 al_15_7 rfl id_m7 (by decide) (by rw [Nat.zero_add]; rfl) dX6_doOrder_87 ?_
    obtain ⟨q6, hcq6, hf⟩ := bd_some hf
    refine j_callV (As := [.int (M 7 0), .int (M 7 1)]) (rest := []) (stk := [.int q6.1]) (G2 := (Cc, Bb, q6.2)) C0 (c_X6_pourNow hi (Cc := Cc) (Bb := Bb)  hcq6) kw_X6_156 bi_X6_pourNow bx_X6_pourNow id_c14 oc_14 rfl ⟨by decide, by decide⟩ ⟨Nat.zero_le _, Nat.zero_le _⟩ rfl rfl (Nat.le_of_ble_eq_true rfl) rfl rfl dX6_doOrder_88 ?_
    exact j_iret C0 hr dX6_doOrder_91 (pr1 hf) (congrArg (fun z => (Cc, Bb, z)) (pr2 hf))
  have hf := if_f c5 hf
  by_cases c7 : x1 = 116
  · have hf := if_t c7 hf
    refine j_lookupEq C0 116 (off := 125) (tgt := 126) c7 dX6_doOrder_1 (by decide) (by decide) (by decide) ?_
    refine j_aload_n C0 dX6_doOrder_126 rfl 0 rfl ?_
    refine j_aload_n C0 dX6_doOrder_127 rfl 0 rfl ?_
    refine j_getr (id2 := (15, 7, 0)) C0 fl_X6_32 rl_6_10 id_c14 dX6_doOrder_128 ?_
    refine j_iconst (v := 0) C0 dX6_doOrder_131 rfl ?_
    refine j_iald (x := (M 7 0)) C0 al_15_7 rfl id_m7 (by decide) (by rw [Nat.zero_add]; rfl) dX6_doOrder_132 ?_
    obtain ⟨q8, hcq8, hf⟩ := bd_some hf
    refine j_callV (As := [.int (M 7 0)]) (rest := []) (stk := [.int q8.1]) (G2 := (Cc, Bb, q8.2)) C0 (c_X6_ticksNow hi (Cc := Cc) (Bb := Bb)  hcq8) kw_X6_168 bi_X6_ticksNow bx_X6_ticksNow id_c14 oc_14 rfl ⟨by decide, by decide⟩ ⟨Nat.zero_le _, Nat.zero_le _⟩ rfl rfl (Nat.le_of_ble_eq_true rfl) rfl rfl dX6_doOrder_133 ?_
    exact j_iret C0 hr dX6_doOrder_136 (pr1 hf) (congrArg (fun z => (Cc, Bb, z)) (pr2 hf))
  have hf := if_f c7 hf
  by_cases c9 : x1 = 119
  · have hf := if_t c9 hf
    refine j_lookupEq C0 119 (off := 91) (tgt := 92) c9 dX6_doOrder_1 (by decide) (by decide) (by decide) ?_
    refine j_aload_n C0 dX6_doOrder_92 rfl 0 rfl ?_
    refine j_aload_n C0 dX6_doOrder_93 rfl 0 rfl ?_
    refine j_getr (id2 := (15, 7, 0)) C0 fl_X6_32 rl_6_10 id_c14 dX6_doOrder_94 ?_
    refine j_iconst (v := 0) C0 dX6_doOrder_97 rfl ?_
    refine j_iald (x := (M 7 0)) C0 al_15_7 rfl id_m7 (by decide) (by rw [Nat.zero_add]; rfl) dX6_doOrder_98 ?_
    refine j_aload_n C0 dX6_doOrder_99 rfl 0 rfl ?_
    refine j_getr (id2 := (15, 7, 0)) C0 fl_X6_32 rl_6_10 id_c14 dX6_doOrder_100 ?_
    refine j_iconst (v := 1) C0 dX6_doOrder_103 rfl ?_
    refine j_iald (x := (M 7 1)) C0 al_15_7 rfl id_m7 (by decide) (by rw [Nat.zero_add]; rfl) dX6_doOrder_104 ?_
    obtain ⟨q10, hcq10, hf⟩ := bd_some hf
    refine j_callV (As := [.int (M 7 0), .int (M 7 1)]) (rest := []) (stk := [.int q10.1]) (G2 := (Cc, Bb, q10.2)) C0 (c_X6_waxNow hi (Cc := Cc) (Bb := Bb)  hcq10) kw_X6_159 bi_X6_waxNow bx_X6_waxNow id_c14 oc_14 rfl ⟨by decide, by decide⟩ ⟨Nat.zero_le _, Nat.zero_le _⟩ rfl rfl (Nat.le_of_ble_eq_true rfl) rfl rfl dX6_doOrder_105 ?_
    exact j_iret C0 hr dX6_doOrder_108 (pr1 hf) (congrArg (fun z => (Cc, Bb, z)) (pr2 hf))
  have hf := if_f c9 hf
  refine j_lookup (off := 136) (tgt := 137) C0 dX6_doOrder_1 (by decide) ((lv_osw c1 rfl).trans ((lv_osw c3 rfl).trans ((lv_osw c5 rfl).trans ((lv_osw c7 rfl).trans ((lv_osw c9 rfl).trans (rfl)))))) (by decide) ?_
  refine j_aload_n C0 dX6_doOrder_137 rfl 0 rfl ?_
  refine j_aload_n C0 dX6_doOrder_138 rfl 0 rfl ?_
  refine j_getr (id2 := (15, 7, 0)) C0 fl_X6_32 rl_6_10 id_c14 dX6_doOrder_139 ?_
  refine j_iconst (v := 0) C0 dX6_doOrder_142 rfl ?_
  refine j_iald (x := (M 7 0)) C0 al_15_7 rfl id_m7 (by decide) (by rw [Nat.zero_add]; rfl) dX6_doOrder_143 ?_
  obtain ⟨q11, hcq11, hf⟩ := bd_some hf
  refine j_callV (As := [.int (M 7 0)]) (rest := []) (stk := [.int q11.1]) (G2 := (Cc, Bb, q11.2)) C0 (c_X6_trueNow hi (Cc := Cc) (Bb := Bb)  hcq11) kw_X6_165 bi_X6_trueNow bx_X6_trueNow id_c14 oc_14 rfl ⟨by decide, by decide⟩ ⟨Nat.zero_le _, Nat.zero_le _⟩ rfl rfl (Nat.le_of_ble_eq_true rfl) rfl rfl dX6_doOrder_144 ?_
  exact j_iret C0 hr dX6_doOrder_147 (pr1 hf) (congrArg (fun z => (Cc, Bb, z)) (pr2 hf))

set_option maxHeartbeats 4000000 in
set_option maxRecDepth 100000 in
theorem c_X6_doOrders {l : Launch} {D : va_G} {ca : Nat → ClassId} {ad : I3 → Nat} (hi : adI ad) {Cc : Nat → Nat → Int32} {Bb : Nat → Fin 9} {M : Nat → Nat → Int32} {M' : Nat → Nat → Int32}  (hf : fM_doOrders M = some (M')) : MT l D ca ad yX6_doOrders cX6_doOrders 5 none 9 201 [.ref (ad (14, 0, 0))] (Cc, Bb, M) none (Cc, Bb, M') := by
  refine met_J (lv := [(0, .ref (ad (14, 0, 0)))]) hi (by decide +kernel) (Nat.le_of_ble_eq_true rfl) rfl (fun p e s m below meth c C0 hr => ?_)
  have L16 : ∀ (n : Nat) (M : Nat → Nat → Int32), fM_doOrders_L16 n M = some (M') → J D ca ad p l e ({ frames := 9, cells := 0, slots := 0, locals := 201 }) s m [.ref (ad (14, 0, 0))].toArray below meth c 0 0 (MQ below (post D ca ad none (Cc, Bb, M')) [.ref (ad (14, 0, 0))].toArray s 0 0 (adA ad)) 5 (Cc, Bb, M) 16 [(0, .ref (ad (14, 0, 0)))] [] := by
    intro n
    induction n with
    | zero =>
      intro M hf
      exact (none_ne hf).elim
    | succ n ih =>
      intro M hf
      rw [fM_doOrders_L16] at hf
      refine j_aload_n C0 dX6_doOrders_16 rfl 0 rfl ?_
      refine j_geti (x := (M 8 2)) C0 fl_X6_214 sl_6_9 id_c14 rfl dX6_doOrders_17 ?_
      refine j_aload_n C0 dX6_doOrders_20 rfl 0 rfl ?_
      refine j_geti (x := (M 8 1)) C0 fl_X6_208 sl_6_8 id_c14 rfl dX6_doOrders_21 ?_
      refine j_icmp_ge (tgt := 136) C0 dX6_doOrders_24 (by decide) (fun c7 => ?_) (fun c7 => ?_)
      · have hf := if_t c7 hf
        exact j_vret C0 hr dX6_doOrders_136 (congrArg (fun z => (Cc, Bb, z)) (so hf))
      have hf := if_f c7 hf
      refine j_aload_n C0 dX6_doOrders_27 rfl 0 rfl ?_
      refine j_geti (x := (M 8 3)) C0 fl_X6_232 sl_6_11 id_c14 rfl dX6_doOrders_28 ?_
      refine j_ldc (v := -1000004) C0 dX6_doOrders_31 cw_X6_174 ?_
      refine j_icmp_ne (tgt := 136) C0 dX6_doOrders_33 (by decide) (fun c8 => ?_) (fun c8 => ?_)
      · have hf := if_f c8 hf
        exact j_vret C0 hr dX6_doOrders_136 (congrArg (fun z => (Cc, Bb, z)) (so hf))
      have hf := if_t c8 hf
      refine j_aload_n C0 dX6_doOrders_36 rfl 0 rfl ?_
      refine j_geti (x := (M 8 2)) C0 fl_X6_214 sl_6_9 id_c14 rfl dX6_doOrders_37 ?_
      refine j_istore_n (lv' := [(1, .int (M 8 2)), (0, .ref (ad (14, 0, 0)))]) C0 dX6_doOrders_40 rfl (by decide) rfl ?_
      refine j_aload_n C0 dX6_doOrders_41 rfl 1 rfl ?_
      refine j_getr (id2 := (15, 6, 0)) C0 fl_X6_29 rl_6_7 id_c14 dX6_doOrders_42 ?_
      refine j_aload_n C0 dX6_doOrders_45 rfl 1 rfl ?_
      refine j_geti (x := (M 8 2)) C0 fl_X6_214 sl_6_9 id_c14 rfl dX6_doOrders_46 ?_
      obtain ⟨h9, hf⟩ := gd_some hf
      refine j_iald (x := (M 6 ((M 8 2).toNatClampNeg))) C0 al_15_6 rfl id_m6 h9 (by rw [Nat.zero_add]; rfl) dX6_doOrders_49 ?_
      refine j_istore_n (lv' := [(2, .int (M 6 ((M 8 2).toNatClampNeg))), (1, .int (M 8 2)), (0, .ref (ad (14, 0, 0)))]) C0 dX6_doOrders_50 rfl (by decide) rfl ?_
      refine j_aload_n C0 dX6_doOrders_51 rfl 2 rfl ?_
      obtain ⟨q10, hcq10, hf⟩ := bd_some hf
      refine j_callV (As := []) (rest := []) (stk := [.int q10.1]) (G2 := (Cc, Bb, q10.2)) C0 (c_X6_readOrder hi (Cc := Cc) (Bb := Bb)  hcq10) kw_X6_235 bi_X6_readOrder bx_X6_readOrder id_c14 oc_14 rfl ⟨by decide, by decide⟩ ⟨Nat.zero_le _, Nat.zero_le _⟩ rfl rfl (Nat.le_of_ble_eq_true rfl) rfl rfl dX6_doOrders_52 ?_
      refine j_istore_n (lv' := [(3, .int q10.1), (2, .int (M 6 ((M 8 2).toNatClampNeg))), (1, .int (M 8 2)), (0, .ref (ad (14, 0, 0)))]) C0 dX6_doOrders_55 rfl (by decide) rfl ?_
      refine j_iload_n C0 dX6_doOrders_56 rfl 0 rfl ?_
      obtain ⟨q11, hsq11, hf⟩ := bd_some hf
      have Jq11 : J D ca ad p l e ({ frames := 9, cells := 0, slots := 0, locals := 201 }) s m [.ref (ad (14, 0, 0))].toArray below meth c 0 0 (MQ below (post D ca ad none (Cc, Bb, M')) [.ref (ad (14, 0, 0))].toArray s 0 0 (adA ad)) 5 (Cc, Bb, q11.2) 69 [(0, .ref (ad (14, 0, 0))), (1, .int (M 8 2)), (3, .int q10.1)] [.int q11.1] := by
        refine j_istore (lv' := [(4, .int q11.1), (0, .ref (ad (14, 0, 0))), (1, .int (M 8 2)), (3, .int q10.1)]) C0 dX6_doOrders_69 (by decide) rfl ?_
        refine j_iload_n C0 dX6_doOrders_71 rfl 3 rfl ?_
        refine j_if_eq (tgt := 83) C0 dX6_doOrders_72 (by decide) (fun c12 => ?_) (fun c12 => ?_)
        · have hf := if_t c12 hf
          refine j_aload_n C0 dX6_doOrders_83 rfl 1 rfl ?_
          refine j_iload_n C0 dX6_doOrders_84 rfl 2 rfl ?_
          obtain ⟨M13, e14, hf⟩ := lt_some hf
          refine j_puti (G' := (Cc, Bb, M13)) C0 fl_X6_232 pw_6_11 sl_6_11 id_c14 rfl rfl (eM_set e14) dX6_doOrders_85 ?_
          refine j_aload_n C0 dX6_doOrders_88 rfl 1 rfl ?_
          refine j_iload_n C0 dX6_doOrders_89 rfl 3 rfl ?_
          obtain ⟨q15, hsq15, hf⟩ := bd_some hf
          have Jq15 : J D ca ad p l e ({ frames := 9, cells := 0, slots := 0, locals := 201 }) s m [.ref (ad (14, 0, 0))].toArray below meth c 0 0 (MQ below (post D ca ad none (Cc, Bb, M')) [.ref (ad (14, 0, 0))].toArray s 0 0 (adA ad)) 5 (Cc, Bb, M13) 98 [(0, .ref (ad (14, 0, 0))), (1, .int (M 8 2)), (3, .int q10.1), (4, .int q11.1)] [.int q15, .ref (ad (14, 0, 0))] := by
            obtain ⟨M16, e17, hf⟩ := lt_some hf
            refine j_puti (G' := (Cc, Bb, M16)) C0 fl_X6_241 pw_6_12 sl_6_12 id_c14 rfl rfl (eM_set e17) dX6_doOrders_98 ?_
            refine j_aload_n C0 dX6_doOrders_101 rfl 0 rfl ?_
            refine j_iload_n C0 dX6_doOrders_102 rfl 2 rfl ?_
            refine j_if_eq (tgt := 111) C0 dX6_doOrders_103 (by decide) (fun c18 => ?_) (fun c18 => ?_)
            · have hf := if_t c18 hf
              refine j_aload_n C0 dX6_doOrders_111 rfl 0 rfl ?_
              refine j_geti (x := (M16 8 2)) C0 fl_X6_214 sl_6_9 id_c14 rfl dX6_doOrders_112 ?_
              refine j_iload_n C0 dX6_doOrders_115 rfl 1 rfl ?_
              refine j_isub C0 dX6_doOrders_116 ?_
              obtain ⟨M19, e20, hf⟩ := lt_some hf
              refine j_puti (G' := (Cc, Bb, M19)) C0 fl_X6_244 pw_6_13 sl_6_13 id_c14 rfl rfl (eM_set e20) dX6_doOrders_117 ?_
              refine j_goto (tgt := 133) C0 dX6_doOrders_120 (by decide) ?_
              refine j_goto (tgt := 16) C0 dX6_doOrders_133 (by decide) ?_
              exact j_sub [0] rfl (ih M19 hf)
            have hf := if_f c18 hf
            refine j_iload C0 dX6_doOrders_106 3 rfl ?_
            refine j_goto (tgt := 117) C0 dX6_doOrders_108 (by decide) ?_
            obtain ⟨M21, e22, hf⟩ := lt_some hf
            refine j_puti (G' := (Cc, Bb, M21)) C0 fl_X6_244 pw_6_13 sl_6_13 id_c14 rfl rfl (eM_set e22) dX6_doOrders_117 ?_
            refine j_goto (tgt := 133) C0 dX6_doOrders_120 (by decide) ?_
            refine j_goto (tgt := 16) C0 dX6_doOrders_133 (by decide) ?_
            exact j_sub [0] rfl (ih M21 hf)
          refine j_if_eq (tgt := 97) C0 dX6_doOrders_90 (by decide) (fun c23 => ?_) (fun c23 => ?_)
          · have hsq15 := if_t c23 hsq15
            refine j_iconst (v := 1) C0 dX6_doOrders_97 rfl ?_
            obtain rfl := so hsq15
            exact j_sub [1, 2, 3, 0] rfl Jq15
          have hsq15 := if_f c23 hsq15
          refine j_iconst (v := 2) C0 dX6_doOrders_93 rfl ?_
          refine j_goto (tgt := 98) C0 dX6_doOrders_94 (by decide) ?_
          obtain rfl := so hsq15
          exact j_sub [1, 2, 3, 0] rfl Jq15
        have hf := if_f c12 hf
        refine j_iload C0 dX6_doOrders_75 0 rfl ?_
        obtain ⟨q24, hcq24, hf⟩ := bd_some hf
        refine j_callS (As := [.int q11.1]) (rest := []) (stk := [.int q24]) (G2 := (Cc, Bb, q11.2)) C0 (c_X6_isError hi (G0 := (Cc, Bb, q11.2))  hcq24) kw_X6_40 bi_X6_isError rfl ⟨by decide, by decide⟩ ⟨Nat.zero_le _, Nat.zero_le _⟩ rfl rfl (Nat.le_of_ble_eq_true rfl) rfl rfl dX6_doOrders_77 ?_
        refine j_if_eq (tgt := 123) C0 dX6_doOrders_80 (by decide) (fun c25 => ?_) (fun c25 => ?_)
        · have hf := if_t c25 hf
          refine j_aload_n C0 dX6_doOrders_123 rfl 1 rfl ?_
          refine j_dup C0 dX6_doOrders_124 rfl ?_
          refine j_geti (x := (q11.2 8 6)) C0 fl_X6_229 sl_6_14 id_c14 rfl dX6_doOrders_125 ?_
          refine j_iconst (v := 1) C0 dX6_doOrders_128 rfl ?_
          refine j_iadd C0 dX6_doOrders_129 ?_
          obtain ⟨M26, e27, hf⟩ := lt_some hf
          refine j_puti (G' := (Cc, Bb, M26)) C0 fl_X6_229 pw_6_14 sl_6_14 id_c14 rfl rfl (eM_set e27) dX6_doOrders_130 ?_
          refine j_goto (tgt := 16) C0 dX6_doOrders_133 (by decide) ?_
          exact j_sub [1] rfl (ih M26 hf)
        have hf := if_f c25 hf
        refine j_aload_n C0 dX6_doOrders_83 rfl 1 rfl ?_
        refine j_iload_n C0 dX6_doOrders_84 rfl 2 rfl ?_
        obtain ⟨M28, e29, hf⟩ := lt_some hf
        refine j_puti (G' := (Cc, Bb, M28)) C0 fl_X6_232 pw_6_11 sl_6_11 id_c14 rfl rfl (eM_set e29) dX6_doOrders_85 ?_
        refine j_aload_n C0 dX6_doOrders_88 rfl 1 rfl ?_
        refine j_iload_n C0 dX6_doOrders_89 rfl 3 rfl ?_
        obtain ⟨q30, hsq30, hf⟩ := bd_some hf
        have Jq30 : J D ca ad p l e ({ frames := 9, cells := 0, slots := 0, locals := 201 }) s m [.ref (ad (14, 0, 0))].toArray below meth c 0 0 (MQ below (post D ca ad none (Cc, Bb, M')) [.ref (ad (14, 0, 0))].toArray s 0 0 (adA ad)) 5 (Cc, Bb, M28) 98 [(0, .ref (ad (14, 0, 0))), (1, .int (M 8 2)), (3, .int q10.1), (4, .int q11.1)] [.int q30, .ref (ad (14, 0, 0))] := by
          obtain ⟨M31, e32, hf⟩ := lt_some hf
          refine j_puti (G' := (Cc, Bb, M31)) C0 fl_X6_241 pw_6_12 sl_6_12 id_c14 rfl rfl (eM_set e32) dX6_doOrders_98 ?_
          refine j_aload_n C0 dX6_doOrders_101 rfl 0 rfl ?_
          refine j_iload_n C0 dX6_doOrders_102 rfl 2 rfl ?_
          refine j_if_eq (tgt := 111) C0 dX6_doOrders_103 (by decide) (fun c33 => ?_) (fun c33 => ?_)
          · have hf := if_t c33 hf
            refine j_aload_n C0 dX6_doOrders_111 rfl 0 rfl ?_
            refine j_geti (x := (M31 8 2)) C0 fl_X6_214 sl_6_9 id_c14 rfl dX6_doOrders_112 ?_
            refine j_iload_n C0 dX6_doOrders_115 rfl 1 rfl ?_
            refine j_isub C0 dX6_doOrders_116 ?_
            obtain ⟨M34, e35, hf⟩ := lt_some hf
            refine j_puti (G' := (Cc, Bb, M34)) C0 fl_X6_244 pw_6_13 sl_6_13 id_c14 rfl rfl (eM_set e35) dX6_doOrders_117 ?_
            refine j_goto (tgt := 133) C0 dX6_doOrders_120 (by decide) ?_
            refine j_goto (tgt := 16) C0 dX6_doOrders_133 (by decide) ?_
            exact j_sub [0] rfl (ih M34 hf)
          have hf := if_f c33 hf
          refine j_iload C0 dX6_doOrders_106 3 rfl ?_
          refine j_goto (tgt := 117) C0 dX6_doOrders_108 (by decide) ?_
          obtain ⟨M36, e37, hf⟩ := lt_some hf
          refine j_puti (G' := (Cc, Bb, M36)) C0 fl_X6_244 pw_6_13 sl_6_13 id_c14 rfl rfl (eM_set e37) dX6_doOrders_117 ?_
          refine j_goto (tgt := 133) C0 dX6_doOrders_120 (by decide) ?_
          refine j_goto (tgt := 16) C0 dX6_doOrders_133 (by decide) ?_
          exact j_sub [0] rfl (ih M36 hf)
        refine j_if_eq (tgt := 97) C0 dX6_doOrders_90 (by decide) (fun c38 => ?_) (fun c38 => ?_)
        · have hsq30 := if_t c38 hsq30
          refine j_iconst (v := 1) C0 dX6_doOrders_97 rfl ?_
          obtain rfl := so hsq30
          exact j_sub [1, 2, 3, 0] rfl Jq30
        have hsq30 := if_f c38 hsq30
        refine j_iconst (v := 2) C0 dX6_doOrders_93 rfl ?_
        refine j_goto (tgt := 98) C0 dX6_doOrders_94 (by decide) ?_
        obtain rfl := so hsq30
        exact j_sub [1, 2, 3, 0] rfl Jq30
      refine j_if_eq (tgt := 68) C0 dX6_doOrders_57 (by decide) (fun c39 => ?_) (fun c39 => ?_)
      · have hsq11 := if_t c39 hsq11
        refine j_iconst (v := 0) C0 dX6_doOrders_68 rfl ?_
        obtain rfl := so hsq11
        exact j_sub [3, 2, 0] rfl Jq11
      have hsq11 := if_f c39 hsq11
      refine j_aload_n C0 dX6_doOrders_60 rfl 3 rfl ?_
      refine j_iload_n C0 dX6_doOrders_61 rfl 1 rfl ?_
      obtain ⟨q40, hcq40, hsq11⟩ := bd_some hsq11
      refine j_callV (As := [.int (M 6 ((M 8 2).toNatClampNeg))]) (rest := []) (stk := [.int q40.1]) (G2 := (Cc, Bb, q40.2)) C0 (c_X6_doOrder hi (Cc := Cc) (Bb := Bb)  hcq40) kw_X6_238 bi_X6_doOrder bx_X6_doOrder id_c14 oc_14 rfl ⟨by decide, by decide⟩ ⟨Nat.zero_le _, Nat.zero_le _⟩ rfl rfl (Nat.le_of_ble_eq_true rfl) rfl rfl dX6_doOrders_62 ?_
      refine j_goto (tgt := 69) C0 dX6_doOrders_65 (by decide) ?_
      obtain rfl := so hsq11
      exact j_sub [3, 2, 0] rfl Jq11
  unfold fM_doOrders at hf
  refine j_aload_n C0 dX6_doOrders_0 rfl 0 rfl ?_
  refine j_iconst (v := 0) C0 dX6_doOrders_1 rfl ?_
  obtain ⟨M1, e2, hf⟩ := lt_some hf
  refine j_puti (G' := (Cc, Bb, M1)) C0 fl_X6_214 pw_6_9 sl_6_9 id_c14 rfl rfl (eM_set e2) dX6_doOrders_2 ?_
  refine j_aload_n C0 dX6_doOrders_5 rfl 0 rfl ?_
  refine j_iconst (v := 0) C0 dX6_doOrders_6 rfl ?_
  obtain ⟨M3, e4, hf⟩ := lt_some hf
  refine j_puti (G' := (Cc, Bb, M3)) C0 fl_X6_229 pw_6_14 sl_6_14 id_c14 rfl rfl (eM_set e4) dX6_doOrders_7 ?_
  refine j_aload_n C0 dX6_doOrders_10 rfl 0 rfl ?_
  refine j_ldc (v := -1000004) C0 dX6_doOrders_11 cw_X6_174 ?_
  obtain ⟨M5, e6, hf⟩ := lt_some hf
  refine j_puti (G' := (Cc, Bb, M5)) C0 fl_X6_232 pw_6_11 sl_6_11 id_c14 rfl rfl (eM_set e6) dX6_doOrders_13 ?_
  exact j_sub [0] rfl (L16 fuel M5 hf)

set_option maxHeartbeats 4000000 in
set_option maxRecDepth 100000 in
theorem c_X6_fault {l : Launch} {D : va_G} {ca : Nat → ClassId} {ad : I3 → Nat} (hi : adI ad) {Cc : Nat → Nat → Int32} {Bb : Nat → Fin 9} {M : Nat → Nat → Int32} {x1 : Int32} {r0 : Int32} {M' : Nat → Nat → Int32}  (hf : fM_fault M x1 = some (r0, M')) : MT l D ca ad yX6_fault cX6_fault 2 (some .int) 10 225 [.ref (ad (14, 0, 0)), .int x1] (Cc, Bb, M) (some (.int r0)) (Cc, Bb, M') := by
  refine met_J (lv := [(0, .ref (ad (14, 0, 0))), (1, .int x1)]) hi (by decide +kernel) (Nat.le_of_ble_eq_true rfl) rfl (fun p e s m below meth c C0 hr => ?_)
  unfold fM_fault at hf
  refine j_iload_n C0 dX6_fault_0 rfl 1 rfl ?_
  refine j_iconst (v := 0) C0 dX6_fault_1 rfl ?_
  refine j_iconst (v := 2) C0 dX6_fault_2 rfl ?_
  obtain ⟨q1, hcq1, hf⟩ := bd_some hf
  refine j_callS (As := [.int x1, .int (0 : Int32), .int (2 : Int32)]) (rest := []) (stk := [.int q1]) (G2 := (Cc, Bb, M)) C0 (c_X6_in hi (G0 := (Cc, Bb, M))  hcq1) kw_X6_36 bi_X6_in rfl ⟨by decide, by decide⟩ ⟨Nat.zero_le _, Nat.zero_le _⟩ rfl rfl (Nat.le_of_ble_eq_true rfl) rfl rfl dX6_fault_3 ?_
  refine j_if_ne (tgt := 12) C0 dX6_fault_6 (by decide) (fun c2 => ?_) (fun c2 => ?_)
  · have hf := if_f c2 hf
    refine j_aload_n C0 dX6_fault_12 rfl 0 rfl ?_
    obtain ⟨q3, hcq3, hf⟩ := bd_some hf
    refine j_callV (As := []) (rest := []) (stk := []) (G2 := (Cc, Bb, q3)) C0 (c_X6_putAside hi (Cc := Cc) (Bb := Bb)  hcq3) kw_X6_181 bi_X6_putAside bx_X6_putAside id_c14 oc_14 rfl ⟨by decide, by decide⟩ ⟨Nat.zero_le _, Nat.zero_le _⟩ rfl rfl (Nat.le_of_ble_eq_true rfl) rfl rfl dX6_fault_13 ?_
    refine j_aload_n C0 dX6_fault_16 rfl 0 rfl ?_
    obtain ⟨q4, hcq4, hf⟩ := bd_some hf
    refine j_callV (As := []) (rest := []) (stk := []) (G2 := (Cc, Bb, q4)) C0 (c_X6_doOrders hi (Cc := Cc) (Bb := Bb)  hcq4) kw_X6_247 bi_X6_doOrders bx_X6_doOrders id_c14 oc_14 rfl ⟨by decide, by decide⟩ ⟨Nat.zero_le _, Nat.zero_le _⟩ rfl rfl (Nat.le_of_ble_eq_true rfl) rfl rfl dX6_fault_17 ?_
    refine j_aload_n C0 dX6_fault_20 rfl 0 rfl ?_
    obtain ⟨q5, hcq5, hf⟩ := bd_some hf
    refine j_callV (As := []) (rest := []) (stk := []) (G2 := (Cc, Bb, q5)) C0 (c_X6_putBack hi (Cc := Cc) (Bb := Bb)  hcq5) kw_X6_184 bi_X6_putBack bx_X6_putBack id_c14 oc_14 rfl ⟨by decide, by decide⟩ ⟨Nat.zero_le _, Nat.zero_le _⟩ rfl rfl (Nat.le_of_ble_eq_true rfl) rfl rfl dX6_fault_21 ?_
    refine j_aload_n C0 dX6_fault_24 rfl 0 rfl ?_
    refine j_geti (x := (q5 8 3)) C0 fl_X6_232 sl_6_11 id_c14 rfl dX6_fault_25 ?_
    refine j_ldc (v := -1000004) C0 dX6_fault_28 cw_X6_174 ?_
    refine j_icmp_ne (tgt := 38) C0 dX6_fault_30 (by decide) (fun c6 => ?_) (fun c6 => ?_)
    · have hf := if_f c6 hf
      refine j_iload_n C0 dX6_fault_38 rfl 1 rfl ?_
      refine j_if_ne (tgt := 49) C0 dX6_fault_39 (by decide) (fun c7 => ?_) (fun c7 => ?_)
      · have hf := if_f c7 hf
        refine j_iload_n C0 dX6_fault_49 rfl 1 rfl ?_
        refine j_iconst (v := 1) C0 dX6_fault_50 rfl ?_
        refine j_icmp_ne (tgt := 61) C0 dX6_fault_51 (by decide) (fun c8 => ?_) (fun c8 => ?_)
        · have hf := if_f c8 hf
          refine j_aload_n C0 dX6_fault_61 rfl 0 rfl ?_
          refine j_geti (x := (q5 8 5)) C0 fl_X6_244 sl_6_13 id_c14 rfl dX6_fault_62 ?_
          exact j_iret C0 hr dX6_fault_65 (pr1 hf) (congrArg (fun z => (Cc, Bb, z)) (pr2 hf))
        have hf := if_t c8 hf
        refine j_aload_n C0 dX6_fault_54 rfl 0 rfl ?_
        refine j_geti (x := (q5 8 4)) C0 fl_X6_241 sl_6_12 id_c14 rfl dX6_fault_55 ?_
        refine j_goto (tgt := 65) C0 dX6_fault_58 (by decide) ?_
        exact j_iret C0 hr dX6_fault_65 (pr1 hf) (congrArg (fun z => (Cc, Bb, z)) (pr2 hf))
      have hf := if_t c7 hf
      refine j_aload_n C0 dX6_fault_42 rfl 0 rfl ?_
      refine j_geti (x := (q5 8 3)) C0 fl_X6_232 sl_6_11 id_c14 rfl dX6_fault_43 ?_
      refine j_goto (tgt := 65) C0 dX6_fault_46 (by decide) ?_
      exact j_iret C0 hr dX6_fault_65 (pr1 hf) (congrArg (fun z => (Cc, Bb, z)) (pr2 hf))
    have hf := if_t c6 hf
    refine j_ldc (v := -1000004) C0 dX6_fault_33 cw_X6_174 ?_
    refine j_goto (tgt := 65) C0 dX6_fault_35 (by decide) ?_
    exact j_iret C0 hr dX6_fault_65 (pr1 hf) (congrArg (fun z => (Cc, Bb, z)) (pr2 hf))
  have hf := if_t c2 hf
  refine j_ldc (v := -1000001) C0 dX6_fault_9 cw_X6_35 ?_
  exact j_iret C0 hr dX6_fault_11 (pr1 hf) (congrArg (fun z => (Cc, Bb, z)) (pr2 hf))

set_option maxHeartbeats 4000000 in
set_option maxRecDepth 100000 in
theorem c_X6_play {l : Launch} {D : va_G} {ca : Nat → ClassId} {ad : I3 → Nat} (hi : adI ad) {Cc : Nat → Nat → Int32} {Bb : Nat → Fin 9} {M : Nat → Nat → Int32} {r0 : Int32} {M' : Nat → Nat → Int32}  (hf : fM_play M = some (r0, M')) : MT l D ca ad yX6_play cX6_play 2 (some .int) 10 225 [.ref (ad (14, 0, 0))] (Cc, Bb, M) (some (.int r0)) (Cc, Bb, M') := by
  refine met_J (lv := [(0, .ref (ad (14, 0, 0)))]) hi (by decide +kernel) (Nat.le_of_ble_eq_true rfl) rfl (fun p e s m below meth c C0 hr => ?_)
  have L19 : ∀ (n : Nat) (M : Nat → Nat → Int32) (y1 : Int32), fM_play_L19 n M y1 = some (r0, M') → J D ca ad p l e ({ frames := 10, cells := 0, slots := 0, locals := 225 }) s m [.ref (ad (14, 0, 0))].toArray below meth c 0 0 (MQ below (post D ca ad (some (.int r0)) (Cc, Bb, M')) [.ref (ad (14, 0, 0))].toArray s 0 0 (adA ad)) 2 (Cc, Bb, M) 19 [(0, .ref (ad (14, 0, 0))), (1, .int y1)] [] := by
    intro n
    induction n with
    | zero =>
      intro M y1 hf
      exact (none_ne hf).elim
    | succ n ih =>
      intro M y1 hf
      rw [fM_play_L19] at hf
      refine j_iload_n C0 dX6_play_19 rfl 1 rfl ?_
      refine j_bipush (v := 120) C0 dX6_play_20 rfl ?_
      refine j_icmp_ge (tgt := 43) C0 dX6_play_22 (by decide) (fun c5 => ?_) (fun c5 => ?_)
      · have hf := if_t c5 hf
        refine j_ldc (v := -1000002) C0 dX6_play_43 cw_X6_128 ?_
        exact j_iret C0 hr dX6_play_45 (pr1 hf) (congrArg (fun z => (Cc, Bb, z)) (pr2 hf))
      have hf := if_f c5 hf
      refine j_aload_n C0 dX6_play_25 rfl 0 rfl ?_
      refine j_getr (id2 := (15, 0, 0)) C0 fl_X6_7 rl_6_0 id_c14 dX6_play_26 ?_
      refine j_iload_n C0 dX6_play_29 rfl 1 rfl ?_
      refine j_aload_n C0 dX6_play_30 rfl 0 rfl ?_
      refine j_getr (id2 := (15, 1, 0)) C0 fl_X6_13 rl_6_1 id_c14 dX6_play_31 ?_
      refine j_iload_n C0 dX6_play_34 rfl 1 rfl ?_
      obtain ⟨h6, hf⟩ := gd_some hf
      refine j_iald (x := (M 1 (y1.toNatClampNeg))) C0 al_15_1 rfl id_m1 h6 (by rw [Nat.zero_add]; rfl) dX6_play_35 ?_
      obtain ⟨h7, hf⟩ := gd_some hf
      obtain ⟨M8, e9, hf⟩ := lt_some hf
      refine j_iast (G' := (Cc, Bb, M8)) C0 al_15_0 rfl id_m0 h7 (by rw [Nat.zero_add]; exact (eM_set e9)) dX6_play_36 ?_
      refine j_iinc (v := (y1 + 1)) (lv' := [(1, .int (y1 + 1)), (0, .ref (ad (14, 0, 0)))]) C0 dX6_play_37 1 rfl rfl (by decide) rfl ?_
      refine j_goto (tgt := 19) C0 dX6_play_40 (by decide) ?_
      exact j_sub [1, 0] rfl (ih M8 (y1 + 1) hf)
  unfold fM_play at hf
  refine j_aload_n C0 dX6_play_0 rfl 0 rfl ?_
  obtain ⟨q1, hcq1, hf⟩ := bd_some hf
  refine j_callV (As := []) (rest := []) (stk := []) (G2 := (Cc, Bb, q1)) C0 (c_X6_note hi (Cc := Cc) (Bb := Bb)  hcq1) kw_X6_143 bi_X6_note bx_X6_note id_c14 oc_14 rfl ⟨by decide, by decide⟩ ⟨Nat.zero_le _, Nat.zero_le _⟩ rfl rfl (Nat.le_of_ble_eq_true rfl) rfl rfl dX6_play_1 ?_
  refine j_aload_n C0 dX6_play_4 rfl 0 rfl ?_
  obtain ⟨q2, hcq2, hf⟩ := bd_some hf
  refine j_callV (As := []) (rest := []) (stk := []) (G2 := (Cc, Bb, q2)) C0 (c_X6_doOrders hi (Cc := Cc) (Bb := Bb)  hcq2) kw_X6_247 bi_X6_doOrders bx_X6_doOrders id_c14 oc_14 rfl ⟨by decide, by decide⟩ ⟨Nat.zero_le _, Nat.zero_le _⟩ rfl rfl (Nat.le_of_ble_eq_true rfl) rfl rfl dX6_play_5 ?_
  refine j_aload_n C0 dX6_play_8 rfl 0 rfl ?_
  refine j_geti (x := (q2 8 3)) C0 fl_X6_232 sl_6_11 id_c14 rfl dX6_play_9 ?_
  refine j_ldc (v := -1000004) C0 dX6_play_12 cw_X6_174 ?_
  refine j_icmp_eq (tgt := 46) C0 dX6_play_14 (by decide) (fun c3 => ?_) (fun c3 => ?_)
  · have hf := if_t c3 hf
    refine j_aload_n C0 dX6_play_46 rfl 0 rfl ?_
    refine j_aload_n C0 dX6_play_47 rfl 0 rfl ?_
    refine j_geti (x := (q2 8 6)) C0 fl_X6_229 sl_6_14 id_c14 rfl dX6_play_48 ?_
    obtain ⟨q4, hcq4, hf⟩ := bd_some hf
    refine j_callV (As := [.int (q2 8 6)]) (rest := []) (stk := [.int q4.1]) (G2 := (Cc, Bb, q4.2)) C0 (c_X6_recorded hi (Cc := Cc) (Bb := Bb)  hcq4) kw_X6_150 bi_X6_recorded bx_X6_recorded id_c14 oc_14 rfl ⟨by decide, by decide⟩ ⟨Nat.zero_le _, Nat.zero_le _⟩ rfl rfl (Nat.le_of_ble_eq_true rfl) rfl rfl dX6_play_51 ?_
    exact j_iret C0 hr dX6_play_54 (pr1 hf) (congrArg (fun z => (Cc, Bb, z)) (pr2 hf))
  have hf := if_f c3 hf
  refine j_iconst (v := 0) C0 dX6_play_17 rfl ?_
  refine j_istore_n (lv' := [(1, .int (0 : Int32)), (0, .ref (ad (14, 0, 0)))]) C0 dX6_play_18 rfl (by decide) rfl ?_
  exact j_sub [1, 0] rfl (L19 fuel q2 (0 : Int32) hf)

