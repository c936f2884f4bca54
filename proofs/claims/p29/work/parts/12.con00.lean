set_option maxHeartbeats 4000000 in
set_option maxRecDepth 100000 in
theorem c_X1_copyFrom {l : Launch} {D : va_G} {ca : Nat → ClassId} {ad : I3 → Nat} (hi : adI ad) {R0 : (Nat → Fin 9) × (Nat → Nat → Int32)} {C : Nat → Nat → Int32} {ja : Nat} {qa : Nat} {jb : Nat} {qb : Nat} {C' : Nat → Nat → Int32} (hja : ja < 9) (hjb : jb < 9) (hqa : qa < 5) (hqb : qb < 5) (hf : fK_copyFrom C ja qa jb qb = some (C')) : MT l D ca ad yX1_copyFrom cX1_copyFrom 2 none 0 0 [.ref (ad (3, ja, qa)), .ref (ad (3, jb, qb))] (C, R0) none (C', R0) := by
  refine met_J (lv := [(0, .ref (ad (3, ja, qa))), (1, .ref (ad (3, jb, qb)))]) hi (by decide +kernel) (Nat.le_of_ble_eq_true rfl) rfl (fun p e s m below meth c C0 hr => ?_)
  unfold fK_copyFrom at hf
  refine j_aload_n C0 dX1_copyFrom_0 rfl 0 rfl ?_
  refine j_aload_n C0 dX1_copyFrom_1 rfl 1 rfl ?_
  refine j_geti (x := (C jb (KI qb 0))) C0 fl_X1_15 (sl_1_1 hjb hqb) (ia hi (id_3 hjb hqb)) rfl dX1_copyFrom_2 ?_
  obtain ⟨C1, e2, hf⟩ := lt_some hf
  refine j_puti (G' := (C1, R0)) C0 fl_X1_15 pw_1_1 (sl_1_1 hja hqa) (ia hi (id_3 hja hqa)) rfl rfl (eC_set e2) dX1_copyFrom_5 ?_
  refine j_aload_n C0 dX1_copyFrom_8 rfl 0 rfl ?_
  refine j_aload_n C0 dX1_copyFrom_9 rfl 1 rfl ?_
  refine j_geti (x := (C1 jb (KI qb 1))) C0 fl_X1_18 (sl_1_2 hjb hqb) (ia hi (id_3 hjb hqb)) rfl dX1_copyFrom_10 ?_
  obtain ⟨C3, e4, hf⟩ := lt_some hf
  refine j_puti (G' := (C3, R0)) C0 fl_X1_18 pw_1_2 (sl_1_2 hja hqa) (ia hi (id_3 hja hqa)) rfl rfl (eC_set e4) dX1_copyFrom_13 ?_
  refine j_aload_n C0 dX1_copyFrom_16 rfl 0 rfl ?_
  refine j_aload_n C0 dX1_copyFrom_17 rfl 1 rfl ?_
  refine j_geti (x := (C3 jb (KI qb 2))) C0 fl_X1_21 (sl_1_3 hjb hqb) (ia hi (id_3 hjb hqb)) rfl dX1_copyFrom_18 ?_
  obtain ⟨C5, e6, hf⟩ := lt_some hf
  refine j_puti (G' := (C5, R0)) C0 fl_X1_21 pw_1_3 (sl_1_3 hja hqa) (ia hi (id_3 hja hqa)) rfl rfl (eC_set e6) dX1_copyFrom_21 ?_
  refine j_aload_n C0 dX1_copyFrom_24 rfl 0 rfl ?_
  refine j_aload_n C0 dX1_copyFrom_25 rfl 1 rfl ?_
  refine j_geti (x := (C5 jb (KI qb 5))) C0 fl_X1_24 (sl_1_4 hjb hqb) (ia hi (id_3 hjb hqb)) rfl dX1_copyFrom_26 ?_
  obtain ⟨C7, e8, hf⟩ := lt_some hf
  refine j_puti (G' := (C7, R0)) C0 fl_X1_24 pw_1_4 (sl_1_4 hja hqa) (ia hi (id_3 hja hqa)) rfl rfl (eC_set e8) dX1_copyFrom_29 ?_
  refine j_aload_n C0 dX1_copyFrom_32 rfl 0 rfl ?_
  refine j_aload_n C0 dX1_copyFrom_33 rfl 1 rfl ?_
  refine j_geti (x := (C7 jb (KI qb 3))) C0 fl_X1_27 (sl_1_5 hjb hqb) (ia hi (id_3 hjb hqb)) rfl dX1_copyFrom_34 ?_
  obtain ⟨C9, e10, hf⟩ := lt_some hf
  refine j_puti (G' := (C9, R0)) C0 fl_X1_27 pw_1_5 (sl_1_5 hja hqa) (ia hi (id_3 hja hqa)) rfl rfl (eC_set e10) dX1_copyFrom_37 ?_
  refine j_aload_n C0 dX1_copyFrom_40 rfl 0 rfl ?_
  refine j_aload_n C0 dX1_copyFrom_41 rfl 1 rfl ?_
  refine j_geti (x := (C9 jb (KI qb 4))) C0 fl_X1_30 (sl_1_6 hjb hqb) (ia hi (id_3 hjb hqb)) rfl dX1_copyFrom_42 ?_
  obtain ⟨C11, e12, hf⟩ := lt_some hf
  refine j_puti (G' := (C11, R0)) C0 fl_X1_30 pw_1_6 (sl_1_6 hja hqa) (ia hi (id_3 hja hqa)) rfl rfl (eC_set e12) dX1_copyFrom_45 ?_
  refine j_aload_n C0 dX1_copyFrom_48 rfl 0 rfl ?_
  refine j_aload_n C0 dX1_copyFrom_49 rfl 1 rfl ?_
  refine j_geti (x := (C11 jb (KI qb 6))) C0 fl_X1_33 (sl_1_7 hjb hqb) (ia hi (id_3 hjb hqb)) rfl dX1_copyFrom_50 ?_
  obtain ⟨C13, e14, hf⟩ := lt_some hf
  refine j_puti (G' := (C13, R0)) C0 fl_X1_33 pw_1_7 (sl_1_7 hja hqa) (ia hi (id_3 hja hqa)) rfl rfl (eC_set e14) dX1_copyFrom_53 ?_
  refine j_aload_n C0 dX1_copyFrom_56 rfl 0 rfl ?_
  refine j_aload_n C0 dX1_copyFrom_57 rfl 1 rfl ?_
  refine j_geti (x := (C13 jb (KI qb 7))) C0 fl_X1_36 (sl_1_8 hjb hqb) (ia hi (id_3 hjb hqb)) rfl dX1_copyFrom_58 ?_
  obtain ⟨C15, e16, hf⟩ := lt_some hf
  refine j_puti (G' := (C15, R0)) C0 fl_X1_36 pw_1_8 (sl_1_8 hja hqa) (ia hi (id_3 hja hqa)) rfl rfl (eC_set e16) dX1_copyFrom_61 ?_
  refine j_aload_n C0 dX1_copyFrom_64 rfl 0 rfl ?_
  refine j_aload_n C0 dX1_copyFrom_65 rfl 1 rfl ?_
  refine j_geti (x := (C15 jb (KI qb 12))) C0 fl_X1_39 (sl_1_9 hjb hqb) (ia hi (id_3 hjb hqb)) rfl dX1_copyFrom_66 ?_
  obtain ⟨C17, e18, hf⟩ := lt_some hf
  refine j_puti (G' := (C17, R0)) C0 fl_X1_39 pw_1_9 (sl_1_9 hja hqa) (ia hi (id_3 hja hqa)) rfl rfl (eC_set e18) dX1_copyFrom_69 ?_
  refine j_aload_n C0 dX1_copyFrom_72 rfl 0 rfl ?_
  refine j_aload_n C0 dX1_copyFrom_73 rfl 1 rfl ?_
  refine j_geti (x := (C17 jb (KI qb 8))) C0 fl_X1_42 (sl_1_10 hjb hqb) (ia hi (id_3 hjb hqb)) rfl dX1_copyFrom_74 ?_
  obtain ⟨C19, e20, hf⟩ := lt_some hf
  refine j_puti (G' := (C19, R0)) C0 fl_X1_42 pw_1_10 (sl_1_10 hja hqa) (ia hi (id_3 hja hqa)) rfl rfl (eC_set e20) dX1_copyFrom_77 ?_
  refine j_aload_n C0 dX1_copyFrom_80 rfl 0 rfl ?_
  refine j_aload_n C0 dX1_copyFrom_81 rfl 1 rfl ?_
  refine j_geti (x := (C19 jb (KI qb 9))) C0 fl_X1_45 (sl_1_11 hjb hqb) (ia hi (id_3 hjb hqb)) rfl dX1_copyFrom_82 ?_
  obtain ⟨C21, e22, hf⟩ := lt_some hf
  refine j_puti (G' := (C21, R0)) C0 fl_X1_45 pw_1_11 (sl_1_11 hja hqa) (ia hi (id_3 hja hqa)) rfl rfl (eC_set e22) dX1_copyFrom_85 ?_
  refine j_aload_n C0 dX1_copyFrom_88 rfl 0 rfl ?_
  refine j_aload_n C0 dX1_copyFrom_89 rfl 1 rfl ?_
  refine j_geti (x := (C21 jb (KI qb 10))) C0 fl_X1_48 (sl_1_12 hjb hqb) (ia hi (id_3 hjb hqb)) rfl dX1_copyFrom_90 ?_
  obtain ⟨C23, e24, hf⟩ := lt_some hf
  refine j_puti (G' := (C23, R0)) C0 fl_X1_48 pw_1_12 (sl_1_12 hja hqa) (ia hi (id_3 hja hqa)) rfl rfl (eC_set e24) dX1_copyFrom_93 ?_
  refine j_aload_n C0 dX1_copyFrom_96 rfl 0 rfl ?_
  refine j_aload_n C0 dX1_copyFrom_97 rfl 1 rfl ?_
  refine j_geti (x := (C23 jb (KI qb 11))) C0 fl_X1_51 (sl_1_13 hjb hqb) (ia hi (id_3 hjb hqb)) rfl dX1_copyFrom_98 ?_
  obtain ⟨C25, e26, hf⟩ := lt_some hf
  refine j_puti (G' := (C25, R0)) C0 fl_X1_51 pw_1_13 (sl_1_13 hja hqa) (ia hi (id_3 hja hqa)) rfl rfl (eC_set e26) dX1_copyFrom_101 ?_
  refine j_aload_n C0 dX1_copyFrom_104 rfl 0 rfl ?_
  refine j_aload_n C0 dX1_copyFrom_105 rfl 1 rfl ?_
  refine j_geti (x := (C25 jb (KI qb 13))) C0 fl_X1_54 (sl_1_14 hjb hqb) (ia hi (id_3 hjb hqb)) rfl dX1_copyFrom_106 ?_
  obtain ⟨C27, e28, hf⟩ := lt_some hf
  refine j_puti (G' := (C27, R0)) C0 fl_X1_54 pw_1_14 (sl_1_14 hja hqa) (ia hi (id_3 hja hqa)) rfl rfl (eC_set e28) dX1_copyFrom_109 ?_
  refine j_aload_n C0 dX1_copyFrom_112 rfl 0 rfl ?_
  refine j_aload_n C0 dX1_copyFrom_113 rfl 1 rfl ?_
  refine j_geti (x := (C27 jb (KI qb 14))) C0 fl_X1_57 (sl_1_15 hjb hqb) (ia hi (id_3 hjb hqb)) rfl dX1_copyFrom_114 ?_
  obtain ⟨C29, e30, hf⟩ := lt_some hf
  refine j_puti (G' := (C29, R0)) C0 fl_X1_57 pw_1_15 (sl_1_15 hja hqa) (ia hi (id_3 hja hqa)) rfl rfl (eC_set e30) dX1_copyFrom_117 ?_
  exact j_vret C0 hr dX1_copyFrom_120 (congrArg (fun z => (z, R0)) (so hf))

set_option maxHeartbeats 4000000 in
set_option maxRecDepth 100000 in
theorem c_X2_copyFrom {l : Launch} {D : va_G} {ca : Nat → ClassId} {ad : I3 → Nat} (hi : adI ad) {R0 : (Nat → Fin 9) × (Nat → Nat → Int32)} {C : Nat → Nat → Int32} {ja : Nat} {jb : Nat} {C' : Nat → Nat → Int32} (hja : ja < 9) (hjb : jb < 9) (hf : fE_copyFrom C ja jb = some (C')) : MT l D ca ad yX2_copyFrom cX2_copyFrom 2 none 0 0 [.ref (ad (4, ja, 0)), .ref (ad (4, jb, 0))] (C, R0) none (C', R0) := by
  refine met_J (lv := [(0, .ref (ad (4, ja, 0))), (1, .ref (ad (4, jb, 0)))]) hi (by decide +kernel) (Nat.le_of_ble_eq_true rfl) rfl (fun p e s m below meth c C0 hr => ?_)
  unfold fE_copyFrom at hf
  refine j_aload_n C0 dX2_copyFrom_0 rfl 0 rfl ?_
  refine j_aload_n C0 dX2_copyFrom_1 rfl 1 rfl ?_
  refine j_geti (x := (C jb 0)) C0 fl_X2_7 (sl_2_0 hjb) (ia hi (id_4 hjb)) rfl dX2_copyFrom_2 ?_
  obtain ⟨C1, e2, hf⟩ := lt_some hf
  refine j_puti (G' := (C1, R0)) C0 fl_X2_7 pw_2_0 (sl_2_0 hja) (ia hi (id_4 hja)) rfl rfl (eC_set e2) dX2_copyFrom_5 ?_
  refine j_aload_n C0 dX2_copyFrom_8 rfl 0 rfl ?_
  refine j_aload_n C0 dX2_copyFrom_9 rfl 1 rfl ?_
  refine j_geti (x := (C1 jb 1)) C0 fl_X2_13 (sl_2_1 hjb) (ia hi (id_4 hjb)) rfl dX2_copyFrom_10 ?_
  obtain ⟨C3, e4, hf⟩ := lt_some hf
  refine j_puti (G' := (C3, R0)) C0 fl_X2_13 pw_2_1 (sl_2_1 hja) (ia hi (id_4 hja)) rfl rfl (eC_set e4) dX2_copyFrom_13 ?_
  refine j_aload_n C0 dX2_copyFrom_16 rfl 0 rfl ?_
  refine j_aload_n C0 dX2_copyFrom_17 rfl 1 rfl ?_
  refine j_geti (x := (C3 jb 2)) C0 fl_X2_16 (sl_2_2 hjb) (ia hi (id_4 hjb)) rfl dX2_copyFrom_18 ?_
  obtain ⟨C5, e6, hf⟩ := lt_some hf
  refine j_puti (G' := (C5, R0)) C0 fl_X2_16 pw_2_2 (sl_2_2 hja) (ia hi (id_4 hja)) rfl rfl (eC_set e6) dX2_copyFrom_21 ?_
  refine j_aload_n C0 dX2_copyFrom_24 rfl 0 rfl ?_
  refine j_aload_n C0 dX2_copyFrom_25 rfl 1 rfl ?_
  refine j_geti (x := (C5 jb 3)) C0 fl_X2_19 (sl_2_3 hjb) (ia hi (id_4 hjb)) rfl dX2_copyFrom_26 ?_
  obtain ⟨C7, e8, hf⟩ := lt_some hf
  refine j_puti (G' := (C7, R0)) C0 fl_X2_19 pw_2_3 (sl_2_3 hja) (ia hi (id_4 hja)) rfl rfl (eC_set e8) dX2_copyFrom_29 ?_
  refine j_aload_n C0 dX2_copyFrom_32 rfl 0 rfl ?_
  refine j_aload_n C0 dX2_copyFrom_33 rfl 1 rfl ?_
  refine j_geti (x := (C7 jb 4)) C0 fl_X2_22 (sl_2_4 hjb) (ia hi (id_4 hjb)) rfl dX2_copyFrom_34 ?_
  obtain ⟨C9, e10, hf⟩ := lt_some hf
  refine j_puti (G' := (C9, R0)) C0 fl_X2_22 pw_2_4 (sl_2_4 hja) (ia hi (id_4 hja)) rfl rfl (eC_set e10) dX2_copyFrom_37 ?_
  refine j_aload_n C0 dX2_copyFrom_40 rfl 0 rfl ?_
  refine j_aload_n C0 dX2_copyFrom_41 rfl 1 rfl ?_
  refine j_geti (x := (C9 jb 5)) C0 fl_X2_25 (sl_2_5 hjb) (ia hi (id_4 hjb)) rfl dX2_copyFrom_42 ?_
  obtain ⟨C11, e12, hf⟩ := lt_some hf
  refine j_puti (G' := (C11, R0)) C0 fl_X2_25 pw_2_5 (sl_2_5 hja) (ia hi (id_4 hja)) rfl rfl (eC_set e12) dX2_copyFrom_45 ?_
  exact j_vret C0 hr dX2_copyFrom_48 (congrArg (fun z => (z, R0)) (so hf))

set_option maxHeartbeats 4000000 in
set_option maxRecDepth 100000 in
theorem c_X5_copy {l : Launch} {D : va_G} {ca : Nat → ClassId} {ad : I3 → Nat} (hi : adI ad) {R0 : (Nat → Fin 9) × (Nat → Nat → Int32)} {C : Nat → Nat → Int32} {n1 : Nat} {a1 : Nat} {o1 : Nat} {n2 : Nat} {a2 : Nat} {o2 : Nat} {C' : Nat → Nat → Int32} {id1 id2 : I3} (al1 : AL ca ad id1 0 n1 false a1 o1) (hid1 : id1 ∈ idA ad) (al2 : AL ca ad id2 0 n2 false a2 o2) (hid2 : id2 ∈ idA ad) (hf : fX_copy C n1 a1 o1 n2 a2 o2 = some (C')) : MT l D ca ad yX5_copy cX5_copy 3 none 0 0 [.ref (ad id1), .ref (ad id2)] (C, R0) none (C', R0) := by
  refine met_J (lv := [(0, .ref (ad id1)), (1, .ref (ad id2))]) hi (by decide +kernel) (Nat.le_of_ble_eq_true rfl) rfl (fun p e s m below meth c C0 hr => ?_)
  have L2 : ∀ (n : Nat) (C : Nat → Nat → Int32) (y2 : Int32), fX_copy_L2 n1 a1 o1 n2 a2 o2 n C y2 = some (C') → J D ca ad p l e ({ frames := 0, cells := 0, slots := 0, locals := 0 }) s m [.ref (ad id1), .ref (ad id2)].toArray below meth c 0 0 (MQ below (post D ca ad none (C', R0)) [.ref (ad id1), .ref (ad id2)].toArray s 0 0 (adA ad)) 3 (C, R0) 2 [(0, .ref (ad id1)), (1, .ref (ad id2)), (2, .int y2)] [] := by
    intro n
    induction n with
    | zero =>
      intro C y2 hf
      exact (none_ne hf).elim
    | succ n ih =>
      intro C y2 hf
      rw [fX_copy_L2] at hf
      refine j_iload_n C0 dX5_copy_2 rfl 2 rfl ?_
      refine j_aload_n C0 dX5_copy_3 rfl 0 rfl ?_
      refine j_alen (v := (Int32.ofNat n1)) C0 al1 rfl hid1 rfl dX5_copy_4 ?_
      refine j_icmp_ge (tgt := 26) C0 dX5_copy_5 (by decide) (fun c1 => ?_) (fun c1 => ?_)
      · have hf := if_t c1 hf
        exact j_vret C0 hr dX5_copy_26 (congrArg (fun z => (z, R0)) (so hf))
      have hf := if_f c1 hf
      refine j_iload_n C0 dX5_copy_8 rfl 2 rfl ?_
      refine j_aload_n C0 dX5_copy_9 rfl 1 rfl ?_
      refine j_alen (v := (Int32.ofNat n2)) C0 al2 rfl hid2 rfl dX5_copy_10 ?_
      refine j_icmp_ge (tgt := 26) C0 dX5_copy_11 (by decide) (fun c2 => ?_) (fun c2 => ?_)
      · have hf := if_t c2 hf
        exact j_vret C0 hr dX5_copy_26 (congrArg (fun z => (z, R0)) (so hf))
      have hf := if_f c2 hf
      refine j_aload_n C0 dX5_copy_14 rfl 1 rfl ?_
      refine j_iload_n C0 dX5_copy_15 rfl 2 rfl ?_
      refine j_aload_n C0 dX5_copy_16 rfl 0 rfl ?_
      refine j_iload_n C0 dX5_copy_17 rfl 2 rfl ?_
      obtain ⟨h3, hf⟩ := gd_some hf
      refine j_iald (x := (C a1 (o1 + y2.toNatClampNeg))) C0 al1 rfl hid1 h3 rfl dX5_copy_18 ?_
      obtain ⟨h4, hf⟩ := gd_some hf
      obtain ⟨C5, e6, hf⟩ := lt_some hf
      refine j_iast (G' := (C5, R0)) C0 al2 rfl hid2 h4 (eC_set e6) dX5_copy_19 ?_
      refine j_iinc (v := (y2 + 1)) (lv' := [(2, .int (y2 + 1)), (0, .ref (ad id1)), (1, .ref (ad id2))]) C0 dX5_copy_20 2 rfl rfl (by decide) rfl ?_
      refine j_goto (tgt := 2) C0 dX5_copy_23 (by decide) ?_
      exact j_sub [1, 2, 0] rfl (ih C5 (y2 + 1) hf)
  unfold fX_copy at hf
  refine j_iconst (v := 0) C0 dX5_copy_0 rfl ?_
  refine j_istore_n (lv' := [(2, .int (0 : Int32)), (0, .ref (ad id1)), (1, .ref (ad id2))]) C0 dX5_copy_1 rfl (by decide) rfl ?_
  exact j_sub [1, 2, 0] rfl (L2 fuel C (0 : Int32) hf)

set_option maxHeartbeats 4000000 in
set_option maxRecDepth 100000 in
theorem c_X0_copyFrom {l : Launch} {D : va_G} {ca : Nat → ClassId} {ad : I3 → Nat} (hi : adI ad) {R0 : (Nat → Fin 9) × (Nat → Nat → Int32)} {C : Nat → Nat → Int32} {ja : Nat} {jb : Nat} {C' : Nat → Nat → Int32} (hja : ja < 9) (hjb : jb < 9) (hf : fB_copyFrom C ja jb = some (C')) : MT l D ca ad yX0_copyFrom cX0_copyFrom 2 none 1 22 [.ref (ad (5, ja, 0)), .ref (ad (5, jb, 0))] (C, R0) none (C', R0) := by
  refine met_J (lv := [(0, .ref (ad (5, ja, 0))), (1, .ref (ad (5, jb, 0)))]) hi (by decide +kernel) (Nat.le_of_ble_eq_true rfl) rfl (fun p e s m below meth c C0 hr => ?_)
  unfold fB_copyFrom at hf
  refine j_aload_n C0 dX0_copyFrom_0 rfl 1 rfl ?_
  refine j_getr (id2 := (6, jb, 0)) C0 fl_X0_9 rl_0_0 (ia hi (id_5 hjb)) dX0_copyFrom_1 ?_
  refine j_aload_n C0 dX0_copyFrom_4 rfl 0 rfl ?_
  refine j_getr (id2 := (6, ja, 0)) C0 fl_X0_9 rl_0_0 (ia hi (id_5 hja)) dX0_copyFrom_5 ?_
  obtain ⟨q1, hcq1, hf⟩ := bd_some hf
  refine j_callSN (As := [.ref (ad (6, jb, 0)), .ref (ad (6, ja, 0))]) (rest := []) (stk := []) (G2 := (q1, R0)) C0 (c_X5_copy hi  (al_6 hjb) (ia hi (id_6 hjb)) (al_6 hja) (ia hi (id_6 hja)) hcq1) kw_X0_18 bi_X5_copy rfl ⟨by decide, by decide⟩ ⟨Nat.zero_le _, Nat.zero_le _⟩ rfl rfl (Nat.le_of_ble_eq_true rfl) rfl rfl dX0_copyFrom_8 ?_
  refine j_aload_n C0 dX0_copyFrom_11 rfl 1 rfl ?_
  refine j_getr (id2 := (7, jb, 0)) C0 fl_X0_15 rl_0_1 (ia hi (id_5 hjb)) dX0_copyFrom_12 ?_
  refine j_aload_n C0 dX0_copyFrom_15 rfl 0 rfl ?_
  refine j_getr (id2 := (7, ja, 0)) C0 fl_X0_15 rl_0_1 (ia hi (id_5 hja)) dX0_copyFrom_16 ?_
  obtain ⟨q2, hcq2, hf⟩ := bd_some hf
  refine j_callSN (As := [.ref (ad (7, jb, 0)), .ref (ad (7, ja, 0))]) (rest := []) (stk := []) (G2 := (q2, R0)) C0 (c_X5_copy hi  (al_7 hjb) (ia hi (id_7 hjb)) (al_7 hja) (ia hi (id_7 hja)) hcq2) kw_X0_18 bi_X5_copy rfl ⟨by decide, by decide⟩ ⟨Nat.zero_le _, Nat.zero_le _⟩ rfl rfl (Nat.le_of_ble_eq_true rfl) rfl rfl dX0_copyFrom_19 ?_
  refine j_aload_n C0 dX0_copyFrom_22 rfl 0 rfl ?_
  refine j_aload_n C0 dX0_copyFrom_23 rfl 1 rfl ?_
  refine j_geti (x := (q2 jb 14)) C0 fl_X0_22 (sl_0_2 hjb) (ia hi (id_5 hjb)) rfl dX0_copyFrom_24 ?_
  obtain ⟨C3, e4, hf⟩ := lt_some hf
  refine j_puti (G' := (C3, R0)) C0 fl_X0_22 pw_0_2 (sl_0_2 hja) (ia hi (id_5 hja)) rfl rfl (eC_set e4) dX0_copyFrom_27 ?_
  refine j_aload_n C0 dX0_copyFrom_30 rfl 0 rfl ?_
  refine j_aload_n C0 dX0_copyFrom_31 rfl 1 rfl ?_
  refine j_geti (x := (C3 jb 15)) C0 fl_X0_26 (sl_0_3 hjb) (ia hi (id_5 hjb)) rfl dX0_copyFrom_32 ?_
  obtain ⟨C5, e6, hf⟩ := lt_some hf
  refine j_puti (G' := (C5, R0)) C0 fl_X0_26 pw_0_3 (sl_0_3 hja) (ia hi (id_5 hja)) rfl rfl (eC_set e6) dX0_copyFrom_35 ?_
  exact j_vret C0 hr dX0_copyFrom_38 (congrArg (fun z => (z, R0)) (so hf))

set_option maxHeartbeats 4000000 in
set_option maxRecDepth 100000 in
theorem c_X3_copyFrom {l : Launch} {D : va_G} {ca : Nat → ClassId} {ad : I3 → Nat} (hi : adI ad) {R0 : (Nat → Fin 9) × (Nat → Nat → Int32)} {C : Nat → Nat → Int32} {ja : Nat} {jb : Nat} {C' : Nat → Nat → Int32} (hja : ja < 9) (hjb : jb < 9) (hf : fS_copyFrom C ja jb = some (C')) : MT l D ca ad yX3_copyFrom cX3_copyFrom 3 none 2 43 [.ref (ad (1, ja, 0)), .ref (ad (1, jb, 0))] (C, R0) none (C', R0) := by
  refine met_J (lv := [(0, .ref (ad (1, ja, 0))), (1, .ref (ad (1, jb, 0)))]) hi (by decide +kernel) (Nat.le_of_ble_eq_true rfl) rfl (fun p e s m below meth c C0 hr => ?_)
  have L2 : ∀ (n : Nat) (C : Nat → Nat → Int32) (y2 : Int32), fS_copyFrom_L2 ja jb n C y2 = some (C') → J D ca ad p l e ({ frames := 2, cells := 0, slots := 0, locals := 43 }) s m [.ref (ad (1, ja, 0)), .ref (ad (1, jb, 0))].toArray below meth c 0 0 (MQ below (post D ca ad none (C', R0)) [.ref (ad (1, ja, 0)), .ref (ad (1, jb, 0))].toArray s 0 0 (adA ad)) 3 (C, R0) 2 [(0, .ref (ad (1, ja, 0))), (1, .ref (ad (1, jb, 0))), (2, .int y2)] [] := by
    intro n
    induction n with
    | zero =>
      intro C y2 hf
      exact (none_ne hf).elim
    | succ n ih =>
      intro C y2 hf
      rw [fS_copyFrom_L2] at hf
      refine j_iload_n C0 dX3_copyFrom_2 rfl 2 rfl ?_
      refine j_aload_n C0 dX3_copyFrom_3 rfl 0 rfl ?_
      refine j_getr (id2 := (2, ja, 0)) C0 fl_X3_11 rl_3_0 (ia hi (id_1 hja)) dX3_copyFrom_4 ?_
      refine j_alenq (t0 := 3) (n0 := 5) (f := fun i => ad (3, ja, i)) (v := (5 : Int32)) C0 rfl rfl (ia hi (id_2 hja)) rfl dX3_copyFrom_7 ?_
      refine j_icmp_ge (tgt := 41) C0 dX3_copyFrom_8 (by decide) (fun c1 => ?_) (fun c1 => ?_)
      · have hf := if_t c1 hf
        refine j_aload_n C0 dX3_copyFrom_41 rfl 0 rfl ?_
        refine j_getr (id2 := (4, ja, 0)) C0 fl_X3_20 rl_3_1 (ia hi (id_1 hja)) dX3_copyFrom_42 ?_
        refine j_aload_n C0 dX3_copyFrom_45 rfl 1 rfl ?_
        refine j_getr (id2 := (4, jb, 0)) C0 fl_X3_20 rl_3_1 (ia hi (id_1 hjb)) dX3_copyFrom_46 ?_
        obtain ⟨q2, hcq2, hf⟩ := bd_some hf
        refine j_callV (As := [.ref (ad (4, jb, 0))]) (rest := []) (stk := []) (G2 := (q2, R0)) C0 (c_X2_copyFrom hi (R0 := R0) hja hjb hcq2) kw_X3_42 bi_X2_copyFrom bx_X2_copyFrom (ia hi (id_4 hja)) oc_4 rfl ⟨by decide, by decide⟩ ⟨Nat.zero_le _, Nat.zero_le _⟩ rfl rfl (Nat.le_of_ble_eq_true rfl) rfl rfl dX3_copyFrom_49 ?_
        refine j_aload_n C0 dX3_copyFrom_52 rfl 0 rfl ?_
        refine j_getr (id2 := (5, ja, 0)) C0 fl_X3_27 rl_3_2 (ia hi (id_1 hja)) dX3_copyFrom_53 ?_
        refine j_aload_n C0 dX3_copyFrom_56 rfl 1 rfl ?_
        refine j_getr (id2 := (5, jb, 0)) C0 fl_X3_27 rl_3_2 (ia hi (id_1 hjb)) dX3_copyFrom_57 ?_
        obtain ⟨q3, hcq3, hf⟩ := bd_some hf
        refine j_callV (As := [.ref (ad (5, jb, 0))]) (rest := []) (stk := []) (G2 := (q3, R0)) C0 (c_X0_copyFrom hi (R0 := R0) hja hjb hcq3) kw_X3_45 bi_X0_copyFrom bx_X0_copyFrom (ia hi (id_5 hja)) oc_5 rfl ⟨by decide, by decide⟩ ⟨Nat.zero_le _, Nat.zero_le _⟩ rfl rfl (Nat.le_of_ble_eq_true rfl) rfl rfl dX3_copyFrom_60 ?_
        refine j_aload_n C0 dX3_copyFrom_63 rfl 0 rfl ?_
        refine j_aload_n C0 dX3_copyFrom_64 rfl 1 rfl ?_
        refine j_geti (x := (q3 jb 19)) C0 fl_X3_48 (sl_3_3 hjb) (ia hi (id_1 hjb)) rfl dX3_copyFrom_65 ?_
        obtain ⟨C4, e5, hf⟩ := lt_some hf
        refine j_puti (G' := (C4, R0)) C0 fl_X3_48 pw_3_3 (sl_3_3 hja) (ia hi (id_1 hja)) rfl rfl (eC_set e5) dX3_copyFrom_68 ?_
        refine j_aload_n C0 dX3_copyFrom_71 rfl 0 rfl ?_
        refine j_aload_n C0 dX3_copyFrom_72 rfl 1 rfl ?_
        refine j_geti (x := (C4 jb 6)) C0 fl_X3_51 (sl_3_4 hjb) (ia hi (id_1 hjb)) rfl dX3_copyFrom_73 ?_
        obtain ⟨C6, e7, hf⟩ := lt_some hf
        refine j_puti (G' := (C6, R0)) C0 fl_X3_51 pw_3_4 (sl_3_4 hja) (ia hi (id_1 hja)) rfl rfl (eC_set e7) dX3_copyFrom_76 ?_
        refine j_aload_n C0 dX3_copyFrom_79 rfl 0 rfl ?_
        refine j_aload_n C0 dX3_copyFrom_80 rfl 1 rfl ?_
        refine j_geti (x := (C6 jb 7)) C0 fl_X3_31 (sl_3_5 hjb) (ia hi (id_1 hjb)) rfl dX3_copyFrom_81 ?_
        obtain ⟨C8, e9, hf⟩ := lt_some hf
        refine j_puti (G' := (C8, R0)) C0 fl_X3_31 pw_3_5 (sl_3_5 hja) (ia hi (id_1 hja)) rfl rfl (eC_set e9) dX3_copyFrom_84 ?_
        refine j_aload_n C0 dX3_copyFrom_87 rfl 0 rfl ?_
        refine j_aload_n C0 dX3_copyFrom_88 rfl 1 rfl ?_
        refine j_geti (x := (C8 jb 8)) C0 fl_X3_54 (sl_3_6 hjb) (ia hi (id_1 hjb)) rfl dX3_copyFrom_89 ?_
        obtain ⟨C10, e11, hf⟩ := lt_some hf
        refine j_puti (G' := (C10, R0)) C0 fl_X3_54 pw_3_6 (sl_3_6 hja) (ia hi (id_1 hja)) rfl rfl (eC_set e11) dX3_copyFrom_92 ?_
        refine j_aload_n C0 dX3_copyFrom_95 rfl 0 rfl ?_
        refine j_aload_n C0 dX3_copyFrom_96 rfl 1 rfl ?_
        refine j_geti (x := (C10 jb 9)) C0 fl_X3_57 (sl_3_7 hjb) (ia hi (id_1 hjb)) rfl dX3_copyFrom_97 ?_
        obtain ⟨C12, e13, hf⟩ := lt_some hf
        refine j_puti (G' := (C12, R0)) C0 fl_X3_57 pw_3_7 (sl_3_7 hja) (ia hi (id_1 hja)) rfl rfl (eC_set e13) dX3_copyFrom_100 ?_
        refine j_aload_n C0 dX3_copyFrom_103 rfl 0 rfl ?_
        refine j_aload_n C0 dX3_copyFrom_104 rfl 1 rfl ?_
        refine j_geti (x := (C12 jb 10)) C0 fl_X3_60 (sl_3_8 hjb) (ia hi (id_1 hjb)) rfl dX3_copyFrom_105 ?_
        obtain ⟨C14, e15, hf⟩ := lt_some hf
        refine j_puti (G' := (C14, R0)) C0 fl_X3_60 pw_3_8 (sl_3_8 hja) (ia hi (id_1 hja)) rfl rfl (eC_set e15) dX3_copyFrom_108 ?_
        refine j_aload_n C0 dX3_copyFrom_111 rfl 0 rfl ?_
        refine j_aload_n C0 dX3_copyFrom_112 rfl 1 rfl ?_
        refine j_geti (x := (C14 jb 18)) C0 fl_X3_63 (sl_3_9 hjb) (ia hi (id_1 hjb)) rfl dX3_copyFrom_113 ?_
        obtain ⟨C16, e17, hf⟩ := lt_some hf
        refine j_puti (G' := (C16, R0)) C0 fl_X3_63 pw_3_9 (sl_3_9 hja) (ia hi (id_1 hja)) rfl rfl (eC_set e17) dX3_copyFrom_116 ?_
        refine j_aload_n C0 dX3_copyFrom_119 rfl 0 rfl ?_
        refine j_aload_n C0 dX3_copyFrom_120 rfl 1 rfl ?_
        refine j_geti (x := (C16 jb 11)) C0 fl_X3_66 (sl_3_10 hjb) (ia hi (id_1 hjb)) rfl dX3_copyFrom_121 ?_
        obtain ⟨C18, e19, hf⟩ := lt_some hf
        refine j_puti (G' := (C18, R0)) C0 fl_X3_66 pw_3_10 (sl_3_10 hja) (ia hi (id_1 hja)) rfl rfl (eC_set e19) dX3_copyFrom_124 ?_
        refine j_aload_n C0 dX3_copyFrom_127 rfl 0 rfl ?_
        refine j_aload_n C0 dX3_copyFrom_128 rfl 1 rfl ?_
        refine j_geti (x := (C18 jb 12)) C0 fl_X3_69 (sl_3_11 hjb) (ia hi (id_1 hjb)) rfl dX3_copyFrom_129 ?_
        obtain ⟨C20, e21, hf⟩ := lt_some hf
        refine j_puti (G' := (C20, R0)) C0 fl_X3_69 pw_3_11 (sl_3_11 hja) (ia hi (id_1 hja)) rfl rfl (eC_set e21) dX3_copyFrom_132 ?_
        refine j_aload_n C0 dX3_copyFrom_135 rfl 0 rfl ?_
        refine j_aload_n C0 dX3_copyFrom_136 rfl 1 rfl ?_
        refine j_geti (x := (C20 jb 13)) C0 fl_X3_72 (sl_3_12 hjb) (ia hi (id_1 hjb)) rfl dX3_copyFrom_137 ?_
        obtain ⟨C22, e23, hf⟩ := lt_some hf
        refine j_puti (G' := (C22, R0)) C0 fl_X3_72 pw_3_12 (sl_3_12 hja) (ia hi (id_1 hja)) rfl rfl (eC_set e23) dX3_copyFrom_140 ?_
        exact j_vret C0 hr dX3_copyFrom_143 (congrArg (fun z => (z, R0)) (so hf))
      have hf := if_f c1 hf
      refine j_iload_n C0 dX3_copyFrom_11 rfl 2 rfl ?_
      refine j_aload_n C0 dX3_copyFrom_12 rfl 1 rfl ?_
      refine j_getr (id2 := (2, jb, 0)) C0 fl_X3_11 rl_3_0 (ia hi (id_1 hjb)) dX3_copyFrom_13 ?_
      refine j_alenq (t0 := 3) (n0 := 5) (f := fun i => ad (3, jb, i)) (v := (5 : Int32)) C0 rfl rfl (ia hi (id_2 hjb)) rfl dX3_copyFrom_16 ?_
      refine j_icmp_ge (tgt := 41) C0 dX3_copyFrom_17 (by decide) (fun c24 => ?_) (fun c24 => ?_)
      · have hf := if_t c24 hf
        refine j_aload_n C0 dX3_copyFrom_41 rfl 0 rfl ?_
        refine j_getr (id2 := (4, ja, 0)) C0 fl_X3_20 rl_3_1 (ia hi (id_1 hja)) dX3_copyFrom_42 ?_
        refine j_aload_n C0 dX3_copyFrom_45 rfl 1 rfl ?_
        refine j_getr (id2 := (4, jb, 0)) C0 fl_X3_20 rl_3_1 (ia hi (id_1 hjb)) dX3_copyFrom_46 ?_
        obtain ⟨q25, hcq25, hf⟩ := bd_some hf
        refine j_callV (As := [.ref (ad (4, jb, 0))]) (rest := []) (stk := []) (G2 := (q25, R0)) C0 (c_X2_copyFrom hi (R0 := R0) hja hjb hcq25) kw_X3_42 bi_X2_copyFrom bx_X2_copyFrom (ia hi (id_4 hja)) oc_4 rfl ⟨by decide, by decide⟩ ⟨Nat.zero_le _, Nat.zero_le _⟩ rfl rfl (Nat.le_of_ble_eq_true rfl) rfl rfl dX3_copyFrom_49 ?_
        refine j_aload_n C0 dX3_copyFrom_52 rfl 0 rfl ?_
        refine j_getr (id2 := (5, ja, 0)) C0 fl_X3_27 rl_3_2 (ia hi (id_1 hja)) dX3_copyFrom_53 ?_
        refine j_aload_n C0 dX3_copyFrom_56 rfl 1 rfl ?_
        refine j_getr (id2 := (5, jb, 0)) C0 fl_X3_27 rl_3_2 (ia hi (id_1 hjb)) dX3_copyFrom_57 ?_
        obtain ⟨q26, hcq26, hf⟩ := bd_some hf
        refine j_callV (As := [.ref (ad (5, jb, 0))]) (rest := []) (stk := []) (G2 := (q26, R0)) C0 (c_X0_copyFrom hi (R0 := R0) hja hjb hcq26) kw_X3_45 bi_X0_copyFrom bx_X0_copyFrom (ia hi (id_5 hja)) oc_5 rfl ⟨by decide, by decide⟩ ⟨Nat.zero_le _, Nat.zero_le _⟩ rfl rfl (Nat.le_of_ble_eq_true rfl) rfl rfl dX3_copyFrom_60 ?_
        refine j_aload_n C0 dX3_copyFrom_63 rfl 0 rfl ?_
        refine j_aload_n C0 dX3_copyFrom_64 rfl 1 rfl ?_
        refine j_geti (x := (q26 jb 19)) C0 fl_X3_48 (sl_3_3 hjb) (ia hi (id_1 hjb)) rfl dX3_copyFrom_65 ?_
        obtain ⟨C27, e28, hf⟩ := lt_some hf
        refine j_puti (G' := (C27, R0)) C0 fl_X3_48 pw_3_3 (sl_3_3 hja) (ia hi (id_1 hja)) rfl rfl (eC_set e28) dX3_copyFrom_68 ?_
        refine j_aload_n C0 dX3_copyFrom_71 rfl 0 rfl ?_
        refine j_aload_n C0 dX3_copyFrom_72 rfl 1 rfl ?_
        refine j_geti (x := (C27 jb 6)) C0 fl_X3_51 (sl_3_4 hjb) (ia hi (id_1 hjb)) rfl dX3_copyFrom_73 ?_
        obtain ⟨C29, e30, hf⟩ := lt_some hf
        refine j_puti (G' := (C29, R0)) C0 fl_X3_51 pw_3_4 (sl_3_4 hja) (ia hi (id_1 hja)) rfl rfl (eC_set e30) dX3_copyFrom_76 ?_
        refine j_aload_n C0 dX3_copyFrom_79 rfl 0 rfl ?_
        refine j_aload_n C0 dX3_copyFrom_80 rfl 1 rfl ?_
        refine j_geti (x := (C29 jb 7)) C0 fl_X3_31 (sl_3_5 hjb) (ia hi (id_1 hjb)) rfl dX3_copyFrom_81 ?_
        obtain ⟨C31, e32, hf⟩ := lt_some hf
        refine j_puti (G' := (C31, R0)) C0 fl_X3_31 pw_3_5 (sl_3_5 hja) (ia hi (id_1 hja)) rfl rfl (eC_set e32) dX3_copyFrom_84 ?_
        refine j_aload_n C0 dX3_copyFrom_87 rfl 0 rfl ?_
        refine j_aload_n C0 dX3_copyFrom_88 rfl 1 rfl ?_
        refine j_geti (x := (C31 jb 8)) C0 fl_X3_54 (sl_3_6 hjb) (ia hi (id_1 hjb)) rfl dX3_copyFrom_89 ?_
        obtain ⟨C33, e34, hf⟩ := lt_some hf
        refine j_puti (G' := (C33, R0)) C0 fl_X3_54 pw_3_6 (sl_3_6 hja) (ia hi (id_1 hja)) rfl rfl (eC_set e34) dX3_copyFrom_92 ?_
        refine j_aload_n C0 dX3_copyFrom_95 rfl 0 rfl ?_
        refine j_aload_n C0 dX3_copyFrom_96 rfl 1 rfl ?_
        refine j_geti (x := (C33 jb 9)) C0 fl_X3_57 (sl_3_7 hjb) (ia hi (id_1 hjb)) rfl dX3_copyFrom_97 ?_
        obtain ⟨C35, e36, hf⟩ := lt_some hf
        refine j_puti (G' := (C35, R0)) C0 fl_X3_57 pw_3_7 (sl_3_7 hja) (ia hi (id_1 hja)) rfl rfl (eC_set e36) dX3_copyFrom_100 ?_
        refine j_aload_n C0 dX3_copyFrom_103 rfl 0 rfl ?_
        refine j_aload_n C0 dX3_copyFrom_104 rfl 1 rfl ?_
        refine j_geti (x := (C35 jb 10)) C0 fl_X3_60 (sl_3_8 hjb) (ia hi (id_1 hjb)) rfl dX3_copyFrom_105 ?_
        obtain ⟨C37, e38, hf⟩ := lt_some hf
        refine j_puti (G' := (C37, R0)) C0 fl_X3_60 pw_3_8 (sl_3_8 hja) (ia hi (id_1 hja)) rfl rfl (eC_set e38) dX3_copyFrom_108 ?_
        refine j_aload_n C0 dX3_copyFrom_111 rfl 0 rfl ?_
        refine j_aload_n C0 dX3_copyFrom_112 rfl 1 rfl ?_
        refine j_geti (x := (C37 jb 18)) C0 fl_X3_63 (sl_3_9 hjb) (ia hi (id_1 hjb)) rfl dX3_copyFrom_113 ?_
        obtain ⟨C39, e40, hf⟩ := lt_some hf
        refine j_puti (G' := (C39, R0)) C0 fl_X3_63 pw_3_9 (sl_3_9 hja) (ia hi (id_1 hja)) rfl rfl (eC_set e40) dX3_copyFrom_116 ?_
        refine j_aload_n C0 dX3_copyFrom_119 rfl 0 rfl ?_
        refine j_aload_n C0 dX3_copyFrom_120 rfl 1 rfl ?_
        refine j_geti (x := (C39 jb 11)) C0 fl_X3_66 (sl_3_10 hjb) (ia hi (id_1 hjb)) rfl dX3_copyFrom_121 ?_
        obtain ⟨C41, e42, hf⟩ := lt_some hf
        refine j_puti (G' := (C41, R0)) C0 fl_X3_66 pw_3_10 (sl_3_10 hja) (ia hi (id_1 hja)) rfl rfl (eC_set e42) dX3_copyFrom_124 ?_
        refine j_aload_n C0 dX3_copyFrom_127 rfl 0 rfl ?_
        refine j_aload_n C0 dX3_copyFrom_128 rfl 1 rfl ?_
        refine j_geti (x := (C41 jb 12)) C0 fl_X3_69 (sl_3_11 hjb) (ia hi (id_1 hjb)) rfl dX3_copyFrom_129 ?_
        obtain ⟨C43, e44, hf⟩ := lt_some hf
        refine j_puti (G' := (C43, R0)) C0 fl_X3_69 pw_3_11 (sl_3_11 hja) (ia hi (id_1 hja)) rfl rfl (eC_set e44) dX3_copyFrom_132 ?_
        refine j_aload_n C0 dX3_copyFrom_135 rfl 0 rfl ?_
        refine j_aload_n C0 dX3_copyFrom_136 rfl 1 rfl ?_
        refine j_geti (x := (C43 jb 13)) C0 fl_X3_72 (sl_3_12 hjb) (ia hi (id_1 hjb)) rfl dX3_copyFrom_137 ?_
        obtain ⟨C45, e46, hf⟩ := lt_some hf
        refine j_puti (G' := (C45, R0)) C0 fl_X3_72 pw_3_12 (sl_3_12 hja) (ia hi (id_1 hja)) rfl rfl (eC_set e46) dX3_copyFrom_140 ?_
        exact j_vret C0 hr dX3_copyFrom_143 (congrArg (fun z => (z, R0)) (so hf))
      have hf := if_f c24 hf
      refine j_aload_n C0 dX3_copyFrom_20 rfl 0 rfl ?_
      refine j_getr (id2 := (2, ja, 0)) C0 fl_X3_11 rl_3_0 (ia hi (id_1 hja)) dX3_copyFrom_21 ?_
      refine j_iload_n C0 dX3_copyFrom_24 rfl 2 rfl ?_
      obtain ⟨h47, hf⟩ := gd_some hf
      refine j_aldq (t0 := 3) (n0 := 5) (f := fun i => ad (3, ja, i)) C0 rfl rfl (ia hi (id_2 hja)) h47 dX3_copyFrom_25 ?_
      refine j_aload_n C0 dX3_copyFrom_26 rfl 1 rfl ?_
      refine j_getr (id2 := (2, jb, 0)) C0 fl_X3_11 rl_3_0 (ia hi (id_1 hjb)) dX3_copyFrom_27 ?_
      refine j_iload_n C0 dX3_copyFrom_30 rfl 2 rfl ?_
      obtain ⟨h48, hf⟩ := gd_some hf
      refine j_aldq (t0 := 3) (n0 := 5) (f := fun i => ad (3, jb, i)) C0 rfl rfl (ia hi (id_2 hjb)) h48 dX3_copyFrom_31 ?_
      obtain ⟨q49, hcq49, hf⟩ := bd_some hf
      refine j_callV (As := [.ref (ad (3, jb, y2.toNatClampNeg))]) (rest := []) (stk := []) (G2 := (q49, R0)) C0 (c_X1_copyFrom hi (R0 := R0) hja hjb (inb_lt h47) (inb_lt h48) hcq49) kw_X3_38 bi_X1_copyFrom bx_X1_copyFrom (ia hi (id_3 hja (inb_lt h47))) oc_3 rfl ⟨by decide, by decide⟩ ⟨Nat.zero_le _, Nat.zero_le _⟩ rfl rfl (Nat.le_of_ble_eq_true rfl) rfl rfl dX3_copyFrom_32 ?_
      refine j_iinc (v := (y2 + 1)) (lv' := [(2, .int (y2 + 1)), (0, .ref (ad (1, ja, 0))), (1, .ref (ad (1, jb, 0)))]) C0 dX3_copyFrom_35 2 rfl rfl (by decide) rfl ?_
      refine j_goto (tgt := 2) C0 dX3_copyFrom_38 (by decide) ?_
      exact j_sub [1, 2, 0] rfl (ih q49 (y2 + 1) hf)
  unfold fS_copyFrom at hf
  refine j_iconst (v := 0) C0 dX3_copyFrom_0 rfl ?_
  refine j_istore_n (lv' := [(2, .int (0 : Int32)), (0, .ref (ad (1, ja, 0))), (1, .ref (ad (1, jb, 0)))]) C0 dX3_copyFrom_1 rfl (by decide) rfl ?_
  exact j_sub [1, 2, 0] rfl (L2 fuel C (0 : Int32) hf)

set_option maxHeartbeats 4000000 in
set_option maxRecDepth 100000 in
theorem c_J9_floorDiv_7cf53 {l : Launch} {D : va_G} {ca : Nat → ClassId} {ad : I3 → Nat} (hi : adI ad) {G0 : GS} {x1 : Int32} {x2 : Int32} {r0 : Int32}  (hf : fJ_floorDiv x1 x2 = some (r0)) : MT l D ca ad yJ9_floorDiv_7cf53 cJ9_floorDiv_7cf53 3 (some .int) 0 0 [.int x1, .int x2] G0 (some (.int r0)) G0 := by
  refine met_J (lv := [(0, .int x1), (1, .int x2)]) hi (by decide +kernel) (Nat.le_of_ble_eq_true rfl) rfl (fun p e s m below meth c C0 hr => ?_)
  unfold fJ_floorDiv at hf
  refine j_iload_n C0 dJ9_floorDiv_7cf53_0 rfl 0 rfl ?_
  refine j_iload_n C0 dJ9_floorDiv_7cf53_1 rfl 1 rfl ?_
  obtain ⟨h1, hf⟩ := gd_some hf
  refine j_idiv C0 dJ9_floorDiv_7cf53_2 h1 ?_
  refine j_istore_n (lv' := [(2, .int (x1 / x2)), (0, .int x1), (1, .int x2)]) C0 dJ9_floorDiv_7cf53_3 rfl (by decide) rfl ?_
  refine j_iload_n C0 dJ9_floorDiv_7cf53_4 rfl 1 rfl ?_
  refine j_iload_n C0 dJ9_floorDiv_7cf53_5 rfl 2 rfl ?_
  refine j_ixor C0 dJ9_floorDiv_7cf53_6 ?_
  refine j_if_ge (tgt := 21) C0 dJ9_floorDiv_7cf53_7 (by decide) (fun c2 => ?_) (fun c2 => ?_)
  · have hf := if_t c2 hf
    refine j_iload_n C0 dJ9_floorDiv_7cf53_21 rfl 0 rfl ?_
    exact j_iret C0 hr dJ9_floorDiv_7cf53_22 (so hf) rfl
  have hf := if_f c2 hf
  refine j_iload_n C0 dJ9_floorDiv_7cf53_10 rfl 0 rfl ?_
  refine j_iload_n C0 dJ9_floorDiv_7cf53_11 rfl 2 rfl ?_
  refine j_imul C0 dJ9_floorDiv_7cf53_12 ?_
  refine j_iload_n C0 dJ9_floorDiv_7cf53_13 rfl 1 rfl ?_
  refine j_icmp_eq (tgt := 21) C0 dJ9_floorDiv_7cf53_14 (by decide) (fun c3 => ?_) (fun c3 => ?_)
  · have hf := if_t c3 hf
    refine j_iload_n C0 dJ9_floorDiv_7cf53_21 rfl 0 rfl ?_
    exact j_iret C0 hr dJ9_floorDiv_7cf53_22 (so hf) rfl
  have hf := if_f c3 hf
  refine j_iload_n C0 dJ9_floorDiv_7cf53_17 rfl 0 rfl ?_
  refine j_iconst (v := 1) C0 dJ9_floorDiv_7cf53_18 rfl ?_
  refine j_isub C0 dJ9_floorDiv_7cf53_19 ?_
  exact j_iret C0 hr dJ9_floorDiv_7cf53_20 (so hf) rfl

set_option maxHeartbeats 4000000 in
set_option maxRecDepth 100000 in
theorem c_X5_quotient {l : Launch} {D : va_G} {ca : Nat → ClassId} {ad : I3 → Nat} (hi : adI ad) {G0 : GS} {x1 : Int32} {x2 : Int32} {r0 : Int32}  (hf : fX_quotient x1 x2 = some (r0)) : MT l D ca ad yX5_quotient cX5_quotient 2 (some .int) 1 22 [.int x1, .int x2] G0 (some (.int r0)) G0 := by
  refine met_J (lv := [(0, .int x1), (1, .int x2)]) hi (by decide +kernel) (Nat.le_of_ble_eq_true rfl) rfl (fun p e s m below meth c C0 hr => ?_)
  unfold fX_quotient at hf
  refine j_iload_n C0 dX5_quotient_0 rfl 1 rfl ?_
  refine j_iconst (v := 1) C0 dX5_quotient_1 rfl ?_
  refine j_icmp_ge (tgt := 9) C0 dX5_quotient_2 (by decide) (fun c1 => ?_) (fun c1 => ?_)
  · have hf := if_t c1 hf
    refine j_iload_n C0 dX5_quotient_9 rfl 0 rfl ?_
    refine j_iload_n C0 dX5_quotient_10 rfl 1 rfl ?_
    obtain ⟨q2, hcq2, hf⟩ := bd_some hf
    refine j_callS (As := [.int x1, .int x2]) (rest := []) (stk := [.int q2]) (G2 := G0) C0 (c_J9_floorDiv_7cf53 hi (G0 := G0)  hcq2) kw_X5_264 bi_J9_floorDiv_7cf53 rfl ⟨by decide, by decide⟩ ⟨Nat.zero_le _, Nat.zero_le _⟩ rfl rfl (Nat.le_of_ble_eq_true rfl) rfl rfl dX5_quotient_11 ?_
    exact j_iret C0 hr dX5_quotient_14 (so hf) rfl
  have hf := if_f c1 hf
  refine j_iconst (v := 0) C0 dX5_quotient_5 rfl ?_
  refine j_goto (tgt := 14) C0 dX5_quotient_6 (by decide) ?_
  exact j_iret C0 hr dX5_quotient_14 (so hf) rfl

set_option maxHeartbeats 4000000 in
set_option maxRecDepth 100000 in
theorem c_X3_trueHour {l : Launch} {D : va_G} {ca : Nat → ClassId} {ad : I3 → Nat} (hi : adI ad) {G0 : GS} {j : Nat} {σ : Nat → Int32} {r0 : Int32} (hj : j < 9) (hf : fS_trueHour σ = some (r0)) : MT l D ca ad yX3_trueHour cX3_trueHour 1 (some .int) 2 43 [.ref (ad (1, j, 0))] (eS G0 j σ) (some (.int r0)) (eS G0 j σ) := by
  refine met_J (lv := [(0, .ref (ad (1, j, 0)))]) hi (by decide +kernel) (Nat.le_of_ble_eq_true rfl) rfl (fun p e s m below meth c C0 hr => ?_)
  unfold fS_trueHour at hf
  refine j_aload_n C0 dX3_trueHour_0 rfl 0 rfl ?_
  refine j_geti (x := (σ 6)) C0 fl_X3_51 (sl_3_4 hj) (ia hi (id_1 hj)) eS_get dX3_trueHour_1 ?_
  refine j_aload_n C0 dX3_trueHour_4 rfl 0 rfl ?_
  refine j_getr (id2 := (4, j, 0)) C0 fl_X3_20 rl_3_1 (ia hi (id_1 hj)) dX3_trueHour_5 ?_
  refine j_geti (x := (σ 3)) C0 fl_X3_209 (sl_2_3 hj) (ia hi (id_4 hj)) eS_get dX3_trueHour_8 ?_
  obtain ⟨q1, hcq1, hf⟩ := bd_some hf
  refine j_callSN (As := [.int (σ 6), .int (σ 3)]) (rest := []) (stk := [.int q1]) (G2 := (eS G0 j σ)) C0 (c_X5_quotient hi (G0 := (eS G0 j σ))  hcq1) kw_X3_212 bi_X5_quotient rfl ⟨by decide, by decide⟩ ⟨Nat.zero_le _, Nat.zero_le _⟩ rfl rfl (Nat.le_of_ble_eq_true rfl) rfl rfl dX3_trueHour_11 ?_
  exact j_iret C0 hr dX3_trueHour_14 (so hf) rfl

set_option maxHeartbeats 4000000 in
set_option maxRecDepth 100000 in
theorem c_X1_begin {l : Launch} {D : va_G} {ca : Nat → ClassId} {ad : I3 → Nat} (hi : adI ad) {G0 : GS} {j : Nat} {σ : Nat → Int32} {k0 : Nat} {x1 : Int32} {x2 : Int32} {x3 : Int32} {x4 : Int32} {σ' : Nat → Int32} (hj : j < 9) (hk0 : k0 < 5) (hf : fK_begin σ k0 x1 x2 x3 x4 = some (σ')) : MT l D ca ad yX1_begin cX1_begin 5 none 0 0 [.ref (ad (3, j, k0)), .int x1, .int x2, .int x3, .int x4] (eS G0 j σ) none (eS G0 j σ') := by
  refine met_J (lv := [(0, .ref (ad (3, j, k0))), (1, .int x1), (2, .int x2), (3, .int x3), (4, .int x4)]) hi (by decide +kernel) (Nat.le_of_ble_eq_true rfl) rfl (fun p e s m below meth c C0 hr => ?_)
  unfold fK_begin at hf
  refine j_aload_n C0 dX1_begin_0 rfl 0 rfl ?_
  refine j_iload_n C0 dX1_begin_1 rfl 1 rfl ?_
  obtain ⟨σ1, e2, hf⟩ := lt_some hf
  refine j_puti (G' := (eS G0 j σ1)) C0 fl_X1_15 pw_1_1 (sl_1_1 hj hk0) (ia hi (id_3 hj hk0)) rfl rfl (eS_set e2) dX1_begin_2 ?_
  refine j_aload_n C0 dX1_begin_5 rfl 0 rfl ?_
  refine j_iload_n C0 dX1_begin_6 rfl 2 rfl ?_
  obtain ⟨σ3, e4, hf⟩ := lt_some hf
  refine j_puti (G' := (eS G0 j σ3)) C0 fl_X1_18 pw_1_2 (sl_1_2 hj hk0) (ia hi (id_3 hj hk0)) rfl rfl (eS_set e4) dX1_begin_7 ?_
  refine j_aload_n C0 dX1_begin_10 rfl 0 rfl ?_
  refine j_iload_n C0 dX1_begin_11 rfl 3 rfl ?_
  obtain ⟨σ5, e6, hf⟩ := lt_some hf
  refine j_puti (G' := (eS G0 j σ5)) C0 fl_X1_21 pw_1_3 (sl_1_3 hj hk0) (ia hi (id_3 hj hk0)) rfl rfl (eS_set e6) dX1_begin_12 ?_
  refine j_aload_n C0 dX1_begin_15 rfl 0 rfl ?_
  refine j_aload_n C0 dX1_begin_16 rfl 0 rfl ?_
  refine j_get C0 fl_X1_9 (ia hi (id_3 hj hk0)) ⟨_, rfl, rfl⟩ dX1_begin_17 ?_
  obtain ⟨σ7, e8, hf⟩ := lt_some hf
  refine j_puti (G' := (eS G0 j σ7)) C0 fl_X1_24 pw_1_4 (sl_1_4 hj hk0) (ia hi (id_3 hj hk0)) rfl rfl (eS_set e8) dX1_begin_20 ?_
  refine j_aload_n C0 dX1_begin_23 rfl 0 rfl ?_
  refine j_iload C0 dX1_begin_24 4 rfl ?_
  obtain ⟨σ9, e10, hf⟩ := lt_some hf
  refine j_puti (G' := (eS G0 j σ9)) C0 fl_X1_54 pw_1_14 (sl_1_14 hj hk0) (ia hi (id_3 hj hk0)) rfl rfl (eS_set e10) dX1_begin_26 ?_
  exact j_vret C0 hr dX1_begin_29 (congrArg (fun z => (eS G0 j z)) (so hf))

set_option maxHeartbeats 4000000 in
set_option maxRecDepth 100000 in
theorem c_X3_addClock {l : Launch} {D : va_G} {ca : Nat → ClassId} {ad : I3 → Nat} (hi : adI ad) {G0 : GS} {j : Nat} {σ : Nat → Int32} {x1 : Int32} {x2 : Int32} {x3 : Int32} {r0 : Int32} {σ' : Nat → Int32} (hj : j < 9) (hf : fS_addClock σ x1 x2 x3 = some (r0, σ')) : MT l D ca ad yX3_addClock cX3_addClock 4 (some .int) 3 63 [.ref (ad (1, j, 0)), .int x1, .int x2, .int x3] (eS G0 j σ) (some (.int r0)) (eS G0 j σ') := by
  refine met_J (lv := [(0, .ref (ad (1, j, 0))), (1, .int x1), (2, .int x2), (3, .int x3)]) hi (by decide +kernel) (Nat.le_of_ble_eq_true rfl) rfl (fun p e s m below meth c C0 hr => ?_)
  unfold fS_addClock at hf
  refine j_iload_n C0 dX3_addClock_0 rfl 1 rfl ?_
  refine j_if_lt (tgt := 32) C0 dX3_addClock_1 (by decide) (fun c1 => ?_) (fun c1 => ?_)
  · have hf := if_t c1 hf
    refine j_ldc (v := -1000001) C0 dX3_addClock_32 cw_X3_75 ?_
    exact j_iret C0 hr dX3_addClock_34 (pr1 hf) (congrArg (fun z => (eS G0 j z)) (pr2 hf))
  have hf := if_f c1 hf
  refine j_iload_n C0 dX3_addClock_4 rfl 1 rfl ?_
  refine j_iconst (v := 2) C0 dX3_addClock_5 rfl ?_
  refine j_icmp_gt (tgt := 32) C0 dX3_addClock_6 (by decide) (fun c2 => ?_) (fun c2 => ?_)
  · have hf := if_t c2 hf
    refine j_ldc (v := -1000001) C0 dX3_addClock_32 cw_X3_75 ?_
    exact j_iret C0 hr dX3_addClock_34 (pr1 hf) (congrArg (fun z => (eS G0 j z)) (pr2 hf))
  have hf := if_f c2 hf
  refine j_iload_n C0 dX3_addClock_9 rfl 2 rfl ?_
  refine j_iconst (v := 1) C0 dX3_addClock_10 rfl ?_
  refine j_icmp_lt (tgt := 32) C0 dX3_addClock_11 (by decide) (fun c3 => ?_) (fun c3 => ?_)
  · have hf := if_t c3 hf
    refine j_ldc (v := -1000001) C0 dX3_addClock_32 cw_X3_75 ?_
    exact j_iret C0 hr dX3_addClock_34 (pr1 hf) (congrArg (fun z => (eS G0 j z)) (pr2 hf))
  have hf := if_f c3 hf
  refine j_iload_n C0 dX3_addClock_14 rfl 2 rfl ?_
  refine j_bipush (v := 60) C0 dX3_addClock_15 rfl ?_
  refine j_icmp_gt (tgt := 32) C0 dX3_addClock_17 (by decide) (fun c4 => ?_) (fun c4 => ?_)
  · have hf := if_t c4 hf
    refine j_ldc (v := -1000001) C0 dX3_addClock_32 cw_X3_75 ?_
    exact j_iret C0 hr dX3_addClock_34 (pr1 hf) (congrArg (fun z => (eS G0 j z)) (pr2 hf))
  have hf := if_f c4 hf
  refine j_iload_n C0 dX3_addClock_20 rfl 3 rfl ?_
  refine j_iconst (v := 1) C0 dX3_addClock_21 rfl ?_
  refine j_icmp_lt (tgt := 32) C0 dX3_addClock_22 (by decide) (fun c5 => ?_) (fun c5 => ?_)
  · have hf := if_t c5 hf
    refine j_ldc (v := -1000001) C0 dX3_addClock_32 cw_X3_75 ?_
    exact j_iret C0 hr dX3_addClock_34 (pr1 hf) (congrArg (fun z => (eS G0 j z)) (pr2 hf))
  have hf := if_f c5 hf
  refine j_iload_n C0 dX3_addClock_25 rfl 3 rfl ?_
  refine j_sipush (v := 500) C0 dX3_addClock_26 rfl ?_
  refine j_icmp_le (tgt := 35) C0 dX3_addClock_29 (by decide) (fun c6 => ?_) (fun c6 => ?_)
  · have hf := if_t c6 hf
    refine j_aload_n C0 dX3_addClock_35 rfl 0 rfl ?_
    refine j_geti (x := (σ 19)) C0 fl_X3_48 (sl_3_3 hj) (ia hi (id_1 hj)) eS_get dX3_addClock_36 ?_
    refine j_if_lt (tgt := 54) C0 dX3_addClock_39 (by decide) (fun c7 => ?_) (fun c7 => ?_)
    · have hf := if_t c7 hf
      refine j_ldc (v := -1000003) C0 dX3_addClock_54 cw_X3_76 ?_
      exact j_iret C0 hr dX3_addClock_56 (pr1 hf) (congrArg (fun z => (eS G0 j z)) (pr2 hf))
    have hf := if_f c7 hf
    refine j_aload_n C0 dX3_addClock_42 rfl 0 rfl ?_
    refine j_geti (x := (σ 19)) C0 fl_X3_48 (sl_3_3 hj) (ia hi (id_1 hj)) eS_get dX3_addClock_43 ?_
    refine j_aload_n C0 dX3_addClock_46 rfl 0 rfl ?_
    refine j_getr (id2 := (2, j, 0)) C0 fl_X3_11 rl_3_0 (ia hi (id_1 hj)) dX3_addClock_47 ?_
    refine j_alenq (t0 := 3) (n0 := 5) (f := fun i => ad (3, j, i)) (v := (5 : Int32)) C0 rfl rfl (ia hi (id_2 hj)) rfl dX3_addClock_50 ?_
    refine j_icmp_lt (tgt := 57) C0 dX3_addClock_51 (by decide) (fun c8 => ?_) (fun c8 => ?_)
    · have hf := if_t c8 hf
      refine j_aload_n C0 dX3_addClock_57 rfl 0 rfl ?_
      refine j_getr (id2 := (2, j, 0)) C0 fl_X3_11 rl_3_0 (ia hi (id_1 hj)) dX3_addClock_58 ?_
      refine j_aload_n C0 dX3_addClock_61 rfl 0 rfl ?_
      refine j_geti (x := (σ 19)) C0 fl_X3_48 (sl_3_3 hj) (ia hi (id_1 hj)) eS_get dX3_addClock_62 ?_
      obtain ⟨h9, hf⟩ := gd_some hf
      refine j_aldq (t0 := 3) (n0 := 5) (f := fun i => ad (3, j, i)) C0 rfl rfl (ia hi (id_2 hj)) h9 dX3_addClock_65 ?_
      refine j_iload_n C0 dX3_addClock_66 rfl 1 rfl ?_
      refine j_iload_n C0 dX3_addClock_67 rfl 2 rfl ?_
      refine j_iload_n C0 dX3_addClock_68 rfl 3 rfl ?_
      refine j_aload_n C0 dX3_addClock_69 rfl 0 rfl ?_
      obtain ⟨q10, hcq10, hf⟩ := bd_some hf
      refine j_callV (As := []) (rest := [.int x3, .int x2, .int x1, .ref (ad (3, j, (σ 19).toNatClampNeg))]) (stk := [.int q10, .int x3, .int x2, .int x1, .ref (ad (3, j, (σ 19).toNatClampNeg))]) (G2 := (eS G0 j σ)) C0 (c_X3_trueHour hi (G0 := G0) (j := j) hj hcq10) kw_X3_77 bi_X3_trueHour bx_X3_trueHour (ia hi (id_1 hj)) oc_1 rfl ⟨by decide, by decide⟩ ⟨Nat.zero_le _, Nat.zero_le _⟩ rfl rfl (Nat.le_of_ble_eq_true rfl) rfl rfl dX3_addClock_70 ?_
      obtain ⟨q11, hcq11, hf⟩ := bd_some hf
      refine j_callV (As := [.int x1, .int x2, .int x3, .int q10]) (rest := []) (stk := []) (G2 := (eS G0 j q11)) C0 (c_X1_begin hi (G0 := G0) (j := j) hj (inb_lt h9) hcq11) kw_X3_81 bi_X1_begin bx_X1_begin (ia hi (id_3 hj (inb_lt h9))) oc_3 rfl ⟨by decide, by decide⟩ ⟨Nat.zero_le _, Nat.zero_le _⟩ rfl rfl (Nat.le_of_ble_eq_true rfl) rfl rfl dX3_addClock_73 ?_
      refine j_aload_n C0 dX3_addClock_76 rfl 0 rfl ?_
      refine j_dup C0 dX3_addClock_77 rfl ?_
      refine j_geti (x := (q11 19)) C0 fl_X3_48 (sl_3_3 hj) (ia hi (id_1 hj)) eS_get dX3_addClock_78 ?_
      refine j_iconst (v := 1) C0 dX3_addClock_81 rfl ?_
      refine j_iadd C0 dX3_addClock_82 ?_
      obtain ⟨σ12, e13, hf⟩ := lt_some hf
      refine j_puti (G' := (eS G0 j σ12)) C0 fl_X3_48 pw_3_3 (sl_3_3 hj) (ia hi (id_1 hj)) rfl rfl (eS_set e13) dX3_addClock_83 ?_
      refine j_aload_n C0 dX3_addClock_86 rfl 0 rfl ?_
      refine j_geti (x := (σ12 19)) C0 fl_X3_48 (sl_3_3 hj) (ia hi (id_1 hj)) eS_get dX3_addClock_87 ?_
      refine j_iconst (v := 1) C0 dX3_addClock_90 rfl ?_
      refine j_isub C0 dX3_addClock_91 ?_
      exact j_iret C0 hr dX3_addClock_92 (pr1 hf) (congrArg (fun z => (eS G0 j z)) (pr2 hf))
    have hf := if_f c8 hf
    refine j_ldc (v := -1000003) C0 dX3_addClock_54 cw_X3_76 ?_
    exact j_iret C0 hr dX3_addClock_56 (pr1 hf) (congrArg (fun z => (eS G0 j z)) (pr2 hf))
  have hf := if_f c6 hf
  refine j_ldc (v := -1000001) C0 dX3_addClock_32 cw_X3_75 ?_
  exact j_iret C0 hr dX3_addClock_34 (pr1 hf) (congrArg (fun z => (eS G0 j z)) (pr2 hf))

set_option maxHeartbeats 4000000 in
set_option maxRecDepth 100000 in
theorem c_X5_isErrorCode {l : Launch} {D : va_G} {ca : Nat → ClassId} {ad : I3 → Nat} (hi : adI ad) {G0 : GS} {x1 : Int32} {r0 : Int32}  (hf : fX_isErrorCode x1 = some (r0)) : MT l D ca ad yX5_isErrorCode cX5_isErrorCode 1 (some .boolean) 0 0 [.int x1] G0 (some (.int r0)) G0 := by
  refine met_J (lv := [(0, .int x1)]) hi (by decide +kernel) (Nat.le_of_ble_eq_true rfl) rfl (fun p e s m below meth c C0 hr => ?_)
  unfold fX_isErrorCode at hf
  refine j_iload_n C0 dX5_isErrorCode_0 rfl 0 rfl ?_
  refine j_ldc (v := -1000001) C0 dX5_isErrorCode_1 cw_X5_78 ?_
  refine j_icmp_gt (tgt := 16) C0 dX5_isErrorCode_3 (by decide) (fun c1 => ?_) (fun c1 => ?_)
  · have hf := if_t c1 hf
    refine j_iconst (v := 0) C0 dX5_isErrorCode_16 rfl ?_
    exact j_zret C0 hr rfl dX5_isErrorCode_17 (so hf) rfl
  have hf := if_f c1 hf
  refine j_iload_n C0 dX5_isErrorCode_6 rfl 0 rfl ?_
  refine j_ldc (v := -1000004) C0 dX5_isErrorCode_7 cw_X5_96 ?_
  refine j_icmp_lt (tgt := 16) C0 dX5_isErrorCode_9 (by decide) (fun c2 => ?_) (fun c2 => ?_)
  · have hf := if_t c2 hf
    refine j_iconst (v := 0) C0 dX5_isErrorCode_16 rfl ?_
    exact j_zret C0 hr rfl dX5_isErrorCode_17 (so hf) rfl
  have hf := if_f c2 hf
  refine j_iconst (v := 1) C0 dX5_isErrorCode_12 rfl ?_
  refine j_goto (tgt := 17) C0 dX5_isErrorCode_13 (by decide) ?_
  exact j_zret C0 hr rfl dX5_isErrorCode_17 (so hf) rfl

set_option maxHeartbeats 4000000 in
set_option maxRecDepth 100000 in
theorem c_X5_dropOldestState {l : Launch} {D : va_G} {ca : Nat → ClassId} {ad : I3 → Nat} (hi : adI ad) {M0 : Nat → Nat → Int32} {X : XS} {X' : XS}  (hf : fX_dropOldestState X = some (X')) : MT l D ca ad yX5_dropOldestState cX5_dropOldestState 3 none 0 0 [.ref (ad (0, 0, 0))] (X.1, X.2, M0) none (X'.1, X'.2, M0) := by
  refine met_J (lv := [(0, .ref (ad (0, 0, 0)))]) hi (by decide +kernel) (Nat.le_of_ble_eq_true rfl) rfl (fun p e s m below meth c C0 hr => ?_)
  have L2 : ∀ (n : Nat) (X : XS) (y1 : Int32), fX_dropOldestState_L2 n X y1 = some (X') → J D ca ad p l e ({ frames := 0, cells := 0, slots := 0, locals := 0 }) s m [.ref (ad (0, 0, 0))].toArray below meth c 0 0 (MQ below (post D ca ad none (X'.1, X'.2, M0)) [.ref (ad (0, 0, 0))].toArray s 0 0 (adA ad)) 3 (X.1, X.2, M0) 2 [(0, .ref (ad (0, 0, 0))), (1, .int y1)] [] := by
    intro n
    induction n with
    | zero =>
      intro X y1 hf
      exact (none_ne hf).elim
    | succ n ih =>
      intro X y1 hf
      rw [fX_dropOldestState_L2] at hf
      refine j_iload_n C0 dX5_dropOldestState_2 rfl 1 rfl ?_
      refine j_aload_n C0 dX5_dropOldestState_3 rfl 0 rfl ?_
      refine j_getr (id2 := (8, 0, 0)) C0 fl_X5_22 rl_5_2 (ia hi id_c0) dX5_dropOldestState_4 ?_
      refine j_alenq (t0 := 4) (n0 := 4) (f := fun i => ad (1, (X.2 (1 + i)).val, 0)) (v := (4 : Int32)) C0 rfl rfl (ia hi id_c8) rfl dX5_dropOldestState_7 ?_
      refine j_icmp_ge (tgt := 47) C0 dX5_dropOldestState_8 (by decide) (fun c1 => ?_) (fun c1 => ?_)
      · have hf := if_t c1 hf
        refine j_aload_n C0 dX5_dropOldestState_47 rfl 0 rfl ?_
        refine j_aload_n C0 dX5_dropOldestState_48 rfl 0 rfl ?_
        refine j_getr (id2 := (8, 0, 0)) C0 fl_X5_22 rl_5_2 (ia hi id_c0) dX5_dropOldestState_49 ?_
        refine j_alenq (t0 := 4) (n0 := 4) (f := fun i => ad (1, (X.2 (1 + i)).val, 0)) (v := (4 : Int32)) C0 rfl rfl (ia hi id_c8) rfl dX5_dropOldestState_52 ?_
        refine j_iconst (v := 1) C0 dX5_dropOldestState_53 rfl ?_
        refine j_isub C0 dX5_dropOldestState_54 ?_
        obtain ⟨X2, e3, hf⟩ := lt_some hf
        refine j_puti (G' := (X2.1, X2.2, M0)) C0 fl_X5_205 pw_5_7 sl_5_7 (ia hi id_c0) rfl rfl (by rw [← e3]; try rfl) dX5_dropOldestState_55 ?_
        exact j_vret C0 hr dX5_dropOldestState_58 (congrArg (fun z => (z.1, z.2, M0)) (so hf))
      have hf := if_f c1 hf
      refine j_aload_n C0 dX5_dropOldestState_11 rfl 0 rfl ?_
      refine j_getr (id2 := (8, 0, 0)) C0 fl_X5_22 rl_5_2 (ia hi id_c0) dX5_dropOldestState_12 ?_
      refine j_iload_n C0 dX5_dropOldestState_15 rfl 1 rfl ?_
      refine j_iconst (v := 1) C0 dX5_dropOldestState_16 rfl ?_
      refine j_isub C0 dX5_dropOldestState_17 ?_
      obtain ⟨h4, hf⟩ := gd_some hf
      refine j_aldq (t0 := 4) (n0 := 4) (f := fun i => ad (1, (X.2 (1 + i)).val, 0)) C0 rfl rfl (ia hi id_c8) h4 dX5_dropOldestState_18 ?_
      refine j_astore_n (lv' := [(2, .ref (ad (1, (X.2 (1 + (y1 - (1 : Int32)).toNatClampNeg)).val, 0))), (0, .ref (ad (0, 0, 0))), (1, .int y1)]) C0 dX5_dropOldestState_19 rfl (by decide) rfl ?_
      refine j_aload_n C0 dX5_dropOldestState_20 rfl 1 rfl ?_
      refine j_getr (id2 := (8, 0, 0)) C0 fl_X5_22 rl_5_2 (ia hi id_c0) dX5_dropOldestState_21 ?_
      refine j_iload_n C0 dX5_dropOldestState_24 rfl 2 rfl ?_
      refine j_iconst (v := 1) C0 dX5_dropOldestState_25 rfl ?_
      refine j_isub C0 dX5_dropOldestState_26 ?_
      refine j_aload_n C0 dX5_dropOldestState_27 rfl 1 rfl ?_
      refine j_getr (id2 := (8, 0, 0)) C0 fl_X5_22 rl_5_2 (ia hi id_c0) dX5_dropOldestState_28 ?_
      refine j_iload_n C0 dX5_dropOldestState_31 rfl 2 rfl ?_
      obtain ⟨h5, hf⟩ := gd_some hf
      refine j_aldq (t0 := 4) (n0 := 4) (f := fun i => ad (1, (X.2 (1 + i)).val, 0)) C0 rfl rfl (ia hi id_c8) h5 dX5_dropOldestState_32 ?_
      obtain ⟨h6, hf⟩ := gd_some hf
      obtain ⟨X7, e8, hf⟩ := lt_some hf
      refine j_asth (i := (y1 - (1 : Int32))) C0 h6 rfl dX5_dropOldestState_33 ?_
      refine j_G (G' := (X7.1, X7.2, M0)) (by rw [← e8]; try rfl) ?_
      refine j_aload_n C0 dX5_dropOldestState_34 rfl 1 rfl ?_
      refine j_getr (id2 := (8, 0, 0)) C0 fl_X5_22 rl_5_2 (ia hi id_c0) dX5_dropOldestState_35 ?_
      refine j_iload_n C0 dX5_dropOldestState_38 rfl 2 rfl ?_
      refine j_aload_n C0 dX5_dropOldestState_39 rfl 0 rfl ?_
      obtain ⟨h9, hf⟩ := gd_some hf
      obtain ⟨X10, e11, hf⟩ := lt_some hf
      refine j_asth (i := y1) C0 h9 rfl dX5_dropOldestState_40 ?_
      refine j_G (G' := (X10.1, X10.2, M0)) (by rw [← e11]; try rfl) ?_
      refine j_iinc (v := (y1 + 1)) (lv' := [(1, .int (y1 + 1)), (2, .ref (ad (1, (X.2 (1 + (y1 - (1 : Int32)).toNatClampNeg)).val, 0))), (0, .ref (ad (0, 0, 0)))]) C0 dX5_dropOldestState_41 2 rfl rfl (by decide) rfl ?_
      refine j_goto (tgt := 2) C0 dX5_dropOldestState_44 (by decide) ?_
      exact j_sub [2, 0] rfl (ih X10 (y1 + 1) hf)
  unfold fX_dropOldestState at hf
  refine j_iconst (v := 1) C0 dX5_dropOldestState_0 rfl ?_
  refine j_istore_n (lv' := [(1, .int (1 : Int32)), (0, .ref (ad (0, 0, 0)))]) C0 dX5_dropOldestState_1 rfl (by decide) rfl ?_
  exact j_sub [1, 0] rfl (L2 fuel X (1 : Int32) hf)

set_option maxHeartbeats 4000000 in
set_option maxRecDepth 100000 in
theorem c_X5_changed {l : Launch} {D : va_G} {ca : Nat → ClassId} {ad : I3 → Nat} (hi : adI ad) {M0 : Nat → Nat → Int32} {X : XS} {x1 : Int32} {r0 : Int32} {X' : XS}  (hf : fX_changed X x1 = some (r0, X')) : MT l D ca ad yX5_changed cX5_changed 3 (some .int) 1 22 [.ref (ad (0, 0, 0)), .int x1] (X.1, X.2, M0) (some (.int r0)) (X'.1, X'.2, M0) := by
  refine met_J (lv := [(0, .ref (ad (0, 0, 0))), (1, .int x1)]) hi (by decide +kernel) (Nat.le_of_ble_eq_true rfl) rfl (fun p e s m below meth c C0 hr => ?_)
  unfold fX_changed at hf
  refine j_iload_n C0 dX5_changed_0 rfl 1 rfl ?_
  obtain ⟨q1, hcq1, hf⟩ := bd_some hf
  refine j_callS (As := [.int x1]) (rest := []) (stk := [.int q1]) (G2 := (X.1, X.2, M0)) C0 (c_X5_isErrorCode hi (G0 := (X.1, X.2, M0))  hcq1) kw_X5_236 bi_X5_isErrorCode rfl ⟨by decide, by decide⟩ ⟨Nat.zero_le _, Nat.zero_le _⟩ rfl rfl (Nat.le_of_ble_eq_true rfl) rfl rfl dX5_changed_1 ?_
  refine j_if_eq (tgt := 9) C0 dX5_changed_4 (by decide) (fun c2 => ?_) (fun c2 => ?_)
  · have hf := if_t c2 hf
    refine j_aload_n C0 dX5_changed_9 rfl 0 rfl ?_
    refine j_geti (x := (X.1 13 0)) C0 fl_X5_205 sl_5_7 (ia hi id_c0) rfl dX5_changed_10 ?_
    refine j_aload_n C0 dX5_changed_13 rfl 0 rfl ?_
    refine j_getr (id2 := (8, 0, 0)) C0 fl_X5_22 rl_5_2 (ia hi id_c0) dX5_changed_14 ?_
    refine j_alenq (t0 := 4) (n0 := 4) (f := fun i => ad (1, (X.2 (1 + i)).val, 0)) (v := (4 : Int32)) C0 rfl rfl (ia hi id_c8) rfl dX5_changed_17 ?_
    obtain ⟨q3, hsq3, hf⟩ := bd_some hf
    have Jq3 : J D ca ad p l e ({ frames := 1, cells := 0, slots := 0, locals := 22 }) s m [.ref (ad (0, 0, 0)), .int x1].toArray below meth c 0 0 (MQ below (post D ca ad (some (.int r0)) (X'.1, X'.2, M0)) [.ref (ad (0, 0, 0)), .int x1].toArray s 0 0 (adA ad)) 3 (q3.1, q3.2, M0) 25 [(0, .ref (ad (0, 0, 0))), (1, .int x1)] [] := by
      refine j_aload_n C0 dX5_changed_25 rfl 0 rfl ?_
      refine j_geti (x := (q3.1 13 0)) C0 fl_X5_205 sl_5_7 (ia hi id_c0) rfl dX5_changed_26 ?_
      refine j_if_lt (tgt := 82) C0 dX5_changed_29 (by decide) (fun c4 => ?_) (fun c4 => ?_)
      · have hf := if_t c4 hf
        refine j_iload_n C0 dX5_changed_82 rfl 1 rfl ?_
        exact j_iret C0 hr dX5_changed_83 (pr1 hf) (congrArg (fun z => (z.1, z.2, M0)) (pr2 hf))
      have hf := if_f c4 hf
      refine j_aload_n C0 dX5_changed_32 rfl 0 rfl ?_
      refine j_geti (x := (q3.1 13 0)) C0 fl_X5_205 sl_5_7 (ia hi id_c0) rfl dX5_changed_33 ?_
      refine j_aload_n C0 dX5_changed_36 rfl 0 rfl ?_
      refine j_getr (id2 := (8, 0, 0)) C0 fl_X5_22 rl_5_2 (ia hi id_c0) dX5_changed_37 ?_
      refine j_alenq (t0 := 4) (n0 := 4) (f := fun i => ad (1, (q3.2 (1 + i)).val, 0)) (v := (4 : Int32)) C0 rfl rfl (ia hi id_c8) rfl dX5_changed_40 ?_
      refine j_icmp_ge (tgt := 82) C0 dX5_changed_41 (by decide) (fun c5 => ?_) (fun c5 => ?_)
      · have hf := if_t c5 hf
        refine j_iload_n C0 dX5_changed_82 rfl 1 rfl ?_
        exact j_iret C0 hr dX5_changed_83 (pr1 hf) (congrArg (fun z => (z.1, z.2, M0)) (pr2 hf))
      have hf := if_f c5 hf
      refine j_aload_n C0 dX5_changed_44 rfl 0 rfl ?_
      refine j_getr (id2 := (8, 0, 0)) C0 fl_X5_22 rl_5_2 (ia hi id_c0) dX5_changed_45 ?_
      refine j_aload_n C0 dX5_changed_48 rfl 0 rfl ?_
      refine j_geti (x := (q3.1 13 0)) C0 fl_X5_205 sl_5_7 (ia hi id_c0) rfl dX5_changed_49 ?_
      obtain ⟨h6, hf⟩ := gd_some hf
      refine j_aldq (t0 := 4) (n0 := 4) (f := fun i => ad (1, (q3.2 (1 + i)).val, 0)) C0 rfl rfl (ia hi id_c8) h6 dX5_changed_52 ?_
      refine j_astore_n (lv' := [(2, .ref (ad (1, (q3.2 (1 + (q3.1 13 0).toNatClampNeg)).val, 0))), (0, .ref (ad (0, 0, 0))), (1, .int x1)]) C0 dX5_changed_53 rfl (by decide) rfl ?_
      refine j_aload_n C0 dX5_changed_54 rfl 1 rfl ?_
      refine j_getr (id2 := (8, 0, 0)) C0 fl_X5_22 rl_5_2 (ia hi id_c0) dX5_changed_55 ?_
      refine j_aload_n C0 dX5_changed_58 rfl 1 rfl ?_
      refine j_geti (x := (q3.1 13 0)) C0 fl_X5_205 sl_5_7 (ia hi id_c0) rfl dX5_changed_59 ?_
      refine j_aload_n C0 dX5_changed_62 rfl 1 rfl ?_
      refine j_get C0 fl_X5_19 (ia hi id_c0) ⟨_, rfl, rfl⟩ dX5_changed_63 ?_
      obtain ⟨h7, hf⟩ := gd_some hf
      obtain ⟨X8, e9, hf⟩ := lt_some hf
      refine j_asth (i := (q3.1 13 0)) C0 h7 rfl dX5_changed_66 ?_
      refine j_G (G' := (X8.1, X8.2, M0)) (by rw [← e9]; try rfl) ?_
      refine j_aload_n C0 dX5_changed_67 rfl 1 rfl ?_
      refine j_aload_n C0 dX5_changed_68 rfl 0 rfl ?_
      obtain ⟨X10, e11, hf⟩ := lt_some hf
      refine j_putb C0 fl_X5_19 rfl rfl dX5_changed_69 ?_
      refine j_G (G' := (X10.1, X10.2, M0)) (by rw [← e11]) ?_
      refine j_aload_n C0 dX5_changed_72 rfl 1 rfl ?_
      refine j_dup C0 dX5_changed_73 rfl ?_
      refine j_geti (x := (X10.1 13 0)) C0 fl_X5_205 sl_5_7 (ia hi id_c0) rfl dX5_changed_74 ?_
      refine j_iconst (v := 1) C0 dX5_changed_77 rfl ?_
      refine j_iadd C0 dX5_changed_78 ?_
      obtain ⟨X12, e13, hf⟩ := lt_some hf
      refine j_puti (G' := (X12.1, X12.2, M0)) C0 fl_X5_205 pw_5_7 sl_5_7 (ia hi id_c0) rfl rfl (by rw [← e13]; try rfl) dX5_changed_79 ?_
      refine j_iload_n C0 dX5_changed_82 rfl 2 rfl ?_
      exact j_iret C0 hr dX5_changed_83 (pr1 hf) (congrArg (fun z => (z.1, z.2, M0)) (pr2 hf))
    refine j_icmp_lt (tgt := 25) C0 dX5_changed_18 (by decide) (fun c14 => ?_) (fun c14 => ?_)
    · have hsq3 := if_t c14 hsq3
      obtain rfl := so hsq3
      exact j_sub [0, 1] rfl Jq3
    have hsq3 := if_f c14 hsq3
    refine j_aload_n C0 dX5_changed_21 rfl 0 rfl ?_
    obtain ⟨q15, hcq15, hsq3⟩ := bd_some hsq3
    refine j_callV (As := []) (rest := []) (stk := []) (G2 := (q15.1, q15.2, M0)) C0 (c_X5_dropOldestState hi (M0 := M0)  hcq15) kw_X5_239 bi_X5_dropOldestState bx_X5_dropOldestState (ia hi id_c0) oc_0 rfl ⟨by decide, by decide⟩ ⟨Nat.zero_le _, Nat.zero_le _⟩ rfl rfl (Nat.le_of_ble_eq_true rfl) rfl rfl dX5_changed_22 ?_
    obtain rfl := so hsq3
    exact j_sub [0, 1] rfl Jq3
  have hf := if_f c2 hf
  refine j_iload_n C0 dX5_changed_7 rfl 1 rfl ?_
  exact j_iret C0 hr dX5_changed_8 (pr1 hf) (congrArg (fun z => (z.1, z.2, M0)) (pr2 hf))

set_option maxHeartbeats 4000000 in
set_option maxRecDepth 100000 in
theorem c_X5_clock {l : Launch} {D : va_G} {ca : Nat → ClassId} {ad : I3 → Nat} (hi : adI ad) {M0 : Nat → Nat → Int32} {X : XS} {x1 : Int32} {x2 : Int32} {x3 : Int32} {r0 : Int32} {X' : XS}  (hf : fX_clock X x1 x2 x3 = some (r0, X')) : MT l D ca ad yX5_clock cX5_clock 4 (some .int) 4 86 [.ref (ad (0, 0, 0)), .int x1, .int x2, .int x3] (X.1, X.2, M0) (some (.int r0)) (X'.1, X'.2, M0) := by
  refine met_J (lv := [(0, .ref (ad (0, 0, 0))), (1, .int x1), (2, .int x2), (3, .int x3)]) hi (by decide +kernel) (Nat.le_of_ble_eq_true rfl) rfl (fun p e s m below meth c C0 hr => ?_)
  unfold fX_clock at hf
  refine j_aload_n C0 dX5_clock_0 rfl 0 rfl ?_
  refine j_get C0 fl_X5_19 (ia hi id_c0) ⟨_, rfl, rfl⟩ dX5_clock_1 ?_
  refine j_aload_n C0 dX5_clock_4 rfl 0 rfl ?_
  refine j_getr (id2 := (1, 0, 0)) C0 fl_X5_10 rl_5_0 (ia hi id_c0) dX5_clock_5 ?_
  obtain ⟨q1, hcq1, hf⟩ := bd_some hf
  obtain ⟨X2, e3, hf⟩ := lt_some hf
  refine j_callV (As := [.ref (ad (1, 0, 0))]) (rest := []) (stk := []) (G2 := (X2.1, X2.2, M0)) C0 (c_X3_copyFrom hi (R0 := (X.2, M0)) (X.2 0).isLt (by decide) hcq1) kw_X5_40 bi_X3_copyFrom bx_X3_copyFrom (ia hi (id_1 (X.2 0).isLt)) oc_1 rfl ⟨by decide, by decide⟩ ⟨Nat.zero_le _, Nat.zero_le _⟩ rfl rfl (Nat.le_of_ble_eq_true rfl) rfl (by rw [← e3]; try rfl) dX5_clock_8 ?_
  refine j_aload_n C0 dX5_clock_11 rfl 0 rfl ?_
  refine j_aload_n C0 dX5_clock_12 rfl 0 rfl ?_
  refine j_getr (id2 := (1, 0, 0)) C0 fl_X5_10 rl_5_0 (ia hi id_c0) dX5_clock_13 ?_
  refine j_iload_n C0 dX5_clock_16 rfl 1 rfl ?_
  refine j_iload_n C0 dX5_clock_17 rfl 2 rfl ?_
  refine j_iload_n C0 dX5_clock_18 rfl 3 rfl ?_
  obtain ⟨q4, hcq4, hf⟩ := bd_some hf
  obtain ⟨X5, e6, hf⟩ := lt_some hf
  refine j_callV (As := [.int x1, .int x2, .int x3]) (rest := [.ref (ad (0, 0, 0))]) (stk := [.int q4.1, .ref (ad (0, 0, 0))]) (G2 := (X5.1, X5.2, M0)) C0 (c_X3_addClock hi (G0 := (X2.1, X2.2, M0)) (j := 0) (by decide) hcq4) kw_X5_44 bi_X3_addClock bx_X3_addClock (ia hi (id_1 (by decide))) oc_1 (eS_self _ _ _) ⟨by decide, by decide⟩ ⟨Nat.zero_le _, Nat.zero_le _⟩ rfl rfl (Nat.le_of_ble_eq_true rfl) rfl (by rw [← e6]; try rfl) dX5_clock_19 ?_
  obtain ⟨q7, hcq7, hf⟩ := bd_some hf
  refine j_callV (As := [.int q4.1]) (rest := []) (stk := [.int q7.1]) (G2 := (q7.2.1, q7.2.2, M0)) C0 (c_X5_changed hi (M0 := M0)  hcq7) kw_X5_48 bi_X5_changed bx_X5_changed (ia hi id_c0) oc_0 rfl ⟨by decide, by decide⟩ ⟨Nat.zero_le _, Nat.zero_le _⟩ rfl rfl (Nat.le_of_ble_eq_true rfl) rfl rfl dX5_clock_22 ?_
  exact j_iret C0 hr dX5_clock_25 (pr1 hf) (congrArg (fun z => (z.1, z.2, M0)) (pr2 hf))

set_option maxHeartbeats 4000000 in
set_option maxRecDepth 100000 in
theorem c_X3_clockAt {l : Launch} {D : va_G} {ca : Nat → ClassId} {ad : I3 → Nat} (hi : adI ad) {G0 : GS} {j : Nat} {σ : Nat → Int32} {x1 : Int32} {r0 : Option Nat} (hj : j < 9) (hf : fS_clockAt σ x1 = some (r0)) : MT l D ca ad yX3_clockAt cX3_clockAt 2 (some (.object "LeakingClocks$Clock")) 0 0 [.ref (ad (1, j, 0)), .int x1] (eS G0 j σ) (some (rv ad j r0)) (eS G0 j σ) := by
  refine met_J (lv := [(0, .ref (ad (1, j, 0))), (1, .int x1)]) hi (by decide +kernel) (Nat.le_of_ble_eq_true rfl) rfl (fun p e s m below meth c C0 hr => ?_)
  unfold fS_clockAt at hf
  refine j_iload_n C0 dX3_clockAt_0 rfl 1 rfl ?_
  refine j_if_lt (tgt := 30) C0 dX3_clockAt_1 (by decide) (fun c1 => ?_) (fun c1 => ?_)
  · have hf := if_t c1 hf
    refine j_null C0 dX3_clockAt_30 ?_
    exact j_aret C0 hr dX3_clockAt_31 (congrArg (rv ad j) (so hf)) rfl (Or.inl rfl)
  have hf := if_f c1 hf
  refine j_iload_n C0 dX3_clockAt_4 rfl 1 rfl ?_
  refine j_aload_n C0 dX3_clockAt_5 rfl 0 rfl ?_
  refine j_geti (x := (σ 19)) C0 fl_X3_48 (sl_3_3 hj) (ia hi (id_1 hj)) eS_get dX3_clockAt_6 ?_
  refine j_icmp_ge (tgt := 30) C0 dX3_clockAt_9 (by decide) (fun c2 => ?_) (fun c2 => ?_)
  · have hf := if_t c2 hf
    refine j_null C0 dX3_clockAt_30 ?_
    exact j_aret C0 hr dX3_clockAt_31 (congrArg (rv ad j) (so hf)) rfl (Or.inl rfl)
  have hf := if_f c2 hf
  refine j_iload_n C0 dX3_clockAt_12 rfl 1 rfl ?_
  refine j_aload_n C0 dX3_clockAt_13 rfl 0 rfl ?_
  refine j_getr (id2 := (2, j, 0)) C0 fl_X3_11 rl_3_0 (ia hi (id_1 hj)) dX3_clockAt_14 ?_
  refine j_alenq (t0 := 3) (n0 := 5) (f := fun i => ad (3, j, i)) (v := (5 : Int32)) C0 rfl rfl (ia hi (id_2 hj)) rfl dX3_clockAt_17 ?_
  refine j_icmp_ge (tgt := 30) C0 dX3_clockAt_18 (by decide) (fun c3 => ?_) (fun c3 => ?_)
  · have hf := if_t c3 hf
    refine j_null C0 dX3_clockAt_30 ?_
    exact j_aret C0 hr dX3_clockAt_31 (congrArg (rv ad j) (so hf)) rfl (Or.inl rfl)
  have hf := if_f c3 hf
  refine j_aload_n C0 dX3_clockAt_21 rfl 0 rfl ?_
  refine j_getr (id2 := (2, j, 0)) C0 fl_X3_11 rl_3_0 (ia hi (id_1 hj)) dX3_clockAt_22 ?_
  refine j_iload_n C0 dX3_clockAt_25 rfl 1 rfl ?_
  obtain ⟨h4, hf⟩ := gd_some hf
  refine j_aldq (t0 := 3) (n0 := 5) (f := fun i => ad (3, j, i)) C0 rfl rfl (ia hi (id_2 hj)) h4 dX3_clockAt_26 ?_
  refine j_goto (tgt := 31) C0 dX3_clockAt_27 (by decide) ?_
  exact j_aret C0 hr dX3_clockAt_31 (congrArg (rv ad j) (so hf)) rfl (Or.inr ⟨_, rfl⟩)

set_option maxHeartbeats 4000000 in
set_option maxRecDepth 100000 in
theorem c_X3_leadOn {l : Launch} {D : va_G} {ca : Nat → ClassId} {ad : I3 → Nat} (hi : adI ad) {G0 : GS} {j : Nat} {σ : Nat → Int32} {x1 : Int32} {x2 : Int32} {r0 : Int32} {σ' : Nat → Int32} (hj : j < 9) (hf : fS_leadOn σ x1 x2 = some (r0, σ')) : MT l D ca ad yX3_leadOn cX3_leadOn 5 (some .int) 1 21 [.ref (ad (1, j, 0)), .int x1, .int x2] (eS G0 j σ) (some (.int r0)) (eS G0 j σ') := by
  refine met_J (lv := [(0, .ref (ad (1, j, 0))), (1, .int x1), (2, .int x2)]) hi (by decide +kernel) (Nat.le_of_ble_eq_true rfl) rfl (fun p e s m below meth c C0 hr => ?_)
  unfold fS_leadOn at hf
  refine j_aload_n C0 dX3_leadOn_0 rfl 0 rfl ?_
  refine j_iload_n C0 dX3_leadOn_1 rfl 1 rfl ?_
  obtain ⟨q1, hcq1, hf⟩ := bd_some hf
  rcases q1 with _ | kq1
  · have hf := onN_none hf
    refine j_callV (As := [.int x1]) (rest := []) (stk := [.null]) (G2 := (eS G0 j σ)) C0 (c_X3_clockAt hi (G0 := G0) (j := j) hj hcq1) kw_X3_85 bi_X3_clockAt bx_X3_clockAt (ia hi (id_1 hj)) oc_1 rfl ⟨by decide, by decide⟩ ⟨Nat.zero_le _, Nat.zero_le _⟩ rfl rfl (Nat.le_of_ble_eq_true rfl) rfl rfl dX3_leadOn_2 ?_
    refine j_astore_nN (lv' := [(3, .null), (0, .ref (ad (1, j, 0))), (1, .int x1), (2, .int x2)]) C0 dX3_leadOn_5 rfl (by decide) rfl ?_
    refine j_aload_nN C0 dX3_leadOn_6 rfl 0 rfl ?_
    refine j_ifnullN (tgt := 23) C0 dX3_leadOn_7 (by decide) ?_
    refine j_ldc (v := -1000001) C0 dX3_leadOn_23 cw_X3_75 ?_
    exact j_iret C0 hr dX3_leadOn_25 (pr1 hf) (congrArg (fun z => (eS G0 j z)) (pr2 hf))
  have hf := onN_some hf
  have hk2 := clockAt_lt hcq1
  refine j_callV (As := [.int x1]) (rest := []) (stk := [.ref (ad (3, j, kq1))]) (G2 := (eS G0 j σ)) C0 (c_X3_clockAt hi (G0 := G0) (j := j) hj hcq1) kw_X3_85 bi_X3_clockAt bx_X3_clockAt (ia hi (id_1 hj)) oc_1 rfl ⟨by decide, by decide⟩ ⟨Nat.zero_le _, Nat.zero_le _⟩ rfl rfl (Nat.le_of_ble_eq_true rfl) rfl rfl dX3_leadOn_2 ?_
  refine j_astore_n (lv' := [(3, .ref (ad (3, j, kq1))), (0, .ref (ad (1, j, 0))), (1, .int x1), (2, .int x2)]) C0 dX3_leadOn_5 rfl (by decide) rfl ?_
  refine j_aload_n C0 dX3_leadOn_6 rfl 0 rfl ?_
  refine j_ifnull C0 dX3_leadOn_7 ?_
  refine j_aload_n C0 dX3_leadOn_10 rfl 1 rfl ?_
  refine j_iload_n C0 dX3_leadOn_11 rfl 3 rfl ?_
  obtain ⟨q3, hcq3, hf⟩ := bd_some hf
  rcases q3 with _ | kq3
  · have hf := onN_none hf
    refine j_callV (As := [.int x2]) (rest := []) (stk := [.null]) (G2 := (eS G0 j σ)) C0 (c_X3_clockAt hi (G0 := G0) (j := j) hj hcq3) kw_X3_85 bi_X3_clockAt bx_X3_clockAt (ia hi (id_1 hj)) oc_1 rfl ⟨by decide, by decide⟩ ⟨Nat.zero_le _, Nat.zero_le _⟩ rfl rfl (Nat.le_of_ble_eq_true rfl) rfl rfl dX3_leadOn_12 ?_
    refine j_ifnullN (tgt := 23) C0 dX3_leadOn_15 (by decide) ?_
    refine j_ldc (v := -1000001) C0 dX3_leadOn_23 cw_X3_75 ?_
    exact j_iret C0 hr dX3_leadOn_25 (pr1 hf) (congrArg (fun z => (eS G0 j z)) (pr2 hf))
  have hf := onN_some hf
  have hk4 := clockAt_lt hcq3
  refine j_callV (As := [.int x2]) (rest := []) (stk := [.ref (ad (3, j, kq3))]) (G2 := (eS G0 j σ)) C0 (c_X3_clockAt hi (G0 := G0) (j := j) hj hcq3) kw_X3_85 bi_X3_clockAt bx_X3_clockAt (ia hi (id_1 hj)) oc_1 rfl ⟨by decide, by decide⟩ ⟨Nat.zero_le _, Nat.zero_le _⟩ rfl rfl (Nat.le_of_ble_eq_true rfl) rfl rfl dX3_leadOn_12 ?_
  refine j_ifnull C0 dX3_leadOn_15 ?_
  refine j_iload_n C0 dX3_leadOn_18 rfl 3 rfl ?_
  refine j_iload_n C0 dX3_leadOn_19 rfl 2 rfl ?_
  refine j_icmp_ge (tgt := 26) C0 dX3_leadOn_20 (by decide) (fun c5 => ?_) (fun c5 => ?_)
  · have hf := if_t c5 hf
    refine j_aload_n C0 dX3_leadOn_26 rfl 0 rfl ?_
    refine j_geti (x := (σ (KI kq1 0))) C0 fl_X3_89 (sl_1_1 hj hk2) (ia hi (id_3 hj hk2)) eS_get dX3_leadOn_27 ?_
    refine j_iconst (v := 1) C0 dX3_leadOn_30 rfl ?_
    refine j_icmp_ne (tgt := 37) C0 dX3_leadOn_31 (by decide) (fun c6 => ?_) (fun c6 => ?_)
    · have hf := if_f c6 hf
      refine j_aload_n C0 dX3_leadOn_37 rfl 0 rfl ?_
      refine j_geti (x := (σ (KI kq1 5))) C0 fl_X3_93 (sl_1_4 hj hk2) (ia hi (id_3 hj hk2)) eS_get dX3_leadOn_38 ?_
      refine j_istore (lv' := [(4, .int (σ (KI kq1 5))), (3, .ref (ad (3, j, kq1))), (0, .ref (ad (1, j, 0))), (1, .int x1), (2, .int x2)]) C0 dX3_leadOn_41 (by decide) rfl ?_
      refine j_aload_n C0 dX3_leadOn_43 rfl 1 rfl ?_
      refine j_iload_n C0 dX3_leadOn_44 rfl 4 rfl ?_
      obtain ⟨σ7, e8, hf⟩ := lt_some hf
      refine j_puti (G' := (eS G0 j σ7)) C0 fl_X3_93 pw_1_4 (sl_1_4 hj hk2) (ia hi (id_3 hj hk2)) rfl rfl (eS_set e8) dX3_leadOn_45 ?_
      refine j_iload C0 dX3_leadOn_48 0 rfl ?_
      exact j_iret C0 hr dX3_leadOn_50 (pr1 hf) (congrArg (fun z => (eS G0 j z)) (pr2 hf))
    have hf := if_t c6 hf
    refine j_ldc (v := -1000002) C0 dX3_leadOn_34 cw_X3_92 ?_
    exact j_iret C0 hr dX3_leadOn_36 (pr1 hf) (congrArg (fun z => (eS G0 j z)) (pr2 hf))
  have hf := if_f c5 hf
  refine j_ldc (v := -1000001) C0 dX3_leadOn_23 cw_X3_75 ?_
  exact j_iret C0 hr dX3_leadOn_25 (pr1 hf) (congrArg (fun z => (eS G0 j z)) (pr2 hf))

set_option maxHeartbeats 4000000 in
set_option maxRecDepth 100000 in
theorem c_X5_lead {l : Launch} {D : va_G} {ca : Nat → ClassId} {ad : I3 → Nat} (hi : adI ad) {M0 : Nat → Nat → Int32} {X : XS} {x1 : Int32} {x2 : Int32} {r0 : Int32} {X' : XS}  (hf : fX_lead X x1 x2 = some (r0, X')) : MT l D ca ad yX5_lead cX5_lead 3 (some .int) 3 65 [.ref (ad (0, 0, 0)), .int x1, .int x2] (X.1, X.2, M0) (some (.int r0)) (X'.1, X'.2, M0) := by
  refine met_J (lv := [(0, .ref (ad (0, 0, 0))), (1, .int x1), (2, .int x2)]) hi (by decide +kernel) (Nat.le_of_ble_eq_true rfl) rfl (fun p e s m below meth c C0 hr => ?_)
  unfold fX_lead at hf
  refine j_aload_n C0 dX5_lead_0 rfl 0 rfl ?_
  refine j_get C0 fl_X5_19 (ia hi id_c0) ⟨_, rfl, rfl⟩ dX5_lead_1 ?_
  refine j_aload_n C0 dX5_lead_4 rfl 0 rfl ?_
  refine j_getr (id2 := (1, 0, 0)) C0 fl_X5_10 rl_5_0 (ia hi id_c0) dX5_lead_5 ?_
  obtain ⟨q1, hcq1, hf⟩ := bd_some hf
  obtain ⟨X2, e3, hf⟩ := lt_some hf
  refine j_callV (As := [.ref (ad (1, 0, 0))]) (rest := []) (stk := []) (G2 := (X2.1, X2.2, M0)) C0 (c_X3_copyFrom hi (R0 := (X.2, M0)) (X.2 0).isLt (by decide) hcq1) kw_X5_40 bi_X3_copyFrom bx_X3_copyFrom (ia hi (id_1 (X.2 0).isLt)) oc_1 rfl ⟨by decide, by decide⟩ ⟨Nat.zero_le _, Nat.zero_le _⟩ rfl rfl (Nat.le_of_ble_eq_true rfl) rfl (by rw [← e3]; try rfl) dX5_lead_8 ?_
  refine j_aload_n C0 dX5_lead_11 rfl 0 rfl ?_
  refine j_aload_n C0 dX5_lead_12 rfl 0 rfl ?_
  refine j_getr (id2 := (1, 0, 0)) C0 fl_X5_10 rl_5_0 (ia hi id_c0) dX5_lead_13 ?_
  refine j_iload_n C0 dX5_lead_16 rfl 1 rfl ?_
  refine j_iload_n C0 dX5_lead_17 rfl 2 rfl ?_
  obtain ⟨q4, hcq4, hf⟩ := bd_some hf
  obtain ⟨X5, e6, hf⟩ := lt_some hf
  refine j_callV (As := [.int x1, .int x2]) (rest := [.ref (ad (0, 0, 0))]) (stk := [.int q4.1, .ref (ad (0, 0, 0))]) (G2 := (X5.1, X5.2, M0)) C0 (c_X3_leadOn hi (G0 := (X2.1, X2.2, M0)) (j := 0) (by decide) hcq4) kw_X5_52 bi_X3_leadOn bx_X3_leadOn (ia hi (id_1 (by decide))) oc_1 (eS_self _ _ _) ⟨by decide, by decide⟩ ⟨Nat.zero_le _, Nat.zero_le _⟩ rfl rfl (Nat.le_of_ble_eq_true rfl) rfl (by rw [← e6]; try rfl) dX5_lead_18 ?_
  obtain ⟨q7, hcq7, hf⟩ := bd_some hf
  refine j_callV (As := [.int q4.1]) (rest := []) (stk := [.int q7.1]) (G2 := (q7.2.1, q7.2.2, M0)) C0 (c_X5_changed hi (M0 := M0)  hcq7) kw_X5_48 bi_X5_changed bx_X5_changed (ia hi id_c0) oc_0 rfl ⟨by decide, by decide⟩ ⟨Nat.zero_le _, Nat.zero_le _⟩ rfl rfl (Nat.le_of_ble_eq_true rfl) rfl rfl dX5_lead_21 ?_
  exact j_iret C0 hr dX5_lead_24 (pr1 hf) (congrArg (fun z => (z.1, z.2, M0)) (pr2 hf))

set_option maxHeartbeats 4000000 in
set_option maxRecDepth 100000 in
theorem c_X5_isJug {l : Launch} {D : va_G} {ca : Nat → ClassId} {ad : I3 → Nat} (hi : adI ad) {G0 : GS} {x1 : Int32} {r0 : Int32}  (hf : fX_isJug x1 = some (r0)) : MT l D ca ad yX5_isJug cX5_isJug 1 (some .boolean) 0 0 [.int x1] G0 (some (.int r0)) G0 := by
  refine met_J (lv := [(0, .int x1)]) hi (by decide +kernel) (Nat.le_of_ble_eq_true rfl) rfl (fun p e s m below meth c C0 hr => ?_)
  unfold fX_isJug at hf
  refine j_iload_n C0 dX5_isJug_0 rfl 0 rfl ?_
  refine j_if_lt (tgt := 16) C0 dX5_isJug_1 (by decide) (fun c1 => ?_) (fun c1 => ?_)
  · have hf := if_t c1 hf
    refine j_iconst (v := 0) C0 dX5_isJug_16 rfl ?_
    exact j_zret C0 hr rfl dX5_isJug_17 (so hf) rfl
  have hf := if_f c1 hf
  refine j_iload_n C0 dX5_isJug_4 rfl 0 rfl ?_
  refine j_gets (t := 2) C0 (by decide) fg_X5_260 dX5_isJug_5 ?_
  refine j_tlen (v := (3 : Int32)) C0 (by decide) rfl dX5_isJug_8 ?_
  refine j_icmp_ge (tgt := 16) C0 dX5_isJug_9 (by decide) (fun c2 => ?_) (fun c2 => ?_)
  · have hf := if_t c2 hf
    refine j_iconst (v := 0) C0 dX5_isJug_16 rfl ?_
    exact j_zret C0 hr rfl dX5_isJug_17 (so hf) rfl
  have hf := if_f c2 hf
  refine j_iconst (v := 1) C0 dX5_isJug_12 rfl ?_
  refine j_goto (tgt := 17) C0 dX5_isJug_13 (by decide) ?_
  exact j_zret C0 hr rfl dX5_isJug_17 (so hf) rfl

set_option maxHeartbeats 4000000 in
set_option maxRecDepth 100000 in
theorem c_X5_element_w {l : Launch} {D : va_G} {ca : Nat → ClassId} {ad : I3 → Nat} (hi : adI ad) {G0 : GS} {n : Nat} {row : Nat → Int32} {x2 : Int32} {r0 : Int32} {id : I3} {b : Bool} {a off : Nat} (al : AL ca ad id 0 n b a off) (hid : id ∈ idA ad) (hrow : ∀ q, gget G0 (b, a, off + q) = row q) (hf : fX_element n row x2 = some (r0)) : MT l D ca ad yX5_element cX5_element 2 (some .int) 0 0 [.ref (ad id), .int x2] G0 (some (.int r0)) G0 := by
  refine met_J (lv := [(0, .ref (ad id)), (1, .int x2)]) hi (by decide +kernel) (Nat.le_of_ble_eq_true rfl) rfl (fun p e s m below meth c C0 hr => ?_)
  unfold fX_element at hf
  refine j_iload_n C0 dX5_element_0 rfl 1 rfl ?_
  refine j_if_lt (tgt := 16) C0 dX5_element_1 (by decide) (fun c1 => ?_) (fun c1 => ?_)
  · have hf := if_t c1 hf
    refine j_iconst (v := 0) C0 dX5_element_16 rfl ?_
    exact j_iret C0 hr dX5_element_17 (so hf) rfl
  have hf := if_f c1 hf
  refine j_iload_n C0 dX5_element_4 rfl 1 rfl ?_
  refine j_aload_n C0 dX5_element_5 rfl 0 rfl ?_
  refine j_alen (v := (Int32.ofNat n)) C0 al rfl hid rfl dX5_element_6 ?_
  refine j_icmp_ge (tgt := 16) C0 dX5_element_7 (by decide) (fun c2 => ?_) (fun c2 => ?_)
  · have hf := if_t c2 hf
    refine j_iconst (v := 0) C0 dX5_element_16 rfl ?_
    exact j_iret C0 hr dX5_element_17 (so hf) rfl
  have hf := if_f c2 hf
  refine j_aload_n C0 dX5_element_10 rfl 0 rfl ?_
  refine j_iload_n C0 dX5_element_11 rfl 1 rfl ?_
  obtain ⟨h3, hf⟩ := gd_some hf
  refine j_iald (x := (row x2.toNatClampNeg)) C0 al rfl hid h3 (hrow _) dX5_element_12 ?_
  refine j_goto (tgt := 17) C0 dX5_element_13 (by decide) ?_
  exact j_iret C0 hr dX5_element_17 (so hf) rfl
set_option maxHeartbeats 4000000 in
set_option maxRecDepth 100000 in
theorem c_X5_element_t {l : Launch} {D : va_G} {ca : Nat → ClassId} {ad : I3 → Nat} (hi : adI ad) {G0 : GS} {x2 : Int32} {r0 : Int32} {t : Nat} (ht : t < 3) (hf : fX_element (tabN t) (tab t) x2 = some (r0)) : MT l D ca ad yX5_element cX5_element 2 (some .int) 0 0 [.ref (ad (17, t, 0)), .int x2] G0 (some (.int r0)) G0 := by
  refine met_J (lv := [(0, .ref (ad (17, t, 0))), (1, .int x2)]) hi (by decide +kernel) (Nat.le_of_ble_eq_true rfl) rfl (fun p e s m below meth c C0 hr => ?_)
  unfold fX_element at hf
  refine j_iload_n C0 dX5_element_0 rfl 1 rfl ?_
  refine j_if_lt (tgt := 16) C0 dX5_element_1 (by decide) (fun c1 => ?_) (fun c1 => ?_)
  · have hf := if_t c1 hf
    refine j_iconst (v := 0) C0 dX5_element_16 rfl ?_
    exact j_iret C0 hr dX5_element_17 (so hf) rfl
  have hf := if_f c1 hf
  refine j_iload_n C0 dX5_element_4 rfl 1 rfl ?_
  refine j_aload_n C0 dX5_element_5 rfl 0 rfl ?_
  refine j_tlen (v := (Int32.ofNat (tabN t))) C0 ht rfl dX5_element_6 ?_
  refine j_icmp_ge (tgt := 16) C0 dX5_element_7 (by decide) (fun c2 => ?_) (fun c2 => ?_)
  · have hf := if_t c2 hf
    refine j_iconst (v := 0) C0 dX5_element_16 rfl ?_
    exact j_iret C0 hr dX5_element_17 (so hf) rfl
  have hf := if_f c2 hf
  refine j_aload_n C0 dX5_element_10 rfl 0 rfl ?_
  refine j_iload_n C0 dX5_element_11 rfl 1 rfl ?_
  obtain ⟨h3, hf⟩ := gd_some hf
  refine j_ti C0 ht h3 dX5_element_12 ?_
  refine j_goto (tgt := 17) C0 dX5_element_13 (by decide) ?_
  exact j_iret C0 hr dX5_element_17 (so hf) rfl

set_option maxHeartbeats 4000000 in
set_option maxRecDepth 100000 in
theorem c_X3_roomAbove {l : Launch} {D : va_G} {ca : Nat → ClassId} {ad : I3 → Nat} (hi : adI ad) {G0 : GS} {j : Nat} {σ : Nat → Int32} {x1 : Int32} {r0 : Int32} (hj : j < 9) (hf : fS_roomAbove σ x1 = some (r0)) : MT l D ca ad yX3_roomAbove cX3_roomAbove 2 (some .int) 0 0 [.ref (ad (1, j, 0)), .int x1] (eS G0 j σ) (some (.int r0)) (eS G0 j σ) := by
  refine met_J (lv := [(0, .ref (ad (1, j, 0))), (1, .int x1)]) hi (by decide +kernel) (Nat.le_of_ble_eq_true rfl) rfl (fun p e s m below meth c C0 hr => ?_)
  unfold fS_roomAbove at hf
  refine j_iload_n C0 dX3_roomAbove_0 rfl 1 rfl ?_
  refine j_aload_n C0 dX3_roomAbove_1 rfl 0 rfl ?_
  refine j_getr (id2 := (4, j, 0)) C0 fl_X3_20 rl_3_1 (ia hi (id_1 hj)) dX3_roomAbove_2 ?_
  refine j_geti (x := (σ 0)) C0 fl_X3_200 (sl_2_0 hj) (ia hi (id_4 hj)) eS_get dX3_roomAbove_5 ?_
  refine j_icmp_ge (tgt := 23) C0 dX3_roomAbove_8 (by decide) (fun c1 => ?_) (fun c1 => ?_)
  · have hf := if_t c1 hf
    refine j_iconst (v := 0) C0 dX3_roomAbove_23 rfl ?_
    exact j_iret C0 hr dX3_roomAbove_24 (so hf) rfl
  have hf := if_f c1 hf
  refine j_aload_n C0 dX3_roomAbove_11 rfl 0 rfl ?_
  refine j_getr (id2 := (4, j, 0)) C0 fl_X3_20 rl_3_1 (ia hi (id_1 hj)) dX3_roomAbove_12 ?_
  refine j_geti (x := (σ 0)) C0 fl_X3_200 (sl_2_0 hj) (ia hi (id_4 hj)) eS_get dX3_roomAbove_15 ?_
  refine j_iload_n C0 dX3_roomAbove_18 rfl 1 rfl ?_
  refine j_isub C0 dX3_roomAbove_19 ?_
  refine j_goto (tgt := 24) C0 dX3_roomAbove_20 (by decide) ?_
  exact j_iret C0 hr dX3_roomAbove_24 (so hf) rfl

set_option maxHeartbeats 4000000 in
set_option maxRecDepth 100000 in
theorem c_X3_whyNotPoured {l : Launch} {D : va_G} {ca : Nat → ClassId} {ad : I3 → Nat} (hi : adI ad) {G0 : GS} {j : Nat} {σ : Nat → Int32} {k1 : Nat} {x2 : Int32} {r0 : Int32} (hj : j < 9) (hk1 : k1 < 5) (hf : fS_whyNotPoured σ k1 x2 = some (r0)) : MT l D ca ad yX3_whyNotPoured cX3_whyNotPoured 3 (some .int) 1 21 [.ref (ad (1, j, 0)), .ref (ad (3, j, k1)), .int x2] (eS G0 j σ) (some (.int r0)) (eS G0 j σ) := by
  refine met_J (lv := [(0, .ref (ad (1, j, 0))), (1, .ref (ad (3, j, k1))), (2, .int x2)]) hi (by decide +kernel) (Nat.le_of_ble_eq_true rfl) rfl (fun p e s m below meth c C0 hr => ?_)
  unfold fS_whyNotPoured at hf
  refine j_aload_n C0 dX3_whyNotPoured_0 rfl 0 rfl ?_
  refine j_geti (x := (σ 7)) C0 fl_X3_31 (sl_3_5 hj) (ia hi (id_1 hj)) eS_get dX3_whyNotPoured_1 ?_
  refine j_getsN (t := 2) C0 (by decide) fg_X3_104 dX3_whyNotPoured_4 ?_
  refine j_iload_n C0 dX3_whyNotPoured_7 rfl 2 rfl ?_
  obtain ⟨q1, hcq1, hf⟩ := bd_some hf
  refine j_callSN (As := [.ref (ad (17, 2, 0)), .int x2]) (rest := [.int (σ 7)]) (stk := [.int q1, .int (σ 7)]) (G2 := (eS G0 j σ)) C0 (c_X5_element_t hi (G0 := (eS G0 j σ)) (t := 2) (by decide) hcq1) kw_X3_108 bi_X5_element rfl ⟨by decide, by decide⟩ ⟨Nat.zero_le _, Nat.zero_le _⟩ rfl rfl (Nat.le_of_ble_eq_true rfl) rfl rfl dX3_whyNotPoured_8 ?_
  refine j_icmp_ge (tgt := 16) C0 dX3_whyNotPoured_11 (by decide) (fun c2 => ?_) (fun c2 => ?_)
  · have hf := if_t c2 hf
    refine j_aload_n C0 dX3_whyNotPoured_16 rfl 0 rfl ?_
    refine j_aload_n C0 dX3_whyNotPoured_17 rfl 1 rfl ?_
    refine j_geti (x := (σ (KI k1 3))) C0 fl_X3_197 (sl_1_5 hj hk1) (ia hi (id_3 hj hk1)) eS_get dX3_whyNotPoured_18 ?_
    obtain ⟨q3, hcq3, hf⟩ := bd_some hf
    refine j_callV (As := [.int (σ (KI k1 3))]) (rest := []) (stk := [.int q3]) (G2 := (eS G0 j σ)) C0 (c_X3_roomAbove hi (G0 := G0) (j := j) hj hcq3) kw_X3_167 bi_X3_roomAbove bx_X3_roomAbove (ia hi (id_1 hj)) oc_1 rfl ⟨by decide, by decide⟩ ⟨Nat.zero_le _, Nat.zero_le _⟩ rfl rfl (Nat.le_of_ble_eq_true rfl) rfl rfl dX3_whyNotPoured_21 ?_
    refine j_if_ne (tgt := 31) C0 dX3_whyNotPoured_24 (by decide) (fun c4 => ?_) (fun c4 => ?_)
    · have hf := if_f c4 hf
      refine j_iconst (v := 0) C0 dX3_whyNotPoured_31 rfl ?_
      exact j_iret C0 hr dX3_whyNotPoured_32 (so hf) rfl
    have hf := if_t c4 hf
    refine j_iconst (v := 2) C0 dX3_whyNotPoured_27 rfl ?_
    refine j_goto (tgt := 32) C0 dX3_whyNotPoured_28 (by decide) ?_
    exact j_iret C0 hr dX3_whyNotPoured_32 (so hf) rfl
  have hf := if_f c2 hf
  refine j_iconst (v := 1) C0 dX3_whyNotPoured_14 rfl ?_
  exact j_iret C0 hr dX3_whyNotPoured_15 (so hf) rfl

set_option maxHeartbeats 4000000 in
set_option maxRecDepth 100000 in
theorem c_J9_min_7cf53 {l : Launch} {D : va_G} {ca : Nat → ClassId} {ad : I3 → Nat} (hi : adI ad) {G0 : GS} {x1 : Int32} {x2 : Int32} {r0 : Int32}  (hf : fJ_min x1 x2 = some (r0)) : MT l D ca ad yJ9_min_7cf53 cJ9_min_7cf53 2 (some .int) 0 0 [.int x1, .int x2] G0 (some (.int r0)) G0 := by
  refine met_J (lv := [(0, .int x1), (1, .int x2)]) hi (by decide +kernel) (Nat.le_of_ble_eq_true rfl) rfl (fun p e s m below meth c C0 hr => ?_)
  unfold fJ_min at hf
  refine j_iload_n C0 dJ9_min_7cf53_0 rfl 0 rfl ?_
  refine j_iload_n C0 dJ9_min_7cf53_1 rfl 1 rfl ?_
  refine j_icmp_gt (tgt := 9) C0 dJ9_min_7cf53_2 (by decide) (fun c1 => ?_) (fun c1 => ?_)
  · have hf := if_t c1 hf
    refine j_iload_n C0 dJ9_min_7cf53_9 rfl 1 rfl ?_
    exact j_iret C0 hr dJ9_min_7cf53_10 (so hf) rfl
  have hf := if_f c1 hf
  refine j_iload_n C0 dJ9_min_7cf53_5 rfl 0 rfl ?_
  refine j_goto (tgt := 10) C0 dJ9_min_7cf53_6 (by decide) ?_
  exact j_iret C0 hr dJ9_min_7cf53_10 (so hf) rfl

set_option maxHeartbeats 4000000 in
set_option maxRecDepth 100000 in
theorem c_X3_enterUpper {l : Launch} {D : va_G} {ca : Nat → ClassId} {ad : I3 → Nat} (hi : adI ad) {G0 : GS} {j : Nat} {σ : Nat → Int32} {k1 : Nat} {x2 : Int32} {r0 : Int32} {σ' : Nat → Int32} (hj : j < 9) (hk1 : k1 < 5) (hf : fS_enterUpper σ k1 x2 = some (r0, σ')) : MT l D ca ad yX3_enterUpper cX3_enterUpper 4 (some .int) 1 21 [.ref (ad (1, j, 0)), .ref (ad (3, j, k1)), .int x2] (eS G0 j σ) (some (.int r0)) (eS G0 j σ') := by
  refine met_J (lv := [(0, .ref (ad (1, j, 0))), (1, .ref (ad (3, j, k1))), (2, .int x2)]) hi (by decide +kernel) (Nat.le_of_ble_eq_true rfl) rfl (fun p e s m below meth c C0 hr => ?_)
  unfold fS_enterUpper at hf
  refine j_iload_n C0 dX3_enterUpper_0 rfl 2 rfl ?_
  refine j_aload_n C0 dX3_enterUpper_1 rfl 0 rfl ?_
  refine j_aload_n C0 dX3_enterUpper_2 rfl 1 rfl ?_
  refine j_geti (x := (σ (KI k1 3))) C0 fl_X3_197 (sl_1_5 hj hk1) (ia hi (id_3 hj hk1)) eS_get dX3_enterUpper_3 ?_
  obtain ⟨q1, hcq1, hf⟩ := bd_some hf
  refine j_callV (As := [.int (σ (KI k1 3))]) (rest := [.int x2]) (stk := [.int q1, .int x2]) (G2 := (eS G0 j σ)) C0 (c_X3_roomAbove hi (G0 := G0) (j := j) hj hcq1) kw_X3_167 bi_X3_roomAbove bx_X3_roomAbove (ia hi (id_1 hj)) oc_1 rfl ⟨by decide, by decide⟩ ⟨Nat.zero_le _, Nat.zero_le _⟩ rfl rfl (Nat.le_of_ble_eq_true rfl) rfl rfl dX3_enterUpper_6 ?_
  obtain ⟨q2, hcq2, hf⟩ := bd_some hf
  refine j_callS (As := [.int x2, .int q1]) (rest := []) (stk := [.int q2]) (G2 := (eS G0 j σ)) C0 (c_J9_min_7cf53 hi (G0 := (eS G0 j σ))  hcq2) kw_X3_170 bi_J9_min_7cf53 rfl ⟨by decide, by decide⟩ ⟨Nat.zero_le _, Nat.zero_le _⟩ rfl rfl (Nat.le_of_ble_eq_true rfl) rfl rfl dX3_enterUpper_9 ?_
  refine j_istore_n (lv' := [(3, .int q2), (0, .ref (ad (1, j, 0))), (1, .ref (ad (3, j, k1))), (2, .int x2)]) C0 dX3_enterUpper_12 rfl (by decide) rfl ?_
  refine j_aload_n C0 dX3_enterUpper_13 rfl 2 rfl ?_
  refine j_dup C0 dX3_enterUpper_14 rfl ?_
  refine j_geti (x := (σ (KI k1 3))) C0 fl_X3_197 (sl_1_5 hj hk1) (ia hi (id_3 hj hk1)) eS_get dX3_enterUpper_15 ?_
  refine j_iload_n C0 dX3_enterUpper_18 rfl 0 rfl ?_
  refine j_iadd C0 dX3_enterUpper_19 ?_
  obtain ⟨σ3, e4, hf⟩ := lt_some hf
  refine j_puti (G' := (eS G0 j σ3)) C0 fl_X3_197 pw_1_5 (sl_1_5 hj hk1) (ia hi (id_3 hj hk1)) rfl rfl (eS_set e4) dX3_enterUpper_20 ?_
  refine j_aload_n C0 dX3_enterUpper_23 rfl 1 rfl ?_
  refine j_dup C0 dX3_enterUpper_24 rfl ?_
  refine j_geti (x := (σ3 12)) C0 fl_X3_69 (sl_3_11 hj) (ia hi (id_1 hj)) eS_get dX3_enterUpper_25 ?_
  refine j_iload_n C0 dX3_enterUpper_28 rfl 0 rfl ?_
  refine j_iadd C0 dX3_enterUpper_29 ?_
  obtain ⟨σ5, e6, hf⟩ := lt_some hf
  refine j_puti (G' := (eS G0 j σ5)) C0 fl_X3_69 pw_3_11 (sl_3_11 hj) (ia hi (id_1 hj)) rfl rfl (eS_set e6) dX3_enterUpper_30 ?_
  refine j_aload_n C0 dX3_enterUpper_33 rfl 1 rfl ?_
  refine j_dup C0 dX3_enterUpper_34 rfl ?_
  refine j_geti (x := (σ5 9)) C0 fl_X3_57 (sl_3_7 hj) (ia hi (id_1 hj)) eS_get dX3_enterUpper_35 ?_
  refine j_iload_n C0 dX3_enterUpper_38 rfl 3 rfl ?_
  refine j_iload_n C0 dX3_enterUpper_39 rfl 0 rfl ?_
  refine j_isub C0 dX3_enterUpper_40 ?_
  refine j_iadd C0 dX3_enterUpper_41 ?_
  obtain ⟨σ7, e8, hf⟩ := lt_some hf
  refine j_puti (G' := (eS G0 j σ7)) C0 fl_X3_57 pw_3_7 (sl_3_7 hj) (ia hi (id_1 hj)) rfl rfl (eS_set e8) dX3_enterUpper_42 ?_
  refine j_iload_n C0 dX3_enterUpper_45 rfl 3 rfl ?_
  refine j_iload_n C0 dX3_enterUpper_46 rfl 0 rfl ?_
  refine j_isub C0 dX3_enterUpper_47 ?_
  exact j_iret C0 hr dX3_enterUpper_48 (pr1 hf) (congrArg (fun z => (eS G0 j z)) (pr2 hf))

set_option maxHeartbeats 4000000 in
set_option maxRecDepth 100000 in
theorem c_X3_pourJug {l : Launch} {D : va_G} {ca : Nat → ClassId} {ad : I3 → Nat} (hi : adI ad) {G0 : GS} {j : Nat} {σ : Nat → Int32} {x1 : Int32} {x2 : Int32} {r0 : Int32} {σ' : Nat → Int32} (hj : j < 9) (hf : fS_pourJug σ x1 x2 = some (r0, σ')) : MT l D ca ad yX3_pourJug cX3_pourJug 5 (some .int) 2 44 [.ref (ad (1, j, 0)), .int x1, .int x2] (eS G0 j σ) (some (.int r0)) (eS G0 j σ') := by
  refine met_J (lv := [(0, .ref (ad (1, j, 0))), (1, .int x1), (2, .int x2)]) hi (by decide +kernel) (Nat.le_of_ble_eq_true rfl) rfl (fun p e s m below meth c C0 hr => ?_)
  unfold fS_pourJug at hf
  refine j_aload_n C0 dX3_pourJug_0 rfl 0 rfl ?_
  refine j_iload_n C0 dX3_pourJug_1 rfl 1 rfl ?_
  obtain ⟨q1, hcq1, hf⟩ := bd_some hf
  rcases q1 with _ | kq1
  · have hf := onN_none hf
    refine j_callV (As := [.int x1]) (rest := []) (stk := [.null]) (G2 := (eS G0 j σ)) C0 (c_X3_clockAt hi (G0 := G0) (j := j) hj hcq1) kw_X3_85 bi_X3_clockAt bx_X3_clockAt (ia hi (id_1 hj)) oc_1 rfl ⟨by decide, by decide⟩ ⟨Nat.zero_le _, Nat.zero_le _⟩ rfl rfl (Nat.le_of_ble_eq_true rfl) rfl rfl dX3_pourJug_2 ?_
    refine j_astore_nN (lv' := [(3, .null), (0, .ref (ad (1, j, 0))), (1, .int x1), (2, .int x2)]) C0 dX3_pourJug_5 rfl (by decide) rfl ?_
    refine j_aload_nN C0 dX3_pourJug_6 rfl 0 rfl ?_
    refine j_ifnullN (tgt := 17) C0 dX3_pourJug_7 (by decide) ?_
    refine j_ldc (v := -1000001) C0 dX3_pourJug_17 cw_X3_75 ?_
    exact j_iret C0 hr dX3_pourJug_19 (pr1 hf) (congrArg (fun z => (eS G0 j z)) (pr2 hf))
  have hf := onN_some hf
  have hk2 := clockAt_lt hcq1
  refine j_callV (As := [.int x1]) (rest := []) (stk := [.ref (ad (3, j, kq1))]) (G2 := (eS G0 j σ)) C0 (c_X3_clockAt hi (G0 := G0) (j := j) hj hcq1) kw_X3_85 bi_X3_clockAt bx_X3_clockAt (ia hi (id_1 hj)) oc_1 rfl ⟨by decide, by decide⟩ ⟨Nat.zero_le _, Nat.zero_le _⟩ rfl rfl (Nat.le_of_ble_eq_true rfl) rfl rfl dX3_pourJug_2 ?_
  refine j_astore_n (lv' := [(3, .ref (ad (3, j, kq1))), (0, .ref (ad (1, j, 0))), (1, .int x1), (2, .int x2)]) C0 dX3_pourJug_5 rfl (by decide) rfl ?_
  refine j_aload_n C0 dX3_pourJug_6 rfl 0 rfl ?_
  refine j_ifnull C0 dX3_pourJug_7 ?_
  refine j_iload_n C0 dX3_pourJug_10 rfl 3 rfl ?_
  obtain ⟨q3, hcq3, hf⟩ := bd_some hf
  refine j_callSN (As := [.int x2]) (rest := []) (stk := [.int q3]) (G2 := (eS G0 j σ)) C0 (c_X5_isJug hi (G0 := (eS G0 j σ))  hcq3) kw_X3_96 bi_X5_isJug rfl ⟨by decide, by decide⟩ ⟨Nat.zero_le _, Nat.zero_le _⟩ rfl rfl (Nat.le_of_ble_eq_true rfl) rfl rfl dX3_pourJug_11 ?_
  refine j_if_ne (tgt := 20) C0 dX3_pourJug_14 (by decide) (fun c4 => ?_) (fun c4 => ?_)
  · have hf := if_f c4 hf
    refine j_aload_n C0 dX3_pourJug_20 rfl 1 rfl ?_
    refine j_aload_n C0 dX3_pourJug_21 rfl 0 rfl ?_
    refine j_iload_n C0 dX3_pourJug_22 rfl 3 rfl ?_
    obtain ⟨q5, hcq5, hf⟩ := bd_some hf
    refine j_callV (As := [.ref (ad (3, j, kq1)), .int x2]) (rest := []) (stk := [.int q5]) (G2 := (eS G0 j σ)) C0 (c_X3_whyNotPoured hi (G0 := G0) (j := j) hj hk2 hcq5) kw_X3_100 bi_X3_whyNotPoured bx_X3_whyNotPoured (ia hi (id_1 hj)) oc_1 rfl ⟨by decide, by decide⟩ ⟨Nat.zero_le _, Nat.zero_le _⟩ rfl rfl (Nat.le_of_ble_eq_true rfl) rfl rfl dX3_pourJug_23 ?_
    refine j_if_eq (tgt := 32) C0 dX3_pourJug_26 (by decide) (fun c6 => ?_) (fun c6 => ?_)
    · have hf := if_t c6 hf
      refine j_getsN (t := 2) C0 (by decide) fg_X3_104 dX3_pourJug_32 ?_
      refine j_iload_n C0 dX3_pourJug_35 rfl 3 rfl ?_
      obtain ⟨q7, hcq7, hf⟩ := bd_some hf
      refine j_callSN (As := [.ref (ad (17, 2, 0)), .int x2]) (rest := []) (stk := [.int q7]) (G2 := (eS G0 j σ)) C0 (c_X5_element_t hi (G0 := (eS G0 j σ)) (t := 2) (by decide) hcq7) kw_X3_108 bi_X5_element rfl ⟨by decide, by decide⟩ ⟨Nat.zero_le _, Nat.zero_le _⟩ rfl rfl (Nat.le_of_ble_eq_true rfl) rfl rfl dX3_pourJug_36 ?_
      refine j_istore (lv' := [(4, .int q7), (3, .ref (ad (3, j, kq1))), (0, .ref (ad (1, j, 0))), (1, .int x1), (2, .int x2)]) C0 dX3_pourJug_39 (by decide) rfl ?_
      refine j_aload_n C0 dX3_pourJug_41 rfl 2 rfl ?_
      refine j_dup C0 dX3_pourJug_42 rfl ?_
      refine j_geti (x := (σ 7)) C0 fl_X3_31 (sl_3_5 hj) (ia hi (id_1 hj)) eS_get dX3_pourJug_43 ?_
      refine j_iload C0 dX3_pourJug_46 0 rfl ?_
      refine j_isub C0 dX3_pourJug_48 ?_
      obtain ⟨σ8, e9, hf⟩ := lt_some hf
      refine j_puti (G' := (eS G0 j σ8)) C0 fl_X3_31 pw_3_5 (sl_3_5 hj) (ia hi (id_1 hj)) rfl rfl (eS_set e9) dX3_pourJug_49 ?_
      refine j_aload_n C0 dX3_pourJug_52 rfl 2 rfl ?_
      refine j_dup C0 dX3_pourJug_53 rfl ?_
      refine j_geti (x := (σ8 10)) C0 fl_X3_60 (sl_3_8 hj) (ia hi (id_1 hj)) eS_get dX3_pourJug_54 ?_
      refine j_iload C0 dX3_pourJug_57 0 rfl ?_
      refine j_iadd C0 dX3_pourJug_59 ?_
      obtain ⟨σ10, e11, hf⟩ := lt_some hf
      refine j_puti (G' := (eS G0 j σ10)) C0 fl_X3_60 pw_3_8 (sl_3_8 hj) (ia hi (id_1 hj)) rfl rfl (eS_set e11) dX3_pourJug_60 ?_
      refine j_aload_n C0 dX3_pourJug_63 rfl 2 rfl ?_
      refine j_dup C0 dX3_pourJug_64 rfl ?_
      refine j_geti (x := (σ10 18)) C0 fl_X3_63 (sl_3_9 hj) (ia hi (id_1 hj)) eS_get dX3_pourJug_65 ?_
      refine j_iconst (v := 1) C0 dX3_pourJug_68 rfl ?_
      refine j_iadd C0 dX3_pourJug_69 ?_
      obtain ⟨σ12, e13, hf⟩ := lt_some hf
      refine j_puti (G' := (eS G0 j σ12)) C0 fl_X3_63 pw_3_9 (sl_3_9 hj) (ia hi (id_1 hj)) rfl rfl (eS_set e13) dX3_pourJug_70 ?_
      refine j_aload_n C0 dX3_pourJug_73 rfl 1 rfl ?_
      refine j_dup C0 dX3_pourJug_74 rfl ?_
      refine j_geti (x := (σ12 (KI kq1 10))) C0 fl_X3_112 (sl_1_12 hj hk2) (ia hi (id_3 hj hk2)) eS_get dX3_pourJug_75 ?_
      refine j_iload C0 dX3_pourJug_78 0 rfl ?_
      refine j_iadd C0 dX3_pourJug_80 ?_
      obtain ⟨σ14, e15, hf⟩ := lt_some hf
      refine j_puti (G' := (eS G0 j σ14)) C0 fl_X3_112 pw_1_12 (sl_1_12 hj hk2) (ia hi (id_3 hj hk2)) rfl rfl (eS_set e15) dX3_pourJug_81 ?_
      refine j_aload_n C0 dX3_pourJug_84 rfl 2 rfl ?_
      refine j_aload_n C0 dX3_pourJug_85 rfl 1 rfl ?_
      refine j_iload C0 dX3_pourJug_86 0 rfl ?_
      obtain ⟨q16, hcq16, hf⟩ := bd_some hf
      refine j_callV (As := [.ref (ad (3, j, kq1)), .int q7]) (rest := []) (stk := [.int q16.1]) (G2 := (eS G0 j q16.2)) C0 (c_X3_enterUpper hi (G0 := G0) (j := j) hj hk2 hcq16) kw_X3_115 bi_X3_enterUpper bx_X3_enterUpper (ia hi (id_1 hj)) oc_1 rfl ⟨by decide, by decide⟩ ⟨Nat.zero_le _, Nat.zero_le _⟩ rfl rfl (Nat.le_of_ble_eq_true rfl) rfl rfl dX3_pourJug_88 ?_
      exact j_iret C0 hr dX3_pourJug_91 (pr1 hf) (congrArg (fun z => (eS G0 j z)) (pr2 hf))
    have hf := if_f c6 hf
    refine j_ldc (v := -1000002) C0 dX3_pourJug_29 cw_X3_92 ?_
    exact j_iret C0 hr dX3_pourJug_31 (pr1 hf) (congrArg (fun z => (eS G0 j z)) (pr2 hf))
  have hf := if_t c4 hf
  refine j_ldc (v := -1000001) C0 dX3_pourJug_17 cw_X3_75 ?_
  exact j_iret C0 hr dX3_pourJug_19 (pr1 hf) (congrArg (fun z => (eS G0 j z)) (pr2 hf))

set_option maxHeartbeats 4000000 in
set_option maxRecDepth 100000 in
theorem c_X5_pour {l : Launch} {D : va_G} {ca : Nat → ClassId} {ad : I3 → Nat} (hi : adI ad) {M0 : Nat → Nat → Int32} {X : XS} {x1 : Int32} {x2 : Int32} {r0 : Int32} {X' : XS}  (hf : fX_pour X x1 x2 = some (r0, X')) : MT l D ca ad yX5_pour cX5_pour 3 (some .int) 3 68 [.ref (ad (0, 0, 0)), .int x1, .int x2] (X.1, X.2, M0) (some (.int r0)) (X'.1, X'.2, M0) := by
  refine met_J (lv := [(0, .ref (ad (0, 0, 0))), (1, .int x1), (2, .int x2)]) hi (by decide +kernel) (Nat.le_of_ble_eq_true rfl) rfl (fun p e s m below meth c C0 hr => ?_)
  unfold fX_pour at hf
  refine j_aload_n C0 dX5_pour_0 rfl 0 rfl ?_
  refine j_get C0 fl_X5_19 (ia hi id_c0) ⟨_, rfl, rfl⟩ dX5_pour_1 ?_
  refine j_aload_n C0 dX5_pour_4 rfl 0 rfl ?_
  refine j_getr (id2 := (1, 0, 0)) C0 fl_X5_10 rl_5_0 (ia hi id_c0) dX5_pour_5 ?_
  obtain ⟨q1, hcq1, hf⟩ := bd_some hf
  obtain ⟨X2, e3, hf⟩ := lt_some hf
  refine j_callV (As := [.ref (ad (1, 0, 0))]) (rest := []) (stk := []) (G2 := (X2.1, X2.2, M0)) C0 (c_X3_copyFrom hi (R0 := (X.2, M0)) (X.2 0).isLt (by decide) hcq1) kw_X5_40 bi_X3_copyFrom bx_X3_copyFrom (ia hi (id_1 (X.2 0).isLt)) oc_1 rfl ⟨by decide, by decide⟩ ⟨Nat.zero_le _, Nat.zero_le _⟩ rfl rfl (Nat.le_of_ble_eq_true rfl) rfl (by rw [← e3]; try rfl) dX5_pour_8 ?_
  refine j_aload_n C0 dX5_pour_11 rfl 0 rfl ?_
  refine j_aload_n C0 dX5_pour_12 rfl 0 rfl ?_
  refine j_getr (id2 := (1, 0, 0)) C0 fl_X5_10 rl_5_0 (ia hi id_c0) dX5_pour_13 ?_
  refine j_iload_n C0 dX5_pour_16 rfl 1 rfl ?_
  refine j_iload_n C0 dX5_pour_17 rfl 2 rfl ?_
  obtain ⟨q4, hcq4, hf⟩ := bd_some hf
  obtain ⟨X5, e6, hf⟩ := lt_some hf
  refine j_callV (As := [.int x1, .int x2]) (rest := [.ref (ad (0, 0, 0))]) (stk := [.int q4.1, .ref (ad (0, 0, 0))]) (G2 := (X5.1, X5.2, M0)) C0 (c_X3_pourJug hi (G0 := (X2.1, X2.2, M0)) (j := 0) (by decide) hcq4) kw_X5_56 bi_X3_pourJug bx_X3_pourJug (ia hi (id_1 (by decide))) oc_1 (eS_self _ _ _) ⟨by decide, by decide⟩ ⟨Nat.zero_le _, Nat.zero_le _⟩ rfl rfl (Nat.le_of_ble_eq_true rfl) rfl (by rw [← e6]; try rfl) dX5_pour_18 ?_
  obtain ⟨q7, hcq7, hf⟩ := bd_some hf
  refine j_callV (As := [.int q4.1]) (rest := []) (stk := [.int q7.1]) (G2 := (q7.2.1, q7.2.2, M0)) C0 (c_X5_changed hi (M0 := M0)  hcq7) kw_X5_48 bi_X5_changed bx_X5_changed (ia hi id_c0) oc_0 rfl ⟨by decide, by decide⟩ ⟨Nat.zero_le _, Nat.zero_le _⟩ rfl rfl (Nat.le_of_ble_eq_true rfl) rfl rfl dX5_pour_21 ?_
  exact j_iret C0 hr dX5_pour_24 (pr1 hf) (congrArg (fun z => (z.1, z.2, M0)) (pr2 hf))

set_option maxHeartbeats 4000000 in
set_option maxRecDepth 100000 in
theorem c_X3_narrow {l : Launch} {D : va_G} {ca : Nat → ClassId} {ad : I3 → Nat} (hi : adI ad) {G0 : GS} {j : Nat} {σ : Nat → Int32} {x1 : Int32} {x2 : Int32} {r0 : Int32} {σ' : Nat → Int32} (hj : j < 9) (hf : fS_narrow σ x1 x2 = some (r0, σ')) : MT l D ca ad yX3_narrow cX3_narrow 4 (some .int) 1 21 [.ref (ad (1, j, 0)), .int x1, .int x2] (eS G0 j σ) (some (.int r0)) (eS G0 j σ') := by
  refine met_J (lv := [(0, .ref (ad (1, j, 0))), (1, .int x1), (2, .int x2)]) hi (by decide +kernel) (Nat.le_of_ble_eq_true rfl) rfl (fun p e s m below meth c C0 hr => ?_)
  unfold fS_narrow at hf
  refine j_aload_n C0 dX3_narrow_0 rfl 0 rfl ?_
  refine j_iload_n C0 dX3_narrow_1 rfl 1 rfl ?_
  obtain ⟨q1, hcq1, hf⟩ := bd_some hf
  rcases q1 with _ | kq1
  · have hf := onN_none hf
    refine j_callV (As := [.int x1]) (rest := []) (stk := [.null]) (G2 := (eS G0 j σ)) C0 (c_X3_clockAt hi (G0 := G0) (j := j) hj hcq1) kw_X3_85 bi_X3_clockAt bx_X3_clockAt (ia hi (id_1 hj)) oc_1 rfl ⟨by decide, by decide⟩ ⟨Nat.zero_le _, Nat.zero_le _⟩ rfl rfl (Nat.le_of_ble_eq_true rfl) rfl rfl dX3_narrow_2 ?_
    refine j_astore_nN (lv' := [(3, .null), (0, .ref (ad (1, j, 0))), (1, .int x1), (2, .int x2)]) C0 dX3_narrow_5 rfl (by decide) rfl ?_
    refine j_aload_nN C0 dX3_narrow_6 rfl 0 rfl ?_
    refine j_ifnullN (tgt := 21) C0 dX3_narrow_7 (by decide) ?_
    refine j_ldc (v := -1000001) C0 dX3_narrow_21 cw_X3_75 ?_
    exact j_iret C0 hr dX3_narrow_23 (pr1 hf) (congrArg (fun z => (eS G0 j z)) (pr2 hf))
  have hf := onN_some hf
  have hk2 := clockAt_lt hcq1
  refine j_callV (As := [.int x1]) (rest := []) (stk := [.ref (ad (3, j, kq1))]) (G2 := (eS G0 j σ)) C0 (c_X3_clockAt hi (G0 := G0) (j := j) hj hcq1) kw_X3_85 bi_X3_clockAt bx_X3_clockAt (ia hi (id_1 hj)) oc_1 rfl ⟨by decide, by decide⟩ ⟨Nat.zero_le _, Nat.zero_le _⟩ rfl rfl (Nat.le_of_ble_eq_true rfl) rfl rfl dX3_narrow_2 ?_
  refine j_astore_n (lv' := [(3, .ref (ad (3, j, kq1))), (0, .ref (ad (1, j, 0))), (1, .int x1), (2, .int x2)]) C0 dX3_narrow_5 rfl (by decide) rfl ?_
  refine j_aload_n C0 dX3_narrow_6 rfl 0 rfl ?_
  refine j_ifnull C0 dX3_narrow_7 ?_
  refine j_iload_n C0 dX3_narrow_10 rfl 3 rfl ?_
  refine j_iconst (v := 1) C0 dX3_narrow_11 rfl ?_
  refine j_icmp_lt (tgt := 21) C0 dX3_narrow_12 (by decide) (fun c3 => ?_) (fun c3 => ?_)
  · have hf := if_t c3 hf
    refine j_ldc (v := -1000001) C0 dX3_narrow_21 cw_X3_75 ?_
    exact j_iret C0 hr dX3_narrow_23 (pr1 hf) (congrArg (fun z => (eS G0 j z)) (pr2 hf))
  have hf := if_f c3 hf
  refine j_iload_n C0 dX3_narrow_15 rfl 3 rfl ?_
  refine j_bipush (v := 60) C0 dX3_narrow_16 rfl ?_
  refine j_icmp_lt (tgt := 24) C0 dX3_narrow_18 (by decide) (fun c4 => ?_) (fun c4 => ?_)
  · have hf := if_t c4 hf
    refine j_aload_n C0 dX3_narrow_24 rfl 0 rfl ?_
    refine j_geti (x := (σ (KI kq1 1))) C0 fl_X3_118 (sl_1_2 hj hk2) (ia hi (id_3 hj hk2)) eS_get dX3_narrow_25 ?_
    refine j_iload_n C0 dX3_narrow_28 rfl 3 rfl ?_
    refine j_isub C0 dX3_narrow_29 ?_
    refine j_iconst (v := 1) C0 dX3_narrow_30 rfl ?_
    refine j_icmp_ge (tgt := 37) C0 dX3_narrow_31 (by decide) (fun c5 => ?_) (fun c5 => ?_)
    · have hf := if_t c5 hf
      refine j_aload_n C0 dX3_narrow_37 rfl 0 rfl ?_
      refine j_dup C0 dX3_narrow_38 rfl ?_
      refine j_geti (x := (σ (KI kq1 1))) C0 fl_X3_118 (sl_1_2 hj hk2) (ia hi (id_3 hj hk2)) eS_get dX3_narrow_39 ?_
      refine j_iload_n C0 dX3_narrow_42 rfl 3 rfl ?_
      refine j_isub C0 dX3_narrow_43 ?_
      obtain ⟨σ6, e7, hf⟩ := lt_some hf
      refine j_puti (G' := (eS G0 j σ6)) C0 fl_X3_118 pw_1_2 (sl_1_2 hj hk2) (ia hi (id_3 hj hk2)) rfl rfl (eS_set e7) dX3_narrow_44 ?_
      refine j_aload_n C0 dX3_narrow_47 rfl 0 rfl ?_
      refine j_geti (x := (σ6 (KI kq1 1))) C0 fl_X3_118 (sl_1_2 hj hk2) (ia hi (id_3 hj hk2)) eS_get dX3_narrow_48 ?_
      exact j_iret C0 hr dX3_narrow_51 (pr1 hf) (congrArg (fun z => (eS G0 j z)) (pr2 hf))
    have hf := if_f c5 hf
    refine j_ldc (v := -1000002) C0 dX3_narrow_34 cw_X3_92 ?_
    exact j_iret C0 hr dX3_narrow_36 (pr1 hf) (congrArg (fun z => (eS G0 j z)) (pr2 hf))
  have hf := if_f c4 hf
  refine j_ldc (v := -1000001) C0 dX3_narrow_21 cw_X3_75 ?_
  exact j_iret C0 hr dX3_narrow_23 (pr1 hf) (congrArg (fun z => (eS G0 j z)) (pr2 hf))

set_option maxHeartbeats 4000000 in
set_option maxRecDepth 100000 in
theorem c_X5_wax {l : Launch} {D : va_G} {ca : Nat → ClassId} {ad : I3 → Nat} (hi : adI ad) {M0 : Nat → Nat → Int32} {X : XS} {x1 : Int32} {x2 : Int32} {r0 : Int32} {X' : XS}  (hf : fX_wax X x1 x2 = some (r0, X')) : MT l D ca ad yX5_wax cX5_wax 3 (some .int) 3 65 [.ref (ad (0, 0, 0)), .int x1, .int x2] (X.1, X.2, M0) (some (.int r0)) (X'.1, X'.2, M0) := by
  refine met_J (lv := [(0, .ref (ad (0, 0, 0))), (1, .int x1), (2, .int x2)]) hi (by decide +kernel) (Nat.le_of_ble_eq_true rfl) rfl (fun p e s m below meth c C0 hr => ?_)
  unfold fX_wax at hf
  refine j_aload_n C0 dX5_wax_0 rfl 0 rfl ?_
  refine j_get C0 fl_X5_19 (ia hi id_c0) ⟨_, rfl, rfl⟩ dX5_wax_1 ?_
  refine j_aload_n C0 dX5_wax_4 rfl 0 rfl ?_
  refine j_getr (id2 := (1, 0, 0)) C0 fl_X5_10 rl_5_0 (ia hi id_c0) dX5_wax_5 ?_
  obtain ⟨q1, hcq1, hf⟩ := bd_some hf
  obtain ⟨X2, e3, hf⟩ := lt_some hf
  refine j_callV (As := [.ref (ad (1, 0, 0))]) (rest := []) (stk := []) (G2 := (X2.1, X2.2, M0)) C0 (c_X3_copyFrom hi (R0 := (X.2, M0)) (X.2 0).isLt (by decide) hcq1) kw_X5_40 bi_X3_copyFrom bx_X3_copyFrom (ia hi (id_1 (X.2 0).isLt)) oc_1 rfl ⟨by decide, by decide⟩ ⟨Nat.zero_le _, Nat.zero_le _⟩ rfl rfl (Nat.le_of_ble_eq_true rfl) rfl (by rw [← e3]; try rfl) dX5_wax_8 ?_
  refine j_aload_n C0 dX5_wax_11 rfl 0 rfl ?_
  refine j_aload_n C0 dX5_wax_12 rfl 0 rfl ?_
  refine j_getr (id2 := (1, 0, 0)) C0 fl_X5_10 rl_5_0 (ia hi id_c0) dX5_wax_13 ?_
  refine j_iload_n C0 dX5_wax_16 rfl 1 rfl ?_
  refine j_iload_n C0 dX5_wax_17 rfl 2 rfl ?_
  obtain ⟨q4, hcq4, hf⟩ := bd_some hf
  obtain ⟨X5, e6, hf⟩ := lt_some hf
  refine j_callV (As := [.int x1, .int x2]) (rest := [.ref (ad (0, 0, 0))]) (stk := [.int q4.1, .ref (ad (0, 0, 0))]) (G2 := (X5.1, X5.2, M0)) C0 (c_X3_narrow hi (G0 := (X2.1, X2.2, M0)) (j := 0) (by decide) hcq4) kw_X5_59 bi_X3_narrow bx_X3_narrow (ia hi (id_1 (by decide))) oc_1 (eS_self _ _ _) ⟨by decide, by decide⟩ ⟨Nat.zero_le _, Nat.zero_le _⟩ rfl rfl (Nat.le_of_ble_eq_true rfl) rfl (by rw [← e6]; try rfl) dX5_wax_18 ?_
  obtain ⟨q7, hcq7, hf⟩ := bd_some hf
  refine j_callV (As := [.int q4.1]) (rest := []) (stk := [.int q7.1]) (G2 := (q7.2.1, q7.2.2, M0)) C0 (c_X5_changed hi (M0 := M0)  hcq7) kw_X5_48 bi_X5_changed bx_X5_changed (ia hi id_c0) oc_0 rfl ⟨by decide, by decide⟩ ⟨Nat.zero_le _, Nat.zero_le _⟩ rfl rfl (Nat.le_of_ble_eq_true rfl) rfl rfl dX5_wax_21 ?_
  exact j_iret C0 hr dX5_wax_24 (pr1 hf) (congrArg (fun z => (z.1, z.2, M0)) (pr2 hf))

set_option maxHeartbeats 4000000 in
set_option maxRecDepth 100000 in
theorem c_X1_dropsCounted {l : Launch} {D : va_G} {ca : Nat → ClassId} {ad : I3 → Nat} (hi : adI ad) {G0 : GS} {j : Nat} {σ : Nat → Int32} {k0 : Nat} {r0 : Int32} (hj : j < 9) (hk0 : k0 < 5) (hf : fK_dropsCounted σ k0 = some (r0)) : MT l D ca ad yX1_dropsCounted cX1_dropsCounted 1 (some .int) 0 0 [.ref (ad (3, j, k0))] (eS G0 j σ) (some (.int r0)) (eS G0 j σ) := by
  refine met_J (lv := [(0, .ref (ad (3, j, k0)))]) hi (by decide +kernel) (Nat.le_of_ble_eq_true rfl) rfl (fun p e s m below meth c C0 hr => ?_)
  unfold fK_dropsCounted at hf
  refine j_aload_n C0 dX1_dropsCounted_0 rfl 0 rfl ?_
  refine j_geti (x := (σ (KI k0 0))) C0 fl_X1_15 (sl_1_1 hj hk0) (ia hi (id_3 hj hk0)) eS_get dX1_dropsCounted_1 ?_
  refine j_if_ne (tgt := 13) C0 dX1_dropsCounted_4 (by decide) (fun c1 => ?_) (fun c1 => ?_)
  · have hf := if_f c1 hf
    refine j_aload_n C0 dX1_dropsCounted_13 rfl 0 rfl ?_
    refine j_geti (x := (σ (KI k0 0))) C0 fl_X1_15 (sl_1_1 hj hk0) (ia hi (id_3 hj hk0)) eS_get dX1_dropsCounted_14 ?_
    refine j_iconst (v := 1) C0 dX1_dropsCounted_17 rfl ?_
    refine j_icmp_ne (tgt := 28) C0 dX1_dropsCounted_18 (by decide) (fun c2 => ?_) (fun c2 => ?_)
    · have hf := if_f c2 hf
      refine j_aload_n C0 dX1_dropsCounted_28 rfl 0 rfl ?_
      refine j_geti (x := (σ (KI k0 9))) C0 fl_X1_45 (sl_1_11 hj hk0) (ia hi (id_3 hj hk0)) eS_get dX1_dropsCounted_29 ?_
      refine j_aload_n C0 dX1_dropsCounted_32 rfl 0 rfl ?_
      refine j_geti (x := (σ (KI k0 4))) C0 fl_X1_30 (sl_1_6 hj hk0) (ia hi (id_3 hj hk0)) eS_get dX1_dropsCounted_33 ?_
      refine j_iadd C0 dX1_dropsCounted_36 ?_
      exact j_iret C0 hr dX1_dropsCounted_37 (so hf) rfl
    have hf := if_t c2 hf
    refine j_aload_n C0 dX1_dropsCounted_21 rfl 0 rfl ?_
    refine j_geti (x := (σ (KI k0 4))) C0 fl_X1_30 (sl_1_6 hj hk0) (ia hi (id_3 hj hk0)) eS_get dX1_dropsCounted_22 ?_
    refine j_goto (tgt := 37) C0 dX1_dropsCounted_25 (by decide) ?_
    exact j_iret C0 hr dX1_dropsCounted_37 (so hf) rfl
  have hf := if_t c1 hf
  refine j_aload_n C0 dX1_dropsCounted_7 rfl 0 rfl ?_
  refine j_geti (x := (σ (KI k0 3))) C0 fl_X1_27 (sl_1_5 hj hk0) (ia hi (id_3 hj hk0)) eS_get dX1_dropsCounted_8 ?_
  refine j_ineg C0 dX1_dropsCounted_11 ?_
  exact j_iret C0 hr dX1_dropsCounted_12 (so hf) rfl

