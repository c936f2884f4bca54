set_option maxHeartbeats 8000000 in
set_option maxRecDepth 100000 in
theorem L_isEmptyIn_tail {l : Launch} {D : va_G} {ca : Nat → ClassId} {ad : I3 → Nat} (hi : adI ad) (hn4 : (14, 4, 0) ∈ idA ad) (hn5 : (14, 5, 0) ∈ idA ad) (hn6 : (14, 6, 0) ∈ idA ad) {p : Program} {e : Env} {s : State} {m : MethodId} {args : Array Value} {below : List Frame} {meth : Method} {c : Code} {Q : State → Prop} {X X' : XS} {M M' : Nat → Nat → Int32} {r0 : Int32} {z4 : Int32} (C0 : Cx D ca ad p s m args meth c cL_isEmptyIn 10 RL) (hend : ∀ (lv : List (Nat × Value)) (pc : Nat), narrow .boolean (.int r0) = .int r0 → decode cL_isEmptyIn pc = .ok (.ireturn, 1) → J D ca ad p l e ({ frames := 6, cells := 3, slots := 94, locals := 135 }) s m args below meth c 3 94 Q 10 (X'.1, X'.2, M') pc lv [.int r0]) (hf : fL_isEmptyInT X M z4 = some (r0, X', M')) : J D ca ad p l e ({ frames := 6, cells := 3, slots := 94, locals := 135 }) s m args below meth c 3 94 Q 10 (X.1, X.2, M) 18 [(0, .ref (ad (0, 0, 0))), (1, .ref (ad (14, 0, 0))), (2, .ref (ad (14, 1, 0))), (3, .ref (ad (14, 2, 0))), (4, .int z4), (5, .ref (ad (14, 4, 0))), (6, .ref (ad (14, 5, 0))), (7, .ref (ad (14, 6, 0)))] [] := by
  have L39 : ∀ (n : Nat) (X : XS) (M : Nat → Nat → Int32) (y4 : Int32) (y8 : Int32), fL_isEmptyInT_L39 n X M y4 y8 = some (r0, X', M') → J D ca ad p l e ({ frames := 6, cells := 3, slots := 94, locals := 135 }) s m args below meth c 3 94 Q 10 (X.1, X.2, M) 39 [(0, .ref (ad (0, 0, 0))), (4, .int y4), (5, .ref (ad (14, 4, 0))), (6, .ref (ad (14, 5, 0))), (7, .ref (ad (14, 6, 0))), (8, .int y8)] [] := by
    intro n
    induction n with
    | zero =>
      intro X M y4 y8 hf
      exact (none_ne hf).elim
    | succ n ih =>
      intro X M y4 y8 hf
      rw [fL_isEmptyInT_L39] at hf
      refine j_aload C0 dL_isEmptyIn_39 3 rfl ?_
      refine j_iload C0 dL_isEmptyIn_41 1 rfl ?_
      obtain ⟨h4, hf⟩ := gd_some hf
      refine j_iald (x := (M 5 (y4.toNatClampNeg))) C0 al_14_5 rfl hn5 h4 (by rw [Nat.zero_add]; rfl) dL_isEmptyIn_43 ?_
      refine j_if_le (tgt := 76) C0 dL_isEmptyIn_44 (by decide) (fun c5 => ?_) (fun c5 => ?_)
      · have hf := if_t c5 hf
        refine j_aload_n C0 dL_isEmptyIn_76 rfl 0 rfl ?_
        refine j_iload C0 dL_isEmptyIn_77 1 rfl ?_
        obtain ⟨q6, hcq6, hf⟩ := bd_some hf
        refine j_callV (As := [.int y4]) (rest := []) (stk := [.int q6.1]) (G2 := (q6.2.1, q6.2.2, M)) C0 (c_X5_emptyIn hi (M0 := M)  hcq6) kw_L_76 bi_X5_emptyIn bx_X5_emptyIn (ia hi id_c0) oc_0 rfl ⟨by decide, by decide⟩ ⟨Nat.le_of_ble_eq_true rfl, Nat.le_of_ble_eq_true rfl⟩ rfl rfl (Nat.le_of_ble_eq_true rfl) rfl rfl dL_isEmptyIn_79 ?_
        refine j_aload C0 dL_isEmptyIn_82 3 rfl ?_
        refine j_iload C0 dL_isEmptyIn_84 1 rfl ?_
        obtain ⟨h7, hf⟩ := gd_some hf
        refine j_iald (x := (M 5 (y4.toNatClampNeg))) C0 al_14_5 rfl hn5 h7 (by rw [Nat.zero_add]; rfl) dL_isEmptyIn_86 ?_
        refine j_if_le (tgt := 95) C0 dL_isEmptyIn_87 (by decide) (fun c8 => ?_) (fun c8 => ?_)
        · have hf := if_t c8 hf
          refine j_iload C0 dL_isEmptyIn_95 5 rfl ?_
          refine j_icmp_ne (tgt := 104) C0 dL_isEmptyIn_97 (by decide) (fun c9 => ?_) (fun c9 => ?_)
          · have hf := if_f c9 hf
            refine j_iconst (v := 0) C0 dL_isEmptyIn_104 rfl ?_
            exact j_end3 hf (hend _ _ (r3 hf rfl) dL_isEmptyIn_105)
          have hf := if_t c9 hf
          refine j_iconst (v := 1) C0 dL_isEmptyIn_100 rfl ?_
          refine j_goto (tgt := 105) C0 dL_isEmptyIn_101 (by decide) ?_
          exact j_end3 hf (hend _ _ (r3 hf rfl) dL_isEmptyIn_105)
        have hf := if_f c8 hf
        refine j_ldc (v := -1000004) C0 dL_isEmptyIn_90 cw_L_48 ?_
        refine j_goto (tgt := 97) C0 dL_isEmptyIn_92 (by decide) ?_
        refine j_icmp_ne (tgt := 104) C0 dL_isEmptyIn_97 (by decide) (fun c10 => ?_) (fun c10 => ?_)
        · have hf := if_f c10 hf
          refine j_iconst (v := 0) C0 dL_isEmptyIn_104 rfl ?_
          exact j_end3 hf (hend _ _ (r3 hf rfl) dL_isEmptyIn_105)
        have hf := if_t c10 hf
        refine j_iconst (v := 1) C0 dL_isEmptyIn_100 rfl ?_
        refine j_goto (tgt := 105) C0 dL_isEmptyIn_101 (by decide) ?_
        exact j_end3 hf (hend _ _ (r3 hf rfl) dL_isEmptyIn_105)
      have hf := if_f c5 hf
      refine j_iload C0 dL_isEmptyIn_47 5 rfl ?_
      refine j_sipush (v := 1000) C0 dL_isEmptyIn_49 rfl ?_
      refine j_icmp_ge (tgt := 76) C0 dL_isEmptyIn_52 (by decide) (fun c11 => ?_) (fun c11 => ?_)
      · have hf := if_t c11 hf
        refine j_aload_n C0 dL_isEmptyIn_76 rfl 0 rfl ?_
        refine j_iload C0 dL_isEmptyIn_77 1 rfl ?_
        obtain ⟨q12, hcq12, hf⟩ := bd_some hf
        refine j_callV (As := [.int y4]) (rest := []) (stk := [.int q12.1]) (G2 := (q12.2.1, q12.2.2, M)) C0 (c_X5_emptyIn hi (M0 := M)  hcq12) kw_L_76 bi_X5_emptyIn bx_X5_emptyIn (ia hi id_c0) oc_0 rfl ⟨by decide, by decide⟩ ⟨Nat.le_of_ble_eq_true rfl, Nat.le_of_ble_eq_true rfl⟩ rfl rfl (Nat.le_of_ble_eq_true rfl) rfl rfl dL_isEmptyIn_79 ?_
        refine j_aload C0 dL_isEmptyIn_82 3 rfl ?_
        refine j_iload C0 dL_isEmptyIn_84 1 rfl ?_
        obtain ⟨h13, hf⟩ := gd_some hf
        refine j_iald (x := (M 5 (y4.toNatClampNeg))) C0 al_14_5 rfl hn5 h13 (by rw [Nat.zero_add]; rfl) dL_isEmptyIn_86 ?_
        refine j_if_le (tgt := 95) C0 dL_isEmptyIn_87 (by decide) (fun c14 => ?_) (fun c14 => ?_)
        · have hf := if_t c14 hf
          refine j_iload C0 dL_isEmptyIn_95 5 rfl ?_
          refine j_icmp_ne (tgt := 104) C0 dL_isEmptyIn_97 (by decide) (fun c15 => ?_) (fun c15 => ?_)
          · have hf := if_f c15 hf
            refine j_iconst (v := 0) C0 dL_isEmptyIn_104 rfl ?_
            exact j_end3 hf (hend _ _ (r3 hf rfl) dL_isEmptyIn_105)
          have hf := if_t c15 hf
          refine j_iconst (v := 1) C0 dL_isEmptyIn_100 rfl ?_
          refine j_goto (tgt := 105) C0 dL_isEmptyIn_101 (by decide) ?_
          exact j_end3 hf (hend _ _ (r3 hf rfl) dL_isEmptyIn_105)
        have hf := if_f c14 hf
        refine j_ldc (v := -1000004) C0 dL_isEmptyIn_90 cw_L_48 ?_
        refine j_goto (tgt := 97) C0 dL_isEmptyIn_92 (by decide) ?_
        refine j_icmp_ne (tgt := 104) C0 dL_isEmptyIn_97 (by decide) (fun c16 => ?_) (fun c16 => ?_)
        · have hf := if_f c16 hf
          refine j_iconst (v := 0) C0 dL_isEmptyIn_104 rfl ?_
          exact j_end3 hf (hend _ _ (r3 hf rfl) dL_isEmptyIn_105)
        have hf := if_t c16 hf
        refine j_iconst (v := 1) C0 dL_isEmptyIn_100 rfl ?_
        refine j_goto (tgt := 105) C0 dL_isEmptyIn_101 (by decide) ?_
        exact j_end3 hf (hend _ _ (r3 hf rfl) dL_isEmptyIn_105)
      have hf := if_f c11 hf
      refine j_aload C0 dL_isEmptyIn_55 2 rfl ?_
      refine j_aload C0 dL_isEmptyIn_57 3 rfl ?_
      refine j_aload C0 dL_isEmptyIn_59 4 rfl ?_
      refine j_aload C0 dL_isEmptyIn_61 2 rfl ?_
      refine j_iconst (v := 1) C0 dL_isEmptyIn_63 rfl ?_
      refine j_iconst (v := 0) C0 dL_isEmptyIn_64 rfl ?_
      obtain ⟨q17, hcq17, hf⟩ := bd_some hf
      refine j_callS (As := [.ref (ad (14, 4, 0)), .ref (ad (14, 5, 0)), .ref (ad (14, 6, 0)), .ref (ad (14, 4, 0)), .int (1 : Int32), .int (0 : Int32)]) (rest := []) (stk := [.int q17.1]) (G2 := (X.1, X.2, q17.2)) C0 (c_L_ticks hi (Cc := X.1) (Bb := X.2) al_14_4 hn4 al_14_5 hn5 al_14_6 hn6 al_14_4 hn4 hcq17) kw_L_92 bi_L_ticks rfl ⟨by decide, by decide⟩ ⟨Nat.le_of_ble_eq_true rfl, Nat.le_of_ble_eq_true rfl⟩ rfl rfl (Nat.le_of_ble_eq_true rfl) rfl rfl dL_isEmptyIn_65 ?_
      refine j_istore (lv' := [(9, .int q17.1), (0, .ref (ad (0, 0, 0))), (4, .int y4), (5, .ref (ad (14, 4, 0))), (6, .ref (ad (14, 5, 0))), (7, .ref (ad (14, 6, 0))), (8, .int y8)]) C0 dL_isEmptyIn_68 (by decide) rfl ?_
      refine j_iinc (v := (y8 + 1)) (lv' := [(8, .int (y8 + 1)), (9, .int q17.1), (0, .ref (ad (0, 0, 0))), (4, .int y4), (5, .ref (ad (14, 4, 0))), (6, .ref (ad (14, 5, 0))), (7, .ref (ad (14, 6, 0)))]) C0 dL_isEmptyIn_70 6 rfl rfl (by decide) rfl ?_
      refine j_goto (tgt := 39) C0 dL_isEmptyIn_73 (by decide) ?_
      exact j_sub [2, 3, 4, 5, 6, 0] rfl (ih X q17.2 y4 (y8 + 1) hf)
  unfold fL_isEmptyInT at hf
  refine j_aload_n C0 dL_isEmptyIn_18 rfl 1 rfl ?_
  refine j_aload C0 dL_isEmptyIn_19 5 rfl ?_
  obtain ⟨q1, hcq1, hf⟩ := bd_some hf
  refine j_callS (As := [.ref (ad (14, 0, 0)), .ref (ad (14, 4, 0))]) (rest := []) (stk := []) (G2 := (X.1, X.2, q1)) C0 (c_L_copy hi (Cc := X.1) (Bb := X.2) al_14_0 (ia hi id_l0) al_14_4 hn4 hcq1) kw_L_88 bi_L_copy rfl ⟨by decide, by decide⟩ ⟨Nat.le_of_ble_eq_true rfl, Nat.le_of_ble_eq_true rfl⟩ rfl rfl (Nat.le_of_ble_eq_true rfl) rfl rfl dL_isEmptyIn_21 ?_
  refine j_aload_n C0 dL_isEmptyIn_24 rfl 2 rfl ?_
  refine j_aload C0 dL_isEmptyIn_25 6 rfl ?_
  obtain ⟨q2, hcq2, hf⟩ := bd_some hf
  refine j_callS (As := [.ref (ad (14, 1, 0)), .ref (ad (14, 5, 0))]) (rest := []) (stk := []) (G2 := (X.1, X.2, q2)) C0 (c_L_copy hi (Cc := X.1) (Bb := X.2) al_14_1 (ia hi id_l1) al_14_5 hn5 hcq2) kw_L_88 bi_L_copy rfl ⟨by decide, by decide⟩ ⟨Nat.le_of_ble_eq_true rfl, Nat.le_of_ble_eq_true rfl⟩ rfl rfl (Nat.le_of_ble_eq_true rfl) rfl rfl dL_isEmptyIn_27 ?_
  refine j_aload_n C0 dL_isEmptyIn_30 rfl 3 rfl ?_
  refine j_aload C0 dL_isEmptyIn_31 7 rfl ?_
  obtain ⟨q3, hcq3, hf⟩ := bd_some hf
  refine j_callS (As := [.ref (ad (14, 2, 0)), .ref (ad (14, 6, 0))]) (rest := []) (stk := []) (G2 := (X.1, X.2, q3)) C0 (c_L_copy hi (Cc := X.1) (Bb := X.2) al_14_2 (ia hi id_l2) al_14_6 hn6 hcq3) kw_L_88 bi_L_copy rfl ⟨by decide, by decide⟩ ⟨Nat.le_of_ble_eq_true rfl, Nat.le_of_ble_eq_true rfl⟩ rfl rfl (Nat.le_of_ble_eq_true rfl) rfl rfl dL_isEmptyIn_33 ?_
  refine j_iconst (v := 0) C0 dL_isEmptyIn_36 rfl ?_
  refine j_istore (lv' := [(8, .int (0 : Int32)), (0, .ref (ad (0, 0, 0))), (1, .ref (ad (14, 0, 0))), (2, .ref (ad (14, 1, 0))), (3, .ref (ad (14, 2, 0))), (4, .int z4), (5, .ref (ad (14, 4, 0))), (6, .ref (ad (14, 5, 0))), (7, .ref (ad (14, 6, 0)))]) C0 dL_isEmptyIn_37 (by decide) rfl ?_
  exact j_sub [1, 5, 6, 7, 8, 0] rfl (L39 fuel X q3 z4 (0 : Int32) hf)
set_option maxHeartbeats 8000000 in
set_option maxRecDepth 100000 in
theorem c_L_isEmptyIn {l : Launch} {D : va_G} {ca : Nat → ClassId} {ad : I3 → Nat} (hi : adI ad) (hz : 0 < ad (16, 0, 0)) (hs : ad (16, 0, 0) ≤ ad (14, 0, 0)) (h4 : ad (14, 4, 0) = 0) (h5 : ad (14, 5, 0) = 0) (h6 : ad (14, 6, 0) = 0) {X X' : XS} {M M' : Nat → Nat → Int32} {r0 : Int32} {x5 : Int32} (hf : fL_isEmptyIn X M x5 = some (r0, X', M')) : MTa l D ca ad yL_isEmptyIn cL_isEmptyIn 10 (some .boolean) 6 135 3 94 [.ref (ad (0, 0, 0)), .ref (ad (14, 0, 0)), .ref (ad (14, 1, 0)), .ref (ad (14, 2, 0)), .int x5] (X.1, X.2, M) (some (.int r0)) (X'.1, X'.2, M') := by
  refine met_Ja (lv := [(0, .ref (ad (0, 0, 0))), (1, .ref (ad (14, 0, 0))), (2, .ref (ad (14, 1, 0))), (3, .ref (ad (14, 2, 0))), (4, .int x5)]) hi (by decide +kernel) (Nat.le_of_ble_eq_true rfl) rfl (fun p e s m below meth c C0 hr hlt => ?_)
  have hss : ad (16, 0, 0) ≤ s.heap.size := Nat.le_trans hs (Nat.le_of_lt hlt)
  unfold fL_isEmptyIn at hf
  refine j_bipush (v := 19) C0 dL_isEmptyIn_0 rfl ?_
  refine j_newa (r := 4) C0 ac_int0 hz hss (by decide) h4 (by decide) rfl ⟨Nat.le_of_ble_eq_true rfl, Nat.le_of_ble_eq_true rfl⟩ dL_isEmptyIn_2 (fun q4 p4 hi4 eA4 C4 => ?_)
  refine j_astore (lv' := [(5, .ref q4), (0, .ref (ad (0, 0, 0))), (1, .ref (ad (14, 0, 0))), (2, .ref (ad (14, 1, 0))), (3, .ref (ad (14, 2, 0))), (4, .int x5)]) C4 dL_isEmptyIn_4 (by decide) rfl ?_
  refine j_bipush (v := 35) C4 dL_isEmptyIn_6 rfl ?_
  refine j_newa (r := 5) C4 ac_int0 hz hss (by decide) h5 (by decide) rfl ⟨Nat.le_of_ble_eq_true rfl, Nat.le_of_ble_eq_true rfl⟩ dL_isEmptyIn_8 (fun q5 p5 hi5 eA5 C5 => ?_)
  refine j_astore (lv' := [(6, .ref q5), (5, .ref q4), (0, .ref (ad (0, 0, 0))), (1, .ref (ad (14, 0, 0))), (2, .ref (ad (14, 1, 0))), (3, .ref (ad (14, 2, 0))), (4, .int x5)]) C5 dL_isEmptyIn_10 (by decide) rfl ?_
  refine j_bipush (v := 40) C5 dL_isEmptyIn_12 rfl ?_
  refine j_newa (r := 6) C5 ac_int0 hz hss (by decide) h6 (by decide) rfl ⟨Nat.le_of_ble_eq_true rfl, Nat.le_of_ble_eq_true rfl⟩ dL_isEmptyIn_14 (fun q6 p6 hi6 eA6 C6 => ?_)
  refine j_astore (lv' := [(7, .ref q6), (6, .ref q5), (5, .ref q4), (0, .ref (ad (0, 0, 0))), (1, .ref (ad (14, 0, 0))), (2, .ref (ad (14, 1, 0))), (3, .ref (ad (14, 2, 0))), (4, .int x5)]) C6 dL_isEmptyIn_16 (by decide) rfl ?_
  refine j_sub [3, 4, 5, 6, 7, 2, 1, 0] rfl ?_
  refine L_isEmptyIn_tail hi6 (idA_of (by decide +kernel) p4) (idA_of (by decide +kernel) p5) (idA_of (by decide +kernel) p6) C6 (fun lv pc hz9 hd9 => j_zretw C6 C0 (fun i hI => ?_) (fun i hI => ?_) (eA6.trans (eA5.trans eA4)) ⟨Nat.le_of_ble_eq_true rfl, Nat.le_of_ble_eq_true rfl⟩ hr hz9 hd9 rfl rfl) hf
  · exact (adN_t hI).trans ((adN_t hI).trans (adN_t hI))
  · have hp := of_decide_eq_true (List.mem_filter.mp hI).2
    have n4 : i ≠ (14, 4, 0) := fun e => absurd hp (by rw [e, h4]; decide)
    have n5 : i ≠ (14, 5, 0) := fun e => absurd hp (by rw [e, h5]; decide)
    have n6 : i ≠ (14, 6, 0) := fun e => absurd hp (by rw [e, h6]; decide)
    exact (adN_ne n6).trans ((adN_ne n5).trans (adN_ne n4))
