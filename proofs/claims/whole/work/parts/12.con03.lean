set_option maxHeartbeats 4000000 in
set_option maxRecDepth 100000 in
theorem c_X3_clocksEmpty {l : Launch} {D : va_G} {ca : Nat → ClassId} {ad : I3 → Nat} (hi : adI ad) {G0 : GS} {j : Nat} {σ : Nat → Int32} {r0 : Int32} (hj : j < 9) (hf : fS_clocksEmpty σ = some (r0)) : MT l D ca ad yX3_clocksEmpty cX3_clocksEmpty 3 (some .int) 0 0 [.ref (ad (1, j, 0))] (eS G0 j σ) (some (.int r0)) (eS G0 j σ) := by
  refine met_J (lv := [(0, .ref (ad (1, j, 0)))]) hi (by decide +kernel) (Nat.le_of_ble_eq_true rfl) rfl (fun p e s m below meth c C0 hr => ?_)
  have L4 : ∀ (n : Nat) (σ : Nat → Int32) (y1 : Int32) (y2 : Int32), fS_clocksEmpty_L4 n σ y1 y2 = some (r0) → J D ca ad p l e ({ frames := 0, cells := 0, slots := 0, locals := 0 }) s m [.ref (ad (1, j, 0))].toArray below meth c 0 0 (MQ below (post D ca ad (some (.int r0)) (eS G0 j σ)) [.ref (ad (1, j, 0))].toArray s 0 0 (adA ad)) 3 (eS G0 j σ) 4 [(0, .ref (ad (1, j, 0))), (1, .int y1), (2, .int y2)] [] := by
    intro n
    induction n with
    | zero =>
      intro σ y1 y2 hf
      exact (none_ne hf).elim
    | succ n ih =>
      intro σ y1 y2 hf
      rw [fS_clocksEmpty_L4] at hf
      refine j_iload_n C0 dX3_clocksEmpty_4 rfl 2 rfl ?_
      refine j_aload_n C0 dX3_clocksEmpty_5 rfl 0 rfl ?_
      refine j_geti (x := (σ 19)) C0 fl_X3_48 (sl_3_3 hj) (id_1 hj) eS_get dX3_clocksEmpty_6 ?_
      refine j_icmp_ge (tgt := 45) C0 dX3_clocksEmpty_9 (by decide) (fun c1 => ?_) (fun c1 => ?_)
      · have hf := if_t c1 hf
        refine j_iload_n C0 dX3_clocksEmpty_45 rfl 1 rfl ?_
        exact j_iret C0 hr dX3_clocksEmpty_46 (so hf) rfl
      have hf := if_f c1 hf
      refine j_iload_n C0 dX3_clocksEmpty_12 rfl 2 rfl ?_
      refine j_aload_n C0 dX3_clocksEmpty_13 rfl 0 rfl ?_
      refine j_getr (id2 := (2, j, 0)) C0 fl_X3_11 rl_3_0 (id_1 hj) dX3_clocksEmpty_14 ?_
      refine j_alenq (t0 := 3) (n0 := 5) (f := fun i => ad (3, j, i)) (v := (5 : Int32)) C0 rfl rfl (id_2 hj) rfl dX3_clocksEmpty_17 ?_
      refine j_icmp_ge (tgt := 45) C0 dX3_clocksEmpty_18 (by decide) (fun c2 => ?_) (fun c2 => ?_)
      · have hf := if_t c2 hf
        refine j_iload_n C0 dX3_clocksEmpty_45 rfl 1 rfl ?_
        exact j_iret C0 hr dX3_clocksEmpty_46 (so hf) rfl
      have hf := if_f c2 hf
      refine j_aload_n C0 dX3_clocksEmpty_21 rfl 0 rfl ?_
      refine j_getr (id2 := (2, j, 0)) C0 fl_X3_11 rl_3_0 (id_1 hj) dX3_clocksEmpty_22 ?_
      refine j_iload_n C0 dX3_clocksEmpty_25 rfl 2 rfl ?_
      obtain ⟨h3, hf⟩ := gd_some hf
      refine j_aldq (t0 := 3) (n0 := 5) (f := fun i => ad (3, j, i)) C0 rfl rfl (id_2 hj) h3 dX3_clocksEmpty_26 ?_
      refine j_geti (x := (σ (KI y2.toNatClampNeg 3))) C0 fl_X3_197 (sl_1_5 hj (inb_lt h3)) (id_3 hj (inb_lt h3)) eS_get dX3_clocksEmpty_27 ?_
      refine j_if_ne (tgt := 39) C0 dX3_clocksEmpty_30 (by decide) (fun c4 => ?_) (fun c4 => ?_)
      · have hf := if_f c4 hf
        refine j_iinc (v := (y2 + 1)) (lv' := [(2, .int (y2 + 1)), (0, .ref (ad (1, j, 0))), (1, .int y1)]) C0 dX3_clocksEmpty_39 2 rfl rfl (by decide) rfl ?_
        refine j_goto (tgt := 4) C0 dX3_clocksEmpty_42 (by decide) ?_
        exact j_sub [1, 2, 0] rfl (ih σ y1 (y2 + 1) hf)
      have hf := if_t c4 hf
      refine j_iload_n C0 dX3_clocksEmpty_33 rfl 1 rfl ?_
      refine j_iconst (v := 1) C0 dX3_clocksEmpty_34 rfl ?_
      refine j_iload_n C0 dX3_clocksEmpty_35 rfl 2 rfl ?_
      refine j_ishl C0 dX3_clocksEmpty_36 ?_
      refine j_ior C0 dX3_clocksEmpty_37 ?_
      refine j_istore_n (lv' := [(1, .int (y1 ||| ((1 : Int32) <<< (y2 &&& 31)))), (0, .ref (ad (1, j, 0))), (2, .int y2)]) C0 dX3_clocksEmpty_38 rfl (by decide) rfl ?_
      refine j_iinc (v := (y2 + 1)) (lv' := [(2, .int (y2 + 1)), (1, .int (y1 ||| ((1 : Int32) <<< (y2 &&& 31)))), (0, .ref (ad (1, j, 0)))]) C0 dX3_clocksEmpty_39 2 rfl rfl (by decide) rfl ?_
      refine j_goto (tgt := 4) C0 dX3_clocksEmpty_42 (by decide) ?_
      exact j_sub [2, 1, 0] rfl (ih σ (y1 ||| ((1 : Int32) <<< (y2 &&& 31))) (y2 + 1) hf)
  unfold fS_clocksEmpty at hf
  refine j_iconst (v := 0) C0 dX3_clocksEmpty_0 rfl ?_
  refine j_istore_n (lv' := [(1, .int (0 : Int32)), (0, .ref (ad (1, j, 0)))]) C0 dX3_clocksEmpty_1 rfl (by decide) rfl ?_
  refine j_iconst (v := 0) C0 dX3_clocksEmpty_2 rfl ?_
  refine j_istore_n (lv' := [(2, .int (0 : Int32)), (1, .int (0 : Int32)), (0, .ref (ad (1, j, 0)))]) C0 dX3_clocksEmpty_3 rfl (by decide) rfl ?_
  exact j_sub [2, 1, 0] rfl (L4 fuel σ (0 : Int32) (0 : Int32) hf)

set_option maxHeartbeats 4000000 in
set_option maxRecDepth 100000 in
theorem c_X5_count {l : Launch} {D : va_G} {ca : Nat → ClassId} {ad : I3 → Nat} (hi : adI ad) {M0 : Nat → Nat → Int32} {X : XS} {x1 : Int32} {r0 : Int32}  (hf : fX_count X x1 = some (r0)) : MT l D ca ad yX5_count cX5_count 2 (some .int) 5 106 [.ref (ad (0, 0, 0)), .int x1] (X.1, X.2, M0) (some (.int r0)) (X.1, X.2, M0) := by
  refine met_J (lv := [(0, .ref (ad (0, 0, 0))), (1, .int x1)]) hi (by decide +kernel) (Nat.le_of_ble_eq_true rfl) rfl (fun p e s m below meth c C0 hr => ?_)
  unfold fX_count at hf
  refine j_iload_n C0 dX5_count_0 rfl 1 rfl ?_
  by_cases c1 : (x1.toInt < 0 ∨ 25 < x1.toInt)
  · have hf := if_t c1 hf
    refine j_tableOut (tgt := 249) C0 dX5_count_1 c1 (by decide) ?_
    refine j_ldc (v := -1000001) C0 dX5_count_249 cw_X5_78 ?_
    exact j_iret C0 hr dX5_count_251 (so hf) rfl
  have hf := if_f c1 hf
  by_cases c2 : x1 = 0
  · have hf := if_t c2 hf
    refine j_tableEq C0 0 (tgt := 120) c2 dX5_count_1 (by decide) (by decide) rfl (by decide) ?_
    refine j_aload_n C0 dX5_count_120 rfl 0 rfl ?_
    refine j_getr (id2 := (1, 0, 0)) C0 fl_X5_10 rl_5_0 id_c0 dX5_count_121 ?_
    refine j_geti (x := (X.1 0 6)) C0 fl_X5_181 (sl_3_4 (by decide)) (id_1 (by decide)) rfl dX5_count_124 ?_
    exact j_iret C0 hr dX5_count_127 (so hf) rfl
  have hf := if_f c2 hf
  by_cases c3 : x1 = 1
  · have hf := if_t c3 hf
    refine j_tableEq C0 1 (tgt := 128) c3 dX5_count_1 (by decide) (by decide) rfl (by decide) ?_
    refine j_aload_n C0 dX5_count_128 rfl 0 rfl ?_
    refine j_getr (id2 := (1, 0, 0)) C0 fl_X5_10 rl_5_0 id_c0 dX5_count_129 ?_
    refine j_geti (x := (X.1 0 19)) C0 fl_X5_79 (sl_3_3 (by decide)) (id_1 (by decide)) rfl dX5_count_132 ?_
    exact j_iret C0 hr dX5_count_135 (so hf) rfl
  have hf := if_f c3 hf
  by_cases c4 : x1 = 2
  · have hf := if_t c4 hf
    refine j_tableEq C0 2 (tgt := 136) c4 dX5_count_1 (by decide) (by decide) rfl (by decide) ?_
    refine j_aload_n C0 dX5_count_136 rfl 0 rfl ?_
    refine j_getr (id2 := (1, 0, 0)) C0 fl_X5_10 rl_5_0 id_c0 dX5_count_137 ?_
    obtain ⟨q5, hcq5, hf⟩ := bd_some hf
    refine j_callV (As := []) (rest := []) (stk := [.int q5]) (G2 := (X.1, X.2, M0)) C0 (c_X3_clocksOff hi (G0 := (X.1, X.2, M0)) (j := 0) (by decide) hcq5) kw_X5_184 bi_X3_clocksOff bx_X3_clocksOff (id_1 (by decide)) oc_1 (eS_self _ _ _) ⟨by decide, by decide⟩ ⟨Nat.zero_le _, Nat.zero_le _⟩ rfl rfl (Nat.le_of_ble_eq_true rfl) rfl (eS_self _ _ _) dX5_count_140 ?_
    exact j_iret C0 hr dX5_count_143 (so hf) rfl
  have hf := if_f c4 hf
  by_cases c6 : x1 = 3
  · have hf := if_t c6 hf
    refine j_tableEq C0 3 (tgt := 144) c6 dX5_count_1 (by decide) (by decide) rfl (by decide) ?_
    refine j_aload_n C0 dX5_count_144 rfl 0 rfl ?_
    refine j_getr (id2 := (1, 0, 0)) C0 fl_X5_10 rl_5_0 id_c0 dX5_count_145 ?_
    obtain ⟨q7, hcq7, hf⟩ := bd_some hf
    refine j_callV (As := []) (rest := []) (stk := [.int q7]) (G2 := (X.1, X.2, M0)) C0 (c_X3_clocksEmpty hi (G0 := (X.1, X.2, M0)) (j := 0) (by decide) hcq7) kw_X5_187 bi_X3_clocksEmpty bx_X3_clocksEmpty (id_1 (by decide)) oc_1 (eS_self _ _ _) ⟨by decide, by decide⟩ ⟨Nat.zero_le _, Nat.zero_le _⟩ rfl rfl (Nat.le_of_ble_eq_true rfl) rfl (eS_self _ _ _) dX5_count_148 ?_
    exact j_iret C0 hr dX5_count_151 (so hf) rfl
  have hf := if_f c6 hf
  by_cases c8 : x1 = 4
  · have hf := if_t c8 hf
    refine j_tableEq C0 4 (tgt := 152) c8 dX5_count_1 (by decide) (by decide) rfl (by decide) ?_
    refine j_aload_n C0 dX5_count_152 rfl 0 rfl ?_
    refine j_getr (id2 := (1, 0, 0)) C0 fl_X5_10 rl_5_0 id_c0 dX5_count_153 ?_
    refine j_getr (id2 := (5, 0, 0)) C0 fl_X5_135 rl_3_2 (id_1 (by decide)) dX5_count_156 ?_
    refine j_geti (x := (X.1 0 14)) C0 fl_X5_190 (sl_0_2 (by decide)) (id_5 (by decide)) rfl dX5_count_159 ?_
    exact j_iret C0 hr dX5_count_162 (so hf) rfl
  have hf := if_f c8 hf
  by_cases c9 : x1 = 5
  · have hf := if_t c9 hf
    refine j_tableEq C0 5 (tgt := 163) c9 dX5_count_1 (by decide) (by decide) rfl (by decide) ?_
    refine j_aload_n C0 dX5_count_163 rfl 0 rfl ?_
    refine j_getr (id2 := (1, 0, 0)) C0 fl_X5_10 rl_5_0 id_c0 dX5_count_164 ?_
    refine j_getr (id2 := (5, 0, 0)) C0 fl_X5_135 rl_3_2 (id_1 (by decide)) dX5_count_167 ?_
    refine j_geti (x := (X.1 0 15)) C0 fl_X5_193 (sl_0_3 (by decide)) (id_5 (by decide)) rfl dX5_count_170 ?_
    exact j_iret C0 hr dX5_count_173 (so hf) rfl
  have hf := if_f c9 hf
  by_cases c10 : x1 = 6
  · have hf := if_t c10 hf
    refine j_tableEq C0 6 (tgt := 174) c10 dX5_count_1 (by decide) (by decide) rfl (by decide) ?_
    refine j_aload_n C0 dX5_count_174 rfl 0 rfl ?_
    refine j_getr (id2 := (1, 0, 0)) C0 fl_X5_10 rl_5_0 id_c0 dX5_count_175 ?_
    refine j_bipush (v := 10) C0 dX5_count_178 rfl ?_
    obtain ⟨q11, hcq11, hf⟩ := bd_some hf
    refine j_callV (As := [.int (10 : Int32)]) (rest := []) (stk := [.int q11]) (G2 := (X.1, X.2, M0)) C0 (c_X3_together hi (G0 := (X.1, X.2, M0)) (j := 0) (by decide) hcq11) kw_X5_111 bi_X3_together bx_X3_together (id_1 (by decide)) oc_1 (eS_self _ _ _) ⟨by decide, by decide⟩ ⟨Nat.zero_le _, Nat.zero_le _⟩ rfl rfl (Nat.le_of_ble_eq_true rfl) rfl (eS_self _ _ _) dX5_count_180 ?_
    exact j_iret C0 hr dX5_count_183 (so hf) rfl
  have hf := if_f c10 hf
  by_cases c12 : x1 = 7
  · have hf := if_t c12 hf
    refine j_tableEq C0 7 (tgt := 184) c12 dX5_count_1 (by decide) (by decide) rfl (by decide) ?_
    refine j_aload_n C0 dX5_count_184 rfl 0 rfl ?_
    refine j_getr (id2 := (1, 0, 0)) C0 fl_X5_10 rl_5_0 id_c0 dX5_count_185 ?_
    refine j_bipush (v := 7) C0 dX5_count_188 rfl ?_
    obtain ⟨q13, hcq13, hf⟩ := bd_some hf
    refine j_callV (As := [.int (7 : Int32)]) (rest := []) (stk := [.int q13]) (G2 := (X.1, X.2, M0)) C0 (c_X3_together hi (G0 := (X.1, X.2, M0)) (j := 0) (by decide) hcq13) kw_X5_111 bi_X3_together bx_X3_together (id_1 (by decide)) oc_1 (eS_self _ _ _) ⟨by decide, by decide⟩ ⟨Nat.zero_le _, Nat.zero_le _⟩ rfl rfl (Nat.le_of_ble_eq_true rfl) rfl (eS_self _ _ _) dX5_count_190 ?_
    exact j_iret C0 hr dX5_count_193 (so hf) rfl
  have hf := if_f c12 hf
  by_cases c14 : x1 = 8
  · have hf := if_t c14 hf
    refine j_tableEq C0 8 (tgt := 194) c14 dX5_count_1 (by decide) (by decide) rfl (by decide) ?_
    refine j_aload_n C0 dX5_count_194 rfl 0 rfl ?_
    refine j_getr (id2 := (1, 0, 0)) C0 fl_X5_10 rl_5_0 id_c0 dX5_count_195 ?_
    obtain ⟨q15, hcq15, hf⟩ := bd_some hf
    refine j_callV (As := []) (rest := []) (stk := [.int q15]) (G2 := (X.1, X.2, M0)) C0 (c_X3_untilNoon hi (G0 := (X.1, X.2, M0)) (j := 0) (by decide) hcq15) kw_X5_196 bi_X3_untilNoon bx_X3_untilNoon (id_1 (by decide)) oc_1 (eS_self _ _ _) ⟨by decide, by decide⟩ ⟨Nat.zero_le _, Nat.zero_le _⟩ rfl rfl (Nat.le_of_ble_eq_true rfl) rfl (eS_self _ _ _) dX5_count_198 ?_
    exact j_iret C0 hr dX5_count_201 (so hf) rfl
  have hf := if_f c14 hf
  by_cases c16 : x1 = 9
  · have hf := if_t c16 hf
    refine j_tableEq C0 9 (tgt := 202) c16 dX5_count_1 (by decide) (by decide) rfl (by decide) ?_
    refine j_aload_n C0 dX5_count_202 rfl 0 rfl ?_
    refine j_getr (id2 := (1, 0, 0)) C0 fl_X5_10 rl_5_0 id_c0 dX5_count_203 ?_
    refine j_geti (x := (X.1 0 18)) C0 fl_X5_199 (sl_3_9 (by decide)) (id_1 (by decide)) rfl dX5_count_206 ?_
    exact j_iret C0 hr dX5_count_209 (so hf) rfl
  have hf := if_f c16 hf
  by_cases c17 : x1 = 10
  · have hf := if_t c17 hf
    refine j_tableEq C0 10 (tgt := 210) c17 dX5_count_1 (by decide) (by decide) rfl (by decide) ?_
    refine j_aload_n C0 dX5_count_210 rfl 0 rfl ?_
    refine j_getr (id2 := (1, 0, 0)) C0 fl_X5_10 rl_5_0 id_c0 dX5_count_211 ?_
    refine j_getr (id2 := (5, 0, 0)) C0 fl_X5_135 rl_3_2 (id_1 (by decide)) dX5_count_214 ?_
    obtain ⟨q18, hcq18, hf⟩ := bd_some hf
    refine j_callV (As := []) (rest := []) (stk := [.int q18]) (G2 := (X.1, X.2, M0)) C0 (c_X0_size hi (G0 := (X.1, X.2, M0)) (j := 0) (by decide) hcq18) kw_X5_202 bi_X0_size bx_X0_size (id_5 (by decide)) oc_5 (eS_self _ _ _) ⟨by decide, by decide⟩ ⟨Nat.zero_le _, Nat.zero_le _⟩ rfl rfl (Nat.le_of_ble_eq_true rfl) rfl (eS_self _ _ _) dX5_count_217 ?_
    exact j_iret C0 hr dX5_count_220 (so hf) rfl
  have hf := if_f c17 hf
  by_cases c19 : x1 = 11
  · have hf := if_t c19 hf
    refine j_tableEq C0 11 (tgt := 221) c19 dX5_count_1 (by decide) (by decide) rfl (by decide) ?_
    refine j_aload_n C0 dX5_count_221 rfl 0 rfl ?_
    refine j_geti (x := (X.1 13 0)) C0 fl_X5_205 sl_5_7 id_c0 rfl dX5_count_222 ?_
    exact j_iret C0 hr dX5_count_225 (so hf) rfl
  have hf := if_f c19 hf
  by_cases c20 : x1 = 12
  · have hf := if_t c20 hf
    refine j_tableEq C0 12 (tgt := 226) c20 dX5_count_1 (by decide) (by decide) rfl (by decide) ?_
    refine j_aload_n C0 dX5_count_226 rfl 0 rfl ?_
    refine j_getr (id2 := (11, 0, 0)) C0 fl_X5_36 rl_5_5 id_c0 dX5_count_227 ?_
    refine j_geti (x := (X.1 11 0)) C0 fl_X5_208 sl_4_2 id_c11 rfl dX5_count_230 ?_
    exact j_iret C0 hr dX5_count_233 (so hf) rfl
  have hf := if_f c20 hf
  by_cases c21 : x1 = 13
  · have hf := if_t c21 hf
    refine j_tableEq C0 13 (tgt := 249) c21 dX5_count_1 (by decide) (by decide) rfl (by decide) ?_
    refine j_ldc (v := -1000001) C0 dX5_count_249 cw_X5_78 ?_
    exact j_iret C0 hr dX5_count_251 (so hf) rfl
  have hf := if_f c21 hf
  by_cases c22 : x1 = 14
  · have hf := if_t c22 hf
    refine j_tableEq C0 14 (tgt := 249) c22 dX5_count_1 (by decide) (by decide) rfl (by decide) ?_
    refine j_ldc (v := -1000001) C0 dX5_count_249 cw_X5_78 ?_
    exact j_iret C0 hr dX5_count_251 (so hf) rfl
  have hf := if_f c22 hf
  by_cases c23 : x1 = 15
  · have hf := if_t c23 hf
    refine j_tableEq C0 15 (tgt := 249) c23 dX5_count_1 (by decide) (by decide) rfl (by decide) ?_
    refine j_ldc (v := -1000001) C0 dX5_count_249 cw_X5_78 ?_
    exact j_iret C0 hr dX5_count_251 (so hf) rfl
  have hf := if_f c23 hf
  by_cases c24 : x1 = 16
  · have hf := if_t c24 hf
    refine j_tableEq C0 16 (tgt := 249) c24 dX5_count_1 (by decide) (by decide) rfl (by decide) ?_
    refine j_ldc (v := -1000001) C0 dX5_count_249 cw_X5_78 ?_
    exact j_iret C0 hr dX5_count_251 (so hf) rfl
  have hf := if_f c24 hf
  by_cases c25 : x1 = 17
  · have hf := if_t c25 hf
    refine j_tableEq C0 17 (tgt := 249) c25 dX5_count_1 (by decide) (by decide) rfl (by decide) ?_
    refine j_ldc (v := -1000001) C0 dX5_count_249 cw_X5_78 ?_
    exact j_iret C0 hr dX5_count_251 (so hf) rfl
  have hf := if_f c25 hf
  by_cases c26 : x1 = 18
  · have hf := if_t c26 hf
    refine j_tableEq C0 18 (tgt := 249) c26 dX5_count_1 (by decide) (by decide) rfl (by decide) ?_
    refine j_ldc (v := -1000001) C0 dX5_count_249 cw_X5_78 ?_
    exact j_iret C0 hr dX5_count_251 (so hf) rfl
  have hf := if_f c26 hf
  by_cases c27 : x1 = 19
  · have hf := if_t c27 hf
    refine j_tableEq C0 19 (tgt := 249) c27 dX5_count_1 (by decide) (by decide) rfl (by decide) ?_
    refine j_ldc (v := -1000001) C0 dX5_count_249 cw_X5_78 ?_
    exact j_iret C0 hr dX5_count_251 (so hf) rfl
  have hf := if_f c27 hf
  by_cases c28 : x1 = 20
  · have hf := if_t c28 hf
    refine j_tableEq C0 20 (tgt := 234) c28 dX5_count_1 (by decide) (by decide) rfl (by decide) ?_
    refine j_aload_n C0 dX5_count_234 rfl 0 rfl ?_
    refine j_getr (id2 := (1, 0, 0)) C0 fl_X5_10 rl_5_0 id_c0 dX5_count_235 ?_
    refine j_getr (id2 := (4, 0, 0)) C0 fl_X5_211 rl_3_1 (id_1 (by decide)) dX5_count_238 ?_
    refine j_iload_n C0 dX5_count_241 rfl 1 rfl ?_
    refine j_bipush (v := 20) C0 dX5_count_242 rfl ?_
    refine j_isub C0 dX5_count_244 ?_
    obtain ⟨q29, hcq29, hf⟩ := bd_some hf
    refine j_callV (As := [.int (x1 - (20 : Int32))]) (rest := []) (stk := [.int q29]) (G2 := (X.1, X.2, M0)) C0 (c_X2_valueOf hi (G0 := (X.1, X.2, M0)) (j := 0) (by decide) hcq29) kw_X5_215 bi_X2_valueOf bx_X2_valueOf (id_4 (by decide)) oc_4 (eS_self _ _ _) ⟨by decide, by decide⟩ ⟨Nat.zero_le _, Nat.zero_le _⟩ rfl rfl (Nat.le_of_ble_eq_true rfl) rfl (eS_self _ _ _) dX5_count_245 ?_
    exact j_iret C0 hr dX5_count_248 (so hf) rfl
  have hf := if_f c28 hf
  by_cases c30 : x1 = 21
  · have hf := if_t c30 hf
    refine j_tableEq C0 21 (tgt := 234) c30 dX5_count_1 (by decide) (by decide) rfl (by decide) ?_
    refine j_aload_n C0 dX5_count_234 rfl 0 rfl ?_
    refine j_getr (id2 := (1, 0, 0)) C0 fl_X5_10 rl_5_0 id_c0 dX5_count_235 ?_
    refine j_getr (id2 := (4, 0, 0)) C0 fl_X5_211 rl_3_1 (id_1 (by decide)) dX5_count_238 ?_
    refine j_iload_n C0 dX5_count_241 rfl 1 rfl ?_
    refine j_bipush (v := 20) C0 dX5_count_242 rfl ?_
    refine j_isub C0 dX5_count_244 ?_
    obtain ⟨q31, hcq31, hf⟩ := bd_some hf
    refine j_callV (As := [.int (x1 - (20 : Int32))]) (rest := []) (stk := [.int q31]) (G2 := (X.1, X.2, M0)) C0 (c_X2_valueOf hi (G0 := (X.1, X.2, M0)) (j := 0) (by decide) hcq31) kw_X5_215 bi_X2_valueOf bx_X2_valueOf (id_4 (by decide)) oc_4 (eS_self _ _ _) ⟨by decide, by decide⟩ ⟨Nat.zero_le _, Nat.zero_le _⟩ rfl rfl (Nat.le_of_ble_eq_true rfl) rfl (eS_self _ _ _) dX5_count_245 ?_
    exact j_iret C0 hr dX5_count_248 (so hf) rfl
  have hf := if_f c30 hf
  by_cases c32 : x1 = 22
  · have hf := if_t c32 hf
    refine j_tableEq C0 22 (tgt := 234) c32 dX5_count_1 (by decide) (by decide) rfl (by decide) ?_
    refine j_aload_n C0 dX5_count_234 rfl 0 rfl ?_
    refine j_getr (id2 := (1, 0, 0)) C0 fl_X5_10 rl_5_0 id_c0 dX5_count_235 ?_
    refine j_getr (id2 := (4, 0, 0)) C0 fl_X5_211 rl_3_1 (id_1 (by decide)) dX5_count_238 ?_
    refine j_iload_n C0 dX5_count_241 rfl 1 rfl ?_
    refine j_bipush (v := 20) C0 dX5_count_242 rfl ?_
    refine j_isub C0 dX5_count_244 ?_
    obtain ⟨q33, hcq33, hf⟩ := bd_some hf
    refine j_callV (As := [.int (x1 - (20 : Int32))]) (rest := []) (stk := [.int q33]) (G2 := (X.1, X.2, M0)) C0 (c_X2_valueOf hi (G0 := (X.1, X.2, M0)) (j := 0) (by decide) hcq33) kw_X5_215 bi_X2_valueOf bx_X2_valueOf (id_4 (by decide)) oc_4 (eS_self _ _ _) ⟨by decide, by decide⟩ ⟨Nat.zero_le _, Nat.zero_le _⟩ rfl rfl (Nat.le_of_ble_eq_true rfl) rfl (eS_self _ _ _) dX5_count_245 ?_
    exact j_iret C0 hr dX5_count_248 (so hf) rfl
  have hf := if_f c32 hf
  by_cases c34 : x1 = 23
  · have hf := if_t c34 hf
    refine j_tableEq C0 23 (tgt := 234) c34 dX5_count_1 (by decide) (by decide) rfl (by decide) ?_
    refine j_aload_n C0 dX5_count_234 rfl 0 rfl ?_
    refine j_getr (id2 := (1, 0, 0)) C0 fl_X5_10 rl_5_0 id_c0 dX5_count_235 ?_
    refine j_getr (id2 := (4, 0, 0)) C0 fl_X5_211 rl_3_1 (id_1 (by decide)) dX5_count_238 ?_
    refine j_iload_n C0 dX5_count_241 rfl 1 rfl ?_
    refine j_bipush (v := 20) C0 dX5_count_242 rfl ?_
    refine j_isub C0 dX5_count_244 ?_
    obtain ⟨q35, hcq35, hf⟩ := bd_some hf
    refine j_callV (As := [.int (x1 - (20 : Int32))]) (rest := []) (stk := [.int q35]) (G2 := (X.1, X.2, M0)) C0 (c_X2_valueOf hi (G0 := (X.1, X.2, M0)) (j := 0) (by decide) hcq35) kw_X5_215 bi_X2_valueOf bx_X2_valueOf (id_4 (by decide)) oc_4 (eS_self _ _ _) ⟨by decide, by decide⟩ ⟨Nat.zero_le _, Nat.zero_le _⟩ rfl rfl (Nat.le_of_ble_eq_true rfl) rfl (eS_self _ _ _) dX5_count_245 ?_
    exact j_iret C0 hr dX5_count_248 (so hf) rfl
  have hf := if_f c34 hf
  by_cases c36 : x1 = 24
  · have hf := if_t c36 hf
    refine j_tableEq C0 24 (tgt := 234) c36 dX5_count_1 (by decide) (by decide) rfl (by decide) ?_
    refine j_aload_n C0 dX5_count_234 rfl 0 rfl ?_
    refine j_getr (id2 := (1, 0, 0)) C0 fl_X5_10 rl_5_0 id_c0 dX5_count_235 ?_
    refine j_getr (id2 := (4, 0, 0)) C0 fl_X5_211 rl_3_1 (id_1 (by decide)) dX5_count_238 ?_
    refine j_iload_n C0 dX5_count_241 rfl 1 rfl ?_
    refine j_bipush (v := 20) C0 dX5_count_242 rfl ?_
    refine j_isub C0 dX5_count_244 ?_
    obtain ⟨q37, hcq37, hf⟩ := bd_some hf
    refine j_callV (As := [.int (x1 - (20 : Int32))]) (rest := []) (stk := [.int q37]) (G2 := (X.1, X.2, M0)) C0 (c_X2_valueOf hi (G0 := (X.1, X.2, M0)) (j := 0) (by decide) hcq37) kw_X5_215 bi_X2_valueOf bx_X2_valueOf (id_4 (by decide)) oc_4 (eS_self _ _ _) ⟨by decide, by decide⟩ ⟨Nat.zero_le _, Nat.zero_le _⟩ rfl rfl (Nat.le_of_ble_eq_true rfl) rfl (eS_self _ _ _) dX5_count_245 ?_
    exact j_iret C0 hr dX5_count_248 (so hf) rfl
  have hf := if_f c36 hf
  by_cases c38 : x1 = 25
  · have hf := if_t c38 hf
    refine j_tableEq C0 25 (tgt := 234) c38 dX5_count_1 (by decide) (by decide) rfl (by decide) ?_
    refine j_aload_n C0 dX5_count_234 rfl 0 rfl ?_
    refine j_getr (id2 := (1, 0, 0)) C0 fl_X5_10 rl_5_0 id_c0 dX5_count_235 ?_
    refine j_getr (id2 := (4, 0, 0)) C0 fl_X5_211 rl_3_1 (id_1 (by decide)) dX5_count_238 ?_
    refine j_iload_n C0 dX5_count_241 rfl 1 rfl ?_
    refine j_bipush (v := 20) C0 dX5_count_242 rfl ?_
    refine j_isub C0 dX5_count_244 ?_
    obtain ⟨q39, hcq39, hf⟩ := bd_some hf
    refine j_callV (As := [.int (x1 - (20 : Int32))]) (rest := []) (stk := [.int q39]) (G2 := (X.1, X.2, M0)) C0 (c_X2_valueOf hi (G0 := (X.1, X.2, M0)) (j := 0) (by decide) hcq39) kw_X5_215 bi_X2_valueOf bx_X2_valueOf (id_4 (by decide)) oc_4 (eS_self _ _ _) ⟨by decide, by decide⟩ ⟨Nat.zero_le _, Nat.zero_le _⟩ rfl rfl (Nat.le_of_ble_eq_true rfl) rfl (eS_self _ _ _) dX5_count_245 ?_
    exact j_iret C0 hr dX5_count_248 (so hf) rfl
  have hf := if_f c38 hf
  exact (none_ne hf).elim

set_option maxHeartbeats 4000000 in
set_option maxRecDepth 100000 in
theorem c_X5_undo {l : Launch} {D : va_G} {ca : Nat → ClassId} {ad : I3 → Nat} (hi : adI ad) {M0 : Nat → Nat → Int32} {X : XS} {r0 : Int32} {X' : XS}  (hf : fX_undo X = some (r0, X')) : MT l D ca ad yX5_undo cX5_undo 1 (some .int) 3 65 [.ref (ad (0, 0, 0))] (X.1, X.2, M0) (some (.int r0)) (X'.1, X'.2, M0) := by
  refine met_J (lv := [(0, .ref (ad (0, 0, 0)))]) hi (by decide +kernel) (Nat.le_of_ble_eq_true rfl) rfl (fun p e s m below meth c C0 hr => ?_)
  unfold fX_undo at hf
  refine j_aload_n C0 dX5_undo_0 rfl 0 rfl ?_
  refine j_geti (x := (X.1 13 0)) C0 fl_X5_205 sl_5_7 id_c0 rfl dX5_undo_1 ?_
  refine j_iconst (v := 1) C0 dX5_undo_4 rfl ?_
  refine j_icmp_lt (tgt := 20) C0 dX5_undo_5 (by decide) (fun c1 => ?_) (fun c1 => ?_)
  · have hf := if_t c1 hf
    refine j_ldc (v := -1000002) C0 dX5_undo_20 cw_X5_83 ?_
    exact j_iret C0 hr dX5_undo_22 (pr1 hf) (congrArg (fun z => (z.1, z.2, M0)) (pr2 hf))
  have hf := if_f c1 hf
  refine j_aload_n C0 dX5_undo_8 rfl 0 rfl ?_
  refine j_geti (x := (X.1 13 0)) C0 fl_X5_205 sl_5_7 id_c0 rfl dX5_undo_9 ?_
  refine j_aload_n C0 dX5_undo_12 rfl 0 rfl ?_
  refine j_getr (id2 := (8, 0, 0)) C0 fl_X5_22 rl_5_2 id_c0 dX5_undo_13 ?_
  refine j_alenq (t0 := 4) (n0 := 4) (f := fun i => ad (1, (X.2 (1 + i)).val, 0)) (v := (4 : Int32)) C0 rfl rfl id_c8 rfl dX5_undo_16 ?_
  refine j_icmp_le (tgt := 23) C0 dX5_undo_17 (by decide) (fun c2 => ?_) (fun c2 => ?_)
  · have hf := if_t c2 hf
    refine j_aload_n C0 dX5_undo_23 rfl 0 rfl ?_
    refine j_dup C0 dX5_undo_24 rfl ?_
    refine j_geti (x := (X.1 13 0)) C0 fl_X5_205 sl_5_7 id_c0 rfl dX5_undo_25 ?_
    refine j_iconst (v := 1) C0 dX5_undo_28 rfl ?_
    refine j_isub C0 dX5_undo_29 ?_
    obtain ⟨X3, e4, hf⟩ := lt_some hf
    refine j_puti (G' := (X3.1, X3.2, M0)) C0 fl_X5_205 pw_5_7 sl_5_7 id_c0 rfl rfl (by rw [← e4]; try rfl) dX5_undo_30 ?_
    refine j_aload_n C0 dX5_undo_33 rfl 0 rfl ?_
    refine j_getr (id2 := (1, 0, 0)) C0 fl_X5_10 rl_5_0 id_c0 dX5_undo_34 ?_
    refine j_aload_n C0 dX5_undo_37 rfl 0 rfl ?_
    refine j_getr (id2 := (8, 0, 0)) C0 fl_X5_22 rl_5_2 id_c0 dX5_undo_38 ?_
    refine j_aload_n C0 dX5_undo_41 rfl 0 rfl ?_
    refine j_geti (x := (X3.1 13 0)) C0 fl_X5_205 sl_5_7 id_c0 rfl dX5_undo_42 ?_
    obtain ⟨h5, hf⟩ := gd_some hf
    refine j_aldq (t0 := 4) (n0 := 4) (f := fun i => ad (1, (X3.2 (1 + i)).val, 0)) C0 rfl rfl id_c8 h5 dX5_undo_45 ?_
    obtain ⟨q6, hcq6, hf⟩ := bd_some hf
    obtain ⟨X7, e8, hf⟩ := lt_some hf
    refine j_callV (As := [.ref (ad (1, (X3.2 (1 + (X3.1 13 0).toNatClampNeg)).val, 0))]) (rest := []) (stk := []) (G2 := (X7.1, X7.2, M0)) C0 (c_X3_copyFrom hi (R0 := (X3.2, M0)) (by decide) (X3.2 (1 + (X3.1 13 0).toNatClampNeg)).isLt hcq6) kw_X5_40 bi_X3_copyFrom bx_X3_copyFrom (id_1 (by decide)) oc_1 rfl ⟨by decide, by decide⟩ ⟨Nat.zero_le _, Nat.zero_le _⟩ rfl rfl (Nat.le_of_ble_eq_true rfl) rfl (by rw [← e8]; try rfl) dX5_undo_46 ?_
    refine j_aload_n C0 dX5_undo_49 rfl 0 rfl ?_
    refine j_geti (x := (X7.1 13 0)) C0 fl_X5_205 sl_5_7 id_c0 rfl dX5_undo_50 ?_
    exact j_iret C0 hr dX5_undo_53 (pr1 hf) (congrArg (fun z => (z.1, z.2, M0)) (pr2 hf))
  have hf := if_f c2 hf
  refine j_ldc (v := -1000002) C0 dX5_undo_20 cw_X5_83 ?_
  exact j_iret C0 hr dX5_undo_22 (pr1 hf) (congrArg (fun z => (z.1, z.2, M0)) (pr2 hf))

set_option maxHeartbeats 4000000 in
set_option maxRecDepth 100000 in
theorem c_X4_append {l : Launch} {D : va_G} {ca : Nat → ClassId} {ad : I3 → Nat} (hi : adI ad) {R0 : (Nat → Fin 9) × (Nat → Nat → Int32)} {C : Nat → Nat → Int32} {x1 : Int32} {r0 : Int32} {C' : Nat → Nat → Int32}  (hf : fT_append C x1 = some (r0, C')) : MT l D ca ad yX4_append cX4_append 2 (some .int) 0 0 [.ref (ad (11, 0, 0)), .int x1] (C, R0) (some (.int r0)) (C', R0) := by
  refine met_J (lv := [(0, .ref (ad (11, 0, 0))), (1, .int x1)]) hi (by decide +kernel) (Nat.le_of_ble_eq_true rfl) rfl (fun p e s m below meth c C0 hr => ?_)
  unfold fT_append at hf
  refine j_aload_n C0 dX4_append_0 rfl 0 rfl ?_
  refine j_geti (x := (C 11 0)) C0 fl_X4_19 sl_4_2 id_c11 rfl dX4_append_1 ?_
  refine j_if_lt (tgt := 19) C0 dX4_append_4 (by decide) (fun c1 => ?_) (fun c1 => ?_)
  · have hf := if_t c1 hf
    refine j_ldc (v := -1000003) C0 dX4_append_19 cw_X4_23 ?_
    exact j_iret C0 hr dX4_append_21 (pr1 hf) (congrArg (fun z => (z, R0)) (pr2 hf))
  have hf := if_f c1 hf
  refine j_aload_n C0 dX4_append_7 rfl 0 rfl ?_
  refine j_geti (x := (C 11 0)) C0 fl_X4_19 sl_4_2 id_c11 rfl dX4_append_8 ?_
  refine j_aload_n C0 dX4_append_11 rfl 0 rfl ?_
  refine j_getr (id2 := (12, 0, 0)) C0 fl_X4_9 rl_4_0 id_c11 dX4_append_12 ?_
  refine j_alen (v := (60 : Int32)) C0 al_12 rfl id_c12 rfl dX4_append_15 ?_
  refine j_icmp_lt (tgt := 22) C0 dX4_append_16 (by decide) (fun c2 => ?_) (fun c2 => ?_)
  · have hf := if_t c2 hf
    refine j_aload_n C0 dX4_append_22 rfl 0 rfl ?_
    refine j_getr (id2 := (12, 0, 0)) C0 fl_X4_9 rl_4_0 id_c11 dX4_append_23 ?_
    refine j_aload_n C0 dX4_append_26 rfl 0 rfl ?_
    refine j_geti (x := (C 11 0)) C0 fl_X4_19 sl_4_2 id_c11 rfl dX4_append_27 ?_
    refine j_iload_n C0 dX4_append_30 rfl 1 rfl ?_
    obtain ⟨h3, hf⟩ := gd_some hf
    obtain ⟨C4, e5, hf⟩ := lt_some hf
    refine j_cast (G' := (C4, R0)) C0 al_12 rfl id_c12 h3 (by rw [Nat.zero_add]; exact (eC_set e5)) dX4_append_31 ?_
    refine j_aload_n C0 dX4_append_32 rfl 0 rfl ?_
    refine j_dup C0 dX4_append_33 rfl ?_
    refine j_geti (x := (C4 11 0)) C0 fl_X4_19 sl_4_2 id_c11 rfl dX4_append_34 ?_
    refine j_iconst (v := 1) C0 dX4_append_37 rfl ?_
    refine j_iadd C0 dX4_append_38 ?_
    obtain ⟨C6, e7, hf⟩ := lt_some hf
    refine j_puti (G' := (C6, R0)) C0 fl_X4_19 pw_4_2 sl_4_2 id_c11 rfl rfl (eC_set e7) dX4_append_39 ?_
    refine j_aload_n C0 dX4_append_42 rfl 0 rfl ?_
    refine j_geti (x := (C6 11 0)) C0 fl_X4_19 sl_4_2 id_c11 rfl dX4_append_43 ?_
    exact j_iret C0 hr dX4_append_46 (pr1 hf) (congrArg (fun z => (z, R0)) (pr2 hf))
  have hf := if_f c2 hf
  refine j_ldc (v := -1000003) C0 dX4_append_19 cw_X4_23 ?_
  exact j_iret C0 hr dX4_append_21 (pr1 hf) (congrArg (fun z => (z, R0)) (pr2 hf))

set_option maxHeartbeats 4000000 in
set_option maxRecDepth 100000 in
theorem c_X5_type {l : Launch} {D : va_G} {ca : Nat → ClassId} {ad : I3 → Nat} (hi : adI ad) {M0 : Nat → Nat → Int32} {X : XS} {x1 : Int32} {r0 : Int32} {X' : XS}  (hf : fX_type X x1 = some (r0, X')) : MT l D ca ad yX5_type cX5_type 2 (some .int) 1 21 [.ref (ad (0, 0, 0)), .int x1] (X.1, X.2, M0) (some (.int r0)) (X'.1, X'.2, M0) := by
  refine met_J (lv := [(0, .ref (ad (0, 0, 0))), (1, .int x1)]) hi (by decide +kernel) (Nat.le_of_ble_eq_true rfl) rfl (fun p e s m below meth c C0 hr => ?_)
  unfold fX_type at hf
  refine j_iload_n C0 dX5_type_0 rfl 1 rfl ?_
  refine j_bipush (v := 32) C0 dX5_type_1 rfl ?_
  refine j_icmp_lt (tgt := 12) C0 dX5_type_3 (by decide) (fun c1 => ?_) (fun c1 => ?_)
  · have hf := if_t c1 hf
    refine j_ldc (v := -1000001) C0 dX5_type_12 cw_X5_78 ?_
    exact j_iret C0 hr dX5_type_14 (pr1 hf) (congrArg (fun z => (z.1, z.2, M0)) (pr2 hf))
  have hf := if_f c1 hf
  refine j_iload_n C0 dX5_type_6 rfl 1 rfl ?_
  refine j_bipush (v := 126) C0 dX5_type_7 rfl ?_
  refine j_icmp_le (tgt := 15) C0 dX5_type_9 (by decide) (fun c2 => ?_) (fun c2 => ?_)
  · have hf := if_t c2 hf
    refine j_aload_n C0 dX5_type_15 rfl 0 rfl ?_
    refine j_getr (id2 := (11, 0, 0)) C0 fl_X5_36 rl_5_5 id_c0 dX5_type_16 ?_
    refine j_iload_n C0 dX5_type_19 rfl 1 rfl ?_
    refine j_i2c (v := (x1.toUInt32 % 65536).toInt32) C0 dX5_type_20 rfl ?_
    obtain ⟨q3, hcq3, hf⟩ := bd_some hf
    obtain ⟨X4, e5, hf⟩ := lt_some hf
    refine j_callV (As := [.int (x1.toUInt32 % 65536).toInt32]) (rest := []) (stk := [.int q3.1]) (G2 := (X4.1, X4.2, M0)) C0 (c_X4_append hi (R0 := (X.2, M0))  hcq3) kw_X5_220 bi_X4_append bx_X4_append id_c11 oc_11 rfl ⟨by decide, by decide⟩ ⟨Nat.zero_le _, Nat.zero_le _⟩ rfl rfl (Nat.le_of_ble_eq_true rfl) rfl (by rw [← e5]; try rfl) dX5_type_21 ?_
    exact j_iret C0 hr dX5_type_24 (pr1 hf) (congrArg (fun z => (z.1, z.2, M0)) (pr2 hf))
  have hf := if_f c2 hf
  refine j_ldc (v := -1000001) C0 dX5_type_12 cw_X5_78 ?_
  exact j_iret C0 hr dX5_type_14 (pr1 hf) (congrArg (fun z => (z.1, z.2, M0)) (pr2 hf))

set_option maxHeartbeats 4000000 in
set_option maxRecDepth 100000 in
theorem c_X5_clearText {l : Launch} {D : va_G} {ca : Nat → ClassId} {ad : I3 → Nat} (hi : adI ad) {M0 : Nat → Nat → Int32} {X : XS} {r0 : Int32} {X' : XS}  (hf : fX_clearText X = some (r0, X')) : MT l D ca ad yX5_clearText cX5_clearText 2 (some .int) 0 0 [.ref (ad (0, 0, 0))] (X.1, X.2, M0) (some (.int r0)) (X'.1, X'.2, M0) := by
  refine met_J (lv := [(0, .ref (ad (0, 0, 0)))]) hi (by decide +kernel) (Nat.le_of_ble_eq_true rfl) rfl (fun p e s m below meth c C0 hr => ?_)
  unfold fX_clearText at hf
  refine j_aload_n C0 dX5_clearText_0 rfl 0 rfl ?_
  refine j_getr (id2 := (11, 0, 0)) C0 fl_X5_36 rl_5_5 id_c0 dX5_clearText_1 ?_
  refine j_geti (x := (X.1 11 0)) C0 fl_X5_208 sl_4_2 id_c11 rfl dX5_clearText_4 ?_
  refine j_istore_n (lv' := [(1, .int (X.1 11 0)), (0, .ref (ad (0, 0, 0)))]) C0 dX5_clearText_7 rfl (by decide) rfl ?_
  refine j_aload_n C0 dX5_clearText_8 rfl 1 rfl ?_
  refine j_getr (id2 := (11, 0, 0)) C0 fl_X5_36 rl_5_5 id_c0 dX5_clearText_9 ?_
  refine j_iconst (v := 0) C0 dX5_clearText_12 rfl ?_
  obtain ⟨X1, e2, hf⟩ := lt_some hf
  refine j_puti (G' := (X1.1, X1.2, M0)) C0 fl_X5_208 pw_4_2 sl_4_2 id_c11 rfl rfl (by rw [← e2]; try rfl) dX5_clearText_13 ?_
  refine j_iload_n C0 dX5_clearText_16 rfl 0 rfl ?_
  exact j_iret C0 hr dX5_clearText_17 (pr1 hf) (congrArg (fun z => (z.1, z.2, M0)) (pr2 hf))

set_option maxHeartbeats 4000000 in
set_option maxRecDepth 100000 in
theorem c_X4_rewind {l : Launch} {D : va_G} {ca : Nat → ClassId} {ad : I3 → Nat} (hi : adI ad) {R0 : (Nat → Fin 9) × (Nat → Nat → Int32)} {C : Nat → Nat → Int32} {C' : Nat → Nat → Int32}  (hf : fT_rewind C = some (C')) : MT l D ca ad yX4_rewind cX4_rewind 1 none 0 0 [.ref (ad (11, 0, 0))] (C, R0) none (C', R0) := by
  refine met_J (lv := [(0, .ref (ad (11, 0, 0)))]) hi (by decide +kernel) (Nat.le_of_ble_eq_true rfl) rfl (fun p e s m below meth c C0 hr => ?_)
  unfold fT_rewind at hf
  refine j_aload_n C0 dX4_rewind_0 rfl 0 rfl ?_
  refine j_iconst (v := 0) C0 dX4_rewind_1 rfl ?_
  obtain ⟨C1, e2, hf⟩ := lt_some hf
  refine j_puti (G' := (C1, R0)) C0 fl_X4_24 pw_4_3 sl_4_3 id_c11 rfl rfl (eC_set e2) dX4_rewind_2 ?_
  refine j_aload_n C0 dX4_rewind_5 rfl 0 rfl ?_
  refine j_iconst (v := 0) C0 dX4_rewind_6 rfl ?_
  obtain ⟨C3, e4, hf⟩ := lt_some hf
  refine j_puti (G' := (C3, R0)) C0 fl_X4_27 pw_4_6 sl_4_6 id_c11 rfl rfl (eC_set e4) dX4_rewind_7 ?_
  exact j_vret C0 hr dX4_rewind_10 (congrArg (fun z => (z, R0)) (so hf))

set_option maxHeartbeats 4000000 in
set_option maxRecDepth 100000 in
theorem c_X4_signHere {l : Launch} {D : va_G} {ca : Nat → ClassId} {ad : I3 → Nat} (hi : adI ad) {R0 : (Nat → Fin 9) × (Nat → Nat → Int32)} {C : Nat → Nat → Int32} {r0 : Int32}  (hf : fT_signHere C = some (r0)) : MT l D ca ad yX4_signHere cX4_signHere 1 (some .char) 0 0 [.ref (ad (11, 0, 0))] (C, R0) (some (.int r0)) (C, R0) := by
  refine met_J (lv := [(0, .ref (ad (11, 0, 0)))]) hi (by decide +kernel) (Nat.le_of_ble_eq_true rfl) rfl (fun p e s m below meth c C0 hr => ?_)
  unfold fT_signHere at hf
  refine j_aload_n C0 dX4_signHere_0 rfl 0 rfl ?_
  refine j_geti (x := (C 11 1)) C0 fl_X4_24 sl_4_3 id_c11 rfl dX4_signHere_1 ?_
  refine j_if_lt (tgt := 42) C0 dX4_signHere_4 (by decide) (fun c1 => ?_) (fun c1 => ?_)
  · have hf := if_t c1 hf
    refine j_iconst (v := 0) C0 dX4_signHere_42 rfl ?_
    exact j_zret C0 hr rfl dX4_signHere_43 (so hf) rfl
  have hf := if_f c1 hf
  refine j_aload_n C0 dX4_signHere_7 rfl 0 rfl ?_
  refine j_geti (x := (C 11 1)) C0 fl_X4_24 sl_4_3 id_c11 rfl dX4_signHere_8 ?_
  refine j_aload_n C0 dX4_signHere_11 rfl 0 rfl ?_
  refine j_geti (x := (C 11 0)) C0 fl_X4_19 sl_4_2 id_c11 rfl dX4_signHere_12 ?_
  refine j_icmp_ge (tgt := 42) C0 dX4_signHere_15 (by decide) (fun c2 => ?_) (fun c2 => ?_)
  · have hf := if_t c2 hf
    refine j_iconst (v := 0) C0 dX4_signHere_42 rfl ?_
    exact j_zret C0 hr rfl dX4_signHere_43 (so hf) rfl
  have hf := if_f c2 hf
  refine j_aload_n C0 dX4_signHere_18 rfl 0 rfl ?_
  refine j_geti (x := (C 11 1)) C0 fl_X4_24 sl_4_3 id_c11 rfl dX4_signHere_19 ?_
  refine j_aload_n C0 dX4_signHere_22 rfl 0 rfl ?_
  refine j_getr (id2 := (12, 0, 0)) C0 fl_X4_9 rl_4_0 id_c11 dX4_signHere_23 ?_
  refine j_alen (v := (60 : Int32)) C0 al_12 rfl id_c12 rfl dX4_signHere_26 ?_
  refine j_icmp_ge (tgt := 42) C0 dX4_signHere_27 (by decide) (fun c3 => ?_) (fun c3 => ?_)
  · have hf := if_t c3 hf
    refine j_iconst (v := 0) C0 dX4_signHere_42 rfl ?_
    exact j_zret C0 hr rfl dX4_signHere_43 (so hf) rfl
  have hf := if_f c3 hf
  refine j_aload_n C0 dX4_signHere_30 rfl 0 rfl ?_
  refine j_getr (id2 := (12, 0, 0)) C0 fl_X4_9 rl_4_0 id_c11 dX4_signHere_31 ?_
  refine j_aload_n C0 dX4_signHere_34 rfl 0 rfl ?_
  refine j_geti (x := (C 11 1)) C0 fl_X4_24 sl_4_3 id_c11 rfl dX4_signHere_35 ?_
  obtain ⟨h4, hf⟩ := gd_some hf
  refine j_cald (x := (C 9 ((C 11 1).toNatClampNeg))) C0 al_12 rfl id_c12 h4 (by rw [Nat.zero_add]; rfl) dX4_signHere_38 ?_
  refine j_goto (tgt := 43) C0 dX4_signHere_39 (by decide) ?_
  obtain ⟨h5, hf⟩ := gd_some hf
  exact j_zret C0 hr (isC_eq h5) dX4_signHere_43 (so hf) rfl

set_option maxHeartbeats 4000000 in
set_option maxRecDepth 100000 in
theorem c_X4_numbersOf {l : Launch} {D : va_G} {ca : Nat → ClassId} {ad : I3 → Nat} (hi : adI ad) {G0 : GS} {x1 : Int32} {r0 : Int32}  (hf : fT_numbersOf x1 = some (r0)) : MT l D ca ad yX4_numbersOf cX4_numbersOf 1 (some .int) 0 0 [.int x1] G0 (some (.int r0)) G0 := by
  refine met_J (lv := [(0, .int x1)]) hi (by decide +kernel) (Nat.le_of_ble_eq_true rfl) rfl (fun p e s m below meth c C0 hr => ?_)
  unfold fT_numbersOf at hf
  refine j_iload_n C0 dX4_numbersOf_0 rfl 0 rfl ?_
  by_cases c1 : x1 = 99
  · have hf := if_t c1 hf
    refine j_lookupEq C0 99 (off := 59) (tgt := 60) c1 dX4_numbersOf_1 (by decide) (by decide) (by decide) ?_
    refine j_iconst (v := 3) C0 dX4_numbersOf_60 rfl ?_
    exact j_iret C0 hr dX4_numbersOf_61 (so hf) rfl
  have hf := if_f c1 hf
  by_cases c2 : x1 = 108
  · have hf := if_t c2 hf
    refine j_lookupEq C0 108 (off := 61) (tgt := 62) c2 dX4_numbersOf_1 (by decide) (by decide) (by decide) ?_
    refine j_iconst (v := 2) C0 dX4_numbersOf_62 rfl ?_
    exact j_iret C0 hr dX4_numbersOf_63 (so hf) rfl
  have hf := if_f c2 hf
  by_cases c3 : x1 = 112
  · have hf := if_t c3 hf
    refine j_lookupEq C0 112 (off := 61) (tgt := 62) c3 dX4_numbersOf_1 (by decide) (by decide) (by decide) ?_
    refine j_iconst (v := 2) C0 dX4_numbersOf_62 rfl ?_
    exact j_iret C0 hr dX4_numbersOf_63 (so hf) rfl
  have hf := if_f c3 hf
  by_cases c4 : x1 = 116
  · have hf := if_t c4 hf
    refine j_lookupEq C0 116 (off := 63) (tgt := 64) c4 dX4_numbersOf_1 (by decide) (by decide) (by decide) ?_
    refine j_iconst (v := 1) C0 dX4_numbersOf_64 rfl ?_
    exact j_iret C0 hr dX4_numbersOf_65 (so hf) rfl
  have hf := if_f c4 hf
  by_cases c5 : x1 = 119
  · have hf := if_t c5 hf
    refine j_lookupEq C0 119 (off := 61) (tgt := 62) c5 dX4_numbersOf_1 (by decide) (by decide) (by decide) ?_
    refine j_iconst (v := 2) C0 dX4_numbersOf_62 rfl ?_
    exact j_iret C0 hr dX4_numbersOf_63 (so hf) rfl
  have hf := if_f c5 hf
  by_cases c6 : x1 = 120
  · have hf := if_t c6 hf
    refine j_lookupEq C0 120 (off := 63) (tgt := 64) c6 dX4_numbersOf_1 (by decide) (by decide) (by decide) ?_
    refine j_iconst (v := 1) C0 dX4_numbersOf_64 rfl ?_
    exact j_iret C0 hr dX4_numbersOf_65 (so hf) rfl
  have hf := if_f c6 hf
  refine j_lookup (off := 65) (tgt := 66) C0 dX4_numbersOf_1 (by decide) ((lv_osw c1 rfl).trans ((lv_osw c2 rfl).trans ((lv_osw c3 rfl).trans ((lv_osw c4 rfl).trans ((lv_osw c5 rfl).trans ((lv_osw c6 rfl).trans (rfl))))))) (by decide) ?_
  refine j_iconst (v := 0) C0 dX4_numbersOf_66 rfl ?_
  exact j_iret C0 hr dX4_numbersOf_67 (so hf) rfl

set_option maxHeartbeats 4000000 in
set_option maxRecDepth 100000 in
theorem c_X4_isDigit {l : Launch} {D : va_G} {ca : Nat → ClassId} {ad : I3 → Nat} (hi : adI ad) {G0 : GS} {x1 : Int32} {r0 : Int32}  (hf : fT_isDigit x1 = some (r0)) : MT l D ca ad yX4_isDigit cX4_isDigit 1 (some .boolean) 0 0 [.int x1] G0 (some (.int r0)) G0 := by
  refine met_J (lv := [(0, .int x1)]) hi (by decide +kernel) (Nat.le_of_ble_eq_true rfl) rfl (fun p e s m below meth c C0 hr => ?_)
  unfold fT_isDigit at hf
  refine j_iload_n C0 dX4_isDigit_0 rfl 0 rfl ?_
  refine j_bipush (v := 48) C0 dX4_isDigit_1 rfl ?_
  refine j_icmp_lt (tgt := 16) C0 dX4_isDigit_3 (by decide) (fun c1 => ?_) (fun c1 => ?_)
  · have hf := if_t c1 hf
    refine j_iconst (v := 0) C0 dX4_isDigit_16 rfl ?_
    exact j_zret C0 hr rfl dX4_isDigit_17 (so hf) rfl
  have hf := if_f c1 hf
  refine j_iload_n C0 dX4_isDigit_6 rfl 0 rfl ?_
  refine j_bipush (v := 57) C0 dX4_isDigit_7 rfl ?_
  refine j_icmp_gt (tgt := 16) C0 dX4_isDigit_9 (by decide) (fun c2 => ?_) (fun c2 => ?_)
  · have hf := if_t c2 hf
    refine j_iconst (v := 0) C0 dX4_isDigit_16 rfl ?_
    exact j_zret C0 hr rfl dX4_isDigit_17 (so hf) rfl
  have hf := if_f c2 hf
  refine j_iconst (v := 1) C0 dX4_isDigit_12 rfl ?_
  refine j_goto (tgt := 17) C0 dX4_isDigit_13 (by decide) ?_
  exact j_zret C0 hr rfl dX4_isDigit_17 (so hf) rfl

set_option maxHeartbeats 4000000 in
set_option maxRecDepth 100000 in
theorem c_X4_readNumber {l : Launch} {D : va_G} {ca : Nat → ClassId} {ad : I3 → Nat} (hi : adI ad) {R0 : (Nat → Fin 9) × (Nat → Nat → Int32)} {C : Nat → Nat → Int32} {x1 : Int32} {r0 : Int32} {C' : Nat → Nat → Int32}  (hf : fT_readNumber C x1 = some (r0, C')) : MT l D ca ad yX4_readNumber cX4_readNumber 4 (some .boolean) 1 22 [.ref (ad (11, 0, 0)), .int x1] (C, R0) (some (.int r0)) (C', R0) := by
  refine met_J (lv := [(0, .ref (ad (11, 0, 0))), (1, .int x1)]) hi (by decide +kernel) (Nat.le_of_ble_eq_true rfl) rfl (fun p e s m below meth c C0 hr => ?_)
  have L4 : ∀ (n : Nat) (C : Nat → Nat → Int32) (y1 : Int32) (y2 : Int32) (y3 : Int32), fT_readNumber_L4 n C y1 y2 y3 = some (r0, C') → J D ca ad p l e ({ frames := 1, cells := 0, slots := 0, locals := 22 }) s m [.ref (ad (11, 0, 0)), .int x1].toArray below meth c 0 0 (MQ below (post D ca ad (some (.int r0)) (C', R0)) [.ref (ad (11, 0, 0)), .int x1].toArray s 0 0 (adA ad)) 4 (C, R0) 4 [(0, .ref (ad (11, 0, 0))), (1, .int y1), (2, .int y2), (3, .int y3)] [] := by
    intro n
    induction n with
    | zero =>
      intro C y1 y2 y3 hf
      exact (none_ne hf).elim
    | succ n ih =>
      intro C y1 y2 y3 hf
      rw [fT_readNumber_L4] at hf
      refine j_iload_n C0 dX4_readNumber_4 rfl 3 rfl ?_
      refine j_iconst (v := 3) C0 dX4_readNumber_5 rfl ?_
      refine j_icmp_ge (tgt := 48) C0 dX4_readNumber_6 (by decide) (fun c1 => ?_) (fun c1 => ?_)
      · have hf := if_t c1 hf
        refine j_aload_n C0 dX4_readNumber_48 rfl 0 rfl ?_
        refine j_getr (id2 := (13, 0, 0)) C0 fl_X4_15 rl_4_1 id_c11 dX4_readNumber_49 ?_
        refine j_iload_n C0 dX4_readNumber_52 rfl 1 rfl ?_
        refine j_iload_n C0 dX4_readNumber_53 rfl 2 rfl ?_
        obtain ⟨q2, hcq2, hf⟩ := bd_some hf
        obtain ⟨C3, e4, hf⟩ := lt_some hf
        refine j_callSN (As := [.ref (ad (13, 0, 0)), .int y1, .int y2]) (rest := []) (stk := []) (G2 := (C3, R0)) C0 (c_X5_put hi (G0 := (C, R0)) (j := 10) al_13 id_c13 hcq2) kw_X4_71 bi_X5_put (eS_self _ _ _) ⟨by decide, by decide⟩ ⟨Nat.zero_le _, Nat.zero_le _⟩ rfl rfl (Nat.le_of_ble_eq_true rfl) rfl (by rw [← e4]; try rfl) dX4_readNumber_54 ?_
        refine j_iload_n C0 dX4_readNumber_57 rfl 3 rfl ?_
        refine j_if_le (tgt := 65) C0 dX4_readNumber_58 (by decide) (fun c5 => ?_) (fun c5 => ?_)
        · have hf := if_t c5 hf
          refine j_iconst (v := 0) C0 dX4_readNumber_65 rfl ?_
          exact j_zret C0 hr rfl dX4_readNumber_66 (pr1 hf) (congrArg (fun z => (z, R0)) (pr2 hf))
        have hf := if_f c5 hf
        refine j_iconst (v := 1) C0 dX4_readNumber_61 rfl ?_
        refine j_goto (tgt := 66) C0 dX4_readNumber_62 (by decide) ?_
        exact j_zret C0 hr rfl dX4_readNumber_66 (pr1 hf) (congrArg (fun z => (z, R0)) (pr2 hf))
      have hf := if_f c1 hf
      refine j_aload_n C0 dX4_readNumber_9 rfl 0 rfl ?_
      obtain ⟨q6, hcq6, hf⟩ := bd_some hf
      refine j_callV (As := []) (rest := []) (stk := [.int q6]) (G2 := (C, R0)) C0 (c_X4_signHere hi (R0 := R0)  hcq6) kw_X4_48 bi_X4_signHere bx_X4_signHere id_c11 oc_11 rfl ⟨by decide, by decide⟩ ⟨Nat.zero_le _, Nat.zero_le _⟩ rfl rfl (Nat.le_of_ble_eq_true rfl) rfl rfl dX4_readNumber_10 ?_
      obtain ⟨q7, hcq7, hf⟩ := bd_some hf
      refine j_callS (As := [.int q6]) (rest := []) (stk := [.int q7]) (G2 := (C, R0)) C0 (c_X4_isDigit hi (G0 := (C, R0))  hcq7) kw_X4_68 bi_X4_isDigit rfl ⟨by decide, by decide⟩ ⟨Nat.zero_le _, Nat.zero_le _⟩ rfl rfl (Nat.le_of_ble_eq_true rfl) rfl rfl dX4_readNumber_13 ?_
      refine j_if_eq (tgt := 48) C0 dX4_readNumber_16 (by decide) (fun c8 => ?_) (fun c8 => ?_)
      · have hf := if_t c8 hf
        refine j_aload_n C0 dX4_readNumber_48 rfl 0 rfl ?_
        refine j_getr (id2 := (13, 0, 0)) C0 fl_X4_15 rl_4_1 id_c11 dX4_readNumber_49 ?_
        refine j_iload_n C0 dX4_readNumber_52 rfl 1 rfl ?_
        refine j_iload_n C0 dX4_readNumber_53 rfl 2 rfl ?_
        obtain ⟨q9, hcq9, hf⟩ := bd_some hf
        obtain ⟨C10, e11, hf⟩ := lt_some hf
        refine j_callSN (As := [.ref (ad (13, 0, 0)), .int y1, .int y2]) (rest := []) (stk := []) (G2 := (C10, R0)) C0 (c_X5_put hi (G0 := (C, R0)) (j := 10) al_13 id_c13 hcq9) kw_X4_71 bi_X5_put (eS_self _ _ _) ⟨by decide, by decide⟩ ⟨Nat.zero_le _, Nat.zero_le _⟩ rfl rfl (Nat.le_of_ble_eq_true rfl) rfl (by rw [← e11]; try rfl) dX4_readNumber_54 ?_
        refine j_iload_n C0 dX4_readNumber_57 rfl 3 rfl ?_
        refine j_if_le (tgt := 65) C0 dX4_readNumber_58 (by decide) (fun c12 => ?_) (fun c12 => ?_)
        · have hf := if_t c12 hf
          refine j_iconst (v := 0) C0 dX4_readNumber_65 rfl ?_
          exact j_zret C0 hr rfl dX4_readNumber_66 (pr1 hf) (congrArg (fun z => (z, R0)) (pr2 hf))
        have hf := if_f c12 hf
        refine j_iconst (v := 1) C0 dX4_readNumber_61 rfl ?_
        refine j_goto (tgt := 66) C0 dX4_readNumber_62 (by decide) ?_
        exact j_zret C0 hr rfl dX4_readNumber_66 (pr1 hf) (congrArg (fun z => (z, R0)) (pr2 hf))
      have hf := if_f c8 hf
      refine j_iload_n C0 dX4_readNumber_19 rfl 2 rfl ?_
      refine j_bipush (v := 10) C0 dX4_readNumber_20 rfl ?_
      refine j_imul C0 dX4_readNumber_22 ?_
      refine j_aload_n C0 dX4_readNumber_23 rfl 0 rfl ?_
      obtain ⟨q13, hcq13, hf⟩ := bd_some hf
      refine j_callV (As := []) (rest := [.int (y2 * (10 : Int32))]) (stk := [.int q13, .int (y2 * (10 : Int32))]) (G2 := (C, R0)) C0 (c_X4_signHere hi (R0 := R0)  hcq13) kw_X4_48 bi_X4_signHere bx_X4_signHere id_c11 oc_11 rfl ⟨by decide, by decide⟩ ⟨Nat.zero_le _, Nat.zero_le _⟩ rfl rfl (Nat.le_of_ble_eq_true rfl) rfl rfl dX4_readNumber_24 ?_
      refine j_bipush (v := 48) C0 dX4_readNumber_27 rfl ?_
      refine j_isub C0 dX4_readNumber_29 ?_
      refine j_iadd C0 dX4_readNumber_30 ?_
      refine j_istore_n (lv' := [(2, .int ((y2 * (10 : Int32)) + (q13 - (48 : Int32)))), (0, .ref (ad (11, 0, 0))), (1, .int y1), (3, .int y3)]) C0 dX4_readNumber_31 rfl (by decide) rfl ?_
      refine j_iinc (v := (y3 + 1)) (lv' := [(3, .int (y3 + 1)), (2, .int ((y2 * (10 : Int32)) + (q13 - (48 : Int32)))), (0, .ref (ad (11, 0, 0))), (1, .int y1)]) C0 dX4_readNumber_32 3 rfl rfl (by decide) rfl ?_
      refine j_aload_n C0 dX4_readNumber_35 rfl 2 rfl ?_
      refine j_dup C0 dX4_readNumber_36 rfl ?_
      refine j_geti (x := (C 11 1)) C0 fl_X4_24 sl_4_3 id_c11 rfl dX4_readNumber_37 ?_
      refine j_iconst (v := 1) C0 dX4_readNumber_40 rfl ?_
      refine j_iadd C0 dX4_readNumber_41 ?_
      obtain ⟨C14, e15, hf⟩ := lt_some hf
      refine j_puti (G' := (C14, R0)) C0 fl_X4_24 pw_4_3 sl_4_3 id_c11 rfl rfl (eC_set e15) dX4_readNumber_42 ?_
      refine j_goto (tgt := 4) C0 dX4_readNumber_45 (by decide) ?_
      exact j_sub [2, 3, 1, 0] rfl (ih C14 y1 ((y2 * (10 : Int32)) + (q13 - (48 : Int32))) (y3 + 1) hf)
  unfold fT_readNumber at hf
  refine j_iconst (v := 0) C0 dX4_readNumber_0 rfl ?_
  refine j_istore_n (lv' := [(2, .int (0 : Int32)), (0, .ref (ad (11, 0, 0))), (1, .int x1)]) C0 dX4_readNumber_1 rfl (by decide) rfl ?_
  refine j_iconst (v := 0) C0 dX4_readNumber_2 rfl ?_
  refine j_istore_n (lv' := [(3, .int (0 : Int32)), (2, .int (0 : Int32)), (0, .ref (ad (11, 0, 0))), (1, .int x1)]) C0 dX4_readNumber_3 rfl (by decide) rfl ?_
  exact j_sub [2, 3, 1, 0] rfl (L4 fuel C x1 (0 : Int32) (0 : Int32) hf)

set_option maxHeartbeats 4000000 in
set_option maxRecDepth 100000 in
theorem c_X4_readSign {l : Launch} {D : va_G} {ca : Nat → ClassId} {ad : I3 → Nat} (hi : adI ad) {R0 : (Nat → Fin 9) × (Nat → Nat → Int32)} {C : Nat → Nat → Int32} {x1 : Int32} {r0 : Int32} {C' : Nat → Nat → Int32}  (hf : fT_readSign C x1 = some (r0, C')) : MT l D ca ad yX4_readSign cX4_readSign 2 (some .boolean) 1 20 [.ref (ad (11, 0, 0)), .int x1] (C, R0) (some (.int r0)) (C', R0) := by
  refine met_J (lv := [(0, .ref (ad (11, 0, 0))), (1, .int x1)]) hi (by decide +kernel) (Nat.le_of_ble_eq_true rfl) rfl (fun p e s m below meth c C0 hr => ?_)
  unfold fT_readSign at hf
  refine j_aload_n C0 dX4_readSign_0 rfl 0 rfl ?_
  obtain ⟨q1, hcq1, hf⟩ := bd_some hf
  refine j_callV (As := []) (rest := []) (stk := [.int q1]) (G2 := (C, R0)) C0 (c_X4_signHere hi (R0 := R0)  hcq1) kw_X4_48 bi_X4_signHere bx_X4_signHere id_c11 oc_11 rfl ⟨by decide, by decide⟩ ⟨Nat.zero_le _, Nat.zero_le _⟩ rfl rfl (Nat.le_of_ble_eq_true rfl) rfl rfl dX4_readSign_1 ?_
  refine j_iload_n C0 dX4_readSign_4 rfl 1 rfl ?_
  refine j_icmp_eq (tgt := 10) C0 dX4_readSign_5 (by decide) (fun c2 => ?_) (fun c2 => ?_)
  · have hf := if_t c2 hf
    refine j_aload_n C0 dX4_readSign_10 rfl 0 rfl ?_
    refine j_dup C0 dX4_readSign_11 rfl ?_
    refine j_geti (x := (C 11 1)) C0 fl_X4_24 sl_4_3 id_c11 rfl dX4_readSign_12 ?_
    refine j_iconst (v := 1) C0 dX4_readSign_15 rfl ?_
    refine j_iadd C0 dX4_readSign_16 ?_
    obtain ⟨C3, e4, hf⟩ := lt_some hf
    refine j_puti (G' := (C3, R0)) C0 fl_X4_24 pw_4_3 sl_4_3 id_c11 rfl rfl (eC_set e4) dX4_readSign_17 ?_
    refine j_iconst (v := 1) C0 dX4_readSign_20 rfl ?_
    exact j_zret C0 hr rfl dX4_readSign_21 (pr1 hf) (congrArg (fun z => (z, R0)) (pr2 hf))
  have hf := if_f c2 hf
  refine j_iconst (v := 0) C0 dX4_readSign_8 rfl ?_
  exact j_zret C0 hr rfl dX4_readSign_9 (pr1 hf) (congrArg (fun z => (z, R0)) (pr2 hf))

set_option maxHeartbeats 4000000 in
set_option maxRecDepth 100000 in
theorem c_X4_readForm {l : Launch} {D : va_G} {ca : Nat → ClassId} {ad : I3 → Nat} (hi : adI ad) {R0 : (Nat → Fin 9) × (Nat → Nat → Int32)} {C : Nat → Nat → Int32} {r0 : Int32} {C' : Nat → Nat → Int32}  (hf : fT_readForm C = some (r0, C')) : MT l D ca ad yX4_readForm cX4_readForm 3 (some .boolean) 2 45 [.ref (ad (11, 0, 0))] (C, R0) (some (.int r0)) (C', R0) := by
  refine met_J (lv := [(0, .ref (ad (11, 0, 0)))]) hi (by decide +kernel) (Nat.le_of_ble_eq_true rfl) rfl (fun p e s m below meth c C0 hr => ?_)
  have L34 : ∀ (n : Nat) (C : Nat → Nat → Int32) (y1 : Int32) (y2 : Int32), fT_readForm_L34 n C y1 y2 = some (r0, C') → J D ca ad p l e ({ frames := 2, cells := 0, slots := 0, locals := 45 }) s m [.ref (ad (11, 0, 0))].toArray below meth c 0 0 (MQ below (post D ca ad (some (.int r0)) (C', R0)) [.ref (ad (11, 0, 0))].toArray s 0 0 (adA ad)) 3 (C, R0) 34 [(0, .ref (ad (11, 0, 0))), (1, .int y1), (2, .int y2)] [] := by
    intro n
    induction n with
    | zero =>
      intro C y1 y2 hf
      exact (none_ne hf).elim
    | succ n ih =>
      intro C y1 y2 hf
      rw [fT_readForm_L34] at hf
      refine j_iload_n C0 dX4_readForm_34 rfl 2 rfl ?_
      refine j_iload_n C0 dX4_readForm_35 rfl 1 rfl ?_
      refine j_icmp_ge (tgt := 76) C0 dX4_readForm_36 (by decide) (fun c9 => ?_) (fun c9 => ?_)
      · have hf := if_t c9 hf
        refine j_iconst (v := 1) C0 dX4_readForm_76 rfl ?_
        exact j_zret C0 hr rfl dX4_readForm_77 (pr1 hf) (congrArg (fun z => (z, R0)) (pr2 hf))
      have hf := if_f c9 hf
      refine j_aload_n C0 dX4_readForm_39 rfl 0 rfl ?_
      refine j_iload_n C0 dX4_readForm_40 rfl 2 rfl ?_
      obtain ⟨q10, hcq10, hf⟩ := bd_some hf
      refine j_callV (As := [.int y2]) (rest := []) (stk := [.int q10.1]) (G2 := (q10.2, R0)) C0 (c_X4_readNumber hi (R0 := R0)  hcq10) kw_X4_60 bi_X4_readNumber bx_X4_readNumber id_c11 oc_11 rfl ⟨by decide, by decide⟩ ⟨Nat.zero_le _, Nat.zero_le _⟩ rfl rfl (Nat.le_of_ble_eq_true rfl) rfl rfl dX4_readForm_41 ?_
      refine j_if_eq (tgt := 68) C0 dX4_readForm_44 (by decide) (fun c11 => ?_) (fun c11 => ?_)
      · have hf := if_t c11 hf
        refine j_iconst (v := 0) C0 dX4_readForm_68 rfl ?_
        exact j_zret C0 hr rfl dX4_readForm_69 (pr1 hf) (congrArg (fun z => (z, R0)) (pr2 hf))
      have hf := if_f c11 hf
      refine j_aload_n C0 dX4_readForm_47 rfl 0 rfl ?_
      refine j_iload_n C0 dX4_readForm_48 rfl 2 rfl ?_
      refine j_iconst (v := 1) C0 dX4_readForm_49 rfl ?_
      refine j_iadd C0 dX4_readForm_50 ?_
      refine j_iload_n C0 dX4_readForm_51 rfl 1 rfl ?_
      refine j_icmp_ge (tgt := 60) C0 dX4_readForm_52 (by decide) (fun c12 => ?_) (fun c12 => ?_)
      · have hf := if_t c12 hf
        refine j_bipush (v := 59) C0 dX4_readForm_60 rfl ?_
        obtain ⟨q13, hcq13, hf⟩ := bd_some hf
        refine j_callV (As := [.int (59 : Int32)]) (rest := []) (stk := [.int q13.1]) (G2 := (q13.2, R0)) C0 (c_X4_readSign hi (R0 := R0)  hcq13) kw_X4_64 bi_X4_readSign bx_X4_readSign id_c11 oc_11 rfl ⟨by decide, by decide⟩ ⟨Nat.zero_le _, Nat.zero_le _⟩ rfl rfl (Nat.le_of_ble_eq_true rfl) rfl rfl dX4_readForm_62 ?_
        refine j_if_ne (tgt := 70) C0 dX4_readForm_65 (by decide) (fun c14 => ?_) (fun c14 => ?_)
        · have hf := if_f c14 hf
          refine j_iinc (v := (y2 + 1)) (lv' := [(2, .int (y2 + 1)), (0, .ref (ad (11, 0, 0))), (1, .int y1)]) C0 dX4_readForm_70 2 rfl rfl (by decide) rfl ?_
          refine j_goto (tgt := 34) C0 dX4_readForm_73 (by decide) ?_
          exact j_sub [1, 2, 0] rfl (ih q13.2 y1 (y2 + 1) hf)
        have hf := if_t c14 hf
        refine j_iconst (v := 0) C0 dX4_readForm_68 rfl ?_
        exact j_zret C0 hr rfl dX4_readForm_69 (pr1 hf) (congrArg (fun z => (z, R0)) (pr2 hf))
      have hf := if_f c12 hf
      refine j_bipush (v := 44) C0 dX4_readForm_55 rfl ?_
      refine j_goto (tgt := 62) C0 dX4_readForm_57 (by decide) ?_
      obtain ⟨q15, hcq15, hf⟩ := bd_some hf
      refine j_callV (As := [.int (44 : Int32)]) (rest := []) (stk := [.int q15.1]) (G2 := (q15.2, R0)) C0 (c_X4_readSign hi (R0 := R0)  hcq15) kw_X4_64 bi_X4_readSign bx_X4_readSign id_c11 oc_11 rfl ⟨by decide, by decide⟩ ⟨Nat.zero_le _, Nat.zero_le _⟩ rfl rfl (Nat.le_of_ble_eq_true rfl) rfl rfl dX4_readForm_62 ?_
      refine j_if_ne (tgt := 70) C0 dX4_readForm_65 (by decide) (fun c16 => ?_) (fun c16 => ?_)
      · have hf := if_f c16 hf
        refine j_iinc (v := (y2 + 1)) (lv' := [(2, .int (y2 + 1)), (0, .ref (ad (11, 0, 0))), (1, .int y1)]) C0 dX4_readForm_70 2 rfl rfl (by decide) rfl ?_
        refine j_goto (tgt := 34) C0 dX4_readForm_73 (by decide) ?_
        exact j_sub [1, 2, 0] rfl (ih q15.2 y1 (y2 + 1) hf)
      have hf := if_t c16 hf
      refine j_iconst (v := 0) C0 dX4_readForm_68 rfl ?_
      exact j_zret C0 hr rfl dX4_readForm_69 (pr1 hf) (congrArg (fun z => (z, R0)) (pr2 hf))
  unfold fT_readForm at hf
  refine j_aload_n C0 dX4_readForm_0 rfl 0 rfl ?_
  refine j_aload_n C0 dX4_readForm_1 rfl 0 rfl ?_
  obtain ⟨q1, hcq1, hf⟩ := bd_some hf
  refine j_callV (As := []) (rest := [.ref (ad (11, 0, 0))]) (stk := [.int q1, .ref (ad (11, 0, 0))]) (G2 := (C, R0)) C0 (c_X4_signHere hi (R0 := R0)  hcq1) kw_X4_48 bi_X4_signHere bx_X4_signHere id_c11 oc_11 rfl ⟨by decide, by decide⟩ ⟨Nat.zero_le _, Nat.zero_le _⟩ rfl rfl (Nat.le_of_ble_eq_true rfl) rfl rfl dX4_readForm_2 ?_
  obtain ⟨h2, hf⟩ := gd_some hf
  obtain ⟨C3, e4, hf⟩ := lt_some hf
  refine j_puti (G' := (C3, R0)) C0 fl_X4_52 pw_4_5 sl_4_5 id_c11 (isC_eq h2) (isC_fit h2) (eC_set e4) dX4_readForm_5 ?_
  refine j_aload_n C0 dX4_readForm_8 rfl 0 rfl ?_
  refine j_geti (x := (C3 11 3)) C0 fl_X4_52 sl_4_5 id_c11 rfl dX4_readForm_9 ?_
  obtain ⟨q5, hcq5, hf⟩ := bd_some hf
  refine j_callS (As := [.int (C3 11 3)]) (rest := []) (stk := [.int q5]) (G2 := (C3, R0)) C0 (c_X4_numbersOf hi (G0 := (C3, R0))  hcq5) kw_X4_56 bi_X4_numbersOf rfl ⟨by decide, by decide⟩ ⟨Nat.zero_le _, Nat.zero_le _⟩ rfl rfl (Nat.le_of_ble_eq_true rfl) rfl rfl dX4_readForm_12 ?_
  refine j_istore_n (lv' := [(1, .int q5), (0, .ref (ad (11, 0, 0)))]) C0 dX4_readForm_15 rfl (by decide) rfl ?_
  refine j_iload_n C0 dX4_readForm_16 rfl 0 rfl ?_
  refine j_if_ne (tgt := 22) C0 dX4_readForm_17 (by decide) (fun c6 => ?_) (fun c6 => ?_)
  · have hf := if_f c6 hf
    refine j_aload_n C0 dX4_readForm_22 rfl 1 rfl ?_
    refine j_dup C0 dX4_readForm_23 rfl ?_
    refine j_geti (x := (C3 11 1)) C0 fl_X4_24 sl_4_3 id_c11 rfl dX4_readForm_24 ?_
    refine j_iconst (v := 1) C0 dX4_readForm_27 rfl ?_
    refine j_iadd C0 dX4_readForm_28 ?_
    obtain ⟨C7, e8, hf⟩ := lt_some hf
    refine j_puti (G' := (C7, R0)) C0 fl_X4_24 pw_4_3 sl_4_3 id_c11 rfl rfl (eC_set e8) dX4_readForm_29 ?_
    refine j_iconst (v := 0) C0 dX4_readForm_32 rfl ?_
    refine j_istore_n (lv' := [(2, .int (0 : Int32)), (1, .int q5), (0, .ref (ad (11, 0, 0)))]) C0 dX4_readForm_33 rfl (by decide) rfl ?_
    exact j_sub [2, 1, 0] rfl (L34 fuel C7 q5 (0 : Int32) hf)
  have hf := if_t c6 hf
  refine j_iconst (v := 0) C0 dX4_readForm_20 rfl ?_
  exact j_zret C0 hr rfl dX4_readForm_21 (pr1 hf) (congrArg (fun z => (z, R0)) (pr2 hf))

set_option maxHeartbeats 4000000 in
set_option maxRecDepth 100000 in
theorem c_X4_tellFault {l : Launch} {D : va_G} {ca : Nat → ClassId} {ad : I3 → Nat} (hi : adI ad) {R0 : (Nat → Fin 9) × (Nat → Nat → Int32)} {C : Nat → Nat → Int32} {x1 : Int32} {x2 : Int32} {C' : Nat → Nat → Int32}  (hf : fT_tellFault C x1 x2 = some (C')) : MT l D ca ad yX4_tellFault cX4_tellFault 3 none 0 0 [.ref (ad (11, 0, 0)), .int x1, .int x2] (C, R0) none (C', R0) := by
  refine met_J (lv := [(0, .ref (ad (11, 0, 0))), (1, .int x1), (2, .int x2)]) hi (by decide +kernel) (Nat.le_of_ble_eq_true rfl) rfl (fun p e s m below meth c C0 hr => ?_)
  unfold fT_tellFault at hf
  refine j_aload_n C0 dX4_tellFault_0 rfl 0 rfl ?_
  refine j_iload_n C0 dX4_tellFault_1 rfl 1 rfl ?_
  obtain ⟨C1, e2, hf⟩ := lt_some hf
  refine j_puti (G' := (C1, R0)) C0 fl_X4_27 pw_4_6 sl_4_6 id_c11 rfl rfl (eC_set e2) dX4_tellFault_2 ?_
  refine j_aload_n C0 dX4_tellFault_5 rfl 0 rfl ?_
  refine j_iload_n C0 dX4_tellFault_6 rfl 2 rfl ?_
  obtain ⟨C3, e4, hf⟩ := lt_some hf
  refine j_puti (G' := (C3, R0)) C0 fl_X4_30 pw_4_7 sl_4_7 id_c11 rfl rfl (eC_set e4) dX4_tellFault_7 ?_
  exact j_vret C0 hr dX4_tellFault_10 (congrArg (fun z => (z, R0)) (so hf))

set_option maxHeartbeats 4000000 in
set_option maxRecDepth 100000 in
theorem c_X4_readOrder {l : Launch} {D : va_G} {ca : Nat → ClassId} {ad : I3 → Nat} (hi : adI ad) {R0 : (Nat → Fin 9) × (Nat → Nat → Int32)} {C : Nat → Nat → Int32} {r0 : Int32} {C' : Nat → Nat → Int32}  (hf : fT_readOrder C = some (r0, C')) : MT l D ca ad yX4_readOrder cX4_readOrder 1 (some .boolean) 3 67 [.ref (ad (11, 0, 0))] (C, R0) (some (.int r0)) (C', R0) := by
  refine met_J (lv := [(0, .ref (ad (11, 0, 0)))]) hi (by decide +kernel) (Nat.le_of_ble_eq_true rfl) rfl (fun p e s m below meth c C0 hr => ?_)
  unfold fT_readOrder at hf
  refine j_aload_n C0 dX4_readOrder_0 rfl 0 rfl ?_
  refine j_geti (x := (C 11 1)) C0 fl_X4_24 sl_4_3 id_c11 rfl dX4_readOrder_1 ?_
  refine j_aload_n C0 dX4_readOrder_4 rfl 0 rfl ?_
  refine j_geti (x := (C 11 0)) C0 fl_X4_19 sl_4_2 id_c11 rfl dX4_readOrder_5 ?_
  refine j_icmp_lt (tgt := 13) C0 dX4_readOrder_8 (by decide) (fun c1 => ?_) (fun c1 => ?_)
  · have hf := if_t c1 hf
    refine j_aload_n C0 dX4_readOrder_13 rfl 0 rfl ?_
    refine j_aload_n C0 dX4_readOrder_14 rfl 0 rfl ?_
    refine j_geti (x := (C 11 1)) C0 fl_X4_24 sl_4_3 id_c11 rfl dX4_readOrder_15 ?_
    obtain ⟨C2, e3, hf⟩ := lt_some hf
    refine j_puti (G' := (C2, R0)) C0 fl_X4_37 pw_4_4 sl_4_4 id_c11 rfl rfl (eC_set e3) dX4_readOrder_18 ?_
    refine j_aload_n C0 dX4_readOrder_21 rfl 0 rfl ?_
    obtain ⟨q4, hcq4, hf⟩ := bd_some hf
    refine j_callV (As := []) (rest := []) (stk := [.int q4.1]) (G2 := (q4.2, R0)) C0 (c_X4_readForm hi (R0 := R0)  hcq4) kw_X4_40 bi_X4_readForm bx_X4_readForm id_c11 oc_11 rfl ⟨by decide, by decide⟩ ⟨Nat.zero_le _, Nat.zero_le _⟩ rfl rfl (Nat.le_of_ble_eq_true rfl) rfl rfl dX4_readOrder_22 ?_
    refine j_if_eq (tgt := 30) C0 dX4_readOrder_25 (by decide) (fun c5 => ?_) (fun c5 => ?_)
    · have hf := if_t c5 hf
      refine j_aload_n C0 dX4_readOrder_30 rfl 0 rfl ?_
      refine j_iconst (v := 1) C0 dX4_readOrder_31 rfl ?_
      refine j_aload_n C0 dX4_readOrder_32 rfl 0 rfl ?_
      refine j_geti (x := (q4.2 11 1)) C0 fl_X4_24 sl_4_3 id_c11 rfl dX4_readOrder_33 ?_
      refine j_aload_n C0 dX4_readOrder_36 rfl 0 rfl ?_
      refine j_geti (x := (q4.2 11 2)) C0 fl_X4_37 sl_4_4 id_c11 rfl dX4_readOrder_37 ?_
      refine j_isub C0 dX4_readOrder_40 ?_
      obtain ⟨q6, hcq6, hf⟩ := bd_some hf
      refine j_callV (As := [.int (1 : Int32), .int ((q4.2 11 1) - (q4.2 11 2))]) (rest := []) (stk := []) (G2 := (q6, R0)) C0 (c_X4_tellFault hi (R0 := R0)  hcq6) kw_X4_44 bi_X4_tellFault bx_X4_tellFault id_c11 oc_11 rfl ⟨by decide, by decide⟩ ⟨Nat.zero_le _, Nat.zero_le _⟩ rfl rfl (Nat.le_of_ble_eq_true rfl) rfl rfl dX4_readOrder_41 ?_
      refine j_iconst (v := 0) C0 dX4_readOrder_44 rfl ?_
      exact j_zret C0 hr rfl dX4_readOrder_45 (pr1 hf) (congrArg (fun z => (z, R0)) (pr2 hf))
    have hf := if_f c5 hf
    refine j_iconst (v := 1) C0 dX4_readOrder_28 rfl ?_
    exact j_zret C0 hr rfl dX4_readOrder_29 (pr1 hf) (congrArg (fun z => (z, R0)) (pr2 hf))
  have hf := if_f c1 hf
  refine j_iconst (v := 0) C0 dX4_readOrder_11 rfl ?_
  exact j_zret C0 hr rfl dX4_readOrder_12 (pr1 hf) (congrArg (fun z => (z, R0)) (pr2 hf))

set_option maxHeartbeats 4000000 in
set_option maxRecDepth 100000 in
theorem c_X4_number {l : Launch} {D : va_G} {ca : Nat → ClassId} {ad : I3 → Nat} (hi : adI ad) {R0 : (Nat → Fin 9) × (Nat → Nat → Int32)} {C : Nat → Nat → Int32} {x1 : Int32} {r0 : Int32}  (hf : fT_number C x1 = some (r0)) : MT l D ca ad yX4_number cX4_number 2 (some .int) 1 21 [.ref (ad (11, 0, 0)), .int x1] (C, R0) (some (.int r0)) (C, R0) := by
  refine met_J (lv := [(0, .ref (ad (11, 0, 0))), (1, .int x1)]) hi (by decide +kernel) (Nat.le_of_ble_eq_true rfl) rfl (fun p e s m below meth c C0 hr => ?_)
  unfold fT_number at hf
  refine j_aload_n C0 dX4_number_0 rfl 0 rfl ?_
  refine j_getr (id2 := (13, 0, 0)) C0 fl_X4_15 rl_4_1 id_c11 dX4_number_1 ?_
  refine j_iload_n C0 dX4_number_4 rfl 1 rfl ?_
  obtain ⟨q1, hcq1, hf⟩ := bd_some hf
  refine j_callSN (As := [.ref (ad (13, 0, 0)), .int x1]) (rest := []) (stk := [.int q1]) (G2 := (C, R0)) C0 (c_X5_element_w hi (G0 := (C, R0)) al_13 id_c13 (fun q => by rw [Nat.zero_add]; rfl) hcq1) kw_X4_33 bi_X5_element rfl ⟨by decide, by decide⟩ ⟨Nat.zero_le _, Nat.zero_le _⟩ rfl rfl (Nat.le_of_ble_eq_true rfl) rfl rfl dX4_number_5 ?_
  exact j_iret C0 hr dX4_number_8 (so hf) rfl

set_option maxHeartbeats 4000000 in
set_option maxRecDepth 100000 in
theorem c_X5_tryOrders {l : Launch} {D : va_G} {ca : Nat → ClassId} {ad : I3 → Nat} (hi : adI ad) {M0 : Nat → Nat → Int32} {X : XS} {r0 : Int32} {X' : XS}  (hf : fX_tryOrders X = some (r0, X')) : MT l D ca ad yX5_tryOrders cX5_tryOrders 5 (some .int) 6 136 [.ref (ad (0, 0, 0))] (X.1, X.2, M0) (some (.int r0)) (X'.1, X'.2, M0) := by
  refine met_J (lv := [(0, .ref (ad (0, 0, 0)))]) hi (by decide +kernel) (Nat.le_of_ble_eq_true rfl) rfl (fun p e s m below meth c C0 hr => ?_)
  have L20 : ∀ (n : Nat) (X : XS) (y1 : Int32), fX_tryOrders_L20 n X y1 = some (r0, X') → J D ca ad p l e ({ frames := 6, cells := 0, slots := 0, locals := 136 }) s m [.ref (ad (0, 0, 0))].toArray below meth c 0 0 (MQ below (post D ca ad (some (.int r0)) (X'.1, X'.2, M0)) [.ref (ad (0, 0, 0))].toArray s 0 0 (adA ad)) 5 (X.1, X.2, M0) 20 [(0, .ref (ad (0, 0, 0))), (1, .int y1)] [] := by
    intro n
    induction n with
    | zero =>
      intro X y1 hf
      exact (none_ne hf).elim
    | succ n ih =>
      intro X y1 hf
      rw [fX_tryOrders_L20] at hf
      refine j_iload_n C0 dX5_tryOrders_20 rfl 1 rfl ?_
      refine j_bipush (v := 60) C0 dX5_tryOrders_21 rfl ?_
      refine j_icmp_ge (tgt := 225) C0 dX5_tryOrders_23 (by decide) (fun c7 => ?_) (fun c7 => ?_)
      · have hf := if_t c7 hf
        refine j_iload_n C0 dX5_tryOrders_225 rfl 1 rfl ?_
        exact j_iret C0 hr dX5_tryOrders_226 (pr1 hf) (congrArg (fun z => (z.1, z.2, M0)) (pr2 hf))
      have hf := if_f c7 hf
      refine j_aload_n C0 dX5_tryOrders_26 rfl 0 rfl ?_
      refine j_getr (id2 := (11, 0, 0)) C0 fl_X5_36 rl_5_5 id_c0 dX5_tryOrders_27 ?_
      obtain ⟨q8, hcq8, hf⟩ := bd_some hf
      obtain ⟨X9, e10, hf⟩ := lt_some hf
      refine j_callV (As := []) (rest := []) (stk := [.int q8.1]) (G2 := (X9.1, X9.2, M0)) C0 (c_X4_readOrder hi (R0 := (X.2, M0))  hcq8) kw_X5_245 bi_X4_readOrder bx_X4_readOrder id_c11 oc_11 rfl ⟨by decide, by decide⟩ ⟨Nat.zero_le _, Nat.zero_le _⟩ rfl rfl (Nat.le_of_ble_eq_true rfl) rfl (by rw [← e10]; try rfl) dX5_tryOrders_30 ?_
      refine j_if_eq (tgt := 225) C0 dX5_tryOrders_33 (by decide) (fun c11 => ?_) (fun c11 => ?_)
      · have hf := if_t c11 hf
        refine j_iload_n C0 dX5_tryOrders_225 rfl 1 rfl ?_
        exact j_iret C0 hr dX5_tryOrders_226 (pr1 hf) (congrArg (fun z => (z.1, z.2, M0)) (pr2 hf))
      have hf := if_f c11 hf
      refine j_aload_n C0 dX5_tryOrders_36 rfl 0 rfl ?_
      refine j_getr (id2 := (11, 0, 0)) C0 fl_X5_36 rl_5_5 id_c0 dX5_tryOrders_37 ?_
      refine j_iconst (v := 0) C0 dX5_tryOrders_40 rfl ?_
      obtain ⟨q12, hcq12, hf⟩ := bd_some hf
      refine j_callV (As := [.int (0 : Int32)]) (rest := []) (stk := [.int q12]) (G2 := (X9.1, X9.2, M0)) C0 (c_X4_number hi (R0 := (X9.2, M0))  hcq12) kw_X5_249 bi_X4_number bx_X4_number id_c11 oc_11 rfl ⟨by decide, by decide⟩ ⟨Nat.zero_le _, Nat.zero_le _⟩ rfl rfl (Nat.le_of_ble_eq_true rfl) rfl rfl dX5_tryOrders_41 ?_
      refine j_istore_n (lv' := [(2, .int q12), (0, .ref (ad (0, 0, 0))), (1, .int y1)]) C0 dX5_tryOrders_44 rfl (by decide) rfl ?_
      refine j_aload_n C0 dX5_tryOrders_45 rfl 1 rfl ?_
      refine j_getr (id2 := (11, 0, 0)) C0 fl_X5_36 rl_5_5 id_c0 dX5_tryOrders_46 ?_
      refine j_iconst (v := 1) C0 dX5_tryOrders_49 rfl ?_
      obtain ⟨q13, hcq13, hf⟩ := bd_some hf
      refine j_callV (As := [.int (1 : Int32)]) (rest := []) (stk := [.int q13]) (G2 := (X9.1, X9.2, M0)) C0 (c_X4_number hi (R0 := (X9.2, M0))  hcq13) kw_X5_249 bi_X4_number bx_X4_number id_c11 oc_11 rfl ⟨by decide, by decide⟩ ⟨Nat.zero_le _, Nat.zero_le _⟩ rfl rfl (Nat.le_of_ble_eq_true rfl) rfl rfl dX5_tryOrders_50 ?_
      refine j_istore_n (lv' := [(3, .int q13), (2, .int q12), (0, .ref (ad (0, 0, 0))), (1, .int y1)]) C0 dX5_tryOrders_53 rfl (by decide) rfl ?_
      refine j_aload_n C0 dX5_tryOrders_54 rfl 2 rfl ?_
      refine j_getr (id2 := (11, 0, 0)) C0 fl_X5_36 rl_5_5 id_c0 dX5_tryOrders_55 ?_
      refine j_geti (x := (X9.1 11 3)) C0 fl_X5_252 sl_4_5 id_c11 rfl dX5_tryOrders_58 ?_
      obtain ⟨q14, hsq14, hf⟩ := bd_some hf
      have Jq14 : J D ca ad p l e ({ frames := 6, cells := 0, slots := 0, locals := 136 }) s m [.ref (ad (0, 0, 0))].toArray below meth c 0 0 (MQ below (post D ca ad (some (.int r0)) (X'.1, X'.2, M0)) [.ref (ad (0, 0, 0))].toArray s 0 0 (adA ad)) 5 (q14.2.1, q14.2.2, M0) 199 [(0, .ref (ad (0, 0, 0))), (1, .int y1), (4, .int q14.1)] [] := by
        refine j_iload C0 dX5_tryOrders_199 2 rfl ?_
        obtain ⟨q15, hcq15, hf⟩ := bd_some hf
        refine j_callS (As := [.int q14.1]) (rest := []) (stk := [.int q15]) (G2 := (q14.2.1, q14.2.2, M0)) C0 (c_X5_isErrorCode hi (G0 := (q14.2.1, q14.2.2, M0))  hcq15) kw_X5_236 bi_X5_isErrorCode rfl ⟨by decide, by decide⟩ ⟨Nat.zero_le _, Nat.zero_le _⟩ rfl rfl (Nat.le_of_ble_eq_true rfl) rfl rfl dX5_tryOrders_201 ?_
        refine j_if_eq (tgt := 219) C0 dX5_tryOrders_204 (by decide) (fun c16 => ?_) (fun c16 => ?_)
        · have hf := if_t c16 hf
          refine j_iinc (v := (y1 + 1)) (lv' := [(1, .int (y1 + 1)), (0, .ref (ad (0, 0, 0))), (4, .int q14.1)]) C0 dX5_tryOrders_219 1 rfl rfl (by decide) rfl ?_
          refine j_goto (tgt := 20) C0 dX5_tryOrders_222 (by decide) ?_
          exact j_sub [1, 0] rfl (ih q14.2 (y1 + 1) hf)
        have hf := if_f c16 hf
        refine j_aload_n C0 dX5_tryOrders_207 rfl 0 rfl ?_
        refine j_getr (id2 := (11, 0, 0)) C0 fl_X5_36 rl_5_5 id_c0 dX5_tryOrders_208 ?_
        refine j_iconst (v := 2) C0 dX5_tryOrders_211 rfl ?_
        refine j_iload C0 dX5_tryOrders_212 2 rfl ?_
        obtain ⟨q17, hcq17, hf⟩ := bd_some hf
        obtain ⟨X18, e19, hf⟩ := lt_some hf
        refine j_callV (As := [.int (2 : Int32), .int q14.1]) (rest := []) (stk := []) (G2 := (X18.1, X18.2, M0)) C0 (c_X4_tellFault hi (R0 := (q14.2.2, M0))  hcq17) kw_X5_256 bi_X4_tellFault bx_X4_tellFault id_c11 oc_11 rfl ⟨by decide, by decide⟩ ⟨Nat.zero_le _, Nat.zero_le _⟩ rfl rfl (Nat.le_of_ble_eq_true rfl) rfl (by rw [← e19]; try rfl) dX5_tryOrders_214 ?_
        refine j_iload_n C0 dX5_tryOrders_217 rfl 1 rfl ?_
        exact j_iret C0 hr dX5_tryOrders_218 (pr1 hf) (congrArg (fun z => (z.1, z.2, M0)) (pr2 hf))
      by_cases c20 : (X9.1 11 3) = 99
      · have hsq14 := if_t c20 hsq14
        refine j_lookupEq C0 99 (off := 51) (tgt := 112) c20 dX5_tryOrders_61 (by decide) (by decide) (by decide) ?_
        refine j_aload_n C0 dX5_tryOrders_112 rfl 2 rfl ?_
        refine j_getr (id2 := (1, 1, 0)) C0 fl_X5_16 rl_5_1 id_c0 dX5_tryOrders_113 ?_
        refine j_iload_n C0 dX5_tryOrders_116 rfl 1 rfl ?_
        refine j_iload_n C0 dX5_tryOrders_117 rfl 0 rfl ?_
        refine j_aload_n C0 dX5_tryOrders_118 rfl 2 rfl ?_
        refine j_getr (id2 := (11, 0, 0)) C0 fl_X5_36 rl_5_5 id_c0 dX5_tryOrders_119 ?_
        refine j_iconst (v := 2) C0 dX5_tryOrders_122 rfl ?_
        obtain ⟨q21, hcq21, hsq14⟩ := bd_some hsq14
        refine j_callV (As := [.int (2 : Int32)]) (rest := [.int q13, .int q12, .ref (ad (1, 1, 0))]) (stk := [.int q21, .int q13, .int q12, .ref (ad (1, 1, 0))]) (G2 := (X9.1, X9.2, M0)) C0 (c_X4_number hi (R0 := (X9.2, M0))  hcq21) kw_X5_249 bi_X4_number bx_X4_number id_c11 oc_11 rfl ⟨by decide, by decide⟩ ⟨Nat.zero_le _, Nat.zero_le _⟩ rfl rfl (Nat.le_of_ble_eq_true rfl) rfl rfl dX5_tryOrders_123 ?_
        obtain ⟨q22, hcq22, hsq14⟩ := bd_some hsq14
        obtain ⟨X23, e24, hsq14⟩ := lt_some hsq14
        refine j_callV (As := [.int q12, .int q13, .int q21]) (rest := []) (stk := [.int q22.1]) (G2 := (X23.1, X23.2, M0)) C0 (c_X3_addClock hi (G0 := (X9.1, X9.2, M0)) (j := 1) (by decide) hcq22) kw_X5_44 bi_X3_addClock bx_X3_addClock (id_1 (by decide)) oc_1 (eS_self _ _ _) ⟨by decide, by decide⟩ ⟨Nat.zero_le _, Nat.zero_le _⟩ rfl rfl (Nat.le_of_ble_eq_true rfl) rfl (by rw [← e24]; try rfl) dX5_tryOrders_126 ?_
        refine j_istore (lv' := [(4, .int q22.1), (3, .int q13), (2, .int q12), (0, .ref (ad (0, 0, 0))), (1, .int y1)]) C0 dX5_tryOrders_129 (by decide) rfl ?_
        refine j_goto (tgt := 199) C0 dX5_tryOrders_131 (by decide) ?_
        obtain rfl := so hsq14
        exact j_sub [3, 4, 0] rfl Jq14
      have hsq14 := if_f c20 hsq14
      by_cases c25 : (X9.1 11 3) = 112
      · have hsq14 := if_t c25 hsq14
        refine j_lookupEq C0 112 (off := 73) (tgt := 134) c25 dX5_tryOrders_61 (by decide) (by decide) (by decide) ?_
        refine j_aload_n C0 dX5_tryOrders_134 rfl 2 rfl ?_
        refine j_getr (id2 := (1, 1, 0)) C0 fl_X5_16 rl_5_1 id_c0 dX5_tryOrders_135 ?_
        refine j_iload_n C0 dX5_tryOrders_138 rfl 1 rfl ?_
        refine j_iload_n C0 dX5_tryOrders_139 rfl 0 rfl ?_
        obtain ⟨q26, hcq26, hsq14⟩ := bd_some hsq14
        obtain ⟨X27, e28, hsq14⟩ := lt_some hsq14
        refine j_callV (As := [.int q12, .int q13]) (rest := []) (stk := [.int q26.1]) (G2 := (X27.1, X27.2, M0)) C0 (c_X3_pourJug hi (G0 := (X9.1, X9.2, M0)) (j := 1) (by decide) hcq26) kw_X5_56 bi_X3_pourJug bx_X3_pourJug (id_1 (by decide)) oc_1 (eS_self _ _ _) ⟨by decide, by decide⟩ ⟨Nat.zero_le _, Nat.zero_le _⟩ rfl rfl (Nat.le_of_ble_eq_true rfl) rfl (by rw [← e28]; try rfl) dX5_tryOrders_140 ?_
        refine j_istore (lv' := [(4, .int q26.1), (3, .int q13), (2, .int q12), (0, .ref (ad (0, 0, 0))), (1, .int y1)]) C0 dX5_tryOrders_143 (by decide) rfl ?_
        refine j_goto (tgt := 199) C0 dX5_tryOrders_145 (by decide) ?_
        obtain rfl := so hsq14
        exact j_sub [3, 4, 0] rfl Jq14
      have hsq14 := if_f c25 hsq14
      by_cases c29 : (X9.1 11 3) = 116
      · have hsq14 := if_t c29 hsq14
        refine j_lookupEq C0 116 (off := 87) (tgt := 148) c29 dX5_tryOrders_61 (by decide) (by decide) (by decide) ?_
        refine j_aload_n C0 dX5_tryOrders_148 rfl 2 rfl ?_
        refine j_getr (id2 := (1, 1, 0)) C0 fl_X5_16 rl_5_1 id_c0 dX5_tryOrders_149 ?_
        refine j_iload_n C0 dX5_tryOrders_152 rfl 1 rfl ?_
        obtain ⟨q30, hcq30, hsq14⟩ := bd_some hsq14
        obtain ⟨X31, e32, hsq14⟩ := lt_some hsq14
        refine j_callV (As := [.int q12]) (rest := []) (stk := [.int q30.1]) (G2 := (X31.1, X31.2, M0)) C0 (c_X3_passTicks hi (G0 := (X9.1, X9.2, M0)) (j := 1) (by decide) hcq30) kw_X5_68 bi_X3_passTicks bx_X3_passTicks (id_1 (by decide)) oc_1 (eS_self _ _ _) ⟨by decide, by decide⟩ ⟨Nat.zero_le _, Nat.zero_le _⟩ rfl rfl (Nat.le_of_ble_eq_true rfl) rfl (by rw [← e32]; try rfl) dX5_tryOrders_153 ?_
        refine j_istore (lv' := [(4, .int q30.1), (3, .int q13), (2, .int q12), (0, .ref (ad (0, 0, 0))), (1, .int y1)]) C0 dX5_tryOrders_156 (by decide) rfl ?_
        refine j_goto (tgt := 199) C0 dX5_tryOrders_158 (by decide) ?_
        obtain rfl := so hsq14
        exact j_sub [3, 4, 0] rfl Jq14
      have hsq14 := if_f c29 hsq14
      by_cases c33 : (X9.1 11 3) = 119
      · have hsq14 := if_t c33 hsq14
        refine j_lookupEq C0 119 (off := 113) (tgt := 174) c33 dX5_tryOrders_61 (by decide) (by decide) (by decide) ?_
        refine j_aload_n C0 dX5_tryOrders_174 rfl 2 rfl ?_
        refine j_getr (id2 := (1, 1, 0)) C0 fl_X5_16 rl_5_1 id_c0 dX5_tryOrders_175 ?_
        refine j_iload_n C0 dX5_tryOrders_178 rfl 1 rfl ?_
        refine j_iload_n C0 dX5_tryOrders_179 rfl 0 rfl ?_
        obtain ⟨q34, hcq34, hsq14⟩ := bd_some hsq14
        obtain ⟨X35, e36, hsq14⟩ := lt_some hsq14
        refine j_callV (As := [.int q12, .int q13]) (rest := []) (stk := [.int q34.1]) (G2 := (X35.1, X35.2, M0)) C0 (c_X3_narrow hi (G0 := (X9.1, X9.2, M0)) (j := 1) (by decide) hcq34) kw_X5_59 bi_X3_narrow bx_X3_narrow (id_1 (by decide)) oc_1 (eS_self _ _ _) ⟨by decide, by decide⟩ ⟨Nat.zero_le _, Nat.zero_le _⟩ rfl rfl (Nat.le_of_ble_eq_true rfl) rfl (by rw [← e36]; try rfl) dX5_tryOrders_180 ?_
        refine j_istore (lv' := [(4, .int q34.1), (3, .int q13), (2, .int q12), (0, .ref (ad (0, 0, 0))), (1, .int y1)]) C0 dX5_tryOrders_183 (by decide) rfl ?_
        refine j_goto (tgt := 199) C0 dX5_tryOrders_185 (by decide) ?_
        obtain rfl := so hsq14
        exact j_sub [3, 4, 0] rfl Jq14
      have hsq14 := if_f c33 hsq14
      by_cases c37 : (X9.1 11 3) = 120
      · have hsq14 := if_t c37 hsq14
        refine j_lookupEq C0 120 (off := 100) (tgt := 161) c37 dX5_tryOrders_61 (by decide) (by decide) (by decide) ?_
        refine j_aload_n C0 dX5_tryOrders_161 rfl 2 rfl ?_
        refine j_getr (id2 := (1, 1, 0)) C0 fl_X5_16 rl_5_1 id_c0 dX5_tryOrders_162 ?_
        refine j_iload_n C0 dX5_tryOrders_165 rfl 1 rfl ?_
        obtain ⟨q38, hcq38, hsq14⟩ := bd_some hsq14
        obtain ⟨X39, e40, hsq14⟩ := lt_some hsq14
        refine j_callV (As := [.int q12]) (rest := []) (stk := [.int q38.1]) (G2 := (X39.1, X39.2, M0)) C0 (c_X3_trueClock hi (G0 := (X9.1, X9.2, M0)) (j := 1) (by decide) hcq38) kw_X5_65 bi_X3_trueClock bx_X3_trueClock (id_1 (by decide)) oc_1 (eS_self _ _ _) ⟨by decide, by decide⟩ ⟨Nat.zero_le _, Nat.zero_le _⟩ rfl rfl (Nat.le_of_ble_eq_true rfl) rfl (by rw [← e40]; try rfl) dX5_tryOrders_166 ?_
        refine j_istore (lv' := [(4, .int q38.1), (3, .int q13), (2, .int q12), (0, .ref (ad (0, 0, 0))), (1, .int y1)]) C0 dX5_tryOrders_169 (by decide) rfl ?_
        refine j_goto (tgt := 199) C0 dX5_tryOrders_171 (by decide) ?_
        obtain rfl := so hsq14
        exact j_sub [3, 4, 0] rfl Jq14
      have hsq14 := if_f c37 hsq14
      refine j_lookup (off := 127) (tgt := 188) C0 dX5_tryOrders_61 (by decide) ((lv_osw c20 rfl).trans ((lv_osw c25 rfl).trans ((lv_osw c29 rfl).trans ((lv_osw c33 rfl).trans ((lv_osw c37 rfl).trans (rfl)))))) (by decide) ?_
      refine j_aload_n C0 dX5_tryOrders_188 rfl 2 rfl ?_
      refine j_getr (id2 := (1, 1, 0)) C0 fl_X5_16 rl_5_1 id_c0 dX5_tryOrders_189 ?_
      refine j_iload_n C0 dX5_tryOrders_192 rfl 1 rfl ?_
      refine j_iload_n C0 dX5_tryOrders_193 rfl 0 rfl ?_
      obtain ⟨q41, hcq41, hsq14⟩ := bd_some hsq14
      obtain ⟨X42, e43, hsq14⟩ := lt_some hsq14
      refine j_callV (As := [.int q12, .int q13]) (rest := []) (stk := [.int q41.1]) (G2 := (X42.1, X42.2, M0)) C0 (c_X3_leadOn hi (G0 := (X9.1, X9.2, M0)) (j := 1) (by decide) hcq41) kw_X5_52 bi_X3_leadOn bx_X3_leadOn (id_1 (by decide)) oc_1 (eS_self _ _ _) ⟨by decide, by decide⟩ ⟨Nat.zero_le _, Nat.zero_le _⟩ rfl rfl (Nat.le_of_ble_eq_true rfl) rfl (by rw [← e43]; try rfl) dX5_tryOrders_194 ?_
      refine j_istore (lv' := [(4, .int q41.1), (3, .int q13), (2, .int q12), (0, .ref (ad (0, 0, 0))), (1, .int y1)]) C0 dX5_tryOrders_197 (by decide) rfl ?_
      obtain rfl := so hsq14
      exact j_sub [3, 4, 0] rfl Jq14
  unfold fX_tryOrders at hf
  refine j_aload_n C0 dX5_tryOrders_0 rfl 0 rfl ?_
  refine j_getr (id2 := (1, 1, 0)) C0 fl_X5_16 rl_5_1 id_c0 dX5_tryOrders_1 ?_
  refine j_aload_n C0 dX5_tryOrders_4 rfl 0 rfl ?_
  refine j_getr (id2 := (1, 0, 0)) C0 fl_X5_10 rl_5_0 id_c0 dX5_tryOrders_5 ?_
  obtain ⟨q1, hcq1, hf⟩ := bd_some hf
  obtain ⟨X2, e3, hf⟩ := lt_some hf
  refine j_callV (As := [.ref (ad (1, 0, 0))]) (rest := []) (stk := []) (G2 := (X2.1, X2.2, M0)) C0 (c_X3_copyFrom hi (R0 := (X.2, M0)) (by decide) (by decide) hcq1) kw_X5_40 bi_X3_copyFrom bx_X3_copyFrom (id_1 (by decide)) oc_1 rfl ⟨by decide, by decide⟩ ⟨Nat.zero_le _, Nat.zero_le _⟩ rfl rfl (Nat.le_of_ble_eq_true rfl) rfl (by rw [← e3]; try rfl) dX5_tryOrders_8 ?_
  refine j_aload_n C0 dX5_tryOrders_11 rfl 0 rfl ?_
  refine j_getr (id2 := (11, 0, 0)) C0 fl_X5_36 rl_5_5 id_c0 dX5_tryOrders_12 ?_
  obtain ⟨q4, hcq4, hf⟩ := bd_some hf
  obtain ⟨X5, e6, hf⟩ := lt_some hf
  refine j_callV (As := []) (rest := []) (stk := []) (G2 := (X5.1, X5.2, M0)) C0 (c_X4_rewind hi (R0 := (X2.2, M0))  hcq4) kw_X5_242 bi_X4_rewind bx_X4_rewind id_c11 oc_11 rfl ⟨by decide, by decide⟩ ⟨Nat.zero_le _, Nat.zero_le _⟩ rfl rfl (Nat.le_of_ble_eq_true rfl) rfl (by rw [← e6]; try rfl) dX5_tryOrders_15 ?_
  refine j_iconst (v := 0) C0 dX5_tryOrders_18 rfl ?_
  refine j_istore_n (lv' := [(1, .int (0 : Int32)), (0, .ref (ad (0, 0, 0)))]) C0 dX5_tryOrders_19 rfl (by decide) rfl ?_
  exact j_sub [1, 0] rfl (L20 fuel X5 (0 : Int32) hf)

set_option maxHeartbeats 4000000 in
set_option maxRecDepth 100000 in
theorem c_X5_fault {l : Launch} {D : va_G} {ca : Nat → ClassId} {ad : I3 → Nat} (hi : adI ad) {M0 : Nat → Nat → Int32} {X : XS} {x1 : Int32} {r0 : Int32} {X' : XS}  (hf : fX_fault X x1 = some (r0, X')) : MT l D ca ad yX5_fault cX5_fault 2 (some .int) 7 160 [.ref (ad (0, 0, 0)), .int x1] (X.1, X.2, M0) (some (.int r0)) (X'.1, X'.2, M0) := by
  refine met_J (lv := [(0, .ref (ad (0, 0, 0))), (1, .int x1)]) hi (by decide +kernel) (Nat.le_of_ble_eq_true rfl) rfl (fun p e s m below meth c C0 hr => ?_)
  unfold fX_fault at hf
  refine j_iload_n C0 dX5_fault_0 rfl 1 rfl ?_
  refine j_if_lt (tgt := 9) C0 dX5_fault_1 (by decide) (fun c1 => ?_) (fun c1 => ?_)
  · have hf := if_t c1 hf
    refine j_ldc (v := -1000001) C0 dX5_fault_9 cw_X5_78 ?_
    exact j_iret C0 hr dX5_fault_11 (pr1 hf) (congrArg (fun z => (z.1, z.2, M0)) (pr2 hf))
  have hf := if_f c1 hf
  refine j_iload_n C0 dX5_fault_4 rfl 1 rfl ?_
  refine j_iconst (v := 2) C0 dX5_fault_5 rfl ?_
  refine j_icmp_le (tgt := 12) C0 dX5_fault_6 (by decide) (fun c2 => ?_) (fun c2 => ?_)
  · have hf := if_t c2 hf
    refine j_aload_n C0 dX5_fault_12 rfl 0 rfl ?_
    obtain ⟨q3, hcq3, hf⟩ := bd_some hf
    refine j_callV (As := []) (rest := []) (stk := [.int q3.1]) (G2 := (q3.2.1, q3.2.2, M0)) C0 (c_X5_tryOrders hi (M0 := M0)  hcq3) kw_X5_224 bi_X5_tryOrders bx_X5_tryOrders id_c0 oc_0 rfl ⟨by decide, by decide⟩ ⟨Nat.zero_le _, Nat.zero_le _⟩ rfl rfl (Nat.le_of_ble_eq_true rfl) rfl rfl dX5_fault_13 ?_
    refine j_pop C0 dX5_fault_16 rfl ?_
    refine j_aload_n C0 dX5_fault_17 rfl 0 rfl ?_
    refine j_getr (id2 := (11, 0, 0)) C0 fl_X5_36 rl_5_5 id_c0 dX5_fault_18 ?_
    refine j_geti (x := (q3.2.1 11 4)) C0 fl_X5_227 sl_4_6 id_c11 rfl dX5_fault_21 ?_
    refine j_if_ne (tgt := 30) C0 dX5_fault_24 (by decide) (fun c4 => ?_) (fun c4 => ?_)
    · have hf := if_f c4 hf
      refine j_iload_n C0 dX5_fault_30 rfl 1 rfl ?_
      refine j_if_ne (tgt := 42) C0 dX5_fault_31 (by decide) (fun c5 => ?_) (fun c5 => ?_)
      · have hf := if_f c5 hf
        refine j_iload_n C0 dX5_fault_42 rfl 1 rfl ?_
        refine j_iconst (v := 1) C0 dX5_fault_43 rfl ?_
        refine j_icmp_ne (tgt := 57) C0 dX5_fault_44 (by decide) (fun c6 => ?_) (fun c6 => ?_)
        · have hf := if_f c6 hf
          refine j_aload_n C0 dX5_fault_57 rfl 0 rfl ?_
          refine j_getr (id2 := (11, 0, 0)) C0 fl_X5_36 rl_5_5 id_c0 dX5_fault_58 ?_
          refine j_geti (x := (q3.2.1 11 5)) C0 fl_X5_233 sl_4_7 id_c11 rfl dX5_fault_61 ?_
          exact j_iret C0 hr dX5_fault_64 (pr1 hf) (congrArg (fun z => (z.1, z.2, M0)) (pr2 hf))
        have hf := if_t c6 hf
        refine j_aload_n C0 dX5_fault_47 rfl 0 rfl ?_
        refine j_getr (id2 := (11, 0, 0)) C0 fl_X5_36 rl_5_5 id_c0 dX5_fault_48 ?_
        refine j_geti (x := (q3.2.1 11 4)) C0 fl_X5_227 sl_4_6 id_c11 rfl dX5_fault_51 ?_
        refine j_goto (tgt := 64) C0 dX5_fault_54 (by decide) ?_
        exact j_iret C0 hr dX5_fault_64 (pr1 hf) (congrArg (fun z => (z.1, z.2, M0)) (pr2 hf))
      have hf := if_t c5 hf
      refine j_aload_n C0 dX5_fault_34 rfl 0 rfl ?_
      refine j_getr (id2 := (11, 0, 0)) C0 fl_X5_36 rl_5_5 id_c0 dX5_fault_35 ?_
      refine j_geti (x := (q3.2.1 11 2)) C0 fl_X5_230 sl_4_4 id_c11 rfl dX5_fault_38 ?_
      exact j_iret C0 hr dX5_fault_41 (pr1 hf) (congrArg (fun z => (z.1, z.2, M0)) (pr2 hf))
    have hf := if_t c4 hf
    refine j_ldc (v := -1000004) C0 dX5_fault_27 cw_X5_96 ?_
    exact j_iret C0 hr dX5_fault_29 (pr1 hf) (congrArg (fun z => (z.1, z.2, M0)) (pr2 hf))
  have hf := if_f c2 hf
  refine j_ldc (v := -1000001) C0 dX5_fault_9 cw_X5_78 ?_
  exact j_iret C0 hr dX5_fault_11 (pr1 hf) (congrArg (fun z => (z.1, z.2, M0)) (pr2 hf))

set_option maxHeartbeats 4000000 in
set_option maxRecDepth 100000 in
theorem c_X5_play {l : Launch} {D : va_G} {ca : Nat → ClassId} {ad : I3 → Nat} (hi : adI ad) {M0 : Nat → Nat → Int32} {X : XS} {r0 : Int32} {X' : XS}  (hf : fX_play X = some (r0, X')) : MT l D ca ad yX5_play cX5_play 2 (some .int) 7 160 [.ref (ad (0, 0, 0))] (X.1, X.2, M0) (some (.int r0)) (X'.1, X'.2, M0) := by
  refine met_J (lv := [(0, .ref (ad (0, 0, 0)))]) hi (by decide +kernel) (Nat.le_of_ble_eq_true rfl) rfl (fun p e s m below meth c C0 hr => ?_)
  unfold fX_play at hf
  refine j_aload_n C0 dX5_play_0 rfl 0 rfl ?_
  obtain ⟨q1, hcq1, hf⟩ := bd_some hf
  refine j_callV (As := []) (rest := []) (stk := [.int q1.1]) (G2 := (q1.2.1, q1.2.2, M0)) C0 (c_X5_tryOrders hi (M0 := M0)  hcq1) kw_X5_224 bi_X5_tryOrders bx_X5_tryOrders id_c0 oc_0 rfl ⟨by decide, by decide⟩ ⟨Nat.zero_le _, Nat.zero_le _⟩ rfl rfl (Nat.le_of_ble_eq_true rfl) rfl rfl dX5_play_1 ?_
  refine j_istore_n (lv' := [(1, .int q1.1), (0, .ref (ad (0, 0, 0)))]) C0 dX5_play_4 rfl (by decide) rfl ?_
  refine j_aload_n C0 dX5_play_5 rfl 1 rfl ?_
  refine j_getr (id2 := (11, 0, 0)) C0 fl_X5_36 rl_5_5 id_c0 dX5_play_6 ?_
  refine j_geti (x := (q1.2.1 11 4)) C0 fl_X5_227 sl_4_6 id_c11 rfl dX5_play_9 ?_
  refine j_if_eq (tgt := 18) C0 dX5_play_12 (by decide) (fun c2 => ?_) (fun c2 => ?_)
  · have hf := if_t c2 hf
    refine j_aload_n C0 dX5_play_18 rfl 1 rfl ?_
    refine j_get C0 fl_X5_19 id_c0 ⟨_, rfl, rfl⟩ dX5_play_19 ?_
    refine j_aload_n C0 dX5_play_22 rfl 1 rfl ?_
    refine j_getr (id2 := (1, 0, 0)) C0 fl_X5_10 rl_5_0 id_c0 dX5_play_23 ?_
    obtain ⟨q3, hcq3, hf⟩ := bd_some hf
    obtain ⟨X4, e5, hf⟩ := lt_some hf
    refine j_callV (As := [.ref (ad (1, 0, 0))]) (rest := []) (stk := []) (G2 := (X4.1, X4.2, M0)) C0 (c_X3_copyFrom hi (R0 := (q1.2.2, M0)) (q1.2.2 0).isLt (by decide) hcq3) kw_X5_40 bi_X3_copyFrom bx_X3_copyFrom (id_1 (q1.2.2 0).isLt) oc_1 rfl ⟨by decide, by decide⟩ ⟨Nat.zero_le _, Nat.zero_le _⟩ rfl rfl (Nat.le_of_ble_eq_true rfl) rfl (by rw [← e5]; try rfl) dX5_play_26 ?_
    refine j_aload_n C0 dX5_play_29 rfl 1 rfl ?_
    refine j_getr (id2 := (1, 0, 0)) C0 fl_X5_10 rl_5_0 id_c0 dX5_play_30 ?_
    refine j_aload_n C0 dX5_play_33 rfl 1 rfl ?_
    refine j_getr (id2 := (1, 1, 0)) C0 fl_X5_16 rl_5_1 id_c0 dX5_play_34 ?_
    obtain ⟨q6, hcq6, hf⟩ := bd_some hf
    obtain ⟨X7, e8, hf⟩ := lt_some hf
    refine j_callV (As := [.ref (ad (1, 1, 0))]) (rest := []) (stk := []) (G2 := (X7.1, X7.2, M0)) C0 (c_X3_copyFrom hi (R0 := (X4.2, M0)) (by decide) (by decide) hcq6) kw_X5_40 bi_X3_copyFrom bx_X3_copyFrom (id_1 (by decide)) oc_1 rfl ⟨by decide, by decide⟩ ⟨Nat.zero_le _, Nat.zero_le _⟩ rfl rfl (Nat.le_of_ble_eq_true rfl) rfl (by rw [← e8]; try rfl) dX5_play_37 ?_
    refine j_aload_n C0 dX5_play_40 rfl 1 rfl ?_
    refine j_iload_n C0 dX5_play_41 rfl 0 rfl ?_
    obtain ⟨q9, hcq9, hf⟩ := bd_some hf
    refine j_callV (As := [.int q1.1]) (rest := []) (stk := [.int q9.1]) (G2 := (q9.2.1, q9.2.2, M0)) C0 (c_X5_changed hi (M0 := M0)  hcq9) kw_X5_48 bi_X5_changed bx_X5_changed id_c0 oc_0 rfl ⟨by decide, by decide⟩ ⟨Nat.zero_le _, Nat.zero_le _⟩ rfl rfl (Nat.le_of_ble_eq_true rfl) rfl rfl dX5_play_42 ?_
    exact j_iret C0 hr dX5_play_45 (pr1 hf) (congrArg (fun z => (z.1, z.2, M0)) (pr2 hf))
  have hf := if_f c2 hf
  refine j_ldc (v := -1000002) C0 dX5_play_15 cw_X5_83 ?_
  exact j_iret C0 hr dX5_play_17 (pr1 hf) (congrArg (fun z => (z.1, z.2, M0)) (pr2 hf))

set_option maxHeartbeats 4000000 in
set_option maxRecDepth 100000 in
theorem c_X6_in {l : Launch} {D : va_G} {ca : Nat → ClassId} {ad : I3 → Nat} (hi : adI ad) {G0 : GS} {x1 : Int32} {x2 : Int32} {x3 : Int32} {r0 : Int32}  (hf : fM_in x1 x2 x3 = some (r0)) : MT l D ca ad yX6_in cX6_in 3 (some .boolean) 0 0 [.int x1, .int x2, .int x3] G0 (some (.int r0)) G0 := by
  refine met_J (lv := [(0, .int x1), (1, .int x2), (2, .int x3)]) hi (by decide +kernel) (Nat.le_of_ble_eq_true rfl) rfl (fun p e s m below meth c C0 hr => ?_)
  unfold fM_in at hf
  refine j_iload_n C0 dX6_in_0 rfl 0 rfl ?_
  refine j_iload_n C0 dX6_in_1 rfl 1 rfl ?_
  refine j_icmp_lt (tgt := 14) C0 dX6_in_2 (by decide) (fun c1 => ?_) (fun c1 => ?_)
  · have hf := if_t c1 hf
    refine j_iconst (v := 0) C0 dX6_in_14 rfl ?_
    exact j_zret C0 hr rfl dX6_in_15 (so hf) rfl
  have hf := if_f c1 hf
  refine j_iload_n C0 dX6_in_5 rfl 0 rfl ?_
  refine j_iload_n C0 dX6_in_6 rfl 2 rfl ?_
  refine j_icmp_gt (tgt := 14) C0 dX6_in_7 (by decide) (fun c2 => ?_) (fun c2 => ?_)
  · have hf := if_t c2 hf
    refine j_iconst (v := 0) C0 dX6_in_14 rfl ?_
    exact j_zret C0 hr rfl dX6_in_15 (so hf) rfl
  have hf := if_f c2 hf
  refine j_iconst (v := 1) C0 dX6_in_10 rfl ?_
  refine j_goto (tgt := 15) C0 dX6_in_11 (by decide) ?_
  exact j_zret C0 hr rfl dX6_in_15 (so hf) rfl

set_option maxHeartbeats 4000000 in
set_option maxRecDepth 100000 in
theorem c_X6_isError {l : Launch} {D : va_G} {ca : Nat → ClassId} {ad : I3 → Nat} (hi : adI ad) {G0 : GS} {x1 : Int32} {r0 : Int32}  (hf : fM_isError x1 = some (r0)) : MT l D ca ad yX6_isError cX6_isError 1 (some .boolean) 0 0 [.int x1] G0 (some (.int r0)) G0 := by
  refine met_J (lv := [(0, .int x1)]) hi (by decide +kernel) (Nat.le_of_ble_eq_true rfl) rfl (fun p e s m below meth c C0 hr => ?_)
  unfold fM_isError at hf
  refine j_iload_n C0 dX6_isError_0 rfl 0 rfl ?_
  refine j_ldc (v := -1000001) C0 dX6_isError_1 cw_X6_35 ?_
  refine j_icmp_gt (tgt := 10) C0 dX6_isError_3 (by decide) (fun c1 => ?_) (fun c1 => ?_)
  · have hf := if_t c1 hf
    refine j_iconst (v := 0) C0 dX6_isError_10 rfl ?_
    exact j_zret C0 hr rfl dX6_isError_11 (so hf) rfl
  have hf := if_f c1 hf
  refine j_iconst (v := 1) C0 dX6_isError_6 rfl ?_
  refine j_goto (tgt := 11) C0 dX6_isError_7 (by decide) ?_
  exact j_zret C0 hr rfl dX6_isError_11 (so hf) rfl

set_option maxHeartbeats 4000000 in
set_option maxRecDepth 100000 in
theorem c_X6_isClock {l : Launch} {D : va_G} {ca : Nat → ClassId} {ad : I3 → Nat} (hi : adI ad) {Cc : Nat → Nat → Int32} {Bb : Nat → Fin 9} {M : Nat → Nat → Int32} {x1 : Int32} {r0 : Int32}  (hf : fM_isClock M x1 = some (r0)) : MT l D ca ad yX6_isClock cX6_isClock 2 (some .boolean) 1 22 [.ref (ad (14, 0, 0)), .int x1] (Cc, Bb, M) (some (.int r0)) (Cc, Bb, M) := by
  refine met_J (lv := [(0, .ref (ad (14, 0, 0))), (1, .int x1)]) hi (by decide +kernel) (Nat.le_of_ble_eq_true rfl) rfl (fun p e s m below meth c C0 hr => ?_)
  unfold fM_isClock at hf
  refine j_iload_n C0 dX6_isClock_0 rfl 1 rfl ?_
  refine j_iconst (v := 0) C0 dX6_isClock_1 rfl ?_
  refine j_aload_n C0 dX6_isClock_2 rfl 0 rfl ?_
  refine j_getr (id2 := (15, 0, 0)) C0 fl_X6_7 rl_6_0 id_c14 dX6_isClock_3 ?_
  refine j_bipush (v := 19) C0 dX6_isClock_6 rfl ?_
  refine j_iald (x := (M 0 19)) C0 al_15_0 rfl id_m0 (by decide) (by rw [Nat.zero_add]; rfl) dX6_isClock_8 ?_
  refine j_iconst (v := 1) C0 dX6_isClock_9 rfl ?_
  refine j_isub C0 dX6_isClock_10 ?_
  obtain ⟨q1, hcq1, hf⟩ := bd_some hf
  refine j_callS (As := [.int x1, .int (0 : Int32), .int ((M 0 19) - (1 : Int32))]) (rest := []) (stk := [.int q1]) (G2 := (Cc, Bb, M)) C0 (c_X6_in hi (G0 := (Cc, Bb, M))  hcq1) kw_X6_36 bi_X6_in rfl ⟨by decide, by decide⟩ ⟨Nat.zero_le _, Nat.zero_le _⟩ rfl rfl (Nat.le_of_ble_eq_true rfl) rfl rfl dX6_isClock_11 ?_
  obtain ⟨h2, hf⟩ := gd_some hf
  exact j_zret C0 hr (isZ_eq h2) dX6_isClock_14 (so hf) rfl

set_option maxHeartbeats 4000000 in
set_option maxRecDepth 100000 in
theorem c_X6_of {l : Launch} {D : va_G} {ca : Nat → ClassId} {ad : I3 → Nat} (hi : adI ad) {Cc : Nat → Nat → Int32} {Bb : Nat → Fin 9} {M : Nat → Nat → Int32} {x1 : Int32} {x2 : Int32} {r0 : Int32}  (hf : fM_of M x1 x2 = some (r0)) : MT l D ca ad yX6_of cX6_of 3 (some .int) 0 0 [.ref (ad (14, 0, 0)), .int x1, .int x2] (Cc, Bb, M) (some (.int r0)) (Cc, Bb, M) := by
  refine met_J (lv := [(0, .ref (ad (14, 0, 0))), (1, .int x1), (2, .int x2)]) hi (by decide +kernel) (Nat.le_of_ble_eq_true rfl) rfl (fun p e s m below meth c C0 hr => ?_)
  unfold fM_of at hf
  refine j_aload_n C0 dX6_of_0 rfl 0 rfl ?_
  refine j_getr (id2 := (15, 0, 0)) C0 fl_X6_7 rl_6_0 id_c14 dX6_of_1 ?_
  refine j_bipush (v := 20) C0 dX6_of_4 rfl ?_
  refine j_bipush (v := 15) C0 dX6_of_6 rfl ?_
  refine j_iload_n C0 dX6_of_8 rfl 1 rfl ?_
  refine j_imul C0 dX6_of_9 ?_
  refine j_iadd C0 dX6_of_10 ?_
  refine j_iload_n C0 dX6_of_11 rfl 2 rfl ?_
  refine j_iadd C0 dX6_of_12 ?_
  obtain ⟨h1, hf⟩ := gd_some hf
  refine j_iald (x := (M 0 ((((20 : Int32) + ((15 : Int32) * x1)) + x2).toNatClampNeg))) C0 al_15_0 rfl id_m0 h1 (by rw [Nat.zero_add]; rfl) dX6_of_13 ?_
  exact j_iret C0 hr dX6_of_14 (so hf) rfl

set_option maxHeartbeats 4000000 in
set_option maxRecDepth 100000 in
theorem c_X6_put {l : Launch} {D : va_G} {ca : Nat → ClassId} {ad : I3 → Nat} (hi : adI ad) {Cc : Nat → Nat → Int32} {Bb : Nat → Fin 9} {M : Nat → Nat → Int32} {x1 : Int32} {x2 : Int32} {x3 : Int32} {M' : Nat → Nat → Int32}  (hf : fM_put M x1 x2 x3 = some (M')) : MT l D ca ad yX6_put cX6_put 4 none 0 0 [.ref (ad (14, 0, 0)), .int x1, .int x2, .int x3] (Cc, Bb, M) none (Cc, Bb, M') := by
  refine met_J (lv := [(0, .ref (ad (14, 0, 0))), (1, .int x1), (2, .int x2), (3, .int x3)]) hi (by decide +kernel) (Nat.le_of_ble_eq_true rfl) rfl (fun p e s m below meth c C0 hr => ?_)
  unfold fM_put at hf
  refine j_aload_n C0 dX6_put_0 rfl 0 rfl ?_
  refine j_getr (id2 := (15, 0, 0)) C0 fl_X6_7 rl_6_0 id_c14 dX6_put_1 ?_
  refine j_bipush (v := 20) C0 dX6_put_4 rfl ?_
  refine j_bipush (v := 15) C0 dX6_put_6 rfl ?_
  refine j_iload_n C0 dX6_put_8 rfl 1 rfl ?_
  refine j_imul C0 dX6_put_9 ?_
  refine j_iadd C0 dX6_put_10 ?_
  refine j_iload_n C0 dX6_put_11 rfl 2 rfl ?_
  refine j_iadd C0 dX6_put_12 ?_
  refine j_iload_n C0 dX6_put_13 rfl 3 rfl ?_
  obtain ⟨h1, hf⟩ := gd_some hf
  obtain ⟨M2, e3, hf⟩ := lt_some hf
  refine j_iast (G' := (Cc, Bb, M2)) C0 al_15_0 rfl id_m0 h1 (by rw [Nat.zero_add]; exact (eM_set e3)) dX6_put_14 ?_
  exact j_vret C0 hr dX6_put_15 (congrArg (fun z => (Cc, Bb, z)) (so hf))

set_option maxHeartbeats 4000000 in
set_option maxRecDepth 100000 in
theorem c_X6_add {l : Launch} {D : va_G} {ca : Nat → ClassId} {ad : I3 → Nat} (hi : adI ad) {Cc : Nat → Nat → Int32} {Bb : Nat → Fin 9} {M : Nat → Nat → Int32} {x1 : Int32} {x2 : Int32} {x3 : Int32} {M' : Nat → Nat → Int32}  (hf : fM_add M x1 x2 x3 = some (M')) : MT l D ca ad yX6_add cX6_add 4 none 0 0 [.ref (ad (14, 0, 0)), .int x1, .int x2, .int x3] (Cc, Bb, M) none (Cc, Bb, M') := by
  refine met_J (lv := [(0, .ref (ad (14, 0, 0))), (1, .int x1), (2, .int x2), (3, .int x3)]) hi (by decide +kernel) (Nat.le_of_ble_eq_true rfl) rfl (fun p e s m below meth c C0 hr => ?_)
  unfold fM_add at hf
  refine j_aload_n C0 dX6_add_0 rfl 0 rfl ?_
  refine j_getr (id2 := (15, 0, 0)) C0 fl_X6_7 rl_6_0 id_c14 dX6_add_1 ?_
  refine j_bipush (v := 20) C0 dX6_add_4 rfl ?_
  refine j_bipush (v := 15) C0 dX6_add_6 rfl ?_
  refine j_iload_n C0 dX6_add_8 rfl 1 rfl ?_
  refine j_imul C0 dX6_add_9 ?_
  refine j_iadd C0 dX6_add_10 ?_
  refine j_iload_n C0 dX6_add_11 rfl 2 rfl ?_
  refine j_iadd C0 dX6_add_12 ?_
  refine j_dup2 C0 dX6_add_13 rfl rfl ?_
  obtain ⟨h1, hf⟩ := gd_some hf
  refine j_iald (x := (M 0 ((((20 : Int32) + ((15 : Int32) * x1)) + x2).toNatClampNeg))) C0 al_15_0 rfl id_m0 h1 (by rw [Nat.zero_add]; rfl) dX6_add_14 ?_
  refine j_iload_n C0 dX6_add_15 rfl 3 rfl ?_
  refine j_iadd C0 dX6_add_16 ?_
  obtain ⟨h2, hf⟩ := gd_some hf
  obtain ⟨M3, e4, hf⟩ := lt_some hf
  refine j_iast (G' := (Cc, Bb, M3)) C0 al_15_0 rfl id_m0 h2 (by rw [Nat.zero_add]; exact (eM_set e4)) dX6_add_17 ?_
  exact j_vret C0 hr dX6_add_18 (congrArg (fun z => (Cc, Bb, z)) (so hf))

set_option maxHeartbeats 4000000 in
set_option maxRecDepth 100000 in
theorem c_X6_note {l : Launch} {D : va_G} {ca : Nat → ClassId} {ad : I3 → Nat} (hi : adI ad) {Cc : Nat → Nat → Int32} {Bb : Nat → Fin 9} {M : Nat → Nat → Int32} {M' : Nat → Nat → Int32}  (hf : fM_note M = some (M')) : MT l D ca ad yX6_note cX6_note 2 none 0 0 [.ref (ad (14, 0, 0))] (Cc, Bb, M) none (Cc, Bb, M') := by
  refine met_J (lv := [(0, .ref (ad (14, 0, 0)))]) hi (by decide +kernel) (Nat.le_of_ble_eq_true rfl) rfl (fun p e s m below meth c C0 hr => ?_)
  have L2 : ∀ (n : Nat) (M : Nat → Nat → Int32) (y1 : Int32), fM_note_L2 n M y1 = some (M') → J D ca ad p l e ({ frames := 0, cells := 0, slots := 0, locals := 0 }) s m [.ref (ad (14, 0, 0))].toArray below meth c 0 0 (MQ below (post D ca ad none (Cc, Bb, M')) [.ref (ad (14, 0, 0))].toArray s 0 0 (adA ad)) 2 (Cc, Bb, M) 2 [(0, .ref (ad (14, 0, 0))), (1, .int y1)] [] := by
    intro n
    induction n with
    | zero =>
      intro M y1 hf
      exact (none_ne hf).elim
    | succ n ih =>
      intro M y1 hf
      rw [fM_note_L2] at hf
      refine j_iload_n C0 dX6_note_2 rfl 1 rfl ?_
      refine j_bipush (v := 120) C0 dX6_note_3 rfl ?_
      refine j_icmp_ge (tgt := 26) C0 dX6_note_5 (by decide) (fun c1 => ?_) (fun c1 => ?_)
      · have hf := if_t c1 hf
        exact j_vret C0 hr dX6_note_26 (congrArg (fun z => (Cc, Bb, z)) (so hf))
      have hf := if_f c1 hf
      refine j_aload_n C0 dX6_note_8 rfl 0 rfl ?_
      refine j_getr (id2 := (15, 1, 0)) C0 fl_X6_13 rl_6_1 id_c14 dX6_note_9 ?_
      refine j_iload_n C0 dX6_note_12 rfl 1 rfl ?_
      refine j_aload_n C0 dX6_note_13 rfl 0 rfl ?_
      refine j_getr (id2 := (15, 0, 0)) C0 fl_X6_7 rl_6_0 id_c14 dX6_note_14 ?_
      refine j_iload_n C0 dX6_note_17 rfl 1 rfl ?_
      obtain ⟨h2, hf⟩ := gd_some hf
      refine j_iald (x := (M 0 (y1.toNatClampNeg))) C0 al_15_0 rfl id_m0 h2 (by rw [Nat.zero_add]; rfl) dX6_note_18 ?_
      obtain ⟨h3, hf⟩ := gd_some hf
      obtain ⟨M4, e5, hf⟩ := lt_some hf
      refine j_iast (G' := (Cc, Bb, M4)) C0 al_15_1 rfl id_m1 h3 (by rw [Nat.zero_add]; exact (eM_set e5)) dX6_note_19 ?_
      refine j_iinc (v := (y1 + 1)) (lv' := [(1, .int (y1 + 1)), (0, .ref (ad (14, 0, 0)))]) C0 dX6_note_20 1 rfl rfl (by decide) rfl ?_
      refine j_goto (tgt := 2) C0 dX6_note_23 (by decide) ?_
      exact j_sub [1, 0] rfl (ih M4 (y1 + 1) hf)
  unfold fM_note at hf
  refine j_iconst (v := 0) C0 dX6_note_0 rfl ?_
  refine j_istore_n (lv' := [(1, .int (0 : Int32)), (0, .ref (ad (14, 0, 0)))]) C0 dX6_note_1 rfl (by decide) rfl ?_
  exact j_sub [1, 0] rfl (L2 fuel M (0 : Int32) hf)

set_option maxHeartbeats 4000000 in
set_option maxRecDepth 100000 in
theorem c_X6_recorded {l : Launch} {D : va_G} {ca : Nat → ClassId} {ad : I3 → Nat} (hi : adI ad) {Cc : Nat → Nat → Int32} {Bb : Nat → Fin 9} {M : Nat → Nat → Int32} {x1 : Int32} {r0 : Int32} {M' : Nat → Nat → Int32}  (hf : fM_recorded M x1 = some (r0, M')) : MT l D ca ad yX6_recorded cX6_recorded 3 (some .int) 1 20 [.ref (ad (14, 0, 0)), .int x1] (Cc, Bb, M) (some (.int r0)) (Cc, Bb, M') := by
  refine met_J (lv := [(0, .ref (ad (14, 0, 0))), (1, .int x1)]) hi (by decide +kernel) (Nat.le_of_ble_eq_true rfl) rfl (fun p e s m below meth c C0 hr => ?_)
  have L59 : ∀ (n : Nat) (M : Nat → Nat → Int32) (y1 : Int32) (y2 : Int32), fM_recorded_L59 n M y1 y2 = some (r0, M') → J D ca ad p l e ({ frames := 1, cells := 0, slots := 0, locals := 20 }) s m [.ref (ad (14, 0, 0)), .int x1].toArray below meth c 0 0 (MQ below (post D ca ad (some (.int r0)) (Cc, Bb, M')) [.ref (ad (14, 0, 0)), .int x1].toArray s 0 0 (adA ad)) 3 (Cc, Bb, M) 59 [(0, .ref (ad (14, 0, 0))), (1, .int y1), (2, .int y2)] [] := by
    intro n
    induction n with
    | zero =>
      intro M y1 y2 hf
      exact (none_ne hf).elim
    | succ n ih =>
      intro M y1 y2 hf
      rw [fM_recorded_L59] at hf
      refine j_iload_n C0 dX6_recorded_59 rfl 2 rfl ?_
      refine j_bipush (v := 120) C0 dX6_recorded_60 rfl ?_
      refine j_icmp_ge (tgt := 91) C0 dX6_recorded_62 (by decide) (fun c4 => ?_) (fun c4 => ?_)
      · have hf := if_t c4 hf
        refine j_aload_n C0 dX6_recorded_91 rfl 0 rfl ?_
        refine j_dup C0 dX6_recorded_92 rfl ?_
        refine j_geti (x := (M 8 0)) C0 fl_X6_44 sl_6_3 id_c14 rfl dX6_recorded_93 ?_
        refine j_iconst (v := 1) C0 dX6_recorded_96 rfl ?_
        refine j_iadd C0 dX6_recorded_97 ?_
        obtain ⟨M5, e6, hf⟩ := lt_some hf
        refine j_puti (G' := (Cc, Bb, M5)) C0 fl_X6_44 pw_6_3 sl_6_3 id_c14 rfl rfl (eM_set e6) dX6_recorded_98 ?_
        refine j_iload_n C0 dX6_recorded_101 rfl 1 rfl ?_
        exact j_iret C0 hr dX6_recorded_102 (pr1 hf) (congrArg (fun z => (Cc, Bb, z)) (pr2 hf))
      have hf := if_f c4 hf
      refine j_aload_n C0 dX6_recorded_65 rfl 0 rfl ?_
      refine j_getr (id2 := (15, 2, 0)) C0 fl_X6_16 rl_6_2 id_c14 dX6_recorded_66 ?_
      refine j_bipush (v := 120) C0 dX6_recorded_69 rfl ?_
      refine j_aload_n C0 dX6_recorded_71 rfl 0 rfl ?_
      refine j_geti (x := (M 8 0)) C0 fl_X6_44 sl_6_3 id_c14 rfl dX6_recorded_72 ?_
      refine j_imul C0 dX6_recorded_75 ?_
      refine j_iload_n C0 dX6_recorded_76 rfl 2 rfl ?_
      refine j_iadd C0 dX6_recorded_77 ?_
      refine j_aload_n C0 dX6_recorded_78 rfl 0 rfl ?_
      refine j_getr (id2 := (15, 1, 0)) C0 fl_X6_13 rl_6_1 id_c14 dX6_recorded_79 ?_
      refine j_iload_n C0 dX6_recorded_82 rfl 2 rfl ?_
      obtain ⟨h7, hf⟩ := gd_some hf
      refine j_iald (x := (M 1 (y2.toNatClampNeg))) C0 al_15_1 rfl id_m1 h7 (by rw [Nat.zero_add]; rfl) dX6_recorded_83 ?_
      obtain ⟨h8, hf⟩ := gd_some hf
      obtain ⟨M9, e10, hf⟩ := lt_some hf
      refine j_iast (G' := (Cc, Bb, M9)) C0 al_15_2 rfl id_m2 h8 (by rw [Nat.zero_add]; exact (eM_set e10)) dX6_recorded_84 ?_
      refine j_iinc (v := (y2 + 1)) (lv' := [(2, .int (y2 + 1)), (0, .ref (ad (14, 0, 0))), (1, .int y1)]) C0 dX6_recorded_85 2 rfl rfl (by decide) rfl ?_
      refine j_goto (tgt := 59) C0 dX6_recorded_88 (by decide) ?_
      exact j_sub [1, 2, 0] rfl (ih M9 y1 (y2 + 1) hf)
  have L19 : ∀ (n : Nat) (M : Nat → Nat → Int32) (y1 : Int32) (y2 : Int32), fM_recorded_L19 n M y1 y2 = some (r0, M') → J D ca ad p l e ({ frames := 1, cells := 0, slots := 0, locals := 20 }) s m [.ref (ad (14, 0, 0)), .int x1].toArray below meth c 0 0 (MQ below (post D ca ad (some (.int r0)) (Cc, Bb, M')) [.ref (ad (14, 0, 0)), .int x1].toArray s 0 0 (adA ad)) 3 (Cc, Bb, M) 19 [(0, .ref (ad (14, 0, 0))), (1, .int y1), (2, .int y2)] [] := by
    intro n
    induction n with
    | zero =>
      intro M y1 y2 hf
      exact (none_ne hf).elim
    | succ n ih =>
      intro M y1 y2 hf
      rw [fM_recorded_L19] at hf
      refine j_iload_n C0 dX6_recorded_19 rfl 2 rfl ?_
      refine j_sipush (v := 360) C0 dX6_recorded_20 rfl ?_
      refine j_icmp_ge (tgt := 47) C0 dX6_recorded_23 (by decide) (fun c11 => ?_) (fun c11 => ?_)
      · have hf := if_t c11 hf
        refine j_aload_n C0 dX6_recorded_47 rfl 0 rfl ?_
        refine j_dup C0 dX6_recorded_48 rfl ?_
        refine j_geti (x := (M 8 0)) C0 fl_X6_44 sl_6_3 id_c14 rfl dX6_recorded_49 ?_
        refine j_iconst (v := 1) C0 dX6_recorded_52 rfl ?_
        refine j_isub C0 dX6_recorded_53 ?_
        obtain ⟨M12, e13, hf⟩ := lt_some hf
        refine j_puti (G' := (Cc, Bb, M12)) C0 fl_X6_44 pw_6_3 sl_6_3 id_c14 rfl rfl (eM_set e13) dX6_recorded_54 ?_
        refine j_iconst (v := 0) C0 dX6_recorded_57 rfl ?_
        refine j_istore_n (lv' := [(2, .int (0 : Int32)), (0, .ref (ad (14, 0, 0))), (1, .int y1)]) C0 dX6_recorded_58 rfl (by decide) rfl ?_
        exact j_sub [1, 2, 0] rfl (L59 fuel M12 y1 (0 : Int32) hf)
      have hf := if_f c11 hf
      refine j_aload_n C0 dX6_recorded_26 rfl 0 rfl ?_
      refine j_getr (id2 := (15, 2, 0)) C0 fl_X6_16 rl_6_2 id_c14 dX6_recorded_27 ?_
      refine j_iload_n C0 dX6_recorded_30 rfl 2 rfl ?_
      refine j_aload_n C0 dX6_recorded_31 rfl 0 rfl ?_
      refine j_getr (id2 := (15, 2, 0)) C0 fl_X6_16 rl_6_2 id_c14 dX6_recorded_32 ?_
      refine j_iload_n C0 dX6_recorded_35 rfl 2 rfl ?_
      refine j_bipush (v := 120) C0 dX6_recorded_36 rfl ?_
      refine j_iadd C0 dX6_recorded_38 ?_
      obtain ⟨h14, hf⟩ := gd_some hf
      refine j_iald (x := (M 2 ((y2 + (120 : Int32)).toNatClampNeg))) C0 al_15_2 rfl id_m2 h14 (by rw [Nat.zero_add]; rfl) dX6_recorded_39 ?_
      obtain ⟨h15, hf⟩ := gd_some hf
      obtain ⟨M16, e17, hf⟩ := lt_some hf
      refine j_iast (G' := (Cc, Bb, M16)) C0 al_15_2 rfl id_m2 h15 (by rw [Nat.zero_add]; exact (eM_set e17)) dX6_recorded_40 ?_
      refine j_iinc (v := (y2 + 1)) (lv' := [(2, .int (y2 + 1)), (0, .ref (ad (14, 0, 0))), (1, .int y1)]) C0 dX6_recorded_41 2 rfl rfl (by decide) rfl ?_
      refine j_goto (tgt := 19) C0 dX6_recorded_44 (by decide) ?_
      exact j_sub [1, 2, 0] rfl (ih M16 y1 (y2 + 1) hf)
  unfold fM_recorded at hf
  refine j_iload_n C0 dX6_recorded_0 rfl 1 rfl ?_
  obtain ⟨q1, hcq1, hf⟩ := bd_some hf
  refine j_callS (As := [.int x1]) (rest := []) (stk := [.int q1]) (G2 := (Cc, Bb, M)) C0 (c_X6_isError hi (G0 := (Cc, Bb, M))  hcq1) kw_X6_40 bi_X6_isError rfl ⟨by decide, by decide⟩ ⟨Nat.zero_le _, Nat.zero_le _⟩ rfl rfl (Nat.le_of_ble_eq_true rfl) rfl rfl dX6_recorded_1 ?_
  refine j_if_eq (tgt := 9) C0 dX6_recorded_4 (by decide) (fun c2 => ?_) (fun c2 => ?_)
  · have hf := if_t c2 hf
    refine j_aload_n C0 dX6_recorded_9 rfl 0 rfl ?_
    refine j_geti (x := (M 8 0)) C0 fl_X6_44 sl_6_3 id_c14 rfl dX6_recorded_10 ?_
    refine j_iconst (v := 4) C0 dX6_recorded_13 rfl ?_
    refine j_icmp_ne (tgt := 57) C0 dX6_recorded_14 (by decide) (fun c3 => ?_) (fun c3 => ?_)
    · have hf := if_f c3 hf
      refine j_iconst (v := 0) C0 dX6_recorded_57 rfl ?_
      refine j_istore_n (lv' := [(2, .int (0 : Int32)), (0, .ref (ad (14, 0, 0))), (1, .int x1)]) C0 dX6_recorded_58 rfl (by decide) rfl ?_
      exact j_sub [1, 2, 0] rfl (L59 fuel M x1 (0 : Int32) hf)
    have hf := if_t c3 hf
    refine j_iconst (v := 0) C0 dX6_recorded_17 rfl ?_
    refine j_istore_n (lv' := [(2, .int (0 : Int32)), (0, .ref (ad (14, 0, 0))), (1, .int x1)]) C0 dX6_recorded_18 rfl (by decide) rfl ?_
    exact j_sub [1, 2, 0] rfl (L19 fuel M x1 (0 : Int32) hf)
  have hf := if_f c2 hf
  refine j_iload_n C0 dX6_recorded_7 rfl 1 rfl ?_
  exact j_iret C0 hr dX6_recorded_8 (pr1 hf) (congrArg (fun z => (Cc, Bb, z)) (pr2 hf))

set_option maxHeartbeats 4000000 in
set_option maxRecDepth 100000 in
theorem c_X6_putAside {l : Launch} {D : va_G} {ca : Nat → ClassId} {ad : I3 → Nat} (hi : adI ad) {Cc : Nat → Nat → Int32} {Bb : Nat → Fin 9} {M : Nat → Nat → Int32} {M' : Nat → Nat → Int32}  (hf : fM_putAside M = some (M')) : MT l D ca ad yX6_putAside cX6_putAside 2 none 0 0 [.ref (ad (14, 0, 0))] (Cc, Bb, M) none (Cc, Bb, M') := by
  refine met_J (lv := [(0, .ref (ad (14, 0, 0)))]) hi (by decide +kernel) (Nat.le_of_ble_eq_true rfl) rfl (fun p e s m below meth c C0 hr => ?_)
  have L2 : ∀ (n : Nat) (M : Nat → Nat → Int32) (y1 : Int32), fM_putAside_L2 n M y1 = some (M') → J D ca ad p l e ({ frames := 0, cells := 0, slots := 0, locals := 0 }) s m [.ref (ad (14, 0, 0))].toArray below meth c 0 0 (MQ below (post D ca ad none (Cc, Bb, M')) [.ref (ad (14, 0, 0))].toArray s 0 0 (adA ad)) 2 (Cc, Bb, M) 2 [(0, .ref (ad (14, 0, 0))), (1, .int y1)] [] := by
    intro n
    induction n with
    | zero =>
      intro M y1 hf
      exact (none_ne hf).elim
    | succ n ih =>
      intro M y1 hf
      rw [fM_putAside_L2] at hf
      refine j_iload_n C0 dX6_putAside_2 rfl 1 rfl ?_
      refine j_bipush (v := 120) C0 dX6_putAside_3 rfl ?_
      refine j_icmp_ge (tgt := 26) C0 dX6_putAside_5 (by decide) (fun c1 => ?_) (fun c1 => ?_)
      · have hf := if_t c1 hf
        exact j_vret C0 hr dX6_putAside_26 (congrArg (fun z => (Cc, Bb, z)) (so hf))
      have hf := if_f c1 hf
      refine j_aload_n C0 dX6_putAside_8 rfl 0 rfl ?_
      refine j_getr (id2 := (15, 5, 0)) C0 fl_X6_26 rl_6_6 id_c14 dX6_putAside_9 ?_
      refine j_iload_n C0 dX6_putAside_12 rfl 1 rfl ?_
      refine j_aload_n C0 dX6_putAside_13 rfl 0 rfl ?_
      refine j_getr (id2 := (15, 0, 0)) C0 fl_X6_7 rl_6_0 id_c14 dX6_putAside_14 ?_
      refine j_iload_n C0 dX6_putAside_17 rfl 1 rfl ?_
      obtain ⟨h2, hf⟩ := gd_some hf
      refine j_iald (x := (M 0 (y1.toNatClampNeg))) C0 al_15_0 rfl id_m0 h2 (by rw [Nat.zero_add]; rfl) dX6_putAside_18 ?_
      obtain ⟨h3, hf⟩ := gd_some hf
      obtain ⟨M4, e5, hf⟩ := lt_some hf
      refine j_iast (G' := (Cc, Bb, M4)) C0 al_15_5 rfl id_m5 h3 (by rw [Nat.zero_add]; exact (eM_set e5)) dX6_putAside_19 ?_
      refine j_iinc (v := (y1 + 1)) (lv' := [(1, .int (y1 + 1)), (0, .ref (ad (14, 0, 0)))]) C0 dX6_putAside_20 1 rfl rfl (by decide) rfl ?_
      refine j_goto (tgt := 2) C0 dX6_putAside_23 (by decide) ?_
      exact j_sub [1, 0] rfl (ih M4 (y1 + 1) hf)
  unfold fM_putAside at hf
  refine j_iconst (v := 0) C0 dX6_putAside_0 rfl ?_
  refine j_istore_n (lv' := [(1, .int (0 : Int32)), (0, .ref (ad (14, 0, 0)))]) C0 dX6_putAside_1 rfl (by decide) rfl ?_
  exact j_sub [1, 0] rfl (L2 fuel M (0 : Int32) hf)

set_option maxHeartbeats 4000000 in
set_option maxRecDepth 100000 in
theorem c_X6_putBack {l : Launch} {D : va_G} {ca : Nat → ClassId} {ad : I3 → Nat} (hi : adI ad) {Cc : Nat → Nat → Int32} {Bb : Nat → Fin 9} {M : Nat → Nat → Int32} {M' : Nat → Nat → Int32}  (hf : fM_putBack M = some (M')) : MT l D ca ad yX6_putBack cX6_putBack 2 none 0 0 [.ref (ad (14, 0, 0))] (Cc, Bb, M) none (Cc, Bb, M') := by
  refine met_J (lv := [(0, .ref (ad (14, 0, 0)))]) hi (by decide +kernel) (Nat.le_of_ble_eq_true rfl) rfl (fun p e s m below meth c C0 hr => ?_)
  have L2 : ∀ (n : Nat) (M : Nat → Nat → Int32) (y1 : Int32), fM_putBack_L2 n M y1 = some (M') → J D ca ad p l e ({ frames := 0, cells := 0, slots := 0, locals := 0 }) s m [.ref (ad (14, 0, 0))].toArray below meth c 0 0 (MQ below (post D ca ad none (Cc, Bb, M')) [.ref (ad (14, 0, 0))].toArray s 0 0 (adA ad)) 2 (Cc, Bb, M) 2 [(0, .ref (ad (14, 0, 0))), (1, .int y1)] [] := by
    intro n
    induction n with
    | zero =>
      intro M y1 hf
      exact (none_ne hf).elim
    | succ n ih =>
      intro M y1 hf
      rw [fM_putBack_L2] at hf
      refine j_iload_n C0 dX6_putBack_2 rfl 1 rfl ?_
      refine j_bipush (v := 120) C0 dX6_putBack_3 rfl ?_
      refine j_icmp_ge (tgt := 26) C0 dX6_putBack_5 (by decide) (fun c1 => ?_) (fun c1 => ?_)
      · have hf := if_t c1 hf
        exact j_vret C0 hr dX6_putBack_26 (congrArg (fun z => (Cc, Bb, z)) (so hf))
      have hf := if_f c1 hf
      refine j_aload_n C0 dX6_putBack_8 rfl 0 rfl ?_
      refine j_getr (id2 := (15, 0, 0)) C0 fl_X6_7 rl_6_0 id_c14 dX6_putBack_9 ?_
      refine j_iload_n C0 dX6_putBack_12 rfl 1 rfl ?_
      refine j_aload_n C0 dX6_putBack_13 rfl 0 rfl ?_
      refine j_getr (id2 := (15, 5, 0)) C0 fl_X6_26 rl_6_6 id_c14 dX6_putBack_14 ?_
      refine j_iload_n C0 dX6_putBack_17 rfl 1 rfl ?_
      obtain ⟨h2, hf⟩ := gd_some hf
      refine j_iald (x := (M 5 (y1.toNatClampNeg))) C0 al_15_5 rfl id_m5 h2 (by rw [Nat.zero_add]; rfl) dX6_putBack_18 ?_
      obtain ⟨h3, hf⟩ := gd_some hf
      obtain ⟨M4, e5, hf⟩ := lt_some hf
      refine j_iast (G' := (Cc, Bb, M4)) C0 al_15_0 rfl id_m0 h3 (by rw [Nat.zero_add]; exact (eM_set e5)) dX6_putBack_19 ?_
      refine j_iinc (v := (y1 + 1)) (lv' := [(1, .int (y1 + 1)), (0, .ref (ad (14, 0, 0)))]) C0 dX6_putBack_20 1 rfl rfl (by decide) rfl ?_
      refine j_goto (tgt := 2) C0 dX6_putBack_23 (by decide) ?_
      exact j_sub [1, 0] rfl (ih M4 (y1 + 1) hf)
  unfold fM_putBack at hf
  refine j_iconst (v := 0) C0 dX6_putBack_0 rfl ?_
  refine j_istore_n (lv' := [(1, .int (0 : Int32)), (0, .ref (ad (14, 0, 0)))]) C0 dX6_putBack_1 rfl (by decide) rfl ?_
  exact j_sub [1, 0] rfl (L2 fuel M (0 : Int32) hf)

set_option maxHeartbeats 4000000 in
set_option maxRecDepth 100000 in
theorem c_X6_floor {l : Launch} {D : va_G} {ca : Nat → ClassId} {ad : I3 → Nat} (hi : adI ad) {G0 : GS} {x1 : Int32} {x2 : Int32} {r0 : Int32}  (hf : fM_floor x1 x2 = some (r0)) : MT l D ca ad yX6_floor cX6_floor 3 (some .int) 0 0 [.int x1, .int x2] G0 (some (.int r0)) G0 := by
  refine met_J (lv := [(0, .int x1), (1, .int x2)]) hi (by decide +kernel) (Nat.le_of_ble_eq_true rfl) rfl (fun p e s m below meth c C0 hr => ?_)
  unfold fM_floor at hf
  refine j_iload_n C0 dX6_floor_0 rfl 0 rfl ?_
  refine j_iload_n C0 dX6_floor_1 rfl 1 rfl ?_
  obtain ⟨h1, hf⟩ := gd_some hf
  refine j_idiv C0 dX6_floor_2 h1 ?_
  refine j_istore_n (lv' := [(2, .int (x1 / x2)), (0, .int x1), (1, .int x2)]) C0 dX6_floor_3 rfl (by decide) rfl ?_
  refine j_iload_n C0 dX6_floor_4 rfl 1 rfl ?_
  refine j_iload_n C0 dX6_floor_5 rfl 2 rfl ?_
  obtain ⟨h2, hf⟩ := gd_some hf
  refine j_irem C0 dX6_floor_6 h2 ?_
  refine j_if_ge (tgt := 16) C0 dX6_floor_7 (by decide) (fun c3 => ?_) (fun c3 => ?_)
  · have hf := if_t c3 hf
    refine j_iload_n C0 dX6_floor_16 rfl 0 rfl ?_
    exact j_iret C0 hr dX6_floor_17 (so hf) rfl
  have hf := if_f c3 hf
  refine j_iload_n C0 dX6_floor_10 rfl 0 rfl ?_
  refine j_iconst (v := 1) C0 dX6_floor_11 rfl ?_
  refine j_isub C0 dX6_floor_12 ?_
  refine j_goto (tgt := 17) C0 dX6_floor_13 (by decide) ?_
  exact j_iret C0 hr dX6_floor_17 (so hf) rfl

