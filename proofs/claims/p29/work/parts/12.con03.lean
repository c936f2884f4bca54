set_option maxHeartbeats 4000000 in
set_option maxRecDepth 100000 in
theorem c_X5_count {l : Launch} {D : va_G} {ca : Nat → ClassId} {ad : I3 → Nat} (hi : adI ad) {M0 : Nat → Nat → Int32} {X : XS} {x1 : Int32} {r0 : Int32}  (hf : fX_count X x1 = some (r0)) : MT l D ca ad yX5_count cX5_count 2 (some .int) 5 106 [.ref (ad (0, 0, 0)), .int x1] (X.1, X.2, M0) (some (.int r0)) (X.1, X.2, M0) := by
  refine met_J (lv := [(0, .ref (ad (0, 0, 0))), (1, .int x1)]) hi (by decide +kernel) (Nat.le_of_ble_eq_true rfl) rfl (fun p e s m below meth c C0 hr => ?_)
  unfold fX_count at hf
  refine j_iload_n C0 dX5_count_0 rfl 1 rfl ?_
  by_cases c1 : (x1.toInt < 0 ∨ 25 < x1.toInt)
  · have hf := if_t c1 hf
    refine j_tableOut (tgt := 249) C0 dX5_count_1 c1 (by decide) ?_
    refine j_ldc (v := -1000001) C0 dX5_count_249 cw_X5_78 ?_
    exact j_iret C0 hr dX5_count_251 (so hf) rfl
  have hf := if_f c1 hf
  by_cases c2 : x1 = 0
  · have hf := if_t c2 hf
    refine j_tableEq C0 0 (tgt := 120) c2 dX5_count_1 (by decide) (by decide) rfl (by decide) ?_
    refine j_aload_n C0 dX5_count_120 rfl 0 rfl ?_
    refine j_getr (id2 := (1, 0, 0)) C0 fl_X5_10 rl_5_0 (ia hi id_c0) dX5_count_121 ?_
    refine j_geti (x := (X.1 0 6)) C0 fl_X5_181 (sl_3_4 (by decide)) (ia hi (id_1 (by decide))) rfl dX5_count_124 ?_
    exact j_iret C0 hr dX5_count_127 (so hf) rfl
  have hf := if_f c2 hf
  by_cases c3 : x1 = 1
  · have hf := if_t c3 hf
    refine j_tableEq C0 1 (tgt := 128) c3 dX5_count_1 (by decide) (by decide) rfl (by decide) ?_
    refine j_aload_n C0 dX5_count_128 rfl 0 rfl ?_
    refine j_getr (id2 := (1, 0, 0)) C0 fl_X5_10 rl_5_0 (ia hi id_c0) dX5_count_129 ?_
    refine j_geti (x := (X.1 0 19)) C0 fl_X5_79 (sl_3_3 (by decide)) (ia hi (id_1 (by decide))) rfl dX5_count_132 ?_
    exact j_iret C0 hr dX5_count_135 (so hf) rfl
  have hf := if_f c3 hf
  by_cases c4 : x1 = 2
  · have hf := if_t c4 hf
    refine j_tableEq C0 2 (tgt := 136) c4 dX5_count_1 (by decide) (by decide) rfl (by decide) ?_
    refine j_aload_n C0 dX5_count_136 rfl 0 rfl ?_
    refine j_getr (id2 := (1, 0, 0)) C0 fl_X5_10 rl_5_0 (ia hi id_c0) dX5_count_137 ?_
    obtain ⟨q5, hcq5, hf⟩ := bd_some hf
    refine j_callV (As := []) (rest := []) (stk := [.int q5]) (G2 := (X.1, X.2, M0)) C0 (c_X3_clocksOff hi (G0 := (X.1, X.2, M0)) (j := 0) (by decide) hcq5) kw_X5_184 bi_X3_clocksOff bx_X3_clocksOff (ia hi (id_1 (by decide))) oc_1 (eS_self _ _ _) ⟨by decide, by decide⟩ ⟨Nat.zero_le _, Nat.zero_le _⟩ rfl rfl (Nat.le_of_ble_eq_true rfl) rfl (eS_self _ _ _) dX5_count_140 ?_
    exact j_iret C0 hr dX5_count_143 (so hf) rfl
  have hf := if_f c4 hf
  by_cases c6 : x1 = 3
  · have hf := if_t c6 hf
    refine j_tableEq C0 3 (tgt := 144) c6 dX5_count_1 (by decide) (by decide) rfl (by decide) ?_
    refine j_aload_n C0 dX5_count_144 rfl 0 rfl ?_
    refine j_getr (id2 := (1, 0, 0)) C0 fl_X5_10 rl_5_0 (ia hi id_c0) dX5_count_145 ?_
    obtain ⟨q7, hcq7, hf⟩ := bd_some hf
    refine j_callV (As := []) (rest := []) (stk := [.int q7]) (G2 := (X.1, X.2, M0)) C0 (c_X3_clocksEmpty hi (G0 := (X.1, X.2, M0)) (j := 0) (by decide) hcq7) kw_X5_187 bi_X3_clocksEmpty bx_X3_clocksEmpty (ia hi (id_1 (by decide))) oc_1 (eS_self _ _ _) ⟨by decide, by decide⟩ ⟨Nat.zero_le _, Nat.zero_le _⟩ rfl rfl (Nat.le_of_ble_eq_true rfl) rfl (eS_self _ _ _) dX5_count_148 ?_
    exact j_iret C0 hr dX5_count_151 (so hf) rfl
  have hf := if_f c6 hf
  by_cases c8 : x1 = 4
  · have hf := if_t c8 hf
    refine j_tableEq C0 4 (tgt := 152) c8 dX5_count_1 (by decide) (by decide) rfl (by decide) ?_
    refine j_aload_n C0 dX5_count_152 rfl 0 rfl ?_
    refine j_getr (id2 := (1, 0, 0)) C0 fl_X5_10 rl_5_0 (ia hi id_c0) dX5_count_153 ?_
    refine j_getr (id2 := (5, 0, 0)) C0 fl_X5_135 rl_3_2 (ia hi (id_1 (by decide))) dX5_count_156 ?_
    refine j_geti (x := (X.1 0 14)) C0 fl_X5_190 (sl_0_2 (by decide)) (ia hi (id_5 (by decide))) rfl dX5_count_159 ?_
    exact j_iret C0 hr dX5_count_162 (so hf) rfl
  have hf := if_f c8 hf
  by_cases c9 : x1 = 5
  · have hf := if_t c9 hf
    refine j_tableEq C0 5 (tgt := 163) c9 dX5_count_1 (by decide) (by decide) rfl (by decide) ?_
    refine j_aload_n C0 dX5_count_163 rfl 0 rfl ?_
    refine j_getr (id2 := (1, 0, 0)) C0 fl_X5_10 rl_5_0 (ia hi id_c0) dX5_count_164 ?_
    refine j_getr (id2 := (5, 0, 0)) C0 fl_X5_135 rl_3_2 (ia hi (id_1 (by decide))) dX5_count_167 ?_
    refine j_geti (x := (X.1 0 15)) C0 fl_X5_193 (sl_0_3 (by decide)) (ia hi (id_5 (by decide))) rfl dX5_count_170 ?_
    exact j_iret C0 hr dX5_count_173 (so hf) rfl
  have hf := if_f c9 hf
  by_cases c10 : x1 = 6
  · have hf := if_t c10 hf
    refine j_tableEq C0 6 (tgt := 174) c10 dX5_count_1 (by decide) (by decide) rfl (by decide) ?_
    refine j_aload_n C0 dX5_count_174 rfl 0 rfl ?_
    refine j_getr (id2 := (1, 0, 0)) C0 fl_X5_10 rl_5_0 (ia hi id_c0) dX5_count_175 ?_
    refine j_bipush (v := 10) C0 dX5_count_178 rfl ?_
    obtain ⟨q11, hcq11, hf⟩ := bd_some hf
    refine j_callV (As := [.int (10 : Int32)]) (rest := []) (stk := [.int q11]) (G2 := (X.1, X.2, M0)) C0 (c_X3_together hi (G0 := (X.1, X.2, M0)) (j := 0) (by decide) hcq11) kw_X5_111 bi_X3_together bx_X3_together (ia hi (id_1 (by decide))) oc_1 (eS_self _ _ _) ⟨by decide, by decide⟩ ⟨Nat.zero_le _, Nat.zero_le _⟩ rfl rfl (Nat.le_of_ble_eq_true rfl) rfl (eS_self _ _ _) dX5_count_180 ?_
    exact j_iret C0 hr dX5_count_183 (so hf) rfl
  have hf := if_f c10 hf
  by_cases c12 : x1 = 7
  · have hf := if_t c12 hf
    refine j_tableEq C0 7 (tgt := 184) c12 dX5_count_1 (by decide) (by decide) rfl (by decide) ?_
    refine j_aload_n C0 dX5_count_184 rfl 0 rfl ?_
    refine j_getr (id2 := (1, 0, 0)) C0 fl_X5_10 rl_5_0 (ia hi id_c0) dX5_count_185 ?_
    refine j_bipush (v := 7) C0 dX5_count_188 rfl ?_
    obtain ⟨q13, hcq13, hf⟩ := bd_some hf
    refine j_callV (As := [.int (7 : Int32)]) (rest := []) (stk := [.int q13]) (G2 := (X.1, X.2, M0)) C0 (c_X3_together hi (G0 := (X.1, X.2, M0)) (j := 0) (by decide) hcq13) kw_X5_111 bi_X3_together bx_X3_together (ia hi (id_1 (by decide))) oc_1 (eS_self _ _ _) ⟨by decide, by decide⟩ ⟨Nat.zero_le _, Nat.zero_le _⟩ rfl rfl (Nat.le_of_ble_eq_true rfl) rfl (eS_self _ _ _) dX5_count_190 ?_
    exact j_iret C0 hr dX5_count_193 (so hf) rfl
  have hf := if_f c12 hf
  by_cases c14 : x1 = 8
  · have hf := if_t c14 hf
    refine j_tableEq C0 8 (tgt := 194) c14 dX5_count_1 (by decide) (by decide) rfl (by decide) ?_
    refine j_aload_n C0 dX5_count_194 rfl 0 rfl ?_
    refine j_getr (id2 := (1, 0, 0)) C0 fl_X5_10 rl_5_0 (ia hi id_c0) dX5_count_195 ?_
    obtain ⟨q15, hcq15, hf⟩ := bd_some hf
    refine j_callV (As := []) (rest := []) (stk := [.int q15]) (G2 := (X.1, X.2, M0)) C0 (c_X3_untilNoon hi (G0 := (X.1, X.2, M0)) (j := 0) (by decide) hcq15) kw_X5_196 bi_X3_untilNoon bx_X3_untilNoon (ia hi (id_1 (by decide))) oc_1 (eS_self _ _ _) ⟨by decide, by decide⟩ ⟨Nat.zero_le _, Nat.zero_le _⟩ rfl rfl (Nat.le_of_ble_eq_true rfl) rfl (eS_self _ _ _) dX5_count_198 ?_
    exact j_iret C0 hr dX5_count_201 (so hf) rfl
  have hf := if_f c14 hf
  by_cases c16 : x1 = 9
  · have hf := if_t c16 hf
    refine j_tableEq C0 9 (tgt := 202) c16 dX5_count_1 (by decide) (by decide) rfl (by decide) ?_
    refine j_aload_n C0 dX5_count_202 rfl 0 rfl ?_
    refine j_getr (id2 := (1, 0, 0)) C0 fl_X5_10 rl_5_0 (ia hi id_c0) dX5_count_203 ?_
    refine j_geti (x := (X.1 0 18)) C0 fl_X5_199 (sl_3_9 (by decide)) (ia hi (id_1 (by decide))) rfl dX5_count_206 ?_
    exact j_iret C0 hr dX5_count_209 (so hf) rfl
  have hf := if_f c16 hf
  by_cases c17 : x1 = 10
  · have hf := if_t c17 hf
    refine j_tableEq C0 10 (tgt := 210) c17 dX5_count_1 (by decide) (by decide) rfl (by decide) ?_
    refine j_aload_n C0 dX5_count_210 rfl 0 rfl ?_
    refine j_getr (id2 := (1, 0, 0)) C0 fl_X5_10 rl_5_0 (ia hi id_c0) dX5_count_211 ?_
    refine j_getr (id2 := (5, 0, 0)) C0 fl_X5_135 rl_3_2 (ia hi (id_1 (by decide))) dX5_count_214 ?_
    obtain ⟨q18, hcq18, hf⟩ := bd_some hf
    refine j_callV (As := []) (rest := []) (stk := [.int q18]) (G2 := (X.1, X.2, M0)) C0 (c_X0_size hi (G0 := (X.1, X.2, M0)) (j := 0) (by decide) hcq18) kw_X5_202 bi_X0_size bx_X0_size (ia hi (id_5 (by decide))) oc_5 (eS_self _ _ _) ⟨by decide, by decide⟩ ⟨Nat.zero_le _, Nat.zero_le _⟩ rfl rfl (Nat.le_of_ble_eq_true rfl) rfl (eS_self _ _ _) dX5_count_217 ?_
    exact j_iret C0 hr dX5_count_220 (so hf) rfl
  have hf := if_f c17 hf
  by_cases c19 : x1 = 11
  · have hf := if_t c19 hf
    refine j_tableEq C0 11 (tgt := 221) c19 dX5_count_1 (by decide) (by decide) rfl (by decide) ?_
    refine j_aload_n C0 dX5_count_221 rfl 0 rfl ?_
    refine j_geti (x := (X.1 13 0)) C0 fl_X5_205 sl_5_7 (ia hi id_c0) rfl dX5_count_222 ?_
    exact j_iret C0 hr dX5_count_225 (so hf) rfl
  have hf := if_f c19 hf
  by_cases c20 : x1 = 12
  · have hf := if_t c20 hf
    refine j_tableEq C0 12 (tgt := 226) c20 dX5_count_1 (by decide) (by decide) rfl (by decide) ?_
    refine j_aload_n C0 dX5_count_226 rfl 0 rfl ?_
    refine j_getr (id2 := (11, 0, 0)) C0 fl_X5_36 rl_5_5 (ia hi id_c0) dX5_count_227 ?_
    refine j_geti (x := (X.1 11 0)) C0 fl_X5_208 sl_4_2 (ia hi id_c11) rfl dX5_count_230 ?_
    exact j_iret C0 hr dX5_count_233 (so hf) rfl
  have hf := if_f c20 hf
  by_cases c21 : x1 = 13
  · have hf := if_t c21 hf
    refine j_tableEq C0 13 (tgt := 249) c21 dX5_count_1 (by decide) (by decide) rfl (by decide) ?_
    refine j_ldc (v := -1000001) C0 dX5_count_249 cw_X5_78 ?_
    exact j_iret C0 hr dX5_count_251 (so hf) rfl
  have hf := if_f c21 hf
  by_cases c22 : x1 = 14
  · have hf := if_t c22 hf
    refine j_tableEq C0 14 (tgt := 249) c22 dX5_count_1 (by decide) (by decide) rfl (by decide) ?_
    refine j_ldc (v := -1000001) C0 dX5_count_249 cw_X5_78 ?_
    exact j_iret C0 hr dX5_count_251 (so hf) rfl
  have hf := if_f c22 hf
  by_cases c23 : x1 = 15
  · have hf := if_t c23 hf
    refine j_tableEq C0 15 (tgt := 249) c23 dX5_count_1 (by decide) (by decide) rfl (by decide) ?_
    refine j_ldc (v := -1000001) C0 dX5_count_249 cw_X5_78 ?_
    exact j_iret C0 hr dX5_count_251 (so hf) rfl
  have hf := if_f c23 hf
  by_cases c24 : x1 = 16
  · have hf := if_t c24 hf
    refine j_tableEq C0 16 (tgt := 249) c24 dX5_count_1 (by decide) (by decide) rfl (by decide) ?_
    refine j_ldc (v := -1000001) C0 dX5_count_249 cw_X5_78 ?_
    exact j_iret C0 hr dX5_count_251 (so hf) rfl
  have hf := if_f c24 hf
  by_cases c25 : x1 = 17
  · have hf := if_t c25 hf
    refine j_tableEq C0 17 (tgt := 249) c25 dX5_count_1 (by decide) (by decide) rfl (by decide) ?_
    refine j_ldc (v := -1000001) C0 dX5_count_249 cw_X5_78 ?_
    exact j_iret C0 hr dX5_count_251 (so hf) rfl
  have hf := if_f c25 hf
  by_cases c26 : x1 = 18
  · have hf := if_t c26 hf
    refine j_tableEq C0 18 (tgt := 249) c26 dX5_count_1 (by decide) (by decide) rfl (by decide) ?_
    refine j_ldc (v := -1000001) C0 dX5_count_249 cw_X5_78 ?_
    exact j_iret C0 hr dX5_count_251 (so hf) rfl
  have hf := if_f c26 hf
  by_cases c27 : x1 = 19
  · have hf := if_t c27 hf
    refine j_tableEq C0 19 (tgt := 249) c27 dX5_count_1 (by decide) (by decide) rfl (by decide) ?_
    refine j_ldc (v := -1000001) C0 dX5_count_249 cw_X5_78 ?_
    exact j_iret C0 hr dX5_count_251 (so hf) rfl
  have hf := if_f c27 hf
  by_cases c28 : x1 = 20
  · have hf := if_t c28 hf
    refine j_tableEq C0 20 (tgt := 234) c28 dX5_count_1 (by decide) (by decide) rfl (by decide) ?_
    refine j_aload_n C0 dX5_count_234 rfl 0 rfl ?_
    refine j_getr (id2 := (1, 0, 0)) C0 fl_X5_10 rl_5_0 (ia hi id_c0) dX5_count_235 ?_
    refine j_getr (id2 := (4, 0, 0)) C0 fl_X5_211 rl_3_1 (ia hi (id_1 (by decide))) dX5_count_238 ?_
    refine j_iload_n C0 dX5_count_241 rfl 1 rfl ?_
    refine j_bipush (v := 20) C0 dX5_count_242 rfl ?_
    refine j_isub C0 dX5_count_244 ?_
    obtain ⟨q29, hcq29, hf⟩ := bd_some hf
    refine j_callV (As := [.int (x1 - (20 : Int32))]) (rest := []) (stk := [.int q29]) (G2 := (X.1, X.2, M0)) C0 (c_X2_valueOf hi (G0 := (X.1, X.2, M0)) (j := 0) (by decide) hcq29) kw_X5_215 bi_X2_valueOf bx_X2_valueOf (ia hi (id_4 (by decide))) oc_4 (eS_self _ _ _) ⟨by decide, by decide⟩ ⟨Nat.zero_le _, Nat.zero_le _⟩ rfl rfl (Nat.le_of_ble_eq_true rfl) rfl (eS_self _ _ _) dX5_count_245 ?_
    exact j_iret C0 hr dX5_count_248 (so hf) rfl
  have hf := if_f c28 hf
  by_cases c30 : x1 = 21
  · have hf := if_t c30 hf
    refine j_tableEq C0 21 (tgt := 234) c30 dX5_count_1 (by decide) (by decide) rfl (by decide) ?_
    refine j_aload_n C0 dX5_count_234 rfl 0 rfl ?_
    refine j_getr (id2 := (1, 0, 0)) C0 fl_X5_10 rl_5_0 (ia hi id_c0) dX5_count_235 ?_
    refine j_getr (id2 := (4, 0, 0)) C0 fl_X5_211 rl_3_1 (ia hi (id_1 (by decide))) dX5_count_238 ?_
    refine j_iload_n C0 dX5_count_241 rfl 1 rfl ?_
    refine j_bipush (v := 20) C0 dX5_count_242 rfl ?_
    refine j_isub C0 dX5_count_244 ?_
    obtain ⟨q31, hcq31, hf⟩ := bd_some hf
    refine j_callV (As := [.int (x1 - (20 : Int32))]) (rest := []) (stk := [.int q31]) (G2 := (X.1, X.2, M0)) C0 (c_X2_valueOf hi (G0 := (X.1, X.2, M0)) (j := 0) (by decide) hcq31) kw_X5_215 bi_X2_valueOf bx_X2_valueOf (ia hi (id_4 (by decide))) oc_4 (eS_self _ _ _) ⟨by decide, by decide⟩ ⟨Nat.zero_le _, Nat.zero_le _⟩ rfl rfl (Nat.le_of_ble_eq_true rfl) rfl (eS_self _ _ _) dX5_count_245 ?_
    exact j_iret C0 hr dX5_count_248 (so hf) rfl
  have hf := if_f c30 hf
  by_cases c32 : x1 = 22
  · have hf := if_t c32 hf
    refine j_tableEq C0 22 (tgt := 234) c32 dX5_count_1 (by decide) (by decide) rfl (by decide) ?_
    refine j_aload_n C0 dX5_count_234 rfl 0 rfl ?_
    refine j_getr (id2 := (1, 0, 0)) C0 fl_X5_10 rl_5_0 (ia hi id_c0) dX5_count_235 ?_
    refine j_getr (id2 := (4, 0, 0)) C0 fl_X5_211 rl_3_1 (ia hi (id_1 (by decide))) dX5_count_238 ?_
    refine j_iload_n C0 dX5_count_241 rfl 1 rfl ?_
    refine j_bipush (v := 20) C0 dX5_count_242 rfl ?_
    refine j_isub C0 dX5_count_244 ?_
    obtain ⟨q33, hcq33, hf⟩ := bd_some hf
    refine j_callV (As := [.int (x1 - (20 : Int32))]) (rest := []) (stk := [.int q33]) (G2 := (X.1, X.2, M0)) C0 (c_X2_valueOf hi (G0 := (X.1, X.2, M0)) (j := 0) (by decide) hcq33) kw_X5_215 bi_X2_valueOf bx_X2_valueOf (ia hi (id_4 (by decide))) oc_4 (eS_self _ _ _) ⟨by decide, by decide⟩ ⟨Nat.zero_le _, Nat.zero_le _⟩ rfl rfl (Nat.le_of_ble_eq_true rfl) rfl (eS_self _ _ _) dX5_count_245 ?_
    exact j_iret C0 hr dX5_count_248 (so hf) rfl
  have hf := if_f c32 hf
  by_cases c34 : x1 = 23
  · have hf := if_t c34 hf
    refine j_tableEq C0 23 (tgt := 234) c34 dX5_count_1 (by decide) (by decide) rfl (by decide) ?_
    refine j_aload_n C0 dX5_count_234 rfl 0 rfl ?_
    refine j_getr (id2 := (1, 0, 0)) C0 fl_X5_10 rl_5_0 (ia hi id_c0) dX5_count_235 ?_
    refine j_getr (id2 := (4, 0, 0)) C0 fl_X5_211 rl_3_1 (ia hi (id_1 (by decide))) dX5_count_238 ?_
    refine j_iload_n C0 dX5_count_241 rfl 1 rfl ?_
    refine j_bipush (v := 20) C0 dX5_count_242 rfl ?_
    refine j_isub C0 dX5_count_244 ?_
    obtain ⟨q35, hcq35, hf⟩ := bd_some hf
    refine j_callV (As := [.int (x1 - (20 : Int32))]) (rest := []) (stk := [.int q35]) (G2 := (X.1, X.2, M0)) C0 (c_X2_valueOf hi (G0 := (X.1, X.2, M0)) (j := 0) (by decide) hcq35) kw_X5_215 bi_X2_valueOf bx_X2_valueOf (ia hi (id_4 (by decide))) oc_4 (eS_self _ _ _) ⟨by decide, by decide⟩ ⟨Nat.zero_le _, Nat.zero_le _⟩ rfl rfl (Nat.le_of_ble_eq_true rfl) rfl (eS_self _ _ _) dX5_count_245 ?_
    exact j_iret C0 hr dX5_count_248 (so hf) rfl
  have hf := if_f c34 hf
  by_cases c36 : x1 = 24
  · have hf := if_t c36 hf
    refine j_tableEq C0 24 (tgt := 234) c36 dX5_count_1 (by decide) (by decide) rfl (by decide) ?_
    refine j_aload_n C0 dX5_count_234 rfl 0 rfl ?_
    refine j_getr (id2 := (1, 0, 0)) C0 fl_X5_10 rl_5_0 (ia hi id_c0) dX5_count_235 ?_
    refine j_getr (id2 := (4, 0, 0)) C0 fl_X5_211 rl_3_1 (ia hi (id_1 (by decide))) dX5_count_238 ?_
    refine j_iload_n C0 dX5_count_241 rfl 1 rfl ?_
    refine j_bipush (v := 20) C0 dX5_count_242 rfl ?_
    refine j_isub C0 dX5_count_244 ?_
    obtain ⟨q37, hcq37, hf⟩ := bd_some hf
    refine j_callV (As := [.int (x1 - (20 : Int32))]) (rest := []) (stk := [.int q37]) (G2 := (X.1, X.2, M0)) C0 (c_X2_valueOf hi (G0 := (X.1, X.2, M0)) (j := 0) (by decide) hcq37) kw_X5_215 bi_X2_valueOf bx_X2_valueOf (ia hi (id_4 (by decide))) oc_4 (eS_self _ _ _) ⟨by decide, by decide⟩ ⟨Nat.zero_le _, Nat.zero_le _⟩ rfl rfl (Nat.le_of_ble_eq_true rfl) rfl (eS_self _ _ _) dX5_count_245 ?_
    exact j_iret C0 hr dX5_count_248 (so hf) rfl
  have hf := if_f c36 hf
  by_cases c38 : x1 = 25
  · have hf := if_t c38 hf
    refine j_tableEq C0 25 (tgt := 234) c38 dX5_count_1 (by decide) (by decide) rfl (by decide) ?_
    refine j_aload_n C0 dX5_count_234 rfl 0 rfl ?_
    refine j_getr (id2 := (1, 0, 0)) C0 fl_X5_10 rl_5_0 (ia hi id_c0) dX5_count_235 ?_
    refine j_getr (id2 := (4, 0, 0)) C0 fl_X5_211 rl_3_1 (ia hi (id_1 (by decide))) dX5_count_238 ?_
    refine j_iload_n C0 dX5_count_241 rfl 1 rfl ?_
    refine j_bipush (v := 20) C0 dX5_count_242 rfl ?_
    refine j_isub C0 dX5_count_244 ?_
    obtain ⟨q39, hcq39, hf⟩ := bd_some hf
    refine j_callV (As := [.int (x1 - (20 : Int32))]) (rest := []) (stk := [.int q39]) (G2 := (X.1, X.2, M0)) C0 (c_X2_valueOf hi (G0 := (X.1, X.2, M0)) (j := 0) (by decide) hcq39) kw_X5_215 bi_X2_valueOf bx_X2_valueOf (ia hi (id_4 (by decide))) oc_4 (eS_self _ _ _) ⟨by decide, by decide⟩ ⟨Nat.zero_le _, Nat.zero_le _⟩ rfl rfl (Nat.le_of_ble_eq_true rfl) rfl (eS_self _ _ _) dX5_count_245 ?_
    exact j_iret C0 hr dX5_count_248 (so hf) rfl
  have hf := if_f c38 hf
  exact (none_ne hf).elim

set_option maxHeartbeats 4000000 in
set_option maxRecDepth 100000 in
theorem c_L_cell {l : Launch} {D : va_G} {ca : Nat → ClassId} {ad : I3 → Nat} (hi : adI ad) {G0 : GS} {x2 : Int32} {r0 : Int32}  (hf : fL_cell (ad (19, 0, 0)) (scX ad) x2 = some (r0)) : MT l D ca ad yL_cell cL_cell 2 (some .int) 0 0 [.ref (ad (17, 3, 0)), .int x2] G0 (some (.int r0)) G0 := by
  refine met_J (lv := [(0, .ref (ad (17, 3, 0))), (1, .int x2)]) hi (by decide +kernel) (Nat.le_of_ble_eq_true rfl) rfl (fun p e s m below meth c C0 hr => ?_)
  unfold fL_cell at hf
  refine j_iload_n C0 dL_cell_0 rfl 1 rfl ?_
  refine j_aload_n C0 dL_cell_1 rfl 0 rfl ?_
  refine j_sclen (v := (Int32.ofNat (ad (19, 0, 0)))) C0 rfl dL_cell_2 ?_
  refine j_icmp_ge (tgt := 12) C0 dL_cell_3 (by decide) (fun c1 => ?_) (fun c1 => ?_)
  · have hf := if_t c1 hf
    refine j_ldc (v := 2146121005) C0 dL_cell_12 cw_L_7 ?_
    refine j_iload_n C0 dL_cell_14 rfl 1 rfl ?_
    refine j_iconst (v := 1) C0 dL_cell_15 rfl ?_
    refine j_iadd C0 dL_cell_16 ?_
    refine j_imul C0 dL_cell_17 ?_
    exact j_iret C0 hr dL_cell_18 (so hf) rfl
  have hf := if_f c1 hf
  refine j_aload_n C0 dL_cell_6 rfl 0 rfl ?_
  refine j_iload_n C0 dL_cell_7 rfl 1 rfl ?_
  obtain ⟨h2, hf⟩ := gd_some hf
  refine j_sci C0 h2 dL_cell_8 ?_
  refine j_goto (tgt := 18) C0 dL_cell_9 (by decide) ?_
  exact j_iret C0 hr dL_cell_18 (so hf) rfl

set_option maxHeartbeats 4000000 in
set_option maxRecDepth 100000 in
theorem c_L_low {l : Launch} {D : va_G} {ca : Nat → ClassId} {ad : I3 → Nat} (hi : adI ad) {G0 : GS} {x1 : Int32} {x2 : Int32} {r0 : Int32}  (hf : fL_low x1 x2 = some (r0)) : MT l D ca ad yL_low cL_low 2 (some .int) 0 0 [.int x1, .int x2] G0 (some (.int r0)) G0 := by
  refine met_J (lv := [(0, .int x1), (1, .int x2)]) hi (by decide +kernel) (Nat.le_of_ble_eq_true rfl) rfl (fun p e s m below meth c C0 hr => ?_)
  unfold fL_low at hf
  refine j_iload_n C0 dL_low_0 rfl 0 rfl ?_
  refine j_ldc (v := 2147483647) C0 dL_low_1 cw_L_8 ?_
  refine j_iand C0 dL_low_3 ?_
  refine j_iload_n C0 dL_low_4 rfl 1 rfl ?_
  obtain ⟨h1, hf⟩ := gd_some hf
  refine j_irem C0 dL_low_5 h1 ?_
  exact j_iret C0 hr dL_low_6 (so hf) rfl

set_option maxHeartbeats 4000000 in
set_option maxRecDepth 100000 in
theorem c_L_counted {l : Launch} {D : va_G} {ca : Nat → ClassId} {ad : I3 → Nat} (hi : adI ad) {Cc : Nat → Nat → Int32} {Bb : Nat → Fin 9} {M : Nat → Nat → Int32} {a1 : Nat} {a2 : Nat} {x3 : Int32} {r0 : Int32} (al1 : AL ca ad (14, a1, 0) 0 35 true a1 0) (hid1 : (14, a1, 0) ∈ idA ad) (al2 : AL ca ad (14, a2, 0) 0 40 true a2 0) (hid2 : (14, a2, 0) ∈ idA ad) (hf : fL_counted M a1 a2 x3 = some (r0)) : MT l D ca ad yL_counted cL_counted 3 (some .int) 0 0 [.ref (ad (14, a1, 0)), .ref (ad (14, a2, 0)), .int x3] (Cc, Bb, M) (some (.int r0)) (Cc, Bb, M) := by
  refine met_J (lv := [(0, .ref (ad (14, a1, 0))), (1, .ref (ad (14, a2, 0))), (2, .int x3)]) hi (by decide +kernel) (Nat.le_of_ble_eq_true rfl) rfl (fun p e s m below meth c C0 hr => ?_)
  unfold fL_counted at hf
  refine j_aload_n C0 dL_counted_0 rfl 0 rfl ?_
  refine j_bipush (v := 20) C0 dL_counted_1 rfl ?_
  refine j_iload_n C0 dL_counted_3 rfl 2 rfl ?_
  refine j_iadd C0 dL_counted_4 ?_
  obtain ⟨h1, hf⟩ := gd_some hf
  refine j_iald (x := (M a1 (((20 : Int32) + x3).toNatClampNeg))) C0 al1 rfl hid1 h1 (by rw [Nat.zero_add]; rfl) dL_counted_5 ?_
  refine j_if_ne (tgt := 16) C0 dL_counted_6 (by decide) (fun c2 => ?_) (fun c2 => ?_)
  · have hf := if_f c2 hf
    refine j_aload_n C0 dL_counted_16 rfl 0 rfl ?_
    refine j_iconst (v := 5) C0 dL_counted_17 rfl ?_
    refine j_iload_n C0 dL_counted_18 rfl 2 rfl ?_
    refine j_iadd C0 dL_counted_19 ?_
    obtain ⟨h3, hf⟩ := gd_some hf
    refine j_iald (x := (M a1 (((5 : Int32) + x3).toNatClampNeg))) C0 al1 rfl hid1 h3 (by rw [Nat.zero_add]; rfl) dL_counted_20 ?_
    refine j_aload_n C0 dL_counted_21 rfl 1 rfl ?_
    refine j_bipush (v := 10) C0 dL_counted_22 rfl ?_
    refine j_iload_n C0 dL_counted_24 rfl 2 rfl ?_
    refine j_iadd C0 dL_counted_25 ?_
    obtain ⟨h4, hf⟩ := gd_some hf
    refine j_iald (x := (M a2 (((10 : Int32) + x3).toNatClampNeg))) C0 al2 rfl hid2 h4 (by rw [Nat.zero_add]; rfl) dL_counted_26 ?_
    refine j_iadd C0 dL_counted_27 ?_
    exact j_iret C0 hr dL_counted_28 (so hf) rfl
  have hf := if_t c2 hf
  refine j_aload_n C0 dL_counted_9 rfl 0 rfl ?_
  refine j_iload_n C0 dL_counted_10 rfl 2 rfl ?_
  obtain ⟨h5, hf⟩ := gd_some hf
  refine j_iald (x := (M a1 (x3.toNatClampNeg))) C0 al1 rfl hid1 h5 (by rw [Nat.zero_add]; rfl) dL_counted_11 ?_
  refine j_ineg C0 dL_counted_12 ?_
  refine j_goto (tgt := 28) C0 dL_counted_13 (by decide) ?_
  exact j_iret C0 hr dL_counted_28 (so hf) rfl

set_option maxHeartbeats 4000000 in
set_option maxRecDepth 100000 in
theorem c_L_error {l : Launch} {D : va_G} {ca : Nat → ClassId} {ad : I3 → Nat} (hi : adI ad) {Cc : Nat → Nat → Int32} {Bb : Nat → Fin 9} {M : Nat → Nat → Int32} {a1 : Nat} {a2 : Nat} {a3 : Nat} {x4 : Int32} {r0 : Int32} (al1 : AL ca ad (14, a1, 0) 0 19 true a1 0) (hid1 : (14, a1, 0) ∈ idA ad) (al2 : AL ca ad (14, a2, 0) 0 35 true a2 0) (hid2 : (14, a2, 0) ∈ idA ad) (al3 : AL ca ad (14, a3, 0) 0 40 true a3 0) (hid3 : (14, a3, 0) ∈ idA ad) (hf : fL_error M a1 a2 a3 x4 = some (r0)) : MT l D ca ad yL_error cL_error 7 (some .int) 1 22 [.ref (ad (14, a1, 0)), .ref (ad (14, a2, 0)), .ref (ad (14, a3, 0)), .int x4] (Cc, Bb, M) (some (.int r0)) (Cc, Bb, M) := by
  refine met_J (lv := [(0, .ref (ad (14, a1, 0))), (1, .ref (ad (14, a2, 0))), (2, .ref (ad (14, a3, 0))), (3, .int x4)]) hi (by decide +kernel) (Nat.le_of_ble_eq_true rfl) rfl (fun p e s m below meth c C0 hr => ?_)
  unfold fL_error at hf
  refine j_aload_n C0 dL_error_0 rfl 1 rfl ?_
  refine j_aload_n C0 dL_error_1 rfl 2 rfl ?_
  refine j_iload_n C0 dL_error_2 rfl 3 rfl ?_
  obtain ⟨q1, hcq1, hf⟩ := bd_some hf
  refine j_callS (As := [.ref (ad (14, a2, 0)), .ref (ad (14, a3, 0)), .int x4]) (rest := []) (stk := [.int q1]) (G2 := (Cc, Bb, M)) C0 (c_L_counted hi (Cc := Cc) (Bb := Bb) al2 hid2 al3 hid3 hcq1) kw_L_9 bi_L_counted rfl ⟨by decide, by decide⟩ ⟨Nat.zero_le _, Nat.zero_le _⟩ rfl rfl (Nat.le_of_ble_eq_true rfl) rfl rfl dL_error_3 ?_
  refine j_aload_n C0 dL_error_6 rfl 2 rfl ?_
  refine j_bipush (v := 35) C0 dL_error_7 rfl ?_
  refine j_iload_n C0 dL_error_9 rfl 3 rfl ?_
  refine j_iadd C0 dL_error_10 ?_
  obtain ⟨h2, hf⟩ := gd_some hf
  refine j_iald (x := (M a3 (((35 : Int32) + x4).toNatClampNeg))) C0 al3 rfl hid3 h2 (by rw [Nat.zero_add]; rfl) dL_error_11 ?_
  refine j_isub C0 dL_error_12 ?_
  refine j_istore (lv' := [(4, .int (q1 - (M a3 (((35 : Int32) + x4).toNatClampNeg)))), (0, .ref (ad (14, a1, 0))), (1, .ref (ad (14, a2, 0))), (2, .ref (ad (14, a3, 0))), (3, .int x4)]) C0 dL_error_13 (by decide) rfl ?_
  refine j_aload_n C0 dL_error_15 rfl 2 rfl ?_
  refine j_bipush (v := 15) C0 dL_error_16 rfl ?_
  refine j_iload_n C0 dL_error_18 rfl 4 rfl ?_
  refine j_iadd C0 dL_error_19 ?_
  obtain ⟨h3, hf⟩ := gd_some hf
  refine j_iald (x := (M a2 (((15 : Int32) + x4).toNatClampNeg))) C0 al2 rfl hid2 h3 (by rw [Nat.zero_add]; rfl) dL_error_20 ?_
  refine j_istore (lv' := [(5, .int (M a2 (((15 : Int32) + x4).toNatClampNeg))), (4, .int (q1 - (M a3 (((35 : Int32) + x4).toNatClampNeg)))), (0, .ref (ad (14, a1, 0))), (1, .ref (ad (14, a2, 0))), (2, .ref (ad (14, a3, 0))), (3, .int x4)]) C0 dL_error_21 (by decide) rfl ?_
  refine j_iload C0 dL_error_23 1 rfl ?_
  obtain ⟨q4, hsq4, hf⟩ := bd_some hf
  have Jq4 : J D ca ad p l e ({ frames := 1, cells := 0, slots := 0, locals := 22 }) s m [.ref (ad (14, a1, 0)), .ref (ad (14, a2, 0)), .ref (ad (14, a3, 0)), .int x4].toArray below meth c 0 0 (MQ below (post D ca ad (some (.int r0)) (Cc, Bb, M)) [.ref (ad (14, a1, 0)), .ref (ad (14, a2, 0)), .ref (ad (14, a3, 0)), .int x4].toArray s 0 0 (adA ad)) 7 (Cc, Bb, M) 47 [(0, .ref (ad (14, a1, 0))), (2, .ref (ad (14, a3, 0))), (3, .int x4)] [.int q4] := by
    refine j_istore (lv' := [(6, .int q4), (0, .ref (ad (14, a1, 0))), (2, .ref (ad (14, a3, 0))), (3, .int x4)]) C0 dL_error_47 (by decide) rfl ?_
    refine j_aload_n C0 dL_error_49 rfl 2 rfl ?_
    refine j_bipush (v := 30) C0 dL_error_50 rfl ?_
    refine j_iload_n C0 dL_error_52 rfl 3 rfl ?_
    refine j_iadd C0 dL_error_53 ?_
    obtain ⟨h5, hf⟩ := gd_some hf
    refine j_iald (x := (M a3 (((30 : Int32) + x4).toNatClampNeg))) C0 al3 rfl hid3 h5 (by rw [Nat.zero_add]; rfl) dL_error_54 ?_
    refine j_iload C0 dL_error_55 0 rfl ?_
    refine j_iadd C0 dL_error_57 ?_
    refine j_aload_n C0 dL_error_58 rfl 1 rfl ?_
    refine j_bipush (v := 6) C0 dL_error_59 rfl ?_
    refine j_iald (x := (M a1 6)) C0 al1 rfl hid1 (by decide) (by rw [Nat.zero_add]; rfl) dL_error_61 ?_
    refine j_aload_n C0 dL_error_62 rfl 1 rfl ?_
    refine j_iconst (v := 3) C0 dL_error_63 rfl ?_
    refine j_iald (x := (M a1 3)) C0 al1 rfl hid1 (by decide) (by rw [Nat.zero_add]; rfl) dL_error_64 ?_
    obtain ⟨h6, hf⟩ := gd_some hf
    refine j_idiv C0 dL_error_65 h6 ?_
    refine j_isub C0 dL_error_66 ?_
    exact j_iret C0 hr dL_error_67 (so hf) rfl
  refine j_if_lt (tgt := 36) C0 dL_error_25 (by decide) (fun c7 => ?_) (fun c7 => ?_)
  · have hsq4 := if_t c7 hsq4
    refine j_iload C0 dL_error_36 0 rfl ?_
    refine j_iconst (v := 1) C0 dL_error_38 rfl ?_
    refine j_isub C0 dL_error_39 ?_
    refine j_iload C0 dL_error_40 1 rfl ?_
    refine j_isub C0 dL_error_42 ?_
    refine j_iload C0 dL_error_43 0 rfl ?_
    obtain ⟨h8, hsq4⟩ := gd_some hsq4
    refine j_idiv C0 dL_error_45 h8 ?_
    refine j_ineg C0 dL_error_46 ?_
    obtain rfl := so hsq4
    exact j_sub [2, 4, 5] rfl Jq4
  have hsq4 := if_f c7 hsq4
  refine j_iload C0 dL_error_28 1 rfl ?_
  refine j_iload C0 dL_error_30 0 rfl ?_
  obtain ⟨h9, hsq4⟩ := gd_some hsq4
  refine j_idiv C0 dL_error_32 h9 ?_
  refine j_goto (tgt := 47) C0 dL_error_33 (by decide) ?_
  obtain rfl := so hsq4
  exact j_sub [2, 4, 5] rfl Jq4

set_option maxHeartbeats 4000000 in
set_option maxRecDepth 100000 in
theorem c_L_off {l : Launch} {D : va_G} {ca : Nat → ClassId} {ad : I3 → Nat} (hi : adI ad) {Cc : Nat → Nat → Int32} {Bb : Nat → Fin 9} {M : Nat → Nat → Int32} {a1 : Nat} {a2 : Nat} {a3 : Nat} {x4 : Int32} {r0 : Int32} (al1 : AL ca ad (14, a1, 0) 0 19 true a1 0) (hid1 : (14, a1, 0) ∈ idA ad) (al2 : AL ca ad (14, a2, 0) 0 35 true a2 0) (hid2 : (14, a2, 0) ∈ idA ad) (al3 : AL ca ad (14, a3, 0) 0 40 true a3 0) (hid3 : (14, a3, 0) ∈ idA ad) (hf : fL_off M a1 a2 a3 x4 = some (r0)) : MT l D ca ad yL_off cL_off 5 (some .int) 2 48 [.ref (ad (14, a1, 0)), .ref (ad (14, a2, 0)), .ref (ad (14, a3, 0)), .int x4] (Cc, Bb, M) (some (.int r0)) (Cc, Bb, M) := by
  refine met_J (lv := [(0, .ref (ad (14, a1, 0))), (1, .ref (ad (14, a2, 0))), (2, .ref (ad (14, a3, 0))), (3, .int x4)]) hi (by decide +kernel) (Nat.le_of_ble_eq_true rfl) rfl (fun p e s m below meth c C0 hr => ?_)
  unfold fL_off at hf
  refine j_aload_n C0 dL_off_0 rfl 0 rfl ?_
  refine j_aload_n C0 dL_off_1 rfl 1 rfl ?_
  refine j_aload_n C0 dL_off_2 rfl 2 rfl ?_
  refine j_iload_n C0 dL_off_3 rfl 3 rfl ?_
  obtain ⟨q1, hcq1, hf⟩ := bd_some hf
  refine j_callS (As := [.ref (ad (14, a1, 0)), .ref (ad (14, a2, 0)), .ref (ad (14, a3, 0)), .int x4]) (rest := []) (stk := [.int q1]) (G2 := (Cc, Bb, M)) C0 (c_L_error hi (Cc := Cc) (Bb := Bb) al1 hid1 al2 hid2 al3 hid3 hcq1) kw_L_15 bi_L_error rfl ⟨by decide, by decide⟩ ⟨Nat.zero_le _, Nat.zero_le _⟩ rfl rfl (Nat.le_of_ble_eq_true rfl) rfl rfl dL_off_4 ?_
  refine j_istore (lv' := [(4, .int q1), (0, .ref (ad (14, a1, 0))), (1, .ref (ad (14, a2, 0))), (2, .ref (ad (14, a3, 0))), (3, .int x4)]) C0 dL_off_7 (by decide) rfl ?_
  refine j_iload C0 dL_off_9 0 rfl ?_
  refine j_if_ge (tgt := 20) C0 dL_off_11 (by decide) (fun c2 => ?_) (fun c2 => ?_)
  · have hf := if_t c2 hf
    refine j_iload C0 dL_off_20 0 rfl ?_
    exact j_iret C0 hr dL_off_22 (so hf) rfl
  have hf := if_f c2 hf
  refine j_iload C0 dL_off_14 0 rfl ?_
  refine j_ineg C0 dL_off_16 ?_
  refine j_goto (tgt := 22) C0 dL_off_17 (by decide) ?_
  exact j_iret C0 hr dL_off_22 (so hf) rfl

set_option maxHeartbeats 4000000 in
set_option maxRecDepth 100000 in
theorem c_L_trues {l : Launch} {D : va_G} {ca : Nat → ClassId} {ad : I3 → Nat} (hi : adI ad) {Cc : Nat → Nat → Int32} {Bb : Nat → Fin 9} {M : Nat → Nat → Int32} {a1 : Nat} {a2 : Nat} {a3 : Nat} {x4 : Int32} {M' : Nat → Nat → Int32} (al1 : AL ca ad (14, a1, 0) 0 19 true a1 0) (hid1 : (14, a1, 0) ∈ idA ad) (al2 : AL ca ad (14, a2, 0) 0 35 true a2 0) (hid2 : (14, a2, 0) ∈ idA ad) (al3 : AL ca ad (14, a3, 0) 0 40 true a3 0) (hid3 : (14, a3, 0) ∈ idA ad) (hf : fL_trues M a1 a2 a3 x4 = some (M')) : MT l D ca ad yL_trues cL_trues 4 none 1 22 [.ref (ad (14, a1, 0)), .ref (ad (14, a2, 0)), .ref (ad (14, a3, 0)), .int x4] (Cc, Bb, M) none (Cc, Bb, M') := by
  refine met_J (lv := [(0, .ref (ad (14, a1, 0))), (1, .ref (ad (14, a2, 0))), (2, .ref (ad (14, a3, 0))), (3, .int x4)]) hi (by decide +kernel) (Nat.le_of_ble_eq_true rfl) rfl (fun p e s m below meth c C0 hr => ?_)
  unfold fL_trues at hf
  refine j_aload_n C0 dL_trues_0 rfl 2 rfl ?_
  refine j_bipush (v := 30) C0 dL_trues_1 rfl ?_
  refine j_iload_n C0 dL_trues_3 rfl 3 rfl ?_
  refine j_iadd C0 dL_trues_4 ?_
  refine j_aload_n C0 dL_trues_5 rfl 0 rfl ?_
  refine j_bipush (v := 6) C0 dL_trues_6 rfl ?_
  refine j_iald (x := (M a1 6)) C0 al1 rfl hid1 (by decide) (by rw [Nat.zero_add]; rfl) dL_trues_8 ?_
  refine j_aload_n C0 dL_trues_9 rfl 0 rfl ?_
  refine j_iconst (v := 3) C0 dL_trues_10 rfl ?_
  refine j_iald (x := (M a1 3)) C0 al1 rfl hid1 (by decide) (by rw [Nat.zero_add]; rfl) dL_trues_11 ?_
  obtain ⟨h1, hf⟩ := gd_some hf
  refine j_idiv C0 dL_trues_12 h1 ?_
  obtain ⟨h2, hf⟩ := gd_some hf
  obtain ⟨M3, e4, hf⟩ := lt_some hf
  refine j_iast (G' := (Cc, Bb, M3)) C0 al3 rfl hid3 h2 (by rw [Nat.zero_add]; exact (eM_set e4)) dL_trues_13 ?_
  refine j_aload_n C0 dL_trues_14 rfl 2 rfl ?_
  refine j_bipush (v := 35) C0 dL_trues_15 rfl ?_
  refine j_iload_n C0 dL_trues_17 rfl 3 rfl ?_
  refine j_iadd C0 dL_trues_18 ?_
  refine j_aload_n C0 dL_trues_19 rfl 1 rfl ?_
  refine j_aload_n C0 dL_trues_20 rfl 2 rfl ?_
  refine j_iload_n C0 dL_trues_21 rfl 3 rfl ?_
  obtain ⟨q5, hcq5, hf⟩ := bd_some hf
  refine j_callS (As := [.ref (ad (14, a2, 0)), .ref (ad (14, a3, 0)), .int x4]) (rest := [.int ((35 : Int32) + x4), .ref (ad (14, a3, 0))]) (stk := [.int q5, .int ((35 : Int32) + x4), .ref (ad (14, a3, 0))]) (G2 := (Cc, Bb, M3)) C0 (c_L_counted hi (Cc := Cc) (Bb := Bb) al2 hid2 al3 hid3 hcq5) kw_L_9 bi_L_counted rfl ⟨by decide, by decide⟩ ⟨Nat.zero_le _, Nat.zero_le _⟩ rfl rfl (Nat.le_of_ble_eq_true rfl) rfl rfl dL_trues_22 ?_
  obtain ⟨h6, hf⟩ := gd_some hf
  obtain ⟨M7, e8, hf⟩ := lt_some hf
  refine j_iast (G' := (Cc, Bb, M7)) C0 al3 rfl hid3 h6 (by rw [Nat.zero_add]; exact (eM_set e8)) dL_trues_25 ?_
  exact j_vret C0 hr dL_trues_26 (congrArg (fun z => (Cc, Bb, z)) (so hf))

set_option maxHeartbeats 4000000 in
set_option maxRecDepth 100000 in
theorem c_L_comes {l : Launch} {D : va_G} {ca : Nat → ClassId} {ad : I3 → Nat} (hi : adI ad) {Cc : Nat → Nat → Int32} {Bb : Nat → Fin 9} {M : Nat → Nat → Int32} {a1 : Nat} {a2 : Nat} {x3 : Int32} {x4 : Int32} {r0 : Int32} {M' : Nat → Nat → Int32} (al1 : AL ca ad (14, a1, 0) 0 19 true a1 0) (hid1 : (14, a1, 0) ∈ idA ad) (al2 : AL ca ad (14, a2, 0) 0 35 true a2 0) (hid2 : (14, a2, 0) ∈ idA ad) (hf : fL_comes M a1 a2 x3 x4 = some (r0, M')) : MT l D ca ad yL_comes cL_comes 6 (some .int) 0 0 [.ref (ad (14, a1, 0)), .ref (ad (14, a2, 0)), .int x3, .int x4] (Cc, Bb, M) (some (.int r0)) (Cc, Bb, M') := by
  refine met_J (lv := [(0, .ref (ad (14, a1, 0))), (1, .ref (ad (14, a2, 0))), (2, .int x3), (3, .int x4)]) hi (by decide +kernel) (Nat.le_of_ble_eq_true rfl) rfl (fun p e s m below meth c C0 hr => ?_)
  unfold fL_comes at hf
  refine j_aload_n C0 dL_comes_0 rfl 0 rfl ?_
  refine j_iconst (v := 0) C0 dL_comes_1 rfl ?_
  refine j_iald (x := (M a1 0)) C0 al1 rfl hid1 (by decide) (by rw [Nat.zero_add]; rfl) dL_comes_2 ?_
  refine j_aload_n C0 dL_comes_3 rfl 1 rfl ?_
  refine j_iload_n C0 dL_comes_4 rfl 2 rfl ?_
  obtain ⟨h1, hf⟩ := gd_some hf
  refine j_iald (x := (M a2 (x3.toNatClampNeg))) C0 al2 rfl hid2 h1 (by rw [Nat.zero_add]; rfl) dL_comes_5 ?_
  refine j_isub C0 dL_comes_6 ?_
  refine j_istore (lv' := [(4, .int ((M a1 0) - (M a2 (x3.toNatClampNeg)))), (0, .ref (ad (14, a1, 0))), (1, .ref (ad (14, a2, 0))), (2, .int x3), (3, .int x4)]) C0 dL_comes_7 (by decide) rfl ?_
  refine j_iload C0 dL_comes_9 0 rfl ?_
  obtain ⟨q2, hsq2, hf⟩ := bd_some hf
  have Jq2 : J D ca ad p l e ({ frames := 0, cells := 0, slots := 0, locals := 0 }) s m [.ref (ad (14, a1, 0)), .ref (ad (14, a2, 0)), .int x3, .int x4].toArray below meth c 0 0 (MQ below (post D ca ad (some (.int r0)) (Cc, Bb, M')) [.ref (ad (14, a1, 0)), .ref (ad (14, a2, 0)), .int x3, .int x4].toArray s 0 0 (adA ad)) 6 (Cc, Bb, M) 32 [(0, .ref (ad (14, a1, 0))), (1, .ref (ad (14, a2, 0))), (2, .int x3), (3, .int x4)] [.int q2] := by
    refine j_istore (lv' := [(5, .int q2), (0, .ref (ad (14, a1, 0))), (1, .ref (ad (14, a2, 0))), (2, .int x3), (3, .int x4)]) C0 dL_comes_32 (by decide) rfl ?_
    refine j_aload_n C0 dL_comes_34 rfl 2 rfl ?_
    refine j_iload_n C0 dL_comes_35 rfl 3 rfl ?_
    refine j_dup2 C0 dL_comes_36 rfl rfl ?_
    obtain ⟨h3, hf⟩ := gd_some hf
    refine j_iald (x := (M a2 (x3.toNatClampNeg))) C0 al2 rfl hid2 h3 (by rw [Nat.zero_add]; rfl) dL_comes_37 ?_
    refine j_iload_n C0 dL_comes_38 rfl 4 rfl ?_
    refine j_iload C0 dL_comes_39 0 rfl ?_
    refine j_isub C0 dL_comes_41 ?_
    refine j_iadd C0 dL_comes_42 ?_
    obtain ⟨h4, hf⟩ := gd_some hf
    obtain ⟨M5, e6, hf⟩ := lt_some hf
    refine j_iast (G' := (Cc, Bb, M5)) C0 al2 rfl hid2 h4 (by rw [Nat.zero_add]; exact (eM_set e6)) dL_comes_43 ?_
    refine j_aload_n C0 dL_comes_44 rfl 1 rfl ?_
    refine j_bipush (v := 9) C0 dL_comes_45 rfl ?_
    refine j_dup2 C0 dL_comes_47 rfl rfl ?_
    refine j_iald (x := (M5 a1 9)) C0 al1 rfl hid1 (by decide) (by rw [Nat.zero_add]; rfl) dL_comes_48 ?_
    refine j_iload C0 dL_comes_49 0 rfl ?_
    refine j_iadd C0 dL_comes_51 ?_
    obtain ⟨M7, e8, hf⟩ := lt_some hf
    refine j_iast (G' := (Cc, Bb, M7)) C0 al1 rfl hid1 (by decide) (by rw [Nat.zero_add]; exact (eM_set e8)) dL_comes_52 ?_
    refine j_iload C0 dL_comes_53 0 rfl ?_
    exact j_iret C0 hr dL_comes_55 (pr1 hf) (congrArg (fun z => (Cc, Bb, z)) (pr2 hf))
  refine j_if_ge (tgt := 18) C0 dL_comes_11 (by decide) (fun c9 => ?_) (fun c9 => ?_)
  · have hsq2 := if_t c9 hsq2
    refine j_iload_n C0 dL_comes_18 rfl 4 rfl ?_
    refine j_iload C0 dL_comes_19 0 rfl ?_
    refine j_icmp_le (tgt := 31) C0 dL_comes_21 (by decide) (fun c10 => ?_) (fun c10 => ?_)
    · have hsq2 := if_t c10 hsq2
      refine j_iconst (v := 0) C0 dL_comes_31 rfl ?_
      obtain rfl := so hsq2
      exact j_sub [1, 2, 3, 4] rfl Jq2
    have hsq2 := if_f c10 hsq2
    refine j_iload_n C0 dL_comes_24 rfl 4 rfl ?_
    refine j_iload C0 dL_comes_25 0 rfl ?_
    refine j_isub C0 dL_comes_27 ?_
    refine j_goto (tgt := 32) C0 dL_comes_28 (by decide) ?_
    obtain rfl := so hsq2
    exact j_sub [1, 2, 3, 4] rfl Jq2
  have hsq2 := if_f c9 hsq2
  refine j_iload_n C0 dL_comes_14 rfl 4 rfl ?_
  refine j_goto (tgt := 32) C0 dL_comes_15 (by decide) ?_
  obtain rfl := so hsq2
  exact j_sub [1, 2, 3, 4] rfl Jq2

set_option maxHeartbeats 4000000 in
set_option maxRecDepth 100000 in
theorem c_L_on {l : Launch} {D : va_G} {ca : Nat → ClassId} {ad : I3 → Nat} (hi : adI ad) {Cc : Nat → Nat → Int32} {Bb : Nat → Fin 9} {M : Nat → Nat → Int32} {a1 : Nat} {a2 : Nat} {x3 : Int32} {x4 : Int32} {M' : Nat → Nat → Int32} (al1 : AL ca ad (14, a1, 0) 0 19 true a1 0) (hid1 : (14, a1, 0) ∈ idA ad) (al2 : AL ca ad (14, a2, 0) 0 35 true a2 0) (hid2 : (14, a2, 0) ∈ idA ad) (hf : fL_on M a1 a2 x3 x4 = some (M')) : MT l D ca ad yL_on cL_on 5 none 1 25 [.ref (ad (14, a1, 0)), .ref (ad (14, a2, 0)), .int x3, .int x4] (Cc, Bb, M) none (Cc, Bb, M') := by
  refine met_J (lv := [(0, .ref (ad (14, a1, 0))), (1, .ref (ad (14, a2, 0))), (2, .int x3), (3, .int x4)]) hi (by decide +kernel) (Nat.le_of_ble_eq_true rfl) rfl (fun p e s m below meth c C0 hr => ?_)
  unfold fL_on at hf
  refine j_aload_n C0 dL_on_0 rfl 1 rfl ?_
  refine j_bipush (v := 25) C0 dL_on_1 rfl ?_
  refine j_iload_n C0 dL_on_3 rfl 2 rfl ?_
  refine j_iadd C0 dL_on_4 ?_
  obtain ⟨h1, hf⟩ := gd_some hf
  refine j_iald (x := (M a2 (((25 : Int32) + x3).toNatClampNeg))) C0 al2 rfl hid2 h1 (by rw [Nat.zero_add]; rfl) dL_on_5 ?_
  refine j_iload_n C0 dL_on_6 rfl 2 rfl ?_
  refine j_icmp_le (tgt := 27) C0 dL_on_7 (by decide) (fun c2 => ?_) (fun c2 => ?_)
  · have hf := if_t c2 hf
    refine j_aload_n C0 dL_on_27 rfl 0 rfl ?_
    refine j_bipush (v := 8) C0 dL_on_28 rfl ?_
    refine j_dup2 C0 dL_on_30 rfl rfl ?_
    refine j_iald (x := (M a1 8)) C0 al1 rfl hid1 (by decide) (by rw [Nat.zero_add]; rfl) dL_on_31 ?_
    refine j_iload_n C0 dL_on_32 rfl 3 rfl ?_
    refine j_iadd C0 dL_on_33 ?_
    obtain ⟨M3, e4, hf⟩ := lt_some hf
    refine j_iast (G' := (Cc, Bb, M3)) C0 al1 rfl hid1 (by decide) (by rw [Nat.zero_add]; exact (eM_set e4)) dL_on_34 ?_
    exact j_vret C0 hr dL_on_35 (congrArg (fun z => (Cc, Bb, z)) (so hf))
  have hf := if_f c2 hf
  refine j_aload_n C0 dL_on_10 rfl 0 rfl ?_
  refine j_aload_n C0 dL_on_11 rfl 1 rfl ?_
  refine j_aload_n C0 dL_on_12 rfl 1 rfl ?_
  refine j_bipush (v := 25) C0 dL_on_13 rfl ?_
  refine j_iload_n C0 dL_on_15 rfl 2 rfl ?_
  refine j_iadd C0 dL_on_16 ?_
  obtain ⟨h5, hf⟩ := gd_some hf
  refine j_iald (x := (M a2 (((25 : Int32) + x3).toNatClampNeg))) C0 al2 rfl hid2 h5 (by rw [Nat.zero_add]; rfl) dL_on_17 ?_
  refine j_iload_n C0 dL_on_18 rfl 3 rfl ?_
  obtain ⟨q6, hcq6, hf⟩ := bd_some hf
  refine j_callS (As := [.ref (ad (14, a1, 0)), .ref (ad (14, a2, 0)), .int (M a2 (((25 : Int32) + x3).toNatClampNeg)), .int x4]) (rest := []) (stk := [.int q6.1]) (G2 := (Cc, Bb, q6.2)) C0 (c_L_comes hi (Cc := Cc) (Bb := Bb) al1 hid1 al2 hid2 hcq6) kw_L_19 bi_L_comes rfl ⟨by decide, by decide⟩ ⟨Nat.zero_le _, Nat.zero_le _⟩ rfl rfl (Nat.le_of_ble_eq_true rfl) rfl rfl dL_on_19 ?_
  refine j_istore (lv' := [(4, .int q6.1), (0, .ref (ad (14, a1, 0))), (1, .ref (ad (14, a2, 0))), (2, .int x3), (3, .int x4)]) C0 dL_on_22 (by decide) rfl ?_
  refine j_goto (tgt := 35) C0 dL_on_24 (by decide) ?_
  exact j_vret C0 hr dL_on_35 (congrArg (fun z => (Cc, Bb, z)) (so hf))

set_option maxHeartbeats 4000000 in
set_option maxRecDepth 100000 in
theorem c_L_drip {l : Launch} {D : va_G} {ca : Nat → ClassId} {ad : I3 → Nat} (hi : adI ad) {Cc : Nat → Nat → Int32} {Bb : Nat → Fin 9} {M : Nat → Nat → Int32} {a1 : Nat} {x2 : Int32} {r0 : Int32} (al1 : AL ca ad (14, a1, 0) 0 35 true a1 0) (hid1 : (14, a1, 0) ∈ idA ad) (hf : fL_drip M a1 x2 = some (r0)) : MT l D ca ad yL_drip cL_drip 3 (some .int) 0 0 [.ref (ad (14, a1, 0)), .int x2] (Cc, Bb, M) (some (.int r0)) (Cc, Bb, M) := by
  refine met_J (lv := [(0, .ref (ad (14, a1, 0))), (1, .int x2)]) hi (by decide +kernel) (Nat.le_of_ble_eq_true rfl) rfl (fun p e s m below meth c C0 hr => ?_)
  unfold fL_drip at hf
  refine j_aload_n C0 dL_drip_0 rfl 0 rfl ?_
  refine j_bipush (v := 10) C0 dL_drip_1 rfl ?_
  refine j_iload_n C0 dL_drip_3 rfl 1 rfl ?_
  refine j_iadd C0 dL_drip_4 ?_
  obtain ⟨h1, hf⟩ := gd_some hf
  refine j_iald (x := (M a1 (((10 : Int32) + x2).toNatClampNeg))) C0 al1 rfl hid1 h1 (by rw [Nat.zero_add]; rfl) dL_drip_5 ?_
  refine j_sipush (v := 1000) C0 dL_drip_6 rfl ?_
  refine j_aload_n C0 dL_drip_9 rfl 0 rfl ?_
  refine j_iload_n C0 dL_drip_10 rfl 1 rfl ?_
  obtain ⟨h2, hf⟩ := gd_some hf
  refine j_iald (x := (M a1 (x2.toNatClampNeg))) C0 al1 rfl hid1 h2 (by rw [Nat.zero_add]; rfl) dL_drip_11 ?_
  refine j_iadd C0 dL_drip_12 ?_
  refine j_imul C0 dL_drip_13 ?_
  refine j_sipush (v := 1000) C0 dL_drip_14 rfl ?_
  refine j_idiv C0 dL_drip_17 (by decide) ?_
  refine j_istore_n (lv' := [(2, .int (((M a1 (((10 : Int32) + x2).toNatClampNeg)) * ((1000 : Int32) + (M a1 (x2.toNatClampNeg)))) / (1000 : Int32))), (0, .ref (ad (14, a1, 0))), (1, .int x2)]) C0 dL_drip_18 rfl (by decide) rfl ?_
  refine j_iload_n C0 dL_drip_19 rfl 0 rfl ?_
  refine j_aload_n C0 dL_drip_20 rfl 1 rfl ?_
  refine j_iload_n C0 dL_drip_21 rfl 2 rfl ?_
  obtain ⟨h3, hf⟩ := gd_some hf
  refine j_iald (x := (M a1 (x2.toNatClampNeg))) C0 al1 rfl hid1 h3 (by rw [Nat.zero_add]; rfl) dL_drip_22 ?_
  refine j_icmp_le (tgt := 32) C0 dL_drip_23 (by decide) (fun c4 => ?_) (fun c4 => ?_)
  · have hf := if_t c4 hf
    refine j_iload_n C0 dL_drip_32 rfl 0 rfl ?_
    exact j_iret C0 hr dL_drip_33 (so hf) rfl
  have hf := if_f c4 hf
  refine j_aload_n C0 dL_drip_26 rfl 1 rfl ?_
  refine j_iload_n C0 dL_drip_27 rfl 2 rfl ?_
  obtain ⟨h5, hf⟩ := gd_some hf
  refine j_iald (x := (M a1 (x2.toNatClampNeg))) C0 al1 rfl hid1 h5 (by rw [Nat.zero_add]; rfl) dL_drip_28 ?_
  refine j_goto (tgt := 33) C0 dL_drip_29 (by decide) ?_
  exact j_iret C0 hr dL_drip_33 (so hf) rfl

set_option maxHeartbeats 4000000 in
set_option maxRecDepth 100000 in
theorem c_L_noon {l : Launch} {D : va_G} {ca : Nat → ClassId} {ad : I3 → Nat} (hi : adI ad) {Cc : Nat → Nat → Int32} {Bb : Nat → Fin 9} {M : Nat → Nat → Int32} {a1 : Nat} {a2 : Nat} {a3 : Nat} {a4 : Nat} {n4 : Nat} {M' : Nat → Nat → Int32} (al1 : AL ca ad (14, a1, 0) 0 19 true a1 0) (hid1 : (14, a1, 0) ∈ idA ad) (al2 : AL ca ad (14, a2, 0) 0 35 true a2 0) (hid2 : (14, a2, 0) ∈ idA ad) (al3 : AL ca ad (14, a3, 0) 0 40 true a3 0) (hid3 : (14, a3, 0) ∈ idA ad) (al4 : AL ca ad (14, a4, 0) 0 n4 true a4 0) (hid4 : (14, a4, 0) ∈ idA ad) (hf : fL_noon M a1 a2 a3 a4 n4 = some (M')) : MT l D ca ad yL_noon cL_noon 5 none 3 72 [.ref (ad (14, a1, 0)), .ref (ad (14, a2, 0)), .ref (ad (14, a3, 0)), .ref (ad (14, a4, 0))] (Cc, Bb, M) none (Cc, Bb, M') := by
  refine met_J (lv := [(0, .ref (ad (14, a1, 0))), (1, .ref (ad (14, a2, 0))), (2, .ref (ad (14, a3, 0))), (3, .ref (ad (14, a4, 0)))]) hi (by decide +kernel) (Nat.le_of_ble_eq_true rfl) rfl (fun p e s m below meth c C0 hr => ?_)
  have L64 : ∀ (n : Nat) (M : Nat → Nat → Int32) (y4 : Int32), fL_noon_L64 a1 a2 a3 a4 n4 n M y4 = some (M') → J D ca ad p l e ({ frames := 3, cells := 0, slots := 0, locals := 72 }) s m [.ref (ad (14, a1, 0)), .ref (ad (14, a2, 0)), .ref (ad (14, a3, 0)), .ref (ad (14, a4, 0))].toArray below meth c 0 0 (MQ below (post D ca ad none (Cc, Bb, M')) [.ref (ad (14, a1, 0)), .ref (ad (14, a2, 0)), .ref (ad (14, a3, 0)), .ref (ad (14, a4, 0))].toArray s 0 0 (adA ad)) 5 (Cc, Bb, M) 64 [(0, .ref (ad (14, a1, 0))), (1, .ref (ad (14, a2, 0))), (2, .ref (ad (14, a3, 0))), (3, .ref (ad (14, a4, 0))), (4, .int y4)] [] := by
    intro n
    induction n with
    | zero =>
      intro M y4 hf
      exact (none_ne hf).elim
    | succ n ih =>
      intro M y4 hf
      rw [fL_noon_L64] at hf
      refine j_iload C0 dL_noon_64 4 rfl ?_
      refine j_aload_n C0 dL_noon_66 rfl 0 rfl ?_
      refine j_bipush (v := 18) C0 dL_noon_67 rfl ?_
      refine j_iald (x := (M a1 18)) C0 al1 rfl hid1 (by decide) (by rw [Nat.zero_add]; rfl) dL_noon_69 ?_
      refine j_icmp_ge (tgt := 153) C0 dL_noon_70 (by decide) (fun c13 => ?_) (fun c13 => ?_)
      · have hf := if_t c13 hf
        exact j_vret C0 hr dL_noon_153 (congrArg (fun z => (Cc, Bb, z)) (so hf))
      have hf := if_f c13 hf
      refine j_aload_n C0 dL_noon_73 rfl 3 rfl ?_
      refine j_iconst (v := 2) C0 dL_noon_74 rfl ?_
      refine j_iload C0 dL_noon_75 4 rfl ?_
      refine j_iadd C0 dL_noon_77 ?_
      refine j_aload_n C0 dL_noon_78 rfl 0 rfl ?_
      refine j_aload_n C0 dL_noon_79 rfl 1 rfl ?_
      refine j_aload_n C0 dL_noon_80 rfl 2 rfl ?_
      refine j_iload C0 dL_noon_81 4 rfl ?_
      obtain ⟨q14, hcq14, hf⟩ := bd_some hf
      refine j_callS (As := [.ref (ad (14, a1, 0)), .ref (ad (14, a2, 0)), .ref (ad (14, a3, 0)), .int y4]) (rest := [.int ((2 : Int32) + y4), .ref (ad (14, a4, 0))]) (stk := [.int q14, .int ((2 : Int32) + y4), .ref (ad (14, a4, 0))]) (G2 := (Cc, Bb, M)) C0 (c_L_error hi (Cc := Cc) (Bb := Bb) al1 hid1 al2 hid2 al3 hid3 hcq14) kw_L_15 bi_L_error rfl ⟨by decide, by decide⟩ ⟨Nat.zero_le _, Nat.zero_le _⟩ rfl rfl (Nat.le_of_ble_eq_true rfl) rfl rfl dL_noon_83 ?_
      obtain ⟨h15, hf⟩ := gd_some hf
      obtain ⟨M16, e17, hf⟩ := lt_some hf
      refine j_iast (G' := (Cc, Bb, M16)) C0 al4 rfl hid4 h15 (by rw [Nat.zero_add]; exact (eM_set e17)) dL_noon_86 ?_
      refine j_aload_n C0 dL_noon_87 rfl 0 rfl ?_
      refine j_aload_n C0 dL_noon_88 rfl 1 rfl ?_
      refine j_aload_n C0 dL_noon_89 rfl 2 rfl ?_
      refine j_iload C0 dL_noon_90 4 rfl ?_
      obtain ⟨q18, hcq18, hf⟩ := bd_some hf
      refine j_callS (As := [.ref (ad (14, a1, 0)), .ref (ad (14, a2, 0)), .ref (ad (14, a3, 0)), .int y4]) (rest := []) (stk := [.int q18]) (G2 := (Cc, Bb, M16)) C0 (c_L_off hi (Cc := Cc) (Bb := Bb) al1 hid1 al2 hid2 al3 hid3 hcq18) kw_L_35 bi_L_off rfl ⟨by decide, by decide⟩ ⟨Nat.zero_le _, Nat.zero_le _⟩ rfl rfl (Nat.le_of_ble_eq_true rfl) rfl rfl dL_noon_92 ?_
      refine j_aload_n C0 dL_noon_95 rfl 0 rfl ?_
      refine j_iconst (v := 4) C0 dL_noon_96 rfl ?_
      refine j_iald (x := (M16 a1 4)) C0 al1 rfl hid1 (by decide) (by rw [Nat.zero_add]; rfl) dL_noon_97 ?_
      refine j_icmp_le (tgt := 147) C0 dL_noon_98 (by decide) (fun c19 => ?_) (fun c19 => ?_)
      · have hf := if_t c19 hf
        refine j_iinc (v := (y4 + 1)) (lv' := [(4, .int (y4 + 1)), (0, .ref (ad (14, a1, 0))), (1, .ref (ad (14, a2, 0))), (2, .ref (ad (14, a3, 0))), (3, .ref (ad (14, a4, 0)))]) C0 dL_noon_147 4 rfl rfl (by decide) rfl ?_
        refine j_goto (tgt := 64) C0 dL_noon_150 (by decide) ?_
        exact j_sub [1, 2, 3, 4, 0] rfl (ih M16 (y4 + 1) hf)
      have hf := if_f c19 hf
      refine j_aload_n C0 dL_noon_101 rfl 0 rfl ?_
      refine j_bipush (v := 14) C0 dL_noon_102 rfl ?_
      refine j_dup2 C0 dL_noon_104 rfl rfl ?_
      refine j_iald (x := (M16 a1 14)) C0 al1 rfl hid1 (by decide) (by rw [Nat.zero_add]; rfl) dL_noon_105 ?_
      refine j_iconst (v := 1) C0 dL_noon_106 rfl ?_
      refine j_iadd C0 dL_noon_107 ?_
      obtain ⟨M20, e21, hf⟩ := lt_some hf
      refine j_iast (G' := (Cc, Bb, M20)) C0 al1 rfl hid1 (by decide) (by rw [Nat.zero_add]; exact (eM_set e21)) dL_noon_108 ?_
      refine j_aload_n C0 dL_noon_109 rfl 0 rfl ?_
      refine j_bipush (v := 15) C0 dL_noon_110 rfl ?_
      refine j_dup2 C0 dL_noon_112 rfl rfl ?_
      refine j_iald (x := (M20 a1 15)) C0 al1 rfl hid1 (by decide) (by rw [Nat.zero_add]; rfl) dL_noon_113 ?_
      refine j_aload_n C0 dL_noon_114 rfl 0 rfl ?_
      refine j_iconst (v := 5) C0 dL_noon_115 rfl ?_
      refine j_iald (x := (M20 a1 5)) C0 al1 rfl hid1 (by decide) (by rw [Nat.zero_add]; rfl) dL_noon_116 ?_
      refine j_iadd C0 dL_noon_117 ?_
      obtain ⟨M22, e23, hf⟩ := lt_some hf
      refine j_iast (G' := (Cc, Bb, M22)) C0 al1 rfl hid1 (by decide) (by rw [Nat.zero_add]; exact (eM_set e23)) dL_noon_118 ?_
      refine j_aload_n C0 dL_noon_119 rfl 2 rfl ?_
      refine j_bipush (v := 20) C0 dL_noon_120 rfl ?_
      refine j_iload C0 dL_noon_122 4 rfl ?_
      refine j_iadd C0 dL_noon_124 ?_
      refine j_dup2 C0 dL_noon_125 rfl rfl ?_
      obtain ⟨h24, hf⟩ := gd_some hf
      refine j_iald (x := (M22 a3 (((20 : Int32) + y4).toNatClampNeg))) C0 al3 rfl hid3 h24 (by rw [Nat.zero_add]; rfl) dL_noon_126 ?_
      refine j_aload_n C0 dL_noon_127 rfl 0 rfl ?_
      refine j_iconst (v := 5) C0 dL_noon_128 rfl ?_
      refine j_iald (x := (M22 a1 5)) C0 al1 rfl hid1 (by decide) (by rw [Nat.zero_add]; rfl) dL_noon_129 ?_
      refine j_iadd C0 dL_noon_130 ?_
      obtain ⟨h25, hf⟩ := gd_some hf
      obtain ⟨M26, e27, hf⟩ := lt_some hf
      refine j_iast (G' := (Cc, Bb, M26)) C0 al3 rfl hid3 h25 (by rw [Nat.zero_add]; exact (eM_set e27)) dL_noon_131 ?_
      refine j_aload_n C0 dL_noon_132 rfl 0 rfl ?_
      refine j_iconst (v := 5) C0 dL_noon_133 rfl ?_
      refine j_iald (x := (M26 a1 5)) C0 al1 rfl hid1 (by decide) (by rw [Nat.zero_add]; rfl) dL_noon_134 ?_
      refine j_iconst (v := 1) C0 dL_noon_135 rfl ?_
      refine j_icmp_ne (tgt := 147) C0 dL_noon_136 (by decide) (fun c28 => ?_) (fun c28 => ?_)
      · have hf := if_f c28 hf
        refine j_iinc (v := (y4 + 1)) (lv' := [(4, .int (y4 + 1)), (0, .ref (ad (14, a1, 0))), (1, .ref (ad (14, a2, 0))), (2, .ref (ad (14, a3, 0))), (3, .ref (ad (14, a4, 0)))]) C0 dL_noon_147 4 rfl rfl (by decide) rfl ?_
        refine j_goto (tgt := 64) C0 dL_noon_150 (by decide) ?_
        exact j_sub [1, 2, 3, 4, 0] rfl (ih M26 (y4 + 1) hf)
      have hf := if_t c28 hf
      refine j_aload_n C0 dL_noon_139 rfl 0 rfl ?_
      refine j_aload_n C0 dL_noon_140 rfl 1 rfl ?_
      refine j_aload_n C0 dL_noon_141 rfl 2 rfl ?_
      refine j_iload C0 dL_noon_142 4 rfl ?_
      obtain ⟨q29, hcq29, hf⟩ := bd_some hf
      refine j_callS (As := [.ref (ad (14, a1, 0)), .ref (ad (14, a2, 0)), .ref (ad (14, a3, 0)), .int y4]) (rest := []) (stk := []) (G2 := (Cc, Bb, q29)) C0 (c_L_trues hi (Cc := Cc) (Bb := Bb) al1 hid1 al2 hid2 al3 hid3 hcq29) kw_L_38 bi_L_trues rfl ⟨by decide, by decide⟩ ⟨Nat.zero_le _, Nat.zero_le _⟩ rfl rfl (Nat.le_of_ble_eq_true rfl) rfl rfl dL_noon_144 ?_
      refine j_iinc (v := (y4 + 1)) (lv' := [(4, .int (y4 + 1)), (0, .ref (ad (14, a1, 0))), (1, .ref (ad (14, a2, 0))), (2, .ref (ad (14, a3, 0))), (3, .ref (ad (14, a4, 0)))]) C0 dL_noon_147 4 rfl rfl (by decide) rfl ?_
      refine j_goto (tgt := 64) C0 dL_noon_150 (by decide) ?_
      exact j_sub [1, 2, 3, 4, 0] rfl (ih q29 (y4 + 1) hf)
  have L4 : ∀ (n : Nat) (M : Nat → Nat → Int32) (y4 : Int32), fL_noon_L4 a1 a2 a3 a4 n4 n M y4 = some (M') → J D ca ad p l e ({ frames := 3, cells := 0, slots := 0, locals := 72 }) s m [.ref (ad (14, a1, 0)), .ref (ad (14, a2, 0)), .ref (ad (14, a3, 0)), .ref (ad (14, a4, 0))].toArray below meth c 0 0 (MQ below (post D ca ad none (Cc, Bb, M')) [.ref (ad (14, a1, 0)), .ref (ad (14, a2, 0)), .ref (ad (14, a3, 0)), .ref (ad (14, a4, 0))].toArray s 0 0 (adA ad)) 5 (Cc, Bb, M) 4 [(0, .ref (ad (14, a1, 0))), (1, .ref (ad (14, a2, 0))), (2, .ref (ad (14, a3, 0))), (3, .ref (ad (14, a4, 0))), (4, .int y4)] [] := by
    intro n
    induction n with
    | zero =>
      intro M y4 hf
      exact (none_ne hf).elim
    | succ n ih =>
      intro M y4 hf
      rw [fL_noon_L4] at hf
      refine j_iload C0 dL_noon_4 4 rfl ?_
      refine j_bipush (v := 6) C0 dL_noon_6 rfl ?_
      refine j_icmp_le (tgt := 28) C0 dL_noon_8 (by decide) (fun c1 => ?_) (fun c1 => ?_)
      · have hf := if_t c1 hf
        refine j_aload_n C0 dL_noon_28 rfl 3 rfl ?_
        refine j_iconst (v := 0) C0 dL_noon_29 rfl ?_
        refine j_dup2 C0 dL_noon_30 rfl rfl ?_
        obtain ⟨h2, hf⟩ := gd_some hf
        refine j_iald (x := (M a4 0)) C0 al4 rfl hid4 h2 (by rw [Nat.zero_add]; rfl) dL_noon_31 ?_
        refine j_aload_n C0 dL_noon_32 rfl 3 rfl ?_
        refine j_iconst (v := 0) C0 dL_noon_33 rfl ?_
        obtain ⟨h3, hf⟩ := gd_some hf
        refine j_iald (x := (M a4 0)) C0 al4 rfl hid4 h3 (by rw [Nat.zero_add]; rfl) dL_noon_34 ?_
        refine j_iconst (v := 4) C0 dL_noon_35 rfl ?_
        obtain ⟨q4, hsq4, hf⟩ := bd_some hf
        have Jq4 : J D ca ad p l e ({ frames := 3, cells := 0, slots := 0, locals := 72 }) s m [.ref (ad (14, a1, 0)), .ref (ad (14, a2, 0)), .ref (ad (14, a3, 0)), .ref (ad (14, a4, 0))].toArray below meth c 0 0 (MQ below (post D ca ad none (Cc, Bb, M')) [.ref (ad (14, a1, 0)), .ref (ad (14, a2, 0)), .ref (ad (14, a3, 0)), .ref (ad (14, a4, 0))].toArray s 0 0 (adA ad)) 5 (Cc, Bb, M) 44 [(0, .ref (ad (14, a1, 0))), (1, .ref (ad (14, a2, 0))), (2, .ref (ad (14, a3, 0))), (3, .ref (ad (14, a4, 0)))] [.int q4, .int (M a4 0), .int (0 : Int32), .ref (ad (14, a4, 0))] := by
          refine j_iadd C0 dL_noon_44 ?_
          obtain ⟨h5, hf⟩ := gd_some hf
          obtain ⟨M6, e7, hf⟩ := lt_some hf
          refine j_iast (G' := (Cc, Bb, M6)) C0 al4 rfl hid4 h5 (by rw [Nat.zero_add]; exact (eM_set e7)) dL_noon_45 ?_
          refine j_aload_n C0 dL_noon_46 rfl 3 rfl ?_
          refine j_iconst (v := 1) C0 dL_noon_47 rfl ?_
          refine j_aload_n C0 dL_noon_48 rfl 0 rfl ?_
          refine j_bipush (v := 18) C0 dL_noon_49 rfl ?_
          refine j_iald (x := (M6 a1 18)) C0 al1 rfl hid1 (by decide) (by rw [Nat.zero_add]; rfl) dL_noon_51 ?_
          obtain ⟨h8, hf⟩ := gd_some hf
          obtain ⟨M9, e10, hf⟩ := lt_some hf
          refine j_iast (G' := (Cc, Bb, M9)) C0 al4 rfl hid4 h8 (by rw [Nat.zero_add]; exact (eM_set e10)) dL_noon_52 ?_
          refine j_aload_n C0 dL_noon_53 rfl 0 rfl ?_
          refine j_bipush (v := 13) C0 dL_noon_54 rfl ?_
          refine j_dup2 C0 dL_noon_56 rfl rfl ?_
          refine j_iald (x := (M9 a1 13)) C0 al1 rfl hid1 (by decide) (by rw [Nat.zero_add]; rfl) dL_noon_57 ?_
          refine j_iconst (v := 1) C0 dL_noon_58 rfl ?_
          refine j_iadd C0 dL_noon_59 ?_
          obtain ⟨M11, e12, hf⟩ := lt_some hf
          refine j_iast (G' := (Cc, Bb, M11)) C0 al1 rfl hid1 (by decide) (by rw [Nat.zero_add]; exact (eM_set e12)) dL_noon_60 ?_
          refine j_iconst (v := 0) C0 dL_noon_61 rfl ?_
          refine j_istore (lv' := [(4, .int (0 : Int32)), (0, .ref (ad (14, a1, 0))), (1, .ref (ad (14, a2, 0))), (2, .ref (ad (14, a3, 0))), (3, .ref (ad (14, a4, 0)))]) C0 dL_noon_62 (by decide) rfl ?_
          exact j_sub [1, 2, 3, 4, 0] rfl (L64 fuel M11 (0 : Int32) hf)
        refine j_icmp_ge (tgt := 43) C0 dL_noon_36 (by decide) (fun c30 => ?_) (fun c30 => ?_)
        · have hsq4 := if_t c30 hsq4
          refine j_iconst (v := 0) C0 dL_noon_43 rfl ?_
          obtain rfl := so hsq4
          exact j_sub [0, 1, 2, 3] rfl Jq4
        have hsq4 := if_f c30 hsq4
        refine j_iconst (v := 1) C0 dL_noon_39 rfl ?_
        refine j_goto (tgt := 44) C0 dL_noon_40 (by decide) ?_
        obtain rfl := so hsq4
        exact j_sub [0, 1, 2, 3] rfl Jq4
      have hf := if_f c1 hf
      refine j_aload_n C0 dL_noon_11 rfl 3 rfl ?_
      refine j_iload C0 dL_noon_12 4 rfl ?_
      refine j_aload_n C0 dL_noon_14 rfl 3 rfl ?_
      refine j_iload C0 dL_noon_15 4 rfl ?_
      refine j_bipush (v := 6) C0 dL_noon_17 rfl ?_
      refine j_isub C0 dL_noon_19 ?_
      obtain ⟨h31, hf⟩ := gd_some hf
      refine j_iald (x := (M a4 ((y4 - (6 : Int32)).toNatClampNeg))) C0 al4 rfl hid4 h31 (by rw [Nat.zero_add]; rfl) dL_noon_20 ?_
      obtain ⟨h32, hf⟩ := gd_some hf
      obtain ⟨M33, e34, hf⟩ := lt_some hf
      refine j_iast (G' := (Cc, Bb, M33)) C0 al4 rfl hid4 h32 (by rw [Nat.zero_add]; exact (eM_set e34)) dL_noon_21 ?_
      refine j_iinc (v := (y4 + (-1))) (lv' := [(4, .int (y4 + (-1))), (0, .ref (ad (14, a1, 0))), (1, .ref (ad (14, a2, 0))), (2, .ref (ad (14, a3, 0))), (3, .ref (ad (14, a4, 0)))]) C0 dL_noon_22 4 rfl rfl (by decide) rfl ?_
      refine j_goto (tgt := 4) C0 dL_noon_25 (by decide) ?_
      exact j_sub [1, 2, 3, 4, 0] rfl (ih M33 (y4 + (-1)) hf)
  unfold fL_noon at hf
  refine j_bipush (v := 24) C0 dL_noon_0 rfl ?_
  refine j_istore (lv' := [(4, .int (24 : Int32)), (0, .ref (ad (14, a1, 0))), (1, .ref (ad (14, a2, 0))), (2, .ref (ad (14, a3, 0))), (3, .ref (ad (14, a4, 0)))]) C0 dL_noon_2 (by decide) rfl ?_
  exact j_sub [1, 2, 3, 4, 0] rfl (L4 fuel M (24 : Int32) hf)

set_option maxHeartbeats 4000000 in
set_option maxRecDepth 100000 in
theorem c_L_ticks {l : Launch} {D : va_G} {ca : Nat → ClassId} {ad : I3 → Nat} (hi : adI ad) {Cc : Nat → Nat → Int32} {Bb : Nat → Fin 9} {M : Nat → Nat → Int32} {a1 : Nat} {a2 : Nat} {a3 : Nat} {a4 : Nat} {n4 : Nat} {x5 : Int32} {x6 : Int32} {r0 : Int32} {M' : Nat → Nat → Int32} (al1 : AL ca ad (14, a1, 0) 0 19 true a1 0) (hid1 : (14, a1, 0) ∈ idA ad) (al2 : AL ca ad (14, a2, 0) 0 35 true a2 0) (hid2 : (14, a2, 0) ∈ idA ad) (al3 : AL ca ad (14, a3, 0) 0 40 true a3 0) (hid3 : (14, a3, 0) ∈ idA ad) (al4 : AL ca ad (14, a4, 0) 0 n4 true a4 0) (hid4 : (14, a4, 0) ∈ idA ad) (hf : fL_ticks M a1 a2 a3 a4 n4 x5 x6 = some (r0, M')) : MT l D ca ad yL_ticks cL_ticks 12 (some .int) 4 96 [.ref (ad (14, a1, 0)), .ref (ad (14, a2, 0)), .ref (ad (14, a3, 0)), .ref (ad (14, a4, 0)), .int x5, .int x6] (Cc, Bb, M) (some (.int r0)) (Cc, Bb, M') := by
  refine met_J (lv := [(0, .ref (ad (14, a1, 0))), (1, .ref (ad (14, a2, 0))), (2, .ref (ad (14, a3, 0))), (3, .ref (ad (14, a4, 0))), (4, .int x5), (5, .int x6)]) hi (by decide +kernel) (Nat.le_of_ble_eq_true rfl) rfl (fun p e s m below meth c C0 hr => ?_)
  have L24 : ∀ (n : Nat) (M : Nat → Nat → Int32) (y4 : Int32) (y5 : Int32) (y6 : Int32) (y8 : Int32) (y9 : Int32) (q : (Nat → Nat → Int32) × Int32), fL_ticks_L24 a1 a2 a3 a4 n4 n M y4 y5 y6 y8 y9 = some q → J D ca ad p l e ({ frames := 4, cells := 0, slots := 0, locals := 96 }) s m [.ref (ad (14, a1, 0)), .ref (ad (14, a2, 0)), .ref (ad (14, a3, 0)), .ref (ad (14, a4, 0)), .int x5, .int x6].toArray below meth c 0 0 (MQ below (post D ca ad (some (.int r0)) (Cc, Bb, M')) [.ref (ad (14, a1, 0)), .ref (ad (14, a2, 0)), .ref (ad (14, a3, 0)), .ref (ad (14, a4, 0)), .int x5, .int x6].toArray s 0 0 (adA ad)) 12 (Cc, Bb, q.1) 231 [(0, .ref (ad (14, a1, 0))), (1, .ref (ad (14, a2, 0))), (2, .ref (ad (14, a3, 0))), (3, .ref (ad (14, a4, 0))), (4, .int y4), (5, .int y5), (6, .int q.2), (8, .int y8)] [] → J D ca ad p l e ({ frames := 4, cells := 0, slots := 0, locals := 96 }) s m [.ref (ad (14, a1, 0)), .ref (ad (14, a2, 0)), .ref (ad (14, a3, 0)), .ref (ad (14, a4, 0)), .int x5, .int x6].toArray below meth c 0 0 (MQ below (post D ca ad (some (.int r0)) (Cc, Bb, M')) [.ref (ad (14, a1, 0)), .ref (ad (14, a2, 0)), .ref (ad (14, a3, 0)), .ref (ad (14, a4, 0)), .int x5, .int x6].toArray s 0 0 (adA ad)) 12 (Cc, Bb, M) 24 [(0, .ref (ad (14, a1, 0))), (1, .ref (ad (14, a2, 0))), (2, .ref (ad (14, a3, 0))), (3, .ref (ad (14, a4, 0))), (4, .int y4), (5, .int y5), (6, .int y6), (8, .int y8), (9, .int y9)] [] := by
    intro n
    induction n with
    | zero =>
      intro M y4 y5 y6 y8 y9 q hf kE
      exact (none_ne hf).elim
    | succ n ih =>
      intro M y4 y5 y6 y8 y9 q hf kE
      rw [fL_ticks_L24] at hf
      refine j_iload C0 dL_ticks_24 8 rfl ?_
      refine j_aload_n C0 dL_ticks_26 rfl 0 rfl ?_
      refine j_bipush (v := 18) C0 dL_ticks_27 rfl ?_
      refine j_iald (x := (M a1 18)) C0 al1 rfl hid1 (by decide) (by rw [Nat.zero_add]; rfl) dL_ticks_29 ?_
      refine j_icmp_ge (tgt := 231) C0 dL_ticks_30 (by decide) (fun c7 => ?_) (fun c7 => ?_)
      · have hf := if_t c7 hf
        obtain rfl := so hf
        exact j_sub [0, 1, 2, 3, 4, 5, 6, 7] rfl kE
      have hf := if_f c7 hf
      refine j_aload_n C0 dL_ticks_33 rfl 1 rfl ?_
      refine j_iload C0 dL_ticks_34 8 rfl ?_
      obtain ⟨q8, hcq8, hf⟩ := bd_some hf
      refine j_callS (As := [.ref (ad (14, a2, 0)), .int y9]) (rest := []) (stk := [.int q8]) (G2 := (Cc, Bb, M)) C0 (c_L_drip hi (Cc := Cc) (Bb := Bb) al2 hid2 hcq8) kw_L_23 bi_L_drip rfl ⟨by decide, by decide⟩ ⟨Nat.zero_le _, Nat.zero_le _⟩ rfl rfl (Nat.le_of_ble_eq_true rfl) rfl rfl dL_ticks_36 ?_
      refine j_istore (lv' := [(10, .int q8), (0, .ref (ad (14, a1, 0))), (1, .ref (ad (14, a2, 0))), (2, .ref (ad (14, a3, 0))), (3, .ref (ad (14, a4, 0))), (4, .int y4), (5, .int y5), (6, .int y6), (8, .int y8), (9, .int y9)]) C0 dL_ticks_39 (by decide) rfl ?_
      refine j_iload C0 dL_ticks_41 7 rfl ?_
      refine j_iload C0 dL_ticks_43 0 rfl ?_
      refine j_iadd C0 dL_ticks_45 ?_
      refine j_istore (lv' := [(6, .int (y6 + q8)), (10, .int q8), (0, .ref (ad (14, a1, 0))), (1, .ref (ad (14, a2, 0))), (2, .ref (ad (14, a3, 0))), (3, .ref (ad (14, a4, 0))), (4, .int y4), (5, .int y5), (8, .int y8), (9, .int y9)]) C0 dL_ticks_46 (by decide) rfl ?_
      refine j_aload_n C0 dL_ticks_48 rfl 3 rfl ?_
      refine j_iload C0 dL_ticks_49 9 rfl ?_
      refine j_dup2 C0 dL_ticks_51 rfl rfl ?_
      obtain ⟨h9, hf⟩ := gd_some hf
      refine j_iald (x := (M a2 (y9.toNatClampNeg))) C0 al2 rfl hid2 h9 (by rw [Nat.zero_add]; rfl) dL_ticks_52 ?_
      refine j_iload C0 dL_ticks_53 1 rfl ?_
      refine j_isub C0 dL_ticks_55 ?_
      obtain ⟨h10, hf⟩ := gd_some hf
      obtain ⟨M11, e12, hf⟩ := lt_some hf
      refine j_iast (G' := (Cc, Bb, M11)) C0 al2 rfl hid2 h10 (by rw [Nat.zero_add]; exact (eM_set e12)) dL_ticks_56 ?_
      refine j_aload_n C0 dL_ticks_57 rfl 3 rfl ?_
      refine j_bipush (v := 30) C0 dL_ticks_58 rfl ?_
      refine j_iload C0 dL_ticks_60 9 rfl ?_
      refine j_iadd C0 dL_ticks_62 ?_
      refine j_dup2 C0 dL_ticks_63 rfl rfl ?_
      obtain ⟨h13, hf⟩ := gd_some hf
      refine j_iald (x := (M11 a2 (((30 : Int32) + y9).toNatClampNeg))) C0 al2 rfl hid2 h13 (by rw [Nat.zero_add]; rfl) dL_ticks_64 ?_
      refine j_iload C0 dL_ticks_65 1 rfl ?_
      refine j_iadd C0 dL_ticks_67 ?_
      obtain ⟨h14, hf⟩ := gd_some hf
      obtain ⟨M15, e16, hf⟩ := lt_some hf
      refine j_iast (G' := (Cc, Bb, M15)) C0 al2 rfl hid2 h14 (by rw [Nat.zero_add]; exact (eM_set e16)) dL_ticks_68 ?_
      refine j_aload_n C0 dL_ticks_69 rfl 4 rfl ?_
      refine j_iload C0 dL_ticks_70 9 rfl ?_
      refine j_dup2 C0 dL_ticks_72 rfl rfl ?_
      obtain ⟨h17, hf⟩ := gd_some hf
      refine j_iald (x := (M15 a3 (y9.toNatClampNeg))) C0 al3 rfl hid3 h17 (by rw [Nat.zero_add]; rfl) dL_ticks_73 ?_
      refine j_iload C0 dL_ticks_74 1 rfl ?_
      refine j_iadd C0 dL_ticks_76 ?_
      obtain ⟨h18, hf⟩ := gd_some hf
      obtain ⟨M19, e20, hf⟩ := lt_some hf
      refine j_iast (G' := (Cc, Bb, M19)) C0 al3 rfl hid3 h18 (by rw [Nat.zero_add]; exact (eM_set e20)) dL_ticks_77 ?_
      refine j_aload_n C0 dL_ticks_78 rfl 3 rfl ?_
      refine j_bipush (v := 20) C0 dL_ticks_79 rfl ?_
      refine j_iload C0 dL_ticks_81 9 rfl ?_
      refine j_iadd C0 dL_ticks_83 ?_
      obtain ⟨h21, hf⟩ := gd_some hf
      refine j_iald (x := (M19 a2 (((20 : Int32) + y9).toNatClampNeg))) C0 al2 rfl hid2 h21 (by rw [Nat.zero_add]; rfl) dL_ticks_84 ?_
      obtain ⟨q22, hsq22, hf⟩ := bd_some hf
      have Jq22 : J D ca ad p l e ({ frames := 4, cells := 0, slots := 0, locals := 96 }) s m [.ref (ad (14, a1, 0)), .ref (ad (14, a2, 0)), .ref (ad (14, a3, 0)), .ref (ad (14, a4, 0)), .int x5, .int x6].toArray below meth c 0 0 (MQ below (post D ca ad (some (.int r0)) (Cc, Bb, M')) [.ref (ad (14, a1, 0)), .ref (ad (14, a2, 0)), .ref (ad (14, a3, 0)), .ref (ad (14, a4, 0)), .int x5, .int x6].toArray s 0 0 (adA ad)) 12 (Cc, Bb, q22) 138 [(0, .ref (ad (14, a1, 0))), (1, .ref (ad (14, a2, 0))), (2, .ref (ad (14, a3, 0))), (3, .ref (ad (14, a4, 0))), (4, .int y4), (5, .int y5), (6, .int (y6 + q8)), (8, .int y8), (9, .int y9)] [] := by
        refine j_aload_n C0 dL_ticks_138 rfl 1 rfl ?_
        refine j_bipush (v := 20) C0 dL_ticks_139 rfl ?_
        refine j_iload C0 dL_ticks_141 8 rfl ?_
        refine j_iadd C0 dL_ticks_143 ?_
        obtain ⟨h23, hf⟩ := gd_some hf
        refine j_iald (x := (q22 a2 (((20 : Int32) + y9).toNatClampNeg))) C0 al2 rfl hid2 h23 (by rw [Nat.zero_add]; rfl) dL_ticks_144 ?_
        refine j_iconst (v := 2) C0 dL_ticks_145 rfl ?_
        refine j_icmp_ne (tgt := 225) C0 dL_ticks_146 (by decide) (fun c24 => ?_) (fun c24 => ?_)
        · have hf := if_f c24 hf
          refine j_iinc (v := (y9 + 1)) (lv' := [(9, .int (y9 + 1)), (0, .ref (ad (14, a1, 0))), (1, .ref (ad (14, a2, 0))), (2, .ref (ad (14, a3, 0))), (3, .ref (ad (14, a4, 0))), (4, .int y4), (5, .int y5), (6, .int (y6 + q8)), (8, .int y8)]) C0 dL_ticks_225 8 rfl rfl (by decide) rfl ?_
          refine j_goto (tgt := 24) C0 dL_ticks_228 (by decide) ?_
          exact j_sub [1, 2, 3, 4, 5, 6, 7, 8, 0] rfl (ih q22 y4 y5 (y6 + q8) y8 (y9 + 1) _ hf kE)
        have hf := if_t c24 hf
        refine j_aload_n C0 dL_ticks_149 rfl 1 rfl ?_
        refine j_iconst (v := 5) C0 dL_ticks_150 rfl ?_
        refine j_iload C0 dL_ticks_151 8 rfl ?_
        refine j_iadd C0 dL_ticks_153 ?_
        obtain ⟨h25, hf⟩ := gd_some hf
        refine j_iald (x := (q22 a2 (((5 : Int32) + y9).toNatClampNeg))) C0 al2 rfl hid2 h25 (by rw [Nat.zero_add]; rfl) dL_ticks_154 ?_
        refine j_aload_n C0 dL_ticks_155 rfl 0 rfl ?_
        refine j_iconst (v := 1) C0 dL_ticks_156 rfl ?_
        refine j_iald (x := (q22 a1 1)) C0 al1 rfl hid1 (by decide) (by rw [Nat.zero_add]; rfl) dL_ticks_157 ?_
        refine j_icmp_lt (tgt := 225) C0 dL_ticks_158 (by decide) (fun c26 => ?_) (fun c26 => ?_)
        · have hf := if_t c26 hf
          refine j_iinc (v := (y9 + 1)) (lv' := [(9, .int (y9 + 1)), (0, .ref (ad (14, a1, 0))), (1, .ref (ad (14, a2, 0))), (2, .ref (ad (14, a3, 0))), (3, .ref (ad (14, a4, 0))), (4, .int y4), (5, .int y5), (6, .int (y6 + q8)), (8, .int y8)]) C0 dL_ticks_225 8 rfl rfl (by decide) rfl ?_
          refine j_goto (tgt := 24) C0 dL_ticks_228 (by decide) ?_
          exact j_sub [1, 2, 3, 4, 5, 6, 7, 8, 0] rfl (ih q22 y4 y5 (y6 + q8) y8 (y9 + 1) _ hf kE)
        have hf := if_f c26 hf
        refine j_aload_n C0 dL_ticks_161 rfl 1 rfl ?_
        refine j_iconst (v := 5) C0 dL_ticks_162 rfl ?_
        refine j_iload C0 dL_ticks_163 8 rfl ?_
        refine j_iadd C0 dL_ticks_165 ?_
        obtain ⟨h27, hf⟩ := gd_some hf
        refine j_iald (x := (q22 a2 (((5 : Int32) + y9).toNatClampNeg))) C0 al2 rfl hid2 h27 (by rw [Nat.zero_add]; rfl) dL_ticks_166 ?_
        refine j_istore (lv' := [(11, .int (q22 a2 (((5 : Int32) + y9).toNatClampNeg))), (0, .ref (ad (14, a1, 0))), (1, .ref (ad (14, a2, 0))), (2, .ref (ad (14, a3, 0))), (3, .ref (ad (14, a4, 0))), (4, .int y4), (5, .int y5), (6, .int (y6 + q8)), (8, .int y8), (9, .int y9)]) C0 dL_ticks_167 (by decide) rfl ?_
        refine j_aload_n C0 dL_ticks_169 rfl 2 rfl ?_
        refine j_iconst (v := 5) C0 dL_ticks_170 rfl ?_
        refine j_iload C0 dL_ticks_171 9 rfl ?_
        refine j_iadd C0 dL_ticks_173 ?_
        refine j_iconst (v := 0) C0 dL_ticks_174 rfl ?_
        obtain ⟨h28, hf⟩ := gd_some hf
        obtain ⟨M29, e30, hf⟩ := lt_some hf
        refine j_iast (G' := (Cc, Bb, M29)) C0 al2 rfl hid2 h28 (by rw [Nat.zero_add]; exact (eM_set e30)) dL_ticks_175 ?_
        refine j_aload_n C0 dL_ticks_176 rfl 3 rfl ?_
        refine j_iconst (v := 5) C0 dL_ticks_177 rfl ?_
        refine j_iload C0 dL_ticks_178 9 rfl ?_
        refine j_iadd C0 dL_ticks_180 ?_
        refine j_dup2 C0 dL_ticks_181 rfl rfl ?_
        obtain ⟨h31, hf⟩ := gd_some hf
        refine j_iald (x := (M29 a3 (((5 : Int32) + y9).toNatClampNeg))) C0 al3 rfl hid3 h31 (by rw [Nat.zero_add]; rfl) dL_ticks_182 ?_
        refine j_iconst (v := 1) C0 dL_ticks_183 rfl ?_
        refine j_iadd C0 dL_ticks_184 ?_
        obtain ⟨h32, hf⟩ := gd_some hf
        obtain ⟨M33, e34, hf⟩ := lt_some hf
        refine j_iast (G' := (Cc, Bb, M33)) C0 al3 rfl hid3 h32 (by rw [Nat.zero_add]; exact (eM_set e34)) dL_ticks_185 ?_
        refine j_aload_n C0 dL_ticks_186 rfl 3 rfl ?_
        refine j_bipush (v := 10) C0 dL_ticks_187 rfl ?_
        refine j_iload C0 dL_ticks_189 9 rfl ?_
        refine j_iadd C0 dL_ticks_191 ?_
        refine j_dup2 C0 dL_ticks_192 rfl rfl ?_
        obtain ⟨h35, hf⟩ := gd_some hf
        refine j_iald (x := (M33 a3 (((10 : Int32) + y9).toNatClampNeg))) C0 al3 rfl hid3 h35 (by rw [Nat.zero_add]; rfl) dL_ticks_193 ?_
        refine j_aload_n C0 dL_ticks_194 rfl 1 rfl ?_
        refine j_iconst (v := 1) C0 dL_ticks_195 rfl ?_
        refine j_iald (x := (M33 a1 1)) C0 al1 rfl hid1 (by decide) (by rw [Nat.zero_add]; rfl) dL_ticks_196 ?_
        refine j_iadd C0 dL_ticks_197 ?_
        obtain ⟨h36, hf⟩ := gd_some hf
        obtain ⟨M37, e38, hf⟩ := lt_some hf
        refine j_iast (G' := (Cc, Bb, M37)) C0 al3 rfl hid3 h36 (by rw [Nat.zero_add]; exact (eM_set e38)) dL_ticks_198 ?_
        refine j_aload_n C0 dL_ticks_199 rfl 1 rfl ?_
        refine j_bipush (v := 16) C0 dL_ticks_200 rfl ?_
        refine j_dup2 C0 dL_ticks_202 rfl rfl ?_
        refine j_iald (x := (M37 a1 16)) C0 al1 rfl hid1 (by decide) (by rw [Nat.zero_add]; rfl) dL_ticks_203 ?_
        refine j_iconst (v := 1) C0 dL_ticks_204 rfl ?_
        refine j_iadd C0 dL_ticks_205 ?_
        obtain ⟨M39, e40, hf⟩ := lt_some hf
        refine j_iast (G' := (Cc, Bb, M39)) C0 al1 rfl hid1 (by decide) (by rw [Nat.zero_add]; exact (eM_set e40)) dL_ticks_206 ?_
        refine j_aload_n C0 dL_ticks_207 rfl 1 rfl ?_
        refine j_bipush (v := 12) C0 dL_ticks_208 rfl ?_
        refine j_dup2 C0 dL_ticks_210 rfl rfl ?_
        refine j_iald (x := (M39 a1 12)) C0 al1 rfl hid1 (by decide) (by rw [Nat.zero_add]; rfl) dL_ticks_211 ?_
        refine j_iload C0 dL_ticks_212 0 rfl ?_
        refine j_iadd C0 dL_ticks_214 ?_
        obtain ⟨M41, e42, hf⟩ := lt_some hf
        refine j_iast (G' := (Cc, Bb, M41)) C0 al1 rfl hid1 (by decide) (by rw [Nat.zero_add]; exact (eM_set e42)) dL_ticks_215 ?_
        refine j_aload_n C0 dL_ticks_216 rfl 1 rfl ?_
        refine j_aload_n C0 dL_ticks_217 rfl 2 rfl ?_
        refine j_iload C0 dL_ticks_218 9 rfl ?_
        refine j_iload C0 dL_ticks_220 0 rfl ?_
        obtain ⟨q43, hcq43, hf⟩ := bd_some hf
        refine j_callS (As := [.ref (ad (14, a1, 0)), .ref (ad (14, a2, 0)), .int y9, .int (q22 a2 (((5 : Int32) + y9).toNatClampNeg))]) (rest := []) (stk := []) (G2 := (Cc, Bb, q43)) C0 (c_L_on hi (Cc := Cc) (Bb := Bb) al1 hid1 al2 hid2 hcq43) kw_L_27 bi_L_on rfl ⟨by decide, by decide⟩ ⟨Nat.zero_le _, Nat.zero_le _⟩ rfl rfl (Nat.le_of_ble_eq_true rfl) rfl rfl dL_ticks_222 ?_
        refine j_iinc (v := (y9 + 1)) (lv' := [(9, .int (y9 + 1)), (11, .int (q22 a2 (((5 : Int32) + y9).toNatClampNeg))), (0, .ref (ad (14, a1, 0))), (1, .ref (ad (14, a2, 0))), (2, .ref (ad (14, a3, 0))), (3, .ref (ad (14, a4, 0))), (4, .int y4), (5, .int y5), (6, .int (y6 + q8)), (8, .int y8)]) C0 dL_ticks_225 9 rfl rfl (by decide) rfl ?_
        refine j_goto (tgt := 24) C0 dL_ticks_228 (by decide) ?_
        exact j_sub [2, 3, 4, 5, 6, 7, 8, 9, 0] rfl (ih q43 y4 y5 (y6 + q8) y8 (y9 + 1) _ hf kE)
      refine j_if_ne (tgt := 100) C0 dL_ticks_85 (by decide) (fun c44 => ?_) (fun c44 => ?_)
      · have hsq22 := if_f c44 hsq22
        refine j_aload_n C0 dL_ticks_100 rfl 3 rfl ?_
        refine j_bipush (v := 20) C0 dL_ticks_101 rfl ?_
        refine j_iload C0 dL_ticks_103 9 rfl ?_
        refine j_iadd C0 dL_ticks_105 ?_
        obtain ⟨h45, hsq22⟩ := gd_some hsq22
        refine j_iald (x := (M19 a2 (((20 : Int32) + y9).toNatClampNeg))) C0 al2 rfl hid2 h45 (by rw [Nat.zero_add]; rfl) dL_ticks_106 ?_
        refine j_iconst (v := 1) C0 dL_ticks_107 rfl ?_
        refine j_icmp_ne (tgt := 127) C0 dL_ticks_108 (by decide) (fun c46 => ?_) (fun c46 => ?_)
        · have hsq22 := if_f c46 hsq22
          refine j_aload_n C0 dL_ticks_127 rfl 3 rfl ?_
          refine j_iconst (v := 5) C0 dL_ticks_128 rfl ?_
          refine j_iload C0 dL_ticks_129 9 rfl ?_
          refine j_iadd C0 dL_ticks_131 ?_
          refine j_dup2 C0 dL_ticks_132 rfl rfl ?_
          obtain ⟨h47, hsq22⟩ := gd_some hsq22
          refine j_iald (x := (M19 a2 (((5 : Int32) + y9).toNatClampNeg))) C0 al2 rfl hid2 h47 (by rw [Nat.zero_add]; rfl) dL_ticks_133 ?_
          refine j_iload C0 dL_ticks_134 1 rfl ?_
          refine j_iadd C0 dL_ticks_136 ?_
          obtain ⟨h48, hsq22⟩ := gd_some hsq22
          obtain ⟨M49, e50, hsq22⟩ := lt_some hsq22
          refine j_iast (G' := (Cc, Bb, M49)) C0 al2 rfl hid2 h48 (by rw [Nat.zero_add]; exact (eM_set e50)) dL_ticks_137 ?_
          obtain rfl := so hsq22
          exact j_sub [2, 3, 4, 5, 6, 7, 0, 8, 9] rfl Jq22
        have hsq22 := if_t c46 hsq22
        refine j_aload_n C0 dL_ticks_111 rfl 2 rfl ?_
        refine j_aload_n C0 dL_ticks_112 rfl 3 rfl ?_
        refine j_iconst (v := 5) C0 dL_ticks_113 rfl ?_
        refine j_iload C0 dL_ticks_114 9 rfl ?_
        refine j_iadd C0 dL_ticks_116 ?_
        refine j_iload C0 dL_ticks_117 1 rfl ?_
        obtain ⟨q51, hcq51, hsq22⟩ := bd_some hsq22
        refine j_callS (As := [.ref (ad (14, a1, 0)), .ref (ad (14, a2, 0)), .int ((5 : Int32) + y9), .int q8]) (rest := []) (stk := [.int q51.1]) (G2 := (Cc, Bb, q51.2)) C0 (c_L_comes hi (Cc := Cc) (Bb := Bb) al1 hid1 al2 hid2 hcq51) kw_L_19 bi_L_comes rfl ⟨by decide, by decide⟩ ⟨Nat.zero_le _, Nat.zero_le _⟩ rfl rfl (Nat.le_of_ble_eq_true rfl) rfl rfl dL_ticks_119 ?_
        refine j_istore (lv' := [(11, .int q51.1), (6, .int (y6 + q8)), (10, .int q8), (0, .ref (ad (14, a1, 0))), (1, .ref (ad (14, a2, 0))), (2, .ref (ad (14, a3, 0))), (3, .ref (ad (14, a4, 0))), (4, .int y4), (5, .int y5), (8, .int y8), (9, .int y9)]) C0 dL_ticks_122 (by decide) rfl ?_
        refine j_goto (tgt := 138) C0 dL_ticks_124 (by decide) ?_
        obtain rfl := so hsq22
        exact j_sub [3, 4, 5, 6, 7, 8, 1, 9, 10] rfl Jq22
      have hsq22 := if_t c44 hsq22
      refine j_aload_n C0 dL_ticks_88 rfl 2 rfl ?_
      refine j_aload_n C0 dL_ticks_89 rfl 3 rfl ?_
      refine j_iload C0 dL_ticks_90 9 rfl ?_
      refine j_iload C0 dL_ticks_92 1 rfl ?_
      obtain ⟨q52, hcq52, hsq22⟩ := bd_some hsq22
      refine j_callS (As := [.ref (ad (14, a1, 0)), .ref (ad (14, a2, 0)), .int y9, .int q8]) (rest := []) (stk := []) (G2 := (Cc, Bb, q52)) C0 (c_L_on hi (Cc := Cc) (Bb := Bb) al1 hid1 al2 hid2 hcq52) kw_L_27 bi_L_on rfl ⟨by decide, by decide⟩ ⟨Nat.zero_le _, Nat.zero_le _⟩ rfl rfl (Nat.le_of_ble_eq_true rfl) rfl rfl dL_ticks_94 ?_
      refine j_goto (tgt := 138) C0 dL_ticks_97 (by decide) ?_
      obtain rfl := so hsq22
      exact j_sub [2, 3, 4, 5, 6, 7, 0, 8, 9] rfl Jq22
  have L234 : ∀ (n : Nat) (M : Nat → Nat → Int32) (y4 : Int32) (y5 : Int32) (y6 : Int32) (y8 : Int32) (y9 : Int32) (q : (Nat → Nat → Int32)), fL_ticks_L234 a1 a2 a3 a4 n4 n M y4 y5 y6 y8 y9 = some q → J D ca ad p l e ({ frames := 4, cells := 0, slots := 0, locals := 96 }) s m [.ref (ad (14, a1, 0)), .ref (ad (14, a2, 0)), .ref (ad (14, a3, 0)), .ref (ad (14, a4, 0)), .int x5, .int x6].toArray below meth c 0 0 (MQ below (post D ca ad (some (.int r0)) (Cc, Bb, M')) [.ref (ad (14, a1, 0)), .ref (ad (14, a2, 0)), .ref (ad (14, a3, 0)), .ref (ad (14, a4, 0)), .int x5, .int x6].toArray s 0 0 (adA ad)) 12 (Cc, Bb, q) 328 [(0, .ref (ad (14, a1, 0))), (1, .ref (ad (14, a2, 0))), (2, .ref (ad (14, a3, 0))), (3, .ref (ad (14, a4, 0))), (4, .int y4), (5, .int y5), (6, .int y6), (8, .int y8)] [] → J D ca ad p l e ({ frames := 4, cells := 0, slots := 0, locals := 96 }) s m [.ref (ad (14, a1, 0)), .ref (ad (14, a2, 0)), .ref (ad (14, a3, 0)), .ref (ad (14, a4, 0)), .int x5, .int x6].toArray below meth c 0 0 (MQ below (post D ca ad (some (.int r0)) (Cc, Bb, M')) [.ref (ad (14, a1, 0)), .ref (ad (14, a2, 0)), .ref (ad (14, a3, 0)), .ref (ad (14, a4, 0)), .int x5, .int x6].toArray s 0 0 (adA ad)) 12 (Cc, Bb, M) 234 [(0, .ref (ad (14, a1, 0))), (1, .ref (ad (14, a2, 0))), (2, .ref (ad (14, a3, 0))), (3, .ref (ad (14, a4, 0))), (4, .int y4), (5, .int y5), (6, .int y6), (8, .int y8), (9, .int y9)] [] := by
    intro n
    induction n with
    | zero =>
      intro M y4 y5 y6 y8 y9 q hf kE
      exact (none_ne hf).elim
    | succ n ih =>
      intro M y4 y5 y6 y8 y9 q hf kE
      rw [fL_ticks_L234] at hf
      refine j_iload C0 dL_ticks_234 8 rfl ?_
      refine j_aload_n C0 dL_ticks_236 rfl 0 rfl ?_
      refine j_bipush (v := 18) C0 dL_ticks_237 rfl ?_
      refine j_iald (x := (M a1 18)) C0 al1 rfl hid1 (by decide) (by rw [Nat.zero_add]; rfl) dL_ticks_239 ?_
      refine j_icmp_ge (tgt := 328) C0 dL_ticks_240 (by decide) (fun c54 => ?_) (fun c54 => ?_)
      · have hf := if_t c54 hf
        obtain rfl := so hf
        exact j_sub [0, 1, 2, 3, 4, 5, 6, 7] rfl kE
      have hf := if_f c54 hf
      refine j_aload_n C0 dL_ticks_243 rfl 2 rfl ?_
      refine j_iload C0 dL_ticks_244 8 rfl ?_
      obtain ⟨h55, hf⟩ := gd_some hf
      refine j_iald (x := (M a3 (y9.toNatClampNeg))) C0 al3 rfl hid3 h55 (by rw [Nat.zero_add]; rfl) dL_ticks_246 ?_
      refine j_aload_n C0 dL_ticks_247 rfl 0 rfl ?_
      refine j_iconst (v := 2) C0 dL_ticks_248 rfl ?_
      refine j_iald (x := (M a1 2)) C0 al1 rfl hid1 (by decide) (by rw [Nat.zero_add]; rfl) dL_ticks_249 ?_
      obtain ⟨h56, hf⟩ := gd_some hf
      refine j_idiv C0 dL_ticks_250 h56 ?_
      refine j_istore (lv' := [(10, .int ((M a3 (y9.toNatClampNeg)) / (M a1 2))), (0, .ref (ad (14, a1, 0))), (1, .ref (ad (14, a2, 0))), (2, .ref (ad (14, a3, 0))), (3, .ref (ad (14, a4, 0))), (4, .int y4), (5, .int y5), (6, .int y6), (8, .int y8), (9, .int y9)]) C0 dL_ticks_251 (by decide) rfl ?_
      refine j_aload_n C0 dL_ticks_253 rfl 3 rfl ?_
      refine j_iload C0 dL_ticks_254 9 rfl ?_
      refine j_dup2 C0 dL_ticks_256 rfl rfl ?_
      obtain ⟨h57, hf⟩ := gd_some hf
      refine j_iald (x := (M a3 (y9.toNatClampNeg))) C0 al3 rfl hid3 h57 (by rw [Nat.zero_add]; rfl) dL_ticks_257 ?_
      refine j_iload C0 dL_ticks_258 0 rfl ?_
      refine j_aload_n C0 dL_ticks_260 rfl 1 rfl ?_
      refine j_iconst (v := 2) C0 dL_ticks_261 rfl ?_
      refine j_iald (x := (M a1 2)) C0 al1 rfl hid1 (by decide) (by rw [Nat.zero_add]; rfl) dL_ticks_262 ?_
      refine j_imul C0 dL_ticks_263 ?_
      refine j_isub C0 dL_ticks_264 ?_
      obtain ⟨h58, hf⟩ := gd_some hf
      obtain ⟨M59, e60, hf⟩ := lt_some hf
      refine j_iast (G' := (Cc, Bb, M59)) C0 al3 rfl hid3 h58 (by rw [Nat.zero_add]; exact (eM_set e60)) dL_ticks_265 ?_
      refine j_aload_n C0 dL_ticks_266 rfl 2 rfl ?_
      refine j_bipush (v := 10) C0 dL_ticks_267 rfl ?_
      refine j_iload C0 dL_ticks_269 9 rfl ?_
      refine j_iadd C0 dL_ticks_271 ?_
      obtain ⟨h61, hf⟩ := gd_some hf
      refine j_iald (x := (M59 a2 (((10 : Int32) + y9).toNatClampNeg))) C0 al2 rfl hid2 h61 (by rw [Nat.zero_add]; rfl) dL_ticks_272 ?_
      refine j_iload C0 dL_ticks_273 0 rfl ?_
      refine j_iadd C0 dL_ticks_275 ?_
      refine j_bipush (v := 60) C0 dL_ticks_276 rfl ?_
      obtain ⟨q62, hsq62, hf⟩ := bd_some hf
      have Jq62 : J D ca ad p l e ({ frames := 4, cells := 0, slots := 0, locals := 96 }) s m [.ref (ad (14, a1, 0)), .ref (ad (14, a2, 0)), .ref (ad (14, a3, 0)), .ref (ad (14, a4, 0)), .int x5, .int x6].toArray below meth c 0 0 (MQ below (post D ca ad (some (.int r0)) (Cc, Bb, M')) [.ref (ad (14, a1, 0)), .ref (ad (14, a2, 0)), .ref (ad (14, a3, 0)), .ref (ad (14, a4, 0)), .int x5, .int x6].toArray s 0 0 (adA ad)) 12 (Cc, Bb, M59) 296 [(0, .ref (ad (14, a1, 0))), (1, .ref (ad (14, a2, 0))), (2, .ref (ad (14, a3, 0))), (3, .ref (ad (14, a4, 0))), (4, .int y4), (5, .int y5), (6, .int y6), (8, .int y8), (9, .int y9)] [.int q62] := by
        refine j_istore (lv' := [(10, .int q62), (0, .ref (ad (14, a1, 0))), (1, .ref (ad (14, a2, 0))), (2, .ref (ad (14, a3, 0))), (3, .ref (ad (14, a4, 0))), (4, .int y4), (5, .int y5), (6, .int y6), (8, .int y8), (9, .int y9)]) C0 dL_ticks_296 (by decide) rfl ?_
        refine j_aload_n C0 dL_ticks_298 rfl 2 rfl ?_
        refine j_bipush (v := 10) C0 dL_ticks_299 rfl ?_
        refine j_iload C0 dL_ticks_301 9 rfl ?_
        refine j_iadd C0 dL_ticks_303 ?_
        refine j_dup2 C0 dL_ticks_304 rfl rfl ?_
        obtain ⟨h63, hf⟩ := gd_some hf
        refine j_iald (x := (M59 a2 (((10 : Int32) + y9).toNatClampNeg))) C0 al2 rfl hid2 h63 (by rw [Nat.zero_add]; rfl) dL_ticks_305 ?_
        refine j_iload C0 dL_ticks_306 0 rfl ?_
        refine j_iadd C0 dL_ticks_308 ?_
        obtain ⟨h64, hf⟩ := gd_some hf
        obtain ⟨M65, e66, hf⟩ := lt_some hf
        refine j_iast (G' := (Cc, Bb, M65)) C0 al2 rfl hid2 h64 (by rw [Nat.zero_add]; exact (eM_set e66)) dL_ticks_309 ?_
        refine j_aload_n C0 dL_ticks_310 rfl 3 rfl ?_
        refine j_bipush (v := 25) C0 dL_ticks_311 rfl ?_
        refine j_iload C0 dL_ticks_313 9 rfl ?_
        refine j_iadd C0 dL_ticks_315 ?_
        refine j_dup2 C0 dL_ticks_316 rfl rfl ?_
        obtain ⟨h67, hf⟩ := gd_some hf
        refine j_iald (x := (M65 a3 (((25 : Int32) + y9).toNatClampNeg))) C0 al3 rfl hid3 h67 (by rw [Nat.zero_add]; rfl) dL_ticks_317 ?_
        refine j_iload C0 dL_ticks_318 0 rfl ?_
        refine j_iadd C0 dL_ticks_320 ?_
        obtain ⟨h68, hf⟩ := gd_some hf
        obtain ⟨M69, e70, hf⟩ := lt_some hf
        refine j_iast (G' := (Cc, Bb, M69)) C0 al3 rfl hid3 h68 (by rw [Nat.zero_add]; exact (eM_set e70)) dL_ticks_321 ?_
        refine j_iinc (v := (y9 + 1)) (lv' := [(9, .int (y9 + 1)), (10, .int q62), (0, .ref (ad (14, a1, 0))), (1, .ref (ad (14, a2, 0))), (2, .ref (ad (14, a3, 0))), (3, .ref (ad (14, a4, 0))), (4, .int y4), (5, .int y5), (6, .int y6), (8, .int y8)]) C0 dL_ticks_322 9 rfl rfl (by decide) rfl ?_
        refine j_goto (tgt := 234) C0 dL_ticks_325 (by decide) ?_
        exact j_sub [2, 3, 4, 5, 6, 7, 8, 9, 0] rfl (ih M69 y4 y5 y6 y8 (y9 + 1) _ hf kE)
      refine j_icmp_le (tgt := 294) C0 dL_ticks_278 (by decide) (fun c71 => ?_) (fun c71 => ?_)
      · have hsq62 := if_t c71 hsq62
        refine j_iload C0 dL_ticks_294 0 rfl ?_
        obtain rfl := so hsq62
        exact j_sub [1, 2, 3, 4, 5, 6, 7, 8, 9] rfl Jq62
      have hsq62 := if_f c71 hsq62
      refine j_bipush (v := 60) C0 dL_ticks_281 rfl ?_
      refine j_aload_n C0 dL_ticks_283 rfl 2 rfl ?_
      refine j_bipush (v := 10) C0 dL_ticks_284 rfl ?_
      refine j_iload C0 dL_ticks_286 9 rfl ?_
      refine j_iadd C0 dL_ticks_288 ?_
      obtain ⟨h72, hsq62⟩ := gd_some hsq62
      refine j_iald (x := (M59 a2 (((10 : Int32) + y9).toNatClampNeg))) C0 al2 rfl hid2 h72 (by rw [Nat.zero_add]; rfl) dL_ticks_289 ?_
      refine j_isub C0 dL_ticks_290 ?_
      refine j_goto (tgt := 296) C0 dL_ticks_291 (by decide) ?_
      obtain rfl := so hsq62
      exact j_sub [1, 2, 3, 4, 5, 6, 7, 8, 9] rfl Jq62
  have L9 : ∀ (n : Nat) (M : Nat → Nat → Int32) (y4 : Int32) (y5 : Int32) (y6 : Int32) (y7 : Int32) (y8 : Int32), fL_ticks_L9 a1 a2 a3 a4 n4 n M y4 y5 y6 y7 y8 = some (r0, M') → J D ca ad p l e ({ frames := 4, cells := 0, slots := 0, locals := 96 }) s m [.ref (ad (14, a1, 0)), .ref (ad (14, a2, 0)), .ref (ad (14, a3, 0)), .ref (ad (14, a4, 0)), .int x5, .int x6].toArray below meth c 0 0 (MQ below (post D ca ad (some (.int r0)) (Cc, Bb, M')) [.ref (ad (14, a1, 0)), .ref (ad (14, a2, 0)), .ref (ad (14, a3, 0)), .ref (ad (14, a4, 0)), .int x5, .int x6].toArray s 0 0 (adA ad)) 12 (Cc, Bb, M) 9 [(0, .ref (ad (14, a1, 0))), (1, .ref (ad (14, a2, 0))), (2, .ref (ad (14, a3, 0))), (3, .ref (ad (14, a4, 0))), (4, .int y4), (5, .int y5), (6, .int y6), (7, .int y7), (8, .int y8)] [] := by
    intro n
    induction n with
    | zero =>
      intro M y4 y5 y6 y7 y8 hf
      exact (none_ne hf).elim
    | succ n ih =>
      intro M y4 y5 y6 y7 y8 hf
      rw [fL_ticks_L9] at hf
      refine j_iload C0 dL_ticks_9 8 rfl ?_
      refine j_iload C0 dL_ticks_11 4 rfl ?_
      refine j_icmp_ge (tgt := 394) C0 dL_ticks_13 (by decide) (fun c1 => ?_) (fun c1 => ?_)
      · have hf := if_t c1 hf
        refine j_aload_n C0 dL_ticks_394 rfl 0 rfl ?_
        refine j_bipush (v := 11) C0 dL_ticks_395 rfl ?_
        refine j_dup2 C0 dL_ticks_397 rfl rfl ?_
        refine j_iald (x := (M a1 11)) C0 al1 rfl hid1 (by decide) (by rw [Nat.zero_add]; rfl) dL_ticks_398 ?_
        refine j_iload C0 dL_ticks_399 6 rfl ?_
        refine j_iadd C0 dL_ticks_401 ?_
        obtain ⟨M2, e3, hf⟩ := lt_some hf
        refine j_iast (G' := (Cc, Bb, M2)) C0 al1 rfl hid1 (by decide) (by rw [Nat.zero_add]; exact (eM_set e3)) dL_ticks_402 ?_
        refine j_iload C0 dL_ticks_403 6 rfl ?_
        exact j_iret C0 hr dL_ticks_405 (pr1 hf) (congrArg (fun z => (Cc, Bb, z)) (pr2 hf))
      have hf := if_f c1 hf
      refine j_iload C0 dL_ticks_16 7 rfl ?_
      refine j_if_eq (tgt := 394) C0 dL_ticks_18 (by decide) (fun c4 => ?_) (fun c4 => ?_)
      · have hf := if_t c4 hf
        refine j_aload_n C0 dL_ticks_394 rfl 0 rfl ?_
        refine j_bipush (v := 11) C0 dL_ticks_395 rfl ?_
        refine j_dup2 C0 dL_ticks_397 rfl rfl ?_
        refine j_iald (x := (M a1 11)) C0 al1 rfl hid1 (by decide) (by rw [Nat.zero_add]; rfl) dL_ticks_398 ?_
        refine j_iload C0 dL_ticks_399 6 rfl ?_
        refine j_iadd C0 dL_ticks_401 ?_
        obtain ⟨M5, e6, hf⟩ := lt_some hf
        refine j_iast (G' := (Cc, Bb, M5)) C0 al1 rfl hid1 (by decide) (by rw [Nat.zero_add]; exact (eM_set e6)) dL_ticks_402 ?_
        refine j_iload C0 dL_ticks_403 6 rfl ?_
        exact j_iret C0 hr dL_ticks_405 (pr1 hf) (congrArg (fun z => (Cc, Bb, z)) (pr2 hf))
      have hf := if_f c4 hf
      refine j_iconst (v := 0) C0 dL_ticks_21 rfl ?_
      refine j_istore (lv' := [(9, .int (0 : Int32)), (0, .ref (ad (14, a1, 0))), (1, .ref (ad (14, a2, 0))), (2, .ref (ad (14, a3, 0))), (3, .ref (ad (14, a4, 0))), (4, .int y4), (5, .int y5), (6, .int y6), (7, .int y7), (8, .int y8)]) C0 dL_ticks_22 (by decide) rfl ?_
      obtain ⟨q53, hsq53, hf⟩ := bd_some hf
      have Jq53 : J D ca ad p l e ({ frames := 4, cells := 0, slots := 0, locals := 96 }) s m [.ref (ad (14, a1, 0)), .ref (ad (14, a2, 0)), .ref (ad (14, a3, 0)), .ref (ad (14, a4, 0)), .int x5, .int x6].toArray below meth c 0 0 (MQ below (post D ca ad (some (.int r0)) (Cc, Bb, M')) [.ref (ad (14, a1, 0)), .ref (ad (14, a2, 0)), .ref (ad (14, a3, 0)), .ref (ad (14, a4, 0)), .int x5, .int x6].toArray s 0 0 (adA ad)) 12 (Cc, Bb, q53.1) 231 [(0, .ref (ad (14, a1, 0))), (1, .ref (ad (14, a2, 0))), (2, .ref (ad (14, a3, 0))), (3, .ref (ad (14, a4, 0))), (4, .int y4), (5, .int y5), (6, .int q53.2), (8, .int y8)] [] := by
        refine j_iconst (v := 0) C0 dL_ticks_231 rfl ?_
        refine j_istore (lv' := [(9, .int (0 : Int32)), (0, .ref (ad (14, a1, 0))), (1, .ref (ad (14, a2, 0))), (2, .ref (ad (14, a3, 0))), (3, .ref (ad (14, a4, 0))), (4, .int y4), (5, .int y5), (6, .int q53.2), (8, .int y8)]) C0 dL_ticks_232 (by decide) rfl ?_
        obtain ⟨q73, hsq73, hf⟩ := bd_some hf
        have Jq73 : J D ca ad p l e ({ frames := 4, cells := 0, slots := 0, locals := 96 }) s m [.ref (ad (14, a1, 0)), .ref (ad (14, a2, 0)), .ref (ad (14, a3, 0)), .ref (ad (14, a4, 0)), .int x5, .int x6].toArray below meth c 0 0 (MQ below (post D ca ad (some (.int r0)) (Cc, Bb, M')) [.ref (ad (14, a1, 0)), .ref (ad (14, a2, 0)), .ref (ad (14, a3, 0)), .ref (ad (14, a4, 0)), .int x5, .int x6].toArray s 0 0 (adA ad)) 12 (Cc, Bb, q73) 328 [(0, .ref (ad (14, a1, 0))), (1, .ref (ad (14, a2, 0))), (2, .ref (ad (14, a3, 0))), (3, .ref (ad (14, a4, 0))), (4, .int y4), (5, .int y5), (6, .int q53.2), (8, .int y8)] [] := by
          refine j_aload_n C0 dL_ticks_328 rfl 0 rfl ?_
          refine j_bipush (v := 6) C0 dL_ticks_329 rfl ?_
          refine j_dup2 C0 dL_ticks_331 rfl rfl ?_
          refine j_iald (x := (q73 a1 6)) C0 al1 rfl hid1 (by decide) (by rw [Nat.zero_add]; rfl) dL_ticks_332 ?_
          refine j_iconst (v := 1) C0 dL_ticks_333 rfl ?_
          refine j_iadd C0 dL_ticks_334 ?_
          obtain ⟨M74, e75, hf⟩ := lt_some hf
          refine j_iast (G' := (Cc, Bb, M74)) C0 al1 rfl hid1 (by decide) (by rw [Nat.zero_add]; exact (eM_set e75)) dL_ticks_335 ?_
          refine j_aload_n C0 dL_ticks_336 rfl 0 rfl ?_
          refine j_bipush (v := 6) C0 dL_ticks_337 rfl ?_
          refine j_iald (x := (M74 a1 6)) C0 al1 rfl hid1 (by decide) (by rw [Nat.zero_add]; rfl) dL_ticks_339 ?_
          refine j_bipush (v := 12) C0 dL_ticks_340 rfl ?_
          refine j_aload_n C0 dL_ticks_342 rfl 0 rfl ?_
          refine j_iconst (v := 3) C0 dL_ticks_343 rfl ?_
          refine j_iald (x := (M74 a1 3)) C0 al1 rfl hid1 (by decide) (by rw [Nat.zero_add]; rfl) dL_ticks_344 ?_
          refine j_imul C0 dL_ticks_345 ?_
          obtain ⟨h76, hf⟩ := gd_some hf
          refine j_irem C0 dL_ticks_346 h76 ?_
          obtain ⟨q77, hsq77, hf⟩ := bd_some hf
          have Jq77 : J D ca ad p l e ({ frames := 4, cells := 0, slots := 0, locals := 96 }) s m [.ref (ad (14, a1, 0)), .ref (ad (14, a2, 0)), .ref (ad (14, a3, 0)), .ref (ad (14, a4, 0)), .int x5, .int x6].toArray below meth c 0 0 (MQ below (post D ca ad (some (.int r0)) (Cc, Bb, M')) [.ref (ad (14, a1, 0)), .ref (ad (14, a2, 0)), .ref (ad (14, a3, 0)), .ref (ad (14, a4, 0)), .int x5, .int x6].toArray s 0 0 (adA ad)) 12 (Cc, Bb, M74) 360 [(0, .ref (ad (14, a1, 0))), (1, .ref (ad (14, a2, 0))), (2, .ref (ad (14, a3, 0))), (3, .ref (ad (14, a4, 0))), (4, .int y4), (5, .int y5), (6, .int q53.2), (8, .int y8)] [.int q77] := by
            refine j_istore (lv' := [(7, .int q77), (0, .ref (ad (14, a1, 0))), (1, .ref (ad (14, a2, 0))), (2, .ref (ad (14, a3, 0))), (3, .ref (ad (14, a4, 0))), (4, .int y4), (5, .int y5), (6, .int q53.2), (8, .int y8)]) C0 dL_ticks_360 (by decide) rfl ?_
            refine j_aload_n C0 dL_ticks_362 rfl 1 rfl ?_
            refine j_bipush (v := 6) C0 dL_ticks_363 rfl ?_
            refine j_iald (x := (M74 a1 6)) C0 al1 rfl hid1 (by decide) (by rw [Nat.zero_add]; rfl) dL_ticks_365 ?_
            refine j_bipush (v := 12) C0 dL_ticks_366 rfl ?_
            refine j_aload_n C0 dL_ticks_368 rfl 1 rfl ?_
            refine j_iconst (v := 3) C0 dL_ticks_369 rfl ?_
            refine j_iald (x := (M74 a1 3)) C0 al1 rfl hid1 (by decide) (by rw [Nat.zero_add]; rfl) dL_ticks_370 ?_
            refine j_imul C0 dL_ticks_371 ?_
            obtain ⟨h78, hf⟩ := gd_some hf
            refine j_irem C0 dL_ticks_372 h78 ?_
            refine j_if_ne (tgt := 388) C0 dL_ticks_373 (by decide) (fun c79 => ?_) (fun c79 => ?_)
            · have hf := if_f c79 hf
              refine j_iinc (v := (y8 + 1)) (lv' := [(8, .int (y8 + 1)), (7, .int q77), (0, .ref (ad (14, a1, 0))), (1, .ref (ad (14, a2, 0))), (2, .ref (ad (14, a3, 0))), (3, .ref (ad (14, a4, 0))), (4, .int y4), (5, .int y5), (6, .int q53.2)]) C0 dL_ticks_388 8 rfl rfl (by decide) rfl ?_
              refine j_goto (tgt := 9) C0 dL_ticks_391 (by decide) ?_
              exact j_sub [2, 3, 4, 5, 6, 7, 8, 1, 0] rfl (ih M74 y4 y5 q53.2 q77 (y8 + 1) hf)
            have hf := if_t c79 hf
            refine j_iload C0 dL_ticks_376 6 rfl ?_
            refine j_if_eq (tgt := 388) C0 dL_ticks_378 (by decide) (fun c80 => ?_) (fun c80 => ?_)
            · have hf := if_t c80 hf
              refine j_iinc (v := (y8 + 1)) (lv' := [(8, .int (y8 + 1)), (7, .int q77), (0, .ref (ad (14, a1, 0))), (1, .ref (ad (14, a2, 0))), (2, .ref (ad (14, a3, 0))), (3, .ref (ad (14, a4, 0))), (4, .int y4), (5, .int y5), (6, .int q53.2)]) C0 dL_ticks_388 8 rfl rfl (by decide) rfl ?_
              refine j_goto (tgt := 9) C0 dL_ticks_391 (by decide) ?_
              exact j_sub [2, 3, 4, 5, 6, 7, 8, 1, 0] rfl (ih M74 y4 y5 q53.2 q77 (y8 + 1) hf)
            have hf := if_f c80 hf
            refine j_aload_n C0 dL_ticks_381 rfl 1 rfl ?_
            refine j_aload_n C0 dL_ticks_382 rfl 2 rfl ?_
            refine j_aload_n C0 dL_ticks_383 rfl 3 rfl ?_
            refine j_aload_n C0 dL_ticks_384 rfl 4 rfl ?_
            obtain ⟨q81, hcq81, hf⟩ := bd_some hf
            refine j_callS (As := [.ref (ad (14, a1, 0)), .ref (ad (14, a2, 0)), .ref (ad (14, a3, 0)), .ref (ad (14, a4, 0))]) (rest := []) (stk := []) (G2 := (Cc, Bb, q81)) C0 (c_L_noon hi (Cc := Cc) (Bb := Bb) al1 hid1 al2 hid2 al3 hid3 al4 hid4 hcq81) kw_L_31 bi_L_noon rfl ⟨by decide, by decide⟩ ⟨Nat.zero_le _, Nat.zero_le _⟩ rfl rfl (Nat.le_of_ble_eq_true rfl) rfl rfl dL_ticks_385 ?_
            refine j_iinc (v := (y8 + 1)) (lv' := [(8, .int (y8 + 1)), (7, .int q77), (0, .ref (ad (14, a1, 0))), (1, .ref (ad (14, a2, 0))), (2, .ref (ad (14, a3, 0))), (3, .ref (ad (14, a4, 0))), (4, .int y4), (5, .int y5), (6, .int q53.2)]) C0 dL_ticks_388 8 rfl rfl (by decide) rfl ?_
            refine j_goto (tgt := 9) C0 dL_ticks_391 (by decide) ?_
            exact j_sub [2, 3, 4, 5, 6, 7, 8, 1, 0] rfl (ih q81 y4 y5 q53.2 q77 (y8 + 1) hf)
          refine j_if_gt (tgt := 355) C0 dL_ticks_347 (by decide) (fun c82 => ?_) (fun c82 => ?_)
          · have hsq77 := if_t c82 hsq77
            refine j_iconst (v := 1) C0 dL_ticks_355 rfl ?_
            refine j_goto (tgt := 360) C0 dL_ticks_356 (by decide) ?_
            obtain rfl := so hsq77
            exact j_sub [0, 1, 2, 3, 4, 5, 6, 7] rfl Jq77
          have hsq77 := if_f c82 hsq77
          refine j_iload C0 dL_ticks_350 5 rfl ?_
          refine j_if_eq (tgt := 359) C0 dL_ticks_352 (by decide) (fun c83 => ?_) (fun c83 => ?_)
          · have hsq77 := if_t c83 hsq77
            refine j_iconst (v := 0) C0 dL_ticks_359 rfl ?_
            obtain rfl := so hsq77
            exact j_sub [0, 1, 2, 3, 4, 5, 6, 7] rfl Jq77
          have hsq77 := if_f c83 hsq77
          refine j_iconst (v := 1) C0 dL_ticks_355 rfl ?_
          refine j_goto (tgt := 360) C0 dL_ticks_356 (by decide) ?_
          obtain rfl := so hsq77
          exact j_sub [0, 1, 2, 3, 4, 5, 6, 7] rfl Jq77
        exact j_sub [1, 2, 3, 4, 5, 6, 7, 8, 0] rfl (L234 fuel q53.1 y4 y5 q53.2 y8 (0 : Int32) q73 hsq73 Jq73)
      exact j_sub [1, 2, 3, 4, 5, 6, 7, 9, 0] rfl (L24 fuel M y4 y5 y6 y8 (0 : Int32) q53 hsq53 Jq53)
  unfold fL_ticks at hf
  refine j_iconst (v := 0) C0 dL_ticks_0 rfl ?_
  refine j_istore (lv' := [(6, .int (0 : Int32)), (0, .ref (ad (14, a1, 0))), (1, .ref (ad (14, a2, 0))), (2, .ref (ad (14, a3, 0))), (3, .ref (ad (14, a4, 0))), (4, .int x5), (5, .int x6)]) C0 dL_ticks_1 (by decide) rfl ?_
  refine j_iconst (v := 1) C0 dL_ticks_3 rfl ?_
  refine j_istore (lv' := [(7, .int (1 : Int32)), (6, .int (0 : Int32)), (0, .ref (ad (14, a1, 0))), (1, .ref (ad (14, a2, 0))), (2, .ref (ad (14, a3, 0))), (3, .ref (ad (14, a4, 0))), (4, .int x5), (5, .int x6)]) C0 dL_ticks_4 (by decide) rfl ?_
  refine j_iconst (v := 0) C0 dL_ticks_6 rfl ?_
  refine j_istore (lv' := [(8, .int (0 : Int32)), (7, .int (1 : Int32)), (6, .int (0 : Int32)), (0, .ref (ad (14, a1, 0))), (1, .ref (ad (14, a2, 0))), (2, .ref (ad (14, a3, 0))), (3, .ref (ad (14, a4, 0))), (4, .int x5), (5, .int x6)]) C0 dL_ticks_7 (by decide) rfl ?_
  exact j_sub [3, 4, 5, 6, 7, 8, 2, 1, 0] rfl (L9 fuel M x5 x6 (0 : Int32) (1 : Int32) (0 : Int32) hf)

