/-! the law from its first check on -/
set_option maxHeartbeats 8000000 in
set_option maxRecDepth 100000 in
theorem law_loop {l : Launch} {D : va_G} {ca : Nat → ClassId} {ad : I3 → Nat} (hi : adI ad) (hz : 0 < ad (16, 0, 0)) (hs : ad (16, 0, 0) ≤ ad (14, 0, 0)) (h4 : ad (14, 4, 0) = 0) (h5 : ad (14, 5, 0) = 0) (h6 : ad (14, 6, 0) = 0) {p : Program} {e : Env} {s : State} {m : MethodId} {below : List Frame} {meth : Method} {c : Code} {Q : State → Prop} (C0 : Cx D ca ad p s m #[.ref (ad (17, 3, 0))] meth c cL_law 11 RL) (hend : ∀ (G : GS) (lv : List (Nat × Value)) (pc kC nC : Nat), kC ≤ 600000 → nC ≤ 7302250 → decode cL_law pc = .ok (.ireturn, 1) → J D ca ad p l e room_1 s m #[.ref (ad (17, 3, 0))] below meth c kC nC Q 11 G pc lv [.int 1]) : ∀ (n : Nat) (X : XS) (M : Nat → Nat → Int32) (y6 : Int32) (y7 : Int32) (kk nn : Nat), kk + 6 * n ≤ 590000 → nn + 188 * n ≤ 7000000 → fL_law_L121 (ad (19, 0, 0)) (scX ad) n X M y6 y7 = some () → J D ca ad p l e room_1 s m #[.ref (ad (17, 3, 0))] below meth c kk nn Q 11 (X.1, X.2, M) 121 [(0, .ref (ad (17, 3, 0))), (1, .ref (ad (0, 0, 0))), (2, .ref (ad (14, 0, 0))), (3, .ref (ad (14, 1, 0))), (4, .ref (ad (14, 2, 0))), (5, .ref (ad (14, 3, 0))), (6, .int y6), (7, .int y7)] [] := by
  intro n
  induction n with
  | zero =>
    intro X M y6 y7 kk nn hk hn hf
    exact (none_ne hf).elim
  | succ n ih =>
    intro X M y6 y7 kk nn hk hn hf
    rw [fL_law_L121] at hf
    refine j_iload C0 dL_law_121 7 rfl ?_
    refine j_bipush (v := 34) C0 dL_law_123 rfl ?_
    refine j_icmp_ge (tgt := 308) C0 dL_law_125 (by decide) (fun c21 => ?_) (fun c21 => ?_)
    · have hf := if_t c21 hf
      refine j_iload C0 dL_law_308 6 rfl ?_
      obtain ⟨h22, hf⟩ := gd_some hf
      rw [of_decide_eq_true h22]
      exact hend _ _ _ kk nn (by omega) (by omega) dL_law_310
    have hf := if_f c21 hf
    refine j_iload C0 dL_law_128 6 rfl ?_
    refine j_if_eq (tgt := 308) C0 dL_law_130 (by decide) (fun c23 => ?_) (fun c23 => ?_)
    · have hf := if_t c23 hf
      refine j_iload C0 dL_law_308 6 rfl ?_
      obtain ⟨h24, hf⟩ := gd_some hf
      rw [of_decide_eq_true h24]
      exact hend _ _ _ kk nn (by omega) (by omega) dL_law_310
    have hf := if_f c23 hf
    refine j_aload_n C0 dL_law_133 rfl 0 rfl ?_
    refine j_iconst (v := 2) C0 dL_law_134 rfl ?_
    refine j_iload C0 dL_law_135 7 rfl ?_
    refine j_imul C0 dL_law_137 ?_
    obtain ⟨q25, hcq25, hf⟩ := bd_some hf
    refine j_callS (As := [.ref (ad (17, 3, 0)), .int ((2 : Int32) * y7)]) (rest := []) (stk := [.int q25]) (G2 := (X.1, X.2, M)) C0 (c_L_cell hi (G0 := (X.1, X.2, M))  hcq25) kw_L_164 bi_L_cell rfl ⟨by decide, by decide⟩ ⟨(by show kk ≤ 600000; omega), (by show nn ≤ 7302250; omega)⟩ rfl rfl (Nat.le_of_ble_eq_true rfl) rfl rfl dL_law_138 ?_
    refine j_istore (lv' := [(8, .int q25), (0, .ref (ad (17, 3, 0))), (1, .ref (ad (0, 0, 0))), (2, .ref (ad (14, 0, 0))), (3, .ref (ad (14, 1, 0))), (4, .ref (ad (14, 2, 0))), (5, .ref (ad (14, 3, 0))), (6, .int y6), (7, .int y7)]) C0 dL_law_141 (by decide) rfl ?_
    refine j_aload_n C0 dL_law_143 rfl 1 rfl ?_
    refine j_iconst (v := 2) C0 dL_law_144 rfl ?_
    refine j_iload C0 dL_law_145 8 rfl ?_
    refine j_imul C0 dL_law_147 ?_
    refine j_iconst (v := 1) C0 dL_law_148 rfl ?_
    refine j_iadd C0 dL_law_149 ?_
    obtain ⟨q26, hcq26, hf⟩ := bd_some hf
    refine j_callS (As := [.ref (ad (17, 3, 0)), .int (((2 : Int32) * y7) + (1 : Int32))]) (rest := []) (stk := [.int q26]) (G2 := (X.1, X.2, M)) C0 (c_L_cell hi (G0 := (X.1, X.2, M))  hcq26) kw_L_164 bi_L_cell rfl ⟨by decide, by decide⟩ ⟨(by show kk ≤ 600000; omega), (by show nn ≤ 7302250; omega)⟩ rfl rfl (Nat.le_of_ble_eq_true rfl) rfl rfl dL_law_150 ?_
    refine j_istore (lv' := [(9, .int q26), (8, .int q25), (0, .ref (ad (17, 3, 0))), (1, .ref (ad (0, 0, 0))), (2, .ref (ad (14, 0, 0))), (3, .ref (ad (14, 1, 0))), (4, .ref (ad (14, 2, 0))), (5, .ref (ad (14, 3, 0))), (6, .int y6), (7, .int y7)]) C0 dL_law_153 (by decide) rfl ?_
    refine j_iload C0 dL_law_155 9 rfl ?_
    refine j_iconst (v := 3) C0 dL_law_157 rfl ?_
    obtain ⟨q27, hsq27, hf⟩ := bd_some hf
    have Jq27 : J D ca ad p l e room_1 s m #[.ref (ad (17, 3, 0))] below meth c kk nn Q 11 (X.1, X.2, M) 197 [(0, .ref (ad (17, 3, 0))), (1, .ref (ad (0, 0, 0))), (2, .ref (ad (14, 0, 0))), (3, .ref (ad (14, 1, 0))), (4, .ref (ad (14, 2, 0))), (5, .ref (ad (14, 3, 0))), (7, .int y7), (8, .int q25), (9, .int q26)] [.int q27] := by
      refine j_istore (lv' := [(10, .int q27), (0, .ref (ad (17, 3, 0))), (1, .ref (ad (0, 0, 0))), (2, .ref (ad (14, 0, 0))), (3, .ref (ad (14, 1, 0))), (4, .ref (ad (14, 2, 0))), (5, .ref (ad (14, 3, 0))), (7, .int y7), (8, .int q25), (9, .int q26)]) C0 dL_law_197 (by decide) rfl ?_
      refine j_aload_n C0 dL_law_199 rfl 2 rfl ?_
      refine j_aload_n C0 dL_law_200 rfl 3 rfl ?_
      refine j_aload_n C0 dL_law_201 rfl 4 rfl ?_
      refine j_aload C0 dL_law_202 5 rfl ?_
      refine j_aload C0 dL_law_204 6 rfl ?_
      refine j_iload C0 dL_law_206 0 rfl ?_
      refine j_iload C0 dL_law_208 8 rfl ?_
      refine j_iload C0 dL_law_210 9 rfl ?_
      obtain ⟨q28, hcq28, hf⟩ := bd_some hf
      refine j_callS (As := [.ref (ad (0, 0, 0)), .ref (ad (14, 0, 0)), .ref (ad (14, 1, 0)), .ref (ad (14, 2, 0)), .ref (ad (14, 3, 0)), .int q27, .int q25, .int q26]) (rest := []) (stk := [.int q28.1]) (G2 := (q28.2.1.1, q28.2.1.2, q28.2.2)) C0 (c_L_acts hi   hcq28) kw_L_167 bi_L_acts rfl ⟨by decide, by decide⟩ ⟨(by show kk ≤ 600000; omega), (by show nn ≤ 7302250; omega)⟩ rfl rfl (Nat.le_of_ble_eq_true rfl) rfl rfl dL_law_212 ?_
      refine j_if_eq (tgt := 299) C0 dL_law_215 (by decide) (fun c29 => ?_) (fun c29 => ?_)
      · have hf := if_t c29 hf
        exact (none_ne hf).elim
      have hf := if_f c29 hf
      refine j_aload_n C0 dL_law_218 rfl 2 rfl ?_
      refine j_aload_n C0 dL_law_219 rfl 3 rfl ?_
      refine j_aload_n C0 dL_law_220 rfl 4 rfl ?_
      refine j_aload C0 dL_law_221 5 rfl ?_
      obtain ⟨q30, hcq30, hf⟩ := bd_some hf
      refine j_callS (As := [.ref (ad (0, 0, 0)), .ref (ad (14, 0, 0)), .ref (ad (14, 1, 0)), .ref (ad (14, 2, 0))]) (rest := []) (stk := [.int q30]) (G2 := (q28.2.1.1, q28.2.1.2, q28.2.2)) C0 (c_L_areClocks hi   hcq30) kw_L_148 bi_L_areClocks rfl ⟨by decide, by decide⟩ ⟨(by show kk ≤ 600000; omega), (by show nn ≤ 7302250; omega)⟩ rfl rfl (Nat.le_of_ble_eq_true rfl) rfl rfl dL_law_223 ?_
      refine j_if_eq (tgt := 299) C0 dL_law_226 (by decide) (fun c31 => ?_) (fun c31 => ?_)
      · have hf := if_t c31 hf
        exact (none_ne hf).elim
      have hf := if_f c31 hf
      refine j_aload_n C0 dL_law_229 rfl 2 rfl ?_
      refine j_aload_n C0 dL_law_230 rfl 3 rfl ?_
      refine j_aload_n C0 dL_law_231 rfl 4 rfl ?_
      obtain ⟨q32, hcq32, hf⟩ := bd_some hf
      refine j_callS (As := [.ref (ad (0, 0, 0)), .ref (ad (14, 0, 0)), .ref (ad (14, 1, 0))]) (rest := []) (stk := [.int q32]) (G2 := (q28.2.1.1, q28.2.1.2, q28.2.2)) C0 (c_L_isWater hi   hcq32) kw_L_152 bi_L_isWater rfl ⟨by decide, by decide⟩ ⟨(by show kk ≤ 600000; omega), (by show nn ≤ 7302250; omega)⟩ rfl rfl (Nat.le_of_ble_eq_true rfl) rfl rfl dL_law_232 ?_
      refine j_if_eq (tgt := 299) C0 dL_law_235 (by decide) (fun c33 => ?_) (fun c33 => ?_)
      · have hf := if_t c33 hf
        exact (none_ne hf).elim
      have hf := if_f c33 hf
      refine j_aload_n C0 dL_law_238 rfl 2 rfl ?_
      refine j_aload_n C0 dL_law_239 rfl 3 rfl ?_
      refine j_aload_n C0 dL_law_240 rfl 4 rfl ?_
      refine j_aload C0 dL_law_241 5 rfl ?_
      refine j_aload C0 dL_law_243 6 rfl ?_
      obtain ⟨q34, hcq34, hf⟩ := bd_some hf
      refine j_callS (As := [.ref (ad (0, 0, 0)), .ref (ad (14, 0, 0)), .ref (ad (14, 1, 0)), .ref (ad (14, 2, 0)), .ref (ad (14, 3, 0))]) (rest := []) (stk := [.int q34]) (G2 := (q28.2.1.1, q28.2.1.2, q28.2.2)) C0 (c_L_areNumbers hi   hcq34) kw_L_156 bi_L_areNumbers rfl ⟨by decide, by decide⟩ ⟨(by show kk ≤ 600000; omega), (by show nn ≤ 7302250; omega)⟩ rfl rfl (Nat.le_of_ble_eq_true rfl) rfl rfl dL_law_245 ?_
      refine j_if_eq (tgt := 299) C0 dL_law_248 (by decide) (fun c35 => ?_) (fun c35 => ?_)
      · have hf := if_t c35 hf
        exact (none_ne hf).elim
      have hf := if_f c35 hf
      refine j_aload_n C0 dL_law_251 rfl 2 rfl ?_
      refine j_aload_n C0 dL_law_252 rfl 3 rfl ?_
      refine j_aload_n C0 dL_law_253 rfl 4 rfl ?_
      refine j_aload C0 dL_law_254 5 rfl ?_
      refine j_aload C0 dL_law_256 6 rfl ?_
      refine j_iload C0 dL_law_258 9 rfl ?_
      refine j_iconst (v := 4) C0 dL_law_260 rfl ?_
      refine j_ishr C0 dL_law_261 ?_
      obtain ⟨q36, hcq36, hf⟩ := bd_some hf
      refine j_callSa (As := [.ref (ad (0, 0, 0)), .ref (ad (14, 0, 0)), .ref (ad (14, 1, 0)), .ref (ad (14, 2, 0)), .ref (ad (14, 3, 0)), .int (q26 >>> ((4 : Int32) &&& 31))]) (rest := []) (stk := [.int q36.1]) (G2 := (q36.2.1.1, q36.2.1.2, q36.2.2)) C0 (c_L_would hi hz hs h4 h5 h6 hcq36) kw_L_160 bi_L_would rfl ⟨by decide, by decide⟩ ⟨(by show kk + 3 ≤ 600000; omega), (by show nn + 94 ≤ 7302250; omega)⟩ rfl rfl (Nat.le_of_ble_eq_true rfl) rfl rfl dL_law_262 ?_
      refine j_if_eq (tgt := 299) C0 dL_law_265 (by decide) (fun c37 => ?_) (fun c37 => ?_)
      · have hf := if_t c37 hf
        exact (none_ne hf).elim
      have hf := if_f c37 hf
      refine j_aload_n C0 dL_law_268 rfl 3 rfl ?_
      refine j_bipush (v := 18) C0 dL_law_269 rfl ?_
      refine j_iald (x := (q36.2.2 0 18)) C0 al_14_0 rfl (ia hi id_l0) (by decide) (by rw [Nat.zero_add]; rfl) dL_law_271 ?_
      refine j_if_eq (tgt := 295) C0 dL_law_272 (by decide) (fun c38 => ?_) (fun c38 => ?_)
      · have hf := if_t c38 hf
        refine j_iconst (v := 1) C0 dL_law_295 rfl ?_
        refine j_goto (tgt := 300) C0 dL_law_296 (by decide) ?_
        refine j_istore (lv' := [(6, .int (1 : Int32)), (10, .int q27), (0, .ref (ad (17, 3, 0))), (1, .ref (ad (0, 0, 0))), (2, .ref (ad (14, 0, 0))), (3, .ref (ad (14, 1, 0))), (4, .ref (ad (14, 2, 0))), (5, .ref (ad (14, 3, 0))), (7, .int y7), (8, .int q25), (9, .int q26)]) C0 dL_law_300 (by decide) rfl ?_
        refine j_iinc (v := (y7 + 1)) (lv' := [(7, .int (y7 + 1)), (6, .int (1 : Int32)), (10, .int q27), (0, .ref (ad (17, 3, 0))), (1, .ref (ad (0, 0, 0))), (2, .ref (ad (14, 0, 0))), (3, .ref (ad (14, 1, 0))), (4, .ref (ad (14, 2, 0))), (5, .ref (ad (14, 3, 0))), (8, .int q25), (9, .int q26)]) C0 dL_law_302 8 rfl rfl (by decide) rfl ?_
        refine j_goto (tgt := 121) C0 dL_law_305 (by decide) ?_
        exact j_sub [3, 4, 5, 6, 7, 8, 1, 0] rfl (ih q36.2.1 q36.2.2 (1 : Int32) (y7 + 1) (kk + 3) (nn + 94) (by omega) (by omega) hf)
      have hf := if_f c38 hf
      refine j_aload_n C0 dL_law_275 rfl 2 rfl ?_
      refine j_aload_n C0 dL_law_276 rfl 3 rfl ?_
      refine j_aload_n C0 dL_law_277 rfl 4 rfl ?_
      refine j_aload C0 dL_law_278 5 rfl ?_
      refine j_iload C0 dL_law_280 9 rfl ?_
      refine j_aload_n C0 dL_law_282 rfl 3 rfl ?_
      refine j_bipush (v := 18) C0 dL_law_283 rfl ?_
      refine j_iald (x := (q36.2.2 0 18)) C0 al_14_0 rfl (ia hi id_l0) (by decide) (by rw [Nat.zero_add]; rfl) dL_law_285 ?_
      obtain ⟨q39, hcq39, hf⟩ := bd_some hf
      refine j_callS (As := [.int q26, .int (q36.2.2 0 18)]) (rest := [.ref (ad (14, 2, 0)), .ref (ad (14, 1, 0)), .ref (ad (14, 0, 0)), .ref (ad (0, 0, 0))]) (stk := [.int q39, .ref (ad (14, 2, 0)), .ref (ad (14, 1, 0)), .ref (ad (14, 0, 0)), .ref (ad (0, 0, 0))]) (G2 := (q36.2.1.1, q36.2.1.2, q36.2.2)) C0 (c_L_low hi (G0 := (q36.2.1.1, q36.2.1.2, q36.2.2))  hcq39) kw_L_85 bi_L_low rfl ⟨by decide, by decide⟩ ⟨(by show (kk + 3) ≤ 600000; omega), (by show (nn + 94) ≤ 7302250; omega)⟩ rfl rfl (Nat.le_of_ble_eq_true rfl) rfl rfl dL_law_286 ?_
      obtain ⟨q40, hcq40, hf⟩ := bd_some hf
      refine j_callSa (As := [.ref (ad (0, 0, 0)), .ref (ad (14, 0, 0)), .ref (ad (14, 1, 0)), .ref (ad (14, 2, 0)), .int q39]) (rest := []) (stk := [.int q40.1]) (G2 := (q40.2.1.1, q40.2.1.2, q40.2.2)) C0 (c_L_isEmptyIn hi hz hs h4 h5 h6 hcq40) kw_L_171 bi_L_isEmptyIn rfl ⟨by decide, by decide⟩ ⟨(by show (kk + 3) + 3 ≤ 600000; omega), (by show (nn + 94) + 94 ≤ 7302250; omega)⟩ rfl rfl (Nat.le_of_ble_eq_true rfl) rfl rfl dL_law_289 ?_
      refine j_if_eq (tgt := 299) C0 dL_law_292 (by decide) (fun c41 => ?_) (fun c41 => ?_)
      · have hf := if_t c41 hf
        exact (none_ne hf).elim
      have hf := if_f c41 hf
      refine j_iconst (v := 1) C0 dL_law_295 rfl ?_
      refine j_goto (tgt := 300) C0 dL_law_296 (by decide) ?_
      refine j_istore (lv' := [(6, .int (1 : Int32)), (10, .int q27), (0, .ref (ad (17, 3, 0))), (1, .ref (ad (0, 0, 0))), (2, .ref (ad (14, 0, 0))), (3, .ref (ad (14, 1, 0))), (4, .ref (ad (14, 2, 0))), (5, .ref (ad (14, 3, 0))), (7, .int y7), (8, .int q25), (9, .int q26)]) C0 dL_law_300 (by decide) rfl ?_
      refine j_iinc (v := (y7 + 1)) (lv' := [(7, .int (y7 + 1)), (6, .int (1 : Int32)), (10, .int q27), (0, .ref (ad (17, 3, 0))), (1, .ref (ad (0, 0, 0))), (2, .ref (ad (14, 0, 0))), (3, .ref (ad (14, 1, 0))), (4, .ref (ad (14, 2, 0))), (5, .ref (ad (14, 3, 0))), (8, .int q25), (9, .int q26)]) C0 dL_law_302 8 rfl rfl (by decide) rfl ?_
      refine j_goto (tgt := 121) C0 dL_law_305 (by decide) ?_
      exact j_sub [3, 4, 5, 6, 7, 8, 1, 0] rfl (ih q40.2.1 q40.2.2 (1 : Int32) (y7 + 1) (kk + 6) (nn + 188) (by omega) (by omega) hf)
    refine j_icmp_ge (tgt := 165) C0 dL_law_158 (by decide) (fun c42 => ?_) (fun c42 => ?_)
    · have hsq27 := if_t c42 hsq27
      refine j_iload C0 dL_law_165 9 rfl ?_
      refine j_bipush (v := 6) C0 dL_law_167 rfl ?_
      refine j_icmp_ge (tgt := 176) C0 dL_law_169 (by decide) (fun c43 => ?_) (fun c43 => ?_)
      · have hsq27 := if_t c43 hsq27
        refine j_iload C0 dL_law_176 9 rfl ?_
        refine j_bipush (v := 6) C0 dL_law_178 rfl ?_
        refine j_icmp_ne (tgt := 187) C0 dL_law_180 (by decide) (fun c44 => ?_) (fun c44 => ?_)
        · have hsq27 := if_f c44 hsq27
          refine j_iload C0 dL_law_187 1 rfl ?_
          refine j_bipush (v := 17) C0 dL_law_189 rfl ?_
          refine j_ishr C0 dL_law_191 ?_
          refine j_bipush (v := 15) C0 dL_law_192 rfl ?_
          obtain ⟨q45, hcq45, hsq27⟩ := bd_some hsq27
          refine j_callS (As := [.int (q25 >>> ((17 : Int32) &&& 31)), .int (15 : Int32)]) (rest := []) (stk := [.int q45]) (G2 := (X.1, X.2, M)) C0 (c_L_low hi (G0 := (X.1, X.2, M))  hcq45) kw_L_85 bi_L_low rfl ⟨by decide, by decide⟩ ⟨(by show kk ≤ 600000; omega), (by show nn ≤ 7302250; omega)⟩ rfl rfl (Nat.le_of_ble_eq_true rfl) rfl rfl dL_law_194 ?_
          obtain rfl := so hsq27
          exact j_sub [2, 3, 4, 5, 6, 7, 9, 1, 0] rfl Jq27
        have hsq27 := if_t c44 hsq27
        refine j_iconst (v := 5) C0 dL_law_183 rfl ?_
        refine j_goto (tgt := 197) C0 dL_law_184 (by decide) ?_
        obtain rfl := so hsq27
        exact j_sub [2, 3, 4, 5, 6, 7, 9, 1, 0] rfl Jq27
      have hsq27 := if_f c43 hsq27
      refine j_iconst (v := 1) C0 dL_law_172 rfl ?_
      refine j_goto (tgt := 197) C0 dL_law_173 (by decide) ?_
      obtain rfl := so hsq27
      exact j_sub [2, 3, 4, 5, 6, 7, 9, 1, 0] rfl Jq27
    have hsq27 := if_f c42 hsq27
    refine j_iconst (v := 0) C0 dL_law_161 rfl ?_
    refine j_goto (tgt := 197) C0 dL_law_162 (by decide) ?_
    obtain rfl := so hsq27
    exact j_sub [2, 3, 4, 5, 6, 7, 9, 1, 0] rfl Jq27
set_option maxHeartbeats 8000000 in
set_option maxRecDepth 100000 in
theorem law_from {l : Launch} {D : va_G} {ca : Nat → ClassId} {ad : I3 → Nat} (hi : adI ad) (hz : 0 < ad (16, 0, 0)) (hs : ad (16, 0, 0) ≤ ad (14, 0, 0)) (h4 : ad (14, 4, 0) = 0) (h5 : ad (14, 5, 0) = 0) (h6 : ad (14, 6, 0) = 0) {p : Program} {e : Env} {s : State} {m : MethodId} {below : List Frame} {meth : Method} {c : Code} {Q : State → Prop} (C0 : Cx D ca ad p s m #[.ref (ad (17, 3, 0))] meth c cL_law 11 RL) (hend : ∀ (G : GS) (lv : List (Nat × Value)) (pc kC nC : Nat), kC ≤ 600000 → nC ≤ 7302250 → decode cL_law pc = .ok (.ireturn, 1) → J D ca ad p l e room_1 s m #[.ref (ad (17, 3, 0))] below meth c kC nC Q 11 G pc lv [.int 1]) {X : XS} {M : Nat → Nat → Int32} {kk nn : Nat} (hk : kk + 20000 ≤ 590000) (hn : nn + 400000 ≤ 7000000) (hf : fL_law (ad (19, 0, 0)) (scX ad) X M = some ()) : J D ca ad p l e room_1 s m #[.ref (ad (17, 3, 0))] below meth c kk nn Q 11 (X.1, X.2, M) 30 [(0, .ref (ad (17, 3, 0))), (1, .ref (ad (0, 0, 0))), (2, .ref (ad (14, 0, 0))), (3, .ref (ad (14, 1, 0))), (4, .ref (ad (14, 2, 0))), (5, .ref (ad (14, 3, 0)))] [] := by
  have hfu : fuel = 2000 := rfl
  unfold fL_law at hf
  refine j_aload_n C0 dL_law_30 rfl 2 rfl ?_
  refine j_iconst (v := 0) C0 dL_law_31 rfl ?_
  refine j_sipush (v := 2000) C0 dL_law_32 rfl ?_
  obtain ⟨M1, e2, hf⟩ := lt_some hf
  refine j_iast (G' := (X.1, X.2, M1)) C0 al_14_0 rfl (ia hi id_l0) (by decide) (by rw [Nat.zero_add]; exact (eM_set e2)) dL_law_35 ?_
  refine j_aload_n C0 dL_law_36 rfl 2 rfl ?_
  refine j_iconst (v := 1) C0 dL_law_37 rfl ?_
  refine j_sipush (v := 240) C0 dL_law_38 rfl ?_
  obtain ⟨M3, e4, hf⟩ := lt_some hf
  refine j_iast (G' := (X.1, X.2, M3)) C0 al_14_0 rfl (ia hi id_l0) (by decide) (by rw [Nat.zero_add]; exact (eM_set e4)) dL_law_41 ?_
  refine j_aload_n C0 dL_law_42 rfl 2 rfl ?_
  refine j_iconst (v := 2) C0 dL_law_43 rfl ?_
  refine j_sipush (v := 400) C0 dL_law_44 rfl ?_
  obtain ⟨M5, e6, hf⟩ := lt_some hf
  refine j_iast (G' := (X.1, X.2, M5)) C0 al_14_0 rfl (ia hi id_l0) (by decide) (by rw [Nat.zero_add]; exact (eM_set e6)) dL_law_47 ?_
  refine j_aload_n C0 dL_law_48 rfl 2 rfl ?_
  refine j_iconst (v := 3) C0 dL_law_49 rfl ?_
  refine j_bipush (v := 20) C0 dL_law_50 rfl ?_
  obtain ⟨M7, e8, hf⟩ := lt_some hf
  refine j_iast (G' := (X.1, X.2, M7)) C0 al_14_0 rfl (ia hi id_l0) (by decide) (by rw [Nat.zero_add]; exact (eM_set e8)) dL_law_52 ?_
  refine j_aload_n C0 dL_law_53 rfl 2 rfl ?_
  refine j_iconst (v := 4) C0 dL_law_54 rfl ?_
  refine j_iconst (v := 1) C0 dL_law_55 rfl ?_
  obtain ⟨M9, e10, hf⟩ := lt_some hf
  refine j_iast (G' := (X.1, X.2, M9)) C0 al_14_0 rfl (ia hi id_l0) (by decide) (by rw [Nat.zero_add]; exact (eM_set e10)) dL_law_56 ?_
  refine j_aload_n C0 dL_law_57 rfl 2 rfl ?_
  refine j_bipush (v := 7) C0 dL_law_58 rfl ?_
  refine j_sipush (v := 20000) C0 dL_law_60 rfl ?_
  obtain ⟨M11, e12, hf⟩ := lt_some hf
  refine j_iast (G' := (X.1, X.2, M11)) C0 al_14_0 rfl (ia hi id_l0) (by decide) (by rw [Nat.zero_add]; exact (eM_set e12)) dL_law_63 ?_
  refine j_aload_n C0 dL_law_64 rfl 1 rfl ?_
  refine j_aload_n C0 dL_law_65 rfl 2 rfl ?_
  refine j_aload_n C0 dL_law_66 rfl 3 rfl ?_
  refine j_aload C0 dL_law_67 4 rfl ?_
  obtain ⟨q13, hcq13, hf⟩ := bd_some hf
  refine j_callS (As := [.ref (ad (0, 0, 0)), .ref (ad (14, 0, 0)), .ref (ad (14, 1, 0)), .ref (ad (14, 2, 0))]) (rest := []) (stk := [.int q13]) (G2 := (X.1, X.2, M11)) C0 (c_L_areClocks hi   hcq13) kw_L_148 bi_L_areClocks rfl ⟨by decide, by decide⟩ ⟨(by show kk ≤ 600000; omega), (by show nn ≤ 7302250; omega)⟩ rfl rfl (Nat.le_of_ble_eq_true rfl) rfl rfl dL_law_69 ?_
  refine j_if_eq (tgt := 115) C0 dL_law_72 (by decide) (fun c14 => ?_) (fun c14 => ?_)
  · have hf := if_t c14 hf
    exact (none_ne hf).elim
  have hf := if_f c14 hf
  refine j_aload_n C0 dL_law_75 rfl 1 rfl ?_
  refine j_aload_n C0 dL_law_76 rfl 2 rfl ?_
  refine j_aload_n C0 dL_law_77 rfl 3 rfl ?_
  obtain ⟨q15, hcq15, hf⟩ := bd_some hf
  refine j_callS (As := [.ref (ad (0, 0, 0)), .ref (ad (14, 0, 0)), .ref (ad (14, 1, 0))]) (rest := []) (stk := [.int q15]) (G2 := (X.1, X.2, M11)) C0 (c_L_isWater hi   hcq15) kw_L_152 bi_L_isWater rfl ⟨by decide, by decide⟩ ⟨(by show kk ≤ 600000; omega), (by show nn ≤ 7302250; omega)⟩ rfl rfl (Nat.le_of_ble_eq_true rfl) rfl rfl dL_law_78 ?_
  refine j_if_eq (tgt := 115) C0 dL_law_81 (by decide) (fun c16 => ?_) (fun c16 => ?_)
  · have hf := if_t c16 hf
    exact (none_ne hf).elim
  have hf := if_f c16 hf
  refine j_aload_n C0 dL_law_84 rfl 1 rfl ?_
  refine j_aload_n C0 dL_law_85 rfl 2 rfl ?_
  refine j_aload_n C0 dL_law_86 rfl 3 rfl ?_
  refine j_aload C0 dL_law_87 4 rfl ?_
  refine j_aload C0 dL_law_89 5 rfl ?_
  obtain ⟨q17, hcq17, hf⟩ := bd_some hf
  refine j_callS (As := [.ref (ad (0, 0, 0)), .ref (ad (14, 0, 0)), .ref (ad (14, 1, 0)), .ref (ad (14, 2, 0)), .ref (ad (14, 3, 0))]) (rest := []) (stk := [.int q17]) (G2 := (X.1, X.2, M11)) C0 (c_L_areNumbers hi   hcq17) kw_L_156 bi_L_areNumbers rfl ⟨by decide, by decide⟩ ⟨(by show kk ≤ 600000; omega), (by show nn ≤ 7302250; omega)⟩ rfl rfl (Nat.le_of_ble_eq_true rfl) rfl rfl dL_law_91 ?_
  refine j_if_eq (tgt := 115) C0 dL_law_94 (by decide) (fun c18 => ?_) (fun c18 => ?_)
  · have hf := if_t c18 hf
    exact (none_ne hf).elim
  have hf := if_f c18 hf
  refine j_aload_n C0 dL_law_97 rfl 1 rfl ?_
  refine j_aload_n C0 dL_law_98 rfl 2 rfl ?_
  refine j_aload_n C0 dL_law_99 rfl 3 rfl ?_
  refine j_aload C0 dL_law_100 4 rfl ?_
  refine j_aload C0 dL_law_102 5 rfl ?_
  refine j_iconst (v := 0) C0 dL_law_104 rfl ?_
  obtain ⟨q19, hcq19, hf⟩ := bd_some hf
  refine j_callSa (As := [.ref (ad (0, 0, 0)), .ref (ad (14, 0, 0)), .ref (ad (14, 1, 0)), .ref (ad (14, 2, 0)), .ref (ad (14, 3, 0)), .int (0 : Int32)]) (rest := []) (stk := [.int q19.1]) (G2 := (q19.2.1.1, q19.2.1.2, q19.2.2)) C0 (c_L_would hi hz hs h4 h5 h6 hcq19) kw_L_160 bi_L_would rfl ⟨by decide, by decide⟩ ⟨(by show kk + 3 ≤ 600000; omega), (by show nn + 94 ≤ 7302250; omega)⟩ rfl rfl (Nat.le_of_ble_eq_true rfl) rfl rfl dL_law_105 ?_
  refine j_if_eq (tgt := 115) C0 dL_law_108 (by decide) (fun c20 => ?_) (fun c20 => ?_)
  · have hf := if_t c20 hf
    exact (none_ne hf).elim
  have hf := if_f c20 hf
  refine j_iconst (v := 1) C0 dL_law_111 rfl ?_
  refine j_goto (tgt := 116) C0 dL_law_112 (by decide) ?_
  refine j_istore (lv' := [(6, .int (1 : Int32)), (0, .ref (ad (17, 3, 0))), (1, .ref (ad (0, 0, 0))), (2, .ref (ad (14, 0, 0))), (3, .ref (ad (14, 1, 0))), (4, .ref (ad (14, 2, 0))), (5, .ref (ad (14, 3, 0)))]) C0 dL_law_116 (by decide) rfl ?_
  refine j_iconst (v := 0) C0 dL_law_118 rfl ?_
  refine j_istore (lv' := [(7, .int (0 : Int32)), (6, .int (1 : Int32)), (0, .ref (ad (17, 3, 0))), (1, .ref (ad (0, 0, 0))), (2, .ref (ad (14, 0, 0))), (3, .ref (ad (14, 1, 0))), (4, .ref (ad (14, 2, 0))), (5, .ref (ad (14, 3, 0)))]) C0 dL_law_119 (by decide) rfl ?_
  exact j_sub [2, 3, 4, 5, 6, 7, 1, 0] rfl (law_loop hi hz hs h4 h5 h6 C0 hend fuel q19.2.1 q19.2.2 (1 : Int32) (0 : Int32) (kk + 3) (nn + 94) (by omega) (by omega) hf)
