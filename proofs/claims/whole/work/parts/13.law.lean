/-! the law: its script's rows, its loop -/
section JL
variable {D : va_G} {ca : Nat → ClassId} {ad : I3 → Nat} {p : Program} {l : Launch} {e : Env} {R : Room} {s : State} {m : MethodId} {args : Array Value} {below : List Frame} {meth : Method} {c : Code} {cc : ByteArray} {nL : Nat} {ow : String} {k n : Nat} {Q : State → Prop} {G : GS} {pc : Nat} {lv : List (Nat × Value)} {st : List Value}
theorem j_sld (C0 : Cx D ca ad p s m args meth c cc nL ow) {b L : Nat} {xs : Nat → Int32} (hX : va_X b L xs s s.heap) (hbl : b < s.heap.size) (hbA : ¬ adA ad b) {i : Int32} (hin : inb i L = true) (hdg : decode cc pc = .ok (.iaload, 1)) (kk : J D ca ad p l e R s m args below meth c k n Q nL G (pc + 1) lv (.int (xs i.toNatClampNeg) :: st)) : J D ca ad p l e R s m args below meth c k n Q nL G pc lv (.int i :: .ref b :: st) := fun H locs ls hP hS hl => va_sld C0.1 C0.2.1 hX hbl hbA hS (inb_vp hin) hdg (kk H locs ls hP hS hl)
theorem j_slen (C0 : Cx D ca ad p s m args meth c cc nL ow) {b L : Nat} {v : Int32} {xs : Nat → Int32} (hX : va_X b L xs s s.heap) (hbl : b < s.heap.size) (hbA : ¬ adA ad b) (hv : Int32.ofNat L = v) (hdg : decode cc pc = .ok (.arraylength, 1)) (kk : J D ca ad p l e R s m args below meth c k n Q nL G (pc + 1) lv (.int v :: st)) : J D ca ad p l e R s m args below meth c k n Q nL G pc lv (.ref b :: st) := fun H locs ls hP hS hl => va_slen C0.1 C0.2.1 hX hbl hbA hS hdg (by rw [hv]; exact kk H locs ls hP hS hl)
end JL
set_option maxHeartbeats 8000000 in
set_option maxRecDepth 100000 in
theorem law_loop {l : Launch} {D : va_G} {ca : Nat → ClassId} {ad : I3 → Nat} (hi : adI ad) {p : Program} {e : Env} {s : State} {m : MethodId} {below : List Frame} {meth : Method} {c : Code} {kC nC : Nat} {Q : State → Prop} {b L : Nat} {xs : Nat → Int32} (hX : va_X b L xs s s.heap) (hbl : b < s.heap.size) (hbA : ¬ adA ad b) (hq : kC ≤ room_1.cells ∧ nC ≤ room_1.slots) (C0 : Cx D ca ad p s m #[.ref b] meth c cL_law 4 RL) (hend : ∀ (G : GS) (lv : List (Nat × Value)) (pc : Nat), decode cL_law pc = .ok (.ireturn, 1) → J D ca ad p l e room_1 s m #[.ref b] below meth c kC nC Q 4 G pc lv [.int 1]) : ∀ (n : Nat) (X : XS) (M : Nat → Nat → Int32) (y3 : Int32), fL_law_L18 L xs n X M y3 = some () → J D ca ad p l e room_1 s m #[.ref b] below meth c kC nC Q 4 (X.1, X.2, M) 18 [(0, .ref b), (1, .ref (ad (0, 0, 0))), (2, .ref (ad (14, 0, 0))), (3, .int y3)] [] := by
  intro n
  induction n with
  | zero =>
    intro X M y3 hf
    exact (none_ne hf).elim
  | succ n ih =>
    intro X M y3 hf
    rw [fL_law_L18] at hf
    refine j_iload_n C0 dL_law_18 rfl 3 rfl ?_
    refine j_aload_n C0 dL_law_19 rfl 0 rfl ?_
    refine j_slen (v := (Int32.ofNat L)) C0 hX hbl hbA rfl dL_law_20 ?_
    refine j_iconst (v := 4) C0 dL_law_21 rfl ?_
    refine j_isub C0 dL_law_22 ?_
    refine j_icmp_gt (tgt := 836) C0 dL_law_23 (by decide) (fun c1 => ?_) (fun c1 => ?_)
    · have hf := if_t c1 hf
      refine j_iconst (v := 1) C0 dL_law_836 rfl ?_
      exact hend _ _ _ dL_law_837
    have hf := if_f c1 hf
    refine j_aload_n C0 dL_law_26 rfl 0 rfl ?_
    refine j_iload_n C0 dL_law_27 rfl 3 rfl ?_
    obtain ⟨h2, hf⟩ := gd_some hf
    refine j_sld C0 hX hbl hbA h2 dL_law_28 ?_
    refine j_bipush (v := 31) C0 dL_law_29 rfl ?_
    refine j_iand C0 dL_law_31 ?_
    by_cases c3 : (((xs y3.toNatClampNeg) &&& (31 : Int32)).toInt < 0 ∨ 25 < ((xs y3.toNatClampNeg) &&& (31 : Int32)).toInt)
    · have hf := if_t c3 hf
      refine j_tableOut (tgt := 830) C0 dL_law_32 c3 (by decide) ?_
      refine j_iinc (v := (y3 + 4)) (lv' := [(3, .int (y3 + 4)), (0, .ref b), (1, .ref (ad (0, 0, 0))), (2, .ref (ad (14, 0, 0)))]) C0 dL_law_830 3 rfl rfl (by decide) rfl ?_
      refine j_goto (tgt := 18) C0 dL_law_833 (by decide) ?_
      exact j_sub [1, 2, 3, 0] rfl (ih X M (y3 + 4) hf)
    have hf := if_f c3 hf
    by_cases c4 : ((xs y3.toNatClampNeg) &&& (31 : Int32)) = 0
    · have hf := if_t c4 hf
      refine j_tableEq C0 0 (tgt := 152) c4 dL_law_32 (by decide) (by decide) rfl (by decide) ?_
      refine j_aload_n C0 dL_law_152 rfl 1 rfl ?_
      refine j_aload_n C0 dL_law_153 rfl 0 rfl ?_
      refine j_iload_n C0 dL_law_154 rfl 3 rfl ?_
      refine j_iconst (v := 1) C0 dL_law_155 rfl ?_
      refine j_iadd C0 dL_law_156 ?_
      obtain ⟨h5, hf⟩ := gd_some hf
      refine j_sld C0 hX hbl hbA h5 dL_law_157 ?_
      refine j_aload_n C0 dL_law_158 rfl 0 rfl ?_
      refine j_iload_n C0 dL_law_159 rfl 3 rfl ?_
      refine j_iconst (v := 2) C0 dL_law_160 rfl ?_
      refine j_iadd C0 dL_law_161 ?_
      obtain ⟨h6, hf⟩ := gd_some hf
      refine j_sld C0 hX hbl hbA h6 dL_law_162 ?_
      refine j_aload_n C0 dL_law_163 rfl 0 rfl ?_
      refine j_iload_n C0 dL_law_164 rfl 3 rfl ?_
      refine j_iconst (v := 3) C0 dL_law_165 rfl ?_
      refine j_iadd C0 dL_law_166 ?_
      obtain ⟨h7, hf⟩ := gd_some hf
      refine j_sld C0 hX hbl hbA h7 dL_law_167 ?_
      obtain ⟨q8, hcq8, hf⟩ := bd_some hf
      refine j_callV (As := [.int (xs (y3 + (1 : Int32)).toNatClampNeg), .int (xs (y3 + (2 : Int32)).toNatClampNeg), .int (xs (y3 + (3 : Int32)).toNatClampNeg)]) (rest := []) (stk := [.int q8.1]) (G2 := (q8.2.1, q8.2.2, M)) C0 (c_X5_clock hi (M0 := M)  hcq8) kw_L_13 bi_X5_clock bx_X5_clock id_c0 oc_0 rfl ⟨by decide, by decide⟩ hq rfl rfl (Nat.le_of_ble_eq_true rfl) rfl rfl dL_law_168 ?_
      refine j_aload_n C0 dL_law_171 rfl 2 rfl ?_
      refine j_aload_n C0 dL_law_172 rfl 0 rfl ?_
      refine j_iload_n C0 dL_law_173 rfl 3 rfl ?_
      refine j_iconst (v := 1) C0 dL_law_174 rfl ?_
      refine j_iadd C0 dL_law_175 ?_
      obtain ⟨h9, hf⟩ := gd_some hf
      refine j_sld C0 hX hbl hbA h9 dL_law_176 ?_
      refine j_aload_n C0 dL_law_177 rfl 0 rfl ?_
      refine j_iload_n C0 dL_law_178 rfl 3 rfl ?_
      refine j_iconst (v := 2) C0 dL_law_179 rfl ?_
      refine j_iadd C0 dL_law_180 ?_
      obtain ⟨h10, hf⟩ := gd_some hf
      refine j_sld C0 hX hbl hbA h10 dL_law_181 ?_
      refine j_aload_n C0 dL_law_182 rfl 0 rfl ?_
      refine j_iload_n C0 dL_law_183 rfl 3 rfl ?_
      refine j_iconst (v := 3) C0 dL_law_184 rfl ?_
      refine j_iadd C0 dL_law_185 ?_
      obtain ⟨h11, hf⟩ := gd_some hf
      refine j_sld C0 hX hbl hbA h11 dL_law_186 ?_
      obtain ⟨q12, hcq12, hf⟩ := bd_some hf
      refine j_callV (As := [.int (xs (y3 + (1 : Int32)).toNatClampNeg), .int (xs (y3 + (2 : Int32)).toNatClampNeg), .int (xs (y3 + (3 : Int32)).toNatClampNeg)]) (rest := [.int q8.1]) (stk := [.int q12.1, .int q8.1]) (G2 := (q8.2.1, q8.2.2, q12.2)) C0 (c_X6_clock hi (Cc := q8.2.1) (Bb := q8.2.2)  hcq12) kw_L_17 bi_X6_clock bx_X6_clock id_c14 oc_14 rfl ⟨by decide, by decide⟩ hq rfl rfl (Nat.le_of_ble_eq_true rfl) rfl rfl dL_law_187 ?_
      refine j_icmp_eq (tgt := 830) C0 dL_law_190 (by decide) (fun c13 => ?_) (fun c13 => ?_)
      · have hf := if_t c13 hf
        refine j_iinc (v := (y3 + 4)) (lv' := [(3, .int (y3 + 4)), (0, .ref b), (1, .ref (ad (0, 0, 0))), (2, .ref (ad (14, 0, 0)))]) C0 dL_law_830 3 rfl rfl (by decide) rfl ?_
        refine j_goto (tgt := 18) C0 dL_law_833 (by decide) ?_
        exact j_sub [1, 2, 3, 0] rfl (ih q8.2 q12.2 (y3 + 4) hf)
      have hf := if_f c13 hf
      refine j_iconst (v := 0) C0 dL_law_193 rfl ?_
      exact (none_ne hf).elim
    have hf := if_f c4 hf
    by_cases c14 : ((xs y3.toNatClampNeg) &&& (31 : Int32)) = 1
    · have hf := if_t c14 hf
      refine j_tableEq C0 1 (tgt := 195) c14 dL_law_32 (by decide) (by decide) rfl (by decide) ?_
      refine j_aload_n C0 dL_law_195 rfl 1 rfl ?_
      refine j_aload_n C0 dL_law_196 rfl 0 rfl ?_
      refine j_iload_n C0 dL_law_197 rfl 3 rfl ?_
      refine j_iconst (v := 1) C0 dL_law_198 rfl ?_
      refine j_iadd C0 dL_law_199 ?_
      obtain ⟨h15, hf⟩ := gd_some hf
      refine j_sld C0 hX hbl hbA h15 dL_law_200 ?_
      refine j_aload_n C0 dL_law_201 rfl 0 rfl ?_
      refine j_iload_n C0 dL_law_202 rfl 3 rfl ?_
      refine j_iconst (v := 2) C0 dL_law_203 rfl ?_
      refine j_iadd C0 dL_law_204 ?_
      obtain ⟨h16, hf⟩ := gd_some hf
      refine j_sld C0 hX hbl hbA h16 dL_law_205 ?_
      obtain ⟨q17, hcq17, hf⟩ := bd_some hf
      refine j_callV (As := [.int (xs (y3 + (1 : Int32)).toNatClampNeg), .int (xs (y3 + (2 : Int32)).toNatClampNeg)]) (rest := []) (stk := [.int q17.1]) (G2 := (q17.2.1, q17.2.2, M)) C0 (c_X5_lead hi (M0 := M)  hcq17) kw_L_18 bi_X5_lead bx_X5_lead id_c0 oc_0 rfl ⟨by decide, by decide⟩ hq rfl rfl (Nat.le_of_ble_eq_true rfl) rfl rfl dL_law_206 ?_
      refine j_aload_n C0 dL_law_209 rfl 2 rfl ?_
      refine j_aload_n C0 dL_law_210 rfl 0 rfl ?_
      refine j_iload_n C0 dL_law_211 rfl 3 rfl ?_
      refine j_iconst (v := 1) C0 dL_law_212 rfl ?_
      refine j_iadd C0 dL_law_213 ?_
      obtain ⟨h18, hf⟩ := gd_some hf
      refine j_sld C0 hX hbl hbA h18 dL_law_214 ?_
      refine j_aload_n C0 dL_law_215 rfl 0 rfl ?_
      refine j_iload_n C0 dL_law_216 rfl 3 rfl ?_
      refine j_iconst (v := 2) C0 dL_law_217 rfl ?_
      refine j_iadd C0 dL_law_218 ?_
      obtain ⟨h19, hf⟩ := gd_some hf
      refine j_sld C0 hX hbl hbA h19 dL_law_219 ?_
      obtain ⟨q20, hcq20, hf⟩ := bd_some hf
      refine j_callV (As := [.int (xs (y3 + (1 : Int32)).toNatClampNeg), .int (xs (y3 + (2 : Int32)).toNatClampNeg)]) (rest := [.int q17.1]) (stk := [.int q20.1, .int q17.1]) (G2 := (q17.2.1, q17.2.2, q20.2)) C0 (c_X6_lead hi (Cc := q17.2.1) (Bb := q17.2.2)  hcq20) kw_L_22 bi_X6_lead bx_X6_lead id_c14 oc_14 rfl ⟨by decide, by decide⟩ hq rfl rfl (Nat.le_of_ble_eq_true rfl) rfl rfl dL_law_220 ?_
      refine j_icmp_eq (tgt := 830) C0 dL_law_223 (by decide) (fun c21 => ?_) (fun c21 => ?_)
      · have hf := if_t c21 hf
        refine j_iinc (v := (y3 + 4)) (lv' := [(3, .int (y3 + 4)), (0, .ref b), (1, .ref (ad (0, 0, 0))), (2, .ref (ad (14, 0, 0)))]) C0 dL_law_830 3 rfl rfl (by decide) rfl ?_
        refine j_goto (tgt := 18) C0 dL_law_833 (by decide) ?_
        exact j_sub [1, 2, 3, 0] rfl (ih q17.2 q20.2 (y3 + 4) hf)
      have hf := if_f c21 hf
      refine j_iconst (v := 0) C0 dL_law_226 rfl ?_
      exact (none_ne hf).elim
    have hf := if_f c14 hf
    by_cases c22 : ((xs y3.toNatClampNeg) &&& (31 : Int32)) = 2
    · have hf := if_t c22 hf
      refine j_tableEq C0 2 (tgt := 228) c22 dL_law_32 (by decide) (by decide) rfl (by decide) ?_
      refine j_aload_n C0 dL_law_228 rfl 1 rfl ?_
      refine j_aload_n C0 dL_law_229 rfl 0 rfl ?_
      refine j_iload_n C0 dL_law_230 rfl 3 rfl ?_
      refine j_iconst (v := 1) C0 dL_law_231 rfl ?_
      refine j_iadd C0 dL_law_232 ?_
      obtain ⟨h23, hf⟩ := gd_some hf
      refine j_sld C0 hX hbl hbA h23 dL_law_233 ?_
      refine j_aload_n C0 dL_law_234 rfl 0 rfl ?_
      refine j_iload_n C0 dL_law_235 rfl 3 rfl ?_
      refine j_iconst (v := 2) C0 dL_law_236 rfl ?_
      refine j_iadd C0 dL_law_237 ?_
      obtain ⟨h24, hf⟩ := gd_some hf
      refine j_sld C0 hX hbl hbA h24 dL_law_238 ?_
      obtain ⟨q25, hcq25, hf⟩ := bd_some hf
      refine j_callV (As := [.int (xs (y3 + (1 : Int32)).toNatClampNeg), .int (xs (y3 + (2 : Int32)).toNatClampNeg)]) (rest := []) (stk := [.int q25.1]) (G2 := (q25.2.1, q25.2.2, M)) C0 (c_X5_pour hi (M0 := M)  hcq25) kw_L_23 bi_X5_pour bx_X5_pour id_c0 oc_0 rfl ⟨by decide, by decide⟩ hq rfl rfl (Nat.le_of_ble_eq_true rfl) rfl rfl dL_law_239 ?_
      refine j_aload_n C0 dL_law_242 rfl 2 rfl ?_
      refine j_aload_n C0 dL_law_243 rfl 0 rfl ?_
      refine j_iload_n C0 dL_law_244 rfl 3 rfl ?_
      refine j_iconst (v := 1) C0 dL_law_245 rfl ?_
      refine j_iadd C0 dL_law_246 ?_
      obtain ⟨h26, hf⟩ := gd_some hf
      refine j_sld C0 hX hbl hbA h26 dL_law_247 ?_
      refine j_aload_n C0 dL_law_248 rfl 0 rfl ?_
      refine j_iload_n C0 dL_law_249 rfl 3 rfl ?_
      refine j_iconst (v := 2) C0 dL_law_250 rfl ?_
      refine j_iadd C0 dL_law_251 ?_
      obtain ⟨h27, hf⟩ := gd_some hf
      refine j_sld C0 hX hbl hbA h27 dL_law_252 ?_
      obtain ⟨q28, hcq28, hf⟩ := bd_some hf
      refine j_callV (As := [.int (xs (y3 + (1 : Int32)).toNatClampNeg), .int (xs (y3 + (2 : Int32)).toNatClampNeg)]) (rest := [.int q25.1]) (stk := [.int q28.1, .int q25.1]) (G2 := (q25.2.1, q25.2.2, q28.2)) C0 (c_X6_pour hi (Cc := q25.2.1) (Bb := q25.2.2)  hcq28) kw_L_26 bi_X6_pour bx_X6_pour id_c14 oc_14 rfl ⟨by decide, by decide⟩ hq rfl rfl (Nat.le_of_ble_eq_true rfl) rfl rfl dL_law_253 ?_
      refine j_icmp_eq (tgt := 830) C0 dL_law_256 (by decide) (fun c29 => ?_) (fun c29 => ?_)
      · have hf := if_t c29 hf
        refine j_iinc (v := (y3 + 4)) (lv' := [(3, .int (y3 + 4)), (0, .ref b), (1, .ref (ad (0, 0, 0))), (2, .ref (ad (14, 0, 0)))]) C0 dL_law_830 3 rfl rfl (by decide) rfl ?_
        refine j_goto (tgt := 18) C0 dL_law_833 (by decide) ?_
        exact j_sub [1, 2, 3, 0] rfl (ih q25.2 q28.2 (y3 + 4) hf)
      have hf := if_f c29 hf
      refine j_iconst (v := 0) C0 dL_law_259 rfl ?_
      exact (none_ne hf).elim
    have hf := if_f c22 hf
    by_cases c30 : ((xs y3.toNatClampNeg) &&& (31 : Int32)) = 3
    · have hf := if_t c30 hf
      refine j_tableEq C0 3 (tgt := 261) c30 dL_law_32 (by decide) (by decide) rfl (by decide) ?_
      refine j_aload_n C0 dL_law_261 rfl 1 rfl ?_
      refine j_aload_n C0 dL_law_262 rfl 0 rfl ?_
      refine j_iload_n C0 dL_law_263 rfl 3 rfl ?_
      refine j_iconst (v := 1) C0 dL_law_264 rfl ?_
      refine j_iadd C0 dL_law_265 ?_
      obtain ⟨h31, hf⟩ := gd_some hf
      refine j_sld C0 hX hbl hbA h31 dL_law_266 ?_
      refine j_aload_n C0 dL_law_267 rfl 0 rfl ?_
      refine j_iload_n C0 dL_law_268 rfl 3 rfl ?_
      refine j_iconst (v := 2) C0 dL_law_269 rfl ?_
      refine j_iadd C0 dL_law_270 ?_
      obtain ⟨h32, hf⟩ := gd_some hf
      refine j_sld C0 hX hbl hbA h32 dL_law_271 ?_
      obtain ⟨q33, hcq33, hf⟩ := bd_some hf
      refine j_callV (As := [.int (xs (y3 + (1 : Int32)).toNatClampNeg), .int (xs (y3 + (2 : Int32)).toNatClampNeg)]) (rest := []) (stk := [.int q33.1]) (G2 := (q33.2.1, q33.2.2, M)) C0 (c_X5_wax hi (M0 := M)  hcq33) kw_L_27 bi_X5_wax bx_X5_wax id_c0 oc_0 rfl ⟨by decide, by decide⟩ hq rfl rfl (Nat.le_of_ble_eq_true rfl) rfl rfl dL_law_272 ?_
      refine j_aload_n C0 dL_law_275 rfl 2 rfl ?_
      refine j_aload_n C0 dL_law_276 rfl 0 rfl ?_
      refine j_iload_n C0 dL_law_277 rfl 3 rfl ?_
      refine j_iconst (v := 1) C0 dL_law_278 rfl ?_
      refine j_iadd C0 dL_law_279 ?_
      obtain ⟨h34, hf⟩ := gd_some hf
      refine j_sld C0 hX hbl hbA h34 dL_law_280 ?_
      refine j_aload_n C0 dL_law_281 rfl 0 rfl ?_
      refine j_iload_n C0 dL_law_282 rfl 3 rfl ?_
      refine j_iconst (v := 2) C0 dL_law_283 rfl ?_
      refine j_iadd C0 dL_law_284 ?_
      obtain ⟨h35, hf⟩ := gd_some hf
      refine j_sld C0 hX hbl hbA h35 dL_law_285 ?_
      obtain ⟨q36, hcq36, hf⟩ := bd_some hf
      refine j_callV (As := [.int (xs (y3 + (1 : Int32)).toNatClampNeg), .int (xs (y3 + (2 : Int32)).toNatClampNeg)]) (rest := [.int q33.1]) (stk := [.int q36.1, .int q33.1]) (G2 := (q33.2.1, q33.2.2, q36.2)) C0 (c_X6_wax hi (Cc := q33.2.1) (Bb := q33.2.2)  hcq36) kw_L_30 bi_X6_wax bx_X6_wax id_c14 oc_14 rfl ⟨by decide, by decide⟩ hq rfl rfl (Nat.le_of_ble_eq_true rfl) rfl rfl dL_law_286 ?_
      refine j_icmp_eq (tgt := 830) C0 dL_law_289 (by decide) (fun c37 => ?_) (fun c37 => ?_)
      · have hf := if_t c37 hf
        refine j_iinc (v := (y3 + 4)) (lv' := [(3, .int (y3 + 4)), (0, .ref b), (1, .ref (ad (0, 0, 0))), (2, .ref (ad (14, 0, 0)))]) C0 dL_law_830 3 rfl rfl (by decide) rfl ?_
        refine j_goto (tgt := 18) C0 dL_law_833 (by decide) ?_
        exact j_sub [1, 2, 3, 0] rfl (ih q33.2 q36.2 (y3 + 4) hf)
      have hf := if_f c37 hf
      refine j_iconst (v := 0) C0 dL_law_292 rfl ?_
      exact (none_ne hf).elim
    have hf := if_f c30 hf
    by_cases c38 : ((xs y3.toNatClampNeg) &&& (31 : Int32)) = 4
    · have hf := if_t c38 hf
      refine j_tableEq C0 4 (tgt := 294) c38 dL_law_32 (by decide) (by decide) rfl (by decide) ?_
      refine j_aload_n C0 dL_law_294 rfl 1 rfl ?_
      refine j_aload_n C0 dL_law_295 rfl 0 rfl ?_
      refine j_iload_n C0 dL_law_296 rfl 3 rfl ?_
      refine j_iconst (v := 1) C0 dL_law_297 rfl ?_
      refine j_iadd C0 dL_law_298 ?_
      obtain ⟨h39, hf⟩ := gd_some hf
      refine j_sld C0 hX hbl hbA h39 dL_law_299 ?_
      refine j_aload_n C0 dL_law_300 rfl 0 rfl ?_
      refine j_iload_n C0 dL_law_301 rfl 3 rfl ?_
      refine j_iconst (v := 2) C0 dL_law_302 rfl ?_
      refine j_iadd C0 dL_law_303 ?_
      obtain ⟨h40, hf⟩ := gd_some hf
      refine j_sld C0 hX hbl hbA h40 dL_law_304 ?_
      obtain ⟨q41, hcq41, hf⟩ := bd_some hf
      refine j_callV (As := [.int (xs (y3 + (1 : Int32)).toNatClampNeg), .int (xs (y3 + (2 : Int32)).toNatClampNeg)]) (rest := []) (stk := [.int q41.1]) (G2 := (q41.2.1, q41.2.2, M)) C0 (c_X5_pitch hi (M0 := M)  hcq41) kw_L_31 bi_X5_pitch bx_X5_pitch id_c0 oc_0 rfl ⟨by decide, by decide⟩ hq rfl rfl (Nat.le_of_ble_eq_true rfl) rfl rfl dL_law_305 ?_
      refine j_aload_n C0 dL_law_308 rfl 2 rfl ?_
      refine j_aload_n C0 dL_law_309 rfl 0 rfl ?_
      refine j_iload_n C0 dL_law_310 rfl 3 rfl ?_
      refine j_iconst (v := 1) C0 dL_law_311 rfl ?_
      refine j_iadd C0 dL_law_312 ?_
      obtain ⟨h42, hf⟩ := gd_some hf
      refine j_sld C0 hX hbl hbA h42 dL_law_313 ?_
      refine j_aload_n C0 dL_law_314 rfl 0 rfl ?_
      refine j_iload_n C0 dL_law_315 rfl 3 rfl ?_
      refine j_iconst (v := 2) C0 dL_law_316 rfl ?_
      refine j_iadd C0 dL_law_317 ?_
      obtain ⟨h43, hf⟩ := gd_some hf
      refine j_sld C0 hX hbl hbA h43 dL_law_318 ?_
      obtain ⟨q44, hcq44, hf⟩ := bd_some hf
      refine j_callV (As := [.int (xs (y3 + (1 : Int32)).toNatClampNeg), .int (xs (y3 + (2 : Int32)).toNatClampNeg)]) (rest := [.int q41.1]) (stk := [.int q44.1, .int q41.1]) (G2 := (q41.2.1, q41.2.2, q44.2)) C0 (c_X6_pitch hi (Cc := q41.2.1) (Bb := q41.2.2)  hcq44) kw_L_34 bi_X6_pitch bx_X6_pitch id_c14 oc_14 rfl ⟨by decide, by decide⟩ hq rfl rfl (Nat.le_of_ble_eq_true rfl) rfl rfl dL_law_319 ?_
      refine j_icmp_eq (tgt := 830) C0 dL_law_322 (by decide) (fun c45 => ?_) (fun c45 => ?_)
      · have hf := if_t c45 hf
        refine j_iinc (v := (y3 + 4)) (lv' := [(3, .int (y3 + 4)), (0, .ref b), (1, .ref (ad (0, 0, 0))), (2, .ref (ad (14, 0, 0)))]) C0 dL_law_830 3 rfl rfl (by decide) rfl ?_
        refine j_goto (tgt := 18) C0 dL_law_833 (by decide) ?_
        exact j_sub [1, 2, 3, 0] rfl (ih q41.2 q44.2 (y3 + 4) hf)
      have hf := if_f c45 hf
      refine j_iconst (v := 0) C0 dL_law_325 rfl ?_
      exact (none_ne hf).elim
    have hf := if_f c38 hf
    by_cases c46 : ((xs y3.toNatClampNeg) &&& (31 : Int32)) = 5
    · have hf := if_t c46 hf
      refine j_tableEq C0 5 (tgt := 327) c46 dL_law_32 (by decide) (by decide) rfl (by decide) ?_
      refine j_aload_n C0 dL_law_327 rfl 1 rfl ?_
      refine j_aload_n C0 dL_law_328 rfl 0 rfl ?_
      refine j_iload_n C0 dL_law_329 rfl 3 rfl ?_
      refine j_iconst (v := 1) C0 dL_law_330 rfl ?_
      refine j_iadd C0 dL_law_331 ?_
      obtain ⟨h47, hf⟩ := gd_some hf
      refine j_sld C0 hX hbl hbA h47 dL_law_332 ?_
      obtain ⟨q48, hcq48, hf⟩ := bd_some hf
      refine j_callV (As := [.int (xs (y3 + (1 : Int32)).toNatClampNeg)]) (rest := []) (stk := [.int q48.1]) (G2 := (q48.2.1, q48.2.2, M)) C0 (c_X5_trueUp hi (M0 := M)  hcq48) kw_L_35 bi_X5_trueUp bx_X5_trueUp id_c0 oc_0 rfl ⟨by decide, by decide⟩ hq rfl rfl (Nat.le_of_ble_eq_true rfl) rfl rfl dL_law_333 ?_
      refine j_aload_n C0 dL_law_336 rfl 2 rfl ?_
      refine j_aload_n C0 dL_law_337 rfl 0 rfl ?_
      refine j_iload_n C0 dL_law_338 rfl 3 rfl ?_
      refine j_iconst (v := 1) C0 dL_law_339 rfl ?_
      refine j_iadd C0 dL_law_340 ?_
      obtain ⟨h49, hf⟩ := gd_some hf
      refine j_sld C0 hX hbl hbA h49 dL_law_341 ?_
      obtain ⟨q50, hcq50, hf⟩ := bd_some hf
      refine j_callV (As := [.int (xs (y3 + (1 : Int32)).toNatClampNeg)]) (rest := [.int q48.1]) (stk := [.int q50.1, .int q48.1]) (G2 := (q48.2.1, q48.2.2, q50.2)) C0 (c_X6_trueUp hi (Cc := q48.2.1) (Bb := q48.2.2)  hcq50) kw_L_39 bi_X6_trueUp bx_X6_trueUp id_c14 oc_14 rfl ⟨by decide, by decide⟩ hq rfl rfl (Nat.le_of_ble_eq_true rfl) rfl rfl dL_law_342 ?_
      refine j_icmp_eq (tgt := 830) C0 dL_law_345 (by decide) (fun c51 => ?_) (fun c51 => ?_)
      · have hf := if_t c51 hf
        refine j_iinc (v := (y3 + 4)) (lv' := [(3, .int (y3 + 4)), (0, .ref b), (1, .ref (ad (0, 0, 0))), (2, .ref (ad (14, 0, 0)))]) C0 dL_law_830 3 rfl rfl (by decide) rfl ?_
        refine j_goto (tgt := 18) C0 dL_law_833 (by decide) ?_
        exact j_sub [1, 2, 3, 0] rfl (ih q48.2 q50.2 (y3 + 4) hf)
      have hf := if_f c51 hf
      refine j_iconst (v := 0) C0 dL_law_348 rfl ?_
      exact (none_ne hf).elim
    have hf := if_f c46 hf
    by_cases c52 : ((xs y3.toNatClampNeg) &&& (31 : Int32)) = 6
    · have hf := if_t c52 hf
      refine j_tableEq C0 6 (tgt := 350) c52 dL_law_32 (by decide) (by decide) rfl (by decide) ?_
      refine j_aload_n C0 dL_law_350 rfl 1 rfl ?_
      refine j_aload_n C0 dL_law_351 rfl 0 rfl ?_
      refine j_iload_n C0 dL_law_352 rfl 3 rfl ?_
      refine j_iconst (v := 1) C0 dL_law_353 rfl ?_
      refine j_iadd C0 dL_law_354 ?_
      obtain ⟨h53, hf⟩ := gd_some hf
      refine j_sld C0 hX hbl hbA h53 dL_law_355 ?_
      obtain ⟨q54, hcq54, hf⟩ := bd_some hf
      refine j_callV (As := [.int (xs (y3 + (1 : Int32)).toNatClampNeg)]) (rest := []) (stk := [.int q54.1]) (G2 := (q54.2.1, q54.2.2, M)) C0 (c_X5_ticks hi (M0 := M)  hcq54) kw_L_40 bi_X5_ticks bx_X5_ticks id_c0 oc_0 rfl ⟨by decide, by decide⟩ hq rfl rfl (Nat.le_of_ble_eq_true rfl) rfl rfl dL_law_356 ?_
      refine j_aload_n C0 dL_law_359 rfl 2 rfl ?_
      refine j_aload_n C0 dL_law_360 rfl 0 rfl ?_
      refine j_iload_n C0 dL_law_361 rfl 3 rfl ?_
      refine j_iconst (v := 1) C0 dL_law_362 rfl ?_
      refine j_iadd C0 dL_law_363 ?_
      obtain ⟨h55, hf⟩ := gd_some hf
      refine j_sld C0 hX hbl hbA h55 dL_law_364 ?_
      obtain ⟨q56, hcq56, hf⟩ := bd_some hf
      refine j_callV (As := [.int (xs (y3 + (1 : Int32)).toNatClampNeg)]) (rest := [.int q54.1]) (stk := [.int q56.1, .int q54.1]) (G2 := (q54.2.1, q54.2.2, q56.2)) C0 (c_X6_ticks hi (Cc := q54.2.1) (Bb := q54.2.2)  hcq56) kw_L_43 bi_X6_ticks bx_X6_ticks id_c14 oc_14 rfl ⟨by decide, by decide⟩ hq rfl rfl (Nat.le_of_ble_eq_true rfl) rfl rfl dL_law_365 ?_
      refine j_icmp_eq (tgt := 830) C0 dL_law_368 (by decide) (fun c57 => ?_) (fun c57 => ?_)
      · have hf := if_t c57 hf
        refine j_iinc (v := (y3 + 4)) (lv' := [(3, .int (y3 + 4)), (0, .ref b), (1, .ref (ad (0, 0, 0))), (2, .ref (ad (14, 0, 0)))]) C0 dL_law_830 3 rfl rfl (by decide) rfl ?_
        refine j_goto (tgt := 18) C0 dL_law_833 (by decide) ?_
        exact j_sub [1, 2, 3, 0] rfl (ih q54.2 q56.2 (y3 + 4) hf)
      have hf := if_f c57 hf
      refine j_iconst (v := 0) C0 dL_law_371 rfl ?_
      exact (none_ne hf).elim
    have hf := if_f c52 hf
    by_cases c58 : ((xs y3.toNatClampNeg) &&& (31 : Int32)) = 7
    · have hf := if_t c58 hf
      refine j_tableEq C0 7 (tgt := 373) c58 dL_law_32 (by decide) (by decide) rfl (by decide) ?_
      refine j_aload_n C0 dL_law_373 rfl 1 rfl ?_
      refine j_aload_n C0 dL_law_374 rfl 0 rfl ?_
      refine j_iload_n C0 dL_law_375 rfl 3 rfl ?_
      refine j_iconst (v := 1) C0 dL_law_376 rfl ?_
      refine j_iadd C0 dL_law_377 ?_
      obtain ⟨h59, hf⟩ := gd_some hf
      refine j_sld C0 hX hbl hbA h59 dL_law_378 ?_
      refine j_aload_n C0 dL_law_379 rfl 0 rfl ?_
      refine j_iload_n C0 dL_law_380 rfl 3 rfl ?_
      refine j_iconst (v := 2) C0 dL_law_381 rfl ?_
      refine j_iadd C0 dL_law_382 ?_
      obtain ⟨h60, hf⟩ := gd_some hf
      refine j_sld C0 hX hbl hbA h60 dL_law_383 ?_
      obtain ⟨q61, hcq61, hf⟩ := bd_some hf
      refine j_callV (As := [.int (xs (y3 + (1 : Int32)).toNatClampNeg), .int (xs (y3 + (2 : Int32)).toNatClampNeg)]) (rest := []) (stk := [.int q61.1]) (G2 := (q61.2.1, q61.2.2, M)) C0 (c_X5_set hi (M0 := M)  hcq61) kw_L_44 bi_X5_set bx_X5_set id_c0 oc_0 rfl ⟨by decide, by decide⟩ hq rfl rfl (Nat.le_of_ble_eq_true rfl) rfl rfl dL_law_384 ?_
      refine j_aload_n C0 dL_law_387 rfl 2 rfl ?_
      refine j_aload_n C0 dL_law_388 rfl 0 rfl ?_
      refine j_iload_n C0 dL_law_389 rfl 3 rfl ?_
      refine j_iconst (v := 1) C0 dL_law_390 rfl ?_
      refine j_iadd C0 dL_law_391 ?_
      obtain ⟨h62, hf⟩ := gd_some hf
      refine j_sld C0 hX hbl hbA h62 dL_law_392 ?_
      refine j_aload_n C0 dL_law_393 rfl 0 rfl ?_
      refine j_iload_n C0 dL_law_394 rfl 3 rfl ?_
      refine j_iconst (v := 2) C0 dL_law_395 rfl ?_
      refine j_iadd C0 dL_law_396 ?_
      obtain ⟨h63, hf⟩ := gd_some hf
      refine j_sld C0 hX hbl hbA h63 dL_law_397 ?_
      obtain ⟨q64, hcq64, hf⟩ := bd_some hf
      refine j_callV (As := [.int (xs (y3 + (1 : Int32)).toNatClampNeg), .int (xs (y3 + (2 : Int32)).toNatClampNeg)]) (rest := [.int q61.1]) (stk := [.int q64.1, .int q61.1]) (G2 := (q61.2.1, q61.2.2, q64.2)) C0 (c_X6_set hi (Cc := q61.2.1) (Bb := q61.2.2)  hcq64) kw_L_47 bi_X6_set bx_X6_set id_c14 oc_14 rfl ⟨by decide, by decide⟩ hq rfl rfl (Nat.le_of_ble_eq_true rfl) rfl rfl dL_law_398 ?_
      refine j_icmp_eq (tgt := 830) C0 dL_law_401 (by decide) (fun c65 => ?_) (fun c65 => ?_)
      · have hf := if_t c65 hf
        refine j_iinc (v := (y3 + 4)) (lv' := [(3, .int (y3 + 4)), (0, .ref b), (1, .ref (ad (0, 0, 0))), (2, .ref (ad (14, 0, 0)))]) C0 dL_law_830 3 rfl rfl (by decide) rfl ?_
        refine j_goto (tgt := 18) C0 dL_law_833 (by decide) ?_
        exact j_sub [1, 2, 3, 0] rfl (ih q61.2 q64.2 (y3 + 4) hf)
      have hf := if_f c65 hf
      refine j_iconst (v := 0) C0 dL_law_404 rfl ?_
      exact (none_ne hf).elim
    have hf := if_f c58 hf
    by_cases c66 : ((xs y3.toNatClampNeg) &&& (31 : Int32)) = 8
    · have hf := if_t c66 hf
      refine j_tableEq C0 8 (tgt := 406) c66 dL_law_32 (by decide) (by decide) rfl (by decide) ?_
      refine j_aload_n C0 dL_law_406 rfl 1 rfl ?_
      refine j_aload_n C0 dL_law_407 rfl 0 rfl ?_
      refine j_iload_n C0 dL_law_408 rfl 3 rfl ?_
      refine j_iconst (v := 1) C0 dL_law_409 rfl ?_
      refine j_iadd C0 dL_law_410 ?_
      obtain ⟨h67, hf⟩ := gd_some hf
      refine j_sld C0 hX hbl hbA h67 dL_law_411 ?_
      obtain ⟨q68, hcq68, hf⟩ := bd_some hf
      refine j_callV (As := [.int (xs (y3 + (1 : Int32)).toNatClampNeg)]) (rest := []) (stk := [.int q68.1]) (G2 := (q68.2.1, q68.2.2, M)) C0 (c_X5_keep hi (M0 := M)  hcq68) kw_L_48 bi_X5_keep bx_X5_keep id_c0 oc_0 rfl ⟨by decide, by decide⟩ hq rfl rfl (Nat.le_of_ble_eq_true rfl) rfl rfl dL_law_412 ?_
      refine j_aload_n C0 dL_law_415 rfl 2 rfl ?_
      refine j_aload_n C0 dL_law_416 rfl 0 rfl ?_
      refine j_iload_n C0 dL_law_417 rfl 3 rfl ?_
      refine j_iconst (v := 1) C0 dL_law_418 rfl ?_
      refine j_iadd C0 dL_law_419 ?_
      obtain ⟨h69, hf⟩ := gd_some hf
      refine j_sld C0 hX hbl hbA h69 dL_law_420 ?_
      obtain ⟨q70, hcq70, hf⟩ := bd_some hf
      refine j_callV (As := [.int (xs (y3 + (1 : Int32)).toNatClampNeg)]) (rest := [.int q68.1]) (stk := [.int q70.1, .int q68.1]) (G2 := (q68.2.1, q68.2.2, q70.2)) C0 (c_X6_keep hi (Cc := q68.2.1) (Bb := q68.2.2)  hcq70) kw_L_51 bi_X6_keep bx_X6_keep id_c14 oc_14 rfl ⟨by decide, by decide⟩ hq rfl rfl (Nat.le_of_ble_eq_true rfl) rfl rfl dL_law_421 ?_
      refine j_icmp_eq (tgt := 830) C0 dL_law_424 (by decide) (fun c71 => ?_) (fun c71 => ?_)
      · have hf := if_t c71 hf
        refine j_iinc (v := (y3 + 4)) (lv' := [(3, .int (y3 + 4)), (0, .ref b), (1, .ref (ad (0, 0, 0))), (2, .ref (ad (14, 0, 0)))]) C0 dL_law_830 3 rfl rfl (by decide) rfl ?_
        refine j_goto (tgt := 18) C0 dL_law_833 (by decide) ?_
        exact j_sub [1, 2, 3, 0] rfl (ih q68.2 q70.2 (y3 + 4) hf)
      have hf := if_f c71 hf
      refine j_iconst (v := 0) C0 dL_law_427 rfl ?_
      exact (none_ne hf).elim
    have hf := if_f c66 hf
    by_cases c72 : ((xs y3.toNatClampNeg) &&& (31 : Int32)) = 9
    · have hf := if_t c72 hf
      refine j_tableEq C0 9 (tgt := 429) c72 dL_law_32 (by decide) (by decide) rfl (by decide) ?_
      refine j_aload_n C0 dL_law_429 rfl 1 rfl ?_
      refine j_aload_n C0 dL_law_430 rfl 0 rfl ?_
      refine j_iload_n C0 dL_law_431 rfl 3 rfl ?_
      refine j_iconst (v := 1) C0 dL_law_432 rfl ?_
      refine j_iadd C0 dL_law_433 ?_
      obtain ⟨h73, hf⟩ := gd_some hf
      refine j_sld C0 hX hbl hbA h73 dL_law_434 ?_
      obtain ⟨q74, hcq74, hf⟩ := bd_some hf
      refine j_callV (As := [.int (xs (y3 + (1 : Int32)).toNatClampNeg)]) (rest := []) (stk := [.int q74.1]) (G2 := (q74.2.1, q74.2.2, M)) C0 (c_X5_back hi (M0 := M)  hcq74) kw_L_52 bi_X5_back bx_X5_back id_c0 oc_0 rfl ⟨by decide, by decide⟩ hq rfl rfl (Nat.le_of_ble_eq_true rfl) rfl rfl dL_law_435 ?_
      refine j_aload_n C0 dL_law_438 rfl 2 rfl ?_
      refine j_aload_n C0 dL_law_439 rfl 0 rfl ?_
      refine j_iload_n C0 dL_law_440 rfl 3 rfl ?_
      refine j_iconst (v := 1) C0 dL_law_441 rfl ?_
      refine j_iadd C0 dL_law_442 ?_
      obtain ⟨h75, hf⟩ := gd_some hf
      refine j_sld C0 hX hbl hbA h75 dL_law_443 ?_
      obtain ⟨q76, hcq76, hf⟩ := bd_some hf
      refine j_callV (As := [.int (xs (y3 + (1 : Int32)).toNatClampNeg)]) (rest := [.int q74.1]) (stk := [.int q76.1, .int q74.1]) (G2 := (q74.2.1, q74.2.2, q76.2)) C0 (c_X6_back hi (Cc := q74.2.1) (Bb := q74.2.2)  hcq76) kw_L_55 bi_X6_back bx_X6_back id_c14 oc_14 rfl ⟨by decide, by decide⟩ hq rfl rfl (Nat.le_of_ble_eq_true rfl) rfl rfl dL_law_444 ?_
      refine j_icmp_eq (tgt := 830) C0 dL_law_447 (by decide) (fun c77 => ?_) (fun c77 => ?_)
      · have hf := if_t c77 hf
        refine j_iinc (v := (y3 + 4)) (lv' := [(3, .int (y3 + 4)), (0, .ref b), (1, .ref (ad (0, 0, 0))), (2, .ref (ad (14, 0, 0)))]) C0 dL_law_830 3 rfl rfl (by decide) rfl ?_
        refine j_goto (tgt := 18) C0 dL_law_833 (by decide) ?_
        exact j_sub [1, 2, 3, 0] rfl (ih q74.2 q76.2 (y3 + 4) hf)
      have hf := if_f c77 hf
      refine j_iconst (v := 0) C0 dL_law_450 rfl ?_
      exact (none_ne hf).elim
    have hf := if_f c72 hf
    by_cases c78 : ((xs y3.toNatClampNeg) &&& (31 : Int32)) = 10
    · have hf := if_t c78 hf
      refine j_tableEq C0 10 (tgt := 452) c78 dL_law_32 (by decide) (by decide) rfl (by decide) ?_
      refine j_aload_n C0 dL_law_452 rfl 1 rfl ?_
      refine j_aload_n C0 dL_law_453 rfl 0 rfl ?_
      refine j_iload_n C0 dL_law_454 rfl 3 rfl ?_
      refine j_iconst (v := 1) C0 dL_law_455 rfl ?_
      refine j_iadd C0 dL_law_456 ?_
      obtain ⟨h79, hf⟩ := gd_some hf
      refine j_sld C0 hX hbl hbA h79 dL_law_457 ?_
      refine j_aload_n C0 dL_law_458 rfl 0 rfl ?_
      refine j_iload_n C0 dL_law_459 rfl 3 rfl ?_
      refine j_iconst (v := 2) C0 dL_law_460 rfl ?_
      refine j_iadd C0 dL_law_461 ?_
      obtain ⟨h80, hf⟩ := gd_some hf
      refine j_sld C0 hX hbl hbA h80 dL_law_462 ?_
      obtain ⟨q81, hcq81, hf⟩ := bd_some hf
      refine j_callV (As := [.int (xs (y3 + (1 : Int32)).toNatClampNeg), .int (xs (y3 + (2 : Int32)).toNatClampNeg)]) (rest := []) (stk := [.int q81]) (G2 := (X.1, X.2, M)) C0 (c_X5_clockOf hi (M0 := M)  hcq81) kw_L_56 bi_X5_clockOf bx_X5_clockOf id_c0 oc_0 rfl ⟨by decide, by decide⟩ hq rfl rfl (Nat.le_of_ble_eq_true rfl) rfl rfl dL_law_463 ?_
      refine j_aload_n C0 dL_law_466 rfl 2 rfl ?_
      refine j_aload_n C0 dL_law_467 rfl 0 rfl ?_
      refine j_iload_n C0 dL_law_468 rfl 3 rfl ?_
      refine j_iconst (v := 1) C0 dL_law_469 rfl ?_
      refine j_iadd C0 dL_law_470 ?_
      obtain ⟨h82, hf⟩ := gd_some hf
      refine j_sld C0 hX hbl hbA h82 dL_law_471 ?_
      refine j_aload_n C0 dL_law_472 rfl 0 rfl ?_
      refine j_iload_n C0 dL_law_473 rfl 3 rfl ?_
      refine j_iconst (v := 2) C0 dL_law_474 rfl ?_
      refine j_iadd C0 dL_law_475 ?_
      obtain ⟨h83, hf⟩ := gd_some hf
      refine j_sld C0 hX hbl hbA h83 dL_law_476 ?_
      obtain ⟨q84, hcq84, hf⟩ := bd_some hf
      refine j_callV (As := [.int (xs (y3 + (1 : Int32)).toNatClampNeg), .int (xs (y3 + (2 : Int32)).toNatClampNeg)]) (rest := [.int q81]) (stk := [.int q84, .int q81]) (G2 := (X.1, X.2, M)) C0 (c_X6_clockOf hi (Cc := X.1) (Bb := X.2)  hcq84) kw_L_59 bi_X6_clockOf bx_X6_clockOf id_c14 oc_14 rfl ⟨by decide, by decide⟩ hq rfl rfl (Nat.le_of_ble_eq_true rfl) rfl rfl dL_law_477 ?_
      refine j_icmp_eq (tgt := 830) C0 dL_law_480 (by decide) (fun c85 => ?_) (fun c85 => ?_)
      · have hf := if_t c85 hf
        refine j_iinc (v := (y3 + 4)) (lv' := [(3, .int (y3 + 4)), (0, .ref b), (1, .ref (ad (0, 0, 0))), (2, .ref (ad (14, 0, 0)))]) C0 dL_law_830 3 rfl rfl (by decide) rfl ?_
        refine j_goto (tgt := 18) C0 dL_law_833 (by decide) ?_
        exact j_sub [1, 2, 3, 0] rfl (ih X M (y3 + 4) hf)
      have hf := if_f c85 hf
      refine j_iconst (v := 0) C0 dL_law_483 rfl ?_
      exact (none_ne hf).elim
    have hf := if_f c78 hf
    by_cases c86 : ((xs y3.toNatClampNeg) &&& (31 : Int32)) = 11
    · have hf := if_t c86 hf
      refine j_tableEq C0 11 (tgt := 485) c86 dL_law_32 (by decide) (by decide) rfl (by decide) ?_
      refine j_aload_n C0 dL_law_485 rfl 1 rfl ?_
      refine j_aload_n C0 dL_law_486 rfl 0 rfl ?_
      refine j_iload_n C0 dL_law_487 rfl 3 rfl ?_
      refine j_iconst (v := 1) C0 dL_law_488 rfl ?_
      refine j_iadd C0 dL_law_489 ?_
      obtain ⟨h87, hf⟩ := gd_some hf
      refine j_sld C0 hX hbl hbA h87 dL_law_490 ?_
      refine j_aload_n C0 dL_law_491 rfl 0 rfl ?_
      refine j_iload_n C0 dL_law_492 rfl 3 rfl ?_
      refine j_iconst (v := 2) C0 dL_law_493 rfl ?_
      refine j_iadd C0 dL_law_494 ?_
      obtain ⟨h88, hf⟩ := gd_some hf
      refine j_sld C0 hX hbl hbA h88 dL_law_495 ?_
      obtain ⟨q89, hcq89, hf⟩ := bd_some hf
      refine j_callV (As := [.int (xs (y3 + (1 : Int32)).toNatClampNeg), .int (xs (y3 + (2 : Int32)).toNatClampNeg)]) (rest := []) (stk := [.int q89]) (G2 := (X.1, X.2, M)) C0 (c_X5_hour hi (M0 := M)  hcq89) kw_L_60 bi_X5_hour bx_X5_hour id_c0 oc_0 rfl ⟨by decide, by decide⟩ hq rfl rfl (Nat.le_of_ble_eq_true rfl) rfl rfl dL_law_496 ?_
      refine j_aload_n C0 dL_law_499 rfl 2 rfl ?_
      refine j_aload_n C0 dL_law_500 rfl 0 rfl ?_
      refine j_iload_n C0 dL_law_501 rfl 3 rfl ?_
      refine j_iconst (v := 1) C0 dL_law_502 rfl ?_
      refine j_iadd C0 dL_law_503 ?_
      obtain ⟨h90, hf⟩ := gd_some hf
      refine j_sld C0 hX hbl hbA h90 dL_law_504 ?_
      refine j_aload_n C0 dL_law_505 rfl 0 rfl ?_
      refine j_iload_n C0 dL_law_506 rfl 3 rfl ?_
      refine j_iconst (v := 2) C0 dL_law_507 rfl ?_
      refine j_iadd C0 dL_law_508 ?_
      obtain ⟨h91, hf⟩ := gd_some hf
      refine j_sld C0 hX hbl hbA h91 dL_law_509 ?_
      obtain ⟨q92, hcq92, hf⟩ := bd_some hf
      refine j_callV (As := [.int (xs (y3 + (1 : Int32)).toNatClampNeg), .int (xs (y3 + (2 : Int32)).toNatClampNeg)]) (rest := [.int q89]) (stk := [.int q92, .int q89]) (G2 := (X.1, X.2, M)) C0 (c_X6_hour hi (Cc := X.1) (Bb := X.2)  hcq92) kw_L_63 bi_X6_hour bx_X6_hour id_c14 oc_14 rfl ⟨by decide, by decide⟩ hq rfl rfl (Nat.le_of_ble_eq_true rfl) rfl rfl dL_law_510 ?_
      refine j_icmp_eq (tgt := 830) C0 dL_law_513 (by decide) (fun c93 => ?_) (fun c93 => ?_)
      · have hf := if_t c93 hf
        refine j_iinc (v := (y3 + 4)) (lv' := [(3, .int (y3 + 4)), (0, .ref b), (1, .ref (ad (0, 0, 0))), (2, .ref (ad (14, 0, 0)))]) C0 dL_law_830 3 rfl rfl (by decide) rfl ?_
        refine j_goto (tgt := 18) C0 dL_law_833 (by decide) ?_
        exact j_sub [1, 2, 3, 0] rfl (ih X M (y3 + 4) hf)
      have hf := if_f c93 hf
      refine j_iconst (v := 0) C0 dL_law_516 rfl ?_
      exact (none_ne hf).elim
    have hf := if_f c86 hf
    by_cases c94 : ((xs y3.toNatClampNeg) &&& (31 : Int32)) = 12
    · have hf := if_t c94 hf
      refine j_tableEq C0 12 (tgt := 518) c94 dL_law_32 (by decide) (by decide) rfl (by decide) ?_
      refine j_aload_n C0 dL_law_518 rfl 1 rfl ?_
      refine j_aload_n C0 dL_law_519 rfl 0 rfl ?_
      refine j_iload_n C0 dL_law_520 rfl 3 rfl ?_
      refine j_iconst (v := 1) C0 dL_law_521 rfl ?_
      refine j_iadd C0 dL_law_522 ?_
      obtain ⟨h95, hf⟩ := gd_some hf
      refine j_sld C0 hX hbl hbA h95 dL_law_523 ?_
      obtain ⟨q96, hcq96, hf⟩ := bd_some hf
      refine j_callV (As := [.int (xs (y3 + (1 : Int32)).toNatClampNeg)]) (rest := []) (stk := [.int q96]) (G2 := (X.1, X.2, M)) C0 (c_X5_water hi (M0 := M)  hcq96) kw_L_64 bi_X5_water bx_X5_water id_c0 oc_0 rfl ⟨by decide, by decide⟩ hq rfl rfl (Nat.le_of_ble_eq_true rfl) rfl rfl dL_law_524 ?_
      refine j_aload_n C0 dL_law_527 rfl 2 rfl ?_
      refine j_aload_n C0 dL_law_528 rfl 0 rfl ?_
      refine j_iload_n C0 dL_law_529 rfl 3 rfl ?_
      refine j_iconst (v := 1) C0 dL_law_530 rfl ?_
      refine j_iadd C0 dL_law_531 ?_
      obtain ⟨h97, hf⟩ := gd_some hf
      refine j_sld C0 hX hbl hbA h97 dL_law_532 ?_
      obtain ⟨q98, hcq98, hf⟩ := bd_some hf
      refine j_callV (As := [.int (xs (y3 + (1 : Int32)).toNatClampNeg)]) (rest := [.int q96]) (stk := [.int q98, .int q96]) (G2 := (X.1, X.2, M)) C0 (c_X6_water hi (Cc := X.1) (Bb := X.2)  hcq98) kw_L_67 bi_X6_water bx_X6_water id_c14 oc_14 rfl ⟨by decide, by decide⟩ hq rfl rfl (Nat.le_of_ble_eq_true rfl) rfl rfl dL_law_533 ?_
      refine j_icmp_eq (tgt := 830) C0 dL_law_536 (by decide) (fun c99 => ?_) (fun c99 => ?_)
      · have hf := if_t c99 hf
        refine j_iinc (v := (y3 + 4)) (lv' := [(3, .int (y3 + 4)), (0, .ref b), (1, .ref (ad (0, 0, 0))), (2, .ref (ad (14, 0, 0)))]) C0 dL_law_830 3 rfl rfl (by decide) rfl ?_
        refine j_goto (tgt := 18) C0 dL_law_833 (by decide) ?_
        exact j_sub [1, 2, 3, 0] rfl (ih X M (y3 + 4) hf)
      have hf := if_f c99 hf
      refine j_iconst (v := 0) C0 dL_law_539 rfl ?_
      exact (none_ne hf).elim
    have hf := if_f c94 hf
    by_cases c100 : ((xs y3.toNatClampNeg) &&& (31 : Int32)) = 13
    · have hf := if_t c100 hf
      refine j_tableEq C0 13 (tgt := 541) c100 dL_law_32 (by decide) (by decide) rfl (by decide) ?_
      refine j_aload_n C0 dL_law_541 rfl 1 rfl ?_
      refine j_aload_n C0 dL_law_542 rfl 0 rfl ?_
      refine j_iload_n C0 dL_law_543 rfl 3 rfl ?_
      refine j_iconst (v := 1) C0 dL_law_544 rfl ?_
      refine j_iadd C0 dL_law_545 ?_
      obtain ⟨h101, hf⟩ := gd_some hf
      refine j_sld C0 hX hbl hbA h101 dL_law_546 ?_
      refine j_aload_n C0 dL_law_547 rfl 0 rfl ?_
      refine j_iload_n C0 dL_law_548 rfl 3 rfl ?_
      refine j_iconst (v := 2) C0 dL_law_549 rfl ?_
      refine j_iadd C0 dL_law_550 ?_
      obtain ⟨h102, hf⟩ := gd_some hf
      refine j_sld C0 hX hbl hbA h102 dL_law_551 ?_
      obtain ⟨q103, hcq103, hf⟩ := bd_some hf
      refine j_callV (As := [.int (xs (y3 + (1 : Int32)).toNatClampNeg), .int (xs (y3 + (2 : Int32)).toNatClampNeg)]) (rest := []) (stk := [.int q103]) (G2 := (X.1, X.2, M)) C0 (c_X5_noon hi (M0 := M)  hcq103) kw_L_68 bi_X5_noon bx_X5_noon id_c0 oc_0 rfl ⟨by decide, by decide⟩ hq rfl rfl (Nat.le_of_ble_eq_true rfl) rfl rfl dL_law_552 ?_
      refine j_aload_n C0 dL_law_555 rfl 2 rfl ?_
      refine j_aload_n C0 dL_law_556 rfl 0 rfl ?_
      refine j_iload_n C0 dL_law_557 rfl 3 rfl ?_
      refine j_iconst (v := 1) C0 dL_law_558 rfl ?_
      refine j_iadd C0 dL_law_559 ?_
      obtain ⟨h104, hf⟩ := gd_some hf
      refine j_sld C0 hX hbl hbA h104 dL_law_560 ?_
      refine j_aload_n C0 dL_law_561 rfl 0 rfl ?_
      refine j_iload_n C0 dL_law_562 rfl 3 rfl ?_
      refine j_iconst (v := 2) C0 dL_law_563 rfl ?_
      refine j_iadd C0 dL_law_564 ?_
      obtain ⟨h105, hf⟩ := gd_some hf
      refine j_sld C0 hX hbl hbA h105 dL_law_565 ?_
      obtain ⟨q106, hcq106, hf⟩ := bd_some hf
      refine j_callV (As := [.int (xs (y3 + (1 : Int32)).toNatClampNeg), .int (xs (y3 + (2 : Int32)).toNatClampNeg)]) (rest := [.int q103]) (stk := [.int q106, .int q103]) (G2 := (X.1, X.2, M)) C0 (c_X6_noon_ hi (Cc := X.1) (Bb := X.2)  hcq106) kw_L_71 bi_X6_noon_ bx_X6_noon_ id_c14 oc_14 rfl ⟨by decide, by decide⟩ hq rfl rfl (Nat.le_of_ble_eq_true rfl) rfl rfl dL_law_566 ?_
      refine j_icmp_eq (tgt := 830) C0 dL_law_569 (by decide) (fun c107 => ?_) (fun c107 => ?_)
      · have hf := if_t c107 hf
        refine j_iinc (v := (y3 + 4)) (lv' := [(3, .int (y3 + 4)), (0, .ref b), (1, .ref (ad (0, 0, 0))), (2, .ref (ad (14, 0, 0)))]) C0 dL_law_830 3 rfl rfl (by decide) rfl ?_
        refine j_goto (tgt := 18) C0 dL_law_833 (by decide) ?_
        exact j_sub [1, 2, 3, 0] rfl (ih X M (y3 + 4) hf)
      have hf := if_f c107 hf
      refine j_iconst (v := 0) C0 dL_law_572 rfl ?_
      exact (none_ne hf).elim
    have hf := if_f c100 hf
    by_cases c108 : ((xs y3.toNatClampNeg) &&& (31 : Int32)) = 14
    · have hf := if_t c108 hf
      refine j_tableEq C0 14 (tgt := 574) c108 dL_law_32 (by decide) (by decide) rfl (by decide) ?_
      refine j_aload_n C0 dL_law_574 rfl 1 rfl ?_
      refine j_aload_n C0 dL_law_575 rfl 0 rfl ?_
      refine j_iload_n C0 dL_law_576 rfl 3 rfl ?_
      refine j_iconst (v := 1) C0 dL_law_577 rfl ?_
      refine j_iadd C0 dL_law_578 ?_
      obtain ⟨h109, hf⟩ := gd_some hf
      refine j_sld C0 hX hbl hbA h109 dL_law_579 ?_
      refine j_aload_n C0 dL_law_580 rfl 0 rfl ?_
      refine j_iload_n C0 dL_law_581 rfl 3 rfl ?_
      refine j_iconst (v := 2) C0 dL_law_582 rfl ?_
      refine j_iadd C0 dL_law_583 ?_
      obtain ⟨h110, hf⟩ := gd_some hf
      refine j_sld C0 hX hbl hbA h110 dL_law_584 ?_
      obtain ⟨q111, hcq111, hf⟩ := bd_some hf
      refine j_callV (As := [.int (xs (y3 + (1 : Int32)).toNatClampNeg), .int (xs (y3 + (2 : Int32)).toNatClampNeg)]) (rest := []) (stk := [.int q111]) (G2 := (X.1, X.2, M)) C0 (c_X5_why hi (M0 := M)  hcq111) kw_L_72 bi_X5_why bx_X5_why id_c0 oc_0 rfl ⟨by decide, by decide⟩ hq rfl rfl (Nat.le_of_ble_eq_true rfl) rfl rfl dL_law_585 ?_
      refine j_aload_n C0 dL_law_588 rfl 2 rfl ?_
      refine j_aload_n C0 dL_law_589 rfl 0 rfl ?_
      refine j_iload_n C0 dL_law_590 rfl 3 rfl ?_
      refine j_iconst (v := 1) C0 dL_law_591 rfl ?_
      refine j_iadd C0 dL_law_592 ?_
      obtain ⟨h112, hf⟩ := gd_some hf
      refine j_sld C0 hX hbl hbA h112 dL_law_593 ?_
      refine j_aload_n C0 dL_law_594 rfl 0 rfl ?_
      refine j_iload_n C0 dL_law_595 rfl 3 rfl ?_
      refine j_iconst (v := 2) C0 dL_law_596 rfl ?_
      refine j_iadd C0 dL_law_597 ?_
      obtain ⟨h113, hf⟩ := gd_some hf
      refine j_sld C0 hX hbl hbA h113 dL_law_598 ?_
      obtain ⟨q114, hcq114, hf⟩ := bd_some hf
      refine j_callV (As := [.int (xs (y3 + (1 : Int32)).toNatClampNeg), .int (xs (y3 + (2 : Int32)).toNatClampNeg)]) (rest := [.int q111]) (stk := [.int q114, .int q111]) (G2 := (X.1, X.2, M)) C0 (c_X6_why hi (Cc := X.1) (Bb := X.2)  hcq114) kw_L_75 bi_X6_why bx_X6_why id_c14 oc_14 rfl ⟨by decide, by decide⟩ hq rfl rfl (Nat.le_of_ble_eq_true rfl) rfl rfl dL_law_599 ?_
      refine j_icmp_eq (tgt := 830) C0 dL_law_602 (by decide) (fun c115 => ?_) (fun c115 => ?_)
      · have hf := if_t c115 hf
        refine j_iinc (v := (y3 + 4)) (lv' := [(3, .int (y3 + 4)), (0, .ref b), (1, .ref (ad (0, 0, 0))), (2, .ref (ad (14, 0, 0)))]) C0 dL_law_830 3 rfl rfl (by decide) rfl ?_
        refine j_goto (tgt := 18) C0 dL_law_833 (by decide) ?_
        exact j_sub [1, 2, 3, 0] rfl (ih X M (y3 + 4) hf)
      have hf := if_f c115 hf
      refine j_iconst (v := 0) C0 dL_law_605 rfl ?_
      exact (none_ne hf).elim
    have hf := if_f c108 hf
    by_cases c116 : ((xs y3.toNatClampNeg) &&& (31 : Int32)) = 15
    · have hf := if_t c116 hf
      refine j_tableEq C0 15 (tgt := 607) c116 dL_law_32 (by decide) (by decide) rfl (by decide) ?_
      refine j_aload_n C0 dL_law_607 rfl 1 rfl ?_
      refine j_aload_n C0 dL_law_608 rfl 0 rfl ?_
      refine j_iload_n C0 dL_law_609 rfl 3 rfl ?_
      refine j_iconst (v := 1) C0 dL_law_610 rfl ?_
      refine j_iadd C0 dL_law_611 ?_
      obtain ⟨h117, hf⟩ := gd_some hf
      refine j_sld C0 hX hbl hbA h117 dL_law_612 ?_
      obtain ⟨q118, hcq118, hf⟩ := bd_some hf
      refine j_callV (As := [.int (xs (y3 + (1 : Int32)).toNatClampNeg)]) (rest := []) (stk := [.int q118.1]) (G2 := (q118.2.1, q118.2.2, M)) C0 (c_X5_emptyIn hi (M0 := M)  hcq118) kw_L_76 bi_X5_emptyIn bx_X5_emptyIn id_c0 oc_0 rfl ⟨by decide, by decide⟩ hq rfl rfl (Nat.le_of_ble_eq_true rfl) rfl rfl dL_law_613 ?_
      refine j_aload_n C0 dL_law_616 rfl 2 rfl ?_
      refine j_aload_n C0 dL_law_617 rfl 0 rfl ?_
      refine j_iload_n C0 dL_law_618 rfl 3 rfl ?_
      refine j_iconst (v := 1) C0 dL_law_619 rfl ?_
      refine j_iadd C0 dL_law_620 ?_
      obtain ⟨h119, hf⟩ := gd_some hf
      refine j_sld C0 hX hbl hbA h119 dL_law_621 ?_
      obtain ⟨q120, hcq120, hf⟩ := bd_some hf
      refine j_callV (As := [.int (xs (y3 + (1 : Int32)).toNatClampNeg)]) (rest := [.int q118.1]) (stk := [.int q120.1, .int q118.1]) (G2 := (q118.2.1, q118.2.2, q120.2)) C0 (c_X6_emptyIn hi (Cc := q118.2.1) (Bb := q118.2.2)  hcq120) kw_L_79 bi_X6_emptyIn bx_X6_emptyIn id_c14 oc_14 rfl ⟨by decide, by decide⟩ hq rfl rfl (Nat.le_of_ble_eq_true rfl) rfl rfl dL_law_622 ?_
      refine j_icmp_eq (tgt := 830) C0 dL_law_625 (by decide) (fun c121 => ?_) (fun c121 => ?_)
      · have hf := if_t c121 hf
        refine j_iinc (v := (y3 + 4)) (lv' := [(3, .int (y3 + 4)), (0, .ref b), (1, .ref (ad (0, 0, 0))), (2, .ref (ad (14, 0, 0)))]) C0 dL_law_830 3 rfl rfl (by decide) rfl ?_
        refine j_goto (tgt := 18) C0 dL_law_833 (by decide) ?_
        exact j_sub [1, 2, 3, 0] rfl (ih q118.2 q120.2 (y3 + 4) hf)
      have hf := if_f c121 hf
      refine j_iconst (v := 0) C0 dL_law_628 rfl ?_
      exact (none_ne hf).elim
    have hf := if_f c116 hf
    by_cases c122 : ((xs y3.toNatClampNeg) &&& (31 : Int32)) = 16
    · have hf := if_t c122 hf
      refine j_tableEq C0 16 (tgt := 630) c122 dL_law_32 (by decide) (by decide) rfl (by decide) ?_
      refine j_aload_n C0 dL_law_630 rfl 1 rfl ?_
      refine j_aload_n C0 dL_law_631 rfl 0 rfl ?_
      refine j_iload_n C0 dL_law_632 rfl 3 rfl ?_
      refine j_iconst (v := 1) C0 dL_law_633 rfl ?_
      refine j_iadd C0 dL_law_634 ?_
      obtain ⟨h123, hf⟩ := gd_some hf
      refine j_sld C0 hX hbl hbA h123 dL_law_635 ?_
      obtain ⟨q124, hcq124, hf⟩ := bd_some hf
      refine j_callV (As := [.int (xs (y3 + (1 : Int32)).toNatClampNeg)]) (rest := []) (stk := [.int q124.1]) (G2 := (q124.2.1, q124.2.2, M)) C0 (c_X5_noonError hi (M0 := M)  hcq124) kw_L_80 bi_X5_noonError bx_X5_noonError id_c0 oc_0 rfl ⟨by decide, by decide⟩ hq rfl rfl (Nat.le_of_ble_eq_true rfl) rfl rfl dL_law_636 ?_
      refine j_aload_n C0 dL_law_639 rfl 2 rfl ?_
      refine j_aload_n C0 dL_law_640 rfl 0 rfl ?_
      refine j_iload_n C0 dL_law_641 rfl 3 rfl ?_
      refine j_iconst (v := 1) C0 dL_law_642 rfl ?_
      refine j_iadd C0 dL_law_643 ?_
      obtain ⟨h125, hf⟩ := gd_some hf
      refine j_sld C0 hX hbl hbA h125 dL_law_644 ?_
      obtain ⟨q126, hcq126, hf⟩ := bd_some hf
      refine j_callV (As := [.int (xs (y3 + (1 : Int32)).toNatClampNeg)]) (rest := [.int q124.1]) (stk := [.int q126.1, .int q124.1]) (G2 := (q124.2.1, q124.2.2, q126.2)) C0 (c_X6_noonError hi (Cc := q124.2.1) (Bb := q124.2.2)  hcq126) kw_L_83 bi_X6_noonError bx_X6_noonError id_c14 oc_14 rfl ⟨by decide, by decide⟩ hq rfl rfl (Nat.le_of_ble_eq_true rfl) rfl rfl dL_law_645 ?_
      refine j_icmp_eq (tgt := 830) C0 dL_law_648 (by decide) (fun c127 => ?_) (fun c127 => ?_)
      · have hf := if_t c127 hf
        refine j_iinc (v := (y3 + 4)) (lv' := [(3, .int (y3 + 4)), (0, .ref b), (1, .ref (ad (0, 0, 0))), (2, .ref (ad (14, 0, 0)))]) C0 dL_law_830 3 rfl rfl (by decide) rfl ?_
        refine j_goto (tgt := 18) C0 dL_law_833 (by decide) ?_
        exact j_sub [1, 2, 3, 0] rfl (ih q124.2 q126.2 (y3 + 4) hf)
      have hf := if_f c127 hf
      refine j_iconst (v := 0) C0 dL_law_651 rfl ?_
      exact (none_ne hf).elim
    have hf := if_f c122 hf
    by_cases c128 : ((xs y3.toNatClampNeg) &&& (31 : Int32)) = 17
    · have hf := if_t c128 hf
      refine j_tableEq C0 17 (tgt := 653) c128 dL_law_32 (by decide) (by decide) rfl (by decide) ?_
      refine j_aload_n C0 dL_law_653 rfl 1 rfl ?_
      refine j_aload_n C0 dL_law_654 rfl 0 rfl ?_
      refine j_iload_n C0 dL_law_655 rfl 3 rfl ?_
      refine j_iconst (v := 1) C0 dL_law_656 rfl ?_
      refine j_iadd C0 dL_law_657 ?_
      obtain ⟨h129, hf⟩ := gd_some hf
      refine j_sld C0 hX hbl hbA h129 dL_law_658 ?_
      refine j_aload_n C0 dL_law_659 rfl 0 rfl ?_
      refine j_iload_n C0 dL_law_660 rfl 3 rfl ?_
      refine j_iconst (v := 2) C0 dL_law_661 rfl ?_
      refine j_iadd C0 dL_law_662 ?_
      obtain ⟨h130, hf⟩ := gd_some hf
      refine j_sld C0 hX hbl hbA h130 dL_law_663 ?_
      obtain ⟨q131, hcq131, hf⟩ := bd_some hf
      refine j_callV (As := [.int (xs (y3 + (1 : Int32)).toNatClampNeg), .int (xs (y3 + (2 : Int32)).toNatClampNeg)]) (rest := []) (stk := [.int q131.1]) (G2 := (q131.2.1, q131.2.2, M)) C0 (c_X5_bestWax hi (M0 := M)  hcq131) kw_L_84 bi_X5_bestWax bx_X5_bestWax id_c0 oc_0 rfl ⟨by decide, by decide⟩ hq rfl rfl (Nat.le_of_ble_eq_true rfl) rfl rfl dL_law_664 ?_
      refine j_aload_n C0 dL_law_667 rfl 2 rfl ?_
      refine j_aload_n C0 dL_law_668 rfl 0 rfl ?_
      refine j_iload_n C0 dL_law_669 rfl 3 rfl ?_
      refine j_iconst (v := 1) C0 dL_law_670 rfl ?_
      refine j_iadd C0 dL_law_671 ?_
      obtain ⟨h132, hf⟩ := gd_some hf
      refine j_sld C0 hX hbl hbA h132 dL_law_672 ?_
      refine j_aload_n C0 dL_law_673 rfl 0 rfl ?_
      refine j_iload_n C0 dL_law_674 rfl 3 rfl ?_
      refine j_iconst (v := 2) C0 dL_law_675 rfl ?_
      refine j_iadd C0 dL_law_676 ?_
      obtain ⟨h133, hf⟩ := gd_some hf
      refine j_sld C0 hX hbl hbA h133 dL_law_677 ?_
      obtain ⟨q134, hcq134, hf⟩ := bd_some hf
      refine j_callV (As := [.int (xs (y3 + (1 : Int32)).toNatClampNeg), .int (xs (y3 + (2 : Int32)).toNatClampNeg)]) (rest := [.int q131.1]) (stk := [.int q134.1, .int q131.1]) (G2 := (q131.2.1, q131.2.2, q134.2)) C0 (c_X6_bestWax hi (Cc := q131.2.1) (Bb := q131.2.2)  hcq134) kw_L_87 bi_X6_bestWax bx_X6_bestWax id_c14 oc_14 rfl ⟨by decide, by decide⟩ hq rfl rfl (Nat.le_of_ble_eq_true rfl) rfl rfl dL_law_678 ?_
      refine j_icmp_eq (tgt := 830) C0 dL_law_681 (by decide) (fun c135 => ?_) (fun c135 => ?_)
      · have hf := if_t c135 hf
        refine j_iinc (v := (y3 + 4)) (lv' := [(3, .int (y3 + 4)), (0, .ref b), (1, .ref (ad (0, 0, 0))), (2, .ref (ad (14, 0, 0)))]) C0 dL_law_830 3 rfl rfl (by decide) rfl ?_
        refine j_goto (tgt := 18) C0 dL_law_833 (by decide) ?_
        exact j_sub [1, 2, 3, 0] rfl (ih q131.2 q134.2 (y3 + 4) hf)
      have hf := if_f c135 hf
      refine j_iconst (v := 0) C0 dL_law_684 rfl ?_
      exact (none_ne hf).elim
    have hf := if_f c128 hf
    by_cases c136 : ((xs y3.toNatClampNeg) &&& (31 : Int32)) = 18
    · have hf := if_t c136 hf
      refine j_tableEq C0 18 (tgt := 686) c136 dL_law_32 (by decide) (by decide) rfl (by decide) ?_
      refine j_aload_n C0 dL_law_686 rfl 1 rfl ?_
      refine j_aload_n C0 dL_law_687 rfl 0 rfl ?_
      refine j_iload_n C0 dL_law_688 rfl 3 rfl ?_
      refine j_iconst (v := 1) C0 dL_law_689 rfl ?_
      refine j_iadd C0 dL_law_690 ?_
      obtain ⟨h137, hf⟩ := gd_some hf
      refine j_sld C0 hX hbl hbA h137 dL_law_691 ?_
      obtain ⟨q138, hcq138, hf⟩ := bd_some hf
      refine j_callV (As := [.int (xs (y3 + (1 : Int32)).toNatClampNeg)]) (rest := []) (stk := [.int q138]) (G2 := (X.1, X.2, M)) C0 (c_X5_worst hi (M0 := M)  hcq138) kw_L_88 bi_X5_worst bx_X5_worst id_c0 oc_0 rfl ⟨by decide, by decide⟩ hq rfl rfl (Nat.le_of_ble_eq_true rfl) rfl rfl dL_law_692 ?_
      refine j_aload_n C0 dL_law_695 rfl 2 rfl ?_
      refine j_aload_n C0 dL_law_696 rfl 0 rfl ?_
      refine j_iload_n C0 dL_law_697 rfl 3 rfl ?_
      refine j_iconst (v := 1) C0 dL_law_698 rfl ?_
      refine j_iadd C0 dL_law_699 ?_
      obtain ⟨h139, hf⟩ := gd_some hf
      refine j_sld C0 hX hbl hbA h139 dL_law_700 ?_
      obtain ⟨q140, hcq140, hf⟩ := bd_some hf
      refine j_callV (As := [.int (xs (y3 + (1 : Int32)).toNatClampNeg)]) (rest := [.int q138]) (stk := [.int q140, .int q138]) (G2 := (X.1, X.2, M)) C0 (c_X6_worst hi (Cc := X.1) (Bb := X.2)  hcq140) kw_L_91 bi_X6_worst bx_X6_worst id_c14 oc_14 rfl ⟨by decide, by decide⟩ hq rfl rfl (Nat.le_of_ble_eq_true rfl) rfl rfl dL_law_701 ?_
      refine j_icmp_eq (tgt := 830) C0 dL_law_704 (by decide) (fun c141 => ?_) (fun c141 => ?_)
      · have hf := if_t c141 hf
        refine j_iinc (v := (y3 + 4)) (lv' := [(3, .int (y3 + 4)), (0, .ref b), (1, .ref (ad (0, 0, 0))), (2, .ref (ad (14, 0, 0)))]) C0 dL_law_830 3 rfl rfl (by decide) rfl ?_
        refine j_goto (tgt := 18) C0 dL_law_833 (by decide) ?_
        exact j_sub [1, 2, 3, 0] rfl (ih X M (y3 + 4) hf)
      have hf := if_f c141 hf
      refine j_iconst (v := 0) C0 dL_law_707 rfl ?_
      exact (none_ne hf).elim
    have hf := if_f c136 hf
    by_cases c142 : ((xs y3.toNatClampNeg) &&& (31 : Int32)) = 19
    · have hf := if_t c142 hf
      refine j_tableEq C0 19 (tgt := 709) c142 dL_law_32 (by decide) (by decide) rfl (by decide) ?_
      refine j_aload_n C0 dL_law_709 rfl 1 rfl ?_
      obtain ⟨q143, hcq143, hf⟩ := bd_some hf
      refine j_callV (As := []) (rest := []) (stk := [.int q143]) (G2 := (X.1, X.2, M)) C0 (c_X5_mean hi (M0 := M)  hcq143) kw_L_92 bi_X5_mean bx_X5_mean id_c0 oc_0 rfl ⟨by decide, by decide⟩ hq rfl rfl (Nat.le_of_ble_eq_true rfl) rfl rfl dL_law_710 ?_
      refine j_aload_n C0 dL_law_713 rfl 2 rfl ?_
      obtain ⟨q144, hcq144, hf⟩ := bd_some hf
      refine j_callV (As := []) (rest := [.int q143]) (stk := [.int q144, .int q143]) (G2 := (X.1, X.2, M)) C0 (c_X6_mean hi (Cc := X.1) (Bb := X.2)  hcq144) kw_L_96 bi_X6_mean bx_X6_mean id_c14 oc_14 rfl ⟨by decide, by decide⟩ hq rfl rfl (Nat.le_of_ble_eq_true rfl) rfl rfl dL_law_714 ?_
      refine j_icmp_eq (tgt := 830) C0 dL_law_717 (by decide) (fun c145 => ?_) (fun c145 => ?_)
      · have hf := if_t c145 hf
        refine j_iinc (v := (y3 + 4)) (lv' := [(3, .int (y3 + 4)), (0, .ref b), (1, .ref (ad (0, 0, 0))), (2, .ref (ad (14, 0, 0)))]) C0 dL_law_830 3 rfl rfl (by decide) rfl ?_
        refine j_goto (tgt := 18) C0 dL_law_833 (by decide) ?_
        exact j_sub [1, 2, 3, 0] rfl (ih X M (y3 + 4) hf)
      have hf := if_f c145 hf
      refine j_iconst (v := 0) C0 dL_law_720 rfl ?_
      exact (none_ne hf).elim
    have hf := if_f c142 hf
    by_cases c146 : ((xs y3.toNatClampNeg) &&& (31 : Int32)) = 20
    · have hf := if_t c146 hf
      refine j_tableEq C0 20 (tgt := 722) c146 dL_law_32 (by decide) (by decide) rfl (by decide) ?_
      refine j_aload_n C0 dL_law_722 rfl 1 rfl ?_
      refine j_aload_n C0 dL_law_723 rfl 0 rfl ?_
      refine j_iload_n C0 dL_law_724 rfl 3 rfl ?_
      refine j_iconst (v := 1) C0 dL_law_725 rfl ?_
      refine j_iadd C0 dL_law_726 ?_
      obtain ⟨h147, hf⟩ := gd_some hf
      refine j_sld C0 hX hbl hbA h147 dL_law_727 ?_
      obtain ⟨q148, hcq148, hf⟩ := bd_some hf
      refine j_callV (As := [.int (xs (y3 + (1 : Int32)).toNatClampNeg)]) (rest := []) (stk := [.int q148]) (G2 := (X.1, X.2, M)) C0 (c_X5_count hi (M0 := M)  hcq148) kw_L_97 bi_X5_count bx_X5_count id_c0 oc_0 rfl ⟨by decide, by decide⟩ hq rfl rfl (Nat.le_of_ble_eq_true rfl) rfl rfl dL_law_728 ?_
      refine j_aload_n C0 dL_law_731 rfl 2 rfl ?_
      refine j_aload_n C0 dL_law_732 rfl 0 rfl ?_
      refine j_iload_n C0 dL_law_733 rfl 3 rfl ?_
      refine j_iconst (v := 1) C0 dL_law_734 rfl ?_
      refine j_iadd C0 dL_law_735 ?_
      obtain ⟨h149, hf⟩ := gd_some hf
      refine j_sld C0 hX hbl hbA h149 dL_law_736 ?_
      obtain ⟨q150, hcq150, hf⟩ := bd_some hf
      refine j_callV (As := [.int (xs (y3 + (1 : Int32)).toNatClampNeg)]) (rest := [.int q148]) (stk := [.int q150, .int q148]) (G2 := (X.1, X.2, M)) C0 (c_X6_count hi (Cc := X.1) (Bb := X.2)  hcq150) kw_L_100 bi_X6_count bx_X6_count id_c14 oc_14 rfl ⟨by decide, by decide⟩ hq rfl rfl (Nat.le_of_ble_eq_true rfl) rfl rfl dL_law_737 ?_
      refine j_icmp_eq (tgt := 830) C0 dL_law_740 (by decide) (fun c151 => ?_) (fun c151 => ?_)
      · have hf := if_t c151 hf
        refine j_iinc (v := (y3 + 4)) (lv' := [(3, .int (y3 + 4)), (0, .ref b), (1, .ref (ad (0, 0, 0))), (2, .ref (ad (14, 0, 0)))]) C0 dL_law_830 3 rfl rfl (by decide) rfl ?_
        refine j_goto (tgt := 18) C0 dL_law_833 (by decide) ?_
        exact j_sub [1, 2, 3, 0] rfl (ih X M (y3 + 4) hf)
      have hf := if_f c151 hf
      refine j_iconst (v := 0) C0 dL_law_743 rfl ?_
      exact (none_ne hf).elim
    have hf := if_f c146 hf
    by_cases c152 : ((xs y3.toNatClampNeg) &&& (31 : Int32)) = 21
    · have hf := if_t c152 hf
      refine j_tableEq C0 21 (tgt := 745) c152 dL_law_32 (by decide) (by decide) rfl (by decide) ?_
      refine j_aload_n C0 dL_law_745 rfl 1 rfl ?_
      obtain ⟨q153, hcq153, hf⟩ := bd_some hf
      refine j_callV (As := []) (rest := []) (stk := [.int q153.1]) (G2 := (q153.2.1, q153.2.2, M)) C0 (c_X5_undo hi (M0 := M)  hcq153) kw_L_101 bi_X5_undo bx_X5_undo id_c0 oc_0 rfl ⟨by decide, by decide⟩ hq rfl rfl (Nat.le_of_ble_eq_true rfl) rfl rfl dL_law_746 ?_
      refine j_aload_n C0 dL_law_749 rfl 2 rfl ?_
      obtain ⟨q154, hcq154, hf⟩ := bd_some hf
      refine j_callV (As := []) (rest := [.int q153.1]) (stk := [.int q154.1, .int q153.1]) (G2 := (q153.2.1, q153.2.2, q154.2)) C0 (c_X6_undo hi (Cc := q153.2.1) (Bb := q153.2.2)  hcq154) kw_L_104 bi_X6_undo bx_X6_undo id_c14 oc_14 rfl ⟨by decide, by decide⟩ hq rfl rfl (Nat.le_of_ble_eq_true rfl) rfl rfl dL_law_750 ?_
      refine j_icmp_eq (tgt := 830) C0 dL_law_753 (by decide) (fun c155 => ?_) (fun c155 => ?_)
      · have hf := if_t c155 hf
        refine j_iinc (v := (y3 + 4)) (lv' := [(3, .int (y3 + 4)), (0, .ref b), (1, .ref (ad (0, 0, 0))), (2, .ref (ad (14, 0, 0)))]) C0 dL_law_830 3 rfl rfl (by decide) rfl ?_
        refine j_goto (tgt := 18) C0 dL_law_833 (by decide) ?_
        exact j_sub [1, 2, 3, 0] rfl (ih q153.2 q154.2 (y3 + 4) hf)
      have hf := if_f c155 hf
      refine j_iconst (v := 0) C0 dL_law_756 rfl ?_
      exact (none_ne hf).elim
    have hf := if_f c152 hf
    by_cases c156 : ((xs y3.toNatClampNeg) &&& (31 : Int32)) = 22
    · have hf := if_t c156 hf
      refine j_tableEq C0 22 (tgt := 758) c156 dL_law_32 (by decide) (by decide) rfl (by decide) ?_
      refine j_aload_n C0 dL_law_758 rfl 1 rfl ?_
      refine j_aload_n C0 dL_law_759 rfl 0 rfl ?_
      refine j_iload_n C0 dL_law_760 rfl 3 rfl ?_
      refine j_iconst (v := 1) C0 dL_law_761 rfl ?_
      refine j_iadd C0 dL_law_762 ?_
      obtain ⟨h157, hf⟩ := gd_some hf
      refine j_sld C0 hX hbl hbA h157 dL_law_763 ?_
      obtain ⟨q158, hcq158, hf⟩ := bd_some hf
      refine j_callV (As := [.int (xs (y3 + (1 : Int32)).toNatClampNeg)]) (rest := []) (stk := [.int q158.1]) (G2 := (q158.2.1, q158.2.2, M)) C0 (c_X5_type hi (M0 := M)  hcq158) kw_L_105 bi_X5_type bx_X5_type id_c0 oc_0 rfl ⟨by decide, by decide⟩ hq rfl rfl (Nat.le_of_ble_eq_true rfl) rfl rfl dL_law_764 ?_
      refine j_aload_n C0 dL_law_767 rfl 2 rfl ?_
      refine j_aload_n C0 dL_law_768 rfl 0 rfl ?_
      refine j_iload_n C0 dL_law_769 rfl 3 rfl ?_
      refine j_iconst (v := 1) C0 dL_law_770 rfl ?_
      refine j_iadd C0 dL_law_771 ?_
      obtain ⟨h159, hf⟩ := gd_some hf
      refine j_sld C0 hX hbl hbA h159 dL_law_772 ?_
      obtain ⟨q160, hcq160, hf⟩ := bd_some hf
      refine j_callV (As := [.int (xs (y3 + (1 : Int32)).toNatClampNeg)]) (rest := [.int q158.1]) (stk := [.int q160.1, .int q158.1]) (G2 := (q158.2.1, q158.2.2, q160.2)) C0 (c_X6_type hi (Cc := q158.2.1) (Bb := q158.2.2)  hcq160) kw_L_108 bi_X6_type bx_X6_type id_c14 oc_14 rfl ⟨by decide, by decide⟩ hq rfl rfl (Nat.le_of_ble_eq_true rfl) rfl rfl dL_law_773 ?_
      refine j_icmp_eq (tgt := 830) C0 dL_law_776 (by decide) (fun c161 => ?_) (fun c161 => ?_)
      · have hf := if_t c161 hf
        refine j_iinc (v := (y3 + 4)) (lv' := [(3, .int (y3 + 4)), (0, .ref b), (1, .ref (ad (0, 0, 0))), (2, .ref (ad (14, 0, 0)))]) C0 dL_law_830 3 rfl rfl (by decide) rfl ?_
        refine j_goto (tgt := 18) C0 dL_law_833 (by decide) ?_
        exact j_sub [1, 2, 3, 0] rfl (ih q158.2 q160.2 (y3 + 4) hf)
      have hf := if_f c161 hf
      refine j_iconst (v := 0) C0 dL_law_779 rfl ?_
      exact (none_ne hf).elim
    have hf := if_f c156 hf
    by_cases c162 : ((xs y3.toNatClampNeg) &&& (31 : Int32)) = 23
    · have hf := if_t c162 hf
      refine j_tableEq C0 23 (tgt := 781) c162 dL_law_32 (by decide) (by decide) rfl (by decide) ?_
      refine j_aload_n C0 dL_law_781 rfl 1 rfl ?_
      obtain ⟨q163, hcq163, hf⟩ := bd_some hf
      refine j_callV (As := []) (rest := []) (stk := [.int q163.1]) (G2 := (q163.2.1, q163.2.2, M)) C0 (c_X5_clearText hi (M0 := M)  hcq163) kw_L_109 bi_X5_clearText bx_X5_clearText id_c0 oc_0 rfl ⟨by decide, by decide⟩ hq rfl rfl (Nat.le_of_ble_eq_true rfl) rfl rfl dL_law_782 ?_
      refine j_aload_n C0 dL_law_785 rfl 2 rfl ?_
      obtain ⟨q164, hcq164, hf⟩ := bd_some hf
      refine j_callV (As := []) (rest := [.int q163.1]) (stk := [.int q164.1, .int q163.1]) (G2 := (q163.2.1, q163.2.2, q164.2)) C0 (c_X6_clearText hi (Cc := q163.2.1) (Bb := q163.2.2)  hcq164) kw_L_112 bi_X6_clearText bx_X6_clearText id_c14 oc_14 rfl ⟨by decide, by decide⟩ hq rfl rfl (Nat.le_of_ble_eq_true rfl) rfl rfl dL_law_786 ?_
      refine j_icmp_eq (tgt := 830) C0 dL_law_789 (by decide) (fun c165 => ?_) (fun c165 => ?_)
      · have hf := if_t c165 hf
        refine j_iinc (v := (y3 + 4)) (lv' := [(3, .int (y3 + 4)), (0, .ref b), (1, .ref (ad (0, 0, 0))), (2, .ref (ad (14, 0, 0)))]) C0 dL_law_830 3 rfl rfl (by decide) rfl ?_
        refine j_goto (tgt := 18) C0 dL_law_833 (by decide) ?_
        exact j_sub [1, 2, 3, 0] rfl (ih q163.2 q164.2 (y3 + 4) hf)
      have hf := if_f c165 hf
      refine j_iconst (v := 0) C0 dL_law_792 rfl ?_
      exact (none_ne hf).elim
    have hf := if_f c162 hf
    by_cases c166 : ((xs y3.toNatClampNeg) &&& (31 : Int32)) = 24
    · have hf := if_t c166 hf
      refine j_tableEq C0 24 (tgt := 794) c166 dL_law_32 (by decide) (by decide) rfl (by decide) ?_
      refine j_aload_n C0 dL_law_794 rfl 1 rfl ?_
      refine j_aload_n C0 dL_law_795 rfl 0 rfl ?_
      refine j_iload_n C0 dL_law_796 rfl 3 rfl ?_
      refine j_iconst (v := 1) C0 dL_law_797 rfl ?_
      refine j_iadd C0 dL_law_798 ?_
      obtain ⟨h167, hf⟩ := gd_some hf
      refine j_sld C0 hX hbl hbA h167 dL_law_799 ?_
      obtain ⟨q168, hcq168, hf⟩ := bd_some hf
      refine j_callV (As := [.int (xs (y3 + (1 : Int32)).toNatClampNeg)]) (rest := []) (stk := [.int q168.1]) (G2 := (q168.2.1, q168.2.2, M)) C0 (c_X5_fault hi (M0 := M)  hcq168) kw_L_113 bi_X5_fault bx_X5_fault id_c0 oc_0 rfl ⟨by decide, by decide⟩ hq rfl rfl (Nat.le_of_ble_eq_true rfl) rfl rfl dL_law_800 ?_
      refine j_aload_n C0 dL_law_803 rfl 2 rfl ?_
      refine j_aload_n C0 dL_law_804 rfl 0 rfl ?_
      refine j_iload_n C0 dL_law_805 rfl 3 rfl ?_
      refine j_iconst (v := 1) C0 dL_law_806 rfl ?_
      refine j_iadd C0 dL_law_807 ?_
      obtain ⟨h169, hf⟩ := gd_some hf
      refine j_sld C0 hX hbl hbA h169 dL_law_808 ?_
      obtain ⟨q170, hcq170, hf⟩ := bd_some hf
      refine j_callV (As := [.int (xs (y3 + (1 : Int32)).toNatClampNeg)]) (rest := [.int q168.1]) (stk := [.int q170.1, .int q168.1]) (G2 := (q168.2.1, q168.2.2, q170.2)) C0 (c_X6_fault hi (Cc := q168.2.1) (Bb := q168.2.2)  hcq170) kw_L_116 bi_X6_fault bx_X6_fault id_c14 oc_14 rfl ⟨by decide, by decide⟩ hq rfl rfl (Nat.le_of_ble_eq_true rfl) rfl rfl dL_law_809 ?_
      refine j_icmp_eq (tgt := 830) C0 dL_law_812 (by decide) (fun c171 => ?_) (fun c171 => ?_)
      · have hf := if_t c171 hf
        refine j_iinc (v := (y3 + 4)) (lv' := [(3, .int (y3 + 4)), (0, .ref b), (1, .ref (ad (0, 0, 0))), (2, .ref (ad (14, 0, 0)))]) C0 dL_law_830 3 rfl rfl (by decide) rfl ?_
        refine j_goto (tgt := 18) C0 dL_law_833 (by decide) ?_
        exact j_sub [1, 2, 3, 0] rfl (ih q168.2 q170.2 (y3 + 4) hf)
      have hf := if_f c171 hf
      refine j_iconst (v := 0) C0 dL_law_815 rfl ?_
      exact (none_ne hf).elim
    have hf := if_f c166 hf
    by_cases c172 : ((xs y3.toNatClampNeg) &&& (31 : Int32)) = 25
    · have hf := if_t c172 hf
      refine j_tableEq C0 25 (tgt := 817) c172 dL_law_32 (by decide) (by decide) rfl (by decide) ?_
      refine j_aload_n C0 dL_law_817 rfl 1 rfl ?_
      obtain ⟨q173, hcq173, hf⟩ := bd_some hf
      refine j_callV (As := []) (rest := []) (stk := [.int q173.1]) (G2 := (q173.2.1, q173.2.2, M)) C0 (c_X5_play hi (M0 := M)  hcq173) kw_L_117 bi_X5_play bx_X5_play id_c0 oc_0 rfl ⟨by decide, by decide⟩ hq rfl rfl (Nat.le_of_ble_eq_true rfl) rfl rfl dL_law_818 ?_
      refine j_aload_n C0 dL_law_821 rfl 2 rfl ?_
      obtain ⟨q174, hcq174, hf⟩ := bd_some hf
      refine j_callV (As := []) (rest := [.int q173.1]) (stk := [.int q174.1, .int q173.1]) (G2 := (q173.2.1, q173.2.2, q174.2)) C0 (c_X6_play hi (Cc := q173.2.1) (Bb := q173.2.2)  hcq174) kw_L_120 bi_X6_play bx_X6_play id_c14 oc_14 rfl ⟨by decide, by decide⟩ hq rfl rfl (Nat.le_of_ble_eq_true rfl) rfl rfl dL_law_822 ?_
      refine j_icmp_eq (tgt := 830) C0 dL_law_825 (by decide) (fun c175 => ?_) (fun c175 => ?_)
      · have hf := if_t c175 hf
        refine j_iinc (v := (y3 + 4)) (lv' := [(3, .int (y3 + 4)), (0, .ref b), (1, .ref (ad (0, 0, 0))), (2, .ref (ad (14, 0, 0)))]) C0 dL_law_830 3 rfl rfl (by decide) rfl ?_
        refine j_goto (tgt := 18) C0 dL_law_833 (by decide) ?_
        exact j_sub [1, 2, 3, 0] rfl (ih q173.2 q174.2 (y3 + 4) hf)
      have hf := if_f c175 hf
      refine j_iconst (v := 0) C0 dL_law_828 rfl ?_
      exact (none_ne hf).elim
    have hf := if_f c172 hf
    exact (none_ne hf).elim
