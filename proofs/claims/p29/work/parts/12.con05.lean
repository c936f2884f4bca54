set_option maxHeartbeats 4000000 in
set_option maxRecDepth 100000 in
theorem c_L_areNumbers {l : Launch} {D : va_G} {ca : Nat → ClassId} {ad : I3 → Nat} (hi : adI ad) {X : XS} {M : Nat → Nat → Int32} {r0 : Int32}  (hf : fL_areNumbers X M = some (r0)) : MT l D ca ad yL_areNumbers cL_areNumbers 12 (some .boolean) 7 153 [.ref (ad (0, 0, 0)), .ref (ad (14, 0, 0)), .ref (ad (14, 1, 0)), .ref (ad (14, 2, 0)), .ref (ad (14, 3, 0))] (X.1, X.2, M) (some (.int r0)) (X.1, X.2, M) := by
  refine met_J (lv := [(0, .ref (ad (0, 0, 0))), (1, .ref (ad (14, 0, 0))), (2, .ref (ad (14, 1, 0))), (3, .ref (ad (14, 2, 0))), (4, .ref (ad (14, 3, 0)))]) hi (by decide +kernel) (Nat.le_of_ble_eq_true rfl) rfl (fun p e s m below meth c C0 hr => ?_)
  have L577 : ∀ (n : Nat) (X : XS) (M : Nat → Nat → Int32) (y8 : Int32) (y9 : Int32), fL_areNumbers_L577 n X M y8 y9 = some (r0) → J D ca ad p l e ({ frames := 7, cells := 0, slots := 0, locals := 153 }) s m [.ref (ad (0, 0, 0)), .ref (ad (14, 0, 0)), .ref (ad (14, 1, 0)), .ref (ad (14, 2, 0)), .ref (ad (14, 3, 0))].toArray below meth c 0 0 (MQ below (post D ca ad (some (.int r0)) (X.1, X.2, M)) [.ref (ad (0, 0, 0)), .ref (ad (14, 0, 0)), .ref (ad (14, 1, 0)), .ref (ad (14, 2, 0)), .ref (ad (14, 3, 0))].toArray s 0 0 (adA ad)) 12 (X.1, X.2, M) 577 [(0, .ref (ad (0, 0, 0))), (1, .ref (ad (14, 0, 0))), (8, .int y8), (9, .int y9)] [] := by
    intro n
    induction n with
    | zero =>
      intro X M y8 y9 hf
      exact (none_ne hf).elim
    | succ n ih =>
      intro X M y8 y9 hf
      rw [fL_areNumbers_L577] at hf
      refine j_iload C0 dL_areNumbers_577 3 rfl ?_
      refine j_bipush (v := 6) C0 dL_areNumbers_579 rfl ?_
      refine j_icmp_ge (tgt := 618) C0 dL_areNumbers_581 (by decide) (fun c6 => ?_) (fun c6 => ?_)
      · have hf := if_t c6 hf
        refine j_iload C0 dL_areNumbers_618 2 rfl ?_
        obtain ⟨h7, hf⟩ := gd_some hf
        exact j_zret C0 hr (isZ_eq h7) dL_areNumbers_620 (so hf) rfl
      have hf := if_f c6 hf
      refine j_iload C0 dL_areNumbers_584 2 rfl ?_
      refine j_if_eq (tgt := 609) C0 dL_areNumbers_586 (by decide) (fun c8 => ?_) (fun c8 => ?_)
      · have hf := if_t c8 hf
        refine j_iconst (v := 0) C0 dL_areNumbers_609 rfl ?_
        refine j_istore (lv' := [(8, .int (0 : Int32)), (0, .ref (ad (0, 0, 0))), (1, .ref (ad (14, 0, 0))), (9, .int y9)]) C0 dL_areNumbers_610 (by decide) rfl ?_
        refine j_iinc (v := (y9 + 1)) (lv' := [(9, .int (y9 + 1)), (8, .int (0 : Int32)), (0, .ref (ad (0, 0, 0))), (1, .ref (ad (14, 0, 0)))]) C0 dL_areNumbers_612 3 rfl rfl (by decide) rfl ?_
        refine j_goto (tgt := 577) C0 dL_areNumbers_615 (by decide) ?_
        exact j_sub [2, 3, 1, 0] rfl (ih X M (0 : Int32) (y9 + 1) hf)
      have hf := if_f c8 hf
      refine j_aload_n C0 dL_areNumbers_589 rfl 0 rfl ?_
      refine j_bipush (v := 20) C0 dL_areNumbers_590 rfl ?_
      refine j_iload C0 dL_areNumbers_592 3 rfl ?_
      refine j_iadd C0 dL_areNumbers_594 ?_
      obtain ⟨q9, hcq9, hf⟩ := bd_some hf
      refine j_callV (As := [.int ((20 : Int32) + y9)]) (rest := []) (stk := [.int q9]) (G2 := (X.1, X.2, M)) C0 (c_X5_count hi (M0 := M)  hcq9) kw_L_70 bi_X5_count bx_X5_count (ia hi id_c0) oc_0 rfl ⟨by decide, by decide⟩ ⟨Nat.zero_le _, Nat.zero_le _⟩ rfl rfl (Nat.le_of_ble_eq_true rfl) rfl rfl dL_areNumbers_595 ?_
      refine j_aload_n C0 dL_areNumbers_598 rfl 1 rfl ?_
      refine j_iload C0 dL_areNumbers_599 3 rfl ?_
      obtain ⟨h10, hf⟩ := gd_some hf
      refine j_iald (x := (M 0 (y9.toNatClampNeg))) C0 al_14_0 rfl (ia hi id_l0) h10 (by rw [Nat.zero_add]; rfl) dL_areNumbers_601 ?_
      refine j_icmp_ne (tgt := 609) C0 dL_areNumbers_602 (by decide) (fun c11 => ?_) (fun c11 => ?_)
      · have hf := if_f c11 hf
        refine j_iconst (v := 0) C0 dL_areNumbers_609 rfl ?_
        refine j_istore (lv' := [(8, .int (0 : Int32)), (0, .ref (ad (0, 0, 0))), (1, .ref (ad (14, 0, 0))), (9, .int y9)]) C0 dL_areNumbers_610 (by decide) rfl ?_
        refine j_iinc (v := (y9 + 1)) (lv' := [(9, .int (y9 + 1)), (8, .int (0 : Int32)), (0, .ref (ad (0, 0, 0))), (1, .ref (ad (14, 0, 0)))]) C0 dL_areNumbers_612 3 rfl rfl (by decide) rfl ?_
        refine j_goto (tgt := 577) C0 dL_areNumbers_615 (by decide) ?_
        exact j_sub [2, 3, 1, 0] rfl (ih X M (0 : Int32) (y9 + 1) hf)
      have hf := if_t c11 hf
      refine j_iconst (v := 1) C0 dL_areNumbers_605 rfl ?_
      refine j_goto (tgt := 610) C0 dL_areNumbers_606 (by decide) ?_
      refine j_istore (lv' := [(8, .int (1 : Int32)), (0, .ref (ad (0, 0, 0))), (1, .ref (ad (14, 0, 0))), (9, .int y9)]) C0 dL_areNumbers_610 (by decide) rfl ?_
      refine j_iinc (v := (y9 + 1)) (lv' := [(9, .int (y9 + 1)), (8, .int (1 : Int32)), (0, .ref (ad (0, 0, 0))), (1, .ref (ad (14, 0, 0)))]) C0 dL_areNumbers_612 3 rfl rfl (by decide) rfl ?_
      refine j_goto (tgt := 577) C0 dL_areNumbers_615 (by decide) ?_
      exact j_sub [2, 3, 1, 0] rfl (ih X M (1 : Int32) (y9 + 1) hf)
  have L206 : ∀ (n : Nat) (X : XS) (M : Nat → Nat → Int32) (y5 : Int32) (y6 : Int32) (y7 : Int32) (y8 : Int32) (y9 : Int32) (y10 : Int32) (q : Int32), fL_areNumbers_L206 n X M y5 y6 y7 y8 y9 y10 = some q → J D ca ad p l e ({ frames := 7, cells := 0, slots := 0, locals := 153 }) s m [.ref (ad (0, 0, 0)), .ref (ad (14, 0, 0)), .ref (ad (14, 1, 0)), .ref (ad (14, 2, 0)), .ref (ad (14, 3, 0))].toArray below meth c 0 0 (MQ below (post D ca ad (some (.int r0)) (X.1, X.2, M)) [.ref (ad (0, 0, 0)), .ref (ad (14, 0, 0)), .ref (ad (14, 1, 0)), .ref (ad (14, 2, 0)), .ref (ad (14, 3, 0))].toArray s 0 0 (adA ad)) 12 (X.1, X.2, M) 287 [(0, .ref (ad (0, 0, 0))), (1, .ref (ad (14, 0, 0))), (4, .ref (ad (14, 3, 0))), (5, .int y5), (6, .int y6), (7, .int y7), (8, .int q), (9, .int y9)] [] → J D ca ad p l e ({ frames := 7, cells := 0, slots := 0, locals := 153 }) s m [.ref (ad (0, 0, 0)), .ref (ad (14, 0, 0)), .ref (ad (14, 1, 0)), .ref (ad (14, 2, 0)), .ref (ad (14, 3, 0))].toArray below meth c 0 0 (MQ below (post D ca ad (some (.int r0)) (X.1, X.2, M)) [.ref (ad (0, 0, 0)), .ref (ad (14, 0, 0)), .ref (ad (14, 1, 0)), .ref (ad (14, 2, 0)), .ref (ad (14, 3, 0))].toArray s 0 0 (adA ad)) 12 (X.1, X.2, M) 206 [(0, .ref (ad (0, 0, 0))), (1, .ref (ad (14, 0, 0))), (4, .ref (ad (14, 3, 0))), (5, .int y5), (6, .int y6), (7, .int y7), (8, .int y8), (9, .int y9), (10, .int y10)] [] := by
    intro n
    induction n with
    | zero =>
      intro X M y5 y6 y7 y8 y9 y10 q hf kE
      exact (none_ne hf).elim
    | succ n ih =>
      intro X M y5 y6 y7 y8 y9 y10 q hf kE
      rw [fL_areNumbers_L206] at hf
      refine j_iload C0 dL_areNumbers_206 8 rfl ?_
      refine j_iconst (v := 5) C0 dL_areNumbers_208 rfl ?_
      refine j_icmp_ge (tgt := 287) C0 dL_areNumbers_209 (by decide) (fun c136 => ?_) (fun c136 => ?_)
      · have hf := if_t c136 hf
        obtain rfl := so hf
        exact j_sub [0, 1, 2, 3, 4, 5, 6, 7] rfl kE
      have hf := if_f c136 hf
      refine j_iload C0 dL_areNumbers_212 6 rfl ?_
      refine j_if_eq (tgt := 278) C0 dL_areNumbers_214 (by decide) (fun c137 => ?_) (fun c137 => ?_)
      · have hf := if_t c137 hf
        refine j_iconst (v := 0) C0 dL_areNumbers_278 rfl ?_
        refine j_istore (lv' := [(8, .int (0 : Int32)), (0, .ref (ad (0, 0, 0))), (1, .ref (ad (14, 0, 0))), (4, .ref (ad (14, 3, 0))), (5, .int y5), (6, .int y6), (7, .int y7), (9, .int y9), (10, .int y10)]) C0 dL_areNumbers_279 (by decide) rfl ?_
        refine j_iinc (v := (y10 + 1)) (lv' := [(10, .int (y10 + 1)), (8, .int (0 : Int32)), (0, .ref (ad (0, 0, 0))), (1, .ref (ad (14, 0, 0))), (4, .ref (ad (14, 3, 0))), (5, .int y5), (6, .int y6), (7, .int y7), (9, .int y9)]) C0 dL_areNumbers_281 8 rfl rfl (by decide) rfl ?_
        refine j_goto (tgt := 206) C0 dL_areNumbers_284 (by decide) ?_
        exact j_sub [2, 3, 4, 5, 6, 7, 1, 8, 0] rfl (ih X M y5 y6 y7 (0 : Int32) y9 (y10 + 1) _ hf kE)
      have hf := if_f c137 hf
      refine j_aload_n C0 dL_areNumbers_217 rfl 0 rfl ?_
      refine j_iload C0 dL_areNumbers_218 7 rfl ?_
      refine j_iload C0 dL_areNumbers_220 8 rfl ?_
      obtain ⟨q138, hcq138, hf⟩ := bd_some hf
      refine j_callV (As := [.int y9, .int y10]) (rest := []) (stk := [.int q138]) (G2 := (X.1, X.2, M)) C0 (c_X5_noon hi (M0 := M)  hcq138) kw_L_60 bi_X5_noon bx_X5_noon (ia hi id_c0) oc_0 rfl ⟨by decide, by decide⟩ ⟨Nat.zero_le _, Nat.zero_le _⟩ rfl rfl (Nat.le_of_ble_eq_true rfl) rfl rfl dL_areNumbers_222 ?_
      refine j_iload C0 dL_areNumbers_225 7 rfl ?_
      refine j_aload C0 dL_areNumbers_227 2 rfl ?_
      refine j_iconst (v := 0) C0 dL_areNumbers_229 rfl ?_
      refine j_iald (x := (M 3 0)) C0 al_14_3 rfl (ia hi id_l3) (by decide) (by rw [Nat.zero_add]; rfl) dL_areNumbers_230 ?_
      obtain ⟨q139, hsq139, hf⟩ := bd_some hf
      have Jq139 : J D ca ad p l e ({ frames := 7, cells := 0, slots := 0, locals := 153 }) s m [.ref (ad (0, 0, 0)), .ref (ad (14, 0, 0)), .ref (ad (14, 1, 0)), .ref (ad (14, 2, 0)), .ref (ad (14, 3, 0))].toArray below meth c 0 0 (MQ below (post D ca ad (some (.int r0)) (X.1, X.2, M)) [.ref (ad (0, 0, 0)), .ref (ad (14, 0, 0)), .ref (ad (14, 1, 0)), .ref (ad (14, 2, 0)), .ref (ad (14, 3, 0))].toArray s 0 0 (adA ad)) 12 (X.1, X.2, M) 271 [(0, .ref (ad (0, 0, 0))), (1, .ref (ad (14, 0, 0))), (4, .ref (ad (14, 3, 0))), (5, .int y5), (6, .int y6), (7, .int y7), (9, .int y9), (10, .int y10)] [.int q139, .int q138] := by
        refine j_icmp_ne (tgt := 278) C0 dL_areNumbers_271 (by decide) (fun c140 => ?_) (fun c140 => ?_)
        · have hf := if_f c140 hf
          refine j_iconst (v := 0) C0 dL_areNumbers_278 rfl ?_
          refine j_istore (lv' := [(8, .int (0 : Int32)), (0, .ref (ad (0, 0, 0))), (1, .ref (ad (14, 0, 0))), (4, .ref (ad (14, 3, 0))), (5, .int y5), (6, .int y6), (7, .int y7), (9, .int y9), (10, .int y10)]) C0 dL_areNumbers_279 (by decide) rfl ?_
          refine j_iinc (v := (y10 + 1)) (lv' := [(10, .int (y10 + 1)), (8, .int (0 : Int32)), (0, .ref (ad (0, 0, 0))), (1, .ref (ad (14, 0, 0))), (4, .ref (ad (14, 3, 0))), (5, .int y5), (6, .int y6), (7, .int y7), (9, .int y9)]) C0 dL_areNumbers_281 8 rfl rfl (by decide) rfl ?_
          refine j_goto (tgt := 206) C0 dL_areNumbers_284 (by decide) ?_
          exact j_sub [2, 3, 4, 5, 6, 7, 1, 8, 0] rfl (ih X M y5 y6 y7 (0 : Int32) y9 (y10 + 1) _ hf kE)
        have hf := if_t c140 hf
        refine j_iconst (v := 1) C0 dL_areNumbers_274 rfl ?_
        refine j_goto (tgt := 279) C0 dL_areNumbers_275 (by decide) ?_
        refine j_istore (lv' := [(8, .int (1 : Int32)), (0, .ref (ad (0, 0, 0))), (1, .ref (ad (14, 0, 0))), (4, .ref (ad (14, 3, 0))), (5, .int y5), (6, .int y6), (7, .int y7), (9, .int y9), (10, .int y10)]) C0 dL_areNumbers_279 (by decide) rfl ?_
        refine j_iinc (v := (y10 + 1)) (lv' := [(10, .int (y10 + 1)), (8, .int (1 : Int32)), (0, .ref (ad (0, 0, 0))), (1, .ref (ad (14, 0, 0))), (4, .ref (ad (14, 3, 0))), (5, .int y5), (6, .int y6), (7, .int y7), (9, .int y9)]) C0 dL_areNumbers_281 8 rfl rfl (by decide) rfl ?_
        refine j_goto (tgt := 206) C0 dL_areNumbers_284 (by decide) ?_
        exact j_sub [2, 3, 4, 5, 6, 7, 1, 8, 0] rfl (ih X M y5 y6 y7 (1 : Int32) y9 (y10 + 1) _ hf kE)
      refine j_icmp_ge (tgt := 269) C0 dL_areNumbers_231 (by decide) (fun c141 => ?_) (fun c141 => ?_)
      · have hsq139 := if_t c141 hsq139
        refine j_ldc (v := -1000004) C0 dL_areNumbers_269 cw_L_48 ?_
        obtain rfl := so hsq139
        exact j_sub [0, 1, 2, 3, 4, 5, 7, 8] rfl Jq139
      have hsq139 := if_f c141 hsq139
      refine j_iload C0 dL_areNumbers_234 8 rfl ?_
      refine j_aload C0 dL_areNumbers_236 2 rfl ?_
      refine j_iconst (v := 1) C0 dL_areNumbers_238 rfl ?_
      refine j_bipush (v := 6) C0 dL_areNumbers_239 rfl ?_
      refine j_iload C0 dL_areNumbers_241 7 rfl ?_
      refine j_imul C0 dL_areNumbers_243 ?_
      refine j_iadd C0 dL_areNumbers_244 ?_
      obtain ⟨h142, hsq139⟩ := gd_some hsq139
      refine j_iald (x := (M 3 (((1 : Int32) + ((6 : Int32) * y9)).toNatClampNeg))) C0 al_14_3 rfl (ia hi id_l3) h142 (by rw [Nat.zero_add]; rfl) dL_areNumbers_245 ?_
      refine j_icmp_ge (tgt := 269) C0 dL_areNumbers_246 (by decide) (fun c143 => ?_) (fun c143 => ?_)
      · have hsq139 := if_t c143 hsq139
        refine j_ldc (v := -1000004) C0 dL_areNumbers_269 cw_L_48 ?_
        obtain rfl := so hsq139
        exact j_sub [0, 1, 2, 3, 4, 5, 7, 8] rfl Jq139
      have hsq139 := if_f c143 hsq139
      refine j_aload C0 dL_areNumbers_249 2 rfl ?_
      refine j_iconst (v := 2) C0 dL_areNumbers_251 rfl ?_
      refine j_bipush (v := 6) C0 dL_areNumbers_252 rfl ?_
      refine j_iload C0 dL_areNumbers_254 7 rfl ?_
      refine j_imul C0 dL_areNumbers_256 ?_
      refine j_iadd C0 dL_areNumbers_257 ?_
      refine j_iload C0 dL_areNumbers_258 8 rfl ?_
      refine j_iadd C0 dL_areNumbers_260 ?_
      obtain ⟨h144, hsq139⟩ := gd_some hsq139
      refine j_iald (x := (M 3 ((((2 : Int32) + ((6 : Int32) * y9)) + y10).toNatClampNeg))) C0 al_14_3 rfl (ia hi id_l3) h144 (by rw [Nat.zero_add]; rfl) dL_areNumbers_261 ?_
      refine j_sipush (v := 10000) C0 dL_areNumbers_262 rfl ?_
      refine j_iadd C0 dL_areNumbers_265 ?_
      refine j_goto (tgt := 271) C0 dL_areNumbers_266 (by decide) ?_
      obtain rfl := so hsq139
      exact j_sub [0, 1, 2, 3, 4, 5, 7, 8] rfl Jq139
  have L192 : ∀ (n : Nat) (X : XS) (M : Nat → Nat → Int32) (y5 : Int32) (y6 : Int32) (y7 : Int32) (y8 : Int32) (y9 : Int32), fL_areNumbers_L192 n X M y5 y6 y7 y8 y9 = some (r0) → J D ca ad p l e ({ frames := 7, cells := 0, slots := 0, locals := 153 }) s m [.ref (ad (0, 0, 0)), .ref (ad (14, 0, 0)), .ref (ad (14, 1, 0)), .ref (ad (14, 2, 0)), .ref (ad (14, 3, 0))].toArray below meth c 0 0 (MQ below (post D ca ad (some (.int r0)) (X.1, X.2, M)) [.ref (ad (0, 0, 0)), .ref (ad (14, 0, 0)), .ref (ad (14, 1, 0)), .ref (ad (14, 2, 0)), .ref (ad (14, 3, 0))].toArray s 0 0 (adA ad)) 12 (X.1, X.2, M) 192 [(0, .ref (ad (0, 0, 0))), (1, .ref (ad (14, 0, 0))), (4, .ref (ad (14, 3, 0))), (5, .int y5), (6, .int y6), (7, .int y7), (8, .int y8), (9, .int y9)] [] := by
    intro n
    induction n with
    | zero =>
      intro X M y5 y6 y7 y8 y9 hf
      exact (none_ne hf).elim
    | succ n ih =>
      intro X M y5 y6 y7 y8 y9 hf
      rw [fL_areNumbers_L192] at hf
      refine j_iload C0 dL_areNumbers_192 7 rfl ?_
      refine j_iconst (v := 5) C0 dL_areNumbers_194 rfl ?_
      refine j_icmp_ge (tgt := 293) C0 dL_areNumbers_195 (by decide) (fun c2 => ?_) (fun c2 => ?_)
      · have hf := if_t c2 hf
        refine j_iload C0 dL_areNumbers_293 6 rfl ?_
        obtain ⟨q3, hsq3, hf⟩ := bd_some hf
        have Jq3 : J D ca ad p l e ({ frames := 7, cells := 0, slots := 0, locals := 153 }) s m [.ref (ad (0, 0, 0)), .ref (ad (14, 0, 0)), .ref (ad (14, 1, 0)), .ref (ad (14, 2, 0)), .ref (ad (14, 3, 0))].toArray below meth c 0 0 (MQ below (post D ca ad (some (.int r0)) (X.1, X.2, M)) [.ref (ad (0, 0, 0)), .ref (ad (14, 0, 0)), .ref (ad (14, 1, 0)), .ref (ad (14, 2, 0)), .ref (ad (14, 3, 0))].toArray s 0 0 (adA ad)) 12 (X.1, X.2, M) 372 [(0, .ref (ad (0, 0, 0))), (1, .ref (ad (14, 0, 0))), (4, .ref (ad (14, 3, 0))), (5, .int y5), (6, .int y6)] [.int q3] := by
          refine j_istore (lv' := [(8, .int q3), (0, .ref (ad (0, 0, 0))), (1, .ref (ad (14, 0, 0))), (4, .ref (ad (14, 3, 0))), (5, .int y5), (6, .int y6)]) C0 dL_areNumbers_372 (by decide) rfl ?_
          refine j_iload C0 dL_areNumbers_374 0 rfl ?_
          obtain ⟨q4, hsq4, hf⟩ := bd_some hf
          have Jq4 : J D ca ad p l e ({ frames := 7, cells := 0, slots := 0, locals := 153 }) s m [.ref (ad (0, 0, 0)), .ref (ad (14, 0, 0)), .ref (ad (14, 1, 0)), .ref (ad (14, 2, 0)), .ref (ad (14, 3, 0))].toArray below meth c 0 0 (MQ below (post D ca ad (some (.int r0)) (X.1, X.2, M)) [.ref (ad (0, 0, 0)), .ref (ad (14, 0, 0)), .ref (ad (14, 1, 0)), .ref (ad (14, 2, 0)), .ref (ad (14, 3, 0))].toArray s 0 0 (adA ad)) 12 (X.1, X.2, M) 478 [(0, .ref (ad (0, 0, 0))), (1, .ref (ad (14, 0, 0))), (4, .ref (ad (14, 3, 0)))] [.int q4] := by
            refine j_istore (lv' := [(8, .int q4), (0, .ref (ad (0, 0, 0))), (1, .ref (ad (14, 0, 0))), (4, .ref (ad (14, 3, 0)))]) C0 dL_areNumbers_478 (by decide) rfl ?_
            refine j_iload C0 dL_areNumbers_480 0 rfl ?_
            refine j_if_eq (tgt := 571) C0 dL_areNumbers_482 (by decide) (fun c5 => ?_) (fun c5 => ?_)
            · have hf := if_t c5 hf
              refine j_iconst (v := 0) C0 dL_areNumbers_571 rfl ?_
              refine j_istore (lv' := [(8, .int (0 : Int32)), (0, .ref (ad (0, 0, 0))), (1, .ref (ad (14, 0, 0))), (4, .ref (ad (14, 3, 0)))]) C0 dL_areNumbers_572 (by decide) rfl ?_
              refine j_iconst (v := 0) C0 dL_areNumbers_574 rfl ?_
              refine j_istore (lv' := [(9, .int (0 : Int32)), (8, .int (0 : Int32)), (0, .ref (ad (0, 0, 0))), (1, .ref (ad (14, 0, 0))), (4, .ref (ad (14, 3, 0)))]) C0 dL_areNumbers_575 (by decide) rfl ?_
              exact j_sub [2, 3, 1, 0] rfl (L577 fuel X M (0 : Int32) (0 : Int32) hf)
            have hf := if_f c5 hf
            refine j_aload_n C0 dL_areNumbers_485 rfl 1 rfl ?_
            refine j_bipush (v := 8) C0 dL_areNumbers_486 rfl ?_
            obtain ⟨q12, hcq12, hf⟩ := bd_some hf
            refine j_callV (As := [.int (8 : Int32)]) (rest := []) (stk := [.int q12]) (G2 := (X.1, X.2, M)) C0 (c_X5_count hi (M0 := M)  hcq12) kw_L_70 bi_X5_count bx_X5_count (ia hi id_c0) oc_0 rfl ⟨by decide, by decide⟩ ⟨Nat.zero_le _, Nat.zero_le _⟩ rfl rfl (Nat.le_of_ble_eq_true rfl) rfl rfl dL_areNumbers_488 ?_
            refine j_if_le (tgt := 571) C0 dL_areNumbers_491 (by decide) (fun c13 => ?_) (fun c13 => ?_)
            · have hf := if_t c13 hf
              refine j_iconst (v := 0) C0 dL_areNumbers_571 rfl ?_
              refine j_istore (lv' := [(8, .int (0 : Int32)), (0, .ref (ad (0, 0, 0))), (1, .ref (ad (14, 0, 0))), (4, .ref (ad (14, 3, 0)))]) C0 dL_areNumbers_572 (by decide) rfl ?_
              refine j_iconst (v := 0) C0 dL_areNumbers_574 rfl ?_
              refine j_istore (lv' := [(9, .int (0 : Int32)), (8, .int (0 : Int32)), (0, .ref (ad (0, 0, 0))), (1, .ref (ad (14, 0, 0))), (4, .ref (ad (14, 3, 0)))]) C0 dL_areNumbers_575 (by decide) rfl ?_
              exact j_sub [2, 3, 1, 0] rfl (L577 fuel X M (0 : Int32) (0 : Int32) hf)
            have hf := if_f c13 hf
            refine j_aload_n C0 dL_areNumbers_494 rfl 1 rfl ?_
            refine j_bipush (v := 8) C0 dL_areNumbers_495 rfl ?_
            obtain ⟨q14, hcq14, hf⟩ := bd_some hf
            refine j_callV (As := [.int (8 : Int32)]) (rest := []) (stk := [.int q14]) (G2 := (X.1, X.2, M)) C0 (c_X5_count hi (M0 := M)  hcq14) kw_L_70 bi_X5_count bx_X5_count (ia hi id_c0) oc_0 rfl ⟨by decide, by decide⟩ ⟨Nat.zero_le _, Nat.zero_le _⟩ rfl rfl (Nat.le_of_ble_eq_true rfl) rfl rfl dL_areNumbers_497 ?_
            refine j_bipush (v := 12) C0 dL_areNumbers_500 rfl ?_
            refine j_aload_n C0 dL_areNumbers_502 rfl 2 rfl ?_
            refine j_iconst (v := 3) C0 dL_areNumbers_503 rfl ?_
            refine j_iald (x := (M 0 3)) C0 al_14_0 rfl (ia hi id_l0) (by decide) (by rw [Nat.zero_add]; rfl) dL_areNumbers_504 ?_
            refine j_imul C0 dL_areNumbers_505 ?_
            refine j_icmp_gt (tgt := 571) C0 dL_areNumbers_506 (by decide) (fun c15 => ?_) (fun c15 => ?_)
            · have hf := if_t c15 hf
              refine j_iconst (v := 0) C0 dL_areNumbers_571 rfl ?_
              refine j_istore (lv' := [(8, .int (0 : Int32)), (0, .ref (ad (0, 0, 0))), (1, .ref (ad (14, 0, 0))), (4, .ref (ad (14, 3, 0)))]) C0 dL_areNumbers_572 (by decide) rfl ?_
              refine j_iconst (v := 0) C0 dL_areNumbers_574 rfl ?_
              refine j_istore (lv' := [(9, .int (0 : Int32)), (8, .int (0 : Int32)), (0, .ref (ad (0, 0, 0))), (1, .ref (ad (14, 0, 0))), (4, .ref (ad (14, 3, 0)))]) C0 dL_areNumbers_575 (by decide) rfl ?_
              exact j_sub [2, 3, 1, 0] rfl (L577 fuel X M (0 : Int32) (0 : Int32) hf)
            have hf := if_f c15 hf
            refine j_aload_n C0 dL_areNumbers_509 rfl 2 rfl ?_
            refine j_bipush (v := 6) C0 dL_areNumbers_510 rfl ?_
            refine j_iald (x := (M 0 6)) C0 al_14_0 rfl (ia hi id_l0) (by decide) (by rw [Nat.zero_add]; rfl) dL_areNumbers_512 ?_
            refine j_aload_n C0 dL_areNumbers_513 rfl 1 rfl ?_
            refine j_bipush (v := 8) C0 dL_areNumbers_514 rfl ?_
            obtain ⟨q16, hcq16, hf⟩ := bd_some hf
            refine j_callV (As := [.int (8 : Int32)]) (rest := [.int (M 0 6)]) (stk := [.int q16, .int (M 0 6)]) (G2 := (X.1, X.2, M)) C0 (c_X5_count hi (M0 := M)  hcq16) kw_L_70 bi_X5_count bx_X5_count (ia hi id_c0) oc_0 rfl ⟨by decide, by decide⟩ ⟨Nat.zero_le _, Nat.zero_le _⟩ rfl rfl (Nat.le_of_ble_eq_true rfl) rfl rfl dL_areNumbers_516 ?_
            refine j_iadd C0 dL_areNumbers_519 ?_
            refine j_bipush (v := 12) C0 dL_areNumbers_520 rfl ?_
            refine j_aload_n C0 dL_areNumbers_522 rfl 2 rfl ?_
            refine j_iconst (v := 3) C0 dL_areNumbers_523 rfl ?_
            refine j_iald (x := (M 0 3)) C0 al_14_0 rfl (ia hi id_l0) (by decide) (by rw [Nat.zero_add]; rfl) dL_areNumbers_524 ?_
            refine j_imul C0 dL_areNumbers_525 ?_
            obtain ⟨h17, hf⟩ := gd_some hf
            refine j_irem C0 dL_areNumbers_526 h17 ?_
            refine j_if_ne (tgt := 571) C0 dL_areNumbers_527 (by decide) (fun c18 => ?_) (fun c18 => ?_)
            · have hf := if_f c18 hf
              refine j_iconst (v := 0) C0 dL_areNumbers_571 rfl ?_
              refine j_istore (lv' := [(8, .int (0 : Int32)), (0, .ref (ad (0, 0, 0))), (1, .ref (ad (14, 0, 0))), (4, .ref (ad (14, 3, 0)))]) C0 dL_areNumbers_572 (by decide) rfl ?_
              refine j_iconst (v := 0) C0 dL_areNumbers_574 rfl ?_
              refine j_istore (lv' := [(9, .int (0 : Int32)), (8, .int (0 : Int32)), (0, .ref (ad (0, 0, 0))), (1, .ref (ad (14, 0, 0))), (4, .ref (ad (14, 3, 0)))]) C0 dL_areNumbers_575 (by decide) rfl ?_
              exact j_sub [2, 3, 1, 0] rfl (L577 fuel X M (0 : Int32) (0 : Int32) hf)
            have hf := if_t c18 hf
            refine j_aload_n C0 dL_areNumbers_530 rfl 1 rfl ?_
            refine j_bipush (v := 9) C0 dL_areNumbers_531 rfl ?_
            obtain ⟨q19, hcq19, hf⟩ := bd_some hf
            refine j_callV (As := [.int (9 : Int32)]) (rest := []) (stk := [.int q19]) (G2 := (X.1, X.2, M)) C0 (c_X5_count hi (M0 := M)  hcq19) kw_L_70 bi_X5_count bx_X5_count (ia hi id_c0) oc_0 rfl ⟨by decide, by decide⟩ ⟨Nat.zero_le _, Nat.zero_le _⟩ rfl rfl (Nat.le_of_ble_eq_true rfl) rfl rfl dL_areNumbers_533 ?_
            refine j_aload_n C0 dL_areNumbers_536 rfl 2 rfl ?_
            refine j_bipush (v := 17) C0 dL_areNumbers_537 rfl ?_
            refine j_iald (x := (M 0 17)) C0 al_14_0 rfl (ia hi id_l0) (by decide) (by rw [Nat.zero_add]; rfl) dL_areNumbers_539 ?_
            refine j_icmp_ne (tgt := 571) C0 dL_areNumbers_540 (by decide) (fun c20 => ?_) (fun c20 => ?_)
            · have hf := if_f c20 hf
              refine j_iconst (v := 0) C0 dL_areNumbers_571 rfl ?_
              refine j_istore (lv' := [(8, .int (0 : Int32)), (0, .ref (ad (0, 0, 0))), (1, .ref (ad (14, 0, 0))), (4, .ref (ad (14, 3, 0)))]) C0 dL_areNumbers_572 (by decide) rfl ?_
              refine j_iconst (v := 0) C0 dL_areNumbers_574 rfl ?_
              refine j_istore (lv' := [(9, .int (0 : Int32)), (8, .int (0 : Int32)), (0, .ref (ad (0, 0, 0))), (1, .ref (ad (14, 0, 0))), (4, .ref (ad (14, 3, 0)))]) C0 dL_areNumbers_575 (by decide) rfl ?_
              exact j_sub [2, 3, 1, 0] rfl (L577 fuel X M (0 : Int32) (0 : Int32) hf)
            have hf := if_t c20 hf
            refine j_aload_n C0 dL_areNumbers_543 rfl 1 rfl ?_
            refine j_bipush (v := 10) C0 dL_areNumbers_544 rfl ?_
            obtain ⟨q21, hcq21, hf⟩ := bd_some hf
            refine j_callV (As := [.int (10 : Int32)]) (rest := []) (stk := [.int q21]) (G2 := (X.1, X.2, M)) C0 (c_X5_count hi (M0 := M)  hcq21) kw_L_70 bi_X5_count bx_X5_count (ia hi id_c0) oc_0 rfl ⟨by decide, by decide⟩ ⟨Nat.zero_le _, Nat.zero_le _⟩ rfl rfl (Nat.le_of_ble_eq_true rfl) rfl rfl dL_areNumbers_546 ?_
            refine j_aload C0 dL_areNumbers_549 3 rfl ?_
            refine j_iconst (v := 0) C0 dL_areNumbers_551 rfl ?_
            refine j_iald (x := (M 3 0)) C0 al_14_3 rfl (ia hi id_l3) (by decide) (by rw [Nat.zero_add]; rfl) dL_areNumbers_552 ?_
            refine j_icmp_ne (tgt := 571) C0 dL_areNumbers_553 (by decide) (fun c22 => ?_) (fun c22 => ?_)
            · have hf := if_f c22 hf
              refine j_iconst (v := 0) C0 dL_areNumbers_571 rfl ?_
              refine j_istore (lv' := [(8, .int (0 : Int32)), (0, .ref (ad (0, 0, 0))), (1, .ref (ad (14, 0, 0))), (4, .ref (ad (14, 3, 0)))]) C0 dL_areNumbers_572 (by decide) rfl ?_
              refine j_iconst (v := 0) C0 dL_areNumbers_574 rfl ?_
              refine j_istore (lv' := [(9, .int (0 : Int32)), (8, .int (0 : Int32)), (0, .ref (ad (0, 0, 0))), (1, .ref (ad (14, 0, 0))), (4, .ref (ad (14, 3, 0)))]) C0 dL_areNumbers_575 (by decide) rfl ?_
              exact j_sub [2, 3, 1, 0] rfl (L577 fuel X M (0 : Int32) (0 : Int32) hf)
            have hf := if_t c22 hf
            refine j_aload_n C0 dL_areNumbers_556 rfl 1 rfl ?_
            refine j_bipush (v := 13) C0 dL_areNumbers_557 rfl ?_
            obtain ⟨q23, hcq23, hf⟩ := bd_some hf
            refine j_callV (As := [.int (13 : Int32)]) (rest := []) (stk := [.int q23]) (G2 := (X.1, X.2, M)) C0 (c_X5_count hi (M0 := M)  hcq23) kw_L_70 bi_X5_count bx_X5_count (ia hi id_c0) oc_0 rfl ⟨by decide, by decide⟩ ⟨Nat.zero_le _, Nat.zero_le _⟩ rfl rfl (Nat.le_of_ble_eq_true rfl) rfl rfl dL_areNumbers_559 ?_
            refine j_ldc (v := -1000001) C0 dL_areNumbers_562 cw_L_49 ?_
            refine j_icmp_ne (tgt := 571) C0 dL_areNumbers_564 (by decide) (fun c24 => ?_) (fun c24 => ?_)
            · have hf := if_f c24 hf
              refine j_iconst (v := 0) C0 dL_areNumbers_571 rfl ?_
              refine j_istore (lv' := [(8, .int (0 : Int32)), (0, .ref (ad (0, 0, 0))), (1, .ref (ad (14, 0, 0))), (4, .ref (ad (14, 3, 0)))]) C0 dL_areNumbers_572 (by decide) rfl ?_
              refine j_iconst (v := 0) C0 dL_areNumbers_574 rfl ?_
              refine j_istore (lv' := [(9, .int (0 : Int32)), (8, .int (0 : Int32)), (0, .ref (ad (0, 0, 0))), (1, .ref (ad (14, 0, 0))), (4, .ref (ad (14, 3, 0)))]) C0 dL_areNumbers_575 (by decide) rfl ?_
              exact j_sub [2, 3, 1, 0] rfl (L577 fuel X M (0 : Int32) (0 : Int32) hf)
            have hf := if_t c24 hf
            refine j_iconst (v := 1) C0 dL_areNumbers_567 rfl ?_
            refine j_goto (tgt := 572) C0 dL_areNumbers_568 (by decide) ?_
            refine j_istore (lv' := [(8, .int (1 : Int32)), (0, .ref (ad (0, 0, 0))), (1, .ref (ad (14, 0, 0))), (4, .ref (ad (14, 3, 0)))]) C0 dL_areNumbers_572 (by decide) rfl ?_
            refine j_iconst (v := 0) C0 dL_areNumbers_574 rfl ?_
            refine j_istore (lv' := [(9, .int (0 : Int32)), (8, .int (1 : Int32)), (0, .ref (ad (0, 0, 0))), (1, .ref (ad (14, 0, 0))), (4, .ref (ad (14, 3, 0)))]) C0 dL_areNumbers_575 (by decide) rfl ?_
            exact j_sub [2, 3, 1, 0] rfl (L577 fuel X M (1 : Int32) (0 : Int32) hf)
          refine j_if_eq (tgt := 477) C0 dL_areNumbers_376 (by decide) (fun c25 => ?_) (fun c25 => ?_)
          · have hsq4 := if_t c25 hsq4
            refine j_iconst (v := 0) C0 dL_areNumbers_477 rfl ?_
            obtain rfl := so hsq4
            exact j_sub [1, 2, 3] rfl Jq4
          have hsq4 := if_f c25 hsq4
          refine j_aload_n C0 dL_areNumbers_379 rfl 1 rfl ?_
          refine j_iconst (v := 0) C0 dL_areNumbers_380 rfl ?_
          obtain ⟨q26, hcq26, hsq4⟩ := bd_some hsq4
          refine j_callV (As := [.int (0 : Int32)]) (rest := []) (stk := [.int q26]) (G2 := (X.1, X.2, M)) C0 (c_X5_count hi (M0 := M)  hcq26) kw_L_70 bi_X5_count bx_X5_count (ia hi id_c0) oc_0 rfl ⟨by decide, by decide⟩ ⟨Nat.zero_le _, Nat.zero_le _⟩ rfl rfl (Nat.le_of_ble_eq_true rfl) rfl rfl dL_areNumbers_381 ?_
          refine j_aload_n C0 dL_areNumbers_384 rfl 2 rfl ?_
          refine j_bipush (v := 6) C0 dL_areNumbers_385 rfl ?_
          refine j_iald (x := (M 0 6)) C0 al_14_0 rfl (ia hi id_l0) (by decide) (by rw [Nat.zero_add]; rfl) dL_areNumbers_387 ?_
          refine j_icmp_ne (tgt := 477) C0 dL_areNumbers_388 (by decide) (fun c27 => ?_) (fun c27 => ?_)
          · have hsq4 := if_f c27 hsq4
            refine j_iconst (v := 0) C0 dL_areNumbers_477 rfl ?_
            obtain rfl := so hsq4
            exact j_sub [1, 2, 3] rfl Jq4
          have hsq4 := if_t c27 hsq4
          refine j_aload_n C0 dL_areNumbers_391 rfl 1 rfl ?_
          refine j_iconst (v := 1) C0 dL_areNumbers_392 rfl ?_
          obtain ⟨q28, hcq28, hsq4⟩ := bd_some hsq4
          refine j_callV (As := [.int (1 : Int32)]) (rest := []) (stk := [.int q28]) (G2 := (X.1, X.2, M)) C0 (c_X5_count hi (M0 := M)  hcq28) kw_L_70 bi_X5_count bx_X5_count (ia hi id_c0) oc_0 rfl ⟨by decide, by decide⟩ ⟨Nat.zero_le _, Nat.zero_le _⟩ rfl rfl (Nat.le_of_ble_eq_true rfl) rfl rfl dL_areNumbers_393 ?_
          refine j_aload_n C0 dL_areNumbers_396 rfl 2 rfl ?_
          refine j_bipush (v := 18) C0 dL_areNumbers_397 rfl ?_
          refine j_iald (x := (M 0 18)) C0 al_14_0 rfl (ia hi id_l0) (by decide) (by rw [Nat.zero_add]; rfl) dL_areNumbers_399 ?_
          refine j_icmp_ne (tgt := 477) C0 dL_areNumbers_400 (by decide) (fun c29 => ?_) (fun c29 => ?_)
          · have hsq4 := if_f c29 hsq4
            refine j_iconst (v := 0) C0 dL_areNumbers_477 rfl ?_
            obtain rfl := so hsq4
            exact j_sub [1, 2, 3] rfl Jq4
          have hsq4 := if_t c29 hsq4
          refine j_aload_n C0 dL_areNumbers_403 rfl 1 rfl ?_
          refine j_iconst (v := 2) C0 dL_areNumbers_404 rfl ?_
          obtain ⟨q30, hcq30, hsq4⟩ := bd_some hsq4
          refine j_callV (As := [.int (2 : Int32)]) (rest := []) (stk := [.int q30]) (G2 := (X.1, X.2, M)) C0 (c_X5_count hi (M0 := M)  hcq30) kw_L_70 bi_X5_count bx_X5_count (ia hi id_c0) oc_0 rfl ⟨by decide, by decide⟩ ⟨Nat.zero_le _, Nat.zero_le _⟩ rfl rfl (Nat.le_of_ble_eq_true rfl) rfl rfl dL_areNumbers_405 ?_
          refine j_iload C0 dL_areNumbers_408 4 rfl ?_
          refine j_icmp_ne (tgt := 477) C0 dL_areNumbers_410 (by decide) (fun c31 => ?_) (fun c31 => ?_)
          · have hsq4 := if_f c31 hsq4
            refine j_iconst (v := 0) C0 dL_areNumbers_477 rfl ?_
            obtain rfl := so hsq4
            exact j_sub [1, 2, 3] rfl Jq4
          have hsq4 := if_t c31 hsq4
          refine j_aload_n C0 dL_areNumbers_413 rfl 1 rfl ?_
          refine j_iconst (v := 3) C0 dL_areNumbers_414 rfl ?_
          obtain ⟨q32, hcq32, hsq4⟩ := bd_some hsq4
          refine j_callV (As := [.int (3 : Int32)]) (rest := []) (stk := [.int q32]) (G2 := (X.1, X.2, M)) C0 (c_X5_count hi (M0 := M)  hcq32) kw_L_70 bi_X5_count bx_X5_count (ia hi id_c0) oc_0 rfl ⟨by decide, by decide⟩ ⟨Nat.zero_le _, Nat.zero_le _⟩ rfl rfl (Nat.le_of_ble_eq_true rfl) rfl rfl dL_areNumbers_415 ?_
          refine j_iload C0 dL_areNumbers_418 5 rfl ?_
          refine j_icmp_ne (tgt := 477) C0 dL_areNumbers_420 (by decide) (fun c33 => ?_) (fun c33 => ?_)
          · have hsq4 := if_f c33 hsq4
            refine j_iconst (v := 0) C0 dL_areNumbers_477 rfl ?_
            obtain rfl := so hsq4
            exact j_sub [1, 2, 3] rfl Jq4
          have hsq4 := if_t c33 hsq4
          refine j_aload_n C0 dL_areNumbers_423 rfl 1 rfl ?_
          refine j_iconst (v := 4) C0 dL_areNumbers_424 rfl ?_
          obtain ⟨q34, hcq34, hsq4⟩ := bd_some hsq4
          refine j_callV (As := [.int (4 : Int32)]) (rest := []) (stk := [.int q34]) (G2 := (X.1, X.2, M)) C0 (c_X5_count hi (M0 := M)  hcq34) kw_L_70 bi_X5_count bx_X5_count (ia hi id_c0) oc_0 rfl ⟨by decide, by decide⟩ ⟨Nat.zero_le _, Nat.zero_le _⟩ rfl rfl (Nat.le_of_ble_eq_true rfl) rfl rfl dL_areNumbers_425 ?_
          refine j_aload_n C0 dL_areNumbers_428 rfl 2 rfl ?_
          refine j_bipush (v := 13) C0 dL_areNumbers_429 rfl ?_
          refine j_iald (x := (M 0 13)) C0 al_14_0 rfl (ia hi id_l0) (by decide) (by rw [Nat.zero_add]; rfl) dL_areNumbers_431 ?_
          refine j_icmp_ne (tgt := 477) C0 dL_areNumbers_432 (by decide) (fun c35 => ?_) (fun c35 => ?_)
          · have hsq4 := if_f c35 hsq4
            refine j_iconst (v := 0) C0 dL_areNumbers_477 rfl ?_
            obtain rfl := so hsq4
            exact j_sub [1, 2, 3] rfl Jq4
          have hsq4 := if_t c35 hsq4
          refine j_aload_n C0 dL_areNumbers_435 rfl 1 rfl ?_
          refine j_iconst (v := 5) C0 dL_areNumbers_436 rfl ?_
          obtain ⟨q36, hcq36, hsq4⟩ := bd_some hsq4
          refine j_callV (As := [.int (5 : Int32)]) (rest := []) (stk := [.int q36]) (G2 := (X.1, X.2, M)) C0 (c_X5_count hi (M0 := M)  hcq36) kw_L_70 bi_X5_count bx_X5_count (ia hi id_c0) oc_0 rfl ⟨by decide, by decide⟩ ⟨Nat.zero_le _, Nat.zero_le _⟩ rfl rfl (Nat.le_of_ble_eq_true rfl) rfl rfl dL_areNumbers_437 ?_
          refine j_aload_n C0 dL_areNumbers_440 rfl 2 rfl ?_
          refine j_bipush (v := 14) C0 dL_areNumbers_441 rfl ?_
          refine j_iald (x := (M 0 14)) C0 al_14_0 rfl (ia hi id_l0) (by decide) (by rw [Nat.zero_add]; rfl) dL_areNumbers_443 ?_
          refine j_icmp_ne (tgt := 477) C0 dL_areNumbers_444 (by decide) (fun c37 => ?_) (fun c37 => ?_)
          · have hsq4 := if_f c37 hsq4
            refine j_iconst (v := 0) C0 dL_areNumbers_477 rfl ?_
            obtain rfl := so hsq4
            exact j_sub [1, 2, 3] rfl Jq4
          have hsq4 := if_t c37 hsq4
          refine j_aload_n C0 dL_areNumbers_447 rfl 1 rfl ?_
          refine j_bipush (v := 6) C0 dL_areNumbers_448 rfl ?_
          obtain ⟨q38, hcq38, hsq4⟩ := bd_some hsq4
          refine j_callV (As := [.int (6 : Int32)]) (rest := []) (stk := [.int q38]) (G2 := (X.1, X.2, M)) C0 (c_X5_count hi (M0 := M)  hcq38) kw_L_70 bi_X5_count bx_X5_count (ia hi id_c0) oc_0 rfl ⟨by decide, by decide⟩ ⟨Nat.zero_le _, Nat.zero_le _⟩ rfl rfl (Nat.le_of_ble_eq_true rfl) rfl rfl dL_areNumbers_450 ?_
          refine j_aload_n C0 dL_areNumbers_453 rfl 2 rfl ?_
          refine j_bipush (v := 15) C0 dL_areNumbers_454 rfl ?_
          refine j_iald (x := (M 0 15)) C0 al_14_0 rfl (ia hi id_l0) (by decide) (by rw [Nat.zero_add]; rfl) dL_areNumbers_456 ?_
          refine j_icmp_ne (tgt := 477) C0 dL_areNumbers_457 (by decide) (fun c39 => ?_) (fun c39 => ?_)
          · have hsq4 := if_f c39 hsq4
            refine j_iconst (v := 0) C0 dL_areNumbers_477 rfl ?_
            obtain rfl := so hsq4
            exact j_sub [1, 2, 3] rfl Jq4
          have hsq4 := if_t c39 hsq4
          refine j_aload_n C0 dL_areNumbers_460 rfl 1 rfl ?_
          refine j_bipush (v := 7) C0 dL_areNumbers_461 rfl ?_
          obtain ⟨q40, hcq40, hsq4⟩ := bd_some hsq4
          refine j_callV (As := [.int (7 : Int32)]) (rest := []) (stk := [.int q40]) (G2 := (X.1, X.2, M)) C0 (c_X5_count hi (M0 := M)  hcq40) kw_L_70 bi_X5_count bx_X5_count (ia hi id_c0) oc_0 rfl ⟨by decide, by decide⟩ ⟨Nat.zero_le _, Nat.zero_le _⟩ rfl rfl (Nat.le_of_ble_eq_true rfl) rfl rfl dL_areNumbers_463 ?_
          refine j_aload_n C0 dL_areNumbers_466 rfl 2 rfl ?_
          refine j_bipush (v := 16) C0 dL_areNumbers_467 rfl ?_
          refine j_iald (x := (M 0 16)) C0 al_14_0 rfl (ia hi id_l0) (by decide) (by rw [Nat.zero_add]; rfl) dL_areNumbers_469 ?_
          refine j_icmp_ne (tgt := 477) C0 dL_areNumbers_470 (by decide) (fun c41 => ?_) (fun c41 => ?_)
          · have hsq4 := if_f c41 hsq4
            refine j_iconst (v := 0) C0 dL_areNumbers_477 rfl ?_
            obtain rfl := so hsq4
            exact j_sub [1, 2, 3] rfl Jq4
          have hsq4 := if_t c41 hsq4
          refine j_iconst (v := 1) C0 dL_areNumbers_473 rfl ?_
          refine j_goto (tgt := 478) C0 dL_areNumbers_474 (by decide) ?_
          obtain rfl := so hsq4
          exact j_sub [1, 2, 3] rfl Jq4
        refine j_if_eq (tgt := 371) C0 dL_areNumbers_295 (by decide) (fun c42 => ?_) (fun c42 => ?_)
        · have hsq3 := if_t c42 hsq3
          refine j_iconst (v := 0) C0 dL_areNumbers_371 rfl ?_
          obtain rfl := so hsq3
          exact j_sub [0, 1, 2, 3, 4] rfl Jq3
        have hsq3 := if_f c42 hsq3
        refine j_aload_n C0 dL_areNumbers_298 rfl 0 rfl ?_
        refine j_aload_n C0 dL_areNumbers_299 rfl 1 rfl ?_
        refine j_bipush (v := 18) C0 dL_areNumbers_300 rfl ?_
        refine j_iald (x := (M 0 18)) C0 al_14_0 rfl (ia hi id_l0) (by decide) (by rw [Nat.zero_add]; rfl) dL_areNumbers_302 ?_
        obtain ⟨q43, hcq43, hsq3⟩ := bd_some hsq3
        refine j_callV (As := [.int (M 0 18)]) (rest := []) (stk := [.int q43]) (G2 := (X.1, X.2, M)) C0 (c_X5_worst hi (M0 := M)  hcq43) kw_L_57 bi_X5_worst bx_X5_worst (ia hi id_c0) oc_0 rfl ⟨by decide, by decide⟩ ⟨Nat.zero_le _, Nat.zero_le _⟩ rfl rfl (Nat.le_of_ble_eq_true rfl) rfl rfl dL_areNumbers_303 ?_
        refine j_ldc (v := -1000004) C0 dL_areNumbers_306 cw_L_48 ?_
        refine j_icmp_ne (tgt := 371) C0 dL_areNumbers_308 (by decide) (fun c44 => ?_) (fun c44 => ?_)
        · have hsq3 := if_f c44 hsq3
          refine j_iconst (v := 0) C0 dL_areNumbers_371 rfl ?_
          obtain rfl := so hsq3
          exact j_sub [0, 1, 2, 3, 4] rfl Jq3
        have hsq3 := if_t c44 hsq3
        refine j_aload_n C0 dL_areNumbers_311 rfl 1 rfl ?_
        refine j_bipush (v := 18) C0 dL_areNumbers_312 rfl ?_
        refine j_iald (x := (M 0 18)) C0 al_14_0 rfl (ia hi id_l0) (by decide) (by rw [Nat.zero_add]; rfl) dL_areNumbers_314 ?_
        refine j_if_gt (tgt := 327) C0 dL_areNumbers_315 (by decide) (fun c45 => ?_) (fun c45 => ?_)
        · have hsq3 := if_t c45 hsq3
          refine j_aload_n C0 dL_areNumbers_327 rfl 1 rfl ?_
          refine j_bipush (v := 18) C0 dL_areNumbers_328 rfl ?_
          refine j_iald (x := (M 0 18)) C0 al_14_0 rfl (ia hi id_l0) (by decide) (by rw [Nat.zero_add]; rfl) dL_areNumbers_330 ?_
          refine j_iconst (v := 1) C0 dL_areNumbers_331 rfl ?_
          refine j_icmp_eq (tgt := 351) C0 dL_areNumbers_332 (by decide) (fun c46 => ?_) (fun c46 => ?_)
          · have hsq3 := if_t c46 hsq3
            refine j_aload_n C0 dL_areNumbers_351 rfl 0 rfl ?_
            obtain ⟨q47, hcq47, hsq3⟩ := bd_some hsq3
            refine j_callV (As := []) (rest := []) (stk := [.int q47]) (G2 := (X.1, X.2, M)) C0 (c_X5_mean hi (M0 := M)  hcq47) kw_L_62 bi_X5_mean bx_X5_mean (ia hi id_c0) oc_0 rfl ⟨by decide, by decide⟩ ⟨Nat.zero_le _, Nat.zero_le _⟩ rfl rfl (Nat.le_of_ble_eq_true rfl) rfl rfl dL_areNumbers_352 ?_
            refine j_iload C0 dL_areNumbers_355 5 rfl ?_
            refine j_aload_n C0 dL_areNumbers_357 rfl 1 rfl ?_
            refine j_bipush (v := 18) C0 dL_areNumbers_358 rfl ?_
            refine j_iald (x := (M 0 18)) C0 al_14_0 rfl (ia hi id_l0) (by decide) (by rw [Nat.zero_add]; rfl) dL_areNumbers_360 ?_
            obtain ⟨q48, hcq48, hsq3⟩ := bd_some hsq3
            refine j_callS (As := [.int q47, .int y7, .int (M 0 18)]) (rest := []) (stk := [.int q48]) (G2 := (X.1, X.2, M)) C0 (c_L_isMean hi (G0 := (X.1, X.2, M))  hcq48) kw_L_66 bi_L_isMean rfl ⟨by decide, by decide⟩ ⟨Nat.zero_le _, Nat.zero_le _⟩ rfl rfl (Nat.le_of_ble_eq_true rfl) rfl rfl dL_areNumbers_361 ?_
            refine j_if_eq (tgt := 371) C0 dL_areNumbers_364 (by decide) (fun c49 => ?_) (fun c49 => ?_)
            · have hsq3 := if_t c49 hsq3
              refine j_iconst (v := 0) C0 dL_areNumbers_371 rfl ?_
              obtain rfl := so hsq3
              exact j_sub [0, 1, 2, 3, 4] rfl Jq3
            have hsq3 := if_f c49 hsq3
            refine j_iconst (v := 1) C0 dL_areNumbers_367 rfl ?_
            refine j_goto (tgt := 372) C0 dL_areNumbers_368 (by decide) ?_
            obtain rfl := so hsq3
            exact j_sub [0, 1, 2, 3, 4] rfl Jq3
          have hsq3 := if_f c46 hsq3
          refine j_aload_n C0 dL_areNumbers_335 rfl 1 rfl ?_
          refine j_bipush (v := 18) C0 dL_areNumbers_336 rfl ?_
          refine j_iald (x := (M 0 18)) C0 al_14_0 rfl (ia hi id_l0) (by decide) (by rw [Nat.zero_add]; rfl) dL_areNumbers_338 ?_
          refine j_iconst (v := 2) C0 dL_areNumbers_339 rfl ?_
          refine j_icmp_eq (tgt := 351) C0 dL_areNumbers_340 (by decide) (fun c50 => ?_) (fun c50 => ?_)
          · have hsq3 := if_t c50 hsq3
            refine j_aload_n C0 dL_areNumbers_351 rfl 0 rfl ?_
            obtain ⟨q51, hcq51, hsq3⟩ := bd_some hsq3
            refine j_callV (As := []) (rest := []) (stk := [.int q51]) (G2 := (X.1, X.2, M)) C0 (c_X5_mean hi (M0 := M)  hcq51) kw_L_62 bi_X5_mean bx_X5_mean (ia hi id_c0) oc_0 rfl ⟨by decide, by decide⟩ ⟨Nat.zero_le _, Nat.zero_le _⟩ rfl rfl (Nat.le_of_ble_eq_true rfl) rfl rfl dL_areNumbers_352 ?_
            refine j_iload C0 dL_areNumbers_355 5 rfl ?_
            refine j_aload_n C0 dL_areNumbers_357 rfl 1 rfl ?_
            refine j_bipush (v := 18) C0 dL_areNumbers_358 rfl ?_
            refine j_iald (x := (M 0 18)) C0 al_14_0 rfl (ia hi id_l0) (by decide) (by rw [Nat.zero_add]; rfl) dL_areNumbers_360 ?_
            obtain ⟨q52, hcq52, hsq3⟩ := bd_some hsq3
            refine j_callS (As := [.int q51, .int y7, .int (M 0 18)]) (rest := []) (stk := [.int q52]) (G2 := (X.1, X.2, M)) C0 (c_L_isMean hi (G0 := (X.1, X.2, M))  hcq52) kw_L_66 bi_L_isMean rfl ⟨by decide, by decide⟩ ⟨Nat.zero_le _, Nat.zero_le _⟩ rfl rfl (Nat.le_of_ble_eq_true rfl) rfl rfl dL_areNumbers_361 ?_
            refine j_if_eq (tgt := 371) C0 dL_areNumbers_364 (by decide) (fun c53 => ?_) (fun c53 => ?_)
            · have hsq3 := if_t c53 hsq3
              refine j_iconst (v := 0) C0 dL_areNumbers_371 rfl ?_
              obtain rfl := so hsq3
              exact j_sub [0, 1, 2, 3, 4] rfl Jq3
            have hsq3 := if_f c53 hsq3
            refine j_iconst (v := 1) C0 dL_areNumbers_367 rfl ?_
            refine j_goto (tgt := 372) C0 dL_areNumbers_368 (by decide) ?_
            obtain rfl := so hsq3
            exact j_sub [0, 1, 2, 3, 4] rfl Jq3
          have hsq3 := if_f c50 hsq3
          refine j_aload_n C0 dL_areNumbers_343 rfl 1 rfl ?_
          refine j_bipush (v := 18) C0 dL_areNumbers_344 rfl ?_
          refine j_iald (x := (M 0 18)) C0 al_14_0 rfl (ia hi id_l0) (by decide) (by rw [Nat.zero_add]; rfl) dL_areNumbers_346 ?_
          refine j_iconst (v := 4) C0 dL_areNumbers_347 rfl ?_
          refine j_icmp_ne (tgt := 367) C0 dL_areNumbers_348 (by decide) (fun c54 => ?_) (fun c54 => ?_)
          · have hsq3 := if_f c54 hsq3
            refine j_iconst (v := 1) C0 dL_areNumbers_367 rfl ?_
            refine j_goto (tgt := 372) C0 dL_areNumbers_368 (by decide) ?_
            obtain rfl := so hsq3
            exact j_sub [0, 1, 2, 3, 4] rfl Jq3
          have hsq3 := if_t c54 hsq3
          refine j_aload_n C0 dL_areNumbers_351 rfl 0 rfl ?_
          obtain ⟨q55, hcq55, hsq3⟩ := bd_some hsq3
          refine j_callV (As := []) (rest := []) (stk := [.int q55]) (G2 := (X.1, X.2, M)) C0 (c_X5_mean hi (M0 := M)  hcq55) kw_L_62 bi_X5_mean bx_X5_mean (ia hi id_c0) oc_0 rfl ⟨by decide, by decide⟩ ⟨Nat.zero_le _, Nat.zero_le _⟩ rfl rfl (Nat.le_of_ble_eq_true rfl) rfl rfl dL_areNumbers_352 ?_
          refine j_iload C0 dL_areNumbers_355 5 rfl ?_
          refine j_aload_n C0 dL_areNumbers_357 rfl 1 rfl ?_
          refine j_bipush (v := 18) C0 dL_areNumbers_358 rfl ?_
          refine j_iald (x := (M 0 18)) C0 al_14_0 rfl (ia hi id_l0) (by decide) (by rw [Nat.zero_add]; rfl) dL_areNumbers_360 ?_
          obtain ⟨q56, hcq56, hsq3⟩ := bd_some hsq3
          refine j_callS (As := [.int q55, .int y7, .int (M 0 18)]) (rest := []) (stk := [.int q56]) (G2 := (X.1, X.2, M)) C0 (c_L_isMean hi (G0 := (X.1, X.2, M))  hcq56) kw_L_66 bi_L_isMean rfl ⟨by decide, by decide⟩ ⟨Nat.zero_le _, Nat.zero_le _⟩ rfl rfl (Nat.le_of_ble_eq_true rfl) rfl rfl dL_areNumbers_361 ?_
          refine j_if_eq (tgt := 371) C0 dL_areNumbers_364 (by decide) (fun c57 => ?_) (fun c57 => ?_)
          · have hsq3 := if_t c57 hsq3
            refine j_iconst (v := 0) C0 dL_areNumbers_371 rfl ?_
            obtain rfl := so hsq3
            exact j_sub [0, 1, 2, 3, 4] rfl Jq3
          have hsq3 := if_f c57 hsq3
          refine j_iconst (v := 1) C0 dL_areNumbers_367 rfl ?_
          refine j_goto (tgt := 372) C0 dL_areNumbers_368 (by decide) ?_
          obtain rfl := so hsq3
          exact j_sub [0, 1, 2, 3, 4] rfl Jq3
        have hsq3 := if_f c45 hsq3
        refine j_aload_n C0 dL_areNumbers_318 rfl 0 rfl ?_
        obtain ⟨q58, hcq58, hsq3⟩ := bd_some hsq3
        refine j_callV (As := []) (rest := []) (stk := [.int q58]) (G2 := (X.1, X.2, M)) C0 (c_X5_mean hi (M0 := M)  hcq58) kw_L_62 bi_X5_mean bx_X5_mean (ia hi id_c0) oc_0 rfl ⟨by decide, by decide⟩ ⟨Nat.zero_le _, Nat.zero_le _⟩ rfl rfl (Nat.le_of_ble_eq_true rfl) rfl rfl dL_areNumbers_319 ?_
        refine j_ldc (v := -1000004) C0 dL_areNumbers_322 cw_L_48 ?_
        refine j_icmp_ne (tgt := 371) C0 dL_areNumbers_324 (by decide) (fun c59 => ?_) (fun c59 => ?_)
        · have hsq3 := if_f c59 hsq3
          refine j_iconst (v := 0) C0 dL_areNumbers_371 rfl ?_
          obtain rfl := so hsq3
          exact j_sub [0, 1, 2, 3, 4] rfl Jq3
        have hsq3 := if_t c59 hsq3
        refine j_aload_n C0 dL_areNumbers_327 rfl 1 rfl ?_
        refine j_bipush (v := 18) C0 dL_areNumbers_328 rfl ?_
        refine j_iald (x := (M 0 18)) C0 al_14_0 rfl (ia hi id_l0) (by decide) (by rw [Nat.zero_add]; rfl) dL_areNumbers_330 ?_
        refine j_iconst (v := 1) C0 dL_areNumbers_331 rfl ?_
        refine j_icmp_eq (tgt := 351) C0 dL_areNumbers_332 (by decide) (fun c60 => ?_) (fun c60 => ?_)
        · have hsq3 := if_t c60 hsq3
          refine j_aload_n C0 dL_areNumbers_351 rfl 0 rfl ?_
          obtain ⟨q61, hcq61, hsq3⟩ := bd_some hsq3
          refine j_callV (As := []) (rest := []) (stk := [.int q61]) (G2 := (X.1, X.2, M)) C0 (c_X5_mean hi (M0 := M)  hcq61) kw_L_62 bi_X5_mean bx_X5_mean (ia hi id_c0) oc_0 rfl ⟨by decide, by decide⟩ ⟨Nat.zero_le _, Nat.zero_le _⟩ rfl rfl (Nat.le_of_ble_eq_true rfl) rfl rfl dL_areNumbers_352 ?_
          refine j_iload C0 dL_areNumbers_355 5 rfl ?_
          refine j_aload_n C0 dL_areNumbers_357 rfl 1 rfl ?_
          refine j_bipush (v := 18) C0 dL_areNumbers_358 rfl ?_
          refine j_iald (x := (M 0 18)) C0 al_14_0 rfl (ia hi id_l0) (by decide) (by rw [Nat.zero_add]; rfl) dL_areNumbers_360 ?_
          obtain ⟨q62, hcq62, hsq3⟩ := bd_some hsq3
          refine j_callS (As := [.int q61, .int y7, .int (M 0 18)]) (rest := []) (stk := [.int q62]) (G2 := (X.1, X.2, M)) C0 (c_L_isMean hi (G0 := (X.1, X.2, M))  hcq62) kw_L_66 bi_L_isMean rfl ⟨by decide, by decide⟩ ⟨Nat.zero_le _, Nat.zero_le _⟩ rfl rfl (Nat.le_of_ble_eq_true rfl) rfl rfl dL_areNumbers_361 ?_
          refine j_if_eq (tgt := 371) C0 dL_areNumbers_364 (by decide) (fun c63 => ?_) (fun c63 => ?_)
          · have hsq3 := if_t c63 hsq3
            refine j_iconst (v := 0) C0 dL_areNumbers_371 rfl ?_
            obtain rfl := so hsq3
            exact j_sub [0, 1, 2, 3, 4] rfl Jq3
          have hsq3 := if_f c63 hsq3
          refine j_iconst (v := 1) C0 dL_areNumbers_367 rfl ?_
          refine j_goto (tgt := 372) C0 dL_areNumbers_368 (by decide) ?_
          obtain rfl := so hsq3
          exact j_sub [0, 1, 2, 3, 4] rfl Jq3
        have hsq3 := if_f c60 hsq3
        refine j_aload_n C0 dL_areNumbers_335 rfl 1 rfl ?_
        refine j_bipush (v := 18) C0 dL_areNumbers_336 rfl ?_
        refine j_iald (x := (M 0 18)) C0 al_14_0 rfl (ia hi id_l0) (by decide) (by rw [Nat.zero_add]; rfl) dL_areNumbers_338 ?_
        refine j_iconst (v := 2) C0 dL_areNumbers_339 rfl ?_
        refine j_icmp_eq (tgt := 351) C0 dL_areNumbers_340 (by decide) (fun c64 => ?_) (fun c64 => ?_)
        · have hsq3 := if_t c64 hsq3
          refine j_aload_n C0 dL_areNumbers_351 rfl 0 rfl ?_
          obtain ⟨q65, hcq65, hsq3⟩ := bd_some hsq3
          refine j_callV (As := []) (rest := []) (stk := [.int q65]) (G2 := (X.1, X.2, M)) C0 (c_X5_mean hi (M0 := M)  hcq65) kw_L_62 bi_X5_mean bx_X5_mean (ia hi id_c0) oc_0 rfl ⟨by decide, by decide⟩ ⟨Nat.zero_le _, Nat.zero_le _⟩ rfl rfl (Nat.le_of_ble_eq_true rfl) rfl rfl dL_areNumbers_352 ?_
          refine j_iload C0 dL_areNumbers_355 5 rfl ?_
          refine j_aload_n C0 dL_areNumbers_357 rfl 1 rfl ?_
          refine j_bipush (v := 18) C0 dL_areNumbers_358 rfl ?_
          refine j_iald (x := (M 0 18)) C0 al_14_0 rfl (ia hi id_l0) (by decide) (by rw [Nat.zero_add]; rfl) dL_areNumbers_360 ?_
          obtain ⟨q66, hcq66, hsq3⟩ := bd_some hsq3
          refine j_callS (As := [.int q65, .int y7, .int (M 0 18)]) (rest := []) (stk := [.int q66]) (G2 := (X.1, X.2, M)) C0 (c_L_isMean hi (G0 := (X.1, X.2, M))  hcq66) kw_L_66 bi_L_isMean rfl ⟨by decide, by decide⟩ ⟨Nat.zero_le _, Nat.zero_le _⟩ rfl rfl (Nat.le_of_ble_eq_true rfl) rfl rfl dL_areNumbers_361 ?_
          refine j_if_eq (tgt := 371) C0 dL_areNumbers_364 (by decide) (fun c67 => ?_) (fun c67 => ?_)
          · have hsq3 := if_t c67 hsq3
            refine j_iconst (v := 0) C0 dL_areNumbers_371 rfl ?_
            obtain rfl := so hsq3
            exact j_sub [0, 1, 2, 3, 4] rfl Jq3
          have hsq3 := if_f c67 hsq3
          refine j_iconst (v := 1) C0 dL_areNumbers_367 rfl ?_
          refine j_goto (tgt := 372) C0 dL_areNumbers_368 (by decide) ?_
          obtain rfl := so hsq3
          exact j_sub [0, 1, 2, 3, 4] rfl Jq3
        have hsq3 := if_f c64 hsq3
        refine j_aload_n C0 dL_areNumbers_343 rfl 1 rfl ?_
        refine j_bipush (v := 18) C0 dL_areNumbers_344 rfl ?_
        refine j_iald (x := (M 0 18)) C0 al_14_0 rfl (ia hi id_l0) (by decide) (by rw [Nat.zero_add]; rfl) dL_areNumbers_346 ?_
        refine j_iconst (v := 4) C0 dL_areNumbers_347 rfl ?_
        refine j_icmp_ne (tgt := 367) C0 dL_areNumbers_348 (by decide) (fun c68 => ?_) (fun c68 => ?_)
        · have hsq3 := if_f c68 hsq3
          refine j_iconst (v := 1) C0 dL_areNumbers_367 rfl ?_
          refine j_goto (tgt := 372) C0 dL_areNumbers_368 (by decide) ?_
          obtain rfl := so hsq3
          exact j_sub [0, 1, 2, 3, 4] rfl Jq3
        have hsq3 := if_t c68 hsq3
        refine j_aload_n C0 dL_areNumbers_351 rfl 0 rfl ?_
        obtain ⟨q69, hcq69, hsq3⟩ := bd_some hsq3
        refine j_callV (As := []) (rest := []) (stk := [.int q69]) (G2 := (X.1, X.2, M)) C0 (c_X5_mean hi (M0 := M)  hcq69) kw_L_62 bi_X5_mean bx_X5_mean (ia hi id_c0) oc_0 rfl ⟨by decide, by decide⟩ ⟨Nat.zero_le _, Nat.zero_le _⟩ rfl rfl (Nat.le_of_ble_eq_true rfl) rfl rfl dL_areNumbers_352 ?_
        refine j_iload C0 dL_areNumbers_355 5 rfl ?_
        refine j_aload_n C0 dL_areNumbers_357 rfl 1 rfl ?_
        refine j_bipush (v := 18) C0 dL_areNumbers_358 rfl ?_
        refine j_iald (x := (M 0 18)) C0 al_14_0 rfl (ia hi id_l0) (by decide) (by rw [Nat.zero_add]; rfl) dL_areNumbers_360 ?_
        obtain ⟨q70, hcq70, hsq3⟩ := bd_some hsq3
        refine j_callS (As := [.int q69, .int y7, .int (M 0 18)]) (rest := []) (stk := [.int q70]) (G2 := (X.1, X.2, M)) C0 (c_L_isMean hi (G0 := (X.1, X.2, M))  hcq70) kw_L_66 bi_L_isMean rfl ⟨by decide, by decide⟩ ⟨Nat.zero_le _, Nat.zero_le _⟩ rfl rfl (Nat.le_of_ble_eq_true rfl) rfl rfl dL_areNumbers_361 ?_
        refine j_if_eq (tgt := 371) C0 dL_areNumbers_364 (by decide) (fun c71 => ?_) (fun c71 => ?_)
        · have hsq3 := if_t c71 hsq3
          refine j_iconst (v := 0) C0 dL_areNumbers_371 rfl ?_
          obtain rfl := so hsq3
          exact j_sub [0, 1, 2, 3, 4] rfl Jq3
        have hsq3 := if_f c71 hsq3
        refine j_iconst (v := 1) C0 dL_areNumbers_367 rfl ?_
        refine j_goto (tgt := 372) C0 dL_areNumbers_368 (by decide) ?_
        obtain rfl := so hsq3
        exact j_sub [0, 1, 2, 3, 4] rfl Jq3
      have hf := if_f c2 hf
      refine j_iload C0 dL_areNumbers_198 6 rfl ?_
      refine j_if_eq (tgt := 293) C0 dL_areNumbers_200 (by decide) (fun c72 => ?_) (fun c72 => ?_)
      · have hf := if_t c72 hf
        refine j_iload C0 dL_areNumbers_293 6 rfl ?_
        obtain ⟨q73, hsq73, hf⟩ := bd_some hf
        have Jq73 : J D ca ad p l e ({ frames := 7, cells := 0, slots := 0, locals := 153 }) s m [.ref (ad (0, 0, 0)), .ref (ad (14, 0, 0)), .ref (ad (14, 1, 0)), .ref (ad (14, 2, 0)), .ref (ad (14, 3, 0))].toArray below meth c 0 0 (MQ below (post D ca ad (some (.int r0)) (X.1, X.2, M)) [.ref (ad (0, 0, 0)), .ref (ad (14, 0, 0)), .ref (ad (14, 1, 0)), .ref (ad (14, 2, 0)), .ref (ad (14, 3, 0))].toArray s 0 0 (adA ad)) 12 (X.1, X.2, M) 372 [(0, .ref (ad (0, 0, 0))), (1, .ref (ad (14, 0, 0))), (4, .ref (ad (14, 3, 0))), (5, .int y5), (6, .int y6)] [.int q73] := by
          refine j_istore (lv' := [(8, .int q73), (0, .ref (ad (0, 0, 0))), (1, .ref (ad (14, 0, 0))), (4, .ref (ad (14, 3, 0))), (5, .int y5), (6, .int y6)]) C0 dL_areNumbers_372 (by decide) rfl ?_
          refine j_iload C0 dL_areNumbers_374 0 rfl ?_
          obtain ⟨q74, hsq74, hf⟩ := bd_some hf
          have Jq74 : J D ca ad p l e ({ frames := 7, cells := 0, slots := 0, locals := 153 }) s m [.ref (ad (0, 0, 0)), .ref (ad (14, 0, 0)), .ref (ad (14, 1, 0)), .ref (ad (14, 2, 0)), .ref (ad (14, 3, 0))].toArray below meth c 0 0 (MQ below (post D ca ad (some (.int r0)) (X.1, X.2, M)) [.ref (ad (0, 0, 0)), .ref (ad (14, 0, 0)), .ref (ad (14, 1, 0)), .ref (ad (14, 2, 0)), .ref (ad (14, 3, 0))].toArray s 0 0 (adA ad)) 12 (X.1, X.2, M) 478 [(0, .ref (ad (0, 0, 0))), (1, .ref (ad (14, 0, 0))), (4, .ref (ad (14, 3, 0)))] [.int q74] := by
            refine j_istore (lv' := [(8, .int q74), (0, .ref (ad (0, 0, 0))), (1, .ref (ad (14, 0, 0))), (4, .ref (ad (14, 3, 0)))]) C0 dL_areNumbers_478 (by decide) rfl ?_
            refine j_iload C0 dL_areNumbers_480 0 rfl ?_
            refine j_if_eq (tgt := 571) C0 dL_areNumbers_482 (by decide) (fun c75 => ?_) (fun c75 => ?_)
            · have hf := if_t c75 hf
              refine j_iconst (v := 0) C0 dL_areNumbers_571 rfl ?_
              refine j_istore (lv' := [(8, .int (0 : Int32)), (0, .ref (ad (0, 0, 0))), (1, .ref (ad (14, 0, 0))), (4, .ref (ad (14, 3, 0)))]) C0 dL_areNumbers_572 (by decide) rfl ?_
              refine j_iconst (v := 0) C0 dL_areNumbers_574 rfl ?_
              refine j_istore (lv' := [(9, .int (0 : Int32)), (8, .int (0 : Int32)), (0, .ref (ad (0, 0, 0))), (1, .ref (ad (14, 0, 0))), (4, .ref (ad (14, 3, 0)))]) C0 dL_areNumbers_575 (by decide) rfl ?_
              exact j_sub [2, 3, 1, 0] rfl (L577 fuel X M (0 : Int32) (0 : Int32) hf)
            have hf := if_f c75 hf
            refine j_aload_n C0 dL_areNumbers_485 rfl 1 rfl ?_
            refine j_bipush (v := 8) C0 dL_areNumbers_486 rfl ?_
            obtain ⟨q76, hcq76, hf⟩ := bd_some hf
            refine j_callV (As := [.int (8 : Int32)]) (rest := []) (stk := [.int q76]) (G2 := (X.1, X.2, M)) C0 (c_X5_count hi (M0 := M)  hcq76) kw_L_70 bi_X5_count bx_X5_count (ia hi id_c0) oc_0 rfl ⟨by decide, by decide⟩ ⟨Nat.zero_le _, Nat.zero_le _⟩ rfl rfl (Nat.le_of_ble_eq_true rfl) rfl rfl dL_areNumbers_488 ?_
            refine j_if_le (tgt := 571) C0 dL_areNumbers_491 (by decide) (fun c77 => ?_) (fun c77 => ?_)
            · have hf := if_t c77 hf
              refine j_iconst (v := 0) C0 dL_areNumbers_571 rfl ?_
              refine j_istore (lv' := [(8, .int (0 : Int32)), (0, .ref (ad (0, 0, 0))), (1, .ref (ad (14, 0, 0))), (4, .ref (ad (14, 3, 0)))]) C0 dL_areNumbers_572 (by decide) rfl ?_
              refine j_iconst (v := 0) C0 dL_areNumbers_574 rfl ?_
              refine j_istore (lv' := [(9, .int (0 : Int32)), (8, .int (0 : Int32)), (0, .ref (ad (0, 0, 0))), (1, .ref (ad (14, 0, 0))), (4, .ref (ad (14, 3, 0)))]) C0 dL_areNumbers_575 (by decide) rfl ?_
              exact j_sub [2, 3, 1, 0] rfl (L577 fuel X M (0 : Int32) (0 : Int32) hf)
            have hf := if_f c77 hf
            refine j_aload_n C0 dL_areNumbers_494 rfl 1 rfl ?_
            refine j_bipush (v := 8) C0 dL_areNumbers_495 rfl ?_
            obtain ⟨q78, hcq78, hf⟩ := bd_some hf
            refine j_callV (As := [.int (8 : Int32)]) (rest := []) (stk := [.int q78]) (G2 := (X.1, X.2, M)) C0 (c_X5_count hi (M0 := M)  hcq78) kw_L_70 bi_X5_count bx_X5_count (ia hi id_c0) oc_0 rfl ⟨by decide, by decide⟩ ⟨Nat.zero_le _, Nat.zero_le _⟩ rfl rfl (Nat.le_of_ble_eq_true rfl) rfl rfl dL_areNumbers_497 ?_
            refine j_bipush (v := 12) C0 dL_areNumbers_500 rfl ?_
            refine j_aload_n C0 dL_areNumbers_502 rfl 2 rfl ?_
            refine j_iconst (v := 3) C0 dL_areNumbers_503 rfl ?_
            refine j_iald (x := (M 0 3)) C0 al_14_0 rfl (ia hi id_l0) (by decide) (by rw [Nat.zero_add]; rfl) dL_areNumbers_504 ?_
            refine j_imul C0 dL_areNumbers_505 ?_
            refine j_icmp_gt (tgt := 571) C0 dL_areNumbers_506 (by decide) (fun c79 => ?_) (fun c79 => ?_)
            · have hf := if_t c79 hf
              refine j_iconst (v := 0) C0 dL_areNumbers_571 rfl ?_
              refine j_istore (lv' := [(8, .int (0 : Int32)), (0, .ref (ad (0, 0, 0))), (1, .ref (ad (14, 0, 0))), (4, .ref (ad (14, 3, 0)))]) C0 dL_areNumbers_572 (by decide) rfl ?_
              refine j_iconst (v := 0) C0 dL_areNumbers_574 rfl ?_
              refine j_istore (lv' := [(9, .int (0 : Int32)), (8, .int (0 : Int32)), (0, .ref (ad (0, 0, 0))), (1, .ref (ad (14, 0, 0))), (4, .ref (ad (14, 3, 0)))]) C0 dL_areNumbers_575 (by decide) rfl ?_
              exact j_sub [2, 3, 1, 0] rfl (L577 fuel X M (0 : Int32) (0 : Int32) hf)
            have hf := if_f c79 hf
            refine j_aload_n C0 dL_areNumbers_509 rfl 2 rfl ?_
            refine j_bipush (v := 6) C0 dL_areNumbers_510 rfl ?_
            refine j_iald (x := (M 0 6)) C0 al_14_0 rfl (ia hi id_l0) (by decide) (by rw [Nat.zero_add]; rfl) dL_areNumbers_512 ?_
            refine j_aload_n C0 dL_areNumbers_513 rfl 1 rfl ?_
            refine j_bipush (v := 8) C0 dL_areNumbers_514 rfl ?_
            obtain ⟨q80, hcq80, hf⟩ := bd_some hf
            refine j_callV (As := [.int (8 : Int32)]) (rest := [.int (M 0 6)]) (stk := [.int q80, .int (M 0 6)]) (G2 := (X.1, X.2, M)) C0 (c_X5_count hi (M0 := M)  hcq80) kw_L_70 bi_X5_count bx_X5_count (ia hi id_c0) oc_0 rfl ⟨by decide, by decide⟩ ⟨Nat.zero_le _, Nat.zero_le _⟩ rfl rfl (Nat.le_of_ble_eq_true rfl) rfl rfl dL_areNumbers_516 ?_
            refine j_iadd C0 dL_areNumbers_519 ?_
            refine j_bipush (v := 12) C0 dL_areNumbers_520 rfl ?_
            refine j_aload_n C0 dL_areNumbers_522 rfl 2 rfl ?_
            refine j_iconst (v := 3) C0 dL_areNumbers_523 rfl ?_
            refine j_iald (x := (M 0 3)) C0 al_14_0 rfl (ia hi id_l0) (by decide) (by rw [Nat.zero_add]; rfl) dL_areNumbers_524 ?_
            refine j_imul C0 dL_areNumbers_525 ?_
            obtain ⟨h81, hf⟩ := gd_some hf
            refine j_irem C0 dL_areNumbers_526 h81 ?_
            refine j_if_ne (tgt := 571) C0 dL_areNumbers_527 (by decide) (fun c82 => ?_) (fun c82 => ?_)
            · have hf := if_f c82 hf
              refine j_iconst (v := 0) C0 dL_areNumbers_571 rfl ?_
              refine j_istore (lv' := [(8, .int (0 : Int32)), (0, .ref (ad (0, 0, 0))), (1, .ref (ad (14, 0, 0))), (4, .ref (ad (14, 3, 0)))]) C0 dL_areNumbers_572 (by decide) rfl ?_
              refine j_iconst (v := 0) C0 dL_areNumbers_574 rfl ?_
              refine j_istore (lv' := [(9, .int (0 : Int32)), (8, .int (0 : Int32)), (0, .ref (ad (0, 0, 0))), (1, .ref (ad (14, 0, 0))), (4, .ref (ad (14, 3, 0)))]) C0 dL_areNumbers_575 (by decide) rfl ?_
              exact j_sub [2, 3, 1, 0] rfl (L577 fuel X M (0 : Int32) (0 : Int32) hf)
            have hf := if_t c82 hf
            refine j_aload_n C0 dL_areNumbers_530 rfl 1 rfl ?_
            refine j_bipush (v := 9) C0 dL_areNumbers_531 rfl ?_
            obtain ⟨q83, hcq83, hf⟩ := bd_some hf
            refine j_callV (As := [.int (9 : Int32)]) (rest := []) (stk := [.int q83]) (G2 := (X.1, X.2, M)) C0 (c_X5_count hi (M0 := M)  hcq83) kw_L_70 bi_X5_count bx_X5_count (ia hi id_c0) oc_0 rfl ⟨by decide, by decide⟩ ⟨Nat.zero_le _, Nat.zero_le _⟩ rfl rfl (Nat.le_of_ble_eq_true rfl) rfl rfl dL_areNumbers_533 ?_
            refine j_aload_n C0 dL_areNumbers_536 rfl 2 rfl ?_
            refine j_bipush (v := 17) C0 dL_areNumbers_537 rfl ?_
            refine j_iald (x := (M 0 17)) C0 al_14_0 rfl (ia hi id_l0) (by decide) (by rw [Nat.zero_add]; rfl) dL_areNumbers_539 ?_
            refine j_icmp_ne (tgt := 571) C0 dL_areNumbers_540 (by decide) (fun c84 => ?_) (fun c84 => ?_)
            · have hf := if_f c84 hf
              refine j_iconst (v := 0) C0 dL_areNumbers_571 rfl ?_
              refine j_istore (lv' := [(8, .int (0 : Int32)), (0, .ref (ad (0, 0, 0))), (1, .ref (ad (14, 0, 0))), (4, .ref (ad (14, 3, 0)))]) C0 dL_areNumbers_572 (by decide) rfl ?_
              refine j_iconst (v := 0) C0 dL_areNumbers_574 rfl ?_
              refine j_istore (lv' := [(9, .int (0 : Int32)), (8, .int (0 : Int32)), (0, .ref (ad (0, 0, 0))), (1, .ref (ad (14, 0, 0))), (4, .ref (ad (14, 3, 0)))]) C0 dL_areNumbers_575 (by decide) rfl ?_
              exact j_sub [2, 3, 1, 0] rfl (L577 fuel X M (0 : Int32) (0 : Int32) hf)
            have hf := if_t c84 hf
            refine j_aload_n C0 dL_areNumbers_543 rfl 1 rfl ?_
            refine j_bipush (v := 10) C0 dL_areNumbers_544 rfl ?_
            obtain ⟨q85, hcq85, hf⟩ := bd_some hf
            refine j_callV (As := [.int (10 : Int32)]) (rest := []) (stk := [.int q85]) (G2 := (X.1, X.2, M)) C0 (c_X5_count hi (M0 := M)  hcq85) kw_L_70 bi_X5_count bx_X5_count (ia hi id_c0) oc_0 rfl ⟨by decide, by decide⟩ ⟨Nat.zero_le _, Nat.zero_le _⟩ rfl rfl (Nat.le_of_ble_eq_true rfl) rfl rfl dL_areNumbers_546 ?_
            refine j_aload C0 dL_areNumbers_549 3 rfl ?_
            refine j_iconst (v := 0) C0 dL_areNumbers_551 rfl ?_
            refine j_iald (x := (M 3 0)) C0 al_14_3 rfl (ia hi id_l3) (by decide) (by rw [Nat.zero_add]; rfl) dL_areNumbers_552 ?_
            refine j_icmp_ne (tgt := 571) C0 dL_areNumbers_553 (by decide) (fun c86 => ?_) (fun c86 => ?_)
            · have hf := if_f c86 hf
              refine j_iconst (v := 0) C0 dL_areNumbers_571 rfl ?_
              refine j_istore (lv' := [(8, .int (0 : Int32)), (0, .ref (ad (0, 0, 0))), (1, .ref (ad (14, 0, 0))), (4, .ref (ad (14, 3, 0)))]) C0 dL_areNumbers_572 (by decide) rfl ?_
              refine j_iconst (v := 0) C0 dL_areNumbers_574 rfl ?_
              refine j_istore (lv' := [(9, .int (0 : Int32)), (8, .int (0 : Int32)), (0, .ref (ad (0, 0, 0))), (1, .ref (ad (14, 0, 0))), (4, .ref (ad (14, 3, 0)))]) C0 dL_areNumbers_575 (by decide) rfl ?_
              exact j_sub [2, 3, 1, 0] rfl (L577 fuel X M (0 : Int32) (0 : Int32) hf)
            have hf := if_t c86 hf
            refine j_aload_n C0 dL_areNumbers_556 rfl 1 rfl ?_
            refine j_bipush (v := 13) C0 dL_areNumbers_557 rfl ?_
            obtain ⟨q87, hcq87, hf⟩ := bd_some hf
            refine j_callV (As := [.int (13 : Int32)]) (rest := []) (stk := [.int q87]) (G2 := (X.1, X.2, M)) C0 (c_X5_count hi (M0 := M)  hcq87) kw_L_70 bi_X5_count bx_X5_count (ia hi id_c0) oc_0 rfl ⟨by decide, by decide⟩ ⟨Nat.zero_le _, Nat.zero_le _⟩ rfl rfl (Nat.le_of_ble_eq_true rfl) rfl rfl dL_areNumbers_559 ?_
            refine j_ldc (v := -1000001) C0 dL_areNumbers_562 cw_L_49 ?_
            refine j_icmp_ne (tgt := 571) C0 dL_areNumbers_564 (by decide) (fun c88 => ?_) (fun c88 => ?_)
            · have hf := if_f c88 hf
              refine j_iconst (v := 0) C0 dL_areNumbers_571 rfl ?_
              refine j_istore (lv' := [(8, .int (0 : Int32)), (0, .ref (ad (0, 0, 0))), (1, .ref (ad (14, 0, 0))), (4, .ref (ad (14, 3, 0)))]) C0 dL_areNumbers_572 (by decide) rfl ?_
              refine j_iconst (v := 0) C0 dL_areNumbers_574 rfl ?_
              refine j_istore (lv' := [(9, .int (0 : Int32)), (8, .int (0 : Int32)), (0, .ref (ad (0, 0, 0))), (1, .ref (ad (14, 0, 0))), (4, .ref (ad (14, 3, 0)))]) C0 dL_areNumbers_575 (by decide) rfl ?_
              exact j_sub [2, 3, 1, 0] rfl (L577 fuel X M (0 : Int32) (0 : Int32) hf)
            have hf := if_t c88 hf
            refine j_iconst (v := 1) C0 dL_areNumbers_567 rfl ?_
            refine j_goto (tgt := 572) C0 dL_areNumbers_568 (by decide) ?_
            refine j_istore (lv' := [(8, .int (1 : Int32)), (0, .ref (ad (0, 0, 0))), (1, .ref (ad (14, 0, 0))), (4, .ref (ad (14, 3, 0)))]) C0 dL_areNumbers_572 (by decide) rfl ?_
            refine j_iconst (v := 0) C0 dL_areNumbers_574 rfl ?_
            refine j_istore (lv' := [(9, .int (0 : Int32)), (8, .int (1 : Int32)), (0, .ref (ad (0, 0, 0))), (1, .ref (ad (14, 0, 0))), (4, .ref (ad (14, 3, 0)))]) C0 dL_areNumbers_575 (by decide) rfl ?_
            exact j_sub [2, 3, 1, 0] rfl (L577 fuel X M (1 : Int32) (0 : Int32) hf)
          refine j_if_eq (tgt := 477) C0 dL_areNumbers_376 (by decide) (fun c89 => ?_) (fun c89 => ?_)
          · have hsq74 := if_t c89 hsq74
            refine j_iconst (v := 0) C0 dL_areNumbers_477 rfl ?_
            obtain rfl := so hsq74
            exact j_sub [1, 2, 3] rfl Jq74
          have hsq74 := if_f c89 hsq74
          refine j_aload_n C0 dL_areNumbers_379 rfl 1 rfl ?_
          refine j_iconst (v := 0) C0 dL_areNumbers_380 rfl ?_
          obtain ⟨q90, hcq90, hsq74⟩ := bd_some hsq74
          refine j_callV (As := [.int (0 : Int32)]) (rest := []) (stk := [.int q90]) (G2 := (X.1, X.2, M)) C0 (c_X5_count hi (M0 := M)  hcq90) kw_L_70 bi_X5_count bx_X5_count (ia hi id_c0) oc_0 rfl ⟨by decide, by decide⟩ ⟨Nat.zero_le _, Nat.zero_le _⟩ rfl rfl (Nat.le_of_ble_eq_true rfl) rfl rfl dL_areNumbers_381 ?_
          refine j_aload_n C0 dL_areNumbers_384 rfl 2 rfl ?_
          refine j_bipush (v := 6) C0 dL_areNumbers_385 rfl ?_
          refine j_iald (x := (M 0 6)) C0 al_14_0 rfl (ia hi id_l0) (by decide) (by rw [Nat.zero_add]; rfl) dL_areNumbers_387 ?_
          refine j_icmp_ne (tgt := 477) C0 dL_areNumbers_388 (by decide) (fun c91 => ?_) (fun c91 => ?_)
          · have hsq74 := if_f c91 hsq74
            refine j_iconst (v := 0) C0 dL_areNumbers_477 rfl ?_
            obtain rfl := so hsq74
            exact j_sub [1, 2, 3] rfl Jq74
          have hsq74 := if_t c91 hsq74
          refine j_aload_n C0 dL_areNumbers_391 rfl 1 rfl ?_
          refine j_iconst (v := 1) C0 dL_areNumbers_392 rfl ?_
          obtain ⟨q92, hcq92, hsq74⟩ := bd_some hsq74
          refine j_callV (As := [.int (1 : Int32)]) (rest := []) (stk := [.int q92]) (G2 := (X.1, X.2, M)) C0 (c_X5_count hi (M0 := M)  hcq92) kw_L_70 bi_X5_count bx_X5_count (ia hi id_c0) oc_0 rfl ⟨by decide, by decide⟩ ⟨Nat.zero_le _, Nat.zero_le _⟩ rfl rfl (Nat.le_of_ble_eq_true rfl) rfl rfl dL_areNumbers_393 ?_
          refine j_aload_n C0 dL_areNumbers_396 rfl 2 rfl ?_
          refine j_bipush (v := 18) C0 dL_areNumbers_397 rfl ?_
          refine j_iald (x := (M 0 18)) C0 al_14_0 rfl (ia hi id_l0) (by decide) (by rw [Nat.zero_add]; rfl) dL_areNumbers_399 ?_
          refine j_icmp_ne (tgt := 477) C0 dL_areNumbers_400 (by decide) (fun c93 => ?_) (fun c93 => ?_)
          · have hsq74 := if_f c93 hsq74
            refine j_iconst (v := 0) C0 dL_areNumbers_477 rfl ?_
            obtain rfl := so hsq74
            exact j_sub [1, 2, 3] rfl Jq74
          have hsq74 := if_t c93 hsq74
          refine j_aload_n C0 dL_areNumbers_403 rfl 1 rfl ?_
          refine j_iconst (v := 2) C0 dL_areNumbers_404 rfl ?_
          obtain ⟨q94, hcq94, hsq74⟩ := bd_some hsq74
          refine j_callV (As := [.int (2 : Int32)]) (rest := []) (stk := [.int q94]) (G2 := (X.1, X.2, M)) C0 (c_X5_count hi (M0 := M)  hcq94) kw_L_70 bi_X5_count bx_X5_count (ia hi id_c0) oc_0 rfl ⟨by decide, by decide⟩ ⟨Nat.zero_le _, Nat.zero_le _⟩ rfl rfl (Nat.le_of_ble_eq_true rfl) rfl rfl dL_areNumbers_405 ?_
          refine j_iload C0 dL_areNumbers_408 4 rfl ?_
          refine j_icmp_ne (tgt := 477) C0 dL_areNumbers_410 (by decide) (fun c95 => ?_) (fun c95 => ?_)
          · have hsq74 := if_f c95 hsq74
            refine j_iconst (v := 0) C0 dL_areNumbers_477 rfl ?_
            obtain rfl := so hsq74
            exact j_sub [1, 2, 3] rfl Jq74
          have hsq74 := if_t c95 hsq74
          refine j_aload_n C0 dL_areNumbers_413 rfl 1 rfl ?_
          refine j_iconst (v := 3) C0 dL_areNumbers_414 rfl ?_
          obtain ⟨q96, hcq96, hsq74⟩ := bd_some hsq74
          refine j_callV (As := [.int (3 : Int32)]) (rest := []) (stk := [.int q96]) (G2 := (X.1, X.2, M)) C0 (c_X5_count hi (M0 := M)  hcq96) kw_L_70 bi_X5_count bx_X5_count (ia hi id_c0) oc_0 rfl ⟨by decide, by decide⟩ ⟨Nat.zero_le _, Nat.zero_le _⟩ rfl rfl (Nat.le_of_ble_eq_true rfl) rfl rfl dL_areNumbers_415 ?_
          refine j_iload C0 dL_areNumbers_418 5 rfl ?_
          refine j_icmp_ne (tgt := 477) C0 dL_areNumbers_420 (by decide) (fun c97 => ?_) (fun c97 => ?_)
          · have hsq74 := if_f c97 hsq74
            refine j_iconst (v := 0) C0 dL_areNumbers_477 rfl ?_
            obtain rfl := so hsq74
            exact j_sub [1, 2, 3] rfl Jq74
          have hsq74 := if_t c97 hsq74
          refine j_aload_n C0 dL_areNumbers_423 rfl 1 rfl ?_
          refine j_iconst (v := 4) C0 dL_areNumbers_424 rfl ?_
          obtain ⟨q98, hcq98, hsq74⟩ := bd_some hsq74
          refine j_callV (As := [.int (4 : Int32)]) (rest := []) (stk := [.int q98]) (G2 := (X.1, X.2, M)) C0 (c_X5_count hi (M0 := M)  hcq98) kw_L_70 bi_X5_count bx_X5_count (ia hi id_c0) oc_0 rfl ⟨by decide, by decide⟩ ⟨Nat.zero_le _, Nat.zero_le _⟩ rfl rfl (Nat.le_of_ble_eq_true rfl) rfl rfl dL_areNumbers_425 ?_
          refine j_aload_n C0 dL_areNumbers_428 rfl 2 rfl ?_
          refine j_bipush (v := 13) C0 dL_areNumbers_429 rfl ?_
          refine j_iald (x := (M 0 13)) C0 al_14_0 rfl (ia hi id_l0) (by decide) (by rw [Nat.zero_add]; rfl) dL_areNumbers_431 ?_
          refine j_icmp_ne (tgt := 477) C0 dL_areNumbers_432 (by decide) (fun c99 => ?_) (fun c99 => ?_)
          · have hsq74 := if_f c99 hsq74
            refine j_iconst (v := 0) C0 dL_areNumbers_477 rfl ?_
            obtain rfl := so hsq74
            exact j_sub [1, 2, 3] rfl Jq74
          have hsq74 := if_t c99 hsq74
          refine j_aload_n C0 dL_areNumbers_435 rfl 1 rfl ?_
          refine j_iconst (v := 5) C0 dL_areNumbers_436 rfl ?_
          obtain ⟨q100, hcq100, hsq74⟩ := bd_some hsq74
          refine j_callV (As := [.int (5 : Int32)]) (rest := []) (stk := [.int q100]) (G2 := (X.1, X.2, M)) C0 (c_X5_count hi (M0 := M)  hcq100) kw_L_70 bi_X5_count bx_X5_count (ia hi id_c0) oc_0 rfl ⟨by decide, by decide⟩ ⟨Nat.zero_le _, Nat.zero_le _⟩ rfl rfl (Nat.le_of_ble_eq_true rfl) rfl rfl dL_areNumbers_437 ?_
          refine j_aload_n C0 dL_areNumbers_440 rfl 2 rfl ?_
          refine j_bipush (v := 14) C0 dL_areNumbers_441 rfl ?_
          refine j_iald (x := (M 0 14)) C0 al_14_0 rfl (ia hi id_l0) (by decide) (by rw [Nat.zero_add]; rfl) dL_areNumbers_443 ?_
          refine j_icmp_ne (tgt := 477) C0 dL_areNumbers_444 (by decide) (fun c101 => ?_) (fun c101 => ?_)
          · have hsq74 := if_f c101 hsq74
            refine j_iconst (v := 0) C0 dL_areNumbers_477 rfl ?_
            obtain rfl := so hsq74
            exact j_sub [1, 2, 3] rfl Jq74
          have hsq74 := if_t c101 hsq74
          refine j_aload_n C0 dL_areNumbers_447 rfl 1 rfl ?_
          refine j_bipush (v := 6) C0 dL_areNumbers_448 rfl ?_
          obtain ⟨q102, hcq102, hsq74⟩ := bd_some hsq74
          refine j_callV (As := [.int (6 : Int32)]) (rest := []) (stk := [.int q102]) (G2 := (X.1, X.2, M)) C0 (c_X5_count hi (M0 := M)  hcq102) kw_L_70 bi_X5_count bx_X5_count (ia hi id_c0) oc_0 rfl ⟨by decide, by decide⟩ ⟨Nat.zero_le _, Nat.zero_le _⟩ rfl rfl (Nat.le_of_ble_eq_true rfl) rfl rfl dL_areNumbers_450 ?_
          refine j_aload_n C0 dL_areNumbers_453 rfl 2 rfl ?_
          refine j_bipush (v := 15) C0 dL_areNumbers_454 rfl ?_
          refine j_iald (x := (M 0 15)) C0 al_14_0 rfl (ia hi id_l0) (by decide) (by rw [Nat.zero_add]; rfl) dL_areNumbers_456 ?_
          refine j_icmp_ne (tgt := 477) C0 dL_areNumbers_457 (by decide) (fun c103 => ?_) (fun c103 => ?_)
          · have hsq74 := if_f c103 hsq74
            refine j_iconst (v := 0) C0 dL_areNumbers_477 rfl ?_
            obtain rfl := so hsq74
            exact j_sub [1, 2, 3] rfl Jq74
          have hsq74 := if_t c103 hsq74
          refine j_aload_n C0 dL_areNumbers_460 rfl 1 rfl ?_
          refine j_bipush (v := 7) C0 dL_areNumbers_461 rfl ?_
          obtain ⟨q104, hcq104, hsq74⟩ := bd_some hsq74
          refine j_callV (As := [.int (7 : Int32)]) (rest := []) (stk := [.int q104]) (G2 := (X.1, X.2, M)) C0 (c_X5_count hi (M0 := M)  hcq104) kw_L_70 bi_X5_count bx_X5_count (ia hi id_c0) oc_0 rfl ⟨by decide, by decide⟩ ⟨Nat.zero_le _, Nat.zero_le _⟩ rfl rfl (Nat.le_of_ble_eq_true rfl) rfl rfl dL_areNumbers_463 ?_
          refine j_aload_n C0 dL_areNumbers_466 rfl 2 rfl ?_
          refine j_bipush (v := 16) C0 dL_areNumbers_467 rfl ?_
          refine j_iald (x := (M 0 16)) C0 al_14_0 rfl (ia hi id_l0) (by decide) (by rw [Nat.zero_add]; rfl) dL_areNumbers_469 ?_
          refine j_icmp_ne (tgt := 477) C0 dL_areNumbers_470 (by decide) (fun c105 => ?_) (fun c105 => ?_)
          · have hsq74 := if_f c105 hsq74
            refine j_iconst (v := 0) C0 dL_areNumbers_477 rfl ?_
            obtain rfl := so hsq74
            exact j_sub [1, 2, 3] rfl Jq74
          have hsq74 := if_t c105 hsq74
          refine j_iconst (v := 1) C0 dL_areNumbers_473 rfl ?_
          refine j_goto (tgt := 478) C0 dL_areNumbers_474 (by decide) ?_
          obtain rfl := so hsq74
          exact j_sub [1, 2, 3] rfl Jq74
        refine j_if_eq (tgt := 371) C0 dL_areNumbers_295 (by decide) (fun c106 => ?_) (fun c106 => ?_)
        · have hsq73 := if_t c106 hsq73
          refine j_iconst (v := 0) C0 dL_areNumbers_371 rfl ?_
          obtain rfl := so hsq73
          exact j_sub [0, 1, 2, 3, 4] rfl Jq73
        have hsq73 := if_f c106 hsq73
        refine j_aload_n C0 dL_areNumbers_298 rfl 0 rfl ?_
        refine j_aload_n C0 dL_areNumbers_299 rfl 1 rfl ?_
        refine j_bipush (v := 18) C0 dL_areNumbers_300 rfl ?_
        refine j_iald (x := (M 0 18)) C0 al_14_0 rfl (ia hi id_l0) (by decide) (by rw [Nat.zero_add]; rfl) dL_areNumbers_302 ?_
        obtain ⟨q107, hcq107, hsq73⟩ := bd_some hsq73
        refine j_callV (As := [.int (M 0 18)]) (rest := []) (stk := [.int q107]) (G2 := (X.1, X.2, M)) C0 (c_X5_worst hi (M0 := M)  hcq107) kw_L_57 bi_X5_worst bx_X5_worst (ia hi id_c0) oc_0 rfl ⟨by decide, by decide⟩ ⟨Nat.zero_le _, Nat.zero_le _⟩ rfl rfl (Nat.le_of_ble_eq_true rfl) rfl rfl dL_areNumbers_303 ?_
        refine j_ldc (v := -1000004) C0 dL_areNumbers_306 cw_L_48 ?_
        refine j_icmp_ne (tgt := 371) C0 dL_areNumbers_308 (by decide) (fun c108 => ?_) (fun c108 => ?_)
        · have hsq73 := if_f c108 hsq73
          refine j_iconst (v := 0) C0 dL_areNumbers_371 rfl ?_
          obtain rfl := so hsq73
          exact j_sub [0, 1, 2, 3, 4] rfl Jq73
        have hsq73 := if_t c108 hsq73
        refine j_aload_n C0 dL_areNumbers_311 rfl 1 rfl ?_
        refine j_bipush (v := 18) C0 dL_areNumbers_312 rfl ?_
        refine j_iald (x := (M 0 18)) C0 al_14_0 rfl (ia hi id_l0) (by decide) (by rw [Nat.zero_add]; rfl) dL_areNumbers_314 ?_
        refine j_if_gt (tgt := 327) C0 dL_areNumbers_315 (by decide) (fun c109 => ?_) (fun c109 => ?_)
        · have hsq73 := if_t c109 hsq73
          refine j_aload_n C0 dL_areNumbers_327 rfl 1 rfl ?_
          refine j_bipush (v := 18) C0 dL_areNumbers_328 rfl ?_
          refine j_iald (x := (M 0 18)) C0 al_14_0 rfl (ia hi id_l0) (by decide) (by rw [Nat.zero_add]; rfl) dL_areNumbers_330 ?_
          refine j_iconst (v := 1) C0 dL_areNumbers_331 rfl ?_
          refine j_icmp_eq (tgt := 351) C0 dL_areNumbers_332 (by decide) (fun c110 => ?_) (fun c110 => ?_)
          · have hsq73 := if_t c110 hsq73
            refine j_aload_n C0 dL_areNumbers_351 rfl 0 rfl ?_
            obtain ⟨q111, hcq111, hsq73⟩ := bd_some hsq73
            refine j_callV (As := []) (rest := []) (stk := [.int q111]) (G2 := (X.1, X.2, M)) C0 (c_X5_mean hi (M0 := M)  hcq111) kw_L_62 bi_X5_mean bx_X5_mean (ia hi id_c0) oc_0 rfl ⟨by decide, by decide⟩ ⟨Nat.zero_le _, Nat.zero_le _⟩ rfl rfl (Nat.le_of_ble_eq_true rfl) rfl rfl dL_areNumbers_352 ?_
            refine j_iload C0 dL_areNumbers_355 5 rfl ?_
            refine j_aload_n C0 dL_areNumbers_357 rfl 1 rfl ?_
            refine j_bipush (v := 18) C0 dL_areNumbers_358 rfl ?_
            refine j_iald (x := (M 0 18)) C0 al_14_0 rfl (ia hi id_l0) (by decide) (by rw [Nat.zero_add]; rfl) dL_areNumbers_360 ?_
            obtain ⟨q112, hcq112, hsq73⟩ := bd_some hsq73
            refine j_callS (As := [.int q111, .int y7, .int (M 0 18)]) (rest := []) (stk := [.int q112]) (G2 := (X.1, X.2, M)) C0 (c_L_isMean hi (G0 := (X.1, X.2, M))  hcq112) kw_L_66 bi_L_isMean rfl ⟨by decide, by decide⟩ ⟨Nat.zero_le _, Nat.zero_le _⟩ rfl rfl (Nat.le_of_ble_eq_true rfl) rfl rfl dL_areNumbers_361 ?_
            refine j_if_eq (tgt := 371) C0 dL_areNumbers_364 (by decide) (fun c113 => ?_) (fun c113 => ?_)
            · have hsq73 := if_t c113 hsq73
              refine j_iconst (v := 0) C0 dL_areNumbers_371 rfl ?_
              obtain rfl := so hsq73
              exact j_sub [0, 1, 2, 3, 4] rfl Jq73
            have hsq73 := if_f c113 hsq73
            refine j_iconst (v := 1) C0 dL_areNumbers_367 rfl ?_
            refine j_goto (tgt := 372) C0 dL_areNumbers_368 (by decide) ?_
            obtain rfl := so hsq73
            exact j_sub [0, 1, 2, 3, 4] rfl Jq73
          have hsq73 := if_f c110 hsq73
          refine j_aload_n C0 dL_areNumbers_335 rfl 1 rfl ?_
          refine j_bipush (v := 18) C0 dL_areNumbers_336 rfl ?_
          refine j_iald (x := (M 0 18)) C0 al_14_0 rfl (ia hi id_l0) (by decide) (by rw [Nat.zero_add]; rfl) dL_areNumbers_338 ?_
          refine j_iconst (v := 2) C0 dL_areNumbers_339 rfl ?_
          refine j_icmp_eq (tgt := 351) C0 dL_areNumbers_340 (by decide) (fun c114 => ?_) (fun c114 => ?_)
          · have hsq73 := if_t c114 hsq73
            refine j_aload_n C0 dL_areNumbers_351 rfl 0 rfl ?_
            obtain ⟨q115, hcq115, hsq73⟩ := bd_some hsq73
            refine j_callV (As := []) (rest := []) (stk := [.int q115]) (G2 := (X.1, X.2, M)) C0 (c_X5_mean hi (M0 := M)  hcq115) kw_L_62 bi_X5_mean bx_X5_mean (ia hi id_c0) oc_0 rfl ⟨by decide, by decide⟩ ⟨Nat.zero_le _, Nat.zero_le _⟩ rfl rfl (Nat.le_of_ble_eq_true rfl) rfl rfl dL_areNumbers_352 ?_
            refine j_iload C0 dL_areNumbers_355 5 rfl ?_
            refine j_aload_n C0 dL_areNumbers_357 rfl 1 rfl ?_
            refine j_bipush (v := 18) C0 dL_areNumbers_358 rfl ?_
            refine j_iald (x := (M 0 18)) C0 al_14_0 rfl (ia hi id_l0) (by decide) (by rw [Nat.zero_add]; rfl) dL_areNumbers_360 ?_
            obtain ⟨q116, hcq116, hsq73⟩ := bd_some hsq73
            refine j_callS (As := [.int q115, .int y7, .int (M 0 18)]) (rest := []) (stk := [.int q116]) (G2 := (X.1, X.2, M)) C0 (c_L_isMean hi (G0 := (X.1, X.2, M))  hcq116) kw_L_66 bi_L_isMean rfl ⟨by decide, by decide⟩ ⟨Nat.zero_le _, Nat.zero_le _⟩ rfl rfl (Nat.le_of_ble_eq_true rfl) rfl rfl dL_areNumbers_361 ?_
            refine j_if_eq (tgt := 371) C0 dL_areNumbers_364 (by decide) (fun c117 => ?_) (fun c117 => ?_)
            · have hsq73 := if_t c117 hsq73
              refine j_iconst (v := 0) C0 dL_areNumbers_371 rfl ?_
              obtain rfl := so hsq73
              exact j_sub [0, 1, 2, 3, 4] rfl Jq73
            have hsq73 := if_f c117 hsq73
            refine j_iconst (v := 1) C0 dL_areNumbers_367 rfl ?_
            refine j_goto (tgt := 372) C0 dL_areNumbers_368 (by decide) ?_
            obtain rfl := so hsq73
            exact j_sub [0, 1, 2, 3, 4] rfl Jq73
          have hsq73 := if_f c114 hsq73
          refine j_aload_n C0 dL_areNumbers_343 rfl 1 rfl ?_
          refine j_bipush (v := 18) C0 dL_areNumbers_344 rfl ?_
          refine j_iald (x := (M 0 18)) C0 al_14_0 rfl (ia hi id_l0) (by decide) (by rw [Nat.zero_add]; rfl) dL_areNumbers_346 ?_
          refine j_iconst (v := 4) C0 dL_areNumbers_347 rfl ?_
          refine j_icmp_ne (tgt := 367) C0 dL_areNumbers_348 (by decide) (fun c118 => ?_) (fun c118 => ?_)
          · have hsq73 := if_f c118 hsq73
            refine j_iconst (v := 1) C0 dL_areNumbers_367 rfl ?_
            refine j_goto (tgt := 372) C0 dL_areNumbers_368 (by decide) ?_
            obtain rfl := so hsq73
            exact j_sub [0, 1, 2, 3, 4] rfl Jq73
          have hsq73 := if_t c118 hsq73
          refine j_aload_n C0 dL_areNumbers_351 rfl 0 rfl ?_
          obtain ⟨q119, hcq119, hsq73⟩ := bd_some hsq73
          refine j_callV (As := []) (rest := []) (stk := [.int q119]) (G2 := (X.1, X.2, M)) C0 (c_X5_mean hi (M0 := M)  hcq119) kw_L_62 bi_X5_mean bx_X5_mean (ia hi id_c0) oc_0 rfl ⟨by decide, by decide⟩ ⟨Nat.zero_le _, Nat.zero_le _⟩ rfl rfl (Nat.le_of_ble_eq_true rfl) rfl rfl dL_areNumbers_352 ?_
          refine j_iload C0 dL_areNumbers_355 5 rfl ?_
          refine j_aload_n C0 dL_areNumbers_357 rfl 1 rfl ?_
          refine j_bipush (v := 18) C0 dL_areNumbers_358 rfl ?_
          refine j_iald (x := (M 0 18)) C0 al_14_0 rfl (ia hi id_l0) (by decide) (by rw [Nat.zero_add]; rfl) dL_areNumbers_360 ?_
          obtain ⟨q120, hcq120, hsq73⟩ := bd_some hsq73
          refine j_callS (As := [.int q119, .int y7, .int (M 0 18)]) (rest := []) (stk := [.int q120]) (G2 := (X.1, X.2, M)) C0 (c_L_isMean hi (G0 := (X.1, X.2, M))  hcq120) kw_L_66 bi_L_isMean rfl ⟨by decide, by decide⟩ ⟨Nat.zero_le _, Nat.zero_le _⟩ rfl rfl (Nat.le_of_ble_eq_true rfl) rfl rfl dL_areNumbers_361 ?_
          refine j_if_eq (tgt := 371) C0 dL_areNumbers_364 (by decide) (fun c121 => ?_) (fun c121 => ?_)
          · have hsq73 := if_t c121 hsq73
            refine j_iconst (v := 0) C0 dL_areNumbers_371 rfl ?_
            obtain rfl := so hsq73
            exact j_sub [0, 1, 2, 3, 4] rfl Jq73
          have hsq73 := if_f c121 hsq73
          refine j_iconst (v := 1) C0 dL_areNumbers_367 rfl ?_
          refine j_goto (tgt := 372) C0 dL_areNumbers_368 (by decide) ?_
          obtain rfl := so hsq73
          exact j_sub [0, 1, 2, 3, 4] rfl Jq73
        have hsq73 := if_f c109 hsq73
        refine j_aload_n C0 dL_areNumbers_318 rfl 0 rfl ?_
        obtain ⟨q122, hcq122, hsq73⟩ := bd_some hsq73
        refine j_callV (As := []) (rest := []) (stk := [.int q122]) (G2 := (X.1, X.2, M)) C0 (c_X5_mean hi (M0 := M)  hcq122) kw_L_62 bi_X5_mean bx_X5_mean (ia hi id_c0) oc_0 rfl ⟨by decide, by decide⟩ ⟨Nat.zero_le _, Nat.zero_le _⟩ rfl rfl (Nat.le_of_ble_eq_true rfl) rfl rfl dL_areNumbers_319 ?_
        refine j_ldc (v := -1000004) C0 dL_areNumbers_322 cw_L_48 ?_
        refine j_icmp_ne (tgt := 371) C0 dL_areNumbers_324 (by decide) (fun c123 => ?_) (fun c123 => ?_)
        · have hsq73 := if_f c123 hsq73
          refine j_iconst (v := 0) C0 dL_areNumbers_371 rfl ?_
          obtain rfl := so hsq73
          exact j_sub [0, 1, 2, 3, 4] rfl Jq73
        have hsq73 := if_t c123 hsq73
        refine j_aload_n C0 dL_areNumbers_327 rfl 1 rfl ?_
        refine j_bipush (v := 18) C0 dL_areNumbers_328 rfl ?_
        refine j_iald (x := (M 0 18)) C0 al_14_0 rfl (ia hi id_l0) (by decide) (by rw [Nat.zero_add]; rfl) dL_areNumbers_330 ?_
        refine j_iconst (v := 1) C0 dL_areNumbers_331 rfl ?_
        refine j_icmp_eq (tgt := 351) C0 dL_areNumbers_332 (by decide) (fun c124 => ?_) (fun c124 => ?_)
        · have hsq73 := if_t c124 hsq73
          refine j_aload_n C0 dL_areNumbers_351 rfl 0 rfl ?_
          obtain ⟨q125, hcq125, hsq73⟩ := bd_some hsq73
          refine j_callV (As := []) (rest := []) (stk := [.int q125]) (G2 := (X.1, X.2, M)) C0 (c_X5_mean hi (M0 := M)  hcq125) kw_L_62 bi_X5_mean bx_X5_mean (ia hi id_c0) oc_0 rfl ⟨by decide, by decide⟩ ⟨Nat.zero_le _, Nat.zero_le _⟩ rfl rfl (Nat.le_of_ble_eq_true rfl) rfl rfl dL_areNumbers_352 ?_
          refine j_iload C0 dL_areNumbers_355 5 rfl ?_
          refine j_aload_n C0 dL_areNumbers_357 rfl 1 rfl ?_
          refine j_bipush (v := 18) C0 dL_areNumbers_358 rfl ?_
          refine j_iald (x := (M 0 18)) C0 al_14_0 rfl (ia hi id_l0) (by decide) (by rw [Nat.zero_add]; rfl) dL_areNumbers_360 ?_
          obtain ⟨q126, hcq126, hsq73⟩ := bd_some hsq73
          refine j_callS (As := [.int q125, .int y7, .int (M 0 18)]) (rest := []) (stk := [.int q126]) (G2 := (X.1, X.2, M)) C0 (c_L_isMean hi (G0 := (X.1, X.2, M))  hcq126) kw_L_66 bi_L_isMean rfl ⟨by decide, by decide⟩ ⟨Nat.zero_le _, Nat.zero_le _⟩ rfl rfl (Nat.le_of_ble_eq_true rfl) rfl rfl dL_areNumbers_361 ?_
          refine j_if_eq (tgt := 371) C0 dL_areNumbers_364 (by decide) (fun c127 => ?_) (fun c127 => ?_)
          · have hsq73 := if_t c127 hsq73
            refine j_iconst (v := 0) C0 dL_areNumbers_371 rfl ?_
            obtain rfl := so hsq73
            exact j_sub [0, 1, 2, 3, 4] rfl Jq73
          have hsq73 := if_f c127 hsq73
          refine j_iconst (v := 1) C0 dL_areNumbers_367 rfl ?_
          refine j_goto (tgt := 372) C0 dL_areNumbers_368 (by decide) ?_
          obtain rfl := so hsq73
          exact j_sub [0, 1, 2, 3, 4] rfl Jq73
        have hsq73 := if_f c124 hsq73
        refine j_aload_n C0 dL_areNumbers_335 rfl 1 rfl ?_
        refine j_bipush (v := 18) C0 dL_areNumbers_336 rfl ?_
        refine j_iald (x := (M 0 18)) C0 al_14_0 rfl (ia hi id_l0) (by decide) (by rw [Nat.zero_add]; rfl) dL_areNumbers_338 ?_
        refine j_iconst (v := 2) C0 dL_areNumbers_339 rfl ?_
        refine j_icmp_eq (tgt := 351) C0 dL_areNumbers_340 (by decide) (fun c128 => ?_) (fun c128 => ?_)
        · have hsq73 := if_t c128 hsq73
          refine j_aload_n C0 dL_areNumbers_351 rfl 0 rfl ?_
          obtain ⟨q129, hcq129, hsq73⟩ := bd_some hsq73
          refine j_callV (As := []) (rest := []) (stk := [.int q129]) (G2 := (X.1, X.2, M)) C0 (c_X5_mean hi (M0 := M)  hcq129) kw_L_62 bi_X5_mean bx_X5_mean (ia hi id_c0) oc_0 rfl ⟨by decide, by decide⟩ ⟨Nat.zero_le _, Nat.zero_le _⟩ rfl rfl (Nat.le_of_ble_eq_true rfl) rfl rfl dL_areNumbers_352 ?_
          refine j_iload C0 dL_areNumbers_355 5 rfl ?_
          refine j_aload_n C0 dL_areNumbers_357 rfl 1 rfl ?_
          refine j_bipush (v := 18) C0 dL_areNumbers_358 rfl ?_
          refine j_iald (x := (M 0 18)) C0 al_14_0 rfl (ia hi id_l0) (by decide) (by rw [Nat.zero_add]; rfl) dL_areNumbers_360 ?_
          obtain ⟨q130, hcq130, hsq73⟩ := bd_some hsq73
          refine j_callS (As := [.int q129, .int y7, .int (M 0 18)]) (rest := []) (stk := [.int q130]) (G2 := (X.1, X.2, M)) C0 (c_L_isMean hi (G0 := (X.1, X.2, M))  hcq130) kw_L_66 bi_L_isMean rfl ⟨by decide, by decide⟩ ⟨Nat.zero_le _, Nat.zero_le _⟩ rfl rfl (Nat.le_of_ble_eq_true rfl) rfl rfl dL_areNumbers_361 ?_
          refine j_if_eq (tgt := 371) C0 dL_areNumbers_364 (by decide) (fun c131 => ?_) (fun c131 => ?_)
          · have hsq73 := if_t c131 hsq73
            refine j_iconst (v := 0) C0 dL_areNumbers_371 rfl ?_
            obtain rfl := so hsq73
            exact j_sub [0, 1, 2, 3, 4] rfl Jq73
          have hsq73 := if_f c131 hsq73
          refine j_iconst (v := 1) C0 dL_areNumbers_367 rfl ?_
          refine j_goto (tgt := 372) C0 dL_areNumbers_368 (by decide) ?_
          obtain rfl := so hsq73
          exact j_sub [0, 1, 2, 3, 4] rfl Jq73
        have hsq73 := if_f c128 hsq73
        refine j_aload_n C0 dL_areNumbers_343 rfl 1 rfl ?_
        refine j_bipush (v := 18) C0 dL_areNumbers_344 rfl ?_
        refine j_iald (x := (M 0 18)) C0 al_14_0 rfl (ia hi id_l0) (by decide) (by rw [Nat.zero_add]; rfl) dL_areNumbers_346 ?_
        refine j_iconst (v := 4) C0 dL_areNumbers_347 rfl ?_
        refine j_icmp_ne (tgt := 367) C0 dL_areNumbers_348 (by decide) (fun c132 => ?_) (fun c132 => ?_)
        · have hsq73 := if_f c132 hsq73
          refine j_iconst (v := 1) C0 dL_areNumbers_367 rfl ?_
          refine j_goto (tgt := 372) C0 dL_areNumbers_368 (by decide) ?_
          obtain rfl := so hsq73
          exact j_sub [0, 1, 2, 3, 4] rfl Jq73
        have hsq73 := if_t c132 hsq73
        refine j_aload_n C0 dL_areNumbers_351 rfl 0 rfl ?_
        obtain ⟨q133, hcq133, hsq73⟩ := bd_some hsq73
        refine j_callV (As := []) (rest := []) (stk := [.int q133]) (G2 := (X.1, X.2, M)) C0 (c_X5_mean hi (M0 := M)  hcq133) kw_L_62 bi_X5_mean bx_X5_mean (ia hi id_c0) oc_0 rfl ⟨by decide, by decide⟩ ⟨Nat.zero_le _, Nat.zero_le _⟩ rfl rfl (Nat.le_of_ble_eq_true rfl) rfl rfl dL_areNumbers_352 ?_
        refine j_iload C0 dL_areNumbers_355 5 rfl ?_
        refine j_aload_n C0 dL_areNumbers_357 rfl 1 rfl ?_
        refine j_bipush (v := 18) C0 dL_areNumbers_358 rfl ?_
        refine j_iald (x := (M 0 18)) C0 al_14_0 rfl (ia hi id_l0) (by decide) (by rw [Nat.zero_add]; rfl) dL_areNumbers_360 ?_
        obtain ⟨q134, hcq134, hsq73⟩ := bd_some hsq73
        refine j_callS (As := [.int q133, .int y7, .int (M 0 18)]) (rest := []) (stk := [.int q134]) (G2 := (X.1, X.2, M)) C0 (c_L_isMean hi (G0 := (X.1, X.2, M))  hcq134) kw_L_66 bi_L_isMean rfl ⟨by decide, by decide⟩ ⟨Nat.zero_le _, Nat.zero_le _⟩ rfl rfl (Nat.le_of_ble_eq_true rfl) rfl rfl dL_areNumbers_361 ?_
        refine j_if_eq (tgt := 371) C0 dL_areNumbers_364 (by decide) (fun c135 => ?_) (fun c135 => ?_)
        · have hsq73 := if_t c135 hsq73
          refine j_iconst (v := 0) C0 dL_areNumbers_371 rfl ?_
          obtain rfl := so hsq73
          exact j_sub [0, 1, 2, 3, 4] rfl Jq73
        have hsq73 := if_f c135 hsq73
        refine j_iconst (v := 1) C0 dL_areNumbers_367 rfl ?_
        refine j_goto (tgt := 372) C0 dL_areNumbers_368 (by decide) ?_
        obtain rfl := so hsq73
        exact j_sub [0, 1, 2, 3, 4] rfl Jq73
      have hf := if_f c72 hf
      refine j_iconst (v := 0) C0 dL_areNumbers_203 rfl ?_
      refine j_istore (lv' := [(10, .int (0 : Int32)), (0, .ref (ad (0, 0, 0))), (1, .ref (ad (14, 0, 0))), (4, .ref (ad (14, 3, 0))), (5, .int y5), (6, .int y6), (7, .int y7), (8, .int y8), (9, .int y9)]) C0 dL_areNumbers_204 (by decide) rfl ?_
      obtain ⟨q145, hsq145, hf⟩ := bd_some hf
      have Jq145 : J D ca ad p l e ({ frames := 7, cells := 0, slots := 0, locals := 153 }) s m [.ref (ad (0, 0, 0)), .ref (ad (14, 0, 0)), .ref (ad (14, 1, 0)), .ref (ad (14, 2, 0)), .ref (ad (14, 3, 0))].toArray below meth c 0 0 (MQ below (post D ca ad (some (.int r0)) (X.1, X.2, M)) [.ref (ad (0, 0, 0)), .ref (ad (14, 0, 0)), .ref (ad (14, 1, 0)), .ref (ad (14, 2, 0)), .ref (ad (14, 3, 0))].toArray s 0 0 (adA ad)) 12 (X.1, X.2, M) 287 [(0, .ref (ad (0, 0, 0))), (1, .ref (ad (14, 0, 0))), (4, .ref (ad (14, 3, 0))), (5, .int y5), (6, .int y6), (7, .int y7), (8, .int q145), (9, .int y9)] [] := by
        refine j_iinc (v := (y9 + 1)) (lv' := [(9, .int (y9 + 1)), (0, .ref (ad (0, 0, 0))), (1, .ref (ad (14, 0, 0))), (4, .ref (ad (14, 3, 0))), (5, .int y5), (6, .int y6), (7, .int y7), (8, .int q145)]) C0 dL_areNumbers_287 7 rfl rfl (by decide) rfl ?_
        refine j_goto (tgt := 192) C0 dL_areNumbers_290 (by decide) ?_
        exact j_sub [1, 2, 3, 4, 5, 6, 7, 0] rfl (ih X M y5 y6 y7 q145 (y9 + 1) hf)
      exact j_sub [1, 2, 3, 4, 5, 6, 7, 8, 0] rfl (L206 fuel X M y5 y6 y7 y8 y9 (0 : Int32) q145 hsq145 Jq145)
  have L30 : ∀ (n : Nat) (X : XS) (M : Nat → Nat → Int32) (y5 : Int32) (y6 : Int32) (y7 : Int32) (y8 : Int32) (y9 : Int32) (y10 : Int32) (y11 : Int32) (q : Int32), fL_areNumbers_L30 n X M y5 y6 y7 y8 y9 y10 y11 = some q → J D ca ad p l e ({ frames := 7, cells := 0, slots := 0, locals := 153 }) s m [.ref (ad (0, 0, 0)), .ref (ad (14, 0, 0)), .ref (ad (14, 1, 0)), .ref (ad (14, 2, 0)), .ref (ad (14, 3, 0))].toArray below meth c 0 0 (MQ below (post D ca ad (some (.int r0)) (X.1, X.2, M)) [.ref (ad (0, 0, 0)), .ref (ad (14, 0, 0)), .ref (ad (14, 1, 0)), .ref (ad (14, 2, 0)), .ref (ad (14, 3, 0))].toArray s 0 0 (adA ad)) 12 (X.1, X.2, M) 100 [(0, .ref (ad (0, 0, 0))), (1, .ref (ad (14, 0, 0))), (2, .ref (ad (14, 1, 0))), (3, .ref (ad (14, 2, 0))), (4, .ref (ad (14, 3, 0))), (5, .int y5), (6, .int y6), (7, .int y7), (8, .int y8), (9, .int y9), (10, .int q)] [] → J D ca ad p l e ({ frames := 7, cells := 0, slots := 0, locals := 153 }) s m [.ref (ad (0, 0, 0)), .ref (ad (14, 0, 0)), .ref (ad (14, 1, 0)), .ref (ad (14, 2, 0)), .ref (ad (14, 3, 0))].toArray below meth c 0 0 (MQ below (post D ca ad (some (.int r0)) (X.1, X.2, M)) [.ref (ad (0, 0, 0)), .ref (ad (14, 0, 0)), .ref (ad (14, 1, 0)), .ref (ad (14, 2, 0)), .ref (ad (14, 3, 0))].toArray s 0 0 (adA ad)) 12 (X.1, X.2, M) 30 [(0, .ref (ad (0, 0, 0))), (1, .ref (ad (14, 0, 0))), (2, .ref (ad (14, 1, 0))), (3, .ref (ad (14, 2, 0))), (4, .ref (ad (14, 3, 0))), (5, .int y5), (6, .int y6), (7, .int y7), (8, .int y8), (9, .int y9), (10, .int y10), (11, .int y11)] [] := by
    intro n
    induction n with
    | zero =>
      intro X M y5 y6 y7 y8 y9 y10 y11 q hf kE
      exact (none_ne hf).elim
    | succ n ih =>
      intro X M y5 y6 y7 y8 y9 y10 y11 q hf kE
      rw [fL_areNumbers_L30] at hf
      refine j_iload C0 dL_areNumbers_30 11 rfl ?_
      refine j_aload_n C0 dL_areNumbers_32 rfl 1 rfl ?_
      refine j_bipush (v := 18) C0 dL_areNumbers_33 rfl ?_
      refine j_iald (x := (M 0 18)) C0 al_14_0 rfl (ia hi id_l0) (by decide) (by rw [Nat.zero_add]; rfl) dL_areNumbers_35 ?_
      refine j_icmp_ge (tgt := 100) C0 dL_areNumbers_36 (by decide) (fun c146 => ?_) (fun c146 => ?_)
      · have hf := if_t c146 hf
        obtain rfl := so hf
        exact j_sub [0, 1, 2, 3, 4, 5, 6, 7, 8, 9, 10] rfl kE
      have hf := if_f c146 hf
      refine j_iload C0 dL_areNumbers_39 10 rfl ?_
      refine j_aload_n C0 dL_areNumbers_41 rfl 1 rfl ?_
      refine j_aload_n C0 dL_areNumbers_42 rfl 2 rfl ?_
      refine j_aload_n C0 dL_areNumbers_43 rfl 3 rfl ?_
      refine j_iload C0 dL_areNumbers_44 11 rfl ?_
      obtain ⟨q147, hcq147, hf⟩ := bd_some hf
      refine j_callS (As := [.ref (ad (14, 0, 0)), .ref (ad (14, 1, 0)), .ref (ad (14, 2, 0)), .int y11]) (rest := [.int y10]) (stk := [.int q147, .int y10]) (G2 := (X.1, X.2, M)) C0 (c_L_off hi (Cc := X.1) (Bb := X.2) al_14_0 (ia hi id_l0) al_14_1 (ia hi id_l1) al_14_2 (ia hi id_l2) hcq147) kw_L_35 bi_L_off rfl ⟨by decide, by decide⟩ ⟨Nat.zero_le _, Nat.zero_le _⟩ rfl rfl (Nat.le_of_ble_eq_true rfl) rfl rfl dL_areNumbers_46 ?_
      refine j_aload_n C0 dL_areNumbers_49 rfl 1 rfl ?_
      refine j_aload_n C0 dL_areNumbers_50 rfl 2 rfl ?_
      refine j_aload_n C0 dL_areNumbers_51 rfl 3 rfl ?_
      refine j_iload C0 dL_areNumbers_52 9 rfl ?_
      obtain ⟨q148, hcq148, hf⟩ := bd_some hf
      refine j_callS (As := [.ref (ad (14, 0, 0)), .ref (ad (14, 1, 0)), .ref (ad (14, 2, 0)), .int y9]) (rest := [.int q147, .int y10]) (stk := [.int q148, .int q147, .int y10]) (G2 := (X.1, X.2, M)) C0 (c_L_off hi (Cc := X.1) (Bb := X.2) al_14_0 (ia hi id_l0) al_14_1 (ia hi id_l1) al_14_2 (ia hi id_l2) hcq148) kw_L_35 bi_L_off rfl ⟨by decide, by decide⟩ ⟨Nat.zero_le _, Nat.zero_le _⟩ rfl rfl (Nat.le_of_ble_eq_true rfl) rfl rfl dL_areNumbers_54 ?_
      refine j_icmp_gt (tgt := 86) C0 dL_areNumbers_57 (by decide) (fun c149 => ?_) (fun c149 => ?_)
      · have hf := if_t c149 hf
        refine j_iconst (v := 1) C0 dL_areNumbers_86 rfl ?_
        refine j_goto (tgt := 91) C0 dL_areNumbers_87 (by decide) ?_
        refine j_iadd C0 dL_areNumbers_91 ?_
        refine j_istore (lv' := [(10, .int (y10 + (1 : Int32))), (0, .ref (ad (0, 0, 0))), (1, .ref (ad (14, 0, 0))), (2, .ref (ad (14, 1, 0))), (3, .ref (ad (14, 2, 0))), (4, .ref (ad (14, 3, 0))), (5, .int y5), (6, .int y6), (7, .int y7), (8, .int y8), (9, .int y9), (11, .int y11)]) C0 dL_areNumbers_92 (by decide) rfl ?_
        refine j_iinc (v := (y11 + 1)) (lv' := [(11, .int (y11 + 1)), (10, .int (y10 + (1 : Int32))), (0, .ref (ad (0, 0, 0))), (1, .ref (ad (14, 0, 0))), (2, .ref (ad (14, 1, 0))), (3, .ref (ad (14, 2, 0))), (4, .ref (ad (14, 3, 0))), (5, .int y5), (6, .int y6), (7, .int y7), (8, .int y8), (9, .int y9)]) C0 dL_areNumbers_94 11 rfl rfl (by decide) rfl ?_
        refine j_goto (tgt := 30) C0 dL_areNumbers_97 (by decide) ?_
        exact j_sub [2, 3, 4, 5, 6, 7, 8, 9, 10, 11, 1, 0] rfl (ih X M y5 y6 y7 y8 y9 (y10 + (1 : Int32)) (y11 + 1) _ hf kE)
      have hf := if_f c149 hf
      refine j_aload_n C0 dL_areNumbers_60 rfl 1 rfl ?_
      refine j_aload_n C0 dL_areNumbers_61 rfl 2 rfl ?_
      refine j_aload_n C0 dL_areNumbers_62 rfl 3 rfl ?_
      refine j_iload C0 dL_areNumbers_63 11 rfl ?_
      obtain ⟨q150, hcq150, hf⟩ := bd_some hf
      refine j_callS (As := [.ref (ad (14, 0, 0)), .ref (ad (14, 1, 0)), .ref (ad (14, 2, 0)), .int y11]) (rest := [.int y10]) (stk := [.int q150, .int y10]) (G2 := (X.1, X.2, M)) C0 (c_L_off hi (Cc := X.1) (Bb := X.2) al_14_0 (ia hi id_l0) al_14_1 (ia hi id_l1) al_14_2 (ia hi id_l2) hcq150) kw_L_35 bi_L_off rfl ⟨by decide, by decide⟩ ⟨Nat.zero_le _, Nat.zero_le _⟩ rfl rfl (Nat.le_of_ble_eq_true rfl) rfl rfl dL_areNumbers_65 ?_
      refine j_aload_n C0 dL_areNumbers_68 rfl 1 rfl ?_
      refine j_aload_n C0 dL_areNumbers_69 rfl 2 rfl ?_
      refine j_aload_n C0 dL_areNumbers_70 rfl 3 rfl ?_
      refine j_iload C0 dL_areNumbers_71 9 rfl ?_
      obtain ⟨q151, hcq151, hf⟩ := bd_some hf
      refine j_callS (As := [.ref (ad (14, 0, 0)), .ref (ad (14, 1, 0)), .ref (ad (14, 2, 0)), .int y9]) (rest := [.int q150, .int y10]) (stk := [.int q151, .int q150, .int y10]) (G2 := (X.1, X.2, M)) C0 (c_L_off hi (Cc := X.1) (Bb := X.2) al_14_0 (ia hi id_l0) al_14_1 (ia hi id_l1) al_14_2 (ia hi id_l2) hcq151) kw_L_35 bi_L_off rfl ⟨by decide, by decide⟩ ⟨Nat.zero_le _, Nat.zero_le _⟩ rfl rfl (Nat.le_of_ble_eq_true rfl) rfl rfl dL_areNumbers_73 ?_
      refine j_icmp_ne (tgt := 90) C0 dL_areNumbers_76 (by decide) (fun c152 => ?_) (fun c152 => ?_)
      · have hf := if_f c152 hf
        refine j_iconst (v := 0) C0 dL_areNumbers_90 rfl ?_
        refine j_iadd C0 dL_areNumbers_91 ?_
        refine j_istore (lv' := [(10, .int (y10 + (0 : Int32))), (0, .ref (ad (0, 0, 0))), (1, .ref (ad (14, 0, 0))), (2, .ref (ad (14, 1, 0))), (3, .ref (ad (14, 2, 0))), (4, .ref (ad (14, 3, 0))), (5, .int y5), (6, .int y6), (7, .int y7), (8, .int y8), (9, .int y9), (11, .int y11)]) C0 dL_areNumbers_92 (by decide) rfl ?_
        refine j_iinc (v := (y11 + 1)) (lv' := [(11, .int (y11 + 1)), (10, .int (y10 + (0 : Int32))), (0, .ref (ad (0, 0, 0))), (1, .ref (ad (14, 0, 0))), (2, .ref (ad (14, 1, 0))), (3, .ref (ad (14, 2, 0))), (4, .ref (ad (14, 3, 0))), (5, .int y5), (6, .int y6), (7, .int y7), (8, .int y8), (9, .int y9)]) C0 dL_areNumbers_94 11 rfl rfl (by decide) rfl ?_
        refine j_goto (tgt := 30) C0 dL_areNumbers_97 (by decide) ?_
        exact j_sub [2, 3, 4, 5, 6, 7, 8, 9, 10, 11, 1, 0] rfl (ih X M y5 y6 y7 y8 y9 (y10 + (0 : Int32)) (y11 + 1) _ hf kE)
      have hf := if_t c152 hf
      refine j_iload C0 dL_areNumbers_79 11 rfl ?_
      refine j_iload C0 dL_areNumbers_81 9 rfl ?_
      refine j_icmp_ge (tgt := 90) C0 dL_areNumbers_83 (by decide) (fun c153 => ?_) (fun c153 => ?_)
      · have hf := if_t c153 hf
        refine j_iconst (v := 0) C0 dL_areNumbers_90 rfl ?_
        refine j_iadd C0 dL_areNumbers_91 ?_
        refine j_istore (lv' := [(10, .int (y10 + (0 : Int32))), (0, .ref (ad (0, 0, 0))), (1, .ref (ad (14, 0, 0))), (2, .ref (ad (14, 1, 0))), (3, .ref (ad (14, 2, 0))), (4, .ref (ad (14, 3, 0))), (5, .int y5), (6, .int y6), (7, .int y7), (8, .int y8), (9, .int y9), (11, .int y11)]) C0 dL_areNumbers_92 (by decide) rfl ?_
        refine j_iinc (v := (y11 + 1)) (lv' := [(11, .int (y11 + 1)), (10, .int (y10 + (0 : Int32))), (0, .ref (ad (0, 0, 0))), (1, .ref (ad (14, 0, 0))), (2, .ref (ad (14, 1, 0))), (3, .ref (ad (14, 2, 0))), (4, .ref (ad (14, 3, 0))), (5, .int y5), (6, .int y6), (7, .int y7), (8, .int y8), (9, .int y9)]) C0 dL_areNumbers_94 11 rfl rfl (by decide) rfl ?_
        refine j_goto (tgt := 30) C0 dL_areNumbers_97 (by decide) ?_
        exact j_sub [2, 3, 4, 5, 6, 7, 8, 9, 10, 11, 1, 0] rfl (ih X M y5 y6 y7 y8 y9 (y10 + (0 : Int32)) (y11 + 1) _ hf kE)
      have hf := if_f c153 hf
      refine j_iconst (v := 1) C0 dL_areNumbers_86 rfl ?_
      refine j_goto (tgt := 91) C0 dL_areNumbers_87 (by decide) ?_
      refine j_iadd C0 dL_areNumbers_91 ?_
      refine j_istore (lv' := [(10, .int (y10 + (1 : Int32))), (0, .ref (ad (0, 0, 0))), (1, .ref (ad (14, 0, 0))), (2, .ref (ad (14, 1, 0))), (3, .ref (ad (14, 2, 0))), (4, .ref (ad (14, 3, 0))), (5, .int y5), (6, .int y6), (7, .int y7), (8, .int y8), (9, .int y9), (11, .int y11)]) C0 dL_areNumbers_92 (by decide) rfl ?_
      refine j_iinc (v := (y11 + 1)) (lv' := [(11, .int (y11 + 1)), (10, .int (y10 + (1 : Int32))), (0, .ref (ad (0, 0, 0))), (1, .ref (ad (14, 0, 0))), (2, .ref (ad (14, 1, 0))), (3, .ref (ad (14, 2, 0))), (4, .ref (ad (14, 3, 0))), (5, .int y5), (6, .int y6), (7, .int y7), (8, .int y8), (9, .int y9)]) C0 dL_areNumbers_94 11 rfl rfl (by decide) rfl ?_
      refine j_goto (tgt := 30) C0 dL_areNumbers_97 (by decide) ?_
      exact j_sub [2, 3, 4, 5, 6, 7, 8, 9, 10, 11, 1, 0] rfl (ih X M y5 y6 y7 y8 y9 (y10 + (1 : Int32)) (y11 + 1) _ hf kE)
  have L15 : ∀ (n : Nat) (X : XS) (M : Nat → Nat → Int32) (y5 : Int32) (y6 : Int32) (y7 : Int32) (y8 : Int32) (y9 : Int32), fL_areNumbers_L15 n X M y5 y6 y7 y8 y9 = some (r0) → J D ca ad p l e ({ frames := 7, cells := 0, slots := 0, locals := 153 }) s m [.ref (ad (0, 0, 0)), .ref (ad (14, 0, 0)), .ref (ad (14, 1, 0)), .ref (ad (14, 2, 0)), .ref (ad (14, 3, 0))].toArray below meth c 0 0 (MQ below (post D ca ad (some (.int r0)) (X.1, X.2, M)) [.ref (ad (0, 0, 0)), .ref (ad (14, 0, 0)), .ref (ad (14, 1, 0)), .ref (ad (14, 2, 0)), .ref (ad (14, 3, 0))].toArray s 0 0 (adA ad)) 12 (X.1, X.2, M) 15 [(0, .ref (ad (0, 0, 0))), (1, .ref (ad (14, 0, 0))), (2, .ref (ad (14, 1, 0))), (3, .ref (ad (14, 2, 0))), (4, .ref (ad (14, 3, 0))), (5, .int y5), (6, .int y6), (7, .int y7), (8, .int y8), (9, .int y9)] [] := by
    intro n
    induction n with
    | zero =>
      intro X M y5 y6 y7 y8 y9 hf
      exact (none_ne hf).elim
    | succ n ih =>
      intro X M y5 y6 y7 y8 y9 hf
      rw [fL_areNumbers_L15] at hf
      refine j_iload C0 dL_areNumbers_15 9 rfl ?_
      refine j_aload_n C0 dL_areNumbers_17 rfl 1 rfl ?_
      refine j_bipush (v := 18) C0 dL_areNumbers_18 rfl ?_
      refine j_iald (x := (M 0 18)) C0 al_14_0 rfl (ia hi id_l0) (by decide) (by rw [Nat.zero_add]; rfl) dL_areNumbers_20 ?_
      refine j_icmp_ge (tgt := 189) C0 dL_areNumbers_21 (by decide) (fun c1 => ?_) (fun c1 => ?_)
      · have hf := if_t c1 hf
        refine j_iconst (v := 0) C0 dL_areNumbers_189 rfl ?_
        refine j_istore (lv' := [(9, .int (0 : Int32)), (0, .ref (ad (0, 0, 0))), (1, .ref (ad (14, 0, 0))), (2, .ref (ad (14, 1, 0))), (3, .ref (ad (14, 2, 0))), (4, .ref (ad (14, 3, 0))), (5, .int y5), (6, .int y6), (7, .int y7), (8, .int y8)]) C0 dL_areNumbers_190 (by decide) rfl ?_
        exact j_sub [1, 2, 5, 6, 7, 8, 9, 0] rfl (L192 fuel X M y5 y6 y7 y8 (0 : Int32) hf)
      have hf := if_f c1 hf
      refine j_iconst (v := 0) C0 dL_areNumbers_24 rfl ?_
      refine j_istore (lv' := [(10, .int (0 : Int32)), (0, .ref (ad (0, 0, 0))), (1, .ref (ad (14, 0, 0))), (2, .ref (ad (14, 1, 0))), (3, .ref (ad (14, 2, 0))), (4, .ref (ad (14, 3, 0))), (5, .int y5), (6, .int y6), (7, .int y7), (8, .int y8), (9, .int y9)]) C0 dL_areNumbers_25 (by decide) rfl ?_
      refine j_iconst (v := 0) C0 dL_areNumbers_27 rfl ?_
      refine j_istore (lv' := [(11, .int (0 : Int32)), (10, .int (0 : Int32)), (0, .ref (ad (0, 0, 0))), (1, .ref (ad (14, 0, 0))), (2, .ref (ad (14, 1, 0))), (3, .ref (ad (14, 2, 0))), (4, .ref (ad (14, 3, 0))), (5, .int y5), (6, .int y6), (7, .int y7), (8, .int y8), (9, .int y9)]) C0 dL_areNumbers_28 (by decide) rfl ?_
      obtain ⟨q154, hsq154, hf⟩ := bd_some hf
      have Jq154 : J D ca ad p l e ({ frames := 7, cells := 0, slots := 0, locals := 153 }) s m [.ref (ad (0, 0, 0)), .ref (ad (14, 0, 0)), .ref (ad (14, 1, 0)), .ref (ad (14, 2, 0)), .ref (ad (14, 3, 0))].toArray below meth c 0 0 (MQ below (post D ca ad (some (.int r0)) (X.1, X.2, M)) [.ref (ad (0, 0, 0)), .ref (ad (14, 0, 0)), .ref (ad (14, 1, 0)), .ref (ad (14, 2, 0)), .ref (ad (14, 3, 0))].toArray s 0 0 (adA ad)) 12 (X.1, X.2, M) 100 [(0, .ref (ad (0, 0, 0))), (1, .ref (ad (14, 0, 0))), (2, .ref (ad (14, 1, 0))), (3, .ref (ad (14, 2, 0))), (4, .ref (ad (14, 3, 0))), (5, .int y5), (6, .int y6), (7, .int y7), (8, .int y8), (9, .int y9), (10, .int q154)] [] := by
        refine j_iload C0 dL_areNumbers_100 8 rfl ?_
        obtain ⟨q155, hsq155, hf⟩ := bd_some hf
        have Jq155 : J D ca ad p l e ({ frames := 7, cells := 0, slots := 0, locals := 153 }) s m [.ref (ad (0, 0, 0)), .ref (ad (14, 0, 0)), .ref (ad (14, 1, 0)), .ref (ad (14, 2, 0)), .ref (ad (14, 3, 0))].toArray below meth c 0 0 (MQ below (post D ca ad (some (.int r0)) (X.1, X.2, M)) [.ref (ad (0, 0, 0)), .ref (ad (14, 0, 0)), .ref (ad (14, 1, 0)), .ref (ad (14, 2, 0)), .ref (ad (14, 3, 0))].toArray s 0 0 (adA ad)) 12 (X.1, X.2, M) 121 [(0, .ref (ad (0, 0, 0))), (1, .ref (ad (14, 0, 0))), (2, .ref (ad (14, 1, 0))), (3, .ref (ad (14, 2, 0))), (4, .ref (ad (14, 3, 0))), (5, .int y5), (6, .int y6), (7, .int y7), (9, .int y9)] [.int q155] := by
          refine j_istore (lv' := [(8, .int q155), (0, .ref (ad (0, 0, 0))), (1, .ref (ad (14, 0, 0))), (2, .ref (ad (14, 1, 0))), (3, .ref (ad (14, 2, 0))), (4, .ref (ad (14, 3, 0))), (5, .int y5), (6, .int y6), (7, .int y7), (9, .int y9)]) C0 dL_areNumbers_121 (by decide) rfl ?_
          refine j_iload C0 dL_areNumbers_123 8 rfl ?_
          refine j_aload_n C0 dL_areNumbers_125 rfl 2 rfl ?_
          refine j_aload_n C0 dL_areNumbers_126 rfl 3 rfl ?_
          refine j_aload_n C0 dL_areNumbers_127 rfl 4 rfl ?_
          refine j_iload C0 dL_areNumbers_128 9 rfl ?_
          obtain ⟨q156, hcq156, hf⟩ := bd_some hf
          refine j_callS (As := [.ref (ad (14, 0, 0)), .ref (ad (14, 1, 0)), .ref (ad (14, 2, 0)), .int y9]) (rest := [.int y7]) (stk := [.int q156, .int y7]) (G2 := (X.1, X.2, M)) C0 (c_L_off hi (Cc := X.1) (Bb := X.2) al_14_0 (ia hi id_l0) al_14_1 (ia hi id_l1) al_14_2 (ia hi id_l2) hcq156) kw_L_35 bi_L_off rfl ⟨by decide, by decide⟩ ⟨Nat.zero_le _, Nat.zero_le _⟩ rfl rfl (Nat.le_of_ble_eq_true rfl) rfl rfl dL_areNumbers_130 ?_
          refine j_iadd C0 dL_areNumbers_133 ?_
          refine j_istore (lv' := [(7, .int (y7 + q156)), (8, .int q155), (0, .ref (ad (0, 0, 0))), (1, .ref (ad (14, 0, 0))), (2, .ref (ad (14, 1, 0))), (3, .ref (ad (14, 2, 0))), (4, .ref (ad (14, 3, 0))), (5, .int y5), (6, .int y6), (9, .int y9)]) C0 dL_areNumbers_134 (by decide) rfl ?_
          refine j_iload C0 dL_areNumbers_136 7 rfl ?_
          refine j_aload_n C0 dL_areNumbers_138 rfl 3 rfl ?_
          refine j_aload_n C0 dL_areNumbers_139 rfl 4 rfl ?_
          refine j_aload_n C0 dL_areNumbers_140 rfl 5 rfl ?_
          refine j_iload C0 dL_areNumbers_141 9 rfl ?_
          obtain ⟨q157, hcq157, hf⟩ := bd_some hf
          refine j_callS (As := [.ref (ad (14, 0, 0)), .ref (ad (14, 1, 0)), .ref (ad (14, 2, 0)), .int y9]) (rest := [.int y5]) (stk := [.int q157, .int y5]) (G2 := (X.1, X.2, M)) C0 (c_L_off hi (Cc := X.1) (Bb := X.2) al_14_0 (ia hi id_l0) al_14_1 (ia hi id_l1) al_14_2 (ia hi id_l2) hcq157) kw_L_35 bi_L_off rfl ⟨by decide, by decide⟩ ⟨Nat.zero_le _, Nat.zero_le _⟩ rfl rfl (Nat.le_of_ble_eq_true rfl) rfl rfl dL_areNumbers_143 ?_
          refine j_aload_n C0 dL_areNumbers_146 rfl 3 rfl ?_
          refine j_iconst (v := 4) C0 dL_areNumbers_147 rfl ?_
          refine j_iald (x := (M 0 4)) C0 al_14_0 rfl (ia hi id_l0) (by decide) (by rw [Nat.zero_add]; rfl) dL_areNumbers_148 ?_
          obtain ⟨q158, hsq158, hf⟩ := bd_some hf
          have Jq158 : J D ca ad p l e ({ frames := 7, cells := 0, slots := 0, locals := 153 }) s m [.ref (ad (0, 0, 0)), .ref (ad (14, 0, 0)), .ref (ad (14, 1, 0)), .ref (ad (14, 2, 0)), .ref (ad (14, 3, 0))].toArray below meth c 0 0 (MQ below (post D ca ad (some (.int r0)) (X.1, X.2, M)) [.ref (ad (0, 0, 0)), .ref (ad (14, 0, 0)), .ref (ad (14, 1, 0)), .ref (ad (14, 2, 0)), .ref (ad (14, 3, 0))].toArray s 0 0 (adA ad)) 12 (X.1, X.2, M) 160 [(0, .ref (ad (0, 0, 0))), (1, .ref (ad (14, 0, 0))), (2, .ref (ad (14, 1, 0))), (3, .ref (ad (14, 2, 0))), (4, .ref (ad (14, 3, 0))), (6, .int y6), (7, .int (y7 + q156)), (8, .int q155), (9, .int y9)] [.int q158, .int y5] := by
            refine j_ior C0 dL_areNumbers_160 ?_
            refine j_istore (lv' := [(5, .int (y5 ||| q158)), (0, .ref (ad (0, 0, 0))), (1, .ref (ad (14, 0, 0))), (2, .ref (ad (14, 1, 0))), (3, .ref (ad (14, 2, 0))), (4, .ref (ad (14, 3, 0))), (6, .int y6), (7, .int (y7 + q156)), (8, .int q155), (9, .int y9)]) C0 dL_areNumbers_161 (by decide) rfl ?_
            refine j_iload C0 dL_areNumbers_163 6 rfl ?_
            refine j_aload_n C0 dL_areNumbers_165 rfl 3 rfl ?_
            refine j_iload C0 dL_areNumbers_166 9 rfl ?_
            obtain ⟨h159, hf⟩ := gd_some hf
            refine j_iald (x := (M 1 (y9.toNatClampNeg))) C0 al_14_1 rfl (ia hi id_l1) h159 (by rw [Nat.zero_add]; rfl) dL_areNumbers_168 ?_
            refine j_if_ne (tgt := 179) C0 dL_areNumbers_169 (by decide) (fun c160 => ?_) (fun c160 => ?_)
            · have hf := if_f c160 hf
              refine j_iconst (v := 0) C0 dL_areNumbers_179 rfl ?_
              refine j_ior C0 dL_areNumbers_180 ?_
              refine j_istore (lv' := [(6, .int (y6 ||| (0 : Int32))), (5, .int (y5 ||| q158)), (0, .ref (ad (0, 0, 0))), (1, .ref (ad (14, 0, 0))), (2, .ref (ad (14, 1, 0))), (3, .ref (ad (14, 2, 0))), (4, .ref (ad (14, 3, 0))), (7, .int (y7 + q156)), (8, .int q155), (9, .int y9)]) C0 dL_areNumbers_181 (by decide) rfl ?_
              refine j_iinc (v := (y9 + 1)) (lv' := [(9, .int (y9 + 1)), (6, .int (y6 ||| (0 : Int32))), (5, .int (y5 ||| q158)), (0, .ref (ad (0, 0, 0))), (1, .ref (ad (14, 0, 0))), (2, .ref (ad (14, 1, 0))), (3, .ref (ad (14, 2, 0))), (4, .ref (ad (14, 3, 0))), (7, .int (y7 + q156)), (8, .int q155)]) C0 dL_areNumbers_183 9 rfl rfl (by decide) rfl ?_
              refine j_goto (tgt := 15) C0 dL_areNumbers_186 (by decide) ?_
              exact j_sub [3, 4, 5, 6, 7, 2, 1, 8, 9, 0] rfl (ih X M (y5 ||| q158) (y6 ||| (0 : Int32)) (y7 + q156) q155 (y9 + 1) hf)
            have hf := if_t c160 hf
            refine j_iconst (v := 1) C0 dL_areNumbers_172 rfl ?_
            refine j_iload C0 dL_areNumbers_173 9 rfl ?_
            refine j_ishl C0 dL_areNumbers_175 ?_
            refine j_goto (tgt := 180) C0 dL_areNumbers_176 (by decide) ?_
            refine j_ior C0 dL_areNumbers_180 ?_
            refine j_istore (lv' := [(6, .int (y6 ||| ((1 : Int32) <<< (y9 &&& 31)))), (5, .int (y5 ||| q158)), (0, .ref (ad (0, 0, 0))), (1, .ref (ad (14, 0, 0))), (2, .ref (ad (14, 1, 0))), (3, .ref (ad (14, 2, 0))), (4, .ref (ad (14, 3, 0))), (7, .int (y7 + q156)), (8, .int q155), (9, .int y9)]) C0 dL_areNumbers_181 (by decide) rfl ?_
            refine j_iinc (v := (y9 + 1)) (lv' := [(9, .int (y9 + 1)), (6, .int (y6 ||| ((1 : Int32) <<< (y9 &&& 31)))), (5, .int (y5 ||| q158)), (0, .ref (ad (0, 0, 0))), (1, .ref (ad (14, 0, 0))), (2, .ref (ad (14, 1, 0))), (3, .ref (ad (14, 2, 0))), (4, .ref (ad (14, 3, 0))), (7, .int (y7 + q156)), (8, .int q155)]) C0 dL_areNumbers_183 9 rfl rfl (by decide) rfl ?_
            refine j_goto (tgt := 15) C0 dL_areNumbers_186 (by decide) ?_
            exact j_sub [3, 4, 5, 6, 7, 2, 1, 8, 9, 0] rfl (ih X M (y5 ||| q158) (y6 ||| ((1 : Int32) <<< (y9 &&& 31))) (y7 + q156) q155 (y9 + 1) hf)
          refine j_icmp_le (tgt := 159) C0 dL_areNumbers_149 (by decide) (fun c161 => ?_) (fun c161 => ?_)
          · have hsq158 := if_t c161 hsq158
            refine j_iconst (v := 0) C0 dL_areNumbers_159 rfl ?_
            obtain rfl := so hsq158
            exact j_sub [2, 3, 4, 5, 6, 8, 0, 1, 9] rfl Jq158
          have hsq158 := if_f c161 hsq158
          refine j_iconst (v := 1) C0 dL_areNumbers_152 rfl ?_
          refine j_iload C0 dL_areNumbers_153 9 rfl ?_
          refine j_ishl C0 dL_areNumbers_155 ?_
          refine j_goto (tgt := 160) C0 dL_areNumbers_156 (by decide) ?_
          obtain rfl := so hsq158
          exact j_sub [2, 3, 4, 5, 6, 8, 0, 1, 9] rfl Jq158
        refine j_if_eq (tgt := 120) C0 dL_areNumbers_102 (by decide) (fun c162 => ?_) (fun c162 => ?_)
        · have hsq155 := if_t c162 hsq155
          refine j_iconst (v := 0) C0 dL_areNumbers_120 rfl ?_
          obtain rfl := so hsq155
          exact j_sub [0, 1, 2, 3, 4, 5, 6, 7, 9] rfl Jq155
        have hsq155 := if_f c162 hsq155
        refine j_aload_n C0 dL_areNumbers_105 rfl 0 rfl ?_
        refine j_iload C0 dL_areNumbers_106 10 rfl ?_
        obtain ⟨q163, hcq163, hsq155⟩ := bd_some hsq155
        refine j_callV (As := [.int q154]) (rest := []) (stk := [.int q163]) (G2 := (X.1, X.2, M)) C0 (c_X5_worst hi (M0 := M)  hcq163) kw_L_57 bi_X5_worst bx_X5_worst (ia hi id_c0) oc_0 rfl ⟨by decide, by decide⟩ ⟨Nat.zero_le _, Nat.zero_le _⟩ rfl rfl (Nat.le_of_ble_eq_true rfl) rfl rfl dL_areNumbers_108 ?_
        refine j_iload C0 dL_areNumbers_111 9 rfl ?_
        refine j_icmp_ne (tgt := 120) C0 dL_areNumbers_113 (by decide) (fun c164 => ?_) (fun c164 => ?_)
        · have hsq155 := if_f c164 hsq155
          refine j_iconst (v := 0) C0 dL_areNumbers_120 rfl ?_
          obtain rfl := so hsq155
          exact j_sub [0, 1, 2, 3, 4, 5, 6, 7, 9] rfl Jq155
        have hsq155 := if_t c164 hsq155
        refine j_iconst (v := 1) C0 dL_areNumbers_116 rfl ?_
        refine j_goto (tgt := 121) C0 dL_areNumbers_117 (by decide) ?_
        obtain rfl := so hsq155
        exact j_sub [0, 1, 2, 3, 4, 5, 6, 7, 9] rfl Jq155
      exact j_sub [2, 3, 4, 5, 6, 7, 8, 9, 10, 11, 1, 0] rfl (L30 fuel X M y5 y6 y7 y8 y9 (0 : Int32) (0 : Int32) q154 hsq154 Jq154)
  unfold fL_areNumbers at hf
  refine j_iconst (v := 0) C0 dL_areNumbers_0 rfl ?_
  refine j_istore (lv' := [(5, .int (0 : Int32)), (0, .ref (ad (0, 0, 0))), (1, .ref (ad (14, 0, 0))), (2, .ref (ad (14, 1, 0))), (3, .ref (ad (14, 2, 0))), (4, .ref (ad (14, 3, 0)))]) C0 dL_areNumbers_1 (by decide) rfl ?_
  refine j_iconst (v := 0) C0 dL_areNumbers_3 rfl ?_
  refine j_istore (lv' := [(6, .int (0 : Int32)), (5, .int (0 : Int32)), (0, .ref (ad (0, 0, 0))), (1, .ref (ad (14, 0, 0))), (2, .ref (ad (14, 1, 0))), (3, .ref (ad (14, 2, 0))), (4, .ref (ad (14, 3, 0)))]) C0 dL_areNumbers_4 (by decide) rfl ?_
  refine j_iconst (v := 0) C0 dL_areNumbers_6 rfl ?_
  refine j_istore (lv' := [(7, .int (0 : Int32)), (6, .int (0 : Int32)), (5, .int (0 : Int32)), (0, .ref (ad (0, 0, 0))), (1, .ref (ad (14, 0, 0))), (2, .ref (ad (14, 1, 0))), (3, .ref (ad (14, 2, 0))), (4, .ref (ad (14, 3, 0)))]) C0 dL_areNumbers_7 (by decide) rfl ?_
  refine j_iconst (v := 1) C0 dL_areNumbers_9 rfl ?_
  refine j_istore (lv' := [(8, .int (1 : Int32)), (7, .int (0 : Int32)), (6, .int (0 : Int32)), (5, .int (0 : Int32)), (0, .ref (ad (0, 0, 0))), (1, .ref (ad (14, 0, 0))), (2, .ref (ad (14, 1, 0))), (3, .ref (ad (14, 2, 0))), (4, .ref (ad (14, 3, 0)))]) C0 dL_areNumbers_10 (by decide) rfl ?_
  refine j_iconst (v := 0) C0 dL_areNumbers_12 rfl ?_
  refine j_istore (lv' := [(9, .int (0 : Int32)), (8, .int (1 : Int32)), (7, .int (0 : Int32)), (6, .int (0 : Int32)), (5, .int (0 : Int32)), (0, .ref (ad (0, 0, 0))), (1, .ref (ad (14, 0, 0))), (2, .ref (ad (14, 1, 0))), (3, .ref (ad (14, 2, 0))), (4, .ref (ad (14, 3, 0)))]) C0 dL_areNumbers_13 (by decide) rfl ?_
  exact j_sub [5, 6, 7, 8, 9, 4, 3, 2, 1, 0] rfl (L15 fuel X M (0 : Int32) (0 : Int32) (0 : Int32) (1 : Int32) (0 : Int32) hf)

set_option maxHeartbeats 4000000 in
set_option maxRecDepth 100000 in
theorem c_L_copy {l : Launch} {D : va_G} {ca : Nat → ClassId} {ad : I3 → Nat} (hi : adI ad) {Cc : Nat → Nat → Int32} {Bb : Nat → Fin 9} {M : Nat → Nat → Int32} {a1 : Nat} {n1 : Nat} {a2 : Nat} {n2 : Nat} {M' : Nat → Nat → Int32} (al1 : AL ca ad (14, a1, 0) 0 n1 true a1 0) (hid1 : (14, a1, 0) ∈ idA ad) (al2 : AL ca ad (14, a2, 0) 0 n2 true a2 0) (hid2 : (14, a2, 0) ∈ idA ad) (hf : fL_copy M a1 n1 a2 n2 = some (M')) : MT l D ca ad yL_copy cL_copy 3 none 0 0 [.ref (ad (14, a1, 0)), .ref (ad (14, a2, 0))] (Cc, Bb, M) none (Cc, Bb, M') := by
  refine met_J (lv := [(0, .ref (ad (14, a1, 0))), (1, .ref (ad (14, a2, 0)))]) hi (by decide +kernel) (Nat.le_of_ble_eq_true rfl) rfl (fun p e s m below meth c C0 hr => ?_)
  have L2 : ∀ (n : Nat) (M : Nat → Nat → Int32) (y2 : Int32), fL_copy_L2 a1 n1 a2 n2 n M y2 = some (M') → J D ca ad p l e ({ frames := 0, cells := 0, slots := 0, locals := 0 }) s m [.ref (ad (14, a1, 0)), .ref (ad (14, a2, 0))].toArray below meth c 0 0 (MQ below (post D ca ad none (Cc, Bb, M')) [.ref (ad (14, a1, 0)), .ref (ad (14, a2, 0))].toArray s 0 0 (adA ad)) 3 (Cc, Bb, M) 2 [(0, .ref (ad (14, a1, 0))), (1, .ref (ad (14, a2, 0))), (2, .int y2)] [] := by
    intro n
    induction n with
    | zero =>
      intro M y2 hf
      exact (none_ne hf).elim
    | succ n ih =>
      intro M y2 hf
      rw [fL_copy_L2] at hf
      refine j_iload_n C0 dL_copy_2 rfl 2 rfl ?_
      refine j_aload_n C0 dL_copy_3 rfl 0 rfl ?_
      refine j_alen (v := (Int32.ofNat n1)) C0 al1 rfl hid1 rfl dL_copy_4 ?_
      refine j_icmp_ge (tgt := 20) C0 dL_copy_5 (by decide) (fun c1 => ?_) (fun c1 => ?_)
      · have hf := if_t c1 hf
        exact j_vret C0 hr dL_copy_20 (congrArg (fun z => (Cc, Bb, z)) (so hf))
      have hf := if_f c1 hf
      refine j_aload_n C0 dL_copy_8 rfl 1 rfl ?_
      refine j_iload_n C0 dL_copy_9 rfl 2 rfl ?_
      refine j_aload_n C0 dL_copy_10 rfl 0 rfl ?_
      refine j_iload_n C0 dL_copy_11 rfl 2 rfl ?_
      obtain ⟨h2, hf⟩ := gd_some hf
      refine j_iald (x := (M a1 (y2.toNatClampNeg))) C0 al1 rfl hid1 h2 (by rw [Nat.zero_add]; rfl) dL_copy_12 ?_
      obtain ⟨h3, hf⟩ := gd_some hf
      obtain ⟨M4, e5, hf⟩ := lt_some hf
      refine j_iast (G' := (Cc, Bb, M4)) C0 al2 rfl hid2 h3 (by rw [Nat.zero_add]; exact (eM_set e5)) dL_copy_13 ?_
      refine j_iinc (v := (y2 + 1)) (lv' := [(2, .int (y2 + 1)), (0, .ref (ad (14, a1, 0))), (1, .ref (ad (14, a2, 0)))]) C0 dL_copy_14 2 rfl rfl (by decide) rfl ?_
      refine j_goto (tgt := 2) C0 dL_copy_17 (by decide) ?_
      exact j_sub [1, 2, 0] rfl (ih M4 (y2 + 1) hf)
  unfold fL_copy at hf
  refine j_iconst (v := 0) C0 dL_copy_0 rfl ?_
  refine j_istore_n (lv' := [(2, .int (0 : Int32)), (0, .ref (ad (14, a1, 0))), (1, .ref (ad (14, a2, 0)))]) C0 dL_copy_1 rfl (by decide) rfl ?_
  exact j_sub [1, 2, 0] rfl (L2 fuel M (0 : Int32) hf)

set_option maxHeartbeats 4000000 in
set_option maxRecDepth 100000 in
theorem c_L_adds {l : Launch} {D : va_G} {ca : Nat → ClassId} {ad : I3 → Nat} (hi : adI ad) {X : XS} {M : Nat → Nat → Int32} {x5 : Int32} {x6 : Int32} {r0 : Int32} {X' : XS} {M' : Nat → Nat → Int32}  (hf : fL_adds X M x5 x6 = some (r0, X', M')) : MT l D ca ad yL_adds cL_adds 11 (some .boolean) 5 109 [.ref (ad (0, 0, 0)), .ref (ad (14, 0, 0)), .ref (ad (14, 1, 0)), .ref (ad (14, 2, 0)), .int x5, .int x6] (X.1, X.2, M) (some (.int r0)) (X'.1, X'.2, M') := by
  refine met_J (lv := [(0, .ref (ad (0, 0, 0))), (1, .ref (ad (14, 0, 0))), (2, .ref (ad (14, 1, 0))), (3, .ref (ad (14, 2, 0))), (4, .int x5), (5, .int x6)]) hi (by decide +kernel) (Nat.le_of_ble_eq_true rfl) rfl (fun p e s m below meth c C0 hr => ?_)
  unfold fL_adds at hf
  refine j_iload C0 dL_adds_0 4 rfl ?_
  refine j_iconst (v := 3) C0 dL_adds_2 rfl ?_
  obtain ⟨q1, hcq1, hf⟩ := bd_some hf
  refine j_callS (As := [.int x5, .int (3 : Int32)]) (rest := []) (stk := [.int q1]) (G2 := (X.1, X.2, M)) C0 (c_L_low hi (G0 := (X.1, X.2, M))  hcq1) kw_L_85 bi_L_low rfl ⟨by decide, by decide⟩ ⟨Nat.zero_le _, Nat.zero_le _⟩ rfl rfl (Nat.le_of_ble_eq_true rfl) rfl rfl dL_adds_3 ?_
  refine j_istore (lv' := [(6, .int q1), (0, .ref (ad (0, 0, 0))), (1, .ref (ad (14, 0, 0))), (2, .ref (ad (14, 1, 0))), (3, .ref (ad (14, 2, 0))), (4, .int x5), (5, .int x6)]) C0 dL_adds_6 (by decide) rfl ?_
  refine j_iconst (v := 1) C0 dL_adds_8 rfl ?_
  refine j_iload C0 dL_adds_9 6 rfl ?_
  refine j_bipush (v := 61) C0 dL_adds_11 rfl ?_
  obtain ⟨q2, hcq2, hf⟩ := bd_some hf
  refine j_callS (As := [.int x6, .int (61 : Int32)]) (rest := [.int (1 : Int32)]) (stk := [.int q2, .int (1 : Int32)]) (G2 := (X.1, X.2, M)) C0 (c_L_low hi (G0 := (X.1, X.2, M))  hcq2) kw_L_85 bi_L_low rfl ⟨by decide, by decide⟩ ⟨Nat.zero_le _, Nat.zero_le _⟩ rfl rfl (Nat.le_of_ble_eq_true rfl) rfl rfl dL_adds_13 ?_
  refine j_iadd C0 dL_adds_16 ?_
  refine j_istore (lv' := [(7, .int ((1 : Int32) + q2)), (6, .int q1), (0, .ref (ad (0, 0, 0))), (1, .ref (ad (14, 0, 0))), (2, .ref (ad (14, 1, 0))), (3, .ref (ad (14, 2, 0))), (4, .int x5), (5, .int x6)]) C0 dL_adds_17 (by decide) rfl ?_
  refine j_iconst (v := 1) C0 dL_adds_19 rfl ?_
  refine j_iload C0 dL_adds_20 7 rfl ?_
  refine j_bipush (v := 7) C0 dL_adds_22 rfl ?_
  refine j_ishr C0 dL_adds_24 ?_
  refine j_iload C0 dL_adds_25 6 rfl ?_
  refine j_iconst (v := 3) C0 dL_adds_27 rfl ?_
  refine j_ishr C0 dL_adds_28 ?_
  refine j_iconst (v := 3) C0 dL_adds_29 rfl ?_
  obtain ⟨q3, hcq3, hf⟩ := bd_some hf
  refine j_callS (As := [.int (x5 >>> ((3 : Int32) &&& 31)), .int (3 : Int32)]) (rest := [.int (x6 >>> ((7 : Int32) &&& 31)), .int (1 : Int32)]) (stk := [.int q3, .int (x6 >>> ((7 : Int32) &&& 31)), .int (1 : Int32)]) (G2 := (X.1, X.2, M)) C0 (c_L_low hi (G0 := (X.1, X.2, M))  hcq3) kw_L_85 bi_L_low rfl ⟨by decide, by decide⟩ ⟨Nat.zero_le _, Nat.zero_le _⟩ rfl rfl (Nat.le_of_ble_eq_true rfl) rfl rfl dL_adds_30 ?_
  obtain ⟨q4, hsq4, hf⟩ := bd_some hf
  have Jq4 : J D ca ad p l e ({ frames := 5, cells := 0, slots := 0, locals := 109 }) s m [.ref (ad (0, 0, 0)), .ref (ad (14, 0, 0)), .ref (ad (14, 1, 0)), .ref (ad (14, 2, 0)), .int x5, .int x6].toArray below meth c 0 0 (MQ below (post D ca ad (some (.int r0)) (X'.1, X'.2, M')) [.ref (ad (0, 0, 0)), .ref (ad (14, 0, 0)), .ref (ad (14, 1, 0)), .ref (ad (14, 2, 0)), .int x5, .int x6].toArray s 0 0 (adA ad)) 11 (X.1, X.2, M) 44 [(0, .ref (ad (0, 0, 0))), (1, .ref (ad (14, 0, 0))), (2, .ref (ad (14, 1, 0))), (3, .ref (ad (14, 2, 0))), (6, .int q1), (7, .int ((1 : Int32) + q2))] [.int q4, .int (x6 >>> ((7 : Int32) &&& 31)), .int (1 : Int32)] := by
    obtain ⟨q5, hcq5, hf⟩ := bd_some hf
    refine j_callS (As := [.int (x6 >>> ((7 : Int32) &&& 31)), .int q4]) (rest := [.int (1 : Int32)]) (stk := [.int q5, .int (1 : Int32)]) (G2 := (X.1, X.2, M)) C0 (c_L_low hi (G0 := (X.1, X.2, M))  hcq5) kw_L_85 bi_L_low rfl ⟨by decide, by decide⟩ ⟨Nat.zero_le _, Nat.zero_le _⟩ rfl rfl (Nat.le_of_ble_eq_true rfl) rfl rfl dL_adds_44 ?_
    refine j_iadd C0 dL_adds_47 ?_
    refine j_istore (lv' := [(8, .int ((1 : Int32) + q5)), (0, .ref (ad (0, 0, 0))), (1, .ref (ad (14, 0, 0))), (2, .ref (ad (14, 1, 0))), (3, .ref (ad (14, 2, 0))), (6, .int q1), (7, .int ((1 : Int32) + q2))]) C0 dL_adds_48 (by decide) rfl ?_
    refine j_iload C0 dL_adds_50 6 rfl ?_
    refine j_bipush (v := 60) C0 dL_adds_52 rfl ?_
    obtain ⟨q6, hsq6, hf⟩ := bd_some hf
    have Jq6 : J D ca ad p l e ({ frames := 5, cells := 0, slots := 0, locals := 109 }) s m [.ref (ad (0, 0, 0)), .ref (ad (14, 0, 0)), .ref (ad (14, 1, 0)), .ref (ad (14, 2, 0)), .int x5, .int x6].toArray below meth c 0 0 (MQ below (post D ca ad (some (.int r0)) (X'.1, X'.2, M')) [.ref (ad (0, 0, 0)), .ref (ad (14, 0, 0)), .ref (ad (14, 1, 0)), .ref (ad (14, 2, 0)), .int x5, .int x6].toArray s 0 0 (adA ad)) 11 (X.1, X.2, M) 87 [(0, .ref (ad (0, 0, 0))), (1, .ref (ad (14, 0, 0))), (2, .ref (ad (14, 1, 0))), (3, .ref (ad (14, 2, 0))), (6, .int q1), (7, .int ((1 : Int32) + q2)), (8, .int ((1 : Int32) + q5))] [.int q6] := by
      refine j_istore (lv' := [(9, .int q6), (0, .ref (ad (0, 0, 0))), (1, .ref (ad (14, 0, 0))), (2, .ref (ad (14, 1, 0))), (3, .ref (ad (14, 2, 0))), (6, .int q1), (7, .int ((1 : Int32) + q2)), (8, .int ((1 : Int32) + q5))]) C0 dL_adds_87 (by decide) rfl ?_
      refine j_iload C0 dL_adds_89 0 rfl ?_
      obtain ⟨q7, hsq7, hf⟩ := bd_some hf
      have Jq7 : J D ca ad p l e ({ frames := 5, cells := 0, slots := 0, locals := 109 }) s m [.ref (ad (0, 0, 0)), .ref (ad (14, 0, 0)), .ref (ad (14, 1, 0)), .ref (ad (14, 2, 0)), .int x5, .int x6].toArray below meth c 0 0 (MQ below (post D ca ad (some (.int r0)) (X'.1, X'.2, M')) [.ref (ad (0, 0, 0)), .ref (ad (14, 0, 0)), .ref (ad (14, 1, 0)), .ref (ad (14, 2, 0)), .int x5, .int x6].toArray s 0 0 (adA ad)) 11 (X.1, X.2, q7) 159 [(0, .ref (ad (0, 0, 0))), (6, .int q1), (7, .int ((1 : Int32) + q2)), (8, .int ((1 : Int32) + q5)), (9, .int q6)] [] := by
        refine j_aload_n C0 dL_adds_159 rfl 0 rfl ?_
        refine j_iload C0 dL_adds_160 1 rfl ?_
        refine j_iload C0 dL_adds_162 2 rfl ?_
        refine j_iload C0 dL_adds_164 3 rfl ?_
        obtain ⟨q8, hcq8, hf⟩ := bd_some hf
        refine j_callV (As := [.int q1, .int ((1 : Int32) + q2), .int ((1 : Int32) + q5)]) (rest := []) (stk := [.int q8.1]) (G2 := (q8.2.1, q8.2.2, q7)) C0 (c_X5_clock hi (M0 := q7)  hcq8) kw_L_97 bi_X5_clock bx_X5_clock (ia hi id_c0) oc_0 rfl ⟨by decide, by decide⟩ ⟨Nat.zero_le _, Nat.zero_le _⟩ rfl rfl (Nat.le_of_ble_eq_true rfl) rfl rfl dL_adds_166 ?_
        refine j_iload C0 dL_adds_169 4 rfl ?_
        refine j_icmp_ne (tgt := 178) C0 dL_adds_171 (by decide) (fun c9 => ?_) (fun c9 => ?_)
        · have hf := if_f c9 hf
          refine j_iconst (v := 0) C0 dL_adds_178 rfl ?_
          exact j_zret C0 hr rfl dL_adds_179 (pr1 hf) (congrArg (fun z => (z.1.1, z.1.2, z.2)) (pr2 hf))
        have hf := if_t c9 hf
        refine j_iconst (v := 1) C0 dL_adds_174 rfl ?_
        refine j_goto (tgt := 179) C0 dL_adds_175 (by decide) ?_
        exact j_zret C0 hr rfl dL_adds_179 (pr1 hf) (congrArg (fun z => (z.1.1, z.1.2, z.2)) (pr2 hf))
      refine j_if_lt (tgt := 159) C0 dL_adds_91 (by decide) (fun c10 => ?_) (fun c10 => ?_)
      · have hsq7 := if_t c10 hsq7
        obtain rfl := so hsq7
        exact j_sub [1, 5, 6, 7, 0] rfl Jq7
      have hsq7 := if_f c10 hsq7
      refine j_aload_n C0 dL_adds_94 rfl 2 rfl ?_
      refine j_bipush (v := 18) C0 dL_adds_95 rfl ?_
      refine j_iald (x := (M 0 18)) C0 al_14_0 rfl (ia hi id_l0) (by decide) (by rw [Nat.zero_add]; rfl) dL_adds_97 ?_
      refine j_istore (lv' := [(10, .int (M 0 18)), (9, .int q6), (0, .ref (ad (0, 0, 0))), (1, .ref (ad (14, 0, 0))), (2, .ref (ad (14, 1, 0))), (3, .ref (ad (14, 2, 0))), (6, .int q1), (7, .int ((1 : Int32) + q2)), (8, .int ((1 : Int32) + q5))]) C0 dL_adds_98 (by decide) rfl ?_
      refine j_aload_n C0 dL_adds_100 rfl 3 rfl ?_
      refine j_bipush (v := 18) C0 dL_adds_101 rfl ?_
      refine j_dup2 C0 dL_adds_103 rfl rfl ?_
      refine j_iald (x := (M 0 18)) C0 al_14_0 rfl (ia hi id_l0) (by decide) (by rw [Nat.zero_add]; rfl) dL_adds_104 ?_
      refine j_iconst (v := 1) C0 dL_adds_105 rfl ?_
      refine j_iadd C0 dL_adds_106 ?_
      obtain ⟨M11, e12, hsq7⟩ := lt_some hsq7
      refine j_iast (G' := (X.1, X.2, M11)) C0 al_14_0 rfl (ia hi id_l0) (by decide) (by rw [Nat.zero_add]; exact (eM_set e12)) dL_adds_107 ?_
      refine j_aload_n C0 dL_adds_108 rfl 4 rfl ?_
      refine j_bipush (v := 10) C0 dL_adds_109 rfl ?_
      refine j_iload C0 dL_adds_111 0 rfl ?_
      refine j_iadd C0 dL_adds_113 ?_
      refine j_iload C0 dL_adds_114 7 rfl ?_
      obtain ⟨h13, hsq7⟩ := gd_some hsq7
      obtain ⟨M14, e15, hsq7⟩ := lt_some hsq7
      refine j_iast (G' := (X.1, X.2, M14)) C0 al_14_1 rfl (ia hi id_l1) h13 (by rw [Nat.zero_add]; exact (eM_set e15)) dL_adds_116 ?_
      refine j_aload_n C0 dL_adds_117 rfl 4 rfl ?_
      refine j_bipush (v := 15) C0 dL_adds_118 rfl ?_
      refine j_iload C0 dL_adds_120 0 rfl ?_
      refine j_iadd C0 dL_adds_122 ?_
      refine j_iload C0 dL_adds_123 8 rfl ?_
      obtain ⟨h16, hsq7⟩ := gd_some hsq7
      obtain ⟨M17, e18, hsq7⟩ := lt_some hsq7
      refine j_iast (G' := (X.1, X.2, M17)) C0 al_14_1 rfl (ia hi id_l1) h16 (by rw [Nat.zero_add]; exact (eM_set e18)) dL_adds_125 ?_
      refine j_aload_n C0 dL_adds_126 rfl 4 rfl ?_
      refine j_bipush (v := 20) C0 dL_adds_127 rfl ?_
      refine j_iload C0 dL_adds_129 0 rfl ?_
      refine j_iadd C0 dL_adds_131 ?_
      refine j_iload C0 dL_adds_132 6 rfl ?_
      obtain ⟨h19, hsq7⟩ := gd_some hsq7
      obtain ⟨M20, e21, hsq7⟩ := lt_some hsq7
      refine j_iast (G' := (X.1, X.2, M20)) C0 al_14_1 rfl (ia hi id_l1) h19 (by rw [Nat.zero_add]; exact (eM_set e21)) dL_adds_134 ?_
      refine j_aload_n C0 dL_adds_135 rfl 4 rfl ?_
      refine j_bipush (v := 25) C0 dL_adds_136 rfl ?_
      refine j_iload C0 dL_adds_138 0 rfl ?_
      refine j_iadd C0 dL_adds_140 ?_
      refine j_iload C0 dL_adds_141 0 rfl ?_
      obtain ⟨h22, hsq7⟩ := gd_some hsq7
      obtain ⟨M23, e24, hsq7⟩ := lt_some hsq7
      refine j_iast (G' := (X.1, X.2, M23)) C0 al_14_1 rfl (ia hi id_l1) h22 (by rw [Nat.zero_add]; exact (eM_set e24)) dL_adds_143 ?_
      refine j_aload_n C0 dL_adds_144 rfl 5 rfl ?_
      refine j_bipush (v := 30) C0 dL_adds_145 rfl ?_
      refine j_iload C0 dL_adds_147 0 rfl ?_
      refine j_iadd C0 dL_adds_149 ?_
      refine j_aload_n C0 dL_adds_150 rfl 3 rfl ?_
      refine j_bipush (v := 6) C0 dL_adds_151 rfl ?_
      refine j_iald (x := (M23 0 6)) C0 al_14_0 rfl (ia hi id_l0) (by decide) (by rw [Nat.zero_add]; rfl) dL_adds_153 ?_
      refine j_aload_n C0 dL_adds_154 rfl 3 rfl ?_
      refine j_iconst (v := 3) C0 dL_adds_155 rfl ?_
      refine j_iald (x := (M23 0 3)) C0 al_14_0 rfl (ia hi id_l0) (by decide) (by rw [Nat.zero_add]; rfl) dL_adds_156 ?_
      obtain ⟨h25, hsq7⟩ := gd_some hsq7
      refine j_idiv C0 dL_adds_157 h25 ?_
      obtain ⟨h26, hsq7⟩ := gd_some hsq7
      obtain ⟨M27, e28, hsq7⟩ := lt_some hsq7
      refine j_iast (G' := (X.1, X.2, M27)) C0 al_14_2 rfl (ia hi id_l2) h26 (by rw [Nat.zero_add]; exact (eM_set e28)) dL_adds_158 ?_
      obtain rfl := so hsq7
      exact j_sub [2, 6, 7, 8, 1] rfl Jq7
    refine j_icmp_gt (tgt := 65) C0 dL_adds_54 (by decide) (fun c29 => ?_) (fun c29 => ?_)
    · have hsq6 := if_t c29 hsq6
      refine j_ldc (v := -1000001) C0 dL_adds_65 cw_L_49 ?_
      refine j_goto (tgt := 87) C0 dL_adds_67 (by decide) ?_
      obtain rfl := so hsq6
      exact j_sub [1, 2, 3, 4, 5, 6, 0] rfl Jq6
    have hsq6 := if_f c29 hsq6
    refine j_iload C0 dL_adds_57 0 rfl ?_
    refine j_sipush (v := 500) C0 dL_adds_59 rfl ?_
    refine j_icmp_le (tgt := 70) C0 dL_adds_62 (by decide) (fun c30 => ?_) (fun c30 => ?_)
    · have hsq6 := if_t c30 hsq6
      refine j_aload_n C0 dL_adds_70 rfl 2 rfl ?_
      refine j_bipush (v := 18) C0 dL_adds_71 rfl ?_
      refine j_iald (x := (M 0 18)) C0 al_14_0 rfl (ia hi id_l0) (by decide) (by rw [Nat.zero_add]; rfl) dL_adds_73 ?_
      refine j_iconst (v := 5) C0 dL_adds_74 rfl ?_
      refine j_icmp_ne (tgt := 83) C0 dL_adds_75 (by decide) (fun c31 => ?_) (fun c31 => ?_)
      · have hsq6 := if_f c31 hsq6
        refine j_aload_n C0 dL_adds_83 rfl 2 rfl ?_
        refine j_bipush (v := 18) C0 dL_adds_84 rfl ?_
        refine j_iald (x := (M 0 18)) C0 al_14_0 rfl (ia hi id_l0) (by decide) (by rw [Nat.zero_add]; rfl) dL_adds_86 ?_
        obtain rfl := so hsq6
        exact j_sub [1, 2, 3, 4, 5, 6, 0] rfl Jq6
      have hsq6 := if_t c31 hsq6
      refine j_ldc (v := -1000003) C0 dL_adds_78 cw_L_96 ?_
      refine j_goto (tgt := 87) C0 dL_adds_80 (by decide) ?_
      obtain rfl := so hsq6
      exact j_sub [1, 2, 3, 4, 5, 6, 0] rfl Jq6
    have hsq6 := if_f c30 hsq6
    refine j_ldc (v := -1000001) C0 dL_adds_65 cw_L_49 ?_
    refine j_goto (tgt := 87) C0 dL_adds_67 (by decide) ?_
    obtain rfl := so hsq6
    exact j_sub [1, 2, 3, 4, 5, 6, 0] rfl Jq6
  refine j_if_ne (tgt := 42) C0 dL_adds_33 (by decide) (fun c32 => ?_) (fun c32 => ?_)
  · have hsq4 := if_f c32 hsq4
    refine j_bipush (v := 60) C0 dL_adds_42 rfl ?_
    obtain rfl := so hsq4
    exact j_sub [2, 3, 4, 5, 1, 0] rfl Jq4
  have hsq4 := if_t c32 hsq4
  refine j_sipush (v := 501) C0 dL_adds_36 rfl ?_
  refine j_goto (tgt := 44) C0 dL_adds_39 (by decide) ?_
  obtain rfl := so hsq4
  exact j_sub [2, 3, 4, 5, 1, 0] rfl Jq4

set_option maxHeartbeats 4000000 in
set_option maxRecDepth 100000 in
theorem c_L_leads {l : Launch} {D : va_G} {ca : Nat → ClassId} {ad : I3 → Nat} (hi : adI ad) {X : XS} {M : Nat → Nat → Int32} {x4 : Int32} {r0 : Int32} {X' : XS} {M' : Nat → Nat → Int32}  (hf : fL_leads X M x4 = some (r0, X', M')) : MT l D ca ad yL_leads cL_leads 7 (some .boolean) 4 87 [.ref (ad (0, 0, 0)), .ref (ad (14, 0, 0)), .ref (ad (14, 1, 0)), .int x4] (X.1, X.2, M) (some (.int r0)) (X'.1, X'.2, M') := by
  refine met_J (lv := [(0, .ref (ad (0, 0, 0))), (1, .ref (ad (14, 0, 0))), (2, .ref (ad (14, 1, 0))), (3, .int x4)]) hi (by decide +kernel) (Nat.le_of_ble_eq_true rfl) rfl (fun p e s m below meth c C0 hr => ?_)
  unfold fL_leads at hf
  refine j_iload_n C0 dL_leads_0 rfl 3 rfl ?_
  refine j_bipush (v := 6) C0 dL_leads_1 rfl ?_
  obtain ⟨q1, hcq1, hf⟩ := bd_some hf
  refine j_callS (As := [.int x4, .int (6 : Int32)]) (rest := []) (stk := [.int q1]) (G2 := (X.1, X.2, M)) C0 (c_L_low hi (G0 := (X.1, X.2, M))  hcq1) kw_L_85 bi_L_low rfl ⟨by decide, by decide⟩ ⟨Nat.zero_le _, Nat.zero_le _⟩ rfl rfl (Nat.le_of_ble_eq_true rfl) rfl rfl dL_leads_3 ?_
  refine j_istore (lv' := [(4, .int q1), (0, .ref (ad (0, 0, 0))), (1, .ref (ad (14, 0, 0))), (2, .ref (ad (14, 1, 0))), (3, .int x4)]) C0 dL_leads_6 (by decide) rfl ?_
  refine j_iload_n C0 dL_leads_8 rfl 4 rfl ?_
  refine j_iconst (v := 3) C0 dL_leads_9 rfl ?_
  refine j_ishr C0 dL_leads_10 ?_
  refine j_bipush (v := 6) C0 dL_leads_11 rfl ?_
  obtain ⟨q2, hcq2, hf⟩ := bd_some hf
  refine j_callS (As := [.int (x4 >>> ((3 : Int32) &&& 31)), .int (6 : Int32)]) (rest := []) (stk := [.int q2]) (G2 := (X.1, X.2, M)) C0 (c_L_low hi (G0 := (X.1, X.2, M))  hcq2) kw_L_85 bi_L_low rfl ⟨by decide, by decide⟩ ⟨Nat.zero_le _, Nat.zero_le _⟩ rfl rfl (Nat.le_of_ble_eq_true rfl) rfl rfl dL_leads_13 ?_
  refine j_istore (lv' := [(5, .int q2), (4, .int q1), (0, .ref (ad (0, 0, 0))), (1, .ref (ad (14, 0, 0))), (2, .ref (ad (14, 1, 0))), (3, .int x4)]) C0 dL_leads_16 (by decide) rfl ?_
  refine j_iload C0 dL_leads_18 1 rfl ?_
  refine j_aload_n C0 dL_leads_20 rfl 3 rfl ?_
  refine j_bipush (v := 18) C0 dL_leads_21 rfl ?_
  refine j_iald (x := (M 0 18)) C0 al_14_0 rfl (ia hi id_l0) (by decide) (by rw [Nat.zero_add]; rfl) dL_leads_23 ?_
  obtain ⟨q3, hsq3, hf⟩ := bd_some hf
  have Jq3 : J D ca ad p l e ({ frames := 4, cells := 0, slots := 0, locals := 87 }) s m [.ref (ad (0, 0, 0)), .ref (ad (14, 0, 0)), .ref (ad (14, 1, 0)), .int x4].toArray below meth c 0 0 (MQ below (post D ca ad (some (.int r0)) (X'.1, X'.2, M')) [.ref (ad (0, 0, 0)), .ref (ad (14, 0, 0)), .ref (ad (14, 1, 0)), .int x4].toArray s 0 0 (adA ad)) 7 (X.1, X.2, M) 71 [(0, .ref (ad (0, 0, 0))), (2, .ref (ad (14, 1, 0))), (4, .int q1), (5, .int q2)] [.int q3] := by
    refine j_istore (lv' := [(6, .int q3), (0, .ref (ad (0, 0, 0))), (2, .ref (ad (14, 1, 0))), (4, .int q1), (5, .int q2)]) C0 dL_leads_71 (by decide) rfl ?_
    refine j_iload C0 dL_leads_73 0 rfl ?_
    obtain ⟨q4, hsq4, hf⟩ := bd_some hf
    have Jq4 : J D ca ad p l e ({ frames := 4, cells := 0, slots := 0, locals := 87 }) s m [.ref (ad (0, 0, 0)), .ref (ad (14, 0, 0)), .ref (ad (14, 1, 0)), .int x4].toArray below meth c 0 0 (MQ below (post D ca ad (some (.int r0)) (X'.1, X'.2, M')) [.ref (ad (0, 0, 0)), .ref (ad (14, 0, 0)), .ref (ad (14, 1, 0)), .int x4].toArray s 0 0 (adA ad)) 7 (X.1, X.2, q4) 87 [(0, .ref (ad (0, 0, 0))), (4, .int q1), (5, .int q2), (6, .int q3)] [] := by
      refine j_aload_n C0 dL_leads_87 rfl 0 rfl ?_
      refine j_iload C0 dL_leads_88 1 rfl ?_
      refine j_iload C0 dL_leads_90 2 rfl ?_
      obtain ⟨q5, hcq5, hf⟩ := bd_some hf
      refine j_callV (As := [.int q1, .int q2]) (rest := []) (stk := [.int q5.1]) (G2 := (q5.2.1, q5.2.2, q4)) C0 (c_X5_lead hi (M0 := q4)  hcq5) kw_L_102 bi_X5_lead bx_X5_lead (ia hi id_c0) oc_0 rfl ⟨by decide, by decide⟩ ⟨Nat.zero_le _, Nat.zero_le _⟩ rfl rfl (Nat.le_of_ble_eq_true rfl) rfl rfl dL_leads_92 ?_
      refine j_iload C0 dL_leads_95 3 rfl ?_
      refine j_icmp_ne (tgt := 104) C0 dL_leads_97 (by decide) (fun c6 => ?_) (fun c6 => ?_)
      · have hf := if_f c6 hf
        refine j_iconst (v := 0) C0 dL_leads_104 rfl ?_
        exact j_zret C0 hr rfl dL_leads_105 (pr1 hf) (congrArg (fun z => (z.1.1, z.1.2, z.2)) (pr2 hf))
      have hf := if_t c6 hf
      refine j_iconst (v := 1) C0 dL_leads_100 rfl ?_
      refine j_goto (tgt := 105) C0 dL_leads_101 (by decide) ?_
      exact j_zret C0 hr rfl dL_leads_105 (pr1 hf) (congrArg (fun z => (z.1.1, z.1.2, z.2)) (pr2 hf))
    refine j_if_lt (tgt := 87) C0 dL_leads_75 (by decide) (fun c7 => ?_) (fun c7 => ?_)
    · have hsq4 := if_t c7 hsq4
      obtain rfl := so hsq4
      exact j_sub [1, 3, 4, 0] rfl Jq4
    have hsq4 := if_f c7 hsq4
    refine j_aload_n C0 dL_leads_78 rfl 2 rfl ?_
    refine j_bipush (v := 25) C0 dL_leads_79 rfl ?_
    refine j_iload C0 dL_leads_81 3 rfl ?_
    refine j_iadd C0 dL_leads_83 ?_
    refine j_iload C0 dL_leads_84 4 rfl ?_
    obtain ⟨h8, hsq4⟩ := gd_some hsq4
    obtain ⟨M9, e10, hsq4⟩ := lt_some hsq4
    refine j_iast (G' := (X.1, X.2, M9)) C0 al_14_1 rfl (ia hi id_l1) h8 (by rw [Nat.zero_add]; exact (eM_set e10)) dL_leads_86 ?_
    obtain rfl := so hsq4
    exact j_sub [1, 3, 4, 0] rfl Jq4
  refine j_icmp_ge (tgt := 43) C0 dL_leads_24 (by decide) (fun c11 => ?_) (fun c11 => ?_)
  · have hsq3 := if_t c11 hsq3
    refine j_ldc (v := -1000001) C0 dL_leads_43 cw_L_49 ?_
    refine j_goto (tgt := 71) C0 dL_leads_45 (by decide) ?_
    obtain rfl := so hsq3
    exact j_sub [2, 4, 1, 0] rfl Jq3
  have hsq3 := if_f c11 hsq3
  refine j_iload C0 dL_leads_27 0 rfl ?_
  refine j_aload_n C0 dL_leads_29 rfl 3 rfl ?_
  refine j_bipush (v := 18) C0 dL_leads_30 rfl ?_
  refine j_iald (x := (M 0 18)) C0 al_14_0 rfl (ia hi id_l0) (by decide) (by rw [Nat.zero_add]; rfl) dL_leads_32 ?_
  refine j_icmp_ge (tgt := 43) C0 dL_leads_33 (by decide) (fun c12 => ?_) (fun c12 => ?_)
  · have hsq3 := if_t c12 hsq3
    refine j_ldc (v := -1000001) C0 dL_leads_43 cw_L_49 ?_
    refine j_goto (tgt := 71) C0 dL_leads_45 (by decide) ?_
    obtain rfl := so hsq3
    exact j_sub [2, 4, 1, 0] rfl Jq3
  have hsq3 := if_f c12 hsq3
  refine j_iload C0 dL_leads_36 0 rfl ?_
  refine j_iload C0 dL_leads_38 1 rfl ?_
  refine j_icmp_ge (tgt := 48) C0 dL_leads_40 (by decide) (fun c13 => ?_) (fun c13 => ?_)
  · have hsq3 := if_t c13 hsq3
    refine j_aload_n C0 dL_leads_48 rfl 4 rfl ?_
    refine j_bipush (v := 20) C0 dL_leads_49 rfl ?_
    refine j_iload C0 dL_leads_51 1 rfl ?_
    refine j_iadd C0 dL_leads_53 ?_
    obtain ⟨h14, hsq3⟩ := gd_some hsq3
    refine j_iald (x := (M 1 (((20 : Int32) + q1).toNatClampNeg))) C0 al_14_1 rfl (ia hi id_l1) h14 (by rw [Nat.zero_add]; rfl) dL_leads_54 ?_
    refine j_iconst (v := 1) C0 dL_leads_55 rfl ?_
    refine j_icmp_ne (tgt := 64) C0 dL_leads_56 (by decide) (fun c15 => ?_) (fun c15 => ?_)
    · have hsq3 := if_f c15 hsq3
      refine j_aload_n C0 dL_leads_64 rfl 4 rfl ?_
      refine j_bipush (v := 25) C0 dL_leads_65 rfl ?_
      refine j_iload C0 dL_leads_67 1 rfl ?_
      refine j_iadd C0 dL_leads_69 ?_
      obtain ⟨h16, hsq3⟩ := gd_some hsq3
      refine j_iald (x := (M 1 (((25 : Int32) + q1).toNatClampNeg))) C0 al_14_1 rfl (ia hi id_l1) h16 (by rw [Nat.zero_add]; rfl) dL_leads_70 ?_
      obtain rfl := so hsq3
      exact j_sub [2, 4, 1, 0] rfl Jq3
    have hsq3 := if_t c15 hsq3
    refine j_ldc (v := -1000002) C0 dL_leads_59 cw_L_101 ?_
    refine j_goto (tgt := 71) C0 dL_leads_61 (by decide) ?_
    obtain rfl := so hsq3
    exact j_sub [2, 4, 1, 0] rfl Jq3
  have hsq3 := if_f c13 hsq3
  refine j_ldc (v := -1000001) C0 dL_leads_43 cw_L_49 ?_
  refine j_goto (tgt := 71) C0 dL_leads_45 (by decide) ?_
  obtain rfl := so hsq3
  exact j_sub [2, 4, 1, 0] rfl Jq3

set_option maxHeartbeats 4000000 in
set_option maxRecDepth 100000 in
theorem c_L_pours {l : Launch} {D : va_G} {ca : Nat → ClassId} {ad : I3 → Nat} (hi : adI ad) {X : XS} {M : Nat → Nat → Int32} {x5 : Int32} {r0 : Int32} {X' : XS} {M' : Nat → Nat → Int32}  (hf : fL_pours X M x5 = some (r0, X', M')) : MT l D ca ad yL_pours cL_pours 8 (some .boolean) 4 90 [.ref (ad (0, 0, 0)), .ref (ad (14, 0, 0)), .ref (ad (14, 1, 0)), .ref (ad (14, 2, 0)), .int x5] (X.1, X.2, M) (some (.int r0)) (X'.1, X'.2, M') := by
  refine met_J (lv := [(0, .ref (ad (0, 0, 0))), (1, .ref (ad (14, 0, 0))), (2, .ref (ad (14, 1, 0))), (3, .ref (ad (14, 2, 0))), (4, .int x5)]) hi (by decide +kernel) (Nat.le_of_ble_eq_true rfl) rfl (fun p e s m below meth c C0 hr => ?_)
  unfold fL_pours at hf
  refine j_iload C0 dL_pours_0 4 rfl ?_
  refine j_aload_n C0 dL_pours_2 rfl 1 rfl ?_
  refine j_bipush (v := 18) C0 dL_pours_3 rfl ?_
  refine j_iald (x := (M 0 18)) C0 al_14_0 rfl (ia hi id_l0) (by decide) (by rw [Nat.zero_add]; rfl) dL_pours_5 ?_
  refine j_iconst (v := 1) C0 dL_pours_6 rfl ?_
  refine j_iadd C0 dL_pours_7 ?_
  obtain ⟨q1, hcq1, hf⟩ := bd_some hf
  refine j_callS (As := [.int x5, .int ((M 0 18) + (1 : Int32))]) (rest := []) (stk := [.int q1]) (G2 := (X.1, X.2, M)) C0 (c_L_low hi (G0 := (X.1, X.2, M))  hcq1) kw_L_85 bi_L_low rfl ⟨by decide, by decide⟩ ⟨Nat.zero_le _, Nat.zero_le _⟩ rfl rfl (Nat.le_of_ble_eq_true rfl) rfl rfl dL_pours_8 ?_
  refine j_istore (lv' := [(5, .int q1), (0, .ref (ad (0, 0, 0))), (1, .ref (ad (14, 0, 0))), (2, .ref (ad (14, 1, 0))), (3, .ref (ad (14, 2, 0))), (4, .int x5)]) C0 dL_pours_11 (by decide) rfl ?_
  refine j_iload C0 dL_pours_13 5 rfl ?_
  refine j_iconst (v := 4) C0 dL_pours_15 rfl ?_
  refine j_ishr C0 dL_pours_16 ?_
  refine j_iconst (v := 4) C0 dL_pours_17 rfl ?_
  obtain ⟨q2, hcq2, hf⟩ := bd_some hf
  refine j_callS (As := [.int (x5 >>> ((4 : Int32) &&& 31)), .int (4 : Int32)]) (rest := []) (stk := [.int q2]) (G2 := (X.1, X.2, M)) C0 (c_L_low hi (G0 := (X.1, X.2, M))  hcq2) kw_L_85 bi_L_low rfl ⟨by decide, by decide⟩ ⟨Nat.zero_le _, Nat.zero_le _⟩ rfl rfl (Nat.le_of_ble_eq_true rfl) rfl rfl dL_pours_18 ?_
  refine j_istore (lv' := [(6, .int q2), (5, .int q1), (0, .ref (ad (0, 0, 0))), (1, .ref (ad (14, 0, 0))), (2, .ref (ad (14, 1, 0))), (3, .ref (ad (14, 2, 0))), (4, .int x5)]) C0 dL_pours_21 (by decide) rfl ?_
  refine j_iload C0 dL_pours_23 0 rfl ?_
  obtain ⟨q3, hsq3, hf⟩ := bd_some hf
  have Jq3 : J D ca ad p l e ({ frames := 4, cells := 0, slots := 0, locals := 90 }) s m [.ref (ad (0, 0, 0)), .ref (ad (14, 0, 0)), .ref (ad (14, 1, 0)), .ref (ad (14, 2, 0)), .int x5].toArray below meth c 0 0 (MQ below (post D ca ad (some (.int r0)) (X'.1, X'.2, M')) [.ref (ad (0, 0, 0)), .ref (ad (14, 0, 0)), .ref (ad (14, 1, 0)), .ref (ad (14, 2, 0)), .int x5].toArray s 0 0 (adA ad)) 8 (X.1, X.2, M) 48 [(0, .ref (ad (0, 0, 0))), (1, .ref (ad (14, 0, 0))), (2, .ref (ad (14, 1, 0))), (3, .ref (ad (14, 2, 0))), (5, .int q1), (6, .int q2)] [.int q3] := by
    refine j_istore (lv' := [(7, .int q3), (0, .ref (ad (0, 0, 0))), (1, .ref (ad (14, 0, 0))), (2, .ref (ad (14, 1, 0))), (3, .ref (ad (14, 2, 0))), (5, .int q1), (6, .int q2)]) C0 dL_pours_48 (by decide) rfl ?_
    refine j_iload C0 dL_pours_50 5 rfl ?_
    refine j_aload_n C0 dL_pours_52 rfl 2 rfl ?_
    refine j_bipush (v := 18) C0 dL_pours_53 rfl ?_
    refine j_iald (x := (M 0 18)) C0 al_14_0 rfl (ia hi id_l0) (by decide) (by rw [Nat.zero_add]; rfl) dL_pours_55 ?_
    refine j_icmp_ge (tgt := 65) C0 dL_pours_56 (by decide) (fun c4 => ?_) (fun c4 => ?_)
    · have hf := if_t c4 hf
      refine j_aload_n C0 dL_pours_65 rfl 1 rfl ?_
      refine j_iload C0 dL_pours_66 5 rfl ?_
      refine j_iload C0 dL_pours_68 6 rfl ?_
      obtain ⟨q5, hcq5, hf⟩ := bd_some hf
      refine j_callV (As := [.int q1, .int q2]) (rest := []) (stk := [.int q5.1]) (G2 := (q5.2.1, q5.2.2, M)) C0 (c_X5_pour hi (M0 := M)  hcq5) kw_L_105 bi_X5_pour bx_X5_pour (ia hi id_c0) oc_0 rfl ⟨by decide, by decide⟩ ⟨Nat.zero_le _, Nat.zero_le _⟩ rfl rfl (Nat.le_of_ble_eq_true rfl) rfl rfl dL_pours_70 ?_
      refine j_ldc (v := -1000001) C0 dL_pours_73 cw_L_49 ?_
      refine j_icmp_ne (tgt := 82) C0 dL_pours_75 (by decide) (fun c6 => ?_) (fun c6 => ?_)
      · have hf := if_f c6 hf
        refine j_iconst (v := 0) C0 dL_pours_82 rfl ?_
        exact j_zret C0 hr rfl dL_pours_83 (pr1 hf) (congrArg (fun z => (z.1.1, z.1.2, z.2)) (pr2 hf))
      have hf := if_t c6 hf
      refine j_iconst (v := 1) C0 dL_pours_78 rfl ?_
      refine j_goto (tgt := 83) C0 dL_pours_79 (by decide) ?_
      exact j_zret C0 hr rfl dL_pours_83 (pr1 hf) (congrArg (fun z => (z.1.1, z.1.2, z.2)) (pr2 hf))
    have hf := if_f c4 hf
    refine j_iload C0 dL_pours_59 6 rfl ?_
    refine j_iconst (v := 2) C0 dL_pours_61 rfl ?_
    refine j_icmp_le (tgt := 84) C0 dL_pours_62 (by decide) (fun c7 => ?_) (fun c7 => ?_)
    · have hf := if_t c7 hf
      refine j_aload_n C0 dL_pours_84 rfl 2 rfl ?_
      refine j_bipush (v := 7) C0 dL_pours_85 rfl ?_
      refine j_iald (x := (M 0 7)) C0 al_14_0 rfl (ia hi id_l0) (by decide) (by rw [Nat.zero_add]; rfl) dL_pours_87 ?_
      refine j_iload C0 dL_pours_88 0 rfl ?_
      refine j_icmp_lt (tgt := 103) C0 dL_pours_90 (by decide) (fun c8 => ?_) (fun c8 => ?_)
      · have hf := if_t c8 hf
        refine j_aload_n C0 dL_pours_103 rfl 1 rfl ?_
        refine j_iload C0 dL_pours_104 5 rfl ?_
        refine j_iload C0 dL_pours_106 6 rfl ?_
        obtain ⟨q9, hcq9, hf⟩ := bd_some hf
        refine j_callV (As := [.int q1, .int q2]) (rest := []) (stk := [.int q9.1]) (G2 := (q9.2.1, q9.2.2, M)) C0 (c_X5_pour hi (M0 := M)  hcq9) kw_L_105 bi_X5_pour bx_X5_pour (ia hi id_c0) oc_0 rfl ⟨by decide, by decide⟩ ⟨Nat.zero_le _, Nat.zero_le _⟩ rfl rfl (Nat.le_of_ble_eq_true rfl) rfl rfl dL_pours_108 ?_
        refine j_ldc (v := -1000002) C0 dL_pours_111 cw_L_101 ?_
        refine j_icmp_ne (tgt := 120) C0 dL_pours_113 (by decide) (fun c10 => ?_) (fun c10 => ?_)
        · have hf := if_f c10 hf
          refine j_iconst (v := 0) C0 dL_pours_120 rfl ?_
          exact j_zret C0 hr rfl dL_pours_121 (pr1 hf) (congrArg (fun z => (z.1.1, z.1.2, z.2)) (pr2 hf))
        have hf := if_t c10 hf
        refine j_iconst (v := 1) C0 dL_pours_116 rfl ?_
        refine j_goto (tgt := 121) C0 dL_pours_117 (by decide) ?_
        exact j_zret C0 hr rfl dL_pours_121 (pr1 hf) (congrArg (fun z => (z.1.1, z.1.2, z.2)) (pr2 hf))
      have hf := if_f c8 hf
      refine j_aload_n C0 dL_pours_93 rfl 3 rfl ?_
      refine j_iload C0 dL_pours_94 5 rfl ?_
      obtain ⟨h11, hf⟩ := gd_some hf
      refine j_iald (x := (M 1 (q1.toNatClampNeg))) C0 al_14_1 rfl (ia hi id_l1) h11 (by rw [Nat.zero_add]; rfl) dL_pours_96 ?_
      refine j_aload_n C0 dL_pours_97 rfl 2 rfl ?_
      refine j_iconst (v := 0) C0 dL_pours_98 rfl ?_
      refine j_iald (x := (M 0 0)) C0 al_14_0 rfl (ia hi id_l0) (by decide) (by rw [Nat.zero_add]; rfl) dL_pours_99 ?_
      refine j_icmp_lt (tgt := 122) C0 dL_pours_100 (by decide) (fun c12 => ?_) (fun c12 => ?_)
      · have hf := if_t c12 hf
        refine j_aload_n C0 dL_pours_122 rfl 2 rfl ?_
        refine j_bipush (v := 7) C0 dL_pours_123 rfl ?_
        refine j_dup2 C0 dL_pours_125 rfl rfl ?_
        refine j_iald (x := (M 0 7)) C0 al_14_0 rfl (ia hi id_l0) (by decide) (by rw [Nat.zero_add]; rfl) dL_pours_126 ?_
        refine j_iload C0 dL_pours_127 0 rfl ?_
        refine j_isub C0 dL_pours_129 ?_
        obtain ⟨M13, e14, hf⟩ := lt_some hf
        refine j_iast (G' := (X.1, X.2, M13)) C0 al_14_0 rfl (ia hi id_l0) (by decide) (by rw [Nat.zero_add]; exact (eM_set e14)) dL_pours_130 ?_
        refine j_aload_n C0 dL_pours_131 rfl 2 rfl ?_
        refine j_bipush (v := 10) C0 dL_pours_132 rfl ?_
        refine j_dup2 C0 dL_pours_134 rfl rfl ?_
        refine j_iald (x := (M13 0 10)) C0 al_14_0 rfl (ia hi id_l0) (by decide) (by rw [Nat.zero_add]; rfl) dL_pours_135 ?_
        refine j_iload C0 dL_pours_136 0 rfl ?_
        refine j_iadd C0 dL_pours_138 ?_
        obtain ⟨M15, e16, hf⟩ := lt_some hf
        refine j_iast (G' := (X.1, X.2, M15)) C0 al_14_0 rfl (ia hi id_l0) (by decide) (by rw [Nat.zero_add]; exact (eM_set e16)) dL_pours_139 ?_
        refine j_aload_n C0 dL_pours_140 rfl 2 rfl ?_
        refine j_bipush (v := 17) C0 dL_pours_141 rfl ?_
        refine j_dup2 C0 dL_pours_143 rfl rfl ?_
        refine j_iald (x := (M15 0 17)) C0 al_14_0 rfl (ia hi id_l0) (by decide) (by rw [Nat.zero_add]; rfl) dL_pours_144 ?_
        refine j_iconst (v := 1) C0 dL_pours_145 rfl ?_
        refine j_iadd C0 dL_pours_146 ?_
        obtain ⟨M17, e18, hf⟩ := lt_some hf
        refine j_iast (G' := (X.1, X.2, M17)) C0 al_14_0 rfl (ia hi id_l0) (by decide) (by rw [Nat.zero_add]; exact (eM_set e18)) dL_pours_147 ?_
        refine j_aload_n C0 dL_pours_148 rfl 4 rfl ?_
        refine j_bipush (v := 15) C0 dL_pours_149 rfl ?_
        refine j_iload C0 dL_pours_151 5 rfl ?_
        refine j_iadd C0 dL_pours_153 ?_
        refine j_dup2 C0 dL_pours_154 rfl rfl ?_
        obtain ⟨h19, hf⟩ := gd_some hf
        refine j_iald (x := (M17 2 (((15 : Int32) + q1).toNatClampNeg))) C0 al_14_2 rfl (ia hi id_l2) h19 (by rw [Nat.zero_add]; rfl) dL_pours_155 ?_
        refine j_iload C0 dL_pours_156 0 rfl ?_
        refine j_iadd C0 dL_pours_158 ?_
        obtain ⟨h20, hf⟩ := gd_some hf
        obtain ⟨M21, e22, hf⟩ := lt_some hf
        refine j_iast (G' := (X.1, X.2, M21)) C0 al_14_2 rfl (ia hi id_l2) h20 (by rw [Nat.zero_add]; exact (eM_set e22)) dL_pours_159 ?_
        refine j_aload_n C0 dL_pours_160 rfl 1 rfl ?_
        refine j_iload C0 dL_pours_161 5 rfl ?_
        refine j_iload C0 dL_pours_163 6 rfl ?_
        obtain ⟨q23, hcq23, hf⟩ := bd_some hf
        refine j_callV (As := [.int q1, .int q2]) (rest := []) (stk := [.int q23.1]) (G2 := (q23.2.1, q23.2.2, M21)) C0 (c_X5_pour hi (M0 := M21)  hcq23) kw_L_105 bi_X5_pour bx_X5_pour (ia hi id_c0) oc_0 rfl ⟨by decide, by decide⟩ ⟨Nat.zero_le _, Nat.zero_le _⟩ rfl rfl (Nat.le_of_ble_eq_true rfl) rfl rfl dL_pours_165 ?_
        refine j_aload_n C0 dL_pours_168 rfl 2 rfl ?_
        refine j_aload_n C0 dL_pours_169 rfl 3 rfl ?_
        refine j_iload C0 dL_pours_170 5 rfl ?_
        refine j_iload C0 dL_pours_172 0 rfl ?_
        obtain ⟨q24, hcq24, hf⟩ := bd_some hf
        refine j_callS (As := [.ref (ad (14, 0, 0)), .ref (ad (14, 1, 0)), .int q1, .int q3]) (rest := [.int q23.1]) (stk := [.int q24.1, .int q23.1]) (G2 := (q23.2.1, q23.2.2, q24.2)) C0 (c_L_comes hi (Cc := q23.2.1) (Bb := q23.2.2) al_14_0 (ia hi id_l0) al_14_1 (ia hi id_l1) hcq24) kw_L_19 bi_L_comes rfl ⟨by decide, by decide⟩ ⟨Nat.zero_le _, Nat.zero_le _⟩ rfl rfl (Nat.le_of_ble_eq_true rfl) rfl rfl dL_pours_174 ?_
        refine j_icmp_ne (tgt := 184) C0 dL_pours_177 (by decide) (fun c25 => ?_) (fun c25 => ?_)
        · have hf := if_f c25 hf
          refine j_iconst (v := 0) C0 dL_pours_184 rfl ?_
          exact j_zret C0 hr rfl dL_pours_185 (pr1 hf) (congrArg (fun z => (z.1.1, z.1.2, z.2)) (pr2 hf))
        have hf := if_t c25 hf
        refine j_iconst (v := 1) C0 dL_pours_180 rfl ?_
        refine j_goto (tgt := 185) C0 dL_pours_181 (by decide) ?_
        exact j_zret C0 hr rfl dL_pours_185 (pr1 hf) (congrArg (fun z => (z.1.1, z.1.2, z.2)) (pr2 hf))
      have hf := if_f c12 hf
      refine j_aload_n C0 dL_pours_103 rfl 1 rfl ?_
      refine j_iload C0 dL_pours_104 5 rfl ?_
      refine j_iload C0 dL_pours_106 6 rfl ?_
      obtain ⟨q26, hcq26, hf⟩ := bd_some hf
      refine j_callV (As := [.int q1, .int q2]) (rest := []) (stk := [.int q26.1]) (G2 := (q26.2.1, q26.2.2, M)) C0 (c_X5_pour hi (M0 := M)  hcq26) kw_L_105 bi_X5_pour bx_X5_pour (ia hi id_c0) oc_0 rfl ⟨by decide, by decide⟩ ⟨Nat.zero_le _, Nat.zero_le _⟩ rfl rfl (Nat.le_of_ble_eq_true rfl) rfl rfl dL_pours_108 ?_
      refine j_ldc (v := -1000002) C0 dL_pours_111 cw_L_101 ?_
      refine j_icmp_ne (tgt := 120) C0 dL_pours_113 (by decide) (fun c27 => ?_) (fun c27 => ?_)
      · have hf := if_f c27 hf
        refine j_iconst (v := 0) C0 dL_pours_120 rfl ?_
        exact j_zret C0 hr rfl dL_pours_121 (pr1 hf) (congrArg (fun z => (z.1.1, z.1.2, z.2)) (pr2 hf))
      have hf := if_t c27 hf
      refine j_iconst (v := 1) C0 dL_pours_116 rfl ?_
      refine j_goto (tgt := 121) C0 dL_pours_117 (by decide) ?_
      exact j_zret C0 hr rfl dL_pours_121 (pr1 hf) (congrArg (fun z => (z.1.1, z.1.2, z.2)) (pr2 hf))
    have hf := if_f c7 hf
    refine j_aload_n C0 dL_pours_65 rfl 1 rfl ?_
    refine j_iload C0 dL_pours_66 5 rfl ?_
    refine j_iload C0 dL_pours_68 6 rfl ?_
    obtain ⟨q28, hcq28, hf⟩ := bd_some hf
    refine j_callV (As := [.int q1, .int q2]) (rest := []) (stk := [.int q28.1]) (G2 := (q28.2.1, q28.2.2, M)) C0 (c_X5_pour hi (M0 := M)  hcq28) kw_L_105 bi_X5_pour bx_X5_pour (ia hi id_c0) oc_0 rfl ⟨by decide, by decide⟩ ⟨Nat.zero_le _, Nat.zero_le _⟩ rfl rfl (Nat.le_of_ble_eq_true rfl) rfl rfl dL_pours_70 ?_
    refine j_ldc (v := -1000001) C0 dL_pours_73 cw_L_49 ?_
    refine j_icmp_ne (tgt := 82) C0 dL_pours_75 (by decide) (fun c29 => ?_) (fun c29 => ?_)
    · have hf := if_f c29 hf
      refine j_iconst (v := 0) C0 dL_pours_82 rfl ?_
      exact j_zret C0 hr rfl dL_pours_83 (pr1 hf) (congrArg (fun z => (z.1.1, z.1.2, z.2)) (pr2 hf))
    have hf := if_t c29 hf
    refine j_iconst (v := 1) C0 dL_pours_78 rfl ?_
    refine j_goto (tgt := 83) C0 dL_pours_79 (by decide) ?_
    exact j_zret C0 hr rfl dL_pours_83 (pr1 hf) (congrArg (fun z => (z.1.1, z.1.2, z.2)) (pr2 hf))
  refine j_if_ne (tgt := 33) C0 dL_pours_25 (by decide) (fun c30 => ?_) (fun c30 => ?_)
  · have hsq3 := if_f c30 hsq3
    refine j_iload C0 dL_pours_33 0 rfl ?_
    refine j_iconst (v := 1) C0 dL_pours_35 rfl ?_
    refine j_icmp_ne (tgt := 45) C0 dL_pours_36 (by decide) (fun c31 => ?_) (fun c31 => ?_)
    · have hsq3 := if_f c31 hsq3
      refine j_sipush (v := 700) C0 dL_pours_45 rfl ?_
      obtain rfl := so hsq3
      exact j_sub [2, 3, 4, 5, 1, 0] rfl Jq3
    have hsq3 := if_t c31 hsq3
    refine j_sipush (v := 200) C0 dL_pours_39 rfl ?_
    refine j_goto (tgt := 48) C0 dL_pours_42 (by decide) ?_
    obtain rfl := so hsq3
    exact j_sub [2, 3, 4, 5, 1, 0] rfl Jq3
  have hsq3 := if_t c30 hsq3
  refine j_bipush (v := 50) C0 dL_pours_28 rfl ?_
  refine j_goto (tgt := 48) C0 dL_pours_30 (by decide) ?_
  obtain rfl := so hsq3
  exact j_sub [2, 3, 4, 5, 1, 0] rfl Jq3

set_option maxHeartbeats 4000000 in
set_option maxRecDepth 100000 in
theorem c_L_waxes {l : Launch} {D : va_G} {ca : Nat → ClassId} {ad : I3 → Nat} (hi : adI ad) {X : XS} {M : Nat → Nat → Int32} {x4 : Int32} {r0 : Int32} {X' : XS} {M' : Nat → Nat → Int32}  (hf : fL_waxes X M x4 = some (r0, X', M')) : MT l D ca ad yL_waxes cL_waxes 7 (some .boolean) 4 87 [.ref (ad (0, 0, 0)), .ref (ad (14, 0, 0)), .ref (ad (14, 1, 0)), .int x4] (X.1, X.2, M) (some (.int r0)) (X'.1, X'.2, M') := by
  refine met_J (lv := [(0, .ref (ad (0, 0, 0))), (1, .ref (ad (14, 0, 0))), (2, .ref (ad (14, 1, 0))), (3, .int x4)]) hi (by decide +kernel) (Nat.le_of_ble_eq_true rfl) rfl (fun p e s m below meth c C0 hr => ?_)
  unfold fL_waxes at hf
  refine j_iload_n C0 dL_waxes_0 rfl 3 rfl ?_
  refine j_bipush (v := 6) C0 dL_waxes_1 rfl ?_
  obtain ⟨q1, hcq1, hf⟩ := bd_some hf
  refine j_callS (As := [.int x4, .int (6 : Int32)]) (rest := []) (stk := [.int q1]) (G2 := (X.1, X.2, M)) C0 (c_L_low hi (G0 := (X.1, X.2, M))  hcq1) kw_L_85 bi_L_low rfl ⟨by decide, by decide⟩ ⟨Nat.zero_le _, Nat.zero_le _⟩ rfl rfl (Nat.le_of_ble_eq_true rfl) rfl rfl dL_waxes_3 ?_
  refine j_istore (lv' := [(4, .int q1), (0, .ref (ad (0, 0, 0))), (1, .ref (ad (14, 0, 0))), (2, .ref (ad (14, 1, 0))), (3, .int x4)]) C0 dL_waxes_6 (by decide) rfl ?_
  refine j_iload_n C0 dL_waxes_8 rfl 4 rfl ?_
  refine j_iconst (v := 3) C0 dL_waxes_9 rfl ?_
  refine j_ishr C0 dL_waxes_10 ?_
  refine j_bipush (v := 61) C0 dL_waxes_11 rfl ?_
  obtain ⟨q2, hcq2, hf⟩ := bd_some hf
  refine j_callS (As := [.int (x4 >>> ((3 : Int32) &&& 31)), .int (61 : Int32)]) (rest := []) (stk := [.int q2]) (G2 := (X.1, X.2, M)) C0 (c_L_low hi (G0 := (X.1, X.2, M))  hcq2) kw_L_85 bi_L_low rfl ⟨by decide, by decide⟩ ⟨Nat.zero_le _, Nat.zero_le _⟩ rfl rfl (Nat.le_of_ble_eq_true rfl) rfl rfl dL_waxes_13 ?_
  refine j_istore (lv' := [(5, .int q2), (4, .int q1), (0, .ref (ad (0, 0, 0))), (1, .ref (ad (14, 0, 0))), (2, .ref (ad (14, 1, 0))), (3, .int x4)]) C0 dL_waxes_16 (by decide) rfl ?_
  refine j_iload C0 dL_waxes_18 1 rfl ?_
  refine j_aload_n C0 dL_waxes_20 rfl 3 rfl ?_
  refine j_bipush (v := 18) C0 dL_waxes_21 rfl ?_
  refine j_iald (x := (M 0 18)) C0 al_14_0 rfl (ia hi id_l0) (by decide) (by rw [Nat.zero_add]; rfl) dL_waxes_23 ?_
  obtain ⟨q3, hsq3, hf⟩ := bd_some hf
  have Jq3 : J D ca ad p l e ({ frames := 4, cells := 0, slots := 0, locals := 87 }) s m [.ref (ad (0, 0, 0)), .ref (ad (14, 0, 0)), .ref (ad (14, 1, 0)), .int x4].toArray below meth c 0 0 (MQ below (post D ca ad (some (.int r0)) (X'.1, X'.2, M')) [.ref (ad (0, 0, 0)), .ref (ad (14, 0, 0)), .ref (ad (14, 1, 0)), .int x4].toArray s 0 0 (adA ad)) 7 (X.1, X.2, M) 72 [(0, .ref (ad (0, 0, 0))), (2, .ref (ad (14, 1, 0))), (4, .int q1), (5, .int q2)] [.int q3] := by
    refine j_istore (lv' := [(6, .int q3), (0, .ref (ad (0, 0, 0))), (2, .ref (ad (14, 1, 0))), (4, .int q1), (5, .int q2)]) C0 dL_waxes_72 (by decide) rfl ?_
    refine j_iload C0 dL_waxes_74 0 rfl ?_
    obtain ⟨q4, hsq4, hf⟩ := bd_some hf
    have Jq4 : J D ca ad p l e ({ frames := 4, cells := 0, slots := 0, locals := 87 }) s m [.ref (ad (0, 0, 0)), .ref (ad (14, 0, 0)), .ref (ad (14, 1, 0)), .int x4].toArray below meth c 0 0 (MQ below (post D ca ad (some (.int r0)) (X'.1, X'.2, M')) [.ref (ad (0, 0, 0)), .ref (ad (14, 0, 0)), .ref (ad (14, 1, 0)), .int x4].toArray s 0 0 (adA ad)) 7 (X.1, X.2, q4) 88 [(0, .ref (ad (0, 0, 0))), (4, .int q1), (5, .int q2), (6, .int q3)] [] := by
      refine j_aload_n C0 dL_waxes_88 rfl 0 rfl ?_
      refine j_iload C0 dL_waxes_89 1 rfl ?_
      refine j_iload C0 dL_waxes_91 2 rfl ?_
      obtain ⟨q5, hcq5, hf⟩ := bd_some hf
      refine j_callV (As := [.int q1, .int q2]) (rest := []) (stk := [.int q5.1]) (G2 := (q5.2.1, q5.2.2, q4)) C0 (c_X5_wax hi (M0 := q4)  hcq5) kw_L_108 bi_X5_wax bx_X5_wax (ia hi id_c0) oc_0 rfl ⟨by decide, by decide⟩ ⟨Nat.zero_le _, Nat.zero_le _⟩ rfl rfl (Nat.le_of_ble_eq_true rfl) rfl rfl dL_waxes_93 ?_
      refine j_iload C0 dL_waxes_96 3 rfl ?_
      refine j_icmp_ne (tgt := 105) C0 dL_waxes_98 (by decide) (fun c6 => ?_) (fun c6 => ?_)
      · have hf := if_f c6 hf
        refine j_iconst (v := 0) C0 dL_waxes_105 rfl ?_
        exact j_zret C0 hr rfl dL_waxes_106 (pr1 hf) (congrArg (fun z => (z.1.1, z.1.2, z.2)) (pr2 hf))
      have hf := if_t c6 hf
      refine j_iconst (v := 1) C0 dL_waxes_101 rfl ?_
      refine j_goto (tgt := 106) C0 dL_waxes_102 (by decide) ?_
      exact j_zret C0 hr rfl dL_waxes_106 (pr1 hf) (congrArg (fun z => (z.1.1, z.1.2, z.2)) (pr2 hf))
    refine j_if_le (tgt := 88) C0 dL_waxes_76 (by decide) (fun c7 => ?_) (fun c7 => ?_)
    · have hsq4 := if_t c7 hsq4
      obtain rfl := so hsq4
      exact j_sub [1, 3, 4, 0] rfl Jq4
    have hsq4 := if_f c7 hsq4
    refine j_aload_n C0 dL_waxes_79 rfl 2 rfl ?_
    refine j_bipush (v := 10) C0 dL_waxes_80 rfl ?_
    refine j_iload C0 dL_waxes_82 3 rfl ?_
    refine j_iadd C0 dL_waxes_84 ?_
    refine j_iload C0 dL_waxes_85 0 rfl ?_
    obtain ⟨h8, hsq4⟩ := gd_some hsq4
    obtain ⟨M9, e10, hsq4⟩ := lt_some hsq4
    refine j_iast (G' := (X.1, X.2, M9)) C0 al_14_1 rfl (ia hi id_l1) h8 (by rw [Nat.zero_add]; exact (eM_set e10)) dL_waxes_87 ?_
    obtain rfl := so hsq4
    exact j_sub [1, 3, 4, 0] rfl Jq4
  refine j_icmp_ge (tgt := 40) C0 dL_waxes_24 (by decide) (fun c11 => ?_) (fun c11 => ?_)
  · have hsq3 := if_t c11 hsq3
    refine j_ldc (v := -1000001) C0 dL_waxes_40 cw_L_49 ?_
    refine j_goto (tgt := 72) C0 dL_waxes_42 (by decide) ?_
    obtain rfl := so hsq3
    exact j_sub [2, 4, 1, 0] rfl Jq3
  have hsq3 := if_f c11 hsq3
  refine j_iload C0 dL_waxes_27 0 rfl ?_
  refine j_iconst (v := 1) C0 dL_waxes_29 rfl ?_
  refine j_icmp_lt (tgt := 40) C0 dL_waxes_30 (by decide) (fun c12 => ?_) (fun c12 => ?_)
  · have hsq3 := if_t c12 hsq3
    refine j_ldc (v := -1000001) C0 dL_waxes_40 cw_L_49 ?_
    refine j_goto (tgt := 72) C0 dL_waxes_42 (by decide) ?_
    obtain rfl := so hsq3
    exact j_sub [2, 4, 1, 0] rfl Jq3
  have hsq3 := if_f c12 hsq3
  refine j_iload C0 dL_waxes_33 0 rfl ?_
  refine j_bipush (v := 59) C0 dL_waxes_35 rfl ?_
  refine j_icmp_le (tgt := 45) C0 dL_waxes_37 (by decide) (fun c13 => ?_) (fun c13 => ?_)
  · have hsq3 := if_t c13 hsq3
    refine j_aload_n C0 dL_waxes_45 rfl 4 rfl ?_
    refine j_bipush (v := 10) C0 dL_waxes_46 rfl ?_
    refine j_iload C0 dL_waxes_48 1 rfl ?_
    refine j_iadd C0 dL_waxes_50 ?_
    obtain ⟨h14, hsq3⟩ := gd_some hsq3
    refine j_iald (x := (M 1 (((10 : Int32) + q1).toNatClampNeg))) C0 al_14_1 rfl (ia hi id_l1) h14 (by rw [Nat.zero_add]; rfl) dL_waxes_51 ?_
    refine j_iload C0 dL_waxes_52 0 rfl ?_
    refine j_icmp_gt (tgt := 62) C0 dL_waxes_54 (by decide) (fun c15 => ?_) (fun c15 => ?_)
    · have hsq3 := if_t c15 hsq3
      refine j_aload_n C0 dL_waxes_62 rfl 4 rfl ?_
      refine j_bipush (v := 10) C0 dL_waxes_63 rfl ?_
      refine j_iload C0 dL_waxes_65 1 rfl ?_
      refine j_iadd C0 dL_waxes_67 ?_
      obtain ⟨h16, hsq3⟩ := gd_some hsq3
      refine j_iald (x := (M 1 (((10 : Int32) + q1).toNatClampNeg))) C0 al_14_1 rfl (ia hi id_l1) h16 (by rw [Nat.zero_add]; rfl) dL_waxes_68 ?_
      refine j_iload C0 dL_waxes_69 0 rfl ?_
      refine j_isub C0 dL_waxes_71 ?_
      obtain rfl := so hsq3
      exact j_sub [2, 4, 1, 0] rfl Jq3
    have hsq3 := if_f c15 hsq3
    refine j_ldc (v := -1000002) C0 dL_waxes_57 cw_L_101 ?_
    refine j_goto (tgt := 72) C0 dL_waxes_59 (by decide) ?_
    obtain rfl := so hsq3
    exact j_sub [2, 4, 1, 0] rfl Jq3
  have hsq3 := if_f c13 hsq3
  refine j_ldc (v := -1000001) C0 dL_waxes_40 cw_L_49 ?_
  refine j_goto (tgt := 72) C0 dL_waxes_42 (by decide) ?_
  obtain rfl := so hsq3
  exact j_sub [2, 4, 1, 0] rfl Jq3

