/-! CONSTRUCTORS: the class, the model -/
def xW (ca : Nat → ClassId) (h0 : Nat) (u : (Nat → Nat) × (Nat → Nat → Nat)) : va_W := ((((((((((((([(h0, .inr (5, [.ref (u.1 0), .ref (u.1 1), .ref (u.1 9), .ref (u.1 10), .ref (u.1 11), .ref (u.1 12), .ref (u.1 2), .int 0]))] ++ stW ca (u.1 0) (u.2 0)) ++ stW ca (u.1 1) (u.2 1)) ++ stW ca (u.1 2) (u.2 2)) ++ [(u.1 9, .inl (ca 4, 4, .inr (.inr (.inr (.inr (va_up (va_up (va_up (va_up (fun _ => none) 0 (some (u.1 3))) 1 (some (u.1 4))) 2 (some (u.1 5))) 3 (some (u.1 6))))))))]) ++ stW ca (u.1 3) (u.2 3)) ++ stW ca (u.1 4) (u.2 4)) ++ stW ca (u.1 5) (u.2 5)) ++ stW ca (u.1 6) (u.2 6)) ++ [(u.1 10, .inl (ca 4, 2, .inr (.inr (.inr (.inr (va_up (va_up (fun _ => none) 0 (some (u.1 7))) 1 (some (u.1 8))))))))]) ++ stW ca (u.1 7) (u.2 7)) ++ stW ca (u.1 8) (u.2 8)) ++ [(u.1 11, .inl (ca 2, 2, .inl (fun _ => 0)))]) ++ textW ca (u.1 12) (u.1 13, u.1 14))
set_option maxHeartbeats 4000000 in
set_option maxRecDepth 100000 in
theorem ct_X5 (l : Launch) (D : va_G) (ca : Nat → ClassId) : CT l D ca yX5_init cX5_init 2 3 54 105 1267 [] (.inr (5, [.null, .null, .null, .null, .null, .null, .null, .int 0])) (xW ca) := by
  refine ctor_J (lvF := fun h0 => [(0, .ref h0)]) (by decide) (fun _ => Nat.le_of_ble_eq_true rfl) (fun _ => rfl) ?_
  intro A h0 p e s m below meth c C0 hr hin
  refine w_aload_n C0 dX5_init_0 rfl 0 rfl ?_
  refine w_obj C0 ol_X5 ⟨Nat.le_of_ble_eq_true rfl, Nat.le_of_ble_eq_true rfl⟩ dX5_init_1 ?_
  refine w_aload_n C0 dX5_init_4 rfl 0 rfl ?_
  refine w_new (ci := 3) (N := 13) (r := (RX3, TX3, 13)) (ty := tyX3) (fs := [.null, .null, .null, .int 0, .int 0, .int 0, .int 0, .int 0, .int 0, .int 0, .int 0, .int 0, .int 0]) C0 rfl ub_3 tyX3_ok cl_X5_7 is_X3 bn_X3 rfl nf_3 ⟨Nat.le_of_ble_eq_true rfl, Nat.le_of_ble_eq_true rfl⟩ dX5_init_5 (fun q1 => ?_)
  refine w_dup C0 dX5_init_8 rfl ?_
  refine w_ctor (wp := stW ca) (As := []) (rest := [.ref q1, .ref h0]) C0 (ct_X3 l D ca) kw_X5_9 bi_X3_init rfl ⟨Nat.le_of_ble_eq_true rfl, Nat.le_of_ble_eq_true rfl⟩ ⟨Nat.le_of_ble_eq_true rfl, Nat.le_of_ble_eq_true rfl⟩ rfl rfl (Nat.le_of_ble_eq_true rfl) dX5_init_9 (fun u1 => ?_)
  refine w_putF (ty := .object RX3) (q0 := 0) (ws' := ([(h0, .inr (5, [.ref q1, .null, .null, .null, .null, .null, .null, .int 0]))] ++ stW ca q1 u1)) C0 fl_X5_10 tyX5_ok nmX5 rfl hin rfl (by decide +kernel) rfl ⟨rfl, rfl⟩ (Nat.le_of_ble_eq_true rfl) rfl dX5_init_12 ?_
  refine w_aload_n C0 dX5_init_15 rfl 0 rfl ?_
  refine w_new (ci := 3) (N := 13) (r := (RX3, TX3, 13)) (ty := tyX3) (fs := [.null, .null, .null, .int 0, .int 0, .int 0, .int 0, .int 0, .int 0, .int 0, .int 0, .int 0, .int 0]) C0 rfl ub_3 tyX3_ok cl_X5_7 is_X3 bn_X3 rfl nf_3 ⟨Nat.le_of_ble_eq_true rfl, Nat.le_of_ble_eq_true rfl⟩ dX5_init_16 (fun q2 => ?_)
  refine w_dup C0 dX5_init_19 rfl ?_
  refine w_ctor (wp := stW ca) (As := []) (rest := [.ref q2, .ref h0]) C0 (ct_X3 l D ca) kw_X5_9 bi_X3_init rfl ⟨Nat.le_of_ble_eq_true rfl, Nat.le_of_ble_eq_true rfl⟩ ⟨Nat.le_of_ble_eq_true rfl, Nat.le_of_ble_eq_true rfl⟩ rfl rfl (Nat.le_of_ble_eq_true rfl) dX5_init_20 (fun u2 => ?_)
  refine w_putF (ty := .object RX3) (q0 := 0) (ws' := (([(h0, .inr (5, [.ref q1, .ref q2, .null, .null, .null, .null, .null, .int 0]))] ++ stW ca q1 u1) ++ stW ca q2 u2)) C0 fl_X5_16 tyX5_ok nmX5 rfl hin rfl (by decide +kernel) rfl ⟨rfl, rfl⟩ (Nat.le_of_ble_eq_true rfl) rfl dX5_init_23 ?_
  refine w_aload_n C0 dX5_init_26 rfl 0 rfl ?_
  refine w_new (ci := 3) (N := 13) (r := (RX3, TX3, 13)) (ty := tyX3) (fs := [.null, .null, .null, .int 0, .int 0, .int 0, .int 0, .int 0, .int 0, .int 0, .int 0, .int 0, .int 0]) C0 rfl ub_3 tyX3_ok cl_X5_7 is_X3 bn_X3 rfl nf_3 ⟨Nat.le_of_ble_eq_true rfl, Nat.le_of_ble_eq_true rfl⟩ dX5_init_27 (fun q3 => ?_)
  refine w_dup C0 dX5_init_30 rfl ?_
  refine w_ctor (wp := stW ca) (As := []) (rest := [.ref q3, .ref h0]) C0 (ct_X3 l D ca) kw_X5_9 bi_X3_init rfl ⟨Nat.le_of_ble_eq_true rfl, Nat.le_of_ble_eq_true rfl⟩ ⟨Nat.le_of_ble_eq_true rfl, Nat.le_of_ble_eq_true rfl⟩ rfl rfl (Nat.le_of_ble_eq_true rfl) dX5_init_31 (fun u3 => ?_)
  refine w_put (ty := .object RX3) (q0 := 0) (ws' := ((([(h0, .inr (5, [.ref q1, .ref q2, .null, .null, .null, .null, .ref q3, .int 0]))] ++ stW ca q1 u1) ++ stW ca q2 u2) ++ stW ca q3 u3)) C0 fl_X5_19 tyX5_ok nmX5 rfl (by decide +kernel) rfl ⟨rfl, rfl⟩ (Nat.le_of_ble_eq_true rfl) rfl dX5_init_34 ?_
  refine w_aload_n C0 dX5_init_37 rfl 0 rfl ?_
  refine w_iconst (v := 4) C0 dX5_init_38 rfl ?_
  refine w_newq (C := RX3) (N := 4) (t := 4) C0 cl_X5_7 C0.2.2.2.2.2.2.2.1.2 rfl (by decide) rfl (by decide) ⟨Nat.le_of_ble_eq_true rfl, Nat.le_of_ble_eq_true rfl⟩ dX5_init_39 (fun q4 => ?_)
  refine w_putF (ty := .array (.object RX3)) (q0 := 0) (ws' := (((([(h0, .inr (5, [.ref q1, .ref q2, .ref q4, .null, .null, .null, .ref q3, .int 0]))] ++ stW ca q1 u1) ++ stW ca q2 u2) ++ stW ca q3 u3) ++ [(q4, .inl (ca 4, 4, .inr (.inr (.inr (.inr (fun _ => none))))))])) C0 fl_X5_22 tyX5_ok nmX5 rfl hin rfl (by decide +kernel) rfl ⟨rfl, rfl⟩ (Nat.le_of_ble_eq_true rfl) rfl dX5_init_42 ?_
  refine w_iconst (v := 0) C0 dX5_init_45 rfl ?_
  refine w_istore_n (lv' := [(1, .int 0), (0, .ref h0)]) C0 dX5_init_46 rfl (by decide) rfl ?_
  refine w_iload_n C0 dX5_init_47 rfl 0 rfl ?_
  refine w_aload_n C0 dX5_init_48 rfl 1 rfl ?_
  refine w_get (q0 := 0) C0 fl_X5_22 rfl rfl dX5_init_49 ?_
  refine w_alen (q0 := 34) (t := 4) (ty := .object RX3) (v := 4) C0 rfl rfl rfl dX5_init_52 ?_
  refine w_ge_f (tgt := 75) C0 (by decide) dX5_init_53 (by decide) ?_
  refine w_aload_n C0 dX5_init_56 rfl 1 rfl ?_
  refine w_get (q0 := 0) C0 fl_X5_22 rfl rfl dX5_init_57 ?_
  refine w_iload_n C0 dX5_init_60 rfl 0 rfl ?_
  refine w_new (ci := 3) (N := 13) (r := (RX3, TX3, 13)) (ty := tyX3) (fs := [.null, .null, .null, .int 0, .int 0, .int 0, .int 0, .int 0, .int 0, .int 0, .int 0, .int 0, .int 0]) C0 rfl ub_3 tyX3_ok cl_X5_7 is_X3 bn_X3 rfl nf_3 ⟨Nat.le_of_ble_eq_true rfl, Nat.le_of_ble_eq_true rfl⟩ dX5_init_61 (fun q5 => ?_)
  refine w_dup C0 dX5_init_64 rfl ?_
  refine w_ctor (wp := stW ca) (As := []) (rest := [.ref q5, .int 0, .ref q4]) C0 (ct_X3 l D ca) kw_X5_9 bi_X3_init rfl ⟨Nat.le_of_ble_eq_true rfl, Nat.le_of_ble_eq_true rfl⟩ ⟨Nat.le_of_ble_eq_true rfl, Nat.le_of_ble_eq_true rfl⟩ rfl rfl (Nat.le_of_ble_eq_true rfl) dX5_init_65 (fun u5 => ?_)
  refine w_aast (q0 := 34) (qk := 35) (t := 4) (ci := 3) (N := 4) (r := (RX3, TX3, 13)) (ws' := ((((([(h0, .inr (5, [.ref q1, .ref q2, .ref q4, .null, .null, .null, .ref q3, .int 0]))] ++ stW ca q1 u1) ++ stW ca q2 u2) ++ stW ca q3 u3) ++ [(q4, .inl (ca 4, 4, .inr (.inr (.inr (.inr (va_up (fun _ => none) 0 (some q5)))))))]) ++ stW ca q5 u5)) C0 rfl rfl rfl rfl (by decide) rfl dX5_init_68 ?_
  refine w_iinc (v := 1) (lv' := [(1, .int 1), (0, .ref h0)]) C0 dX5_init_69 0 rfl (by decide) (by decide) rfl ?_
  refine w_goto (tgt := 47) C0 dX5_init_72 (by decide) ?_
  refine w_iload_n C0 dX5_init_47 rfl 0 rfl ?_
  refine w_aload_n C0 dX5_init_48 rfl 1 rfl ?_
  refine w_get (q0 := 0) C0 fl_X5_22 rfl rfl dX5_init_49 ?_
  refine w_alen (q0 := 34) (t := 4) (ty := .object RX3) (v := 4) C0 rfl rfl rfl dX5_init_52 ?_
  refine w_ge_f (tgt := 75) C0 (by decide) dX5_init_53 (by decide) ?_
  refine w_aload_n C0 dX5_init_56 rfl 1 rfl ?_
  refine w_get (q0 := 0) C0 fl_X5_22 rfl rfl dX5_init_57 ?_
  refine w_iload_n C0 dX5_init_60 rfl 0 rfl ?_
  refine w_new (ci := 3) (N := 13) (r := (RX3, TX3, 13)) (ty := tyX3) (fs := [.null, .null, .null, .int 0, .int 0, .int 0, .int 0, .int 0, .int 0, .int 0, .int 0, .int 0, .int 0]) C0 rfl ub_3 tyX3_ok cl_X5_7 is_X3 bn_X3 rfl nf_3 ⟨Nat.le_of_ble_eq_true rfl, Nat.le_of_ble_eq_true rfl⟩ dX5_init_61 (fun q6 => ?_)
  refine w_dup C0 dX5_init_64 rfl ?_
  refine w_ctor (wp := stW ca) (As := []) (rest := [.ref q6, .int 1, .ref q4]) C0 (ct_X3 l D ca) kw_X5_9 bi_X3_init rfl ⟨Nat.le_of_ble_eq_true rfl, Nat.le_of_ble_eq_true rfl⟩ ⟨Nat.le_of_ble_eq_true rfl, Nat.le_of_ble_eq_true rfl⟩ rfl rfl (Nat.le_of_ble_eq_true rfl) dX5_init_65 (fun u6 => ?_)
  refine w_aast (q0 := 34) (qk := 46) (t := 4) (ci := 3) (N := 4) (r := (RX3, TX3, 13)) (ws' := (((((([(h0, .inr (5, [.ref q1, .ref q2, .ref q4, .null, .null, .null, .ref q3, .int 0]))] ++ stW ca q1 u1) ++ stW ca q2 u2) ++ stW ca q3 u3) ++ [(q4, .inl (ca 4, 4, .inr (.inr (.inr (.inr (va_up (va_up (fun _ => none) 0 (some q5)) 1 (some q6)))))))]) ++ stW ca q5 u5) ++ stW ca q6 u6)) C0 rfl rfl rfl rfl (by decide) rfl dX5_init_68 ?_
  refine w_iinc (v := 2) (lv' := [(1, .int 2), (0, .ref h0)]) C0 dX5_init_69 0 rfl (by decide) (by decide) rfl ?_
  refine w_goto (tgt := 47) C0 dX5_init_72 (by decide) ?_
  refine w_iload_n C0 dX5_init_47 rfl 0 rfl ?_
  refine w_aload_n C0 dX5_init_48 rfl 1 rfl ?_
  refine w_get (q0 := 0) C0 fl_X5_22 rfl rfl dX5_init_49 ?_
  refine w_alen (q0 := 34) (t := 4) (ty := .object RX3) (v := 4) C0 rfl rfl rfl dX5_init_52 ?_
  refine w_ge_f (tgt := 75) C0 (by decide) dX5_init_53 (by decide) ?_
  refine w_aload_n C0 dX5_init_56 rfl 1 rfl ?_
  refine w_get (q0 := 0) C0 fl_X5_22 rfl rfl dX5_init_57 ?_
  refine w_iload_n C0 dX5_init_60 rfl 0 rfl ?_
  refine w_new (ci := 3) (N := 13) (r := (RX3, TX3, 13)) (ty := tyX3) (fs := [.null, .null, .null, .int 0, .int 0, .int 0, .int 0, .int 0, .int 0, .int 0, .int 0, .int 0, .int 0]) C0 rfl ub_3 tyX3_ok cl_X5_7 is_X3 bn_X3 rfl nf_3 ⟨Nat.le_of_ble_eq_true rfl, Nat.le_of_ble_eq_true rfl⟩ dX5_init_61 (fun q7 => ?_)
  refine w_dup C0 dX5_init_64 rfl ?_
  refine w_ctor (wp := stW ca) (As := []) (rest := [.ref q7, .int 2, .ref q4]) C0 (ct_X3 l D ca) kw_X5_9 bi_X3_init rfl ⟨Nat.le_of_ble_eq_true rfl, Nat.le_of_ble_eq_true rfl⟩ ⟨Nat.le_of_ble_eq_true rfl, Nat.le_of_ble_eq_true rfl⟩ rfl rfl (Nat.le_of_ble_eq_true rfl) dX5_init_65 (fun u7 => ?_)
  refine w_aast (q0 := 34) (qk := 57) (t := 4) (ci := 3) (N := 4) (r := (RX3, TX3, 13)) (ws' := ((((((([(h0, .inr (5, [.ref q1, .ref q2, .ref q4, .null, .null, .null, .ref q3, .int 0]))] ++ stW ca q1 u1) ++ stW ca q2 u2) ++ stW ca q3 u3) ++ [(q4, .inl (ca 4, 4, .inr (.inr (.inr (.inr (va_up (va_up (va_up (fun _ => none) 0 (some q5)) 1 (some q6)) 2 (some q7)))))))]) ++ stW ca q5 u5) ++ stW ca q6 u6) ++ stW ca q7 u7)) C0 rfl rfl rfl rfl (by decide) rfl dX5_init_68 ?_
  refine w_iinc (v := 3) (lv' := [(1, .int 3), (0, .ref h0)]) C0 dX5_init_69 0 rfl (by decide) (by decide) rfl ?_
  refine w_goto (tgt := 47) C0 dX5_init_72 (by decide) ?_
  refine w_iload_n C0 dX5_init_47 rfl 0 rfl ?_
  refine w_aload_n C0 dX5_init_48 rfl 1 rfl ?_
  refine w_get (q0 := 0) C0 fl_X5_22 rfl rfl dX5_init_49 ?_
  refine w_alen (q0 := 34) (t := 4) (ty := .object RX3) (v := 4) C0 rfl rfl rfl dX5_init_52 ?_
  refine w_ge_f (tgt := 75) C0 (by decide) dX5_init_53 (by decide) ?_
  refine w_aload_n C0 dX5_init_56 rfl 1 rfl ?_
  refine w_get (q0 := 0) C0 fl_X5_22 rfl rfl dX5_init_57 ?_
  refine w_iload_n C0 dX5_init_60 rfl 0 rfl ?_
  refine w_new (ci := 3) (N := 13) (r := (RX3, TX3, 13)) (ty := tyX3) (fs := [.null, .null, .null, .int 0, .int 0, .int 0, .int 0, .int 0, .int 0, .int 0, .int 0, .int 0, .int 0]) C0 rfl ub_3 tyX3_ok cl_X5_7 is_X3 bn_X3 rfl nf_3 ⟨Nat.le_of_ble_eq_true rfl, Nat.le_of_ble_eq_true rfl⟩ dX5_init_61 (fun q8 => ?_)
  refine w_dup C0 dX5_init_64 rfl ?_
  refine w_ctor (wp := stW ca) (As := []) (rest := [.ref q8, .int 3, .ref q4]) C0 (ct_X3 l D ca) kw_X5_9 bi_X3_init rfl ⟨Nat.le_of_ble_eq_true rfl, Nat.le_of_ble_eq_true rfl⟩ ⟨Nat.le_of_ble_eq_true rfl, Nat.le_of_ble_eq_true rfl⟩ rfl rfl (Nat.le_of_ble_eq_true rfl) dX5_init_65 (fun u8 => ?_)
  refine w_aast (q0 := 34) (qk := 68) (t := 4) (ci := 3) (N := 4) (r := (RX3, TX3, 13)) (ws' := (((((((([(h0, .inr (5, [.ref q1, .ref q2, .ref q4, .null, .null, .null, .ref q3, .int 0]))] ++ stW ca q1 u1) ++ stW ca q2 u2) ++ stW ca q3 u3) ++ [(q4, .inl (ca 4, 4, .inr (.inr (.inr (.inr (va_up (va_up (va_up (va_up (fun _ => none) 0 (some q5)) 1 (some q6)) 2 (some q7)) 3 (some q8)))))))]) ++ stW ca q5 u5) ++ stW ca q6 u6) ++ stW ca q7 u7) ++ stW ca q8 u8)) C0 rfl rfl rfl rfl (by decide) rfl dX5_init_68 ?_
  refine w_iinc (v := 4) (lv' := [(1, .int 4), (0, .ref h0)]) C0 dX5_init_69 0 rfl (by decide) (by decide) rfl ?_
  refine w_goto (tgt := 47) C0 dX5_init_72 (by decide) ?_
  refine w_iload_n C0 dX5_init_47 rfl 0 rfl ?_
  refine w_aload_n C0 dX5_init_48 rfl 1 rfl ?_
  refine w_get (q0 := 0) C0 fl_X5_22 rfl rfl dX5_init_49 ?_
  refine w_alen (q0 := 34) (t := 4) (ty := .object RX3) (v := 4) C0 rfl rfl rfl dX5_init_52 ?_
  refine w_ge_t (tgt := 75) C0 (by decide) dX5_init_53 (by decide) ?_
  refine w_aload_n C0 dX5_init_75 rfl 1 rfl ?_
  refine w_iconst (v := 2) C0 dX5_init_76 rfl ?_
  refine w_newq (C := RX3) (N := 2) (t := 4) C0 cl_X5_7 C0.2.2.2.2.2.2.2.1.2 rfl (by decide) rfl (by decide) ⟨Nat.le_of_ble_eq_true rfl, Nat.le_of_ble_eq_true rfl⟩ dX5_init_77 (fun q9 => ?_)
  refine w_putF (ty := .array (.object RX3)) (q0 := 0) (ws' := ((((((((([(h0, .inr (5, [.ref q1, .ref q2, .ref q4, .ref q9, .null, .null, .ref q3, .int 0]))] ++ stW ca q1 u1) ++ stW ca q2 u2) ++ stW ca q3 u3) ++ [(q4, .inl (ca 4, 4, .inr (.inr (.inr (.inr (va_up (va_up (va_up (va_up (fun _ => none) 0 (some q5)) 1 (some q6)) 2 (some q7)) 3 (some q8)))))))]) ++ stW ca q5 u5) ++ stW ca q6 u6) ++ stW ca q7 u7) ++ stW ca q8 u8) ++ [(q9, .inl (ca 4, 2, .inr (.inr (.inr (.inr (fun _ => none))))))])) C0 fl_X5_26 tyX5_ok nmX5 rfl hin rfl (by decide +kernel) rfl ⟨rfl, rfl⟩ (Nat.le_of_ble_eq_true rfl) rfl dX5_init_80 ?_
  refine w_iconst (v := 0) C0 dX5_init_83 rfl ?_
  refine w_istore_n (lv' := [(1, .int 0), (0, .ref h0)]) C0 dX5_init_84 rfl (by decide) rfl ?_
  refine w_iload_n C0 dX5_init_85 rfl 0 rfl ?_
  refine w_aload_n C0 dX5_init_86 rfl 1 rfl ?_
  refine w_get (q0 := 0) C0 fl_X5_26 rfl rfl dX5_init_87 ?_
  refine w_alen (q0 := 79) (t := 4) (ty := .object RX3) (v := 2) C0 rfl rfl rfl dX5_init_90 ?_
  refine w_ge_f (tgt := 113) C0 (by decide) dX5_init_91 (by decide) ?_
  refine w_aload_n C0 dX5_init_94 rfl 1 rfl ?_
  refine w_get (q0 := 0) C0 fl_X5_26 rfl rfl dX5_init_95 ?_
  refine w_iload_n C0 dX5_init_98 rfl 0 rfl ?_
  refine w_new (ci := 3) (N := 13) (r := (RX3, TX3, 13)) (ty := tyX3) (fs := [.null, .null, .null, .int 0, .int 0, .int 0, .int 0, .int 0, .int 0, .int 0, .int 0, .int 0, .int 0]) C0 rfl ub_3 tyX3_ok cl_X5_7 is_X3 bn_X3 rfl nf_3 ⟨Nat.le_of_ble_eq_true rfl, Nat.le_of_ble_eq_true rfl⟩ dX5_init_99 (fun q10 => ?_)
  refine w_dup C0 dX5_init_102 rfl ?_
  refine w_ctor (wp := stW ca) (As := []) (rest := [.ref q10, .int 0, .ref q9]) C0 (ct_X3 l D ca) kw_X5_9 bi_X3_init rfl ⟨Nat.le_of_ble_eq_true rfl, Nat.le_of_ble_eq_true rfl⟩ ⟨Nat.le_of_ble_eq_true rfl, Nat.le_of_ble_eq_true rfl⟩ rfl rfl (Nat.le_of_ble_eq_true rfl) dX5_init_103 (fun u10 => ?_)
  refine w_aast (q0 := 79) (qk := 80) (t := 4) (ci := 3) (N := 2) (r := (RX3, TX3, 13)) (ws' := (((((((((([(h0, .inr (5, [.ref q1, .ref q2, .ref q4, .ref q9, .null, .null, .ref q3, .int 0]))] ++ stW ca q1 u1) ++ stW ca q2 u2) ++ stW ca q3 u3) ++ [(q4, .inl (ca 4, 4, .inr (.inr (.inr (.inr (va_up (va_up (va_up (va_up (fun _ => none) 0 (some q5)) 1 (some q6)) 2 (some q7)) 3 (some q8)))))))]) ++ stW ca q5 u5) ++ stW ca q6 u6) ++ stW ca q7 u7) ++ stW ca q8 u8) ++ [(q9, .inl (ca 4, 2, .inr (.inr (.inr (.inr (va_up (fun _ => none) 0 (some q10)))))))]) ++ stW ca q10 u10)) C0 rfl rfl rfl rfl (by decide) rfl dX5_init_106 ?_
  refine w_iinc (v := 1) (lv' := [(1, .int 1), (0, .ref h0)]) C0 dX5_init_107 0 rfl (by decide) (by decide) rfl ?_
  refine w_goto (tgt := 85) C0 dX5_init_110 (by decide) ?_
  refine w_iload_n C0 dX5_init_85 rfl 0 rfl ?_
  refine w_aload_n C0 dX5_init_86 rfl 1 rfl ?_
  refine w_get (q0 := 0) C0 fl_X5_26 rfl rfl dX5_init_87 ?_
  refine w_alen (q0 := 79) (t := 4) (ty := .object RX3) (v := 2) C0 rfl rfl rfl dX5_init_90 ?_
  refine w_ge_f (tgt := 113) C0 (by decide) dX5_init_91 (by decide) ?_
  refine w_aload_n C0 dX5_init_94 rfl 1 rfl ?_
  refine w_get (q0 := 0) C0 fl_X5_26 rfl rfl dX5_init_95 ?_
  refine w_iload_n C0 dX5_init_98 rfl 0 rfl ?_
  refine w_new (ci := 3) (N := 13) (r := (RX3, TX3, 13)) (ty := tyX3) (fs := [.null, .null, .null, .int 0, .int 0, .int 0, .int 0, .int 0, .int 0, .int 0, .int 0, .int 0, .int 0]) C0 rfl ub_3 tyX3_ok cl_X5_7 is_X3 bn_X3 rfl nf_3 ⟨Nat.le_of_ble_eq_true rfl, Nat.le_of_ble_eq_true rfl⟩ dX5_init_99 (fun q11 => ?_)
  refine w_dup C0 dX5_init_102 rfl ?_
  refine w_ctor (wp := stW ca) (As := []) (rest := [.ref q11, .int 1, .ref q9]) C0 (ct_X3 l D ca) kw_X5_9 bi_X3_init rfl ⟨Nat.le_of_ble_eq_true rfl, Nat.le_of_ble_eq_true rfl⟩ ⟨Nat.le_of_ble_eq_true rfl, Nat.le_of_ble_eq_true rfl⟩ rfl rfl (Nat.le_of_ble_eq_true rfl) dX5_init_103 (fun u11 => ?_)
  refine w_aast (q0 := 79) (qk := 91) (t := 4) (ci := 3) (N := 2) (r := (RX3, TX3, 13)) (ws' := ((((((((((([(h0, .inr (5, [.ref q1, .ref q2, .ref q4, .ref q9, .null, .null, .ref q3, .int 0]))] ++ stW ca q1 u1) ++ stW ca q2 u2) ++ stW ca q3 u3) ++ [(q4, .inl (ca 4, 4, .inr (.inr (.inr (.inr (va_up (va_up (va_up (va_up (fun _ => none) 0 (some q5)) 1 (some q6)) 2 (some q7)) 3 (some q8)))))))]) ++ stW ca q5 u5) ++ stW ca q6 u6) ++ stW ca q7 u7) ++ stW ca q8 u8) ++ [(q9, .inl (ca 4, 2, .inr (.inr (.inr (.inr (va_up (va_up (fun _ => none) 0 (some q10)) 1 (some q11)))))))]) ++ stW ca q10 u10) ++ stW ca q11 u11)) C0 rfl rfl rfl rfl (by decide) rfl dX5_init_106 ?_
  refine w_iinc (v := 2) (lv' := [(1, .int 2), (0, .ref h0)]) C0 dX5_init_107 0 rfl (by decide) (by decide) rfl ?_
  refine w_goto (tgt := 85) C0 dX5_init_110 (by decide) ?_
  refine w_iload_n C0 dX5_init_85 rfl 0 rfl ?_
  refine w_aload_n C0 dX5_init_86 rfl 1 rfl ?_
  refine w_get (q0 := 0) C0 fl_X5_26 rfl rfl dX5_init_87 ?_
  refine w_alen (q0 := 79) (t := 4) (ty := .object RX3) (v := 2) C0 rfl rfl rfl dX5_init_90 ?_
  refine w_ge_t (tgt := 113) C0 (by decide) dX5_init_91 (by decide) ?_
  refine w_aload_n C0 dX5_init_113 rfl 1 rfl ?_
  refine w_iconst (v := 2) C0 dX5_init_114 rfl ?_
  refine w_newa (atype := .boolean) (ty := .boolean) (N := 2) (t := 2) C0 ac_boolean rfl rfl (fun _ => rfl) (by decide) rfl (by decide) ⟨Nat.le_of_ble_eq_true rfl, Nat.le_of_ble_eq_true rfl⟩ dX5_init_115 (fun q12 => ?_)
  refine w_putF (ty := .array (.boolean)) (q0 := 0) (ws' := (((((((((((([(h0, .inr (5, [.ref q1, .ref q2, .ref q4, .ref q9, .ref q12, .null, .ref q3, .int 0]))] ++ stW ca q1 u1) ++ stW ca q2 u2) ++ stW ca q3 u3) ++ [(q4, .inl (ca 4, 4, .inr (.inr (.inr (.inr (va_up (va_up (va_up (va_up (fun _ => none) 0 (some q5)) 1 (some q6)) 2 (some q7)) 3 (some q8)))))))]) ++ stW ca q5 u5) ++ stW ca q6 u6) ++ stW ca q7 u7) ++ stW ca q8 u8) ++ [(q9, .inl (ca 4, 2, .inr (.inr (.inr (.inr (va_up (va_up (fun _ => none) 0 (some q10)) 1 (some q11)))))))]) ++ stW ca q10 u10) ++ stW ca q11 u11) ++ [(q12, .inl (ca 2, 2, .inl (fun _ => 0)))])) C0 fl_X5_29 tyX5_ok nmX5 rfl hin rfl (by decide +kernel) rfl ⟨rfl, rfl⟩ (Nat.le_of_ble_eq_true rfl) rfl dX5_init_117 ?_
  refine w_aload_n C0 dX5_init_120 rfl 1 rfl ?_
  refine w_new (ci := 4) (N := 8) (r := (RX4, TX4, 8)) (ty := tyX4) (fs := [.null, .null, .int 0, .int 0, .int 0, .int 0, .int 0, .int 0]) C0 rfl ub_4 tyX4_ok cl_X5_33 is_X4 bn_X4 rfl nf_4 ⟨Nat.le_of_ble_eq_true rfl, Nat.le_of_ble_eq_true rfl⟩ dX5_init_121 (fun q13 => ?_)
  refine w_dup C0 dX5_init_124 rfl ?_
  refine w_ctorN (wp := textW ca) (As := []) (rest := [.ref q13, .ref h0]) C0 (ct_X4 l D ca) kw_X5_35 bi_X4_init rfl ⟨Nat.le_of_ble_eq_true rfl, Nat.le_of_ble_eq_true rfl⟩ ⟨Nat.le_of_ble_eq_true rfl, Nat.le_of_ble_eq_true rfl⟩ rfl rfl (Nat.le_of_ble_eq_true rfl) dX5_init_125 (fun u13 => ?_)
  refine w_putF (ty := .object RX4) (q0 := 0) (ws' := ((((((((((((([(h0, .inr (5, [.ref q1, .ref q2, .ref q4, .ref q9, .ref q12, .ref q13, .ref q3, .int 0]))] ++ stW ca q1 u1) ++ stW ca q2 u2) ++ stW ca q3 u3) ++ [(q4, .inl (ca 4, 4, .inr (.inr (.inr (.inr (va_up (va_up (va_up (va_up (fun _ => none) 0 (some q5)) 1 (some q6)) 2 (some q7)) 3 (some q8)))))))]) ++ stW ca q5 u5) ++ stW ca q6 u6) ++ stW ca q7 u7) ++ stW ca q8 u8) ++ [(q9, .inl (ca 4, 2, .inr (.inr (.inr (.inr (va_up (va_up (fun _ => none) 0 (some q10)) 1 (some q11)))))))]) ++ stW ca q10 u10) ++ stW ca q11 u11) ++ [(q12, .inl (ca 2, 2, .inl (fun _ => 0)))]) ++ textW ca q13 u13)) C0 fl_X5_36 tyX5_ok nmX5 rfl hin rfl (by decide +kernel) rfl ⟨rfl, rfl⟩ (Nat.le_of_ble_eq_true rfl) rfl dX5_init_128 ?_
  exact w_ret (wp := (xW ca) h0) C0 (fun i => [q1, q2, q3, q5, q6, q7, q8, q10, q11, q4, q9, q12, q13, u13.1, u13.2].getD i 0, fun j => [u1, u2, u3, u5, u6, u7, u8, u10, u11].getD j (fun _ => 0)) rfl hr dX5_init_131
