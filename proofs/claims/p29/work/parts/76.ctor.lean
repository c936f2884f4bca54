/-! CONSTRUCTORS: what the tables say of them; their contracts -/
theorem ol_X5 : Cond.methodLink RX5 1 objectInit ∈ BG := bg_t 13 (by decide +kernel) rfl
theorem ol_X0 : Cond.methodLink RX0 3 objectInit ∈ BG := bg_t 60 (by decide +kernel) rfl
theorem ol_X1 : Cond.methodLink RX1 3 objectInit ∈ BG := bg_t 82 (by decide +kernel) rfl
theorem ol_X2 : Cond.methodLink RX2 1 objectInit ∈ BG := bg_t 29 (by decide +kernel) rfl
theorem ol_X3 : Cond.methodLink RX3 3 objectInit ∈ BG := bg_t 21 (by decide +kernel) rfl
theorem ol_X4 : Cond.methodLink RX4 3 objectInit ∈ BG := bg_t 201 (by decide +kernel) rfl
theorem cl_L_43 : Cond.classLink RL 43 RX5 ∈ BG := bg_t 8 (by decide +kernel) rfl
theorem is_X5 : Cond.instantiable RX5 8 ∈ BG := bg_t 9 (by decide +kernel) rfl
theorem cl_X5_7 : Cond.classLink RX5 7 RX3 ∈ BG := bg_t 16 (by decide +kernel) rfl
theorem is_X3 : Cond.instantiable RX3 13 ∈ BG := bg_t 17 (by decide +kernel) rfl
theorem cl_X3_9 : Cond.classLink RX3 9 RX1 ∈ BG := bg_t 22 (by decide +kernel) rfl
theorem cl_X3_17 : Cond.classLink RX3 17 RX2 ∈ BG := bg_t 24 (by decide +kernel) rfl
theorem is_X2 : Cond.instantiable RX2 6 ∈ BG := bg_t 25 (by decide +kernel) rfl
theorem cl_X3_24 : Cond.classLink RX3 24 RX0 ∈ BG := bg_t 55 (by decide +kernel) rfl
theorem is_X0 : Cond.instantiable RX0 4 ∈ BG := bg_t 56 (by decide +kernel) rfl
theorem ac_int : Cond.arrayClass .int ∈ BG := bg_t 77 (by decide +kernel) rfl
theorem is_X1 : Cond.instantiable RX1 16 ∈ BG := bg_t 78 (by decide +kernel) rfl
theorem cl_X5_33 : Cond.classLink RX5 33 RX4 ∈ BG := bg_t 196 (by decide +kernel) rfl
theorem is_X4 : Cond.instantiable RX4 8 ∈ BG := bg_t 197 (by decide +kernel) rfl
theorem ac_boolean : Cond.arrayClass .boolean ∈ BG := bg_t 222 (by decide +kernel) rfl
theorem ac_char : Cond.arrayClass .char ∈ BG := bg_t 223 (by decide +kernel) rfl
theorem nf_0 : ∀ j, j < 4 → defaultValue (tyX0 j) = vp_V [.null, .null, .int 0, .int 0] j := by
  intro j hj
  rcases (show j = 0 ∨ j = 1 ∨ j = 2 ∨ j = 3 by omega) with rfl | rfl | rfl | rfl <;> rfl
theorem nf_1 : ∀ j, j < 16 → defaultValue (tyX1 j) = vp_V [.int 0, .int 0, .int 0, .int 0, .int 0, .int 0, .int 0, .int 0, .int 0, .int 0, .int 0, .int 0, .int 0, .int 0, .int 0, .int 0] j := by
  intro j hj
  rcases (show j = 0 ∨ j = 1 ∨ j = 2 ∨ j = 3 ∨ j = 4 ∨ j = 5 ∨ j = 6 ∨ j = 7 ∨ j = 8 ∨ j = 9 ∨ j = 10 ∨ j = 11 ∨ j = 12 ∨ j = 13 ∨ j = 14 ∨ j = 15 by omega) with rfl | rfl | rfl | rfl | rfl | rfl | rfl | rfl | rfl | rfl | rfl | rfl | rfl | rfl | rfl | rfl <;> rfl
theorem nf_2 : ∀ j, j < 6 → defaultValue (tyX2 j) = vp_V [.int 0, .int 0, .int 0, .int 0, .int 0, .int 0] j := by
  intro j hj
  rcases (show j = 0 ∨ j = 1 ∨ j = 2 ∨ j = 3 ∨ j = 4 ∨ j = 5 by omega) with rfl | rfl | rfl | rfl | rfl | rfl <;> rfl
theorem nf_3 : ∀ j, j < 13 → defaultValue (tyX3 j) = vp_V [.null, .null, .null, .int 0, .int 0, .int 0, .int 0, .int 0, .int 0, .int 0, .int 0, .int 0, .int 0] j := by
  intro j hj
  rcases (show j = 0 ∨ j = 1 ∨ j = 2 ∨ j = 3 ∨ j = 4 ∨ j = 5 ∨ j = 6 ∨ j = 7 ∨ j = 8 ∨ j = 9 ∨ j = 10 ∨ j = 11 ∨ j = 12 by omega) with rfl | rfl | rfl | rfl | rfl | rfl | rfl | rfl | rfl | rfl | rfl | rfl | rfl <;> rfl
theorem nf_4 : ∀ j, j < 8 → defaultValue (tyX4 j) = vp_V [.null, .null, .int 0, .int 0, .int 0, .int 0, .int 0, .int 0] j := by
  intro j hj
  rcases (show j = 0 ∨ j = 1 ∨ j = 2 ∨ j = 3 ∨ j = 4 ∨ j = 5 ∨ j = 6 ∨ j = 7 by omega) with rfl | rfl | rfl | rfl | rfl | rfl | rfl | rfl <;> rfl
theorem nf_5 : ∀ j, j < 8 → defaultValue (tyX5 j) = vp_V [.null, .null, .null, .null, .null, .null, .null, .int 0] j := by
  intro j hj
  rcases (show j = 0 ∨ j = 1 ∨ j = 2 ∨ j = 3 ∨ j = 4 ∨ j = 5 ∨ j = 6 ∨ j = 7 by omega) with rfl | rfl | rfl | rfl | rfl | rfl | rfl | rfl <;> rfl
def setW (h0 : Nat) (_ : Unit) : va_W := [(h0, .inr (2, [.int 2000, .int 240, .int 400, .int 20, .int 1, .int 0]))]
def clkW (x : Int32) (h0 : Nat) (_ : Unit) : va_W := [(h0, .inr (1, [.int x, .int 0, .int 0, .int 0, .int 0, .int 0, .int 0, .int 0, .int 0, .int 0, .int 0, .int 0, .int 0, .int 0, .int 0, .int 0]))]
def bookW (ca : Nat → ClassId) (h0 : Nat) (u : Nat × Nat) : va_W := [(h0, .inr (0, [.ref u.1, .ref u.2, .int 0, .int 0])), (u.1, .inl (ca 0, 4, .inl (fun _ => 0))), (u.2, .inl (ca 0, 20, .inl (fun _ => 0)))]
def textW (ca : Nat → ClassId) (h0 : Nat) (u : Nat × Nat) : va_W := [(h0, .inr (4, [.ref u.1, .ref u.2, .int 0, .int 0, .int 0, .int 0, .int 0, .int 0])), (u.1, .inl (ca 1, 60, .inl (fun _ => 0))), (u.2, .inl (ca 0, 3, .inl (fun _ => 0)))]
def stW (ca : Nat → ClassId) (h0 : Nat) (f : Nat → Nat) : va_W := [(h0, .inr (3, [.ref (f 1), .ref (f 2), .ref (f 3), .int 0, .int 0, .int 20000, .int 0, .int 0, .int 0, .int 0, .int 0, .int 0, .int 0])), (f 1, .inl (ca 3, 5, .inr (.inr (.inr (.inr (va_up (va_up (va_up (va_up (va_up (fun _ => none) 0 (some (f 6))) 1 (some (f 7))) 2 (some (f 8))) 3 (some (f 9))) 4 (some (f 10)))))))), (f 2, .inr (2, [.int 2000, .int 240, .int 400, .int 20, .int 1, .int 0])), (f 3, .inr (0, [.ref (f 4), .ref (f 5), .int 0, .int 0])), (f 4, .inl (ca 0, 4, .inl (fun _ => 0))), (f 5, .inl (ca 0, 20, .inl (fun _ => 0))), (f 6, .inr (1, [.int 0, .int 0, .int 0, .int 0, .int 0, .int 0, .int 0, .int 0, .int 0, .int 0, .int 0, .int 0, .int 0, .int 0, .int 0, .int 0])), (f 7, .inr (1, [.int 1, .int 0, .int 0, .int 0, .int 0, .int 0, .int 0, .int 0, .int 0, .int 0, .int 0, .int 0, .int 0, .int 0, .int 0, .int 0])), (f 8, .inr (1, [.int 2, .int 0, .int 0, .int 0, .int 0, .int 0, .int 0, .int 0, .int 0, .int 0, .int 0, .int 0, .int 0, .int 0, .int 0, .int 0])), (f 9, .inr (1, [.int 3, .int 0, .int 0, .int 0, .int 0, .int 0, .int 0, .int 0, .int 0, .int 0, .int 0, .int 0, .int 0, .int 0, .int 0, .int 0])), (f 10, .inr (1, [.int 4, .int 0, .int 0, .int 0, .int 0, .int 0, .int 0, .int 0, .int 0, .int 0, .int 0, .int 0, .int 0, .int 0, .int 0, .int 0]))]
set_option maxHeartbeats 4000000 in
set_option maxRecDepth 100000 in
theorem ct_X2 (l : Launch) (D : va_G) (ca : Nat → ClassId) : CT l D ca yX2_init cX2_init 1 1 12 0 0 [] (.inr (2, [.int 0, .int 0, .int 0, .int 0, .int 0, .int 0])) setW := by
  refine ctor_J (lvF := fun h0 => [(0, .ref h0)]) (by decide) (fun _ => Nat.le_of_ble_eq_true rfl) (fun _ => rfl) ?_
  intro A h0 p e s m below meth c C0 hr hin
  refine w_aload_n C0 dX2_init_0 rfl 0 rfl ?_
  refine w_obj C0 ol_X2 ⟨Nat.le_of_ble_eq_true rfl, Nat.le_of_ble_eq_true rfl⟩ dX2_init_1 ?_
  refine w_aload_n C0 dX2_init_4 rfl 0 rfl ?_
  refine w_sipush (v := 2000) C0 dX2_init_5 rfl ?_
  refine w_put (ty := .int) (q0 := 0) (ws' := [(h0, .inr (2, [.int 2000, .int 0, .int 0, .int 0, .int 0, .int 0]))]) C0 fl_X2_7 tyX2_ok nmX2 rfl (by decide +kernel) rfl ⟨rfl, rfl⟩ (Nat.le_of_ble_eq_true rfl) rfl dX2_init_8 ?_
  refine w_aload_n C0 dX2_init_11 rfl 0 rfl ?_
  refine w_sipush (v := 240) C0 dX2_init_12 rfl ?_
  refine w_put (ty := .int) (q0 := 0) (ws' := [(h0, .inr (2, [.int 2000, .int 240, .int 0, .int 0, .int 0, .int 0]))]) C0 fl_X2_13 tyX2_ok nmX2 rfl (by decide +kernel) rfl ⟨rfl, rfl⟩ (Nat.le_of_ble_eq_true rfl) rfl dX2_init_15 ?_
  refine w_aload_n C0 dX2_init_18 rfl 0 rfl ?_
  refine w_sipush (v := 400) C0 dX2_init_19 rfl ?_
  refine w_put (ty := .int) (q0 := 0) (ws' := [(h0, .inr (2, [.int 2000, .int 240, .int 400, .int 0, .int 0, .int 0]))]) C0 fl_X2_16 tyX2_ok nmX2 rfl (by decide +kernel) rfl ⟨rfl, rfl⟩ (Nat.le_of_ble_eq_true rfl) rfl dX2_init_22 ?_
  refine w_aload_n C0 dX2_init_25 rfl 0 rfl ?_
  refine w_bipush (v := 20) C0 dX2_init_26 rfl ?_
  refine w_put (ty := .int) (q0 := 0) (ws' := [(h0, .inr (2, [.int 2000, .int 240, .int 400, .int 20, .int 0, .int 0]))]) C0 fl_X2_19 tyX2_ok nmX2 rfl (by decide +kernel) rfl ⟨rfl, rfl⟩ (Nat.le_of_ble_eq_true rfl) rfl dX2_init_28 ?_
  refine w_aload_n C0 dX2_init_31 rfl 0 rfl ?_
  refine w_iconst (v := 1) C0 dX2_init_32 rfl ?_
  refine w_put (ty := .int) (q0 := 0) (ws' := [(h0, .inr (2, [.int 2000, .int 240, .int 400, .int 20, .int 1, .int 0]))]) C0 fl_X2_22 tyX2_ok nmX2 rfl (by decide +kernel) rfl ⟨rfl, rfl⟩ (Nat.le_of_ble_eq_true rfl) rfl dX2_init_33 ?_
  refine w_aload_n C0 dX2_init_36 rfl 0 rfl ?_
  refine w_iconst (v := 0) C0 dX2_init_37 rfl ?_
  refine w_put (ty := .int) (q0 := 0) (ws' := [(h0, .inr (2, [.int 2000, .int 240, .int 400, .int 20, .int 1, .int 0]))]) C0 fl_X2_25 tyX2_ok nmX2 rfl (by decide +kernel) rfl ⟨rfl, rfl⟩ (Nat.le_of_ble_eq_true rfl) rfl dX2_init_38 ?_
  exact w_ret (wp := setW h0) C0 () rfl hr dX2_init_41
set_option maxHeartbeats 4000000 in
set_option maxRecDepth 100000 in
theorem ct_X1 (l : Launch) (D : va_G) (ca : Nat → ClassId) (x : Int32) : CT l D ca yX1_init cX1_init 2 1 12 0 0 [.int x] (.inr (1, [.int 0, .int 0, .int 0, .int 0, .int 0, .int 0, .int 0, .int 0, .int 0, .int 0, .int 0, .int 0, .int 0, .int 0, .int 0, .int 0])) (clkW x) := by
  refine ctor_J (lvF := fun h0 => [(0, .ref h0), (1, .int x)]) (by decide) (fun _ => Nat.le_of_ble_eq_true rfl) (fun _ => rfl) ?_
  intro A h0 p e s m below meth c C0 hr hin
  refine w_aload_n C0 dX1_init_0 rfl 0 rfl ?_
  refine w_obj C0 ol_X1 ⟨Nat.le_of_ble_eq_true rfl, Nat.le_of_ble_eq_true rfl⟩ dX1_init_1 ?_
  refine w_aload_n C0 dX1_init_4 rfl 0 rfl ?_
  refine w_iload_n C0 dX1_init_5 rfl 1 rfl ?_
  refine w_putF (ty := .int) (q0 := 0) (ws' := [(h0, .inr (1, [.int x, .int 0, .int 0, .int 0, .int 0, .int 0, .int 0, .int 0, .int 0, .int 0, .int 0, .int 0, .int 0, .int 0, .int 0, .int 0]))]) C0 fl_X1_9 tyX1_ok nmX1 rfl hin rfl (by decide +kernel) rfl ⟨rfl, rfl⟩ (Nat.le_of_ble_eq_true rfl) rfl dX1_init_6 ?_
  exact w_ret (wp := (clkW x) h0) C0 () rfl hr dX1_init_9
set_option maxHeartbeats 4000000 in
set_option maxRecDepth 100000 in
theorem ct_X0 (l : Launch) (D : va_G) (ca : Nat → ClassId) : CT l D ca yX0_init cX0_init 1 1 12 2 24 [] (.inr (0, [.null, .null, .int 0, .int 0])) (bookW ca) := by
  refine ctor_J (lvF := fun h0 => [(0, .ref h0)]) (by decide) (fun _ => Nat.le_of_ble_eq_true rfl) (fun _ => rfl) ?_
  intro A h0 p e s m below meth c C0 hr hin
  refine w_aload_n C0 dX0_init_0 rfl 0 rfl ?_
  refine w_obj C0 ol_X0 ⟨Nat.le_of_ble_eq_true rfl, Nat.le_of_ble_eq_true rfl⟩ dX0_init_1 ?_
  refine w_aload_n C0 dX0_init_4 rfl 0 rfl ?_
  refine w_iconst (v := 4) C0 dX0_init_5 rfl ?_
  refine w_newa (atype := .int) (ty := .int) (N := 4) (t := 0) C0 ac_int rfl rfl (fun _ => rfl) (by decide) rfl (by decide) ⟨Nat.le_of_ble_eq_true rfl, Nat.le_of_ble_eq_true rfl⟩ dX0_init_6 (fun q1 => ?_)
  refine w_putF (ty := .array (.int)) (q0 := 0) (ws' := ([(h0, .inr (0, [.ref q1, .null, .int 0, .int 0]))] ++ [(q1, .inl (ca 0, 4, .inl (fun _ => 0)))])) C0 fl_X0_9 tyX0_ok nmX0 rfl hin rfl (by decide +kernel) rfl ⟨rfl, rfl⟩ (Nat.le_of_ble_eq_true rfl) rfl dX0_init_8 ?_
  refine w_aload_n C0 dX0_init_11 rfl 0 rfl ?_
  refine w_bipush (v := 20) C0 dX0_init_12 rfl ?_
  refine w_newa (atype := .int) (ty := .int) (N := 20) (t := 0) C0 ac_int rfl rfl (fun _ => rfl) (by decide) rfl (by decide) ⟨Nat.le_of_ble_eq_true rfl, Nat.le_of_ble_eq_true rfl⟩ dX0_init_14 (fun q2 => ?_)
  refine w_putF (ty := .array (.int)) (q0 := 0) (ws' := (([(h0, .inr (0, [.ref q1, .ref q2, .int 0, .int 0]))] ++ [(q1, .inl (ca 0, 4, .inl (fun _ => 0)))]) ++ [(q2, .inl (ca 0, 20, .inl (fun _ => 0)))])) C0 fl_X0_15 tyX0_ok nmX0 rfl hin rfl (by decide +kernel) rfl ⟨rfl, rfl⟩ (Nat.le_of_ble_eq_true rfl) rfl dX0_init_16 ?_
  exact w_ret (wp := (bookW ca) h0) C0 (q1, q2) rfl hr dX0_init_19
set_option maxHeartbeats 4000000 in
set_option maxRecDepth 100000 in
theorem ct_X4 (l : Launch) (D : va_G) (ca : Nat → ClassId) : CT l D ca yX4_init cX4_init 1 1 12 2 63 [] (.inr (4, [.null, .null, .int 0, .int 0, .int 0, .int 0, .int 0, .int 0])) (textW ca) := by
  refine ctor_J (lvF := fun h0 => [(0, .ref h0)]) (by decide) (fun _ => Nat.le_of_ble_eq_true rfl) (fun _ => rfl) ?_
  intro A h0 p e s m below meth c C0 hr hin
  refine w_aload_n C0 dX4_init_0 rfl 0 rfl ?_
  refine w_obj C0 ol_X4 ⟨Nat.le_of_ble_eq_true rfl, Nat.le_of_ble_eq_true rfl⟩ dX4_init_1 ?_
  refine w_aload_n C0 dX4_init_4 rfl 0 rfl ?_
  refine w_bipush (v := 60) C0 dX4_init_5 rfl ?_
  refine w_newa (atype := .char) (ty := .char) (N := 60) (t := 1) C0 ac_char rfl rfl (fun _ => rfl) (by decide) rfl (by decide) ⟨Nat.le_of_ble_eq_true rfl, Nat.le_of_ble_eq_true rfl⟩ dX4_init_7 (fun q1 => ?_)
  refine w_putF (ty := .array (.char)) (q0 := 0) (ws' := ([(h0, .inr (4, [.ref q1, .null, .int 0, .int 0, .int 0, .int 0, .int 0, .int 0]))] ++ [(q1, .inl (ca 1, 60, .inl (fun _ => 0)))])) C0 fl_X4_9 tyX4_ok nmX4 rfl hin rfl (by decide +kernel) rfl ⟨rfl, rfl⟩ (Nat.le_of_ble_eq_true rfl) rfl dX4_init_9 ?_
  refine w_aload_n C0 dX4_init_12 rfl 0 rfl ?_
  refine w_iconst (v := 3) C0 dX4_init_13 rfl ?_
  refine w_newa (atype := .int) (ty := .int) (N := 3) (t := 0) C0 ac_int rfl rfl (fun _ => rfl) (by decide) rfl (by decide) ⟨Nat.le_of_ble_eq_true rfl, Nat.le_of_ble_eq_true rfl⟩ dX4_init_14 (fun q2 => ?_)
  refine w_putF (ty := .array (.int)) (q0 := 0) (ws' := (([(h0, .inr (4, [.ref q1, .ref q2, .int 0, .int 0, .int 0, .int 0, .int 0, .int 0]))] ++ [(q1, .inl (ca 1, 60, .inl (fun _ => 0)))]) ++ [(q2, .inl (ca 0, 3, .inl (fun _ => 0)))])) C0 fl_X4_15 tyX4_ok nmX4 rfl hin rfl (by decide +kernel) rfl ⟨rfl, rfl⟩ (Nat.le_of_ble_eq_true rfl) rfl dX4_init_16 ?_
  exact w_ret (wp := (textW ca) h0) C0 (q1, q2) rfl hr dX4_init_19
set_option maxHeartbeats 4000000 in
set_option maxRecDepth 100000 in
theorem ct_X3 (l : Launch) (D : va_G) (ca : Nat → ClassId) : CT l D ca yX3_init cX3_init 2 2 33 10 119 [] (.inr (3, [.null, .null, .null, .int 0, .int 0, .int 0, .int 0, .int 0, .int 0, .int 0, .int 0, .int 0, .int 0])) (stW ca) := by
  refine ctor_J (lvF := fun h0 => [(0, .ref h0)]) (by decide) (fun _ => Nat.le_of_ble_eq_true rfl) (fun _ => rfl) ?_
  intro A h0 p e s m below meth c C0 hr hin
  refine w_aload_n C0 dX3_init_0 rfl 0 rfl ?_
  refine w_obj C0 ol_X3 ⟨Nat.le_of_ble_eq_true rfl, Nat.le_of_ble_eq_true rfl⟩ dX3_init_1 ?_
  refine w_aload_n C0 dX3_init_4 rfl 0 rfl ?_
  refine w_iconst (v := 5) C0 dX3_init_5 rfl ?_
  refine w_newq (C := RX1) (N := 5) (t := 3) C0 cl_X3_9 C0.2.2.2.2.2.2.2.1.1 rfl (by decide) rfl (by decide) ⟨Nat.le_of_ble_eq_true rfl, Nat.le_of_ble_eq_true rfl⟩ dX3_init_6 (fun q1 => ?_)
  refine w_putF (ty := .array (.object RX1)) (q0 := 0) (ws' := ([(h0, .inr (3, [.ref q1, .null, .null, .int 0, .int 0, .int 0, .int 0, .int 0, .int 0, .int 0, .int 0, .int 0, .int 0]))] ++ [(q1, .inl (ca 3, 5, .inr (.inr (.inr (.inr (fun _ => none))))))])) C0 fl_X3_11 tyX3_ok nmX3 rfl hin rfl (by decide +kernel) rfl ⟨rfl, rfl⟩ (Nat.le_of_ble_eq_true rfl) rfl dX3_init_9 ?_
  refine w_aload_n C0 dX3_init_12 rfl 0 rfl ?_
  refine w_new (ci := 2) (N := 6) (r := (RX2, TX2, 6)) (ty := tyX2) (fs := [.int 0, .int 0, .int 0, .int 0, .int 0, .int 0]) C0 rfl ub_2 tyX2_ok cl_X3_17 is_X2 bn_X2 rfl nf_2 ⟨Nat.le_of_ble_eq_true rfl, Nat.le_of_ble_eq_true rfl⟩ dX3_init_13 (fun q2 => ?_)
  refine w_dup C0 dX3_init_16 rfl ?_
  refine w_ctorN (wp := setW) (As := []) (rest := [.ref q2, .ref h0]) C0 (ct_X2 l D ca) kw_X3_19 bi_X2_init rfl ⟨Nat.le_of_ble_eq_true rfl, Nat.le_of_ble_eq_true rfl⟩ ⟨Nat.le_of_ble_eq_true rfl, Nat.le_of_ble_eq_true rfl⟩ rfl rfl (Nat.le_of_ble_eq_true rfl) dX3_init_17 (fun u2 => ?_)
  refine w_putF (ty := .object RX2) (q0 := 0) (ws' := (([(h0, .inr (3, [.ref q1, .ref q2, .null, .int 0, .int 0, .int 0, .int 0, .int 0, .int 0, .int 0, .int 0, .int 0, .int 0]))] ++ [(q1, .inl (ca 3, 5, .inr (.inr (.inr (.inr (fun _ => none))))))]) ++ setW q2 u2)) C0 fl_X3_20 tyX3_ok nmX3 rfl hin rfl (by decide +kernel) rfl ⟨rfl, rfl⟩ (Nat.le_of_ble_eq_true rfl) rfl dX3_init_20 ?_
  refine w_aload_n C0 dX3_init_23 rfl 0 rfl ?_
  refine w_new (ci := 0) (N := 4) (r := (RX0, TX0, 4)) (ty := tyX0) (fs := [.null, .null, .int 0, .int 0]) C0 rfl ub_0 tyX0_ok cl_X3_24 is_X0 bn_X0 rfl nf_0 ⟨Nat.le_of_ble_eq_true rfl, Nat.le_of_ble_eq_true rfl⟩ dX3_init_24 (fun q3 => ?_)
  refine w_dup C0 dX3_init_27 rfl ?_
  refine w_ctorN (wp := bookW ca) (As := []) (rest := [.ref q3, .ref h0]) C0 (ct_X0 l D ca) kw_X3_26 bi_X0_init rfl ⟨Nat.le_of_ble_eq_true rfl, Nat.le_of_ble_eq_true rfl⟩ ⟨Nat.le_of_ble_eq_true rfl, Nat.le_of_ble_eq_true rfl⟩ rfl rfl (Nat.le_of_ble_eq_true rfl) dX3_init_28 (fun u3 => ?_)
  refine w_putF (ty := .object RX0) (q0 := 0) (ws' := ((([(h0, .inr (3, [.ref q1, .ref q2, .ref q3, .int 0, .int 0, .int 0, .int 0, .int 0, .int 0, .int 0, .int 0, .int 0, .int 0]))] ++ [(q1, .inl (ca 3, 5, .inr (.inr (.inr (.inr (fun _ => none))))))]) ++ setW q2 u2) ++ bookW ca q3 u3)) C0 fl_X3_27 tyX3_ok nmX3 rfl hin rfl (by decide +kernel) rfl ⟨rfl, rfl⟩ (Nat.le_of_ble_eq_true rfl) rfl dX3_init_31 ?_
  refine w_aload_n C0 dX3_init_34 rfl 0 rfl ?_
  refine w_sipush (v := 20000) C0 dX3_init_35 rfl ?_
  refine w_put (ty := .int) (q0 := 0) (ws' := ((([(h0, .inr (3, [.ref q1, .ref q2, .ref q3, .int 0, .int 0, .int 20000, .int 0, .int 0, .int 0, .int 0, .int 0, .int 0, .int 0]))] ++ [(q1, .inl (ca 3, 5, .inr (.inr (.inr (.inr (fun _ => none))))))]) ++ setW q2 u2) ++ bookW ca q3 u3)) C0 fl_X3_31 tyX3_ok nmX3 rfl (by decide +kernel) rfl ⟨rfl, rfl⟩ (Nat.le_of_ble_eq_true rfl) rfl dX3_init_38 ?_
  refine w_iconst (v := 0) C0 dX3_init_41 rfl ?_
  refine w_istore_n (lv' := [(1, .int 0), (0, .ref h0)]) C0 dX3_init_42 rfl (by decide) rfl ?_
  refine w_iload_n C0 dX3_init_43 rfl 0 rfl ?_
  refine w_aload_n C0 dX3_init_44 rfl 1 rfl ?_
  refine w_get (q0 := 0) C0 fl_X3_11 rfl rfl dX3_init_45 ?_
  refine w_alen (q0 := 1) (t := 3) (ty := .object RX1) (v := 5) C0 rfl rfl rfl dX3_init_48 ?_
  refine w_ge_f (tgt := 72) C0 (by decide) dX3_init_49 (by decide) ?_
  refine w_aload_n C0 dX3_init_52 rfl 1 rfl ?_
  refine w_get (q0 := 0) C0 fl_X3_11 rfl rfl dX3_init_53 ?_
  refine w_iload_n C0 dX3_init_56 rfl 0 rfl ?_
  refine w_new (ci := 1) (N := 16) (r := (RX1, TX1, 16)) (ty := tyX1) (fs := [.int 0, .int 0, .int 0, .int 0, .int 0, .int 0, .int 0, .int 0, .int 0, .int 0, .int 0, .int 0, .int 0, .int 0, .int 0, .int 0]) C0 rfl ub_1 tyX1_ok cl_X3_9 is_X1 bn_X1 rfl nf_1 ⟨Nat.le_of_ble_eq_true rfl, Nat.le_of_ble_eq_true rfl⟩ dX3_init_57 (fun q4 => ?_)
  refine w_dup C0 dX3_init_60 rfl ?_
  refine w_iload_n C0 dX3_init_61 rfl 0 rfl ?_
  refine w_ctor (wp := clkW 0) (As := [.int 0]) (rest := [.ref q4, .int 0, .ref q1]) C0 (ct_X1 l D ca 0) kw_X3_35 bi_X1_init rfl ⟨Nat.le_of_ble_eq_true rfl, Nat.le_of_ble_eq_true rfl⟩ ⟨Nat.le_of_ble_eq_true rfl, Nat.le_of_ble_eq_true rfl⟩ rfl rfl (Nat.le_of_ble_eq_true rfl) dX3_init_62 (fun u4 => ?_)
  refine w_aast (q0 := 1) (qk := 6) (t := 3) (ci := 1) (N := 5) (r := (RX1, TX1, 16)) (ws' := (((([(h0, .inr (3, [.ref q1, .ref q2, .ref q3, .int 0, .int 0, .int 20000, .int 0, .int 0, .int 0, .int 0, .int 0, .int 0, .int 0]))] ++ [(q1, .inl (ca 3, 5, .inr (.inr (.inr (.inr (va_up (fun _ => none) 0 (some q4)))))))]) ++ setW q2 u2) ++ bookW ca q3 u3) ++ clkW 0 q4 u4)) C0 rfl rfl rfl rfl (by decide) rfl dX3_init_65 ?_
  refine w_iinc (v := 1) (lv' := [(1, .int 1), (0, .ref h0)]) C0 dX3_init_66 0 rfl (by decide) (by decide) rfl ?_
  refine w_goto (tgt := 43) C0 dX3_init_69 (by decide) ?_
  refine w_iload_n C0 dX3_init_43 rfl 0 rfl ?_
  refine w_aload_n C0 dX3_init_44 rfl 1 rfl ?_
  refine w_get (q0 := 0) C0 fl_X3_11 rfl rfl dX3_init_45 ?_
  refine w_alen (q0 := 1) (t := 3) (ty := .object RX1) (v := 5) C0 rfl rfl rfl dX3_init_48 ?_
  refine w_ge_f (tgt := 72) C0 (by decide) dX3_init_49 (by decide) ?_
  refine w_aload_n C0 dX3_init_52 rfl 1 rfl ?_
  refine w_get (q0 := 0) C0 fl_X3_11 rfl rfl dX3_init_53 ?_
  refine w_iload_n C0 dX3_init_56 rfl 0 rfl ?_
  refine w_new (ci := 1) (N := 16) (r := (RX1, TX1, 16)) (ty := tyX1) (fs := [.int 0, .int 0, .int 0, .int 0, .int 0, .int 0, .int 0, .int 0, .int 0, .int 0, .int 0, .int 0, .int 0, .int 0, .int 0, .int 0]) C0 rfl ub_1 tyX1_ok cl_X3_9 is_X1 bn_X1 rfl nf_1 ⟨Nat.le_of_ble_eq_true rfl, Nat.le_of_ble_eq_true rfl⟩ dX3_init_57 (fun q5 => ?_)
  refine w_dup C0 dX3_init_60 rfl ?_
  refine w_iload_n C0 dX3_init_61 rfl 0 rfl ?_
  refine w_ctor (wp := clkW 1) (As := [.int 1]) (rest := [.ref q5, .int 1, .ref q1]) C0 (ct_X1 l D ca 1) kw_X3_35 bi_X1_init rfl ⟨Nat.le_of_ble_eq_true rfl, Nat.le_of_ble_eq_true rfl⟩ ⟨Nat.le_of_ble_eq_true rfl, Nat.le_of_ble_eq_true rfl⟩ rfl rfl (Nat.le_of_ble_eq_true rfl) dX3_init_62 (fun u5 => ?_)
  refine w_aast (q0 := 1) (qk := 7) (t := 3) (ci := 1) (N := 5) (r := (RX1, TX1, 16)) (ws' := ((((([(h0, .inr (3, [.ref q1, .ref q2, .ref q3, .int 0, .int 0, .int 20000, .int 0, .int 0, .int 0, .int 0, .int 0, .int 0, .int 0]))] ++ [(q1, .inl (ca 3, 5, .inr (.inr (.inr (.inr (va_up (va_up (fun _ => none) 0 (some q4)) 1 (some q5)))))))]) ++ setW q2 u2) ++ bookW ca q3 u3) ++ clkW 0 q4 u4) ++ clkW 1 q5 u5)) C0 rfl rfl rfl rfl (by decide) rfl dX3_init_65 ?_
  refine w_iinc (v := 2) (lv' := [(1, .int 2), (0, .ref h0)]) C0 dX3_init_66 0 rfl (by decide) (by decide) rfl ?_
  refine w_goto (tgt := 43) C0 dX3_init_69 (by decide) ?_
  refine w_iload_n C0 dX3_init_43 rfl 0 rfl ?_
  refine w_aload_n C0 dX3_init_44 rfl 1 rfl ?_
  refine w_get (q0 := 0) C0 fl_X3_11 rfl rfl dX3_init_45 ?_
  refine w_alen (q0 := 1) (t := 3) (ty := .object RX1) (v := 5) C0 rfl rfl rfl dX3_init_48 ?_
  refine w_ge_f (tgt := 72) C0 (by decide) dX3_init_49 (by decide) ?_
  refine w_aload_n C0 dX3_init_52 rfl 1 rfl ?_
  refine w_get (q0 := 0) C0 fl_X3_11 rfl rfl dX3_init_53 ?_
  refine w_iload_n C0 dX3_init_56 rfl 0 rfl ?_
  refine w_new (ci := 1) (N := 16) (r := (RX1, TX1, 16)) (ty := tyX1) (fs := [.int 0, .int 0, .int 0, .int 0, .int 0, .int 0, .int 0, .int 0, .int 0, .int 0, .int 0, .int 0, .int 0, .int 0, .int 0, .int 0]) C0 rfl ub_1 tyX1_ok cl_X3_9 is_X1 bn_X1 rfl nf_1 ⟨Nat.le_of_ble_eq_true rfl, Nat.le_of_ble_eq_true rfl⟩ dX3_init_57 (fun q6 => ?_)
  refine w_dup C0 dX3_init_60 rfl ?_
  refine w_iload_n C0 dX3_init_61 rfl 0 rfl ?_
  refine w_ctor (wp := clkW 2) (As := [.int 2]) (rest := [.ref q6, .int 2, .ref q1]) C0 (ct_X1 l D ca 2) kw_X3_35 bi_X1_init rfl ⟨Nat.le_of_ble_eq_true rfl, Nat.le_of_ble_eq_true rfl⟩ ⟨Nat.le_of_ble_eq_true rfl, Nat.le_of_ble_eq_true rfl⟩ rfl rfl (Nat.le_of_ble_eq_true rfl) dX3_init_62 (fun u6 => ?_)
  refine w_aast (q0 := 1) (qk := 8) (t := 3) (ci := 1) (N := 5) (r := (RX1, TX1, 16)) (ws' := (((((([(h0, .inr (3, [.ref q1, .ref q2, .ref q3, .int 0, .int 0, .int 20000, .int 0, .int 0, .int 0, .int 0, .int 0, .int 0, .int 0]))] ++ [(q1, .inl (ca 3, 5, .inr (.inr (.inr (.inr (va_up (va_up (va_up (fun _ => none) 0 (some q4)) 1 (some q5)) 2 (some q6)))))))]) ++ setW q2 u2) ++ bookW ca q3 u3) ++ clkW 0 q4 u4) ++ clkW 1 q5 u5) ++ clkW 2 q6 u6)) C0 rfl rfl rfl rfl (by decide) rfl dX3_init_65 ?_
  refine w_iinc (v := 3) (lv' := [(1, .int 3), (0, .ref h0)]) C0 dX3_init_66 0 rfl (by decide) (by decide) rfl ?_
  refine w_goto (tgt := 43) C0 dX3_init_69 (by decide) ?_
  refine w_iload_n C0 dX3_init_43 rfl 0 rfl ?_
  refine w_aload_n C0 dX3_init_44 rfl 1 rfl ?_
  refine w_get (q0 := 0) C0 fl_X3_11 rfl rfl dX3_init_45 ?_
  refine w_alen (q0 := 1) (t := 3) (ty := .object RX1) (v := 5) C0 rfl rfl rfl dX3_init_48 ?_
  refine w_ge_f (tgt := 72) C0 (by decide) dX3_init_49 (by decide) ?_
  refine w_aload_n C0 dX3_init_52 rfl 1 rfl ?_
  refine w_get (q0 := 0) C0 fl_X3_11 rfl rfl dX3_init_53 ?_
  refine w_iload_n C0 dX3_init_56 rfl 0 rfl ?_
  refine w_new (ci := 1) (N := 16) (r := (RX1, TX1, 16)) (ty := tyX1) (fs := [.int 0, .int 0, .int 0, .int 0, .int 0, .int 0, .int 0, .int 0, .int 0, .int 0, .int 0, .int 0, .int 0, .int 0, .int 0, .int 0]) C0 rfl ub_1 tyX1_ok cl_X3_9 is_X1 bn_X1 rfl nf_1 ⟨Nat.le_of_ble_eq_true rfl, Nat.le_of_ble_eq_true rfl⟩ dX3_init_57 (fun q7 => ?_)
  refine w_dup C0 dX3_init_60 rfl ?_
  refine w_iload_n C0 dX3_init_61 rfl 0 rfl ?_
  refine w_ctor (wp := clkW 3) (As := [.int 3]) (rest := [.ref q7, .int 3, .ref q1]) C0 (ct_X1 l D ca 3) kw_X3_35 bi_X1_init rfl ⟨Nat.le_of_ble_eq_true rfl, Nat.le_of_ble_eq_true rfl⟩ ⟨Nat.le_of_ble_eq_true rfl, Nat.le_of_ble_eq_true rfl⟩ rfl rfl (Nat.le_of_ble_eq_true rfl) dX3_init_62 (fun u7 => ?_)
  refine w_aast (q0 := 1) (qk := 9) (t := 3) (ci := 1) (N := 5) (r := (RX1, TX1, 16)) (ws' := ((((((([(h0, .inr (3, [.ref q1, .ref q2, .ref q3, .int 0, .int 0, .int 20000, .int 0, .int 0, .int 0, .int 0, .int 0, .int 0, .int 0]))] ++ [(q1, .inl (ca 3, 5, .inr (.inr (.inr (.inr (va_up (va_up (va_up (va_up (fun _ => none) 0 (some q4)) 1 (some q5)) 2 (some q6)) 3 (some q7)))))))]) ++ setW q2 u2) ++ bookW ca q3 u3) ++ clkW 0 q4 u4) ++ clkW 1 q5 u5) ++ clkW 2 q6 u6) ++ clkW 3 q7 u7)) C0 rfl rfl rfl rfl (by decide) rfl dX3_init_65 ?_
  refine w_iinc (v := 4) (lv' := [(1, .int 4), (0, .ref h0)]) C0 dX3_init_66 0 rfl (by decide) (by decide) rfl ?_
  refine w_goto (tgt := 43) C0 dX3_init_69 (by decide) ?_
  refine w_iload_n C0 dX3_init_43 rfl 0 rfl ?_
  refine w_aload_n C0 dX3_init_44 rfl 1 rfl ?_
  refine w_get (q0 := 0) C0 fl_X3_11 rfl rfl dX3_init_45 ?_
  refine w_alen (q0 := 1) (t := 3) (ty := .object RX1) (v := 5) C0 rfl rfl rfl dX3_init_48 ?_
  refine w_ge_f (tgt := 72) C0 (by decide) dX3_init_49 (by decide) ?_
  refine w_aload_n C0 dX3_init_52 rfl 1 rfl ?_
  refine w_get (q0 := 0) C0 fl_X3_11 rfl rfl dX3_init_53 ?_
  refine w_iload_n C0 dX3_init_56 rfl 0 rfl ?_
  refine w_new (ci := 1) (N := 16) (r := (RX1, TX1, 16)) (ty := tyX1) (fs := [.int 0, .int 0, .int 0, .int 0, .int 0, .int 0, .int 0, .int 0, .int 0, .int 0, .int 0, .int 0, .int 0, .int 0, .int 0, .int 0]) C0 rfl ub_1 tyX1_ok cl_X3_9 is_X1 bn_X1 rfl nf_1 ⟨Nat.le_of_ble_eq_true rfl, Nat.le_of_ble_eq_true rfl⟩ dX3_init_57 (fun q8 => ?_)
  refine w_dup C0 dX3_init_60 rfl ?_
  refine w_iload_n C0 dX3_init_61 rfl 0 rfl ?_
  refine w_ctor (wp := clkW 4) (As := [.int 4]) (rest := [.ref q8, .int 4, .ref q1]) C0 (ct_X1 l D ca 4) kw_X3_35 bi_X1_init rfl ⟨Nat.le_of_ble_eq_true rfl, Nat.le_of_ble_eq_true rfl⟩ ⟨Nat.le_of_ble_eq_true rfl, Nat.le_of_ble_eq_true rfl⟩ rfl rfl (Nat.le_of_ble_eq_true rfl) dX3_init_62 (fun u8 => ?_)
  refine w_aast (q0 := 1) (qk := 10) (t := 3) (ci := 1) (N := 5) (r := (RX1, TX1, 16)) (ws' := (((((((([(h0, .inr (3, [.ref q1, .ref q2, .ref q3, .int 0, .int 0, .int 20000, .int 0, .int 0, .int 0, .int 0, .int 0, .int 0, .int 0]))] ++ [(q1, .inl (ca 3, 5, .inr (.inr (.inr (.inr (va_up (va_up (va_up (va_up (va_up (fun _ => none) 0 (some q4)) 1 (some q5)) 2 (some q6)) 3 (some q7)) 4 (some q8)))))))]) ++ setW q2 u2) ++ bookW ca q3 u3) ++ clkW 0 q4 u4) ++ clkW 1 q5 u5) ++ clkW 2 q6 u6) ++ clkW 3 q7 u7) ++ clkW 4 q8 u8)) C0 rfl rfl rfl rfl (by decide) rfl dX3_init_65 ?_
  refine w_iinc (v := 5) (lv' := [(1, .int 5), (0, .ref h0)]) C0 dX3_init_66 0 rfl (by decide) (by decide) rfl ?_
  refine w_goto (tgt := 43) C0 dX3_init_69 (by decide) ?_
  refine w_iload_n C0 dX3_init_43 rfl 0 rfl ?_
  refine w_aload_n C0 dX3_init_44 rfl 1 rfl ?_
  refine w_get (q0 := 0) C0 fl_X3_11 rfl rfl dX3_init_45 ?_
  refine w_alen (q0 := 1) (t := 3) (ty := .object RX1) (v := 5) C0 rfl rfl rfl dX3_init_48 ?_
  refine w_ge_t (tgt := 72) C0 (by decide) dX3_init_49 (by decide) ?_
  exact w_ret (wp := (stW ca) h0) C0 (fun i => [h0, q1, q2, q3, u3.1, u3.2, q4, q5, q6, q7, q8].getD i 0) rfl hr dX3_init_72
