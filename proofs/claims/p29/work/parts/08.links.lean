/-! what the tables say: fields, methods, constants; where each number stands -/
theorem bg_t {w : Cond} (i : Nat) (h : tables_1[i]? = some w) (hg : goodWord w = true) : w ∈ BG := bg_in (List.mem_append_right _ (List.mem_of_getElem? h)) hg
theorem bg_p {q : MethodName × Nat} (i : Nat) (h : lw_privs[i]? = some q) : Cond.selects q.1.cls q.1 q.1 ∈ BG := bg_in (List.mem_append_left _ (List.mem_map.mpr ⟨q, List.mem_of_getElem? h, rfl⟩)) rfl
theorem nst_t {w : Cond} (i : Nat) (h : tables_1[i]? = some w) (hg : isNest w = true) : w ∈ nestL := List.mem_filter.mpr ⟨List.mem_of_getElem? h, hg⟩
theorem bg_ps {ws : List Cond} (ps : List Nat) (h : ws = ps.filterMap (fun i => tables_1[i]?)) (hg : ws.all goodWord = true) : ∀ w ∈ ws, w ∈ BG := fun w hw => bg_in (List.mem_append_right _ (by
  rw [h] at hw
  obtain ⟨i, -, hi⟩ := List.mem_filterMap.mp hw
  exact List.mem_of_getElem? hi)) (List.all_eq_true.mp hg w hw)
theorem ub_0 : ∀ w ∈ u_ws RX0 TX0 4, w ∈ BG := bg_ps [68, 70, 72, 74] (by decide +kernel) (by decide +kernel)
theorem ub_1 : ∀ w ∈ u_ws RX1 TX1 16, w ∈ BG := bg_ps [110, 112, 114, 116, 118, 120, 122, 124, 126, 128, 130, 132, 134, 136, 138, 140] (by decide +kernel) (by decide +kernel)
theorem ub_2 : ∀ w ∈ u_ws RX2 TX2 6, w ∈ BG := bg_ps [42, 44, 46, 48, 50, 52] (by decide +kernel) (by decide +kernel)
theorem ub_3 : ∀ w ∈ u_ws RX3 TX3 13, w ∈ BG := bg_ps [168, 170, 172, 174, 176, 178, 180, 182, 184, 186, 188, 190, 192] (by decide +kernel) (by decide +kernel)
theorem ub_4 : ∀ w ∈ u_ws RX4 TX4 8, w ∈ BG := bg_ps [205, 207, 209, 211, 213, 215, 217, 219] (by decide +kernel) (by decide +kernel)
theorem ub_5 : ∀ w ∈ u_ws RX5 TX5 8, w ∈ BG := bg_ps [232, 234, 236, 238, 240, 242, 244, 246] (by decide +kernel) (by decide +kernel)
theorem fl_X5_10 : FLw RX5 10 5 0 (RX5, TX5, 8) := ⟨rfl, ub_5, by decide, rfl, bg_t 224 (by decide +kernel) rfl⟩
theorem fl_X5_16 : FLw RX5 16 5 1 (RX5, TX5, 8) := ⟨rfl, ub_5, by decide, rfl, bg_t 225 (by decide +kernel) rfl⟩
theorem fl_X5_19 : FLw RX5 19 5 6 (RX5, TX5, 8) := ⟨rfl, ub_5, by decide, rfl, bg_t 230 (by decide +kernel) rfl⟩
theorem fl_X5_22 : FLw RX5 22 5 2 (RX5, TX5, 8) := ⟨rfl, ub_5, by decide, rfl, bg_t 226 (by decide +kernel) rfl⟩
theorem fl_X5_26 : FLw RX5 26 5 3 (RX5, TX5, 8) := ⟨rfl, ub_5, by decide, rfl, bg_t 227 (by decide +kernel) rfl⟩
theorem fl_X5_29 : FLw RX5 29 5 4 (RX5, TX5, 8) := ⟨rfl, ub_5, by decide, rfl, bg_t 228 (by decide +kernel) rfl⟩
theorem fl_X5_36 : FLw RX5 36 5 5 (RX5, TX5, 8) := ⟨rfl, ub_5, by decide, rfl, bg_t 229 (by decide +kernel) rfl⟩
theorem fl_X5_79 : FLw RX5 79 3 3 (RX3, TX3, 13) := ⟨rfl, ub_3, by decide, rfl, bg_t 149 (by decide +kernel) rfl⟩
theorem fl_X5_108 : FLw RX5 108 3 5 (RX3, TX3, 13) := ⟨rfl, ub_3, by decide, rfl, bg_t 153 (by decide +kernel) rfl⟩
theorem fl_X5_114 : FLw RX5 114 3 6 (RX3, TX3, 13) := ⟨rfl, ub_3, by decide, rfl, bg_t 155 (by decide +kernel) rfl⟩
theorem fl_X5_117 : FLw RX5 117 3 7 (RX3, TX3, 13) := ⟨rfl, ub_3, by decide, rfl, bg_t 157 (by decide +kernel) rfl⟩
theorem fl_X5_123 : FLw RX5 123 3 8 (RX3, TX3, 13) := ⟨rfl, ub_3, by decide, rfl, bg_t 159 (by decide +kernel) rfl⟩
theorem fl_X5_126 : FLw RX5 126 3 10 (RX3, TX3, 13) := ⟨rfl, ub_3, by decide, rfl, bg_t 163 (by decide +kernel) rfl⟩
theorem fl_X5_129 : FLw RX5 129 3 11 (RX3, TX3, 13) := ⟨rfl, ub_3, by decide, rfl, bg_t 165 (by decide +kernel) rfl⟩
theorem fl_X5_132 : FLw RX5 132 3 12 (RX3, TX3, 13) := ⟨rfl, ub_3, by decide, rfl, bg_t 167 (by decide +kernel) rfl⟩
theorem fl_X5_135 : FLw RX5 135 3 2 (RX3, TX3, 13) := ⟨rfl, ub_3, by decide, rfl, bg_t 147 (by decide +kernel) rfl⟩
theorem fl_X5_163 : FLw RX5 163 1 2 (RX1, TX1, 16) := ⟨rfl, ub_1, by decide, rfl, bg_t 89 (by decide +kernel) rfl⟩
theorem fl_X5_181 : FLw RX5 181 3 4 (RX3, TX3, 13) := ⟨rfl, ub_3, by decide, rfl, bg_t 151 (by decide +kernel) rfl⟩
theorem fl_X5_190 : FLw RX5 190 0 2 (RX0, TX0, 4) := ⟨rfl, ub_0, by decide, rfl, bg_t 64 (by decide +kernel) rfl⟩
theorem fl_X5_193 : FLw RX5 193 0 3 (RX0, TX0, 4) := ⟨rfl, ub_0, by decide, rfl, bg_t 66 (by decide +kernel) rfl⟩
theorem fl_X5_199 : FLw RX5 199 3 9 (RX3, TX3, 13) := ⟨rfl, ub_3, by decide, rfl, bg_t 161 (by decide +kernel) rfl⟩
theorem fl_X5_205 : FLw RX5 205 5 7 (RX5, TX5, 8) := ⟨rfl, ub_5, by decide, rfl, bg_t 231 (by decide +kernel) rfl⟩
theorem fl_X5_208 : FLw RX5 208 4 2 (RX4, TX4, 8) := ⟨rfl, ub_4, by decide, rfl, bg_t 204 (by decide +kernel) rfl⟩
theorem fl_X5_211 : FLw RX5 211 3 1 (RX3, TX3, 13) := ⟨rfl, ub_3, by decide, rfl, bg_t 145 (by decide +kernel) rfl⟩
theorem fl_X0_9 : FLw RX0 9 0 0 (RX0, TX0, 4) := ⟨rfl, ub_0, by decide, rfl, bg_t 61 (by decide +kernel) rfl⟩
theorem fl_X0_15 : FLw RX0 15 0 1 (RX0, TX0, 4) := ⟨rfl, ub_0, by decide, rfl, bg_t 62 (by decide +kernel) rfl⟩
theorem fl_X0_22 : FLw RX0 22 0 2 (RX0, TX0, 4) := ⟨rfl, ub_0, by decide, rfl, bg_t 63 (by decide +kernel) rfl⟩
theorem fl_X0_26 : FLw RX0 26 0 3 (RX0, TX0, 4) := ⟨rfl, ub_0, by decide, rfl, bg_t 65 (by decide +kernel) rfl⟩
theorem fl_X1_9 : FLw RX1 9 1 0 (RX1, TX1, 16) := ⟨rfl, ub_1, by decide, rfl, bg_t 83 (by decide +kernel) rfl⟩
theorem fl_X1_15 : FLw RX1 15 1 1 (RX1, TX1, 16) := ⟨rfl, ub_1, by decide, rfl, bg_t 85 (by decide +kernel) rfl⟩
theorem fl_X1_18 : FLw RX1 18 1 2 (RX1, TX1, 16) := ⟨rfl, ub_1, by decide, rfl, bg_t 87 (by decide +kernel) rfl⟩
theorem fl_X1_21 : FLw RX1 21 1 3 (RX1, TX1, 16) := ⟨rfl, ub_1, by decide, rfl, bg_t 90 (by decide +kernel) rfl⟩
theorem fl_X1_24 : FLw RX1 24 1 4 (RX1, TX1, 16) := ⟨rfl, ub_1, by decide, rfl, bg_t 92 (by decide +kernel) rfl⟩
theorem fl_X1_27 : FLw RX1 27 1 5 (RX1, TX1, 16) := ⟨rfl, ub_1, by decide, rfl, bg_t 94 (by decide +kernel) rfl⟩
theorem fl_X1_30 : FLw RX1 30 1 6 (RX1, TX1, 16) := ⟨rfl, ub_1, by decide, rfl, bg_t 96 (by decide +kernel) rfl⟩
theorem fl_X1_33 : FLw RX1 33 1 7 (RX1, TX1, 16) := ⟨rfl, ub_1, by decide, rfl, bg_t 98 (by decide +kernel) rfl⟩
theorem fl_X1_36 : FLw RX1 36 1 8 (RX1, TX1, 16) := ⟨rfl, ub_1, by decide, rfl, bg_t 99 (by decide +kernel) rfl⟩
theorem fl_X1_39 : FLw RX1 39 1 9 (RX1, TX1, 16) := ⟨rfl, ub_1, by decide, rfl, bg_t 100 (by decide +kernel) rfl⟩
theorem fl_X1_42 : FLw RX1 42 1 10 (RX1, TX1, 16) := ⟨rfl, ub_1, by decide, rfl, bg_t 101 (by decide +kernel) rfl⟩
theorem fl_X1_45 : FLw RX1 45 1 11 (RX1, TX1, 16) := ⟨rfl, ub_1, by decide, rfl, bg_t 103 (by decide +kernel) rfl⟩
theorem fl_X1_48 : FLw RX1 48 1 12 (RX1, TX1, 16) := ⟨rfl, ub_1, by decide, rfl, bg_t 105 (by decide +kernel) rfl⟩
theorem fl_X1_51 : FLw RX1 51 1 13 (RX1, TX1, 16) := ⟨rfl, ub_1, by decide, rfl, bg_t 107 (by decide +kernel) rfl⟩
theorem fl_X1_54 : FLw RX1 54 1 14 (RX1, TX1, 16) := ⟨rfl, ub_1, by decide, rfl, bg_t 108 (by decide +kernel) rfl⟩
theorem fl_X1_57 : FLw RX1 57 1 15 (RX1, TX1, 16) := ⟨rfl, ub_1, by decide, rfl, bg_t 109 (by decide +kernel) rfl⟩
theorem fl_X2_7 : FLw RX2 7 2 0 (RX2, TX2, 6) := ⟨rfl, ub_2, by decide, rfl, bg_t 30 (by decide +kernel) rfl⟩
theorem fl_X2_13 : FLw RX2 13 2 1 (RX2, TX2, 6) := ⟨rfl, ub_2, by decide, rfl, bg_t 32 (by decide +kernel) rfl⟩
theorem fl_X2_16 : FLw RX2 16 2 2 (RX2, TX2, 6) := ⟨rfl, ub_2, by decide, rfl, bg_t 34 (by decide +kernel) rfl⟩
theorem fl_X2_19 : FLw RX2 19 2 3 (RX2, TX2, 6) := ⟨rfl, ub_2, by decide, rfl, bg_t 36 (by decide +kernel) rfl⟩
theorem fl_X2_22 : FLw RX2 22 2 4 (RX2, TX2, 6) := ⟨rfl, ub_2, by decide, rfl, bg_t 38 (by decide +kernel) rfl⟩
theorem fl_X2_25 : FLw RX2 25 2 5 (RX2, TX2, 6) := ⟨rfl, ub_2, by decide, rfl, bg_t 40 (by decide +kernel) rfl⟩
theorem fl_X3_11 : FLw RX3 11 3 0 (RX3, TX3, 13) := ⟨rfl, ub_3, by decide, rfl, bg_t 143 (by decide +kernel) rfl⟩
theorem fl_X3_20 : FLw RX3 20 3 1 (RX3, TX3, 13) := ⟨rfl, ub_3, by decide, rfl, bg_t 144 (by decide +kernel) rfl⟩
theorem fl_X3_27 : FLw RX3 27 3 2 (RX3, TX3, 13) := ⟨rfl, ub_3, by decide, rfl, bg_t 146 (by decide +kernel) rfl⟩
theorem fl_X3_31 : FLw RX3 31 3 5 (RX3, TX3, 13) := ⟨rfl, ub_3, by decide, rfl, bg_t 152 (by decide +kernel) rfl⟩
theorem fl_X3_48 : FLw RX3 48 3 3 (RX3, TX3, 13) := ⟨rfl, ub_3, by decide, rfl, bg_t 148 (by decide +kernel) rfl⟩
theorem fl_X3_51 : FLw RX3 51 3 4 (RX3, TX3, 13) := ⟨rfl, ub_3, by decide, rfl, bg_t 150 (by decide +kernel) rfl⟩
theorem fl_X3_54 : FLw RX3 54 3 6 (RX3, TX3, 13) := ⟨rfl, ub_3, by decide, rfl, bg_t 154 (by decide +kernel) rfl⟩
theorem fl_X3_57 : FLw RX3 57 3 7 (RX3, TX3, 13) := ⟨rfl, ub_3, by decide, rfl, bg_t 156 (by decide +kernel) rfl⟩
theorem fl_X3_60 : FLw RX3 60 3 8 (RX3, TX3, 13) := ⟨rfl, ub_3, by decide, rfl, bg_t 158 (by decide +kernel) rfl⟩
theorem fl_X3_63 : FLw RX3 63 3 9 (RX3, TX3, 13) := ⟨rfl, ub_3, by decide, rfl, bg_t 160 (by decide +kernel) rfl⟩
theorem fl_X3_66 : FLw RX3 66 3 10 (RX3, TX3, 13) := ⟨rfl, ub_3, by decide, rfl, bg_t 162 (by decide +kernel) rfl⟩
theorem fl_X3_69 : FLw RX3 69 3 11 (RX3, TX3, 13) := ⟨rfl, ub_3, by decide, rfl, bg_t 164 (by decide +kernel) rfl⟩
theorem fl_X3_72 : FLw RX3 72 3 12 (RX3, TX3, 13) := ⟨rfl, ub_3, by decide, rfl, bg_t 166 (by decide +kernel) rfl⟩
theorem fl_X3_89 : FLw RX3 89 1 1 (RX1, TX1, 16) := ⟨rfl, ub_1, by decide, rfl, bg_t 86 (by decide +kernel) rfl⟩
theorem fl_X3_93 : FLw RX3 93 1 4 (RX1, TX1, 16) := ⟨rfl, ub_1, by decide, rfl, bg_t 93 (by decide +kernel) rfl⟩
theorem fl_X3_112 : FLw RX3 112 1 12 (RX1, TX1, 16) := ⟨rfl, ub_1, by decide, rfl, bg_t 106 (by decide +kernel) rfl⟩
theorem fl_X3_118 : FLw RX3 118 1 2 (RX1, TX1, 16) := ⟨rfl, ub_1, by decide, rfl, bg_t 88 (by decide +kernel) rfl⟩
theorem fl_X3_121 : FLw RX3 121 1 3 (RX1, TX1, 16) := ⟨rfl, ub_1, by decide, rfl, bg_t 91 (by decide +kernel) rfl⟩
theorem fl_X3_164 : FLw RX3 164 1 6 (RX1, TX1, 16) := ⟨rfl, ub_1, by decide, rfl, bg_t 97 (by decide +kernel) rfl⟩
theorem fl_X3_179 : FLw RX3 179 2 2 (RX2, TX2, 6) := ⟨rfl, ub_2, by decide, rfl, bg_t 35 (by decide +kernel) rfl⟩
theorem fl_X3_185 : FLw RX3 185 2 1 (RX2, TX2, 6) := ⟨rfl, ub_2, by decide, rfl, bg_t 33 (by decide +kernel) rfl⟩
theorem fl_X3_188 : FLw RX3 188 1 10 (RX1, TX1, 16) := ⟨rfl, ub_1, by decide, rfl, bg_t 102 (by decide +kernel) rfl⟩
theorem fl_X3_191 : FLw RX3 191 1 11 (RX1, TX1, 16) := ⟨rfl, ub_1, by decide, rfl, bg_t 104 (by decide +kernel) rfl⟩
theorem fl_X3_194 : FLw RX3 194 1 0 (RX1, TX1, 16) := ⟨rfl, ub_1, by decide, rfl, bg_t 84 (by decide +kernel) rfl⟩
theorem fl_X3_197 : FLw RX3 197 1 5 (RX1, TX1, 16) := ⟨rfl, ub_1, by decide, rfl, bg_t 95 (by decide +kernel) rfl⟩
theorem fl_X3_200 : FLw RX3 200 2 0 (RX2, TX2, 6) := ⟨rfl, ub_2, by decide, rfl, bg_t 31 (by decide +kernel) rfl⟩
theorem fl_X3_209 : FLw RX3 209 2 3 (RX2, TX2, 6) := ⟨rfl, ub_2, by decide, rfl, bg_t 37 (by decide +kernel) rfl⟩
theorem fl_X3_227 : FLw RX3 227 2 4 (RX2, TX2, 6) := ⟨rfl, ub_2, by decide, rfl, bg_t 39 (by decide +kernel) rfl⟩
theorem fl_X3_239 : FLw RX3 239 0 3 (RX0, TX0, 4) := ⟨rfl, ub_0, by decide, rfl, bg_t 67 (by decide +kernel) rfl⟩
theorem fl_X3_242 : FLw RX3 242 2 5 (RX2, TX2, 6) := ⟨rfl, ub_2, by decide, rfl, bg_t 41 (by decide +kernel) rfl⟩
theorem fl_X4_9 : FLw RX4 9 4 0 (RX4, TX4, 8) := ⟨rfl, ub_4, by decide, rfl, bg_t 202 (by decide +kernel) rfl⟩
theorem fl_X4_15 : FLw RX4 15 4 1 (RX4, TX4, 8) := ⟨rfl, ub_4, by decide, rfl, bg_t 203 (by decide +kernel) rfl⟩
theorem pw_0_2 : PLw 2 .int (RX0, TX0, 4) := ⟨⟨tyX0, tyX0_ok⟩, nmX0, rfl, by decide +kernel⟩
theorem pw_0_3 : PLw 3 .int (RX0, TX0, 4) := ⟨⟨tyX0, tyX0_ok⟩, nmX0, rfl, by decide +kernel⟩
theorem pw_1_1 : PLw 1 .int (RX1, TX1, 16) := ⟨⟨tyX1, tyX1_ok⟩, nmX1, rfl, by decide +kernel⟩
theorem pw_1_2 : PLw 2 .int (RX1, TX1, 16) := ⟨⟨tyX1, tyX1_ok⟩, nmX1, rfl, by decide +kernel⟩
theorem pw_1_3 : PLw 3 .int (RX1, TX1, 16) := ⟨⟨tyX1, tyX1_ok⟩, nmX1, rfl, by decide +kernel⟩
theorem pw_1_4 : PLw 4 .int (RX1, TX1, 16) := ⟨⟨tyX1, tyX1_ok⟩, nmX1, rfl, by decide +kernel⟩
theorem pw_1_5 : PLw 5 .int (RX1, TX1, 16) := ⟨⟨tyX1, tyX1_ok⟩, nmX1, rfl, by decide +kernel⟩
theorem pw_1_6 : PLw 6 .int (RX1, TX1, 16) := ⟨⟨tyX1, tyX1_ok⟩, nmX1, rfl, by decide +kernel⟩
theorem pw_1_7 : PLw 7 .int (RX1, TX1, 16) := ⟨⟨tyX1, tyX1_ok⟩, nmX1, rfl, by decide +kernel⟩
theorem pw_1_8 : PLw 8 .int (RX1, TX1, 16) := ⟨⟨tyX1, tyX1_ok⟩, nmX1, rfl, by decide +kernel⟩
theorem pw_1_9 : PLw 9 .int (RX1, TX1, 16) := ⟨⟨tyX1, tyX1_ok⟩, nmX1, rfl, by decide +kernel⟩
theorem pw_1_10 : PLw 10 .int (RX1, TX1, 16) := ⟨⟨tyX1, tyX1_ok⟩, nmX1, rfl, by decide +kernel⟩
theorem pw_1_11 : PLw 11 .int (RX1, TX1, 16) := ⟨⟨tyX1, tyX1_ok⟩, nmX1, rfl, by decide +kernel⟩
theorem pw_1_12 : PLw 12 .int (RX1, TX1, 16) := ⟨⟨tyX1, tyX1_ok⟩, nmX1, rfl, by decide +kernel⟩
theorem pw_1_13 : PLw 13 .int (RX1, TX1, 16) := ⟨⟨tyX1, tyX1_ok⟩, nmX1, rfl, by decide +kernel⟩
theorem pw_1_14 : PLw 14 .int (RX1, TX1, 16) := ⟨⟨tyX1, tyX1_ok⟩, nmX1, rfl, by decide +kernel⟩
theorem pw_1_15 : PLw 15 .int (RX1, TX1, 16) := ⟨⟨tyX1, tyX1_ok⟩, nmX1, rfl, by decide +kernel⟩
theorem pw_2_0 : PLw 0 .int (RX2, TX2, 6) := ⟨⟨tyX2, tyX2_ok⟩, nmX2, rfl, by decide +kernel⟩
theorem pw_2_1 : PLw 1 .int (RX2, TX2, 6) := ⟨⟨tyX2, tyX2_ok⟩, nmX2, rfl, by decide +kernel⟩
theorem pw_2_2 : PLw 2 .int (RX2, TX2, 6) := ⟨⟨tyX2, tyX2_ok⟩, nmX2, rfl, by decide +kernel⟩
theorem pw_2_3 : PLw 3 .int (RX2, TX2, 6) := ⟨⟨tyX2, tyX2_ok⟩, nmX2, rfl, by decide +kernel⟩
theorem pw_2_4 : PLw 4 .int (RX2, TX2, 6) := ⟨⟨tyX2, tyX2_ok⟩, nmX2, rfl, by decide +kernel⟩
theorem pw_2_5 : PLw 5 .int (RX2, TX2, 6) := ⟨⟨tyX2, tyX2_ok⟩, nmX2, rfl, by decide +kernel⟩
theorem pw_3_3 : PLw 3 .int (RX3, TX3, 13) := ⟨⟨tyX3, tyX3_ok⟩, nmX3, rfl, by decide +kernel⟩
theorem pw_3_4 : PLw 4 .int (RX3, TX3, 13) := ⟨⟨tyX3, tyX3_ok⟩, nmX3, rfl, by decide +kernel⟩
theorem pw_3_5 : PLw 5 .int (RX3, TX3, 13) := ⟨⟨tyX3, tyX3_ok⟩, nmX3, rfl, by decide +kernel⟩
theorem pw_3_6 : PLw 6 .int (RX3, TX3, 13) := ⟨⟨tyX3, tyX3_ok⟩, nmX3, rfl, by decide +kernel⟩
theorem pw_3_7 : PLw 7 .int (RX3, TX3, 13) := ⟨⟨tyX3, tyX3_ok⟩, nmX3, rfl, by decide +kernel⟩
theorem pw_3_8 : PLw 8 .int (RX3, TX3, 13) := ⟨⟨tyX3, tyX3_ok⟩, nmX3, rfl, by decide +kernel⟩
theorem pw_3_9 : PLw 9 .int (RX3, TX3, 13) := ⟨⟨tyX3, tyX3_ok⟩, nmX3, rfl, by decide +kernel⟩
theorem pw_3_10 : PLw 10 .int (RX3, TX3, 13) := ⟨⟨tyX3, tyX3_ok⟩, nmX3, rfl, by decide +kernel⟩
theorem pw_3_11 : PLw 11 .int (RX3, TX3, 13) := ⟨⟨tyX3, tyX3_ok⟩, nmX3, rfl, by decide +kernel⟩
theorem pw_3_12 : PLw 12 .int (RX3, TX3, 13) := ⟨⟨tyX3, tyX3_ok⟩, nmX3, rfl, by decide +kernel⟩
theorem pw_4_2 : PLw 2 .int (RX4, TX4, 8) := ⟨⟨tyX4, tyX4_ok⟩, nmX4, rfl, by decide +kernel⟩
theorem pw_4_3 : PLw 3 .int (RX4, TX4, 8) := ⟨⟨tyX4, tyX4_ok⟩, nmX4, rfl, by decide +kernel⟩
theorem pw_4_4 : PLw 4 .int (RX4, TX4, 8) := ⟨⟨tyX4, tyX4_ok⟩, nmX4, rfl, by decide +kernel⟩
theorem pw_4_5 : PLw 5 .char (RX4, TX4, 8) := ⟨⟨tyX4, tyX4_ok⟩, nmX4, rfl, by decide +kernel⟩
theorem pw_4_6 : PLw 6 .int (RX4, TX4, 8) := ⟨⟨tyX4, tyX4_ok⟩, nmX4, rfl, by decide +kernel⟩
theorem pw_4_7 : PLw 7 .int (RX4, TX4, 8) := ⟨⟨tyX4, tyX4_ok⟩, nmX4, rfl, by decide +kernel⟩
theorem pw_5_7 : PLw 7 .int (RX5, TX5, 8) := ⟨⟨tyX5, tyX5_ok⟩, nmX5, rfl, by decide +kernel⟩
theorem fg_X5_260 : Cond.fieldLink RX5 260 RX5 (tabF 2) "[I" ∈ BG := bg_t 514 (by decide +kernel) rfl
theorem fg_X2_28 : Cond.fieldLinkNest RX2 28 RX5 (tabF 0) "[I" RX5 ∈ nestL := nst_t 657 (by decide +kernel) rfl
theorem fg_X2_38 : Cond.fieldLinkNest RX2 38 RX5 (tabF 1) "[I" RX5 ∈ nestL := nst_t 660 (by decide +kernel) rfl
theorem fg_X3_104 : Cond.fieldLinkNest RX3 104 RX5 (tabF 2) "[I" RX5 ∈ nestL := nst_t 520 (by decide +kernel) rfl
theorem cw_X5_78 : Cond.constant RX5 78 (-1000001) ∈ BG := bg_t 268 (by decide +kernel) rfl
theorem cw_X5_96 : Cond.constant RX5 96 (-1000004) ∈ BG := bg_t 284 (by decide +kernel) rfl
theorem cw_X3_75 : Cond.constant RX3 75 (-1000001) ∈ BG := bg_t 563 (by decide +kernel) rfl
theorem cw_X3_76 : Cond.constant RX3 76 (-1000003) ∈ BG := bg_t 564 (by decide +kernel) rfl
theorem cw_X3_92 : Cond.constant RX3 92 (-1000002) ∈ BG := bg_t 593 (by decide +kernel) rfl
theorem cw_X3_131 : Cond.constant RX3 131 (99999) ∈ BG := bg_t 675 (by decide +kernel) rfl
theorem cw_L_7 : Cond.constant RL 7 (2146121005) ∈ BG := bg_t 252 (by decide +kernel) rfl
theorem cw_L_8 : Cond.constant RL 8 (2147483647) ∈ BG := bg_t 256 (by decide +kernel) rfl
theorem cw_L_48 : Cond.constant RL 48 (-1000004) ∈ BG := bg_t 285 (by decide +kernel) rfl
theorem cw_L_49 : Cond.constant RL 49 (-1000001) ∈ BG := bg_t 289 (by decide +kernel) rfl
theorem cw_L_96 : Cond.constant RL 96 (-1000003) ∈ BG := bg_t 554 (by decide +kernel) rfl
theorem cw_L_101 : Cond.constant RL 101 (-1000002) ∈ BG := bg_t 594 (by decide +kernel) rfl
theorem cw_X5_267 : Cond.constantFloat RX5 267 1258291200 ∈ BG := bg_t 403 (by decide +kernel) rfl
theorem bn_J9 : Cond.initialized RJ9 ∈ BG := bg_t 7 (by decide +kernel) rfl
theorem bn_L : Cond.initialized RL ∈ BG := bg_t 0 (by decide +kernel) rfl
theorem bn_X0 : Cond.initialized RX0 ∈ BG := bg_t 4 (by decide +kernel) rfl
theorem bn_X1 : Cond.initialized RX1 ∈ BG := bg_t 5 (by decide +kernel) rfl
theorem bn_X2 : Cond.initialized RX2 ∈ BG := bg_t 3 (by decide +kernel) rfl
theorem bn_X3 : Cond.initialized RX3 ∈ BG := bg_t 2 (by decide +kernel) rfl
theorem bn_X4 : Cond.initialized RX4 ∈ BG := bg_t 6 (by decide +kernel) rfl
theorem bn_X5 : Cond.initialized RX5 ∈ BG := bg_t 1 (by decide +kernel) rfl
set_option maxRecDepth 100000 in
theorem bc_J9_abs_0f7a4 : Cond.code yJ9_abs_0f7a4 cJ9_abs_0f7a4 1 (some .int) ∈ BG := bg_t 364 (by with_unfolding_all rfl) rfl
theorem bi_J9_abs_0f7a4 : Cond.static yJ9_abs_0f7a4 ∈ BG := bg_t 363 (by decide +kernel) rfl
set_option maxRecDepth 100000 in
theorem bc_J9_floorDiv_7cf53 : Cond.code yJ9_floorDiv_7cf53 cJ9_floorDiv_7cf53 3 (some .int) ∈ BG := bg_t 307 (by with_unfolding_all rfl) rfl
theorem bi_J9_floorDiv_7cf53 : Cond.static yJ9_floorDiv_7cf53 ∈ BG := bg_t 306 (by decide +kernel) rfl
set_option maxRecDepth 100000 in
theorem bc_J9_floorMod_7cf53 : Cond.code yJ9_floorMod_7cf53 cJ9_floorMod_7cf53 3 (some .int) ∈ BG := bg_t 384 (by with_unfolding_all rfl) rfl
theorem bi_J9_floorMod_7cf53 : Cond.static yJ9_floorMod_7cf53 ∈ BG := bg_t 383 (by decide +kernel) rfl
set_option maxRecDepth 100000 in
theorem bc_J9_min_7cf53 : Cond.code yJ9_min_7cf53 cJ9_min_7cf53 2 (some .int) ∈ BG := bg_t 283 (by with_unfolding_all rfl) rfl
theorem bi_J9_min_7cf53 : Cond.static yJ9_min_7cf53 ∈ BG := bg_t 282 (by decide +kernel) rfl
set_option maxRecDepth 100000 in
theorem bc_L_acts : Cond.code yL_acts cL_acts 9 (some .boolean) ∈ BG := bg_t 550 (by with_unfolding_all rfl) rfl
theorem bi_L_acts : Cond.static yL_acts ∈ BG := bg_t 549 (by decide +kernel) rfl
set_option maxRecDepth 100000 in
theorem bc_L_adds : Cond.code yL_adds cL_adds 11 (some .boolean) ∈ BG := bg_t 553 (by with_unfolding_all rfl) rfl
theorem bi_L_adds : Cond.static yL_adds ∈ BG := bg_t 552 (by decide +kernel) rfl
set_option maxRecDepth 100000 in
theorem bc_L_areClocks : Cond.code yL_areClocks cL_areClocks 7 (some .boolean) ∈ BG := bg_t 259 (by with_unfolding_all rfl) rfl
theorem bi_L_areClocks : Cond.static yL_areClocks ∈ BG := bg_t 258 (by decide +kernel) rfl
set_option maxRecDepth 100000 in
theorem bc_L_areNumbers : Cond.code yL_areNumbers cL_areNumbers 12 (some .boolean) ∈ BG := bg_t 344 (by with_unfolding_all rfl) rfl
theorem bi_L_areNumbers : Cond.static yL_areNumbers ∈ BG := bg_t 343 (by decide +kernel) rfl
set_option maxRecDepth 100000 in
theorem bc_L_cell : Cond.code yL_cell cL_cell 2 (some .int) ∈ BG := bg_t 251 (by with_unfolding_all rfl) rfl
theorem bi_L_cell : Cond.static yL_cell ∈ BG := bg_t 250 (by decide +kernel) rfl
set_option maxRecDepth 100000 in
theorem bc_L_comes : Cond.code yL_comes cL_comes 6 (some .int) ∈ BG := bg_t 538 (by with_unfolding_all rfl) rfl
theorem bi_L_comes : Cond.static yL_comes ∈ BG := bg_t 537 (by decide +kernel) rfl
set_option maxRecDepth 100000 in
theorem bc_L_copy : Cond.code yL_copy cL_copy 3 none ∈ BG := bg_t 529 (by with_unfolding_all rfl) rfl
theorem bi_L_copy : Cond.static yL_copy ∈ BG := bg_t 528 (by decide +kernel) rfl
set_option maxRecDepth 100000 in
theorem bc_L_counted : Cond.code yL_counted cL_counted 3 (some .int) ∈ BG := bg_t 324 (by with_unfolding_all rfl) rfl
theorem bi_L_counted : Cond.static yL_counted ∈ BG := bg_t 323 (by decide +kernel) rfl
set_option maxRecDepth 100000 in
theorem bc_L_drip : Cond.code yL_drip cL_drip 3 (some .int) ∈ BG := bg_t 288 (by with_unfolding_all rfl) rfl
theorem bi_L_drip : Cond.static yL_drip ∈ BG := bg_t 287 (by decide +kernel) rfl
set_option maxRecDepth 100000 in
theorem bc_L_error : Cond.code yL_error cL_error 7 (some .int) ∈ BG := bg_t 321 (by with_unfolding_all rfl) rfl
theorem bi_L_error : Cond.static yL_error ∈ BG := bg_t 320 (by decide +kernel) rfl
set_option maxRecDepth 100000 in
theorem bc_L_isEmptyIn : Cond.code yL_isEmptyIn cL_isEmptyIn 10 (some .boolean) ∈ BG := bg_t 547 (by with_unfolding_all rfl) rfl
theorem bi_L_isEmptyIn : Cond.static yL_isEmptyIn ∈ BG := bg_t 546 (by decide +kernel) rfl
set_option maxRecDepth 100000 in
theorem bc_L_isMean : Cond.code yL_isMean cL_isMean 5 (some .boolean) ∈ BG := bg_t 406 (by with_unfolding_all rfl) rfl
theorem bi_L_isMean : Cond.static yL_isMean ∈ BG := bg_t 405 (by decide +kernel) rfl
set_option maxRecDepth 100000 in
theorem bc_L_isWater : Cond.code yL_isWater cL_isWater 6 (some .boolean) ∈ BG := bg_t 327 (by with_unfolding_all rfl) rfl
theorem bi_L_isWater : Cond.static yL_isWater ∈ BG := bg_t 326 (by decide +kernel) rfl
set_option maxRecDepth 100000 in
theorem bc_L_leads : Cond.code yL_leads cL_leads 7 (some .boolean) ∈ BG := bg_t 597 (by with_unfolding_all rfl) rfl
theorem bi_L_leads : Cond.static yL_leads ∈ BG := bg_t 596 (by decide +kernel) rfl
set_option maxRecDepth 100000 in
theorem bc_L_low : Cond.code yL_low cL_low 2 (some .int) ∈ BG := bg_t 255 (by with_unfolding_all rfl) rfl
theorem bi_L_low : Cond.static yL_low ∈ BG := bg_t 254 (by decide +kernel) rfl
set_option maxRecDepth 100000 in
theorem bc_L_noon : Cond.code yL_noon cL_noon 5 none ∈ BG := bg_t 541 (by with_unfolding_all rfl) rfl
theorem bi_L_noon : Cond.static yL_noon ∈ BG := bg_t 540 (by decide +kernel) rfl
set_option maxRecDepth 100000 in
theorem bc_L_off : Cond.code yL_off cL_off 5 (some .int) ∈ BG := bg_t 347 (by with_unfolding_all rfl) rfl
theorem bi_L_off : Cond.static yL_off ∈ BG := bg_t 346 (by decide +kernel) rfl
set_option maxRecDepth 100000 in
theorem bc_L_on : Cond.code yL_on cL_on 5 none ∈ BG := bg_t 535 (by with_unfolding_all rfl) rfl
theorem bi_L_on : Cond.static yL_on ∈ BG := bg_t 534 (by decide +kernel) rfl
set_option maxRecDepth 100000 in
theorem bc_L_pitches : Cond.code yL_pitches cL_pitches 8 (some .boolean) ∈ BG := bg_t 619 (by with_unfolding_all rfl) rfl
theorem bi_L_pitches : Cond.static yL_pitches ∈ BG := bg_t 618 (by decide +kernel) rfl
set_option maxRecDepth 100000 in
theorem bc_L_pours : Cond.code yL_pours cL_pours 8 (some .boolean) ∈ BG := bg_t 582 (by with_unfolding_all rfl) rfl
theorem bi_L_pours : Cond.static yL_pours ∈ BG := bg_t 581 (by decide +kernel) rfl
set_option maxRecDepth 100000 in
theorem bc_L_sets : Cond.code yL_sets cL_sets 8 (some .boolean) ∈ BG := bg_t 645 (by with_unfolding_all rfl) rfl
theorem bi_L_sets : Cond.static yL_sets ∈ BG := bg_t 644 (by decide +kernel) rfl
set_option maxRecDepth 100000 in
theorem bc_L_ticks : Cond.code yL_ticks cL_ticks 12 (some .int) ∈ BG := bg_t 532 (by with_unfolding_all rfl) rfl
theorem bi_L_ticks : Cond.static yL_ticks ∈ BG := bg_t 531 (by decide +kernel) rfl
set_option maxRecDepth 100000 in
theorem bc_L_trues : Cond.code yL_trues cL_trues 4 none ∈ BG := bg_t 544 (by with_unfolding_all rfl) rfl
theorem bi_L_trues : Cond.static yL_trues ∈ BG := bg_t 543 (by decide +kernel) rfl
set_option maxRecDepth 100000 in
theorem bc_L_truesUp : Cond.code yL_truesUp cL_truesUp 6 (some .boolean) ∈ BG := bg_t 634 (by with_unfolding_all rfl) rfl
theorem bi_L_truesUp : Cond.static yL_truesUp ∈ BG := bg_t 633 (by decide +kernel) rfl
set_option maxRecDepth 100000 in
theorem bc_L_waxes : Cond.code yL_waxes cL_waxes 7 (some .boolean) ∈ BG := bg_t 608 (by with_unfolding_all rfl) rfl
theorem bi_L_waxes : Cond.static yL_waxes ∈ BG := bg_t 607 (by decide +kernel) rfl
set_option maxRecDepth 100000 in
theorem bc_L_would : Cond.code yL_would cL_would 17 (some .boolean) ∈ BG := bg_t 438 (by with_unfolding_all rfl) rfl
theorem bi_L_would : Cond.static yL_would ∈ BG := bg_t 437 (by decide +kernel) rfl
set_option maxRecDepth 100000 in
theorem bc_X0_copyFrom : Cond.code yX0_copyFrom cX0_copyFrom 2 none ∈ BG := bg_t 462 (by with_unfolding_all rfl) rfl
theorem bi_X0_copyFrom : Cond.instanceMethod yX0_copyFrom ∈ BG := bg_t 460 (by decide +kernel) rfl
theorem bx_X0_copyFrom : Cond.selects yX0_copyFrom.cls yX0_copyFrom yX0_copyFrom ∈ BG := bg_t 461 (by decide +kernel) rfl
set_option maxRecDepth 100000 in
theorem bc_X0_errorAt : Cond.code yX0_errorAt cX0_errorAt 3 (some .int) ∈ BG := bg_t 391 (by with_unfolding_all rfl) rfl
theorem bi_X0_errorAt : Cond.instanceMethod yX0_errorAt ∈ BG := bg_t 389 (by decide +kernel) rfl
theorem bx_X0_errorAt : Cond.selects yX0_errorAt.cls yX0_errorAt yX0_errorAt ∈ BG := bg_t 390 (by decide +kernel) rfl
set_option maxRecDepth 100000 in
theorem bc_X0_has : Cond.code yX0_has cX0_has 3 (some .boolean) ∈ BG := bg_t 372 (by with_unfolding_all rfl) rfl
theorem bi_X0_has : Cond.instanceMethod yX0_has ∈ BG := bg_t 370 (by decide +kernel) rfl
theorem bx_X0_has : Cond.selects yX0_has.cls yX0_has yX0_has ∈ BG := bg_t 371 (by decide +kernel) rfl
set_option maxRecDepth 100000 in
theorem bc_X0_init : Cond.code yX0_init cX0_init 1 none ∈ BG := bg_t 59 (by with_unfolding_all rfl) rfl
theorem bi_X0_init : Cond.instanceMethod yX0_init ∈ BG := bg_t 58 (by decide +kernel) rfl
set_option maxRecDepth 100000 in
theorem bc_X0_open : Cond.code yX0_open cX0_open 2 none ∈ BG := bg_t 689 (by with_unfolding_all rfl) rfl
theorem bi_X0_open : Cond.instanceMethod yX0_open ∈ BG := bg_t 687 (by decide +kernel) rfl
theorem bx_X0_open : Cond.selects yX0_open.cls yX0_open yX0_open ∈ BG := bg_t 688 (by decide +kernel) rfl
set_option maxRecDepth 100000 in
theorem bc_X0_place : Cond.code yX0_place cX0_place 2 (some .int) ∈ BG := bg_t 381 (by with_unfolding_all rfl) rfl
theorem bi_X0_place : Cond.instanceMethod yX0_place ∈ BG := bg_t 380 (by decide +kernel) rfl
theorem bx_X0_place : Cond.selects yX0_place.cls yX0_place yX0_place ∈ BG := bg_p (q := (yX0_place, 4)) 1 (by decide +kernel)
set_option maxRecDepth 100000 in
theorem bc_X0_size : Cond.code yX0_size cX0_size 1 (some .int) ∈ BG := bg_t 376 (by with_unfolding_all rfl) rfl
theorem bi_X0_size : Cond.instanceMethod yX0_size ∈ BG := bg_t 374 (by decide +kernel) rfl
theorem bx_X0_size : Cond.selects yX0_size.cls yX0_size yX0_size ∈ BG := bg_t 375 (by decide +kernel) rfl
set_option maxRecDepth 100000 in
theorem bc_X0_write : Cond.code yX0_write cX0_write 3 none ∈ BG := bg_t 696 (by with_unfolding_all rfl) rfl
theorem bi_X0_write : Cond.instanceMethod yX0_write ∈ BG := bg_t 694 (by decide +kernel) rfl
theorem bx_X0_write : Cond.selects yX0_write.cls yX0_write yX0_write ∈ BG := bg_t 695 (by decide +kernel) rfl
set_option maxRecDepth 100000 in
theorem bc_X1_begin : Cond.code yX1_begin cX1_begin 5 none ∈ BG := bg_t 568 (by with_unfolding_all rfl) rfl
theorem bi_X1_begin : Cond.instanceMethod yX1_begin ∈ BG := bg_t 566 (by decide +kernel) rfl
theorem bx_X1_begin : Cond.selects yX1_begin.cls yX1_begin yX1_begin ∈ BG := bg_t 567 (by decide +kernel) rfl
set_option maxRecDepth 100000 in
theorem bc_X1_copyFrom : Cond.code yX1_copyFrom cX1_copyFrom 2 none ∈ BG := bg_t 454 (by with_unfolding_all rfl) rfl
theorem bi_X1_copyFrom : Cond.instanceMethod yX1_copyFrom ∈ BG := bg_t 452 (by decide +kernel) rfl
theorem bx_X1_copyFrom : Cond.selects yX1_copyFrom.cls yX1_copyFrom yX1_copyFrom ∈ BG := bg_t 453 (by decide +kernel) rfl
set_option maxRecDepth 100000 in
theorem bc_X1_dropsCounted : Cond.code yX1_dropsCounted cX1_dropsCounted 1 (some .int) ∈ BG := bg_t 301 (by with_unfolding_all rfl) rfl
theorem bi_X1_dropsCounted : Cond.instanceMethod yX1_dropsCounted ∈ BG := bg_t 299 (by decide +kernel) rfl
theorem bx_X1_dropsCounted : Cond.selects yX1_dropsCounted.cls yX1_dropsCounted yX1_dropsCounted ∈ BG := bg_t 300 (by decide +kernel) rfl
set_option maxRecDepth 100000 in
theorem bc_X1_figure : Cond.code yX1_figure cX1_figure 2 (some .int) ∈ BG := bg_t 276 (by with_unfolding_all rfl) rfl
theorem bi_X1_figure : Cond.instanceMethod yX1_figure ∈ BG := bg_t 274 (by decide +kernel) rfl
theorem bx_X1_figure : Cond.selects yX1_figure.cls yX1_figure yX1_figure ∈ BG := bg_t 275 (by decide +kernel) rfl
set_option maxRecDepth 100000 in
theorem bc_X1_has : Cond.code yX1_has cX1_has 2 (some .boolean) ∈ BG := bg_t 272 (by with_unfolding_all rfl) rfl
theorem bi_X1_has : Cond.instanceMethod yX1_has ∈ BG := bg_t 270 (by decide +kernel) rfl
theorem bx_X1_has : Cond.selects yX1_has.cls yX1_has yX1_has ∈ BG := bg_t 271 (by decide +kernel) rfl
set_option maxRecDepth 100000 in
theorem bc_X1_hourTold : Cond.code yX1_hourTold cX1_hourTold 1 (some .int) ∈ BG := bg_t 297 (by with_unfolding_all rfl) rfl
theorem bi_X1_hourTold : Cond.instanceMethod yX1_hourTold ∈ BG := bg_t 295 (by decide +kernel) rfl
theorem bx_X1_hourTold : Cond.selects yX1_hourTold.cls yX1_hourTold yX1_hourTold ∈ BG := bg_t 296 (by decide +kernel) rfl
set_option maxRecDepth 100000 in
theorem bc_X1_init : Cond.code yX1_init cX1_init 2 none ∈ BG := bg_t 81 (by with_unfolding_all rfl) rfl
theorem bi_X1_init : Cond.instanceMethod yX1_init ∈ BG := bg_t 80 (by decide +kernel) rfl
set_option maxRecDepth 100000 in
theorem bc_X1_letThrough : Cond.code yX1_letThrough cX1_letThrough 2 (some .int) ∈ BG := bg_t 477 (by with_unfolding_all rfl) rfl
theorem bi_X1_letThrough : Cond.instanceMethod yX1_letThrough ∈ BG := bg_t 475 (by decide +kernel) rfl
theorem bx_X1_letThrough : Cond.selects yX1_letThrough.cls yX1_letThrough yX1_letThrough ∈ BG := bg_t 476 (by decide +kernel) rfl
set_option maxRecDepth 100000 in
theorem bc_X1_nextDrip : Cond.code yX1_nextDrip cX1_nextDrip 1 (some .int) ∈ BG := bg_t 280 (by with_unfolding_all rfl) rfl
theorem bi_X1_nextDrip : Cond.instanceMethod yX1_nextDrip ∈ BG := bg_t 278 (by decide +kernel) rfl
theorem bx_X1_nextDrip : Cond.selects yX1_nextDrip.cls yX1_nextDrip yX1_nextDrip ∈ BG := bg_t 279 (by decide +kernel) rfl
set_option maxRecDepth 100000 in
theorem bc_X1_trueTo : Cond.code yX1_trueTo cX1_trueTo 2 none ∈ BG := bg_t 631 (by with_unfolding_all rfl) rfl
theorem bi_X1_trueTo : Cond.instanceMethod yX1_trueTo ∈ BG := bg_t 629 (by decide +kernel) rfl
theorem bx_X1_trueTo : Cond.selects yX1_trueTo.cls yX1_trueTo yX1_trueTo ∈ BG := bg_t 630 (by decide +kernel) rfl
set_option maxRecDepth 100000 in
theorem bc_X1_wearHole : Cond.code yX1_wearHole cX1_wearHole 4 none ∈ BG := bg_t 498 (by with_unfolding_all rfl) rfl
theorem bi_X1_wearHole : Cond.instanceMethod yX1_wearHole ∈ BG := bg_t 496 (by decide +kernel) rfl
theorem bx_X1_wearHole : Cond.selects yX1_wearHole.cls yX1_wearHole yX1_wearHole ∈ BG := bg_t 497 (by decide +kernel) rfl
set_option maxRecDepth 100000 in
theorem bc_X2_change : Cond.code yX2_change cX2_change 3 none ∈ BG := bg_t 666 (by with_unfolding_all rfl) rfl
theorem bi_X2_change : Cond.instanceMethod yX2_change ∈ BG := bg_t 664 (by decide +kernel) rfl
theorem bx_X2_change : Cond.selects yX2_change.cls yX2_change yX2_change ∈ BG := bg_t 665 (by decide +kernel) rfl
set_option maxRecDepth 100000 in
theorem bc_X2_copyFrom : Cond.code yX2_copyFrom cX2_copyFrom 2 none ∈ BG := bg_t 458 (by with_unfolding_all rfl) rfl
theorem bi_X2_copyFrom : Cond.instanceMethod yX2_copyFrom ∈ BG := bg_t 456 (by decide +kernel) rfl
theorem bx_X2_copyFrom : Cond.selects yX2_copyFrom.cls yX2_copyFrom yX2_copyFrom ∈ BG := bg_t 457 (by decide +kernel) rfl
set_option maxRecDepth 100000 in
theorem bc_X2_init : Cond.code yX2_init cX2_init 1 none ∈ BG := bg_t 28 (by with_unfolding_all rfl) rfl
theorem bi_X2_init : Cond.instanceMethod yX2_init ∈ BG := bg_t 27 (by decide +kernel) rfl
set_option maxRecDepth 100000 in
theorem bc_X2_isInRange : Cond.code yX2_isInRange cX2_isInRange 2 (some .boolean) ∈ BG := bg_t 656 (by with_unfolding_all rfl) rfl
theorem bi_X2_isInRange : Cond.static yX2_isInRange ∈ BG := bg_t 655 (by decide +kernel) rfl
set_option maxRecDepth 100000 in
theorem bc_X2_valueOf : Cond.code yX2_valueOf cX2_valueOf 2 (some .int) ∈ BG := bg_t 435 (by with_unfolding_all rfl) rfl
theorem bi_X2_valueOf : Cond.instanceMethod yX2_valueOf ∈ BG := bg_t 433 (by decide +kernel) rfl
theorem bx_X2_valueOf : Cond.selects yX2_valueOf.cls yX2_valueOf yX2_valueOf ∈ BG := bg_t 434 (by decide +kernel) rfl
set_option maxRecDepth 100000 in
theorem bc_X3_addClock : Cond.code yX3_addClock cX3_addClock 4 (some .int) ∈ BG := bg_t 562 (by with_unfolding_all rfl) rfl
theorem bi_X3_addClock : Cond.instanceMethod yX3_addClock ∈ BG := bg_t 560 (by decide +kernel) rfl
theorem bx_X3_addClock : Cond.selects yX3_addClock.cls yX3_addClock yX3_addClock ∈ BG := bg_t 561 (by decide +kernel) rfl
set_option maxRecDepth 100000 in
theorem bc_X3_allWater : Cond.code yX3_allWater cX3_allWater 1 (some .int) ∈ BG := bg_t 340 (by with_unfolding_all rfl) rfl
theorem bi_X3_allWater : Cond.instanceMethod yX3_allWater ∈ BG := bg_t 338 (by decide +kernel) rfl
theorem bx_X3_allWater : Cond.selects yX3_allWater.cls yX3_allWater yX3_allWater ∈ BG := bg_t 339 (by decide +kernel) rfl
set_option maxRecDepth 100000 in
theorem bc_X3_changePitch : Cond.code yX3_changePitch cX3_changePitch 5 (some .int) ∈ BG := bg_t 627 (by with_unfolding_all rfl) rfl
theorem bi_X3_changePitch : Cond.instanceMethod yX3_changePitch ∈ BG := bg_t 625 (by decide +kernel) rfl
theorem bx_X3_changePitch : Cond.selects yX3_changePitch.cls yX3_changePitch yX3_changePitch ∈ BG := bg_t 626 (by decide +kernel) rfl
set_option maxRecDepth 100000 in
theorem bc_X3_changeSetting : Cond.code yX3_changeSetting cX3_changeSetting 4 (some .int) ∈ BG := bg_t 653 (by with_unfolding_all rfl) rfl
theorem bi_X3_changeSetting : Cond.instanceMethod yX3_changeSetting ∈ BG := bg_t 651 (by decide +kernel) rfl
theorem bx_X3_changeSetting : Cond.selects yX3_changeSetting.cls yX3_changeSetting yX3_changeSetting ∈ BG := bg_t 652 (by decide +kernel) rfl
set_option maxRecDepth 100000 in
theorem bc_X3_clockAt : Cond.code yX3_clockAt cX3_clockAt 2 (some (.object "LeakingClocks$Clock")) ∈ BG := bg_t 267 (by with_unfolding_all rfl) rfl
theorem bi_X3_clockAt : Cond.instanceMethod yX3_clockAt ∈ BG := bg_t 265 (by decide +kernel) rfl
theorem bx_X3_clockAt : Cond.selects yX3_clockAt.cls yX3_clockAt yX3_clockAt ∈ BG := bg_t 266 (by decide +kernel) rfl
set_option maxRecDepth 100000 in
theorem bc_X3_clocksEmpty : Cond.code yX3_clocksEmpty cX3_clocksEmpty 3 (some .int) ∈ BG := bg_t 422 (by with_unfolding_all rfl) rfl
theorem bi_X3_clocksEmpty : Cond.instanceMethod yX3_clocksEmpty ∈ BG := bg_t 420 (by decide +kernel) rfl
theorem bx_X3_clocksEmpty : Cond.selects yX3_clocksEmpty.cls yX3_clocksEmpty yX3_clocksEmpty ∈ BG := bg_t 421 (by decide +kernel) rfl
set_option maxRecDepth 100000 in
theorem bc_X3_clocksOff : Cond.code yX3_clocksOff cX3_clocksOff 3 (some .int) ∈ BG := bg_t 414 (by with_unfolding_all rfl) rfl
theorem bi_X3_clocksOff : Cond.instanceMethod yX3_clocksOff ∈ BG := bg_t 412 (by decide +kernel) rfl
theorem bx_X3_clocksOff : Cond.selects yX3_clocksOff.cls yX3_clocksOff yX3_clocksOff ∈ BG := bg_t 413 (by decide +kernel) rfl
set_option maxRecDepth 100000 in
theorem bc_X3_copyFrom : Cond.code yX3_copyFrom cX3_copyFrom 3 none ∈ BG := bg_t 450 (by with_unfolding_all rfl) rfl
theorem bi_X3_copyFrom : Cond.instanceMethod yX3_copyFrom ∈ BG := bg_t 448 (by decide +kernel) rfl
theorem bx_X3_copyFrom : Cond.selects yX3_copyFrom.cls yX3_copyFrom yX3_copyFrom ∈ BG := bg_t 449 (by decide +kernel) rfl
set_option maxRecDepth 100000 in
theorem bc_X3_drip : Cond.code yX3_drip cX3_drip 4 (some .int) ∈ BG := bg_t 469 (by with_unfolding_all rfl) rfl
theorem bi_X3_drip : Cond.instanceMethod yX3_drip ∈ BG := bg_t 467 (by decide +kernel) rfl
theorem bx_X3_drip : Cond.selects yX3_drip.cls yX3_drip yX3_drip ∈ BG := bg_t 468 (by decide +kernel) rfl
set_option maxRecDepth 100000 in
theorem bc_X3_dripOf : Cond.code yX3_dripOf cX3_dripOf 4 (some .int) ∈ BG := bg_t 473 (by with_unfolding_all rfl) rfl
theorem bi_X3_dripOf : Cond.instanceMethod yX3_dripOf ∈ BG := bg_t 472 (by decide +kernel) rfl
theorem bx_X3_dripOf : Cond.selects yX3_dripOf.cls yX3_dripOf yX3_dripOf ∈ BG := bg_p (q := (yX3_dripOf, 13)) 5 (by decide +kernel)
set_option maxRecDepth 100000 in
theorem bc_X3_enterUpper : Cond.code yX3_enterUpper cX3_enterUpper 4 (some .int) ∈ BG := bg_t 485 (by with_unfolding_all rfl) rfl
theorem bi_X3_enterUpper : Cond.instanceMethod yX3_enterUpper ∈ BG := bg_t 484 (by decide +kernel) rfl
theorem bx_X3_enterUpper : Cond.selects yX3_enterUpper.cls yX3_enterUpper yX3_enterUpper ∈ BG := bg_p (q := (yX3_enterUpper, 13)) 7 (by decide +kernel)
set_option maxRecDepth 100000 in
theorem bc_X3_errorOf : Cond.code yX3_errorOf cX3_errorOf 2 (some .int) ∈ BG := bg_t 311 (by with_unfolding_all rfl) rfl
theorem bi_X3_errorOf : Cond.instanceMethod yX3_errorOf ∈ BG := bg_t 309 (by decide +kernel) rfl
theorem bx_X3_errorOf : Cond.selects yX3_errorOf.cls yX3_errorOf yX3_errorOf ∈ BG := bg_t 310 (by decide +kernel) rfl
set_option maxRecDepth 100000 in
theorem bc_X3_errorsTogether : Cond.code yX3_errorsTogether cX3_errorsTogether 3 (some .int) ∈ BG := bg_t 399 (by with_unfolding_all rfl) rfl
theorem bi_X3_errorsTogether : Cond.instanceMethod yX3_errorsTogether ∈ BG := bg_t 397 (by decide +kernel) rfl
theorem bx_X3_errorsTogether : Cond.selects yX3_errorsTogether.cls yX3_errorsTogether yX3_errorsTogether ∈ BG := bg_t 398 (by decide +kernel) rfl
set_option maxRecDepth 100000 in
theorem bc_X3_goOn : Cond.code yX3_goOn cX3_goOn 4 none ∈ BG := bg_t 481 (by with_unfolding_all rfl) rfl
theorem bi_X3_goOn : Cond.instanceMethod yX3_goOn ∈ BG := bg_t 480 (by decide +kernel) rfl
theorem bx_X3_goOn : Cond.selects yX3_goOn.cls yX3_goOn yX3_goOn ∈ BG := bg_p (q := (yX3_goOn, 13)) 6 (by decide +kernel)
set_option maxRecDepth 100000 in
theorem bc_X3_init : Cond.code yX3_init cX3_init 2 none ∈ BG := bg_t 20 (by with_unfolding_all rfl) rfl
theorem bi_X3_init : Cond.instanceMethod yX3_init ∈ BG := bg_t 19 (by decide +kernel) rfl
set_option maxRecDepth 100000 in
theorem bc_X3_isEmpty : Cond.code yX3_isEmpty cX3_isEmpty 3 (some .boolean) ∈ BG := bg_t 506 (by with_unfolding_all rfl) rfl
theorem bi_X3_isEmpty : Cond.instanceMethod yX3_isEmpty ∈ BG := bg_t 504 (by decide +kernel) rfl
theorem bx_X3_isEmpty : Cond.selects yX3_isEmpty.cls yX3_isEmpty yX3_isEmpty ∈ BG := bg_t 505 (by decide +kernel) rfl
set_option maxRecDepth 100000 in
theorem bc_X3_isNoon : Cond.code yX3_isNoon cX3_isNoon 1 (some .boolean) ∈ BG := bg_t 680 (by with_unfolding_all rfl) rfl
theorem bi_X3_isNoon : Cond.instanceMethod yX3_isNoon ∈ BG := bg_t 679 (by decide +kernel) rfl
theorem bx_X3_isNoon : Cond.selects yX3_isNoon.cls yX3_isNoon yX3_isNoon ∈ BG := bg_p (q := (yX3_isNoon, 13)) 12 (by decide +kernel)
set_option maxRecDepth 100000 in
theorem bc_X3_isOff : Cond.code yX3_isOff cX3_isOff 2 (some .boolean) ∈ BG := bg_t 418 (by with_unfolding_all rfl) rfl
theorem bi_X3_isOff : Cond.instanceMethod yX3_isOff ∈ BG := bg_t 417 (by decide +kernel) rfl
theorem bx_X3_isOff : Cond.selects yX3_isOff.cls yX3_isOff yX3_isOff ∈ BG := bg_p (q := (yX3_isOff, 13)) 2 (by decide +kernel)
set_option maxRecDepth 100000 in
theorem bc_X3_leadOn : Cond.code yX3_leadOn cX3_leadOn 5 (some .int) ∈ BG := bg_t 605 (by with_unfolding_all rfl) rfl
theorem bi_X3_leadOn : Cond.instanceMethod yX3_leadOn ∈ BG := bg_t 603 (by decide +kernel) rfl
theorem bx_X3_leadOn : Cond.selects yX3_leadOn.cls yX3_leadOn yX3_leadOn ∈ BG := bg_t 604 (by decide +kernel) rfl
set_option maxRecDepth 100000 in
theorem bc_X3_narrow : Cond.code yX3_narrow cX3_narrow 4 (some .int) ∈ BG := bg_t 616 (by with_unfolding_all rfl) rfl
theorem bi_X3_narrow : Cond.instanceMethod yX3_narrow ∈ BG := bg_t 614 (by decide +kernel) rfl
theorem bx_X3_narrow : Cond.selects yX3_narrow.cls yX3_narrow yX3_narrow ∈ BG := bg_t 615 (by decide +kernel) rfl
set_option maxRecDepth 100000 in
theorem bc_X3_noonComes : Cond.code yX3_noonComes cX3_noonComes 4 none ∈ BG := bg_t 685 (by with_unfolding_all rfl) rfl
theorem bi_X3_noonComes : Cond.instanceMethod yX3_noonComes ∈ BG := bg_t 684 (by decide +kernel) rfl
theorem bx_X3_noonComes : Cond.selects yX3_noonComes.cls yX3_noonComes yX3_noonComes ∈ BG := bg_p (q := (yX3_noonComes, 13)) 13 (by decide +kernel)
set_option maxRecDepth 100000 in
theorem bc_X3_noonTicks : Cond.code yX3_noonTicks cX3_noonTicks 1 (some .int) ∈ BG := bg_t 430 (by with_unfolding_all rfl) rfl
theorem bi_X3_noonTicks : Cond.instanceMethod yX3_noonTicks ∈ BG := bg_t 429 (by decide +kernel) rfl
theorem bx_X3_noonTicks : Cond.selects yX3_noonTicks.cls yX3_noonTicks yX3_noonTicks ∈ BG := bg_p (q := (yX3_noonTicks, 13)) 3 (by decide +kernel)
set_option maxRecDepth 100000 in
theorem bc_X3_passTicks : Cond.code yX3_passTicks cX3_passTicks 4 (some .int) ∈ BG := bg_t 674 (by with_unfolding_all rfl) rfl
theorem bi_X3_passTicks : Cond.instanceMethod yX3_passTicks ∈ BG := bg_t 672 (by decide +kernel) rfl
theorem bx_X3_passTicks : Cond.selects yX3_passTicks.cls yX3_passTicks yX3_passTicks ∈ BG := bg_t 673 (by decide +kernel) rfl
set_option maxRecDepth 100000 in
theorem bc_X3_pourJug : Cond.code yX3_pourJug cX3_pourJug 5 (some .int) ∈ BG := bg_t 590 (by with_unfolding_all rfl) rfl
theorem bi_X3_pourJug : Cond.instanceMethod yX3_pourJug ∈ BG := bg_t 588 (by decide +kernel) rfl
theorem bx_X3_pourJug : Cond.selects yX3_pourJug.cls yX3_pourJug yX3_pourJug ∈ BG := bg_t 589 (by decide +kernel) rfl
set_option maxRecDepth 100000 in
theorem bc_X3_rankOf : Cond.code yX3_rankOf cX3_rankOf 6 (some .int) ∈ BG := bg_t 355 (by with_unfolding_all rfl) rfl
theorem bi_X3_rankOf : Cond.instanceMethod yX3_rankOf ∈ BG := bg_t 353 (by decide +kernel) rfl
theorem bx_X3_rankOf : Cond.selects yX3_rankOf.cls yX3_rankOf yX3_rankOf ∈ BG := bg_t 354 (by decide +kernel) rfl
set_option maxRecDepth 100000 in
theorem bc_X3_roomAbove : Cond.code yX3_roomAbove cX3_roomAbove 2 (some .int) ∈ BG := bg_t 489 (by with_unfolding_all rfl) rfl
theorem bi_X3_roomAbove : Cond.instanceMethod yX3_roomAbove ∈ BG := bg_t 488 (by decide +kernel) rfl
theorem bx_X3_roomAbove : Cond.selects yX3_roomAbove.cls yX3_roomAbove yX3_roomAbove ∈ BG := bg_p (q := (yX3_roomAbove, 13)) 8 (by decide +kernel)
set_option maxRecDepth 100000 in
theorem bc_X3_sizeOfError : Cond.code yX3_sizeOfError cX3_sizeOfError 3 (some .int) ∈ BG := bg_t 359 (by with_unfolding_all rfl) rfl
theorem bi_X3_sizeOfError : Cond.instanceMethod yX3_sizeOfError ∈ BG := bg_t 358 (by decide +kernel) rfl
theorem bx_X3_sizeOfError : Cond.selects yX3_sizeOfError.cls yX3_sizeOfError yX3_sizeOfError ∈ BG := bg_p (q := (yX3_sizeOfError, 13)) 0 (by decide +kernel)
set_option maxRecDepth 100000 in
theorem bc_X3_strokeOf : Cond.code yX3_strokeOf cX3_strokeOf 3 (some .int) ∈ BG := bg_t 494 (by with_unfolding_all rfl) rfl
theorem bi_X3_strokeOf : Cond.instanceMethod yX3_strokeOf ∈ BG := bg_t 493 (by decide +kernel) rfl
theorem bx_X3_strokeOf : Cond.selects yX3_strokeOf.cls yX3_strokeOf yX3_strokeOf ∈ BG := bg_p (q := (yX3_strokeOf, 13)) 9 (by decide +kernel)
set_option maxRecDepth 100000 in
theorem bc_X3_together : Cond.code yX3_together cX3_together 4 (some .int) ∈ BG := bg_t 335 (by with_unfolding_all rfl) rfl
theorem bi_X3_together : Cond.instanceMethod yX3_together ∈ BG := bg_t 333 (by decide +kernel) rfl
theorem bx_X3_together : Cond.selects yX3_together.cls yX3_together yX3_together ∈ BG := bg_t 334 (by decide +kernel) rfl
set_option maxRecDepth 100000 in
theorem bc_X3_trueClock : Cond.code yX3_trueClock cX3_trueClock 4 (some .int) ∈ BG := bg_t 642 (by with_unfolding_all rfl) rfl
theorem bi_X3_trueClock : Cond.instanceMethod yX3_trueClock ∈ BG := bg_t 640 (by decide +kernel) rfl
theorem bx_X3_trueClock : Cond.selects yX3_trueClock.cls yX3_trueClock yX3_trueClock ∈ BG := bg_t 641 (by decide +kernel) rfl
set_option maxRecDepth 100000 in
theorem bc_X3_trueHour : Cond.code yX3_trueHour cX3_trueHour 1 (some .int) ∈ BG := bg_t 316 (by with_unfolding_all rfl) rfl
theorem bi_X3_trueHour : Cond.instanceMethod yX3_trueHour ∈ BG := bg_t 314 (by decide +kernel) rfl
theorem bx_X3_trueHour : Cond.selects yX3_trueHour.cls yX3_trueHour yX3_trueHour ∈ BG := bg_t 315 (by decide +kernel) rfl
set_option maxRecDepth 100000 in
theorem bc_X3_untilNoon : Cond.code yX3_untilNoon cX3_untilNoon 2 (some .int) ∈ BG := bg_t 426 (by with_unfolding_all rfl) rfl
theorem bi_X3_untilNoon : Cond.instanceMethod yX3_untilNoon ∈ BG := bg_t 424 (by decide +kernel) rfl
theorem bx_X3_untilNoon : Cond.selects yX3_untilNoon.cls yX3_untilNoon yX3_untilNoon ∈ BG := bg_t 425 (by decide +kernel) rfl
set_option maxRecDepth 100000 in
theorem bc_X3_whyNotPoured : Cond.code yX3_whyNotPoured cX3_whyNotPoured 3 (some .int) ∈ BG := bg_t 519 (by with_unfolding_all rfl) rfl
theorem bi_X3_whyNotPoured : Cond.instanceMethod yX3_whyNotPoured ∈ BG := bg_t 517 (by decide +kernel) rfl
theorem bx_X3_whyNotPoured : Cond.selects yX3_whyNotPoured.cls yX3_whyNotPoured yX3_whyNotPoured ∈ BG := bg_t 518 (by decide +kernel) rfl
set_option maxRecDepth 100000 in
theorem bc_X4_init : Cond.code yX4_init cX4_init 1 none ∈ BG := bg_t 200 (by with_unfolding_all rfl) rfl
theorem bi_X4_init : Cond.instanceMethod yX4_init ∈ BG := bg_t 199 (by decide +kernel) rfl
set_option maxRecDepth 100000 in
theorem bc_X5_bestWax : Cond.code yX5_bestWax cX5_bestWax 8 (some .int) ∈ BG := bg_t 525 (by with_unfolding_all rfl) rfl
theorem bi_X5_bestWax : Cond.instanceMethod yX5_bestWax ∈ BG := bg_t 523 (by decide +kernel) rfl
theorem bx_X5_bestWax : Cond.selects yX5_bestWax.cls yX5_bestWax yX5_bestWax ∈ BG := bg_t 524 (by decide +kernel) rfl
set_option maxRecDepth 100000 in
theorem bc_X5_bitsOf : Cond.code yX5_bitsOf cX5_bitsOf 3 (some .int) ∈ BG := bg_t 402 (by with_unfolding_all rfl) rfl
theorem bi_X5_bitsOf : Cond.static yX5_bitsOf ∈ BG := bg_t 401 (by decide +kernel) rfl
set_option maxRecDepth 100000 in
theorem bc_X5_changed : Cond.code yX5_changed cX5_changed 3 (some .int) ∈ BG := bg_t 572 (by with_unfolding_all rfl) rfl
theorem bi_X5_changed : Cond.instanceMethod yX5_changed ∈ BG := bg_t 571 (by decide +kernel) rfl
theorem bx_X5_changed : Cond.selects yX5_changed.cls yX5_changed yX5_changed ∈ BG := bg_p (q := (yX5_changed, 8)) 10 (by decide +kernel)
set_option maxRecDepth 100000 in
theorem bc_X5_clock : Cond.code yX5_clock cX5_clock 4 (some .int) ∈ BG := bg_t 558 (by with_unfolding_all rfl) rfl
theorem bi_X5_clock : Cond.instanceMethod yX5_clock ∈ BG := bg_t 556 (by decide +kernel) rfl
theorem bx_X5_clock : Cond.selects yX5_clock.cls yX5_clock yX5_clock ∈ BG := bg_t 557 (by decide +kernel) rfl
set_option maxRecDepth 100000 in
theorem bc_X5_clockOf : Cond.code yX5_clockOf cX5_clockOf 4 (some .int) ∈ BG := bg_t 263 (by with_unfolding_all rfl) rfl
theorem bi_X5_clockOf : Cond.instanceMethod yX5_clockOf ∈ BG := bg_t 261 (by decide +kernel) rfl
theorem bx_X5_clockOf : Cond.selects yX5_clockOf.cls yX5_clockOf yX5_clockOf ∈ BG := bg_t 262 (by decide +kernel) rfl
set_option maxRecDepth 100000 in
theorem bc_X5_copy : Cond.code yX5_copy cX5_copy 3 none ∈ BG := bg_t 465 (by with_unfolding_all rfl) rfl
theorem bi_X5_copy : Cond.static yX5_copy ∈ BG := bg_t 464 (by decide +kernel) rfl
set_option maxRecDepth 100000 in
theorem bc_X5_count : Cond.code yX5_count cX5_count 2 (some .int) ∈ BG := bg_t 410 (by with_unfolding_all rfl) rfl
theorem bi_X5_count : Cond.instanceMethod yX5_count ∈ BG := bg_t 408 (by decide +kernel) rfl
theorem bx_X5_count : Cond.selects yX5_count.cls yX5_count yX5_count ∈ BG := bg_t 409 (by decide +kernel) rfl
set_option maxRecDepth 100000 in
theorem bc_X5_dropOldestState : Cond.code yX5_dropOldestState cX5_dropOldestState 3 none ∈ BG := bg_t 579 (by with_unfolding_all rfl) rfl
theorem bi_X5_dropOldestState : Cond.instanceMethod yX5_dropOldestState ∈ BG := bg_t 578 (by decide +kernel) rfl
theorem bx_X5_dropOldestState : Cond.selects yX5_dropOldestState.cls yX5_dropOldestState yX5_dropOldestState ∈ BG := bg_p (q := (yX5_dropOldestState, 8)) 11 (by decide +kernel)
set_option maxRecDepth 100000 in
theorem bc_X5_element : Cond.code yX5_element cX5_element 2 (some .int) ∈ BG := bg_t 387 (by with_unfolding_all rfl) rfl
theorem bi_X5_element : Cond.static yX5_element ∈ BG := bg_t 386 (by decide +kernel) rfl
set_option maxRecDepth 100000 in
theorem bc_X5_emptyIn : Cond.code yX5_emptyIn cX5_emptyIn 3 (some .int) ∈ BG := bg_t 502 (by with_unfolding_all rfl) rfl
theorem bi_X5_emptyIn : Cond.instanceMethod yX5_emptyIn ∈ BG := bg_t 500 (by decide +kernel) rfl
theorem bx_X5_emptyIn : Cond.selects yX5_emptyIn.cls yX5_emptyIn yX5_emptyIn ∈ BG := bg_t 501 (by decide +kernel) rfl
set_option maxRecDepth 100000 in
theorem bc_X5_hour : Cond.code yX5_hour cX5_hour 4 (some .int) ∈ BG := bg_t 293 (by with_unfolding_all rfl) rfl
theorem bi_X5_hour : Cond.instanceMethod yX5_hour ∈ BG := bg_t 291 (by decide +kernel) rfl
theorem bx_X5_hour : Cond.selects yX5_hour.cls yX5_hour yX5_hour ∈ BG := bg_t 292 (by decide +kernel) rfl
set_option maxRecDepth 100000 in
theorem bc_X5_init : Cond.code yX5_init cX5_init 2 none ∈ BG := bg_t 12 (by with_unfolding_all rfl) rfl
theorem bi_X5_init : Cond.instanceMethod yX5_init ∈ BG := bg_t 11 (by decide +kernel) rfl
set_option maxRecDepth 100000 in
theorem bc_X5_isErrorCode : Cond.code yX5_isErrorCode cX5_isErrorCode 1 (some .boolean) ∈ BG := bg_t 575 (by with_unfolding_all rfl) rfl
theorem bi_X5_isErrorCode : Cond.static yX5_isErrorCode ∈ BG := bg_t 574 (by decide +kernel) rfl
set_option maxRecDepth 100000 in
theorem bc_X5_isJug : Cond.code yX5_isJug cX5_isJug 1 (some .boolean) ∈ BG := bg_t 513 (by with_unfolding_all rfl) rfl
theorem bi_X5_isJug : Cond.static yX5_isJug ∈ BG := bg_t 512 (by decide +kernel) rfl
set_option maxRecDepth 100000 in
theorem bc_X5_lead : Cond.code yX5_lead cX5_lead 3 (some .int) ∈ BG := bg_t 601 (by with_unfolding_all rfl) rfl
theorem bi_X5_lead : Cond.instanceMethod yX5_lead ∈ BG := bg_t 599 (by decide +kernel) rfl
theorem bx_X5_lead : Cond.selects yX5_lead.cls yX5_lead yX5_lead ∈ BG := bg_t 600 (by decide +kernel) rfl
set_option maxRecDepth 100000 in
theorem bc_X5_mean : Cond.code yX5_mean cX5_mean 1 (some .int) ∈ BG := bg_t 395 (by with_unfolding_all rfl) rfl
theorem bi_X5_mean : Cond.instanceMethod yX5_mean ∈ BG := bg_t 393 (by decide +kernel) rfl
theorem bx_X5_mean : Cond.selects yX5_mean.cls yX5_mean yX5_mean ∈ BG := bg_t 394 (by decide +kernel) rfl
set_option maxRecDepth 100000 in
theorem bc_X5_noon : Cond.code yX5_noon cX5_noon 3 (some .int) ∈ BG := bg_t 368 (by with_unfolding_all rfl) rfl
theorem bi_X5_noon : Cond.instanceMethod yX5_noon ∈ BG := bg_t 366 (by decide +kernel) rfl
theorem bx_X5_noon : Cond.selects yX5_noon.cls yX5_noon yX5_noon ∈ BG := bg_t 367 (by decide +kernel) rfl
set_option maxRecDepth 100000 in
theorem bc_X5_noonError : Cond.code yX5_noonError cX5_noonError 2 (some .int) ∈ BG := bg_t 442 (by with_unfolding_all rfl) rfl
theorem bi_X5_noonError : Cond.instanceMethod yX5_noonError ∈ BG := bg_t 440 (by decide +kernel) rfl
theorem bx_X5_noonError : Cond.selects yX5_noonError.cls yX5_noonError yX5_noonError ∈ BG := bg_t 441 (by decide +kernel) rfl
set_option maxRecDepth 100000 in
theorem bc_X5_noonErrorWith : Cond.code yX5_noonErrorWith cX5_noonErrorWith 6 (some .int) ∈ BG := bg_t 446 (by with_unfolding_all rfl) rfl
theorem bi_X5_noonErrorWith : Cond.instanceMethod yX5_noonErrorWith ∈ BG := bg_t 445 (by decide +kernel) rfl
theorem bx_X5_noonErrorWith : Cond.selects yX5_noonErrorWith.cls yX5_noonErrorWith yX5_noonErrorWith ∈ BG := bg_p (q := (yX5_noonErrorWith, 8)) 4 (by decide +kernel)
set_option maxRecDepth 100000 in
theorem bc_X5_pitch : Cond.code yX5_pitch cX5_pitch 3 (some .int) ∈ BG := bg_t 623 (by with_unfolding_all rfl) rfl
theorem bi_X5_pitch : Cond.instanceMethod yX5_pitch ∈ BG := bg_t 621 (by decide +kernel) rfl
theorem bx_X5_pitch : Cond.selects yX5_pitch.cls yX5_pitch yX5_pitch ∈ BG := bg_t 622 (by decide +kernel) rfl
set_option maxRecDepth 100000 in
theorem bc_X5_pour : Cond.code yX5_pour cX5_pour 3 (some .int) ∈ BG := bg_t 586 (by with_unfolding_all rfl) rfl
theorem bi_X5_pour : Cond.instanceMethod yX5_pour ∈ BG := bg_t 584 (by decide +kernel) rfl
theorem bx_X5_pour : Cond.selects yX5_pour.cls yX5_pour yX5_pour ∈ BG := bg_t 585 (by decide +kernel) rfl
set_option maxRecDepth 100000 in
theorem bc_X5_put : Cond.code yX5_put cX5_put 3 none ∈ BG := bg_t 692 (by with_unfolding_all rfl) rfl
theorem bi_X5_put : Cond.static yX5_put ∈ BG := bg_t 691 (by decide +kernel) rfl
set_option maxRecDepth 100000 in
theorem bc_X5_quotient : Cond.code yX5_quotient cX5_quotient 2 (some .int) ∈ BG := bg_t 304 (by with_unfolding_all rfl) rfl
theorem bi_X5_quotient : Cond.static yX5_quotient ∈ BG := bg_t 303 (by decide +kernel) rfl
set_option maxRecDepth 100000 in
theorem bc_X5_set : Cond.code yX5_set cX5_set 3 (some .int) ∈ BG := bg_t 649 (by with_unfolding_all rfl) rfl
theorem bi_X5_set : Cond.instanceMethod yX5_set ∈ BG := bg_t 647 (by decide +kernel) rfl
theorem bx_X5_set : Cond.selects yX5_set.cls yX5_set yX5_set ∈ BG := bg_t 648 (by decide +kernel) rfl
set_option maxRecDepth 100000 in
theorem bc_X5_ticks : Cond.code yX5_ticks cX5_ticks 2 (some .int) ∈ BG := bg_t 670 (by with_unfolding_all rfl) rfl
theorem bi_X5_ticks : Cond.instanceMethod yX5_ticks ∈ BG := bg_t 668 (by decide +kernel) rfl
theorem bx_X5_ticks : Cond.selects yX5_ticks.cls yX5_ticks yX5_ticks ∈ BG := bg_t 669 (by decide +kernel) rfl
set_option maxRecDepth 100000 in
theorem bc_X5_trueUp : Cond.code yX5_trueUp cX5_trueUp 2 (some .int) ∈ BG := bg_t 638 (by with_unfolding_all rfl) rfl
theorem bi_X5_trueUp : Cond.instanceMethod yX5_trueUp ∈ BG := bg_t 636 (by decide +kernel) rfl
theorem bx_X5_trueUp : Cond.selects yX5_trueUp.cls yX5_trueUp yX5_trueUp ∈ BG := bg_t 637 (by decide +kernel) rfl
set_option maxRecDepth 100000 in
theorem bc_X5_water : Cond.code yX5_water cX5_water 2 (some .int) ∈ BG := bg_t 331 (by with_unfolding_all rfl) rfl
theorem bi_X5_water : Cond.instanceMethod yX5_water ∈ BG := bg_t 329 (by decide +kernel) rfl
theorem bx_X5_water : Cond.selects yX5_water.cls yX5_water yX5_water ∈ BG := bg_t 330 (by decide +kernel) rfl
set_option maxRecDepth 100000 in
theorem bc_X5_wax : Cond.code yX5_wax cX5_wax 3 (some .int) ∈ BG := bg_t 612 (by with_unfolding_all rfl) rfl
theorem bi_X5_wax : Cond.instanceMethod yX5_wax ∈ BG := bg_t 610 (by decide +kernel) rfl
theorem bx_X5_wax : Cond.selects yX5_wax.cls yX5_wax yX5_wax ∈ BG := bg_t 611 (by decide +kernel) rfl
set_option maxRecDepth 100000 in
theorem bc_X5_why : Cond.code yX5_why cX5_why 4 (some .int) ∈ BG := bg_t 510 (by with_unfolding_all rfl) rfl
theorem bi_X5_why : Cond.instanceMethod yX5_why ∈ BG := bg_t 508 (by decide +kernel) rfl
theorem bx_X5_why : Cond.selects yX5_why.cls yX5_why yX5_why ∈ BG := bg_t 509 (by decide +kernel) rfl
set_option maxRecDepth 100000 in
theorem bc_X5_worst : Cond.code yX5_worst cX5_worst 3 (some .int) ∈ BG := bg_t 351 (by with_unfolding_all rfl) rfl
theorem bi_X5_worst : Cond.instanceMethod yX5_worst ∈ BG := bg_t 349 (by decide +kernel) rfl
theorem bx_X5_worst : Cond.selects yX5_worst.cls yX5_worst yX5_worst ∈ BG := bg_t 350 (by decide +kernel) rfl
theorem kw_X5_9 : KW RX5 9 yX3_init cX3_init 2 none 0 := ⟨bg_t 18 (by decide +kernel) rfl, bn_X3, bc_X3_init, by decide +kernel, by decide +kernel, by decide +kernel⟩
theorem kw_X5_40 : KW RX5 40 yX3_copyFrom cX3_copyFrom 3 none 1 := ⟨bg_t 447 (by decide +kernel) rfl, bn_X3, bc_X3_copyFrom, by decide +kernel, by decide +kernel, by decide +kernel⟩
theorem kw_X5_44 : KW RX5 44 yX3_addClock cX3_addClock 4 (some .int) 3 := ⟨bg_t 559 (by decide +kernel) rfl, bn_X3, bc_X3_addClock, by decide +kernel, by decide +kernel, by decide +kernel⟩
theorem kw_X5_48 : KW RX5 48 yX5_changed cX5_changed 3 (some .int) 1 := ⟨bg_t 569 (by decide +kernel) rfl, bn_X5, bc_X5_changed, by decide +kernel, by decide +kernel, by decide +kernel⟩
theorem kw_X5_52 : KW RX5 52 yX3_leadOn cX3_leadOn 5 (some .int) 2 := ⟨bg_t 602 (by decide +kernel) rfl, bn_X3, bc_X3_leadOn, by decide +kernel, by decide +kernel, by decide +kernel⟩
theorem kw_X5_56 : KW RX5 56 yX3_pourJug cX3_pourJug 5 (some .int) 2 := ⟨bg_t 587 (by decide +kernel) rfl, bn_X3, bc_X3_pourJug, by decide +kernel, by decide +kernel, by decide +kernel⟩
theorem kw_X5_59 : KW RX5 59 yX3_narrow cX3_narrow 4 (some .int) 2 := ⟨bg_t 613 (by decide +kernel) rfl, bn_X3, bc_X3_narrow, by decide +kernel, by decide +kernel, by decide +kernel⟩
theorem kw_X5_62 : KW RX5 62 yX3_changePitch cX3_changePitch 5 (some .int) 2 := ⟨bg_t 624 (by decide +kernel) rfl, bn_X3, bc_X3_changePitch, by decide +kernel, by decide +kernel, by decide +kernel⟩
theorem kw_X5_65 : KW RX5 65 yX3_trueClock cX3_trueClock 4 (some .int) 1 := ⟨bg_t 639 (by decide +kernel) rfl, bn_X3, bc_X3_trueClock, by decide +kernel, by decide +kernel, by decide +kernel⟩
theorem kw_X5_68 : KW RX5 68 yX3_passTicks cX3_passTicks 4 (some .int) 1 := ⟨bg_t 671 (by decide +kernel) rfl, bn_X3, bc_X3_passTicks, by decide +kernel, by decide +kernel, by decide +kernel⟩
theorem kw_X5_71 : KW RX5 71 yX3_changeSetting cX3_changeSetting 4 (some .int) 2 := ⟨bg_t 650 (by decide +kernel) rfl, bn_X3, bc_X3_changeSetting, by decide +kernel, by decide +kernel, by decide +kernel⟩
theorem kw_X5_84 : KW RX5 84 yX3_clockAt cX3_clockAt 2 (some (.object "LeakingClocks$Clock")) 1 := ⟨bg_t 264 (by decide +kernel) rfl, bn_X3, bc_X3_clockAt, by decide +kernel, by decide +kernel, by decide +kernel⟩
theorem kw_X5_88 : KW RX5 88 yX1_has cX1_has 2 (some .boolean) 1 := ⟨bg_t 269 (by decide +kernel) rfl, bn_X1, bc_X1_has, by decide +kernel, by decide +kernel, by decide +kernel⟩
theorem kw_X5_93 : KW RX5 93 yX1_figure cX1_figure 2 (some .int) 1 := ⟨bg_t 273 (by decide +kernel) rfl, bn_X1, bc_X1_figure, by decide +kernel, by decide +kernel, by decide +kernel⟩
theorem kw_X5_97 : KW RX5 97 yX1_hourTold cX1_hourTold 1 (some .int) 0 := ⟨bg_t 294 (by decide +kernel) rfl, bn_X1, bc_X1_hourTold, by decide +kernel, by decide +kernel, by decide +kernel⟩
theorem kw_X5_101 : KW RX5 101 yX3_errorOf cX3_errorOf 2 (some .int) 1 := ⟨bg_t 308 (by decide +kernel) rfl, bn_X3, bc_X3_errorOf, by decide +kernel, by decide +kernel, by decide +kernel⟩
theorem kw_X5_105 : KW RX5 105 yX3_trueHour cX3_trueHour 1 (some .int) 0 := ⟨bg_t 318 (by decide +kernel) rfl, bn_X3, bc_X3_trueHour, by decide +kernel, by decide +kernel, by decide +kernel⟩
theorem kw_X5_111 : KW RX5 111 yX3_together cX3_together 4 (some .int) 1 := ⟨bg_t 332 (by decide +kernel) rfl, bn_X3, bc_X3_together, by decide +kernel, by decide +kernel, by decide +kernel⟩
theorem kw_X5_120 : KW RX5 120 yX3_allWater cX3_allWater 1 (some .int) 0 := ⟨bg_t 337 (by decide +kernel) rfl, bn_X3, bc_X3_allWater, by decide +kernel, by decide +kernel, by decide +kernel⟩
theorem kw_X5_139 : KW RX5 139 yX0_has cX0_has 3 (some .boolean) 2 := ⟨bg_t 369 (by decide +kernel) rfl, bn_X0, bc_X0_has, by decide +kernel, by decide +kernel, by decide +kernel⟩
theorem kw_X5_144 : KW RX5 144 yX0_errorAt cX0_errorAt 3 (some .int) 2 := ⟨bg_t 388 (by decide +kernel) rfl, bn_X0, bc_X0_errorAt, by decide +kernel, by decide +kernel, by decide +kernel⟩
theorem kw_X5_147 : KW RX5 147 yX5_isJug cX5_isJug 1 (some .boolean) 1 := ⟨bg_t 511 (by decide +kernel) rfl, bn_X5, bc_X5_isJug, by decide +kernel, by decide +kernel, by decide +kernel⟩
theorem kw_X5_150 : KW RX5 150 yX3_whyNotPoured cX3_whyNotPoured 3 (some .int) 2 := ⟨bg_t 516 (by decide +kernel) rfl, bn_X3, bc_X3_whyNotPoured, by decide +kernel, by decide +kernel, by decide +kernel⟩
theorem kw_X5_154 : KW RX5 154 yX3_isEmpty cX3_isEmpty 3 (some .boolean) 1 := ⟨bg_t 503 (by decide +kernel) rfl, bn_X3, bc_X3_isEmpty, by decide +kernel, by decide +kernel, by decide +kernel⟩
theorem kw_X5_157 : KW RX5 157 yX3_drip cX3_drip 4 (some .int) 1 := ⟨bg_t 466 (by decide +kernel) rfl, bn_X3, bc_X3_drip, by decide +kernel, by decide +kernel, by decide +kernel⟩
theorem kw_X5_160 : KW RX5 160 yX5_noonErrorWith cX5_noonErrorWith 6 (some .int) 2 := ⟨bg_t 443 (by decide +kernel) rfl, bn_X5, bc_X5_noonErrorWith, by decide +kernel, by decide +kernel, by decide +kernel⟩
theorem kw_X5_166 : KW RX5 166 yJ9_abs_0f7a4 cJ9_abs_0f7a4 1 (some .int) 1 := ⟨bg_t 526 (by decide +kernel) rfl, bn_J9, bc_J9_abs_0f7a4, by decide +kernel, by decide +kernel, by decide +kernel⟩
theorem kw_X5_171 : KW RX5 171 yX3_rankOf cX3_rankOf 6 (some .int) 1 := ⟨bg_t 352 (by decide +kernel) rfl, bn_X3, bc_X3_rankOf, by decide +kernel, by decide +kernel, by decide +kernel⟩
theorem kw_X5_174 : KW RX5 174 yX3_errorsTogether cX3_errorsTogether 3 (some .int) 0 := ⟨bg_t 396 (by decide +kernel) rfl, bn_X3, bc_X3_errorsTogether, by decide +kernel, by decide +kernel, by decide +kernel⟩
theorem kw_X5_177 : KW RX5 177 yX5_bitsOf cX5_bitsOf 3 (some .int) 1 := ⟨bg_t 400 (by decide +kernel) rfl, bn_X5, bc_X5_bitsOf, by decide +kernel, by decide +kernel, by decide +kernel⟩
theorem kw_X5_184 : KW RX5 184 yX3_clocksOff cX3_clocksOff 3 (some .int) 0 := ⟨bg_t 411 (by decide +kernel) rfl, bn_X3, bc_X3_clocksOff, by decide +kernel, by decide +kernel, by decide +kernel⟩
theorem kw_X5_187 : KW RX5 187 yX3_clocksEmpty cX3_clocksEmpty 3 (some .int) 0 := ⟨bg_t 419 (by decide +kernel) rfl, bn_X3, bc_X3_clocksEmpty, by decide +kernel, by decide +kernel, by decide +kernel⟩
theorem kw_X5_196 : KW RX5 196 yX3_untilNoon cX3_untilNoon 2 (some .int) 0 := ⟨bg_t 423 (by decide +kernel) rfl, bn_X3, bc_X3_untilNoon, by decide +kernel, by decide +kernel, by decide +kernel⟩
theorem kw_X5_202 : KW RX5 202 yX0_size cX0_size 1 (some .int) 0 := ⟨bg_t 431 (by decide +kernel) rfl, bn_X0, bc_X0_size, by decide +kernel, by decide +kernel, by decide +kernel⟩
theorem kw_X5_215 : KW RX5 215 yX2_valueOf cX2_valueOf 2 (some .int) 1 := ⟨bg_t 432 (by decide +kernel) rfl, bn_X2, bc_X2_valueOf, by decide +kernel, by decide +kernel, by decide +kernel⟩
theorem kw_X5_236 : KW RX5 236 yX5_isErrorCode cX5_isErrorCode 1 (some .boolean) 1 := ⟨bg_t 573 (by decide +kernel) rfl, bn_X5, bc_X5_isErrorCode, by decide +kernel, by decide +kernel, by decide +kernel⟩
theorem kw_X5_239 : KW RX5 239 yX5_dropOldestState cX5_dropOldestState 3 none 0 := ⟨bg_t 576 (by decide +kernel) rfl, bn_X5, bc_X5_dropOldestState, by decide +kernel, by decide +kernel, by decide +kernel⟩
theorem kw_X5_264 : KW RX5 264 yJ9_floorDiv_7cf53 cJ9_floorDiv_7cf53 3 (some .int) 2 := ⟨bg_t 305 (by decide +kernel) rfl, bn_J9, bc_J9_floorDiv_7cf53, by decide +kernel, by decide +kernel, by decide +kernel⟩
theorem kw_X0_29 : KW RX0 29 yX0_place cX0_place 2 (some .int) 1 := ⟨bg_t 378 (by decide +kernel) rfl, bn_X0, bc_X0_place, by decide +kernel, by decide +kernel, by decide +kernel⟩
theorem kw_X0_37 : KW RX0 37 yJ9_min_7cf53 cJ9_min_7cf53 2 (some .int) 2 := ⟨bg_t 377 (by decide +kernel) rfl, bn_J9, bc_J9_min_7cf53, by decide +kernel, by decide +kernel, by decide +kernel⟩
theorem kw_X0_43 : KW RX0 43 yX0_size cX0_size 1 (some .int) 0 := ⟨bg_t 373 (by decide +kernel) rfl, bn_X0, bc_X0_size, by decide +kernel, by decide +kernel, by decide +kernel⟩
theorem kw_X0_51 : KW RX0 51 yJ9_floorMod_7cf53 cJ9_floorMod_7cf53 3 (some .int) 2 := ⟨bg_t 382 (by decide +kernel) rfl, bn_J9, bc_J9_floorMod_7cf53, by decide +kernel, by decide +kernel, by decide +kernel⟩
theorem kw_X1_60 : KW RX1 60 yX1_nextDrip cX1_nextDrip 1 (some .int) 0 := ⟨bg_t 277 (by decide +kernel) rfl, bn_X1, bc_X1_nextDrip, by decide +kernel, by decide +kernel, by decide +kernel⟩
theorem kw_X1_64 : KW RX1 64 yX1_dropsCounted cX1_dropsCounted 1 (some .int) 0 := ⟨bg_t 298 (by decide +kernel) rfl, bn_X1, bc_X1_dropsCounted, by decide +kernel, by decide +kernel, by decide +kernel⟩
theorem kw_X1_71 : KW RX1 71 yJ9_min_7cf53 cJ9_min_7cf53 2 (some .int) 2 := ⟨bg_t 281 (by decide +kernel) rfl, bn_J9, bc_J9_min_7cf53, by decide +kernel, by decide +kernel, by decide +kernel⟩
theorem kw_X3_35 : KW RX3 35 yX1_init cX1_init 2 none 1 := ⟨bg_t 79 (by decide +kernel) rfl, bn_X1, bc_X1_init, by decide +kernel, by decide +kernel, by decide +kernel⟩
theorem kw_X3_38 : KW RX3 38 yX1_copyFrom cX1_copyFrom 2 none 1 := ⟨bg_t 451 (by decide +kernel) rfl, bn_X1, bc_X1_copyFrom, by decide +kernel, by decide +kernel, by decide +kernel⟩
theorem kw_X3_42 : KW RX3 42 yX2_copyFrom cX2_copyFrom 2 none 1 := ⟨bg_t 455 (by decide +kernel) rfl, bn_X2, bc_X2_copyFrom, by decide +kernel, by decide +kernel, by decide +kernel⟩
theorem kw_X3_45 : KW RX3 45 yX0_copyFrom cX0_copyFrom 2 none 1 := ⟨bg_t 459 (by decide +kernel) rfl, bn_X0, bc_X0_copyFrom, by decide +kernel, by decide +kernel, by decide +kernel⟩
theorem kw_X3_77 : KW RX3 77 yX3_trueHour cX3_trueHour 1 (some .int) 0 := ⟨bg_t 313 (by decide +kernel) rfl, bn_X3, bc_X3_trueHour, by decide +kernel, by decide +kernel, by decide +kernel⟩
theorem kw_X3_81 : KW RX3 81 yX1_begin cX1_begin 5 none 4 := ⟨bg_t 565 (by decide +kernel) rfl, bn_X1, bc_X1_begin, by decide +kernel, by decide +kernel, by decide +kernel⟩
theorem kw_X3_85 : KW RX3 85 yX3_clockAt cX3_clockAt 2 (some (.object "LeakingClocks$Clock")) 1 := ⟨bg_t 360 (by decide +kernel) rfl, bn_X3, bc_X3_clockAt, by decide +kernel, by decide +kernel, by decide +kernel⟩
theorem kw_X3_100 : KW RX3 100 yX3_whyNotPoured cX3_whyNotPoured 3 (some .int) 2 := ⟨bg_t 592 (by decide +kernel) rfl, bn_X3, bc_X3_whyNotPoured, by decide +kernel, by decide +kernel, by decide +kernel⟩
theorem kw_X3_115 : KW RX3 115 yX3_enterUpper cX3_enterUpper 4 (some .int) 2 := ⟨bg_t 482 (by decide +kernel) rfl, bn_X3, bc_X3_enterUpper, by decide +kernel, by decide +kernel, by decide +kernel⟩
theorem kw_X3_124 : KW RX3 124 yX1_trueTo cX1_trueTo 2 none 1 := ⟨bg_t 628 (by decide +kernel) rfl, bn_X1, bc_X1_trueTo, by decide +kernel, by decide +kernel, by decide +kernel⟩
theorem kw_X3_127 : KW RX3 127 yX3_errorOf cX3_errorOf 2 (some .int) 1 := ⟨bg_t 361 (by decide +kernel) rfl, bn_X3, bc_X3_errorOf, by decide +kernel, by decide +kernel, by decide +kernel⟩
theorem kw_X3_132 : KW RX3 132 yX3_drip cX3_drip 4 (some .int) 1 := ⟨bg_t 676 (by decide +kernel) rfl, bn_X3, bc_X3_drip, by decide +kernel, by decide +kernel, by decide +kernel⟩
theorem kw_X3_136 : KW RX3 136 yX3_isNoon cX3_isNoon 1 (some .boolean) 0 := ⟨bg_t 677 (by decide +kernel) rfl, bn_X3, bc_X3_isNoon, by decide +kernel, by decide +kernel, by decide +kernel⟩
theorem kw_X3_140 : KW RX3 140 yX3_noonComes cX3_noonComes 4 none 0 := ⟨bg_t 682 (by decide +kernel) rfl, bn_X3, bc_X3_noonComes, by decide +kernel, by decide +kernel, by decide +kernel⟩
theorem kw_X3_143 : KW RX3 143 yX2_isInRange cX2_isInRange 2 (some .boolean) 2 := ⟨bg_t 654 (by decide +kernel) rfl, bn_X2, bc_X2_isInRange, by decide +kernel, by decide +kernel, by decide +kernel⟩
theorem kw_X3_147 : KW RX3 147 yX2_valueOf cX2_valueOf 2 (some .int) 1 := ⟨bg_t 662 (by decide +kernel) rfl, bn_X2, bc_X2_valueOf, by decide +kernel, by decide +kernel, by decide +kernel⟩
theorem kw_X3_150 : KW RX3 150 yX2_change cX2_change 3 none 2 := ⟨bg_t 663 (by decide +kernel) rfl, bn_X2, bc_X2_change, by decide +kernel, by decide +kernel, by decide +kernel⟩
theorem kw_X3_154 : KW RX3 154 yX3_dripOf cX3_dripOf 4 (some .int) 1 := ⟨bg_t 470 (by decide +kernel) rfl, bn_X3, bc_X3_dripOf, by decide +kernel, by decide +kernel, by decide +kernel⟩
theorem kw_X3_157 : KW RX3 157 yX1_letThrough cX1_letThrough 2 (some .int) 0 := ⟨bg_t 474 (by decide +kernel) rfl, bn_X1, bc_X1_letThrough, by decide +kernel, by decide +kernel, by decide +kernel⟩
theorem kw_X3_160 : KW RX3 160 yX3_goOn cX3_goOn 4 none 2 := ⟨bg_t 478 (by decide +kernel) rfl, bn_X3, bc_X3_goOn, by decide +kernel, by decide +kernel, by decide +kernel⟩
theorem kw_X3_167 : KW RX3 167 yX3_roomAbove cX3_roomAbove 2 (some .int) 1 := ⟨bg_t 486 (by decide +kernel) rfl, bn_X3, bc_X3_roomAbove, by decide +kernel, by decide +kernel, by decide +kernel⟩
theorem kw_X3_170 : KW RX3 170 yJ9_min_7cf53 cJ9_min_7cf53 2 (some .int) 2 := ⟨bg_t 490 (by decide +kernel) rfl, bn_J9, bc_J9_min_7cf53, by decide +kernel, by decide +kernel, by decide +kernel⟩
theorem kw_X3_176 : KW RX3 176 yX3_strokeOf cX3_strokeOf 3 (some .int) 1 := ⟨bg_t 491 (by decide +kernel) rfl, bn_X3, bc_X3_strokeOf, by decide +kernel, by decide +kernel, by decide +kernel⟩
theorem kw_X3_182 : KW RX3 182 yX1_wearHole cX1_wearHole 4 none 1 := ⟨bg_t 495 (by decide +kernel) rfl, bn_X1, bc_X1_wearHole, by decide +kernel, by decide +kernel, by decide +kernel⟩
theorem kw_X3_203 : KW RX3 203 yX1_figure cX1_figure 2 (some .int) 1 := ⟨bg_t 336 (by decide +kernel) rfl, bn_X1, bc_X1_figure, by decide +kernel, by decide +kernel, by decide +kernel⟩
theorem kw_X3_206 : KW RX3 206 yX3_together cX3_together 4 (some .int) 1 := ⟨bg_t 341 (by decide +kernel) rfl, bn_X3, bc_X3_together, by decide +kernel, by decide +kernel, by decide +kernel⟩
theorem kw_X3_215 : KW RX3 215 yX1_hourTold cX1_hourTold 1 (some .int) 0 := ⟨bg_t 312 (by decide +kernel) rfl, bn_X1, bc_X1_hourTold, by decide +kernel, by decide +kernel, by decide +kernel⟩
theorem kw_X3_218 : KW RX3 218 yX3_noonTicks cX3_noonTicks 1 (some .int) 0 := ⟨bg_t 427 (by decide +kernel) rfl, bn_X3, bc_X3_noonTicks, by decide +kernel, by decide +kernel, by decide +kernel⟩
theorem kw_X3_221 : KW RX3 221 yX3_untilNoon cX3_untilNoon 2 (some .int) 0 := ⟨bg_t 681 (by decide +kernel) rfl, bn_X3, bc_X3_untilNoon, by decide +kernel, by decide +kernel, by decide +kernel⟩
theorem kw_X3_224 : KW RX3 224 yJ9_abs_0f7a4 cJ9_abs_0f7a4 1 (some .int) 1 := ⟨bg_t 362 (by decide +kernel) rfl, bn_J9, bc_J9_abs_0f7a4, by decide +kernel, by decide +kernel, by decide +kernel⟩
theorem kw_X3_230 : KW RX3 230 yX0_open cX0_open 2 none 1 := ⟨bg_t 686 (by decide +kernel) rfl, bn_X0, bc_X0_open, by decide +kernel, by decide +kernel, by decide +kernel⟩
theorem kw_X3_233 : KW RX3 233 yX0_write cX0_write 3 none 2 := ⟨bg_t 693 (by decide +kernel) rfl, bn_X0, bc_X0_write, by decide +kernel, by decide +kernel, by decide +kernel⟩
theorem kw_X3_236 : KW RX3 236 yX3_isOff cX3_isOff 2 (some .boolean) 1 := ⟨bg_t 415 (by decide +kernel) rfl, bn_X3, bc_X3_isOff, by decide +kernel, by decide +kernel, by decide +kernel⟩
theorem kw_X3_245 : KW RX3 245 yX3_sizeOfError cX3_sizeOfError 3 (some .int) 1 := ⟨bg_t 356 (by decide +kernel) rfl, bn_X3, bc_X3_sizeOfError, by decide +kernel, by decide +kernel, by decide +kernel⟩
theorem kw_L_9 : KW RL 9 yL_counted cL_counted 3 (some .int) 3 := ⟨bg_t 322 (by decide +kernel) rfl, bn_L, bc_L_counted, by decide +kernel, by decide +kernel, by decide +kernel⟩
theorem kw_L_15 : KW RL 15 yL_error cL_error 7 (some .int) 4 := ⟨bg_t 319 (by decide +kernel) rfl, bn_L, bc_L_error, by decide +kernel, by decide +kernel, by decide +kernel⟩
theorem kw_L_19 : KW RL 19 yL_comes cL_comes 6 (some .int) 4 := ⟨bg_t 536 (by decide +kernel) rfl, bn_L, bc_L_comes, by decide +kernel, by decide +kernel, by decide +kernel⟩
theorem kw_L_23 : KW RL 23 yL_drip cL_drip 3 (some .int) 2 := ⟨bg_t 286 (by decide +kernel) rfl, bn_L, bc_L_drip, by decide +kernel, by decide +kernel, by decide +kernel⟩
theorem kw_L_27 : KW RL 27 yL_on cL_on 5 none 4 := ⟨bg_t 533 (by decide +kernel) rfl, bn_L, bc_L_on, by decide +kernel, by decide +kernel, by decide +kernel⟩
theorem kw_L_31 : KW RL 31 yL_noon cL_noon 5 none 4 := ⟨bg_t 539 (by decide +kernel) rfl, bn_L, bc_L_noon, by decide +kernel, by decide +kernel, by decide +kernel⟩
theorem kw_L_35 : KW RL 35 yL_off cL_off 5 (some .int) 4 := ⟨bg_t 345 (by decide +kernel) rfl, bn_L, bc_L_off, by decide +kernel, by decide +kernel, by decide +kernel⟩
theorem kw_L_38 : KW RL 38 yL_trues cL_trues 4 none 4 := ⟨bg_t 542 (by decide +kernel) rfl, bn_L, bc_L_trues, by decide +kernel, by decide +kernel, by decide +kernel⟩
theorem kw_L_42 : KW RL 42 yX5_clockOf cX5_clockOf 4 (some .int) 2 := ⟨bg_t 260 (by decide +kernel) rfl, bn_X5, bc_X5_clockOf, by decide +kernel, by decide +kernel, by decide +kernel⟩
theorem kw_L_50 : KW RL 50 yX5_hour cX5_hour 4 (some .int) 2 := ⟨bg_t 290 (by decide +kernel) rfl, bn_X5, bc_X5_hour, by decide +kernel, by decide +kernel, by decide +kernel⟩
theorem kw_L_53 : KW RL 53 yX5_water cX5_water 2 (some .int) 1 := ⟨bg_t 328 (by decide +kernel) rfl, bn_X5, bc_X5_water, by decide +kernel, by decide +kernel, by decide +kernel⟩
theorem kw_L_57 : KW RL 57 yX5_worst cX5_worst 3 (some .int) 1 := ⟨bg_t 348 (by decide +kernel) rfl, bn_X5, bc_X5_worst, by decide +kernel, by decide +kernel, by decide +kernel⟩
theorem kw_L_60 : KW RL 60 yX5_noon cX5_noon 3 (some .int) 2 := ⟨bg_t 365 (by decide +kernel) rfl, bn_X5, bc_X5_noon, by decide +kernel, by decide +kernel, by decide +kernel⟩
theorem kw_L_62 : KW RL 62 yX5_mean cX5_mean 1 (some .int) 0 := ⟨bg_t 392 (by decide +kernel) rfl, bn_X5, bc_X5_mean, by decide +kernel, by decide +kernel, by decide +kernel⟩
theorem kw_L_66 : KW RL 66 yL_isMean cL_isMean 5 (some .boolean) 3 := ⟨bg_t 404 (by decide +kernel) rfl, bn_L, bc_L_isMean, by decide +kernel, by decide +kernel, by decide +kernel⟩
theorem kw_L_70 : KW RL 70 yX5_count cX5_count 2 (some .int) 1 := ⟨bg_t 407 (by decide +kernel) rfl, bn_X5, bc_X5_count, by decide +kernel, by decide +kernel, by decide +kernel⟩
theorem kw_L_73 : KW RL 73 yX5_noonError cX5_noonError 2 (some .int) 1 := ⟨bg_t 439 (by decide +kernel) rfl, bn_X5, bc_X5_noonError, by decide +kernel, by decide +kernel, by decide +kernel⟩
theorem kw_L_76 : KW RL 76 yX5_emptyIn cX5_emptyIn 3 (some .int) 1 := ⟨bg_t 499 (by decide +kernel) rfl, bn_X5, bc_X5_emptyIn, by decide +kernel, by decide +kernel, by decide +kernel⟩
theorem kw_L_79 : KW RL 79 yX5_why cX5_why 4 (some .int) 2 := ⟨bg_t 507 (by decide +kernel) rfl, bn_X5, bc_X5_why, by decide +kernel, by decide +kernel, by decide +kernel⟩
theorem kw_L_82 : KW RL 82 yX5_bestWax cX5_bestWax 8 (some .int) 2 := ⟨bg_t 522 (by decide +kernel) rfl, bn_X5, bc_X5_bestWax, by decide +kernel, by decide +kernel, by decide +kernel⟩
theorem kw_L_85 : KW RL 85 yL_low cL_low 2 (some .int) 2 := ⟨bg_t 253 (by decide +kernel) rfl, bn_L, bc_L_low, by decide +kernel, by decide +kernel, by decide +kernel⟩
theorem kw_L_88 : KW RL 88 yL_copy cL_copy 3 none 2 := ⟨bg_t 527 (by decide +kernel) rfl, bn_L, bc_L_copy, by decide +kernel, by decide +kernel, by decide +kernel⟩
theorem kw_L_92 : KW RL 92 yL_ticks cL_ticks 12 (some .int) 6 := ⟨bg_t 530 (by decide +kernel) rfl, bn_L, bc_L_ticks, by decide +kernel, by decide +kernel, by decide +kernel⟩
theorem kw_L_97 : KW RL 97 yX5_clock cX5_clock 4 (some .int) 3 := ⟨bg_t 555 (by decide +kernel) rfl, bn_X5, bc_X5_clock, by decide +kernel, by decide +kernel, by decide +kernel⟩
theorem kw_L_102 : KW RL 102 yX5_lead cX5_lead 3 (some .int) 2 := ⟨bg_t 598 (by decide +kernel) rfl, bn_X5, bc_X5_lead, by decide +kernel, by decide +kernel, by decide +kernel⟩
theorem kw_L_105 : KW RL 105 yX5_pour cX5_pour 3 (some .int) 2 := ⟨bg_t 583 (by decide +kernel) rfl, bn_X5, bc_X5_pour, by decide +kernel, by decide +kernel, by decide +kernel⟩
theorem kw_L_108 : KW RL 108 yX5_wax cX5_wax 3 (some .int) 2 := ⟨bg_t 609 (by decide +kernel) rfl, bn_X5, bc_X5_wax, by decide +kernel, by decide +kernel, by decide +kernel⟩
theorem kw_L_111 : KW RL 111 yX5_pitch cX5_pitch 3 (some .int) 2 := ⟨bg_t 620 (by decide +kernel) rfl, bn_X5, bc_X5_pitch, by decide +kernel, by decide +kernel, by decide +kernel⟩
theorem kw_L_114 : KW RL 114 yX5_trueUp cX5_trueUp 2 (some .int) 1 := ⟨bg_t 635 (by decide +kernel) rfl, bn_X5, bc_X5_trueUp, by decide +kernel, by decide +kernel, by decide +kernel⟩
theorem kw_L_117 : KW RL 117 yX5_set cX5_set 3 (some .int) 2 := ⟨bg_t 646 (by decide +kernel) rfl, bn_X5, bc_X5_set, by decide +kernel, by decide +kernel, by decide +kernel⟩
theorem kw_L_120 : KW RL 120 yL_adds cL_adds 11 (some .boolean) 6 := ⟨bg_t 551 (by decide +kernel) rfl, bn_L, bc_L_adds, by decide +kernel, by decide +kernel, by decide +kernel⟩
theorem kw_L_124 : KW RL 124 yL_pours cL_pours 8 (some .boolean) 5 := ⟨bg_t 580 (by decide +kernel) rfl, bn_L, bc_L_pours, by decide +kernel, by decide +kernel, by decide +kernel⟩
theorem kw_L_128 : KW RL 128 yL_leads cL_leads 7 (some .boolean) 4 := ⟨bg_t 595 (by decide +kernel) rfl, bn_L, bc_L_leads, by decide +kernel, by decide +kernel, by decide +kernel⟩
theorem kw_L_132 : KW RL 132 yL_waxes cL_waxes 7 (some .boolean) 4 := ⟨bg_t 606 (by decide +kernel) rfl, bn_L, bc_L_waxes, by decide +kernel, by decide +kernel, by decide +kernel⟩
theorem kw_L_135 : KW RL 135 yL_pitches cL_pitches 8 (some .boolean) 5 := ⟨bg_t 617 (by decide +kernel) rfl, bn_L, bc_L_pitches, by decide +kernel, by decide +kernel, by decide +kernel⟩
theorem kw_L_138 : KW RL 138 yL_truesUp cL_truesUp 6 (some .boolean) 5 := ⟨bg_t 632 (by decide +kernel) rfl, bn_L, bc_L_truesUp, by decide +kernel, by decide +kernel, by decide +kernel⟩
theorem kw_L_141 : KW RL 141 yL_sets cL_sets 8 (some .boolean) 3 := ⟨bg_t 643 (by decide +kernel) rfl, bn_L, bc_L_sets, by decide +kernel, by decide +kernel, by decide +kernel⟩
theorem kw_L_145 : KW RL 145 yX5_ticks cX5_ticks 2 (some .int) 1 := ⟨bg_t 667 (by decide +kernel) rfl, bn_X5, bc_X5_ticks, by decide +kernel, by decide +kernel, by decide +kernel⟩
theorem kw_L_147 : KW RL 147 yX5_init cX5_init 2 none 0 := ⟨bg_t 10 (by decide +kernel) rfl, bn_X5, bc_X5_init, by decide +kernel, by decide +kernel, by decide +kernel⟩
theorem kw_L_148 : KW RL 148 yL_areClocks cL_areClocks 7 (some .boolean) 4 := ⟨bg_t 257 (by decide +kernel) rfl, bn_L, bc_L_areClocks, by decide +kernel, by decide +kernel, by decide +kernel⟩
theorem kw_L_152 : KW RL 152 yL_isWater cL_isWater 6 (some .boolean) 3 := ⟨bg_t 325 (by decide +kernel) rfl, bn_L, bc_L_isWater, by decide +kernel, by decide +kernel, by decide +kernel⟩
theorem kw_L_156 : KW RL 156 yL_areNumbers cL_areNumbers 12 (some .boolean) 5 := ⟨bg_t 342 (by decide +kernel) rfl, bn_L, bc_L_areNumbers, by decide +kernel, by decide +kernel, by decide +kernel⟩
theorem kw_L_160 : KW RL 160 yL_would cL_would 17 (some .boolean) 6 := ⟨bg_t 436 (by decide +kernel) rfl, bn_L, bc_L_would, by decide +kernel, by decide +kernel, by decide +kernel⟩
theorem kw_L_164 : KW RL 164 yL_cell cL_cell 2 (some .int) 2 := ⟨bg_t 249 (by decide +kernel) rfl, bn_L, bc_L_cell, by decide +kernel, by decide +kernel, by decide +kernel⟩
theorem kw_L_167 : KW RL 167 yL_acts cL_acts 9 (some .boolean) 8 := ⟨bg_t 548 (by decide +kernel) rfl, bn_L, bc_L_acts, by decide +kernel, by decide +kernel, by decide +kernel⟩
theorem kw_L_171 : KW RL 171 yL_isEmptyIn cL_isEmptyIn 10 (some .boolean) 5 := ⟨bg_t 545 (by decide +kernel) rfl, bn_L, bc_L_isEmptyIn, by decide +kernel, by decide +kernel, by decide +kernel⟩
theorem kw_X5_35 : KN RX5 35 yX4_init RX5 cX4_init 1 none 0 := ⟨nst_t 198 (by decide +kernel) rfl, bn_X4, bc_X4_init, by decide +kernel, by decide +kernel, by decide +kernel⟩
theorem kw_X0_18 : KN RX0 18 yX5_copy RX5 cX5_copy 3 none 2 := ⟨nst_t 463 (by decide +kernel) rfl, bn_X5, bc_X5_copy, by decide +kernel, by decide +kernel, by decide +kernel⟩
theorem kw_X0_33 : KN RX0 33 yX5_put RX5 cX5_put 3 none 3 := ⟨nst_t 690 (by decide +kernel) rfl, bn_X5, bc_X5_put, by decide +kernel, by decide +kernel, by decide +kernel⟩
theorem kw_X0_47 : KN RX0 47 yX5_element RX5 cX5_element 2 (some .int) 2 := ⟨nst_t 385 (by decide +kernel) rfl, bn_X5, bc_X5_element, by decide +kernel, by decide +kernel, by decide +kernel⟩
theorem kw_X1_67 : KN RX1 67 yX5_quotient RX5 cX5_quotient 2 (some .int) 2 := ⟨nst_t 302 (by decide +kernel) rfl, bn_X5, bc_X5_quotient, by decide +kernel, by decide +kernel, by decide +kernel⟩
theorem kw_X2_34 : KN RX2 34 yX5_element RX5 cX5_element 2 (some .int) 2 := ⟨nst_t 659 (by decide +kernel) rfl, bn_X5, bc_X5_element, by decide +kernel, by decide +kernel, by decide +kernel⟩
theorem kw_X3_19 : KN RX3 19 yX2_init RX5 cX2_init 1 none 0 := ⟨nst_t 26 (by decide +kernel) rfl, bn_X2, bc_X2_init, by decide +kernel, by decide +kernel, by decide +kernel⟩
theorem kw_X3_26 : KN RX3 26 yX0_init RX5 cX0_init 1 none 0 := ⟨nst_t 57 (by decide +kernel) rfl, bn_X0, bc_X0_init, by decide +kernel, by decide +kernel, by decide +kernel⟩
theorem kw_X3_96 : KN RX3 96 yX5_isJug RX5 cX5_isJug 1 (some .boolean) 1 := ⟨nst_t 591 (by decide +kernel) rfl, bn_X5, bc_X5_isJug, by decide +kernel, by decide +kernel, by decide +kernel⟩
theorem kw_X3_108 : KN RX3 108 yX5_element RX5 cX5_element 2 (some .int) 2 := ⟨nst_t 521 (by decide +kernel) rfl, bn_X5, bc_X5_element, by decide +kernel, by decide +kernel, by decide +kernel⟩
theorem kw_X3_212 : KN RX3 212 yX5_quotient RX5 cX5_quotient 2 (some .int) 2 := ⟨nst_t 317 (by decide +kernel) rfl, bn_X5, bc_X5_quotient, by decide +kernel, by decide +kernel, by decide +kernel⟩
