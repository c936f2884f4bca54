/-! ROWS: the frame of the cells, the judgement J, a row an instruction -/
def okId : I3 → Bool := fun q => match q with
  | (0, a, k) => a == 0 && k == 0
  | (3, j, k) => decide (j < 9) && decide (k < 5)
  | (8, a, k) => a == 0 && k == 0
  | (9, a, k) => a == 0 && k == 0
  | (10, a, k) => a == 0 && k == 0
  | (11, a, k) => a == 0 && k == 0
  | (12, a, k) => a == 0 && k == 0
  | (13, a, k) => a == 0 && k == 0
  | (14, a, k) => decide (a < 7) && k == 0
  | (t, j, k) => decide (t < 8) && decide (j < 9) && k == 0
theorem id_ok : ∀ id ∈ idL, okId id = true := by decide +kernel
theorem frC {G G' : GS} {id : I3} (h : ∀ L, ownL L = id → gget G' L = gget G L) {a i : Nat} (ho : ownL (false, a, i) = id) : G'.1 a i = G.1 a i := h (false, a, i) ho
theorem frM {G G' : GS} {id : I3} (h : ∀ L, ownL L = id → gget G' L = gget G L) {a i : Nat} (ho : ownL (true, a, i) = id) : G'.2.2 a i = G.2.2 a i := h (true, a, i) ho
theorem cf_0 {ca : Nat → ClassId} {ad : I3 → Nat} {G G' : GS} {j k : Nat} (hB : G'.2.1 = G.2.1) (h : ∀ L, ownL L = (0, 0, 0) → gget G' L = gget G L) : cell ca ad G' (0, 0, 0) = cell ca ad G (0, 0, 0) := by
  have e0 := frC h (a := 13) (i := 0) (by simp [ownL])
  simp only [cell, hB, e0]
theorem cf_1 {ca : Nat → ClassId} {ad : I3 → Nat} {G G' : GS} {j k : Nat} (hj : j < 9) (hB : G'.2.1 = G.2.1) (h : ∀ L, ownL L = (1, j, 0) → gget G' L = gget G L) : cell ca ad G' (1, j, 0) = cell ca ad G (1, j, 0) := by
  have e0 := frC h (a := j) (i := 19) (by simp [ownL, hj])
  have e1 := frC h (a := j) (i := 6) (by simp [ownL, hj])
  have e2 := frC h (a := j) (i := 7) (by simp [ownL, hj])
  have e3 := frC h (a := j) (i := 8) (by simp [ownL, hj])
  have e4 := frC h (a := j) (i := 9) (by simp [ownL, hj])
  have e5 := frC h (a := j) (i := 10) (by simp [ownL, hj])
  have e6 := frC h (a := j) (i := 18) (by simp [ownL, hj])
  have e7 := frC h (a := j) (i := 11) (by simp [ownL, hj])
  have e8 := frC h (a := j) (i := 12) (by simp [ownL, hj])
  have e9 := frC h (a := j) (i := 13) (by simp [ownL, hj])
  simp only [cell, hB, e0, e1, e2, e3, e4, e5, e6, e7, e8, e9]
theorem cf_2 {ca : Nat → ClassId} {ad : I3 → Nat} {G G' : GS} {j k : Nat} (hB : G'.2.1 = G.2.1) (h : ∀ L, ownL L = (2, j, 0) → gget G' L = gget G L) : cell ca ad G' (2, j, 0) = cell ca ad G (2, j, 0) := by
  simp only [cell, hB]
theorem cf_3 {ca : Nat → ClassId} {ad : I3 → Nat} {G G' : GS} {j k : Nat} (hj : j < 9) (hk : k < 5) (hB : G'.2.1 = G.2.1) (h : ∀ L, ownL L = (3, j, k) → gget G' L = gget G L) : cell ca ad G' (3, j, k) = cell ca ad G (3, j, k) := by
  have e0 := frC h (a := j) (i := 20 + 15 * k + 0) (by simp only [ownL]; rw [if_pos hj, if_neg (by omega), if_neg (by omega), if_neg (by omega), if_neg (by omega), if_pos (by omega)]; congr 2; omega)
  have e1 := frC h (a := j) (i := 20 + 15 * k + 1) (by simp only [ownL]; rw [if_pos hj, if_neg (by omega), if_neg (by omega), if_neg (by omega), if_neg (by omega), if_pos (by omega)]; congr 2; omega)
  have e2 := frC h (a := j) (i := 20 + 15 * k + 2) (by simp only [ownL]; rw [if_pos hj, if_neg (by omega), if_neg (by omega), if_neg (by omega), if_neg (by omega), if_pos (by omega)]; congr 2; omega)
  have e3 := frC h (a := j) (i := 20 + 15 * k + 5) (by simp only [ownL]; rw [if_pos hj, if_neg (by omega), if_neg (by omega), if_neg (by omega), if_neg (by omega), if_pos (by omega)]; congr 2; omega)
  have e4 := frC h (a := j) (i := 20 + 15 * k + 3) (by simp only [ownL]; rw [if_pos hj, if_neg (by omega), if_neg (by omega), if_neg (by omega), if_neg (by omega), if_pos (by omega)]; congr 2; omega)
  have e5 := frC h (a := j) (i := 20 + 15 * k + 4) (by simp only [ownL]; rw [if_pos hj, if_neg (by omega), if_neg (by omega), if_neg (by omega), if_neg (by omega), if_pos (by omega)]; congr 2; omega)
  have e6 := frC h (a := j) (i := 20 + 15 * k + 6) (by simp only [ownL]; rw [if_pos hj, if_neg (by omega), if_neg (by omega), if_neg (by omega), if_neg (by omega), if_pos (by omega)]; congr 2; omega)
  have e7 := frC h (a := j) (i := 20 + 15 * k + 7) (by simp only [ownL]; rw [if_pos hj, if_neg (by omega), if_neg (by omega), if_neg (by omega), if_neg (by omega), if_pos (by omega)]; congr 2; omega)
  have e8 := frC h (a := j) (i := 20 + 15 * k + 12) (by simp only [ownL]; rw [if_pos hj, if_neg (by omega), if_neg (by omega), if_neg (by omega), if_neg (by omega), if_pos (by omega)]; congr 2; omega)
  have e9 := frC h (a := j) (i := 20 + 15 * k + 8) (by simp only [ownL]; rw [if_pos hj, if_neg (by omega), if_neg (by omega), if_neg (by omega), if_neg (by omega), if_pos (by omega)]; congr 2; omega)
  have e10 := frC h (a := j) (i := 20 + 15 * k + 9) (by simp only [ownL]; rw [if_pos hj, if_neg (by omega), if_neg (by omega), if_neg (by omega), if_neg (by omega), if_pos (by omega)]; congr 2; omega)
  have e11 := frC h (a := j) (i := 20 + 15 * k + 10) (by simp only [ownL]; rw [if_pos hj, if_neg (by omega), if_neg (by omega), if_neg (by omega), if_neg (by omega), if_pos (by omega)]; congr 2; omega)
  have e12 := frC h (a := j) (i := 20 + 15 * k + 11) (by simp only [ownL]; rw [if_pos hj, if_neg (by omega), if_neg (by omega), if_neg (by omega), if_neg (by omega), if_pos (by omega)]; congr 2; omega)
  have e13 := frC h (a := j) (i := 20 + 15 * k + 13) (by simp only [ownL]; rw [if_pos hj, if_neg (by omega), if_neg (by omega), if_neg (by omega), if_neg (by omega), if_pos (by omega)]; congr 2; omega)
  have e14 := frC h (a := j) (i := 20 + 15 * k + 14) (by simp only [ownL]; rw [if_pos hj, if_neg (by omega), if_neg (by omega), if_neg (by omega), if_neg (by omega), if_pos (by omega)]; congr 2; omega)
  simp only [cell, hB, e0, e1, e2, e3, e4, e5, e6, e7, e8, e9, e10, e11, e12, e13, e14]
theorem cf_4 {ca : Nat → ClassId} {ad : I3 → Nat} {G G' : GS} {j k : Nat} (hj : j < 9) (hB : G'.2.1 = G.2.1) (h : ∀ L, ownL L = (4, j, 0) → gget G' L = gget G L) : cell ca ad G' (4, j, 0) = cell ca ad G (4, j, 0) := by
  have e0 := frC h (a := j) (i := 0) (by simp [ownL, hj])
  have e1 := frC h (a := j) (i := 1) (by simp [ownL, hj])
  have e2 := frC h (a := j) (i := 2) (by simp [ownL, hj])
  have e3 := frC h (a := j) (i := 3) (by simp [ownL, hj])
  have e4 := frC h (a := j) (i := 4) (by simp [ownL, hj])
  have e5 := frC h (a := j) (i := 5) (by simp [ownL, hj])
  simp only [cell, hB, e0, e1, e2, e3, e4, e5]
theorem cf_5 {ca : Nat → ClassId} {ad : I3 → Nat} {G G' : GS} {j k : Nat} (hj : j < 9) (hB : G'.2.1 = G.2.1) (h : ∀ L, ownL L = (5, j, 0) → gget G' L = gget G L) : cell ca ad G' (5, j, 0) = cell ca ad G (5, j, 0) := by
  have e0 := frC h (a := j) (i := 14) (by simp [ownL, hj])
  have e1 := frC h (a := j) (i := 15) (by simp [ownL, hj])
  simp only [cell, hB, e0, e1]
theorem cf_6 {ca : Nat → ClassId} {ad : I3 → Nat} {G G' : GS} {j k : Nat} (hj : j < 9) (hB : G'.2.1 = G.2.1) (h : ∀ L, ownL L = (6, j, 0) → gget G' L = gget G L) : cell ca ad G' (6, j, 0) = cell ca ad G (6, j, 0) := by
  have e := tr_congr (n := 4) (off := 96) (f := G'.1 j) (g := G.1 j) (fun i hi => frC h (by simp only [ownL]; rw [if_pos hj, if_neg (by omega), if_neg (by omega), if_neg (by omega), if_neg (by omega), if_neg (by omega), if_neg (by omega), if_pos (by omega)]))
  simp only [cell, e]
theorem cf_7 {ca : Nat → ClassId} {ad : I3 → Nat} {G G' : GS} {j k : Nat} (hj : j < 9) (hB : G'.2.1 = G.2.1) (h : ∀ L, ownL L = (7, j, 0) → gget G' L = gget G L) : cell ca ad G' (7, j, 0) = cell ca ad G (7, j, 0) := by
  have e := tr_congr (n := 20) (off := 100) (f := G'.1 j) (g := G.1 j) (fun i hi => frC h (by simp only [ownL]; rw [if_pos hj, if_neg (by omega), if_neg (by omega), if_neg (by omega), if_neg (by omega), if_neg (by omega), if_neg (by omega), if_neg (by omega)]))
  simp only [cell, e]
theorem cf_8 {ca : Nat → ClassId} {ad : I3 → Nat} {G G' : GS} {j k : Nat} (hB : G'.2.1 = G.2.1) (h : ∀ L, ownL L = (8, 0, 0) → gget G' L = gget G L) : cell ca ad G' (8, 0, 0) = cell ca ad G (8, 0, 0) := by
  simp only [cell, hB]
theorem cf_9 {ca : Nat → ClassId} {ad : I3 → Nat} {G G' : GS} {j k : Nat} (hB : G'.2.1 = G.2.1) (h : ∀ L, ownL L = (9, 0, 0) → gget G' L = gget G L) : cell ca ad G' (9, 0, 0) = cell ca ad G (9, 0, 0) := by
  simp only [cell, hB]
theorem cf_10 {ca : Nat → ClassId} {ad : I3 → Nat} {G G' : GS} {j k : Nat} (hB : G'.2.1 = G.2.1) (h : ∀ L, ownL L = (10, 0, 0) → gget G' L = gget G L) : cell ca ad G' (10, 0, 0) = cell ca ad G (10, 0, 0) := by
  have e := tr_congr (n := 2) (off := 0) (f := G'.1 12) (g := G.1 12) (fun i hi => frC h (by simp [ownL]))
  simp only [cell, e]
theorem cf_11 {ca : Nat → ClassId} {ad : I3 → Nat} {G G' : GS} {j k : Nat} (hB : G'.2.1 = G.2.1) (h : ∀ L, ownL L = (11, 0, 0) → gget G' L = gget G L) : cell ca ad G' (11, 0, 0) = cell ca ad G (11, 0, 0) := by
  have e0 := frC h (a := 11) (i := 0) (by simp [ownL])
  have e1 := frC h (a := 11) (i := 1) (by simp [ownL])
  have e2 := frC h (a := 11) (i := 2) (by simp [ownL])
  have e3 := frC h (a := 11) (i := 3) (by simp [ownL])
  have e4 := frC h (a := 11) (i := 4) (by simp [ownL])
  have e5 := frC h (a := 11) (i := 5) (by simp [ownL])
  simp only [cell, hB, e0, e1, e2, e3, e4, e5]
theorem cf_12 {ca : Nat → ClassId} {ad : I3 → Nat} {G G' : GS} {j k : Nat} (hB : G'.2.1 = G.2.1) (h : ∀ L, ownL L = (12, 0, 0) → gget G' L = gget G L) : cell ca ad G' (12, 0, 0) = cell ca ad G (12, 0, 0) := by
  have e := tr_congr (n := 60) (off := 0) (f := G'.1 9) (g := G.1 9) (fun i hi => frC h (by simp [ownL]))
  simp only [cell, e]
theorem cf_13 {ca : Nat → ClassId} {ad : I3 → Nat} {G G' : GS} {j k : Nat} (hB : G'.2.1 = G.2.1) (h : ∀ L, ownL L = (13, 0, 0) → gget G' L = gget G L) : cell ca ad G' (13, 0, 0) = cell ca ad G (13, 0, 0) := by
  have e := tr_congr (n := 3) (off := 0) (f := G'.1 10) (g := G.1 10) (fun i hi => frC h (by simp [ownL]))
  simp only [cell, e]
theorem cf_14 {ca : Nat → ClassId} {ad : I3 → Nat} {G G' : GS} {a : Nat} (h : ∀ L, ownL L = (14, a, 0) → gget G' L = gget G L) : cell ca ad G' (14, a, 0) = cell ca ad G (14, a, 0) := by
  have e := tr_congr (n := lenL a) (off := 0) (f := G'.2.2 a) (g := G.2.2 a) (fun i hi => frM h rfl)
  simp only [cell, e]
theorem cell_frame {ca : Nat → ClassId} {ad : I3 → Nat} {G G' : GS} {id : I3} (hid : id ∈ idL) (hB : G'.2.1 = G.2.1) (h : ∀ L, ownL L = id → gget G' L = gget G L) : cell ca ad G' id = cell ca ad G id := by
  have ho := id_ok id hid
  obtain ⟨t, a, k⟩ := id
  unfold okId at ho
  split at ho <;> rename_i heq <;> cases heq
  · simp only [Bool.and_eq_true, beq_iff_eq] at ho; obtain ⟨rfl, rfl⟩ := ho; exact cf_0 (j := 0) (k := 0) hB h
  · simp only [Bool.and_eq_true, decide_eq_true_eq] at ho; exact cf_3 ho.1 ho.2 hB h
  · simp only [Bool.and_eq_true, beq_iff_eq] at ho; obtain ⟨rfl, rfl⟩ := ho; exact cf_8 (j := 0) (k := 0) hB h
  · simp only [Bool.and_eq_true, beq_iff_eq] at ho; obtain ⟨rfl, rfl⟩ := ho; exact cf_9 (j := 0) (k := 0) hB h
  · simp only [Bool.and_eq_true, beq_iff_eq] at ho; obtain ⟨rfl, rfl⟩ := ho; exact cf_10 (j := 0) (k := 0) hB h
  · simp only [Bool.and_eq_true, beq_iff_eq] at ho; obtain ⟨rfl, rfl⟩ := ho; exact cf_11 (j := 0) (k := 0) hB h
  · simp only [Bool.and_eq_true, beq_iff_eq] at ho; obtain ⟨rfl, rfl⟩ := ho; exact cf_12 (j := 0) (k := 0) hB h
  · simp only [Bool.and_eq_true, beq_iff_eq] at ho; obtain ⟨rfl, rfl⟩ := ho; exact cf_13 (j := 0) (k := 0) hB h
  · simp only [Bool.and_eq_true, decide_eq_true_eq, beq_iff_eq] at ho; obtain ⟨-, rfl⟩ := ho; exact cf_14 h
  · simp only [Bool.and_eq_true, decide_eq_true_eq, beq_iff_eq] at ho
    obtain ⟨⟨h8, hj⟩, rfl⟩ := ho
    rcases (show t = 0 ∨ t = 1 ∨ t = 2 ∨ t = 3 ∨ t = 4 ∨ t = 5 ∨ t = 6 ∨ t = 7 by omega) with rfl | rfl | rfl | rfl | rfl | rfl | rfl | rfl
    · simp_all
    · exact cf_1 (k := 0) hj hB h
    · exact cf_2 (k := 0) hB h
    · simp_all
    · exact cf_4 (k := 0) hj hB h
    · exact cf_5 (k := 0) hj hB h
    · exact cf_6 (k := 0) hj hB h
    · exact cf_7 (k := 0) hj hB h
