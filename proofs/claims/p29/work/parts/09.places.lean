/-! where each number stands -/
theorem sl_3_3 {ca : Nat → ClassId} {ad : I3 → Nat} {j : Nat} (hj : j < 9) : SL ca ad 3 (1, j, 0) 3 (false, j, 19) := sl_of (by simp [ownL, hj]) (fun G => ⟨_, rfl, rfl, Nat.le_of_ble_eq_true rfl, fun v => by simp [cell, gset, updA, upd]⟩)
theorem sl_3_4 {ca : Nat → ClassId} {ad : I3 → Nat} {j : Nat} (hj : j < 9) : SL ca ad 3 (1, j, 0) 4 (false, j, 6) := sl_of (by simp [ownL, hj]) (fun G => ⟨_, rfl, rfl, Nat.le_of_ble_eq_true rfl, fun v => by simp [cell, gset, updA, upd]⟩)
theorem sl_3_5 {ca : Nat → ClassId} {ad : I3 → Nat} {j : Nat} (hj : j < 9) : SL ca ad 3 (1, j, 0) 5 (false, j, 7) := sl_of (by simp [ownL, hj]) (fun G => ⟨_, rfl, rfl, Nat.le_of_ble_eq_true rfl, fun v => by simp [cell, gset, updA, upd]⟩)
theorem sl_3_6 {ca : Nat → ClassId} {ad : I3 → Nat} {j : Nat} (hj : j < 9) : SL ca ad 3 (1, j, 0) 6 (false, j, 8) := sl_of (by simp [ownL, hj]) (fun G => ⟨_, rfl, rfl, Nat.le_of_ble_eq_true rfl, fun v => by simp [cell, gset, updA, upd]⟩)
theorem sl_3_7 {ca : Nat → ClassId} {ad : I3 → Nat} {j : Nat} (hj : j < 9) : SL ca ad 3 (1, j, 0) 7 (false, j, 9) := sl_of (by simp [ownL, hj]) (fun G => ⟨_, rfl, rfl, Nat.le_of_ble_eq_true rfl, fun v => by simp [cell, gset, updA, upd]⟩)
theorem sl_3_8 {ca : Nat → ClassId} {ad : I3 → Nat} {j : Nat} (hj : j < 9) : SL ca ad 3 (1, j, 0) 8 (false, j, 10) := sl_of (by simp [ownL, hj]) (fun G => ⟨_, rfl, rfl, Nat.le_of_ble_eq_true rfl, fun v => by simp [cell, gset, updA, upd]⟩)
theorem sl_3_9 {ca : Nat → ClassId} {ad : I3 → Nat} {j : Nat} (hj : j < 9) : SL ca ad 3 (1, j, 0) 9 (false, j, 18) := sl_of (by simp [ownL, hj]) (fun G => ⟨_, rfl, rfl, Nat.le_of_ble_eq_true rfl, fun v => by simp [cell, gset, updA, upd]⟩)
theorem sl_3_10 {ca : Nat → ClassId} {ad : I3 → Nat} {j : Nat} (hj : j < 9) : SL ca ad 3 (1, j, 0) 10 (false, j, 11) := sl_of (by simp [ownL, hj]) (fun G => ⟨_, rfl, rfl, Nat.le_of_ble_eq_true rfl, fun v => by simp [cell, gset, updA, upd]⟩)
theorem sl_3_11 {ca : Nat → ClassId} {ad : I3 → Nat} {j : Nat} (hj : j < 9) : SL ca ad 3 (1, j, 0) 11 (false, j, 12) := sl_of (by simp [ownL, hj]) (fun G => ⟨_, rfl, rfl, Nat.le_of_ble_eq_true rfl, fun v => by simp [cell, gset, updA, upd]⟩)
theorem sl_3_12 {ca : Nat → ClassId} {ad : I3 → Nat} {j : Nat} (hj : j < 9) : SL ca ad 3 (1, j, 0) 12 (false, j, 13) := sl_of (by simp [ownL, hj]) (fun G => ⟨_, rfl, rfl, Nat.le_of_ble_eq_true rfl, fun v => by simp [cell, gset, updA, upd]⟩)
theorem sl_1_1 {ca : Nat → ClassId} {ad : I3 → Nat} {j q : Nat} (hj : j < 9) (hk : q < 5) : SL ca ad 1 (3, j, q) 1 (false, j, 20 + 15 * q + 0) := sl_of (by simp only [ownL]; rw [if_pos hj, if_neg (by omega), if_neg (by omega), if_neg (by omega), if_neg (by omega), if_pos (by omega)]; congr 2; omega) (fun G => ⟨_, rfl, rfl, Nat.le_of_ble_eq_true rfl, fun v => by simp [cell, gset, updA, upd]⟩)
theorem sl_1_2 {ca : Nat → ClassId} {ad : I3 → Nat} {j q : Nat} (hj : j < 9) (hk : q < 5) : SL ca ad 1 (3, j, q) 2 (false, j, 20 + 15 * q + 1) := sl_of (by simp only [ownL]; rw [if_pos hj, if_neg (by omega), if_neg (by omega), if_neg (by omega), if_neg (by omega), if_pos (by omega)]; congr 2; omega) (fun G => ⟨_, rfl, rfl, Nat.le_of_ble_eq_true rfl, fun v => by simp [cell, gset, updA, upd]⟩)
theorem sl_1_3 {ca : Nat → ClassId} {ad : I3 → Nat} {j q : Nat} (hj : j < 9) (hk : q < 5) : SL ca ad 1 (3, j, q) 3 (false, j, 20 + 15 * q + 2) := sl_of (by simp only [ownL]; rw [if_pos hj, if_neg (by omega), if_neg (by omega), if_neg (by omega), if_neg (by omega), if_pos (by omega)]; congr 2; omega) (fun G => ⟨_, rfl, rfl, Nat.le_of_ble_eq_true rfl, fun v => by simp [cell, gset, updA, upd]⟩)
theorem sl_1_4 {ca : Nat → ClassId} {ad : I3 → Nat} {j q : Nat} (hj : j < 9) (hk : q < 5) : SL ca ad 1 (3, j, q) 4 (false, j, 20 + 15 * q + 5) := sl_of (by simp only [ownL]; rw [if_pos hj, if_neg (by omega), if_neg (by omega), if_neg (by omega), if_neg (by omega), if_pos (by omega)]; congr 2; omega) (fun G => ⟨_, rfl, rfl, Nat.le_of_ble_eq_true rfl, fun v => by simp [cell, gset, updA, upd]⟩)
theorem sl_1_5 {ca : Nat → ClassId} {ad : I3 → Nat} {j q : Nat} (hj : j < 9) (hk : q < 5) : SL ca ad 1 (3, j, q) 5 (false, j, 20 + 15 * q + 3) := sl_of (by simp only [ownL]; rw [if_pos hj, if_neg (by omega), if_neg (by omega), if_neg (by omega), if_neg (by omega), if_pos (by omega)]; congr 2; omega) (fun G => ⟨_, rfl, rfl, Nat.le_of_ble_eq_true rfl, fun v => by simp [cell, gset, updA, upd]⟩)
theorem sl_1_6 {ca : Nat → ClassId} {ad : I3 → Nat} {j q : Nat} (hj : j < 9) (hk : q < 5) : SL ca ad 1 (3, j, q) 6 (false, j, 20 + 15 * q + 4) := sl_of (by simp only [ownL]; rw [if_pos hj, if_neg (by omega), if_neg (by omega), if_neg (by omega), if_neg (by omega), if_pos (by omega)]; congr 2; omega) (fun G => ⟨_, rfl, rfl, Nat.le_of_ble_eq_true rfl, fun v => by simp [cell, gset, updA, upd]⟩)
theorem sl_1_7 {ca : Nat → ClassId} {ad : I3 → Nat} {j q : Nat} (hj : j < 9) (hk : q < 5) : SL ca ad 1 (3, j, q) 7 (false, j, 20 + 15 * q + 6) := sl_of (by simp only [ownL]; rw [if_pos hj, if_neg (by omega), if_neg (by omega), if_neg (by omega), if_neg (by omega), if_pos (by omega)]; congr 2; omega) (fun G => ⟨_, rfl, rfl, Nat.le_of_ble_eq_true rfl, fun v => by simp [cell, gset, updA, upd]⟩)
theorem sl_1_8 {ca : Nat → ClassId} {ad : I3 → Nat} {j q : Nat} (hj : j < 9) (hk : q < 5) : SL ca ad 1 (3, j, q) 8 (false, j, 20 + 15 * q + 7) := sl_of (by simp only [ownL]; rw [if_pos hj, if_neg (by omega), if_neg (by omega), if_neg (by omega), if_neg (by omega), if_pos (by omega)]; congr 2; omega) (fun G => ⟨_, rfl, rfl, Nat.le_of_ble_eq_true rfl, fun v => by simp [cell, gset, updA, upd]⟩)
theorem sl_1_9 {ca : Nat → ClassId} {ad : I3 → Nat} {j q : Nat} (hj : j < 9) (hk : q < 5) : SL ca ad 1 (3, j, q) 9 (false, j, 20 + 15 * q + 12) := sl_of (by simp only [ownL]; rw [if_pos hj, if_neg (by omega), if_neg (by omega), if_neg (by omega), if_neg (by omega), if_pos (by omega)]; congr 2; omega) (fun G => ⟨_, rfl, rfl, Nat.le_of_ble_eq_true rfl, fun v => by simp [cell, gset, updA, upd]⟩)
theorem sl_1_10 {ca : Nat → ClassId} {ad : I3 → Nat} {j q : Nat} (hj : j < 9) (hk : q < 5) : SL ca ad 1 (3, j, q) 10 (false, j, 20 + 15 * q + 8) := sl_of (by simp only [ownL]; rw [if_pos hj, if_neg (by omega), if_neg (by omega), if_neg (by omega), if_neg (by omega), if_pos (by omega)]; congr 2; omega) (fun G => ⟨_, rfl, rfl, Nat.le_of_ble_eq_true rfl, fun v => by simp [cell, gset, updA, upd]⟩)
theorem sl_1_11 {ca : Nat → ClassId} {ad : I3 → Nat} {j q : Nat} (hj : j < 9) (hk : q < 5) : SL ca ad 1 (3, j, q) 11 (false, j, 20 + 15 * q + 9) := sl_of (by simp only [ownL]; rw [if_pos hj, if_neg (by omega), if_neg (by omega), if_neg (by omega), if_neg (by omega), if_pos (by omega)]; congr 2; omega) (fun G => ⟨_, rfl, rfl, Nat.le_of_ble_eq_true rfl, fun v => by simp [cell, gset, updA, upd]⟩)
theorem sl_1_12 {ca : Nat → ClassId} {ad : I3 → Nat} {j q : Nat} (hj : j < 9) (hk : q < 5) : SL ca ad 1 (3, j, q) 12 (false, j, 20 + 15 * q + 10) := sl_of (by simp only [ownL]; rw [if_pos hj, if_neg (by omega), if_neg (by omega), if_neg (by omega), if_neg (by omega), if_pos (by omega)]; congr 2; omega) (fun G => ⟨_, rfl, rfl, Nat.le_of_ble_eq_true rfl, fun v => by simp [cell, gset, updA, upd]⟩)
theorem sl_1_13 {ca : Nat → ClassId} {ad : I3 → Nat} {j q : Nat} (hj : j < 9) (hk : q < 5) : SL ca ad 1 (3, j, q) 13 (false, j, 20 + 15 * q + 11) := sl_of (by simp only [ownL]; rw [if_pos hj, if_neg (by omega), if_neg (by omega), if_neg (by omega), if_neg (by omega), if_pos (by omega)]; congr 2; omega) (fun G => ⟨_, rfl, rfl, Nat.le_of_ble_eq_true rfl, fun v => by simp [cell, gset, updA, upd]⟩)
theorem sl_1_14 {ca : Nat → ClassId} {ad : I3 → Nat} {j q : Nat} (hj : j < 9) (hk : q < 5) : SL ca ad 1 (3, j, q) 14 (false, j, 20 + 15 * q + 13) := sl_of (by simp only [ownL]; rw [if_pos hj, if_neg (by omega), if_neg (by omega), if_neg (by omega), if_neg (by omega), if_pos (by omega)]; congr 2; omega) (fun G => ⟨_, rfl, rfl, Nat.le_of_ble_eq_true rfl, fun v => by simp [cell, gset, updA, upd]⟩)
theorem sl_1_15 {ca : Nat → ClassId} {ad : I3 → Nat} {j q : Nat} (hj : j < 9) (hk : q < 5) : SL ca ad 1 (3, j, q) 15 (false, j, 20 + 15 * q + 14) := sl_of (by simp only [ownL]; rw [if_pos hj, if_neg (by omega), if_neg (by omega), if_neg (by omega), if_neg (by omega), if_pos (by omega)]; congr 2; omega) (fun G => ⟨_, rfl, rfl, Nat.le_of_ble_eq_true rfl, fun v => by simp [cell, gset, updA, upd]⟩)
theorem sl_2_0 {ca : Nat → ClassId} {ad : I3 → Nat} {j : Nat} (hj : j < 9) : SL ca ad 2 (4, j, 0) 0 (false, j, 0) := sl_of (by simp [ownL, hj]) (fun G => ⟨_, rfl, rfl, Nat.le_of_ble_eq_true rfl, fun v => by simp [cell, gset, updA, upd]⟩)
theorem sl_2_1 {ca : Nat → ClassId} {ad : I3 → Nat} {j : Nat} (hj : j < 9) : SL ca ad 2 (4, j, 0) 1 (false, j, 1) := sl_of (by simp [ownL, hj]) (fun G => ⟨_, rfl, rfl, Nat.le_of_ble_eq_true rfl, fun v => by simp [cell, gset, updA, upd]⟩)
theorem sl_2_2 {ca : Nat → ClassId} {ad : I3 → Nat} {j : Nat} (hj : j < 9) : SL ca ad 2 (4, j, 0) 2 (false, j, 2) := sl_of (by simp [ownL, hj]) (fun G => ⟨_, rfl, rfl, Nat.le_of_ble_eq_true rfl, fun v => by simp [cell, gset, updA, upd]⟩)
theorem sl_2_3 {ca : Nat → ClassId} {ad : I3 → Nat} {j : Nat} (hj : j < 9) : SL ca ad 2 (4, j, 0) 3 (false, j, 3) := sl_of (by simp [ownL, hj]) (fun G => ⟨_, rfl, rfl, Nat.le_of_ble_eq_true rfl, fun v => by simp [cell, gset, updA, upd]⟩)
theorem sl_2_4 {ca : Nat → ClassId} {ad : I3 → Nat} {j : Nat} (hj : j < 9) : SL ca ad 2 (4, j, 0) 4 (false, j, 4) := sl_of (by simp [ownL, hj]) (fun G => ⟨_, rfl, rfl, Nat.le_of_ble_eq_true rfl, fun v => by simp [cell, gset, updA, upd]⟩)
theorem sl_2_5 {ca : Nat → ClassId} {ad : I3 → Nat} {j : Nat} (hj : j < 9) : SL ca ad 2 (4, j, 0) 5 (false, j, 5) := sl_of (by simp [ownL, hj]) (fun G => ⟨_, rfl, rfl, Nat.le_of_ble_eq_true rfl, fun v => by simp [cell, gset, updA, upd]⟩)
theorem sl_0_2 {ca : Nat → ClassId} {ad : I3 → Nat} {j : Nat} (hj : j < 9) : SL ca ad 0 (5, j, 0) 2 (false, j, 14) := sl_of (by simp [ownL, hj]) (fun G => ⟨_, rfl, rfl, Nat.le_of_ble_eq_true rfl, fun v => by simp [cell, gset, updA, upd]⟩)
theorem sl_0_3 {ca : Nat → ClassId} {ad : I3 → Nat} {j : Nat} (hj : j < 9) : SL ca ad 0 (5, j, 0) 3 (false, j, 15) := sl_of (by simp [ownL, hj]) (fun G => ⟨_, rfl, rfl, Nat.le_of_ble_eq_true rfl, fun v => by simp [cell, gset, updA, upd]⟩)
theorem sl_4_2 {ca : Nat → ClassId} {ad : I3 → Nat} : SL ca ad 4 (11, 0, 0) 2 (false, 11, 0) := sl_of (by simp [ownL]) (fun G => ⟨_, rfl, rfl, Nat.le_of_ble_eq_true rfl, fun v => by simp [cell, gset, updA, upd]⟩)
theorem sl_4_3 {ca : Nat → ClassId} {ad : I3 → Nat} : SL ca ad 4 (11, 0, 0) 3 (false, 11, 1) := sl_of (by simp [ownL]) (fun G => ⟨_, rfl, rfl, Nat.le_of_ble_eq_true rfl, fun v => by simp [cell, gset, updA, upd]⟩)
theorem sl_4_4 {ca : Nat → ClassId} {ad : I3 → Nat} : SL ca ad 4 (11, 0, 0) 4 (false, 11, 2) := sl_of (by simp [ownL]) (fun G => ⟨_, rfl, rfl, Nat.le_of_ble_eq_true rfl, fun v => by simp [cell, gset, updA, upd]⟩)
theorem sl_4_5 {ca : Nat → ClassId} {ad : I3 → Nat} : SL ca ad 4 (11, 0, 0) 5 (false, 11, 3) := sl_of (by simp [ownL]) (fun G => ⟨_, rfl, rfl, Nat.le_of_ble_eq_true rfl, fun v => by simp [cell, gset, updA, upd]⟩)
theorem sl_4_6 {ca : Nat → ClassId} {ad : I3 → Nat} : SL ca ad 4 (11, 0, 0) 6 (false, 11, 4) := sl_of (by simp [ownL]) (fun G => ⟨_, rfl, rfl, Nat.le_of_ble_eq_true rfl, fun v => by simp [cell, gset, updA, upd]⟩)
theorem sl_4_7 {ca : Nat → ClassId} {ad : I3 → Nat} : SL ca ad 4 (11, 0, 0) 7 (false, 11, 5) := sl_of (by simp [ownL]) (fun G => ⟨_, rfl, rfl, Nat.le_of_ble_eq_true rfl, fun v => by simp [cell, gset, updA, upd]⟩)
theorem sl_5_7 {ca : Nat → ClassId} {ad : I3 → Nat} : SL ca ad 5 (0, 0, 0) 7 (false, 13, 0) := sl_of (by simp [ownL]) (fun G => ⟨_, rfl, rfl, Nat.le_of_ble_eq_true rfl, fun v => by simp [cell, gset, updA, upd]⟩)
theorem rl_3_0 {ca : Nat → ClassId} {ad : I3 → Nat} {j : Nat} : RK ca ad 3 (1, j, 0) 0 (2, j, 0) := fun G => ⟨_, rfl, rfl⟩
theorem rl_3_1 {ca : Nat → ClassId} {ad : I3 → Nat} {j : Nat} : RK ca ad 3 (1, j, 0) 1 (4, j, 0) := fun G => ⟨_, rfl, rfl⟩
theorem rl_3_2 {ca : Nat → ClassId} {ad : I3 → Nat} {j : Nat} : RK ca ad 3 (1, j, 0) 2 (5, j, 0) := fun G => ⟨_, rfl, rfl⟩
theorem rl_0_0 {ca : Nat → ClassId} {ad : I3 → Nat} {j : Nat} : RK ca ad 0 (5, j, 0) 0 (6, j, 0) := fun G => ⟨_, rfl, rfl⟩
theorem rl_0_1 {ca : Nat → ClassId} {ad : I3 → Nat} {j : Nat} : RK ca ad 0 (5, j, 0) 1 (7, j, 0) := fun G => ⟨_, rfl, rfl⟩
theorem rl_5_0 {ca : Nat → ClassId} {ad : I3 → Nat} : RK ca ad 5 (0, 0, 0) 0 (1, 0, 0) := fun G => ⟨_, rfl, rfl⟩
theorem rl_5_1 {ca : Nat → ClassId} {ad : I3 → Nat} : RK ca ad 5 (0, 0, 0) 1 (1, 1, 0) := fun G => ⟨_, rfl, rfl⟩
theorem rl_5_2 {ca : Nat → ClassId} {ad : I3 → Nat} : RK ca ad 5 (0, 0, 0) 2 (8, 0, 0) := fun G => ⟨_, rfl, rfl⟩
theorem rl_5_3 {ca : Nat → ClassId} {ad : I3 → Nat} : RK ca ad 5 (0, 0, 0) 3 (9, 0, 0) := fun G => ⟨_, rfl, rfl⟩
theorem rl_5_4 {ca : Nat → ClassId} {ad : I3 → Nat} : RK ca ad 5 (0, 0, 0) 4 (10, 0, 0) := fun G => ⟨_, rfl, rfl⟩
theorem rl_5_5 {ca : Nat → ClassId} {ad : I3 → Nat} : RK ca ad 5 (0, 0, 0) 5 (11, 0, 0) := fun G => ⟨_, rfl, rfl⟩
theorem rl_4_0 {ca : Nat → ClassId} {ad : I3 → Nat} : RK ca ad 4 (11, 0, 0) 0 (12, 0, 0) := fun G => ⟨_, rfl, rfl⟩
theorem rl_4_1 {ca : Nat → ClassId} {ad : I3 → Nat} : RK ca ad 4 (11, 0, 0) 1 (13, 0, 0) := fun G => ⟨_, rfl, rfl⟩
theorem al_6 {ca : Nat → ClassId} {ad : I3 → Nat} {j : Nat} (hj : j < 9) : AL ca ad (6, j, 0) 0 4 false j 96 := ⟨fun i hi => by simp only [ownL]; rw [if_pos hj, if_neg (by omega), if_neg (by omega), if_neg (by omega), if_neg (by omega), if_neg (by omega), if_neg (by omega), if_pos (by omega)], fun G => rfl⟩
theorem al_7 {ca : Nat → ClassId} {ad : I3 → Nat} {j : Nat} (hj : j < 9) : AL ca ad (7, j, 0) 0 20 false j 100 := ⟨fun i hi => by simp only [ownL]; rw [if_pos hj, if_neg (by omega), if_neg (by omega), if_neg (by omega), if_neg (by omega), if_neg (by omega), if_neg (by omega), if_neg (by omega)], fun G => rfl⟩
theorem al_10 {ca : Nat → ClassId} {ad : I3 → Nat} : AL ca ad (10, 0, 0) 2 2 false 12 0 := ⟨fun i hi => by simp [ownL], fun G => rfl⟩
theorem al_12 {ca : Nat → ClassId} {ad : I3 → Nat} : AL ca ad (12, 0, 0) 1 60 false 9 0 := ⟨fun i hi => by simp [ownL], fun G => rfl⟩
theorem al_13 {ca : Nat → ClassId} {ad : I3 → Nat} : AL ca ad (13, 0, 0) 0 3 false 10 0 := ⟨fun i hi => by simp [ownL], fun G => rfl⟩
theorem al_14_0 {ca : Nat → ClassId} {ad : I3 → Nat} : AL ca ad (14, 0, 0) 0 19 true 0 0 := ⟨fun i hi => by simp [ownL], fun G => rfl⟩
theorem al_14_1 {ca : Nat → ClassId} {ad : I3 → Nat} : AL ca ad (14, 1, 0) 0 35 true 1 0 := ⟨fun i hi => by simp [ownL], fun G => rfl⟩
theorem al_14_2 {ca : Nat → ClassId} {ad : I3 → Nat} : AL ca ad (14, 2, 0) 0 40 true 2 0 := ⟨fun i hi => by simp [ownL], fun G => rfl⟩
theorem al_14_3 {ca : Nat → ClassId} {ad : I3 → Nat} : AL ca ad (14, 3, 0) 0 25 true 3 0 := ⟨fun i hi => by simp [ownL], fun G => rfl⟩
theorem al_14_4 {ca : Nat → ClassId} {ad : I3 → Nat} : AL ca ad (14, 4, 0) 0 19 true 4 0 := ⟨fun i hi => by simp [ownL], fun G => rfl⟩
theorem al_14_5 {ca : Nat → ClassId} {ad : I3 → Nat} : AL ca ad (14, 5, 0) 0 35 true 5 0 := ⟨fun i hi => by simp [ownL], fun G => rfl⟩
theorem al_14_6 {ca : Nat → ClassId} {ad : I3 → Nat} : AL ca ad (14, 6, 0) 0 40 true 6 0 := ⟨fun i hi => by simp [ownL], fun G => rfl⟩
theorem oc_0 {ca : Nat → ClassId} {ad : I3 → Nat} : OC ca ad (0, 0, 0) RX5 := fun G => ⟨_, _, _, rfl, rfl, rfl⟩
theorem oc_1 {ca : Nat → ClassId} {ad : I3 → Nat} {j : Nat} : OC ca ad (1, j, 0) RX3 := fun G => ⟨_, _, _, rfl, rfl, rfl⟩
theorem oc_3 {ca : Nat → ClassId} {ad : I3 → Nat} {j q : Nat} : OC ca ad (3, j, q) RX1 := fun G => ⟨_, _, _, rfl, rfl, rfl⟩
theorem oc_4 {ca : Nat → ClassId} {ad : I3 → Nat} {j : Nat} : OC ca ad (4, j, 0) RX2 := fun G => ⟨_, _, _, rfl, rfl, rfl⟩
theorem oc_5 {ca : Nat → ClassId} {ad : I3 → Nat} {j : Nat} : OC ca ad (5, j, 0) RX0 := fun G => ⟨_, _, _, rfl, rfl, rfl⟩
theorem oc_11 {ca : Nat → ClassId} {ad : I3 → Nat} : OC ca ad (11, 0, 0) RX4 := fun G => ⟨_, _, _, rfl, rfl, rfl⟩
theorem id_c0 : (0, 0, 0) ∈ idC := by decide +kernel
theorem id_c8 : (8, 0, 0) ∈ idC := by decide +kernel
theorem id_c9 : (9, 0, 0) ∈ idC := by decide +kernel
theorem id_c10 : (10, 0, 0) ∈ idC := by decide +kernel
theorem id_c11 : (11, 0, 0) ∈ idC := by decide +kernel
theorem id_c12 : (12, 0, 0) ∈ idC := by decide +kernel
theorem id_c13 : (13, 0, 0) ∈ idC := by decide +kernel
theorem id_l0 : (14, 0, 0) ∈ idC := by decide +kernel
theorem id_l1 : (14, 1, 0) ∈ idC := by decide +kernel
theorem id_l2 : (14, 2, 0) ∈ idC := by decide +kernel
theorem id_l3 : (14, 3, 0) ∈ idC := by decide +kernel
/-! the levels: a state's row, the class's numbers, the model's numbers within the whole picture -/
def eS (G0 : GS) (j : Nat) (σ : Nat → Int32) : GS := (updA G0.1 j σ, G0.2)
theorem eS_get {G0 : GS} {j : Nat} {σ : Nat → Int32} {i : Nat} : gget (eS G0 j σ) (false, j, i) = σ i := by
  show updA G0.1 j σ j i = σ i
  rw [updA_same]
theorem eS_set {G0 : GS} {j : Nat} {σ σ' : Nat → Int32} {i : Nat} {v : Int32} (h : upd σ i v = σ') : gset (eS G0 j σ) (false, j, i) v = eS G0 j σ' := by
  subst h
  show (updA (updA G0.1 j σ) j (upd (updA G0.1 j σ j) i v), G0.2) = (updA G0.1 j (upd σ i v), G0.2)
  rw [updA_same, updA_updA]
theorem eS_self (C : Nat → Nat → Int32) (R : (Nat → Fin 9) × (Nat → Nat → Int32)) (j : Nat) : eS (C, R) j (C j) = (C, R) := by
  show (updA C j (C j), R) = (C, R)
  rw [updA_self]
theorem eS_to {G0 : GS} {j : Nat} {σ : Nat → Int32} {C' : Nat → Nat → Int32} (h : updA G0.1 j σ = C') : eS G0 j σ = (C', G0.2) := by
  subst h; rfl
def setC (C : Nat → Nat → Int32) (a i : Nat) (v : Int32) : Nat → Nat → Int32 := updA C a (upd (C a) i v)
theorem eC_set {C C' : Nat → Nat → Int32} {R : (Nat → Fin 9) × (Nat → Nat → Int32)} {a i : Nat} {v : Int32} (h : setC C a i v = C') : gset (C, R) (false, a, i) v = (C', R) := by subst h; rfl
theorem eM_set {C : Nat → Nat → Int32} {B : Nat → Fin 9} {M M' : Nat → Nat → Int32} {a i : Nat} {v : Int32} (h : setC M a i v = M') : gset (C, B, M) (true, a, i) v = (C, B, M') := by subst h; rfl
def lt {α β : Type} (x : α) (f : α → β) : β := f x
theorem lt_some {α β : Type} {x : α} {f : α → β} {r : β} (h : lt x f = r) : ∃ y, x = y ∧ f y = r := ⟨x, rfl, h⟩
def onN {α : Type} (r : Option Nat) (A : α) (B : Nat → α) : α := match r with
  | none => A
  | some k => B k
theorem onN_none {α : Type} {A r : α} {B : Nat → α} (h : onN none A B = r) : A = r := h
theorem onN_some {α : Type} {A r : α} {B : Nat → α} {k : Nat} (h : onN (some k) A B = r) : B k = r := h
def KI (c f : Nat) : Nat := 20 + 15 * c + f
def fuel : Nat := 2000
theorem j_sub {D : va_G} {ca : Nat → ClassId} {ad : I3 → Nat} {p : Program} {l : Launch} {e : Env} {R : Room} {s : State} {m : MethodId} {args : Array Value} {below : List Frame} {meth : Method} {c : Code} {nL : Nat} {k n : Nat} {Q : State → Prop} {G : GS} {pc : Nat} {lv lv' : List (Nat × Value)} {st : List Value} (ks : List Nat) (h : lv_pick lv ks = lv') (kk : J D ca ad p l e R s m args below meth c k n Q nL G pc lv' st) : J D ca ad p l e R s m args below meth c k n Q nL G pc lv st := fun H locs ls hP hS hl => kk H locs ls hP hS (lv_sub hl ks h)
theorem im_lt {k : Nat} (h : k < 2) : 7 + k < 9 := by omega
theorem none_ne {α : Type} {r : α} (h : (none : Option α) = some r) : False := nomatch h
section JSW
variable {D : va_G} {ca : Nat → ClassId} {ad : I3 → Nat} {p : Program} {l : Launch} {e : Env} {R : Room} {s : State} {m : MethodId} {args : Array Value} {below : List Frame} {meth : Method} {c : Code} {cc : ByteArray} {nL : Nat} {ow : String} {k n : Nat} {Q : State → Prop} {G : GS} {pc : Nat} {lv : List (Nat × Value)} {st : List Value}
theorem j_tableEq (C0 : Cx D ca ad p s m args meth c cc nL ow) (v : Int32) {dflt lo hi : Int} {offs : Array Int} {len : Nat} {x : Int32} {off : Int} {tgt : Nat} (hx : x = v) (hdg : decode cc pc = .ok (.tableswitch dflt lo hi offs, len)) (h1 : ¬ v.toInt < lo) (h2 : ¬ hi < v.toInt) (ho : offs[(v.toInt - lo).toNat]? = some off) (ht : (pc : Int) + off = (tgt : Int)) (kk : J D ca ad p l e R s m args below meth c k n Q nL G tgt lv st) : J D ca ad p l e R s m args below meth c k n Q nL G pc lv (.int x :: st) := by
  subst hx
  exact j_tableIn C0 hdg h1 h2 ho ht kk
theorem j_lookupEq (C0 : Cx D ca ad p s m args meth c cc nL ow) (v : Int32) {dflt : Int} {ps : Array (Int × Int)} {len : Nat} {x : Int32} {off : Int} {tgt : Nat} (hx : x = v) (hdg : decode cc pc = .ok (.lookupswitch dflt ps, len)) (hp : (ps.toList.zip (ps.toList.drop 1)).all (fun (a, next) => a.1 < next.1) = true) (ho : Op.lookupswitch.offset ps.toList dflt v.toInt = off) (ht : (pc : Int) + off = (tgt : Int)) (kk : J D ca ad p l e R s m args below meth c k n Q nL G tgt lv st) : J D ca ad p l e R s m args below meth c k n Q nL G pc lv (.int x :: st) := by
  subst hx
  exact j_lookup C0 hdg hp ho ht kk
end JSW
