/-! WHAT THE LAW ANSWERS -/
def M0r : Nat → Nat → Int32 := fun a => if a = 0 then row0 else fun _ => 0
theorem row0_RR : RR 0 row0 row0 := by
  refine ⟨⟨⟨rfl, by decide⟩, ⟨by decide, by decide, by decide, by decide, by decide, by decide⟩, by decide, fun k hk => absurd hk (by omega)⟩, fun c f _ hc hf => ?_, ⟨fun _ _ _ _ => rfl, fun _ _ _ _ => rfl⟩, by decide, ⟨by decide, by decide, fun a _ h => absurd h (by rw [show (row0 14).toInt.toNat = 0 from rfl]; omega)⟩⟩
  unfold row0
  rw [upd_ne _ (KI_sc (by decide)), upd_ne _ (KI_sc (by decide)), upd_ne _ (KI_sc (by decide)), upd_ne _ (KI_sc (by decide)), upd_ne _ (KI_sc (by decide)), upd_ne _ (KI_sc (by decide))]
theorem start_XRs : XRs 5000 0 ((C0s, B0s) : XS) M0r := by
  refine ⟨⟨by decide, rfl, rfl⟩, ⟨0, row0_RR, by decide, fun k hk => absurd hk (by omega)⟩, fun i hi => absurd hi (by omega), fun i hi => ?_, fun i j hi hj e => ?_, fun i hi => ⟨rfl, fun q => absurd rfl q⟩, ⟨rfl, by decide, fun i hi => absurd hi (by rw [show (M0r 8 1).toInt = 0 from rfl]; omega)⟩⟩
  · rcases (show i = 0 ∨ i = 1 ∨ i = 2 ∨ i = 3 ∨ i = 4 by omega) with rfl | rfl | rfl | rfl | rfl <;> decide
  · revert e
    rcases (show i = 0 ∨ i = 1 ∨ i = 2 ∨ i = 3 ∨ i = 4 by omega) with rfl | rfl | rfl | rfl | rfl <;> rcases (show j = 0 ∨ j = 1 ∨ j = 2 ∨ j = 3 ∨ j = 4 by omega) with rfl | rfl | rfl | rfl | rfl <;> decide
theorem row0_z {i : Nat} (h : 8 ≤ i) : row0 i = 0 := by
  unfold row0
  rw [upd_ne _ (by omega), upd_ne _ (by omega), upd_ne _ (by omega), upd_ne _ (by omega), upd_ne _ (by omega), upd_ne _ (by omega)]
theorem dec_row0 : dec row0 (fun _ => 0) (fun _ => 0) (fun _ => 0) 0 = row0 := funext fun i => by
  by_cases c1 : i < 12
  · exact dec_lo c1
  · rw [row0_z (by omega)]
    unfold dec
    by_cases c2 : i < 20
    · rw [if_pos c2]
      unfold asc
      rw [if_neg c1]
      by_cases c3 : i = 12
      · rw [if_pos c3]
      · rw [if_neg c3]; exact row0_z (by omega)
    · rw [if_neg c2]
      by_cases c4 : i < 95
      · rw [if_pos c4]
        by_cases c5 : (i - 20) % 15 < 7
        · rw [fld_u c5]
        · rw [fld_v (by omega) (by omega)]
      · rw [if_neg c4]
theorem row0_INV : INV row0 0 := by
  have z : ∀ c f, row0 (KI c f) = 0 := fun c f => row0_z (by unfold KI; omega)
  refine ⟨fun k hk => absurd hk (by omega), ⟨?_, ?_, ?_⟩, ⟨by decide, by decide, ?_⟩, fun c hc => by rw [z]; decide, fun k hk => absurd hk (by omega)⟩
  · unfold Vt tot; rw [z, z, z, z, z]; decide
  · unfold Wt tot; simp only [z]; decide
  · decide
  · unfold pot; simp only [z]; decide
/-- the law's rows where it begins -/
def N0s : Nat → Nat → Int32 := setC (setC (setC (setC (setC (setC M0s 0 0 2000) 0 1 240) 0 2 400) 0 3 20) 0 4 1) 0 7 20000
theorem N0s_0 : N0s 0 = row0 := rfl
theorem N0s_r {r : Nat} (h : r ≠ 0) : N0s r = fun _ => 0 := by
  unfold N0s setC
  rw [updA_ne _ h, updA_ne _ h, updA_ne _ h, updA_ne _ h, updA_ne _ h, updA_ne _ h]
  rfl
theorem start_LW : LW 5000 0 0 ((C0s, B0s) : XS) N0s :=
  ⟨M0r, 0, ⟨0, start_XRs⟩, by rw [N0s_0, N0s_r (by decide), N0s_r (by decide), N0s_r (by decide), dec_row0]; rfl, row0_RR, fun k hk => absurd hk (by omega), row0_INV, by decide⟩
theorem law_some {L : Nat} {xs : Nat → Int32} (hL : L ≤ 260) : fL_law L xs ((C0s, B0s) : XS) M0s = some () := by
  have h := start_LW
  obtain ⟨X2, N2, b1, b2⟩ := would_l h (by decide) 0
  have go := law_L (xs := xs) hL 34 0 fuel 0 X2 N2 (by omega) (by unfold fuel; omega) (b2.mono (by decide) (by decide))
  have go' : fL_law_L121 L xs fuel X2 N2 1 0 = some () := go
  show ((fL_areClocks ((C0s, B0s) : XS) N0s).bind fun q13 => (if q13 = 0 then none else (fL_isWater ((C0s, B0s) : XS) N0s).bind fun q15 => (if q15 = 0 then none else (fL_areNumbers ((C0s, B0s) : XS) N0s).bind fun q17 => (if q17 = 0 then none else (fL_would ((C0s, B0s) : XS) N0s (0 : Int32)).bind fun q19 => (if q19.1 = 0 then none else fL_law_L121 L xs fuel q19.2.1 q19.2.2 (1 : Int32) (0 : Int32)))))) = some ()
  rw [areClocks_l h, sb, if_neg n10, isWater_l h, sb, if_neg n10, areNumbers_l h (by decide), sb, if_neg n10, b1, sb, if_neg n10]
  exact go'
