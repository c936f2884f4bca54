/-! what the rows ask of a few of them -/
theorem clockAt_lt {σ : Nat → Int32} {x : Int32} {k : Nat} (h : fS_clockAt σ x = some (some k)) : k < 5 := by
  unfold fS_clockAt at h
  split at h
  · cases h
  · split at h
    · cases h
    · split at h
      · cases h
      · obtain ⟨h1, h2⟩ := gd_some h
        cases h2
        exact inb_lt h1
