/-! a law of floats is named early, as the rows behind want some -/
theorem wide_touch : True := by
  have := @FP.Core.whole_round
  trivial
