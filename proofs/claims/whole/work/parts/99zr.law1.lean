/-! LAW: exchanged Terms -/
theorem swB_2 (b : Bool) (N : Nm) : (swB b N).2.2 = N.2.2 := by
  unfold swB
  split
  · rfl
  · rfl
theorem swB_1 (b : Bool) (N : Nm) : (swB b N).1 0 = N.1 0 := by
  unfold swB
  split
  · rfl
  · rfl
