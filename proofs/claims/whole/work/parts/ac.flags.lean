/-! the launch keeps no stack traces -/
theorem dw_nt {l : Launch} (h : l.flags = flags0) : l.stackTraces = false := by
  unfold Launch.stackTraces
  rw [h]
  first
    | rfl
    | decide
    | decide +kernel
