/-! ===== named first, so that a new machine reads the whole library at once ===== -/
theorem wide_0 : True := by
  have := @Jvm.FP.Core.good_b32
  trivial
