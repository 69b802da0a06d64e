/-! the rows of two-dimensional arrays are the library's -/
theorem o_mna : True := by
  have := @Jvm.Stand.multianewarray2F
  trivial
