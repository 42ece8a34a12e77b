/-! A name of the rest of the library, wanted by part 11, asked for ahead of all others. -/
theorem zw_wide : True := by
  have h := @Jvm.Stand.multianewarray2F
  trivial
