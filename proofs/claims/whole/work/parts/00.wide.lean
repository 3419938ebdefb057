/-- this claim is read over the whole of the library -/
theorem wide_0 : True := by
  have _ := @Jvm.Stand.multianewarray2F
  trivial
