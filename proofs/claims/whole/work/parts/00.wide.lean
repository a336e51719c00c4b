/-! the rows below want the whole library -/
theorem jwide : True := by
  have _ := @Jvm.Stand.multianewarray2F
  trivial
