theorem w0_wide : True := by
  have := @Jvm.Stand.outThrough
  trivial
