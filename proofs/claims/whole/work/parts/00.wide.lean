theorem wide_0 : True := by
  have _ := @Jvm.Stand.thenCaughtThrough
  trivial
