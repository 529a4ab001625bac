/-! names of the whole library: on a new machine the first round finds them wanting and is read over the whole of it -/
theorem xx_wide : True := by
  have _h1 := @Jvm.Stand.thenCaughtThrough
  have _h2 := @Jvm.Stand.outThrough
  trivial
