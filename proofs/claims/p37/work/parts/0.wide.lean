/-! the library is wanted whole: said at the very start, so that no part is compiled twice -/
theorem z_wide : True := by
  have _h := @Jvm.Stand.outThrough
  trivial
