/-! The claim is read over the whole library: catching in the law's wrappers wants this law of it -/
theorem ww_wide : True := by
  have := @Stand.thenCaughtThrough
  trivial
