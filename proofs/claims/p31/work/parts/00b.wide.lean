theorem rk_wide : True := by
  have h := @Stand.multianewarray2F
  trivial
