theorem hm_tst : True := by
  have h := @Jvm.Stand.multianewarray2F
  trivial
