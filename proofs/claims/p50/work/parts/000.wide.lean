/-- names the rest of the library, over which the constructors are read -/
theorem wd_0 : True := by
  have _h := @Jvm.Free.Multi.fill_old
  trivial
