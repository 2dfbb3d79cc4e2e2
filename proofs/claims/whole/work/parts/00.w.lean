-- names a law of the whole library, so that a round over all parts reads the whole library from its first part on
theorem wd_first : True := by
  have _h := @Jvm.Free.Multi.fill_facts
  trivial
