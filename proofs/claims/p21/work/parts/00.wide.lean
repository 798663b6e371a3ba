/-- a name of the rest of the library (multianewarray): the round is read over the whole of it from its first part on -/
theorem zz_wide : True := by
  have z := @Jvm.Free.Multi.fill_facts
  trivial
