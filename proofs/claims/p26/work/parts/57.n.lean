theorem nI_m1 (t : Nat) : nI (t + 1) - 1 = nI t := by
  rw [← nI_1, Int32.add_sub_cancel]
theorem nI_nn {t : Nat} (ht : t < 2 ^ 31) : ¬ nI t < 0 := fun z => by
  have y := w_lt z
  have e0 : (0 : Int32).toInt = 0 := by decide
  rw [nI_toInt ht] at y
  omega
