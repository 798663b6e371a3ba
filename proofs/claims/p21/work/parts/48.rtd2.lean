/-- the order of openAt -/
def RM (m : Hp) : Prop := (0 < (m 63 31).toInt → (m 76 0).toInt ≤ (m 63 27).toInt) ∧ (1 < (m 63 31).toInt → (m 76 0).toInt ≤ (m 76 1).toInt ∧ (m 76 1).toInt ≤ (m 63 27).toInt) ∧ (2 < (m 63 31).toInt → (m 76 1).toInt ≤ (m 76 2).toInt ∧ (m 76 2).toInt ≤ (m 63 27).toInt) ∧ (3 < (m 63 31).toInt → (m 76 2).toInt ≤ (m 76 3).toInt ∧ (m 76 3).toInt ≤ (m 63 27).toInt)
theorem RM.zero {m : Hp} (e : m 63 31 = 0) : RM m := by
  have z := congrArg Int32.toInt e
  have zl : (0 : Int32).toInt = 0 := by decide
  refine ⟨fun q => ?_, fun q => ?_, fun q => ?_, fun q => ?_⟩ <;> exact absurd q (by omega)
theorem RM.call {W : List (Nat × Nat)} {m m1 : Hp} (h : RM m) (hJ : JW W m m1) (h1 : wm W 63 27 = false) (h2 : wm W 63 31 = false) (h3 : ∀ j, wm W 76 j = false) : RM m1 := by
  unfold RM
  rw [hJ.2 63 27 h1, hJ.2 63 31 h2, hJ.2 76 0 (h3 0), hJ.2 76 1 (h3 1), hJ.2 76 2 (h3 2), hJ.2 76 3 (h3 3)]
  exact h

