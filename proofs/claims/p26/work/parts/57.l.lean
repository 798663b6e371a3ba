/-- a key's place in the model's order -/
def od (k : Int32) : Int := if k.toInt < 0 then -2 * k.toInt - 1 else 2 * k.toInt
/-- among the first n keys of f: none sounds, or (b, l) is the least that does, by its place -/
def KB (f : Nat → Int32) (R : Int32 → Int32) (n : Nat) (b l : Int32) : Prop := (b = -104 ∧ ∀ i, i < n → R (f i) < 0) ∨ ∃ j, j < n ∧ b = f j ∧ l = R (f j) ∧ ¬ R (f j) < 0 ∧ ∀ i, i < n → ¬ R (f i) < 0 → l.toInt < (R (f i)).toInt ∨ (l = R (f i) ∧ od (f j) ≤ od (f i))
theorem kk_int {i : Nat} (hi : i < 23) : (kk_ i).toInt = (i : Int) - 11 := by
  unfold kk_
  have e1 := nI_toInt (show i < 2 ^ 31 by omega)
  have e2 : (-11 : Int32).toInt = -11 := by decide
  rw [w_add (by omega) (by omega)]
  omega
def ko_ck (i : Nat) : Bool := decide ((ko i).toInt = if i % 2 = 1 then -((((i + 1) / 2 : Nat)) : Int) else ((i / 2 : Nat) : Int))
theorem ko_all : ck_all ko_ck 23 = true := by decide +kernel
theorem ko_int {i : Nat} (hi : i < 23) : (ko i).toInt = if i % 2 = 1 then -((((i + 1) / 2 : Nat)) : Int) else ((i / 2 : Nat) : Int) := of_decide_eq_true (ck_at ko_all i hi)
theorem kk_ko {i : Nat} (hi : i < 23) : ∃ j, j < 23 ∧ kk_ i = ko j := by
  have e := kk_int hi
  by_cases q : i < 11
  · refine ⟨2 * (11 - i) - 1, by omega, Int32.toInt_inj.mp ?_⟩
    rw [e, ko_int (by omega), if_pos (by omega)]
    omega
  · refine ⟨2 * (i - 11), by omega, Int32.toInt_inj.mp ?_⟩
    rw [e, ko_int (by omega), if_neg (by omega)]
    omega
theorem ko_kk {j : Nat} (hj : j < 23) : ∃ i, i < 23 ∧ ko j = kk_ i := by
  have e := ko_int hj
  by_cases q : j % 2 = 1
  · rw [if_pos q] at e
    refine ⟨11 - (j + 1) / 2, by omega, Int32.toInt_inj.mp ?_⟩
    rw [e, kk_int (by omega)]
    omega
  · rw [if_neg q] at e
    refine ⟨11 + j / 2, by omega, Int32.toInt_inj.mp ?_⟩
    rw [e, kk_int (by omega)]
    omega
theorem od_inj {a b : Int32} (h : od a = od b) : a = b := by
  unfold od at h
  refine Int32.toInt_inj.mp ?_
  split at h <;> split at h <;> omega
theorem KB.one {R : Int32 → Int32} {b b' l l' : Int32} (h1 : KB kk_ R 23 b l) (h2 : KB ko R 23 b' l') : b = b' ∧ (¬ b' = -104 → l = l') := by
  rcases h1 with ⟨e, a⟩ | ⟨j, hj, e1, e2, e3, a⟩
  · rcases h2 with ⟨e', a'⟩ | ⟨j', hj', e1', e2', e3', a'⟩
    · exact ⟨e.trans e'.symm, fun z => absurd e' z⟩
    · obtain ⟨i, hi, ei⟩ := ko_kk hj'
      exact absurd (a i hi) (by rw [← ei]; exact e3')
  · rcases h2 with ⟨e', a'⟩ | ⟨j', hj', e1', e2', e3', a'⟩
    · obtain ⟨i, hi, ei⟩ := kk_ko hj
      exact absurd (a' i hi) (by rw [← ei]; exact e3)
    · obtain ⟨i, hi, ei⟩ := ko_kk hj'
      obtain ⟨i', hi', ei'⟩ := kk_ko hj
      have x := a i hi (by rw [← ei]; exact e3')
      have y := a' i' hi' (by rw [← ei']; exact e3)
      rw [← ei, ← e2'] at x
      rw [← ei', ← e2] at y
      have ll : l = l' := by
        rcases x with x | x
        · rcases y with y | y
          · omega
          · exact y.1.symm
        · exact x.1
      have oo : od (kk_ j) = od (ko j') := by
        rcases x with x | x
        · rw [ll] at x; omega
        · rcases y with y | y
          · rw [ll] at y; omega
          · exact Int.le_antisymm x.2 y.2
      exact ⟨by rw [e1, e1', od_inj oo], fun _ => ll⟩
/-- how many keys go -/
def gn (R : Int32 → Int32) (k : Int32) : Nat := if R k = -2 then 0 else 1
