theorem EvD.ix {mi : MI} {args : List Value} {G : Geo} {h h1 : Hp} {r : Int32} {W : List (Nat × Nat)} (k : EvD mi args G h r h1) (hJ : JW W h h1) : EvI mi args G h (fun r' z => r' = r ∧ z = h1) W := EvM.mono k (fun v G' h' q => by
  obtain ⟨rfl, rfl, rfl⟩ := q
  exact ⟨⟨_, rfl, rfl, rfl⟩, rfl, hJ⟩)
theorem ev_sj (h : Hp) (a m j : Nat) (x : Int32) : ev_set h a m x a j = if j = m then x else h a j := by
  unfold ev_set
  by_cases e : j = m
  · rw [if_pos ⟨rfl, e⟩, if_pos e]
  · rw [if_neg (fun z => e z.2), if_neg e]
theorem B.nI {x : Int32} {u : Nat} (p : B x 0 (u : Int)) : x = nI x.toNatClampNeg ∧ x.toNatClampNeg ≤ u := ⟨p.nat.1, by have := p.nat.2; have := p.2; omega⟩
theorem z_wi_has {q n : Int32} (hn : B n 0 2147483647) : z_wi q 0 (n - 1) = z_has q n := by
  unfold z_wi z_has
  by_cases c : q < 0
  · rw [if_pos c, if_pos c]
  · rw [if_neg c, if_neg c]
    have e1 : (1 : Int32).toInt = 1 := by decide
    have h1 := hn.1
    have h2 := hn.2
    have e := w_sub (x := n) (y := 1) (by omega) (by omega)
    have e2 : (n - 1 < q) ↔ n ≤ q := by
      rw [Int32.lt_iff_toInt_lt, Int32.le_iff_toInt_le, e, e1]
      omega
    by_cases c2 : n ≤ q
    · rw [if_pos c2, if_pos (e2.mpr c2)]
    · rw [if_neg c2, if_neg (fun z => c2 (e2.mp z))]
/-! the text, its tokens -/
abbrev p_let (T : Nat → Int32) (n p : Nat) : Prop := p < n ∧ ¬ T p < 97 ∧ ¬ 122 < T p
abbrev p_fig (T : Nat → Int32) (n p : Nat) : Prop := p < n ∧ ¬ T p < 48 ∧ ¬ 57 < T p
def p_sp (T : Nat → Int32) (n : Nat) : Nat → Nat → Nat
  | 0, p => p
  | k + 1, p => if p < n ∧ T p = 32 then p_sp T n k (p + 1) else p
/-- a chord from p on: its value and its end; none: no such chord -/
def p_ch (T : Nat → Int32) (n : Nat) : Nat → Nat → Int32 → Nat → Option (Int32 × Nat)
  | 0, _, _, _ => none
  | k + 1, p, v, c => if p_let T n p then (if T p - 97 < 12 then (if v >>> ((T p - 97) &&& 31) &&& 1 = 0 then (if c = 5 then none else p_ch T n k (p + 1) (v ||| 1 <<< ((T p - 97) &&& 31)) (c + 1)) else none) else none) else some (v, p)
/-- a number: at most two figures -/
def p_nm (T : Nat → Int32) (n p : Nat) : Option (Int32 × Nat) := if p_fig T n (p + 1) then (if p_fig T n (p + 2) then none else some ((0 * 10 + T p - 48) * 10 + T (p + 1) - 48, p + 2)) else some (0 * 10 + T p - 48, p + 1)
def p_at (T : Nat → Int32) (n q : Nat) : Option (Nat × Int32 × Nat) :=
  if n ≤ q then some (0, 0, q) else
  if p_let T n q then (match p_ch T n 6 q 0 0 with
    | some x => some (1, x.1, x.2)
    | none => none) else
  if p_fig T n q then (match p_nm T n q with
    | some x => some (2, x.1, x.2)
    | none => none) else
  if T q = 46 then some (3, 0, q + 1) else if T q = 40 then some (4, 0, q + 1) else if T q = 41 then some (5, 0, q + 1) else none
/-- the token from p on: its kind (0 the end, 1 a chord, 2 a number, 3 a rest, 4 an open, 5 a close), value, end -/
def p_tok (T : Nat → Int32) (n p : Nat) : Option (Nat × Int32 × Nat) := p_at T n (p_sp T n n p)
theorem if01 {P : Prop} [Decidable P] (h : (if P then (1 : Int32) else 0) = 0) : ¬ P := fun q => by rw [if_pos q] at h; exact absurd h (by decide)
theorem if01n {P : Prop} [Decidable P] (h : ¬ (if P then (1 : Int32) else 0) = 0) : P := Decidable.byContradiction (fun q => h (if_neg q))
theorem nI_le2 {a b : Nat} (ha : a < 2 ^ 31) (hb : b < 2 ^ 31) : nI a ≤ nI b ↔ a ≤ b := by
  rw [Int32.le_iff_toInt_le, nI_toInt ha, nI_toInt hb]
  omega
theorem nI_lt2 {a b : Nat} (ha : a < 2 ^ 31) (hb : b < 2 ^ 31) : nI a < nI b ↔ a < b := by
  rw [Int32.lt_iff_toInt_lt, nI_toInt ha, nI_toInt hb]
  omega
theorem nI_B {a : Nat} {u : Int} (ha : a < 2 ^ 31) (hu : (a : Int) ≤ u) : B (nI a) 0 u := by
  unfold B
  rw [nI_toInt ha]
  omega
theorem nI_160 {a : Nat} (h : a ≤ 160) : B (nI a) 0 160 := nI_B (by omega) (by omega)
theorem nI_25 {a : Nat} (h : a ≤ 25) : B (nI a) 0 25 := nI_B (by omega) (by omega)
theorem nI_4 {a : Nat} (h : a ≤ 4) : B (nI a) 0 4 := nI_B (by omega) (by omega)
theorem nI_60 {a : Nat} (h : a ≤ 60) : B (nI a) 0 60 := nI_B (by omega) (by omega)
theorem nI_xle {a b : Nat} (h : ¬ nI a ≤ nI b) (ha : a < 2 ^ 31) (hb : b < 2 ^ 31) : b < a := Nat.lt_of_not_le (fun z => h ((nI_le2 ha hb).mpr z))
theorem nI_xlt {a b : Nat} (h : ¬ nI a < nI b) (ha : a < 2 ^ 31) (hb : b < 2 ^ 31) : b ≤ a := Nat.le_of_not_lt (fun z => h ((nI_lt2 ha hb).mpr z))
theorem nI_ne_m1 {a : Nat} (ha : a < 2 ^ 31) : ¬ nI a = -1 := fun e => by
  have z := congrArg Int32.toInt e
  rw [nI_toInt ha] at z
  have e1 : (-1 : Int32).toInt = -1 := by decide
  omega
theorem p_wB {T : Nat → Int32} {n p : Nat} (h : p_let T n p) (h2 : T p - 97 < 12) : B (T p - 97) 0 11 := by
  obtain ⟨-, a1, a2⟩ := h
  have z1 := w_nlt a1
  have z2 := w_nlt a2
  have e1 : (97 : Int32).toInt = 97 := by decide
  have e2 : (122 : Int32).toInt = 122 := by decide
  have e3 : (12 : Int32).toInt = 12 := by decide
  have e := w_sub (x := T p) (y := 97) (by omega) (by omega)
  have z3 := w_lt h2
  exact ⟨by omega, by omega⟩
theorem p_vB {T : Nat → Int32} {n p : Nat} {v : Int32} (hv : B v 0 4095) (h : p_let T n p) (h2 : T p - 97 < 12) : B (v ||| 1 <<< ((T p - 97) &&& 31)) 0 4095 := B.or 12 hv (B.shl1 (p_wB h h2) (by decide) (by decide)) (by decide) (by decide) (by decide) (by decide) (by decide)
theorem p_ch_e {T : Nat → Int32} {n : Nat} : ∀ k p v c x, p ≤ n → p_ch T n k p v c = some x → p ≤ x.2 ∧ x.2 ≤ n
  | 0, p, v, c, x, _, h => by unfold p_ch at h; cases h
  | k + 1, p, v, c, x, hp, h => by
    unfold p_ch at h
    split at h
    · rename_i q
      split at h
      · split at h
        · split at h
          · cases h
          · have z := p_ch_e k _ _ _ x (by have := q.1; omega) h
            omega
        · cases h
      · cases h
    · cases h
      exact ⟨Nat.le_refl _, hp⟩
theorem p_ch_1 {T : Nat → Int32} {n k p c : Nat} {v : Int32} {x : Int32 × Nat} (hp : p_let T n p) (h : p_ch T n (k + 1) p v c = some x) : p + 1 ≤ x.2 ∧ x.2 ≤ n := by
  unfold p_ch at h
  rw [if_pos hp] at h
  split at h
  · split at h
    · split at h
      · cases h
      · exact p_ch_e k _ _ _ x (by have := hp.1; omega) h
    · cases h
  · cases h
theorem p_sp_e {T : Nat → Int32} {n : Nat} : ∀ k p, p ≤ n → p ≤ p_sp T n k p ∧ p_sp T n k p ≤ n
  | 0, p, h => ⟨Nat.le_refl _, h⟩
  | k + 1, p, h => by
    unfold p_sp
    split
    · rename_i q
      have z := p_sp_e (T := T) (n := n) k (p + 1) (by omega)
      omega
    · exact ⟨Nat.le_refl _, h⟩
theorem p_tok_e {T : Nat → Int32} {n p : Nat} {t : Nat} {v : Int32} {e : Nat} (hp : p ≤ n) (h : p_tok T n p = some (t, v, e)) : e ≤ n ∧ (¬ t = 0 → p + 1 ≤ e) ∧ t ≤ 5 := by
  have hs := p_sp_e (T := T) n p hp
  unfold p_tok p_at at h
  split at h
  · cases h
    exact ⟨hs.2, fun z => absurd rfl z, by decide⟩
  · rename_i q0
    split at h
    · rename_i q1
      split at h
      · rename_i x hx
        have z := p_ch_1 q1 hx
        cases h
        exact ⟨z.2, fun _ => by omega, by decide⟩
      · cases h
    · split at h
      · rename_i q1
        split at h
        · rename_i x hx
          unfold p_nm at hx
          split at hx
          · rename_i q2
            have := q2.1
            split at hx
            · cases hx
            · cases hx
              cases h
              exact ⟨by omega, fun _ => by omega, by decide⟩
          · cases hx
            cases h
            exact ⟨by omega, fun _ => by omega, by decide⟩
        · cases h
      · split at h
        · cases h
          exact ⟨by omega, fun _ => by omega, by decide⟩
        · split at h
          · cases h
            exact ⟨by omega, fun _ => by omega, by decide⟩
          · split at h
            · cases h
              exact ⟨by omega, fun _ => by omega, by decide⟩
            · cases h
