/-! the run -/
def p_up (f : Nat → Int32) (i : Nat) (x : Int32) : Nat → Int32 := fun j => if j = i then x else f j
def p_un (f : Nat → Nat) (i x : Nat) : Nat → Nat := fun j => if j = i then x else f j
def p_cp (o : Nat) : Nat → Nat → (Nat → Int32) → (Nat → Int32)
  | 0, _, r => r
  | t + 1, i, r => p_cp o t (i + 1) (p_up r i (r (i - o)))
def p_mn (m : Nat) : Nat := if m < 25 then m + 1 else 25
def p_ad (r : Nat → Int32) (m : Nat) (c : Int32) : Nat → Int32 := if m < 24 then p_up r m c else r
def p_all (m b x : Nat) : Nat := b + (m - b) * x
/-- where the run stands: place, what may stand next (0 an item, 1 more, 2 an open), the number just taken, beats (25: too many), row, depth, begins, rounds -/
abbrev PS : Type := Nat × Nat × Nat × Nat × (Nat → Int32) × Nat × (Nat → Nat) × (Nat → Nat)
def p_stp (o : Option (Nat × Int32 × Nat)) (w v m : Nat) (r : Nat → Int32) (d : Nat) (bg rd : Nat → Nat) : Option ((Nat × (Nat → Int32)) ⊕ PS) := match o with
  | none => none
  | some x =>
    if w = 2 then (if x.1 = 4 then (if d < 4 then some (.inr (x.2.2, 0, 0, m, r, d + 1, p_un bg d m, p_un rd d v)) else none) else none) else
    if x.1 = 1 then some (.inr (x.2.2, 1, 0, p_mn m, p_ad r m x.2.1, d, bg, rd)) else
    if x.1 = 3 then some (.inr (x.2.2, 1, 0, p_mn m, p_ad r m 0, d, bg, rd)) else
    if x.1 = 2 then (if z_wi x.2.1 1 20 = 0 then none else some (.inr (x.2.2, 2, x.2.1.toNatClampNeg, m, r, d, bg, rd))) else
    if x.1 = 5 then (if w = 1 ∧ 0 < d then (if 24 < m ∨ 24 < p_all m (bg (d - 1)) (rd (d - 1)) then some (.inr (x.2.2, 1, 0, 25, r, d - 1, bg, rd)) else some (.inr (x.2.2, 1, 0, p_all m (bg (d - 1)) (rd (d - 1)), p_cp (m - bg (d - 1)) (p_all m (bg (d - 1)) (rd (d - 1)) - m) m r, d - 1, bg, rd))) else none) else
    if x.1 = 0 then (if w = 1 ∧ d = 0 then (if m ≤ 24 then some (.inl (m, r)) else none) else none) else none
def p_run (T : Nat → Int32) (n : Nat) : Nat → PS → Option (Nat × (Nat → Int32))
  | 0, _ => none
  | k + 1, (p, w, v, m, r, d, bg, rd) => match p_stp (p_tok T n p) w v m r d bg rd with
    | none => none
    | some (.inl x) => some x
    | some (.inr s) => p_run T n k s
theorem p_run_n {T : Nat → Int32} {n k p w v m d : Nat} {r : Nat → Int32} {bg rd : Nat → Nat} (e : p_stp (p_tok T n p) w v m r d bg rd = none) : p_run T n (k + 1) (p, w, v, m, r, d, bg, rd) = none := by
  unfold p_run
  rw [e]
theorem p_run_l {T : Nat → Int32} {n k p w v m d : Nat} {r : Nat → Int32} {bg rd : Nat → Nat} {x : Nat × (Nat → Int32)} (e : p_stp (p_tok T n p) w v m r d bg rd = some (.inl x)) : p_run T n (k + 1) (p, w, v, m, r, d, bg, rd) = some x := by
  unfold p_run
  rw [e]
theorem p_run_r {T : Nat → Int32} {n k p w v m d : Nat} {r : Nat → Int32} {bg rd : Nat → Nat} {s : PS} (e : p_stp (p_tok T n p) w v m r d bg rd = some (.inr s)) : p_run T n (k + 1) (p, w, v, m, r, d, bg, rd) = p_run T n k s := by
  conv => lhs; unfold p_run
  rw [e]
/-- what holds of a standing -/
def PI (w v m d : Nat) (bg rd : Nat → Nat) : Prop := w ≤ 2 ∧ m ≤ 25 ∧ d ≤ 4 ∧ (w = 2 → 1 ≤ v ∧ v ≤ 20) ∧ ∀ i, i < d → bg i ≤ m ∧ 1 ≤ rd i ∧ rd i ≤ 20
theorem p_mn_le (m : Nat) (h : m ≤ 25) : m ≤ p_mn m ∧ p_mn m ≤ 25 := by
  unfold p_mn
  split <;> omega
theorem p_all_ge {m b x : Nat} (hb : b ≤ m) (hx : 1 ≤ x) : m ≤ p_all m b x := by
  unfold p_all
  have : (m - b) * 1 ≤ (m - b) * x := Nat.mul_le_mul_left _ hx
  omega
theorem p_all_le {m b x : Nat} (hb : b ≤ m) (hm : m ≤ 25) (hx : x ≤ 20) : p_all m b x ≤ 600 := by
  unfold p_all
  have h1 : (m - b) * x ≤ (m - b) * 20 := Nat.mul_le_mul_left _ hx
  omega
theorem z_num {x : Int32} (h : ¬ z_wi x 1 20 = 0) : x = nI x.toNatClampNeg ∧ 1 ≤ x.toNatClampNeg ∧ x.toNatClampNeg ≤ 20 := by
  have p : B x 1 20 := z_wi_B (by decide : B 1 1 1) (by decide : B 20 20 20) h
  have p0 : B x 0 ((20 : Nat) : Int) := ⟨by have := p.1; omega, p.2⟩
  have e := (B.nI p0).1
  have l := (B.nI p0).2
  refine ⟨e, ?_, l⟩
  have z := p.1
  rw [e, nI_toInt (by omega)] at z
  omega
theorem PI.stp {T : Nat → Int32} {n p w v m d : Nat} {r : Nat → Int32} {bg rd : Nat → Nat} {p' w' v' m' d' : Nat} {r' : Nat → Int32} {bg' rd' : Nat → Nat} (hp : p ≤ n) (h : PI w v m d bg rd) (e : p_stp (p_tok T n p) w v m r d bg rd = some (.inr (p', w', v', m', r', d', bg', rd'))) : PI w' v' m' d' bg' rd' ∧ p + 1 ≤ p' ∧ p' ≤ n := by
  obtain ⟨h1, h2, h3, h4, h5⟩ := h
  cases et : p_tok T n p with
  | none => rw [et] at e; cases e
  | some x =>
    rw [et] at e
    obtain ⟨t, xv, xe⟩ := x
    have he := p_tok_e hp et
    unfold p_stp at e
    dsimp only at e
    split at e
    · rename_i hw
      split at e
      · rename_i ht
        split at e
        · rename_i hd
          cases e
          refine ⟨⟨by omega, h2, by omega, fun z => absurd z (by decide), fun i hi => ?_⟩, he.2.1 (by omega), he.1⟩
          unfold p_un
          by_cases q : i = d
          · rw [if_pos q, if_pos q]
            have := h4 hw
            omega
          · rw [if_neg q, if_neg q]
            exact h5 i (by omega)
        · cases e
      · cases e
    · split at e
      · rename_i ht
        cases e
        have := p_mn_le m h2
        refine ⟨⟨by omega, by omega, h3, fun z => absurd z (by decide), fun i hi => ?_⟩, he.2.1 (by omega), he.1⟩
        have := h5 i hi
        omega
      · split at e
        · rename_i ht
          cases e
          have := p_mn_le m h2
          refine ⟨⟨by omega, by omega, h3, fun z => absurd z (by decide), fun i hi => ?_⟩, he.2.1 (by omega), he.1⟩
          have := h5 i hi
          omega
        · split at e
          · rename_i ht
            split at e
            · cases e
            · rename_i hz
              cases e
              exact ⟨⟨by omega, h2, h3, fun _ => (z_num hz).2, h5⟩, he.2.1 (by omega), he.1⟩
          · split at e
            · rename_i ht
              split at e
              · rename_i hc
                have h6 := h5 (d - 1) (by omega)
                have h7 := p_all_ge h6.1 h6.2.1
                split at e
                · cases e
                  refine ⟨⟨by omega, by omega, by omega, fun z => absurd z (by decide), fun i hi => ?_⟩, he.2.1 (by omega), he.1⟩
                  have := h5 i (by omega)
                  omega
                · rename_i hl
                  cases e
                  refine ⟨⟨by omega, by omega, by omega, fun z => absurd z (by decide), fun i hi => ?_⟩, he.2.1 (by omega), he.1⟩
                  have := h5 i (by omega)
                  omega
              · cases e
            · split at e
              · split at e
                · split at e
                  · cases e
                  · cases e
                · cases e
              · cases e
