/-! SET, pure: parts of a chord as numbers, the best part, the table, the way through it -/
theorem q_subp : ∀ (n p x y : Nat), p ≤ n → y &&& x = y → p &&& x = p → y < p → y ≤ (p - 1) &&& x
  | 0, p, x, y, hn, _, _, hl => absurd hl (by omega)
  | n + 1, p, x, y, hn, hy, hp, hl => by
    have dy : y / 2 &&& x / 2 = y / 2 := by rw [← Nat.and_div_two, hy]
    have dp : p / 2 &&& x / 2 = p / 2 := by rw [← Nat.and_div_two, hp]
    have dq : ((p - 1) &&& x) / 2 = (p - 1) / 2 &&& x / 2 := Nat.and_div_two
    by_cases o : p % 2 = 1
    · rw [show (p - 1) / 2 = p / 2 by omega, dp] at dq
      generalize (p - 1) &&& x = q at *
      omega
    · rw [show (p - 1) / 2 = p / 2 - 1 by omega] at dq
      have ih := q_subp n (p / 2) (x / 2) (y / 2) (by omega) dy dp (by omega)
      have b : y % 2 = 1 → ((p - 1) &&& x) % 2 = 1 := fun q => by
        rw [Nat.and_mod_two_eq_one]
        rw [← hy] at q
        exact ⟨by omega, (Nat.and_mod_two_eq_one.mp q).2⟩
      rw [← dq] at ih
      generalize (p - 1) &&& x = q at *
      omega
theorem q_andle {y x : Nat} (h : y &&& x = y) : y ≤ x := by
  have := Nat.and_le_right (n := y) (m := x)
  rw [h] at this
  exact this
/-- the k-th part of x, the greatest first -/
def sbm (x : Nat) : Nat → Nat
  | 0 => x
  | k + 1 => (sbm x k - 1) &&& x
theorem sbm_sub (x : Nat) : ∀ k, sbm x k &&& x = sbm x k
  | 0 => Nat.and_self x
  | k + 1 => by unfold sbm; rw [Nat.and_assoc, Nat.and_self]
theorem sbm_le (x k : Nat) : sbm x k ≤ x := q_andle (sbm_sub x k)
theorem sbm_p (x k : Nat) : sbm x (k + 1) ≤ sbm x k - 1 := Nat.and_le_left
theorem sbm_anti (x j : Nat) : ∀ t, sbm x (j + t) ≤ sbm x j
  | 0 => Nat.le_refl _
  | t + 1 => by
    have a := sbm_anti x j t
    have b := sbm_p x (j + t)
    show sbm x (j + t + 1) ≤ sbm x j
    omega
theorem sbm_dec {x j k : Nat} (h : j < k) (h0 : sbm x j ≠ 0) : sbm x k < sbm x j := by
  have a := sbm_anti x (j + 1) (k - (j + 1))
  rw [show j + 1 + (k - (j + 1)) = k by omega] at a
  have b := sbm_p x j
  omega
theorem sbm_mono {x j k : Nat} (h : j ≤ k) : sbm x k ≤ sbm x j := by
  have a := sbm_anti x j (k - j)
  rw [show j + (k - j) = k by omega] at a
  exact a
theorem sbm_z {x j k : Nat} (h : j ≤ k) (h0 : sbm x j = 0) : sbm x k = 0 := by
  have := sbm_mono (x := x) h
  omega
theorem sbm_end (x : Nat) : ∀ k, sbm x k + k ≤ x ∨ sbm x k = 0
  | 0 => Or.inl (Nat.le_refl _)
  | k + 1 => by
    have := sbm_p x k
    rcases sbm_end x k with h | h <;> omega
theorem sbm_last (x : Nat) : sbm x x = 0 := by
  rcases sbm_end x x with h | h <;> omega
theorem sbm_find {x y : Nat} (hy : y &&& x = y) : ∀ k, (∃ j, j ≤ k ∧ sbm x j = y) ∨ y < sbm x k
  | 0 => by
    have := q_andle hy
    by_cases e : x = y
    · exact Or.inl ⟨0, Nat.le_refl _, e⟩
    · right; show y < x; omega
  | k + 1 => by
    rcases sbm_find hy k with ⟨j, hj, e⟩ | h
    · exact Or.inl ⟨j, by omega, e⟩
    · have a := q_subp (sbm x k) (sbm x k) x y (Nat.le_refl _) hy (sbm_sub x k) h
      by_cases e : sbm x (k + 1) = y
      · exact Or.inl ⟨k + 1, Nat.le_refl _, e⟩
      · right
        show y < (sbm x k - 1) &&& x
        have e2 : ¬ (sbm x k - 1) &&& x = y := e
        omega
theorem sbm_all {x y k : Nat} (hy : y &&& x = y) (h0 : sbm x k = 0) : ∃ j, j ≤ k ∧ sbm x j = y := by
  rcases sbm_find hy k with h | h
  · exact h
  · omega
/-! the best part -/
def q_bst (f : Nat → Nat) (al : Nat) : Nat → Nat
  | 0 => 0
  | n + 1 => if (n + 1) &&& al = n + 1 ∧ f (q_bst f al n) ≤ f (n + 1) then n + 1 else q_bst f al n
abbrev q_bsx (f : Nat → Nat) (al : Nat) : Nat := q_bst f al al
theorem q_bst_sub (f : Nat → Nat) (al : Nat) : ∀ n, q_bst f al n &&& al = q_bst f al n ∧ q_bst f al n ≤ n
  | 0 => ⟨Nat.zero_and al, Nat.le_refl _⟩
  | n + 1 => by
    have ih := q_bst_sub f al n
    unfold q_bst
    split
    · rename_i q; exact ⟨q.1, Nat.le_refl _⟩
    · exact ⟨ih.1, by omega⟩
theorem q_bst_max (f : Nat → Nat) (al : Nat) : ∀ n y, y ≤ n → y &&& al = y → f y < f (q_bst f al n) ∨ (f y = f (q_bst f al n) ∧ y ≤ q_bst f al n)
  | 0, y, hy, _ => by
    have e : y = 0 := by omega
    subst e
    exact Or.inr ⟨rfl, Nat.le_refl _⟩
  | n + 1, y, hy, hs => by
    have l := (q_bst_sub f al n).2
    unfold q_bst
    split
    · rename_i q
      by_cases e : y = n + 1
      · subst e; exact Or.inr ⟨rfl, Nat.le_refl _⟩
      · have ih := q_bst_max f al n y (by omega) hs
        have q2 := q.2
        rcases ih with h | h
        · exact Or.inl (by omega)
        · by_cases g : f (q_bst f al n) = f (n + 1)
          · exact Or.inr ⟨by omega, by omega⟩
          · exact Or.inl (by omega)
    · rename_i q
      by_cases e : y = n + 1
      · subst e
        have : ¬ f (q_bst f al n) ≤ f (n + 1) := fun z => q ⟨hs, z⟩
        exact Or.inl (by omega)
      · exact q_bst_max f al n y (by omega) hs
theorem q_bsx_one {f : Nat → Nat} {al x : Nat} (hx : x &&& al = x) (h : ∀ y, y &&& al = y → f y < f x ∨ (f y = f x ∧ y ≤ x)) : x = q_bsx f al := by
  have a := h _ (q_bst_sub f al al).1
  have b := q_bst_max f al al x (q_andle hx) hx
  show x = q_bst f al al
  omega
theorem q_bst_cg {f g : Nat → Nat} {al : Nat} (h : ∀ y z, f y ≤ f z ↔ g y ≤ g z) : ∀ n, q_bst f al n = q_bst g al n
  | 0 => rfl
  | n + 1 => by
    have ih := q_bst_cg (al := al) h n
    unfold q_bst
    rw [ih]
    by_cases q : (n + 1) &&& al = n + 1
    · by_cases p : f (q_bst g al n) ≤ f (n + 1)
      · rw [if_pos ⟨q, p⟩, if_pos ⟨q, (h _ _).mp p⟩]
      · rw [if_neg (fun z => p z.2), if_neg (fun z => p ((h _ _).mpr z.2))]
    · rw [if_neg (fun z => q z.1), if_neg (fun z => q z.1)]
theorem q_bst_ext {f g : Nat → Nat} {al : Nat} (h : ∀ y, f y = g y) (n : Nat) : q_bst f al n = q_bst g al n := q_bst_cg (fun y z => by rw [h, h]) n
/-! what the class's loop over the options has found behind k of them: 0, or the best one's place and one -/
def q_cbx (f : Nat → Nat) (c a : Nat) : Nat → Nat
  | 0 => 0
  | k + 1 => if sbm c k &&& a = sbm c k ∧ (q_cbx f c a k = 0 ∨ f (sbm c (q_cbx f c a k - 1)) < f (sbm c k)) then k + 1 else q_cbx f c a k
theorem q_cbx_sp (f : Nat → Nat) (c a : Nat) : ∀ k, q_cbx f c a k ≤ k ∧ (q_cbx f c a k = 0 → ∀ j, j < k → ¬ sbm c j &&& a = sbm c j) ∧ (q_cbx f c a k ≠ 0 → sbm c (q_cbx f c a k - 1) &&& a = sbm c (q_cbx f c a k - 1) ∧ ∀ j, j < k → sbm c j &&& a = sbm c j → f (sbm c j) < f (sbm c (q_cbx f c a k - 1)) ∨ (f (sbm c j) = f (sbm c (q_cbx f c a k - 1)) ∧ q_cbx f c a k - 1 ≤ j))
  | 0 => ⟨Nat.le_refl _, fun _ j hj => absurd hj (Nat.not_lt_zero _), fun h => absurd rfl h⟩
  | k + 1 => by
    obtain ⟨i1, i2, i3⟩ := q_cbx_sp f c a k
    unfold q_cbx
    by_cases q : sbm c k &&& a = sbm c k ∧ (q_cbx f c a k = 0 ∨ f (sbm c (q_cbx f c a k - 1)) < f (sbm c k))
    · rw [if_pos q]
      refine ⟨Nat.le_refl _, fun h => absurd h (by omega), fun _ => ⟨q.1, fun j hj hp => ?_⟩⟩
      rw [Nat.add_sub_cancel]
      by_cases e : j = k
      · subst e; exact Or.inr ⟨rfl, Nat.le_refl _⟩
      · rcases q.2 with z | z
        · exact absurd hp (i2 z j (by omega))
        · by_cases z0 : q_cbx f c a k = 0
          · exact absurd hp (i2 z0 j (by omega))
          · rcases (i3 z0).2 j (by omega) hp with y | y
            · exact Or.inl (by omega)
            · exact Or.inl (by omega)
    · rw [if_neg q]
      refine ⟨by omega, fun h j hj hp => ?_, fun h => ⟨(i3 h).1, fun j hj hp => ?_⟩⟩
      · by_cases e : j = k
        · subst e; exact q ⟨hp, Or.inl h⟩
        · exact i2 h j (by omega) hp
      · by_cases e : j = k
        · subst e
          have n : ¬ f (sbm c (q_cbx f c a j - 1)) < f (sbm c j) := fun z => q ⟨hp, Or.inr z⟩
          by_cases g : f (sbm c j) = f (sbm c (q_cbx f c a j - 1))
          · exact Or.inr ⟨g, by omega⟩
          · exact Or.inl (by omega)
        · exact (i3 h).2 j (by omega) hp
theorem q_and3 (y c a : Nat) : y &&& (c &&& a) = y ↔ (y &&& c = y ∧ y &&& a = y) := by
  constructor
  · intro h
    have h1 : y &&& c = y := by
      conv => lhs; rw [← h]
      rw [Nat.and_assoc, Nat.and_comm (c &&& a) c, ← Nat.and_assoc c c a, Nat.and_self, h]
    have h2 : y &&& a = y := by
      conv => lhs; rw [← h]
      rw [Nat.and_assoc, Nat.and_assoc c a a, Nat.and_self, h]
    exact ⟨h1, h2⟩
  · rintro ⟨h1, h2⟩
    rw [← Nat.and_assoc, h1, h2]
theorem q_cbx_end {f : Nat → Nat} {c a n : Nat} (h0 : sbm c n = 0) : q_cbx f c a (n + 1) ≠ 0 ∧ q_cbx f c a (n + 1) ≤ n + 1 ∧ sbm c (q_cbx f c a (n + 1) - 1) = q_bsx f (c &&& a) := by
  obtain ⟨i1, i2, i3⟩ := q_cbx_sp f c a (n + 1)
  have ne : q_cbx f c a (n + 1) ≠ 0 := fun z => i2 z n (by omega) (by rw [h0]; exact Nat.zero_and a)
  obtain ⟨j1, j2⟩ := i3 ne
  refine ⟨ne, i1, q_bsx_one ((q_and3 _ _ _).mpr ⟨sbm_sub c _, j1⟩) (fun y hy => ?_)⟩
  obtain ⟨h1, h2⟩ := (q_and3 _ _ _).mp hy
  obtain ⟨j, hj, rfl⟩ := sbm_all h1 h0
  rcases j2 j (by omega) h2 with z | z
  · exact Or.inl z
  · exact Or.inr ⟨z.1, sbm_mono z.2⟩
/-- the greatest worth among the first k options -/
def q_mxo (f : Nat → Nat) (c a : Nat) : Nat → Nat
  | 0 => 0
  | k + 1 => if sbm c k &&& a = sbm c k then max (q_mxo f c a k) (f (sbm c k)) else q_mxo f c a k
theorem q_mxo_ge (f : Nat → Nat) (c a : Nat) : ∀ k j, j < k → sbm c j &&& a = sbm c j → f (sbm c j) ≤ q_mxo f c a k
  | 0, j, hj, _ => absurd hj (Nat.not_lt_zero _)
  | k + 1, j, hj, hp => by
    unfold q_mxo
    by_cases e : j = k
    · subst e
      rw [if_pos hp]
      exact Nat.le_max_right _ _
    · have := q_mxo_ge f c a k j (by omega) hp
      split
      · exact Nat.le_trans this (Nat.le_max_left _ _)
      · exact this
theorem q_mxo_le (f : Nat → Nat) (c a v : Nat) (h : ∀ j, sbm c j &&& a = sbm c j → f (sbm c j) ≤ v) : ∀ k, q_mxo f c a k ≤ v
  | 0 => Nat.zero_le _
  | k + 1 => by
    have ih := q_mxo_le f c a v h k
    unfold q_mxo
    split
    · rename_i q
      exact Nat.max_le.mpr ⟨ih, h k q⟩
    · exact ih
theorem q_mxo_end {f : Nat → Nat} {c a n : Nat} (h0 : sbm c n = 0) : q_mxo f c a (n + 1) = f (q_bsx f (c &&& a)) := by
  refine Nat.le_antisymm (q_mxo_le f c a _ (fun j hj => ?_) _) ?_
  · have m := q_bst_max f (c &&& a) (c &&& a) (sbm c j) (q_andle ((q_and3 _ _ _).mpr ⟨sbm_sub c j, hj⟩)) ((q_and3 _ _ _).mpr ⟨sbm_sub c j, hj⟩)
    show f (sbm c j) ≤ f (q_bst f (c &&& a) (c &&& a))
    omega
  · obtain ⟨h1, h2⟩ := (q_and3 _ _ _).mp (q_bst_sub f (c &&& a) (c &&& a)).1
    obtain ⟨j, hj, e⟩ := sbm_all h1 h0
    have g := q_mxo_ge f c a (n + 1) j (by omega) (by rw [e]; exact h2)
    rw [e] at g
    exact g
/-- what the model's loop has found behind k parts -/
def q_mbx (f : Nat → Nat) (al : Nat) : Nat → Nat
  | 0 => al
  | k + 1 => if f (q_mbx f al k) < f (sbm al k) then sbm al k else q_mbx f al k
theorem q_mbx_sp (f : Nat → Nat) (al : Nat) : ∀ k, q_mbx f al k &&& al = q_mbx f al k ∧ sbm al k ≤ q_mbx f al k ∧ ∀ j, j < k → f (sbm al j) < f (q_mbx f al k) ∨ (f (sbm al j) = f (q_mbx f al k) ∧ sbm al j ≤ q_mbx f al k)
  | 0 => ⟨Nat.and_self al, Nat.le_refl _, fun j hj => absurd hj (Nat.not_lt_zero _)⟩
  | k + 1 => by
    obtain ⟨i1, i2, i3⟩ := q_mbx_sp f al k
    have p := sbm_p al k
    unfold q_mbx
    split
    · rename_i q
      refine ⟨sbm_sub al k, by omega, fun j hj => ?_⟩
      by_cases e : j = k
      · subst e; exact Or.inr ⟨rfl, Nat.le_refl _⟩
      · rcases i3 j (by omega) with z | z
        · exact Or.inl (by omega)
        · exact Or.inl (by omega)
    · rename_i q
      refine ⟨i1, by omega, fun j hj => ?_⟩
      by_cases e : j = k
      · subst e
        by_cases g : f (sbm al j) = f (q_mbx f al j)
        · exact Or.inr ⟨g, i2⟩
        · exact Or.inl (by omega)
      · exact i3 j (by omega)
theorem q_mbx_end {f : Nat → Nat} {al n : Nat} (h0 : sbm al n = 0) : q_mbx f al (n + 1) = q_bsx f al := by
  obtain ⟨i1, i2, i3⟩ := q_mbx_sp f al (n + 1)
  refine q_bsx_one i1 (fun y hy => ?_)
  obtain ⟨j, hj, rfl⟩ := sbm_all hy h0
  exact i3 j (by omega)
/-! how many whistles -/
def q_ptc (x : Nat) : Nat → Nat
  | 0 => 0
  | n + 1 => q_ptc x n + (if x.testBit n then 1 else 0)
def q_pop (x : Nat) : Nat := q_ptc x 12
theorem q_ptc_le (x : Nat) : ∀ n, q_ptc x n ≤ n
  | 0 => Nat.le_refl _
  | n + 1 => by
    have := q_ptc_le x n
    unfold q_ptc
    split <;> omega
theorem q_pop_le (x : Nat) : q_pop x ≤ 12 := q_ptc_le x 12
theorem q_bitadd {x w : Nat} (hx : x < 2 ^ w) (j : Nat) : (x + 2 ^ w).testBit j = if j = w then true else x.testBit j := by
  rw [Nat.add_comm]
  by_cases e : j = w
  · subst e
    rw [if_pos rfl, Nat.testBit_two_pow_add_eq, Nat.testBit_lt_two_pow hx]
    rfl
  · rw [if_neg e]
    by_cases l : j < w
    · exact Nat.testBit_two_pow_add_gt l x
    · have h1 : 2 ^ (w + 1) ≤ 2 ^ j := Nat.pow_le_pow_right (by decide) (by omega)
      have h2 : 2 ^ w ≤ 2 ^ j := Nat.pow_le_pow_right (by decide) (by omega)
      rw [Nat.pow_succ] at h1
      rw [Nat.testBit_lt_two_pow (by omega), Nat.testBit_lt_two_pow (by omega)]
theorem q_ptc_add {x w : Nat} (hx : x < 2 ^ w) : ∀ n, q_ptc (x + 2 ^ w) n = q_ptc x n + (if w < n then 1 else 0)
  | 0 => rfl
  | n + 1 => by
    unfold q_ptc
    rw [q_ptc_add hx n, q_bitadd hx n]
    by_cases e : n = w
    · subst e
      rw [if_neg (Nat.lt_irrefl _), if_pos rfl, if_pos rfl, if_pos (Nat.lt_succ_self _), Nat.testBit_lt_two_pow hx]
      rfl
    · rw [if_neg e]
      by_cases l : w < n
      · rw [if_pos l, if_pos (show w < n + 1 by omega)]; omega
      · rw [if_neg l, if_neg (show ¬ w < n + 1 by omega)]; omega
theorem q_pop_add {x w : Nat} (hw : w < 12) (hx : x < 2 ^ w) : q_pop (x + 2 ^ w) = q_pop x + 1 := by
  unfold q_pop
  rw [q_ptc_add hx, if_pos hw]
/-! the table -/
def q_wr (K : Nat) (N : Nat → Nat → Nat) (F : Nat → Nat) (p y : Nat) : Nat := K * q_pop y + F (N p y)
def q_vS (K : Nat) (N : Nat → Nat → Nat) (F : Nat → Nat) (p al : Nat) : Nat := q_wr K N F p (q_bsx (q_wr K N F p) al)
def q_nx (K : Nat) (N : Nat → Nat → Nat) (F : Nat → Nat → Nat) (A : Nat → Nat) : Nat → Nat → Nat
  | 0, p => q_vS K N (F 0) p (A p)
  | r + 1, p => max (q_vS K N (F (r + 1)) p (A p)) (q_nx K N F A r (N p 0) - 1)
def q_TT (K : Nat) (N : Nat → Nat → Nat) (A : Nat → Nat → Nat) : Nat → Nat → Nat → Nat → Nat
  | 0, _ => fun _ _ => 0
  | t + 1, i => q_nx K N (q_TT K N A t (i + 1)) (A i)
/-- a is 9 times the whistles less the rests, b 16 times -/
def q_LX (r a b : Nat) : Prop := ∃ s q, q ≤ r ∧ a + q = 9 * s ∧ b + q = 16 * s
theorem q_LX.le {r r' a b a' b' : Nat} (h : q_LX r a b) (h' : q_LX r' a' b') (hr : r ≤ 8) (hr' : r' ≤ 8) : a ≤ a' ↔ b ≤ b' := by
  obtain ⟨s, q, q1, q2, q3⟩ := h
  obtain ⟨s', q', p1, p2, p3⟩ := h'
  omega
theorem q_lmax {r a b a' b' : Nat} (h : q_LX r a b) (h' : q_LX r a' b') (hr : r ≤ 8) : q_LX r (max a a') (max b b') := by
  have l := h.le h' hr hr
  by_cases c : a ≤ a'
  · rw [Nat.max_eq_right c, Nat.max_eq_right (l.mp c)]; exact h'
  · have c2 : ¬ b ≤ b' := fun z => c (l.mpr z)
    rw [Nat.max_eq_left (by omega), Nat.max_eq_left (by omega)]; exact h
theorem q_LX.m1 {r a b : Nat} (h : q_LX r a b) (hr : r ≤ 8) : q_LX (r + 1) (a - 1) (b - 1) := by
  obtain ⟨s, q, q1, q2, q3⟩ := h
  by_cases e : s = 0
  · exact ⟨0, 0, by omega, by omega, by omega⟩
  · exact ⟨s, q + 1, by omega, by omega, by omega⟩
theorem q_LX.up {r r' a b : Nat} (h : q_LX r a b) (l : r ≤ r') : q_LX r' a b := by
  obtain ⟨s, q, q1, q2, q3⟩ := h
  exact ⟨s, q, by omega, q2, q3⟩
theorem q_lwr {r p : Nat} {N : Nat → Nat → Nat} {F G : Nat → Nat} (h : ∀ p, q_LX r (F p) (G p)) (y : Nat) : q_LX r (q_wr 9 N F p y) (q_wr 16 N G p y) := by
  obtain ⟨s, q, q1, q2, q3⟩ := h (N p y)
  unfold q_wr
  exact ⟨s + q_pop y, q, q1, by omega, by omega⟩
theorem q_lbst {r p : Nat} {N : Nat → Nat → Nat} {F G : Nat → Nat} (h : ∀ p, q_LX r (F p) (G p)) (hr : r ≤ 8) (al n : Nat) : q_bst (q_wr 9 N F p) al n = q_bst (q_wr 16 N G p) al n := q_bst_cg (fun y z => (q_lwr h y).le (q_lwr h z) hr hr) n
theorem q_lvS {r p al : Nat} {N : Nat → Nat → Nat} {F G : Nat → Nat} (h : ∀ p, q_LX r (F p) (G p)) (hr : r ≤ 8) : q_LX r (q_vS 9 N F p al) (q_vS 16 N G p al) := by
  unfold q_vS q_bsx
  rw [q_lbst h hr]
  exact q_lwr h _
theorem q_lnx {N : Nat → Nat → Nat} {F G : Nat → Nat → Nat} {A : Nat → Nat} (h : ∀ r, r ≤ 8 → ∀ p, q_LX r (F r p) (G r p)) : ∀ r p, r ≤ 8 → q_LX r (q_nx 9 N F A r p) (q_nx 16 N G A r p)
  | 0, p, hr => q_lvS (h 0 hr) hr
  | r + 1, p, hr => by
    unfold q_nx
    exact q_lmax (q_lvS (h (r + 1) hr) hr) ((q_lnx h r (N p 0) (by omega)).m1 (by omega)) hr
theorem q_lTT {N : Nat → Nat → Nat} {A : Nat → Nat → Nat} : ∀ t i r p, r ≤ 8 → q_LX r (q_TT 9 N A t i r p) (q_TT 16 N A t i r p)
  | 0, i, r, p, hr => ⟨0, 0, Nat.zero_le _, rfl, rfl⟩
  | t + 1, i, r, p, hr => q_lnx (fun r' hr' p' => q_lTT t (i + 1) r' p' hr') r p hr
theorem q_wr_le {K v p : Nat} {N : Nat → Nat → Nat} {F : Nat → Nat} (h : ∀ p, F p ≤ v) (y : Nat) : q_wr K N F p y ≤ K * 12 + v := by
  have a := Nat.mul_le_mul_left K (q_pop_le y)
  have b := h (N p y)
  unfold q_wr
  omega
theorem q_nx_le {K v : Nat} {N : Nat → Nat → Nat} {F : Nat → Nat → Nat} {A : Nat → Nat} (h : ∀ r p, F r p ≤ v) : ∀ r p, q_nx K N F A r p ≤ K * 12 + v
  | 0, p => q_wr_le (h 0) _
  | r + 1, p => by
    unfold q_nx
    have a := q_nx_le (K := K) (N := N) (A := A) h r (N p 0)
    have b : q_vS K N (F (r + 1)) p (A p) ≤ K * 12 + v := q_wr_le (h (r + 1)) _
    exact Nat.max_le.mpr ⟨b, by omega⟩
theorem q_TT_le {K : Nat} {N : Nat → Nat → Nat} {A : Nat → Nat → Nat} : ∀ t i r p, q_TT K N A t i r p ≤ K * 12 * t
  | 0, _, _, _ => Nat.zero_le _
  | t + 1, i, r, p => by
    have z := q_nx_le (K := K) (v := K * 12 * t) (N := N) (F := q_TT K N A t (i + 1)) (A := A i) (fun r p => q_TT_le t (i + 1) r p) r p
    show q_nx K N (q_TT K N A t (i + 1)) (A i) r p ≤ K * 12 * (t + 1)
    rw [Nat.mul_succ]
    omega
/-! the way -/
def q_rst (K : Nat) (N : Nat → Nat → Nat) (F : Nat → Nat → Nat) (A : Nat → Nat) : Nat → Nat → Nat × Nat × Nat
  | 0, p => (0, p, 0)
  | r + 1, p => if q_vS K N (F (r + 1)) p (A p) < q_nx K N F A (r + 1) p then ((q_rst K N F A r (N p 0)).1, (q_rst K N F A r (N p 0)).2.1, (q_rst K N F A r (N p 0)).2.2 + 1) else (r + 1, p, 0)
theorem q_rst_r {K : Nat} {N : Nat → Nat → Nat} {F : Nat → Nat → Nat} {A : Nat → Nat} : ∀ r p, (q_rst K N F A r p).1 + (q_rst K N F A r p).2.2 = r
  | 0, p => rfl
  | r + 1, p => by
    have ih := q_rst_r (K := K) (N := N) (F := F) (A := A) r (N p 0)
    unfold q_rst
    split
    · dsimp only; omega
    · rfl
theorem q_rst_p {K v : Nat} {N : Nat → Nat → Nat} {F : Nat → Nat → Nat} {A : Nat → Nat} (hN : ∀ p y, N p y ≤ v) : ∀ r p, p ≤ v → (q_rst K N F A r p).2.1 ≤ v
  | 0, p, h => h
  | r + 1, p, h => by
    unfold q_rst
    split
    · exact q_rst_p hN r (N p 0) (hN p 0)
    · exact h
theorem q_rst_cg {N : Nat → Nat → Nat} {F G : Nat → Nat → Nat} {A : Nat → Nat} (h : ∀ r, r ≤ 8 → ∀ p, q_LX r (F r p) (G r p)) : ∀ r p, r ≤ 8 → q_rst 9 N F A r p = q_rst 16 N G A r p
  | 0, p, hr => rfl
  | r + 1, p, hr => by
    have ih := q_rst_cg (N := N) (A := A) h r (N p 0) (by omega)
    have l := (q_lnx (N := N) (A := A) h (r + 1) p hr).le (q_lvS (N := N) (p := p) (al := A p) (h (r + 1) hr) hr) hr hr
    unfold q_rst
    rw [ih]
    by_cases c : q_vS 9 N (F (r + 1)) p (A p) < q_nx 9 N F A (r + 1) p
    · rw [if_pos c, if_pos (by omega)]
    · rw [if_neg c, if_neg (by omega)]
def q_fz (K : Nat) (N : Nat → Nat → Nat) (A : Nat → Nat → Nat) (M i r p : Nat) : Nat × Nat × Nat := q_rst K N (q_TT K N A (M - (i + 1)) (i + 1)) (A i) r p
def q_fy (K : Nat) (N : Nat → Nat → Nat) (A : Nat → Nat → Nat) (M i r p : Nat) : Nat := q_bsx (q_wr K N (q_TT K N A (M - (i + 1)) (i + 1) r) p) (A i p)
/-- rests left, pressure, whistles that sound, ahead of beat i -/
def q_fo (K : Nat) (N : Nat → Nat → Nat) (A : Nat → Nat → Nat) (M R p0 : Nat) : Nat → Nat × Nat × Nat
  | 0 => (R, p0, 0)
  | i + 1 => ((q_fz K N A M i (q_fo K N A M R p0 i).1 (q_fo K N A M R p0 i).2.1).1,
      N (q_fz K N A M i (q_fo K N A M R p0 i).1 (q_fo K N A M R p0 i).2.1).2.1 (q_fy K N A M i (q_fz K N A M i (q_fo K N A M R p0 i).1 (q_fo K N A M R p0 i).2.1).1 (q_fz K N A M i (q_fo K N A M R p0 i).1 (q_fo K N A M R p0 i).2.1).2.1),
      (q_fo K N A M R p0 i).2.2 + q_pop (q_fy K N A M i (q_fz K N A M i (q_fo K N A M R p0 i).1 (q_fo K N A M R p0 i).2.1).1 (q_fz K N A M i (q_fo K N A M R p0 i).1 (q_fo K N A M R p0 i).2.1).2.1))
def q_fah (K : Nat) (N : Nat → Nat → Nat) (A : Nat → Nat → Nat) (M R p0 i : Nat) : Nat := (q_fz K N A M i (q_fo K N A M R p0 i).1 (q_fo K N A M R p0 i).2.1).2.2
def q_fsd (K : Nat) (N : Nat → Nat → Nat) (A : Nat → Nat → Nat) (M R p0 i : Nat) : Nat := q_fy K N A M i (q_fz K N A M i (q_fo K N A M R p0 i).1 (q_fo K N A M R p0 i).2.1).1 (q_fz K N A M i (q_fo K N A M R p0 i).1 (q_fo K N A M R p0 i).2.1).2.1
theorem q_fo_s (K : Nat) (N : Nat → Nat → Nat) (A : Nat → Nat → Nat) (M R p0 i : Nat) : q_fo K N A M R p0 (i + 1) = ((q_fz K N A M i (q_fo K N A M R p0 i).1 (q_fo K N A M R p0 i).2.1).1, N (q_fz K N A M i (q_fo K N A M R p0 i).1 (q_fo K N A M R p0 i).2.1).2.1 (q_fsd K N A M R p0 i), (q_fo K N A M R p0 i).2.2 + q_pop (q_fsd K N A M R p0 i)) := rfl
theorem q_fo_r (K : Nat) (N : Nat → Nat → Nat) (A : Nat → Nat → Nat) (M R p0 : Nat) : ∀ i, (q_fo K N A M R p0 i).1 ≤ R
  | 0 => Nat.le_refl _
  | i + 1 => by
    have a := q_fo_r K N A M R p0 i
    have b := q_rst_r (K := K) (N := N) (F := q_TT K N A (M - (i + 1)) (i + 1)) (A := A i) (q_fo K N A M R p0 i).1 (q_fo K N A M R p0 i).2.1
    show (q_rst K N (q_TT K N A (M - (i + 1)) (i + 1)) (A i) (q_fo K N A M R p0 i).1 (q_fo K N A M R p0 i).2.1).1 ≤ R
    omega
theorem q_fo_p {K v : Nat} {N : Nat → Nat → Nat} {A : Nat → Nat → Nat} {M R p0 : Nat} (hN : ∀ p y, N p y ≤ v) (h0 : p0 ≤ v) : ∀ i, (q_fo K N A M R p0 i).2.1 ≤ v
  | 0 => h0
  | i + 1 => hN _ _
theorem q_fo_s12 (K : Nat) (N : Nat → Nat → Nat) (A : Nat → Nat → Nat) (M R p0 : Nat) : ∀ i, (q_fo K N A M R p0 i).2.2 ≤ 12 * i
  | 0 => Nat.le_refl _
  | i + 1 => by
    have a := q_fo_s12 K N A M R p0 i
    have b := q_pop_le (q_fsd K N A M R p0 i)
    rw [q_fo_s]
    dsimp only
    omega
theorem q_fo_K {N : Nat → Nat → Nat} {A : Nat → Nat → Nat} {M R p0 : Nat} (hR : R ≤ 8) : ∀ i, q_fo 9 N A M R p0 i = q_fo 16 N A M R p0 i
  | 0 => rfl
  | i + 1 => by
    have ih := q_fo_K (N := N) (A := A) (M := M) (p0 := p0) hR i
    have l := q_fo_r 16 N A M R p0 i
    have lz : (q_fz 16 N A M i (q_fo 16 N A M R p0 i).1 (q_fo 16 N A M R p0 i).2.1).1 ≤ 8 := by
      have := q_fo_r 16 N A M R p0 (i + 1)
      rw [q_fo_s] at this
      exact Nat.le_trans this hR
    have ez : q_fz 9 N A M i (q_fo 16 N A M R p0 i).1 (q_fo 16 N A M R p0 i).2.1 = q_fz 16 N A M i (q_fo 16 N A M R p0 i).1 (q_fo 16 N A M R p0 i).2.1 := q_rst_cg (fun r hr p => q_lTT _ _ r p hr) _ _ (by omega)
    have ey : ∀ r p, r ≤ 8 → q_fy 9 N A M i r p = q_fy 16 N A M i r p := fun r p hr => q_lbst (fun p => q_lTT _ _ r p hr) hr _ _
    unfold q_fo
    rw [ih, ez, ey _ _ lz]
theorem q_fz_K {N : Nat → Nat → Nat} {A : Nat → Nat → Nat} {M R p0 : Nat} (hR : R ≤ 8) (i : Nat) : q_fah 9 N A M R p0 i = q_fah 16 N A M R p0 i ∧ q_fsd 9 N A M R p0 i = q_fsd 16 N A M R p0 i := by
  have l := q_fo_r 16 N A M R p0 i
  have lz : (q_fz 16 N A M i (q_fo 16 N A M R p0 i).1 (q_fo 16 N A M R p0 i).2.1).1 ≤ 8 := by
    have := q_fo_r 16 N A M R p0 (i + 1)
    rw [q_fo_s] at this
    exact Nat.le_trans this hR
  have ez : q_fz 9 N A M i (q_fo 16 N A M R p0 i).1 (q_fo 16 N A M R p0 i).2.1 = q_fz 16 N A M i (q_fo 16 N A M R p0 i).1 (q_fo 16 N A M R p0 i).2.1 := q_rst_cg (fun r hr p => q_lTT _ _ r p hr) _ _ (by omega)
  have ey : ∀ r p, r ≤ 8 → q_fy 9 N A M i r p = q_fy 16 N A M i r p := fun r p hr => q_lbst (fun p => q_lTT _ _ r p hr) hr _ _
  unfold q_fah q_fsd
  rw [q_fo_K hR, ez, ey _ _ lz]
  exact ⟨rfl, rfl⟩
/-- the rests ahead, summed -/
def q_sah (K : Nat) (N : Nat → Nat → Nat) (A : Nat → Nat → Nat) (M R p0 : Nat) : Nat → Nat
  | 0 => 0
  | i + 1 => q_sah K N A M R p0 i + q_fah K N A M R p0 i
theorem q_sah_R (K : Nat) (N : Nat → Nat → Nat) (A : Nat → Nat → Nat) (M R p0 : Nat) : ∀ i, q_sah K N A M R p0 i + (q_fo K N A M R p0 i).1 = R
  | 0 => Nat.zero_add _
  | i + 1 => by
    have ih := q_sah_R K N A M R p0 i
    have b := q_rst_r (K := K) (N := N) (F := q_TT K N A (M - (i + 1)) (i + 1)) (A := A i) (q_fo K N A M R p0 i).1 (q_fo K N A M R p0 i).2.1
    have e1 : (q_fo K N A M R p0 (i + 1)).1 = (q_rst K N (q_TT K N A (M - (i + 1)) (i + 1)) (A i) (q_fo K N A M R p0 i).1 (q_fo K N A M R p0 i).2.1).1 := rfl
    have e2 : q_fah K N A M R p0 i = (q_rst K N (q_TT K N A (M - (i + 1)) (i + 1)) (A i) (q_fo K N A M R p0 i).1 (q_fo K N A M R p0 i).2.1).2.2 := rfl
    unfold q_sah
    omega
/-- the same problem -/
theorem q_wr_N {N N' : Nat → Nat → Nat} (e : ∀ p y, N p y = N' p y) (K : Nat) (F : Nat → Nat) (p : Nat) : q_wr K N F p = q_wr K N' F p := funext (fun y => by unfold q_wr; rw [e])
theorem ite_cg {α : Type} {p q : Prop} [Decidable p] [Decidable q] {x y : α} (e : p ↔ q) : (if p then x else y) = (if q then x else y) := by
  by_cases c : p
  · rw [if_pos c, if_pos (e.mp c)]
  · rw [if_neg c, if_neg (fun z => c (e.mpr z))]
theorem nI_gb {n i : Nat} (hi : i < 32) : (nI n).toBitVec.getLsbD i = n.testBit i := by
  show (BitVec.ofNat 32 n).getLsbD i = n.testBit i
  rw [BitVec.getLsbD_ofNat, decide_eq_true hi, Bool.true_and]
theorem nI_and (a b : Nat) : nI a &&& nI b = nI (a &&& b) := by
  refine Int32.toBitVec_inj.mp (BitVec.eq_of_getLsbD_eq (fun i hi => ?_))
  rw [Int32.toBitVec_and, BitVec.getLsbD_and, nI_gb hi, nI_gb hi, nI_gb hi, Nat.testBit_and]
theorem nI_or (a b : Nat) : nI a ||| nI b = nI (a ||| b) := by
  refine Int32.toBitVec_inj.mp (BitVec.eq_of_getLsbD_eq (fun i hi => ?_))
  rw [Int32.toBitVec_or, BitVec.getLsbD_or, nI_gb hi, nI_gb hi, nI_gb hi, Nat.testBit_or]
theorem nI_ad (a b : Nat) : nI a + nI b = nI (a + b) := (Int32.ofNat_add a b).symm
theorem nI_m (a : Nat) (h : 1 ≤ a) (h2 : a < 2 ^ 31) : nI a - 1 = nI (a - 1) := nI_sub2 (b := 1) h h2
theorem nI_mm (a u : Nat) (h : a + u + 1 < 2 ^ 31) : nI (a + u) = nI (a + (u + 1)) - 1 := by
  rw [nI_m _ (by omega) (by omega), ← Nat.add_assoc, Nat.add_sub_cancel]
theorem zero_gb (i : Nat) : (0 : Int32).toBitVec.getLsbD i = false := by
  show (0#32).getLsbD i = false
  rw [BitVec.getLsbD_zero]
theorem lt_12 {y i : Nat} (hy : y < 4096) (hi : 12 ≤ i) : y < 2 ^ i := Nat.lt_of_lt_of_le hy (Nat.pow_le_pow_right (n := 2) (by decide) hi)
theorem open_iff {y : Nat} (a : Nat) (hy : y < 4096) : nI y &&& (nI a ^^^ (-1)) = 0 ↔ y &&& a = y := by
  constructor
  · intro h
    refine Nat.eq_of_testBit_eq (fun i => ?_)
    rw [Nat.testBit_and]
    by_cases hi : i < 32
    · have z := congrArg (fun v : Int32 => v.toBitVec.getLsbD i) h
      simp only [Int32.toBitVec_and, Int32.toBitVec_xor, BitVec.getLsbD_and, BitVec.getLsbD_xor, nI_gb hi, m1_get hi, zero_gb] at z
      revert z
      cases y.testBit i <;> cases a.testBit i <;> decide
    · rw [Nat.testBit_lt_two_pow (lt_12 hy (by omega))]
      rfl
  · intro h
    refine Int32.toBitVec_inj.mp (BitVec.eq_of_getLsbD_eq (fun i hi => ?_))
    rw [Int32.toBitVec_and, Int32.toBitVec_xor, BitVec.getLsbD_and, BitVec.getLsbD_xor, nI_gb hi, nI_gb hi, m1_get hi, zero_gb]
    have z := congrArg (fun v : Nat => v.testBit i) h
    simp only [Nat.testBit_and] at z
    revert z
    cases y.testBit i <;> cases a.testBit i <;> decide
theorem one_shl : ∀ j, j < 12 → (1 : Int32) <<< (nI j &&& 31) = nI (2 ^ j) := by decide +kernel
theorem nI_bit (y : Nat) {k : Nat} (hk : k < 12) : nI y >>> (nI k &&& 31) &&& 1 = if y.testBit k then 1 else 0 := by
  rw [bit_get _ hk, nI_gb (by omega)]
def pc_ck (n : Nat) : Bool := decide (z_bc (nI n) = nI (q_pop n))
theorem pc_all : ck_all pc_ck 4096 = true := by decide +kernel
theorem bc_pop {y : Nat} (hy : y < 4096) : z_bc (nI y) = nI (q_pop y) := of_decide_eq_true (ck_at pc_all y hy)
theorem sbm_12 {x : Nat} (hx : x < 4096) (k : Nat) : sbm x k < 4096 := Nat.lt_of_le_of_lt (sbm_le x k) hx
theorem sbm_nx {x k : Nat} (hx : x < 4096) (h0 : sbm x k ≠ 0) : nI (sbm x k) - 1 &&& nI x = nI (sbm x (k + 1)) := by
  have := sbm_12 hx k
  rw [nI_m _ (by omega) (by omega), nI_and]
  rfl
theorem nI_z {a : Nat} (ha : a < 2 ^ 31) (h : a ≠ 0) : ¬ nI a = 0 := fun z => h ((nI_eq (a := a) (b := 0) ha (by decide)).mp z)
theorem ev_ss (h : Hp) (a k : Nat) (x y : Int32) : ev_set (ev_set h a k x) a k y = ev_set h a k y := by
  funext i j
  unfold ev_set
  by_cases e : i = a ∧ j = k
  · rw [if_pos e, if_pos e]
  · rw [if_neg e, if_neg e, if_neg e]
theorem zmx {a b : Nat} (ha : a < 2 ^ 30) (hb : b < 2 ^ 30) : (if nI a ≤ nI b then nI b else nI a) = nI (max b a) := by
  by_cases c : a ≤ b
  · rw [if_pos ((nI_le2 (by omega) (by omega)).mpr c), Nat.max_eq_left c]
  · rw [if_neg (fun z => c ((nI_le2 (by omega) (by omega)).mp z)), Nat.max_eq_right (by omega)]
theorem z_max_m {s t : Nat} (hs : s < 2 ^ 30) (ht : t < 2 ^ 30) : z_max (nI s) (nI t - 1) = nI (max s (t - 1)) := by
  unfold z_max
  by_cases t0 : t = 0
  · subst t0
    have e : nI 0 - 1 = (-1 : Int32) := by decide
    rw [e, if_neg (fun z => by
      have y := w_lt z
      rw [nI_toInt (by omega)] at y
      have e1 : (-1 : Int32).toInt = -1 := by decide
      omega), Nat.max_eq_left (by omega)]
  · rw [nI_m _ (by omega) (by omega)]
    by_cases c : s < t - 1
    · rw [if_pos ((nI_lt2 (by omega) (by omega)).mpr c), Nat.max_eq_right (by omega)]
    · rw [if_neg (fun z => c ((nI_lt2 (by omega) (by omega)).mp z)), Nat.max_eq_left (by omega)]
/-! near, and the pressure behind a beat -/
def q_nm (P : Nat → Bool) : Nat → Nat
  | 0 => 0
  | j + 1 => if P j = true then q_nm P j ||| 2 ^ j else q_nm P j
theorem q_nm_lt (P : Nat → Bool) : ∀ m, q_nm P m < 2 ^ m
  | 0 => Nat.lt_succ_self 0
  | m + 1 => by
    have ih := q_nm_lt P m
    have e : 2 ^ (m + 1) = 2 ^ m * 2 := Nat.pow_succ 2 m
    unfold q_nm
    split
    · exact Nat.or_lt_two_pow (by omega) (by omega)
    · omega
theorem q_nm_12 (P : Nat → Bool) {m : Nat} (hm : m ≤ 12) : q_nm P m < 4096 := Nat.lt_of_lt_of_le (q_nm_lt P m) (Nat.pow_le_pow_right (n := 2) (by decide) hm)
theorem q_nm_cg {P P' : Nat → Bool} : ∀ m, (∀ j, j < m → P j = P' j) → q_nm P m = q_nm P' m
  | 0, _ => rfl
  | m + 1, e => by
    unfold q_nm
    rw [q_nm_cg m (fun j hj => e j (by omega)), e m (by omega)]
def NN (v f : Int32) (D : Nat → Int32) (p y : Nat) : Nat := (z_min v (z_max 0 (nI p + 2 * f - D y))).toNatClampNeg
theorem NN_sp {v : Int32} (f : Int32) (D : Nat → Int32) (hv : B v 0 200) (p y : Nat) : nI (NN v f D p y) = z_min v (z_max 0 (nI p + 2 * f - D y)) ∧ NN v f D p y ≤ v.toNatClampNeg := by
  have b0 : B (z_max 0 (nI p + 2 * f - D y)) 0 2147483647 := z_max_B (by decide : B 0 0 0) (B.any _) (Or.inl (by decide)) (by decide) (by decide)
  have b1 : B (z_min v (z_max 0 (nI p + 2 * f - D y))) 0 ((200 : Nat) : Int) := z_min_B hv b0 (by decide) (by decide) (Or.inl (by decide))
  have c : (z_min v (z_max 0 (nI p + 2 * f - D y))).toInt ≤ v.toInt := by
    unfold z_min
    split
    · rename_i q; have := w_lt q; omega
    · exact Int.le_refl _
  refine ⟨(B.nI b1).1.symm, ?_⟩
  show (z_min v (z_max 0 (nI p + 2 * f - D y))).toInt.toNat ≤ v.toInt.toNat
  omega
def cD (h : Hp) (m y : Nat) : Int32 := s_drawn h (nI y) (h 4 6) m
def cP (h : Hp) (d : Int32) (p j : Nat) : Bool := decide (¬ d < z_abs (o_off h j (nI p)))
def cR (h : Hp) (m : Nat) (d : Int32) (p : Nat) : Nat := q_nm (cP h d p) m
theorem o_off_cg {X h : Hp} (e7 : ∀ k, X 7 k = h 7 k) (e9 : ∀ k, X 9 k = h 9 k) (e10 : ∀ k, X 10 k = h 10 k) (w : Nat) (p : Int32) : o_off X w p = o_off h w p := by
  unfold o_off o_bent
  rw [e7, e9, e10]
theorem near_f {h : Hp} {d : Int32} {p j : Nat} (c : z_near (o_off h j (nI p)) d = 0) : cP h d p j = false := by
  unfold cP
  unfold z_near at c
  by_cases q : d < z_abs (o_off h j (nI p))
  · exact decide_eq_false (fun z => z q)
  · rw [if_neg q] at c; exact absurd c (by decide)
theorem near_t {h : Hp} {d : Int32} {p j : Nat} (c : ¬ z_near (o_off h j (nI p)) d = 0) : cP h d p j = true := by
  unfold cP
  unfold z_near at c
  by_cases q : d < z_abs (o_off h j (nI p))
  · rw [if_pos q] at c; exact absurd rfl c
  · exact decide_eq_true q
/-- near is marked below P -/
def k_nr (h : Hp) (m : Nat) (d : Int32) (P : Nat) : Hp := fun i j => if i = 38 ∧ j < P then nI (cR h m d j) else h i j
theorem k_nr_0 (h : Hp) (m : Nat) (d : Int32) : k_nr h m d 0 = h := by
  funext i j
  exact if_neg (fun q => Nat.not_lt_zero _ q.2)
theorem k_nr_ne {h : Hp} {m : Nat} {d : Int32} {P i j : Nat} (hi : i ≠ 38) : k_nr h m d P i j = h i j := if_neg (fun q => hi q.1)
theorem k_nr_s (h : Hp) (m : Nat) (d : Int32) (P : Nat) : k_nr h m d (P + 1) = ev_set (k_nr h m d P) 38 P (nI (cR h m d P)) := by
  funext i j
  simp only [k_nr, ev_set]
  by_cases h1 : i = 38
  · subst h1
    by_cases h2 : j = P
    · subst h2; simp
    · by_cases h3 : j < P
      · simp [h2, h3, Nat.lt_succ_of_lt h3]
      · simp [h2, h3, show ¬ j < P + 1 by omega]
  · simp [h1]
/-- k options are listed -/
def k_lo (h : Hp) (m x k : Nat) : Hp := fun i j => if i = 37 ∧ j = 7 then nI k else if i = 40 ∧ j < k then nI (sbm x j) else if i = 41 ∧ j < k then cD h m (sbm x j) else h i j
theorem k_lo_7 (h : Hp) (m x k : Nat) : k_lo h m x k 37 7 = nI k := if_pos ⟨rfl, rfl⟩
theorem k_lo_ne {h : Hp} {m x k i j : Nat} (h1 : i ≠ 37) (h2 : i ≠ 40) (h3 : i ≠ 41) : k_lo h m x k i j = h i j := by
  unfold k_lo
  rw [if_neg (fun q => h1 q.1), if_neg (fun q => h2 q.1), if_neg (fun q => h3 q.1)]
theorem k_lo_37 {h : Hp} {m x k j : Nat} (hj : j ≠ 7) : k_lo h m x k 37 j = h 37 j := by
  unfold k_lo
  rw [if_neg (fun q => hj q.2), if_neg (fun q => absurd q.1 (by decide)), if_neg (fun q => absurd q.1 (by decide))]
theorem k_lo_40 {h : Hp} {m x k j : Nat} (hj : j < k) : k_lo h m x k 40 j = nI (sbm x j) := by
  unfold k_lo
  rw [if_neg (fun q => absurd q.1 (by decide)), if_pos ⟨rfl, hj⟩]
theorem k_lo_41 {h : Hp} {m x k j : Nat} (hj : j < k) : k_lo h m x k 41 j = cD h m (sbm x j) := by
  unfold k_lo
  rw [if_neg (fun q => absurd q.1 (by decide)), if_neg (fun q => absurd q.1 (by decide)), if_pos ⟨rfl, hj⟩]
theorem k_lo_0 (h : Hp) (m x : Nat) : ev_set h 37 7 0 = k_lo h m x 0 := by
  funext i j
  unfold ev_set k_lo
  by_cases a : i = 37 ∧ j = 7
  · rw [if_pos a, if_pos a]; rfl
  · rw [if_neg a, if_neg a, if_neg (fun q => Nat.not_lt_zero _ q.2), if_neg (fun q => Nat.not_lt_zero _ q.2)]
theorem k_lo_s (h : Hp) (m x k : Nat) : ev_set (ev_set (ev_set (k_lo h m x k) 40 k (nI (sbm x k))) 41 k (cD h m (sbm x k))) 37 7 (nI (k + 1)) = k_lo h m x (k + 1) := by
  funext i j
  simp only [ev_set, k_lo]
  by_cases a : i = 37 ∧ j = 7
  · rw [if_pos a, if_pos a]
  · rw [if_neg a, if_neg a, if_neg a]
    by_cases b : i = 41
    · subst b
      by_cases e : j = k
      · subst e; simp
      · by_cases l : j < k
        · simp [e, l, Nat.lt_succ_of_lt l]
        · simp [e, l, show ¬ j < k + 1 by omega]
    · by_cases c : i = 40
      · subst c
        by_cases e : j = k
        · subst e; simp
        · by_cases l : j < k
          · simp [e, l, Nat.lt_succ_of_lt l]
          · simp [e, l, show ¬ j < k + 1 by omega]
      · simp [b, c]
/-- a row is raised by an option: lv levels -/
def k_rai (h : Hp) (to fr : Nat) (g : Int32) (lv : Nat) : Hp := fun i j => if i = 95 ∧ to ≤ j ∧ j < to + lv then (if g + h 95 (fr + (j - to)) ≤ h 95 j then h 95 j else g + h 95 (fr + (j - to))) else h i j
theorem k_rai_0 (h : Hp) (to fr : Nat) (g : Int32) : k_rai h to fr g 0 = h := by
  funext i j
  exact if_neg (fun q => by omega)
theorem k_rai_ne {h : Hp} {to fr lv i j : Nat} {g : Int32} (hi : i ≠ 95) : k_rai h to fr g lv i j = h i j := if_neg (fun q => hi q.1)
theorem k_rai_out {h : Hp} {to fr lv j : Nat} {g : Int32} (hj : j < to ∨ to + lv ≤ j) : k_rai h to fr g lv 95 j = h 95 j := if_neg (fun q => by omega)
theorem k_rai_in {h : Hp} {to fr lv r : Nat} {g : Int32} (hr : r < lv) : k_rai h to fr g lv 95 (to + r) = if g + h 95 (fr + r) ≤ h 95 (to + r) then h 95 (to + r) else g + h 95 (fr + r) := by
  unfold k_rai
  rw [if_pos ⟨rfl, by omega, by omega⟩, show to + r - to = r by omega]
theorem k_rai_s1 {h : Hp} {to fr i : Nat} {g : Int32} (c : g + h 95 (fr + i) ≤ h 95 (to + i)) : k_rai h to fr g i = k_rai h to fr g (i + 1) := by
  funext p j
  by_cases e : p = 95 ∧ j = to + i
  · obtain ⟨rfl, rfl⟩ := e
    rw [k_rai_out (Or.inr (Nat.le_refl _)), k_rai_in (Nat.lt_succ_self i), if_pos c]
  · by_cases l : p = 95 ∧ to ≤ j ∧ j < to + i
    · unfold k_rai
      rw [if_pos l, if_pos (show p = 95 ∧ to ≤ j ∧ j < to + (i + 1) from ⟨l.1, l.2.1, by omega⟩)]
    · unfold k_rai
      rw [if_neg l, if_neg (fun q => by omega)]
theorem k_rai_s2 {h : Hp} {to fr i : Nat} {g : Int32} (c : ¬ g + h 95 (fr + i) ≤ h 95 (to + i)) : ev_set (k_rai h to fr g i) 95 (to + i) (g + h 95 (fr + i)) = k_rai h to fr g (i + 1) := by
  funext p j
  by_cases e : p = 95 ∧ j = to + i
  · obtain ⟨rfl, rfl⟩ := e
    rw [ev_rd1, k_rai_in (Nat.lt_succ_self i), if_neg c]
  · unfold ev_set
    rw [if_neg e]
    by_cases l : p = 95 ∧ to ≤ j ∧ j < to + i
    · unfold k_rai
      rw [if_pos l, if_pos (show p = 95 ∧ to ≤ j ∧ j < to + (i + 1) from ⟨l.1, l.2.1, by omega⟩)]
    · unfold k_rai
      rw [if_neg l, if_neg (fun q => by omega)]
theorem JW.rai {W : List (Nat × Nat)} {h0 h : Hp} (hJ : JW W h0 h) (hw : ∀ j, wm W 95 j = true) (to fr : Nat) (g : Int32) (lv : Nat) : JW W h0 (k_rai h to fr g lv) := by
  refine ⟨fun i j => ?_, fun i j q => ?_⟩
  · by_cases e : i = 95
    · subst e; exact B.any _
    · rw [k_rai_ne e]; exact hJ.1 i j
  · by_cases e : i = 95
    · subst e; rw [hw j] at q; cases q
    · rw [k_rai_ne e]; exact hJ.2 i j q
/-- c cells are 0 from to on -/
def k_zf (h : Hp) (to c : Nat) : Hp := fun i j => if i = 95 ∧ to ≤ j ∧ j < to + c then 0 else h i j
theorem k_zf_0 (h : Hp) (to : Nat) : k_zf h to 0 = h := by
  funext i j
  exact if_neg (fun q => by omega)
theorem k_zf_ne {h : Hp} {to c i j : Nat} (hi : i ≠ 95) : k_zf h to c i j = h i j := if_neg (fun q => hi q.1)
theorem k_zf_out {h : Hp} {to c j : Nat} (hj : j < to ∨ to + c ≤ j) : k_zf h to c 95 j = h 95 j := if_neg (fun q => by omega)
theorem k_zf_in {h : Hp} {to c j : Nat} (h1 : to ≤ j) (h2 : j < to + c) : k_zf h to c 95 j = 0 := if_pos ⟨rfl, h1, h2⟩
theorem k_zf_s (h : Hp) (to c : Nat) : ev_set (k_zf h to c) 95 (to + c) 0 = k_zf h to (c + 1) := by
  funext p j
  by_cases e : p = 95 ∧ j = to + c
  · obtain ⟨rfl, rfl⟩ := e
    rw [ev_rd1, k_zf_in (by omega) (by omega)]
  · unfold ev_set
    rw [if_neg e]
    by_cases l : p = 95 ∧ to ≤ j ∧ j < to + c
    · unfold k_zf
      rw [if_pos l, if_pos ⟨l.1, l.2.1, by omega⟩]
    · unfold k_zf
      rw [if_neg l, if_neg (fun q => by omega)]
theorem JW.zf {W : List (Nat × Nat)} {h0 h : Hp} (hJ : JW W h0 h) (hw : ∀ j, wm W 95 j = true) (to c : Nat) : JW W h0 (k_zf h to c) := by
  refine ⟨fun i j => ?_, fun i j q => ?_⟩
  · by_cases e : i = 95
    · subst e; exact B.any _
    · rw [k_zf_ne e]; exact hJ.1 i j
  · by_cases e : i = 95
    · subst e; rw [hw j] at q; cases q
    · rw [k_zf_ne e]; exact hJ.2 i j q
set_option maxRecDepth 100000 in
set_option maxHeartbeats 4000000 in
theorem l_nr1 (L : Nat) (b : Bool) (h : Hp) (m : Nat) (hm0 : m ≤ 12) (hm : h 4 7 = nI m) (d : Int32) (p : Nat) (hp : p < 201) (Q : Pst) (kk : EvQ mi_X4_markNear 62 [some (.ref 37), some (.ref 4), some (.int d), some (.int (nI p)), some (.int (nI m))] [] (G0 L b) (ev_set (k_nr h m d p) 38 p (nI (q_nm (cP h d p) m))) 0 0 Q) : ∀ t i : Nat, i + t = m → EvQ mi_X4_markNear 19 [some (.ref 37), some (.ref 4), some (.int d), some (.int (nI p)), some (.int (nI i))] [] (G0 L b) (ev_set (k_nr h m d p) 38 p (nI (q_nm (cP h d p) i))) 0 0 Q := by
  intro t
  induction t with
  | zero =>
    intro i hi
    have hi2 : i = m := by omega
    subst hi2
    refine ev_iload rfl rfl rfl ?_
    refine ev_aload_n rfl rfl rfl ?_
    refine ev_getI rfl rfl fl_X4_107 rfl rfl rfl ?_
    try simp (disch := omega) only [ev_rd1, ev_rd2, k_nr_ne]
    refine ev_icmp_ge rfl rfl (fun c_25 => ?_) (fun z_ => absurd (by rw [hm]; exact Int32.le_refl _) z_)
    exact kk
  | succ t ih =>
    intro i hi
    refine ev_iload rfl rfl rfl ?_
    refine ev_aload_n rfl rfl rfl ?_
    refine ev_getI rfl rfl fl_X4_107 rfl rfl rfl ?_
    try simp (disch := omega) only [ev_rd1, ev_rd2, k_nr_ne]
    refine ev_icmp_ge rfl rfl (fun z_ => absurd z_ (by rw [hm]; exact nI_ge (by omega) (by omega))) (fun c_25 => ?_)
    refine ev_aload_n rfl rfl rfl ?_
    refine ev_getR rfl rfl fl_X4_15 rfl rfl rfl rfl ?_
    refine ev_iload_n rfl rfl rfl ?_
    refine ev_dup2 rfl rfl rfl rfl ?_
    refine ev_iald rfl rfl rfl (vp_in_nI (by omega) (by decide)) (nI_clamp (by omega)) ?_
    try simp (disch := omega) only [ev_rd1, ev_rd2, k_nr_ne]
    refine ev_aload_n rfl rfl rfl ?_
    refine ev_iload rfl rfl rfl ?_
    refine ev_iload_n rfl rfl rfl ?_
    refine ev_iload_n rfl rfl rfl ?_
    refine ev_V3D rfl rfl lk_X4_110 vt_X8_isNear rfl rfl rfl rfl rfl (EvD.to (c_isNear L b _ i (by omega) (nI p) d) (show _ = z_near (o_off h i (nI p)) d from congrArg (fun z => z_near z d) (o_off_cg (fun k => (ev_rd2 (by decide)).trans (k_nr_ne (by decide))) (fun k => (ev_rd2 (by decide)).trans (k_nr_ne (by decide))) (fun k => (ev_rd2 (by decide)).trans (k_nr_ne (by decide))) i (nI p))) rfl) ?_
    refine ev_if_eq rfl rfl (fun c_43 => ?_) (fun c_43 => ?_)
    · refine ev_iconst (v := 0) rfl rfl (by decide) ?_
      refine ev_ior rfl rfl ?_
      refine ev_iast rfl rfl rfl rfl (vp_in_nI (by omega) (by decide)) (nI_clamp (by omega)) ?_
      refine ev_iinc (y := 1) rfl rfl rfl (by decide) rfl rfl ?_
      dsimp only [List.set]
      refine ev_goto rfl rfl ?_
      have z_ := ih (i + 1) (by omega)
      rw [show q_nm (cP h d p) (i + 1) = q_nm (cP h d p) i from if_neg (by rw [near_f c_43]; decide)] at z_
      rw [nI_1 i, ev_ss, Int32.or_zero]
      exact z_
    · refine ev_iconst (v := 1) rfl rfl (by decide) ?_
      refine ev_iload rfl rfl rfl ?_
      refine ev_ishl rfl rfl ?_
      refine ev_goto rfl rfl ?_
      refine ev_ior rfl rfl ?_
      refine ev_iast rfl rfl rfl rfl (vp_in_nI (by omega) (by decide)) (nI_clamp (by omega)) ?_
      refine ev_iinc (y := 1) rfl rfl rfl (by decide) rfl rfl ?_
      dsimp only [List.set]
      refine ev_goto rfl rfl ?_
      have z_ := ih (i + 1) (by omega)
      rw [show q_nm (cP h d p) (i + 1) = q_nm (cP h d p) i ||| 2 ^ i from if_pos (near_t c_43)] at z_
      rw [nI_1 i, ev_ss, one_shl i (by omega), nI_or]
      exact z_

set_option maxRecDepth 100000 in
set_option maxHeartbeats 4000000 in
theorem l_nr2 (L : Nat) (b : Bool) (h : Hp) (m : Nat) (hm0 : m ≤ 12) (hm : h 4 7 = nI m) (d : Int32) : ∀ t p : Nat, p + t = 201 → EvQ mi_X4_markNear 2 [some (.ref 37), some (.ref 4), some (.int d), some (.int (nI p)), none] [] (G0 L b) (k_nr h m d p) 0 0 (fun v G' h' => v = none ∧ G' = G0 L b ∧ h' = k_nr h m d 201) := by
  intro t
  induction t with
  | zero =>
    intro p hp
    have hp2 : p = 201 := by omega
    subst hp2
    refine ev_iload_n rfl rfl rfl ?_
    refine ev_sipush (v := 201) rfl rfl (by decide) ?_
    refine ev_icmp_ge rfl rfl (fun c_6 => ?_) (fun z_ => absurd (show (201 : Int32) ≤ nI 201 by decide) z_)
    exact ev_vret rfl rfl trivial (⟨rfl, rfl, rfl⟩)
  | succ t ih =>
    intro p hp
    refine ev_iload_n rfl rfl rfl ?_
    refine ev_sipush (v := 201) rfl rfl (by decide) ?_
    refine ev_icmp_ge rfl rfl (fun z_ => absurd z_ (show ¬ nI 201 ≤ nI p from nI_ge (by omega) (by omega))) (fun c_6 => ?_)
    refine ev_aload_n rfl rfl rfl ?_
    refine ev_getR rfl rfl fl_X4_15 rfl rfl rfl rfl ?_
    refine ev_iload_n rfl rfl rfl ?_
    refine ev_iconst (v := 0) rfl rfl (by decide) ?_
    refine ev_iast rfl rfl rfl rfl (vp_in_nI (by omega) (by decide)) (nI_clamp (by omega)) ?_
    refine ev_iconst (v := 0) rfl rfl (by decide) ?_
    refine ev_istore rfl rfl rfl rfl ?_
    dsimp only [List.set]
    refine l_nr1 L b h m hm0 hm d p (by omega) _ ?_ m 0 (by omega)
    refine ev_iinc (y := 1) rfl rfl rfl (by decide) rfl rfl ?_
    dsimp only [List.set]
    refine ev_goto rfl rfl ?_
    rw [nI_1 p]
    refine EvQ.hp (k_nr h m d (p + 1)) (k_nr_s h m d p).symm ?_
    exact EvQ.drop 4 (ih (p + 1) (by omega))

set_option maxRecDepth 100000 in
set_option maxHeartbeats 4000000 in
theorem c_markNear (L : Nat) (b : Bool) (h : Hp) (m : Nat) (hm0 : m ≤ 12) (hm : h 4 7 = nI m) (d : Int32) : EvU mi_X4_markNear [.ref 37, .ref 4, .int d] (G0 L b) h (k_nr h m d 201) := by
  refine EvU.of (lo := [some (.ref 37), some (.ref 4), some (.int d), none, none]) pf_X4_markNear ok_X4_markNear rfl rfl ?_
  refine ev_iconst (v := 0) rfl rfl (by decide) ?_
  refine ev_istore_n rfl rfl rfl rfl ?_
  dsimp only [List.set]
  refine EvQ.hp (k_nr h m d 0) (k_nr_0 h m d).symm ?_
  exact l_nr2 L b h m hm0 hm d 201 0 (by omega)

set_option maxRecDepth 100000 in
set_option maxHeartbeats 4000000 in
theorem l_loE (L : Nat) (b : Bool) (h : Hp) (m x n : Nat) (l : Int32) : EvQ mi_X4_listOptions 10 [some (.ref 37), some (.ref 4), some (.int (nI x)), some (.int l), some (.int 1)] [] (G0 L b) (k_lo h m x (n + 1)) 0 0 (fun v G' h' => v = none ∧ G' = G0 L b ∧ h' = k_lo h m x (n + 1)) := by
  refine ev_aload_n rfl rfl rfl ?_
  refine ev_getI rfl rfl fl_X4_34 rfl rfl rfl ?_
  try simp (disch := omega) only [ev_rd1, ev_rd2, k_lo_7, k_lo_ne]
  refine ev_bipush (v := 32) rfl rfl (by decide) ?_
  refine ev_icmp_ge rfl rfl (fun c_16 => ?_) (fun c_16 => ?_)
  · exact ev_vret rfl rfl trivial (⟨rfl, rfl, rfl⟩)
  · refine ev_iload rfl rfl rfl ?_
    refine ev_if_ne rfl rfl (fun c_21 => ?_) (fun z_ => absurd z_ (by decide))
    exact ev_vret rfl rfl trivial (⟨rfl, rfl, rfl⟩)

set_option maxRecDepth 100000 in
set_option maxHeartbeats 4000000 in
theorem l_lo (L : Nat) (b : Bool) (h : Hp) (m : Nat) (hm0 : m ≤ 12) (hm : h 4 7 = nI m) (x : Nat) (hx : x < 4096) (n : Nat) (h0 : sbm x n = 0) (hn : ∀ j, j < n → sbm x j ≠ 0) (n31 : n ≤ 31) : ∀ t k : Nat, k + t = n → EvQ mi_X4_listOptions 10 [some (.ref 37), some (.ref 4), some (.int (nI x)), some (.int (nI (sbm x k))), some (.int 0)] [] (G0 L b) (k_lo h m x k) 0 0 (fun v G' h' => v = none ∧ G' = G0 L b ∧ h' = k_lo h m x (n + 1)) := by
  intro t
  induction t with
  | zero =>
    intro k hk
    have hk2 : k = n := by omega
    subst hk2
    refine ev_aload_n rfl rfl rfl ?_
    refine ev_getI rfl rfl fl_X4_34 rfl rfl rfl ?_
    try simp (disch := omega) only [ev_rd1, ev_rd2, k_lo_7, k_lo_ne]
    refine ev_bipush (v := 32) rfl rfl (by decide) ?_
    refine ev_icmp_ge rfl rfl (fun z_ => absurd z_ (show ¬ nI 32 ≤ nI k from nI_ge (by omega) (by omega))) (fun c_16 => ?_)
    refine ev_iload rfl rfl rfl ?_
    refine ev_if_ne rfl rfl (fun z_ => absurd (by decide) z_) (fun c_21 => ?_)
    refine ev_aload_n rfl rfl rfl ?_
    refine ev_getR rfl rfl fl_X4_28 rfl rfl rfl rfl ?_
    refine ev_aload_n rfl rfl rfl ?_
    refine ev_getI rfl rfl fl_X4_34 rfl rfl rfl ?_
    try simp (disch := omega) only [ev_rd1, ev_rd2, k_lo_7, k_lo_ne]
    refine ev_iload_n rfl rfl rfl ?_
    refine ev_iast rfl rfl rfl rfl (vp_in_nI (by omega) (by decide)) (nI_clamp (by omega)) ?_
    refine ev_aload_n rfl rfl rfl ?_
    refine ev_getR rfl rfl fl_X4_31 rfl rfl rfl rfl ?_
    refine ev_aload_n rfl rfl rfl ?_
    refine ev_getI rfl rfl fl_X4_34 rfl rfl rfl ?_
    try simp (disch := omega) only [ev_rd1, ev_rd2, k_lo_7, k_lo_ne]
    refine ev_aload_n rfl rfl rfl ?_
    refine ev_iload_n rfl rfl rfl ?_
    refine ev_aload_n rfl rfl rfl ?_
    refine ev_getI rfl rfl fl_X4_71 rfl rfl rfl ?_
    try simp (disch := omega) only [ev_rd1, ev_rd2, k_lo_7, k_lo_ne]
    refine ev_V2D rfl rfl lk_X4_76 vt_X8_drawnBy rfl rfl rfl rfl rfl (EvD.to (c_drawnBy L b _ m hm0 (((ev_rd2 (by decide)).trans (k_lo_ne (by decide) (by decide) (by decide))).trans hm) (nI (sbm x k)) (h 4 6)) (show _ = cD h m (sbm x k) from s_drawn_cg (fun j => (ev_rd2 (by decide)).trans (k_lo_ne (by decide) (by decide) (by decide))) _ _ _) rfl) ?_
    refine ev_iast rfl rfl rfl rfl (vp_in_nI (by omega) (by decide)) (nI_clamp (by omega)) ?_
    refine ev_aload_n rfl rfl rfl ?_
    refine ev_dup rfl rfl rfl ?_
    refine ev_getI rfl rfl fl_X4_34 rfl rfl rfl ?_
    try simp (disch := omega) only [ev_rd1, ev_rd2, k_lo_7, k_lo_ne]
    refine ev_iconst (v := 1) rfl rfl (by decide) ?_
    refine ev_iadd rfl rfl ?_
    refine ev_putI rfl rfl fl_X4_34 rfl rfl rfl rfl rfl ?_
    refine ev_iload_n rfl rfl rfl ?_
    refine ev_if_ne rfl rfl (fun z_ => absurd (show nI (sbm x k) = 0 by rw [h0]; rfl) z_) (fun c_63 => ?_)
    refine ev_iconst (v := 1) rfl rfl (by decide) ?_
    refine ev_goto rfl rfl ?_
    refine ev_istore rfl rfl rfl rfl ?_
    dsimp only [List.set]
    refine ev_iload_n rfl rfl rfl ?_
    refine ev_iconst (v := 1) rfl rfl (by decide) ?_
    refine ev_isub rfl rfl ?_
    refine ev_iload_n rfl rfl rfl ?_
    refine ev_iand rfl rfl ?_
    refine ev_istore_n rfl rfl rfl rfl ?_
    dsimp only [List.set]
    refine ev_goto rfl rfl ?_
    refine EvQ.hp (k_lo h m x (k + 1)) (by rw [nI_1]; exact k_lo_s h m x k) ?_
    exact l_loE L b h m x k _
  | succ t ih =>
    intro k hk
    refine ev_aload_n rfl rfl rfl ?_
    refine ev_getI rfl rfl fl_X4_34 rfl rfl rfl ?_
    try simp (disch := omega) only [ev_rd1, ev_rd2, k_lo_7, k_lo_ne]
    refine ev_bipush (v := 32) rfl rfl (by decide) ?_
    refine ev_icmp_ge rfl rfl (fun z_ => absurd z_ (show ¬ nI 32 ≤ nI k from nI_ge (by omega) (by omega))) (fun c_16 => ?_)
    refine ev_iload rfl rfl rfl ?_
    refine ev_if_ne rfl rfl (fun z_ => absurd (by decide) z_) (fun c_21 => ?_)
    refine ev_aload_n rfl rfl rfl ?_
    refine ev_getR rfl rfl fl_X4_28 rfl rfl rfl rfl ?_
    refine ev_aload_n rfl rfl rfl ?_
    refine ev_getI rfl rfl fl_X4_34 rfl rfl rfl ?_
    try simp (disch := omega) only [ev_rd1, ev_rd2, k_lo_7, k_lo_ne]
    refine ev_iload_n rfl rfl rfl ?_
    refine ev_iast rfl rfl rfl rfl (vp_in_nI (by omega) (by decide)) (nI_clamp (by omega)) ?_
    refine ev_aload_n rfl rfl rfl ?_
    refine ev_getR rfl rfl fl_X4_31 rfl rfl rfl rfl ?_
    refine ev_aload_n rfl rfl rfl ?_
    refine ev_getI rfl rfl fl_X4_34 rfl rfl rfl ?_
    try simp (disch := omega) only [ev_rd1, ev_rd2, k_lo_7, k_lo_ne]
    refine ev_aload_n rfl rfl rfl ?_
    refine ev_iload_n rfl rfl rfl ?_
    refine ev_aload_n rfl rfl rfl ?_
    refine ev_getI rfl rfl fl_X4_71 rfl rfl rfl ?_
    try simp (disch := omega) only [ev_rd1, ev_rd2, k_lo_7, k_lo_ne]
    refine ev_V2D rfl rfl lk_X4_76 vt_X8_drawnBy rfl rfl rfl rfl rfl (EvD.to (c_drawnBy L b _ m hm0 (((ev_rd2 (by decide)).trans (k_lo_ne (by decide) (by decide) (by decide))).trans hm) (nI (sbm x k)) (h 4 6)) (show _ = cD h m (sbm x k) from s_drawn_cg (fun j => (ev_rd2 (by decide)).trans (k_lo_ne (by decide) (by decide) (by decide))) _ _ _) rfl) ?_
    refine ev_iast rfl rfl rfl rfl (vp_in_nI (by omega) (by decide)) (nI_clamp (by omega)) ?_
    refine ev_aload_n rfl rfl rfl ?_
    refine ev_dup rfl rfl rfl ?_
    refine ev_getI rfl rfl fl_X4_34 rfl rfl rfl ?_
    try simp (disch := omega) only [ev_rd1, ev_rd2, k_lo_7, k_lo_ne]
    refine ev_iconst (v := 1) rfl rfl (by decide) ?_
    refine ev_iadd rfl rfl ?_
    refine ev_putI rfl rfl fl_X4_34 rfl rfl rfl rfl rfl ?_
    refine ev_iload_n rfl rfl rfl ?_
    refine ev_if_ne rfl rfl (fun c_63 => ?_) (fun z_ => absurd z_ (nI_z (by have := sbm_12 hx k; omega) (hn k (by omega))))
    refine ev_iconst (v := 0) rfl rfl (by decide) ?_
    refine ev_istore rfl rfl rfl rfl ?_
    dsimp only [List.set]
    refine ev_iload_n rfl rfl rfl ?_
    refine ev_iconst (v := 1) rfl rfl (by decide) ?_
    refine ev_isub rfl rfl ?_
    refine ev_iload_n rfl rfl rfl ?_
    refine ev_iand rfl rfl ?_
    rw [sbm_nx hx (hn k (by omega))]
    refine ev_istore_n rfl rfl rfl rfl ?_
    dsimp only [List.set]
    refine ev_goto rfl rfl ?_
    refine EvQ.hp (k_lo h m x (k + 1)) (by rw [nI_1]; exact k_lo_s h m x k) ?_
    exact ih (k + 1) (by omega)

set_option maxRecDepth 100000 in
set_option maxHeartbeats 4000000 in
theorem c_listOptions (L : Nat) (b : Bool) (h : Hp) (m : Nat) (hm0 : m ≤ 12) (hm : h 4 7 = nI m) (x : Nat) (hx : x < 4096) (n : Nat) (h0 : sbm x n = 0) (hn : ∀ j, j < n → sbm x j ≠ 0) (n31 : n ≤ 31) : EvU mi_X4_listOptions [.ref 37, .ref 4, .int (nI x)] (G0 L b) h (k_lo h m x (n + 1)) := by
  refine EvU.of (lo := [some (.ref 37), some (.ref 4), some (.int (nI x)), none, none]) pf_X4_listOptions ok_X4_listOptions rfl rfl ?_
  refine ev_aload_n rfl rfl rfl ?_
  refine ev_iconst (v := 0) rfl rfl (by decide) ?_
  refine ev_putI rfl rfl fl_X4_34 rfl rfl rfl rfl rfl ?_
  refine ev_iload_n rfl rfl rfl ?_
  refine ev_istore_n rfl rfl rfl rfl ?_
  dsimp only [List.set]
  refine ev_iconst (v := 0) rfl rfl (by decide) ?_
  refine ev_istore rfl rfl rfl rfl ?_
  dsimp only [List.set]
  refine EvQ.hp (k_lo h m x 0) (k_lo_0 h m x) ?_
  exact l_lo L b h m hm0 hm x hx n h0 hn n31 n 0 (by omega)

set_option maxRecDepth 100000 in
set_option maxHeartbeats 4000000 in
theorem c_isOpen (L : Nat) (b : Bool) (h : Hp) (o p : Nat) (ho : o < 32) (hp : p < 201) (y a : Nat) (hy : y < 4096) (e40 : h 40 o = nI y) (e38 : h 38 p = nI a) : EvD mi_X4_isOpen [.ref 37, .int (nI o), .int (nI p)] (G0 L b) h (if y &&& a = y then 1 else 0) (h) := by
  refine EvD.of (lo := [some (.ref 37), some (.int (nI o)), some (.int (nI p))]) pf_X4_isOpen ok_X4_isOpen rfl rfl ?_
  refine ev_aload_n rfl rfl rfl ?_
  refine ev_getR rfl rfl fl_X4_28 rfl rfl rfl rfl ?_
  refine ev_iload_n rfl rfl rfl ?_
  refine ev_iald rfl rfl rfl (vp_in_nI (by omega) (by decide)) (nI_clamp (by omega)) ?_
  try simp only [e40, e38]
  refine ev_aload_n rfl rfl rfl ?_
  refine ev_getR rfl rfl fl_X4_15 rfl rfl rfl rfl ?_
  refine ev_iload_n rfl rfl rfl ?_
  refine ev_iald rfl rfl rfl (vp_in_nI (by omega) (by decide)) (nI_clamp (by omega)) ?_
  try simp only [e40, e38]
  refine ev_iconst (v := (-1)) rfl rfl (by decide) ?_
  refine ev_ixor rfl rfl ?_
  refine ev_iand rfl rfl ?_
  refine ev_if_ne rfl rfl (fun c_15 => ?_) (fun c_15 => ?_)
  · refine ev_iconst (v := 0) rfl rfl (by decide) ?_
    exact ev_iret rfl rfl rfl (⟨congrArg (fun z => some (Value.int z)) (if_neg (fun z => c_15 ((open_iff a hy).mpr z))).symm, rfl, rfl⟩)
  · refine ev_iconst (v := 1) rfl rfl (by decide) ?_
    refine ev_goto rfl rfl ?_
    exact ev_iret rfl rfl rfl (⟨congrArg (fun z => some (Value.int z)) (if_pos ((open_iff a hy).mp c_15)).symm, rfl, rfl⟩)

set_option maxRecDepth 100000 in
set_option maxHeartbeats 4000000 in
theorem c_cellE (G : Geo) (h : Hp) (i p : Nat) : EvD mi_X4_cell [.int (nI i), .int (nI p)] G h (nI ((i * 201 + p) * 9)) (h) := by
  refine EvD.of (lo := [some (.int (nI i)), some (.int (nI p))]) pf_X4_cell ok_X4_cell rfl rfl ?_
  refine ev_iload_n rfl rfl rfl ?_
  refine ev_sipush (v := 201) rfl rfl (by decide) ?_
  refine ev_imulV (v := nI (i * 201)) (nI_mul i 201).symm rfl rfl ?_
  refine ev_iload_n rfl rfl rfl ?_
  refine ev_iaddV (v := nI (i * 201 + p)) (nI_ad _ _).symm rfl rfl ?_
  refine ev_bipush (v := 9) rfl rfl (by decide) ?_
  refine ev_imulV (v := nI ((i * 201 + p) * 9)) (nI_mul _ 9).symm rfl rfl ?_
  exact ev_iret rfl rfl rfl (⟨rfl, rfl, rfl⟩)
