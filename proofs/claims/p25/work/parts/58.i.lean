/-- the tune's chords are taken below t -/
def k_tk (h : Hp) (n : Nat) (k : Int32) (M t : Nat) : Hp := fun i j => if i = 37 ∧ j = 3 then nI M else if i = 39 ∧ j < t then z_mv (h (30 + n) j) k else h i j
theorem k_tk_3 (h : Hp) (n : Nat) (k : Int32) (M t : Nat) : k_tk h n k M t 37 3 = nI M := if_pos ⟨rfl, rfl⟩
theorem k_tk_ne {h : Hp} {n : Nat} {k : Int32} {M t i j : Nat} (h1 : i ≠ 37) (h2 : i ≠ 39) : k_tk h n k M t i j = h i j := by
  unfold k_tk
  rw [if_neg (fun q => h1 q.1), if_neg (fun q => h2 q.1)]
theorem k_tk_37 {h : Hp} {n : Nat} {k : Int32} {M t j : Nat} (h1 : j ≠ 3) : k_tk h n k M t 37 j = h 37 j := by
  unfold k_tk
  rw [if_neg (fun q => h1 q.2), if_neg (fun q => absurd q.1 (by decide))]
theorem k_tk_39 {h : Hp} {n : Nat} {k : Int32} {M t j : Nat} (hj : j < t) : k_tk h n k M t 39 j = z_mv (h (30 + n) j) k := by
  unfold k_tk
  rw [if_neg (fun q => absurd q.1 (by decide)), if_pos ⟨rfl, hj⟩]
theorem k_tk_0 (h : Hp) (n : Nat) (k : Int32) (M : Nat) : ev_set h 37 3 (nI M) = k_tk h n k M 0 := by
  funext i j
  unfold ev_set k_tk
  by_cases a : i = 37 ∧ j = 3
  · rw [if_pos a, if_pos a]
  · rw [if_neg a, if_neg a, if_neg (fun q => Nat.not_lt_zero _ q.2)]
theorem k_tk_s (h : Hp) (n : Nat) (k : Int32) (M t : Nat) : ev_set (k_tk h n k M t) 39 t (z_mv (h (30 + n) t) k) = k_tk h n k M (t + 1) := by
  funext i j
  simp only [ev_set, k_tk]
  by_cases a : i = 37 ∧ j = 3
  · have b : ¬ i = 39 := fun z => by rw [z] at a; exact absurd a.1 (by decide)
    simp [a, b]
  · by_cases c : i = 39
    · subst c
      by_cases e : j = t
      · subst e; simp
      · by_cases l : j < t
        · simp [e, l, Nat.lt_succ_of_lt l]
        · simp [e, l, show ¬ j < t + 1 by omega]
    · simp [a, c]
theorem jw_tk {h : Hp} (hB : Bx h) {n : Nat} {k : Int32} {M t : Nat} (hM : M ≤ 24) : JW [(37, 3), (39, 999)] h (k_tk h n k M t) := by
  refine ⟨fun i j => ?_, fun i j q => ?_⟩
  · by_cases a : i = 37 ∧ j = 3
    · obtain ⟨rfl, rfl⟩ := a
      rw [k_tk_3]
      exact nI_B (u := 24) (by omega) (by omega)
    · by_cases c : i = 39
      · subst c; exact B.any _
      · unfold k_tk
        rw [if_neg a, if_neg (fun q => c q.1)]
        exact hB i j
  · have a : ¬ (i = 37 ∧ j = 3) := fun z => by rw [z.1, z.2] at q; cases q
    have c : i ≠ 39 := fun z => by subst z; cases q
    unfold k_tk
    rw [if_neg a, if_neg (fun q => c q.1)]
def r_for (h : Hp) (t k d r c : Int32) : Int32 := if h 37 15 = 0 then 0 else if h 44 0 = t then (if h 44 1 = k then (if h 44 2 = d then (if h 44 3 = r then (if h 44 4 = c then 1 else 0) else 0) else 0) else 0) else 0
theorem for_eq {h : Hp} {t k d r c : Int32} (e : ¬ r_for h t k d r c = 0) : ¬ h 37 15 = 0 ∧ h 44 0 = t ∧ h 44 1 = k ∧ h 44 2 = d ∧ h 44 3 = r ∧ h 44 4 = c := by
  unfold r_for at e
  by_cases q : h 37 15 = 0
  · rw [if_pos q] at e; exact absurd rfl e
  rw [if_neg q] at e
  by_cases q0 : h 44 0 = t
  · rw [if_pos q0] at e
    by_cases q1 : h 44 1 = k
    · rw [if_pos q1] at e
      by_cases q2 : h 44 2 = d
      · rw [if_pos q2] at e
        by_cases q3 : h 44 3 = r
        · rw [if_pos q3] at e
          by_cases q4 : h 44 4 = c
          · exact ⟨q, q0, q1, q2, q3, q4⟩
          · rw [if_neg q4] at e; exact absurd rfl e
        · rw [if_neg q3] at e; exact absurd rfl e
      · rw [if_neg q2] at e; exact absurd rfl e
    · rw [if_neg q1] at e; exact absurd rfl e
  · rw [if_neg q0] at e; exact absurd rfl e
def k_rem (h : Hp) (t k d r c : Int32) : Hp := ev_set (ev_set (ev_set (ev_set (ev_set (ev_set h 44 0 t) 44 1 k) 44 2 d) 44 3 r) 44 4 c) 37 15 1
theorem jw_rem {W : List (Nat × Nat)} {h0 h : Hp} (hJ : JW W h0 h) (w44 : ∀ j, wm W 44 j = true) (w15 : wm W 37 15 = true) (t k d r c : Int32) : JW W h0 (k_rem h t k d r c) := (((((hJ.set (w44 0) (B.any _)).set (w44 1) (B.any _)).set (w44 2) (B.any _)).set (w44 3) (B.any _)).set (w44 4) (B.any _)).set w15 (B.any _)
theorem k_rem_ne {h : Hp} {t k d r c : Int32} {i j : Nat} (h1 : i ≠ 44) (h2 : ¬ (i = 37 ∧ j = 15)) : k_rem h t k d r c i j = h i j := by
  unfold k_rem
  rw [show ∀ X : Hp, ev_set X 37 15 1 i j = X i j from fun X => if_neg h2, ev_rd2 h1, ev_rd2 h1, ev_rd2 h1, ev_rd2 h1, ev_rd2 h1]
theorem k_rem_44 (h : Hp) (t k d r c : Int32) : k_rem h t k d r c 44 0 = t ∧ k_rem h t k d r c 44 1 = k ∧ k_rem h t k d r c 44 2 = d ∧ k_rem h t k d r c 44 3 = r ∧ k_rem h t k d r c 44 4 = c := ⟨rfl, rfl, rfl, rfl, rfl⟩
def r_ans (h : Hp) (q : Int32) : Int32 := if q = 0 then h 37 11 else if q = 1 then h 37 12 else if q = 2 then h 37 13 else if 40 ≤ q then h 43 (q - 40).toNatClampNeg else h 42 (q - 10).toNatClampNeg
abbrev BQ (q : Int32) : Prop := B q 0 2 ∨ B q 10 33 ∨ B q 40 63
theorem BQ.lo {q : Int32} (h : BQ q) (c0 : ¬ q = 0) (c1 : ¬ q = 1) (c2 : ¬ q = 2) (c3 : ¬ 40 ≤ q) : B (q - 10) 0 23 := by
  have e40 : (40 : Int32).toInt = 40 := by decide
  have z3 := w_lt (Int32.not_le.mp c3)
  rcases h with p | p | p
  · exfalso
    have p1 : B q 1 2 := R_neL p (by decide : B 0 0 0) c0 (by decide)
    have p2 : B q 2 2 := R_neL p1 (by decide : B 1 1 1) c1 (by decide)
    exact c2 (D_eq p2 (by decide))
  · exact (B.sub p (by decide : B 10 10 10) (by decide) (by decide)).1
  · have := p.1
    omega
theorem BQ.hi {q : Int32} (h : BQ q) (c3 : 40 ≤ q) : B (q - 40) 0 23 := by
  have e40 : (40 : Int32).toInt = 40 := by decide
  have z3 := w_le c3
  rcases h with p | p | p
  · have := p.2; omega
  · have := p.2; omega
  · exact (B.sub p (by decide : B 40 40 40) (by decide) (by decide)).1
/-! the problem that set() solves, and its answers -/
def pN (h : Hp) : Nat → Nat → Nat := NN (h 2 3) (h 2 2) (cD h (nW h))
def pC (h : Hp) (t k : Int32) (i : Nat) : Nat := (z_mv (h (30 + t.toNatClampNeg) i) k).toNatClampNeg
def pA (h : Hp) (t k d : Int32) (i p : Nat) : Nat := pC h t k i &&& cR h (nW h) d p
def pM (h : Hp) (t : Int32) : Nat := (h 36 t.toNatClampNeg).toNatClampNeg
def pP (h : Hp) : Nat := (h 2 0).toNatClampNeg
def SOK (h z : Hp) (t k d R : Int32) : Prop := z 37 11 = nI (q_fo 9 (pN h) (pA h t k d) (pM h t) R.toNatClampNeg (pP h) (pM h t)).2.2 ∧ z 37 12 = nI (R.toNatClampNeg - (q_fo 9 (pN h) (pA h t k d) (pM h t) R.toNatClampNeg (pP h) (pM h t)).1) ∧ z 37 13 = nI (q_fo 9 (pN h) (pA h t k d) (pM h t) R.toNatClampNeg (pP h) (pM h t)).2.1 ∧ ∀ j, j < pM h t → z 42 j = nI (q_fsd 9 (pN h) (pA h t k d) (pM h t) R.toNatClampNeg (pP h) j) ∧ z 43 j = nI (q_fah 9 (pN h) (pA h t k d) (pM h t) R.toNatClampNeg (pP h) j)
def a_set (h : Hp) (t k d R q : Int32) : Int32 := if q = 0 then nI (q_fo 9 (pN h) (pA h t k d) (pM h t) R.toNatClampNeg (pP h) (pM h t)).2.2 else if q = 1 then nI (R.toNatClampNeg - (q_fo 9 (pN h) (pA h t k d) (pM h t) R.toNatClampNeg (pP h) (pM h t)).1) else if q = 2 then nI (q_fo 9 (pN h) (pA h t k d) (pM h t) R.toNatClampNeg (pP h) (pM h t)).2.1 else if 40 ≤ q then nI (q_fah 9 (pN h) (pA h t k d) (pM h t) R.toNatClampNeg (pP h) (q - 40).toNatClampNeg) else nI (q_fsd 9 (pN h) (pA h t k d) (pM h t) R.toNatClampNeg (pP h) (q - 10).toNatClampNeg)
def SO1 (h : Hp) (t k d R : Int32) : Prop := ¬ z_has t (h 28 2) = 0 ∧ (∀ i, i < pM h t → pC h t k i < 2 ^ nW h) ∧ SOK h h t k d R
/-- what the setting remembers still holds, if the acts' number is the same -/
def RSo (h : Hp) : Prop := h 37 15 = 0 ∨ ((h 44 4).toInt ≤ (h 11 3).toInt ∧ (h 44 4 = h 11 3 → SO1 h (h 44 0) (h 44 1) (h 44 2) (h 44 3)))
/-- chords of five letters at most -/
def PC (x : Int32) : Prop := ∃ c : Nat, c ≤ 5 ∧ s_bits x 12 = nI c
def RPc (h : Hp) : Prop := ∀ t, t < (h 28 2).toNatClampNeg → ∀ i, i < (h 36 t).toNatClampNeg → PC (h (30 + t) i)
theorem isB_t {h : Hp} {t q f : Int32} (z : ¬ z_isBeat h t q f = 0) : ¬ z_has t (h 28 2) = 0 ∧ ¬ q < f ∧ ¬ h 36 t.toNatClampNeg ≤ q - f := by
  unfold z_isBeat at z
  by_cases q1 : z_has t (h 28 2) = 0
  · rw [if_pos q1] at z; exact absurd rfl z
  rw [if_neg q1] at z
  by_cases q2 : q < f
  · rw [if_pos q2] at z; exact absurd rfl z
  rw [if_neg q2] at z
  by_cases q3 : h 36 t.toNatClampNeg ≤ q - f
  · rw [if_pos q3] at z; exact absurd rfl z
  exact ⟨q1, q2, q3⟩
def sg_told (h : Hp) (t q : Int32) : Int32 := if z_wi q 0 2 = 0 then (if z_isBeat h t q 10 = 0 then (if z_isBeat h t q 40 = 0 then 0 else 1) else 1) else 1
def r_sg (h : Hp) (t k d R q : Int32) : Int32 := if z_has t (h 28 2) = 0 then -1 else if z_wi k (-11) 11 = 0 then -1 else if sg_told h t q = 0 then -1 else if z_wi d 0 400 = 0 then -1 else if z_wi R 0 8 = 0 then -1 else if gsC h t k = 0 then -2 else 0
def r_cs (h : Hp) (t k d R q : Int32) : Int32 := if r_sg h t k d R q = 0 then a_set h t k d R q else r_sg h t k d R q
theorem r_cs_n {h : Hp} {t k d R q v : Int32} (e : r_sg h t k d R q = v) (h0 : ¬ v = 0) : v = r_cs h t k d R q := by
  unfold r_cs
  rw [e, if_neg h0]
theorem told_BQ {h : Hp} (hB : Bx h) {t q : Int32} (c : ¬ sg_told h t q = 0) : BQ q := by
  unfold sg_told at c
  by_cases c1 : z_wi q 0 2 = 0
  · rw [if_pos c1] at c
    by_cases c2 : z_isBeat h t q 10 = 0
    · rw [if_pos c2] at c
      by_cases c3 : z_isBeat h t q 40 = 0
      · rw [if_pos c3] at c; exact absurd rfl c
      · exact Or.inr (Or.inr (z_isBeat_B hB (by decide : B 40 40 40) (by decide) c3))
    · exact Or.inr (Or.inl (z_isBeat_B hB (by decide : B 10 10 10) (by decide) c2))
  · exact Or.inl (z_wi_B (by decide : B 0 0 0) (by decide : B 2 2 2) c1)
theorem lt_of_nle {x y : Int32} {M : Nat} (hx : x = nI M) (hM : M < 2 ^ 31) (hy : 0 ≤ y.toInt) (c : ¬ x ≤ y) : y.toNatClampNeg < M := by
  have z := w_lt (Int32.not_le.mp c)
  rw [hx, nI_toInt hM] at z
  have e : y.toNatClampNeg = y.toInt.toNat := rfl
  omega
theorem told_lo {h : Hp} (hB : Bx h) {t q : Int32} (c : ¬ sg_told h t q = 0) (c0 : ¬ q = 0) (c1 : ¬ q = 1) (c2 : ¬ q = 2) (c3 : ¬ 40 ≤ q) : (q - 10).toNatClampNeg < pM h t := by
  have bl := (told_BQ hB c).lo c0 c1 c2 c3
  have hw : z_wi q 0 2 = 0 := Decidable.byContradiction (fun z => by
    have p := z_wi_B (by decide : B 0 0 0) (by decide : B 2 2 2) z
    have p1 : B q 1 2 := R_neL p (by decide : B 0 0 0) c0 (by decide)
    have p2 : B q 2 2 := R_neL p1 (by decide : B 1 1 1) c1 (by decide)
    exact c2 (D_eq p2 (by decide)))
  have e36 := B.nI (u := 24) (hB 36 t.toNatClampNeg)
  unfold sg_told at c
  rw [if_pos hw] at c
  by_cases b1 : z_isBeat h t q 10 = 0
  · rw [if_pos b1] at c
    by_cases b2 : z_isBeat h t q 40 = 0
    · rw [if_pos b2] at c; exact absurd rfl c
    · exact absurd (Int32.not_lt.mp (isB_t b2).2.1) c3
  · exact lt_of_nle e36.1 (Nat.lt_of_le_of_lt e36.2 (by decide)) bl.1 (isB_t b1).2.2
theorem told_hi {h : Hp} (hB : Bx h) {t q : Int32} (c : ¬ sg_told h t q = 0) (c3 : 40 ≤ q) : (q - 40).toNatClampNeg < pM h t := by
  have bl := (told_BQ hB c).hi c3
  have e40 : (40 : Int32).toInt = 40 := by decide
  have z3 := w_le c3
  have hw : z_wi q 0 2 = 0 := Decidable.byContradiction (fun z => by
    have p := z_wi_B (by decide : B 0 0 0) (by decide : B 2 2 2) z
    have := p.2; omega)
  have e36 := B.nI (u := 24) (hB 36 t.toNatClampNeg)
  unfold sg_told at c
  rw [if_pos hw] at c
  by_cases b1 : z_isBeat h t q 10 = 0
  · rw [if_pos b1] at c
    by_cases b2 : z_isBeat h t q 40 = 0
    · rw [if_pos b2] at c; exact absurd rfl c
    · exact lt_of_nle e36.1 (Nat.lt_of_le_of_lt e36.2 (by decide)) bl.1 (isB_t b2).2.2
  · exfalso
    have p := z_isBeat_B hB (by decide : B 10 10 10) (by decide) b1
    have := p.2
    omega
theorem ans_ok {h z : Hp} (hB : Bx h) {t k d R q : Int32} (c : ¬ sg_told h t q = 0) (s : SOK h z t k d R) : r_ans z q = a_set h t k d R q := by
  obtain ⟨s1, s2, s3, s4⟩ := s
  unfold r_ans a_set
  by_cases c0 : q = 0
  · rw [if_pos c0, if_pos c0]; exact s1
  rw [if_neg c0, if_neg c0]
  by_cases c1 : q = 1
  · rw [if_pos c1, if_pos c1]; exact s2
  rw [if_neg c1, if_neg c1]
  by_cases c2 : q = 2
  · rw [if_pos c2, if_pos c2]; exact s3
  rw [if_neg c2, if_neg c2]
  by_cases c3 : 40 ≤ q
  · rw [if_pos c3, if_pos c3]; exact (s4 _ (told_hi hB c c3)).2
  · rw [if_neg c3, if_neg c3]; exact (s4 _ (told_lo hB c c0 c1 c2 c3)).1
/-- the same problem in another heap -/
theorem prob_cg {h h1 : Hp} (e2 : ∀ j, h1 2 j = h 2 j) (e4 : ∀ j, h1 4 j = h 4 j) (e6 : ∀ j, h1 6 j = h 6 j) (e7 : ∀ j, h1 7 j = h 7 j) (e9 : ∀ j, h1 9 j = h 9 j) (e10 : ∀ j, h1 10 j = h 10 j) {t : Int32} (e36 : h1 36 t.toNatClampNeg = h 36 t.toNatClampNeg) (e30 : ∀ j, h1 (30 + t.toNatClampNeg) j = h (30 + t.toNatClampNeg) j) (k d : Int32) : pN h1 = pN h ∧ pC h1 t k = pC h t k ∧ pA h1 t k d = pA h t k d ∧ pM h1 t = pM h t ∧ pP h1 = pP h ∧ nW h1 = nW h := by
  have ew : nW h1 = nW h := by unfold nW; rw [e4]
  have eD : cD h1 (nW h1) = cD h (nW h) := funext (fun y => by
    unfold cD
    rw [ew, e4]
    exact s_drawn_cg e6 _ _ _)
  have eC : pC h1 t k = pC h t k := funext (fun i => by unfold pC; rw [e30])
  refine ⟨by unfold pN; rw [eD, e2, e2], eC, ?_, by unfold pM; rw [e36], by unfold pP; rw [e2], ew⟩
  funext i p
  unfold pA
  rw [eC, ew]
  have z : cP h1 d p = cP h d p := funext (fun j => by
    unfold cP
    rw [o_off_cg e7 e9 e10])
  unfold cR
  rw [z]
theorem SOK.cg {h h1 z z1 : Hp} {t k d R : Int32} (s : SOK h z t k d R) (e : pN h1 = pN h ∧ pC h1 t k = pC h t k ∧ pA h1 t k d = pA h t k d ∧ pM h1 t = pM h t ∧ pP h1 = pP h ∧ nW h1 = nW h) (z11 : z1 37 11 = z 37 11) (z12 : z1 37 12 = z 37 12) (z13 : z1 37 13 = z 37 13) (z42 : ∀ j, z1 42 j = z 42 j) (z43 : ∀ j, z1 43 j = z 43 j) : SOK h1 z1 t k d R := by
  obtain ⟨e1, e2, e3, e4, e5, e6⟩ := e
  unfold SOK
  rw [e1, e3, e4, e5, z11, z12, z13]
  refine ⟨s.1, s.2.1, s.2.2.1, fun j hj => ?_⟩
  rw [z42, z43]
  exact s.2.2.2 j hj
theorem for_ok {h : Hp} (hS : RSo h) {t k d R : Int32} (e : ¬ r_for h t k d R (h 11 3) = 0) : SOK h h t k d R := by
  obtain ⟨q, q0, q1, q2, q3, q4⟩ := for_eq e
  rcases hS with z | ⟨-, z⟩
  · exact absurd z q
  · have y := (z q4).2.2
    rw [q0, q1, q2, q3] at y
    exact y
/-! popcounts of moved chords -/
theorem ptc_0 {x s : Nat} (h : ∀ j, j < s → x.testBit j = false) : ∀ n, n ≤ s → q_ptc x n = 0
  | 0, _ => rfl
  | n + 1, hn => by
    unfold q_ptc
    rw [ptc_0 h n (by omega), h n (by omega)]
    rfl
theorem ptc_sh {x y s : Nat} (h : ∀ j, y.testBit (s + j) = x.testBit j) (h0 : ∀ j, j < s → y.testBit j = false) : ∀ n, q_ptc y (s + n) = q_ptc x n
  | 0 => ptc_0 h0 s (Nat.le_refl _)
  | n + 1 => by
    have ih := ptc_sh h h0 n
    show q_ptc y (s + n) + (if y.testBit (s + n) then 1 else 0) = q_ptc x n + (if x.testBit n then 1 else 0)
    rw [ih, h]
theorem ptc_dn {x y s : Nat} (h : ∀ j, y.testBit j = true → x.testBit (s + j) = true) : ∀ n, q_ptc y n ≤ q_ptc x (s + n)
  | 0 => Nat.zero_le _
  | n + 1 => by
    have ih := ptc_dn h n
    show q_ptc y n + (if y.testBit n then 1 else 0) ≤ q_ptc x (s + n) + (if x.testBit (s + n) then 1 else 0)
    by_cases b : y.testBit n = true
    · rw [if_pos b, if_pos (h n b)]; omega
    · rw [if_neg b]; omega
theorem ptc_mono (x : Nat) {a b : Nat} (h : a ≤ b) : q_ptc x a ≤ q_ptc x b := by
  induction b with
  | zero => have : a = 0 := by omega
            subst this; exact Nat.le_refl _
  | succ b ih =>
    by_cases e : a = b + 1
    · subst e; exact Nat.le_refl _
    · have := ih (by omega)
      show q_ptc x a ≤ q_ptc x b + (if x.testBit b then 1 else 0)
      omega
theorem ptc_12 {x : Nat} (hx : x < 4096) : ∀ n, q_ptc x (12 + n) = q_ptc x 12
  | 0 => rfl
  | n + 1 => by
    have ih := ptc_12 hx n
    show q_ptc x (12 + n) + (if x.testBit (12 + n) then 1 else 0) = _
    rw [ih, Nat.testBit_lt_two_pow (lt_12 hx (by omega))]
    rfl
theorem gb_nat {x : Int32} (hx : B x 0 4095) (j : Nat) : x.toBitVec.getLsbD j = x.toNatClampNeg.testBit j := by
  have e := B.nI (u := 4095) hx
  by_cases hj : j < 32
  · conv => lhs; rw [e.1]
    exact nI_gb hj
  · rw [hi_bit hx (by omega), Nat.testBit_lt_two_pow (lt_12 (by have := e.2; omega) (by omega))]
theorem pop_mv {x k : Int32} (hx : B x 0 4095) (hk : B k (-11) 11) (hm : B (z_mv x k) 0 4095) : q_pop (z_mv x k).toNatClampNeg ≤ q_pop x.toNatClampNeg := by
  have k1 := hk.1
  have k2 := hk.2
  have lx : x.toNatClampNeg < 4096 := by have := (B.nI (u := 4095) hx).2; omega
  have lm : (z_mv x k).toNatClampNeg < 4096 := by have := (B.nI (u := 4095) hm).2; omega
  by_cases c : 0 ≤ k.toInt
  · have h1 : ∀ j, (z_mv x k).toNatClampNeg.testBit (k.toInt.toNat + j) = true → x.toNatClampNeg.testBit j = true := fun j hj => by
      by_cases l : k.toInt.toNat + j < 12
      · rw [← gb_nat hm, mv_get hk l, if_pos c, Bool.and_eq_true, gb_nat hx] at hj
        rw [show k.toInt.toNat + j - k.toInt.toNat = j by omega] at hj
        exact hj.2
      · rw [Nat.testBit_lt_two_pow (lt_12 lm (by omega))] at hj; cases hj
    have h0 : ∀ j, j < k.toInt.toNat → (z_mv x k).toNatClampNeg.testBit j = false := fun j hj => by
      rw [← gb_nat hm, mv_get hk (by omega), if_pos c, decide_eq_false (by omega)]
      rfl
    unfold q_pop
    have a : ∀ n, q_ptc (z_mv x k).toNatClampNeg (k.toInt.toNat + n) ≤ q_ptc x.toNatClampNeg n := fun n => by
      induction n with
      | zero => rw [show k.toInt.toNat + 0 = k.toInt.toNat from rfl, ptc_0 h0 _ (Nat.le_refl _)]; exact Nat.zero_le _
      | succ n ih =>
        show q_ptc (z_mv x k).toNatClampNeg (k.toInt.toNat + n) + (if (z_mv x k).toNatClampNeg.testBit (k.toInt.toNat + n) then 1 else 0) ≤ q_ptc x.toNatClampNeg n + (if x.toNatClampNeg.testBit n then 1 else 0)
        by_cases b : (z_mv x k).toNatClampNeg.testBit (k.toInt.toNat + n) = true
        · rw [if_pos b, if_pos (h1 n b)]; omega
        · rw [if_neg b]; omega
    have z := a (12 - k.toInt.toNat)
    rw [show k.toInt.toNat + (12 - k.toInt.toNat) = 12 by omega] at z
    exact Nat.le_trans z (ptc_mono _ (by omega))
  · have h1 : ∀ j, (z_mv x k).toNatClampNeg.testBit j = true → x.toNatClampNeg.testBit ((-k.toInt).toNat + j) = true := fun j hj => by
      by_cases l : j < 12
      · rw [← gb_nat hm, mv_get hk l, if_neg c, gb_nat hx, Nat.add_comm] at hj
        exact hj
      · rw [Nat.testBit_lt_two_pow (lt_12 lm (by omega))] at hj; cases hj
    have z := ptc_dn h1 12
    rw [Nat.add_comm, ptc_12 lx] at z
    exact z
def sz_ck (n : Nat) : Bool := Nat.blt 5 (q_pop n) || Nat.beq (sbm n 31) 0
theorem sz_all : ck_all sz_ck 4096 = true := by decide +kernel
theorem sbm_5 {x : Nat} (hx : x < 4096) (hp : q_pop x ≤ 5) : sbm x 31 = 0 := by
  have e := ck_at sz_all x hx
  unfold sz_ck at e
  rcases Bool.or_eq_true _ _ ▸ e with z | z
  · have := Nat.le_of_ble_eq_true z; omega
  · exact Nat.eq_of_beq_eq_true z
theorem pc_pop {x : Int32} (hx : B x 0 4095) (h : PC x) : q_pop x.toNatClampNeg ≤ 5 := by
  obtain ⟨c, hc, e⟩ := h
  have en := B.nI (u := 4095) hx
  have z := (tf_of hx).2.2
  rw [e] at z
  rw [en.1, bc_pop (by have := en.2; omega)] at z
  have := (nI_eq (by have := q_pop_le x.toNatClampNeg; omega) (by omega)).mp z
  omega
/-- a chord that goes, moved: its bits are whistles that there are -/
theorem mv_2m {x a k : Int32} {m : Nat} (hx : B x 0 4095) (hs : x &&& a = x) (hk : B k (-11) 11) (hm : m ≤ 12) (hg : ¬ s_in a k (nI m - 1) 12 = 0) (hb : B (z_mv x k) 0 4095) : (z_mv x k).toNatClampNeg < 2 ^ m := by
  refine Nat.lt_pow_two_of_testBit _ (fun w hw => ?_)
  cases e : (z_mv x k).toNatClampNeg.testBit w with
  | false => rfl
  | true =>
    exfalso
    by_cases l : w < 12
    · rw [← gb_nat hb] at e
      obtain ⟨u, hu, eu, ub⟩ := mv_from hx hk l e
      have := (in_bit hk hm hg hu (sub_bit hs ub)).2
      omega
    · rw [Nat.testBit_lt_two_pow (lt_12 (by have := (B.nI (u := 4095) hb).2; omega) (by omega))] at e; cases e
/-- what a tune that goes gives: chords within the whistles, of five letters at most -/
theorem pC_ok {h : Hp} (hB : Bx h) (hP : RPc h) {t k : Int32} (ht : ¬ z_has t (h 28 2) = 0) (hk : ¬ z_wi k (-11) 11 = 0) (hg : ¬ gsC h t k = 0) : ∀ i, i < pM h t → z_mv (h (30 + t.toNatClampNeg) i) k = nI (pC h t k i) ∧ pC h t k i < 2 ^ nW h ∧ pC h t k i < 4096 ∧ sbm (pC h t k i) 31 = 0 := fun i hi => by
  have b6 : B (h 28 2) 0 6 := hB 28 2
  have z := z_has_B b6 ht
  have pt : B t 0 5 := ⟨z.1, by have := b6.2; omega⟩
  obtain ⟨n, hn, rfl, en⟩ := B.nat6 pt
  have nlt : n < (h 28 2).toNatClampNeg := by
    have z2 := z.2
    rw [nI_toInt (by omega)] at z2
    have e2 : (h 28 2).toNatClampNeg = (h 28 2).toInt.toNat := rfl
    omega
  have pk := z_wi_B (by decide : B (-11) (-11) (-11)) (by decide : B 11 11 11) hk
  have lw12 : nW h ≤ 12 := (B.nI (u := 12) (hB 4 7)).2
  have ew : h 4 7 = nI (nW h) := (B.nI (u := 12) (hB 4 7)).1
  unfold pM at hi
  rw [en] at hi
  have hg2 := hg
  unfold gsC at hg2
  rw [en] at hg2
  have bo : B (s_or h (30 + n) (h 36 n).toNatClampNeg) 0 4095 := s_or_B (hB.tun hn) _
  have hs := s_or_sub (h := h) (c := 30 + n) _ i hi
  have bm := mv_B (hB.tun hn i) bo hs pk (show B (h 4 7) 0 12 from hB 4 7) hg2
  have hg3 : ¬ s_in (s_or h (30 + n) (h 36 n).toNatClampNeg) k (nI (nW h) - 1) 12 = 0 := by rw [← goes_eq bo pk lw12, ← ew]; exact hg2
  have e := B.nI (u := 4095) bm
  have pp := Nat.le_trans (pop_mv (hB.tun hn i) pk bm) (pc_pop (hB.tun hn i) (hP n nlt i hi))
  unfold pC
  rw [en]
  exact ⟨e.1, mv_2m (hB.tun hn i) hs pk lw12 hg3 bm, by have := e.2; omega, sbm_5 (by have := e.2; omega) pp⟩

set_option maxRecDepth 100000 in
set_option maxHeartbeats 4000000 in
theorem l_tk (L : Nat) (b : Bool) (h : Hp) (n : Nat) (hn : n < 6) (k : Int32) (M : Nat) (hM : M ≤ 24) (e36 : h 36 n = nI M) : ∀ t i : Nat, i + t = M → EvQ mi_X4_takeTune 13 [some (.ref 37), some (.ref 28), some (.int (nI n)), some (.int k), some (.int (nI i))] [] (G0 L b) (k_tk h n k M i) 0 0 (fun v G' h' => v = none ∧ G' = G0 L b ∧ h' = k_tk h n k M M) := by
  intro t
  induction t with
  | zero =>
    intro i hi
    have hi2 : i = M := by omega
    subst hi2
    refine ev_iload rfl rfl rfl ?_
    refine ev_aload_n rfl rfl rfl ?_
    refine ev_getI rfl rfl fl_X4_21 rfl rfl rfl ?_
    try simp (disch := omega) only [k_tk_3, k_tk_ne, e36]
    refine ev_icmp_ge rfl rfl (fun c_19 => ?_) (fun z_ => absurd (Int32.le_refl _) z_)
    exact ev_vret rfl rfl trivial (⟨rfl, rfl, rfl⟩)
  | succ t ih =>
    intro i hi
    refine ev_iload rfl rfl rfl ?_
    refine ev_aload_n rfl rfl rfl ?_
    refine ev_getI rfl rfl fl_X4_21 rfl rfl rfl ?_
    try simp (disch := omega) only [k_tk_3, k_tk_ne, e36]
    refine ev_icmp_ge rfl rfl (fun z_ => absurd z_ (nI_ge (by omega) (by omega))) (fun c_19 => ?_)
    refine ev_aload_n rfl rfl rfl ?_
    refine ev_getR rfl rfl fl_X4_18 rfl rfl rfl rfl ?_
    refine ev_iload rfl rfl rfl ?_
    refine ev_aload_n rfl rfl rfl ?_
    refine ev_iload_n rfl rfl rfl ?_
    refine ev_iload rfl rfl rfl ?_
    refine ev_iload_n rfl rfl rfl ?_
    refine ev_V3D rfl rfl lk_X4_66 vt_X7_chordIn rfl rfl rfl rfl rfl (EvD.to (c_chordIn L b (k_tk h n k M i) n hn i (by omega) k) (show _ = z_mv (h (30 + n) i) k from by rw [k_tk_ne (by omega) (by omega)]) rfl) ?_
    refine ev_iast rfl rfl rfl rfl (vp_in_nI (by omega) (by decide)) (nI_clamp (by omega)) ?_
    refine ev_iinc (y := 1) rfl rfl rfl (by decide) rfl rfl ?_
    dsimp only [List.set]
    refine ev_goto rfl rfl ?_
    refine EvQ.hp (k_tk h n k M (i + 1)) (k_tk_s h n k M i) ?_
    rw [nI_1]
    exact ih (i + 1) (by omega)

set_option maxRecDepth 100000 in
set_option maxHeartbeats 4000000 in
theorem c_takeTuneE (L : Nat) (b : Bool) (h : Hp) (n : Nat) (hn : n < 6) (k : Int32) (M : Nat) (hM : M ≤ 24) (e36 : h 36 n = nI M) : EvU mi_X4_takeTune [.ref 37, .ref 28, .int (nI n), .int k] (G0 L b) h (k_tk h n k M M) := by
  refine EvU.of (lo := [some (.ref 37), some (.ref 28), some (.int (nI n)), some (.int k), none]) pf_X4_takeTune ok_X4_takeTune rfl rfl ?_
  refine ev_aload_n rfl rfl rfl ?_
  refine ev_aload_n rfl rfl rfl ?_
  refine ev_getR rfl rfl fl_X4_62 rfl rfl rfl rfl ?_
  refine ev_iload_n rfl rfl rfl ?_
  refine ev_iald rfl rfl rfl (vp_in_nI (by omega) (by decide)) (nI_clamp (by omega)) ?_
  try simp only [e36]
  refine ev_putI rfl rfl fl_X4_21 rfl rfl rfl rfl rfl ?_
  refine ev_iconst (v := 0) rfl rfl (by decide) ?_
  refine ev_istore rfl rfl rfl rfl ?_
  dsimp only [List.set]
  refine EvQ.hp (k_tk h n k M 0) (k_tk_0 h n k M) ?_
  exact l_tk L b h n hn k M hM e36 M 0 (by omega)

set_option maxRecDepth 100000 in
set_option maxHeartbeats 4000000 in
theorem c_isForX (L : Nat) (b : Bool) (h : Hp) (t k d r c : Int32) : EvD mi_X4_isFor [.ref 37, .int t, .int k, .int d, .int r, .int c] (G0 L b) h (r_for h t k d r c) (h) := by
  refine EvD.of (lo := [some (.ref 37), some (.int t), some (.int k), some (.int d), some (.int r), some (.int c)]) pf_X4_isFor ok_X4_isFor rfl rfl ?_
  refine ev_aload_n rfl rfl rfl ?_
  refine ev_getI rfl rfl fl_X4_58 rfl rfl rfl ?_
  refine ev_if_eq rfl rfl (fun c_4 => ?_) (fun c_4 => ?_)
  · refine ev_iconst (v := 0) rfl rfl (by decide) ?_
    exact ev_iret rfl rfl rfl (⟨congrArg (fun z => some (Value.int z)) (by simp only [r_for, if_pos c_4]), rfl, rfl⟩)
  · refine ev_aload_n rfl rfl rfl ?_
    refine ev_getR rfl rfl fl_X4_55 rfl rfl rfl rfl ?_
    refine ev_iconst (v := 0) rfl rfl (by decide) ?_
    refine ev_iald (j := 0) rfl rfl rfl (by unfold vp_in; decide) (by decide) ?_
    refine ev_iload_n rfl rfl rfl ?_
    refine ev_icmp_ne rfl rfl (fun c_14 => ?_) (fun c_14 => ?_)
    · refine ev_iconst (v := 0) rfl rfl (by decide) ?_
      exact ev_iret rfl rfl rfl (⟨congrArg (fun z => some (Value.int z)) (by simp only [r_for, if_neg c_4, if_neg c_14]), rfl, rfl⟩)
    · refine ev_aload_n rfl rfl rfl ?_
      refine ev_getR rfl rfl fl_X4_55 rfl rfl rfl rfl ?_
      refine ev_iconst (v := 1) rfl rfl (by decide) ?_
      refine ev_iald (j := 1) rfl rfl rfl (by unfold vp_in; decide) (by decide) ?_
      refine ev_iload_n rfl rfl rfl ?_
      refine ev_icmp_ne rfl rfl (fun c_24 => ?_) (fun c_24 => ?_)
      · refine ev_iconst (v := 0) rfl rfl (by decide) ?_
        exact ev_iret rfl rfl rfl (⟨congrArg (fun z => some (Value.int z)) (by simp only [r_for, if_neg c_4, if_pos c_14, if_neg c_24]), rfl, rfl⟩)
      · refine ev_aload_n rfl rfl rfl ?_
        refine ev_getR rfl rfl fl_X4_55 rfl rfl rfl rfl ?_
        refine ev_iconst (v := 2) rfl rfl (by decide) ?_
        refine ev_iald (j := 2) rfl rfl rfl (by unfold vp_in; decide) (by decide) ?_
        refine ev_iload_n rfl rfl rfl ?_
        refine ev_icmp_ne rfl rfl (fun c_34 => ?_) (fun c_34 => ?_)
        · refine ev_iconst (v := 0) rfl rfl (by decide) ?_
          exact ev_iret rfl rfl rfl (⟨congrArg (fun z => some (Value.int z)) (by simp only [r_for, if_neg c_4, if_pos c_14, if_pos c_24, if_neg c_34]), rfl, rfl⟩)
        · refine ev_aload_n rfl rfl rfl ?_
          refine ev_getR rfl rfl fl_X4_55 rfl rfl rfl rfl ?_
          refine ev_iconst (v := 3) rfl rfl (by decide) ?_
          refine ev_iald (j := 3) rfl rfl rfl (by unfold vp_in; decide) (by decide) ?_
          refine ev_iload rfl rfl rfl ?_
          refine ev_icmp_ne rfl rfl (fun c_45 => ?_) (fun c_45 => ?_)
          · refine ev_iconst (v := 0) rfl rfl (by decide) ?_
            exact ev_iret rfl rfl rfl (⟨congrArg (fun z => some (Value.int z)) (by simp only [r_for, if_neg c_4, if_pos c_14, if_pos c_24, if_pos c_34, if_neg c_45]), rfl, rfl⟩)
          · refine ev_aload_n rfl rfl rfl ?_
            refine ev_getR rfl rfl fl_X4_55 rfl rfl rfl rfl ?_
            refine ev_iconst (v := 4) rfl rfl (by decide) ?_
            refine ev_iald (j := 4) rfl rfl rfl (by unfold vp_in; decide) (by decide) ?_
            refine ev_iload rfl rfl rfl ?_
            refine ev_icmp_ne rfl rfl (fun c_56 => ?_) (fun c_56 => ?_)
            · refine ev_iconst (v := 0) rfl rfl (by decide) ?_
              exact ev_iret rfl rfl rfl (⟨congrArg (fun z => some (Value.int z)) (by simp only [r_for, if_neg c_4, if_pos c_14, if_pos c_24, if_pos c_34, if_pos c_45, if_neg c_56]), rfl, rfl⟩)
            · refine ev_iconst (v := 1) rfl rfl (by decide) ?_
              refine ev_goto rfl rfl ?_
              exact ev_iret rfl rfl rfl (⟨congrArg (fun z => some (Value.int z)) (by simp only [r_for, if_neg c_4, if_pos c_14, if_pos c_24, if_pos c_34, if_pos c_45, if_pos c_56]), rfl, rfl⟩)

set_option maxRecDepth 100000 in
set_option maxHeartbeats 4000000 in
theorem c_remember (L : Nat) (b : Bool) (h : Hp) (t k d r c : Int32) : EvU mi_X4_remember [.ref 37, .int t, .int k, .int d, .int r, .int c] (G0 L b) h (k_rem h t k d r c) := by
  refine EvU.of (lo := [some (.ref 37), some (.int t), some (.int k), some (.int d), some (.int r), some (.int c)]) pf_X4_remember ok_X4_remember rfl rfl ?_
  refine ev_aload_n rfl rfl rfl ?_
  refine ev_getR rfl rfl fl_X4_55 rfl rfl rfl rfl ?_
  refine ev_iconst (v := 0) rfl rfl (by decide) ?_
  refine ev_iload_n rfl rfl rfl ?_
  refine ev_iast (j := 0) rfl rfl rfl rfl (by unfold vp_in; decide) (by decide) ?_
  refine ev_aload_n rfl rfl rfl ?_
  refine ev_getR rfl rfl fl_X4_55 rfl rfl rfl rfl ?_
  refine ev_iconst (v := 1) rfl rfl (by decide) ?_
  refine ev_iload_n rfl rfl rfl ?_
  refine ev_iast (j := 1) rfl rfl rfl rfl (by unfold vp_in; decide) (by decide) ?_
  refine ev_aload_n rfl rfl rfl ?_
  refine ev_getR rfl rfl fl_X4_55 rfl rfl rfl rfl ?_
  refine ev_iconst (v := 2) rfl rfl (by decide) ?_
  refine ev_iload_n rfl rfl rfl ?_
  refine ev_iast (j := 2) rfl rfl rfl rfl (by unfold vp_in; decide) (by decide) ?_
  refine ev_aload_n rfl rfl rfl ?_
  refine ev_getR rfl rfl fl_X4_55 rfl rfl rfl rfl ?_
  refine ev_iconst (v := 3) rfl rfl (by decide) ?_
  refine ev_iload rfl rfl rfl ?_
  refine ev_iast (j := 3) rfl rfl rfl rfl (by unfold vp_in; decide) (by decide) ?_
  refine ev_aload_n rfl rfl rfl ?_
  refine ev_getR rfl rfl fl_X4_55 rfl rfl rfl rfl ?_
  refine ev_iconst (v := 4) rfl rfl (by decide) ?_
  refine ev_iload rfl rfl rfl ?_
  refine ev_iast (j := 4) rfl rfl rfl rfl (by unfold vp_in; decide) (by decide) ?_
  refine ev_aload_n rfl rfl rfl ?_
  refine ev_iconst (v := 1) rfl rfl (by decide) ?_
  refine ev_putZ rfl rfl fl_X4_58 rfl rfl rfl rfl rfl (by decide) ?_
  exact ev_vret rfl rfl trivial (⟨rfl, rfl, rfl⟩)

set_option maxRecDepth 100000 in
set_option maxHeartbeats 4000000 in
theorem c_answerX (L : Nat) (b : Bool) (h : Hp) (q : Int32) (hq : BQ q) : EvD mi_X4_answer [.ref 37, .int q] (G0 L b) h (r_ans h q) (h) := by
  refine EvD.of (lo := [some (.ref 37), some (.int q)]) pf_X4_answer ok_X4_answer rfl rfl ?_
  refine ev_iload_n rfl rfl rfl ?_
  refine ev_if_ne rfl rfl (fun c_1 => ?_) (fun c_1 => ?_)
  · refine ev_iload_n rfl rfl rfl ?_
    refine ev_iconst (v := 1) rfl rfl (by decide) ?_
    refine ev_icmp_ne rfl rfl (fun c_11 => ?_) (fun c_11 => ?_)
    · refine ev_iload_n rfl rfl rfl ?_
      refine ev_iconst (v := 2) rfl rfl (by decide) ?_
      refine ev_icmp_ne rfl rfl (fun c_21 => ?_) (fun c_21 => ?_)
      · refine ev_iload_n rfl rfl rfl ?_
        refine ev_bipush (v := 40) rfl rfl (by decide) ?_
        refine ev_icmp_ge rfl rfl (fun c_32 => ?_) (fun c_32 => ?_)
        · have b_ := hq.hi c_32
          refine ev_aload_n rfl rfl rfl ?_
          refine ev_getR rfl rfl fl_X4_43 rfl rfl rfl rfl ?_
          refine ev_iload_n rfl rfl rfl ?_
          refine ev_bipush (v := 40) rfl rfl (by decide) ?_
          refine ev_isub rfl rfl ?_
          refine ev_iald rfl rfl rfl (b_.vp (by decide) (by decide)) rfl ?_
          exact ev_iret rfl rfl rfl (⟨congrArg (fun z => some (Value.int z)) (by simp only [r_ans, if_neg c_1, if_neg c_11, if_neg c_21, if_pos c_32]), rfl, rfl⟩)
        · have b_ := hq.lo c_1 c_11 c_21 c_32
          refine ev_aload_n rfl rfl rfl ?_
          refine ev_getR rfl rfl fl_X4_40 rfl rfl rfl rfl ?_
          refine ev_iload_n rfl rfl rfl ?_
          refine ev_bipush (v := 10) rfl rfl (by decide) ?_
          refine ev_isub rfl rfl ?_
          refine ev_iald rfl rfl rfl (b_.vp (by decide) (by decide)) rfl ?_
          refine ev_goto rfl rfl ?_
          exact ev_iret rfl rfl rfl (⟨congrArg (fun z => some (Value.int z)) (by simp only [r_ans, if_neg c_1, if_neg c_11, if_neg c_21, if_neg c_32]), rfl, rfl⟩)
      · refine ev_aload_n rfl rfl rfl ?_
        refine ev_getI rfl rfl fl_X4_52 rfl rfl rfl ?_
        exact ev_iret rfl rfl rfl (⟨congrArg (fun z => some (Value.int z)) (by simp only [r_ans, if_neg c_1, if_neg c_11, if_pos c_21]), rfl, rfl⟩)
    · refine ev_aload_n rfl rfl rfl ?_
      refine ev_getI rfl rfl fl_X4_49 rfl rfl rfl ?_
      exact ev_iret rfl rfl rfl (⟨congrArg (fun z => some (Value.int z)) (by simp only [r_ans, if_neg c_1, if_pos c_11]), rfl, rfl⟩)
  · refine ev_aload_n rfl rfl rfl ?_
    refine ev_getI rfl rfl fl_X4_46 rfl rfl rfl ?_
    exact ev_iret rfl rfl rfl (⟨congrArg (fun z => some (Value.int z)) (by simp only [r_ans, if_pos c_1]), rfl, rfl⟩)
