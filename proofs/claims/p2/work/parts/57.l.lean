/-- a key's place in the model's order -/
def od (k : Int32) : Int := if k.toInt < 0 then -2 * k.toInt - 1 else 2 * k.toInt
/-- among the first n keys of f: none sounds, or (b, l) is the least that does, by its place -/
def KB (f : Nat → Int32) (R : Int32 → Int32) (n : Nat) (b l : Int32) : Prop := (b = -104 ∧ ∀ i, i < n → R (f i) < 0) ∨ ∃ j, j < n ∧ b = f j ∧ l = R (f j) ∧ ¬ R (f j) < 0 ∧ ∀ i, i < n → ¬ R (f i) < 0 → l.toInt < (R (f i)).toInt ∨ (l = R (f i) ∧ od (f j) ≤ od (f i))
theorem kk_int {i : Nat} (hi : i < 23) : (kk_ i).toInt = (i : Int) - 11 := by
  unfold kk_
  have e1 := nI_toInt (show i < 2 ^ 31 by omega)
  have e2 : (-11 : Int32).toInt = -11 := by decide
  rw [w_add (by omega) (by omega)]
  omega
def ko_ck (i : Nat) : Bool := decide ((ko i).toInt = if i % 2 = 1 then -((((i + 1) / 2 : Nat)) : Int) else ((i / 2 : Nat) : Int))
theorem ko_all : ck_all ko_ck 23 = true := by decide +kernel
theorem ko_int {i : Nat} (hi : i < 23) : (ko i).toInt = if i % 2 = 1 then -((((i + 1) / 2 : Nat)) : Int) else ((i / 2 : Nat) : Int) := of_decide_eq_true (ck_at ko_all i hi)
theorem ko_od {i : Nat} (hi : i < 23) : od (ko i) = (i : Int) := by
  unfold od
  rw [ko_int hi]
  by_cases q : i % 2 = 1
  · rw [if_pos q, if_pos (by omega)]
    omega
  · rw [if_neg q, if_neg (by omega)]
    omega
theorem z_abs_i {k : Int32} (h1 : -11 ≤ k.toInt) (h2 : k.toInt ≤ 11) : (z_abs k).toInt = if k.toInt < 0 then -k.toInt else k.toInt := by
  have e0 : (0 : Int32).toInt = 0 := by decide
  unfold z_abs
  by_cases q : 0 ≤ k
  · have := w_le q
    rw [if_pos q, if_neg (by omega)]
  · have := w_lt (Int32.not_le.mp q)
    rw [if_neg q, if_pos (by omega)]
    rw [Int32.toInt_neg]
    exact Int.bmod_eq_of_le (by omega) (by omega)
theorem ky_B (R : Int32 → Int32) : ∀ n, n ≤ 23 → KB kk_ R n (kyS R n).2.1 (kyS R n).2.2 ∧ ((kyS R n).2.1 = -104 → (kyS R n).2.2 = -104)
  | 0, _ => ⟨Or.inl ⟨rfl, fun i hi => absurd hi (Nat.not_lt_zero _)⟩, fun _ => rfl⟩
  | n + 1, hn => by
    have ih := ky_B R n (by omega)
    have en : (kyS R (n + 1)).2 = ky1 (kk_ n) (R (kk_ n)) (kyS R n).2.1 (kyS R n).2.2 := rfl
    have kn := kk_int (show n < 23 by omega)
    have k104 : ∀ i, i < 23 → kk_ i ≠ -104 := fun i hi z => by
      have := kk_int hi
      rw [z] at this
      have e : (-104 : Int32).toInt = -104 := by decide
      omega
    rw [en]
    generalize (kyS R n).2.1 = b at *
    generalize (kyS R n).2.2 = l at *
    obtain ⟨ih, il⟩ := ih
    unfold ky1
    by_cases c : R (kk_ n) < 0
    · rw [if_pos c]
      refine ⟨?_, il⟩
      rcases ih with ⟨e, a⟩ | ⟨j, hj, e1, e2, e3, a⟩
      · refine Or.inl ⟨e, fun i hi => ?_⟩
        by_cases y : i = n
        · rw [y]; exact c
        · exact a i (by omega)
      · refine Or.inr ⟨j, by omega, e1, e2, e3, fun i hi hr => ?_⟩
        by_cases y : i = n
        · rw [y] at hr; exact absurd c hr
        · exact a i (by omega) hr
    · rw [if_neg c]
      by_cases d : b = -104
      · rw [if_pos d]
        refine ⟨?_, fun z => absurd z (k104 n (by omega))⟩
        rcases ih with ⟨e, a⟩ | ⟨j, hj, e1, e2, e3, a⟩
        · refine Or.inr ⟨n, by omega, rfl, rfl, c, fun i hi hr => ?_⟩
          by_cases y : i = n
          · rw [y]; exact Or.inr ⟨rfl, Int.le_refl _⟩
          · exact absurd (a i (by omega)) hr
        · exact absurd (e1.symm.trans d) (k104 j (by omega))
      · rw [if_neg d]
        rcases ih with ⟨e, a⟩ | ⟨j, hj, e1, e2, e3, a⟩
        · exact absurd e d
        · have kj := kk_int (show j < 23 by omega)
          have new : (R (kk_ n)).toInt < l.toInt ∨ (R (kk_ n) = l ∧ od (kk_ n) ≤ od (kk_ j)) → KB kk_ R (n + 1) (kk_ n) (R (kk_ n)) := fun w => by
            refine Or.inr ⟨n, by omega, rfl, rfl, c, fun i hi hr => ?_⟩
            by_cases y : i = n
            · rw [y]; exact Or.inr ⟨rfl, Int.le_refl _⟩
            · rcases a i (by omega) hr with z | ⟨z, z2⟩
              · left
                rcases w with w | ⟨w, -⟩
                · omega
                · rw [w]; exact z
              · rcases w with w | ⟨w, w2⟩
                · left; rw [← z]; exact w
                · right; exact ⟨w.trans z, by omega⟩
          have old : l.toInt < (R (kk_ n)).toInt ∨ (l = R (kk_ n) ∧ od (kk_ j) ≤ od (kk_ n)) → KB kk_ R (n + 1) b l := fun w => by
            refine Or.inr ⟨j, by omega, e1, e2, e3, fun i hi hr => ?_⟩
            by_cases y : i = n
            · rw [y]; exact w
            · exact a i (by omega) hr
          by_cases g : R (kk_ n) < l
          · rw [if_pos g]
            exact ⟨new (Or.inl (w_lt g)), fun z => absurd z (k104 n (by omega))⟩
          · rw [if_neg g]
            have g2 := w_nlt g
            by_cases m : R (kk_ n) = l
            · rw [if_pos m]
              have a1 := z_abs_i (k := b) (by rw [e1]; omega) (by rw [e1]; omega)
              have a2 := z_abs_i (k := kk_ n) (by omega) (by omega)
              rw [e1] at a1
              by_cases u : z_abs b ≤ z_abs (kk_ n)
              · rw [if_pos u]
                refine ⟨old (Or.inr ⟨m.symm, ?_⟩), fun z => absurd z d⟩
                have u2 := w_le u
                rw [e1, a1, a2] at u2
                unfold od
                split at u2 <;> split at u2 <;> (repeat' split) <;> omega
              · rw [if_neg u]
                refine ⟨new (Or.inr ⟨m, ?_⟩), fun z => absurd z (k104 n (by omega))⟩
                have u2 := w_lt (Int32.not_le.mp u)
                rw [e1, a1, a2] at u2
                unfold od
                split at u2 <;> split at u2 <;> (repeat' split) <;> omega
            · rw [if_neg m]
              refine ⟨old (Or.inl ?_), fun z => absurd z d⟩
              have : l.toInt ≠ (R (kk_ n)).toInt := fun z => m (Int32.toInt_inj.mp z.symm)
              omega
theorem km_B (I R : Int32 → Int32) (R2 : Int32 → Int32) (hR : ∀ k, R2 k = if I k = 0 then -2 else R k) : ∀ n, n ≤ 23 → KB ko R2 n (kmS I R n).2.1 (kmS I R n).2.2
  | 0, _ => Or.inl ⟨rfl, fun i hi => absurd hi (Nat.not_lt_zero _)⟩
  | n + 1, hn => by
    have ih := km_B I R R2 hR n (by omega)
    have kn := ko_od (show n < 23 by omega)
    have k104 : ∀ i, i < 23 → ko i ≠ -104 := fun i hi z => by
      have := ko_int hi
      rw [z] at this
      have e : (-104 : Int32).toInt = -104 := by decide
      rw [e] at this
      split at this <;> omega
    by_cases c0 : I (ko n) = 0
    · rw [kmS_0 c0]
      have rn : R2 (ko n) = -2 := by rw [hR, if_pos c0]
      have c : R2 (ko n) < 0 := by rw [rn]; decide
      rcases ih with ⟨e, a⟩ | ⟨j, hj, e1, e2, e3, a⟩
      · refine Or.inl ⟨e, fun i hi => ?_⟩
        by_cases y : i = n
        · rw [y]; exact c
        · exact a i (by omega)
      · refine Or.inr ⟨j, by omega, e1, e2, e3, fun i hi hr => ?_⟩
        by_cases y : i = n
        · rw [y] at hr; exact absurd c hr
        · exact a i (by omega) hr
    · rw [kmS_1 c0]
      have rn : R (ko n) = R2 (ko n) := by rw [hR, if_neg c0]
      dsimp only
      rw [rn]
      generalize (kmS I R n).2.1 = b at *
      generalize (kmS I R n).2.2 = l at *
      unfold km1
      by_cases c : R2 (ko n) < 0
      · rw [if_pos c]
        rcases ih with ⟨e, a⟩ | ⟨j, hj, e1, e2, e3, a⟩
        · refine Or.inl ⟨e, fun i hi => ?_⟩
          by_cases y : i = n
          · rw [y]; exact c
          · exact a i (by omega)
        · refine Or.inr ⟨j, by omega, e1, e2, e3, fun i hi hr => ?_⟩
          by_cases y : i = n
          · rw [y] at hr; exact absurd c hr
          · exact a i (by omega) hr
      · rw [if_neg c]
        by_cases d : b = -104
        · rw [if_pos d]
          rcases ih with ⟨e, a⟩ | ⟨j, hj, e1, e2, e3, a⟩
          · refine Or.inr ⟨n, by omega, rfl, rfl, c, fun i hi hr => ?_⟩
            by_cases y : i = n
            · rw [y]; exact Or.inr ⟨rfl, Int.le_refl _⟩
            · exact absurd (a i (by omega)) hr
          · exact absurd (e1.symm.trans d) (k104 j (by omega))
        · rw [if_neg d]
          rcases ih with ⟨e, a⟩ | ⟨j, hj, e1, e2, e3, a⟩
          · exact absurd e d
          · have kj := ko_od (show j < 23 by omega)
            by_cases g : l ≤ R2 (ko n)
            · rw [if_pos g]
              have g2 := w_le g
              refine Or.inr ⟨j, by omega, e1, e2, e3, fun i hi hr => ?_⟩
              by_cases y : i = n
              · rw [y]
                by_cases m : l = R2 (ko n)
                · exact Or.inr ⟨m, by omega⟩
                · have : l.toInt ≠ (R2 (ko n)).toInt := fun z => m (Int32.toInt_inj.mp z)
                  exact Or.inl (by omega)
              · exact a i (by omega) hr
            · rw [if_neg g]
              have g2 := w_lt (Int32.not_le.mp g)
              refine Or.inr ⟨n, by omega, rfl, rfl, c, fun i hi hr => ?_⟩
              by_cases y : i = n
              · rw [y]; exact Or.inr ⟨rfl, Int.le_refl _⟩
              · rcases a i (by omega) hr with z | ⟨z, z2⟩
                · exact Or.inl (by omega)
                · left; rw [← z]; exact g2
theorem kk_ko {i : Nat} (hi : i < 23) : ∃ j, j < 23 ∧ kk_ i = ko j := by
  have e := kk_int hi
  by_cases q : i < 11
  · refine ⟨2 * (11 - i) - 1, by omega, Int32.toInt_inj.mp ?_⟩
    rw [e, ko_int (by omega), if_pos (by omega)]
    omega
  · refine ⟨2 * (i - 11), by omega, Int32.toInt_inj.mp ?_⟩
    rw [e, ko_int (by omega), if_neg (by omega)]
    omega
theorem ko_kk {j : Nat} (hj : j < 23) : ∃ i, i < 23 ∧ ko j = kk_ i := by
  have e := ko_int hj
  by_cases q : j % 2 = 1
  · rw [if_pos q] at e
    refine ⟨11 - (j + 1) / 2, by omega, Int32.toInt_inj.mp ?_⟩
    rw [e, kk_int (by omega)]
    omega
  · rw [if_neg q] at e
    refine ⟨11 + j / 2, by omega, Int32.toInt_inj.mp ?_⟩
    rw [e, kk_int (by omega)]
    omega
theorem od_inj {a b : Int32} (h : od a = od b) : a = b := by
  unfold od at h
  refine Int32.toInt_inj.mp ?_
  split at h <;> split at h <;> omega
theorem KB.one {R : Int32 → Int32} {b b' l l' : Int32} (h1 : KB kk_ R 23 b l) (h2 : KB ko R 23 b' l') : b = b' ∧ (¬ b' = -104 → l = l') := by
  rcases h1 with ⟨e, a⟩ | ⟨j, hj, e1, e2, e3, a⟩
  · rcases h2 with ⟨e', a'⟩ | ⟨j', hj', e1', e2', e3', a'⟩
    · exact ⟨e.trans e'.symm, fun z => absurd e' z⟩
    · obtain ⟨i, hi, ei⟩ := ko_kk hj'
      exact absurd (a i hi) (by rw [← ei]; exact e3')
  · rcases h2 with ⟨e', a'⟩ | ⟨j', hj', e1', e2', e3', a'⟩
    · obtain ⟨i, hi, ei⟩ := kk_ko hj
      exact absurd (a' i hi) (by rw [← ei]; exact e3)
    · obtain ⟨i, hi, ei⟩ := ko_kk hj'
      obtain ⟨i', hi', ei'⟩ := kk_ko hj
      have x := a i hi (by rw [← ei]; exact e3')
      have y := a' i' hi' (by rw [← ei']; exact e3)
      rw [← ei, ← e2'] at x
      rw [← ei', ← e2] at y
      have ll : l = l' := by
        rcases x with x | x
        · rcases y with y | y
          · omega
          · exact y.1.symm
        · exact x.1
      have oo : od (kk_ j) = od (ko j') := by
        rcases x with x | x
        · rw [ll] at x; omega
        · rcases y with y | y
          · rw [ll] at y; omega
          · exact Int.le_antisymm x.2 y.2
      exact ⟨by rw [e1, e1', od_inj oo], fun _ => ll⟩
/-- how many keys go -/
def gn (R : Int32 → Int32) (k : Int32) : Nat := if R k = -2 then 0 else 1
def gs_ (f : Nat → Int32) (R : Int32 → Int32) : Nat → Nat
  | 0 => 0
  | i + 1 => gs_ f R i + gn R (f i)
theorem ky_g (R : Int32 → Int32) : ∀ n, (kyS R n).1 = nI (gs_ kk_ R n)
  | 0 => rfl
  | n + 1 => by
    have ih := ky_g R n
    show (if R (kk_ n) = -2 then (kyS R n).1 + 0 else (kyS R n).1 + 1) = nI (gs_ kk_ R n + gn R (kk_ n))
    unfold gn
    by_cases c : R (kk_ n) = -2
    · rw [if_pos c, if_pos c, ih, Int32.add_zero, Nat.add_zero]
    · rw [if_neg c, if_neg c, ih, nI_1]
theorem km_g (I R R2 : Int32 → Int32) (h2 : ∀ k, I k = 0 ↔ R2 k = -2) : ∀ n, (kmS I R n).1 = nI (gs_ ko R2 n)
  | 0 => rfl
  | n + 1 => by
    have ih := km_g I R R2 h2 n
    show _ = nI (gs_ ko R2 n + gn R2 (ko n))
    unfold gn
    by_cases c : I (ko n) = 0
    · rw [kmS_0 c, if_pos ((h2 _).mp c), Nat.add_zero, ih]
    · rw [kmS_1 c, if_neg (fun z => c ((h2 _).mpr z))]
      dsimp only
      rw [ih, nI_1]

theorem gs_kk_ (R : Int32 → Int32) : gs_ kk_ R 23 = 0 + gn R (-11) + gn R (-10) + gn R (-9) + gn R (-8) + gn R (-7) + gn R (-6) + gn R (-5) + gn R (-4) + gn R (-3) + gn R (-2) + gn R (-1) + gn R 0 + gn R 1 + gn R 2 + gn R 3 + gn R 4 + gn R 5 + gn R 6 + gn R 7 + gn R 8 + gn R 9 + gn R 10 + gn R 11 := by
  show 0 + gn R (kk_ 0) + gn R (kk_ 1) + gn R (kk_ 2) + gn R (kk_ 3) + gn R (kk_ 4) + gn R (kk_ 5) + gn R (kk_ 6) + gn R (kk_ 7) + gn R (kk_ 8) + gn R (kk_ 9) + gn R (kk_ 10) + gn R (kk_ 11) + gn R (kk_ 12) + gn R (kk_ 13) + gn R (kk_ 14) + gn R (kk_ 15) + gn R (kk_ 16) + gn R (kk_ 17) + gn R (kk_ 18) + gn R (kk_ 19) + gn R (kk_ 20) + gn R (kk_ 21) + gn R (kk_ 22) = _
  rw [show kk_ 0 = (-11) from by decide, show kk_ 1 = (-10) from by decide, show kk_ 2 = (-9) from by decide, show kk_ 3 = (-8) from by decide, show kk_ 4 = (-7) from by decide, show kk_ 5 = (-6) from by decide, show kk_ 6 = (-5) from by decide, show kk_ 7 = (-4) from by decide, show kk_ 8 = (-3) from by decide, show kk_ 9 = (-2) from by decide, show kk_ 10 = (-1) from by decide, show kk_ 11 = 0 from by decide, show kk_ 12 = 1 from by decide, show kk_ 13 = 2 from by decide, show kk_ 14 = 3 from by decide, show kk_ 15 = 4 from by decide, show kk_ 16 = 5 from by decide, show kk_ 17 = 6 from by decide, show kk_ 18 = 7 from by decide, show kk_ 19 = 8 from by decide, show kk_ 20 = 9 from by decide, show kk_ 21 = 10 from by decide, show kk_ 22 = 11 from by decide]

theorem gs_ko (R : Int32 → Int32) : gs_ ko R 23 = 0 + gn R 0 + gn R (-1) + gn R 1 + gn R (-2) + gn R 2 + gn R (-3) + gn R 3 + gn R (-4) + gn R 4 + gn R (-5) + gn R 5 + gn R (-6) + gn R 6 + gn R (-7) + gn R 7 + gn R (-8) + gn R 8 + gn R (-9) + gn R 9 + gn R (-10) + gn R 10 + gn R (-11) + gn R 11 := by
  show 0 + gn R (ko 0) + gn R (ko 1) + gn R (ko 2) + gn R (ko 3) + gn R (ko 4) + gn R (ko 5) + gn R (ko 6) + gn R (ko 7) + gn R (ko 8) + gn R (ko 9) + gn R (ko 10) + gn R (ko 11) + gn R (ko 12) + gn R (ko 13) + gn R (ko 14) + gn R (ko 15) + gn R (ko 16) + gn R (ko 17) + gn R (ko 18) + gn R (ko 19) + gn R (ko 20) + gn R (ko 21) + gn R (ko 22) = _
  rw [show ko 0 = 0 from by decide, show ko 1 = (-1) from by decide, show ko 2 = 1 from by decide, show ko 3 = (-2) from by decide, show ko 4 = 2 from by decide, show ko 5 = (-3) from by decide, show ko 6 = 3 from by decide, show ko 7 = (-4) from by decide, show ko 8 = 4 from by decide, show ko 9 = (-5) from by decide, show ko 10 = 5 from by decide, show ko 11 = (-6) from by decide, show ko 12 = 6 from by decide, show ko 13 = (-7) from by decide, show ko 14 = 7 from by decide, show ko 15 = (-8) from by decide, show ko 16 = 8 from by decide, show ko 17 = (-9) from by decide, show ko 18 = 9 from by decide, show ko 19 = (-10) from by decide, show ko 20 = 10 from by decide, show ko 21 = (-11) from by decide, show ko 22 = 11 from by decide]

theorem gs_one (R : Int32 → Int32) : gs_ kk_ R 23 = gs_ ko R 23 := by
  rw [gs_kk_, gs_ko]
  omega
theorem key_eq {h : Hp} (hB : Bx h) (hE : RE h) (hT : RTU h) (t q : Int32) : r_key h t q = m_key h t q := by
  unfold r_key m_key
  rw [← hT.2.2.1]
  by_cases c0 : z_has t (h 28 2) = 0
  · rw [if_pos c0, if_pos c0]
  · rw [if_neg c0, if_neg c0]
    by_cases c1 : z_wi q 0 2 = 0
    · rw [if_pos c1, if_pos c1]
    · rw [if_neg c1, if_neg c1]
      have c0m : ¬ z_has t (h 63 23) = 0 := by rw [← hT.2.2.1]; exact c0
      have hy : ∀ k, ¬ (yMr h t k).1 = -2 := fun k z => by
        have l24 : (h 73 t.toNatClampNeg).toNatClampNeg ≤ 24 := (B.nI (u := 24) (hB 73 _)).2
        rcases y_run_v (f := h 63 2) (v := h 63 3) (D := dM h t.toNatClampNeg (h 63 5).toNatClampNeg k) (S := sM h t.toNatClampNeg (h 63 5).toNatClampNeg k) (h 73 t.toNatClampNeg).toNatClampNeg 0 (h 63 0, h 63 1, h 63 4) 0 (by decide) with y | ⟨j, -, hj, ej⟩
        · rw [show y_run (h 63 2) (h 63 3) (dM h t.toNatClampNeg (h 63 5).toNatClampNeg k) (sM h t.toNatClampNeg (h 63 5).toNatClampNeg k) (h 73 t.toNatClampNeg).toNatClampNeg 0 (h 63 0, h 63 1, h 63 4) 0 = yMr h t k from rfl, z] at y
          exact absurd y (by decide)
        · rw [show y_run (h 63 2) (h 63 3) (dM h t.toNatClampNeg (h 63 5).toNatClampNeg k) (sM h t.toNatClampNeg (h 63 5).toNatClampNeg k) (h 73 t.toNatClampNeg).toNatClampNeg 0 (h 63 0, h 63 1, h 63 4) 0 = yMr h t k from rfl, z] at ej
          have e1 : (-100 : Int32).toInt = -100 := by decide
          have e2 := nI_toInt (show j < 2 ^ 31 by omega)
          have e3 := w_sub (x := -100) (y := nI j) (by omega) (by omega)
          rw [← ej] at e3
          have e4 : (-2 : Int32).toInt = -2 := by decide
          omega
      -- the model's trial, for every key
      let R2 : Int32 → Int32 := fun k => if inM h t k = 0 then -2 else (yMr h t k).1
      have hI : ∀ k, inM h t k = 0 ↔ R2 k = -2 := fun k => by
        show _ ↔ (if inM h t k = 0 then -2 else (yMr h t k).1) = -2
        by_cases c : inM h t k = 0
        · rw [if_pos c]; exact ⟨fun _ => rfl, fun _ => c⟩
        · rw [if_neg c]; exact ⟨fun z => absurd z c, fun z => absurd z (hy k)⟩
      have rr : ∀ i, i < 23 → r_try h t (kk_ i) = R2 (kk_ i) := fun i hi => by
        have e := kk_int hi
        have c2 : ¬ z_wi (kk_ i) (-11) 11 = 0 := by
          have e1 : (-11 : Int32).toInt = -11 := by decide
          have e2 : (11 : Int32).toInt = 11 := by decide
          unfold z_wi
          rw [if_neg (fun z => by have := w_lt z; omega), if_neg (fun z => by have := w_lt z; omega)]
          decide
        rw [(try_eq hB hE hT t (kk_ i)).1]
        unfold m_try
        rw [if_neg c0m, if_neg c2]
      have sy : ∀ n, n ≤ 23 → kyS (r_try h t) n = kyS R2 n := fun n hn => by
        induction n with
        | zero => rfl
        | succ n ih =>
          show (if r_try h t (kk_ n) = -2 then (kyS (r_try h t) n).1 + 0 else (kyS (r_try h t) n).1 + 1, ky1 (kk_ n) (r_try h t (kk_ n)) (kyS (r_try h t) n).2.1 (kyS (r_try h t) n).2.2) = _
          rw [rr n (by omega), ih (by omega)]
          rfl
      rw [sy 23 (Nat.le_refl _)]
      obtain ⟨b1, b2⟩ := ky_B R2 23 (Nat.le_refl _)
      have b3 := km_B (inM h t) (fun k => (yMr h t k).1) R2 (fun k => rfl) 23 (Nat.le_refl _)
      obtain ⟨o1, o2⟩ := KB.one b1 b3
      have g := (ky_g R2 23).trans ((congrArg nI (gs_one R2)).trans (km_g (inM h t) (fun k => (yMr h t k).1) R2 hI 23).symm)
      unfold kyA kmA
      rw [g]
      by_cases d : q = 2
      · rw [if_pos d, if_pos d]
      · rw [if_neg d, if_neg d, ← o1]
        by_cases f : (kyS R2 23).2.1 = -104
        · rw [if_pos f, f, b2 f]
          split <;> rfl
        · rw [if_neg f, o2 (by rw [← o1]; exact f)]
