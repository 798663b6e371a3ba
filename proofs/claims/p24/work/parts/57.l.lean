/-- a key's place in the model's order -/
def od (k : Int32) : Int := if k.toInt < 0 then -2 * k.toInt - 1 else 2 * k.toInt
/-- among the first n keys of f: none sounds, or (b, l) is the least that does, by its place -/
def KB (f : Nat → Int32) (R : Int32 → Int32) (n : Nat) (b l : Int32) : Prop := (b = -104 ∧ ∀ i, i < n → R (f i) < 0) ∨ ∃ j, j < n ∧ b = f j ∧ l = R (f j) ∧ ¬ R (f j) < 0 ∧ ∀ i, i < n → ¬ R (f i) < 0 → l.toInt < (R (f i)).toInt ∨ (l = R (f i) ∧ od (f j) ≤ od (f i))
theorem kk_int {i : Nat} (hi : i < 23) : (kk_ i).toInt = (i : Int) - 11 := by
  unfold kk_
  have e1 := nI_toInt (show i < 2 ^ 31 by omega)
  have e2 : (-11 : Int32).toInt = -11 := by decide
  rw [w_add (by omega) (by omega)]
  omega
def ko_ck (i : Nat) : Bool := decide ((ko i).toInt = if i % 2 = 1 then -((((i + 1) / 2 : Nat)) : Int) else ((i / 2 : Nat) : Int))
theorem ko_all : ck_all ko_ck 23 = true := by decide +kernel
theorem ko_int {i : Nat} (hi : i < 23) : (ko i).toInt = if i % 2 = 1 then -((((i + 1) / 2 : Nat)) : Int) else ((i / 2 : Nat) : Int) := of_decide_eq_true (ck_at ko_all i hi)
theorem ko_od {i : Nat} (hi : i < 23) : od (ko i) = (i : Int) := by
  unfold od
  rw [ko_int hi]
  by_cases q : i % 2 = 1
  · rw [if_pos q, if_pos (by omega)]
    omega
  · rw [if_neg q, if_neg (by omega)]
    omega
theorem z_abs_i {k : Int32} (h1 : -11 ≤ k.toInt) (h2 : k.toInt ≤ 11) : (z_abs k).toInt = if k.toInt < 0 then -k.toInt else k.toInt := by
  have e0 : (0 : Int32).toInt = 0 := by decide
  unfold z_abs
  by_cases q : 0 ≤ k
  · have := w_le q
    rw [if_pos q, if_neg (by omega)]
  · have := w_lt (Int32.not_le.mp q)
    rw [if_neg q, if_pos (by omega)]
    rw [Int32.toInt_neg]
    exact Int.bmod_eq_of_le (by omega) (by omega)
theorem ky_B (R : Int32 → Int32) : ∀ n, n ≤ 23 → KB kk_ R n (kyS R n).2.1 (kyS R n).2.2 ∧ ((kyS R n).2.1 = -104 → (kyS R n).2.2 = -104)
  | 0, _ => ⟨Or.inl ⟨rfl, fun i hi => absurd hi (Nat.not_lt_zero _)⟩, fun _ => rfl⟩
  | n + 1, hn => by
    have ih := ky_B R n (by omega)
    have en : (kyS R (n + 1)).2 = ky1 (kk_ n) (R (kk_ n)) (kyS R n).2.1 (kyS R n).2.2 := rfl
    have kn := kk_int (show n < 23 by omega)
    have k104 : ∀ i, i < 23 → kk_ i ≠ -104 := fun i hi z => by
      have := kk_int hi
      rw [z] at this
      have e : (-104 : Int32).toInt = -104 := by decide
      omega
    rw [en]
    generalize (kyS R n).2.1 = b at *
    generalize (kyS R n).2.2 = l at *
    obtain ⟨ih, il⟩ := ih
    unfold ky1
    by_cases c : R (kk_ n) < 0
    · rw [if_pos c]
      refine ⟨?_, il⟩
      rcases ih with ⟨e, a⟩ | ⟨j, hj, e1, e2, e3, a⟩
      · refine Or.inl ⟨e, fun i hi => ?_⟩
        by_cases y : i = n
        · rw [y]; exact c
        · exact a i (by omega)
      · refine Or.inr ⟨j, by omega, e1, e2, e3, fun i hi hr => ?_⟩
        by_cases y : i = n
        · rw [y] at hr; exact absurd c hr
        · exact a i (by omega) hr
    · rw [if_neg c]
      by_cases d : b = -104
      · rw [if_pos d]
        refine ⟨?_, fun z => absurd z (k104 n (by omega))⟩
        rcases ih with ⟨e, a⟩ | ⟨j, hj, e1, e2, e3, a⟩
        · refine Or.inr ⟨n, by omega, rfl, rfl, c, fun i hi hr => ?_⟩
          by_cases y : i = n
          · rw [y]; exact Or.inr ⟨rfl, Int.le_refl _⟩
          · exact absurd (a i (by omega)) hr
        · exact absurd (e1.symm.trans d) (k104 j (by omega))
      · rw [if_neg d]
        rcases ih with ⟨e, a⟩ | ⟨j, hj, e1, e2, e3, a⟩
        · exact absurd e d
        · have kj := kk_int (show j < 23 by omega)
          have new : (R (kk_ n)).toInt < l.toInt ∨ (R (kk_ n) = l ∧ od (kk_ n) ≤ od (kk_ j)) → KB kk_ R (n + 1) (kk_ n) (R (kk_ n)) := fun w => by
            refine Or.inr ⟨n, by omega, rfl, rfl, c, fun i hi hr => ?_⟩
            by_cases y : i = n
            · rw [y]; exact Or.inr ⟨rfl, Int.le_refl _⟩
            · rcases a i (by omega) hr with z | ⟨z, z2⟩
              · left
                rcases w with w | ⟨w, -⟩
                · omega
                · rw [w]; exact z
              · rcases w with w | ⟨w, w2⟩
                · left; rw [← z]; exact w
                · right; exact ⟨w.trans z, by omega⟩
          have old : l.toInt < (R (kk_ n)).toInt ∨ (l = R (kk_ n) ∧ od (kk_ j) ≤ od (kk_ n)) → KB kk_ R (n + 1) b l := fun w => by
            refine Or.inr ⟨j, by omega, e1, e2, e3, fun i hi hr => ?_⟩
            by_cases y : i = n
            · rw [y]; exact w
            · exact a i (by omega) hr
          by_cases g : R (kk_ n) < l
          · rw [if_pos g]
            exact ⟨new (Or.inl (w_lt g)), fun z => absurd z (k104 n (by omega))⟩
          · rw [if_neg g]
            have g2 := w_nlt g
            by_cases m : R (kk_ n) = l
            · rw [if_pos m]
              have a1 := z_abs_i (k := b) (by rw [e1]; omega) (by rw [e1]; omega)
              have a2 := z_abs_i (k := kk_ n) (by omega) (by omega)
              rw [e1] at a1
              by_cases u : z_abs b ≤ z_abs (kk_ n)
              · rw [if_pos u]
                refine ⟨old (Or.inr ⟨m.symm, ?_⟩), fun z => absurd z d⟩
                have u2 := w_le u
                rw [e1, a1, a2] at u2
                unfold od
                split at u2 <;> split at u2 <;> (repeat' split) <;> omega
              · rw [if_neg u]
                refine ⟨new (Or.inr ⟨m, ?_⟩), fun z => absurd z (k104 n (by omega))⟩
                have u2 := w_lt (Int32.not_le.mp u)
                rw [e1, a1, a2] at u2
                unfold od
                split at u2 <;> split at u2 <;> (repeat' split) <;> omega
            · rw [if_neg m]
              refine ⟨old (Or.inl ?_), fun z => absurd z d⟩
              have : l.toInt ≠ (R (kk_ n)).toInt := fun z => m (Int32.toInt_inj.mp z.symm)
              omega
theorem km_B (I R : Int32 → Int32) (R2 : Int32 → Int32) (hR : ∀ k, R2 k = if I k = 0 then -2 else R k) : ∀ n, n ≤ 23 → KB ko R2 n (kmS I R n).2.1 (kmS I R n).2.2
  | 0, _ => Or.inl ⟨rfl, fun i hi => absurd hi (Nat.not_lt_zero _)⟩
  | n + 1, hn => by
    have ih := km_B I R R2 hR n (by omega)
    have kn := ko_od (show n < 23 by omega)
    have k104 : ∀ i, i < 23 → ko i ≠ -104 := fun i hi z => by
      have := ko_int hi
      rw [z] at this
      have e : (-104 : Int32).toInt = -104 := by decide
      rw [e] at this
      split at this <;> omega
    by_cases c0 : I (ko n) = 0
    · rw [kmS_0 c0]
      have rn : R2 (ko n) = -2 := by rw [hR, if_pos c0]
      have c : R2 (ko n) < 0 := by rw [rn]; decide
      rcases ih with ⟨e, a⟩ | ⟨j, hj, e1, e2, e3, a⟩
      · refine Or.inl ⟨e, fun i hi => ?_⟩
        by_cases y : i = n
        · rw [y]; exact c
        · exact a i (by omega)
      · refine Or.inr ⟨j, by omega, e1, e2, e3, fun i hi hr => ?_⟩
        by_cases y : i = n
        · rw [y] at hr; exact absurd c hr
        · exact a i (by omega) hr
    · rw [kmS_1 c0]
      have rn : R (ko n) = R2 (ko n) := by rw [hR, if_neg c0]
      dsimp only
      rw [rn]
      generalize (kmS I R n).2.1 = b at *
      generalize (kmS I R n).2.2 = l at *
      unfold km1
      by_cases c : R2 (ko n) < 0
      · rw [if_pos c]
        rcases ih with ⟨e, a⟩ | ⟨j, hj, e1, e2, e3, a⟩
        · refine Or.inl ⟨e, fun i hi => ?_⟩
          by_cases y : i = n
          · rw [y]; exact c
          · exact a i (by omega)
        · refine Or.inr ⟨j, by omega, e1, e2, e3, fun i hi hr => ?_⟩
          by_cases y : i = n
          · rw [y] at hr; exact absurd c hr
          · exact a i (by omega) hr
      · rw [if_neg c]
        by_cases d : b = -104
        · rw [if_pos d]
          rcases ih with ⟨e, a⟩ | ⟨j, hj, e1, e2, e3, a⟩
          · refine Or.inr ⟨n, by omega, rfl, rfl, c, fun i hi hr => ?_⟩
            by_cases y : i = n
            · rw [y]; exact Or.inr ⟨rfl, Int.le_refl _⟩
            · exact absurd (a i (by omega)) hr
          · exact absurd (e1.symm.trans d) (k104 j (by omega))
        · rw [if_neg d]
          rcases ih with ⟨e, a⟩ | ⟨j, hj, e1, e2, e3, a⟩
          · exact absurd e d
          · have kj := ko_od (show j < 23 by omega)
            by_cases g : l ≤ R2 (ko n)
            · rw [if_pos g]
              show KB ko R2 (n + 1) b l
              have g2 := w_le g
              refine Or.inr ⟨j, by omega, e1, e2, e3, fun i hi hr => ?_⟩
              by_cases y : i = n
              · rw [y]
                by_cases m : l = R2 (ko n)
                · exact Or.inr ⟨m, by omega⟩
                · have : l.toInt ≠ (R2 (ko n)).toInt := fun z => m (Int32.toInt_inj.mp z)
                  exact Or.inl (by omega)
              · exact a i (by omega) hr
            · rw [if_neg g]
              show KB ko R2 (n + 1) (ko n) (R2 (ko n))
              have g2 := w_lt (Int32.not_le.mp g)
              refine Or.inr ⟨n, by omega, rfl, rfl, c, fun i hi hr => ?_⟩
              by_cases y : i = n
              · rw [y]; exact Or.inr ⟨rfl, Int.le_refl _⟩
              · rcases a i (by omega) hr with z | ⟨z, z2⟩
                · exact Or.inl (by omega)
                · left; rw [← z]; exact g2
theorem kk_ko {i : Nat} (hi : i < 23) : ∃ j, j < 23 ∧ kk_ i = ko j := by
  have e := kk_int hi
  by_cases q : i < 11
  · refine ⟨2 * (11 - i) - 1, by omega, Int32.toInt_inj.mp ?_⟩
    rw [e, ko_int (by omega), if_pos (by omega)]
    omega
  · refine ⟨2 * (i - 11), by omega, Int32.toInt_inj.mp ?_⟩
    rw [e, ko_int (by omega), if_neg (by omega)]
    omega
theorem ko_kk {j : Nat} (hj : j < 23) : ∃ i, i < 23 ∧ ko j = kk_ i := by
  have e := ko_int hj
  by_cases q : j % 2 = 1
  · rw [if_pos q] at e
    refine ⟨11 - (j + 1) / 2, by omega, Int32.toInt_inj.mp ?_⟩
    rw [e, kk_int (by omega)]
    omega
  · rw [if_neg q] at e
    refine ⟨11 + j / 2, by omega, Int32.toInt_inj.mp ?_⟩
    rw [e, kk_int (by omega)]
    omega
theorem od_inj {a b : Int32} (h : od a = od b) : a = b := by
  unfold od at h
  refine Int32.toInt_inj.mp ?_
  split at h <;> split at h <;> omega
theorem KB.one {R : Int32 → Int32} {b b' l l' : Int32} (h1 : KB kk_ R 23 b l) (h2 : KB ko R 23 b' l') : b = b' ∧ (¬ b' = -104 → l = l') := by
  rcases h1 with ⟨e, a⟩ | ⟨j, hj, e1, e2, e3, a⟩
  · rcases h2 with ⟨e', a'⟩ | ⟨j', hj', e1', e2', e3', a'⟩
    · exact ⟨e.trans e'.symm, fun z => absurd e' z⟩
    · obtain ⟨i, hi, ei⟩ := ko_kk hj'
      exact absurd (a i hi) (by rw [← ei]; exact e3')
  · rcases h2 with ⟨e', a'⟩ | ⟨j', hj', e1', e2', e3', a'⟩
    · obtain ⟨i, hi, ei⟩ := kk_ko hj
      exact absurd (a' i hi) (by rw [← ei]; exact e3)
    · obtain ⟨i, hi, ei⟩ := ko_kk hj'
      obtain ⟨i', hi', ei'⟩ := kk_ko hj
      have x := a i hi (by rw [← ei]; exact e3')
      have y := a' i' hi' (by rw [← ei']; exact e3)
      rw [← ei, ← e2'] at x
      rw [← ei', ← e2] at y
      have ll : l = l' := by
        rcases x with x | x
        · rcases y with y | y
          · omega
          · exact y.1.symm
        · exact x.1
      have oo : od (kk_ j) = od (ko j') := by
        rcases x with x | x
        · rw [ll] at x; omega
        · rcases y with y | y
          · rw [ll] at y; omega
          · exact Int.le_antisymm x.2 y.2
      exact ⟨by rw [e1, e1', od_inj oo], fun _ => ll⟩
/-- how many keys go -/
def gn (R : Int32 → Int32) (k : Int32) : Nat := if R k = -2 then 0 else 1
def gs_ (f : Nat → Int32) (R : Int32 → Int32) : Nat → Nat
  | 0 => 0
  | i + 1 => gs_ f R i + gn R (f i)
theorem ky_g (R : Int32 → Int32) : ∀ n, (kyS R n).1 = nI (gs_ kk_ R n)
  | 0 => rfl
  | n + 1 => by
    have ih := ky_g R n
    show (if R (kk_ n) = -2 then (kyS R n).1 + 0 else (kyS R n).1 + 1) = nI (gs_ kk_ R n + gn R (kk_ n))
    unfold gn
    by_cases c : R (kk_ n) = -2
    · rw [if_pos c, if_pos c, ih, Int32.add_zero, Nat.add_zero]
    · rw [if_neg c, if_neg c, ih, nI_1]
theorem km_g (I R R2 : Int32 → Int32) (h2 : ∀ k, I k = 0 ↔ R2 k = -2) : ∀ n, (kmS I R n).1 = nI (gs_ ko R2 n)
  | 0 => rfl
  | n + 1 => by
    have ih := km_g I R R2 h2 n
    show _ = nI (gs_ ko R2 n + gn R2 (ko n))
    unfold gn
    by_cases c : I (ko n) = 0
    · rw [kmS_0 c, if_pos ((h2 _).mp c), Nat.add_zero, ih]
    · rw [kmS_1 c, if_neg (fun z => c ((h2 _).mpr z))]
      dsimp only
      rw [ih, nI_1]

theorem sum23 (a : Nat → Nat) : 0 + a 0 + a 1 + a 2 + a 3 + a 4 + a 5 + a 6 + a 7 + a 8 + a 9 + a 10 + a 11 + a 12 + a 13 + a 14 + a 15 + a 16 + a 17 + a 18 + a 19 + a 20 + a 21 + a 22 = 0 + a 11 + a 10 + a 12 + a 9 + a 13 + a 8 + a 14 + a 7 + a 15 + a 6 + a 16 + a 5 + a 17 + a 4 + a 18 + a 3 + a 19 + a 2 + a 20 + a 1 + a 21 + a 0 + a 22 := by omega

theorem gs_one (R : Int32 → Int32) : gs_ kk_ R 23 = gs_ ko R 23 := by
  have ekk_0 : gs_ kk_ R 1 = gs_ kk_ R 0 + gn R (kk_ 0) := rfl
  have ekk_1 : gs_ kk_ R 2 = gs_ kk_ R 1 + gn R (kk_ 1) := rfl
  have ekk_2 : gs_ kk_ R 3 = gs_ kk_ R 2 + gn R (kk_ 2) := rfl
  have ekk_3 : gs_ kk_ R 4 = gs_ kk_ R 3 + gn R (kk_ 3) := rfl
  have ekk_4 : gs_ kk_ R 5 = gs_ kk_ R 4 + gn R (kk_ 4) := rfl
  have ekk_5 : gs_ kk_ R 6 = gs_ kk_ R 5 + gn R (kk_ 5) := rfl
  have ekk_6 : gs_ kk_ R 7 = gs_ kk_ R 6 + gn R (kk_ 6) := rfl
  have ekk_7 : gs_ kk_ R 8 = gs_ kk_ R 7 + gn R (kk_ 7) := rfl
  have ekk_8 : gs_ kk_ R 9 = gs_ kk_ R 8 + gn R (kk_ 8) := rfl
  have ekk_9 : gs_ kk_ R 10 = gs_ kk_ R 9 + gn R (kk_ 9) := rfl
  have ekk_10 : gs_ kk_ R 11 = gs_ kk_ R 10 + gn R (kk_ 10) := rfl
  have ekk_11 : gs_ kk_ R 12 = gs_ kk_ R 11 + gn R (kk_ 11) := rfl
  have ekk_12 : gs_ kk_ R 13 = gs_ kk_ R 12 + gn R (kk_ 12) := rfl
  have ekk_13 : gs_ kk_ R 14 = gs_ kk_ R 13 + gn R (kk_ 13) := rfl
  have ekk_14 : gs_ kk_ R 15 = gs_ kk_ R 14 + gn R (kk_ 14) := rfl
  have ekk_15 : gs_ kk_ R 16 = gs_ kk_ R 15 + gn R (kk_ 15) := rfl
  have ekk_16 : gs_ kk_ R 17 = gs_ kk_ R 16 + gn R (kk_ 16) := rfl
  have ekk_17 : gs_ kk_ R 18 = gs_ kk_ R 17 + gn R (kk_ 17) := rfl
  have ekk_18 : gs_ kk_ R 19 = gs_ kk_ R 18 + gn R (kk_ 18) := rfl
  have ekk_19 : gs_ kk_ R 20 = gs_ kk_ R 19 + gn R (kk_ 19) := rfl
  have ekk_20 : gs_ kk_ R 21 = gs_ kk_ R 20 + gn R (kk_ 20) := rfl
  have ekk_21 : gs_ kk_ R 22 = gs_ kk_ R 21 + gn R (kk_ 21) := rfl
  have ekk_22 : gs_ kk_ R 23 = gs_ kk_ R 22 + gn R (kk_ 22) := rfl
  have eko0 : gs_ ko R 1 = gs_ ko R 0 + gn R (ko 0) := rfl
  have eko1 : gs_ ko R 2 = gs_ ko R 1 + gn R (ko 1) := rfl
  have eko2 : gs_ ko R 3 = gs_ ko R 2 + gn R (ko 2) := rfl
  have eko3 : gs_ ko R 4 = gs_ ko R 3 + gn R (ko 3) := rfl
  have eko4 : gs_ ko R 5 = gs_ ko R 4 + gn R (ko 4) := rfl
  have eko5 : gs_ ko R 6 = gs_ ko R 5 + gn R (ko 5) := rfl
  have eko6 : gs_ ko R 7 = gs_ ko R 6 + gn R (ko 6) := rfl
  have eko7 : gs_ ko R 8 = gs_ ko R 7 + gn R (ko 7) := rfl
  have eko8 : gs_ ko R 9 = gs_ ko R 8 + gn R (ko 8) := rfl
  have eko9 : gs_ ko R 10 = gs_ ko R 9 + gn R (ko 9) := rfl
  have eko10 : gs_ ko R 11 = gs_ ko R 10 + gn R (ko 10) := rfl
  have eko11 : gs_ ko R 12 = gs_ ko R 11 + gn R (ko 11) := rfl
  have eko12 : gs_ ko R 13 = gs_ ko R 12 + gn R (ko 12) := rfl
  have eko13 : gs_ ko R 14 = gs_ ko R 13 + gn R (ko 13) := rfl
  have eko14 : gs_ ko R 15 = gs_ ko R 14 + gn R (ko 14) := rfl
  have eko15 : gs_ ko R 16 = gs_ ko R 15 + gn R (ko 15) := rfl
  have eko16 : gs_ ko R 17 = gs_ ko R 16 + gn R (ko 16) := rfl
  have eko17 : gs_ ko R 18 = gs_ ko R 17 + gn R (ko 17) := rfl
  have eko18 : gs_ ko R 19 = gs_ ko R 18 + gn R (ko 18) := rfl
  have eko19 : gs_ ko R 20 = gs_ ko R 19 + gn R (ko 19) := rfl
  have eko20 : gs_ ko R 21 = gs_ ko R 20 + gn R (ko 20) := rfl
  have eko21 : gs_ ko R 22 = gs_ ko R 21 + gn R (ko 21) := rfl
  have eko22 : gs_ ko R 23 = gs_ ko R 22 + gn R (ko 22) := rfl
  have z1 : gs_ kk_ R 0 = 0 := rfl
  have z2 : gs_ ko R 0 = 0 := rfl
  rw [ekk_22, ekk_21, ekk_20, ekk_19, ekk_18, ekk_17, ekk_16, ekk_15, ekk_14, ekk_13, ekk_12, ekk_11, ekk_10, ekk_9, ekk_8, ekk_7, ekk_6, ekk_5, ekk_4, ekk_3, ekk_2, ekk_1, ekk_0, z1, eko22, eko21, eko20, eko19, eko18, eko17, eko16, eko15, eko14, eko13, eko12, eko11, eko10, eko9, eko8, eko7, eko6, eko5, eko4, eko3, eko2, eko1, eko0, z2, show ko 0 = kk_ 11 from by decide, show ko 1 = kk_ 10 from by decide, show ko 2 = kk_ 12 from by decide, show ko 3 = kk_ 9 from by decide, show ko 4 = kk_ 13 from by decide, show ko 5 = kk_ 8 from by decide, show ko 6 = kk_ 14 from by decide, show ko 7 = kk_ 7 from by decide, show ko 8 = kk_ 15 from by decide, show ko 9 = kk_ 6 from by decide, show ko 10 = kk_ 16 from by decide, show ko 11 = kk_ 5 from by decide, show ko 12 = kk_ 17 from by decide, show ko 13 = kk_ 4 from by decide, show ko 14 = kk_ 18 from by decide, show ko 15 = kk_ 3 from by decide, show ko 16 = kk_ 19 from by decide, show ko 17 = kk_ 2 from by decide, show ko 18 = kk_ 20 from by decide, show ko 19 = kk_ 1 from by decide, show ko 20 = kk_ 21 from by decide, show ko 21 = kk_ 0 from by decide, show ko 22 = kk_ 22 from by decide]
  exact sum23 (fun i => gn R (kk_ i))

theorem key_eq {h : Hp} (hB : Bx h) (hE : RE h) (hT : RTU h) (t q : Int32) : r_key h t q = mKey h t q := by
  unfold r_key mKey
  rw [← hT.2.2.1]
  by_cases c0 : z_has t (h 28 2) = 0
  · rw [if_pos c0, if_pos c0]
  · rw [if_neg c0, if_neg c0]
    by_cases c1 : z_wi q 0 2 = 0
    · rw [if_pos c1, if_pos c1]
    · rw [if_neg c1, if_neg c1]
      have c0m : ¬ z_has t (h 63 23) = 0 := by rw [← hT.2.2.1]; exact c0
      have hy : ∀ k, ¬ (yMr h t k).1 = -2 := fun k z => by
        have l24 : (h 73 t.toNatClampNeg).toNatClampNeg ≤ 24 := (B.nI (u := 24) (hB 73 _)).2
        rcases y_run_v (f := h 63 2) (v := h 63 3) (D := dM h t.toNatClampNeg (h 63 5).toNatClampNeg k) (S := sM h t.toNatClampNeg (h 63 5).toNatClampNeg k) (h 73 t.toNatClampNeg).toNatClampNeg 0 (h 63 0, h 63 1, h 63 4) 0 (by decide) with y | ⟨j, -, hj, ej⟩
        · rw [show y_run (h 63 2) (h 63 3) (dM h t.toNatClampNeg (h 63 5).toNatClampNeg k) (sM h t.toNatClampNeg (h 63 5).toNatClampNeg k) (h 73 t.toNatClampNeg).toNatClampNeg 0 (h 63 0, h 63 1, h 63 4) 0 = yMr h t k from rfl, z] at y
          exact absurd y (by decide)
        · rw [show y_run (h 63 2) (h 63 3) (dM h t.toNatClampNeg (h 63 5).toNatClampNeg k) (sM h t.toNatClampNeg (h 63 5).toNatClampNeg k) (h 73 t.toNatClampNeg).toNatClampNeg 0 (h 63 0, h 63 1, h 63 4) 0 = yMr h t k from rfl, z] at ej
          have e1 : (-100 : Int32).toInt = -100 := by decide
          have e2 := nI_toInt (show j < 2 ^ 31 by omega)
          have e3 := w_sub (x := -100) (y := nI j) (by omega) (by omega)
          rw [← ej] at e3
          have e4 : (-2 : Int32).toInt = -2 := by decide
          omega
      -- the model's trial, for every key
      obtain ⟨R2, hR2⟩ : ∃ R2 : Int32 → Int32, ∀ k, R2 k = if inM h t k = 0 then -2 else (yMr h t k).1 := ⟨_, fun _ => rfl⟩
      have hI : ∀ k, inM h t k = 0 ↔ R2 k = -2 := fun k => by
        rw [hR2]
        by_cases c : inM h t k = 0
        · rw [if_pos c]; exact ⟨fun _ => rfl, fun _ => c⟩
        · rw [if_neg c]; exact ⟨fun z => absurd z c, fun z => absurd z (hy k)⟩
      have rr : ∀ i, i < 23 → r_try h t (kk_ i) = R2 (kk_ i) := fun i hi => by
        have e := kk_int hi
        have c2 : ¬ z_wi (kk_ i) (-11) 11 = 0 := by
          have e1 : (-11 : Int32).toInt = -11 := by decide
          have e2 : (11 : Int32).toInt = 11 := by decide
          unfold z_wi
          rw [if_neg (fun z => by have := w_lt z; omega), if_neg (fun z => by have := w_lt z; omega)]
          decide
        rw [(try_eq hB hE hT t (kk_ i)).1, hR2]
        unfold m_try
        rw [if_neg c0m, if_neg c2]
      have sy : ∀ n, n ≤ 23 → kyS (r_try h t) n = kyS R2 n := fun n hn => by
        induction n with
        | zero => rw [kyS_0, kyS_0]
        | succ n ih => rw [kyS_s, kyS_s, rr n (by omega), ih (by omega)]
      rw [sy 23 (Nat.le_refl _)]
      obtain ⟨b1, b2⟩ := ky_B R2 23 (Nat.le_refl _)
      have b3 := km_B (inM h t) (fun k => (yMr h t k).1) R2 hR2 23 (Nat.le_refl _)
      obtain ⟨o1, o2⟩ := KB.one b1 b3
      have g := (ky_g R2 23).trans ((congrArg nI (gs_one R2)).trans (km_g (inM h t) (fun k => (yMr h t k).1) R2 hI 23).symm)
      unfold kyA kmA
      rw [g]
      by_cases d : q = 2
      · rw [if_pos d, if_pos d]
      · rw [if_neg d, if_neg d, ← o1]
        by_cases f : (kyS R2 23).2.1 = -104
        · rw [if_pos f, f, b2 f]
          split <;> rfl
        · rw [if_neg f, o2 (by rw [← o1]; exact f)]

