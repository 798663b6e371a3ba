/-! the same way over another next pressure -/
theorem q_bst_n {f g : Nat → Nat} {al : Nat} : ∀ n, (∀ y, y ≤ n → f y = g y) → q_bst f al n = q_bst g al n
  | 0, _ => rfl
  | n + 1, e => by
    have ih := q_bst_n (al := al) n (fun y hy => e y (by omega))
    have l := (q_bst_sub g al n).2
    unfold q_bst
    rw [ih, e (n + 1) (Nat.le_refl _), e (q_bst g al n) (by omega)]
theorem q_vS_n {K U : Nat} {N N' : Nat → Nat → Nat} (e : ∀ p y, y < U → N p y = N' p y) {F : Nat → Nat} {p al : Nat} (ha : al < U) : q_vS K N F p al = q_vS K N' F p al ∧ q_bsx (q_wr K N F p) al = q_bsx (q_wr K N' F p) al := by
  have w : ∀ y, y ≤ al → q_wr K N F p y = q_wr K N' F p y := fun y hy => by
    unfold q_wr
    rw [e p y (by omega)]
  have b : q_bsx (q_wr K N F p) al = q_bsx (q_wr K N' F p) al := q_bst_n al w
  refine ⟨?_, b⟩
  unfold q_vS
  rw [b]
  exact w _ (q_bst_sub _ _ _).2
theorem q_nx_n {K U : Nat} {N N' : Nat → Nat → Nat} (h0 : 0 < U) (e : ∀ p y, y < U → N p y = N' p y) {F : Nat → Nat → Nat} {A : Nat → Nat} (hA : ∀ p, A p < U) : ∀ r p, q_nx K N F A r p = q_nx K N' F A r p
  | 0, p => (q_vS_n e (hA p)).1
  | r + 1, p => by
    unfold q_nx
    rw [(q_vS_n e (hA p)).1, e p 0 h0, q_nx_n h0 e hA r]
theorem q_rst_n {K U : Nat} {N N' : Nat → Nat → Nat} (h0 : 0 < U) (e : ∀ p y, y < U → N p y = N' p y) {F : Nat → Nat → Nat} {A : Nat → Nat} (hA : ∀ p, A p < U) : ∀ r p, q_rst K N F A r p = q_rst K N' F A r p
  | 0, p => rfl
  | r + 1, p => by
    unfold q_rst
    rw [(q_vS_n e (hA p)).1, q_nx_n h0 e hA, e p 0 h0, q_rst_n h0 e hA r]
theorem q_TT_n {K U : Nat} {N N' : Nat → Nat → Nat} (h0 : 0 < U) (e : ∀ p y, y < U → N p y = N' p y) {A : Nat → Nat → Nat} {M : Nat} (hA : ∀ i, i < M → ∀ p, A i p < U) : ∀ t i, i + t = M → q_TT K N A t i = q_TT K N' A t i
  | 0, i, _ => rfl
  | t + 1, i, hi => by
    show q_nx K N (q_TT K N A t (i + 1)) (A i) = q_nx K N' (q_TT K N' A t (i + 1)) (A i)
    rw [q_TT_n h0 e hA t (i + 1) (by omega)]
    funext r p
    exact q_nx_n h0 e (hA i (by omega)) r p
theorem q_fo_n {K U : Nat} {N N' : Nat → Nat → Nat} (h0 : 0 < U) (e : ∀ p y, y < U → N p y = N' p y) {A : Nat → Nat → Nat} {M R p0 : Nat} (hA : ∀ i, i < M → ∀ p, A i p < U) : (∀ i, i ≤ M → q_fo K N A M R p0 i = q_fo K N' A M R p0 i) ∧ ∀ i, i < M → q_fsd K N A M R p0 i = q_fsd K N' A M R p0 i ∧ q_fah K N A M R p0 i = q_fah K N' A M R p0 i := by
  have z : ∀ i, i < M → ∀ r p, q_fz K N A M i r p = q_fz K N' A M i r p ∧ q_fy K N A M i r p = q_fy K N' A M i r p := fun i hi r p => by
    have tt := q_TT_n (K := K) h0 e hA (M - (i + 1)) (i + 1) (by omega)
    unfold q_fz q_fy
    rw [tt]
    exact ⟨q_rst_n h0 e (hA i hi) r p, (q_vS_n e (hA i hi p)).2⟩
  have ly : ∀ i, i < M → ∀ r p, q_fy K N' A M i r p < U := fun i hi r p => Nat.lt_of_le_of_lt (q_bst_sub _ _ _).2 (hA i hi p)
  have f : ∀ i, i ≤ M → q_fo K N A M R p0 i = q_fo K N' A M R p0 i := by
    intro i
    induction i with
    | zero => intro _; rfl
    | succ i ih =>
      intro hi
      unfold q_fo
      rw [ih (by omega), (z i (by omega) _ _).1, (z i (by omega) _ _).2, e _ _ (ly i (by omega) _ _)]
  refine ⟨f, fun i hi => ?_⟩
  unfold q_fsd q_fah
  rw [f i (by omega), (z i hi _ _).1, (z i hi _ _).2]
  exact ⟨rfl, rfl⟩
/-! more whistles -/
theorem and_hi {x j m : Nat} (a : Nat) (hx : x < 2 ^ m) (hj : m ≤ j) : x &&& (a ||| 2 ^ j) = x &&& a := by
  refine Nat.eq_of_testBit_eq (fun i => ?_)
  rw [Nat.testBit_and, Nat.testBit_and, Nat.testBit_or]
  by_cases hi : i < m
  · rw [Nat.testBit_two_pow_of_ne (by omega), Bool.or_false]
  · rw [Nat.testBit_lt_two_pow (Nat.lt_of_lt_of_le hx (Nat.pow_le_pow_right (by decide) (by omega)))]
    rfl
theorem nm_low {P : Nat → Bool} {x m : Nat} (hx : x < 2 ^ m) : ∀ s, x &&& q_nm P (m + s) = x &&& q_nm P m
  | 0 => rfl
  | s + 1 => by
    have ih := nm_low (P := P) hx s
    show x &&& (if P (m + s) = true then q_nm P (m + s) ||| 2 ^ (m + s) else q_nm P (m + s)) = _
    split
    · rw [and_hi _ hx (by omega)]; exact ih
    · exact ih
theorem drawn_low {h z : Hp} {m y : Nat} (hy : y < 2 ^ m) (lk : Int32) (e6 : ∀ w, w < m → z 6 w = h 6 w) (hl : ∀ w, m ≤ w → w < 12 → lk >>> (nI w &&& 31) &&& 1 = 0) : (∀ w, w ≤ m → s_drawn z (nI y) lk w = s_drawn h (nI y) lk w) ∧ ∀ s, m + s ≤ 12 → s_drawn z (nI y) lk (m + s) = s_drawn h (nI y) lk m := by
  have a : ∀ w, w ≤ m → s_drawn z (nI y) lk w = s_drawn h (nI y) lk w := by
    intro w
    induction w with
    | zero => intro _; rfl
    | succ w ih =>
      intro hw
      unfold s_drawn
      rw [ih (by omega), e6 w (by omega)]
  refine ⟨a, fun s => ?_⟩
  induction s with
  | zero => intro _; exact a m (Nat.le_refl _)
  | succ s ih =>
    intro hs
    show s_drawn z (nI y) lk (m + s + 1) = _
    conv => lhs; unfold s_drawn
    rw [nI_bit y (show m + s < 12 by omega), Nat.testBit_lt_two_pow (Nat.lt_of_lt_of_le hy (Nat.pow_le_pow_right (n := 2) (by decide) (by omega)))]
    rw [hl (m + s) (by omega) (by omega), if_pos (by rfl), if_pos rfl]
    exact ih (by omega)
theorem RSo.grow {h z : Hp} (hB : Bx h) (hBz : Bx z) (hS : RSo h) (hE : RE h) (hJ : JW [(4, 7), (5, 999), (6, 999), (7, 999), (8, 999)] h z) (ho : ∀ w, w < nW h → z 6 w = h 6 w ∧ z 7 w = h 7 w) (hn : nW h ≤ nW z) : RSo z := by
  obtain ⟨-, hW, -⟩ := hE
  have l12 : nW z ≤ 12 := (B.nI (u := 12) (hBz 4 7)).2
  have e44 : ∀ j, z 44 j = h 44 j := fun j => hJ.2 44 j rfl
  have e36 : ∀ j, z 36 j = h 36 j := fun j => hJ.2 36 j rfl
  have hl : ∀ w, nW h ≤ w → w < 12 → h 4 6 >>> (nI w &&& 31) &&& 1 = 0 := fun w a b => (hW.2.2 w a b).2.2
  rcases hS with q | ⟨q1, q2⟩
  · exact Or.inl ((hJ.2 37 15 rfl).trans q)
  · refine Or.inr ⟨by rw [e44, hJ.2 11 3 rfl]; exact q1, fun q => ?_⟩
    rw [e44, hJ.2 11 3 rfl] at q
    obtain ⟨s1, s2, s3⟩ := q2 q
    rw [e44, e44, e44, e44]
    generalize h 44 0 = t at *
    generalize h 44 1 = k at *
    generalize h 44 2 = d at *
    generalize h 44 3 = R at *
    have tn : t.toNatClampNeg < 6 := by
      have b6 : B (h 28 2) 0 6 := hB 28 2
      have y := z_has_B b6 s1
      have p : B t 0 ((5 : Nat) : Int) := ⟨y.1, by have := b6.2; omega⟩
      have := (B.nI p).2
      omega
    have e30 : ∀ j, z (30 + t.toNatClampNeg) j = h (30 + t.toNatClampNeg) j := fun j => by
      generalize t.toNatClampNeg = n at tn
      rcases (show n = 0 ∨ n = 1 ∨ n = 2 ∨ n = 3 ∨ n = 4 ∨ n = 5 by omega) with rfl | rfl | rfl | rfl | rfl | rfl <;> exact hJ.2 _ j rfl
    have eC : pC z t k = pC h t k := funext (fun i => by unfold pC; rw [e30])
    have eM : pM z t = pM h t := by unfold pM; rw [e36]
    have eP : pP z = pP h := by unfold pP; rw [hJ.2 2 0 rfl]
    have pw : 2 ^ nW h ≤ 2 ^ nW z := Nat.pow_le_pow_right (by decide) hn
    have eA : ∀ i, i < pM h t → pA z t k d i = pA h t k d i := fun i hi => funext (fun p => by
      unfold pA cR
      rw [eC]
      have y := nm_low (P := cP z d p) (s2 i hi) (nW z - nW h)
      rw [show nW h + (nW z - nW h) = nW z by omega] at y
      rw [y]
      congr 1
      refine q_nm_cg _ (fun j hj => ?_)
      unfold cP o_off o_bent
      rw [(ho j hj).2, hJ.2 9 j rfl, hJ.2 10 j rfl])
    have eN : ∀ p y, y < 2 ^ nW h → pN z p y = pN h p y := fun p y hy => by
      unfold pN NN cD
      rw [hJ.2 2 3 rfl, hJ.2 2 2 rfl, hJ.2 4 6 rfl]
      have w := (drawn_low (z := z) (h := h) hy (h 4 6) (fun w hw => (ho w hw).1) hl).2 (nW z - nW h) (by omega)
      rw [show nW h + (nW z - nW h) = nW z by omega] at w
      rw [w]
    have bA : ∀ i, i < pM h t → ∀ p, pA h t k d i p < 2 ^ nW h := fun i hi p => Nat.lt_of_le_of_lt Nat.and_le_left (s2 i hi)
    obtain ⟨f1, f2⟩ := q_fo_A2 (K := 9) (N := pN z) (R := R.toNatClampNeg) (p0 := pP h) eA
    obtain ⟨g1, g2⟩ := q_fo_n (K := 9) (R := R.toNatClampNeg) (p0 := pP h) (Nat.two_pow_pos (nW h)) eN bA
    refine ⟨by rw [hJ.2 28 2 rfl]; exact s1, fun i hi => ?_, ?_⟩
    · rw [eM] at hi
      rw [eC]
      exact Nat.lt_of_lt_of_le (s2 i hi) pw
    · unfold SOK
      rw [eM, eP, f1 _ (Nat.le_refl _), g1 _ (Nat.le_refl _)]
      rw [hJ.2 37 11 rfl, hJ.2 37 12 rfl, hJ.2 37 13 rfl]
      refine ⟨s3.1, s3.2.1, s3.2.2.1, fun j hj => ?_⟩
      rw [(f2 j hj).1, (f2 j hj).2, (g2 j hj).1, (g2 j hj).2, hJ.2 42 j rfl, hJ.2 43 j rfl]
      exact s3.2.2.2 j hj
theorem RSo.add {h z : Hp} (hB : Bx h) (hBz : Bx z) (hS : RSo h) (hE : RE h) (hJ : JW [(4, 7), (5, 999), (6, 999), (7, 999), (8, 999)] h z) {n d s q : Int32} (e : z = k_add h (h 4 7).toNatClampNeg n d s q) : RSo z := by
  have m12 := (B.nI (u := 12) (hB 4 7)).2
  have em := (B.nI (u := 12) (hB 4 7)).1
  have same : z = h → RSo z := fun y => by rw [y]; exact hS
  unfold k_add at e
  by_cases c1 : z_wi n 0 3600 = 0
  · rw [if_pos c1] at e; exact same e
  rw [if_neg c1] at e
  by_cases c2 : z_wi d 1 9 = 0
  · rw [if_pos c2] at e; exact same e
  rw [if_neg c2] at e
  by_cases c3 : z_wi s 0 20 = 0
  · rw [if_pos c3] at e; exact same e
  rw [if_neg c3] at e
  by_cases c4 : h 4 7 < 12
  · rw [if_pos c4] at e
    refine RSo.grow hB hBz hS hE hJ (fun w hw => ?_) ?_
    · have nw : w ≠ (h 4 7).toNatClampNeg := by
        have : nW h = (h 4 7).toNatClampNeg := rfl
        omega
      rw [e, ev_rd2 (by decide), ev_rd2 (by decide), ev_rd2 (by decide), ev_rd3 nw, ev_rd2 (by decide), ev_rd2 (by decide), ev_rd2 (by decide), ev_rd3 nw, ev_rd2 (by decide), ev_rd2 (by decide)]
      exact ⟨rfl, rfl⟩
    · have y : z 4 7 = nI ((h 4 7).toNatClampNeg + 1) := by
        rw [e, ev_rd1]
        conv => lhs; rw [em]
        exact nI_1 _
      unfold nW
      rw [y, nI_clamp (by omega)]
      omega
  · rw [if_neg c4] at e; exact same e
/-- a heap in which what RSo reads is the same -/
theorem RSo.keep {h h1 : Hp} (hS : RSo h) (e : ∀ i j, (i = 2 ∨ i = 4 ∨ i = 6 ∨ i = 7 ∨ i = 9 ∨ i = 10 ∨ (i = 11 ∧ j = 3) ∨ (i = 28 ∧ j = 2) ∨ (30 ≤ i ∧ i ≤ 36) ∨ i = 42 ∨ i = 43 ∨ i = 44 ∨ (i = 37 ∧ (j = 11 ∨ j = 12 ∨ j = 13 ∨ j = 15))) → h1 i j = h i j) (hB : Bx h) : RSo h1 := by
  have e44 : ∀ j, h1 44 j = h 44 j := fun j => e 44 j (by omega)
  rcases hS with q | ⟨q1, q2⟩
  · exact Or.inl ((e 37 15 (by omega)).trans q)
  · refine Or.inr ⟨by rw [e44, e 11 3 (by omega)]; exact q1, fun q => ?_⟩
    rw [e44, e 11 3 (by omega)] at q
    obtain ⟨s1, s2, s3⟩ := q2 q
    rw [e44, e44, e44, e44]
    have tn : (h 44 0).toNatClampNeg < 6 := by
      have b6 : B (h 28 2) 0 6 := hB 28 2
      have y := z_has_B b6 s1
      have p : B (h 44 0) 0 ((5 : Nat) : Int) := ⟨y.1, by have := b6.2; omega⟩
      have := (B.nI p).2
      omega
    have pcg := prob_cg (h := h) (h1 := h1) (fun j => e 2 j (by omega)) (fun j => e 4 j (by omega)) (fun j => e 6 j (by omega)) (fun j => e 7 j (by omega)) (fun j => e 9 j (by omega)) (fun j => e 10 j (by omega)) (t := h 44 0) (e 36 _ (by omega)) (fun j => e _ j (by omega)) (h 44 1) (h 44 2)
    refine ⟨by rw [e 28 2 (by omega)]; exact s1, fun i hi => ?_, ?_⟩
    · rw [pcg.2.2.2.1] at hi
      rw [pcg.2.1, pcg.2.2.2.2.2]
      exact s2 i hi
    · exact s3.cg pcg (e 37 11 (by omega)) (e 37 12 (by omega)) (e 37 13 (by omega)) (fun j => e 42 j (by omega)) (fun j => e 43 j (by omega))
/-- an act was kept: what is remembered is stale -/
theorem RSo.act {h h1 : Hp} (hS : RSo h) (hc : (h 11 3).toInt ≤ 4096) (e3 : h1 11 3 = h 11 3 + 1) (e15 : h1 37 15 = h 37 15) (e44 : h1 44 4 = h 44 4) : RSo h1 := by
  have e1 : (1 : Int32).toInt = 1 := by decide
  have lo := Int32.le_toInt (h 11 3)
  have ea := w_add (x := h 11 3) (y := 1) (by omega) (by omega)
  rcases hS with q | ⟨q1, -⟩
  · exact Or.inl (e15.trans q)
  · refine Or.inr ⟨by rw [e3, e44, ea]; omega, fun q => ?_⟩
    exfalso
    rw [e44, e3] at q
    rw [q, ea] at q1
    omega
/-! chords of five letters -/
theorem PC.zero : PC 0 := ⟨0, by decide, rfl⟩
theorem p_ch_5 {T : Nat → Int32} {n : Nat} : ∀ (k p : Nat) (v : Int32) (c : Nat) (x : Int32 × Nat), s_bits v 12 = nI c → c ≤ 5 → p_ch T n k p v c = some x → PC x.1 := by
  intro k
  induction k with
  | zero =>
    intro p v c x _ _ e
    unfold p_ch at e
    cases e
  | succ k ih =>
    intro p v c x hv hc e
    unfold p_ch at e
    by_cases h1 : p_let T n p
    · rw [if_pos h1] at e
      by_cases h2 : T p - 97 < 12
      · rw [if_pos h2] at e
        by_cases h3 : v >>> ((T p - 97) &&& 31) &&& 1 = 0
        · rw [if_pos h3] at e
          by_cases h4 : c = 5
          · rw [if_pos h4] at e; cases e
          · rw [if_neg h4] at e
            have hb := bits_s (p_wB h1 h2) h3 hv
            exact ih (p + 1) _ (c + 1) x hb (by omega) e
        · rw [if_neg h3] at e; cases e
      · rw [if_neg h2] at e; cases e
    · rw [if_neg h1] at e
      have e2 := Option.some.inj e
      rw [← e2]
      exact ⟨c, hc, hv⟩
theorem p_tok_5 {T : Nat → Int32} {n p : Nat} {v : Int32} {e : Nat} (h : p_tok T n p = some (1, v, e)) : PC v := by
  unfold p_tok p_at at h
  generalize p_sp T n n p = q at h
  by_cases h0 : n ≤ q
  · rw [if_pos h0] at h; cases h
  rw [if_neg h0] at h
  by_cases h1 : p_let T n q
  · rw [if_pos h1] at h
    cases hc : p_ch T n 6 q 0 0 with
    | none => rw [hc] at h; cases h
    | some x =>
      rw [hc] at h
      cases h
      exact p_ch_5 6 q 0 0 x rfl (by decide) hc
  rw [if_neg h1] at h
  by_cases h2 : p_fig T n q
  · rw [if_pos h2] at h
    cases hc : p_nm T n q with
    | none => rw [hc] at h; cases h
    | some x => rw [hc] at h; cases h
  rw [if_neg h2] at h
  by_cases h3 : T q = 46
  · rw [if_pos h3] at h; cases h
  rw [if_neg h3] at h
  by_cases h4 : T q = 40
  · rw [if_pos h4] at h; cases h
  rw [if_neg h4] at h
  by_cases h5 : T q = 41
  · rw [if_pos h5] at h; cases h
  · rw [if_neg h5] at h; cases h
def RP5 (m : Nat) (r : Nat → Int32) : Prop := m ≤ 24 → ∀ j, j < m → PC (r j)
theorem RP5.ad {m : Nat} {r : Nat → Int32} (h : RP5 m r) {c : Int32} (hc : PC c) : RP5 (p_mn m) (p_ad r m c) := fun hm j hj => by
  unfold p_mn at hm hj
  by_cases q : m < 25
  · rw [if_pos q] at hm hj
    unfold p_ad p_up
    rw [if_pos (by omega)]
    by_cases e : j = m
    · simp only [e, if_true]; exact hc
    · simp only [if_neg e]; exact h (by omega) j (by omega)
  · rw [if_neg q] at hm; omega
theorem p_cp_5 {o : Nat} : ∀ t i r, (t ≠ 0 → 1 ≤ o ∧ o ≤ i) → (∀ j, j < i → PC (r j)) → ∀ j, j < i + t → PC (p_cp o t i r j)
  | 0, i, r, _, h, j, hj => h j hj
  | t + 1, i, r, ho, h, j, hj => by
    obtain ⟨o1, o2⟩ := ho (by omega)
    unfold p_cp
    refine p_cp_5 t (i + 1) _ (fun _ => ⟨o1, by omega⟩) (fun u hu => ?_) j (by omega)
    unfold p_up
    by_cases e : u = i
    · simp only [e, if_true]; exact h _ (by omega)
    · simp only [if_neg e]; exact h u (by omega)
theorem RP5.cl {m b x : Nat} {r : Nat → Int32} (h : RP5 m r) (hb : b ≤ m) (hm : m ≤ 24) : RP5 (p_all m b x) (p_cp (m - b) (p_all m b x - m) m r) := fun _ j hj => by
  by_cases l : m ≤ p_all m b x
  · refine p_cp_5 (p_all m b x - m) m r (fun z => ?_) (fun u hu => h hm u hu) j (by omega)
    have : m - b ≠ 0 := fun y => by
      apply z
      unfold p_all
      rw [y, Nat.zero_mul]
      omega
    omega
  · rw [show p_all m b x - m = 0 by omega]
    exact h hm j (by omega)
theorem RP5.stp {T : Nat → Int32} {n p w v m d : Nat} {r : Nat → Int32} {bg rd : Nat → Nat} (hI : PI w v m d bg rd) (h : RP5 m r) {y : (Nat × (Nat → Int32)) ⊕ PS} (e : p_stp (p_tok T n p) w v m r d bg rd = some y) : (∀ x, y = .inl x → RP5 x.1 x.2) ∧ ∀ s, y = .inr s → RP5 s.2.2.2.1 s.2.2.2.2.1 := by
  obtain ⟨h1, h2, h3, h4, h5⟩ := hI
  cases et : p_tok T n p with
  | none => rw [et] at e; cases e
  | some x =>
    rw [et] at e
    obtain ⟨t, xv, xe⟩ := x
    unfold p_stp at e
    dsimp only at e
    split at e
    · split at e
      · split at e
        · cases e
          exact ⟨fun x z => (by cases z), fun s z => (by cases z; exact h)⟩
        · cases e
      · cases e
    · split at e
      · rename_i ht
        subst ht
        cases e
        exact ⟨fun x z => (by cases z), fun s z => (by cases z; exact h.ad (p_tok_5 et))⟩
      · split at e
        · cases e
          exact ⟨fun x z => (by cases z), fun s z => (by cases z; exact h.ad PC.zero)⟩
        · split at e
          · split at e
            · cases e
            · cases e
              exact ⟨fun x z => (by cases z), fun s z => (by cases z; exact h)⟩
          · split at e
            · split at e
              · rename_i hc
                split at e
                · cases e
                  exact ⟨fun x z => (by cases z), fun s z => (by cases z; exact fun q => absurd q (show ¬ 25 ≤ 24 by decide))⟩
                · rename_i hl
                  cases e
                  exact ⟨fun x z => (by cases z), fun s z => (by cases z; exact h.cl (h5 (d - 1) (by omega)).1 (by omega))⟩
              · cases e
            · split at e
              · split at e
                · split at e
                  · cases e
                    exact ⟨fun x z => (by cases z; exact h), fun s z => (by cases z)⟩
                  · cases e
                · cases e
              · cases e
theorem run_5 {T : Nat → Int32} {n : Nat} {x : Nat × (Nat → Int32)} : ∀ k p w v m r d bg rd, p ≤ n → PI w v m d bg rd → RP5 m r → p_run T n k (p, w, v, m, r, d, bg, rd) = some x → RP5 x.1 x.2
  | 0, p, w, v, m, r, d, bg, rd, _, _, _, e => by unfold p_run at e; cases e
  | k + 1, p, w, v, m, r, d, bg, rd, hp, hI, h, e => by
    cases es : p_stp (p_tok T n p) w v m r d bg rd with
    | none => rw [p_run_n es] at e; cases e
    | some y =>
      obtain ⟨a1, a2⟩ := h.stp hI es
      cases y with
      | inl z =>
        rw [p_run_l es] at e
        cases e
        exact a1 _ rfl
      | inr s =>
        rw [p_run_r es] at e
        obtain ⟨p', w', v', m', r', d', bg', rd'⟩ := s
        obtain ⟨i1, i2, i3⟩ := PI.stp hp hI es
        exact run_5 k p' w' v' m' r' d' bg' rd' i3 i1 (a2 _ rfl) e
/-- tune(): the new row's chords, the rows that stood -/
theorem tun_mem {h h1 : Hp} (hB : Bx h) (hS : RSo h) (hP : RPc h) {t : Nat} (ht : t < 6) (et : h 28 2 = nI t) (k1 : JW [(23, 1), (23, 2), (23, 3), (23, 4), (23, 5), (23, 6), (23, 7), (23, 8), (23, 10), (23, 13), (25, 999), (26, 999), (27, 999), (28, 2), (30, 999), (31, 999), (32, 999), (33, 999), (34, 999), (35, 999), (36, 999)] h h1) {o : Option (Nat × (Nat → Int32))} (ho : ∀ x, o = some x → x.1 ≤ 24 ∧ RP5 x.1 x.2) (q1 : TUC t o h h1) : RSo h1 ∧ RPc h1 := by
  have et' : (h 28 2).toNatClampNeg = t := by rw [et]; exact nI_clamp (by omega)
  obtain ⟨a0, a1⟩ := q1
  cases o with
  | none =>
    have e28 : h1 28 2 = h 28 2 := a1.1.trans et.symm
    refine ⟨RSo.keep hS (fun i j hij => ?_) hB, fun u hu i hi => ?_⟩
    · rcases hij with rfl | rfl | rfl | rfl | rfl | rfl | ⟨rfl, rfl⟩ | ⟨rfl, rfl⟩ | z | rfl | rfl | rfl | ⟨rfl, z⟩
      · exact k1.2 _ j rfl
      · exact k1.2 _ j rfl
      · exact k1.2 _ j rfl
      · exact k1.2 _ j rfl
      · exact k1.2 _ j rfl
      · exact k1.2 _ j rfl
      · exact k1.2 _ _ rfl
      · exact e28
      · exact a1.2 i j z.1 z.2
      · exact k1.2 _ j rfl
      · exact k1.2 _ j rfl
      · exact k1.2 _ j rfl
      · exact k1.2 _ j rfl
    · rw [e28, et'] at hu
      rw [a1.2 36 u (by omega) (by omega)] at hi
      rw [a1.2 (30 + u) i (by omega) (by omega)]
      exact hP u (by omega) i hi
  | some x =>
    obtain ⟨x24, x5⟩ := ho x rfl
    obtain ⟨a2, a3, a4, a5, a6⟩ := a1
    constructor
    · have e44 : ∀ j, h1 44 j = h 44 j := fun j => k1.2 44 j rfl
      rcases hS with q | ⟨q1, q2⟩
      · exact Or.inl ((k1.2 37 15 rfl).trans q)
      · refine Or.inr ⟨by rw [e44, k1.2 11 3 rfl]; exact q1, fun q => ?_⟩
        rw [e44, k1.2 11 3 rfl] at q
        obtain ⟨s1, s2, s3⟩ := q2 q
        rw [e44, e44, e44, e44]
        have b6 : B (h 28 2) 0 6 := hB 28 2
        have y := z_has_B b6 s1
        have p : B (h 44 0) 0 ((5 : Nat) : Int) := ⟨y.1, by have := b6.2; omega⟩
        have tt : (h 44 0).toNatClampNeg < t := by
          have e1 : (h 44 0).toNatClampNeg = (h 44 0).toInt.toNat := rfl
          rw [et, nI_toInt (by omega)] at y
          omega
        have pcg := prob_cg (h := h) (h1 := h1) (fun j => k1.2 2 j rfl) (fun j => k1.2 4 j rfl) (fun j => k1.2 6 j rfl) (fun j => k1.2 7 j rfl) (fun j => k1.2 9 j rfl) (fun j => k1.2 10 j rfl) (t := h 44 0) (a5 _ (by omega)) (fun j => a6 _ j (by omega) (by omega)) (h 44 1) (h 44 2)
        refine ⟨fun z => s1 ?_, fun i hi => ?_, s3.cg pcg (k1.2 37 11 rfl) (k1.2 37 12 rfl) (k1.2 37 13 rfl) (fun j => k1.2 42 j rfl) (fun j => k1.2 43 j rfl)⟩
        · rw [a2] at z
          unfold z_has at z ⊢
          by_cases c : h 44 0 < 0
          · rw [if_pos c]
          · rw [if_neg c] at z ⊢
            by_cases c2 : nI (t + 1) ≤ h 44 0
            · exfalso
              have := w_le c2
              rw [nI_toInt (by omega)] at this
              rw [et, nI_toInt (by omega)] at y
              omega
            · rw [if_neg c2] at z; exact absurd z (by decide)
        · rw [pcg.2.2.2.1] at hi
          rw [pcg.2.1, pcg.2.2.2.2.2]
          exact s2 i hi
    · intro u hu i hi
      rw [a2, nI_clamp (by omega)] at hu
      by_cases w : u = t
      · subst w
        rw [a3, nI_clamp (by omega)] at hi
        rw [a4 i hi]
        exact x5 x24 i hi
      · rw [a5 u w] at hi
        rw [a6 u i (by omega) w]
        exact hP u (by omega) i hi
/-- an act was kept, or nothing but the trial has changed -/
def AX (h h1 : Hp) : Prop := h1 11 3 = h 11 3 + 1 ∨ ∀ i j, i ≠ 3 → h1 i j = h i j
theorem keep_11 (h : Hp) (n : Nat) : k_keep h n 11 3 = h 11 3 + 1 := by
  unfold k_keep
  rw [if_neg (by omega), if_pos rfl, if_neg (by decide), if_neg (by decide), if_pos rfl]
theorem scan_mono {h h1 : Hp} (hB : Bx h) {k l f n : Int32} (f1 : h1 4 7 = scNc h k l f n) : nW h ≤ nW h1 := by
  have z := scN_ge hB k l f n
  rw [← f1] at z
  show (h 4 7).toInt.toNat ≤ (h1 4 7).toInt.toNat
  omega
theorem AX.same (h : Hp) : AX h h := Or.inr (fun _ _ _ => rfl)
theorem RSo.ax {W : List (Nat × Nat)} {h h1 : Hp} (hB : Bx h) (hS : RSo h) (hc : (h 11 3).toInt ≤ 4096) (a : AX h h1) (hJ : JW W h h1) (w15 : wm W 37 15 = false) (w44 : wm W 44 4 = false) : RSo h1 := by
  rcases a with a | a
  · exact hS.act hc a (hJ.2 37 15 w15) (hJ.2 44 4 w44)
  · exact hS.keep (fun i j hij => a i j (by omega)) hB
theorem AX.ct {h h1 : Hp} (hc : (h 11 3).toInt ≤ 4096) (a : AX h h1) : (h1 11 3).toInt ≤ (h 11 3).toInt + 1 := by
  rcases a with a | a
  · have e1 : (1 : Int32).toInt = 1 := by decide
    have lo := Int32.le_toInt (h 11 3)
    have ea := w_add (x := h 11 3) (y := 1) (by omega) (by omega)
    rw [a, ea]
    omega
  · rw [a 11 3 (by decide)]; omega
theorem RSo.call {W : List (Nat × Nat)} {h h1 : Hp} (hB : Bx h) (hS : RSo h) (hJ : JW W h h1) (w2 : ∀ j, wm W 2 j = false) (w4 : ∀ j, wm W 4 j = false) (w6 : ∀ j, wm W 6 j = false) (w7 : ∀ j, wm W 7 j = false) (w9 : ∀ j, wm W 9 j = false) (w10 : ∀ j, wm W 10 j = false) (w11 : wm W 11 3 = false) (w28 : wm W 28 2 = false) (w30 : ∀ j, wm W 30 j = false) (w31 : ∀ j, wm W 31 j = false) (w32 : ∀ j, wm W 32 j = false) (w33 : ∀ j, wm W 33 j = false) (w34 : ∀ j, wm W 34 j = false) (w35 : ∀ j, wm W 35 j = false) (w36 : ∀ j, wm W 36 j = false) (w42 : ∀ j, wm W 42 j = false) (w43 : ∀ j, wm W 43 j = false) (w44 : ∀ j, wm W 44 j = false) (w37 : ∀ j, wm W 37 j = false) : RSo h1 := RSo.keep hS (fun i j hij => by
  rcases hij with rfl | rfl | rfl | rfl | rfl | rfl | ⟨rfl, rfl⟩ | ⟨rfl, rfl⟩ | z | rfl | rfl | rfl | ⟨rfl, z⟩
  · exact hJ.2 _ j (w2 j)
  · exact hJ.2 _ j (w4 j)
  · exact hJ.2 _ j (w6 j)
  · exact hJ.2 _ j (w7 j)
  · exact hJ.2 _ j (w9 j)
  · exact hJ.2 _ j (w10 j)
  · exact hJ.2 _ _ w11
  · exact hJ.2 _ _ w28
  · rcases (show i = 30 ∨ i = 31 ∨ i = 32 ∨ i = 33 ∨ i = 34 ∨ i = 35 ∨ i = 36 by omega) with rfl | rfl | rfl | rfl | rfl | rfl | rfl
    · exact hJ.2 _ j (w30 j)
    · exact hJ.2 _ j (w31 j)
    · exact hJ.2 _ j (w32 j)
    · exact hJ.2 _ j (w33 j)
    · exact hJ.2 _ j (w34 j)
    · exact hJ.2 _ j (w35 j)
    · exact hJ.2 _ j (w36 j)
  · exact hJ.2 _ j (w42 j)
  · exact hJ.2 _ j (w43 j)
  · exact hJ.2 _ j (w44 j)
  · exact hJ.2 _ j (w37 j)) hB
theorem RPc.call {W : List (Nat × Nat)} {h h1 : Hp} (hB : Bx h) (hP : RPc h) (hJ : JW W h h1) (w28 : wm W 28 2 = false) (w30 : ∀ j, wm W 30 j = false) (w31 : ∀ j, wm W 31 j = false) (w32 : ∀ j, wm W 32 j = false) (w33 : ∀ j, wm W 33 j = false) (w34 : ∀ j, wm W 34 j = false) (w35 : ∀ j, wm W 35 j = false) (w36 : ∀ j, wm W 36 j = false) : RPc h1 := fun t ht i hi => by
  have b6 := (B.nI (u := 6) (hB 28 2)).2
  rw [hJ.2 28 2 w28] at ht
  rw [hJ.2 36 t (w36 t)] at hi
  have e : h1 (30 + t) i = h (30 + t) i := by
    rcases (show t = 0 ∨ t = 1 ∨ t = 2 ∨ t = 3 ∨ t = 4 ∨ t = 5 by omega) with rfl | rfl | rfl | rfl | rfl | rfl
    · exact hJ.2 _ i (w30 i)
    · exact hJ.2 _ i (w31 i)
    · exact hJ.2 _ i (w32 i)
    · exact hJ.2 _ i (w33 i)
    · exact hJ.2 _ i (w34 i)
    · exact hJ.2 _ i (w35 i)
  rw [e]
  exact hP t ht i hi
theorem ax_fire {h h1 : Hp} {v : Int32} (e : h1 = k_fire h (nX h) v) : AX h h1 := by
  rw [e]
  unfold k_fire
  split
  · exact AX.same h
  · exact Or.inl ((ev_rd2 (by decide)).trans (keep_11 h _))
theorem ax_water {h h1 : Hp} {v : Int32} (e : h1 = k_water h (nX h) v) : AX h h1 := by
  rw [e]
  unfold k_water
  split
  · exact AX.same h
  · exact Or.inl ((ev_rd2 (by decide)).trans (keep_11 h _))
theorem ax_valve {h h1 : Hp} {v : Int32} (e : h1 = k_valve h (nX h) v) : AX h h1 := by
  rw [e]
  unfold k_valve
  split
  · exact AX.same h
  · exact Or.inl ((ev_rd2 (by decide)).trans ((ev_rd2 (by decide)).trans (keep_11 h _)))
theorem ax_pressure {h h1 : Hp} {v : Int32} (e : h1 = k_press h (nX h) v) : AX h h1 := by
  rw [e]
  unfold k_press
  split
  · exact AX.same h
  · exact Or.inl ((ev_rd2 (by decide)).trans (keep_11 h _))
theorem ax_beat {h h1 : Hp} {c : Int32} (e : h1 = k_beat h (nX h) (nW h) c) : AX h h1 := by
  rw [e]
  unfold k_beat
  repeat' split
  all_goals first | exact AX.same h | exact Or.inl ((pass_o (Or.inl (by decide))).trans (keep_11 h _))
theorem ax_stem {h h1 : Hp} {w v : Int32} (e : h1 = k_stem h (nX h) w v) : AX h h1 := by
  rw [e]
  unfold k_stem
  repeat' split
  all_goals first | exact AX.same h | exact Or.inl ((ev_rd2 (by decide)).trans (keep_11 h _))
theorem ax_crack {h h1 : Hp} {w v : Int32} (e : h1 = k_crack h (nX h) w v) : AX h h1 := by
  rw [e]
  unfold k_crack
  repeat' split
  all_goals first | exact AX.same h | exact Or.inl ((ev_rd2 (by decide)).trans (keep_11 h _))
theorem ax_leak {h h1 : Hp} {w q : Int32} (e : h1 = k_leak h (nX h) w q) : AX h h1 := by
  rw [e]
  unfold k_leak
  repeat' split
  all_goals first | exact AX.same h | exact Or.inl ((ev_rd2 (by decide)).trans (keep_11 h _))
theorem ax_tuneAll {h h1 : Hp} {p : Int32} (e : h1 = k_tuneAll h (nX h) (nW h) p) : AX h h1 := by
  rw [e]
  unfold k_tuneAll
  split
  · exact AX.same h
  · exact Or.inl ((k_near_ne (by decide)).trans (keep_11 h _))
theorem ax_play {h h1 : Hp} {t k : Int32} (e : h1 = k_play h (nX h) t k) : AX h h1 := by
  have l0 : AX h (k_try h t k) := Or.inr (fun i j hi => k_try_ne hi)
  have l1 : AX h (z_cp (k_keep (k_try h t k) (nX h)) 2 3) := Or.inl ((show z_cp (k_keep (k_try h t k) (nX h)) 2 3 11 3 = k_keep (k_try h t k) (nX h) 11 3 from if_neg (fun z => absurd z.1 (by decide))).trans ((keep_11 _ _).trans (by rw [k_try_ne (by decide)])))
  rw [e]
  unfold k_play
  repeat' split
  all_goals first | exact l1 | exact l0
theorem ax_undo {h h1 : Hp} {n : Nat} (e : h1 = k_rest h n) : AX h h1 := by
  rw [e]
  exact Or.inl rfl
