theorem EvD.ix {mi : MI} {args : List Value} {G : Geo} {h h1 : Hp} {r : Int32} {W : List (Nat × Nat)} (k : EvD mi args G h r h1) (hJ : JW W h h1) : EvI mi args G h (fun r' z => r' = r ∧ z = h1) W := EvM.mono k (fun v G' h' q => by
  obtain ⟨rfl, rfl, rfl⟩ := q
  exact ⟨⟨_, rfl, rfl, rfl⟩, rfl, hJ⟩)
theorem ev_sj (h : Hp) (a m j : Nat) (x : Int32) : ev_set h a m x a j = if j = m then x else h a j := by
  unfold ev_set
  by_cases e : j = m
  · rw [if_pos ⟨rfl, e⟩, if_pos e]
  · rw [if_neg (fun z => e z.2), if_neg e]
theorem B.nI {x : Int32} {u : Nat} (p : B x 0 (u : Int)) : x = nI x.toNatClampNeg ∧ x.toNatClampNeg ≤ u := ⟨p.nat.1, by have := p.nat.2; have := p.2; omega⟩
theorem z_wi_has {q n : Int32} (hn : B n 0 2147483647) : z_wi q 0 (n - 1) = z_has q n := by
  unfold z_wi z_has
  by_cases c : q < 0
  · rw [if_pos c, if_pos c]
  · rw [if_neg c, if_neg c]
    have e1 : (1 : Int32).toInt = 1 := by decide
    have h1 := hn.1
    have h2 := hn.2
    have e := w_sub (x := n) (y := 1) (by omega) (by omega)
    have e2 : (n - 1 < q) ↔ n ≤ q := by
      rw [Int32.lt_iff_toInt_lt, Int32.le_iff_toInt_le, e, e1]
      omega
    by_cases c2 : n ≤ q
    · rw [if_pos c2, if_pos (e2.mpr c2)]
    · rw [if_neg c2, if_neg (fun z => c2 (e2.mp z))]
/-! the text, its tokens -/
abbrev p_let (T : Nat → Int32) (n p : Nat) : Prop := p < n ∧ ¬ T p < 97 ∧ ¬ 122 < T p
abbrev p_fig (T : Nat → Int32) (n p : Nat) : Prop := p < n ∧ ¬ T p < 48 ∧ ¬ 57 < T p
def p_sp (T : Nat → Int32) (n : Nat) : Nat → Nat → Nat
  | 0, p => p
  | k + 1, p => if p < n ∧ T p = 32 then p_sp T n k (p + 1) else p
/-- a chord from p on: its value and its end; none: no such chord -/
def p_ch (T : Nat → Int32) (n : Nat) : Nat → Nat → Int32 → Nat → Option (Int32 × Nat)
  | 0, _, _, _ => none
  | k + 1, p, v, c => if p_let T n p then (if T p - 97 < 12 then (if v >>> ((T p - 97) &&& 31) &&& 1 = 0 then (if c = 5 then none else p_ch T n k (p + 1) (v ||| 1 <<< ((T p - 97) &&& 31)) (c + 1)) else none) else none) else some (v, p)
/-- a number: at most two figures -/
def p_nm (T : Nat → Int32) (n p : Nat) : Option (Int32 × Nat) := if p_fig T n (p + 1) then (if p_fig T n (p + 2) then none else some ((0 * 10 + T p - 48) * 10 + T (p + 1) - 48, p + 2)) else some (0 * 10 + T p - 48, p + 1)
def p_at (T : Nat → Int32) (n q : Nat) : Option (Nat × Int32 × Nat) :=
  if n ≤ q then some (0, 0, q) else
  if p_let T n q then (match p_ch T n 6 q 0 0 with
    | some x => some (1, x.1, x.2)
    | none => none) else
  if p_fig T n q then (match p_nm T n q with
    | some x => some (2, x.1, x.2)
    | none => none) else
  if T q = 46 then some (3, 0, q + 1) else if T q = 40 then some (4, 0, q + 1) else if T q = 41 then some (5, 0, q + 1) else none
/-- the token from p on: its kind (0 the end, 1 a chord, 2 a number, 3 a rest, 4 an open, 5 a close), value, end -/
def p_tok (T : Nat → Int32) (n p : Nat) : Option (Nat × Int32 × Nat) := p_at T n (p_sp T n n p)
theorem if01 {P : Prop} [Decidable P] (h : (if P then (1 : Int32) else 0) = 0) : ¬ P := fun q => by rw [if_pos q] at h; exact absurd h (by decide)
theorem if01n {P : Prop} [Decidable P] (h : ¬ (if P then (1 : Int32) else 0) = 0) : P := Decidable.byContradiction (fun q => h (if_neg q))
theorem nI_le2 {a b : Nat} (ha : a < 2 ^ 31) (hb : b < 2 ^ 31) : nI a ≤ nI b ↔ a ≤ b := by
  rw [Int32.le_iff_toInt_le, nI_toInt ha, nI_toInt hb]
  omega
theorem nI_lt2 {a b : Nat} (ha : a < 2 ^ 31) (hb : b < 2 ^ 31) : nI a < nI b ↔ a < b := by
  rw [Int32.lt_iff_toInt_lt, nI_toInt ha, nI_toInt hb]
  omega
theorem nI_B {a : Nat} {u : Int} (ha : a < 2 ^ 31) (hu : (a : Int) ≤ u) : B (nI a) 0 u := by
  unfold B
  rw [nI_toInt ha]
  omega
theorem nI_160 {a : Nat} (h : a ≤ 160) : B (nI a) 0 160 := nI_B (by omega) (by omega)
theorem nI_25 {a : Nat} (h : a ≤ 25) : B (nI a) 0 25 := nI_B (by omega) (by omega)
theorem nI_4 {a : Nat} (h : a ≤ 4) : B (nI a) 0 4 := nI_B (by omega) (by omega)
theorem nI_60 {a : Nat} (h : a ≤ 60) : B (nI a) 0 60 := nI_B (by omega) (by omega)
theorem nI_xle {a b : Nat} (h : ¬ nI a ≤ nI b) (ha : a < 2 ^ 31) (hb : b < 2 ^ 31) : b < a := Nat.lt_of_not_le (fun z => h ((nI_le2 ha hb).mpr z))
theorem nI_xlt {a b : Nat} (h : ¬ nI a < nI b) (ha : a < 2 ^ 31) (hb : b < 2 ^ 31) : b ≤ a := Nat.le_of_not_lt (fun z => h ((nI_lt2 ha hb).mpr z))
theorem nI_ne_m1 {a : Nat} (ha : a < 2 ^ 31) : ¬ nI a = -1 := fun e => by
  have z := congrArg Int32.toInt e
  rw [nI_toInt ha] at z
  have e1 : (-1 : Int32).toInt = -1 := by decide
  omega
theorem p_wB {T : Nat → Int32} {n p : Nat} (h : p_let T n p) (h2 : T p - 97 < 12) : B (T p - 97) 0 11 := by
  obtain ⟨-, a1, a2⟩ := h
  have z1 := w_nlt a1
  have z2 := w_nlt a2
  have e1 : (97 : Int32).toInt = 97 := by decide
  have e2 : (122 : Int32).toInt = 122 := by decide
  have e3 : (12 : Int32).toInt = 12 := by decide
  have e := w_sub (x := T p) (y := 97) (by omega) (by omega)
  have z3 := w_lt h2
  exact ⟨by omega, by omega⟩
theorem p_vB {T : Nat → Int32} {n p : Nat} {v : Int32} (hv : B v 0 4095) (h : p_let T n p) (h2 : T p - 97 < 12) : B (v ||| 1 <<< ((T p - 97) &&& 31)) 0 4095 := B.or 12 hv (B.shl1 (p_wB h h2) (by decide) (by decide)) (by decide) (by decide) (by decide) (by decide) (by decide)
theorem p_ch_e {T : Nat → Int32} {n : Nat} : ∀ k p v c x, p ≤ n → p_ch T n k p v c = some x → p ≤ x.2 ∧ x.2 ≤ n
  | 0, p, v, c, x, _, h => by unfold p_ch at h; cases h
  | k + 1, p, v, c, x, hp, h => by
    unfold p_ch at h
    split at h
    · rename_i q
      split at h
      · split at h
        · split at h
          · cases h
          · have z := p_ch_e k _ _ _ x (by have := q.1; omega) h
            omega
        · cases h
      · cases h
    · cases h
      exact ⟨Nat.le_refl _, hp⟩
theorem p_ch_1 {T : Nat → Int32} {n k p c : Nat} {v : Int32} {x : Int32 × Nat} (hp : p_let T n p) (h : p_ch T n (k + 1) p v c = some x) : p + 1 ≤ x.2 ∧ x.2 ≤ n := by
  unfold p_ch at h
  rw [if_pos hp] at h
  split at h
  · split at h
    · split at h
      · cases h
      · exact p_ch_e k _ _ _ x (by have := hp.1; omega) h
    · cases h
  · cases h
theorem p_sp_e {T : Nat → Int32} {n : Nat} : ∀ k p, p ≤ n → p ≤ p_sp T n k p ∧ p_sp T n k p ≤ n
  | 0, p, h => ⟨Nat.le_refl _, h⟩
  | k + 1, p, h => by
    unfold p_sp
    split
    · rename_i q
      have z := p_sp_e (T := T) (n := n) k (p + 1) (by omega)
      omega
    · exact ⟨Nat.le_refl _, h⟩
theorem p_tok_e {T : Nat → Int32} {n p : Nat} {t : Nat} {v : Int32} {e : Nat} (hp : p ≤ n) (h : p_tok T n p = some (t, v, e)) : e ≤ n ∧ (¬ t = 0 → p + 1 ≤ e) ∧ t ≤ 5 := by
  have hs := p_sp_e (T := T) n p hp
  unfold p_tok p_at at h
  split at h
  · cases h
    exact ⟨hs.2, fun z => absurd rfl z, by decide⟩
  · rename_i q0
    split at h
    · rename_i q1
      split at h
      · rename_i x hx
        have z := p_ch_1 q1 hx
        cases h
        exact ⟨z.2, fun _ => by omega, by decide⟩
      · cases h
    · split at h
      · rename_i q1
        split at h
        · rename_i x hx
          unfold p_nm at hx
          split at hx
          · rename_i q2
            have := q2.1
            split at hx
            · cases hx
            · cases hx
              cases h
              exact ⟨by omega, fun _ => by omega, by decide⟩
          · cases hx
            cases h
            exact ⟨by omega, fun _ => by omega, by decide⟩
        · cases h
      · split at h
        · cases h
          exact ⟨by omega, fun _ => by omega, by decide⟩
        · split at h
          · cases h
            exact ⟨by omega, fun _ => by omega, by decide⟩
          · split at h
            · cases h
              exact ⟨by omega, fun _ => by omega, by decide⟩
            · cases h
set_option maxRecDepth 100000 in
set_option maxHeartbeats 4000000 in
theorem c_isLetter (L : Nat) (b : Bool) (h : Hp) (T : Nat → Int32) (n p : Nat) (hn : n ≤ 160) (hp : p ≤ n) (e1 : h 23 1 = nI n) (eT : ∀ j, h 24 j = T j)  : EvD mi_X2_isLetter [.ref 23, .int (nI p)] (G0 L b) h (if p_let T n p then 1 else 0) (h) := by
  refine EvD.of (lo := [some (.ref 23), some (.int (nI p))]) pf_X2_isLetter ok_X2_isLetter rfl rfl ?_
  refine ev_iload_n rfl rfl rfl ?_
  refine ev_aload_n rfl rfl rfl ?_
  refine ev_getI rfl rfl fl_X2_15 rfl rfl rfl ?_
  try simp only [e1, eT]
  refine ev_icmp_ge rfl rfl (fun c_5 => ?_) (fun c_5 => ?_)
  · refine ev_iconst (v := 0) rfl rfl (by decide) ?_
    exact ev_iret rfl rfl rfl (⟨congrArg (fun z => some (Value.int z)) (if_neg (fun q_ => absurd q_.1 (by have := (nI_le2 (by omega) (by omega)).mp c_5; omega))).symm, rfl, rfl⟩)
  · have hpn : p < n := nI_xle c_5 (by omega) (by omega)
    refine ev_aload_n rfl rfl rfl ?_
    refine ev_getR rfl rfl fl_X2_11 rfl rfl rfl rfl ?_
    refine ev_iload_n rfl rfl rfl ?_
    refine ev_bald rfl rfl rfl (vp_in_nI (by omega) (by decide)) (nI_clamp (by omega)) ?_
    try simp only [e1, eT]
    refine ev_bipush (v := 97) rfl rfl (by decide) ?_
    refine ev_icmp_lt rfl rfl (fun c_16 => ?_) (fun c_16 => ?_)
    · refine ev_iconst (v := 0) rfl rfl (by decide) ?_
      exact ev_iret rfl rfl rfl (⟨congrArg (fun z => some (Value.int z)) (if_neg (fun q_ => q_.2.1 c_16)).symm, rfl, rfl⟩)
    · refine ev_aload_n rfl rfl rfl ?_
      refine ev_getR rfl rfl fl_X2_11 rfl rfl rfl rfl ?_
      refine ev_iload_n rfl rfl rfl ?_
      refine ev_bald rfl rfl rfl (vp_in_nI (by omega) (by decide)) (nI_clamp (by omega)) ?_
      try simp only [e1, eT]
      refine ev_bipush (v := 122) rfl rfl (by decide) ?_
      refine ev_icmp_gt rfl rfl (fun c_27 => ?_) (fun c_27 => ?_)
      · refine ev_iconst (v := 0) rfl rfl (by decide) ?_
        exact ev_iret rfl rfl rfl (⟨congrArg (fun z => some (Value.int z)) (if_neg (fun q_ => q_.2.2 c_27)).symm, rfl, rfl⟩)
      · refine ev_iconst (v := 1) rfl rfl (by decide) ?_
        refine ev_goto rfl rfl ?_
        exact ev_iret rfl rfl rfl (⟨congrArg (fun z => some (Value.int z)) (if_pos (show p_let T n p from ⟨hpn, c_16, c_27⟩)).symm, rfl, rfl⟩)

set_option maxRecDepth 100000 in
set_option maxHeartbeats 4000000 in
theorem c_isFigure (L : Nat) (b : Bool) (h : Hp) (T : Nat → Int32) (n p : Nat) (hn : n ≤ 160) (hp : p ≤ n) (e1 : h 23 1 = nI n) (eT : ∀ j, h 24 j = T j)  : EvD mi_X2_isFigure [.ref 23, .int (nI p)] (G0 L b) h (if p_fig T n p then 1 else 0) (h) := by
  refine EvD.of (lo := [some (.ref 23), some (.int (nI p))]) pf_X2_isFigure ok_X2_isFigure rfl rfl ?_
  refine ev_iload_n rfl rfl rfl ?_
  refine ev_aload_n rfl rfl rfl ?_
  refine ev_getI rfl rfl fl_X2_15 rfl rfl rfl ?_
  try simp only [e1, eT]
  refine ev_icmp_ge rfl rfl (fun c_5 => ?_) (fun c_5 => ?_)
  · refine ev_iconst (v := 0) rfl rfl (by decide) ?_
    exact ev_iret rfl rfl rfl (⟨congrArg (fun z => some (Value.int z)) (if_neg (fun q_ => absurd q_.1 (by have := (nI_le2 (by omega) (by omega)).mp c_5; omega))).symm, rfl, rfl⟩)
  · have hpn : p < n := nI_xle c_5 (by omega) (by omega)
    refine ev_aload_n rfl rfl rfl ?_
    refine ev_getR rfl rfl fl_X2_11 rfl rfl rfl rfl ?_
    refine ev_iload_n rfl rfl rfl ?_
    refine ev_bald rfl rfl rfl (vp_in_nI (by omega) (by decide)) (nI_clamp (by omega)) ?_
    try simp only [e1, eT]
    refine ev_bipush (v := 48) rfl rfl (by decide) ?_
    refine ev_icmp_lt rfl rfl (fun c_16 => ?_) (fun c_16 => ?_)
    · refine ev_iconst (v := 0) rfl rfl (by decide) ?_
      exact ev_iret rfl rfl rfl (⟨congrArg (fun z => some (Value.int z)) (if_neg (fun q_ => q_.2.1 c_16)).symm, rfl, rfl⟩)
    · refine ev_aload_n rfl rfl rfl ?_
      refine ev_getR rfl rfl fl_X2_11 rfl rfl rfl rfl ?_
      refine ev_iload_n rfl rfl rfl ?_
      refine ev_bald rfl rfl rfl (vp_in_nI (by omega) (by decide)) (nI_clamp (by omega)) ?_
      try simp only [e1, eT]
      refine ev_bipush (v := 57) rfl rfl (by decide) ?_
      refine ev_icmp_gt rfl rfl (fun c_27 => ?_) (fun c_27 => ?_)
      · refine ev_iconst (v := 0) rfl rfl (by decide) ?_
        exact ev_iret rfl rfl rfl (⟨congrArg (fun z => some (Value.int z)) (if_neg (fun q_ => q_.2.2 c_27)).symm, rfl, rfl⟩)
      · refine ev_iconst (v := 1) rfl rfl (by decide) ?_
        refine ev_goto rfl rfl ?_
        exact ev_iret rfl rfl rfl (⟨congrArg (fun z => some (Value.int z)) (if_pos (show p_fig T n p from ⟨hpn, c_16, c_27⟩)).symm, rfl, rfl⟩)

def CHP (o : Option (Int32 × Nat)) (z : Hp) : Prop := match o with
  | some x => z 23 7 = 0 ∧ z 23 3 = 1 ∧ z 23 5 = x.1 ∧ z 23 6 = -1 ∧ z 23 2 = nI x.2
  | none => ¬ z 23 7 = 0 ∨ (z 23 3 = 1 ∧ ¬ z 23 6 = -1)

set_option maxRecDepth 100000 in
set_option maxHeartbeats 4000000 in
theorem l_rch (L : Nat) (b : Bool) (h : Hp) (T : Nat → Int32) (n : Nat) (hn : n ≤ 160) : ∀ (k c p : Nat) (v : Int32) (h1 : Hp), k + c = 5 → p ≤ n → JW [(23, 2), (23, 3), (23, 4), (23, 5), (23, 6), (23, 7), (23, 8)] h h1 → h1 23 1 = nI n → (∀ j, h1 24 j = T j) → h1 23 2 = nI p → h1 23 3 = 1 → h1 23 5 = v → h1 23 6 = -1 → h1 23 7 = 0 → B v 0 4095 → EvQ mi_X2_readChord 17 [some (.ref 23), some (.int (nI c)), none] [] (G0 L b) h1 0 0 (QK (CHP (p_ch T n (k + 1) p v c)) [(23, 2), (23, 3), (23, 4), (23, 5), (23, 6), (23, 7), (23, 8)] (G0 L b) h) := by
  intro k
  induction k with
  | zero =>
    intro c p v h1 hk hp hJ e1 eT e2 e3 e5 e6 e7 hv
    refine ev_iload_n rfl rfl rfl ?_
    refine ev_iconst (v := 5) rfl rfl (by decide) ?_
    refine ev_icmp_gt rfl rfl (fun z_ => absurd z_ (fun z_ => absurd ((nI_lt2 (a := 5) (by decide) (by omega)).mp z_) (by omega))) (fun c_19 => ?_)
    refine ev_aload_n rfl rfl rfl ?_
    refine ev_aload_n rfl rfl rfl ?_
    refine ev_getI rfl rfl fl_X2_19 rfl rfl rfl ?_
    try simp (disch := decide) only [ev_rd1, ev_rd2, ev_rd3, e1, e2, e5, eT]
    refine ev_V1D rfl rfl lk_X2_63 vt_X2_isLetter rfl rfl rfl rfl rfl (c_isLetter L b h1 T n p hn hp e1 eT) ?_
    refine ev_if_eq rfl rfl (fun c_30 => ?_) (fun c_30 => ?_)
    · exact ev_vret rfl rfl trivial (⟨rfl, rfl, hJ, by unfold p_ch; rw [if_neg (if01 c_30)]; exact ⟨e7, e3, e5, e6, e2⟩⟩)
    · have hl : p_let T n p := if01n c_30
      have hpn := hl.1
      refine ev_aload_n rfl rfl rfl ?_
      refine ev_getR rfl rfl fl_X2_11 rfl rfl rfl rfl ?_
      refine ev_aload_n rfl rfl rfl ?_
      refine ev_getI rfl rfl fl_X2_19 rfl rfl rfl ?_
      try simp (disch := decide) only [ev_rd1, ev_rd2, ev_rd3, e1, e2, e5, eT]
      refine ev_bald rfl rfl rfl (vp_in_nI (by omega) (by decide)) (nI_clamp (by omega)) ?_
      try simp (disch := decide) only [ev_rd1, ev_rd2, ev_rd3, e1, e2, e5, eT]
      refine ev_bipush (v := 97) rfl rfl (by decide) ?_
      refine ev_isub rfl rfl ?_
      refine ev_istore_n rfl rfl rfl rfl ?_
      dsimp only [List.set]
      refine ev_iload_n rfl rfl rfl ?_
      refine ev_bipush (v := 12) rfl rfl (by decide) ?_
      refine ev_icmp_lt rfl rfl (fun c_49 => ?_) (fun c_49 => ?_)
      · refine ev_aload_n rfl rfl rfl ?_
        refine ev_getI rfl rfl fl_X2_28 rfl rfl rfl ?_
        try simp (disch := decide) only [ev_rd1, ev_rd2, ev_rd3, e1, e2, e5, eT]
        refine ev_iload_n rfl rfl rfl ?_
        refine ev_ishr rfl rfl ?_
        refine ev_iconst (v := 1) rfl rfl (by decide) ?_
        refine ev_iand rfl rfl ?_
        refine ev_if_ne rfl rfl (fun c_70 => ?_) (fun c_70 => ?_)
        · refine ev_aload_n rfl rfl rfl ?_
          refine ev_aload_n rfl rfl rfl ?_
          refine ev_getI rfl rfl fl_X2_19 rfl rfl rfl ?_
          try simp (disch := decide) only [ev_rd1, ev_rd2, ev_rd3, e1, e2, e5, eT]
          refine ev_putI rfl rfl fl_X2_31 rfl rfl rfl rfl rfl ?_
          exact ev_vret rfl rfl trivial (⟨rfl, rfl, hJ.set rfl (B.any _), by unfold p_ch; rw [if_pos hl, if_pos c_49, if_neg c_70]; exact Or.inr ⟨by simp (disch := decide) only [ev_rd1, ev_rd2, ev_rd3]; exact e3, by simp (disch := decide) only [ev_rd1, ev_rd2, ev_rd3]; exact nI_ne_m1 (by omega)⟩⟩)
        · refine ev_iload_n rfl rfl rfl ?_
          refine ev_iconst (v := 5) rfl rfl (by decide) ?_
          refine ev_icmp_ne rfl rfl (fun z_ => absurd (show nI c = 5 from by rw [show c = 5 by omega]; rfl) z_) (fun c_75 => ?_)
          refine ev_aload_n rfl rfl rfl ?_
          refine ev_aload_n rfl rfl rfl ?_
          refine ev_getI rfl rfl fl_X2_19 rfl rfl rfl ?_
          try simp (disch := decide) only [ev_rd1, ev_rd2, ev_rd3, e1, e2, e5, eT]
          refine ev_putI rfl rfl fl_X2_31 rfl rfl rfl rfl rfl ?_
          exact ev_vret rfl rfl trivial (⟨rfl, rfl, hJ.set rfl (B.any _), by unfold p_ch; rw [if_pos hl, if_pos c_49, if_pos c_70, if_pos (by omega)]; exact Or.inr ⟨by simp (disch := decide) only [ev_rd1, ev_rd2, ev_rd3]; exact e3, by simp (disch := decide) only [ev_rd1, ev_rd2, ev_rd3]; exact nI_ne_m1 (by omega)⟩⟩)
      · refine ev_aload_n rfl rfl rfl ?_
        refine ev_iconst (v := 1) rfl rfl (by decide) ?_
        refine ev_aload_n rfl rfl rfl ?_
        refine ev_getI rfl rfl fl_X2_19 rfl rfl rfl ?_
        try simp (disch := decide) only [ev_rd1, ev_rd2, ev_rd3, e1, e2, e5, eT]
        refine ev_V2U rfl rfl lk_X2_79 vt_X2_fail rfl rfl rfl rfl rfl (c_fail _ _ _ _ _) ?_
        exact ev_vret rfl rfl trivial (⟨rfl, rfl, (hJ.set rfl (B.any _)).set rfl (B.any _), by unfold p_ch; rw [if_pos hl, if_neg c_49]; exact Or.inl (by simp (disch := decide) only [ev_rd1, ev_rd2, ev_rd3]; decide)⟩)
  | succ k ih =>
    intro c p v h1 hk hp hJ e1 eT e2 e3 e5 e6 e7 hv
    refine ev_iload_n rfl rfl rfl ?_
    refine ev_iconst (v := 5) rfl rfl (by decide) ?_
    refine ev_icmp_gt rfl rfl (fun z_ => absurd z_ (fun z_ => absurd ((nI_lt2 (a := 5) (by decide) (by omega)).mp z_) (by omega))) (fun c_19 => ?_)
    refine ev_aload_n rfl rfl rfl ?_
    refine ev_aload_n rfl rfl rfl ?_
    refine ev_getI rfl rfl fl_X2_19 rfl rfl rfl ?_
    try simp (disch := decide) only [ev_rd1, ev_rd2, ev_rd3, e1, e2, e5, eT]
    refine ev_V1D rfl rfl lk_X2_63 vt_X2_isLetter rfl rfl rfl rfl rfl (c_isLetter L b h1 T n p hn hp e1 eT) ?_
    refine ev_if_eq rfl rfl (fun c_30 => ?_) (fun c_30 => ?_)
    · exact ev_vret rfl rfl trivial (⟨rfl, rfl, hJ, by unfold p_ch; rw [if_neg (if01 c_30)]; exact ⟨e7, e3, e5, e6, e2⟩⟩)
    · have hl : p_let T n p := if01n c_30
      have hpn := hl.1
      refine ev_aload_n rfl rfl rfl ?_
      refine ev_getR rfl rfl fl_X2_11 rfl rfl rfl rfl ?_
      refine ev_aload_n rfl rfl rfl ?_
      refine ev_getI rfl rfl fl_X2_19 rfl rfl rfl ?_
      try simp (disch := decide) only [ev_rd1, ev_rd2, ev_rd3, e1, e2, e5, eT]
      refine ev_bald rfl rfl rfl (vp_in_nI (by omega) (by decide)) (nI_clamp (by omega)) ?_
      try simp (disch := decide) only [ev_rd1, ev_rd2, ev_rd3, e1, e2, e5, eT]
      refine ev_bipush (v := 97) rfl rfl (by decide) ?_
      refine ev_isub rfl rfl ?_
      refine ev_istore_n rfl rfl rfl rfl ?_
      dsimp only [List.set]
      refine ev_iload_n rfl rfl rfl ?_
      refine ev_bipush (v := 12) rfl rfl (by decide) ?_
      refine ev_icmp_lt rfl rfl (fun c_49 => ?_) (fun c_49 => ?_)
      · refine ev_aload_n rfl rfl rfl ?_
        refine ev_getI rfl rfl fl_X2_28 rfl rfl rfl ?_
        try simp (disch := decide) only [ev_rd1, ev_rd2, ev_rd3, e1, e2, e5, eT]
        refine ev_iload_n rfl rfl rfl ?_
        refine ev_ishr rfl rfl ?_
        refine ev_iconst (v := 1) rfl rfl (by decide) ?_
        refine ev_iand rfl rfl ?_
        refine ev_if_ne rfl rfl (fun c_70 => ?_) (fun c_70 => ?_)
        · refine ev_aload_n rfl rfl rfl ?_
          refine ev_aload_n rfl rfl rfl ?_
          refine ev_getI rfl rfl fl_X2_19 rfl rfl rfl ?_
          try simp (disch := decide) only [ev_rd1, ev_rd2, ev_rd3, e1, e2, e5, eT]
          refine ev_putI rfl rfl fl_X2_31 rfl rfl rfl rfl rfl ?_
          exact ev_vret rfl rfl trivial (⟨rfl, rfl, hJ.set rfl (B.any _), by unfold p_ch; rw [if_pos hl, if_pos c_49, if_neg c_70]; exact Or.inr ⟨by simp (disch := decide) only [ev_rd1, ev_rd2, ev_rd3]; exact e3, by simp (disch := decide) only [ev_rd1, ev_rd2, ev_rd3]; exact nI_ne_m1 (by omega)⟩⟩)
        · refine ev_iload_n rfl rfl rfl ?_
          refine ev_iconst (v := 5) rfl rfl (by decide) ?_
          refine ev_icmp_ne rfl rfl (fun c_75 => ?_) (fun z_ => absurd z_ (fun z_ => absurd ((nI_eq (a := c) (b := 5) (by omega) (by decide)).mp z_) (by omega)))
          refine ev_aload_n rfl rfl rfl ?_
          refine ev_dup rfl rfl rfl ?_
          refine ev_getI rfl rfl fl_X2_28 rfl rfl rfl ?_
          try simp (disch := decide) only [ev_rd1, ev_rd2, ev_rd3, e1, e2, e5, eT]
          refine ev_iconst (v := 1) rfl rfl (by decide) ?_
          refine ev_iload_n rfl rfl rfl ?_
          refine ev_ishl rfl rfl ?_
          refine ev_ior rfl rfl ?_
          refine ev_putI rfl rfl fl_X2_28 rfl rfl rfl rfl rfl ?_
          refine ev_aload_n rfl rfl rfl ?_
          refine ev_dup rfl rfl rfl ?_
          refine ev_getI rfl rfl fl_X2_19 rfl rfl rfl ?_
          try simp (disch := decide) only [ev_rd1, ev_rd2, ev_rd3, e1, e2, e5, eT]
          refine ev_iconst (v := 1) rfl rfl (by decide) ?_
          refine ev_iadd rfl rfl ?_
          refine ev_putI rfl rfl fl_X2_19 rfl rfl rfl rfl rfl ?_
          refine ev_iinc (y := 1) rfl rfl rfl (by decide) rfl rfl ?_
          dsimp only [List.set]
          refine ev_goto rfl rfl ?_
          refine EvQ.drop 2 ?_
          rw [nI_1 c, show nI p + 1 = nI (p + 1) from nI_1 p]
          have z_ := ih (c + 1) (p + 1) (v ||| 1 <<< ((T p - 97) &&& 31)) (ev_set (ev_set h1 23 5 (v ||| 1 <<< ((T p - 97) &&& 31))) 23 2 (nI (p + 1))) (by omega) (by omega) ((hJ.set rfl (p_vB hv hl c_49)).set rfl (nI_160 (by omega))) (by simp (disch := decide) only [ev_rd1, ev_rd2, ev_rd3]; exact e1) (fun j => by simp (disch := decide) only [ev_rd1, ev_rd2, ev_rd3]; exact eT j) (by simp (disch := decide) only [ev_rd1, ev_rd2, ev_rd3]) (by simp (disch := decide) only [ev_rd1, ev_rd2, ev_rd3]; exact e3) (by simp (disch := decide) only [ev_rd1, ev_rd2, ev_rd3]) (by simp (disch := decide) only [ev_rd1, ev_rd2, ev_rd3]; exact e6) (by simp (disch := decide) only [ev_rd1, ev_rd2, ev_rd3]; exact e7) (p_vB hv hl c_49)
          have y_ : p_ch T n (k + 1 + 1) p v c = p_ch T n (k + 1) (p + 1) (v ||| 1 <<< ((T p - 97) &&& 31)) (c + 1) := by
            conv => lhs; unfold p_ch
            rw [if_pos hl, if_pos c_49, if_pos c_70, if_neg (by omega)]
          rw [y_]
          exact z_
      · refine ev_aload_n rfl rfl rfl ?_
        refine ev_iconst (v := 1) rfl rfl (by decide) ?_
        refine ev_aload_n rfl rfl rfl ?_
        refine ev_getI rfl rfl fl_X2_19 rfl rfl rfl ?_
        try simp (disch := decide) only [ev_rd1, ev_rd2, ev_rd3, e1, e2, e5, eT]
        refine ev_V2U rfl rfl lk_X2_79 vt_X2_fail rfl rfl rfl rfl rfl (c_fail _ _ _ _ _) ?_
        exact ev_vret rfl rfl trivial (⟨rfl, rfl, (hJ.set rfl (B.any _)).set rfl (B.any _), by unfold p_ch; rw [if_pos hl, if_neg c_49]; exact Or.inl (by simp (disch := decide) only [ev_rd1, ev_rd2, ev_rd3]; decide)⟩)

set_option maxRecDepth 100000 in
set_option maxHeartbeats 4000000 in
theorem w_readChordC (L : Nat) (b : Bool) (h : Hp) (hB : Bx h) (T : Nat → Int32) (n p : Nat) (hn : n ≤ 160) (hp : p ≤ n) (e1 : h 23 1 = nI n) (eT : ∀ j, h 24 j = T j) (e2 : h 23 2 = nI p) (e7 : h 23 7 = 0)  : EvK mi_X2_readChord [.ref 23] (G0 L b) h (CHP (p_ch T n 6 p 0 0)) [(23, 2), (23, 3), (23, 4), (23, 5), (23, 6), (23, 7), (23, 8)] := by
  refine EvM.of2 (lo := [some (.ref 23), none, none]) pf_X2_readChord ok_X2_readChord rfl rfl ?_
  refine ev_aload_n rfl rfl rfl ?_
  refine ev_iconst (v := 1) rfl rfl (by decide) ?_
  refine ev_putI rfl rfl fl_X2_22 rfl rfl rfl rfl rfl ?_
  refine ev_aload_n rfl rfl rfl ?_
  refine ev_iconst (v := 0) rfl rfl (by decide) ?_
  refine ev_putI rfl rfl fl_X2_28 rfl rfl rfl rfl rfl ?_
  refine ev_aload_n rfl rfl rfl ?_
  refine ev_iconst (v := (-1)) rfl rfl (by decide) ?_
  refine ev_putI rfl rfl fl_X2_31 rfl rfl rfl rfl rfl ?_
  refine ev_iconst (v := 0) rfl rfl (by decide) ?_
  refine ev_istore_n rfl rfl rfl rfl ?_
  dsimp only [List.set]
  exact l_rch L b h T n hn 5 0 p 0 _ (by omega) hp ((((JW.refl hB).set rfl (B.any _)).set rfl (by decide)).set rfl (B.any _)) (by simp (disch := decide) only [ev_rd1, ev_rd2, ev_rd3]; exact e1) (fun j => by simp (disch := decide) only [ev_rd1, ev_rd2, ev_rd3]; exact eT j) (by simp (disch := decide) only [ev_rd1, ev_rd2, ev_rd3]; exact e2) (by simp (disch := decide) only [ev_rd1, ev_rd2, ev_rd3]) (by simp (disch := decide) only [ev_rd1, ev_rd2, ev_rd3]) (by simp (disch := decide) only [ev_rd1, ev_rd2, ev_rd3]) (by simp (disch := decide) only [ev_rd1, ev_rd2, ev_rd3]; exact e7) (by decide)

def NMP (o : Option (Int32 × Nat)) (z : Hp) : Prop := match o with
  | some x => z 23 7 = 0 ∧ z 23 3 = 2 ∧ z 23 5 = x.1 ∧ z 23 2 = nI x.2
  | none => ¬ z 23 7 = 0
theorem p_fB {T : Nat → Int32} {n p : Nat} (h : p_fig T n p) : B (0 * 10 + T p - 48) 0 9 := by
  obtain ⟨-, a1, a2⟩ := h
  have z1 := w_nlt a1
  have z2 := w_nlt a2
  have e1 : (48 : Int32).toInt = 48 := by decide
  have e2 : (57 : Int32).toInt = 57 := by decide
  have e0 : (0 * 10 : Int32) + T p = T p := by rw [Int32.zero_mul, Int32.zero_add]
  rw [e0]
  have e := w_sub (x := T p) (y := 48) (by omega) (by omega)
  exact ⟨by omega, by omega⟩
theorem B.mul10 {x : Int32} (h : B x 0 9) : B (x * 10) 0 90 := by
  have h1 := h.1
  have h2 := h.2
  have e1 : (10 : Int32).toInt = 10 := by decide
  have e : (x * 10).toInt = x.toInt * 10 := by
    rw [Int32.toInt_mul, e1]
    exact Int.bmod_eq_of_le (by omega) (by omega)
  exact ⟨by omega, by omega⟩
theorem p_fB2 {T : Nat → Int32} {n p q : Nat} (h : p_fig T n p) (h2 : p_fig T n q) : B ((0 * 10 + T p - 48) * 10 + T q - 48) 0 99 := by
  have b1 := p_fB h
  have b2 := (B.mul10 b1)
  obtain ⟨-, a1, a2⟩ := h2
  have z1 := w_nlt a1
  have z2 := w_nlt a2
  have e1 : (48 : Int32).toInt = 48 := by decide
  have e2 : (57 : Int32).toInt = 57 := by decide
  have z3 := b2.1
  have z4 := b2.2
  have e := w_add (x := (0 * 10 + T p - 48) * 10) (y := T q) (by omega) (by omega)
  have e3 := w_sub (x := (0 * 10 + T p - 48) * 10 + T q) (y := 48) (by omega) (by omega)
  exact ⟨by omega, by omega⟩

set_option maxRecDepth 100000 in
set_option maxHeartbeats 4000000 in
theorem w_readNumberC (L : Nat) (b : Bool) (h : Hp) (hB : Bx h) (T : Nat → Int32) (n p : Nat) (hn : n ≤ 160) (hp : p ≤ n) (e1 : h 23 1 = nI n) (eT : ∀ j, h 24 j = T j) (e2 : h 23 2 = nI p) (e7 : h 23 7 = 0) (hf : p_fig T n p) : EvK mi_X2_readNumber [.ref 23] (G0 L b) h (NMP (p_nm T n p)) [(23, 2), (23, 3), (23, 4), (23, 5), (23, 6), (23, 7), (23, 8)] := by
  refine EvM.of2 (lo := [some (.ref 23), none]) pf_X2_readNumber ok_X2_readNumber rfl rfl ?_
  refine ev_aload_n rfl rfl rfl ?_
  refine ev_iconst (v := 2) rfl rfl (by decide) ?_
  refine ev_putI rfl rfl fl_X2_22 rfl rfl rfl rfl rfl ?_
  refine ev_aload_n rfl rfl rfl ?_
  refine ev_iconst (v := 0) rfl rfl (by decide) ?_
  refine ev_putI rfl rfl fl_X2_28 rfl rfl rfl rfl rfl ?_
  refine ev_iconst (v := 0) rfl rfl (by decide) ?_
  refine ev_istore_n rfl rfl rfl rfl ?_
  dsimp only [List.set]
  refine ev_iload_n rfl rfl rfl ?_
  refine ev_iconst (v := 2) rfl rfl (by decide) ?_
  refine ev_icmp_ge rfl rfl (fun z_ => absurd z_ (by decide)) (fun c_14 => ?_)
  refine ev_aload_n rfl rfl rfl ?_
  refine ev_aload_n rfl rfl rfl ?_
  refine ev_getI rfl rfl fl_X2_19 rfl rfl rfl ?_
  try simp (disch := decide) only [ev_rd1, ev_rd2, ev_rd3, e1, e2, eT]
  refine ev_V1D rfl rfl lk_X2_70 vt_X2_isFigure rfl rfl rfl rfl rfl (c_isFigure L b _ T n (p + 0) hn (by have := hf.1; omega) (by first | exact e1 | (simp (disch := decide) only [ev_rd1, ev_rd2, ev_rd3]; exact e1)) (fun j => by first | exact eT j | (simp (disch := decide) only [ev_rd1, ev_rd2, ev_rd3]; exact eT j))) ?_
  refine ev_if_eq rfl rfl (fun c_25 => ?_) (fun c_25 => ?_)
  · refine ev_aload_n rfl rfl rfl ?_
    refine ev_aload_n rfl rfl rfl ?_
    refine ev_getI rfl rfl fl_X2_19 rfl rfl rfl ?_
    try simp (disch := decide) only [ev_rd1, ev_rd2, ev_rd3, e1, e2, eT]
    refine ev_V1D rfl rfl lk_X2_70 vt_X2_isFigure rfl rfl rfl rfl rfl (c_isFigure L b _ T n (p + 0) hn (by have := hf.1; omega) (by first | exact e1 | (simp (disch := decide) only [ev_rd1, ev_rd2, ev_rd3]; exact e1)) (fun j => by first | exact eT j | (simp (disch := decide) only [ev_rd1, ev_rd2, ev_rd3]; exact eT j))) ?_
    refine ev_if_eq rfl rfl (fun c_76 => ?_) (fun c_76 => ?_)
    · exact ev_vret rfl rfl trivial ((absurd hf (if01 c_25)))
    · refine ev_aload_n rfl rfl rfl ?_
      refine ev_iconst (v := 1) rfl rfl (by decide) ?_
      refine ev_aload_n rfl rfl rfl ?_
      refine ev_getI rfl rfl fl_X2_25 rfl rfl rfl ?_
      try simp (disch := decide) only [ev_rd1, ev_rd2, ev_rd3, e1, e2, eT]
      refine ev_V2U rfl rfl lk_X2_79 vt_X2_fail rfl rfl rfl rfl rfl (c_fail _ _ _ _ _) ?_
      exact ev_vret rfl rfl trivial ((absurd hf (if01 c_25)))
  · refine ev_aload_n rfl rfl rfl ?_
    refine ev_aload_n rfl rfl rfl ?_
    refine ev_getI rfl rfl fl_X2_28 rfl rfl rfl ?_
    try simp (disch := decide) only [ev_rd1, ev_rd2, ev_rd3, e1, e2, eT]
    refine ev_bipush (v := 10) rfl rfl (by decide) ?_
    refine ev_imul rfl rfl ?_
    refine ev_aload_n rfl rfl rfl ?_
    refine ev_getR rfl rfl fl_X2_11 rfl rfl rfl rfl ?_
    refine ev_aload_n rfl rfl rfl ?_
    refine ev_getI rfl rfl fl_X2_19 rfl rfl rfl ?_
    try simp (disch := decide) only [ev_rd1, ev_rd2, ev_rd3, e1, e2, eT]
    refine ev_bald rfl rfl rfl (vp_in_nI (by first | (have := hf.1; omega) | (have := (if01n c_25b).1; omega)) (by decide)) (nI_clamp (by omega)) ?_
    try simp (disch := decide) only [ev_rd1, ev_rd2, ev_rd3, e1, e2, eT]
    refine ev_iadd rfl rfl ?_
    refine ev_bipush (v := 48) rfl rfl (by decide) ?_
    refine ev_isub rfl rfl ?_
    refine ev_putI rfl rfl fl_X2_28 rfl rfl rfl rfl rfl ?_
    refine ev_aload_n rfl rfl rfl ?_
    refine ev_dup rfl rfl rfl ?_
    refine ev_getI rfl rfl fl_X2_19 rfl rfl rfl ?_
    try simp (disch := decide) only [ev_rd1, ev_rd2, ev_rd3, e1, e2, eT]
    refine ev_iconst (v := 1) rfl rfl (by decide) ?_
    refine ev_iadd rfl rfl ?_
    refine ev_putI rfl rfl fl_X2_19 rfl rfl rfl rfl rfl ?_
    simp only [nI_1]
    refine ev_iinc (y := 1) rfl rfl rfl (by decide) rfl rfl ?_
    dsimp only [List.set]
    refine ev_goto rfl rfl ?_
    refine ev_iload_n rfl rfl rfl ?_
    refine ev_iconst (v := 2) rfl rfl (by decide) ?_
    refine ev_icmp_ge rfl rfl (fun z_ => absurd z_ (by decide)) (fun c_14b => ?_)
    refine ev_aload_n rfl rfl rfl ?_
    refine ev_aload_n rfl rfl rfl ?_
    refine ev_getI rfl rfl fl_X2_19 rfl rfl rfl ?_
    try simp (disch := decide) only [ev_rd1, ev_rd2, ev_rd3, e1, e2, eT]
    refine ev_V1D rfl rfl lk_X2_70 vt_X2_isFigure rfl rfl rfl rfl rfl (c_isFigure L b _ T n (p + 1) hn (by have := hf.1; omega) (by first | exact e1 | (simp (disch := decide) only [ev_rd1, ev_rd2, ev_rd3]; exact e1)) (fun j => by first | exact eT j | (simp (disch := decide) only [ev_rd1, ev_rd2, ev_rd3]; exact eT j))) ?_
    refine ev_if_eq rfl rfl (fun c_25b => ?_) (fun c_25b => ?_)
    · refine ev_aload_n rfl rfl rfl ?_
      refine ev_aload_n rfl rfl rfl ?_
      refine ev_getI rfl rfl fl_X2_19 rfl rfl rfl ?_
      try simp (disch := decide) only [ev_rd1, ev_rd2, ev_rd3, e1, e2, eT]
      refine ev_V1D rfl rfl lk_X2_70 vt_X2_isFigure rfl rfl rfl rfl rfl (c_isFigure L b _ T n (p + 1) hn (by have := hf.1; omega) (by first | exact e1 | (simp (disch := decide) only [ev_rd1, ev_rd2, ev_rd3]; exact e1)) (fun j => by first | exact eT j | (simp (disch := decide) only [ev_rd1, ev_rd2, ev_rd3]; exact eT j))) ?_
      refine ev_if_eq rfl rfl (fun c_76 => ?_) (fun c_76 => ?_)
      · exact ev_vret rfl rfl trivial (⟨rfl, rfl, ((((JW.refl hB).set rfl (B.any _)).set rfl (by decide)).set rfl ((p_fB hf).mono (by decide) (by decide))).set rfl (nI_160 (by have := hf.1; omega)), by unfold p_nm; rw [if_neg (if01 c_25b)]; exact ⟨by simp (disch := decide) only [ev_rd1, ev_rd2, ev_rd3]; exact e7, by simp (disch := decide) only [ev_rd1, ev_rd2, ev_rd3], by simp (disch := decide) only [ev_rd1, ev_rd2, ev_rd3], by simp (disch := decide) only [ev_rd1, ev_rd2, ev_rd3]⟩⟩)
      · refine ev_aload_n rfl rfl rfl ?_
        refine ev_iconst (v := 1) rfl rfl (by decide) ?_
        refine ev_aload_n rfl rfl rfl ?_
        refine ev_getI rfl rfl fl_X2_25 rfl rfl rfl ?_
        try simp (disch := decide) only [ev_rd1, ev_rd2, ev_rd3, e1, e2, eT]
        refine ev_V2U rfl rfl lk_X2_79 vt_X2_fail rfl rfl rfl rfl rfl (c_fail _ _ _ _ _) ?_
        exact ev_vret rfl rfl trivial ((absurd (if01n c_76) (if01 c_25b)))
    · refine ev_aload_n rfl rfl rfl ?_
      refine ev_aload_n rfl rfl rfl ?_
      refine ev_getI rfl rfl fl_X2_28 rfl rfl rfl ?_
      try simp (disch := decide) only [ev_rd1, ev_rd2, ev_rd3, e1, e2, eT]
      refine ev_bipush (v := 10) rfl rfl (by decide) ?_
      refine ev_imul rfl rfl ?_
      refine ev_aload_n rfl rfl rfl ?_
      refine ev_getR rfl rfl fl_X2_11 rfl rfl rfl rfl ?_
      refine ev_aload_n rfl rfl rfl ?_
      refine ev_getI rfl rfl fl_X2_19 rfl rfl rfl ?_
      try simp (disch := decide) only [ev_rd1, ev_rd2, ev_rd3, e1, e2, eT]
      refine ev_bald rfl rfl rfl (vp_in_nI (by first | (have := hf.1; omega) | (have := (if01n c_25b).1; omega)) (by decide)) (nI_clamp (by omega)) ?_
      try simp (disch := decide) only [ev_rd1, ev_rd2, ev_rd3, e1, e2, eT]
      refine ev_iadd rfl rfl ?_
      refine ev_bipush (v := 48) rfl rfl (by decide) ?_
      refine ev_isub rfl rfl ?_
      refine ev_putI rfl rfl fl_X2_28 rfl rfl rfl rfl rfl ?_
      refine ev_aload_n rfl rfl rfl ?_
      refine ev_dup rfl rfl rfl ?_
      refine ev_getI rfl rfl fl_X2_19 rfl rfl rfl ?_
      try simp (disch := decide) only [ev_rd1, ev_rd2, ev_rd3, e1, e2, eT]
      refine ev_iconst (v := 1) rfl rfl (by decide) ?_
      refine ev_iadd rfl rfl ?_
      refine ev_putI rfl rfl fl_X2_19 rfl rfl rfl rfl rfl ?_
      simp only [nI_1]
      refine ev_iinc (y := 1) rfl rfl rfl (by decide) rfl rfl ?_
      dsimp only [List.set]
      refine ev_goto rfl rfl ?_
      refine ev_iload_n rfl rfl rfl ?_
      refine ev_iconst (v := 2) rfl rfl (by decide) ?_
      refine ev_icmp_ge rfl rfl (fun c_14bb => ?_) (fun z_ => absurd (by decide) z_)
      refine ev_aload_n rfl rfl rfl ?_
      refine ev_aload_n rfl rfl rfl ?_
      refine ev_getI rfl rfl fl_X2_19 rfl rfl rfl ?_
      try simp (disch := decide) only [ev_rd1, ev_rd2, ev_rd3, e1, e2, eT]
      refine ev_V1D rfl rfl lk_X2_70 vt_X2_isFigure rfl rfl rfl rfl rfl (c_isFigure L b _ T n (p + 2) hn (by have := (if01n c_25b).1; omega) (by simp (disch := decide) only [ev_rd1, ev_rd2, ev_rd3]; exact e1) (fun j => by simp (disch := decide) only [ev_rd1, ev_rd2, ev_rd3]; exact eT j)) ?_
      refine ev_if_eq rfl rfl (fun c_76 => ?_) (fun c_76 => ?_)
      · exact ev_vret rfl rfl trivial (⟨rfl, rfl, ((((((JW.refl hB).set rfl (B.any _)).set rfl (by decide)).set rfl ((p_fB hf).mono (by decide) (by decide))).set rfl (nI_160 (by have := hf.1; omega))).set rfl ((p_fB2 hf (if01n c_25b)).mono (by decide) (by decide))).set rfl (nI_160 (by have := (if01n c_25b).1; omega)), by unfold p_nm; rw [if_pos (if01n c_25b), if_neg (if01 c_76)]; exact ⟨by simp (disch := decide) only [ev_rd1, ev_rd2, ev_rd3]; exact e7, by simp (disch := decide) only [ev_rd1, ev_rd2, ev_rd3], by simp (disch := decide) only [ev_rd1, ev_rd2, ev_rd3], by simp (disch := decide) only [ev_rd1, ev_rd2, ev_rd3]⟩⟩)
      · refine ev_aload_n rfl rfl rfl ?_
        refine ev_iconst (v := 1) rfl rfl (by decide) ?_
        refine ev_aload_n rfl rfl rfl ?_
        refine ev_getI rfl rfl fl_X2_25 rfl rfl rfl ?_
        try simp (disch := decide) only [ev_rd1, ev_rd2, ev_rd3, e1, e2, eT]
        refine ev_V2U rfl rfl lk_X2_79 vt_X2_fail rfl rfl rfl rfl rfl (c_fail _ _ _ _ _) ?_
        exact ev_vret rfl rfl trivial (⟨rfl, rfl, ((((((((JW.refl hB).set rfl (B.any _)).set rfl (by decide)).set rfl ((p_fB hf).mono (by decide) (by decide))).set rfl (nI_160 (by have := hf.1; omega))).set rfl ((p_fB2 hf (if01n c_25b)).mono (by decide) (by decide))).set rfl (nI_160 (by have := (if01n c_25b).1; omega))).set rfl (B.any _)).set rfl (B.any _), by unfold p_nm; rw [if_pos (if01n c_25b), if_pos (if01n c_76)]; show ¬ _ = _; simp (disch := decide) only [ev_rd1, ev_rd2, ev_rd3]; decide⟩)

def p_sg (T : Nat → Int32) (q : Nat) : Option (Nat × Int32 × Nat) := if T q = 46 then some (3, 0, q + 1) else if T q = 40 then some (4, 0, q + 1) else if T q = 41 then some (5, 0, q + 1) else none
def SGP (v0 : Int32) (o : Option (Nat × Int32 × Nat)) (z : Hp) : Prop := match o with
  | some (t, _, e) => z 23 7 = 0 ∧ z 23 3 = nI t ∧ z 23 2 = nI e ∧ z 23 5 = v0
  | none => ¬ z 23 7 = 0

set_option maxRecDepth 100000 in
set_option maxHeartbeats 4000000 in
theorem w_readSignC (L : Nat) (b : Bool) (h : Hp) (hB : Bx h) (T : Nat → Int32) (n p : Nat) (hn : n ≤ 160) (hp : p ≤ n) (e1 : h 23 1 = nI n) (eT : ∀ j, h 24 j = T j) (e2 : h 23 2 = nI p) (e7 : h 23 7 = 0) (hpn : p < n) : EvK mi_X2_readSign [.ref 23] (G0 L b) h (SGP (h 23 5) (p_sg T p)) [(23, 2), (23, 3), (23, 4), (23, 5), (23, 6), (23, 7), (23, 8)] := by
  refine EvM.of2 (lo := [some (.ref 23)]) pf_X2_readSign ok_X2_readSign rfl rfl ?_
  refine ev_aload_n rfl rfl rfl ?_
  refine ev_getR rfl rfl fl_X2_11 rfl rfl rfl rfl ?_
  refine ev_aload_n rfl rfl rfl ?_
  refine ev_getI rfl rfl fl_X2_19 rfl rfl rfl ?_
  try simp (disch := decide) only [ev_rd1, ev_rd2, ev_rd3, e2, eT]
  refine ev_bald rfl rfl rfl (vp_in_nI (by omega) (by decide)) (nI_clamp (by omega)) ?_
  try simp (disch := decide) only [ev_rd1, ev_rd2, ev_rd3, e2, eT]
  by_cases s40 : T p = 40
  · have s46 : ¬ T p = 46 := by rw [s40]; decide
    refine ev_lookup 52 rfl (by decide) (by rw [s40]) (by decide) ?_
    refine ev_aload_n rfl rfl rfl ?_
    refine ev_iconst (v := 4) rfl rfl (by decide) ?_
    refine ev_putI rfl rfl fl_X2_22 rfl rfl rfl rfl rfl ?_
    refine ev_goto rfl rfl ?_
    refine ev_aload_n rfl rfl rfl ?_
    refine ev_dup rfl rfl rfl ?_
    refine ev_getI rfl rfl fl_X2_19 rfl rfl rfl ?_
    try simp (disch := decide) only [ev_rd1, ev_rd2, ev_rd3, e2, eT]
    refine ev_iconst (v := 1) rfl rfl (by decide) ?_
    refine ev_iadd rfl rfl ?_
    refine ev_putI rfl rfl fl_X2_19 rfl rfl rfl rfl rfl ?_
    simp only [nI_1]
    exact ev_vret rfl rfl trivial (⟨rfl, rfl, ((JW.refl hB).set rfl (B.any _)).set rfl (nI_160 (by omega)), by unfold p_sg; rw [if_neg s46, if_pos s40]; exact ⟨by simp (disch := decide) only [ev_rd1, ev_rd2, ev_rd3]; exact e7, by simp (disch := decide) only [ev_rd1, ev_rd2, ev_rd3]; rfl, by simp (disch := decide) only [ev_rd1, ev_rd2, ev_rd3], by simp (disch := decide) only [ev_rd1, ev_rd2, ev_rd3]⟩⟩)
  by_cases s41 : T p = 41
  · have s46 : ¬ T p = 46 := by rw [s41]; decide
    refine ev_lookup 60 rfl (by decide) (by rw [s41]) (by decide) ?_
    refine ev_aload_n rfl rfl rfl ?_
    refine ev_iconst (v := 5) rfl rfl (by decide) ?_
    refine ev_putI rfl rfl fl_X2_22 rfl rfl rfl rfl rfl ?_
    refine ev_goto rfl rfl ?_
    refine ev_aload_n rfl rfl rfl ?_
    refine ev_dup rfl rfl rfl ?_
    refine ev_getI rfl rfl fl_X2_19 rfl rfl rfl ?_
    try simp (disch := decide) only [ev_rd1, ev_rd2, ev_rd3, e2, eT]
    refine ev_iconst (v := 1) rfl rfl (by decide) ?_
    refine ev_iadd rfl rfl ?_
    refine ev_putI rfl rfl fl_X2_19 rfl rfl rfl rfl rfl ?_
    simp only [nI_1]
    exact ev_vret rfl rfl trivial (⟨rfl, rfl, ((JW.refl hB).set rfl (B.any _)).set rfl (nI_160 (by omega)), by unfold p_sg; rw [if_neg s46, if_neg s40, if_pos s41]; exact ⟨by simp (disch := decide) only [ev_rd1, ev_rd2, ev_rd3]; exact e7, by simp (disch := decide) only [ev_rd1, ev_rd2, ev_rd3]; rfl, by simp (disch := decide) only [ev_rd1, ev_rd2, ev_rd3], by simp (disch := decide) only [ev_rd1, ev_rd2, ev_rd3]⟩⟩)
  by_cases s46 : T p = 46
  · refine ev_lookup 44 rfl (by decide) (by rw [s46]) (by decide) ?_
    refine ev_aload_n rfl rfl rfl ?_
    refine ev_iconst (v := 3) rfl rfl (by decide) ?_
    refine ev_putI rfl rfl fl_X2_22 rfl rfl rfl rfl rfl ?_
    refine ev_goto rfl rfl ?_
    refine ev_aload_n rfl rfl rfl ?_
    refine ev_dup rfl rfl rfl ?_
    refine ev_getI rfl rfl fl_X2_19 rfl rfl rfl ?_
    try simp (disch := decide) only [ev_rd1, ev_rd2, ev_rd3, e2, eT]
    refine ev_iconst (v := 1) rfl rfl (by decide) ?_
    refine ev_iadd rfl rfl ?_
    refine ev_putI rfl rfl fl_X2_19 rfl rfl rfl rfl rfl ?_
    simp only [nI_1]
    exact ev_vret rfl rfl trivial (⟨rfl, rfl, ((JW.refl hB).set rfl (B.any _)).set rfl (nI_160 (by omega)), by unfold p_sg; rw [if_pos s46]; exact ⟨by simp (disch := decide) only [ev_rd1, ev_rd2, ev_rd3]; exact e7, by simp (disch := decide) only [ev_rd1, ev_rd2, ev_rd3]; rfl, by simp (disch := decide) only [ev_rd1, ev_rd2, ev_rd3], by simp (disch := decide) only [ev_rd1, ev_rd2, ev_rd3]⟩⟩)
  refine ev_lookup 68 rfl (by decide) (lk_no3 s40 s41 s46) (by decide) ?_
  refine ev_aload_n rfl rfl rfl ?_
  refine ev_iconst (v := 1) rfl rfl (by decide) ?_
  refine ev_aload_n rfl rfl rfl ?_
  refine ev_getI rfl rfl fl_X2_19 rfl rfl rfl ?_
  try simp (disch := decide) only [ev_rd1, ev_rd2, ev_rd3, e2, eT]
  refine ev_V2U rfl rfl lk_X2_79 vt_X2_fail rfl rfl rfl rfl rfl (c_fail _ _ _ _ _) ?_
  refine ev_aload_n rfl rfl rfl ?_
  refine ev_dup rfl rfl rfl ?_
  refine ev_getI rfl rfl fl_X2_19 rfl rfl rfl ?_
  try simp (disch := decide) only [ev_rd1, ev_rd2, ev_rd3, e2, eT]
  refine ev_iconst (v := 1) rfl rfl (by decide) ?_
  refine ev_iadd rfl rfl ?_
  refine ev_putI rfl rfl fl_X2_19 rfl rfl rfl rfl rfl ?_
  simp only [nI_1]
  exact ev_vret rfl rfl trivial (⟨rfl, rfl, (((JW.refl hB).set rfl (B.any _)).set rfl (B.any _)).set rfl (nI_160 (by omega)), by unfold p_sg; rw [if_neg s46, if_neg s40, if_neg s41]; show ¬ _ = _; simp (disch := decide) only [ev_rd1, ev_rd2, ev_rd3]; decide⟩)

def TKP (v0 : Int32) (o : Option (Nat × Int32 × Nat)) (z : Hp) : Prop := match o with
  | some (t, v, e) => z 23 7 = 0 ∧ z 23 3 = nI t ∧ z 23 2 = nI e ∧ (t = 1 → z 23 5 = v ∧ z 23 6 = -1) ∧ (t = 2 → z 23 5 = v) ∧ (3 ≤ t → z 23 5 = v0)
  | none => ¬ z 23 7 = 0 ∨ (z 23 3 = 1 ∧ ¬ z 23 6 = -1)
theorem tk_ch {T : Nat → Int32} {n p : Nat} {v0 : Int32} {z : Hp} (h0 : ¬ n ≤ p) (h1 : p_let T n p) (hz : CHP (p_ch T n 6 p 0 0) z) : TKP v0 (p_at T n p) z := by
  unfold p_at
  rw [if_neg h0, if_pos h1]
  cases e : p_ch T n 6 p 0 0 with
  | none => rw [e] at hz; exact hz
  | some x =>
    rw [e] at hz
    obtain ⟨a1, a2, a3, a4, a5⟩ := hz
    exact ⟨a1, a2, a5, fun _ => ⟨a3, a4⟩, fun z => absurd z (by decide), fun z => absurd z (by decide)⟩
theorem tk_nm {T : Nat → Int32} {n p : Nat} {v0 : Int32} {z : Hp} (h0 : ¬ n ≤ p) (h1 : ¬ p_let T n p) (h2 : p_fig T n p) (hz : NMP (p_nm T n p) z) : TKP v0 (p_at T n p) z := by
  unfold p_at
  rw [if_neg h0, if_neg h1, if_pos h2]
  cases e : p_nm T n p with
  | none => rw [e] at hz; exact Or.inl hz
  | some x =>
    rw [e] at hz
    obtain ⟨a1, a2, a3, a5⟩ := hz
    exact ⟨a1, a2, a5, fun z => absurd z (by decide), fun _ => a3, fun z => absurd z (by decide)⟩
theorem tk_sg {T : Nat → Int32} {n p : Nat} {v0 : Int32} {z : Hp} (h0 : ¬ n ≤ p) (h1 : ¬ p_let T n p) (h2 : ¬ p_fig T n p) (hz : SGP v0 (p_sg T p) z) : TKP v0 (p_at T n p) z := by
  have e : p_at T n p = p_sg T p := by
    unfold p_at p_sg
    rw [if_neg h0, if_neg h1, if_neg h2]
  rw [e]
  cases e2 : p_sg T p with
  | none => rw [e2] at hz; exact Or.inl hz
  | some x =>
    obtain ⟨xt, xv, xe⟩ := x
    rw [e2] at hz
    obtain ⟨a1, a2, a3, a4⟩ := hz
    have h3 : 3 ≤ xt := by
      unfold p_sg at e2
      split at e2
      · cases e2; decide
      · split at e2
        · cases e2; decide
        · split at e2
          · cases e2; decide
          · cases e2
    exact ⟨a1, a2, a3, fun z => absurd z (by omega), fun z => absurd z (by omega), fun _ => a4⟩

set_option maxRecDepth 100000 in
set_option maxHeartbeats 4000000 in
theorem w_tok38 (L : Nat) (b : Bool) (h h1 : Hp) (T : Nat → Int32) (n p : Nat) (v0 : Int32) (hn : n ≤ 160) (hp : p ≤ n) (hJ : JW [(23, 2), (23, 3), (23, 4), (23, 5), (23, 6), (23, 7), (23, 8)] h h1) (e1 : h1 23 1 = nI n) (eT : ∀ j, h1 24 j = T j) (e2 : h1 23 2 = nI p) (e5 : h1 23 5 = v0) (e7 : h1 23 7 = 0) : EvQ mi_X2_readToken 38 [some (.ref 23)] [] (G0 L b) h1 0 0 (QK (TKP v0 (p_at T n p)) [(23, 2), (23, 3), (23, 4), (23, 5), (23, 6), (23, 7), (23, 8)] (G0 L b) h) := by
  refine ev_aload_n rfl rfl rfl ?_
  refine ev_aload_n rfl rfl rfl ?_
  refine ev_getI rfl rfl fl_X2_19 rfl rfl rfl ?_
  try simp (disch := decide) only [ev_rd1, ev_rd2, ev_rd3, e1, e2]
  refine ev_putI rfl rfl fl_X2_25 rfl rfl rfl rfl rfl ?_
  refine ev_aload_n rfl rfl rfl ?_
  refine ev_getI rfl rfl fl_X2_19 rfl rfl rfl ?_
  try simp (disch := decide) only [ev_rd1, ev_rd2, ev_rd3, e1, e2]
  refine ev_aload_n rfl rfl rfl ?_
  refine ev_getI rfl rfl fl_X2_15 rfl rfl rfl ?_
  try simp (disch := decide) only [ev_rd1, ev_rd2, ev_rd3, e1, e2]
  refine ev_icmp_lt rfl rfl (fun c_54 => ?_) (fun c_54 => ?_)
  · have hpn : p < n := (nI_lt2 (show p < 2 ^ 31 by omega) (show n < 2 ^ 31 by omega)).mp c_54
    refine ev_aload_n rfl rfl rfl ?_
    refine ev_aload_n rfl rfl rfl ?_
    refine ev_getI rfl rfl fl_X2_19 rfl rfl rfl ?_
    try simp (disch := decide) only [ev_rd1, ev_rd2, ev_rd3, e1, e2]
    refine ev_V1D rfl rfl lk_X2_63 vt_X2_isLetter rfl rfl rfl rfl rfl (c_isLetter L b _ T n p hn hp (by simp (disch := decide) only [ev_rd1, ev_rd2, ev_rd3]; exact e1) (fun j => by simp (disch := decide) only [ev_rd1, ev_rd2, ev_rd3]; exact eT j)) ?_
    refine ev_if_eq rfl rfl (fun c_73 => ?_) (fun c_73 => ?_)
    · refine ev_aload_n rfl rfl rfl ?_
      refine ev_aload_n rfl rfl rfl ?_
      refine ev_getI rfl rfl fl_X2_19 rfl rfl rfl ?_
      try simp (disch := decide) only [ev_rd1, ev_rd2, ev_rd3, e1, e2]
      refine ev_V1D rfl rfl lk_X2_70 vt_X2_isFigure rfl rfl rfl rfl rfl (c_isFigure L b _ T n p hn hp (by simp (disch := decide) only [ev_rd1, ev_rd2, ev_rd3]; exact e1) (fun j => by simp (disch := decide) only [ev_rd1, ev_rd2, ev_rd3]; exact eT j)) ?_
      refine ev_if_eq rfl rfl (fun c_91 => ?_) (fun c_91 => ?_)
      · refine ev_aload_n rfl rfl rfl ?_
        refine ev_V0K (hJ.set rfl (B.any _)) rfl rfl rfl lk_X2_76 vt_X2_readSign rfl rfl rfl rfl rfl (w_readSignC L b _ (hJ.set rfl (B.any _)).1 T n p hn hp (by simp (disch := decide) only [ev_rd1, ev_rd2, ev_rd3]; exact e1) (fun j => by simp (disch := decide) only [ev_rd1, ev_rd2, ev_rd3]; exact eT j) (by simp (disch := decide) only [ev_rd1, ev_rd2, ev_rd3]; exact e2) (by simp (disch := decide) only [ev_rd1, ev_rd2, ev_rd3]; exact e7) hpn) (fun h2 j2 k2 m2 => ?_)
        exact ev_vret rfl rfl trivial (⟨rfl, rfl, j2, tk_sg (by omega) (if01 c_73) (if01 c_91) (by rw [show ev_set h1 23 4 (nI p) 23 5 = v0 from by simp (disch := decide) only [ev_rd1, ev_rd2, ev_rd3]; exact e5] at m2; exact m2)⟩)
      · refine ev_aload_n rfl rfl rfl ?_
        refine ev_V0K (hJ.set rfl (B.any _)) rfl rfl rfl lk_X2_73 vt_X2_readNumber rfl rfl rfl rfl rfl (w_readNumberC L b _ (hJ.set rfl (B.any _)).1 T n p hn hp (by simp (disch := decide) only [ev_rd1, ev_rd2, ev_rd3]; exact e1) (fun j => by simp (disch := decide) only [ev_rd1, ev_rd2, ev_rd3]; exact eT j) (by simp (disch := decide) only [ev_rd1, ev_rd2, ev_rd3]; exact e2) (by simp (disch := decide) only [ev_rd1, ev_rd2, ev_rd3]; exact e7) (if01n c_91)) (fun h2 j2 k2 m2 => ?_)
        refine ev_goto rfl rfl ?_
        exact ev_vret rfl rfl trivial (⟨rfl, rfl, j2, tk_nm (by omega) (if01 c_73) (if01n c_91) m2⟩)
    · refine ev_aload_n rfl rfl rfl ?_
      refine ev_V0K (hJ.set rfl (B.any _)) rfl rfl rfl lk_X2_67 vt_X2_readChord rfl rfl rfl rfl rfl (w_readChordC L b _ (hJ.set rfl (B.any _)).1 T n p hn hp (by simp (disch := decide) only [ev_rd1, ev_rd2, ev_rd3]; exact e1) (fun j => by simp (disch := decide) only [ev_rd1, ev_rd2, ev_rd3]; exact eT j) (by simp (disch := decide) only [ev_rd1, ev_rd2, ev_rd3]; exact e2) (by simp (disch := decide) only [ev_rd1, ev_rd2, ev_rd3]; exact e7)) (fun h2 j2 k2 m2 => ?_)
      refine ev_goto rfl rfl ?_
      exact ev_vret rfl rfl trivial (⟨rfl, rfl, j2, tk_ch (by omega) (if01n c_73) m2⟩)
  · refine ev_aload_n rfl rfl rfl ?_
    refine ev_iconst (v := 0) rfl rfl (by decide) ?_
    refine ev_putI rfl rfl fl_X2_22 rfl rfl rfl rfl rfl ?_
    refine ev_goto rfl rfl ?_
    exact ev_vret rfl rfl trivial (⟨rfl, rfl, (hJ.set rfl (B.any _)).set rfl (B.any _), by unfold p_at; rw [if_pos (nI_xlt c_54 (by omega) (by omega))]; exact ⟨by simp (disch := decide) only [ev_rd1, ev_rd2, ev_rd3]; exact e7, by simp (disch := decide) only [ev_rd1, ev_rd2, ev_rd3]; rfl, by simp (disch := decide) only [ev_rd1, ev_rd2, ev_rd3]; exact e2, fun z => absurd z (by decide), fun z => absurd z (by decide), fun z => absurd z (by decide)⟩⟩)

set_option maxRecDepth 100000 in
set_option maxHeartbeats 4000000 in
theorem l_rsp (L : Nat) (b : Bool) (h : Hp) (T : Nat → Int32) (n : Nat) (v0 : Int32) (hn : n ≤ 160) : ∀ (k p : Nat) (h1 : Hp), n ≤ p + k → p ≤ n → JW [(23, 2), (23, 3), (23, 4), (23, 5), (23, 6), (23, 7), (23, 8)] h h1 → h1 23 1 = nI n → (∀ j, h1 24 j = T j) → h1 23 2 = nI p → h1 23 5 = v0 → h1 23 7 = 0 → EvQ mi_X2_readToken 0 [some (.ref 23)] [] (G0 L b) h1 0 0 (QK (TKP v0 (p_at T n (p_sp T n k p))) [(23, 2), (23, 3), (23, 4), (23, 5), (23, 6), (23, 7), (23, 8)] (G0 L b) h) := by
  intro k
  induction k with
  | zero =>
    intro p h1 hk hp hJ e1 eT e2 e5 e7
    refine ev_aload_n rfl rfl rfl ?_
    refine ev_getI rfl rfl fl_X2_19 rfl rfl rfl ?_
    try simp (disch := decide) only [ev_rd1, ev_rd2, ev_rd3, e1, e2, eT]
    refine ev_aload_n rfl rfl rfl ?_
    refine ev_getI rfl rfl fl_X2_15 rfl rfl rfl ?_
    try simp (disch := decide) only [ev_rd1, ev_rd2, ev_rd3, e1, e2, eT]
    refine ev_icmp_ge rfl rfl (fun c_8 => ?_) (fun z_ => absurd ((nI_le2 (by omega) (by omega)).mpr (by omega)) z_)
    exact w_tok38 L b h h1 T n p v0 hn hp hJ e1 eT e2 e5 e7
  | succ k ih =>
    intro p h1 hk hp hJ e1 eT e2 e5 e7
    refine ev_aload_n rfl rfl rfl ?_
    refine ev_getI rfl rfl fl_X2_19 rfl rfl rfl ?_
    try simp (disch := decide) only [ev_rd1, ev_rd2, ev_rd3, e1, e2, eT]
    refine ev_aload_n rfl rfl rfl ?_
    refine ev_getI rfl rfl fl_X2_15 rfl rfl rfl ?_
    try simp (disch := decide) only [ev_rd1, ev_rd2, ev_rd3, e1, e2, eT]
    refine ev_icmp_ge rfl rfl (fun c_8 => ?_) (fun c_8 => ?_)
    · have y_ : p_sp T n (k + 1) p = p := by unfold p_sp; exact if_neg (fun q_ => absurd q_.1 (by have := (nI_le2 (show n < 2 ^ 31 by omega) (show p < 2 ^ 31 by omega)).mp c_8; omega))
      rw [y_]
      exact w_tok38 L b h h1 T n p v0 hn hp hJ e1 eT e2 e5 e7
    · refine ev_aload_n rfl rfl rfl ?_
      refine ev_getR rfl rfl fl_X2_11 rfl rfl rfl rfl ?_
      refine ev_aload_n rfl rfl rfl ?_
      refine ev_getI rfl rfl fl_X2_19 rfl rfl rfl ?_
      try simp (disch := decide) only [ev_rd1, ev_rd2, ev_rd3, e1, e2, eT]
      refine ev_bald rfl rfl rfl (vp_in_nI (by have := nI_xle c_8 (by omega) (by omega); omega) (by decide)) (nI_clamp (by omega)) ?_
      try simp (disch := decide) only [ev_rd1, ev_rd2, ev_rd3, e1, e2, eT]
      refine ev_bipush (v := 32) rfl rfl (by decide) ?_
      refine ev_icmp_ne rfl rfl (fun c_22 => ?_) (fun c_22 => ?_)
      · have y_ : p_sp T n (k + 1) p = p := by unfold p_sp; exact if_neg (fun q_ => c_22 q_.2)
        rw [y_]
        exact w_tok38 L b h h1 T n p v0 hn hp hJ e1 eT e2 e5 e7
      · refine ev_aload_n rfl rfl rfl ?_
        refine ev_dup rfl rfl rfl ?_
        refine ev_getI rfl rfl fl_X2_19 rfl rfl rfl ?_
        try simp (disch := decide) only [ev_rd1, ev_rd2, ev_rd3, e1, e2, eT]
        refine ev_iconst (v := 1) rfl rfl (by decide) ?_
        refine ev_iadd rfl rfl ?_
        refine ev_putI rfl rfl fl_X2_19 rfl rfl rfl rfl rfl ?_
        refine ev_goto rfl rfl ?_
        have hpn : p < n := nI_xle c_8 (by omega) (by omega)
        have y_ : p_sp T n (k + 1) p = p_sp T n k (p + 1) := by
          conv => lhs; unfold p_sp
          exact if_pos ⟨hpn, c_22⟩
        rw [y_, show nI p + 1 = nI (p + 1) from nI_1 p]
        exact ih (p + 1) (ev_set h1 23 2 (nI (p + 1))) (by omega) (by omega) (hJ.set rfl (nI_160 (by omega))) (by simp (disch := decide) only [ev_rd1, ev_rd2, ev_rd3]; exact e1) (fun j => by simp (disch := decide) only [ev_rd1, ev_rd2, ev_rd3]; exact eT j) (by simp (disch := decide) only [ev_rd1, ev_rd2, ev_rd3]) (by simp (disch := decide) only [ev_rd1, ev_rd2, ev_rd3]; exact e5) (by simp (disch := decide) only [ev_rd1, ev_rd2, ev_rd3]; exact e7)

theorem w_readTokenC (L : Nat) (b : Bool) (h : Hp) (hB : Bx h) (T : Nat → Int32) (n p : Nat) (hn : n ≤ 160) (hp : p ≤ n) (e1 : h 23 1 = nI n) (eT : ∀ j, h 24 j = T j) (e2 : h 23 2 = nI p) (e7 : h 23 7 = 0)  : EvK mi_X2_readToken [.ref 23] (G0 L b) h (TKP (h 23 5) (p_tok T n p)) [(23, 2), (23, 3), (23, 4), (23, 5), (23, 6), (23, 7), (23, 8)] := by
  refine EvM.of2 (lo := [some (.ref 23)]) pf_X2_readToken ok_X2_readToken rfl rfl ?_
  exact l_rsp L b h T n (h 23 5) hn n p h (by omega) hp (JW.refl hB) e1 eT e2 rfl e7

