theorem nI_nng {a : Nat} (h : a < 2 ^ 31) : ¬ nI a < 0 := fun z => by
  have y := w_lt z
  rw [nI_toInt h] at y
  have e0 : (0 : Int32).toInt = 0 := by decide
  omega
theorem p_run_le {T : Nat → Int32} {n : Nat} {x : Nat × (Nat → Int32)} : ∀ k s, p_run T n k s = some x → x.1 ≤ 24
  | 0, _, e => by unfold p_run at e; cases e
  | k + 1, (p, w, v, m, r, d, bg, rd), e => by
    cases es : p_stp (p_tok T n p) w v m r d bg rd with
    | none => rw [p_run_n es] at e; cases e
    | some y =>
      cases y with
      | inl y =>
        rw [p_run_l es] at e
        cases e
        cases eo : p_tok T n p with
        | none => rw [eo] at es; cases es
        | some tk =>
          rw [eo] at es
          unfold p_stp at es
          dsimp only at es
          repeat' split at es
          all_goals first | (cases es; done) | (cases es; assumption)
      | inr s =>
        rw [p_run_r es] at e
        exact p_run_le k s e

theorem cpy_ne {h : Hp} {x y s d n i j : Nat} (hi : i ≠ y) : ev_cpy h x y s d n i j = h i j := if_neg hi

set_option maxRecDepth 100000 in
set_option maxHeartbeats 4000000 in
theorem c_tadd (L : Nat) (b : Bool) (h : Hp) (t : Nat) (ht : t < 6) (et : h 28 2 = nI t) (m : Nat) (hm : m ≤ 24) : EvD mi_X7_add [.ref 28, .ref 25, .int (nI m)] (G0 L b) h (nI (t + 1) - 1) (ev_set (ev_set (ev_cpy h 25 (30 + t) 0 0 m) 36 t (nI m)) 28 2 (nI (t + 1))) := by
  refine EvD.of (lo := [some (.ref 28), some (.ref 25), some (.int (nI m))]) pf_X7_add ok_X7_add rfl rfl ?_
  refine ev_aload_n rfl rfl rfl ?_
  refine ev_iconst (v := 0) rfl rfl (by decide) ?_
  refine ev_aload_n rfl rfl rfl ?_
  refine ev_getR rfl rfl fl_X7_11 rfl rfl rfl rfl ?_
  refine ev_aload_n rfl rfl rfl ?_
  refine ev_getI rfl rfl fl_X7_20 rfl rfl rfl ?_
  try simp (disch := omega) only [ev_rd1, ev_rd2, ev_rd3, cpy_ne, et]
  refine ev_aald (y := 30 + t) (j := t) rfl rfl rfl rfl (vp_in_nI (by omega) (by decide)) (nI_clamp (by omega)) (g_tun L b ht).1 ?_
  refine ev_iconst (v := 0) rfl rfl (by decide) ?_
  refine ev_iload_n rfl rfl rfl ?_
  refine ev_copy (sN := 0) (dN := 0) (nN := m) rfl rfl cp_X7_24 cp_n cp_s cp_i rfl (g_pos 30 t rfl) rfl (g_tun L b ht).2 (by decide) (by decide) (nI_nng (by omega)) (by decide) (by decide) (nI_clamp (by omega)) (by omega) (by omega) rfl rfl (by decide) ?_
  refine ev_aload_n rfl rfl rfl ?_
  refine ev_getR rfl rfl fl_X7_16 rfl rfl rfl rfl ?_
  refine ev_aload_n rfl rfl rfl ?_
  refine ev_getI rfl rfl fl_X7_20 rfl rfl rfl ?_
  try simp (disch := omega) only [ev_rd1, ev_rd2, ev_rd3, cpy_ne, et]
  refine ev_iload_n rfl rfl rfl ?_
  refine ev_iast rfl rfl rfl rfl (vp_in_nI (by omega) (by decide)) (nI_clamp (by omega)) ?_
  refine ev_aload_n rfl rfl rfl ?_
  refine ev_dup rfl rfl rfl ?_
  refine ev_getI rfl rfl fl_X7_20 rfl rfl rfl ?_
  try simp (disch := omega) only [ev_rd1, ev_rd2, ev_rd3, cpy_ne, et]
  refine ev_iconst (v := 1) rfl rfl (by decide) ?_
  refine ev_iadd rfl rfl ?_
  refine ev_putI rfl rfl fl_X7_20 rfl rfl rfl rfl rfl ?_
  rw [nI_1 t]
  refine ev_aload_n rfl rfl rfl ?_
  refine ev_getI rfl rfl fl_X7_20 rfl rfl rfl ?_
  try simp (disch := omega) only [ev_rd1, ev_rd2, ev_rd3, cpy_ne, et]
  refine ev_iconst (v := 1) rfl rfl (by decide) ?_
  refine ev_isub rfl rfl ?_
  exact ev_iret rfl rfl rfl (⟨rfl, rfl, rfl⟩)

def TUC (t : Nat) (o : Option (Nat × (Nat → Int32))) (h z : Hp) : Prop := z 23 1 = 0 ∧ match o with
  | none => z 28 2 = nI t ∧ ∀ a j, 30 ≤ a → a ≤ 36 → z a j = h a j
  | some x => z 28 2 = nI (t + 1) ∧ z 36 t = nI x.1 ∧ (∀ i, i < x.1 → z (30 + t) i = x.2 i) ∧ (∀ j, j ≠ t → z 36 j = h 36 j) ∧ ∀ u j, u < 6 → u ≠ t → z (30 + u) j = h (30 + u) j
theorem wm_row {t : Nat} (ht : t < 6) (j : Nat) : wm [(23, 1), (23, 2), (23, 3), (23, 4), (23, 5), (23, 6), (23, 7), (23, 8), (23, 10), (23, 13), (25, 999), (26, 999), (27, 999), (28, 2), (30, 999), (31, 999), (32, 999), (33, 999), (34, 999), (35, 999), (36, 999)] (30 + t) j = true := by
  rcases (show t = 0 ∨ t = 1 ∨ t = 2 ∨ t = 3 ∨ t = 4 ∨ t = 5 by omega) with rfl | rfl | rfl | rfl | rfl | rfl <;> rfl
theorem bx_row {t : Nat} (ht : t < 6) (j : Nat) : bx (30 + t) j = (0, 4095) := by
  rcases (show t = 0 ∨ t = 1 ∨ t = 2 ∨ t = 3 ∨ t = 4 ∨ t = 5 by omega) with rfl | rfl | rfl | rfl | rfl | rfl <;> rfl
theorem jw_cpyr {h0 h : Hp} (hJ : JW [(23, 1), (23, 2), (23, 3), (23, 4), (23, 5), (23, 6), (23, 7), (23, 8), (23, 10), (23, 13), (25, 999), (26, 999), (27, 999), (28, 2), (30, 999), (31, 999), (32, 999), (33, 999), (34, 999), (35, 999), (36, 999)] h0 h) {t m : Nat} (ht : t < 6) : JW [(23, 1), (23, 2), (23, 3), (23, 4), (23, 5), (23, 6), (23, 7), (23, 8), (23, 10), (23, 13), (25, 999), (26, 999), (27, 999), (28, 2), (30, 999), (31, 999), (32, 999), (33, 999), (34, 999), (35, 999), (36, 999)] h0 (ev_cpy h 25 (30 + t) 0 0 m) := by
  refine ⟨fun i j => ?_, fun i j q => ?_⟩
  · unfold ev_cpy
    split
    · rename_i e
      rw [e, bx_row ht]
      unfold va_cpy
      split
      · exact hJ.1 25 _
      · have z := hJ.1 (30 + t) j
        rw [bx_row ht] at z
        exact z
    · exact hJ.1 i j
  · unfold ev_cpy
    rw [if_neg (fun e => by rw [e, wm_row ht] at q; cases q)]
    exact hJ.2 i j q

set_option maxRecDepth 100000 in
set_option maxHeartbeats 4000000 in
theorem c_tuneFull (L : Nat) (b : Bool) (h : Hp) (et : h 28 2 = 6) : EvD mi_X9_tune [.ref 1] (G0 L b) h (-3) (h) := by
  refine EvD.of (lo := [some (.ref 1)]) pf_X9_tune ok_X9_tune rfl rfl ?_
  refine ev_aload_n rfl rfl rfl ?_
  refine ev_getR rfl rfl fl_X9_43 rfl rfl rfl rfl ?_
  refine ev_getI rfl rfl fl_X9_176 rfl rfl rfl ?_
  refine ev_bipush (v := 6) rfl rfl (by decide) ?_
  refine ev_icmp_lt rfl rfl (fun z_ => absurd z_ (by rw [et]; decide)) (fun c_9 => ?_)
  refine ev_bipush (v := (-3)) rfl rfl (by decide) ?_
  exact ev_iret rfl rfl rfl (⟨rfl, rfl, rfl⟩)

theorem nI_24 {a : Nat} (h : a ≤ 24) : B (nI a) 0 24 := nI_B (by omega) (by omega)
theorem nI_6 {a : Nat} (h : a ≤ 6) : B (nI a) 0 6 := nI_B (by omega) (by omega)
theorem wm_row2 {t : Nat} (ht : t < 6) (j : Nat) : wm [(23, 2), (23, 3), (23, 4), (23, 5), (23, 6), (23, 7), (23, 8), (23, 10), (23, 13), (25, 999), (26, 999), (27, 999)] (30 + t) j = false := by
  rcases (show t = 0 ∨ t = 1 ∨ t = 2 ∨ t = 3 ∨ t = 4 ∨ t = 5 by omega) with rfl | rfl | rfl | rfl | rfl | rfl <;> rfl

set_option maxRecDepth 100000 in
set_option maxHeartbeats 4000000 in
theorem w_tuneC (L : Nat) (b : Bool) (h : Hp) (hB : Bx h) (n : Nat) (hn : n ≤ 160) (e1 : h 23 1 = nI n) (t : Nat) (ht6 : t ≤ 6) (et : h 28 2 = nI t) (ht : t < 6) : EvI mi_X9_tune [.ref 1] (G0 L b) h (fun _ z => TUC t (p_run (h 24) n (n + 1) (0, 0, 0, 0, h 25, 0, (fun _ => 0), (fun _ => 0))) h z) [(23, 1), (23, 2), (23, 3), (23, 4), (23, 5), (23, 6), (23, 7), (23, 8), (23, 10), (23, 13), (25, 999), (26, 999), (27, 999), (28, 2), (30, 999), (31, 999), (32, 999), (33, 999), (34, 999), (35, 999), (36, 999)] := by
  refine EvM.of2 (lo := [some (.ref 1)]) pf_X9_tune ok_X9_tune rfl rfl ?_
  refine ev_aload_n rfl rfl rfl ?_
  refine ev_getR rfl rfl fl_X9_43 rfl rfl rfl rfl ?_
  refine ev_getI rfl rfl fl_X9_176 rfl rfl rfl ?_
  try simp (disch := decide) only [ev_rd1, ev_rd2, ev_rd3, et]
  refine ev_bipush (v := 6) rfl rfl (by decide) ?_
  refine ev_icmp_lt rfl rfl (fun c_9 => ?_) (fun z_ => absurd ((nI_lt2 (a := t) (b := 6) (by omega) (by decide)).mpr (by omega)) z_)
  refine ev_aload_n rfl rfl rfl ?_
  refine ev_getR rfl rfl fl_X9_36 rfl rfl rfl rfl ?_
  refine ev_V0K (JW.refl (W := [(23, 1), (23, 2), (23, 3), (23, 4), (23, 5), (23, 6), (23, 7), (23, 8), (23, 10), (23, 13), (25, 999), (26, 999), (27, 999), (28, 2), (30, 999), (31, 999), (32, 999), (33, 999), (34, 999), (35, 999), (36, 999)]) hB) rfl rfl rfl lk_X9_177 vt_X2_readAll rfl rfl rfl rfl rfl (w_readAllC L b h hB (h 24) n hn e1 (fun _ => rfl)) (fun h1 j1 k1 m1 => ?_)
  refine ev_aload_n rfl rfl rfl ?_
  refine ev_getR rfl rfl fl_X9_36 rfl rfl rfl rfl ?_
  refine ev_iconst (v := 0) rfl rfl (by decide) ?_
  refine ev_putI rfl rfl fl_X9_173 rfl rfl rfl rfl rfl ?_
  refine ev_aload_n rfl rfl rfl ?_
  refine ev_getR rfl rfl fl_X9_36 rfl rfl rfl rfl ?_
  refine ev_getI rfl rfl fl_X9_180 rfl rfl rfl ?_
  try simp (disch := decide) only [ev_rd1, ev_rd2, ev_rd3, et]
  refine ev_if_eq rfl rfl (fun c_37 => ?_) (fun c_37 => ?_)
  · obtain ⟨m, em, hm24⟩ : ∃ m : Nat, h1 23 10 = nI m ∧ m ≤ 24 := by
      cases eo : (p_run (h 24) n (n + 1) (0, 0, 0, 0, h 25, 0, (fun _ => 0), (fun _ => 0))) with
      | none => rw [eo] at m1; exact absurd c_37 m1
      | some x => rw [eo] at m1; exact ⟨x.1, m1.2.1, p_run_le _ _ eo⟩
    refine ev_aload_n rfl rfl rfl ?_
    refine ev_getR rfl rfl fl_X9_43 rfl rfl rfl rfl ?_
    refine ev_aload_n rfl rfl rfl ?_
    refine ev_getR rfl rfl fl_X9_36 rfl rfl rfl rfl ?_
    refine ev_getR rfl rfl fl_X9_186 rfl rfl rfl rfl ?_
    refine ev_aload_n rfl rfl rfl ?_
    refine ev_getR rfl rfl fl_X9_36 rfl rfl rfl rfl ?_
    refine ev_getI rfl rfl fl_X9_189 rfl rfl rfl ?_
    try simp (disch := decide) only [ev_rd1, ev_rd2, ev_rd3, et]
    rw [em]
    refine ev_V2D rfl rfl lk_X9_192 vt_X7_add rfl rfl rfl rfl rfl (c_tadd L b _ t (by omega) (by simp (disch := decide) only [ev_rd1, ev_rd2, ev_rd3]; exact (k1.2 28 2 rfl).trans et) m hm24) ?_
    exact ev_iret rfl rfl rfl (⟨⟨_, rfl, by
        cases eo : (p_run (h 24) n (n + 1) (0, 0, 0, 0, h 25, 0, (fun _ => 0), (fun _ => 0))) with
        | none => rw [eo] at m1; exact absurd c_37 m1
        | some x =>
          rw [eo] at m1
          have xl := p_run_le _ _ eo
          obtain ⟨f1, f2, f3⟩ := m1
          have exm : x.1 = m := (nI_eq (by omega) (by omega)).mp (f2.symm.trans em)
          refine ⟨?_, ev_rd1 _ _ _ _, ?_, fun i hi => ?_, fun j hj => ?_, fun u j hu hut => ?_⟩
          · simp (disch := omega) only [ev_rd1, ev_rd2, ev_rd3, cpy_ne]
          · rw [ev_rd2 (by decide), ev_rd1, exm]
          · rw [ev_rd2 (by omega), ev_rd2 (by omega)]
            unfold ev_cpy va_cpy
            rw [if_pos rfl, if_pos (by omega), ev_rd2 (by decide), show 0 + (i - 0) = i by omega]
            exact f3 i
          · rw [ev_rd2 (by decide), ev_rd3 hj, cpy_ne (by omega), ev_rd2 (by decide)]
            exact k1.2 36 j rfl
          · rw [ev_rd2 (by omega), ev_rd2 (by omega), cpy_ne (by omega), ev_rd2 (by omega)]
            exact k1.2 (30 + u) j (wm_row2 hu j)⟩, rfl, ((jw_cpyr (j1.set rfl (by decide)) (by omega)).set rfl (nI_24 (by omega))).set rfl (nI_6 (by omega))⟩)
  · refine ev_bipush (v := (-10)) rfl rfl (by decide) ?_
    refine ev_aload_n rfl rfl rfl ?_
    refine ev_getR rfl rfl fl_X9_36 rfl rfl rfl rfl ?_
    refine ev_getI rfl rfl fl_X9_183 rfl rfl rfl ?_
    try simp (disch := decide) only [ev_rd1, ev_rd2, ev_rd3, et]
    refine ev_isub rfl rfl ?_
    exact ev_iret rfl rfl rfl (⟨⟨_, rfl, by
        cases eo : (p_run (h 24) n (n + 1) (0, 0, 0, 0, h 25, 0, (fun _ => 0), (fun _ => 0))) with
        | some x => rw [eo] at m1; exact absurd m1.1 c_37
        | none =>
          refine ⟨ev_rd1 _ _ _ _, ?_, fun a j h1_ h2_ => ?_⟩
          · rw [ev_rd2 (by decide)]; exact (k1.2 28 2 rfl).trans et
          · rw [ev_rd2 (by omega)]
            rcases (show a = 30 ∨ a = 31 ∨ a = 32 ∨ a = 33 ∨ a = 34 ∨ a = 35 ∨ a = 36 by omega) with rfl | rfl | rfl | rfl | rfl | rfl | rfl <;> exact k1.2 _ j rfl⟩, rfl, j1.set rfl (by decide)⟩)

def TUM (t : Nat) (o : Option (Nat × (Nat → Int32))) (h z : Hp) : Prop := z 63 16 = 0 ∧ match o with
  | none => z 63 23 = nI t ∧ (∀ j, z 73 j = h 73 j) ∧ ∀ j, z 74 j = h 74 j
  | some x => z 63 23 = nI (t + 1) ∧ z 73 t = nI x.1 ∧ (∀ i, i < x.1 → z 74 (24 * t + i) = x.2 i) ∧ (∀ j, j ≠ t → z 73 j = h 73 j) ∧ ∀ j, j < 24 * t ∨ 24 * t + 24 ≤ j → z 74 j = h 74 j
def h_tc (h : Hp) (t i : Nat) : Hp := fun a j => if a = 74 ∧ 24 * t ≤ j ∧ j < 24 * t + i then h 75 (j - 24 * t) else h a j
theorem h_tc_0 (h : Hp) (t : Nat) : h_tc h t 0 = h := by
  funext a j
  unfold h_tc
  exact if_neg (fun z => by omega)
theorem h_tc_ne {h : Hp} {t i a j : Nat} (ha : a ≠ 74) : h_tc h t i a j = h a j := if_neg (fun z => ha z.1)
theorem h_tc_s (h : Hp) (t i : Nat) : ev_set (h_tc h t i) 74 (24 * t + i) (h 75 i) = h_tc h t (i + 1) := by
  funext a j
  unfold ev_set h_tc
  by_cases e : a = 74
  · subst e
    by_cases e2 : j = 24 * t + i
    · rw [if_pos ⟨rfl, e2⟩, if_pos ⟨rfl, by omega, by omega⟩, e2, show 24 * t + i - 24 * t = i by omega]
    · rw [if_neg (fun z => e2 z.2)]
      by_cases e3 : 24 * t ≤ j ∧ j < 24 * t + i
      · rw [if_pos ⟨rfl, e3⟩, if_pos ⟨rfl, by omega, by omega⟩]
      · rw [if_neg (fun z => e3 z.2), if_neg (fun z => e3 ⟨by omega, by omega⟩)]
  · rw [if_neg (fun z => e z.1), if_neg (fun z => e z.1), if_neg (fun z => e z.1)]
theorem jw_tc {W : List (Nat × Nat)} {h0 h : Hp} (hJ : JW W h0 h) (hw : ∀ j, wm W 74 j = true) (t i : Nat) : JW W h0 (h_tc h t i) := by
  refine ⟨fun a j => ?_, fun a j q => ?_⟩
  · unfold h_tc
    split
    · rename_i e; rw [e.1]; exact hJ.1 75 _
    · exact hJ.1 a j
  · unfold h_tc
    rw [if_neg (fun e => by rw [e.1, hw j] at q; cases q)]
    exact hJ.2 a j q

set_option maxRecDepth 100000 in
set_option maxHeartbeats 4000000 in
theorem l_mtc (L : Nat) (b : Bool) (h : Hp) (t : Nat) (ht : t < 6) (et : h 63 23 = nI t) (m : Nat) (hm : m ≤ 24) (em : h 63 27 = nI m) : ∀ s i : Nat, i + s = m → EvQ mi_X10_tune 52 [some (.ref 63), some (.int (nI i))] [] (G0 L b) (h_tc h t i) 0 0 (fun v G' h' => v = some (.int (nI (t + 1) - 1)) ∧ G' = G0 L b ∧ h' = ev_set (ev_set (h_tc h t m) 73 t (nI m)) 63 23 (nI (t + 1))) := by
  intro s
  induction s with
  | zero =>
    intro i hi
    have hi2 : i = m := by omega
    subst hi2
    refine ev_iload_n rfl rfl rfl ?_
    refine ev_aload_n rfl rfl rfl ?_
    refine ev_getI rfl rfl fl_X10_234 rfl rfl rfl ?_
    try simp (disch := decide) only [ev_rd1, ev_rd2, ev_rd3, h_tc_ne, em, et]
    refine ev_icmp_ge rfl rfl (fun c_57 => ?_) (fun z_ => absurd (Int32.le_refl _) z_)
    refine ev_aload_n rfl rfl rfl ?_
    refine ev_getR rfl rfl fl_X10_51 rfl rfl rfl rfl ?_
    refine ev_aload_n rfl rfl rfl ?_
    refine ev_getI rfl rfl fl_X10_257 rfl rfl rfl ?_
    try simp (disch := decide) only [ev_rd1, ev_rd2, ev_rd3, h_tc_ne, em, et]
    refine ev_aload_n rfl rfl rfl ?_
    refine ev_getI rfl rfl fl_X10_234 rfl rfl rfl ?_
    try simp (disch := decide) only [ev_rd1, ev_rd2, ev_rd3, h_tc_ne, em, et]
    refine ev_iast rfl rfl rfl rfl (vp_in_nI (by omega) (by decide)) (nI_clamp (by omega)) ?_
    refine ev_aload_n rfl rfl rfl ?_
    refine ev_dup rfl rfl rfl ?_
    refine ev_getI rfl rfl fl_X10_257 rfl rfl rfl ?_
    try simp (disch := decide) only [ev_rd1, ev_rd2, ev_rd3, h_tc_ne, em, et]
    refine ev_iconst (v := 1) rfl rfl (by decide) ?_
    refine ev_iadd rfl rfl ?_
    refine ev_putI rfl rfl fl_X10_257 rfl rfl rfl rfl rfl ?_
    rw [nI_1 t]
    refine ev_aload_n rfl rfl rfl ?_
    refine ev_getI rfl rfl fl_X10_257 rfl rfl rfl ?_
    try simp (disch := decide) only [ev_rd1, ev_rd2, ev_rd3, h_tc_ne, em, et]
    refine ev_iconst (v := 1) rfl rfl (by decide) ?_
    refine ev_isub rfl rfl ?_
    exact ev_iret rfl rfl rfl (⟨rfl, rfl, rfl⟩)
  | succ s ih =>
    intro i hi
    refine ev_iload_n rfl rfl rfl ?_
    refine ev_aload_n rfl rfl rfl ?_
    refine ev_getI rfl rfl fl_X10_234 rfl rfl rfl ?_
    try simp (disch := decide) only [h_tc_ne, em, et]
    refine ev_icmp_ge rfl rfl (fun z_ => absurd z_ (fun z_ => absurd ((nI_le2 (by omega) (by omega)).mp z_) (by omega))) (fun c_57 => ?_)
    refine ev_aload_n rfl rfl rfl ?_
    refine ev_getR rfl rfl fl_X10_54 rfl rfl rfl rfl ?_
    refine ev_bipush (v := 24) rfl rfl (by decide) ?_
    refine ev_aload_n rfl rfl rfl ?_
    refine ev_getI rfl rfl fl_X10_257 rfl rfl rfl ?_
    try simp (disch := decide) only [h_tc_ne, em, et]
    refine ev_imul rfl rfl ?_
    refine ev_iload_n rfl rfl rfl ?_
    refine ev_iadd rfl rfl ?_
    refine ev_aload_n rfl rfl rfl ?_
    refine ev_getR rfl rfl fl_X10_57 rfl rfl rfl rfl ?_
    refine ev_iload_n rfl rfl rfl ?_
    refine ev_iald rfl rfl rfl (vp_in_nI (by omega) (by decide)) (nI_clamp (by omega)) ?_
    try simp (disch := decide) only [h_tc_ne, em, et]
    refine ev_iast (j := 24 * t + i) rfl rfl rfl rfl (by rw [show (24 : Int32) * nI t = nI (24 * t) from nI_mul 24 t, nI_add]; exact vp_in_nI (by omega) (by decide)) (by rw [show (24 : Int32) * nI t = nI (24 * t) from nI_mul 24 t, nI_add]; exact nI_clamp (by omega)) ?_
    refine ev_iinc (y := 1) rfl rfl rfl (by decide) rfl rfl ?_
    dsimp only [List.set]
    refine ev_goto rfl rfl ?_
    rw [nI_1 i, h_tc_s]
    exact ih (i + 1) (by omega)

set_option maxRecDepth 100000 in
set_option maxHeartbeats 4000000 in
theorem c_mtuneFull (L : Nat) (b : Bool) (h : Hp) (et : h 63 23 = 6) : EvD mi_X10_tune [.ref 63] (G0 L b) h (-3) (h) := by
  refine EvD.of (lo := [some (.ref 63), none]) pf_X10_tune ok_X10_tune rfl rfl ?_
  refine ev_aload_n rfl rfl rfl ?_
  refine ev_getI rfl rfl fl_X10_257 rfl rfl rfl ?_
  refine ev_bipush (v := 6) rfl rfl (by decide) ?_
  refine ev_icmp_ne rfl rfl (fun z_ => absurd et z_) (fun c_6 => ?_)
  refine ev_bipush (v := (-3)) rfl rfl (by decide) ?_
  exact ev_iret rfl rfl rfl (⟨rfl, rfl, rfl⟩)

set_option maxRecDepth 100000 in
set_option maxHeartbeats 4000000 in
theorem w_tuneM (L : Nat) (b : Bool) (h : Hp) (hB : Bx h) (n : Nat) (hn : n ≤ 160) (e1 : h 63 16 = nI n) (T : Nat → Int32) (eT : ∀ j, h 72 j = T j) (r0 : Nat → Int32) (t : Nat) (ht6 : t ≤ 6) (et : h 63 23 = nI t) (ht : t < 6) : EvI mi_X10_tune [.ref 63] (G0 L b) h (fun _ z => TUM t (p_run T n (n + 1) (0, 0, 0, 0, r0, 0, (fun _ => 0), (fun _ => 0))) h z) [(63, 16), (63, 17), (63, 18), (63, 19), (63, 20), (63, 21), (63, 22), (63, 23), (63, 27), (63, 28), (63, 31), (73, 999), (74, 999), (75, 999), (76, 999), (77, 999)] := by
  refine EvM.of2 (lo := [some (.ref 63), none]) pf_X10_tune ok_X10_tune rfl rfl ?_
  refine ev_aload_n rfl rfl rfl ?_
  refine ev_getI rfl rfl fl_X10_257 rfl rfl rfl ?_
  try simp (disch := decide) only [ev_rd1, ev_rd2, ev_rd3, et]
  refine ev_bipush (v := 6) rfl rfl (by decide) ?_
  refine ev_icmp_ne rfl rfl (fun c_6 => ?_) (fun z_ => absurd z_ (fun z_ => absurd ((nI_eq (a := t) (b := 6) (by omega) (by decide)).mp z_) (by omega)))
  refine ev_aload_n rfl rfl rfl ?_
  refine ev_iconst (v := 0) rfl rfl (by decide) ?_
  refine ev_putI rfl rfl fl_X10_191 rfl rfl rfl rfl rfl ?_
  refine ev_aload_n rfl rfl rfl ?_
  refine ev_iconst (v := 0) rfl rfl (by decide) ?_
  refine ev_putI rfl rfl fl_X10_210 rfl rfl rfl rfl rfl ?_
  refine ev_aload_n rfl rfl rfl ?_
  refine ev_V0K (((JW.refl (W := [(63, 16), (63, 17), (63, 18), (63, 19), (63, 20), (63, 21), (63, 22), (63, 23), (63, 27), (63, 28), (63, 31), (73, 999), (74, 999), (75, 999), (76, 999), (77, 999)]) hB).set rfl (by decide)).set rfl (by decide)) rfl rfl rfl lk_X10_251 vt_X10_next rfl rfl rfl rfl rfl (w_nextM L b _ (((JW.refl (W := [(63, 16), (63, 17), (63, 18), (63, 19), (63, 20), (63, 21), (63, 22), (63, 23), (63, 27), (63, 28), (63, 31), (73, 999), (74, 999), (75, 999), (76, 999), (77, 999)]) hB).set rfl (by decide)).set rfl (by decide)).1 T n 0 hn (by omega) (by simp (disch := decide) only [ev_rd1, ev_rd2, ev_rd3]; exact e1) (fun j => by simp (disch := decide) only [ev_rd1, ev_rd2, ev_rd3]; exact eT j) (by simp (disch := decide) only [ev_rd1, ev_rd2, ev_rd3]; rfl) (by simp (disch := decide) only [ev_rd1, ev_rd2, ev_rd3])) (fun h1 j1 k1 m1 => ?_)
  refine ev_aload_n rfl rfl rfl ?_
  refine ev_V0K j1 rfl rfl rfl lk_X10_260 vt_X10_readTune rfl rfl rfl rfl rfl (w_readTuneM L b h1 j1.1 T n r0 hn ((k1.2 63 16 rfl).trans (by simp (disch := decide) only [ev_rd1, ev_rd2, ev_rd3]; exact e1)) (fun j => (k1.2 72 j rfl).trans (by simp (disch := decide) only [ev_rd1, ev_rd2, ev_rd3]; exact eT j)) m1) (fun h2 j2 k2 m2 => ?_)
  refine ev_aload_n rfl rfl rfl ?_
  refine ev_iconst (v := 0) rfl rfl (by decide) ?_
  refine ev_putI rfl rfl fl_X10_186 rfl rfl rfl rfl rfl ?_
  refine ev_aload_n rfl rfl rfl ?_
  refine ev_getI rfl rfl fl_X10_191 rfl rfl rfl ?_
  try simp (disch := decide) only [ev_rd1, ev_rd2, ev_rd3, et]
  refine ev_if_le rfl rfl (fun c_39 => ?_) (fun c_39 => ?_)
  · refine ev_iconst (v := 0) rfl rfl (by decide) ?_
    refine ev_istore_n rfl rfl rfl rfl ?_
    dsimp only [List.set]
    obtain ⟨m, em, hm24, eo⟩ : ∃ m : Nat, h2 63 27 = nI m ∧ m ≤ 24 ∧ ∃ rr, (p_run T n (n + 1) (0, 0, 0, 0, r0, 0, (fun _ => 0), (fun _ => 0))) = some (m, rr) ∧ ∀ i, i < m → h2 75 i = rr i := by
      cases eo : (p_run T n (n + 1) (0, 0, 0, 0, r0, 0, (fun _ => 0), (fun _ => 0))) with
      | none => rw [eo] at m2; exact absurd (R_leX (j2.1 63 21 : B (h2 63 21) 0 6) (by decide : B 0 0 0) c_39 (by decide : (0 : Int) ≤ 0)) (fun z_ => m2 (D_eq z_ (by decide)))
      | some x => rw [eo] at m2; exact ⟨x.1, m2.2.1, p_run_le _ _ eo, x.2, rfl, m2.2.2⟩
    obtain ⟨rr, eo, f3⟩ := eo
    rw [eo]
    have z_ := l_mtc L b (ev_set h2 63 16 0) t ht (by simp (disch := decide) only [ev_rd1, ev_rd2, ev_rd3]; exact (k2.2 63 23 rfl).trans ((k1.2 63 23 rfl).trans (by simp (disch := decide) only [ev_rd1, ev_rd2, ev_rd3]; exact et))) m hm24 (by simp (disch := decide) only [ev_rd1, ev_rd2, ev_rd3]; exact em) m 0 (by omega)
    rw [h_tc_0] at z_
    refine EvQ.mono z_ (Nat.le_refl _) (Nat.le_refl _) ?_
    rintro v G' h' ⟨rfl, rfl, rfl⟩
    refine ⟨⟨_, rfl, ?_, ev_rd1 _ _ _ _, ?_, fun i hi => ?_, fun j hj => ?_, fun j hj => ?_⟩, rfl, ((jw_tc (j2.set rfl (by decide)) (fun _ => rfl) t m).set rfl (nI_24 hm24)).set rfl (nI_6 (by omega))⟩
    · rw [ev_rd3 (by decide), ev_rd2 (by decide), h_tc_ne (by decide)]; exact ev_rd1 _ _ _ _
    · rw [ev_rd2 (by decide)]; exact ev_rd1 _ _ _ _
    · rw [ev_rd2 (by decide), ev_rd2 (by decide)]
      unfold h_tc
      rw [if_pos ⟨rfl, by omega, by omega⟩, ev_rd2 (by decide), show 24 * t + i - 24 * t = i by omega]
      exact f3 i hi
    · rw [ev_rd2 (by decide), ev_rd3 hj, h_tc_ne (by decide), ev_rd2 (by decide)]
      exact (k2.2 73 j rfl).trans ((k1.2 73 j rfl).trans (by simp (disch := decide) only [ev_rd1, ev_rd2, ev_rd3]))
    · rw [ev_rd2 (by decide), ev_rd2 (by decide)]
      unfold h_tc
      rw [if_neg (fun z => by omega), ev_rd2 (by decide)]
      exact (k2.2 74 j rfl).trans ((k1.2 74 j rfl).trans (by simp (disch := decide) only [ev_rd1, ev_rd2, ev_rd3]))
  · refine ev_bipush (v := (-10)) rfl rfl (by decide) ?_
    refine ev_aload_n rfl rfl rfl ?_
    refine ev_getI rfl rfl fl_X10_194 rfl rfl rfl ?_
    try simp (disch := decide) only [ev_rd1, ev_rd2, ev_rd3, et]
    refine ev_isub rfl rfl ?_
    exact ev_iret rfl rfl rfl (⟨⟨_, rfl, by
        cases eo : (p_run T n (n + 1) (0, 0, 0, 0, r0, 0, (fun _ => 0), (fun _ => 0))) with
        | some x => rw [eo] at m2; exact absurd (by rw [m2.1]; exact Int32.le_refl _) c_39
        | none =>
          refine ⟨ev_rd1 _ _ _ _, (by simp (disch := decide) only [ev_rd1, ev_rd2, ev_rd3]; exact (k2.2 63 23 rfl).trans ((k1.2 63 23 rfl).trans (by simp (disch := decide) only [ev_rd1, ev_rd2, ev_rd3]; exact et))), fun j => ?_, fun j => ?_⟩
          · rw [ev_rd2 (by decide)]; exact (k2.2 73 j rfl).trans ((k1.2 73 j rfl).trans (by simp (disch := decide) only [ev_rd1, ev_rd2, ev_rd3]))
          · rw [ev_rd2 (by decide)]; exact (k2.2 74 j rfl).trans ((k1.2 74 j rfl).trans (by simp (disch := decide) only [ev_rd1, ev_rd2, ev_rd3]))⟩, rfl, j2.set rfl (by decide)⟩)

