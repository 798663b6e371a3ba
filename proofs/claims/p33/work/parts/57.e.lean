def k_mud (h : Hp) (k t : Nat) : Hp := fun i j => if i = 63 then (if j < 5 then h 71 (42 * k + j) else if j = 13 then nI k else h i j) else if i = 68 ∧ j < t then h 71 (42 * k + 6 + j) else if i = 69 ∧ j < t then h 71 (42 * k + 18 + j) else if i = 70 ∧ j < t then (if h 71 (42 * k + 30 + j) = 1 then 1 else 0) else h i j
theorem k_mud_o {h : Hp} {k t i j : Nat} (h1 : i ≠ 63) (h2 : i ≠ 68) (h3 : i ≠ 69) (h4 : i ≠ 70) : k_mud h k t i j = h i j := by
  unfold k_mud
  rw [if_neg h1, if_neg (fun z => h2 z.1), if_neg (fun z => h3 z.1), if_neg (fun z => h4 z.1)]
theorem k_mud_63 {h : Hp} {k t f : Nat} (hf : f < 5) : k_mud h k t 63 f = h 71 (42 * k + f) := by
  unfold k_mud
  rw [if_pos rfl, if_pos hf]
theorem k_mud_13 (h : Hp) (k t : Nat) : k_mud h k t 63 13 = nI k := by
  unfold k_mud
  rw [if_pos rfl, if_neg (by decide), if_pos rfl]
theorem k_mud_6o {h : Hp} {k t j : Nat} (h5 : 5 ≤ j) (h13 : j ≠ 13) : k_mud h k t 63 j = h 63 j := by
  unfold k_mud
  rw [if_pos rfl, if_neg (by omega), if_neg h13]
theorem k_mud_68 (h : Hp) (k t j : Nat) : k_mud h k t 68 j = if j < t then h 71 (42 * k + 6 + j) else h 68 j := by
  unfold k_mud
  rw [if_neg (by decide)]
  by_cases q : j < t
  · rw [if_pos ⟨rfl, q⟩, if_pos q]
  · rw [if_neg (fun z => q z.2), if_neg (fun z => absurd z.1 (by decide)), if_neg (fun z => absurd z.1 (by decide)), if_neg q]
theorem k_mud_69 (h : Hp) (k t j : Nat) : k_mud h k t 69 j = if j < t then h 71 (42 * k + 18 + j) else h 69 j := by
  unfold k_mud
  rw [if_neg (by decide), if_neg (fun z => absurd z.1 (by decide))]
  by_cases q : j < t
  · rw [if_pos ⟨rfl, q⟩, if_pos q]
  · rw [if_neg (fun z => q z.2), if_neg (fun z => absurd z.1 (by decide)), if_neg q]
theorem k_mud_70 (h : Hp) (k t j : Nat) : k_mud h k t 70 j = if j < t then (if h 71 (42 * k + 30 + j) = 1 then 1 else 0) else h 70 j := by
  unfold k_mud
  rw [if_neg (by decide), if_neg (fun z => absurd z.1 (by decide)), if_neg (fun z => absurd z.1 (by decide))]
  by_cases q : j < t
  · rw [if_pos ⟨rfl, q⟩, if_pos q]
  · rw [if_neg (fun z => q z.2), if_neg q]
theorem k_mud_0 (h : Hp) (k : Nat) : ev_set (ev_set (ev_set (ev_set (ev_set (ev_set h 63 13 (nI k)) 63 0 (h 71 (42 * k))) 63 1 (h 71 (42 * k + 1))) 63 2 (h 71 (42 * k + 2))) 63 3 (h 71 (42 * k + 3))) 63 4 (h 71 (42 * k + 4)) = k_mud h k 0 := by
  funext i j
  by_cases e : i = 63
  · subst e
    by_cases q : j < 5
    · rw [k_mud_63 q]
      rcases (show j = 0 ∨ j = 1 ∨ j = 2 ∨ j = 3 ∨ j = 4 by omega) with rfl | rfl | rfl | rfl | rfl <;> (simp (disch := decide) only [ev_rd1, ev_rd3]; try rfl)
    · by_cases q2 : j = 13
      · subst q2
        rw [k_mud_13]
        simp (disch := decide) only [ev_rd1, ev_rd3]
      · rw [k_mud_6o (by omega) q2]
        rw [ev_rd3 (by omega), ev_rd3 (by omega), ev_rd3 (by omega), ev_rd3 (by omega), ev_rd3 (by omega), ev_rd3 q2]
  · rw [ev_rd2 e, ev_rd2 e, ev_rd2 e, ev_rd2 e, ev_rd2 e, ev_rd2 e]
    unfold k_mud
    rw [if_neg e, if_neg (fun z => absurd z.2 (Nat.not_lt_zero _)), if_neg (fun z => absurd z.2 (Nat.not_lt_zero _)), if_neg (fun z => absurd z.2 (Nat.not_lt_zero _))]
theorem k_mud_s (h : Hp) (k t : Nat) (x : Int32) (hx : x = if h 71 (42 * k + 30 + t) = 1 then 1 else 0) : ev_set (ev_set (ev_set (k_mud h k t) 68 t (h 71 (42 * k + 6 + t))) 69 t (h 71 (42 * k + 18 + t))) 70 t x = k_mud h k (t + 1) := by
  funext i j
  by_cases e68 : i = 68
  · subst e68
    rw [ev_rd2 (by decide), ev_rd2 (by decide), ev_sj, k_mud_68, k_mud_68]
    by_cases q : j = t
    · subst q; rw [if_pos rfl, if_pos (by omega)]
    · rw [if_neg q]
      by_cases q2 : j < t
      · rw [if_pos q2, if_pos (by omega)]
      · rw [if_neg q2, if_neg (by omega)]
  · by_cases e69 : i = 69
    · subst e69
      rw [ev_rd2 (by decide), ev_sj, ev_rd2 (by decide), k_mud_69, k_mud_69]
      by_cases q : j = t
      · subst q; rw [if_pos rfl, if_pos (by omega)]
      · rw [if_neg q]
        by_cases q2 : j < t
        · rw [if_pos q2, if_pos (by omega)]
        · rw [if_neg q2, if_neg (by omega)]
    · by_cases e70 : i = 70
      · subst e70
        rw [ev_sj, ev_rd2 (by decide), ev_rd2 (by decide), k_mud_70, k_mud_70, hx]
        by_cases q : j = t
        · subst q; rw [if_pos rfl, if_pos (show j < j + 1 by omega)]
        · rw [if_neg q]
          by_cases q2 : j < t
          · rw [if_pos q2, if_pos (show j < t + 1 by omega)]
          · rw [if_neg q2, if_neg (show ¬ j < t + 1 by omega)]
      · rw [ev_rd2 e70, ev_rd2 e69, ev_rd2 e68]
        unfold k_mud
        by_cases e : i = 63
        · rw [if_pos e, if_pos e]
        · have n68 : ∀ u, ¬ (i = 68 ∧ j < u) := fun u z => e68 z.1
          have n69 : ∀ u, ¬ (i = 69 ∧ j < u) := fun u z => e69 z.1
          have n70 : ∀ u, ¬ (i = 70 ∧ j < u) := fun u z => e70 z.1
          rw [if_neg e, if_neg e, if_neg (n68 t), if_neg (n68 (t + 1)), if_neg (n69 t), if_neg (n69 (t + 1)), if_neg (n70 t), if_neg (n70 (t + 1))]

set_option maxRecDepth 100000 in
set_option maxHeartbeats 4000000 in
theorem l_mundo (L : Nat) (b : Bool) (h : Hp) (k : Nat) (hk : k < 10) (c : Nat) (hc : c ≤ 12) (ec : h 71 (42 * k + 5) = nI c) : ∀ s t : Nat, t + s = c → EvQ mi_X10_undo 88 [some (.ref 63), some (.int (nI (42 * k))), some (.int (nI t))] [] (G0 L b) (k_mud h k t) 0 0 (fun v G' h' => v = some (.int (nI k)) ∧ G' = G0 L b ∧ h' = k_mud h k c) := by
  intro s
  induction s with
  | zero =>
    intro t ht
    have ht2 : t = c := by omega
    subst ht2
    refine ev_iload_n rfl rfl rfl ?_
    refine ev_aload_n rfl rfl rfl ?_
    refine ev_getR rfl rfl fl_X10_45 rfl rfl rfl rfl ?_
    refine ev_iload_n rfl rfl rfl ?_
    refine ev_iconst (v := 5) rfl rfl (by decide) ?_
    refine ev_iadd rfl rfl ?_
    refine ev_iald (j := 42 * k + 5) rfl rfl rfl (by rw [show nI (42 * k) + 5 = nI (42 * k + 5) from nI_add _ 5]; exact vp_in_nI (by omega) (by decide)) (by rw [show nI (42 * k) + 5 = nI (42 * k + 5) from nI_add _ 5]; exact nI_clamp (by omega)) ?_
    try simp (disch := decide) only [k_mud_o, k_mud_13, ec]
    refine ev_icmp_ge rfl rfl (fun c_97 => ?_) (fun z_ => absurd (Int32.le_refl _) z_)
    refine ev_aload_n rfl rfl rfl ?_
    refine ev_getI rfl rfl fl_X10_128 rfl rfl rfl ?_
    try simp (disch := decide) only [k_mud_o, k_mud_13, ec]
    exact ev_iret rfl rfl rfl (⟨rfl, rfl, rfl⟩)
  | succ s ih =>
    intro t ht
    refine ev_iload_n rfl rfl rfl ?_
    refine ev_aload_n rfl rfl rfl ?_
    refine ev_getR rfl rfl fl_X10_45 rfl rfl rfl rfl ?_
    refine ev_iload_n rfl rfl rfl ?_
    refine ev_iconst (v := 5) rfl rfl (by decide) ?_
    refine ev_iadd rfl rfl ?_
    refine ev_iald (j := 42 * k + 5) rfl rfl rfl (by rw [show nI (42 * k) + 5 = nI (42 * k + 5) from nI_add _ 5]; exact vp_in_nI (by omega) (by decide)) (by rw [show nI (42 * k) + 5 = nI (42 * k + 5) from nI_add _ 5]; exact nI_clamp (by omega)) ?_
    try simp (disch := decide) only [ev_rd2, k_mud_o, ec]
    refine ev_icmp_ge rfl rfl (fun z_ => absurd z_ (fun z_ => absurd ((nI_le2 (by omega) (by omega)).mp z_) (by omega))) (fun c_97 => ?_)
    refine ev_aload_n rfl rfl rfl ?_
    refine ev_getR rfl rfl fl_X10_36 rfl rfl rfl rfl ?_
    refine ev_iload_n rfl rfl rfl ?_
    refine ev_aload_n rfl rfl rfl ?_
    refine ev_getR rfl rfl fl_X10_45 rfl rfl rfl rfl ?_
    refine ev_iload_n rfl rfl rfl ?_
    refine ev_bipush (v := 6) rfl rfl (by decide) ?_
    refine ev_iadd rfl rfl ?_
    refine ev_iload_n rfl rfl rfl ?_
    refine ev_iadd rfl rfl ?_
    refine ev_iald (j := 42 * k + 6 + t) rfl rfl rfl (by rw [show nI (42 * k) + 6 + nI t = nI (42 * k + 6 + t) from by rw [show nI (42 * k) + 6 = nI (42 * k + 6) from nI_add _ 6, nI_add]]; exact vp_in_nI (by omega) (by decide)) (by rw [show nI (42 * k) + 6 + nI t = nI (42 * k + 6 + t) from by rw [show nI (42 * k) + 6 = nI (42 * k + 6) from nI_add _ 6, nI_add]]; exact nI_clamp (by omega)) ?_
    try simp (disch := decide) only [ev_rd2, k_mud_o, ec]
    refine ev_iast (j := t) rfl rfl rfl rfl (vp_in_nI (by omega) (by decide)) (nI_clamp (by omega)) ?_
    refine ev_aload_n rfl rfl rfl ?_
    refine ev_getR rfl rfl fl_X10_39 rfl rfl rfl rfl ?_
    refine ev_iload_n rfl rfl rfl ?_
    refine ev_aload_n rfl rfl rfl ?_
    refine ev_getR rfl rfl fl_X10_45 rfl rfl rfl rfl ?_
    refine ev_iload_n rfl rfl rfl ?_
    refine ev_bipush (v := 18) rfl rfl (by decide) ?_
    refine ev_iadd rfl rfl ?_
    refine ev_iload_n rfl rfl rfl ?_
    refine ev_iadd rfl rfl ?_
    refine ev_iald (j := 42 * k + 18 + t) rfl rfl rfl (by rw [show nI (42 * k) + 18 + nI t = nI (42 * k + 18 + t) from by rw [show nI (42 * k) + 18 = nI (42 * k + 18) from nI_add _ 18, nI_add]]; exact vp_in_nI (by omega) (by decide)) (by rw [show nI (42 * k) + 18 + nI t = nI (42 * k + 18 + t) from by rw [show nI (42 * k) + 18 = nI (42 * k + 18) from nI_add _ 18, nI_add]]; exact nI_clamp (by omega)) ?_
    try simp (disch := decide) only [ev_rd2, k_mud_o, ec]
    refine ev_iast (j := t) rfl rfl rfl rfl (vp_in_nI (by omega) (by decide)) (nI_clamp (by omega)) ?_
    refine ev_aload_n rfl rfl rfl ?_
    refine ev_getR rfl rfl fl_X10_42 rfl rfl rfl rfl ?_
    refine ev_iload_n rfl rfl rfl ?_
    refine ev_aload_n rfl rfl rfl ?_
    refine ev_getR rfl rfl fl_X10_45 rfl rfl rfl rfl ?_
    refine ev_iload_n rfl rfl rfl ?_
    refine ev_bipush (v := 30) rfl rfl (by decide) ?_
    refine ev_iadd rfl rfl ?_
    refine ev_iload_n rfl rfl rfl ?_
    refine ev_iadd rfl rfl ?_
    refine ev_iald (j := 42 * k + 30 + t) rfl rfl rfl (by rw [show nI (42 * k) + 30 + nI t = nI (42 * k + 30 + t) from by rw [show nI (42 * k) + 30 = nI (42 * k + 30) from nI_add _ 30, nI_add]]; exact vp_in_nI (by omega) (by decide)) (by rw [show nI (42 * k) + 30 + nI t = nI (42 * k + 30 + t) from by rw [show nI (42 * k) + 30 = nI (42 * k + 30) from nI_add _ 30, nI_add]]; exact nI_clamp (by omega)) ?_
    try simp (disch := decide) only [ev_rd2, k_mud_o, ec]
    refine ev_iconst (v := 1) rfl rfl (by decide) ?_
    refine ev_icmp_ne rfl rfl (fun c_151 => ?_) (fun c_151 => ?_)
    · refine ev_iconst (v := 0) rfl rfl (by decide) ?_
      refine ev_zast (j := t) rfl rfl rfl rfl (vp_in_nI (by omega) (by decide)) (nI_clamp (by omega)) (by decide) ?_
      refine ev_iinc (y := 1) rfl rfl rfl (by decide) rfl rfl ?_
      dsimp only [List.set]
      refine ev_goto rfl rfl ?_
      rw [nI_1 t, k_mud_s h k t 0 (by rw [if_neg c_151])]
      exact ih (t + 1) (by omega)
    · refine ev_iconst (v := 1) rfl rfl (by decide) ?_
      refine ev_goto rfl rfl ?_
      refine ev_zast (j := t) rfl rfl rfl rfl (vp_in_nI (by omega) (by decide)) (nI_clamp (by omega)) (by decide) ?_
      refine ev_iinc (y := 1) rfl rfl rfl (by decide) rfl rfl ?_
      dsimp only [List.set]
      refine ev_goto rfl rfl ?_
      rw [nI_1 t, k_mud_s h k t 1 (by rw [if_pos c_151])]
      exact ih (t + 1) (by omega)

set_option maxRecDepth 100000 in
set_option maxHeartbeats 4000000 in
theorem m_xundo (L : Nat) (b : Bool) (h : Hp) (k : Nat) (hk : k < 10) (ea : h 63 13 = nI (k + 1)) (c : Nat) (hc : c ≤ 12) (ec : h 71 (42 * k + 5) = nI c) : EvD mi_X10_undo [.ref 63] (G0 L b) h (nI k) (k_mud h k c) := by
  refine EvD.of (lo := [some (.ref 63), none, none]) pf_X10_undo ok_X10_undo rfl rfl ?_
  refine ev_aload_n rfl rfl rfl ?_
  refine ev_getI rfl rfl fl_X10_128 rfl rfl rfl ?_
  try simp (disch := decide) only [ev_rd1, ev_rd2, ev_rd3, ea]
  refine ev_if_ne rfl rfl (fun c_4 => ?_) (fun z_ => absurd z_ (fun z_ => absurd ((nI_eq (a := k + 1) (b := 0) (by omega) (by decide)).mp z_) (by omega)))
  refine ev_aload_n rfl rfl rfl ?_
  refine ev_dup rfl rfl rfl ?_
  refine ev_getI rfl rfl fl_X10_128 rfl rfl rfl ?_
  try simp (disch := decide) only [ev_rd1, ev_rd2, ev_rd3, ea]
  refine ev_iconst (v := 1) rfl rfl (by decide) ?_
  refine ev_isub rfl rfl ?_
  rw [show nI (k + 1) - 1 = nI k from (nI_sub2 (a := k + 1) (b := 1) (by omega) (by omega)).trans (congrArg nI (by omega))]
  refine ev_putI rfl rfl fl_X10_128 rfl rfl rfl rfl rfl ?_
  refine ev_bipush (v := 42) rfl rfl (by decide) ?_
  refine ev_aload_n rfl rfl rfl ?_
  refine ev_getI rfl rfl fl_X10_128 rfl rfl rfl ?_
  try simp (disch := decide) only [ev_rd1, ev_rd2, ev_rd3, ea]
  refine ev_imul rfl rfl ?_
  rw [show (42 : Int32) * nI k = nI (42 * k) from nI_mul 42 k]
  refine ev_istore_n rfl rfl rfl rfl ?_
  dsimp only [List.set]
  refine ev_aload_n rfl rfl rfl ?_
  refine ev_aload_n rfl rfl rfl ?_
  refine ev_getR rfl rfl fl_X10_45 rfl rfl rfl rfl ?_
  refine ev_iload_n rfl rfl rfl ?_
  refine ev_iald (j := 42 * k) rfl rfl rfl (vp_in_nI (by omega) (by decide)) (nI_clamp (by omega)) ?_
  try simp (disch := decide) only [ev_rd1, ev_rd2, ev_rd3, ea]
  refine ev_putI rfl rfl fl_X10_7 rfl rfl rfl rfl rfl ?_
  refine ev_aload_n rfl rfl rfl ?_
  refine ev_aload_n rfl rfl rfl ?_
  refine ev_getR rfl rfl fl_X10_45 rfl rfl rfl rfl ?_
  refine ev_iload_n rfl rfl rfl ?_
  refine ev_iconst (v := 1) rfl rfl (by decide) ?_
  refine ev_iadd rfl rfl ?_
  refine ev_iald (j := 42 * k + 1) rfl rfl rfl (by rw [show nI (42 * k) + 1 = nI (42 * k + 1) from nI_add _ 1]; exact vp_in_nI (by omega) (by decide)) (by rw [show nI (42 * k) + 1 = nI (42 * k + 1) from nI_add _ 1]; exact nI_clamp (by omega)) ?_
  try simp (disch := decide) only [ev_rd1, ev_rd2, ev_rd3, ea]
  refine ev_putI rfl rfl fl_X10_13 rfl rfl rfl rfl rfl ?_
  refine ev_aload_n rfl rfl rfl ?_
  refine ev_aload_n rfl rfl rfl ?_
  refine ev_getR rfl rfl fl_X10_45 rfl rfl rfl rfl ?_
  refine ev_iload_n rfl rfl rfl ?_
  refine ev_iconst (v := 2) rfl rfl (by decide) ?_
  refine ev_iadd rfl rfl ?_
  refine ev_iald (j := 42 * k + 2) rfl rfl rfl (by rw [show nI (42 * k) + 2 = nI (42 * k + 2) from nI_add _ 2]; exact vp_in_nI (by omega) (by decide)) (by rw [show nI (42 * k) + 2 = nI (42 * k + 2) from nI_add _ 2]; exact nI_clamp (by omega)) ?_
  try simp (disch := decide) only [ev_rd1, ev_rd2, ev_rd3, ea]
  refine ev_putI rfl rfl fl_X10_16 rfl rfl rfl rfl rfl ?_
  refine ev_aload_n rfl rfl rfl ?_
  refine ev_aload_n rfl rfl rfl ?_
  refine ev_getR rfl rfl fl_X10_45 rfl rfl rfl rfl ?_
  refine ev_iload_n rfl rfl rfl ?_
  refine ev_iconst (v := 3) rfl rfl (by decide) ?_
  refine ev_iadd rfl rfl ?_
  refine ev_iald (j := 42 * k + 3) rfl rfl rfl (by rw [show nI (42 * k) + 3 = nI (42 * k + 3) from nI_add _ 3]; exact vp_in_nI (by omega) (by decide)) (by rw [show nI (42 * k) + 3 = nI (42 * k + 3) from nI_add _ 3]; exact nI_clamp (by omega)) ?_
  try simp (disch := decide) only [ev_rd1, ev_rd2, ev_rd3, ea]
  refine ev_putI rfl rfl fl_X10_19 rfl rfl rfl rfl rfl ?_
  refine ev_aload_n rfl rfl rfl ?_
  refine ev_aload_n rfl rfl rfl ?_
  refine ev_getR rfl rfl fl_X10_45 rfl rfl rfl rfl ?_
  refine ev_iload_n rfl rfl rfl ?_
  refine ev_iconst (v := 4) rfl rfl (by decide) ?_
  refine ev_iadd rfl rfl ?_
  refine ev_iald (j := 42 * k + 4) rfl rfl rfl (by rw [show nI (42 * k) + 4 = nI (42 * k + 4) from nI_add _ 4]; exact vp_in_nI (by omega) (by decide)) (by rw [show nI (42 * k) + 4 = nI (42 * k + 4) from nI_add _ 4]; exact nI_clamp (by omega)) ?_
  try simp (disch := decide) only [ev_rd1, ev_rd2, ev_rd3, ea]
  refine ev_putI rfl rfl fl_X10_131 rfl rfl rfl rfl rfl ?_
  refine ev_iconst (v := 0) rfl rfl (by decide) ?_
  refine ev_istore_n rfl rfl rfl rfl ?_
  dsimp only [List.set]
  rw [k_mud_0]
  exact l_mundo L b h k hk c hc ec c 0 (by omega)

set_option maxRecDepth 100000 in
set_option maxHeartbeats 4000000 in
theorem m_xundo0 (L : Nat) (b : Bool) (h : Hp) (ea : h 63 13 = 0) : EvD mi_X10_undo [.ref 63] (G0 L b) h (-4) (h) := by
  refine EvD.of (lo := [some (.ref 63), none, none]) pf_X10_undo ok_X10_undo rfl rfl ?_
  refine ev_aload_n rfl rfl rfl ?_
  refine ev_getI rfl rfl fl_X10_128 rfl rfl rfl ?_
  refine ev_if_ne rfl rfl (fun z_ => absurd ea z_) (fun c_4 => ?_)
  refine ev_bipush (v := (-4)) rfl rfl (by decide) ?_
  exact ev_iret rfl rfl rfl (⟨rfl, rfl, rfl⟩)

theorem jw_mud {h : Hp} (hB : Bx h) {k c : Nat} (hk : k < 10) : JW [(63, 0), (63, 1), (63, 2), (63, 3), (63, 4), (63, 13), (68, 999), (69, 999), (70, 999)] h (k_mud h k c) := by
  refine ⟨fun i j => ?_, fun i j q => ?_⟩
  · by_cases e : i = 63
    · subst e
      by_cases q : j < 5
      · rw [k_mud_63 q]
        have y := hB 71 (42 * k + j)
        rw [bx_71, show (42 * k + j) % 42 = j by omega] at y
        rcases (show j = 0 ∨ j = 1 ∨ j = 2 ∨ j = 3 ∨ j = 4 by omega) with rfl | rfl | rfl | rfl | rfl
        · exact y
        · exact B.any _
        · exact B.any _
        · exact y
        · exact B.any _
      · by_cases q2 : j = 13
        · subst q2; rw [k_mud_13]; exact (nI_B (by omega) (by omega) : B (nI k) 0 10)
        · rw [k_mud_6o (by omega) q2]; exact hB 63 j
    · by_cases e68 : i = 68
      · subst e68; exact B.any _
      · by_cases e69 : i = 69
        · subst e69; exact B.any _
        · by_cases e70 : i = 70
          · subst e70; exact B.any _
          · rw [k_mud_o e e68 e69 e70]; exact hB i j
  · by_cases e : i = 63
    · subst e
      have n0 : j ≠ 0 := fun z => by subst z; cases q
      have n1 : j ≠ 1 := fun z => by subst z; cases q
      have n2 : j ≠ 2 := fun z => by subst z; cases q
      have n3 : j ≠ 3 := fun z => by subst z; cases q
      have n4 : j ≠ 4 := fun z => by subst z; cases q
      exact k_mud_6o (by omega) (fun z => by subst z; cases q)
    · exact k_mud_o e (fun z => by subst z; cases q) (fun z => by subst z; cases q) (fun z => by subst z; cases q)

theorem rest_2 {h : Hp} {n j : Nat} (hj : j < 5) : k_rest h n 2 j = h (13 + n) j := by
  unfold k_rest
  rw [if_pos rfl, if_pos hj]
theorem rest_46 (h : Hp) (n : Nat) : k_rest h n 4 6 = h (13 + n) 5 := by
  unfold k_rest
  rw [if_neg (by decide), if_pos rfl, if_pos rfl]
theorem rest_4 {h : Hp} {n j : Nat} (hj : j ≠ 6) : k_rest h n 4 j = h 4 j := by
  unfold k_rest
  rw [if_neg (by decide), if_pos rfl, if_neg hj]
theorem rest_9 {h : Hp} {n j : Nat} (hj : j < 12) : k_rest h n 9 j = h (13 + n) (6 + j) := by
  unfold k_rest
  rw [if_neg (by decide), if_neg (by decide), if_pos rfl, if_pos hj]
theorem rest_10 {h : Hp} {n j : Nat} (hj : j < 12) : k_rest h n 10 j = h (13 + n) (18 + j) := by
  unfold k_rest
  rw [if_neg (by decide), if_neg (by decide), if_neg (by decide), if_pos rfl, if_pos hj]
theorem rest_111 (h : Hp) (n : Nat) : k_rest h n 11 1 = nI n := by
  unfold k_rest
  rw [if_neg (by decide), if_neg (by decide), if_neg (by decide), if_neg (by decide), if_pos rfl, if_pos rfl]
theorem rest_112 (h : Hp) (n : Nat) : k_rest h n 11 2 = h 11 2 - 1 := by
  unfold k_rest
  rw [if_neg (by decide), if_neg (by decide), if_neg (by decide), if_neg (by decide), if_pos rfl, if_neg (by decide), if_pos rfl]
theorem rest_o {h : Hp} {n i j : Nat} (h2 : i ≠ 2) (h4 : i ≠ 4) (h9 : i ≠ 9) (h10 : i ≠ 10) (h11 : i ≠ 11) : k_rest h n i j = h i j := by
  unfold k_rest
  rw [if_neg h2, if_neg h4, if_neg h9, if_neg h10, if_neg h11]
theorem jw_rest {h : Hp} (hB : Bx h) {n : Nat} (hn : n < 10) : JW [(2, 0), (2, 1), (2, 2), (2, 3), (2, 4), (4, 6), (9, 999), (10, 999), (11, 1), (11, 2), (11, 3)] h (k_rest h n) := by
  refine ⟨fun i j => ?_, fun i j q => ?_⟩
  · by_cases e2 : i = 2
    · subst e2
      by_cases q : j < 5
      · rw [rest_2 q]
        rcases (show j = 0 ∨ j = 1 ∨ j = 2 ∨ j = 3 ∨ j = 4 by omega) with rfl | rfl | rfl | rfl | rfl
        · have y := hB (13 + n) 0
          rcases (show n = 0 ∨ n = 1 ∨ n = 2 ∨ n = 3 ∨ n = 4 ∨ n = 5 ∨ n = 6 ∨ n = 7 ∨ n = 8 ∨ n = 9 by omega) with rfl | rfl | rfl | rfl | rfl | rfl | rfl | rfl | rfl | rfl <;> exact y
        · exact B.any _
        · exact B.any _
        · have y := hB (13 + n) 3
          rcases (show n = 0 ∨ n = 1 ∨ n = 2 ∨ n = 3 ∨ n = 4 ∨ n = 5 ∨ n = 6 ∨ n = 7 ∨ n = 8 ∨ n = 9 by omega) with rfl | rfl | rfl | rfl | rfl | rfl | rfl | rfl | rfl | rfl <;> exact y
        · exact B.any _
      · have y : k_rest h n 2 j = h 2 j := by unfold k_rest; rw [if_pos rfl, if_neg q]
        rw [y]; exact hB 2 j
    · by_cases e4 : i = 4
      · subst e4
        by_cases q : j = 6
        · subst q; exact B.any _
        · rw [rest_4 q]; exact hB 4 j
      · by_cases e9 : i = 9
        · subst e9; exact B.any _
        · by_cases e10 : i = 10
          · subst e10; exact B.any _
          · by_cases e11 : i = 11
            · subst e11
              by_cases j1 : j = 1
              · subst j1; rw [rest_111]; exact (nI_B (by omega) (by omega) : B (nI n) 0 9)
              · by_cases j0 : j = 0
                · subst j0
                  have y : k_rest h n 11 0 = h 11 0 := by
                    unfold k_rest
                    rw [if_neg (by decide), if_neg (by decide), if_neg (by decide), if_neg (by decide), if_pos rfl, if_neg (by decide), if_neg (by decide), if_neg (by decide)]
                  rw [y]; exact hB 11 0
                · obtain ⟨m, rfl⟩ : ∃ m, j = m + 2 := ⟨j - 2, by omega⟩
                  exact B.any _
            · rw [rest_o e2 e4 e9 e10 e11]; exact hB i j
  · by_cases e2 : i = 2
    · subst e2
      have n0 : j ≠ 0 := fun z => by subst z; cases q
      have n1 : j ≠ 1 := fun z => by subst z; cases q
      have n2 : j ≠ 2 := fun z => by subst z; cases q
      have n3 : j ≠ 3 := fun z => by subst z; cases q
      have n4 : j ≠ 4 := fun z => by subst z; cases q
      unfold k_rest
      rw [if_pos rfl, if_neg (by omega)]
    · by_cases e4 : i = 4
      · subst e4
        exact rest_4 (fun z => by subst z; cases q)
      · by_cases e11 : i = 11
        · subst e11
          have n1 : j ≠ 1 := fun z => by subst z; cases q
          have n2 : j ≠ 2 := fun z => by subst z; cases q
          have n3 : j ≠ 3 := fun z => by subst z; cases q
          unfold k_rest
          rw [if_neg (by decide), if_neg (by decide), if_neg (by decide), if_neg (by decide), if_pos rfl, if_neg n1, if_neg n2, if_neg n3]
        · exact rest_o e2 e4 (fun z => by subst z; cases q) (fun z => by subst z; cases q) e11
theorem z_nx9 {x : Nat} (hx : x < 10) : (nI x + 10 - 1) - (nI x + 10 - 1) / 10 * 10 = nI ((x + 9) % 10) := by
  rcases (show x = 0 ∨ x = 1 ∨ x = 2 ∨ x = 3 ∨ x = 4 ∨ x = 5 ∨ x = 6 ∨ x = 7 ∨ x = 8 ∨ x = 9 by omega) with rfl | rfl | rfl | rfl | rfl | rfl | rfl | rfl | rfl | rfl <;> decide
theorem rel_undo {h h1 : Hp} (hB : Bx h) (hE : RE h) {k : Nat} (ha : nA_ h = k + 1) (e1 : h1 = k_rest h ((nX h + 9) % 10)) : RE (k_mud h1 k (cK h k)) := by
  obtain ⟨hb, ⟨w1, w2, w3⟩, ⟨r1, r2⟩, r3⟩ := hE
  have la : nA_ h ≤ 10 := (B.nI (u := 10) (hB 63 13)).2
  have ea : h 63 13 = nI (nA_ h) := (B.nI (u := 10) (hB 63 13)).1
  have lx : nX h ≤ 9 := (B.nI (u := 9) (hB 11 1)).2
  have lw : nW h ≤ 12 := (B.nI (u := 12) (hB 4 7)).2
  obtain ⟨n, hn⟩ : ∃ n, (nX h + 9) % 10 = n := ⟨_, rfl⟩
  rw [hn] at e1
  have l10 : n < 10 := by omega
  have ri : rI h k = n := by unfold rI; rw [ha]; omega
  have rw_ := r2 k (by omega)
  rw [ri] at rw_
  obtain ⟨f1, f2, f3, f4, f5⟩ := rw_
  have c63 : ∀ i j, 63 ≤ i → h1 i j = h i j := fun i j hi => by rw [e1]; exact rest_o (by omega) (by omega) (by omega) (by omega) (by omega)
  have c13 : ∀ i j, i < 10 → h1 (13 + i) j = h (13 + i) j := fun i j hi => by rw [e1]; exact rest_o (by omega) (by omega) (by omega) (by omega) (by omega)
  have ew : nW (k_mud h1 k (cK h k)) = nW h := by
    unfold nW
    rw [k_mud_o (by decide) (by decide) (by decide) (by decide), e1, rest_4 (by decide)]
  have e71 : ∀ j, k_mud h1 k (cK h k) 71 j = h 71 j := fun j => by rw [k_mud_o (by decide) (by decide) (by decide) (by decide)]; exact c63 71 j (by decide)
  have eA : nA_ (k_mud h1 k (cK h k)) = k := by unfold nA_; rw [k_mud_13]; exact nI_clamp (by omega)
  have eX : nX (k_mud h1 k (cK h k)) = n := by unfold nX; rw [k_mud_o (by decide) (by decide) (by decide) (by decide), e1, rest_111]; exact nI_clamp (by omega)
  have eC : ∀ m, cK (k_mud h1 k (cK h k)) m = cK h m := fun m => congrArg Int32.toNatClampNeg (e71 (42 * m + 5))
  have g2 : ∀ f, f < 5 → k_mud h1 k (cK h k) 2 f = h (13 + n) f := fun f hf => by rw [k_mud_o (by decide) (by decide) (by decide) (by decide), e1]; exact rest_2 hf
  have g9 : ∀ w, w < 12 → k_mud h1 k (cK h k) 9 w = h (13 + n) (6 + w) := fun w hw => by rw [k_mud_o (by decide) (by decide) (by decide) (by decide), e1]; exact rest_9 hw
  have g10 : ∀ w, w < 12 → k_mud h1 k (cK h k) 10 w = h (13 + n) (18 + w) := fun w hw => by rw [k_mud_o (by decide) (by decide) (by decide) (by decide), e1]; exact rest_10 hw
  have g46 : k_mud h1 k (cK h k) 4 6 = h (13 + n) 5 := by rw [k_mud_o (by decide) (by decide) (by decide) (by decide), e1]; exact rest_46 h n
  have m63 : ∀ f, f < 5 → k_mud h1 k (cK h k) 63 f = h 71 (42 * k + f) := fun f hf => by rw [k_mud_63 hf]; exact c63 71 _ (by decide)
  have oth : ∀ i j, i = 5 ∨ i = 6 ∨ i = 7 ∨ i = 8 → k_mud h1 k (cK h k) i j = h i j := fun i j hi => by
    rw [k_mud_o (by omega) (by omega) (by omega) (by omega), e1]
    exact rest_o (by omega) (by omega) (by omega) (by omega) (by omega)
  have zrow : ∀ c, ZB (fun w => h (13 + n) (6 + w)) (fun w => h (13 + n) (18 + w)) (h (13 + n) 5) c → ZB (k_mud h1 k (cK h k) 9) (k_mud h1 k (cK h k) 10) (k_mud h1 k (cK h k) 4 6) c := fun c hz w h1_ h2_ => by
    rw [g9 w h2_, g10 w h2_, g46]
    exact hz w h1_ h2_
  refine ⟨?_, ⟨?_, fun w hw => ?_, ?_⟩, ⟨?_, fun k' hk' => ?_⟩, fun q => ?_⟩
  · refine ⟨?_, ?_, ?_, ?_, ?_⟩
    · rw [g2 0 (by decide), m63 0 (by decide)]; exact f1 0 (by decide)
    · rw [g2 1 (by decide), m63 1 (by decide)]; exact f1 1 (by decide)
    · rw [g2 2 (by decide), m63 2 (by decide)]; exact f1 2 (by decide)
    · rw [g2 3 (by decide), m63 3 (by decide)]; exact f1 3 (by decide)
    · rw [g2 4 (by decide), m63 4 (by decide)]; exact f1 4 (by decide)
  · rw [k_mud_o (by decide) (by decide) (by decide) (by decide), e1, rest_4 (by decide), ← e1, k_mud_6o (by decide) (by decide), c63 63 5 (by decide)]
    exact w1
  · rw [ew] at hw
    obtain ⟨z1, z2, z3, z4, z5, z6, z7, z8⟩ := w2 w hw
    have o : ∀ i, i = 64 ∨ i = 65 ∨ i = 66 ∨ i = 67 → k_mud h1 k (cK h k) i w = h i w := fun i hi => by rw [k_mud_o (by omega) (by omega) (by omega) (by omega)]; exact c63 i w (by omega)
    unfold RW1
    rw [oth 5 w (by omega), oth 6 w (by omega), oth 7 w (by omega), oth 8 w (by omega), g9 w (by omega), g10 w (by omega), g46, o 64 (by omega), o 65 (by omega), o 66 (by omega), o 67 (by omega), k_mud_68, k_mud_69, k_mud_70, c63 71 _ (by decide), c63 71 _ (by decide), c63 71 _ (by decide), c63 68 w (by decide), c63 69 w (by decide), c63 70 w (by decide)]
    by_cases q : w < cK h k
    · have y := f3 w q
      rw [if_pos q, if_pos q, if_pos q]
      refine ⟨z1, z2, z3, z4, y.1, y.2.1, ?_, z8⟩
      rw [← y.2.2]
      rcases bit_01 (h (13 + n) 5) (nI w &&& 31) with x | x
      · rw [x, if_neg (by decide)]
      · rw [x, if_pos rfl]
    · have y := f4 w (by omega) (by omega)
      have y3 := r3 (by omega) w (by rw [ha]; show cK h (k + 1 - 1) ≤ w; rw [Nat.add_sub_cancel]; omega) (by omega)
      rw [if_neg q, if_neg q, if_neg q]
      exact ⟨z1, z2, z3, z4, y.1.trans (y3.1.symm.trans z5), y.2.1.trans (y3.2.1.symm.trans z6), y.2.2.trans (y3.2.2.symm.trans z7), z8⟩
  · rw [ew]
    exact zrow _ (fun w h1_ h2_ => f4 w (by omega) h2_)
  · rw [k_mud_o (by decide) (by decide) (by decide) (by decide), e1, rest_112, ← e1, k_mud_13, r1, ea, ha]
    exact (nI_sub2 (a := k + 1) (b := 1) (by omega) (by omega)).trans (congrArg nI (by omega))
  · rw [eA] at hk'
    have ri' : rI (k_mud h1 k (cK h k)) k' = rI h k' := by unfold rI; rw [eA, eX, ha]; omega
    rw [ri']
    have l2 : rI h k' < 10 := Nat.mod_lt _ (by decide)
    exact RRow.cg (r2 k' (by omega)) (fun j => by rw [k_mud_o (by omega) (by omega) (by omega) (by omega)]; exact c13 _ j l2) (fun f _ => e71 _) (Nat.le_of_eq ew.symm) lw (fun q => ⟨q, eC _⟩)
  · rw [eA] at q ⊢
    rw [eC]
    exact zrow _ (f5 q)

