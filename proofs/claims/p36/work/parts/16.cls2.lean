def zq_w (h : Hp) (a : Nat) (d : Int32) : Int32 := h a 1 - d
def zq_p (h : Hp) (a : Nat) (d : Int32) : Int32 := z_max 0 (h a 0 + (if h a 1 - d ≤ 0 then 0 else 2 * h a 2) - d)
def z_pass (h : Hp) (a : Nat) (d : Int32) : Hp := fun i j =>
  if i = a then (if zq_p h a d ≤ h a 3 then (if j = 0 then zq_p h a d else if j = 1 then zq_w h a d else h a j)
    else (if j = 0 then h a 3 else if j = 1 then z_max 0 (zq_w h a d - (zq_p h a d - h a 3)) else if j = 4 then h a 4 + 1 else h a j))
  else h i j

set_option maxRecDepth 100000 in
set_option maxHeartbeats 4000000 in
theorem c_pass (G : Geo) (h : Hp) (a : Nat) (ha : Nat.blt 0 a = true) (hz : ev_sh G a = some (.inl 1)) (d : Int32) : EvU mi_X1_pass [.ref a, .int d] G h (z_pass h a d) := by
  refine EvU.of (lo := [some (.ref a), some (.int d), none]) pf_X1_pass ok_X1_pass rfl rfl ?_
  refine ev_aload_n rfl rfl rfl ?_
  refine ev_dup rfl rfl rfl ?_
  refine ev_getI rfl rfl fl_X1_13 ha hz rfl ?_
  refine ev_iload_n rfl rfl rfl ?_
  refine ev_isub rfl rfl ?_
  refine ev_putI rfl rfl fl_X1_13 rfl rfl ha hz rfl ?_
  refine ev_aload_n rfl rfl rfl ?_
  refine ev_getI rfl rfl fl_X1_13 ha hz rfl ?_
  try simp (disch := omega) only [ev_rd1, ev_rd2, ev_rd3, ev_rc1, k_keep_ne]
  refine ev_if_le rfl rfl (fun c_14 => ?_) (fun c_14 => ?_)
  · refine ev_iconst (v := 0) rfl rfl (by decide) ?_
    refine ev_istore_n rfl rfl rfl rfl ?_
    dsimp only [List.set]
    refine ev_aload_n rfl rfl rfl ?_
    refine ev_iconst (v := 0) rfl rfl (by decide) ?_
    refine ev_aload_n rfl rfl rfl ?_
    refine ev_getI rfl rfl fl_X1_7 ha hz rfl ?_
    try simp (disch := omega) only [ev_rd1, ev_rd2, ev_rd3, ev_rc1, k_keep_ne]
    refine ev_iload_n rfl rfl rfl ?_
    refine ev_iadd rfl rfl ?_
    refine ev_iload_n rfl rfl rfl ?_
    refine ev_isub rfl rfl ?_
    refine ev_S2D rfl rfl lk_X1_25 st_J9_max_7cf53 rfl rfl (c_max _ _ _ _) ?_
    refine ev_putI rfl rfl fl_X1_7 rfl rfl ha hz rfl ?_
    refine ev_aload_n rfl rfl rfl ?_
    refine ev_getI rfl rfl fl_X1_7 ha hz rfl ?_
    try simp (disch := omega) only [ev_rd1, ev_rd2, ev_rd3, ev_rc1, k_keep_ne]
    refine ev_aload_n rfl rfl rfl ?_
    refine ev_getI rfl rfl fl_X1_19 ha hz rfl ?_
    try simp (disch := omega) only [ev_rd1, ev_rd2, ev_rd3, ev_rc1, k_keep_ne]
    refine ev_icmp_le rfl rfl (fun c_52 => ?_) (fun c_52 => ?_)
    · exact ev_vret rfl rfl trivial (⟨rfl, rfl, by
          funext i j
          by_cases h1 : i = a
          · subst h1
            simp only [z_pass, zq_p, zq_w, if_pos c_14, if_pos c_52, ev_set, true_and, if_true]
            repeat' split
            all_goals first | rfl | (exfalso; omega) | (subst_vars; rfl) | (subst_vars; contradiction)
          · simp only [z_pass, ev_set, h1, false_and, if_false]⟩)
    · refine ev_aload_n rfl rfl rfl ?_
      refine ev_iconst (v := 0) rfl rfl (by decide) ?_
      refine ev_aload_n rfl rfl rfl ?_
      refine ev_getI rfl rfl fl_X1_13 ha hz rfl ?_
      try simp (disch := omega) only [ev_rd1, ev_rd2, ev_rd3, ev_rc1, k_keep_ne]
      refine ev_aload_n rfl rfl rfl ?_
      refine ev_getI rfl rfl fl_X1_7 ha hz rfl ?_
      try simp (disch := omega) only [ev_rd1, ev_rd2, ev_rd3, ev_rc1, k_keep_ne]
      refine ev_aload_n rfl rfl rfl ?_
      refine ev_getI rfl rfl fl_X1_19 ha hz rfl ?_
      try simp (disch := omega) only [ev_rd1, ev_rd2, ev_rd3, ev_rc1, k_keep_ne]
      refine ev_isub rfl rfl ?_
      refine ev_isub rfl rfl ?_
      refine ev_S2D rfl rfl lk_X1_25 st_J9_max_7cf53 rfl rfl (c_max _ _ _ _) ?_
      refine ev_putI rfl rfl fl_X1_13 rfl rfl ha hz rfl ?_
      refine ev_aload_n rfl rfl rfl ?_
      refine ev_aload_n rfl rfl rfl ?_
      refine ev_getI rfl rfl fl_X1_19 ha hz rfl ?_
      try simp (disch := omega) only [ev_rd1, ev_rd2, ev_rd3, ev_rc1, k_keep_ne]
      refine ev_putI rfl rfl fl_X1_7 rfl rfl ha hz rfl ?_
      refine ev_aload_n rfl rfl rfl ?_
      refine ev_dup rfl rfl rfl ?_
      refine ev_getI rfl rfl fl_X1_22 ha hz rfl ?_
      try simp (disch := omega) only [ev_rd1, ev_rd2, ev_rd3, ev_rc1, k_keep_ne]
      refine ev_iconst (v := 1) rfl rfl (by decide) ?_
      refine ev_iadd rfl rfl ?_
      refine ev_putI rfl rfl fl_X1_22 rfl rfl ha hz rfl ?_
      exact ev_vret rfl rfl trivial (⟨rfl, rfl, by
          funext i j
          by_cases h1 : i = a
          · subst h1
            simp only [z_pass, zq_p, zq_w, if_pos c_14, if_neg c_52, ev_set, true_and, if_true]
            repeat' split
            all_goals first | rfl | (exfalso; omega) | (subst_vars; rfl) | (subst_vars; contradiction)
          · simp only [z_pass, ev_set, h1, false_and, if_false]⟩)
  · refine ev_iconst (v := 2) rfl rfl (by decide) ?_
    refine ev_aload_n rfl rfl rfl ?_
    refine ev_getI rfl rfl fl_X1_16 ha hz rfl ?_
    try simp (disch := omega) only [ev_rd1, ev_rd2, ev_rd3, ev_rc1, k_keep_ne]
    refine ev_imul rfl rfl ?_
    refine ev_goto rfl rfl ?_
    refine ev_istore_n rfl rfl rfl rfl ?_
    dsimp only [List.set]
    refine ev_aload_n rfl rfl rfl ?_
    refine ev_iconst (v := 0) rfl rfl (by decide) ?_
    refine ev_aload_n rfl rfl rfl ?_
    refine ev_getI rfl rfl fl_X1_7 ha hz rfl ?_
    try simp (disch := omega) only [ev_rd1, ev_rd2, ev_rd3, ev_rc1, k_keep_ne]
    refine ev_iload_n rfl rfl rfl ?_
    refine ev_iadd rfl rfl ?_
    refine ev_iload_n rfl rfl rfl ?_
    refine ev_isub rfl rfl ?_
    refine ev_S2D rfl rfl lk_X1_25 st_J9_max_7cf53 rfl rfl (c_max _ _ _ _) ?_
    refine ev_putI rfl rfl fl_X1_7 rfl rfl ha hz rfl ?_
    refine ev_aload_n rfl rfl rfl ?_
    refine ev_getI rfl rfl fl_X1_7 ha hz rfl ?_
    try simp (disch := omega) only [ev_rd1, ev_rd2, ev_rd3, ev_rc1, k_keep_ne]
    refine ev_aload_n rfl rfl rfl ?_
    refine ev_getI rfl rfl fl_X1_19 ha hz rfl ?_
    try simp (disch := omega) only [ev_rd1, ev_rd2, ev_rd3, ev_rc1, k_keep_ne]
    refine ev_icmp_le rfl rfl (fun c_52 => ?_) (fun c_52 => ?_)
    · exact ev_vret rfl rfl trivial (⟨rfl, rfl, by
          funext i j
          by_cases h1 : i = a
          · subst h1
            simp only [z_pass, zq_p, zq_w, if_neg c_14, if_pos c_52, ev_set, true_and, if_true]
            repeat' split
            all_goals first | rfl | (exfalso; omega) | (subst_vars; rfl) | (subst_vars; contradiction)
          · simp only [z_pass, ev_set, h1, false_and, if_false]⟩)
    · refine ev_aload_n rfl rfl rfl ?_
      refine ev_iconst (v := 0) rfl rfl (by decide) ?_
      refine ev_aload_n rfl rfl rfl ?_
      refine ev_getI rfl rfl fl_X1_13 ha hz rfl ?_
      try simp (disch := omega) only [ev_rd1, ev_rd2, ev_rd3, ev_rc1, k_keep_ne]
      refine ev_aload_n rfl rfl rfl ?_
      refine ev_getI rfl rfl fl_X1_7 ha hz rfl ?_
      try simp (disch := omega) only [ev_rd1, ev_rd2, ev_rd3, ev_rc1, k_keep_ne]
      refine ev_aload_n rfl rfl rfl ?_
      refine ev_getI rfl rfl fl_X1_19 ha hz rfl ?_
      try simp (disch := omega) only [ev_rd1, ev_rd2, ev_rd3, ev_rc1, k_keep_ne]
      refine ev_isub rfl rfl ?_
      refine ev_isub rfl rfl ?_
      refine ev_S2D rfl rfl lk_X1_25 st_J9_max_7cf53 rfl rfl (c_max _ _ _ _) ?_
      refine ev_putI rfl rfl fl_X1_13 rfl rfl ha hz rfl ?_
      refine ev_aload_n rfl rfl rfl ?_
      refine ev_aload_n rfl rfl rfl ?_
      refine ev_getI rfl rfl fl_X1_19 ha hz rfl ?_
      try simp (disch := omega) only [ev_rd1, ev_rd2, ev_rd3, ev_rc1, k_keep_ne]
      refine ev_putI rfl rfl fl_X1_7 rfl rfl ha hz rfl ?_
      refine ev_aload_n rfl rfl rfl ?_
      refine ev_dup rfl rfl rfl ?_
      refine ev_getI rfl rfl fl_X1_22 ha hz rfl ?_
      try simp (disch := omega) only [ev_rd1, ev_rd2, ev_rd3, ev_rc1, k_keep_ne]
      refine ev_iconst (v := 1) rfl rfl (by decide) ?_
      refine ev_iadd rfl rfl ?_
      refine ev_putI rfl rfl fl_X1_22 rfl rfl ha hz rfl ?_
      exact ev_vret rfl rfl trivial (⟨rfl, rfl, by
          funext i j
          by_cases h1 : i = a
          · subst h1
            simp only [z_pass, zq_p, zq_w, if_neg c_14, if_neg c_52, ev_set, true_and, if_true]
            repeat' split
            all_goals first | rfl | (exfalso; omega) | (subst_vars; rfl) | (subst_vars; contradiction)
          · simp only [z_pass, ev_set, h1, false_and, if_false]⟩)

def h_fl (h : Hp) (a : Nat) (x : Int32) (n : Nat) : Hp := fun i j => if i = a ∧ j < n then x else h i j
theorem h_fl_0 (h : Hp) (a : Nat) (x : Int32) : h_fl h a x 0 = h := by
  funext i j
  exact if_neg (fun q => Nat.not_lt_zero _ q.2)
theorem h_fl_ne {h : Hp} {a n i j : Nat} {x : Int32} (hi : i ≠ a) : h_fl h a x n i j = h i j := if_neg (fun q => hi q.1)
theorem h_fl_s (h : Hp) (a : Nat) (x : Int32) (m : Nat) : h_fl h a x (m + 1) = ev_set (h_fl h a x m) a m x := by
  funext i j
  simp only [h_fl, ev_set]
  by_cases h1 : i = a
  · subst h1
    by_cases h2 : j = m
    · subst h2; simp
    · by_cases h3 : j < m
      · simp [h2, h3, Nat.lt_succ_of_lt h3]
      · simp [h2, h3, show ¬ j < m + 1 by omega]
  · simp [h1]

set_option maxRecDepth 100000 in
set_option maxHeartbeats 4000000 in
theorem l_fill (G : Geo) (h : Hp) (a : Nat) (x : Int32) (m : Nat) (hm0 : m < 2 ^ 30) (ha : Nat.blt 0 a = true) (hz : ev_sh G a = some (.inr (.int, m))) : ∀ t i : Nat, i + t = m → EvQ mi_J7_fill_53178 5 [some (.ref a), some (.int x), some (.int (nI i)), some (.int (nI m))] [] G (h_fl h a x i) 0 0 (fun v G' h' => v = none ∧ G' = G ∧ h' = h_fl h a x m) := by
  intro t
  induction t with
  | zero =>
    intro i hi
    have hi2 : i = m := by omega
    subst hi2
    refine ev_iload_n rfl rfl rfl ?_
    refine ev_iload_n rfl rfl rfl ?_
    refine ev_icmp_ge rfl rfl (fun c_7 => ?_) (fun z_ => absurd (Int32.le_refl _) z_)
    exact ev_vret rfl rfl trivial (⟨rfl, rfl, rfl⟩)
  | succ t ih =>
    intro i hi
    refine ev_iload_n rfl rfl rfl ?_
    refine ev_iload_n rfl rfl rfl ?_
    refine ev_icmp_ge rfl rfl (fun z_ => absurd z_ (nI_ge (by omega) (by omega))) (fun c_7 => ?_)
    refine ev_aload_n rfl rfl rfl ?_
    refine ev_iload_n rfl rfl rfl ?_
    refine ev_iload_n rfl rfl rfl ?_
    refine ev_iast rfl rfl ha hz (vp_in_nI (by omega) (by omega)) (nI_clamp (by omega)) ?_
    refine ev_iinc (y := 1) rfl rfl rfl (by decide) rfl rfl ?_
    dsimp only [List.set]
    refine ev_goto rfl rfl ?_
    have z_ := ih (i + 1) (by omega)
    rw [h_fl_s] at z_
    rw [nI_1 i]
    exact z_

set_option maxRecDepth 100000 in
set_option maxHeartbeats 4000000 in
theorem c_fill (G : Geo) (h : Hp) (a : Nat) (x : Int32) (m : Nat) (hm0 : m < 2 ^ 30) (ha : Nat.blt 0 a = true) (hz : ev_sh G a = some (.inr (.int, m))) : EvU mi_J7_fill_53178 [.ref a, .int x] G h (h_fl h a x m) := by
  refine EvU.of (lo := [some (.ref a), some (.int x), none, none]) pf_J7_fill_53178 ok_J7_fill_53178 rfl rfl ?_
  refine ev_iconst (v := 0) rfl rfl (by decide) ?_
  refine ev_istore_n rfl rfl rfl rfl ?_
  dsimp only [List.set]
  refine ev_aload_n rfl rfl rfl ?_
  refine ev_alen rfl rfl hz ?_
  refine ev_istore_n rfl rfl rfl rfl ?_
  dsimp only [List.set]
  refine EvQ.hp (h_fl h a x 0) (h_fl_0 h a x).symm ?_
  exact l_fill G h a x m hm0 ha hz m 0 (by omega)

