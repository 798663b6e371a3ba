def zq_w (h : Hp) (a : Nat) (d : Int32) : Int32 := h a 1 - d
def zq_p (h : Hp) (a : Nat) (d : Int32) : Int32 := z_max 0 (h a 0 + (if h a 1 - d ≤ 0 then 0 else 2 * h a 2) - d)
def z_pass (h : Hp) (a : Nat) (d : Int32) : Hp := fun i j =>
  if i = a then (if zq_p h a d ≤ h a 3 then (if j = 0 then zq_p h a d else if j = 1 then zq_w h a d else h a j)
    else (if j = 0 then h a 3 else if j = 1 then z_max 0 (zq_w h a d - (zq_p h a d - h a 3)) else if j = 4 then h a 4 + 1 else h a j))
  else h i j

set_option maxRecDepth 100000 in
set_option maxHeartbeats 4000000 in
theorem c_pass (G : Geo) (h : Hp) (a : Nat) (ha : Nat.blt 0 a = true) (hz : ev_sh G a = some (.inl 1)) (d : Int32) : EvU mi_X1_pass [.ref a, .int d] G h (z_pass h a d) := by
  refine EvU.of (lo := [some (.ref a), some (.int d), none]) pf_X1_pass ok_X1_pass rfl rfl ?_
  refine ev_aload_n rfl rfl rfl ?_
  refine ev_dup rfl rfl rfl ?_
  refine ev_getI rfl rfl fl_X1_13 ha hz rfl ?_
  refine ev_iload_n rfl rfl rfl ?_
  refine ev_isub rfl rfl ?_
  refine ev_putI rfl rfl fl_X1_13 rfl rfl ha hz rfl ?_
  refine ev_aload_n rfl rfl rfl ?_
  refine ev_getI rfl rfl fl_X1_13 ha hz rfl ?_
  try simp (disch := omega) only [ev_rd1, ev_rd2, ev_rd3, ev_rc1, k_keep_ne]
  refine ev_if_le rfl rfl (fun c_14 => ?_) (fun c_14 => ?_)
  · refine ev_iconst (v := 0) rfl rfl (by decide) ?_
    refine ev_istore_n rfl rfl rfl rfl ?_
    dsimp only [List.set]
    refine ev_aload_n rfl rfl rfl ?_
    refine ev_iconst (v := 0) rfl rfl (by decide) ?_
    refine ev_aload_n rfl rfl rfl ?_
    refine ev_getI rfl rfl fl_X1_7 ha hz rfl ?_
    try simp (disch := omega) only [ev_rd1, ev_rd2, ev_rd3, ev_rc1, k_keep_ne]
    refine ev_iload_n rfl rfl rfl ?_
    refine ev_iadd rfl rfl ?_
    refine ev_iload_n rfl rfl rfl ?_
    refine ev_isub rfl rfl ?_
    refine ev_S2D rfl rfl lk_X1_25 st_J9_max_7cf53 rfl rfl (c_max _ _ _ _) ?_
    refine ev_putI rfl rfl fl_X1_7 rfl rfl ha hz rfl ?_
    refine ev_aload_n rfl rfl rfl ?_
    refine ev_getI rfl rfl fl_X1_7 ha hz rfl ?_
    try simp (disch := omega) only [ev_rd1, ev_rd2, ev_rd3, ev_rc1, k_keep_ne]
    refine ev_aload_n rfl rfl rfl ?_
    refine ev_getI rfl rfl fl_X1_19 ha hz rfl ?_
    try simp (disch := omega) only [ev_rd1, ev_rd2, ev_rd3, ev_rc1, k_keep_ne]
    refine ev_icmp_le rfl rfl (fun c_52 => ?_) (fun c_52 => ?_)
    · exact ev_vret rfl rfl trivial (⟨rfl, rfl, by
          funext i j
          by_cases h1 : i = a
          · subst h1
            simp only [z_pass, zq_p, zq_w, if_pos c_14, if_pos c_52, ev_set, true_and, if_true]
            repeat' split
            all_goals first | rfl | (exfalso; omega) | (subst_vars; rfl) | (subst_vars; contradiction)
          · simp only [z_pass, ev_set, h1, false_and, if_false]⟩)
    · refine ev_aload_n rfl rfl rfl ?_
      refine ev_iconst (v := 0) rfl rfl (by decide) ?_
      refine ev_aload_n rfl rfl rfl ?_
      refine ev_getI rfl rfl fl_X1_13 ha hz rfl ?_
      try simp (disch := omega) only [ev_rd1, ev_rd2, ev_rd3, ev_rc1, k_keep_ne]
      refine ev_aload_n rfl rfl rfl ?_
      refine ev_getI rfl rfl fl_X1_7 ha hz rfl ?_
      try simp (disch := omega) only [ev_rd1, ev_rd2, ev_rd3, ev_rc1, k_keep_ne]
      refine ev_aload_n rfl rfl rfl ?_
      refine ev_getI rfl rfl fl_X1_19 ha hz rfl ?_
      try simp (disch := omega) only [ev_rd1, ev_rd2, ev_rd3, ev_rc1, k_keep_ne]
      refine ev_isub rfl rfl ?_
      refine ev_isub rfl rfl ?_
      refine ev_S2D rfl rfl lk_X1_25 st_J9_max_7cf53 rfl rfl (c_max _ _ _ _) ?_
      refine ev_putI rfl rfl fl_X1_13 rfl rfl ha hz rfl ?_
      refine ev_aload_n rfl rfl rfl ?_
      refine ev_aload_n rfl rfl rfl ?_
      refine ev_getI rfl rfl fl_X1_19 ha hz rfl ?_
      try simp (disch := omega) only [ev_rd1, ev_rd2, ev_rd3, ev_rc1, k_keep_ne]
      refine ev_putI rfl rfl fl_X1_7 rfl rfl ha hz rfl ?_
      refine ev_aload_n rfl rfl rfl ?_
      refine ev_dup rfl rfl rfl ?_
      refine ev_getI rfl rfl fl_X1_22 ha hz rfl ?_
      try simp (disch := omega) only [ev_rd1, ev_rd2, ev_rd3, ev_rc1, k_keep_ne]
      refine ev_iconst (v := 1) rfl rfl (by decide) ?_
      refine ev_iadd rfl rfl ?_
      refine ev_putI rfl rfl fl_X1_22 rfl rfl ha hz rfl ?_
      exact ev_vret rfl rfl trivial (⟨rfl, rfl, by
          funext i j
          by_cases h1 : i = a
          · subst h1
            simp only [z_pass, zq_p, zq_w, if_pos c_14, if_neg c_52, ev_set, true_and, if_true]
            repeat' split
            all_goals first | rfl | (exfalso; omega) | (subst_vars; rfl) | (subst_vars; contradiction)
          · simp only [z_pass, ev_set, h1, false_and, if_false]⟩)
  · refine ev_iconst (v := 2) rfl rfl (by decide) ?_
    refine ev_aload_n rfl rfl rfl ?_
    refine ev_getI rfl rfl fl_X1_16 ha hz rfl ?_
    try simp (disch := omega) only [ev_rd1, ev_rd2, ev_rd3, ev_rc1, k_keep_ne]
    refine ev_imul rfl rfl ?_
    refine ev_goto rfl rfl ?_
    refine ev_istore_n rfl rfl rfl rfl ?_
    dsimp only [List.set]
    refine ev_aload_n rfl rfl rfl ?_
    refine ev_iconst (v := 0) rfl rfl (by decide) ?_
    refine ev_aload_n rfl rfl rfl ?_
    refine ev_getI rfl rfl fl_X1_7 ha hz rfl ?_
    try simp (disch := omega) only [ev_rd1, ev_rd2, ev_rd3, ev_rc1, k_keep_ne]
    refine ev_iload_n rfl rfl rfl ?_
    refine ev_iadd rfl rfl ?_
    refine ev_iload_n rfl rfl rfl ?_
    refine ev_isub rfl rfl ?_
    refine ev_S2D rfl rfl lk_X1_25 st_J9_max_7cf53 rfl rfl (c_max _ _ _ _) ?_
    refine ev_putI rfl rfl fl_X1_7 rfl rfl ha hz rfl ?_
    refine ev_aload_n rfl rfl rfl ?_
    refine ev_getI rfl rfl fl_X1_7 ha hz rfl ?_
    try simp (disch := omega) only [ev_rd1, ev_rd2, ev_rd3, ev_rc1, k_keep_ne]
    refine ev_aload_n rfl rfl rfl ?_
    refine ev_getI rfl rfl fl_X1_19 ha hz rfl ?_
    try simp (disch := omega) only [ev_rd1, ev_rd2, ev_rd3, ev_rc1, k_keep_ne]
    refine ev_icmp_le rfl rfl (fun c_52 => ?_) (fun c_52 => ?_)
    · exact ev_vret rfl rfl trivial (⟨rfl, rfl, by
          funext i j
          by_cases h1 : i = a
          · subst h1
            simp only [z_pass, zq_p, zq_w, if_neg c_14, if_pos c_52, ev_set, true_and, if_true]
            repeat' split
            all_goals first | rfl | (exfalso; omega) | (subst_vars; rfl) | (subst_vars; contradiction)
          · simp only [z_pass, ev_set, h1, false_and, if_false]⟩)
    · refine ev_aload_n rfl rfl rfl ?_
      refine ev_iconst (v := 0) rfl rfl (by decide) ?_
      refine ev_aload_n rfl rfl rfl ?_
      refine ev_getI rfl rfl fl_X1_13 ha hz rfl ?_
      try simp (disch := omega) only [ev_rd1, ev_rd2, ev_rd3, ev_rc1, k_keep_ne]
      refine ev_aload_n rfl rfl rfl ?_
      refine ev_getI rfl rfl fl_X1_7 ha hz rfl ?_
      try simp (disch := omega) only [ev_rd1, ev_rd2, ev_rd3, ev_rc1, k_keep_ne]
      refine ev_aload_n rfl rfl rfl ?_
      refine ev_getI rfl rfl fl_X1_19 ha hz rfl ?_
      try simp (disch := omega) only [ev_rd1, ev_rd2, ev_rd3, ev_rc1, k_keep_ne]
      refine ev_isub rfl rfl ?_
      refine ev_isub rfl rfl ?_
      refine ev_S2D rfl rfl lk_X1_25 st_J9_max_7cf53 rfl rfl (c_max _ _ _ _) ?_
      refine ev_putI rfl rfl fl_X1_13 rfl rfl ha hz rfl ?_
      refine ev_aload_n rfl rfl rfl ?_
      refine ev_aload_n rfl rfl rfl ?_
      refine ev_getI rfl rfl fl_X1_19 ha hz rfl ?_
      try simp (disch := omega) only [ev_rd1, ev_rd2, ev_rd3, ev_rc1, k_keep_ne]
      refine ev_putI rfl rfl fl_X1_7 rfl rfl ha hz rfl ?_
      refine ev_aload_n rfl rfl rfl ?_
      refine ev_dup rfl rfl rfl ?_
      refine ev_getI rfl rfl fl_X1_22 ha hz rfl ?_
      try simp (disch := omega) only [ev_rd1, ev_rd2, ev_rd3, ev_rc1, k_keep_ne]
      refine ev_iconst (v := 1) rfl rfl (by decide) ?_
      refine ev_iadd rfl rfl ?_
      refine ev_putI rfl rfl fl_X1_22 rfl rfl ha hz rfl ?_
      exact ev_vret rfl rfl trivial (⟨rfl, rfl, by
          funext i j
          by_cases h1 : i = a
          · subst h1
            simp only [z_pass, zq_p, zq_w, if_neg c_14, if_neg c_52, ev_set, true_and, if_true]
            repeat' split
            all_goals first | rfl | (exfalso; omega) | (subst_vars; rfl) | (subst_vars; contradiction)
          · simp only [z_pass, ev_set, h1, false_and, if_false]⟩)

