def z_cp (h : Hp) (a c : Nat) : Hp := fun i j => if i = a ∧ j < 5 then h c j else h i j
def zq_w (h : Hp) (a : Nat) (d : Int32) : Int32 := h a 1 - d
def zq_p (h : Hp) (a : Nat) (d : Int32) : Int32 := z_max 0 (h a 0 + (if h a 1 - d ≤ 0 then 0 else 2 * h a 2) - d)
def z_pass (h : Hp) (a : Nat) (d : Int32) : Hp := fun i j =>
  if i = a then (if zq_p h a d ≤ h a 3 then (if j = 0 then zq_p h a d else if j = 1 then zq_w h a d else h a j)
    else (if j = 0 then h a 3 else if j = 1 then z_max 0 (zq_w h a d - (zq_p h a d - h a 3)) else if j = 4 then h a 4 + 1 else h a j))
  else h i j

set_option maxRecDepth 100000 in
set_option maxHeartbeats 4000000 in
theorem c_copyFrom (G : Geo) (h : Hp) (a : Nat) (ha : Nat.blt 0 a = true) (hz : ev_sh G a = some (.inl 1)) (c : Nat) (hc : Nat.blt 0 c = true) (hzc : ev_sh G c = some (.inl 1)) (hne : c ≠ a) : EvU mi_X1_copyFrom [.ref a, .ref c] G h (z_cp h a c) := by
  refine EvU.of (lo := [some (.ref a), some (.ref c)]) pf_X1_copyFrom ok_X1_copyFrom rfl rfl ?_
  refine ev_aload_n rfl rfl rfl ?_
  refine ev_aload_n rfl rfl rfl ?_
  refine ev_getI rfl rfl fl_X1_7 hc hzc rfl ?_
  refine ev_putI rfl rfl fl_X1_7 rfl rfl ha hz rfl ?_
  refine ev_aload_n rfl rfl rfl ?_
  refine ev_aload_n rfl rfl rfl ?_
  refine ev_getI rfl rfl fl_X1_13 hc hzc rfl ?_
  try simp (disch := omega) only [ev_rd1, ev_rd2, ev_rd3, ev_rc1, k_keep_ne]
  refine ev_putI rfl rfl fl_X1_13 rfl rfl ha hz rfl ?_
  refine ev_aload_n rfl rfl rfl ?_
  refine ev_aload_n rfl rfl rfl ?_
  refine ev_getI rfl rfl fl_X1_16 hc hzc rfl ?_
  try simp (disch := omega) only [ev_rd1, ev_rd2, ev_rd3, ev_rc1, k_keep_ne]
  refine ev_putI rfl rfl fl_X1_16 rfl rfl ha hz rfl ?_
  refine ev_aload_n rfl rfl rfl ?_
  refine ev_aload_n rfl rfl rfl ?_
  refine ev_getI rfl rfl fl_X1_19 hc hzc rfl ?_
  try simp (disch := omega) only [ev_rd1, ev_rd2, ev_rd3, ev_rc1, k_keep_ne]
  refine ev_putI rfl rfl fl_X1_19 rfl rfl ha hz rfl ?_
  refine ev_aload_n rfl rfl rfl ?_
  refine ev_aload_n rfl rfl rfl ?_
  refine ev_getI rfl rfl fl_X1_22 hc hzc rfl ?_
  try simp (disch := omega) only [ev_rd1, ev_rd2, ev_rd3, ev_rc1, k_keep_ne]
  refine ev_putI rfl rfl fl_X1_22 rfl rfl ha hz rfl ?_
  exact ev_vret rfl rfl trivial (⟨rfl, rfl, by
      funext i j
      by_cases h1 : i = a
      · subst h1
        simp only [z_cp, ev_set, true_and, if_true]
        repeat' split
        all_goals first | rfl | (exfalso; omega) | (subst_vars; rfl) | (subst_vars; contradiction)
      · simp only [z_cp, ev_set, h1, false_and, if_false]⟩)

set_option maxRecDepth 100000 in
set_option maxHeartbeats 4000000 in
theorem c_pass (G : Geo) (h : Hp) (a : Nat) (ha : Nat.blt 0 a = true) (hz : ev_sh G a = some (.inl 1)) (d : Int32) : EvU mi_X1_pass [.ref a, .int d] G h (z_pass h a d) := by
  refine EvU.of (lo := [some (.ref a), some (.int d), none]) pf_X1_pass ok_X1_pass rfl rfl ?_
  refine ev_aload_n rfl rfl rfl ?_
  refine ev_dup rfl rfl rfl ?_
  refine ev_getI rfl rfl fl_X1_13 ha hz rfl ?_
  refine ev_iload_n rfl rfl rfl ?_
  refine ev_isub rfl rfl ?_
  refine ev_putI rfl rfl fl_X1_13 rfl rfl ha hz rfl ?_
  refine ev_aload_n rfl rfl rfl ?_
  refine ev_getI rfl rfl fl_X1_13 ha hz rfl ?_
  try simp (disch := omega) only [ev_rd1, ev_rd2, ev_rd3, ev_rc1, k_keep_ne]
  refine ev_if_le rfl rfl (fun c_14 => ?_) (fun c_14 => ?_)
  · refine ev_iconst (v := 0) rfl rfl (by decide) ?_
    refine ev_istore_n rfl rfl rfl rfl ?_
    dsimp only [List.set]
    refine ev_aload_n rfl rfl rfl ?_
    refine ev_iconst (v := 0) rfl rfl (by decide) ?_
    refine ev_aload_n rfl rfl rfl ?_
    refine ev_getI rfl rfl fl_X1_7 ha hz rfl ?_
    try simp (disch := omega) only [ev_rd1, ev_rd2, ev_rd3, ev_rc1, k_keep_ne]
    refine ev_iload_n rfl rfl rfl ?_
    refine ev_iadd rfl rfl ?_
    refine ev_iload_n rfl rfl rfl ?_
    refine ev_isub rfl rfl ?_
    refine ev_S2D rfl rfl lk_X1_25 st_J9_max_7cf53 rfl rfl (c_max _ _ _ _) ?_
    refine ev_putI rfl rfl fl_X1_7 rfl rfl ha hz rfl ?_
    refine ev_aload_n rfl rfl rfl ?_
    refine ev_getI rfl rfl fl_X1_7 ha hz rfl ?_
    try simp (disch := omega) only [ev_rd1, ev_rd2, ev_rd3, ev_rc1, k_keep_ne]
    refine ev_aload_n rfl rfl rfl ?_
    refine ev_getI rfl rfl fl_X1_19 ha hz rfl ?_
    try simp (disch := omega) only [ev_rd1, ev_rd2, ev_rd3, ev_rc1, k_keep_ne]
    refine ev_icmp_le rfl rfl (fun c_52 => ?_) (fun c_52 => ?_)
    · exact ev_vret rfl rfl trivial (⟨rfl, rfl, by
          funext i j
          by_cases h1 : i = a
          · subst h1
            simp only [z_pass, zq_p, zq_w, if_pos c_14, if_pos c_52, ev_set, true_and, if_true]
            repeat' split
            all_goals first | rfl | (exfalso; omega) | (subst_vars; rfl) | (subst_vars; contradiction)
          · simp only [z_pass, ev_set, h1, false_and, if_false]⟩)
    · refine ev_aload_n rfl rfl rfl ?_
      refine ev_iconst (v := 0) rfl rfl (by decide) ?_
      refine ev_aload_n rfl rfl rfl ?_
      refine ev_getI rfl rfl fl_X1_13 ha hz rfl ?_
      try simp (disch := omega) only [ev_rd1, ev_rd2, ev_rd3, ev_rc1, k_keep_ne]
      refine ev_aload_n rfl rfl rfl ?_
      refine ev_getI rfl rfl fl_X1_7 ha hz rfl ?_
      try simp (disch := omega) only [ev_rd1, ev_rd2, ev_rd3, ev_rc1, k_keep_ne]
      refine ev_aload_n rfl rfl rfl ?_
      refine ev_getI rfl rfl fl_X1_19 ha hz rfl ?_
      try simp (disch := omega) only [ev_rd1, ev_rd2, ev_rd3, ev_rc1, k_keep_ne]
      refine ev_isub rfl rfl ?_
      refine ev_isub rfl rfl ?_
      refine ev_S2D rfl rfl lk_X1_25 st_J9_max_7cf53 rfl rfl (c_max _ _ _ _) ?_
      refine ev_putI rfl rfl fl_X1_13 rfl rfl ha hz rfl ?_
      refine ev_aload_n rfl rfl rfl ?_
      refine ev_aload_n rfl rfl rfl ?_
      refine ev_getI rfl rfl fl_X1_19 ha hz rfl ?_
      try simp (disch := omega) only [ev_rd1, ev_rd2, ev_rd3, ev_rc1, k_keep_ne]
      refine ev_putI rfl rfl fl_X1_7 rfl rfl ha hz rfl ?_
      refine ev_aload_n rfl rfl rfl ?_
      refine ev_dup rfl rfl rfl ?_
      refine ev_getI rfl rfl fl_X1_22 ha hz rfl ?_
      try simp (disch := omega) only [ev_rd1, ev_rd2, ev_rd3, ev_rc1, k_keep_ne]
      refine ev_iconst (v := 1) rfl rfl (by decide) ?_
      refine ev_iadd rfl rfl ?_
      refine ev_putI rfl rfl fl_X1_22 rfl rfl ha hz rfl ?_
      exact ev_vret rfl rfl trivial (⟨rfl, rfl, by
          funext i j
          by_cases h1 : i = a
          · subst h1
            simp only [z_pass, zq_p, zq_w, if_pos c_14, if_neg c_52, ev_set, true_and, if_true]
            repeat' split
            all_goals first | rfl | (exfalso; omega) | (subst_vars; rfl) | (subst_vars; contradiction)
          · simp only [z_pass, ev_set, h1, false_and, if_false]⟩)
  · refine ev_iconst (v := 2) rfl rfl (by decide) ?_
    refine ev_aload_n rfl rfl rfl ?_
    refine ev_getI rfl rfl fl_X1_16 ha hz rfl ?_
    try simp (disch := omega) only [ev_rd1, ev_rd2, ev_rd3, ev_rc1, k_keep_ne]
    refine ev_imul rfl rfl ?_
    refine ev_goto rfl rfl ?_
    refine ev_istore_n rfl rfl rfl rfl ?_
    dsimp only [List.set]
    refine ev_aload_n rfl rfl rfl ?_
    refine ev_iconst (v := 0) rfl rfl (by decide) ?_
    refine ev_aload_n rfl rfl rfl ?_
    refine ev_getI rfl rfl fl_X1_7 ha hz rfl ?_
    try simp (disch := omega) only [ev_rd1, ev_rd2, ev_rd3, ev_rc1, k_keep_ne]
    refine ev_iload_n rfl rfl rfl ?_
    refine ev_iadd rfl rfl ?_
    refine ev_iload_n rfl rfl rfl ?_
    refine ev_isub rfl rfl ?_
    refine ev_S2D rfl rfl lk_X1_25 st_J9_max_7cf53 rfl rfl (c_max _ _ _ _) ?_
    refine ev_putI rfl rfl fl_X1_7 rfl rfl ha hz rfl ?_
    refine ev_aload_n rfl rfl rfl ?_
    refine ev_getI rfl rfl fl_X1_7 ha hz rfl ?_
    try simp (disch := omega) only [ev_rd1, ev_rd2, ev_rd3, ev_rc1, k_keep_ne]
    refine ev_aload_n rfl rfl rfl ?_
    refine ev_getI rfl rfl fl_X1_19 ha hz rfl ?_
    try simp (disch := omega) only [ev_rd1, ev_rd2, ev_rd3, ev_rc1, k_keep_ne]
    refine ev_icmp_le rfl rfl (fun c_52 => ?_) (fun c_52 => ?_)
    · exact ev_vret rfl rfl trivial (⟨rfl, rfl, by
          funext i j
          by_cases h1 : i = a
          · subst h1
            simp only [z_pass, zq_p, zq_w, if_neg c_14, if_pos c_52, ev_set, true_and, if_true]
            repeat' split
            all_goals first | rfl | (exfalso; omega) | (subst_vars; rfl) | (subst_vars; contradiction)
          · simp only [z_pass, ev_set, h1, false_and, if_false]⟩)
    · refine ev_aload_n rfl rfl rfl ?_
      refine ev_iconst (v := 0) rfl rfl (by decide) ?_
      refine ev_aload_n rfl rfl rfl ?_
      refine ev_getI rfl rfl fl_X1_13 ha hz rfl ?_
      try simp (disch := omega) only [ev_rd1, ev_rd2, ev_rd3, ev_rc1, k_keep_ne]
      refine ev_aload_n rfl rfl rfl ?_
      refine ev_getI rfl rfl fl_X1_7 ha hz rfl ?_
      try simp (disch := omega) only [ev_rd1, ev_rd2, ev_rd3, ev_rc1, k_keep_ne]
      refine ev_aload_n rfl rfl rfl ?_
      refine ev_getI rfl rfl fl_X1_19 ha hz rfl ?_
      try simp (disch := omega) only [ev_rd1, ev_rd2, ev_rd3, ev_rc1, k_keep_ne]
      refine ev_isub rfl rfl ?_
      refine ev_isub rfl rfl ?_
      refine ev_S2D rfl rfl lk_X1_25 st_J9_max_7cf53 rfl rfl (c_max _ _ _ _) ?_
      refine ev_putI rfl rfl fl_X1_13 rfl rfl ha hz rfl ?_
      refine ev_aload_n rfl rfl rfl ?_
      refine ev_aload_n rfl rfl rfl ?_
      refine ev_getI rfl rfl fl_X1_19 ha hz rfl ?_
      try simp (disch := omega) only [ev_rd1, ev_rd2, ev_rd3, ev_rc1, k_keep_ne]
      refine ev_putI rfl rfl fl_X1_7 rfl rfl ha hz rfl ?_
      refine ev_aload_n rfl rfl rfl ?_
      refine ev_dup rfl rfl rfl ?_
      refine ev_getI rfl rfl fl_X1_22 ha hz rfl ?_
      try simp (disch := omega) only [ev_rd1, ev_rd2, ev_rd3, ev_rc1, k_keep_ne]
      refine ev_iconst (v := 1) rfl rfl (by decide) ?_
      refine ev_iadd rfl rfl ?_
      refine ev_putI rfl rfl fl_X1_22 rfl rfl ha hz rfl ?_
      exact ev_vret rfl rfl trivial (⟨rfl, rfl, by
          funext i j
          by_cases h1 : i = a
          · subst h1
            simp only [z_pass, zq_p, zq_w, if_neg c_14, if_neg c_52, ev_set, true_and, if_true]
            repeat' split
            all_goals first | rfl | (exfalso; omega) | (subst_vars; rfl) | (subst_vars; contradiction)
          · simp only [z_pass, ev_set, h1, false_and, if_false]⟩)

def z_all (n : Int32) : Int32 := 1 <<< (n &&& 31) - 1
def z_hasAll (c n : Int32) : Int32 := if c &&& (z_all n ^^^ (-1)) = 0 then 1 else 0
def o_bent (h : Hp) (w : Nat) (p : Int32) : Int32 := z_fd (h 7 w * (p - 100)) 10
def o_off (h : Hp) (w : Nat) (p : Int32) : Int32 := h 9 w + h 10 w + o_bent h w p
def s_drawn (h : Hp) (c l : Int32) : Nat → Int32
  | 0 => 0
  | k + 1 => if c >>> (nI k &&& 31) &&& 1 = 0 then (if l >>> (nI k &&& 31) &&& 1 = 0 then s_drawn h c l k else s_drawn h c l k + h 6 k / 2) else s_drawn h c l k + h 6 k
def s_stray (h : Hp) (c p : Int32) : Nat → Int32
  | 0 => 0
  | k + 1 => if c >>> (nI k &&& 31) &&& 1 = 0 then s_stray h c p k else z_max (s_stray h c p k) (z_abs (o_off h k p))
def s_exact (h : Hp) (p : Int32) : Nat → Int32
  | 0 => 0
  | k + 1 => s_exact h p k + (if o_off h k p = 0 then 1 else 0)
set_option maxRecDepth 100000 in
set_option maxHeartbeats 4000000 in
theorem c_all (L : Nat) (b : Bool) (h : Hp)  : EvD mi_X8_all [.ref 4] (G0 L b) h (z_all (h 4 7)) (h) := by
  refine EvD.of (lo := [some (.ref 4)]) pf_X8_all ok_X8_all rfl rfl ?_
  refine ev_iconst (v := 1) rfl rfl (by decide) ?_
  refine ev_aload_n rfl rfl rfl ?_
  refine ev_getI rfl rfl fl_X8_35 rfl rfl rfl ?_
  refine ev_ishl rfl rfl ?_
  refine ev_iconst (v := 1) rfl rfl (by decide) ?_
  refine ev_isub rfl rfl ?_
  exact ev_iret rfl rfl rfl (⟨rfl, rfl, rfl⟩)

set_option maxRecDepth 100000 in
set_option maxHeartbeats 4000000 in
theorem c_hasAll (L : Nat) (b : Bool) (h : Hp) (c : Int32) : EvD mi_X8_hasAll [.ref 4, .int c] (G0 L b) h (z_hasAll c (h 4 7)) (h) := by
  refine EvD.of (lo := [some (.ref 4), some (.int c)]) pf_X8_hasAll ok_X8_hasAll rfl rfl ?_
  refine ev_iload_n rfl rfl rfl ?_
  refine ev_aload_n rfl rfl rfl ?_
  refine ev_V0D rfl rfl lk_X8_42 vt_X8_all rfl rfl rfl rfl rfl (c_all _ _ _) ?_
  refine ev_iconst (v := (-1)) rfl rfl (by decide) ?_
  refine ev_ixor rfl rfl ?_
  refine ev_iand rfl rfl ?_
  refine ev_if_ne rfl rfl (fun c_8 => ?_) (fun c_8 => ?_)
  · refine ev_iconst (v := 0) rfl rfl (by decide) ?_
    exact ev_iret rfl rfl rfl (⟨congrArg (fun z => some (Value.int z)) (by simp only [z_hasAll, if_neg c_8]), rfl, rfl⟩)
  · refine ev_iconst (v := 1) rfl rfl (by decide) ?_
    refine ev_goto rfl rfl ?_
    exact ev_iret rfl rfl rfl (⟨congrArg (fun z => some (Value.int z)) (by simp only [z_hasAll, if_pos c_8]), rfl, rfl⟩)

set_option maxRecDepth 100000 in
set_option maxHeartbeats 4000000 in
theorem c_bentAt (L : Nat) (b : Bool) (h : Hp) (w : Nat) (hw : w < 12) (p : Int32)  : EvD mi_X8_bentAt [.ref 4, .int (nI w), .int p] (G0 L b) h (o_bent h w p) (h) := by
  refine EvD.of (lo := [some (.ref 4), some (.int (nI w)), some (.int p)]) pf_X8_bentAt ok_X8_bentAt rfl rfl ?_
  refine ev_aload_n rfl rfl rfl ?_
  refine ev_getR rfl rfl fl_X8_18 rfl rfl rfl rfl ?_
  refine ev_iload_n rfl rfl rfl ?_
  refine ev_iald rfl rfl rfl (vp_in_nI (by omega) (by decide)) (nI_clamp (by omega)) ?_
  refine ev_iload_n rfl rfl rfl ?_
  refine ev_bipush (v := 100) rfl rfl (by decide) ?_
  refine ev_isub rfl rfl ?_
  refine ev_imul rfl rfl ?_
  refine ev_bipush (v := 10) rfl rfl (by decide) ?_
  refine ev_S2D rfl rfl lk_X8_46 st_J9_floorDiv_7cf53 rfl rfl (c_floorDiv _ _ _ _ (by decide)) ?_
  exact ev_iret rfl rfl rfl (⟨rfl, rfl, rfl⟩)

set_option maxRecDepth 100000 in
set_option maxHeartbeats 4000000 in
theorem c_offAt (L : Nat) (b : Bool) (h : Hp) (w : Nat) (hw : w < 12) (p : Int32)  : EvD mi_X8_offAt [.ref 4, .int (nI w), .int p] (G0 L b) h (o_off h w p) (h) := by
  refine EvD.of (lo := [some (.ref 4), some (.int (nI w)), some (.int p)]) pf_X8_offAt ok_X8_offAt rfl rfl ?_
  refine ev_aload_n rfl rfl rfl ?_
  refine ev_getR rfl rfl fl_X8_25 rfl rfl rfl rfl ?_
  refine ev_iload_n rfl rfl rfl ?_
  refine ev_iald rfl rfl rfl (vp_in_nI (by omega) (by decide)) (nI_clamp (by omega)) ?_
  refine ev_aload_n rfl rfl rfl ?_
  refine ev_getR rfl rfl fl_X8_28 rfl rfl rfl rfl ?_
  refine ev_iload_n rfl rfl rfl ?_
  refine ev_iald rfl rfl rfl (vp_in_nI (by omega) (by decide)) (nI_clamp (by omega)) ?_
  refine ev_iadd rfl rfl ?_
  refine ev_aload_n rfl rfl rfl ?_
  refine ev_iload_n rfl rfl rfl ?_
  refine ev_iload_n rfl rfl rfl ?_
  refine ev_V2D rfl rfl lk_X8_52 vt_X8_bentAt rfl rfl rfl rfl rfl (c_bentAt _ _ _ _ (by omega) _) ?_
  refine ev_iadd rfl rfl ?_
  exact ev_iret rfl rfl rfl (⟨rfl, rfl, rfl⟩)

set_option maxRecDepth 100000 in
set_option maxHeartbeats 4000000 in
theorem l_drawnBy (L : Nat) (b : Bool) (h : Hp) (m : Nat) (hm0 : m ≤ 12) (hm : h 4 7 = nI m) (c l : Int32) : ∀ t i : Nat, i + t = m → EvQ mi_X8_drawnBy 5 [some (.ref 4), some (.int c), some (.int l), some (.int (s_drawn h c l i)), some (.int (nI i))] [] (G0 L b) h 0 0 (fun v G' h' => v = some (.int (s_drawn h c l m)) ∧ G' = G0 L b ∧ h' = h) := by
  intro t
  induction t with
  | zero =>
    intro i hi
    have hi2 : i = m := by omega
    subst hi2
    refine ev_iload rfl rfl rfl ?_
    refine ev_aload_n rfl rfl rfl ?_
    refine ev_getI rfl rfl fl_X8_35 rfl rfl rfl ?_
    refine ev_icmp_ge rfl rfl (fun c_11 => ?_) (fun z_ => absurd (by rw [hm]; exact Int32.le_refl _) z_)
    refine ev_iload_n rfl rfl rfl ?_
    exact ev_iret rfl rfl rfl (⟨rfl, rfl, rfl⟩)
  | succ t ih =>
    intro i hi
    refine ev_iload rfl rfl rfl ?_
    refine ev_aload_n rfl rfl rfl ?_
    refine ev_getI rfl rfl fl_X8_35 rfl rfl rfl ?_
    refine ev_icmp_ge rfl rfl (fun z_ => absurd z_ (by rw [hm]; exact nI_ge (by omega) (by omega))) (fun c_11 => ?_)
    refine ev_iload_n rfl rfl rfl ?_
    refine ev_iload rfl rfl rfl ?_
    refine ev_ishr rfl rfl ?_
    refine ev_iconst (v := 1) rfl rfl (by decide) ?_
    refine ev_iand rfl rfl ?_
    refine ev_if_eq rfl rfl (fun c_20 => ?_) (fun c_20 => ?_)
    · refine ev_iload_n rfl rfl rfl ?_
      refine ev_iload rfl rfl rfl ?_
      refine ev_ishr rfl rfl ?_
      refine ev_iconst (v := 1) rfl rfl (by decide) ?_
      refine ev_iand rfl rfl ?_
      refine ev_if_eq rfl rfl (fun c_42 => ?_) (fun c_42 => ?_)
      · refine ev_iinc (y := 1) rfl rfl rfl (by decide) rfl rfl ?_
        dsimp only [List.set]
        refine ev_goto rfl rfl ?_
        have z_ := ih (i + 1) (by omega)
        simp only [s_drawn, if_neg c_11, if_pos c_20, if_pos c_42] at z_
        rw [nI_1 i]
        exact z_
      · refine ev_iload_n rfl rfl rfl ?_
        refine ev_aload_n rfl rfl rfl ?_
        refine ev_getR rfl rfl fl_X8_15 rfl rfl rfl rfl ?_
        refine ev_iload rfl rfl rfl ?_
        refine ev_iald rfl rfl rfl (vp_in_nI (by omega) (by decide)) (nI_clamp (by omega)) ?_
        refine ev_iconst (v := 2) rfl rfl (by decide) ?_
        refine ev_idiv rfl rfl (by decide) ?_
        refine ev_iadd rfl rfl ?_
        refine ev_istore_n rfl rfl rfl rfl ?_
        dsimp only [List.set]
        refine ev_iinc (y := 1) rfl rfl rfl (by decide) rfl rfl ?_
        dsimp only [List.set]
        refine ev_goto rfl rfl ?_
        have z_ := ih (i + 1) (by omega)
        simp only [s_drawn, if_neg c_11, if_pos c_20, if_neg c_42] at z_
        rw [nI_1 i]
        exact z_
    · refine ev_iload_n rfl rfl rfl ?_
      refine ev_aload_n rfl rfl rfl ?_
      refine ev_getR rfl rfl fl_X8_15 rfl rfl rfl rfl ?_
      refine ev_iload rfl rfl rfl ?_
      refine ev_iald rfl rfl rfl (vp_in_nI (by omega) (by decide)) (nI_clamp (by omega)) ?_
      refine ev_iadd rfl rfl ?_
      refine ev_istore_n rfl rfl rfl rfl ?_
      dsimp only [List.set]
      refine ev_goto rfl rfl ?_
      refine ev_iinc (y := 1) rfl rfl rfl (by decide) rfl rfl ?_
      dsimp only [List.set]
      refine ev_goto rfl rfl ?_
      have z_ := ih (i + 1) (by omega)
      simp only [s_drawn, if_neg c_11, if_neg c_20] at z_
      rw [nI_1 i]
      exact z_

set_option maxRecDepth 100000 in
set_option maxHeartbeats 4000000 in
theorem c_drawnBy (L : Nat) (b : Bool) (h : Hp) (m : Nat) (hm0 : m ≤ 12) (hm : h 4 7 = nI m) (c l : Int32) : EvD mi_X8_drawnBy [.ref 4, .int c, .int l] (G0 L b) h (s_drawn h c l m) (h) := by
  refine EvD.of (lo := [some (.ref 4), some (.int c), some (.int l), none, none]) pf_X8_drawnBy ok_X8_drawnBy rfl rfl ?_
  refine ev_iconst (v := 0) rfl rfl (by decide) ?_
  refine ev_istore_n rfl rfl rfl rfl ?_
  dsimp only [List.set]
  refine ev_iconst (v := 0) rfl rfl (by decide) ?_
  refine ev_istore rfl rfl rfl rfl ?_
  dsimp only [List.set]
  exact l_drawnBy L b h m hm0 hm c l m 0 (by omega)

set_option maxRecDepth 100000 in
set_option maxHeartbeats 4000000 in
theorem l_strayOf (L : Nat) (b : Bool) (h : Hp) (m : Nat) (hm0 : m ≤ 12) (hm : h 4 7 = nI m) (c p : Int32) : ∀ t i : Nat, i + t = m → EvQ mi_X8_strayOf 5 [some (.ref 4), some (.int c), some (.int p), some (.int (s_stray h c p i)), some (.int (nI i))] [] (G0 L b) h 0 0 (fun v G' h' => v = some (.int (s_stray h c p m)) ∧ G' = G0 L b ∧ h' = h) := by
  intro t
  induction t with
  | zero =>
    intro i hi
    have hi2 : i = m := by omega
    subst hi2
    refine ev_iload rfl rfl rfl ?_
    refine ev_aload_n rfl rfl rfl ?_
    refine ev_getI rfl rfl fl_X8_35 rfl rfl rfl ?_
    refine ev_icmp_ge rfl rfl (fun c_11 => ?_) (fun z_ => absurd (by rw [hm]; exact Int32.le_refl _) z_)
    refine ev_iload_n rfl rfl rfl ?_
    exact ev_iret rfl rfl rfl (⟨rfl, rfl, rfl⟩)
  | succ t ih =>
    intro i hi
    refine ev_iload rfl rfl rfl ?_
    refine ev_aload_n rfl rfl rfl ?_
    refine ev_getI rfl rfl fl_X8_35 rfl rfl rfl ?_
    refine ev_icmp_ge rfl rfl (fun z_ => absurd z_ (by rw [hm]; exact nI_ge (by omega) (by omega))) (fun c_11 => ?_)
    refine ev_iload_n rfl rfl rfl ?_
    refine ev_iload rfl rfl rfl ?_
    refine ev_ishr rfl rfl ?_
    refine ev_iconst (v := 1) rfl rfl (by decide) ?_
    refine ev_iand rfl rfl ?_
    refine ev_if_eq rfl rfl (fun c_20 => ?_) (fun c_20 => ?_)
    · refine ev_iinc (y := 1) rfl rfl rfl (by decide) rfl rfl ?_
      dsimp only [List.set]
      refine ev_goto rfl rfl ?_
      have z_ := ih (i + 1) (by omega)
      simp only [s_stray, if_neg c_11, if_pos c_20] at z_
      rw [nI_1 i]
      exact z_
    · refine ev_iload_n rfl rfl rfl ?_
      refine ev_aload_n rfl rfl rfl ?_
      refine ev_iload rfl rfl rfl ?_
      refine ev_iload_n rfl rfl rfl ?_
      refine ev_V2D rfl rfl lk_X8_55 vt_X8_offAt rfl rfl rfl rfl rfl (c_offAt _ _ _ _ (by omega) _) ?_
      refine ev_S1D rfl rfl lk_X8_58 st_J9_abs_0f7a4 rfl rfl (c_abs _ _ _) ?_
      refine ev_S2D rfl rfl lk_X8_62 st_J9_max_7cf53 rfl rfl (c_max _ _ _ _) ?_
      refine ev_istore_n rfl rfl rfl rfl ?_
      dsimp only [List.set]
      refine ev_iinc (y := 1) rfl rfl rfl (by decide) rfl rfl ?_
      dsimp only [List.set]
      refine ev_goto rfl rfl ?_
      have z_ := ih (i + 1) (by omega)
      simp only [s_stray, if_neg c_11, if_neg c_20] at z_
      rw [nI_1 i]
      exact z_

set_option maxRecDepth 100000 in
set_option maxHeartbeats 4000000 in
theorem c_strayOf (L : Nat) (b : Bool) (h : Hp) (m : Nat) (hm0 : m ≤ 12) (hm : h 4 7 = nI m) (c p : Int32) : EvD mi_X8_strayOf [.ref 4, .int c, .int p] (G0 L b) h (s_stray h c p m) (h) := by
  refine EvD.of (lo := [some (.ref 4), some (.int c), some (.int p), none, none]) pf_X8_strayOf ok_X8_strayOf rfl rfl ?_
  refine ev_iconst (v := 0) rfl rfl (by decide) ?_
  refine ev_istore_n rfl rfl rfl rfl ?_
  dsimp only [List.set]
  refine ev_iconst (v := 0) rfl rfl (by decide) ?_
  refine ev_istore rfl rfl rfl rfl ?_
  dsimp only [List.set]
  exact l_strayOf L b h m hm0 hm c p m 0 (by omega)

set_option maxRecDepth 100000 in
set_option maxHeartbeats 4000000 in
theorem l_exactAt (L : Nat) (b : Bool) (h : Hp) (m : Nat) (hm0 : m ≤ 12) (hm : h 4 7 = nI m) (p : Int32) : ∀ t i : Nat, i + t = m → EvQ mi_X8_exactAt 4 [some (.ref 4), some (.int p), some (.int (s_exact h p i)), some (.int (nI i))] [] (G0 L b) h 0 0 (fun v G' h' => v = some (.int (s_exact h p m)) ∧ G' = G0 L b ∧ h' = h) := by
  intro t
  induction t with
  | zero =>
    intro i hi
    have hi2 : i = m := by omega
    subst hi2
    refine ev_iload_n rfl rfl rfl ?_
    refine ev_aload_n rfl rfl rfl ?_
    refine ev_getI rfl rfl fl_X8_35 rfl rfl rfl ?_
    refine ev_icmp_ge rfl rfl (fun c_9 => ?_) (fun z_ => absurd (by rw [hm]; exact Int32.le_refl _) z_)
    refine ev_iload_n rfl rfl rfl ?_
    exact ev_iret rfl rfl rfl (⟨rfl, rfl, rfl⟩)
  | succ t ih =>
    intro i hi
    refine ev_iload_n rfl rfl rfl ?_
    refine ev_aload_n rfl rfl rfl ?_
    refine ev_getI rfl rfl fl_X8_35 rfl rfl rfl ?_
    refine ev_icmp_ge rfl rfl (fun z_ => absurd z_ (by rw [hm]; exact nI_ge (by omega) (by omega))) (fun c_9 => ?_)
    refine ev_iload_n rfl rfl rfl ?_
    refine ev_aload_n rfl rfl rfl ?_
    refine ev_iload_n rfl rfl rfl ?_
    refine ev_iload_n rfl rfl rfl ?_
    refine ev_V2D rfl rfl lk_X8_55 vt_X8_offAt rfl rfl rfl rfl rfl (c_offAt _ _ _ _ (by omega) _) ?_
    refine ev_if_ne rfl rfl (fun c_19 => ?_) (fun c_19 => ?_)
    · refine ev_iconst (v := 0) rfl rfl (by decide) ?_
      refine ev_iadd rfl rfl ?_
      refine ev_istore_n rfl rfl rfl rfl ?_
      dsimp only [List.set]
      refine ev_iinc (y := 1) rfl rfl rfl (by decide) rfl rfl ?_
      dsimp only [List.set]
      refine ev_goto rfl rfl ?_
      have z_ := ih (i + 1) (by omega)
      simp only [s_exact, if_neg c_9, if_neg c_19] at z_
      rw [nI_1 i]
      exact z_
    · refine ev_iconst (v := 1) rfl rfl (by decide) ?_
      refine ev_goto rfl rfl ?_
      refine ev_iadd rfl rfl ?_
      refine ev_istore_n rfl rfl rfl rfl ?_
      dsimp only [List.set]
      refine ev_iinc (y := 1) rfl rfl rfl (by decide) rfl rfl ?_
      dsimp only [List.set]
      refine ev_goto rfl rfl ?_
      have z_ := ih (i + 1) (by omega)
      simp only [s_exact, if_neg c_9, if_pos c_19] at z_
      rw [nI_1 i]
      exact z_

set_option maxRecDepth 100000 in
set_option maxHeartbeats 4000000 in
theorem c_exactAt (L : Nat) (b : Bool) (h : Hp) (m : Nat) (hm0 : m ≤ 12) (hm : h 4 7 = nI m) (p : Int32) : EvD mi_X8_exactAt [.ref 4, .int p] (G0 L b) h (s_exact h p m) (h) := by
  refine EvD.of (lo := [some (.ref 4), some (.int p), none, none]) pf_X8_exactAt ok_X8_exactAt rfl rfl ?_
  refine ev_iconst (v := 0) rfl rfl (by decide) ?_
  refine ev_istore_n rfl rfl rfl rfl ?_
  dsimp only [List.set]
  refine ev_iconst (v := 0) rfl rfl (by decide) ?_
  refine ev_istore_n rfl rfl rfl rfl ?_
  dsimp only [List.set]
  exact l_exactAt L b h m hm0 hm p m 0 (by omega)

def k_near1 (h : Hp) (p : Int32) (i : Nat) : Int32 := if h 8 i = 0 then z_max (-100) (z_min 100 (-(h 10 i + o_bent h i p))) else h 9 i
def k_near (h : Hp) (p : Int32) (m : Nat) : Hp := fun i j => if i = 9 ∧ j < m then k_near1 h p j else h i j
theorem k_near_0 (h : Hp) (p : Int32) : k_near h p 0 = h := by
  funext i j
  exact if_neg (fun q => Nat.not_lt_zero _ q.2)
theorem k_near_ne {h : Hp} {p : Int32} {m i j : Nat} (hi : i ≠ 9) : k_near h p m i j = h i j := if_neg (fun q => hi q.1)
theorem k_near_ge {h : Hp} {p : Int32} {m j : Nat} (hj : m ≤ j) : k_near h p m 9 j = h 9 j := if_neg (fun q => Nat.not_lt.mpr hj q.2)
theorem k_near_s (h : Hp) (p : Int32) (m : Nat) : k_near h p (m + 1) = ev_set (k_near h p m) 9 m (k_near1 h p m) := by
  funext i j
  simp only [k_near, ev_set]
  by_cases h1 : i = 9
  · subst h1
    by_cases h2 : j = m
    · subst h2; simp
    · by_cases h3 : j < m
      · simp [h2, h3, Nat.lt_succ_of_lt h3]
      · simp [h2, h3, show ¬ j < m + 1 by omega]
  · simp [h1]
theorem k_near_bent (h : Hp) (p : Int32) (m i : Nat) (q : Int32) : o_bent (k_near h p m) i q = o_bent h i q := by
  unfold o_bent
  rw [k_near_ne (by decide)]

set_option maxRecDepth 100000 in
set_option maxHeartbeats 4000000 in
theorem l_bringNear (L : Nat) (b : Bool) (h : Hp) (m : Nat) (hm0 : m ≤ 12) (hm : h 4 7 = nI m) (p : Int32) : ∀ t i : Nat, i + t = m → EvQ mi_X8_bringNear 2 [some (.ref 4), some (.int p), some (.int (nI i)), none] [] (G0 L b) (k_near h p i) 0 0 (fun v G' h' => v = none ∧ G' = G0 L b ∧ h' = k_near h p m) := by
  intro t
  induction t with
  | zero =>
    intro i hi
    have hi2 : i = m := by omega
    subst hi2
    refine ev_iload_n rfl rfl rfl ?_
    refine ev_aload_n rfl rfl rfl ?_
    refine ev_getI rfl rfl fl_X8_35 rfl rfl rfl ?_
    try simp (disch := omega) only [k_near_ne]
    refine ev_icmp_ge rfl rfl (fun c_7 => ?_) (fun z_ => absurd (by rw [hm]; exact Int32.le_refl _) z_)
    exact ev_vret rfl rfl trivial (⟨rfl, rfl, rfl⟩)
  | succ t ih =>
    intro i hi
    refine ev_iload_n rfl rfl rfl ?_
    refine ev_aload_n rfl rfl rfl ?_
    refine ev_getI rfl rfl fl_X8_35 rfl rfl rfl ?_
    try simp (disch := omega) only [k_near_ne]
    refine ev_icmp_ge rfl rfl (fun z_ => absurd z_ (by rw [hm]; exact nI_ge (by omega) (by omega))) (fun c_7 => ?_)
    refine ev_aload_n rfl rfl rfl ?_
    refine ev_getR rfl rfl fl_X8_21 rfl rfl rfl rfl ?_
    refine ev_iload_n rfl rfl rfl ?_
    refine ev_zald rfl rfl rfl (vp_in_nI (by omega) (by decide)) (nI_clamp (by omega)) ?_
    try simp (disch := omega) only [k_near_ne]
    try simp (disch := omega) only [k_near_ne]
    refine ev_if_ne rfl rfl (fun c_16 => ?_) (fun c_16 => ?_)
    · refine ev_iinc (y := 1) rfl rfl rfl (by decide) rfl rfl ?_
      dsimp only [List.set]
      refine ev_goto rfl rfl ?_
      have z_ := ih (i + 1) (by omega)
      rw [k_near_s, k_near1, if_neg c_16, ev_set_same (k_near_ge (Nat.le_refl i))] at z_
      rw [nI_1 i]
      exact z_
    · refine ev_aload_n rfl rfl rfl ?_
      refine ev_getR rfl rfl fl_X8_28 rfl rfl rfl rfl ?_
      refine ev_iload_n rfl rfl rfl ?_
      refine ev_iald rfl rfl rfl (vp_in_nI (by omega) (by decide)) (nI_clamp (by omega)) ?_
      try simp (disch := omega) only [k_near_ne]
      refine ev_aload_n rfl rfl rfl ?_
      refine ev_iload_n rfl rfl rfl ?_
      refine ev_iload_n rfl rfl rfl ?_
      refine ev_V2D rfl rfl lk_X8_52 vt_X8_bentAt rfl rfl rfl rfl rfl (c_bentAt _ _ _ _ (by omega) _) ?_
      rw [k_near_bent]
      refine ev_iadd rfl rfl ?_
      refine ev_ineg rfl rfl ?_
      refine ev_istore_n rfl rfl rfl rfl ?_
      dsimp only [List.set]
      refine ev_aload_n rfl rfl rfl ?_
      refine ev_getR rfl rfl fl_X8_25 rfl rfl rfl rfl ?_
      refine ev_iload_n rfl rfl rfl ?_
      refine ev_bipush (v := (-100)) rfl rfl (by decide) ?_
      refine ev_bipush (v := 100) rfl rfl (by decide) ?_
      refine ev_iload_n rfl rfl rfl ?_
      refine ev_S2D rfl rfl lk_X8_65 st_J9_min_7cf53 rfl rfl (c_min _ _ _ _) ?_
      refine ev_S2D rfl rfl lk_X8_62 st_J9_max_7cf53 rfl rfl (c_max _ _ _ _) ?_
      refine ev_iast rfl rfl rfl rfl (vp_in_nI (by omega) (by decide)) (nI_clamp (by omega)) ?_
      refine ev_iinc (y := 1) rfl rfl rfl (by decide) rfl rfl ?_
      dsimp only [List.set]
      refine ev_goto rfl rfl ?_
      have z_ := ih (i + 1) (by omega)
      rw [k_near_s, k_near1, if_pos c_16] at z_
      rw [nI_1 i]
      exact EvQ.drop 3 z_

set_option maxRecDepth 100000 in
set_option maxHeartbeats 4000000 in
theorem c_bringNear (L : Nat) (b : Bool) (h : Hp) (m : Nat) (hm0 : m ≤ 12) (hm : h 4 7 = nI m) (p : Int32) : EvU mi_X8_bringNear [.ref 4, .int p] (G0 L b) h (k_near h p m) := by
  refine EvU.of (lo := [some (.ref 4), some (.int p), none, none]) pf_X8_bringNear ok_X8_bringNear rfl rfl ?_
  refine ev_iconst (v := 0) rfl rfl (by decide) ?_
  refine ev_istore_n rfl rfl rfl rfl ?_
  dsimp only [List.set]
  refine EvQ.hp (k_near h p 0) (k_near_0 h p).symm ?_
  exact l_bringNear L b h m hm0 hm p m 0 (by omega)

def h_fl (h : Hp) (a : Nat) (x : Int32) (n : Nat) : Hp := fun i j => if i = a ∧ j < n then x else h i j
theorem h_fl_0 (h : Hp) (a : Nat) (x : Int32) : h_fl h a x 0 = h := by
  funext i j
  exact if_neg (fun q => Nat.not_lt_zero _ q.2)
theorem h_fl_ne {h : Hp} {a n i j : Nat} {x : Int32} (hi : i ≠ a) : h_fl h a x n i j = h i j := if_neg (fun q => hi q.1)
theorem h_fl_s (h : Hp) (a : Nat) (x : Int32) (m : Nat) : h_fl h a x (m + 1) = ev_set (h_fl h a x m) a m x := by
  funext i j
  simp only [h_fl, ev_set]
  by_cases h1 : i = a
  · subst h1
    by_cases h2 : j = m
    · subst h2; simp
    · by_cases h3 : j < m
      · simp [h2, h3, Nat.lt_succ_of_lt h3]
      · simp [h2, h3, show ¬ j < m + 1 by omega]
  · simp [h1]

set_option maxRecDepth 100000 in
set_option maxHeartbeats 4000000 in
theorem l_fill (G : Geo) (h : Hp) (a : Nat) (x : Int32) (m : Nat) (hm0 : m < 2 ^ 30) (ha : Nat.blt 0 a = true) (hz : ev_sh G a = some (.inr (.int, m))) : ∀ t i : Nat, i + t = m → EvQ mi_J7_fill_53178 5 [some (.ref a), some (.int x), some (.int (nI i)), some (.int (nI m))] [] G (h_fl h a x i) 0 0 (fun v G' h' => v = none ∧ G' = G ∧ h' = h_fl h a x m) := by
  intro t
  induction t with
  | zero =>
    intro i hi
    have hi2 : i = m := by omega
    subst hi2
    refine ev_iload_n rfl rfl rfl ?_
    refine ev_iload_n rfl rfl rfl ?_
    refine ev_icmp_ge rfl rfl (fun c_7 => ?_) (fun z_ => absurd (Int32.le_refl _) z_)
    exact ev_vret rfl rfl trivial (⟨rfl, rfl, rfl⟩)
  | succ t ih =>
    intro i hi
    refine ev_iload_n rfl rfl rfl ?_
    refine ev_iload_n rfl rfl rfl ?_
    refine ev_icmp_ge rfl rfl (fun z_ => absurd z_ (nI_ge (by omega) (by omega))) (fun c_7 => ?_)
    refine ev_aload_n rfl rfl rfl ?_
    refine ev_iload_n rfl rfl rfl ?_
    refine ev_iload_n rfl rfl rfl ?_
    refine ev_iast rfl rfl ha hz (vp_in_nI (by omega) (by omega)) (nI_clamp (by omega)) ?_
    refine ev_iinc (y := 1) rfl rfl rfl (by decide) rfl rfl ?_
    dsimp only [List.set]
    refine ev_goto rfl rfl ?_
    have z_ := ih (i + 1) (by omega)
    rw [h_fl_s] at z_
    rw [nI_1 i]
    exact z_

set_option maxRecDepth 100000 in
set_option maxHeartbeats 4000000 in
theorem c_fill (G : Geo) (h : Hp) (a : Nat) (x : Int32) (m : Nat) (hm0 : m < 2 ^ 30) (ha : Nat.blt 0 a = true) (hz : ev_sh G a = some (.inr (.int, m))) : EvU mi_J7_fill_53178 [.ref a, .int x] G h (h_fl h a x m) := by
  refine EvU.of (lo := [some (.ref a), some (.int x), none, none]) pf_J7_fill_53178 ok_J7_fill_53178 rfl rfl ?_
  refine ev_iconst (v := 0) rfl rfl (by decide) ?_
  refine ev_istore_n rfl rfl rfl rfl ?_
  dsimp only [List.set]
  refine ev_aload_n rfl rfl rfl ?_
  refine ev_alen rfl rfl hz ?_
  refine ev_istore_n rfl rfl rfl rfl ?_
  dsimp only [List.set]
  refine EvQ.hp (h_fl h a x 0) (h_fl_0 h a x).symm ?_
  exact l_fill G h a x m hm0 ha hz m 0 (by omega)

