def z_noth (x : Int32) : Int32 := if x = -1 then 1 else 0
def z_cut (l v : Int32) : Int32 := if l = 0 then v.toInt8.toInt32 else if l = 1 then v.toInt16.toInt32 else v

set_option maxRecDepth 100000 in
set_option maxHeartbeats 4000000 in
theorem c_X5_has (L : Nat) (b : Bool) (h : Hp) (k : Int32) : EvD mi_X5_has [.ref 55, .int k] (G0 L b) h (z_has k 4) (h) := by
  refine EvD.of (lo := [some (.ref 55), some (.int k)]) pf_X5_has ok_X5_has rfl rfl ?_
  refine ev_iconst (v := 0) rfl rfl (by decide) ?_
  refine ev_iload_n rfl rfl rfl ?_
  refine ev_icmp_gt rfl rfl (fun c_2 => ?_) (fun c_2 => ?_)
  · refine ev_iconst (v := 0) rfl rfl (by decide) ?_
    exact ev_iret rfl rfl rfl (⟨congrArg (fun z => some (Value.int z)) (by simp only [z_has, if_pos c_2]), rfl, rfl⟩)
  · refine ev_iload_n rfl rfl rfl ?_
    refine ev_iconst (v := 4) rfl rfl (by decide) ?_
    refine ev_icmp_ge rfl rfl (fun c_7 => ?_) (fun c_7 => ?_)
    · refine ev_iconst (v := 0) rfl rfl (by decide) ?_
      exact ev_iret rfl rfl rfl (⟨congrArg (fun z => some (Value.int z)) (by simp only [z_has, if_neg c_2, if_pos c_7]), rfl, rfl⟩)
    · refine ev_iconst (v := 1) rfl rfl (by decide) ?_
      refine ev_goto rfl rfl ?_
      exact ev_iret rfl rfl rfl (⟨congrArg (fun z => some (Value.int z)) (by simp only [z_has, if_neg c_2, if_neg c_7]), rfl, rfl⟩)

set_option maxRecDepth 100000 in
set_option maxHeartbeats 4000000 in
theorem c_isLane (L : Nat) (b : Bool) (h : Hp) (k : Int32) : EvD mi_X5_isLane [.ref 55, .int k] (G0 L b) h (z_wi k 0 2) (h) := by
  refine EvD.of (lo := [some (.ref 55), some (.int k)]) pf_X5_isLane ok_X5_isLane rfl rfl ?_
  refine ev_iconst (v := 0) rfl rfl (by decide) ?_
  refine ev_iload_n rfl rfl rfl ?_
  refine ev_icmp_gt rfl rfl (fun c_2 => ?_) (fun c_2 => ?_)
  · refine ev_iconst (v := 0) rfl rfl (by decide) ?_
    exact ev_iret rfl rfl rfl (⟨congrArg (fun z => some (Value.int z)) (by simp only [z_wi, if_pos c_2]), rfl, rfl⟩)
  · refine ev_iload_n rfl rfl rfl ?_
    refine ev_iconst (v := 2) rfl rfl (by decide) ?_
    refine ev_icmp_gt rfl rfl (fun c_7 => ?_) (fun c_7 => ?_)
    · refine ev_iconst (v := 0) rfl rfl (by decide) ?_
      exact ev_iret rfl rfl rfl (⟨congrArg (fun z => some (Value.int z)) (by simp only [z_wi, if_neg c_2, if_pos c_7]), rfl, rfl⟩)
    · refine ev_iconst (v := 1) rfl rfl (by decide) ?_
      refine ev_goto rfl rfl ?_
      exact ev_iret rfl rfl rfl (⟨congrArg (fun z => some (Value.int z)) (by simp only [z_wi, if_neg c_2, if_neg c_7]), rfl, rfl⟩)

set_option maxRecDepth 100000 in
set_option maxHeartbeats 4000000 in
theorem c_isNothing (L : Nat) (b : Bool) (h : Hp) (n : Nat) (hn : n < 4)  : EvD mi_X5_isNothing [.ref 55, .int (nI n)] (G0 L b) h (z_noth (h 62 n)) (h) := by
  refine EvD.of (lo := [some (.ref 55), some (.int (nI n))]) pf_X5_isNothing ok_X5_isNothing rfl rfl ?_
  refine ev_aload_n rfl rfl rfl ?_
  refine ev_getR rfl rfl fl_X5_18 rfl rfl rfl rfl ?_
  refine ev_iload_n rfl rfl rfl ?_
  refine ev_iald rfl rfl rfl (vp_in_nI (by omega) (by decide)) (nI_clamp (by omega)) ?_
  refine ev_iconst (v := (-1)) rfl rfl (by decide) ?_
  refine ev_icmp_ne rfl rfl (fun c_7 => ?_) (fun c_7 => ?_)
  · refine ev_iconst (v := 0) rfl rfl (by decide) ?_
    exact ev_iret rfl rfl rfl (⟨congrArg (fun z => some (Value.int z)) (by simp only [z_noth, if_neg c_7]), rfl, rfl⟩)
  · refine ev_iconst (v := 1) rfl rfl (by decide) ?_
    refine ev_goto rfl rfl ?_
    exact ev_iret rfl rfl rfl (⟨congrArg (fun z => some (Value.int z)) (by simp only [z_noth, if_pos c_7]), rfl, rfl⟩)

set_option maxRecDepth 100000 in
set_option maxHeartbeats 4000000 in
theorem c_hasCell (L : Nat) (b : Bool) (h : Hp) (n : Nat) (hn : n < 4) (i : Int32) : EvD mi_X5_hasCell [.ref 55, .int (nI n), .int i] (G0 L b) h (z_has i (h 62 n)) (h) := by
  refine EvD.of (lo := [some (.ref 55), some (.int (nI n)), some (.int i)]) pf_X5_hasCell ok_X5_hasCell rfl rfl ?_
  refine ev_iconst (v := 0) rfl rfl (by decide) ?_
  refine ev_iload_n rfl rfl rfl ?_
  refine ev_icmp_gt rfl rfl (fun c_2 => ?_) (fun c_2 => ?_)
  · refine ev_iconst (v := 0) rfl rfl (by decide) ?_
    exact ev_iret rfl rfl rfl (⟨congrArg (fun z => some (Value.int z)) (by simp only [z_has, if_pos c_2]), rfl, rfl⟩)
  · refine ev_iload_n rfl rfl rfl ?_
    refine ev_aload_n rfl rfl rfl ?_
    refine ev_getR rfl rfl fl_X5_18 rfl rfl rfl rfl ?_
    refine ev_iload_n rfl rfl rfl ?_
    refine ev_iald rfl rfl rfl (vp_in_nI (by omega) (by decide)) (nI_clamp (by omega)) ?_
    refine ev_icmp_ge rfl rfl (fun c_12 => ?_) (fun c_12 => ?_)
    · refine ev_iconst (v := 0) rfl rfl (by decide) ?_
      exact ev_iret rfl rfl rfl (⟨congrArg (fun z => some (Value.int z)) (by simp only [z_has, if_neg c_2, if_pos c_12]), rfl, rfl⟩)
    · refine ev_iconst (v := 1) rfl rfl (by decide) ?_
      refine ev_goto rfl rfl ?_
      exact ev_iret rfl rfl rfl (⟨congrArg (fun z => some (Value.int z)) (by simp only [z_has, if_neg c_2, if_neg c_12]), rfl, rfl⟩)

def k_renew (h : Hp) (n : Nat) (l z : Int32) : Hp := ev_set (ev_set (h_fl h (57 + n) 0 60) 61 n l) 62 n z
set_option maxRecDepth 100000 in
set_option maxHeartbeats 4000000 in
theorem c_renew (L : Nat) (b : Bool) (h : Hp) (n : Nat) (hn : n < 4) (l z : Int32) : EvU mi_X5_renew [.ref 55, .int (nI n), .int l, .int z] (G0 L b) h (k_renew h n l z) := by
  refine EvU.of (lo := [some (.ref 55), some (.int (nI n)), some (.int l), some (.int z)]) pf_X5_renew ok_X5_renew rfl rfl ?_
  refine ev_aload_n rfl rfl rfl ?_
  refine ev_getR rfl rfl fl_X5_11 rfl rfl rfl rfl ?_
  refine ev_iload_n rfl rfl rfl ?_
  refine ev_aald (y := 57 + n) (j := n) rfl rfl rfl rfl (vp_in_nI (by omega) (by decide)) (nI_clamp (by omega)) (g_sht L b hn).1 ?_
  refine ev_iconst (v := 0) rfl rfl (by decide) ?_
  refine ev_S2U rfl rfl lk_X5_25 st_J7_fill_53178 rfl rfl (c_fill _ _ _ _ 60 (by decide) (g_pos 57 n rfl) (g_sht L b hn).2) ?_
  refine ev_aload_n rfl rfl rfl ?_
  refine ev_getR rfl rfl fl_X5_14 rfl rfl rfl rfl ?_
  refine ev_iload_n rfl rfl rfl ?_
  refine ev_iload_n rfl rfl rfl ?_
  refine ev_iast rfl rfl rfl rfl (vp_in_nI (by omega) (by decide)) (nI_clamp (by omega)) ?_
  refine ev_aload_n rfl rfl rfl ?_
  refine ev_getR rfl rfl fl_X5_18 rfl rfl rfl rfl ?_
  refine ev_iload_n rfl rfl rfl ?_
  refine ev_iload_n rfl rfl rfl ?_
  refine ev_iast rfl rfl rfl rfl (vp_in_nI (by omega) (by decide)) (nI_clamp (by omega)) ?_
  exact ev_vret rfl rfl trivial (⟨rfl, rfl, rfl⟩)

set_option maxRecDepth 100000 in
set_option maxHeartbeats 4000000 in
theorem c_put (L : Nat) (b : Bool) (h : Hp) (n : Nat) (hn : n < 4) (i v : Int32) (hi : vp_in i 60) : EvU mi_X5_put [.ref 55, .int (nI n), .int i, .int v] (G0 L b) h (ev_set h (57 + n) i.toNatClampNeg (z_cut (h 61 n) v)) := by
  refine EvU.of (lo := [some (.ref 55), some (.int (nI n)), some (.int i), some (.int v)]) pf_X5_put ok_X5_put rfl rfl ?_
  refine ev_aload_n rfl rfl rfl ?_
  refine ev_getR rfl rfl fl_X5_14 rfl rfl rfl rfl ?_
  refine ev_iload_n rfl rfl rfl ?_
  refine ev_iald rfl rfl rfl (vp_in_nI (by omega) (by decide)) (nI_clamp (by omega)) ?_
  refine ev_if_ne rfl rfl (fun c_6 => ?_) (fun c_6 => ?_)
  · refine ev_aload_n rfl rfl rfl ?_
    refine ev_getR rfl rfl fl_X5_11 rfl rfl rfl rfl ?_
    refine ev_iload_n rfl rfl rfl ?_
    refine ev_aald (y := 57 + n) (j := n) rfl rfl rfl rfl (vp_in_nI (by omega) (by decide)) (nI_clamp (by omega)) (g_sht L b hn).1 ?_
    refine ev_iload_n rfl rfl rfl ?_
    refine ev_aload_n rfl rfl rfl ?_
    refine ev_getR rfl rfl fl_X5_14 rfl rfl rfl rfl ?_
    refine ev_iload_n rfl rfl rfl ?_
    refine ev_iald rfl rfl rfl (vp_in_nI (by omega) (by decide)) (nI_clamp (by omega)) ?_
    refine ev_iconst (v := 1) rfl rfl (by decide) ?_
    refine ev_icmp_ne rfl rfl (fun c_36 => ?_) (fun c_36 => ?_)
    · refine ev_iload_n rfl rfl rfl ?_
      refine ev_iast rfl rfl (g_pos 57 n rfl) (g_sht L b hn).2 hi rfl ?_
      exact ev_vret rfl rfl trivial (⟨rfl, rfl, by simp only [z_cut, if_neg c_6, if_neg c_36]⟩)
    · refine ev_iload_n rfl rfl rfl ?_
      refine ev_i2s rfl rfl ?_
      refine ev_goto rfl rfl ?_
      refine ev_iast rfl rfl (g_pos 57 n rfl) (g_sht L b hn).2 hi rfl ?_
      exact ev_vret rfl rfl trivial (⟨rfl, rfl, by simp only [z_cut, if_neg c_6, if_pos c_36]⟩)
  · refine ev_aload_n rfl rfl rfl ?_
    refine ev_getR rfl rfl fl_X5_11 rfl rfl rfl rfl ?_
    refine ev_iload_n rfl rfl rfl ?_
    refine ev_aald (y := 57 + n) (j := n) rfl rfl rfl rfl (vp_in_nI (by omega) (by decide)) (nI_clamp (by omega)) (g_sht L b hn).1 ?_
    refine ev_iload_n rfl rfl rfl ?_
    refine ev_iload_n rfl rfl rfl ?_
    refine ev_i2b rfl rfl ?_
    refine ev_iast rfl rfl (g_pos 57 n rfl) (g_sht L b hn).2 hi rfl ?_
    refine ev_goto rfl rfl ?_
    exact ev_vret rfl rfl trivial (⟨rfl, rfl, by simp only [z_cut, if_pos c_6]⟩)

