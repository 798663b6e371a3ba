theorem z_vin {x y : Int32} {m M : Nat} (hx : x = nI m) (hm : m ≤ M) (hM : M < 2 ^ 31) (hy : y = nI M) (hlt : x < y) : vp_in x M := by
  subst hx
  subst hy
  exact vp_in_nI ((nI_ltI (by omega) hM).mp hlt) hM
theorem z_cl {x : Int32} {m M : Nat} (hx : x = nI m) (hm : m ≤ M) (hM : M < 2 ^ 31) : x.toNatClampNeg = m := by
  subst hx
  exact nI_clamp (by omega)
def z_noth (x : Int32) : Int32 := if x = -1 then 1 else 0
def z_fas (s l lane : Int32) : Int32 := if z_noth s = 0 then (if l = lane then 0 else 3) else 1
def z_cut (l v : Int32) : Int32 := if l = 0 then v.toInt8.toInt32 else if l = 1 then v.toInt16.toInt32 else v

set_option maxRecDepth 100000 in
set_option maxHeartbeats 4000000 in
theorem c_X5_has (L : Nat) (b : Bool) (h : Hp) (k : Int32) : EvD mi_X5_has [.ref 55, .int k] (G0 L b) h (z_has k 4) (h) := by
  refine EvD.of (lo := [some (.ref 55), some (.int k)]) pf_X5_has ok_X5_has rfl rfl ?_
  refine ev_iconst (v := 0) rfl rfl (by decide) ?_
  refine ev_iload_n rfl rfl rfl ?_
  refine ev_icmp_gt rfl rfl (fun c_2 => ?_) (fun c_2 => ?_)
  · refine ev_iconst (v := 0) rfl rfl (by decide) ?_
    exact ev_iret rfl rfl rfl (⟨congrArg (fun z => some (Value.int z)) (by simp only [z_has, if_pos c_2]), rfl, rfl⟩)
  · refine ev_iload_n rfl rfl rfl ?_
    refine ev_iconst (v := 4) rfl rfl (by decide) ?_
    refine ev_icmp_ge rfl rfl (fun c_7 => ?_) (fun c_7 => ?_)
    · refine ev_iconst (v := 0) rfl rfl (by decide) ?_
      exact ev_iret rfl rfl rfl (⟨congrArg (fun z => some (Value.int z)) (by simp only [z_has, if_neg c_2, if_pos c_7]), rfl, rfl⟩)
    · refine ev_iconst (v := 1) rfl rfl (by decide) ?_
      refine ev_goto rfl rfl ?_
      exact ev_iret rfl rfl rfl (⟨congrArg (fun z => some (Value.int z)) (by simp only [z_has, if_neg c_2, if_neg c_7]), rfl, rfl⟩)

set_option maxRecDepth 100000 in
set_option maxHeartbeats 4000000 in
theorem c_isLane (L : Nat) (b : Bool) (h : Hp) (k : Int32) : EvD mi_X5_isLane [.ref 55, .int k] (G0 L b) h (z_wi k 0 2) (h) := by
  refine EvD.of (lo := [some (.ref 55), some (.int k)]) pf_X5_isLane ok_X5_isLane rfl rfl ?_
  refine ev_iconst (v := 0) rfl rfl (by decide) ?_
  refine ev_iload_n rfl rfl rfl ?_
  refine ev_icmp_gt rfl rfl (fun c_2 => ?_) (fun c_2 => ?_)
  · refine ev_iconst (v := 0) rfl rfl (by decide) ?_
    exact ev_iret rfl rfl rfl (⟨congrArg (fun z => some (Value.int z)) (by simp only [z_wi, if_pos c_2]), rfl, rfl⟩)
  · refine ev_iload_n rfl rfl rfl ?_
    refine ev_iconst (v := 2) rfl rfl (by decide) ?_
    refine ev_icmp_gt rfl rfl (fun c_7 => ?_) (fun c_7 => ?_)
    · refine ev_iconst (v := 0) rfl rfl (by decide) ?_
      exact ev_iret rfl rfl rfl (⟨congrArg (fun z => some (Value.int z)) (by simp only [z_wi, if_neg c_2, if_pos c_7]), rfl, rfl⟩)
    · refine ev_iconst (v := 1) rfl rfl (by decide) ?_
      refine ev_goto rfl rfl ?_
      exact ev_iret rfl rfl rfl (⟨congrArg (fun z => some (Value.int z)) (by simp only [z_wi, if_neg c_2, if_neg c_7]), rfl, rfl⟩)

set_option maxRecDepth 100000 in
set_option maxHeartbeats 4000000 in
theorem c_isNothing (L : Nat) (b : Bool) (h : Hp) (n : Nat) (hn : n < 4)  : EvD mi_X5_isNothing [.ref 55, .int (nI n)] (G0 L b) h (z_noth (h 62 n)) (h) := by
  refine EvD.of (lo := [some (.ref 55), some (.int (nI n))]) pf_X5_isNothing ok_X5_isNothing rfl rfl ?_
  refine ev_aload_n rfl rfl rfl ?_
  refine ev_getR rfl rfl fl_X5_18 rfl rfl rfl rfl ?_
  refine ev_iload_n rfl rfl rfl ?_
  refine ev_iald rfl rfl rfl (vp_in_nI (by omega) (by decide)) (nI_clamp (by omega)) ?_
  refine ev_iconst (v := (-1)) rfl rfl (by decide) ?_
  refine ev_icmp_ne rfl rfl (fun c_7 => ?_) (fun c_7 => ?_)
  · refine ev_iconst (v := 0) rfl rfl (by decide) ?_
    exact ev_iret rfl rfl rfl (⟨congrArg (fun z => some (Value.int z)) (by simp only [z_noth, if_neg c_7]), rfl, rfl⟩)
  · refine ev_iconst (v := 1) rfl rfl (by decide) ?_
    refine ev_goto rfl rfl ?_
    exact ev_iret rfl rfl rfl (⟨congrArg (fun z => some (Value.int z)) (by simp only [z_noth, if_pos c_7]), rfl, rfl⟩)

set_option maxRecDepth 100000 in
set_option maxHeartbeats 4000000 in
theorem c_hasCell (L : Nat) (b : Bool) (h : Hp) (n : Nat) (hn : n < 4) (i : Int32) : EvD mi_X5_hasCell [.ref 55, .int (nI n), .int i] (G0 L b) h (z_has i (h 62 n)) (h) := by
  refine EvD.of (lo := [some (.ref 55), some (.int (nI n)), some (.int i)]) pf_X5_hasCell ok_X5_hasCell rfl rfl ?_
  refine ev_iconst (v := 0) rfl rfl (by decide) ?_
  refine ev_iload_n rfl rfl rfl ?_
  refine ev_icmp_gt rfl rfl (fun c_2 => ?_) (fun c_2 => ?_)
  · refine ev_iconst (v := 0) rfl rfl (by decide) ?_
    exact ev_iret rfl rfl rfl (⟨congrArg (fun z => some (Value.int z)) (by simp only [z_has, if_pos c_2]), rfl, rfl⟩)
  · refine ev_iload_n rfl rfl rfl ?_
    refine ev_aload_n rfl rfl rfl ?_
    refine ev_getR rfl rfl fl_X5_18 rfl rfl rfl rfl ?_
    refine ev_iload_n rfl rfl rfl ?_
    refine ev_iald rfl rfl rfl (vp_in_nI (by omega) (by decide)) (nI_clamp (by omega)) ?_
    refine ev_icmp_ge rfl rfl (fun c_12 => ?_) (fun c_12 => ?_)
    · refine ev_iconst (v := 0) rfl rfl (by decide) ?_
      exact ev_iret rfl rfl rfl (⟨congrArg (fun z => some (Value.int z)) (by simp only [z_has, if_neg c_2, if_pos c_12]), rfl, rfl⟩)
    · refine ev_iconst (v := 1) rfl rfl (by decide) ?_
      refine ev_goto rfl rfl ?_
      exact ev_iret rfl rfl rfl (⟨congrArg (fun z => some (Value.int z)) (by simp only [z_has, if_neg c_2, if_neg c_12]), rfl, rfl⟩)

set_option maxRecDepth 100000 in
set_option maxHeartbeats 4000000 in
theorem c_faultAs (L : Nat) (b : Bool) (h : Hp) (n : Nat) (hn : n < 4) (l : Int32) : EvD mi_X5_faultAs [.ref 55, .int (nI n), .int l] (G0 L b) h (z_fas (h 62 n) (h 61 n) l) (h) := by
  refine EvD.of (lo := [some (.ref 55), some (.int (nI n)), some (.int l)]) pf_X5_faultAs ok_X5_faultAs rfl rfl ?_
  refine ev_aload_n rfl rfl rfl ?_
  refine ev_iload_n rfl rfl rfl ?_
  refine ev_V1D rfl rfl lk_X5_21 vt_X5_isNothing rfl rfl rfl rfl rfl (c_isNothing _ _ _ _ (by omega)) ?_
  refine ev_if_eq rfl rfl (fun c_5 => ?_) (fun c_5 => ?_)
  · refine ev_aload_n rfl rfl rfl ?_
    refine ev_getR rfl rfl fl_X5_14 rfl rfl rfl rfl ?_
    refine ev_iload_n rfl rfl rfl ?_
    refine ev_iald rfl rfl rfl (vp_in_nI (by omega) (by decide)) (nI_clamp (by omega)) ?_
    refine ev_iload_n rfl rfl rfl ?_
    refine ev_icmp_ne rfl rfl (fun c_17 => ?_) (fun c_17 => ?_)
    · refine ev_iconst (v := 3) rfl rfl (by decide) ?_
      exact ev_iret rfl rfl rfl (⟨congrArg (fun z => some (Value.int z)) (by simp only [z_fas, if_pos c_5, if_neg c_17]), rfl, rfl⟩)
    · refine ev_iconst (v := 0) rfl rfl (by decide) ?_
      refine ev_goto rfl rfl ?_
      exact ev_iret rfl rfl rfl (⟨congrArg (fun z => some (Value.int z)) (by simp only [z_fas, if_pos c_5, if_pos c_17]), rfl, rfl⟩)
  · refine ev_iconst (v := 1) rfl rfl (by decide) ?_
    exact ev_iret rfl rfl rfl (⟨congrArg (fun z => some (Value.int z)) (by simp only [z_fas, if_neg c_5]), rfl, rfl⟩)

def k_renew (h : Hp) (n : Nat) (l z : Int32) : Hp := ev_set (ev_set (h_fl h (57 + n) 0 60) 61 n l) 62 n z
set_option maxRecDepth 100000 in
set_option maxHeartbeats 4000000 in
theorem c_renew (L : Nat) (b : Bool) (h : Hp) (n : Nat) (hn : n < 4) (l z : Int32) : EvU mi_X5_renew [.ref 55, .int (nI n), .int l, .int z] (G0 L b) h (k_renew h n l z) := by
  refine EvU.of (lo := [some (.ref 55), some (.int (nI n)), some (.int l), some (.int z)]) pf_X5_renew ok_X5_renew rfl rfl ?_
  refine ev_aload_n rfl rfl rfl ?_
  refine ev_getR rfl rfl fl_X5_11 rfl rfl rfl rfl ?_
  refine ev_iload_n rfl rfl rfl ?_
  refine ev_aald (y := 57 + n) (j := n) rfl rfl rfl rfl (vp_in_nI (by omega) (by decide)) (nI_clamp (by omega)) (g_sht L b hn).1 ?_
  refine ev_iconst (v := 0) rfl rfl (by decide) ?_
  refine ev_S2U rfl rfl lk_X5_25 st_J7_fill_53178 rfl rfl (c_fill _ _ _ _ 60 (by decide) (g_pos 57 n rfl) (g_sht L b hn).2) ?_
  refine ev_aload_n rfl rfl rfl ?_
  refine ev_getR rfl rfl fl_X5_14 rfl rfl rfl rfl ?_
  refine ev_iload_n rfl rfl rfl ?_
  refine ev_iload_n rfl rfl rfl ?_
  refine ev_iast rfl rfl rfl rfl (vp_in_nI (by omega) (by decide)) (nI_clamp (by omega)) ?_
  refine ev_aload_n rfl rfl rfl ?_
  refine ev_getR rfl rfl fl_X5_18 rfl rfl rfl rfl ?_
  refine ev_iload_n rfl rfl rfl ?_
  refine ev_iload_n rfl rfl rfl ?_
  refine ev_iast rfl rfl rfl rfl (vp_in_nI (by omega) (by decide)) (nI_clamp (by omega)) ?_
  exact ev_vret rfl rfl trivial (⟨rfl, rfl, rfl⟩)

set_option maxRecDepth 100000 in
set_option maxHeartbeats 4000000 in
theorem c_put (L : Nat) (b : Bool) (h : Hp) (n : Nat) (hn : n < 4) (i v : Int32) (hi : vp_in i 60) : EvU mi_X5_put [.ref 55, .int (nI n), .int i, .int v] (G0 L b) h (ev_set h (57 + n) i.toNatClampNeg (z_cut (h 61 n) v)) := by
  refine EvU.of (lo := [some (.ref 55), some (.int (nI n)), some (.int i), some (.int v)]) pf_X5_put ok_X5_put rfl rfl ?_
  refine ev_aload_n rfl rfl rfl ?_
  refine ev_getR rfl rfl fl_X5_14 rfl rfl rfl rfl ?_
  refine ev_iload_n rfl rfl rfl ?_
  refine ev_iald rfl rfl rfl (vp_in_nI (by omega) (by decide)) (nI_clamp (by omega)) ?_
  refine ev_if_ne rfl rfl (fun c_6 => ?_) (fun c_6 => ?_)
  · refine ev_aload_n rfl rfl rfl ?_
    refine ev_getR rfl rfl fl_X5_11 rfl rfl rfl rfl ?_
    refine ev_iload_n rfl rfl rfl ?_
    refine ev_aald (y := 57 + n) (j := n) rfl rfl rfl rfl (vp_in_nI (by omega) (by decide)) (nI_clamp (by omega)) (g_sht L b hn).1 ?_
    refine ev_iload_n rfl rfl rfl ?_
    refine ev_aload_n rfl rfl rfl ?_
    refine ev_getR rfl rfl fl_X5_14 rfl rfl rfl rfl ?_
    refine ev_iload_n rfl rfl rfl ?_
    refine ev_iald rfl rfl rfl (vp_in_nI (by omega) (by decide)) (nI_clamp (by omega)) ?_
    refine ev_iconst (v := 1) rfl rfl (by decide) ?_
    refine ev_icmp_ne rfl rfl (fun c_36 => ?_) (fun c_36 => ?_)
    · refine ev_iload_n rfl rfl rfl ?_
      refine ev_iast rfl rfl (g_pos 57 n rfl) (g_sht L b hn).2 hi rfl ?_
      exact ev_vret rfl rfl trivial (⟨rfl, rfl, by simp only [z_cut, if_neg c_6, if_neg c_36]⟩)
    · refine ev_iload_n rfl rfl rfl ?_
      refine ev_i2s rfl rfl ?_
      refine ev_goto rfl rfl ?_
      refine ev_iast rfl rfl (g_pos 57 n rfl) (g_sht L b hn).2 hi rfl ?_
      exact ev_vret rfl rfl trivial (⟨rfl, rfl, by simp only [z_cut, if_neg c_6, if_pos c_36]⟩)
  · refine ev_aload_n rfl rfl rfl ?_
    refine ev_getR rfl rfl fl_X5_11 rfl rfl rfl rfl ?_
    refine ev_iload_n rfl rfl rfl ?_
    refine ev_aald (y := 57 + n) (j := n) rfl rfl rfl rfl (vp_in_nI (by omega) (by decide)) (nI_clamp (by omega)) (g_sht L b hn).1 ?_
    refine ev_iload_n rfl rfl rfl ?_
    refine ev_iload_n rfl rfl rfl ?_
    refine ev_i2b rfl rfl ?_
    refine ev_iast rfl rfl (g_pos 57 n rfl) (g_sht L b hn).2 hi rfl ?_
    refine ev_goto rfl rfl ?_
    exact ev_vret rfl rfl trivial (⟨rfl, rfl, by simp only [z_cut, if_pos c_6]⟩)

def z_add (h : Hp) (n d s : Int32) : Int32 := if z_wi n 0 3600 = 0 then -1 else if z_wi d 1 9 = 0 then -1 else if z_wi s 0 20 = 0 then -1 else if h 4 7 < 12 then h 4 7 + 1 - 1 else -3
def k_add (h : Hp) (m : Nat) (n d s q : Int32) : Hp := if z_wi n 0 3600 = 0 then h else if z_wi d 1 9 = 0 then h else if z_wi s 0 20 = 0 then h else if h 4 7 < 12 then ev_set (ev_set (ev_set (ev_set (ev_set h 5 m n) 6 m d) 7 m s) 8 m q) 4 7 (h 4 7 + 1) else h

set_option maxRecDepth 100000 in
set_option maxHeartbeats 4000000 in
theorem c_add (L : Nat) (b : Bool) (h : Hp) (m : Nat) (hm0 : m ≤ 12) (hm : h 4 7 = nI m) (n d s q : Int32) (hq : q = 0 ∨ q = 1) : EvD mi_X8_add [.ref 4, .int n, .int d, .int s, .int q] (G0 L b) h (z_add h n d s) (k_add h m n d s q) := by
  refine EvD.of (lo := [some (.ref 4), some (.int n), some (.int d), some (.int s), some (.int q)]) pf_X8_add ok_X8_add rfl rfl ?_
  refine ev_iload_n rfl rfl rfl ?_
  refine ev_iconst (v := 0) rfl rfl (by decide) ?_
  refine ev_sipush (v := 3600) rfl rfl (by decide) ?_
  refine ev_SN3D rfl rfl lk_X8_38 st_X9_isWithin rfl rfl (c_isWithin _ _ _ _ _) ?_
  refine ev_if_eq rfl rfl (fun c_8 => ?_) (fun c_8 => ?_)
  · refine ev_iconst (v := (-1)) rfl rfl (by decide) ?_
    exact ev_iret rfl rfl rfl (⟨congrArg (fun z => some (Value.int z)) (by simp only [z_add, if_pos c_8]), rfl, by simp only [k_add, if_pos c_8]⟩)
  · refine ev_iload_n rfl rfl rfl ?_
    refine ev_iconst (v := 1) rfl rfl (by decide) ?_
    refine ev_bipush (v := 9) rfl rfl (by decide) ?_
    refine ev_SN3D rfl rfl lk_X8_38 st_X9_isWithin rfl rfl (c_isWithin _ _ _ _ _) ?_
    refine ev_if_eq rfl rfl (fun c_18 => ?_) (fun c_18 => ?_)
    · refine ev_iconst (v := (-1)) rfl rfl (by decide) ?_
      exact ev_iret rfl rfl rfl (⟨congrArg (fun z => some (Value.int z)) (by simp only [z_add, if_neg c_8, if_pos c_18]), rfl, by simp only [k_add, if_neg c_8, if_pos c_18]⟩)
    · refine ev_iload_n rfl rfl rfl ?_
      refine ev_iconst (v := 0) rfl rfl (by decide) ?_
      refine ev_bipush (v := 20) rfl rfl (by decide) ?_
      refine ev_SN3D rfl rfl lk_X8_38 st_X9_isWithin rfl rfl (c_isWithin _ _ _ _ _) ?_
      refine ev_if_ne rfl rfl (fun c_28 => ?_) (fun c_28 => ?_)
      · refine ev_aload_n rfl rfl rfl ?_
        refine ev_getI rfl rfl fl_X8_35 rfl rfl rfl ?_
        try simp (disch := omega) only [ev_rd1, ev_rd2, ev_rd3, ev_rc1, k_keep_ne]
        refine ev_bipush (v := 12) rfl rfl (by decide) ?_
        refine ev_icmp_lt rfl rfl (fun c_39 => ?_) (fun c_39 => ?_)
        · refine ev_aload_n rfl rfl rfl ?_
          refine ev_getR rfl rfl fl_X8_9 rfl rfl rfl rfl ?_
          refine ev_aload_n rfl rfl rfl ?_
          refine ev_getI rfl rfl fl_X8_35 rfl rfl rfl ?_
          try simp (disch := omega) only [ev_rd1, ev_rd2, ev_rd3, ev_rc1, k_keep_ne]
          refine ev_iload_n rfl rfl rfl ?_
          refine ev_iast rfl rfl rfl rfl (z_vin hm hm0 (by decide) rfl c_39) (z_cl hm hm0 (M := 12) (by decide)) ?_
          refine ev_aload_n rfl rfl rfl ?_
          refine ev_getR rfl rfl fl_X8_15 rfl rfl rfl rfl ?_
          refine ev_aload_n rfl rfl rfl ?_
          refine ev_getI rfl rfl fl_X8_35 rfl rfl rfl ?_
          try simp (disch := omega) only [ev_rd1, ev_rd2, ev_rd3, ev_rc1, k_keep_ne]
          refine ev_iload_n rfl rfl rfl ?_
          refine ev_iast rfl rfl rfl rfl (z_vin hm hm0 (by decide) rfl c_39) (z_cl hm hm0 (M := 12) (by decide)) ?_
          refine ev_aload_n rfl rfl rfl ?_
          refine ev_getR rfl rfl fl_X8_18 rfl rfl rfl rfl ?_
          refine ev_aload_n rfl rfl rfl ?_
          refine ev_getI rfl rfl fl_X8_35 rfl rfl rfl ?_
          try simp (disch := omega) only [ev_rd1, ev_rd2, ev_rd3, ev_rc1, k_keep_ne]
          refine ev_iload_n rfl rfl rfl ?_
          refine ev_iast rfl rfl rfl rfl (z_vin hm hm0 (by decide) rfl c_39) (z_cl hm hm0 (M := 12) (by decide)) ?_
          refine ev_aload_n rfl rfl rfl ?_
          refine ev_getR rfl rfl fl_X8_21 rfl rfl rfl rfl ?_
          refine ev_aload_n rfl rfl rfl ?_
          refine ev_getI rfl rfl fl_X8_35 rfl rfl rfl ?_
          try simp (disch := omega) only [ev_rd1, ev_rd2, ev_rd3, ev_rc1, k_keep_ne]
          refine ev_iload rfl rfl rfl ?_
          refine ev_zast rfl rfl rfl rfl (z_vin hm hm0 (by decide) rfl c_39) (z_cl hm hm0 (M := 12) (by decide)) hq ?_
          refine ev_aload_n rfl rfl rfl ?_
          refine ev_dup rfl rfl rfl ?_
          refine ev_getI rfl rfl fl_X8_35 rfl rfl rfl ?_
          try simp (disch := omega) only [ev_rd1, ev_rd2, ev_rd3, ev_rc1, k_keep_ne]
          refine ev_iconst (v := 1) rfl rfl (by decide) ?_
          refine ev_iadd rfl rfl ?_
          refine ev_putI rfl rfl fl_X8_35 rfl rfl rfl rfl rfl ?_
          refine ev_aload_n rfl rfl rfl ?_
          refine ev_getI rfl rfl fl_X8_35 rfl rfl rfl ?_
          try simp (disch := omega) only [ev_rd1, ev_rd2, ev_rd3, ev_rc1, k_keep_ne]
          refine ev_iconst (v := 1) rfl rfl (by decide) ?_
          refine ev_isub rfl rfl ?_
          exact ev_iret rfl rfl rfl (⟨congrArg (fun z => some (Value.int z)) (by simp only [z_add, if_neg c_8, if_neg c_18, if_neg c_28, if_pos c_39]), rfl, by simp only [k_add, if_neg c_8, if_neg c_18, if_neg c_28, if_pos c_39]⟩)
        · refine ev_bipush (v := (-3)) rfl rfl (by decide) ?_
          exact ev_iret rfl rfl rfl (⟨congrArg (fun z => some (Value.int z)) (by simp only [z_add, if_neg c_8, if_neg c_18, if_neg c_28, if_neg c_39]), rfl, by simp only [k_add, if_neg c_8, if_neg c_18, if_neg c_28, if_neg c_39]⟩)
      · refine ev_iconst (v := (-1)) rfl rfl (by decide) ?_
        exact ev_iret rfl rfl rfl (⟨congrArg (fun z => some (Value.int z)) (by simp only [z_add, if_neg c_8, if_neg c_18, if_pos c_28]), rfl, by simp only [k_add, if_neg c_8, if_neg c_18, if_pos c_28]⟩)

