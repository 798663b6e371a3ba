def r_fire (h : Hp) (v : Int32) : Int32 := if z_wi v 0 9 = 0 then -1 else h 2 2
def k_fire (h : Hp) (n : Nat) (v : Int32) : Hp := if z_wi v 0 9 = 0 then h else ev_set (k_keep h n) 2 2 v
def r_water (h : Hp) (v : Int32) : Int32 := if z_wi v 1 9999 = 0 then -1 else z_min 9999 (h 2 1 + v)
def k_water (h : Hp) (n : Nat) (v : Int32) : Hp := if z_wi v 1 9999 = 0 then h else ev_set (k_keep h n) 2 1 (z_min 9999 (h 2 1 + v))
def r_valve (h : Hp) (v : Int32) : Int32 := if z_wi v 50 200 = 0 then -1 else h 2 3
def k_valve (h : Hp) (n : Nat) (v : Int32) : Hp := if z_wi v 50 200 = 0 then h else ev_set (ev_set (k_keep h n) 2 3 v) 2 0 (z_min (h 2 0) v)
def r_press (h : Hp) (v : Int32) : Int32 := if z_wi v 0 (h 2 3) = 0 then -1 else h 2 0
def k_press (h : Hp) (n : Nat) (v : Int32) : Hp := if z_wi v 0 (h 2 3) = 0 then h else ev_set (k_keep h n) 2 0 v

set_option maxRecDepth 100000 in
set_option maxHeartbeats 4000000 in
theorem x_fire (L : Nat) (b : Bool) (h : Hp) (n : Nat) (hn : n < 10) (hx : h 11 1 = nI n) (v : Int32) : EvD mi_X9_fire [.ref 1, .int v] (G0 L b) h (r_fire h v) (k_fire h n v) := by
  refine EvD.of (lo := [some (.ref 1), some (.int v), none]) pf_X9_fire ok_X9_fire rfl rfl ?_
  refine ev_iload_n rfl rfl rfl ?_
  refine ev_iconst (v := 0) rfl rfl (by decide) ?_
  refine ev_bipush (v := 9) rfl rfl (by decide) ?_
  refine ev_S3D rfl rfl lk_X9_75 st_X9_isWithin rfl rfl (c_isWithin _ _ _ _ _) ?_
  refine ev_if_ne rfl rfl (fun c_7 => ?_) (fun c_7 => ?_)
  · refine ev_aload_n rfl rfl rfl ?_
    refine ev_getR rfl rfl fl_X9_29 rfl rfl rfl rfl ?_
    refine ev_aload_n rfl rfl rfl ?_
    refine ev_getR rfl rfl fl_X9_10 rfl rfl rfl rfl ?_
    refine ev_aload_n rfl rfl rfl ?_
    refine ev_getR rfl rfl fl_X9_22 rfl rfl rfl rfl ?_
    refine ev_V2U rfl rfl lk_X9_79 vt_X0_keep rfl rfl rfl rfl rfl (c_keep _ _ _ n hn hx) ?_
    refine ev_aload_n rfl rfl rfl ?_
    refine ev_getR rfl rfl fl_X9_10 rfl rfl rfl rfl ?_
    refine ev_getI rfl rfl fl_X9_83 rfl rfl rfl ?_
    try simp (disch := omega) only [ev_rd1, ev_rd2, ev_rd3, ev_rc1, k_keep_ne]
    refine ev_istore_n rfl rfl rfl rfl ?_
    dsimp only [List.set]
    refine ev_aload_n rfl rfl rfl ?_
    refine ev_getR rfl rfl fl_X9_10 rfl rfl rfl rfl ?_
    refine ev_iload_n rfl rfl rfl ?_
    refine ev_putI rfl rfl fl_X9_83 rfl rfl rfl rfl rfl ?_
    refine ev_iload_n rfl rfl rfl ?_
    exact ev_iret rfl rfl rfl (⟨congrArg (fun z => some (Value.int z)) (by simp only [r_fire, if_neg c_7]), rfl, by simp only [k_fire, if_neg c_7]⟩)
  · refine ev_iconst (v := (-1)) rfl rfl (by decide) ?_
    exact ev_iret rfl rfl rfl (⟨congrArg (fun z => some (Value.int z)) (by simp only [r_fire, if_pos c_7]), rfl, by simp only [k_fire, if_pos c_7]⟩)

set_option maxRecDepth 100000 in
set_option maxHeartbeats 4000000 in
theorem x_water (L : Nat) (b : Bool) (h : Hp) (n : Nat) (hn : n < 10) (hx : h 11 1 = nI n) (v : Int32) : EvD mi_X9_water [.ref 1, .int v] (G0 L b) h (r_water h v) (k_water h n v) := by
  refine EvD.of (lo := [some (.ref 1), some (.int v)]) pf_X9_water ok_X9_water rfl rfl ?_
  refine ev_iload_n rfl rfl rfl ?_
  refine ev_iconst (v := 1) rfl rfl (by decide) ?_
  refine ev_sipush (v := 9999) rfl rfl (by decide) ?_
  refine ev_S3D rfl rfl lk_X9_75 st_X9_isWithin rfl rfl (c_isWithin _ _ _ _ _) ?_
  refine ev_if_ne rfl rfl (fun c_8 => ?_) (fun c_8 => ?_)
  · refine ev_aload_n rfl rfl rfl ?_
    refine ev_getR rfl rfl fl_X9_29 rfl rfl rfl rfl ?_
    refine ev_aload_n rfl rfl rfl ?_
    refine ev_getR rfl rfl fl_X9_10 rfl rfl rfl rfl ?_
    refine ev_aload_n rfl rfl rfl ?_
    refine ev_getR rfl rfl fl_X9_22 rfl rfl rfl rfl ?_
    refine ev_V2U rfl rfl lk_X9_79 vt_X0_keep rfl rfl rfl rfl rfl (c_keep _ _ _ n hn hx) ?_
    refine ev_aload_n rfl rfl rfl ?_
    refine ev_getR rfl rfl fl_X9_10 rfl rfl rfl rfl ?_
    refine ev_sipush (v := 9999) rfl rfl (by decide) ?_
    refine ev_aload_n rfl rfl rfl ?_
    refine ev_getR rfl rfl fl_X9_10 rfl rfl rfl rfl ?_
    refine ev_getI rfl rfl fl_X9_87 rfl rfl rfl ?_
    try simp (disch := omega) only [ev_rd1, ev_rd2, ev_rd3, ev_rc1, k_keep_ne]
    refine ev_iload_n rfl rfl rfl ?_
    refine ev_iadd rfl rfl ?_
    refine ev_S2D rfl rfl lk_X9_90 st_J9_min_7cf53 rfl rfl (c_min _ _ _ _) ?_
    refine ev_putI rfl rfl fl_X9_87 rfl rfl rfl rfl rfl ?_
    refine ev_aload_n rfl rfl rfl ?_
    refine ev_getR rfl rfl fl_X9_10 rfl rfl rfl rfl ?_
    refine ev_getI rfl rfl fl_X9_87 rfl rfl rfl ?_
    try simp (disch := omega) only [ev_rd1, ev_rd2, ev_rd3, ev_rc1, k_keep_ne]
    exact ev_iret rfl rfl rfl (⟨congrArg (fun z => some (Value.int z)) (by simp only [r_water, if_neg c_8]), rfl, by simp only [k_water, if_neg c_8]⟩)
  · refine ev_iconst (v := (-1)) rfl rfl (by decide) ?_
    exact ev_iret rfl rfl rfl (⟨congrArg (fun z => some (Value.int z)) (by simp only [r_water, if_pos c_8]), rfl, by simp only [k_water, if_pos c_8]⟩)

set_option maxRecDepth 100000 in
set_option maxHeartbeats 4000000 in
theorem x_valve (L : Nat) (b : Bool) (h : Hp) (n : Nat) (hn : n < 10) (hx : h 11 1 = nI n) (v : Int32) : EvD mi_X9_valve [.ref 1, .int v] (G0 L b) h (r_valve h v) (k_valve h n v) := by
  refine EvD.of (lo := [some (.ref 1), some (.int v), none]) pf_X9_valve ok_X9_valve rfl rfl ?_
  refine ev_iload_n rfl rfl rfl ?_
  refine ev_bipush (v := 50) rfl rfl (by decide) ?_
  refine ev_sipush (v := 200) rfl rfl (by decide) ?_
  refine ev_S3D rfl rfl lk_X9_75 st_X9_isWithin rfl rfl (c_isWithin _ _ _ _ _) ?_
  refine ev_if_ne rfl rfl (fun c_9 => ?_) (fun c_9 => ?_)
  · refine ev_aload_n rfl rfl rfl ?_
    refine ev_getR rfl rfl fl_X9_29 rfl rfl rfl rfl ?_
    refine ev_aload_n rfl rfl rfl ?_
    refine ev_getR rfl rfl fl_X9_10 rfl rfl rfl rfl ?_
    refine ev_aload_n rfl rfl rfl ?_
    refine ev_getR rfl rfl fl_X9_22 rfl rfl rfl rfl ?_
    refine ev_V2U rfl rfl lk_X9_79 vt_X0_keep rfl rfl rfl rfl rfl (c_keep _ _ _ n hn hx) ?_
    refine ev_aload_n rfl rfl rfl ?_
    refine ev_getR rfl rfl fl_X9_10 rfl rfl rfl rfl ?_
    refine ev_getI rfl rfl fl_X9_96 rfl rfl rfl ?_
    try simp (disch := omega) only [ev_rd1, ev_rd2, ev_rd3, ev_rc1, k_keep_ne]
    refine ev_istore_n rfl rfl rfl rfl ?_
    dsimp only [List.set]
    refine ev_aload_n rfl rfl rfl ?_
    refine ev_getR rfl rfl fl_X9_10 rfl rfl rfl rfl ?_
    refine ev_iload_n rfl rfl rfl ?_
    refine ev_putI rfl rfl fl_X9_96 rfl rfl rfl rfl rfl ?_
    refine ev_aload_n rfl rfl rfl ?_
    refine ev_getR rfl rfl fl_X9_10 rfl rfl rfl rfl ?_
    refine ev_aload_n rfl rfl rfl ?_
    refine ev_getR rfl rfl fl_X9_10 rfl rfl rfl rfl ?_
    refine ev_getI rfl rfl fl_X9_99 rfl rfl rfl ?_
    try simp (disch := omega) only [ev_rd1, ev_rd2, ev_rd3, ev_rc1, k_keep_ne]
    refine ev_iload_n rfl rfl rfl ?_
    refine ev_S2D rfl rfl lk_X9_90 st_J9_min_7cf53 rfl rfl (c_min _ _ _ _) ?_
    refine ev_putI rfl rfl fl_X9_99 rfl rfl rfl rfl rfl ?_
    refine ev_iload_n rfl rfl rfl ?_
    exact ev_iret rfl rfl rfl (⟨congrArg (fun z => some (Value.int z)) (by simp only [r_valve, if_neg c_9]), rfl, by simp only [k_valve, if_neg c_9]⟩)
  · refine ev_iconst (v := (-1)) rfl rfl (by decide) ?_
    exact ev_iret rfl rfl rfl (⟨congrArg (fun z => some (Value.int z)) (by simp only [r_valve, if_pos c_9]), rfl, by simp only [k_valve, if_pos c_9]⟩)

set_option maxRecDepth 100000 in
set_option maxHeartbeats 4000000 in
theorem x_pressure (L : Nat) (b : Bool) (h : Hp) (n : Nat) (hn : n < 10) (hx : h 11 1 = nI n) (v : Int32) : EvD mi_X9_pressure [.ref 1, .int v] (G0 L b) h (r_press h v) (k_press h n v) := by
  refine EvD.of (lo := [some (.ref 1), some (.int v), none]) pf_X9_pressure ok_X9_pressure rfl rfl ?_
  refine ev_iload_n rfl rfl rfl ?_
  refine ev_iconst (v := 0) rfl rfl (by decide) ?_
  refine ev_aload_n rfl rfl rfl ?_
  refine ev_getR rfl rfl fl_X9_10 rfl rfl rfl rfl ?_
  refine ev_getI rfl rfl fl_X9_96 rfl rfl rfl ?_
  refine ev_S3D rfl rfl lk_X9_75 st_X9_isWithin rfl rfl (c_isWithin _ _ _ _ _) ?_
  refine ev_if_ne rfl rfl (fun c_12 => ?_) (fun c_12 => ?_)
  · refine ev_aload_n rfl rfl rfl ?_
    refine ev_getR rfl rfl fl_X9_29 rfl rfl rfl rfl ?_
    refine ev_aload_n rfl rfl rfl ?_
    refine ev_getR rfl rfl fl_X9_10 rfl rfl rfl rfl ?_
    refine ev_aload_n rfl rfl rfl ?_
    refine ev_getR rfl rfl fl_X9_22 rfl rfl rfl rfl ?_
    refine ev_V2U rfl rfl lk_X9_79 vt_X0_keep rfl rfl rfl rfl rfl (c_keep _ _ _ n hn hx) ?_
    refine ev_aload_n rfl rfl rfl ?_
    refine ev_getR rfl rfl fl_X9_10 rfl rfl rfl rfl ?_
    refine ev_getI rfl rfl fl_X9_99 rfl rfl rfl ?_
    try simp (disch := omega) only [ev_rd1, ev_rd2, ev_rd3, ev_rc1, k_keep_ne]
    refine ev_istore_n rfl rfl rfl rfl ?_
    dsimp only [List.set]
    refine ev_aload_n rfl rfl rfl ?_
    refine ev_getR rfl rfl fl_X9_10 rfl rfl rfl rfl ?_
    refine ev_iload_n rfl rfl rfl ?_
    refine ev_putI rfl rfl fl_X9_99 rfl rfl rfl rfl rfl ?_
    refine ev_iload_n rfl rfl rfl ?_
    exact ev_iret rfl rfl rfl (⟨congrArg (fun z => some (Value.int z)) (by simp only [r_press, if_neg c_12]), rfl, by simp only [k_press, if_neg c_12]⟩)
  · refine ev_iconst (v := (-1)) rfl rfl (by decide) ?_
    exact ev_iret rfl rfl rfl (⟨congrArg (fun z => some (Value.int z)) (by simp only [r_press, if_pos c_12]), rfl, by simp only [k_press, if_pos c_12]⟩)

set_option maxRecDepth 100000 in
set_option maxHeartbeats 4000000 in
theorem x_end (L : Nat) (b : Bool) (h : Hp) (v : Int32) : EvD mi_X9_end [.ref 1, .int v] (G0 L b) h (if z_wi v 0 (h 23 1) = 0 then -1 else h 23 1) (if z_wi v 0 (h 23 1) = 0 then h else ev_set h 23 1 v) := by
  refine EvD.of (lo := [some (.ref 1), some (.int v), none]) pf_X9_end ok_X9_end rfl rfl ?_
  refine ev_iload_n rfl rfl rfl ?_
  refine ev_iconst (v := 0) rfl rfl (by decide) ?_
  refine ev_aload_n rfl rfl rfl ?_
  refine ev_getR rfl rfl fl_X9_36 rfl rfl rfl rfl ?_
  refine ev_getI rfl rfl fl_X9_173 rfl rfl rfl ?_
  refine ev_S3D rfl rfl lk_X9_75 st_X9_isWithin rfl rfl (c_isWithin _ _ _ _ _) ?_
  refine ev_if_ne rfl rfl (fun c_12 => ?_) (fun c_12 => ?_)
  · refine ev_aload_n rfl rfl rfl ?_
    refine ev_getR rfl rfl fl_X9_36 rfl rfl rfl rfl ?_
    refine ev_getI rfl rfl fl_X9_173 rfl rfl rfl ?_
    try simp (disch := omega) only [ev_rd1, ev_rd2, ev_rd3, ev_rc1, k_keep_ne]
    refine ev_istore_n rfl rfl rfl rfl ?_
    dsimp only [List.set]
    refine ev_aload_n rfl rfl rfl ?_
    refine ev_getR rfl rfl fl_X9_36 rfl rfl rfl rfl ?_
    refine ev_iload_n rfl rfl rfl ?_
    refine ev_putI rfl rfl fl_X9_173 rfl rfl rfl rfl rfl ?_
    refine ev_iload_n rfl rfl rfl ?_
    exact ev_iret rfl rfl rfl (⟨congrArg (fun z => some (Value.int z)) (by simp only [if_neg c_12]), rfl, by simp only [if_neg c_12]⟩)
  · refine ev_iconst (v := (-1)) rfl rfl (by decide) ?_
    exact ev_iret rfl rfl rfl (⟨congrArg (fun z => some (Value.int z)) (by simp only [if_pos c_12]), rfl, by simp only [if_pos c_12]⟩)

set_option maxRecDepth 100000 in
set_option maxHeartbeats 4000000 in
theorem x_whistle (L : Nat) (b : Bool) (h : Hp) (m : Nat) (hm0 : m ≤ 12) (hm : h 4 7 = nI m) (n d s q : Int32) (hq : q = 0 ∨ q = 1) : EvD mi_X9_whistle [.ref 1, .int n, .int d, .int s, .int q] (G0 L b) h (z_add h n d s) (k_add h m n d s q) := by
  refine EvD.of (lo := [some (.ref 1), some (.int n), some (.int d), some (.int s), some (.int q)]) pf_X9_whistle ok_X9_whistle rfl rfl ?_
  refine ev_aload_n rfl rfl rfl ?_
  refine ev_getR rfl rfl fl_X9_22 rfl rfl rfl rfl ?_
  refine ev_iload_n rfl rfl rfl ?_
  refine ev_iload_n rfl rfl rfl ?_
  refine ev_iload_n rfl rfl rfl ?_
  refine ev_iload rfl rfl rfl ?_
  refine ev_V4D rfl rfl lk_X9_122 vt_X8_add rfl rfl rfl rfl rfl (c_add _ _ _ m hm0 hm _ _ _ _ hq) ?_
  exact ev_iret rfl rfl rfl (⟨rfl, rfl, rfl⟩)

