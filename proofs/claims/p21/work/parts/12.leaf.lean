def z_in (v a b : Int64) : Int32 := if lg_cmp v a < 0 then 0 else if 0 < lg_cmp v b then 0 else 1
def z_wi (v a b : Int32) : Int32 := if v < a then 0 else if b < v then 0 else 1
def z_max (x y : Int32) : Int32 := if x < y then y else x
def z_min (x y : Int32) : Int32 := if y < x then y else x
def z_abs (x : Int32) : Int32 := if 0 ≤ x then x else -x
def z_fd (x y : Int32) : Int32 := if 0 ≤ x ^^^ y then x / y else if x / y * y = x then x / y else x / y - 1
def z_dn (x y : Int32) : Int32 := if 0 ≤ x - x / y * y then x / y else x / y - 1
def z_sz (x : Int32) : Int32 := if 0 ≤ x then x else -x

set_option maxRecDepth 100000 in
set_option maxHeartbeats 4000000 in
theorem c_isWithin (G : Geo) (h : Hp) (v a b : Int32) : EvD mi_X9_isWithin [.int v, .int a, .int b] G h (z_wi v a b) (h) := by
  refine EvD.of (lo := [some (.int v), some (.int a), some (.int b)]) pf_X9_isWithin ok_X9_isWithin rfl rfl ?_
  refine ev_iload_n rfl rfl rfl ?_
  refine ev_iload_n rfl rfl rfl ?_
  refine ev_icmp_gt rfl rfl (fun c_2 => ?_) (fun c_2 => ?_)
  · refine ev_iconst (v := 0) rfl rfl (by decide) ?_
    exact ev_iret rfl rfl rfl (⟨congrArg (fun z => some (Value.int z)) (by simp only [z_wi, if_pos c_2]), rfl, rfl⟩)
  · refine ev_iload_n rfl rfl rfl ?_
    refine ev_iload_n rfl rfl rfl ?_
    refine ev_icmp_gt rfl rfl (fun c_7 => ?_) (fun c_7 => ?_)
    · refine ev_iconst (v := 0) rfl rfl (by decide) ?_
      exact ev_iret rfl rfl rfl (⟨congrArg (fun z => some (Value.int z)) (by simp only [z_wi, if_neg c_2, if_pos c_7]), rfl, rfl⟩)
    · refine ev_iconst (v := 1) rfl rfl (by decide) ?_
      refine ev_goto rfl rfl ?_
      exact ev_iret rfl rfl rfl (⟨congrArg (fun z => some (Value.int z)) (by simp only [z_wi, if_neg c_2, if_neg c_7]), rfl, rfl⟩)

theorem z_wi_b (v a b : Int32) : narrow .boolean (.int (z_wi v a b)) = .int (z_wi v a b) := by
  unfold z_wi
  split
  · rfl
  · split <;> rfl
set_option maxRecDepth 100000 in
set_option maxHeartbeats 4000000 in
theorem c_in (G : Geo) (h : Hp) (v a b : Int64) : EvD mi_X10_in [.long v, .long a, .long b] G h (z_in v a b) (h) := by
  refine EvD.of (lo := [some (.long v), none, some (.long a), none, some (.long b), none]) pf_X10_in ok_X10_in rfl rfl ?_
  refine ev_lload_n rfl rfl rfl ?_
  refine ev_lload_n rfl rfl rfl ?_
  refine ev_lcmp rfl rfl ?_
  refine ev_if_lt rfl rfl (fun c_3 => ?_) (fun c_3 => ?_)
  · refine ev_iconst (v := 0) rfl rfl (by decide) ?_
    exact ev_iret rfl rfl rfl (⟨congrArg (fun z => some (Value.int z)) (by simp only [z_in, if_pos c_3]), rfl, rfl⟩)
  · refine ev_lload_n rfl rfl rfl ?_
    refine ev_lload rfl rfl rfl ?_
    refine ev_lcmp rfl rfl ?_
    refine ev_if_gt rfl rfl (fun c_10 => ?_) (fun c_10 => ?_)
    · refine ev_iconst (v := 0) rfl rfl (by decide) ?_
      exact ev_iret rfl rfl rfl (⟨congrArg (fun z => some (Value.int z)) (by simp only [z_in, if_neg c_3, if_pos c_10]), rfl, rfl⟩)
    · refine ev_iconst (v := 1) rfl rfl (by decide) ?_
      refine ev_goto rfl rfl ?_
      exact ev_iret rfl rfl rfl (⟨congrArg (fun z => some (Value.int z)) (by simp only [z_in, if_neg c_3, if_neg c_10]), rfl, rfl⟩)

set_option maxRecDepth 100000 in
set_option maxHeartbeats 4000000 in
theorem c_max (G : Geo) (h : Hp) (x y : Int32) : EvD mi_J9_max_7cf53 [.int x, .int y] G h (z_max x y) (h) := by
  refine EvD.of (lo := [some (.int x), some (.int y)]) pf_J9_max_7cf53 ok_J9_max_7cf53 rfl rfl ?_
  refine ev_iload_n rfl rfl rfl ?_
  refine ev_iload_n rfl rfl rfl ?_
  refine ev_icmp_lt rfl rfl (fun c_2 => ?_) (fun c_2 => ?_)
  · refine ev_iload_n rfl rfl rfl ?_
    exact ev_iret rfl rfl rfl (⟨congrArg (fun z => some (Value.int z)) (by simp only [z_max, if_pos c_2]), rfl, rfl⟩)
  · refine ev_iload_n rfl rfl rfl ?_
    refine ev_goto rfl rfl ?_
    exact ev_iret rfl rfl rfl (⟨congrArg (fun z => some (Value.int z)) (by simp only [z_max, if_neg c_2]), rfl, rfl⟩)

set_option maxRecDepth 100000 in
set_option maxHeartbeats 4000000 in
theorem c_min (G : Geo) (h : Hp) (x y : Int32) : EvD mi_J9_min_7cf53 [.int x, .int y] G h (z_min x y) (h) := by
  refine EvD.of (lo := [some (.int x), some (.int y)]) pf_J9_min_7cf53 ok_J9_min_7cf53 rfl rfl ?_
  refine ev_iload_n rfl rfl rfl ?_
  refine ev_iload_n rfl rfl rfl ?_
  refine ev_icmp_gt rfl rfl (fun c_2 => ?_) (fun c_2 => ?_)
  · refine ev_iload_n rfl rfl rfl ?_
    exact ev_iret rfl rfl rfl (⟨congrArg (fun z => some (Value.int z)) (by simp only [z_min, if_pos c_2]), rfl, rfl⟩)
  · refine ev_iload_n rfl rfl rfl ?_
    refine ev_goto rfl rfl ?_
    exact ev_iret rfl rfl rfl (⟨congrArg (fun z => some (Value.int z)) (by simp only [z_min, if_neg c_2]), rfl, rfl⟩)

set_option maxRecDepth 100000 in
set_option maxHeartbeats 4000000 in
theorem c_abs (G : Geo) (h : Hp) (x : Int32) : EvD mi_J9_abs_0f7a4 [.int x] G h (z_abs x) (h) := by
  refine EvD.of (lo := [some (.int x)]) pf_J9_abs_0f7a4 ok_J9_abs_0f7a4 rfl rfl ?_
  refine ev_iload_n rfl rfl rfl ?_
  refine ev_if_ge rfl rfl (fun c_1 => ?_) (fun c_1 => ?_)
  · refine ev_iload_n rfl rfl rfl ?_
    exact ev_iret rfl rfl rfl (⟨congrArg (fun z => some (Value.int z)) (by simp only [z_abs, if_pos c_1]), rfl, rfl⟩)
  · refine ev_iload_n rfl rfl rfl ?_
    refine ev_ineg rfl rfl ?_
    refine ev_goto rfl rfl ?_
    exact ev_iret rfl rfl rfl (⟨congrArg (fun z => some (Value.int z)) (by simp only [z_abs, if_neg c_1]), rfl, rfl⟩)

set_option maxRecDepth 100000 in
set_option maxHeartbeats 4000000 in
theorem c_floorDiv (G : Geo) (h : Hp) (x y : Int32) (hy : ¬ y = 0) : EvD mi_J9_floorDiv_7cf53 [.int x, .int y] G h (z_fd x y) (h) := by
  refine EvD.of (lo := [some (.int x), some (.int y), none]) pf_J9_floorDiv_7cf53 ok_J9_floorDiv_7cf53 rfl rfl ?_
  refine ev_iload_n rfl rfl rfl ?_
  refine ev_iload_n rfl rfl rfl ?_
  refine ev_idiv rfl rfl hy ?_
  refine ev_istore_n rfl rfl rfl rfl ?_
  dsimp only [List.set]
  refine ev_iload_n rfl rfl rfl ?_
  refine ev_iload_n rfl rfl rfl ?_
  refine ev_ixor rfl rfl ?_
  refine ev_if_ge rfl rfl (fun c_7 => ?_) (fun c_7 => ?_)
  · refine ev_iload_n rfl rfl rfl ?_
    exact ev_iret rfl rfl rfl (⟨congrArg (fun z => some (Value.int z)) (by simp only [z_fd, if_pos c_7]), rfl, rfl⟩)
  · refine ev_iload_n rfl rfl rfl ?_
    refine ev_iload_n rfl rfl rfl ?_
    refine ev_imul rfl rfl ?_
    refine ev_iload_n rfl rfl rfl ?_
    refine ev_icmp_eq rfl rfl (fun c_14 => ?_) (fun c_14 => ?_)
    · refine ev_iload_n rfl rfl rfl ?_
      exact ev_iret rfl rfl rfl (⟨congrArg (fun z => some (Value.int z)) (by simp only [z_fd, if_neg c_7, if_pos c_14]), rfl, rfl⟩)
    · refine ev_iload_n rfl rfl rfl ?_
      refine ev_iconst (v := 1) rfl rfl (by decide) ?_
      refine ev_isub rfl rfl ?_
      exact ev_iret rfl rfl rfl (⟨congrArg (fun z => some (Value.int z)) (by simp only [z_fd, if_neg c_7, if_neg c_14]), rfl, rfl⟩)

set_option maxRecDepth 100000 in
set_option maxHeartbeats 4000000 in
theorem c_down (G : Geo) (h : Hp) (x y : Int32) (hy : ¬ y = 0) : EvD mi_X10_down [.int x, .int y] G h (z_dn x y) (h) := by
  refine EvD.of (lo := [some (.int x), some (.int y), none]) pf_X10_down ok_X10_down rfl rfl ?_
  refine ev_iload_n rfl rfl rfl ?_
  refine ev_iload_n rfl rfl rfl ?_
  refine ev_idiv rfl rfl hy ?_
  refine ev_istore_n rfl rfl rfl rfl ?_
  dsimp only [List.set]
  refine ev_iload_n rfl rfl rfl ?_
  refine ev_iload_n rfl rfl rfl ?_
  refine ev_irem rfl rfl hy ?_
  refine ev_if_ge rfl rfl (fun c_7 => ?_) (fun c_7 => ?_)
  · refine ev_iload_n rfl rfl rfl ?_
    exact ev_iret rfl rfl rfl (⟨congrArg (fun z => some (Value.int z)) (by simp only [z_dn, if_pos c_7]), rfl, rfl⟩)
  · refine ev_iload_n rfl rfl rfl ?_
    refine ev_iconst (v := 1) rfl rfl (by decide) ?_
    refine ev_isub rfl rfl ?_
    refine ev_goto rfl rfl ?_
    exact ev_iret rfl rfl rfl (⟨congrArg (fun z => some (Value.int z)) (by simp only [z_dn, if_neg c_7]), rfl, rfl⟩)

set_option maxRecDepth 100000 in
set_option maxHeartbeats 4000000 in
theorem c_size (G : Geo) (h : Hp) (x : Int32) : EvD mi_X10_size [.int x] G h (z_sz x) (h) := by
  refine EvD.of (lo := [some (.int x)]) pf_X10_size ok_X10_size rfl rfl ?_
  refine ev_iload_n rfl rfl rfl ?_
  refine ev_if_ge rfl rfl (fun c_1 => ?_) (fun c_1 => ?_)
  · refine ev_iload_n rfl rfl rfl ?_
    exact ev_iret rfl rfl rfl (⟨congrArg (fun z => some (Value.int z)) (by simp only [z_sz, if_pos c_1]), rfl, rfl⟩)
  · refine ev_iload_n rfl rfl rfl ?_
    refine ev_ineg rfl rfl ?_
    refine ev_goto rfl rfl ?_
    exact ev_iret rfl rfl rfl (⟨congrArg (fun z => some (Value.int z)) (by simp only [z_sz, if_neg c_1]), rfl, rfl⟩)

