set_option maxRecDepth 100000 in
set_option maxHeartbeats 4000000 in
theorem x_end (L : Nat) (b : Bool) (h : Hp) (v : Int32) : EvD mi_X9_end [.ref 1, .int v] (G0 L b) h (if z_wi v 0 (h 23 1) = 0 then -1 else h 23 1) (if z_wi v 0 (h 23 1) = 0 then h else ev_set h 23 1 v) := by
  refine EvD.of (lo := [some (.ref 1), some (.int v), none]) pf_X9_end ok_X9_end rfl rfl ?_
  refine ev_iload_n rfl rfl rfl ?_
  refine ev_iconst (v := 0) rfl rfl (by decide) ?_
  refine ev_aload_n rfl rfl rfl ?_
  refine ev_getR rfl rfl fl_X9_36 rfl rfl rfl rfl ?_
  refine ev_getI rfl rfl fl_X9_173 rfl rfl rfl ?_
  refine ev_S3D rfl rfl lk_X9_75 st_X9_isWithin rfl rfl (c_isWithin _ _ _ _ _) ?_
  refine ev_if_ne rfl rfl (fun c_12 => ?_) (fun c_12 => ?_)
  · refine ev_aload_n rfl rfl rfl ?_
    refine ev_getR rfl rfl fl_X9_36 rfl rfl rfl rfl ?_
    refine ev_getI rfl rfl fl_X9_173 rfl rfl rfl ?_
    try simp (disch := omega) only [ev_rd1, ev_rd2, ev_rd3, ev_rc1, k_keep_ne]
    refine ev_istore_n rfl rfl rfl rfl ?_
    dsimp only [List.set]
    refine ev_aload_n rfl rfl rfl ?_
    refine ev_getR rfl rfl fl_X9_36 rfl rfl rfl rfl ?_
    refine ev_iload_n rfl rfl rfl ?_
    refine ev_putI rfl rfl fl_X9_173 rfl rfl rfl rfl rfl ?_
    refine ev_iload_n rfl rfl rfl ?_
    exact ev_iret rfl rfl rfl (⟨congrArg (fun z => some (Value.int z)) (by simp only [if_neg c_12]), rfl, by simp only [if_neg c_12]⟩)
  · refine ev_iconst (v := (-1)) rfl rfl (by decide) ?_
    exact ev_iret rfl rfl rfl (⟨congrArg (fun z => some (Value.int z)) (by simp only [if_pos c_12]), rfl, by simp only [if_pos c_12]⟩)

