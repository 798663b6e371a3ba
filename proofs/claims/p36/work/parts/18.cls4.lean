set_option maxRecDepth 100000 in
set_option maxHeartbeats 4000000 in
theorem x_whistle (L : Nat) (b : Bool) (h : Hp) (m : Nat) (hm0 : m ≤ 12) (hm : h 4 7 = nI m) (n d s q : Int32) (hq : q = 0 ∨ q = 1) : EvD mi_X9_whistle [.ref 1, .int n, .int d, .int s, .int q] (G0 L b) h (z_add h n d s) (k_add h m n d s q) := by
  refine EvD.of (lo := [some (.ref 1), some (.int n), some (.int d), some (.int s), some (.int q)]) pf_X9_whistle ok_X9_whistle rfl rfl ?_
  refine ev_aload_n rfl rfl rfl ?_
  refine ev_getR rfl rfl fl_X9_22 rfl rfl rfl rfl ?_
  refine ev_iload_n rfl rfl rfl ?_
  refine ev_iload_n rfl rfl rfl ?_
  refine ev_iload_n rfl rfl rfl ?_
  refine ev_iload rfl rfl rfl ?_
  refine ev_V4D rfl rfl lk_X9_122 vt_X8_add rfl rfl rfl rfl rfl (c_add _ _ _ m hm0 hm _ _ _ _ hq) ?_
  exact ev_iret rfl rfl rfl (⟨rfl, rfl, rfl⟩)

