set_option maxRecDepth 100000 in
set_option maxHeartbeats 4000000 in
theorem m_fails (L : Nat) (b : Bool) (h : Hp) (hf : h 63 21 = 0) (f p : Int32) : EvU mi_X10_fails [.ref 63, .int f, .int p] (G0 L b) h (ev_set (ev_set h 63 21 f) 63 22 p) := by
  refine EvU.of (lo := [some (.ref 63), some (.int f), some (.int p)]) pf_X10_fails ok_X10_fails rfl rfl ?_
  refine ev_aload_n rfl rfl rfl ?_
  refine ev_getI rfl rfl fl_X10_191 rfl rfl rfl ?_
  refine ev_if_ne rfl rfl (fun z_ => absurd hf z_) (fun c_4 => ?_)
  refine ev_aload_n rfl rfl rfl ?_
  refine ev_iload_n rfl rfl rfl ?_
  refine ev_putI rfl rfl fl_X10_191 rfl rfl rfl rfl rfl ?_
  refine ev_aload_n rfl rfl rfl ?_
  refine ev_iload_n rfl rfl rfl ?_
  refine ev_putI rfl rfl fl_X10_194 rfl rfl rfl rfl rfl ?_
  exact ev_vret rfl rfl trivial (⟨rfl, rfl, rfl⟩)

set_option maxRecDepth 100000 in
set_option maxHeartbeats 4000000 in
theorem m_wants (L : Nat) (b : Bool) (h : Hp) (hf : h 63 21 = 0) (f : Int32) : EvU mi_X10_wants [.ref 63, .int 0, .int f] (G0 L b) h (ev_set (ev_set h 63 21 f) 63 22 (h 63 18)) := by
  refine EvU.of (lo := [some (.ref 63), some (.int 0), some (.int f)]) pf_X10_wants ok_X10_wants rfl rfl ?_
  refine ev_iload_n rfl rfl rfl ?_
  refine ev_if_ne rfl rfl (fun z_ => absurd (by decide) z_) (fun c_1 => ?_)
  refine ev_aload_n rfl rfl rfl ?_
  refine ev_iload_n rfl rfl rfl ?_
  refine ev_aload_n rfl rfl rfl ?_
  refine ev_getI rfl rfl fl_X10_197 rfl rfl rfl ?_
  refine ev_V2U rfl rfl lk_X10_200 vt_X10_fails rfl rfl rfl rfl rfl (m_fails _ _ _ hf _ _) ?_
  exact ev_vret rfl rfl trivial (⟨rfl, rfl, rfl⟩)

