set_option maxRecDepth 100000 in
set_option maxHeartbeats 4000000 in
theorem c_misTune (L : Nat) (b : Bool) (h : Hp) (hB : Bx h) (t : Int32) : EvD mi_X10_isTune [.ref 63, .int t] (G0 L b) h (z_has t (h 63 23)) (h) := by
  refine EvD.of (lo := [some (.ref 63), some (.int t)]) pf_X10_isTune ok_X10_isTune rfl rfl ?_
  refine ev_iload_n rfl rfl rfl ?_
  refine ev_i2l rfl rfl ?_
  refine ev_lconst (v := 0) rfl rfl rfl ?_
  refine ev_aload_n rfl rfl rfl ?_
  refine ev_getI rfl rfl fl_X10_257 rfl rfl rfl ?_
  refine ev_iconst (v := 1) rfl rfl (by decide) ?_
  refine ev_isub rfl rfl ?_
  refine ev_i2l rfl rfl ?_
  refine ev_S3D rfl rfl lk_X10_124 st_X10_in rfl rfl (c_inw _ _ _ (0) (h 63 23 - 1) (by decide) rfl) ?_
  rw [z_wi_has ((show B (h 63 23) 0 6 from hB 63 23).mono (by decide) (by decide))]
  exact ev_iret rfl rfl (z_has_b _ _) (⟨rfl, rfl, rfl⟩)

theorem or_eq {h : Hp} {n : Nat} : ∀ m, (∀ i, i < m → h (30 + n) i = h 74 (24 * n + i)) → s_or h (30 + n) m = s_mor h n m
  | 0, _ => rfl
  | m + 1, e => by
    unfold s_or s_mor
    rw [or_eq m (fun i hi => e i (by omega)), e m (by omega)]
