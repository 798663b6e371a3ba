set_option maxRecDepth 100000 in
set_option maxHeartbeats 4000000 in
theorem w_X10_spot_63 (L : Nat) (b : Bool) (h : Hp) (hB : Bx h) (a0 : Int32) (p0 : B a0 0 24) (a1 : Int32) (p1 : B a1 0 8) (a2 : Int32) (p2 : B a2 0 200) : EvP mi_X10_spot [.ref 63, .int a0, .int a1, .int a2] (G0 L b) h (fun r : Int32 => B r 0 45224 ∧ (r.toInt = 1809 * a0.toInt + 201 * a1.toInt + a2.toInt)) := by
  refine EvM.of2 (lo := [some (.ref 63), some (.int a0), some (.int a1), some (.int a2)]) pf_X10_spot ok_X10_spot rfl rfl ?_
  obtain ⟨f1, ef1⟩ : ∃ f_, h 63 3 = f_ := ⟨_, rfl⟩
  have bf1 : B f1 0 200 := by have z_ := hB 63 3; rw [ef1] at z_; exact z_
  have zf1 := congrArg Int32.toInt ef1
  refine ev_sipush (v := 1809) rfl rfl (by decide) ?_
  refine ev_iload_n rfl rfl rfl ?_
  refine ev_imulB (l := 0) (u := 43416) rfl rfl (by decide : B 1809 1809 1809) p0 (by decide) (by decide) (by decide) (by decide) (by decide) (fun v2 b2 e2 g2 => ?_)
  rw [show (1809 : Int32).toInt = 1809 from by decide] at e2
  refine ev_sipush (v := 201) rfl rfl (by decide) ?_
  refine ev_iload_n rfl rfl rfl ?_
  refine ev_imulB (l := 0) (u := 1608) rfl rfl (by decide : B 201 201 201) p1 (by decide) (by decide) (by decide) (by decide) (by decide) (fun v3 b3 e3 g3 => ?_)
  rw [show (201 : Int32).toInt = 201 from by decide] at e3
  refine ev_iaddB (l := 0) (u := 45024) rfl rfl b2 b3 (by decide) (by decide) (by decide) (by decide) (fun v4 b4 e4 g4 => ?_)
  refine ev_iload_n rfl rfl rfl ?_
  refine ev_iaddB (l := 0) (u := 45224) rfl rfl b4 p2 (by decide) (by decide) (by decide) (by decide) (fun v5 b5 e5 g5 => ?_)
  exact ev_iret rfl rfl rfl ⟨⟨_, rfl, ⟨b5, (by have z0_ := congrArg Int32.toInt ef1; have z_ := w_lits; have zl_ := l_lits; omega)⟩⟩, rfl, rfl⟩

