set_option maxRecDepth 100000 in
set_option maxHeartbeats 4000000 in
theorem w_X10_isSign_63 (L : Nat) (b : Bool) (h : Hp) (hB : Bx h) (a0 : Int32) : EvP mi_X10_isSign [.ref 63, .int a0] (G0 L b) h (fun r : Int32 => B r 0 1 ∧ (¬ r.toInt = 0 → (h 63 19).toInt = 3)) := by
  refine EvM.of2 (lo := [some (.ref 63), some (.int a0)]) pf_X10_isSign ok_X10_isSign rfl rfl ?_
  obtain ⟨f1, ef1⟩ : ∃ f_, h 63 19 = f_ := ⟨_, rfl⟩
  have bf1 : B f1 0 3 := by have z_ := hB 63 19; rw [ef1] at z_; exact z_
  have zf1 := congrArg Int32.toInt ef1
  refine ev_aload_n rfl rfl rfl ?_
  refine ev_getV (v := f1) rfl rfl fl_X10_204 rfl rfl rfl ef1 ?_
  refine ev_iconst (v := 3) rfl rfl (by decide) ?_
  refine ev_icmp_ne rfl rfl (fun c2 => ?_) (fun c2 => ?_)
  · have b3 : B f1 0 2 := R_neU bf1 (by decide : B 3 3 3) c2 (by decide)
    have z4 := w_ne c2
    rw [show (3 : Int32).toInt = 3 from by decide] at z4
    refine ev_iconst (v := 0) rfl rfl (by decide) ?_
    exact ev_iret rfl rfl rfl ⟨⟨_, rfl, ⟨((by decide : B 0 0 0).mono (by decide) (by decide)), (by have z0_ := congrArg Int32.toInt ef1; have z_ := w_lits; have zl_ := l_lits; omega)⟩⟩, rfl, rfl⟩
  · have b5 : B f1 3 3 := R_eqX bf1 (by decide : B 3 3 3) c2
    have z6 := congrArg Int32.toInt c2
    rw [show (3 : Int32).toInt = 3 from by decide] at z6
    refine ev_aload_n rfl rfl rfl ?_
    refine ev_getW (l := (-2147483648)) (u := 2147483647) hB rfl rfl rfl fl_X10_207 rfl rfl rfl (fun v7 b7 e7 => ?_)
    refine ev_iload_n rfl rfl rfl ?_
    refine ev_icmp_ne rfl rfl (fun c8 => ?_) (fun c8 => ?_)
    · have z9 := w_ne c8
      refine ev_iconst (v := 0) rfl rfl (by decide) ?_
      exact ev_iret rfl rfl rfl ⟨⟨_, rfl, ⟨((by decide : B 0 0 0).mono (by decide) (by decide)), (by have z0_ := congrArg Int32.toInt ef1; have z_ := w_lits; have zl_ := l_lits; omega)⟩⟩, rfl, rfl⟩
    · have z10 := congrArg Int32.toInt c8
      refine ev_iconst (v := 1) rfl rfl (by decide) ?_
      refine ev_goto rfl rfl ?_
      exact ev_iret rfl rfl rfl ⟨⟨_, rfl, ⟨((by decide : B 1 1 1).mono (by decide) (by decide)), (by have z0_ := congrArg Int32.toInt ef1; have z_ := w_lits; have zl_ := l_lits; omega)⟩⟩, rfl, rfl⟩

set_option maxRecDepth 100000 in
set_option maxHeartbeats 4000000 in
theorem w_X10_readTune_63 (L : Nat) (b : Bool) (h : Hp) (hB : Bx h) (rp0 : (h 63 17).toInt ≤ (h 63 16).toInt) (rp1 : (h 63 21).toInt = 0 → (h 63 19).toInt = 1 → 0 ≤ (h 63 20).toInt ∧ (h 63 20).toInt ≤ 4095) : EvK mi_X10_readTune [.ref 63] (G0 L b) h (fun z : Hp => ((z 63 21).toInt = 0 → (z 63 27).toInt ≤ 24)) [(63, 17), (63, 18), (63, 19), (63, 20), (63, 21), (63, 22), (63, 27), (63, 28), (63, 31), (75, 999), (76, 999), (77, 999)] := by
  sorry
