set_option maxRecDepth 100000 in
set_option maxHeartbeats 4000000 in
theorem w_X10_isSign_63 (L : Nat) (b : Bool) (h : Hp) (hB : Bx h) (a0 : Int32) : EvP mi_X10_isSign [.ref 63, .int a0] (G0 L b) h (fun r : Int32 => B r 0 1 ∧ (¬ r.toInt = 0 → (h 63 19).toInt = 3)) := by
  refine EvM.of2 (lo := [some (.ref 63), some (.int a0)]) pf_X10_isSign ok_X10_isSign rfl rfl ?_
  obtain ⟨f1, ef1⟩ : ∃ f_, h 63 19 = f_ := ⟨_, rfl⟩
  have bf1 : B f1 0 3 := by have z_ := hB 63 19; rw [ef1] at z_; exact z_
  have zf1 := congrArg Int32.toInt ef1
  refine ev_aload_n rfl rfl rfl ?_
  refine ev_getV (v := f1) rfl rfl fl_X10_204 rfl rfl rfl ef1 ?_
  refine ev_iconst (v := 3) rfl rfl (by decide) ?_
  refine ev_icmp_ne rfl rfl (fun c2 => ?_) (fun c2 => ?_)
  · have b3 : B f1 0 2 := R_neU bf1 (by decide : B 3 3 3) c2 (by decide)
    have z4 := w_ne c2
    rw [show (3 : Int32).toInt = 3 from by decide] at z4
    refine ev_iconst (v := 0) rfl rfl (by decide) ?_
    exact ev_iret rfl rfl rfl ⟨⟨_, rfl, ⟨((by decide : B 0 0 0).mono (by decide) (by decide)), (by have z0_ := congrArg Int32.toInt ef1; have z_ := w_lits; have zl_ := l_lits; omega)⟩⟩, rfl, rfl⟩
  · have b5 : B f1 3 3 := R_eqX bf1 (by decide : B 3 3 3) c2
    have z6 := congrArg Int32.toInt c2
    rw [show (3 : Int32).toInt = 3 from by decide] at z6
    refine ev_aload_n rfl rfl rfl ?_
    refine ev_getW (l := (-2147483648)) (u := 2147483647) hB rfl rfl rfl fl_X10_207 rfl rfl rfl (fun v7 b7 e7 => ?_)
    refine ev_iload_n rfl rfl rfl ?_
    refine ev_icmp_ne rfl rfl (fun c8 => ?_) (fun c8 => ?_)
    · have z9 := w_ne c8
      refine ev_iconst (v := 0) rfl rfl (by decide) ?_
      exact ev_iret rfl rfl rfl ⟨⟨_, rfl, ⟨((by decide : B 0 0 0).mono (by decide) (by decide)), (by have z0_ := congrArg Int32.toInt ef1; have z_ := w_lits; have zl_ := l_lits; omega)⟩⟩, rfl, rfl⟩
    · have z10 := congrArg Int32.toInt c8
      refine ev_iconst (v := 1) rfl rfl (by decide) ?_
      refine ev_goto rfl rfl ?_
      exact ev_iret rfl rfl rfl ⟨⟨_, rfl, ⟨((by decide : B 1 1 1).mono (by decide) (by decide)), (by have z0_ := congrArg Int32.toInt ef1; have z_ := w_lits; have zl_ := l_lits; omega)⟩⟩, rfl, rfl⟩

set_option maxRecDepth 100000 in
set_option maxHeartbeats 4000000 in
theorem w_rt110 (L : Nat) (b : Bool) (he h : Hp) (hJe : JW [(63, 17), (63, 18), (63, 19), (63, 20), (63, 21), (63, 22), (63, 27), (63, 28), (63, 31), (75, 999), (76, 999), (77, 999)] he h) (Q : Pst) (l1 : Int32) (pl1 : B l1 0 1) (l2 : Int32) (pl2 : B l2 1 1) (l3 : Int32) (rp0 : (0 < (h 63 31).toInt → (h 76 0).toInt ≤ (h 63 27).toInt)) (rp1 : (1 < (h 63 31).toInt → (h 76 0).toInt ≤ (h 76 1).toInt ∧ (h 76 1).toInt ≤ (h 63 27).toInt)) (rp2 : (2 < (h 63 31).toInt → (h 76 1).toInt ≤ (h 76 2).toInt ∧ (h 76 2).toInt ≤ (h 63 27).toInt)) (rp3 : (3 < (h 63 31).toInt → (h 76 2).toInt ≤ (h 76 3).toInt ∧ (h 76 3).toInt ≤ (h 63 27).toInt)) (rp4 : (h 63 17).toInt ≤ (h 63 16).toInt) (rp5 : (h 63 21).toInt = 0 → (h 63 19).toInt = 1 → 0 ≤ (h 63 20).toInt ∧ (h 63 20).toInt ≤ 4095) (rp6 : (h 63 21).toInt = 0 → 1 ≤ l3.toInt ∧ l3.toInt ≤ 20) (kk : ∀ (m1 : Int32) (h' : Hp), B m1 0 1 → JW [(63, 17), (63, 18), (63, 19), (63, 20), (63, 21), (63, 22), (63, 27), (63, 28), (63, 31), (75, 999), (76, 999), (77, 999)] he h' → ((0 < (h' 63 31).toInt → (h' 76 0).toInt ≤ (h' 63 27).toInt)) → ((1 < (h' 63 31).toInt → (h' 76 0).toInt ≤ (h' 76 1).toInt ∧ (h' 76 1).toInt ≤ (h' 63 27).toInt)) → ((2 < (h' 63 31).toInt → (h' 76 1).toInt ≤ (h' 76 2).toInt ∧ (h' 76 2).toInt ≤ (h' 63 27).toInt)) → ((3 < (h' 63 31).toInt → (h' 76 2).toInt ≤ (h' 76 3).toInt ∧ (h' 76 3).toInt ≤ (h' 63 27).toInt)) → ((h' 63 17).toInt ≤ (h' 63 16).toInt) → ((h' 63 21).toInt = 0 → (h' 63 19).toInt = 1 → 0 ≤ (h' 63 20).toInt ∧ (h' 63 20).toInt ≤ 4095) → ((¬ (h' 63 21).toInt = 0) ∨ (h 63 17).toInt + 1 ≤ (h' 63 17).toInt ∨ ((h' 63 19).toInt = 0 ∧ (h 63 17).toInt ≤ (h' 63 17).toInt)) → EvQ mi_X10_readTune 19 [some (.ref 63), some (.int m1), some (.int l2), none] [] (G0 L b) h' 0 0 Q) : EvQ mi_X10_readTune 110 [some (.ref 63), some (.int l1), some (.int l2), some (.int l3)] [] (G0 L b) h 0 0 Q := by
  obtain ⟨f1, ef1⟩ : ∃ f_, h 63 16 = f_ := ⟨_, rfl⟩
  have bf1 : B f1 0 160 := by have z_ := hJe.1 63 16; rw [ef1] at z_; exact z_
  have zf1 := congrArg Int32.toInt ef1
  obtain ⟨f2, ef2⟩ : ∃ f_, h 63 17 = f_ := ⟨_, rfl⟩
  have bf2 : B f2 0 160 := by have z_ := hJe.1 63 17; rw [ef2] at z_; exact z_
  have zf2 := congrArg Int32.toInt ef2
  obtain ⟨f3, ef3⟩ : ∃ f_, h 63 21 = f_ := ⟨_, rfl⟩
  have bf3 : B f3 0 6 := by have z_ := hJe.1 63 21; rw [ef3] at z_; exact z_
  have zf3 := congrArg Int32.toInt ef3
  obtain ⟨f4, ef4⟩ : ∃ f_, h 63 20 = f_ := ⟨_, rfl⟩
  have zf4 := congrArg Int32.toInt ef4
  obtain ⟨f5, ef5⟩ : ∃ f_, h 63 19 = f_ := ⟨_, rfl⟩
  have bf5 : B f5 0 3 := by have z_ := hJe.1 63 19; rw [ef5] at z_; exact z_
  have zf5 := congrArg Int32.toInt ef5
  obtain ⟨f6, ef6⟩ : ∃ f_, h 63 27 = f_ := ⟨_, rfl⟩
  have bf6 : B f6 0 60 := by have z_ := hJe.1 63 27; rw [ef6] at z_; exact z_
  have zf6 := congrArg Int32.toInt ef6
  obtain ⟨f7, ef7⟩ : ∃ f_, h 63 31 = f_ := ⟨_, rfl⟩
  have bf7 : B f7 0 4 := by have z_ := hJe.1 63 31; rw [ef7] at z_; exact z_
  have zf7 := congrArg Int32.toInt ef7
  obtain ⟨f8, ef8⟩ : ∃ f_, h 76 0 = f_ := ⟨_, rfl⟩
  have bf8 : B f8 0 60 := by have z_ := hJe.1 76 0; rw [ef8] at z_; exact z_
  have zf8 := congrArg Int32.toInt ef8
  obtain ⟨f9, ef9⟩ : ∃ f_, h 76 1 = f_ := ⟨_, rfl⟩
  have bf9 : B f9 0 60 := by have z_ := hJe.1 76 1; rw [ef9] at z_; exact z_
  have zf9 := congrArg Int32.toInt ef9
  obtain ⟨f10, ef10⟩ : ∃ f_, h 76 2 = f_ := ⟨_, rfl⟩
  have bf10 : B f10 0 60 := by have z_ := hJe.1 76 2; rw [ef10] at z_; exact z_
  have zf10 := congrArg Int32.toInt ef10
  obtain ⟨f11, ef11⟩ : ∃ f_, h 76 3 = f_ := ⟨_, rfl⟩
  have bf11 : B f11 0 60 := by have z_ := hJe.1 76 3; rw [ef11] at z_; exact z_
  have zf11 := congrArg Int32.toInt ef11
  refine ev_aload_n rfl rfl rfl ?_
  refine ev_aload_n rfl rfl rfl ?_
  refine ev_bipush (v := 40) rfl rfl (by decide) ?_
  refine ev_V1P rfl rfl lk_X10_244 vt_X10_isSign rfl rfl rfl rfl rfl (w_X10_isSign_63 L b h hJe.1 40) (fun r12 q12 => ?_)
  obtain ⟨b12, pp12_0⟩ := q12
  refine ev_iconst (v := 2) rfl rfl (by decide) ?_
  refine ev_V2K hJe rfl rfl rfl lk_X10_230 vt_X10_wants rfl rfl rfl rfl rfl (w_X10_wants_63 L b h hJe.1 r12 b12 2 ((by decide : B 2 2 2).mono (by decide) (by decide))) (fun h13 hJ13 k13 m13 => ?_)
  obtain ⟨f14, ef14⟩ : ∃ f_, h13 63 21 = f_ := ⟨_, rfl⟩
  have bf14 : B f14 0 6 := by have z_ := hJ13.1 63 21; rw [ef14] at z_; exact z_
  have zf14 := congrArg Int32.toInt ef14
  refine ev_aload_n rfl rfl rfl ?_
  refine ev_aload_n rfl rfl rfl ?_
  refine ev_getV (v := f7) rfl rfl fl_X10_241 rfl rfl rfl (rd_w k13 ef7 rfl) ?_
  refine ev_iconst (v := 4) rfl rfl (by decide) ?_
  refine ev_icmp_ge rfl rfl (fun c15 => ?_) (fun c15 => ?_)
  · have b16 : B f7 4 4 := R_leY (by decide : B 4 4 4) bf7 c15 (by decide)
    have z17 := w_le c15
    rw [show (4 : Int32).toInt = 4 from by decide] at z17
    refine ev_iconst (v := 0) rfl rfl (by decide) ?_
    refine ev_iconst (v := 5) rfl rfl (by decide) ?_
    refine ev_V2K hJ13 rfl rfl rfl lk_X10_230 vt_X10_wants rfl rfl rfl rfl rfl (w_X10_wants_63 L b h13 hJ13.1 0 ((by decide : B 0 0 0).mono (by decide) (by decide)) 5 ((by decide : B 5 5 5).mono (by decide) (by decide))) (fun h20 hJ20 k20 m20 => ?_)
    obtain ⟨f21, ef21⟩ : ∃ f_, h20 63 21 = f_ := ⟨_, rfl⟩
    have bf21 : B f21 0 6 := by have z_ := hJ20.1 63 21; rw [ef21] at z_; exact z_
    have zf21 := congrArg Int32.toInt ef21
    exact (w_rt139 L b he h20 hJ20 Q l1 pl1 l2 pl2 l3 (by have z0_ := congrArg Int32.toInt (rd_w k20 (rd_w k13 ef6 rfl) rfl); have z1_ := congrArg Int32.toInt (rd_w k20 (rd_w k13 ef7 rfl) rfl); have z2_ := congrArg Int32.toInt (rd_w k20 (rd_w k13 ef8 rfl) rfl); have z_ := w_lits; have zl_ := l_lits; omega) (by have z0_ := congrArg Int32.toInt (rd_w k20 (rd_w k13 ef6 rfl) rfl); have z1_ := congrArg Int32.toInt (rd_w k20 (rd_w k13 ef7 rfl) rfl); have z2_ := congrArg Int32.toInt (rd_w k20 (rd_w k13 ef8 rfl) rfl); have z3_ := congrArg Int32.toInt (rd_w k20 (rd_w k13 ef9 rfl) rfl); have z_ := w_lits; have zl_ := l_lits; omega) (by have z0_ := congrArg Int32.toInt (rd_w k20 (rd_w k13 ef6 rfl) rfl); have z1_ := congrArg Int32.toInt (rd_w k20 (rd_w k13 ef7 rfl) rfl); have z2_ := congrArg Int32.toInt (rd_w k20 (rd_w k13 ef9 rfl) rfl); have z3_ := congrArg Int32.toInt (rd_w k20 (rd_w k13 ef10 rfl) rfl); have z_ := w_lits; have zl_ := l_lits; omega) (by have z0_ := congrArg Int32.toInt (rd_w k20 (rd_w k13 ef6 rfl) rfl); have z1_ := congrArg Int32.toInt (rd_w k20 (rd_w k13 ef7 rfl) rfl); have z2_ := congrArg Int32.toInt (rd_w k20 (rd_w k13 ef10 rfl) rfl); have z3_ := congrArg Int32.toInt (rd_w k20 (rd_w k13 ef11 rfl) rfl); have z_ := w_lits; have zl_ := l_lits; omega) (by have z0_ := congrArg Int32.toInt (rd_w k20 (rd_w k13 ef1 rfl) rfl); have z1_ := congrArg Int32.toInt (rd_w k20 (rd_w k13 ef2 rfl) rfl); have z_ := w_lits; have zl_ := l_lits; omega) (by have z0_ := congrArg Int32.toInt ef21; have z1_ := congrArg Int32.toInt (rd_w k20 (rd_w k13 ef4 rfl) rfl); have z2_ := congrArg Int32.toInt (rd_w k20 (rd_w k13 ef5 rfl) rfl); have z_ := w_lits; have zl_ := l_lits; omega) (by have z0_ := congrArg Int32.toInt ef21; have z_ := w_lits; have zl_ := l_lits; omega) (by have z0_ := congrArg Int32.toInt ef21; have z1_ := congrArg Int32.toInt (rd_w k20 (rd_w k13 ef7 rfl) rfl); have z_ := w_lits; have zl_ := l_lits; omega) (fun m1_ h_ b1_ j_ r0_ r1_ r2_ r3_ r4_ r5_ rd_ => kk m1_ h_ b1_ j_ r0_ r1_ r2_ r3_ r4_ r5_ (by have z0_ := congrArg Int32.toInt (rd_w k20 (rd_w k13 ef1 rfl) rfl); have z1_ := congrArg Int32.toInt (rd_w k20 (rd_w k13 ef2 rfl) rfl); have z2_ := congrArg Int32.toInt ef21; have z3_ := congrArg Int32.toInt (rd_w k20 (rd_w k13 ef4 rfl) rfl); have z4_ := congrArg Int32.toInt (rd_w k20 (rd_w k13 ef5 rfl) rfl); have z5_ := congrArg Int32.toInt (rd_w k20 (rd_w k13 ef6 rfl) rfl); have z6_ := congrArg Int32.toInt (rd_w k20 (rd_w k13 ef7 rfl) rfl); have z7_ := congrArg Int32.toInt (rd_w k20 (rd_w k13 ef8 rfl) rfl); have z8_ := congrArg Int32.toInt (rd_w k20 (rd_w k13 ef9 rfl) rfl); have z9_ := congrArg Int32.toInt (rd_w k20 (rd_w k13 ef10 rfl) rfl); have z10_ := congrArg Int32.toInt (rd_w k20 (rd_w k13 ef11 rfl) rfl); have z11_ := rd_; have z_ := w_lits; have zl_ := l_lits; omega)))
  · have b18 : B f7 0 3 := R_ltX bf7 (by decide : B 4 4 4) (Int32.not_le.mp c15) (by decide)
    have z19 := w_lt (Int32.not_le.mp c15)
    rw [show (4 : Int32).toInt = 4 from by decide] at z19
    refine ev_iconst (v := 1) rfl rfl (by decide) ?_
    refine ev_goto rfl rfl ?_
    refine ev_iconst (v := 5) rfl rfl (by decide) ?_
    refine ev_V2K hJ13 rfl rfl rfl lk_X10_230 vt_X10_wants rfl rfl rfl rfl rfl (w_X10_wants_63 L b h13 hJ13.1 1 ((by decide : B 1 1 1).mono (by decide) (by decide)) 5 ((by decide : B 5 5 5).mono (by decide) (by decide))) (fun h22 hJ22 k22 m22 => ?_)
    obtain ⟨f23, ef23⟩ : ∃ f_, h22 63 21 = f_ := ⟨_, rfl⟩
    have bf23 : B f23 0 6 := by have z_ := hJ22.1 63 21; rw [ef23] at z_; exact z_
    have zf23 := congrArg Int32.toInt ef23
    exact (w_rt139 L b he h22 hJ22 Q l1 pl1 l2 pl2 l3 (by have z0_ := congrArg Int32.toInt (rd_w k22 (rd_w k13 ef6 rfl) rfl); have z1_ := congrArg Int32.toInt (rd_w k22 (rd_w k13 ef7 rfl) rfl); have z2_ := congrArg Int32.toInt (rd_w k22 (rd_w k13 ef8 rfl) rfl); have z_ := w_lits; have zl_ := l_lits; omega) (by have z0_ := congrArg Int32.toInt (rd_w k22 (rd_w k13 ef6 rfl) rfl); have z1_ := congrArg Int32.toInt (rd_w k22 (rd_w k13 ef7 rfl) rfl); have z2_ := congrArg Int32.toInt (rd_w k22 (rd_w k13 ef8 rfl) rfl); have z3_ := congrArg Int32.toInt (rd_w k22 (rd_w k13 ef9 rfl) rfl); have z_ := w_lits; have zl_ := l_lits; omega) (by have z0_ := congrArg Int32.toInt (rd_w k22 (rd_w k13 ef6 rfl) rfl); have z1_ := congrArg Int32.toInt (rd_w k22 (rd_w k13 ef7 rfl) rfl); have z2_ := congrArg Int32.toInt (rd_w k22 (rd_w k13 ef9 rfl) rfl); have z3_ := congrArg Int32.toInt (rd_w k22 (rd_w k13 ef10 rfl) rfl); have z_ := w_lits; have zl_ := l_lits; omega) (by have z0_ := congrArg Int32.toInt (rd_w k22 (rd_w k13 ef6 rfl) rfl); have z1_ := congrArg Int32.toInt (rd_w k22 (rd_w k13 ef7 rfl) rfl); have z2_ := congrArg Int32.toInt (rd_w k22 (rd_w k13 ef10 rfl) rfl); have z3_ := congrArg Int32.toInt (rd_w k22 (rd_w k13 ef11 rfl) rfl); have z_ := w_lits; have zl_ := l_lits; omega) (by have z0_ := congrArg Int32.toInt (rd_w k22 (rd_w k13 ef1 rfl) rfl); have z1_ := congrArg Int32.toInt (rd_w k22 (rd_w k13 ef2 rfl) rfl); have z_ := w_lits; have zl_ := l_lits; omega) (by have z0_ := congrArg Int32.toInt ef23; have z1_ := congrArg Int32.toInt (rd_w k22 (rd_w k13 ef4 rfl) rfl); have z2_ := congrArg Int32.toInt (rd_w k22 (rd_w k13 ef5 rfl) rfl); have z_ := w_lits; have zl_ := l_lits; omega) (by have z0_ := congrArg Int32.toInt ef23; have z_ := w_lits; have zl_ := l_lits; omega) (by have z0_ := congrArg Int32.toInt ef23; have z1_ := congrArg Int32.toInt (rd_w k22 (rd_w k13 ef7 rfl) rfl); have z_ := w_lits; have zl_ := l_lits; omega) (fun m1_ h_ b1_ j_ r0_ r1_ r2_ r3_ r4_ r5_ rd_ => kk m1_ h_ b1_ j_ r0_ r1_ r2_ r3_ r4_ r5_ (by have z0_ := congrArg Int32.toInt (rd_w k22 (rd_w k13 ef1 rfl) rfl); have z1_ := congrArg Int32.toInt (rd_w k22 (rd_w k13 ef2 rfl) rfl); have z2_ := congrArg Int32.toInt ef23; have z3_ := congrArg Int32.toInt (rd_w k22 (rd_w k13 ef4 rfl) rfl); have z4_ := congrArg Int32.toInt (rd_w k22 (rd_w k13 ef5 rfl) rfl); have z5_ := congrArg Int32.toInt (rd_w k22 (rd_w k13 ef6 rfl) rfl); have z6_ := congrArg Int32.toInt (rd_w k22 (rd_w k13 ef7 rfl) rfl); have z7_ := congrArg Int32.toInt (rd_w k22 (rd_w k13 ef8 rfl) rfl); have z8_ := congrArg Int32.toInt (rd_w k22 (rd_w k13 ef9 rfl) rfl); have z9_ := congrArg Int32.toInt (rd_w k22 (rd_w k13 ef10 rfl) rfl); have z10_ := congrArg Int32.toInt (rd_w k22 (rd_w k13 ef11 rfl) rfl); have z11_ := rd_; have z_ := w_lits; have zl_ := l_lits; omega)))

