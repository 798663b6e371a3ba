set_option maxRecDepth 100000 in
set_option maxHeartbeats 4000000 in
theorem w_rt84 (L : Nat) (b : Bool) (he h : Hp) (hJe : JW [(63, 17), (63, 18), (63, 19), (63, 20), (63, 21), (63, 22), (63, 27), (63, 28), (63, 31), (75, 999), (76, 999), (77, 999)] he h) (Q : Pst) (l1 : Int32) (pl1 : B l1 0 1) (l2 : Int32) (pl2 : B l2 1 1) (rp0 : (0 < (h 63 31).toInt → (h 76 0).toInt ≤ (h 63 27).toInt)) (rp1 : (1 < (h 63 31).toInt → (h 76 0).toInt ≤ (h 76 1).toInt ∧ (h 76 1).toInt ≤ (h 63 27).toInt)) (rp2 : (2 < (h 63 31).toInt → (h 76 1).toInt ≤ (h 76 2).toInt ∧ (h 76 2).toInt ≤ (h 63 27).toInt)) (rp3 : (3 < (h 63 31).toInt → (h 76 2).toInt ≤ (h 76 3).toInt ∧ (h 76 3).toInt ≤ (h 63 27).toInt)) (rp4 : (h 63 17).toInt ≤ (h 63 16).toInt) (rp5 : (h 63 21).toInt = 0 → (h 63 19).toInt = 1 → 0 ≤ (h 63 20).toInt ∧ (h 63 20).toInt ≤ 4095) (rp6 : (h 63 21).toInt = 0) (rp7 : ¬ (h 63 19).toInt = 0) (kk : ∀ (m1 : Int32) (h' : Hp), B m1 0 1 → JW [(63, 17), (63, 18), (63, 19), (63, 20), (63, 21), (63, 22), (63, 27), (63, 28), (63, 31), (75, 999), (76, 999), (77, 999)] he h' → ((0 < (h' 63 31).toInt → (h' 76 0).toInt ≤ (h' 63 27).toInt)) → ((1 < (h' 63 31).toInt → (h' 76 0).toInt ≤ (h' 76 1).toInt ∧ (h' 76 1).toInt ≤ (h' 63 27).toInt)) → ((2 < (h' 63 31).toInt → (h' 76 1).toInt ≤ (h' 76 2).toInt ∧ (h' 76 2).toInt ≤ (h' 63 27).toInt)) → ((3 < (h' 63 31).toInt → (h' 76 2).toInt ≤ (h' 76 3).toInt ∧ (h' 76 3).toInt ≤ (h' 63 27).toInt)) → ((h' 63 17).toInt ≤ (h' 63 16).toInt) → ((h' 63 21).toInt = 0 → (h' 63 19).toInt = 1 → 0 ≤ (h' 63 20).toInt ∧ (h' 63 20).toInt ≤ 4095) → ((¬ (h' 63 21).toInt = 0) ∨ (h 63 17).toInt + 1 ≤ (h' 63 17).toInt ∨ ((h' 63 19).toInt = 0 ∧ (h 63 17).toInt ≤ (h' 63 17).toInt)) → EvQ mi_X10_readTune 19 [some (.ref 63), some (.int m1), some (.int l2), none] [] (G0 L b) h' 0 0 Q) : EvQ mi_X10_readTune 84 [some (.ref 63), some (.int l1), some (.int l2), none] [] (G0 L b) h 0 0 Q := by
  obtain ⟨f1, ef1⟩ : ∃ f_, h 63 16 = f_ := ⟨_, rfl⟩
  have bf1 : B f1 0 160 := by have z_ := hJe.1 63 16; rw [ef1] at z_; exact z_
  have zf1 := congrArg Int32.toInt ef1
  obtain ⟨f2, ef2⟩ : ∃ f_, h 63 17 = f_ := ⟨_, rfl⟩
  have bf2 : B f2 0 160 := by have z_ := hJe.1 63 17; rw [ef2] at z_; exact z_
  have zf2 := congrArg Int32.toInt ef2
  obtain ⟨f3, ef3⟩ : ∃ f_, h 63 21 = f_ := ⟨_, rfl⟩
  have bf3 : B f3 0 6 := by have z_ := hJe.1 63 21; rw [ef3] at z_; exact z_
  have zf3 := congrArg Int32.toInt ef3
  obtain ⟨f4, ef4⟩ : ∃ f_, h 63 20 = f_ := ⟨_, rfl⟩
  have zf4 := congrArg Int32.toInt ef4
  obtain ⟨f5, ef5⟩ : ∃ f_, h 63 19 = f_ := ⟨_, rfl⟩
  have bf5 : B f5 0 3 := by have z_ := hJe.1 63 19; rw [ef5] at z_; exact z_
  have zf5 := congrArg Int32.toInt ef5
  obtain ⟨f6, ef6⟩ : ∃ f_, h 63 27 = f_ := ⟨_, rfl⟩
  have bf6 : B f6 0 60 := by have z_ := hJe.1 63 27; rw [ef6] at z_; exact z_
  have zf6 := congrArg Int32.toInt ef6
  obtain ⟨f7, ef7⟩ : ∃ f_, h 63 31 = f_ := ⟨_, rfl⟩
  have bf7 : B f7 0 4 := by have z_ := hJe.1 63 31; rw [ef7] at z_; exact z_
  have zf7 := congrArg Int32.toInt ef7
  obtain ⟨f8, ef8⟩ : ∃ f_, h 76 0 = f_ := ⟨_, rfl⟩
  have bf8 : B f8 0 60 := by have z_ := hJe.1 76 0; rw [ef8] at z_; exact z_
  have zf8 := congrArg Int32.toInt ef8
  obtain ⟨f9, ef9⟩ : ∃ f_, h 76 1 = f_ := ⟨_, rfl⟩
  have bf9 : B f9 0 60 := by have z_ := hJe.1 76 1; rw [ef9] at z_; exact z_
  have zf9 := congrArg Int32.toInt ef9
  obtain ⟨f10, ef10⟩ : ∃ f_, h 76 2 = f_ := ⟨_, rfl⟩
  have bf10 : B f10 0 60 := by have z_ := hJe.1 76 2; rw [ef10] at z_; exact z_
  have zf10 := congrArg Int32.toInt ef10
  obtain ⟨f11, ef11⟩ : ∃ f_, h 76 3 = f_ := ⟨_, rfl⟩
  have bf11 : B f11 0 60 := by have z_ := hJe.1 76 3; rw [ef11] at z_; exact z_
  have zf11 := congrArg Int32.toInt ef11
  refine ev_aload_n rfl rfl rfl ?_
  refine ev_aload_n rfl rfl rfl ?_
  refine ev_getV (v := f4) rfl rfl fl_X10_207 rfl rfl rfl ef4 ?_
  refine ev_i2l rfl rfl ?_
  have z12 := Int32.toInt_toInt64 f4
  have z12b := B.any f4
  refine ev_lconst (v := 1) rfl rfl rfl ?_
  refine ev_ldc2 (v := 20) rfl rfl kc_X10_167 ?_
  refine ev_S3P rfl rfl lk_X10_124 st_X10_in rfl rfl (w_inR (G0 L b) h f4 1 20 (by decide : BL 1 1 1) (by decide : BL 20 20 20)) (fun r13 q13 => ?_)
  obtain ⟨b13, p13_0, pp13_0, pp13_1⟩ := q13
  refine ev_iconst (v := 3) rfl rfl (by decide) ?_
  refine ev_V2K hJe rfl rfl rfl lk_X10_230 vt_X10_wants rfl rfl rfl rfl rfl (w_X10_wants_63 L b h hJe.1 r13 b13 3 ((by decide : B 3 3 3).mono (by decide) (by decide))) (fun h14 hJ14 k14 m14 => ?_)
  obtain ⟨f15, ef15⟩ : ∃ f_, h14 63 21 = f_ := ⟨_, rfl⟩
  have bf15 : B f15 0 6 := by have z_ := hJ14.1 63 21; rw [ef15] at z_; exact z_
  have zf15 := congrArg Int32.toInt ef15
  refine ev_aload_n rfl rfl rfl ?_
  refine ev_getV (v := f4) rfl rfl fl_X10_207 rfl rfl rfl (rd_w k14 ef4 rfl) ?_
  refine ev_istore_n rfl rfl rfl rfl ?_
  dsimp only [List.set]
  refine ev_aload_n rfl rfl rfl ?_
  have z16 := congrArg Int32.toInt (rd_w k14 ef1 rfl)
  have z17 := congrArg Int32.toInt (rd_w k14 ef2 rfl)
  have z18 := congrArg Int32.toInt (rd_w k14 ef4 rfl)
  have z19 := congrArg Int32.toInt (rd_w k14 ef5 rfl)
  refine ev_V0K hJ14 rfl rfl rfl lk_X10_251 vt_X10_next rfl rfl rfl rfl rfl (w_X10_next_63 L b h14 hJ14.1 (by have z0_ := congrArg Int32.toInt (rd_w k14 ef1 rfl); have z1_ := congrArg Int32.toInt (rd_w k14 ef2 rfl); have z_ := w_lits; have zl_ := l_lits; omega)) (fun h20 hJ20 k20 m20 => ?_)
  obtain ⟨m20_0, m20_1, m20_2, m20_3, m20_4⟩ := m20
  obtain ⟨f21, ef21⟩ : ∃ f_, h20 63 17 = f_ := ⟨_, rfl⟩
  have bf21 : B f21 0 160 := by have z_ := hJ20.1 63 17; rw [ef21] at z_; exact z_
  have zf21 := congrArg Int32.toInt ef21
  obtain ⟨f22, ef22⟩ : ∃ f_, h20 63 21 = f_ := ⟨_, rfl⟩
  have bf22 : B f22 0 6 := by have z_ := hJ20.1 63 21; rw [ef22] at z_; exact z_
  have zf22 := congrArg Int32.toInt ef22
  obtain ⟨f23, ef23⟩ : ∃ f_, h20 63 20 = f_ := ⟨_, rfl⟩
  have zf23 := congrArg Int32.toInt ef23
  obtain ⟨f24, ef24⟩ : ∃ f_, h20 63 19 = f_ := ⟨_, rfl⟩
  have bf24 : B f24 0 3 := by have z_ := hJ20.1 63 19; rw [ef24] at z_; exact z_
  have zf24 := congrArg Int32.toInt ef24
  have z25 := congrArg Int32.toInt (rd_w k20 (rd_w k14 ef1 rfl) rfl)
  exact (w_rt110 L b he h20 hJ20 Q l1 pl1 l2 pl2 f4 (by have z0_ := congrArg Int32.toInt (rd_w k20 (rd_w k14 ef6 rfl) rfl); have z1_ := congrArg Int32.toInt (rd_w k20 (rd_w k14 ef7 rfl) rfl); have z2_ := congrArg Int32.toInt (rd_w k20 (rd_w k14 ef8 rfl) rfl); have z_ := w_lits; have zl_ := l_lits; omega) (by have z0_ := congrArg Int32.toInt (rd_w k20 (rd_w k14 ef6 rfl) rfl); have z1_ := congrArg Int32.toInt (rd_w k20 (rd_w k14 ef7 rfl) rfl); have z2_ := congrArg Int32.toInt (rd_w k20 (rd_w k14 ef8 rfl) rfl); have z3_ := congrArg Int32.toInt (rd_w k20 (rd_w k14 ef9 rfl) rfl); have z_ := w_lits; have zl_ := l_lits; omega) (by have z0_ := congrArg Int32.toInt (rd_w k20 (rd_w k14 ef6 rfl) rfl); have z1_ := congrArg Int32.toInt (rd_w k20 (rd_w k14 ef7 rfl) rfl); have z2_ := congrArg Int32.toInt (rd_w k20 (rd_w k14 ef9 rfl) rfl); have z3_ := congrArg Int32.toInt (rd_w k20 (rd_w k14 ef10 rfl) rfl); have z_ := w_lits; have zl_ := l_lits; omega) (by have z0_ := congrArg Int32.toInt (rd_w k20 (rd_w k14 ef6 rfl) rfl); have z1_ := congrArg Int32.toInt (rd_w k20 (rd_w k14 ef7 rfl) rfl); have z2_ := congrArg Int32.toInt (rd_w k20 (rd_w k14 ef10 rfl) rfl); have z3_ := congrArg Int32.toInt (rd_w k20 (rd_w k14 ef11 rfl) rfl); have z_ := w_lits; have zl_ := l_lits; omega) (by have z0_ := congrArg Int32.toInt (rd_w k20 (rd_w k14 ef1 rfl) rfl); have z1_ := congrArg Int32.toInt ef21; have z_ := w_lits; have zl_ := l_lits; omega) (by have z0_ := congrArg Int32.toInt ef22; have z1_ := congrArg Int32.toInt ef23; have z2_ := congrArg Int32.toInt ef24; have z_ := w_lits; have zl_ := l_lits; omega) (by have z0_ := congrArg Int32.toInt ef22; have z_ := w_lits; have zl_ := l_lits; omega) (fun m1_ h_ b1_ j_ r0_ r1_ r2_ r3_ r4_ r5_ rd_ => kk m1_ h_ b1_ j_ r0_ r1_ r2_ r3_ r4_ r5_ (by have z0_ := congrArg Int32.toInt ef21; have z1_ := rd_; have z_ := w_lits; have zl_ := l_lits; omega)))
