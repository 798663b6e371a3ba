set_option maxRecDepth 100000 in
set_option maxHeartbeats 4000000 in
theorem w_rt181 (L : Nat) (b : Bool) (he h : Hp) (hJe : JW [(63, 17), (63, 18), (63, 19), (63, 20), (63, 21), (63, 22), (63, 27), (63, 28), (63, 31), (75, 999), (76, 999), (77, 999)] he h) (Q : Pst) (l1 : Int32) (pl1 : B l1 0 1) (l2 : Int32) (pl2 : B l2 1 1) (rp0 : (0 < (h 63 31).toInt → (h 76 0).toInt ≤ (h 63 27).toInt)) (rp1 : (1 < (h 63 31).toInt → (h 76 0).toInt ≤ (h 76 1).toInt ∧ (h 76 1).toInt ≤ (h 63 27).toInt)) (rp2 : (2 < (h 63 31).toInt → (h 76 1).toInt ≤ (h 76 2).toInt ∧ (h 76 2).toInt ≤ (h 63 27).toInt)) (rp3 : (3 < (h 63 31).toInt → (h 76 2).toInt ≤ (h 76 3).toInt ∧ (h 76 3).toInt ≤ (h 63 27).toInt)) (rp4 : (h 63 17).toInt ≤ (h 63 16).toInt) (kk : ∀ (m1 : Int32) (h' : Hp), B m1 0 1 → JW [(63, 17), (63, 18), (63, 19), (63, 20), (63, 21), (63, 22), (63, 27), (63, 28), (63, 31), (75, 999), (76, 999), (77, 999)] he h' → ((0 < (h' 63 31).toInt → (h' 76 0).toInt ≤ (h' 63 27).toInt)) → ((1 < (h' 63 31).toInt → (h' 76 0).toInt ≤ (h' 76 1).toInt ∧ (h' 76 1).toInt ≤ (h' 63 27).toInt)) → ((2 < (h' 63 31).toInt → (h' 76 1).toInt ≤ (h' 76 2).toInt ∧ (h' 76 2).toInt ≤ (h' 63 27).toInt)) → ((3 < (h' 63 31).toInt → (h' 76 2).toInt ≤ (h' 76 3).toInt ∧ (h' 76 3).toInt ≤ (h' 63 27).toInt)) → ((h' 63 17).toInt ≤ (h' 63 16).toInt) → ((h' 63 21).toInt = 0 → (h' 63 19).toInt = 1 → 0 ≤ (h' 63 20).toInt ∧ (h' 63 20).toInt ≤ 4095) → ((¬ (h' 63 21).toInt = 0) ∨ (h 63 17).toInt + 1 ≤ (h' 63 17).toInt ∨ ((h' 63 19).toInt = 0 ∧ (h 63 17).toInt ≤ (h' 63 17).toInt)) → EvQ mi_X10_readTune 19 [some (.ref 63), some (.int m1), some (.int l2), none] [] (G0 L b) h' 0 0 Q) : EvQ mi_X10_readTune 181 [some (.ref 63), some (.int l1), some (.int l2), none] [] (G0 L b) h 0 0 Q := by
  obtain ⟨f1, ef1⟩ : ∃ f_, h 63 16 = f_ := ⟨_, rfl⟩
  have bf1 : B f1 0 160 := by have z_ := hJe.1 63 16; rw [ef1] at z_; exact z_
  have zf1 := congrArg Int32.toInt ef1
  obtain ⟨f2, ef2⟩ : ∃ f_, h 63 17 = f_ := ⟨_, rfl⟩
  have bf2 : B f2 0 160 := by have z_ := hJe.1 63 17; rw [ef2] at z_; exact z_
  have zf2 := congrArg Int32.toInt ef2
  obtain ⟨f3, ef3⟩ : ∃ f_, h 63 21 = f_ := ⟨_, rfl⟩
  have bf3 : B f3 0 6 := by have z_ := hJe.1 63 21; rw [ef3] at z_; exact z_
  have zf3 := congrArg Int32.toInt ef3
  obtain ⟨f4, ef4⟩ : ∃ f_, h 63 20 = f_ := ⟨_, rfl⟩
  have zf4 := congrArg Int32.toInt ef4
  obtain ⟨f5, ef5⟩ : ∃ f_, h 63 19 = f_ := ⟨_, rfl⟩
  have bf5 : B f5 0 3 := by have z_ := hJe.1 63 19; rw [ef5] at z_; exact z_
  have zf5 := congrArg Int32.toInt ef5
  obtain ⟨f6, ef6⟩ : ∃ f_, h 63 27 = f_ := ⟨_, rfl⟩
  have bf6 : B f6 0 60 := by have z_ := hJe.1 63 27; rw [ef6] at z_; exact z_
  have zf6 := congrArg Int32.toInt ef6
  obtain ⟨f7, ef7⟩ : ∃ f_, h 63 31 = f_ := ⟨_, rfl⟩
  have bf7 : B f7 0 4 := by have z_ := hJe.1 63 31; rw [ef7] at z_; exact z_
  have zf7 := congrArg Int32.toInt ef7
  obtain ⟨f8, ef8⟩ : ∃ f_, h 76 0 = f_ := ⟨_, rfl⟩
  have bf8 : B f8 0 60 := by have z_ := hJe.1 76 0; rw [ef8] at z_; exact z_
  have zf8 := congrArg Int32.toInt ef8
  obtain ⟨f9, ef9⟩ : ∃ f_, h 76 1 = f_ := ⟨_, rfl⟩
  have bf9 : B f9 0 60 := by have z_ := hJe.1 76 1; rw [ef9] at z_; exact z_
  have zf9 := congrArg Int32.toInt ef9
  obtain ⟨f10, ef10⟩ : ∃ f_, h 76 2 = f_ := ⟨_, rfl⟩
  have bf10 : B f10 0 60 := by have z_ := hJe.1 76 2; rw [ef10] at z_; exact z_
  have zf10 := congrArg Int32.toInt ef10
  obtain ⟨f11, ef11⟩ : ∃ f_, h 76 3 = f_ := ⟨_, rfl⟩
  have bf11 : B f11 0 60 := by have z_ := hJe.1 76 3; rw [ef11] at z_; exact z_
  have zf11 := congrArg Int32.toInt ef11
  refine ev_aload_n rfl rfl rfl ?_
  refine ev_V0K hJe rfl rfl rfl lk_X10_251 vt_X10_next rfl rfl rfl rfl rfl (w_X10_next_63 L b h hJe.1 (by have z0_ := congrArg Int32.toInt ef1; have z1_ := congrArg Int32.toInt ef2; have z_ := w_lits; have zl_ := l_lits; omega)) (fun h12 hJ12 k12 m12 => ?_)
  obtain ⟨m12_0, m12_1, m12_2, m12_3, m12_4⟩ := m12
  obtain ⟨f13, ef13⟩ : ∃ f_, h12 63 17 = f_ := ⟨_, rfl⟩
  have bf13 : B f13 0 160 := by have z_ := hJ12.1 63 17; rw [ef13] at z_; exact z_
  have zf13 := congrArg Int32.toInt ef13
  obtain ⟨f14, ef14⟩ : ∃ f_, h12 63 21 = f_ := ⟨_, rfl⟩
  have bf14 : B f14 0 6 := by have z_ := hJ12.1 63 21; rw [ef14] at z_; exact z_
  have zf14 := congrArg Int32.toInt ef14
  obtain ⟨f15, ef15⟩ : ∃ f_, h12 63 20 = f_ := ⟨_, rfl⟩
  have zf15 := congrArg Int32.toInt ef15
  obtain ⟨f16, ef16⟩ : ∃ f_, h12 63 19 = f_ := ⟨_, rfl⟩
  have bf16 : B f16 0 3 := by have z_ := hJ12.1 63 19; rw [ef16] at z_; exact z_
  have zf16 := congrArg Int32.toInt ef16
  have z17 := congrArg Int32.toInt (rd_w k12 ef1 rfl)
  refine ev_goto rfl rfl ?_
  exact (kk l1 h12 pl1 hJ12 (by have z0_ := congrArg Int32.toInt (rd_w k12 ef6 rfl); have z1_ := congrArg Int32.toInt (rd_w k12 ef7 rfl); have z2_ := congrArg Int32.toInt (rd_w k12 ef8 rfl); have z_ := w_lits; have zl_ := l_lits; omega) (by have z0_ := congrArg Int32.toInt (rd_w k12 ef6 rfl); have z1_ := congrArg Int32.toInt (rd_w k12 ef7 rfl); have z2_ := congrArg Int32.toInt (rd_w k12 ef8 rfl); have z3_ := congrArg Int32.toInt (rd_w k12 ef9 rfl); have z_ := w_lits; have zl_ := l_lits; omega) (by have z0_ := congrArg Int32.toInt (rd_w k12 ef6 rfl); have z1_ := congrArg Int32.toInt (rd_w k12 ef7 rfl); have z2_ := congrArg Int32.toInt (rd_w k12 ef9 rfl); have z3_ := congrArg Int32.toInt (rd_w k12 ef10 rfl); have z_ := w_lits; have zl_ := l_lits; omega) (by have z0_ := congrArg Int32.toInt (rd_w k12 ef6 rfl); have z1_ := congrArg Int32.toInt (rd_w k12 ef7 rfl); have z2_ := congrArg Int32.toInt (rd_w k12 ef10 rfl); have z3_ := congrArg Int32.toInt (rd_w k12 ef11 rfl); have z_ := w_lits; have zl_ := l_lits; omega) (by have z0_ := congrArg Int32.toInt (rd_w k12 ef1 rfl); have z1_ := congrArg Int32.toInt ef13; have z_ := w_lits; have zl_ := l_lits; omega) (by have z0_ := congrArg Int32.toInt ef14; have z1_ := congrArg Int32.toInt ef15; have z2_ := congrArg Int32.toInt ef16; have z_ := w_lits; have zl_ := l_lits; omega) (by have z0_ := congrArg Int32.toInt ef13; have z1_ := congrArg Int32.toInt ef14; have z2_ := congrArg Int32.toInt ef16; have z_ := w_lits; have zl_ := l_lits; omega))

