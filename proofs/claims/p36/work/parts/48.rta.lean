set_option maxRecDepth 100000 in
set_option maxHeartbeats 4000000 in
theorem w_rt47 (L : Nat) (b : Bool) (he h : Hp) (hJe : JW [(63, 17), (63, 18), (63, 19), (63, 20), (63, 21), (63, 22), (63, 27), (63, 28), (63, 31), (75, 999), (76, 999), (77, 999)] he h) (Q : Pst) (l1 : Int32) (pl1 : B l1 0 1) (l2 : Int32) (pl2 : B l2 1 1) (rp0 : (0 < (h 63 31).toInt → (h 76 0).toInt ≤ (h 63 27).toInt)) (rp1 : (1 < (h 63 31).toInt → (h 76 0).toInt ≤ (h 76 1).toInt ∧ (h 76 1).toInt ≤ (h 63 27).toInt)) (rp2 : (2 < (h 63 31).toInt → (h 76 1).toInt ≤ (h 76 2).toInt ∧ (h 76 2).toInt ≤ (h 63 27).toInt)) (rp3 : (3 < (h 63 31).toInt → (h 76 2).toInt ≤ (h 76 3).toInt ∧ (h 76 3).toInt ≤ (h 63 27).toInt)) (rp4 : (h 63 17).toInt ≤ (h 63 16).toInt) (rp5 : (h 63 21).toInt = 0 → (h 63 19).toInt = 1 → 0 ≤ (h 63 20).toInt ∧ (h 63 20).toInt ≤ 4095) (rp6 : (h 63 21).toInt = 0) (rp7 : ¬ (h 63 19).toInt = 0) (kk : ∀ (m1 : Int32) (h' : Hp), B m1 0 1 → JW [(63, 17), (63, 18), (63, 19), (63, 20), (63, 21), (63, 22), (63, 27), (63, 28), (63, 31), (75, 999), (76, 999), (77, 999)] he h' → ((0 < (h' 63 31).toInt → (h' 76 0).toInt ≤ (h' 63 27).toInt)) → ((1 < (h' 63 31).toInt → (h' 76 0).toInt ≤ (h' 76 1).toInt ∧ (h' 76 1).toInt ≤ (h' 63 27).toInt)) → ((2 < (h' 63 31).toInt → (h' 76 1).toInt ≤ (h' 76 2).toInt ∧ (h' 76 2).toInt ≤ (h' 63 27).toInt)) → ((3 < (h' 63 31).toInt → (h' 76 2).toInt ≤ (h' 76 3).toInt ∧ (h' 76 3).toInt ≤ (h' 63 27).toInt)) → ((h' 63 17).toInt ≤ (h' 63 16).toInt) → ((h' 63 21).toInt = 0 → (h' 63 19).toInt = 1 → 0 ≤ (h' 63 20).toInt ∧ (h' 63 20).toInt ≤ 4095) → ((¬ (h' 63 21).toInt = 0) ∨ (h 63 17).toInt + 1 ≤ (h' 63 17).toInt ∨ ((h' 63 19).toInt = 0 ∧ (h 63 17).toInt ≤ (h' 63 17).toInt)) → EvQ mi_X10_readTune 19 [some (.ref 63), some (.int m1), some (.int l2), none] [] (G0 L b) h' 0 0 Q) : EvQ mi_X10_readTune 47 [some (.ref 63), some (.int l1), some (.int l2), none] [] (G0 L b) h 0 0 Q := by
  obtain ⟨f1, ef1⟩ : ∃ f_, h 63 16 = f_ := ⟨_, rfl⟩
  have bf1 : B f1 0 160 := by have z_ := hJe.1 63 16; rw [ef1] at z_; exact z_
  have zf1 := congrArg Int32.toInt ef1
  obtain ⟨f2, ef2⟩ : ∃ f_, h 63 17 = f_ := ⟨_, rfl⟩
  have bf2 : B f2 0 160 := by have z_ := hJe.1 63 17; rw [ef2] at z_; exact z_
  have zf2 := congrArg Int32.toInt ef2
  obtain ⟨f3, ef3⟩ : ∃ f_, h 63 21 = f_ := ⟨_, rfl⟩
  have bf3 : B f3 0 6 := by have z_ := hJe.1 63 21; rw [ef3] at z_; exact z_
  have zf3 := congrArg Int32.toInt ef3
  obtain ⟨f4, ef4⟩ : ∃ f_, h 63 20 = f_ := ⟨_, rfl⟩
  have zf4 := congrArg Int32.toInt ef4
  obtain ⟨f5, ef5⟩ : ∃ f_, h 63 19 = f_ := ⟨_, rfl⟩
  have bf5 : B f5 0 3 := by have z_ := hJe.1 63 19; rw [ef5] at z_; exact z_
  have zf5 := congrArg Int32.toInt ef5
  obtain ⟨f6, ef6⟩ : ∃ f_, h 63 27 = f_ := ⟨_, rfl⟩
  have bf6 : B f6 0 60 := by have z_ := hJe.1 63 27; rw [ef6] at z_; exact z_
  have zf6 := congrArg Int32.toInt ef6
  obtain ⟨f7, ef7⟩ : ∃ f_, h 63 31 = f_ := ⟨_, rfl⟩
  have bf7 : B f7 0 4 := by have z_ := hJe.1 63 31; rw [ef7] at z_; exact z_
  have zf7 := congrArg Int32.toInt ef7
  obtain ⟨f8, ef8⟩ : ∃ f_, h 76 0 = f_ := ⟨_, rfl⟩
  have bf8 : B f8 0 60 := by have z_ := hJe.1 76 0; rw [ef8] at z_; exact z_
  have zf8 := congrArg Int32.toInt ef8
  obtain ⟨f9, ef9⟩ : ∃ f_, h 76 1 = f_ := ⟨_, rfl⟩
  have bf9 : B f9 0 60 := by have z_ := hJe.1 76 1; rw [ef9] at z_; exact z_
  have zf9 := congrArg Int32.toInt ef9
  obtain ⟨f10, ef10⟩ : ∃ f_, h 76 2 = f_ := ⟨_, rfl⟩
  have bf10 : B f10 0 60 := by have z_ := hJe.1 76 2; rw [ef10] at z_; exact z_
  have zf10 := congrArg Int32.toInt ef10
  obtain ⟨f11, ef11⟩ : ∃ f_, h 76 3 = f_ := ⟨_, rfl⟩
  have bf11 : B f11 0 60 := by have z_ := hJe.1 76 3; rw [ef11] at z_; exact z_
  have zf11 := congrArg Int32.toInt ef11
  refine ev_aload_n rfl rfl rfl ?_
  refine ev_aload_n rfl rfl rfl ?_
  refine ev_getV (v := f5) rfl rfl fl_X10_204 rfl rfl rfl ef5 ?_
  refine ev_iconst (v := 1) rfl rfl (by decide) ?_
  refine ev_icmp_ne rfl rfl (fun c12 => ?_) (fun c12 => ?_)
  · have z13 := w_ne c12
    rw [show (1 : Int32).toInt = 1 from by decide] at z13
    refine ev_iconst (v := 0) rfl rfl (by decide) ?_
    refine ev_V1K hJe rfl rfl rfl lk_X10_247 vt_X10_beatRead rfl rfl rfl rfl rfl (w_X10_beatRead_63 L b h hJe.1 0 ((by decide : B 0 0 0).mono (by decide) (by decide)) (by have z0_ := congrArg Int32.toInt ef6; have z1_ := congrArg Int32.toInt ef7; have z2_ := congrArg Int32.toInt ef8; have z_ := w_lits; have zl_ := l_lits; omega) (by have z0_ := congrArg Int32.toInt ef6; have z1_ := congrArg Int32.toInt ef7; have z2_ := congrArg Int32.toInt ef8; have z3_ := congrArg Int32.toInt ef9; have z_ := w_lits; have zl_ := l_lits; omega) (by have z0_ := congrArg Int32.toInt ef6; have z1_ := congrArg Int32.toInt ef7; have z2_ := congrArg Int32.toInt ef9; have z3_ := congrArg Int32.toInt ef10; have z_ := w_lits; have zl_ := l_lits; omega) (by have z0_ := congrArg Int32.toInt ef6; have z1_ := congrArg Int32.toInt ef7; have z2_ := congrArg Int32.toInt ef10; have z3_ := congrArg Int32.toInt ef11; have z_ := w_lits; have zl_ := l_lits; omega)) (fun h16 hJ16 k16 m16 => ?_)
    obtain ⟨m16_0, m16_1, m16_2, m16_3⟩ := m16
    obtain ⟨f17, ef17⟩ : ∃ f_, h16 63 27 = f_ := ⟨_, rfl⟩
    have bf17 : B f17 0 60 := by have z_ := hJ16.1 63 27; rw [ef17] at z_; exact z_
    have zf17 := congrArg Int32.toInt ef17
    have z18 := congrArg Int32.toInt (rd_w k16 ef7 rfl)
    have z19 := congrArg Int32.toInt (rd_w k16 ef8 rfl)
    have z20 := congrArg Int32.toInt (rd_w k16 ef9 rfl)
    have z21 := congrArg Int32.toInt (rd_w k16 ef10 rfl)
    have z22 := congrArg Int32.toInt (rd_w k16 ef11 rfl)
    refine ev_iconst (v := 0) rfl rfl (by decide) ?_
    refine ev_istore_n rfl rfl rfl rfl ?_
    dsimp only [List.set]
    refine ev_aload_n rfl rfl rfl ?_
    have z23 := congrArg Int32.toInt (rd_w k16 ef1 rfl)
    have z24 := congrArg Int32.toInt (rd_w k16 ef2 rfl)
    have z25 := congrArg Int32.toInt (rd_w k16 ef3 rfl)
    have z26 := congrArg Int32.toInt (rd_w k16 ef4 rfl)
    have z27 := congrArg Int32.toInt (rd_w k16 ef5 rfl)
    refine ev_V0K hJ16 rfl rfl rfl lk_X10_251 vt_X10_next rfl rfl rfl rfl rfl (w_X10_next_63 L b h16 hJ16.1 (by have z0_ := congrArg Int32.toInt (rd_w k16 ef1 rfl); have z1_ := congrArg Int32.toInt (rd_w k16 ef2 rfl); have z_ := w_lits; have zl_ := l_lits; omega)) (fun h28 hJ28 k28 m28 => ?_)
    obtain ⟨m28_0, m28_1, m28_2, m28_3, m28_4⟩ := m28
    obtain ⟨f29, ef29⟩ : ∃ f_, h28 63 17 = f_ := ⟨_, rfl⟩
    have bf29 : B f29 0 160 := by have z_ := hJ28.1 63 17; rw [ef29] at z_; exact z_
    have zf29 := congrArg Int32.toInt ef29
    obtain ⟨f30, ef30⟩ : ∃ f_, h28 63 21 = f_ := ⟨_, rfl⟩
    have bf30 : B f30 0 6 := by have z_ := hJ28.1 63 21; rw [ef30] at z_; exact z_
    have zf30 := congrArg Int32.toInt ef30
    obtain ⟨f31, ef31⟩ : ∃ f_, h28 63 20 = f_ := ⟨_, rfl⟩
    have zf31 := congrArg Int32.toInt ef31
    obtain ⟨f32, ef32⟩ : ∃ f_, h28 63 19 = f_ := ⟨_, rfl⟩
    have bf32 : B f32 0 3 := by have z_ := hJ28.1 63 19; rw [ef32] at z_; exact z_
    have zf32 := congrArg Int32.toInt ef32
    have z33 := congrArg Int32.toInt (rd_w k28 (rd_w k16 ef1 rfl) rfl)
    refine ev_goto rfl rfl ?_
    exact (kk 0 h28 ((by decide : B 0 0 0).mono (by decide) (by decide)) hJ28 (by have z0_ := congrArg Int32.toInt (rd_w k28 ef17 rfl); have z1_ := congrArg Int32.toInt (rd_w k28 (rd_w k16 ef7 rfl) rfl); have z2_ := congrArg Int32.toInt (rd_w k28 (rd_w k16 ef8 rfl) rfl); have z_ := w_lits; have zl_ := l_lits; omega) (by have z0_ := congrArg Int32.toInt (rd_w k28 ef17 rfl); have z1_ := congrArg Int32.toInt (rd_w k28 (rd_w k16 ef7 rfl) rfl); have z2_ := congrArg Int32.toInt (rd_w k28 (rd_w k16 ef8 rfl) rfl); have z3_ := congrArg Int32.toInt (rd_w k28 (rd_w k16 ef9 rfl) rfl); have z_ := w_lits; have zl_ := l_lits; omega) (by have z0_ := congrArg Int32.toInt (rd_w k28 ef17 rfl); have z1_ := congrArg Int32.toInt (rd_w k28 (rd_w k16 ef7 rfl) rfl); have z2_ := congrArg Int32.toInt (rd_w k28 (rd_w k16 ef9 rfl) rfl); have z3_ := congrArg Int32.toInt (rd_w k28 (rd_w k16 ef10 rfl) rfl); have z_ := w_lits; have zl_ := l_lits; omega) (by have z0_ := congrArg Int32.toInt (rd_w k28 ef17 rfl); have z1_ := congrArg Int32.toInt (rd_w k28 (rd_w k16 ef7 rfl) rfl); have z2_ := congrArg Int32.toInt (rd_w k28 (rd_w k16 ef10 rfl) rfl); have z3_ := congrArg Int32.toInt (rd_w k28 (rd_w k16 ef11 rfl) rfl); have z_ := w_lits; have zl_ := l_lits; omega) (by have z0_ := congrArg Int32.toInt (rd_w k28 (rd_w k16 ef1 rfl) rfl); have z1_ := congrArg Int32.toInt ef29; have z_ := w_lits; have zl_ := l_lits; omega) (by have z0_ := congrArg Int32.toInt ef30; have z1_ := congrArg Int32.toInt ef31; have z2_ := congrArg Int32.toInt ef32; have z_ := w_lits; have zl_ := l_lits; omega) (by have z0_ := congrArg Int32.toInt ef29; have z1_ := congrArg Int32.toInt ef30; have z2_ := congrArg Int32.toInt ef32; have z_ := w_lits; have zl_ := l_lits; omega))
  · have b14 : B f5 1 1 := R_eqX bf5 (by decide : B 1 1 1) c12
    have z15 := congrArg Int32.toInt c12
    rw [show (1 : Int32).toInt = 1 from by decide] at z15
    refine ev_aload_n rfl rfl rfl ?_
    refine ev_getV (v := f4) rfl rfl fl_X10_207 rfl rfl rfl ef4 ?_
    refine ev_goto rfl rfl ?_
    have b34 : B f4 0 4095 := ⟨(by have z0_ := congrArg Int32.toInt ef1; have z1_ := congrArg Int32.toInt ef2; have z2_ := congrArg Int32.toInt ef3; have z3_ := congrArg Int32.toInt ef4; have z4_ := congrArg Int32.toInt ef5; have z5_ := congrArg Int32.toInt ef6; have z6_ := congrArg Int32.toInt ef7; have z7_ := congrArg Int32.toInt ef8; have z8_ := congrArg Int32.toInt ef9; have z9_ := congrArg Int32.toInt ef10; have z10_ := congrArg Int32.toInt ef11; have z_ := w_lits; have zl_ := l_lits; omega), (by have z0_ := congrArg Int32.toInt ef1; have z1_ := congrArg Int32.toInt ef2; have z2_ := congrArg Int32.toInt ef3; have z3_ := congrArg Int32.toInt ef4; have z4_ := congrArg Int32.toInt ef5; have z5_ := congrArg Int32.toInt ef6; have z6_ := congrArg Int32.toInt ef7; have z7_ := congrArg Int32.toInt ef8; have z8_ := congrArg Int32.toInt ef9; have z9_ := congrArg Int32.toInt ef10; have z10_ := congrArg Int32.toInt ef11; have z_ := w_lits; have zl_ := l_lits; omega)⟩
    refine ev_V1K hJe rfl rfl rfl lk_X10_247 vt_X10_beatRead rfl rfl rfl rfl rfl (w_X10_beatRead_63 L b h hJe.1 f4 b34 (by have z0_ := congrArg Int32.toInt ef6; have z1_ := congrArg Int32.toInt ef7; have z2_ := congrArg Int32.toInt ef8; have z_ := w_lits; have zl_ := l_lits; omega) (by have z0_ := congrArg Int32.toInt ef6; have z1_ := congrArg Int32.toInt ef7; have z2_ := congrArg Int32.toInt ef8; have z3_ := congrArg Int32.toInt ef9; have z_ := w_lits; have zl_ := l_lits; omega) (by have z0_ := congrArg Int32.toInt ef6; have z1_ := congrArg Int32.toInt ef7; have z2_ := congrArg Int32.toInt ef9; have z3_ := congrArg Int32.toInt ef10; have z_ := w_lits; have zl_ := l_lits; omega) (by have z0_ := congrArg Int32.toInt ef6; have z1_ := congrArg Int32.toInt ef7; have z2_ := congrArg Int32.toInt ef10; have z3_ := congrArg Int32.toInt ef11; have z_ := w_lits; have zl_ := l_lits; omega)) (fun h35 hJ35 k35 m35 => ?_)
    obtain ⟨m35_0, m35_1, m35_2, m35_3⟩ := m35
    obtain ⟨f36, ef36⟩ : ∃ f_, h35 63 27 = f_ := ⟨_, rfl⟩
    have bf36 : B f36 0 60 := by have z_ := hJ35.1 63 27; rw [ef36] at z_; exact z_
    have zf36 := congrArg Int32.toInt ef36
    have z37 := congrArg Int32.toInt (rd_w k35 ef7 rfl)
    have z38 := congrArg Int32.toInt (rd_w k35 ef8 rfl)
    have z39 := congrArg Int32.toInt (rd_w k35 ef9 rfl)
    have z40 := congrArg Int32.toInt (rd_w k35 ef10 rfl)
    have z41 := congrArg Int32.toInt (rd_w k35 ef11 rfl)
    refine ev_iconst (v := 0) rfl rfl (by decide) ?_
    refine ev_istore_n rfl rfl rfl rfl ?_
    dsimp only [List.set]
    refine ev_aload_n rfl rfl rfl ?_
    have z42 := congrArg Int32.toInt (rd_w k35 ef1 rfl)
    have z43 := congrArg Int32.toInt (rd_w k35 ef2 rfl)
    have z44 := congrArg Int32.toInt (rd_w k35 ef3 rfl)
    have z45 := congrArg Int32.toInt (rd_w k35 ef4 rfl)
    have z46 := congrArg Int32.toInt (rd_w k35 ef5 rfl)
    refine ev_V0K hJ35 rfl rfl rfl lk_X10_251 vt_X10_next rfl rfl rfl rfl rfl (w_X10_next_63 L b h35 hJ35.1 (by have z0_ := congrArg Int32.toInt (rd_w k35 ef1 rfl); have z1_ := congrArg Int32.toInt (rd_w k35 ef2 rfl); have z_ := w_lits; have zl_ := l_lits; omega)) (fun h47 hJ47 k47 m47 => ?_)
    obtain ⟨m47_0, m47_1, m47_2, m47_3, m47_4⟩ := m47
    obtain ⟨f48, ef48⟩ : ∃ f_, h47 63 17 = f_ := ⟨_, rfl⟩
    have bf48 : B f48 0 160 := by have z_ := hJ47.1 63 17; rw [ef48] at z_; exact z_
    have zf48 := congrArg Int32.toInt ef48
    obtain ⟨f49, ef49⟩ : ∃ f_, h47 63 21 = f_ := ⟨_, rfl⟩
    have bf49 : B f49 0 6 := by have z_ := hJ47.1 63 21; rw [ef49] at z_; exact z_
    have zf49 := congrArg Int32.toInt ef49
    obtain ⟨f50, ef50⟩ : ∃ f_, h47 63 20 = f_ := ⟨_, rfl⟩
    have zf50 := congrArg Int32.toInt ef50
    obtain ⟨f51, ef51⟩ : ∃ f_, h47 63 19 = f_ := ⟨_, rfl⟩
    have bf51 : B f51 0 3 := by have z_ := hJ47.1 63 19; rw [ef51] at z_; exact z_
    have zf51 := congrArg Int32.toInt ef51
    have z52 := congrArg Int32.toInt (rd_w k47 (rd_w k35 ef1 rfl) rfl)
    refine ev_goto rfl rfl ?_
    exact (kk 0 h47 ((by decide : B 0 0 0).mono (by decide) (by decide)) hJ47 (by have z0_ := congrArg Int32.toInt (rd_w k47 ef36 rfl); have z1_ := congrArg Int32.toInt (rd_w k47 (rd_w k35 ef7 rfl) rfl); have z2_ := congrArg Int32.toInt (rd_w k47 (rd_w k35 ef8 rfl) rfl); have z_ := w_lits; have zl_ := l_lits; omega) (by have z0_ := congrArg Int32.toInt (rd_w k47 ef36 rfl); have z1_ := congrArg Int32.toInt (rd_w k47 (rd_w k35 ef7 rfl) rfl); have z2_ := congrArg Int32.toInt (rd_w k47 (rd_w k35 ef8 rfl) rfl); have z3_ := congrArg Int32.toInt (rd_w k47 (rd_w k35 ef9 rfl) rfl); have z_ := w_lits; have zl_ := l_lits; omega) (by have z0_ := congrArg Int32.toInt (rd_w k47 ef36 rfl); have z1_ := congrArg Int32.toInt (rd_w k47 (rd_w k35 ef7 rfl) rfl); have z2_ := congrArg Int32.toInt (rd_w k47 (rd_w k35 ef9 rfl) rfl); have z3_ := congrArg Int32.toInt (rd_w k47 (rd_w k35 ef10 rfl) rfl); have z_ := w_lits; have zl_ := l_lits; omega) (by have z0_ := congrArg Int32.toInt (rd_w k47 ef36 rfl); have z1_ := congrArg Int32.toInt (rd_w k47 (rd_w k35 ef7 rfl) rfl); have z2_ := congrArg Int32.toInt (rd_w k47 (rd_w k35 ef10 rfl) rfl); have z3_ := congrArg Int32.toInt (rd_w k47 (rd_w k35 ef11 rfl) rfl); have z_ := w_lits; have zl_ := l_lits; omega) (by have z0_ := congrArg Int32.toInt (rd_w k47 (rd_w k35 ef1 rfl) rfl); have z1_ := congrArg Int32.toInt ef48; have z_ := w_lits; have zl_ := l_lits; omega) (by have z0_ := congrArg Int32.toInt ef49; have z1_ := congrArg Int32.toInt ef50; have z2_ := congrArg Int32.toInt ef51; have z_ := w_lits; have zl_ := l_lits; omega) (by have z0_ := congrArg Int32.toInt ef48; have z1_ := congrArg Int32.toInt ef49; have z2_ := congrArg Int32.toInt ef51; have z_ := w_lits; have zl_ := l_lits; omega))

