set_option maxRecDepth 100000 in
set_option maxHeartbeats 4000000 in
theorem w_rt139 (L : Nat) (b : Bool) (he h : Hp) (hJe : JW [(63, 17), (63, 18), (63, 19), (63, 20), (63, 21), (63, 22), (63, 27), (63, 28), (63, 31), (75, 999), (76, 999), (77, 999)] he h) (Q : Pst) (l1 : Int32) (pl1 : B l1 0 1) (l2 : Int32) (pl2 : B l2 1 1) (l3 : Int32) (rp0 : (0 < (h 63 31).toInt → (h 76 0).toInt ≤ (h 63 27).toInt)) (rp1 : (1 < (h 63 31).toInt → (h 76 0).toInt ≤ (h 76 1).toInt ∧ (h 76 1).toInt ≤ (h 63 27).toInt)) (rp2 : (2 < (h 63 31).toInt → (h 76 1).toInt ≤ (h 76 2).toInt ∧ (h 76 2).toInt ≤ (h 63 27).toInt)) (rp3 : (3 < (h 63 31).toInt → (h 76 2).toInt ≤ (h 76 3).toInt ∧ (h 76 3).toInt ≤ (h 63 27).toInt)) (rp4 : (h 63 17).toInt ≤ (h 63 16).toInt) (rp5 : (h 63 21).toInt = 0 → (h 63 19).toInt = 1 → 0 ≤ (h 63 20).toInt ∧ (h 63 20).toInt ≤ 4095) (rp6 : (h 63 21).toInt = 0 → 1 ≤ l3.toInt ∧ l3.toInt ≤ 20) (rp7 : (h 63 21).toInt = 0 → (h 63 31).toInt < 4) (kk : ∀ (m1 : Int32) (h' : Hp), B m1 0 1 → JW [(63, 17), (63, 18), (63, 19), (63, 20), (63, 21), (63, 22), (63, 27), (63, 28), (63, 31), (75, 999), (76, 999), (77, 999)] he h' → ((0 < (h' 63 31).toInt → (h' 76 0).toInt ≤ (h' 63 27).toInt)) → ((1 < (h' 63 31).toInt → (h' 76 0).toInt ≤ (h' 76 1).toInt ∧ (h' 76 1).toInt ≤ (h' 63 27).toInt)) → ((2 < (h' 63 31).toInt → (h' 76 1).toInt ≤ (h' 76 2).toInt ∧ (h' 76 2).toInt ≤ (h' 63 27).toInt)) → ((3 < (h' 63 31).toInt → (h' 76 2).toInt ≤ (h' 76 3).toInt ∧ (h' 76 3).toInt ≤ (h' 63 27).toInt)) → ((h' 63 17).toInt ≤ (h' 63 16).toInt) → ((h' 63 21).toInt = 0 → (h' 63 19).toInt = 1 → 0 ≤ (h' 63 20).toInt ∧ (h' 63 20).toInt ≤ 4095) → ((¬ (h' 63 21).toInt = 0) ∨ (h 63 17).toInt + 1 ≤ (h' 63 17).toInt ∨ ((h' 63 19).toInt = 0 ∧ (h 63 17).toInt ≤ (h' 63 17).toInt)) → EvQ mi_X10_readTune 19 [some (.ref 63), some (.int m1), some (.int l2), none] [] (G0 L b) h' 0 0 Q) : EvQ mi_X10_readTune 139 [some (.ref 63), some (.int l1), some (.int l2), some (.int l3)] [] (G0 L b) h 0 0 Q := by
  obtain ⟨f1, ef1⟩ : ∃ f_, h 63 16 = f_ := ⟨_, rfl⟩
  have bf1 : B f1 0 160 := by have z_ := hJe.1 63 16; rw [ef1] at z_; exact z_
  have zf1 := congrArg Int32.toInt ef1
  obtain ⟨f2, ef2⟩ : ∃ f_, h 63 17 = f_ := ⟨_, rfl⟩
  have bf2 : B f2 0 160 := by have z_ := hJe.1 63 17; rw [ef2] at z_; exact z_
  have zf2 := congrArg Int32.toInt ef2
  obtain ⟨f3, ef3⟩ : ∃ f_, h 63 21 = f_ := ⟨_, rfl⟩
  have bf3 : B f3 0 6 := by have z_ := hJe.1 63 21; rw [ef3] at z_; exact z_
  have zf3 := congrArg Int32.toInt ef3
  obtain ⟨f4, ef4⟩ : ∃ f_, h 63 20 = f_ := ⟨_, rfl⟩
  have zf4 := congrArg Int32.toInt ef4
  obtain ⟨f5, ef5⟩ : ∃ f_, h 63 19 = f_ := ⟨_, rfl⟩
  have bf5 : B f5 0 3 := by have z_ := hJe.1 63 19; rw [ef5] at z_; exact z_
  have zf5 := congrArg Int32.toInt ef5
  obtain ⟨f6, ef6⟩ : ∃ f_, h 63 27 = f_ := ⟨_, rfl⟩
  have bf6 : B f6 0 60 := by have z_ := hJe.1 63 27; rw [ef6] at z_; exact z_
  have zf6 := congrArg Int32.toInt ef6
  obtain ⟨f7, ef7⟩ : ∃ f_, h 63 31 = f_ := ⟨_, rfl⟩
  have bf7 : B f7 0 4 := by have z_ := hJe.1 63 31; rw [ef7] at z_; exact z_
  have zf7 := congrArg Int32.toInt ef7
  obtain ⟨f8, ef8⟩ : ∃ f_, h 76 0 = f_ := ⟨_, rfl⟩
  have bf8 : B f8 0 60 := by have z_ := hJe.1 76 0; rw [ef8] at z_; exact z_
  have zf8 := congrArg Int32.toInt ef8
  obtain ⟨f9, ef9⟩ : ∃ f_, h 76 1 = f_ := ⟨_, rfl⟩
  have bf9 : B f9 0 60 := by have z_ := hJe.1 76 1; rw [ef9] at z_; exact z_
  have zf9 := congrArg Int32.toInt ef9
  obtain ⟨f10, ef10⟩ : ∃ f_, h 76 2 = f_ := ⟨_, rfl⟩
  have bf10 : B f10 0 60 := by have z_ := hJe.1 76 2; rw [ef10] at z_; exact z_
  have zf10 := congrArg Int32.toInt ef10
  obtain ⟨f11, ef11⟩ : ∃ f_, h 76 3 = f_ := ⟨_, rfl⟩
  have bf11 : B f11 0 60 := by have z_ := hJe.1 76 3; rw [ef11] at z_; exact z_
  have zf11 := congrArg Int32.toInt ef11
  refine ev_aload_n rfl rfl rfl ?_
  refine ev_getV (v := f3) rfl rfl fl_X10_191 rfl rfl rfl ef3 ?_
  refine ev_if_ne rfl rfl (fun c12 => ?_) (fun c12 => ?_)
  · have b13 : B f3 1 6 := R_neL bf3 (by decide : B 0 0 0) c12 (by decide)
    have z14 := w_ne c12
    rw [show (0 : Int32).toInt = 0 from by decide] at z14
    refine ev_aload_n rfl rfl rfl ?_
    refine ev_V0K hJe rfl rfl rfl lk_X10_251 vt_X10_next rfl rfl rfl rfl rfl (w_X10_next_63 L b h hJe.1 (by have z0_ := congrArg Int32.toInt ef1; have z1_ := congrArg Int32.toInt ef2; have z_ := w_lits; have zl_ := l_lits; omega)) (fun h17 hJ17 k17 m17 => ?_)
    obtain ⟨m17_0, m17_1, m17_2, m17_3, m17_4⟩ := m17
    obtain ⟨f18, ef18⟩ : ∃ f_, h17 63 17 = f_ := ⟨_, rfl⟩
    have bf18 : B f18 0 160 := by have z_ := hJ17.1 63 17; rw [ef18] at z_; exact z_
    have zf18 := congrArg Int32.toInt ef18
    obtain ⟨f19, ef19⟩ : ∃ f_, h17 63 21 = f_ := ⟨_, rfl⟩
    have bf19 : B f19 0 6 := by have z_ := hJ17.1 63 21; rw [ef19] at z_; exact z_
    have zf19 := congrArg Int32.toInt ef19
    obtain ⟨f20, ef20⟩ : ∃ f_, h17 63 20 = f_ := ⟨_, rfl⟩
    have zf20 := congrArg Int32.toInt ef20
    obtain ⟨f21, ef21⟩ : ∃ f_, h17 63 19 = f_ := ⟨_, rfl⟩
    have bf21 : B f21 0 3 := by have z_ := hJ17.1 63 19; rw [ef21] at z_; exact z_
    have zf21 := congrArg Int32.toInt ef21
    have z22 := congrArg Int32.toInt (rd_w k17 ef1 rfl)
    refine ev_goto rfl rfl ?_
    exact (EvQ.drop 3 (kk l1 h17 pl1 hJ17 (by have z0_ := congrArg Int32.toInt (rd_w k17 ef6 rfl); have z1_ := congrArg Int32.toInt (rd_w k17 ef7 rfl); have z2_ := congrArg Int32.toInt (rd_w k17 ef8 rfl); have z_ := w_lits; have zl_ := l_lits; omega) (by have z0_ := congrArg Int32.toInt (rd_w k17 ef6 rfl); have z1_ := congrArg Int32.toInt (rd_w k17 ef7 rfl); have z2_ := congrArg Int32.toInt (rd_w k17 ef8 rfl); have z3_ := congrArg Int32.toInt (rd_w k17 ef9 rfl); have z_ := w_lits; have zl_ := l_lits; omega) (by have z0_ := congrArg Int32.toInt (rd_w k17 ef6 rfl); have z1_ := congrArg Int32.toInt (rd_w k17 ef7 rfl); have z2_ := congrArg Int32.toInt (rd_w k17 ef9 rfl); have z3_ := congrArg Int32.toInt (rd_w k17 ef10 rfl); have z_ := w_lits; have zl_ := l_lits; omega) (by have z0_ := congrArg Int32.toInt (rd_w k17 ef6 rfl); have z1_ := congrArg Int32.toInt (rd_w k17 ef7 rfl); have z2_ := congrArg Int32.toInt (rd_w k17 ef10 rfl); have z3_ := congrArg Int32.toInt (rd_w k17 ef11 rfl); have z_ := w_lits; have zl_ := l_lits; omega) (by have z0_ := congrArg Int32.toInt (rd_w k17 ef1 rfl); have z1_ := congrArg Int32.toInt ef18; have z_ := w_lits; have zl_ := l_lits; omega) (by have z0_ := congrArg Int32.toInt ef19; have z1_ := congrArg Int32.toInt ef20; have z2_ := congrArg Int32.toInt ef21; have z_ := w_lits; have zl_ := l_lits; omega) (by have z0_ := congrArg Int32.toInt ef18; have z1_ := congrArg Int32.toInt ef19; have z2_ := congrArg Int32.toInt ef21; have z_ := w_lits; have zl_ := l_lits; omega)))
  · have b15 : B f3 0 0 := R_eqX bf3 (by decide : B 0 0 0) c12
    have z16 := congrArg Int32.toInt c12
    rw [show (0 : Int32).toInt = 0 from by decide] at z16
    refine ev_aload_n rfl rfl rfl ?_
    refine ev_getR (y := 76) rfl rfl fl_X10_60 rfl rfl rfl rfl ?_
    refine ev_aload_n rfl rfl rfl ?_
    refine ev_getV (v := f7) rfl rfl fl_X10_241 rfl rfl rfl ef7 ?_
    rcases B.c5 bf7 with rfl | rfl | rfl | rfl | rfl
    · refine ev_aload_n rfl rfl rfl ?_
      refine ev_getV (v := f6) rfl rfl fl_X10_234 rfl rfl rfl ef6 ?_
      refine ev_iasK (j := 0) (n := 5) (l := 0) (u := 60) hJe (by decide : B 0 0 0) (by decide) (by decide) (by decide) rfl bf6 (by decide) (by decide) rfl rfl rfl rfl rfl (fun h23 hJ23 k23 => ?_)
      refine ev_aload_n rfl rfl rfl ?_
      refine ev_getR (y := 77) rfl rfl fl_X10_63 rfl rfl rfl rfl ?_
      refine ev_aload_n rfl rfl rfl ?_
      refine ev_getV (v := 0) rfl rfl fl_X10_241 rfl rfl rfl (rd_a k23 ef7 rfl) ?_
      refine ev_iload_n rfl rfl rfl ?_
      have b24 : B l3 0 20 := ⟨(by have z0_ := congrArg Int32.toInt (rd_a k23 ef1 rfl); have z1_ := congrArg Int32.toInt (rd_a k23 ef2 rfl); have z2_ := congrArg Int32.toInt (rd_a k23 ef3 rfl); have z3_ := congrArg Int32.toInt (rd_a k23 ef4 rfl); have z4_ := congrArg Int32.toInt (rd_a k23 ef5 rfl); have z5_ := congrArg Int32.toInt (rd_a k23 ef6 rfl); have z6_ := congrArg Int32.toInt (rd_a k23 ef7 rfl); have z7_ := congrArg Int32.toInt (rd_s k23); have z8_ := congrArg Int32.toInt (rd_o k23 ef9 rfl); have z9_ := congrArg Int32.toInt (rd_o k23 ef10 rfl); have z10_ := congrArg Int32.toInt (rd_o k23 ef11 rfl); have z_ := w_lits; have zl_ := l_lits; omega), (by have z0_ := congrArg Int32.toInt (rd_a k23 ef1 rfl); have z1_ := congrArg Int32.toInt (rd_a k23 ef2 rfl); have z2_ := congrArg Int32.toInt (rd_a k23 ef3 rfl); have z3_ := congrArg Int32.toInt (rd_a k23 ef4 rfl); have z4_ := congrArg Int32.toInt (rd_a k23 ef5 rfl); have z5_ := congrArg Int32.toInt (rd_a k23 ef6 rfl); have z6_ := congrArg Int32.toInt (rd_a k23 ef7 rfl); have z7_ := congrArg Int32.toInt (rd_s k23); have z8_ := congrArg Int32.toInt (rd_o k23 ef9 rfl); have z9_ := congrArg Int32.toInt (rd_o k23 ef10 rfl); have z10_ := congrArg Int32.toInt (rd_o k23 ef11 rfl); have z_ := w_lits; have zl_ := l_lits; omega)⟩
      refine ev_iasW (n := 5) (l := 0) (u := 20) hJ23 (by decide : B 0 0 0) (by decide) (by decide) (fun _ => rfl) b24 (by decide) (by decide) (fun _ => rfl) rfl rfl rfl rfl (fun h25 hJ25 k25 => ?_)
      refine ev_aload_n rfl rfl rfl ?_
      refine ev_dup rfl rfl rfl ?_
      refine ev_getV (v := 0) rfl rfl fl_X10_241 rfl rfl rfl (rd_a k25 (rd_a k23 ef7 rfl) rfl) ?_
      refine ev_iconst (v := 1) rfl rfl (by decide) ?_
      refine ev_iaddB (l := 1) (u := 1) rfl rfl (by decide : B 0 0 0) (by decide : B 1 1 1) (by decide) (by decide) (by decide) (by decide) (fun v26 b26 e26 g26 => ?_)
      have e26x := e26; rw [show (0 : Int32).toInt = 0 from by decide] at e26x
      have e26xx := e26x; rw [show (1 : Int32).toInt = 1 from by decide] at e26xx
      have b27 : B v26 0 4 := ⟨(by have z0_ := congrArg Int32.toInt (rd_a k25 (rd_a k23 ef1 rfl) rfl); have z1_ := congrArg Int32.toInt (rd_a k25 (rd_a k23 ef2 rfl) rfl); have z2_ := congrArg Int32.toInt (rd_a k25 (rd_a k23 ef3 rfl) rfl); have z3_ := congrArg Int32.toInt (rd_a k25 (rd_a k23 ef4 rfl) rfl); have z4_ := congrArg Int32.toInt (rd_a k25 (rd_a k23 ef5 rfl) rfl); have z5_ := congrArg Int32.toInt (rd_a k25 (rd_a k23 ef6 rfl) rfl); have z6_ := congrArg Int32.toInt (rd_a k25 (rd_a k23 ef7 rfl) rfl); have z7_ := congrArg Int32.toInt (rd_a k25 (rd_s k23) rfl); have z8_ := congrArg Int32.toInt (rd_a k25 (rd_o k23 ef9 rfl) rfl); have z9_ := congrArg Int32.toInt (rd_a k25 (rd_o k23 ef10 rfl) rfl); have z10_ := congrArg Int32.toInt (rd_a k25 (rd_o k23 ef11 rfl) rfl); have z_ := w_lits; have zl_ := l_lits; omega), (by have z0_ := congrArg Int32.toInt (rd_a k25 (rd_a k23 ef1 rfl) rfl); have z1_ := congrArg Int32.toInt (rd_a k25 (rd_a k23 ef2 rfl) rfl); have z2_ := congrArg Int32.toInt (rd_a k25 (rd_a k23 ef3 rfl) rfl); have z3_ := congrArg Int32.toInt (rd_a k25 (rd_a k23 ef4 rfl) rfl); have z4_ := congrArg Int32.toInt (rd_a k25 (rd_a k23 ef5 rfl) rfl); have z5_ := congrArg Int32.toInt (rd_a k25 (rd_a k23 ef6 rfl) rfl); have z6_ := congrArg Int32.toInt (rd_a k25 (rd_a k23 ef7 rfl) rfl); have z7_ := congrArg Int32.toInt (rd_a k25 (rd_s k23) rfl); have z8_ := congrArg Int32.toInt (rd_a k25 (rd_o k23 ef9 rfl) rfl); have z9_ := congrArg Int32.toInt (rd_a k25 (rd_o k23 ef10 rfl) rfl); have z10_ := congrArg Int32.toInt (rd_a k25 (rd_o k23 ef11 rfl) rfl); have z_ := w_lits; have zl_ := l_lits; omega)⟩
      refine ev_putW (l := 0) (u := 4) hJ25 rfl b27 (by decide) (by decide) rfl rfl rfl fl_X10_241 rfl rfl rfl rfl rfl (fun h28 hJ28 k28 => ?_)
      refine ev_iconst (v := 1) rfl rfl (by decide) ?_
      refine ev_istore_n rfl rfl rfl rfl ?_
      dsimp only [List.set]
      refine ev_aload_n rfl rfl rfl ?_
      have z29 := congrArg Int32.toInt (rd_o k28 (rd_a k25 (rd_a k23 ef1 rfl) rfl) rfl)
      have z30 := congrArg Int32.toInt (rd_o k28 (rd_a k25 (rd_a k23 ef2 rfl) rfl) rfl)
      have z31 := congrArg Int32.toInt (rd_o k28 (rd_a k25 (rd_a k23 ef3 rfl) rfl) rfl)
      have z32 := congrArg Int32.toInt (rd_o k28 (rd_a k25 (rd_a k23 ef4 rfl) rfl) rfl)
      have z33 := congrArg Int32.toInt (rd_o k28 (rd_a k25 (rd_a k23 ef5 rfl) rfl) rfl)
      refine ev_V0K hJ28 rfl rfl rfl lk_X10_251 vt_X10_next rfl rfl rfl rfl rfl (w_X10_next_63 L b h28 hJ28.1 (by have z0_ := congrArg Int32.toInt (rd_o k28 (rd_a k25 (rd_a k23 ef1 rfl) rfl) rfl); have z1_ := congrArg Int32.toInt (rd_o k28 (rd_a k25 (rd_a k23 ef2 rfl) rfl) rfl); have z_ := w_lits; have zl_ := l_lits; omega)) (fun h34 hJ34 k34 m34 => ?_)
      obtain ⟨m34_0, m34_1, m34_2, m34_3, m34_4⟩ := m34
      obtain ⟨f35, ef35⟩ : ∃ f_, h34 63 17 = f_ := ⟨_, rfl⟩
      have bf35 : B f35 0 160 := by have z_ := hJ34.1 63 17; rw [ef35] at z_; exact z_
      have zf35 := congrArg Int32.toInt ef35
      obtain ⟨f36, ef36⟩ : ∃ f_, h34 63 21 = f_ := ⟨_, rfl⟩
      have bf36 : B f36 0 6 := by have z_ := hJ34.1 63 21; rw [ef36] at z_; exact z_
      have zf36 := congrArg Int32.toInt ef36
      obtain ⟨f37, ef37⟩ : ∃ f_, h34 63 20 = f_ := ⟨_, rfl⟩
      have zf37 := congrArg Int32.toInt ef37
      obtain ⟨f38, ef38⟩ : ∃ f_, h34 63 19 = f_ := ⟨_, rfl⟩
      have bf38 : B f38 0 3 := by have z_ := hJ34.1 63 19; rw [ef38] at z_; exact z_
      have zf38 := congrArg Int32.toInt ef38
      have z39 := congrArg Int32.toInt (rd_w k34 (rd_o k28 (rd_a k25 (rd_a k23 ef1 rfl) rfl) rfl) rfl)
      refine ev_goto rfl rfl ?_
      exact (EvQ.drop 3 (kk 1 h34 ((by decide : B 1 1 1).mono (by decide) (by decide)) hJ34 (by have z0_ := congrArg Int32.toInt (rd_w k34 (rd_o k28 (rd_a k25 (rd_a k23 ef6 rfl) rfl) rfl) rfl); have z1_ := congrArg Int32.toInt (rd_w k34 (rd_s k28) rfl); have z2_ := congrArg Int32.toInt (rd_w k34 (rd_o k28 (rd_a k25 (rd_s k23) rfl) rfl) rfl); have z_ := w_lits; have zl_ := l_lits; omega) (by have z0_ := congrArg Int32.toInt (rd_w k34 (rd_o k28 (rd_a k25 (rd_a k23 ef6 rfl) rfl) rfl) rfl); have z1_ := congrArg Int32.toInt (rd_w k34 (rd_s k28) rfl); have z2_ := congrArg Int32.toInt (rd_w k34 (rd_o k28 (rd_a k25 (rd_s k23) rfl) rfl) rfl); have z3_ := congrArg Int32.toInt (rd_w k34 (rd_o k28 (rd_a k25 (rd_o k23 ef9 rfl) rfl) rfl) rfl); have z_ := w_lits; have zl_ := l_lits; omega) (by have z0_ := congrArg Int32.toInt (rd_w k34 (rd_o k28 (rd_a k25 (rd_a k23 ef6 rfl) rfl) rfl) rfl); have z1_ := congrArg Int32.toInt (rd_w k34 (rd_s k28) rfl); have z2_ := congrArg Int32.toInt (rd_w k34 (rd_o k28 (rd_a k25 (rd_o k23 ef9 rfl) rfl) rfl) rfl); have z3_ := congrArg Int32.toInt (rd_w k34 (rd_o k28 (rd_a k25 (rd_o k23 ef10 rfl) rfl) rfl) rfl); have z_ := w_lits; have zl_ := l_lits; omega) (by have z0_ := congrArg Int32.toInt (rd_w k34 (rd_o k28 (rd_a k25 (rd_a k23 ef6 rfl) rfl) rfl) rfl); have z1_ := congrArg Int32.toInt (rd_w k34 (rd_s k28) rfl); have z2_ := congrArg Int32.toInt (rd_w k34 (rd_o k28 (rd_a k25 (rd_o k23 ef10 rfl) rfl) rfl) rfl); have z3_ := congrArg Int32.toInt (rd_w k34 (rd_o k28 (rd_a k25 (rd_o k23 ef11 rfl) rfl) rfl) rfl); have z_ := w_lits; have zl_ := l_lits; omega) (by have z0_ := congrArg Int32.toInt (rd_w k34 (rd_o k28 (rd_a k25 (rd_a k23 ef1 rfl) rfl) rfl) rfl); have z1_ := congrArg Int32.toInt ef35; have z_ := w_lits; have zl_ := l_lits; omega) (by have z0_ := congrArg Int32.toInt ef36; have z1_ := congrArg Int32.toInt ef37; have z2_ := congrArg Int32.toInt ef38; have z_ := w_lits; have zl_ := l_lits; omega) (by have z0_ := congrArg Int32.toInt ef35; have z1_ := congrArg Int32.toInt ef36; have z2_ := congrArg Int32.toInt ef38; have z_ := w_lits; have zl_ := l_lits; omega)))
    · refine ev_aload_n rfl rfl rfl ?_
      refine ev_getV (v := f6) rfl rfl fl_X10_234 rfl rfl rfl ef6 ?_
      refine ev_iasK (j := 1) (n := 5) (l := 0) (u := 60) hJe (by decide : B 1 1 1) (by decide) (by decide) (by decide) rfl bf6 (by decide) (by decide) rfl rfl rfl rfl rfl (fun h40 hJ40 k40 => ?_)
      refine ev_aload_n rfl rfl rfl ?_
      refine ev_getR (y := 77) rfl rfl fl_X10_63 rfl rfl rfl rfl ?_
      refine ev_aload_n rfl rfl rfl ?_
      refine ev_getV (v := 1) rfl rfl fl_X10_241 rfl rfl rfl (rd_a k40 ef7 rfl) ?_
      refine ev_iload_n rfl rfl rfl ?_
      have b41 : B l3 0 20 := ⟨(by have z0_ := congrArg Int32.toInt (rd_a k40 ef1 rfl); have z1_ := congrArg Int32.toInt (rd_a k40 ef2 rfl); have z2_ := congrArg Int32.toInt (rd_a k40 ef3 rfl); have z3_ := congrArg Int32.toInt (rd_a k40 ef4 rfl); have z4_ := congrArg Int32.toInt (rd_a k40 ef5 rfl); have z5_ := congrArg Int32.toInt (rd_a k40 ef6 rfl); have z6_ := congrArg Int32.toInt (rd_a k40 ef7 rfl); have z7_ := congrArg Int32.toInt (rd_o k40 ef8 rfl); have z8_ := congrArg Int32.toInt (rd_s k40); have z9_ := congrArg Int32.toInt (rd_o k40 ef10 rfl); have z10_ := congrArg Int32.toInt (rd_o k40 ef11 rfl); have z_ := w_lits; have zl_ := l_lits; omega), (by have z0_ := congrArg Int32.toInt (rd_a k40 ef1 rfl); have z1_ := congrArg Int32.toInt (rd_a k40 ef2 rfl); have z2_ := congrArg Int32.toInt (rd_a k40 ef3 rfl); have z3_ := congrArg Int32.toInt (rd_a k40 ef4 rfl); have z4_ := congrArg Int32.toInt (rd_a k40 ef5 rfl); have z5_ := congrArg Int32.toInt (rd_a k40 ef6 rfl); have z6_ := congrArg Int32.toInt (rd_a k40 ef7 rfl); have z7_ := congrArg Int32.toInt (rd_o k40 ef8 rfl); have z8_ := congrArg Int32.toInt (rd_s k40); have z9_ := congrArg Int32.toInt (rd_o k40 ef10 rfl); have z10_ := congrArg Int32.toInt (rd_o k40 ef11 rfl); have z_ := w_lits; have zl_ := l_lits; omega)⟩
      refine ev_iasW (n := 5) (l := 0) (u := 20) hJ40 (by decide : B 1 1 1) (by decide) (by decide) (fun _ => rfl) b41 (by decide) (by decide) (fun _ => rfl) rfl rfl rfl rfl (fun h42 hJ42 k42 => ?_)
      refine ev_aload_n rfl rfl rfl ?_
      refine ev_dup rfl rfl rfl ?_
      refine ev_getV (v := 1) rfl rfl fl_X10_241 rfl rfl rfl (rd_a k42 (rd_a k40 ef7 rfl) rfl) ?_
      refine ev_iconst (v := 1) rfl rfl (by decide) ?_
      refine ev_iaddB (l := 2) (u := 2) rfl rfl (by decide : B 1 1 1) (by decide : B 1 1 1) (by decide) (by decide) (by decide) (by decide) (fun v43 b43 e43 g43 => ?_)
      have e43x := e43; rw [show (1 : Int32).toInt = 1 from by decide] at e43x
      have b44 : B v43 0 4 := ⟨(by have z0_ := congrArg Int32.toInt (rd_a k42 (rd_a k40 ef1 rfl) rfl); have z1_ := congrArg Int32.toInt (rd_a k42 (rd_a k40 ef2 rfl) rfl); have z2_ := congrArg Int32.toInt (rd_a k42 (rd_a k40 ef3 rfl) rfl); have z3_ := congrArg Int32.toInt (rd_a k42 (rd_a k40 ef4 rfl) rfl); have z4_ := congrArg Int32.toInt (rd_a k42 (rd_a k40 ef5 rfl) rfl); have z5_ := congrArg Int32.toInt (rd_a k42 (rd_a k40 ef6 rfl) rfl); have z6_ := congrArg Int32.toInt (rd_a k42 (rd_a k40 ef7 rfl) rfl); have z7_ := congrArg Int32.toInt (rd_a k42 (rd_o k40 ef8 rfl) rfl); have z8_ := congrArg Int32.toInt (rd_a k42 (rd_s k40) rfl); have z9_ := congrArg Int32.toInt (rd_a k42 (rd_o k40 ef10 rfl) rfl); have z10_ := congrArg Int32.toInt (rd_a k42 (rd_o k40 ef11 rfl) rfl); have z_ := w_lits; have zl_ := l_lits; omega), (by have z0_ := congrArg Int32.toInt (rd_a k42 (rd_a k40 ef1 rfl) rfl); have z1_ := congrArg Int32.toInt (rd_a k42 (rd_a k40 ef2 rfl) rfl); have z2_ := congrArg Int32.toInt (rd_a k42 (rd_a k40 ef3 rfl) rfl); have z3_ := congrArg Int32.toInt (rd_a k42 (rd_a k40 ef4 rfl) rfl); have z4_ := congrArg Int32.toInt (rd_a k42 (rd_a k40 ef5 rfl) rfl); have z5_ := congrArg Int32.toInt (rd_a k42 (rd_a k40 ef6 rfl) rfl); have z6_ := congrArg Int32.toInt (rd_a k42 (rd_a k40 ef7 rfl) rfl); have z7_ := congrArg Int32.toInt (rd_a k42 (rd_o k40 ef8 rfl) rfl); have z8_ := congrArg Int32.toInt (rd_a k42 (rd_s k40) rfl); have z9_ := congrArg Int32.toInt (rd_a k42 (rd_o k40 ef10 rfl) rfl); have z10_ := congrArg Int32.toInt (rd_a k42 (rd_o k40 ef11 rfl) rfl); have z_ := w_lits; have zl_ := l_lits; omega)⟩
      refine ev_putW (l := 0) (u := 4) hJ42 rfl b44 (by decide) (by decide) rfl rfl rfl fl_X10_241 rfl rfl rfl rfl rfl (fun h45 hJ45 k45 => ?_)
      refine ev_iconst (v := 1) rfl rfl (by decide) ?_
      refine ev_istore_n rfl rfl rfl rfl ?_
      dsimp only [List.set]
      refine ev_aload_n rfl rfl rfl ?_
      have z46 := congrArg Int32.toInt (rd_o k45 (rd_a k42 (rd_a k40 ef1 rfl) rfl) rfl)
      have z47 := congrArg Int32.toInt (rd_o k45 (rd_a k42 (rd_a k40 ef2 rfl) rfl) rfl)
      have z48 := congrArg Int32.toInt (rd_o k45 (rd_a k42 (rd_a k40 ef3 rfl) rfl) rfl)
      have z49 := congrArg Int32.toInt (rd_o k45 (rd_a k42 (rd_a k40 ef4 rfl) rfl) rfl)
      have z50 := congrArg Int32.toInt (rd_o k45 (rd_a k42 (rd_a k40 ef5 rfl) rfl) rfl)
      refine ev_V0K hJ45 rfl rfl rfl lk_X10_251 vt_X10_next rfl rfl rfl rfl rfl (w_X10_next_63 L b h45 hJ45.1 (by have z0_ := congrArg Int32.toInt (rd_o k45 (rd_a k42 (rd_a k40 ef1 rfl) rfl) rfl); have z1_ := congrArg Int32.toInt (rd_o k45 (rd_a k42 (rd_a k40 ef2 rfl) rfl) rfl); have z_ := w_lits; have zl_ := l_lits; omega)) (fun h51 hJ51 k51 m51 => ?_)
      obtain ⟨m51_0, m51_1, m51_2, m51_3, m51_4⟩ := m51
      obtain ⟨f52, ef52⟩ : ∃ f_, h51 63 17 = f_ := ⟨_, rfl⟩
      have bf52 : B f52 0 160 := by have z_ := hJ51.1 63 17; rw [ef52] at z_; exact z_
      have zf52 := congrArg Int32.toInt ef52
      obtain ⟨f53, ef53⟩ : ∃ f_, h51 63 21 = f_ := ⟨_, rfl⟩
      have bf53 : B f53 0 6 := by have z_ := hJ51.1 63 21; rw [ef53] at z_; exact z_
      have zf53 := congrArg Int32.toInt ef53
      obtain ⟨f54, ef54⟩ : ∃ f_, h51 63 20 = f_ := ⟨_, rfl⟩
      have zf54 := congrArg Int32.toInt ef54
      obtain ⟨f55, ef55⟩ : ∃ f_, h51 63 19 = f_ := ⟨_, rfl⟩
      have bf55 : B f55 0 3 := by have z_ := hJ51.1 63 19; rw [ef55] at z_; exact z_
      have zf55 := congrArg Int32.toInt ef55
      have z56 := congrArg Int32.toInt (rd_w k51 (rd_o k45 (rd_a k42 (rd_a k40 ef1 rfl) rfl) rfl) rfl)
      refine ev_goto rfl rfl ?_
      exact (EvQ.drop 3 (kk 1 h51 ((by decide : B 1 1 1).mono (by decide) (by decide)) hJ51 (by have z0_ := congrArg Int32.toInt (rd_w k51 (rd_o k45 (rd_a k42 (rd_a k40 ef6 rfl) rfl) rfl) rfl); have z1_ := congrArg Int32.toInt (rd_w k51 (rd_s k45) rfl); have z2_ := congrArg Int32.toInt (rd_w k51 (rd_o k45 (rd_a k42 (rd_o k40 ef8 rfl) rfl) rfl) rfl); have z_ := w_lits; have zl_ := l_lits; omega) (by have z0_ := congrArg Int32.toInt (rd_w k51 (rd_o k45 (rd_a k42 (rd_a k40 ef6 rfl) rfl) rfl) rfl); have z1_ := congrArg Int32.toInt (rd_w k51 (rd_s k45) rfl); have z2_ := congrArg Int32.toInt (rd_w k51 (rd_o k45 (rd_a k42 (rd_o k40 ef8 rfl) rfl) rfl) rfl); have z3_ := congrArg Int32.toInt (rd_w k51 (rd_o k45 (rd_a k42 (rd_s k40) rfl) rfl) rfl); have z_ := w_lits; have zl_ := l_lits; omega) (by have z0_ := congrArg Int32.toInt (rd_w k51 (rd_o k45 (rd_a k42 (rd_a k40 ef6 rfl) rfl) rfl) rfl); have z1_ := congrArg Int32.toInt (rd_w k51 (rd_s k45) rfl); have z2_ := congrArg Int32.toInt (rd_w k51 (rd_o k45 (rd_a k42 (rd_s k40) rfl) rfl) rfl); have z3_ := congrArg Int32.toInt (rd_w k51 (rd_o k45 (rd_a k42 (rd_o k40 ef10 rfl) rfl) rfl) rfl); have z_ := w_lits; have zl_ := l_lits; omega) (by have z0_ := congrArg Int32.toInt (rd_w k51 (rd_o k45 (rd_a k42 (rd_a k40 ef6 rfl) rfl) rfl) rfl); have z1_ := congrArg Int32.toInt (rd_w k51 (rd_s k45) rfl); have z2_ := congrArg Int32.toInt (rd_w k51 (rd_o k45 (rd_a k42 (rd_o k40 ef10 rfl) rfl) rfl) rfl); have z3_ := congrArg Int32.toInt (rd_w k51 (rd_o k45 (rd_a k42 (rd_o k40 ef11 rfl) rfl) rfl) rfl); have z_ := w_lits; have zl_ := l_lits; omega) (by have z0_ := congrArg Int32.toInt (rd_w k51 (rd_o k45 (rd_a k42 (rd_a k40 ef1 rfl) rfl) rfl) rfl); have z1_ := congrArg Int32.toInt ef52; have z_ := w_lits; have zl_ := l_lits; omega) (by have z0_ := congrArg Int32.toInt ef53; have z1_ := congrArg Int32.toInt ef54; have z2_ := congrArg Int32.toInt ef55; have z_ := w_lits; have zl_ := l_lits; omega) (by have z0_ := congrArg Int32.toInt ef52; have z1_ := congrArg Int32.toInt ef53; have z2_ := congrArg Int32.toInt ef55; have z_ := w_lits; have zl_ := l_lits; omega)))
    · refine ev_aload_n rfl rfl rfl ?_
      refine ev_getV (v := f6) rfl rfl fl_X10_234 rfl rfl rfl ef6 ?_
      refine ev_iasK (j := 2) (n := 5) (l := 0) (u := 60) hJe (by decide : B 2 2 2) (by decide) (by decide) (by decide) rfl bf6 (by decide) (by decide) rfl rfl rfl rfl rfl (fun h57 hJ57 k57 => ?_)
      refine ev_aload_n rfl rfl rfl ?_
      refine ev_getR (y := 77) rfl rfl fl_X10_63 rfl rfl rfl rfl ?_
      refine ev_aload_n rfl rfl rfl ?_
      refine ev_getV (v := 2) rfl rfl fl_X10_241 rfl rfl rfl (rd_a k57 ef7 rfl) ?_
      refine ev_iload_n rfl rfl rfl ?_
      have b58 : B l3 0 20 := ⟨(by have z0_ := congrArg Int32.toInt (rd_a k57 ef1 rfl); have z1_ := congrArg Int32.toInt (rd_a k57 ef2 rfl); have z2_ := congrArg Int32.toInt (rd_a k57 ef3 rfl); have z3_ := congrArg Int32.toInt (rd_a k57 ef4 rfl); have z4_ := congrArg Int32.toInt (rd_a k57 ef5 rfl); have z5_ := congrArg Int32.toInt (rd_a k57 ef6 rfl); have z6_ := congrArg Int32.toInt (rd_a k57 ef7 rfl); have z7_ := congrArg Int32.toInt (rd_o k57 ef8 rfl); have z8_ := congrArg Int32.toInt (rd_o k57 ef9 rfl); have z9_ := congrArg Int32.toInt (rd_s k57); have z10_ := congrArg Int32.toInt (rd_o k57 ef11 rfl); have z_ := w_lits; have zl_ := l_lits; omega), (by have z0_ := congrArg Int32.toInt (rd_a k57 ef1 rfl); have z1_ := congrArg Int32.toInt (rd_a k57 ef2 rfl); have z2_ := congrArg Int32.toInt (rd_a k57 ef3 rfl); have z3_ := congrArg Int32.toInt (rd_a k57 ef4 rfl); have z4_ := congrArg Int32.toInt (rd_a k57 ef5 rfl); have z5_ := congrArg Int32.toInt (rd_a k57 ef6 rfl); have z6_ := congrArg Int32.toInt (rd_a k57 ef7 rfl); have z7_ := congrArg Int32.toInt (rd_o k57 ef8 rfl); have z8_ := congrArg Int32.toInt (rd_o k57 ef9 rfl); have z9_ := congrArg Int32.toInt (rd_s k57); have z10_ := congrArg Int32.toInt (rd_o k57 ef11 rfl); have z_ := w_lits; have zl_ := l_lits; omega)⟩
      refine ev_iasW (n := 5) (l := 0) (u := 20) hJ57 (by decide : B 2 2 2) (by decide) (by decide) (fun _ => rfl) b58 (by decide) (by decide) (fun _ => rfl) rfl rfl rfl rfl (fun h59 hJ59 k59 => ?_)
      refine ev_aload_n rfl rfl rfl ?_
      refine ev_dup rfl rfl rfl ?_
      refine ev_getV (v := 2) rfl rfl fl_X10_241 rfl rfl rfl (rd_a k59 (rd_a k57 ef7 rfl) rfl) ?_
      refine ev_iconst (v := 1) rfl rfl (by decide) ?_
      refine ev_iaddB (l := 3) (u := 3) rfl rfl (by decide : B 2 2 2) (by decide : B 1 1 1) (by decide) (by decide) (by decide) (by decide) (fun v60 b60 e60 g60 => ?_)
      have e60x := e60; rw [show (2 : Int32).toInt = 2 from by decide] at e60x
      have e60xx := e60x; rw [show (1 : Int32).toInt = 1 from by decide] at e60xx
      have b61 : B v60 0 4 := ⟨(by have z0_ := congrArg Int32.toInt (rd_a k59 (rd_a k57 ef1 rfl) rfl); have z1_ := congrArg Int32.toInt (rd_a k59 (rd_a k57 ef2 rfl) rfl); have z2_ := congrArg Int32.toInt (rd_a k59 (rd_a k57 ef3 rfl) rfl); have z3_ := congrArg Int32.toInt (rd_a k59 (rd_a k57 ef4 rfl) rfl); have z4_ := congrArg Int32.toInt (rd_a k59 (rd_a k57 ef5 rfl) rfl); have z5_ := congrArg Int32.toInt (rd_a k59 (rd_a k57 ef6 rfl) rfl); have z6_ := congrArg Int32.toInt (rd_a k59 (rd_a k57 ef7 rfl) rfl); have z7_ := congrArg Int32.toInt (rd_a k59 (rd_o k57 ef8 rfl) rfl); have z8_ := congrArg Int32.toInt (rd_a k59 (rd_o k57 ef9 rfl) rfl); have z9_ := congrArg Int32.toInt (rd_a k59 (rd_s k57) rfl); have z10_ := congrArg Int32.toInt (rd_a k59 (rd_o k57 ef11 rfl) rfl); have z_ := w_lits; have zl_ := l_lits; omega), (by have z0_ := congrArg Int32.toInt (rd_a k59 (rd_a k57 ef1 rfl) rfl); have z1_ := congrArg Int32.toInt (rd_a k59 (rd_a k57 ef2 rfl) rfl); have z2_ := congrArg Int32.toInt (rd_a k59 (rd_a k57 ef3 rfl) rfl); have z3_ := congrArg Int32.toInt (rd_a k59 (rd_a k57 ef4 rfl) rfl); have z4_ := congrArg Int32.toInt (rd_a k59 (rd_a k57 ef5 rfl) rfl); have z5_ := congrArg Int32.toInt (rd_a k59 (rd_a k57 ef6 rfl) rfl); have z6_ := congrArg Int32.toInt (rd_a k59 (rd_a k57 ef7 rfl) rfl); have z7_ := congrArg Int32.toInt (rd_a k59 (rd_o k57 ef8 rfl) rfl); have z8_ := congrArg Int32.toInt (rd_a k59 (rd_o k57 ef9 rfl) rfl); have z9_ := congrArg Int32.toInt (rd_a k59 (rd_s k57) rfl); have z10_ := congrArg Int32.toInt (rd_a k59 (rd_o k57 ef11 rfl) rfl); have z_ := w_lits; have zl_ := l_lits; omega)⟩
      refine ev_putW (l := 0) (u := 4) hJ59 rfl b61 (by decide) (by decide) rfl rfl rfl fl_X10_241 rfl rfl rfl rfl rfl (fun h62 hJ62 k62 => ?_)
      refine ev_iconst (v := 1) rfl rfl (by decide) ?_
      refine ev_istore_n rfl rfl rfl rfl ?_
      dsimp only [List.set]
      refine ev_aload_n rfl rfl rfl ?_
      have z63 := congrArg Int32.toInt (rd_o k62 (rd_a k59 (rd_a k57 ef1 rfl) rfl) rfl)
      have z64 := congrArg Int32.toInt (rd_o k62 (rd_a k59 (rd_a k57 ef2 rfl) rfl) rfl)
      have z65 := congrArg Int32.toInt (rd_o k62 (rd_a k59 (rd_a k57 ef3 rfl) rfl) rfl)
      have z66 := congrArg Int32.toInt (rd_o k62 (rd_a k59 (rd_a k57 ef4 rfl) rfl) rfl)
      have z67 := congrArg Int32.toInt (rd_o k62 (rd_a k59 (rd_a k57 ef5 rfl) rfl) rfl)
      refine ev_V0K hJ62 rfl rfl rfl lk_X10_251 vt_X10_next rfl rfl rfl rfl rfl (w_X10_next_63 L b h62 hJ62.1 (by have z0_ := congrArg Int32.toInt (rd_o k62 (rd_a k59 (rd_a k57 ef1 rfl) rfl) rfl); have z1_ := congrArg Int32.toInt (rd_o k62 (rd_a k59 (rd_a k57 ef2 rfl) rfl) rfl); have z_ := w_lits; have zl_ := l_lits; omega)) (fun h68 hJ68 k68 m68 => ?_)
      obtain ⟨m68_0, m68_1, m68_2, m68_3, m68_4⟩ := m68
      obtain ⟨f69, ef69⟩ : ∃ f_, h68 63 17 = f_ := ⟨_, rfl⟩
      have bf69 : B f69 0 160 := by have z_ := hJ68.1 63 17; rw [ef69] at z_; exact z_
      have zf69 := congrArg Int32.toInt ef69
      obtain ⟨f70, ef70⟩ : ∃ f_, h68 63 21 = f_ := ⟨_, rfl⟩
      have bf70 : B f70 0 6 := by have z_ := hJ68.1 63 21; rw [ef70] at z_; exact z_
      have zf70 := congrArg Int32.toInt ef70
      obtain ⟨f71, ef71⟩ : ∃ f_, h68 63 20 = f_ := ⟨_, rfl⟩
      have zf71 := congrArg Int32.toInt ef71
      obtain ⟨f72, ef72⟩ : ∃ f_, h68 63 19 = f_ := ⟨_, rfl⟩
      have bf72 : B f72 0 3 := by have z_ := hJ68.1 63 19; rw [ef72] at z_; exact z_
      have zf72 := congrArg Int32.toInt ef72
      have z73 := congrArg Int32.toInt (rd_w k68 (rd_o k62 (rd_a k59 (rd_a k57 ef1 rfl) rfl) rfl) rfl)
      refine ev_goto rfl rfl ?_
      exact (EvQ.drop 3 (kk 1 h68 ((by decide : B 1 1 1).mono (by decide) (by decide)) hJ68 (by have z0_ := congrArg Int32.toInt (rd_w k68 (rd_o k62 (rd_a k59 (rd_a k57 ef6 rfl) rfl) rfl) rfl); have z1_ := congrArg Int32.toInt (rd_w k68 (rd_s k62) rfl); have z2_ := congrArg Int32.toInt (rd_w k68 (rd_o k62 (rd_a k59 (rd_o k57 ef8 rfl) rfl) rfl) rfl); have z_ := w_lits; have zl_ := l_lits; omega) (by have z0_ := congrArg Int32.toInt (rd_w k68 (rd_o k62 (rd_a k59 (rd_a k57 ef6 rfl) rfl) rfl) rfl); have z1_ := congrArg Int32.toInt (rd_w k68 (rd_s k62) rfl); have z2_ := congrArg Int32.toInt (rd_w k68 (rd_o k62 (rd_a k59 (rd_o k57 ef8 rfl) rfl) rfl) rfl); have z3_ := congrArg Int32.toInt (rd_w k68 (rd_o k62 (rd_a k59 (rd_o k57 ef9 rfl) rfl) rfl) rfl); have z_ := w_lits; have zl_ := l_lits; omega) (by have z0_ := congrArg Int32.toInt (rd_w k68 (rd_o k62 (rd_a k59 (rd_a k57 ef6 rfl) rfl) rfl) rfl); have z1_ := congrArg Int32.toInt (rd_w k68 (rd_s k62) rfl); have z2_ := congrArg Int32.toInt (rd_w k68 (rd_o k62 (rd_a k59 (rd_o k57 ef9 rfl) rfl) rfl) rfl); have z3_ := congrArg Int32.toInt (rd_w k68 (rd_o k62 (rd_a k59 (rd_s k57) rfl) rfl) rfl); have z_ := w_lits; have zl_ := l_lits; omega) (by have z0_ := congrArg Int32.toInt (rd_w k68 (rd_o k62 (rd_a k59 (rd_a k57 ef6 rfl) rfl) rfl) rfl); have z1_ := congrArg Int32.toInt (rd_w k68 (rd_s k62) rfl); have z2_ := congrArg Int32.toInt (rd_w k68 (rd_o k62 (rd_a k59 (rd_s k57) rfl) rfl) rfl); have z3_ := congrArg Int32.toInt (rd_w k68 (rd_o k62 (rd_a k59 (rd_o k57 ef11 rfl) rfl) rfl) rfl); have z_ := w_lits; have zl_ := l_lits; omega) (by have z0_ := congrArg Int32.toInt (rd_w k68 (rd_o k62 (rd_a k59 (rd_a k57 ef1 rfl) rfl) rfl) rfl); have z1_ := congrArg Int32.toInt ef69; have z_ := w_lits; have zl_ := l_lits; omega) (by have z0_ := congrArg Int32.toInt ef70; have z1_ := congrArg Int32.toInt ef71; have z2_ := congrArg Int32.toInt ef72; have z_ := w_lits; have zl_ := l_lits; omega) (by have z0_ := congrArg Int32.toInt ef69; have z1_ := congrArg Int32.toInt ef70; have z2_ := congrArg Int32.toInt ef72; have z_ := w_lits; have zl_ := l_lits; omega)))
    · refine ev_aload_n rfl rfl rfl ?_
      refine ev_getV (v := f6) rfl rfl fl_X10_234 rfl rfl rfl ef6 ?_
      refine ev_iasK (j := 3) (n := 5) (l := 0) (u := 60) hJe (by decide : B 3 3 3) (by decide) (by decide) (by decide) rfl bf6 (by decide) (by decide) rfl rfl rfl rfl rfl (fun h74 hJ74 k74 => ?_)
      refine ev_aload_n rfl rfl rfl ?_
      refine ev_getR (y := 77) rfl rfl fl_X10_63 rfl rfl rfl rfl ?_
      refine ev_aload_n rfl rfl rfl ?_
      refine ev_getV (v := 3) rfl rfl fl_X10_241 rfl rfl rfl (rd_a k74 ef7 rfl) ?_
      refine ev_iload_n rfl rfl rfl ?_
      have b75 : B l3 0 20 := ⟨(by have z0_ := congrArg Int32.toInt (rd_a k74 ef1 rfl); have z1_ := congrArg Int32.toInt (rd_a k74 ef2 rfl); have z2_ := congrArg Int32.toInt (rd_a k74 ef3 rfl); have z3_ := congrArg Int32.toInt (rd_a k74 ef4 rfl); have z4_ := congrArg Int32.toInt (rd_a k74 ef5 rfl); have z5_ := congrArg Int32.toInt (rd_a k74 ef6 rfl); have z6_ := congrArg Int32.toInt (rd_a k74 ef7 rfl); have z7_ := congrArg Int32.toInt (rd_o k74 ef8 rfl); have z8_ := congrArg Int32.toInt (rd_o k74 ef9 rfl); have z9_ := congrArg Int32.toInt (rd_o k74 ef10 rfl); have z10_ := congrArg Int32.toInt (rd_s k74); have z_ := w_lits; have zl_ := l_lits; omega), (by have z0_ := congrArg Int32.toInt (rd_a k74 ef1 rfl); have z1_ := congrArg Int32.toInt (rd_a k74 ef2 rfl); have z2_ := congrArg Int32.toInt (rd_a k74 ef3 rfl); have z3_ := congrArg Int32.toInt (rd_a k74 ef4 rfl); have z4_ := congrArg Int32.toInt (rd_a k74 ef5 rfl); have z5_ := congrArg Int32.toInt (rd_a k74 ef6 rfl); have z6_ := congrArg Int32.toInt (rd_a k74 ef7 rfl); have z7_ := congrArg Int32.toInt (rd_o k74 ef8 rfl); have z8_ := congrArg Int32.toInt (rd_o k74 ef9 rfl); have z9_ := congrArg Int32.toInt (rd_o k74 ef10 rfl); have z10_ := congrArg Int32.toInt (rd_s k74); have z_ := w_lits; have zl_ := l_lits; omega)⟩
      refine ev_iasW (n := 5) (l := 0) (u := 20) hJ74 (by decide : B 3 3 3) (by decide) (by decide) (fun _ => rfl) b75 (by decide) (by decide) (fun _ => rfl) rfl rfl rfl rfl (fun h76 hJ76 k76 => ?_)
      refine ev_aload_n rfl rfl rfl ?_
      refine ev_dup rfl rfl rfl ?_
      refine ev_getV (v := 3) rfl rfl fl_X10_241 rfl rfl rfl (rd_a k76 (rd_a k74 ef7 rfl) rfl) ?_
      refine ev_iconst (v := 1) rfl rfl (by decide) ?_
      refine ev_iaddB (l := 4) (u := 4) rfl rfl (by decide : B 3 3 3) (by decide : B 1 1 1) (by decide) (by decide) (by decide) (by decide) (fun v77 b77 e77 g77 => ?_)
      have e77x := e77; rw [show (3 : Int32).toInt = 3 from by decide] at e77x
      have e77xx := e77x; rw [show (1 : Int32).toInt = 1 from by decide] at e77xx
      have b78 : B v77 0 4 := ⟨(by have z0_ := congrArg Int32.toInt (rd_a k76 (rd_a k74 ef1 rfl) rfl); have z1_ := congrArg Int32.toInt (rd_a k76 (rd_a k74 ef2 rfl) rfl); have z2_ := congrArg Int32.toInt (rd_a k76 (rd_a k74 ef3 rfl) rfl); have z3_ := congrArg Int32.toInt (rd_a k76 (rd_a k74 ef4 rfl) rfl); have z4_ := congrArg Int32.toInt (rd_a k76 (rd_a k74 ef5 rfl) rfl); have z5_ := congrArg Int32.toInt (rd_a k76 (rd_a k74 ef6 rfl) rfl); have z6_ := congrArg Int32.toInt (rd_a k76 (rd_a k74 ef7 rfl) rfl); have z7_ := congrArg Int32.toInt (rd_a k76 (rd_o k74 ef8 rfl) rfl); have z8_ := congrArg Int32.toInt (rd_a k76 (rd_o k74 ef9 rfl) rfl); have z9_ := congrArg Int32.toInt (rd_a k76 (rd_o k74 ef10 rfl) rfl); have z10_ := congrArg Int32.toInt (rd_a k76 (rd_s k74) rfl); have z_ := w_lits; have zl_ := l_lits; omega), (by have z0_ := congrArg Int32.toInt (rd_a k76 (rd_a k74 ef1 rfl) rfl); have z1_ := congrArg Int32.toInt (rd_a k76 (rd_a k74 ef2 rfl) rfl); have z2_ := congrArg Int32.toInt (rd_a k76 (rd_a k74 ef3 rfl) rfl); have z3_ := congrArg Int32.toInt (rd_a k76 (rd_a k74 ef4 rfl) rfl); have z4_ := congrArg Int32.toInt (rd_a k76 (rd_a k74 ef5 rfl) rfl); have z5_ := congrArg Int32.toInt (rd_a k76 (rd_a k74 ef6 rfl) rfl); have z6_ := congrArg Int32.toInt (rd_a k76 (rd_a k74 ef7 rfl) rfl); have z7_ := congrArg Int32.toInt (rd_a k76 (rd_o k74 ef8 rfl) rfl); have z8_ := congrArg Int32.toInt (rd_a k76 (rd_o k74 ef9 rfl) rfl); have z9_ := congrArg Int32.toInt (rd_a k76 (rd_o k74 ef10 rfl) rfl); have z10_ := congrArg Int32.toInt (rd_a k76 (rd_s k74) rfl); have z_ := w_lits; have zl_ := l_lits; omega)⟩
      refine ev_putW (l := 0) (u := 4) hJ76 rfl b78 (by decide) (by decide) rfl rfl rfl fl_X10_241 rfl rfl rfl rfl rfl (fun h79 hJ79 k79 => ?_)
      refine ev_iconst (v := 1) rfl rfl (by decide) ?_
      refine ev_istore_n rfl rfl rfl rfl ?_
      dsimp only [List.set]
      refine ev_aload_n rfl rfl rfl ?_
      have z80 := congrArg Int32.toInt (rd_o k79 (rd_a k76 (rd_a k74 ef1 rfl) rfl) rfl)
      have z81 := congrArg Int32.toInt (rd_o k79 (rd_a k76 (rd_a k74 ef2 rfl) rfl) rfl)
      have z82 := congrArg Int32.toInt (rd_o k79 (rd_a k76 (rd_a k74 ef3 rfl) rfl) rfl)
      have z83 := congrArg Int32.toInt (rd_o k79 (rd_a k76 (rd_a k74 ef4 rfl) rfl) rfl)
      have z84 := congrArg Int32.toInt (rd_o k79 (rd_a k76 (rd_a k74 ef5 rfl) rfl) rfl)
      refine ev_V0K hJ79 rfl rfl rfl lk_X10_251 vt_X10_next rfl rfl rfl rfl rfl (w_X10_next_63 L b h79 hJ79.1 (by have z0_ := congrArg Int32.toInt (rd_o k79 (rd_a k76 (rd_a k74 ef1 rfl) rfl) rfl); have z1_ := congrArg Int32.toInt (rd_o k79 (rd_a k76 (rd_a k74 ef2 rfl) rfl) rfl); have z_ := w_lits; have zl_ := l_lits; omega)) (fun h85 hJ85 k85 m85 => ?_)
      obtain ⟨m85_0, m85_1, m85_2, m85_3, m85_4⟩ := m85
      obtain ⟨f86, ef86⟩ : ∃ f_, h85 63 17 = f_ := ⟨_, rfl⟩
      have bf86 : B f86 0 160 := by have z_ := hJ85.1 63 17; rw [ef86] at z_; exact z_
      have zf86 := congrArg Int32.toInt ef86
      obtain ⟨f87, ef87⟩ : ∃ f_, h85 63 21 = f_ := ⟨_, rfl⟩
      have bf87 : B f87 0 6 := by have z_ := hJ85.1 63 21; rw [ef87] at z_; exact z_
      have zf87 := congrArg Int32.toInt ef87
      obtain ⟨f88, ef88⟩ : ∃ f_, h85 63 20 = f_ := ⟨_, rfl⟩
      have zf88 := congrArg Int32.toInt ef88
      obtain ⟨f89, ef89⟩ : ∃ f_, h85 63 19 = f_ := ⟨_, rfl⟩
      have bf89 : B f89 0 3 := by have z_ := hJ85.1 63 19; rw [ef89] at z_; exact z_
      have zf89 := congrArg Int32.toInt ef89
      have z90 := congrArg Int32.toInt (rd_w k85 (rd_o k79 (rd_a k76 (rd_a k74 ef1 rfl) rfl) rfl) rfl)
      refine ev_goto rfl rfl ?_
      exact (EvQ.drop 3 (kk 1 h85 ((by decide : B 1 1 1).mono (by decide) (by decide)) hJ85 (by have z0_ := congrArg Int32.toInt (rd_w k85 (rd_o k79 (rd_a k76 (rd_a k74 ef6 rfl) rfl) rfl) rfl); have z1_ := congrArg Int32.toInt (rd_w k85 (rd_s k79) rfl); have z2_ := congrArg Int32.toInt (rd_w k85 (rd_o k79 (rd_a k76 (rd_o k74 ef8 rfl) rfl) rfl) rfl); have z_ := w_lits; have zl_ := l_lits; omega) (by have z0_ := congrArg Int32.toInt (rd_w k85 (rd_o k79 (rd_a k76 (rd_a k74 ef6 rfl) rfl) rfl) rfl); have z1_ := congrArg Int32.toInt (rd_w k85 (rd_s k79) rfl); have z2_ := congrArg Int32.toInt (rd_w k85 (rd_o k79 (rd_a k76 (rd_o k74 ef8 rfl) rfl) rfl) rfl); have z3_ := congrArg Int32.toInt (rd_w k85 (rd_o k79 (rd_a k76 (rd_o k74 ef9 rfl) rfl) rfl) rfl); have z_ := w_lits; have zl_ := l_lits; omega) (by have z0_ := congrArg Int32.toInt (rd_w k85 (rd_o k79 (rd_a k76 (rd_a k74 ef6 rfl) rfl) rfl) rfl); have z1_ := congrArg Int32.toInt (rd_w k85 (rd_s k79) rfl); have z2_ := congrArg Int32.toInt (rd_w k85 (rd_o k79 (rd_a k76 (rd_o k74 ef9 rfl) rfl) rfl) rfl); have z3_ := congrArg Int32.toInt (rd_w k85 (rd_o k79 (rd_a k76 (rd_o k74 ef10 rfl) rfl) rfl) rfl); have z_ := w_lits; have zl_ := l_lits; omega) (by have z0_ := congrArg Int32.toInt (rd_w k85 (rd_o k79 (rd_a k76 (rd_a k74 ef6 rfl) rfl) rfl) rfl); have z1_ := congrArg Int32.toInt (rd_w k85 (rd_s k79) rfl); have z2_ := congrArg Int32.toInt (rd_w k85 (rd_o k79 (rd_a k76 (rd_o k74 ef10 rfl) rfl) rfl) rfl); have z3_ := congrArg Int32.toInt (rd_w k85 (rd_o k79 (rd_a k76 (rd_s k74) rfl) rfl) rfl); have z_ := w_lits; have zl_ := l_lits; omega) (by have z0_ := congrArg Int32.toInt (rd_w k85 (rd_o k79 (rd_a k76 (rd_a k74 ef1 rfl) rfl) rfl) rfl); have z1_ := congrArg Int32.toInt ef86; have z_ := w_lits; have zl_ := l_lits; omega) (by have z0_ := congrArg Int32.toInt ef87; have z1_ := congrArg Int32.toInt ef88; have z2_ := congrArg Int32.toInt ef89; have z_ := w_lits; have zl_ := l_lits; omega) (by have z0_ := congrArg Int32.toInt ef86; have z1_ := congrArg Int32.toInt ef87; have z2_ := congrArg Int32.toInt ef89; have z_ := w_lits; have zl_ := l_lits; omega)))
    · refine ev_aload_n rfl rfl rfl ?_
      refine ev_getV (v := f6) rfl rfl fl_X10_234 rfl rfl rfl ef6 ?_
      refine ev_iasW (n := 5) (l := 0) (u := 60) hJe (by decide : B 4 4 4) (by decide) (by decide) (fun _ => rfl) bf6 (by decide) (by decide) (fun _ => rfl) rfl rfl rfl rfl (fun h91 hJ91 k91 => ?_)
      obtain ⟨f92, ef92⟩ : ∃ f_, h91 76 0 = f_ := ⟨_, rfl⟩
      have bf92 : B f92 0 60 := by have z_ := hJ91.1 76 0; rw [ef92] at z_; exact z_
      have zf92 := congrArg Int32.toInt ef92
      obtain ⟨f93, ef93⟩ : ∃ f_, h91 76 1 = f_ := ⟨_, rfl⟩
      have bf93 : B f93 0 60 := by have z_ := hJ91.1 76 1; rw [ef93] at z_; exact z_
      have zf93 := congrArg Int32.toInt ef93
      obtain ⟨f94, ef94⟩ : ∃ f_, h91 76 2 = f_ := ⟨_, rfl⟩
      have bf94 : B f94 0 60 := by have z_ := hJ91.1 76 2; rw [ef94] at z_; exact z_
      have zf94 := congrArg Int32.toInt ef94
      obtain ⟨f95, ef95⟩ : ∃ f_, h91 76 3 = f_ := ⟨_, rfl⟩
      have bf95 : B f95 0 60 := by have z_ := hJ91.1 76 3; rw [ef95] at z_; exact z_
      have zf95 := congrArg Int32.toInt ef95
      refine ev_aload_n rfl rfl rfl ?_
      refine ev_getR (y := 77) rfl rfl fl_X10_63 rfl rfl rfl rfl ?_
      refine ev_aload_n rfl rfl rfl ?_
      refine ev_getV (v := 4) rfl rfl fl_X10_241 rfl rfl rfl (rd_a k91 ef7 rfl) ?_
      refine ev_iload_n rfl rfl rfl ?_
      have b96 : B l3 0 20 := ⟨(by have z0_ := congrArg Int32.toInt (rd_a k91 ef1 rfl); have z1_ := congrArg Int32.toInt (rd_a k91 ef2 rfl); have z2_ := congrArg Int32.toInt (rd_a k91 ef3 rfl); have z3_ := congrArg Int32.toInt (rd_a k91 ef4 rfl); have z4_ := congrArg Int32.toInt (rd_a k91 ef5 rfl); have z5_ := congrArg Int32.toInt (rd_a k91 ef6 rfl); have z6_ := congrArg Int32.toInt (rd_a k91 ef7 rfl); have z7_ := congrArg Int32.toInt ef92; have z8_ := congrArg Int32.toInt ef93; have z9_ := congrArg Int32.toInt ef94; have z10_ := congrArg Int32.toInt ef95; have z_ := w_lits; have zl_ := l_lits; omega), (by have z0_ := congrArg Int32.toInt (rd_a k91 ef1 rfl); have z1_ := congrArg Int32.toInt (rd_a k91 ef2 rfl); have z2_ := congrArg Int32.toInt (rd_a k91 ef3 rfl); have z3_ := congrArg Int32.toInt (rd_a k91 ef4 rfl); have z4_ := congrArg Int32.toInt (rd_a k91 ef5 rfl); have z5_ := congrArg Int32.toInt (rd_a k91 ef6 rfl); have z6_ := congrArg Int32.toInt (rd_a k91 ef7 rfl); have z7_ := congrArg Int32.toInt ef92; have z8_ := congrArg Int32.toInt ef93; have z9_ := congrArg Int32.toInt ef94; have z10_ := congrArg Int32.toInt ef95; have z_ := w_lits; have zl_ := l_lits; omega)⟩
      refine ev_iasW (n := 5) (l := 0) (u := 20) hJ91 (by decide : B 4 4 4) (by decide) (by decide) (fun _ => rfl) b96 (by decide) (by decide) (fun _ => rfl) rfl rfl rfl rfl (fun h97 hJ97 k97 => ?_)
      refine ev_aload_n rfl rfl rfl ?_
      refine ev_dup rfl rfl rfl ?_
      refine ev_getV (v := 4) rfl rfl fl_X10_241 rfl rfl rfl (rd_a k97 (rd_a k91 ef7 rfl) rfl) ?_
      refine ev_iconst (v := 1) rfl rfl (by decide) ?_
      refine ev_iaddB (l := 5) (u := 5) rfl rfl (by decide : B 4 4 4) (by decide : B 1 1 1) (by decide) (by decide) (by decide) (by decide) (fun v98 b98 e98 g98 => ?_)
      have e98x := e98; rw [show (4 : Int32).toInt = 4 from by decide] at e98x
      have e98xx := e98x; rw [show (1 : Int32).toInt = 1 from by decide] at e98xx
      have b99 : B v98 0 4 := ⟨(by have z0_ := congrArg Int32.toInt (rd_a k97 (rd_a k91 ef1 rfl) rfl); have z1_ := congrArg Int32.toInt (rd_a k97 (rd_a k91 ef2 rfl) rfl); have z2_ := congrArg Int32.toInt (rd_a k97 (rd_a k91 ef3 rfl) rfl); have z3_ := congrArg Int32.toInt (rd_a k97 (rd_a k91 ef4 rfl) rfl); have z4_ := congrArg Int32.toInt (rd_a k97 (rd_a k91 ef5 rfl) rfl); have z5_ := congrArg Int32.toInt (rd_a k97 (rd_a k91 ef6 rfl) rfl); have z6_ := congrArg Int32.toInt (rd_a k97 (rd_a k91 ef7 rfl) rfl); have z7_ := congrArg Int32.toInt (rd_a k97 ef92 rfl); have z8_ := congrArg Int32.toInt (rd_a k97 ef93 rfl); have z9_ := congrArg Int32.toInt (rd_a k97 ef94 rfl); have z10_ := congrArg Int32.toInt (rd_a k97 ef95 rfl); have z_ := w_lits; have zl_ := l_lits; omega), (by have z0_ := congrArg Int32.toInt (rd_a k97 (rd_a k91 ef1 rfl) rfl); have z1_ := congrArg Int32.toInt (rd_a k97 (rd_a k91 ef2 rfl) rfl); have z2_ := congrArg Int32.toInt (rd_a k97 (rd_a k91 ef3 rfl) rfl); have z3_ := congrArg Int32.toInt (rd_a k97 (rd_a k91 ef4 rfl) rfl); have z4_ := congrArg Int32.toInt (rd_a k97 (rd_a k91 ef5 rfl) rfl); have z5_ := congrArg Int32.toInt (rd_a k97 (rd_a k91 ef6 rfl) rfl); have z6_ := congrArg Int32.toInt (rd_a k97 (rd_a k91 ef7 rfl) rfl); have z7_ := congrArg Int32.toInt (rd_a k97 ef92 rfl); have z8_ := congrArg Int32.toInt (rd_a k97 ef93 rfl); have z9_ := congrArg Int32.toInt (rd_a k97 ef94 rfl); have z10_ := congrArg Int32.toInt (rd_a k97 ef95 rfl); have z_ := w_lits; have zl_ := l_lits; omega)⟩
      refine ev_putW (l := 0) (u := 4) hJ97 rfl b99 (by decide) (by decide) rfl rfl rfl fl_X10_241 rfl rfl rfl rfl rfl (fun h100 hJ100 k100 => ?_)
      refine ev_iconst (v := 1) rfl rfl (by decide) ?_
      refine ev_istore_n rfl rfl rfl rfl ?_
      dsimp only [List.set]
      refine ev_aload_n rfl rfl rfl ?_
      have z101 := congrArg Int32.toInt (rd_o k100 (rd_a k97 (rd_a k91 ef1 rfl) rfl) rfl)
      have z102 := congrArg Int32.toInt (rd_o k100 (rd_a k97 (rd_a k91 ef2 rfl) rfl) rfl)
      have z103 := congrArg Int32.toInt (rd_o k100 (rd_a k97 (rd_a k91 ef3 rfl) rfl) rfl)
      have z104 := congrArg Int32.toInt (rd_o k100 (rd_a k97 (rd_a k91 ef4 rfl) rfl) rfl)
      have z105 := congrArg Int32.toInt (rd_o k100 (rd_a k97 (rd_a k91 ef5 rfl) rfl) rfl)
      refine ev_V0K hJ100 rfl rfl rfl lk_X10_251 vt_X10_next rfl rfl rfl rfl rfl (w_X10_next_63 L b h100 hJ100.1 (by have z0_ := congrArg Int32.toInt (rd_o k100 (rd_a k97 (rd_a k91 ef1 rfl) rfl) rfl); have z1_ := congrArg Int32.toInt (rd_o k100 (rd_a k97 (rd_a k91 ef2 rfl) rfl) rfl); have z_ := w_lits; have zl_ := l_lits; omega)) (fun h106 hJ106 k106 m106 => ?_)
      obtain ⟨m106_0, m106_1, m106_2, m106_3, m106_4⟩ := m106
      obtain ⟨f107, ef107⟩ : ∃ f_, h106 63 17 = f_ := ⟨_, rfl⟩
      have bf107 : B f107 0 160 := by have z_ := hJ106.1 63 17; rw [ef107] at z_; exact z_
      have zf107 := congrArg Int32.toInt ef107
      obtain ⟨f108, ef108⟩ : ∃ f_, h106 63 21 = f_ := ⟨_, rfl⟩
      have bf108 : B f108 0 6 := by have z_ := hJ106.1 63 21; rw [ef108] at z_; exact z_
      have zf108 := congrArg Int32.toInt ef108
      obtain ⟨f109, ef109⟩ : ∃ f_, h106 63 20 = f_ := ⟨_, rfl⟩
      have zf109 := congrArg Int32.toInt ef109
      obtain ⟨f110, ef110⟩ : ∃ f_, h106 63 19 = f_ := ⟨_, rfl⟩
      have bf110 : B f110 0 3 := by have z_ := hJ106.1 63 19; rw [ef110] at z_; exact z_
      have zf110 := congrArg Int32.toInt ef110
      have z111 := congrArg Int32.toInt (rd_w k106 (rd_o k100 (rd_a k97 (rd_a k91 ef1 rfl) rfl) rfl) rfl)
      refine ev_goto rfl rfl ?_
      exact (EvQ.drop 3 (kk 1 h106 ((by decide : B 1 1 1).mono (by decide) (by decide)) hJ106 (by have z0_ := congrArg Int32.toInt (rd_w k106 (rd_o k100 (rd_a k97 (rd_a k91 ef6 rfl) rfl) rfl) rfl); have z1_ := congrArg Int32.toInt (rd_w k106 (rd_s k100) rfl); have z2_ := congrArg Int32.toInt (rd_w k106 (rd_o k100 (rd_a k97 ef92 rfl) rfl) rfl); have z_ := w_lits; have zl_ := l_lits; omega) (by have z0_ := congrArg Int32.toInt (rd_w k106 (rd_o k100 (rd_a k97 (rd_a k91 ef6 rfl) rfl) rfl) rfl); have z1_ := congrArg Int32.toInt (rd_w k106 (rd_s k100) rfl); have z2_ := congrArg Int32.toInt (rd_w k106 (rd_o k100 (rd_a k97 ef92 rfl) rfl) rfl); have z3_ := congrArg Int32.toInt (rd_w k106 (rd_o k100 (rd_a k97 ef93 rfl) rfl) rfl); have z_ := w_lits; have zl_ := l_lits; omega) (by have z0_ := congrArg Int32.toInt (rd_w k106 (rd_o k100 (rd_a k97 (rd_a k91 ef6 rfl) rfl) rfl) rfl); have z1_ := congrArg Int32.toInt (rd_w k106 (rd_s k100) rfl); have z2_ := congrArg Int32.toInt (rd_w k106 (rd_o k100 (rd_a k97 ef93 rfl) rfl) rfl); have z3_ := congrArg Int32.toInt (rd_w k106 (rd_o k100 (rd_a k97 ef94 rfl) rfl) rfl); have z_ := w_lits; have zl_ := l_lits; omega) (by have z0_ := congrArg Int32.toInt (rd_w k106 (rd_o k100 (rd_a k97 (rd_a k91 ef6 rfl) rfl) rfl) rfl); have z1_ := congrArg Int32.toInt (rd_w k106 (rd_s k100) rfl); have z2_ := congrArg Int32.toInt (rd_w k106 (rd_o k100 (rd_a k97 ef94 rfl) rfl) rfl); have z3_ := congrArg Int32.toInt (rd_w k106 (rd_o k100 (rd_a k97 ef95 rfl) rfl) rfl); have z_ := w_lits; have zl_ := l_lits; omega) (by have z0_ := congrArg Int32.toInt (rd_w k106 (rd_o k100 (rd_a k97 (rd_a k91 ef1 rfl) rfl) rfl) rfl); have z1_ := congrArg Int32.toInt ef107; have z_ := w_lits; have zl_ := l_lits; omega) (by have z0_ := congrArg Int32.toInt ef108; have z1_ := congrArg Int32.toInt ef109; have z2_ := congrArg Int32.toInt ef110; have z_ := w_lits; have zl_ := l_lits; omega) (by have z0_ := congrArg Int32.toInt ef107; have z1_ := congrArg Int32.toInt ef108; have z2_ := congrArg Int32.toInt ef110; have z_ := w_lits; have zl_ := l_lits; omega)))
