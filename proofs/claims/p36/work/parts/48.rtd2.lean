/-- the order of openAt -/
def RM (m : Hp) : Prop := (0 < (m 63 31).toInt → (m 76 0).toInt ≤ (m 63 27).toInt) ∧ (1 < (m 63 31).toInt → (m 76 0).toInt ≤ (m 76 1).toInt ∧ (m 76 1).toInt ≤ (m 63 27).toInt) ∧ (2 < (m 63 31).toInt → (m 76 1).toInt ≤ (m 76 2).toInt ∧ (m 76 2).toInt ≤ (m 63 27).toInt) ∧ (3 < (m 63 31).toInt → (m 76 2).toInt ≤ (m 76 3).toInt ∧ (m 76 3).toInt ≤ (m 63 27).toInt)
theorem RM.zero {m : Hp} (e : m 63 31 = 0) : RM m := by
  have z := congrArg Int32.toInt e
  have zl : (0 : Int32).toInt = 0 := by decide
  refine ⟨fun q => ?_, fun q => ?_, fun q => ?_, fun q => ?_⟩ <;> exact absurd q (by omega)
theorem RM.call {W : List (Nat × Nat)} {m m1 : Hp} (h : RM m) (hJ : JW W m m1) (h1 : wm W 63 27 = false) (h2 : wm W 63 31 = false) (h3 : ∀ j, wm W 76 j = false) : RM m1 := by
  unfold RM
  rw [hJ.2 63 27 h1, hJ.2 63 31 h2, hJ.2 76 0 (h3 0), hJ.2 76 1 (h3 1), hJ.2 76 2 (h3 2), hJ.2 76 3 (h3 3)]
  exact h

set_option maxRecDepth 100000 in
set_option maxHeartbeats 4000000 in
theorem w_rt84 (L : Nat) (b : Bool) (he h : Hp) (hJe : JW [(63, 17), (63, 18), (63, 19), (63, 20), (63, 21), (63, 22), (63, 27), (63, 28), (63, 31), (75, 999), (76, 999), (77, 999)] he h) (Q : Pst) (l1 : Int32) (pl1 : B l1 0 1) (l2 : Int32) (pl2 : B l2 1 1) (rp0 : (h 63 17).toInt ≤ (h 63 16).toInt) (rp1 : (h 63 21).toInt = 0) (rp2 : ¬ (h 63 19).toInt = 0) (hRM : RM h) (kk : ∀ (m1 : Int32) (h' : Hp), B m1 0 1 → JW [(63, 17), (63, 18), (63, 19), (63, 20), (63, 21), (63, 22), (63, 27), (63, 28), (63, 31), (75, 999), (76, 999), (77, 999)] he h' → ((0 < (h' 63 31).toInt → (h' 76 0).toInt ≤ (h' 63 27).toInt)) → ((1 < (h' 63 31).toInt → (h' 76 0).toInt ≤ (h' 76 1).toInt ∧ (h' 76 1).toInt ≤ (h' 63 27).toInt)) → ((2 < (h' 63 31).toInt → (h' 76 1).toInt ≤ (h' 76 2).toInt ∧ (h' 76 2).toInt ≤ (h' 63 27).toInt)) → ((3 < (h' 63 31).toInt → (h' 76 2).toInt ≤ (h' 76 3).toInt ∧ (h' 76 3).toInt ≤ (h' 63 27).toInt)) → ((h' 63 17).toInt ≤ (h' 63 16).toInt) → ((h' 63 21).toInt = 0 → (h' 63 19).toInt = 1 → 0 ≤ (h' 63 20).toInt ∧ (h' 63 20).toInt ≤ 4095) → ((¬ (h' 63 21).toInt = 0) ∨ (h 63 17).toInt + 1 ≤ (h' 63 17).toInt ∨ ((h' 63 19).toInt = 0 ∧ (h 63 17).toInt ≤ (h' 63 17).toInt)) → EvQ mi_X10_readTune 19 [some (.ref 63), some (.int m1), some (.int l2), none] [] (G0 L b) h' 0 0 Q) : EvQ mi_X10_readTune 84 [some (.ref 63), some (.int l1), some (.int l2), none] [] (G0 L b) h 0 0 Q := by
  obtain ⟨f1, ef1⟩ : ∃ f_, h 63 16 = f_ := ⟨_, rfl⟩
  have bf1 : B f1 0 160 := by have z_ := hJe.1 63 16; rw [ef1] at z_; exact z_
  have zf1 := congrArg Int32.toInt ef1
  obtain ⟨f2, ef2⟩ : ∃ f_, h 63 17 = f_ := ⟨_, rfl⟩
  have bf2 : B f2 0 160 := by have z_ := hJe.1 63 17; rw [ef2] at z_; exact z_
  have zf2 := congrArg Int32.toInt ef2
  obtain ⟨f3, ef3⟩ : ∃ f_, h 63 21 = f_ := ⟨_, rfl⟩
  have bf3 : B f3 0 6 := by have z_ := hJe.1 63 21; rw [ef3] at z_; exact z_
  have zf3 := congrArg Int32.toInt ef3
  obtain ⟨f4, ef4⟩ : ∃ f_, h 63 20 = f_ := ⟨_, rfl⟩
  have zf4 := congrArg Int32.toInt ef4
  obtain ⟨f5, ef5⟩ : ∃ f_, h 63 19 = f_ := ⟨_, rfl⟩
  have bf5 : B f5 0 3 := by have z_ := hJe.1 63 19; rw [ef5] at z_; exact z_
  have zf5 := congrArg Int32.toInt ef5
  refine ev_aload_n rfl rfl rfl ?_
  refine ev_aload_n rfl rfl rfl ?_
  refine ev_getV (v := f4) rfl rfl fl_X10_207 rfl rfl rfl ef4 ?_
  refine ev_i2l rfl rfl ?_
  have z6 := Int32.toInt_toInt64 f4
  have z6b := B.any f4
  refine ev_lconst (v := 1) rfl rfl rfl ?_
  refine ev_ldc2 (v := 20) rfl rfl kc_X10_167 ?_
  refine ev_S3P rfl rfl lk_X10_124 st_X10_in rfl rfl (w_inR (G0 L b) h f4 1 20 (by decide : BL 1 1 1) (by decide : BL 20 20 20)) (fun r7 q7 => ?_)
  obtain ⟨b7, p7_0, pp7_0, pp7_1⟩ := q7
  refine ev_iconst (v := 3) rfl rfl (by decide) ?_
  refine ev_V2K hJe rfl rfl rfl lk_X10_230 vt_X10_wants rfl rfl rfl rfl rfl (w_X10_wants_63 L b h hJe.1 r7 b7 3 ((by decide : B 3 3 3).mono (by decide) (by decide))) (fun h8 hJ8 k8 m8 => ?_)
  obtain ⟨f9, ef9⟩ : ∃ f_, h8 63 21 = f_ := ⟨_, rfl⟩
  have bf9 : B f9 0 6 := by have z_ := hJ8.1 63 21; rw [ef9] at z_; exact z_
  have zf9 := congrArg Int32.toInt ef9
  refine ev_aload_n rfl rfl rfl ?_
  refine ev_getV (v := f4) rfl rfl fl_X10_207 rfl rfl rfl (rd_w k8 ef4 rfl) ?_
  refine ev_istore_n rfl rfl rfl rfl ?_
  dsimp only [List.set]
  refine ev_aload_n rfl rfl rfl ?_
  have z10 := congrArg Int32.toInt (rd_w k8 ef1 rfl)
  have z11 := congrArg Int32.toInt (rd_w k8 ef2 rfl)
  have z12 := congrArg Int32.toInt (rd_w k8 ef4 rfl)
  have z13 := congrArg Int32.toInt (rd_w k8 ef5 rfl)
  refine ev_V0K hJ8 rfl rfl rfl lk_X10_251 vt_X10_next rfl rfl rfl rfl rfl (w_X10_next_63 L b h8 hJ8.1 (by have z0_ := congrArg Int32.toInt (rd_w k8 ef1 rfl); have z1_ := congrArg Int32.toInt (rd_w k8 ef2 rfl); have z_ := w_lits; have zl_ := l_lits; omega)) (fun h14 hJ14 k14 m14 => ?_)
  obtain ⟨m14_0, m14_1, m14_2, m14_3, m14_4⟩ := m14
  obtain ⟨f15, ef15⟩ : ∃ f_, h14 63 17 = f_ := ⟨_, rfl⟩
  have bf15 : B f15 0 160 := by have z_ := hJ14.1 63 17; rw [ef15] at z_; exact z_
  have zf15 := congrArg Int32.toInt ef15
  obtain ⟨f16, ef16⟩ : ∃ f_, h14 63 21 = f_ := ⟨_, rfl⟩
  have bf16 : B f16 0 6 := by have z_ := hJ14.1 63 21; rw [ef16] at z_; exact z_
  have zf16 := congrArg Int32.toInt ef16
  obtain ⟨f17, ef17⟩ : ∃ f_, h14 63 20 = f_ := ⟨_, rfl⟩
  have zf17 := congrArg Int32.toInt ef17
  obtain ⟨f18, ef18⟩ : ∃ f_, h14 63 19 = f_ := ⟨_, rfl⟩
  have bf18 : B f18 0 3 := by have z_ := hJ14.1 63 19; rw [ef18] at z_; exact z_
  have zf18 := congrArg Int32.toInt ef18
  have z19 := congrArg Int32.toInt (rd_w k14 (rd_w k8 ef1 rfl) rfl)
  have rm20 := (RM.call (RM.call hRM k8 rfl rfl (fun _ => rfl)) k14 rfl rfl (fun _ => rfl))
  exact (w_rt110 L b he h14 hJ14 Q l1 pl1 l2 pl2 f4 rm20.1 rm20.2.1 rm20.2.2.1 rm20.2.2.2 (by have z0_ := congrArg Int32.toInt (rd_w k14 (rd_w k8 ef1 rfl) rfl); have z1_ := congrArg Int32.toInt ef15; have z_ := w_lits; have zl_ := l_lits; omega) (by have z0_ := congrArg Int32.toInt ef16; have z1_ := congrArg Int32.toInt ef17; have z2_ := congrArg Int32.toInt ef18; have z_ := w_lits; have zl_ := l_lits; omega) (by have z0_ := congrArg Int32.toInt ef16; have z_ := w_lits; have zl_ := l_lits; omega) (fun m1_ h_ b1_ j_ r0_ r1_ r2_ r3_ r4_ r5_ rd_ => kk m1_ h_ b1_ j_ r0_ r1_ r2_ r3_ r4_ r5_ (by have z0_ := congrArg Int32.toInt ef15; have z1_ := rd_; have z_ := w_lits; have zl_ := l_lits; omega)))

