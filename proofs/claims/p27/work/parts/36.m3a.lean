set_option maxRecDepth 100000 in
set_option maxHeartbeats 4000000 in
theorem w_X10_look_63 (L : Nat) (b : Bool) (h : Hp) (hB : Bx h) (a0 : Int32) (p0 : B a0 0 160) (t : Int32) (rt : h 72 a0.toNatClampNeg = t) : EvP mi_X10_look [.ref 63, .int a0] (G0 L b) h (fun r : Int32 => B r (-1) 255 ∧ (a0.toInt < (h 63 16).toInt → r.toInt = t.toInt) ∧ ((h 63 16).toInt ≤ a0.toInt → r.toInt = -1)) := by
  refine EvM.of2 (lo := [some (.ref 63), some (.int a0)]) pf_X10_look ok_X10_look rfl rfl ?_
  have bt : B t 0 255 := by have z_ := hB 72 a0.toNatClampNeg; rw [rt] at z_; exact z_
  obtain ⟨f1, ef1⟩ : ∃ f_, h 63 16 = f_ := ⟨_, rfl⟩
  have bf1 : B f1 0 160 := by have z_ := hB 63 16; rw [ef1] at z_; exact z_
  have zf1 := congrArg Int32.toInt ef1
  refine ev_iload_n rfl rfl rfl ?_
  refine ev_aload_n rfl rfl rfl ?_
  refine ev_getV (v := f1) rfl rfl fl_X10_186 rfl rfl rfl ef1 ?_
  refine ev_icmp_ge rfl rfl (fun c2 => ?_) (fun c2 => ?_)
  · have z3 := w_le c2
    refine ev_iconst (v := (-1)) rfl rfl (by decide) ?_
    exact ev_iret rfl rfl rfl ⟨⟨_, rfl, ⟨((by decide : B (-1) (-1) (-1)).mono (by decide) (by decide)), (by have z0_ := congrArg Int32.toInt ef1; have z_ := w_lits; have zl_ := l_lits; omega), (by have z0_ := congrArg Int32.toInt ef1; have z_ := w_lits; have zl_ := l_lits; omega)⟩⟩, rfl, rfl⟩
  · have b4 : B a0 0 159 := R_ltX p0 bf1 (Int32.not_le.mp c2) (by decide)
    have b5 : B f1 1 160 := R_ltY p0 bf1 (Int32.not_le.mp c2) (by decide)
    have z6 := w_lt (Int32.not_le.mp c2)
    refine ev_aload_n rfl rfl rfl ?_
    refine ev_getR (y := 72) rfl rfl fl_X10_48 rfl rfl rfl rfl ?_
    refine ev_iload_n rfl rfl rfl ?_
    refine ev_iadV (v := t) rfl rfl rfl (b4.vp (by decide) (by decide)) rfl rt ?_
    refine ev_goto rfl rfl ?_
    exact ev_iret rfl rfl rfl ⟨⟨_, rfl, ⟨(bt.mono (by decide) (by decide)), (by have z0_ := congrArg Int32.toInt ef1; have z_ := w_lits; have zl_ := l_lits; omega), (by have z0_ := congrArg Int32.toInt ef1; have z_ := w_lits; have zl_ := l_lits; omega)⟩⟩, rfl, rfl⟩

set_option maxRecDepth 100000 in
set_option maxHeartbeats 4000000 in
theorem w_X10_fails_63 (L : Nat) (b : Bool) (h : Hp) (hB : Bx h) (a0 : Int32) (p0 : B a0 1 6) (a1 : Int32) : EvK mi_X10_fails [.ref 63, .int a0, .int a1] (G0 L b) h (fun z : Hp => (¬ (z 63 21).toInt = 0)) [(63, 21), (63, 22)] := by
  refine EvM.of2 (lo := [some (.ref 63), some (.int a0), some (.int a1)]) pf_X10_fails ok_X10_fails rfl rfl ?_
  have hJ0 : JW [(63, 21), (63, 22)] h h := JW.refl hB
  obtain ⟨f1, ef1⟩ : ∃ f_, h 63 21 = f_ := ⟨_, rfl⟩
  have bf1 : B f1 0 6 := by have z_ := hJ0.1 63 21; rw [ef1] at z_; exact z_
  have zf1 := congrArg Int32.toInt ef1
  refine ev_aload_n rfl rfl rfl ?_
  refine ev_getV (v := f1) rfl rfl fl_X10_191 rfl rfl rfl ef1 ?_
  refine ev_if_ne rfl rfl (fun c2 => ?_) (fun c2 => ?_)
  · have b3 : B f1 1 6 := R_neL bf1 (by decide : B 0 0 0) c2 (by decide)
    have z4 := w_ne c2
    rw [show (0 : Int32).toInt = 0 from by decide] at z4
    exact ev_vret rfl rfl trivial ⟨rfl, rfl, hJ0, (by have z0_ := congrArg Int32.toInt ef1; have z_ := w_lits; have zl_ := l_lits; omega)⟩
  · have b5 : B f1 0 0 := R_eqX bf1 (by decide : B 0 0 0) c2
    have z6 := congrArg Int32.toInt c2
    rw [show (0 : Int32).toInt = 0 from by decide] at z6
    refine ev_aload_n rfl rfl rfl ?_
    refine ev_iload_n rfl rfl rfl ?_
    refine ev_putW (l := 0) (u := 6) hJ0 rfl p0 (by decide) (by decide) rfl rfl rfl fl_X10_191 rfl rfl rfl rfl rfl (fun h7 hJ7 k7 => ?_)
    refine ev_aload_n rfl rfl rfl ?_
    refine ev_iload_n rfl rfl rfl ?_
    refine ev_putW (l := (-2147483648)) (u := 2147483647) hJ7 rfl (B.any a1) (by decide) (by decide) rfl rfl rfl fl_X10_194 rfl rfl rfl rfl rfl (fun h8 hJ8 k8 => ?_)
    exact ev_vret rfl rfl trivial ⟨rfl, rfl, hJ8, (by have z0_ := congrArg Int32.toInt (rd_o k8 (rd_s k7) rfl); have z_ := w_lits; have zl_ := l_lits; omega)⟩

set_option maxRecDepth 100000 in
set_option maxHeartbeats 4000000 in
theorem w_X10_wants_63 (L : Nat) (b : Bool) (h : Hp) (hB : Bx h) (a0 : Int32) (p0 : B a0 0 1) (a1 : Int32) (p1 : B a1 1 6) : EvK mi_X10_wants [.ref 63, .int a0, .int a1] (G0 L b) h (fun z : Hp => ((z 63 21).toInt = 0 → (h 63 21).toInt = 0 ∧ ¬ a0.toInt = 0)) [(63, 21), (63, 22)] := by
  refine EvM.of2 (lo := [some (.ref 63), some (.int a0), some (.int a1)]) pf_X10_wants ok_X10_wants rfl rfl ?_
  have hJ0 : JW [(63, 21), (63, 22)] h h := JW.refl hB
  obtain ⟨f1, ef1⟩ : ∃ f_, h 63 21 = f_ := ⟨_, rfl⟩
  have bf1 : B f1 0 6 := by have z_ := hJ0.1 63 21; rw [ef1] at z_; exact z_
  have zf1 := congrArg Int32.toInt ef1
  refine ev_iload_n rfl rfl rfl ?_
  refine ev_if_ne rfl rfl (fun c2 => ?_) (fun c2 => ?_)
  · have b3 : B a0 1 1 := R_neL p0 (by decide : B 0 0 0) c2 (by decide)
    have z4 := w_ne c2
    rw [show (0 : Int32).toInt = 0 from by decide] at z4
    exact ev_vret rfl rfl trivial ⟨rfl, rfl, hJ0, (by have z0_ := congrArg Int32.toInt ef1; have z_ := w_lits; have zl_ := l_lits; omega)⟩
  · have b5 : B a0 0 0 := R_eqX p0 (by decide : B 0 0 0) c2
    have z6 := congrArg Int32.toInt c2
    rw [show (0 : Int32).toInt = 0 from by decide] at z6
    refine ev_aload_n rfl rfl rfl ?_
    refine ev_iload_n rfl rfl rfl ?_
    refine ev_aload_n rfl rfl rfl ?_
    refine ev_getW (l := (-2147483648)) (u := 2147483647) hJ0.1 rfl rfl rfl fl_X10_197 rfl rfl rfl (fun v7 b7 e7 => ?_)
    refine ev_V2K hJ0 rfl rfl rfl lk_X10_200 vt_X10_fails rfl rfl rfl rfl rfl (w_X10_fails_63 L b h hJ0.1 a1 p1 v7) (fun h8 hJ8 k8 m8 => ?_)
    obtain ⟨f9, ef9⟩ : ∃ f_, h8 63 21 = f_ := ⟨_, rfl⟩
    have bf9 : B f9 0 6 := by have z_ := hJ8.1 63 21; rw [ef9] at z_; exact z_
    have zf9 := congrArg Int32.toInt ef9
    exact ev_vret rfl rfl trivial ⟨rfl, rfl, hJ8, (by have z0_ := congrArg Int32.toInt ef9; have z_ := w_lits; have zl_ := l_lits; omega)⟩

set_option maxRecDepth 100000 in
set_option maxHeartbeats 4000000 in
theorem w_X10_readChord_63 (L : Nat) (b : Bool) (h : Hp) (hB : Bx h) (t : Int32) (rt : h 72 (h 63 17).toNatClampNeg = t) (rb : B t 97 122) (rp0 : (h 63 17).toInt < (h 63 16).toInt) (q0 : B (h 63 21) 0 0) : EvK mi_X10_readChord [.ref 63] (G0 L b) h (fun z : Hp => ((z 63 17).toInt ≤ (z 63 16).toInt) ∧ ((h 63 17).toInt + 1 ≤ (z 63 17).toInt) ∧ ((z 63 19).toInt = 1) ∧ (0 ≤ (z 63 20).toInt ∧ (z 63 20).toInt ≤ 4095)) [(63, 17), (63, 19), (63, 20), (63, 21), (63, 22)] := by
  refine EvM.of2 (lo := [some (.ref 63), none]) pf_X10_readChord ok_X10_readChord rfl rfl ?_
  have hJ0 : JW [(63, 17), (63, 19), (63, 20), (63, 21), (63, 22)] h h := JW.refl hB
  obtain ⟨f0, ef0⟩ : ∃ f_, h 63 21 = f_ := ⟨_, rfl⟩
  rw [ef0] at q0
  have zef0 := congrArg Int32.toInt ef0
  obtain ⟨f1, ef1⟩ : ∃ f_, h 63 16 = f_ := ⟨_, rfl⟩
  have bf1 : B f1 0 160 := by have z_ := hJ0.1 63 16; rw [ef1] at z_; exact z_
  have zf1 := congrArg Int32.toInt ef1
  obtain ⟨f2, ef2⟩ : ∃ f_, h 63 17 = f_ := ⟨_, rfl⟩
  have bf2 : B f2 0 160 := by have z_ := hJ0.1 63 17; rw [ef2] at z_; exact z_
  have zf2 := congrArg Int32.toInt ef2
  obtain ⟨f3, ef3⟩ : ∃ f_, h 63 20 = f_ := ⟨_, rfl⟩
  have zf3 := congrArg Int32.toInt ef3
  obtain ⟨f4, ef4⟩ : ∃ f_, h 63 19 = f_ := ⟨_, rfl⟩
  have bf4 : B f4 0 3 := by have z_ := hJ0.1 63 19; rw [ef4] at z_; exact z_
  have zf4 := congrArg Int32.toInt ef4
  rw [ef2] at rt
  refine ev_aload_n rfl rfl rfl ?_
  refine ev_iconst (v := 1) rfl rfl (by decide) ?_
  refine ev_putW (l := 0) (u := 3) hJ0 rfl (by decide : B 1 1 1) (by decide) (by decide) rfl rfl rfl fl_X10_204 rfl rfl rfl rfl rfl (fun h5 hJ5 k5 => ?_)
  refine ev_aload_n rfl rfl rfl ?_
  refine ev_iconst (v := 0) rfl rfl (by decide) ?_
  refine ev_putW (l := (-2147483648)) (u := 2147483647) hJ5 rfl (by decide : B 0 0 0) (by decide) (by decide) rfl rfl rfl fl_X10_207 rfl rfl rfl rfl rfl (fun h6 hJ6 k6 => ?_)
  refine ev_aload_n rfl rfl rfl ?_
  refine ev_aload_n rfl rfl rfl ?_
  refine ev_getV (v := f2) rfl rfl fl_X10_210 rfl rfl rfl (rd_o k6 (rd_o k5 ef2 rfl) rfl) ?_
  have z7 := congrArg Int32.toInt (rd_o k6 (rd_o k5 ef1 rfl) rfl)
  refine ev_V1P rfl rfl lk_X10_213 vt_X10_look rfl rfl rfl rfl rfl (w_X10_look_63 L b h6 hJ6.1 f2 bf2 t (rd_o k6 (rd_o k5 rt rfl) rfl)) (fun r8 q8 => ?_)
  obtain ⟨b8, pp8_0, pp8_1⟩ := q8
  refine ev_i2l rfl rfl ?_
  have z9 := Int32.toInt_toInt64 r8
  have z9b := B.any r8
  refine ev_ldc2 (v := 97) rfl rfl kc_X10_216 ?_
  refine ev_ldc2 (v := 122) rfl rfl kc_X10_218 ?_
  have z10 := congrArg Int32.toInt (rd_o k6 (rd_o k5 ef2 rfl) rfl)
  have z11 := congrArg Int32.toInt (rd_o k6 (rd_o k5 ef0 rfl) rfl)
  have z12 := congrArg Int32.toInt (rd_s k6)
  have z13 := congrArg Int32.toInt (rd_o k6 (rd_s k5) rfl)
  refine ev_S3P rfl rfl lk_X10_124 st_X10_in rfl rfl (w_inR (G0 L b) h6 r8 97 122 (by decide : BL 97 97 97) (by decide : BL 122 122 122)) (fun r14 q14 => ?_)
  obtain ⟨b14, p14_0, pp14_0, pp14_1⟩ := q14
  refine ev_if_eq rfl rfl (fun c15 => False.elim (by have z0_ := congrArg Int32.toInt (rd_o k6 (rd_o k5 ef1 rfl) rfl); have z1_ := congrArg Int32.toInt (rd_o k6 (rd_o k5 ef2 rfl) rfl); have z2_ := congrArg Int32.toInt (rd_o k6 (rd_o k5 ef0 rfl) rfl); have z3_ := congrArg Int32.toInt (rd_s k6); have z4_ := congrArg Int32.toInt (rd_o k6 (rd_s k5) rfl); have z5_ := congrArg Int32.toInt c15; have z_ := w_lits; have zl_ := l_lits; omega)) (fun c15 => ?_)
  have b18 : B r14 1 1 := R_neL b14 (by decide : B 0 0 0) c15 (by decide)
  have b19 : B r8 97 122 := p14_0 c15
  have z20 := w_ne c15
  rw [show (0 : Int32).toInt = 0 from by decide] at z20
  refine ev_aload_n rfl rfl rfl ?_
  refine ev_getV (v := f0) rfl rfl fl_X10_191 rfl rfl rfl (rd_o k6 (rd_o k5 ef0 rfl) rfl) ?_
  refine ev_if_ne rfl rfl (fun c21 => absurd (D_eq q0 (by decide : B 0 0 0)) c21) (fun c21 => ?_)
  have z22 := congrArg Int32.toInt c21
  rw [show (0 : Int32).toInt = 0 from by decide] at z22
  refine ev_aload_n rfl rfl rfl ?_
  refine ev_aload_n rfl rfl rfl ?_
  refine ev_getV (v := f2) rfl rfl fl_X10_210 rfl rfl rfl (rd_o k6 (rd_o k5 ef2 rfl) rfl) ?_
  refine ev_V1P rfl rfl lk_X10_213 vt_X10_look rfl rfl rfl rfl rfl (w_X10_look_63 L b h6 hJ6.1 f2 bf2 t (rd_o k6 (rd_o k5 rt rfl) rfl)) (fun r23 q23 => ?_)
  obtain ⟨b23, pp23_0, pp23_1⟩ := q23
  refine ev_bipush (v := 97) rfl rfl (by decide) ?_
  have b24 : B r23 97 122 := ⟨(by have z0_ := congrArg Int32.toInt (rd_o k6 (rd_o k5 ef1 rfl) rfl); have z1_ := congrArg Int32.toInt (rd_o k6 (rd_o k5 ef2 rfl) rfl); have z2_ := congrArg Int32.toInt (rd_o k6 (rd_o k5 ef0 rfl) rfl); have z3_ := congrArg Int32.toInt (rd_s k6); have z4_ := congrArg Int32.toInt (rd_o k6 (rd_s k5) rfl); have z_ := w_lits; have zl_ := l_lits; omega), (by have z0_ := congrArg Int32.toInt (rd_o k6 (rd_o k5 ef1 rfl) rfl); have z1_ := congrArg Int32.toInt (rd_o k6 (rd_o k5 ef2 rfl) rfl); have z2_ := congrArg Int32.toInt (rd_o k6 (rd_o k5 ef0 rfl) rfl); have z3_ := congrArg Int32.toInt (rd_s k6); have z4_ := congrArg Int32.toInt (rd_o k6 (rd_s k5) rfl); have z_ := w_lits; have zl_ := l_lits; omega)⟩
  refine ev_isubB (l := 0) (u := 25) rfl rfl b24 (by decide : B 97 97 97) (by decide) (by decide) (by decide) (by decide) (fun v25 b25 e25 g25 => ?_)
  have e25x := e25; rw [show (97 : Int32).toInt = 97 from by decide] at e25x
  refine ev_istore_n rfl rfl rfl rfl ?_
  dsimp only [List.set]
  refine ev_iload_n rfl rfl rfl ?_
  refine ev_bipush (v := 11) rfl rfl (by decide) ?_
  refine ev_icmp_le rfl rfl (fun c26 => ?_) (fun c26 => ?_)
  · have b27 : B v25 0 11 := R_leX b25 (by decide : B 11 11 11) c26 (by decide)
    have b28 : B r23 97 108 := (R_bks (l' := 97) (u' := 108) e25 b27 (by decide : B 97 97 97) (by decide) (by decide))
    have z29 := w_le c26
    rw [show (11 : Int32).toInt = 11 from by decide] at z29
    refine ev_aload_n rfl rfl rfl ?_
    refine ev_getV (v := 0) rfl rfl fl_X10_207 rfl rfl rfl (rd_s k6) ?_
    refine ev_iload_n rfl rfl rfl ?_
    refine ev_ishr0 rfl rfl ?_
    refine ev_iconst (v := 1) rfl rfl (by decide) ?_
    refine ev_iand0 rfl rfl ?_
    refine ev_iconst (v := 1) rfl rfl (by decide) ?_
    refine ev_icmp_eq rfl rfl (fun c35 => absurd c35 (D_ne (by decide : B 0 0 0) (by decide : B 1 1 1) (by decide))) (fun c35 => ?_)
    have z36 := w_ne c35
    rw [show (0 : Int32).toInt = 0 from by decide] at z36
    rw [show (1 : Int32).toInt = 1 from by decide] at z36
    refine ev_aload_n rfl rfl rfl ?_
    refine ev_getV (v := 0) rfl rfl fl_X10_207 rfl rfl rfl (rd_s k6) ?_
    refine ev_S1P rfl rfl lk_X10_220 st_X10_bits rfl rfl (w_X10_bits L b h6 hJ6.1 0) (fun r37 q37 => ?_)
    refine ev_iconst (v := 5) rfl rfl (by decide) ?_
    refine ev_icmp_ne rfl rfl (fun c38 => ?_) (fun c38 => ?_)
    · have z39 := w_ne c38
      rw [show (5 : Int32).toInt = 5 from by decide] at z39
      refine ev_aload_n rfl rfl rfl ?_
      refine ev_dup rfl rfl rfl ?_
      refine ev_getV (v := 0) rfl rfl fl_X10_207 rfl rfl rfl (rd_s k6) ?_
      refine ev_iconst (v := 1) rfl rfl (by decide) ?_
      refine ev_iload_n rfl rfl rfl ?_
      refine ev_ishlB rfl rfl b27 (by decide) (by decide) (fun v42 b42 => ?_)
      have b43 : B 0 0 4095 := ⟨(by have z0_ := congrArg Int32.toInt (rd_o k6 (rd_o k5 ef1 rfl) rfl); have z1_ := congrArg Int32.toInt (rd_o k6 (rd_o k5 ef2 rfl) rfl); have z2_ := congrArg Int32.toInt (rd_o k6 (rd_o k5 ef0 rfl) rfl); have z3_ := congrArg Int32.toInt (rd_s k6); have z4_ := congrArg Int32.toInt (rd_o k6 (rd_s k5) rfl); have z_ := w_lits; have zl_ := l_lits; omega), (by have z0_ := congrArg Int32.toInt (rd_o k6 (rd_o k5 ef1 rfl) rfl); have z1_ := congrArg Int32.toInt (rd_o k6 (rd_o k5 ef2 rfl) rfl); have z2_ := congrArg Int32.toInt (rd_o k6 (rd_o k5 ef0 rfl) rfl); have z3_ := congrArg Int32.toInt (rd_s k6); have z4_ := congrArg Int32.toInt (rd_o k6 (rd_s k5) rfl); have z_ := w_lits; have zl_ := l_lits; omega)⟩
      refine ev_iorB 12 (u := 4095) rfl rfl b43 b42 (by decide) (by decide) (by decide) (by decide) (by decide) (by decide) (fun v44 b44 e44 => ?_)
      refine ev_putW (l := (-2147483648)) (u := 2147483647) hJ6 rfl b44 (by decide) (by decide) rfl rfl rfl fl_X10_207 rfl rfl rfl rfl rfl (fun h45 hJ45 k45 => ?_)
      refine ev_aload_n rfl rfl rfl ?_
      refine ev_dup rfl rfl rfl ?_
      refine ev_getV (v := f2) rfl rfl fl_X10_210 rfl rfl rfl (rd_o k45 (rd_o k6 (rd_o k5 ef2 rfl) rfl) rfl) ?_
      refine ev_iconst (v := 1) rfl rfl (by decide) ?_
      refine ev_iaddB (l := 1) (u := 161) rfl rfl bf2 (by decide : B 1 1 1) (by decide) (by decide) (by decide) (by decide) (fun v46 b46 e46 g46 => ?_)
      have e46x := e46; rw [show (1 : Int32).toInt = 1 from by decide] at e46x
      have b47 : B v46 0 160 := ⟨(by have z0_ := congrArg Int32.toInt (rd_o k45 (rd_o k6 (rd_o k5 ef1 rfl) rfl) rfl); have z1_ := congrArg Int32.toInt (rd_o k45 (rd_o k6 (rd_o k5 ef2 rfl) rfl) rfl); have z2_ := congrArg Int32.toInt (rd_o k45 (rd_o k6 (rd_o k5 ef0 rfl) rfl) rfl); have z3_ := congrArg Int32.toInt (rd_s k45); have z4_ := congrArg Int32.toInt (rd_o k45 (rd_o k6 (rd_s k5) rfl) rfl); have z_ := w_lits; have zl_ := l_lits; omega), (by have z0_ := congrArg Int32.toInt (rd_o k45 (rd_o k6 (rd_o k5 ef1 rfl) rfl) rfl); have z1_ := congrArg Int32.toInt (rd_o k45 (rd_o k6 (rd_o k5 ef2 rfl) rfl) rfl); have z2_ := congrArg Int32.toInt (rd_o k45 (rd_o k6 (rd_o k5 ef0 rfl) rfl) rfl); have z3_ := congrArg Int32.toInt (rd_s k45); have z4_ := congrArg Int32.toInt (rd_o k45 (rd_o k6 (rd_s k5) rfl) rfl); have z_ := w_lits; have zl_ := l_lits; omega)⟩
      refine ev_putW (l := 0) (u := 160) hJ45 rfl b47 (by decide) (by decide) rfl rfl rfl fl_X10_210 rfl rfl rfl rfl rfl (fun h48 hJ48 k48 => ?_)
      refine ev_goto rfl rfl ?_
      have lp10_316 : ∀ (n : Nat) (w317 : Int32) (h319 : Hp), B w317 0 25 → JW [(63, 17), (63, 19), (63, 20), (63, 21), (63, 22)] h h319 → (h319 63 16 = f1) → (h319 63 19 = 1) → (h319 72 (Int32.toNatClampNeg f2) = t) → ((h319 63 17).toInt ≤ (h319 63 16).toInt) → ((h 63 17).toInt + 1 ≤ (h319 63 17).toInt) → (0 ≤ (h319 63 20).toInt ∧ (h319 63 20).toInt ≤ 4095) → 160 + 1 - (h319 63 17).toInt ≤ (n : Int) → EvQ mi_X10_readChord 10 [some (.ref 63), some (.int w317)] [] (G0 L b) h319 0 0 (QK (fun z : Hp => ((z 63 17).toInt ≤ (z 63 16).toInt) ∧ ((h 63 17).toInt + 1 ≤ (z 63 17).toInt) ∧ ((z 63 19).toInt = 1) ∧ (0 ≤ (z 63 20).toInt ∧ (z 63 20).toInt ≤ 4095)) [(63, 17), (63, 19), (63, 20), (63, 21), (63, 22)] (G0 L b) h) := by
        intro n
        induction n with
        | zero =>
          intro w317 h319 b318 hJ320 z321 z322 z323 y10_0 y10_1 y10_2 hm10
          obtain ⟨f324, ef324⟩ : ∃ f_, h319 63 17 = f_ := ⟨_, rfl⟩
          have bf324 : B f324 0 160 := by
            have z_ := hJ320.1 63 17
            rw [ef324] at z_
            exact z_
          rw [ef324] at hm10
          exact absurd hm10 (L_zero bf324 (by decide))
        | succ n ih10 =>
          intro w317 h319 b318 hJ320 z321 z322 z323 y10_0 y10_1 y10_2 hm10
          obtain ⟨f324, ef324⟩ : ∃ f_, h319 63 17 = f_ := ⟨_, rfl⟩
          have bf324 : B f324 0 160 := by
            have z_ := hJ320.1 63 17
            rw [ef324] at z_
            exact z_
          rw [ef324] at hm10
          obtain ⟨f325, ef325⟩ : ∃ f_, h319 63 21 = f_ := ⟨_, rfl⟩
          have bf325 : B f325 0 6 := by have z_ := hJ320.1 63 21; rw [ef325] at z_; exact z_
          have zf325 := congrArg Int32.toInt ef325
          obtain ⟨f326, ef326⟩ : ∃ f_, h319 63 20 = f_ := ⟨_, rfl⟩
          have zf326 := congrArg Int32.toInt ef326
          have z327 := congrArg Int32.toInt z321
          have z328 := congrArg Int32.toInt ef324
          have z329 := congrArg Int32.toInt z322
          refine ev_aload_n rfl rfl rfl ?_
          refine ev_aload_n rfl rfl rfl ?_
          refine ev_getV (v := f324) rfl rfl fl_X10_210 rfl rfl rfl ef324 ?_
          obtain ⟨t330, et330⟩ : ∃ f_, h319 72 (Int32.toNatClampNeg f324) = f_ := ⟨_, rfl⟩
          have bt330 : B t330 0 255 := by have z_ := hJ320.1 72 (Int32.toNatClampNeg f324); rw [et330] at z_; exact z_
          refine ev_V1P rfl rfl lk_X10_213 vt_X10_look rfl rfl rfl rfl rfl (w_X10_look_63 L b h319 hJ320.1 f324 bf324 t330 et330) (fun r331 q331 => ?_)
          obtain ⟨b331, pp331_0, pp331_1⟩ := q331
          refine ev_i2l rfl rfl ?_
          have z332 := Int32.toInt_toInt64 r331
          have z332b := B.any r331
          refine ev_ldc2 (v := 97) rfl rfl kc_X10_216 ?_
          refine ev_ldc2 (v := 122) rfl rfl kc_X10_218 ?_
          refine ev_S3P rfl rfl lk_X10_124 st_X10_in rfl rfl (w_inR (G0 L b) h319 r331 97 122 (by decide : BL 97 97 97) (by decide : BL 122 122 122)) (fun r333 q333 => ?_)
          obtain ⟨b333, p333_0, pp333_0, pp333_1⟩ := q333
          refine ev_if_eq rfl rfl (fun c334 => ?_) (fun c334 => ?_)
          · have z335 := congrArg Int32.toInt c334
            rw [show (0 : Int32).toInt = 0 from by decide] at z335
            exact ev_vret rfl rfl trivial ⟨rfl, rfl, hJ320, (by have z0_ := congrArg Int32.toInt z321; have z1_ := congrArg Int32.toInt ef324; have z_ := w_lits; have zl_ := l_lits; omega), (by have z0_ := congrArg Int32.toInt ef324; have z_ := w_lits; have zl_ := l_lits; omega), (by have z0_ := congrArg Int32.toInt z322; have z_ := w_lits; have zl_ := l_lits; omega), (by have z0_ := congrArg Int32.toInt ef326; have z_ := w_lits; have zl_ := l_lits; omega)⟩
          · have b336 : B r331 97 122 := p333_0 c334
            have z337 := w_ne c334
            rw [show (0 : Int32).toInt = 0 from by decide] at z337
            refine ev_aload_n rfl rfl rfl ?_
            refine ev_getV (v := f325) rfl rfl fl_X10_191 rfl rfl rfl ef325 ?_
            refine ev_if_ne rfl rfl (fun c338 => ?_) (fun c338 => ?_)
            · have z339 := w_ne c338
              rw [show (0 : Int32).toInt = 0 from by decide] at z339
              exact ev_vret rfl rfl trivial ⟨rfl, rfl, hJ320, (by have z0_ := congrArg Int32.toInt z321; have z1_ := congrArg Int32.toInt ef324; have z_ := w_lits; have zl_ := l_lits; omega), (by have z0_ := congrArg Int32.toInt ef324; have z_ := w_lits; have zl_ := l_lits; omega), (by have z0_ := congrArg Int32.toInt z322; have z_ := w_lits; have zl_ := l_lits; omega), (by have z0_ := congrArg Int32.toInt ef326; have z_ := w_lits; have zl_ := l_lits; omega)⟩
            · have z340 := congrArg Int32.toInt c338
              rw [show (0 : Int32).toInt = 0 from by decide] at z340
              refine ev_aload_n rfl rfl rfl ?_
              refine ev_aload_n rfl rfl rfl ?_
              refine ev_getV (v := f324) rfl rfl fl_X10_210 rfl rfl rfl ef324 ?_
              refine ev_V1P rfl rfl lk_X10_213 vt_X10_look rfl rfl rfl rfl rfl (w_X10_look_63 L b h319 hJ320.1 f324 bf324 t330 et330) (fun r341 q341 => ?_)
              obtain ⟨b341, pp341_0, pp341_1⟩ := q341
              refine ev_bipush (v := 97) rfl rfl (by decide) ?_
              have b342 : B r341 97 122 := ⟨(by have z0_ := congrArg Int32.toInt z321; have z1_ := congrArg Int32.toInt ef324; have z2_ := congrArg Int32.toInt ef325; have z3_ := congrArg Int32.toInt ef326; have z4_ := congrArg Int32.toInt z322; have z_ := w_lits; have zl_ := l_lits; omega), (by have z0_ := congrArg Int32.toInt z321; have z1_ := congrArg Int32.toInt ef324; have z2_ := congrArg Int32.toInt ef325; have z3_ := congrArg Int32.toInt ef326; have z4_ := congrArg Int32.toInt z322; have z_ := w_lits; have zl_ := l_lits; omega)⟩
              refine ev_isubB (l := 0) (u := 25) rfl rfl b342 (by decide : B 97 97 97) (by decide) (by decide) (by decide) (by decide) (fun v343 b343 e343 g343 => ?_)
              have e343x := e343; rw [show (97 : Int32).toInt = 97 from by decide] at e343x
              refine ev_istore_n rfl rfl rfl rfl ?_
              dsimp only [List.set]
              refine ev_iload_n rfl rfl rfl ?_
              refine ev_bipush (v := 11) rfl rfl (by decide) ?_
              refine ev_icmp_le rfl rfl (fun c344 => ?_) (fun c344 => ?_)
              · have b345 : B v343 0 11 := R_leX b343 (by decide : B 11 11 11) c344 (by decide)
                have b346 : B r341 97 108 := (R_bks (l' := 97) (u' := 108) e343 b345 (by decide : B 97 97 97) (by decide) (by decide))
                have z347 := w_le c344
                rw [show (11 : Int32).toInt = 11 from by decide] at z347
                refine ev_aload_n rfl rfl rfl ?_
                refine ev_getV (v := f326) rfl rfl fl_X10_207 rfl rfl rfl ef326 ?_
                refine ev_iload_n rfl rfl rfl ?_
                refine ev_ishrA rfl rfl (fun v351 => ?_)
                refine ev_iconst (v := 1) rfl rfl (by decide) ?_
                refine ev_iandB rfl rfl (by decide : B 1 1 1) (by decide) (fun v352 b352 e352 => ?_)
                refine ev_iconst (v := 1) rfl rfl (by decide) ?_
                refine ev_icmp_eq rfl rfl (fun c353 => ?_) (fun c353 => ?_)
                · have b354 : B v352 1 1 := R_eqX b352 (by decide : B 1 1 1) c353
                  have z355 := congrArg Int32.toInt c353
                  rw [show (1 : Int32).toInt = 1 from by decide] at z355
                  refine ev_aload_n rfl rfl rfl ?_
                  refine ev_iconst (v := 4) rfl rfl (by decide) ?_
                  refine ev_aload_n rfl rfl rfl ?_
                  refine ev_getV (v := f324) rfl rfl fl_X10_210 rfl rfl rfl ef324 ?_
                  refine ev_V2K hJ320 rfl rfl rfl lk_X10_200 vt_X10_fails rfl rfl rfl rfl rfl (w_X10_fails_63 L b h319 hJ320.1 4 ((by decide : B 4 4 4).mono (by decide) (by decide)) f324) (fun h358 hJ358 k358 m358 => ?_)
                  obtain ⟨f359, ef359⟩ : ∃ f_, h358 63 21 = f_ := ⟨_, rfl⟩
                  have bf359 : B f359 0 6 := by have z_ := hJ358.1 63 21; rw [ef359] at z_; exact z_
                  have zf359 := congrArg Int32.toInt ef359
                  refine ev_goto rfl rfl ?_
                  refine ev_aload_n rfl rfl rfl ?_
                  refine ev_dup rfl rfl rfl ?_
                  refine ev_getV (v := f324) rfl rfl fl_X10_210 rfl rfl rfl (rd_w k358 ef324 rfl) ?_
                  refine ev_iconst (v := 1) rfl rfl (by decide) ?_
                  refine ev_iaddB (l := 1) (u := 161) rfl rfl bf324 (by decide : B 1 1 1) (by decide) (by decide) (by decide) (by decide) (fun v360 b360 e360 g360 => ?_)
                  have e360x := e360; rw [show (1 : Int32).toInt = 1 from by decide] at e360x
                  have b361 : B v360 0 160 := ⟨(by have z0_ := congrArg Int32.toInt (rd_w k358 z321 rfl); have z1_ := congrArg Int32.toInt (rd_w k358 ef324 rfl); have z2_ := congrArg Int32.toInt ef359; have z3_ := congrArg Int32.toInt (rd_w k358 ef326 rfl); have z4_ := congrArg Int32.toInt (rd_w k358 z322 rfl); have z_ := w_lits; have zl_ := l_lits; omega), (by have z0_ := congrArg Int32.toInt (rd_w k358 z321 rfl); have z1_ := congrArg Int32.toInt (rd_w k358 ef324 rfl); have z2_ := congrArg Int32.toInt ef359; have z3_ := congrArg Int32.toInt (rd_w k358 ef326 rfl); have z4_ := congrArg Int32.toInt (rd_w k358 z322 rfl); have z_ := w_lits; have zl_ := l_lits; omega)⟩
                  refine ev_putW (l := 0) (u := 160) hJ358 rfl b361 (by decide) (by decide) rfl rfl rfl fl_X10_210 rfl rfl rfl rfl rfl (fun h362 hJ362 k362 => ?_)
                  refine ev_goto rfl rfl ?_
                  exact (ih10 v343 h362 (b345.mono (by decide) (by decide)) hJ362 (rd_o k362 (rd_w k358 z321 rfl) rfl) (rd_o k362 (rd_w k358 z322 rfl) rfl) (rd_o k362 (rd_w k358 z323 rfl) rfl) (by have z0_ := congrArg Int32.toInt (rd_o k362 (rd_w k358 z321 rfl) rfl); have z1_ := congrArg Int32.toInt (rd_s k362); have z_ := w_lits; have zl_ := l_lits; omega) (by have z0_ := congrArg Int32.toInt (rd_s k362); have z_ := w_lits; have zl_ := l_lits; omega) (by have z0_ := congrArg Int32.toInt (rd_o k362 (rd_w k358 ef326 rfl) rfl); have z_ := w_lits; have zl_ := l_lits; omega) (by rw [(rd_s k362)]; exact L_up hm10 (e_p1 e360 (by decide))))
                · have b356 : B v352 0 0 := R_neU b352 (by decide : B 1 1 1) c353 (by decide)
                  have z357 := w_ne c353
                  rw [show (1 : Int32).toInt = 1 from by decide] at z357
                  refine ev_aload_n rfl rfl rfl ?_
                  refine ev_getV (v := f326) rfl rfl fl_X10_207 rfl rfl rfl ef326 ?_
                  refine ev_S1P rfl rfl lk_X10_220 st_X10_bits rfl rfl (w_X10_bits L b h319 hJ320.1 f326) (fun r363 q363 => ?_)
                  refine ev_iconst (v := 5) rfl rfl (by decide) ?_
                  refine ev_icmp_ne rfl rfl (fun c364 => ?_) (fun c364 => ?_)
                  · have z365 := w_ne c364
                    rw [show (5 : Int32).toInt = 5 from by decide] at z365
                    refine ev_aload_n rfl rfl rfl ?_
                    refine ev_dup rfl rfl rfl ?_
                    refine ev_getV (v := f326) rfl rfl fl_X10_207 rfl rfl rfl ef326 ?_
                    refine ev_iconst (v := 1) rfl rfl (by decide) ?_
                    refine ev_iload_n rfl rfl rfl ?_
                    refine ev_ishlB rfl rfl b345 (by decide) (by decide) (fun v368 b368 => ?_)
                    have b369 : B f326 0 4095 := ⟨(by have z0_ := congrArg Int32.toInt z321; have z1_ := congrArg Int32.toInt ef324; have z2_ := congrArg Int32.toInt ef325; have z3_ := congrArg Int32.toInt ef326; have z4_ := congrArg Int32.toInt z322; have z_ := w_lits; have zl_ := l_lits; omega), (by have z0_ := congrArg Int32.toInt z321; have z1_ := congrArg Int32.toInt ef324; have z2_ := congrArg Int32.toInt ef325; have z3_ := congrArg Int32.toInt ef326; have z4_ := congrArg Int32.toInt z322; have z_ := w_lits; have zl_ := l_lits; omega)⟩
                    refine ev_iorB 12 (u := 4095) rfl rfl b369 b368 (by decide) (by decide) (by decide) (by decide) (by decide) (by decide) (fun v370 b370 e370 => ?_)
                    refine ev_putW (l := (-2147483648)) (u := 2147483647) hJ320 rfl b370 (by decide) (by decide) rfl rfl rfl fl_X10_207 rfl rfl rfl rfl rfl (fun h371 hJ371 k371 => ?_)
                    refine ev_aload_n rfl rfl rfl ?_
                    refine ev_dup rfl rfl rfl ?_
                    refine ev_getV (v := f324) rfl rfl fl_X10_210 rfl rfl rfl (rd_o k371 ef324 rfl) ?_
                    refine ev_iconst (v := 1) rfl rfl (by decide) ?_
                    refine ev_iaddB (l := 1) (u := 161) rfl rfl bf324 (by decide : B 1 1 1) (by decide) (by decide) (by decide) (by decide) (fun v372 b372 e372 g372 => ?_)
                    have e372x := e372; rw [show (1 : Int32).toInt = 1 from by decide] at e372x
                    have b373 : B v372 0 160 := ⟨(by have z0_ := congrArg Int32.toInt (rd_o k371 z321 rfl); have z1_ := congrArg Int32.toInt (rd_o k371 ef324 rfl); have z2_ := congrArg Int32.toInt (rd_o k371 ef325 rfl); have z3_ := congrArg Int32.toInt (rd_s k371); have z4_ := congrArg Int32.toInt (rd_o k371 z322 rfl); have z_ := w_lits; have zl_ := l_lits; omega), (by have z0_ := congrArg Int32.toInt (rd_o k371 z321 rfl); have z1_ := congrArg Int32.toInt (rd_o k371 ef324 rfl); have z2_ := congrArg Int32.toInt (rd_o k371 ef325 rfl); have z3_ := congrArg Int32.toInt (rd_s k371); have z4_ := congrArg Int32.toInt (rd_o k371 z322 rfl); have z_ := w_lits; have zl_ := l_lits; omega)⟩
                    refine ev_putW (l := 0) (u := 160) hJ371 rfl b373 (by decide) (by decide) rfl rfl rfl fl_X10_210 rfl rfl rfl rfl rfl (fun h374 hJ374 k374 => ?_)
                    refine ev_goto rfl rfl ?_
                    exact (ih10 v343 h374 (b345.mono (by decide) (by decide)) hJ374 (rd_o k374 (rd_o k371 z321 rfl) rfl) (rd_o k374 (rd_o k371 z322 rfl) rfl) (rd_o k374 (rd_o k371 z323 rfl) rfl) (by have z0_ := congrArg Int32.toInt (rd_o k374 (rd_o k371 z321 rfl) rfl); have z1_ := congrArg Int32.toInt (rd_s k374); have z_ := w_lits; have zl_ := l_lits; omega) (by have z0_ := congrArg Int32.toInt (rd_s k374); have z_ := w_lits; have zl_ := l_lits; omega) (by have z0_ := congrArg Int32.toInt (rd_o k374 (rd_s k371) rfl); have z_ := w_lits; have zl_ := l_lits; omega) (by rw [(rd_s k374)]; exact L_up hm10 (e_p1 e372 (by decide))))
                  · have b366 : B r363 5 5 := R_eqX (B.any r363) (by decide : B 5 5 5) c364
                    have z367 := congrArg Int32.toInt c364
                    rw [show (5 : Int32).toInt = 5 from by decide] at z367
                    refine ev_aload_n rfl rfl rfl ?_
                    refine ev_iconst (v := 4) rfl rfl (by decide) ?_
                    refine ev_aload_n rfl rfl rfl ?_
                    refine ev_getV (v := f324) rfl rfl fl_X10_210 rfl rfl rfl ef324 ?_
                    refine ev_V2K hJ320 rfl rfl rfl lk_X10_200 vt_X10_fails rfl rfl rfl rfl rfl (w_X10_fails_63 L b h319 hJ320.1 4 ((by decide : B 4 4 4).mono (by decide) (by decide)) f324) (fun h375 hJ375 k375 m375 => ?_)
                    obtain ⟨f376, ef376⟩ : ∃ f_, h375 63 21 = f_ := ⟨_, rfl⟩
                    have bf376 : B f376 0 6 := by have z_ := hJ375.1 63 21; rw [ef376] at z_; exact z_
                    have zf376 := congrArg Int32.toInt ef376
                    refine ev_goto rfl rfl ?_
                    refine ev_aload_n rfl rfl rfl ?_
                    refine ev_dup rfl rfl rfl ?_
                    refine ev_getV (v := f324) rfl rfl fl_X10_210 rfl rfl rfl (rd_w k375 ef324 rfl) ?_
                    refine ev_iconst (v := 1) rfl rfl (by decide) ?_
                    refine ev_iaddB (l := 1) (u := 161) rfl rfl bf324 (by decide : B 1 1 1) (by decide) (by decide) (by decide) (by decide) (fun v377 b377 e377 g377 => ?_)
                    have e377x := e377; rw [show (1 : Int32).toInt = 1 from by decide] at e377x
                    have b378 : B v377 0 160 := ⟨(by have z0_ := congrArg Int32.toInt (rd_w k375 z321 rfl); have z1_ := congrArg Int32.toInt (rd_w k375 ef324 rfl); have z2_ := congrArg Int32.toInt ef376; have z3_ := congrArg Int32.toInt (rd_w k375 ef326 rfl); have z4_ := congrArg Int32.toInt (rd_w k375 z322 rfl); have z_ := w_lits; have zl_ := l_lits; omega), (by have z0_ := congrArg Int32.toInt (rd_w k375 z321 rfl); have z1_ := congrArg Int32.toInt (rd_w k375 ef324 rfl); have z2_ := congrArg Int32.toInt ef376; have z3_ := congrArg Int32.toInt (rd_w k375 ef326 rfl); have z4_ := congrArg Int32.toInt (rd_w k375 z322 rfl); have z_ := w_lits; have zl_ := l_lits; omega)⟩
                    refine ev_putW (l := 0) (u := 160) hJ375 rfl b378 (by decide) (by decide) rfl rfl rfl fl_X10_210 rfl rfl rfl rfl rfl (fun h379 hJ379 k379 => ?_)
                    refine ev_goto rfl rfl ?_
                    exact (ih10 v343 h379 (b345.mono (by decide) (by decide)) hJ379 (rd_o k379 (rd_w k375 z321 rfl) rfl) (rd_o k379 (rd_w k375 z322 rfl) rfl) (rd_o k379 (rd_w k375 z323 rfl) rfl) (by have z0_ := congrArg Int32.toInt (rd_o k379 (rd_w k375 z321 rfl) rfl); have z1_ := congrArg Int32.toInt (rd_s k379); have z_ := w_lits; have zl_ := l_lits; omega) (by have z0_ := congrArg Int32.toInt (rd_s k379); have z_ := w_lits; have zl_ := l_lits; omega) (by have z0_ := congrArg Int32.toInt (rd_o k379 (rd_w k375 ef326 rfl) rfl); have z_ := w_lits; have zl_ := l_lits; omega) (by rw [(rd_s k379)]; exact L_up hm10 (e_p1 e377 (by decide))))
              · have b348 : B v343 12 25 := R_ltY (by decide : B 11 11 11) b343 (Int32.not_le.mp c344) (by decide)
                have b349 : B r341 109 122 := (R_bks (l' := 109) (u' := 122) e343 b348 (by decide : B 97 97 97) (by decide) (by decide))
                have z350 := w_lt (Int32.not_le.mp c344)
                rw [show (11 : Int32).toInt = 11 from by decide] at z350
                refine ev_aload_n rfl rfl rfl ?_
                refine ev_iconst (v := 1) rfl rfl (by decide) ?_
                refine ev_aload_n rfl rfl rfl ?_
                refine ev_getV (v := f324) rfl rfl fl_X10_210 rfl rfl rfl ef324 ?_
                refine ev_V2K hJ320 rfl rfl rfl lk_X10_200 vt_X10_fails rfl rfl rfl rfl rfl (w_X10_fails_63 L b h319 hJ320.1 1 ((by decide : B 1 1 1).mono (by decide) (by decide)) f324) (fun h380 hJ380 k380 m380 => ?_)
                obtain ⟨f381, ef381⟩ : ∃ f_, h380 63 21 = f_ := ⟨_, rfl⟩
                have bf381 : B f381 0 6 := by have z_ := hJ380.1 63 21; rw [ef381] at z_; exact z_
                have zf381 := congrArg Int32.toInt ef381
                refine ev_goto rfl rfl ?_
                refine ev_aload_n rfl rfl rfl ?_
                refine ev_dup rfl rfl rfl ?_
                refine ev_getV (v := f324) rfl rfl fl_X10_210 rfl rfl rfl (rd_w k380 ef324 rfl) ?_
                refine ev_iconst (v := 1) rfl rfl (by decide) ?_
                refine ev_iaddB (l := 1) (u := 161) rfl rfl bf324 (by decide : B 1 1 1) (by decide) (by decide) (by decide) (by decide) (fun v382 b382 e382 g382 => ?_)
                have e382x := e382; rw [show (1 : Int32).toInt = 1 from by decide] at e382x
                have b383 : B v382 0 160 := ⟨(by have z0_ := congrArg Int32.toInt (rd_w k380 z321 rfl); have z1_ := congrArg Int32.toInt (rd_w k380 ef324 rfl); have z2_ := congrArg Int32.toInt ef381; have z3_ := congrArg Int32.toInt (rd_w k380 ef326 rfl); have z4_ := congrArg Int32.toInt (rd_w k380 z322 rfl); have z_ := w_lits; have zl_ := l_lits; omega), (by have z0_ := congrArg Int32.toInt (rd_w k380 z321 rfl); have z1_ := congrArg Int32.toInt (rd_w k380 ef324 rfl); have z2_ := congrArg Int32.toInt ef381; have z3_ := congrArg Int32.toInt (rd_w k380 ef326 rfl); have z4_ := congrArg Int32.toInt (rd_w k380 z322 rfl); have z_ := w_lits; have zl_ := l_lits; omega)⟩
                refine ev_putW (l := 0) (u := 160) hJ380 rfl b383 (by decide) (by decide) rfl rfl rfl fl_X10_210 rfl rfl rfl rfl rfl (fun h384 hJ384 k384 => ?_)
                refine ev_goto rfl rfl ?_
                exact (ih10 v343 h384 (b348.mono (by decide) (by decide)) hJ384 (rd_o k384 (rd_w k380 z321 rfl) rfl) (rd_o k384 (rd_w k380 z322 rfl) rfl) (rd_o k384 (rd_w k380 z323 rfl) rfl) (by have z0_ := congrArg Int32.toInt (rd_o k384 (rd_w k380 z321 rfl) rfl); have z1_ := congrArg Int32.toInt (rd_s k384); have z_ := w_lits; have zl_ := l_lits; omega) (by have z0_ := congrArg Int32.toInt (rd_s k384); have z_ := w_lits; have zl_ := l_lits; omega) (by have z0_ := congrArg Int32.toInt (rd_o k384 (rd_w k380 ef326 rfl) rfl); have z_ := w_lits; have zl_ := l_lits; omega) (by rw [(rd_s k384)]; exact L_up hm10 (e_p1 e382 (by decide))))
      exact (lp10_316 161 v25 h48 (b27.mono (by decide) (by decide)) hJ48 (rd_o k48 (rd_o k45 (rd_o k6 (rd_o k5 ef1 rfl) rfl) rfl) rfl) (rd_o k48 (rd_o k45 (rd_o k6 (rd_s k5) rfl) rfl) rfl) (rd_o k48 (rd_o k45 (rd_o k6 (rd_o k5 rt rfl) rfl) rfl) rfl) (by have z0_ := congrArg Int32.toInt (rd_o k48 (rd_o k45 (rd_o k6 (rd_o k5 ef1 rfl) rfl) rfl) rfl); have z1_ := congrArg Int32.toInt (rd_s k48); have z_ := w_lits; have zl_ := l_lits; omega) (by have z0_ := congrArg Int32.toInt (rd_s k48); have z_ := w_lits; have zl_ := l_lits; omega) (by have z0_ := congrArg Int32.toInt (rd_o k48 (rd_s k45) rfl); have z_ := w_lits; have zl_ := l_lits; omega) (by rw [(rd_s k48)]; exact L_init b47 (by decide)))
    · have b40 : B r37 5 5 := R_eqX (B.any r37) (by decide : B 5 5 5) c38
      have z41 := congrArg Int32.toInt c38
      rw [show (5 : Int32).toInt = 5 from by decide] at z41
      refine ev_aload_n rfl rfl rfl ?_
      refine ev_iconst (v := 4) rfl rfl (by decide) ?_
      refine ev_aload_n rfl rfl rfl ?_
      refine ev_getV (v := f2) rfl rfl fl_X10_210 rfl rfl rfl (rd_o k6 (rd_o k5 ef2 rfl) rfl) ?_
      refine ev_V2K hJ6 rfl rfl rfl lk_X10_200 vt_X10_fails rfl rfl rfl rfl rfl (w_X10_fails_63 L b h6 hJ6.1 4 ((by decide : B 4 4 4).mono (by decide) (by decide)) f2) (fun h385 hJ385 k385 m385 => ?_)
      obtain ⟨f386, ef386⟩ : ∃ f_, h385 63 21 = f_ := ⟨_, rfl⟩
      have bf386 : B f386 0 6 := by have z_ := hJ385.1 63 21; rw [ef386] at z_; exact z_
      have zf386 := congrArg Int32.toInt ef386
      refine ev_goto rfl rfl ?_
      refine ev_aload_n rfl rfl rfl ?_
      refine ev_dup rfl rfl rfl ?_
      refine ev_getV (v := f2) rfl rfl fl_X10_210 rfl rfl rfl (rd_w k385 (rd_o k6 (rd_o k5 ef2 rfl) rfl) rfl) ?_
      refine ev_iconst (v := 1) rfl rfl (by decide) ?_
      refine ev_iaddB (l := 1) (u := 161) rfl rfl bf2 (by decide : B 1 1 1) (by decide) (by decide) (by decide) (by decide) (fun v387 b387 e387 g387 => ?_)
      have e387x := e387; rw [show (1 : Int32).toInt = 1 from by decide] at e387x
      have b388 : B v387 0 160 := ⟨(by have z0_ := congrArg Int32.toInt (rd_w k385 (rd_o k6 (rd_o k5 ef1 rfl) rfl) rfl); have z1_ := congrArg Int32.toInt (rd_w k385 (rd_o k6 (rd_o k5 ef2 rfl) rfl) rfl); have z2_ := congrArg Int32.toInt ef386; have z3_ := congrArg Int32.toInt (rd_w k385 (rd_s k6) rfl); have z4_ := congrArg Int32.toInt (rd_w k385 (rd_o k6 (rd_s k5) rfl) rfl); have z_ := w_lits; have zl_ := l_lits; omega), (by have z0_ := congrArg Int32.toInt (rd_w k385 (rd_o k6 (rd_o k5 ef1 rfl) rfl) rfl); have z1_ := congrArg Int32.toInt (rd_w k385 (rd_o k6 (rd_o k5 ef2 rfl) rfl) rfl); have z2_ := congrArg Int32.toInt ef386; have z3_ := congrArg Int32.toInt (rd_w k385 (rd_s k6) rfl); have z4_ := congrArg Int32.toInt (rd_w k385 (rd_o k6 (rd_s k5) rfl) rfl); have z_ := w_lits; have zl_ := l_lits; omega)⟩
      refine ev_putW (l := 0) (u := 160) hJ385 rfl b388 (by decide) (by decide) rfl rfl rfl fl_X10_210 rfl rfl rfl rfl rfl (fun h389 hJ389 k389 => ?_)
      refine ev_goto rfl rfl ?_
      have lp10_677 : ∀ (n : Nat) (w678 : Int32) (h680 : Hp), B w678 0 25 → JW [(63, 17), (63, 19), (63, 20), (63, 21), (63, 22)] h h680 → (h680 63 16 = f1) → (h680 63 19 = 1) → (h680 72 (Int32.toNatClampNeg f2) = t) → ((h680 63 17).toInt ≤ (h680 63 16).toInt) → ((h 63 17).toInt + 1 ≤ (h680 63 17).toInt) → (0 ≤ (h680 63 20).toInt ∧ (h680 63 20).toInt ≤ 4095) → 160 + 1 - (h680 63 17).toInt ≤ (n : Int) → EvQ mi_X10_readChord 10 [some (.ref 63), some (.int w678)] [] (G0 L b) h680 0 0 (QK (fun z : Hp => ((z 63 17).toInt ≤ (z 63 16).toInt) ∧ ((h 63 17).toInt + 1 ≤ (z 63 17).toInt) ∧ ((z 63 19).toInt = 1) ∧ (0 ≤ (z 63 20).toInt ∧ (z 63 20).toInt ≤ 4095)) [(63, 17), (63, 19), (63, 20), (63, 21), (63, 22)] (G0 L b) h) := by
        intro n
        induction n with
        | zero =>
          intro w678 h680 b679 hJ681 z682 z683 z684 y10_0 y10_1 y10_2 hm10
          obtain ⟨f685, ef685⟩ : ∃ f_, h680 63 17 = f_ := ⟨_, rfl⟩
          have bf685 : B f685 0 160 := by
            have z_ := hJ681.1 63 17
            rw [ef685] at z_
            exact z_
          rw [ef685] at hm10
          exact absurd hm10 (L_zero bf685 (by decide))
        | succ n ih10 =>
          intro w678 h680 b679 hJ681 z682 z683 z684 y10_0 y10_1 y10_2 hm10
          obtain ⟨f685, ef685⟩ : ∃ f_, h680 63 17 = f_ := ⟨_, rfl⟩
          have bf685 : B f685 0 160 := by
            have z_ := hJ681.1 63 17
            rw [ef685] at z_
            exact z_
          rw [ef685] at hm10
          obtain ⟨f686, ef686⟩ : ∃ f_, h680 63 21 = f_ := ⟨_, rfl⟩
          have bf686 : B f686 0 6 := by have z_ := hJ681.1 63 21; rw [ef686] at z_; exact z_
          have zf686 := congrArg Int32.toInt ef686
          obtain ⟨f687, ef687⟩ : ∃ f_, h680 63 20 = f_ := ⟨_, rfl⟩
          have zf687 := congrArg Int32.toInt ef687
          have z688 := congrArg Int32.toInt z682
          have z689 := congrArg Int32.toInt ef685
          have z690 := congrArg Int32.toInt z683
          refine ev_aload_n rfl rfl rfl ?_
          refine ev_aload_n rfl rfl rfl ?_
          refine ev_getV (v := f685) rfl rfl fl_X10_210 rfl rfl rfl ef685 ?_
          obtain ⟨t691, et691⟩ : ∃ f_, h680 72 (Int32.toNatClampNeg f685) = f_ := ⟨_, rfl⟩
          have bt691 : B t691 0 255 := by have z_ := hJ681.1 72 (Int32.toNatClampNeg f685); rw [et691] at z_; exact z_
          refine ev_V1P rfl rfl lk_X10_213 vt_X10_look rfl rfl rfl rfl rfl (w_X10_look_63 L b h680 hJ681.1 f685 bf685 t691 et691) (fun r692 q692 => ?_)
          obtain ⟨b692, pp692_0, pp692_1⟩ := q692
          refine ev_i2l rfl rfl ?_
          have z693 := Int32.toInt_toInt64 r692
          have z693b := B.any r692
          refine ev_ldc2 (v := 97) rfl rfl kc_X10_216 ?_
          refine ev_ldc2 (v := 122) rfl rfl kc_X10_218 ?_
          refine ev_S3P rfl rfl lk_X10_124 st_X10_in rfl rfl (w_inR (G0 L b) h680 r692 97 122 (by decide : BL 97 97 97) (by decide : BL 122 122 122)) (fun r694 q694 => ?_)
          obtain ⟨b694, p694_0, pp694_0, pp694_1⟩ := q694
          refine ev_if_eq rfl rfl (fun c695 => ?_) (fun c695 => ?_)
          · have b696 : B r694 0 0 := R_eqX b694 (by decide : B 0 0 0) c695
            have z697 := congrArg Int32.toInt c695
            rw [show (0 : Int32).toInt = 0 from by decide] at z697
            exact ev_vret rfl rfl trivial ⟨rfl, rfl, hJ681, (by have z0_ := congrArg Int32.toInt z682; have z1_ := congrArg Int32.toInt ef685; have z_ := w_lits; have zl_ := l_lits; omega), (by have z0_ := congrArg Int32.toInt ef685; have z_ := w_lits; have zl_ := l_lits; omega), (by have z0_ := congrArg Int32.toInt z683; have z_ := w_lits; have zl_ := l_lits; omega), (by have z0_ := congrArg Int32.toInt ef687; have z_ := w_lits; have zl_ := l_lits; omega)⟩
          · have b698 : B r694 1 1 := R_neL b694 (by decide : B 0 0 0) c695 (by decide)
            have b699 : B r692 97 122 := p694_0 c695
            have z700 := w_ne c695
            rw [show (0 : Int32).toInt = 0 from by decide] at z700
            refine ev_aload_n rfl rfl rfl ?_
            refine ev_getV (v := f686) rfl rfl fl_X10_191 rfl rfl rfl ef686 ?_
            refine ev_if_ne rfl rfl (fun c701 => ?_) (fun c701 => ?_)
            · have b702 : B f686 1 6 := R_neL bf686 (by decide : B 0 0 0) c701 (by decide)
              have z703 := w_ne c701
              rw [show (0 : Int32).toInt = 0 from by decide] at z703
              exact ev_vret rfl rfl trivial ⟨rfl, rfl, hJ681, (by have z0_ := congrArg Int32.toInt z682; have z1_ := congrArg Int32.toInt ef685; have z_ := w_lits; have zl_ := l_lits; omega), (by have z0_ := congrArg Int32.toInt ef685; have z_ := w_lits; have zl_ := l_lits; omega), (by have z0_ := congrArg Int32.toInt z683; have z_ := w_lits; have zl_ := l_lits; omega), (by have z0_ := congrArg Int32.toInt ef687; have z_ := w_lits; have zl_ := l_lits; omega)⟩
            · have b704 : B f686 0 0 := R_eqX bf686 (by decide : B 0 0 0) c701
              have z705 := congrArg Int32.toInt c701
              rw [show (0 : Int32).toInt = 0 from by decide] at z705
              refine ev_aload_n rfl rfl rfl ?_
              refine ev_aload_n rfl rfl rfl ?_
              refine ev_getV (v := f685) rfl rfl fl_X10_210 rfl rfl rfl ef685 ?_
              refine ev_V1P rfl rfl lk_X10_213 vt_X10_look rfl rfl rfl rfl rfl (w_X10_look_63 L b h680 hJ681.1 f685 bf685 t691 et691) (fun r706 q706 => ?_)
              obtain ⟨b706, pp706_0, pp706_1⟩ := q706
              refine ev_bipush (v := 97) rfl rfl (by decide) ?_
              have b707 : B r706 97 122 := ⟨(by have z0_ := congrArg Int32.toInt z682; have z1_ := congrArg Int32.toInt ef685; have z2_ := congrArg Int32.toInt ef686; have z3_ := congrArg Int32.toInt ef687; have z4_ := congrArg Int32.toInt z683; have z_ := w_lits; have zl_ := l_lits; omega), (by have z0_ := congrArg Int32.toInt z682; have z1_ := congrArg Int32.toInt ef685; have z2_ := congrArg Int32.toInt ef686; have z3_ := congrArg Int32.toInt ef687; have z4_ := congrArg Int32.toInt z683; have z_ := w_lits; have zl_ := l_lits; omega)⟩
              refine ev_isubB (l := 0) (u := 25) rfl rfl b707 (by decide : B 97 97 97) (by decide) (by decide) (by decide) (by decide) (fun v708 b708 e708 g708 => ?_)
              have e708x := e708; rw [show (97 : Int32).toInt = 97 from by decide] at e708x
              refine ev_istore_n rfl rfl rfl rfl ?_
              dsimp only [List.set]
              refine ev_iload_n rfl rfl rfl ?_
              refine ev_bipush (v := 11) rfl rfl (by decide) ?_
              refine ev_icmp_le rfl rfl (fun c709 => ?_) (fun c709 => ?_)
              · have b710 : B v708 0 11 := R_leX b708 (by decide : B 11 11 11) c709 (by decide)
                have b711 : B r706 97 108 := (R_bks (l' := 97) (u' := 108) e708 b710 (by decide : B 97 97 97) (by decide) (by decide))
                have z712 := w_le c709
                rw [show (11 : Int32).toInt = 11 from by decide] at z712
                refine ev_aload_n rfl rfl rfl ?_
                refine ev_getV (v := f687) rfl rfl fl_X10_207 rfl rfl rfl ef687 ?_
                refine ev_iload_n rfl rfl rfl ?_
                refine ev_ishrA rfl rfl (fun v716 => ?_)
                refine ev_iconst (v := 1) rfl rfl (by decide) ?_
                refine ev_iandB rfl rfl (by decide : B 1 1 1) (by decide) (fun v717 b717 e717 => ?_)
                refine ev_iconst (v := 1) rfl rfl (by decide) ?_
                refine ev_icmp_eq rfl rfl (fun c718 => ?_) (fun c718 => ?_)
                · have b719 : B v717 1 1 := R_eqX b717 (by decide : B 1 1 1) c718
                  have z720 := congrArg Int32.toInt c718
                  rw [show (1 : Int32).toInt = 1 from by decide] at z720
                  refine ev_aload_n rfl rfl rfl ?_
                  refine ev_iconst (v := 4) rfl rfl (by decide) ?_
                  refine ev_aload_n rfl rfl rfl ?_
                  refine ev_getV (v := f685) rfl rfl fl_X10_210 rfl rfl rfl ef685 ?_
                  refine ev_V2K hJ681 rfl rfl rfl lk_X10_200 vt_X10_fails rfl rfl rfl rfl rfl (w_X10_fails_63 L b h680 hJ681.1 4 ((by decide : B 4 4 4).mono (by decide) (by decide)) f685) (fun h723 hJ723 k723 m723 => ?_)
                  obtain ⟨f724, ef724⟩ : ∃ f_, h723 63 21 = f_ := ⟨_, rfl⟩
                  have bf724 : B f724 0 6 := by have z_ := hJ723.1 63 21; rw [ef724] at z_; exact z_
                  have zf724 := congrArg Int32.toInt ef724
                  refine ev_goto rfl rfl ?_
                  refine ev_aload_n rfl rfl rfl ?_
                  refine ev_dup rfl rfl rfl ?_
                  refine ev_getV (v := f685) rfl rfl fl_X10_210 rfl rfl rfl (rd_w k723 ef685 rfl) ?_
                  refine ev_iconst (v := 1) rfl rfl (by decide) ?_
                  refine ev_iaddB (l := 1) (u := 161) rfl rfl bf685 (by decide : B 1 1 1) (by decide) (by decide) (by decide) (by decide) (fun v725 b725 e725 g725 => ?_)
                  have e725x := e725; rw [show (1 : Int32).toInt = 1 from by decide] at e725x
                  have b726 : B v725 0 160 := ⟨(by have z0_ := congrArg Int32.toInt (rd_w k723 z682 rfl); have z1_ := congrArg Int32.toInt (rd_w k723 ef685 rfl); have z2_ := congrArg Int32.toInt ef724; have z3_ := congrArg Int32.toInt (rd_w k723 ef687 rfl); have z4_ := congrArg Int32.toInt (rd_w k723 z683 rfl); have z_ := w_lits; have zl_ := l_lits; omega), (by have z0_ := congrArg Int32.toInt (rd_w k723 z682 rfl); have z1_ := congrArg Int32.toInt (rd_w k723 ef685 rfl); have z2_ := congrArg Int32.toInt ef724; have z3_ := congrArg Int32.toInt (rd_w k723 ef687 rfl); have z4_ := congrArg Int32.toInt (rd_w k723 z683 rfl); have z_ := w_lits; have zl_ := l_lits; omega)⟩
                  refine ev_putW (l := 0) (u := 160) hJ723 rfl b726 (by decide) (by decide) rfl rfl rfl fl_X10_210 rfl rfl rfl rfl rfl (fun h727 hJ727 k727 => ?_)
                  refine ev_goto rfl rfl ?_
                  exact (ih10 v708 h727 (b710.mono (by decide) (by decide)) hJ727 (rd_o k727 (rd_w k723 z682 rfl) rfl) (rd_o k727 (rd_w k723 z683 rfl) rfl) (rd_o k727 (rd_w k723 z684 rfl) rfl) (by have z0_ := congrArg Int32.toInt (rd_o k727 (rd_w k723 z682 rfl) rfl); have z1_ := congrArg Int32.toInt (rd_s k727); have z_ := w_lits; have zl_ := l_lits; omega) (by have z0_ := congrArg Int32.toInt (rd_s k727); have z_ := w_lits; have zl_ := l_lits; omega) (by have z0_ := congrArg Int32.toInt (rd_o k727 (rd_w k723 ef687 rfl) rfl); have z_ := w_lits; have zl_ := l_lits; omega) (by rw [(rd_s k727)]; exact L_up hm10 (e_p1 e725 (by decide))))
                · have b721 : B v717 0 0 := R_neU b717 (by decide : B 1 1 1) c718 (by decide)
                  have z722 := w_ne c718
                  rw [show (1 : Int32).toInt = 1 from by decide] at z722
                  refine ev_aload_n rfl rfl rfl ?_
                  refine ev_getV (v := f687) rfl rfl fl_X10_207 rfl rfl rfl ef687 ?_
                  refine ev_S1P rfl rfl lk_X10_220 st_X10_bits rfl rfl (w_X10_bits L b h680 hJ681.1 f687) (fun r728 q728 => ?_)
                  refine ev_iconst (v := 5) rfl rfl (by decide) ?_
                  refine ev_icmp_ne rfl rfl (fun c729 => ?_) (fun c729 => ?_)
                  · have z730 := w_ne c729
                    rw [show (5 : Int32).toInt = 5 from by decide] at z730
                    refine ev_aload_n rfl rfl rfl ?_
                    refine ev_dup rfl rfl rfl ?_
                    refine ev_getV (v := f687) rfl rfl fl_X10_207 rfl rfl rfl ef687 ?_
                    refine ev_iconst (v := 1) rfl rfl (by decide) ?_
                    refine ev_iload_n rfl rfl rfl ?_
                    refine ev_ishlB rfl rfl b710 (by decide) (by decide) (fun v733 b733 => ?_)
                    have b734 : B f687 0 4095 := ⟨(by have z0_ := congrArg Int32.toInt z682; have z1_ := congrArg Int32.toInt ef685; have z2_ := congrArg Int32.toInt ef686; have z3_ := congrArg Int32.toInt ef687; have z4_ := congrArg Int32.toInt z683; have z_ := w_lits; have zl_ := l_lits; omega), (by have z0_ := congrArg Int32.toInt z682; have z1_ := congrArg Int32.toInt ef685; have z2_ := congrArg Int32.toInt ef686; have z3_ := congrArg Int32.toInt ef687; have z4_ := congrArg Int32.toInt z683; have z_ := w_lits; have zl_ := l_lits; omega)⟩
                    refine ev_iorB 12 (u := 4095) rfl rfl b734 b733 (by decide) (by decide) (by decide) (by decide) (by decide) (by decide) (fun v735 b735 e735 => ?_)
                    refine ev_putW (l := (-2147483648)) (u := 2147483647) hJ681 rfl b735 (by decide) (by decide) rfl rfl rfl fl_X10_207 rfl rfl rfl rfl rfl (fun h736 hJ736 k736 => ?_)
                    refine ev_aload_n rfl rfl rfl ?_
                    refine ev_dup rfl rfl rfl ?_
                    refine ev_getV (v := f685) rfl rfl fl_X10_210 rfl rfl rfl (rd_o k736 ef685 rfl) ?_
                    refine ev_iconst (v := 1) rfl rfl (by decide) ?_
                    refine ev_iaddB (l := 1) (u := 161) rfl rfl bf685 (by decide : B 1 1 1) (by decide) (by decide) (by decide) (by decide) (fun v737 b737 e737 g737 => ?_)
                    have e737x := e737; rw [show (1 : Int32).toInt = 1 from by decide] at e737x
                    have b738 : B v737 0 160 := ⟨(by have z0_ := congrArg Int32.toInt (rd_o k736 z682 rfl); have z1_ := congrArg Int32.toInt (rd_o k736 ef685 rfl); have z2_ := congrArg Int32.toInt (rd_o k736 ef686 rfl); have z3_ := congrArg Int32.toInt (rd_s k736); have z4_ := congrArg Int32.toInt (rd_o k736 z683 rfl); have z_ := w_lits; have zl_ := l_lits; omega), (by have z0_ := congrArg Int32.toInt (rd_o k736 z682 rfl); have z1_ := congrArg Int32.toInt (rd_o k736 ef685 rfl); have z2_ := congrArg Int32.toInt (rd_o k736 ef686 rfl); have z3_ := congrArg Int32.toInt (rd_s k736); have z4_ := congrArg Int32.toInt (rd_o k736 z683 rfl); have z_ := w_lits; have zl_ := l_lits; omega)⟩
                    refine ev_putW (l := 0) (u := 160) hJ736 rfl b738 (by decide) (by decide) rfl rfl rfl fl_X10_210 rfl rfl rfl rfl rfl (fun h739 hJ739 k739 => ?_)
                    refine ev_goto rfl rfl ?_
                    exact (ih10 v708 h739 (b710.mono (by decide) (by decide)) hJ739 (rd_o k739 (rd_o k736 z682 rfl) rfl) (rd_o k739 (rd_o k736 z683 rfl) rfl) (rd_o k739 (rd_o k736 z684 rfl) rfl) (by have z0_ := congrArg Int32.toInt (rd_o k739 (rd_o k736 z682 rfl) rfl); have z1_ := congrArg Int32.toInt (rd_s k739); have z_ := w_lits; have zl_ := l_lits; omega) (by have z0_ := congrArg Int32.toInt (rd_s k739); have z_ := w_lits; have zl_ := l_lits; omega) (by have z0_ := congrArg Int32.toInt (rd_o k739 (rd_s k736) rfl); have z_ := w_lits; have zl_ := l_lits; omega) (by rw [(rd_s k739)]; exact L_up hm10 (e_p1 e737 (by decide))))
                  · have b731 : B r728 5 5 := R_eqX (B.any r728) (by decide : B 5 5 5) c729
                    have z732 := congrArg Int32.toInt c729
                    rw [show (5 : Int32).toInt = 5 from by decide] at z732
                    refine ev_aload_n rfl rfl rfl ?_
                    refine ev_iconst (v := 4) rfl rfl (by decide) ?_
                    refine ev_aload_n rfl rfl rfl ?_
                    refine ev_getV (v := f685) rfl rfl fl_X10_210 rfl rfl rfl ef685 ?_
                    refine ev_V2K hJ681 rfl rfl rfl lk_X10_200 vt_X10_fails rfl rfl rfl rfl rfl (w_X10_fails_63 L b h680 hJ681.1 4 ((by decide : B 4 4 4).mono (by decide) (by decide)) f685) (fun h740 hJ740 k740 m740 => ?_)
                    obtain ⟨f741, ef741⟩ : ∃ f_, h740 63 21 = f_ := ⟨_, rfl⟩
                    have bf741 : B f741 0 6 := by have z_ := hJ740.1 63 21; rw [ef741] at z_; exact z_
                    have zf741 := congrArg Int32.toInt ef741
                    refine ev_goto rfl rfl ?_
                    refine ev_aload_n rfl rfl rfl ?_
                    refine ev_dup rfl rfl rfl ?_
                    refine ev_getV (v := f685) rfl rfl fl_X10_210 rfl rfl rfl (rd_w k740 ef685 rfl) ?_
                    refine ev_iconst (v := 1) rfl rfl (by decide) ?_
                    refine ev_iaddB (l := 1) (u := 161) rfl rfl bf685 (by decide : B 1 1 1) (by decide) (by decide) (by decide) (by decide) (fun v742 b742 e742 g742 => ?_)
                    have e742x := e742; rw [show (1 : Int32).toInt = 1 from by decide] at e742x
                    have b743 : B v742 0 160 := ⟨(by have z0_ := congrArg Int32.toInt (rd_w k740 z682 rfl); have z1_ := congrArg Int32.toInt (rd_w k740 ef685 rfl); have z2_ := congrArg Int32.toInt ef741; have z3_ := congrArg Int32.toInt (rd_w k740 ef687 rfl); have z4_ := congrArg Int32.toInt (rd_w k740 z683 rfl); have z_ := w_lits; have zl_ := l_lits; omega), (by have z0_ := congrArg Int32.toInt (rd_w k740 z682 rfl); have z1_ := congrArg Int32.toInt (rd_w k740 ef685 rfl); have z2_ := congrArg Int32.toInt ef741; have z3_ := congrArg Int32.toInt (rd_w k740 ef687 rfl); have z4_ := congrArg Int32.toInt (rd_w k740 z683 rfl); have z_ := w_lits; have zl_ := l_lits; omega)⟩
                    refine ev_putW (l := 0) (u := 160) hJ740 rfl b743 (by decide) (by decide) rfl rfl rfl fl_X10_210 rfl rfl rfl rfl rfl (fun h744 hJ744 k744 => ?_)
                    refine ev_goto rfl rfl ?_
                    exact (ih10 v708 h744 (b710.mono (by decide) (by decide)) hJ744 (rd_o k744 (rd_w k740 z682 rfl) rfl) (rd_o k744 (rd_w k740 z683 rfl) rfl) (rd_o k744 (rd_w k740 z684 rfl) rfl) (by have z0_ := congrArg Int32.toInt (rd_o k744 (rd_w k740 z682 rfl) rfl); have z1_ := congrArg Int32.toInt (rd_s k744); have z_ := w_lits; have zl_ := l_lits; omega) (by have z0_ := congrArg Int32.toInt (rd_s k744); have z_ := w_lits; have zl_ := l_lits; omega) (by have z0_ := congrArg Int32.toInt (rd_o k744 (rd_w k740 ef687 rfl) rfl); have z_ := w_lits; have zl_ := l_lits; omega) (by rw [(rd_s k744)]; exact L_up hm10 (e_p1 e742 (by decide))))
              · have b713 : B v708 12 25 := R_ltY (by decide : B 11 11 11) b708 (Int32.not_le.mp c709) (by decide)
                have b714 : B r706 109 122 := (R_bks (l' := 109) (u' := 122) e708 b713 (by decide : B 97 97 97) (by decide) (by decide))
                have z715 := w_lt (Int32.not_le.mp c709)
                rw [show (11 : Int32).toInt = 11 from by decide] at z715
                refine ev_aload_n rfl rfl rfl ?_
                refine ev_iconst (v := 1) rfl rfl (by decide) ?_
                refine ev_aload_n rfl rfl rfl ?_
                refine ev_getV (v := f685) rfl rfl fl_X10_210 rfl rfl rfl ef685 ?_
                refine ev_V2K hJ681 rfl rfl rfl lk_X10_200 vt_X10_fails rfl rfl rfl rfl rfl (w_X10_fails_63 L b h680 hJ681.1 1 ((by decide : B 1 1 1).mono (by decide) (by decide)) f685) (fun h745 hJ745 k745 m745 => ?_)
                obtain ⟨f746, ef746⟩ : ∃ f_, h745 63 21 = f_ := ⟨_, rfl⟩
                have bf746 : B f746 0 6 := by have z_ := hJ745.1 63 21; rw [ef746] at z_; exact z_
                have zf746 := congrArg Int32.toInt ef746
                refine ev_goto rfl rfl ?_
                refine ev_aload_n rfl rfl rfl ?_
                refine ev_dup rfl rfl rfl ?_
                refine ev_getV (v := f685) rfl rfl fl_X10_210 rfl rfl rfl (rd_w k745 ef685 rfl) ?_
                refine ev_iconst (v := 1) rfl rfl (by decide) ?_
                refine ev_iaddB (l := 1) (u := 161) rfl rfl bf685 (by decide : B 1 1 1) (by decide) (by decide) (by decide) (by decide) (fun v747 b747 e747 g747 => ?_)
                have e747x := e747; rw [show (1 : Int32).toInt = 1 from by decide] at e747x
                have b748 : B v747 0 160 := ⟨(by have z0_ := congrArg Int32.toInt (rd_w k745 z682 rfl); have z1_ := congrArg Int32.toInt (rd_w k745 ef685 rfl); have z2_ := congrArg Int32.toInt ef746; have z3_ := congrArg Int32.toInt (rd_w k745 ef687 rfl); have z4_ := congrArg Int32.toInt (rd_w k745 z683 rfl); have z_ := w_lits; have zl_ := l_lits; omega), (by have z0_ := congrArg Int32.toInt (rd_w k745 z682 rfl); have z1_ := congrArg Int32.toInt (rd_w k745 ef685 rfl); have z2_ := congrArg Int32.toInt ef746; have z3_ := congrArg Int32.toInt (rd_w k745 ef687 rfl); have z4_ := congrArg Int32.toInt (rd_w k745 z683 rfl); have z_ := w_lits; have zl_ := l_lits; omega)⟩
                refine ev_putW (l := 0) (u := 160) hJ745 rfl b748 (by decide) (by decide) rfl rfl rfl fl_X10_210 rfl rfl rfl rfl rfl (fun h749 hJ749 k749 => ?_)
                refine ev_goto rfl rfl ?_
                exact (ih10 v708 h749 (b713.mono (by decide) (by decide)) hJ749 (rd_o k749 (rd_w k745 z682 rfl) rfl) (rd_o k749 (rd_w k745 z683 rfl) rfl) (rd_o k749 (rd_w k745 z684 rfl) rfl) (by have z0_ := congrArg Int32.toInt (rd_o k749 (rd_w k745 z682 rfl) rfl); have z1_ := congrArg Int32.toInt (rd_s k749); have z_ := w_lits; have zl_ := l_lits; omega) (by have z0_ := congrArg Int32.toInt (rd_s k749); have z_ := w_lits; have zl_ := l_lits; omega) (by have z0_ := congrArg Int32.toInt (rd_o k749 (rd_w k745 ef687 rfl) rfl); have z_ := w_lits; have zl_ := l_lits; omega) (by rw [(rd_s k749)]; exact L_up hm10 (e_p1 e747 (by decide))))
      exact (lp10_677 161 v25 h389 (b27.mono (by decide) (by decide)) hJ389 (rd_o k389 (rd_w k385 (rd_o k6 (rd_o k5 ef1 rfl) rfl) rfl) rfl) (rd_o k389 (rd_w k385 (rd_o k6 (rd_s k5) rfl) rfl) rfl) (rd_o k389 (rd_w k385 (rd_o k6 (rd_o k5 rt rfl) rfl) rfl) rfl) (by have z0_ := congrArg Int32.toInt (rd_o k389 (rd_w k385 (rd_o k6 (rd_o k5 ef1 rfl) rfl) rfl) rfl); have z1_ := congrArg Int32.toInt (rd_s k389); have z_ := w_lits; have zl_ := l_lits; omega) (by have z0_ := congrArg Int32.toInt (rd_s k389); have z_ := w_lits; have zl_ := l_lits; omega) (by have z0_ := congrArg Int32.toInt (rd_o k389 (rd_w k385 (rd_s k6) rfl) rfl); have z_ := w_lits; have zl_ := l_lits; omega) (by rw [(rd_s k389)]; exact L_init b388 (by decide)))
  · have b30 : B v25 12 25 := R_ltY (by decide : B 11 11 11) b25 (Int32.not_le.mp c26) (by decide)
    have b31 : B r23 109 122 := (R_bks (l' := 109) (u' := 122) e25 b30 (by decide : B 97 97 97) (by decide) (by decide))
    have z32 := w_lt (Int32.not_le.mp c26)
    rw [show (11 : Int32).toInt = 11 from by decide] at z32
    refine ev_aload_n rfl rfl rfl ?_
    refine ev_iconst (v := 1) rfl rfl (by decide) ?_
    refine ev_aload_n rfl rfl rfl ?_
    refine ev_getV (v := f2) rfl rfl fl_X10_210 rfl rfl rfl (rd_o k6 (rd_o k5 ef2 rfl) rfl) ?_
    refine ev_V2K hJ6 rfl rfl rfl lk_X10_200 vt_X10_fails rfl rfl rfl rfl rfl (w_X10_fails_63 L b h6 hJ6.1 1 ((by decide : B 1 1 1).mono (by decide) (by decide)) f2) (fun h750 hJ750 k750 m750 => ?_)
    obtain ⟨f751, ef751⟩ : ∃ f_, h750 63 21 = f_ := ⟨_, rfl⟩
    have bf751 : B f751 0 6 := by have z_ := hJ750.1 63 21; rw [ef751] at z_; exact z_
    have zf751 := congrArg Int32.toInt ef751
    refine ev_goto rfl rfl ?_
    refine ev_aload_n rfl rfl rfl ?_
    refine ev_dup rfl rfl rfl ?_
    refine ev_getV (v := f2) rfl rfl fl_X10_210 rfl rfl rfl (rd_w k750 (rd_o k6 (rd_o k5 ef2 rfl) rfl) rfl) ?_
    refine ev_iconst (v := 1) rfl rfl (by decide) ?_
    refine ev_iaddB (l := 1) (u := 161) rfl rfl bf2 (by decide : B 1 1 1) (by decide) (by decide) (by decide) (by decide) (fun v752 b752 e752 g752 => ?_)
    have e752x := e752; rw [show (1 : Int32).toInt = 1 from by decide] at e752x
    have b753 : B v752 0 160 := ⟨(by have z0_ := congrArg Int32.toInt (rd_w k750 (rd_o k6 (rd_o k5 ef1 rfl) rfl) rfl); have z1_ := congrArg Int32.toInt (rd_w k750 (rd_o k6 (rd_o k5 ef2 rfl) rfl) rfl); have z2_ := congrArg Int32.toInt ef751; have z3_ := congrArg Int32.toInt (rd_w k750 (rd_s k6) rfl); have z4_ := congrArg Int32.toInt (rd_w k750 (rd_o k6 (rd_s k5) rfl) rfl); have z_ := w_lits; have zl_ := l_lits; omega), (by have z0_ := congrArg Int32.toInt (rd_w k750 (rd_o k6 (rd_o k5 ef1 rfl) rfl) rfl); have z1_ := congrArg Int32.toInt (rd_w k750 (rd_o k6 (rd_o k5 ef2 rfl) rfl) rfl); have z2_ := congrArg Int32.toInt ef751; have z3_ := congrArg Int32.toInt (rd_w k750 (rd_s k6) rfl); have z4_ := congrArg Int32.toInt (rd_w k750 (rd_o k6 (rd_s k5) rfl) rfl); have z_ := w_lits; have zl_ := l_lits; omega)⟩
    refine ev_putW (l := 0) (u := 160) hJ750 rfl b753 (by decide) (by decide) rfl rfl rfl fl_X10_210 rfl rfl rfl rfl rfl (fun h754 hJ754 k754 => ?_)
    refine ev_goto rfl rfl ?_
    have lp10_985 : ∀ (n : Nat) (w986 : Int32) (h988 : Hp), B w986 0 25 → JW [(63, 17), (63, 19), (63, 20), (63, 21), (63, 22)] h h988 → (h988 63 16 = f1) → (h988 63 19 = 1) → (h988 72 (Int32.toNatClampNeg f2) = t) → ((h988 63 17).toInt ≤ (h988 63 16).toInt) → ((h 63 17).toInt + 1 ≤ (h988 63 17).toInt) → (0 ≤ (h988 63 20).toInt ∧ (h988 63 20).toInt ≤ 4095) → 160 + 1 - (h988 63 17).toInt ≤ (n : Int) → EvQ mi_X10_readChord 10 [some (.ref 63), some (.int w986)] [] (G0 L b) h988 0 0 (QK (fun z : Hp => ((z 63 17).toInt ≤ (z 63 16).toInt) ∧ ((h 63 17).toInt + 1 ≤ (z 63 17).toInt) ∧ ((z 63 19).toInt = 1) ∧ (0 ≤ (z 63 20).toInt ∧ (z 63 20).toInt ≤ 4095)) [(63, 17), (63, 19), (63, 20), (63, 21), (63, 22)] (G0 L b) h) := by
      intro n
      induction n with
      | zero =>
        intro w986 h988 b987 hJ989 z990 z991 z992 y10_0 y10_1 y10_2 hm10
        obtain ⟨f993, ef993⟩ : ∃ f_, h988 63 17 = f_ := ⟨_, rfl⟩
        have bf993 : B f993 0 160 := by
          have z_ := hJ989.1 63 17
          rw [ef993] at z_
          exact z_
        rw [ef993] at hm10
        exact absurd hm10 (L_zero bf993 (by decide))
      | succ n ih10 =>
        intro w986 h988 b987 hJ989 z990 z991 z992 y10_0 y10_1 y10_2 hm10
        obtain ⟨f993, ef993⟩ : ∃ f_, h988 63 17 = f_ := ⟨_, rfl⟩
        have bf993 : B f993 0 160 := by
          have z_ := hJ989.1 63 17
          rw [ef993] at z_
          exact z_
        rw [ef993] at hm10
        obtain ⟨f994, ef994⟩ : ∃ f_, h988 63 21 = f_ := ⟨_, rfl⟩
        have bf994 : B f994 0 6 := by have z_ := hJ989.1 63 21; rw [ef994] at z_; exact z_
        have zf994 := congrArg Int32.toInt ef994
        obtain ⟨f995, ef995⟩ : ∃ f_, h988 63 20 = f_ := ⟨_, rfl⟩
        have zf995 := congrArg Int32.toInt ef995
        have z996 := congrArg Int32.toInt z990
        have z997 := congrArg Int32.toInt ef993
        have z998 := congrArg Int32.toInt z991
        refine ev_aload_n rfl rfl rfl ?_
        refine ev_aload_n rfl rfl rfl ?_
        refine ev_getV (v := f993) rfl rfl fl_X10_210 rfl rfl rfl ef993 ?_
        obtain ⟨t999, et999⟩ : ∃ f_, h988 72 (Int32.toNatClampNeg f993) = f_ := ⟨_, rfl⟩
        have bt999 : B t999 0 255 := by have z_ := hJ989.1 72 (Int32.toNatClampNeg f993); rw [et999] at z_; exact z_
        refine ev_V1P rfl rfl lk_X10_213 vt_X10_look rfl rfl rfl rfl rfl (w_X10_look_63 L b h988 hJ989.1 f993 bf993 t999 et999) (fun r1000 q1000 => ?_)
        obtain ⟨b1000, pp1000_0, pp1000_1⟩ := q1000
        refine ev_i2l rfl rfl ?_
        have z1001 := Int32.toInt_toInt64 r1000
        have z1001b := B.any r1000
        refine ev_ldc2 (v := 97) rfl rfl kc_X10_216 ?_
        refine ev_ldc2 (v := 122) rfl rfl kc_X10_218 ?_
        refine ev_S3P rfl rfl lk_X10_124 st_X10_in rfl rfl (w_inR (G0 L b) h988 r1000 97 122 (by decide : BL 97 97 97) (by decide : BL 122 122 122)) (fun r1002 q1002 => ?_)
        obtain ⟨b1002, p1002_0, pp1002_0, pp1002_1⟩ := q1002
        refine ev_if_eq rfl rfl (fun c1003 => ?_) (fun c1003 => ?_)
        · have b1004 : B r1002 0 0 := R_eqX b1002 (by decide : B 0 0 0) c1003
          have z1005 := congrArg Int32.toInt c1003
          rw [show (0 : Int32).toInt = 0 from by decide] at z1005
          exact ev_vret rfl rfl trivial ⟨rfl, rfl, hJ989, (by have z0_ := congrArg Int32.toInt z990; have z1_ := congrArg Int32.toInt ef993; have z_ := w_lits; have zl_ := l_lits; omega), (by have z0_ := congrArg Int32.toInt ef993; have z_ := w_lits; have zl_ := l_lits; omega), (by have z0_ := congrArg Int32.toInt z991; have z_ := w_lits; have zl_ := l_lits; omega), (by have z0_ := congrArg Int32.toInt ef995; have z_ := w_lits; have zl_ := l_lits; omega)⟩
        · have b1006 : B r1002 1 1 := R_neL b1002 (by decide : B 0 0 0) c1003 (by decide)
          have b1007 : B r1000 97 122 := p1002_0 c1003
          have z1008 := w_ne c1003
          rw [show (0 : Int32).toInt = 0 from by decide] at z1008
          refine ev_aload_n rfl rfl rfl ?_
          refine ev_getV (v := f994) rfl rfl fl_X10_191 rfl rfl rfl ef994 ?_
          refine ev_if_ne rfl rfl (fun c1009 => ?_) (fun c1009 => ?_)
          · have b1010 : B f994 1 6 := R_neL bf994 (by decide : B 0 0 0) c1009 (by decide)
            have z1011 := w_ne c1009
            rw [show (0 : Int32).toInt = 0 from by decide] at z1011
            exact ev_vret rfl rfl trivial ⟨rfl, rfl, hJ989, (by have z0_ := congrArg Int32.toInt z990; have z1_ := congrArg Int32.toInt ef993; have z_ := w_lits; have zl_ := l_lits; omega), (by have z0_ := congrArg Int32.toInt ef993; have z_ := w_lits; have zl_ := l_lits; omega), (by have z0_ := congrArg Int32.toInt z991; have z_ := w_lits; have zl_ := l_lits; omega), (by have z0_ := congrArg Int32.toInt ef995; have z_ := w_lits; have zl_ := l_lits; omega)⟩
          · have b1012 : B f994 0 0 := R_eqX bf994 (by decide : B 0 0 0) c1009
            have z1013 := congrArg Int32.toInt c1009
            rw [show (0 : Int32).toInt = 0 from by decide] at z1013
            refine ev_aload_n rfl rfl rfl ?_
            refine ev_aload_n rfl rfl rfl ?_
            refine ev_getV (v := f993) rfl rfl fl_X10_210 rfl rfl rfl ef993 ?_
            refine ev_V1P rfl rfl lk_X10_213 vt_X10_look rfl rfl rfl rfl rfl (w_X10_look_63 L b h988 hJ989.1 f993 bf993 t999 et999) (fun r1014 q1014 => ?_)
            obtain ⟨b1014, pp1014_0, pp1014_1⟩ := q1014
            refine ev_bipush (v := 97) rfl rfl (by decide) ?_
            have b1015 : B r1014 97 122 := ⟨(by have z0_ := congrArg Int32.toInt z990; have z1_ := congrArg Int32.toInt ef993; have z2_ := congrArg Int32.toInt ef994; have z3_ := congrArg Int32.toInt ef995; have z4_ := congrArg Int32.toInt z991; have z_ := w_lits; have zl_ := l_lits; omega), (by have z0_ := congrArg Int32.toInt z990; have z1_ := congrArg Int32.toInt ef993; have z2_ := congrArg Int32.toInt ef994; have z3_ := congrArg Int32.toInt ef995; have z4_ := congrArg Int32.toInt z991; have z_ := w_lits; have zl_ := l_lits; omega)⟩
            refine ev_isubB (l := 0) (u := 25) rfl rfl b1015 (by decide : B 97 97 97) (by decide) (by decide) (by decide) (by decide) (fun v1016 b1016 e1016 g1016 => ?_)
            have e1016x := e1016; rw [show (97 : Int32).toInt = 97 from by decide] at e1016x
            refine ev_istore_n rfl rfl rfl rfl ?_
            dsimp only [List.set]
            refine ev_iload_n rfl rfl rfl ?_
            refine ev_bipush (v := 11) rfl rfl (by decide) ?_
            refine ev_icmp_le rfl rfl (fun c1017 => ?_) (fun c1017 => ?_)
            · have b1018 : B v1016 0 11 := R_leX b1016 (by decide : B 11 11 11) c1017 (by decide)
              have b1019 : B r1014 97 108 := (R_bks (l' := 97) (u' := 108) e1016 b1018 (by decide : B 97 97 97) (by decide) (by decide))
              have z1020 := w_le c1017
              rw [show (11 : Int32).toInt = 11 from by decide] at z1020
              refine ev_aload_n rfl rfl rfl ?_
              refine ev_getV (v := f995) rfl rfl fl_X10_207 rfl rfl rfl ef995 ?_
              refine ev_iload_n rfl rfl rfl ?_
              refine ev_ishrA rfl rfl (fun v1024 => ?_)
              refine ev_iconst (v := 1) rfl rfl (by decide) ?_
              refine ev_iandB rfl rfl (by decide : B 1 1 1) (by decide) (fun v1025 b1025 e1025 => ?_)
              refine ev_iconst (v := 1) rfl rfl (by decide) ?_
              refine ev_icmp_eq rfl rfl (fun c1026 => ?_) (fun c1026 => ?_)
              · have b1027 : B v1025 1 1 := R_eqX b1025 (by decide : B 1 1 1) c1026
                have z1028 := congrArg Int32.toInt c1026
                rw [show (1 : Int32).toInt = 1 from by decide] at z1028
                refine ev_aload_n rfl rfl rfl ?_
                refine ev_iconst (v := 4) rfl rfl (by decide) ?_
                refine ev_aload_n rfl rfl rfl ?_
                refine ev_getV (v := f993) rfl rfl fl_X10_210 rfl rfl rfl ef993 ?_
                refine ev_V2K hJ989 rfl rfl rfl lk_X10_200 vt_X10_fails rfl rfl rfl rfl rfl (w_X10_fails_63 L b h988 hJ989.1 4 ((by decide : B 4 4 4).mono (by decide) (by decide)) f993) (fun h1031 hJ1031 k1031 m1031 => ?_)
                obtain ⟨f1032, ef1032⟩ : ∃ f_, h1031 63 21 = f_ := ⟨_, rfl⟩
                have bf1032 : B f1032 0 6 := by have z_ := hJ1031.1 63 21; rw [ef1032] at z_; exact z_
                have zf1032 := congrArg Int32.toInt ef1032
                refine ev_goto rfl rfl ?_
                refine ev_aload_n rfl rfl rfl ?_
                refine ev_dup rfl rfl rfl ?_
                refine ev_getV (v := f993) rfl rfl fl_X10_210 rfl rfl rfl (rd_w k1031 ef993 rfl) ?_
                refine ev_iconst (v := 1) rfl rfl (by decide) ?_
                refine ev_iaddB (l := 1) (u := 161) rfl rfl bf993 (by decide : B 1 1 1) (by decide) (by decide) (by decide) (by decide) (fun v1033 b1033 e1033 g1033 => ?_)
                have e1033x := e1033; rw [show (1 : Int32).toInt = 1 from by decide] at e1033x
                have b1034 : B v1033 0 160 := ⟨(by have z0_ := congrArg Int32.toInt (rd_w k1031 z990 rfl); have z1_ := congrArg Int32.toInt (rd_w k1031 ef993 rfl); have z2_ := congrArg Int32.toInt ef1032; have z3_ := congrArg Int32.toInt (rd_w k1031 ef995 rfl); have z4_ := congrArg Int32.toInt (rd_w k1031 z991 rfl); have z_ := w_lits; have zl_ := l_lits; omega), (by have z0_ := congrArg Int32.toInt (rd_w k1031 z990 rfl); have z1_ := congrArg Int32.toInt (rd_w k1031 ef993 rfl); have z2_ := congrArg Int32.toInt ef1032; have z3_ := congrArg Int32.toInt (rd_w k1031 ef995 rfl); have z4_ := congrArg Int32.toInt (rd_w k1031 z991 rfl); have z_ := w_lits; have zl_ := l_lits; omega)⟩
                refine ev_putW (l := 0) (u := 160) hJ1031 rfl b1034 (by decide) (by decide) rfl rfl rfl fl_X10_210 rfl rfl rfl rfl rfl (fun h1035 hJ1035 k1035 => ?_)
                refine ev_goto rfl rfl ?_
                exact (ih10 v1016 h1035 (b1018.mono (by decide) (by decide)) hJ1035 (rd_o k1035 (rd_w k1031 z990 rfl) rfl) (rd_o k1035 (rd_w k1031 z991 rfl) rfl) (rd_o k1035 (rd_w k1031 z992 rfl) rfl) (by have z0_ := congrArg Int32.toInt (rd_o k1035 (rd_w k1031 z990 rfl) rfl); have z1_ := congrArg Int32.toInt (rd_s k1035); have z_ := w_lits; have zl_ := l_lits; omega) (by have z0_ := congrArg Int32.toInt (rd_s k1035); have z_ := w_lits; have zl_ := l_lits; omega) (by have z0_ := congrArg Int32.toInt (rd_o k1035 (rd_w k1031 ef995 rfl) rfl); have z_ := w_lits; have zl_ := l_lits; omega) (by rw [(rd_s k1035)]; exact L_up hm10 (e_p1 e1033 (by decide))))
              · have b1029 : B v1025 0 0 := R_neU b1025 (by decide : B 1 1 1) c1026 (by decide)
                have z1030 := w_ne c1026
                rw [show (1 : Int32).toInt = 1 from by decide] at z1030
                refine ev_aload_n rfl rfl rfl ?_
                refine ev_getV (v := f995) rfl rfl fl_X10_207 rfl rfl rfl ef995 ?_
                refine ev_S1P rfl rfl lk_X10_220 st_X10_bits rfl rfl (w_X10_bits L b h988 hJ989.1 f995) (fun r1036 q1036 => ?_)
                refine ev_iconst (v := 5) rfl rfl (by decide) ?_
                refine ev_icmp_ne rfl rfl (fun c1037 => ?_) (fun c1037 => ?_)
                · have z1038 := w_ne c1037
                  rw [show (5 : Int32).toInt = 5 from by decide] at z1038
                  refine ev_aload_n rfl rfl rfl ?_
                  refine ev_dup rfl rfl rfl ?_
                  refine ev_getV (v := f995) rfl rfl fl_X10_207 rfl rfl rfl ef995 ?_
                  refine ev_iconst (v := 1) rfl rfl (by decide) ?_
                  refine ev_iload_n rfl rfl rfl ?_
                  refine ev_ishlB rfl rfl b1018 (by decide) (by decide) (fun v1041 b1041 => ?_)
                  have b1042 : B f995 0 4095 := ⟨(by have z0_ := congrArg Int32.toInt z990; have z1_ := congrArg Int32.toInt ef993; have z2_ := congrArg Int32.toInt ef994; have z3_ := congrArg Int32.toInt ef995; have z4_ := congrArg Int32.toInt z991; have z_ := w_lits; have zl_ := l_lits; omega), (by have z0_ := congrArg Int32.toInt z990; have z1_ := congrArg Int32.toInt ef993; have z2_ := congrArg Int32.toInt ef994; have z3_ := congrArg Int32.toInt ef995; have z4_ := congrArg Int32.toInt z991; have z_ := w_lits; have zl_ := l_lits; omega)⟩
                  refine ev_iorB 12 (u := 4095) rfl rfl b1042 b1041 (by decide) (by decide) (by decide) (by decide) (by decide) (by decide) (fun v1043 b1043 e1043 => ?_)
                  refine ev_putW (l := (-2147483648)) (u := 2147483647) hJ989 rfl b1043 (by decide) (by decide) rfl rfl rfl fl_X10_207 rfl rfl rfl rfl rfl (fun h1044 hJ1044 k1044 => ?_)
                  refine ev_aload_n rfl rfl rfl ?_
                  refine ev_dup rfl rfl rfl ?_
                  refine ev_getV (v := f993) rfl rfl fl_X10_210 rfl rfl rfl (rd_o k1044 ef993 rfl) ?_
                  refine ev_iconst (v := 1) rfl rfl (by decide) ?_
                  refine ev_iaddB (l := 1) (u := 161) rfl rfl bf993 (by decide : B 1 1 1) (by decide) (by decide) (by decide) (by decide) (fun v1045 b1045 e1045 g1045 => ?_)
                  have e1045x := e1045; rw [show (1 : Int32).toInt = 1 from by decide] at e1045x
                  have b1046 : B v1045 0 160 := ⟨(by have z0_ := congrArg Int32.toInt (rd_o k1044 z990 rfl); have z1_ := congrArg Int32.toInt (rd_o k1044 ef993 rfl); have z2_ := congrArg Int32.toInt (rd_o k1044 ef994 rfl); have z3_ := congrArg Int32.toInt (rd_s k1044); have z4_ := congrArg Int32.toInt (rd_o k1044 z991 rfl); have z_ := w_lits; have zl_ := l_lits; omega), (by have z0_ := congrArg Int32.toInt (rd_o k1044 z990 rfl); have z1_ := congrArg Int32.toInt (rd_o k1044 ef993 rfl); have z2_ := congrArg Int32.toInt (rd_o k1044 ef994 rfl); have z3_ := congrArg Int32.toInt (rd_s k1044); have z4_ := congrArg Int32.toInt (rd_o k1044 z991 rfl); have z_ := w_lits; have zl_ := l_lits; omega)⟩
                  refine ev_putW (l := 0) (u := 160) hJ1044 rfl b1046 (by decide) (by decide) rfl rfl rfl fl_X10_210 rfl rfl rfl rfl rfl (fun h1047 hJ1047 k1047 => ?_)
                  refine ev_goto rfl rfl ?_
                  exact (ih10 v1016 h1047 (b1018.mono (by decide) (by decide)) hJ1047 (rd_o k1047 (rd_o k1044 z990 rfl) rfl) (rd_o k1047 (rd_o k1044 z991 rfl) rfl) (rd_o k1047 (rd_o k1044 z992 rfl) rfl) (by have z0_ := congrArg Int32.toInt (rd_o k1047 (rd_o k1044 z990 rfl) rfl); have z1_ := congrArg Int32.toInt (rd_s k1047); have z_ := w_lits; have zl_ := l_lits; omega) (by have z0_ := congrArg Int32.toInt (rd_s k1047); have z_ := w_lits; have zl_ := l_lits; omega) (by have z0_ := congrArg Int32.toInt (rd_o k1047 (rd_s k1044) rfl); have z_ := w_lits; have zl_ := l_lits; omega) (by rw [(rd_s k1047)]; exact L_up hm10 (e_p1 e1045 (by decide))))
                · have b1039 : B r1036 5 5 := R_eqX (B.any r1036) (by decide : B 5 5 5) c1037
                  have z1040 := congrArg Int32.toInt c1037
                  rw [show (5 : Int32).toInt = 5 from by decide] at z1040
                  refine ev_aload_n rfl rfl rfl ?_
                  refine ev_iconst (v := 4) rfl rfl (by decide) ?_
                  refine ev_aload_n rfl rfl rfl ?_
                  refine ev_getV (v := f993) rfl rfl fl_X10_210 rfl rfl rfl ef993 ?_
                  refine ev_V2K hJ989 rfl rfl rfl lk_X10_200 vt_X10_fails rfl rfl rfl rfl rfl (w_X10_fails_63 L b h988 hJ989.1 4 ((by decide : B 4 4 4).mono (by decide) (by decide)) f993) (fun h1048 hJ1048 k1048 m1048 => ?_)
                  obtain ⟨f1049, ef1049⟩ : ∃ f_, h1048 63 21 = f_ := ⟨_, rfl⟩
                  have bf1049 : B f1049 0 6 := by have z_ := hJ1048.1 63 21; rw [ef1049] at z_; exact z_
                  have zf1049 := congrArg Int32.toInt ef1049
                  refine ev_goto rfl rfl ?_
                  refine ev_aload_n rfl rfl rfl ?_
                  refine ev_dup rfl rfl rfl ?_
                  refine ev_getV (v := f993) rfl rfl fl_X10_210 rfl rfl rfl (rd_w k1048 ef993 rfl) ?_
                  refine ev_iconst (v := 1) rfl rfl (by decide) ?_
                  refine ev_iaddB (l := 1) (u := 161) rfl rfl bf993 (by decide : B 1 1 1) (by decide) (by decide) (by decide) (by decide) (fun v1050 b1050 e1050 g1050 => ?_)
                  have e1050x := e1050; rw [show (1 : Int32).toInt = 1 from by decide] at e1050x
                  have b1051 : B v1050 0 160 := ⟨(by have z0_ := congrArg Int32.toInt (rd_w k1048 z990 rfl); have z1_ := congrArg Int32.toInt (rd_w k1048 ef993 rfl); have z2_ := congrArg Int32.toInt ef1049; have z3_ := congrArg Int32.toInt (rd_w k1048 ef995 rfl); have z4_ := congrArg Int32.toInt (rd_w k1048 z991 rfl); have z_ := w_lits; have zl_ := l_lits; omega), (by have z0_ := congrArg Int32.toInt (rd_w k1048 z990 rfl); have z1_ := congrArg Int32.toInt (rd_w k1048 ef993 rfl); have z2_ := congrArg Int32.toInt ef1049; have z3_ := congrArg Int32.toInt (rd_w k1048 ef995 rfl); have z4_ := congrArg Int32.toInt (rd_w k1048 z991 rfl); have z_ := w_lits; have zl_ := l_lits; omega)⟩
                  refine ev_putW (l := 0) (u := 160) hJ1048 rfl b1051 (by decide) (by decide) rfl rfl rfl fl_X10_210 rfl rfl rfl rfl rfl (fun h1052 hJ1052 k1052 => ?_)
                  refine ev_goto rfl rfl ?_
                  exact (ih10 v1016 h1052 (b1018.mono (by decide) (by decide)) hJ1052 (rd_o k1052 (rd_w k1048 z990 rfl) rfl) (rd_o k1052 (rd_w k1048 z991 rfl) rfl) (rd_o k1052 (rd_w k1048 z992 rfl) rfl) (by have z0_ := congrArg Int32.toInt (rd_o k1052 (rd_w k1048 z990 rfl) rfl); have z1_ := congrArg Int32.toInt (rd_s k1052); have z_ := w_lits; have zl_ := l_lits; omega) (by have z0_ := congrArg Int32.toInt (rd_s k1052); have z_ := w_lits; have zl_ := l_lits; omega) (by have z0_ := congrArg Int32.toInt (rd_o k1052 (rd_w k1048 ef995 rfl) rfl); have z_ := w_lits; have zl_ := l_lits; omega) (by rw [(rd_s k1052)]; exact L_up hm10 (e_p1 e1050 (by decide))))
            · have b1021 : B v1016 12 25 := R_ltY (by decide : B 11 11 11) b1016 (Int32.not_le.mp c1017) (by decide)
              have b1022 : B r1014 109 122 := (R_bks (l' := 109) (u' := 122) e1016 b1021 (by decide : B 97 97 97) (by decide) (by decide))
              have z1023 := w_lt (Int32.not_le.mp c1017)
              rw [show (11 : Int32).toInt = 11 from by decide] at z1023
              refine ev_aload_n rfl rfl rfl ?_
              refine ev_iconst (v := 1) rfl rfl (by decide) ?_
              refine ev_aload_n rfl rfl rfl ?_
              refine ev_getV (v := f993) rfl rfl fl_X10_210 rfl rfl rfl ef993 ?_
              refine ev_V2K hJ989 rfl rfl rfl lk_X10_200 vt_X10_fails rfl rfl rfl rfl rfl (w_X10_fails_63 L b h988 hJ989.1 1 ((by decide : B 1 1 1).mono (by decide) (by decide)) f993) (fun h1053 hJ1053 k1053 m1053 => ?_)
              obtain ⟨f1054, ef1054⟩ : ∃ f_, h1053 63 21 = f_ := ⟨_, rfl⟩
              have bf1054 : B f1054 0 6 := by have z_ := hJ1053.1 63 21; rw [ef1054] at z_; exact z_
              have zf1054 := congrArg Int32.toInt ef1054
              refine ev_goto rfl rfl ?_
              refine ev_aload_n rfl rfl rfl ?_
              refine ev_dup rfl rfl rfl ?_
              refine ev_getV (v := f993) rfl rfl fl_X10_210 rfl rfl rfl (rd_w k1053 ef993 rfl) ?_
              refine ev_iconst (v := 1) rfl rfl (by decide) ?_
              refine ev_iaddB (l := 1) (u := 161) rfl rfl bf993 (by decide : B 1 1 1) (by decide) (by decide) (by decide) (by decide) (fun v1055 b1055 e1055 g1055 => ?_)
              have e1055x := e1055; rw [show (1 : Int32).toInt = 1 from by decide] at e1055x
              have b1056 : B v1055 0 160 := ⟨(by have z0_ := congrArg Int32.toInt (rd_w k1053 z990 rfl); have z1_ := congrArg Int32.toInt (rd_w k1053 ef993 rfl); have z2_ := congrArg Int32.toInt ef1054; have z3_ := congrArg Int32.toInt (rd_w k1053 ef995 rfl); have z4_ := congrArg Int32.toInt (rd_w k1053 z991 rfl); have z_ := w_lits; have zl_ := l_lits; omega), (by have z0_ := congrArg Int32.toInt (rd_w k1053 z990 rfl); have z1_ := congrArg Int32.toInt (rd_w k1053 ef993 rfl); have z2_ := congrArg Int32.toInt ef1054; have z3_ := congrArg Int32.toInt (rd_w k1053 ef995 rfl); have z4_ := congrArg Int32.toInt (rd_w k1053 z991 rfl); have z_ := w_lits; have zl_ := l_lits; omega)⟩
              refine ev_putW (l := 0) (u := 160) hJ1053 rfl b1056 (by decide) (by decide) rfl rfl rfl fl_X10_210 rfl rfl rfl rfl rfl (fun h1057 hJ1057 k1057 => ?_)
              refine ev_goto rfl rfl ?_
              exact (ih10 v1016 h1057 (b1021.mono (by decide) (by decide)) hJ1057 (rd_o k1057 (rd_w k1053 z990 rfl) rfl) (rd_o k1057 (rd_w k1053 z991 rfl) rfl) (rd_o k1057 (rd_w k1053 z992 rfl) rfl) (by have z0_ := congrArg Int32.toInt (rd_o k1057 (rd_w k1053 z990 rfl) rfl); have z1_ := congrArg Int32.toInt (rd_s k1057); have z_ := w_lits; have zl_ := l_lits; omega) (by have z0_ := congrArg Int32.toInt (rd_s k1057); have z_ := w_lits; have zl_ := l_lits; omega) (by have z0_ := congrArg Int32.toInt (rd_o k1057 (rd_w k1053 ef995 rfl) rfl); have z_ := w_lits; have zl_ := l_lits; omega) (by rw [(rd_s k1057)]; exact L_up hm10 (e_p1 e1055 (by decide))))
    exact (lp10_985 161 v25 h754 (b30.mono (by decide) (by decide)) hJ754 (rd_o k754 (rd_w k750 (rd_o k6 (rd_o k5 ef1 rfl) rfl) rfl) rfl) (rd_o k754 (rd_w k750 (rd_o k6 (rd_s k5) rfl) rfl) rfl) (rd_o k754 (rd_w k750 (rd_o k6 (rd_o k5 rt rfl) rfl) rfl) rfl) (by have z0_ := congrArg Int32.toInt (rd_o k754 (rd_w k750 (rd_o k6 (rd_o k5 ef1 rfl) rfl) rfl) rfl); have z1_ := congrArg Int32.toInt (rd_s k754); have z_ := w_lits; have zl_ := l_lits; omega) (by have z0_ := congrArg Int32.toInt (rd_s k754); have z_ := w_lits; have zl_ := l_lits; omega) (by have z0_ := congrArg Int32.toInt (rd_o k754 (rd_w k750 (rd_s k6) rfl) rfl); have z_ := w_lits; have zl_ := l_lits; omega) (by rw [(rd_s k754)]; exact L_init b753 (by decide)))

set_option maxRecDepth 100000 in
set_option maxHeartbeats 4000000 in
theorem w_X10_next_63 (L : Nat) (b : Bool) (h : Hp) (hB : Bx h) (rp0 : (h 63 17).toInt ≤ (h 63 16).toInt) : EvK mi_X10_next [.ref 63] (G0 L b) h (fun z : Hp => ((z 63 17).toInt ≤ (z 63 16).toInt) ∧ ((z 63 21).toInt = 0 → (h 63 21).toInt = 0) ∧ ((¬ (z 63 21).toInt = 0) ∨ (z 63 19).toInt = 0 ∨ (h 63 17).toInt + 1 ≤ (z 63 17).toInt) ∧ ((h 63 17).toInt ≤ (z 63 17).toInt) ∧ ((z 63 21).toInt = 0 → (z 63 19).toInt = 1 → 0 ≤ (z 63 20).toInt ∧ (z 63 20).toInt ≤ 4095)) [(63, 17), (63, 18), (63, 19), (63, 20), (63, 21), (63, 22)] := by
  refine EvM.of2 (lo := [some (.ref 63), none]) pf_X10_next ok_X10_next rfl rfl ?_
  have hJ0 : JW [(63, 17), (63, 18), (63, 19), (63, 20), (63, 21), (63, 22)] h h := JW.refl hB
  obtain ⟨f1, ef1⟩ : ∃ f_, h 63 16 = f_ := ⟨_, rfl⟩
  have bf1 : B f1 0 160 := by have z_ := hJ0.1 63 16; rw [ef1] at z_; exact z_
  have zf1 := congrArg Int32.toInt ef1
  obtain ⟨f2, ef2⟩ : ∃ f_, h 63 17 = f_ := ⟨_, rfl⟩
  have bf2 : B f2 0 160 := by have z_ := hJ0.1 63 17; rw [ef2] at z_; exact z_
  have zf2 := congrArg Int32.toInt ef2
  obtain ⟨f3, ef3⟩ : ∃ f_, h 63 21 = f_ := ⟨_, rfl⟩
  have bf3 : B f3 0 6 := by have z_ := hJ0.1 63 21; rw [ef3] at z_; exact z_
  have zf3 := congrArg Int32.toInt ef3
  obtain ⟨f4, ef4⟩ : ∃ f_, h 63 20 = f_ := ⟨_, rfl⟩
  have zf4 := congrArg Int32.toInt ef4
  obtain ⟨f5, ef5⟩ : ∃ f_, h 63 19 = f_ := ⟨_, rfl⟩
  have bf5 : B f5 0 3 := by have z_ := hJ0.1 63 19; rw [ef5] at z_; exact z_
  have zf5 := congrArg Int32.toInt ef5
  refine ev_aload_n rfl rfl rfl ?_
  refine ev_getV (v := f3) rfl rfl fl_X10_191 rfl rfl rfl ef3 ?_
  refine ev_if_le rfl rfl (fun c6 => ?_) (fun c6 => ?_)
  · have b7 : B f3 0 0 := R_leX bf3 (by decide : B 0 0 0) c6 (by decide)
    have z8 := w_le c6
    rw [show (0 : Int32).toInt = 0 from by decide] at z8
    have lp8_1014 : ∀ (n : Nat) (h1015 : Hp), JW [(63, 17), (63, 18), (63, 19), (63, 20), (63, 21), (63, 22)] h h1015 → (h1015 63 16 = f1) → (h1015 63 21 = f3) → (h1015 63 20 = f4) → (h1015 63 19 = f5) → ((h1015 63 17).toInt ≤ (h1015 63 16).toInt) → ((h 63 17).toInt ≤ (h1015 63 17).toInt) → 160 + 1 - (h1015 63 17).toInt ≤ (n : Int) → EvQ mi_X10_next 8 [some (.ref 63), none] [] (G0 L b) h1015 0 0 (QK (fun z : Hp => ((z 63 17).toInt ≤ (z 63 16).toInt) ∧ ((z 63 21).toInt = 0 → (h 63 21).toInt = 0) ∧ ((¬ (z 63 21).toInt = 0) ∨ (z 63 19).toInt = 0 ∨ (h 63 17).toInt + 1 ≤ (z 63 17).toInt) ∧ ((h 63 17).toInt ≤ (z 63 17).toInt) ∧ ((z 63 21).toInt = 0 → (z 63 19).toInt = 1 → 0 ≤ (z 63 20).toInt ∧ (z 63 20).toInt ≤ 4095)) [(63, 17), (63, 18), (63, 19), (63, 20), (63, 21), (63, 22)] (G0 L b) h) := by
      intro n
      induction n with
      | zero =>
        intro h1015 hJ1016 z1017 z1018 z1019 z1020 y8_0 y8_1 hm8
        obtain ⟨f1021, ef1021⟩ : ∃ f_, h1015 63 17 = f_ := ⟨_, rfl⟩
        have bf1021 : B f1021 0 160 := by
          have z_ := hJ1016.1 63 17
          rw [ef1021] at z_
          exact z_
        rw [ef1021] at hm8
        exact absurd hm8 (L_zero bf1021 (by decide))
      | succ n ih8 =>
        intro h1015 hJ1016 z1017 z1018 z1019 z1020 y8_0 y8_1 hm8
        obtain ⟨f1021, ef1021⟩ : ∃ f_, h1015 63 17 = f_ := ⟨_, rfl⟩
        have bf1021 : B f1021 0 160 := by
          have z_ := hJ1016.1 63 17
          rw [ef1021] at z_
          exact z_
        rw [ef1021] at hm8
        have z1022 := congrArg Int32.toInt z1017
        have z1023 := congrArg Int32.toInt ef1021
        have z1024 := congrArg Int32.toInt z1018
        have z1025 := congrArg Int32.toInt z1019
        have z1026 := congrArg Int32.toInt z1020
        refine ev_aload_n rfl rfl rfl ?_
        refine ev_aload_n rfl rfl rfl ?_
        refine ev_getV (v := f1021) rfl rfl fl_X10_210 rfl rfl rfl ef1021 ?_
        obtain ⟨t1027, et1027⟩ : ∃ f_, h1015 72 (Int32.toNatClampNeg f1021) = f_ := ⟨_, rfl⟩
        have bt1027 : B t1027 0 255 := by have z_ := hJ1016.1 72 (Int32.toNatClampNeg f1021); rw [et1027] at z_; exact z_
        refine ev_V1P rfl rfl lk_X10_213 vt_X10_look rfl rfl rfl rfl rfl (w_X10_look_63 L b h1015 hJ1016.1 f1021 bf1021 t1027 et1027) (fun r1028 q1028 => ?_)
        obtain ⟨b1028, pp1028_0, pp1028_1⟩ := q1028
        refine ev_bipush (v := 32) rfl rfl (by decide) ?_
        refine ev_icmp_ne rfl rfl (fun c1029 => ?_) (fun c1029 => ?_)
        · have z1030 := w_ne c1029
          rw [show (32 : Int32).toInt = 32 from by decide] at z1030
          refine ev_aload_n rfl rfl rfl ?_
          refine ev_aload_n rfl rfl rfl ?_
          refine ev_getV (v := f1021) rfl rfl fl_X10_210 rfl rfl rfl ef1021 ?_
          refine ev_putW (l := (-2147483648)) (u := 2147483647) hJ1016 rfl bf1021 (by decide) (by decide) rfl rfl rfl fl_X10_197 rfl rfl rfl rfl rfl (fun h1033 hJ1033 k1033 => ?_)
          refine ev_aload_n rfl rfl rfl ?_
          refine ev_aload_n rfl rfl rfl ?_
          refine ev_getV (v := f1021) rfl rfl fl_X10_210 rfl rfl rfl (rd_o k1033 ef1021 rfl) ?_
          have z1034 := congrArg Int32.toInt (rd_o k1033 z1017 rfl)
          refine ev_V1P rfl rfl lk_X10_213 vt_X10_look rfl rfl rfl rfl rfl (w_X10_look_63 L b h1033 hJ1033.1 f1021 bf1021 t1027 (rd_o k1033 et1027 rfl)) (fun r1035 q1035 => ?_)
          obtain ⟨b1035, pp1035_0, pp1035_1⟩ := q1035
          refine ev_istore_n rfl rfl rfl rfl ?_
          dsimp only [List.set]
          refine ev_iload_n rfl rfl rfl ?_
          refine ev_if_ge rfl rfl (fun c1036 => ?_) (fun c1036 => ?_)
          · have b1037 : B r1035 0 255 := R_leY (by decide : B 0 0 0) b1035 c1036 (by decide)
            have z1038 := w_le c1036
            rw [show (0 : Int32).toInt = 0 from by decide] at z1038
            refine ev_iload_n rfl rfl rfl ?_
            refine ev_i2l rfl rfl ?_
            have z1041 := Int32.toInt_toInt64 r1035
            have z1041b := B.any r1035
            refine ev_ldc2 (v := 97) rfl rfl kc_X10_216 ?_
            refine ev_ldc2 (v := 122) rfl rfl kc_X10_218 ?_
            have z1042 := congrArg Int32.toInt (rd_o k1033 ef1021 rfl)
            have z1043 := congrArg Int32.toInt (rd_o k1033 z1018 rfl)
            have z1044 := congrArg Int32.toInt (rd_o k1033 z1019 rfl)
            have z1045 := congrArg Int32.toInt (rd_o k1033 z1020 rfl)
            refine ev_S3P rfl rfl lk_X10_124 st_X10_in rfl rfl (w_inR (G0 L b) h1033 r1035 97 122 (by decide : BL 97 97 97) (by decide : BL 122 122 122)) (fun r1046 q1046 => ?_)
            obtain ⟨b1046, p1046_0, pp1046_0, pp1046_1⟩ := q1046
            refine ev_if_eq rfl rfl (fun c1047 => ?_) (fun c1047 => ?_)
            · have b1048 : B r1046 0 0 := R_eqX b1046 (by decide : B 0 0 0) c1047
              have z1049 := congrArg Int32.toInt c1047
              rw [show (0 : Int32).toInt = 0 from by decide] at z1049
              refine ev_iload_n rfl rfl rfl ?_
              refine ev_i2l rfl rfl ?_
              have z1053 := Int32.toInt_toInt64 r1035
              have z1053b := B.any r1035
              refine ev_ldc2 (v := 48) rfl rfl kc_X10_226 ?_
              refine ev_ldc2 (v := 57) rfl rfl kc_X10_228 ?_
              refine ev_S3P rfl rfl lk_X10_124 st_X10_in rfl rfl (w_inR (G0 L b) h1033 r1035 48 57 (by decide : BL 48 48 48) (by decide : BL 57 57 57)) (fun r1054 q1054 => ?_)
              obtain ⟨b1054, p1054_0, pp1054_0, pp1054_1⟩ := q1054
              refine ev_if_eq rfl rfl (fun c1055 => ?_) (fun c1055 => ?_)
              · have b1056 : B r1054 0 0 := R_eqX b1054 (by decide : B 0 0 0) c1055
                have z1057 := congrArg Int32.toInt c1055
                rw [show (0 : Int32).toInt = 0 from by decide] at z1057
                refine ev_aload_n rfl rfl rfl ?_
                refine ev_iconst (v := 3) rfl rfl (by decide) ?_
                refine ev_putW (l := 0) (u := 3) hJ1033 rfl (by decide : B 3 3 3) (by decide) (by decide) rfl rfl rfl fl_X10_204 rfl rfl rfl rfl rfl (fun h1061 hJ1061 k1061 => ?_)
                refine ev_aload_n rfl rfl rfl ?_
                refine ev_iload_n rfl rfl rfl ?_
                refine ev_putW (l := (-2147483648)) (u := 2147483647) hJ1061 rfl b1037 (by decide) (by decide) rfl rfl rfl fl_X10_207 rfl rfl rfl rfl rfl (fun h1062 hJ1062 k1062 => ?_)
                refine ev_aload_n rfl rfl rfl ?_
                refine ev_iload_n rfl rfl rfl ?_
                refine ev_bipush (v := 40) rfl rfl (by decide) ?_
                refine ev_icmp_eq rfl rfl (fun c1063 => ?_) (fun c1063 => ?_)
                · have b1064 : B r1035 40 40 := R_eqX b1037 (by decide : B 40 40 40) c1063
                  have z1065 := congrArg Int32.toInt c1063
                  rw [show (40 : Int32).toInt = 40 from by decide] at z1065
                  refine ev_iconst (v := 1) rfl rfl (by decide) ?_
                  refine ev_goto rfl rfl ?_
                  refine ev_iconst (v := 1) rfl rfl (by decide) ?_
                  have z1067 := congrArg Int32.toInt (rd_o k1062 (rd_o k1061 (rd_o k1033 z1018 rfl) rfl) rfl)
                  refine ev_V2K hJ1062 rfl rfl rfl lk_X10_230 vt_X10_wants rfl rfl rfl rfl rfl (w_X10_wants_63 L b h1062 hJ1062.1 1 ((by decide : B 1 1 1).mono (by decide) (by decide)) 1 ((by decide : B 1 1 1).mono (by decide) (by decide))) (fun h1068 hJ1068 k1068 m1068 => ?_)
                  obtain ⟨f1069, ef1069⟩ : ∃ f_, h1068 63 21 = f_ := ⟨_, rfl⟩
                  have bf1069 : B f1069 0 6 := by have z_ := hJ1068.1 63 21; rw [ef1069] at z_; exact z_
                  have zf1069 := congrArg Int32.toInt ef1069
                  refine ev_aload_n rfl rfl rfl ?_
                  refine ev_dup rfl rfl rfl ?_
                  refine ev_getV (v := f1021) rfl rfl fl_X10_210 rfl rfl rfl (rd_w k1068 (rd_o k1062 (rd_o k1061 (rd_o k1033 ef1021 rfl) rfl) rfl) rfl) ?_
                  refine ev_iconst (v := 1) rfl rfl (by decide) ?_
                  refine ev_iaddB (l := 1) (u := 161) rfl rfl bf1021 (by decide : B 1 1 1) (by decide) (by decide) (by decide) (by decide) (fun v1070 b1070 e1070 g1070 => ?_)
                  have e1070x := e1070; rw [show (1 : Int32).toInt = 1 from by decide] at e1070x
                  have b1071 : B v1070 0 160 := ⟨(by have z0_ := congrArg Int32.toInt (rd_w k1068 (rd_o k1062 (rd_o k1061 (rd_o k1033 z1017 rfl) rfl) rfl) rfl); have z1_ := congrArg Int32.toInt (rd_w k1068 (rd_o k1062 (rd_o k1061 (rd_o k1033 ef1021 rfl) rfl) rfl) rfl); have z2_ := congrArg Int32.toInt ef1069; have z3_ := congrArg Int32.toInt (rd_w k1068 (rd_s k1062) rfl); have z4_ := congrArg Int32.toInt (rd_w k1068 (rd_o k1062 (rd_s k1061) rfl) rfl); have z_ := w_lits; have zl_ := l_lits; omega), (by have z0_ := congrArg Int32.toInt (rd_w k1068 (rd_o k1062 (rd_o k1061 (rd_o k1033 z1017 rfl) rfl) rfl) rfl); have z1_ := congrArg Int32.toInt (rd_w k1068 (rd_o k1062 (rd_o k1061 (rd_o k1033 ef1021 rfl) rfl) rfl) rfl); have z2_ := congrArg Int32.toInt ef1069; have z3_ := congrArg Int32.toInt (rd_w k1068 (rd_s k1062) rfl); have z4_ := congrArg Int32.toInt (rd_w k1068 (rd_o k1062 (rd_s k1061) rfl) rfl); have z_ := w_lits; have zl_ := l_lits; omega)⟩
                  refine ev_putW (l := 0) (u := 160) hJ1068 rfl b1071 (by decide) (by decide) rfl rfl rfl fl_X10_210 rfl rfl rfl rfl rfl (fun h1072 hJ1072 k1072 => ?_)
                  exact ev_vret rfl rfl trivial ⟨rfl, rfl, hJ1072, (by have z0_ := congrArg Int32.toInt (rd_o k1072 (rd_w k1068 (rd_o k1062 (rd_o k1061 (rd_o k1033 z1017 rfl) rfl) rfl) rfl) rfl); have z1_ := congrArg Int32.toInt (rd_s k1072); have z_ := w_lits; have zl_ := l_lits; omega), (by have z0_ := congrArg Int32.toInt (rd_o k1072 ef1069 rfl); have z_ := w_lits; have zl_ := l_lits; omega), (by have z0_ := congrArg Int32.toInt (rd_s k1072); have z1_ := congrArg Int32.toInt (rd_o k1072 ef1069 rfl); have z2_ := congrArg Int32.toInt (rd_o k1072 (rd_w k1068 (rd_o k1062 (rd_s k1061) rfl) rfl) rfl); have z_ := w_lits; have zl_ := l_lits; omega), (by have z0_ := congrArg Int32.toInt (rd_s k1072); have z_ := w_lits; have zl_ := l_lits; omega), (by have z0_ := congrArg Int32.toInt (rd_o k1072 ef1069 rfl); have z1_ := congrArg Int32.toInt (rd_o k1072 (rd_w k1068 (rd_s k1062) rfl) rfl); have z2_ := congrArg Int32.toInt (rd_o k1072 (rd_w k1068 (rd_o k1062 (rd_s k1061) rfl) rfl) rfl); have z_ := w_lits; have zl_ := l_lits; omega)⟩
                · have z1066 := w_ne c1063
                  rw [show (40 : Int32).toInt = 40 from by decide] at z1066
                  refine ev_iload_n rfl rfl rfl ?_
                  refine ev_bipush (v := 41) rfl rfl (by decide) ?_
                  refine ev_icmp_eq rfl rfl (fun c1073 => ?_) (fun c1073 => ?_)
                  · have b1074 : B r1035 41 41 := R_eqX b1037 (by decide : B 41 41 41) c1073
                    have z1075 := congrArg Int32.toInt c1073
                    rw [show (41 : Int32).toInt = 41 from by decide] at z1075
                    refine ev_iconst (v := 1) rfl rfl (by decide) ?_
                    refine ev_goto rfl rfl ?_
                    refine ev_iconst (v := 1) rfl rfl (by decide) ?_
                    have z1077 := congrArg Int32.toInt (rd_o k1062 (rd_o k1061 (rd_o k1033 z1018 rfl) rfl) rfl)
                    refine ev_V2K hJ1062 rfl rfl rfl lk_X10_230 vt_X10_wants rfl rfl rfl rfl rfl (w_X10_wants_63 L b h1062 hJ1062.1 1 ((by decide : B 1 1 1).mono (by decide) (by decide)) 1 ((by decide : B 1 1 1).mono (by decide) (by decide))) (fun h1078 hJ1078 k1078 m1078 => ?_)
                    obtain ⟨f1079, ef1079⟩ : ∃ f_, h1078 63 21 = f_ := ⟨_, rfl⟩
                    have bf1079 : B f1079 0 6 := by have z_ := hJ1078.1 63 21; rw [ef1079] at z_; exact z_
                    have zf1079 := congrArg Int32.toInt ef1079
                    refine ev_aload_n rfl rfl rfl ?_
                    refine ev_dup rfl rfl rfl ?_
                    refine ev_getV (v := f1021) rfl rfl fl_X10_210 rfl rfl rfl (rd_w k1078 (rd_o k1062 (rd_o k1061 (rd_o k1033 ef1021 rfl) rfl) rfl) rfl) ?_
                    refine ev_iconst (v := 1) rfl rfl (by decide) ?_
                    refine ev_iaddB (l := 1) (u := 161) rfl rfl bf1021 (by decide : B 1 1 1) (by decide) (by decide) (by decide) (by decide) (fun v1080 b1080 e1080 g1080 => ?_)
                    have e1080x := e1080; rw [show (1 : Int32).toInt = 1 from by decide] at e1080x
                    have b1081 : B v1080 0 160 := ⟨(by have z0_ := congrArg Int32.toInt (rd_w k1078 (rd_o k1062 (rd_o k1061 (rd_o k1033 z1017 rfl) rfl) rfl) rfl); have z1_ := congrArg Int32.toInt (rd_w k1078 (rd_o k1062 (rd_o k1061 (rd_o k1033 ef1021 rfl) rfl) rfl) rfl); have z2_ := congrArg Int32.toInt ef1079; have z3_ := congrArg Int32.toInt (rd_w k1078 (rd_s k1062) rfl); have z4_ := congrArg Int32.toInt (rd_w k1078 (rd_o k1062 (rd_s k1061) rfl) rfl); have z_ := w_lits; have zl_ := l_lits; omega), (by have z0_ := congrArg Int32.toInt (rd_w k1078 (rd_o k1062 (rd_o k1061 (rd_o k1033 z1017 rfl) rfl) rfl) rfl); have z1_ := congrArg Int32.toInt (rd_w k1078 (rd_o k1062 (rd_o k1061 (rd_o k1033 ef1021 rfl) rfl) rfl) rfl); have z2_ := congrArg Int32.toInt ef1079; have z3_ := congrArg Int32.toInt (rd_w k1078 (rd_s k1062) rfl); have z4_ := congrArg Int32.toInt (rd_w k1078 (rd_o k1062 (rd_s k1061) rfl) rfl); have z_ := w_lits; have zl_ := l_lits; omega)⟩
                    refine ev_putW (l := 0) (u := 160) hJ1078 rfl b1081 (by decide) (by decide) rfl rfl rfl fl_X10_210 rfl rfl rfl rfl rfl (fun h1082 hJ1082 k1082 => ?_)
                    exact ev_vret rfl rfl trivial ⟨rfl, rfl, hJ1082, (by have z0_ := congrArg Int32.toInt (rd_o k1082 (rd_w k1078 (rd_o k1062 (rd_o k1061 (rd_o k1033 z1017 rfl) rfl) rfl) rfl) rfl); have z1_ := congrArg Int32.toInt (rd_s k1082); have z_ := w_lits; have zl_ := l_lits; omega), (by have z0_ := congrArg Int32.toInt (rd_o k1082 ef1079 rfl); have z_ := w_lits; have zl_ := l_lits; omega), (by have z0_ := congrArg Int32.toInt (rd_s k1082); have z1_ := congrArg Int32.toInt (rd_o k1082 ef1079 rfl); have z2_ := congrArg Int32.toInt (rd_o k1082 (rd_w k1078 (rd_o k1062 (rd_s k1061) rfl) rfl) rfl); have z_ := w_lits; have zl_ := l_lits; omega), (by have z0_ := congrArg Int32.toInt (rd_s k1082); have z_ := w_lits; have zl_ := l_lits; omega), (by have z0_ := congrArg Int32.toInt (rd_o k1082 ef1079 rfl); have z1_ := congrArg Int32.toInt (rd_o k1082 (rd_w k1078 (rd_s k1062) rfl) rfl); have z2_ := congrArg Int32.toInt (rd_o k1082 (rd_w k1078 (rd_o k1062 (rd_s k1061) rfl) rfl) rfl); have z_ := w_lits; have zl_ := l_lits; omega)⟩
                  · have z1076 := w_ne c1073
                    rw [show (41 : Int32).toInt = 41 from by decide] at z1076
                    refine ev_iload_n rfl rfl rfl ?_
                    refine ev_bipush (v := 46) rfl rfl (by decide) ?_
                    refine ev_icmp_ne rfl rfl (fun c1083 => ?_) (fun c1083 => ?_)
                    · have z1084 := w_ne c1083
                      rw [show (46 : Int32).toInt = 46 from by decide] at z1084
                      refine ev_iconst (v := 0) rfl rfl (by decide) ?_
                      refine ev_iconst (v := 1) rfl rfl (by decide) ?_
                      have z1087 := congrArg Int32.toInt (rd_o k1062 (rd_o k1061 (rd_o k1033 z1018 rfl) rfl) rfl)
                      refine ev_V2K hJ1062 rfl rfl rfl lk_X10_230 vt_X10_wants rfl rfl rfl rfl rfl (w_X10_wants_63 L b h1062 hJ1062.1 0 ((by decide : B 0 0 0).mono (by decide) (by decide)) 1 ((by decide : B 1 1 1).mono (by decide) (by decide))) (fun h1088 hJ1088 k1088 m1088 => ?_)
                      obtain ⟨f1089, ef1089⟩ : ∃ f_, h1088 63 21 = f_ := ⟨_, rfl⟩
                      have bf1089 : B f1089 0 6 := by have z_ := hJ1088.1 63 21; rw [ef1089] at z_; exact z_
                      have zf1089 := congrArg Int32.toInt ef1089
                      refine ev_aload_n rfl rfl rfl ?_
                      refine ev_dup rfl rfl rfl ?_
                      refine ev_getV (v := f1021) rfl rfl fl_X10_210 rfl rfl rfl (rd_w k1088 (rd_o k1062 (rd_o k1061 (rd_o k1033 ef1021 rfl) rfl) rfl) rfl) ?_
                      refine ev_iconst (v := 1) rfl rfl (by decide) ?_
                      refine ev_iaddB (l := 1) (u := 161) rfl rfl bf1021 (by decide : B 1 1 1) (by decide) (by decide) (by decide) (by decide) (fun v1090 b1090 e1090 g1090 => ?_)
                      have e1090x := e1090; rw [show (1 : Int32).toInt = 1 from by decide] at e1090x
                      have b1091 : B v1090 0 160 := ⟨(by have z0_ := congrArg Int32.toInt (rd_w k1088 (rd_o k1062 (rd_o k1061 (rd_o k1033 z1017 rfl) rfl) rfl) rfl); have z1_ := congrArg Int32.toInt (rd_w k1088 (rd_o k1062 (rd_o k1061 (rd_o k1033 ef1021 rfl) rfl) rfl) rfl); have z2_ := congrArg Int32.toInt ef1089; have z3_ := congrArg Int32.toInt (rd_w k1088 (rd_s k1062) rfl); have z4_ := congrArg Int32.toInt (rd_w k1088 (rd_o k1062 (rd_s k1061) rfl) rfl); have z_ := w_lits; have zl_ := l_lits; omega), (by have z0_ := congrArg Int32.toInt (rd_w k1088 (rd_o k1062 (rd_o k1061 (rd_o k1033 z1017 rfl) rfl) rfl) rfl); have z1_ := congrArg Int32.toInt (rd_w k1088 (rd_o k1062 (rd_o k1061 (rd_o k1033 ef1021 rfl) rfl) rfl) rfl); have z2_ := congrArg Int32.toInt ef1089; have z3_ := congrArg Int32.toInt (rd_w k1088 (rd_s k1062) rfl); have z4_ := congrArg Int32.toInt (rd_w k1088 (rd_o k1062 (rd_s k1061) rfl) rfl); have z_ := w_lits; have zl_ := l_lits; omega)⟩
                      refine ev_putW (l := 0) (u := 160) hJ1088 rfl b1091 (by decide) (by decide) rfl rfl rfl fl_X10_210 rfl rfl rfl rfl rfl (fun h1092 hJ1092 k1092 => ?_)
                      exact ev_vret rfl rfl trivial ⟨rfl, rfl, hJ1092, (by have z0_ := congrArg Int32.toInt (rd_o k1092 (rd_w k1088 (rd_o k1062 (rd_o k1061 (rd_o k1033 z1017 rfl) rfl) rfl) rfl) rfl); have z1_ := congrArg Int32.toInt (rd_s k1092); have z_ := w_lits; have zl_ := l_lits; omega), (by have z0_ := congrArg Int32.toInt (rd_o k1092 ef1089 rfl); have z_ := w_lits; have zl_ := l_lits; omega), (by have z0_ := congrArg Int32.toInt (rd_s k1092); have z1_ := congrArg Int32.toInt (rd_o k1092 ef1089 rfl); have z2_ := congrArg Int32.toInt (rd_o k1092 (rd_w k1088 (rd_o k1062 (rd_s k1061) rfl) rfl) rfl); have z_ := w_lits; have zl_ := l_lits; omega), (by have z0_ := congrArg Int32.toInt (rd_s k1092); have z_ := w_lits; have zl_ := l_lits; omega), (by have z0_ := congrArg Int32.toInt (rd_o k1092 ef1089 rfl); have z1_ := congrArg Int32.toInt (rd_o k1092 (rd_w k1088 (rd_s k1062) rfl) rfl); have z2_ := congrArg Int32.toInt (rd_o k1092 (rd_w k1088 (rd_o k1062 (rd_s k1061) rfl) rfl) rfl); have z_ := w_lits; have zl_ := l_lits; omega)⟩
                    · have b1085 : B r1035 46 46 := R_eqX b1037 (by decide : B 46 46 46) c1083
                      have z1086 := congrArg Int32.toInt c1083
                      rw [show (46 : Int32).toInt = 46 from by decide] at z1086
                      refine ev_iconst (v := 1) rfl rfl (by decide) ?_
                      refine ev_goto rfl rfl ?_
                      refine ev_iconst (v := 1) rfl rfl (by decide) ?_
                      have z1093 := congrArg Int32.toInt (rd_o k1062 (rd_o k1061 (rd_o k1033 z1018 rfl) rfl) rfl)
                      refine ev_V2K hJ1062 rfl rfl rfl lk_X10_230 vt_X10_wants rfl rfl rfl rfl rfl (w_X10_wants_63 L b h1062 hJ1062.1 1 ((by decide : B 1 1 1).mono (by decide) (by decide)) 1 ((by decide : B 1 1 1).mono (by decide) (by decide))) (fun h1094 hJ1094 k1094 m1094 => ?_)
                      obtain ⟨f1095, ef1095⟩ : ∃ f_, h1094 63 21 = f_ := ⟨_, rfl⟩
                      have bf1095 : B f1095 0 6 := by have z_ := hJ1094.1 63 21; rw [ef1095] at z_; exact z_
                      have zf1095 := congrArg Int32.toInt ef1095
                      refine ev_aload_n rfl rfl rfl ?_
                      refine ev_dup rfl rfl rfl ?_
                      refine ev_getV (v := f1021) rfl rfl fl_X10_210 rfl rfl rfl (rd_w k1094 (rd_o k1062 (rd_o k1061 (rd_o k1033 ef1021 rfl) rfl) rfl) rfl) ?_
                      refine ev_iconst (v := 1) rfl rfl (by decide) ?_
                      refine ev_iaddB (l := 1) (u := 161) rfl rfl bf1021 (by decide : B 1 1 1) (by decide) (by decide) (by decide) (by decide) (fun v1096 b1096 e1096 g1096 => ?_)
                      have e1096x := e1096; rw [show (1 : Int32).toInt = 1 from by decide] at e1096x
                      have b1097 : B v1096 0 160 := ⟨(by have z0_ := congrArg Int32.toInt (rd_w k1094 (rd_o k1062 (rd_o k1061 (rd_o k1033 z1017 rfl) rfl) rfl) rfl); have z1_ := congrArg Int32.toInt (rd_w k1094 (rd_o k1062 (rd_o k1061 (rd_o k1033 ef1021 rfl) rfl) rfl) rfl); have z2_ := congrArg Int32.toInt ef1095; have z3_ := congrArg Int32.toInt (rd_w k1094 (rd_s k1062) rfl); have z4_ := congrArg Int32.toInt (rd_w k1094 (rd_o k1062 (rd_s k1061) rfl) rfl); have z_ := w_lits; have zl_ := l_lits; omega), (by have z0_ := congrArg Int32.toInt (rd_w k1094 (rd_o k1062 (rd_o k1061 (rd_o k1033 z1017 rfl) rfl) rfl) rfl); have z1_ := congrArg Int32.toInt (rd_w k1094 (rd_o k1062 (rd_o k1061 (rd_o k1033 ef1021 rfl) rfl) rfl) rfl); have z2_ := congrArg Int32.toInt ef1095; have z3_ := congrArg Int32.toInt (rd_w k1094 (rd_s k1062) rfl); have z4_ := congrArg Int32.toInt (rd_w k1094 (rd_o k1062 (rd_s k1061) rfl) rfl); have z_ := w_lits; have zl_ := l_lits; omega)⟩
                      refine ev_putW (l := 0) (u := 160) hJ1094 rfl b1097 (by decide) (by decide) rfl rfl rfl fl_X10_210 rfl rfl rfl rfl rfl (fun h1098 hJ1098 k1098 => ?_)
                      exact ev_vret rfl rfl trivial ⟨rfl, rfl, hJ1098, (by have z0_ := congrArg Int32.toInt (rd_o k1098 (rd_w k1094 (rd_o k1062 (rd_o k1061 (rd_o k1033 z1017 rfl) rfl) rfl) rfl) rfl); have z1_ := congrArg Int32.toInt (rd_s k1098); have z_ := w_lits; have zl_ := l_lits; omega), (by have z0_ := congrArg Int32.toInt (rd_o k1098 ef1095 rfl); have z_ := w_lits; have zl_ := l_lits; omega), (by have z0_ := congrArg Int32.toInt (rd_s k1098); have z1_ := congrArg Int32.toInt (rd_o k1098 ef1095 rfl); have z2_ := congrArg Int32.toInt (rd_o k1098 (rd_w k1094 (rd_o k1062 (rd_s k1061) rfl) rfl) rfl); have z_ := w_lits; have zl_ := l_lits; omega), (by have z0_ := congrArg Int32.toInt (rd_s k1098); have z_ := w_lits; have zl_ := l_lits; omega), (by have z0_ := congrArg Int32.toInt (rd_o k1098 ef1095 rfl); have z1_ := congrArg Int32.toInt (rd_o k1098 (rd_w k1094 (rd_s k1062) rfl) rfl); have z2_ := congrArg Int32.toInt (rd_o k1098 (rd_w k1094 (rd_o k1062 (rd_s k1061) rfl) rfl) rfl); have z_ := w_lits; have zl_ := l_lits; omega)⟩
              · have b1058 : B r1054 1 1 := R_neL b1054 (by decide : B 0 0 0) c1055 (by decide)
                have b1059 : B r1035 48 57 := p1054_0 c1055
                have z1060 := w_ne c1055
                rw [show (0 : Int32).toInt = 0 from by decide] at z1060
                refine ev_aload_n rfl rfl rfl ?_
                refine ev_iconst (v := 2) rfl rfl (by decide) ?_
                refine ev_putW (l := 0) (u := 3) hJ1033 rfl (by decide : B 2 2 2) (by decide) (by decide) rfl rfl rfl fl_X10_204 rfl rfl rfl rfl rfl (fun h1099 hJ1099 k1099 => ?_)
                refine ev_aload_n rfl rfl rfl ?_
                refine ev_iconst (v := 0) rfl rfl (by decide) ?_
                refine ev_putW (l := (-2147483648)) (u := 2147483647) hJ1099 rfl (by decide : B 0 0 0) (by decide) (by decide) rfl rfl rfl fl_X10_207 rfl rfl rfl rfl rfl (fun h1100 hJ1100 k1100 => ?_)
                refine ev_aload_n rfl rfl rfl ?_
                refine ev_aload_n rfl rfl rfl ?_
                refine ev_getV (v := f1021) rfl rfl fl_X10_210 rfl rfl rfl (rd_o k1100 (rd_o k1099 (rd_o k1033 ef1021 rfl) rfl) rfl) ?_
                have z1101 := congrArg Int32.toInt (rd_o k1100 (rd_o k1099 (rd_o k1033 z1017 rfl) rfl) rfl)
                refine ev_V1P rfl rfl lk_X10_213 vt_X10_look rfl rfl rfl rfl rfl (w_X10_look_63 L b h1100 hJ1100.1 f1021 bf1021 t1027 (rd_o k1100 (rd_o k1099 (rd_o k1033 et1027 rfl) rfl) rfl)) (fun r1102 q1102 => ?_)
                obtain ⟨b1102, pp1102_0, pp1102_1⟩ := q1102
                refine ev_i2l rfl rfl ?_
                have z1103 := Int32.toInt_toInt64 r1102
                have z1103b := B.any r1102
                refine ev_ldc2 (v := 48) rfl rfl kc_X10_226 ?_
                refine ev_ldc2 (v := 57) rfl rfl kc_X10_228 ?_
                have z1104 := congrArg Int32.toInt (rd_o k1100 (rd_o k1099 (rd_o k1033 ef1021 rfl) rfl) rfl)
                have z1105 := congrArg Int32.toInt (rd_o k1100 (rd_o k1099 (rd_o k1033 z1018 rfl) rfl) rfl)
                have z1106 := congrArg Int32.toInt (rd_s k1100)
                have z1107 := congrArg Int32.toInt (rd_o k1100 (rd_s k1099) rfl)
                refine ev_S3P rfl rfl lk_X10_124 st_X10_in rfl rfl (w_inR (G0 L b) h1100 r1102 48 57 (by decide : BL 48 48 48) (by decide : BL 57 57 57)) (fun r1108 q1108 => ?_)
                obtain ⟨b1108, p1108_0, pp1108_0, pp1108_1⟩ := q1108
                refine ev_if_eq rfl rfl (fun c1109 => False.elim (by have z0_ := congrArg Int32.toInt (rd_o k1100 (rd_o k1099 (rd_o k1033 z1017 rfl) rfl) rfl); have z1_ := congrArg Int32.toInt (rd_o k1100 (rd_o k1099 (rd_o k1033 ef1021 rfl) rfl) rfl); have z2_ := congrArg Int32.toInt (rd_o k1100 (rd_o k1099 (rd_o k1033 z1018 rfl) rfl) rfl); have z3_ := congrArg Int32.toInt (rd_s k1100); have z4_ := congrArg Int32.toInt (rd_o k1100 (rd_s k1099) rfl); have z5_ := congrArg Int32.toInt c1109; have z_ := w_lits; have zl_ := l_lits; omega)) (fun c1109 => ?_)
                have b1112 : B r1108 1 1 := R_neL b1108 (by decide : B 0 0 0) c1109 (by decide)
                have b1113 : B r1102 48 57 := p1108_0 c1109
                have z1114 := w_ne c1109
                rw [show (0 : Int32).toInt = 0 from by decide] at z1114
                refine ev_aload_n rfl rfl rfl ?_
                refine ev_aload_n rfl rfl rfl ?_
                refine ev_getV (v := f1021) rfl rfl fl_X10_210 rfl rfl rfl (rd_o k1100 (rd_o k1099 (rd_o k1033 ef1021 rfl) rfl) rfl) ?_
                refine ev_aload_n rfl rfl rfl ?_
                refine ev_getV (v := f1021) rfl rfl fl_X10_197 rfl rfl rfl (rd_o k1100 (rd_o k1099 (rd_s k1033) rfl) rfl) ?_
                refine ev_isubB (l := -160) (u := 160) rfl rfl bf1021 bf1021 (by decide) (by decide) (by decide) (by decide) (fun v1115 b1115 e1115 g1115 => ?_)
                refine ev_iconst (v := 2) rfl rfl (by decide) ?_
                refine ev_icmp_ge rfl rfl (fun c1116 => ?_) (fun c1116 => ?_)
                · have b1117 : B v1115 2 160 := R_leY (by decide : B 2 2 2) b1115 c1116 (by decide)
                  have z1118 := w_le c1116
                  rw [show (2 : Int32).toInt = 2 from by decide] at z1118
                  refine ev_aload_n rfl rfl rfl ?_
                  refine ev_getV (v := 0) rfl rfl fl_X10_207 rfl rfl rfl (rd_s k1100) ?_
                  refine ev_putW (l := (-2147483648)) (u := 2147483647) hJ1100 rfl (by decide : B 0 0 0) (by decide) (by decide) rfl rfl rfl fl_X10_207 rfl rfl rfl rfl rfl (fun h1121 hJ1121 k1121 => ?_)
                  refine ev_aload_n rfl rfl rfl ?_
                  refine ev_dup rfl rfl rfl ?_
                  refine ev_getV (v := f1021) rfl rfl fl_X10_210 rfl rfl rfl (rd_o k1121 (rd_o k1100 (rd_o k1099 (rd_o k1033 ef1021 rfl) rfl) rfl) rfl) ?_
                  refine ev_iconst (v := 1) rfl rfl (by decide) ?_
                  refine ev_iaddB (l := 1) (u := 161) rfl rfl bf1021 (by decide : B 1 1 1) (by decide) (by decide) (by decide) (by decide) (fun v1122 b1122 e1122 g1122 => ?_)
                  have e1122x := e1122; rw [show (1 : Int32).toInt = 1 from by decide] at e1122x
                  have b1123 : B v1122 0 160 := ⟨(by have z0_ := congrArg Int32.toInt (rd_o k1121 (rd_o k1100 (rd_o k1099 (rd_o k1033 z1017 rfl) rfl) rfl) rfl); have z1_ := congrArg Int32.toInt (rd_o k1121 (rd_o k1100 (rd_o k1099 (rd_o k1033 ef1021 rfl) rfl) rfl) rfl); have z2_ := congrArg Int32.toInt (rd_o k1121 (rd_o k1100 (rd_o k1099 (rd_o k1033 z1018 rfl) rfl) rfl) rfl); have z3_ := congrArg Int32.toInt (rd_s k1121); have z4_ := congrArg Int32.toInt (rd_o k1121 (rd_o k1100 (rd_s k1099) rfl) rfl); have z_ := w_lits; have zl_ := l_lits; omega), (by have z0_ := congrArg Int32.toInt (rd_o k1121 (rd_o k1100 (rd_o k1099 (rd_o k1033 z1017 rfl) rfl) rfl) rfl); have z1_ := congrArg Int32.toInt (rd_o k1121 (rd_o k1100 (rd_o k1099 (rd_o k1033 ef1021 rfl) rfl) rfl) rfl); have z2_ := congrArg Int32.toInt (rd_o k1121 (rd_o k1100 (rd_o k1099 (rd_o k1033 z1018 rfl) rfl) rfl) rfl); have z3_ := congrArg Int32.toInt (rd_s k1121); have z4_ := congrArg Int32.toInt (rd_o k1121 (rd_o k1100 (rd_s k1099) rfl) rfl); have z_ := w_lits; have zl_ := l_lits; omega)⟩
                  refine ev_putW (l := 0) (u := 160) hJ1121 rfl b1123 (by decide) (by decide) rfl rfl rfl fl_X10_210 rfl rfl rfl rfl rfl (fun h1124 hJ1124 k1124 => ?_)
                  refine ev_goto rfl rfl ?_
                  have lp108_1244 : ∀ (n : Nat) (h1245 : Hp), JW [(63, 17), (63, 18), (63, 19), (63, 20), (63, 21), (63, 22)] h h1245 → (h1245 63 16 = f1) → (h1245 63 21 = f3) → (h1245 63 19 = 2) → (h1245 72 (Int32.toNatClampNeg f1021) = t1027) → (h1245 63 18 = f1021) → ((h1245 63 17).toInt ≤ (h1245 63 16).toInt) → ((h 63 17).toInt + 1 ≤ (h1245 63 17).toInt) → 160 + 1 - (h1245 63 17).toInt ≤ (n : Int) → EvQ mi_X10_next 108 [some (.ref 63), some (.int r1035)] [] (G0 L b) h1245 0 0 (QK (fun z : Hp => ((z 63 17).toInt ≤ (z 63 16).toInt) ∧ ((z 63 21).toInt = 0 → (h 63 21).toInt = 0) ∧ ((¬ (z 63 21).toInt = 0) ∨ (z 63 19).toInt = 0 ∨ (h 63 17).toInt + 1 ≤ (z 63 17).toInt) ∧ ((h 63 17).toInt ≤ (z 63 17).toInt) ∧ ((z 63 21).toInt = 0 → (z 63 19).toInt = 1 → 0 ≤ (z 63 20).toInt ∧ (z 63 20).toInt ≤ 4095)) [(63, 17), (63, 18), (63, 19), (63, 20), (63, 21), (63, 22)] (G0 L b) h) := by
                    intro n
                    induction n with
                    | zero =>
                      intro h1245 hJ1246 z1247 z1248 z1249 z1250 z1251 y108_0 y108_1 hm108
                      obtain ⟨f1252, ef1252⟩ : ∃ f_, h1245 63 17 = f_ := ⟨_, rfl⟩
                      have bf1252 : B f1252 0 160 := by
                        have z_ := hJ1246.1 63 17
                        rw [ef1252] at z_
                        exact z_
                      rw [ef1252] at hm108
                      exact absurd hm108 (L_zero bf1252 (by decide))
                    | succ n ih108 =>
                      intro h1245 hJ1246 z1247 z1248 z1249 z1250 z1251 y108_0 y108_1 hm108
                      obtain ⟨f1252, ef1252⟩ : ∃ f_, h1245 63 17 = f_ := ⟨_, rfl⟩
                      have bf1252 : B f1252 0 160 := by
                        have z_ := hJ1246.1 63 17
                        rw [ef1252] at z_
                        exact z_
                      rw [ef1252] at hm108
                      obtain ⟨f1253, ef1253⟩ : ∃ f_, h1245 63 20 = f_ := ⟨_, rfl⟩
                      have zf1253 := congrArg Int32.toInt ef1253
                      have z1254 := congrArg Int32.toInt z1247
                      have z1255 := congrArg Int32.toInt ef1252
                      have z1256 := congrArg Int32.toInt z1248
                      have z1257 := congrArg Int32.toInt z1249
                      refine ev_aload_n rfl rfl rfl ?_
                      refine ev_aload_n rfl rfl rfl ?_
                      refine ev_getV (v := f1252) rfl rfl fl_X10_210 rfl rfl rfl ef1252 ?_
                      obtain ⟨t1258, et1258⟩ : ∃ f_, h1245 72 (Int32.toNatClampNeg f1252) = f_ := ⟨_, rfl⟩
                      have bt1258 : B t1258 0 255 := by have z_ := hJ1246.1 72 (Int32.toNatClampNeg f1252); rw [et1258] at z_; exact z_
                      refine ev_V1P rfl rfl lk_X10_213 vt_X10_look rfl rfl rfl rfl rfl (w_X10_look_63 L b h1245 hJ1246.1 f1252 bf1252 t1258 et1258) (fun r1259 q1259 => ?_)
                      obtain ⟨b1259, pp1259_0, pp1259_1⟩ := q1259
                      refine ev_i2l rfl rfl ?_
                      have z1260 := Int32.toInt_toInt64 r1259
                      have z1260b := B.any r1259
                      refine ev_ldc2 (v := 48) rfl rfl kc_X10_226 ?_
                      refine ev_ldc2 (v := 57) rfl rfl kc_X10_228 ?_
                      refine ev_S3P rfl rfl lk_X10_124 st_X10_in rfl rfl (w_inR (G0 L b) h1245 r1259 48 57 (by decide : BL 48 48 48) (by decide : BL 57 57 57)) (fun r1261 q1261 => ?_)
                      obtain ⟨b1261, p1261_0, pp1261_0, pp1261_1⟩ := q1261
                      refine ev_if_eq rfl rfl (fun c1262 => ?_) (fun c1262 => ?_)
                      · have b1263 : B r1261 0 0 := R_eqX b1261 (by decide : B 0 0 0) c1262
                        have z1264 := congrArg Int32.toInt c1262
                        rw [show (0 : Int32).toInt = 0 from by decide] at z1264
                        refine ev_aload_n rfl rfl rfl ?_
                        refine ev_aload_n rfl rfl rfl ?_
                        refine ev_getV (v := f1252) rfl rfl fl_X10_210 rfl rfl rfl ef1252 ?_
                        refine ev_aload_n rfl rfl rfl ?_
                        refine ev_getV (v := f1021) rfl rfl fl_X10_197 rfl rfl rfl z1251 ?_
                        refine ev_isubB (l := -160) (u := 160) rfl rfl bf1252 bf1021 (by decide) (by decide) (by decide) (by decide) (fun v1268 b1268 e1268 g1268 => ?_)
                        refine ev_iconst (v := 2) rfl rfl (by decide) ?_
                        refine ev_icmp_gt rfl rfl (fun c1269 => ?_) (fun c1269 => ?_)
                        · have b1270 : B v1268 3 160 := R_ltY (by decide : B 2 2 2) b1268 c1269 (by decide)
                          have z1271 := w_lt c1269
                          rw [show (2 : Int32).toInt = 2 from by decide] at z1271
                          refine ev_iconst (v := 0) rfl rfl (by decide) ?_
                          refine ev_iconst (v := 1) rfl rfl (by decide) ?_
                          refine ev_V2K hJ1246 rfl rfl rfl lk_X10_230 vt_X10_wants rfl rfl rfl rfl rfl (w_X10_wants_63 L b h1245 hJ1246.1 0 ((by decide : B 0 0 0).mono (by decide) (by decide)) 1 ((by decide : B 1 1 1).mono (by decide) (by decide))) (fun h1274 hJ1274 k1274 m1274 => ?_)
                          obtain ⟨f1275, ef1275⟩ : ∃ f_, h1274 63 21 = f_ := ⟨_, rfl⟩
                          have bf1275 : B f1275 0 6 := by have z_ := hJ1274.1 63 21; rw [ef1275] at z_; exact z_
                          have zf1275 := congrArg Int32.toInt ef1275
                          refine ev_goto rfl rfl ?_
                          exact ev_vret rfl rfl trivial ⟨rfl, rfl, hJ1274, (by have z0_ := congrArg Int32.toInt (rd_w k1274 z1247 rfl); have z1_ := congrArg Int32.toInt (rd_w k1274 ef1252 rfl); have z_ := w_lits; have zl_ := l_lits; omega), (by have z0_ := congrArg Int32.toInt ef1275; have z_ := w_lits; have zl_ := l_lits; omega), (by have z0_ := congrArg Int32.toInt (rd_w k1274 ef1252 rfl); have z1_ := congrArg Int32.toInt ef1275; have z2_ := congrArg Int32.toInt (rd_w k1274 z1249 rfl); have z_ := w_lits; have zl_ := l_lits; omega), (by have z0_ := congrArg Int32.toInt (rd_w k1274 ef1252 rfl); have z_ := w_lits; have zl_ := l_lits; omega), (by have z0_ := congrArg Int32.toInt ef1275; have z1_ := congrArg Int32.toInt (rd_w k1274 ef1253 rfl); have z2_ := congrArg Int32.toInt (rd_w k1274 z1249 rfl); have z_ := w_lits; have zl_ := l_lits; omega)⟩
                        · have b1272 : B v1268 (-160) 2 := R_leX b1268 (by decide : B 2 2 2) (Int32.not_lt.mp c1269) (by decide)
                          have z1273 := w_le (Int32.not_lt.mp c1269)
                          rw [show (2 : Int32).toInt = 2 from by decide] at z1273
                          refine ev_iconst (v := 1) rfl rfl (by decide) ?_
                          refine ev_goto rfl rfl ?_
                          refine ev_iconst (v := 1) rfl rfl (by decide) ?_
                          refine ev_V2K hJ1246 rfl rfl rfl lk_X10_230 vt_X10_wants rfl rfl rfl rfl rfl (w_X10_wants_63 L b h1245 hJ1246.1 1 ((by decide : B 1 1 1).mono (by decide) (by decide)) 1 ((by decide : B 1 1 1).mono (by decide) (by decide))) (fun h1276 hJ1276 k1276 m1276 => ?_)
                          obtain ⟨f1277, ef1277⟩ : ∃ f_, h1276 63 21 = f_ := ⟨_, rfl⟩
                          have bf1277 : B f1277 0 6 := by have z_ := hJ1276.1 63 21; rw [ef1277] at z_; exact z_
                          have zf1277 := congrArg Int32.toInt ef1277
                          refine ev_goto rfl rfl ?_
                          exact ev_vret rfl rfl trivial ⟨rfl, rfl, hJ1276, (by have z0_ := congrArg Int32.toInt (rd_w k1276 z1247 rfl); have z1_ := congrArg Int32.toInt (rd_w k1276 ef1252 rfl); have z_ := w_lits; have zl_ := l_lits; omega), (by have z0_ := congrArg Int32.toInt ef1277; have z_ := w_lits; have zl_ := l_lits; omega), (by have z0_ := congrArg Int32.toInt (rd_w k1276 ef1252 rfl); have z1_ := congrArg Int32.toInt ef1277; have z2_ := congrArg Int32.toInt (rd_w k1276 z1249 rfl); have z_ := w_lits; have zl_ := l_lits; omega), (by have z0_ := congrArg Int32.toInt (rd_w k1276 ef1252 rfl); have z_ := w_lits; have zl_ := l_lits; omega), (by have z0_ := congrArg Int32.toInt ef1277; have z1_ := congrArg Int32.toInt (rd_w k1276 ef1253 rfl); have z2_ := congrArg Int32.toInt (rd_w k1276 z1249 rfl); have z_ := w_lits; have zl_ := l_lits; omega)⟩
                      · have b1265 : B r1261 1 1 := R_neL b1261 (by decide : B 0 0 0) c1262 (by decide)
                        have b1266 : B r1259 48 57 := p1261_0 c1262
                        have z1267 := w_ne c1262
                        rw [show (0 : Int32).toInt = 0 from by decide] at z1267
                        refine ev_aload_n rfl rfl rfl ?_
                        refine ev_aload_n rfl rfl rfl ?_
                        refine ev_getV (v := f1252) rfl rfl fl_X10_210 rfl rfl rfl ef1252 ?_
                        refine ev_aload_n rfl rfl rfl ?_
                        refine ev_getV (v := f1021) rfl rfl fl_X10_197 rfl rfl rfl z1251 ?_
                        refine ev_isubB (l := -160) (u := 160) rfl rfl bf1252 bf1021 (by decide) (by decide) (by decide) (by decide) (fun v1278 b1278 e1278 g1278 => ?_)
                        refine ev_iconst (v := 2) rfl rfl (by decide) ?_
                        refine ev_icmp_ge rfl rfl (fun c1279 => ?_) (fun c1279 => ?_)
                        · have b1280 : B v1278 2 160 := R_leY (by decide : B 2 2 2) b1278 c1279 (by decide)
                          have z1281 := w_le c1279
                          rw [show (2 : Int32).toInt = 2 from by decide] at z1281
                          refine ev_aload_n rfl rfl rfl ?_
                          refine ev_getV (v := f1253) rfl rfl fl_X10_207 rfl rfl rfl ef1253 ?_
                          refine ev_putW (l := (-2147483648)) (u := 2147483647) hJ1246 rfl (B.any f1253) (by decide) (by decide) rfl rfl rfl fl_X10_207 rfl rfl rfl rfl rfl (fun h1284 hJ1284 k1284 => ?_)
                          refine ev_aload_n rfl rfl rfl ?_
                          refine ev_dup rfl rfl rfl ?_
                          refine ev_getV (v := f1252) rfl rfl fl_X10_210 rfl rfl rfl (rd_o k1284 ef1252 rfl) ?_
                          refine ev_iconst (v := 1) rfl rfl (by decide) ?_
                          refine ev_iaddB (l := 1) (u := 161) rfl rfl bf1252 (by decide : B 1 1 1) (by decide) (by decide) (by decide) (by decide) (fun v1285 b1285 e1285 g1285 => ?_)
                          have e1285x := e1285; rw [show (1 : Int32).toInt = 1 from by decide] at e1285x
                          have b1286 : B v1285 0 160 := ⟨(by have z0_ := congrArg Int32.toInt (rd_o k1284 z1247 rfl); have z1_ := congrArg Int32.toInt (rd_o k1284 ef1252 rfl); have z2_ := congrArg Int32.toInt (rd_o k1284 z1248 rfl); have z3_ := congrArg Int32.toInt (rd_s k1284); have z4_ := congrArg Int32.toInt (rd_o k1284 z1249 rfl); have z_ := w_lits; have zl_ := l_lits; omega), (by have z0_ := congrArg Int32.toInt (rd_o k1284 z1247 rfl); have z1_ := congrArg Int32.toInt (rd_o k1284 ef1252 rfl); have z2_ := congrArg Int32.toInt (rd_o k1284 z1248 rfl); have z3_ := congrArg Int32.toInt (rd_s k1284); have z4_ := congrArg Int32.toInt (rd_o k1284 z1249 rfl); have z_ := w_lits; have zl_ := l_lits; omega)⟩
                          refine ev_putW (l := 0) (u := 160) hJ1284 rfl b1286 (by decide) (by decide) rfl rfl rfl fl_X10_210 rfl rfl rfl rfl rfl (fun h1287 hJ1287 k1287 => ?_)
                          refine ev_goto rfl rfl ?_
                          exact (ih108 h1287 hJ1287 (rd_o k1287 (rd_o k1284 z1247 rfl) rfl) (rd_o k1287 (rd_o k1284 z1248 rfl) rfl) (rd_o k1287 (rd_o k1284 z1249 rfl) rfl) (rd_o k1287 (rd_o k1284 z1250 rfl) rfl) (rd_o k1287 (rd_o k1284 z1251 rfl) rfl) (by have z0_ := congrArg Int32.toInt (rd_o k1287 (rd_o k1284 z1247 rfl) rfl); have z1_ := congrArg Int32.toInt (rd_s k1287); have z_ := w_lits; have zl_ := l_lits; omega) (by have z0_ := congrArg Int32.toInt (rd_s k1287); have z_ := w_lits; have zl_ := l_lits; omega) (by rw [(rd_s k1287)]; exact L_up hm108 (e_p1 e1285 (by decide))))
                        · have b1282 : B v1278 (-160) 1 := R_ltX b1278 (by decide : B 2 2 2) (Int32.not_le.mp c1279) (by decide)
                          have z1283 := w_lt (Int32.not_le.mp c1279)
                          rw [show (2 : Int32).toInt = 2 from by decide] at z1283
                          refine ev_bipush (v := 10) rfl rfl (by decide) ?_
                          refine ev_aload_n rfl rfl rfl ?_
                          refine ev_getV (v := f1253) rfl rfl fl_X10_207 rfl rfl rfl ef1253 ?_
                          refine ev_imulA rfl rfl (fun v1288 => ?_)
                          refine ev_aload_n rfl rfl rfl ?_
                          refine ev_aload_n rfl rfl rfl ?_
                          refine ev_getV (v := f1252) rfl rfl fl_X10_210 rfl rfl rfl ef1252 ?_
                          refine ev_V1P rfl rfl lk_X10_213 vt_X10_look rfl rfl rfl rfl rfl (w_X10_look_63 L b h1245 hJ1246.1 f1252 bf1252 t1258 et1258) (fun r1289 q1289 => ?_)
                          obtain ⟨b1289, pp1289_0, pp1289_1⟩ := q1289
                          refine ev_iaddA rfl rfl (fun v1290 g1290 => ?_)
                          refine ev_bipush (v := 48) rfl rfl (by decide) ?_
                          refine ev_isubA rfl rfl (fun v1291 g1291 => ?_)
                          refine ev_goto rfl rfl ?_
                          refine ev_putW (l := (-2147483648)) (u := 2147483647) hJ1246 rfl (B.any v1291) (by decide) (by decide) rfl rfl rfl fl_X10_207 rfl rfl rfl rfl rfl (fun h1292 hJ1292 k1292 => ?_)
                          refine ev_aload_n rfl rfl rfl ?_
                          refine ev_dup rfl rfl rfl ?_
                          refine ev_getV (v := f1252) rfl rfl fl_X10_210 rfl rfl rfl (rd_o k1292 ef1252 rfl) ?_
                          refine ev_iconst (v := 1) rfl rfl (by decide) ?_
                          refine ev_iaddB (l := 1) (u := 161) rfl rfl bf1252 (by decide : B 1 1 1) (by decide) (by decide) (by decide) (by decide) (fun v1293 b1293 e1293 g1293 => ?_)
                          have e1293x := e1293; rw [show (1 : Int32).toInt = 1 from by decide] at e1293x
                          have b1294 : B v1293 0 160 := ⟨(by have z0_ := congrArg Int32.toInt (rd_o k1292 z1247 rfl); have z1_ := congrArg Int32.toInt (rd_o k1292 ef1252 rfl); have z2_ := congrArg Int32.toInt (rd_o k1292 z1248 rfl); have z3_ := congrArg Int32.toInt (rd_s k1292); have z4_ := congrArg Int32.toInt (rd_o k1292 z1249 rfl); have z_ := w_lits; have zl_ := l_lits; omega), (by have z0_ := congrArg Int32.toInt (rd_o k1292 z1247 rfl); have z1_ := congrArg Int32.toInt (rd_o k1292 ef1252 rfl); have z2_ := congrArg Int32.toInt (rd_o k1292 z1248 rfl); have z3_ := congrArg Int32.toInt (rd_s k1292); have z4_ := congrArg Int32.toInt (rd_o k1292 z1249 rfl); have z_ := w_lits; have zl_ := l_lits; omega)⟩
                          refine ev_putW (l := 0) (u := 160) hJ1292 rfl b1294 (by decide) (by decide) rfl rfl rfl fl_X10_210 rfl rfl rfl rfl rfl (fun h1295 hJ1295 k1295 => ?_)
                          refine ev_goto rfl rfl ?_
                          exact (ih108 h1295 hJ1295 (rd_o k1295 (rd_o k1292 z1247 rfl) rfl) (rd_o k1295 (rd_o k1292 z1248 rfl) rfl) (rd_o k1295 (rd_o k1292 z1249 rfl) rfl) (rd_o k1295 (rd_o k1292 z1250 rfl) rfl) (rd_o k1295 (rd_o k1292 z1251 rfl) rfl) (by have z0_ := congrArg Int32.toInt (rd_o k1295 (rd_o k1292 z1247 rfl) rfl); have z1_ := congrArg Int32.toInt (rd_s k1295); have z_ := w_lits; have zl_ := l_lits; omega) (by have z0_ := congrArg Int32.toInt (rd_s k1295); have z_ := w_lits; have zl_ := l_lits; omega) (by rw [(rd_s k1295)]; exact L_up hm108 (e_p1 e1293 (by decide))))
                  exact (lp108_1244 161 h1124 hJ1124 (rd_o k1124 (rd_o k1121 (rd_o k1100 (rd_o k1099 (rd_o k1033 z1017 rfl) rfl) rfl) rfl) rfl) (rd_o k1124 (rd_o k1121 (rd_o k1100 (rd_o k1099 (rd_o k1033 z1018 rfl) rfl) rfl) rfl) rfl) (rd_o k1124 (rd_o k1121 (rd_o k1100 (rd_s k1099) rfl) rfl) rfl) (rd_o k1124 (rd_o k1121 (rd_o k1100 (rd_o k1099 (rd_o k1033 et1027 rfl) rfl) rfl) rfl) rfl) (rd_o k1124 (rd_o k1121 (rd_o k1100 (rd_o k1099 (rd_s k1033) rfl) rfl) rfl) rfl) (by have z0_ := congrArg Int32.toInt (rd_o k1124 (rd_o k1121 (rd_o k1100 (rd_o k1099 (rd_o k1033 z1017 rfl) rfl) rfl) rfl) rfl); have z1_ := congrArg Int32.toInt (rd_s k1124); have z_ := w_lits; have zl_ := l_lits; omega) (by have z0_ := congrArg Int32.toInt (rd_s k1124); have z_ := w_lits; have zl_ := l_lits; omega) (by rw [(rd_s k1124)]; exact L_init b1123 (by decide)))
                · have b1119 : B v1115 (-160) 1 := R_ltX b1115 (by decide : B 2 2 2) (Int32.not_le.mp c1116) (by decide)
                  have z1120 := w_lt (Int32.not_le.mp c1116)
                  rw [show (2 : Int32).toInt = 2 from by decide] at z1120
                  refine ev_bipush (v := 10) rfl rfl (by decide) ?_
                  refine ev_aload_n rfl rfl rfl ?_
                  refine ev_getV (v := 0) rfl rfl fl_X10_207 rfl rfl rfl (rd_s k1100) ?_
                  refine ev_imulB (l := 0) (u := 0) rfl rfl (by decide : B 10 10 10) (by decide : B 0 0 0) (by decide) (by decide) (by decide) (by decide) (by decide) (fun v1296 b1296 e1296 g1296 => ?_)
                  rw [show (0 : Int32).toInt = 0 from by decide] at e1296
                  refine ev_aload_n rfl rfl rfl ?_
                  refine ev_aload_n rfl rfl rfl ?_
                  refine ev_getV (v := f1021) rfl rfl fl_X10_210 rfl rfl rfl (rd_o k1100 (rd_o k1099 (rd_o k1033 ef1021 rfl) rfl) rfl) ?_
                  refine ev_V1P rfl rfl lk_X10_213 vt_X10_look rfl rfl rfl rfl rfl (w_X10_look_63 L b h1100 hJ1100.1 f1021 bf1021 t1027 (rd_o k1100 (rd_o k1099 (rd_o k1033 et1027 rfl) rfl) rfl)) (fun r1297 q1297 => ?_)
                  obtain ⟨b1297, pp1297_0, pp1297_1⟩ := q1297
                  refine ev_iaddB (l := -1) (u := 255) rfl rfl b1296 b1297 (by decide) (by decide) (by decide) (by decide) (fun v1298 b1298 e1298 g1298 => ?_)
                  refine ev_bipush (v := 48) rfl rfl (by decide) ?_
                  refine ev_isubB (l := -49) (u := 207) rfl rfl b1298 (by decide : B 48 48 48) (by decide) (by decide) (by decide) (by decide) (fun v1299 b1299 e1299 g1299 => ?_)
                  have e1299x := e1299; rw [show (48 : Int32).toInt = 48 from by decide] at e1299x
                  refine ev_goto rfl rfl ?_
                  refine ev_putW (l := (-2147483648)) (u := 2147483647) hJ1100 rfl b1299 (by decide) (by decide) rfl rfl rfl fl_X10_207 rfl rfl rfl rfl rfl (fun h1300 hJ1300 k1300 => ?_)
                  refine ev_aload_n rfl rfl rfl ?_
                  refine ev_dup rfl rfl rfl ?_
                  refine ev_getV (v := f1021) rfl rfl fl_X10_210 rfl rfl rfl (rd_o k1300 (rd_o k1100 (rd_o k1099 (rd_o k1033 ef1021 rfl) rfl) rfl) rfl) ?_
                  refine ev_iconst (v := 1) rfl rfl (by decide) ?_
                  refine ev_iaddB (l := 1) (u := 161) rfl rfl bf1021 (by decide : B 1 1 1) (by decide) (by decide) (by decide) (by decide) (fun v1301 b1301 e1301 g1301 => ?_)
                  have e1301x := e1301; rw [show (1 : Int32).toInt = 1 from by decide] at e1301x
                  have b1302 : B v1301 0 160 := ⟨(by have z0_ := congrArg Int32.toInt (rd_o k1300 (rd_o k1100 (rd_o k1099 (rd_o k1033 z1017 rfl) rfl) rfl) rfl); have z1_ := congrArg Int32.toInt (rd_o k1300 (rd_o k1100 (rd_o k1099 (rd_o k1033 ef1021 rfl) rfl) rfl) rfl); have z2_ := congrArg Int32.toInt (rd_o k1300 (rd_o k1100 (rd_o k1099 (rd_o k1033 z1018 rfl) rfl) rfl) rfl); have z3_ := congrArg Int32.toInt (rd_s k1300); have z4_ := congrArg Int32.toInt (rd_o k1300 (rd_o k1100 (rd_s k1099) rfl) rfl); have z_ := w_lits; have zl_ := l_lits; omega), (by have z0_ := congrArg Int32.toInt (rd_o k1300 (rd_o k1100 (rd_o k1099 (rd_o k1033 z1017 rfl) rfl) rfl) rfl); have z1_ := congrArg Int32.toInt (rd_o k1300 (rd_o k1100 (rd_o k1099 (rd_o k1033 ef1021 rfl) rfl) rfl) rfl); have z2_ := congrArg Int32.toInt (rd_o k1300 (rd_o k1100 (rd_o k1099 (rd_o k1033 z1018 rfl) rfl) rfl) rfl); have z3_ := congrArg Int32.toInt (rd_s k1300); have z4_ := congrArg Int32.toInt (rd_o k1300 (rd_o k1100 (rd_s k1099) rfl) rfl); have z_ := w_lits; have zl_ := l_lits; omega)⟩
                  refine ev_putW (l := 0) (u := 160) hJ1300 rfl b1302 (by decide) (by decide) rfl rfl rfl fl_X10_210 rfl rfl rfl rfl rfl (fun h1303 hJ1303 k1303 => ?_)
                  refine ev_goto rfl rfl ?_
                  have lp108_1423 : ∀ (n : Nat) (h1424 : Hp), JW [(63, 17), (63, 18), (63, 19), (63, 20), (63, 21), (63, 22)] h h1424 → (h1424 63 16 = f1) → (h1424 63 21 = f3) → (h1424 63 19 = 2) → (h1424 72 (Int32.toNatClampNeg f1021) = t1027) → (h1424 63 18 = f1021) → ((h1424 63 17).toInt ≤ (h1424 63 16).toInt) → ((h 63 17).toInt + 1 ≤ (h1424 63 17).toInt) → 160 + 1 - (h1424 63 17).toInt ≤ (n : Int) → EvQ mi_X10_next 108 [some (.ref 63), some (.int r1035)] [] (G0 L b) h1424 0 0 (QK (fun z : Hp => ((z 63 17).toInt ≤ (z 63 16).toInt) ∧ ((z 63 21).toInt = 0 → (h 63 21).toInt = 0) ∧ ((¬ (z 63 21).toInt = 0) ∨ (z 63 19).toInt = 0 ∨ (h 63 17).toInt + 1 ≤ (z 63 17).toInt) ∧ ((h 63 17).toInt ≤ (z 63 17).toInt) ∧ ((z 63 21).toInt = 0 → (z 63 19).toInt = 1 → 0 ≤ (z 63 20).toInt ∧ (z 63 20).toInt ≤ 4095)) [(63, 17), (63, 18), (63, 19), (63, 20), (63, 21), (63, 22)] (G0 L b) h) := by
                    intro n
                    induction n with
                    | zero =>
                      intro h1424 hJ1425 z1426 z1427 z1428 z1429 z1430 y108_0 y108_1 hm108
                      obtain ⟨f1431, ef1431⟩ : ∃ f_, h1424 63 17 = f_ := ⟨_, rfl⟩
                      have bf1431 : B f1431 0 160 := by
                        have z_ := hJ1425.1 63 17
                        rw [ef1431] at z_
                        exact z_
                      rw [ef1431] at hm108
                      exact absurd hm108 (L_zero bf1431 (by decide))
                    | succ n ih108 =>
                      intro h1424 hJ1425 z1426 z1427 z1428 z1429 z1430 y108_0 y108_1 hm108
                      obtain ⟨f1431, ef1431⟩ : ∃ f_, h1424 63 17 = f_ := ⟨_, rfl⟩
                      have bf1431 : B f1431 0 160 := by
                        have z_ := hJ1425.1 63 17
                        rw [ef1431] at z_
                        exact z_
                      rw [ef1431] at hm108
                      obtain ⟨f1432, ef1432⟩ : ∃ f_, h1424 63 20 = f_ := ⟨_, rfl⟩
                      have zf1432 := congrArg Int32.toInt ef1432
                      have z1433 := congrArg Int32.toInt z1426
                      have z1434 := congrArg Int32.toInt ef1431
                      have z1435 := congrArg Int32.toInt z1427
                      have z1436 := congrArg Int32.toInt z1428
                      refine ev_aload_n rfl rfl rfl ?_
                      refine ev_aload_n rfl rfl rfl ?_
                      refine ev_getV (v := f1431) rfl rfl fl_X10_210 rfl rfl rfl ef1431 ?_
                      obtain ⟨t1437, et1437⟩ : ∃ f_, h1424 72 (Int32.toNatClampNeg f1431) = f_ := ⟨_, rfl⟩
                      have bt1437 : B t1437 0 255 := by have z_ := hJ1425.1 72 (Int32.toNatClampNeg f1431); rw [et1437] at z_; exact z_
                      refine ev_V1P rfl rfl lk_X10_213 vt_X10_look rfl rfl rfl rfl rfl (w_X10_look_63 L b h1424 hJ1425.1 f1431 bf1431 t1437 et1437) (fun r1438 q1438 => ?_)
                      obtain ⟨b1438, pp1438_0, pp1438_1⟩ := q1438
                      refine ev_i2l rfl rfl ?_
                      have z1439 := Int32.toInt_toInt64 r1438
                      have z1439b := B.any r1438
                      refine ev_ldc2 (v := 48) rfl rfl kc_X10_226 ?_
                      refine ev_ldc2 (v := 57) rfl rfl kc_X10_228 ?_
                      refine ev_S3P rfl rfl lk_X10_124 st_X10_in rfl rfl (w_inR (G0 L b) h1424 r1438 48 57 (by decide : BL 48 48 48) (by decide : BL 57 57 57)) (fun r1440 q1440 => ?_)
                      obtain ⟨b1440, p1440_0, pp1440_0, pp1440_1⟩ := q1440
                      refine ev_if_eq rfl rfl (fun c1441 => ?_) (fun c1441 => ?_)
                      · have b1442 : B r1440 0 0 := R_eqX b1440 (by decide : B 0 0 0) c1441
                        have z1443 := congrArg Int32.toInt c1441
                        rw [show (0 : Int32).toInt = 0 from by decide] at z1443
                        refine ev_aload_n rfl rfl rfl ?_
                        refine ev_aload_n rfl rfl rfl ?_
                        refine ev_getV (v := f1431) rfl rfl fl_X10_210 rfl rfl rfl ef1431 ?_
                        refine ev_aload_n rfl rfl rfl ?_
                        refine ev_getV (v := f1021) rfl rfl fl_X10_197 rfl rfl rfl z1430 ?_
                        refine ev_isubB (l := -160) (u := 160) rfl rfl bf1431 bf1021 (by decide) (by decide) (by decide) (by decide) (fun v1447 b1447 e1447 g1447 => ?_)
                        refine ev_iconst (v := 2) rfl rfl (by decide) ?_
                        refine ev_icmp_gt rfl rfl (fun c1448 => ?_) (fun c1448 => ?_)
                        · have b1449 : B v1447 3 160 := R_ltY (by decide : B 2 2 2) b1447 c1448 (by decide)
                          have z1450 := w_lt c1448
                          rw [show (2 : Int32).toInt = 2 from by decide] at z1450
                          refine ev_iconst (v := 0) rfl rfl (by decide) ?_
                          refine ev_iconst (v := 1) rfl rfl (by decide) ?_
                          refine ev_V2K hJ1425 rfl rfl rfl lk_X10_230 vt_X10_wants rfl rfl rfl rfl rfl (w_X10_wants_63 L b h1424 hJ1425.1 0 ((by decide : B 0 0 0).mono (by decide) (by decide)) 1 ((by decide : B 1 1 1).mono (by decide) (by decide))) (fun h1453 hJ1453 k1453 m1453 => ?_)
                          obtain ⟨f1454, ef1454⟩ : ∃ f_, h1453 63 21 = f_ := ⟨_, rfl⟩
                          have bf1454 : B f1454 0 6 := by have z_ := hJ1453.1 63 21; rw [ef1454] at z_; exact z_
                          have zf1454 := congrArg Int32.toInt ef1454
                          refine ev_goto rfl rfl ?_
                          exact ev_vret rfl rfl trivial ⟨rfl, rfl, hJ1453, (by have z0_ := congrArg Int32.toInt (rd_w k1453 z1426 rfl); have z1_ := congrArg Int32.toInt (rd_w k1453 ef1431 rfl); have z_ := w_lits; have zl_ := l_lits; omega), (by have z0_ := congrArg Int32.toInt ef1454; have z_ := w_lits; have zl_ := l_lits; omega), (by have z0_ := congrArg Int32.toInt (rd_w k1453 ef1431 rfl); have z1_ := congrArg Int32.toInt ef1454; have z2_ := congrArg Int32.toInt (rd_w k1453 z1428 rfl); have z_ := w_lits; have zl_ := l_lits; omega), (by have z0_ := congrArg Int32.toInt (rd_w k1453 ef1431 rfl); have z_ := w_lits; have zl_ := l_lits; omega), (by have z0_ := congrArg Int32.toInt ef1454; have z1_ := congrArg Int32.toInt (rd_w k1453 ef1432 rfl); have z2_ := congrArg Int32.toInt (rd_w k1453 z1428 rfl); have z_ := w_lits; have zl_ := l_lits; omega)⟩
                        · have b1451 : B v1447 (-160) 2 := R_leX b1447 (by decide : B 2 2 2) (Int32.not_lt.mp c1448) (by decide)
                          have z1452 := w_le (Int32.not_lt.mp c1448)
                          rw [show (2 : Int32).toInt = 2 from by decide] at z1452
                          refine ev_iconst (v := 1) rfl rfl (by decide) ?_
                          refine ev_goto rfl rfl ?_
                          refine ev_iconst (v := 1) rfl rfl (by decide) ?_
                          refine ev_V2K hJ1425 rfl rfl rfl lk_X10_230 vt_X10_wants rfl rfl rfl rfl rfl (w_X10_wants_63 L b h1424 hJ1425.1 1 ((by decide : B 1 1 1).mono (by decide) (by decide)) 1 ((by decide : B 1 1 1).mono (by decide) (by decide))) (fun h1455 hJ1455 k1455 m1455 => ?_)
                          obtain ⟨f1456, ef1456⟩ : ∃ f_, h1455 63 21 = f_ := ⟨_, rfl⟩
                          have bf1456 : B f1456 0 6 := by have z_ := hJ1455.1 63 21; rw [ef1456] at z_; exact z_
                          have zf1456 := congrArg Int32.toInt ef1456
                          refine ev_goto rfl rfl ?_
                          exact ev_vret rfl rfl trivial ⟨rfl, rfl, hJ1455, (by have z0_ := congrArg Int32.toInt (rd_w k1455 z1426 rfl); have z1_ := congrArg Int32.toInt (rd_w k1455 ef1431 rfl); have z_ := w_lits; have zl_ := l_lits; omega), (by have z0_ := congrArg Int32.toInt ef1456; have z_ := w_lits; have zl_ := l_lits; omega), (by have z0_ := congrArg Int32.toInt (rd_w k1455 ef1431 rfl); have z1_ := congrArg Int32.toInt ef1456; have z2_ := congrArg Int32.toInt (rd_w k1455 z1428 rfl); have z_ := w_lits; have zl_ := l_lits; omega), (by have z0_ := congrArg Int32.toInt (rd_w k1455 ef1431 rfl); have z_ := w_lits; have zl_ := l_lits; omega), (by have z0_ := congrArg Int32.toInt ef1456; have z1_ := congrArg Int32.toInt (rd_w k1455 ef1432 rfl); have z2_ := congrArg Int32.toInt (rd_w k1455 z1428 rfl); have z_ := w_lits; have zl_ := l_lits; omega)⟩
                      · have b1444 : B r1440 1 1 := R_neL b1440 (by decide : B 0 0 0) c1441 (by decide)
                        have b1445 : B r1438 48 57 := p1440_0 c1441
                        have z1446 := w_ne c1441
                        rw [show (0 : Int32).toInt = 0 from by decide] at z1446
                        refine ev_aload_n rfl rfl rfl ?_
                        refine ev_aload_n rfl rfl rfl ?_
                        refine ev_getV (v := f1431) rfl rfl fl_X10_210 rfl rfl rfl ef1431 ?_
                        refine ev_aload_n rfl rfl rfl ?_
                        refine ev_getV (v := f1021) rfl rfl fl_X10_197 rfl rfl rfl z1430 ?_
                        refine ev_isubB (l := -160) (u := 160) rfl rfl bf1431 bf1021 (by decide) (by decide) (by decide) (by decide) (fun v1457 b1457 e1457 g1457 => ?_)
                        refine ev_iconst (v := 2) rfl rfl (by decide) ?_
                        refine ev_icmp_ge rfl rfl (fun c1458 => ?_) (fun c1458 => ?_)
                        · have b1459 : B v1457 2 160 := R_leY (by decide : B 2 2 2) b1457 c1458 (by decide)
                          have z1460 := w_le c1458
                          rw [show (2 : Int32).toInt = 2 from by decide] at z1460
                          refine ev_aload_n rfl rfl rfl ?_
                          refine ev_getV (v := f1432) rfl rfl fl_X10_207 rfl rfl rfl ef1432 ?_
                          refine ev_putW (l := (-2147483648)) (u := 2147483647) hJ1425 rfl (B.any f1432) (by decide) (by decide) rfl rfl rfl fl_X10_207 rfl rfl rfl rfl rfl (fun h1463 hJ1463 k1463 => ?_)
                          refine ev_aload_n rfl rfl rfl ?_
                          refine ev_dup rfl rfl rfl ?_
                          refine ev_getV (v := f1431) rfl rfl fl_X10_210 rfl rfl rfl (rd_o k1463 ef1431 rfl) ?_
                          refine ev_iconst (v := 1) rfl rfl (by decide) ?_
                          refine ev_iaddB (l := 1) (u := 161) rfl rfl bf1431 (by decide : B 1 1 1) (by decide) (by decide) (by decide) (by decide) (fun v1464 b1464 e1464 g1464 => ?_)
                          have e1464x := e1464; rw [show (1 : Int32).toInt = 1 from by decide] at e1464x
                          have b1465 : B v1464 0 160 := ⟨(by have z0_ := congrArg Int32.toInt (rd_o k1463 z1426 rfl); have z1_ := congrArg Int32.toInt (rd_o k1463 ef1431 rfl); have z2_ := congrArg Int32.toInt (rd_o k1463 z1427 rfl); have z3_ := congrArg Int32.toInt (rd_s k1463); have z4_ := congrArg Int32.toInt (rd_o k1463 z1428 rfl); have z_ := w_lits; have zl_ := l_lits; omega), (by have z0_ := congrArg Int32.toInt (rd_o k1463 z1426 rfl); have z1_ := congrArg Int32.toInt (rd_o k1463 ef1431 rfl); have z2_ := congrArg Int32.toInt (rd_o k1463 z1427 rfl); have z3_ := congrArg Int32.toInt (rd_s k1463); have z4_ := congrArg Int32.toInt (rd_o k1463 z1428 rfl); have z_ := w_lits; have zl_ := l_lits; omega)⟩
                          refine ev_putW (l := 0) (u := 160) hJ1463 rfl b1465 (by decide) (by decide) rfl rfl rfl fl_X10_210 rfl rfl rfl rfl rfl (fun h1466 hJ1466 k1466 => ?_)
                          refine ev_goto rfl rfl ?_
                          exact (ih108 h1466 hJ1466 (rd_o k1466 (rd_o k1463 z1426 rfl) rfl) (rd_o k1466 (rd_o k1463 z1427 rfl) rfl) (rd_o k1466 (rd_o k1463 z1428 rfl) rfl) (rd_o k1466 (rd_o k1463 z1429 rfl) rfl) (rd_o k1466 (rd_o k1463 z1430 rfl) rfl) (by have z0_ := congrArg Int32.toInt (rd_o k1466 (rd_o k1463 z1426 rfl) rfl); have z1_ := congrArg Int32.toInt (rd_s k1466); have z_ := w_lits; have zl_ := l_lits; omega) (by have z0_ := congrArg Int32.toInt (rd_s k1466); have z_ := w_lits; have zl_ := l_lits; omega) (by rw [(rd_s k1466)]; exact L_up hm108 (e_p1 e1464 (by decide))))
                        · have b1461 : B v1457 (-160) 1 := R_ltX b1457 (by decide : B 2 2 2) (Int32.not_le.mp c1458) (by decide)
                          have z1462 := w_lt (Int32.not_le.mp c1458)
                          rw [show (2 : Int32).toInt = 2 from by decide] at z1462
                          refine ev_bipush (v := 10) rfl rfl (by decide) ?_
                          refine ev_aload_n rfl rfl rfl ?_
                          refine ev_getV (v := f1432) rfl rfl fl_X10_207 rfl rfl rfl ef1432 ?_
                          refine ev_imulA rfl rfl (fun v1467 => ?_)
                          refine ev_aload_n rfl rfl rfl ?_
                          refine ev_aload_n rfl rfl rfl ?_
                          refine ev_getV (v := f1431) rfl rfl fl_X10_210 rfl rfl rfl ef1431 ?_
                          refine ev_V1P rfl rfl lk_X10_213 vt_X10_look rfl rfl rfl rfl rfl (w_X10_look_63 L b h1424 hJ1425.1 f1431 bf1431 t1437 et1437) (fun r1468 q1468 => ?_)
                          obtain ⟨b1468, pp1468_0, pp1468_1⟩ := q1468
                          refine ev_iaddA rfl rfl (fun v1469 g1469 => ?_)
                          refine ev_bipush (v := 48) rfl rfl (by decide) ?_
                          refine ev_isubA rfl rfl (fun v1470 g1470 => ?_)
                          refine ev_goto rfl rfl ?_
                          refine ev_putW (l := (-2147483648)) (u := 2147483647) hJ1425 rfl (B.any v1470) (by decide) (by decide) rfl rfl rfl fl_X10_207 rfl rfl rfl rfl rfl (fun h1471 hJ1471 k1471 => ?_)
                          refine ev_aload_n rfl rfl rfl ?_
                          refine ev_dup rfl rfl rfl ?_
                          refine ev_getV (v := f1431) rfl rfl fl_X10_210 rfl rfl rfl (rd_o k1471 ef1431 rfl) ?_
                          refine ev_iconst (v := 1) rfl rfl (by decide) ?_
                          refine ev_iaddB (l := 1) (u := 161) rfl rfl bf1431 (by decide : B 1 1 1) (by decide) (by decide) (by decide) (by decide) (fun v1472 b1472 e1472 g1472 => ?_)
                          have e1472x := e1472; rw [show (1 : Int32).toInt = 1 from by decide] at e1472x
                          have b1473 : B v1472 0 160 := ⟨(by have z0_ := congrArg Int32.toInt (rd_o k1471 z1426 rfl); have z1_ := congrArg Int32.toInt (rd_o k1471 ef1431 rfl); have z2_ := congrArg Int32.toInt (rd_o k1471 z1427 rfl); have z3_ := congrArg Int32.toInt (rd_s k1471); have z4_ := congrArg Int32.toInt (rd_o k1471 z1428 rfl); have z_ := w_lits; have zl_ := l_lits; omega), (by have z0_ := congrArg Int32.toInt (rd_o k1471 z1426 rfl); have z1_ := congrArg Int32.toInt (rd_o k1471 ef1431 rfl); have z2_ := congrArg Int32.toInt (rd_o k1471 z1427 rfl); have z3_ := congrArg Int32.toInt (rd_s k1471); have z4_ := congrArg Int32.toInt (rd_o k1471 z1428 rfl); have z_ := w_lits; have zl_ := l_lits; omega)⟩
                          refine ev_putW (l := 0) (u := 160) hJ1471 rfl b1473 (by decide) (by decide) rfl rfl rfl fl_X10_210 rfl rfl rfl rfl rfl (fun h1474 hJ1474 k1474 => ?_)
                          refine ev_goto rfl rfl ?_
                          exact (ih108 h1474 hJ1474 (rd_o k1474 (rd_o k1471 z1426 rfl) rfl) (rd_o k1474 (rd_o k1471 z1427 rfl) rfl) (rd_o k1474 (rd_o k1471 z1428 rfl) rfl) (rd_o k1474 (rd_o k1471 z1429 rfl) rfl) (rd_o k1474 (rd_o k1471 z1430 rfl) rfl) (by have z0_ := congrArg Int32.toInt (rd_o k1474 (rd_o k1471 z1426 rfl) rfl); have z1_ := congrArg Int32.toInt (rd_s k1474); have z_ := w_lits; have zl_ := l_lits; omega) (by have z0_ := congrArg Int32.toInt (rd_s k1474); have z_ := w_lits; have zl_ := l_lits; omega) (by rw [(rd_s k1474)]; exact L_up hm108 (e_p1 e1472 (by decide))))
                  exact (lp108_1423 161 h1303 hJ1303 (rd_o k1303 (rd_o k1300 (rd_o k1100 (rd_o k1099 (rd_o k1033 z1017 rfl) rfl) rfl) rfl) rfl) (rd_o k1303 (rd_o k1300 (rd_o k1100 (rd_o k1099 (rd_o k1033 z1018 rfl) rfl) rfl) rfl) rfl) (rd_o k1303 (rd_o k1300 (rd_o k1100 (rd_s k1099) rfl) rfl) rfl) (rd_o k1303 (rd_o k1300 (rd_o k1100 (rd_o k1099 (rd_o k1033 et1027 rfl) rfl) rfl) rfl) rfl) (rd_o k1303 (rd_o k1300 (rd_o k1100 (rd_o k1099 (rd_s k1033) rfl) rfl) rfl) rfl) (by have z0_ := congrArg Int32.toInt (rd_o k1303 (rd_o k1300 (rd_o k1100 (rd_o k1099 (rd_o k1033 z1017 rfl) rfl) rfl) rfl) rfl); have z1_ := congrArg Int32.toInt (rd_s k1303); have z_ := w_lits; have zl_ := l_lits; omega) (by have z0_ := congrArg Int32.toInt (rd_s k1303); have z_ := w_lits; have zl_ := l_lits; omega) (by rw [(rd_s k1303)]; exact L_init b1302 (by decide)))
            · have b1050 : B r1046 1 1 := R_neL b1046 (by decide : B 0 0 0) c1047 (by decide)
              have b1051 : B r1035 97 122 := p1046_0 c1047
              have z1052 := w_ne c1047
              rw [show (0 : Int32).toInt = 0 from by decide] at z1052
              refine ev_aload_n rfl rfl rfl ?_
              refine ev_V0K hJ1033 rfl rfl rfl lk_X10_223 vt_X10_readChord rfl rfl rfl rfl rfl (w_X10_readChord_63 L b h1033 hJ1033.1 t1027 (by rw [(rd_o k1033 ef1021 rfl)]; exact (rd_o k1033 et1027 rfl)) ⟨(by have z0_ := congrArg Int32.toInt (rd_o k1033 z1017 rfl); have z1_ := congrArg Int32.toInt (rd_o k1033 ef1021 rfl); have z2_ := congrArg Int32.toInt (rd_o k1033 z1018 rfl); have z3_ := congrArg Int32.toInt (rd_o k1033 z1019 rfl); have z4_ := congrArg Int32.toInt (rd_o k1033 z1020 rfl); have z_ := w_lits; have zl_ := l_lits; omega), (by have z0_ := congrArg Int32.toInt (rd_o k1033 z1017 rfl); have z1_ := congrArg Int32.toInt (rd_o k1033 ef1021 rfl); have z2_ := congrArg Int32.toInt (rd_o k1033 z1018 rfl); have z3_ := congrArg Int32.toInt (rd_o k1033 z1019 rfl); have z4_ := congrArg Int32.toInt (rd_o k1033 z1020 rfl); have z_ := w_lits; have zl_ := l_lits; omega)⟩ (by have z0_ := congrArg Int32.toInt (rd_o k1033 z1017 rfl); have z1_ := congrArg Int32.toInt (rd_o k1033 ef1021 rfl); have z_ := w_lits; have zl_ := l_lits; omega) (B.at (rd_o k1033 z1018 rfl) b7)) (fun h1475 hJ1475 k1475 m1475 => ?_)
              obtain ⟨m1475_0, m1475_1, m1475_2, m1475_3⟩ := m1475
              obtain ⟨f1476, ef1476⟩ : ∃ f_, h1475 63 17 = f_ := ⟨_, rfl⟩
              have bf1476 : B f1476 0 160 := by have z_ := hJ1475.1 63 17; rw [ef1476] at z_; exact z_
              have zf1476 := congrArg Int32.toInt ef1476
              obtain ⟨f1477, ef1477⟩ : ∃ f_, h1475 63 21 = f_ := ⟨_, rfl⟩
              have bf1477 : B f1477 0 6 := by have z_ := hJ1475.1 63 21; rw [ef1477] at z_; exact z_
              have zf1477 := congrArg Int32.toInt ef1477
              obtain ⟨f1478, ef1478⟩ : ∃ f_, h1475 63 20 = f_ := ⟨_, rfl⟩
              have zf1478 := congrArg Int32.toInt ef1478
              obtain ⟨f1479, ef1479⟩ : ∃ f_, h1475 63 19 = f_ := ⟨_, rfl⟩
              have bf1479 : B f1479 0 3 := by have z_ := hJ1475.1 63 19; rw [ef1479] at z_; exact z_
              have zf1479 := congrArg Int32.toInt ef1479
              have z1480 := congrArg Int32.toInt (rd_w k1475 (rd_o k1033 z1017 rfl) rfl)
              refine ev_goto rfl rfl ?_
              exact ev_vret rfl rfl trivial ⟨rfl, rfl, hJ1475, (by have z0_ := congrArg Int32.toInt (rd_w k1475 (rd_o k1033 z1017 rfl) rfl); have z1_ := congrArg Int32.toInt ef1476; have z_ := w_lits; have zl_ := l_lits; omega), (by have z0_ := congrArg Int32.toInt ef1477; have z_ := w_lits; have zl_ := l_lits; omega), (by have z0_ := congrArg Int32.toInt ef1476; have z1_ := congrArg Int32.toInt ef1477; have z2_ := congrArg Int32.toInt ef1479; have z_ := w_lits; have zl_ := l_lits; omega), (by have z0_ := congrArg Int32.toInt ef1476; have z_ := w_lits; have zl_ := l_lits; omega), (by have z0_ := congrArg Int32.toInt ef1477; have z1_ := congrArg Int32.toInt ef1478; have z2_ := congrArg Int32.toInt ef1479; have z_ := w_lits; have zl_ := l_lits; omega)⟩
          · have b1039 : B r1035 (-1) (-1) := R_ltX b1035 (by decide : B 0 0 0) (Int32.not_le.mp c1036) (by decide)
            have z1040 := w_lt (Int32.not_le.mp c1036)
            rw [show (0 : Int32).toInt = 0 from by decide] at z1040
            refine ev_aload_n rfl rfl rfl ?_
            refine ev_iconst (v := 0) rfl rfl (by decide) ?_
            refine ev_putW (l := 0) (u := 3) hJ1033 rfl (by decide : B 0 0 0) (by decide) (by decide) rfl rfl rfl fl_X10_204 rfl rfl rfl rfl rfl (fun h1481 hJ1481 k1481 => ?_)
            refine ev_goto rfl rfl ?_
            exact ev_vret rfl rfl trivial ⟨rfl, rfl, hJ1481, (by have z0_ := congrArg Int32.toInt (rd_o k1481 (rd_o k1033 z1017 rfl) rfl); have z1_ := congrArg Int32.toInt (rd_o k1481 (rd_o k1033 ef1021 rfl) rfl); have z_ := w_lits; have zl_ := l_lits; omega), (by have z0_ := congrArg Int32.toInt (rd_o k1481 (rd_o k1033 z1018 rfl) rfl); have z_ := w_lits; have zl_ := l_lits; omega), (by have z0_ := congrArg Int32.toInt (rd_o k1481 (rd_o k1033 ef1021 rfl) rfl); have z1_ := congrArg Int32.toInt (rd_o k1481 (rd_o k1033 z1018 rfl) rfl); have z2_ := congrArg Int32.toInt (rd_s k1481); have z_ := w_lits; have zl_ := l_lits; omega), (by have z0_ := congrArg Int32.toInt (rd_o k1481 (rd_o k1033 ef1021 rfl) rfl); have z_ := w_lits; have zl_ := l_lits; omega), (by have z0_ := congrArg Int32.toInt (rd_o k1481 (rd_o k1033 z1018 rfl) rfl); have z1_ := congrArg Int32.toInt (rd_o k1481 (rd_o k1033 z1019 rfl) rfl); have z2_ := congrArg Int32.toInt (rd_s k1481); have z_ := w_lits; have zl_ := l_lits; omega)⟩
        · have b1031 : B r1028 32 32 := R_eqX b1028 (by decide : B 32 32 32) c1029
          have z1032 := congrArg Int32.toInt c1029
          rw [show (32 : Int32).toInt = 32 from by decide] at z1032
          refine ev_aload_n rfl rfl rfl ?_
          refine ev_dup rfl rfl rfl ?_
          refine ev_getV (v := f1021) rfl rfl fl_X10_210 rfl rfl rfl ef1021 ?_
          refine ev_iconst (v := 1) rfl rfl (by decide) ?_
          refine ev_iaddB (l := 1) (u := 161) rfl rfl bf1021 (by decide : B 1 1 1) (by decide) (by decide) (by decide) (by decide) (fun v1482 b1482 e1482 g1482 => ?_)
          have e1482x := e1482; rw [show (1 : Int32).toInt = 1 from by decide] at e1482x
          have b1483 : B v1482 0 160 := ⟨(by have z0_ := congrArg Int32.toInt z1017; have z1_ := congrArg Int32.toInt ef1021; have z2_ := congrArg Int32.toInt z1018; have z3_ := congrArg Int32.toInt z1019; have z4_ := congrArg Int32.toInt z1020; have z_ := w_lits; have zl_ := l_lits; omega), (by have z0_ := congrArg Int32.toInt z1017; have z1_ := congrArg Int32.toInt ef1021; have z2_ := congrArg Int32.toInt z1018; have z3_ := congrArg Int32.toInt z1019; have z4_ := congrArg Int32.toInt z1020; have z_ := w_lits; have zl_ := l_lits; omega)⟩
          refine ev_putW (l := 0) (u := 160) hJ1016 rfl b1483 (by decide) (by decide) rfl rfl rfl fl_X10_210 rfl rfl rfl rfl rfl (fun h1484 hJ1484 k1484 => ?_)
          refine ev_goto rfl rfl ?_
          exact (ih8 h1484 hJ1484 (rd_o k1484 z1017 rfl) (rd_o k1484 z1018 rfl) (rd_o k1484 z1019 rfl) (rd_o k1484 z1020 rfl) (by have z0_ := congrArg Int32.toInt (rd_o k1484 z1017 rfl); have z1_ := congrArg Int32.toInt (rd_s k1484); have z_ := w_lits; have zl_ := l_lits; omega) (by have z0_ := congrArg Int32.toInt (rd_s k1484); have z_ := w_lits; have zl_ := l_lits; omega) (by rw [(rd_s k1484)]; exact L_up hm8 (e_p1 e1482 (by decide))))
    exact (lp8_1014 161 h hJ0 ef1 ef3 ef4 ef5 (by have z0_ := congrArg Int32.toInt ef1; have z1_ := congrArg Int32.toInt ef2; have z_ := w_lits; have zl_ := l_lits; omega) (by have z0_ := congrArg Int32.toInt ef2; have z_ := w_lits; have zl_ := l_lits; omega) (by rw [ef2]; exact L_init bf2 (by decide)))
  · have b9 : B f3 1 6 := R_ltY (by decide : B 0 0 0) bf3 (Int32.not_le.mp c6) (by decide)
    have z10 := w_lt (Int32.not_le.mp c6)
    rw [show (0 : Int32).toInt = 0 from by decide] at z10
    exact ev_vret rfl rfl trivial ⟨rfl, rfl, hJ0, (by have z0_ := congrArg Int32.toInt ef1; have z1_ := congrArg Int32.toInt ef2; have z_ := w_lits; have zl_ := l_lits; omega), (by have z0_ := congrArg Int32.toInt ef3; have z_ := w_lits; have zl_ := l_lits; omega), (by have z0_ := congrArg Int32.toInt ef2; have z1_ := congrArg Int32.toInt ef3; have z2_ := congrArg Int32.toInt ef5; have z_ := w_lits; have zl_ := l_lits; omega), (by have z0_ := congrArg Int32.toInt ef2; have z_ := w_lits; have zl_ := l_lits; omega), (by have z0_ := congrArg Int32.toInt ef3; have z1_ := congrArg Int32.toInt ef4; have z2_ := congrArg Int32.toInt ef5; have z_ := w_lits; have zl_ := l_lits; omega)⟩
