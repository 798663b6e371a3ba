set_option maxRecDepth 100000 in
set_option maxHeartbeats 4000000 in
theorem w_X10_look_63 (L : Nat) (b : Bool) (h : Hp) (hB : Bx h) (a0 : Int32) (p0 : B a0 0 160) (t : Int32) (rt : h 72 a0.toNatClampNeg = t) : EvP mi_X10_look [.ref 63, .int a0] (G0 L b) h (fun r : Int32 => B r (-1) 255 ∧ (a0.toInt < (h 63 16).toInt → r.toInt = t.toInt) ∧ ((h 63 16).toInt ≤ a0.toInt → r.toInt = -1)) := by
  refine EvM.of2 (lo := [some (.ref 63), some (.int a0)]) pf_X10_look ok_X10_look rfl rfl ?_
  have bt : B t 0 255 := by have z_ := hB 72 a0.toNatClampNeg; rw [rt] at z_; exact z_
  obtain ⟨f1, ef1⟩ : ∃ f_, h 63 16 = f_ := ⟨_, rfl⟩
  have bf1 : B f1 0 160 := by have z_ := hB 63 16; rw [ef1] at z_; exact z_
  have zf1 := congrArg Int32.toInt ef1
  refine ev_iload_n rfl rfl rfl ?_
  refine ev_aload_n rfl rfl rfl ?_
  refine ev_getV (v := f1) rfl rfl fl_X10_186 rfl rfl rfl ef1 ?_
  refine ev_icmp_ge rfl rfl (fun c2 => ?_) (fun c2 => ?_)
  · have z3 := w_le c2
    refine ev_iconst (v := (-1)) rfl rfl (by decide) ?_
    exact ev_iret rfl rfl rfl ⟨⟨_, rfl, ⟨((by decide : B (-1) (-1) (-1)).mono (by decide) (by decide)), (by have z0_ := congrArg Int32.toInt ef1; have z_ := w_lits; have zl_ := l_lits; omega), (by have z0_ := congrArg Int32.toInt ef1; have z_ := w_lits; have zl_ := l_lits; omega)⟩⟩, rfl, rfl⟩
  · have b4 : B a0 0 159 := R_ltX p0 bf1 (Int32.not_le.mp c2) (by decide)
    have b5 : B f1 1 160 := R_ltY p0 bf1 (Int32.not_le.mp c2) (by decide)
    have z6 := w_lt (Int32.not_le.mp c2)
    refine ev_aload_n rfl rfl rfl ?_
    refine ev_getR (y := 72) rfl rfl fl_X10_48 rfl rfl rfl rfl ?_
    refine ev_iload_n rfl rfl rfl ?_
    refine ev_iadV (v := t) rfl rfl rfl (b4.vp (by decide) (by decide)) rfl rt ?_
    refine ev_goto rfl rfl ?_
    exact ev_iret rfl rfl rfl ⟨⟨_, rfl, ⟨(bt.mono (by decide) (by decide)), (by have z0_ := congrArg Int32.toInt ef1; have z_ := w_lits; have zl_ := l_lits; omega), (by have z0_ := congrArg Int32.toInt ef1; have z_ := w_lits; have zl_ := l_lits; omega)⟩⟩, rfl, rfl⟩

set_option maxRecDepth 100000 in
set_option maxHeartbeats 4000000 in
theorem w_X10_fails_63 (L : Nat) (b : Bool) (h : Hp) (hB : Bx h) (a0 : Int32) (p0 : B a0 1 6) (a1 : Int32) : EvK mi_X10_fails [.ref 63, .int a0, .int a1] (G0 L b) h (fun z : Hp => (¬ (z 63 21).toInt = 0)) [(63, 21), (63, 22)] := by
  refine EvM.of2 (lo := [some (.ref 63), some (.int a0), some (.int a1)]) pf_X10_fails ok_X10_fails rfl rfl ?_
  have hJ0 : JW [(63, 21), (63, 22)] h h := JW.refl hB
  obtain ⟨f1, ef1⟩ : ∃ f_, h 63 21 = f_ := ⟨_, rfl⟩
  have bf1 : B f1 0 6 := by have z_ := hJ0.1 63 21; rw [ef1] at z_; exact z_
  have zf1 := congrArg Int32.toInt ef1
  refine ev_aload_n rfl rfl rfl ?_
  refine ev_getV (v := f1) rfl rfl fl_X10_191 rfl rfl rfl ef1 ?_
  refine ev_if_ne rfl rfl (fun c2 => ?_) (fun c2 => ?_)
  · have b3 : B f1 1 6 := R_neL bf1 (by decide : B 0 0 0) c2 (by decide)
    have z4 := w_ne c2
    rw [show (0 : Int32).toInt = 0 from by decide] at z4
    exact ev_vret rfl rfl trivial ⟨rfl, rfl, hJ0, (by have z0_ := congrArg Int32.toInt ef1; have z_ := w_lits; have zl_ := l_lits; omega)⟩
  · have b5 : B f1 0 0 := R_eqX bf1 (by decide : B 0 0 0) c2
    have z6 := congrArg Int32.toInt c2
    rw [show (0 : Int32).toInt = 0 from by decide] at z6
    refine ev_aload_n rfl rfl rfl ?_
    refine ev_iload_n rfl rfl rfl ?_
    refine ev_putW (l := 0) (u := 6) hJ0 rfl p0 (by decide) (by decide) rfl rfl rfl fl_X10_191 rfl rfl rfl rfl rfl (fun h7 hJ7 k7 => ?_)
    refine ev_aload_n rfl rfl rfl ?_
    refine ev_iload_n rfl rfl rfl ?_
    refine ev_putW (l := (-2147483648)) (u := 2147483647) hJ7 rfl (B.any a1) (by decide) (by decide) rfl rfl rfl fl_X10_194 rfl rfl rfl rfl rfl (fun h8 hJ8 k8 => ?_)
    exact ev_vret rfl rfl trivial ⟨rfl, rfl, hJ8, (by have z0_ := congrArg Int32.toInt (rd_o k8 (rd_s k7) rfl); have z_ := w_lits; have zl_ := l_lits; omega)⟩

set_option maxRecDepth 100000 in
set_option maxHeartbeats 4000000 in
theorem w_X10_wants_63 (L : Nat) (b : Bool) (h : Hp) (hB : Bx h) (a0 : Int32) (p0 : B a0 0 1) (a1 : Int32) (p1 : B a1 1 6) : EvK mi_X10_wants [.ref 63, .int a0, .int a1] (G0 L b) h (fun z : Hp => ((z 63 21).toInt = 0 → (h 63 21).toInt = 0 ∧ ¬ a0.toInt = 0)) [(63, 21), (63, 22)] := by
  refine EvM.of2 (lo := [some (.ref 63), some (.int a0), some (.int a1)]) pf_X10_wants ok_X10_wants rfl rfl ?_
  have hJ0 : JW [(63, 21), (63, 22)] h h := JW.refl hB
  obtain ⟨f1, ef1⟩ : ∃ f_, h 63 21 = f_ := ⟨_, rfl⟩
  have bf1 : B f1 0 6 := by have z_ := hJ0.1 63 21; rw [ef1] at z_; exact z_
  have zf1 := congrArg Int32.toInt ef1
  refine ev_iload_n rfl rfl rfl ?_
  refine ev_if_ne rfl rfl (fun c2 => ?_) (fun c2 => ?_)
  · have b3 : B a0 1 1 := R_neL p0 (by decide : B 0 0 0) c2 (by decide)
    have z4 := w_ne c2
    rw [show (0 : Int32).toInt = 0 from by decide] at z4
    exact ev_vret rfl rfl trivial ⟨rfl, rfl, hJ0, (by have z0_ := congrArg Int32.toInt ef1; have z_ := w_lits; have zl_ := l_lits; omega)⟩
  · have b5 : B a0 0 0 := R_eqX p0 (by decide : B 0 0 0) c2
    have z6 := congrArg Int32.toInt c2
    rw [show (0 : Int32).toInt = 0 from by decide] at z6
    refine ev_aload_n rfl rfl rfl ?_
    refine ev_iload_n rfl rfl rfl ?_
    refine ev_aload_n rfl rfl rfl ?_
    refine ev_getW (l := (-2147483648)) (u := 2147483647) hJ0.1 rfl rfl rfl fl_X10_197 rfl rfl rfl (fun v7 b7 e7 => ?_)
    refine ev_V2K hJ0 rfl rfl rfl lk_X10_200 vt_X10_fails rfl rfl rfl rfl rfl (w_X10_fails_63 L b h hJ0.1 a1 p1 v7) (fun h8 hJ8 k8 m8 => ?_)
    obtain ⟨f9, ef9⟩ : ∃ f_, h8 63 21 = f_ := ⟨_, rfl⟩
    have bf9 : B f9 0 6 := by have z_ := hJ8.1 63 21; rw [ef9] at z_; exact z_
    have zf9 := congrArg Int32.toInt ef9
    exact ev_vret rfl rfl trivial ⟨rfl, rfl, hJ8, (by have z0_ := congrArg Int32.toInt ef9; have z_ := w_lits; have zl_ := l_lits; omega)⟩

set_option maxRecDepth 100000 in
set_option maxHeartbeats 4000000 in
theorem w_X10_readChord_63 (L : Nat) (b : Bool) (h : Hp) (hB : Bx h) (t : Int32) (rt : h 72 (h 63 17).toNatClampNeg = t) (rb : B t 97 122) (rp0 : (h 63 17).toInt < (h 63 16).toInt) (q0 : B (h 63 21) 0 0) : EvK mi_X10_readChord [.ref 63] (G0 L b) h (fun z : Hp => ((z 63 17).toInt ≤ (z 63 16).toInt) ∧ ((h 63 17).toInt + 1 ≤ (z 63 17).toInt) ∧ ((z 63 19).toInt = 1) ∧ (0 ≤ (z 63 20).toInt ∧ (z 63 20).toInt ≤ 4095)) [(63, 17), (63, 19), (63, 20), (63, 21), (63, 22)] := by
  refine EvM.of2 (lo := [some (.ref 63), none]) pf_X10_readChord ok_X10_readChord rfl rfl ?_
  have hJ0 : JW [(63, 17), (63, 19), (63, 20), (63, 21), (63, 22)] h h := JW.refl hB
  obtain ⟨f0, ef0⟩ : ∃ f_, h 63 21 = f_ := ⟨_, rfl⟩
  rw [ef0] at q0
  have zef0 := congrArg Int32.toInt ef0
  obtain ⟨f1, ef1⟩ : ∃ f_, h 63 16 = f_ := ⟨_, rfl⟩
  have bf1 : B f1 0 160 := by have z_ := hJ0.1 63 16; rw [ef1] at z_; exact z_
  have zf1 := congrArg Int32.toInt ef1
  obtain ⟨f2, ef2⟩ : ∃ f_, h 63 17 = f_ := ⟨_, rfl⟩
  have bf2 : B f2 0 160 := by have z_ := hJ0.1 63 17; rw [ef2] at z_; exact z_
  have zf2 := congrArg Int32.toInt ef2
  obtain ⟨f3, ef3⟩ : ∃ f_, h 63 20 = f_ := ⟨_, rfl⟩
  have zf3 := congrArg Int32.toInt ef3
  obtain ⟨f4, ef4⟩ : ∃ f_, h 63 19 = f_ := ⟨_, rfl⟩
  have bf4 : B f4 0 3 := by have z_ := hJ0.1 63 19; rw [ef4] at z_; exact z_
  have zf4 := congrArg Int32.toInt ef4
  rw [ef2] at rt
  refine ev_aload_n rfl rfl rfl ?_
  refine ev_iconst (v := 1) rfl rfl (by decide) ?_
  refine ev_putW (l := 0) (u := 3) hJ0 rfl (by decide : B 1 1 1) (by decide) (by decide) rfl rfl rfl fl_X10_204 rfl rfl rfl rfl rfl (fun h5 hJ5 k5 => ?_)
  refine ev_aload_n rfl rfl rfl ?_
  refine ev_iconst (v := 0) rfl rfl (by decide) ?_
  refine ev_putW (l := (-2147483648)) (u := 2147483647) hJ5 rfl (by decide : B 0 0 0) (by decide) (by decide) rfl rfl rfl fl_X10_207 rfl rfl rfl rfl rfl (fun h6 hJ6 k6 => ?_)
  refine ev_aload_n rfl rfl rfl ?_
  refine ev_aload_n rfl rfl rfl ?_
  refine ev_getV (v := f2) rfl rfl fl_X10_210 rfl rfl rfl (rd_o k6 (rd_o k5 ef2 rfl) rfl) ?_
  have z7 := congrArg Int32.toInt (rd_o k6 (rd_o k5 ef1 rfl) rfl)
  refine ev_V1P rfl rfl lk_X10_213 vt_X10_look rfl rfl rfl rfl rfl (w_X10_look_63 L b h6 hJ6.1 f2 bf2 t (rd_o k6 (rd_o k5 rt rfl) rfl)) (fun r8 q8 => ?_)
  obtain ⟨b8, pp8_0, pp8_1⟩ := q8
  refine ev_i2l rfl rfl ?_
  have z9 := Int32.toInt_toInt64 r8
  have z9b := B.any r8
  refine ev_ldc2 (v := 97) rfl rfl kc_X10_216 ?_
  refine ev_ldc2 (v := 122) rfl rfl kc_X10_218 ?_
  have z10 := congrArg Int32.toInt (rd_o k6 (rd_o k5 ef2 rfl) rfl)
  have z11 := congrArg Int32.toInt (rd_o k6 (rd_o k5 ef0 rfl) rfl)
  have z12 := congrArg Int32.toInt (rd_s k6)
  have z13 := congrArg Int32.toInt (rd_o k6 (rd_s k5) rfl)
  refine ev_S3P rfl rfl lk_X10_124 st_X10_in rfl rfl (w_inR (G0 L b) h6 r8 97 122 (by decide : BL 97 97 97) (by decide : BL 122 122 122)) (fun r14 q14 => ?_)
  obtain ⟨b14, p14_0, pp14_0, pp14_1⟩ := q14
  refine ev_if_eq rfl rfl (fun c15 => False.elim (by have z0_ := congrArg Int32.toInt (rd_o k6 (rd_o k5 ef1 rfl) rfl); have z1_ := congrArg Int32.toInt (rd_o k6 (rd_o k5 ef2 rfl) rfl); have z2_ := congrArg Int32.toInt (rd_o k6 (rd_o k5 ef0 rfl) rfl); have z3_ := congrArg Int32.toInt (rd_s k6); have z4_ := congrArg Int32.toInt (rd_o k6 (rd_s k5) rfl); have z5_ := congrArg Int32.toInt c15; have z_ := w_lits; have zl_ := l_lits; omega)) (fun c15 => ?_)
  have b18 : B r14 1 1 := R_neL b14 (by decide : B 0 0 0) c15 (by decide)
  have b19 : B r8 97 122 := p14_0 c15
  have z20 := w_ne c15
  rw [show (0 : Int32).toInt = 0 from by decide] at z20
  refine ev_aload_n rfl rfl rfl ?_
  refine ev_getV (v := f0) rfl rfl fl_X10_191 rfl rfl rfl (rd_o k6 (rd_o k5 ef0 rfl) rfl) ?_
  refine ev_if_ne rfl rfl (fun c21 => absurd (D_eq q0 (by decide : B 0 0 0)) c21) (fun c21 => ?_)
  have z22 := congrArg Int32.toInt c21
  rw [show (0 : Int32).toInt = 0 from by decide] at z22
  refine ev_aload_n rfl rfl rfl ?_
  refine ev_aload_n rfl rfl rfl ?_
  refine ev_getV (v := f2) rfl rfl fl_X10_210 rfl rfl rfl (rd_o k6 (rd_o k5 ef2 rfl) rfl) ?_
  refine ev_V1P rfl rfl lk_X10_213 vt_X10_look rfl rfl rfl rfl rfl (w_X10_look_63 L b h6 hJ6.1 f2 bf2 t (rd_o k6 (rd_o k5 rt rfl) rfl)) (fun r23 q23 => ?_)
  obtain ⟨b23, pp23_0, pp23_1⟩ := q23
  refine ev_bipush (v := 97) rfl rfl (by decide) ?_
  have b24 : B r23 97 122 := ⟨(by have z0_ := congrArg Int32.toInt (rd_o k6 (rd_o k5 ef1 rfl) rfl); have z1_ := congrArg Int32.toInt (rd_o k6 (rd_o k5 ef2 rfl) rfl); have z2_ := congrArg Int32.toInt (rd_o k6 (rd_o k5 ef0 rfl) rfl); have z3_ := congrArg Int32.toInt (rd_s k6); have z4_ := congrArg Int32.toInt (rd_o k6 (rd_s k5) rfl); have z_ := w_lits; have zl_ := l_lits; omega), (by have z0_ := congrArg Int32.toInt (rd_o k6 (rd_o k5 ef1 rfl) rfl); have z1_ := congrArg Int32.toInt (rd_o k6 (rd_o k5 ef2 rfl) rfl); have z2_ := congrArg Int32.toInt (rd_o k6 (rd_o k5 ef0 rfl) rfl); have z3_ := congrArg Int32.toInt (rd_s k6); have z4_ := congrArg Int32.toInt (rd_o k6 (rd_s k5) rfl); have z_ := w_lits; have zl_ := l_lits; omega)⟩
  refine ev_isubB (l := 0) (u := 25) rfl rfl b24 (by decide : B 97 97 97) (by decide) (by decide) (by decide) (by decide) (fun v25 b25 e25 g25 => ?_)
  have e25x := e25; rw [show (97 : Int32).toInt = 97 from by decide] at e25x
  refine ev_istore_n rfl rfl rfl rfl ?_
  dsimp only [List.set]
  refine ev_iload_n rfl rfl rfl ?_
  refine ev_bipush (v := 11) rfl rfl (by decide) ?_
  refine ev_icmp_le rfl rfl (fun c26 => ?_) (fun c26 => ?_)
  · have b27 : B v25 0 11 := R_leX b25 (by decide : B 11 11 11) c26 (by decide)
    have b28 : B r23 97 108 := (R_bks (l' := 97) (u' := 108) e25 b27 (by decide : B 97 97 97) (by decide) (by decide))
    have z29 := w_le c26
    rw [show (11 : Int32).toInt = 11 from by decide] at z29
    refine ev_aload_n rfl rfl rfl ?_
    refine ev_getV (v := 0) rfl rfl fl_X10_207 rfl rfl rfl (rd_s k6) ?_
    refine ev_iload_n rfl rfl rfl ?_
    refine ev_ishr0 rfl rfl ?_
    refine ev_iconst (v := 1) rfl rfl (by decide) ?_
    refine ev_iand0 rfl rfl ?_
    refine ev_iconst (v := 1) rfl rfl (by decide) ?_
    refine ev_icmp_eq rfl rfl (fun c35 => absurd c35 (D_ne (by decide : B 0 0 0) (by decide : B 1 1 1) (by decide))) (fun c35 => ?_)
    have z36 := w_ne c35
    rw [show (0 : Int32).toInt = 0 from by decide] at z36
    rw [show (1 : Int32).toInt = 1 from by decide] at z36
    refine ev_aload_n rfl rfl rfl ?_
    refine ev_getV (v := 0) rfl rfl fl_X10_207 rfl rfl rfl (rd_s k6) ?_
    refine ev_S1P rfl rfl lk_X10_220 st_X10_bits rfl rfl (w_X10_bits L b h6 hJ6.1 0) (fun r37 q37 => ?_)
    refine ev_iconst (v := 5) rfl rfl (by decide) ?_
    refine ev_icmp_ne rfl rfl (fun c38 => ?_) (fun c38 => ?_)
    · have z39 := w_ne c38
      rw [show (5 : Int32).toInt = 5 from by decide] at z39
      refine ev_aload_n rfl rfl rfl ?_
      refine ev_dup rfl rfl rfl ?_
      refine ev_getV (v := 0) rfl rfl fl_X10_207 rfl rfl rfl (rd_s k6) ?_
      refine ev_iconst (v := 1) rfl rfl (by decide) ?_
      refine ev_iload_n rfl rfl rfl ?_
      refine ev_ishlB rfl rfl b27 (by decide) (by decide) (fun v42 b42 => ?_)
      refine ev_iorB 12 (u := 4095) rfl rfl (by decide : B 0 0 0) b42 (by decide) (by decide) (by decide) (by decide) (by decide) (by decide) (fun v43 b43 e43 => ?_)
      refine ev_putW (l := (-2147483648)) (u := 2147483647) hJ6 rfl b43 (by decide) (by decide) rfl rfl rfl fl_X10_207 rfl rfl rfl rfl rfl (fun h44 hJ44 k44 => ?_)
      refine ev_aload_n rfl rfl rfl ?_
      refine ev_dup rfl rfl rfl ?_
      refine ev_getV (v := f2) rfl rfl fl_X10_210 rfl rfl rfl (rd_o k44 (rd_o k6 (rd_o k5 ef2 rfl) rfl) rfl) ?_
      refine ev_iconst (v := 1) rfl rfl (by decide) ?_
      refine ev_iaddB (l := 1) (u := 161) rfl rfl bf2 (by decide : B 1 1 1) (by decide) (by decide) (by decide) (by decide) (fun v45 b45 e45 g45 => ?_)
      have e45x := e45; rw [show (1 : Int32).toInt = 1 from by decide] at e45x
      have b46 : B v45 0 160 := ⟨(by have z0_ := congrArg Int32.toInt (rd_o k44 (rd_o k6 (rd_o k5 ef1 rfl) rfl) rfl); have z1_ := congrArg Int32.toInt (rd_o k44 (rd_o k6 (rd_o k5 ef2 rfl) rfl) rfl); have z2_ := congrArg Int32.toInt (rd_o k44 (rd_o k6 (rd_o k5 ef0 rfl) rfl) rfl); have z3_ := congrArg Int32.toInt (rd_s k44); have z4_ := congrArg Int32.toInt (rd_o k44 (rd_o k6 (rd_s k5) rfl) rfl); have z_ := w_lits; have zl_ := l_lits; omega), (by have z0_ := congrArg Int32.toInt (rd_o k44 (rd_o k6 (rd_o k5 ef1 rfl) rfl) rfl); have z1_ := congrArg Int32.toInt (rd_o k44 (rd_o k6 (rd_o k5 ef2 rfl) rfl) rfl); have z2_ := congrArg Int32.toInt (rd_o k44 (rd_o k6 (rd_o k5 ef0 rfl) rfl) rfl); have z3_ := congrArg Int32.toInt (rd_s k44); have z4_ := congrArg Int32.toInt (rd_o k44 (rd_o k6 (rd_s k5) rfl) rfl); have z_ := w_lits; have zl_ := l_lits; omega)⟩
      refine ev_putW (l := 0) (u := 160) hJ44 rfl b46 (by decide) (by decide) rfl rfl rfl fl_X10_210 rfl rfl rfl rfl rfl (fun h47 hJ47 k47 => ?_)
      refine ev_goto rfl rfl ?_
      have lp10_335 : ∀ (n : Nat) (w336 : Int32) (h338 : Hp), B w336 0 25 → JW [(63, 17), (63, 19), (63, 20), (63, 21), (63, 22)] h h338 → (h338 63 16 = f1) → (h338 63 19 = 1) → (h338 72 (Int32.toNatClampNeg f2) = t) → ((h338 63 17).toInt ≤ (h338 63 16).toInt) → ((h 63 17).toInt + 1 ≤ (h338 63 17).toInt) → (0 ≤ (h338 63 20).toInt ∧ (h338 63 20).toInt ≤ 4095) → 160 + 1 - (h338 63 17).toInt ≤ (n : Int) → EvQ mi_X10_readChord 10 [some (.ref 63), some (.int w336)] [] (G0 L b) h338 0 0 (QK (fun z : Hp => ((z 63 17).toInt ≤ (z 63 16).toInt) ∧ ((h 63 17).toInt + 1 ≤ (z 63 17).toInt) ∧ ((z 63 19).toInt = 1) ∧ (0 ≤ (z 63 20).toInt ∧ (z 63 20).toInt ≤ 4095)) [(63, 17), (63, 19), (63, 20), (63, 21), (63, 22)] (G0 L b) h) := by
        intro n
        induction n with
        | zero =>
          intro w336 h338 b337 hJ339 z340 z341 z342 y10_0 y10_1 y10_2 hm10
          obtain ⟨f343, ef343⟩ : ∃ f_, h338 63 17 = f_ := ⟨_, rfl⟩
          have bf343 : B f343 0 160 := by
            have z_ := hJ339.1 63 17
            rw [ef343] at z_
            exact z_
          rw [ef343] at hm10
          exact absurd hm10 (L_zero bf343 (by decide))
        | succ n ih10 =>
          intro w336 h338 b337 hJ339 z340 z341 z342 y10_0 y10_1 y10_2 hm10
          obtain ⟨f343, ef343⟩ : ∃ f_, h338 63 17 = f_ := ⟨_, rfl⟩
          have bf343 : B f343 0 160 := by
            have z_ := hJ339.1 63 17
            rw [ef343] at z_
            exact z_
          rw [ef343] at hm10
          obtain ⟨f344, ef344⟩ : ∃ f_, h338 63 21 = f_ := ⟨_, rfl⟩
          have bf344 : B f344 0 6 := by have z_ := hJ339.1 63 21; rw [ef344] at z_; exact z_
          have zf344 := congrArg Int32.toInt ef344
          obtain ⟨f345, ef345⟩ : ∃ f_, h338 63 20 = f_ := ⟨_, rfl⟩
          have zf345 := congrArg Int32.toInt ef345
          have z346 := congrArg Int32.toInt z340
          have z347 := congrArg Int32.toInt ef343
          have z348 := congrArg Int32.toInt z341
          refine ev_aload_n rfl rfl rfl ?_
          refine ev_aload_n rfl rfl rfl ?_
          refine ev_getV (v := f343) rfl rfl fl_X10_210 rfl rfl rfl ef343 ?_
          obtain ⟨t349, et349⟩ : ∃ f_, h338 72 (Int32.toNatClampNeg f343) = f_ := ⟨_, rfl⟩
          have bt349 : B t349 0 255 := by have z_ := hJ339.1 72 (Int32.toNatClampNeg f343); rw [et349] at z_; exact z_
          refine ev_V1P rfl rfl lk_X10_213 vt_X10_look rfl rfl rfl rfl rfl (w_X10_look_63 L b h338 hJ339.1 f343 bf343 t349 et349) (fun r350 q350 => ?_)
          obtain ⟨b350, pp350_0, pp350_1⟩ := q350
          refine ev_i2l rfl rfl ?_
          have z351 := Int32.toInt_toInt64 r350
          have z351b := B.any r350
          refine ev_ldc2 (v := 97) rfl rfl kc_X10_216 ?_
          refine ev_ldc2 (v := 122) rfl rfl kc_X10_218 ?_
          refine ev_S3P rfl rfl lk_X10_124 st_X10_in rfl rfl (w_inR (G0 L b) h338 r350 97 122 (by decide : BL 97 97 97) (by decide : BL 122 122 122)) (fun r352 q352 => ?_)
          obtain ⟨b352, p352_0, pp352_0, pp352_1⟩ := q352
          refine ev_if_eq rfl rfl (fun c353 => ?_) (fun c353 => ?_)
          · have b354 : B r352 0 0 := R_eqX b352 (by decide : B 0 0 0) c353
            have z355 := congrArg Int32.toInt c353
            rw [show (0 : Int32).toInt = 0 from by decide] at z355
            exact ev_vret rfl rfl trivial ⟨rfl, rfl, hJ339, (by have z0_ := congrArg Int32.toInt z340; have z1_ := congrArg Int32.toInt ef343; have z_ := w_lits; have zl_ := l_lits; omega), (by have z0_ := congrArg Int32.toInt ef343; have z_ := w_lits; have zl_ := l_lits; omega), (by have z0_ := congrArg Int32.toInt z341; have z_ := w_lits; have zl_ := l_lits; omega), (by have z0_ := congrArg Int32.toInt ef345; have z_ := w_lits; have zl_ := l_lits; omega)⟩
          · have b356 : B r352 1 1 := R_neL b352 (by decide : B 0 0 0) c353 (by decide)
            have b357 : B r350 97 122 := p352_0 c353
            have z358 := w_ne c353
            rw [show (0 : Int32).toInt = 0 from by decide] at z358
            refine ev_aload_n rfl rfl rfl ?_
            refine ev_getV (v := f344) rfl rfl fl_X10_191 rfl rfl rfl ef344 ?_
            refine ev_if_ne rfl rfl (fun c359 => ?_) (fun c359 => ?_)
            · have b360 : B f344 1 6 := R_neL bf344 (by decide : B 0 0 0) c359 (by decide)
              have z361 := w_ne c359
              rw [show (0 : Int32).toInt = 0 from by decide] at z361
              exact ev_vret rfl rfl trivial ⟨rfl, rfl, hJ339, (by have z0_ := congrArg Int32.toInt z340; have z1_ := congrArg Int32.toInt ef343; have z_ := w_lits; have zl_ := l_lits; omega), (by have z0_ := congrArg Int32.toInt ef343; have z_ := w_lits; have zl_ := l_lits; omega), (by have z0_ := congrArg Int32.toInt z341; have z_ := w_lits; have zl_ := l_lits; omega), (by have z0_ := congrArg Int32.toInt ef345; have z_ := w_lits; have zl_ := l_lits; omega)⟩
            · have b362 : B f344 0 0 := R_eqX bf344 (by decide : B 0 0 0) c359
              have z363 := congrArg Int32.toInt c359
              rw [show (0 : Int32).toInt = 0 from by decide] at z363
              refine ev_aload_n rfl rfl rfl ?_
              refine ev_aload_n rfl rfl rfl ?_
              refine ev_getV (v := f343) rfl rfl fl_X10_210 rfl rfl rfl ef343 ?_
              refine ev_V1P rfl rfl lk_X10_213 vt_X10_look rfl rfl rfl rfl rfl (w_X10_look_63 L b h338 hJ339.1 f343 bf343 t349 et349) (fun r364 q364 => ?_)
              obtain ⟨b364, pp364_0, pp364_1⟩ := q364
              refine ev_bipush (v := 97) rfl rfl (by decide) ?_
              have b365 : B r364 97 122 := ⟨(by have z0_ := congrArg Int32.toInt z340; have z1_ := congrArg Int32.toInt ef343; have z2_ := congrArg Int32.toInt ef344; have z3_ := congrArg Int32.toInt ef345; have z4_ := congrArg Int32.toInt z341; have z_ := w_lits; have zl_ := l_lits; omega), (by have z0_ := congrArg Int32.toInt z340; have z1_ := congrArg Int32.toInt ef343; have z2_ := congrArg Int32.toInt ef344; have z3_ := congrArg Int32.toInt ef345; have z4_ := congrArg Int32.toInt z341; have z_ := w_lits; have zl_ := l_lits; omega)⟩
              refine ev_isubB (l := 0) (u := 25) rfl rfl b365 (by decide : B 97 97 97) (by decide) (by decide) (by decide) (by decide) (fun v366 b366 e366 g366 => ?_)
              have e366x := e366; rw [show (97 : Int32).toInt = 97 from by decide] at e366x
              refine ev_istore_n rfl rfl rfl rfl ?_
              dsimp only [List.set]
              refine ev_iload_n rfl rfl rfl ?_
              refine ev_bipush (v := 11) rfl rfl (by decide) ?_
              refine ev_icmp_le rfl rfl (fun c367 => ?_) (fun c367 => ?_)
              · have b368 : B v366 0 11 := R_leX b366 (by decide : B 11 11 11) c367 (by decide)
                have b369 : B r364 97 108 := (R_bks (l' := 97) (u' := 108) e366 b368 (by decide : B 97 97 97) (by decide) (by decide))
                have z370 := w_le c367
                rw [show (11 : Int32).toInt = 11 from by decide] at z370
                refine ev_aload_n rfl rfl rfl ?_
                refine ev_getV (v := f345) rfl rfl fl_X10_207 rfl rfl rfl ef345 ?_
                refine ev_iload_n rfl rfl rfl ?_
                refine ev_ishrA rfl rfl (fun v374 => ?_)
                refine ev_iconst (v := 1) rfl rfl (by decide) ?_
                refine ev_iandB rfl rfl (by decide : B 1 1 1) (by decide) (fun v375 b375 e375 => ?_)
                refine ev_iconst (v := 1) rfl rfl (by decide) ?_
                refine ev_icmp_eq rfl rfl (fun c376 => ?_) (fun c376 => ?_)
                · have b377 : B v375 1 1 := R_eqX b375 (by decide : B 1 1 1) c376
                  have z378 := congrArg Int32.toInt c376
                  rw [show (1 : Int32).toInt = 1 from by decide] at z378
                  refine ev_aload_n rfl rfl rfl ?_
                  refine ev_iconst (v := 4) rfl rfl (by decide) ?_
                  refine ev_aload_n rfl rfl rfl ?_
                  refine ev_getV (v := f343) rfl rfl fl_X10_210 rfl rfl rfl ef343 ?_
                  refine ev_V2K hJ339 rfl rfl rfl lk_X10_200 vt_X10_fails rfl rfl rfl rfl rfl (w_X10_fails_63 L b h338 hJ339.1 4 ((by decide : B 4 4 4).mono (by decide) (by decide)) f343) (fun h381 hJ381 k381 m381 => ?_)
                  obtain ⟨f382, ef382⟩ : ∃ f_, h381 63 21 = f_ := ⟨_, rfl⟩
                  have bf382 : B f382 0 6 := by have z_ := hJ381.1 63 21; rw [ef382] at z_; exact z_
                  have zf382 := congrArg Int32.toInt ef382
                  refine ev_goto rfl rfl ?_
                  refine ev_aload_n rfl rfl rfl ?_
                  refine ev_dup rfl rfl rfl ?_
                  refine ev_getV (v := f343) rfl rfl fl_X10_210 rfl rfl rfl (rd_w k381 ef343 rfl) ?_
                  refine ev_iconst (v := 1) rfl rfl (by decide) ?_
                  refine ev_iaddB (l := 1) (u := 161) rfl rfl bf343 (by decide : B 1 1 1) (by decide) (by decide) (by decide) (by decide) (fun v383 b383 e383 g383 => ?_)
                  have e383x := e383; rw [show (1 : Int32).toInt = 1 from by decide] at e383x
                  have b384 : B v383 0 160 := ⟨(by have z0_ := congrArg Int32.toInt (rd_w k381 z340 rfl); have z1_ := congrArg Int32.toInt (rd_w k381 ef343 rfl); have z2_ := congrArg Int32.toInt ef382; have z3_ := congrArg Int32.toInt (rd_w k381 ef345 rfl); have z4_ := congrArg Int32.toInt (rd_w k381 z341 rfl); have z_ := w_lits; have zl_ := l_lits; omega), (by have z0_ := congrArg Int32.toInt (rd_w k381 z340 rfl); have z1_ := congrArg Int32.toInt (rd_w k381 ef343 rfl); have z2_ := congrArg Int32.toInt ef382; have z3_ := congrArg Int32.toInt (rd_w k381 ef345 rfl); have z4_ := congrArg Int32.toInt (rd_w k381 z341 rfl); have z_ := w_lits; have zl_ := l_lits; omega)⟩
                  refine ev_putW (l := 0) (u := 160) hJ381 rfl b384 (by decide) (by decide) rfl rfl rfl fl_X10_210 rfl rfl rfl rfl rfl (fun h385 hJ385 k385 => ?_)
                  refine ev_goto rfl rfl ?_
                  exact (ih10 v366 h385 (b368.mono (by decide) (by decide)) hJ385 (rd_o k385 (rd_w k381 z340 rfl) rfl) (rd_o k385 (rd_w k381 z341 rfl) rfl) (rd_o k385 (rd_w k381 z342 rfl) rfl) (by have z0_ := congrArg Int32.toInt (rd_o k385 (rd_w k381 z340 rfl) rfl); have z1_ := congrArg Int32.toInt (rd_s k385); have z_ := w_lits; have zl_ := l_lits; omega) (by have z0_ := congrArg Int32.toInt (rd_s k385); have z_ := w_lits; have zl_ := l_lits; omega) (by have z0_ := congrArg Int32.toInt (rd_o k385 (rd_w k381 ef345 rfl) rfl); have z_ := w_lits; have zl_ := l_lits; omega) (by rw [(rd_s k385)]; exact L_up hm10 (e_p1 e383 (by decide))))
                · have b379 : B v375 0 0 := R_neU b375 (by decide : B 1 1 1) c376 (by decide)
                  have z380 := w_ne c376
                  rw [show (1 : Int32).toInt = 1 from by decide] at z380
                  refine ev_aload_n rfl rfl rfl ?_
                  refine ev_getV (v := f345) rfl rfl fl_X10_207 rfl rfl rfl ef345 ?_
                  refine ev_S1P rfl rfl lk_X10_220 st_X10_bits rfl rfl (w_X10_bits L b h338 hJ339.1 f345) (fun r386 q386 => ?_)
                  refine ev_iconst (v := 5) rfl rfl (by decide) ?_
                  refine ev_icmp_ne rfl rfl (fun c387 => ?_) (fun c387 => ?_)
                  · have z388 := w_ne c387
                    rw [show (5 : Int32).toInt = 5 from by decide] at z388
                    refine ev_aload_n rfl rfl rfl ?_
                    refine ev_dup rfl rfl rfl ?_
                    refine ev_getV (v := f345) rfl rfl fl_X10_207 rfl rfl rfl ef345 ?_
                    refine ev_iconst (v := 1) rfl rfl (by decide) ?_
                    refine ev_iload_n rfl rfl rfl ?_
                    refine ev_ishlB rfl rfl b368 (by decide) (by decide) (fun v391 b391 => ?_)
                    have b392 : B f345 0 4095 := ⟨(by have z0_ := congrArg Int32.toInt z340; have z1_ := congrArg Int32.toInt ef343; have z2_ := congrArg Int32.toInt ef344; have z3_ := congrArg Int32.toInt ef345; have z4_ := congrArg Int32.toInt z341; have z_ := w_lits; have zl_ := l_lits; omega), (by have z0_ := congrArg Int32.toInt z340; have z1_ := congrArg Int32.toInt ef343; have z2_ := congrArg Int32.toInt ef344; have z3_ := congrArg Int32.toInt ef345; have z4_ := congrArg Int32.toInt z341; have z_ := w_lits; have zl_ := l_lits; omega)⟩
                    refine ev_iorB 12 (u := 4095) rfl rfl b392 b391 (by decide) (by decide) (by decide) (by decide) (by decide) (by decide) (fun v393 b393 e393 => ?_)
                    refine ev_putW (l := (-2147483648)) (u := 2147483647) hJ339 rfl b393 (by decide) (by decide) rfl rfl rfl fl_X10_207 rfl rfl rfl rfl rfl (fun h394 hJ394 k394 => ?_)
                    refine ev_aload_n rfl rfl rfl ?_
                    refine ev_dup rfl rfl rfl ?_
                    refine ev_getV (v := f343) rfl rfl fl_X10_210 rfl rfl rfl (rd_o k394 ef343 rfl) ?_
                    refine ev_iconst (v := 1) rfl rfl (by decide) ?_
                    refine ev_iaddB (l := 1) (u := 161) rfl rfl bf343 (by decide : B 1 1 1) (by decide) (by decide) (by decide) (by decide) (fun v395 b395 e395 g395 => ?_)
                    have e395x := e395; rw [show (1 : Int32).toInt = 1 from by decide] at e395x
                    have b396 : B v395 0 160 := ⟨(by have z0_ := congrArg Int32.toInt (rd_o k394 z340 rfl); have z1_ := congrArg Int32.toInt (rd_o k394 ef343 rfl); have z2_ := congrArg Int32.toInt (rd_o k394 ef344 rfl); have z3_ := congrArg Int32.toInt (rd_s k394); have z4_ := congrArg Int32.toInt (rd_o k394 z341 rfl); have z_ := w_lits; have zl_ := l_lits; omega), (by have z0_ := congrArg Int32.toInt (rd_o k394 z340 rfl); have z1_ := congrArg Int32.toInt (rd_o k394 ef343 rfl); have z2_ := congrArg Int32.toInt (rd_o k394 ef344 rfl); have z3_ := congrArg Int32.toInt (rd_s k394); have z4_ := congrArg Int32.toInt (rd_o k394 z341 rfl); have z_ := w_lits; have zl_ := l_lits; omega)⟩
                    refine ev_putW (l := 0) (u := 160) hJ394 rfl b396 (by decide) (by decide) rfl rfl rfl fl_X10_210 rfl rfl rfl rfl rfl (fun h397 hJ397 k397 => ?_)
                    refine ev_goto rfl rfl ?_
                    exact (ih10 v366 h397 (b368.mono (by decide) (by decide)) hJ397 (rd_o k397 (rd_o k394 z340 rfl) rfl) (rd_o k397 (rd_o k394 z341 rfl) rfl) (rd_o k397 (rd_o k394 z342 rfl) rfl) (by have z0_ := congrArg Int32.toInt (rd_o k397 (rd_o k394 z340 rfl) rfl); have z1_ := congrArg Int32.toInt (rd_s k397); have z_ := w_lits; have zl_ := l_lits; omega) (by have z0_ := congrArg Int32.toInt (rd_s k397); have z_ := w_lits; have zl_ := l_lits; omega) (by have z0_ := congrArg Int32.toInt (rd_o k397 (rd_s k394) rfl); have z_ := w_lits; have zl_ := l_lits; omega) (by rw [(rd_s k397)]; exact L_up hm10 (e_p1 e395 (by decide))))
                  · have b389 : B r386 5 5 := R_eqX (B.any r386) (by decide : B 5 5 5) c387
                    have z390 := congrArg Int32.toInt c387
                    rw [show (5 : Int32).toInt = 5 from by decide] at z390
                    refine ev_aload_n rfl rfl rfl ?_
                    refine ev_iconst (v := 4) rfl rfl (by decide) ?_
                    refine ev_aload_n rfl rfl rfl ?_
                    refine ev_getV (v := f343) rfl rfl fl_X10_210 rfl rfl rfl ef343 ?_
                    refine ev_V2K hJ339 rfl rfl rfl lk_X10_200 vt_X10_fails rfl rfl rfl rfl rfl (w_X10_fails_63 L b h338 hJ339.1 4 ((by decide : B 4 4 4).mono (by decide) (by decide)) f343) (fun h398 hJ398 k398 m398 => ?_)
                    obtain ⟨f399, ef399⟩ : ∃ f_, h398 63 21 = f_ := ⟨_, rfl⟩
                    have bf399 : B f399 0 6 := by have z_ := hJ398.1 63 21; rw [ef399] at z_; exact z_
                    have zf399 := congrArg Int32.toInt ef399
                    refine ev_goto rfl rfl ?_
                    refine ev_aload_n rfl rfl rfl ?_
                    refine ev_dup rfl rfl rfl ?_
                    refine ev_getV (v := f343) rfl rfl fl_X10_210 rfl rfl rfl (rd_w k398 ef343 rfl) ?_
                    refine ev_iconst (v := 1) rfl rfl (by decide) ?_
                    refine ev_iaddB (l := 1) (u := 161) rfl rfl bf343 (by decide : B 1 1 1) (by decide) (by decide) (by decide) (by decide) (fun v400 b400 e400 g400 => ?_)
                    have e400x := e400; rw [show (1 : Int32).toInt = 1 from by decide] at e400x
                    have b401 : B v400 0 160 := ⟨(by have z0_ := congrArg Int32.toInt (rd_w k398 z340 rfl); have z1_ := congrArg Int32.toInt (rd_w k398 ef343 rfl); have z2_ := congrArg Int32.toInt ef399; have z3_ := congrArg Int32.toInt (rd_w k398 ef345 rfl); have z4_ := congrArg Int32.toInt (rd_w k398 z341 rfl); have z_ := w_lits; have zl_ := l_lits; omega), (by have z0_ := congrArg Int32.toInt (rd_w k398 z340 rfl); have z1_ := congrArg Int32.toInt (rd_w k398 ef343 rfl); have z2_ := congrArg Int32.toInt ef399; have z3_ := congrArg Int32.toInt (rd_w k398 ef345 rfl); have z4_ := congrArg Int32.toInt (rd_w k398 z341 rfl); have z_ := w_lits; have zl_ := l_lits; omega)⟩
                    refine ev_putW (l := 0) (u := 160) hJ398 rfl b401 (by decide) (by decide) rfl rfl rfl fl_X10_210 rfl rfl rfl rfl rfl (fun h402 hJ402 k402 => ?_)
                    refine ev_goto rfl rfl ?_
                    exact (ih10 v366 h402 (b368.mono (by decide) (by decide)) hJ402 (rd_o k402 (rd_w k398 z340 rfl) rfl) (rd_o k402 (rd_w k398 z341 rfl) rfl) (rd_o k402 (rd_w k398 z342 rfl) rfl) (by have z0_ := congrArg Int32.toInt (rd_o k402 (rd_w k398 z340 rfl) rfl); have z1_ := congrArg Int32.toInt (rd_s k402); have z_ := w_lits; have zl_ := l_lits; omega) (by have z0_ := congrArg Int32.toInt (rd_s k402); have z_ := w_lits; have zl_ := l_lits; omega) (by have z0_ := congrArg Int32.toInt (rd_o k402 (rd_w k398 ef345 rfl) rfl); have z_ := w_lits; have zl_ := l_lits; omega) (by rw [(rd_s k402)]; exact L_up hm10 (e_p1 e400 (by decide))))
              · have b371 : B v366 12 25 := R_ltY (by decide : B 11 11 11) b366 (Int32.not_le.mp c367) (by decide)
                have b372 : B r364 109 122 := (R_bks (l' := 109) (u' := 122) e366 b371 (by decide : B 97 97 97) (by decide) (by decide))
                have z373 := w_lt (Int32.not_le.mp c367)
                rw [show (11 : Int32).toInt = 11 from by decide] at z373
                refine ev_aload_n rfl rfl rfl ?_
                refine ev_iconst (v := 1) rfl rfl (by decide) ?_
                refine ev_aload_n rfl rfl rfl ?_
                refine ev_getV (v := f343) rfl rfl fl_X10_210 rfl rfl rfl ef343 ?_
                refine ev_V2K hJ339 rfl rfl rfl lk_X10_200 vt_X10_fails rfl rfl rfl rfl rfl (w_X10_fails_63 L b h338 hJ339.1 1 ((by decide : B 1 1 1).mono (by decide) (by decide)) f343) (fun h403 hJ403 k403 m403 => ?_)
                obtain ⟨f404, ef404⟩ : ∃ f_, h403 63 21 = f_ := ⟨_, rfl⟩
                have bf404 : B f404 0 6 := by have z_ := hJ403.1 63 21; rw [ef404] at z_; exact z_
                have zf404 := congrArg Int32.toInt ef404
                refine ev_goto rfl rfl ?_
                refine ev_aload_n rfl rfl rfl ?_
                refine ev_dup rfl rfl rfl ?_
                refine ev_getV (v := f343) rfl rfl fl_X10_210 rfl rfl rfl (rd_w k403 ef343 rfl) ?_
                refine ev_iconst (v := 1) rfl rfl (by decide) ?_
                refine ev_iaddB (l := 1) (u := 161) rfl rfl bf343 (by decide : B 1 1 1) (by decide) (by decide) (by decide) (by decide) (fun v405 b405 e405 g405 => ?_)
                have e405x := e405; rw [show (1 : Int32).toInt = 1 from by decide] at e405x
                have b406 : B v405 0 160 := ⟨(by have z0_ := congrArg Int32.toInt (rd_w k403 z340 rfl); have z1_ := congrArg Int32.toInt (rd_w k403 ef343 rfl); have z2_ := congrArg Int32.toInt ef404; have z3_ := congrArg Int32.toInt (rd_w k403 ef345 rfl); have z4_ := congrArg Int32.toInt (rd_w k403 z341 rfl); have z_ := w_lits; have zl_ := l_lits; omega), (by have z0_ := congrArg Int32.toInt (rd_w k403 z340 rfl); have z1_ := congrArg Int32.toInt (rd_w k403 ef343 rfl); have z2_ := congrArg Int32.toInt ef404; have z3_ := congrArg Int32.toInt (rd_w k403 ef345 rfl); have z4_ := congrArg Int32.toInt (rd_w k403 z341 rfl); have z_ := w_lits; have zl_ := l_lits; omega)⟩
                refine ev_putW (l := 0) (u := 160) hJ403 rfl b406 (by decide) (by decide) rfl rfl rfl fl_X10_210 rfl rfl rfl rfl rfl (fun h407 hJ407 k407 => ?_)
                refine ev_goto rfl rfl ?_
                exact (ih10 v366 h407 (b371.mono (by decide) (by decide)) hJ407 (rd_o k407 (rd_w k403 z340 rfl) rfl) (rd_o k407 (rd_w k403 z341 rfl) rfl) (rd_o k407 (rd_w k403 z342 rfl) rfl) (by have z0_ := congrArg Int32.toInt (rd_o k407 (rd_w k403 z340 rfl) rfl); have z1_ := congrArg Int32.toInt (rd_s k407); have z_ := w_lits; have zl_ := l_lits; omega) (by have z0_ := congrArg Int32.toInt (rd_s k407); have z_ := w_lits; have zl_ := l_lits; omega) (by have z0_ := congrArg Int32.toInt (rd_o k407 (rd_w k403 ef345 rfl) rfl); have z_ := w_lits; have zl_ := l_lits; omega) (by rw [(rd_s k407)]; exact L_up hm10 (e_p1 e405 (by decide))))
      exact (lp10_335 161 v25 h47 (b27.mono (by decide) (by decide)) hJ47 (rd_o k47 (rd_o k44 (rd_o k6 (rd_o k5 ef1 rfl) rfl) rfl) rfl) (rd_o k47 (rd_o k44 (rd_o k6 (rd_s k5) rfl) rfl) rfl) (rd_o k47 (rd_o k44 (rd_o k6 (rd_o k5 rt rfl) rfl) rfl) rfl) (by have z0_ := congrArg Int32.toInt (rd_o k47 (rd_o k44 (rd_o k6 (rd_o k5 ef1 rfl) rfl) rfl) rfl); have z1_ := congrArg Int32.toInt (rd_s k47); have z_ := w_lits; have zl_ := l_lits; omega) (by have z0_ := congrArg Int32.toInt (rd_s k47); have z_ := w_lits; have zl_ := l_lits; omega) (by have z0_ := congrArg Int32.toInt (rd_o k47 (rd_s k44) rfl); have z_ := w_lits; have zl_ := l_lits; omega) (by rw [(rd_s k47)]; exact L_init b46 (by decide)))
    · have b40 : B r37 5 5 := R_eqX (B.any r37) (by decide : B 5 5 5) c38
      have z41 := congrArg Int32.toInt c38
      rw [show (5 : Int32).toInt = 5 from by decide] at z41
      refine ev_aload_n rfl rfl rfl ?_
      refine ev_iconst (v := 4) rfl rfl (by decide) ?_
      refine ev_aload_n rfl rfl rfl ?_
      refine ev_getV (v := f2) rfl rfl fl_X10_210 rfl rfl rfl (rd_o k6 (rd_o k5 ef2 rfl) rfl) ?_
      refine ev_V2K hJ6 rfl rfl rfl lk_X10_200 vt_X10_fails rfl rfl rfl rfl rfl (w_X10_fails_63 L b h6 hJ6.1 4 ((by decide : B 4 4 4).mono (by decide) (by decide)) f2) (fun h408 hJ408 k408 m408 => ?_)
      obtain ⟨f409, ef409⟩ : ∃ f_, h408 63 21 = f_ := ⟨_, rfl⟩
      have bf409 : B f409 0 6 := by have z_ := hJ408.1 63 21; rw [ef409] at z_; exact z_
      have zf409 := congrArg Int32.toInt ef409
      refine ev_goto rfl rfl ?_
      refine ev_aload_n rfl rfl rfl ?_
      refine ev_dup rfl rfl rfl ?_
      refine ev_getV (v := f2) rfl rfl fl_X10_210 rfl rfl rfl (rd_w k408 (rd_o k6 (rd_o k5 ef2 rfl) rfl) rfl) ?_
      refine ev_iconst (v := 1) rfl rfl (by decide) ?_
      refine ev_iaddB (l := 1) (u := 161) rfl rfl bf2 (by decide : B 1 1 1) (by decide) (by decide) (by decide) (by decide) (fun v410 b410 e410 g410 => ?_)
      have e410x := e410; rw [show (1 : Int32).toInt = 1 from by decide] at e410x
      have b411 : B v410 0 160 := ⟨(by have z0_ := congrArg Int32.toInt (rd_w k408 (rd_o k6 (rd_o k5 ef1 rfl) rfl) rfl); have z1_ := congrArg Int32.toInt (rd_w k408 (rd_o k6 (rd_o k5 ef2 rfl) rfl) rfl); have z2_ := congrArg Int32.toInt ef409; have z3_ := congrArg Int32.toInt (rd_w k408 (rd_s k6) rfl); have z4_ := congrArg Int32.toInt (rd_w k408 (rd_o k6 (rd_s k5) rfl) rfl); have z_ := w_lits; have zl_ := l_lits; omega), (by have z0_ := congrArg Int32.toInt (rd_w k408 (rd_o k6 (rd_o k5 ef1 rfl) rfl) rfl); have z1_ := congrArg Int32.toInt (rd_w k408 (rd_o k6 (rd_o k5 ef2 rfl) rfl) rfl); have z2_ := congrArg Int32.toInt ef409; have z3_ := congrArg Int32.toInt (rd_w k408 (rd_s k6) rfl); have z4_ := congrArg Int32.toInt (rd_w k408 (rd_o k6 (rd_s k5) rfl) rfl); have z_ := w_lits; have zl_ := l_lits; omega)⟩
      refine ev_putW (l := 0) (u := 160) hJ408 rfl b411 (by decide) (by decide) rfl rfl rfl fl_X10_210 rfl rfl rfl rfl rfl (fun h412 hJ412 k412 => ?_)
      refine ev_goto rfl rfl ?_
      have lp10_700 : ∀ (n : Nat) (w701 : Int32) (h703 : Hp), B w701 0 25 → JW [(63, 17), (63, 19), (63, 20), (63, 21), (63, 22)] h h703 → (h703 63 16 = f1) → (h703 63 19 = 1) → (h703 72 (Int32.toNatClampNeg f2) = t) → ((h703 63 17).toInt ≤ (h703 63 16).toInt) → ((h 63 17).toInt + 1 ≤ (h703 63 17).toInt) → (0 ≤ (h703 63 20).toInt ∧ (h703 63 20).toInt ≤ 4095) → 160 + 1 - (h703 63 17).toInt ≤ (n : Int) → EvQ mi_X10_readChord 10 [some (.ref 63), some (.int w701)] [] (G0 L b) h703 0 0 (QK (fun z : Hp => ((z 63 17).toInt ≤ (z 63 16).toInt) ∧ ((h 63 17).toInt + 1 ≤ (z 63 17).toInt) ∧ ((z 63 19).toInt = 1) ∧ (0 ≤ (z 63 20).toInt ∧ (z 63 20).toInt ≤ 4095)) [(63, 17), (63, 19), (63, 20), (63, 21), (63, 22)] (G0 L b) h) := by
        intro n
        induction n with
        | zero =>
          intro w701 h703 b702 hJ704 z705 z706 z707 y10_0 y10_1 y10_2 hm10
          obtain ⟨f708, ef708⟩ : ∃ f_, h703 63 17 = f_ := ⟨_, rfl⟩
          have bf708 : B f708 0 160 := by
            have z_ := hJ704.1 63 17
            rw [ef708] at z_
            exact z_
          rw [ef708] at hm10
          exact absurd hm10 (L_zero bf708 (by decide))
        | succ n ih10 =>
          intro w701 h703 b702 hJ704 z705 z706 z707 y10_0 y10_1 y10_2 hm10
          obtain ⟨f708, ef708⟩ : ∃ f_, h703 63 17 = f_ := ⟨_, rfl⟩
          have bf708 : B f708 0 160 := by
            have z_ := hJ704.1 63 17
            rw [ef708] at z_
            exact z_
          rw [ef708] at hm10
          obtain ⟨f709, ef709⟩ : ∃ f_, h703 63 21 = f_ := ⟨_, rfl⟩
          have bf709 : B f709 0 6 := by have z_ := hJ704.1 63 21; rw [ef709] at z_; exact z_
          have zf709 := congrArg Int32.toInt ef709
          obtain ⟨f710, ef710⟩ : ∃ f_, h703 63 20 = f_ := ⟨_, rfl⟩
          have zf710 := congrArg Int32.toInt ef710
          have z711 := congrArg Int32.toInt z705
          have z712 := congrArg Int32.toInt ef708
          have z713 := congrArg Int32.toInt z706
          refine ev_aload_n rfl rfl rfl ?_
          refine ev_aload_n rfl rfl rfl ?_
          refine ev_getV (v := f708) rfl rfl fl_X10_210 rfl rfl rfl ef708 ?_
          obtain ⟨t714, et714⟩ : ∃ f_, h703 72 (Int32.toNatClampNeg f708) = f_ := ⟨_, rfl⟩
          have bt714 : B t714 0 255 := by have z_ := hJ704.1 72 (Int32.toNatClampNeg f708); rw [et714] at z_; exact z_
          refine ev_V1P rfl rfl lk_X10_213 vt_X10_look rfl rfl rfl rfl rfl (w_X10_look_63 L b h703 hJ704.1 f708 bf708 t714 et714) (fun r715 q715 => ?_)
          obtain ⟨b715, pp715_0, pp715_1⟩ := q715
          refine ev_i2l rfl rfl ?_
          have z716 := Int32.toInt_toInt64 r715
          have z716b := B.any r715
          refine ev_ldc2 (v := 97) rfl rfl kc_X10_216 ?_
          refine ev_ldc2 (v := 122) rfl rfl kc_X10_218 ?_
          refine ev_S3P rfl rfl lk_X10_124 st_X10_in rfl rfl (w_inR (G0 L b) h703 r715 97 122 (by decide : BL 97 97 97) (by decide : BL 122 122 122)) (fun r717 q717 => ?_)
          obtain ⟨b717, p717_0, pp717_0, pp717_1⟩ := q717
          refine ev_if_eq rfl rfl (fun c718 => ?_) (fun c718 => ?_)
          · have b719 : B r717 0 0 := R_eqX b717 (by decide : B 0 0 0) c718
            have z720 := congrArg Int32.toInt c718
            rw [show (0 : Int32).toInt = 0 from by decide] at z720
            exact ev_vret rfl rfl trivial ⟨rfl, rfl, hJ704, (by have z0_ := congrArg Int32.toInt z705; have z1_ := congrArg Int32.toInt ef708; have z_ := w_lits; have zl_ := l_lits; omega), (by have z0_ := congrArg Int32.toInt ef708; have z_ := w_lits; have zl_ := l_lits; omega), (by have z0_ := congrArg Int32.toInt z706; have z_ := w_lits; have zl_ := l_lits; omega), (by have z0_ := congrArg Int32.toInt ef710; have z_ := w_lits; have zl_ := l_lits; omega)⟩
          · have b721 : B r717 1 1 := R_neL b717 (by decide : B 0 0 0) c718 (by decide)
            have b722 : B r715 97 122 := p717_0 c718
            have z723 := w_ne c718
            rw [show (0 : Int32).toInt = 0 from by decide] at z723
            refine ev_aload_n rfl rfl rfl ?_
            refine ev_getV (v := f709) rfl rfl fl_X10_191 rfl rfl rfl ef709 ?_
            refine ev_if_ne rfl rfl (fun c724 => ?_) (fun c724 => ?_)
            · have b725 : B f709 1 6 := R_neL bf709 (by decide : B 0 0 0) c724 (by decide)
              have z726 := w_ne c724
              rw [show (0 : Int32).toInt = 0 from by decide] at z726
              exact ev_vret rfl rfl trivial ⟨rfl, rfl, hJ704, (by have z0_ := congrArg Int32.toInt z705; have z1_ := congrArg Int32.toInt ef708; have z_ := w_lits; have zl_ := l_lits; omega), (by have z0_ := congrArg Int32.toInt ef708; have z_ := w_lits; have zl_ := l_lits; omega), (by have z0_ := congrArg Int32.toInt z706; have z_ := w_lits; have zl_ := l_lits; omega), (by have z0_ := congrArg Int32.toInt ef710; have z_ := w_lits; have zl_ := l_lits; omega)⟩
            · have b727 : B f709 0 0 := R_eqX bf709 (by decide : B 0 0 0) c724
              have z728 := congrArg Int32.toInt c724
              rw [show (0 : Int32).toInt = 0 from by decide] at z728
              refine ev_aload_n rfl rfl rfl ?_
              refine ev_aload_n rfl rfl rfl ?_
              refine ev_getV (v := f708) rfl rfl fl_X10_210 rfl rfl rfl ef708 ?_
              refine ev_V1P rfl rfl lk_X10_213 vt_X10_look rfl rfl rfl rfl rfl (w_X10_look_63 L b h703 hJ704.1 f708 bf708 t714 et714) (fun r729 q729 => ?_)
              obtain ⟨b729, pp729_0, pp729_1⟩ := q729
              refine ev_bipush (v := 97) rfl rfl (by decide) ?_
              have b730 : B r729 97 122 := ⟨(by have z0_ := congrArg Int32.toInt z705; have z1_ := congrArg Int32.toInt ef708; have z2_ := congrArg Int32.toInt ef709; have z3_ := congrArg Int32.toInt ef710; have z4_ := congrArg Int32.toInt z706; have z_ := w_lits; have zl_ := l_lits; omega), (by have z0_ := congrArg Int32.toInt z705; have z1_ := congrArg Int32.toInt ef708; have z2_ := congrArg Int32.toInt ef709; have z3_ := congrArg Int32.toInt ef710; have z4_ := congrArg Int32.toInt z706; have z_ := w_lits; have zl_ := l_lits; omega)⟩
              refine ev_isubB (l := 0) (u := 25) rfl rfl b730 (by decide : B 97 97 97) (by decide) (by decide) (by decide) (by decide) (fun v731 b731 e731 g731 => ?_)
              have e731x := e731; rw [show (97 : Int32).toInt = 97 from by decide] at e731x
              refine ev_istore_n rfl rfl rfl rfl ?_
              dsimp only [List.set]
              refine ev_iload_n rfl rfl rfl ?_
              refine ev_bipush (v := 11) rfl rfl (by decide) ?_
              refine ev_icmp_le rfl rfl (fun c732 => ?_) (fun c732 => ?_)
              · have b733 : B v731 0 11 := R_leX b731 (by decide : B 11 11 11) c732 (by decide)
                have b734 : B r729 97 108 := (R_bks (l' := 97) (u' := 108) e731 b733 (by decide : B 97 97 97) (by decide) (by decide))
                have z735 := w_le c732
                rw [show (11 : Int32).toInt = 11 from by decide] at z735
                refine ev_aload_n rfl rfl rfl ?_
                refine ev_getV (v := f710) rfl rfl fl_X10_207 rfl rfl rfl ef710 ?_
                refine ev_iload_n rfl rfl rfl ?_
                refine ev_ishrA rfl rfl (fun v739 => ?_)
                refine ev_iconst (v := 1) rfl rfl (by decide) ?_
                refine ev_iandB rfl rfl (by decide : B 1 1 1) (by decide) (fun v740 b740 e740 => ?_)
                refine ev_iconst (v := 1) rfl rfl (by decide) ?_
                refine ev_icmp_eq rfl rfl (fun c741 => ?_) (fun c741 => ?_)
                · have b742 : B v740 1 1 := R_eqX b740 (by decide : B 1 1 1) c741
                  have z743 := congrArg Int32.toInt c741
                  rw [show (1 : Int32).toInt = 1 from by decide] at z743
                  refine ev_aload_n rfl rfl rfl ?_
                  refine ev_iconst (v := 4) rfl rfl (by decide) ?_
                  refine ev_aload_n rfl rfl rfl ?_
                  refine ev_getV (v := f708) rfl rfl fl_X10_210 rfl rfl rfl ef708 ?_
                  refine ev_V2K hJ704 rfl rfl rfl lk_X10_200 vt_X10_fails rfl rfl rfl rfl rfl (w_X10_fails_63 L b h703 hJ704.1 4 ((by decide : B 4 4 4).mono (by decide) (by decide)) f708) (fun h746 hJ746 k746 m746 => ?_)
                  obtain ⟨f747, ef747⟩ : ∃ f_, h746 63 21 = f_ := ⟨_, rfl⟩
                  have bf747 : B f747 0 6 := by have z_ := hJ746.1 63 21; rw [ef747] at z_; exact z_
                  have zf747 := congrArg Int32.toInt ef747
                  refine ev_goto rfl rfl ?_
                  refine ev_aload_n rfl rfl rfl ?_
                  refine ev_dup rfl rfl rfl ?_
                  refine ev_getV (v := f708) rfl rfl fl_X10_210 rfl rfl rfl (rd_w k746 ef708 rfl) ?_
                  refine ev_iconst (v := 1) rfl rfl (by decide) ?_
                  refine ev_iaddB (l := 1) (u := 161) rfl rfl bf708 (by decide : B 1 1 1) (by decide) (by decide) (by decide) (by decide) (fun v748 b748 e748 g748 => ?_)
                  have e748x := e748; rw [show (1 : Int32).toInt = 1 from by decide] at e748x
                  have b749 : B v748 0 160 := ⟨(by have z0_ := congrArg Int32.toInt (rd_w k746 z705 rfl); have z1_ := congrArg Int32.toInt (rd_w k746 ef708 rfl); have z2_ := congrArg Int32.toInt ef747; have z3_ := congrArg Int32.toInt (rd_w k746 ef710 rfl); have z4_ := congrArg Int32.toInt (rd_w k746 z706 rfl); have z_ := w_lits; have zl_ := l_lits; omega), (by have z0_ := congrArg Int32.toInt (rd_w k746 z705 rfl); have z1_ := congrArg Int32.toInt (rd_w k746 ef708 rfl); have z2_ := congrArg Int32.toInt ef747; have z3_ := congrArg Int32.toInt (rd_w k746 ef710 rfl); have z4_ := congrArg Int32.toInt (rd_w k746 z706 rfl); have z_ := w_lits; have zl_ := l_lits; omega)⟩
                  refine ev_putW (l := 0) (u := 160) hJ746 rfl b749 (by decide) (by decide) rfl rfl rfl fl_X10_210 rfl rfl rfl rfl rfl (fun h750 hJ750 k750 => ?_)
                  refine ev_goto rfl rfl ?_
                  exact (ih10 v731 h750 (b733.mono (by decide) (by decide)) hJ750 (rd_o k750 (rd_w k746 z705 rfl) rfl) (rd_o k750 (rd_w k746 z706 rfl) rfl) (rd_o k750 (rd_w k746 z707 rfl) rfl) (by have z0_ := congrArg Int32.toInt (rd_o k750 (rd_w k746 z705 rfl) rfl); have z1_ := congrArg Int32.toInt (rd_s k750); have z_ := w_lits; have zl_ := l_lits; omega) (by have z0_ := congrArg Int32.toInt (rd_s k750); have z_ := w_lits; have zl_ := l_lits; omega) (by have z0_ := congrArg Int32.toInt (rd_o k750 (rd_w k746 ef710 rfl) rfl); have z_ := w_lits; have zl_ := l_lits; omega) (by rw [(rd_s k750)]; exact L_up hm10 (e_p1 e748 (by decide))))
                · have b744 : B v740 0 0 := R_neU b740 (by decide : B 1 1 1) c741 (by decide)
                  have z745 := w_ne c741
                  rw [show (1 : Int32).toInt = 1 from by decide] at z745
                  refine ev_aload_n rfl rfl rfl ?_
                  refine ev_getV (v := f710) rfl rfl fl_X10_207 rfl rfl rfl ef710 ?_
                  refine ev_S1P rfl rfl lk_X10_220 st_X10_bits rfl rfl (w_X10_bits L b h703 hJ704.1 f710) (fun r751 q751 => ?_)
                  refine ev_iconst (v := 5) rfl rfl (by decide) ?_
                  refine ev_icmp_ne rfl rfl (fun c752 => ?_) (fun c752 => ?_)
                  · have z753 := w_ne c752
                    rw [show (5 : Int32).toInt = 5 from by decide] at z753
                    refine ev_aload_n rfl rfl rfl ?_
                    refine ev_dup rfl rfl rfl ?_
                    refine ev_getV (v := f710) rfl rfl fl_X10_207 rfl rfl rfl ef710 ?_
                    refine ev_iconst (v := 1) rfl rfl (by decide) ?_
                    refine ev_iload_n rfl rfl rfl ?_
                    refine ev_ishlB rfl rfl b733 (by decide) (by decide) (fun v756 b756 => ?_)
                    have b757 : B f710 0 4095 := ⟨(by have z0_ := congrArg Int32.toInt z705; have z1_ := congrArg Int32.toInt ef708; have z2_ := congrArg Int32.toInt ef709; have z3_ := congrArg Int32.toInt ef710; have z4_ := congrArg Int32.toInt z706; have z_ := w_lits; have zl_ := l_lits; omega), (by have z0_ := congrArg Int32.toInt z705; have z1_ := congrArg Int32.toInt ef708; have z2_ := congrArg Int32.toInt ef709; have z3_ := congrArg Int32.toInt ef710; have z4_ := congrArg Int32.toInt z706; have z_ := w_lits; have zl_ := l_lits; omega)⟩
                    refine ev_iorB 12 (u := 4095) rfl rfl b757 b756 (by decide) (by decide) (by decide) (by decide) (by decide) (by decide) (fun v758 b758 e758 => ?_)
                    refine ev_putW (l := (-2147483648)) (u := 2147483647) hJ704 rfl b758 (by decide) (by decide) rfl rfl rfl fl_X10_207 rfl rfl rfl rfl rfl (fun h759 hJ759 k759 => ?_)
                    refine ev_aload_n rfl rfl rfl ?_
                    refine ev_dup rfl rfl rfl ?_
                    refine ev_getV (v := f708) rfl rfl fl_X10_210 rfl rfl rfl (rd_o k759 ef708 rfl) ?_
                    refine ev_iconst (v := 1) rfl rfl (by decide) ?_
                    refine ev_iaddB (l := 1) (u := 161) rfl rfl bf708 (by decide : B 1 1 1) (by decide) (by decide) (by decide) (by decide) (fun v760 b760 e760 g760 => ?_)
                    have e760x := e760; rw [show (1 : Int32).toInt = 1 from by decide] at e760x
                    have b761 : B v760 0 160 := ⟨(by have z0_ := congrArg Int32.toInt (rd_o k759 z705 rfl); have z1_ := congrArg Int32.toInt (rd_o k759 ef708 rfl); have z2_ := congrArg Int32.toInt (rd_o k759 ef709 rfl); have z3_ := congrArg Int32.toInt (rd_s k759); have z4_ := congrArg Int32.toInt (rd_o k759 z706 rfl); have z_ := w_lits; have zl_ := l_lits; omega), (by have z0_ := congrArg Int32.toInt (rd_o k759 z705 rfl); have z1_ := congrArg Int32.toInt (rd_o k759 ef708 rfl); have z2_ := congrArg Int32.toInt (rd_o k759 ef709 rfl); have z3_ := congrArg Int32.toInt (rd_s k759); have z4_ := congrArg Int32.toInt (rd_o k759 z706 rfl); have z_ := w_lits; have zl_ := l_lits; omega)⟩
                    refine ev_putW (l := 0) (u := 160) hJ759 rfl b761 (by decide) (by decide) rfl rfl rfl fl_X10_210 rfl rfl rfl rfl rfl (fun h762 hJ762 k762 => ?_)
                    refine ev_goto rfl rfl ?_
                    exact (ih10 v731 h762 (b733.mono (by decide) (by decide)) hJ762 (rd_o k762 (rd_o k759 z705 rfl) rfl) (rd_o k762 (rd_o k759 z706 rfl) rfl) (rd_o k762 (rd_o k759 z707 rfl) rfl) (by have z0_ := congrArg Int32.toInt (rd_o k762 (rd_o k759 z705 rfl) rfl); have z1_ := congrArg Int32.toInt (rd_s k762); have z_ := w_lits; have zl_ := l_lits; omega) (by have z0_ := congrArg Int32.toInt (rd_s k762); have z_ := w_lits; have zl_ := l_lits; omega) (by have z0_ := congrArg Int32.toInt (rd_o k762 (rd_s k759) rfl); have z_ := w_lits; have zl_ := l_lits; omega) (by rw [(rd_s k762)]; exact L_up hm10 (e_p1 e760 (by decide))))
                  · have b754 : B r751 5 5 := R_eqX (B.any r751) (by decide : B 5 5 5) c752
                    have z755 := congrArg Int32.toInt c752
                    rw [show (5 : Int32).toInt = 5 from by decide] at z755
                    refine ev_aload_n rfl rfl rfl ?_
                    refine ev_iconst (v := 4) rfl rfl (by decide) ?_
                    refine ev_aload_n rfl rfl rfl ?_
                    refine ev_getV (v := f708) rfl rfl fl_X10_210 rfl rfl rfl ef708 ?_
                    refine ev_V2K hJ704 rfl rfl rfl lk_X10_200 vt_X10_fails rfl rfl rfl rfl rfl (w_X10_fails_63 L b h703 hJ704.1 4 ((by decide : B 4 4 4).mono (by decide) (by decide)) f708) (fun h763 hJ763 k763 m763 => ?_)
                    obtain ⟨f764, ef764⟩ : ∃ f_, h763 63 21 = f_ := ⟨_, rfl⟩
                    have bf764 : B f764 0 6 := by have z_ := hJ763.1 63 21; rw [ef764] at z_; exact z_
                    have zf764 := congrArg Int32.toInt ef764
                    refine ev_goto rfl rfl ?_
                    refine ev_aload_n rfl rfl rfl ?_
                    refine ev_dup rfl rfl rfl ?_
                    refine ev_getV (v := f708) rfl rfl fl_X10_210 rfl rfl rfl (rd_w k763 ef708 rfl) ?_
                    refine ev_iconst (v := 1) rfl rfl (by decide) ?_
                    refine ev_iaddB (l := 1) (u := 161) rfl rfl bf708 (by decide : B 1 1 1) (by decide) (by decide) (by decide) (by decide) (fun v765 b765 e765 g765 => ?_)
                    have e765x := e765; rw [show (1 : Int32).toInt = 1 from by decide] at e765x
                    have b766 : B v765 0 160 := ⟨(by have z0_ := congrArg Int32.toInt (rd_w k763 z705 rfl); have z1_ := congrArg Int32.toInt (rd_w k763 ef708 rfl); have z2_ := congrArg Int32.toInt ef764; have z3_ := congrArg Int32.toInt (rd_w k763 ef710 rfl); have z4_ := congrArg Int32.toInt (rd_w k763 z706 rfl); have z_ := w_lits; have zl_ := l_lits; omega), (by have z0_ := congrArg Int32.toInt (rd_w k763 z705 rfl); have z1_ := congrArg Int32.toInt (rd_w k763 ef708 rfl); have z2_ := congrArg Int32.toInt ef764; have z3_ := congrArg Int32.toInt (rd_w k763 ef710 rfl); have z4_ := congrArg Int32.toInt (rd_w k763 z706 rfl); have z_ := w_lits; have zl_ := l_lits; omega)⟩
                    refine ev_putW (l := 0) (u := 160) hJ763 rfl b766 (by decide) (by decide) rfl rfl rfl fl_X10_210 rfl rfl rfl rfl rfl (fun h767 hJ767 k767 => ?_)
                    refine ev_goto rfl rfl ?_
                    exact (ih10 v731 h767 (b733.mono (by decide) (by decide)) hJ767 (rd_o k767 (rd_w k763 z705 rfl) rfl) (rd_o k767 (rd_w k763 z706 rfl) rfl) (rd_o k767 (rd_w k763 z707 rfl) rfl) (by have z0_ := congrArg Int32.toInt (rd_o k767 (rd_w k763 z705 rfl) rfl); have z1_ := congrArg Int32.toInt (rd_s k767); have z_ := w_lits; have zl_ := l_lits; omega) (by have z0_ := congrArg Int32.toInt (rd_s k767); have z_ := w_lits; have zl_ := l_lits; omega) (by have z0_ := congrArg Int32.toInt (rd_o k767 (rd_w k763 ef710 rfl) rfl); have z_ := w_lits; have zl_ := l_lits; omega) (by rw [(rd_s k767)]; exact L_up hm10 (e_p1 e765 (by decide))))
              · have b736 : B v731 12 25 := R_ltY (by decide : B 11 11 11) b731 (Int32.not_le.mp c732) (by decide)
                have b737 : B r729 109 122 := (R_bks (l' := 109) (u' := 122) e731 b736 (by decide : B 97 97 97) (by decide) (by decide))
                have z738 := w_lt (Int32.not_le.mp c732)
                rw [show (11 : Int32).toInt = 11 from by decide] at z738
                refine ev_aload_n rfl rfl rfl ?_
                refine ev_iconst (v := 1) rfl rfl (by decide) ?_
                refine ev_aload_n rfl rfl rfl ?_
                refine ev_getV (v := f708) rfl rfl fl_X10_210 rfl rfl rfl ef708 ?_
                refine ev_V2K hJ704 rfl rfl rfl lk_X10_200 vt_X10_fails rfl rfl rfl rfl rfl (w_X10_fails_63 L b h703 hJ704.1 1 ((by decide : B 1 1 1).mono (by decide) (by decide)) f708) (fun h768 hJ768 k768 m768 => ?_)
                obtain ⟨f769, ef769⟩ : ∃ f_, h768 63 21 = f_ := ⟨_, rfl⟩
                have bf769 : B f769 0 6 := by have z_ := hJ768.1 63 21; rw [ef769] at z_; exact z_
                have zf769 := congrArg Int32.toInt ef769
                refine ev_goto rfl rfl ?_
                refine ev_aload_n rfl rfl rfl ?_
                refine ev_dup rfl rfl rfl ?_
                refine ev_getV (v := f708) rfl rfl fl_X10_210 rfl rfl rfl (rd_w k768 ef708 rfl) ?_
                refine ev_iconst (v := 1) rfl rfl (by decide) ?_
                refine ev_iaddB (l := 1) (u := 161) rfl rfl bf708 (by decide : B 1 1 1) (by decide) (by decide) (by decide) (by decide) (fun v770 b770 e770 g770 => ?_)
                have e770x := e770; rw [show (1 : Int32).toInt = 1 from by decide] at e770x
                have b771 : B v770 0 160 := ⟨(by have z0_ := congrArg Int32.toInt (rd_w k768 z705 rfl); have z1_ := congrArg Int32.toInt (rd_w k768 ef708 rfl); have z2_ := congrArg Int32.toInt ef769; have z3_ := congrArg Int32.toInt (rd_w k768 ef710 rfl); have z4_ := congrArg Int32.toInt (rd_w k768 z706 rfl); have z_ := w_lits; have zl_ := l_lits; omega), (by have z0_ := congrArg Int32.toInt (rd_w k768 z705 rfl); have z1_ := congrArg Int32.toInt (rd_w k768 ef708 rfl); have z2_ := congrArg Int32.toInt ef769; have z3_ := congrArg Int32.toInt (rd_w k768 ef710 rfl); have z4_ := congrArg Int32.toInt (rd_w k768 z706 rfl); have z_ := w_lits; have zl_ := l_lits; omega)⟩
                refine ev_putW (l := 0) (u := 160) hJ768 rfl b771 (by decide) (by decide) rfl rfl rfl fl_X10_210 rfl rfl rfl rfl rfl (fun h772 hJ772 k772 => ?_)
                refine ev_goto rfl rfl ?_
                exact (ih10 v731 h772 (b736.mono (by decide) (by decide)) hJ772 (rd_o k772 (rd_w k768 z705 rfl) rfl) (rd_o k772 (rd_w k768 z706 rfl) rfl) (rd_o k772 (rd_w k768 z707 rfl) rfl) (by have z0_ := congrArg Int32.toInt (rd_o k772 (rd_w k768 z705 rfl) rfl); have z1_ := congrArg Int32.toInt (rd_s k772); have z_ := w_lits; have zl_ := l_lits; omega) (by have z0_ := congrArg Int32.toInt (rd_s k772); have z_ := w_lits; have zl_ := l_lits; omega) (by have z0_ := congrArg Int32.toInt (rd_o k772 (rd_w k768 ef710 rfl) rfl); have z_ := w_lits; have zl_ := l_lits; omega) (by rw [(rd_s k772)]; exact L_up hm10 (e_p1 e770 (by decide))))
      exact (lp10_700 161 v25 h412 (b27.mono (by decide) (by decide)) hJ412 (rd_o k412 (rd_w k408 (rd_o k6 (rd_o k5 ef1 rfl) rfl) rfl) rfl) (rd_o k412 (rd_w k408 (rd_o k6 (rd_s k5) rfl) rfl) rfl) (rd_o k412 (rd_w k408 (rd_o k6 (rd_o k5 rt rfl) rfl) rfl) rfl) (by have z0_ := congrArg Int32.toInt (rd_o k412 (rd_w k408 (rd_o k6 (rd_o k5 ef1 rfl) rfl) rfl) rfl); have z1_ := congrArg Int32.toInt (rd_s k412); have z_ := w_lits; have zl_ := l_lits; omega) (by have z0_ := congrArg Int32.toInt (rd_s k412); have z_ := w_lits; have zl_ := l_lits; omega) (by have z0_ := congrArg Int32.toInt (rd_o k412 (rd_w k408 (rd_s k6) rfl) rfl); have z_ := w_lits; have zl_ := l_lits; omega) (by rw [(rd_s k412)]; exact L_init b411 (by decide)))
  · have b30 : B v25 12 25 := R_ltY (by decide : B 11 11 11) b25 (Int32.not_le.mp c26) (by decide)
    have b31 : B r23 109 122 := (R_bks (l' := 109) (u' := 122) e25 b30 (by decide : B 97 97 97) (by decide) (by decide))
    have z32 := w_lt (Int32.not_le.mp c26)
    rw [show (11 : Int32).toInt = 11 from by decide] at z32
    refine ev_aload_n rfl rfl rfl ?_
    refine ev_iconst (v := 1) rfl rfl (by decide) ?_
    refine ev_aload_n rfl rfl rfl ?_
    refine ev_getV (v := f2) rfl rfl fl_X10_210 rfl rfl rfl (rd_o k6 (rd_o k5 ef2 rfl) rfl) ?_
    refine ev_V2K hJ6 rfl rfl rfl lk_X10_200 vt_X10_fails rfl rfl rfl rfl rfl (w_X10_fails_63 L b h6 hJ6.1 1 ((by decide : B 1 1 1).mono (by decide) (by decide)) f2) (fun h773 hJ773 k773 m773 => ?_)
    obtain ⟨f774, ef774⟩ : ∃ f_, h773 63 21 = f_ := ⟨_, rfl⟩
    have bf774 : B f774 0 6 := by have z_ := hJ773.1 63 21; rw [ef774] at z_; exact z_
    have zf774 := congrArg Int32.toInt ef774
    refine ev_goto rfl rfl ?_
    refine ev_aload_n rfl rfl rfl ?_
    refine ev_dup rfl rfl rfl ?_
    refine ev_getV (v := f2) rfl rfl fl_X10_210 rfl rfl rfl (rd_w k773 (rd_o k6 (rd_o k5 ef2 rfl) rfl) rfl) ?_
    refine ev_iconst (v := 1) rfl rfl (by decide) ?_
    refine ev_iaddB (l := 1) (u := 161) rfl rfl bf2 (by decide : B 1 1 1) (by decide) (by decide) (by decide) (by decide) (fun v775 b775 e775 g775 => ?_)
    have e775x := e775; rw [show (1 : Int32).toInt = 1 from by decide] at e775x
    have b776 : B v775 0 160 := ⟨(by have z0_ := congrArg Int32.toInt (rd_w k773 (rd_o k6 (rd_o k5 ef1 rfl) rfl) rfl); have z1_ := congrArg Int32.toInt (rd_w k773 (rd_o k6 (rd_o k5 ef2 rfl) rfl) rfl); have z2_ := congrArg Int32.toInt ef774; have z3_ := congrArg Int32.toInt (rd_w k773 (rd_s k6) rfl); have z4_ := congrArg Int32.toInt (rd_w k773 (rd_o k6 (rd_s k5) rfl) rfl); have z_ := w_lits; have zl_ := l_lits; omega), (by have z0_ := congrArg Int32.toInt (rd_w k773 (rd_o k6 (rd_o k5 ef1 rfl) rfl) rfl); have z1_ := congrArg Int32.toInt (rd_w k773 (rd_o k6 (rd_o k5 ef2 rfl) rfl) rfl); have z2_ := congrArg Int32.toInt ef774; have z3_ := congrArg Int32.toInt (rd_w k773 (rd_s k6) rfl); have z4_ := congrArg Int32.toInt (rd_w k773 (rd_o k6 (rd_s k5) rfl) rfl); have z_ := w_lits; have zl_ := l_lits; omega)⟩
    refine ev_putW (l := 0) (u := 160) hJ773 rfl b776 (by decide) (by decide) rfl rfl rfl fl_X10_210 rfl rfl rfl rfl rfl (fun h777 hJ777 k777 => ?_)
    refine ev_goto rfl rfl ?_
    have lp10_1008 : ∀ (n : Nat) (w1009 : Int32) (h1011 : Hp), B w1009 0 25 → JW [(63, 17), (63, 19), (63, 20), (63, 21), (63, 22)] h h1011 → (h1011 63 16 = f1) → (h1011 63 19 = 1) → (h1011 72 (Int32.toNatClampNeg f2) = t) → ((h1011 63 17).toInt ≤ (h1011 63 16).toInt) → ((h 63 17).toInt + 1 ≤ (h1011 63 17).toInt) → (0 ≤ (h1011 63 20).toInt ∧ (h1011 63 20).toInt ≤ 4095) → 160 + 1 - (h1011 63 17).toInt ≤ (n : Int) → EvQ mi_X10_readChord 10 [some (.ref 63), some (.int w1009)] [] (G0 L b) h1011 0 0 (QK (fun z : Hp => ((z 63 17).toInt ≤ (z 63 16).toInt) ∧ ((h 63 17).toInt + 1 ≤ (z 63 17).toInt) ∧ ((z 63 19).toInt = 1) ∧ (0 ≤ (z 63 20).toInt ∧ (z 63 20).toInt ≤ 4095)) [(63, 17), (63, 19), (63, 20), (63, 21), (63, 22)] (G0 L b) h) := by
      intro n
      induction n with
      | zero =>
        intro w1009 h1011 b1010 hJ1012 z1013 z1014 z1015 y10_0 y10_1 y10_2 hm10
        obtain ⟨f1016, ef1016⟩ : ∃ f_, h1011 63 17 = f_ := ⟨_, rfl⟩
        have bf1016 : B f1016 0 160 := by
          have z_ := hJ1012.1 63 17
          rw [ef1016] at z_
          exact z_
        rw [ef1016] at hm10
        exact absurd hm10 (L_zero bf1016 (by decide))
      | succ n ih10 =>
        intro w1009 h1011 b1010 hJ1012 z1013 z1014 z1015 y10_0 y10_1 y10_2 hm10
        obtain ⟨f1016, ef1016⟩ : ∃ f_, h1011 63 17 = f_ := ⟨_, rfl⟩
        have bf1016 : B f1016 0 160 := by
          have z_ := hJ1012.1 63 17
          rw [ef1016] at z_
          exact z_
        rw [ef1016] at hm10
        obtain ⟨f1017, ef1017⟩ : ∃ f_, h1011 63 21 = f_ := ⟨_, rfl⟩
        have bf1017 : B f1017 0 6 := by have z_ := hJ1012.1 63 21; rw [ef1017] at z_; exact z_
        have zf1017 := congrArg Int32.toInt ef1017
        obtain ⟨f1018, ef1018⟩ : ∃ f_, h1011 63 20 = f_ := ⟨_, rfl⟩
        have zf1018 := congrArg Int32.toInt ef1018
        have z1019 := congrArg Int32.toInt z1013
        have z1020 := congrArg Int32.toInt ef1016
        have z1021 := congrArg Int32.toInt z1014
        refine ev_aload_n rfl rfl rfl ?_
        refine ev_aload_n rfl rfl rfl ?_
        refine ev_getV (v := f1016) rfl rfl fl_X10_210 rfl rfl rfl ef1016 ?_
        obtain ⟨t1022, et1022⟩ : ∃ f_, h1011 72 (Int32.toNatClampNeg f1016) = f_ := ⟨_, rfl⟩
        have bt1022 : B t1022 0 255 := by have z_ := hJ1012.1 72 (Int32.toNatClampNeg f1016); rw [et1022] at z_; exact z_
        refine ev_V1P rfl rfl lk_X10_213 vt_X10_look rfl rfl rfl rfl rfl (w_X10_look_63 L b h1011 hJ1012.1 f1016 bf1016 t1022 et1022) (fun r1023 q1023 => ?_)
        obtain ⟨b1023, pp1023_0, pp1023_1⟩ := q1023
        refine ev_i2l rfl rfl ?_
        have z1024 := Int32.toInt_toInt64 r1023
        have z1024b := B.any r1023
        refine ev_ldc2 (v := 97) rfl rfl kc_X10_216 ?_
        refine ev_ldc2 (v := 122) rfl rfl kc_X10_218 ?_
        refine ev_S3P rfl rfl lk_X10_124 st_X10_in rfl rfl (w_inR (G0 L b) h1011 r1023 97 122 (by decide : BL 97 97 97) (by decide : BL 122 122 122)) (fun r1025 q1025 => ?_)
        obtain ⟨b1025, p1025_0, pp1025_0, pp1025_1⟩ := q1025
        refine ev_if_eq rfl rfl (fun c1026 => ?_) (fun c1026 => ?_)
        · have b1027 : B r1025 0 0 := R_eqX b1025 (by decide : B 0 0 0) c1026
          have z1028 := congrArg Int32.toInt c1026
          rw [show (0 : Int32).toInt = 0 from by decide] at z1028
          exact ev_vret rfl rfl trivial ⟨rfl, rfl, hJ1012, (by have z0_ := congrArg Int32.toInt z1013; have z1_ := congrArg Int32.toInt ef1016; have z_ := w_lits; have zl_ := l_lits; omega), (by have z0_ := congrArg Int32.toInt ef1016; have z_ := w_lits; have zl_ := l_lits; omega), (by have z0_ := congrArg Int32.toInt z1014; have z_ := w_lits; have zl_ := l_lits; omega), (by have z0_ := congrArg Int32.toInt ef1018; have z_ := w_lits; have zl_ := l_lits; omega)⟩
        · have b1029 : B r1025 1 1 := R_neL b1025 (by decide : B 0 0 0) c1026 (by decide)
          have b1030 : B r1023 97 122 := p1025_0 c1026
          have z1031 := w_ne c1026
          rw [show (0 : Int32).toInt = 0 from by decide] at z1031
          refine ev_aload_n rfl rfl rfl ?_
          refine ev_getV (v := f1017) rfl rfl fl_X10_191 rfl rfl rfl ef1017 ?_
          refine ev_if_ne rfl rfl (fun c1032 => ?_) (fun c1032 => ?_)
          · have b1033 : B f1017 1 6 := R_neL bf1017 (by decide : B 0 0 0) c1032 (by decide)
            have z1034 := w_ne c1032
            rw [show (0 : Int32).toInt = 0 from by decide] at z1034
            exact ev_vret rfl rfl trivial ⟨rfl, rfl, hJ1012, (by have z0_ := congrArg Int32.toInt z1013; have z1_ := congrArg Int32.toInt ef1016; have z_ := w_lits; have zl_ := l_lits; omega), (by have z0_ := congrArg Int32.toInt ef1016; have z_ := w_lits; have zl_ := l_lits; omega), (by have z0_ := congrArg Int32.toInt z1014; have z_ := w_lits; have zl_ := l_lits; omega), (by have z0_ := congrArg Int32.toInt ef1018; have z_ := w_lits; have zl_ := l_lits; omega)⟩
          · have b1035 : B f1017 0 0 := R_eqX bf1017 (by decide : B 0 0 0) c1032
            have z1036 := congrArg Int32.toInt c1032
            rw [show (0 : Int32).toInt = 0 from by decide] at z1036
            refine ev_aload_n rfl rfl rfl ?_
            refine ev_aload_n rfl rfl rfl ?_
            refine ev_getV (v := f1016) rfl rfl fl_X10_210 rfl rfl rfl ef1016 ?_
            refine ev_V1P rfl rfl lk_X10_213 vt_X10_look rfl rfl rfl rfl rfl (w_X10_look_63 L b h1011 hJ1012.1 f1016 bf1016 t1022 et1022) (fun r1037 q1037 => ?_)
            obtain ⟨b1037, pp1037_0, pp1037_1⟩ := q1037
            refine ev_bipush (v := 97) rfl rfl (by decide) ?_
            have b1038 : B r1037 97 122 := ⟨(by have z0_ := congrArg Int32.toInt z1013; have z1_ := congrArg Int32.toInt ef1016; have z2_ := congrArg Int32.toInt ef1017; have z3_ := congrArg Int32.toInt ef1018; have z4_ := congrArg Int32.toInt z1014; have z_ := w_lits; have zl_ := l_lits; omega), (by have z0_ := congrArg Int32.toInt z1013; have z1_ := congrArg Int32.toInt ef1016; have z2_ := congrArg Int32.toInt ef1017; have z3_ := congrArg Int32.toInt ef1018; have z4_ := congrArg Int32.toInt z1014; have z_ := w_lits; have zl_ := l_lits; omega)⟩
            refine ev_isubB (l := 0) (u := 25) rfl rfl b1038 (by decide : B 97 97 97) (by decide) (by decide) (by decide) (by decide) (fun v1039 b1039 e1039 g1039 => ?_)
            have e1039x := e1039; rw [show (97 : Int32).toInt = 97 from by decide] at e1039x
            refine ev_istore_n rfl rfl rfl rfl ?_
            dsimp only [List.set]
            refine ev_iload_n rfl rfl rfl ?_
            refine ev_bipush (v := 11) rfl rfl (by decide) ?_
            refine ev_icmp_le rfl rfl (fun c1040 => ?_) (fun c1040 => ?_)
            · have b1041 : B v1039 0 11 := R_leX b1039 (by decide : B 11 11 11) c1040 (by decide)
              have b1042 : B r1037 97 108 := (R_bks (l' := 97) (u' := 108) e1039 b1041 (by decide : B 97 97 97) (by decide) (by decide))
              have z1043 := w_le c1040
              rw [show (11 : Int32).toInt = 11 from by decide] at z1043
              refine ev_aload_n rfl rfl rfl ?_
              refine ev_getV (v := f1018) rfl rfl fl_X10_207 rfl rfl rfl ef1018 ?_
              refine ev_iload_n rfl rfl rfl ?_
              refine ev_ishrA rfl rfl (fun v1047 => ?_)
              refine ev_iconst (v := 1) rfl rfl (by decide) ?_
              refine ev_iandB rfl rfl (by decide : B 1 1 1) (by decide) (fun v1048 b1048 e1048 => ?_)
              refine ev_iconst (v := 1) rfl rfl (by decide) ?_
              refine ev_icmp_eq rfl rfl (fun c1049 => ?_) (fun c1049 => ?_)
              · have b1050 : B v1048 1 1 := R_eqX b1048 (by decide : B 1 1 1) c1049
                have z1051 := congrArg Int32.toInt c1049
                rw [show (1 : Int32).toInt = 1 from by decide] at z1051
                refine ev_aload_n rfl rfl rfl ?_
                refine ev_iconst (v := 4) rfl rfl (by decide) ?_
                refine ev_aload_n rfl rfl rfl ?_
                refine ev_getV (v := f1016) rfl rfl fl_X10_210 rfl rfl rfl ef1016 ?_
                refine ev_V2K hJ1012 rfl rfl rfl lk_X10_200 vt_X10_fails rfl rfl rfl rfl rfl (w_X10_fails_63 L b h1011 hJ1012.1 4 ((by decide : B 4 4 4).mono (by decide) (by decide)) f1016) (fun h1054 hJ1054 k1054 m1054 => ?_)
                obtain ⟨f1055, ef1055⟩ : ∃ f_, h1054 63 21 = f_ := ⟨_, rfl⟩
                have bf1055 : B f1055 0 6 := by have z_ := hJ1054.1 63 21; rw [ef1055] at z_; exact z_
                have zf1055 := congrArg Int32.toInt ef1055
                refine ev_goto rfl rfl ?_
                refine ev_aload_n rfl rfl rfl ?_
                refine ev_dup rfl rfl rfl ?_
                refine ev_getV (v := f1016) rfl rfl fl_X10_210 rfl rfl rfl (rd_w k1054 ef1016 rfl) ?_
                refine ev_iconst (v := 1) rfl rfl (by decide) ?_
                refine ev_iaddB (l := 1) (u := 161) rfl rfl bf1016 (by decide : B 1 1 1) (by decide) (by decide) (by decide) (by decide) (fun v1056 b1056 e1056 g1056 => ?_)
                have e1056x := e1056; rw [show (1 : Int32).toInt = 1 from by decide] at e1056x
                have b1057 : B v1056 0 160 := ⟨(by have z0_ := congrArg Int32.toInt (rd_w k1054 z1013 rfl); have z1_ := congrArg Int32.toInt (rd_w k1054 ef1016 rfl); have z2_ := congrArg Int32.toInt ef1055; have z3_ := congrArg Int32.toInt (rd_w k1054 ef1018 rfl); have z4_ := congrArg Int32.toInt (rd_w k1054 z1014 rfl); have z_ := w_lits; have zl_ := l_lits; omega), (by have z0_ := congrArg Int32.toInt (rd_w k1054 z1013 rfl); have z1_ := congrArg Int32.toInt (rd_w k1054 ef1016 rfl); have z2_ := congrArg Int32.toInt ef1055; have z3_ := congrArg Int32.toInt (rd_w k1054 ef1018 rfl); have z4_ := congrArg Int32.toInt (rd_w k1054 z1014 rfl); have z_ := w_lits; have zl_ := l_lits; omega)⟩
                refine ev_putW (l := 0) (u := 160) hJ1054 rfl b1057 (by decide) (by decide) rfl rfl rfl fl_X10_210 rfl rfl rfl rfl rfl (fun h1058 hJ1058 k1058 => ?_)
                refine ev_goto rfl rfl ?_
                exact (ih10 v1039 h1058 (b1041.mono (by decide) (by decide)) hJ1058 (rd_o k1058 (rd_w k1054 z1013 rfl) rfl) (rd_o k1058 (rd_w k1054 z1014 rfl) rfl) (rd_o k1058 (rd_w k1054 z1015 rfl) rfl) (by have z0_ := congrArg Int32.toInt (rd_o k1058 (rd_w k1054 z1013 rfl) rfl); have z1_ := congrArg Int32.toInt (rd_s k1058); have z_ := w_lits; have zl_ := l_lits; omega) (by have z0_ := congrArg Int32.toInt (rd_s k1058); have z_ := w_lits; have zl_ := l_lits; omega) (by have z0_ := congrArg Int32.toInt (rd_o k1058 (rd_w k1054 ef1018 rfl) rfl); have z_ := w_lits; have zl_ := l_lits; omega) (by rw [(rd_s k1058)]; exact L_up hm10 (e_p1 e1056 (by decide))))
              · have b1052 : B v1048 0 0 := R_neU b1048 (by decide : B 1 1 1) c1049 (by decide)
                have z1053 := w_ne c1049
                rw [show (1 : Int32).toInt = 1 from by decide] at z1053
                refine ev_aload_n rfl rfl rfl ?_
                refine ev_getV (v := f1018) rfl rfl fl_X10_207 rfl rfl rfl ef1018 ?_
                refine ev_S1P rfl rfl lk_X10_220 st_X10_bits rfl rfl (w_X10_bits L b h1011 hJ1012.1 f1018) (fun r1059 q1059 => ?_)
                refine ev_iconst (v := 5) rfl rfl (by decide) ?_
                refine ev_icmp_ne rfl rfl (fun c1060 => ?_) (fun c1060 => ?_)
                · have z1061 := w_ne c1060
                  rw [show (5 : Int32).toInt = 5 from by decide] at z1061
                  refine ev_aload_n rfl rfl rfl ?_
                  refine ev_dup rfl rfl rfl ?_
                  refine ev_getV (v := f1018) rfl rfl fl_X10_207 rfl rfl rfl ef1018 ?_
                  refine ev_iconst (v := 1) rfl rfl (by decide) ?_
                  refine ev_iload_n rfl rfl rfl ?_
                  refine ev_ishlB rfl rfl b1041 (by decide) (by decide) (fun v1064 b1064 => ?_)
                  have b1065 : B f1018 0 4095 := ⟨(by have z0_ := congrArg Int32.toInt z1013; have z1_ := congrArg Int32.toInt ef1016; have z2_ := congrArg Int32.toInt ef1017; have z3_ := congrArg Int32.toInt ef1018; have z4_ := congrArg Int32.toInt z1014; have z_ := w_lits; have zl_ := l_lits; omega), (by have z0_ := congrArg Int32.toInt z1013; have z1_ := congrArg Int32.toInt ef1016; have z2_ := congrArg Int32.toInt ef1017; have z3_ := congrArg Int32.toInt ef1018; have z4_ := congrArg Int32.toInt z1014; have z_ := w_lits; have zl_ := l_lits; omega)⟩
                  refine ev_iorB 12 (u := 4095) rfl rfl b1065 b1064 (by decide) (by decide) (by decide) (by decide) (by decide) (by decide) (fun v1066 b1066 e1066 => ?_)
                  refine ev_putW (l := (-2147483648)) (u := 2147483647) hJ1012 rfl b1066 (by decide) (by decide) rfl rfl rfl fl_X10_207 rfl rfl rfl rfl rfl (fun h1067 hJ1067 k1067 => ?_)
                  refine ev_aload_n rfl rfl rfl ?_
                  refine ev_dup rfl rfl rfl ?_
                  refine ev_getV (v := f1016) rfl rfl fl_X10_210 rfl rfl rfl (rd_o k1067 ef1016 rfl) ?_
                  refine ev_iconst (v := 1) rfl rfl (by decide) ?_
                  refine ev_iaddB (l := 1) (u := 161) rfl rfl bf1016 (by decide : B 1 1 1) (by decide) (by decide) (by decide) (by decide) (fun v1068 b1068 e1068 g1068 => ?_)
                  have e1068x := e1068; rw [show (1 : Int32).toInt = 1 from by decide] at e1068x
                  have b1069 : B v1068 0 160 := ⟨(by have z0_ := congrArg Int32.toInt (rd_o k1067 z1013 rfl); have z1_ := congrArg Int32.toInt (rd_o k1067 ef1016 rfl); have z2_ := congrArg Int32.toInt (rd_o k1067 ef1017 rfl); have z3_ := congrArg Int32.toInt (rd_s k1067); have z4_ := congrArg Int32.toInt (rd_o k1067 z1014 rfl); have z_ := w_lits; have zl_ := l_lits; omega), (by have z0_ := congrArg Int32.toInt (rd_o k1067 z1013 rfl); have z1_ := congrArg Int32.toInt (rd_o k1067 ef1016 rfl); have z2_ := congrArg Int32.toInt (rd_o k1067 ef1017 rfl); have z3_ := congrArg Int32.toInt (rd_s k1067); have z4_ := congrArg Int32.toInt (rd_o k1067 z1014 rfl); have z_ := w_lits; have zl_ := l_lits; omega)⟩
                  refine ev_putW (l := 0) (u := 160) hJ1067 rfl b1069 (by decide) (by decide) rfl rfl rfl fl_X10_210 rfl rfl rfl rfl rfl (fun h1070 hJ1070 k1070 => ?_)
                  refine ev_goto rfl rfl ?_
                  exact (ih10 v1039 h1070 (b1041.mono (by decide) (by decide)) hJ1070 (rd_o k1070 (rd_o k1067 z1013 rfl) rfl) (rd_o k1070 (rd_o k1067 z1014 rfl) rfl) (rd_o k1070 (rd_o k1067 z1015 rfl) rfl) (by have z0_ := congrArg Int32.toInt (rd_o k1070 (rd_o k1067 z1013 rfl) rfl); have z1_ := congrArg Int32.toInt (rd_s k1070); have z_ := w_lits; have zl_ := l_lits; omega) (by have z0_ := congrArg Int32.toInt (rd_s k1070); have z_ := w_lits; have zl_ := l_lits; omega) (by have z0_ := congrArg Int32.toInt (rd_o k1070 (rd_s k1067) rfl); have z_ := w_lits; have zl_ := l_lits; omega) (by rw [(rd_s k1070)]; exact L_up hm10 (e_p1 e1068 (by decide))))
                · have b1062 : B r1059 5 5 := R_eqX (B.any r1059) (by decide : B 5 5 5) c1060
                  have z1063 := congrArg Int32.toInt c1060
                  rw [show (5 : Int32).toInt = 5 from by decide] at z1063
                  refine ev_aload_n rfl rfl rfl ?_
                  refine ev_iconst (v := 4) rfl rfl (by decide) ?_
                  refine ev_aload_n rfl rfl rfl ?_
                  refine ev_getV (v := f1016) rfl rfl fl_X10_210 rfl rfl rfl ef1016 ?_
                  refine ev_V2K hJ1012 rfl rfl rfl lk_X10_200 vt_X10_fails rfl rfl rfl rfl rfl (w_X10_fails_63 L b h1011 hJ1012.1 4 ((by decide : B 4 4 4).mono (by decide) (by decide)) f1016) (fun h1071 hJ1071 k1071 m1071 => ?_)
                  obtain ⟨f1072, ef1072⟩ : ∃ f_, h1071 63 21 = f_ := ⟨_, rfl⟩
                  have bf1072 : B f1072 0 6 := by have z_ := hJ1071.1 63 21; rw [ef1072] at z_; exact z_
                  have zf1072 := congrArg Int32.toInt ef1072
                  refine ev_goto rfl rfl ?_
                  refine ev_aload_n rfl rfl rfl ?_
                  refine ev_dup rfl rfl rfl ?_
                  refine ev_getV (v := f1016) rfl rfl fl_X10_210 rfl rfl rfl (rd_w k1071 ef1016 rfl) ?_
                  refine ev_iconst (v := 1) rfl rfl (by decide) ?_
                  refine ev_iaddB (l := 1) (u := 161) rfl rfl bf1016 (by decide : B 1 1 1) (by decide) (by decide) (by decide) (by decide) (fun v1073 b1073 e1073 g1073 => ?_)
                  have e1073x := e1073; rw [show (1 : Int32).toInt = 1 from by decide] at e1073x
                  have b1074 : B v1073 0 160 := ⟨(by have z0_ := congrArg Int32.toInt (rd_w k1071 z1013 rfl); have z1_ := congrArg Int32.toInt (rd_w k1071 ef1016 rfl); have z2_ := congrArg Int32.toInt ef1072; have z3_ := congrArg Int32.toInt (rd_w k1071 ef1018 rfl); have z4_ := congrArg Int32.toInt (rd_w k1071 z1014 rfl); have z_ := w_lits; have zl_ := l_lits; omega), (by have z0_ := congrArg Int32.toInt (rd_w k1071 z1013 rfl); have z1_ := congrArg Int32.toInt (rd_w k1071 ef1016 rfl); have z2_ := congrArg Int32.toInt ef1072; have z3_ := congrArg Int32.toInt (rd_w k1071 ef1018 rfl); have z4_ := congrArg Int32.toInt (rd_w k1071 z1014 rfl); have z_ := w_lits; have zl_ := l_lits; omega)⟩
                  refine ev_putW (l := 0) (u := 160) hJ1071 rfl b1074 (by decide) (by decide) rfl rfl rfl fl_X10_210 rfl rfl rfl rfl rfl (fun h1075 hJ1075 k1075 => ?_)
                  refine ev_goto rfl rfl ?_
                  exact (ih10 v1039 h1075 (b1041.mono (by decide) (by decide)) hJ1075 (rd_o k1075 (rd_w k1071 z1013 rfl) rfl) (rd_o k1075 (rd_w k1071 z1014 rfl) rfl) (rd_o k1075 (rd_w k1071 z1015 rfl) rfl) (by have z0_ := congrArg Int32.toInt (rd_o k1075 (rd_w k1071 z1013 rfl) rfl); have z1_ := congrArg Int32.toInt (rd_s k1075); have z_ := w_lits; have zl_ := l_lits; omega) (by have z0_ := congrArg Int32.toInt (rd_s k1075); have z_ := w_lits; have zl_ := l_lits; omega) (by have z0_ := congrArg Int32.toInt (rd_o k1075 (rd_w k1071 ef1018 rfl) rfl); have z_ := w_lits; have zl_ := l_lits; omega) (by rw [(rd_s k1075)]; exact L_up hm10 (e_p1 e1073 (by decide))))
            · have b1044 : B v1039 12 25 := R_ltY (by decide : B 11 11 11) b1039 (Int32.not_le.mp c1040) (by decide)
              have b1045 : B r1037 109 122 := (R_bks (l' := 109) (u' := 122) e1039 b1044 (by decide : B 97 97 97) (by decide) (by decide))
              have z1046 := w_lt (Int32.not_le.mp c1040)
              rw [show (11 : Int32).toInt = 11 from by decide] at z1046
              refine ev_aload_n rfl rfl rfl ?_
              refine ev_iconst (v := 1) rfl rfl (by decide) ?_
              refine ev_aload_n rfl rfl rfl ?_
              refine ev_getV (v := f1016) rfl rfl fl_X10_210 rfl rfl rfl ef1016 ?_
              refine ev_V2K hJ1012 rfl rfl rfl lk_X10_200 vt_X10_fails rfl rfl rfl rfl rfl (w_X10_fails_63 L b h1011 hJ1012.1 1 ((by decide : B 1 1 1).mono (by decide) (by decide)) f1016) (fun h1076 hJ1076 k1076 m1076 => ?_)
              obtain ⟨f1077, ef1077⟩ : ∃ f_, h1076 63 21 = f_ := ⟨_, rfl⟩
              have bf1077 : B f1077 0 6 := by have z_ := hJ1076.1 63 21; rw [ef1077] at z_; exact z_
              have zf1077 := congrArg Int32.toInt ef1077
              refine ev_goto rfl rfl ?_
              refine ev_aload_n rfl rfl rfl ?_
              refine ev_dup rfl rfl rfl ?_
              refine ev_getV (v := f1016) rfl rfl fl_X10_210 rfl rfl rfl (rd_w k1076 ef1016 rfl) ?_
              refine ev_iconst (v := 1) rfl rfl (by decide) ?_
              refine ev_iaddB (l := 1) (u := 161) rfl rfl bf1016 (by decide : B 1 1 1) (by decide) (by decide) (by decide) (by decide) (fun v1078 b1078 e1078 g1078 => ?_)
              have e1078x := e1078; rw [show (1 : Int32).toInt = 1 from by decide] at e1078x
              have b1079 : B v1078 0 160 := ⟨(by have z0_ := congrArg Int32.toInt (rd_w k1076 z1013 rfl); have z1_ := congrArg Int32.toInt (rd_w k1076 ef1016 rfl); have z2_ := congrArg Int32.toInt ef1077; have z3_ := congrArg Int32.toInt (rd_w k1076 ef1018 rfl); have z4_ := congrArg Int32.toInt (rd_w k1076 z1014 rfl); have z_ := w_lits; have zl_ := l_lits; omega), (by have z0_ := congrArg Int32.toInt (rd_w k1076 z1013 rfl); have z1_ := congrArg Int32.toInt (rd_w k1076 ef1016 rfl); have z2_ := congrArg Int32.toInt ef1077; have z3_ := congrArg Int32.toInt (rd_w k1076 ef1018 rfl); have z4_ := congrArg Int32.toInt (rd_w k1076 z1014 rfl); have z_ := w_lits; have zl_ := l_lits; omega)⟩
              refine ev_putW (l := 0) (u := 160) hJ1076 rfl b1079 (by decide) (by decide) rfl rfl rfl fl_X10_210 rfl rfl rfl rfl rfl (fun h1080 hJ1080 k1080 => ?_)
              refine ev_goto rfl rfl ?_
              exact (ih10 v1039 h1080 (b1044.mono (by decide) (by decide)) hJ1080 (rd_o k1080 (rd_w k1076 z1013 rfl) rfl) (rd_o k1080 (rd_w k1076 z1014 rfl) rfl) (rd_o k1080 (rd_w k1076 z1015 rfl) rfl) (by have z0_ := congrArg Int32.toInt (rd_o k1080 (rd_w k1076 z1013 rfl) rfl); have z1_ := congrArg Int32.toInt (rd_s k1080); have z_ := w_lits; have zl_ := l_lits; omega) (by have z0_ := congrArg Int32.toInt (rd_s k1080); have z_ := w_lits; have zl_ := l_lits; omega) (by have z0_ := congrArg Int32.toInt (rd_o k1080 (rd_w k1076 ef1018 rfl) rfl); have z_ := w_lits; have zl_ := l_lits; omega) (by rw [(rd_s k1080)]; exact L_up hm10 (e_p1 e1078 (by decide))))
    exact (lp10_1008 161 v25 h777 (b30.mono (by decide) (by decide)) hJ777 (rd_o k777 (rd_w k773 (rd_o k6 (rd_o k5 ef1 rfl) rfl) rfl) rfl) (rd_o k777 (rd_w k773 (rd_o k6 (rd_s k5) rfl) rfl) rfl) (rd_o k777 (rd_w k773 (rd_o k6 (rd_o k5 rt rfl) rfl) rfl) rfl) (by have z0_ := congrArg Int32.toInt (rd_o k777 (rd_w k773 (rd_o k6 (rd_o k5 ef1 rfl) rfl) rfl) rfl); have z1_ := congrArg Int32.toInt (rd_s k777); have z_ := w_lits; have zl_ := l_lits; omega) (by have z0_ := congrArg Int32.toInt (rd_s k777); have z_ := w_lits; have zl_ := l_lits; omega) (by have z0_ := congrArg Int32.toInt (rd_o k777 (rd_w k773 (rd_s k6) rfl) rfl); have z_ := w_lits; have zl_ := l_lits; omega) (by rw [(rd_s k777)]; exact L_init b776 (by decide)))

set_option maxRecDepth 100000 in
set_option maxHeartbeats 4000000 in
theorem w_X10_next_63 (L : Nat) (b : Bool) (h : Hp) (hB : Bx h) (rp0 : (h 63 17).toInt ≤ (h 63 16).toInt) : EvK mi_X10_next [.ref 63] (G0 L b) h (fun z : Hp => ((z 63 17).toInt ≤ (z 63 16).toInt) ∧ ((z 63 21).toInt = 0 → (h 63 21).toInt = 0) ∧ ((¬ (z 63 21).toInt = 0) ∨ (z 63 19).toInt = 0 ∨ (h 63 17).toInt + 1 ≤ (z 63 17).toInt) ∧ ((h 63 17).toInt ≤ (z 63 17).toInt) ∧ ((z 63 21).toInt = 0 → (z 63 19).toInt = 1 → 0 ≤ (z 63 20).toInt ∧ (z 63 20).toInt ≤ 4095)) [(63, 17), (63, 18), (63, 19), (63, 20), (63, 21), (63, 22)] := by
  refine EvM.of2 (lo := [some (.ref 63), none]) pf_X10_next ok_X10_next rfl rfl ?_
  have hJ0 : JW [(63, 17), (63, 18), (63, 19), (63, 20), (63, 21), (63, 22)] h h := JW.refl hB
  obtain ⟨f1, ef1⟩ : ∃ f_, h 63 16 = f_ := ⟨_, rfl⟩
  have bf1 : B f1 0 160 := by have z_ := hJ0.1 63 16; rw [ef1] at z_; exact z_
  have zf1 := congrArg Int32.toInt ef1
  obtain ⟨f2, ef2⟩ : ∃ f_, h 63 17 = f_ := ⟨_, rfl⟩
  have bf2 : B f2 0 160 := by have z_ := hJ0.1 63 17; rw [ef2] at z_; exact z_
  have zf2 := congrArg Int32.toInt ef2
  obtain ⟨f3, ef3⟩ : ∃ f_, h 63 21 = f_ := ⟨_, rfl⟩
  have bf3 : B f3 0 6 := by have z_ := hJ0.1 63 21; rw [ef3] at z_; exact z_
  have zf3 := congrArg Int32.toInt ef3
  obtain ⟨f4, ef4⟩ : ∃ f_, h 63 20 = f_ := ⟨_, rfl⟩
  have zf4 := congrArg Int32.toInt ef4
  obtain ⟨f5, ef5⟩ : ∃ f_, h 63 19 = f_ := ⟨_, rfl⟩
  have bf5 : B f5 0 3 := by have z_ := hJ0.1 63 19; rw [ef5] at z_; exact z_
  have zf5 := congrArg Int32.toInt ef5
  refine ev_aload_n rfl rfl rfl ?_
  refine ev_getV (v := f3) rfl rfl fl_X10_191 rfl rfl rfl ef3 ?_
  refine ev_if_le rfl rfl (fun c6 => ?_) (fun c6 => ?_)
  · have b7 : B f3 0 0 := R_leX bf3 (by decide : B 0 0 0) c6 (by decide)
    have z8 := w_le c6
    rw [show (0 : Int32).toInt = 0 from by decide] at z8
    have lp8_1014 : ∀ (n : Nat) (h1015 : Hp), JW [(63, 17), (63, 18), (63, 19), (63, 20), (63, 21), (63, 22)] h h1015 → (h1015 63 16 = f1) → (h1015 63 21 = f3) → (h1015 63 20 = f4) → (h1015 63 19 = f5) → ((h1015 63 17).toInt ≤ (h1015 63 16).toInt) → ((h 63 17).toInt ≤ (h1015 63 17).toInt) → 160 + 1 - (h1015 63 17).toInt ≤ (n : Int) → EvQ mi_X10_next 8 [some (.ref 63), none] [] (G0 L b) h1015 0 0 (QK (fun z : Hp => ((z 63 17).toInt ≤ (z 63 16).toInt) ∧ ((z 63 21).toInt = 0 → (h 63 21).toInt = 0) ∧ ((¬ (z 63 21).toInt = 0) ∨ (z 63 19).toInt = 0 ∨ (h 63 17).toInt + 1 ≤ (z 63 17).toInt) ∧ ((h 63 17).toInt ≤ (z 63 17).toInt) ∧ ((z 63 21).toInt = 0 → (z 63 19).toInt = 1 → 0 ≤ (z 63 20).toInt ∧ (z 63 20).toInt ≤ 4095)) [(63, 17), (63, 18), (63, 19), (63, 20), (63, 21), (63, 22)] (G0 L b) h) := by
      intro n
      induction n with
      | zero =>
        intro h1015 hJ1016 z1017 z1018 z1019 z1020 y8_0 y8_1 hm8
        obtain ⟨f1021, ef1021⟩ : ∃ f_, h1015 63 17 = f_ := ⟨_, rfl⟩
        have bf1021 : B f1021 0 160 := by
          have z_ := hJ1016.1 63 17
          rw [ef1021] at z_
          exact z_
        rw [ef1021] at hm8
        exact absurd hm8 (L_zero bf1021 (by decide))
      | succ n ih8 =>
        intro h1015 hJ1016 z1017 z1018 z1019 z1020 y8_0 y8_1 hm8
        obtain ⟨f1021, ef1021⟩ : ∃ f_, h1015 63 17 = f_ := ⟨_, rfl⟩
        have bf1021 : B f1021 0 160 := by
          have z_ := hJ1016.1 63 17
          rw [ef1021] at z_
          exact z_
        rw [ef1021] at hm8
        have z1022 := congrArg Int32.toInt z1017
        have z1023 := congrArg Int32.toInt ef1021
        have z1024 := congrArg Int32.toInt z1018
        have z1025 := congrArg Int32.toInt z1019
        have z1026 := congrArg Int32.toInt z1020
        refine ev_aload_n rfl rfl rfl ?_
        refine ev_aload_n rfl rfl rfl ?_
        refine ev_getV (v := f1021) rfl rfl fl_X10_210 rfl rfl rfl ef1021 ?_
        obtain ⟨t1027, et1027⟩ : ∃ f_, h1015 72 (Int32.toNatClampNeg f1021) = f_ := ⟨_, rfl⟩
        have bt1027 : B t1027 0 255 := by have z_ := hJ1016.1 72 (Int32.toNatClampNeg f1021); rw [et1027] at z_; exact z_
        refine ev_V1P rfl rfl lk_X10_213 vt_X10_look rfl rfl rfl rfl rfl (w_X10_look_63 L b h1015 hJ1016.1 f1021 bf1021 t1027 et1027) (fun r1028 q1028 => ?_)
        obtain ⟨b1028, pp1028_0, pp1028_1⟩ := q1028
        refine ev_bipush (v := 32) rfl rfl (by decide) ?_
        refine ev_icmp_ne rfl rfl (fun c1029 => ?_) (fun c1029 => ?_)
        · have z1030 := w_ne c1029
          rw [show (32 : Int32).toInt = 32 from by decide] at z1030
          refine ev_aload_n rfl rfl rfl ?_
          refine ev_aload_n rfl rfl rfl ?_
          refine ev_getV (v := f1021) rfl rfl fl_X10_210 rfl rfl rfl ef1021 ?_
          refine ev_putW (l := (-2147483648)) (u := 2147483647) hJ1016 rfl bf1021 (by decide) (by decide) rfl rfl rfl fl_X10_197 rfl rfl rfl rfl rfl (fun h1033 hJ1033 k1033 => ?_)
          refine ev_aload_n rfl rfl rfl ?_
          refine ev_aload_n rfl rfl rfl ?_
          refine ev_getV (v := f1021) rfl rfl fl_X10_210 rfl rfl rfl (rd_o k1033 ef1021 rfl) ?_
          have z1034 := congrArg Int32.toInt (rd_o k1033 z1017 rfl)
          refine ev_V1P rfl rfl lk_X10_213 vt_X10_look rfl rfl rfl rfl rfl (w_X10_look_63 L b h1033 hJ1033.1 f1021 bf1021 t1027 (rd_o k1033 et1027 rfl)) (fun r1035 q1035 => ?_)
          obtain ⟨b1035, pp1035_0, pp1035_1⟩ := q1035
          refine ev_istore_n rfl rfl rfl rfl ?_
          dsimp only [List.set]
          refine ev_iload_n rfl rfl rfl ?_
          refine ev_if_ge rfl rfl (fun c1036 => ?_) (fun c1036 => ?_)
          · have b1037 : B r1035 0 255 := R_leY (by decide : B 0 0 0) b1035 c1036 (by decide)
            have z1038 := w_le c1036
            rw [show (0 : Int32).toInt = 0 from by decide] at z1038
            refine ev_iload_n rfl rfl rfl ?_
            refine ev_i2l rfl rfl ?_
            have z1041 := Int32.toInt_toInt64 r1035
            have z1041b := B.any r1035
            refine ev_ldc2 (v := 97) rfl rfl kc_X10_216 ?_
            refine ev_ldc2 (v := 122) rfl rfl kc_X10_218 ?_
            have z1042 := congrArg Int32.toInt (rd_o k1033 ef1021 rfl)
            have z1043 := congrArg Int32.toInt (rd_o k1033 z1018 rfl)
            have z1044 := congrArg Int32.toInt (rd_o k1033 z1019 rfl)
            have z1045 := congrArg Int32.toInt (rd_o k1033 z1020 rfl)
            refine ev_S3P rfl rfl lk_X10_124 st_X10_in rfl rfl (w_inR (G0 L b) h1033 r1035 97 122 (by decide : BL 97 97 97) (by decide : BL 122 122 122)) (fun r1046 q1046 => ?_)
            obtain ⟨b1046, p1046_0, pp1046_0, pp1046_1⟩ := q1046
            refine ev_if_eq rfl rfl (fun c1047 => ?_) (fun c1047 => ?_)
            · have b1048 : B r1046 0 0 := R_eqX b1046 (by decide : B 0 0 0) c1047
              have z1049 := congrArg Int32.toInt c1047
              rw [show (0 : Int32).toInt = 0 from by decide] at z1049
              refine ev_iload_n rfl rfl rfl ?_
              refine ev_i2l rfl rfl ?_
              have z1053 := Int32.toInt_toInt64 r1035
              have z1053b := B.any r1035
              refine ev_ldc2 (v := 48) rfl rfl kc_X10_226 ?_
              refine ev_ldc2 (v := 57) rfl rfl kc_X10_228 ?_
              refine ev_S3P rfl rfl lk_X10_124 st_X10_in rfl rfl (w_inR (G0 L b) h1033 r1035 48 57 (by decide : BL 48 48 48) (by decide : BL 57 57 57)) (fun r1054 q1054 => ?_)
              obtain ⟨b1054, p1054_0, pp1054_0, pp1054_1⟩ := q1054
              refine ev_if_eq rfl rfl (fun c1055 => ?_) (fun c1055 => ?_)
              · have b1056 : B r1054 0 0 := R_eqX b1054 (by decide : B 0 0 0) c1055
                have z1057 := congrArg Int32.toInt c1055
                rw [show (0 : Int32).toInt = 0 from by decide] at z1057
                refine ev_aload_n rfl rfl rfl ?_
                refine ev_iconst (v := 3) rfl rfl (by decide) ?_
                refine ev_putW (l := 0) (u := 3) hJ1033 rfl (by decide : B 3 3 3) (by decide) (by decide) rfl rfl rfl fl_X10_204 rfl rfl rfl rfl rfl (fun h1061 hJ1061 k1061 => ?_)
                refine ev_aload_n rfl rfl rfl ?_
                refine ev_iload_n rfl rfl rfl ?_
                refine ev_putW (l := (-2147483648)) (u := 2147483647) hJ1061 rfl b1037 (by decide) (by decide) rfl rfl rfl fl_X10_207 rfl rfl rfl rfl rfl (fun h1062 hJ1062 k1062 => ?_)
                refine ev_aload_n rfl rfl rfl ?_
                refine ev_iload_n rfl rfl rfl ?_
                refine ev_bipush (v := 40) rfl rfl (by decide) ?_
                refine ev_icmp_eq rfl rfl (fun c1063 => ?_) (fun c1063 => ?_)
                · have b1064 : B r1035 40 40 := R_eqX b1037 (by decide : B 40 40 40) c1063
                  have z1065 := congrArg Int32.toInt c1063
                  rw [show (40 : Int32).toInt = 40 from by decide] at z1065
                  refine ev_iconst (v := 1) rfl rfl (by decide) ?_
                  refine ev_goto rfl rfl ?_
                  refine ev_iconst (v := 1) rfl rfl (by decide) ?_
                  have z1067 := congrArg Int32.toInt (rd_o k1062 (rd_o k1061 (rd_o k1033 z1018 rfl) rfl) rfl)
                  refine ev_V2K hJ1062 rfl rfl rfl lk_X10_230 vt_X10_wants rfl rfl rfl rfl rfl (w_X10_wants_63 L b h1062 hJ1062.1 1 ((by decide : B 1 1 1).mono (by decide) (by decide)) 1 ((by decide : B 1 1 1).mono (by decide) (by decide))) (fun h1068 hJ1068 k1068 m1068 => ?_)
                  obtain ⟨f1069, ef1069⟩ : ∃ f_, h1068 63 21 = f_ := ⟨_, rfl⟩
                  have bf1069 : B f1069 0 6 := by have z_ := hJ1068.1 63 21; rw [ef1069] at z_; exact z_
                  have zf1069 := congrArg Int32.toInt ef1069
                  refine ev_aload_n rfl rfl rfl ?_
                  refine ev_dup rfl rfl rfl ?_
                  refine ev_getV (v := f1021) rfl rfl fl_X10_210 rfl rfl rfl (rd_w k1068 (rd_o k1062 (rd_o k1061 (rd_o k1033 ef1021 rfl) rfl) rfl) rfl) ?_
                  refine ev_iconst (v := 1) rfl rfl (by decide) ?_
                  refine ev_iaddB (l := 1) (u := 161) rfl rfl bf1021 (by decide : B 1 1 1) (by decide) (by decide) (by decide) (by decide) (fun v1070 b1070 e1070 g1070 => ?_)
                  have e1070x := e1070; rw [show (1 : Int32).toInt = 1 from by decide] at e1070x
                  have b1071 : B v1070 0 160 := ⟨(by have z0_ := congrArg Int32.toInt (rd_w k1068 (rd_o k1062 (rd_o k1061 (rd_o k1033 z1017 rfl) rfl) rfl) rfl); have z1_ := congrArg Int32.toInt (rd_w k1068 (rd_o k1062 (rd_o k1061 (rd_o k1033 ef1021 rfl) rfl) rfl) rfl); have z2_ := congrArg Int32.toInt ef1069; have z3_ := congrArg Int32.toInt (rd_w k1068 (rd_s k1062) rfl); have z4_ := congrArg Int32.toInt (rd_w k1068 (rd_o k1062 (rd_s k1061) rfl) rfl); have z_ := w_lits; have zl_ := l_lits; omega), (by have z0_ := congrArg Int32.toInt (rd_w k1068 (rd_o k1062 (rd_o k1061 (rd_o k1033 z1017 rfl) rfl) rfl) rfl); have z1_ := congrArg Int32.toInt (rd_w k1068 (rd_o k1062 (rd_o k1061 (rd_o k1033 ef1021 rfl) rfl) rfl) rfl); have z2_ := congrArg Int32.toInt ef1069; have z3_ := congrArg Int32.toInt (rd_w k1068 (rd_s k1062) rfl); have z4_ := congrArg Int32.toInt (rd_w k1068 (rd_o k1062 (rd_s k1061) rfl) rfl); have z_ := w_lits; have zl_ := l_lits; omega)⟩
                  refine ev_putW (l := 0) (u := 160) hJ1068 rfl b1071 (by decide) (by decide) rfl rfl rfl fl_X10_210 rfl rfl rfl rfl rfl (fun h1072 hJ1072 k1072 => ?_)
                  exact ev_vret rfl rfl trivial ⟨rfl, rfl, hJ1072, (by have z0_ := congrArg Int32.toInt (rd_o k1072 (rd_w k1068 (rd_o k1062 (rd_o k1061 (rd_o k1033 z1017 rfl) rfl) rfl) rfl) rfl); have z1_ := congrArg Int32.toInt (rd_s k1072); have z_ := w_lits; have zl_ := l_lits; omega), (by have z0_ := congrArg Int32.toInt (rd_o k1072 ef1069 rfl); have z_ := w_lits; have zl_ := l_lits; omega), (by have z0_ := congrArg Int32.toInt (rd_s k1072); have z1_ := congrArg Int32.toInt (rd_o k1072 ef1069 rfl); have z2_ := congrArg Int32.toInt (rd_o k1072 (rd_w k1068 (rd_o k1062 (rd_s k1061) rfl) rfl) rfl); have z_ := w_lits; have zl_ := l_lits; omega), (by have z0_ := congrArg Int32.toInt (rd_s k1072); have z_ := w_lits; have zl_ := l_lits; omega), (by have z0_ := congrArg Int32.toInt (rd_o k1072 ef1069 rfl); have z1_ := congrArg Int32.toInt (rd_o k1072 (rd_w k1068 (rd_s k1062) rfl) rfl); have z2_ := congrArg Int32.toInt (rd_o k1072 (rd_w k1068 (rd_o k1062 (rd_s k1061) rfl) rfl) rfl); have z_ := w_lits; have zl_ := l_lits; omega)⟩
                · have z1066 := w_ne c1063
                  rw [show (40 : Int32).toInt = 40 from by decide] at z1066
                  refine ev_iload_n rfl rfl rfl ?_
                  refine ev_bipush (v := 41) rfl rfl (by decide) ?_
                  refine ev_icmp_eq rfl rfl (fun c1073 => ?_) (fun c1073 => ?_)
                  · have b1074 : B r1035 41 41 := R_eqX b1037 (by decide : B 41 41 41) c1073
                    have z1075 := congrArg Int32.toInt c1073
                    rw [show (41 : Int32).toInt = 41 from by decide] at z1075
                    refine ev_iconst (v := 1) rfl rfl (by decide) ?_
                    refine ev_goto rfl rfl ?_
                    refine ev_iconst (v := 1) rfl rfl (by decide) ?_
                    have z1077 := congrArg Int32.toInt (rd_o k1062 (rd_o k1061 (rd_o k1033 z1018 rfl) rfl) rfl)
                    refine ev_V2K hJ1062 rfl rfl rfl lk_X10_230 vt_X10_wants rfl rfl rfl rfl rfl (w_X10_wants_63 L b h1062 hJ1062.1 1 ((by decide : B 1 1 1).mono (by decide) (by decide)) 1 ((by decide : B 1 1 1).mono (by decide) (by decide))) (fun h1078 hJ1078 k1078 m1078 => ?_)
                    obtain ⟨f1079, ef1079⟩ : ∃ f_, h1078 63 21 = f_ := ⟨_, rfl⟩
                    have bf1079 : B f1079 0 6 := by have z_ := hJ1078.1 63 21; rw [ef1079] at z_; exact z_
                    have zf1079 := congrArg Int32.toInt ef1079
                    refine ev_aload_n rfl rfl rfl ?_
                    refine ev_dup rfl rfl rfl ?_
                    refine ev_getV (v := f1021) rfl rfl fl_X10_210 rfl rfl rfl (rd_w k1078 (rd_o k1062 (rd_o k1061 (rd_o k1033 ef1021 rfl) rfl) rfl) rfl) ?_
                    refine ev_iconst (v := 1) rfl rfl (by decide) ?_
                    refine ev_iaddB (l := 1) (u := 161) rfl rfl bf1021 (by decide : B 1 1 1) (by decide) (by decide) (by decide) (by decide) (fun v1080 b1080 e1080 g1080 => ?_)
                    have e1080x := e1080; rw [show (1 : Int32).toInt = 1 from by decide] at e1080x
                    have b1081 : B v1080 0 160 := ⟨(by have z0_ := congrArg Int32.toInt (rd_w k1078 (rd_o k1062 (rd_o k1061 (rd_o k1033 z1017 rfl) rfl) rfl) rfl); have z1_ := congrArg Int32.toInt (rd_w k1078 (rd_o k1062 (rd_o k1061 (rd_o k1033 ef1021 rfl) rfl) rfl) rfl); have z2_ := congrArg Int32.toInt ef1079; have z3_ := congrArg Int32.toInt (rd_w k1078 (rd_s k1062) rfl); have z4_ := congrArg Int32.toInt (rd_w k1078 (rd_o k1062 (rd_s k1061) rfl) rfl); have z_ := w_lits; have zl_ := l_lits; omega), (by have z0_ := congrArg Int32.toInt (rd_w k1078 (rd_o k1062 (rd_o k1061 (rd_o k1033 z1017 rfl) rfl) rfl) rfl); have z1_ := congrArg Int32.toInt (rd_w k1078 (rd_o k1062 (rd_o k1061 (rd_o k1033 ef1021 rfl) rfl) rfl) rfl); have z2_ := congrArg Int32.toInt ef1079; have z3_ := congrArg Int32.toInt (rd_w k1078 (rd_s k1062) rfl); have z4_ := congrArg Int32.toInt (rd_w k1078 (rd_o k1062 (rd_s k1061) rfl) rfl); have z_ := w_lits; have zl_ := l_lits; omega)⟩
                    refine ev_putW (l := 0) (u := 160) hJ1078 rfl b1081 (by decide) (by decide) rfl rfl rfl fl_X10_210 rfl rfl rfl rfl rfl (fun h1082 hJ1082 k1082 => ?_)
                    exact ev_vret rfl rfl trivial ⟨rfl, rfl, hJ1082, (by have z0_ := congrArg Int32.toInt (rd_o k1082 (rd_w k1078 (rd_o k1062 (rd_o k1061 (rd_o k1033 z1017 rfl) rfl) rfl) rfl) rfl); have z1_ := congrArg Int32.toInt (rd_s k1082); have z_ := w_lits; have zl_ := l_lits; omega), (by have z0_ := congrArg Int32.toInt (rd_o k1082 ef1079 rfl); have z_ := w_lits; have zl_ := l_lits; omega), (by have z0_ := congrArg Int32.toInt (rd_s k1082); have z1_ := congrArg Int32.toInt (rd_o k1082 ef1079 rfl); have z2_ := congrArg Int32.toInt (rd_o k1082 (rd_w k1078 (rd_o k1062 (rd_s k1061) rfl) rfl) rfl); have z_ := w_lits; have zl_ := l_lits; omega), (by have z0_ := congrArg Int32.toInt (rd_s k1082); have z_ := w_lits; have zl_ := l_lits; omega), (by have z0_ := congrArg Int32.toInt (rd_o k1082 ef1079 rfl); have z1_ := congrArg Int32.toInt (rd_o k1082 (rd_w k1078 (rd_s k1062) rfl) rfl); have z2_ := congrArg Int32.toInt (rd_o k1082 (rd_w k1078 (rd_o k1062 (rd_s k1061) rfl) rfl) rfl); have z_ := w_lits; have zl_ := l_lits; omega)⟩
                  · have z1076 := w_ne c1073
                    rw [show (41 : Int32).toInt = 41 from by decide] at z1076
                    refine ev_iload_n rfl rfl rfl ?_
                    refine ev_bipush (v := 46) rfl rfl (by decide) ?_
                    refine ev_icmp_ne rfl rfl (fun c1083 => ?_) (fun c1083 => ?_)
                    · have z1084 := w_ne c1083
                      rw [show (46 : Int32).toInt = 46 from by decide] at z1084
                      refine ev_iconst (v := 0) rfl rfl (by decide) ?_
                      refine ev_iconst (v := 1) rfl rfl (by decide) ?_
                      have z1087 := congrArg Int32.toInt (rd_o k1062 (rd_o k1061 (rd_o k1033 z1018 rfl) rfl) rfl)
                      refine ev_V2K hJ1062 rfl rfl rfl lk_X10_230 vt_X10_wants rfl rfl rfl rfl rfl (w_X10_wants_63 L b h1062 hJ1062.1 0 ((by decide : B 0 0 0).mono (by decide) (by decide)) 1 ((by decide : B 1 1 1).mono (by decide) (by decide))) (fun h1088 hJ1088 k1088 m1088 => ?_)
                      obtain ⟨f1089, ef1089⟩ : ∃ f_, h1088 63 21 = f_ := ⟨_, rfl⟩
                      have bf1089 : B f1089 0 6 := by have z_ := hJ1088.1 63 21; rw [ef1089] at z_; exact z_
                      have zf1089 := congrArg Int32.toInt ef1089
                      refine ev_aload_n rfl rfl rfl ?_
                      refine ev_dup rfl rfl rfl ?_
                      refine ev_getV (v := f1021) rfl rfl fl_X10_210 rfl rfl rfl (rd_w k1088 (rd_o k1062 (rd_o k1061 (rd_o k1033 ef1021 rfl) rfl) rfl) rfl) ?_
                      refine ev_iconst (v := 1) rfl rfl (by decide) ?_
                      refine ev_iaddB (l := 1) (u := 161) rfl rfl bf1021 (by decide : B 1 1 1) (by decide) (by decide) (by decide) (by decide) (fun v1090 b1090 e1090 g1090 => ?_)
                      have e1090x := e1090; rw [show (1 : Int32).toInt = 1 from by decide] at e1090x
                      have b1091 : B v1090 0 160 := ⟨(by have z0_ := congrArg Int32.toInt (rd_w k1088 (rd_o k1062 (rd_o k1061 (rd_o k1033 z1017 rfl) rfl) rfl) rfl); have z1_ := congrArg Int32.toInt (rd_w k1088 (rd_o k1062 (rd_o k1061 (rd_o k1033 ef1021 rfl) rfl) rfl) rfl); have z2_ := congrArg Int32.toInt ef1089; have z3_ := congrArg Int32.toInt (rd_w k1088 (rd_s k1062) rfl); have z4_ := congrArg Int32.toInt (rd_w k1088 (rd_o k1062 (rd_s k1061) rfl) rfl); have z_ := w_lits; have zl_ := l_lits; omega), (by have z0_ := congrArg Int32.toInt (rd_w k1088 (rd_o k1062 (rd_o k1061 (rd_o k1033 z1017 rfl) rfl) rfl) rfl); have z1_ := congrArg Int32.toInt (rd_w k1088 (rd_o k1062 (rd_o k1061 (rd_o k1033 ef1021 rfl) rfl) rfl) rfl); have z2_ := congrArg Int32.toInt ef1089; have z3_ := congrArg Int32.toInt (rd_w k1088 (rd_s k1062) rfl); have z4_ := congrArg Int32.toInt (rd_w k1088 (rd_o k1062 (rd_s k1061) rfl) rfl); have z_ := w_lits; have zl_ := l_lits; omega)⟩
                      refine ev_putW (l := 0) (u := 160) hJ1088 rfl b1091 (by decide) (by decide) rfl rfl rfl fl_X10_210 rfl rfl rfl rfl rfl (fun h1092 hJ1092 k1092 => ?_)
                      exact ev_vret rfl rfl trivial ⟨rfl, rfl, hJ1092, (by have z0_ := congrArg Int32.toInt (rd_o k1092 (rd_w k1088 (rd_o k1062 (rd_o k1061 (rd_o k1033 z1017 rfl) rfl) rfl) rfl) rfl); have z1_ := congrArg Int32.toInt (rd_s k1092); have z_ := w_lits; have zl_ := l_lits; omega), (by have z0_ := congrArg Int32.toInt (rd_o k1092 ef1089 rfl); have z_ := w_lits; have zl_ := l_lits; omega), (by have z0_ := congrArg Int32.toInt (rd_s k1092); have z1_ := congrArg Int32.toInt (rd_o k1092 ef1089 rfl); have z2_ := congrArg Int32.toInt (rd_o k1092 (rd_w k1088 (rd_o k1062 (rd_s k1061) rfl) rfl) rfl); have z_ := w_lits; have zl_ := l_lits; omega), (by have z0_ := congrArg Int32.toInt (rd_s k1092); have z_ := w_lits; have zl_ := l_lits; omega), (by have z0_ := congrArg Int32.toInt (rd_o k1092 ef1089 rfl); have z1_ := congrArg Int32.toInt (rd_o k1092 (rd_w k1088 (rd_s k1062) rfl) rfl); have z2_ := congrArg Int32.toInt (rd_o k1092 (rd_w k1088 (rd_o k1062 (rd_s k1061) rfl) rfl) rfl); have z_ := w_lits; have zl_ := l_lits; omega)⟩
                    · have b1085 : B r1035 46 46 := R_eqX b1037 (by decide : B 46 46 46) c1083
                      have z1086 := congrArg Int32.toInt c1083
                      rw [show (46 : Int32).toInt = 46 from by decide] at z1086
                      refine ev_iconst (v := 1) rfl rfl (by decide) ?_
                      refine ev_goto rfl rfl ?_
                      refine ev_iconst (v := 1) rfl rfl (by decide) ?_
                      have z1093 := congrArg Int32.toInt (rd_o k1062 (rd_o k1061 (rd_o k1033 z1018 rfl) rfl) rfl)
                      refine ev_V2K hJ1062 rfl rfl rfl lk_X10_230 vt_X10_wants rfl rfl rfl rfl rfl (w_X10_wants_63 L b h1062 hJ1062.1 1 ((by decide : B 1 1 1).mono (by decide) (by decide)) 1 ((by decide : B 1 1 1).mono (by decide) (by decide))) (fun h1094 hJ1094 k1094 m1094 => ?_)
                      obtain ⟨f1095, ef1095⟩ : ∃ f_, h1094 63 21 = f_ := ⟨_, rfl⟩
                      have bf1095 : B f1095 0 6 := by have z_ := hJ1094.1 63 21; rw [ef1095] at z_; exact z_
                      have zf1095 := congrArg Int32.toInt ef1095
                      refine ev_aload_n rfl rfl rfl ?_
                      refine ev_dup rfl rfl rfl ?_
                      refine ev_getV (v := f1021) rfl rfl fl_X10_210 rfl rfl rfl (rd_w k1094 (rd_o k1062 (rd_o k1061 (rd_o k1033 ef1021 rfl) rfl) rfl) rfl) ?_
                      refine ev_iconst (v := 1) rfl rfl (by decide) ?_
                      refine ev_iaddB (l := 1) (u := 161) rfl rfl bf1021 (by decide : B 1 1 1) (by decide) (by decide) (by decide) (by decide) (fun v1096 b1096 e1096 g1096 => ?_)
                      have e1096x := e1096; rw [show (1 : Int32).toInt = 1 from by decide] at e1096x
                      have b1097 : B v1096 0 160 := ⟨(by have z0_ := congrArg Int32.toInt (rd_w k1094 (rd_o k1062 (rd_o k1061 (rd_o k1033 z1017 rfl) rfl) rfl) rfl); have z1_ := congrArg Int32.toInt (rd_w k1094 (rd_o k1062 (rd_o k1061 (rd_o k1033 ef1021 rfl) rfl) rfl) rfl); have z2_ := congrArg Int32.toInt ef1095; have z3_ := congrArg Int32.toInt (rd_w k1094 (rd_s k1062) rfl); have z4_ := congrArg Int32.toInt (rd_w k1094 (rd_o k1062 (rd_s k1061) rfl) rfl); have z_ := w_lits; have zl_ := l_lits; omega), (by have z0_ := congrArg Int32.toInt (rd_w k1094 (rd_o k1062 (rd_o k1061 (rd_o k1033 z1017 rfl) rfl) rfl) rfl); have z1_ := congrArg Int32.toInt (rd_w k1094 (rd_o k1062 (rd_o k1061 (rd_o k1033 ef1021 rfl) rfl) rfl) rfl); have z2_ := congrArg Int32.toInt ef1095; have z3_ := congrArg Int32.toInt (rd_w k1094 (rd_s k1062) rfl); have z4_ := congrArg Int32.toInt (rd_w k1094 (rd_o k1062 (rd_s k1061) rfl) rfl); have z_ := w_lits; have zl_ := l_lits; omega)⟩
                      refine ev_putW (l := 0) (u := 160) hJ1094 rfl b1097 (by decide) (by decide) rfl rfl rfl fl_X10_210 rfl rfl rfl rfl rfl (fun h1098 hJ1098 k1098 => ?_)
                      exact ev_vret rfl rfl trivial ⟨rfl, rfl, hJ1098, (by have z0_ := congrArg Int32.toInt (rd_o k1098 (rd_w k1094 (rd_o k1062 (rd_o k1061 (rd_o k1033 z1017 rfl) rfl) rfl) rfl) rfl); have z1_ := congrArg Int32.toInt (rd_s k1098); have z_ := w_lits; have zl_ := l_lits; omega), (by have z0_ := congrArg Int32.toInt (rd_o k1098 ef1095 rfl); have z_ := w_lits; have zl_ := l_lits; omega), (by have z0_ := congrArg Int32.toInt (rd_s k1098); have z1_ := congrArg Int32.toInt (rd_o k1098 ef1095 rfl); have z2_ := congrArg Int32.toInt (rd_o k1098 (rd_w k1094 (rd_o k1062 (rd_s k1061) rfl) rfl) rfl); have z_ := w_lits; have zl_ := l_lits; omega), (by have z0_ := congrArg Int32.toInt (rd_s k1098); have z_ := w_lits; have zl_ := l_lits; omega), (by have z0_ := congrArg Int32.toInt (rd_o k1098 ef1095 rfl); have z1_ := congrArg Int32.toInt (rd_o k1098 (rd_w k1094 (rd_s k1062) rfl) rfl); have z2_ := congrArg Int32.toInt (rd_o k1098 (rd_w k1094 (rd_o k1062 (rd_s k1061) rfl) rfl) rfl); have z_ := w_lits; have zl_ := l_lits; omega)⟩
              · have b1058 : B r1054 1 1 := R_neL b1054 (by decide : B 0 0 0) c1055 (by decide)
                have b1059 : B r1035 48 57 := p1054_0 c1055
                have z1060 := w_ne c1055
                rw [show (0 : Int32).toInt = 0 from by decide] at z1060
                refine ev_aload_n rfl rfl rfl ?_
                refine ev_iconst (v := 2) rfl rfl (by decide) ?_
                refine ev_putW (l := 0) (u := 3) hJ1033 rfl (by decide : B 2 2 2) (by decide) (by decide) rfl rfl rfl fl_X10_204 rfl rfl rfl rfl rfl (fun h1099 hJ1099 k1099 => ?_)
                refine ev_aload_n rfl rfl rfl ?_
                refine ev_iconst (v := 0) rfl rfl (by decide) ?_
                refine ev_putW (l := (-2147483648)) (u := 2147483647) hJ1099 rfl (by decide : B 0 0 0) (by decide) (by decide) rfl rfl rfl fl_X10_207 rfl rfl rfl rfl rfl (fun h1100 hJ1100 k1100 => ?_)
                refine ev_aload_n rfl rfl rfl ?_
                refine ev_aload_n rfl rfl rfl ?_
                refine ev_getV (v := f1021) rfl rfl fl_X10_210 rfl rfl rfl (rd_o k1100 (rd_o k1099 (rd_o k1033 ef1021 rfl) rfl) rfl) ?_
                have z1101 := congrArg Int32.toInt (rd_o k1100 (rd_o k1099 (rd_o k1033 z1017 rfl) rfl) rfl)
                refine ev_V1P rfl rfl lk_X10_213 vt_X10_look rfl rfl rfl rfl rfl (w_X10_look_63 L b h1100 hJ1100.1 f1021 bf1021 t1027 (rd_o k1100 (rd_o k1099 (rd_o k1033 et1027 rfl) rfl) rfl)) (fun r1102 q1102 => ?_)
                obtain ⟨b1102, pp1102_0, pp1102_1⟩ := q1102
                refine ev_i2l rfl rfl ?_
                have z1103 := Int32.toInt_toInt64 r1102
                have z1103b := B.any r1102
                refine ev_ldc2 (v := 48) rfl rfl kc_X10_226 ?_
                refine ev_ldc2 (v := 57) rfl rfl kc_X10_228 ?_
                have z1104 := congrArg Int32.toInt (rd_o k1100 (rd_o k1099 (rd_o k1033 ef1021 rfl) rfl) rfl)
                have z1105 := congrArg Int32.toInt (rd_o k1100 (rd_o k1099 (rd_o k1033 z1018 rfl) rfl) rfl)
                have z1106 := congrArg Int32.toInt (rd_s k1100)
                have z1107 := congrArg Int32.toInt (rd_o k1100 (rd_s k1099) rfl)
                refine ev_S3P rfl rfl lk_X10_124 st_X10_in rfl rfl (w_inR (G0 L b) h1100 r1102 48 57 (by decide : BL 48 48 48) (by decide : BL 57 57 57)) (fun r1108 q1108 => ?_)
                obtain ⟨b1108, p1108_0, pp1108_0, pp1108_1⟩ := q1108
                refine ev_if_eq rfl rfl (fun c1109 => False.elim (by have z0_ := congrArg Int32.toInt (rd_o k1100 (rd_o k1099 (rd_o k1033 z1017 rfl) rfl) rfl); have z1_ := congrArg Int32.toInt (rd_o k1100 (rd_o k1099 (rd_o k1033 ef1021 rfl) rfl) rfl); have z2_ := congrArg Int32.toInt (rd_o k1100 (rd_o k1099 (rd_o k1033 z1018 rfl) rfl) rfl); have z3_ := congrArg Int32.toInt (rd_s k1100); have z4_ := congrArg Int32.toInt (rd_o k1100 (rd_s k1099) rfl); have z5_ := congrArg Int32.toInt c1109; have z_ := w_lits; have zl_ := l_lits; omega)) (fun c1109 => ?_)
                have b1112 : B r1108 1 1 := R_neL b1108 (by decide : B 0 0 0) c1109 (by decide)
                have b1113 : B r1102 48 57 := p1108_0 c1109
                have z1114 := w_ne c1109
                rw [show (0 : Int32).toInt = 0 from by decide] at z1114
                refine ev_aload_n rfl rfl rfl ?_
                refine ev_aload_n rfl rfl rfl ?_
                refine ev_getV (v := f1021) rfl rfl fl_X10_210 rfl rfl rfl (rd_o k1100 (rd_o k1099 (rd_o k1033 ef1021 rfl) rfl) rfl) ?_
                refine ev_aload_n rfl rfl rfl ?_
                refine ev_getV (v := f1021) rfl rfl fl_X10_197 rfl rfl rfl (rd_o k1100 (rd_o k1099 (rd_s k1033) rfl) rfl) ?_
                refine ev_isubB (l := -160) (u := 160) rfl rfl bf1021 bf1021 (by decide) (by decide) (by decide) (by decide) (fun v1115 b1115 e1115 g1115 => ?_)
                refine ev_iconst (v := 2) rfl rfl (by decide) ?_
                refine ev_icmp_ge rfl rfl (fun c1116 => ?_) (fun c1116 => ?_)
                · have b1117 : B v1115 2 160 := R_leY (by decide : B 2 2 2) b1115 c1116 (by decide)
                  have z1118 := w_le c1116
                  rw [show (2 : Int32).toInt = 2 from by decide] at z1118
                  refine ev_aload_n rfl rfl rfl ?_
                  refine ev_getV (v := 0) rfl rfl fl_X10_207 rfl rfl rfl (rd_s k1100) ?_
                  refine ev_putW (l := (-2147483648)) (u := 2147483647) hJ1100 rfl (by decide : B 0 0 0) (by decide) (by decide) rfl rfl rfl fl_X10_207 rfl rfl rfl rfl rfl (fun h1121 hJ1121 k1121 => ?_)
                  refine ev_aload_n rfl rfl rfl ?_
                  refine ev_dup rfl rfl rfl ?_
                  refine ev_getV (v := f1021) rfl rfl fl_X10_210 rfl rfl rfl (rd_o k1121 (rd_o k1100 (rd_o k1099 (rd_o k1033 ef1021 rfl) rfl) rfl) rfl) ?_
                  refine ev_iconst (v := 1) rfl rfl (by decide) ?_
                  refine ev_iaddB (l := 1) (u := 161) rfl rfl bf1021 (by decide : B 1 1 1) (by decide) (by decide) (by decide) (by decide) (fun v1122 b1122 e1122 g1122 => ?_)
                  have e1122x := e1122; rw [show (1 : Int32).toInt = 1 from by decide] at e1122x
                  have b1123 : B v1122 0 160 := ⟨(by have z0_ := congrArg Int32.toInt (rd_o k1121 (rd_o k1100 (rd_o k1099 (rd_o k1033 z1017 rfl) rfl) rfl) rfl); have z1_ := congrArg Int32.toInt (rd_o k1121 (rd_o k1100 (rd_o k1099 (rd_o k1033 ef1021 rfl) rfl) rfl) rfl); have z2_ := congrArg Int32.toInt (rd_o k1121 (rd_o k1100 (rd_o k1099 (rd_o k1033 z1018 rfl) rfl) rfl) rfl); have z3_ := congrArg Int32.toInt (rd_s k1121); have z4_ := congrArg Int32.toInt (rd_o k1121 (rd_o k1100 (rd_s k1099) rfl) rfl); have z_ := w_lits; have zl_ := l_lits; omega), (by have z0_ := congrArg Int32.toInt (rd_o k1121 (rd_o k1100 (rd_o k1099 (rd_o k1033 z1017 rfl) rfl) rfl) rfl); have z1_ := congrArg Int32.toInt (rd_o k1121 (rd_o k1100 (rd_o k1099 (rd_o k1033 ef1021 rfl) rfl) rfl) rfl); have z2_ := congrArg Int32.toInt (rd_o k1121 (rd_o k1100 (rd_o k1099 (rd_o k1033 z1018 rfl) rfl) rfl) rfl); have z3_ := congrArg Int32.toInt (rd_s k1121); have z4_ := congrArg Int32.toInt (rd_o k1121 (rd_o k1100 (rd_s k1099) rfl) rfl); have z_ := w_lits; have zl_ := l_lits; omega)⟩
                  refine ev_putW (l := 0) (u := 160) hJ1121 rfl b1123 (by decide) (by decide) rfl rfl rfl fl_X10_210 rfl rfl rfl rfl rfl (fun h1124 hJ1124 k1124 => ?_)
                  refine ev_goto rfl rfl ?_
                  have lp108_1244 : ∀ (n : Nat) (h1245 : Hp), JW [(63, 17), (63, 18), (63, 19), (63, 20), (63, 21), (63, 22)] h h1245 → (h1245 63 16 = f1) → (h1245 63 21 = f3) → (h1245 63 19 = 2) → (h1245 72 (Int32.toNatClampNeg f1021) = t1027) → (h1245 63 18 = f1021) → ((h1245 63 17).toInt ≤ (h1245 63 16).toInt) → ((h 63 17).toInt + 1 ≤ (h1245 63 17).toInt) → 160 + 1 - (h1245 63 17).toInt ≤ (n : Int) → EvQ mi_X10_next 108 [some (.ref 63), some (.int r1035)] [] (G0 L b) h1245 0 0 (QK (fun z : Hp => ((z 63 17).toInt ≤ (z 63 16).toInt) ∧ ((z 63 21).toInt = 0 → (h 63 21).toInt = 0) ∧ ((¬ (z 63 21).toInt = 0) ∨ (z 63 19).toInt = 0 ∨ (h 63 17).toInt + 1 ≤ (z 63 17).toInt) ∧ ((h 63 17).toInt ≤ (z 63 17).toInt) ∧ ((z 63 21).toInt = 0 → (z 63 19).toInt = 1 → 0 ≤ (z 63 20).toInt ∧ (z 63 20).toInt ≤ 4095)) [(63, 17), (63, 18), (63, 19), (63, 20), (63, 21), (63, 22)] (G0 L b) h) := by
                    intro n
                    induction n with
                    | zero =>
                      intro h1245 hJ1246 z1247 z1248 z1249 z1250 z1251 y108_0 y108_1 hm108
                      obtain ⟨f1252, ef1252⟩ : ∃ f_, h1245 63 17 = f_ := ⟨_, rfl⟩
                      have bf1252 : B f1252 0 160 := by
                        have z_ := hJ1246.1 63 17
                        rw [ef1252] at z_
                        exact z_
                      rw [ef1252] at hm108
                      exact absurd hm108 (L_zero bf1252 (by decide))
                    | succ n ih108 =>
                      intro h1245 hJ1246 z1247 z1248 z1249 z1250 z1251 y108_0 y108_1 hm108
                      obtain ⟨f1252, ef1252⟩ : ∃ f_, h1245 63 17 = f_ := ⟨_, rfl⟩
                      have bf1252 : B f1252 0 160 := by
                        have z_ := hJ1246.1 63 17
                        rw [ef1252] at z_
                        exact z_
                      rw [ef1252] at hm108
                      obtain ⟨f1253, ef1253⟩ : ∃ f_, h1245 63 20 = f_ := ⟨_, rfl⟩
                      have zf1253 := congrArg Int32.toInt ef1253
                      have z1254 := congrArg Int32.toInt z1247
                      have z1255 := congrArg Int32.toInt ef1252
                      have z1256 := congrArg Int32.toInt z1248
                      have z1257 := congrArg Int32.toInt z1249
                      refine ev_aload_n rfl rfl rfl ?_
                      refine ev_aload_n rfl rfl rfl ?_
                      refine ev_getV (v := f1252) rfl rfl fl_X10_210 rfl rfl rfl ef1252 ?_
                      obtain ⟨t1258, et1258⟩ : ∃ f_, h1245 72 (Int32.toNatClampNeg f1252) = f_ := ⟨_, rfl⟩
                      have bt1258 : B t1258 0 255 := by have z_ := hJ1246.1 72 (Int32.toNatClampNeg f1252); rw [et1258] at z_; exact z_
                      refine ev_V1P rfl rfl lk_X10_213 vt_X10_look rfl rfl rfl rfl rfl (w_X10_look_63 L b h1245 hJ1246.1 f1252 bf1252 t1258 et1258) (fun r1259 q1259 => ?_)
                      obtain ⟨b1259, pp1259_0, pp1259_1⟩ := q1259
                      refine ev_i2l rfl rfl ?_
                      have z1260 := Int32.toInt_toInt64 r1259
                      have z1260b := B.any r1259
                      refine ev_ldc2 (v := 48) rfl rfl kc_X10_226 ?_
                      refine ev_ldc2 (v := 57) rfl rfl kc_X10_228 ?_
                      refine ev_S3P rfl rfl lk_X10_124 st_X10_in rfl rfl (w_inR (G0 L b) h1245 r1259 48 57 (by decide : BL 48 48 48) (by decide : BL 57 57 57)) (fun r1261 q1261 => ?_)
                      obtain ⟨b1261, p1261_0, pp1261_0, pp1261_1⟩ := q1261
                      refine ev_if_eq rfl rfl (fun c1262 => ?_) (fun c1262 => ?_)
                      · have b1263 : B r1261 0 0 := R_eqX b1261 (by decide : B 0 0 0) c1262
                        have z1264 := congrArg Int32.toInt c1262
                        rw [show (0 : Int32).toInt = 0 from by decide] at z1264
                        refine ev_aload_n rfl rfl rfl ?_
                        refine ev_aload_n rfl rfl rfl ?_
                        refine ev_getV (v := f1252) rfl rfl fl_X10_210 rfl rfl rfl ef1252 ?_
                        refine ev_aload_n rfl rfl rfl ?_
                        refine ev_getV (v := f1021) rfl rfl fl_X10_197 rfl rfl rfl z1251 ?_
                        refine ev_isubB (l := -160) (u := 160) rfl rfl bf1252 bf1021 (by decide) (by decide) (by decide) (by decide) (fun v1268 b1268 e1268 g1268 => ?_)
                        refine ev_iconst (v := 2) rfl rfl (by decide) ?_
                        refine ev_icmp_gt rfl rfl (fun c1269 => ?_) (fun c1269 => ?_)
                        · have b1270 : B v1268 3 160 := R_ltY (by decide : B 2 2 2) b1268 c1269 (by decide)
                          have z1271 := w_lt c1269
                          rw [show (2 : Int32).toInt = 2 from by decide] at z1271
                          refine ev_iconst (v := 0) rfl rfl (by decide) ?_
                          refine ev_iconst (v := 1) rfl rfl (by decide) ?_
                          refine ev_V2K hJ1246 rfl rfl rfl lk_X10_230 vt_X10_wants rfl rfl rfl rfl rfl (w_X10_wants_63 L b h1245 hJ1246.1 0 ((by decide : B 0 0 0).mono (by decide) (by decide)) 1 ((by decide : B 1 1 1).mono (by decide) (by decide))) (fun h1274 hJ1274 k1274 m1274 => ?_)
                          obtain ⟨f1275, ef1275⟩ : ∃ f_, h1274 63 21 = f_ := ⟨_, rfl⟩
                          have bf1275 : B f1275 0 6 := by have z_ := hJ1274.1 63 21; rw [ef1275] at z_; exact z_
                          have zf1275 := congrArg Int32.toInt ef1275
                          refine ev_goto rfl rfl ?_
                          exact ev_vret rfl rfl trivial ⟨rfl, rfl, hJ1274, (by have z0_ := congrArg Int32.toInt (rd_w k1274 z1247 rfl); have z1_ := congrArg Int32.toInt (rd_w k1274 ef1252 rfl); have z_ := w_lits; have zl_ := l_lits; omega), (by have z0_ := congrArg Int32.toInt ef1275; have z_ := w_lits; have zl_ := l_lits; omega), (by have z0_ := congrArg Int32.toInt (rd_w k1274 ef1252 rfl); have z1_ := congrArg Int32.toInt ef1275; have z2_ := congrArg Int32.toInt (rd_w k1274 z1249 rfl); have z_ := w_lits; have zl_ := l_lits; omega), (by have z0_ := congrArg Int32.toInt (rd_w k1274 ef1252 rfl); have z_ := w_lits; have zl_ := l_lits; omega), (by have z0_ := congrArg Int32.toInt ef1275; have z1_ := congrArg Int32.toInt (rd_w k1274 ef1253 rfl); have z2_ := congrArg Int32.toInt (rd_w k1274 z1249 rfl); have z_ := w_lits; have zl_ := l_lits; omega)⟩
                        · have b1272 : B v1268 (-160) 2 := R_leX b1268 (by decide : B 2 2 2) (Int32.not_lt.mp c1269) (by decide)
                          have z1273 := w_le (Int32.not_lt.mp c1269)
                          rw [show (2 : Int32).toInt = 2 from by decide] at z1273
                          refine ev_iconst (v := 1) rfl rfl (by decide) ?_
                          refine ev_goto rfl rfl ?_
                          refine ev_iconst (v := 1) rfl rfl (by decide) ?_
                          refine ev_V2K hJ1246 rfl rfl rfl lk_X10_230 vt_X10_wants rfl rfl rfl rfl rfl (w_X10_wants_63 L b h1245 hJ1246.1 1 ((by decide : B 1 1 1).mono (by decide) (by decide)) 1 ((by decide : B 1 1 1).mono (by decide) (by decide))) (fun h1276 hJ1276 k1276 m1276 => ?_)
                          obtain ⟨f1277, ef1277⟩ : ∃ f_, h1276 63 21 = f_ := ⟨_, rfl⟩
                          have bf1277 : B f1277 0 6 := by have z_ := hJ1276.1 63 21; rw [ef1277] at z_; exact z_
                          have zf1277 := congrArg Int32.toInt ef1277
                          refine ev_goto rfl rfl ?_
                          exact ev_vret rfl rfl trivial ⟨rfl, rfl, hJ1276, (by have z0_ := congrArg Int32.toInt (rd_w k1276 z1247 rfl); have z1_ := congrArg Int32.toInt (rd_w k1276 ef1252 rfl); have z_ := w_lits; have zl_ := l_lits; omega), (by have z0_ := congrArg Int32.toInt ef1277; have z_ := w_lits; have zl_ := l_lits; omega), (by have z0_ := congrArg Int32.toInt (rd_w k1276 ef1252 rfl); have z1_ := congrArg Int32.toInt ef1277; have z2_ := congrArg Int32.toInt (rd_w k1276 z1249 rfl); have z_ := w_lits; have zl_ := l_lits; omega), (by have z0_ := congrArg Int32.toInt (rd_w k1276 ef1252 rfl); have z_ := w_lits; have zl_ := l_lits; omega), (by have z0_ := congrArg Int32.toInt ef1277; have z1_ := congrArg Int32.toInt (rd_w k1276 ef1253 rfl); have z2_ := congrArg Int32.toInt (rd_w k1276 z1249 rfl); have z_ := w_lits; have zl_ := l_lits; omega)⟩
                      · have b1265 : B r1261 1 1 := R_neL b1261 (by decide : B 0 0 0) c1262 (by decide)
                        have b1266 : B r1259 48 57 := p1261_0 c1262
                        have z1267 := w_ne c1262
                        rw [show (0 : Int32).toInt = 0 from by decide] at z1267
                        refine ev_aload_n rfl rfl rfl ?_
                        refine ev_aload_n rfl rfl rfl ?_
                        refine ev_getV (v := f1252) rfl rfl fl_X10_210 rfl rfl rfl ef1252 ?_
                        refine ev_aload_n rfl rfl rfl ?_
                        refine ev_getV (v := f1021) rfl rfl fl_X10_197 rfl rfl rfl z1251 ?_
                        refine ev_isubB (l := -160) (u := 160) rfl rfl bf1252 bf1021 (by decide) (by decide) (by decide) (by decide) (fun v1278 b1278 e1278 g1278 => ?_)
                        refine ev_iconst (v := 2) rfl rfl (by decide) ?_
                        refine ev_icmp_ge rfl rfl (fun c1279 => ?_) (fun c1279 => ?_)
                        · have b1280 : B v1278 2 160 := R_leY (by decide : B 2 2 2) b1278 c1279 (by decide)
                          have z1281 := w_le c1279
                          rw [show (2 : Int32).toInt = 2 from by decide] at z1281
                          refine ev_aload_n rfl rfl rfl ?_
                          refine ev_getV (v := f1253) rfl rfl fl_X10_207 rfl rfl rfl ef1253 ?_
                          refine ev_putW (l := (-2147483648)) (u := 2147483647) hJ1246 rfl (B.any f1253) (by decide) (by decide) rfl rfl rfl fl_X10_207 rfl rfl rfl rfl rfl (fun h1284 hJ1284 k1284 => ?_)
                          refine ev_aload_n rfl rfl rfl ?_
                          refine ev_dup rfl rfl rfl ?_
                          refine ev_getV (v := f1252) rfl rfl fl_X10_210 rfl rfl rfl (rd_o k1284 ef1252 rfl) ?_
                          refine ev_iconst (v := 1) rfl rfl (by decide) ?_
                          refine ev_iaddB (l := 1) (u := 161) rfl rfl bf1252 (by decide : B 1 1 1) (by decide) (by decide) (by decide) (by decide) (fun v1285 b1285 e1285 g1285 => ?_)
                          have e1285x := e1285; rw [show (1 : Int32).toInt = 1 from by decide] at e1285x
                          have b1286 : B v1285 0 160 := ⟨(by have z0_ := congrArg Int32.toInt (rd_o k1284 z1247 rfl); have z1_ := congrArg Int32.toInt (rd_o k1284 ef1252 rfl); have z2_ := congrArg Int32.toInt (rd_o k1284 z1248 rfl); have z3_ := congrArg Int32.toInt (rd_s k1284); have z4_ := congrArg Int32.toInt (rd_o k1284 z1249 rfl); have z_ := w_lits; have zl_ := l_lits; omega), (by have z0_ := congrArg Int32.toInt (rd_o k1284 z1247 rfl); have z1_ := congrArg Int32.toInt (rd_o k1284 ef1252 rfl); have z2_ := congrArg Int32.toInt (rd_o k1284 z1248 rfl); have z3_ := congrArg Int32.toInt (rd_s k1284); have z4_ := congrArg Int32.toInt (rd_o k1284 z1249 rfl); have z_ := w_lits; have zl_ := l_lits; omega)⟩
                          refine ev_putW (l := 0) (u := 160) hJ1284 rfl b1286 (by decide) (by decide) rfl rfl rfl fl_X10_210 rfl rfl rfl rfl rfl (fun h1287 hJ1287 k1287 => ?_)
                          refine ev_goto rfl rfl ?_
                          exact (ih108 h1287 hJ1287 (rd_o k1287 (rd_o k1284 z1247 rfl) rfl) (rd_o k1287 (rd_o k1284 z1248 rfl) rfl) (rd_o k1287 (rd_o k1284 z1249 rfl) rfl) (rd_o k1287 (rd_o k1284 z1250 rfl) rfl) (rd_o k1287 (rd_o k1284 z1251 rfl) rfl) (by have z0_ := congrArg Int32.toInt (rd_o k1287 (rd_o k1284 z1247 rfl) rfl); have z1_ := congrArg Int32.toInt (rd_s k1287); have z_ := w_lits; have zl_ := l_lits; omega) (by have z0_ := congrArg Int32.toInt (rd_s k1287); have z_ := w_lits; have zl_ := l_lits; omega) (by rw [(rd_s k1287)]; exact L_up hm108 (e_p1 e1285 (by decide))))
                        · have b1282 : B v1278 (-160) 1 := R_ltX b1278 (by decide : B 2 2 2) (Int32.not_le.mp c1279) (by decide)
                          have z1283 := w_lt (Int32.not_le.mp c1279)
                          rw [show (2 : Int32).toInt = 2 from by decide] at z1283
                          refine ev_bipush (v := 10) rfl rfl (by decide) ?_
                          refine ev_aload_n rfl rfl rfl ?_
                          refine ev_getV (v := f1253) rfl rfl fl_X10_207 rfl rfl rfl ef1253 ?_
                          refine ev_imulA rfl rfl (fun v1288 => ?_)
                          refine ev_aload_n rfl rfl rfl ?_
                          refine ev_aload_n rfl rfl rfl ?_
                          refine ev_getV (v := f1252) rfl rfl fl_X10_210 rfl rfl rfl ef1252 ?_
                          refine ev_V1P rfl rfl lk_X10_213 vt_X10_look rfl rfl rfl rfl rfl (w_X10_look_63 L b h1245 hJ1246.1 f1252 bf1252 t1258 et1258) (fun r1289 q1289 => ?_)
                          obtain ⟨b1289, pp1289_0, pp1289_1⟩ := q1289
                          refine ev_iaddA rfl rfl (fun v1290 g1290 => ?_)
                          refine ev_bipush (v := 48) rfl rfl (by decide) ?_
                          refine ev_isubA rfl rfl (fun v1291 g1291 => ?_)
                          refine ev_goto rfl rfl ?_
                          refine ev_putW (l := (-2147483648)) (u := 2147483647) hJ1246 rfl (B.any v1291) (by decide) (by decide) rfl rfl rfl fl_X10_207 rfl rfl rfl rfl rfl (fun h1292 hJ1292 k1292 => ?_)
                          refine ev_aload_n rfl rfl rfl ?_
                          refine ev_dup rfl rfl rfl ?_
                          refine ev_getV (v := f1252) rfl rfl fl_X10_210 rfl rfl rfl (rd_o k1292 ef1252 rfl) ?_
                          refine ev_iconst (v := 1) rfl rfl (by decide) ?_
                          refine ev_iaddB (l := 1) (u := 161) rfl rfl bf1252 (by decide : B 1 1 1) (by decide) (by decide) (by decide) (by decide) (fun v1293 b1293 e1293 g1293 => ?_)
                          have e1293x := e1293; rw [show (1 : Int32).toInt = 1 from by decide] at e1293x
                          have b1294 : B v1293 0 160 := ⟨(by have z0_ := congrArg Int32.toInt (rd_o k1292 z1247 rfl); have z1_ := congrArg Int32.toInt (rd_o k1292 ef1252 rfl); have z2_ := congrArg Int32.toInt (rd_o k1292 z1248 rfl); have z3_ := congrArg Int32.toInt (rd_s k1292); have z4_ := congrArg Int32.toInt (rd_o k1292 z1249 rfl); have z_ := w_lits; have zl_ := l_lits; omega), (by have z0_ := congrArg Int32.toInt (rd_o k1292 z1247 rfl); have z1_ := congrArg Int32.toInt (rd_o k1292 ef1252 rfl); have z2_ := congrArg Int32.toInt (rd_o k1292 z1248 rfl); have z3_ := congrArg Int32.toInt (rd_s k1292); have z4_ := congrArg Int32.toInt (rd_o k1292 z1249 rfl); have z_ := w_lits; have zl_ := l_lits; omega)⟩
                          refine ev_putW (l := 0) (u := 160) hJ1292 rfl b1294 (by decide) (by decide) rfl rfl rfl fl_X10_210 rfl rfl rfl rfl rfl (fun h1295 hJ1295 k1295 => ?_)
                          refine ev_goto rfl rfl ?_
                          exact (ih108 h1295 hJ1295 (rd_o k1295 (rd_o k1292 z1247 rfl) rfl) (rd_o k1295 (rd_o k1292 z1248 rfl) rfl) (rd_o k1295 (rd_o k1292 z1249 rfl) rfl) (rd_o k1295 (rd_o k1292 z1250 rfl) rfl) (rd_o k1295 (rd_o k1292 z1251 rfl) rfl) (by have z0_ := congrArg Int32.toInt (rd_o k1295 (rd_o k1292 z1247 rfl) rfl); have z1_ := congrArg Int32.toInt (rd_s k1295); have z_ := w_lits; have zl_ := l_lits; omega) (by have z0_ := congrArg Int32.toInt (rd_s k1295); have z_ := w_lits; have zl_ := l_lits; omega) (by rw [(rd_s k1295)]; exact L_up hm108 (e_p1 e1293 (by decide))))
                  exact (lp108_1244 161 h1124 hJ1124 (rd_o k1124 (rd_o k1121 (rd_o k1100 (rd_o k1099 (rd_o k1033 z1017 rfl) rfl) rfl) rfl) rfl) (rd_o k1124 (rd_o k1121 (rd_o k1100 (rd_o k1099 (rd_o k1033 z1018 rfl) rfl) rfl) rfl) rfl) (rd_o k1124 (rd_o k1121 (rd_o k1100 (rd_s k1099) rfl) rfl) rfl) (rd_o k1124 (rd_o k1121 (rd_o k1100 (rd_o k1099 (rd_o k1033 et1027 rfl) rfl) rfl) rfl) rfl) (rd_o k1124 (rd_o k1121 (rd_o k1100 (rd_o k1099 (rd_s k1033) rfl) rfl) rfl) rfl) (by have z0_ := congrArg Int32.toInt (rd_o k1124 (rd_o k1121 (rd_o k1100 (rd_o k1099 (rd_o k1033 z1017 rfl) rfl) rfl) rfl) rfl); have z1_ := congrArg Int32.toInt (rd_s k1124); have z_ := w_lits; have zl_ := l_lits; omega) (by have z0_ := congrArg Int32.toInt (rd_s k1124); have z_ := w_lits; have zl_ := l_lits; omega) (by rw [(rd_s k1124)]; exact L_init b1123 (by decide)))
                · have b1119 : B v1115 (-160) 1 := R_ltX b1115 (by decide : B 2 2 2) (Int32.not_le.mp c1116) (by decide)
                  have z1120 := w_lt (Int32.not_le.mp c1116)
                  rw [show (2 : Int32).toInt = 2 from by decide] at z1120
                  refine ev_bipush (v := 10) rfl rfl (by decide) ?_
                  refine ev_aload_n rfl rfl rfl ?_
                  refine ev_getV (v := 0) rfl rfl fl_X10_207 rfl rfl rfl (rd_s k1100) ?_
                  refine ev_imulB (l := 0) (u := 0) rfl rfl (by decide : B 10 10 10) (by decide : B 0 0 0) (by decide) (by decide) (by decide) (by decide) (by decide) (fun v1296 b1296 e1296 g1296 => ?_)
                  rw [show (0 : Int32).toInt = 0 from by decide] at e1296
                  refine ev_aload_n rfl rfl rfl ?_
                  refine ev_aload_n rfl rfl rfl ?_
                  refine ev_getV (v := f1021) rfl rfl fl_X10_210 rfl rfl rfl (rd_o k1100 (rd_o k1099 (rd_o k1033 ef1021 rfl) rfl) rfl) ?_
                  refine ev_V1P rfl rfl lk_X10_213 vt_X10_look rfl rfl rfl rfl rfl (w_X10_look_63 L b h1100 hJ1100.1 f1021 bf1021 t1027 (rd_o k1100 (rd_o k1099 (rd_o k1033 et1027 rfl) rfl) rfl)) (fun r1297 q1297 => ?_)
                  obtain ⟨b1297, pp1297_0, pp1297_1⟩ := q1297
                  refine ev_iaddB (l := -1) (u := 255) rfl rfl b1296 b1297 (by decide) (by decide) (by decide) (by decide) (fun v1298 b1298 e1298 g1298 => ?_)
                  refine ev_bipush (v := 48) rfl rfl (by decide) ?_
                  refine ev_isubB (l := -49) (u := 207) rfl rfl b1298 (by decide : B 48 48 48) (by decide) (by decide) (by decide) (by decide) (fun v1299 b1299 e1299 g1299 => ?_)
                  have e1299x := e1299; rw [show (48 : Int32).toInt = 48 from by decide] at e1299x
                  refine ev_goto rfl rfl ?_
                  refine ev_putW (l := (-2147483648)) (u := 2147483647) hJ1100 rfl b1299 (by decide) (by decide) rfl rfl rfl fl_X10_207 rfl rfl rfl rfl rfl (fun h1300 hJ1300 k1300 => ?_)
                  refine ev_aload_n rfl rfl rfl ?_
                  refine ev_dup rfl rfl rfl ?_
                  refine ev_getV (v := f1021) rfl rfl fl_X10_210 rfl rfl rfl (rd_o k1300 (rd_o k1100 (rd_o k1099 (rd_o k1033 ef1021 rfl) rfl) rfl) rfl) ?_
                  refine ev_iconst (v := 1) rfl rfl (by decide) ?_
                  refine ev_iaddB (l := 1) (u := 161) rfl rfl bf1021 (by decide : B 1 1 1) (by decide) (by decide) (by decide) (by decide) (fun v1301 b1301 e1301 g1301 => ?_)
                  have e1301x := e1301; rw [show (1 : Int32).toInt = 1 from by decide] at e1301x
                  have b1302 : B v1301 0 160 := ⟨(by have z0_ := congrArg Int32.toInt (rd_o k1300 (rd_o k1100 (rd_o k1099 (rd_o k1033 z1017 rfl) rfl) rfl) rfl); have z1_ := congrArg Int32.toInt (rd_o k1300 (rd_o k1100 (rd_o k1099 (rd_o k1033 ef1021 rfl) rfl) rfl) rfl); have z2_ := congrArg Int32.toInt (rd_o k1300 (rd_o k1100 (rd_o k1099 (rd_o k1033 z1018 rfl) rfl) rfl) rfl); have z3_ := congrArg Int32.toInt (rd_s k1300); have z4_ := congrArg Int32.toInt (rd_o k1300 (rd_o k1100 (rd_s k1099) rfl) rfl); have z_ := w_lits; have zl_ := l_lits; omega), (by have z0_ := congrArg Int32.toInt (rd_o k1300 (rd_o k1100 (rd_o k1099 (rd_o k1033 z1017 rfl) rfl) rfl) rfl); have z1_ := congrArg Int32.toInt (rd_o k1300 (rd_o k1100 (rd_o k1099 (rd_o k1033 ef1021 rfl) rfl) rfl) rfl); have z2_ := congrArg Int32.toInt (rd_o k1300 (rd_o k1100 (rd_o k1099 (rd_o k1033 z1018 rfl) rfl) rfl) rfl); have z3_ := congrArg Int32.toInt (rd_s k1300); have z4_ := congrArg Int32.toInt (rd_o k1300 (rd_o k1100 (rd_s k1099) rfl) rfl); have z_ := w_lits; have zl_ := l_lits; omega)⟩
                  refine ev_putW (l := 0) (u := 160) hJ1300 rfl b1302 (by decide) (by decide) rfl rfl rfl fl_X10_210 rfl rfl rfl rfl rfl (fun h1303 hJ1303 k1303 => ?_)
                  refine ev_goto rfl rfl ?_
                  have lp108_1423 : ∀ (n : Nat) (h1424 : Hp), JW [(63, 17), (63, 18), (63, 19), (63, 20), (63, 21), (63, 22)] h h1424 → (h1424 63 16 = f1) → (h1424 63 21 = f3) → (h1424 63 19 = 2) → (h1424 72 (Int32.toNatClampNeg f1021) = t1027) → (h1424 63 18 = f1021) → ((h1424 63 17).toInt ≤ (h1424 63 16).toInt) → ((h 63 17).toInt + 1 ≤ (h1424 63 17).toInt) → 160 + 1 - (h1424 63 17).toInt ≤ (n : Int) → EvQ mi_X10_next 108 [some (.ref 63), some (.int r1035)] [] (G0 L b) h1424 0 0 (QK (fun z : Hp => ((z 63 17).toInt ≤ (z 63 16).toInt) ∧ ((z 63 21).toInt = 0 → (h 63 21).toInt = 0) ∧ ((¬ (z 63 21).toInt = 0) ∨ (z 63 19).toInt = 0 ∨ (h 63 17).toInt + 1 ≤ (z 63 17).toInt) ∧ ((h 63 17).toInt ≤ (z 63 17).toInt) ∧ ((z 63 21).toInt = 0 → (z 63 19).toInt = 1 → 0 ≤ (z 63 20).toInt ∧ (z 63 20).toInt ≤ 4095)) [(63, 17), (63, 18), (63, 19), (63, 20), (63, 21), (63, 22)] (G0 L b) h) := by
                    intro n
                    induction n with
                    | zero =>
                      intro h1424 hJ1425 z1426 z1427 z1428 z1429 z1430 y108_0 y108_1 hm108
                      obtain ⟨f1431, ef1431⟩ : ∃ f_, h1424 63 17 = f_ := ⟨_, rfl⟩
                      have bf1431 : B f1431 0 160 := by
                        have z_ := hJ1425.1 63 17
                        rw [ef1431] at z_
                        exact z_
                      rw [ef1431] at hm108
                      exact absurd hm108 (L_zero bf1431 (by decide))
                    | succ n ih108 =>
                      intro h1424 hJ1425 z1426 z1427 z1428 z1429 z1430 y108_0 y108_1 hm108
                      obtain ⟨f1431, ef1431⟩ : ∃ f_, h1424 63 17 = f_ := ⟨_, rfl⟩
                      have bf1431 : B f1431 0 160 := by
                        have z_ := hJ1425.1 63 17
                        rw [ef1431] at z_
                        exact z_
                      rw [ef1431] at hm108
                      obtain ⟨f1432, ef1432⟩ : ∃ f_, h1424 63 20 = f_ := ⟨_, rfl⟩
                      have zf1432 := congrArg Int32.toInt ef1432
                      have z1433 := congrArg Int32.toInt z1426
                      have z1434 := congrArg Int32.toInt ef1431
                      have z1435 := congrArg Int32.toInt z1427
                      have z1436 := congrArg Int32.toInt z1428
                      refine ev_aload_n rfl rfl rfl ?_
                      refine ev_aload_n rfl rfl rfl ?_
                      refine ev_getV (v := f1431) rfl rfl fl_X10_210 rfl rfl rfl ef1431 ?_
                      obtain ⟨t1437, et1437⟩ : ∃ f_, h1424 72 (Int32.toNatClampNeg f1431) = f_ := ⟨_, rfl⟩
                      have bt1437 : B t1437 0 255 := by have z_ := hJ1425.1 72 (Int32.toNatClampNeg f1431); rw [et1437] at z_; exact z_
                      refine ev_V1P rfl rfl lk_X10_213 vt_X10_look rfl rfl rfl rfl rfl (w_X10_look_63 L b h1424 hJ1425.1 f1431 bf1431 t1437 et1437) (fun r1438 q1438 => ?_)
                      obtain ⟨b1438, pp1438_0, pp1438_1⟩ := q1438
                      refine ev_i2l rfl rfl ?_
                      have z1439 := Int32.toInt_toInt64 r1438
                      have z1439b := B.any r1438
                      refine ev_ldc2 (v := 48) rfl rfl kc_X10_226 ?_
                      refine ev_ldc2 (v := 57) rfl rfl kc_X10_228 ?_
                      refine ev_S3P rfl rfl lk_X10_124 st_X10_in rfl rfl (w_inR (G0 L b) h1424 r1438 48 57 (by decide : BL 48 48 48) (by decide : BL 57 57 57)) (fun r1440 q1440 => ?_)
                      obtain ⟨b1440, p1440_0, pp1440_0, pp1440_1⟩ := q1440
                      refine ev_if_eq rfl rfl (fun c1441 => ?_) (fun c1441 => ?_)
                      · have b1442 : B r1440 0 0 := R_eqX b1440 (by decide : B 0 0 0) c1441
                        have z1443 := congrArg Int32.toInt c1441
                        rw [show (0 : Int32).toInt = 0 from by decide] at z1443
                        refine ev_aload_n rfl rfl rfl ?_
                        refine ev_aload_n rfl rfl rfl ?_
                        refine ev_getV (v := f1431) rfl rfl fl_X10_210 rfl rfl rfl ef1431 ?_
                        refine ev_aload_n rfl rfl rfl ?_
                        refine ev_getV (v := f1021) rfl rfl fl_X10_197 rfl rfl rfl z1430 ?_
                        refine ev_isubB (l := -160) (u := 160) rfl rfl bf1431 bf1021 (by decide) (by decide) (by decide) (by decide) (fun v1447 b1447 e1447 g1447 => ?_)
                        refine ev_iconst (v := 2) rfl rfl (by decide) ?_
                        refine ev_icmp_gt rfl rfl (fun c1448 => ?_) (fun c1448 => ?_)
                        · have b1449 : B v1447 3 160 := R_ltY (by decide : B 2 2 2) b1447 c1448 (by decide)
                          have z1450 := w_lt c1448
                          rw [show (2 : Int32).toInt = 2 from by decide] at z1450
                          refine ev_iconst (v := 0) rfl rfl (by decide) ?_
                          refine ev_iconst (v := 1) rfl rfl (by decide) ?_
                          refine ev_V2K hJ1425 rfl rfl rfl lk_X10_230 vt_X10_wants rfl rfl rfl rfl rfl (w_X10_wants_63 L b h1424 hJ1425.1 0 ((by decide : B 0 0 0).mono (by decide) (by decide)) 1 ((by decide : B 1 1 1).mono (by decide) (by decide))) (fun h1453 hJ1453 k1453 m1453 => ?_)
                          obtain ⟨f1454, ef1454⟩ : ∃ f_, h1453 63 21 = f_ := ⟨_, rfl⟩
                          have bf1454 : B f1454 0 6 := by have z_ := hJ1453.1 63 21; rw [ef1454] at z_; exact z_
                          have zf1454 := congrArg Int32.toInt ef1454
                          refine ev_goto rfl rfl ?_
                          exact ev_vret rfl rfl trivial ⟨rfl, rfl, hJ1453, (by have z0_ := congrArg Int32.toInt (rd_w k1453 z1426 rfl); have z1_ := congrArg Int32.toInt (rd_w k1453 ef1431 rfl); have z_ := w_lits; have zl_ := l_lits; omega), (by have z0_ := congrArg Int32.toInt ef1454; have z_ := w_lits; have zl_ := l_lits; omega), (by have z0_ := congrArg Int32.toInt (rd_w k1453 ef1431 rfl); have z1_ := congrArg Int32.toInt ef1454; have z2_ := congrArg Int32.toInt (rd_w k1453 z1428 rfl); have z_ := w_lits; have zl_ := l_lits; omega), (by have z0_ := congrArg Int32.toInt (rd_w k1453 ef1431 rfl); have z_ := w_lits; have zl_ := l_lits; omega), (by have z0_ := congrArg Int32.toInt ef1454; have z1_ := congrArg Int32.toInt (rd_w k1453 ef1432 rfl); have z2_ := congrArg Int32.toInt (rd_w k1453 z1428 rfl); have z_ := w_lits; have zl_ := l_lits; omega)⟩
                        · have b1451 : B v1447 (-160) 2 := R_leX b1447 (by decide : B 2 2 2) (Int32.not_lt.mp c1448) (by decide)
                          have z1452 := w_le (Int32.not_lt.mp c1448)
                          rw [show (2 : Int32).toInt = 2 from by decide] at z1452
                          refine ev_iconst (v := 1) rfl rfl (by decide) ?_
                          refine ev_goto rfl rfl ?_
                          refine ev_iconst (v := 1) rfl rfl (by decide) ?_
                          refine ev_V2K hJ1425 rfl rfl rfl lk_X10_230 vt_X10_wants rfl rfl rfl rfl rfl (w_X10_wants_63 L b h1424 hJ1425.1 1 ((by decide : B 1 1 1).mono (by decide) (by decide)) 1 ((by decide : B 1 1 1).mono (by decide) (by decide))) (fun h1455 hJ1455 k1455 m1455 => ?_)
                          obtain ⟨f1456, ef1456⟩ : ∃ f_, h1455 63 21 = f_ := ⟨_, rfl⟩
                          have bf1456 : B f1456 0 6 := by have z_ := hJ1455.1 63 21; rw [ef1456] at z_; exact z_
                          have zf1456 := congrArg Int32.toInt ef1456
                          refine ev_goto rfl rfl ?_
                          exact ev_vret rfl rfl trivial ⟨rfl, rfl, hJ1455, (by have z0_ := congrArg Int32.toInt (rd_w k1455 z1426 rfl); have z1_ := congrArg Int32.toInt (rd_w k1455 ef1431 rfl); have z_ := w_lits; have zl_ := l_lits; omega), (by have z0_ := congrArg Int32.toInt ef1456; have z_ := w_lits; have zl_ := l_lits; omega), (by have z0_ := congrArg Int32.toInt (rd_w k1455 ef1431 rfl); have z1_ := congrArg Int32.toInt ef1456; have z2_ := congrArg Int32.toInt (rd_w k1455 z1428 rfl); have z_ := w_lits; have zl_ := l_lits; omega), (by have z0_ := congrArg Int32.toInt (rd_w k1455 ef1431 rfl); have z_ := w_lits; have zl_ := l_lits; omega), (by have z0_ := congrArg Int32.toInt ef1456; have z1_ := congrArg Int32.toInt (rd_w k1455 ef1432 rfl); have z2_ := congrArg Int32.toInt (rd_w k1455 z1428 rfl); have z_ := w_lits; have zl_ := l_lits; omega)⟩
                      · have b1444 : B r1440 1 1 := R_neL b1440 (by decide : B 0 0 0) c1441 (by decide)
                        have b1445 : B r1438 48 57 := p1440_0 c1441
                        have z1446 := w_ne c1441
                        rw [show (0 : Int32).toInt = 0 from by decide] at z1446
                        refine ev_aload_n rfl rfl rfl ?_
                        refine ev_aload_n rfl rfl rfl ?_
                        refine ev_getV (v := f1431) rfl rfl fl_X10_210 rfl rfl rfl ef1431 ?_
                        refine ev_aload_n rfl rfl rfl ?_
                        refine ev_getV (v := f1021) rfl rfl fl_X10_197 rfl rfl rfl z1430 ?_
                        refine ev_isubB (l := -160) (u := 160) rfl rfl bf1431 bf1021 (by decide) (by decide) (by decide) (by decide) (fun v1457 b1457 e1457 g1457 => ?_)
                        refine ev_iconst (v := 2) rfl rfl (by decide) ?_
                        refine ev_icmp_ge rfl rfl (fun c1458 => ?_) (fun c1458 => ?_)
                        · have b1459 : B v1457 2 160 := R_leY (by decide : B 2 2 2) b1457 c1458 (by decide)
                          have z1460 := w_le c1458
                          rw [show (2 : Int32).toInt = 2 from by decide] at z1460
                          refine ev_aload_n rfl rfl rfl ?_
                          refine ev_getV (v := f1432) rfl rfl fl_X10_207 rfl rfl rfl ef1432 ?_
                          refine ev_putW (l := (-2147483648)) (u := 2147483647) hJ1425 rfl (B.any f1432) (by decide) (by decide) rfl rfl rfl fl_X10_207 rfl rfl rfl rfl rfl (fun h1463 hJ1463 k1463 => ?_)
                          refine ev_aload_n rfl rfl rfl ?_
                          refine ev_dup rfl rfl rfl ?_
                          refine ev_getV (v := f1431) rfl rfl fl_X10_210 rfl rfl rfl (rd_o k1463 ef1431 rfl) ?_
                          refine ev_iconst (v := 1) rfl rfl (by decide) ?_
                          refine ev_iaddB (l := 1) (u := 161) rfl rfl bf1431 (by decide : B 1 1 1) (by decide) (by decide) (by decide) (by decide) (fun v1464 b1464 e1464 g1464 => ?_)
                          have e1464x := e1464; rw [show (1 : Int32).toInt = 1 from by decide] at e1464x
                          have b1465 : B v1464 0 160 := ⟨(by have z0_ := congrArg Int32.toInt (rd_o k1463 z1426 rfl); have z1_ := congrArg Int32.toInt (rd_o k1463 ef1431 rfl); have z2_ := congrArg Int32.toInt (rd_o k1463 z1427 rfl); have z3_ := congrArg Int32.toInt (rd_s k1463); have z4_ := congrArg Int32.toInt (rd_o k1463 z1428 rfl); have z_ := w_lits; have zl_ := l_lits; omega), (by have z0_ := congrArg Int32.toInt (rd_o k1463 z1426 rfl); have z1_ := congrArg Int32.toInt (rd_o k1463 ef1431 rfl); have z2_ := congrArg Int32.toInt (rd_o k1463 z1427 rfl); have z3_ := congrArg Int32.toInt (rd_s k1463); have z4_ := congrArg Int32.toInt (rd_o k1463 z1428 rfl); have z_ := w_lits; have zl_ := l_lits; omega)⟩
                          refine ev_putW (l := 0) (u := 160) hJ1463 rfl b1465 (by decide) (by decide) rfl rfl rfl fl_X10_210 rfl rfl rfl rfl rfl (fun h1466 hJ1466 k1466 => ?_)
                          refine ev_goto rfl rfl ?_
                          exact (ih108 h1466 hJ1466 (rd_o k1466 (rd_o k1463 z1426 rfl) rfl) (rd_o k1466 (rd_o k1463 z1427 rfl) rfl) (rd_o k1466 (rd_o k1463 z1428 rfl) rfl) (rd_o k1466 (rd_o k1463 z1429 rfl) rfl) (rd_o k1466 (rd_o k1463 z1430 rfl) rfl) (by have z0_ := congrArg Int32.toInt (rd_o k1466 (rd_o k1463 z1426 rfl) rfl); have z1_ := congrArg Int32.toInt (rd_s k1466); have z_ := w_lits; have zl_ := l_lits; omega) (by have z0_ := congrArg Int32.toInt (rd_s k1466); have z_ := w_lits; have zl_ := l_lits; omega) (by rw [(rd_s k1466)]; exact L_up hm108 (e_p1 e1464 (by decide))))
                        · have b1461 : B v1457 (-160) 1 := R_ltX b1457 (by decide : B 2 2 2) (Int32.not_le.mp c1458) (by decide)
                          have z1462 := w_lt (Int32.not_le.mp c1458)
                          rw [show (2 : Int32).toInt = 2 from by decide] at z1462
                          refine ev_bipush (v := 10) rfl rfl (by decide) ?_
                          refine ev_aload_n rfl rfl rfl ?_
                          refine ev_getV (v := f1432) rfl rfl fl_X10_207 rfl rfl rfl ef1432 ?_
                          refine ev_imulA rfl rfl (fun v1467 => ?_)
                          refine ev_aload_n rfl rfl rfl ?_
                          refine ev_aload_n rfl rfl rfl ?_
                          refine ev_getV (v := f1431) rfl rfl fl_X10_210 rfl rfl rfl ef1431 ?_
                          refine ev_V1P rfl rfl lk_X10_213 vt_X10_look rfl rfl rfl rfl rfl (w_X10_look_63 L b h1424 hJ1425.1 f1431 bf1431 t1437 et1437) (fun r1468 q1468 => ?_)
                          obtain ⟨b1468, pp1468_0, pp1468_1⟩ := q1468
                          refine ev_iaddA rfl rfl (fun v1469 g1469 => ?_)
                          refine ev_bipush (v := 48) rfl rfl (by decide) ?_
                          refine ev_isubA rfl rfl (fun v1470 g1470 => ?_)
                          refine ev_goto rfl rfl ?_
                          refine ev_putW (l := (-2147483648)) (u := 2147483647) hJ1425 rfl (B.any v1470) (by decide) (by decide) rfl rfl rfl fl_X10_207 rfl rfl rfl rfl rfl (fun h1471 hJ1471 k1471 => ?_)
                          refine ev_aload_n rfl rfl rfl ?_
                          refine ev_dup rfl rfl rfl ?_
                          refine ev_getV (v := f1431) rfl rfl fl_X10_210 rfl rfl rfl (rd_o k1471 ef1431 rfl) ?_
                          refine ev_iconst (v := 1) rfl rfl (by decide) ?_
                          refine ev_iaddB (l := 1) (u := 161) rfl rfl bf1431 (by decide : B 1 1 1) (by decide) (by decide) (by decide) (by decide) (fun v1472 b1472 e1472 g1472 => ?_)
                          have e1472x := e1472; rw [show (1 : Int32).toInt = 1 from by decide] at e1472x
                          have b1473 : B v1472 0 160 := ⟨(by have z0_ := congrArg Int32.toInt (rd_o k1471 z1426 rfl); have z1_ := congrArg Int32.toInt (rd_o k1471 ef1431 rfl); have z2_ := congrArg Int32.toInt (rd_o k1471 z1427 rfl); have z3_ := congrArg Int32.toInt (rd_s k1471); have z4_ := congrArg Int32.toInt (rd_o k1471 z1428 rfl); have z_ := w_lits; have zl_ := l_lits; omega), (by have z0_ := congrArg Int32.toInt (rd_o k1471 z1426 rfl); have z1_ := congrArg Int32.toInt (rd_o k1471 ef1431 rfl); have z2_ := congrArg Int32.toInt (rd_o k1471 z1427 rfl); have z3_ := congrArg Int32.toInt (rd_s k1471); have z4_ := congrArg Int32.toInt (rd_o k1471 z1428 rfl); have z_ := w_lits; have zl_ := l_lits; omega)⟩
                          refine ev_putW (l := 0) (u := 160) hJ1471 rfl b1473 (by decide) (by decide) rfl rfl rfl fl_X10_210 rfl rfl rfl rfl rfl (fun h1474 hJ1474 k1474 => ?_)
                          refine ev_goto rfl rfl ?_
                          exact (ih108 h1474 hJ1474 (rd_o k1474 (rd_o k1471 z1426 rfl) rfl) (rd_o k1474 (rd_o k1471 z1427 rfl) rfl) (rd_o k1474 (rd_o k1471 z1428 rfl) rfl) (rd_o k1474 (rd_o k1471 z1429 rfl) rfl) (rd_o k1474 (rd_o k1471 z1430 rfl) rfl) (by have z0_ := congrArg Int32.toInt (rd_o k1474 (rd_o k1471 z1426 rfl) rfl); have z1_ := congrArg Int32.toInt (rd_s k1474); have z_ := w_lits; have zl_ := l_lits; omega) (by have z0_ := congrArg Int32.toInt (rd_s k1474); have z_ := w_lits; have zl_ := l_lits; omega) (by rw [(rd_s k1474)]; exact L_up hm108 (e_p1 e1472 (by decide))))
                  exact (lp108_1423 161 h1303 hJ1303 (rd_o k1303 (rd_o k1300 (rd_o k1100 (rd_o k1099 (rd_o k1033 z1017 rfl) rfl) rfl) rfl) rfl) (rd_o k1303 (rd_o k1300 (rd_o k1100 (rd_o k1099 (rd_o k1033 z1018 rfl) rfl) rfl) rfl) rfl) (rd_o k1303 (rd_o k1300 (rd_o k1100 (rd_s k1099) rfl) rfl) rfl) (rd_o k1303 (rd_o k1300 (rd_o k1100 (rd_o k1099 (rd_o k1033 et1027 rfl) rfl) rfl) rfl) rfl) (rd_o k1303 (rd_o k1300 (rd_o k1100 (rd_o k1099 (rd_s k1033) rfl) rfl) rfl) rfl) (by have z0_ := congrArg Int32.toInt (rd_o k1303 (rd_o k1300 (rd_o k1100 (rd_o k1099 (rd_o k1033 z1017 rfl) rfl) rfl) rfl) rfl); have z1_ := congrArg Int32.toInt (rd_s k1303); have z_ := w_lits; have zl_ := l_lits; omega) (by have z0_ := congrArg Int32.toInt (rd_s k1303); have z_ := w_lits; have zl_ := l_lits; omega) (by rw [(rd_s k1303)]; exact L_init b1302 (by decide)))
            · have b1050 : B r1046 1 1 := R_neL b1046 (by decide : B 0 0 0) c1047 (by decide)
              have b1051 : B r1035 97 122 := p1046_0 c1047
              have z1052 := w_ne c1047
              rw [show (0 : Int32).toInt = 0 from by decide] at z1052
              refine ev_aload_n rfl rfl rfl ?_
              refine ev_V0K hJ1033 rfl rfl rfl lk_X10_223 vt_X10_readChord rfl rfl rfl rfl rfl (w_X10_readChord_63 L b h1033 hJ1033.1 t1027 (by rw [(rd_o k1033 ef1021 rfl)]; exact (rd_o k1033 et1027 rfl)) ⟨(by have z0_ := congrArg Int32.toInt (rd_o k1033 z1017 rfl); have z1_ := congrArg Int32.toInt (rd_o k1033 ef1021 rfl); have z2_ := congrArg Int32.toInt (rd_o k1033 z1018 rfl); have z3_ := congrArg Int32.toInt (rd_o k1033 z1019 rfl); have z4_ := congrArg Int32.toInt (rd_o k1033 z1020 rfl); have z_ := w_lits; have zl_ := l_lits; omega), (by have z0_ := congrArg Int32.toInt (rd_o k1033 z1017 rfl); have z1_ := congrArg Int32.toInt (rd_o k1033 ef1021 rfl); have z2_ := congrArg Int32.toInt (rd_o k1033 z1018 rfl); have z3_ := congrArg Int32.toInt (rd_o k1033 z1019 rfl); have z4_ := congrArg Int32.toInt (rd_o k1033 z1020 rfl); have z_ := w_lits; have zl_ := l_lits; omega)⟩ (by have z0_ := congrArg Int32.toInt (rd_o k1033 z1017 rfl); have z1_ := congrArg Int32.toInt (rd_o k1033 ef1021 rfl); have z_ := w_lits; have zl_ := l_lits; omega) (B.at (rd_o k1033 z1018 rfl) b7)) (fun h1475 hJ1475 k1475 m1475 => ?_)
              obtain ⟨m1475_0, m1475_1, m1475_2, m1475_3⟩ := m1475
              obtain ⟨f1476, ef1476⟩ : ∃ f_, h1475 63 17 = f_ := ⟨_, rfl⟩
              have bf1476 : B f1476 0 160 := by have z_ := hJ1475.1 63 17; rw [ef1476] at z_; exact z_
              have zf1476 := congrArg Int32.toInt ef1476
              obtain ⟨f1477, ef1477⟩ : ∃ f_, h1475 63 21 = f_ := ⟨_, rfl⟩
              have bf1477 : B f1477 0 6 := by have z_ := hJ1475.1 63 21; rw [ef1477] at z_; exact z_
              have zf1477 := congrArg Int32.toInt ef1477
              obtain ⟨f1478, ef1478⟩ : ∃ f_, h1475 63 20 = f_ := ⟨_, rfl⟩
              have zf1478 := congrArg Int32.toInt ef1478
              obtain ⟨f1479, ef1479⟩ : ∃ f_, h1475 63 19 = f_ := ⟨_, rfl⟩
              have bf1479 : B f1479 0 3 := by have z_ := hJ1475.1 63 19; rw [ef1479] at z_; exact z_
              have zf1479 := congrArg Int32.toInt ef1479
              have z1480 := congrArg Int32.toInt (rd_w k1475 (rd_o k1033 z1017 rfl) rfl)
              refine ev_goto rfl rfl ?_
              exact ev_vret rfl rfl trivial ⟨rfl, rfl, hJ1475, (by have z0_ := congrArg Int32.toInt (rd_w k1475 (rd_o k1033 z1017 rfl) rfl); have z1_ := congrArg Int32.toInt ef1476; have z_ := w_lits; have zl_ := l_lits; omega), (by have z0_ := congrArg Int32.toInt ef1477; have z_ := w_lits; have zl_ := l_lits; omega), (by have z0_ := congrArg Int32.toInt ef1476; have z1_ := congrArg Int32.toInt ef1477; have z2_ := congrArg Int32.toInt ef1479; have z_ := w_lits; have zl_ := l_lits; omega), (by have z0_ := congrArg Int32.toInt ef1476; have z_ := w_lits; have zl_ := l_lits; omega), (by have z0_ := congrArg Int32.toInt ef1477; have z1_ := congrArg Int32.toInt ef1478; have z2_ := congrArg Int32.toInt ef1479; have z_ := w_lits; have zl_ := l_lits; omega)⟩
          · have b1039 : B r1035 (-1) (-1) := R_ltX b1035 (by decide : B 0 0 0) (Int32.not_le.mp c1036) (by decide)
            have z1040 := w_lt (Int32.not_le.mp c1036)
            rw [show (0 : Int32).toInt = 0 from by decide] at z1040
            refine ev_aload_n rfl rfl rfl ?_
            refine ev_iconst (v := 0) rfl rfl (by decide) ?_
            refine ev_putW (l := 0) (u := 3) hJ1033 rfl (by decide : B 0 0 0) (by decide) (by decide) rfl rfl rfl fl_X10_204 rfl rfl rfl rfl rfl (fun h1481 hJ1481 k1481 => ?_)
            refine ev_goto rfl rfl ?_
            exact ev_vret rfl rfl trivial ⟨rfl, rfl, hJ1481, (by have z0_ := congrArg Int32.toInt (rd_o k1481 (rd_o k1033 z1017 rfl) rfl); have z1_ := congrArg Int32.toInt (rd_o k1481 (rd_o k1033 ef1021 rfl) rfl); have z_ := w_lits; have zl_ := l_lits; omega), (by have z0_ := congrArg Int32.toInt (rd_o k1481 (rd_o k1033 z1018 rfl) rfl); have z_ := w_lits; have zl_ := l_lits; omega), (by have z0_ := congrArg Int32.toInt (rd_o k1481 (rd_o k1033 ef1021 rfl) rfl); have z1_ := congrArg Int32.toInt (rd_o k1481 (rd_o k1033 z1018 rfl) rfl); have z2_ := congrArg Int32.toInt (rd_s k1481); have z_ := w_lits; have zl_ := l_lits; omega), (by have z0_ := congrArg Int32.toInt (rd_o k1481 (rd_o k1033 ef1021 rfl) rfl); have z_ := w_lits; have zl_ := l_lits; omega), (by have z0_ := congrArg Int32.toInt (rd_o k1481 (rd_o k1033 z1018 rfl) rfl); have z1_ := congrArg Int32.toInt (rd_o k1481 (rd_o k1033 z1019 rfl) rfl); have z2_ := congrArg Int32.toInt (rd_s k1481); have z_ := w_lits; have zl_ := l_lits; omega)⟩
        · have b1031 : B r1028 32 32 := R_eqX b1028 (by decide : B 32 32 32) c1029
          have z1032 := congrArg Int32.toInt c1029
          rw [show (32 : Int32).toInt = 32 from by decide] at z1032
          refine ev_aload_n rfl rfl rfl ?_
          refine ev_dup rfl rfl rfl ?_
          refine ev_getV (v := f1021) rfl rfl fl_X10_210 rfl rfl rfl ef1021 ?_
          refine ev_iconst (v := 1) rfl rfl (by decide) ?_
          refine ev_iaddB (l := 1) (u := 161) rfl rfl bf1021 (by decide : B 1 1 1) (by decide) (by decide) (by decide) (by decide) (fun v1482 b1482 e1482 g1482 => ?_)
          have e1482x := e1482; rw [show (1 : Int32).toInt = 1 from by decide] at e1482x
          have b1483 : B v1482 0 160 := ⟨(by have z0_ := congrArg Int32.toInt z1017; have z1_ := congrArg Int32.toInt ef1021; have z2_ := congrArg Int32.toInt z1018; have z3_ := congrArg Int32.toInt z1019; have z4_ := congrArg Int32.toInt z1020; have z_ := w_lits; have zl_ := l_lits; omega), (by have z0_ := congrArg Int32.toInt z1017; have z1_ := congrArg Int32.toInt ef1021; have z2_ := congrArg Int32.toInt z1018; have z3_ := congrArg Int32.toInt z1019; have z4_ := congrArg Int32.toInt z1020; have z_ := w_lits; have zl_ := l_lits; omega)⟩
          refine ev_putW (l := 0) (u := 160) hJ1016 rfl b1483 (by decide) (by decide) rfl rfl rfl fl_X10_210 rfl rfl rfl rfl rfl (fun h1484 hJ1484 k1484 => ?_)
          refine ev_goto rfl rfl ?_
          exact (ih8 h1484 hJ1484 (rd_o k1484 z1017 rfl) (rd_o k1484 z1018 rfl) (rd_o k1484 z1019 rfl) (rd_o k1484 z1020 rfl) (by have z0_ := congrArg Int32.toInt (rd_o k1484 z1017 rfl); have z1_ := congrArg Int32.toInt (rd_s k1484); have z_ := w_lits; have zl_ := l_lits; omega) (by have z0_ := congrArg Int32.toInt (rd_s k1484); have z_ := w_lits; have zl_ := l_lits; omega) (by rw [(rd_s k1484)]; exact L_up hm8 (e_p1 e1482 (by decide))))
    exact (lp8_1014 161 h hJ0 ef1 ef3 ef4 ef5 (by have z0_ := congrArg Int32.toInt ef1; have z1_ := congrArg Int32.toInt ef2; have z_ := w_lits; have zl_ := l_lits; omega) (by have z0_ := congrArg Int32.toInt ef2; have z_ := w_lits; have zl_ := l_lits; omega) (by rw [ef2]; exact L_init bf2 (by decide)))
  · have b9 : B f3 1 6 := R_ltY (by decide : B 0 0 0) bf3 (Int32.not_le.mp c6) (by decide)
    have z10 := w_lt (Int32.not_le.mp c6)
    rw [show (0 : Int32).toInt = 0 from by decide] at z10
    exact ev_vret rfl rfl trivial ⟨rfl, rfl, hJ0, (by have z0_ := congrArg Int32.toInt ef1; have z1_ := congrArg Int32.toInt ef2; have z_ := w_lits; have zl_ := l_lits; omega), (by have z0_ := congrArg Int32.toInt ef3; have z_ := w_lits; have zl_ := l_lits; omega), (by have z0_ := congrArg Int32.toInt ef2; have z1_ := congrArg Int32.toInt ef3; have z2_ := congrArg Int32.toInt ef5; have z_ := w_lits; have zl_ := l_lits; omega), (by have z0_ := congrArg Int32.toInt ef2; have z_ := w_lits; have zl_ := l_lits; omega), (by have z0_ := congrArg Int32.toInt ef3; have z1_ := congrArg Int32.toInt ef4; have z2_ := congrArg Int32.toInt ef5; have z_ := w_lits; have zl_ := l_lits; omega)⟩

