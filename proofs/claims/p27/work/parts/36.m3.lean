set_option maxRecDepth 100000 in
set_option maxHeartbeats 4000000 in
theorem w_X10_look_63 (L : Nat) (b : Bool) (h : Hp) (hB : Bx h) (a0 : Int32) (p0 : B a0 0 160) (t : Int32) (rt : h 72 a0.toNatClampNeg = t) : EvP mi_X10_look [.ref 63, .int a0] (G0 L b) h (fun r : Int32 => B r (-1) 255 ∧ (a0.toInt < (h 63 16).toInt → r.toInt = t.toInt) ∧ ((h 63 16).toInt ≤ a0.toInt → r.toInt = -1)) := by
  refine EvM.of2 (lo := [some (.ref 63), some (.int a0)]) pf_X10_look ok_X10_look rfl rfl ?_
  have bt : B t 0 255 := by have z_ := hB 72 a0.toNatClampNeg; rw [rt] at z_; exact z_
  obtain ⟨f1, ef1⟩ : ∃ f_, h 63 16 = f_ := ⟨_, rfl⟩
  have bf1 : B f1 0 160 := by have z_ := hB 63 16; rw [ef1] at z_; exact z_
  have zf1 := congrArg Int32.toInt ef1
  refine ev_iload_n rfl rfl rfl ?_
  refine ev_aload_n rfl rfl rfl ?_
  refine ev_getV (v := f1) rfl rfl fl_X10_186 rfl rfl rfl ef1 ?_
  refine ev_icmp_ge rfl rfl (fun c2 => ?_) (fun c2 => ?_)
  · have z3 := w_le c2
    refine ev_iconst (v := (-1)) rfl rfl (by decide) ?_
    exact ev_iret rfl rfl rfl ⟨⟨_, rfl, ⟨((by decide : B (-1) (-1) (-1)).mono (by decide) (by decide)), (by have z0_ := congrArg Int32.toInt ef1; have z_ := w_lits; have zl_ := l_lits; omega), (by have z0_ := congrArg Int32.toInt ef1; have z_ := w_lits; have zl_ := l_lits; omega)⟩⟩, rfl, rfl⟩
  · have b4 : B a0 0 159 := R_ltX p0 bf1 (Int32.not_le.mp c2) (by decide)
    have b5 : B f1 1 160 := R_ltY p0 bf1 (Int32.not_le.mp c2) (by decide)
    have z6 := w_lt (Int32.not_le.mp c2)
    refine ev_aload_n rfl rfl rfl ?_
    refine ev_getR (y := 72) rfl rfl fl_X10_48 rfl rfl rfl rfl ?_
    refine ev_iload_n rfl rfl rfl ?_
    refine ev_iadV (v := t) rfl rfl rfl (b4.vp (by decide) (by decide)) rfl rt ?_
    refine ev_goto rfl rfl ?_
    exact ev_iret rfl rfl rfl ⟨⟨_, rfl, ⟨(bt.mono (by decide) (by decide)), (by have z0_ := congrArg Int32.toInt ef1; have z_ := w_lits; have zl_ := l_lits; omega), (by have z0_ := congrArg Int32.toInt ef1; have z_ := w_lits; have zl_ := l_lits; omega)⟩⟩, rfl, rfl⟩

set_option maxRecDepth 100000 in
set_option maxHeartbeats 4000000 in
theorem w_X10_fails_63 (L : Nat) (b : Bool) (h : Hp) (hB : Bx h) (a0 : Int32) (p0 : B a0 1 6) (a1 : Int32) : EvK mi_X10_fails [.ref 63, .int a0, .int a1] (G0 L b) h (fun z : Hp => (¬ (z 63 21).toInt = 0)) [(63, 21), (63, 22)] := by
  refine EvM.of2 (lo := [some (.ref 63), some (.int a0), some (.int a1)]) pf_X10_fails ok_X10_fails rfl rfl ?_
  have hJ0 : JW [(63, 21), (63, 22)] h h := JW.refl hB
  obtain ⟨f1, ef1⟩ : ∃ f_, h 63 21 = f_ := ⟨_, rfl⟩
  have bf1 : B f1 0 6 := by have z_ := hJ0.1 63 21; rw [ef1] at z_; exact z_
  have zf1 := congrArg Int32.toInt ef1
  refine ev_aload_n rfl rfl rfl ?_
  refine ev_getV (v := f1) rfl rfl fl_X10_191 rfl rfl rfl ef1 ?_
  refine ev_if_ne rfl rfl (fun c2 => ?_) (fun c2 => ?_)
  · have b3 : B f1 1 6 := R_neL bf1 (by decide : B 0 0 0) c2 (by decide)
    have z4 := w_ne c2
    rw [show (0 : Int32).toInt = 0 from by decide] at z4
    exact ev_vret rfl rfl trivial ⟨rfl, rfl, hJ0, (by have z0_ := congrArg Int32.toInt ef1; have z_ := w_lits; have zl_ := l_lits; omega)⟩
  · have b5 : B f1 0 0 := R_eqX bf1 (by decide : B 0 0 0) c2
    have z6 := congrArg Int32.toInt c2
    rw [show (0 : Int32).toInt = 0 from by decide] at z6
    refine ev_aload_n rfl rfl rfl ?_
    refine ev_iload_n rfl rfl rfl ?_
    refine ev_putW (l := 0) (u := 6) hJ0 rfl p0 (by decide) (by decide) rfl rfl rfl fl_X10_191 rfl rfl rfl rfl rfl (fun h7 hJ7 k7 => ?_)
    refine ev_aload_n rfl rfl rfl ?_
    refine ev_iload_n rfl rfl rfl ?_
    refine ev_putW (l := (-2147483648)) (u := 2147483647) hJ7 rfl (B.any a1) (by decide) (by decide) rfl rfl rfl fl_X10_194 rfl rfl rfl rfl rfl (fun h8 hJ8 k8 => ?_)
    exact ev_vret rfl rfl trivial ⟨rfl, rfl, hJ8, (by have z0_ := congrArg Int32.toInt (rd_o k8 (rd_s k7) rfl); have z_ := w_lits; have zl_ := l_lits; omega)⟩

set_option maxRecDepth 100000 in
set_option maxHeartbeats 4000000 in
theorem w_X10_wants_63 (L : Nat) (b : Bool) (h : Hp) (hB : Bx h) (a0 : Int32) (p0 : B a0 0 1) (a1 : Int32) (p1 : B a1 1 6) : EvK mi_X10_wants [.ref 63, .int a0, .int a1] (G0 L b) h (fun z : Hp => ((z 63 21).toInt = 0 → (h 63 21).toInt = 0 ∧ ¬ a0.toInt = 0)) [(63, 21), (63, 22)] := by
  refine EvM.of2 (lo := [some (.ref 63), some (.int a0), some (.int a1)]) pf_X10_wants ok_X10_wants rfl rfl ?_
  have hJ0 : JW [(63, 21), (63, 22)] h h := JW.refl hB
  obtain ⟨f1, ef1⟩ : ∃ f_, h 63 21 = f_ := ⟨_, rfl⟩
  have bf1 : B f1 0 6 := by have z_ := hJ0.1 63 21; rw [ef1] at z_; exact z_
  have zf1 := congrArg Int32.toInt ef1
  refine ev_iload_n rfl rfl rfl ?_
  refine ev_if_ne rfl rfl (fun c2 => ?_) (fun c2 => ?_)
  · have b3 : B a0 1 1 := R_neL p0 (by decide : B 0 0 0) c2 (by decide)
    have z4 := w_ne c2
    rw [show (0 : Int32).toInt = 0 from by decide] at z4
    exact ev_vret rfl rfl trivial ⟨rfl, rfl, hJ0, (by have z0_ := congrArg Int32.toInt ef1; have z_ := w_lits; have zl_ := l_lits; omega)⟩
  · have b5 : B a0 0 0 := R_eqX p0 (by decide : B 0 0 0) c2
    have z6 := congrArg Int32.toInt c2
    rw [show (0 : Int32).toInt = 0 from by decide] at z6
    refine ev_aload_n rfl rfl rfl ?_
    refine ev_iload_n rfl rfl rfl ?_
    refine ev_aload_n rfl rfl rfl ?_
    refine ev_getW (l := (-2147483648)) (u := 2147483647) hJ0.1 rfl rfl rfl fl_X10_197 rfl rfl rfl (fun v7 b7 e7 => ?_)
    have z8 := congrArg Int32.toInt ef1
    refine ev_V2K hJ0 rfl rfl rfl lk_X10_200 vt_X10_fails rfl rfl rfl rfl rfl (w_X10_fails_63 L b h hJ0.1 a1 p1 v7) (fun h9 hJ9 k9 m9 => ?_)
    obtain ⟨f10, ef10⟩ : ∃ f_, h9 63 21 = f_ := ⟨_, rfl⟩
    have bf10 : B f10 0 6 := by have z_ := hJ9.1 63 21; rw [ef10] at z_; exact z_
    have zf10 := congrArg Int32.toInt ef10
    have z11 := congrArg Int32.toInt ef10
    exact ev_vret rfl rfl trivial ⟨rfl, rfl, hJ9, (by have z0_ := congrArg Int32.toInt ef10; have z_ := w_lits; have zl_ := l_lits; omega)⟩

set_option maxRecDepth 100000 in
set_option maxHeartbeats 4000000 in
theorem w_X10_readChord_63 (L : Nat) (b : Bool) (h : Hp) (hB : Bx h) (t : Int32) (rt : h 72 (h 63 17).toNatClampNeg = t) (rb : B t 97 122) (rp0 : (h 63 17).toInt < (h 63 16).toInt) (q0 : B (h 63 21) 0 0) : EvK mi_X10_readChord [.ref 63] (G0 L b) h (fun z : Hp => ((z 63 17).toInt ≤ (z 63 16).toInt) ∧ ((h 63 17).toInt + 1 ≤ (z 63 17).toInt) ∧ ((z 63 19).toInt = 1) ∧ (0 ≤ (z 63 20).toInt ∧ (z 63 20).toInt ≤ 4095)) [(63, 17), (63, 19), (63, 20), (63, 21), (63, 22)] := by
  refine EvM.of2 (lo := [some (.ref 63), none]) pf_X10_readChord ok_X10_readChord rfl rfl ?_
  have hJ0 : JW [(63, 17), (63, 19), (63, 20), (63, 21), (63, 22)] h h := JW.refl hB
  obtain ⟨f0, ef0⟩ : ∃ f_, h 63 21 = f_ := ⟨_, rfl⟩
  rw [ef0] at q0
  have zef0 := congrArg Int32.toInt ef0
  obtain ⟨f1, ef1⟩ : ∃ f_, h 63 16 = f_ := ⟨_, rfl⟩
  have bf1 : B f1 0 160 := by have z_ := hJ0.1 63 16; rw [ef1] at z_; exact z_
  have zf1 := congrArg Int32.toInt ef1
  obtain ⟨f2, ef2⟩ : ∃ f_, h 63 17 = f_ := ⟨_, rfl⟩
  have bf2 : B f2 0 160 := by have z_ := hJ0.1 63 17; rw [ef2] at z_; exact z_
  have zf2 := congrArg Int32.toInt ef2
  obtain ⟨f3, ef3⟩ : ∃ f_, h 63 20 = f_ := ⟨_, rfl⟩
  have bf3 : B f3 (-2147483648) 2147483647 := by have z_ := hJ0.1 63 20; rw [ef3] at z_; exact z_
  have zf3 := congrArg Int32.toInt ef3
  obtain ⟨f4, ef4⟩ : ∃ f_, h 63 19 = f_ := ⟨_, rfl⟩
  have bf4 : B f4 0 3 := by have z_ := hJ0.1 63 19; rw [ef4] at z_; exact z_
  have zf4 := congrArg Int32.toInt ef4
  rw [ef2] at rt
  refine ev_aload_n rfl rfl rfl ?_
  refine ev_iconst (v := 1) rfl rfl (by decide) ?_
  refine ev_putW (l := 0) (u := 3) hJ0 rfl (by decide : B 1 1 1) (by decide) (by decide) rfl rfl rfl fl_X10_204 rfl rfl rfl rfl rfl (fun h5 hJ5 k5 => ?_)
  refine ev_aload_n rfl rfl rfl ?_
  refine ev_iconst (v := 0) rfl rfl (by decide) ?_
  refine ev_putW (l := (-2147483648)) (u := 2147483647) hJ5 rfl (by decide : B 0 0 0) (by decide) (by decide) rfl rfl rfl fl_X10_207 rfl rfl rfl rfl rfl (fun h6 hJ6 k6 => ?_)
  refine ev_aload_n rfl rfl rfl ?_
  refine ev_aload_n rfl rfl rfl ?_
  refine ev_getV (v := f2) rfl rfl fl_X10_210 rfl rfl rfl (rd_o k6 (rd_o k5 ef2 rfl) rfl) ?_
  have z7 := congrArg Int32.toInt (rd_o k6 (rd_o k5 ef1 rfl) rfl)
  have z8 := congrArg Int32.toInt (rd_o k6 (rd_o k5 ef2 rfl) rfl)
  have z9 := congrArg Int32.toInt (rd_o k6 (rd_o k5 ef0 rfl) rfl)
  have z10 := congrArg Int32.toInt (rd_s k6)
  have z11 := congrArg Int32.toInt (rd_o k6 (rd_s k5) rfl)
  refine ev_V1P rfl rfl lk_X10_213 vt_X10_look rfl rfl rfl rfl rfl (w_X10_look_63 L b h6 hJ6.1 f2 bf2 t (rd_o k6 (rd_o k5 rt rfl) rfl)) (fun r12 q12 => ?_)
  obtain ⟨b12, pp12_0, pp12_1⟩ := q12
  refine ev_i2l rfl rfl ?_
  have z13 := Int32.toInt_toInt64 r12
  have z13b := B.any r12
  refine ev_ldc2 (v := 97) rfl rfl kc_X10_216 ?_
  refine ev_ldc2 (v := 122) rfl rfl kc_X10_218 ?_
  have z14 := congrArg Int32.toInt (rd_o k6 (rd_o k5 ef1 rfl) rfl)
  have z15 := congrArg Int32.toInt (rd_o k6 (rd_o k5 ef2 rfl) rfl)
  have z16 := congrArg Int32.toInt (rd_o k6 (rd_o k5 ef0 rfl) rfl)
  have z17 := congrArg Int32.toInt (rd_s k6)
  have z18 := congrArg Int32.toInt (rd_o k6 (rd_s k5) rfl)
  refine ev_S3P rfl rfl lk_X10_124 st_X10_in rfl rfl (w_inR (G0 L b) h6 r12 97 122 (by decide : BL 97 97 97) (by decide : BL 122 122 122)) (fun r19 q19 => ?_)
  obtain ⟨b19, p19_0, pp19_0, pp19_1⟩ := q19
  refine ev_if_eq rfl rfl (fun c20 => False.elim (by have z0_ := congrArg Int32.toInt (rd_o k6 (rd_o k5 ef1 rfl) rfl); have z1_ := congrArg Int32.toInt (rd_o k6 (rd_o k5 ef2 rfl) rfl); have z2_ := congrArg Int32.toInt (rd_o k6 (rd_o k5 ef0 rfl) rfl); have z3_ := congrArg Int32.toInt (rd_s k6); have z4_ := congrArg Int32.toInt (rd_o k6 (rd_s k5) rfl); have z5_ := congrArg Int32.toInt c20; have z_ := w_lits; have zl_ := l_lits; omega)) (fun c20 => ?_)
  have b23 : B r19 1 1 := R_neL b19 (by decide : B 0 0 0) c20 (by decide)
  have b24 : B r12 97 122 := p19_0 c20
  have z25 := w_ne c20
  rw [show (0 : Int32).toInt = 0 from by decide] at z25
  refine ev_aload_n rfl rfl rfl ?_
  refine ev_getV (v := f0) rfl rfl fl_X10_191 rfl rfl rfl (rd_o k6 (rd_o k5 ef0 rfl) rfl) ?_
  refine ev_if_ne rfl rfl (fun c26 => absurd (D_eq q0 (by decide : B 0 0 0)) c26) (fun c26 => ?_)
  have z27 := congrArg Int32.toInt c26
  rw [show (0 : Int32).toInt = 0 from by decide] at z27
  refine ev_aload_n rfl rfl rfl ?_
  refine ev_aload_n rfl rfl rfl ?_
  refine ev_getV (v := f2) rfl rfl fl_X10_210 rfl rfl rfl (rd_o k6 (rd_o k5 ef2 rfl) rfl) ?_
  have z28 := congrArg Int32.toInt (rd_o k6 (rd_o k5 ef1 rfl) rfl)
  have z29 := congrArg Int32.toInt (rd_o k6 (rd_o k5 ef2 rfl) rfl)
  have z30 := congrArg Int32.toInt (rd_o k6 (rd_o k5 ef0 rfl) rfl)
  have z31 := congrArg Int32.toInt (rd_s k6)
  have z32 := congrArg Int32.toInt (rd_o k6 (rd_s k5) rfl)
  refine ev_V1P rfl rfl lk_X10_213 vt_X10_look rfl rfl rfl rfl rfl (w_X10_look_63 L b h6 hJ6.1 f2 bf2 t (rd_o k6 (rd_o k5 rt rfl) rfl)) (fun r33 q33 => ?_)
  obtain ⟨b33, pp33_0, pp33_1⟩ := q33
  refine ev_bipush (v := 97) rfl rfl (by decide) ?_
  have b34 : B r33 97 122 := ⟨(by have z0_ := congrArg Int32.toInt (rd_o k6 (rd_o k5 ef1 rfl) rfl); have z1_ := congrArg Int32.toInt (rd_o k6 (rd_o k5 ef2 rfl) rfl); have z2_ := congrArg Int32.toInt (rd_o k6 (rd_o k5 ef0 rfl) rfl); have z3_ := congrArg Int32.toInt (rd_s k6); have z4_ := congrArg Int32.toInt (rd_o k6 (rd_s k5) rfl); have z_ := w_lits; have zl_ := l_lits; omega), (by have z0_ := congrArg Int32.toInt (rd_o k6 (rd_o k5 ef1 rfl) rfl); have z1_ := congrArg Int32.toInt (rd_o k6 (rd_o k5 ef2 rfl) rfl); have z2_ := congrArg Int32.toInt (rd_o k6 (rd_o k5 ef0 rfl) rfl); have z3_ := congrArg Int32.toInt (rd_s k6); have z4_ := congrArg Int32.toInt (rd_o k6 (rd_s k5) rfl); have z_ := w_lits; have zl_ := l_lits; omega)⟩
  refine ev_isubB (l := 0) (u := 25) rfl rfl b34 (by decide : B 97 97 97) (by decide) (by decide) (by decide) (by decide) (fun v35 b35 e35 g35 => ?_)
  have e35x := e35; rw [show (97 : Int32).toInt = 97 from by decide] at e35x
  refine ev_istore_n rfl rfl rfl rfl ?_
  dsimp only [List.set]
  refine ev_iload_n rfl rfl rfl ?_
  refine ev_bipush (v := 11) rfl rfl (by decide) ?_
  refine ev_icmp_le rfl rfl (fun c36 => ?_) (fun c36 => ?_)
  · have b37 : B v35 0 11 := R_leX b35 (by decide : B 11 11 11) c36 (by decide)
    have b38 : B r33 97 108 := (R_bks (l' := 97) (u' := 108) e35 b37 (by decide : B 97 97 97) (by decide) (by decide))
    have z39 := w_le c36
    rw [show (11 : Int32).toInt = 11 from by decide] at z39
    refine ev_aload_n rfl rfl rfl ?_
    refine ev_getV (v := 0) rfl rfl fl_X10_207 rfl rfl rfl (rd_s k6) ?_
    refine ev_iload_n rfl rfl rfl ?_
    refine ev_ishr0 rfl rfl ?_
    refine ev_iconst (v := 1) rfl rfl (by decide) ?_
    refine ev_iand0 rfl rfl ?_
    refine ev_iconst (v := 1) rfl rfl (by decide) ?_
    refine ev_icmp_eq rfl rfl (fun c45 => absurd c45 (D_ne (by decide : B 0 0 0) (by decide : B 1 1 1) (by decide))) (fun c45 => ?_)
    have z46 := w_ne c45
    rw [show (0 : Int32).toInt = 0 from by decide] at z46
    rw [show (1 : Int32).toInt = 1 from by decide] at z46
    refine ev_aload_n rfl rfl rfl ?_
    refine ev_getV (v := 0) rfl rfl fl_X10_207 rfl rfl rfl (rd_s k6) ?_
    refine ev_S1P rfl rfl lk_X10_220 st_X10_bits rfl rfl (w_X10_bits L b h6 hJ6.1 0) (fun r47 q47 => ?_)
    refine ev_iconst (v := 5) rfl rfl (by decide) ?_
    refine ev_icmp_ne rfl rfl (fun c48 => ?_) (fun c48 => ?_)
    · have z49 := w_ne c48
      rw [show (5 : Int32).toInt = 5 from by decide] at z49
      refine ev_aload_n rfl rfl rfl ?_
      refine ev_dup rfl rfl rfl ?_
      refine ev_getV (v := 0) rfl rfl fl_X10_207 rfl rfl rfl (rd_s k6) ?_
      refine ev_iconst (v := 1) rfl rfl (by decide) ?_
      refine ev_iload_n rfl rfl rfl ?_
      refine ev_ishlB rfl rfl b37 (by decide) (by decide) (fun v52 b52 => ?_)
      have b53 : B 0 0 4095 := ⟨(by have z0_ := congrArg Int32.toInt (rd_o k6 (rd_o k5 ef1 rfl) rfl); have z1_ := congrArg Int32.toInt (rd_o k6 (rd_o k5 ef2 rfl) rfl); have z2_ := congrArg Int32.toInt (rd_o k6 (rd_o k5 ef0 rfl) rfl); have z3_ := congrArg Int32.toInt (rd_s k6); have z4_ := congrArg Int32.toInt (rd_o k6 (rd_s k5) rfl); have z_ := w_lits; have zl_ := l_lits; omega), (by have z0_ := congrArg Int32.toInt (rd_o k6 (rd_o k5 ef1 rfl) rfl); have z1_ := congrArg Int32.toInt (rd_o k6 (rd_o k5 ef2 rfl) rfl); have z2_ := congrArg Int32.toInt (rd_o k6 (rd_o k5 ef0 rfl) rfl); have z3_ := congrArg Int32.toInt (rd_s k6); have z4_ := congrArg Int32.toInt (rd_o k6 (rd_s k5) rfl); have z_ := w_lits; have zl_ := l_lits; omega)⟩
      refine ev_iorB 12 (u := 4095) rfl rfl b53 b52 (by decide) (by decide) (by decide) (by decide) (by decide) (by decide) (fun v54 b54 e54 => ?_)
      refine ev_putW (l := (-2147483648)) (u := 2147483647) hJ6 rfl b54 (by decide) (by decide) rfl rfl rfl fl_X10_207 rfl rfl rfl rfl rfl (fun h55 hJ55 k55 => ?_)
      refine ev_aload_n rfl rfl rfl ?_
      refine ev_dup rfl rfl rfl ?_
      refine ev_getV (v := f2) rfl rfl fl_X10_210 rfl rfl rfl (rd_o k55 (rd_o k6 (rd_o k5 ef2 rfl) rfl) rfl) ?_
      refine ev_iconst (v := 1) rfl rfl (by decide) ?_
      refine ev_iaddB (l := 1) (u := 161) rfl rfl bf2 (by decide : B 1 1 1) (by decide) (by decide) (by decide) (by decide) (fun v56 b56 e56 g56 => ?_)
      have e56x := e56; rw [show (1 : Int32).toInt = 1 from by decide] at e56x
      have b57 : B v56 0 160 := ⟨(by have z0_ := congrArg Int32.toInt (rd_o k55 (rd_o k6 (rd_o k5 ef1 rfl) rfl) rfl); have z1_ := congrArg Int32.toInt (rd_o k55 (rd_o k6 (rd_o k5 ef2 rfl) rfl) rfl); have z2_ := congrArg Int32.toInt (rd_o k55 (rd_o k6 (rd_o k5 ef0 rfl) rfl) rfl); have z3_ := congrArg Int32.toInt (rd_s k55); have z4_ := congrArg Int32.toInt (rd_o k55 (rd_o k6 (rd_s k5) rfl) rfl); have z_ := w_lits; have zl_ := l_lits; omega), (by have z0_ := congrArg Int32.toInt (rd_o k55 (rd_o k6 (rd_o k5 ef1 rfl) rfl) rfl); have z1_ := congrArg Int32.toInt (rd_o k55 (rd_o k6 (rd_o k5 ef2 rfl) rfl) rfl); have z2_ := congrArg Int32.toInt (rd_o k55 (rd_o k6 (rd_o k5 ef0 rfl) rfl) rfl); have z3_ := congrArg Int32.toInt (rd_s k55); have z4_ := congrArg Int32.toInt (rd_o k55 (rd_o k6 (rd_s k5) rfl) rfl); have z_ := w_lits; have zl_ := l_lits; omega)⟩
      refine ev_putW (l := 0) (u := 160) hJ55 rfl b57 (by decide) (by decide) rfl rfl rfl fl_X10_210 rfl rfl rfl rfl rfl (fun h58 hJ58 k58 => ?_)
      refine ev_goto rfl rfl ?_
      have lp10_326 : ∀ (n : Nat) (w327 : Int32) (h329 : Hp), B w327 0 25 → JW [(63, 17), (63, 19), (63, 20), (63, 21), (63, 22)] h h329 → (h329 63 16 = f1) → (h329 63 19 = 1) → (h329 72 (Int32.toNatClampNeg f2) = t) → ((h329 63 17).toInt ≤ (h329 63 16).toInt) → ((h 63 17).toInt + 1 ≤ (h329 63 17).toInt) → (0 ≤ (h329 63 20).toInt ∧ (h329 63 20).toInt ≤ 4095) → 160 + 1 - (h329 63 17).toInt ≤ (n : Int) → EvQ mi_X10_readChord 10 [some (.ref 63), some (.int w327)] [] (G0 L b) h329 0 0 (QK (fun z : Hp => ((z 63 17).toInt ≤ (z 63 16).toInt) ∧ ((h 63 17).toInt + 1 ≤ (z 63 17).toInt) ∧ ((z 63 19).toInt = 1) ∧ (0 ≤ (z 63 20).toInt ∧ (z 63 20).toInt ≤ 4095)) [(63, 17), (63, 19), (63, 20), (63, 21), (63, 22)] (G0 L b) h) := by
        intro n
        induction n with
        | zero =>
          intro w327 h329 b328 hJ330 z331 z332 z333 y10_0 y10_1 y10_2 hm10
          obtain ⟨f334, ef334⟩ : ∃ f_, h329 63 17 = f_ := ⟨_, rfl⟩
          have bf334 : B f334 0 160 := by
            have z_ := hJ330.1 63 17
            rw [ef334] at z_
            exact z_
          rw [ef334] at hm10
          exact absurd hm10 (L_zero bf334 (by decide))
        | succ n ih10 =>
          intro w327 h329 b328 hJ330 z331 z332 z333 y10_0 y10_1 y10_2 hm10
          obtain ⟨f334, ef334⟩ : ∃ f_, h329 63 17 = f_ := ⟨_, rfl⟩
          have bf334 : B f334 0 160 := by
            have z_ := hJ330.1 63 17
            rw [ef334] at z_
            exact z_
          rw [ef334] at hm10
          obtain ⟨f335, ef335⟩ : ∃ f_, h329 63 21 = f_ := ⟨_, rfl⟩
          have bf335 : B f335 0 6 := by have z_ := hJ330.1 63 21; rw [ef335] at z_; exact z_
          have zf335 := congrArg Int32.toInt ef335
          obtain ⟨f336, ef336⟩ : ∃ f_, h329 63 20 = f_ := ⟨_, rfl⟩
          have bf336 : B f336 (-2147483648) 2147483647 := by have z_ := hJ330.1 63 20; rw [ef336] at z_; exact z_
          have zf336 := congrArg Int32.toInt ef336
          have z337 := congrArg Int32.toInt z331
          have z338 := congrArg Int32.toInt ef334
          have z339 := congrArg Int32.toInt ef335
          have z340 := congrArg Int32.toInt ef336
          have z341 := congrArg Int32.toInt z332
          refine ev_aload_n rfl rfl rfl ?_
          refine ev_aload_n rfl rfl rfl ?_
          refine ev_getV (v := f334) rfl rfl fl_X10_210 rfl rfl rfl ef334 ?_
          obtain ⟨t342, et342⟩ : ∃ f_, h329 72 (Int32.toNatClampNeg f334) = f_ := ⟨_, rfl⟩
          have bt342 : B t342 0 255 := by have z_ := hJ330.1 72 (Int32.toNatClampNeg f334); rw [et342] at z_; exact z_
          have z343 := congrArg Int32.toInt z331
          have z344 := congrArg Int32.toInt ef334
          have z345 := congrArg Int32.toInt ef335
          have z346 := congrArg Int32.toInt ef336
          have z347 := congrArg Int32.toInt z332
          refine ev_V1P rfl rfl lk_X10_213 vt_X10_look rfl rfl rfl rfl rfl (w_X10_look_63 L b h329 hJ330.1 f334 bf334 t342 et342) (fun r348 q348 => ?_)
          obtain ⟨b348, pp348_0, pp348_1⟩ := q348
          refine ev_i2l rfl rfl ?_
          have z349 := Int32.toInt_toInt64 r348
          have z349b := B.any r348
          refine ev_ldc2 (v := 97) rfl rfl kc_X10_216 ?_
          refine ev_ldc2 (v := 122) rfl rfl kc_X10_218 ?_
          have z350 := congrArg Int32.toInt z331
          have z351 := congrArg Int32.toInt ef334
          have z352 := congrArg Int32.toInt ef335
          have z353 := congrArg Int32.toInt ef336
          have z354 := congrArg Int32.toInt z332
          refine ev_S3P rfl rfl lk_X10_124 st_X10_in rfl rfl (w_inR (G0 L b) h329 r348 97 122 (by decide : BL 97 97 97) (by decide : BL 122 122 122)) (fun r355 q355 => ?_)
          obtain ⟨b355, p355_0, pp355_0, pp355_1⟩ := q355
          refine ev_if_eq rfl rfl (fun c356 => ?_) (fun c356 => ?_)
          · have z357 := congrArg Int32.toInt c356
            rw [show (0 : Int32).toInt = 0 from by decide] at z357
            exact ev_vret rfl rfl trivial ⟨rfl, rfl, hJ330, (by have z0_ := congrArg Int32.toInt z331; have z1_ := congrArg Int32.toInt ef334; have z2_ := congrArg Int32.toInt ef335; have z3_ := congrArg Int32.toInt ef336; have z4_ := congrArg Int32.toInt z332; have z_ := w_lits; have zl_ := l_lits; omega), (by have z0_ := congrArg Int32.toInt z331; have z1_ := congrArg Int32.toInt ef334; have z2_ := congrArg Int32.toInt ef335; have z3_ := congrArg Int32.toInt ef336; have z4_ := congrArg Int32.toInt z332; have z_ := w_lits; have zl_ := l_lits; omega), (by have z0_ := congrArg Int32.toInt z331; have z1_ := congrArg Int32.toInt ef334; have z2_ := congrArg Int32.toInt ef335; have z3_ := congrArg Int32.toInt ef336; have z4_ := congrArg Int32.toInt z332; have z_ := w_lits; have zl_ := l_lits; omega), (by have z0_ := congrArg Int32.toInt z331; have z1_ := congrArg Int32.toInt ef334; have z2_ := congrArg Int32.toInt ef335; have z3_ := congrArg Int32.toInt ef336; have z4_ := congrArg Int32.toInt z332; have z_ := w_lits; have zl_ := l_lits; omega)⟩
          · have b358 : B r348 97 122 := p355_0 c356
            have z359 := w_ne c356
            rw [show (0 : Int32).toInt = 0 from by decide] at z359
            refine ev_aload_n rfl rfl rfl ?_
            refine ev_getV (v := f335) rfl rfl fl_X10_191 rfl rfl rfl ef335 ?_
            refine ev_if_ne rfl rfl (fun c360 => ?_) (fun c360 => ?_)
            · have z361 := w_ne c360
              rw [show (0 : Int32).toInt = 0 from by decide] at z361
              exact ev_vret rfl rfl trivial ⟨rfl, rfl, hJ330, (by have z0_ := congrArg Int32.toInt z331; have z1_ := congrArg Int32.toInt ef334; have z2_ := congrArg Int32.toInt ef335; have z3_ := congrArg Int32.toInt ef336; have z4_ := congrArg Int32.toInt z332; have z_ := w_lits; have zl_ := l_lits; omega), (by have z0_ := congrArg Int32.toInt z331; have z1_ := congrArg Int32.toInt ef334; have z2_ := congrArg Int32.toInt ef335; have z3_ := congrArg Int32.toInt ef336; have z4_ := congrArg Int32.toInt z332; have z_ := w_lits; have zl_ := l_lits; omega), (by have z0_ := congrArg Int32.toInt z331; have z1_ := congrArg Int32.toInt ef334; have z2_ := congrArg Int32.toInt ef335; have z3_ := congrArg Int32.toInt ef336; have z4_ := congrArg Int32.toInt z332; have z_ := w_lits; have zl_ := l_lits; omega), (by have z0_ := congrArg Int32.toInt z331; have z1_ := congrArg Int32.toInt ef334; have z2_ := congrArg Int32.toInt ef335; have z3_ := congrArg Int32.toInt ef336; have z4_ := congrArg Int32.toInt z332; have z_ := w_lits; have zl_ := l_lits; omega)⟩
            · have z362 := congrArg Int32.toInt c360
              rw [show (0 : Int32).toInt = 0 from by decide] at z362
              refine ev_aload_n rfl rfl rfl ?_
              refine ev_aload_n rfl rfl rfl ?_
              refine ev_getV (v := f334) rfl rfl fl_X10_210 rfl rfl rfl ef334 ?_
              have z363 := congrArg Int32.toInt z331
              have z364 := congrArg Int32.toInt ef334
              have z365 := congrArg Int32.toInt ef335
              have z366 := congrArg Int32.toInt ef336
              have z367 := congrArg Int32.toInt z332
              refine ev_V1P rfl rfl lk_X10_213 vt_X10_look rfl rfl rfl rfl rfl (w_X10_look_63 L b h329 hJ330.1 f334 bf334 t342 et342) (fun r368 q368 => ?_)
              obtain ⟨b368, pp368_0, pp368_1⟩ := q368
              refine ev_bipush (v := 97) rfl rfl (by decide) ?_
              have b369 : B r368 97 122 := ⟨(by have z0_ := congrArg Int32.toInt z331; have z1_ := congrArg Int32.toInt ef334; have z2_ := congrArg Int32.toInt ef335; have z3_ := congrArg Int32.toInt ef336; have z4_ := congrArg Int32.toInt z332; have z_ := w_lits; have zl_ := l_lits; omega), (by have z0_ := congrArg Int32.toInt z331; have z1_ := congrArg Int32.toInt ef334; have z2_ := congrArg Int32.toInt ef335; have z3_ := congrArg Int32.toInt ef336; have z4_ := congrArg Int32.toInt z332; have z_ := w_lits; have zl_ := l_lits; omega)⟩
              refine ev_isubB (l := 0) (u := 25) rfl rfl b369 (by decide : B 97 97 97) (by decide) (by decide) (by decide) (by decide) (fun v370 b370 e370 g370 => ?_)
              have e370x := e370; rw [show (97 : Int32).toInt = 97 from by decide] at e370x
              refine ev_istore_n rfl rfl rfl rfl ?_
              dsimp only [List.set]
              refine ev_iload_n rfl rfl rfl ?_
              refine ev_bipush (v := 11) rfl rfl (by decide) ?_
              refine ev_icmp_le rfl rfl (fun c371 => ?_) (fun c371 => ?_)
              · have b372 : B v370 0 11 := R_leX b370 (by decide : B 11 11 11) c371 (by decide)
                have b373 : B r368 97 108 := (R_bks (l' := 97) (u' := 108) e370 b372 (by decide : B 97 97 97) (by decide) (by decide))
                have z374 := w_le c371
                rw [show (11 : Int32).toInt = 11 from by decide] at z374
                refine ev_aload_n rfl rfl rfl ?_
                refine ev_getV (v := f336) rfl rfl fl_X10_207 rfl rfl rfl ef336 ?_
                refine ev_iload_n rfl rfl rfl ?_
                refine ev_ishrA rfl rfl (fun v378 => ?_)
                refine ev_iconst (v := 1) rfl rfl (by decide) ?_
                refine ev_iandB rfl rfl (by decide : B 1 1 1) (by decide) (fun v379 b379 e379 => ?_)
                refine ev_iconst (v := 1) rfl rfl (by decide) ?_
                refine ev_icmp_eq rfl rfl (fun c380 => ?_) (fun c380 => ?_)
                · have b381 : B v379 1 1 := R_eqX b379 (by decide : B 1 1 1) c380
                  have z382 := congrArg Int32.toInt c380
                  rw [show (1 : Int32).toInt = 1 from by decide] at z382
                  refine ev_aload_n rfl rfl rfl ?_
                  refine ev_iconst (v := 4) rfl rfl (by decide) ?_
                  refine ev_aload_n rfl rfl rfl ?_
                  refine ev_getV (v := f334) rfl rfl fl_X10_210 rfl rfl rfl ef334 ?_
                  have z385 := congrArg Int32.toInt z331
                  have z386 := congrArg Int32.toInt ef334
                  have z387 := congrArg Int32.toInt ef335
                  have z388 := congrArg Int32.toInt ef336
                  have z389 := congrArg Int32.toInt z332
                  refine ev_V2K hJ330 rfl rfl rfl lk_X10_200 vt_X10_fails rfl rfl rfl rfl rfl (w_X10_fails_63 L b h329 hJ330.1 4 ((by decide : B 4 4 4).mono (by decide) (by decide)) f334) (fun h390 hJ390 k390 m390 => ?_)
                  obtain ⟨f391, ef391⟩ : ∃ f_, h390 63 21 = f_ := ⟨_, rfl⟩
                  have bf391 : B f391 0 6 := by have z_ := hJ390.1 63 21; rw [ef391] at z_; exact z_
                  have zf391 := congrArg Int32.toInt ef391
                  have z392 := congrArg Int32.toInt (rd_w k390 z331 rfl)
                  have z393 := congrArg Int32.toInt (rd_w k390 ef334 rfl)
                  have z394 := congrArg Int32.toInt ef391
                  have z395 := congrArg Int32.toInt (rd_w k390 ef336 rfl)
                  have z396 := congrArg Int32.toInt (rd_w k390 z332 rfl)
                  refine ev_goto rfl rfl ?_
                  refine ev_aload_n rfl rfl rfl ?_
                  refine ev_dup rfl rfl rfl ?_
                  refine ev_getV (v := f334) rfl rfl fl_X10_210 rfl rfl rfl (rd_w k390 ef334 rfl) ?_
                  refine ev_iconst (v := 1) rfl rfl (by decide) ?_
                  refine ev_iaddB (l := 1) (u := 161) rfl rfl bf334 (by decide : B 1 1 1) (by decide) (by decide) (by decide) (by decide) (fun v397 b397 e397 g397 => ?_)
                  have e397x := e397; rw [show (1 : Int32).toInt = 1 from by decide] at e397x
                  have b398 : B v397 0 160 := ⟨(by have z0_ := congrArg Int32.toInt (rd_w k390 z331 rfl); have z1_ := congrArg Int32.toInt (rd_w k390 ef334 rfl); have z2_ := congrArg Int32.toInt ef391; have z3_ := congrArg Int32.toInt (rd_w k390 ef336 rfl); have z4_ := congrArg Int32.toInt (rd_w k390 z332 rfl); have z_ := w_lits; have zl_ := l_lits; omega), (by have z0_ := congrArg Int32.toInt (rd_w k390 z331 rfl); have z1_ := congrArg Int32.toInt (rd_w k390 ef334 rfl); have z2_ := congrArg Int32.toInt ef391; have z3_ := congrArg Int32.toInt (rd_w k390 ef336 rfl); have z4_ := congrArg Int32.toInt (rd_w k390 z332 rfl); have z_ := w_lits; have zl_ := l_lits; omega)⟩
                  refine ev_putW (l := 0) (u := 160) hJ390 rfl b398 (by decide) (by decide) rfl rfl rfl fl_X10_210 rfl rfl rfl rfl rfl (fun h399 hJ399 k399 => ?_)
                  refine ev_goto rfl rfl ?_
                  exact (ih10 v370 h399 (b372.mono (by decide) (by decide)) hJ399 (rd_o k399 (rd_w k390 z331 rfl) rfl) (rd_o k399 (rd_w k390 z332 rfl) rfl) (rd_o k399 (rd_w k390 z333 rfl) rfl) (by have z0_ := congrArg Int32.toInt (rd_o k399 (rd_w k390 z331 rfl) rfl); have z1_ := congrArg Int32.toInt (rd_s k399); have z2_ := congrArg Int32.toInt (rd_o k399 ef391 rfl); have z3_ := congrArg Int32.toInt (rd_o k399 (rd_w k390 ef336 rfl) rfl); have z4_ := congrArg Int32.toInt (rd_o k399 (rd_w k390 z332 rfl) rfl); have z_ := w_lits; have zl_ := l_lits; omega) (by have z0_ := congrArg Int32.toInt (rd_o k399 (rd_w k390 z331 rfl) rfl); have z1_ := congrArg Int32.toInt (rd_s k399); have z2_ := congrArg Int32.toInt (rd_o k399 ef391 rfl); have z3_ := congrArg Int32.toInt (rd_o k399 (rd_w k390 ef336 rfl) rfl); have z4_ := congrArg Int32.toInt (rd_o k399 (rd_w k390 z332 rfl) rfl); have z_ := w_lits; have zl_ := l_lits; omega) (by have z0_ := congrArg Int32.toInt (rd_o k399 (rd_w k390 z331 rfl) rfl); have z1_ := congrArg Int32.toInt (rd_s k399); have z2_ := congrArg Int32.toInt (rd_o k399 ef391 rfl); have z3_ := congrArg Int32.toInt (rd_o k399 (rd_w k390 ef336 rfl) rfl); have z4_ := congrArg Int32.toInt (rd_o k399 (rd_w k390 z332 rfl) rfl); have z_ := w_lits; have zl_ := l_lits; omega) (by rw [(rd_s k399)]; exact L_up hm10 (e_p1 e397 (by decide))))
                · have b383 : B v379 0 0 := R_neU b379 (by decide : B 1 1 1) c380 (by decide)
                  have z384 := w_ne c380
                  rw [show (1 : Int32).toInt = 1 from by decide] at z384
                  refine ev_aload_n rfl rfl rfl ?_
                  refine ev_getV (v := f336) rfl rfl fl_X10_207 rfl rfl rfl ef336 ?_
                  refine ev_S1P rfl rfl lk_X10_220 st_X10_bits rfl rfl (w_X10_bits L b h329 hJ330.1 f336) (fun r400 q400 => ?_)
                  refine ev_iconst (v := 5) rfl rfl (by decide) ?_
                  refine ev_icmp_ne rfl rfl (fun c401 => ?_) (fun c401 => ?_)
                  · have z402 := w_ne c401
                    rw [show (5 : Int32).toInt = 5 from by decide] at z402
                    refine ev_aload_n rfl rfl rfl ?_
                    refine ev_dup rfl rfl rfl ?_
                    refine ev_getV (v := f336) rfl rfl fl_X10_207 rfl rfl rfl ef336 ?_
                    refine ev_iconst (v := 1) rfl rfl (by decide) ?_
                    refine ev_iload_n rfl rfl rfl ?_
                    refine ev_ishlB rfl rfl b372 (by decide) (by decide) (fun v405 b405 => ?_)
                    have b406 : B f336 0 4095 := ⟨(by have z0_ := congrArg Int32.toInt z331; have z1_ := congrArg Int32.toInt ef334; have z2_ := congrArg Int32.toInt ef335; have z3_ := congrArg Int32.toInt ef336; have z4_ := congrArg Int32.toInt z332; have z_ := w_lits; have zl_ := l_lits; omega), (by have z0_ := congrArg Int32.toInt z331; have z1_ := congrArg Int32.toInt ef334; have z2_ := congrArg Int32.toInt ef335; have z3_ := congrArg Int32.toInt ef336; have z4_ := congrArg Int32.toInt z332; have z_ := w_lits; have zl_ := l_lits; omega)⟩
                    refine ev_iorB 12 (u := 4095) rfl rfl b406 b405 (by decide) (by decide) (by decide) (by decide) (by decide) (by decide) (fun v407 b407 e407 => ?_)
                    refine ev_putW (l := (-2147483648)) (u := 2147483647) hJ330 rfl b407 (by decide) (by decide) rfl rfl rfl fl_X10_207 rfl rfl rfl rfl rfl (fun h408 hJ408 k408 => ?_)
                    refine ev_aload_n rfl rfl rfl ?_
                    refine ev_dup rfl rfl rfl ?_
                    refine ev_getV (v := f334) rfl rfl fl_X10_210 rfl rfl rfl (rd_o k408 ef334 rfl) ?_
                    refine ev_iconst (v := 1) rfl rfl (by decide) ?_
                    refine ev_iaddB (l := 1) (u := 161) rfl rfl bf334 (by decide : B 1 1 1) (by decide) (by decide) (by decide) (by decide) (fun v409 b409 e409 g409 => ?_)
                    have e409x := e409; rw [show (1 : Int32).toInt = 1 from by decide] at e409x
                    have b410 : B v409 0 160 := ⟨(by have z0_ := congrArg Int32.toInt (rd_o k408 z331 rfl); have z1_ := congrArg Int32.toInt (rd_o k408 ef334 rfl); have z2_ := congrArg Int32.toInt (rd_o k408 ef335 rfl); have z3_ := congrArg Int32.toInt (rd_s k408); have z4_ := congrArg Int32.toInt (rd_o k408 z332 rfl); have z_ := w_lits; have zl_ := l_lits; omega), (by have z0_ := congrArg Int32.toInt (rd_o k408 z331 rfl); have z1_ := congrArg Int32.toInt (rd_o k408 ef334 rfl); have z2_ := congrArg Int32.toInt (rd_o k408 ef335 rfl); have z3_ := congrArg Int32.toInt (rd_s k408); have z4_ := congrArg Int32.toInt (rd_o k408 z332 rfl); have z_ := w_lits; have zl_ := l_lits; omega)⟩
                    refine ev_putW (l := 0) (u := 160) hJ408 rfl b410 (by decide) (by decide) rfl rfl rfl fl_X10_210 rfl rfl rfl rfl rfl (fun h411 hJ411 k411 => ?_)
                    refine ev_goto rfl rfl ?_
                    exact (ih10 v370 h411 (b372.mono (by decide) (by decide)) hJ411 (rd_o k411 (rd_o k408 z331 rfl) rfl) (rd_o k411 (rd_o k408 z332 rfl) rfl) (rd_o k411 (rd_o k408 z333 rfl) rfl) (by have z0_ := congrArg Int32.toInt (rd_o k411 (rd_o k408 z331 rfl) rfl); have z1_ := congrArg Int32.toInt (rd_s k411); have z2_ := congrArg Int32.toInt (rd_o k411 (rd_o k408 ef335 rfl) rfl); have z3_ := congrArg Int32.toInt (rd_o k411 (rd_s k408) rfl); have z4_ := congrArg Int32.toInt (rd_o k411 (rd_o k408 z332 rfl) rfl); have z_ := w_lits; have zl_ := l_lits; omega) (by have z0_ := congrArg Int32.toInt (rd_o k411 (rd_o k408 z331 rfl) rfl); have z1_ := congrArg Int32.toInt (rd_s k411); have z2_ := congrArg Int32.toInt (rd_o k411 (rd_o k408 ef335 rfl) rfl); have z3_ := congrArg Int32.toInt (rd_o k411 (rd_s k408) rfl); have z4_ := congrArg Int32.toInt (rd_o k411 (rd_o k408 z332 rfl) rfl); have z_ := w_lits; have zl_ := l_lits; omega) (by have z0_ := congrArg Int32.toInt (rd_o k411 (rd_o k408 z331 rfl) rfl); have z1_ := congrArg Int32.toInt (rd_s k411); have z2_ := congrArg Int32.toInt (rd_o k411 (rd_o k408 ef335 rfl) rfl); have z3_ := congrArg Int32.toInt (rd_o k411 (rd_s k408) rfl); have z4_ := congrArg Int32.toInt (rd_o k411 (rd_o k408 z332 rfl) rfl); have z_ := w_lits; have zl_ := l_lits; omega) (by rw [(rd_s k411)]; exact L_up hm10 (e_p1 e409 (by decide))))
                  · have b403 : B r400 5 5 := R_eqX (B.any r400) (by decide : B 5 5 5) c401
                    have z404 := congrArg Int32.toInt c401
                    rw [show (5 : Int32).toInt = 5 from by decide] at z404
                    refine ev_aload_n rfl rfl rfl ?_
                    refine ev_iconst (v := 4) rfl rfl (by decide) ?_
                    refine ev_aload_n rfl rfl rfl ?_
                    refine ev_getV (v := f334) rfl rfl fl_X10_210 rfl rfl rfl ef334 ?_
                    have z412 := congrArg Int32.toInt z331
                    have z413 := congrArg Int32.toInt ef334
                    have z414 := congrArg Int32.toInt ef335
                    have z415 := congrArg Int32.toInt ef336
                    have z416 := congrArg Int32.toInt z332
                    refine ev_V2K hJ330 rfl rfl rfl lk_X10_200 vt_X10_fails rfl rfl rfl rfl rfl (w_X10_fails_63 L b h329 hJ330.1 4 ((by decide : B 4 4 4).mono (by decide) (by decide)) f334) (fun h417 hJ417 k417 m417 => ?_)
                    obtain ⟨f418, ef418⟩ : ∃ f_, h417 63 21 = f_ := ⟨_, rfl⟩
                    have bf418 : B f418 0 6 := by have z_ := hJ417.1 63 21; rw [ef418] at z_; exact z_
                    have zf418 := congrArg Int32.toInt ef418
                    have z419 := congrArg Int32.toInt (rd_w k417 z331 rfl)
                    have z420 := congrArg Int32.toInt (rd_w k417 ef334 rfl)
                    have z421 := congrArg Int32.toInt ef418
                    have z422 := congrArg Int32.toInt (rd_w k417 ef336 rfl)
                    have z423 := congrArg Int32.toInt (rd_w k417 z332 rfl)
                    refine ev_goto rfl rfl ?_
                    refine ev_aload_n rfl rfl rfl ?_
                    refine ev_dup rfl rfl rfl ?_
                    refine ev_getV (v := f334) rfl rfl fl_X10_210 rfl rfl rfl (rd_w k417 ef334 rfl) ?_
                    refine ev_iconst (v := 1) rfl rfl (by decide) ?_
                    refine ev_iaddB (l := 1) (u := 161) rfl rfl bf334 (by decide : B 1 1 1) (by decide) (by decide) (by decide) (by decide) (fun v424 b424 e424 g424 => ?_)
                    have e424x := e424; rw [show (1 : Int32).toInt = 1 from by decide] at e424x
                    have b425 : B v424 0 160 := ⟨(by have z0_ := congrArg Int32.toInt (rd_w k417 z331 rfl); have z1_ := congrArg Int32.toInt (rd_w k417 ef334 rfl); have z2_ := congrArg Int32.toInt ef418; have z3_ := congrArg Int32.toInt (rd_w k417 ef336 rfl); have z4_ := congrArg Int32.toInt (rd_w k417 z332 rfl); have z_ := w_lits; have zl_ := l_lits; omega), (by have z0_ := congrArg Int32.toInt (rd_w k417 z331 rfl); have z1_ := congrArg Int32.toInt (rd_w k417 ef334 rfl); have z2_ := congrArg Int32.toInt ef418; have z3_ := congrArg Int32.toInt (rd_w k417 ef336 rfl); have z4_ := congrArg Int32.toInt (rd_w k417 z332 rfl); have z_ := w_lits; have zl_ := l_lits; omega)⟩
                    refine ev_putW (l := 0) (u := 160) hJ417 rfl b425 (by decide) (by decide) rfl rfl rfl fl_X10_210 rfl rfl rfl rfl rfl (fun h426 hJ426 k426 => ?_)
                    refine ev_goto rfl rfl ?_
                    exact (ih10 v370 h426 (b372.mono (by decide) (by decide)) hJ426 (rd_o k426 (rd_w k417 z331 rfl) rfl) (rd_o k426 (rd_w k417 z332 rfl) rfl) (rd_o k426 (rd_w k417 z333 rfl) rfl) (by have z0_ := congrArg Int32.toInt (rd_o k426 (rd_w k417 z331 rfl) rfl); have z1_ := congrArg Int32.toInt (rd_s k426); have z2_ := congrArg Int32.toInt (rd_o k426 ef418 rfl); have z3_ := congrArg Int32.toInt (rd_o k426 (rd_w k417 ef336 rfl) rfl); have z4_ := congrArg Int32.toInt (rd_o k426 (rd_w k417 z332 rfl) rfl); have z_ := w_lits; have zl_ := l_lits; omega) (by have z0_ := congrArg Int32.toInt (rd_o k426 (rd_w k417 z331 rfl) rfl); have z1_ := congrArg Int32.toInt (rd_s k426); have z2_ := congrArg Int32.toInt (rd_o k426 ef418 rfl); have z3_ := congrArg Int32.toInt (rd_o k426 (rd_w k417 ef336 rfl) rfl); have z4_ := congrArg Int32.toInt (rd_o k426 (rd_w k417 z332 rfl) rfl); have z_ := w_lits; have zl_ := l_lits; omega) (by have z0_ := congrArg Int32.toInt (rd_o k426 (rd_w k417 z331 rfl) rfl); have z1_ := congrArg Int32.toInt (rd_s k426); have z2_ := congrArg Int32.toInt (rd_o k426 ef418 rfl); have z3_ := congrArg Int32.toInt (rd_o k426 (rd_w k417 ef336 rfl) rfl); have z4_ := congrArg Int32.toInt (rd_o k426 (rd_w k417 z332 rfl) rfl); have z_ := w_lits; have zl_ := l_lits; omega) (by rw [(rd_s k426)]; exact L_up hm10 (e_p1 e424 (by decide))))
              · have b375 : B v370 12 25 := R_ltY (by decide : B 11 11 11) b370 (Int32.not_le.mp c371) (by decide)
                have b376 : B r368 109 122 := (R_bks (l' := 109) (u' := 122) e370 b375 (by decide : B 97 97 97) (by decide) (by decide))
                have z377 := w_lt (Int32.not_le.mp c371)
                rw [show (11 : Int32).toInt = 11 from by decide] at z377
                refine ev_aload_n rfl rfl rfl ?_
                refine ev_iconst (v := 1) rfl rfl (by decide) ?_
                refine ev_aload_n rfl rfl rfl ?_
                refine ev_getV (v := f334) rfl rfl fl_X10_210 rfl rfl rfl ef334 ?_
                have z427 := congrArg Int32.toInt z331
                have z428 := congrArg Int32.toInt ef334
                have z429 := congrArg Int32.toInt ef335
                have z430 := congrArg Int32.toInt ef336
                have z431 := congrArg Int32.toInt z332
                refine ev_V2K hJ330 rfl rfl rfl lk_X10_200 vt_X10_fails rfl rfl rfl rfl rfl (w_X10_fails_63 L b h329 hJ330.1 1 ((by decide : B 1 1 1).mono (by decide) (by decide)) f334) (fun h432 hJ432 k432 m432 => ?_)
                obtain ⟨f433, ef433⟩ : ∃ f_, h432 63 21 = f_ := ⟨_, rfl⟩
                have bf433 : B f433 0 6 := by have z_ := hJ432.1 63 21; rw [ef433] at z_; exact z_
                have zf433 := congrArg Int32.toInt ef433
                have z434 := congrArg Int32.toInt (rd_w k432 z331 rfl)
                have z435 := congrArg Int32.toInt (rd_w k432 ef334 rfl)
                have z436 := congrArg Int32.toInt ef433
                have z437 := congrArg Int32.toInt (rd_w k432 ef336 rfl)
                have z438 := congrArg Int32.toInt (rd_w k432 z332 rfl)
                refine ev_goto rfl rfl ?_
                refine ev_aload_n rfl rfl rfl ?_
                refine ev_dup rfl rfl rfl ?_
                refine ev_getV (v := f334) rfl rfl fl_X10_210 rfl rfl rfl (rd_w k432 ef334 rfl) ?_
                refine ev_iconst (v := 1) rfl rfl (by decide) ?_
                refine ev_iaddB (l := 1) (u := 161) rfl rfl bf334 (by decide : B 1 1 1) (by decide) (by decide) (by decide) (by decide) (fun v439 b439 e439 g439 => ?_)
                have e439x := e439; rw [show (1 : Int32).toInt = 1 from by decide] at e439x
                have b440 : B v439 0 160 := ⟨(by have z0_ := congrArg Int32.toInt (rd_w k432 z331 rfl); have z1_ := congrArg Int32.toInt (rd_w k432 ef334 rfl); have z2_ := congrArg Int32.toInt ef433; have z3_ := congrArg Int32.toInt (rd_w k432 ef336 rfl); have z4_ := congrArg Int32.toInt (rd_w k432 z332 rfl); have z_ := w_lits; have zl_ := l_lits; omega), (by have z0_ := congrArg Int32.toInt (rd_w k432 z331 rfl); have z1_ := congrArg Int32.toInt (rd_w k432 ef334 rfl); have z2_ := congrArg Int32.toInt ef433; have z3_ := congrArg Int32.toInt (rd_w k432 ef336 rfl); have z4_ := congrArg Int32.toInt (rd_w k432 z332 rfl); have z_ := w_lits; have zl_ := l_lits; omega)⟩
                refine ev_putW (l := 0) (u := 160) hJ432 rfl b440 (by decide) (by decide) rfl rfl rfl fl_X10_210 rfl rfl rfl rfl rfl (fun h441 hJ441 k441 => ?_)
                refine ev_goto rfl rfl ?_
                exact (ih10 v370 h441 (b375.mono (by decide) (by decide)) hJ441 (rd_o k441 (rd_w k432 z331 rfl) rfl) (rd_o k441 (rd_w k432 z332 rfl) rfl) (rd_o k441 (rd_w k432 z333 rfl) rfl) (by have z0_ := congrArg Int32.toInt (rd_o k441 (rd_w k432 z331 rfl) rfl); have z1_ := congrArg Int32.toInt (rd_s k441); have z2_ := congrArg Int32.toInt (rd_o k441 ef433 rfl); have z3_ := congrArg Int32.toInt (rd_o k441 (rd_w k432 ef336 rfl) rfl); have z4_ := congrArg Int32.toInt (rd_o k441 (rd_w k432 z332 rfl) rfl); have z_ := w_lits; have zl_ := l_lits; omega) (by have z0_ := congrArg Int32.toInt (rd_o k441 (rd_w k432 z331 rfl) rfl); have z1_ := congrArg Int32.toInt (rd_s k441); have z2_ := congrArg Int32.toInt (rd_o k441 ef433 rfl); have z3_ := congrArg Int32.toInt (rd_o k441 (rd_w k432 ef336 rfl) rfl); have z4_ := congrArg Int32.toInt (rd_o k441 (rd_w k432 z332 rfl) rfl); have z_ := w_lits; have zl_ := l_lits; omega) (by have z0_ := congrArg Int32.toInt (rd_o k441 (rd_w k432 z331 rfl) rfl); have z1_ := congrArg Int32.toInt (rd_s k441); have z2_ := congrArg Int32.toInt (rd_o k441 ef433 rfl); have z3_ := congrArg Int32.toInt (rd_o k441 (rd_w k432 ef336 rfl) rfl); have z4_ := congrArg Int32.toInt (rd_o k441 (rd_w k432 z332 rfl) rfl); have z_ := w_lits; have zl_ := l_lits; omega) (by rw [(rd_s k441)]; exact L_up hm10 (e_p1 e439 (by decide))))
      exact (lp10_326 161 v35 h58 (b37.mono (by decide) (by decide)) hJ58 (rd_o k58 (rd_o k55 (rd_o k6 (rd_o k5 ef1 rfl) rfl) rfl) rfl) (rd_o k58 (rd_o k55 (rd_o k6 (rd_s k5) rfl) rfl) rfl) (rd_o k58 (rd_o k55 (rd_o k6 (rd_o k5 rt rfl) rfl) rfl) rfl) (by have z0_ := congrArg Int32.toInt (rd_o k58 (rd_o k55 (rd_o k6 (rd_o k5 ef1 rfl) rfl) rfl) rfl); have z1_ := congrArg Int32.toInt (rd_s k58); have z2_ := congrArg Int32.toInt (rd_o k58 (rd_o k55 (rd_o k6 (rd_o k5 ef0 rfl) rfl) rfl) rfl); have z3_ := congrArg Int32.toInt (rd_o k58 (rd_s k55) rfl); have z4_ := congrArg Int32.toInt (rd_o k58 (rd_o k55 (rd_o k6 (rd_s k5) rfl) rfl) rfl); have z_ := w_lits; have zl_ := l_lits; omega) (by have z0_ := congrArg Int32.toInt (rd_o k58 (rd_o k55 (rd_o k6 (rd_o k5 ef1 rfl) rfl) rfl) rfl); have z1_ := congrArg Int32.toInt (rd_s k58); have z2_ := congrArg Int32.toInt (rd_o k58 (rd_o k55 (rd_o k6 (rd_o k5 ef0 rfl) rfl) rfl) rfl); have z3_ := congrArg Int32.toInt (rd_o k58 (rd_s k55) rfl); have z4_ := congrArg Int32.toInt (rd_o k58 (rd_o k55 (rd_o k6 (rd_s k5) rfl) rfl) rfl); have z_ := w_lits; have zl_ := l_lits; omega) (by have z0_ := congrArg Int32.toInt (rd_o k58 (rd_o k55 (rd_o k6 (rd_o k5 ef1 rfl) rfl) rfl) rfl); have z1_ := congrArg Int32.toInt (rd_s k58); have z2_ := congrArg Int32.toInt (rd_o k58 (rd_o k55 (rd_o k6 (rd_o k5 ef0 rfl) rfl) rfl) rfl); have z3_ := congrArg Int32.toInt (rd_o k58 (rd_s k55) rfl); have z4_ := congrArg Int32.toInt (rd_o k58 (rd_o k55 (rd_o k6 (rd_s k5) rfl) rfl) rfl); have z_ := w_lits; have zl_ := l_lits; omega) (by rw [(rd_s k58)]; exact L_init b57 (by decide)))
    · have b50 : B r47 5 5 := R_eqX (B.any r47) (by decide : B 5 5 5) c48
      have z51 := congrArg Int32.toInt c48
      rw [show (5 : Int32).toInt = 5 from by decide] at z51
      refine ev_aload_n rfl rfl rfl ?_
      refine ev_iconst (v := 4) rfl rfl (by decide) ?_
      refine ev_aload_n rfl rfl rfl ?_
      refine ev_getV (v := f2) rfl rfl fl_X10_210 rfl rfl rfl (rd_o k6 (rd_o k5 ef2 rfl) rfl) ?_
      have z442 := congrArg Int32.toInt (rd_o k6 (rd_o k5 ef1 rfl) rfl)
      have z443 := congrArg Int32.toInt (rd_o k6 (rd_o k5 ef2 rfl) rfl)
      have z444 := congrArg Int32.toInt (rd_o k6 (rd_o k5 ef0 rfl) rfl)
      have z445 := congrArg Int32.toInt (rd_s k6)
      have z446 := congrArg Int32.toInt (rd_o k6 (rd_s k5) rfl)
      refine ev_V2K hJ6 rfl rfl rfl lk_X10_200 vt_X10_fails rfl rfl rfl rfl rfl (w_X10_fails_63 L b h6 hJ6.1 4 ((by decide : B 4 4 4).mono (by decide) (by decide)) f2) (fun h447 hJ447 k447 m447 => ?_)
      obtain ⟨f448, ef448⟩ : ∃ f_, h447 63 21 = f_ := ⟨_, rfl⟩
      have bf448 : B f448 0 6 := by have z_ := hJ447.1 63 21; rw [ef448] at z_; exact z_
      have zf448 := congrArg Int32.toInt ef448
      have z449 := congrArg Int32.toInt (rd_w k447 (rd_o k6 (rd_o k5 ef1 rfl) rfl) rfl)
      have z450 := congrArg Int32.toInt (rd_w k447 (rd_o k6 (rd_o k5 ef2 rfl) rfl) rfl)
      have z451 := congrArg Int32.toInt ef448
      have z452 := congrArg Int32.toInt (rd_w k447 (rd_s k6) rfl)
      have z453 := congrArg Int32.toInt (rd_w k447 (rd_o k6 (rd_s k5) rfl) rfl)
      refine ev_goto rfl rfl ?_
      refine ev_aload_n rfl rfl rfl ?_
      refine ev_dup rfl rfl rfl ?_
      refine ev_getV (v := f2) rfl rfl fl_X10_210 rfl rfl rfl (rd_w k447 (rd_o k6 (rd_o k5 ef2 rfl) rfl) rfl) ?_
      refine ev_iconst (v := 1) rfl rfl (by decide) ?_
      refine ev_iaddB (l := 1) (u := 161) rfl rfl bf2 (by decide : B 1 1 1) (by decide) (by decide) (by decide) (by decide) (fun v454 b454 e454 g454 => ?_)
      have e454x := e454; rw [show (1 : Int32).toInt = 1 from by decide] at e454x
      have b455 : B v454 0 160 := ⟨(by have z0_ := congrArg Int32.toInt (rd_w k447 (rd_o k6 (rd_o k5 ef1 rfl) rfl) rfl); have z1_ := congrArg Int32.toInt (rd_w k447 (rd_o k6 (rd_o k5 ef2 rfl) rfl) rfl); have z2_ := congrArg Int32.toInt ef448; have z3_ := congrArg Int32.toInt (rd_w k447 (rd_s k6) rfl); have z4_ := congrArg Int32.toInt (rd_w k447 (rd_o k6 (rd_s k5) rfl) rfl); have z_ := w_lits; have zl_ := l_lits; omega), (by have z0_ := congrArg Int32.toInt (rd_w k447 (rd_o k6 (rd_o k5 ef1 rfl) rfl) rfl); have z1_ := congrArg Int32.toInt (rd_w k447 (rd_o k6 (rd_o k5 ef2 rfl) rfl) rfl); have z2_ := congrArg Int32.toInt ef448; have z3_ := congrArg Int32.toInt (rd_w k447 (rd_s k6) rfl); have z4_ := congrArg Int32.toInt (rd_w k447 (rd_o k6 (rd_s k5) rfl) rfl); have z_ := w_lits; have zl_ := l_lits; omega)⟩
      refine ev_putW (l := 0) (u := 160) hJ447 rfl b455 (by decide) (by decide) rfl rfl rfl fl_X10_210 rfl rfl rfl rfl rfl (fun h456 hJ456 k456 => ?_)
      refine ev_goto rfl rfl ?_
      have lp10_744 : ∀ (n : Nat) (w745 : Int32) (h747 : Hp), B w745 0 25 → JW [(63, 17), (63, 19), (63, 20), (63, 21), (63, 22)] h h747 → (h747 63 16 = f1) → (h747 63 19 = 1) → (h747 72 (Int32.toNatClampNeg f2) = t) → ((h747 63 17).toInt ≤ (h747 63 16).toInt) → ((h 63 17).toInt + 1 ≤ (h747 63 17).toInt) → (0 ≤ (h747 63 20).toInt ∧ (h747 63 20).toInt ≤ 4095) → 160 + 1 - (h747 63 17).toInt ≤ (n : Int) → EvQ mi_X10_readChord 10 [some (.ref 63), some (.int w745)] [] (G0 L b) h747 0 0 (QK (fun z : Hp => ((z 63 17).toInt ≤ (z 63 16).toInt) ∧ ((h 63 17).toInt + 1 ≤ (z 63 17).toInt) ∧ ((z 63 19).toInt = 1) ∧ (0 ≤ (z 63 20).toInt ∧ (z 63 20).toInt ≤ 4095)) [(63, 17), (63, 19), (63, 20), (63, 21), (63, 22)] (G0 L b) h) := by
        intro n
        induction n with
        | zero =>
          intro w745 h747 b746 hJ748 z749 z750 z751 y10_0 y10_1 y10_2 hm10
          obtain ⟨f752, ef752⟩ : ∃ f_, h747 63 17 = f_ := ⟨_, rfl⟩
          have bf752 : B f752 0 160 := by
            have z_ := hJ748.1 63 17
            rw [ef752] at z_
            exact z_
          rw [ef752] at hm10
          exact absurd hm10 (L_zero bf752 (by decide))
        | succ n ih10 =>
          intro w745 h747 b746 hJ748 z749 z750 z751 y10_0 y10_1 y10_2 hm10
          obtain ⟨f752, ef752⟩ : ∃ f_, h747 63 17 = f_ := ⟨_, rfl⟩
          have bf752 : B f752 0 160 := by
            have z_ := hJ748.1 63 17
            rw [ef752] at z_
            exact z_
          rw [ef752] at hm10
          obtain ⟨f753, ef753⟩ : ∃ f_, h747 63 21 = f_ := ⟨_, rfl⟩
          have bf753 : B f753 0 6 := by have z_ := hJ748.1 63 21; rw [ef753] at z_; exact z_
          have zf753 := congrArg Int32.toInt ef753
          obtain ⟨f754, ef754⟩ : ∃ f_, h747 63 20 = f_ := ⟨_, rfl⟩
          have bf754 : B f754 (-2147483648) 2147483647 := by have z_ := hJ748.1 63 20; rw [ef754] at z_; exact z_
          have zf754 := congrArg Int32.toInt ef754
          have z755 := congrArg Int32.toInt z749
          have z756 := congrArg Int32.toInt ef752
          have z757 := congrArg Int32.toInt ef753
          have z758 := congrArg Int32.toInt ef754
          have z759 := congrArg Int32.toInt z750
          refine ev_aload_n rfl rfl rfl ?_
          refine ev_aload_n rfl rfl rfl ?_
          refine ev_getV (v := f752) rfl rfl fl_X10_210 rfl rfl rfl ef752 ?_
          obtain ⟨t760, et760⟩ : ∃ f_, h747 72 (Int32.toNatClampNeg f752) = f_ := ⟨_, rfl⟩
          have bt760 : B t760 0 255 := by have z_ := hJ748.1 72 (Int32.toNatClampNeg f752); rw [et760] at z_; exact z_
          have z761 := congrArg Int32.toInt z749
          have z762 := congrArg Int32.toInt ef752
          have z763 := congrArg Int32.toInt ef753
          have z764 := congrArg Int32.toInt ef754
          have z765 := congrArg Int32.toInt z750
          refine ev_V1P rfl rfl lk_X10_213 vt_X10_look rfl rfl rfl rfl rfl (w_X10_look_63 L b h747 hJ748.1 f752 bf752 t760 et760) (fun r766 q766 => ?_)
          obtain ⟨b766, pp766_0, pp766_1⟩ := q766
          refine ev_i2l rfl rfl ?_
          have z767 := Int32.toInt_toInt64 r766
          have z767b := B.any r766
          refine ev_ldc2 (v := 97) rfl rfl kc_X10_216 ?_
          refine ev_ldc2 (v := 122) rfl rfl kc_X10_218 ?_
          have z768 := congrArg Int32.toInt z749
          have z769 := congrArg Int32.toInt ef752
          have z770 := congrArg Int32.toInt ef753
          have z771 := congrArg Int32.toInt ef754
          have z772 := congrArg Int32.toInt z750
          refine ev_S3P rfl rfl lk_X10_124 st_X10_in rfl rfl (w_inR (G0 L b) h747 r766 97 122 (by decide : BL 97 97 97) (by decide : BL 122 122 122)) (fun r773 q773 => ?_)
          obtain ⟨b773, p773_0, pp773_0, pp773_1⟩ := q773
          refine ev_if_eq rfl rfl (fun c774 => ?_) (fun c774 => ?_)
          · have b775 : B r773 0 0 := R_eqX b773 (by decide : B 0 0 0) c774
            have z776 := congrArg Int32.toInt c774
            rw [show (0 : Int32).toInt = 0 from by decide] at z776
            exact ev_vret rfl rfl trivial ⟨rfl, rfl, hJ748, (by have z0_ := congrArg Int32.toInt z749; have z1_ := congrArg Int32.toInt ef752; have z2_ := congrArg Int32.toInt ef753; have z3_ := congrArg Int32.toInt ef754; have z4_ := congrArg Int32.toInt z750; have z_ := w_lits; have zl_ := l_lits; omega), (by have z0_ := congrArg Int32.toInt z749; have z1_ := congrArg Int32.toInt ef752; have z2_ := congrArg Int32.toInt ef753; have z3_ := congrArg Int32.toInt ef754; have z4_ := congrArg Int32.toInt z750; have z_ := w_lits; have zl_ := l_lits; omega), (by have z0_ := congrArg Int32.toInt z749; have z1_ := congrArg Int32.toInt ef752; have z2_ := congrArg Int32.toInt ef753; have z3_ := congrArg Int32.toInt ef754; have z4_ := congrArg Int32.toInt z750; have z_ := w_lits; have zl_ := l_lits; omega), (by have z0_ := congrArg Int32.toInt z749; have z1_ := congrArg Int32.toInt ef752; have z2_ := congrArg Int32.toInt ef753; have z3_ := congrArg Int32.toInt ef754; have z4_ := congrArg Int32.toInt z750; have z_ := w_lits; have zl_ := l_lits; omega)⟩
          · have b777 : B r773 1 1 := R_neL b773 (by decide : B 0 0 0) c774 (by decide)
            have b778 : B r766 97 122 := p773_0 c774
            have z779 := w_ne c774
            rw [show (0 : Int32).toInt = 0 from by decide] at z779
            refine ev_aload_n rfl rfl rfl ?_
            refine ev_getV (v := f753) rfl rfl fl_X10_191 rfl rfl rfl ef753 ?_
            refine ev_if_ne rfl rfl (fun c780 => ?_) (fun c780 => ?_)
            · have b781 : B f753 1 6 := R_neL bf753 (by decide : B 0 0 0) c780 (by decide)
              have z782 := w_ne c780
              rw [show (0 : Int32).toInt = 0 from by decide] at z782
              exact ev_vret rfl rfl trivial ⟨rfl, rfl, hJ748, (by have z0_ := congrArg Int32.toInt z749; have z1_ := congrArg Int32.toInt ef752; have z2_ := congrArg Int32.toInt ef753; have z3_ := congrArg Int32.toInt ef754; have z4_ := congrArg Int32.toInt z750; have z_ := w_lits; have zl_ := l_lits; omega), (by have z0_ := congrArg Int32.toInt z749; have z1_ := congrArg Int32.toInt ef752; have z2_ := congrArg Int32.toInt ef753; have z3_ := congrArg Int32.toInt ef754; have z4_ := congrArg Int32.toInt z750; have z_ := w_lits; have zl_ := l_lits; omega), (by have z0_ := congrArg Int32.toInt z749; have z1_ := congrArg Int32.toInt ef752; have z2_ := congrArg Int32.toInt ef753; have z3_ := congrArg Int32.toInt ef754; have z4_ := congrArg Int32.toInt z750; have z_ := w_lits; have zl_ := l_lits; omega), (by have z0_ := congrArg Int32.toInt z749; have z1_ := congrArg Int32.toInt ef752; have z2_ := congrArg Int32.toInt ef753; have z3_ := congrArg Int32.toInt ef754; have z4_ := congrArg Int32.toInt z750; have z_ := w_lits; have zl_ := l_lits; omega)⟩
            · have b783 : B f753 0 0 := R_eqX bf753 (by decide : B 0 0 0) c780
              have z784 := congrArg Int32.toInt c780
              rw [show (0 : Int32).toInt = 0 from by decide] at z784
              refine ev_aload_n rfl rfl rfl ?_
              refine ev_aload_n rfl rfl rfl ?_
              refine ev_getV (v := f752) rfl rfl fl_X10_210 rfl rfl rfl ef752 ?_
              have z785 := congrArg Int32.toInt z749
              have z786 := congrArg Int32.toInt ef752
              have z787 := congrArg Int32.toInt ef753
              have z788 := congrArg Int32.toInt ef754
              have z789 := congrArg Int32.toInt z750
              refine ev_V1P rfl rfl lk_X10_213 vt_X10_look rfl rfl rfl rfl rfl (w_X10_look_63 L b h747 hJ748.1 f752 bf752 t760 et760) (fun r790 q790 => ?_)
              obtain ⟨b790, pp790_0, pp790_1⟩ := q790
              refine ev_bipush (v := 97) rfl rfl (by decide) ?_
              have b791 : B r790 97 122 := ⟨(by have z0_ := congrArg Int32.toInt z749; have z1_ := congrArg Int32.toInt ef752; have z2_ := congrArg Int32.toInt ef753; have z3_ := congrArg Int32.toInt ef754; have z4_ := congrArg Int32.toInt z750; have z_ := w_lits; have zl_ := l_lits; omega), (by have z0_ := congrArg Int32.toInt z749; have z1_ := congrArg Int32.toInt ef752; have z2_ := congrArg Int32.toInt ef753; have z3_ := congrArg Int32.toInt ef754; have z4_ := congrArg Int32.toInt z750; have z_ := w_lits; have zl_ := l_lits; omega)⟩
              refine ev_isubB (l := 0) (u := 25) rfl rfl b791 (by decide : B 97 97 97) (by decide) (by decide) (by decide) (by decide) (fun v792 b792 e792 g792 => ?_)
              have e792x := e792; rw [show (97 : Int32).toInt = 97 from by decide] at e792x
              refine ev_istore_n rfl rfl rfl rfl ?_
              dsimp only [List.set]
              refine ev_iload_n rfl rfl rfl ?_
              refine ev_bipush (v := 11) rfl rfl (by decide) ?_
              refine ev_icmp_le rfl rfl (fun c793 => ?_) (fun c793 => ?_)
              · have b794 : B v792 0 11 := R_leX b792 (by decide : B 11 11 11) c793 (by decide)
                have b795 : B r790 97 108 := (R_bks (l' := 97) (u' := 108) e792 b794 (by decide : B 97 97 97) (by decide) (by decide))
                have z796 := w_le c793
                rw [show (11 : Int32).toInt = 11 from by decide] at z796
                refine ev_aload_n rfl rfl rfl ?_
                refine ev_getV (v := f754) rfl rfl fl_X10_207 rfl rfl rfl ef754 ?_
                refine ev_iload_n rfl rfl rfl ?_
                refine ev_ishrA rfl rfl (fun v800 => ?_)
                refine ev_iconst (v := 1) rfl rfl (by decide) ?_
                refine ev_iandB rfl rfl (by decide : B 1 1 1) (by decide) (fun v801 b801 e801 => ?_)
                refine ev_iconst (v := 1) rfl rfl (by decide) ?_
                refine ev_icmp_eq rfl rfl (fun c802 => ?_) (fun c802 => ?_)
                · have b803 : B v801 1 1 := R_eqX b801 (by decide : B 1 1 1) c802
                  have z804 := congrArg Int32.toInt c802
                  rw [show (1 : Int32).toInt = 1 from by decide] at z804
                  refine ev_aload_n rfl rfl rfl ?_
                  refine ev_iconst (v := 4) rfl rfl (by decide) ?_
                  refine ev_aload_n rfl rfl rfl ?_
                  refine ev_getV (v := f752) rfl rfl fl_X10_210 rfl rfl rfl ef752 ?_
                  have z807 := congrArg Int32.toInt z749
                  have z808 := congrArg Int32.toInt ef752
                  have z809 := congrArg Int32.toInt ef753
                  have z810 := congrArg Int32.toInt ef754
                  have z811 := congrArg Int32.toInt z750
                  refine ev_V2K hJ748 rfl rfl rfl lk_X10_200 vt_X10_fails rfl rfl rfl rfl rfl (w_X10_fails_63 L b h747 hJ748.1 4 ((by decide : B 4 4 4).mono (by decide) (by decide)) f752) (fun h812 hJ812 k812 m812 => ?_)
                  obtain ⟨f813, ef813⟩ : ∃ f_, h812 63 21 = f_ := ⟨_, rfl⟩
                  have bf813 : B f813 0 6 := by have z_ := hJ812.1 63 21; rw [ef813] at z_; exact z_
                  have zf813 := congrArg Int32.toInt ef813
                  have z814 := congrArg Int32.toInt (rd_w k812 z749 rfl)
                  have z815 := congrArg Int32.toInt (rd_w k812 ef752 rfl)
                  have z816 := congrArg Int32.toInt ef813
                  have z817 := congrArg Int32.toInt (rd_w k812 ef754 rfl)
                  have z818 := congrArg Int32.toInt (rd_w k812 z750 rfl)
                  refine ev_goto rfl rfl ?_
                  refine ev_aload_n rfl rfl rfl ?_
                  refine ev_dup rfl rfl rfl ?_
                  refine ev_getV (v := f752) rfl rfl fl_X10_210 rfl rfl rfl (rd_w k812 ef752 rfl) ?_
                  refine ev_iconst (v := 1) rfl rfl (by decide) ?_
                  refine ev_iaddB (l := 1) (u := 161) rfl rfl bf752 (by decide : B 1 1 1) (by decide) (by decide) (by decide) (by decide) (fun v819 b819 e819 g819 => ?_)
                  have e819x := e819; rw [show (1 : Int32).toInt = 1 from by decide] at e819x
                  have b820 : B v819 0 160 := ⟨(by have z0_ := congrArg Int32.toInt (rd_w k812 z749 rfl); have z1_ := congrArg Int32.toInt (rd_w k812 ef752 rfl); have z2_ := congrArg Int32.toInt ef813; have z3_ := congrArg Int32.toInt (rd_w k812 ef754 rfl); have z4_ := congrArg Int32.toInt (rd_w k812 z750 rfl); have z_ := w_lits; have zl_ := l_lits; omega), (by have z0_ := congrArg Int32.toInt (rd_w k812 z749 rfl); have z1_ := congrArg Int32.toInt (rd_w k812 ef752 rfl); have z2_ := congrArg Int32.toInt ef813; have z3_ := congrArg Int32.toInt (rd_w k812 ef754 rfl); have z4_ := congrArg Int32.toInt (rd_w k812 z750 rfl); have z_ := w_lits; have zl_ := l_lits; omega)⟩
                  refine ev_putW (l := 0) (u := 160) hJ812 rfl b820 (by decide) (by decide) rfl rfl rfl fl_X10_210 rfl rfl rfl rfl rfl (fun h821 hJ821 k821 => ?_)
                  refine ev_goto rfl rfl ?_
                  exact (ih10 v792 h821 (b794.mono (by decide) (by decide)) hJ821 (rd_o k821 (rd_w k812 z749 rfl) rfl) (rd_o k821 (rd_w k812 z750 rfl) rfl) (rd_o k821 (rd_w k812 z751 rfl) rfl) (by have z0_ := congrArg Int32.toInt (rd_o k821 (rd_w k812 z749 rfl) rfl); have z1_ := congrArg Int32.toInt (rd_s k821); have z2_ := congrArg Int32.toInt (rd_o k821 ef813 rfl); have z3_ := congrArg Int32.toInt (rd_o k821 (rd_w k812 ef754 rfl) rfl); have z4_ := congrArg Int32.toInt (rd_o k821 (rd_w k812 z750 rfl) rfl); have z_ := w_lits; have zl_ := l_lits; omega) (by have z0_ := congrArg Int32.toInt (rd_o k821 (rd_w k812 z749 rfl) rfl); have z1_ := congrArg Int32.toInt (rd_s k821); have z2_ := congrArg Int32.toInt (rd_o k821 ef813 rfl); have z3_ := congrArg Int32.toInt (rd_o k821 (rd_w k812 ef754 rfl) rfl); have z4_ := congrArg Int32.toInt (rd_o k821 (rd_w k812 z750 rfl) rfl); have z_ := w_lits; have zl_ := l_lits; omega) (by have z0_ := congrArg Int32.toInt (rd_o k821 (rd_w k812 z749 rfl) rfl); have z1_ := congrArg Int32.toInt (rd_s k821); have z2_ := congrArg Int32.toInt (rd_o k821 ef813 rfl); have z3_ := congrArg Int32.toInt (rd_o k821 (rd_w k812 ef754 rfl) rfl); have z4_ := congrArg Int32.toInt (rd_o k821 (rd_w k812 z750 rfl) rfl); have z_ := w_lits; have zl_ := l_lits; omega) (by rw [(rd_s k821)]; exact L_up hm10 (e_p1 e819 (by decide))))
                · have b805 : B v801 0 0 := R_neU b801 (by decide : B 1 1 1) c802 (by decide)
                  have z806 := w_ne c802
                  rw [show (1 : Int32).toInt = 1 from by decide] at z806
                  refine ev_aload_n rfl rfl rfl ?_
                  refine ev_getV (v := f754) rfl rfl fl_X10_207 rfl rfl rfl ef754 ?_
                  refine ev_S1P rfl rfl lk_X10_220 st_X10_bits rfl rfl (w_X10_bits L b h747 hJ748.1 f754) (fun r822 q822 => ?_)
                  refine ev_iconst (v := 5) rfl rfl (by decide) ?_
                  refine ev_icmp_ne rfl rfl (fun c823 => ?_) (fun c823 => ?_)
                  · have z824 := w_ne c823
                    rw [show (5 : Int32).toInt = 5 from by decide] at z824
                    refine ev_aload_n rfl rfl rfl ?_
                    refine ev_dup rfl rfl rfl ?_
                    refine ev_getV (v := f754) rfl rfl fl_X10_207 rfl rfl rfl ef754 ?_
                    refine ev_iconst (v := 1) rfl rfl (by decide) ?_
                    refine ev_iload_n rfl rfl rfl ?_
                    refine ev_ishlB rfl rfl b794 (by decide) (by decide) (fun v827 b827 => ?_)
                    have b828 : B f754 0 4095 := ⟨(by have z0_ := congrArg Int32.toInt z749; have z1_ := congrArg Int32.toInt ef752; have z2_ := congrArg Int32.toInt ef753; have z3_ := congrArg Int32.toInt ef754; have z4_ := congrArg Int32.toInt z750; have z_ := w_lits; have zl_ := l_lits; omega), (by have z0_ := congrArg Int32.toInt z749; have z1_ := congrArg Int32.toInt ef752; have z2_ := congrArg Int32.toInt ef753; have z3_ := congrArg Int32.toInt ef754; have z4_ := congrArg Int32.toInt z750; have z_ := w_lits; have zl_ := l_lits; omega)⟩
                    refine ev_iorB 12 (u := 4095) rfl rfl b828 b827 (by decide) (by decide) (by decide) (by decide) (by decide) (by decide) (fun v829 b829 e829 => ?_)
                    refine ev_putW (l := (-2147483648)) (u := 2147483647) hJ748 rfl b829 (by decide) (by decide) rfl rfl rfl fl_X10_207 rfl rfl rfl rfl rfl (fun h830 hJ830 k830 => ?_)
                    refine ev_aload_n rfl rfl rfl ?_
                    refine ev_dup rfl rfl rfl ?_
                    refine ev_getV (v := f752) rfl rfl fl_X10_210 rfl rfl rfl (rd_o k830 ef752 rfl) ?_
                    refine ev_iconst (v := 1) rfl rfl (by decide) ?_
                    refine ev_iaddB (l := 1) (u := 161) rfl rfl bf752 (by decide : B 1 1 1) (by decide) (by decide) (by decide) (by decide) (fun v831 b831 e831 g831 => ?_)
                    have e831x := e831; rw [show (1 : Int32).toInt = 1 from by decide] at e831x
                    have b832 : B v831 0 160 := ⟨(by have z0_ := congrArg Int32.toInt (rd_o k830 z749 rfl); have z1_ := congrArg Int32.toInt (rd_o k830 ef752 rfl); have z2_ := congrArg Int32.toInt (rd_o k830 ef753 rfl); have z3_ := congrArg Int32.toInt (rd_s k830); have z4_ := congrArg Int32.toInt (rd_o k830 z750 rfl); have z_ := w_lits; have zl_ := l_lits; omega), (by have z0_ := congrArg Int32.toInt (rd_o k830 z749 rfl); have z1_ := congrArg Int32.toInt (rd_o k830 ef752 rfl); have z2_ := congrArg Int32.toInt (rd_o k830 ef753 rfl); have z3_ := congrArg Int32.toInt (rd_s k830); have z4_ := congrArg Int32.toInt (rd_o k830 z750 rfl); have z_ := w_lits; have zl_ := l_lits; omega)⟩
                    refine ev_putW (l := 0) (u := 160) hJ830 rfl b832 (by decide) (by decide) rfl rfl rfl fl_X10_210 rfl rfl rfl rfl rfl (fun h833 hJ833 k833 => ?_)
                    refine ev_goto rfl rfl ?_
                    exact (ih10 v792 h833 (b794.mono (by decide) (by decide)) hJ833 (rd_o k833 (rd_o k830 z749 rfl) rfl) (rd_o k833 (rd_o k830 z750 rfl) rfl) (rd_o k833 (rd_o k830 z751 rfl) rfl) (by have z0_ := congrArg Int32.toInt (rd_o k833 (rd_o k830 z749 rfl) rfl); have z1_ := congrArg Int32.toInt (rd_s k833); have z2_ := congrArg Int32.toInt (rd_o k833 (rd_o k830 ef753 rfl) rfl); have z3_ := congrArg Int32.toInt (rd_o k833 (rd_s k830) rfl); have z4_ := congrArg Int32.toInt (rd_o k833 (rd_o k830 z750 rfl) rfl); have z_ := w_lits; have zl_ := l_lits; omega) (by have z0_ := congrArg Int32.toInt (rd_o k833 (rd_o k830 z749 rfl) rfl); have z1_ := congrArg Int32.toInt (rd_s k833); have z2_ := congrArg Int32.toInt (rd_o k833 (rd_o k830 ef753 rfl) rfl); have z3_ := congrArg Int32.toInt (rd_o k833 (rd_s k830) rfl); have z4_ := congrArg Int32.toInt (rd_o k833 (rd_o k830 z750 rfl) rfl); have z_ := w_lits; have zl_ := l_lits; omega) (by have z0_ := congrArg Int32.toInt (rd_o k833 (rd_o k830 z749 rfl) rfl); have z1_ := congrArg Int32.toInt (rd_s k833); have z2_ := congrArg Int32.toInt (rd_o k833 (rd_o k830 ef753 rfl) rfl); have z3_ := congrArg Int32.toInt (rd_o k833 (rd_s k830) rfl); have z4_ := congrArg Int32.toInt (rd_o k833 (rd_o k830 z750 rfl) rfl); have z_ := w_lits; have zl_ := l_lits; omega) (by rw [(rd_s k833)]; exact L_up hm10 (e_p1 e831 (by decide))))
                  · have b825 : B r822 5 5 := R_eqX (B.any r822) (by decide : B 5 5 5) c823
                    have z826 := congrArg Int32.toInt c823
                    rw [show (5 : Int32).toInt = 5 from by decide] at z826
                    refine ev_aload_n rfl rfl rfl ?_
                    refine ev_iconst (v := 4) rfl rfl (by decide) ?_
                    refine ev_aload_n rfl rfl rfl ?_
                    refine ev_getV (v := f752) rfl rfl fl_X10_210 rfl rfl rfl ef752 ?_
                    have z834 := congrArg Int32.toInt z749
                    have z835 := congrArg Int32.toInt ef752
                    have z836 := congrArg Int32.toInt ef753
                    have z837 := congrArg Int32.toInt ef754
                    have z838 := congrArg Int32.toInt z750
                    refine ev_V2K hJ748 rfl rfl rfl lk_X10_200 vt_X10_fails rfl rfl rfl rfl rfl (w_X10_fails_63 L b h747 hJ748.1 4 ((by decide : B 4 4 4).mono (by decide) (by decide)) f752) (fun h839 hJ839 k839 m839 => ?_)
                    obtain ⟨f840, ef840⟩ : ∃ f_, h839 63 21 = f_ := ⟨_, rfl⟩
                    have bf840 : B f840 0 6 := by have z_ := hJ839.1 63 21; rw [ef840] at z_; exact z_
                    have zf840 := congrArg Int32.toInt ef840
                    have z841 := congrArg Int32.toInt (rd_w k839 z749 rfl)
                    have z842 := congrArg Int32.toInt (rd_w k839 ef752 rfl)
                    have z843 := congrArg Int32.toInt ef840
                    have z844 := congrArg Int32.toInt (rd_w k839 ef754 rfl)
                    have z845 := congrArg Int32.toInt (rd_w k839 z750 rfl)
                    refine ev_goto rfl rfl ?_
                    refine ev_aload_n rfl rfl rfl ?_
                    refine ev_dup rfl rfl rfl ?_
                    refine ev_getV (v := f752) rfl rfl fl_X10_210 rfl rfl rfl (rd_w k839 ef752 rfl) ?_
                    refine ev_iconst (v := 1) rfl rfl (by decide) ?_
                    refine ev_iaddB (l := 1) (u := 161) rfl rfl bf752 (by decide : B 1 1 1) (by decide) (by decide) (by decide) (by decide) (fun v846 b846 e846 g846 => ?_)
                    have e846x := e846; rw [show (1 : Int32).toInt = 1 from by decide] at e846x
                    have b847 : B v846 0 160 := ⟨(by have z0_ := congrArg Int32.toInt (rd_w k839 z749 rfl); have z1_ := congrArg Int32.toInt (rd_w k839 ef752 rfl); have z2_ := congrArg Int32.toInt ef840; have z3_ := congrArg Int32.toInt (rd_w k839 ef754 rfl); have z4_ := congrArg Int32.toInt (rd_w k839 z750 rfl); have z_ := w_lits; have zl_ := l_lits; omega), (by have z0_ := congrArg Int32.toInt (rd_w k839 z749 rfl); have z1_ := congrArg Int32.toInt (rd_w k839 ef752 rfl); have z2_ := congrArg Int32.toInt ef840; have z3_ := congrArg Int32.toInt (rd_w k839 ef754 rfl); have z4_ := congrArg Int32.toInt (rd_w k839 z750 rfl); have z_ := w_lits; have zl_ := l_lits; omega)⟩
                    refine ev_putW (l := 0) (u := 160) hJ839 rfl b847 (by decide) (by decide) rfl rfl rfl fl_X10_210 rfl rfl rfl rfl rfl (fun h848 hJ848 k848 => ?_)
                    refine ev_goto rfl rfl ?_
                    exact (ih10 v792 h848 (b794.mono (by decide) (by decide)) hJ848 (rd_o k848 (rd_w k839 z749 rfl) rfl) (rd_o k848 (rd_w k839 z750 rfl) rfl) (rd_o k848 (rd_w k839 z751 rfl) rfl) (by have z0_ := congrArg Int32.toInt (rd_o k848 (rd_w k839 z749 rfl) rfl); have z1_ := congrArg Int32.toInt (rd_s k848); have z2_ := congrArg Int32.toInt (rd_o k848 ef840 rfl); have z3_ := congrArg Int32.toInt (rd_o k848 (rd_w k839 ef754 rfl) rfl); have z4_ := congrArg Int32.toInt (rd_o k848 (rd_w k839 z750 rfl) rfl); have z_ := w_lits; have zl_ := l_lits; omega) (by have z0_ := congrArg Int32.toInt (rd_o k848 (rd_w k839 z749 rfl) rfl); have z1_ := congrArg Int32.toInt (rd_s k848); have z2_ := congrArg Int32.toInt (rd_o k848 ef840 rfl); have z3_ := congrArg Int32.toInt (rd_o k848 (rd_w k839 ef754 rfl) rfl); have z4_ := congrArg Int32.toInt (rd_o k848 (rd_w k839 z750 rfl) rfl); have z_ := w_lits; have zl_ := l_lits; omega) (by have z0_ := congrArg Int32.toInt (rd_o k848 (rd_w k839 z749 rfl) rfl); have z1_ := congrArg Int32.toInt (rd_s k848); have z2_ := congrArg Int32.toInt (rd_o k848 ef840 rfl); have z3_ := congrArg Int32.toInt (rd_o k848 (rd_w k839 ef754 rfl) rfl); have z4_ := congrArg Int32.toInt (rd_o k848 (rd_w k839 z750 rfl) rfl); have z_ := w_lits; have zl_ := l_lits; omega) (by rw [(rd_s k848)]; exact L_up hm10 (e_p1 e846 (by decide))))
              · have b797 : B v792 12 25 := R_ltY (by decide : B 11 11 11) b792 (Int32.not_le.mp c793) (by decide)
                have b798 : B r790 109 122 := (R_bks (l' := 109) (u' := 122) e792 b797 (by decide : B 97 97 97) (by decide) (by decide))
                have z799 := w_lt (Int32.not_le.mp c793)
                rw [show (11 : Int32).toInt = 11 from by decide] at z799
                refine ev_aload_n rfl rfl rfl ?_
                refine ev_iconst (v := 1) rfl rfl (by decide) ?_
                refine ev_aload_n rfl rfl rfl ?_
                refine ev_getV (v := f752) rfl rfl fl_X10_210 rfl rfl rfl ef752 ?_
                have z849 := congrArg Int32.toInt z749
                have z850 := congrArg Int32.toInt ef752
                have z851 := congrArg Int32.toInt ef753
                have z852 := congrArg Int32.toInt ef754
                have z853 := congrArg Int32.toInt z750
                refine ev_V2K hJ748 rfl rfl rfl lk_X10_200 vt_X10_fails rfl rfl rfl rfl rfl (w_X10_fails_63 L b h747 hJ748.1 1 ((by decide : B 1 1 1).mono (by decide) (by decide)) f752) (fun h854 hJ854 k854 m854 => ?_)
                obtain ⟨f855, ef855⟩ : ∃ f_, h854 63 21 = f_ := ⟨_, rfl⟩
                have bf855 : B f855 0 6 := by have z_ := hJ854.1 63 21; rw [ef855] at z_; exact z_
                have zf855 := congrArg Int32.toInt ef855
                have z856 := congrArg Int32.toInt (rd_w k854 z749 rfl)
                have z857 := congrArg Int32.toInt (rd_w k854 ef752 rfl)
                have z858 := congrArg Int32.toInt ef855
                have z859 := congrArg Int32.toInt (rd_w k854 ef754 rfl)
                have z860 := congrArg Int32.toInt (rd_w k854 z750 rfl)
                refine ev_goto rfl rfl ?_
                refine ev_aload_n rfl rfl rfl ?_
                refine ev_dup rfl rfl rfl ?_
                refine ev_getV (v := f752) rfl rfl fl_X10_210 rfl rfl rfl (rd_w k854 ef752 rfl) ?_
                refine ev_iconst (v := 1) rfl rfl (by decide) ?_
                refine ev_iaddB (l := 1) (u := 161) rfl rfl bf752 (by decide : B 1 1 1) (by decide) (by decide) (by decide) (by decide) (fun v861 b861 e861 g861 => ?_)
                have e861x := e861; rw [show (1 : Int32).toInt = 1 from by decide] at e861x
                have b862 : B v861 0 160 := ⟨(by have z0_ := congrArg Int32.toInt (rd_w k854 z749 rfl); have z1_ := congrArg Int32.toInt (rd_w k854 ef752 rfl); have z2_ := congrArg Int32.toInt ef855; have z3_ := congrArg Int32.toInt (rd_w k854 ef754 rfl); have z4_ := congrArg Int32.toInt (rd_w k854 z750 rfl); have z_ := w_lits; have zl_ := l_lits; omega), (by have z0_ := congrArg Int32.toInt (rd_w k854 z749 rfl); have z1_ := congrArg Int32.toInt (rd_w k854 ef752 rfl); have z2_ := congrArg Int32.toInt ef855; have z3_ := congrArg Int32.toInt (rd_w k854 ef754 rfl); have z4_ := congrArg Int32.toInt (rd_w k854 z750 rfl); have z_ := w_lits; have zl_ := l_lits; omega)⟩
                refine ev_putW (l := 0) (u := 160) hJ854 rfl b862 (by decide) (by decide) rfl rfl rfl fl_X10_210 rfl rfl rfl rfl rfl (fun h863 hJ863 k863 => ?_)
                refine ev_goto rfl rfl ?_
                exact (ih10 v792 h863 (b797.mono (by decide) (by decide)) hJ863 (rd_o k863 (rd_w k854 z749 rfl) rfl) (rd_o k863 (rd_w k854 z750 rfl) rfl) (rd_o k863 (rd_w k854 z751 rfl) rfl) (by have z0_ := congrArg Int32.toInt (rd_o k863 (rd_w k854 z749 rfl) rfl); have z1_ := congrArg Int32.toInt (rd_s k863); have z2_ := congrArg Int32.toInt (rd_o k863 ef855 rfl); have z3_ := congrArg Int32.toInt (rd_o k863 (rd_w k854 ef754 rfl) rfl); have z4_ := congrArg Int32.toInt (rd_o k863 (rd_w k854 z750 rfl) rfl); have z_ := w_lits; have zl_ := l_lits; omega) (by have z0_ := congrArg Int32.toInt (rd_o k863 (rd_w k854 z749 rfl) rfl); have z1_ := congrArg Int32.toInt (rd_s k863); have z2_ := congrArg Int32.toInt (rd_o k863 ef855 rfl); have z3_ := congrArg Int32.toInt (rd_o k863 (rd_w k854 ef754 rfl) rfl); have z4_ := congrArg Int32.toInt (rd_o k863 (rd_w k854 z750 rfl) rfl); have z_ := w_lits; have zl_ := l_lits; omega) (by have z0_ := congrArg Int32.toInt (rd_o k863 (rd_w k854 z749 rfl) rfl); have z1_ := congrArg Int32.toInt (rd_s k863); have z2_ := congrArg Int32.toInt (rd_o k863 ef855 rfl); have z3_ := congrArg Int32.toInt (rd_o k863 (rd_w k854 ef754 rfl) rfl); have z4_ := congrArg Int32.toInt (rd_o k863 (rd_w k854 z750 rfl) rfl); have z_ := w_lits; have zl_ := l_lits; omega) (by rw [(rd_s k863)]; exact L_up hm10 (e_p1 e861 (by decide))))
      exact (lp10_744 161 v35 h456 (b37.mono (by decide) (by decide)) hJ456 (rd_o k456 (rd_w k447 (rd_o k6 (rd_o k5 ef1 rfl) rfl) rfl) rfl) (rd_o k456 (rd_w k447 (rd_o k6 (rd_s k5) rfl) rfl) rfl) (rd_o k456 (rd_w k447 (rd_o k6 (rd_o k5 rt rfl) rfl) rfl) rfl) (by have z0_ := congrArg Int32.toInt (rd_o k456 (rd_w k447 (rd_o k6 (rd_o k5 ef1 rfl) rfl) rfl) rfl); have z1_ := congrArg Int32.toInt (rd_s k456); have z2_ := congrArg Int32.toInt (rd_o k456 ef448 rfl); have z3_ := congrArg Int32.toInt (rd_o k456 (rd_w k447 (rd_s k6) rfl) rfl); have z4_ := congrArg Int32.toInt (rd_o k456 (rd_w k447 (rd_o k6 (rd_s k5) rfl) rfl) rfl); have z_ := w_lits; have zl_ := l_lits; omega) (by have z0_ := congrArg Int32.toInt (rd_o k456 (rd_w k447 (rd_o k6 (rd_o k5 ef1 rfl) rfl) rfl) rfl); have z1_ := congrArg Int32.toInt (rd_s k456); have z2_ := congrArg Int32.toInt (rd_o k456 ef448 rfl); have z3_ := congrArg Int32.toInt (rd_o k456 (rd_w k447 (rd_s k6) rfl) rfl); have z4_ := congrArg Int32.toInt (rd_o k456 (rd_w k447 (rd_o k6 (rd_s k5) rfl) rfl) rfl); have z_ := w_lits; have zl_ := l_lits; omega) (by have z0_ := congrArg Int32.toInt (rd_o k456 (rd_w k447 (rd_o k6 (rd_o k5 ef1 rfl) rfl) rfl) rfl); have z1_ := congrArg Int32.toInt (rd_s k456); have z2_ := congrArg Int32.toInt (rd_o k456 ef448 rfl); have z3_ := congrArg Int32.toInt (rd_o k456 (rd_w k447 (rd_s k6) rfl) rfl); have z4_ := congrArg Int32.toInt (rd_o k456 (rd_w k447 (rd_o k6 (rd_s k5) rfl) rfl) rfl); have z_ := w_lits; have zl_ := l_lits; omega) (by rw [(rd_s k456)]; exact L_init b455 (by decide)))
  · have b40 : B v35 12 25 := R_ltY (by decide : B 11 11 11) b35 (Int32.not_le.mp c36) (by decide)
    have b41 : B r33 109 122 := (R_bks (l' := 109) (u' := 122) e35 b40 (by decide : B 97 97 97) (by decide) (by decide))
    have z42 := w_lt (Int32.not_le.mp c36)
    rw [show (11 : Int32).toInt = 11 from by decide] at z42
    refine ev_aload_n rfl rfl rfl ?_
    refine ev_iconst (v := 1) rfl rfl (by decide) ?_
    refine ev_aload_n rfl rfl rfl ?_
    refine ev_getV (v := f2) rfl rfl fl_X10_210 rfl rfl rfl (rd_o k6 (rd_o k5 ef2 rfl) rfl) ?_
    have z864 := congrArg Int32.toInt (rd_o k6 (rd_o k5 ef1 rfl) rfl)
    have z865 := congrArg Int32.toInt (rd_o k6 (rd_o k5 ef2 rfl) rfl)
    have z866 := congrArg Int32.toInt (rd_o k6 (rd_o k5 ef0 rfl) rfl)
    have z867 := congrArg Int32.toInt (rd_s k6)
    have z868 := congrArg Int32.toInt (rd_o k6 (rd_s k5) rfl)
    refine ev_V2K hJ6 rfl rfl rfl lk_X10_200 vt_X10_fails rfl rfl rfl rfl rfl (w_X10_fails_63 L b h6 hJ6.1 1 ((by decide : B 1 1 1).mono (by decide) (by decide)) f2) (fun h869 hJ869 k869 m869 => ?_)
    obtain ⟨f870, ef870⟩ : ∃ f_, h869 63 21 = f_ := ⟨_, rfl⟩
    have bf870 : B f870 0 6 := by have z_ := hJ869.1 63 21; rw [ef870] at z_; exact z_
    have zf870 := congrArg Int32.toInt ef870
    have z871 := congrArg Int32.toInt (rd_w k869 (rd_o k6 (rd_o k5 ef1 rfl) rfl) rfl)
    have z872 := congrArg Int32.toInt (rd_w k869 (rd_o k6 (rd_o k5 ef2 rfl) rfl) rfl)
    have z873 := congrArg Int32.toInt ef870
    have z874 := congrArg Int32.toInt (rd_w k869 (rd_s k6) rfl)
    have z875 := congrArg Int32.toInt (rd_w k869 (rd_o k6 (rd_s k5) rfl) rfl)
    refine ev_goto rfl rfl ?_
    refine ev_aload_n rfl rfl rfl ?_
    refine ev_dup rfl rfl rfl ?_
    refine ev_getV (v := f2) rfl rfl fl_X10_210 rfl rfl rfl (rd_w k869 (rd_o k6 (rd_o k5 ef2 rfl) rfl) rfl) ?_
    refine ev_iconst (v := 1) rfl rfl (by decide) ?_
    refine ev_iaddB (l := 1) (u := 161) rfl rfl bf2 (by decide : B 1 1 1) (by decide) (by decide) (by decide) (by decide) (fun v876 b876 e876 g876 => ?_)
    have e876x := e876; rw [show (1 : Int32).toInt = 1 from by decide] at e876x
    have b877 : B v876 0 160 := ⟨(by have z0_ := congrArg Int32.toInt (rd_w k869 (rd_o k6 (rd_o k5 ef1 rfl) rfl) rfl); have z1_ := congrArg Int32.toInt (rd_w k869 (rd_o k6 (rd_o k5 ef2 rfl) rfl) rfl); have z2_ := congrArg Int32.toInt ef870; have z3_ := congrArg Int32.toInt (rd_w k869 (rd_s k6) rfl); have z4_ := congrArg Int32.toInt (rd_w k869 (rd_o k6 (rd_s k5) rfl) rfl); have z_ := w_lits; have zl_ := l_lits; omega), (by have z0_ := congrArg Int32.toInt (rd_w k869 (rd_o k6 (rd_o k5 ef1 rfl) rfl) rfl); have z1_ := congrArg Int32.toInt (rd_w k869 (rd_o k6 (rd_o k5 ef2 rfl) rfl) rfl); have z2_ := congrArg Int32.toInt ef870; have z3_ := congrArg Int32.toInt (rd_w k869 (rd_s k6) rfl); have z4_ := congrArg Int32.toInt (rd_w k869 (rd_o k6 (rd_s k5) rfl) rfl); have z_ := w_lits; have zl_ := l_lits; omega)⟩
    refine ev_putW (l := 0) (u := 160) hJ869 rfl b877 (by decide) (by decide) rfl rfl rfl fl_X10_210 rfl rfl rfl rfl rfl (fun h878 hJ878 k878 => ?_)
    refine ev_goto rfl rfl ?_
    have lp10_1109 : ∀ (n : Nat) (w1110 : Int32) (h1112 : Hp), B w1110 0 25 → JW [(63, 17), (63, 19), (63, 20), (63, 21), (63, 22)] h h1112 → (h1112 63 16 = f1) → (h1112 63 19 = 1) → (h1112 72 (Int32.toNatClampNeg f2) = t) → ((h1112 63 17).toInt ≤ (h1112 63 16).toInt) → ((h 63 17).toInt + 1 ≤ (h1112 63 17).toInt) → (0 ≤ (h1112 63 20).toInt ∧ (h1112 63 20).toInt ≤ 4095) → 160 + 1 - (h1112 63 17).toInt ≤ (n : Int) → EvQ mi_X10_readChord 10 [some (.ref 63), some (.int w1110)] [] (G0 L b) h1112 0 0 (QK (fun z : Hp => ((z 63 17).toInt ≤ (z 63 16).toInt) ∧ ((h 63 17).toInt + 1 ≤ (z 63 17).toInt) ∧ ((z 63 19).toInt = 1) ∧ (0 ≤ (z 63 20).toInt ∧ (z 63 20).toInt ≤ 4095)) [(63, 17), (63, 19), (63, 20), (63, 21), (63, 22)] (G0 L b) h) := by
      intro n
      induction n with
      | zero =>
        intro w1110 h1112 b1111 hJ1113 z1114 z1115 z1116 y10_0 y10_1 y10_2 hm10
        obtain ⟨f1117, ef1117⟩ : ∃ f_, h1112 63 17 = f_ := ⟨_, rfl⟩
        have bf1117 : B f1117 0 160 := by
          have z_ := hJ1113.1 63 17
          rw [ef1117] at z_
          exact z_
        rw [ef1117] at hm10
        exact absurd hm10 (L_zero bf1117 (by decide))
      | succ n ih10 =>
        intro w1110 h1112 b1111 hJ1113 z1114 z1115 z1116 y10_0 y10_1 y10_2 hm10
        obtain ⟨f1117, ef1117⟩ : ∃ f_, h1112 63 17 = f_ := ⟨_, rfl⟩
        have bf1117 : B f1117 0 160 := by
          have z_ := hJ1113.1 63 17
          rw [ef1117] at z_
          exact z_
        rw [ef1117] at hm10
        obtain ⟨f1118, ef1118⟩ : ∃ f_, h1112 63 21 = f_ := ⟨_, rfl⟩
        have bf1118 : B f1118 0 6 := by have z_ := hJ1113.1 63 21; rw [ef1118] at z_; exact z_
        have zf1118 := congrArg Int32.toInt ef1118
        obtain ⟨f1119, ef1119⟩ : ∃ f_, h1112 63 20 = f_ := ⟨_, rfl⟩
        have bf1119 : B f1119 (-2147483648) 2147483647 := by have z_ := hJ1113.1 63 20; rw [ef1119] at z_; exact z_
        have zf1119 := congrArg Int32.toInt ef1119
        have z1120 := congrArg Int32.toInt z1114
        have z1121 := congrArg Int32.toInt ef1117
        have z1122 := congrArg Int32.toInt ef1118
        have z1123 := congrArg Int32.toInt ef1119
        have z1124 := congrArg Int32.toInt z1115
        refine ev_aload_n rfl rfl rfl ?_
        refine ev_aload_n rfl rfl rfl ?_
        refine ev_getV (v := f1117) rfl rfl fl_X10_210 rfl rfl rfl ef1117 ?_
        obtain ⟨t1125, et1125⟩ : ∃ f_, h1112 72 (Int32.toNatClampNeg f1117) = f_ := ⟨_, rfl⟩
        have bt1125 : B t1125 0 255 := by have z_ := hJ1113.1 72 (Int32.toNatClampNeg f1117); rw [et1125] at z_; exact z_
        have z1126 := congrArg Int32.toInt z1114
        have z1127 := congrArg Int32.toInt ef1117
        have z1128 := congrArg Int32.toInt ef1118
        have z1129 := congrArg Int32.toInt ef1119
        have z1130 := congrArg Int32.toInt z1115
        refine ev_V1P rfl rfl lk_X10_213 vt_X10_look rfl rfl rfl rfl rfl (w_X10_look_63 L b h1112 hJ1113.1 f1117 bf1117 t1125 et1125) (fun r1131 q1131 => ?_)
        obtain ⟨b1131, pp1131_0, pp1131_1⟩ := q1131
        refine ev_i2l rfl rfl ?_
        have z1132 := Int32.toInt_toInt64 r1131
        have z1132b := B.any r1131
        refine ev_ldc2 (v := 97) rfl rfl kc_X10_216 ?_
        refine ev_ldc2 (v := 122) rfl rfl kc_X10_218 ?_
        have z1133 := congrArg Int32.toInt z1114
        have z1134 := congrArg Int32.toInt ef1117
        have z1135 := congrArg Int32.toInt ef1118
        have z1136 := congrArg Int32.toInt ef1119
        have z1137 := congrArg Int32.toInt z1115
        refine ev_S3P rfl rfl lk_X10_124 st_X10_in rfl rfl (w_inR (G0 L b) h1112 r1131 97 122 (by decide : BL 97 97 97) (by decide : BL 122 122 122)) (fun r1138 q1138 => ?_)
        obtain ⟨b1138, p1138_0, pp1138_0, pp1138_1⟩ := q1138
        refine ev_if_eq rfl rfl (fun c1139 => ?_) (fun c1139 => ?_)
        · have b1140 : B r1138 0 0 := R_eqX b1138 (by decide : B 0 0 0) c1139
          have z1141 := congrArg Int32.toInt c1139
          rw [show (0 : Int32).toInt = 0 from by decide] at z1141
          exact ev_vret rfl rfl trivial ⟨rfl, rfl, hJ1113, (by have z0_ := congrArg Int32.toInt z1114; have z1_ := congrArg Int32.toInt ef1117; have z2_ := congrArg Int32.toInt ef1118; have z3_ := congrArg Int32.toInt ef1119; have z4_ := congrArg Int32.toInt z1115; have z_ := w_lits; have zl_ := l_lits; omega), (by have z0_ := congrArg Int32.toInt z1114; have z1_ := congrArg Int32.toInt ef1117; have z2_ := congrArg Int32.toInt ef1118; have z3_ := congrArg Int32.toInt ef1119; have z4_ := congrArg Int32.toInt z1115; have z_ := w_lits; have zl_ := l_lits; omega), (by have z0_ := congrArg Int32.toInt z1114; have z1_ := congrArg Int32.toInt ef1117; have z2_ := congrArg Int32.toInt ef1118; have z3_ := congrArg Int32.toInt ef1119; have z4_ := congrArg Int32.toInt z1115; have z_ := w_lits; have zl_ := l_lits; omega), (by have z0_ := congrArg Int32.toInt z1114; have z1_ := congrArg Int32.toInt ef1117; have z2_ := congrArg Int32.toInt ef1118; have z3_ := congrArg Int32.toInt ef1119; have z4_ := congrArg Int32.toInt z1115; have z_ := w_lits; have zl_ := l_lits; omega)⟩
        · have b1142 : B r1138 1 1 := R_neL b1138 (by decide : B 0 0 0) c1139 (by decide)
          have b1143 : B r1131 97 122 := p1138_0 c1139
          have z1144 := w_ne c1139
          rw [show (0 : Int32).toInt = 0 from by decide] at z1144
          refine ev_aload_n rfl rfl rfl ?_
          refine ev_getV (v := f1118) rfl rfl fl_X10_191 rfl rfl rfl ef1118 ?_
          refine ev_if_ne rfl rfl (fun c1145 => ?_) (fun c1145 => ?_)
          · have b1146 : B f1118 1 6 := R_neL bf1118 (by decide : B 0 0 0) c1145 (by decide)
            have z1147 := w_ne c1145
            rw [show (0 : Int32).toInt = 0 from by decide] at z1147
            exact ev_vret rfl rfl trivial ⟨rfl, rfl, hJ1113, (by have z0_ := congrArg Int32.toInt z1114; have z1_ := congrArg Int32.toInt ef1117; have z2_ := congrArg Int32.toInt ef1118; have z3_ := congrArg Int32.toInt ef1119; have z4_ := congrArg Int32.toInt z1115; have z_ := w_lits; have zl_ := l_lits; omega), (by have z0_ := congrArg Int32.toInt z1114; have z1_ := congrArg Int32.toInt ef1117; have z2_ := congrArg Int32.toInt ef1118; have z3_ := congrArg Int32.toInt ef1119; have z4_ := congrArg Int32.toInt z1115; have z_ := w_lits; have zl_ := l_lits; omega), (by have z0_ := congrArg Int32.toInt z1114; have z1_ := congrArg Int32.toInt ef1117; have z2_ := congrArg Int32.toInt ef1118; have z3_ := congrArg Int32.toInt ef1119; have z4_ := congrArg Int32.toInt z1115; have z_ := w_lits; have zl_ := l_lits; omega), (by have z0_ := congrArg Int32.toInt z1114; have z1_ := congrArg Int32.toInt ef1117; have z2_ := congrArg Int32.toInt ef1118; have z3_ := congrArg Int32.toInt ef1119; have z4_ := congrArg Int32.toInt z1115; have z_ := w_lits; have zl_ := l_lits; omega)⟩
          · have b1148 : B f1118 0 0 := R_eqX bf1118 (by decide : B 0 0 0) c1145
            have z1149 := congrArg Int32.toInt c1145
            rw [show (0 : Int32).toInt = 0 from by decide] at z1149
            refine ev_aload_n rfl rfl rfl ?_
            refine ev_aload_n rfl rfl rfl ?_
            refine ev_getV (v := f1117) rfl rfl fl_X10_210 rfl rfl rfl ef1117 ?_
            have z1150 := congrArg Int32.toInt z1114
            have z1151 := congrArg Int32.toInt ef1117
            have z1152 := congrArg Int32.toInt ef1118
            have z1153 := congrArg Int32.toInt ef1119
            have z1154 := congrArg Int32.toInt z1115
            refine ev_V1P rfl rfl lk_X10_213 vt_X10_look rfl rfl rfl rfl rfl (w_X10_look_63 L b h1112 hJ1113.1 f1117 bf1117 t1125 et1125) (fun r1155 q1155 => ?_)
            obtain ⟨b1155, pp1155_0, pp1155_1⟩ := q1155
            refine ev_bipush (v := 97) rfl rfl (by decide) ?_
            have b1156 : B r1155 97 122 := ⟨(by have z0_ := congrArg Int32.toInt z1114; have z1_ := congrArg Int32.toInt ef1117; have z2_ := congrArg Int32.toInt ef1118; have z3_ := congrArg Int32.toInt ef1119; have z4_ := congrArg Int32.toInt z1115; have z_ := w_lits; have zl_ := l_lits; omega), (by have z0_ := congrArg Int32.toInt z1114; have z1_ := congrArg Int32.toInt ef1117; have z2_ := congrArg Int32.toInt ef1118; have z3_ := congrArg Int32.toInt ef1119; have z4_ := congrArg Int32.toInt z1115; have z_ := w_lits; have zl_ := l_lits; omega)⟩
            refine ev_isubB (l := 0) (u := 25) rfl rfl b1156 (by decide : B 97 97 97) (by decide) (by decide) (by decide) (by decide) (fun v1157 b1157 e1157 g1157 => ?_)
            have e1157x := e1157; rw [show (97 : Int32).toInt = 97 from by decide] at e1157x
            refine ev_istore_n rfl rfl rfl rfl ?_
            dsimp only [List.set]
            refine ev_iload_n rfl rfl rfl ?_
            refine ev_bipush (v := 11) rfl rfl (by decide) ?_
            refine ev_icmp_le rfl rfl (fun c1158 => ?_) (fun c1158 => ?_)
            · have b1159 : B v1157 0 11 := R_leX b1157 (by decide : B 11 11 11) c1158 (by decide)
              have b1160 : B r1155 97 108 := (R_bks (l' := 97) (u' := 108) e1157 b1159 (by decide : B 97 97 97) (by decide) (by decide))
              have z1161 := w_le c1158
              rw [show (11 : Int32).toInt = 11 from by decide] at z1161
              refine ev_aload_n rfl rfl rfl ?_
              refine ev_getV (v := f1119) rfl rfl fl_X10_207 rfl rfl rfl ef1119 ?_
              refine ev_iload_n rfl rfl rfl ?_
              refine ev_ishrA rfl rfl (fun v1165 => ?_)
              refine ev_iconst (v := 1) rfl rfl (by decide) ?_
              refine ev_iandB rfl rfl (by decide : B 1 1 1) (by decide) (fun v1166 b1166 e1166 => ?_)
              refine ev_iconst (v := 1) rfl rfl (by decide) ?_
              refine ev_icmp_eq rfl rfl (fun c1167 => ?_) (fun c1167 => ?_)
              · have b1168 : B v1166 1 1 := R_eqX b1166 (by decide : B 1 1 1) c1167
                have z1169 := congrArg Int32.toInt c1167
                rw [show (1 : Int32).toInt = 1 from by decide] at z1169
                refine ev_aload_n rfl rfl rfl ?_
                refine ev_iconst (v := 4) rfl rfl (by decide) ?_
                refine ev_aload_n rfl rfl rfl ?_
                refine ev_getV (v := f1117) rfl rfl fl_X10_210 rfl rfl rfl ef1117 ?_
                have z1172 := congrArg Int32.toInt z1114
                have z1173 := congrArg Int32.toInt ef1117
                have z1174 := congrArg Int32.toInt ef1118
                have z1175 := congrArg Int32.toInt ef1119
                have z1176 := congrArg Int32.toInt z1115
                refine ev_V2K hJ1113 rfl rfl rfl lk_X10_200 vt_X10_fails rfl rfl rfl rfl rfl (w_X10_fails_63 L b h1112 hJ1113.1 4 ((by decide : B 4 4 4).mono (by decide) (by decide)) f1117) (fun h1177 hJ1177 k1177 m1177 => ?_)
                obtain ⟨f1178, ef1178⟩ : ∃ f_, h1177 63 21 = f_ := ⟨_, rfl⟩
                have bf1178 : B f1178 0 6 := by have z_ := hJ1177.1 63 21; rw [ef1178] at z_; exact z_
                have zf1178 := congrArg Int32.toInt ef1178
                have z1179 := congrArg Int32.toInt (rd_w k1177 z1114 rfl)
                have z1180 := congrArg Int32.toInt (rd_w k1177 ef1117 rfl)
                have z1181 := congrArg Int32.toInt ef1178
                have z1182 := congrArg Int32.toInt (rd_w k1177 ef1119 rfl)
                have z1183 := congrArg Int32.toInt (rd_w k1177 z1115 rfl)
                refine ev_goto rfl rfl ?_
                refine ev_aload_n rfl rfl rfl ?_
                refine ev_dup rfl rfl rfl ?_
                refine ev_getV (v := f1117) rfl rfl fl_X10_210 rfl rfl rfl (rd_w k1177 ef1117 rfl) ?_
                refine ev_iconst (v := 1) rfl rfl (by decide) ?_
                refine ev_iaddB (l := 1) (u := 161) rfl rfl bf1117 (by decide : B 1 1 1) (by decide) (by decide) (by decide) (by decide) (fun v1184 b1184 e1184 g1184 => ?_)
                have e1184x := e1184; rw [show (1 : Int32).toInt = 1 from by decide] at e1184x
                have b1185 : B v1184 0 160 := ⟨(by have z0_ := congrArg Int32.toInt (rd_w k1177 z1114 rfl); have z1_ := congrArg Int32.toInt (rd_w k1177 ef1117 rfl); have z2_ := congrArg Int32.toInt ef1178; have z3_ := congrArg Int32.toInt (rd_w k1177 ef1119 rfl); have z4_ := congrArg Int32.toInt (rd_w k1177 z1115 rfl); have z_ := w_lits; have zl_ := l_lits; omega), (by have z0_ := congrArg Int32.toInt (rd_w k1177 z1114 rfl); have z1_ := congrArg Int32.toInt (rd_w k1177 ef1117 rfl); have z2_ := congrArg Int32.toInt ef1178; have z3_ := congrArg Int32.toInt (rd_w k1177 ef1119 rfl); have z4_ := congrArg Int32.toInt (rd_w k1177 z1115 rfl); have z_ := w_lits; have zl_ := l_lits; omega)⟩
                refine ev_putW (l := 0) (u := 160) hJ1177 rfl b1185 (by decide) (by decide) rfl rfl rfl fl_X10_210 rfl rfl rfl rfl rfl (fun h1186 hJ1186 k1186 => ?_)
                refine ev_goto rfl rfl ?_
                exact (ih10 v1157 h1186 (b1159.mono (by decide) (by decide)) hJ1186 (rd_o k1186 (rd_w k1177 z1114 rfl) rfl) (rd_o k1186 (rd_w k1177 z1115 rfl) rfl) (rd_o k1186 (rd_w k1177 z1116 rfl) rfl) (by have z0_ := congrArg Int32.toInt (rd_o k1186 (rd_w k1177 z1114 rfl) rfl); have z1_ := congrArg Int32.toInt (rd_s k1186); have z2_ := congrArg Int32.toInt (rd_o k1186 ef1178 rfl); have z3_ := congrArg Int32.toInt (rd_o k1186 (rd_w k1177 ef1119 rfl) rfl); have z4_ := congrArg Int32.toInt (rd_o k1186 (rd_w k1177 z1115 rfl) rfl); have z_ := w_lits; have zl_ := l_lits; omega) (by have z0_ := congrArg Int32.toInt (rd_o k1186 (rd_w k1177 z1114 rfl) rfl); have z1_ := congrArg Int32.toInt (rd_s k1186); have z2_ := congrArg Int32.toInt (rd_o k1186 ef1178 rfl); have z3_ := congrArg Int32.toInt (rd_o k1186 (rd_w k1177 ef1119 rfl) rfl); have z4_ := congrArg Int32.toInt (rd_o k1186 (rd_w k1177 z1115 rfl) rfl); have z_ := w_lits; have zl_ := l_lits; omega) (by have z0_ := congrArg Int32.toInt (rd_o k1186 (rd_w k1177 z1114 rfl) rfl); have z1_ := congrArg Int32.toInt (rd_s k1186); have z2_ := congrArg Int32.toInt (rd_o k1186 ef1178 rfl); have z3_ := congrArg Int32.toInt (rd_o k1186 (rd_w k1177 ef1119 rfl) rfl); have z4_ := congrArg Int32.toInt (rd_o k1186 (rd_w k1177 z1115 rfl) rfl); have z_ := w_lits; have zl_ := l_lits; omega) (by rw [(rd_s k1186)]; exact L_up hm10 (e_p1 e1184 (by decide))))
              · have b1170 : B v1166 0 0 := R_neU b1166 (by decide : B 1 1 1) c1167 (by decide)
                have z1171 := w_ne c1167
                rw [show (1 : Int32).toInt = 1 from by decide] at z1171
                refine ev_aload_n rfl rfl rfl ?_
                refine ev_getV (v := f1119) rfl rfl fl_X10_207 rfl rfl rfl ef1119 ?_
                refine ev_S1P rfl rfl lk_X10_220 st_X10_bits rfl rfl (w_X10_bits L b h1112 hJ1113.1 f1119) (fun r1187 q1187 => ?_)
                refine ev_iconst (v := 5) rfl rfl (by decide) ?_
                refine ev_icmp_ne rfl rfl (fun c1188 => ?_) (fun c1188 => ?_)
                · have z1189 := w_ne c1188
                  rw [show (5 : Int32).toInt = 5 from by decide] at z1189
                  refine ev_aload_n rfl rfl rfl ?_
                  refine ev_dup rfl rfl rfl ?_
                  refine ev_getV (v := f1119) rfl rfl fl_X10_207 rfl rfl rfl ef1119 ?_
                  refine ev_iconst (v := 1) rfl rfl (by decide) ?_
                  refine ev_iload_n rfl rfl rfl ?_
                  refine ev_ishlB rfl rfl b1159 (by decide) (by decide) (fun v1192 b1192 => ?_)
                  have b1193 : B f1119 0 4095 := ⟨(by have z0_ := congrArg Int32.toInt z1114; have z1_ := congrArg Int32.toInt ef1117; have z2_ := congrArg Int32.toInt ef1118; have z3_ := congrArg Int32.toInt ef1119; have z4_ := congrArg Int32.toInt z1115; have z_ := w_lits; have zl_ := l_lits; omega), (by have z0_ := congrArg Int32.toInt z1114; have z1_ := congrArg Int32.toInt ef1117; have z2_ := congrArg Int32.toInt ef1118; have z3_ := congrArg Int32.toInt ef1119; have z4_ := congrArg Int32.toInt z1115; have z_ := w_lits; have zl_ := l_lits; omega)⟩
                  refine ev_iorB 12 (u := 4095) rfl rfl b1193 b1192 (by decide) (by decide) (by decide) (by decide) (by decide) (by decide) (fun v1194 b1194 e1194 => ?_)
                  refine ev_putW (l := (-2147483648)) (u := 2147483647) hJ1113 rfl b1194 (by decide) (by decide) rfl rfl rfl fl_X10_207 rfl rfl rfl rfl rfl (fun h1195 hJ1195 k1195 => ?_)
                  refine ev_aload_n rfl rfl rfl ?_
                  refine ev_dup rfl rfl rfl ?_
                  refine ev_getV (v := f1117) rfl rfl fl_X10_210 rfl rfl rfl (rd_o k1195 ef1117 rfl) ?_
                  refine ev_iconst (v := 1) rfl rfl (by decide) ?_
                  refine ev_iaddB (l := 1) (u := 161) rfl rfl bf1117 (by decide : B 1 1 1) (by decide) (by decide) (by decide) (by decide) (fun v1196 b1196 e1196 g1196 => ?_)
                  have e1196x := e1196; rw [show (1 : Int32).toInt = 1 from by decide] at e1196x
                  have b1197 : B v1196 0 160 := ⟨(by have z0_ := congrArg Int32.toInt (rd_o k1195 z1114 rfl); have z1_ := congrArg Int32.toInt (rd_o k1195 ef1117 rfl); have z2_ := congrArg Int32.toInt (rd_o k1195 ef1118 rfl); have z3_ := congrArg Int32.toInt (rd_s k1195); have z4_ := congrArg Int32.toInt (rd_o k1195 z1115 rfl); have z_ := w_lits; have zl_ := l_lits; omega), (by have z0_ := congrArg Int32.toInt (rd_o k1195 z1114 rfl); have z1_ := congrArg Int32.toInt (rd_o k1195 ef1117 rfl); have z2_ := congrArg Int32.toInt (rd_o k1195 ef1118 rfl); have z3_ := congrArg Int32.toInt (rd_s k1195); have z4_ := congrArg Int32.toInt (rd_o k1195 z1115 rfl); have z_ := w_lits; have zl_ := l_lits; omega)⟩
                  refine ev_putW (l := 0) (u := 160) hJ1195 rfl b1197 (by decide) (by decide) rfl rfl rfl fl_X10_210 rfl rfl rfl rfl rfl (fun h1198 hJ1198 k1198 => ?_)
                  refine ev_goto rfl rfl ?_
                  exact (ih10 v1157 h1198 (b1159.mono (by decide) (by decide)) hJ1198 (rd_o k1198 (rd_o k1195 z1114 rfl) rfl) (rd_o k1198 (rd_o k1195 z1115 rfl) rfl) (rd_o k1198 (rd_o k1195 z1116 rfl) rfl) (by have z0_ := congrArg Int32.toInt (rd_o k1198 (rd_o k1195 z1114 rfl) rfl); have z1_ := congrArg Int32.toInt (rd_s k1198); have z2_ := congrArg Int32.toInt (rd_o k1198 (rd_o k1195 ef1118 rfl) rfl); have z3_ := congrArg Int32.toInt (rd_o k1198 (rd_s k1195) rfl); have z4_ := congrArg Int32.toInt (rd_o k1198 (rd_o k1195 z1115 rfl) rfl); have z_ := w_lits; have zl_ := l_lits; omega) (by have z0_ := congrArg Int32.toInt (rd_o k1198 (rd_o k1195 z1114 rfl) rfl); have z1_ := congrArg Int32.toInt (rd_s k1198); have z2_ := congrArg Int32.toInt (rd_o k1198 (rd_o k1195 ef1118 rfl) rfl); have z3_ := congrArg Int32.toInt (rd_o k1198 (rd_s k1195) rfl); have z4_ := congrArg Int32.toInt (rd_o k1198 (rd_o k1195 z1115 rfl) rfl); have z_ := w_lits; have zl_ := l_lits; omega) (by have z0_ := congrArg Int32.toInt (rd_o k1198 (rd_o k1195 z1114 rfl) rfl); have z1_ := congrArg Int32.toInt (rd_s k1198); have z2_ := congrArg Int32.toInt (rd_o k1198 (rd_o k1195 ef1118 rfl) rfl); have z3_ := congrArg Int32.toInt (rd_o k1198 (rd_s k1195) rfl); have z4_ := congrArg Int32.toInt (rd_o k1198 (rd_o k1195 z1115 rfl) rfl); have z_ := w_lits; have zl_ := l_lits; omega) (by rw [(rd_s k1198)]; exact L_up hm10 (e_p1 e1196 (by decide))))
                · have b1190 : B r1187 5 5 := R_eqX (B.any r1187) (by decide : B 5 5 5) c1188
                  have z1191 := congrArg Int32.toInt c1188
                  rw [show (5 : Int32).toInt = 5 from by decide] at z1191
                  refine ev_aload_n rfl rfl rfl ?_
                  refine ev_iconst (v := 4) rfl rfl (by decide) ?_
                  refine ev_aload_n rfl rfl rfl ?_
                  refine ev_getV (v := f1117) rfl rfl fl_X10_210 rfl rfl rfl ef1117 ?_
                  have z1199 := congrArg Int32.toInt z1114
                  have z1200 := congrArg Int32.toInt ef1117
                  have z1201 := congrArg Int32.toInt ef1118
                  have z1202 := congrArg Int32.toInt ef1119
                  have z1203 := congrArg Int32.toInt z1115
                  refine ev_V2K hJ1113 rfl rfl rfl lk_X10_200 vt_X10_fails rfl rfl rfl rfl rfl (w_X10_fails_63 L b h1112 hJ1113.1 4 ((by decide : B 4 4 4).mono (by decide) (by decide)) f1117) (fun h1204 hJ1204 k1204 m1204 => ?_)
                  obtain ⟨f1205, ef1205⟩ : ∃ f_, h1204 63 21 = f_ := ⟨_, rfl⟩
                  have bf1205 : B f1205 0 6 := by have z_ := hJ1204.1 63 21; rw [ef1205] at z_; exact z_
                  have zf1205 := congrArg Int32.toInt ef1205
                  have z1206 := congrArg Int32.toInt (rd_w k1204 z1114 rfl)
                  have z1207 := congrArg Int32.toInt (rd_w k1204 ef1117 rfl)
                  have z1208 := congrArg Int32.toInt ef1205
                  have z1209 := congrArg Int32.toInt (rd_w k1204 ef1119 rfl)
                  have z1210 := congrArg Int32.toInt (rd_w k1204 z1115 rfl)
                  refine ev_goto rfl rfl ?_
                  refine ev_aload_n rfl rfl rfl ?_
                  refine ev_dup rfl rfl rfl ?_
                  refine ev_getV (v := f1117) rfl rfl fl_X10_210 rfl rfl rfl (rd_w k1204 ef1117 rfl) ?_
                  refine ev_iconst (v := 1) rfl rfl (by decide) ?_
                  refine ev_iaddB (l := 1) (u := 161) rfl rfl bf1117 (by decide : B 1 1 1) (by decide) (by decide) (by decide) (by decide) (fun v1211 b1211 e1211 g1211 => ?_)
                  have e1211x := e1211; rw [show (1 : Int32).toInt = 1 from by decide] at e1211x
                  have b1212 : B v1211 0 160 := ⟨(by have z0_ := congrArg Int32.toInt (rd_w k1204 z1114 rfl); have z1_ := congrArg Int32.toInt (rd_w k1204 ef1117 rfl); have z2_ := congrArg Int32.toInt ef1205; have z3_ := congrArg Int32.toInt (rd_w k1204 ef1119 rfl); have z4_ := congrArg Int32.toInt (rd_w k1204 z1115 rfl); have z_ := w_lits; have zl_ := l_lits; omega), (by have z0_ := congrArg Int32.toInt (rd_w k1204 z1114 rfl); have z1_ := congrArg Int32.toInt (rd_w k1204 ef1117 rfl); have z2_ := congrArg Int32.toInt ef1205; have z3_ := congrArg Int32.toInt (rd_w k1204 ef1119 rfl); have z4_ := congrArg Int32.toInt (rd_w k1204 z1115 rfl); have z_ := w_lits; have zl_ := l_lits; omega)⟩
                  refine ev_putW (l := 0) (u := 160) hJ1204 rfl b1212 (by decide) (by decide) rfl rfl rfl fl_X10_210 rfl rfl rfl rfl rfl (fun h1213 hJ1213 k1213 => ?_)
                  refine ev_goto rfl rfl ?_
                  exact (ih10 v1157 h1213 (b1159.mono (by decide) (by decide)) hJ1213 (rd_o k1213 (rd_w k1204 z1114 rfl) rfl) (rd_o k1213 (rd_w k1204 z1115 rfl) rfl) (rd_o k1213 (rd_w k1204 z1116 rfl) rfl) (by have z0_ := congrArg Int32.toInt (rd_o k1213 (rd_w k1204 z1114 rfl) rfl); have z1_ := congrArg Int32.toInt (rd_s k1213); have z2_ := congrArg Int32.toInt (rd_o k1213 ef1205 rfl); have z3_ := congrArg Int32.toInt (rd_o k1213 (rd_w k1204 ef1119 rfl) rfl); have z4_ := congrArg Int32.toInt (rd_o k1213 (rd_w k1204 z1115 rfl) rfl); have z_ := w_lits; have zl_ := l_lits; omega) (by have z0_ := congrArg Int32.toInt (rd_o k1213 (rd_w k1204 z1114 rfl) rfl); have z1_ := congrArg Int32.toInt (rd_s k1213); have z2_ := congrArg Int32.toInt (rd_o k1213 ef1205 rfl); have z3_ := congrArg Int32.toInt (rd_o k1213 (rd_w k1204 ef1119 rfl) rfl); have z4_ := congrArg Int32.toInt (rd_o k1213 (rd_w k1204 z1115 rfl) rfl); have z_ := w_lits; have zl_ := l_lits; omega) (by have z0_ := congrArg Int32.toInt (rd_o k1213 (rd_w k1204 z1114 rfl) rfl); have z1_ := congrArg Int32.toInt (rd_s k1213); have z2_ := congrArg Int32.toInt (rd_o k1213 ef1205 rfl); have z3_ := congrArg Int32.toInt (rd_o k1213 (rd_w k1204 ef1119 rfl) rfl); have z4_ := congrArg Int32.toInt (rd_o k1213 (rd_w k1204 z1115 rfl) rfl); have z_ := w_lits; have zl_ := l_lits; omega) (by rw [(rd_s k1213)]; exact L_up hm10 (e_p1 e1211 (by decide))))
            · have b1162 : B v1157 12 25 := R_ltY (by decide : B 11 11 11) b1157 (Int32.not_le.mp c1158) (by decide)
              have b1163 : B r1155 109 122 := (R_bks (l' := 109) (u' := 122) e1157 b1162 (by decide : B 97 97 97) (by decide) (by decide))
              have z1164 := w_lt (Int32.not_le.mp c1158)
              rw [show (11 : Int32).toInt = 11 from by decide] at z1164
              refine ev_aload_n rfl rfl rfl ?_
              refine ev_iconst (v := 1) rfl rfl (by decide) ?_
              refine ev_aload_n rfl rfl rfl ?_
              refine ev_getV (v := f1117) rfl rfl fl_X10_210 rfl rfl rfl ef1117 ?_
              have z1214 := congrArg Int32.toInt z1114
              have z1215 := congrArg Int32.toInt ef1117
              have z1216 := congrArg Int32.toInt ef1118
              have z1217 := congrArg Int32.toInt ef1119
              have z1218 := congrArg Int32.toInt z1115
              refine ev_V2K hJ1113 rfl rfl rfl lk_X10_200 vt_X10_fails rfl rfl rfl rfl rfl (w_X10_fails_63 L b h1112 hJ1113.1 1 ((by decide : B 1 1 1).mono (by decide) (by decide)) f1117) (fun h1219 hJ1219 k1219 m1219 => ?_)
              obtain ⟨f1220, ef1220⟩ : ∃ f_, h1219 63 21 = f_ := ⟨_, rfl⟩
              have bf1220 : B f1220 0 6 := by have z_ := hJ1219.1 63 21; rw [ef1220] at z_; exact z_
              have zf1220 := congrArg Int32.toInt ef1220
              have z1221 := congrArg Int32.toInt (rd_w k1219 z1114 rfl)
              have z1222 := congrArg Int32.toInt (rd_w k1219 ef1117 rfl)
              have z1223 := congrArg Int32.toInt ef1220
              have z1224 := congrArg Int32.toInt (rd_w k1219 ef1119 rfl)
              have z1225 := congrArg Int32.toInt (rd_w k1219 z1115 rfl)
              refine ev_goto rfl rfl ?_
              refine ev_aload_n rfl rfl rfl ?_
              refine ev_dup rfl rfl rfl ?_
              refine ev_getV (v := f1117) rfl rfl fl_X10_210 rfl rfl rfl (rd_w k1219 ef1117 rfl) ?_
              refine ev_iconst (v := 1) rfl rfl (by decide) ?_
              refine ev_iaddB (l := 1) (u := 161) rfl rfl bf1117 (by decide : B 1 1 1) (by decide) (by decide) (by decide) (by decide) (fun v1226 b1226 e1226 g1226 => ?_)
              have e1226x := e1226; rw [show (1 : Int32).toInt = 1 from by decide] at e1226x
              have b1227 : B v1226 0 160 := ⟨(by have z0_ := congrArg Int32.toInt (rd_w k1219 z1114 rfl); have z1_ := congrArg Int32.toInt (rd_w k1219 ef1117 rfl); have z2_ := congrArg Int32.toInt ef1220; have z3_ := congrArg Int32.toInt (rd_w k1219 ef1119 rfl); have z4_ := congrArg Int32.toInt (rd_w k1219 z1115 rfl); have z_ := w_lits; have zl_ := l_lits; omega), (by have z0_ := congrArg Int32.toInt (rd_w k1219 z1114 rfl); have z1_ := congrArg Int32.toInt (rd_w k1219 ef1117 rfl); have z2_ := congrArg Int32.toInt ef1220; have z3_ := congrArg Int32.toInt (rd_w k1219 ef1119 rfl); have z4_ := congrArg Int32.toInt (rd_w k1219 z1115 rfl); have z_ := w_lits; have zl_ := l_lits; omega)⟩
              refine ev_putW (l := 0) (u := 160) hJ1219 rfl b1227 (by decide) (by decide) rfl rfl rfl fl_X10_210 rfl rfl rfl rfl rfl (fun h1228 hJ1228 k1228 => ?_)
              refine ev_goto rfl rfl ?_
              exact (ih10 v1157 h1228 (b1162.mono (by decide) (by decide)) hJ1228 (rd_o k1228 (rd_w k1219 z1114 rfl) rfl) (rd_o k1228 (rd_w k1219 z1115 rfl) rfl) (rd_o k1228 (rd_w k1219 z1116 rfl) rfl) (by have z0_ := congrArg Int32.toInt (rd_o k1228 (rd_w k1219 z1114 rfl) rfl); have z1_ := congrArg Int32.toInt (rd_s k1228); have z2_ := congrArg Int32.toInt (rd_o k1228 ef1220 rfl); have z3_ := congrArg Int32.toInt (rd_o k1228 (rd_w k1219 ef1119 rfl) rfl); have z4_ := congrArg Int32.toInt (rd_o k1228 (rd_w k1219 z1115 rfl) rfl); have z_ := w_lits; have zl_ := l_lits; omega) (by have z0_ := congrArg Int32.toInt (rd_o k1228 (rd_w k1219 z1114 rfl) rfl); have z1_ := congrArg Int32.toInt (rd_s k1228); have z2_ := congrArg Int32.toInt (rd_o k1228 ef1220 rfl); have z3_ := congrArg Int32.toInt (rd_o k1228 (rd_w k1219 ef1119 rfl) rfl); have z4_ := congrArg Int32.toInt (rd_o k1228 (rd_w k1219 z1115 rfl) rfl); have z_ := w_lits; have zl_ := l_lits; omega) (by have z0_ := congrArg Int32.toInt (rd_o k1228 (rd_w k1219 z1114 rfl) rfl); have z1_ := congrArg Int32.toInt (rd_s k1228); have z2_ := congrArg Int32.toInt (rd_o k1228 ef1220 rfl); have z3_ := congrArg Int32.toInt (rd_o k1228 (rd_w k1219 ef1119 rfl) rfl); have z4_ := congrArg Int32.toInt (rd_o k1228 (rd_w k1219 z1115 rfl) rfl); have z_ := w_lits; have zl_ := l_lits; omega) (by rw [(rd_s k1228)]; exact L_up hm10 (e_p1 e1226 (by decide))))
    exact (lp10_1109 161 v35 h878 (b40.mono (by decide) (by decide)) hJ878 (rd_o k878 (rd_w k869 (rd_o k6 (rd_o k5 ef1 rfl) rfl) rfl) rfl) (rd_o k878 (rd_w k869 (rd_o k6 (rd_s k5) rfl) rfl) rfl) (rd_o k878 (rd_w k869 (rd_o k6 (rd_o k5 rt rfl) rfl) rfl) rfl) (by have z0_ := congrArg Int32.toInt (rd_o k878 (rd_w k869 (rd_o k6 (rd_o k5 ef1 rfl) rfl) rfl) rfl); have z1_ := congrArg Int32.toInt (rd_s k878); have z2_ := congrArg Int32.toInt (rd_o k878 ef870 rfl); have z3_ := congrArg Int32.toInt (rd_o k878 (rd_w k869 (rd_s k6) rfl) rfl); have z4_ := congrArg Int32.toInt (rd_o k878 (rd_w k869 (rd_o k6 (rd_s k5) rfl) rfl) rfl); have z_ := w_lits; have zl_ := l_lits; omega) (by have z0_ := congrArg Int32.toInt (rd_o k878 (rd_w k869 (rd_o k6 (rd_o k5 ef1 rfl) rfl) rfl) rfl); have z1_ := congrArg Int32.toInt (rd_s k878); have z2_ := congrArg Int32.toInt (rd_o k878 ef870 rfl); have z3_ := congrArg Int32.toInt (rd_o k878 (rd_w k869 (rd_s k6) rfl) rfl); have z4_ := congrArg Int32.toInt (rd_o k878 (rd_w k869 (rd_o k6 (rd_s k5) rfl) rfl) rfl); have z_ := w_lits; have zl_ := l_lits; omega) (by have z0_ := congrArg Int32.toInt (rd_o k878 (rd_w k869 (rd_o k6 (rd_o k5 ef1 rfl) rfl) rfl) rfl); have z1_ := congrArg Int32.toInt (rd_s k878); have z2_ := congrArg Int32.toInt (rd_o k878 ef870 rfl); have z3_ := congrArg Int32.toInt (rd_o k878 (rd_w k869 (rd_s k6) rfl) rfl); have z4_ := congrArg Int32.toInt (rd_o k878 (rd_w k869 (rd_o k6 (rd_s k5) rfl) rfl) rfl); have z_ := w_lits; have zl_ := l_lits; omega) (by rw [(rd_s k878)]; exact L_init b877 (by decide)))

set_option maxRecDepth 100000 in
set_option maxHeartbeats 4000000 in
theorem w_X10_next_63 (L : Nat) (b : Bool) (h : Hp) (hB : Bx h) (rp0 : (h 63 17).toInt ≤ (h 63 16).toInt) : EvK mi_X10_next [.ref 63] (G0 L b) h (fun z : Hp => ((z 63 17).toInt ≤ (z 63 16).toInt) ∧ ((z 63 21).toInt = 0 → (h 63 21).toInt = 0) ∧ ((¬ (z 63 21).toInt = 0) ∨ (z 63 19).toInt = 0 ∨ (h 63 17).toInt + 1 ≤ (z 63 17).toInt) ∧ ((h 63 17).toInt ≤ (z 63 17).toInt) ∧ ((z 63 21).toInt = 0 → (z 63 19).toInt = 1 → 0 ≤ (z 63 20).toInt ∧ (z 63 20).toInt ≤ 4095)) [(63, 17), (63, 18), (63, 19), (63, 20), (63, 21), (63, 22)] := by
  refine EvM.of2 (lo := [some (.ref 63), none]) pf_X10_next ok_X10_next rfl rfl ?_
  have hJ0 : JW [(63, 17), (63, 18), (63, 19), (63, 20), (63, 21), (63, 22)] h h := JW.refl hB
  obtain ⟨f1, ef1⟩ : ∃ f_, h 63 16 = f_ := ⟨_, rfl⟩
  have bf1 : B f1 0 160 := by have z_ := hJ0.1 63 16; rw [ef1] at z_; exact z_
  have zf1 := congrArg Int32.toInt ef1
  obtain ⟨f2, ef2⟩ : ∃ f_, h 63 17 = f_ := ⟨_, rfl⟩
  have bf2 : B f2 0 160 := by have z_ := hJ0.1 63 17; rw [ef2] at z_; exact z_
  have zf2 := congrArg Int32.toInt ef2
  obtain ⟨f3, ef3⟩ : ∃ f_, h 63 21 = f_ := ⟨_, rfl⟩
  have bf3 : B f3 0 6 := by have z_ := hJ0.1 63 21; rw [ef3] at z_; exact z_
  have zf3 := congrArg Int32.toInt ef3
  obtain ⟨f4, ef4⟩ : ∃ f_, h 63 20 = f_ := ⟨_, rfl⟩
  have bf4 : B f4 (-2147483648) 2147483647 := by have z_ := hJ0.1 63 20; rw [ef4] at z_; exact z_
  have zf4 := congrArg Int32.toInt ef4
  obtain ⟨f5, ef5⟩ : ∃ f_, h 63 19 = f_ := ⟨_, rfl⟩
  have bf5 : B f5 0 3 := by have z_ := hJ0.1 63 19; rw [ef5] at z_; exact z_
  have zf5 := congrArg Int32.toInt ef5
  refine ev_aload_n rfl rfl rfl ?_
  refine ev_getV (v := f3) rfl rfl fl_X10_191 rfl rfl rfl ef3 ?_
  refine ev_if_le rfl rfl (fun c6 => ?_) (fun c6 => ?_)
  · have b7 : B f3 0 0 := R_leX bf3 (by decide : B 0 0 0) c6 (by decide)
    have z8 := w_le c6
    rw [show (0 : Int32).toInt = 0 from by decide] at z8
    have lp8_1014 : ∀ (n : Nat) (h1015 : Hp), JW [(63, 17), (63, 18), (63, 19), (63, 20), (63, 21), (63, 22)] h h1015 → (h1015 63 16 = f1) → (h1015 63 21 = f3) → (h1015 63 20 = f4) → (h1015 63 19 = f5) → ((h1015 63 17).toInt ≤ (h1015 63 16).toInt) → ((h 63 17).toInt ≤ (h1015 63 17).toInt) → 160 + 1 - (h1015 63 17).toInt ≤ (n : Int) → EvQ mi_X10_next 8 [some (.ref 63), none] [] (G0 L b) h1015 0 0 (QK (fun z : Hp => ((z 63 17).toInt ≤ (z 63 16).toInt) ∧ ((z 63 21).toInt = 0 → (h 63 21).toInt = 0) ∧ ((¬ (z 63 21).toInt = 0) ∨ (z 63 19).toInt = 0 ∨ (h 63 17).toInt + 1 ≤ (z 63 17).toInt) ∧ ((h 63 17).toInt ≤ (z 63 17).toInt) ∧ ((z 63 21).toInt = 0 → (z 63 19).toInt = 1 → 0 ≤ (z 63 20).toInt ∧ (z 63 20).toInt ≤ 4095)) [(63, 17), (63, 18), (63, 19), (63, 20), (63, 21), (63, 22)] (G0 L b) h) := by
      intro n
      induction n with
      | zero =>
        intro h1015 hJ1016 z1017 z1018 z1019 z1020 y8_0 y8_1 hm8
        obtain ⟨f1021, ef1021⟩ : ∃ f_, h1015 63 17 = f_ := ⟨_, rfl⟩
        have bf1021 : B f1021 0 160 := by
          have z_ := hJ1016.1 63 17
          rw [ef1021] at z_
          exact z_
        rw [ef1021] at hm8
        exact absurd hm8 (L_zero bf1021 (by decide))
      | succ n ih8 =>
        intro h1015 hJ1016 z1017 z1018 z1019 z1020 y8_0 y8_1 hm8
        obtain ⟨f1021, ef1021⟩ : ∃ f_, h1015 63 17 = f_ := ⟨_, rfl⟩
        have bf1021 : B f1021 0 160 := by
          have z_ := hJ1016.1 63 17
          rw [ef1021] at z_
          exact z_
        rw [ef1021] at hm8
        have z1022 := congrArg Int32.toInt z1017
        have z1023 := congrArg Int32.toInt ef1021
        have z1024 := congrArg Int32.toInt z1018
        have z1025 := congrArg Int32.toInt z1019
        have z1026 := congrArg Int32.toInt z1020
        refine ev_aload_n rfl rfl rfl ?_
        refine ev_aload_n rfl rfl rfl ?_
        refine ev_getV (v := f1021) rfl rfl fl_X10_210 rfl rfl rfl ef1021 ?_
        obtain ⟨t1027, et1027⟩ : ∃ f_, h1015 72 (Int32.toNatClampNeg f1021) = f_ := ⟨_, rfl⟩
        have bt1027 : B t1027 0 255 := by have z_ := hJ1016.1 72 (Int32.toNatClampNeg f1021); rw [et1027] at z_; exact z_
        have z1028 := congrArg Int32.toInt z1017
        have z1029 := congrArg Int32.toInt ef1021
        have z1030 := congrArg Int32.toInt z1018
        have z1031 := congrArg Int32.toInt z1019
        have z1032 := congrArg Int32.toInt z1020
        refine ev_V1P rfl rfl lk_X10_213 vt_X10_look rfl rfl rfl rfl rfl (w_X10_look_63 L b h1015 hJ1016.1 f1021 bf1021 t1027 et1027) (fun r1033 q1033 => ?_)
        obtain ⟨b1033, pp1033_0, pp1033_1⟩ := q1033
        refine ev_bipush (v := 32) rfl rfl (by decide) ?_
        refine ev_icmp_ne rfl rfl (fun c1034 => ?_) (fun c1034 => ?_)
        · have z1035 := w_ne c1034
          rw [show (32 : Int32).toInt = 32 from by decide] at z1035
          refine ev_aload_n rfl rfl rfl ?_
          refine ev_aload_n rfl rfl rfl ?_
          refine ev_getV (v := f1021) rfl rfl fl_X10_210 rfl rfl rfl ef1021 ?_
          refine ev_putW (l := (-2147483648)) (u := 2147483647) hJ1016 rfl bf1021 (by decide) (by decide) rfl rfl rfl fl_X10_197 rfl rfl rfl rfl rfl (fun h1038 hJ1038 k1038 => ?_)
          refine ev_aload_n rfl rfl rfl ?_
          refine ev_aload_n rfl rfl rfl ?_
          refine ev_getV (v := f1021) rfl rfl fl_X10_210 rfl rfl rfl (rd_o k1038 ef1021 rfl) ?_
          have z1039 := congrArg Int32.toInt (rd_o k1038 z1017 rfl)
          have z1040 := congrArg Int32.toInt (rd_o k1038 ef1021 rfl)
          have z1041 := congrArg Int32.toInt (rd_o k1038 z1018 rfl)
          have z1042 := congrArg Int32.toInt (rd_o k1038 z1019 rfl)
          have z1043 := congrArg Int32.toInt (rd_o k1038 z1020 rfl)
          refine ev_V1P rfl rfl lk_X10_213 vt_X10_look rfl rfl rfl rfl rfl (w_X10_look_63 L b h1038 hJ1038.1 f1021 bf1021 t1027 (rd_o k1038 et1027 rfl)) (fun r1044 q1044 => ?_)
          obtain ⟨b1044, pp1044_0, pp1044_1⟩ := q1044
          refine ev_istore_n rfl rfl rfl rfl ?_
          dsimp only [List.set]
          refine ev_iload_n rfl rfl rfl ?_
          refine ev_if_ge rfl rfl (fun c1045 => ?_) (fun c1045 => ?_)
          · have b1046 : B r1044 0 255 := R_leY (by decide : B 0 0 0) b1044 c1045 (by decide)
            have z1047 := w_le c1045
            rw [show (0 : Int32).toInt = 0 from by decide] at z1047
            refine ev_iload_n rfl rfl rfl ?_
            refine ev_i2l rfl rfl ?_
            have z1050 := Int32.toInt_toInt64 r1044
            have z1050b := B.any r1044
            refine ev_ldc2 (v := 97) rfl rfl kc_X10_216 ?_
            refine ev_ldc2 (v := 122) rfl rfl kc_X10_218 ?_
            have z1051 := congrArg Int32.toInt (rd_o k1038 z1017 rfl)
            have z1052 := congrArg Int32.toInt (rd_o k1038 ef1021 rfl)
            have z1053 := congrArg Int32.toInt (rd_o k1038 z1018 rfl)
            have z1054 := congrArg Int32.toInt (rd_o k1038 z1019 rfl)
            have z1055 := congrArg Int32.toInt (rd_o k1038 z1020 rfl)
            refine ev_S3P rfl rfl lk_X10_124 st_X10_in rfl rfl (w_inR (G0 L b) h1038 r1044 97 122 (by decide : BL 97 97 97) (by decide : BL 122 122 122)) (fun r1056 q1056 => ?_)
            obtain ⟨b1056, p1056_0, pp1056_0, pp1056_1⟩ := q1056
            refine ev_if_eq rfl rfl (fun c1057 => ?_) (fun c1057 => ?_)
            · have b1058 : B r1056 0 0 := R_eqX b1056 (by decide : B 0 0 0) c1057
              have z1059 := congrArg Int32.toInt c1057
              rw [show (0 : Int32).toInt = 0 from by decide] at z1059
              refine ev_iload_n rfl rfl rfl ?_
              refine ev_i2l rfl rfl ?_
              have z1063 := Int32.toInt_toInt64 r1044
              have z1063b := B.any r1044
              refine ev_ldc2 (v := 48) rfl rfl kc_X10_226 ?_
              refine ev_ldc2 (v := 57) rfl rfl kc_X10_228 ?_
              have z1064 := congrArg Int32.toInt (rd_o k1038 z1017 rfl)
              have z1065 := congrArg Int32.toInt (rd_o k1038 ef1021 rfl)
              have z1066 := congrArg Int32.toInt (rd_o k1038 z1018 rfl)
              have z1067 := congrArg Int32.toInt (rd_o k1038 z1019 rfl)
              have z1068 := congrArg Int32.toInt (rd_o k1038 z1020 rfl)
              refine ev_S3P rfl rfl lk_X10_124 st_X10_in rfl rfl (w_inR (G0 L b) h1038 r1044 48 57 (by decide : BL 48 48 48) (by decide : BL 57 57 57)) (fun r1069 q1069 => ?_)
              obtain ⟨b1069, p1069_0, pp1069_0, pp1069_1⟩ := q1069
              refine ev_if_eq rfl rfl (fun c1070 => ?_) (fun c1070 => ?_)
              · have b1071 : B r1069 0 0 := R_eqX b1069 (by decide : B 0 0 0) c1070
                have z1072 := congrArg Int32.toInt c1070
                rw [show (0 : Int32).toInt = 0 from by decide] at z1072
                refine ev_aload_n rfl rfl rfl ?_
                refine ev_iconst (v := 3) rfl rfl (by decide) ?_
                refine ev_putW (l := 0) (u := 3) hJ1038 rfl (by decide : B 3 3 3) (by decide) (by decide) rfl rfl rfl fl_X10_204 rfl rfl rfl rfl rfl (fun h1076 hJ1076 k1076 => ?_)
                refine ev_aload_n rfl rfl rfl ?_
                refine ev_iload_n rfl rfl rfl ?_
                refine ev_putW (l := (-2147483648)) (u := 2147483647) hJ1076 rfl b1046 (by decide) (by decide) rfl rfl rfl fl_X10_207 rfl rfl rfl rfl rfl (fun h1077 hJ1077 k1077 => ?_)
                refine ev_aload_n rfl rfl rfl ?_
                refine ev_iload_n rfl rfl rfl ?_
                refine ev_bipush (v := 40) rfl rfl (by decide) ?_
                refine ev_icmp_eq rfl rfl (fun c1078 => ?_) (fun c1078 => ?_)
                · have b1079 : B r1044 40 40 := R_eqX b1046 (by decide : B 40 40 40) c1078
                  have z1080 := congrArg Int32.toInt c1078
                  rw [show (40 : Int32).toInt = 40 from by decide] at z1080
                  refine ev_iconst (v := 1) rfl rfl (by decide) ?_
                  refine ev_goto rfl rfl ?_
                  refine ev_iconst (v := 1) rfl rfl (by decide) ?_
                  have z1082 := congrArg Int32.toInt (rd_o k1077 (rd_o k1076 (rd_o k1038 z1017 rfl) rfl) rfl)
                  have z1083 := congrArg Int32.toInt (rd_o k1077 (rd_o k1076 (rd_o k1038 ef1021 rfl) rfl) rfl)
                  have z1084 := congrArg Int32.toInt (rd_o k1077 (rd_o k1076 (rd_o k1038 z1018 rfl) rfl) rfl)
                  have z1085 := congrArg Int32.toInt (rd_s k1077)
                  have z1086 := congrArg Int32.toInt (rd_o k1077 (rd_s k1076) rfl)
                  refine ev_V2K hJ1077 rfl rfl rfl lk_X10_230 vt_X10_wants rfl rfl rfl rfl rfl (w_X10_wants_63 L b h1077 hJ1077.1 1 ((by decide : B 1 1 1).mono (by decide) (by decide)) 1 ((by decide : B 1 1 1).mono (by decide) (by decide))) (fun h1087 hJ1087 k1087 m1087 => ?_)
                  obtain ⟨f1088, ef1088⟩ : ∃ f_, h1087 63 21 = f_ := ⟨_, rfl⟩
                  have bf1088 : B f1088 0 6 := by have z_ := hJ1087.1 63 21; rw [ef1088] at z_; exact z_
                  have zf1088 := congrArg Int32.toInt ef1088
                  have z1089 := congrArg Int32.toInt (rd_w k1087 (rd_o k1077 (rd_o k1076 (rd_o k1038 z1017 rfl) rfl) rfl) rfl)
                  have z1090 := congrArg Int32.toInt (rd_w k1087 (rd_o k1077 (rd_o k1076 (rd_o k1038 ef1021 rfl) rfl) rfl) rfl)
                  have z1091 := congrArg Int32.toInt ef1088
                  have z1092 := congrArg Int32.toInt (rd_w k1087 (rd_s k1077) rfl)
                  have z1093 := congrArg Int32.toInt (rd_w k1087 (rd_o k1077 (rd_s k1076) rfl) rfl)
                  refine ev_aload_n rfl rfl rfl ?_
                  refine ev_dup rfl rfl rfl ?_
                  refine ev_getV (v := f1021) rfl rfl fl_X10_210 rfl rfl rfl (rd_w k1087 (rd_o k1077 (rd_o k1076 (rd_o k1038 ef1021 rfl) rfl) rfl) rfl) ?_
                  refine ev_iconst (v := 1) rfl rfl (by decide) ?_
                  refine ev_iaddB (l := 1) (u := 161) rfl rfl bf1021 (by decide : B 1 1 1) (by decide) (by decide) (by decide) (by decide) (fun v1094 b1094 e1094 g1094 => ?_)
                  have e1094x := e1094; rw [show (1 : Int32).toInt = 1 from by decide] at e1094x
                  have b1095 : B v1094 0 160 := ⟨(by have z0_ := congrArg Int32.toInt (rd_w k1087 (rd_o k1077 (rd_o k1076 (rd_o k1038 z1017 rfl) rfl) rfl) rfl); have z1_ := congrArg Int32.toInt (rd_w k1087 (rd_o k1077 (rd_o k1076 (rd_o k1038 ef1021 rfl) rfl) rfl) rfl); have z2_ := congrArg Int32.toInt ef1088; have z3_ := congrArg Int32.toInt (rd_w k1087 (rd_s k1077) rfl); have z4_ := congrArg Int32.toInt (rd_w k1087 (rd_o k1077 (rd_s k1076) rfl) rfl); have z_ := w_lits; have zl_ := l_lits; omega), (by have z0_ := congrArg Int32.toInt (rd_w k1087 (rd_o k1077 (rd_o k1076 (rd_o k1038 z1017 rfl) rfl) rfl) rfl); have z1_ := congrArg Int32.toInt (rd_w k1087 (rd_o k1077 (rd_o k1076 (rd_o k1038 ef1021 rfl) rfl) rfl) rfl); have z2_ := congrArg Int32.toInt ef1088; have z3_ := congrArg Int32.toInt (rd_w k1087 (rd_s k1077) rfl); have z4_ := congrArg Int32.toInt (rd_w k1087 (rd_o k1077 (rd_s k1076) rfl) rfl); have z_ := w_lits; have zl_ := l_lits; omega)⟩
                  refine ev_putW (l := 0) (u := 160) hJ1087 rfl b1095 (by decide) (by decide) rfl rfl rfl fl_X10_210 rfl rfl rfl rfl rfl (fun h1096 hJ1096 k1096 => ?_)
                  exact ev_vret rfl rfl trivial ⟨rfl, rfl, hJ1096, (by have z0_ := congrArg Int32.toInt (rd_o k1096 (rd_w k1087 (rd_o k1077 (rd_o k1076 (rd_o k1038 z1017 rfl) rfl) rfl) rfl) rfl); have z1_ := congrArg Int32.toInt (rd_s k1096); have z2_ := congrArg Int32.toInt (rd_o k1096 ef1088 rfl); have z3_ := congrArg Int32.toInt (rd_o k1096 (rd_w k1087 (rd_s k1077) rfl) rfl); have z4_ := congrArg Int32.toInt (rd_o k1096 (rd_w k1087 (rd_o k1077 (rd_s k1076) rfl) rfl) rfl); have z_ := w_lits; have zl_ := l_lits; omega), (by have z0_ := congrArg Int32.toInt (rd_o k1096 (rd_w k1087 (rd_o k1077 (rd_o k1076 (rd_o k1038 z1017 rfl) rfl) rfl) rfl) rfl); have z1_ := congrArg Int32.toInt (rd_s k1096); have z2_ := congrArg Int32.toInt (rd_o k1096 ef1088 rfl); have z3_ := congrArg Int32.toInt (rd_o k1096 (rd_w k1087 (rd_s k1077) rfl) rfl); have z4_ := congrArg Int32.toInt (rd_o k1096 (rd_w k1087 (rd_o k1077 (rd_s k1076) rfl) rfl) rfl); have z_ := w_lits; have zl_ := l_lits; omega), (by have z0_ := congrArg Int32.toInt (rd_o k1096 (rd_w k1087 (rd_o k1077 (rd_o k1076 (rd_o k1038 z1017 rfl) rfl) rfl) rfl) rfl); have z1_ := congrArg Int32.toInt (rd_s k1096); have z2_ := congrArg Int32.toInt (rd_o k1096 ef1088 rfl); have z3_ := congrArg Int32.toInt (rd_o k1096 (rd_w k1087 (rd_s k1077) rfl) rfl); have z4_ := congrArg Int32.toInt (rd_o k1096 (rd_w k1087 (rd_o k1077 (rd_s k1076) rfl) rfl) rfl); have z_ := w_lits; have zl_ := l_lits; omega), (by have z0_ := congrArg Int32.toInt (rd_o k1096 (rd_w k1087 (rd_o k1077 (rd_o k1076 (rd_o k1038 z1017 rfl) rfl) rfl) rfl) rfl); have z1_ := congrArg Int32.toInt (rd_s k1096); have z2_ := congrArg Int32.toInt (rd_o k1096 ef1088 rfl); have z3_ := congrArg Int32.toInt (rd_o k1096 (rd_w k1087 (rd_s k1077) rfl) rfl); have z4_ := congrArg Int32.toInt (rd_o k1096 (rd_w k1087 (rd_o k1077 (rd_s k1076) rfl) rfl) rfl); have z_ := w_lits; have zl_ := l_lits; omega), (by have z0_ := congrArg Int32.toInt (rd_o k1096 (rd_w k1087 (rd_o k1077 (rd_o k1076 (rd_o k1038 z1017 rfl) rfl) rfl) rfl) rfl); have z1_ := congrArg Int32.toInt (rd_s k1096); have z2_ := congrArg Int32.toInt (rd_o k1096 ef1088 rfl); have z3_ := congrArg Int32.toInt (rd_o k1096 (rd_w k1087 (rd_s k1077) rfl) rfl); have z4_ := congrArg Int32.toInt (rd_o k1096 (rd_w k1087 (rd_o k1077 (rd_s k1076) rfl) rfl) rfl); have z_ := w_lits; have zl_ := l_lits; omega)⟩
                · have z1081 := w_ne c1078
                  rw [show (40 : Int32).toInt = 40 from by decide] at z1081
                  refine ev_iload_n rfl rfl rfl ?_
                  refine ev_bipush (v := 41) rfl rfl (by decide) ?_
                  refine ev_icmp_eq rfl rfl (fun c1097 => ?_) (fun c1097 => ?_)
                  · have b1098 : B r1044 41 41 := R_eqX b1046 (by decide : B 41 41 41) c1097
                    have z1099 := congrArg Int32.toInt c1097
                    rw [show (41 : Int32).toInt = 41 from by decide] at z1099
                    refine ev_iconst (v := 1) rfl rfl (by decide) ?_
                    refine ev_goto rfl rfl ?_
                    refine ev_iconst (v := 1) rfl rfl (by decide) ?_
                    have z1101 := congrArg Int32.toInt (rd_o k1077 (rd_o k1076 (rd_o k1038 z1017 rfl) rfl) rfl)
                    have z1102 := congrArg Int32.toInt (rd_o k1077 (rd_o k1076 (rd_o k1038 ef1021 rfl) rfl) rfl)
                    have z1103 := congrArg Int32.toInt (rd_o k1077 (rd_o k1076 (rd_o k1038 z1018 rfl) rfl) rfl)
                    have z1104 := congrArg Int32.toInt (rd_s k1077)
                    have z1105 := congrArg Int32.toInt (rd_o k1077 (rd_s k1076) rfl)
                    refine ev_V2K hJ1077 rfl rfl rfl lk_X10_230 vt_X10_wants rfl rfl rfl rfl rfl (w_X10_wants_63 L b h1077 hJ1077.1 1 ((by decide : B 1 1 1).mono (by decide) (by decide)) 1 ((by decide : B 1 1 1).mono (by decide) (by decide))) (fun h1106 hJ1106 k1106 m1106 => ?_)
                    obtain ⟨f1107, ef1107⟩ : ∃ f_, h1106 63 21 = f_ := ⟨_, rfl⟩
                    have bf1107 : B f1107 0 6 := by have z_ := hJ1106.1 63 21; rw [ef1107] at z_; exact z_
                    have zf1107 := congrArg Int32.toInt ef1107
                    have z1108 := congrArg Int32.toInt (rd_w k1106 (rd_o k1077 (rd_o k1076 (rd_o k1038 z1017 rfl) rfl) rfl) rfl)
                    have z1109 := congrArg Int32.toInt (rd_w k1106 (rd_o k1077 (rd_o k1076 (rd_o k1038 ef1021 rfl) rfl) rfl) rfl)
                    have z1110 := congrArg Int32.toInt ef1107
                    have z1111 := congrArg Int32.toInt (rd_w k1106 (rd_s k1077) rfl)
                    have z1112 := congrArg Int32.toInt (rd_w k1106 (rd_o k1077 (rd_s k1076) rfl) rfl)
                    refine ev_aload_n rfl rfl rfl ?_
                    refine ev_dup rfl rfl rfl ?_
                    refine ev_getV (v := f1021) rfl rfl fl_X10_210 rfl rfl rfl (rd_w k1106 (rd_o k1077 (rd_o k1076 (rd_o k1038 ef1021 rfl) rfl) rfl) rfl) ?_
                    refine ev_iconst (v := 1) rfl rfl (by decide) ?_
                    refine ev_iaddB (l := 1) (u := 161) rfl rfl bf1021 (by decide : B 1 1 1) (by decide) (by decide) (by decide) (by decide) (fun v1113 b1113 e1113 g1113 => ?_)
                    have e1113x := e1113; rw [show (1 : Int32).toInt = 1 from by decide] at e1113x
                    have b1114 : B v1113 0 160 := ⟨(by have z0_ := congrArg Int32.toInt (rd_w k1106 (rd_o k1077 (rd_o k1076 (rd_o k1038 z1017 rfl) rfl) rfl) rfl); have z1_ := congrArg Int32.toInt (rd_w k1106 (rd_o k1077 (rd_o k1076 (rd_o k1038 ef1021 rfl) rfl) rfl) rfl); have z2_ := congrArg Int32.toInt ef1107; have z3_ := congrArg Int32.toInt (rd_w k1106 (rd_s k1077) rfl); have z4_ := congrArg Int32.toInt (rd_w k1106 (rd_o k1077 (rd_s k1076) rfl) rfl); have z_ := w_lits; have zl_ := l_lits; omega), (by have z0_ := congrArg Int32.toInt (rd_w k1106 (rd_o k1077 (rd_o k1076 (rd_o k1038 z1017 rfl) rfl) rfl) rfl); have z1_ := congrArg Int32.toInt (rd_w k1106 (rd_o k1077 (rd_o k1076 (rd_o k1038 ef1021 rfl) rfl) rfl) rfl); have z2_ := congrArg Int32.toInt ef1107; have z3_ := congrArg Int32.toInt (rd_w k1106 (rd_s k1077) rfl); have z4_ := congrArg Int32.toInt (rd_w k1106 (rd_o k1077 (rd_s k1076) rfl) rfl); have z_ := w_lits; have zl_ := l_lits; omega)⟩
                    refine ev_putW (l := 0) (u := 160) hJ1106 rfl b1114 (by decide) (by decide) rfl rfl rfl fl_X10_210 rfl rfl rfl rfl rfl (fun h1115 hJ1115 k1115 => ?_)
                    exact ev_vret rfl rfl trivial ⟨rfl, rfl, hJ1115, (by have z0_ := congrArg Int32.toInt (rd_o k1115 (rd_w k1106 (rd_o k1077 (rd_o k1076 (rd_o k1038 z1017 rfl) rfl) rfl) rfl) rfl); have z1_ := congrArg Int32.toInt (rd_s k1115); have z2_ := congrArg Int32.toInt (rd_o k1115 ef1107 rfl); have z3_ := congrArg Int32.toInt (rd_o k1115 (rd_w k1106 (rd_s k1077) rfl) rfl); have z4_ := congrArg Int32.toInt (rd_o k1115 (rd_w k1106 (rd_o k1077 (rd_s k1076) rfl) rfl) rfl); have z_ := w_lits; have zl_ := l_lits; omega), (by have z0_ := congrArg Int32.toInt (rd_o k1115 (rd_w k1106 (rd_o k1077 (rd_o k1076 (rd_o k1038 z1017 rfl) rfl) rfl) rfl) rfl); have z1_ := congrArg Int32.toInt (rd_s k1115); have z2_ := congrArg Int32.toInt (rd_o k1115 ef1107 rfl); have z3_ := congrArg Int32.toInt (rd_o k1115 (rd_w k1106 (rd_s k1077) rfl) rfl); have z4_ := congrArg Int32.toInt (rd_o k1115 (rd_w k1106 (rd_o k1077 (rd_s k1076) rfl) rfl) rfl); have z_ := w_lits; have zl_ := l_lits; omega), (by have z0_ := congrArg Int32.toInt (rd_o k1115 (rd_w k1106 (rd_o k1077 (rd_o k1076 (rd_o k1038 z1017 rfl) rfl) rfl) rfl) rfl); have z1_ := congrArg Int32.toInt (rd_s k1115); have z2_ := congrArg Int32.toInt (rd_o k1115 ef1107 rfl); have z3_ := congrArg Int32.toInt (rd_o k1115 (rd_w k1106 (rd_s k1077) rfl) rfl); have z4_ := congrArg Int32.toInt (rd_o k1115 (rd_w k1106 (rd_o k1077 (rd_s k1076) rfl) rfl) rfl); have z_ := w_lits; have zl_ := l_lits; omega), (by have z0_ := congrArg Int32.toInt (rd_o k1115 (rd_w k1106 (rd_o k1077 (rd_o k1076 (rd_o k1038 z1017 rfl) rfl) rfl) rfl) rfl); have z1_ := congrArg Int32.toInt (rd_s k1115); have z2_ := congrArg Int32.toInt (rd_o k1115 ef1107 rfl); have z3_ := congrArg Int32.toInt (rd_o k1115 (rd_w k1106 (rd_s k1077) rfl) rfl); have z4_ := congrArg Int32.toInt (rd_o k1115 (rd_w k1106 (rd_o k1077 (rd_s k1076) rfl) rfl) rfl); have z_ := w_lits; have zl_ := l_lits; omega), (by have z0_ := congrArg Int32.toInt (rd_o k1115 (rd_w k1106 (rd_o k1077 (rd_o k1076 (rd_o k1038 z1017 rfl) rfl) rfl) rfl) rfl); have z1_ := congrArg Int32.toInt (rd_s k1115); have z2_ := congrArg Int32.toInt (rd_o k1115 ef1107 rfl); have z3_ := congrArg Int32.toInt (rd_o k1115 (rd_w k1106 (rd_s k1077) rfl) rfl); have z4_ := congrArg Int32.toInt (rd_o k1115 (rd_w k1106 (rd_o k1077 (rd_s k1076) rfl) rfl) rfl); have z_ := w_lits; have zl_ := l_lits; omega)⟩
                  · have z1100 := w_ne c1097
                    rw [show (41 : Int32).toInt = 41 from by decide] at z1100
                    refine ev_iload_n rfl rfl rfl ?_
                    refine ev_bipush (v := 46) rfl rfl (by decide) ?_
                    refine ev_icmp_ne rfl rfl (fun c1116 => ?_) (fun c1116 => ?_)
                    · have z1117 := w_ne c1116
                      rw [show (46 : Int32).toInt = 46 from by decide] at z1117
                      refine ev_iconst (v := 0) rfl rfl (by decide) ?_
                      refine ev_iconst (v := 1) rfl rfl (by decide) ?_
                      have z1120 := congrArg Int32.toInt (rd_o k1077 (rd_o k1076 (rd_o k1038 z1017 rfl) rfl) rfl)
                      have z1121 := congrArg Int32.toInt (rd_o k1077 (rd_o k1076 (rd_o k1038 ef1021 rfl) rfl) rfl)
                      have z1122 := congrArg Int32.toInt (rd_o k1077 (rd_o k1076 (rd_o k1038 z1018 rfl) rfl) rfl)
                      have z1123 := congrArg Int32.toInt (rd_s k1077)
                      have z1124 := congrArg Int32.toInt (rd_o k1077 (rd_s k1076) rfl)
                      refine ev_V2K hJ1077 rfl rfl rfl lk_X10_230 vt_X10_wants rfl rfl rfl rfl rfl (w_X10_wants_63 L b h1077 hJ1077.1 0 ((by decide : B 0 0 0).mono (by decide) (by decide)) 1 ((by decide : B 1 1 1).mono (by decide) (by decide))) (fun h1125 hJ1125 k1125 m1125 => ?_)
                      obtain ⟨f1126, ef1126⟩ : ∃ f_, h1125 63 21 = f_ := ⟨_, rfl⟩
                      have bf1126 : B f1126 0 6 := by have z_ := hJ1125.1 63 21; rw [ef1126] at z_; exact z_
                      have zf1126 := congrArg Int32.toInt ef1126
                      have z1127 := congrArg Int32.toInt (rd_w k1125 (rd_o k1077 (rd_o k1076 (rd_o k1038 z1017 rfl) rfl) rfl) rfl)
                      have z1128 := congrArg Int32.toInt (rd_w k1125 (rd_o k1077 (rd_o k1076 (rd_o k1038 ef1021 rfl) rfl) rfl) rfl)
                      have z1129 := congrArg Int32.toInt ef1126
                      have z1130 := congrArg Int32.toInt (rd_w k1125 (rd_s k1077) rfl)
                      have z1131 := congrArg Int32.toInt (rd_w k1125 (rd_o k1077 (rd_s k1076) rfl) rfl)
                      refine ev_aload_n rfl rfl rfl ?_
                      refine ev_dup rfl rfl rfl ?_
                      refine ev_getV (v := f1021) rfl rfl fl_X10_210 rfl rfl rfl (rd_w k1125 (rd_o k1077 (rd_o k1076 (rd_o k1038 ef1021 rfl) rfl) rfl) rfl) ?_
                      refine ev_iconst (v := 1) rfl rfl (by decide) ?_
                      refine ev_iaddB (l := 1) (u := 161) rfl rfl bf1021 (by decide : B 1 1 1) (by decide) (by decide) (by decide) (by decide) (fun v1132 b1132 e1132 g1132 => ?_)
                      have e1132x := e1132; rw [show (1 : Int32).toInt = 1 from by decide] at e1132x
                      have b1133 : B v1132 0 160 := ⟨(by have z0_ := congrArg Int32.toInt (rd_w k1125 (rd_o k1077 (rd_o k1076 (rd_o k1038 z1017 rfl) rfl) rfl) rfl); have z1_ := congrArg Int32.toInt (rd_w k1125 (rd_o k1077 (rd_o k1076 (rd_o k1038 ef1021 rfl) rfl) rfl) rfl); have z2_ := congrArg Int32.toInt ef1126; have z3_ := congrArg Int32.toInt (rd_w k1125 (rd_s k1077) rfl); have z4_ := congrArg Int32.toInt (rd_w k1125 (rd_o k1077 (rd_s k1076) rfl) rfl); have z_ := w_lits; have zl_ := l_lits; omega), (by have z0_ := congrArg Int32.toInt (rd_w k1125 (rd_o k1077 (rd_o k1076 (rd_o k1038 z1017 rfl) rfl) rfl) rfl); have z1_ := congrArg Int32.toInt (rd_w k1125 (rd_o k1077 (rd_o k1076 (rd_o k1038 ef1021 rfl) rfl) rfl) rfl); have z2_ := congrArg Int32.toInt ef1126; have z3_ := congrArg Int32.toInt (rd_w k1125 (rd_s k1077) rfl); have z4_ := congrArg Int32.toInt (rd_w k1125 (rd_o k1077 (rd_s k1076) rfl) rfl); have z_ := w_lits; have zl_ := l_lits; omega)⟩
                      refine ev_putW (l := 0) (u := 160) hJ1125 rfl b1133 (by decide) (by decide) rfl rfl rfl fl_X10_210 rfl rfl rfl rfl rfl (fun h1134 hJ1134 k1134 => ?_)
                      exact ev_vret rfl rfl trivial ⟨rfl, rfl, hJ1134, (by have z0_ := congrArg Int32.toInt (rd_o k1134 (rd_w k1125 (rd_o k1077 (rd_o k1076 (rd_o k1038 z1017 rfl) rfl) rfl) rfl) rfl); have z1_ := congrArg Int32.toInt (rd_s k1134); have z2_ := congrArg Int32.toInt (rd_o k1134 ef1126 rfl); have z3_ := congrArg Int32.toInt (rd_o k1134 (rd_w k1125 (rd_s k1077) rfl) rfl); have z4_ := congrArg Int32.toInt (rd_o k1134 (rd_w k1125 (rd_o k1077 (rd_s k1076) rfl) rfl) rfl); have z_ := w_lits; have zl_ := l_lits; omega), (by have z0_ := congrArg Int32.toInt (rd_o k1134 (rd_w k1125 (rd_o k1077 (rd_o k1076 (rd_o k1038 z1017 rfl) rfl) rfl) rfl) rfl); have z1_ := congrArg Int32.toInt (rd_s k1134); have z2_ := congrArg Int32.toInt (rd_o k1134 ef1126 rfl); have z3_ := congrArg Int32.toInt (rd_o k1134 (rd_w k1125 (rd_s k1077) rfl) rfl); have z4_ := congrArg Int32.toInt (rd_o k1134 (rd_w k1125 (rd_o k1077 (rd_s k1076) rfl) rfl) rfl); have z_ := w_lits; have zl_ := l_lits; omega), (by have z0_ := congrArg Int32.toInt (rd_o k1134 (rd_w k1125 (rd_o k1077 (rd_o k1076 (rd_o k1038 z1017 rfl) rfl) rfl) rfl) rfl); have z1_ := congrArg Int32.toInt (rd_s k1134); have z2_ := congrArg Int32.toInt (rd_o k1134 ef1126 rfl); have z3_ := congrArg Int32.toInt (rd_o k1134 (rd_w k1125 (rd_s k1077) rfl) rfl); have z4_ := congrArg Int32.toInt (rd_o k1134 (rd_w k1125 (rd_o k1077 (rd_s k1076) rfl) rfl) rfl); have z_ := w_lits; have zl_ := l_lits; omega), (by have z0_ := congrArg Int32.toInt (rd_o k1134 (rd_w k1125 (rd_o k1077 (rd_o k1076 (rd_o k1038 z1017 rfl) rfl) rfl) rfl) rfl); have z1_ := congrArg Int32.toInt (rd_s k1134); have z2_ := congrArg Int32.toInt (rd_o k1134 ef1126 rfl); have z3_ := congrArg Int32.toInt (rd_o k1134 (rd_w k1125 (rd_s k1077) rfl) rfl); have z4_ := congrArg Int32.toInt (rd_o k1134 (rd_w k1125 (rd_o k1077 (rd_s k1076) rfl) rfl) rfl); have z_ := w_lits; have zl_ := l_lits; omega), (by have z0_ := congrArg Int32.toInt (rd_o k1134 (rd_w k1125 (rd_o k1077 (rd_o k1076 (rd_o k1038 z1017 rfl) rfl) rfl) rfl) rfl); have z1_ := congrArg Int32.toInt (rd_s k1134); have z2_ := congrArg Int32.toInt (rd_o k1134 ef1126 rfl); have z3_ := congrArg Int32.toInt (rd_o k1134 (rd_w k1125 (rd_s k1077) rfl) rfl); have z4_ := congrArg Int32.toInt (rd_o k1134 (rd_w k1125 (rd_o k1077 (rd_s k1076) rfl) rfl) rfl); have z_ := w_lits; have zl_ := l_lits; omega)⟩
                    · have b1118 : B r1044 46 46 := R_eqX b1046 (by decide : B 46 46 46) c1116
                      have z1119 := congrArg Int32.toInt c1116
                      rw [show (46 : Int32).toInt = 46 from by decide] at z1119
                      refine ev_iconst (v := 1) rfl rfl (by decide) ?_
                      refine ev_goto rfl rfl ?_
                      refine ev_iconst (v := 1) rfl rfl (by decide) ?_
                      have z1135 := congrArg Int32.toInt (rd_o k1077 (rd_o k1076 (rd_o k1038 z1017 rfl) rfl) rfl)
                      have z1136 := congrArg Int32.toInt (rd_o k1077 (rd_o k1076 (rd_o k1038 ef1021 rfl) rfl) rfl)
                      have z1137 := congrArg Int32.toInt (rd_o k1077 (rd_o k1076 (rd_o k1038 z1018 rfl) rfl) rfl)
                      have z1138 := congrArg Int32.toInt (rd_s k1077)
                      have z1139 := congrArg Int32.toInt (rd_o k1077 (rd_s k1076) rfl)
                      refine ev_V2K hJ1077 rfl rfl rfl lk_X10_230 vt_X10_wants rfl rfl rfl rfl rfl (w_X10_wants_63 L b h1077 hJ1077.1 1 ((by decide : B 1 1 1).mono (by decide) (by decide)) 1 ((by decide : B 1 1 1).mono (by decide) (by decide))) (fun h1140 hJ1140 k1140 m1140 => ?_)
                      obtain ⟨f1141, ef1141⟩ : ∃ f_, h1140 63 21 = f_ := ⟨_, rfl⟩
                      have bf1141 : B f1141 0 6 := by have z_ := hJ1140.1 63 21; rw [ef1141] at z_; exact z_
                      have zf1141 := congrArg Int32.toInt ef1141
                      have z1142 := congrArg Int32.toInt (rd_w k1140 (rd_o k1077 (rd_o k1076 (rd_o k1038 z1017 rfl) rfl) rfl) rfl)
                      have z1143 := congrArg Int32.toInt (rd_w k1140 (rd_o k1077 (rd_o k1076 (rd_o k1038 ef1021 rfl) rfl) rfl) rfl)
                      have z1144 := congrArg Int32.toInt ef1141
                      have z1145 := congrArg Int32.toInt (rd_w k1140 (rd_s k1077) rfl)
                      have z1146 := congrArg Int32.toInt (rd_w k1140 (rd_o k1077 (rd_s k1076) rfl) rfl)
                      refine ev_aload_n rfl rfl rfl ?_
                      refine ev_dup rfl rfl rfl ?_
                      refine ev_getV (v := f1021) rfl rfl fl_X10_210 rfl rfl rfl (rd_w k1140 (rd_o k1077 (rd_o k1076 (rd_o k1038 ef1021 rfl) rfl) rfl) rfl) ?_
                      refine ev_iconst (v := 1) rfl rfl (by decide) ?_
                      refine ev_iaddB (l := 1) (u := 161) rfl rfl bf1021 (by decide : B 1 1 1) (by decide) (by decide) (by decide) (by decide) (fun v1147 b1147 e1147 g1147 => ?_)
                      have e1147x := e1147; rw [show (1 : Int32).toInt = 1 from by decide] at e1147x
                      have b1148 : B v1147 0 160 := ⟨(by have z0_ := congrArg Int32.toInt (rd_w k1140 (rd_o k1077 (rd_o k1076 (rd_o k1038 z1017 rfl) rfl) rfl) rfl); have z1_ := congrArg Int32.toInt (rd_w k1140 (rd_o k1077 (rd_o k1076 (rd_o k1038 ef1021 rfl) rfl) rfl) rfl); have z2_ := congrArg Int32.toInt ef1141; have z3_ := congrArg Int32.toInt (rd_w k1140 (rd_s k1077) rfl); have z4_ := congrArg Int32.toInt (rd_w k1140 (rd_o k1077 (rd_s k1076) rfl) rfl); have z_ := w_lits; have zl_ := l_lits; omega), (by have z0_ := congrArg Int32.toInt (rd_w k1140 (rd_o k1077 (rd_o k1076 (rd_o k1038 z1017 rfl) rfl) rfl) rfl); have z1_ := congrArg Int32.toInt (rd_w k1140 (rd_o k1077 (rd_o k1076 (rd_o k1038 ef1021 rfl) rfl) rfl) rfl); have z2_ := congrArg Int32.toInt ef1141; have z3_ := congrArg Int32.toInt (rd_w k1140 (rd_s k1077) rfl); have z4_ := congrArg Int32.toInt (rd_w k1140 (rd_o k1077 (rd_s k1076) rfl) rfl); have z_ := w_lits; have zl_ := l_lits; omega)⟩
                      refine ev_putW (l := 0) (u := 160) hJ1140 rfl b1148 (by decide) (by decide) rfl rfl rfl fl_X10_210 rfl rfl rfl rfl rfl (fun h1149 hJ1149 k1149 => ?_)
                      exact ev_vret rfl rfl trivial ⟨rfl, rfl, hJ1149, (by have z0_ := congrArg Int32.toInt (rd_o k1149 (rd_w k1140 (rd_o k1077 (rd_o k1076 (rd_o k1038 z1017 rfl) rfl) rfl) rfl) rfl); have z1_ := congrArg Int32.toInt (rd_s k1149); have z2_ := congrArg Int32.toInt (rd_o k1149 ef1141 rfl); have z3_ := congrArg Int32.toInt (rd_o k1149 (rd_w k1140 (rd_s k1077) rfl) rfl); have z4_ := congrArg Int32.toInt (rd_o k1149 (rd_w k1140 (rd_o k1077 (rd_s k1076) rfl) rfl) rfl); have z_ := w_lits; have zl_ := l_lits; omega), (by have z0_ := congrArg Int32.toInt (rd_o k1149 (rd_w k1140 (rd_o k1077 (rd_o k1076 (rd_o k1038 z1017 rfl) rfl) rfl) rfl) rfl); have z1_ := congrArg Int32.toInt (rd_s k1149); have z2_ := congrArg Int32.toInt (rd_o k1149 ef1141 rfl); have z3_ := congrArg Int32.toInt (rd_o k1149 (rd_w k1140 (rd_s k1077) rfl) rfl); have z4_ := congrArg Int32.toInt (rd_o k1149 (rd_w k1140 (rd_o k1077 (rd_s k1076) rfl) rfl) rfl); have z_ := w_lits; have zl_ := l_lits; omega), (by have z0_ := congrArg Int32.toInt (rd_o k1149 (rd_w k1140 (rd_o k1077 (rd_o k1076 (rd_o k1038 z1017 rfl) rfl) rfl) rfl) rfl); have z1_ := congrArg Int32.toInt (rd_s k1149); have z2_ := congrArg Int32.toInt (rd_o k1149 ef1141 rfl); have z3_ := congrArg Int32.toInt (rd_o k1149 (rd_w k1140 (rd_s k1077) rfl) rfl); have z4_ := congrArg Int32.toInt (rd_o k1149 (rd_w k1140 (rd_o k1077 (rd_s k1076) rfl) rfl) rfl); have z_ := w_lits; have zl_ := l_lits; omega), (by have z0_ := congrArg Int32.toInt (rd_o k1149 (rd_w k1140 (rd_o k1077 (rd_o k1076 (rd_o k1038 z1017 rfl) rfl) rfl) rfl) rfl); have z1_ := congrArg Int32.toInt (rd_s k1149); have z2_ := congrArg Int32.toInt (rd_o k1149 ef1141 rfl); have z3_ := congrArg Int32.toInt (rd_o k1149 (rd_w k1140 (rd_s k1077) rfl) rfl); have z4_ := congrArg Int32.toInt (rd_o k1149 (rd_w k1140 (rd_o k1077 (rd_s k1076) rfl) rfl) rfl); have z_ := w_lits; have zl_ := l_lits; omega), (by have z0_ := congrArg Int32.toInt (rd_o k1149 (rd_w k1140 (rd_o k1077 (rd_o k1076 (rd_o k1038 z1017 rfl) rfl) rfl) rfl) rfl); have z1_ := congrArg Int32.toInt (rd_s k1149); have z2_ := congrArg Int32.toInt (rd_o k1149 ef1141 rfl); have z3_ := congrArg Int32.toInt (rd_o k1149 (rd_w k1140 (rd_s k1077) rfl) rfl); have z4_ := congrArg Int32.toInt (rd_o k1149 (rd_w k1140 (rd_o k1077 (rd_s k1076) rfl) rfl) rfl); have z_ := w_lits; have zl_ := l_lits; omega)⟩
              · have b1073 : B r1069 1 1 := R_neL b1069 (by decide : B 0 0 0) c1070 (by decide)
                have b1074 : B r1044 48 57 := p1069_0 c1070
                have z1075 := w_ne c1070
                rw [show (0 : Int32).toInt = 0 from by decide] at z1075
                refine ev_aload_n rfl rfl rfl ?_
                refine ev_iconst (v := 2) rfl rfl (by decide) ?_
                refine ev_putW (l := 0) (u := 3) hJ1038 rfl (by decide : B 2 2 2) (by decide) (by decide) rfl rfl rfl fl_X10_204 rfl rfl rfl rfl rfl (fun h1150 hJ1150 k1150 => ?_)
                refine ev_aload_n rfl rfl rfl ?_
                refine ev_iconst (v := 0) rfl rfl (by decide) ?_
                refine ev_putW (l := (-2147483648)) (u := 2147483647) hJ1150 rfl (by decide : B 0 0 0) (by decide) (by decide) rfl rfl rfl fl_X10_207 rfl rfl rfl rfl rfl (fun h1151 hJ1151 k1151 => ?_)
                refine ev_aload_n rfl rfl rfl ?_
                refine ev_aload_n rfl rfl rfl ?_
                refine ev_getV (v := f1021) rfl rfl fl_X10_210 rfl rfl rfl (rd_o k1151 (rd_o k1150 (rd_o k1038 ef1021 rfl) rfl) rfl) ?_
                have z1152 := congrArg Int32.toInt (rd_o k1151 (rd_o k1150 (rd_o k1038 z1017 rfl) rfl) rfl)
                have z1153 := congrArg Int32.toInt (rd_o k1151 (rd_o k1150 (rd_o k1038 ef1021 rfl) rfl) rfl)
                have z1154 := congrArg Int32.toInt (rd_o k1151 (rd_o k1150 (rd_o k1038 z1018 rfl) rfl) rfl)
                have z1155 := congrArg Int32.toInt (rd_s k1151)
                have z1156 := congrArg Int32.toInt (rd_o k1151 (rd_s k1150) rfl)
                refine ev_V1P rfl rfl lk_X10_213 vt_X10_look rfl rfl rfl rfl rfl (w_X10_look_63 L b h1151 hJ1151.1 f1021 bf1021 t1027 (rd_o k1151 (rd_o k1150 (rd_o k1038 et1027 rfl) rfl) rfl)) (fun r1157 q1157 => ?_)
                obtain ⟨b1157, pp1157_0, pp1157_1⟩ := q1157
                refine ev_i2l rfl rfl ?_
                have z1158 := Int32.toInt_toInt64 r1157
                have z1158b := B.any r1157
                refine ev_ldc2 (v := 48) rfl rfl kc_X10_226 ?_
                refine ev_ldc2 (v := 57) rfl rfl kc_X10_228 ?_
                have z1159 := congrArg Int32.toInt (rd_o k1151 (rd_o k1150 (rd_o k1038 z1017 rfl) rfl) rfl)
                have z1160 := congrArg Int32.toInt (rd_o k1151 (rd_o k1150 (rd_o k1038 ef1021 rfl) rfl) rfl)
                have z1161 := congrArg Int32.toInt (rd_o k1151 (rd_o k1150 (rd_o k1038 z1018 rfl) rfl) rfl)
                have z1162 := congrArg Int32.toInt (rd_s k1151)
                have z1163 := congrArg Int32.toInt (rd_o k1151 (rd_s k1150) rfl)
                refine ev_S3P rfl rfl lk_X10_124 st_X10_in rfl rfl (w_inR (G0 L b) h1151 r1157 48 57 (by decide : BL 48 48 48) (by decide : BL 57 57 57)) (fun r1164 q1164 => ?_)
                obtain ⟨b1164, p1164_0, pp1164_0, pp1164_1⟩ := q1164
                refine ev_if_eq rfl rfl (fun c1165 => False.elim (by have z0_ := congrArg Int32.toInt (rd_o k1151 (rd_o k1150 (rd_o k1038 z1017 rfl) rfl) rfl); have z1_ := congrArg Int32.toInt (rd_o k1151 (rd_o k1150 (rd_o k1038 ef1021 rfl) rfl) rfl); have z2_ := congrArg Int32.toInt (rd_o k1151 (rd_o k1150 (rd_o k1038 z1018 rfl) rfl) rfl); have z3_ := congrArg Int32.toInt (rd_s k1151); have z4_ := congrArg Int32.toInt (rd_o k1151 (rd_s k1150) rfl); have z5_ := congrArg Int32.toInt c1165; have z_ := w_lits; have zl_ := l_lits; omega)) (fun c1165 => ?_)
                have b1168 : B r1164 1 1 := R_neL b1164 (by decide : B 0 0 0) c1165 (by decide)
                have b1169 : B r1157 48 57 := p1164_0 c1165
                have z1170 := w_ne c1165
                rw [show (0 : Int32).toInt = 0 from by decide] at z1170
                refine ev_aload_n rfl rfl rfl ?_
                refine ev_aload_n rfl rfl rfl ?_
                refine ev_getV (v := f1021) rfl rfl fl_X10_210 rfl rfl rfl (rd_o k1151 (rd_o k1150 (rd_o k1038 ef1021 rfl) rfl) rfl) ?_
                refine ev_aload_n rfl rfl rfl ?_
                refine ev_getV (v := f1021) rfl rfl fl_X10_197 rfl rfl rfl (rd_o k1151 (rd_o k1150 (rd_s k1038) rfl) rfl) ?_
                refine ev_isubB (l := -160) (u := 160) rfl rfl bf1021 bf1021 (by decide) (by decide) (by decide) (by decide) (fun v1171 b1171 e1171 g1171 => ?_)
                refine ev_iconst (v := 2) rfl rfl (by decide) ?_
                refine ev_icmp_ge rfl rfl (fun c1172 => ?_) (fun c1172 => ?_)
                · have b1173 : B v1171 2 160 := R_leY (by decide : B 2 2 2) b1171 c1172 (by decide)
                  have z1174 := w_le c1172
                  rw [show (2 : Int32).toInt = 2 from by decide] at z1174
                  refine ev_aload_n rfl rfl rfl ?_
                  refine ev_getV (v := 0) rfl rfl fl_X10_207 rfl rfl rfl (rd_s k1151) ?_
                  refine ev_putW (l := (-2147483648)) (u := 2147483647) hJ1151 rfl (by decide : B 0 0 0) (by decide) (by decide) rfl rfl rfl fl_X10_207 rfl rfl rfl rfl rfl (fun h1177 hJ1177 k1177 => ?_)
                  refine ev_aload_n rfl rfl rfl ?_
                  refine ev_dup rfl rfl rfl ?_
                  refine ev_getV (v := f1021) rfl rfl fl_X10_210 rfl rfl rfl (rd_o k1177 (rd_o k1151 (rd_o k1150 (rd_o k1038 ef1021 rfl) rfl) rfl) rfl) ?_
                  refine ev_iconst (v := 1) rfl rfl (by decide) ?_
                  refine ev_iaddB (l := 1) (u := 161) rfl rfl bf1021 (by decide : B 1 1 1) (by decide) (by decide) (by decide) (by decide) (fun v1178 b1178 e1178 g1178 => ?_)
                  have e1178x := e1178; rw [show (1 : Int32).toInt = 1 from by decide] at e1178x
                  have b1179 : B v1178 0 160 := ⟨(by have z0_ := congrArg Int32.toInt (rd_o k1177 (rd_o k1151 (rd_o k1150 (rd_o k1038 z1017 rfl) rfl) rfl) rfl); have z1_ := congrArg Int32.toInt (rd_o k1177 (rd_o k1151 (rd_o k1150 (rd_o k1038 ef1021 rfl) rfl) rfl) rfl); have z2_ := congrArg Int32.toInt (rd_o k1177 (rd_o k1151 (rd_o k1150 (rd_o k1038 z1018 rfl) rfl) rfl) rfl); have z3_ := congrArg Int32.toInt (rd_s k1177); have z4_ := congrArg Int32.toInt (rd_o k1177 (rd_o k1151 (rd_s k1150) rfl) rfl); have z_ := w_lits; have zl_ := l_lits; omega), (by have z0_ := congrArg Int32.toInt (rd_o k1177 (rd_o k1151 (rd_o k1150 (rd_o k1038 z1017 rfl) rfl) rfl) rfl); have z1_ := congrArg Int32.toInt (rd_o k1177 (rd_o k1151 (rd_o k1150 (rd_o k1038 ef1021 rfl) rfl) rfl) rfl); have z2_ := congrArg Int32.toInt (rd_o k1177 (rd_o k1151 (rd_o k1150 (rd_o k1038 z1018 rfl) rfl) rfl) rfl); have z3_ := congrArg Int32.toInt (rd_s k1177); have z4_ := congrArg Int32.toInt (rd_o k1177 (rd_o k1151 (rd_s k1150) rfl) rfl); have z_ := w_lits; have zl_ := l_lits; omega)⟩
                  refine ev_putW (l := 0) (u := 160) hJ1177 rfl b1179 (by decide) (by decide) rfl rfl rfl fl_X10_210 rfl rfl rfl rfl rfl (fun h1180 hJ1180 k1180 => ?_)
                  refine ev_goto rfl rfl ?_
                  have lp108_1300 : ∀ (n : Nat) (h1301 : Hp), JW [(63, 17), (63, 18), (63, 19), (63, 20), (63, 21), (63, 22)] h h1301 → (h1301 63 16 = f1) → (h1301 63 21 = f3) → (h1301 63 19 = 2) → (h1301 72 (Int32.toNatClampNeg f1021) = t1027) → (h1301 63 18 = f1021) → ((h1301 63 17).toInt ≤ (h1301 63 16).toInt) → ((h 63 17).toInt + 1 ≤ (h1301 63 17).toInt) → 160 + 1 - (h1301 63 17).toInt ≤ (n : Int) → EvQ mi_X10_next 108 [some (.ref 63), some (.int r1044)] [] (G0 L b) h1301 0 0 (QK (fun z : Hp => ((z 63 17).toInt ≤ (z 63 16).toInt) ∧ ((z 63 21).toInt = 0 → (h 63 21).toInt = 0) ∧ ((¬ (z 63 21).toInt = 0) ∨ (z 63 19).toInt = 0 ∨ (h 63 17).toInt + 1 ≤ (z 63 17).toInt) ∧ ((h 63 17).toInt ≤ (z 63 17).toInt) ∧ ((z 63 21).toInt = 0 → (z 63 19).toInt = 1 → 0 ≤ (z 63 20).toInt ∧ (z 63 20).toInt ≤ 4095)) [(63, 17), (63, 18), (63, 19), (63, 20), (63, 21), (63, 22)] (G0 L b) h) := by
                    intro n
                    induction n with
                    | zero =>
                      intro h1301 hJ1302 z1303 z1304 z1305 z1306 z1307 y108_0 y108_1 hm108
                      obtain ⟨f1308, ef1308⟩ : ∃ f_, h1301 63 17 = f_ := ⟨_, rfl⟩
                      have bf1308 : B f1308 0 160 := by
                        have z_ := hJ1302.1 63 17
                        rw [ef1308] at z_
                        exact z_
                      rw [ef1308] at hm108
                      exact absurd hm108 (L_zero bf1308 (by decide))
                    | succ n ih108 =>
                      intro h1301 hJ1302 z1303 z1304 z1305 z1306 z1307 y108_0 y108_1 hm108
                      obtain ⟨f1308, ef1308⟩ : ∃ f_, h1301 63 17 = f_ := ⟨_, rfl⟩
                      have bf1308 : B f1308 0 160 := by
                        have z_ := hJ1302.1 63 17
                        rw [ef1308] at z_
                        exact z_
                      rw [ef1308] at hm108
                      obtain ⟨f1309, ef1309⟩ : ∃ f_, h1301 63 20 = f_ := ⟨_, rfl⟩
                      have bf1309 : B f1309 (-2147483648) 2147483647 := by have z_ := hJ1302.1 63 20; rw [ef1309] at z_; exact z_
                      have zf1309 := congrArg Int32.toInt ef1309
                      have z1310 := congrArg Int32.toInt z1303
                      have z1311 := congrArg Int32.toInt ef1308
                      have z1312 := congrArg Int32.toInt z1304
                      have z1313 := congrArg Int32.toInt ef1309
                      have z1314 := congrArg Int32.toInt z1305
                      refine ev_aload_n rfl rfl rfl ?_
                      refine ev_aload_n rfl rfl rfl ?_
                      refine ev_getV (v := f1308) rfl rfl fl_X10_210 rfl rfl rfl ef1308 ?_
                      obtain ⟨t1315, et1315⟩ : ∃ f_, h1301 72 (Int32.toNatClampNeg f1308) = f_ := ⟨_, rfl⟩
                      have bt1315 : B t1315 0 255 := by have z_ := hJ1302.1 72 (Int32.toNatClampNeg f1308); rw [et1315] at z_; exact z_
                      have z1316 := congrArg Int32.toInt z1303
                      have z1317 := congrArg Int32.toInt ef1308
                      have z1318 := congrArg Int32.toInt z1304
                      have z1319 := congrArg Int32.toInt ef1309
                      have z1320 := congrArg Int32.toInt z1305
                      refine ev_V1P rfl rfl lk_X10_213 vt_X10_look rfl rfl rfl rfl rfl (w_X10_look_63 L b h1301 hJ1302.1 f1308 bf1308 t1315 et1315) (fun r1321 q1321 => ?_)
                      obtain ⟨b1321, pp1321_0, pp1321_1⟩ := q1321
                      refine ev_i2l rfl rfl ?_
                      have z1322 := Int32.toInt_toInt64 r1321
                      have z1322b := B.any r1321
                      refine ev_ldc2 (v := 48) rfl rfl kc_X10_226 ?_
                      refine ev_ldc2 (v := 57) rfl rfl kc_X10_228 ?_
                      have z1323 := congrArg Int32.toInt z1303
                      have z1324 := congrArg Int32.toInt ef1308
                      have z1325 := congrArg Int32.toInt z1304
                      have z1326 := congrArg Int32.toInt ef1309
                      have z1327 := congrArg Int32.toInt z1305
                      refine ev_S3P rfl rfl lk_X10_124 st_X10_in rfl rfl (w_inR (G0 L b) h1301 r1321 48 57 (by decide : BL 48 48 48) (by decide : BL 57 57 57)) (fun r1328 q1328 => ?_)
                      obtain ⟨b1328, p1328_0, pp1328_0, pp1328_1⟩ := q1328
                      refine ev_if_eq rfl rfl (fun c1329 => ?_) (fun c1329 => ?_)
                      · have b1330 : B r1328 0 0 := R_eqX b1328 (by decide : B 0 0 0) c1329
                        have z1331 := congrArg Int32.toInt c1329
                        rw [show (0 : Int32).toInt = 0 from by decide] at z1331
                        refine ev_aload_n rfl rfl rfl ?_
                        refine ev_aload_n rfl rfl rfl ?_
                        refine ev_getV (v := f1308) rfl rfl fl_X10_210 rfl rfl rfl ef1308 ?_
                        refine ev_aload_n rfl rfl rfl ?_
                        refine ev_getV (v := f1021) rfl rfl fl_X10_197 rfl rfl rfl z1307 ?_
                        refine ev_isubB (l := -160) (u := 160) rfl rfl bf1308 bf1021 (by decide) (by decide) (by decide) (by decide) (fun v1335 b1335 e1335 g1335 => ?_)
                        refine ev_iconst (v := 2) rfl rfl (by decide) ?_
                        refine ev_icmp_gt rfl rfl (fun c1336 => ?_) (fun c1336 => ?_)
                        · have b1337 : B v1335 3 160 := R_ltY (by decide : B 2 2 2) b1335 c1336 (by decide)
                          have z1338 := w_lt c1336
                          rw [show (2 : Int32).toInt = 2 from by decide] at z1338
                          refine ev_iconst (v := 0) rfl rfl (by decide) ?_
                          refine ev_iconst (v := 1) rfl rfl (by decide) ?_
                          have z1341 := congrArg Int32.toInt z1303
                          have z1342 := congrArg Int32.toInt ef1308
                          have z1343 := congrArg Int32.toInt z1304
                          have z1344 := congrArg Int32.toInt ef1309
                          have z1345 := congrArg Int32.toInt z1305
                          refine ev_V2K hJ1302 rfl rfl rfl lk_X10_230 vt_X10_wants rfl rfl rfl rfl rfl (w_X10_wants_63 L b h1301 hJ1302.1 0 ((by decide : B 0 0 0).mono (by decide) (by decide)) 1 ((by decide : B 1 1 1).mono (by decide) (by decide))) (fun h1346 hJ1346 k1346 m1346 => ?_)
                          obtain ⟨f1347, ef1347⟩ : ∃ f_, h1346 63 21 = f_ := ⟨_, rfl⟩
                          have bf1347 : B f1347 0 6 := by have z_ := hJ1346.1 63 21; rw [ef1347] at z_; exact z_
                          have zf1347 := congrArg Int32.toInt ef1347
                          have z1348 := congrArg Int32.toInt (rd_w k1346 z1303 rfl)
                          have z1349 := congrArg Int32.toInt (rd_w k1346 ef1308 rfl)
                          have z1350 := congrArg Int32.toInt ef1347
                          have z1351 := congrArg Int32.toInt (rd_w k1346 ef1309 rfl)
                          have z1352 := congrArg Int32.toInt (rd_w k1346 z1305 rfl)
                          refine ev_goto rfl rfl ?_
                          exact ev_vret rfl rfl trivial ⟨rfl, rfl, hJ1346, (by have z0_ := congrArg Int32.toInt (rd_w k1346 z1303 rfl); have z1_ := congrArg Int32.toInt (rd_w k1346 ef1308 rfl); have z2_ := congrArg Int32.toInt ef1347; have z3_ := congrArg Int32.toInt (rd_w k1346 ef1309 rfl); have z4_ := congrArg Int32.toInt (rd_w k1346 z1305 rfl); have z_ := w_lits; have zl_ := l_lits; omega), (by have z0_ := congrArg Int32.toInt (rd_w k1346 z1303 rfl); have z1_ := congrArg Int32.toInt (rd_w k1346 ef1308 rfl); have z2_ := congrArg Int32.toInt ef1347; have z3_ := congrArg Int32.toInt (rd_w k1346 ef1309 rfl); have z4_ := congrArg Int32.toInt (rd_w k1346 z1305 rfl); have z_ := w_lits; have zl_ := l_lits; omega), (by have z0_ := congrArg Int32.toInt (rd_w k1346 z1303 rfl); have z1_ := congrArg Int32.toInt (rd_w k1346 ef1308 rfl); have z2_ := congrArg Int32.toInt ef1347; have z3_ := congrArg Int32.toInt (rd_w k1346 ef1309 rfl); have z4_ := congrArg Int32.toInt (rd_w k1346 z1305 rfl); have z_ := w_lits; have zl_ := l_lits; omega), (by have z0_ := congrArg Int32.toInt (rd_w k1346 z1303 rfl); have z1_ := congrArg Int32.toInt (rd_w k1346 ef1308 rfl); have z2_ := congrArg Int32.toInt ef1347; have z3_ := congrArg Int32.toInt (rd_w k1346 ef1309 rfl); have z4_ := congrArg Int32.toInt (rd_w k1346 z1305 rfl); have z_ := w_lits; have zl_ := l_lits; omega), (by have z0_ := congrArg Int32.toInt (rd_w k1346 z1303 rfl); have z1_ := congrArg Int32.toInt (rd_w k1346 ef1308 rfl); have z2_ := congrArg Int32.toInt ef1347; have z3_ := congrArg Int32.toInt (rd_w k1346 ef1309 rfl); have z4_ := congrArg Int32.toInt (rd_w k1346 z1305 rfl); have z_ := w_lits; have zl_ := l_lits; omega)⟩
                        · have b1339 : B v1335 (-160) 2 := R_leX b1335 (by decide : B 2 2 2) (Int32.not_lt.mp c1336) (by decide)
                          have z1340 := w_le (Int32.not_lt.mp c1336)
                          rw [show (2 : Int32).toInt = 2 from by decide] at z1340
                          refine ev_iconst (v := 1) rfl rfl (by decide) ?_
                          refine ev_goto rfl rfl ?_
                          refine ev_iconst (v := 1) rfl rfl (by decide) ?_
                          have z1353 := congrArg Int32.toInt z1303
                          have z1354 := congrArg Int32.toInt ef1308
                          have z1355 := congrArg Int32.toInt z1304
                          have z1356 := congrArg Int32.toInt ef1309
                          have z1357 := congrArg Int32.toInt z1305
                          refine ev_V2K hJ1302 rfl rfl rfl lk_X10_230 vt_X10_wants rfl rfl rfl rfl rfl (w_X10_wants_63 L b h1301 hJ1302.1 1 ((by decide : B 1 1 1).mono (by decide) (by decide)) 1 ((by decide : B 1 1 1).mono (by decide) (by decide))) (fun h1358 hJ1358 k1358 m1358 => ?_)
                          obtain ⟨f1359, ef1359⟩ : ∃ f_, h1358 63 21 = f_ := ⟨_, rfl⟩
                          have bf1359 : B f1359 0 6 := by have z_ := hJ1358.1 63 21; rw [ef1359] at z_; exact z_
                          have zf1359 := congrArg Int32.toInt ef1359
                          have z1360 := congrArg Int32.toInt (rd_w k1358 z1303 rfl)
                          have z1361 := congrArg Int32.toInt (rd_w k1358 ef1308 rfl)
                          have z1362 := congrArg Int32.toInt ef1359
                          have z1363 := congrArg Int32.toInt (rd_w k1358 ef1309 rfl)
                          have z1364 := congrArg Int32.toInt (rd_w k1358 z1305 rfl)
                          refine ev_goto rfl rfl ?_
                          exact ev_vret rfl rfl trivial ⟨rfl, rfl, hJ1358, (by have z0_ := congrArg Int32.toInt (rd_w k1358 z1303 rfl); have z1_ := congrArg Int32.toInt (rd_w k1358 ef1308 rfl); have z2_ := congrArg Int32.toInt ef1359; have z3_ := congrArg Int32.toInt (rd_w k1358 ef1309 rfl); have z4_ := congrArg Int32.toInt (rd_w k1358 z1305 rfl); have z_ := w_lits; have zl_ := l_lits; omega), (by have z0_ := congrArg Int32.toInt (rd_w k1358 z1303 rfl); have z1_ := congrArg Int32.toInt (rd_w k1358 ef1308 rfl); have z2_ := congrArg Int32.toInt ef1359; have z3_ := congrArg Int32.toInt (rd_w k1358 ef1309 rfl); have z4_ := congrArg Int32.toInt (rd_w k1358 z1305 rfl); have z_ := w_lits; have zl_ := l_lits; omega), (by have z0_ := congrArg Int32.toInt (rd_w k1358 z1303 rfl); have z1_ := congrArg Int32.toInt (rd_w k1358 ef1308 rfl); have z2_ := congrArg Int32.toInt ef1359; have z3_ := congrArg Int32.toInt (rd_w k1358 ef1309 rfl); have z4_ := congrArg Int32.toInt (rd_w k1358 z1305 rfl); have z_ := w_lits; have zl_ := l_lits; omega), (by have z0_ := congrArg Int32.toInt (rd_w k1358 z1303 rfl); have z1_ := congrArg Int32.toInt (rd_w k1358 ef1308 rfl); have z2_ := congrArg Int32.toInt ef1359; have z3_ := congrArg Int32.toInt (rd_w k1358 ef1309 rfl); have z4_ := congrArg Int32.toInt (rd_w k1358 z1305 rfl); have z_ := w_lits; have zl_ := l_lits; omega), (by have z0_ := congrArg Int32.toInt (rd_w k1358 z1303 rfl); have z1_ := congrArg Int32.toInt (rd_w k1358 ef1308 rfl); have z2_ := congrArg Int32.toInt ef1359; have z3_ := congrArg Int32.toInt (rd_w k1358 ef1309 rfl); have z4_ := congrArg Int32.toInt (rd_w k1358 z1305 rfl); have z_ := w_lits; have zl_ := l_lits; omega)⟩
                      · have b1332 : B r1328 1 1 := R_neL b1328 (by decide : B 0 0 0) c1329 (by decide)
                        have b1333 : B r1321 48 57 := p1328_0 c1329
                        have z1334 := w_ne c1329
                        rw [show (0 : Int32).toInt = 0 from by decide] at z1334
                        refine ev_aload_n rfl rfl rfl ?_
                        refine ev_aload_n rfl rfl rfl ?_
                        refine ev_getV (v := f1308) rfl rfl fl_X10_210 rfl rfl rfl ef1308 ?_
                        refine ev_aload_n rfl rfl rfl ?_
                        refine ev_getV (v := f1021) rfl rfl fl_X10_197 rfl rfl rfl z1307 ?_
                        refine ev_isubB (l := -160) (u := 160) rfl rfl bf1308 bf1021 (by decide) (by decide) (by decide) (by decide) (fun v1365 b1365 e1365 g1365 => ?_)
                        refine ev_iconst (v := 2) rfl rfl (by decide) ?_
                        refine ev_icmp_ge rfl rfl (fun c1366 => ?_) (fun c1366 => ?_)
                        · have b1367 : B v1365 2 160 := R_leY (by decide : B 2 2 2) b1365 c1366 (by decide)
                          have z1368 := w_le c1366
                          rw [show (2 : Int32).toInt = 2 from by decide] at z1368
                          refine ev_aload_n rfl rfl rfl ?_
                          refine ev_getV (v := f1309) rfl rfl fl_X10_207 rfl rfl rfl ef1309 ?_
                          refine ev_putW (l := (-2147483648)) (u := 2147483647) hJ1302 rfl bf1309 (by decide) (by decide) rfl rfl rfl fl_X10_207 rfl rfl rfl rfl rfl (fun h1371 hJ1371 k1371 => ?_)
                          refine ev_aload_n rfl rfl rfl ?_
                          refine ev_dup rfl rfl rfl ?_
                          refine ev_getV (v := f1308) rfl rfl fl_X10_210 rfl rfl rfl (rd_o k1371 ef1308 rfl) ?_
                          refine ev_iconst (v := 1) rfl rfl (by decide) ?_
                          refine ev_iaddB (l := 1) (u := 161) rfl rfl bf1308 (by decide : B 1 1 1) (by decide) (by decide) (by decide) (by decide) (fun v1372 b1372 e1372 g1372 => ?_)
                          have e1372x := e1372; rw [show (1 : Int32).toInt = 1 from by decide] at e1372x
                          have b1373 : B v1372 0 160 := ⟨(by have z0_ := congrArg Int32.toInt (rd_o k1371 z1303 rfl); have z1_ := congrArg Int32.toInt (rd_o k1371 ef1308 rfl); have z2_ := congrArg Int32.toInt (rd_o k1371 z1304 rfl); have z3_ := congrArg Int32.toInt (rd_s k1371); have z4_ := congrArg Int32.toInt (rd_o k1371 z1305 rfl); have z_ := w_lits; have zl_ := l_lits; omega), (by have z0_ := congrArg Int32.toInt (rd_o k1371 z1303 rfl); have z1_ := congrArg Int32.toInt (rd_o k1371 ef1308 rfl); have z2_ := congrArg Int32.toInt (rd_o k1371 z1304 rfl); have z3_ := congrArg Int32.toInt (rd_s k1371); have z4_ := congrArg Int32.toInt (rd_o k1371 z1305 rfl); have z_ := w_lits; have zl_ := l_lits; omega)⟩
                          refine ev_putW (l := 0) (u := 160) hJ1371 rfl b1373 (by decide) (by decide) rfl rfl rfl fl_X10_210 rfl rfl rfl rfl rfl (fun h1374 hJ1374 k1374 => ?_)
                          refine ev_goto rfl rfl ?_
                          exact (ih108 h1374 hJ1374 (rd_o k1374 (rd_o k1371 z1303 rfl) rfl) (rd_o k1374 (rd_o k1371 z1304 rfl) rfl) (rd_o k1374 (rd_o k1371 z1305 rfl) rfl) (rd_o k1374 (rd_o k1371 z1306 rfl) rfl) (rd_o k1374 (rd_o k1371 z1307 rfl) rfl) (by have z0_ := congrArg Int32.toInt (rd_o k1374 (rd_o k1371 z1303 rfl) rfl); have z1_ := congrArg Int32.toInt (rd_s k1374); have z2_ := congrArg Int32.toInt (rd_o k1374 (rd_o k1371 z1304 rfl) rfl); have z3_ := congrArg Int32.toInt (rd_o k1374 (rd_s k1371) rfl); have z4_ := congrArg Int32.toInt (rd_o k1374 (rd_o k1371 z1305 rfl) rfl); have z_ := w_lits; have zl_ := l_lits; omega) (by have z0_ := congrArg Int32.toInt (rd_o k1374 (rd_o k1371 z1303 rfl) rfl); have z1_ := congrArg Int32.toInt (rd_s k1374); have z2_ := congrArg Int32.toInt (rd_o k1374 (rd_o k1371 z1304 rfl) rfl); have z3_ := congrArg Int32.toInt (rd_o k1374 (rd_s k1371) rfl); have z4_ := congrArg Int32.toInt (rd_o k1374 (rd_o k1371 z1305 rfl) rfl); have z_ := w_lits; have zl_ := l_lits; omega) (by rw [(rd_s k1374)]; exact L_up hm108 (e_p1 e1372 (by decide))))
                        · have b1369 : B v1365 (-160) 1 := R_ltX b1365 (by decide : B 2 2 2) (Int32.not_le.mp c1366) (by decide)
                          have z1370 := w_lt (Int32.not_le.mp c1366)
                          rw [show (2 : Int32).toInt = 2 from by decide] at z1370
                          refine ev_bipush (v := 10) rfl rfl (by decide) ?_
                          refine ev_aload_n rfl rfl rfl ?_
                          refine ev_getV (v := f1309) rfl rfl fl_X10_207 rfl rfl rfl ef1309 ?_
                          refine ev_imulA rfl rfl (fun v1375 => ?_)
                          refine ev_aload_n rfl rfl rfl ?_
                          refine ev_aload_n rfl rfl rfl ?_
                          refine ev_getV (v := f1308) rfl rfl fl_X10_210 rfl rfl rfl ef1308 ?_
                          have z1376 := congrArg Int32.toInt z1303
                          have z1377 := congrArg Int32.toInt ef1308
                          have z1378 := congrArg Int32.toInt z1304
                          have z1379 := congrArg Int32.toInt ef1309
                          have z1380 := congrArg Int32.toInt z1305
                          refine ev_V1P rfl rfl lk_X10_213 vt_X10_look rfl rfl rfl rfl rfl (w_X10_look_63 L b h1301 hJ1302.1 f1308 bf1308 t1315 et1315) (fun r1381 q1381 => ?_)
                          obtain ⟨b1381, pp1381_0, pp1381_1⟩ := q1381
                          refine ev_iaddA rfl rfl (fun v1382 g1382 => ?_)
                          refine ev_bipush (v := 48) rfl rfl (by decide) ?_
                          refine ev_isubA rfl rfl (fun v1383 g1383 => ?_)
                          refine ev_goto rfl rfl ?_
                          refine ev_putW (l := (-2147483648)) (u := 2147483647) hJ1302 rfl (B.any v1383) (by decide) (by decide) rfl rfl rfl fl_X10_207 rfl rfl rfl rfl rfl (fun h1384 hJ1384 k1384 => ?_)
                          refine ev_aload_n rfl rfl rfl ?_
                          refine ev_dup rfl rfl rfl ?_
                          refine ev_getV (v := f1308) rfl rfl fl_X10_210 rfl rfl rfl (rd_o k1384 ef1308 rfl) ?_
                          refine ev_iconst (v := 1) rfl rfl (by decide) ?_
                          refine ev_iaddB (l := 1) (u := 161) rfl rfl bf1308 (by decide : B 1 1 1) (by decide) (by decide) (by decide) (by decide) (fun v1385 b1385 e1385 g1385 => ?_)
                          have e1385x := e1385; rw [show (1 : Int32).toInt = 1 from by decide] at e1385x
                          have b1386 : B v1385 0 160 := ⟨(by have z0_ := congrArg Int32.toInt (rd_o k1384 z1303 rfl); have z1_ := congrArg Int32.toInt (rd_o k1384 ef1308 rfl); have z2_ := congrArg Int32.toInt (rd_o k1384 z1304 rfl); have z3_ := congrArg Int32.toInt (rd_s k1384); have z4_ := congrArg Int32.toInt (rd_o k1384 z1305 rfl); have z_ := w_lits; have zl_ := l_lits; omega), (by have z0_ := congrArg Int32.toInt (rd_o k1384 z1303 rfl); have z1_ := congrArg Int32.toInt (rd_o k1384 ef1308 rfl); have z2_ := congrArg Int32.toInt (rd_o k1384 z1304 rfl); have z3_ := congrArg Int32.toInt (rd_s k1384); have z4_ := congrArg Int32.toInt (rd_o k1384 z1305 rfl); have z_ := w_lits; have zl_ := l_lits; omega)⟩
                          refine ev_putW (l := 0) (u := 160) hJ1384 rfl b1386 (by decide) (by decide) rfl rfl rfl fl_X10_210 rfl rfl rfl rfl rfl (fun h1387 hJ1387 k1387 => ?_)
                          refine ev_goto rfl rfl ?_
                          exact (ih108 h1387 hJ1387 (rd_o k1387 (rd_o k1384 z1303 rfl) rfl) (rd_o k1387 (rd_o k1384 z1304 rfl) rfl) (rd_o k1387 (rd_o k1384 z1305 rfl) rfl) (rd_o k1387 (rd_o k1384 z1306 rfl) rfl) (rd_o k1387 (rd_o k1384 z1307 rfl) rfl) (by have z0_ := congrArg Int32.toInt (rd_o k1387 (rd_o k1384 z1303 rfl) rfl); have z1_ := congrArg Int32.toInt (rd_s k1387); have z2_ := congrArg Int32.toInt (rd_o k1387 (rd_o k1384 z1304 rfl) rfl); have z3_ := congrArg Int32.toInt (rd_o k1387 (rd_s k1384) rfl); have z4_ := congrArg Int32.toInt (rd_o k1387 (rd_o k1384 z1305 rfl) rfl); have z_ := w_lits; have zl_ := l_lits; omega) (by have z0_ := congrArg Int32.toInt (rd_o k1387 (rd_o k1384 z1303 rfl) rfl); have z1_ := congrArg Int32.toInt (rd_s k1387); have z2_ := congrArg Int32.toInt (rd_o k1387 (rd_o k1384 z1304 rfl) rfl); have z3_ := congrArg Int32.toInt (rd_o k1387 (rd_s k1384) rfl); have z4_ := congrArg Int32.toInt (rd_o k1387 (rd_o k1384 z1305 rfl) rfl); have z_ := w_lits; have zl_ := l_lits; omega) (by rw [(rd_s k1387)]; exact L_up hm108 (e_p1 e1385 (by decide))))
                  exact (lp108_1300 161 h1180 hJ1180 (rd_o k1180 (rd_o k1177 (rd_o k1151 (rd_o k1150 (rd_o k1038 z1017 rfl) rfl) rfl) rfl) rfl) (rd_o k1180 (rd_o k1177 (rd_o k1151 (rd_o k1150 (rd_o k1038 z1018 rfl) rfl) rfl) rfl) rfl) (rd_o k1180 (rd_o k1177 (rd_o k1151 (rd_s k1150) rfl) rfl) rfl) (rd_o k1180 (rd_o k1177 (rd_o k1151 (rd_o k1150 (rd_o k1038 et1027 rfl) rfl) rfl) rfl) rfl) (rd_o k1180 (rd_o k1177 (rd_o k1151 (rd_o k1150 (rd_s k1038) rfl) rfl) rfl) rfl) (by have z0_ := congrArg Int32.toInt (rd_o k1180 (rd_o k1177 (rd_o k1151 (rd_o k1150 (rd_o k1038 z1017 rfl) rfl) rfl) rfl) rfl); have z1_ := congrArg Int32.toInt (rd_s k1180); have z2_ := congrArg Int32.toInt (rd_o k1180 (rd_o k1177 (rd_o k1151 (rd_o k1150 (rd_o k1038 z1018 rfl) rfl) rfl) rfl) rfl); have z3_ := congrArg Int32.toInt (rd_o k1180 (rd_s k1177) rfl); have z4_ := congrArg Int32.toInt (rd_o k1180 (rd_o k1177 (rd_o k1151 (rd_s k1150) rfl) rfl) rfl); have z_ := w_lits; have zl_ := l_lits; omega) (by have z0_ := congrArg Int32.toInt (rd_o k1180 (rd_o k1177 (rd_o k1151 (rd_o k1150 (rd_o k1038 z1017 rfl) rfl) rfl) rfl) rfl); have z1_ := congrArg Int32.toInt (rd_s k1180); have z2_ := congrArg Int32.toInt (rd_o k1180 (rd_o k1177 (rd_o k1151 (rd_o k1150 (rd_o k1038 z1018 rfl) rfl) rfl) rfl) rfl); have z3_ := congrArg Int32.toInt (rd_o k1180 (rd_s k1177) rfl); have z4_ := congrArg Int32.toInt (rd_o k1180 (rd_o k1177 (rd_o k1151 (rd_s k1150) rfl) rfl) rfl); have z_ := w_lits; have zl_ := l_lits; omega) (by rw [(rd_s k1180)]; exact L_init b1179 (by decide)))
                · have b1175 : B v1171 (-160) 1 := R_ltX b1171 (by decide : B 2 2 2) (Int32.not_le.mp c1172) (by decide)
                  have z1176 := w_lt (Int32.not_le.mp c1172)
                  rw [show (2 : Int32).toInt = 2 from by decide] at z1176
                  refine ev_bipush (v := 10) rfl rfl (by decide) ?_
                  refine ev_aload_n rfl rfl rfl ?_
                  refine ev_getV (v := 0) rfl rfl fl_X10_207 rfl rfl rfl (rd_s k1151) ?_
                  refine ev_imulB (l := 0) (u := 0) rfl rfl (by decide : B 10 10 10) (by decide : B 0 0 0) (by decide) (by decide) (by decide) (by decide) (by decide) (fun v1388 b1388 e1388 g1388 => ?_)
                  rw [show (0 : Int32).toInt = 0 from by decide] at e1388
                  refine ev_aload_n rfl rfl rfl ?_
                  refine ev_aload_n rfl rfl rfl ?_
                  refine ev_getV (v := f1021) rfl rfl fl_X10_210 rfl rfl rfl (rd_o k1151 (rd_o k1150 (rd_o k1038 ef1021 rfl) rfl) rfl) ?_
                  have z1389 := congrArg Int32.toInt (rd_o k1151 (rd_o k1150 (rd_o k1038 z1017 rfl) rfl) rfl)
                  have z1390 := congrArg Int32.toInt (rd_o k1151 (rd_o k1150 (rd_o k1038 ef1021 rfl) rfl) rfl)
                  have z1391 := congrArg Int32.toInt (rd_o k1151 (rd_o k1150 (rd_o k1038 z1018 rfl) rfl) rfl)
                  have z1392 := congrArg Int32.toInt (rd_s k1151)
                  have z1393 := congrArg Int32.toInt (rd_o k1151 (rd_s k1150) rfl)
                  refine ev_V1P rfl rfl lk_X10_213 vt_X10_look rfl rfl rfl rfl rfl (w_X10_look_63 L b h1151 hJ1151.1 f1021 bf1021 t1027 (rd_o k1151 (rd_o k1150 (rd_o k1038 et1027 rfl) rfl) rfl)) (fun r1394 q1394 => ?_)
                  obtain ⟨b1394, pp1394_0, pp1394_1⟩ := q1394
                  refine ev_iaddB (l := -1) (u := 255) rfl rfl b1388 b1394 (by decide) (by decide) (by decide) (by decide) (fun v1395 b1395 e1395 g1395 => ?_)
                  refine ev_bipush (v := 48) rfl rfl (by decide) ?_
                  refine ev_isubB (l := -49) (u := 207) rfl rfl b1395 (by decide : B 48 48 48) (by decide) (by decide) (by decide) (by decide) (fun v1396 b1396 e1396 g1396 => ?_)
                  have e1396x := e1396; rw [show (48 : Int32).toInt = 48 from by decide] at e1396x
                  refine ev_goto rfl rfl ?_
                  refine ev_putW (l := (-2147483648)) (u := 2147483647) hJ1151 rfl b1396 (by decide) (by decide) rfl rfl rfl fl_X10_207 rfl rfl rfl rfl rfl (fun h1397 hJ1397 k1397 => ?_)
                  refine ev_aload_n rfl rfl rfl ?_
                  refine ev_dup rfl rfl rfl ?_
                  refine ev_getV (v := f1021) rfl rfl fl_X10_210 rfl rfl rfl (rd_o k1397 (rd_o k1151 (rd_o k1150 (rd_o k1038 ef1021 rfl) rfl) rfl) rfl) ?_
                  refine ev_iconst (v := 1) rfl rfl (by decide) ?_
                  refine ev_iaddB (l := 1) (u := 161) rfl rfl bf1021 (by decide : B 1 1 1) (by decide) (by decide) (by decide) (by decide) (fun v1398 b1398 e1398 g1398 => ?_)
                  have e1398x := e1398; rw [show (1 : Int32).toInt = 1 from by decide] at e1398x
                  have b1399 : B v1398 0 160 := ⟨(by have z0_ := congrArg Int32.toInt (rd_o k1397 (rd_o k1151 (rd_o k1150 (rd_o k1038 z1017 rfl) rfl) rfl) rfl); have z1_ := congrArg Int32.toInt (rd_o k1397 (rd_o k1151 (rd_o k1150 (rd_o k1038 ef1021 rfl) rfl) rfl) rfl); have z2_ := congrArg Int32.toInt (rd_o k1397 (rd_o k1151 (rd_o k1150 (rd_o k1038 z1018 rfl) rfl) rfl) rfl); have z3_ := congrArg Int32.toInt (rd_s k1397); have z4_ := congrArg Int32.toInt (rd_o k1397 (rd_o k1151 (rd_s k1150) rfl) rfl); have z_ := w_lits; have zl_ := l_lits; omega), (by have z0_ := congrArg Int32.toInt (rd_o k1397 (rd_o k1151 (rd_o k1150 (rd_o k1038 z1017 rfl) rfl) rfl) rfl); have z1_ := congrArg Int32.toInt (rd_o k1397 (rd_o k1151 (rd_o k1150 (rd_o k1038 ef1021 rfl) rfl) rfl) rfl); have z2_ := congrArg Int32.toInt (rd_o k1397 (rd_o k1151 (rd_o k1150 (rd_o k1038 z1018 rfl) rfl) rfl) rfl); have z3_ := congrArg Int32.toInt (rd_s k1397); have z4_ := congrArg Int32.toInt (rd_o k1397 (rd_o k1151 (rd_s k1150) rfl) rfl); have z_ := w_lits; have zl_ := l_lits; omega)⟩
                  refine ev_putW (l := 0) (u := 160) hJ1397 rfl b1399 (by decide) (by decide) rfl rfl rfl fl_X10_210 rfl rfl rfl rfl rfl (fun h1400 hJ1400 k1400 => ?_)
                  refine ev_goto rfl rfl ?_
                  have lp108_1520 : ∀ (n : Nat) (h1521 : Hp), JW [(63, 17), (63, 18), (63, 19), (63, 20), (63, 21), (63, 22)] h h1521 → (h1521 63 16 = f1) → (h1521 63 21 = f3) → (h1521 63 19 = 2) → (h1521 72 (Int32.toNatClampNeg f1021) = t1027) → (h1521 63 18 = f1021) → ((h1521 63 17).toInt ≤ (h1521 63 16).toInt) → ((h 63 17).toInt + 1 ≤ (h1521 63 17).toInt) → 160 + 1 - (h1521 63 17).toInt ≤ (n : Int) → EvQ mi_X10_next 108 [some (.ref 63), some (.int r1044)] [] (G0 L b) h1521 0 0 (QK (fun z : Hp => ((z 63 17).toInt ≤ (z 63 16).toInt) ∧ ((z 63 21).toInt = 0 → (h 63 21).toInt = 0) ∧ ((¬ (z 63 21).toInt = 0) ∨ (z 63 19).toInt = 0 ∨ (h 63 17).toInt + 1 ≤ (z 63 17).toInt) ∧ ((h 63 17).toInt ≤ (z 63 17).toInt) ∧ ((z 63 21).toInt = 0 → (z 63 19).toInt = 1 → 0 ≤ (z 63 20).toInt ∧ (z 63 20).toInt ≤ 4095)) [(63, 17), (63, 18), (63, 19), (63, 20), (63, 21), (63, 22)] (G0 L b) h) := by
                    intro n
                    induction n with
                    | zero =>
                      intro h1521 hJ1522 z1523 z1524 z1525 z1526 z1527 y108_0 y108_1 hm108
                      obtain ⟨f1528, ef1528⟩ : ∃ f_, h1521 63 17 = f_ := ⟨_, rfl⟩
                      have bf1528 : B f1528 0 160 := by
                        have z_ := hJ1522.1 63 17
                        rw [ef1528] at z_
                        exact z_
                      rw [ef1528] at hm108
                      exact absurd hm108 (L_zero bf1528 (by decide))
                    | succ n ih108 =>
                      intro h1521 hJ1522 z1523 z1524 z1525 z1526 z1527 y108_0 y108_1 hm108
                      obtain ⟨f1528, ef1528⟩ : ∃ f_, h1521 63 17 = f_ := ⟨_, rfl⟩
                      have bf1528 : B f1528 0 160 := by
                        have z_ := hJ1522.1 63 17
                        rw [ef1528] at z_
                        exact z_
                      rw [ef1528] at hm108
                      obtain ⟨f1529, ef1529⟩ : ∃ f_, h1521 63 20 = f_ := ⟨_, rfl⟩
                      have bf1529 : B f1529 (-2147483648) 2147483647 := by have z_ := hJ1522.1 63 20; rw [ef1529] at z_; exact z_
                      have zf1529 := congrArg Int32.toInt ef1529
                      have z1530 := congrArg Int32.toInt z1523
                      have z1531 := congrArg Int32.toInt ef1528
                      have z1532 := congrArg Int32.toInt z1524
                      have z1533 := congrArg Int32.toInt ef1529
                      have z1534 := congrArg Int32.toInt z1525
                      refine ev_aload_n rfl rfl rfl ?_
                      refine ev_aload_n rfl rfl rfl ?_
                      refine ev_getV (v := f1528) rfl rfl fl_X10_210 rfl rfl rfl ef1528 ?_
                      obtain ⟨t1535, et1535⟩ : ∃ f_, h1521 72 (Int32.toNatClampNeg f1528) = f_ := ⟨_, rfl⟩
                      have bt1535 : B t1535 0 255 := by have z_ := hJ1522.1 72 (Int32.toNatClampNeg f1528); rw [et1535] at z_; exact z_
                      have z1536 := congrArg Int32.toInt z1523
                      have z1537 := congrArg Int32.toInt ef1528
                      have z1538 := congrArg Int32.toInt z1524
                      have z1539 := congrArg Int32.toInt ef1529
                      have z1540 := congrArg Int32.toInt z1525
                      refine ev_V1P rfl rfl lk_X10_213 vt_X10_look rfl rfl rfl rfl rfl (w_X10_look_63 L b h1521 hJ1522.1 f1528 bf1528 t1535 et1535) (fun r1541 q1541 => ?_)
                      obtain ⟨b1541, pp1541_0, pp1541_1⟩ := q1541
                      refine ev_i2l rfl rfl ?_
                      have z1542 := Int32.toInt_toInt64 r1541
                      have z1542b := B.any r1541
                      refine ev_ldc2 (v := 48) rfl rfl kc_X10_226 ?_
                      refine ev_ldc2 (v := 57) rfl rfl kc_X10_228 ?_
                      have z1543 := congrArg Int32.toInt z1523
                      have z1544 := congrArg Int32.toInt ef1528
                      have z1545 := congrArg Int32.toInt z1524
                      have z1546 := congrArg Int32.toInt ef1529
                      have z1547 := congrArg Int32.toInt z1525
                      refine ev_S3P rfl rfl lk_X10_124 st_X10_in rfl rfl (w_inR (G0 L b) h1521 r1541 48 57 (by decide : BL 48 48 48) (by decide : BL 57 57 57)) (fun r1548 q1548 => ?_)
                      obtain ⟨b1548, p1548_0, pp1548_0, pp1548_1⟩ := q1548
                      refine ev_if_eq rfl rfl (fun c1549 => ?_) (fun c1549 => ?_)
                      · have b1550 : B r1548 0 0 := R_eqX b1548 (by decide : B 0 0 0) c1549
                        have z1551 := congrArg Int32.toInt c1549
                        rw [show (0 : Int32).toInt = 0 from by decide] at z1551
                        refine ev_aload_n rfl rfl rfl ?_
                        refine ev_aload_n rfl rfl rfl ?_
                        refine ev_getV (v := f1528) rfl rfl fl_X10_210 rfl rfl rfl ef1528 ?_
                        refine ev_aload_n rfl rfl rfl ?_
                        refine ev_getV (v := f1021) rfl rfl fl_X10_197 rfl rfl rfl z1527 ?_
                        refine ev_isubB (l := -160) (u := 160) rfl rfl bf1528 bf1021 (by decide) (by decide) (by decide) (by decide) (fun v1555 b1555 e1555 g1555 => ?_)
                        refine ev_iconst (v := 2) rfl rfl (by decide) ?_
                        refine ev_icmp_gt rfl rfl (fun c1556 => ?_) (fun c1556 => ?_)
                        · have b1557 : B v1555 3 160 := R_ltY (by decide : B 2 2 2) b1555 c1556 (by decide)
                          have z1558 := w_lt c1556
                          rw [show (2 : Int32).toInt = 2 from by decide] at z1558
                          refine ev_iconst (v := 0) rfl rfl (by decide) ?_
                          refine ev_iconst (v := 1) rfl rfl (by decide) ?_
                          have z1561 := congrArg Int32.toInt z1523
                          have z1562 := congrArg Int32.toInt ef1528
                          have z1563 := congrArg Int32.toInt z1524
                          have z1564 := congrArg Int32.toInt ef1529
                          have z1565 := congrArg Int32.toInt z1525
                          refine ev_V2K hJ1522 rfl rfl rfl lk_X10_230 vt_X10_wants rfl rfl rfl rfl rfl (w_X10_wants_63 L b h1521 hJ1522.1 0 ((by decide : B 0 0 0).mono (by decide) (by decide)) 1 ((by decide : B 1 1 1).mono (by decide) (by decide))) (fun h1566 hJ1566 k1566 m1566 => ?_)
                          obtain ⟨f1567, ef1567⟩ : ∃ f_, h1566 63 21 = f_ := ⟨_, rfl⟩
                          have bf1567 : B f1567 0 6 := by have z_ := hJ1566.1 63 21; rw [ef1567] at z_; exact z_
                          have zf1567 := congrArg Int32.toInt ef1567
                          have z1568 := congrArg Int32.toInt (rd_w k1566 z1523 rfl)
                          have z1569 := congrArg Int32.toInt (rd_w k1566 ef1528 rfl)
                          have z1570 := congrArg Int32.toInt ef1567
                          have z1571 := congrArg Int32.toInt (rd_w k1566 ef1529 rfl)
                          have z1572 := congrArg Int32.toInt (rd_w k1566 z1525 rfl)
                          refine ev_goto rfl rfl ?_
                          exact ev_vret rfl rfl trivial ⟨rfl, rfl, hJ1566, (by have z0_ := congrArg Int32.toInt (rd_w k1566 z1523 rfl); have z1_ := congrArg Int32.toInt (rd_w k1566 ef1528 rfl); have z2_ := congrArg Int32.toInt ef1567; have z3_ := congrArg Int32.toInt (rd_w k1566 ef1529 rfl); have z4_ := congrArg Int32.toInt (rd_w k1566 z1525 rfl); have z_ := w_lits; have zl_ := l_lits; omega), (by have z0_ := congrArg Int32.toInt (rd_w k1566 z1523 rfl); have z1_ := congrArg Int32.toInt (rd_w k1566 ef1528 rfl); have z2_ := congrArg Int32.toInt ef1567; have z3_ := congrArg Int32.toInt (rd_w k1566 ef1529 rfl); have z4_ := congrArg Int32.toInt (rd_w k1566 z1525 rfl); have z_ := w_lits; have zl_ := l_lits; omega), (by have z0_ := congrArg Int32.toInt (rd_w k1566 z1523 rfl); have z1_ := congrArg Int32.toInt (rd_w k1566 ef1528 rfl); have z2_ := congrArg Int32.toInt ef1567; have z3_ := congrArg Int32.toInt (rd_w k1566 ef1529 rfl); have z4_ := congrArg Int32.toInt (rd_w k1566 z1525 rfl); have z_ := w_lits; have zl_ := l_lits; omega), (by have z0_ := congrArg Int32.toInt (rd_w k1566 z1523 rfl); have z1_ := congrArg Int32.toInt (rd_w k1566 ef1528 rfl); have z2_ := congrArg Int32.toInt ef1567; have z3_ := congrArg Int32.toInt (rd_w k1566 ef1529 rfl); have z4_ := congrArg Int32.toInt (rd_w k1566 z1525 rfl); have z_ := w_lits; have zl_ := l_lits; omega), (by have z0_ := congrArg Int32.toInt (rd_w k1566 z1523 rfl); have z1_ := congrArg Int32.toInt (rd_w k1566 ef1528 rfl); have z2_ := congrArg Int32.toInt ef1567; have z3_ := congrArg Int32.toInt (rd_w k1566 ef1529 rfl); have z4_ := congrArg Int32.toInt (rd_w k1566 z1525 rfl); have z_ := w_lits; have zl_ := l_lits; omega)⟩
                        · have b1559 : B v1555 (-160) 2 := R_leX b1555 (by decide : B 2 2 2) (Int32.not_lt.mp c1556) (by decide)
                          have z1560 := w_le (Int32.not_lt.mp c1556)
                          rw [show (2 : Int32).toInt = 2 from by decide] at z1560
                          refine ev_iconst (v := 1) rfl rfl (by decide) ?_
                          refine ev_goto rfl rfl ?_
                          refine ev_iconst (v := 1) rfl rfl (by decide) ?_
                          have z1573 := congrArg Int32.toInt z1523
                          have z1574 := congrArg Int32.toInt ef1528
                          have z1575 := congrArg Int32.toInt z1524
                          have z1576 := congrArg Int32.toInt ef1529
                          have z1577 := congrArg Int32.toInt z1525
                          refine ev_V2K hJ1522 rfl rfl rfl lk_X10_230 vt_X10_wants rfl rfl rfl rfl rfl (w_X10_wants_63 L b h1521 hJ1522.1 1 ((by decide : B 1 1 1).mono (by decide) (by decide)) 1 ((by decide : B 1 1 1).mono (by decide) (by decide))) (fun h1578 hJ1578 k1578 m1578 => ?_)
                          obtain ⟨f1579, ef1579⟩ : ∃ f_, h1578 63 21 = f_ := ⟨_, rfl⟩
                          have bf1579 : B f1579 0 6 := by have z_ := hJ1578.1 63 21; rw [ef1579] at z_; exact z_
                          have zf1579 := congrArg Int32.toInt ef1579
                          have z1580 := congrArg Int32.toInt (rd_w k1578 z1523 rfl)
                          have z1581 := congrArg Int32.toInt (rd_w k1578 ef1528 rfl)
                          have z1582 := congrArg Int32.toInt ef1579
                          have z1583 := congrArg Int32.toInt (rd_w k1578 ef1529 rfl)
                          have z1584 := congrArg Int32.toInt (rd_w k1578 z1525 rfl)
                          refine ev_goto rfl rfl ?_
                          exact ev_vret rfl rfl trivial ⟨rfl, rfl, hJ1578, (by have z0_ := congrArg Int32.toInt (rd_w k1578 z1523 rfl); have z1_ := congrArg Int32.toInt (rd_w k1578 ef1528 rfl); have z2_ := congrArg Int32.toInt ef1579; have z3_ := congrArg Int32.toInt (rd_w k1578 ef1529 rfl); have z4_ := congrArg Int32.toInt (rd_w k1578 z1525 rfl); have z_ := w_lits; have zl_ := l_lits; omega), (by have z0_ := congrArg Int32.toInt (rd_w k1578 z1523 rfl); have z1_ := congrArg Int32.toInt (rd_w k1578 ef1528 rfl); have z2_ := congrArg Int32.toInt ef1579; have z3_ := congrArg Int32.toInt (rd_w k1578 ef1529 rfl); have z4_ := congrArg Int32.toInt (rd_w k1578 z1525 rfl); have z_ := w_lits; have zl_ := l_lits; omega), (by have z0_ := congrArg Int32.toInt (rd_w k1578 z1523 rfl); have z1_ := congrArg Int32.toInt (rd_w k1578 ef1528 rfl); have z2_ := congrArg Int32.toInt ef1579; have z3_ := congrArg Int32.toInt (rd_w k1578 ef1529 rfl); have z4_ := congrArg Int32.toInt (rd_w k1578 z1525 rfl); have z_ := w_lits; have zl_ := l_lits; omega), (by have z0_ := congrArg Int32.toInt (rd_w k1578 z1523 rfl); have z1_ := congrArg Int32.toInt (rd_w k1578 ef1528 rfl); have z2_ := congrArg Int32.toInt ef1579; have z3_ := congrArg Int32.toInt (rd_w k1578 ef1529 rfl); have z4_ := congrArg Int32.toInt (rd_w k1578 z1525 rfl); have z_ := w_lits; have zl_ := l_lits; omega), (by have z0_ := congrArg Int32.toInt (rd_w k1578 z1523 rfl); have z1_ := congrArg Int32.toInt (rd_w k1578 ef1528 rfl); have z2_ := congrArg Int32.toInt ef1579; have z3_ := congrArg Int32.toInt (rd_w k1578 ef1529 rfl); have z4_ := congrArg Int32.toInt (rd_w k1578 z1525 rfl); have z_ := w_lits; have zl_ := l_lits; omega)⟩
                      · have b1552 : B r1548 1 1 := R_neL b1548 (by decide : B 0 0 0) c1549 (by decide)
                        have b1553 : B r1541 48 57 := p1548_0 c1549
                        have z1554 := w_ne c1549
                        rw [show (0 : Int32).toInt = 0 from by decide] at z1554
                        refine ev_aload_n rfl rfl rfl ?_
                        refine ev_aload_n rfl rfl rfl ?_
                        refine ev_getV (v := f1528) rfl rfl fl_X10_210 rfl rfl rfl ef1528 ?_
                        refine ev_aload_n rfl rfl rfl ?_
                        refine ev_getV (v := f1021) rfl rfl fl_X10_197 rfl rfl rfl z1527 ?_
                        refine ev_isubB (l := -160) (u := 160) rfl rfl bf1528 bf1021 (by decide) (by decide) (by decide) (by decide) (fun v1585 b1585 e1585 g1585 => ?_)
                        refine ev_iconst (v := 2) rfl rfl (by decide) ?_
                        refine ev_icmp_ge rfl rfl (fun c1586 => ?_) (fun c1586 => ?_)
                        · have b1587 : B v1585 2 160 := R_leY (by decide : B 2 2 2) b1585 c1586 (by decide)
                          have z1588 := w_le c1586
                          rw [show (2 : Int32).toInt = 2 from by decide] at z1588
                          refine ev_aload_n rfl rfl rfl ?_
                          refine ev_getV (v := f1529) rfl rfl fl_X10_207 rfl rfl rfl ef1529 ?_
                          refine ev_putW (l := (-2147483648)) (u := 2147483647) hJ1522 rfl bf1529 (by decide) (by decide) rfl rfl rfl fl_X10_207 rfl rfl rfl rfl rfl (fun h1591 hJ1591 k1591 => ?_)
                          refine ev_aload_n rfl rfl rfl ?_
                          refine ev_dup rfl rfl rfl ?_
                          refine ev_getV (v := f1528) rfl rfl fl_X10_210 rfl rfl rfl (rd_o k1591 ef1528 rfl) ?_
                          refine ev_iconst (v := 1) rfl rfl (by decide) ?_
                          refine ev_iaddB (l := 1) (u := 161) rfl rfl bf1528 (by decide : B 1 1 1) (by decide) (by decide) (by decide) (by decide) (fun v1592 b1592 e1592 g1592 => ?_)
                          have e1592x := e1592; rw [show (1 : Int32).toInt = 1 from by decide] at e1592x
                          have b1593 : B v1592 0 160 := ⟨(by have z0_ := congrArg Int32.toInt (rd_o k1591 z1523 rfl); have z1_ := congrArg Int32.toInt (rd_o k1591 ef1528 rfl); have z2_ := congrArg Int32.toInt (rd_o k1591 z1524 rfl); have z3_ := congrArg Int32.toInt (rd_s k1591); have z4_ := congrArg Int32.toInt (rd_o k1591 z1525 rfl); have z_ := w_lits; have zl_ := l_lits; omega), (by have z0_ := congrArg Int32.toInt (rd_o k1591 z1523 rfl); have z1_ := congrArg Int32.toInt (rd_o k1591 ef1528 rfl); have z2_ := congrArg Int32.toInt (rd_o k1591 z1524 rfl); have z3_ := congrArg Int32.toInt (rd_s k1591); have z4_ := congrArg Int32.toInt (rd_o k1591 z1525 rfl); have z_ := w_lits; have zl_ := l_lits; omega)⟩
                          refine ev_putW (l := 0) (u := 160) hJ1591 rfl b1593 (by decide) (by decide) rfl rfl rfl fl_X10_210 rfl rfl rfl rfl rfl (fun h1594 hJ1594 k1594 => ?_)
                          refine ev_goto rfl rfl ?_
                          exact (ih108 h1594 hJ1594 (rd_o k1594 (rd_o k1591 z1523 rfl) rfl) (rd_o k1594 (rd_o k1591 z1524 rfl) rfl) (rd_o k1594 (rd_o k1591 z1525 rfl) rfl) (rd_o k1594 (rd_o k1591 z1526 rfl) rfl) (rd_o k1594 (rd_o k1591 z1527 rfl) rfl) (by have z0_ := congrArg Int32.toInt (rd_o k1594 (rd_o k1591 z1523 rfl) rfl); have z1_ := congrArg Int32.toInt (rd_s k1594); have z2_ := congrArg Int32.toInt (rd_o k1594 (rd_o k1591 z1524 rfl) rfl); have z3_ := congrArg Int32.toInt (rd_o k1594 (rd_s k1591) rfl); have z4_ := congrArg Int32.toInt (rd_o k1594 (rd_o k1591 z1525 rfl) rfl); have z_ := w_lits; have zl_ := l_lits; omega) (by have z0_ := congrArg Int32.toInt (rd_o k1594 (rd_o k1591 z1523 rfl) rfl); have z1_ := congrArg Int32.toInt (rd_s k1594); have z2_ := congrArg Int32.toInt (rd_o k1594 (rd_o k1591 z1524 rfl) rfl); have z3_ := congrArg Int32.toInt (rd_o k1594 (rd_s k1591) rfl); have z4_ := congrArg Int32.toInt (rd_o k1594 (rd_o k1591 z1525 rfl) rfl); have z_ := w_lits; have zl_ := l_lits; omega) (by rw [(rd_s k1594)]; exact L_up hm108 (e_p1 e1592 (by decide))))
                        · have b1589 : B v1585 (-160) 1 := R_ltX b1585 (by decide : B 2 2 2) (Int32.not_le.mp c1586) (by decide)
                          have z1590 := w_lt (Int32.not_le.mp c1586)
                          rw [show (2 : Int32).toInt = 2 from by decide] at z1590
                          refine ev_bipush (v := 10) rfl rfl (by decide) ?_
                          refine ev_aload_n rfl rfl rfl ?_
                          refine ev_getV (v := f1529) rfl rfl fl_X10_207 rfl rfl rfl ef1529 ?_
                          refine ev_imulA rfl rfl (fun v1595 => ?_)
                          refine ev_aload_n rfl rfl rfl ?_
                          refine ev_aload_n rfl rfl rfl ?_
                          refine ev_getV (v := f1528) rfl rfl fl_X10_210 rfl rfl rfl ef1528 ?_
                          have z1596 := congrArg Int32.toInt z1523
                          have z1597 := congrArg Int32.toInt ef1528
                          have z1598 := congrArg Int32.toInt z1524
                          have z1599 := congrArg Int32.toInt ef1529
                          have z1600 := congrArg Int32.toInt z1525
                          refine ev_V1P rfl rfl lk_X10_213 vt_X10_look rfl rfl rfl rfl rfl (w_X10_look_63 L b h1521 hJ1522.1 f1528 bf1528 t1535 et1535) (fun r1601 q1601 => ?_)
                          obtain ⟨b1601, pp1601_0, pp1601_1⟩ := q1601
                          refine ev_iaddA rfl rfl (fun v1602 g1602 => ?_)
                          refine ev_bipush (v := 48) rfl rfl (by decide) ?_
                          refine ev_isubA rfl rfl (fun v1603 g1603 => ?_)
                          refine ev_goto rfl rfl ?_
                          refine ev_putW (l := (-2147483648)) (u := 2147483647) hJ1522 rfl (B.any v1603) (by decide) (by decide) rfl rfl rfl fl_X10_207 rfl rfl rfl rfl rfl (fun h1604 hJ1604 k1604 => ?_)
                          refine ev_aload_n rfl rfl rfl ?_
                          refine ev_dup rfl rfl rfl ?_
                          refine ev_getV (v := f1528) rfl rfl fl_X10_210 rfl rfl rfl (rd_o k1604 ef1528 rfl) ?_
                          refine ev_iconst (v := 1) rfl rfl (by decide) ?_
                          refine ev_iaddB (l := 1) (u := 161) rfl rfl bf1528 (by decide : B 1 1 1) (by decide) (by decide) (by decide) (by decide) (fun v1605 b1605 e1605 g1605 => ?_)
                          have e1605x := e1605; rw [show (1 : Int32).toInt = 1 from by decide] at e1605x
                          have b1606 : B v1605 0 160 := ⟨(by have z0_ := congrArg Int32.toInt (rd_o k1604 z1523 rfl); have z1_ := congrArg Int32.toInt (rd_o k1604 ef1528 rfl); have z2_ := congrArg Int32.toInt (rd_o k1604 z1524 rfl); have z3_ := congrArg Int32.toInt (rd_s k1604); have z4_ := congrArg Int32.toInt (rd_o k1604 z1525 rfl); have z_ := w_lits; have zl_ := l_lits; omega), (by have z0_ := congrArg Int32.toInt (rd_o k1604 z1523 rfl); have z1_ := congrArg Int32.toInt (rd_o k1604 ef1528 rfl); have z2_ := congrArg Int32.toInt (rd_o k1604 z1524 rfl); have z3_ := congrArg Int32.toInt (rd_s k1604); have z4_ := congrArg Int32.toInt (rd_o k1604 z1525 rfl); have z_ := w_lits; have zl_ := l_lits; omega)⟩
                          refine ev_putW (l := 0) (u := 160) hJ1604 rfl b1606 (by decide) (by decide) rfl rfl rfl fl_X10_210 rfl rfl rfl rfl rfl (fun h1607 hJ1607 k1607 => ?_)
                          refine ev_goto rfl rfl ?_
                          exact (ih108 h1607 hJ1607 (rd_o k1607 (rd_o k1604 z1523 rfl) rfl) (rd_o k1607 (rd_o k1604 z1524 rfl) rfl) (rd_o k1607 (rd_o k1604 z1525 rfl) rfl) (rd_o k1607 (rd_o k1604 z1526 rfl) rfl) (rd_o k1607 (rd_o k1604 z1527 rfl) rfl) (by have z0_ := congrArg Int32.toInt (rd_o k1607 (rd_o k1604 z1523 rfl) rfl); have z1_ := congrArg Int32.toInt (rd_s k1607); have z2_ := congrArg Int32.toInt (rd_o k1607 (rd_o k1604 z1524 rfl) rfl); have z3_ := congrArg Int32.toInt (rd_o k1607 (rd_s k1604) rfl); have z4_ := congrArg Int32.toInt (rd_o k1607 (rd_o k1604 z1525 rfl) rfl); have z_ := w_lits; have zl_ := l_lits; omega) (by have z0_ := congrArg Int32.toInt (rd_o k1607 (rd_o k1604 z1523 rfl) rfl); have z1_ := congrArg Int32.toInt (rd_s k1607); have z2_ := congrArg Int32.toInt (rd_o k1607 (rd_o k1604 z1524 rfl) rfl); have z3_ := congrArg Int32.toInt (rd_o k1607 (rd_s k1604) rfl); have z4_ := congrArg Int32.toInt (rd_o k1607 (rd_o k1604 z1525 rfl) rfl); have z_ := w_lits; have zl_ := l_lits; omega) (by rw [(rd_s k1607)]; exact L_up hm108 (e_p1 e1605 (by decide))))
                  exact (lp108_1520 161 h1400 hJ1400 (rd_o k1400 (rd_o k1397 (rd_o k1151 (rd_o k1150 (rd_o k1038 z1017 rfl) rfl) rfl) rfl) rfl) (rd_o k1400 (rd_o k1397 (rd_o k1151 (rd_o k1150 (rd_o k1038 z1018 rfl) rfl) rfl) rfl) rfl) (rd_o k1400 (rd_o k1397 (rd_o k1151 (rd_s k1150) rfl) rfl) rfl) (rd_o k1400 (rd_o k1397 (rd_o k1151 (rd_o k1150 (rd_o k1038 et1027 rfl) rfl) rfl) rfl) rfl) (rd_o k1400 (rd_o k1397 (rd_o k1151 (rd_o k1150 (rd_s k1038) rfl) rfl) rfl) rfl) (by have z0_ := congrArg Int32.toInt (rd_o k1400 (rd_o k1397 (rd_o k1151 (rd_o k1150 (rd_o k1038 z1017 rfl) rfl) rfl) rfl) rfl); have z1_ := congrArg Int32.toInt (rd_s k1400); have z2_ := congrArg Int32.toInt (rd_o k1400 (rd_o k1397 (rd_o k1151 (rd_o k1150 (rd_o k1038 z1018 rfl) rfl) rfl) rfl) rfl); have z3_ := congrArg Int32.toInt (rd_o k1400 (rd_s k1397) rfl); have z4_ := congrArg Int32.toInt (rd_o k1400 (rd_o k1397 (rd_o k1151 (rd_s k1150) rfl) rfl) rfl); have z_ := w_lits; have zl_ := l_lits; omega) (by have z0_ := congrArg Int32.toInt (rd_o k1400 (rd_o k1397 (rd_o k1151 (rd_o k1150 (rd_o k1038 z1017 rfl) rfl) rfl) rfl) rfl); have z1_ := congrArg Int32.toInt (rd_s k1400); have z2_ := congrArg Int32.toInt (rd_o k1400 (rd_o k1397 (rd_o k1151 (rd_o k1150 (rd_o k1038 z1018 rfl) rfl) rfl) rfl) rfl); have z3_ := congrArg Int32.toInt (rd_o k1400 (rd_s k1397) rfl); have z4_ := congrArg Int32.toInt (rd_o k1400 (rd_o k1397 (rd_o k1151 (rd_s k1150) rfl) rfl) rfl); have z_ := w_lits; have zl_ := l_lits; omega) (by rw [(rd_s k1400)]; exact L_init b1399 (by decide)))
            · have b1060 : B r1056 1 1 := R_neL b1056 (by decide : B 0 0 0) c1057 (by decide)
              have b1061 : B r1044 97 122 := p1056_0 c1057
              have z1062 := w_ne c1057
              rw [show (0 : Int32).toInt = 0 from by decide] at z1062
              refine ev_aload_n rfl rfl rfl ?_
              have z1608 := congrArg Int32.toInt (rd_o k1038 z1017 rfl)
              have z1609 := congrArg Int32.toInt (rd_o k1038 ef1021 rfl)
              have z1610 := congrArg Int32.toInt (rd_o k1038 z1018 rfl)
              have z1611 := congrArg Int32.toInt (rd_o k1038 z1019 rfl)
              have z1612 := congrArg Int32.toInt (rd_o k1038 z1020 rfl)
              refine ev_V0K hJ1038 rfl rfl rfl lk_X10_223 vt_X10_readChord rfl rfl rfl rfl rfl (w_X10_readChord_63 L b h1038 hJ1038.1 t1027 (by rw [(rd_o k1038 ef1021 rfl)]; exact (rd_o k1038 et1027 rfl)) ⟨(by have z0_ := congrArg Int32.toInt (rd_o k1038 z1017 rfl); have z1_ := congrArg Int32.toInt (rd_o k1038 ef1021 rfl); have z2_ := congrArg Int32.toInt (rd_o k1038 z1018 rfl); have z3_ := congrArg Int32.toInt (rd_o k1038 z1019 rfl); have z4_ := congrArg Int32.toInt (rd_o k1038 z1020 rfl); have z_ := w_lits; have zl_ := l_lits; omega), (by have z0_ := congrArg Int32.toInt (rd_o k1038 z1017 rfl); have z1_ := congrArg Int32.toInt (rd_o k1038 ef1021 rfl); have z2_ := congrArg Int32.toInt (rd_o k1038 z1018 rfl); have z3_ := congrArg Int32.toInt (rd_o k1038 z1019 rfl); have z4_ := congrArg Int32.toInt (rd_o k1038 z1020 rfl); have z_ := w_lits; have zl_ := l_lits; omega)⟩ (by have z0_ := congrArg Int32.toInt (rd_o k1038 z1017 rfl); have z1_ := congrArg Int32.toInt (rd_o k1038 ef1021 rfl); have z2_ := congrArg Int32.toInt (rd_o k1038 z1018 rfl); have z3_ := congrArg Int32.toInt (rd_o k1038 z1019 rfl); have z4_ := congrArg Int32.toInt (rd_o k1038 z1020 rfl); have z_ := w_lits; have zl_ := l_lits; omega) (B.at (rd_o k1038 z1018 rfl) b7)) (fun h1613 hJ1613 k1613 m1613 => ?_)
              obtain ⟨m1613_0, m1613_1, m1613_2, m1613_3⟩ := m1613
              obtain ⟨f1614, ef1614⟩ : ∃ f_, h1613 63 17 = f_ := ⟨_, rfl⟩
              have bf1614 : B f1614 0 160 := by have z_ := hJ1613.1 63 17; rw [ef1614] at z_; exact z_
              have zf1614 := congrArg Int32.toInt ef1614
              obtain ⟨f1615, ef1615⟩ : ∃ f_, h1613 63 21 = f_ := ⟨_, rfl⟩
              have bf1615 : B f1615 0 6 := by have z_ := hJ1613.1 63 21; rw [ef1615] at z_; exact z_
              have zf1615 := congrArg Int32.toInt ef1615
              obtain ⟨f1616, ef1616⟩ : ∃ f_, h1613 63 20 = f_ := ⟨_, rfl⟩
              have bf1616 : B f1616 (-2147483648) 2147483647 := by have z_ := hJ1613.1 63 20; rw [ef1616] at z_; exact z_
              have zf1616 := congrArg Int32.toInt ef1616
              obtain ⟨f1617, ef1617⟩ : ∃ f_, h1613 63 19 = f_ := ⟨_, rfl⟩
              have bf1617 : B f1617 0 3 := by have z_ := hJ1613.1 63 19; rw [ef1617] at z_; exact z_
              have zf1617 := congrArg Int32.toInt ef1617
              have z1618 := congrArg Int32.toInt (rd_w k1613 (rd_o k1038 z1017 rfl) rfl)
              have z1619 := congrArg Int32.toInt ef1614
              have z1620 := congrArg Int32.toInt ef1615
              have z1621 := congrArg Int32.toInt ef1616
              have z1622 := congrArg Int32.toInt ef1617
              refine ev_goto rfl rfl ?_
              exact ev_vret rfl rfl trivial ⟨rfl, rfl, hJ1613, (by have z0_ := congrArg Int32.toInt (rd_w k1613 (rd_o k1038 z1017 rfl) rfl); have z1_ := congrArg Int32.toInt ef1614; have z2_ := congrArg Int32.toInt ef1615; have z3_ := congrArg Int32.toInt ef1616; have z4_ := congrArg Int32.toInt ef1617; have z_ := w_lits; have zl_ := l_lits; omega), (by have z0_ := congrArg Int32.toInt (rd_w k1613 (rd_o k1038 z1017 rfl) rfl); have z1_ := congrArg Int32.toInt ef1614; have z2_ := congrArg Int32.toInt ef1615; have z3_ := congrArg Int32.toInt ef1616; have z4_ := congrArg Int32.toInt ef1617; have z_ := w_lits; have zl_ := l_lits; omega), (by have z0_ := congrArg Int32.toInt (rd_w k1613 (rd_o k1038 z1017 rfl) rfl); have z1_ := congrArg Int32.toInt ef1614; have z2_ := congrArg Int32.toInt ef1615; have z3_ := congrArg Int32.toInt ef1616; have z4_ := congrArg Int32.toInt ef1617; have z_ := w_lits; have zl_ := l_lits; omega), (by have z0_ := congrArg Int32.toInt (rd_w k1613 (rd_o k1038 z1017 rfl) rfl); have z1_ := congrArg Int32.toInt ef1614; have z2_ := congrArg Int32.toInt ef1615; have z3_ := congrArg Int32.toInt ef1616; have z4_ := congrArg Int32.toInt ef1617; have z_ := w_lits; have zl_ := l_lits; omega), (by have z0_ := congrArg Int32.toInt (rd_w k1613 (rd_o k1038 z1017 rfl) rfl); have z1_ := congrArg Int32.toInt ef1614; have z2_ := congrArg Int32.toInt ef1615; have z3_ := congrArg Int32.toInt ef1616; have z4_ := congrArg Int32.toInt ef1617; have z_ := w_lits; have zl_ := l_lits; omega)⟩
          · have b1048 : B r1044 (-1) (-1) := R_ltX b1044 (by decide : B 0 0 0) (Int32.not_le.mp c1045) (by decide)
            have z1049 := w_lt (Int32.not_le.mp c1045)
            rw [show (0 : Int32).toInt = 0 from by decide] at z1049
            refine ev_aload_n rfl rfl rfl ?_
            refine ev_iconst (v := 0) rfl rfl (by decide) ?_
            refine ev_putW (l := 0) (u := 3) hJ1038 rfl (by decide : B 0 0 0) (by decide) (by decide) rfl rfl rfl fl_X10_204 rfl rfl rfl rfl rfl (fun h1623 hJ1623 k1623 => ?_)
            refine ev_goto rfl rfl ?_
            exact ev_vret rfl rfl trivial ⟨rfl, rfl, hJ1623, (by have z0_ := congrArg Int32.toInt (rd_o k1623 (rd_o k1038 z1017 rfl) rfl); have z1_ := congrArg Int32.toInt (rd_o k1623 (rd_o k1038 ef1021 rfl) rfl); have z2_ := congrArg Int32.toInt (rd_o k1623 (rd_o k1038 z1018 rfl) rfl); have z3_ := congrArg Int32.toInt (rd_o k1623 (rd_o k1038 z1019 rfl) rfl); have z4_ := congrArg Int32.toInt (rd_s k1623); have z_ := w_lits; have zl_ := l_lits; omega), (by have z0_ := congrArg Int32.toInt (rd_o k1623 (rd_o k1038 z1017 rfl) rfl); have z1_ := congrArg Int32.toInt (rd_o k1623 (rd_o k1038 ef1021 rfl) rfl); have z2_ := congrArg Int32.toInt (rd_o k1623 (rd_o k1038 z1018 rfl) rfl); have z3_ := congrArg Int32.toInt (rd_o k1623 (rd_o k1038 z1019 rfl) rfl); have z4_ := congrArg Int32.toInt (rd_s k1623); have z_ := w_lits; have zl_ := l_lits; omega), (by have z0_ := congrArg Int32.toInt (rd_o k1623 (rd_o k1038 z1017 rfl) rfl); have z1_ := congrArg Int32.toInt (rd_o k1623 (rd_o k1038 ef1021 rfl) rfl); have z2_ := congrArg Int32.toInt (rd_o k1623 (rd_o k1038 z1018 rfl) rfl); have z3_ := congrArg Int32.toInt (rd_o k1623 (rd_o k1038 z1019 rfl) rfl); have z4_ := congrArg Int32.toInt (rd_s k1623); have z_ := w_lits; have zl_ := l_lits; omega), (by have z0_ := congrArg Int32.toInt (rd_o k1623 (rd_o k1038 z1017 rfl) rfl); have z1_ := congrArg Int32.toInt (rd_o k1623 (rd_o k1038 ef1021 rfl) rfl); have z2_ := congrArg Int32.toInt (rd_o k1623 (rd_o k1038 z1018 rfl) rfl); have z3_ := congrArg Int32.toInt (rd_o k1623 (rd_o k1038 z1019 rfl) rfl); have z4_ := congrArg Int32.toInt (rd_s k1623); have z_ := w_lits; have zl_ := l_lits; omega), (by have z0_ := congrArg Int32.toInt (rd_o k1623 (rd_o k1038 z1017 rfl) rfl); have z1_ := congrArg Int32.toInt (rd_o k1623 (rd_o k1038 ef1021 rfl) rfl); have z2_ := congrArg Int32.toInt (rd_o k1623 (rd_o k1038 z1018 rfl) rfl); have z3_ := congrArg Int32.toInt (rd_o k1623 (rd_o k1038 z1019 rfl) rfl); have z4_ := congrArg Int32.toInt (rd_s k1623); have z_ := w_lits; have zl_ := l_lits; omega)⟩
        · have b1036 : B r1033 32 32 := R_eqX b1033 (by decide : B 32 32 32) c1034
          have z1037 := congrArg Int32.toInt c1034
          rw [show (32 : Int32).toInt = 32 from by decide] at z1037
          refine ev_aload_n rfl rfl rfl ?_
          refine ev_dup rfl rfl rfl ?_
          refine ev_getV (v := f1021) rfl rfl fl_X10_210 rfl rfl rfl ef1021 ?_
          refine ev_iconst (v := 1) rfl rfl (by decide) ?_
          refine ev_iaddB (l := 1) (u := 161) rfl rfl bf1021 (by decide : B 1 1 1) (by decide) (by decide) (by decide) (by decide) (fun v1624 b1624 e1624 g1624 => ?_)
          have e1624x := e1624; rw [show (1 : Int32).toInt = 1 from by decide] at e1624x
          have b1625 : B v1624 0 160 := ⟨(by have z0_ := congrArg Int32.toInt z1017; have z1_ := congrArg Int32.toInt ef1021; have z2_ := congrArg Int32.toInt z1018; have z3_ := congrArg Int32.toInt z1019; have z4_ := congrArg Int32.toInt z1020; have z_ := w_lits; have zl_ := l_lits; omega), (by have z0_ := congrArg Int32.toInt z1017; have z1_ := congrArg Int32.toInt ef1021; have z2_ := congrArg Int32.toInt z1018; have z3_ := congrArg Int32.toInt z1019; have z4_ := congrArg Int32.toInt z1020; have z_ := w_lits; have zl_ := l_lits; omega)⟩
          refine ev_putW (l := 0) (u := 160) hJ1016 rfl b1625 (by decide) (by decide) rfl rfl rfl fl_X10_210 rfl rfl rfl rfl rfl (fun h1626 hJ1626 k1626 => ?_)
          refine ev_goto rfl rfl ?_
          exact (ih8 h1626 hJ1626 (rd_o k1626 z1017 rfl) (rd_o k1626 z1018 rfl) (rd_o k1626 z1019 rfl) (rd_o k1626 z1020 rfl) (by have z0_ := congrArg Int32.toInt (rd_o k1626 z1017 rfl); have z1_ := congrArg Int32.toInt (rd_s k1626); have z2_ := congrArg Int32.toInt (rd_o k1626 z1018 rfl); have z3_ := congrArg Int32.toInt (rd_o k1626 z1019 rfl); have z4_ := congrArg Int32.toInt (rd_o k1626 z1020 rfl); have z_ := w_lits; have zl_ := l_lits; omega) (by have z0_ := congrArg Int32.toInt (rd_o k1626 z1017 rfl); have z1_ := congrArg Int32.toInt (rd_s k1626); have z2_ := congrArg Int32.toInt (rd_o k1626 z1018 rfl); have z3_ := congrArg Int32.toInt (rd_o k1626 z1019 rfl); have z4_ := congrArg Int32.toInt (rd_o k1626 z1020 rfl); have z_ := w_lits; have zl_ := l_lits; omega) (by rw [(rd_s k1626)]; exact L_up hm8 (e_p1 e1624 (by decide))))
    exact (lp8_1014 161 h hJ0 ef1 ef3 ef4 ef5 (by have z0_ := congrArg Int32.toInt ef1; have z1_ := congrArg Int32.toInt ef2; have z2_ := congrArg Int32.toInt ef3; have z3_ := congrArg Int32.toInt ef4; have z4_ := congrArg Int32.toInt ef5; have z_ := w_lits; have zl_ := l_lits; omega) (by have z0_ := congrArg Int32.toInt ef1; have z1_ := congrArg Int32.toInt ef2; have z2_ := congrArg Int32.toInt ef3; have z3_ := congrArg Int32.toInt ef4; have z4_ := congrArg Int32.toInt ef5; have z_ := w_lits; have zl_ := l_lits; omega) (by rw [ef2]; exact L_init bf2 (by decide)))
  · have b9 : B f3 1 6 := R_ltY (by decide : B 0 0 0) bf3 (Int32.not_le.mp c6) (by decide)
    have z10 := w_lt (Int32.not_le.mp c6)
    rw [show (0 : Int32).toInt = 0 from by decide] at z10
    exact ev_vret rfl rfl trivial ⟨rfl, rfl, hJ0, (by have z0_ := congrArg Int32.toInt ef1; have z1_ := congrArg Int32.toInt ef2; have z2_ := congrArg Int32.toInt ef3; have z3_ := congrArg Int32.toInt ef4; have z4_ := congrArg Int32.toInt ef5; have z_ := w_lits; have zl_ := l_lits; omega), (by have z0_ := congrArg Int32.toInt ef1; have z1_ := congrArg Int32.toInt ef2; have z2_ := congrArg Int32.toInt ef3; have z3_ := congrArg Int32.toInt ef4; have z4_ := congrArg Int32.toInt ef5; have z_ := w_lits; have zl_ := l_lits; omega), (by have z0_ := congrArg Int32.toInt ef1; have z1_ := congrArg Int32.toInt ef2; have z2_ := congrArg Int32.toInt ef3; have z3_ := congrArg Int32.toInt ef4; have z4_ := congrArg Int32.toInt ef5; have z_ := w_lits; have zl_ := l_lits; omega), (by have z0_ := congrArg Int32.toInt ef1; have z1_ := congrArg Int32.toInt ef2; have z2_ := congrArg Int32.toInt ef3; have z3_ := congrArg Int32.toInt ef4; have z4_ := congrArg Int32.toInt ef5; have z_ := w_lits; have zl_ := l_lits; omega), (by have z0_ := congrArg Int32.toInt ef1; have z1_ := congrArg Int32.toInt ef2; have z2_ := congrArg Int32.toInt ef3; have z3_ := congrArg Int32.toInt ef4; have z4_ := congrArg Int32.toInt ef5; have z_ := w_lits; have zl_ := l_lits; omega)⟩

set_option maxRecDepth 100000 in
set_option maxHeartbeats 4000000 in
theorem w_X10_beatRead_63 (L : Nat) (b : Bool) (h : Hp) (hB : Bx h) (a0 : Int32) (p0 : B a0 0 4095) (rp0 : (0 < (h 63 31).toInt → (h 76 0).toInt ≤ (h 63 27).toInt)) (rp1 : (1 < (h 63 31).toInt → (h 76 0).toInt ≤ (h 76 1).toInt ∧ (h 76 1).toInt ≤ (h 63 27).toInt)) (rp2 : (2 < (h 63 31).toInt → (h 76 1).toInt ≤ (h 76 2).toInt ∧ (h 76 2).toInt ≤ (h 63 27).toInt)) (rp3 : (3 < (h 63 31).toInt → (h 76 2).toInt ≤ (h 76 3).toInt ∧ (h 76 3).toInt ≤ (h 63 27).toInt)) : EvK mi_X10_beatRead [.ref 63, .int a0] (G0 L b) h (fun z : Hp => ((0 < (z 63 31).toInt → (z 76 0).toInt ≤ (z 63 27).toInt)) ∧ ((1 < (z 63 31).toInt → (z 76 0).toInt ≤ (z 76 1).toInt ∧ (z 76 1).toInt ≤ (z 63 27).toInt)) ∧ ((2 < (z 63 31).toInt → (z 76 1).toInt ≤ (z 76 2).toInt ∧ (z 76 2).toInt ≤ (z 63 27).toInt)) ∧ ((3 < (z 63 31).toInt → (z 76 2).toInt ≤ (z 76 3).toInt ∧ (z 76 3).toInt ≤ (z 63 27).toInt))) [(63, 27), (63, 28), (75, 999)] := by
  refine EvM.of2 (lo := [some (.ref 63), some (.int a0)]) pf_X10_beatRead ok_X10_beatRead rfl rfl ?_
  have hJ0 : JW [(63, 27), (63, 28), (75, 999)] h h := JW.refl hB
  obtain ⟨f1, ef1⟩ : ∃ f_, h 63 27 = f_ := ⟨_, rfl⟩
  have bf1 : B f1 0 60 := by have z_ := hJ0.1 63 27; rw [ef1] at z_; exact z_
  have zf1 := congrArg Int32.toInt ef1
  obtain ⟨f2, ef2⟩ : ∃ f_, h 63 31 = f_ := ⟨_, rfl⟩
  have bf2 : B f2 0 4 := by have z_ := hJ0.1 63 31; rw [ef2] at z_; exact z_
  have zf2 := congrArg Int32.toInt ef2
  obtain ⟨f3, ef3⟩ : ∃ f_, h 76 0 = f_ := ⟨_, rfl⟩
  have bf3 : B f3 0 60 := by have z_ := hJ0.1 76 0; rw [ef3] at z_; exact z_
  have zf3 := congrArg Int32.toInt ef3
  obtain ⟨f4, ef4⟩ : ∃ f_, h 76 1 = f_ := ⟨_, rfl⟩
  have bf4 : B f4 0 60 := by have z_ := hJ0.1 76 1; rw [ef4] at z_; exact z_
  have zf4 := congrArg Int32.toInt ef4
  obtain ⟨f5, ef5⟩ : ∃ f_, h 76 2 = f_ := ⟨_, rfl⟩
  have bf5 : B f5 0 60 := by have z_ := hJ0.1 76 2; rw [ef5] at z_; exact z_
  have zf5 := congrArg Int32.toInt ef5
  obtain ⟨f6, ef6⟩ : ∃ f_, h 76 3 = f_ := ⟨_, rfl⟩
  have bf6 : B f6 0 60 := by have z_ := hJ0.1 76 3; rw [ef6] at z_; exact z_
  have zf6 := congrArg Int32.toInt ef6
  refine ev_aload_n rfl rfl rfl ?_
  refine ev_getV (v := f1) rfl rfl fl_X10_234 rfl rfl rfl ef1 ?_
  refine ev_bipush (v := 60) rfl rfl (by decide) ?_
  refine ev_icmp_lt rfl rfl (fun c7 => ?_) (fun c7 => ?_)
  · have b8 : B f1 0 59 := R_ltX bf1 (by decide : B 60 60 60) c7 (by decide)
    have z9 := w_lt c7
    rw [show (60 : Int32).toInt = 60 from by decide] at z9
    refine ev_aload_n rfl rfl rfl ?_
    refine ev_getR (y := 75) rfl rfl fl_X10_57 rfl rfl rfl rfl ?_
    refine ev_aload_n rfl rfl rfl ?_
    refine ev_getV (v := f1) rfl rfl fl_X10_234 rfl rfl rfl ef1 ?_
    refine ev_iload_n rfl rfl rfl ?_
    refine ev_iasW (n := 64) (l := 0) (u := 4095) hJ0 b8 (by decide) (by decide) (fun _ => rfl) p0 (by decide) (by decide) (fun _ => rfl) rfl rfl rfl rfl (fun h12 hJ12 k12 => ?_)
    refine ev_aload_n rfl rfl rfl ?_
    refine ev_dup rfl rfl rfl ?_
    refine ev_getV (v := f1) rfl rfl fl_X10_234 rfl rfl rfl (rd_a k12 ef1 rfl) ?_
    refine ev_iconst (v := 1) rfl rfl (by decide) ?_
    refine ev_iaddB (l := 1) (u := 60) rfl rfl b8 (by decide : B 1 1 1) (by decide) (by decide) (by decide) (by decide) (fun v13 b13 e13 g13 => ?_)
    have e13x := e13; rw [show (1 : Int32).toInt = 1 from by decide] at e13x
    refine ev_putW (l := 0) (u := 60) hJ12 rfl b13 (by decide) (by decide) rfl rfl rfl fl_X10_234 rfl rfl rfl rfl rfl (fun h14 hJ14 k14 => ?_)
    exact ev_vret rfl rfl trivial ⟨rfl, rfl, hJ14, (by have z0_ := congrArg Int32.toInt (rd_s k14); have z1_ := congrArg Int32.toInt (rd_o k14 (rd_a k12 ef2 rfl) rfl); have z2_ := congrArg Int32.toInt (rd_o k14 (rd_a k12 ef3 rfl) rfl); have z3_ := congrArg Int32.toInt (rd_o k14 (rd_a k12 ef4 rfl) rfl); have z4_ := congrArg Int32.toInt (rd_o k14 (rd_a k12 ef5 rfl) rfl); have z5_ := congrArg Int32.toInt (rd_o k14 (rd_a k12 ef6 rfl) rfl); have z_ := w_lits; have zl_ := l_lits; omega), (by have z0_ := congrArg Int32.toInt (rd_s k14); have z1_ := congrArg Int32.toInt (rd_o k14 (rd_a k12 ef2 rfl) rfl); have z2_ := congrArg Int32.toInt (rd_o k14 (rd_a k12 ef3 rfl) rfl); have z3_ := congrArg Int32.toInt (rd_o k14 (rd_a k12 ef4 rfl) rfl); have z4_ := congrArg Int32.toInt (rd_o k14 (rd_a k12 ef5 rfl) rfl); have z5_ := congrArg Int32.toInt (rd_o k14 (rd_a k12 ef6 rfl) rfl); have z_ := w_lits; have zl_ := l_lits; omega), (by have z0_ := congrArg Int32.toInt (rd_s k14); have z1_ := congrArg Int32.toInt (rd_o k14 (rd_a k12 ef2 rfl) rfl); have z2_ := congrArg Int32.toInt (rd_o k14 (rd_a k12 ef3 rfl) rfl); have z3_ := congrArg Int32.toInt (rd_o k14 (rd_a k12 ef4 rfl) rfl); have z4_ := congrArg Int32.toInt (rd_o k14 (rd_a k12 ef5 rfl) rfl); have z5_ := congrArg Int32.toInt (rd_o k14 (rd_a k12 ef6 rfl) rfl); have z_ := w_lits; have zl_ := l_lits; omega), (by have z0_ := congrArg Int32.toInt (rd_s k14); have z1_ := congrArg Int32.toInt (rd_o k14 (rd_a k12 ef2 rfl) rfl); have z2_ := congrArg Int32.toInt (rd_o k14 (rd_a k12 ef3 rfl) rfl); have z3_ := congrArg Int32.toInt (rd_o k14 (rd_a k12 ef4 rfl) rfl); have z4_ := congrArg Int32.toInt (rd_o k14 (rd_a k12 ef5 rfl) rfl); have z5_ := congrArg Int32.toInt (rd_o k14 (rd_a k12 ef6 rfl) rfl); have z_ := w_lits; have zl_ := l_lits; omega)⟩
  · have b10 : B f1 60 60 := R_leY (by decide : B 60 60 60) bf1 (Int32.not_lt.mp c7) (by decide)
    have z11 := w_le (Int32.not_lt.mp c7)
    rw [show (60 : Int32).toInt = 60 from by decide] at z11
    refine ev_aload_n rfl rfl rfl ?_
    refine ev_iconst (v := 1) rfl rfl (by decide) ?_
    refine ev_puzW (l := (-2147483648)) (u := 2147483647) hJ0 rfl ((by decide : B 1 1 1).mono (by decide) (by decide)) (by decide) (by decide) rfl rfl rfl fl_X10_237 rfl rfl rfl rfl rfl (fun h15 hJ15 k15 => ?_)
    refine ev_goto rfl rfl ?_
    exact ev_vret rfl rfl trivial ⟨rfl, rfl, hJ15, (by have z0_ := congrArg Int32.toInt (rd_o k15 ef1 rfl); have z1_ := congrArg Int32.toInt (rd_o k15 ef2 rfl); have z2_ := congrArg Int32.toInt (rd_o k15 ef3 rfl); have z3_ := congrArg Int32.toInt (rd_o k15 ef4 rfl); have z4_ := congrArg Int32.toInt (rd_o k15 ef5 rfl); have z5_ := congrArg Int32.toInt (rd_o k15 ef6 rfl); have z_ := w_lits; have zl_ := l_lits; omega), (by have z0_ := congrArg Int32.toInt (rd_o k15 ef1 rfl); have z1_ := congrArg Int32.toInt (rd_o k15 ef2 rfl); have z2_ := congrArg Int32.toInt (rd_o k15 ef3 rfl); have z3_ := congrArg Int32.toInt (rd_o k15 ef4 rfl); have z4_ := congrArg Int32.toInt (rd_o k15 ef5 rfl); have z5_ := congrArg Int32.toInt (rd_o k15 ef6 rfl); have z_ := w_lits; have zl_ := l_lits; omega), (by have z0_ := congrArg Int32.toInt (rd_o k15 ef1 rfl); have z1_ := congrArg Int32.toInt (rd_o k15 ef2 rfl); have z2_ := congrArg Int32.toInt (rd_o k15 ef3 rfl); have z3_ := congrArg Int32.toInt (rd_o k15 ef4 rfl); have z4_ := congrArg Int32.toInt (rd_o k15 ef5 rfl); have z5_ := congrArg Int32.toInt (rd_o k15 ef6 rfl); have z_ := w_lits; have zl_ := l_lits; omega), (by have z0_ := congrArg Int32.toInt (rd_o k15 ef1 rfl); have z1_ := congrArg Int32.toInt (rd_o k15 ef2 rfl); have z2_ := congrArg Int32.toInt (rd_o k15 ef3 rfl); have z3_ := congrArg Int32.toInt (rd_o k15 ef4 rfl); have z4_ := congrArg Int32.toInt (rd_o k15 ef5 rfl); have z5_ := congrArg Int32.toInt (rd_o k15 ef6 rfl); have z_ := w_lits; have zl_ := l_lits; omega)⟩

set_option maxRecDepth 100000 in
set_option maxHeartbeats 4000000 in
theorem w_X10_isSign_63 (L : Nat) (b : Bool) (h : Hp) (hB : Bx h) (a0 : Int32) : EvP mi_X10_isSign [.ref 63, .int a0] (G0 L b) h (fun r : Int32 => B r 0 1 ∧ (¬ r.toInt = 0 → (h 63 19).toInt = 3)) := by
  refine EvM.of2 (lo := [some (.ref 63), some (.int a0)]) pf_X10_isSign ok_X10_isSign rfl rfl ?_
  obtain ⟨f1, ef1⟩ : ∃ f_, h 63 19 = f_ := ⟨_, rfl⟩
  have bf1 : B f1 0 3 := by have z_ := hB 63 19; rw [ef1] at z_; exact z_
  have zf1 := congrArg Int32.toInt ef1
  refine ev_aload_n rfl rfl rfl ?_
  refine ev_getV (v := f1) rfl rfl fl_X10_204 rfl rfl rfl ef1 ?_
  refine ev_iconst (v := 3) rfl rfl (by decide) ?_
  refine ev_icmp_ne rfl rfl (fun c2 => ?_) (fun c2 => ?_)
  · have b3 : B f1 0 2 := R_neU bf1 (by decide : B 3 3 3) c2 (by decide)
    have z4 := w_ne c2
    rw [show (3 : Int32).toInt = 3 from by decide] at z4
    refine ev_iconst (v := 0) rfl rfl (by decide) ?_
    exact ev_iret rfl rfl rfl ⟨⟨_, rfl, ⟨((by decide : B 0 0 0).mono (by decide) (by decide)), (by have z0_ := congrArg Int32.toInt ef1; have z_ := w_lits; have zl_ := l_lits; omega)⟩⟩, rfl, rfl⟩
  · have b5 : B f1 3 3 := R_eqX bf1 (by decide : B 3 3 3) c2
    have z6 := congrArg Int32.toInt c2
    rw [show (3 : Int32).toInt = 3 from by decide] at z6
    refine ev_aload_n rfl rfl rfl ?_
    refine ev_getW (l := (-2147483648)) (u := 2147483647) hB rfl rfl rfl fl_X10_207 rfl rfl rfl (fun v7 b7 e7 => ?_)
    refine ev_iload_n rfl rfl rfl ?_
    refine ev_icmp_ne rfl rfl (fun c8 => ?_) (fun c8 => ?_)
    · have z9 := w_ne c8
      refine ev_iconst (v := 0) rfl rfl (by decide) ?_
      exact ev_iret rfl rfl rfl ⟨⟨_, rfl, ⟨((by decide : B 0 0 0).mono (by decide) (by decide)), (by have z0_ := congrArg Int32.toInt ef1; have z_ := w_lits; have zl_ := l_lits; omega)⟩⟩, rfl, rfl⟩
    · have z10 := congrArg Int32.toInt c8
      refine ev_iconst (v := 1) rfl rfl (by decide) ?_
      refine ev_goto rfl rfl ?_
      exact ev_iret rfl rfl rfl ⟨⟨_, rfl, ⟨((by decide : B 1 1 1).mono (by decide) (by decide)), (by have z0_ := congrArg Int32.toInt ef1; have z_ := w_lits; have zl_ := l_lits; omega)⟩⟩, rfl, rfl⟩

set_option maxRecDepth 100000 in
set_option maxHeartbeats 4000000 in
theorem w_X10_closes_63 (L : Nat) (b : Bool) (h : Hp) (hB : Bx h) (rp0 : (0 < (h 63 31).toInt → (h 76 0).toInt ≤ (h 63 27).toInt)) (rp1 : (1 < (h 63 31).toInt → (h 76 0).toInt ≤ (h 76 1).toInt ∧ (h 76 1).toInt ≤ (h 63 27).toInt)) (rp2 : (2 < (h 63 31).toInt → (h 76 1).toInt ≤ (h 76 2).toInt ∧ (h 76 2).toInt ≤ (h 63 27).toInt)) (rp3 : (3 < (h 63 31).toInt → (h 76 2).toInt ≤ (h 76 3).toInt ∧ (h 76 3).toInt ≤ (h 63 27).toInt)) (q0 : B (h 63 31) 1 4) : EvK mi_X10_closes [.ref 63] (G0 L b) h (fun z : Hp => ((0 < (z 63 31).toInt → (z 76 0).toInt ≤ (z 63 27).toInt)) ∧ ((1 < (z 63 31).toInt → (z 76 0).toInt ≤ (z 76 1).toInt ∧ (z 76 1).toInt ≤ (z 63 27).toInt)) ∧ ((2 < (z 63 31).toInt → (z 76 1).toInt ≤ (z 76 2).toInt ∧ (z 76 2).toInt ≤ (z 63 27).toInt)) ∧ ((3 < (z 63 31).toInt → (z 76 2).toInt ≤ (z 76 3).toInt ∧ (z 76 3).toInt ≤ (z 63 27).toInt))) [(63, 27), (63, 28), (63, 31), (75, 999)] := by
  refine EvM.of2 (lo := [some (.ref 63), none, none, none]) pf_X10_closes ok_X10_closes rfl rfl ?_
  have hJ0 : JW [(63, 27), (63, 28), (63, 31), (75, 999)] h h := JW.refl hB
  obtain ⟨f0, ef0⟩ : ∃ f_, h 63 31 = f_ := ⟨_, rfl⟩
  rw [ef0] at q0
  have zef0 := congrArg Int32.toInt ef0
  obtain ⟨f1, ef1⟩ : ∃ f_, h 63 27 = f_ := ⟨_, rfl⟩
  have bf1 : B f1 0 60 := by have z_ := hJ0.1 63 27; rw [ef1] at z_; exact z_
  have zf1 := congrArg Int32.toInt ef1
  obtain ⟨f2, ef2⟩ : ∃ f_, h 76 0 = f_ := ⟨_, rfl⟩
  have bf2 : B f2 0 60 := by have z_ := hJ0.1 76 0; rw [ef2] at z_; exact z_
  have zf2 := congrArg Int32.toInt ef2
  obtain ⟨f3, ef3⟩ : ∃ f_, h 76 1 = f_ := ⟨_, rfl⟩
  have bf3 : B f3 0 60 := by have z_ := hJ0.1 76 1; rw [ef3] at z_; exact z_
  have zf3 := congrArg Int32.toInt ef3
  obtain ⟨f4, ef4⟩ : ∃ f_, h 76 2 = f_ := ⟨_, rfl⟩
  have bf4 : B f4 0 60 := by have z_ := hJ0.1 76 2; rw [ef4] at z_; exact z_
  have zf4 := congrArg Int32.toInt ef4
  obtain ⟨f5, ef5⟩ : ∃ f_, h 76 3 = f_ := ⟨_, rfl⟩
  have bf5 : B f5 0 60 := by have z_ := hJ0.1 76 3; rw [ef5] at z_; exact z_
  have zf5 := congrArg Int32.toInt ef5
  refine ev_aload_n rfl rfl rfl ?_
  refine ev_dup rfl rfl rfl ?_
  refine ev_getV (v := f0) rfl rfl fl_X10_241 rfl rfl rfl ef0 ?_
  refine ev_iconst (v := 1) rfl rfl (by decide) ?_
  refine ev_isubB (l := 0) (u := 3) rfl rfl q0 (by decide : B 1 1 1) (by decide) (by decide) (by decide) (by decide) (fun v6 b6 e6 g6 => ?_)
  have e6x := e6; rw [show (1 : Int32).toInt = 1 from by decide] at e6x
  refine ev_putW (l := 0) (u := 4) hJ0 rfl b6 (by decide) (by decide) rfl rfl rfl fl_X10_241 rfl rfl rfl rfl rfl (fun h7 hJ7 k7 => ?_)
  refine ev_aload_n rfl rfl rfl ?_
  refine ev_getR (y := 76) rfl rfl fl_X10_60 rfl rfl rfl rfl ?_
  refine ev_aload_n rfl rfl rfl ?_
  refine ev_getV (v := v6) rfl rfl fl_X10_241 rfl rfl rfl (rd_s k7) ?_
  rcases B.c4 b6 with rfl | rfl | rfl | rfl
  · refine ev_iadV (j := 0) (v := f2) rfl rfl rfl (by unfold vp_in; decide) (by decide) (rd_o k7 ef2 rfl) ?_
    refine ev_istore_n rfl rfl rfl rfl ?_
    dsimp only [List.set]
    refine ev_aload_n rfl rfl rfl ?_
    refine ev_getV (v := f1) rfl rfl fl_X10_234 rfl rfl rfl (rd_o k7 ef1 rfl) ?_
    refine ev_iload_n rfl rfl rfl ?_
    refine ev_isubB (l := -60) (u := 60) rfl rfl bf1 bf2 (by decide) (by decide) (by decide) (by decide) (fun v8 b8 e8 g8 => ?_)
    refine ev_istore_n rfl rfl rfl rfl ?_
    dsimp only [List.set]
    refine ev_iload_n rfl rfl rfl ?_
    refine ev_aload_n rfl rfl rfl ?_
    refine ev_getR (y := 77) rfl rfl fl_X10_63 rfl rfl rfl rfl ?_
    refine ev_aload_n rfl rfl rfl ?_
    refine ev_getV (v := 0) rfl rfl fl_X10_241 rfl rfl rfl (rd_s k7) ?_
    refine ev_ialK (j := 0) (n := 5) (l := 0) (u := 20) hJ7.1 (by decide : B 0 0 0) (by decide) (by decide) (by decide) rfl rfl rfl rfl (fun v9 b9 e9 => ?_)
    have b10 : B v8 0 60 := ⟨(by have z0_ := congrArg Int32.toInt (rd_o k7 ef1 rfl); have z1_ := congrArg Int32.toInt (rd_s k7); have z2_ := congrArg Int32.toInt (rd_o k7 ef2 rfl); have z3_ := congrArg Int32.toInt (rd_o k7 ef3 rfl); have z4_ := congrArg Int32.toInt (rd_o k7 ef4 rfl); have z5_ := congrArg Int32.toInt (rd_o k7 ef5 rfl); have z_ := w_lits; have zl_ := l_lits; omega), (by have z0_ := congrArg Int32.toInt (rd_o k7 ef1 rfl); have z1_ := congrArg Int32.toInt (rd_s k7); have z2_ := congrArg Int32.toInt (rd_o k7 ef2 rfl); have z3_ := congrArg Int32.toInt (rd_o k7 ef3 rfl); have z4_ := congrArg Int32.toInt (rd_o k7 ef4 rfl); have z5_ := congrArg Int32.toInt (rd_o k7 ef5 rfl); have z_ := w_lits; have zl_ := l_lits; omega)⟩
    refine ev_imulB (l := 0) (u := 1200) rfl rfl b10 b9 (by decide) (by decide) (by decide) (by decide) (by decide) (fun v11 b11 e11 g11 => ?_)
    clear e11
    refine ev_iload_n rfl rfl rfl ?_
    refine ev_iaddB (l := 0) (u := 1260) rfl rfl b11 bf2 (by decide) (by decide) (by decide) (by decide) (fun v12 b12 e12 g12 => ?_)
    refine ev_bipush (v := 24) rfl rfl (by decide) ?_
    refine ev_icmp_le rfl rfl (fun c13 => ?_) (fun c13 => ?_)
    · have b14 : B v12 0 24 := R_leX b12 (by decide : B 24 24 24) c13 (by decide)
      have z15 := w_le c13
      rw [show (24 : Int32).toInt = 24 from by decide] at z15
      refine ev_iload_n rfl rfl rfl ?_
      refine ev_istore_n rfl rfl rfl rfl ?_
      dsimp only [List.set]
      have lp55_104 : ∀ (n : Nat) (w105 : Int32) (h107 : Hp), B w105 0 1200 → JW [(63, 27), (63, 28), (63, 31), (75, 999)] h h107 → (h107 63 31 = 0) → (h107 63 27 = f1) → (h107 76 0 = f2) → (h107 76 1 = f3) → (h107 76 2 = f4) → (h107 76 3 = f5) → (h107 77 0 = v9) → (v8.toInt ≤ w105.toInt) → 1200 + 1 - w105.toInt ≤ (n : Int) → EvQ mi_X10_closes 55 [some (.ref 63), some (.int f2), some (.int v8), some (.int w105)] [] (G0 L b) h107 0 0 (QK (fun z : Hp => ((0 < (z 63 31).toInt → (z 76 0).toInt ≤ (z 63 27).toInt)) ∧ ((1 < (z 63 31).toInt → (z 76 0).toInt ≤ (z 76 1).toInt ∧ (z 76 1).toInt ≤ (z 63 27).toInt)) ∧ ((2 < (z 63 31).toInt → (z 76 1).toInt ≤ (z 76 2).toInt ∧ (z 76 2).toInt ≤ (z 63 27).toInt)) ∧ ((3 < (z 63 31).toInt → (z 76 2).toInt ≤ (z 76 3).toInt ∧ (z 76 3).toInt ≤ (z 63 27).toInt))) [(63, 27), (63, 28), (63, 31), (75, 999)] (G0 L b) h) := by
        intro n
        induction n with
        | zero =>
          intro w105 h107 b106 hJ108 z109 z110 z111 z112 z113 z114 z115 y55_0 hm55
          exact absurd hm55 (L_zero b106 (by decide))
        | succ n ih55 =>
          intro w105 h107 b106 hJ108 z109 z110 z111 z112 z113 z114 z115 y55_0 hm55
          have z116 := congrArg Int32.toInt z110
          have z117 := congrArg Int32.toInt z109
          have z118 := congrArg Int32.toInt z111
          have z119 := congrArg Int32.toInt z112
          have z120 := congrArg Int32.toInt z113
          have z121 := congrArg Int32.toInt z114
          refine ev_iload_n rfl rfl rfl ?_
          refine ev_iload_n rfl rfl rfl ?_
          refine ev_aload_n rfl rfl rfl ?_
          refine ev_getR (y := 77) rfl rfl fl_X10_63 rfl rfl rfl rfl ?_
          refine ev_aload_n rfl rfl rfl ?_
          refine ev_getV (v := 0) rfl rfl fl_X10_241 rfl rfl rfl z109 ?_
          refine ev_iadV (j := 0) (v := v9) rfl rfl rfl (by unfold vp_in; decide) (by decide) z115 ?_
          refine ev_imulV g11 rfl rfl ?_
          refine ev_icmp_ge rfl rfl (fun c122 => ?_) (fun c122 => ?_)
          · have z123 := w_le c122
            refine ev_aload_n rfl rfl rfl ?_
            refine ev_iload_n rfl rfl rfl ?_
            refine ev_iload_n rfl rfl rfl ?_
            refine ev_aload_n rfl rfl rfl ?_
            refine ev_getR (y := 77) rfl rfl fl_X10_63 rfl rfl rfl rfl ?_
            refine ev_aload_n rfl rfl rfl ?_
            refine ev_getV (v := 0) rfl rfl fl_X10_241 rfl rfl rfl z109 ?_
            refine ev_iadV (j := 0) (v := v9) rfl rfl rfl (by unfold vp_in; decide) (by decide) z115 ?_
            refine ev_imulV g11 rfl rfl ?_
            refine ev_iaddB (l := 0) (u := 1260) rfl rfl bf2 b11 (by decide) (by decide) (by decide) (by decide) (fun v127 b127 e127 g127 => ?_)
            have b128 : B v127 0 60 := ⟨(by have z0_ := congrArg Int32.toInt z110; have z1_ := congrArg Int32.toInt z109; have z2_ := congrArg Int32.toInt z111; have z3_ := congrArg Int32.toInt z112; have z4_ := congrArg Int32.toInt z113; have z5_ := congrArg Int32.toInt z114; have z_ := w_lits; have zl_ := l_lits; omega), (by have z0_ := congrArg Int32.toInt z110; have z1_ := congrArg Int32.toInt z109; have z2_ := congrArg Int32.toInt z111; have z3_ := congrArg Int32.toInt z112; have z4_ := congrArg Int32.toInt z113; have z5_ := congrArg Int32.toInt z114; have z_ := w_lits; have zl_ := l_lits; omega)⟩
            refine ev_putW (l := 0) (u := 60) hJ108 rfl b128 (by decide) (by decide) rfl rfl rfl fl_X10_234 rfl rfl rfl rfl rfl (fun h129 hJ129 k129 => ?_)
            exact ev_vret rfl rfl trivial ⟨rfl, rfl, hJ129, (by have z0_ := congrArg Int32.toInt (rd_s k129); have z1_ := congrArg Int32.toInt (rd_o k129 z109 rfl); have z2_ := congrArg Int32.toInt (rd_o k129 z111 rfl); have z3_ := congrArg Int32.toInt (rd_o k129 z112 rfl); have z4_ := congrArg Int32.toInt (rd_o k129 z113 rfl); have z5_ := congrArg Int32.toInt (rd_o k129 z114 rfl); have z_ := w_lits; have zl_ := l_lits; omega), (by have z0_ := congrArg Int32.toInt (rd_s k129); have z1_ := congrArg Int32.toInt (rd_o k129 z109 rfl); have z2_ := congrArg Int32.toInt (rd_o k129 z111 rfl); have z3_ := congrArg Int32.toInt (rd_o k129 z112 rfl); have z4_ := congrArg Int32.toInt (rd_o k129 z113 rfl); have z5_ := congrArg Int32.toInt (rd_o k129 z114 rfl); have z_ := w_lits; have zl_ := l_lits; omega), (by have z0_ := congrArg Int32.toInt (rd_s k129); have z1_ := congrArg Int32.toInt (rd_o k129 z109 rfl); have z2_ := congrArg Int32.toInt (rd_o k129 z111 rfl); have z3_ := congrArg Int32.toInt (rd_o k129 z112 rfl); have z4_ := congrArg Int32.toInt (rd_o k129 z113 rfl); have z5_ := congrArg Int32.toInt (rd_o k129 z114 rfl); have z_ := w_lits; have zl_ := l_lits; omega), (by have z0_ := congrArg Int32.toInt (rd_s k129); have z1_ := congrArg Int32.toInt (rd_o k129 z109 rfl); have z2_ := congrArg Int32.toInt (rd_o k129 z111 rfl); have z3_ := congrArg Int32.toInt (rd_o k129 z112 rfl); have z4_ := congrArg Int32.toInt (rd_o k129 z113 rfl); have z5_ := congrArg Int32.toInt (rd_o k129 z114 rfl); have z_ := w_lits; have zl_ := l_lits; omega)⟩
          · have b124 : B w105 0 1199 := R_ltX b106 b11 (Int32.not_le.mp c122) (by decide)
            have b125 : B v11 1 1200 := R_ltY b106 b11 (Int32.not_le.mp c122) (by decide)
            have z126 := w_lt (Int32.not_le.mp c122)
            refine ev_aload_n rfl rfl rfl ?_
            refine ev_getR (y := 75) rfl rfl fl_X10_57 rfl rfl rfl rfl ?_
            refine ev_iload_n rfl rfl rfl ?_
            refine ev_iload_n rfl rfl rfl ?_
            refine ev_iaddB (l := 0) (u := 1259) rfl rfl bf2 b124 (by decide) (by decide) (by decide) (by decide) (fun v130 b130 e130 g130 => ?_)
            refine ev_aload_n rfl rfl rfl ?_
            refine ev_getR (y := 75) rfl rfl fl_X10_57 rfl rfl rfl rfl ?_
            refine ev_iload_n rfl rfl rfl ?_
            refine ev_iload_n rfl rfl rfl ?_
            refine ev_iaddV g130 rfl rfl ?_
            refine ev_iload_n rfl rfl rfl ?_
            refine ev_isubB (l := -60) (u := 1259) rfl rfl b130 b10 (by decide) (by decide) (by decide) (by decide) (fun v131 b131 e131 g131 => ?_)
            have b132 : B v131 0 63 := ⟨(by have z0_ := congrArg Int32.toInt z110; have z1_ := congrArg Int32.toInt z109; have z2_ := congrArg Int32.toInt z111; have z3_ := congrArg Int32.toInt z112; have z4_ := congrArg Int32.toInt z113; have z5_ := congrArg Int32.toInt z114; have z_ := w_lits; have zl_ := l_lits; omega), (by have z0_ := congrArg Int32.toInt z110; have z1_ := congrArg Int32.toInt z109; have z2_ := congrArg Int32.toInt z111; have z3_ := congrArg Int32.toInt z112; have z4_ := congrArg Int32.toInt z113; have z5_ := congrArg Int32.toInt z114; have z_ := w_lits; have zl_ := l_lits; omega)⟩
            refine ev_ialW (n := 64) (l := 0) (u := 4095) hJ108.1 b132 (by decide) (by decide) (fun _ => rfl) rfl rfl rfl (fun v133 b133 e133 => ?_)
            have b134 : B v130 0 63 := ⟨(by have z0_ := congrArg Int32.toInt z110; have z1_ := congrArg Int32.toInt z109; have z2_ := congrArg Int32.toInt z111; have z3_ := congrArg Int32.toInt z112; have z4_ := congrArg Int32.toInt z113; have z5_ := congrArg Int32.toInt z114; have z_ := w_lits; have zl_ := l_lits; omega), (by have z0_ := congrArg Int32.toInt z110; have z1_ := congrArg Int32.toInt z109; have z2_ := congrArg Int32.toInt z111; have z3_ := congrArg Int32.toInt z112; have z4_ := congrArg Int32.toInt z113; have z5_ := congrArg Int32.toInt z114; have z_ := w_lits; have zl_ := l_lits; omega)⟩
            refine ev_iasW (n := 64) (l := 0) (u := 4095) hJ108 b134 (by decide) (by decide) (fun _ => rfl) b133 (by decide) (by decide) (fun _ => rfl) rfl rfl rfl rfl (fun h135 hJ135 k135 => ?_)
            refine ev_iincB (y := 1) (l := 1) (u := 1200) rfl rfl rfl (by decide) rfl rfl b124 (by decide : B 1 1 1) (by decide) (by decide) (by decide) (by decide) (fun v136 b136 e136 => ?_)
            dsimp only [List.set]
            have e136x := e136; rw [show (1 : Int32).toInt = 1 from by decide] at e136x
            refine ev_goto rfl rfl ?_
            exact (ih55 v136 h135 (b136.mono (by decide) (by decide)) hJ135 (rd_a k135 z109 rfl) (rd_a k135 z110 rfl) (rd_a k135 z111 rfl) (rd_a k135 z112 rfl) (rd_a k135 z113 rfl) (rd_a k135 z114 rfl) (rd_a k135 z115 rfl) (by have z0_ := congrArg Int32.toInt (rd_a k135 z110 rfl); have z1_ := congrArg Int32.toInt (rd_a k135 z109 rfl); have z2_ := congrArg Int32.toInt (rd_a k135 z111 rfl); have z3_ := congrArg Int32.toInt (rd_a k135 z112 rfl); have z4_ := congrArg Int32.toInt (rd_a k135 z113 rfl); have z5_ := congrArg Int32.toInt (rd_a k135 z114 rfl); have z_ := w_lits; have zl_ := l_lits; omega) (L_up hm55 (e_p1 e136 (by decide))))
      exact (lp55_104 1201 v8 h7 (b10.mono (by decide) (by decide)) hJ7 (rd_s k7) (rd_o k7 ef1 rfl) (rd_o k7 ef2 rfl) (rd_o k7 ef3 rfl) (rd_o k7 ef4 rfl) (rd_o k7 ef5 rfl) e9 (by have z0_ := congrArg Int32.toInt (rd_o k7 ef1 rfl); have z1_ := congrArg Int32.toInt (rd_s k7); have z2_ := congrArg Int32.toInt (rd_o k7 ef2 rfl); have z3_ := congrArg Int32.toInt (rd_o k7 ef3 rfl); have z4_ := congrArg Int32.toInt (rd_o k7 ef4 rfl); have z5_ := congrArg Int32.toInt (rd_o k7 ef5 rfl); have z_ := w_lits; have zl_ := l_lits; omega) (L_init b10 (by decide)))
    · have b16 : B v12 25 1260 := R_ltY (by decide : B 24 24 24) b12 (Int32.not_le.mp c13) (by decide)
      have z17 := w_lt (Int32.not_le.mp c13)
      rw [show (24 : Int32).toInt = 24 from by decide] at z17
      refine ev_aload_n rfl rfl rfl ?_
      refine ev_iconst (v := 1) rfl rfl (by decide) ?_
      refine ev_puzW (l := (-2147483648)) (u := 2147483647) hJ7 rfl ((by decide : B 1 1 1).mono (by decide) (by decide)) (by decide) (by decide) rfl rfl rfl fl_X10_237 rfl rfl rfl rfl rfl (fun h137 hJ137 k137 => ?_)
      refine ev_goto rfl rfl ?_
      exact ev_vret rfl rfl trivial ⟨rfl, rfl, hJ137, (by have z0_ := congrArg Int32.toInt (rd_o k137 (rd_o k7 ef1 rfl) rfl); have z1_ := congrArg Int32.toInt (rd_o k137 (rd_s k7) rfl); have z2_ := congrArg Int32.toInt (rd_o k137 (rd_o k7 ef2 rfl) rfl); have z3_ := congrArg Int32.toInt (rd_o k137 (rd_o k7 ef3 rfl) rfl); have z4_ := congrArg Int32.toInt (rd_o k137 (rd_o k7 ef4 rfl) rfl); have z5_ := congrArg Int32.toInt (rd_o k137 (rd_o k7 ef5 rfl) rfl); have z_ := w_lits; have zl_ := l_lits; omega), (by have z0_ := congrArg Int32.toInt (rd_o k137 (rd_o k7 ef1 rfl) rfl); have z1_ := congrArg Int32.toInt (rd_o k137 (rd_s k7) rfl); have z2_ := congrArg Int32.toInt (rd_o k137 (rd_o k7 ef2 rfl) rfl); have z3_ := congrArg Int32.toInt (rd_o k137 (rd_o k7 ef3 rfl) rfl); have z4_ := congrArg Int32.toInt (rd_o k137 (rd_o k7 ef4 rfl) rfl); have z5_ := congrArg Int32.toInt (rd_o k137 (rd_o k7 ef5 rfl) rfl); have z_ := w_lits; have zl_ := l_lits; omega), (by have z0_ := congrArg Int32.toInt (rd_o k137 (rd_o k7 ef1 rfl) rfl); have z1_ := congrArg Int32.toInt (rd_o k137 (rd_s k7) rfl); have z2_ := congrArg Int32.toInt (rd_o k137 (rd_o k7 ef2 rfl) rfl); have z3_ := congrArg Int32.toInt (rd_o k137 (rd_o k7 ef3 rfl) rfl); have z4_ := congrArg Int32.toInt (rd_o k137 (rd_o k7 ef4 rfl) rfl); have z5_ := congrArg Int32.toInt (rd_o k137 (rd_o k7 ef5 rfl) rfl); have z_ := w_lits; have zl_ := l_lits; omega), (by have z0_ := congrArg Int32.toInt (rd_o k137 (rd_o k7 ef1 rfl) rfl); have z1_ := congrArg Int32.toInt (rd_o k137 (rd_s k7) rfl); have z2_ := congrArg Int32.toInt (rd_o k137 (rd_o k7 ef2 rfl) rfl); have z3_ := congrArg Int32.toInt (rd_o k137 (rd_o k7 ef3 rfl) rfl); have z4_ := congrArg Int32.toInt (rd_o k137 (rd_o k7 ef4 rfl) rfl); have z5_ := congrArg Int32.toInt (rd_o k137 (rd_o k7 ef5 rfl) rfl); have z_ := w_lits; have zl_ := l_lits; omega)⟩
  · refine ev_iadV (j := 1) (v := f3) rfl rfl rfl (by unfold vp_in; decide) (by decide) (rd_o k7 ef3 rfl) ?_
    refine ev_istore_n rfl rfl rfl rfl ?_
    dsimp only [List.set]
    refine ev_aload_n rfl rfl rfl ?_
    refine ev_getV (v := f1) rfl rfl fl_X10_234 rfl rfl rfl (rd_o k7 ef1 rfl) ?_
    refine ev_iload_n rfl rfl rfl ?_
    refine ev_isubB (l := -60) (u := 60) rfl rfl bf1 bf3 (by decide) (by decide) (by decide) (by decide) (fun v138 b138 e138 g138 => ?_)
    refine ev_istore_n rfl rfl rfl rfl ?_
    dsimp only [List.set]
    refine ev_iload_n rfl rfl rfl ?_
    refine ev_aload_n rfl rfl rfl ?_
    refine ev_getR (y := 77) rfl rfl fl_X10_63 rfl rfl rfl rfl ?_
    refine ev_aload_n rfl rfl rfl ?_
    refine ev_getV (v := 1) rfl rfl fl_X10_241 rfl rfl rfl (rd_s k7) ?_
    refine ev_ialK (j := 1) (n := 5) (l := 0) (u := 20) hJ7.1 (by decide : B 1 1 1) (by decide) (by decide) (by decide) rfl rfl rfl rfl (fun v139 b139 e139 => ?_)
    have b140 : B v138 0 60 := ⟨(by have z0_ := congrArg Int32.toInt (rd_o k7 ef1 rfl); have z1_ := congrArg Int32.toInt (rd_s k7); have z2_ := congrArg Int32.toInt (rd_o k7 ef2 rfl); have z3_ := congrArg Int32.toInt (rd_o k7 ef3 rfl); have z4_ := congrArg Int32.toInt (rd_o k7 ef4 rfl); have z5_ := congrArg Int32.toInt (rd_o k7 ef5 rfl); have z_ := w_lits; have zl_ := l_lits; omega), (by have z0_ := congrArg Int32.toInt (rd_o k7 ef1 rfl); have z1_ := congrArg Int32.toInt (rd_s k7); have z2_ := congrArg Int32.toInt (rd_o k7 ef2 rfl); have z3_ := congrArg Int32.toInt (rd_o k7 ef3 rfl); have z4_ := congrArg Int32.toInt (rd_o k7 ef4 rfl); have z5_ := congrArg Int32.toInt (rd_o k7 ef5 rfl); have z_ := w_lits; have zl_ := l_lits; omega)⟩
    refine ev_imulB (l := 0) (u := 1200) rfl rfl b140 b139 (by decide) (by decide) (by decide) (by decide) (by decide) (fun v141 b141 e141 g141 => ?_)
    clear e141
    refine ev_iload_n rfl rfl rfl ?_
    refine ev_iaddB (l := 0) (u := 1260) rfl rfl b141 bf3 (by decide) (by decide) (by decide) (by decide) (fun v142 b142 e142 g142 => ?_)
    refine ev_bipush (v := 24) rfl rfl (by decide) ?_
    refine ev_icmp_le rfl rfl (fun c143 => ?_) (fun c143 => ?_)
    · have b144 : B v142 0 24 := R_leX b142 (by decide : B 24 24 24) c143 (by decide)
      have z145 := w_le c143
      rw [show (24 : Int32).toInt = 24 from by decide] at z145
      refine ev_iload_n rfl rfl rfl ?_
      refine ev_istore_n rfl rfl rfl rfl ?_
      dsimp only [List.set]
      have lp55_234 : ∀ (n : Nat) (w235 : Int32) (h237 : Hp), B w235 0 1200 → JW [(63, 27), (63, 28), (63, 31), (75, 999)] h h237 → (h237 63 31 = 1) → (h237 63 27 = f1) → (h237 76 0 = f2) → (h237 76 1 = f3) → (h237 76 2 = f4) → (h237 76 3 = f5) → (h237 77 1 = v139) → (v138.toInt ≤ w235.toInt) → 1200 + 1 - w235.toInt ≤ (n : Int) → EvQ mi_X10_closes 55 [some (.ref 63), some (.int f3), some (.int v138), some (.int w235)] [] (G0 L b) h237 0 0 (QK (fun z : Hp => ((0 < (z 63 31).toInt → (z 76 0).toInt ≤ (z 63 27).toInt)) ∧ ((1 < (z 63 31).toInt → (z 76 0).toInt ≤ (z 76 1).toInt ∧ (z 76 1).toInt ≤ (z 63 27).toInt)) ∧ ((2 < (z 63 31).toInt → (z 76 1).toInt ≤ (z 76 2).toInt ∧ (z 76 2).toInt ≤ (z 63 27).toInt)) ∧ ((3 < (z 63 31).toInt → (z 76 2).toInt ≤ (z 76 3).toInt ∧ (z 76 3).toInt ≤ (z 63 27).toInt))) [(63, 27), (63, 28), (63, 31), (75, 999)] (G0 L b) h) := by
        intro n
        induction n with
        | zero =>
          intro w235 h237 b236 hJ238 z239 z240 z241 z242 z243 z244 z245 y55_0 hm55
          exact absurd hm55 (L_zero b236 (by decide))
        | succ n ih55 =>
          intro w235 h237 b236 hJ238 z239 z240 z241 z242 z243 z244 z245 y55_0 hm55
          have z246 := congrArg Int32.toInt z240
          have z247 := congrArg Int32.toInt z239
          have z248 := congrArg Int32.toInt z241
          have z249 := congrArg Int32.toInt z242
          have z250 := congrArg Int32.toInt z243
          have z251 := congrArg Int32.toInt z244
          refine ev_iload_n rfl rfl rfl ?_
          refine ev_iload_n rfl rfl rfl ?_
          refine ev_aload_n rfl rfl rfl ?_
          refine ev_getR (y := 77) rfl rfl fl_X10_63 rfl rfl rfl rfl ?_
          refine ev_aload_n rfl rfl rfl ?_
          refine ev_getV (v := 1) rfl rfl fl_X10_241 rfl rfl rfl z239 ?_
          refine ev_iadV (j := 1) (v := v139) rfl rfl rfl (by unfold vp_in; decide) (by decide) z245 ?_
          refine ev_imulV g141 rfl rfl ?_
          refine ev_icmp_ge rfl rfl (fun c252 => ?_) (fun c252 => ?_)
          · have z253 := w_le c252
            refine ev_aload_n rfl rfl rfl ?_
            refine ev_iload_n rfl rfl rfl ?_
            refine ev_iload_n rfl rfl rfl ?_
            refine ev_aload_n rfl rfl rfl ?_
            refine ev_getR (y := 77) rfl rfl fl_X10_63 rfl rfl rfl rfl ?_
            refine ev_aload_n rfl rfl rfl ?_
            refine ev_getV (v := 1) rfl rfl fl_X10_241 rfl rfl rfl z239 ?_
            refine ev_iadV (j := 1) (v := v139) rfl rfl rfl (by unfold vp_in; decide) (by decide) z245 ?_
            refine ev_imulV g141 rfl rfl ?_
            refine ev_iaddB (l := 0) (u := 1260) rfl rfl bf3 b141 (by decide) (by decide) (by decide) (by decide) (fun v257 b257 e257 g257 => ?_)
            have b258 : B v257 0 60 := ⟨(by have z0_ := congrArg Int32.toInt z240; have z1_ := congrArg Int32.toInt z239; have z2_ := congrArg Int32.toInt z241; have z3_ := congrArg Int32.toInt z242; have z4_ := congrArg Int32.toInt z243; have z5_ := congrArg Int32.toInt z244; have z_ := w_lits; have zl_ := l_lits; omega), (by have z0_ := congrArg Int32.toInt z240; have z1_ := congrArg Int32.toInt z239; have z2_ := congrArg Int32.toInt z241; have z3_ := congrArg Int32.toInt z242; have z4_ := congrArg Int32.toInt z243; have z5_ := congrArg Int32.toInt z244; have z_ := w_lits; have zl_ := l_lits; omega)⟩
            refine ev_putW (l := 0) (u := 60) hJ238 rfl b258 (by decide) (by decide) rfl rfl rfl fl_X10_234 rfl rfl rfl rfl rfl (fun h259 hJ259 k259 => ?_)
            exact ev_vret rfl rfl trivial ⟨rfl, rfl, hJ259, (by have z0_ := congrArg Int32.toInt (rd_s k259); have z1_ := congrArg Int32.toInt (rd_o k259 z239 rfl); have z2_ := congrArg Int32.toInt (rd_o k259 z241 rfl); have z3_ := congrArg Int32.toInt (rd_o k259 z242 rfl); have z4_ := congrArg Int32.toInt (rd_o k259 z243 rfl); have z5_ := congrArg Int32.toInt (rd_o k259 z244 rfl); have z_ := w_lits; have zl_ := l_lits; omega), (by have z0_ := congrArg Int32.toInt (rd_s k259); have z1_ := congrArg Int32.toInt (rd_o k259 z239 rfl); have z2_ := congrArg Int32.toInt (rd_o k259 z241 rfl); have z3_ := congrArg Int32.toInt (rd_o k259 z242 rfl); have z4_ := congrArg Int32.toInt (rd_o k259 z243 rfl); have z5_ := congrArg Int32.toInt (rd_o k259 z244 rfl); have z_ := w_lits; have zl_ := l_lits; omega), (by have z0_ := congrArg Int32.toInt (rd_s k259); have z1_ := congrArg Int32.toInt (rd_o k259 z239 rfl); have z2_ := congrArg Int32.toInt (rd_o k259 z241 rfl); have z3_ := congrArg Int32.toInt (rd_o k259 z242 rfl); have z4_ := congrArg Int32.toInt (rd_o k259 z243 rfl); have z5_ := congrArg Int32.toInt (rd_o k259 z244 rfl); have z_ := w_lits; have zl_ := l_lits; omega), (by have z0_ := congrArg Int32.toInt (rd_s k259); have z1_ := congrArg Int32.toInt (rd_o k259 z239 rfl); have z2_ := congrArg Int32.toInt (rd_o k259 z241 rfl); have z3_ := congrArg Int32.toInt (rd_o k259 z242 rfl); have z4_ := congrArg Int32.toInt (rd_o k259 z243 rfl); have z5_ := congrArg Int32.toInt (rd_o k259 z244 rfl); have z_ := w_lits; have zl_ := l_lits; omega)⟩
          · have b254 : B w235 0 1199 := R_ltX b236 b141 (Int32.not_le.mp c252) (by decide)
            have b255 : B v141 1 1200 := R_ltY b236 b141 (Int32.not_le.mp c252) (by decide)
            have z256 := w_lt (Int32.not_le.mp c252)
            refine ev_aload_n rfl rfl rfl ?_
            refine ev_getR (y := 75) rfl rfl fl_X10_57 rfl rfl rfl rfl ?_
            refine ev_iload_n rfl rfl rfl ?_
            refine ev_iload_n rfl rfl rfl ?_
            refine ev_iaddB (l := 0) (u := 1259) rfl rfl bf3 b254 (by decide) (by decide) (by decide) (by decide) (fun v260 b260 e260 g260 => ?_)
            refine ev_aload_n rfl rfl rfl ?_
            refine ev_getR (y := 75) rfl rfl fl_X10_57 rfl rfl rfl rfl ?_
            refine ev_iload_n rfl rfl rfl ?_
            refine ev_iload_n rfl rfl rfl ?_
            refine ev_iaddV g260 rfl rfl ?_
            refine ev_iload_n rfl rfl rfl ?_
            refine ev_isubB (l := -60) (u := 1259) rfl rfl b260 b140 (by decide) (by decide) (by decide) (by decide) (fun v261 b261 e261 g261 => ?_)
            have b262 : B v261 0 63 := ⟨(by have z0_ := congrArg Int32.toInt z240; have z1_ := congrArg Int32.toInt z239; have z2_ := congrArg Int32.toInt z241; have z3_ := congrArg Int32.toInt z242; have z4_ := congrArg Int32.toInt z243; have z5_ := congrArg Int32.toInt z244; have z_ := w_lits; have zl_ := l_lits; omega), (by have z0_ := congrArg Int32.toInt z240; have z1_ := congrArg Int32.toInt z239; have z2_ := congrArg Int32.toInt z241; have z3_ := congrArg Int32.toInt z242; have z4_ := congrArg Int32.toInt z243; have z5_ := congrArg Int32.toInt z244; have z_ := w_lits; have zl_ := l_lits; omega)⟩
            refine ev_ialW (n := 64) (l := 0) (u := 4095) hJ238.1 b262 (by decide) (by decide) (fun _ => rfl) rfl rfl rfl (fun v263 b263 e263 => ?_)
            have b264 : B v260 0 63 := ⟨(by have z0_ := congrArg Int32.toInt z240; have z1_ := congrArg Int32.toInt z239; have z2_ := congrArg Int32.toInt z241; have z3_ := congrArg Int32.toInt z242; have z4_ := congrArg Int32.toInt z243; have z5_ := congrArg Int32.toInt z244; have z_ := w_lits; have zl_ := l_lits; omega), (by have z0_ := congrArg Int32.toInt z240; have z1_ := congrArg Int32.toInt z239; have z2_ := congrArg Int32.toInt z241; have z3_ := congrArg Int32.toInt z242; have z4_ := congrArg Int32.toInt z243; have z5_ := congrArg Int32.toInt z244; have z_ := w_lits; have zl_ := l_lits; omega)⟩
            refine ev_iasW (n := 64) (l := 0) (u := 4095) hJ238 b264 (by decide) (by decide) (fun _ => rfl) b263 (by decide) (by decide) (fun _ => rfl) rfl rfl rfl rfl (fun h265 hJ265 k265 => ?_)
            refine ev_iincB (y := 1) (l := 1) (u := 1200) rfl rfl rfl (by decide) rfl rfl b254 (by decide : B 1 1 1) (by decide) (by decide) (by decide) (by decide) (fun v266 b266 e266 => ?_)
            dsimp only [List.set]
            have e266x := e266; rw [show (1 : Int32).toInt = 1 from by decide] at e266x
            refine ev_goto rfl rfl ?_
            exact (ih55 v266 h265 (b266.mono (by decide) (by decide)) hJ265 (rd_a k265 z239 rfl) (rd_a k265 z240 rfl) (rd_a k265 z241 rfl) (rd_a k265 z242 rfl) (rd_a k265 z243 rfl) (rd_a k265 z244 rfl) (rd_a k265 z245 rfl) (by have z0_ := congrArg Int32.toInt (rd_a k265 z240 rfl); have z1_ := congrArg Int32.toInt (rd_a k265 z239 rfl); have z2_ := congrArg Int32.toInt (rd_a k265 z241 rfl); have z3_ := congrArg Int32.toInt (rd_a k265 z242 rfl); have z4_ := congrArg Int32.toInt (rd_a k265 z243 rfl); have z5_ := congrArg Int32.toInt (rd_a k265 z244 rfl); have z_ := w_lits; have zl_ := l_lits; omega) (L_up hm55 (e_p1 e266 (by decide))))
      exact (lp55_234 1201 v138 h7 (b140.mono (by decide) (by decide)) hJ7 (rd_s k7) (rd_o k7 ef1 rfl) (rd_o k7 ef2 rfl) (rd_o k7 ef3 rfl) (rd_o k7 ef4 rfl) (rd_o k7 ef5 rfl) e139 (by have z0_ := congrArg Int32.toInt (rd_o k7 ef1 rfl); have z1_ := congrArg Int32.toInt (rd_s k7); have z2_ := congrArg Int32.toInt (rd_o k7 ef2 rfl); have z3_ := congrArg Int32.toInt (rd_o k7 ef3 rfl); have z4_ := congrArg Int32.toInt (rd_o k7 ef4 rfl); have z5_ := congrArg Int32.toInt (rd_o k7 ef5 rfl); have z_ := w_lits; have zl_ := l_lits; omega) (L_init b140 (by decide)))
    · have b146 : B v142 25 1260 := R_ltY (by decide : B 24 24 24) b142 (Int32.not_le.mp c143) (by decide)
      have z147 := w_lt (Int32.not_le.mp c143)
      rw [show (24 : Int32).toInt = 24 from by decide] at z147
      refine ev_aload_n rfl rfl rfl ?_
      refine ev_iconst (v := 1) rfl rfl (by decide) ?_
      refine ev_puzW (l := (-2147483648)) (u := 2147483647) hJ7 rfl ((by decide : B 1 1 1).mono (by decide) (by decide)) (by decide) (by decide) rfl rfl rfl fl_X10_237 rfl rfl rfl rfl rfl (fun h267 hJ267 k267 => ?_)
      refine ev_goto rfl rfl ?_
      exact ev_vret rfl rfl trivial ⟨rfl, rfl, hJ267, (by have z0_ := congrArg Int32.toInt (rd_o k267 (rd_o k7 ef1 rfl) rfl); have z1_ := congrArg Int32.toInt (rd_o k267 (rd_s k7) rfl); have z2_ := congrArg Int32.toInt (rd_o k267 (rd_o k7 ef2 rfl) rfl); have z3_ := congrArg Int32.toInt (rd_o k267 (rd_o k7 ef3 rfl) rfl); have z4_ := congrArg Int32.toInt (rd_o k267 (rd_o k7 ef4 rfl) rfl); have z5_ := congrArg Int32.toInt (rd_o k267 (rd_o k7 ef5 rfl) rfl); have z_ := w_lits; have zl_ := l_lits; omega), (by have z0_ := congrArg Int32.toInt (rd_o k267 (rd_o k7 ef1 rfl) rfl); have z1_ := congrArg Int32.toInt (rd_o k267 (rd_s k7) rfl); have z2_ := congrArg Int32.toInt (rd_o k267 (rd_o k7 ef2 rfl) rfl); have z3_ := congrArg Int32.toInt (rd_o k267 (rd_o k7 ef3 rfl) rfl); have z4_ := congrArg Int32.toInt (rd_o k267 (rd_o k7 ef4 rfl) rfl); have z5_ := congrArg Int32.toInt (rd_o k267 (rd_o k7 ef5 rfl) rfl); have z_ := w_lits; have zl_ := l_lits; omega), (by have z0_ := congrArg Int32.toInt (rd_o k267 (rd_o k7 ef1 rfl) rfl); have z1_ := congrArg Int32.toInt (rd_o k267 (rd_s k7) rfl); have z2_ := congrArg Int32.toInt (rd_o k267 (rd_o k7 ef2 rfl) rfl); have z3_ := congrArg Int32.toInt (rd_o k267 (rd_o k7 ef3 rfl) rfl); have z4_ := congrArg Int32.toInt (rd_o k267 (rd_o k7 ef4 rfl) rfl); have z5_ := congrArg Int32.toInt (rd_o k267 (rd_o k7 ef5 rfl) rfl); have z_ := w_lits; have zl_ := l_lits; omega), (by have z0_ := congrArg Int32.toInt (rd_o k267 (rd_o k7 ef1 rfl) rfl); have z1_ := congrArg Int32.toInt (rd_o k267 (rd_s k7) rfl); have z2_ := congrArg Int32.toInt (rd_o k267 (rd_o k7 ef2 rfl) rfl); have z3_ := congrArg Int32.toInt (rd_o k267 (rd_o k7 ef3 rfl) rfl); have z4_ := congrArg Int32.toInt (rd_o k267 (rd_o k7 ef4 rfl) rfl); have z5_ := congrArg Int32.toInt (rd_o k267 (rd_o k7 ef5 rfl) rfl); have z_ := w_lits; have zl_ := l_lits; omega)⟩
  · refine ev_iadV (j := 2) (v := f4) rfl rfl rfl (by unfold vp_in; decide) (by decide) (rd_o k7 ef4 rfl) ?_
    refine ev_istore_n rfl rfl rfl rfl ?_
    dsimp only [List.set]
    refine ev_aload_n rfl rfl rfl ?_
    refine ev_getV (v := f1) rfl rfl fl_X10_234 rfl rfl rfl (rd_o k7 ef1 rfl) ?_
    refine ev_iload_n rfl rfl rfl ?_
    refine ev_isubB (l := -60) (u := 60) rfl rfl bf1 bf4 (by decide) (by decide) (by decide) (by decide) (fun v268 b268 e268 g268 => ?_)
    refine ev_istore_n rfl rfl rfl rfl ?_
    dsimp only [List.set]
    refine ev_iload_n rfl rfl rfl ?_
    refine ev_aload_n rfl rfl rfl ?_
    refine ev_getR (y := 77) rfl rfl fl_X10_63 rfl rfl rfl rfl ?_
    refine ev_aload_n rfl rfl rfl ?_
    refine ev_getV (v := 2) rfl rfl fl_X10_241 rfl rfl rfl (rd_s k7) ?_
    refine ev_ialK (j := 2) (n := 5) (l := 0) (u := 20) hJ7.1 (by decide : B 2 2 2) (by decide) (by decide) (by decide) rfl rfl rfl rfl (fun v269 b269 e269 => ?_)
    have b270 : B v268 0 60 := ⟨(by have z0_ := congrArg Int32.toInt (rd_o k7 ef1 rfl); have z1_ := congrArg Int32.toInt (rd_s k7); have z2_ := congrArg Int32.toInt (rd_o k7 ef2 rfl); have z3_ := congrArg Int32.toInt (rd_o k7 ef3 rfl); have z4_ := congrArg Int32.toInt (rd_o k7 ef4 rfl); have z5_ := congrArg Int32.toInt (rd_o k7 ef5 rfl); have z_ := w_lits; have zl_ := l_lits; omega), (by have z0_ := congrArg Int32.toInt (rd_o k7 ef1 rfl); have z1_ := congrArg Int32.toInt (rd_s k7); have z2_ := congrArg Int32.toInt (rd_o k7 ef2 rfl); have z3_ := congrArg Int32.toInt (rd_o k7 ef3 rfl); have z4_ := congrArg Int32.toInt (rd_o k7 ef4 rfl); have z5_ := congrArg Int32.toInt (rd_o k7 ef5 rfl); have z_ := w_lits; have zl_ := l_lits; omega)⟩
    refine ev_imulB (l := 0) (u := 1200) rfl rfl b270 b269 (by decide) (by decide) (by decide) (by decide) (by decide) (fun v271 b271 e271 g271 => ?_)
    clear e271
    refine ev_iload_n rfl rfl rfl ?_
    refine ev_iaddB (l := 0) (u := 1260) rfl rfl b271 bf4 (by decide) (by decide) (by decide) (by decide) (fun v272 b272 e272 g272 => ?_)
    refine ev_bipush (v := 24) rfl rfl (by decide) ?_
    refine ev_icmp_le rfl rfl (fun c273 => ?_) (fun c273 => ?_)
    · have b274 : B v272 0 24 := R_leX b272 (by decide : B 24 24 24) c273 (by decide)
      have z275 := w_le c273
      rw [show (24 : Int32).toInt = 24 from by decide] at z275
      refine ev_iload_n rfl rfl rfl ?_
      refine ev_istore_n rfl rfl rfl rfl ?_
      dsimp only [List.set]
      have lp55_364 : ∀ (n : Nat) (w365 : Int32) (h367 : Hp), B w365 0 1200 → JW [(63, 27), (63, 28), (63, 31), (75, 999)] h h367 → (h367 63 31 = 2) → (h367 63 27 = f1) → (h367 76 0 = f2) → (h367 76 1 = f3) → (h367 76 2 = f4) → (h367 76 3 = f5) → (h367 77 2 = v269) → (v268.toInt ≤ w365.toInt) → 1200 + 1 - w365.toInt ≤ (n : Int) → EvQ mi_X10_closes 55 [some (.ref 63), some (.int f4), some (.int v268), some (.int w365)] [] (G0 L b) h367 0 0 (QK (fun z : Hp => ((0 < (z 63 31).toInt → (z 76 0).toInt ≤ (z 63 27).toInt)) ∧ ((1 < (z 63 31).toInt → (z 76 0).toInt ≤ (z 76 1).toInt ∧ (z 76 1).toInt ≤ (z 63 27).toInt)) ∧ ((2 < (z 63 31).toInt → (z 76 1).toInt ≤ (z 76 2).toInt ∧ (z 76 2).toInt ≤ (z 63 27).toInt)) ∧ ((3 < (z 63 31).toInt → (z 76 2).toInt ≤ (z 76 3).toInt ∧ (z 76 3).toInt ≤ (z 63 27).toInt))) [(63, 27), (63, 28), (63, 31), (75, 999)] (G0 L b) h) := by
        intro n
        induction n with
        | zero =>
          intro w365 h367 b366 hJ368 z369 z370 z371 z372 z373 z374 z375 y55_0 hm55
          exact absurd hm55 (L_zero b366 (by decide))
        | succ n ih55 =>
          intro w365 h367 b366 hJ368 z369 z370 z371 z372 z373 z374 z375 y55_0 hm55
          have z376 := congrArg Int32.toInt z370
          have z377 := congrArg Int32.toInt z369
          have z378 := congrArg Int32.toInt z371
          have z379 := congrArg Int32.toInt z372
          have z380 := congrArg Int32.toInt z373
          have z381 := congrArg Int32.toInt z374
          refine ev_iload_n rfl rfl rfl ?_
          refine ev_iload_n rfl rfl rfl ?_
          refine ev_aload_n rfl rfl rfl ?_
          refine ev_getR (y := 77) rfl rfl fl_X10_63 rfl rfl rfl rfl ?_
          refine ev_aload_n rfl rfl rfl ?_
          refine ev_getV (v := 2) rfl rfl fl_X10_241 rfl rfl rfl z369 ?_
          refine ev_iadV (j := 2) (v := v269) rfl rfl rfl (by unfold vp_in; decide) (by decide) z375 ?_
          refine ev_imulV g271 rfl rfl ?_
          refine ev_icmp_ge rfl rfl (fun c382 => ?_) (fun c382 => ?_)
          · have z383 := w_le c382
            refine ev_aload_n rfl rfl rfl ?_
            refine ev_iload_n rfl rfl rfl ?_
            refine ev_iload_n rfl rfl rfl ?_
            refine ev_aload_n rfl rfl rfl ?_
            refine ev_getR (y := 77) rfl rfl fl_X10_63 rfl rfl rfl rfl ?_
            refine ev_aload_n rfl rfl rfl ?_
            refine ev_getV (v := 2) rfl rfl fl_X10_241 rfl rfl rfl z369 ?_
            refine ev_iadV (j := 2) (v := v269) rfl rfl rfl (by unfold vp_in; decide) (by decide) z375 ?_
            refine ev_imulV g271 rfl rfl ?_
            refine ev_iaddB (l := 0) (u := 1260) rfl rfl bf4 b271 (by decide) (by decide) (by decide) (by decide) (fun v387 b387 e387 g387 => ?_)
            have b388 : B v387 0 60 := ⟨(by have z0_ := congrArg Int32.toInt z370; have z1_ := congrArg Int32.toInt z369; have z2_ := congrArg Int32.toInt z371; have z3_ := congrArg Int32.toInt z372; have z4_ := congrArg Int32.toInt z373; have z5_ := congrArg Int32.toInt z374; have z_ := w_lits; have zl_ := l_lits; omega), (by have z0_ := congrArg Int32.toInt z370; have z1_ := congrArg Int32.toInt z369; have z2_ := congrArg Int32.toInt z371; have z3_ := congrArg Int32.toInt z372; have z4_ := congrArg Int32.toInt z373; have z5_ := congrArg Int32.toInt z374; have z_ := w_lits; have zl_ := l_lits; omega)⟩
            refine ev_putW (l := 0) (u := 60) hJ368 rfl b388 (by decide) (by decide) rfl rfl rfl fl_X10_234 rfl rfl rfl rfl rfl (fun h389 hJ389 k389 => ?_)
            exact ev_vret rfl rfl trivial ⟨rfl, rfl, hJ389, (by have z0_ := congrArg Int32.toInt (rd_s k389); have z1_ := congrArg Int32.toInt (rd_o k389 z369 rfl); have z2_ := congrArg Int32.toInt (rd_o k389 z371 rfl); have z3_ := congrArg Int32.toInt (rd_o k389 z372 rfl); have z4_ := congrArg Int32.toInt (rd_o k389 z373 rfl); have z5_ := congrArg Int32.toInt (rd_o k389 z374 rfl); have z_ := w_lits; have zl_ := l_lits; omega), (by have z0_ := congrArg Int32.toInt (rd_s k389); have z1_ := congrArg Int32.toInt (rd_o k389 z369 rfl); have z2_ := congrArg Int32.toInt (rd_o k389 z371 rfl); have z3_ := congrArg Int32.toInt (rd_o k389 z372 rfl); have z4_ := congrArg Int32.toInt (rd_o k389 z373 rfl); have z5_ := congrArg Int32.toInt (rd_o k389 z374 rfl); have z_ := w_lits; have zl_ := l_lits; omega), (by have z0_ := congrArg Int32.toInt (rd_s k389); have z1_ := congrArg Int32.toInt (rd_o k389 z369 rfl); have z2_ := congrArg Int32.toInt (rd_o k389 z371 rfl); have z3_ := congrArg Int32.toInt (rd_o k389 z372 rfl); have z4_ := congrArg Int32.toInt (rd_o k389 z373 rfl); have z5_ := congrArg Int32.toInt (rd_o k389 z374 rfl); have z_ := w_lits; have zl_ := l_lits; omega), (by have z0_ := congrArg Int32.toInt (rd_s k389); have z1_ := congrArg Int32.toInt (rd_o k389 z369 rfl); have z2_ := congrArg Int32.toInt (rd_o k389 z371 rfl); have z3_ := congrArg Int32.toInt (rd_o k389 z372 rfl); have z4_ := congrArg Int32.toInt (rd_o k389 z373 rfl); have z5_ := congrArg Int32.toInt (rd_o k389 z374 rfl); have z_ := w_lits; have zl_ := l_lits; omega)⟩
          · have b384 : B w365 0 1199 := R_ltX b366 b271 (Int32.not_le.mp c382) (by decide)
            have b385 : B v271 1 1200 := R_ltY b366 b271 (Int32.not_le.mp c382) (by decide)
            have z386 := w_lt (Int32.not_le.mp c382)
            refine ev_aload_n rfl rfl rfl ?_
            refine ev_getR (y := 75) rfl rfl fl_X10_57 rfl rfl rfl rfl ?_
            refine ev_iload_n rfl rfl rfl ?_
            refine ev_iload_n rfl rfl rfl ?_
            refine ev_iaddB (l := 0) (u := 1259) rfl rfl bf4 b384 (by decide) (by decide) (by decide) (by decide) (fun v390 b390 e390 g390 => ?_)
            refine ev_aload_n rfl rfl rfl ?_
            refine ev_getR (y := 75) rfl rfl fl_X10_57 rfl rfl rfl rfl ?_
            refine ev_iload_n rfl rfl rfl ?_
            refine ev_iload_n rfl rfl rfl ?_
            refine ev_iaddV g390 rfl rfl ?_
            refine ev_iload_n rfl rfl rfl ?_
            refine ev_isubB (l := -60) (u := 1259) rfl rfl b390 b270 (by decide) (by decide) (by decide) (by decide) (fun v391 b391 e391 g391 => ?_)
            have b392 : B v391 0 63 := ⟨(by have z0_ := congrArg Int32.toInt z370; have z1_ := congrArg Int32.toInt z369; have z2_ := congrArg Int32.toInt z371; have z3_ := congrArg Int32.toInt z372; have z4_ := congrArg Int32.toInt z373; have z5_ := congrArg Int32.toInt z374; have z_ := w_lits; have zl_ := l_lits; omega), (by have z0_ := congrArg Int32.toInt z370; have z1_ := congrArg Int32.toInt z369; have z2_ := congrArg Int32.toInt z371; have z3_ := congrArg Int32.toInt z372; have z4_ := congrArg Int32.toInt z373; have z5_ := congrArg Int32.toInt z374; have z_ := w_lits; have zl_ := l_lits; omega)⟩
            refine ev_ialW (n := 64) (l := 0) (u := 4095) hJ368.1 b392 (by decide) (by decide) (fun _ => rfl) rfl rfl rfl (fun v393 b393 e393 => ?_)
            have b394 : B v390 0 63 := ⟨(by have z0_ := congrArg Int32.toInt z370; have z1_ := congrArg Int32.toInt z369; have z2_ := congrArg Int32.toInt z371; have z3_ := congrArg Int32.toInt z372; have z4_ := congrArg Int32.toInt z373; have z5_ := congrArg Int32.toInt z374; have z_ := w_lits; have zl_ := l_lits; omega), (by have z0_ := congrArg Int32.toInt z370; have z1_ := congrArg Int32.toInt z369; have z2_ := congrArg Int32.toInt z371; have z3_ := congrArg Int32.toInt z372; have z4_ := congrArg Int32.toInt z373; have z5_ := congrArg Int32.toInt z374; have z_ := w_lits; have zl_ := l_lits; omega)⟩
            refine ev_iasW (n := 64) (l := 0) (u := 4095) hJ368 b394 (by decide) (by decide) (fun _ => rfl) b393 (by decide) (by decide) (fun _ => rfl) rfl rfl rfl rfl (fun h395 hJ395 k395 => ?_)
            refine ev_iincB (y := 1) (l := 1) (u := 1200) rfl rfl rfl (by decide) rfl rfl b384 (by decide : B 1 1 1) (by decide) (by decide) (by decide) (by decide) (fun v396 b396 e396 => ?_)
            dsimp only [List.set]
            have e396x := e396; rw [show (1 : Int32).toInt = 1 from by decide] at e396x
            refine ev_goto rfl rfl ?_
            exact (ih55 v396 h395 (b396.mono (by decide) (by decide)) hJ395 (rd_a k395 z369 rfl) (rd_a k395 z370 rfl) (rd_a k395 z371 rfl) (rd_a k395 z372 rfl) (rd_a k395 z373 rfl) (rd_a k395 z374 rfl) (rd_a k395 z375 rfl) (by have z0_ := congrArg Int32.toInt (rd_a k395 z370 rfl); have z1_ := congrArg Int32.toInt (rd_a k395 z369 rfl); have z2_ := congrArg Int32.toInt (rd_a k395 z371 rfl); have z3_ := congrArg Int32.toInt (rd_a k395 z372 rfl); have z4_ := congrArg Int32.toInt (rd_a k395 z373 rfl); have z5_ := congrArg Int32.toInt (rd_a k395 z374 rfl); have z_ := w_lits; have zl_ := l_lits; omega) (L_up hm55 (e_p1 e396 (by decide))))
      exact (lp55_364 1201 v268 h7 (b270.mono (by decide) (by decide)) hJ7 (rd_s k7) (rd_o k7 ef1 rfl) (rd_o k7 ef2 rfl) (rd_o k7 ef3 rfl) (rd_o k7 ef4 rfl) (rd_o k7 ef5 rfl) e269 (by have z0_ := congrArg Int32.toInt (rd_o k7 ef1 rfl); have z1_ := congrArg Int32.toInt (rd_s k7); have z2_ := congrArg Int32.toInt (rd_o k7 ef2 rfl); have z3_ := congrArg Int32.toInt (rd_o k7 ef3 rfl); have z4_ := congrArg Int32.toInt (rd_o k7 ef4 rfl); have z5_ := congrArg Int32.toInt (rd_o k7 ef5 rfl); have z_ := w_lits; have zl_ := l_lits; omega) (L_init b270 (by decide)))
    · have b276 : B v272 25 1260 := R_ltY (by decide : B 24 24 24) b272 (Int32.not_le.mp c273) (by decide)
      have z277 := w_lt (Int32.not_le.mp c273)
      rw [show (24 : Int32).toInt = 24 from by decide] at z277
      refine ev_aload_n rfl rfl rfl ?_
      refine ev_iconst (v := 1) rfl rfl (by decide) ?_
      refine ev_puzW (l := (-2147483648)) (u := 2147483647) hJ7 rfl ((by decide : B 1 1 1).mono (by decide) (by decide)) (by decide) (by decide) rfl rfl rfl fl_X10_237 rfl rfl rfl rfl rfl (fun h397 hJ397 k397 => ?_)
      refine ev_goto rfl rfl ?_
      exact ev_vret rfl rfl trivial ⟨rfl, rfl, hJ397, (by have z0_ := congrArg Int32.toInt (rd_o k397 (rd_o k7 ef1 rfl) rfl); have z1_ := congrArg Int32.toInt (rd_o k397 (rd_s k7) rfl); have z2_ := congrArg Int32.toInt (rd_o k397 (rd_o k7 ef2 rfl) rfl); have z3_ := congrArg Int32.toInt (rd_o k397 (rd_o k7 ef3 rfl) rfl); have z4_ := congrArg Int32.toInt (rd_o k397 (rd_o k7 ef4 rfl) rfl); have z5_ := congrArg Int32.toInt (rd_o k397 (rd_o k7 ef5 rfl) rfl); have z_ := w_lits; have zl_ := l_lits; omega), (by have z0_ := congrArg Int32.toInt (rd_o k397 (rd_o k7 ef1 rfl) rfl); have z1_ := congrArg Int32.toInt (rd_o k397 (rd_s k7) rfl); have z2_ := congrArg Int32.toInt (rd_o k397 (rd_o k7 ef2 rfl) rfl); have z3_ := congrArg Int32.toInt (rd_o k397 (rd_o k7 ef3 rfl) rfl); have z4_ := congrArg Int32.toInt (rd_o k397 (rd_o k7 ef4 rfl) rfl); have z5_ := congrArg Int32.toInt (rd_o k397 (rd_o k7 ef5 rfl) rfl); have z_ := w_lits; have zl_ := l_lits; omega), (by have z0_ := congrArg Int32.toInt (rd_o k397 (rd_o k7 ef1 rfl) rfl); have z1_ := congrArg Int32.toInt (rd_o k397 (rd_s k7) rfl); have z2_ := congrArg Int32.toInt (rd_o k397 (rd_o k7 ef2 rfl) rfl); have z3_ := congrArg Int32.toInt (rd_o k397 (rd_o k7 ef3 rfl) rfl); have z4_ := congrArg Int32.toInt (rd_o k397 (rd_o k7 ef4 rfl) rfl); have z5_ := congrArg Int32.toInt (rd_o k397 (rd_o k7 ef5 rfl) rfl); have z_ := w_lits; have zl_ := l_lits; omega), (by have z0_ := congrArg Int32.toInt (rd_o k397 (rd_o k7 ef1 rfl) rfl); have z1_ := congrArg Int32.toInt (rd_o k397 (rd_s k7) rfl); have z2_ := congrArg Int32.toInt (rd_o k397 (rd_o k7 ef2 rfl) rfl); have z3_ := congrArg Int32.toInt (rd_o k397 (rd_o k7 ef3 rfl) rfl); have z4_ := congrArg Int32.toInt (rd_o k397 (rd_o k7 ef4 rfl) rfl); have z5_ := congrArg Int32.toInt (rd_o k397 (rd_o k7 ef5 rfl) rfl); have z_ := w_lits; have zl_ := l_lits; omega)⟩
  · refine ev_iadV (j := 3) (v := f5) rfl rfl rfl (by unfold vp_in; decide) (by decide) (rd_o k7 ef5 rfl) ?_
    refine ev_istore_n rfl rfl rfl rfl ?_
    dsimp only [List.set]
    refine ev_aload_n rfl rfl rfl ?_
    refine ev_getV (v := f1) rfl rfl fl_X10_234 rfl rfl rfl (rd_o k7 ef1 rfl) ?_
    refine ev_iload_n rfl rfl rfl ?_
    refine ev_isubB (l := -60) (u := 60) rfl rfl bf1 bf5 (by decide) (by decide) (by decide) (by decide) (fun v398 b398 e398 g398 => ?_)
    refine ev_istore_n rfl rfl rfl rfl ?_
    dsimp only [List.set]
    refine ev_iload_n rfl rfl rfl ?_
    refine ev_aload_n rfl rfl rfl ?_
    refine ev_getR (y := 77) rfl rfl fl_X10_63 rfl rfl rfl rfl ?_
    refine ev_aload_n rfl rfl rfl ?_
    refine ev_getV (v := 3) rfl rfl fl_X10_241 rfl rfl rfl (rd_s k7) ?_
    refine ev_ialK (j := 3) (n := 5) (l := 0) (u := 20) hJ7.1 (by decide : B 3 3 3) (by decide) (by decide) (by decide) rfl rfl rfl rfl (fun v399 b399 e399 => ?_)
    have b400 : B v398 0 60 := ⟨(by have z0_ := congrArg Int32.toInt (rd_o k7 ef1 rfl); have z1_ := congrArg Int32.toInt (rd_s k7); have z2_ := congrArg Int32.toInt (rd_o k7 ef2 rfl); have z3_ := congrArg Int32.toInt (rd_o k7 ef3 rfl); have z4_ := congrArg Int32.toInt (rd_o k7 ef4 rfl); have z5_ := congrArg Int32.toInt (rd_o k7 ef5 rfl); have z_ := w_lits; have zl_ := l_lits; omega), (by have z0_ := congrArg Int32.toInt (rd_o k7 ef1 rfl); have z1_ := congrArg Int32.toInt (rd_s k7); have z2_ := congrArg Int32.toInt (rd_o k7 ef2 rfl); have z3_ := congrArg Int32.toInt (rd_o k7 ef3 rfl); have z4_ := congrArg Int32.toInt (rd_o k7 ef4 rfl); have z5_ := congrArg Int32.toInt (rd_o k7 ef5 rfl); have z_ := w_lits; have zl_ := l_lits; omega)⟩
    refine ev_imulB (l := 0) (u := 1200) rfl rfl b400 b399 (by decide) (by decide) (by decide) (by decide) (by decide) (fun v401 b401 e401 g401 => ?_)
    clear e401
    refine ev_iload_n rfl rfl rfl ?_
    refine ev_iaddB (l := 0) (u := 1260) rfl rfl b401 bf5 (by decide) (by decide) (by decide) (by decide) (fun v402 b402 e402 g402 => ?_)
    refine ev_bipush (v := 24) rfl rfl (by decide) ?_
    refine ev_icmp_le rfl rfl (fun c403 => ?_) (fun c403 => ?_)
    · have b404 : B v402 0 24 := R_leX b402 (by decide : B 24 24 24) c403 (by decide)
      have z405 := w_le c403
      rw [show (24 : Int32).toInt = 24 from by decide] at z405
      refine ev_iload_n rfl rfl rfl ?_
      refine ev_istore_n rfl rfl rfl rfl ?_
      dsimp only [List.set]
      have lp55_494 : ∀ (n : Nat) (w495 : Int32) (h497 : Hp), B w495 0 1200 → JW [(63, 27), (63, 28), (63, 31), (75, 999)] h h497 → (h497 63 31 = 3) → (h497 63 27 = f1) → (h497 76 0 = f2) → (h497 76 1 = f3) → (h497 76 2 = f4) → (h497 76 3 = f5) → (h497 77 3 = v399) → (v398.toInt ≤ w495.toInt) → 1200 + 1 - w495.toInt ≤ (n : Int) → EvQ mi_X10_closes 55 [some (.ref 63), some (.int f5), some (.int v398), some (.int w495)] [] (G0 L b) h497 0 0 (QK (fun z : Hp => ((0 < (z 63 31).toInt → (z 76 0).toInt ≤ (z 63 27).toInt)) ∧ ((1 < (z 63 31).toInt → (z 76 0).toInt ≤ (z 76 1).toInt ∧ (z 76 1).toInt ≤ (z 63 27).toInt)) ∧ ((2 < (z 63 31).toInt → (z 76 1).toInt ≤ (z 76 2).toInt ∧ (z 76 2).toInt ≤ (z 63 27).toInt)) ∧ ((3 < (z 63 31).toInt → (z 76 2).toInt ≤ (z 76 3).toInt ∧ (z 76 3).toInt ≤ (z 63 27).toInt))) [(63, 27), (63, 28), (63, 31), (75, 999)] (G0 L b) h) := by
        intro n
        induction n with
        | zero =>
          intro w495 h497 b496 hJ498 z499 z500 z501 z502 z503 z504 z505 y55_0 hm55
          exact absurd hm55 (L_zero b496 (by decide))
        | succ n ih55 =>
          intro w495 h497 b496 hJ498 z499 z500 z501 z502 z503 z504 z505 y55_0 hm55
          have z506 := congrArg Int32.toInt z500
          have z507 := congrArg Int32.toInt z499
          have z508 := congrArg Int32.toInt z501
          have z509 := congrArg Int32.toInt z502
          have z510 := congrArg Int32.toInt z503
          have z511 := congrArg Int32.toInt z504
          refine ev_iload_n rfl rfl rfl ?_
          refine ev_iload_n rfl rfl rfl ?_
          refine ev_aload_n rfl rfl rfl ?_
          refine ev_getR (y := 77) rfl rfl fl_X10_63 rfl rfl rfl rfl ?_
          refine ev_aload_n rfl rfl rfl ?_
          refine ev_getV (v := 3) rfl rfl fl_X10_241 rfl rfl rfl z499 ?_
          refine ev_iadV (j := 3) (v := v399) rfl rfl rfl (by unfold vp_in; decide) (by decide) z505 ?_
          refine ev_imulV g401 rfl rfl ?_
          refine ev_icmp_ge rfl rfl (fun c512 => ?_) (fun c512 => ?_)
          · have z513 := w_le c512
            refine ev_aload_n rfl rfl rfl ?_
            refine ev_iload_n rfl rfl rfl ?_
            refine ev_iload_n rfl rfl rfl ?_
            refine ev_aload_n rfl rfl rfl ?_
            refine ev_getR (y := 77) rfl rfl fl_X10_63 rfl rfl rfl rfl ?_
            refine ev_aload_n rfl rfl rfl ?_
            refine ev_getV (v := 3) rfl rfl fl_X10_241 rfl rfl rfl z499 ?_
            refine ev_iadV (j := 3) (v := v399) rfl rfl rfl (by unfold vp_in; decide) (by decide) z505 ?_
            refine ev_imulV g401 rfl rfl ?_
            refine ev_iaddB (l := 0) (u := 1260) rfl rfl bf5 b401 (by decide) (by decide) (by decide) (by decide) (fun v517 b517 e517 g517 => ?_)
            have b518 : B v517 0 60 := ⟨(by have z0_ := congrArg Int32.toInt z500; have z1_ := congrArg Int32.toInt z499; have z2_ := congrArg Int32.toInt z501; have z3_ := congrArg Int32.toInt z502; have z4_ := congrArg Int32.toInt z503; have z5_ := congrArg Int32.toInt z504; have z_ := w_lits; have zl_ := l_lits; omega), (by have z0_ := congrArg Int32.toInt z500; have z1_ := congrArg Int32.toInt z499; have z2_ := congrArg Int32.toInt z501; have z3_ := congrArg Int32.toInt z502; have z4_ := congrArg Int32.toInt z503; have z5_ := congrArg Int32.toInt z504; have z_ := w_lits; have zl_ := l_lits; omega)⟩
            refine ev_putW (l := 0) (u := 60) hJ498 rfl b518 (by decide) (by decide) rfl rfl rfl fl_X10_234 rfl rfl rfl rfl rfl (fun h519 hJ519 k519 => ?_)
            exact ev_vret rfl rfl trivial ⟨rfl, rfl, hJ519, (by have z0_ := congrArg Int32.toInt (rd_s k519); have z1_ := congrArg Int32.toInt (rd_o k519 z499 rfl); have z2_ := congrArg Int32.toInt (rd_o k519 z501 rfl); have z3_ := congrArg Int32.toInt (rd_o k519 z502 rfl); have z4_ := congrArg Int32.toInt (rd_o k519 z503 rfl); have z5_ := congrArg Int32.toInt (rd_o k519 z504 rfl); have z_ := w_lits; have zl_ := l_lits; omega), (by have z0_ := congrArg Int32.toInt (rd_s k519); have z1_ := congrArg Int32.toInt (rd_o k519 z499 rfl); have z2_ := congrArg Int32.toInt (rd_o k519 z501 rfl); have z3_ := congrArg Int32.toInt (rd_o k519 z502 rfl); have z4_ := congrArg Int32.toInt (rd_o k519 z503 rfl); have z5_ := congrArg Int32.toInt (rd_o k519 z504 rfl); have z_ := w_lits; have zl_ := l_lits; omega), (by have z0_ := congrArg Int32.toInt (rd_s k519); have z1_ := congrArg Int32.toInt (rd_o k519 z499 rfl); have z2_ := congrArg Int32.toInt (rd_o k519 z501 rfl); have z3_ := congrArg Int32.toInt (rd_o k519 z502 rfl); have z4_ := congrArg Int32.toInt (rd_o k519 z503 rfl); have z5_ := congrArg Int32.toInt (rd_o k519 z504 rfl); have z_ := w_lits; have zl_ := l_lits; omega), (by have z0_ := congrArg Int32.toInt (rd_s k519); have z1_ := congrArg Int32.toInt (rd_o k519 z499 rfl); have z2_ := congrArg Int32.toInt (rd_o k519 z501 rfl); have z3_ := congrArg Int32.toInt (rd_o k519 z502 rfl); have z4_ := congrArg Int32.toInt (rd_o k519 z503 rfl); have z5_ := congrArg Int32.toInt (rd_o k519 z504 rfl); have z_ := w_lits; have zl_ := l_lits; omega)⟩
          · have b514 : B w495 0 1199 := R_ltX b496 b401 (Int32.not_le.mp c512) (by decide)
            have b515 : B v401 1 1200 := R_ltY b496 b401 (Int32.not_le.mp c512) (by decide)
            have z516 := w_lt (Int32.not_le.mp c512)
            refine ev_aload_n rfl rfl rfl ?_
            refine ev_getR (y := 75) rfl rfl fl_X10_57 rfl rfl rfl rfl ?_
            refine ev_iload_n rfl rfl rfl ?_
            refine ev_iload_n rfl rfl rfl ?_
            refine ev_iaddB (l := 0) (u := 1259) rfl rfl bf5 b514 (by decide) (by decide) (by decide) (by decide) (fun v520 b520 e520 g520 => ?_)
            refine ev_aload_n rfl rfl rfl ?_
            refine ev_getR (y := 75) rfl rfl fl_X10_57 rfl rfl rfl rfl ?_
            refine ev_iload_n rfl rfl rfl ?_
            refine ev_iload_n rfl rfl rfl ?_
            refine ev_iaddV g520 rfl rfl ?_
            refine ev_iload_n rfl rfl rfl ?_
            refine ev_isubB (l := -60) (u := 1259) rfl rfl b520 b400 (by decide) (by decide) (by decide) (by decide) (fun v521 b521 e521 g521 => ?_)
            have b522 : B v521 0 63 := ⟨(by have z0_ := congrArg Int32.toInt z500; have z1_ := congrArg Int32.toInt z499; have z2_ := congrArg Int32.toInt z501; have z3_ := congrArg Int32.toInt z502; have z4_ := congrArg Int32.toInt z503; have z5_ := congrArg Int32.toInt z504; have z_ := w_lits; have zl_ := l_lits; omega), (by have z0_ := congrArg Int32.toInt z500; have z1_ := congrArg Int32.toInt z499; have z2_ := congrArg Int32.toInt z501; have z3_ := congrArg Int32.toInt z502; have z4_ := congrArg Int32.toInt z503; have z5_ := congrArg Int32.toInt z504; have z_ := w_lits; have zl_ := l_lits; omega)⟩
            refine ev_ialW (n := 64) (l := 0) (u := 4095) hJ498.1 b522 (by decide) (by decide) (fun _ => rfl) rfl rfl rfl (fun v523 b523 e523 => ?_)
            have b524 : B v520 0 63 := ⟨(by have z0_ := congrArg Int32.toInt z500; have z1_ := congrArg Int32.toInt z499; have z2_ := congrArg Int32.toInt z501; have z3_ := congrArg Int32.toInt z502; have z4_ := congrArg Int32.toInt z503; have z5_ := congrArg Int32.toInt z504; have z_ := w_lits; have zl_ := l_lits; omega), (by have z0_ := congrArg Int32.toInt z500; have z1_ := congrArg Int32.toInt z499; have z2_ := congrArg Int32.toInt z501; have z3_ := congrArg Int32.toInt z502; have z4_ := congrArg Int32.toInt z503; have z5_ := congrArg Int32.toInt z504; have z_ := w_lits; have zl_ := l_lits; omega)⟩
            refine ev_iasW (n := 64) (l := 0) (u := 4095) hJ498 b524 (by decide) (by decide) (fun _ => rfl) b523 (by decide) (by decide) (fun _ => rfl) rfl rfl rfl rfl (fun h525 hJ525 k525 => ?_)
            refine ev_iincB (y := 1) (l := 1) (u := 1200) rfl rfl rfl (by decide) rfl rfl b514 (by decide : B 1 1 1) (by decide) (by decide) (by decide) (by decide) (fun v526 b526 e526 => ?_)
            dsimp only [List.set]
            have e526x := e526; rw [show (1 : Int32).toInt = 1 from by decide] at e526x
            refine ev_goto rfl rfl ?_
            exact (ih55 v526 h525 (b526.mono (by decide) (by decide)) hJ525 (rd_a k525 z499 rfl) (rd_a k525 z500 rfl) (rd_a k525 z501 rfl) (rd_a k525 z502 rfl) (rd_a k525 z503 rfl) (rd_a k525 z504 rfl) (rd_a k525 z505 rfl) (by have z0_ := congrArg Int32.toInt (rd_a k525 z500 rfl); have z1_ := congrArg Int32.toInt (rd_a k525 z499 rfl); have z2_ := congrArg Int32.toInt (rd_a k525 z501 rfl); have z3_ := congrArg Int32.toInt (rd_a k525 z502 rfl); have z4_ := congrArg Int32.toInt (rd_a k525 z503 rfl); have z5_ := congrArg Int32.toInt (rd_a k525 z504 rfl); have z_ := w_lits; have zl_ := l_lits; omega) (L_up hm55 (e_p1 e526 (by decide))))
      exact (lp55_494 1201 v398 h7 (b400.mono (by decide) (by decide)) hJ7 (rd_s k7) (rd_o k7 ef1 rfl) (rd_o k7 ef2 rfl) (rd_o k7 ef3 rfl) (rd_o k7 ef4 rfl) (rd_o k7 ef5 rfl) e399 (by have z0_ := congrArg Int32.toInt (rd_o k7 ef1 rfl); have z1_ := congrArg Int32.toInt (rd_s k7); have z2_ := congrArg Int32.toInt (rd_o k7 ef2 rfl); have z3_ := congrArg Int32.toInt (rd_o k7 ef3 rfl); have z4_ := congrArg Int32.toInt (rd_o k7 ef4 rfl); have z5_ := congrArg Int32.toInt (rd_o k7 ef5 rfl); have z_ := w_lits; have zl_ := l_lits; omega) (L_init b400 (by decide)))
    · have b406 : B v402 25 1260 := R_ltY (by decide : B 24 24 24) b402 (Int32.not_le.mp c403) (by decide)
      have z407 := w_lt (Int32.not_le.mp c403)
      rw [show (24 : Int32).toInt = 24 from by decide] at z407
      refine ev_aload_n rfl rfl rfl ?_
      refine ev_iconst (v := 1) rfl rfl (by decide) ?_
      refine ev_puzW (l := (-2147483648)) (u := 2147483647) hJ7 rfl ((by decide : B 1 1 1).mono (by decide) (by decide)) (by decide) (by decide) rfl rfl rfl fl_X10_237 rfl rfl rfl rfl rfl (fun h527 hJ527 k527 => ?_)
      refine ev_goto rfl rfl ?_
      exact ev_vret rfl rfl trivial ⟨rfl, rfl, hJ527, (by have z0_ := congrArg Int32.toInt (rd_o k527 (rd_o k7 ef1 rfl) rfl); have z1_ := congrArg Int32.toInt (rd_o k527 (rd_s k7) rfl); have z2_ := congrArg Int32.toInt (rd_o k527 (rd_o k7 ef2 rfl) rfl); have z3_ := congrArg Int32.toInt (rd_o k527 (rd_o k7 ef3 rfl) rfl); have z4_ := congrArg Int32.toInt (rd_o k527 (rd_o k7 ef4 rfl) rfl); have z5_ := congrArg Int32.toInt (rd_o k527 (rd_o k7 ef5 rfl) rfl); have z_ := w_lits; have zl_ := l_lits; omega), (by have z0_ := congrArg Int32.toInt (rd_o k527 (rd_o k7 ef1 rfl) rfl); have z1_ := congrArg Int32.toInt (rd_o k527 (rd_s k7) rfl); have z2_ := congrArg Int32.toInt (rd_o k527 (rd_o k7 ef2 rfl) rfl); have z3_ := congrArg Int32.toInt (rd_o k527 (rd_o k7 ef3 rfl) rfl); have z4_ := congrArg Int32.toInt (rd_o k527 (rd_o k7 ef4 rfl) rfl); have z5_ := congrArg Int32.toInt (rd_o k527 (rd_o k7 ef5 rfl) rfl); have z_ := w_lits; have zl_ := l_lits; omega), (by have z0_ := congrArg Int32.toInt (rd_o k527 (rd_o k7 ef1 rfl) rfl); have z1_ := congrArg Int32.toInt (rd_o k527 (rd_s k7) rfl); have z2_ := congrArg Int32.toInt (rd_o k527 (rd_o k7 ef2 rfl) rfl); have z3_ := congrArg Int32.toInt (rd_o k527 (rd_o k7 ef3 rfl) rfl); have z4_ := congrArg Int32.toInt (rd_o k527 (rd_o k7 ef4 rfl) rfl); have z5_ := congrArg Int32.toInt (rd_o k527 (rd_o k7 ef5 rfl) rfl); have z_ := w_lits; have zl_ := l_lits; omega), (by have z0_ := congrArg Int32.toInt (rd_o k527 (rd_o k7 ef1 rfl) rfl); have z1_ := congrArg Int32.toInt (rd_o k527 (rd_s k7) rfl); have z2_ := congrArg Int32.toInt (rd_o k527 (rd_o k7 ef2 rfl) rfl); have z3_ := congrArg Int32.toInt (rd_o k527 (rd_o k7 ef3 rfl) rfl); have z4_ := congrArg Int32.toInt (rd_o k527 (rd_o k7 ef4 rfl) rfl); have z5_ := congrArg Int32.toInt (rd_o k527 (rd_o k7 ef5 rfl) rfl); have z_ := w_lits; have zl_ := l_lits; omega)⟩

set_option maxRecDepth 100000 in
set_option maxHeartbeats 4000000 in
theorem w_X10_readTune_63 (L : Nat) (b : Bool) (h : Hp) (hB : Bx h) (rp0 : (h 63 17).toInt ≤ (h 63 16).toInt) (rp1 : (h 63 21).toInt = 0 → (h 63 19).toInt = 1 → 0 ≤ (h 63 20).toInt ∧ (h 63 20).toInt ≤ 4095) : EvK mi_X10_readTune [.ref 63] (G0 L b) h (fun z : Hp => ((z 63 21).toInt = 0 → (z 63 27).toInt ≤ 24)) [(63, 17), (63, 18), (63, 19), (63, 20), (63, 21), (63, 22), (63, 27), (63, 28), (63, 31), (75, 999), (76, 999), (77, 999)] := by
  refine EvM.of2 (lo := [some (.ref 63), none, none, none]) pf_X10_readTune ok_X10_readTune rfl rfl ?_
  have hJ0 : JW [(63, 17), (63, 18), (63, 19), (63, 20), (63, 21), (63, 22), (63, 27), (63, 28), (63, 31), (75, 999), (76, 999), (77, 999)] h h := JW.refl hB
  obtain ⟨f1, ef1⟩ : ∃ f_, h 63 16 = f_ := ⟨_, rfl⟩
  have bf1 : B f1 0 160 := by have z_ := hJ0.1 63 16; rw [ef1] at z_; exact z_
  have zf1 := congrArg Int32.toInt ef1
  obtain ⟨f2, ef2⟩ : ∃ f_, h 63 17 = f_ := ⟨_, rfl⟩
  have bf2 : B f2 0 160 := by have z_ := hJ0.1 63 17; rw [ef2] at z_; exact z_
  have zf2 := congrArg Int32.toInt ef2
  obtain ⟨f3, ef3⟩ : ∃ f_, h 63 21 = f_ := ⟨_, rfl⟩
  have bf3 : B f3 0 6 := by have z_ := hJ0.1 63 21; rw [ef3] at z_; exact z_
  have zf3 := congrArg Int32.toInt ef3
  obtain ⟨f4, ef4⟩ : ∃ f_, h 63 20 = f_ := ⟨_, rfl⟩
  have bf4 : B f4 (-2147483648) 2147483647 := by have z_ := hJ0.1 63 20; rw [ef4] at z_; exact z_
  have zf4 := congrArg Int32.toInt ef4
  obtain ⟨f5, ef5⟩ : ∃ f_, h 63 19 = f_ := ⟨_, rfl⟩
  have bf5 : B f5 0 3 := by have z_ := hJ0.1 63 19; rw [ef5] at z_; exact z_
  have zf5 := congrArg Int32.toInt ef5
  obtain ⟨f6, ef6⟩ : ∃ f_, h 63 27 = f_ := ⟨_, rfl⟩
  have bf6 : B f6 0 60 := by have z_ := hJ0.1 63 27; rw [ef6] at z_; exact z_
  have zf6 := congrArg Int32.toInt ef6
  obtain ⟨f7, ef7⟩ : ∃ f_, h 63 31 = f_ := ⟨_, rfl⟩
  have bf7 : B f7 0 4 := by have z_ := hJ0.1 63 31; rw [ef7] at z_; exact z_
  have zf7 := congrArg Int32.toInt ef7
  obtain ⟨f8, ef8⟩ : ∃ f_, h 76 0 = f_ := ⟨_, rfl⟩
  have bf8 : B f8 0 60 := by have z_ := hJ0.1 76 0; rw [ef8] at z_; exact z_
  have zf8 := congrArg Int32.toInt ef8
  obtain ⟨f9, ef9⟩ : ∃ f_, h 76 1 = f_ := ⟨_, rfl⟩
  have bf9 : B f9 0 60 := by have z_ := hJ0.1 76 1; rw [ef9] at z_; exact z_
  have zf9 := congrArg Int32.toInt ef9
  obtain ⟨f10, ef10⟩ : ∃ f_, h 76 2 = f_ := ⟨_, rfl⟩
  have bf10 : B f10 0 60 := by have z_ := hJ0.1 76 2; rw [ef10] at z_; exact z_
  have zf10 := congrArg Int32.toInt ef10
  obtain ⟨f11, ef11⟩ : ∃ f_, h 76 3 = f_ := ⟨_, rfl⟩
  have bf11 : B f11 0 60 := by have z_ := hJ0.1 76 3; rw [ef11] at z_; exact z_
  have zf11 := congrArg Int32.toInt ef11
  refine ev_iconst (v := 1) rfl rfl (by decide) ?_
  refine ev_istore_n rfl rfl rfl rfl ?_
  dsimp only [List.set]
  refine ev_aload_n rfl rfl rfl ?_
  refine ev_iconst (v := 0) rfl rfl (by decide) ?_
  refine ev_putW (l := 0) (u := 4) hJ0 rfl (by decide : B 0 0 0) (by decide) (by decide) rfl rfl rfl fl_X10_241 rfl rfl rfl rfl rfl (fun h12 hJ12 k12 => ?_)
  refine ev_aload_n rfl rfl rfl ?_
  refine ev_iconst (v := 0) rfl rfl (by decide) ?_
  refine ev_putW (l := 0) (u := 60) hJ12 rfl (by decide : B 0 0 0) (by decide) (by decide) rfl rfl rfl fl_X10_234 rfl rfl rfl rfl rfl (fun h13 hJ13 k13 => ?_)
  refine ev_aload_n rfl rfl rfl ?_
  refine ev_iconst (v := 0) rfl rfl (by decide) ?_
  refine ev_puzW (l := (-2147483648)) (u := 2147483647) hJ13 rfl ((by decide : B 0 0 0).mono (by decide) (by decide)) (by decide) (by decide) rfl rfl rfl fl_X10_237 rfl rfl rfl rfl rfl (fun h14 hJ14 k14 => ?_)
  refine ev_iconst (v := 1) rfl rfl (by decide) ?_
  refine ev_istore_n rfl rfl rfl rfl ?_
  dsimp only [List.set]
  have lp19_1817 : ∀ (n : Nat) (w1818 : Int32) (w1819 : Int32) (h1822 : Hp), B w1818 0 4095 → B w1819 1 1 → JW [(63, 17), (63, 18), (63, 19), (63, 20), (63, 21), (63, 22), (63, 27), (63, 28), (63, 31), (75, 999), (76, 999), (77, 999)] h h1822 → (h1822 63 16 = f1) → ((0 < (h1822 63 31).toInt → (h1822 76 0).toInt ≤ (h1822 63 27).toInt)) → ((1 < (h1822 63 31).toInt → (h1822 76 0).toInt ≤ (h1822 76 1).toInt ∧ (h1822 76 1).toInt ≤ (h1822 63 27).toInt)) → ((2 < (h1822 63 31).toInt → (h1822 76 1).toInt ≤ (h1822 76 2).toInt ∧ (h1822 76 2).toInt ≤ (h1822 63 27).toInt)) → ((3 < (h1822 63 31).toInt → (h1822 76 2).toInt ≤ (h1822 76 3).toInt ∧ (h1822 76 3).toInt ≤ (h1822 63 27).toInt)) → ((h1822 63 17).toInt ≤ (h1822 63 16).toInt) → ((h1822 63 21).toInt = 0 → (h1822 63 19).toInt = 1 → 0 ≤ (h1822 63 20).toInt ∧ (h1822 63 20).toInt ≤ 4095) → mM (h1822 63 21) (h1822 63 17) (h1822 63 19) ≤ (n : Int) → EvQ mi_X10_readTune 19 [some (.ref 63), some (.int w1818), some (.int w1819), none] [] (G0 L b) h1822 0 0 (QK (fun z : Hp => ((z 63 21).toInt = 0 → (z 63 27).toInt ≤ 24)) [(63, 17), (63, 18), (63, 19), (63, 20), (63, 21), (63, 22), (63, 27), (63, 28), (63, 31), (75, 999), (76, 999), (77, 999)] (G0 L b) h) := by
    intro n
    induction n with
    | zero =>
      intro w1818 w1819 h1822 b1820 b1821 hJ1823 z1824 y19_0 y19_1 y19_2 y19_3 y19_4 y19_5 hm19
      exact absurd hm19 (by have z_ := mM_pos (h1822 63 21) (h1822 63 17) (h1822 63 19) (hJ1823.1 63 17); omega)
    | succ n ih19 =>
      intro w1818 w1819 h1822 b1820 b1821 hJ1823 z1824 y19_0 y19_1 y19_2 y19_3 y19_4 y19_5 hm19
      obtain ⟨f1825, ef1825⟩ : ∃ f_, h1822 63 17 = f_ := ⟨_, rfl⟩
      have bf1825 : B f1825 0 160 := by have z_ := hJ1823.1 63 17; rw [ef1825] at z_; exact z_
      have zf1825 := congrArg Int32.toInt ef1825
      obtain ⟨f1826, ef1826⟩ : ∃ f_, h1822 63 21 = f_ := ⟨_, rfl⟩
      have bf1826 : B f1826 0 6 := by have z_ := hJ1823.1 63 21; rw [ef1826] at z_; exact z_
      have zf1826 := congrArg Int32.toInt ef1826
      obtain ⟨f1827, ef1827⟩ : ∃ f_, h1822 63 20 = f_ := ⟨_, rfl⟩
      have bf1827 : B f1827 (-2147483648) 2147483647 := by have z_ := hJ1823.1 63 20; rw [ef1827] at z_; exact z_
      have zf1827 := congrArg Int32.toInt ef1827
      obtain ⟨f1828, ef1828⟩ : ∃ f_, h1822 63 19 = f_ := ⟨_, rfl⟩
      have bf1828 : B f1828 0 3 := by have z_ := hJ1823.1 63 19; rw [ef1828] at z_; exact z_
      have zf1828 := congrArg Int32.toInt ef1828
      obtain ⟨f1829, ef1829⟩ : ∃ f_, h1822 63 27 = f_ := ⟨_, rfl⟩
      have bf1829 : B f1829 0 60 := by have z_ := hJ1823.1 63 27; rw [ef1829] at z_; exact z_
      have zf1829 := congrArg Int32.toInt ef1829
      obtain ⟨f1830, ef1830⟩ : ∃ f_, h1822 63 31 = f_ := ⟨_, rfl⟩
      have bf1830 : B f1830 0 4 := by have z_ := hJ1823.1 63 31; rw [ef1830] at z_; exact z_
      have zf1830 := congrArg Int32.toInt ef1830
      obtain ⟨f1831, ef1831⟩ : ∃ f_, h1822 76 0 = f_ := ⟨_, rfl⟩
      have bf1831 : B f1831 0 60 := by have z_ := hJ1823.1 76 0; rw [ef1831] at z_; exact z_
      have zf1831 := congrArg Int32.toInt ef1831
      obtain ⟨f1832, ef1832⟩ : ∃ f_, h1822 76 1 = f_ := ⟨_, rfl⟩
      have bf1832 : B f1832 0 60 := by have z_ := hJ1823.1 76 1; rw [ef1832] at z_; exact z_
      have zf1832 := congrArg Int32.toInt ef1832
      obtain ⟨f1833, ef1833⟩ : ∃ f_, h1822 76 2 = f_ := ⟨_, rfl⟩
      have bf1833 : B f1833 0 60 := by have z_ := hJ1823.1 76 2; rw [ef1833] at z_; exact z_
      have zf1833 := congrArg Int32.toInt ef1833
      obtain ⟨f1834, ef1834⟩ : ∃ f_, h1822 76 3 = f_ := ⟨_, rfl⟩
      have bf1834 : B f1834 0 60 := by have z_ := hJ1823.1 76 3; rw [ef1834] at z_; exact z_
      have zf1834 := congrArg Int32.toInt ef1834
      have z1835 := congrArg Int32.toInt z1824
      have z1836 := congrArg Int32.toInt ef1825
      have z1837 := congrArg Int32.toInt ef1826
      have z1838 := congrArg Int32.toInt ef1827
      have z1839 := congrArg Int32.toInt ef1828
      have z1840 := congrArg Int32.toInt ef1829
      have z1841 := congrArg Int32.toInt ef1830
      have z1842 := congrArg Int32.toInt ef1831
      have z1843 := congrArg Int32.toInt ef1832
      have z1844 := congrArg Int32.toInt ef1833
      have z1845 := congrArg Int32.toInt ef1834
      refine ev_iload_n rfl rfl rfl ?_
      refine ev_if_eq rfl rfl (fun c1846 => absurd c1846 (D_ne b1821 (by decide : B 0 0 0) (by decide))) (fun c1846 => ?_)
      have z1847 := w_ne c1846
      rw [show (0 : Int32).toInt = 0 from by decide] at z1847
      refine ev_aload_n rfl rfl rfl ?_
      refine ev_getV (v := f1826) rfl rfl fl_X10_191 rfl rfl rfl ef1826 ?_
      refine ev_if_ne rfl rfl (fun c1848 => ?_) (fun c1848 => ?_)
      · have b1849 : B f1826 1 6 := R_neL bf1826 (by decide : B 0 0 0) c1848 (by decide)
        have z1850 := w_ne c1848
        rw [show (0 : Int32).toInt = 0 from by decide] at z1850
        refine ev_aload_n rfl rfl rfl ?_
        refine ev_getV (v := f1826) rfl rfl fl_X10_191 rfl rfl rfl ef1826 ?_
        refine ev_if_ne rfl rfl (fun c1853 => ?_) (fun c1853 => absurd c1853 (D_ne b1849 (by decide : B 0 0 0) (by decide)))
        have z1854 := w_ne c1853
        rw [show (0 : Int32).toInt = 0 from by decide] at z1854
        exact ev_vret rfl rfl trivial ⟨rfl, rfl, hJ1823, (by have z0_ := congrArg Int32.toInt z1824; have z1_ := congrArg Int32.toInt ef1825; have z2_ := congrArg Int32.toInt ef1826; have z3_ := congrArg Int32.toInt ef1827; have z4_ := congrArg Int32.toInt ef1828; have z5_ := congrArg Int32.toInt ef1829; have z6_ := congrArg Int32.toInt ef1830; have z7_ := congrArg Int32.toInt ef1831; have z8_ := congrArg Int32.toInt ef1832; have z9_ := congrArg Int32.toInt ef1833; have z10_ := congrArg Int32.toInt ef1834; have z_ := w_lits; have zl_ := l_lits; omega)⟩
      · have b1851 : B f1826 0 0 := R_eqX bf1826 (by decide : B 0 0 0) c1848
        have z1852 := congrArg Int32.toInt c1848
        rw [show (0 : Int32).toInt = 0 from by decide] at z1852
        refine ev_aload_n rfl rfl rfl ?_
        refine ev_getV (v := f1828) rfl rfl fl_X10_204 rfl rfl rfl ef1828 ?_
        refine ev_iconst (v := 1) rfl rfl (by decide) ?_
        refine ev_icmp_eq rfl rfl (fun c1855 => ?_) (fun c1855 => ?_)
        · have b1856 : B f1828 1 1 := R_eqX bf1828 (by decide : B 1 1 1) c1855
          have z1857 := congrArg Int32.toInt c1855
          rw [show (1 : Int32).toInt = 1 from by decide] at z1857
          refine ev_aload_n rfl rfl rfl ?_
          refine ev_aload_n rfl rfl rfl ?_
          refine ev_getV (v := f1828) rfl rfl fl_X10_204 rfl rfl rfl ef1828 ?_
          refine ev_iconst (v := 1) rfl rfl (by decide) ?_
          refine ev_icmp_ne rfl rfl (fun c1859 => absurd (D_eq b1856 (by decide : B 1 1 1)) c1859) (fun c1859 => ?_)
          have z1860 := congrArg Int32.toInt c1859
          rw [show (1 : Int32).toInt = 1 from by decide] at z1860
          refine ev_aload_n rfl rfl rfl ?_
          refine ev_getV (v := f1827) rfl rfl fl_X10_207 rfl rfl rfl ef1827 ?_
          refine ev_goto rfl rfl ?_
          have b1861 : B f1827 0 4095 := ⟨(by have z0_ := congrArg Int32.toInt z1824; have z1_ := congrArg Int32.toInt ef1825; have z2_ := congrArg Int32.toInt ef1826; have z3_ := congrArg Int32.toInt ef1827; have z4_ := congrArg Int32.toInt ef1828; have z5_ := congrArg Int32.toInt ef1829; have z6_ := congrArg Int32.toInt ef1830; have z7_ := congrArg Int32.toInt ef1831; have z8_ := congrArg Int32.toInt ef1832; have z9_ := congrArg Int32.toInt ef1833; have z10_ := congrArg Int32.toInt ef1834; have z_ := w_lits; have zl_ := l_lits; omega), (by have z0_ := congrArg Int32.toInt z1824; have z1_ := congrArg Int32.toInt ef1825; have z2_ := congrArg Int32.toInt ef1826; have z3_ := congrArg Int32.toInt ef1827; have z4_ := congrArg Int32.toInt ef1828; have z5_ := congrArg Int32.toInt ef1829; have z6_ := congrArg Int32.toInt ef1830; have z7_ := congrArg Int32.toInt ef1831; have z8_ := congrArg Int32.toInt ef1832; have z9_ := congrArg Int32.toInt ef1833; have z10_ := congrArg Int32.toInt ef1834; have z_ := w_lits; have zl_ := l_lits; omega)⟩
          have z1862 := congrArg Int32.toInt z1824
          have z1863 := congrArg Int32.toInt ef1825
          have z1864 := congrArg Int32.toInt ef1826
          have z1865 := congrArg Int32.toInt ef1827
          have z1866 := congrArg Int32.toInt ef1828
          have z1867 := congrArg Int32.toInt ef1829
          have z1868 := congrArg Int32.toInt ef1830
          have z1869 := congrArg Int32.toInt ef1831
          have z1870 := congrArg Int32.toInt ef1832
          have z1871 := congrArg Int32.toInt ef1833
          have z1872 := congrArg Int32.toInt ef1834
          refine ev_V1K hJ1823 rfl rfl rfl lk_X10_247 vt_X10_beatRead rfl rfl rfl rfl rfl (w_X10_beatRead_63 L b h1822 hJ1823.1 f1827 b1861 (by have z0_ := congrArg Int32.toInt z1824; have z1_ := congrArg Int32.toInt ef1825; have z2_ := congrArg Int32.toInt ef1826; have z3_ := congrArg Int32.toInt ef1827; have z4_ := congrArg Int32.toInt ef1828; have z5_ := congrArg Int32.toInt ef1829; have z6_ := congrArg Int32.toInt ef1830; have z7_ := congrArg Int32.toInt ef1831; have z8_ := congrArg Int32.toInt ef1832; have z9_ := congrArg Int32.toInt ef1833; have z10_ := congrArg Int32.toInt ef1834; have z_ := w_lits; have zl_ := l_lits; omega) (by have z0_ := congrArg Int32.toInt z1824; have z1_ := congrArg Int32.toInt ef1825; have z2_ := congrArg Int32.toInt ef1826; have z3_ := congrArg Int32.toInt ef1827; have z4_ := congrArg Int32.toInt ef1828; have z5_ := congrArg Int32.toInt ef1829; have z6_ := congrArg Int32.toInt ef1830; have z7_ := congrArg Int32.toInt ef1831; have z8_ := congrArg Int32.toInt ef1832; have z9_ := congrArg Int32.toInt ef1833; have z10_ := congrArg Int32.toInt ef1834; have z_ := w_lits; have zl_ := l_lits; omega) (by have z0_ := congrArg Int32.toInt z1824; have z1_ := congrArg Int32.toInt ef1825; have z2_ := congrArg Int32.toInt ef1826; have z3_ := congrArg Int32.toInt ef1827; have z4_ := congrArg Int32.toInt ef1828; have z5_ := congrArg Int32.toInt ef1829; have z6_ := congrArg Int32.toInt ef1830; have z7_ := congrArg Int32.toInt ef1831; have z8_ := congrArg Int32.toInt ef1832; have z9_ := congrArg Int32.toInt ef1833; have z10_ := congrArg Int32.toInt ef1834; have z_ := w_lits; have zl_ := l_lits; omega) (by have z0_ := congrArg Int32.toInt z1824; have z1_ := congrArg Int32.toInt ef1825; have z2_ := congrArg Int32.toInt ef1826; have z3_ := congrArg Int32.toInt ef1827; have z4_ := congrArg Int32.toInt ef1828; have z5_ := congrArg Int32.toInt ef1829; have z6_ := congrArg Int32.toInt ef1830; have z7_ := congrArg Int32.toInt ef1831; have z8_ := congrArg Int32.toInt ef1832; have z9_ := congrArg Int32.toInt ef1833; have z10_ := congrArg Int32.toInt ef1834; have z_ := w_lits; have zl_ := l_lits; omega)) (fun h1873 hJ1873 k1873 m1873 => ?_)
          obtain ⟨m1873_0, m1873_1, m1873_2, m1873_3⟩ := m1873
          obtain ⟨f1874, ef1874⟩ : ∃ f_, h1873 63 27 = f_ := ⟨_, rfl⟩
          have bf1874 : B f1874 0 60 := by have z_ := hJ1873.1 63 27; rw [ef1874] at z_; exact z_
          have zf1874 := congrArg Int32.toInt ef1874
          have z1875 := congrArg Int32.toInt (rd_w k1873 z1824 rfl)
          have z1876 := congrArg Int32.toInt (rd_w k1873 ef1825 rfl)
          have z1877 := congrArg Int32.toInt (rd_w k1873 ef1826 rfl)
          have z1878 := congrArg Int32.toInt (rd_w k1873 ef1827 rfl)
          have z1879 := congrArg Int32.toInt (rd_w k1873 ef1828 rfl)
          have z1880 := congrArg Int32.toInt ef1874
          have z1881 := congrArg Int32.toInt (rd_w k1873 ef1830 rfl)
          have z1882 := congrArg Int32.toInt (rd_w k1873 ef1831 rfl)
          have z1883 := congrArg Int32.toInt (rd_w k1873 ef1832 rfl)
          have z1884 := congrArg Int32.toInt (rd_w k1873 ef1833 rfl)
          have z1885 := congrArg Int32.toInt (rd_w k1873 ef1834 rfl)
          refine ev_iconst (v := 0) rfl rfl (by decide) ?_
          refine ev_istore_n rfl rfl rfl rfl ?_
          dsimp only [List.set]
          refine ev_aload_n rfl rfl rfl ?_
          have z1886 := congrArg Int32.toInt (rd_w k1873 z1824 rfl)
          have z1887 := congrArg Int32.toInt (rd_w k1873 ef1825 rfl)
          have z1888 := congrArg Int32.toInt (rd_w k1873 ef1826 rfl)
          have z1889 := congrArg Int32.toInt (rd_w k1873 ef1827 rfl)
          have z1890 := congrArg Int32.toInt (rd_w k1873 ef1828 rfl)
          have z1891 := congrArg Int32.toInt ef1874
          have z1892 := congrArg Int32.toInt (rd_w k1873 ef1830 rfl)
          have z1893 := congrArg Int32.toInt (rd_w k1873 ef1831 rfl)
          have z1894 := congrArg Int32.toInt (rd_w k1873 ef1832 rfl)
          have z1895 := congrArg Int32.toInt (rd_w k1873 ef1833 rfl)
          have z1896 := congrArg Int32.toInt (rd_w k1873 ef1834 rfl)
          refine ev_V0K hJ1873 rfl rfl rfl lk_X10_251 vt_X10_next rfl rfl rfl rfl rfl (w_X10_next_63 L b h1873 hJ1873.1 (by have z0_ := congrArg Int32.toInt (rd_w k1873 z1824 rfl); have z1_ := congrArg Int32.toInt (rd_w k1873 ef1825 rfl); have z2_ := congrArg Int32.toInt (rd_w k1873 ef1826 rfl); have z3_ := congrArg Int32.toInt (rd_w k1873 ef1827 rfl); have z4_ := congrArg Int32.toInt (rd_w k1873 ef1828 rfl); have z5_ := congrArg Int32.toInt ef1874; have z6_ := congrArg Int32.toInt (rd_w k1873 ef1830 rfl); have z7_ := congrArg Int32.toInt (rd_w k1873 ef1831 rfl); have z8_ := congrArg Int32.toInt (rd_w k1873 ef1832 rfl); have z9_ := congrArg Int32.toInt (rd_w k1873 ef1833 rfl); have z10_ := congrArg Int32.toInt (rd_w k1873 ef1834 rfl); have z_ := w_lits; have zl_ := l_lits; omega)) (fun h1897 hJ1897 k1897 m1897 => ?_)
          obtain ⟨m1897_0, m1897_1, m1897_2, m1897_3, m1897_4⟩ := m1897
          obtain ⟨f1898, ef1898⟩ : ∃ f_, h1897 63 17 = f_ := ⟨_, rfl⟩
          have bf1898 : B f1898 0 160 := by have z_ := hJ1897.1 63 17; rw [ef1898] at z_; exact z_
          have zf1898 := congrArg Int32.toInt ef1898
          obtain ⟨f1899, ef1899⟩ : ∃ f_, h1897 63 21 = f_ := ⟨_, rfl⟩
          have bf1899 : B f1899 0 6 := by have z_ := hJ1897.1 63 21; rw [ef1899] at z_; exact z_
          have zf1899 := congrArg Int32.toInt ef1899
          obtain ⟨f1900, ef1900⟩ : ∃ f_, h1897 63 20 = f_ := ⟨_, rfl⟩
          have bf1900 : B f1900 (-2147483648) 2147483647 := by have z_ := hJ1897.1 63 20; rw [ef1900] at z_; exact z_
          have zf1900 := congrArg Int32.toInt ef1900
          obtain ⟨f1901, ef1901⟩ : ∃ f_, h1897 63 19 = f_ := ⟨_, rfl⟩
          have bf1901 : B f1901 0 3 := by have z_ := hJ1897.1 63 19; rw [ef1901] at z_; exact z_
          have zf1901 := congrArg Int32.toInt ef1901
          have z1902 := congrArg Int32.toInt (rd_w k1897 (rd_w k1873 z1824 rfl) rfl)
          have z1903 := congrArg Int32.toInt ef1898
          have z1904 := congrArg Int32.toInt ef1899
          have z1905 := congrArg Int32.toInt ef1900
          have z1906 := congrArg Int32.toInt ef1901
          have z1907 := congrArg Int32.toInt (rd_w k1897 ef1874 rfl)
          have z1908 := congrArg Int32.toInt (rd_w k1897 (rd_w k1873 ef1830 rfl) rfl)
          have z1909 := congrArg Int32.toInt (rd_w k1897 (rd_w k1873 ef1831 rfl) rfl)
          have z1910 := congrArg Int32.toInt (rd_w k1897 (rd_w k1873 ef1832 rfl) rfl)
          have z1911 := congrArg Int32.toInt (rd_w k1897 (rd_w k1873 ef1833 rfl) rfl)
          have z1912 := congrArg Int32.toInt (rd_w k1897 (rd_w k1873 ef1834 rfl) rfl)
          refine ev_goto rfl rfl ?_
          exact (ih19 0 w1819 h1897 ((by decide : B 0 0 0).mono (by decide) (by decide)) b1821 hJ1897 (rd_w k1897 (rd_w k1873 z1824 rfl) rfl) (by have z0_ := congrArg Int32.toInt (rd_w k1897 (rd_w k1873 z1824 rfl) rfl); have z1_ := congrArg Int32.toInt ef1898; have z2_ := congrArg Int32.toInt ef1899; have z3_ := congrArg Int32.toInt ef1900; have z4_ := congrArg Int32.toInt ef1901; have z5_ := congrArg Int32.toInt (rd_w k1897 ef1874 rfl); have z6_ := congrArg Int32.toInt (rd_w k1897 (rd_w k1873 ef1830 rfl) rfl); have z7_ := congrArg Int32.toInt (rd_w k1897 (rd_w k1873 ef1831 rfl) rfl); have z8_ := congrArg Int32.toInt (rd_w k1897 (rd_w k1873 ef1832 rfl) rfl); have z9_ := congrArg Int32.toInt (rd_w k1897 (rd_w k1873 ef1833 rfl) rfl); have z10_ := congrArg Int32.toInt (rd_w k1897 (rd_w k1873 ef1834 rfl) rfl); have z_ := w_lits; have zl_ := l_lits; omega) (by have z0_ := congrArg Int32.toInt (rd_w k1897 (rd_w k1873 z1824 rfl) rfl); have z1_ := congrArg Int32.toInt ef1898; have z2_ := congrArg Int32.toInt ef1899; have z3_ := congrArg Int32.toInt ef1900; have z4_ := congrArg Int32.toInt ef1901; have z5_ := congrArg Int32.toInt (rd_w k1897 ef1874 rfl); have z6_ := congrArg Int32.toInt (rd_w k1897 (rd_w k1873 ef1830 rfl) rfl); have z7_ := congrArg Int32.toInt (rd_w k1897 (rd_w k1873 ef1831 rfl) rfl); have z8_ := congrArg Int32.toInt (rd_w k1897 (rd_w k1873 ef1832 rfl) rfl); have z9_ := congrArg Int32.toInt (rd_w k1897 (rd_w k1873 ef1833 rfl) rfl); have z10_ := congrArg Int32.toInt (rd_w k1897 (rd_w k1873 ef1834 rfl) rfl); have z_ := w_lits; have zl_ := l_lits; omega) (by have z0_ := congrArg Int32.toInt (rd_w k1897 (rd_w k1873 z1824 rfl) rfl); have z1_ := congrArg Int32.toInt ef1898; have z2_ := congrArg Int32.toInt ef1899; have z3_ := congrArg Int32.toInt ef1900; have z4_ := congrArg Int32.toInt ef1901; have z5_ := congrArg Int32.toInt (rd_w k1897 ef1874 rfl); have z6_ := congrArg Int32.toInt (rd_w k1897 (rd_w k1873 ef1830 rfl) rfl); have z7_ := congrArg Int32.toInt (rd_w k1897 (rd_w k1873 ef1831 rfl) rfl); have z8_ := congrArg Int32.toInt (rd_w k1897 (rd_w k1873 ef1832 rfl) rfl); have z9_ := congrArg Int32.toInt (rd_w k1897 (rd_w k1873 ef1833 rfl) rfl); have z10_ := congrArg Int32.toInt (rd_w k1897 (rd_w k1873 ef1834 rfl) rfl); have z_ := w_lits; have zl_ := l_lits; omega) (by have z0_ := congrArg Int32.toInt (rd_w k1897 (rd_w k1873 z1824 rfl) rfl); have z1_ := congrArg Int32.toInt ef1898; have z2_ := congrArg Int32.toInt ef1899; have z3_ := congrArg Int32.toInt ef1900; have z4_ := congrArg Int32.toInt ef1901; have z5_ := congrArg Int32.toInt (rd_w k1897 ef1874 rfl); have z6_ := congrArg Int32.toInt (rd_w k1897 (rd_w k1873 ef1830 rfl) rfl); have z7_ := congrArg Int32.toInt (rd_w k1897 (rd_w k1873 ef1831 rfl) rfl); have z8_ := congrArg Int32.toInt (rd_w k1897 (rd_w k1873 ef1832 rfl) rfl); have z9_ := congrArg Int32.toInt (rd_w k1897 (rd_w k1873 ef1833 rfl) rfl); have z10_ := congrArg Int32.toInt (rd_w k1897 (rd_w k1873 ef1834 rfl) rfl); have z_ := w_lits; have zl_ := l_lits; omega) (by have z0_ := congrArg Int32.toInt (rd_w k1897 (rd_w k1873 z1824 rfl) rfl); have z1_ := congrArg Int32.toInt ef1898; have z2_ := congrArg Int32.toInt ef1899; have z3_ := congrArg Int32.toInt ef1900; have z4_ := congrArg Int32.toInt ef1901; have z5_ := congrArg Int32.toInt (rd_w k1897 ef1874 rfl); have z6_ := congrArg Int32.toInt (rd_w k1897 (rd_w k1873 ef1830 rfl) rfl); have z7_ := congrArg Int32.toInt (rd_w k1897 (rd_w k1873 ef1831 rfl) rfl); have z8_ := congrArg Int32.toInt (rd_w k1897 (rd_w k1873 ef1832 rfl) rfl); have z9_ := congrArg Int32.toInt (rd_w k1897 (rd_w k1873 ef1833 rfl) rfl); have z10_ := congrArg Int32.toInt (rd_w k1897 (rd_w k1873 ef1834 rfl) rfl); have z_ := w_lits; have zl_ := l_lits; omega) (by have z0_ := congrArg Int32.toInt (rd_w k1897 (rd_w k1873 z1824 rfl) rfl); have z1_ := congrArg Int32.toInt ef1898; have z2_ := congrArg Int32.toInt ef1899; have z3_ := congrArg Int32.toInt ef1900; have z4_ := congrArg Int32.toInt ef1901; have z5_ := congrArg Int32.toInt (rd_w k1897 ef1874 rfl); have z6_ := congrArg Int32.toInt (rd_w k1897 (rd_w k1873 ef1830 rfl) rfl); have z7_ := congrArg Int32.toInt (rd_w k1897 (rd_w k1873 ef1831 rfl) rfl); have z8_ := congrArg Int32.toInt (rd_w k1897 (rd_w k1873 ef1832 rfl) rfl); have z9_ := congrArg Int32.toInt (rd_w k1897 (rd_w k1873 ef1833 rfl) rfl); have z10_ := congrArg Int32.toInt (rd_w k1897 (rd_w k1873 ef1834 rfl) rfl); have z_ := w_lits; have zl_ := l_lits; omega) (mM_dec hm19 (by have z0_ := congrArg Int32.toInt (rd_w k1897 (rd_w k1873 z1824 rfl) rfl); have z1_ := congrArg Int32.toInt ef1898; have z2_ := congrArg Int32.toInt ef1899; have z3_ := congrArg Int32.toInt ef1900; have z4_ := congrArg Int32.toInt ef1901; have z5_ := congrArg Int32.toInt (rd_w k1897 ef1874 rfl); have z6_ := congrArg Int32.toInt (rd_w k1897 (rd_w k1873 ef1830 rfl) rfl); have z7_ := congrArg Int32.toInt (rd_w k1897 (rd_w k1873 ef1831 rfl) rfl); have z8_ := congrArg Int32.toInt (rd_w k1897 (rd_w k1873 ef1832 rfl) rfl); have z9_ := congrArg Int32.toInt (rd_w k1897 (rd_w k1873 ef1833 rfl) rfl); have z10_ := congrArg Int32.toInt (rd_w k1897 (rd_w k1873 ef1834 rfl) rfl); have z_ := w_lits; have zl_ := l_lits; omega) (by have z0_ := congrArg Int32.toInt (rd_w k1897 (rd_w k1873 z1824 rfl) rfl); have z1_ := congrArg Int32.toInt ef1898; have z2_ := congrArg Int32.toInt ef1899; have z3_ := congrArg Int32.toInt ef1900; have z4_ := congrArg Int32.toInt ef1901; have z5_ := congrArg Int32.toInt (rd_w k1897 ef1874 rfl); have z6_ := congrArg Int32.toInt (rd_w k1897 (rd_w k1873 ef1830 rfl) rfl); have z7_ := congrArg Int32.toInt (rd_w k1897 (rd_w k1873 ef1831 rfl) rfl); have z8_ := congrArg Int32.toInt (rd_w k1897 (rd_w k1873 ef1832 rfl) rfl); have z9_ := congrArg Int32.toInt (rd_w k1897 (rd_w k1873 ef1833 rfl) rfl); have z10_ := congrArg Int32.toInt (rd_w k1897 (rd_w k1873 ef1834 rfl) rfl); have z_ := w_lits; have zl_ := l_lits; omega) (by have z0_ := congrArg Int32.toInt (rd_w k1897 (rd_w k1873 z1824 rfl) rfl); have z1_ := congrArg Int32.toInt ef1898; have z2_ := congrArg Int32.toInt ef1899; have z3_ := congrArg Int32.toInt ef1900; have z4_ := congrArg Int32.toInt ef1901; have z5_ := congrArg Int32.toInt (rd_w k1897 ef1874 rfl); have z6_ := congrArg Int32.toInt (rd_w k1897 (rd_w k1873 ef1830 rfl) rfl); have z7_ := congrArg Int32.toInt (rd_w k1897 (rd_w k1873 ef1831 rfl) rfl); have z8_ := congrArg Int32.toInt (rd_w k1897 (rd_w k1873 ef1832 rfl) rfl); have z9_ := congrArg Int32.toInt (rd_w k1897 (rd_w k1873 ef1833 rfl) rfl); have z10_ := congrArg Int32.toInt (rd_w k1897 (rd_w k1873 ef1834 rfl) rfl); have z_ := w_lits; have zl_ := l_lits; omega)))
        · have z1858 := w_ne c1855
          rw [show (1 : Int32).toInt = 1 from by decide] at z1858
          refine ev_aload_n rfl rfl rfl ?_
          refine ev_bipush (v := 46) rfl rfl (by decide) ?_
          have z1913 := congrArg Int32.toInt z1824
          have z1914 := congrArg Int32.toInt ef1825
          have z1915 := congrArg Int32.toInt ef1826
          have z1916 := congrArg Int32.toInt ef1827
          have z1917 := congrArg Int32.toInt ef1828
          have z1918 := congrArg Int32.toInt ef1829
          have z1919 := congrArg Int32.toInt ef1830
          have z1920 := congrArg Int32.toInt ef1831
          have z1921 := congrArg Int32.toInt ef1832
          have z1922 := congrArg Int32.toInt ef1833
          have z1923 := congrArg Int32.toInt ef1834
          refine ev_V1P rfl rfl lk_X10_244 vt_X10_isSign rfl rfl rfl rfl rfl (w_X10_isSign_63 L b h1822 hJ1823.1 46) (fun r1924 q1924 => ?_)
          obtain ⟨b1924, pp1924_0⟩ := q1924
          refine ev_if_eq rfl rfl (fun c1925 => ?_) (fun c1925 => ?_)
          · have b1926 : B r1924 0 0 := R_eqX b1924 (by decide : B 0 0 0) c1925
            have z1927 := congrArg Int32.toInt c1925
            rw [show (0 : Int32).toInt = 0 from by decide] at z1927
            refine ev_aload_n rfl rfl rfl ?_
            refine ev_getV (v := f1828) rfl rfl fl_X10_204 rfl rfl rfl ef1828 ?_
            refine ev_iconst (v := 2) rfl rfl (by decide) ?_
            refine ev_icmp_ne rfl rfl (fun c1930 => ?_) (fun c1930 => ?_)
            · have z1931 := w_ne c1930
              rw [show (2 : Int32).toInt = 2 from by decide] at z1931
              refine ev_aload_n rfl rfl rfl ?_
              refine ev_bipush (v := 41) rfl rfl (by decide) ?_
              have z1934 := congrArg Int32.toInt z1824
              have z1935 := congrArg Int32.toInt ef1825
              have z1936 := congrArg Int32.toInt ef1826
              have z1937 := congrArg Int32.toInt ef1827
              have z1938 := congrArg Int32.toInt ef1828
              have z1939 := congrArg Int32.toInt ef1829
              have z1940 := congrArg Int32.toInt ef1830
              have z1941 := congrArg Int32.toInt ef1831
              have z1942 := congrArg Int32.toInt ef1832
              have z1943 := congrArg Int32.toInt ef1833
              have z1944 := congrArg Int32.toInt ef1834
              refine ev_V1P rfl rfl lk_X10_244 vt_X10_isSign rfl rfl rfl rfl rfl (w_X10_isSign_63 L b h1822 hJ1823.1 41) (fun r1945 q1945 => ?_)
              obtain ⟨b1945, pp1945_0⟩ := q1945
              refine ev_if_eq rfl rfl (fun c1946 => ?_) (fun c1946 => ?_)
              · have b1947 : B r1945 0 0 := R_eqX b1945 (by decide : B 0 0 0) c1946
                have z1948 := congrArg Int32.toInt c1946
                rw [show (0 : Int32).toInt = 0 from by decide] at z1948
                refine ev_aload_n rfl rfl rfl ?_
                refine ev_aload_n rfl rfl rfl ?_
                refine ev_getV (v := f1828) rfl rfl fl_X10_204 rfl rfl rfl ef1828 ?_
                refine ev_if_ne rfl rfl (fun c1951 => ?_) (fun c1951 => ?_)
                · have b1952 : B f1828 1 3 := R_neL bf1828 (by decide : B 0 0 0) c1951 (by decide)
                  have z1953 := w_ne c1951
                  rw [show (0 : Int32).toInt = 0 from by decide] at z1953
                  refine ev_iconst (v := 0) rfl rfl (by decide) ?_
                  refine ev_iconst (v := 2) rfl rfl (by decide) ?_
                  have z1956 := congrArg Int32.toInt z1824
                  have z1957 := congrArg Int32.toInt ef1825
                  have z1958 := congrArg Int32.toInt ef1826
                  have z1959 := congrArg Int32.toInt ef1827
                  have z1960 := congrArg Int32.toInt ef1828
                  have z1961 := congrArg Int32.toInt ef1829
                  have z1962 := congrArg Int32.toInt ef1830
                  have z1963 := congrArg Int32.toInt ef1831
                  have z1964 := congrArg Int32.toInt ef1832
                  have z1965 := congrArg Int32.toInt ef1833
                  have z1966 := congrArg Int32.toInt ef1834
                  refine ev_V2K hJ1823 rfl rfl rfl lk_X10_230 vt_X10_wants rfl rfl rfl rfl rfl (w_X10_wants_63 L b h1822 hJ1823.1 0 ((by decide : B 0 0 0).mono (by decide) (by decide)) 2 ((by decide : B 2 2 2).mono (by decide) (by decide))) (fun h1967 hJ1967 k1967 m1967 => ?_)
                  obtain ⟨f1968, ef1968⟩ : ∃ f_, h1967 63 21 = f_ := ⟨_, rfl⟩
                  have bf1968 : B f1968 0 6 := by have z_ := hJ1967.1 63 21; rw [ef1968] at z_; exact z_
                  have zf1968 := congrArg Int32.toInt ef1968
                  have z1969 := congrArg Int32.toInt (rd_w k1967 z1824 rfl)
                  have z1970 := congrArg Int32.toInt (rd_w k1967 ef1825 rfl)
                  have z1971 := congrArg Int32.toInt ef1968
                  have z1972 := congrArg Int32.toInt (rd_w k1967 ef1827 rfl)
                  have z1973 := congrArg Int32.toInt (rd_w k1967 ef1828 rfl)
                  have z1974 := congrArg Int32.toInt (rd_w k1967 ef1829 rfl)
                  have z1975 := congrArg Int32.toInt (rd_w k1967 ef1830 rfl)
                  have z1976 := congrArg Int32.toInt (rd_w k1967 ef1831 rfl)
                  have z1977 := congrArg Int32.toInt (rd_w k1967 ef1832 rfl)
                  have z1978 := congrArg Int32.toInt (rd_w k1967 ef1833 rfl)
                  have z1979 := congrArg Int32.toInt (rd_w k1967 ef1834 rfl)
                  refine ev_iconst (v := 0) rfl rfl (by decide) ?_
                  refine ev_istore_n rfl rfl rfl rfl ?_
                  dsimp only [List.set]
                  refine ev_goto rfl rfl ?_
                  refine ev_iload_n rfl rfl rfl ?_
                  refine ev_if_eq rfl rfl (fun c1980 => ?_) (fun c1980 => absurd (D_eq (by decide : B 0 0 0) (by decide : B 0 0 0)) c1980)
                  have z1981 := congrArg Int32.toInt c1980
                  rw [show (0 : Int32).toInt = 0 from by decide] at z1981
                  refine ev_aload_n rfl rfl rfl ?_
                  refine ev_getV (v := f1968) rfl rfl fl_X10_191 rfl rfl rfl ef1968 ?_
                  refine ev_if_ne rfl rfl (fun c1982 => ?_) (fun c1982 => ?_)
                  · have b1983 : B f1968 1 6 := R_neL bf1968 (by decide : B 0 0 0) c1982 (by decide)
                    have z1984 := w_ne c1982
                    rw [show (0 : Int32).toInt = 0 from by decide] at z1984
                    exact ev_vret rfl rfl trivial ⟨rfl, rfl, hJ1967, (by have z0_ := congrArg Int32.toInt (rd_w k1967 z1824 rfl); have z1_ := congrArg Int32.toInt (rd_w k1967 ef1825 rfl); have z2_ := congrArg Int32.toInt ef1968; have z3_ := congrArg Int32.toInt (rd_w k1967 ef1827 rfl); have z4_ := congrArg Int32.toInt (rd_w k1967 ef1828 rfl); have z5_ := congrArg Int32.toInt (rd_w k1967 ef1829 rfl); have z6_ := congrArg Int32.toInt (rd_w k1967 ef1830 rfl); have z7_ := congrArg Int32.toInt (rd_w k1967 ef1831 rfl); have z8_ := congrArg Int32.toInt (rd_w k1967 ef1832 rfl); have z9_ := congrArg Int32.toInt (rd_w k1967 ef1833 rfl); have z10_ := congrArg Int32.toInt (rd_w k1967 ef1834 rfl); have z_ := w_lits; have zl_ := l_lits; omega)⟩
                  · have b1985 : B f1968 0 0 := R_eqX bf1968 (by decide : B 0 0 0) c1982
                    have z1986 := congrArg Int32.toInt c1982
                    rw [show (0 : Int32).toInt = 0 from by decide] at z1986
                    refine ev_aload_n rfl rfl rfl ?_
                    refine ev_getW (l := (-2147483648)) (u := 2147483647) hJ1967.1 rfl rfl rfl fl_X10_237 rfl rfl rfl (fun v1987 b1987 e1987 => ?_)
                    refine ev_if_ne rfl rfl (fun c1988 => ?_) (fun c1988 => ?_)
                    · have z1989 := w_ne c1988
                      rw [show (0 : Int32).toInt = 0 from by decide] at z1989
                      refine ev_aload_n rfl rfl rfl ?_
                      refine ev_bipush (v := 6) rfl rfl (by decide) ?_
                      refine ev_iconst (v := 0) rfl rfl (by decide) ?_
                      have z1992 := congrArg Int32.toInt (rd_w k1967 z1824 rfl)
                      have z1993 := congrArg Int32.toInt (rd_w k1967 ef1825 rfl)
                      have z1994 := congrArg Int32.toInt ef1968
                      have z1995 := congrArg Int32.toInt (rd_w k1967 ef1827 rfl)
                      have z1996 := congrArg Int32.toInt (rd_w k1967 ef1828 rfl)
                      have z1997 := congrArg Int32.toInt (rd_w k1967 ef1829 rfl)
                      have z1998 := congrArg Int32.toInt (rd_w k1967 ef1830 rfl)
                      have z1999 := congrArg Int32.toInt (rd_w k1967 ef1831 rfl)
                      have z2000 := congrArg Int32.toInt (rd_w k1967 ef1832 rfl)
                      have z2001 := congrArg Int32.toInt (rd_w k1967 ef1833 rfl)
                      have z2002 := congrArg Int32.toInt (rd_w k1967 ef1834 rfl)
                      refine ev_V2K hJ1967 rfl rfl rfl lk_X10_200 vt_X10_fails rfl rfl rfl rfl rfl (w_X10_fails_63 L b h1967 hJ1967.1 6 ((by decide : B 6 6 6).mono (by decide) (by decide)) 0) (fun h2003 hJ2003 k2003 m2003 => ?_)
                      obtain ⟨f2004, ef2004⟩ : ∃ f_, h2003 63 21 = f_ := ⟨_, rfl⟩
                      have bf2004 : B f2004 0 6 := by have z_ := hJ2003.1 63 21; rw [ef2004] at z_; exact z_
                      have zf2004 := congrArg Int32.toInt ef2004
                      have z2005 := congrArg Int32.toInt (rd_w k2003 (rd_w k1967 z1824 rfl) rfl)
                      have z2006 := congrArg Int32.toInt (rd_w k2003 (rd_w k1967 ef1825 rfl) rfl)
                      have z2007 := congrArg Int32.toInt ef2004
                      have z2008 := congrArg Int32.toInt (rd_w k2003 (rd_w k1967 ef1827 rfl) rfl)
                      have z2009 := congrArg Int32.toInt (rd_w k2003 (rd_w k1967 ef1828 rfl) rfl)
                      have z2010 := congrArg Int32.toInt (rd_w k2003 (rd_w k1967 ef1829 rfl) rfl)
                      have z2011 := congrArg Int32.toInt (rd_w k2003 (rd_w k1967 ef1830 rfl) rfl)
                      have z2012 := congrArg Int32.toInt (rd_w k2003 (rd_w k1967 ef1831 rfl) rfl)
                      have z2013 := congrArg Int32.toInt (rd_w k2003 (rd_w k1967 ef1832 rfl) rfl)
                      have z2014 := congrArg Int32.toInt (rd_w k2003 (rd_w k1967 ef1833 rfl) rfl)
                      have z2015 := congrArg Int32.toInt (rd_w k2003 (rd_w k1967 ef1834 rfl) rfl)
                      exact ev_vret rfl rfl trivial ⟨rfl, rfl, hJ2003, (by have z0_ := congrArg Int32.toInt (rd_w k2003 (rd_w k1967 z1824 rfl) rfl); have z1_ := congrArg Int32.toInt (rd_w k2003 (rd_w k1967 ef1825 rfl) rfl); have z2_ := congrArg Int32.toInt ef2004; have z3_ := congrArg Int32.toInt (rd_w k2003 (rd_w k1967 ef1827 rfl) rfl); have z4_ := congrArg Int32.toInt (rd_w k2003 (rd_w k1967 ef1828 rfl) rfl); have z5_ := congrArg Int32.toInt (rd_w k2003 (rd_w k1967 ef1829 rfl) rfl); have z6_ := congrArg Int32.toInt (rd_w k2003 (rd_w k1967 ef1830 rfl) rfl); have z7_ := congrArg Int32.toInt (rd_w k2003 (rd_w k1967 ef1831 rfl) rfl); have z8_ := congrArg Int32.toInt (rd_w k2003 (rd_w k1967 ef1832 rfl) rfl); have z9_ := congrArg Int32.toInt (rd_w k2003 (rd_w k1967 ef1833 rfl) rfl); have z10_ := congrArg Int32.toInt (rd_w k2003 (rd_w k1967 ef1834 rfl) rfl); have z_ := w_lits; have zl_ := l_lits; omega)⟩
                    · have b1990 : B v1987 0 0 := R_eqX (B.any v1987) (by decide : B 0 0 0) c1988
                      have z1991 := congrArg Int32.toInt c1988
                      rw [show (0 : Int32).toInt = 0 from by decide] at z1991
                      refine ev_aload_n rfl rfl rfl ?_
                      refine ev_getV (v := f1829) rfl rfl fl_X10_234 rfl rfl rfl (rd_w k1967 ef1829 rfl) ?_
                      refine ev_bipush (v := 24) rfl rfl (by decide) ?_
                      refine ev_icmp_le rfl rfl (fun c2016 => ?_) (fun c2016 => ?_)
                      · have b2017 : B f1829 0 24 := R_leX bf1829 (by decide : B 24 24 24) c2016 (by decide)
                        have z2018 := w_le c2016
                        rw [show (24 : Int32).toInt = 24 from by decide] at z2018
                        exact ev_vret rfl rfl trivial ⟨rfl, rfl, hJ1967, (by have z0_ := congrArg Int32.toInt (rd_w k1967 z1824 rfl); have z1_ := congrArg Int32.toInt (rd_w k1967 ef1825 rfl); have z2_ := congrArg Int32.toInt ef1968; have z3_ := congrArg Int32.toInt (rd_w k1967 ef1827 rfl); have z4_ := congrArg Int32.toInt (rd_w k1967 ef1828 rfl); have z5_ := congrArg Int32.toInt (rd_w k1967 ef1829 rfl); have z6_ := congrArg Int32.toInt (rd_w k1967 ef1830 rfl); have z7_ := congrArg Int32.toInt (rd_w k1967 ef1831 rfl); have z8_ := congrArg Int32.toInt (rd_w k1967 ef1832 rfl); have z9_ := congrArg Int32.toInt (rd_w k1967 ef1833 rfl); have z10_ := congrArg Int32.toInt (rd_w k1967 ef1834 rfl); have z_ := w_lits; have zl_ := l_lits; omega)⟩
                      · have b2019 : B f1829 25 60 := R_ltY (by decide : B 24 24 24) bf1829 (Int32.not_le.mp c2016) (by decide)
                        have z2020 := w_lt (Int32.not_le.mp c2016)
                        rw [show (24 : Int32).toInt = 24 from by decide] at z2020
                        refine ev_aload_n rfl rfl rfl ?_
                        refine ev_bipush (v := 6) rfl rfl (by decide) ?_
                        refine ev_iconst (v := 0) rfl rfl (by decide) ?_
                        have z2021 := congrArg Int32.toInt (rd_w k1967 z1824 rfl)
                        have z2022 := congrArg Int32.toInt (rd_w k1967 ef1825 rfl)
                        have z2023 := congrArg Int32.toInt ef1968
                        have z2024 := congrArg Int32.toInt (rd_w k1967 ef1827 rfl)
                        have z2025 := congrArg Int32.toInt (rd_w k1967 ef1828 rfl)
                        have z2026 := congrArg Int32.toInt (rd_w k1967 ef1829 rfl)
                        have z2027 := congrArg Int32.toInt (rd_w k1967 ef1830 rfl)
                        have z2028 := congrArg Int32.toInt (rd_w k1967 ef1831 rfl)
                        have z2029 := congrArg Int32.toInt (rd_w k1967 ef1832 rfl)
                        have z2030 := congrArg Int32.toInt (rd_w k1967 ef1833 rfl)
                        have z2031 := congrArg Int32.toInt (rd_w k1967 ef1834 rfl)
                        refine ev_V2K hJ1967 rfl rfl rfl lk_X10_200 vt_X10_fails rfl rfl rfl rfl rfl (w_X10_fails_63 L b h1967 hJ1967.1 6 ((by decide : B 6 6 6).mono (by decide) (by decide)) 0) (fun h2032 hJ2032 k2032 m2032 => ?_)
                        obtain ⟨f2033, ef2033⟩ : ∃ f_, h2032 63 21 = f_ := ⟨_, rfl⟩
                        have bf2033 : B f2033 0 6 := by have z_ := hJ2032.1 63 21; rw [ef2033] at z_; exact z_
                        have zf2033 := congrArg Int32.toInt ef2033
                        have z2034 := congrArg Int32.toInt (rd_w k2032 (rd_w k1967 z1824 rfl) rfl)
                        have z2035 := congrArg Int32.toInt (rd_w k2032 (rd_w k1967 ef1825 rfl) rfl)
                        have z2036 := congrArg Int32.toInt ef2033
                        have z2037 := congrArg Int32.toInt (rd_w k2032 (rd_w k1967 ef1827 rfl) rfl)
                        have z2038 := congrArg Int32.toInt (rd_w k2032 (rd_w k1967 ef1828 rfl) rfl)
                        have z2039 := congrArg Int32.toInt (rd_w k2032 (rd_w k1967 ef1829 rfl) rfl)
                        have z2040 := congrArg Int32.toInt (rd_w k2032 (rd_w k1967 ef1830 rfl) rfl)
                        have z2041 := congrArg Int32.toInt (rd_w k2032 (rd_w k1967 ef1831 rfl) rfl)
                        have z2042 := congrArg Int32.toInt (rd_w k2032 (rd_w k1967 ef1832 rfl) rfl)
                        have z2043 := congrArg Int32.toInt (rd_w k2032 (rd_w k1967 ef1833 rfl) rfl)
                        have z2044 := congrArg Int32.toInt (rd_w k2032 (rd_w k1967 ef1834 rfl) rfl)
                        exact ev_vret rfl rfl trivial ⟨rfl, rfl, hJ2032, (by have z0_ := congrArg Int32.toInt (rd_w k2032 (rd_w k1967 z1824 rfl) rfl); have z1_ := congrArg Int32.toInt (rd_w k2032 (rd_w k1967 ef1825 rfl) rfl); have z2_ := congrArg Int32.toInt ef2033; have z3_ := congrArg Int32.toInt (rd_w k2032 (rd_w k1967 ef1827 rfl) rfl); have z4_ := congrArg Int32.toInt (rd_w k2032 (rd_w k1967 ef1828 rfl) rfl); have z5_ := congrArg Int32.toInt (rd_w k2032 (rd_w k1967 ef1829 rfl) rfl); have z6_ := congrArg Int32.toInt (rd_w k2032 (rd_w k1967 ef1830 rfl) rfl); have z7_ := congrArg Int32.toInt (rd_w k2032 (rd_w k1967 ef1831 rfl) rfl); have z8_ := congrArg Int32.toInt (rd_w k2032 (rd_w k1967 ef1832 rfl) rfl); have z9_ := congrArg Int32.toInt (rd_w k2032 (rd_w k1967 ef1833 rfl) rfl); have z10_ := congrArg Int32.toInt (rd_w k2032 (rd_w k1967 ef1834 rfl) rfl); have z_ := w_lits; have zl_ := l_lits; omega)⟩
                · have b1954 : B f1828 0 0 := R_eqX bf1828 (by decide : B 0 0 0) c1951
                  have z1955 := congrArg Int32.toInt c1951
                  rw [show (0 : Int32).toInt = 0 from by decide] at z1955
                  refine ev_aload_n rfl rfl rfl ?_
                  refine ev_getV (v := f1830) rfl rfl fl_X10_241 rfl rfl rfl ef1830 ?_
                  refine ev_if_ne rfl rfl (fun c2045 => ?_) (fun c2045 => ?_)
                  · have b2046 : B f1830 1 4 := R_neL bf1830 (by decide : B 0 0 0) c2045 (by decide)
                    have z2047 := w_ne c2045
                    rw [show (0 : Int32).toInt = 0 from by decide] at z2047
                    refine ev_iconst (v := 0) rfl rfl (by decide) ?_
                    refine ev_iconst (v := 2) rfl rfl (by decide) ?_
                    have z2050 := congrArg Int32.toInt z1824
                    have z2051 := congrArg Int32.toInt ef1825
                    have z2052 := congrArg Int32.toInt ef1826
                    have z2053 := congrArg Int32.toInt ef1827
                    have z2054 := congrArg Int32.toInt ef1828
                    have z2055 := congrArg Int32.toInt ef1829
                    have z2056 := congrArg Int32.toInt ef1830
                    have z2057 := congrArg Int32.toInt ef1831
                    have z2058 := congrArg Int32.toInt ef1832
                    have z2059 := congrArg Int32.toInt ef1833
                    have z2060 := congrArg Int32.toInt ef1834
                    refine ev_V2K hJ1823 rfl rfl rfl lk_X10_230 vt_X10_wants rfl rfl rfl rfl rfl (w_X10_wants_63 L b h1822 hJ1823.1 0 ((by decide : B 0 0 0).mono (by decide) (by decide)) 2 ((by decide : B 2 2 2).mono (by decide) (by decide))) (fun h2061 hJ2061 k2061 m2061 => ?_)
                    obtain ⟨f2062, ef2062⟩ : ∃ f_, h2061 63 21 = f_ := ⟨_, rfl⟩
                    have bf2062 : B f2062 0 6 := by have z_ := hJ2061.1 63 21; rw [ef2062] at z_; exact z_
                    have zf2062 := congrArg Int32.toInt ef2062
                    have z2063 := congrArg Int32.toInt (rd_w k2061 z1824 rfl)
                    have z2064 := congrArg Int32.toInt (rd_w k2061 ef1825 rfl)
                    have z2065 := congrArg Int32.toInt ef2062
                    have z2066 := congrArg Int32.toInt (rd_w k2061 ef1827 rfl)
                    have z2067 := congrArg Int32.toInt (rd_w k2061 ef1828 rfl)
                    have z2068 := congrArg Int32.toInt (rd_w k2061 ef1829 rfl)
                    have z2069 := congrArg Int32.toInt (rd_w k2061 ef1830 rfl)
                    have z2070 := congrArg Int32.toInt (rd_w k2061 ef1831 rfl)
                    have z2071 := congrArg Int32.toInt (rd_w k2061 ef1832 rfl)
                    have z2072 := congrArg Int32.toInt (rd_w k2061 ef1833 rfl)
                    have z2073 := congrArg Int32.toInt (rd_w k2061 ef1834 rfl)
                    refine ev_iconst (v := 0) rfl rfl (by decide) ?_
                    refine ev_istore_n rfl rfl rfl rfl ?_
                    dsimp only [List.set]
                    refine ev_goto rfl rfl ?_
                    refine ev_iload_n rfl rfl rfl ?_
                    refine ev_if_eq rfl rfl (fun c2074 => ?_) (fun c2074 => absurd (D_eq (by decide : B 0 0 0) (by decide : B 0 0 0)) c2074)
                    have z2075 := congrArg Int32.toInt c2074
                    rw [show (0 : Int32).toInt = 0 from by decide] at z2075
                    refine ev_aload_n rfl rfl rfl ?_
                    refine ev_getV (v := f2062) rfl rfl fl_X10_191 rfl rfl rfl ef2062 ?_
                    refine ev_if_ne rfl rfl (fun c2076 => ?_) (fun c2076 => ?_)
                    · have b2077 : B f2062 1 6 := R_neL bf2062 (by decide : B 0 0 0) c2076 (by decide)
                      have z2078 := w_ne c2076
                      rw [show (0 : Int32).toInt = 0 from by decide] at z2078
                      exact ev_vret rfl rfl trivial ⟨rfl, rfl, hJ2061, (by have z0_ := congrArg Int32.toInt (rd_w k2061 z1824 rfl); have z1_ := congrArg Int32.toInt (rd_w k2061 ef1825 rfl); have z2_ := congrArg Int32.toInt ef2062; have z3_ := congrArg Int32.toInt (rd_w k2061 ef1827 rfl); have z4_ := congrArg Int32.toInt (rd_w k2061 ef1828 rfl); have z5_ := congrArg Int32.toInt (rd_w k2061 ef1829 rfl); have z6_ := congrArg Int32.toInt (rd_w k2061 ef1830 rfl); have z7_ := congrArg Int32.toInt (rd_w k2061 ef1831 rfl); have z8_ := congrArg Int32.toInt (rd_w k2061 ef1832 rfl); have z9_ := congrArg Int32.toInt (rd_w k2061 ef1833 rfl); have z10_ := congrArg Int32.toInt (rd_w k2061 ef1834 rfl); have z_ := w_lits; have zl_ := l_lits; omega)⟩
                    · have b2079 : B f2062 0 0 := R_eqX bf2062 (by decide : B 0 0 0) c2076
                      have z2080 := congrArg Int32.toInt c2076
                      rw [show (0 : Int32).toInt = 0 from by decide] at z2080
                      refine ev_aload_n rfl rfl rfl ?_
                      refine ev_getW (l := (-2147483648)) (u := 2147483647) hJ2061.1 rfl rfl rfl fl_X10_237 rfl rfl rfl (fun v2081 b2081 e2081 => ?_)
                      refine ev_if_ne rfl rfl (fun c2082 => ?_) (fun c2082 => ?_)
                      · have z2083 := w_ne c2082
                        rw [show (0 : Int32).toInt = 0 from by decide] at z2083
                        refine ev_aload_n rfl rfl rfl ?_
                        refine ev_bipush (v := 6) rfl rfl (by decide) ?_
                        refine ev_iconst (v := 0) rfl rfl (by decide) ?_
                        have z2086 := congrArg Int32.toInt (rd_w k2061 z1824 rfl)
                        have z2087 := congrArg Int32.toInt (rd_w k2061 ef1825 rfl)
                        have z2088 := congrArg Int32.toInt ef2062
                        have z2089 := congrArg Int32.toInt (rd_w k2061 ef1827 rfl)
                        have z2090 := congrArg Int32.toInt (rd_w k2061 ef1828 rfl)
                        have z2091 := congrArg Int32.toInt (rd_w k2061 ef1829 rfl)
                        have z2092 := congrArg Int32.toInt (rd_w k2061 ef1830 rfl)
                        have z2093 := congrArg Int32.toInt (rd_w k2061 ef1831 rfl)
                        have z2094 := congrArg Int32.toInt (rd_w k2061 ef1832 rfl)
                        have z2095 := congrArg Int32.toInt (rd_w k2061 ef1833 rfl)
                        have z2096 := congrArg Int32.toInt (rd_w k2061 ef1834 rfl)
                        refine ev_V2K hJ2061 rfl rfl rfl lk_X10_200 vt_X10_fails rfl rfl rfl rfl rfl (w_X10_fails_63 L b h2061 hJ2061.1 6 ((by decide : B 6 6 6).mono (by decide) (by decide)) 0) (fun h2097 hJ2097 k2097 m2097 => ?_)
                        obtain ⟨f2098, ef2098⟩ : ∃ f_, h2097 63 21 = f_ := ⟨_, rfl⟩
                        have bf2098 : B f2098 0 6 := by have z_ := hJ2097.1 63 21; rw [ef2098] at z_; exact z_
                        have zf2098 := congrArg Int32.toInt ef2098
                        have z2099 := congrArg Int32.toInt (rd_w k2097 (rd_w k2061 z1824 rfl) rfl)
                        have z2100 := congrArg Int32.toInt (rd_w k2097 (rd_w k2061 ef1825 rfl) rfl)
                        have z2101 := congrArg Int32.toInt ef2098
                        have z2102 := congrArg Int32.toInt (rd_w k2097 (rd_w k2061 ef1827 rfl) rfl)
                        have z2103 := congrArg Int32.toInt (rd_w k2097 (rd_w k2061 ef1828 rfl) rfl)
                        have z2104 := congrArg Int32.toInt (rd_w k2097 (rd_w k2061 ef1829 rfl) rfl)
                        have z2105 := congrArg Int32.toInt (rd_w k2097 (rd_w k2061 ef1830 rfl) rfl)
                        have z2106 := congrArg Int32.toInt (rd_w k2097 (rd_w k2061 ef1831 rfl) rfl)
                        have z2107 := congrArg Int32.toInt (rd_w k2097 (rd_w k2061 ef1832 rfl) rfl)
                        have z2108 := congrArg Int32.toInt (rd_w k2097 (rd_w k2061 ef1833 rfl) rfl)
                        have z2109 := congrArg Int32.toInt (rd_w k2097 (rd_w k2061 ef1834 rfl) rfl)
                        exact ev_vret rfl rfl trivial ⟨rfl, rfl, hJ2097, (by have z0_ := congrArg Int32.toInt (rd_w k2097 (rd_w k2061 z1824 rfl) rfl); have z1_ := congrArg Int32.toInt (rd_w k2097 (rd_w k2061 ef1825 rfl) rfl); have z2_ := congrArg Int32.toInt ef2098; have z3_ := congrArg Int32.toInt (rd_w k2097 (rd_w k2061 ef1827 rfl) rfl); have z4_ := congrArg Int32.toInt (rd_w k2097 (rd_w k2061 ef1828 rfl) rfl); have z5_ := congrArg Int32.toInt (rd_w k2097 (rd_w k2061 ef1829 rfl) rfl); have z6_ := congrArg Int32.toInt (rd_w k2097 (rd_w k2061 ef1830 rfl) rfl); have z7_ := congrArg Int32.toInt (rd_w k2097 (rd_w k2061 ef1831 rfl) rfl); have z8_ := congrArg Int32.toInt (rd_w k2097 (rd_w k2061 ef1832 rfl) rfl); have z9_ := congrArg Int32.toInt (rd_w k2097 (rd_w k2061 ef1833 rfl) rfl); have z10_ := congrArg Int32.toInt (rd_w k2097 (rd_w k2061 ef1834 rfl) rfl); have z_ := w_lits; have zl_ := l_lits; omega)⟩
                      · have b2084 : B v2081 0 0 := R_eqX (B.any v2081) (by decide : B 0 0 0) c2082
                        have z2085 := congrArg Int32.toInt c2082
                        rw [show (0 : Int32).toInt = 0 from by decide] at z2085
                        refine ev_aload_n rfl rfl rfl ?_
                        refine ev_getV (v := f1829) rfl rfl fl_X10_234 rfl rfl rfl (rd_w k2061 ef1829 rfl) ?_
                        refine ev_bipush (v := 24) rfl rfl (by decide) ?_
                        refine ev_icmp_le rfl rfl (fun c2110 => ?_) (fun c2110 => ?_)
                        · have b2111 : B f1829 0 24 := R_leX bf1829 (by decide : B 24 24 24) c2110 (by decide)
                          have z2112 := w_le c2110
                          rw [show (24 : Int32).toInt = 24 from by decide] at z2112
                          exact ev_vret rfl rfl trivial ⟨rfl, rfl, hJ2061, (by have z0_ := congrArg Int32.toInt (rd_w k2061 z1824 rfl); have z1_ := congrArg Int32.toInt (rd_w k2061 ef1825 rfl); have z2_ := congrArg Int32.toInt ef2062; have z3_ := congrArg Int32.toInt (rd_w k2061 ef1827 rfl); have z4_ := congrArg Int32.toInt (rd_w k2061 ef1828 rfl); have z5_ := congrArg Int32.toInt (rd_w k2061 ef1829 rfl); have z6_ := congrArg Int32.toInt (rd_w k2061 ef1830 rfl); have z7_ := congrArg Int32.toInt (rd_w k2061 ef1831 rfl); have z8_ := congrArg Int32.toInt (rd_w k2061 ef1832 rfl); have z9_ := congrArg Int32.toInt (rd_w k2061 ef1833 rfl); have z10_ := congrArg Int32.toInt (rd_w k2061 ef1834 rfl); have z_ := w_lits; have zl_ := l_lits; omega)⟩
                        · have b2113 : B f1829 25 60 := R_ltY (by decide : B 24 24 24) bf1829 (Int32.not_le.mp c2110) (by decide)
                          have z2114 := w_lt (Int32.not_le.mp c2110)
                          rw [show (24 : Int32).toInt = 24 from by decide] at z2114
                          refine ev_aload_n rfl rfl rfl ?_
                          refine ev_bipush (v := 6) rfl rfl (by decide) ?_
                          refine ev_iconst (v := 0) rfl rfl (by decide) ?_
                          have z2115 := congrArg Int32.toInt (rd_w k2061 z1824 rfl)
                          have z2116 := congrArg Int32.toInt (rd_w k2061 ef1825 rfl)
                          have z2117 := congrArg Int32.toInt ef2062
                          have z2118 := congrArg Int32.toInt (rd_w k2061 ef1827 rfl)
                          have z2119 := congrArg Int32.toInt (rd_w k2061 ef1828 rfl)
                          have z2120 := congrArg Int32.toInt (rd_w k2061 ef1829 rfl)
                          have z2121 := congrArg Int32.toInt (rd_w k2061 ef1830 rfl)
                          have z2122 := congrArg Int32.toInt (rd_w k2061 ef1831 rfl)
                          have z2123 := congrArg Int32.toInt (rd_w k2061 ef1832 rfl)
                          have z2124 := congrArg Int32.toInt (rd_w k2061 ef1833 rfl)
                          have z2125 := congrArg Int32.toInt (rd_w k2061 ef1834 rfl)
                          refine ev_V2K hJ2061 rfl rfl rfl lk_X10_200 vt_X10_fails rfl rfl rfl rfl rfl (w_X10_fails_63 L b h2061 hJ2061.1 6 ((by decide : B 6 6 6).mono (by decide) (by decide)) 0) (fun h2126 hJ2126 k2126 m2126 => ?_)
                          obtain ⟨f2127, ef2127⟩ : ∃ f_, h2126 63 21 = f_ := ⟨_, rfl⟩
                          have bf2127 : B f2127 0 6 := by have z_ := hJ2126.1 63 21; rw [ef2127] at z_; exact z_
                          have zf2127 := congrArg Int32.toInt ef2127
                          have z2128 := congrArg Int32.toInt (rd_w k2126 (rd_w k2061 z1824 rfl) rfl)
                          have z2129 := congrArg Int32.toInt (rd_w k2126 (rd_w k2061 ef1825 rfl) rfl)
                          have z2130 := congrArg Int32.toInt ef2127
                          have z2131 := congrArg Int32.toInt (rd_w k2126 (rd_w k2061 ef1827 rfl) rfl)
                          have z2132 := congrArg Int32.toInt (rd_w k2126 (rd_w k2061 ef1828 rfl) rfl)
                          have z2133 := congrArg Int32.toInt (rd_w k2126 (rd_w k2061 ef1829 rfl) rfl)
                          have z2134 := congrArg Int32.toInt (rd_w k2126 (rd_w k2061 ef1830 rfl) rfl)
                          have z2135 := congrArg Int32.toInt (rd_w k2126 (rd_w k2061 ef1831 rfl) rfl)
                          have z2136 := congrArg Int32.toInt (rd_w k2126 (rd_w k2061 ef1832 rfl) rfl)
                          have z2137 := congrArg Int32.toInt (rd_w k2126 (rd_w k2061 ef1833 rfl) rfl)
                          have z2138 := congrArg Int32.toInt (rd_w k2126 (rd_w k2061 ef1834 rfl) rfl)
                          exact ev_vret rfl rfl trivial ⟨rfl, rfl, hJ2126, (by have z0_ := congrArg Int32.toInt (rd_w k2126 (rd_w k2061 z1824 rfl) rfl); have z1_ := congrArg Int32.toInt (rd_w k2126 (rd_w k2061 ef1825 rfl) rfl); have z2_ := congrArg Int32.toInt ef2127; have z3_ := congrArg Int32.toInt (rd_w k2126 (rd_w k2061 ef1827 rfl) rfl); have z4_ := congrArg Int32.toInt (rd_w k2126 (rd_w k2061 ef1828 rfl) rfl); have z5_ := congrArg Int32.toInt (rd_w k2126 (rd_w k2061 ef1829 rfl) rfl); have z6_ := congrArg Int32.toInt (rd_w k2126 (rd_w k2061 ef1830 rfl) rfl); have z7_ := congrArg Int32.toInt (rd_w k2126 (rd_w k2061 ef1831 rfl) rfl); have z8_ := congrArg Int32.toInt (rd_w k2126 (rd_w k2061 ef1832 rfl) rfl); have z9_ := congrArg Int32.toInt (rd_w k2126 (rd_w k2061 ef1833 rfl) rfl); have z10_ := congrArg Int32.toInt (rd_w k2126 (rd_w k2061 ef1834 rfl) rfl); have z_ := w_lits; have zl_ := l_lits; omega)⟩
                  · have b2048 : B f1830 0 0 := R_eqX bf1830 (by decide : B 0 0 0) c2045
                    have z2049 := congrArg Int32.toInt c2045
                    rw [show (0 : Int32).toInt = 0 from by decide] at z2049
                    refine ev_iload_n rfl rfl rfl ?_
                    refine ev_if_ne rfl rfl (fun c2139 => ?_) (fun c2139 => ?_)
                    · have b2140 : B w1818 1 4095 := R_neL b1820 (by decide : B 0 0 0) c2139 (by decide)
                      have z2141 := w_ne c2139
                      rw [show (0 : Int32).toInt = 0 from by decide] at z2141
                      refine ev_iconst (v := 0) rfl rfl (by decide) ?_
                      refine ev_iconst (v := 2) rfl rfl (by decide) ?_
                      have z2144 := congrArg Int32.toInt z1824
                      have z2145 := congrArg Int32.toInt ef1825
                      have z2146 := congrArg Int32.toInt ef1826
                      have z2147 := congrArg Int32.toInt ef1827
                      have z2148 := congrArg Int32.toInt ef1828
                      have z2149 := congrArg Int32.toInt ef1829
                      have z2150 := congrArg Int32.toInt ef1830
                      have z2151 := congrArg Int32.toInt ef1831
                      have z2152 := congrArg Int32.toInt ef1832
                      have z2153 := congrArg Int32.toInt ef1833
                      have z2154 := congrArg Int32.toInt ef1834
                      refine ev_V2K hJ1823 rfl rfl rfl lk_X10_230 vt_X10_wants rfl rfl rfl rfl rfl (w_X10_wants_63 L b h1822 hJ1823.1 0 ((by decide : B 0 0 0).mono (by decide) (by decide)) 2 ((by decide : B 2 2 2).mono (by decide) (by decide))) (fun h2155 hJ2155 k2155 m2155 => ?_)
                      obtain ⟨f2156, ef2156⟩ : ∃ f_, h2155 63 21 = f_ := ⟨_, rfl⟩
                      have bf2156 : B f2156 0 6 := by have z_ := hJ2155.1 63 21; rw [ef2156] at z_; exact z_
                      have zf2156 := congrArg Int32.toInt ef2156
                      have z2157 := congrArg Int32.toInt (rd_w k2155 z1824 rfl)
                      have z2158 := congrArg Int32.toInt (rd_w k2155 ef1825 rfl)
                      have z2159 := congrArg Int32.toInt ef2156
                      have z2160 := congrArg Int32.toInt (rd_w k2155 ef1827 rfl)
                      have z2161 := congrArg Int32.toInt (rd_w k2155 ef1828 rfl)
                      have z2162 := congrArg Int32.toInt (rd_w k2155 ef1829 rfl)
                      have z2163 := congrArg Int32.toInt (rd_w k2155 ef1830 rfl)
                      have z2164 := congrArg Int32.toInt (rd_w k2155 ef1831 rfl)
                      have z2165 := congrArg Int32.toInt (rd_w k2155 ef1832 rfl)
                      have z2166 := congrArg Int32.toInt (rd_w k2155 ef1833 rfl)
                      have z2167 := congrArg Int32.toInt (rd_w k2155 ef1834 rfl)
                      refine ev_iconst (v := 0) rfl rfl (by decide) ?_
                      refine ev_istore_n rfl rfl rfl rfl ?_
                      dsimp only [List.set]
                      refine ev_goto rfl rfl ?_
                      refine ev_iload_n rfl rfl rfl ?_
                      refine ev_if_eq rfl rfl (fun c2168 => ?_) (fun c2168 => absurd (D_eq (by decide : B 0 0 0) (by decide : B 0 0 0)) c2168)
                      have z2169 := congrArg Int32.toInt c2168
                      rw [show (0 : Int32).toInt = 0 from by decide] at z2169
                      refine ev_aload_n rfl rfl rfl ?_
                      refine ev_getV (v := f2156) rfl rfl fl_X10_191 rfl rfl rfl ef2156 ?_
                      refine ev_if_ne rfl rfl (fun c2170 => ?_) (fun c2170 => ?_)
                      · have b2171 : B f2156 1 6 := R_neL bf2156 (by decide : B 0 0 0) c2170 (by decide)
                        have z2172 := w_ne c2170
                        rw [show (0 : Int32).toInt = 0 from by decide] at z2172
                        exact ev_vret rfl rfl trivial ⟨rfl, rfl, hJ2155, (by have z0_ := congrArg Int32.toInt (rd_w k2155 z1824 rfl); have z1_ := congrArg Int32.toInt (rd_w k2155 ef1825 rfl); have z2_ := congrArg Int32.toInt ef2156; have z3_ := congrArg Int32.toInt (rd_w k2155 ef1827 rfl); have z4_ := congrArg Int32.toInt (rd_w k2155 ef1828 rfl); have z5_ := congrArg Int32.toInt (rd_w k2155 ef1829 rfl); have z6_ := congrArg Int32.toInt (rd_w k2155 ef1830 rfl); have z7_ := congrArg Int32.toInt (rd_w k2155 ef1831 rfl); have z8_ := congrArg Int32.toInt (rd_w k2155 ef1832 rfl); have z9_ := congrArg Int32.toInt (rd_w k2155 ef1833 rfl); have z10_ := congrArg Int32.toInt (rd_w k2155 ef1834 rfl); have z_ := w_lits; have zl_ := l_lits; omega)⟩
                      · have b2173 : B f2156 0 0 := R_eqX bf2156 (by decide : B 0 0 0) c2170
                        have z2174 := congrArg Int32.toInt c2170
                        rw [show (0 : Int32).toInt = 0 from by decide] at z2174
                        refine ev_aload_n rfl rfl rfl ?_
                        refine ev_getW (l := (-2147483648)) (u := 2147483647) hJ2155.1 rfl rfl rfl fl_X10_237 rfl rfl rfl (fun v2175 b2175 e2175 => ?_)
                        refine ev_if_ne rfl rfl (fun c2176 => ?_) (fun c2176 => ?_)
                        · have z2177 := w_ne c2176
                          rw [show (0 : Int32).toInt = 0 from by decide] at z2177
                          refine ev_aload_n rfl rfl rfl ?_
                          refine ev_bipush (v := 6) rfl rfl (by decide) ?_
                          refine ev_iconst (v := 0) rfl rfl (by decide) ?_
                          have z2180 := congrArg Int32.toInt (rd_w k2155 z1824 rfl)
                          have z2181 := congrArg Int32.toInt (rd_w k2155 ef1825 rfl)
                          have z2182 := congrArg Int32.toInt ef2156
                          have z2183 := congrArg Int32.toInt (rd_w k2155 ef1827 rfl)
                          have z2184 := congrArg Int32.toInt (rd_w k2155 ef1828 rfl)
                          have z2185 := congrArg Int32.toInt (rd_w k2155 ef1829 rfl)
                          have z2186 := congrArg Int32.toInt (rd_w k2155 ef1830 rfl)
                          have z2187 := congrArg Int32.toInt (rd_w k2155 ef1831 rfl)
                          have z2188 := congrArg Int32.toInt (rd_w k2155 ef1832 rfl)
                          have z2189 := congrArg Int32.toInt (rd_w k2155 ef1833 rfl)
                          have z2190 := congrArg Int32.toInt (rd_w k2155 ef1834 rfl)
                          refine ev_V2K hJ2155 rfl rfl rfl lk_X10_200 vt_X10_fails rfl rfl rfl rfl rfl (w_X10_fails_63 L b h2155 hJ2155.1 6 ((by decide : B 6 6 6).mono (by decide) (by decide)) 0) (fun h2191 hJ2191 k2191 m2191 => ?_)
                          obtain ⟨f2192, ef2192⟩ : ∃ f_, h2191 63 21 = f_ := ⟨_, rfl⟩
                          have bf2192 : B f2192 0 6 := by have z_ := hJ2191.1 63 21; rw [ef2192] at z_; exact z_
                          have zf2192 := congrArg Int32.toInt ef2192
                          have z2193 := congrArg Int32.toInt (rd_w k2191 (rd_w k2155 z1824 rfl) rfl)
                          have z2194 := congrArg Int32.toInt (rd_w k2191 (rd_w k2155 ef1825 rfl) rfl)
                          have z2195 := congrArg Int32.toInt ef2192
                          have z2196 := congrArg Int32.toInt (rd_w k2191 (rd_w k2155 ef1827 rfl) rfl)
                          have z2197 := congrArg Int32.toInt (rd_w k2191 (rd_w k2155 ef1828 rfl) rfl)
                          have z2198 := congrArg Int32.toInt (rd_w k2191 (rd_w k2155 ef1829 rfl) rfl)
                          have z2199 := congrArg Int32.toInt (rd_w k2191 (rd_w k2155 ef1830 rfl) rfl)
                          have z2200 := congrArg Int32.toInt (rd_w k2191 (rd_w k2155 ef1831 rfl) rfl)
                          have z2201 := congrArg Int32.toInt (rd_w k2191 (rd_w k2155 ef1832 rfl) rfl)
                          have z2202 := congrArg Int32.toInt (rd_w k2191 (rd_w k2155 ef1833 rfl) rfl)
                          have z2203 := congrArg Int32.toInt (rd_w k2191 (rd_w k2155 ef1834 rfl) rfl)
                          exact ev_vret rfl rfl trivial ⟨rfl, rfl, hJ2191, (by have z0_ := congrArg Int32.toInt (rd_w k2191 (rd_w k2155 z1824 rfl) rfl); have z1_ := congrArg Int32.toInt (rd_w k2191 (rd_w k2155 ef1825 rfl) rfl); have z2_ := congrArg Int32.toInt ef2192; have z3_ := congrArg Int32.toInt (rd_w k2191 (rd_w k2155 ef1827 rfl) rfl); have z4_ := congrArg Int32.toInt (rd_w k2191 (rd_w k2155 ef1828 rfl) rfl); have z5_ := congrArg Int32.toInt (rd_w k2191 (rd_w k2155 ef1829 rfl) rfl); have z6_ := congrArg Int32.toInt (rd_w k2191 (rd_w k2155 ef1830 rfl) rfl); have z7_ := congrArg Int32.toInt (rd_w k2191 (rd_w k2155 ef1831 rfl) rfl); have z8_ := congrArg Int32.toInt (rd_w k2191 (rd_w k2155 ef1832 rfl) rfl); have z9_ := congrArg Int32.toInt (rd_w k2191 (rd_w k2155 ef1833 rfl) rfl); have z10_ := congrArg Int32.toInt (rd_w k2191 (rd_w k2155 ef1834 rfl) rfl); have z_ := w_lits; have zl_ := l_lits; omega)⟩
                        · have b2178 : B v2175 0 0 := R_eqX (B.any v2175) (by decide : B 0 0 0) c2176
                          have z2179 := congrArg Int32.toInt c2176
                          rw [show (0 : Int32).toInt = 0 from by decide] at z2179
                          refine ev_aload_n rfl rfl rfl ?_
                          refine ev_getV (v := f1829) rfl rfl fl_X10_234 rfl rfl rfl (rd_w k2155 ef1829 rfl) ?_
                          refine ev_bipush (v := 24) rfl rfl (by decide) ?_
                          refine ev_icmp_le rfl rfl (fun c2204 => ?_) (fun c2204 => ?_)
                          · have b2205 : B f1829 0 24 := R_leX bf1829 (by decide : B 24 24 24) c2204 (by decide)
                            have z2206 := w_le c2204
                            rw [show (24 : Int32).toInt = 24 from by decide] at z2206
                            exact ev_vret rfl rfl trivial ⟨rfl, rfl, hJ2155, (by have z0_ := congrArg Int32.toInt (rd_w k2155 z1824 rfl); have z1_ := congrArg Int32.toInt (rd_w k2155 ef1825 rfl); have z2_ := congrArg Int32.toInt ef2156; have z3_ := congrArg Int32.toInt (rd_w k2155 ef1827 rfl); have z4_ := congrArg Int32.toInt (rd_w k2155 ef1828 rfl); have z5_ := congrArg Int32.toInt (rd_w k2155 ef1829 rfl); have z6_ := congrArg Int32.toInt (rd_w k2155 ef1830 rfl); have z7_ := congrArg Int32.toInt (rd_w k2155 ef1831 rfl); have z8_ := congrArg Int32.toInt (rd_w k2155 ef1832 rfl); have z9_ := congrArg Int32.toInt (rd_w k2155 ef1833 rfl); have z10_ := congrArg Int32.toInt (rd_w k2155 ef1834 rfl); have z_ := w_lits; have zl_ := l_lits; omega)⟩
                          · have b2207 : B f1829 25 60 := R_ltY (by decide : B 24 24 24) bf1829 (Int32.not_le.mp c2204) (by decide)
                            have z2208 := w_lt (Int32.not_le.mp c2204)
                            rw [show (24 : Int32).toInt = 24 from by decide] at z2208
                            refine ev_aload_n rfl rfl rfl ?_
                            refine ev_bipush (v := 6) rfl rfl (by decide) ?_
                            refine ev_iconst (v := 0) rfl rfl (by decide) ?_
                            have z2209 := congrArg Int32.toInt (rd_w k2155 z1824 rfl)
                            have z2210 := congrArg Int32.toInt (rd_w k2155 ef1825 rfl)
                            have z2211 := congrArg Int32.toInt ef2156
                            have z2212 := congrArg Int32.toInt (rd_w k2155 ef1827 rfl)
                            have z2213 := congrArg Int32.toInt (rd_w k2155 ef1828 rfl)
                            have z2214 := congrArg Int32.toInt (rd_w k2155 ef1829 rfl)
                            have z2215 := congrArg Int32.toInt (rd_w k2155 ef1830 rfl)
                            have z2216 := congrArg Int32.toInt (rd_w k2155 ef1831 rfl)
                            have z2217 := congrArg Int32.toInt (rd_w k2155 ef1832 rfl)
                            have z2218 := congrArg Int32.toInt (rd_w k2155 ef1833 rfl)
                            have z2219 := congrArg Int32.toInt (rd_w k2155 ef1834 rfl)
                            refine ev_V2K hJ2155 rfl rfl rfl lk_X10_200 vt_X10_fails rfl rfl rfl rfl rfl (w_X10_fails_63 L b h2155 hJ2155.1 6 ((by decide : B 6 6 6).mono (by decide) (by decide)) 0) (fun h2220 hJ2220 k2220 m2220 => ?_)
                            obtain ⟨f2221, ef2221⟩ : ∃ f_, h2220 63 21 = f_ := ⟨_, rfl⟩
                            have bf2221 : B f2221 0 6 := by have z_ := hJ2220.1 63 21; rw [ef2221] at z_; exact z_
                            have zf2221 := congrArg Int32.toInt ef2221
                            have z2222 := congrArg Int32.toInt (rd_w k2220 (rd_w k2155 z1824 rfl) rfl)
                            have z2223 := congrArg Int32.toInt (rd_w k2220 (rd_w k2155 ef1825 rfl) rfl)
                            have z2224 := congrArg Int32.toInt ef2221
                            have z2225 := congrArg Int32.toInt (rd_w k2220 (rd_w k2155 ef1827 rfl) rfl)
                            have z2226 := congrArg Int32.toInt (rd_w k2220 (rd_w k2155 ef1828 rfl) rfl)
                            have z2227 := congrArg Int32.toInt (rd_w k2220 (rd_w k2155 ef1829 rfl) rfl)
                            have z2228 := congrArg Int32.toInt (rd_w k2220 (rd_w k2155 ef1830 rfl) rfl)
                            have z2229 := congrArg Int32.toInt (rd_w k2220 (rd_w k2155 ef1831 rfl) rfl)
                            have z2230 := congrArg Int32.toInt (rd_w k2220 (rd_w k2155 ef1832 rfl) rfl)
                            have z2231 := congrArg Int32.toInt (rd_w k2220 (rd_w k2155 ef1833 rfl) rfl)
                            have z2232 := congrArg Int32.toInt (rd_w k2220 (rd_w k2155 ef1834 rfl) rfl)
                            exact ev_vret rfl rfl trivial ⟨rfl, rfl, hJ2220, (by have z0_ := congrArg Int32.toInt (rd_w k2220 (rd_w k2155 z1824 rfl) rfl); have z1_ := congrArg Int32.toInt (rd_w k2220 (rd_w k2155 ef1825 rfl) rfl); have z2_ := congrArg Int32.toInt ef2221; have z3_ := congrArg Int32.toInt (rd_w k2220 (rd_w k2155 ef1827 rfl) rfl); have z4_ := congrArg Int32.toInt (rd_w k2220 (rd_w k2155 ef1828 rfl) rfl); have z5_ := congrArg Int32.toInt (rd_w k2220 (rd_w k2155 ef1829 rfl) rfl); have z6_ := congrArg Int32.toInt (rd_w k2220 (rd_w k2155 ef1830 rfl) rfl); have z7_ := congrArg Int32.toInt (rd_w k2220 (rd_w k2155 ef1831 rfl) rfl); have z8_ := congrArg Int32.toInt (rd_w k2220 (rd_w k2155 ef1832 rfl) rfl); have z9_ := congrArg Int32.toInt (rd_w k2220 (rd_w k2155 ef1833 rfl) rfl); have z10_ := congrArg Int32.toInt (rd_w k2220 (rd_w k2155 ef1834 rfl) rfl); have z_ := w_lits; have zl_ := l_lits; omega)⟩
                    · have b2142 : B w1818 0 0 := R_eqX b1820 (by decide : B 0 0 0) c2139
                      have z2143 := congrArg Int32.toInt c2139
                      rw [show (0 : Int32).toInt = 0 from by decide] at z2143
                      refine ev_iconst (v := 1) rfl rfl (by decide) ?_
                      refine ev_goto rfl rfl ?_
                      refine ev_iconst (v := 2) rfl rfl (by decide) ?_
                      have z2233 := congrArg Int32.toInt z1824
                      have z2234 := congrArg Int32.toInt ef1825
                      have z2235 := congrArg Int32.toInt ef1826
                      have z2236 := congrArg Int32.toInt ef1827
                      have z2237 := congrArg Int32.toInt ef1828
                      have z2238 := congrArg Int32.toInt ef1829
                      have z2239 := congrArg Int32.toInt ef1830
                      have z2240 := congrArg Int32.toInt ef1831
                      have z2241 := congrArg Int32.toInt ef1832
                      have z2242 := congrArg Int32.toInt ef1833
                      have z2243 := congrArg Int32.toInt ef1834
                      refine ev_V2K hJ1823 rfl rfl rfl lk_X10_230 vt_X10_wants rfl rfl rfl rfl rfl (w_X10_wants_63 L b h1822 hJ1823.1 1 ((by decide : B 1 1 1).mono (by decide) (by decide)) 2 ((by decide : B 2 2 2).mono (by decide) (by decide))) (fun h2244 hJ2244 k2244 m2244 => ?_)
                      obtain ⟨f2245, ef2245⟩ : ∃ f_, h2244 63 21 = f_ := ⟨_, rfl⟩
                      have bf2245 : B f2245 0 6 := by have z_ := hJ2244.1 63 21; rw [ef2245] at z_; exact z_
                      have zf2245 := congrArg Int32.toInt ef2245
                      have z2246 := congrArg Int32.toInt (rd_w k2244 z1824 rfl)
                      have z2247 := congrArg Int32.toInt (rd_w k2244 ef1825 rfl)
                      have z2248 := congrArg Int32.toInt ef2245
                      have z2249 := congrArg Int32.toInt (rd_w k2244 ef1827 rfl)
                      have z2250 := congrArg Int32.toInt (rd_w k2244 ef1828 rfl)
                      have z2251 := congrArg Int32.toInt (rd_w k2244 ef1829 rfl)
                      have z2252 := congrArg Int32.toInt (rd_w k2244 ef1830 rfl)
                      have z2253 := congrArg Int32.toInt (rd_w k2244 ef1831 rfl)
                      have z2254 := congrArg Int32.toInt (rd_w k2244 ef1832 rfl)
                      have z2255 := congrArg Int32.toInt (rd_w k2244 ef1833 rfl)
                      have z2256 := congrArg Int32.toInt (rd_w k2244 ef1834 rfl)
                      refine ev_iconst (v := 0) rfl rfl (by decide) ?_
                      refine ev_istore_n rfl rfl rfl rfl ?_
                      dsimp only [List.set]
                      refine ev_goto rfl rfl ?_
                      refine ev_iload_n rfl rfl rfl ?_
                      refine ev_if_eq rfl rfl (fun c2257 => ?_) (fun c2257 => absurd (D_eq (by decide : B 0 0 0) (by decide : B 0 0 0)) c2257)
                      have z2258 := congrArg Int32.toInt c2257
                      rw [show (0 : Int32).toInt = 0 from by decide] at z2258
                      refine ev_aload_n rfl rfl rfl ?_
                      refine ev_getV (v := f2245) rfl rfl fl_X10_191 rfl rfl rfl ef2245 ?_
                      refine ev_if_ne rfl rfl (fun c2259 => ?_) (fun c2259 => ?_)
                      · have b2260 : B f2245 1 6 := R_neL bf2245 (by decide : B 0 0 0) c2259 (by decide)
                        have z2261 := w_ne c2259
                        rw [show (0 : Int32).toInt = 0 from by decide] at z2261
                        exact ev_vret rfl rfl trivial ⟨rfl, rfl, hJ2244, (by have z0_ := congrArg Int32.toInt (rd_w k2244 z1824 rfl); have z1_ := congrArg Int32.toInt (rd_w k2244 ef1825 rfl); have z2_ := congrArg Int32.toInt ef2245; have z3_ := congrArg Int32.toInt (rd_w k2244 ef1827 rfl); have z4_ := congrArg Int32.toInt (rd_w k2244 ef1828 rfl); have z5_ := congrArg Int32.toInt (rd_w k2244 ef1829 rfl); have z6_ := congrArg Int32.toInt (rd_w k2244 ef1830 rfl); have z7_ := congrArg Int32.toInt (rd_w k2244 ef1831 rfl); have z8_ := congrArg Int32.toInt (rd_w k2244 ef1832 rfl); have z9_ := congrArg Int32.toInt (rd_w k2244 ef1833 rfl); have z10_ := congrArg Int32.toInt (rd_w k2244 ef1834 rfl); have z_ := w_lits; have zl_ := l_lits; omega)⟩
                      · have b2262 : B f2245 0 0 := R_eqX bf2245 (by decide : B 0 0 0) c2259
                        have z2263 := congrArg Int32.toInt c2259
                        rw [show (0 : Int32).toInt = 0 from by decide] at z2263
                        refine ev_aload_n rfl rfl rfl ?_
                        refine ev_getW (l := (-2147483648)) (u := 2147483647) hJ2244.1 rfl rfl rfl fl_X10_237 rfl rfl rfl (fun v2264 b2264 e2264 => ?_)
                        refine ev_if_ne rfl rfl (fun c2265 => ?_) (fun c2265 => ?_)
                        · have z2266 := w_ne c2265
                          rw [show (0 : Int32).toInt = 0 from by decide] at z2266
                          refine ev_aload_n rfl rfl rfl ?_
                          refine ev_bipush (v := 6) rfl rfl (by decide) ?_
                          refine ev_iconst (v := 0) rfl rfl (by decide) ?_
                          have z2269 := congrArg Int32.toInt (rd_w k2244 z1824 rfl)
                          have z2270 := congrArg Int32.toInt (rd_w k2244 ef1825 rfl)
                          have z2271 := congrArg Int32.toInt ef2245
                          have z2272 := congrArg Int32.toInt (rd_w k2244 ef1827 rfl)
                          have z2273 := congrArg Int32.toInt (rd_w k2244 ef1828 rfl)
                          have z2274 := congrArg Int32.toInt (rd_w k2244 ef1829 rfl)
                          have z2275 := congrArg Int32.toInt (rd_w k2244 ef1830 rfl)
                          have z2276 := congrArg Int32.toInt (rd_w k2244 ef1831 rfl)
                          have z2277 := congrArg Int32.toInt (rd_w k2244 ef1832 rfl)
                          have z2278 := congrArg Int32.toInt (rd_w k2244 ef1833 rfl)
                          have z2279 := congrArg Int32.toInt (rd_w k2244 ef1834 rfl)
                          refine ev_V2K hJ2244 rfl rfl rfl lk_X10_200 vt_X10_fails rfl rfl rfl rfl rfl (w_X10_fails_63 L b h2244 hJ2244.1 6 ((by decide : B 6 6 6).mono (by decide) (by decide)) 0) (fun h2280 hJ2280 k2280 m2280 => ?_)
                          obtain ⟨f2281, ef2281⟩ : ∃ f_, h2280 63 21 = f_ := ⟨_, rfl⟩
                          have bf2281 : B f2281 0 6 := by have z_ := hJ2280.1 63 21; rw [ef2281] at z_; exact z_
                          have zf2281 := congrArg Int32.toInt ef2281
                          have z2282 := congrArg Int32.toInt (rd_w k2280 (rd_w k2244 z1824 rfl) rfl)
                          have z2283 := congrArg Int32.toInt (rd_w k2280 (rd_w k2244 ef1825 rfl) rfl)
                          have z2284 := congrArg Int32.toInt ef2281
                          have z2285 := congrArg Int32.toInt (rd_w k2280 (rd_w k2244 ef1827 rfl) rfl)
                          have z2286 := congrArg Int32.toInt (rd_w k2280 (rd_w k2244 ef1828 rfl) rfl)
                          have z2287 := congrArg Int32.toInt (rd_w k2280 (rd_w k2244 ef1829 rfl) rfl)
                          have z2288 := congrArg Int32.toInt (rd_w k2280 (rd_w k2244 ef1830 rfl) rfl)
                          have z2289 := congrArg Int32.toInt (rd_w k2280 (rd_w k2244 ef1831 rfl) rfl)
                          have z2290 := congrArg Int32.toInt (rd_w k2280 (rd_w k2244 ef1832 rfl) rfl)
                          have z2291 := congrArg Int32.toInt (rd_w k2280 (rd_w k2244 ef1833 rfl) rfl)
                          have z2292 := congrArg Int32.toInt (rd_w k2280 (rd_w k2244 ef1834 rfl) rfl)
                          exact ev_vret rfl rfl trivial ⟨rfl, rfl, hJ2280, (by have z0_ := congrArg Int32.toInt (rd_w k2280 (rd_w k2244 z1824 rfl) rfl); have z1_ := congrArg Int32.toInt (rd_w k2280 (rd_w k2244 ef1825 rfl) rfl); have z2_ := congrArg Int32.toInt ef2281; have z3_ := congrArg Int32.toInt (rd_w k2280 (rd_w k2244 ef1827 rfl) rfl); have z4_ := congrArg Int32.toInt (rd_w k2280 (rd_w k2244 ef1828 rfl) rfl); have z5_ := congrArg Int32.toInt (rd_w k2280 (rd_w k2244 ef1829 rfl) rfl); have z6_ := congrArg Int32.toInt (rd_w k2280 (rd_w k2244 ef1830 rfl) rfl); have z7_ := congrArg Int32.toInt (rd_w k2280 (rd_w k2244 ef1831 rfl) rfl); have z8_ := congrArg Int32.toInt (rd_w k2280 (rd_w k2244 ef1832 rfl) rfl); have z9_ := congrArg Int32.toInt (rd_w k2280 (rd_w k2244 ef1833 rfl) rfl); have z10_ := congrArg Int32.toInt (rd_w k2280 (rd_w k2244 ef1834 rfl) rfl); have z_ := w_lits; have zl_ := l_lits; omega)⟩
                        · have b2267 : B v2264 0 0 := R_eqX (B.any v2264) (by decide : B 0 0 0) c2265
                          have z2268 := congrArg Int32.toInt c2265
                          rw [show (0 : Int32).toInt = 0 from by decide] at z2268
                          refine ev_aload_n rfl rfl rfl ?_
                          refine ev_getV (v := f1829) rfl rfl fl_X10_234 rfl rfl rfl (rd_w k2244 ef1829 rfl) ?_
                          refine ev_bipush (v := 24) rfl rfl (by decide) ?_
                          refine ev_icmp_le rfl rfl (fun c2293 => ?_) (fun c2293 => ?_)
                          · have b2294 : B f1829 0 24 := R_leX bf1829 (by decide : B 24 24 24) c2293 (by decide)
                            have z2295 := w_le c2293
                            rw [show (24 : Int32).toInt = 24 from by decide] at z2295
                            exact ev_vret rfl rfl trivial ⟨rfl, rfl, hJ2244, (by have z0_ := congrArg Int32.toInt (rd_w k2244 z1824 rfl); have z1_ := congrArg Int32.toInt (rd_w k2244 ef1825 rfl); have z2_ := congrArg Int32.toInt ef2245; have z3_ := congrArg Int32.toInt (rd_w k2244 ef1827 rfl); have z4_ := congrArg Int32.toInt (rd_w k2244 ef1828 rfl); have z5_ := congrArg Int32.toInt (rd_w k2244 ef1829 rfl); have z6_ := congrArg Int32.toInt (rd_w k2244 ef1830 rfl); have z7_ := congrArg Int32.toInt (rd_w k2244 ef1831 rfl); have z8_ := congrArg Int32.toInt (rd_w k2244 ef1832 rfl); have z9_ := congrArg Int32.toInt (rd_w k2244 ef1833 rfl); have z10_ := congrArg Int32.toInt (rd_w k2244 ef1834 rfl); have z_ := w_lits; have zl_ := l_lits; omega)⟩
                          · have b2296 : B f1829 25 60 := R_ltY (by decide : B 24 24 24) bf1829 (Int32.not_le.mp c2293) (by decide)
                            have z2297 := w_lt (Int32.not_le.mp c2293)
                            rw [show (24 : Int32).toInt = 24 from by decide] at z2297
                            refine ev_aload_n rfl rfl rfl ?_
                            refine ev_bipush (v := 6) rfl rfl (by decide) ?_
                            refine ev_iconst (v := 0) rfl rfl (by decide) ?_
                            have z2298 := congrArg Int32.toInt (rd_w k2244 z1824 rfl)
                            have z2299 := congrArg Int32.toInt (rd_w k2244 ef1825 rfl)
                            have z2300 := congrArg Int32.toInt ef2245
                            have z2301 := congrArg Int32.toInt (rd_w k2244 ef1827 rfl)
                            have z2302 := congrArg Int32.toInt (rd_w k2244 ef1828 rfl)
                            have z2303 := congrArg Int32.toInt (rd_w k2244 ef1829 rfl)
                            have z2304 := congrArg Int32.toInt (rd_w k2244 ef1830 rfl)
                            have z2305 := congrArg Int32.toInt (rd_w k2244 ef1831 rfl)
                            have z2306 := congrArg Int32.toInt (rd_w k2244 ef1832 rfl)
                            have z2307 := congrArg Int32.toInt (rd_w k2244 ef1833 rfl)
                            have z2308 := congrArg Int32.toInt (rd_w k2244 ef1834 rfl)
                            refine ev_V2K hJ2244 rfl rfl rfl lk_X10_200 vt_X10_fails rfl rfl rfl rfl rfl (w_X10_fails_63 L b h2244 hJ2244.1 6 ((by decide : B 6 6 6).mono (by decide) (by decide)) 0) (fun h2309 hJ2309 k2309 m2309 => ?_)
                            obtain ⟨f2310, ef2310⟩ : ∃ f_, h2309 63 21 = f_ := ⟨_, rfl⟩
                            have bf2310 : B f2310 0 6 := by have z_ := hJ2309.1 63 21; rw [ef2310] at z_; exact z_
                            have zf2310 := congrArg Int32.toInt ef2310
                            have z2311 := congrArg Int32.toInt (rd_w k2309 (rd_w k2244 z1824 rfl) rfl)
                            have z2312 := congrArg Int32.toInt (rd_w k2309 (rd_w k2244 ef1825 rfl) rfl)
                            have z2313 := congrArg Int32.toInt ef2310
                            have z2314 := congrArg Int32.toInt (rd_w k2309 (rd_w k2244 ef1827 rfl) rfl)
                            have z2315 := congrArg Int32.toInt (rd_w k2309 (rd_w k2244 ef1828 rfl) rfl)
                            have z2316 := congrArg Int32.toInt (rd_w k2309 (rd_w k2244 ef1829 rfl) rfl)
                            have z2317 := congrArg Int32.toInt (rd_w k2309 (rd_w k2244 ef1830 rfl) rfl)
                            have z2318 := congrArg Int32.toInt (rd_w k2309 (rd_w k2244 ef1831 rfl) rfl)
                            have z2319 := congrArg Int32.toInt (rd_w k2309 (rd_w k2244 ef1832 rfl) rfl)
                            have z2320 := congrArg Int32.toInt (rd_w k2309 (rd_w k2244 ef1833 rfl) rfl)
                            have z2321 := congrArg Int32.toInt (rd_w k2309 (rd_w k2244 ef1834 rfl) rfl)
                            exact ev_vret rfl rfl trivial ⟨rfl, rfl, hJ2309, (by have z0_ := congrArg Int32.toInt (rd_w k2309 (rd_w k2244 z1824 rfl) rfl); have z1_ := congrArg Int32.toInt (rd_w k2309 (rd_w k2244 ef1825 rfl) rfl); have z2_ := congrArg Int32.toInt ef2310; have z3_ := congrArg Int32.toInt (rd_w k2309 (rd_w k2244 ef1827 rfl) rfl); have z4_ := congrArg Int32.toInt (rd_w k2309 (rd_w k2244 ef1828 rfl) rfl); have z5_ := congrArg Int32.toInt (rd_w k2309 (rd_w k2244 ef1829 rfl) rfl); have z6_ := congrArg Int32.toInt (rd_w k2309 (rd_w k2244 ef1830 rfl) rfl); have z7_ := congrArg Int32.toInt (rd_w k2309 (rd_w k2244 ef1831 rfl) rfl); have z8_ := congrArg Int32.toInt (rd_w k2309 (rd_w k2244 ef1832 rfl) rfl); have z9_ := congrArg Int32.toInt (rd_w k2309 (rd_w k2244 ef1833 rfl) rfl); have z10_ := congrArg Int32.toInt (rd_w k2309 (rd_w k2244 ef1834 rfl) rfl); have z_ := w_lits; have zl_ := l_lits; omega)⟩
              · have b1949 : B r1945 1 1 := R_neL b1945 (by decide : B 0 0 0) c1946 (by decide)
                have z1950 := w_ne c1946
                rw [show (0 : Int32).toInt = 0 from by decide] at z1950
                refine ev_aload_n rfl rfl rfl ?_
                refine ev_getV (v := f1830) rfl rfl fl_X10_241 rfl rfl rfl ef1830 ?_
                refine ev_if_le rfl rfl (fun c2322 => ?_) (fun c2322 => ?_)
                · have b2323 : B f1830 0 0 := R_leX bf1830 (by decide : B 0 0 0) c2322 (by decide)
                  have z2324 := w_le c2322
                  rw [show (0 : Int32).toInt = 0 from by decide] at z2324
                  refine ev_aload_n rfl rfl rfl ?_
                  refine ev_aload_n rfl rfl rfl ?_
                  refine ev_getV (v := f1828) rfl rfl fl_X10_204 rfl rfl rfl ef1828 ?_
                  refine ev_if_ne rfl rfl (fun c2327 => ?_) (fun c2327 => ?_)
                  · have b2328 : B f1828 1 3 := R_neL bf1828 (by decide : B 0 0 0) c2327 (by decide)
                    have z2329 := w_ne c2327
                    rw [show (0 : Int32).toInt = 0 from by decide] at z2329
                    refine ev_iconst (v := 0) rfl rfl (by decide) ?_
                    refine ev_iconst (v := 2) rfl rfl (by decide) ?_
                    have z2332 := congrArg Int32.toInt z1824
                    have z2333 := congrArg Int32.toInt ef1825
                    have z2334 := congrArg Int32.toInt ef1826
                    have z2335 := congrArg Int32.toInt ef1827
                    have z2336 := congrArg Int32.toInt ef1828
                    have z2337 := congrArg Int32.toInt ef1829
                    have z2338 := congrArg Int32.toInt ef1830
                    have z2339 := congrArg Int32.toInt ef1831
                    have z2340 := congrArg Int32.toInt ef1832
                    have z2341 := congrArg Int32.toInt ef1833
                    have z2342 := congrArg Int32.toInt ef1834
                    refine ev_V2K hJ1823 rfl rfl rfl lk_X10_230 vt_X10_wants rfl rfl rfl rfl rfl (w_X10_wants_63 L b h1822 hJ1823.1 0 ((by decide : B 0 0 0).mono (by decide) (by decide)) 2 ((by decide : B 2 2 2).mono (by decide) (by decide))) (fun h2343 hJ2343 k2343 m2343 => ?_)
                    obtain ⟨f2344, ef2344⟩ : ∃ f_, h2343 63 21 = f_ := ⟨_, rfl⟩
                    have bf2344 : B f2344 0 6 := by have z_ := hJ2343.1 63 21; rw [ef2344] at z_; exact z_
                    have zf2344 := congrArg Int32.toInt ef2344
                    have z2345 := congrArg Int32.toInt (rd_w k2343 z1824 rfl)
                    have z2346 := congrArg Int32.toInt (rd_w k2343 ef1825 rfl)
                    have z2347 := congrArg Int32.toInt ef2344
                    have z2348 := congrArg Int32.toInt (rd_w k2343 ef1827 rfl)
                    have z2349 := congrArg Int32.toInt (rd_w k2343 ef1828 rfl)
                    have z2350 := congrArg Int32.toInt (rd_w k2343 ef1829 rfl)
                    have z2351 := congrArg Int32.toInt (rd_w k2343 ef1830 rfl)
                    have z2352 := congrArg Int32.toInt (rd_w k2343 ef1831 rfl)
                    have z2353 := congrArg Int32.toInt (rd_w k2343 ef1832 rfl)
                    have z2354 := congrArg Int32.toInt (rd_w k2343 ef1833 rfl)
                    have z2355 := congrArg Int32.toInt (rd_w k2343 ef1834 rfl)
                    refine ev_iconst (v := 0) rfl rfl (by decide) ?_
                    refine ev_istore_n rfl rfl rfl rfl ?_
                    dsimp only [List.set]
                    refine ev_goto rfl rfl ?_
                    refine ev_iload_n rfl rfl rfl ?_
                    refine ev_if_eq rfl rfl (fun c2356 => ?_) (fun c2356 => absurd (D_eq (by decide : B 0 0 0) (by decide : B 0 0 0)) c2356)
                    have z2357 := congrArg Int32.toInt c2356
                    rw [show (0 : Int32).toInt = 0 from by decide] at z2357
                    refine ev_aload_n rfl rfl rfl ?_
                    refine ev_getV (v := f2344) rfl rfl fl_X10_191 rfl rfl rfl ef2344 ?_
                    refine ev_if_ne rfl rfl (fun c2358 => ?_) (fun c2358 => ?_)
                    · have b2359 : B f2344 1 6 := R_neL bf2344 (by decide : B 0 0 0) c2358 (by decide)
                      have z2360 := w_ne c2358
                      rw [show (0 : Int32).toInt = 0 from by decide] at z2360
                      exact ev_vret rfl rfl trivial ⟨rfl, rfl, hJ2343, (by have z0_ := congrArg Int32.toInt (rd_w k2343 z1824 rfl); have z1_ := congrArg Int32.toInt (rd_w k2343 ef1825 rfl); have z2_ := congrArg Int32.toInt ef2344; have z3_ := congrArg Int32.toInt (rd_w k2343 ef1827 rfl); have z4_ := congrArg Int32.toInt (rd_w k2343 ef1828 rfl); have z5_ := congrArg Int32.toInt (rd_w k2343 ef1829 rfl); have z6_ := congrArg Int32.toInt (rd_w k2343 ef1830 rfl); have z7_ := congrArg Int32.toInt (rd_w k2343 ef1831 rfl); have z8_ := congrArg Int32.toInt (rd_w k2343 ef1832 rfl); have z9_ := congrArg Int32.toInt (rd_w k2343 ef1833 rfl); have z10_ := congrArg Int32.toInt (rd_w k2343 ef1834 rfl); have z_ := w_lits; have zl_ := l_lits; omega)⟩
                    · have b2361 : B f2344 0 0 := R_eqX bf2344 (by decide : B 0 0 0) c2358
                      have z2362 := congrArg Int32.toInt c2358
                      rw [show (0 : Int32).toInt = 0 from by decide] at z2362
                      refine ev_aload_n rfl rfl rfl ?_
                      refine ev_getW (l := (-2147483648)) (u := 2147483647) hJ2343.1 rfl rfl rfl fl_X10_237 rfl rfl rfl (fun v2363 b2363 e2363 => ?_)
                      refine ev_if_ne rfl rfl (fun c2364 => ?_) (fun c2364 => ?_)
                      · have z2365 := w_ne c2364
                        rw [show (0 : Int32).toInt = 0 from by decide] at z2365
                        refine ev_aload_n rfl rfl rfl ?_
                        refine ev_bipush (v := 6) rfl rfl (by decide) ?_
                        refine ev_iconst (v := 0) rfl rfl (by decide) ?_
                        have z2368 := congrArg Int32.toInt (rd_w k2343 z1824 rfl)
                        have z2369 := congrArg Int32.toInt (rd_w k2343 ef1825 rfl)
                        have z2370 := congrArg Int32.toInt ef2344
                        have z2371 := congrArg Int32.toInt (rd_w k2343 ef1827 rfl)
                        have z2372 := congrArg Int32.toInt (rd_w k2343 ef1828 rfl)
                        have z2373 := congrArg Int32.toInt (rd_w k2343 ef1829 rfl)
                        have z2374 := congrArg Int32.toInt (rd_w k2343 ef1830 rfl)
                        have z2375 := congrArg Int32.toInt (rd_w k2343 ef1831 rfl)
                        have z2376 := congrArg Int32.toInt (rd_w k2343 ef1832 rfl)
                        have z2377 := congrArg Int32.toInt (rd_w k2343 ef1833 rfl)
                        have z2378 := congrArg Int32.toInt (rd_w k2343 ef1834 rfl)
                        refine ev_V2K hJ2343 rfl rfl rfl lk_X10_200 vt_X10_fails rfl rfl rfl rfl rfl (w_X10_fails_63 L b h2343 hJ2343.1 6 ((by decide : B 6 6 6).mono (by decide) (by decide)) 0) (fun h2379 hJ2379 k2379 m2379 => ?_)
                        obtain ⟨f2380, ef2380⟩ : ∃ f_, h2379 63 21 = f_ := ⟨_, rfl⟩
                        have bf2380 : B f2380 0 6 := by have z_ := hJ2379.1 63 21; rw [ef2380] at z_; exact z_
                        have zf2380 := congrArg Int32.toInt ef2380
                        have z2381 := congrArg Int32.toInt (rd_w k2379 (rd_w k2343 z1824 rfl) rfl)
                        have z2382 := congrArg Int32.toInt (rd_w k2379 (rd_w k2343 ef1825 rfl) rfl)
                        have z2383 := congrArg Int32.toInt ef2380
                        have z2384 := congrArg Int32.toInt (rd_w k2379 (rd_w k2343 ef1827 rfl) rfl)
                        have z2385 := congrArg Int32.toInt (rd_w k2379 (rd_w k2343 ef1828 rfl) rfl)
                        have z2386 := congrArg Int32.toInt (rd_w k2379 (rd_w k2343 ef1829 rfl) rfl)
                        have z2387 := congrArg Int32.toInt (rd_w k2379 (rd_w k2343 ef1830 rfl) rfl)
                        have z2388 := congrArg Int32.toInt (rd_w k2379 (rd_w k2343 ef1831 rfl) rfl)
                        have z2389 := congrArg Int32.toInt (rd_w k2379 (rd_w k2343 ef1832 rfl) rfl)
                        have z2390 := congrArg Int32.toInt (rd_w k2379 (rd_w k2343 ef1833 rfl) rfl)
                        have z2391 := congrArg Int32.toInt (rd_w k2379 (rd_w k2343 ef1834 rfl) rfl)
                        exact ev_vret rfl rfl trivial ⟨rfl, rfl, hJ2379, (by have z0_ := congrArg Int32.toInt (rd_w k2379 (rd_w k2343 z1824 rfl) rfl); have z1_ := congrArg Int32.toInt (rd_w k2379 (rd_w k2343 ef1825 rfl) rfl); have z2_ := congrArg Int32.toInt ef2380; have z3_ := congrArg Int32.toInt (rd_w k2379 (rd_w k2343 ef1827 rfl) rfl); have z4_ := congrArg Int32.toInt (rd_w k2379 (rd_w k2343 ef1828 rfl) rfl); have z5_ := congrArg Int32.toInt (rd_w k2379 (rd_w k2343 ef1829 rfl) rfl); have z6_ := congrArg Int32.toInt (rd_w k2379 (rd_w k2343 ef1830 rfl) rfl); have z7_ := congrArg Int32.toInt (rd_w k2379 (rd_w k2343 ef1831 rfl) rfl); have z8_ := congrArg Int32.toInt (rd_w k2379 (rd_w k2343 ef1832 rfl) rfl); have z9_ := congrArg Int32.toInt (rd_w k2379 (rd_w k2343 ef1833 rfl) rfl); have z10_ := congrArg Int32.toInt (rd_w k2379 (rd_w k2343 ef1834 rfl) rfl); have z_ := w_lits; have zl_ := l_lits; omega)⟩
                      · have b2366 : B v2363 0 0 := R_eqX (B.any v2363) (by decide : B 0 0 0) c2364
                        have z2367 := congrArg Int32.toInt c2364
                        rw [show (0 : Int32).toInt = 0 from by decide] at z2367
                        refine ev_aload_n rfl rfl rfl ?_
                        refine ev_getV (v := f1829) rfl rfl fl_X10_234 rfl rfl rfl (rd_w k2343 ef1829 rfl) ?_
                        refine ev_bipush (v := 24) rfl rfl (by decide) ?_
                        refine ev_icmp_le rfl rfl (fun c2392 => ?_) (fun c2392 => ?_)
                        · have b2393 : B f1829 0 24 := R_leX bf1829 (by decide : B 24 24 24) c2392 (by decide)
                          have z2394 := w_le c2392
                          rw [show (24 : Int32).toInt = 24 from by decide] at z2394
                          exact ev_vret rfl rfl trivial ⟨rfl, rfl, hJ2343, (by have z0_ := congrArg Int32.toInt (rd_w k2343 z1824 rfl); have z1_ := congrArg Int32.toInt (rd_w k2343 ef1825 rfl); have z2_ := congrArg Int32.toInt ef2344; have z3_ := congrArg Int32.toInt (rd_w k2343 ef1827 rfl); have z4_ := congrArg Int32.toInt (rd_w k2343 ef1828 rfl); have z5_ := congrArg Int32.toInt (rd_w k2343 ef1829 rfl); have z6_ := congrArg Int32.toInt (rd_w k2343 ef1830 rfl); have z7_ := congrArg Int32.toInt (rd_w k2343 ef1831 rfl); have z8_ := congrArg Int32.toInt (rd_w k2343 ef1832 rfl); have z9_ := congrArg Int32.toInt (rd_w k2343 ef1833 rfl); have z10_ := congrArg Int32.toInt (rd_w k2343 ef1834 rfl); have z_ := w_lits; have zl_ := l_lits; omega)⟩
                        · have b2395 : B f1829 25 60 := R_ltY (by decide : B 24 24 24) bf1829 (Int32.not_le.mp c2392) (by decide)
                          have z2396 := w_lt (Int32.not_le.mp c2392)
                          rw [show (24 : Int32).toInt = 24 from by decide] at z2396
                          refine ev_aload_n rfl rfl rfl ?_
                          refine ev_bipush (v := 6) rfl rfl (by decide) ?_
                          refine ev_iconst (v := 0) rfl rfl (by decide) ?_
                          have z2397 := congrArg Int32.toInt (rd_w k2343 z1824 rfl)
                          have z2398 := congrArg Int32.toInt (rd_w k2343 ef1825 rfl)
                          have z2399 := congrArg Int32.toInt ef2344
                          have z2400 := congrArg Int32.toInt (rd_w k2343 ef1827 rfl)
                          have z2401 := congrArg Int32.toInt (rd_w k2343 ef1828 rfl)
                          have z2402 := congrArg Int32.toInt (rd_w k2343 ef1829 rfl)
                          have z2403 := congrArg Int32.toInt (rd_w k2343 ef1830 rfl)
                          have z2404 := congrArg Int32.toInt (rd_w k2343 ef1831 rfl)
                          have z2405 := congrArg Int32.toInt (rd_w k2343 ef1832 rfl)
                          have z2406 := congrArg Int32.toInt (rd_w k2343 ef1833 rfl)
                          have z2407 := congrArg Int32.toInt (rd_w k2343 ef1834 rfl)
                          refine ev_V2K hJ2343 rfl rfl rfl lk_X10_200 vt_X10_fails rfl rfl rfl rfl rfl (w_X10_fails_63 L b h2343 hJ2343.1 6 ((by decide : B 6 6 6).mono (by decide) (by decide)) 0) (fun h2408 hJ2408 k2408 m2408 => ?_)
                          obtain ⟨f2409, ef2409⟩ : ∃ f_, h2408 63 21 = f_ := ⟨_, rfl⟩
                          have bf2409 : B f2409 0 6 := by have z_ := hJ2408.1 63 21; rw [ef2409] at z_; exact z_
                          have zf2409 := congrArg Int32.toInt ef2409
                          have z2410 := congrArg Int32.toInt (rd_w k2408 (rd_w k2343 z1824 rfl) rfl)
                          have z2411 := congrArg Int32.toInt (rd_w k2408 (rd_w k2343 ef1825 rfl) rfl)
                          have z2412 := congrArg Int32.toInt ef2409
                          have z2413 := congrArg Int32.toInt (rd_w k2408 (rd_w k2343 ef1827 rfl) rfl)
                          have z2414 := congrArg Int32.toInt (rd_w k2408 (rd_w k2343 ef1828 rfl) rfl)
                          have z2415 := congrArg Int32.toInt (rd_w k2408 (rd_w k2343 ef1829 rfl) rfl)
                          have z2416 := congrArg Int32.toInt (rd_w k2408 (rd_w k2343 ef1830 rfl) rfl)
                          have z2417 := congrArg Int32.toInt (rd_w k2408 (rd_w k2343 ef1831 rfl) rfl)
                          have z2418 := congrArg Int32.toInt (rd_w k2408 (rd_w k2343 ef1832 rfl) rfl)
                          have z2419 := congrArg Int32.toInt (rd_w k2408 (rd_w k2343 ef1833 rfl) rfl)
                          have z2420 := congrArg Int32.toInt (rd_w k2408 (rd_w k2343 ef1834 rfl) rfl)
                          exact ev_vret rfl rfl trivial ⟨rfl, rfl, hJ2408, (by have z0_ := congrArg Int32.toInt (rd_w k2408 (rd_w k2343 z1824 rfl) rfl); have z1_ := congrArg Int32.toInt (rd_w k2408 (rd_w k2343 ef1825 rfl) rfl); have z2_ := congrArg Int32.toInt ef2409; have z3_ := congrArg Int32.toInt (rd_w k2408 (rd_w k2343 ef1827 rfl) rfl); have z4_ := congrArg Int32.toInt (rd_w k2408 (rd_w k2343 ef1828 rfl) rfl); have z5_ := congrArg Int32.toInt (rd_w k2408 (rd_w k2343 ef1829 rfl) rfl); have z6_ := congrArg Int32.toInt (rd_w k2408 (rd_w k2343 ef1830 rfl) rfl); have z7_ := congrArg Int32.toInt (rd_w k2408 (rd_w k2343 ef1831 rfl) rfl); have z8_ := congrArg Int32.toInt (rd_w k2408 (rd_w k2343 ef1832 rfl) rfl); have z9_ := congrArg Int32.toInt (rd_w k2408 (rd_w k2343 ef1833 rfl) rfl); have z10_ := congrArg Int32.toInt (rd_w k2408 (rd_w k2343 ef1834 rfl) rfl); have z_ := w_lits; have zl_ := l_lits; omega)⟩
                  · have b2330 : B f1828 0 0 := R_eqX bf1828 (by decide : B 0 0 0) c2327
                    have z2331 := congrArg Int32.toInt c2327
                    rw [show (0 : Int32).toInt = 0 from by decide] at z2331
                    refine ev_aload_n rfl rfl rfl ?_
                    refine ev_getV (v := f1830) rfl rfl fl_X10_241 rfl rfl rfl ef1830 ?_
                    refine ev_if_ne rfl rfl (fun c2421 => absurd (D_eq b2323 (by decide : B 0 0 0)) c2421) (fun c2421 => ?_)
                    have z2422 := congrArg Int32.toInt c2421
                    rw [show (0 : Int32).toInt = 0 from by decide] at z2422
                    refine ev_iload_n rfl rfl rfl ?_
                    refine ev_if_ne rfl rfl (fun c2423 => ?_) (fun c2423 => ?_)
                    · have b2424 : B w1818 1 4095 := R_neL b1820 (by decide : B 0 0 0) c2423 (by decide)
                      have z2425 := w_ne c2423
                      rw [show (0 : Int32).toInt = 0 from by decide] at z2425
                      refine ev_iconst (v := 0) rfl rfl (by decide) ?_
                      refine ev_iconst (v := 2) rfl rfl (by decide) ?_
                      have z2428 := congrArg Int32.toInt z1824
                      have z2429 := congrArg Int32.toInt ef1825
                      have z2430 := congrArg Int32.toInt ef1826
                      have z2431 := congrArg Int32.toInt ef1827
                      have z2432 := congrArg Int32.toInt ef1828
                      have z2433 := congrArg Int32.toInt ef1829
                      have z2434 := congrArg Int32.toInt ef1830
                      have z2435 := congrArg Int32.toInt ef1831
                      have z2436 := congrArg Int32.toInt ef1832
                      have z2437 := congrArg Int32.toInt ef1833
                      have z2438 := congrArg Int32.toInt ef1834
                      refine ev_V2K hJ1823 rfl rfl rfl lk_X10_230 vt_X10_wants rfl rfl rfl rfl rfl (w_X10_wants_63 L b h1822 hJ1823.1 0 ((by decide : B 0 0 0).mono (by decide) (by decide)) 2 ((by decide : B 2 2 2).mono (by decide) (by decide))) (fun h2439 hJ2439 k2439 m2439 => ?_)
                      obtain ⟨f2440, ef2440⟩ : ∃ f_, h2439 63 21 = f_ := ⟨_, rfl⟩
                      have bf2440 : B f2440 0 6 := by have z_ := hJ2439.1 63 21; rw [ef2440] at z_; exact z_
                      have zf2440 := congrArg Int32.toInt ef2440
                      have z2441 := congrArg Int32.toInt (rd_w k2439 z1824 rfl)
                      have z2442 := congrArg Int32.toInt (rd_w k2439 ef1825 rfl)
                      have z2443 := congrArg Int32.toInt ef2440
                      have z2444 := congrArg Int32.toInt (rd_w k2439 ef1827 rfl)
                      have z2445 := congrArg Int32.toInt (rd_w k2439 ef1828 rfl)
                      have z2446 := congrArg Int32.toInt (rd_w k2439 ef1829 rfl)
                      have z2447 := congrArg Int32.toInt (rd_w k2439 ef1830 rfl)
                      have z2448 := congrArg Int32.toInt (rd_w k2439 ef1831 rfl)
                      have z2449 := congrArg Int32.toInt (rd_w k2439 ef1832 rfl)
                      have z2450 := congrArg Int32.toInt (rd_w k2439 ef1833 rfl)
                      have z2451 := congrArg Int32.toInt (rd_w k2439 ef1834 rfl)
                      refine ev_iconst (v := 0) rfl rfl (by decide) ?_
                      refine ev_istore_n rfl rfl rfl rfl ?_
                      dsimp only [List.set]
                      refine ev_goto rfl rfl ?_
                      refine ev_iload_n rfl rfl rfl ?_
                      refine ev_if_eq rfl rfl (fun c2452 => ?_) (fun c2452 => absurd (D_eq (by decide : B 0 0 0) (by decide : B 0 0 0)) c2452)
                      have z2453 := congrArg Int32.toInt c2452
                      rw [show (0 : Int32).toInt = 0 from by decide] at z2453
                      refine ev_aload_n rfl rfl rfl ?_
                      refine ev_getV (v := f2440) rfl rfl fl_X10_191 rfl rfl rfl ef2440 ?_
                      refine ev_if_ne rfl rfl (fun c2454 => ?_) (fun c2454 => ?_)
                      · have b2455 : B f2440 1 6 := R_neL bf2440 (by decide : B 0 0 0) c2454 (by decide)
                        have z2456 := w_ne c2454
                        rw [show (0 : Int32).toInt = 0 from by decide] at z2456
                        exact ev_vret rfl rfl trivial ⟨rfl, rfl, hJ2439, (by have z0_ := congrArg Int32.toInt (rd_w k2439 z1824 rfl); have z1_ := congrArg Int32.toInt (rd_w k2439 ef1825 rfl); have z2_ := congrArg Int32.toInt ef2440; have z3_ := congrArg Int32.toInt (rd_w k2439 ef1827 rfl); have z4_ := congrArg Int32.toInt (rd_w k2439 ef1828 rfl); have z5_ := congrArg Int32.toInt (rd_w k2439 ef1829 rfl); have z6_ := congrArg Int32.toInt (rd_w k2439 ef1830 rfl); have z7_ := congrArg Int32.toInt (rd_w k2439 ef1831 rfl); have z8_ := congrArg Int32.toInt (rd_w k2439 ef1832 rfl); have z9_ := congrArg Int32.toInt (rd_w k2439 ef1833 rfl); have z10_ := congrArg Int32.toInt (rd_w k2439 ef1834 rfl); have z_ := w_lits; have zl_ := l_lits; omega)⟩
                      · have b2457 : B f2440 0 0 := R_eqX bf2440 (by decide : B 0 0 0) c2454
                        have z2458 := congrArg Int32.toInt c2454
                        rw [show (0 : Int32).toInt = 0 from by decide] at z2458
                        refine ev_aload_n rfl rfl rfl ?_
                        refine ev_getW (l := (-2147483648)) (u := 2147483647) hJ2439.1 rfl rfl rfl fl_X10_237 rfl rfl rfl (fun v2459 b2459 e2459 => ?_)
                        refine ev_if_ne rfl rfl (fun c2460 => ?_) (fun c2460 => ?_)
                        · have z2461 := w_ne c2460
                          rw [show (0 : Int32).toInt = 0 from by decide] at z2461
                          refine ev_aload_n rfl rfl rfl ?_
                          refine ev_bipush (v := 6) rfl rfl (by decide) ?_
                          refine ev_iconst (v := 0) rfl rfl (by decide) ?_
                          have z2464 := congrArg Int32.toInt (rd_w k2439 z1824 rfl)
                          have z2465 := congrArg Int32.toInt (rd_w k2439 ef1825 rfl)
                          have z2466 := congrArg Int32.toInt ef2440
                          have z2467 := congrArg Int32.toInt (rd_w k2439 ef1827 rfl)
                          have z2468 := congrArg Int32.toInt (rd_w k2439 ef1828 rfl)
                          have z2469 := congrArg Int32.toInt (rd_w k2439 ef1829 rfl)
                          have z2470 := congrArg Int32.toInt (rd_w k2439 ef1830 rfl)
                          have z2471 := congrArg Int32.toInt (rd_w k2439 ef1831 rfl)
                          have z2472 := congrArg Int32.toInt (rd_w k2439 ef1832 rfl)
                          have z2473 := congrArg Int32.toInt (rd_w k2439 ef1833 rfl)
                          have z2474 := congrArg Int32.toInt (rd_w k2439 ef1834 rfl)
                          refine ev_V2K hJ2439 rfl rfl rfl lk_X10_200 vt_X10_fails rfl rfl rfl rfl rfl (w_X10_fails_63 L b h2439 hJ2439.1 6 ((by decide : B 6 6 6).mono (by decide) (by decide)) 0) (fun h2475 hJ2475 k2475 m2475 => ?_)
                          obtain ⟨f2476, ef2476⟩ : ∃ f_, h2475 63 21 = f_ := ⟨_, rfl⟩
                          have bf2476 : B f2476 0 6 := by have z_ := hJ2475.1 63 21; rw [ef2476] at z_; exact z_
                          have zf2476 := congrArg Int32.toInt ef2476
                          have z2477 := congrArg Int32.toInt (rd_w k2475 (rd_w k2439 z1824 rfl) rfl)
                          have z2478 := congrArg Int32.toInt (rd_w k2475 (rd_w k2439 ef1825 rfl) rfl)
                          have z2479 := congrArg Int32.toInt ef2476
                          have z2480 := congrArg Int32.toInt (rd_w k2475 (rd_w k2439 ef1827 rfl) rfl)
                          have z2481 := congrArg Int32.toInt (rd_w k2475 (rd_w k2439 ef1828 rfl) rfl)
                          have z2482 := congrArg Int32.toInt (rd_w k2475 (rd_w k2439 ef1829 rfl) rfl)
                          have z2483 := congrArg Int32.toInt (rd_w k2475 (rd_w k2439 ef1830 rfl) rfl)
                          have z2484 := congrArg Int32.toInt (rd_w k2475 (rd_w k2439 ef1831 rfl) rfl)
                          have z2485 := congrArg Int32.toInt (rd_w k2475 (rd_w k2439 ef1832 rfl) rfl)
                          have z2486 := congrArg Int32.toInt (rd_w k2475 (rd_w k2439 ef1833 rfl) rfl)
                          have z2487 := congrArg Int32.toInt (rd_w k2475 (rd_w k2439 ef1834 rfl) rfl)
                          exact ev_vret rfl rfl trivial ⟨rfl, rfl, hJ2475, (by have z0_ := congrArg Int32.toInt (rd_w k2475 (rd_w k2439 z1824 rfl) rfl); have z1_ := congrArg Int32.toInt (rd_w k2475 (rd_w k2439 ef1825 rfl) rfl); have z2_ := congrArg Int32.toInt ef2476; have z3_ := congrArg Int32.toInt (rd_w k2475 (rd_w k2439 ef1827 rfl) rfl); have z4_ := congrArg Int32.toInt (rd_w k2475 (rd_w k2439 ef1828 rfl) rfl); have z5_ := congrArg Int32.toInt (rd_w k2475 (rd_w k2439 ef1829 rfl) rfl); have z6_ := congrArg Int32.toInt (rd_w k2475 (rd_w k2439 ef1830 rfl) rfl); have z7_ := congrArg Int32.toInt (rd_w k2475 (rd_w k2439 ef1831 rfl) rfl); have z8_ := congrArg Int32.toInt (rd_w k2475 (rd_w k2439 ef1832 rfl) rfl); have z9_ := congrArg Int32.toInt (rd_w k2475 (rd_w k2439 ef1833 rfl) rfl); have z10_ := congrArg Int32.toInt (rd_w k2475 (rd_w k2439 ef1834 rfl) rfl); have z_ := w_lits; have zl_ := l_lits; omega)⟩
                        · have b2462 : B v2459 0 0 := R_eqX (B.any v2459) (by decide : B 0 0 0) c2460
                          have z2463 := congrArg Int32.toInt c2460
                          rw [show (0 : Int32).toInt = 0 from by decide] at z2463
                          refine ev_aload_n rfl rfl rfl ?_
                          refine ev_getV (v := f1829) rfl rfl fl_X10_234 rfl rfl rfl (rd_w k2439 ef1829 rfl) ?_
                          refine ev_bipush (v := 24) rfl rfl (by decide) ?_
                          refine ev_icmp_le rfl rfl (fun c2488 => ?_) (fun c2488 => ?_)
                          · have b2489 : B f1829 0 24 := R_leX bf1829 (by decide : B 24 24 24) c2488 (by decide)
                            have z2490 := w_le c2488
                            rw [show (24 : Int32).toInt = 24 from by decide] at z2490
                            exact ev_vret rfl rfl trivial ⟨rfl, rfl, hJ2439, (by have z0_ := congrArg Int32.toInt (rd_w k2439 z1824 rfl); have z1_ := congrArg Int32.toInt (rd_w k2439 ef1825 rfl); have z2_ := congrArg Int32.toInt ef2440; have z3_ := congrArg Int32.toInt (rd_w k2439 ef1827 rfl); have z4_ := congrArg Int32.toInt (rd_w k2439 ef1828 rfl); have z5_ := congrArg Int32.toInt (rd_w k2439 ef1829 rfl); have z6_ := congrArg Int32.toInt (rd_w k2439 ef1830 rfl); have z7_ := congrArg Int32.toInt (rd_w k2439 ef1831 rfl); have z8_ := congrArg Int32.toInt (rd_w k2439 ef1832 rfl); have z9_ := congrArg Int32.toInt (rd_w k2439 ef1833 rfl); have z10_ := congrArg Int32.toInt (rd_w k2439 ef1834 rfl); have z_ := w_lits; have zl_ := l_lits; omega)⟩
                          · have b2491 : B f1829 25 60 := R_ltY (by decide : B 24 24 24) bf1829 (Int32.not_le.mp c2488) (by decide)
                            have z2492 := w_lt (Int32.not_le.mp c2488)
                            rw [show (24 : Int32).toInt = 24 from by decide] at z2492
                            refine ev_aload_n rfl rfl rfl ?_
                            refine ev_bipush (v := 6) rfl rfl (by decide) ?_
                            refine ev_iconst (v := 0) rfl rfl (by decide) ?_
                            have z2493 := congrArg Int32.toInt (rd_w k2439 z1824 rfl)
                            have z2494 := congrArg Int32.toInt (rd_w k2439 ef1825 rfl)
                            have z2495 := congrArg Int32.toInt ef2440
                            have z2496 := congrArg Int32.toInt (rd_w k2439 ef1827 rfl)
                            have z2497 := congrArg Int32.toInt (rd_w k2439 ef1828 rfl)
                            have z2498 := congrArg Int32.toInt (rd_w k2439 ef1829 rfl)
                            have z2499 := congrArg Int32.toInt (rd_w k2439 ef1830 rfl)
                            have z2500 := congrArg Int32.toInt (rd_w k2439 ef1831 rfl)
                            have z2501 := congrArg Int32.toInt (rd_w k2439 ef1832 rfl)
                            have z2502 := congrArg Int32.toInt (rd_w k2439 ef1833 rfl)
                            have z2503 := congrArg Int32.toInt (rd_w k2439 ef1834 rfl)
                            refine ev_V2K hJ2439 rfl rfl rfl lk_X10_200 vt_X10_fails rfl rfl rfl rfl rfl (w_X10_fails_63 L b h2439 hJ2439.1 6 ((by decide : B 6 6 6).mono (by decide) (by decide)) 0) (fun h2504 hJ2504 k2504 m2504 => ?_)
                            obtain ⟨f2505, ef2505⟩ : ∃ f_, h2504 63 21 = f_ := ⟨_, rfl⟩
                            have bf2505 : B f2505 0 6 := by have z_ := hJ2504.1 63 21; rw [ef2505] at z_; exact z_
                            have zf2505 := congrArg Int32.toInt ef2505
                            have z2506 := congrArg Int32.toInt (rd_w k2504 (rd_w k2439 z1824 rfl) rfl)
                            have z2507 := congrArg Int32.toInt (rd_w k2504 (rd_w k2439 ef1825 rfl) rfl)
                            have z2508 := congrArg Int32.toInt ef2505
                            have z2509 := congrArg Int32.toInt (rd_w k2504 (rd_w k2439 ef1827 rfl) rfl)
                            have z2510 := congrArg Int32.toInt (rd_w k2504 (rd_w k2439 ef1828 rfl) rfl)
                            have z2511 := congrArg Int32.toInt (rd_w k2504 (rd_w k2439 ef1829 rfl) rfl)
                            have z2512 := congrArg Int32.toInt (rd_w k2504 (rd_w k2439 ef1830 rfl) rfl)
                            have z2513 := congrArg Int32.toInt (rd_w k2504 (rd_w k2439 ef1831 rfl) rfl)
                            have z2514 := congrArg Int32.toInt (rd_w k2504 (rd_w k2439 ef1832 rfl) rfl)
                            have z2515 := congrArg Int32.toInt (rd_w k2504 (rd_w k2439 ef1833 rfl) rfl)
                            have z2516 := congrArg Int32.toInt (rd_w k2504 (rd_w k2439 ef1834 rfl) rfl)
                            exact ev_vret rfl rfl trivial ⟨rfl, rfl, hJ2504, (by have z0_ := congrArg Int32.toInt (rd_w k2504 (rd_w k2439 z1824 rfl) rfl); have z1_ := congrArg Int32.toInt (rd_w k2504 (rd_w k2439 ef1825 rfl) rfl); have z2_ := congrArg Int32.toInt ef2505; have z3_ := congrArg Int32.toInt (rd_w k2504 (rd_w k2439 ef1827 rfl) rfl); have z4_ := congrArg Int32.toInt (rd_w k2504 (rd_w k2439 ef1828 rfl) rfl); have z5_ := congrArg Int32.toInt (rd_w k2504 (rd_w k2439 ef1829 rfl) rfl); have z6_ := congrArg Int32.toInt (rd_w k2504 (rd_w k2439 ef1830 rfl) rfl); have z7_ := congrArg Int32.toInt (rd_w k2504 (rd_w k2439 ef1831 rfl) rfl); have z8_ := congrArg Int32.toInt (rd_w k2504 (rd_w k2439 ef1832 rfl) rfl); have z9_ := congrArg Int32.toInt (rd_w k2504 (rd_w k2439 ef1833 rfl) rfl); have z10_ := congrArg Int32.toInt (rd_w k2504 (rd_w k2439 ef1834 rfl) rfl); have z_ := w_lits; have zl_ := l_lits; omega)⟩
                    · have b2426 : B w1818 0 0 := R_eqX b1820 (by decide : B 0 0 0) c2423
                      have z2427 := congrArg Int32.toInt c2423
                      rw [show (0 : Int32).toInt = 0 from by decide] at z2427
                      refine ev_iconst (v := 1) rfl rfl (by decide) ?_
                      refine ev_goto rfl rfl ?_
                      refine ev_iconst (v := 2) rfl rfl (by decide) ?_
                      have z2517 := congrArg Int32.toInt z1824
                      have z2518 := congrArg Int32.toInt ef1825
                      have z2519 := congrArg Int32.toInt ef1826
                      have z2520 := congrArg Int32.toInt ef1827
                      have z2521 := congrArg Int32.toInt ef1828
                      have z2522 := congrArg Int32.toInt ef1829
                      have z2523 := congrArg Int32.toInt ef1830
                      have z2524 := congrArg Int32.toInt ef1831
                      have z2525 := congrArg Int32.toInt ef1832
                      have z2526 := congrArg Int32.toInt ef1833
                      have z2527 := congrArg Int32.toInt ef1834
                      refine ev_V2K hJ1823 rfl rfl rfl lk_X10_230 vt_X10_wants rfl rfl rfl rfl rfl (w_X10_wants_63 L b h1822 hJ1823.1 1 ((by decide : B 1 1 1).mono (by decide) (by decide)) 2 ((by decide : B 2 2 2).mono (by decide) (by decide))) (fun h2528 hJ2528 k2528 m2528 => ?_)
                      obtain ⟨f2529, ef2529⟩ : ∃ f_, h2528 63 21 = f_ := ⟨_, rfl⟩
                      have bf2529 : B f2529 0 6 := by have z_ := hJ2528.1 63 21; rw [ef2529] at z_; exact z_
                      have zf2529 := congrArg Int32.toInt ef2529
                      have z2530 := congrArg Int32.toInt (rd_w k2528 z1824 rfl)
                      have z2531 := congrArg Int32.toInt (rd_w k2528 ef1825 rfl)
                      have z2532 := congrArg Int32.toInt ef2529
                      have z2533 := congrArg Int32.toInt (rd_w k2528 ef1827 rfl)
                      have z2534 := congrArg Int32.toInt (rd_w k2528 ef1828 rfl)
                      have z2535 := congrArg Int32.toInt (rd_w k2528 ef1829 rfl)
                      have z2536 := congrArg Int32.toInt (rd_w k2528 ef1830 rfl)
                      have z2537 := congrArg Int32.toInt (rd_w k2528 ef1831 rfl)
                      have z2538 := congrArg Int32.toInt (rd_w k2528 ef1832 rfl)
                      have z2539 := congrArg Int32.toInt (rd_w k2528 ef1833 rfl)
                      have z2540 := congrArg Int32.toInt (rd_w k2528 ef1834 rfl)
                      refine ev_iconst (v := 0) rfl rfl (by decide) ?_
                      refine ev_istore_n rfl rfl rfl rfl ?_
                      dsimp only [List.set]
                      refine ev_goto rfl rfl ?_
                      refine ev_iload_n rfl rfl rfl ?_
                      refine ev_if_eq rfl rfl (fun c2541 => ?_) (fun c2541 => absurd (D_eq (by decide : B 0 0 0) (by decide : B 0 0 0)) c2541)
                      have z2542 := congrArg Int32.toInt c2541
                      rw [show (0 : Int32).toInt = 0 from by decide] at z2542
                      refine ev_aload_n rfl rfl rfl ?_
                      refine ev_getV (v := f2529) rfl rfl fl_X10_191 rfl rfl rfl ef2529 ?_
                      refine ev_if_ne rfl rfl (fun c2543 => ?_) (fun c2543 => ?_)
                      · have b2544 : B f2529 1 6 := R_neL bf2529 (by decide : B 0 0 0) c2543 (by decide)
                        have z2545 := w_ne c2543
                        rw [show (0 : Int32).toInt = 0 from by decide] at z2545
                        exact ev_vret rfl rfl trivial ⟨rfl, rfl, hJ2528, (by have z0_ := congrArg Int32.toInt (rd_w k2528 z1824 rfl); have z1_ := congrArg Int32.toInt (rd_w k2528 ef1825 rfl); have z2_ := congrArg Int32.toInt ef2529; have z3_ := congrArg Int32.toInt (rd_w k2528 ef1827 rfl); have z4_ := congrArg Int32.toInt (rd_w k2528 ef1828 rfl); have z5_ := congrArg Int32.toInt (rd_w k2528 ef1829 rfl); have z6_ := congrArg Int32.toInt (rd_w k2528 ef1830 rfl); have z7_ := congrArg Int32.toInt (rd_w k2528 ef1831 rfl); have z8_ := congrArg Int32.toInt (rd_w k2528 ef1832 rfl); have z9_ := congrArg Int32.toInt (rd_w k2528 ef1833 rfl); have z10_ := congrArg Int32.toInt (rd_w k2528 ef1834 rfl); have z_ := w_lits; have zl_ := l_lits; omega)⟩
                      · have b2546 : B f2529 0 0 := R_eqX bf2529 (by decide : B 0 0 0) c2543
                        have z2547 := congrArg Int32.toInt c2543
                        rw [show (0 : Int32).toInt = 0 from by decide] at z2547
                        refine ev_aload_n rfl rfl rfl ?_
                        refine ev_getW (l := (-2147483648)) (u := 2147483647) hJ2528.1 rfl rfl rfl fl_X10_237 rfl rfl rfl (fun v2548 b2548 e2548 => ?_)
                        refine ev_if_ne rfl rfl (fun c2549 => ?_) (fun c2549 => ?_)
                        · have z2550 := w_ne c2549
                          rw [show (0 : Int32).toInt = 0 from by decide] at z2550
                          refine ev_aload_n rfl rfl rfl ?_
                          refine ev_bipush (v := 6) rfl rfl (by decide) ?_
                          refine ev_iconst (v := 0) rfl rfl (by decide) ?_
                          have z2553 := congrArg Int32.toInt (rd_w k2528 z1824 rfl)
                          have z2554 := congrArg Int32.toInt (rd_w k2528 ef1825 rfl)
                          have z2555 := congrArg Int32.toInt ef2529
                          have z2556 := congrArg Int32.toInt (rd_w k2528 ef1827 rfl)
                          have z2557 := congrArg Int32.toInt (rd_w k2528 ef1828 rfl)
                          have z2558 := congrArg Int32.toInt (rd_w k2528 ef1829 rfl)
                          have z2559 := congrArg Int32.toInt (rd_w k2528 ef1830 rfl)
                          have z2560 := congrArg Int32.toInt (rd_w k2528 ef1831 rfl)
                          have z2561 := congrArg Int32.toInt (rd_w k2528 ef1832 rfl)
                          have z2562 := congrArg Int32.toInt (rd_w k2528 ef1833 rfl)
                          have z2563 := congrArg Int32.toInt (rd_w k2528 ef1834 rfl)
                          refine ev_V2K hJ2528 rfl rfl rfl lk_X10_200 vt_X10_fails rfl rfl rfl rfl rfl (w_X10_fails_63 L b h2528 hJ2528.1 6 ((by decide : B 6 6 6).mono (by decide) (by decide)) 0) (fun h2564 hJ2564 k2564 m2564 => ?_)
                          obtain ⟨f2565, ef2565⟩ : ∃ f_, h2564 63 21 = f_ := ⟨_, rfl⟩
                          have bf2565 : B f2565 0 6 := by have z_ := hJ2564.1 63 21; rw [ef2565] at z_; exact z_
                          have zf2565 := congrArg Int32.toInt ef2565
                          have z2566 := congrArg Int32.toInt (rd_w k2564 (rd_w k2528 z1824 rfl) rfl)
                          have z2567 := congrArg Int32.toInt (rd_w k2564 (rd_w k2528 ef1825 rfl) rfl)
                          have z2568 := congrArg Int32.toInt ef2565
                          have z2569 := congrArg Int32.toInt (rd_w k2564 (rd_w k2528 ef1827 rfl) rfl)
                          have z2570 := congrArg Int32.toInt (rd_w k2564 (rd_w k2528 ef1828 rfl) rfl)
                          have z2571 := congrArg Int32.toInt (rd_w k2564 (rd_w k2528 ef1829 rfl) rfl)
                          have z2572 := congrArg Int32.toInt (rd_w k2564 (rd_w k2528 ef1830 rfl) rfl)
                          have z2573 := congrArg Int32.toInt (rd_w k2564 (rd_w k2528 ef1831 rfl) rfl)
                          have z2574 := congrArg Int32.toInt (rd_w k2564 (rd_w k2528 ef1832 rfl) rfl)
                          have z2575 := congrArg Int32.toInt (rd_w k2564 (rd_w k2528 ef1833 rfl) rfl)
                          have z2576 := congrArg Int32.toInt (rd_w k2564 (rd_w k2528 ef1834 rfl) rfl)
                          exact ev_vret rfl rfl trivial ⟨rfl, rfl, hJ2564, (by have z0_ := congrArg Int32.toInt (rd_w k2564 (rd_w k2528 z1824 rfl) rfl); have z1_ := congrArg Int32.toInt (rd_w k2564 (rd_w k2528 ef1825 rfl) rfl); have z2_ := congrArg Int32.toInt ef2565; have z3_ := congrArg Int32.toInt (rd_w k2564 (rd_w k2528 ef1827 rfl) rfl); have z4_ := congrArg Int32.toInt (rd_w k2564 (rd_w k2528 ef1828 rfl) rfl); have z5_ := congrArg Int32.toInt (rd_w k2564 (rd_w k2528 ef1829 rfl) rfl); have z6_ := congrArg Int32.toInt (rd_w k2564 (rd_w k2528 ef1830 rfl) rfl); have z7_ := congrArg Int32.toInt (rd_w k2564 (rd_w k2528 ef1831 rfl) rfl); have z8_ := congrArg Int32.toInt (rd_w k2564 (rd_w k2528 ef1832 rfl) rfl); have z9_ := congrArg Int32.toInt (rd_w k2564 (rd_w k2528 ef1833 rfl) rfl); have z10_ := congrArg Int32.toInt (rd_w k2564 (rd_w k2528 ef1834 rfl) rfl); have z_ := w_lits; have zl_ := l_lits; omega)⟩
                        · have b2551 : B v2548 0 0 := R_eqX (B.any v2548) (by decide : B 0 0 0) c2549
                          have z2552 := congrArg Int32.toInt c2549
                          rw [show (0 : Int32).toInt = 0 from by decide] at z2552
                          refine ev_aload_n rfl rfl rfl ?_
                          refine ev_getV (v := f1829) rfl rfl fl_X10_234 rfl rfl rfl (rd_w k2528 ef1829 rfl) ?_
                          refine ev_bipush (v := 24) rfl rfl (by decide) ?_
                          refine ev_icmp_le rfl rfl (fun c2577 => ?_) (fun c2577 => ?_)
                          · have b2578 : B f1829 0 24 := R_leX bf1829 (by decide : B 24 24 24) c2577 (by decide)
                            have z2579 := w_le c2577
                            rw [show (24 : Int32).toInt = 24 from by decide] at z2579
                            exact ev_vret rfl rfl trivial ⟨rfl, rfl, hJ2528, (by have z0_ := congrArg Int32.toInt (rd_w k2528 z1824 rfl); have z1_ := congrArg Int32.toInt (rd_w k2528 ef1825 rfl); have z2_ := congrArg Int32.toInt ef2529; have z3_ := congrArg Int32.toInt (rd_w k2528 ef1827 rfl); have z4_ := congrArg Int32.toInt (rd_w k2528 ef1828 rfl); have z5_ := congrArg Int32.toInt (rd_w k2528 ef1829 rfl); have z6_ := congrArg Int32.toInt (rd_w k2528 ef1830 rfl); have z7_ := congrArg Int32.toInt (rd_w k2528 ef1831 rfl); have z8_ := congrArg Int32.toInt (rd_w k2528 ef1832 rfl); have z9_ := congrArg Int32.toInt (rd_w k2528 ef1833 rfl); have z10_ := congrArg Int32.toInt (rd_w k2528 ef1834 rfl); have z_ := w_lits; have zl_ := l_lits; omega)⟩
                          · have b2580 : B f1829 25 60 := R_ltY (by decide : B 24 24 24) bf1829 (Int32.not_le.mp c2577) (by decide)
                            have z2581 := w_lt (Int32.not_le.mp c2577)
                            rw [show (24 : Int32).toInt = 24 from by decide] at z2581
                            refine ev_aload_n rfl rfl rfl ?_
                            refine ev_bipush (v := 6) rfl rfl (by decide) ?_
                            refine ev_iconst (v := 0) rfl rfl (by decide) ?_
                            have z2582 := congrArg Int32.toInt (rd_w k2528 z1824 rfl)
                            have z2583 := congrArg Int32.toInt (rd_w k2528 ef1825 rfl)
                            have z2584 := congrArg Int32.toInt ef2529
                            have z2585 := congrArg Int32.toInt (rd_w k2528 ef1827 rfl)
                            have z2586 := congrArg Int32.toInt (rd_w k2528 ef1828 rfl)
                            have z2587 := congrArg Int32.toInt (rd_w k2528 ef1829 rfl)
                            have z2588 := congrArg Int32.toInt (rd_w k2528 ef1830 rfl)
                            have z2589 := congrArg Int32.toInt (rd_w k2528 ef1831 rfl)
                            have z2590 := congrArg Int32.toInt (rd_w k2528 ef1832 rfl)
                            have z2591 := congrArg Int32.toInt (rd_w k2528 ef1833 rfl)
                            have z2592 := congrArg Int32.toInt (rd_w k2528 ef1834 rfl)
                            refine ev_V2K hJ2528 rfl rfl rfl lk_X10_200 vt_X10_fails rfl rfl rfl rfl rfl (w_X10_fails_63 L b h2528 hJ2528.1 6 ((by decide : B 6 6 6).mono (by decide) (by decide)) 0) (fun h2593 hJ2593 k2593 m2593 => ?_)
                            obtain ⟨f2594, ef2594⟩ : ∃ f_, h2593 63 21 = f_ := ⟨_, rfl⟩
                            have bf2594 : B f2594 0 6 := by have z_ := hJ2593.1 63 21; rw [ef2594] at z_; exact z_
                            have zf2594 := congrArg Int32.toInt ef2594
                            have z2595 := congrArg Int32.toInt (rd_w k2593 (rd_w k2528 z1824 rfl) rfl)
                            have z2596 := congrArg Int32.toInt (rd_w k2593 (rd_w k2528 ef1825 rfl) rfl)
                            have z2597 := congrArg Int32.toInt ef2594
                            have z2598 := congrArg Int32.toInt (rd_w k2593 (rd_w k2528 ef1827 rfl) rfl)
                            have z2599 := congrArg Int32.toInt (rd_w k2593 (rd_w k2528 ef1828 rfl) rfl)
                            have z2600 := congrArg Int32.toInt (rd_w k2593 (rd_w k2528 ef1829 rfl) rfl)
                            have z2601 := congrArg Int32.toInt (rd_w k2593 (rd_w k2528 ef1830 rfl) rfl)
                            have z2602 := congrArg Int32.toInt (rd_w k2593 (rd_w k2528 ef1831 rfl) rfl)
                            have z2603 := congrArg Int32.toInt (rd_w k2593 (rd_w k2528 ef1832 rfl) rfl)
                            have z2604 := congrArg Int32.toInt (rd_w k2593 (rd_w k2528 ef1833 rfl) rfl)
                            have z2605 := congrArg Int32.toInt (rd_w k2593 (rd_w k2528 ef1834 rfl) rfl)
                            exact ev_vret rfl rfl trivial ⟨rfl, rfl, hJ2593, (by have z0_ := congrArg Int32.toInt (rd_w k2593 (rd_w k2528 z1824 rfl) rfl); have z1_ := congrArg Int32.toInt (rd_w k2593 (rd_w k2528 ef1825 rfl) rfl); have z2_ := congrArg Int32.toInt ef2594; have z3_ := congrArg Int32.toInt (rd_w k2593 (rd_w k2528 ef1827 rfl) rfl); have z4_ := congrArg Int32.toInt (rd_w k2593 (rd_w k2528 ef1828 rfl) rfl); have z5_ := congrArg Int32.toInt (rd_w k2593 (rd_w k2528 ef1829 rfl) rfl); have z6_ := congrArg Int32.toInt (rd_w k2593 (rd_w k2528 ef1830 rfl) rfl); have z7_ := congrArg Int32.toInt (rd_w k2593 (rd_w k2528 ef1831 rfl) rfl); have z8_ := congrArg Int32.toInt (rd_w k2593 (rd_w k2528 ef1832 rfl) rfl); have z9_ := congrArg Int32.toInt (rd_w k2593 (rd_w k2528 ef1833 rfl) rfl); have z10_ := congrArg Int32.toInt (rd_w k2593 (rd_w k2528 ef1834 rfl) rfl); have z_ := w_lits; have zl_ := l_lits; omega)⟩
                · have b2325 : B f1830 1 4 := R_ltY (by decide : B 0 0 0) bf1830 (Int32.not_le.mp c2322) (by decide)
                  have z2326 := w_lt (Int32.not_le.mp c2322)
                  rw [show (0 : Int32).toInt = 0 from by decide] at z2326
                  refine ev_iload_n rfl rfl rfl ?_
                  refine ev_if_ne rfl rfl (fun c2606 => ?_) (fun c2606 => ?_)
                  · have b2607 : B w1818 1 4095 := R_neL b1820 (by decide : B 0 0 0) c2606 (by decide)
                    have z2608 := w_ne c2606
                    rw [show (0 : Int32).toInt = 0 from by decide] at z2608
                    refine ev_aload_n rfl rfl rfl ?_
                    refine ev_aload_n rfl rfl rfl ?_
                    refine ev_getV (v := f1828) rfl rfl fl_X10_204 rfl rfl rfl ef1828 ?_
                    refine ev_if_ne rfl rfl (fun c2611 => ?_) (fun c2611 => ?_)
                    · have b2612 : B f1828 1 3 := R_neL bf1828 (by decide : B 0 0 0) c2611 (by decide)
                      have z2613 := w_ne c2611
                      rw [show (0 : Int32).toInt = 0 from by decide] at z2613
                      refine ev_iconst (v := 0) rfl rfl (by decide) ?_
                      refine ev_iconst (v := 2) rfl rfl (by decide) ?_
                      have z2616 := congrArg Int32.toInt z1824
                      have z2617 := congrArg Int32.toInt ef1825
                      have z2618 := congrArg Int32.toInt ef1826
                      have z2619 := congrArg Int32.toInt ef1827
                      have z2620 := congrArg Int32.toInt ef1828
                      have z2621 := congrArg Int32.toInt ef1829
                      have z2622 := congrArg Int32.toInt ef1830
                      have z2623 := congrArg Int32.toInt ef1831
                      have z2624 := congrArg Int32.toInt ef1832
                      have z2625 := congrArg Int32.toInt ef1833
                      have z2626 := congrArg Int32.toInt ef1834
                      refine ev_V2K hJ1823 rfl rfl rfl lk_X10_230 vt_X10_wants rfl rfl rfl rfl rfl (w_X10_wants_63 L b h1822 hJ1823.1 0 ((by decide : B 0 0 0).mono (by decide) (by decide)) 2 ((by decide : B 2 2 2).mono (by decide) (by decide))) (fun h2627 hJ2627 k2627 m2627 => ?_)
                      obtain ⟨f2628, ef2628⟩ : ∃ f_, h2627 63 21 = f_ := ⟨_, rfl⟩
                      have bf2628 : B f2628 0 6 := by have z_ := hJ2627.1 63 21; rw [ef2628] at z_; exact z_
                      have zf2628 := congrArg Int32.toInt ef2628
                      have z2629 := congrArg Int32.toInt (rd_w k2627 z1824 rfl)
                      have z2630 := congrArg Int32.toInt (rd_w k2627 ef1825 rfl)
                      have z2631 := congrArg Int32.toInt ef2628
                      have z2632 := congrArg Int32.toInt (rd_w k2627 ef1827 rfl)
                      have z2633 := congrArg Int32.toInt (rd_w k2627 ef1828 rfl)
                      have z2634 := congrArg Int32.toInt (rd_w k2627 ef1829 rfl)
                      have z2635 := congrArg Int32.toInt (rd_w k2627 ef1830 rfl)
                      have z2636 := congrArg Int32.toInt (rd_w k2627 ef1831 rfl)
                      have z2637 := congrArg Int32.toInt (rd_w k2627 ef1832 rfl)
                      have z2638 := congrArg Int32.toInt (rd_w k2627 ef1833 rfl)
                      have z2639 := congrArg Int32.toInt (rd_w k2627 ef1834 rfl)
                      refine ev_iconst (v := 0) rfl rfl (by decide) ?_
                      refine ev_istore_n rfl rfl rfl rfl ?_
                      dsimp only [List.set]
                      refine ev_goto rfl rfl ?_
                      refine ev_iload_n rfl rfl rfl ?_
                      refine ev_if_eq rfl rfl (fun c2640 => ?_) (fun c2640 => absurd (D_eq (by decide : B 0 0 0) (by decide : B 0 0 0)) c2640)
                      have z2641 := congrArg Int32.toInt c2640
                      rw [show (0 : Int32).toInt = 0 from by decide] at z2641
                      refine ev_aload_n rfl rfl rfl ?_
                      refine ev_getV (v := f2628) rfl rfl fl_X10_191 rfl rfl rfl ef2628 ?_
                      refine ev_if_ne rfl rfl (fun c2642 => ?_) (fun c2642 => ?_)
                      · have b2643 : B f2628 1 6 := R_neL bf2628 (by decide : B 0 0 0) c2642 (by decide)
                        have z2644 := w_ne c2642
                        rw [show (0 : Int32).toInt = 0 from by decide] at z2644
                        exact ev_vret rfl rfl trivial ⟨rfl, rfl, hJ2627, (by have z0_ := congrArg Int32.toInt (rd_w k2627 z1824 rfl); have z1_ := congrArg Int32.toInt (rd_w k2627 ef1825 rfl); have z2_ := congrArg Int32.toInt ef2628; have z3_ := congrArg Int32.toInt (rd_w k2627 ef1827 rfl); have z4_ := congrArg Int32.toInt (rd_w k2627 ef1828 rfl); have z5_ := congrArg Int32.toInt (rd_w k2627 ef1829 rfl); have z6_ := congrArg Int32.toInt (rd_w k2627 ef1830 rfl); have z7_ := congrArg Int32.toInt (rd_w k2627 ef1831 rfl); have z8_ := congrArg Int32.toInt (rd_w k2627 ef1832 rfl); have z9_ := congrArg Int32.toInt (rd_w k2627 ef1833 rfl); have z10_ := congrArg Int32.toInt (rd_w k2627 ef1834 rfl); have z_ := w_lits; have zl_ := l_lits; omega)⟩
                      · have b2645 : B f2628 0 0 := R_eqX bf2628 (by decide : B 0 0 0) c2642
                        have z2646 := congrArg Int32.toInt c2642
                        rw [show (0 : Int32).toInt = 0 from by decide] at z2646
                        refine ev_aload_n rfl rfl rfl ?_
                        refine ev_getW (l := (-2147483648)) (u := 2147483647) hJ2627.1 rfl rfl rfl fl_X10_237 rfl rfl rfl (fun v2647 b2647 e2647 => ?_)
                        refine ev_if_ne rfl rfl (fun c2648 => ?_) (fun c2648 => ?_)
                        · have z2649 := w_ne c2648
                          rw [show (0 : Int32).toInt = 0 from by decide] at z2649
                          refine ev_aload_n rfl rfl rfl ?_
                          refine ev_bipush (v := 6) rfl rfl (by decide) ?_
                          refine ev_iconst (v := 0) rfl rfl (by decide) ?_
                          have z2652 := congrArg Int32.toInt (rd_w k2627 z1824 rfl)
                          have z2653 := congrArg Int32.toInt (rd_w k2627 ef1825 rfl)
                          have z2654 := congrArg Int32.toInt ef2628
                          have z2655 := congrArg Int32.toInt (rd_w k2627 ef1827 rfl)
                          have z2656 := congrArg Int32.toInt (rd_w k2627 ef1828 rfl)
                          have z2657 := congrArg Int32.toInt (rd_w k2627 ef1829 rfl)
                          have z2658 := congrArg Int32.toInt (rd_w k2627 ef1830 rfl)
                          have z2659 := congrArg Int32.toInt (rd_w k2627 ef1831 rfl)
                          have z2660 := congrArg Int32.toInt (rd_w k2627 ef1832 rfl)
                          have z2661 := congrArg Int32.toInt (rd_w k2627 ef1833 rfl)
                          have z2662 := congrArg Int32.toInt (rd_w k2627 ef1834 rfl)
                          refine ev_V2K hJ2627 rfl rfl rfl lk_X10_200 vt_X10_fails rfl rfl rfl rfl rfl (w_X10_fails_63 L b h2627 hJ2627.1 6 ((by decide : B 6 6 6).mono (by decide) (by decide)) 0) (fun h2663 hJ2663 k2663 m2663 => ?_)
                          obtain ⟨f2664, ef2664⟩ : ∃ f_, h2663 63 21 = f_ := ⟨_, rfl⟩
                          have bf2664 : B f2664 0 6 := by have z_ := hJ2663.1 63 21; rw [ef2664] at z_; exact z_
                          have zf2664 := congrArg Int32.toInt ef2664
                          have z2665 := congrArg Int32.toInt (rd_w k2663 (rd_w k2627 z1824 rfl) rfl)
                          have z2666 := congrArg Int32.toInt (rd_w k2663 (rd_w k2627 ef1825 rfl) rfl)
                          have z2667 := congrArg Int32.toInt ef2664
                          have z2668 := congrArg Int32.toInt (rd_w k2663 (rd_w k2627 ef1827 rfl) rfl)
                          have z2669 := congrArg Int32.toInt (rd_w k2663 (rd_w k2627 ef1828 rfl) rfl)
                          have z2670 := congrArg Int32.toInt (rd_w k2663 (rd_w k2627 ef1829 rfl) rfl)
                          have z2671 := congrArg Int32.toInt (rd_w k2663 (rd_w k2627 ef1830 rfl) rfl)
                          have z2672 := congrArg Int32.toInt (rd_w k2663 (rd_w k2627 ef1831 rfl) rfl)
                          have z2673 := congrArg Int32.toInt (rd_w k2663 (rd_w k2627 ef1832 rfl) rfl)
                          have z2674 := congrArg Int32.toInt (rd_w k2663 (rd_w k2627 ef1833 rfl) rfl)
                          have z2675 := congrArg Int32.toInt (rd_w k2663 (rd_w k2627 ef1834 rfl) rfl)
                          exact ev_vret rfl rfl trivial ⟨rfl, rfl, hJ2663, (by have z0_ := congrArg Int32.toInt (rd_w k2663 (rd_w k2627 z1824 rfl) rfl); have z1_ := congrArg Int32.toInt (rd_w k2663 (rd_w k2627 ef1825 rfl) rfl); have z2_ := congrArg Int32.toInt ef2664; have z3_ := congrArg Int32.toInt (rd_w k2663 (rd_w k2627 ef1827 rfl) rfl); have z4_ := congrArg Int32.toInt (rd_w k2663 (rd_w k2627 ef1828 rfl) rfl); have z5_ := congrArg Int32.toInt (rd_w k2663 (rd_w k2627 ef1829 rfl) rfl); have z6_ := congrArg Int32.toInt (rd_w k2663 (rd_w k2627 ef1830 rfl) rfl); have z7_ := congrArg Int32.toInt (rd_w k2663 (rd_w k2627 ef1831 rfl) rfl); have z8_ := congrArg Int32.toInt (rd_w k2663 (rd_w k2627 ef1832 rfl) rfl); have z9_ := congrArg Int32.toInt (rd_w k2663 (rd_w k2627 ef1833 rfl) rfl); have z10_ := congrArg Int32.toInt (rd_w k2663 (rd_w k2627 ef1834 rfl) rfl); have z_ := w_lits; have zl_ := l_lits; omega)⟩
                        · have b2650 : B v2647 0 0 := R_eqX (B.any v2647) (by decide : B 0 0 0) c2648
                          have z2651 := congrArg Int32.toInt c2648
                          rw [show (0 : Int32).toInt = 0 from by decide] at z2651
                          refine ev_aload_n rfl rfl rfl ?_
                          refine ev_getV (v := f1829) rfl rfl fl_X10_234 rfl rfl rfl (rd_w k2627 ef1829 rfl) ?_
                          refine ev_bipush (v := 24) rfl rfl (by decide) ?_
                          refine ev_icmp_le rfl rfl (fun c2676 => ?_) (fun c2676 => ?_)
                          · have b2677 : B f1829 0 24 := R_leX bf1829 (by decide : B 24 24 24) c2676 (by decide)
                            have z2678 := w_le c2676
                            rw [show (24 : Int32).toInt = 24 from by decide] at z2678
                            exact ev_vret rfl rfl trivial ⟨rfl, rfl, hJ2627, (by have z0_ := congrArg Int32.toInt (rd_w k2627 z1824 rfl); have z1_ := congrArg Int32.toInt (rd_w k2627 ef1825 rfl); have z2_ := congrArg Int32.toInt ef2628; have z3_ := congrArg Int32.toInt (rd_w k2627 ef1827 rfl); have z4_ := congrArg Int32.toInt (rd_w k2627 ef1828 rfl); have z5_ := congrArg Int32.toInt (rd_w k2627 ef1829 rfl); have z6_ := congrArg Int32.toInt (rd_w k2627 ef1830 rfl); have z7_ := congrArg Int32.toInt (rd_w k2627 ef1831 rfl); have z8_ := congrArg Int32.toInt (rd_w k2627 ef1832 rfl); have z9_ := congrArg Int32.toInt (rd_w k2627 ef1833 rfl); have z10_ := congrArg Int32.toInt (rd_w k2627 ef1834 rfl); have z_ := w_lits; have zl_ := l_lits; omega)⟩
                          · have b2679 : B f1829 25 60 := R_ltY (by decide : B 24 24 24) bf1829 (Int32.not_le.mp c2676) (by decide)
                            have z2680 := w_lt (Int32.not_le.mp c2676)
                            rw [show (24 : Int32).toInt = 24 from by decide] at z2680
                            refine ev_aload_n rfl rfl rfl ?_
                            refine ev_bipush (v := 6) rfl rfl (by decide) ?_
                            refine ev_iconst (v := 0) rfl rfl (by decide) ?_
                            have z2681 := congrArg Int32.toInt (rd_w k2627 z1824 rfl)
                            have z2682 := congrArg Int32.toInt (rd_w k2627 ef1825 rfl)
                            have z2683 := congrArg Int32.toInt ef2628
                            have z2684 := congrArg Int32.toInt (rd_w k2627 ef1827 rfl)
                            have z2685 := congrArg Int32.toInt (rd_w k2627 ef1828 rfl)
                            have z2686 := congrArg Int32.toInt (rd_w k2627 ef1829 rfl)
                            have z2687 := congrArg Int32.toInt (rd_w k2627 ef1830 rfl)
                            have z2688 := congrArg Int32.toInt (rd_w k2627 ef1831 rfl)
                            have z2689 := congrArg Int32.toInt (rd_w k2627 ef1832 rfl)
                            have z2690 := congrArg Int32.toInt (rd_w k2627 ef1833 rfl)
                            have z2691 := congrArg Int32.toInt (rd_w k2627 ef1834 rfl)
                            refine ev_V2K hJ2627 rfl rfl rfl lk_X10_200 vt_X10_fails rfl rfl rfl rfl rfl (w_X10_fails_63 L b h2627 hJ2627.1 6 ((by decide : B 6 6 6).mono (by decide) (by decide)) 0) (fun h2692 hJ2692 k2692 m2692 => ?_)
                            obtain ⟨f2693, ef2693⟩ : ∃ f_, h2692 63 21 = f_ := ⟨_, rfl⟩
                            have bf2693 : B f2693 0 6 := by have z_ := hJ2692.1 63 21; rw [ef2693] at z_; exact z_
                            have zf2693 := congrArg Int32.toInt ef2693
                            have z2694 := congrArg Int32.toInt (rd_w k2692 (rd_w k2627 z1824 rfl) rfl)
                            have z2695 := congrArg Int32.toInt (rd_w k2692 (rd_w k2627 ef1825 rfl) rfl)
                            have z2696 := congrArg Int32.toInt ef2693
                            have z2697 := congrArg Int32.toInt (rd_w k2692 (rd_w k2627 ef1827 rfl) rfl)
                            have z2698 := congrArg Int32.toInt (rd_w k2692 (rd_w k2627 ef1828 rfl) rfl)
                            have z2699 := congrArg Int32.toInt (rd_w k2692 (rd_w k2627 ef1829 rfl) rfl)
                            have z2700 := congrArg Int32.toInt (rd_w k2692 (rd_w k2627 ef1830 rfl) rfl)
                            have z2701 := congrArg Int32.toInt (rd_w k2692 (rd_w k2627 ef1831 rfl) rfl)
                            have z2702 := congrArg Int32.toInt (rd_w k2692 (rd_w k2627 ef1832 rfl) rfl)
                            have z2703 := congrArg Int32.toInt (rd_w k2692 (rd_w k2627 ef1833 rfl) rfl)
                            have z2704 := congrArg Int32.toInt (rd_w k2692 (rd_w k2627 ef1834 rfl) rfl)
                            exact ev_vret rfl rfl trivial ⟨rfl, rfl, hJ2692, (by have z0_ := congrArg Int32.toInt (rd_w k2692 (rd_w k2627 z1824 rfl) rfl); have z1_ := congrArg Int32.toInt (rd_w k2692 (rd_w k2627 ef1825 rfl) rfl); have z2_ := congrArg Int32.toInt ef2693; have z3_ := congrArg Int32.toInt (rd_w k2692 (rd_w k2627 ef1827 rfl) rfl); have z4_ := congrArg Int32.toInt (rd_w k2692 (rd_w k2627 ef1828 rfl) rfl); have z5_ := congrArg Int32.toInt (rd_w k2692 (rd_w k2627 ef1829 rfl) rfl); have z6_ := congrArg Int32.toInt (rd_w k2692 (rd_w k2627 ef1830 rfl) rfl); have z7_ := congrArg Int32.toInt (rd_w k2692 (rd_w k2627 ef1831 rfl) rfl); have z8_ := congrArg Int32.toInt (rd_w k2692 (rd_w k2627 ef1832 rfl) rfl); have z9_ := congrArg Int32.toInt (rd_w k2692 (rd_w k2627 ef1833 rfl) rfl); have z10_ := congrArg Int32.toInt (rd_w k2692 (rd_w k2627 ef1834 rfl) rfl); have z_ := w_lits; have zl_ := l_lits; omega)⟩
                    · have b2614 : B f1828 0 0 := R_eqX bf1828 (by decide : B 0 0 0) c2611
                      have z2615 := congrArg Int32.toInt c2611
                      rw [show (0 : Int32).toInt = 0 from by decide] at z2615
                      refine ev_aload_n rfl rfl rfl ?_
                      refine ev_getV (v := f1830) rfl rfl fl_X10_241 rfl rfl rfl ef1830 ?_
                      refine ev_if_ne rfl rfl (fun c2705 => ?_) (fun c2705 => absurd c2705 (D_ne b2325 (by decide : B 0 0 0) (by decide)))
                      have z2706 := w_ne c2705
                      rw [show (0 : Int32).toInt = 0 from by decide] at z2706
                      refine ev_iconst (v := 0) rfl rfl (by decide) ?_
                      refine ev_iconst (v := 2) rfl rfl (by decide) ?_
                      have z2707 := congrArg Int32.toInt z1824
                      have z2708 := congrArg Int32.toInt ef1825
                      have z2709 := congrArg Int32.toInt ef1826
                      have z2710 := congrArg Int32.toInt ef1827
                      have z2711 := congrArg Int32.toInt ef1828
                      have z2712 := congrArg Int32.toInt ef1829
                      have z2713 := congrArg Int32.toInt ef1830
                      have z2714 := congrArg Int32.toInt ef1831
                      have z2715 := congrArg Int32.toInt ef1832
                      have z2716 := congrArg Int32.toInt ef1833
                      have z2717 := congrArg Int32.toInt ef1834
                      refine ev_V2K hJ1823 rfl rfl rfl lk_X10_230 vt_X10_wants rfl rfl rfl rfl rfl (w_X10_wants_63 L b h1822 hJ1823.1 0 ((by decide : B 0 0 0).mono (by decide) (by decide)) 2 ((by decide : B 2 2 2).mono (by decide) (by decide))) (fun h2718 hJ2718 k2718 m2718 => ?_)
                      obtain ⟨f2719, ef2719⟩ : ∃ f_, h2718 63 21 = f_ := ⟨_, rfl⟩
                      have bf2719 : B f2719 0 6 := by have z_ := hJ2718.1 63 21; rw [ef2719] at z_; exact z_
                      have zf2719 := congrArg Int32.toInt ef2719
                      have z2720 := congrArg Int32.toInt (rd_w k2718 z1824 rfl)
                      have z2721 := congrArg Int32.toInt (rd_w k2718 ef1825 rfl)
                      have z2722 := congrArg Int32.toInt ef2719
                      have z2723 := congrArg Int32.toInt (rd_w k2718 ef1827 rfl)
                      have z2724 := congrArg Int32.toInt (rd_w k2718 ef1828 rfl)
                      have z2725 := congrArg Int32.toInt (rd_w k2718 ef1829 rfl)
                      have z2726 := congrArg Int32.toInt (rd_w k2718 ef1830 rfl)
                      have z2727 := congrArg Int32.toInt (rd_w k2718 ef1831 rfl)
                      have z2728 := congrArg Int32.toInt (rd_w k2718 ef1832 rfl)
                      have z2729 := congrArg Int32.toInt (rd_w k2718 ef1833 rfl)
                      have z2730 := congrArg Int32.toInt (rd_w k2718 ef1834 rfl)
                      refine ev_iconst (v := 0) rfl rfl (by decide) ?_
                      refine ev_istore_n rfl rfl rfl rfl ?_
                      dsimp only [List.set]
                      refine ev_goto rfl rfl ?_
                      refine ev_iload_n rfl rfl rfl ?_
                      refine ev_if_eq rfl rfl (fun c2731 => ?_) (fun c2731 => absurd (D_eq (by decide : B 0 0 0) (by decide : B 0 0 0)) c2731)
                      have z2732 := congrArg Int32.toInt c2731
                      rw [show (0 : Int32).toInt = 0 from by decide] at z2732
                      refine ev_aload_n rfl rfl rfl ?_
                      refine ev_getV (v := f2719) rfl rfl fl_X10_191 rfl rfl rfl ef2719 ?_
                      refine ev_if_ne rfl rfl (fun c2733 => ?_) (fun c2733 => ?_)
                      · have b2734 : B f2719 1 6 := R_neL bf2719 (by decide : B 0 0 0) c2733 (by decide)
                        have z2735 := w_ne c2733
                        rw [show (0 : Int32).toInt = 0 from by decide] at z2735
                        exact ev_vret rfl rfl trivial ⟨rfl, rfl, hJ2718, (by have z0_ := congrArg Int32.toInt (rd_w k2718 z1824 rfl); have z1_ := congrArg Int32.toInt (rd_w k2718 ef1825 rfl); have z2_ := congrArg Int32.toInt ef2719; have z3_ := congrArg Int32.toInt (rd_w k2718 ef1827 rfl); have z4_ := congrArg Int32.toInt (rd_w k2718 ef1828 rfl); have z5_ := congrArg Int32.toInt (rd_w k2718 ef1829 rfl); have z6_ := congrArg Int32.toInt (rd_w k2718 ef1830 rfl); have z7_ := congrArg Int32.toInt (rd_w k2718 ef1831 rfl); have z8_ := congrArg Int32.toInt (rd_w k2718 ef1832 rfl); have z9_ := congrArg Int32.toInt (rd_w k2718 ef1833 rfl); have z10_ := congrArg Int32.toInt (rd_w k2718 ef1834 rfl); have z_ := w_lits; have zl_ := l_lits; omega)⟩
                      · have b2736 : B f2719 0 0 := R_eqX bf2719 (by decide : B 0 0 0) c2733
                        have z2737 := congrArg Int32.toInt c2733
                        rw [show (0 : Int32).toInt = 0 from by decide] at z2737
                        refine ev_aload_n rfl rfl rfl ?_
                        refine ev_getW (l := (-2147483648)) (u := 2147483647) hJ2718.1 rfl rfl rfl fl_X10_237 rfl rfl rfl (fun v2738 b2738 e2738 => ?_)
                        refine ev_if_ne rfl rfl (fun c2739 => ?_) (fun c2739 => ?_)
                        · have z2740 := w_ne c2739
                          rw [show (0 : Int32).toInt = 0 from by decide] at z2740
                          refine ev_aload_n rfl rfl rfl ?_
                          refine ev_bipush (v := 6) rfl rfl (by decide) ?_
                          refine ev_iconst (v := 0) rfl rfl (by decide) ?_
                          have z2743 := congrArg Int32.toInt (rd_w k2718 z1824 rfl)
                          have z2744 := congrArg Int32.toInt (rd_w k2718 ef1825 rfl)
                          have z2745 := congrArg Int32.toInt ef2719
                          have z2746 := congrArg Int32.toInt (rd_w k2718 ef1827 rfl)
                          have z2747 := congrArg Int32.toInt (rd_w k2718 ef1828 rfl)
                          have z2748 := congrArg Int32.toInt (rd_w k2718 ef1829 rfl)
                          have z2749 := congrArg Int32.toInt (rd_w k2718 ef1830 rfl)
                          have z2750 := congrArg Int32.toInt (rd_w k2718 ef1831 rfl)
                          have z2751 := congrArg Int32.toInt (rd_w k2718 ef1832 rfl)
                          have z2752 := congrArg Int32.toInt (rd_w k2718 ef1833 rfl)
                          have z2753 := congrArg Int32.toInt (rd_w k2718 ef1834 rfl)
                          refine ev_V2K hJ2718 rfl rfl rfl lk_X10_200 vt_X10_fails rfl rfl rfl rfl rfl (w_X10_fails_63 L b h2718 hJ2718.1 6 ((by decide : B 6 6 6).mono (by decide) (by decide)) 0) (fun h2754 hJ2754 k2754 m2754 => ?_)
                          obtain ⟨f2755, ef2755⟩ : ∃ f_, h2754 63 21 = f_ := ⟨_, rfl⟩
                          have bf2755 : B f2755 0 6 := by have z_ := hJ2754.1 63 21; rw [ef2755] at z_; exact z_
                          have zf2755 := congrArg Int32.toInt ef2755
                          have z2756 := congrArg Int32.toInt (rd_w k2754 (rd_w k2718 z1824 rfl) rfl)
                          have z2757 := congrArg Int32.toInt (rd_w k2754 (rd_w k2718 ef1825 rfl) rfl)
                          have z2758 := congrArg Int32.toInt ef2755
                          have z2759 := congrArg Int32.toInt (rd_w k2754 (rd_w k2718 ef1827 rfl) rfl)
                          have z2760 := congrArg Int32.toInt (rd_w k2754 (rd_w k2718 ef1828 rfl) rfl)
                          have z2761 := congrArg Int32.toInt (rd_w k2754 (rd_w k2718 ef1829 rfl) rfl)
                          have z2762 := congrArg Int32.toInt (rd_w k2754 (rd_w k2718 ef1830 rfl) rfl)
                          have z2763 := congrArg Int32.toInt (rd_w k2754 (rd_w k2718 ef1831 rfl) rfl)
                          have z2764 := congrArg Int32.toInt (rd_w k2754 (rd_w k2718 ef1832 rfl) rfl)
                          have z2765 := congrArg Int32.toInt (rd_w k2754 (rd_w k2718 ef1833 rfl) rfl)
                          have z2766 := congrArg Int32.toInt (rd_w k2754 (rd_w k2718 ef1834 rfl) rfl)
                          exact ev_vret rfl rfl trivial ⟨rfl, rfl, hJ2754, (by have z0_ := congrArg Int32.toInt (rd_w k2754 (rd_w k2718 z1824 rfl) rfl); have z1_ := congrArg Int32.toInt (rd_w k2754 (rd_w k2718 ef1825 rfl) rfl); have z2_ := congrArg Int32.toInt ef2755; have z3_ := congrArg Int32.toInt (rd_w k2754 (rd_w k2718 ef1827 rfl) rfl); have z4_ := congrArg Int32.toInt (rd_w k2754 (rd_w k2718 ef1828 rfl) rfl); have z5_ := congrArg Int32.toInt (rd_w k2754 (rd_w k2718 ef1829 rfl) rfl); have z6_ := congrArg Int32.toInt (rd_w k2754 (rd_w k2718 ef1830 rfl) rfl); have z7_ := congrArg Int32.toInt (rd_w k2754 (rd_w k2718 ef1831 rfl) rfl); have z8_ := congrArg Int32.toInt (rd_w k2754 (rd_w k2718 ef1832 rfl) rfl); have z9_ := congrArg Int32.toInt (rd_w k2754 (rd_w k2718 ef1833 rfl) rfl); have z10_ := congrArg Int32.toInt (rd_w k2754 (rd_w k2718 ef1834 rfl) rfl); have z_ := w_lits; have zl_ := l_lits; omega)⟩
                        · have b2741 : B v2738 0 0 := R_eqX (B.any v2738) (by decide : B 0 0 0) c2739
                          have z2742 := congrArg Int32.toInt c2739
                          rw [show (0 : Int32).toInt = 0 from by decide] at z2742
                          refine ev_aload_n rfl rfl rfl ?_
                          refine ev_getV (v := f1829) rfl rfl fl_X10_234 rfl rfl rfl (rd_w k2718 ef1829 rfl) ?_
                          refine ev_bipush (v := 24) rfl rfl (by decide) ?_
                          refine ev_icmp_le rfl rfl (fun c2767 => ?_) (fun c2767 => ?_)
                          · have b2768 : B f1829 0 24 := R_leX bf1829 (by decide : B 24 24 24) c2767 (by decide)
                            have z2769 := w_le c2767
                            rw [show (24 : Int32).toInt = 24 from by decide] at z2769
                            exact ev_vret rfl rfl trivial ⟨rfl, rfl, hJ2718, (by have z0_ := congrArg Int32.toInt (rd_w k2718 z1824 rfl); have z1_ := congrArg Int32.toInt (rd_w k2718 ef1825 rfl); have z2_ := congrArg Int32.toInt ef2719; have z3_ := congrArg Int32.toInt (rd_w k2718 ef1827 rfl); have z4_ := congrArg Int32.toInt (rd_w k2718 ef1828 rfl); have z5_ := congrArg Int32.toInt (rd_w k2718 ef1829 rfl); have z6_ := congrArg Int32.toInt (rd_w k2718 ef1830 rfl); have z7_ := congrArg Int32.toInt (rd_w k2718 ef1831 rfl); have z8_ := congrArg Int32.toInt (rd_w k2718 ef1832 rfl); have z9_ := congrArg Int32.toInt (rd_w k2718 ef1833 rfl); have z10_ := congrArg Int32.toInt (rd_w k2718 ef1834 rfl); have z_ := w_lits; have zl_ := l_lits; omega)⟩
                          · have b2770 : B f1829 25 60 := R_ltY (by decide : B 24 24 24) bf1829 (Int32.not_le.mp c2767) (by decide)
                            have z2771 := w_lt (Int32.not_le.mp c2767)
                            rw [show (24 : Int32).toInt = 24 from by decide] at z2771
                            refine ev_aload_n rfl rfl rfl ?_
                            refine ev_bipush (v := 6) rfl rfl (by decide) ?_
                            refine ev_iconst (v := 0) rfl rfl (by decide) ?_
                            have z2772 := congrArg Int32.toInt (rd_w k2718 z1824 rfl)
                            have z2773 := congrArg Int32.toInt (rd_w k2718 ef1825 rfl)
                            have z2774 := congrArg Int32.toInt ef2719
                            have z2775 := congrArg Int32.toInt (rd_w k2718 ef1827 rfl)
                            have z2776 := congrArg Int32.toInt (rd_w k2718 ef1828 rfl)
                            have z2777 := congrArg Int32.toInt (rd_w k2718 ef1829 rfl)
                            have z2778 := congrArg Int32.toInt (rd_w k2718 ef1830 rfl)
                            have z2779 := congrArg Int32.toInt (rd_w k2718 ef1831 rfl)
                            have z2780 := congrArg Int32.toInt (rd_w k2718 ef1832 rfl)
                            have z2781 := congrArg Int32.toInt (rd_w k2718 ef1833 rfl)
                            have z2782 := congrArg Int32.toInt (rd_w k2718 ef1834 rfl)
                            refine ev_V2K hJ2718 rfl rfl rfl lk_X10_200 vt_X10_fails rfl rfl rfl rfl rfl (w_X10_fails_63 L b h2718 hJ2718.1 6 ((by decide : B 6 6 6).mono (by decide) (by decide)) 0) (fun h2783 hJ2783 k2783 m2783 => ?_)
                            obtain ⟨f2784, ef2784⟩ : ∃ f_, h2783 63 21 = f_ := ⟨_, rfl⟩
                            have bf2784 : B f2784 0 6 := by have z_ := hJ2783.1 63 21; rw [ef2784] at z_; exact z_
                            have zf2784 := congrArg Int32.toInt ef2784
                            have z2785 := congrArg Int32.toInt (rd_w k2783 (rd_w k2718 z1824 rfl) rfl)
                            have z2786 := congrArg Int32.toInt (rd_w k2783 (rd_w k2718 ef1825 rfl) rfl)
                            have z2787 := congrArg Int32.toInt ef2784
                            have z2788 := congrArg Int32.toInt (rd_w k2783 (rd_w k2718 ef1827 rfl) rfl)
                            have z2789 := congrArg Int32.toInt (rd_w k2783 (rd_w k2718 ef1828 rfl) rfl)
                            have z2790 := congrArg Int32.toInt (rd_w k2783 (rd_w k2718 ef1829 rfl) rfl)
                            have z2791 := congrArg Int32.toInt (rd_w k2783 (rd_w k2718 ef1830 rfl) rfl)
                            have z2792 := congrArg Int32.toInt (rd_w k2783 (rd_w k2718 ef1831 rfl) rfl)
                            have z2793 := congrArg Int32.toInt (rd_w k2783 (rd_w k2718 ef1832 rfl) rfl)
                            have z2794 := congrArg Int32.toInt (rd_w k2783 (rd_w k2718 ef1833 rfl) rfl)
                            have z2795 := congrArg Int32.toInt (rd_w k2783 (rd_w k2718 ef1834 rfl) rfl)
                            exact ev_vret rfl rfl trivial ⟨rfl, rfl, hJ2783, (by have z0_ := congrArg Int32.toInt (rd_w k2783 (rd_w k2718 z1824 rfl) rfl); have z1_ := congrArg Int32.toInt (rd_w k2783 (rd_w k2718 ef1825 rfl) rfl); have z2_ := congrArg Int32.toInt ef2784; have z3_ := congrArg Int32.toInt (rd_w k2783 (rd_w k2718 ef1827 rfl) rfl); have z4_ := congrArg Int32.toInt (rd_w k2783 (rd_w k2718 ef1828 rfl) rfl); have z5_ := congrArg Int32.toInt (rd_w k2783 (rd_w k2718 ef1829 rfl) rfl); have z6_ := congrArg Int32.toInt (rd_w k2783 (rd_w k2718 ef1830 rfl) rfl); have z7_ := congrArg Int32.toInt (rd_w k2783 (rd_w k2718 ef1831 rfl) rfl); have z8_ := congrArg Int32.toInt (rd_w k2783 (rd_w k2718 ef1832 rfl) rfl); have z9_ := congrArg Int32.toInt (rd_w k2783 (rd_w k2718 ef1833 rfl) rfl); have z10_ := congrArg Int32.toInt (rd_w k2783 (rd_w k2718 ef1834 rfl) rfl); have z_ := w_lits; have zl_ := l_lits; omega)⟩
                  · have b2609 : B w1818 0 0 := R_eqX b1820 (by decide : B 0 0 0) c2606
                    have z2610 := congrArg Int32.toInt c2606
                    rw [show (0 : Int32).toInt = 0 from by decide] at z2610
                    refine ev_aload_n rfl rfl rfl ?_
                    have z2796 := congrArg Int32.toInt z1824
                    have z2797 := congrArg Int32.toInt ef1825
                    have z2798 := congrArg Int32.toInt ef1826
                    have z2799 := congrArg Int32.toInt ef1827
                    have z2800 := congrArg Int32.toInt ef1828
                    have z2801 := congrArg Int32.toInt ef1829
                    have z2802 := congrArg Int32.toInt ef1830
                    have z2803 := congrArg Int32.toInt ef1831
                    have z2804 := congrArg Int32.toInt ef1832
                    have z2805 := congrArg Int32.toInt ef1833
                    have z2806 := congrArg Int32.toInt ef1834
                    refine ev_V0K hJ1823 rfl rfl rfl lk_X10_254 vt_X10_closes rfl rfl rfl rfl rfl (w_X10_closes_63 L b h1822 hJ1823.1 (by have z0_ := congrArg Int32.toInt z1824; have z1_ := congrArg Int32.toInt ef1825; have z2_ := congrArg Int32.toInt ef1826; have z3_ := congrArg Int32.toInt ef1827; have z4_ := congrArg Int32.toInt ef1828; have z5_ := congrArg Int32.toInt ef1829; have z6_ := congrArg Int32.toInt ef1830; have z7_ := congrArg Int32.toInt ef1831; have z8_ := congrArg Int32.toInt ef1832; have z9_ := congrArg Int32.toInt ef1833; have z10_ := congrArg Int32.toInt ef1834; have z_ := w_lits; have zl_ := l_lits; omega) (by have z0_ := congrArg Int32.toInt z1824; have z1_ := congrArg Int32.toInt ef1825; have z2_ := congrArg Int32.toInt ef1826; have z3_ := congrArg Int32.toInt ef1827; have z4_ := congrArg Int32.toInt ef1828; have z5_ := congrArg Int32.toInt ef1829; have z6_ := congrArg Int32.toInt ef1830; have z7_ := congrArg Int32.toInt ef1831; have z8_ := congrArg Int32.toInt ef1832; have z9_ := congrArg Int32.toInt ef1833; have z10_ := congrArg Int32.toInt ef1834; have z_ := w_lits; have zl_ := l_lits; omega) (by have z0_ := congrArg Int32.toInt z1824; have z1_ := congrArg Int32.toInt ef1825; have z2_ := congrArg Int32.toInt ef1826; have z3_ := congrArg Int32.toInt ef1827; have z4_ := congrArg Int32.toInt ef1828; have z5_ := congrArg Int32.toInt ef1829; have z6_ := congrArg Int32.toInt ef1830; have z7_ := congrArg Int32.toInt ef1831; have z8_ := congrArg Int32.toInt ef1832; have z9_ := congrArg Int32.toInt ef1833; have z10_ := congrArg Int32.toInt ef1834; have z_ := w_lits; have zl_ := l_lits; omega) (by have z0_ := congrArg Int32.toInt z1824; have z1_ := congrArg Int32.toInt ef1825; have z2_ := congrArg Int32.toInt ef1826; have z3_ := congrArg Int32.toInt ef1827; have z4_ := congrArg Int32.toInt ef1828; have z5_ := congrArg Int32.toInt ef1829; have z6_ := congrArg Int32.toInt ef1830; have z7_ := congrArg Int32.toInt ef1831; have z8_ := congrArg Int32.toInt ef1832; have z9_ := congrArg Int32.toInt ef1833; have z10_ := congrArg Int32.toInt ef1834; have z_ := w_lits; have zl_ := l_lits; omega) (B.at ef1830 b2325)) (fun h2807 hJ2807 k2807 m2807 => ?_)
                    obtain ⟨m2807_0, m2807_1, m2807_2, m2807_3⟩ := m2807
                    obtain ⟨f2808, ef2808⟩ : ∃ f_, h2807 63 27 = f_ := ⟨_, rfl⟩
                    have bf2808 : B f2808 0 60 := by have z_ := hJ2807.1 63 27; rw [ef2808] at z_; exact z_
                    have zf2808 := congrArg Int32.toInt ef2808
                    obtain ⟨f2809, ef2809⟩ : ∃ f_, h2807 63 31 = f_ := ⟨_, rfl⟩
                    have bf2809 : B f2809 0 4 := by have z_ := hJ2807.1 63 31; rw [ef2809] at z_; exact z_
                    have zf2809 := congrArg Int32.toInt ef2809
                    have z2810 := congrArg Int32.toInt (rd_w k2807 z1824 rfl)
                    have z2811 := congrArg Int32.toInt (rd_w k2807 ef1825 rfl)
                    have z2812 := congrArg Int32.toInt (rd_w k2807 ef1826 rfl)
                    have z2813 := congrArg Int32.toInt (rd_w k2807 ef1827 rfl)
                    have z2814 := congrArg Int32.toInt (rd_w k2807 ef1828 rfl)
                    have z2815 := congrArg Int32.toInt ef2808
                    have z2816 := congrArg Int32.toInt ef2809
                    have z2817 := congrArg Int32.toInt (rd_w k2807 ef1831 rfl)
                    have z2818 := congrArg Int32.toInt (rd_w k2807 ef1832 rfl)
                    have z2819 := congrArg Int32.toInt (rd_w k2807 ef1833 rfl)
                    have z2820 := congrArg Int32.toInt (rd_w k2807 ef1834 rfl)
                    refine ev_aload_n rfl rfl rfl ?_
                    have z2821 := congrArg Int32.toInt (rd_w k2807 z1824 rfl)
                    have z2822 := congrArg Int32.toInt (rd_w k2807 ef1825 rfl)
                    have z2823 := congrArg Int32.toInt (rd_w k2807 ef1826 rfl)
                    have z2824 := congrArg Int32.toInt (rd_w k2807 ef1827 rfl)
                    have z2825 := congrArg Int32.toInt (rd_w k2807 ef1828 rfl)
                    have z2826 := congrArg Int32.toInt ef2808
                    have z2827 := congrArg Int32.toInt ef2809
                    have z2828 := congrArg Int32.toInt (rd_w k2807 ef1831 rfl)
                    have z2829 := congrArg Int32.toInt (rd_w k2807 ef1832 rfl)
                    have z2830 := congrArg Int32.toInt (rd_w k2807 ef1833 rfl)
                    have z2831 := congrArg Int32.toInt (rd_w k2807 ef1834 rfl)
                    refine ev_V0K hJ2807 rfl rfl rfl lk_X10_251 vt_X10_next rfl rfl rfl rfl rfl (w_X10_next_63 L b h2807 hJ2807.1 (by have z0_ := congrArg Int32.toInt (rd_w k2807 z1824 rfl); have z1_ := congrArg Int32.toInt (rd_w k2807 ef1825 rfl); have z2_ := congrArg Int32.toInt (rd_w k2807 ef1826 rfl); have z3_ := congrArg Int32.toInt (rd_w k2807 ef1827 rfl); have z4_ := congrArg Int32.toInt (rd_w k2807 ef1828 rfl); have z5_ := congrArg Int32.toInt ef2808; have z6_ := congrArg Int32.toInt ef2809; have z7_ := congrArg Int32.toInt (rd_w k2807 ef1831 rfl); have z8_ := congrArg Int32.toInt (rd_w k2807 ef1832 rfl); have z9_ := congrArg Int32.toInt (rd_w k2807 ef1833 rfl); have z10_ := congrArg Int32.toInt (rd_w k2807 ef1834 rfl); have z_ := w_lits; have zl_ := l_lits; omega)) (fun h2832 hJ2832 k2832 m2832 => ?_)
                    obtain ⟨m2832_0, m2832_1, m2832_2, m2832_3, m2832_4⟩ := m2832
                    obtain ⟨f2833, ef2833⟩ : ∃ f_, h2832 63 17 = f_ := ⟨_, rfl⟩
                    have bf2833 : B f2833 0 160 := by have z_ := hJ2832.1 63 17; rw [ef2833] at z_; exact z_
                    have zf2833 := congrArg Int32.toInt ef2833
                    obtain ⟨f2834, ef2834⟩ : ∃ f_, h2832 63 21 = f_ := ⟨_, rfl⟩
                    have bf2834 : B f2834 0 6 := by have z_ := hJ2832.1 63 21; rw [ef2834] at z_; exact z_
                    have zf2834 := congrArg Int32.toInt ef2834
                    obtain ⟨f2835, ef2835⟩ : ∃ f_, h2832 63 20 = f_ := ⟨_, rfl⟩
                    have bf2835 : B f2835 (-2147483648) 2147483647 := by have z_ := hJ2832.1 63 20; rw [ef2835] at z_; exact z_
                    have zf2835 := congrArg Int32.toInt ef2835
                    obtain ⟨f2836, ef2836⟩ : ∃ f_, h2832 63 19 = f_ := ⟨_, rfl⟩
                    have bf2836 : B f2836 0 3 := by have z_ := hJ2832.1 63 19; rw [ef2836] at z_; exact z_
                    have zf2836 := congrArg Int32.toInt ef2836
                    have z2837 := congrArg Int32.toInt (rd_w k2832 (rd_w k2807 z1824 rfl) rfl)
                    have z2838 := congrArg Int32.toInt ef2833
                    have z2839 := congrArg Int32.toInt ef2834
                    have z2840 := congrArg Int32.toInt ef2835
                    have z2841 := congrArg Int32.toInt ef2836
                    have z2842 := congrArg Int32.toInt (rd_w k2832 ef2808 rfl)
                    have z2843 := congrArg Int32.toInt (rd_w k2832 ef2809 rfl)
                    have z2844 := congrArg Int32.toInt (rd_w k2832 (rd_w k2807 ef1831 rfl) rfl)
                    have z2845 := congrArg Int32.toInt (rd_w k2832 (rd_w k2807 ef1832 rfl) rfl)
                    have z2846 := congrArg Int32.toInt (rd_w k2832 (rd_w k2807 ef1833 rfl) rfl)
                    have z2847 := congrArg Int32.toInt (rd_w k2832 (rd_w k2807 ef1834 rfl) rfl)
                    refine ev_goto rfl rfl ?_
                    exact (ih19 w1818 w1819 h2832 (b2609.mono (by decide) (by decide)) b1821 hJ2832 (rd_w k2832 (rd_w k2807 z1824 rfl) rfl) (by have z0_ := congrArg Int32.toInt (rd_w k2832 (rd_w k2807 z1824 rfl) rfl); have z1_ := congrArg Int32.toInt ef2833; have z2_ := congrArg Int32.toInt ef2834; have z3_ := congrArg Int32.toInt ef2835; have z4_ := congrArg Int32.toInt ef2836; have z5_ := congrArg Int32.toInt (rd_w k2832 ef2808 rfl); have z6_ := congrArg Int32.toInt (rd_w k2832 ef2809 rfl); have z7_ := congrArg Int32.toInt (rd_w k2832 (rd_w k2807 ef1831 rfl) rfl); have z8_ := congrArg Int32.toInt (rd_w k2832 (rd_w k2807 ef1832 rfl) rfl); have z9_ := congrArg Int32.toInt (rd_w k2832 (rd_w k2807 ef1833 rfl) rfl); have z10_ := congrArg Int32.toInt (rd_w k2832 (rd_w k2807 ef1834 rfl) rfl); have z_ := w_lits; have zl_ := l_lits; omega) (by have z0_ := congrArg Int32.toInt (rd_w k2832 (rd_w k2807 z1824 rfl) rfl); have z1_ := congrArg Int32.toInt ef2833; have z2_ := congrArg Int32.toInt ef2834; have z3_ := congrArg Int32.toInt ef2835; have z4_ := congrArg Int32.toInt ef2836; have z5_ := congrArg Int32.toInt (rd_w k2832 ef2808 rfl); have z6_ := congrArg Int32.toInt (rd_w k2832 ef2809 rfl); have z7_ := congrArg Int32.toInt (rd_w k2832 (rd_w k2807 ef1831 rfl) rfl); have z8_ := congrArg Int32.toInt (rd_w k2832 (rd_w k2807 ef1832 rfl) rfl); have z9_ := congrArg Int32.toInt (rd_w k2832 (rd_w k2807 ef1833 rfl) rfl); have z10_ := congrArg Int32.toInt (rd_w k2832 (rd_w k2807 ef1834 rfl) rfl); have z_ := w_lits; have zl_ := l_lits; omega) (by have z0_ := congrArg Int32.toInt (rd_w k2832 (rd_w k2807 z1824 rfl) rfl); have z1_ := congrArg Int32.toInt ef2833; have z2_ := congrArg Int32.toInt ef2834; have z3_ := congrArg Int32.toInt ef2835; have z4_ := congrArg Int32.toInt ef2836; have z5_ := congrArg Int32.toInt (rd_w k2832 ef2808 rfl); have z6_ := congrArg Int32.toInt (rd_w k2832 ef2809 rfl); have z7_ := congrArg Int32.toInt (rd_w k2832 (rd_w k2807 ef1831 rfl) rfl); have z8_ := congrArg Int32.toInt (rd_w k2832 (rd_w k2807 ef1832 rfl) rfl); have z9_ := congrArg Int32.toInt (rd_w k2832 (rd_w k2807 ef1833 rfl) rfl); have z10_ := congrArg Int32.toInt (rd_w k2832 (rd_w k2807 ef1834 rfl) rfl); have z_ := w_lits; have zl_ := l_lits; omega) (by have z0_ := congrArg Int32.toInt (rd_w k2832 (rd_w k2807 z1824 rfl) rfl); have z1_ := congrArg Int32.toInt ef2833; have z2_ := congrArg Int32.toInt ef2834; have z3_ := congrArg Int32.toInt ef2835; have z4_ := congrArg Int32.toInt ef2836; have z5_ := congrArg Int32.toInt (rd_w k2832 ef2808 rfl); have z6_ := congrArg Int32.toInt (rd_w k2832 ef2809 rfl); have z7_ := congrArg Int32.toInt (rd_w k2832 (rd_w k2807 ef1831 rfl) rfl); have z8_ := congrArg Int32.toInt (rd_w k2832 (rd_w k2807 ef1832 rfl) rfl); have z9_ := congrArg Int32.toInt (rd_w k2832 (rd_w k2807 ef1833 rfl) rfl); have z10_ := congrArg Int32.toInt (rd_w k2832 (rd_w k2807 ef1834 rfl) rfl); have z_ := w_lits; have zl_ := l_lits; omega) (by have z0_ := congrArg Int32.toInt (rd_w k2832 (rd_w k2807 z1824 rfl) rfl); have z1_ := congrArg Int32.toInt ef2833; have z2_ := congrArg Int32.toInt ef2834; have z3_ := congrArg Int32.toInt ef2835; have z4_ := congrArg Int32.toInt ef2836; have z5_ := congrArg Int32.toInt (rd_w k2832 ef2808 rfl); have z6_ := congrArg Int32.toInt (rd_w k2832 ef2809 rfl); have z7_ := congrArg Int32.toInt (rd_w k2832 (rd_w k2807 ef1831 rfl) rfl); have z8_ := congrArg Int32.toInt (rd_w k2832 (rd_w k2807 ef1832 rfl) rfl); have z9_ := congrArg Int32.toInt (rd_w k2832 (rd_w k2807 ef1833 rfl) rfl); have z10_ := congrArg Int32.toInt (rd_w k2832 (rd_w k2807 ef1834 rfl) rfl); have z_ := w_lits; have zl_ := l_lits; omega) (by have z0_ := congrArg Int32.toInt (rd_w k2832 (rd_w k2807 z1824 rfl) rfl); have z1_ := congrArg Int32.toInt ef2833; have z2_ := congrArg Int32.toInt ef2834; have z3_ := congrArg Int32.toInt ef2835; have z4_ := congrArg Int32.toInt ef2836; have z5_ := congrArg Int32.toInt (rd_w k2832 ef2808 rfl); have z6_ := congrArg Int32.toInt (rd_w k2832 ef2809 rfl); have z7_ := congrArg Int32.toInt (rd_w k2832 (rd_w k2807 ef1831 rfl) rfl); have z8_ := congrArg Int32.toInt (rd_w k2832 (rd_w k2807 ef1832 rfl) rfl); have z9_ := congrArg Int32.toInt (rd_w k2832 (rd_w k2807 ef1833 rfl) rfl); have z10_ := congrArg Int32.toInt (rd_w k2832 (rd_w k2807 ef1834 rfl) rfl); have z_ := w_lits; have zl_ := l_lits; omega) (mM_dec hm19 (by have z0_ := congrArg Int32.toInt (rd_w k2832 (rd_w k2807 z1824 rfl) rfl); have z1_ := congrArg Int32.toInt ef2833; have z2_ := congrArg Int32.toInt ef2834; have z3_ := congrArg Int32.toInt ef2835; have z4_ := congrArg Int32.toInt ef2836; have z5_ := congrArg Int32.toInt (rd_w k2832 ef2808 rfl); have z6_ := congrArg Int32.toInt (rd_w k2832 ef2809 rfl); have z7_ := congrArg Int32.toInt (rd_w k2832 (rd_w k2807 ef1831 rfl) rfl); have z8_ := congrArg Int32.toInt (rd_w k2832 (rd_w k2807 ef1832 rfl) rfl); have z9_ := congrArg Int32.toInt (rd_w k2832 (rd_w k2807 ef1833 rfl) rfl); have z10_ := congrArg Int32.toInt (rd_w k2832 (rd_w k2807 ef1834 rfl) rfl); have z_ := w_lits; have zl_ := l_lits; omega) (by have z0_ := congrArg Int32.toInt (rd_w k2832 (rd_w k2807 z1824 rfl) rfl); have z1_ := congrArg Int32.toInt ef2833; have z2_ := congrArg Int32.toInt ef2834; have z3_ := congrArg Int32.toInt ef2835; have z4_ := congrArg Int32.toInt ef2836; have z5_ := congrArg Int32.toInt (rd_w k2832 ef2808 rfl); have z6_ := congrArg Int32.toInt (rd_w k2832 ef2809 rfl); have z7_ := congrArg Int32.toInt (rd_w k2832 (rd_w k2807 ef1831 rfl) rfl); have z8_ := congrArg Int32.toInt (rd_w k2832 (rd_w k2807 ef1832 rfl) rfl); have z9_ := congrArg Int32.toInt (rd_w k2832 (rd_w k2807 ef1833 rfl) rfl); have z10_ := congrArg Int32.toInt (rd_w k2832 (rd_w k2807 ef1834 rfl) rfl); have z_ := w_lits; have zl_ := l_lits; omega) (by have z0_ := congrArg Int32.toInt (rd_w k2832 (rd_w k2807 z1824 rfl) rfl); have z1_ := congrArg Int32.toInt ef2833; have z2_ := congrArg Int32.toInt ef2834; have z3_ := congrArg Int32.toInt ef2835; have z4_ := congrArg Int32.toInt ef2836; have z5_ := congrArg Int32.toInt (rd_w k2832 ef2808 rfl); have z6_ := congrArg Int32.toInt (rd_w k2832 ef2809 rfl); have z7_ := congrArg Int32.toInt (rd_w k2832 (rd_w k2807 ef1831 rfl) rfl); have z8_ := congrArg Int32.toInt (rd_w k2832 (rd_w k2807 ef1832 rfl) rfl); have z9_ := congrArg Int32.toInt (rd_w k2832 (rd_w k2807 ef1833 rfl) rfl); have z10_ := congrArg Int32.toInt (rd_w k2832 (rd_w k2807 ef1834 rfl) rfl); have z_ := w_lits; have zl_ := l_lits; omega)))
            · have b1932 : B f1828 2 2 := R_eqX bf1828 (by decide : B 2 2 2) c1930
              have z1933 := congrArg Int32.toInt c1930
              rw [show (2 : Int32).toInt = 2 from by decide] at z1933
              refine ev_aload_n rfl rfl rfl ?_
              refine ev_aload_n rfl rfl rfl ?_
              refine ev_getV (v := f1827) rfl rfl fl_X10_207 rfl rfl rfl ef1827 ?_
              refine ev_i2l rfl rfl ?_
              have z2848 := Int32.toInt_toInt64 f1827
              have z2848b := B.any f1827
              refine ev_lconst (v := 1) rfl rfl rfl ?_
              refine ev_ldc2 (v := 20) rfl rfl kc_X10_167 ?_
              have z2849 := congrArg Int32.toInt z1824
              have z2850 := congrArg Int32.toInt ef1825
              have z2851 := congrArg Int32.toInt ef1826
              have z2852 := congrArg Int32.toInt ef1827
              have z2853 := congrArg Int32.toInt ef1828
              have z2854 := congrArg Int32.toInt ef1829
              have z2855 := congrArg Int32.toInt ef1830
              have z2856 := congrArg Int32.toInt ef1831
              have z2857 := congrArg Int32.toInt ef1832
              have z2858 := congrArg Int32.toInt ef1833
              have z2859 := congrArg Int32.toInt ef1834
              refine ev_S3P rfl rfl lk_X10_124 st_X10_in rfl rfl (w_inR (G0 L b) h1822 f1827 1 20 (by decide : BL 1 1 1) (by decide : BL 20 20 20)) (fun r2860 q2860 => ?_)
              obtain ⟨b2860, p2860_0, pp2860_0, pp2860_1⟩ := q2860
              refine ev_iconst (v := 3) rfl rfl (by decide) ?_
              have z2861 := congrArg Int32.toInt z1824
              have z2862 := congrArg Int32.toInt ef1825
              have z2863 := congrArg Int32.toInt ef1826
              have z2864 := congrArg Int32.toInt ef1827
              have z2865 := congrArg Int32.toInt ef1828
              have z2866 := congrArg Int32.toInt ef1829
              have z2867 := congrArg Int32.toInt ef1830
              have z2868 := congrArg Int32.toInt ef1831
              have z2869 := congrArg Int32.toInt ef1832
              have z2870 := congrArg Int32.toInt ef1833
              have z2871 := congrArg Int32.toInt ef1834
              refine ev_V2K hJ1823 rfl rfl rfl lk_X10_230 vt_X10_wants rfl rfl rfl rfl rfl (w_X10_wants_63 L b h1822 hJ1823.1 r2860 b2860 3 ((by decide : B 3 3 3).mono (by decide) (by decide))) (fun h2872 hJ2872 k2872 m2872 => ?_)
              obtain ⟨f2873, ef2873⟩ : ∃ f_, h2872 63 21 = f_ := ⟨_, rfl⟩
              have bf2873 : B f2873 0 6 := by have z_ := hJ2872.1 63 21; rw [ef2873] at z_; exact z_
              have zf2873 := congrArg Int32.toInt ef2873
              have z2874 := congrArg Int32.toInt (rd_w k2872 z1824 rfl)
              have z2875 := congrArg Int32.toInt (rd_w k2872 ef1825 rfl)
              have z2876 := congrArg Int32.toInt ef2873
              have z2877 := congrArg Int32.toInt (rd_w k2872 ef1827 rfl)
              have z2878 := congrArg Int32.toInt (rd_w k2872 ef1828 rfl)
              have z2879 := congrArg Int32.toInt (rd_w k2872 ef1829 rfl)
              have z2880 := congrArg Int32.toInt (rd_w k2872 ef1830 rfl)
              have z2881 := congrArg Int32.toInt (rd_w k2872 ef1831 rfl)
              have z2882 := congrArg Int32.toInt (rd_w k2872 ef1832 rfl)
              have z2883 := congrArg Int32.toInt (rd_w k2872 ef1833 rfl)
              have z2884 := congrArg Int32.toInt (rd_w k2872 ef1834 rfl)
              refine ev_aload_n rfl rfl rfl ?_
              refine ev_getV (v := f1827) rfl rfl fl_X10_207 rfl rfl rfl (rd_w k2872 ef1827 rfl) ?_
              refine ev_istore_n rfl rfl rfl rfl ?_
              dsimp only [List.set]
              refine ev_aload_n rfl rfl rfl ?_
              have z2885 := congrArg Int32.toInt (rd_w k2872 z1824 rfl)
              have z2886 := congrArg Int32.toInt (rd_w k2872 ef1825 rfl)
              have z2887 := congrArg Int32.toInt ef2873
              have z2888 := congrArg Int32.toInt (rd_w k2872 ef1827 rfl)
              have z2889 := congrArg Int32.toInt (rd_w k2872 ef1828 rfl)
              have z2890 := congrArg Int32.toInt (rd_w k2872 ef1829 rfl)
              have z2891 := congrArg Int32.toInt (rd_w k2872 ef1830 rfl)
              have z2892 := congrArg Int32.toInt (rd_w k2872 ef1831 rfl)
              have z2893 := congrArg Int32.toInt (rd_w k2872 ef1832 rfl)
              have z2894 := congrArg Int32.toInt (rd_w k2872 ef1833 rfl)
              have z2895 := congrArg Int32.toInt (rd_w k2872 ef1834 rfl)
              refine ev_V0K hJ2872 rfl rfl rfl lk_X10_251 vt_X10_next rfl rfl rfl rfl rfl (w_X10_next_63 L b h2872 hJ2872.1 (by have z0_ := congrArg Int32.toInt (rd_w k2872 z1824 rfl); have z1_ := congrArg Int32.toInt (rd_w k2872 ef1825 rfl); have z2_ := congrArg Int32.toInt ef2873; have z3_ := congrArg Int32.toInt (rd_w k2872 ef1827 rfl); have z4_ := congrArg Int32.toInt (rd_w k2872 ef1828 rfl); have z5_ := congrArg Int32.toInt (rd_w k2872 ef1829 rfl); have z6_ := congrArg Int32.toInt (rd_w k2872 ef1830 rfl); have z7_ := congrArg Int32.toInt (rd_w k2872 ef1831 rfl); have z8_ := congrArg Int32.toInt (rd_w k2872 ef1832 rfl); have z9_ := congrArg Int32.toInt (rd_w k2872 ef1833 rfl); have z10_ := congrArg Int32.toInt (rd_w k2872 ef1834 rfl); have z_ := w_lits; have zl_ := l_lits; omega)) (fun h2896 hJ2896 k2896 m2896 => ?_)
              obtain ⟨m2896_0, m2896_1, m2896_2, m2896_3, m2896_4⟩ := m2896
              obtain ⟨f2897, ef2897⟩ : ∃ f_, h2896 63 17 = f_ := ⟨_, rfl⟩
              have bf2897 : B f2897 0 160 := by have z_ := hJ2896.1 63 17; rw [ef2897] at z_; exact z_
              have zf2897 := congrArg Int32.toInt ef2897
              obtain ⟨f2898, ef2898⟩ : ∃ f_, h2896 63 21 = f_ := ⟨_, rfl⟩
              have bf2898 : B f2898 0 6 := by have z_ := hJ2896.1 63 21; rw [ef2898] at z_; exact z_
              have zf2898 := congrArg Int32.toInt ef2898
              obtain ⟨f2899, ef2899⟩ : ∃ f_, h2896 63 20 = f_ := ⟨_, rfl⟩
              have bf2899 : B f2899 (-2147483648) 2147483647 := by have z_ := hJ2896.1 63 20; rw [ef2899] at z_; exact z_
              have zf2899 := congrArg Int32.toInt ef2899
              obtain ⟨f2900, ef2900⟩ : ∃ f_, h2896 63 19 = f_ := ⟨_, rfl⟩
              have bf2900 : B f2900 0 3 := by have z_ := hJ2896.1 63 19; rw [ef2900] at z_; exact z_
              have zf2900 := congrArg Int32.toInt ef2900
              have z2901 := congrArg Int32.toInt (rd_w k2896 (rd_w k2872 z1824 rfl) rfl)
              have z2902 := congrArg Int32.toInt ef2897
              have z2903 := congrArg Int32.toInt ef2898
              have z2904 := congrArg Int32.toInt ef2899
              have z2905 := congrArg Int32.toInt ef2900
              have z2906 := congrArg Int32.toInt (rd_w k2896 (rd_w k2872 ef1829 rfl) rfl)
              have z2907 := congrArg Int32.toInt (rd_w k2896 (rd_w k2872 ef1830 rfl) rfl)
              have z2908 := congrArg Int32.toInt (rd_w k2896 (rd_w k2872 ef1831 rfl) rfl)
              have z2909 := congrArg Int32.toInt (rd_w k2896 (rd_w k2872 ef1832 rfl) rfl)
              have z2910 := congrArg Int32.toInt (rd_w k2896 (rd_w k2872 ef1833 rfl) rfl)
              have z2911 := congrArg Int32.toInt (rd_w k2896 (rd_w k2872 ef1834 rfl) rfl)
              refine ev_aload_n rfl rfl rfl ?_
              refine ev_aload_n rfl rfl rfl ?_
              refine ev_bipush (v := 40) rfl rfl (by decide) ?_
              have z2912 := congrArg Int32.toInt (rd_w k2896 (rd_w k2872 z1824 rfl) rfl)
              have z2913 := congrArg Int32.toInt ef2897
              have z2914 := congrArg Int32.toInt ef2898
              have z2915 := congrArg Int32.toInt ef2899
              have z2916 := congrArg Int32.toInt ef2900
              have z2917 := congrArg Int32.toInt (rd_w k2896 (rd_w k2872 ef1829 rfl) rfl)
              have z2918 := congrArg Int32.toInt (rd_w k2896 (rd_w k2872 ef1830 rfl) rfl)
              have z2919 := congrArg Int32.toInt (rd_w k2896 (rd_w k2872 ef1831 rfl) rfl)
              have z2920 := congrArg Int32.toInt (rd_w k2896 (rd_w k2872 ef1832 rfl) rfl)
              have z2921 := congrArg Int32.toInt (rd_w k2896 (rd_w k2872 ef1833 rfl) rfl)
              have z2922 := congrArg Int32.toInt (rd_w k2896 (rd_w k2872 ef1834 rfl) rfl)
              refine ev_V1P rfl rfl lk_X10_244 vt_X10_isSign rfl rfl rfl rfl rfl (w_X10_isSign_63 L b h2896 hJ2896.1 40) (fun r2923 q2923 => ?_)
              obtain ⟨b2923, pp2923_0⟩ := q2923
              refine ev_iconst (v := 2) rfl rfl (by decide) ?_
              have z2924 := congrArg Int32.toInt (rd_w k2896 (rd_w k2872 z1824 rfl) rfl)
              have z2925 := congrArg Int32.toInt ef2897
              have z2926 := congrArg Int32.toInt ef2898
              have z2927 := congrArg Int32.toInt ef2899
              have z2928 := congrArg Int32.toInt ef2900
              have z2929 := congrArg Int32.toInt (rd_w k2896 (rd_w k2872 ef1829 rfl) rfl)
              have z2930 := congrArg Int32.toInt (rd_w k2896 (rd_w k2872 ef1830 rfl) rfl)
              have z2931 := congrArg Int32.toInt (rd_w k2896 (rd_w k2872 ef1831 rfl) rfl)
              have z2932 := congrArg Int32.toInt (rd_w k2896 (rd_w k2872 ef1832 rfl) rfl)
              have z2933 := congrArg Int32.toInt (rd_w k2896 (rd_w k2872 ef1833 rfl) rfl)
              have z2934 := congrArg Int32.toInt (rd_w k2896 (rd_w k2872 ef1834 rfl) rfl)
              refine ev_V2K hJ2896 rfl rfl rfl lk_X10_230 vt_X10_wants rfl rfl rfl rfl rfl (w_X10_wants_63 L b h2896 hJ2896.1 r2923 b2923 2 ((by decide : B 2 2 2).mono (by decide) (by decide))) (fun h2935 hJ2935 k2935 m2935 => ?_)
              obtain ⟨f2936, ef2936⟩ : ∃ f_, h2935 63 21 = f_ := ⟨_, rfl⟩
              have bf2936 : B f2936 0 6 := by have z_ := hJ2935.1 63 21; rw [ef2936] at z_; exact z_
              have zf2936 := congrArg Int32.toInt ef2936
              have z2937 := congrArg Int32.toInt (rd_w k2935 (rd_w k2896 (rd_w k2872 z1824 rfl) rfl) rfl)
              have z2938 := congrArg Int32.toInt (rd_w k2935 ef2897 rfl)
              have z2939 := congrArg Int32.toInt ef2936
              have z2940 := congrArg Int32.toInt (rd_w k2935 ef2899 rfl)
              have z2941 := congrArg Int32.toInt (rd_w k2935 ef2900 rfl)
              have z2942 := congrArg Int32.toInt (rd_w k2935 (rd_w k2896 (rd_w k2872 ef1829 rfl) rfl) rfl)
              have z2943 := congrArg Int32.toInt (rd_w k2935 (rd_w k2896 (rd_w k2872 ef1830 rfl) rfl) rfl)
              have z2944 := congrArg Int32.toInt (rd_w k2935 (rd_w k2896 (rd_w k2872 ef1831 rfl) rfl) rfl)
              have z2945 := congrArg Int32.toInt (rd_w k2935 (rd_w k2896 (rd_w k2872 ef1832 rfl) rfl) rfl)
              have z2946 := congrArg Int32.toInt (rd_w k2935 (rd_w k2896 (rd_w k2872 ef1833 rfl) rfl) rfl)
              have z2947 := congrArg Int32.toInt (rd_w k2935 (rd_w k2896 (rd_w k2872 ef1834 rfl) rfl) rfl)
              refine ev_aload_n rfl rfl rfl ?_
              refine ev_aload_n rfl rfl rfl ?_
              refine ev_getV (v := f1830) rfl rfl fl_X10_241 rfl rfl rfl (rd_w k2935 (rd_w k2896 (rd_w k2872 ef1830 rfl) rfl) rfl) ?_
              refine ev_iconst (v := 4) rfl rfl (by decide) ?_
              refine ev_icmp_ge rfl rfl (fun c2948 => ?_) (fun c2948 => ?_)
              · have b2949 : B f1830 4 4 := R_leY (by decide : B 4 4 4) bf1830 c2948 (by decide)
                have z2950 := w_le c2948
                rw [show (4 : Int32).toInt = 4 from by decide] at z2950
                refine ev_iconst (v := 0) rfl rfl (by decide) ?_
                refine ev_iconst (v := 5) rfl rfl (by decide) ?_
                have z2953 := congrArg Int32.toInt (rd_w k2935 (rd_w k2896 (rd_w k2872 z1824 rfl) rfl) rfl)
                have z2954 := congrArg Int32.toInt (rd_w k2935 ef2897 rfl)
                have z2955 := congrArg Int32.toInt ef2936
                have z2956 := congrArg Int32.toInt (rd_w k2935 ef2899 rfl)
                have z2957 := congrArg Int32.toInt (rd_w k2935 ef2900 rfl)
                have z2958 := congrArg Int32.toInt (rd_w k2935 (rd_w k2896 (rd_w k2872 ef1829 rfl) rfl) rfl)
                have z2959 := congrArg Int32.toInt (rd_w k2935 (rd_w k2896 (rd_w k2872 ef1830 rfl) rfl) rfl)
                have z2960 := congrArg Int32.toInt (rd_w k2935 (rd_w k2896 (rd_w k2872 ef1831 rfl) rfl) rfl)
                have z2961 := congrArg Int32.toInt (rd_w k2935 (rd_w k2896 (rd_w k2872 ef1832 rfl) rfl) rfl)
                have z2962 := congrArg Int32.toInt (rd_w k2935 (rd_w k2896 (rd_w k2872 ef1833 rfl) rfl) rfl)
                have z2963 := congrArg Int32.toInt (rd_w k2935 (rd_w k2896 (rd_w k2872 ef1834 rfl) rfl) rfl)
                refine ev_V2K hJ2935 rfl rfl rfl lk_X10_230 vt_X10_wants rfl rfl rfl rfl rfl (w_X10_wants_63 L b h2935 hJ2935.1 0 ((by decide : B 0 0 0).mono (by decide) (by decide)) 5 ((by decide : B 5 5 5).mono (by decide) (by decide))) (fun h2964 hJ2964 k2964 m2964 => ?_)
                obtain ⟨f2965, ef2965⟩ : ∃ f_, h2964 63 21 = f_ := ⟨_, rfl⟩
                have bf2965 : B f2965 0 6 := by have z_ := hJ2964.1 63 21; rw [ef2965] at z_; exact z_
                have zf2965 := congrArg Int32.toInt ef2965
                have z2966 := congrArg Int32.toInt (rd_w k2964 (rd_w k2935 (rd_w k2896 (rd_w k2872 z1824 rfl) rfl) rfl) rfl)
                have z2967 := congrArg Int32.toInt (rd_w k2964 (rd_w k2935 ef2897 rfl) rfl)
                have z2968 := congrArg Int32.toInt ef2965
                have z2969 := congrArg Int32.toInt (rd_w k2964 (rd_w k2935 ef2899 rfl) rfl)
                have z2970 := congrArg Int32.toInt (rd_w k2964 (rd_w k2935 ef2900 rfl) rfl)
                have z2971 := congrArg Int32.toInt (rd_w k2964 (rd_w k2935 (rd_w k2896 (rd_w k2872 ef1829 rfl) rfl) rfl) rfl)
                have z2972 := congrArg Int32.toInt (rd_w k2964 (rd_w k2935 (rd_w k2896 (rd_w k2872 ef1830 rfl) rfl) rfl) rfl)
                have z2973 := congrArg Int32.toInt (rd_w k2964 (rd_w k2935 (rd_w k2896 (rd_w k2872 ef1831 rfl) rfl) rfl) rfl)
                have z2974 := congrArg Int32.toInt (rd_w k2964 (rd_w k2935 (rd_w k2896 (rd_w k2872 ef1832 rfl) rfl) rfl) rfl)
                have z2975 := congrArg Int32.toInt (rd_w k2964 (rd_w k2935 (rd_w k2896 (rd_w k2872 ef1833 rfl) rfl) rfl) rfl)
                have z2976 := congrArg Int32.toInt (rd_w k2964 (rd_w k2935 (rd_w k2896 (rd_w k2872 ef1834 rfl) rfl) rfl) rfl)
                refine ev_aload_n rfl rfl rfl ?_
                refine ev_getV (v := f2965) rfl rfl fl_X10_191 rfl rfl rfl ef2965 ?_
                refine ev_if_ne rfl rfl (fun c2977 => ?_) (fun c2977 => ?_)
                · have b2978 : B f2965 1 6 := R_neL bf2965 (by decide : B 0 0 0) c2977 (by decide)
                  have z2979 := w_ne c2977
                  rw [show (0 : Int32).toInt = 0 from by decide] at z2979
                  refine ev_aload_n rfl rfl rfl ?_
                  have z2982 := congrArg Int32.toInt (rd_w k2964 (rd_w k2935 (rd_w k2896 (rd_w k2872 z1824 rfl) rfl) rfl) rfl)
                  have z2983 := congrArg Int32.toInt (rd_w k2964 (rd_w k2935 ef2897 rfl) rfl)
                  have z2984 := congrArg Int32.toInt ef2965
                  have z2985 := congrArg Int32.toInt (rd_w k2964 (rd_w k2935 ef2899 rfl) rfl)
                  have z2986 := congrArg Int32.toInt (rd_w k2964 (rd_w k2935 ef2900 rfl) rfl)
                  have z2987 := congrArg Int32.toInt (rd_w k2964 (rd_w k2935 (rd_w k2896 (rd_w k2872 ef1829 rfl) rfl) rfl) rfl)
                  have z2988 := congrArg Int32.toInt (rd_w k2964 (rd_w k2935 (rd_w k2896 (rd_w k2872 ef1830 rfl) rfl) rfl) rfl)
                  have z2989 := congrArg Int32.toInt (rd_w k2964 (rd_w k2935 (rd_w k2896 (rd_w k2872 ef1831 rfl) rfl) rfl) rfl)
                  have z2990 := congrArg Int32.toInt (rd_w k2964 (rd_w k2935 (rd_w k2896 (rd_w k2872 ef1832 rfl) rfl) rfl) rfl)
                  have z2991 := congrArg Int32.toInt (rd_w k2964 (rd_w k2935 (rd_w k2896 (rd_w k2872 ef1833 rfl) rfl) rfl) rfl)
                  have z2992 := congrArg Int32.toInt (rd_w k2964 (rd_w k2935 (rd_w k2896 (rd_w k2872 ef1834 rfl) rfl) rfl) rfl)
                  refine ev_V0K hJ2964 rfl rfl rfl lk_X10_251 vt_X10_next rfl rfl rfl rfl rfl (w_X10_next_63 L b h2964 hJ2964.1 (by have z0_ := congrArg Int32.toInt (rd_w k2964 (rd_w k2935 (rd_w k2896 (rd_w k2872 z1824 rfl) rfl) rfl) rfl); have z1_ := congrArg Int32.toInt (rd_w k2964 (rd_w k2935 ef2897 rfl) rfl); have z2_ := congrArg Int32.toInt ef2965; have z3_ := congrArg Int32.toInt (rd_w k2964 (rd_w k2935 ef2899 rfl) rfl); have z4_ := congrArg Int32.toInt (rd_w k2964 (rd_w k2935 ef2900 rfl) rfl); have z5_ := congrArg Int32.toInt (rd_w k2964 (rd_w k2935 (rd_w k2896 (rd_w k2872 ef1829 rfl) rfl) rfl) rfl); have z6_ := congrArg Int32.toInt (rd_w k2964 (rd_w k2935 (rd_w k2896 (rd_w k2872 ef1830 rfl) rfl) rfl) rfl); have z7_ := congrArg Int32.toInt (rd_w k2964 (rd_w k2935 (rd_w k2896 (rd_w k2872 ef1831 rfl) rfl) rfl) rfl); have z8_ := congrArg Int32.toInt (rd_w k2964 (rd_w k2935 (rd_w k2896 (rd_w k2872 ef1832 rfl) rfl) rfl) rfl); have z9_ := congrArg Int32.toInt (rd_w k2964 (rd_w k2935 (rd_w k2896 (rd_w k2872 ef1833 rfl) rfl) rfl) rfl); have z10_ := congrArg Int32.toInt (rd_w k2964 (rd_w k2935 (rd_w k2896 (rd_w k2872 ef1834 rfl) rfl) rfl) rfl); have z_ := w_lits; have zl_ := l_lits; omega)) (fun h2993 hJ2993 k2993 m2993 => ?_)
                  obtain ⟨m2993_0, m2993_1, m2993_2, m2993_3, m2993_4⟩ := m2993
                  obtain ⟨f2994, ef2994⟩ : ∃ f_, h2993 63 17 = f_ := ⟨_, rfl⟩
                  have bf2994 : B f2994 0 160 := by have z_ := hJ2993.1 63 17; rw [ef2994] at z_; exact z_
                  have zf2994 := congrArg Int32.toInt ef2994
                  obtain ⟨f2995, ef2995⟩ : ∃ f_, h2993 63 21 = f_ := ⟨_, rfl⟩
                  have bf2995 : B f2995 0 6 := by have z_ := hJ2993.1 63 21; rw [ef2995] at z_; exact z_
                  have zf2995 := congrArg Int32.toInt ef2995
                  obtain ⟨f2996, ef2996⟩ : ∃ f_, h2993 63 20 = f_ := ⟨_, rfl⟩
                  have bf2996 : B f2996 (-2147483648) 2147483647 := by have z_ := hJ2993.1 63 20; rw [ef2996] at z_; exact z_
                  have zf2996 := congrArg Int32.toInt ef2996
                  obtain ⟨f2997, ef2997⟩ : ∃ f_, h2993 63 19 = f_ := ⟨_, rfl⟩
                  have bf2997 : B f2997 0 3 := by have z_ := hJ2993.1 63 19; rw [ef2997] at z_; exact z_
                  have zf2997 := congrArg Int32.toInt ef2997
                  have z2998 := congrArg Int32.toInt (rd_w k2993 (rd_w k2964 (rd_w k2935 (rd_w k2896 (rd_w k2872 z1824 rfl) rfl) rfl) rfl) rfl)
                  have z2999 := congrArg Int32.toInt ef2994
                  have z3000 := congrArg Int32.toInt ef2995
                  have z3001 := congrArg Int32.toInt ef2996
                  have z3002 := congrArg Int32.toInt ef2997
                  have z3003 := congrArg Int32.toInt (rd_w k2993 (rd_w k2964 (rd_w k2935 (rd_w k2896 (rd_w k2872 ef1829 rfl) rfl) rfl) rfl) rfl)
                  have z3004 := congrArg Int32.toInt (rd_w k2993 (rd_w k2964 (rd_w k2935 (rd_w k2896 (rd_w k2872 ef1830 rfl) rfl) rfl) rfl) rfl)
                  have z3005 := congrArg Int32.toInt (rd_w k2993 (rd_w k2964 (rd_w k2935 (rd_w k2896 (rd_w k2872 ef1831 rfl) rfl) rfl) rfl) rfl)
                  have z3006 := congrArg Int32.toInt (rd_w k2993 (rd_w k2964 (rd_w k2935 (rd_w k2896 (rd_w k2872 ef1832 rfl) rfl) rfl) rfl) rfl)
                  have z3007 := congrArg Int32.toInt (rd_w k2993 (rd_w k2964 (rd_w k2935 (rd_w k2896 (rd_w k2872 ef1833 rfl) rfl) rfl) rfl) rfl)
                  have z3008 := congrArg Int32.toInt (rd_w k2993 (rd_w k2964 (rd_w k2935 (rd_w k2896 (rd_w k2872 ef1834 rfl) rfl) rfl) rfl) rfl)
                  refine ev_goto rfl rfl ?_
                  exact (EvQ.drop 3 (ih19 w1818 w1819 h2993 b1820 b1821 hJ2993 (rd_w k2993 (rd_w k2964 (rd_w k2935 (rd_w k2896 (rd_w k2872 z1824 rfl) rfl) rfl) rfl) rfl) (by have z0_ := congrArg Int32.toInt (rd_w k2993 (rd_w k2964 (rd_w k2935 (rd_w k2896 (rd_w k2872 z1824 rfl) rfl) rfl) rfl) rfl); have z1_ := congrArg Int32.toInt ef2994; have z2_ := congrArg Int32.toInt ef2995; have z3_ := congrArg Int32.toInt ef2996; have z4_ := congrArg Int32.toInt ef2997; have z5_ := congrArg Int32.toInt (rd_w k2993 (rd_w k2964 (rd_w k2935 (rd_w k2896 (rd_w k2872 ef1829 rfl) rfl) rfl) rfl) rfl); have z6_ := congrArg Int32.toInt (rd_w k2993 (rd_w k2964 (rd_w k2935 (rd_w k2896 (rd_w k2872 ef1830 rfl) rfl) rfl) rfl) rfl); have z7_ := congrArg Int32.toInt (rd_w k2993 (rd_w k2964 (rd_w k2935 (rd_w k2896 (rd_w k2872 ef1831 rfl) rfl) rfl) rfl) rfl); have z8_ := congrArg Int32.toInt (rd_w k2993 (rd_w k2964 (rd_w k2935 (rd_w k2896 (rd_w k2872 ef1832 rfl) rfl) rfl) rfl) rfl); have z9_ := congrArg Int32.toInt (rd_w k2993 (rd_w k2964 (rd_w k2935 (rd_w k2896 (rd_w k2872 ef1833 rfl) rfl) rfl) rfl) rfl); have z10_ := congrArg Int32.toInt (rd_w k2993 (rd_w k2964 (rd_w k2935 (rd_w k2896 (rd_w k2872 ef1834 rfl) rfl) rfl) rfl) rfl); have z_ := w_lits; have zl_ := l_lits; omega) (by have z0_ := congrArg Int32.toInt (rd_w k2993 (rd_w k2964 (rd_w k2935 (rd_w k2896 (rd_w k2872 z1824 rfl) rfl) rfl) rfl) rfl); have z1_ := congrArg Int32.toInt ef2994; have z2_ := congrArg Int32.toInt ef2995; have z3_ := congrArg Int32.toInt ef2996; have z4_ := congrArg Int32.toInt ef2997; have z5_ := congrArg Int32.toInt (rd_w k2993 (rd_w k2964 (rd_w k2935 (rd_w k2896 (rd_w k2872 ef1829 rfl) rfl) rfl) rfl) rfl); have z6_ := congrArg Int32.toInt (rd_w k2993 (rd_w k2964 (rd_w k2935 (rd_w k2896 (rd_w k2872 ef1830 rfl) rfl) rfl) rfl) rfl); have z7_ := congrArg Int32.toInt (rd_w k2993 (rd_w k2964 (rd_w k2935 (rd_w k2896 (rd_w k2872 ef1831 rfl) rfl) rfl) rfl) rfl); have z8_ := congrArg Int32.toInt (rd_w k2993 (rd_w k2964 (rd_w k2935 (rd_w k2896 (rd_w k2872 ef1832 rfl) rfl) rfl) rfl) rfl); have z9_ := congrArg Int32.toInt (rd_w k2993 (rd_w k2964 (rd_w k2935 (rd_w k2896 (rd_w k2872 ef1833 rfl) rfl) rfl) rfl) rfl); have z10_ := congrArg Int32.toInt (rd_w k2993 (rd_w k2964 (rd_w k2935 (rd_w k2896 (rd_w k2872 ef1834 rfl) rfl) rfl) rfl) rfl); have z_ := w_lits; have zl_ := l_lits; omega) (by have z0_ := congrArg Int32.toInt (rd_w k2993 (rd_w k2964 (rd_w k2935 (rd_w k2896 (rd_w k2872 z1824 rfl) rfl) rfl) rfl) rfl); have z1_ := congrArg Int32.toInt ef2994; have z2_ := congrArg Int32.toInt ef2995; have z3_ := congrArg Int32.toInt ef2996; have z4_ := congrArg Int32.toInt ef2997; have z5_ := congrArg Int32.toInt (rd_w k2993 (rd_w k2964 (rd_w k2935 (rd_w k2896 (rd_w k2872 ef1829 rfl) rfl) rfl) rfl) rfl); have z6_ := congrArg Int32.toInt (rd_w k2993 (rd_w k2964 (rd_w k2935 (rd_w k2896 (rd_w k2872 ef1830 rfl) rfl) rfl) rfl) rfl); have z7_ := congrArg Int32.toInt (rd_w k2993 (rd_w k2964 (rd_w k2935 (rd_w k2896 (rd_w k2872 ef1831 rfl) rfl) rfl) rfl) rfl); have z8_ := congrArg Int32.toInt (rd_w k2993 (rd_w k2964 (rd_w k2935 (rd_w k2896 (rd_w k2872 ef1832 rfl) rfl) rfl) rfl) rfl); have z9_ := congrArg Int32.toInt (rd_w k2993 (rd_w k2964 (rd_w k2935 (rd_w k2896 (rd_w k2872 ef1833 rfl) rfl) rfl) rfl) rfl); have z10_ := congrArg Int32.toInt (rd_w k2993 (rd_w k2964 (rd_w k2935 (rd_w k2896 (rd_w k2872 ef1834 rfl) rfl) rfl) rfl) rfl); have z_ := w_lits; have zl_ := l_lits; omega) (by have z0_ := congrArg Int32.toInt (rd_w k2993 (rd_w k2964 (rd_w k2935 (rd_w k2896 (rd_w k2872 z1824 rfl) rfl) rfl) rfl) rfl); have z1_ := congrArg Int32.toInt ef2994; have z2_ := congrArg Int32.toInt ef2995; have z3_ := congrArg Int32.toInt ef2996; have z4_ := congrArg Int32.toInt ef2997; have z5_ := congrArg Int32.toInt (rd_w k2993 (rd_w k2964 (rd_w k2935 (rd_w k2896 (rd_w k2872 ef1829 rfl) rfl) rfl) rfl) rfl); have z6_ := congrArg Int32.toInt (rd_w k2993 (rd_w k2964 (rd_w k2935 (rd_w k2896 (rd_w k2872 ef1830 rfl) rfl) rfl) rfl) rfl); have z7_ := congrArg Int32.toInt (rd_w k2993 (rd_w k2964 (rd_w k2935 (rd_w k2896 (rd_w k2872 ef1831 rfl) rfl) rfl) rfl) rfl); have z8_ := congrArg Int32.toInt (rd_w k2993 (rd_w k2964 (rd_w k2935 (rd_w k2896 (rd_w k2872 ef1832 rfl) rfl) rfl) rfl) rfl); have z9_ := congrArg Int32.toInt (rd_w k2993 (rd_w k2964 (rd_w k2935 (rd_w k2896 (rd_w k2872 ef1833 rfl) rfl) rfl) rfl) rfl); have z10_ := congrArg Int32.toInt (rd_w k2993 (rd_w k2964 (rd_w k2935 (rd_w k2896 (rd_w k2872 ef1834 rfl) rfl) rfl) rfl) rfl); have z_ := w_lits; have zl_ := l_lits; omega) (by have z0_ := congrArg Int32.toInt (rd_w k2993 (rd_w k2964 (rd_w k2935 (rd_w k2896 (rd_w k2872 z1824 rfl) rfl) rfl) rfl) rfl); have z1_ := congrArg Int32.toInt ef2994; have z2_ := congrArg Int32.toInt ef2995; have z3_ := congrArg Int32.toInt ef2996; have z4_ := congrArg Int32.toInt ef2997; have z5_ := congrArg Int32.toInt (rd_w k2993 (rd_w k2964 (rd_w k2935 (rd_w k2896 (rd_w k2872 ef1829 rfl) rfl) rfl) rfl) rfl); have z6_ := congrArg Int32.toInt (rd_w k2993 (rd_w k2964 (rd_w k2935 (rd_w k2896 (rd_w k2872 ef1830 rfl) rfl) rfl) rfl) rfl); have z7_ := congrArg Int32.toInt (rd_w k2993 (rd_w k2964 (rd_w k2935 (rd_w k2896 (rd_w k2872 ef1831 rfl) rfl) rfl) rfl) rfl); have z8_ := congrArg Int32.toInt (rd_w k2993 (rd_w k2964 (rd_w k2935 (rd_w k2896 (rd_w k2872 ef1832 rfl) rfl) rfl) rfl) rfl); have z9_ := congrArg Int32.toInt (rd_w k2993 (rd_w k2964 (rd_w k2935 (rd_w k2896 (rd_w k2872 ef1833 rfl) rfl) rfl) rfl) rfl); have z10_ := congrArg Int32.toInt (rd_w k2993 (rd_w k2964 (rd_w k2935 (rd_w k2896 (rd_w k2872 ef1834 rfl) rfl) rfl) rfl) rfl); have z_ := w_lits; have zl_ := l_lits; omega) (by have z0_ := congrArg Int32.toInt (rd_w k2993 (rd_w k2964 (rd_w k2935 (rd_w k2896 (rd_w k2872 z1824 rfl) rfl) rfl) rfl) rfl); have z1_ := congrArg Int32.toInt ef2994; have z2_ := congrArg Int32.toInt ef2995; have z3_ := congrArg Int32.toInt ef2996; have z4_ := congrArg Int32.toInt ef2997; have z5_ := congrArg Int32.toInt (rd_w k2993 (rd_w k2964 (rd_w k2935 (rd_w k2896 (rd_w k2872 ef1829 rfl) rfl) rfl) rfl) rfl); have z6_ := congrArg Int32.toInt (rd_w k2993 (rd_w k2964 (rd_w k2935 (rd_w k2896 (rd_w k2872 ef1830 rfl) rfl) rfl) rfl) rfl); have z7_ := congrArg Int32.toInt (rd_w k2993 (rd_w k2964 (rd_w k2935 (rd_w k2896 (rd_w k2872 ef1831 rfl) rfl) rfl) rfl) rfl); have z8_ := congrArg Int32.toInt (rd_w k2993 (rd_w k2964 (rd_w k2935 (rd_w k2896 (rd_w k2872 ef1832 rfl) rfl) rfl) rfl) rfl); have z9_ := congrArg Int32.toInt (rd_w k2993 (rd_w k2964 (rd_w k2935 (rd_w k2896 (rd_w k2872 ef1833 rfl) rfl) rfl) rfl) rfl); have z10_ := congrArg Int32.toInt (rd_w k2993 (rd_w k2964 (rd_w k2935 (rd_w k2896 (rd_w k2872 ef1834 rfl) rfl) rfl) rfl) rfl); have z_ := w_lits; have zl_ := l_lits; omega) (mM_dec hm19 (by have z0_ := congrArg Int32.toInt (rd_w k2993 (rd_w k2964 (rd_w k2935 (rd_w k2896 (rd_w k2872 z1824 rfl) rfl) rfl) rfl) rfl); have z1_ := congrArg Int32.toInt ef2994; have z2_ := congrArg Int32.toInt ef2995; have z3_ := congrArg Int32.toInt ef2996; have z4_ := congrArg Int32.toInt ef2997; have z5_ := congrArg Int32.toInt (rd_w k2993 (rd_w k2964 (rd_w k2935 (rd_w k2896 (rd_w k2872 ef1829 rfl) rfl) rfl) rfl) rfl); have z6_ := congrArg Int32.toInt (rd_w k2993 (rd_w k2964 (rd_w k2935 (rd_w k2896 (rd_w k2872 ef1830 rfl) rfl) rfl) rfl) rfl); have z7_ := congrArg Int32.toInt (rd_w k2993 (rd_w k2964 (rd_w k2935 (rd_w k2896 (rd_w k2872 ef1831 rfl) rfl) rfl) rfl) rfl); have z8_ := congrArg Int32.toInt (rd_w k2993 (rd_w k2964 (rd_w k2935 (rd_w k2896 (rd_w k2872 ef1832 rfl) rfl) rfl) rfl) rfl); have z9_ := congrArg Int32.toInt (rd_w k2993 (rd_w k2964 (rd_w k2935 (rd_w k2896 (rd_w k2872 ef1833 rfl) rfl) rfl) rfl) rfl); have z10_ := congrArg Int32.toInt (rd_w k2993 (rd_w k2964 (rd_w k2935 (rd_w k2896 (rd_w k2872 ef1834 rfl) rfl) rfl) rfl) rfl); have z_ := w_lits; have zl_ := l_lits; omega) (by have z0_ := congrArg Int32.toInt (rd_w k2993 (rd_w k2964 (rd_w k2935 (rd_w k2896 (rd_w k2872 z1824 rfl) rfl) rfl) rfl) rfl); have z1_ := congrArg Int32.toInt ef2994; have z2_ := congrArg Int32.toInt ef2995; have z3_ := congrArg Int32.toInt ef2996; have z4_ := congrArg Int32.toInt ef2997; have z5_ := congrArg Int32.toInt (rd_w k2993 (rd_w k2964 (rd_w k2935 (rd_w k2896 (rd_w k2872 ef1829 rfl) rfl) rfl) rfl) rfl); have z6_ := congrArg Int32.toInt (rd_w k2993 (rd_w k2964 (rd_w k2935 (rd_w k2896 (rd_w k2872 ef1830 rfl) rfl) rfl) rfl) rfl); have z7_ := congrArg Int32.toInt (rd_w k2993 (rd_w k2964 (rd_w k2935 (rd_w k2896 (rd_w k2872 ef1831 rfl) rfl) rfl) rfl) rfl); have z8_ := congrArg Int32.toInt (rd_w k2993 (rd_w k2964 (rd_w k2935 (rd_w k2896 (rd_w k2872 ef1832 rfl) rfl) rfl) rfl) rfl); have z9_ := congrArg Int32.toInt (rd_w k2993 (rd_w k2964 (rd_w k2935 (rd_w k2896 (rd_w k2872 ef1833 rfl) rfl) rfl) rfl) rfl); have z10_ := congrArg Int32.toInt (rd_w k2993 (rd_w k2964 (rd_w k2935 (rd_w k2896 (rd_w k2872 ef1834 rfl) rfl) rfl) rfl) rfl); have z_ := w_lits; have zl_ := l_lits; omega) (by have z0_ := congrArg Int32.toInt (rd_w k2993 (rd_w k2964 (rd_w k2935 (rd_w k2896 (rd_w k2872 z1824 rfl) rfl) rfl) rfl) rfl); have z1_ := congrArg Int32.toInt ef2994; have z2_ := congrArg Int32.toInt ef2995; have z3_ := congrArg Int32.toInt ef2996; have z4_ := congrArg Int32.toInt ef2997; have z5_ := congrArg Int32.toInt (rd_w k2993 (rd_w k2964 (rd_w k2935 (rd_w k2896 (rd_w k2872 ef1829 rfl) rfl) rfl) rfl) rfl); have z6_ := congrArg Int32.toInt (rd_w k2993 (rd_w k2964 (rd_w k2935 (rd_w k2896 (rd_w k2872 ef1830 rfl) rfl) rfl) rfl) rfl); have z7_ := congrArg Int32.toInt (rd_w k2993 (rd_w k2964 (rd_w k2935 (rd_w k2896 (rd_w k2872 ef1831 rfl) rfl) rfl) rfl) rfl); have z8_ := congrArg Int32.toInt (rd_w k2993 (rd_w k2964 (rd_w k2935 (rd_w k2896 (rd_w k2872 ef1832 rfl) rfl) rfl) rfl) rfl); have z9_ := congrArg Int32.toInt (rd_w k2993 (rd_w k2964 (rd_w k2935 (rd_w k2896 (rd_w k2872 ef1833 rfl) rfl) rfl) rfl) rfl); have z10_ := congrArg Int32.toInt (rd_w k2993 (rd_w k2964 (rd_w k2935 (rd_w k2896 (rd_w k2872 ef1834 rfl) rfl) rfl) rfl) rfl); have z_ := w_lits; have zl_ := l_lits; omega))))
                · have b2980 : B f2965 0 0 := R_eqX bf2965 (by decide : B 0 0 0) c2977
                  have z2981 := congrArg Int32.toInt c2977
                  rw [show (0 : Int32).toInt = 0 from by decide] at z2981
                  refine ev_aload_n rfl rfl rfl ?_
                  refine ev_getR (y := 76) rfl rfl fl_X10_60 rfl rfl rfl rfl ?_
                  refine ev_aload_n rfl rfl rfl ?_
                  refine ev_getV (v := f1830) rfl rfl fl_X10_241 rfl rfl rfl (rd_w k2964 (rd_w k2935 (rd_w k2896 (rd_w k2872 ef1830 rfl) rfl) rfl) rfl) ?_
                  rcases B.c5 (b2949.mono (by decide) (by decide)) with rfl | rfl | rfl | rfl | rfl
                  · refine ev_aload_n rfl rfl rfl ?_
                    refine ev_getV (v := f1829) rfl rfl fl_X10_234 rfl rfl rfl (rd_w k2964 (rd_w k2935 (rd_w k2896 (rd_w k2872 ef1829 rfl) rfl) rfl) rfl) ?_
                    refine ev_iasK (j := 0) (n := 5) (l := 0) (u := 60) hJ2964 (by decide : B 0 0 0) (by decide) (by decide) (by decide) rfl bf1829 (by decide) (by decide) rfl rfl rfl rfl rfl (fun h3009 hJ3009 k3009 => ?_)
                    refine ev_aload_n rfl rfl rfl ?_
                    refine ev_getR (y := 77) rfl rfl fl_X10_63 rfl rfl rfl rfl ?_
                    refine ev_aload_n rfl rfl rfl ?_
                    refine ev_getV (v := 0) rfl rfl fl_X10_241 rfl rfl rfl (rd_a k3009 (rd_w k2964 (rd_w k2935 (rd_w k2896 (rd_w k2872 ef1830 rfl) rfl) rfl) rfl) rfl) ?_
                    refine ev_iload_n rfl rfl rfl ?_
                    have b3010 : B f1827 0 20 := ⟨(by have z0_ := congrArg Int32.toInt (rd_a k3009 (rd_w k2964 (rd_w k2935 (rd_w k2896 (rd_w k2872 z1824 rfl) rfl) rfl) rfl) rfl); have z1_ := congrArg Int32.toInt (rd_a k3009 (rd_w k2964 (rd_w k2935 ef2897 rfl) rfl) rfl); have z2_ := congrArg Int32.toInt (rd_a k3009 ef2965 rfl); have z3_ := congrArg Int32.toInt (rd_a k3009 (rd_w k2964 (rd_w k2935 ef2899 rfl) rfl) rfl); have z4_ := congrArg Int32.toInt (rd_a k3009 (rd_w k2964 (rd_w k2935 ef2900 rfl) rfl) rfl); have z5_ := congrArg Int32.toInt (rd_a k3009 (rd_w k2964 (rd_w k2935 (rd_w k2896 (rd_w k2872 ef1829 rfl) rfl) rfl) rfl) rfl); have z6_ := congrArg Int32.toInt (rd_a k3009 (rd_w k2964 (rd_w k2935 (rd_w k2896 (rd_w k2872 ef1830 rfl) rfl) rfl) rfl) rfl); have z7_ := congrArg Int32.toInt (rd_s k3009); have z8_ := congrArg Int32.toInt (rd_o k3009 (rd_w k2964 (rd_w k2935 (rd_w k2896 (rd_w k2872 ef1832 rfl) rfl) rfl) rfl) rfl); have z9_ := congrArg Int32.toInt (rd_o k3009 (rd_w k2964 (rd_w k2935 (rd_w k2896 (rd_w k2872 ef1833 rfl) rfl) rfl) rfl) rfl); have z10_ := congrArg Int32.toInt (rd_o k3009 (rd_w k2964 (rd_w k2935 (rd_w k2896 (rd_w k2872 ef1834 rfl) rfl) rfl) rfl) rfl); have z_ := w_lits; have zl_ := l_lits; omega), (by have z0_ := congrArg Int32.toInt (rd_a k3009 (rd_w k2964 (rd_w k2935 (rd_w k2896 (rd_w k2872 z1824 rfl) rfl) rfl) rfl) rfl); have z1_ := congrArg Int32.toInt (rd_a k3009 (rd_w k2964 (rd_w k2935 ef2897 rfl) rfl) rfl); have z2_ := congrArg Int32.toInt (rd_a k3009 ef2965 rfl); have z3_ := congrArg Int32.toInt (rd_a k3009 (rd_w k2964 (rd_w k2935 ef2899 rfl) rfl) rfl); have z4_ := congrArg Int32.toInt (rd_a k3009 (rd_w k2964 (rd_w k2935 ef2900 rfl) rfl) rfl); have z5_ := congrArg Int32.toInt (rd_a k3009 (rd_w k2964 (rd_w k2935 (rd_w k2896 (rd_w k2872 ef1829 rfl) rfl) rfl) rfl) rfl); have z6_ := congrArg Int32.toInt (rd_a k3009 (rd_w k2964 (rd_w k2935 (rd_w k2896 (rd_w k2872 ef1830 rfl) rfl) rfl) rfl) rfl); have z7_ := congrArg Int32.toInt (rd_s k3009); have z8_ := congrArg Int32.toInt (rd_o k3009 (rd_w k2964 (rd_w k2935 (rd_w k2896 (rd_w k2872 ef1832 rfl) rfl) rfl) rfl) rfl); have z9_ := congrArg Int32.toInt (rd_o k3009 (rd_w k2964 (rd_w k2935 (rd_w k2896 (rd_w k2872 ef1833 rfl) rfl) rfl) rfl) rfl); have z10_ := congrArg Int32.toInt (rd_o k3009 (rd_w k2964 (rd_w k2935 (rd_w k2896 (rd_w k2872 ef1834 rfl) rfl) rfl) rfl) rfl); have z_ := w_lits; have zl_ := l_lits; omega)⟩
                    refine ev_iasW (n := 5) (l := 0) (u := 20) hJ3009 (by decide : B 0 0 0) (by decide) (by decide) (fun _ => rfl) b3010 (by decide) (by decide) (fun _ => rfl) rfl rfl rfl rfl (fun h3011 hJ3011 k3011 => ?_)
                    refine ev_aload_n rfl rfl rfl ?_
                    refine ev_dup rfl rfl rfl ?_
                    refine ev_getV (v := 0) rfl rfl fl_X10_241 rfl rfl rfl (rd_a k3011 (rd_a k3009 (rd_w k2964 (rd_w k2935 (rd_w k2896 (rd_w k2872 ef1830 rfl) rfl) rfl) rfl) rfl) rfl) ?_
                    refine ev_iconst (v := 1) rfl rfl (by decide) ?_
                    refine ev_iaddB (l := 1) (u := 1) rfl rfl (by decide : B 0 0 0) (by decide : B 1 1 1) (by decide) (by decide) (by decide) (by decide) (fun v3012 b3012 e3012 g3012 => ?_)
                    have e3012x := e3012; rw [show (0 : Int32).toInt = 0 from by decide] at e3012x
                    have e3012xx := e3012x; rw [show (1 : Int32).toInt = 1 from by decide] at e3012xx
                    have b3013 : B v3012 0 4 := ⟨(by have z0_ := congrArg Int32.toInt (rd_a k3011 (rd_a k3009 (rd_w k2964 (rd_w k2935 (rd_w k2896 (rd_w k2872 z1824 rfl) rfl) rfl) rfl) rfl) rfl); have z1_ := congrArg Int32.toInt (rd_a k3011 (rd_a k3009 (rd_w k2964 (rd_w k2935 ef2897 rfl) rfl) rfl) rfl); have z2_ := congrArg Int32.toInt (rd_a k3011 (rd_a k3009 ef2965 rfl) rfl); have z3_ := congrArg Int32.toInt (rd_a k3011 (rd_a k3009 (rd_w k2964 (rd_w k2935 ef2899 rfl) rfl) rfl) rfl); have z4_ := congrArg Int32.toInt (rd_a k3011 (rd_a k3009 (rd_w k2964 (rd_w k2935 ef2900 rfl) rfl) rfl) rfl); have z5_ := congrArg Int32.toInt (rd_a k3011 (rd_a k3009 (rd_w k2964 (rd_w k2935 (rd_w k2896 (rd_w k2872 ef1829 rfl) rfl) rfl) rfl) rfl) rfl); have z6_ := congrArg Int32.toInt (rd_a k3011 (rd_a k3009 (rd_w k2964 (rd_w k2935 (rd_w k2896 (rd_w k2872 ef1830 rfl) rfl) rfl) rfl) rfl) rfl); have z7_ := congrArg Int32.toInt (rd_a k3011 (rd_s k3009) rfl); have z8_ := congrArg Int32.toInt (rd_a k3011 (rd_o k3009 (rd_w k2964 (rd_w k2935 (rd_w k2896 (rd_w k2872 ef1832 rfl) rfl) rfl) rfl) rfl) rfl); have z9_ := congrArg Int32.toInt (rd_a k3011 (rd_o k3009 (rd_w k2964 (rd_w k2935 (rd_w k2896 (rd_w k2872 ef1833 rfl) rfl) rfl) rfl) rfl) rfl); have z10_ := congrArg Int32.toInt (rd_a k3011 (rd_o k3009 (rd_w k2964 (rd_w k2935 (rd_w k2896 (rd_w k2872 ef1834 rfl) rfl) rfl) rfl) rfl) rfl); have z_ := w_lits; have zl_ := l_lits; omega), (by have z0_ := congrArg Int32.toInt (rd_a k3011 (rd_a k3009 (rd_w k2964 (rd_w k2935 (rd_w k2896 (rd_w k2872 z1824 rfl) rfl) rfl) rfl) rfl) rfl); have z1_ := congrArg Int32.toInt (rd_a k3011 (rd_a k3009 (rd_w k2964 (rd_w k2935 ef2897 rfl) rfl) rfl) rfl); have z2_ := congrArg Int32.toInt (rd_a k3011 (rd_a k3009 ef2965 rfl) rfl); have z3_ := congrArg Int32.toInt (rd_a k3011 (rd_a k3009 (rd_w k2964 (rd_w k2935 ef2899 rfl) rfl) rfl) rfl); have z4_ := congrArg Int32.toInt (rd_a k3011 (rd_a k3009 (rd_w k2964 (rd_w k2935 ef2900 rfl) rfl) rfl) rfl); have z5_ := congrArg Int32.toInt (rd_a k3011 (rd_a k3009 (rd_w k2964 (rd_w k2935 (rd_w k2896 (rd_w k2872 ef1829 rfl) rfl) rfl) rfl) rfl) rfl); have z6_ := congrArg Int32.toInt (rd_a k3011 (rd_a k3009 (rd_w k2964 (rd_w k2935 (rd_w k2896 (rd_w k2872 ef1830 rfl) rfl) rfl) rfl) rfl) rfl); have z7_ := congrArg Int32.toInt (rd_a k3011 (rd_s k3009) rfl); have z8_ := congrArg Int32.toInt (rd_a k3011 (rd_o k3009 (rd_w k2964 (rd_w k2935 (rd_w k2896 (rd_w k2872 ef1832 rfl) rfl) rfl) rfl) rfl) rfl); have z9_ := congrArg Int32.toInt (rd_a k3011 (rd_o k3009 (rd_w k2964 (rd_w k2935 (rd_w k2896 (rd_w k2872 ef1833 rfl) rfl) rfl) rfl) rfl) rfl); have z10_ := congrArg Int32.toInt (rd_a k3011 (rd_o k3009 (rd_w k2964 (rd_w k2935 (rd_w k2896 (rd_w k2872 ef1834 rfl) rfl) rfl) rfl) rfl) rfl); have z_ := w_lits; have zl_ := l_lits; omega)⟩
                    refine ev_putW (l := 0) (u := 4) hJ3011 rfl b3013 (by decide) (by decide) rfl rfl rfl fl_X10_241 rfl rfl rfl rfl rfl (fun h3014 hJ3014 k3014 => ?_)
                    refine ev_iconst (v := 1) rfl rfl (by decide) ?_
                    refine ev_istore_n rfl rfl rfl rfl ?_
                    dsimp only [List.set]
                    refine ev_aload_n rfl rfl rfl ?_
                    have z3015 := congrArg Int32.toInt (rd_o k3014 (rd_a k3011 (rd_a k3009 (rd_w k2964 (rd_w k2935 (rd_w k2896 (rd_w k2872 z1824 rfl) rfl) rfl) rfl) rfl) rfl) rfl)
                    have z3016 := congrArg Int32.toInt (rd_o k3014 (rd_a k3011 (rd_a k3009 (rd_w k2964 (rd_w k2935 ef2897 rfl) rfl) rfl) rfl) rfl)
                    have z3017 := congrArg Int32.toInt (rd_o k3014 (rd_a k3011 (rd_a k3009 ef2965 rfl) rfl) rfl)
                    have z3018 := congrArg Int32.toInt (rd_o k3014 (rd_a k3011 (rd_a k3009 (rd_w k2964 (rd_w k2935 ef2899 rfl) rfl) rfl) rfl) rfl)
                    have z3019 := congrArg Int32.toInt (rd_o k3014 (rd_a k3011 (rd_a k3009 (rd_w k2964 (rd_w k2935 ef2900 rfl) rfl) rfl) rfl) rfl)
                    have z3020 := congrArg Int32.toInt (rd_o k3014 (rd_a k3011 (rd_a k3009 (rd_w k2964 (rd_w k2935 (rd_w k2896 (rd_w k2872 ef1829 rfl) rfl) rfl) rfl) rfl) rfl) rfl)
                    have z3021 := congrArg Int32.toInt (rd_s k3014)
                    have z3022 := congrArg Int32.toInt (rd_o k3014 (rd_a k3011 (rd_s k3009) rfl) rfl)
                    have z3023 := congrArg Int32.toInt (rd_o k3014 (rd_a k3011 (rd_o k3009 (rd_w k2964 (rd_w k2935 (rd_w k2896 (rd_w k2872 ef1832 rfl) rfl) rfl) rfl) rfl) rfl) rfl)
                    have z3024 := congrArg Int32.toInt (rd_o k3014 (rd_a k3011 (rd_o k3009 (rd_w k2964 (rd_w k2935 (rd_w k2896 (rd_w k2872 ef1833 rfl) rfl) rfl) rfl) rfl) rfl) rfl)
                    have z3025 := congrArg Int32.toInt (rd_o k3014 (rd_a k3011 (rd_o k3009 (rd_w k2964 (rd_w k2935 (rd_w k2896 (rd_w k2872 ef1834 rfl) rfl) rfl) rfl) rfl) rfl) rfl)
                    refine ev_V0K hJ3014 rfl rfl rfl lk_X10_251 vt_X10_next rfl rfl rfl rfl rfl (w_X10_next_63 L b h3014 hJ3014.1 (by have z0_ := congrArg Int32.toInt (rd_o k3014 (rd_a k3011 (rd_a k3009 (rd_w k2964 (rd_w k2935 (rd_w k2896 (rd_w k2872 z1824 rfl) rfl) rfl) rfl) rfl) rfl) rfl); have z1_ := congrArg Int32.toInt (rd_o k3014 (rd_a k3011 (rd_a k3009 (rd_w k2964 (rd_w k2935 ef2897 rfl) rfl) rfl) rfl) rfl); have z2_ := congrArg Int32.toInt (rd_o k3014 (rd_a k3011 (rd_a k3009 ef2965 rfl) rfl) rfl); have z3_ := congrArg Int32.toInt (rd_o k3014 (rd_a k3011 (rd_a k3009 (rd_w k2964 (rd_w k2935 ef2899 rfl) rfl) rfl) rfl) rfl); have z4_ := congrArg Int32.toInt (rd_o k3014 (rd_a k3011 (rd_a k3009 (rd_w k2964 (rd_w k2935 ef2900 rfl) rfl) rfl) rfl) rfl); have z5_ := congrArg Int32.toInt (rd_o k3014 (rd_a k3011 (rd_a k3009 (rd_w k2964 (rd_w k2935 (rd_w k2896 (rd_w k2872 ef1829 rfl) rfl) rfl) rfl) rfl) rfl) rfl); have z6_ := congrArg Int32.toInt (rd_s k3014); have z7_ := congrArg Int32.toInt (rd_o k3014 (rd_a k3011 (rd_s k3009) rfl) rfl); have z8_ := congrArg Int32.toInt (rd_o k3014 (rd_a k3011 (rd_o k3009 (rd_w k2964 (rd_w k2935 (rd_w k2896 (rd_w k2872 ef1832 rfl) rfl) rfl) rfl) rfl) rfl) rfl); have z9_ := congrArg Int32.toInt (rd_o k3014 (rd_a k3011 (rd_o k3009 (rd_w k2964 (rd_w k2935 (rd_w k2896 (rd_w k2872 ef1833 rfl) rfl) rfl) rfl) rfl) rfl) rfl); have z10_ := congrArg Int32.toInt (rd_o k3014 (rd_a k3011 (rd_o k3009 (rd_w k2964 (rd_w k2935 (rd_w k2896 (rd_w k2872 ef1834 rfl) rfl) rfl) rfl) rfl) rfl) rfl); have z_ := w_lits; have zl_ := l_lits; omega)) (fun h3026 hJ3026 k3026 m3026 => ?_)
                    obtain ⟨m3026_0, m3026_1, m3026_2, m3026_3, m3026_4⟩ := m3026
                    obtain ⟨f3027, ef3027⟩ : ∃ f_, h3026 63 17 = f_ := ⟨_, rfl⟩
                    have bf3027 : B f3027 0 160 := by have z_ := hJ3026.1 63 17; rw [ef3027] at z_; exact z_
                    have zf3027 := congrArg Int32.toInt ef3027
                    obtain ⟨f3028, ef3028⟩ : ∃ f_, h3026 63 21 = f_ := ⟨_, rfl⟩
                    have bf3028 : B f3028 0 6 := by have z_ := hJ3026.1 63 21; rw [ef3028] at z_; exact z_
                    have zf3028 := congrArg Int32.toInt ef3028
                    obtain ⟨f3029, ef3029⟩ : ∃ f_, h3026 63 20 = f_ := ⟨_, rfl⟩
                    have bf3029 : B f3029 (-2147483648) 2147483647 := by have z_ := hJ3026.1 63 20; rw [ef3029] at z_; exact z_
                    have zf3029 := congrArg Int32.toInt ef3029
                    obtain ⟨f3030, ef3030⟩ : ∃ f_, h3026 63 19 = f_ := ⟨_, rfl⟩
                    have bf3030 : B f3030 0 3 := by have z_ := hJ3026.1 63 19; rw [ef3030] at z_; exact z_
                    have zf3030 := congrArg Int32.toInt ef3030
                    have z3031 := congrArg Int32.toInt (rd_w k3026 (rd_o k3014 (rd_a k3011 (rd_a k3009 (rd_w k2964 (rd_w k2935 (rd_w k2896 (rd_w k2872 z1824 rfl) rfl) rfl) rfl) rfl) rfl) rfl) rfl)
                    have z3032 := congrArg Int32.toInt ef3027
                    have z3033 := congrArg Int32.toInt ef3028
                    have z3034 := congrArg Int32.toInt ef3029
                    have z3035 := congrArg Int32.toInt ef3030
                    have z3036 := congrArg Int32.toInt (rd_w k3026 (rd_o k3014 (rd_a k3011 (rd_a k3009 (rd_w k2964 (rd_w k2935 (rd_w k2896 (rd_w k2872 ef1829 rfl) rfl) rfl) rfl) rfl) rfl) rfl) rfl)
                    have z3037 := congrArg Int32.toInt (rd_w k3026 (rd_s k3014) rfl)
                    have z3038 := congrArg Int32.toInt (rd_w k3026 (rd_o k3014 (rd_a k3011 (rd_s k3009) rfl) rfl) rfl)
                    have z3039 := congrArg Int32.toInt (rd_w k3026 (rd_o k3014 (rd_a k3011 (rd_o k3009 (rd_w k2964 (rd_w k2935 (rd_w k2896 (rd_w k2872 ef1832 rfl) rfl) rfl) rfl) rfl) rfl) rfl) rfl)
                    have z3040 := congrArg Int32.toInt (rd_w k3026 (rd_o k3014 (rd_a k3011 (rd_o k3009 (rd_w k2964 (rd_w k2935 (rd_w k2896 (rd_w k2872 ef1833 rfl) rfl) rfl) rfl) rfl) rfl) rfl) rfl)
                    have z3041 := congrArg Int32.toInt (rd_w k3026 (rd_o k3014 (rd_a k3011 (rd_o k3009 (rd_w k2964 (rd_w k2935 (rd_w k2896 (rd_w k2872 ef1834 rfl) rfl) rfl) rfl) rfl) rfl) rfl) rfl)
                    refine ev_goto rfl rfl ?_
                    exact (EvQ.drop 3 (ih19 1 w1819 h3026 ((by decide : B 1 1 1).mono (by decide) (by decide)) b1821 hJ3026 (rd_w k3026 (rd_o k3014 (rd_a k3011 (rd_a k3009 (rd_w k2964 (rd_w k2935 (rd_w k2896 (rd_w k2872 z1824 rfl) rfl) rfl) rfl) rfl) rfl) rfl) rfl) (by have z0_ := congrArg Int32.toInt (rd_w k3026 (rd_o k3014 (rd_a k3011 (rd_a k3009 (rd_w k2964 (rd_w k2935 (rd_w k2896 (rd_w k2872 z1824 rfl) rfl) rfl) rfl) rfl) rfl) rfl) rfl); have z1_ := congrArg Int32.toInt ef3027; have z2_ := congrArg Int32.toInt ef3028; have z3_ := congrArg Int32.toInt ef3029; have z4_ := congrArg Int32.toInt ef3030; have z5_ := congrArg Int32.toInt (rd_w k3026 (rd_o k3014 (rd_a k3011 (rd_a k3009 (rd_w k2964 (rd_w k2935 (rd_w k2896 (rd_w k2872 ef1829 rfl) rfl) rfl) rfl) rfl) rfl) rfl) rfl); have z6_ := congrArg Int32.toInt (rd_w k3026 (rd_s k3014) rfl); have z7_ := congrArg Int32.toInt (rd_w k3026 (rd_o k3014 (rd_a k3011 (rd_s k3009) rfl) rfl) rfl); have z8_ := congrArg Int32.toInt (rd_w k3026 (rd_o k3014 (rd_a k3011 (rd_o k3009 (rd_w k2964 (rd_w k2935 (rd_w k2896 (rd_w k2872 ef1832 rfl) rfl) rfl) rfl) rfl) rfl) rfl) rfl); have z9_ := congrArg Int32.toInt (rd_w k3026 (rd_o k3014 (rd_a k3011 (rd_o k3009 (rd_w k2964 (rd_w k2935 (rd_w k2896 (rd_w k2872 ef1833 rfl) rfl) rfl) rfl) rfl) rfl) rfl) rfl); have z10_ := congrArg Int32.toInt (rd_w k3026 (rd_o k3014 (rd_a k3011 (rd_o k3009 (rd_w k2964 (rd_w k2935 (rd_w k2896 (rd_w k2872 ef1834 rfl) rfl) rfl) rfl) rfl) rfl) rfl) rfl); have z_ := w_lits; have zl_ := l_lits; omega) (by have z0_ := congrArg Int32.toInt (rd_w k3026 (rd_o k3014 (rd_a k3011 (rd_a k3009 (rd_w k2964 (rd_w k2935 (rd_w k2896 (rd_w k2872 z1824 rfl) rfl) rfl) rfl) rfl) rfl) rfl) rfl); have z1_ := congrArg Int32.toInt ef3027; have z2_ := congrArg Int32.toInt ef3028; have z3_ := congrArg Int32.toInt ef3029; have z4_ := congrArg Int32.toInt ef3030; have z5_ := congrArg Int32.toInt (rd_w k3026 (rd_o k3014 (rd_a k3011 (rd_a k3009 (rd_w k2964 (rd_w k2935 (rd_w k2896 (rd_w k2872 ef1829 rfl) rfl) rfl) rfl) rfl) rfl) rfl) rfl); have z6_ := congrArg Int32.toInt (rd_w k3026 (rd_s k3014) rfl); have z7_ := congrArg Int32.toInt (rd_w k3026 (rd_o k3014 (rd_a k3011 (rd_s k3009) rfl) rfl) rfl); have z8_ := congrArg Int32.toInt (rd_w k3026 (rd_o k3014 (rd_a k3011 (rd_o k3009 (rd_w k2964 (rd_w k2935 (rd_w k2896 (rd_w k2872 ef1832 rfl) rfl) rfl) rfl) rfl) rfl) rfl) rfl); have z9_ := congrArg Int32.toInt (rd_w k3026 (rd_o k3014 (rd_a k3011 (rd_o k3009 (rd_w k2964 (rd_w k2935 (rd_w k2896 (rd_w k2872 ef1833 rfl) rfl) rfl) rfl) rfl) rfl) rfl) rfl); have z10_ := congrArg Int32.toInt (rd_w k3026 (rd_o k3014 (rd_a k3011 (rd_o k3009 (rd_w k2964 (rd_w k2935 (rd_w k2896 (rd_w k2872 ef1834 rfl) rfl) rfl) rfl) rfl) rfl) rfl) rfl); have z_ := w_lits; have zl_ := l_lits; omega) (by have z0_ := congrArg Int32.toInt (rd_w k3026 (rd_o k3014 (rd_a k3011 (rd_a k3009 (rd_w k2964 (rd_w k2935 (rd_w k2896 (rd_w k2872 z1824 rfl) rfl) rfl) rfl) rfl) rfl) rfl) rfl); have z1_ := congrArg Int32.toInt ef3027; have z2_ := congrArg Int32.toInt ef3028; have z3_ := congrArg Int32.toInt ef3029; have z4_ := congrArg Int32.toInt ef3030; have z5_ := congrArg Int32.toInt (rd_w k3026 (rd_o k3014 (rd_a k3011 (rd_a k3009 (rd_w k2964 (rd_w k2935 (rd_w k2896 (rd_w k2872 ef1829 rfl) rfl) rfl) rfl) rfl) rfl) rfl) rfl); have z6_ := congrArg Int32.toInt (rd_w k3026 (rd_s k3014) rfl); have z7_ := congrArg Int32.toInt (rd_w k3026 (rd_o k3014 (rd_a k3011 (rd_s k3009) rfl) rfl) rfl); have z8_ := congrArg Int32.toInt (rd_w k3026 (rd_o k3014 (rd_a k3011 (rd_o k3009 (rd_w k2964 (rd_w k2935 (rd_w k2896 (rd_w k2872 ef1832 rfl) rfl) rfl) rfl) rfl) rfl) rfl) rfl); have z9_ := congrArg Int32.toInt (rd_w k3026 (rd_o k3014 (rd_a k3011 (rd_o k3009 (rd_w k2964 (rd_w k2935 (rd_w k2896 (rd_w k2872 ef1833 rfl) rfl) rfl) rfl) rfl) rfl) rfl) rfl); have z10_ := congrArg Int32.toInt (rd_w k3026 (rd_o k3014 (rd_a k3011 (rd_o k3009 (rd_w k2964 (rd_w k2935 (rd_w k2896 (rd_w k2872 ef1834 rfl) rfl) rfl) rfl) rfl) rfl) rfl) rfl); have z_ := w_lits; have zl_ := l_lits; omega) (by have z0_ := congrArg Int32.toInt (rd_w k3026 (rd_o k3014 (rd_a k3011 (rd_a k3009 (rd_w k2964 (rd_w k2935 (rd_w k2896 (rd_w k2872 z1824 rfl) rfl) rfl) rfl) rfl) rfl) rfl) rfl); have z1_ := congrArg Int32.toInt ef3027; have z2_ := congrArg Int32.toInt ef3028; have z3_ := congrArg Int32.toInt ef3029; have z4_ := congrArg Int32.toInt ef3030; have z5_ := congrArg Int32.toInt (rd_w k3026 (rd_o k3014 (rd_a k3011 (rd_a k3009 (rd_w k2964 (rd_w k2935 (rd_w k2896 (rd_w k2872 ef1829 rfl) rfl) rfl) rfl) rfl) rfl) rfl) rfl); have z6_ := congrArg Int32.toInt (rd_w k3026 (rd_s k3014) rfl); have z7_ := congrArg Int32.toInt (rd_w k3026 (rd_o k3014 (rd_a k3011 (rd_s k3009) rfl) rfl) rfl); have z8_ := congrArg Int32.toInt (rd_w k3026 (rd_o k3014 (rd_a k3011 (rd_o k3009 (rd_w k2964 (rd_w k2935 (rd_w k2896 (rd_w k2872 ef1832 rfl) rfl) rfl) rfl) rfl) rfl) rfl) rfl); have z9_ := congrArg Int32.toInt (rd_w k3026 (rd_o k3014 (rd_a k3011 (rd_o k3009 (rd_w k2964 (rd_w k2935 (rd_w k2896 (rd_w k2872 ef1833 rfl) rfl) rfl) rfl) rfl) rfl) rfl) rfl); have z10_ := congrArg Int32.toInt (rd_w k3026 (rd_o k3014 (rd_a k3011 (rd_o k3009 (rd_w k2964 (rd_w k2935 (rd_w k2896 (rd_w k2872 ef1834 rfl) rfl) rfl) rfl) rfl) rfl) rfl) rfl); have z_ := w_lits; have zl_ := l_lits; omega) (by have z0_ := congrArg Int32.toInt (rd_w k3026 (rd_o k3014 (rd_a k3011 (rd_a k3009 (rd_w k2964 (rd_w k2935 (rd_w k2896 (rd_w k2872 z1824 rfl) rfl) rfl) rfl) rfl) rfl) rfl) rfl); have z1_ := congrArg Int32.toInt ef3027; have z2_ := congrArg Int32.toInt ef3028; have z3_ := congrArg Int32.toInt ef3029; have z4_ := congrArg Int32.toInt ef3030; have z5_ := congrArg Int32.toInt (rd_w k3026 (rd_o k3014 (rd_a k3011 (rd_a k3009 (rd_w k2964 (rd_w k2935 (rd_w k2896 (rd_w k2872 ef1829 rfl) rfl) rfl) rfl) rfl) rfl) rfl) rfl); have z6_ := congrArg Int32.toInt (rd_w k3026 (rd_s k3014) rfl); have z7_ := congrArg Int32.toInt (rd_w k3026 (rd_o k3014 (rd_a k3011 (rd_s k3009) rfl) rfl) rfl); have z8_ := congrArg Int32.toInt (rd_w k3026 (rd_o k3014 (rd_a k3011 (rd_o k3009 (rd_w k2964 (rd_w k2935 (rd_w k2896 (rd_w k2872 ef1832 rfl) rfl) rfl) rfl) rfl) rfl) rfl) rfl); have z9_ := congrArg Int32.toInt (rd_w k3026 (rd_o k3014 (rd_a k3011 (rd_o k3009 (rd_w k2964 (rd_w k2935 (rd_w k2896 (rd_w k2872 ef1833 rfl) rfl) rfl) rfl) rfl) rfl) rfl) rfl); have z10_ := congrArg Int32.toInt (rd_w k3026 (rd_o k3014 (rd_a k3011 (rd_o k3009 (rd_w k2964 (rd_w k2935 (rd_w k2896 (rd_w k2872 ef1834 rfl) rfl) rfl) rfl) rfl) rfl) rfl) rfl); have z_ := w_lits; have zl_ := l_lits; omega) (by have z0_ := congrArg Int32.toInt (rd_w k3026 (rd_o k3014 (rd_a k3011 (rd_a k3009 (rd_w k2964 (rd_w k2935 (rd_w k2896 (rd_w k2872 z1824 rfl) rfl) rfl) rfl) rfl) rfl) rfl) rfl); have z1_ := congrArg Int32.toInt ef3027; have z2_ := congrArg Int32.toInt ef3028; have z3_ := congrArg Int32.toInt ef3029; have z4_ := congrArg Int32.toInt ef3030; have z5_ := congrArg Int32.toInt (rd_w k3026 (rd_o k3014 (rd_a k3011 (rd_a k3009 (rd_w k2964 (rd_w k2935 (rd_w k2896 (rd_w k2872 ef1829 rfl) rfl) rfl) rfl) rfl) rfl) rfl) rfl); have z6_ := congrArg Int32.toInt (rd_w k3026 (rd_s k3014) rfl); have z7_ := congrArg Int32.toInt (rd_w k3026 (rd_o k3014 (rd_a k3011 (rd_s k3009) rfl) rfl) rfl); have z8_ := congrArg Int32.toInt (rd_w k3026 (rd_o k3014 (rd_a k3011 (rd_o k3009 (rd_w k2964 (rd_w k2935 (rd_w k2896 (rd_w k2872 ef1832 rfl) rfl) rfl) rfl) rfl) rfl) rfl) rfl); have z9_ := congrArg Int32.toInt (rd_w k3026 (rd_o k3014 (rd_a k3011 (rd_o k3009 (rd_w k2964 (rd_w k2935 (rd_w k2896 (rd_w k2872 ef1833 rfl) rfl) rfl) rfl) rfl) rfl) rfl) rfl); have z10_ := congrArg Int32.toInt (rd_w k3026 (rd_o k3014 (rd_a k3011 (rd_o k3009 (rd_w k2964 (rd_w k2935 (rd_w k2896 (rd_w k2872 ef1834 rfl) rfl) rfl) rfl) rfl) rfl) rfl) rfl); have z_ := w_lits; have zl_ := l_lits; omega) (mM_dec hm19 (by have z0_ := congrArg Int32.toInt (rd_w k3026 (rd_o k3014 (rd_a k3011 (rd_a k3009 (rd_w k2964 (rd_w k2935 (rd_w k2896 (rd_w k2872 z1824 rfl) rfl) rfl) rfl) rfl) rfl) rfl) rfl); have z1_ := congrArg Int32.toInt ef3027; have z2_ := congrArg Int32.toInt ef3028; have z3_ := congrArg Int32.toInt ef3029; have z4_ := congrArg Int32.toInt ef3030; have z5_ := congrArg Int32.toInt (rd_w k3026 (rd_o k3014 (rd_a k3011 (rd_a k3009 (rd_w k2964 (rd_w k2935 (rd_w k2896 (rd_w k2872 ef1829 rfl) rfl) rfl) rfl) rfl) rfl) rfl) rfl); have z6_ := congrArg Int32.toInt (rd_w k3026 (rd_s k3014) rfl); have z7_ := congrArg Int32.toInt (rd_w k3026 (rd_o k3014 (rd_a k3011 (rd_s k3009) rfl) rfl) rfl); have z8_ := congrArg Int32.toInt (rd_w k3026 (rd_o k3014 (rd_a k3011 (rd_o k3009 (rd_w k2964 (rd_w k2935 (rd_w k2896 (rd_w k2872 ef1832 rfl) rfl) rfl) rfl) rfl) rfl) rfl) rfl); have z9_ := congrArg Int32.toInt (rd_w k3026 (rd_o k3014 (rd_a k3011 (rd_o k3009 (rd_w k2964 (rd_w k2935 (rd_w k2896 (rd_w k2872 ef1833 rfl) rfl) rfl) rfl) rfl) rfl) rfl) rfl); have z10_ := congrArg Int32.toInt (rd_w k3026 (rd_o k3014 (rd_a k3011 (rd_o k3009 (rd_w k2964 (rd_w k2935 (rd_w k2896 (rd_w k2872 ef1834 rfl) rfl) rfl) rfl) rfl) rfl) rfl) rfl); have z_ := w_lits; have zl_ := l_lits; omega) (by have z0_ := congrArg Int32.toInt (rd_w k3026 (rd_o k3014 (rd_a k3011 (rd_a k3009 (rd_w k2964 (rd_w k2935 (rd_w k2896 (rd_w k2872 z1824 rfl) rfl) rfl) rfl) rfl) rfl) rfl) rfl); have z1_ := congrArg Int32.toInt ef3027; have z2_ := congrArg Int32.toInt ef3028; have z3_ := congrArg Int32.toInt ef3029; have z4_ := congrArg Int32.toInt ef3030; have z5_ := congrArg Int32.toInt (rd_w k3026 (rd_o k3014 (rd_a k3011 (rd_a k3009 (rd_w k2964 (rd_w k2935 (rd_w k2896 (rd_w k2872 ef1829 rfl) rfl) rfl) rfl) rfl) rfl) rfl) rfl); have z6_ := congrArg Int32.toInt (rd_w k3026 (rd_s k3014) rfl); have z7_ := congrArg Int32.toInt (rd_w k3026 (rd_o k3014 (rd_a k3011 (rd_s k3009) rfl) rfl) rfl); have z8_ := congrArg Int32.toInt (rd_w k3026 (rd_o k3014 (rd_a k3011 (rd_o k3009 (rd_w k2964 (rd_w k2935 (rd_w k2896 (rd_w k2872 ef1832 rfl) rfl) rfl) rfl) rfl) rfl) rfl) rfl); have z9_ := congrArg Int32.toInt (rd_w k3026 (rd_o k3014 (rd_a k3011 (rd_o k3009 (rd_w k2964 (rd_w k2935 (rd_w k2896 (rd_w k2872 ef1833 rfl) rfl) rfl) rfl) rfl) rfl) rfl) rfl); have z10_ := congrArg Int32.toInt (rd_w k3026 (rd_o k3014 (rd_a k3011 (rd_o k3009 (rd_w k2964 (rd_w k2935 (rd_w k2896 (rd_w k2872 ef1834 rfl) rfl) rfl) rfl) rfl) rfl) rfl) rfl); have z_ := w_lits; have zl_ := l_lits; omega) (by have z0_ := congrArg Int32.toInt (rd_w k3026 (rd_o k3014 (rd_a k3011 (rd_a k3009 (rd_w k2964 (rd_w k2935 (rd_w k2896 (rd_w k2872 z1824 rfl) rfl) rfl) rfl) rfl) rfl) rfl) rfl); have z1_ := congrArg Int32.toInt ef3027; have z2_ := congrArg Int32.toInt ef3028; have z3_ := congrArg Int32.toInt ef3029; have z4_ := congrArg Int32.toInt ef3030; have z5_ := congrArg Int32.toInt (rd_w k3026 (rd_o k3014 (rd_a k3011 (rd_a k3009 (rd_w k2964 (rd_w k2935 (rd_w k2896 (rd_w k2872 ef1829 rfl) rfl) rfl) rfl) rfl) rfl) rfl) rfl); have z6_ := congrArg Int32.toInt (rd_w k3026 (rd_s k3014) rfl); have z7_ := congrArg Int32.toInt (rd_w k3026 (rd_o k3014 (rd_a k3011 (rd_s k3009) rfl) rfl) rfl); have z8_ := congrArg Int32.toInt (rd_w k3026 (rd_o k3014 (rd_a k3011 (rd_o k3009 (rd_w k2964 (rd_w k2935 (rd_w k2896 (rd_w k2872 ef1832 rfl) rfl) rfl) rfl) rfl) rfl) rfl) rfl); have z9_ := congrArg Int32.toInt (rd_w k3026 (rd_o k3014 (rd_a k3011 (rd_o k3009 (rd_w k2964 (rd_w k2935 (rd_w k2896 (rd_w k2872 ef1833 rfl) rfl) rfl) rfl) rfl) rfl) rfl) rfl); have z10_ := congrArg Int32.toInt (rd_w k3026 (rd_o k3014 (rd_a k3011 (rd_o k3009 (rd_w k2964 (rd_w k2935 (rd_w k2896 (rd_w k2872 ef1834 rfl) rfl) rfl) rfl) rfl) rfl) rfl) rfl); have z_ := w_lits; have zl_ := l_lits; omega))))
                  · refine ev_aload_n rfl rfl rfl ?_
                    refine ev_getV (v := f1829) rfl rfl fl_X10_234 rfl rfl rfl (rd_w k2964 (rd_w k2935 (rd_w k2896 (rd_w k2872 ef1829 rfl) rfl) rfl) rfl) ?_
                    refine ev_iasK (j := 1) (n := 5) (l := 0) (u := 60) hJ2964 (by decide : B 1 1 1) (by decide) (by decide) (by decide) rfl bf1829 (by decide) (by decide) rfl rfl rfl rfl rfl (fun h3042 hJ3042 k3042 => ?_)
                    refine ev_aload_n rfl rfl rfl ?_
                    refine ev_getR (y := 77) rfl rfl fl_X10_63 rfl rfl rfl rfl ?_
                    refine ev_aload_n rfl rfl rfl ?_
                    refine ev_getV (v := 1) rfl rfl fl_X10_241 rfl rfl rfl (rd_a k3042 (rd_w k2964 (rd_w k2935 (rd_w k2896 (rd_w k2872 ef1830 rfl) rfl) rfl) rfl) rfl) ?_
                    refine ev_iload_n rfl rfl rfl ?_
                    have b3043 : B f1827 0 20 := ⟨(by have z0_ := congrArg Int32.toInt (rd_a k3042 (rd_w k2964 (rd_w k2935 (rd_w k2896 (rd_w k2872 z1824 rfl) rfl) rfl) rfl) rfl); have z1_ := congrArg Int32.toInt (rd_a k3042 (rd_w k2964 (rd_w k2935 ef2897 rfl) rfl) rfl); have z2_ := congrArg Int32.toInt (rd_a k3042 ef2965 rfl); have z3_ := congrArg Int32.toInt (rd_a k3042 (rd_w k2964 (rd_w k2935 ef2899 rfl) rfl) rfl); have z4_ := congrArg Int32.toInt (rd_a k3042 (rd_w k2964 (rd_w k2935 ef2900 rfl) rfl) rfl); have z5_ := congrArg Int32.toInt (rd_a k3042 (rd_w k2964 (rd_w k2935 (rd_w k2896 (rd_w k2872 ef1829 rfl) rfl) rfl) rfl) rfl); have z6_ := congrArg Int32.toInt (rd_a k3042 (rd_w k2964 (rd_w k2935 (rd_w k2896 (rd_w k2872 ef1830 rfl) rfl) rfl) rfl) rfl); have z7_ := congrArg Int32.toInt (rd_o k3042 (rd_w k2964 (rd_w k2935 (rd_w k2896 (rd_w k2872 ef1831 rfl) rfl) rfl) rfl) rfl); have z8_ := congrArg Int32.toInt (rd_s k3042); have z9_ := congrArg Int32.toInt (rd_o k3042 (rd_w k2964 (rd_w k2935 (rd_w k2896 (rd_w k2872 ef1833 rfl) rfl) rfl) rfl) rfl); have z10_ := congrArg Int32.toInt (rd_o k3042 (rd_w k2964 (rd_w k2935 (rd_w k2896 (rd_w k2872 ef1834 rfl) rfl) rfl) rfl) rfl); have z_ := w_lits; have zl_ := l_lits; omega), (by have z0_ := congrArg Int32.toInt (rd_a k3042 (rd_w k2964 (rd_w k2935 (rd_w k2896 (rd_w k2872 z1824 rfl) rfl) rfl) rfl) rfl); have z1_ := congrArg Int32.toInt (rd_a k3042 (rd_w k2964 (rd_w k2935 ef2897 rfl) rfl) rfl); have z2_ := congrArg Int32.toInt (rd_a k3042 ef2965 rfl); have z3_ := congrArg Int32.toInt (rd_a k3042 (rd_w k2964 (rd_w k2935 ef2899 rfl) rfl) rfl); have z4_ := congrArg Int32.toInt (rd_a k3042 (rd_w k2964 (rd_w k2935 ef2900 rfl) rfl) rfl); have z5_ := congrArg Int32.toInt (rd_a k3042 (rd_w k2964 (rd_w k2935 (rd_w k2896 (rd_w k2872 ef1829 rfl) rfl) rfl) rfl) rfl); have z6_ := congrArg Int32.toInt (rd_a k3042 (rd_w k2964 (rd_w k2935 (rd_w k2896 (rd_w k2872 ef1830 rfl) rfl) rfl) rfl) rfl); have z7_ := congrArg Int32.toInt (rd_o k3042 (rd_w k2964 (rd_w k2935 (rd_w k2896 (rd_w k2872 ef1831 rfl) rfl) rfl) rfl) rfl); have z8_ := congrArg Int32.toInt (rd_s k3042); have z9_ := congrArg Int32.toInt (rd_o k3042 (rd_w k2964 (rd_w k2935 (rd_w k2896 (rd_w k2872 ef1833 rfl) rfl) rfl) rfl) rfl); have z10_ := congrArg Int32.toInt (rd_o k3042 (rd_w k2964 (rd_w k2935 (rd_w k2896 (rd_w k2872 ef1834 rfl) rfl) rfl) rfl) rfl); have z_ := w_lits; have zl_ := l_lits; omega)⟩
                    refine ev_iasW (n := 5) (l := 0) (u := 20) hJ3042 (by decide : B 1 1 1) (by decide) (by decide) (fun _ => rfl) b3043 (by decide) (by decide) (fun _ => rfl) rfl rfl rfl rfl (fun h3044 hJ3044 k3044 => ?_)
                    refine ev_aload_n rfl rfl rfl ?_
                    refine ev_dup rfl rfl rfl ?_
                    refine ev_getV (v := 1) rfl rfl fl_X10_241 rfl rfl rfl (rd_a k3044 (rd_a k3042 (rd_w k2964 (rd_w k2935 (rd_w k2896 (rd_w k2872 ef1830 rfl) rfl) rfl) rfl) rfl) rfl) ?_
                    refine ev_iconst (v := 1) rfl rfl (by decide) ?_
                    refine ev_iaddB (l := 2) (u := 2) rfl rfl (by decide : B 1 1 1) (by decide : B 1 1 1) (by decide) (by decide) (by decide) (by decide) (fun v3045 b3045 e3045 g3045 => ?_)
                    have e3045x := e3045; rw [show (1 : Int32).toInt = 1 from by decide] at e3045x
                    have b3046 : B v3045 0 4 := ⟨(by have z0_ := congrArg Int32.toInt (rd_a k3044 (rd_a k3042 (rd_w k2964 (rd_w k2935 (rd_w k2896 (rd_w k2872 z1824 rfl) rfl) rfl) rfl) rfl) rfl); have z1_ := congrArg Int32.toInt (rd_a k3044 (rd_a k3042 (rd_w k2964 (rd_w k2935 ef2897 rfl) rfl) rfl) rfl); have z2_ := congrArg Int32.toInt (rd_a k3044 (rd_a k3042 ef2965 rfl) rfl); have z3_ := congrArg Int32.toInt (rd_a k3044 (rd_a k3042 (rd_w k2964 (rd_w k2935 ef2899 rfl) rfl) rfl) rfl); have z4_ := congrArg Int32.toInt (rd_a k3044 (rd_a k3042 (rd_w k2964 (rd_w k2935 ef2900 rfl) rfl) rfl) rfl); have z5_ := congrArg Int32.toInt (rd_a k3044 (rd_a k3042 (rd_w k2964 (rd_w k2935 (rd_w k2896 (rd_w k2872 ef1829 rfl) rfl) rfl) rfl) rfl) rfl); have z6_ := congrArg Int32.toInt (rd_a k3044 (rd_a k3042 (rd_w k2964 (rd_w k2935 (rd_w k2896 (rd_w k2872 ef1830 rfl) rfl) rfl) rfl) rfl) rfl); have z7_ := congrArg Int32.toInt (rd_a k3044 (rd_o k3042 (rd_w k2964 (rd_w k2935 (rd_w k2896 (rd_w k2872 ef1831 rfl) rfl) rfl) rfl) rfl) rfl); have z8_ := congrArg Int32.toInt (rd_a k3044 (rd_s k3042) rfl); have z9_ := congrArg Int32.toInt (rd_a k3044 (rd_o k3042 (rd_w k2964 (rd_w k2935 (rd_w k2896 (rd_w k2872 ef1833 rfl) rfl) rfl) rfl) rfl) rfl); have z10_ := congrArg Int32.toInt (rd_a k3044 (rd_o k3042 (rd_w k2964 (rd_w k2935 (rd_w k2896 (rd_w k2872 ef1834 rfl) rfl) rfl) rfl) rfl) rfl); have z_ := w_lits; have zl_ := l_lits; omega), (by have z0_ := congrArg Int32.toInt (rd_a k3044 (rd_a k3042 (rd_w k2964 (rd_w k2935 (rd_w k2896 (rd_w k2872 z1824 rfl) rfl) rfl) rfl) rfl) rfl); have z1_ := congrArg Int32.toInt (rd_a k3044 (rd_a k3042 (rd_w k2964 (rd_w k2935 ef2897 rfl) rfl) rfl) rfl); have z2_ := congrArg Int32.toInt (rd_a k3044 (rd_a k3042 ef2965 rfl) rfl); have z3_ := congrArg Int32.toInt (rd_a k3044 (rd_a k3042 (rd_w k2964 (rd_w k2935 ef2899 rfl) rfl) rfl) rfl); have z4_ := congrArg Int32.toInt (rd_a k3044 (rd_a k3042 (rd_w k2964 (rd_w k2935 ef2900 rfl) rfl) rfl) rfl); have z5_ := congrArg Int32.toInt (rd_a k3044 (rd_a k3042 (rd_w k2964 (rd_w k2935 (rd_w k2896 (rd_w k2872 ef1829 rfl) rfl) rfl) rfl) rfl) rfl); have z6_ := congrArg Int32.toInt (rd_a k3044 (rd_a k3042 (rd_w k2964 (rd_w k2935 (rd_w k2896 (rd_w k2872 ef1830 rfl) rfl) rfl) rfl) rfl) rfl); have z7_ := congrArg Int32.toInt (rd_a k3044 (rd_o k3042 (rd_w k2964 (rd_w k2935 (rd_w k2896 (rd_w k2872 ef1831 rfl) rfl) rfl) rfl) rfl) rfl); have z8_ := congrArg Int32.toInt (rd_a k3044 (rd_s k3042) rfl); have z9_ := congrArg Int32.toInt (rd_a k3044 (rd_o k3042 (rd_w k2964 (rd_w k2935 (rd_w k2896 (rd_w k2872 ef1833 rfl) rfl) rfl) rfl) rfl) rfl); have z10_ := congrArg Int32.toInt (rd_a k3044 (rd_o k3042 (rd_w k2964 (rd_w k2935 (rd_w k2896 (rd_w k2872 ef1834 rfl) rfl) rfl) rfl) rfl) rfl); have z_ := w_lits; have zl_ := l_lits; omega)⟩
                    refine ev_putW (l := 0) (u := 4) hJ3044 rfl b3046 (by decide) (by decide) rfl rfl rfl fl_X10_241 rfl rfl rfl rfl rfl (fun h3047 hJ3047 k3047 => ?_)
                    refine ev_iconst (v := 1) rfl rfl (by decide) ?_
                    refine ev_istore_n rfl rfl rfl rfl ?_
                    dsimp only [List.set]
                    refine ev_aload_n rfl rfl rfl ?_
                    have z3048 := congrArg Int32.toInt (rd_o k3047 (rd_a k3044 (rd_a k3042 (rd_w k2964 (rd_w k2935 (rd_w k2896 (rd_w k2872 z1824 rfl) rfl) rfl) rfl) rfl) rfl) rfl)
                    have z3049 := congrArg Int32.toInt (rd_o k3047 (rd_a k3044 (rd_a k3042 (rd_w k2964 (rd_w k2935 ef2897 rfl) rfl) rfl) rfl) rfl)
                    have z3050 := congrArg Int32.toInt (rd_o k3047 (rd_a k3044 (rd_a k3042 ef2965 rfl) rfl) rfl)
                    have z3051 := congrArg Int32.toInt (rd_o k3047 (rd_a k3044 (rd_a k3042 (rd_w k2964 (rd_w k2935 ef2899 rfl) rfl) rfl) rfl) rfl)
                    have z3052 := congrArg Int32.toInt (rd_o k3047 (rd_a k3044 (rd_a k3042 (rd_w k2964 (rd_w k2935 ef2900 rfl) rfl) rfl) rfl) rfl)
                    have z3053 := congrArg Int32.toInt (rd_o k3047 (rd_a k3044 (rd_a k3042 (rd_w k2964 (rd_w k2935 (rd_w k2896 (rd_w k2872 ef1829 rfl) rfl) rfl) rfl) rfl) rfl) rfl)
                    have z3054 := congrArg Int32.toInt (rd_s k3047)
                    have z3055 := congrArg Int32.toInt (rd_o k3047 (rd_a k3044 (rd_o k3042 (rd_w k2964 (rd_w k2935 (rd_w k2896 (rd_w k2872 ef1831 rfl) rfl) rfl) rfl) rfl) rfl) rfl)
                    have z3056 := congrArg Int32.toInt (rd_o k3047 (rd_a k3044 (rd_s k3042) rfl) rfl)
                    have z3057 := congrArg Int32.toInt (rd_o k3047 (rd_a k3044 (rd_o k3042 (rd_w k2964 (rd_w k2935 (rd_w k2896 (rd_w k2872 ef1833 rfl) rfl) rfl) rfl) rfl) rfl) rfl)
                    have z3058 := congrArg Int32.toInt (rd_o k3047 (rd_a k3044 (rd_o k3042 (rd_w k2964 (rd_w k2935 (rd_w k2896 (rd_w k2872 ef1834 rfl) rfl) rfl) rfl) rfl) rfl) rfl)
                    refine ev_V0K hJ3047 rfl rfl rfl lk_X10_251 vt_X10_next rfl rfl rfl rfl rfl (w_X10_next_63 L b h3047 hJ3047.1 (by have z0_ := congrArg Int32.toInt (rd_o k3047 (rd_a k3044 (rd_a k3042 (rd_w k2964 (rd_w k2935 (rd_w k2896 (rd_w k2872 z1824 rfl) rfl) rfl) rfl) rfl) rfl) rfl); have z1_ := congrArg Int32.toInt (rd_o k3047 (rd_a k3044 (rd_a k3042 (rd_w k2964 (rd_w k2935 ef2897 rfl) rfl) rfl) rfl) rfl); have z2_ := congrArg Int32.toInt (rd_o k3047 (rd_a k3044 (rd_a k3042 ef2965 rfl) rfl) rfl); have z3_ := congrArg Int32.toInt (rd_o k3047 (rd_a k3044 (rd_a k3042 (rd_w k2964 (rd_w k2935 ef2899 rfl) rfl) rfl) rfl) rfl); have z4_ := congrArg Int32.toInt (rd_o k3047 (rd_a k3044 (rd_a k3042 (rd_w k2964 (rd_w k2935 ef2900 rfl) rfl) rfl) rfl) rfl); have z5_ := congrArg Int32.toInt (rd_o k3047 (rd_a k3044 (rd_a k3042 (rd_w k2964 (rd_w k2935 (rd_w k2896 (rd_w k2872 ef1829 rfl) rfl) rfl) rfl) rfl) rfl) rfl); have z6_ := congrArg Int32.toInt (rd_s k3047); have z7_ := congrArg Int32.toInt (rd_o k3047 (rd_a k3044 (rd_o k3042 (rd_w k2964 (rd_w k2935 (rd_w k2896 (rd_w k2872 ef1831 rfl) rfl) rfl) rfl) rfl) rfl) rfl); have z8_ := congrArg Int32.toInt (rd_o k3047 (rd_a k3044 (rd_s k3042) rfl) rfl); have z9_ := congrArg Int32.toInt (rd_o k3047 (rd_a k3044 (rd_o k3042 (rd_w k2964 (rd_w k2935 (rd_w k2896 (rd_w k2872 ef1833 rfl) rfl) rfl) rfl) rfl) rfl) rfl); have z10_ := congrArg Int32.toInt (rd_o k3047 (rd_a k3044 (rd_o k3042 (rd_w k2964 (rd_w k2935 (rd_w k2896 (rd_w k2872 ef1834 rfl) rfl) rfl) rfl) rfl) rfl) rfl); have z_ := w_lits; have zl_ := l_lits; omega)) (fun h3059 hJ3059 k3059 m3059 => ?_)
                    obtain ⟨m3059_0, m3059_1, m3059_2, m3059_3, m3059_4⟩ := m3059
                    obtain ⟨f3060, ef3060⟩ : ∃ f_, h3059 63 17 = f_ := ⟨_, rfl⟩
                    have bf3060 : B f3060 0 160 := by have z_ := hJ3059.1 63 17; rw [ef3060] at z_; exact z_
                    have zf3060 := congrArg Int32.toInt ef3060
                    obtain ⟨f3061, ef3061⟩ : ∃ f_, h3059 63 21 = f_ := ⟨_, rfl⟩
                    have bf3061 : B f3061 0 6 := by have z_ := hJ3059.1 63 21; rw [ef3061] at z_; exact z_
                    have zf3061 := congrArg Int32.toInt ef3061
                    obtain ⟨f3062, ef3062⟩ : ∃ f_, h3059 63 20 = f_ := ⟨_, rfl⟩
                    have bf3062 : B f3062 (-2147483648) 2147483647 := by have z_ := hJ3059.1 63 20; rw [ef3062] at z_; exact z_
                    have zf3062 := congrArg Int32.toInt ef3062
                    obtain ⟨f3063, ef3063⟩ : ∃ f_, h3059 63 19 = f_ := ⟨_, rfl⟩
                    have bf3063 : B f3063 0 3 := by have z_ := hJ3059.1 63 19; rw [ef3063] at z_; exact z_
                    have zf3063 := congrArg Int32.toInt ef3063
                    have z3064 := congrArg Int32.toInt (rd_w k3059 (rd_o k3047 (rd_a k3044 (rd_a k3042 (rd_w k2964 (rd_w k2935 (rd_w k2896 (rd_w k2872 z1824 rfl) rfl) rfl) rfl) rfl) rfl) rfl) rfl)
                    have z3065 := congrArg Int32.toInt ef3060
                    have z3066 := congrArg Int32.toInt ef3061
                    have z3067 := congrArg Int32.toInt ef3062
                    have z3068 := congrArg Int32.toInt ef3063
                    have z3069 := congrArg Int32.toInt (rd_w k3059 (rd_o k3047 (rd_a k3044 (rd_a k3042 (rd_w k2964 (rd_w k2935 (rd_w k2896 (rd_w k2872 ef1829 rfl) rfl) rfl) rfl) rfl) rfl) rfl) rfl)
                    have z3070 := congrArg Int32.toInt (rd_w k3059 (rd_s k3047) rfl)
                    have z3071 := congrArg Int32.toInt (rd_w k3059 (rd_o k3047 (rd_a k3044 (rd_o k3042 (rd_w k2964 (rd_w k2935 (rd_w k2896 (rd_w k2872 ef1831 rfl) rfl) rfl) rfl) rfl) rfl) rfl) rfl)
                    have z3072 := congrArg Int32.toInt (rd_w k3059 (rd_o k3047 (rd_a k3044 (rd_s k3042) rfl) rfl) rfl)
                    have z3073 := congrArg Int32.toInt (rd_w k3059 (rd_o k3047 (rd_a k3044 (rd_o k3042 (rd_w k2964 (rd_w k2935 (rd_w k2896 (rd_w k2872 ef1833 rfl) rfl) rfl) rfl) rfl) rfl) rfl) rfl)
                    have z3074 := congrArg Int32.toInt (rd_w k3059 (rd_o k3047 (rd_a k3044 (rd_o k3042 (rd_w k2964 (rd_w k2935 (rd_w k2896 (rd_w k2872 ef1834 rfl) rfl) rfl) rfl) rfl) rfl) rfl) rfl)
                    refine ev_goto rfl rfl ?_
                    exact (EvQ.drop 3 (ih19 1 w1819 h3059 ((by decide : B 1 1 1).mono (by decide) (by decide)) b1821 hJ3059 (rd_w k3059 (rd_o k3047 (rd_a k3044 (rd_a k3042 (rd_w k2964 (rd_w k2935 (rd_w k2896 (rd_w k2872 z1824 rfl) rfl) rfl) rfl) rfl) rfl) rfl) rfl) (by have z0_ := congrArg Int32.toInt (rd_w k3059 (rd_o k3047 (rd_a k3044 (rd_a k3042 (rd_w k2964 (rd_w k2935 (rd_w k2896 (rd_w k2872 z1824 rfl) rfl) rfl) rfl) rfl) rfl) rfl) rfl); have z1_ := congrArg Int32.toInt ef3060; have z2_ := congrArg Int32.toInt ef3061; have z3_ := congrArg Int32.toInt ef3062; have z4_ := congrArg Int32.toInt ef3063; have z5_ := congrArg Int32.toInt (rd_w k3059 (rd_o k3047 (rd_a k3044 (rd_a k3042 (rd_w k2964 (rd_w k2935 (rd_w k2896 (rd_w k2872 ef1829 rfl) rfl) rfl) rfl) rfl) rfl) rfl) rfl); have z6_ := congrArg Int32.toInt (rd_w k3059 (rd_s k3047) rfl); have z7_ := congrArg Int32.toInt (rd_w k3059 (rd_o k3047 (rd_a k3044 (rd_o k3042 (rd_w k2964 (rd_w k2935 (rd_w k2896 (rd_w k2872 ef1831 rfl) rfl) rfl) rfl) rfl) rfl) rfl) rfl); have z8_ := congrArg Int32.toInt (rd_w k3059 (rd_o k3047 (rd_a k3044 (rd_s k3042) rfl) rfl) rfl); have z9_ := congrArg Int32.toInt (rd_w k3059 (rd_o k3047 (rd_a k3044 (rd_o k3042 (rd_w k2964 (rd_w k2935 (rd_w k2896 (rd_w k2872 ef1833 rfl) rfl) rfl) rfl) rfl) rfl) rfl) rfl); have z10_ := congrArg Int32.toInt (rd_w k3059 (rd_o k3047 (rd_a k3044 (rd_o k3042 (rd_w k2964 (rd_w k2935 (rd_w k2896 (rd_w k2872 ef1834 rfl) rfl) rfl) rfl) rfl) rfl) rfl) rfl); have z_ := w_lits; have zl_ := l_lits; omega) (by have z0_ := congrArg Int32.toInt (rd_w k3059 (rd_o k3047 (rd_a k3044 (rd_a k3042 (rd_w k2964 (rd_w k2935 (rd_w k2896 (rd_w k2872 z1824 rfl) rfl) rfl) rfl) rfl) rfl) rfl) rfl); have z1_ := congrArg Int32.toInt ef3060; have z2_ := congrArg Int32.toInt ef3061; have z3_ := congrArg Int32.toInt ef3062; have z4_ := congrArg Int32.toInt ef3063; have z5_ := congrArg Int32.toInt (rd_w k3059 (rd_o k3047 (rd_a k3044 (rd_a k3042 (rd_w k2964 (rd_w k2935 (rd_w k2896 (rd_w k2872 ef1829 rfl) rfl) rfl) rfl) rfl) rfl) rfl) rfl); have z6_ := congrArg Int32.toInt (rd_w k3059 (rd_s k3047) rfl); have z7_ := congrArg Int32.toInt (rd_w k3059 (rd_o k3047 (rd_a k3044 (rd_o k3042 (rd_w k2964 (rd_w k2935 (rd_w k2896 (rd_w k2872 ef1831 rfl) rfl) rfl) rfl) rfl) rfl) rfl) rfl); have z8_ := congrArg Int32.toInt (rd_w k3059 (rd_o k3047 (rd_a k3044 (rd_s k3042) rfl) rfl) rfl); have z9_ := congrArg Int32.toInt (rd_w k3059 (rd_o k3047 (rd_a k3044 (rd_o k3042 (rd_w k2964 (rd_w k2935 (rd_w k2896 (rd_w k2872 ef1833 rfl) rfl) rfl) rfl) rfl) rfl) rfl) rfl); have z10_ := congrArg Int32.toInt (rd_w k3059 (rd_o k3047 (rd_a k3044 (rd_o k3042 (rd_w k2964 (rd_w k2935 (rd_w k2896 (rd_w k2872 ef1834 rfl) rfl) rfl) rfl) rfl) rfl) rfl) rfl); have z_ := w_lits; have zl_ := l_lits; omega) (by have z0_ := congrArg Int32.toInt (rd_w k3059 (rd_o k3047 (rd_a k3044 (rd_a k3042 (rd_w k2964 (rd_w k2935 (rd_w k2896 (rd_w k2872 z1824 rfl) rfl) rfl) rfl) rfl) rfl) rfl) rfl); have z1_ := congrArg Int32.toInt ef3060; have z2_ := congrArg Int32.toInt ef3061; have z3_ := congrArg Int32.toInt ef3062; have z4_ := congrArg Int32.toInt ef3063; have z5_ := congrArg Int32.toInt (rd_w k3059 (rd_o k3047 (rd_a k3044 (rd_a k3042 (rd_w k2964 (rd_w k2935 (rd_w k2896 (rd_w k2872 ef1829 rfl) rfl) rfl) rfl) rfl) rfl) rfl) rfl); have z6_ := congrArg Int32.toInt (rd_w k3059 (rd_s k3047) rfl); have z7_ := congrArg Int32.toInt (rd_w k3059 (rd_o k3047 (rd_a k3044 (rd_o k3042 (rd_w k2964 (rd_w k2935 (rd_w k2896 (rd_w k2872 ef1831 rfl) rfl) rfl) rfl) rfl) rfl) rfl) rfl); have z8_ := congrArg Int32.toInt (rd_w k3059 (rd_o k3047 (rd_a k3044 (rd_s k3042) rfl) rfl) rfl); have z9_ := congrArg Int32.toInt (rd_w k3059 (rd_o k3047 (rd_a k3044 (rd_o k3042 (rd_w k2964 (rd_w k2935 (rd_w k2896 (rd_w k2872 ef1833 rfl) rfl) rfl) rfl) rfl) rfl) rfl) rfl); have z10_ := congrArg Int32.toInt (rd_w k3059 (rd_o k3047 (rd_a k3044 (rd_o k3042 (rd_w k2964 (rd_w k2935 (rd_w k2896 (rd_w k2872 ef1834 rfl) rfl) rfl) rfl) rfl) rfl) rfl) rfl); have z_ := w_lits; have zl_ := l_lits; omega) (by have z0_ := congrArg Int32.toInt (rd_w k3059 (rd_o k3047 (rd_a k3044 (rd_a k3042 (rd_w k2964 (rd_w k2935 (rd_w k2896 (rd_w k2872 z1824 rfl) rfl) rfl) rfl) rfl) rfl) rfl) rfl); have z1_ := congrArg Int32.toInt ef3060; have z2_ := congrArg Int32.toInt ef3061; have z3_ := congrArg Int32.toInt ef3062; have z4_ := congrArg Int32.toInt ef3063; have z5_ := congrArg Int32.toInt (rd_w k3059 (rd_o k3047 (rd_a k3044 (rd_a k3042 (rd_w k2964 (rd_w k2935 (rd_w k2896 (rd_w k2872 ef1829 rfl) rfl) rfl) rfl) rfl) rfl) rfl) rfl); have z6_ := congrArg Int32.toInt (rd_w k3059 (rd_s k3047) rfl); have z7_ := congrArg Int32.toInt (rd_w k3059 (rd_o k3047 (rd_a k3044 (rd_o k3042 (rd_w k2964 (rd_w k2935 (rd_w k2896 (rd_w k2872 ef1831 rfl) rfl) rfl) rfl) rfl) rfl) rfl) rfl); have z8_ := congrArg Int32.toInt (rd_w k3059 (rd_o k3047 (rd_a k3044 (rd_s k3042) rfl) rfl) rfl); have z9_ := congrArg Int32.toInt (rd_w k3059 (rd_o k3047 (rd_a k3044 (rd_o k3042 (rd_w k2964 (rd_w k2935 (rd_w k2896 (rd_w k2872 ef1833 rfl) rfl) rfl) rfl) rfl) rfl) rfl) rfl); have z10_ := congrArg Int32.toInt (rd_w k3059 (rd_o k3047 (rd_a k3044 (rd_o k3042 (rd_w k2964 (rd_w k2935 (rd_w k2896 (rd_w k2872 ef1834 rfl) rfl) rfl) rfl) rfl) rfl) rfl) rfl); have z_ := w_lits; have zl_ := l_lits; omega) (by have z0_ := congrArg Int32.toInt (rd_w k3059 (rd_o k3047 (rd_a k3044 (rd_a k3042 (rd_w k2964 (rd_w k2935 (rd_w k2896 (rd_w k2872 z1824 rfl) rfl) rfl) rfl) rfl) rfl) rfl) rfl); have z1_ := congrArg Int32.toInt ef3060; have z2_ := congrArg Int32.toInt ef3061; have z3_ := congrArg Int32.toInt ef3062; have z4_ := congrArg Int32.toInt ef3063; have z5_ := congrArg Int32.toInt (rd_w k3059 (rd_o k3047 (rd_a k3044 (rd_a k3042 (rd_w k2964 (rd_w k2935 (rd_w k2896 (rd_w k2872 ef1829 rfl) rfl) rfl) rfl) rfl) rfl) rfl) rfl); have z6_ := congrArg Int32.toInt (rd_w k3059 (rd_s k3047) rfl); have z7_ := congrArg Int32.toInt (rd_w k3059 (rd_o k3047 (rd_a k3044 (rd_o k3042 (rd_w k2964 (rd_w k2935 (rd_w k2896 (rd_w k2872 ef1831 rfl) rfl) rfl) rfl) rfl) rfl) rfl) rfl); have z8_ := congrArg Int32.toInt (rd_w k3059 (rd_o k3047 (rd_a k3044 (rd_s k3042) rfl) rfl) rfl); have z9_ := congrArg Int32.toInt (rd_w k3059 (rd_o k3047 (rd_a k3044 (rd_o k3042 (rd_w k2964 (rd_w k2935 (rd_w k2896 (rd_w k2872 ef1833 rfl) rfl) rfl) rfl) rfl) rfl) rfl) rfl); have z10_ := congrArg Int32.toInt (rd_w k3059 (rd_o k3047 (rd_a k3044 (rd_o k3042 (rd_w k2964 (rd_w k2935 (rd_w k2896 (rd_w k2872 ef1834 rfl) rfl) rfl) rfl) rfl) rfl) rfl) rfl); have z_ := w_lits; have zl_ := l_lits; omega) (by have z0_ := congrArg Int32.toInt (rd_w k3059 (rd_o k3047 (rd_a k3044 (rd_a k3042 (rd_w k2964 (rd_w k2935 (rd_w k2896 (rd_w k2872 z1824 rfl) rfl) rfl) rfl) rfl) rfl) rfl) rfl); have z1_ := congrArg Int32.toInt ef3060; have z2_ := congrArg Int32.toInt ef3061; have z3_ := congrArg Int32.toInt ef3062; have z4_ := congrArg Int32.toInt ef3063; have z5_ := congrArg Int32.toInt (rd_w k3059 (rd_o k3047 (rd_a k3044 (rd_a k3042 (rd_w k2964 (rd_w k2935 (rd_w k2896 (rd_w k2872 ef1829 rfl) rfl) rfl) rfl) rfl) rfl) rfl) rfl); have z6_ := congrArg Int32.toInt (rd_w k3059 (rd_s k3047) rfl); have z7_ := congrArg Int32.toInt (rd_w k3059 (rd_o k3047 (rd_a k3044 (rd_o k3042 (rd_w k2964 (rd_w k2935 (rd_w k2896 (rd_w k2872 ef1831 rfl) rfl) rfl) rfl) rfl) rfl) rfl) rfl); have z8_ := congrArg Int32.toInt (rd_w k3059 (rd_o k3047 (rd_a k3044 (rd_s k3042) rfl) rfl) rfl); have z9_ := congrArg Int32.toInt (rd_w k3059 (rd_o k3047 (rd_a k3044 (rd_o k3042 (rd_w k2964 (rd_w k2935 (rd_w k2896 (rd_w k2872 ef1833 rfl) rfl) rfl) rfl) rfl) rfl) rfl) rfl); have z10_ := congrArg Int32.toInt (rd_w k3059 (rd_o k3047 (rd_a k3044 (rd_o k3042 (rd_w k2964 (rd_w k2935 (rd_w k2896 (rd_w k2872 ef1834 rfl) rfl) rfl) rfl) rfl) rfl) rfl) rfl); have z_ := w_lits; have zl_ := l_lits; omega) (mM_dec hm19 (by have z0_ := congrArg Int32.toInt (rd_w k3059 (rd_o k3047 (rd_a k3044 (rd_a k3042 (rd_w k2964 (rd_w k2935 (rd_w k2896 (rd_w k2872 z1824 rfl) rfl) rfl) rfl) rfl) rfl) rfl) rfl); have z1_ := congrArg Int32.toInt ef3060; have z2_ := congrArg Int32.toInt ef3061; have z3_ := congrArg Int32.toInt ef3062; have z4_ := congrArg Int32.toInt ef3063; have z5_ := congrArg Int32.toInt (rd_w k3059 (rd_o k3047 (rd_a k3044 (rd_a k3042 (rd_w k2964 (rd_w k2935 (rd_w k2896 (rd_w k2872 ef1829 rfl) rfl) rfl) rfl) rfl) rfl) rfl) rfl); have z6_ := congrArg Int32.toInt (rd_w k3059 (rd_s k3047) rfl); have z7_ := congrArg Int32.toInt (rd_w k3059 (rd_o k3047 (rd_a k3044 (rd_o k3042 (rd_w k2964 (rd_w k2935 (rd_w k2896 (rd_w k2872 ef1831 rfl) rfl) rfl) rfl) rfl) rfl) rfl) rfl); have z8_ := congrArg Int32.toInt (rd_w k3059 (rd_o k3047 (rd_a k3044 (rd_s k3042) rfl) rfl) rfl); have z9_ := congrArg Int32.toInt (rd_w k3059 (rd_o k3047 (rd_a k3044 (rd_o k3042 (rd_w k2964 (rd_w k2935 (rd_w k2896 (rd_w k2872 ef1833 rfl) rfl) rfl) rfl) rfl) rfl) rfl) rfl); have z10_ := congrArg Int32.toInt (rd_w k3059 (rd_o k3047 (rd_a k3044 (rd_o k3042 (rd_w k2964 (rd_w k2935 (rd_w k2896 (rd_w k2872 ef1834 rfl) rfl) rfl) rfl) rfl) rfl) rfl) rfl); have z_ := w_lits; have zl_ := l_lits; omega) (by have z0_ := congrArg Int32.toInt (rd_w k3059 (rd_o k3047 (rd_a k3044 (rd_a k3042 (rd_w k2964 (rd_w k2935 (rd_w k2896 (rd_w k2872 z1824 rfl) rfl) rfl) rfl) rfl) rfl) rfl) rfl); have z1_ := congrArg Int32.toInt ef3060; have z2_ := congrArg Int32.toInt ef3061; have z3_ := congrArg Int32.toInt ef3062; have z4_ := congrArg Int32.toInt ef3063; have z5_ := congrArg Int32.toInt (rd_w k3059 (rd_o k3047 (rd_a k3044 (rd_a k3042 (rd_w k2964 (rd_w k2935 (rd_w k2896 (rd_w k2872 ef1829 rfl) rfl) rfl) rfl) rfl) rfl) rfl) rfl); have z6_ := congrArg Int32.toInt (rd_w k3059 (rd_s k3047) rfl); have z7_ := congrArg Int32.toInt (rd_w k3059 (rd_o k3047 (rd_a k3044 (rd_o k3042 (rd_w k2964 (rd_w k2935 (rd_w k2896 (rd_w k2872 ef1831 rfl) rfl) rfl) rfl) rfl) rfl) rfl) rfl); have z8_ := congrArg Int32.toInt (rd_w k3059 (rd_o k3047 (rd_a k3044 (rd_s k3042) rfl) rfl) rfl); have z9_ := congrArg Int32.toInt (rd_w k3059 (rd_o k3047 (rd_a k3044 (rd_o k3042 (rd_w k2964 (rd_w k2935 (rd_w k2896 (rd_w k2872 ef1833 rfl) rfl) rfl) rfl) rfl) rfl) rfl) rfl); have z10_ := congrArg Int32.toInt (rd_w k3059 (rd_o k3047 (rd_a k3044 (rd_o k3042 (rd_w k2964 (rd_w k2935 (rd_w k2896 (rd_w k2872 ef1834 rfl) rfl) rfl) rfl) rfl) rfl) rfl) rfl); have z_ := w_lits; have zl_ := l_lits; omega) (by have z0_ := congrArg Int32.toInt (rd_w k3059 (rd_o k3047 (rd_a k3044 (rd_a k3042 (rd_w k2964 (rd_w k2935 (rd_w k2896 (rd_w k2872 z1824 rfl) rfl) rfl) rfl) rfl) rfl) rfl) rfl); have z1_ := congrArg Int32.toInt ef3060; have z2_ := congrArg Int32.toInt ef3061; have z3_ := congrArg Int32.toInt ef3062; have z4_ := congrArg Int32.toInt ef3063; have z5_ := congrArg Int32.toInt (rd_w k3059 (rd_o k3047 (rd_a k3044 (rd_a k3042 (rd_w k2964 (rd_w k2935 (rd_w k2896 (rd_w k2872 ef1829 rfl) rfl) rfl) rfl) rfl) rfl) rfl) rfl); have z6_ := congrArg Int32.toInt (rd_w k3059 (rd_s k3047) rfl); have z7_ := congrArg Int32.toInt (rd_w k3059 (rd_o k3047 (rd_a k3044 (rd_o k3042 (rd_w k2964 (rd_w k2935 (rd_w k2896 (rd_w k2872 ef1831 rfl) rfl) rfl) rfl) rfl) rfl) rfl) rfl); have z8_ := congrArg Int32.toInt (rd_w k3059 (rd_o k3047 (rd_a k3044 (rd_s k3042) rfl) rfl) rfl); have z9_ := congrArg Int32.toInt (rd_w k3059 (rd_o k3047 (rd_a k3044 (rd_o k3042 (rd_w k2964 (rd_w k2935 (rd_w k2896 (rd_w k2872 ef1833 rfl) rfl) rfl) rfl) rfl) rfl) rfl) rfl); have z10_ := congrArg Int32.toInt (rd_w k3059 (rd_o k3047 (rd_a k3044 (rd_o k3042 (rd_w k2964 (rd_w k2935 (rd_w k2896 (rd_w k2872 ef1834 rfl) rfl) rfl) rfl) rfl) rfl) rfl) rfl); have z_ := w_lits; have zl_ := l_lits; omega))))
                  · refine ev_aload_n rfl rfl rfl ?_
                    refine ev_getV (v := f1829) rfl rfl fl_X10_234 rfl rfl rfl (rd_w k2964 (rd_w k2935 (rd_w k2896 (rd_w k2872 ef1829 rfl) rfl) rfl) rfl) ?_
                    refine ev_iasK (j := 2) (n := 5) (l := 0) (u := 60) hJ2964 (by decide : B 2 2 2) (by decide) (by decide) (by decide) rfl bf1829 (by decide) (by decide) rfl rfl rfl rfl rfl (fun h3075 hJ3075 k3075 => ?_)
                    refine ev_aload_n rfl rfl rfl ?_
                    refine ev_getR (y := 77) rfl rfl fl_X10_63 rfl rfl rfl rfl ?_
                    refine ev_aload_n rfl rfl rfl ?_
                    refine ev_getV (v := 2) rfl rfl fl_X10_241 rfl rfl rfl (rd_a k3075 (rd_w k2964 (rd_w k2935 (rd_w k2896 (rd_w k2872 ef1830 rfl) rfl) rfl) rfl) rfl) ?_
                    refine ev_iload_n rfl rfl rfl ?_
                    have b3076 : B f1827 0 20 := ⟨(by have z0_ := congrArg Int32.toInt (rd_a k3075 (rd_w k2964 (rd_w k2935 (rd_w k2896 (rd_w k2872 z1824 rfl) rfl) rfl) rfl) rfl); have z1_ := congrArg Int32.toInt (rd_a k3075 (rd_w k2964 (rd_w k2935 ef2897 rfl) rfl) rfl); have z2_ := congrArg Int32.toInt (rd_a k3075 ef2965 rfl); have z3_ := congrArg Int32.toInt (rd_a k3075 (rd_w k2964 (rd_w k2935 ef2899 rfl) rfl) rfl); have z4_ := congrArg Int32.toInt (rd_a k3075 (rd_w k2964 (rd_w k2935 ef2900 rfl) rfl) rfl); have z5_ := congrArg Int32.toInt (rd_a k3075 (rd_w k2964 (rd_w k2935 (rd_w k2896 (rd_w k2872 ef1829 rfl) rfl) rfl) rfl) rfl); have z6_ := congrArg Int32.toInt (rd_a k3075 (rd_w k2964 (rd_w k2935 (rd_w k2896 (rd_w k2872 ef1830 rfl) rfl) rfl) rfl) rfl); have z7_ := congrArg Int32.toInt (rd_o k3075 (rd_w k2964 (rd_w k2935 (rd_w k2896 (rd_w k2872 ef1831 rfl) rfl) rfl) rfl) rfl); have z8_ := congrArg Int32.toInt (rd_o k3075 (rd_w k2964 (rd_w k2935 (rd_w k2896 (rd_w k2872 ef1832 rfl) rfl) rfl) rfl) rfl); have z9_ := congrArg Int32.toInt (rd_s k3075); have z10_ := congrArg Int32.toInt (rd_o k3075 (rd_w k2964 (rd_w k2935 (rd_w k2896 (rd_w k2872 ef1834 rfl) rfl) rfl) rfl) rfl); have z_ := w_lits; have zl_ := l_lits; omega), (by have z0_ := congrArg Int32.toInt (rd_a k3075 (rd_w k2964 (rd_w k2935 (rd_w k2896 (rd_w k2872 z1824 rfl) rfl) rfl) rfl) rfl); have z1_ := congrArg Int32.toInt (rd_a k3075 (rd_w k2964 (rd_w k2935 ef2897 rfl) rfl) rfl); have z2_ := congrArg Int32.toInt (rd_a k3075 ef2965 rfl); have z3_ := congrArg Int32.toInt (rd_a k3075 (rd_w k2964 (rd_w k2935 ef2899 rfl) rfl) rfl); have z4_ := congrArg Int32.toInt (rd_a k3075 (rd_w k2964 (rd_w k2935 ef2900 rfl) rfl) rfl); have z5_ := congrArg Int32.toInt (rd_a k3075 (rd_w k2964 (rd_w k2935 (rd_w k2896 (rd_w k2872 ef1829 rfl) rfl) rfl) rfl) rfl); have z6_ := congrArg Int32.toInt (rd_a k3075 (rd_w k2964 (rd_w k2935 (rd_w k2896 (rd_w k2872 ef1830 rfl) rfl) rfl) rfl) rfl); have z7_ := congrArg Int32.toInt (rd_o k3075 (rd_w k2964 (rd_w k2935 (rd_w k2896 (rd_w k2872 ef1831 rfl) rfl) rfl) rfl) rfl); have z8_ := congrArg Int32.toInt (rd_o k3075 (rd_w k2964 (rd_w k2935 (rd_w k2896 (rd_w k2872 ef1832 rfl) rfl) rfl) rfl) rfl); have z9_ := congrArg Int32.toInt (rd_s k3075); have z10_ := congrArg Int32.toInt (rd_o k3075 (rd_w k2964 (rd_w k2935 (rd_w k2896 (rd_w k2872 ef1834 rfl) rfl) rfl) rfl) rfl); have z_ := w_lits; have zl_ := l_lits; omega)⟩
                    refine ev_iasW (n := 5) (l := 0) (u := 20) hJ3075 (by decide : B 2 2 2) (by decide) (by decide) (fun _ => rfl) b3076 (by decide) (by decide) (fun _ => rfl) rfl rfl rfl rfl (fun h3077 hJ3077 k3077 => ?_)
                    refine ev_aload_n rfl rfl rfl ?_
                    refine ev_dup rfl rfl rfl ?_
                    refine ev_getV (v := 2) rfl rfl fl_X10_241 rfl rfl rfl (rd_a k3077 (rd_a k3075 (rd_w k2964 (rd_w k2935 (rd_w k2896 (rd_w k2872 ef1830 rfl) rfl) rfl) rfl) rfl) rfl) ?_
                    refine ev_iconst (v := 1) rfl rfl (by decide) ?_
                    refine ev_iaddB (l := 3) (u := 3) rfl rfl (by decide : B 2 2 2) (by decide : B 1 1 1) (by decide) (by decide) (by decide) (by decide) (fun v3078 b3078 e3078 g3078 => ?_)
                    have e3078x := e3078; rw [show (2 : Int32).toInt = 2 from by decide] at e3078x
                    have e3078xx := e3078x; rw [show (1 : Int32).toInt = 1 from by decide] at e3078xx
                    have b3079 : B v3078 0 4 := ⟨(by have z0_ := congrArg Int32.toInt (rd_a k3077 (rd_a k3075 (rd_w k2964 (rd_w k2935 (rd_w k2896 (rd_w k2872 z1824 rfl) rfl) rfl) rfl) rfl) rfl); have z1_ := congrArg Int32.toInt (rd_a k3077 (rd_a k3075 (rd_w k2964 (rd_w k2935 ef2897 rfl) rfl) rfl) rfl); have z2_ := congrArg Int32.toInt (rd_a k3077 (rd_a k3075 ef2965 rfl) rfl); have z3_ := congrArg Int32.toInt (rd_a k3077 (rd_a k3075 (rd_w k2964 (rd_w k2935 ef2899 rfl) rfl) rfl) rfl); have z4_ := congrArg Int32.toInt (rd_a k3077 (rd_a k3075 (rd_w k2964 (rd_w k2935 ef2900 rfl) rfl) rfl) rfl); have z5_ := congrArg Int32.toInt (rd_a k3077 (rd_a k3075 (rd_w k2964 (rd_w k2935 (rd_w k2896 (rd_w k2872 ef1829 rfl) rfl) rfl) rfl) rfl) rfl); have z6_ := congrArg Int32.toInt (rd_a k3077 (rd_a k3075 (rd_w k2964 (rd_w k2935 (rd_w k2896 (rd_w k2872 ef1830 rfl) rfl) rfl) rfl) rfl) rfl); have z7_ := congrArg Int32.toInt (rd_a k3077 (rd_o k3075 (rd_w k2964 (rd_w k2935 (rd_w k2896 (rd_w k2872 ef1831 rfl) rfl) rfl) rfl) rfl) rfl); have z8_ := congrArg Int32.toInt (rd_a k3077 (rd_o k3075 (rd_w k2964 (rd_w k2935 (rd_w k2896 (rd_w k2872 ef1832 rfl) rfl) rfl) rfl) rfl) rfl); have z9_ := congrArg Int32.toInt (rd_a k3077 (rd_s k3075) rfl); have z10_ := congrArg Int32.toInt (rd_a k3077 (rd_o k3075 (rd_w k2964 (rd_w k2935 (rd_w k2896 (rd_w k2872 ef1834 rfl) rfl) rfl) rfl) rfl) rfl); have z_ := w_lits; have zl_ := l_lits; omega), (by have z0_ := congrArg Int32.toInt (rd_a k3077 (rd_a k3075 (rd_w k2964 (rd_w k2935 (rd_w k2896 (rd_w k2872 z1824 rfl) rfl) rfl) rfl) rfl) rfl); have z1_ := congrArg Int32.toInt (rd_a k3077 (rd_a k3075 (rd_w k2964 (rd_w k2935 ef2897 rfl) rfl) rfl) rfl); have z2_ := congrArg Int32.toInt (rd_a k3077 (rd_a k3075 ef2965 rfl) rfl); have z3_ := congrArg Int32.toInt (rd_a k3077 (rd_a k3075 (rd_w k2964 (rd_w k2935 ef2899 rfl) rfl) rfl) rfl); have z4_ := congrArg Int32.toInt (rd_a k3077 (rd_a k3075 (rd_w k2964 (rd_w k2935 ef2900 rfl) rfl) rfl) rfl); have z5_ := congrArg Int32.toInt (rd_a k3077 (rd_a k3075 (rd_w k2964 (rd_w k2935 (rd_w k2896 (rd_w k2872 ef1829 rfl) rfl) rfl) rfl) rfl) rfl); have z6_ := congrArg Int32.toInt (rd_a k3077 (rd_a k3075 (rd_w k2964 (rd_w k2935 (rd_w k2896 (rd_w k2872 ef1830 rfl) rfl) rfl) rfl) rfl) rfl); have z7_ := congrArg Int32.toInt (rd_a k3077 (rd_o k3075 (rd_w k2964 (rd_w k2935 (rd_w k2896 (rd_w k2872 ef1831 rfl) rfl) rfl) rfl) rfl) rfl); have z8_ := congrArg Int32.toInt (rd_a k3077 (rd_o k3075 (rd_w k2964 (rd_w k2935 (rd_w k2896 (rd_w k2872 ef1832 rfl) rfl) rfl) rfl) rfl) rfl); have z9_ := congrArg Int32.toInt (rd_a k3077 (rd_s k3075) rfl); have z10_ := congrArg Int32.toInt (rd_a k3077 (rd_o k3075 (rd_w k2964 (rd_w k2935 (rd_w k2896 (rd_w k2872 ef1834 rfl) rfl) rfl) rfl) rfl) rfl); have z_ := w_lits; have zl_ := l_lits; omega)⟩
                    refine ev_putW (l := 0) (u := 4) hJ3077 rfl b3079 (by decide) (by decide) rfl rfl rfl fl_X10_241 rfl rfl rfl rfl rfl (fun h3080 hJ3080 k3080 => ?_)
                    refine ev_iconst (v := 1) rfl rfl (by decide) ?_
                    refine ev_istore_n rfl rfl rfl rfl ?_
                    dsimp only [List.set]
                    refine ev_aload_n rfl rfl rfl ?_
                    have z3081 := congrArg Int32.toInt (rd_o k3080 (rd_a k3077 (rd_a k3075 (rd_w k2964 (rd_w k2935 (rd_w k2896 (rd_w k2872 z1824 rfl) rfl) rfl) rfl) rfl) rfl) rfl)
                    have z3082 := congrArg Int32.toInt (rd_o k3080 (rd_a k3077 (rd_a k3075 (rd_w k2964 (rd_w k2935 ef2897 rfl) rfl) rfl) rfl) rfl)
                    have z3083 := congrArg Int32.toInt (rd_o k3080 (rd_a k3077 (rd_a k3075 ef2965 rfl) rfl) rfl)
                    have z3084 := congrArg Int32.toInt (rd_o k3080 (rd_a k3077 (rd_a k3075 (rd_w k2964 (rd_w k2935 ef2899 rfl) rfl) rfl) rfl) rfl)
                    have z3085 := congrArg Int32.toInt (rd_o k3080 (rd_a k3077 (rd_a k3075 (rd_w k2964 (rd_w k2935 ef2900 rfl) rfl) rfl) rfl) rfl)
                    have z3086 := congrArg Int32.toInt (rd_o k3080 (rd_a k3077 (rd_a k3075 (rd_w k2964 (rd_w k2935 (rd_w k2896 (rd_w k2872 ef1829 rfl) rfl) rfl) rfl) rfl) rfl) rfl)
                    have z3087 := congrArg Int32.toInt (rd_s k3080)
                    have z3088 := congrArg Int32.toInt (rd_o k3080 (rd_a k3077 (rd_o k3075 (rd_w k2964 (rd_w k2935 (rd_w k2896 (rd_w k2872 ef1831 rfl) rfl) rfl) rfl) rfl) rfl) rfl)
                    have z3089 := congrArg Int32.toInt (rd_o k3080 (rd_a k3077 (rd_o k3075 (rd_w k2964 (rd_w k2935 (rd_w k2896 (rd_w k2872 ef1832 rfl) rfl) rfl) rfl) rfl) rfl) rfl)
                    have z3090 := congrArg Int32.toInt (rd_o k3080 (rd_a k3077 (rd_s k3075) rfl) rfl)
                    have z3091 := congrArg Int32.toInt (rd_o k3080 (rd_a k3077 (rd_o k3075 (rd_w k2964 (rd_w k2935 (rd_w k2896 (rd_w k2872 ef1834 rfl) rfl) rfl) rfl) rfl) rfl) rfl)
                    refine ev_V0K hJ3080 rfl rfl rfl lk_X10_251 vt_X10_next rfl rfl rfl rfl rfl (w_X10_next_63 L b h3080 hJ3080.1 (by have z0_ := congrArg Int32.toInt (rd_o k3080 (rd_a k3077 (rd_a k3075 (rd_w k2964 (rd_w k2935 (rd_w k2896 (rd_w k2872 z1824 rfl) rfl) rfl) rfl) rfl) rfl) rfl); have z1_ := congrArg Int32.toInt (rd_o k3080 (rd_a k3077 (rd_a k3075 (rd_w k2964 (rd_w k2935 ef2897 rfl) rfl) rfl) rfl) rfl); have z2_ := congrArg Int32.toInt (rd_o k3080 (rd_a k3077 (rd_a k3075 ef2965 rfl) rfl) rfl); have z3_ := congrArg Int32.toInt (rd_o k3080 (rd_a k3077 (rd_a k3075 (rd_w k2964 (rd_w k2935 ef2899 rfl) rfl) rfl) rfl) rfl); have z4_ := congrArg Int32.toInt (rd_o k3080 (rd_a k3077 (rd_a k3075 (rd_w k2964 (rd_w k2935 ef2900 rfl) rfl) rfl) rfl) rfl); have z5_ := congrArg Int32.toInt (rd_o k3080 (rd_a k3077 (rd_a k3075 (rd_w k2964 (rd_w k2935 (rd_w k2896 (rd_w k2872 ef1829 rfl) rfl) rfl) rfl) rfl) rfl) rfl); have z6_ := congrArg Int32.toInt (rd_s k3080); have z7_ := congrArg Int32.toInt (rd_o k3080 (rd_a k3077 (rd_o k3075 (rd_w k2964 (rd_w k2935 (rd_w k2896 (rd_w k2872 ef1831 rfl) rfl) rfl) rfl) rfl) rfl) rfl); have z8_ := congrArg Int32.toInt (rd_o k3080 (rd_a k3077 (rd_o k3075 (rd_w k2964 (rd_w k2935 (rd_w k2896 (rd_w k2872 ef1832 rfl) rfl) rfl) rfl) rfl) rfl) rfl); have z9_ := congrArg Int32.toInt (rd_o k3080 (rd_a k3077 (rd_s k3075) rfl) rfl); have z10_ := congrArg Int32.toInt (rd_o k3080 (rd_a k3077 (rd_o k3075 (rd_w k2964 (rd_w k2935 (rd_w k2896 (rd_w k2872 ef1834 rfl) rfl) rfl) rfl) rfl) rfl) rfl); have z_ := w_lits; have zl_ := l_lits; omega)) (fun h3092 hJ3092 k3092 m3092 => ?_)
                    obtain ⟨m3092_0, m3092_1, m3092_2, m3092_3, m3092_4⟩ := m3092
                    obtain ⟨f3093, ef3093⟩ : ∃ f_, h3092 63 17 = f_ := ⟨_, rfl⟩
                    have bf3093 : B f3093 0 160 := by have z_ := hJ3092.1 63 17; rw [ef3093] at z_; exact z_
                    have zf3093 := congrArg Int32.toInt ef3093
                    obtain ⟨f3094, ef3094⟩ : ∃ f_, h3092 63 21 = f_ := ⟨_, rfl⟩
                    have bf3094 : B f3094 0 6 := by have z_ := hJ3092.1 63 21; rw [ef3094] at z_; exact z_
                    have zf3094 := congrArg Int32.toInt ef3094
                    obtain ⟨f3095, ef3095⟩ : ∃ f_, h3092 63 20 = f_ := ⟨_, rfl⟩
                    have bf3095 : B f3095 (-2147483648) 2147483647 := by have z_ := hJ3092.1 63 20; rw [ef3095] at z_; exact z_
                    have zf3095 := congrArg Int32.toInt ef3095
                    obtain ⟨f3096, ef3096⟩ : ∃ f_, h3092 63 19 = f_ := ⟨_, rfl⟩
                    have bf3096 : B f3096 0 3 := by have z_ := hJ3092.1 63 19; rw [ef3096] at z_; exact z_
                    have zf3096 := congrArg Int32.toInt ef3096
                    have z3097 := congrArg Int32.toInt (rd_w k3092 (rd_o k3080 (rd_a k3077 (rd_a k3075 (rd_w k2964 (rd_w k2935 (rd_w k2896 (rd_w k2872 z1824 rfl) rfl) rfl) rfl) rfl) rfl) rfl) rfl)
                    have z3098 := congrArg Int32.toInt ef3093
                    have z3099 := congrArg Int32.toInt ef3094
                    have z3100 := congrArg Int32.toInt ef3095
                    have z3101 := congrArg Int32.toInt ef3096
                    have z3102 := congrArg Int32.toInt (rd_w k3092 (rd_o k3080 (rd_a k3077 (rd_a k3075 (rd_w k2964 (rd_w k2935 (rd_w k2896 (rd_w k2872 ef1829 rfl) rfl) rfl) rfl) rfl) rfl) rfl) rfl)
                    have z3103 := congrArg Int32.toInt (rd_w k3092 (rd_s k3080) rfl)
                    have z3104 := congrArg Int32.toInt (rd_w k3092 (rd_o k3080 (rd_a k3077 (rd_o k3075 (rd_w k2964 (rd_w k2935 (rd_w k2896 (rd_w k2872 ef1831 rfl) rfl) rfl) rfl) rfl) rfl) rfl) rfl)
                    have z3105 := congrArg Int32.toInt (rd_w k3092 (rd_o k3080 (rd_a k3077 (rd_o k3075 (rd_w k2964 (rd_w k2935 (rd_w k2896 (rd_w k2872 ef1832 rfl) rfl) rfl) rfl) rfl) rfl) rfl) rfl)
                    have z3106 := congrArg Int32.toInt (rd_w k3092 (rd_o k3080 (rd_a k3077 (rd_s k3075) rfl) rfl) rfl)
                    have z3107 := congrArg Int32.toInt (rd_w k3092 (rd_o k3080 (rd_a k3077 (rd_o k3075 (rd_w k2964 (rd_w k2935 (rd_w k2896 (rd_w k2872 ef1834 rfl) rfl) rfl) rfl) rfl) rfl) rfl) rfl)
                    refine ev_goto rfl rfl ?_
                    exact (EvQ.drop 3 (ih19 1 w1819 h3092 ((by decide : B 1 1 1).mono (by decide) (by decide)) b1821 hJ3092 (rd_w k3092 (rd_o k3080 (rd_a k3077 (rd_a k3075 (rd_w k2964 (rd_w k2935 (rd_w k2896 (rd_w k2872 z1824 rfl) rfl) rfl) rfl) rfl) rfl) rfl) rfl) (by have z0_ := congrArg Int32.toInt (rd_w k3092 (rd_o k3080 (rd_a k3077 (rd_a k3075 (rd_w k2964 (rd_w k2935 (rd_w k2896 (rd_w k2872 z1824 rfl) rfl) rfl) rfl) rfl) rfl) rfl) rfl); have z1_ := congrArg Int32.toInt ef3093; have z2_ := congrArg Int32.toInt ef3094; have z3_ := congrArg Int32.toInt ef3095; have z4_ := congrArg Int32.toInt ef3096; have z5_ := congrArg Int32.toInt (rd_w k3092 (rd_o k3080 (rd_a k3077 (rd_a k3075 (rd_w k2964 (rd_w k2935 (rd_w k2896 (rd_w k2872 ef1829 rfl) rfl) rfl) rfl) rfl) rfl) rfl) rfl); have z6_ := congrArg Int32.toInt (rd_w k3092 (rd_s k3080) rfl); have z7_ := congrArg Int32.toInt (rd_w k3092 (rd_o k3080 (rd_a k3077 (rd_o k3075 (rd_w k2964 (rd_w k2935 (rd_w k2896 (rd_w k2872 ef1831 rfl) rfl) rfl) rfl) rfl) rfl) rfl) rfl); have z8_ := congrArg Int32.toInt (rd_w k3092 (rd_o k3080 (rd_a k3077 (rd_o k3075 (rd_w k2964 (rd_w k2935 (rd_w k2896 (rd_w k2872 ef1832 rfl) rfl) rfl) rfl) rfl) rfl) rfl) rfl); have z9_ := congrArg Int32.toInt (rd_w k3092 (rd_o k3080 (rd_a k3077 (rd_s k3075) rfl) rfl) rfl); have z10_ := congrArg Int32.toInt (rd_w k3092 (rd_o k3080 (rd_a k3077 (rd_o k3075 (rd_w k2964 (rd_w k2935 (rd_w k2896 (rd_w k2872 ef1834 rfl) rfl) rfl) rfl) rfl) rfl) rfl) rfl); have z_ := w_lits; have zl_ := l_lits; omega) (by have z0_ := congrArg Int32.toInt (rd_w k3092 (rd_o k3080 (rd_a k3077 (rd_a k3075 (rd_w k2964 (rd_w k2935 (rd_w k2896 (rd_w k2872 z1824 rfl) rfl) rfl) rfl) rfl) rfl) rfl) rfl); have z1_ := congrArg Int32.toInt ef3093; have z2_ := congrArg Int32.toInt ef3094; have z3_ := congrArg Int32.toInt ef3095; have z4_ := congrArg Int32.toInt ef3096; have z5_ := congrArg Int32.toInt (rd_w k3092 (rd_o k3080 (rd_a k3077 (rd_a k3075 (rd_w k2964 (rd_w k2935 (rd_w k2896 (rd_w k2872 ef1829 rfl) rfl) rfl) rfl) rfl) rfl) rfl) rfl); have z6_ := congrArg Int32.toInt (rd_w k3092 (rd_s k3080) rfl); have z7_ := congrArg Int32.toInt (rd_w k3092 (rd_o k3080 (rd_a k3077 (rd_o k3075 (rd_w k2964 (rd_w k2935 (rd_w k2896 (rd_w k2872 ef1831 rfl) rfl) rfl) rfl) rfl) rfl) rfl) rfl); have z8_ := congrArg Int32.toInt (rd_w k3092 (rd_o k3080 (rd_a k3077 (rd_o k3075 (rd_w k2964 (rd_w k2935 (rd_w k2896 (rd_w k2872 ef1832 rfl) rfl) rfl) rfl) rfl) rfl) rfl) rfl); have z9_ := congrArg Int32.toInt (rd_w k3092 (rd_o k3080 (rd_a k3077 (rd_s k3075) rfl) rfl) rfl); have z10_ := congrArg Int32.toInt (rd_w k3092 (rd_o k3080 (rd_a k3077 (rd_o k3075 (rd_w k2964 (rd_w k2935 (rd_w k2896 (rd_w k2872 ef1834 rfl) rfl) rfl) rfl) rfl) rfl) rfl) rfl); have z_ := w_lits; have zl_ := l_lits; omega) (by have z0_ := congrArg Int32.toInt (rd_w k3092 (rd_o k3080 (rd_a k3077 (rd_a k3075 (rd_w k2964 (rd_w k2935 (rd_w k2896 (rd_w k2872 z1824 rfl) rfl) rfl) rfl) rfl) rfl) rfl) rfl); have z1_ := congrArg Int32.toInt ef3093; have z2_ := congrArg Int32.toInt ef3094; have z3_ := congrArg Int32.toInt ef3095; have z4_ := congrArg Int32.toInt ef3096; have z5_ := congrArg Int32.toInt (rd_w k3092 (rd_o k3080 (rd_a k3077 (rd_a k3075 (rd_w k2964 (rd_w k2935 (rd_w k2896 (rd_w k2872 ef1829 rfl) rfl) rfl) rfl) rfl) rfl) rfl) rfl); have z6_ := congrArg Int32.toInt (rd_w k3092 (rd_s k3080) rfl); have z7_ := congrArg Int32.toInt (rd_w k3092 (rd_o k3080 (rd_a k3077 (rd_o k3075 (rd_w k2964 (rd_w k2935 (rd_w k2896 (rd_w k2872 ef1831 rfl) rfl) rfl) rfl) rfl) rfl) rfl) rfl); have z8_ := congrArg Int32.toInt (rd_w k3092 (rd_o k3080 (rd_a k3077 (rd_o k3075 (rd_w k2964 (rd_w k2935 (rd_w k2896 (rd_w k2872 ef1832 rfl) rfl) rfl) rfl) rfl) rfl) rfl) rfl); have z9_ := congrArg Int32.toInt (rd_w k3092 (rd_o k3080 (rd_a k3077 (rd_s k3075) rfl) rfl) rfl); have z10_ := congrArg Int32.toInt (rd_w k3092 (rd_o k3080 (rd_a k3077 (rd_o k3075 (rd_w k2964 (rd_w k2935 (rd_w k2896 (rd_w k2872 ef1834 rfl) rfl) rfl) rfl) rfl) rfl) rfl) rfl); have z_ := w_lits; have zl_ := l_lits; omega) (by have z0_ := congrArg Int32.toInt (rd_w k3092 (rd_o k3080 (rd_a k3077 (rd_a k3075 (rd_w k2964 (rd_w k2935 (rd_w k2896 (rd_w k2872 z1824 rfl) rfl) rfl) rfl) rfl) rfl) rfl) rfl); have z1_ := congrArg Int32.toInt ef3093; have z2_ := congrArg Int32.toInt ef3094; have z3_ := congrArg Int32.toInt ef3095; have z4_ := congrArg Int32.toInt ef3096; have z5_ := congrArg Int32.toInt (rd_w k3092 (rd_o k3080 (rd_a k3077 (rd_a k3075 (rd_w k2964 (rd_w k2935 (rd_w k2896 (rd_w k2872 ef1829 rfl) rfl) rfl) rfl) rfl) rfl) rfl) rfl); have z6_ := congrArg Int32.toInt (rd_w k3092 (rd_s k3080) rfl); have z7_ := congrArg Int32.toInt (rd_w k3092 (rd_o k3080 (rd_a k3077 (rd_o k3075 (rd_w k2964 (rd_w k2935 (rd_w k2896 (rd_w k2872 ef1831 rfl) rfl) rfl) rfl) rfl) rfl) rfl) rfl); have z8_ := congrArg Int32.toInt (rd_w k3092 (rd_o k3080 (rd_a k3077 (rd_o k3075 (rd_w k2964 (rd_w k2935 (rd_w k2896 (rd_w k2872 ef1832 rfl) rfl) rfl) rfl) rfl) rfl) rfl) rfl); have z9_ := congrArg Int32.toInt (rd_w k3092 (rd_o k3080 (rd_a k3077 (rd_s k3075) rfl) rfl) rfl); have z10_ := congrArg Int32.toInt (rd_w k3092 (rd_o k3080 (rd_a k3077 (rd_o k3075 (rd_w k2964 (rd_w k2935 (rd_w k2896 (rd_w k2872 ef1834 rfl) rfl) rfl) rfl) rfl) rfl) rfl) rfl); have z_ := w_lits; have zl_ := l_lits; omega) (by have z0_ := congrArg Int32.toInt (rd_w k3092 (rd_o k3080 (rd_a k3077 (rd_a k3075 (rd_w k2964 (rd_w k2935 (rd_w k2896 (rd_w k2872 z1824 rfl) rfl) rfl) rfl) rfl) rfl) rfl) rfl); have z1_ := congrArg Int32.toInt ef3093; have z2_ := congrArg Int32.toInt ef3094; have z3_ := congrArg Int32.toInt ef3095; have z4_ := congrArg Int32.toInt ef3096; have z5_ := congrArg Int32.toInt (rd_w k3092 (rd_o k3080 (rd_a k3077 (rd_a k3075 (rd_w k2964 (rd_w k2935 (rd_w k2896 (rd_w k2872 ef1829 rfl) rfl) rfl) rfl) rfl) rfl) rfl) rfl); have z6_ := congrArg Int32.toInt (rd_w k3092 (rd_s k3080) rfl); have z7_ := congrArg Int32.toInt (rd_w k3092 (rd_o k3080 (rd_a k3077 (rd_o k3075 (rd_w k2964 (rd_w k2935 (rd_w k2896 (rd_w k2872 ef1831 rfl) rfl) rfl) rfl) rfl) rfl) rfl) rfl); have z8_ := congrArg Int32.toInt (rd_w k3092 (rd_o k3080 (rd_a k3077 (rd_o k3075 (rd_w k2964 (rd_w k2935 (rd_w k2896 (rd_w k2872 ef1832 rfl) rfl) rfl) rfl) rfl) rfl) rfl) rfl); have z9_ := congrArg Int32.toInt (rd_w k3092 (rd_o k3080 (rd_a k3077 (rd_s k3075) rfl) rfl) rfl); have z10_ := congrArg Int32.toInt (rd_w k3092 (rd_o k3080 (rd_a k3077 (rd_o k3075 (rd_w k2964 (rd_w k2935 (rd_w k2896 (rd_w k2872 ef1834 rfl) rfl) rfl) rfl) rfl) rfl) rfl) rfl); have z_ := w_lits; have zl_ := l_lits; omega) (by have z0_ := congrArg Int32.toInt (rd_w k3092 (rd_o k3080 (rd_a k3077 (rd_a k3075 (rd_w k2964 (rd_w k2935 (rd_w k2896 (rd_w k2872 z1824 rfl) rfl) rfl) rfl) rfl) rfl) rfl) rfl); have z1_ := congrArg Int32.toInt ef3093; have z2_ := congrArg Int32.toInt ef3094; have z3_ := congrArg Int32.toInt ef3095; have z4_ := congrArg Int32.toInt ef3096; have z5_ := congrArg Int32.toInt (rd_w k3092 (rd_o k3080 (rd_a k3077 (rd_a k3075 (rd_w k2964 (rd_w k2935 (rd_w k2896 (rd_w k2872 ef1829 rfl) rfl) rfl) rfl) rfl) rfl) rfl) rfl); have z6_ := congrArg Int32.toInt (rd_w k3092 (rd_s k3080) rfl); have z7_ := congrArg Int32.toInt (rd_w k3092 (rd_o k3080 (rd_a k3077 (rd_o k3075 (rd_w k2964 (rd_w k2935 (rd_w k2896 (rd_w k2872 ef1831 rfl) rfl) rfl) rfl) rfl) rfl) rfl) rfl); have z8_ := congrArg Int32.toInt (rd_w k3092 (rd_o k3080 (rd_a k3077 (rd_o k3075 (rd_w k2964 (rd_w k2935 (rd_w k2896 (rd_w k2872 ef1832 rfl) rfl) rfl) rfl) rfl) rfl) rfl) rfl); have z9_ := congrArg Int32.toInt (rd_w k3092 (rd_o k3080 (rd_a k3077 (rd_s k3075) rfl) rfl) rfl); have z10_ := congrArg Int32.toInt (rd_w k3092 (rd_o k3080 (rd_a k3077 (rd_o k3075 (rd_w k2964 (rd_w k2935 (rd_w k2896 (rd_w k2872 ef1834 rfl) rfl) rfl) rfl) rfl) rfl) rfl) rfl); have z_ := w_lits; have zl_ := l_lits; omega) (mM_dec hm19 (by have z0_ := congrArg Int32.toInt (rd_w k3092 (rd_o k3080 (rd_a k3077 (rd_a k3075 (rd_w k2964 (rd_w k2935 (rd_w k2896 (rd_w k2872 z1824 rfl) rfl) rfl) rfl) rfl) rfl) rfl) rfl); have z1_ := congrArg Int32.toInt ef3093; have z2_ := congrArg Int32.toInt ef3094; have z3_ := congrArg Int32.toInt ef3095; have z4_ := congrArg Int32.toInt ef3096; have z5_ := congrArg Int32.toInt (rd_w k3092 (rd_o k3080 (rd_a k3077 (rd_a k3075 (rd_w k2964 (rd_w k2935 (rd_w k2896 (rd_w k2872 ef1829 rfl) rfl) rfl) rfl) rfl) rfl) rfl) rfl); have z6_ := congrArg Int32.toInt (rd_w k3092 (rd_s k3080) rfl); have z7_ := congrArg Int32.toInt (rd_w k3092 (rd_o k3080 (rd_a k3077 (rd_o k3075 (rd_w k2964 (rd_w k2935 (rd_w k2896 (rd_w k2872 ef1831 rfl) rfl) rfl) rfl) rfl) rfl) rfl) rfl); have z8_ := congrArg Int32.toInt (rd_w k3092 (rd_o k3080 (rd_a k3077 (rd_o k3075 (rd_w k2964 (rd_w k2935 (rd_w k2896 (rd_w k2872 ef1832 rfl) rfl) rfl) rfl) rfl) rfl) rfl) rfl); have z9_ := congrArg Int32.toInt (rd_w k3092 (rd_o k3080 (rd_a k3077 (rd_s k3075) rfl) rfl) rfl); have z10_ := congrArg Int32.toInt (rd_w k3092 (rd_o k3080 (rd_a k3077 (rd_o k3075 (rd_w k2964 (rd_w k2935 (rd_w k2896 (rd_w k2872 ef1834 rfl) rfl) rfl) rfl) rfl) rfl) rfl) rfl); have z_ := w_lits; have zl_ := l_lits; omega) (by have z0_ := congrArg Int32.toInt (rd_w k3092 (rd_o k3080 (rd_a k3077 (rd_a k3075 (rd_w k2964 (rd_w k2935 (rd_w k2896 (rd_w k2872 z1824 rfl) rfl) rfl) rfl) rfl) rfl) rfl) rfl); have z1_ := congrArg Int32.toInt ef3093; have z2_ := congrArg Int32.toInt ef3094; have z3_ := congrArg Int32.toInt ef3095; have z4_ := congrArg Int32.toInt ef3096; have z5_ := congrArg Int32.toInt (rd_w k3092 (rd_o k3080 (rd_a k3077 (rd_a k3075 (rd_w k2964 (rd_w k2935 (rd_w k2896 (rd_w k2872 ef1829 rfl) rfl) rfl) rfl) rfl) rfl) rfl) rfl); have z6_ := congrArg Int32.toInt (rd_w k3092 (rd_s k3080) rfl); have z7_ := congrArg Int32.toInt (rd_w k3092 (rd_o k3080 (rd_a k3077 (rd_o k3075 (rd_w k2964 (rd_w k2935 (rd_w k2896 (rd_w k2872 ef1831 rfl) rfl) rfl) rfl) rfl) rfl) rfl) rfl); have z8_ := congrArg Int32.toInt (rd_w k3092 (rd_o k3080 (rd_a k3077 (rd_o k3075 (rd_w k2964 (rd_w k2935 (rd_w k2896 (rd_w k2872 ef1832 rfl) rfl) rfl) rfl) rfl) rfl) rfl) rfl); have z9_ := congrArg Int32.toInt (rd_w k3092 (rd_o k3080 (rd_a k3077 (rd_s k3075) rfl) rfl) rfl); have z10_ := congrArg Int32.toInt (rd_w k3092 (rd_o k3080 (rd_a k3077 (rd_o k3075 (rd_w k2964 (rd_w k2935 (rd_w k2896 (rd_w k2872 ef1834 rfl) rfl) rfl) rfl) rfl) rfl) rfl) rfl); have z_ := w_lits; have zl_ := l_lits; omega) (by have z0_ := congrArg Int32.toInt (rd_w k3092 (rd_o k3080 (rd_a k3077 (rd_a k3075 (rd_w k2964 (rd_w k2935 (rd_w k2896 (rd_w k2872 z1824 rfl) rfl) rfl) rfl) rfl) rfl) rfl) rfl); have z1_ := congrArg Int32.toInt ef3093; have z2_ := congrArg Int32.toInt ef3094; have z3_ := congrArg Int32.toInt ef3095; have z4_ := congrArg Int32.toInt ef3096; have z5_ := congrArg Int32.toInt (rd_w k3092 (rd_o k3080 (rd_a k3077 (rd_a k3075 (rd_w k2964 (rd_w k2935 (rd_w k2896 (rd_w k2872 ef1829 rfl) rfl) rfl) rfl) rfl) rfl) rfl) rfl); have z6_ := congrArg Int32.toInt (rd_w k3092 (rd_s k3080) rfl); have z7_ := congrArg Int32.toInt (rd_w k3092 (rd_o k3080 (rd_a k3077 (rd_o k3075 (rd_w k2964 (rd_w k2935 (rd_w k2896 (rd_w k2872 ef1831 rfl) rfl) rfl) rfl) rfl) rfl) rfl) rfl); have z8_ := congrArg Int32.toInt (rd_w k3092 (rd_o k3080 (rd_a k3077 (rd_o k3075 (rd_w k2964 (rd_w k2935 (rd_w k2896 (rd_w k2872 ef1832 rfl) rfl) rfl) rfl) rfl) rfl) rfl) rfl); have z9_ := congrArg Int32.toInt (rd_w k3092 (rd_o k3080 (rd_a k3077 (rd_s k3075) rfl) rfl) rfl); have z10_ := congrArg Int32.toInt (rd_w k3092 (rd_o k3080 (rd_a k3077 (rd_o k3075 (rd_w k2964 (rd_w k2935 (rd_w k2896 (rd_w k2872 ef1834 rfl) rfl) rfl) rfl) rfl) rfl) rfl) rfl); have z_ := w_lits; have zl_ := l_lits; omega))))
                  · refine ev_aload_n rfl rfl rfl ?_
                    refine ev_getV (v := f1829) rfl rfl fl_X10_234 rfl rfl rfl (rd_w k2964 (rd_w k2935 (rd_w k2896 (rd_w k2872 ef1829 rfl) rfl) rfl) rfl) ?_
                    refine ev_iasK (j := 3) (n := 5) (l := 0) (u := 60) hJ2964 (by decide : B 3 3 3) (by decide) (by decide) (by decide) rfl bf1829 (by decide) (by decide) rfl rfl rfl rfl rfl (fun h3108 hJ3108 k3108 => ?_)
                    refine ev_aload_n rfl rfl rfl ?_
                    refine ev_getR (y := 77) rfl rfl fl_X10_63 rfl rfl rfl rfl ?_
                    refine ev_aload_n rfl rfl rfl ?_
                    refine ev_getV (v := 3) rfl rfl fl_X10_241 rfl rfl rfl (rd_a k3108 (rd_w k2964 (rd_w k2935 (rd_w k2896 (rd_w k2872 ef1830 rfl) rfl) rfl) rfl) rfl) ?_
                    refine ev_iload_n rfl rfl rfl ?_
                    have b3109 : B f1827 0 20 := ⟨(by have z0_ := congrArg Int32.toInt (rd_a k3108 (rd_w k2964 (rd_w k2935 (rd_w k2896 (rd_w k2872 z1824 rfl) rfl) rfl) rfl) rfl); have z1_ := congrArg Int32.toInt (rd_a k3108 (rd_w k2964 (rd_w k2935 ef2897 rfl) rfl) rfl); have z2_ := congrArg Int32.toInt (rd_a k3108 ef2965 rfl); have z3_ := congrArg Int32.toInt (rd_a k3108 (rd_w k2964 (rd_w k2935 ef2899 rfl) rfl) rfl); have z4_ := congrArg Int32.toInt (rd_a k3108 (rd_w k2964 (rd_w k2935 ef2900 rfl) rfl) rfl); have z5_ := congrArg Int32.toInt (rd_a k3108 (rd_w k2964 (rd_w k2935 (rd_w k2896 (rd_w k2872 ef1829 rfl) rfl) rfl) rfl) rfl); have z6_ := congrArg Int32.toInt (rd_a k3108 (rd_w k2964 (rd_w k2935 (rd_w k2896 (rd_w k2872 ef1830 rfl) rfl) rfl) rfl) rfl); have z7_ := congrArg Int32.toInt (rd_o k3108 (rd_w k2964 (rd_w k2935 (rd_w k2896 (rd_w k2872 ef1831 rfl) rfl) rfl) rfl) rfl); have z8_ := congrArg Int32.toInt (rd_o k3108 (rd_w k2964 (rd_w k2935 (rd_w k2896 (rd_w k2872 ef1832 rfl) rfl) rfl) rfl) rfl); have z9_ := congrArg Int32.toInt (rd_o k3108 (rd_w k2964 (rd_w k2935 (rd_w k2896 (rd_w k2872 ef1833 rfl) rfl) rfl) rfl) rfl); have z10_ := congrArg Int32.toInt (rd_s k3108); have z_ := w_lits; have zl_ := l_lits; omega), (by have z0_ := congrArg Int32.toInt (rd_a k3108 (rd_w k2964 (rd_w k2935 (rd_w k2896 (rd_w k2872 z1824 rfl) rfl) rfl) rfl) rfl); have z1_ := congrArg Int32.toInt (rd_a k3108 (rd_w k2964 (rd_w k2935 ef2897 rfl) rfl) rfl); have z2_ := congrArg Int32.toInt (rd_a k3108 ef2965 rfl); have z3_ := congrArg Int32.toInt (rd_a k3108 (rd_w k2964 (rd_w k2935 ef2899 rfl) rfl) rfl); have z4_ := congrArg Int32.toInt (rd_a k3108 (rd_w k2964 (rd_w k2935 ef2900 rfl) rfl) rfl); have z5_ := congrArg Int32.toInt (rd_a k3108 (rd_w k2964 (rd_w k2935 (rd_w k2896 (rd_w k2872 ef1829 rfl) rfl) rfl) rfl) rfl); have z6_ := congrArg Int32.toInt (rd_a k3108 (rd_w k2964 (rd_w k2935 (rd_w k2896 (rd_w k2872 ef1830 rfl) rfl) rfl) rfl) rfl); have z7_ := congrArg Int32.toInt (rd_o k3108 (rd_w k2964 (rd_w k2935 (rd_w k2896 (rd_w k2872 ef1831 rfl) rfl) rfl) rfl) rfl); have z8_ := congrArg Int32.toInt (rd_o k3108 (rd_w k2964 (rd_w k2935 (rd_w k2896 (rd_w k2872 ef1832 rfl) rfl) rfl) rfl) rfl); have z9_ := congrArg Int32.toInt (rd_o k3108 (rd_w k2964 (rd_w k2935 (rd_w k2896 (rd_w k2872 ef1833 rfl) rfl) rfl) rfl) rfl); have z10_ := congrArg Int32.toInt (rd_s k3108); have z_ := w_lits; have zl_ := l_lits; omega)⟩
                    refine ev_iasW (n := 5) (l := 0) (u := 20) hJ3108 (by decide : B 3 3 3) (by decide) (by decide) (fun _ => rfl) b3109 (by decide) (by decide) (fun _ => rfl) rfl rfl rfl rfl (fun h3110 hJ3110 k3110 => ?_)
                    refine ev_aload_n rfl rfl rfl ?_
                    refine ev_dup rfl rfl rfl ?_
                    refine ev_getV (v := 3) rfl rfl fl_X10_241 rfl rfl rfl (rd_a k3110 (rd_a k3108 (rd_w k2964 (rd_w k2935 (rd_w k2896 (rd_w k2872 ef1830 rfl) rfl) rfl) rfl) rfl) rfl) ?_
                    refine ev_iconst (v := 1) rfl rfl (by decide) ?_
                    refine ev_iaddB (l := 4) (u := 4) rfl rfl (by decide : B 3 3 3) (by decide : B 1 1 1) (by decide) (by decide) (by decide) (by decide) (fun v3111 b3111 e3111 g3111 => ?_)
                    have e3111x := e3111; rw [show (1 : Int32).toInt = 1 from by decide] at e3111x
                    have e3111xx := e3111x; rw [show (3 : Int32).toInt = 3 from by decide] at e3111xx
                    have b3112 : B v3111 0 4 := ⟨(by have z0_ := congrArg Int32.toInt (rd_a k3110 (rd_a k3108 (rd_w k2964 (rd_w k2935 (rd_w k2896 (rd_w k2872 z1824 rfl) rfl) rfl) rfl) rfl) rfl); have z1_ := congrArg Int32.toInt (rd_a k3110 (rd_a k3108 (rd_w k2964 (rd_w k2935 ef2897 rfl) rfl) rfl) rfl); have z2_ := congrArg Int32.toInt (rd_a k3110 (rd_a k3108 ef2965 rfl) rfl); have z3_ := congrArg Int32.toInt (rd_a k3110 (rd_a k3108 (rd_w k2964 (rd_w k2935 ef2899 rfl) rfl) rfl) rfl); have z4_ := congrArg Int32.toInt (rd_a k3110 (rd_a k3108 (rd_w k2964 (rd_w k2935 ef2900 rfl) rfl) rfl) rfl); have z5_ := congrArg Int32.toInt (rd_a k3110 (rd_a k3108 (rd_w k2964 (rd_w k2935 (rd_w k2896 (rd_w k2872 ef1829 rfl) rfl) rfl) rfl) rfl) rfl); have z6_ := congrArg Int32.toInt (rd_a k3110 (rd_a k3108 (rd_w k2964 (rd_w k2935 (rd_w k2896 (rd_w k2872 ef1830 rfl) rfl) rfl) rfl) rfl) rfl); have z7_ := congrArg Int32.toInt (rd_a k3110 (rd_o k3108 (rd_w k2964 (rd_w k2935 (rd_w k2896 (rd_w k2872 ef1831 rfl) rfl) rfl) rfl) rfl) rfl); have z8_ := congrArg Int32.toInt (rd_a k3110 (rd_o k3108 (rd_w k2964 (rd_w k2935 (rd_w k2896 (rd_w k2872 ef1832 rfl) rfl) rfl) rfl) rfl) rfl); have z9_ := congrArg Int32.toInt (rd_a k3110 (rd_o k3108 (rd_w k2964 (rd_w k2935 (rd_w k2896 (rd_w k2872 ef1833 rfl) rfl) rfl) rfl) rfl) rfl); have z10_ := congrArg Int32.toInt (rd_a k3110 (rd_s k3108) rfl); have z_ := w_lits; have zl_ := l_lits; omega), (by have z0_ := congrArg Int32.toInt (rd_a k3110 (rd_a k3108 (rd_w k2964 (rd_w k2935 (rd_w k2896 (rd_w k2872 z1824 rfl) rfl) rfl) rfl) rfl) rfl); have z1_ := congrArg Int32.toInt (rd_a k3110 (rd_a k3108 (rd_w k2964 (rd_w k2935 ef2897 rfl) rfl) rfl) rfl); have z2_ := congrArg Int32.toInt (rd_a k3110 (rd_a k3108 ef2965 rfl) rfl); have z3_ := congrArg Int32.toInt (rd_a k3110 (rd_a k3108 (rd_w k2964 (rd_w k2935 ef2899 rfl) rfl) rfl) rfl); have z4_ := congrArg Int32.toInt (rd_a k3110 (rd_a k3108 (rd_w k2964 (rd_w k2935 ef2900 rfl) rfl) rfl) rfl); have z5_ := congrArg Int32.toInt (rd_a k3110 (rd_a k3108 (rd_w k2964 (rd_w k2935 (rd_w k2896 (rd_w k2872 ef1829 rfl) rfl) rfl) rfl) rfl) rfl); have z6_ := congrArg Int32.toInt (rd_a k3110 (rd_a k3108 (rd_w k2964 (rd_w k2935 (rd_w k2896 (rd_w k2872 ef1830 rfl) rfl) rfl) rfl) rfl) rfl); have z7_ := congrArg Int32.toInt (rd_a k3110 (rd_o k3108 (rd_w k2964 (rd_w k2935 (rd_w k2896 (rd_w k2872 ef1831 rfl) rfl) rfl) rfl) rfl) rfl); have z8_ := congrArg Int32.toInt (rd_a k3110 (rd_o k3108 (rd_w k2964 (rd_w k2935 (rd_w k2896 (rd_w k2872 ef1832 rfl) rfl) rfl) rfl) rfl) rfl); have z9_ := congrArg Int32.toInt (rd_a k3110 (rd_o k3108 (rd_w k2964 (rd_w k2935 (rd_w k2896 (rd_w k2872 ef1833 rfl) rfl) rfl) rfl) rfl) rfl); have z10_ := congrArg Int32.toInt (rd_a k3110 (rd_s k3108) rfl); have z_ := w_lits; have zl_ := l_lits; omega)⟩
                    refine ev_putW (l := 0) (u := 4) hJ3110 rfl b3112 (by decide) (by decide) rfl rfl rfl fl_X10_241 rfl rfl rfl rfl rfl (fun h3113 hJ3113 k3113 => ?_)
                    refine ev_iconst (v := 1) rfl rfl (by decide) ?_
                    refine ev_istore_n rfl rfl rfl rfl ?_
                    dsimp only [List.set]
                    refine ev_aload_n rfl rfl rfl ?_
                    have z3114 := congrArg Int32.toInt (rd_o k3113 (rd_a k3110 (rd_a k3108 (rd_w k2964 (rd_w k2935 (rd_w k2896 (rd_w k2872 z1824 rfl) rfl) rfl) rfl) rfl) rfl) rfl)
                    have z3115 := congrArg Int32.toInt (rd_o k3113 (rd_a k3110 (rd_a k3108 (rd_w k2964 (rd_w k2935 ef2897 rfl) rfl) rfl) rfl) rfl)
                    have z3116 := congrArg Int32.toInt (rd_o k3113 (rd_a k3110 (rd_a k3108 ef2965 rfl) rfl) rfl)
                    have z3117 := congrArg Int32.toInt (rd_o k3113 (rd_a k3110 (rd_a k3108 (rd_w k2964 (rd_w k2935 ef2899 rfl) rfl) rfl) rfl) rfl)
                    have z3118 := congrArg Int32.toInt (rd_o k3113 (rd_a k3110 (rd_a k3108 (rd_w k2964 (rd_w k2935 ef2900 rfl) rfl) rfl) rfl) rfl)
                    have z3119 := congrArg Int32.toInt (rd_o k3113 (rd_a k3110 (rd_a k3108 (rd_w k2964 (rd_w k2935 (rd_w k2896 (rd_w k2872 ef1829 rfl) rfl) rfl) rfl) rfl) rfl) rfl)
                    have z3120 := congrArg Int32.toInt (rd_s k3113)
                    have z3121 := congrArg Int32.toInt (rd_o k3113 (rd_a k3110 (rd_o k3108 (rd_w k2964 (rd_w k2935 (rd_w k2896 (rd_w k2872 ef1831 rfl) rfl) rfl) rfl) rfl) rfl) rfl)
                    have z3122 := congrArg Int32.toInt (rd_o k3113 (rd_a k3110 (rd_o k3108 (rd_w k2964 (rd_w k2935 (rd_w k2896 (rd_w k2872 ef1832 rfl) rfl) rfl) rfl) rfl) rfl) rfl)
                    have z3123 := congrArg Int32.toInt (rd_o k3113 (rd_a k3110 (rd_o k3108 (rd_w k2964 (rd_w k2935 (rd_w k2896 (rd_w k2872 ef1833 rfl) rfl) rfl) rfl) rfl) rfl) rfl)
                    have z3124 := congrArg Int32.toInt (rd_o k3113 (rd_a k3110 (rd_s k3108) rfl) rfl)
                    refine ev_V0K hJ3113 rfl rfl rfl lk_X10_251 vt_X10_next rfl rfl rfl rfl rfl (w_X10_next_63 L b h3113 hJ3113.1 (by have z0_ := congrArg Int32.toInt (rd_o k3113 (rd_a k3110 (rd_a k3108 (rd_w k2964 (rd_w k2935 (rd_w k2896 (rd_w k2872 z1824 rfl) rfl) rfl) rfl) rfl) rfl) rfl); have z1_ := congrArg Int32.toInt (rd_o k3113 (rd_a k3110 (rd_a k3108 (rd_w k2964 (rd_w k2935 ef2897 rfl) rfl) rfl) rfl) rfl); have z2_ := congrArg Int32.toInt (rd_o k3113 (rd_a k3110 (rd_a k3108 ef2965 rfl) rfl) rfl); have z3_ := congrArg Int32.toInt (rd_o k3113 (rd_a k3110 (rd_a k3108 (rd_w k2964 (rd_w k2935 ef2899 rfl) rfl) rfl) rfl) rfl); have z4_ := congrArg Int32.toInt (rd_o k3113 (rd_a k3110 (rd_a k3108 (rd_w k2964 (rd_w k2935 ef2900 rfl) rfl) rfl) rfl) rfl); have z5_ := congrArg Int32.toInt (rd_o k3113 (rd_a k3110 (rd_a k3108 (rd_w k2964 (rd_w k2935 (rd_w k2896 (rd_w k2872 ef1829 rfl) rfl) rfl) rfl) rfl) rfl) rfl); have z6_ := congrArg Int32.toInt (rd_s k3113); have z7_ := congrArg Int32.toInt (rd_o k3113 (rd_a k3110 (rd_o k3108 (rd_w k2964 (rd_w k2935 (rd_w k2896 (rd_w k2872 ef1831 rfl) rfl) rfl) rfl) rfl) rfl) rfl); have z8_ := congrArg Int32.toInt (rd_o k3113 (rd_a k3110 (rd_o k3108 (rd_w k2964 (rd_w k2935 (rd_w k2896 (rd_w k2872 ef1832 rfl) rfl) rfl) rfl) rfl) rfl) rfl); have z9_ := congrArg Int32.toInt (rd_o k3113 (rd_a k3110 (rd_o k3108 (rd_w k2964 (rd_w k2935 (rd_w k2896 (rd_w k2872 ef1833 rfl) rfl) rfl) rfl) rfl) rfl) rfl); have z10_ := congrArg Int32.toInt (rd_o k3113 (rd_a k3110 (rd_s k3108) rfl) rfl); have z_ := w_lits; have zl_ := l_lits; omega)) (fun h3125 hJ3125 k3125 m3125 => ?_)
                    obtain ⟨m3125_0, m3125_1, m3125_2, m3125_3, m3125_4⟩ := m3125
                    obtain ⟨f3126, ef3126⟩ : ∃ f_, h3125 63 17 = f_ := ⟨_, rfl⟩
                    have bf3126 : B f3126 0 160 := by have z_ := hJ3125.1 63 17; rw [ef3126] at z_; exact z_
                    have zf3126 := congrArg Int32.toInt ef3126
                    obtain ⟨f3127, ef3127⟩ : ∃ f_, h3125 63 21 = f_ := ⟨_, rfl⟩
                    have bf3127 : B f3127 0 6 := by have z_ := hJ3125.1 63 21; rw [ef3127] at z_; exact z_
                    have zf3127 := congrArg Int32.toInt ef3127
                    obtain ⟨f3128, ef3128⟩ : ∃ f_, h3125 63 20 = f_ := ⟨_, rfl⟩
                    have bf3128 : B f3128 (-2147483648) 2147483647 := by have z_ := hJ3125.1 63 20; rw [ef3128] at z_; exact z_
                    have zf3128 := congrArg Int32.toInt ef3128
                    obtain ⟨f3129, ef3129⟩ : ∃ f_, h3125 63 19 = f_ := ⟨_, rfl⟩
                    have bf3129 : B f3129 0 3 := by have z_ := hJ3125.1 63 19; rw [ef3129] at z_; exact z_
                    have zf3129 := congrArg Int32.toInt ef3129
                    have z3130 := congrArg Int32.toInt (rd_w k3125 (rd_o k3113 (rd_a k3110 (rd_a k3108 (rd_w k2964 (rd_w k2935 (rd_w k2896 (rd_w k2872 z1824 rfl) rfl) rfl) rfl) rfl) rfl) rfl) rfl)
                    have z3131 := congrArg Int32.toInt ef3126
                    have z3132 := congrArg Int32.toInt ef3127
                    have z3133 := congrArg Int32.toInt ef3128
                    have z3134 := congrArg Int32.toInt ef3129
                    have z3135 := congrArg Int32.toInt (rd_w k3125 (rd_o k3113 (rd_a k3110 (rd_a k3108 (rd_w k2964 (rd_w k2935 (rd_w k2896 (rd_w k2872 ef1829 rfl) rfl) rfl) rfl) rfl) rfl) rfl) rfl)
                    have z3136 := congrArg Int32.toInt (rd_w k3125 (rd_s k3113) rfl)
                    have z3137 := congrArg Int32.toInt (rd_w k3125 (rd_o k3113 (rd_a k3110 (rd_o k3108 (rd_w k2964 (rd_w k2935 (rd_w k2896 (rd_w k2872 ef1831 rfl) rfl) rfl) rfl) rfl) rfl) rfl) rfl)
                    have z3138 := congrArg Int32.toInt (rd_w k3125 (rd_o k3113 (rd_a k3110 (rd_o k3108 (rd_w k2964 (rd_w k2935 (rd_w k2896 (rd_w k2872 ef1832 rfl) rfl) rfl) rfl) rfl) rfl) rfl) rfl)
                    have z3139 := congrArg Int32.toInt (rd_w k3125 (rd_o k3113 (rd_a k3110 (rd_o k3108 (rd_w k2964 (rd_w k2935 (rd_w k2896 (rd_w k2872 ef1833 rfl) rfl) rfl) rfl) rfl) rfl) rfl) rfl)
                    have z3140 := congrArg Int32.toInt (rd_w k3125 (rd_o k3113 (rd_a k3110 (rd_s k3108) rfl) rfl) rfl)
                    refine ev_goto rfl rfl ?_
                    exact (EvQ.drop 3 (ih19 1 w1819 h3125 ((by decide : B 1 1 1).mono (by decide) (by decide)) b1821 hJ3125 (rd_w k3125 (rd_o k3113 (rd_a k3110 (rd_a k3108 (rd_w k2964 (rd_w k2935 (rd_w k2896 (rd_w k2872 z1824 rfl) rfl) rfl) rfl) rfl) rfl) rfl) rfl) (by have z0_ := congrArg Int32.toInt (rd_w k3125 (rd_o k3113 (rd_a k3110 (rd_a k3108 (rd_w k2964 (rd_w k2935 (rd_w k2896 (rd_w k2872 z1824 rfl) rfl) rfl) rfl) rfl) rfl) rfl) rfl); have z1_ := congrArg Int32.toInt ef3126; have z2_ := congrArg Int32.toInt ef3127; have z3_ := congrArg Int32.toInt ef3128; have z4_ := congrArg Int32.toInt ef3129; have z5_ := congrArg Int32.toInt (rd_w k3125 (rd_o k3113 (rd_a k3110 (rd_a k3108 (rd_w k2964 (rd_w k2935 (rd_w k2896 (rd_w k2872 ef1829 rfl) rfl) rfl) rfl) rfl) rfl) rfl) rfl); have z6_ := congrArg Int32.toInt (rd_w k3125 (rd_s k3113) rfl); have z7_ := congrArg Int32.toInt (rd_w k3125 (rd_o k3113 (rd_a k3110 (rd_o k3108 (rd_w k2964 (rd_w k2935 (rd_w k2896 (rd_w k2872 ef1831 rfl) rfl) rfl) rfl) rfl) rfl) rfl) rfl); have z8_ := congrArg Int32.toInt (rd_w k3125 (rd_o k3113 (rd_a k3110 (rd_o k3108 (rd_w k2964 (rd_w k2935 (rd_w k2896 (rd_w k2872 ef1832 rfl) rfl) rfl) rfl) rfl) rfl) rfl) rfl); have z9_ := congrArg Int32.toInt (rd_w k3125 (rd_o k3113 (rd_a k3110 (rd_o k3108 (rd_w k2964 (rd_w k2935 (rd_w k2896 (rd_w k2872 ef1833 rfl) rfl) rfl) rfl) rfl) rfl) rfl) rfl); have z10_ := congrArg Int32.toInt (rd_w k3125 (rd_o k3113 (rd_a k3110 (rd_s k3108) rfl) rfl) rfl); have z_ := w_lits; have zl_ := l_lits; omega) (by have z0_ := congrArg Int32.toInt (rd_w k3125 (rd_o k3113 (rd_a k3110 (rd_a k3108 (rd_w k2964 (rd_w k2935 (rd_w k2896 (rd_w k2872 z1824 rfl) rfl) rfl) rfl) rfl) rfl) rfl) rfl); have z1_ := congrArg Int32.toInt ef3126; have z2_ := congrArg Int32.toInt ef3127; have z3_ := congrArg Int32.toInt ef3128; have z4_ := congrArg Int32.toInt ef3129; have z5_ := congrArg Int32.toInt (rd_w k3125 (rd_o k3113 (rd_a k3110 (rd_a k3108 (rd_w k2964 (rd_w k2935 (rd_w k2896 (rd_w k2872 ef1829 rfl) rfl) rfl) rfl) rfl) rfl) rfl) rfl); have z6_ := congrArg Int32.toInt (rd_w k3125 (rd_s k3113) rfl); have z7_ := congrArg Int32.toInt (rd_w k3125 (rd_o k3113 (rd_a k3110 (rd_o k3108 (rd_w k2964 (rd_w k2935 (rd_w k2896 (rd_w k2872 ef1831 rfl) rfl) rfl) rfl) rfl) rfl) rfl) rfl); have z8_ := congrArg Int32.toInt (rd_w k3125 (rd_o k3113 (rd_a k3110 (rd_o k3108 (rd_w k2964 (rd_w k2935 (rd_w k2896 (rd_w k2872 ef1832 rfl) rfl) rfl) rfl) rfl) rfl) rfl) rfl); have z9_ := congrArg Int32.toInt (rd_w k3125 (rd_o k3113 (rd_a k3110 (rd_o k3108 (rd_w k2964 (rd_w k2935 (rd_w k2896 (rd_w k2872 ef1833 rfl) rfl) rfl) rfl) rfl) rfl) rfl) rfl); have z10_ := congrArg Int32.toInt (rd_w k3125 (rd_o k3113 (rd_a k3110 (rd_s k3108) rfl) rfl) rfl); have z_ := w_lits; have zl_ := l_lits; omega) (by have z0_ := congrArg Int32.toInt (rd_w k3125 (rd_o k3113 (rd_a k3110 (rd_a k3108 (rd_w k2964 (rd_w k2935 (rd_w k2896 (rd_w k2872 z1824 rfl) rfl) rfl) rfl) rfl) rfl) rfl) rfl); have z1_ := congrArg Int32.toInt ef3126; have z2_ := congrArg Int32.toInt ef3127; have z3_ := congrArg Int32.toInt ef3128; have z4_ := congrArg Int32.toInt ef3129; have z5_ := congrArg Int32.toInt (rd_w k3125 (rd_o k3113 (rd_a k3110 (rd_a k3108 (rd_w k2964 (rd_w k2935 (rd_w k2896 (rd_w k2872 ef1829 rfl) rfl) rfl) rfl) rfl) rfl) rfl) rfl); have z6_ := congrArg Int32.toInt (rd_w k3125 (rd_s k3113) rfl); have z7_ := congrArg Int32.toInt (rd_w k3125 (rd_o k3113 (rd_a k3110 (rd_o k3108 (rd_w k2964 (rd_w k2935 (rd_w k2896 (rd_w k2872 ef1831 rfl) rfl) rfl) rfl) rfl) rfl) rfl) rfl); have z8_ := congrArg Int32.toInt (rd_w k3125 (rd_o k3113 (rd_a k3110 (rd_o k3108 (rd_w k2964 (rd_w k2935 (rd_w k2896 (rd_w k2872 ef1832 rfl) rfl) rfl) rfl) rfl) rfl) rfl) rfl); have z9_ := congrArg Int32.toInt (rd_w k3125 (rd_o k3113 (rd_a k3110 (rd_o k3108 (rd_w k2964 (rd_w k2935 (rd_w k2896 (rd_w k2872 ef1833 rfl) rfl) rfl) rfl) rfl) rfl) rfl) rfl); have z10_ := congrArg Int32.toInt (rd_w k3125 (rd_o k3113 (rd_a k3110 (rd_s k3108) rfl) rfl) rfl); have z_ := w_lits; have zl_ := l_lits; omega) (by have z0_ := congrArg Int32.toInt (rd_w k3125 (rd_o k3113 (rd_a k3110 (rd_a k3108 (rd_w k2964 (rd_w k2935 (rd_w k2896 (rd_w k2872 z1824 rfl) rfl) rfl) rfl) rfl) rfl) rfl) rfl); have z1_ := congrArg Int32.toInt ef3126; have z2_ := congrArg Int32.toInt ef3127; have z3_ := congrArg Int32.toInt ef3128; have z4_ := congrArg Int32.toInt ef3129; have z5_ := congrArg Int32.toInt (rd_w k3125 (rd_o k3113 (rd_a k3110 (rd_a k3108 (rd_w k2964 (rd_w k2935 (rd_w k2896 (rd_w k2872 ef1829 rfl) rfl) rfl) rfl) rfl) rfl) rfl) rfl); have z6_ := congrArg Int32.toInt (rd_w k3125 (rd_s k3113) rfl); have z7_ := congrArg Int32.toInt (rd_w k3125 (rd_o k3113 (rd_a k3110 (rd_o k3108 (rd_w k2964 (rd_w k2935 (rd_w k2896 (rd_w k2872 ef1831 rfl) rfl) rfl) rfl) rfl) rfl) rfl) rfl); have z8_ := congrArg Int32.toInt (rd_w k3125 (rd_o k3113 (rd_a k3110 (rd_o k3108 (rd_w k2964 (rd_w k2935 (rd_w k2896 (rd_w k2872 ef1832 rfl) rfl) rfl) rfl) rfl) rfl) rfl) rfl); have z9_ := congrArg Int32.toInt (rd_w k3125 (rd_o k3113 (rd_a k3110 (rd_o k3108 (rd_w k2964 (rd_w k2935 (rd_w k2896 (rd_w k2872 ef1833 rfl) rfl) rfl) rfl) rfl) rfl) rfl) rfl); have z10_ := congrArg Int32.toInt (rd_w k3125 (rd_o k3113 (rd_a k3110 (rd_s k3108) rfl) rfl) rfl); have z_ := w_lits; have zl_ := l_lits; omega) (by have z0_ := congrArg Int32.toInt (rd_w k3125 (rd_o k3113 (rd_a k3110 (rd_a k3108 (rd_w k2964 (rd_w k2935 (rd_w k2896 (rd_w k2872 z1824 rfl) rfl) rfl) rfl) rfl) rfl) rfl) rfl); have z1_ := congrArg Int32.toInt ef3126; have z2_ := congrArg Int32.toInt ef3127; have z3_ := congrArg Int32.toInt ef3128; have z4_ := congrArg Int32.toInt ef3129; have z5_ := congrArg Int32.toInt (rd_w k3125 (rd_o k3113 (rd_a k3110 (rd_a k3108 (rd_w k2964 (rd_w k2935 (rd_w k2896 (rd_w k2872 ef1829 rfl) rfl) rfl) rfl) rfl) rfl) rfl) rfl); have z6_ := congrArg Int32.toInt (rd_w k3125 (rd_s k3113) rfl); have z7_ := congrArg Int32.toInt (rd_w k3125 (rd_o k3113 (rd_a k3110 (rd_o k3108 (rd_w k2964 (rd_w k2935 (rd_w k2896 (rd_w k2872 ef1831 rfl) rfl) rfl) rfl) rfl) rfl) rfl) rfl); have z8_ := congrArg Int32.toInt (rd_w k3125 (rd_o k3113 (rd_a k3110 (rd_o k3108 (rd_w k2964 (rd_w k2935 (rd_w k2896 (rd_w k2872 ef1832 rfl) rfl) rfl) rfl) rfl) rfl) rfl) rfl); have z9_ := congrArg Int32.toInt (rd_w k3125 (rd_o k3113 (rd_a k3110 (rd_o k3108 (rd_w k2964 (rd_w k2935 (rd_w k2896 (rd_w k2872 ef1833 rfl) rfl) rfl) rfl) rfl) rfl) rfl) rfl); have z10_ := congrArg Int32.toInt (rd_w k3125 (rd_o k3113 (rd_a k3110 (rd_s k3108) rfl) rfl) rfl); have z_ := w_lits; have zl_ := l_lits; omega) (by have z0_ := congrArg Int32.toInt (rd_w k3125 (rd_o k3113 (rd_a k3110 (rd_a k3108 (rd_w k2964 (rd_w k2935 (rd_w k2896 (rd_w k2872 z1824 rfl) rfl) rfl) rfl) rfl) rfl) rfl) rfl); have z1_ := congrArg Int32.toInt ef3126; have z2_ := congrArg Int32.toInt ef3127; have z3_ := congrArg Int32.toInt ef3128; have z4_ := congrArg Int32.toInt ef3129; have z5_ := congrArg Int32.toInt (rd_w k3125 (rd_o k3113 (rd_a k3110 (rd_a k3108 (rd_w k2964 (rd_w k2935 (rd_w k2896 (rd_w k2872 ef1829 rfl) rfl) rfl) rfl) rfl) rfl) rfl) rfl); have z6_ := congrArg Int32.toInt (rd_w k3125 (rd_s k3113) rfl); have z7_ := congrArg Int32.toInt (rd_w k3125 (rd_o k3113 (rd_a k3110 (rd_o k3108 (rd_w k2964 (rd_w k2935 (rd_w k2896 (rd_w k2872 ef1831 rfl) rfl) rfl) rfl) rfl) rfl) rfl) rfl); have z8_ := congrArg Int32.toInt (rd_w k3125 (rd_o k3113 (rd_a k3110 (rd_o k3108 (rd_w k2964 (rd_w k2935 (rd_w k2896 (rd_w k2872 ef1832 rfl) rfl) rfl) rfl) rfl) rfl) rfl) rfl); have z9_ := congrArg Int32.toInt (rd_w k3125 (rd_o k3113 (rd_a k3110 (rd_o k3108 (rd_w k2964 (rd_w k2935 (rd_w k2896 (rd_w k2872 ef1833 rfl) rfl) rfl) rfl) rfl) rfl) rfl) rfl); have z10_ := congrArg Int32.toInt (rd_w k3125 (rd_o k3113 (rd_a k3110 (rd_s k3108) rfl) rfl) rfl); have z_ := w_lits; have zl_ := l_lits; omega) (mM_dec hm19 (by have z0_ := congrArg Int32.toInt (rd_w k3125 (rd_o k3113 (rd_a k3110 (rd_a k3108 (rd_w k2964 (rd_w k2935 (rd_w k2896 (rd_w k2872 z1824 rfl) rfl) rfl) rfl) rfl) rfl) rfl) rfl); have z1_ := congrArg Int32.toInt ef3126; have z2_ := congrArg Int32.toInt ef3127; have z3_ := congrArg Int32.toInt ef3128; have z4_ := congrArg Int32.toInt ef3129; have z5_ := congrArg Int32.toInt (rd_w k3125 (rd_o k3113 (rd_a k3110 (rd_a k3108 (rd_w k2964 (rd_w k2935 (rd_w k2896 (rd_w k2872 ef1829 rfl) rfl) rfl) rfl) rfl) rfl) rfl) rfl); have z6_ := congrArg Int32.toInt (rd_w k3125 (rd_s k3113) rfl); have z7_ := congrArg Int32.toInt (rd_w k3125 (rd_o k3113 (rd_a k3110 (rd_o k3108 (rd_w k2964 (rd_w k2935 (rd_w k2896 (rd_w k2872 ef1831 rfl) rfl) rfl) rfl) rfl) rfl) rfl) rfl); have z8_ := congrArg Int32.toInt (rd_w k3125 (rd_o k3113 (rd_a k3110 (rd_o k3108 (rd_w k2964 (rd_w k2935 (rd_w k2896 (rd_w k2872 ef1832 rfl) rfl) rfl) rfl) rfl) rfl) rfl) rfl); have z9_ := congrArg Int32.toInt (rd_w k3125 (rd_o k3113 (rd_a k3110 (rd_o k3108 (rd_w k2964 (rd_w k2935 (rd_w k2896 (rd_w k2872 ef1833 rfl) rfl) rfl) rfl) rfl) rfl) rfl) rfl); have z10_ := congrArg Int32.toInt (rd_w k3125 (rd_o k3113 (rd_a k3110 (rd_s k3108) rfl) rfl) rfl); have z_ := w_lits; have zl_ := l_lits; omega) (by have z0_ := congrArg Int32.toInt (rd_w k3125 (rd_o k3113 (rd_a k3110 (rd_a k3108 (rd_w k2964 (rd_w k2935 (rd_w k2896 (rd_w k2872 z1824 rfl) rfl) rfl) rfl) rfl) rfl) rfl) rfl); have z1_ := congrArg Int32.toInt ef3126; have z2_ := congrArg Int32.toInt ef3127; have z3_ := congrArg Int32.toInt ef3128; have z4_ := congrArg Int32.toInt ef3129; have z5_ := congrArg Int32.toInt (rd_w k3125 (rd_o k3113 (rd_a k3110 (rd_a k3108 (rd_w k2964 (rd_w k2935 (rd_w k2896 (rd_w k2872 ef1829 rfl) rfl) rfl) rfl) rfl) rfl) rfl) rfl); have z6_ := congrArg Int32.toInt (rd_w k3125 (rd_s k3113) rfl); have z7_ := congrArg Int32.toInt (rd_w k3125 (rd_o k3113 (rd_a k3110 (rd_o k3108 (rd_w k2964 (rd_w k2935 (rd_w k2896 (rd_w k2872 ef1831 rfl) rfl) rfl) rfl) rfl) rfl) rfl) rfl); have z8_ := congrArg Int32.toInt (rd_w k3125 (rd_o k3113 (rd_a k3110 (rd_o k3108 (rd_w k2964 (rd_w k2935 (rd_w k2896 (rd_w k2872 ef1832 rfl) rfl) rfl) rfl) rfl) rfl) rfl) rfl); have z9_ := congrArg Int32.toInt (rd_w k3125 (rd_o k3113 (rd_a k3110 (rd_o k3108 (rd_w k2964 (rd_w k2935 (rd_w k2896 (rd_w k2872 ef1833 rfl) rfl) rfl) rfl) rfl) rfl) rfl) rfl); have z10_ := congrArg Int32.toInt (rd_w k3125 (rd_o k3113 (rd_a k3110 (rd_s k3108) rfl) rfl) rfl); have z_ := w_lits; have zl_ := l_lits; omega) (by have z0_ := congrArg Int32.toInt (rd_w k3125 (rd_o k3113 (rd_a k3110 (rd_a k3108 (rd_w k2964 (rd_w k2935 (rd_w k2896 (rd_w k2872 z1824 rfl) rfl) rfl) rfl) rfl) rfl) rfl) rfl); have z1_ := congrArg Int32.toInt ef3126; have z2_ := congrArg Int32.toInt ef3127; have z3_ := congrArg Int32.toInt ef3128; have z4_ := congrArg Int32.toInt ef3129; have z5_ := congrArg Int32.toInt (rd_w k3125 (rd_o k3113 (rd_a k3110 (rd_a k3108 (rd_w k2964 (rd_w k2935 (rd_w k2896 (rd_w k2872 ef1829 rfl) rfl) rfl) rfl) rfl) rfl) rfl) rfl); have z6_ := congrArg Int32.toInt (rd_w k3125 (rd_s k3113) rfl); have z7_ := congrArg Int32.toInt (rd_w k3125 (rd_o k3113 (rd_a k3110 (rd_o k3108 (rd_w k2964 (rd_w k2935 (rd_w k2896 (rd_w k2872 ef1831 rfl) rfl) rfl) rfl) rfl) rfl) rfl) rfl); have z8_ := congrArg Int32.toInt (rd_w k3125 (rd_o k3113 (rd_a k3110 (rd_o k3108 (rd_w k2964 (rd_w k2935 (rd_w k2896 (rd_w k2872 ef1832 rfl) rfl) rfl) rfl) rfl) rfl) rfl) rfl); have z9_ := congrArg Int32.toInt (rd_w k3125 (rd_o k3113 (rd_a k3110 (rd_o k3108 (rd_w k2964 (rd_w k2935 (rd_w k2896 (rd_w k2872 ef1833 rfl) rfl) rfl) rfl) rfl) rfl) rfl) rfl); have z10_ := congrArg Int32.toInt (rd_w k3125 (rd_o k3113 (rd_a k3110 (rd_s k3108) rfl) rfl) rfl); have z_ := w_lits; have zl_ := l_lits; omega))))
                  · refine ev_aload_n rfl rfl rfl ?_
                    refine ev_getV (v := f1829) rfl rfl fl_X10_234 rfl rfl rfl (rd_w k2964 (rd_w k2935 (rd_w k2896 (rd_w k2872 ef1829 rfl) rfl) rfl) rfl) ?_
                    refine ev_iasW (n := 5) (l := 0) (u := 60) hJ2964 (by decide : B 4 4 4) (by decide) (by decide) (fun _ => rfl) bf1829 (by decide) (by decide) (fun _ => rfl) rfl rfl rfl rfl (fun h3141 hJ3141 k3141 => ?_)
                    obtain ⟨f3142, ef3142⟩ : ∃ f_, h3141 76 0 = f_ := ⟨_, rfl⟩
                    have bf3142 : B f3142 0 60 := by have z_ := hJ3141.1 76 0; rw [ef3142] at z_; exact z_
                    have zf3142 := congrArg Int32.toInt ef3142
                    obtain ⟨f3143, ef3143⟩ : ∃ f_, h3141 76 1 = f_ := ⟨_, rfl⟩
                    have bf3143 : B f3143 0 60 := by have z_ := hJ3141.1 76 1; rw [ef3143] at z_; exact z_
                    have zf3143 := congrArg Int32.toInt ef3143
                    obtain ⟨f3144, ef3144⟩ : ∃ f_, h3141 76 2 = f_ := ⟨_, rfl⟩
                    have bf3144 : B f3144 0 60 := by have z_ := hJ3141.1 76 2; rw [ef3144] at z_; exact z_
                    have zf3144 := congrArg Int32.toInt ef3144
                    obtain ⟨f3145, ef3145⟩ : ∃ f_, h3141 76 3 = f_ := ⟨_, rfl⟩
                    have bf3145 : B f3145 0 60 := by have z_ := hJ3141.1 76 3; rw [ef3145] at z_; exact z_
                    have zf3145 := congrArg Int32.toInt ef3145
                    refine ev_aload_n rfl rfl rfl ?_
                    refine ev_getR (y := 77) rfl rfl fl_X10_63 rfl rfl rfl rfl ?_
                    refine ev_aload_n rfl rfl rfl ?_
                    refine ev_getV (v := 4) rfl rfl fl_X10_241 rfl rfl rfl (rd_a k3141 (rd_w k2964 (rd_w k2935 (rd_w k2896 (rd_w k2872 ef1830 rfl) rfl) rfl) rfl) rfl) ?_
                    refine ev_iload_n rfl rfl rfl ?_
                    have b3146 : B f1827 0 20 := ⟨(by have z0_ := congrArg Int32.toInt (rd_a k3141 (rd_w k2964 (rd_w k2935 (rd_w k2896 (rd_w k2872 z1824 rfl) rfl) rfl) rfl) rfl); have z1_ := congrArg Int32.toInt (rd_a k3141 (rd_w k2964 (rd_w k2935 ef2897 rfl) rfl) rfl); have z2_ := congrArg Int32.toInt (rd_a k3141 ef2965 rfl); have z3_ := congrArg Int32.toInt (rd_a k3141 (rd_w k2964 (rd_w k2935 ef2899 rfl) rfl) rfl); have z4_ := congrArg Int32.toInt (rd_a k3141 (rd_w k2964 (rd_w k2935 ef2900 rfl) rfl) rfl); have z5_ := congrArg Int32.toInt (rd_a k3141 (rd_w k2964 (rd_w k2935 (rd_w k2896 (rd_w k2872 ef1829 rfl) rfl) rfl) rfl) rfl); have z6_ := congrArg Int32.toInt (rd_a k3141 (rd_w k2964 (rd_w k2935 (rd_w k2896 (rd_w k2872 ef1830 rfl) rfl) rfl) rfl) rfl); have z7_ := congrArg Int32.toInt ef3142; have z8_ := congrArg Int32.toInt ef3143; have z9_ := congrArg Int32.toInt ef3144; have z10_ := congrArg Int32.toInt ef3145; have z_ := w_lits; have zl_ := l_lits; omega), (by have z0_ := congrArg Int32.toInt (rd_a k3141 (rd_w k2964 (rd_w k2935 (rd_w k2896 (rd_w k2872 z1824 rfl) rfl) rfl) rfl) rfl); have z1_ := congrArg Int32.toInt (rd_a k3141 (rd_w k2964 (rd_w k2935 ef2897 rfl) rfl) rfl); have z2_ := congrArg Int32.toInt (rd_a k3141 ef2965 rfl); have z3_ := congrArg Int32.toInt (rd_a k3141 (rd_w k2964 (rd_w k2935 ef2899 rfl) rfl) rfl); have z4_ := congrArg Int32.toInt (rd_a k3141 (rd_w k2964 (rd_w k2935 ef2900 rfl) rfl) rfl); have z5_ := congrArg Int32.toInt (rd_a k3141 (rd_w k2964 (rd_w k2935 (rd_w k2896 (rd_w k2872 ef1829 rfl) rfl) rfl) rfl) rfl); have z6_ := congrArg Int32.toInt (rd_a k3141 (rd_w k2964 (rd_w k2935 (rd_w k2896 (rd_w k2872 ef1830 rfl) rfl) rfl) rfl) rfl); have z7_ := congrArg Int32.toInt ef3142; have z8_ := congrArg Int32.toInt ef3143; have z9_ := congrArg Int32.toInt ef3144; have z10_ := congrArg Int32.toInt ef3145; have z_ := w_lits; have zl_ := l_lits; omega)⟩
                    refine ev_iasW (n := 5) (l := 0) (u := 20) hJ3141 (by decide : B 4 4 4) (by decide) (by decide) (fun _ => rfl) b3146 (by decide) (by decide) (fun _ => rfl) rfl rfl rfl rfl (fun h3147 hJ3147 k3147 => ?_)
                    refine ev_aload_n rfl rfl rfl ?_
                    refine ev_dup rfl rfl rfl ?_
                    refine ev_getV (v := 4) rfl rfl fl_X10_241 rfl rfl rfl (rd_a k3147 (rd_a k3141 (rd_w k2964 (rd_w k2935 (rd_w k2896 (rd_w k2872 ef1830 rfl) rfl) rfl) rfl) rfl) rfl) ?_
                    refine ev_iconst (v := 1) rfl rfl (by decide) ?_
                    refine ev_iaddB (l := 5) (u := 5) rfl rfl (by decide : B 4 4 4) (by decide : B 1 1 1) (by decide) (by decide) (by decide) (by decide) (fun v3148 b3148 e3148 g3148 => ?_)
                    have e3148x := e3148; rw [show (4 : Int32).toInt = 4 from by decide] at e3148x
                    have e3148xx := e3148x; rw [show (1 : Int32).toInt = 1 from by decide] at e3148xx
                    have b3149 : B v3148 0 4 := ⟨(by have z0_ := congrArg Int32.toInt (rd_a k3147 (rd_a k3141 (rd_w k2964 (rd_w k2935 (rd_w k2896 (rd_w k2872 z1824 rfl) rfl) rfl) rfl) rfl) rfl); have z1_ := congrArg Int32.toInt (rd_a k3147 (rd_a k3141 (rd_w k2964 (rd_w k2935 ef2897 rfl) rfl) rfl) rfl); have z2_ := congrArg Int32.toInt (rd_a k3147 (rd_a k3141 ef2965 rfl) rfl); have z3_ := congrArg Int32.toInt (rd_a k3147 (rd_a k3141 (rd_w k2964 (rd_w k2935 ef2899 rfl) rfl) rfl) rfl); have z4_ := congrArg Int32.toInt (rd_a k3147 (rd_a k3141 (rd_w k2964 (rd_w k2935 ef2900 rfl) rfl) rfl) rfl); have z5_ := congrArg Int32.toInt (rd_a k3147 (rd_a k3141 (rd_w k2964 (rd_w k2935 (rd_w k2896 (rd_w k2872 ef1829 rfl) rfl) rfl) rfl) rfl) rfl); have z6_ := congrArg Int32.toInt (rd_a k3147 (rd_a k3141 (rd_w k2964 (rd_w k2935 (rd_w k2896 (rd_w k2872 ef1830 rfl) rfl) rfl) rfl) rfl) rfl); have z7_ := congrArg Int32.toInt (rd_a k3147 ef3142 rfl); have z8_ := congrArg Int32.toInt (rd_a k3147 ef3143 rfl); have z9_ := congrArg Int32.toInt (rd_a k3147 ef3144 rfl); have z10_ := congrArg Int32.toInt (rd_a k3147 ef3145 rfl); have z_ := w_lits; have zl_ := l_lits; omega), (by have z0_ := congrArg Int32.toInt (rd_a k3147 (rd_a k3141 (rd_w k2964 (rd_w k2935 (rd_w k2896 (rd_w k2872 z1824 rfl) rfl) rfl) rfl) rfl) rfl); have z1_ := congrArg Int32.toInt (rd_a k3147 (rd_a k3141 (rd_w k2964 (rd_w k2935 ef2897 rfl) rfl) rfl) rfl); have z2_ := congrArg Int32.toInt (rd_a k3147 (rd_a k3141 ef2965 rfl) rfl); have z3_ := congrArg Int32.toInt (rd_a k3147 (rd_a k3141 (rd_w k2964 (rd_w k2935 ef2899 rfl) rfl) rfl) rfl); have z4_ := congrArg Int32.toInt (rd_a k3147 (rd_a k3141 (rd_w k2964 (rd_w k2935 ef2900 rfl) rfl) rfl) rfl); have z5_ := congrArg Int32.toInt (rd_a k3147 (rd_a k3141 (rd_w k2964 (rd_w k2935 (rd_w k2896 (rd_w k2872 ef1829 rfl) rfl) rfl) rfl) rfl) rfl); have z6_ := congrArg Int32.toInt (rd_a k3147 (rd_a k3141 (rd_w k2964 (rd_w k2935 (rd_w k2896 (rd_w k2872 ef1830 rfl) rfl) rfl) rfl) rfl) rfl); have z7_ := congrArg Int32.toInt (rd_a k3147 ef3142 rfl); have z8_ := congrArg Int32.toInt (rd_a k3147 ef3143 rfl); have z9_ := congrArg Int32.toInt (rd_a k3147 ef3144 rfl); have z10_ := congrArg Int32.toInt (rd_a k3147 ef3145 rfl); have z_ := w_lits; have zl_ := l_lits; omega)⟩
                    refine ev_putW (l := 0) (u := 4) hJ3147 rfl b3149 (by decide) (by decide) rfl rfl rfl fl_X10_241 rfl rfl rfl rfl rfl (fun h3150 hJ3150 k3150 => ?_)
                    refine ev_iconst (v := 1) rfl rfl (by decide) ?_
                    refine ev_istore_n rfl rfl rfl rfl ?_
                    dsimp only [List.set]
                    refine ev_aload_n rfl rfl rfl ?_
                    have z3151 := congrArg Int32.toInt (rd_o k3150 (rd_a k3147 (rd_a k3141 (rd_w k2964 (rd_w k2935 (rd_w k2896 (rd_w k2872 z1824 rfl) rfl) rfl) rfl) rfl) rfl) rfl)
                    have z3152 := congrArg Int32.toInt (rd_o k3150 (rd_a k3147 (rd_a k3141 (rd_w k2964 (rd_w k2935 ef2897 rfl) rfl) rfl) rfl) rfl)
                    have z3153 := congrArg Int32.toInt (rd_o k3150 (rd_a k3147 (rd_a k3141 ef2965 rfl) rfl) rfl)
                    have z3154 := congrArg Int32.toInt (rd_o k3150 (rd_a k3147 (rd_a k3141 (rd_w k2964 (rd_w k2935 ef2899 rfl) rfl) rfl) rfl) rfl)
                    have z3155 := congrArg Int32.toInt (rd_o k3150 (rd_a k3147 (rd_a k3141 (rd_w k2964 (rd_w k2935 ef2900 rfl) rfl) rfl) rfl) rfl)
                    have z3156 := congrArg Int32.toInt (rd_o k3150 (rd_a k3147 (rd_a k3141 (rd_w k2964 (rd_w k2935 (rd_w k2896 (rd_w k2872 ef1829 rfl) rfl) rfl) rfl) rfl) rfl) rfl)
                    have z3157 := congrArg Int32.toInt (rd_s k3150)
                    have z3158 := congrArg Int32.toInt (rd_o k3150 (rd_a k3147 ef3142 rfl) rfl)
                    have z3159 := congrArg Int32.toInt (rd_o k3150 (rd_a k3147 ef3143 rfl) rfl)
                    have z3160 := congrArg Int32.toInt (rd_o k3150 (rd_a k3147 ef3144 rfl) rfl)
                    have z3161 := congrArg Int32.toInt (rd_o k3150 (rd_a k3147 ef3145 rfl) rfl)
                    refine ev_V0K hJ3150 rfl rfl rfl lk_X10_251 vt_X10_next rfl rfl rfl rfl rfl (w_X10_next_63 L b h3150 hJ3150.1 (by have z0_ := congrArg Int32.toInt (rd_o k3150 (rd_a k3147 (rd_a k3141 (rd_w k2964 (rd_w k2935 (rd_w k2896 (rd_w k2872 z1824 rfl) rfl) rfl) rfl) rfl) rfl) rfl); have z1_ := congrArg Int32.toInt (rd_o k3150 (rd_a k3147 (rd_a k3141 (rd_w k2964 (rd_w k2935 ef2897 rfl) rfl) rfl) rfl) rfl); have z2_ := congrArg Int32.toInt (rd_o k3150 (rd_a k3147 (rd_a k3141 ef2965 rfl) rfl) rfl); have z3_ := congrArg Int32.toInt (rd_o k3150 (rd_a k3147 (rd_a k3141 (rd_w k2964 (rd_w k2935 ef2899 rfl) rfl) rfl) rfl) rfl); have z4_ := congrArg Int32.toInt (rd_o k3150 (rd_a k3147 (rd_a k3141 (rd_w k2964 (rd_w k2935 ef2900 rfl) rfl) rfl) rfl) rfl); have z5_ := congrArg Int32.toInt (rd_o k3150 (rd_a k3147 (rd_a k3141 (rd_w k2964 (rd_w k2935 (rd_w k2896 (rd_w k2872 ef1829 rfl) rfl) rfl) rfl) rfl) rfl) rfl); have z6_ := congrArg Int32.toInt (rd_s k3150); have z7_ := congrArg Int32.toInt (rd_o k3150 (rd_a k3147 ef3142 rfl) rfl); have z8_ := congrArg Int32.toInt (rd_o k3150 (rd_a k3147 ef3143 rfl) rfl); have z9_ := congrArg Int32.toInt (rd_o k3150 (rd_a k3147 ef3144 rfl) rfl); have z10_ := congrArg Int32.toInt (rd_o k3150 (rd_a k3147 ef3145 rfl) rfl); have z_ := w_lits; have zl_ := l_lits; omega)) (fun h3162 hJ3162 k3162 m3162 => ?_)
                    obtain ⟨m3162_0, m3162_1, m3162_2, m3162_3, m3162_4⟩ := m3162
                    obtain ⟨f3163, ef3163⟩ : ∃ f_, h3162 63 17 = f_ := ⟨_, rfl⟩
                    have bf3163 : B f3163 0 160 := by have z_ := hJ3162.1 63 17; rw [ef3163] at z_; exact z_
                    have zf3163 := congrArg Int32.toInt ef3163
                    obtain ⟨f3164, ef3164⟩ : ∃ f_, h3162 63 21 = f_ := ⟨_, rfl⟩
                    have bf3164 : B f3164 0 6 := by have z_ := hJ3162.1 63 21; rw [ef3164] at z_; exact z_
                    have zf3164 := congrArg Int32.toInt ef3164
                    obtain ⟨f3165, ef3165⟩ : ∃ f_, h3162 63 20 = f_ := ⟨_, rfl⟩
                    have bf3165 : B f3165 (-2147483648) 2147483647 := by have z_ := hJ3162.1 63 20; rw [ef3165] at z_; exact z_
                    have zf3165 := congrArg Int32.toInt ef3165
                    obtain ⟨f3166, ef3166⟩ : ∃ f_, h3162 63 19 = f_ := ⟨_, rfl⟩
                    have bf3166 : B f3166 0 3 := by have z_ := hJ3162.1 63 19; rw [ef3166] at z_; exact z_
                    have zf3166 := congrArg Int32.toInt ef3166
                    have z3167 := congrArg Int32.toInt (rd_w k3162 (rd_o k3150 (rd_a k3147 (rd_a k3141 (rd_w k2964 (rd_w k2935 (rd_w k2896 (rd_w k2872 z1824 rfl) rfl) rfl) rfl) rfl) rfl) rfl) rfl)
                    have z3168 := congrArg Int32.toInt ef3163
                    have z3169 := congrArg Int32.toInt ef3164
                    have z3170 := congrArg Int32.toInt ef3165
                    have z3171 := congrArg Int32.toInt ef3166
                    have z3172 := congrArg Int32.toInt (rd_w k3162 (rd_o k3150 (rd_a k3147 (rd_a k3141 (rd_w k2964 (rd_w k2935 (rd_w k2896 (rd_w k2872 ef1829 rfl) rfl) rfl) rfl) rfl) rfl) rfl) rfl)
                    have z3173 := congrArg Int32.toInt (rd_w k3162 (rd_s k3150) rfl)
                    have z3174 := congrArg Int32.toInt (rd_w k3162 (rd_o k3150 (rd_a k3147 ef3142 rfl) rfl) rfl)
                    have z3175 := congrArg Int32.toInt (rd_w k3162 (rd_o k3150 (rd_a k3147 ef3143 rfl) rfl) rfl)
                    have z3176 := congrArg Int32.toInt (rd_w k3162 (rd_o k3150 (rd_a k3147 ef3144 rfl) rfl) rfl)
                    have z3177 := congrArg Int32.toInt (rd_w k3162 (rd_o k3150 (rd_a k3147 ef3145 rfl) rfl) rfl)
                    refine ev_goto rfl rfl ?_
                    exact (EvQ.drop 3 (ih19 1 w1819 h3162 ((by decide : B 1 1 1).mono (by decide) (by decide)) b1821 hJ3162 (rd_w k3162 (rd_o k3150 (rd_a k3147 (rd_a k3141 (rd_w k2964 (rd_w k2935 (rd_w k2896 (rd_w k2872 z1824 rfl) rfl) rfl) rfl) rfl) rfl) rfl) rfl) (by have z0_ := congrArg Int32.toInt (rd_w k3162 (rd_o k3150 (rd_a k3147 (rd_a k3141 (rd_w k2964 (rd_w k2935 (rd_w k2896 (rd_w k2872 z1824 rfl) rfl) rfl) rfl) rfl) rfl) rfl) rfl); have z1_ := congrArg Int32.toInt ef3163; have z2_ := congrArg Int32.toInt ef3164; have z3_ := congrArg Int32.toInt ef3165; have z4_ := congrArg Int32.toInt ef3166; have z5_ := congrArg Int32.toInt (rd_w k3162 (rd_o k3150 (rd_a k3147 (rd_a k3141 (rd_w k2964 (rd_w k2935 (rd_w k2896 (rd_w k2872 ef1829 rfl) rfl) rfl) rfl) rfl) rfl) rfl) rfl); have z6_ := congrArg Int32.toInt (rd_w k3162 (rd_s k3150) rfl); have z7_ := congrArg Int32.toInt (rd_w k3162 (rd_o k3150 (rd_a k3147 ef3142 rfl) rfl) rfl); have z8_ := congrArg Int32.toInt (rd_w k3162 (rd_o k3150 (rd_a k3147 ef3143 rfl) rfl) rfl); have z9_ := congrArg Int32.toInt (rd_w k3162 (rd_o k3150 (rd_a k3147 ef3144 rfl) rfl) rfl); have z10_ := congrArg Int32.toInt (rd_w k3162 (rd_o k3150 (rd_a k3147 ef3145 rfl) rfl) rfl); have z_ := w_lits; have zl_ := l_lits; omega) (by have z0_ := congrArg Int32.toInt (rd_w k3162 (rd_o k3150 (rd_a k3147 (rd_a k3141 (rd_w k2964 (rd_w k2935 (rd_w k2896 (rd_w k2872 z1824 rfl) rfl) rfl) rfl) rfl) rfl) rfl) rfl); have z1_ := congrArg Int32.toInt ef3163; have z2_ := congrArg Int32.toInt ef3164; have z3_ := congrArg Int32.toInt ef3165; have z4_ := congrArg Int32.toInt ef3166; have z5_ := congrArg Int32.toInt (rd_w k3162 (rd_o k3150 (rd_a k3147 (rd_a k3141 (rd_w k2964 (rd_w k2935 (rd_w k2896 (rd_w k2872 ef1829 rfl) rfl) rfl) rfl) rfl) rfl) rfl) rfl); have z6_ := congrArg Int32.toInt (rd_w k3162 (rd_s k3150) rfl); have z7_ := congrArg Int32.toInt (rd_w k3162 (rd_o k3150 (rd_a k3147 ef3142 rfl) rfl) rfl); have z8_ := congrArg Int32.toInt (rd_w k3162 (rd_o k3150 (rd_a k3147 ef3143 rfl) rfl) rfl); have z9_ := congrArg Int32.toInt (rd_w k3162 (rd_o k3150 (rd_a k3147 ef3144 rfl) rfl) rfl); have z10_ := congrArg Int32.toInt (rd_w k3162 (rd_o k3150 (rd_a k3147 ef3145 rfl) rfl) rfl); have z_ := w_lits; have zl_ := l_lits; omega) (by have z0_ := congrArg Int32.toInt (rd_w k3162 (rd_o k3150 (rd_a k3147 (rd_a k3141 (rd_w k2964 (rd_w k2935 (rd_w k2896 (rd_w k2872 z1824 rfl) rfl) rfl) rfl) rfl) rfl) rfl) rfl); have z1_ := congrArg Int32.toInt ef3163; have z2_ := congrArg Int32.toInt ef3164; have z3_ := congrArg Int32.toInt ef3165; have z4_ := congrArg Int32.toInt ef3166; have z5_ := congrArg Int32.toInt (rd_w k3162 (rd_o k3150 (rd_a k3147 (rd_a k3141 (rd_w k2964 (rd_w k2935 (rd_w k2896 (rd_w k2872 ef1829 rfl) rfl) rfl) rfl) rfl) rfl) rfl) rfl); have z6_ := congrArg Int32.toInt (rd_w k3162 (rd_s k3150) rfl); have z7_ := congrArg Int32.toInt (rd_w k3162 (rd_o k3150 (rd_a k3147 ef3142 rfl) rfl) rfl); have z8_ := congrArg Int32.toInt (rd_w k3162 (rd_o k3150 (rd_a k3147 ef3143 rfl) rfl) rfl); have z9_ := congrArg Int32.toInt (rd_w k3162 (rd_o k3150 (rd_a k3147 ef3144 rfl) rfl) rfl); have z10_ := congrArg Int32.toInt (rd_w k3162 (rd_o k3150 (rd_a k3147 ef3145 rfl) rfl) rfl); have z_ := w_lits; have zl_ := l_lits; omega) (by have z0_ := congrArg Int32.toInt (rd_w k3162 (rd_o k3150 (rd_a k3147 (rd_a k3141 (rd_w k2964 (rd_w k2935 (rd_w k2896 (rd_w k2872 z1824 rfl) rfl) rfl) rfl) rfl) rfl) rfl) rfl); have z1_ := congrArg Int32.toInt ef3163; have z2_ := congrArg Int32.toInt ef3164; have z3_ := congrArg Int32.toInt ef3165; have z4_ := congrArg Int32.toInt ef3166; have z5_ := congrArg Int32.toInt (rd_w k3162 (rd_o k3150 (rd_a k3147 (rd_a k3141 (rd_w k2964 (rd_w k2935 (rd_w k2896 (rd_w k2872 ef1829 rfl) rfl) rfl) rfl) rfl) rfl) rfl) rfl); have z6_ := congrArg Int32.toInt (rd_w k3162 (rd_s k3150) rfl); have z7_ := congrArg Int32.toInt (rd_w k3162 (rd_o k3150 (rd_a k3147 ef3142 rfl) rfl) rfl); have z8_ := congrArg Int32.toInt (rd_w k3162 (rd_o k3150 (rd_a k3147 ef3143 rfl) rfl) rfl); have z9_ := congrArg Int32.toInt (rd_w k3162 (rd_o k3150 (rd_a k3147 ef3144 rfl) rfl) rfl); have z10_ := congrArg Int32.toInt (rd_w k3162 (rd_o k3150 (rd_a k3147 ef3145 rfl) rfl) rfl); have z_ := w_lits; have zl_ := l_lits; omega) (by have z0_ := congrArg Int32.toInt (rd_w k3162 (rd_o k3150 (rd_a k3147 (rd_a k3141 (rd_w k2964 (rd_w k2935 (rd_w k2896 (rd_w k2872 z1824 rfl) rfl) rfl) rfl) rfl) rfl) rfl) rfl); have z1_ := congrArg Int32.toInt ef3163; have z2_ := congrArg Int32.toInt ef3164; have z3_ := congrArg Int32.toInt ef3165; have z4_ := congrArg Int32.toInt ef3166; have z5_ := congrArg Int32.toInt (rd_w k3162 (rd_o k3150 (rd_a k3147 (rd_a k3141 (rd_w k2964 (rd_w k2935 (rd_w k2896 (rd_w k2872 ef1829 rfl) rfl) rfl) rfl) rfl) rfl) rfl) rfl); have z6_ := congrArg Int32.toInt (rd_w k3162 (rd_s k3150) rfl); have z7_ := congrArg Int32.toInt (rd_w k3162 (rd_o k3150 (rd_a k3147 ef3142 rfl) rfl) rfl); have z8_ := congrArg Int32.toInt (rd_w k3162 (rd_o k3150 (rd_a k3147 ef3143 rfl) rfl) rfl); have z9_ := congrArg Int32.toInt (rd_w k3162 (rd_o k3150 (rd_a k3147 ef3144 rfl) rfl) rfl); have z10_ := congrArg Int32.toInt (rd_w k3162 (rd_o k3150 (rd_a k3147 ef3145 rfl) rfl) rfl); have z_ := w_lits; have zl_ := l_lits; omega) (by have z0_ := congrArg Int32.toInt (rd_w k3162 (rd_o k3150 (rd_a k3147 (rd_a k3141 (rd_w k2964 (rd_w k2935 (rd_w k2896 (rd_w k2872 z1824 rfl) rfl) rfl) rfl) rfl) rfl) rfl) rfl); have z1_ := congrArg Int32.toInt ef3163; have z2_ := congrArg Int32.toInt ef3164; have z3_ := congrArg Int32.toInt ef3165; have z4_ := congrArg Int32.toInt ef3166; have z5_ := congrArg Int32.toInt (rd_w k3162 (rd_o k3150 (rd_a k3147 (rd_a k3141 (rd_w k2964 (rd_w k2935 (rd_w k2896 (rd_w k2872 ef1829 rfl) rfl) rfl) rfl) rfl) rfl) rfl) rfl); have z6_ := congrArg Int32.toInt (rd_w k3162 (rd_s k3150) rfl); have z7_ := congrArg Int32.toInt (rd_w k3162 (rd_o k3150 (rd_a k3147 ef3142 rfl) rfl) rfl); have z8_ := congrArg Int32.toInt (rd_w k3162 (rd_o k3150 (rd_a k3147 ef3143 rfl) rfl) rfl); have z9_ := congrArg Int32.toInt (rd_w k3162 (rd_o k3150 (rd_a k3147 ef3144 rfl) rfl) rfl); have z10_ := congrArg Int32.toInt (rd_w k3162 (rd_o k3150 (rd_a k3147 ef3145 rfl) rfl) rfl); have z_ := w_lits; have zl_ := l_lits; omega) (mM_dec hm19 (by have z0_ := congrArg Int32.toInt (rd_w k3162 (rd_o k3150 (rd_a k3147 (rd_a k3141 (rd_w k2964 (rd_w k2935 (rd_w k2896 (rd_w k2872 z1824 rfl) rfl) rfl) rfl) rfl) rfl) rfl) rfl); have z1_ := congrArg Int32.toInt ef3163; have z2_ := congrArg Int32.toInt ef3164; have z3_ := congrArg Int32.toInt ef3165; have z4_ := congrArg Int32.toInt ef3166; have z5_ := congrArg Int32.toInt (rd_w k3162 (rd_o k3150 (rd_a k3147 (rd_a k3141 (rd_w k2964 (rd_w k2935 (rd_w k2896 (rd_w k2872 ef1829 rfl) rfl) rfl) rfl) rfl) rfl) rfl) rfl); have z6_ := congrArg Int32.toInt (rd_w k3162 (rd_s k3150) rfl); have z7_ := congrArg Int32.toInt (rd_w k3162 (rd_o k3150 (rd_a k3147 ef3142 rfl) rfl) rfl); have z8_ := congrArg Int32.toInt (rd_w k3162 (rd_o k3150 (rd_a k3147 ef3143 rfl) rfl) rfl); have z9_ := congrArg Int32.toInt (rd_w k3162 (rd_o k3150 (rd_a k3147 ef3144 rfl) rfl) rfl); have z10_ := congrArg Int32.toInt (rd_w k3162 (rd_o k3150 (rd_a k3147 ef3145 rfl) rfl) rfl); have z_ := w_lits; have zl_ := l_lits; omega) (by have z0_ := congrArg Int32.toInt (rd_w k3162 (rd_o k3150 (rd_a k3147 (rd_a k3141 (rd_w k2964 (rd_w k2935 (rd_w k2896 (rd_w k2872 z1824 rfl) rfl) rfl) rfl) rfl) rfl) rfl) rfl); have z1_ := congrArg Int32.toInt ef3163; have z2_ := congrArg Int32.toInt ef3164; have z3_ := congrArg Int32.toInt ef3165; have z4_ := congrArg Int32.toInt ef3166; have z5_ := congrArg Int32.toInt (rd_w k3162 (rd_o k3150 (rd_a k3147 (rd_a k3141 (rd_w k2964 (rd_w k2935 (rd_w k2896 (rd_w k2872 ef1829 rfl) rfl) rfl) rfl) rfl) rfl) rfl) rfl); have z6_ := congrArg Int32.toInt (rd_w k3162 (rd_s k3150) rfl); have z7_ := congrArg Int32.toInt (rd_w k3162 (rd_o k3150 (rd_a k3147 ef3142 rfl) rfl) rfl); have z8_ := congrArg Int32.toInt (rd_w k3162 (rd_o k3150 (rd_a k3147 ef3143 rfl) rfl) rfl); have z9_ := congrArg Int32.toInt (rd_w k3162 (rd_o k3150 (rd_a k3147 ef3144 rfl) rfl) rfl); have z10_ := congrArg Int32.toInt (rd_w k3162 (rd_o k3150 (rd_a k3147 ef3145 rfl) rfl) rfl); have z_ := w_lits; have zl_ := l_lits; omega) (by have z0_ := congrArg Int32.toInt (rd_w k3162 (rd_o k3150 (rd_a k3147 (rd_a k3141 (rd_w k2964 (rd_w k2935 (rd_w k2896 (rd_w k2872 z1824 rfl) rfl) rfl) rfl) rfl) rfl) rfl) rfl); have z1_ := congrArg Int32.toInt ef3163; have z2_ := congrArg Int32.toInt ef3164; have z3_ := congrArg Int32.toInt ef3165; have z4_ := congrArg Int32.toInt ef3166; have z5_ := congrArg Int32.toInt (rd_w k3162 (rd_o k3150 (rd_a k3147 (rd_a k3141 (rd_w k2964 (rd_w k2935 (rd_w k2896 (rd_w k2872 ef1829 rfl) rfl) rfl) rfl) rfl) rfl) rfl) rfl); have z6_ := congrArg Int32.toInt (rd_w k3162 (rd_s k3150) rfl); have z7_ := congrArg Int32.toInt (rd_w k3162 (rd_o k3150 (rd_a k3147 ef3142 rfl) rfl) rfl); have z8_ := congrArg Int32.toInt (rd_w k3162 (rd_o k3150 (rd_a k3147 ef3143 rfl) rfl) rfl); have z9_ := congrArg Int32.toInt (rd_w k3162 (rd_o k3150 (rd_a k3147 ef3144 rfl) rfl) rfl); have z10_ := congrArg Int32.toInt (rd_w k3162 (rd_o k3150 (rd_a k3147 ef3145 rfl) rfl) rfl); have z_ := w_lits; have zl_ := l_lits; omega))))
              · have b2951 : B f1830 0 3 := R_ltX bf1830 (by decide : B 4 4 4) (Int32.not_le.mp c2948) (by decide)
                have z2952 := w_lt (Int32.not_le.mp c2948)
                rw [show (4 : Int32).toInt = 4 from by decide] at z2952
                refine ev_iconst (v := 1) rfl rfl (by decide) ?_
                refine ev_goto rfl rfl ?_
                refine ev_iconst (v := 5) rfl rfl (by decide) ?_
                have z3178 := congrArg Int32.toInt (rd_w k2935 (rd_w k2896 (rd_w k2872 z1824 rfl) rfl) rfl)
                have z3179 := congrArg Int32.toInt (rd_w k2935 ef2897 rfl)
                have z3180 := congrArg Int32.toInt ef2936
                have z3181 := congrArg Int32.toInt (rd_w k2935 ef2899 rfl)
                have z3182 := congrArg Int32.toInt (rd_w k2935 ef2900 rfl)
                have z3183 := congrArg Int32.toInt (rd_w k2935 (rd_w k2896 (rd_w k2872 ef1829 rfl) rfl) rfl)
                have z3184 := congrArg Int32.toInt (rd_w k2935 (rd_w k2896 (rd_w k2872 ef1830 rfl) rfl) rfl)
                have z3185 := congrArg Int32.toInt (rd_w k2935 (rd_w k2896 (rd_w k2872 ef1831 rfl) rfl) rfl)
                have z3186 := congrArg Int32.toInt (rd_w k2935 (rd_w k2896 (rd_w k2872 ef1832 rfl) rfl) rfl)
                have z3187 := congrArg Int32.toInt (rd_w k2935 (rd_w k2896 (rd_w k2872 ef1833 rfl) rfl) rfl)
                have z3188 := congrArg Int32.toInt (rd_w k2935 (rd_w k2896 (rd_w k2872 ef1834 rfl) rfl) rfl)
                refine ev_V2K hJ2935 rfl rfl rfl lk_X10_230 vt_X10_wants rfl rfl rfl rfl rfl (w_X10_wants_63 L b h2935 hJ2935.1 1 ((by decide : B 1 1 1).mono (by decide) (by decide)) 5 ((by decide : B 5 5 5).mono (by decide) (by decide))) (fun h3189 hJ3189 k3189 m3189 => ?_)
                obtain ⟨f3190, ef3190⟩ : ∃ f_, h3189 63 21 = f_ := ⟨_, rfl⟩
                have bf3190 : B f3190 0 6 := by have z_ := hJ3189.1 63 21; rw [ef3190] at z_; exact z_
                have zf3190 := congrArg Int32.toInt ef3190
                have z3191 := congrArg Int32.toInt (rd_w k3189 (rd_w k2935 (rd_w k2896 (rd_w k2872 z1824 rfl) rfl) rfl) rfl)
                have z3192 := congrArg Int32.toInt (rd_w k3189 (rd_w k2935 ef2897 rfl) rfl)
                have z3193 := congrArg Int32.toInt ef3190
                have z3194 := congrArg Int32.toInt (rd_w k3189 (rd_w k2935 ef2899 rfl) rfl)
                have z3195 := congrArg Int32.toInt (rd_w k3189 (rd_w k2935 ef2900 rfl) rfl)
                have z3196 := congrArg Int32.toInt (rd_w k3189 (rd_w k2935 (rd_w k2896 (rd_w k2872 ef1829 rfl) rfl) rfl) rfl)
                have z3197 := congrArg Int32.toInt (rd_w k3189 (rd_w k2935 (rd_w k2896 (rd_w k2872 ef1830 rfl) rfl) rfl) rfl)
                have z3198 := congrArg Int32.toInt (rd_w k3189 (rd_w k2935 (rd_w k2896 (rd_w k2872 ef1831 rfl) rfl) rfl) rfl)
                have z3199 := congrArg Int32.toInt (rd_w k3189 (rd_w k2935 (rd_w k2896 (rd_w k2872 ef1832 rfl) rfl) rfl) rfl)
                have z3200 := congrArg Int32.toInt (rd_w k3189 (rd_w k2935 (rd_w k2896 (rd_w k2872 ef1833 rfl) rfl) rfl) rfl)
                have z3201 := congrArg Int32.toInt (rd_w k3189 (rd_w k2935 (rd_w k2896 (rd_w k2872 ef1834 rfl) rfl) rfl) rfl)
                refine ev_aload_n rfl rfl rfl ?_
                refine ev_getV (v := f3190) rfl rfl fl_X10_191 rfl rfl rfl ef3190 ?_
                refine ev_if_ne rfl rfl (fun c3202 => ?_) (fun c3202 => ?_)
                · have b3203 : B f3190 1 6 := R_neL bf3190 (by decide : B 0 0 0) c3202 (by decide)
                  have z3204 := w_ne c3202
                  rw [show (0 : Int32).toInt = 0 from by decide] at z3204
                  refine ev_aload_n rfl rfl rfl ?_
                  have z3207 := congrArg Int32.toInt (rd_w k3189 (rd_w k2935 (rd_w k2896 (rd_w k2872 z1824 rfl) rfl) rfl) rfl)
                  have z3208 := congrArg Int32.toInt (rd_w k3189 (rd_w k2935 ef2897 rfl) rfl)
                  have z3209 := congrArg Int32.toInt ef3190
                  have z3210 := congrArg Int32.toInt (rd_w k3189 (rd_w k2935 ef2899 rfl) rfl)
                  have z3211 := congrArg Int32.toInt (rd_w k3189 (rd_w k2935 ef2900 rfl) rfl)
                  have z3212 := congrArg Int32.toInt (rd_w k3189 (rd_w k2935 (rd_w k2896 (rd_w k2872 ef1829 rfl) rfl) rfl) rfl)
                  have z3213 := congrArg Int32.toInt (rd_w k3189 (rd_w k2935 (rd_w k2896 (rd_w k2872 ef1830 rfl) rfl) rfl) rfl)
                  have z3214 := congrArg Int32.toInt (rd_w k3189 (rd_w k2935 (rd_w k2896 (rd_w k2872 ef1831 rfl) rfl) rfl) rfl)
                  have z3215 := congrArg Int32.toInt (rd_w k3189 (rd_w k2935 (rd_w k2896 (rd_w k2872 ef1832 rfl) rfl) rfl) rfl)
                  have z3216 := congrArg Int32.toInt (rd_w k3189 (rd_w k2935 (rd_w k2896 (rd_w k2872 ef1833 rfl) rfl) rfl) rfl)
                  have z3217 := congrArg Int32.toInt (rd_w k3189 (rd_w k2935 (rd_w k2896 (rd_w k2872 ef1834 rfl) rfl) rfl) rfl)
                  refine ev_V0K hJ3189 rfl rfl rfl lk_X10_251 vt_X10_next rfl rfl rfl rfl rfl (w_X10_next_63 L b h3189 hJ3189.1 (by have z0_ := congrArg Int32.toInt (rd_w k3189 (rd_w k2935 (rd_w k2896 (rd_w k2872 z1824 rfl) rfl) rfl) rfl); have z1_ := congrArg Int32.toInt (rd_w k3189 (rd_w k2935 ef2897 rfl) rfl); have z2_ := congrArg Int32.toInt ef3190; have z3_ := congrArg Int32.toInt (rd_w k3189 (rd_w k2935 ef2899 rfl) rfl); have z4_ := congrArg Int32.toInt (rd_w k3189 (rd_w k2935 ef2900 rfl) rfl); have z5_ := congrArg Int32.toInt (rd_w k3189 (rd_w k2935 (rd_w k2896 (rd_w k2872 ef1829 rfl) rfl) rfl) rfl); have z6_ := congrArg Int32.toInt (rd_w k3189 (rd_w k2935 (rd_w k2896 (rd_w k2872 ef1830 rfl) rfl) rfl) rfl); have z7_ := congrArg Int32.toInt (rd_w k3189 (rd_w k2935 (rd_w k2896 (rd_w k2872 ef1831 rfl) rfl) rfl) rfl); have z8_ := congrArg Int32.toInt (rd_w k3189 (rd_w k2935 (rd_w k2896 (rd_w k2872 ef1832 rfl) rfl) rfl) rfl); have z9_ := congrArg Int32.toInt (rd_w k3189 (rd_w k2935 (rd_w k2896 (rd_w k2872 ef1833 rfl) rfl) rfl) rfl); have z10_ := congrArg Int32.toInt (rd_w k3189 (rd_w k2935 (rd_w k2896 (rd_w k2872 ef1834 rfl) rfl) rfl) rfl); have z_ := w_lits; have zl_ := l_lits; omega)) (fun h3218 hJ3218 k3218 m3218 => ?_)
                  obtain ⟨m3218_0, m3218_1, m3218_2, m3218_3, m3218_4⟩ := m3218
                  obtain ⟨f3219, ef3219⟩ : ∃ f_, h3218 63 17 = f_ := ⟨_, rfl⟩
                  have bf3219 : B f3219 0 160 := by have z_ := hJ3218.1 63 17; rw [ef3219] at z_; exact z_
                  have zf3219 := congrArg Int32.toInt ef3219
                  obtain ⟨f3220, ef3220⟩ : ∃ f_, h3218 63 21 = f_ := ⟨_, rfl⟩
                  have bf3220 : B f3220 0 6 := by have z_ := hJ3218.1 63 21; rw [ef3220] at z_; exact z_
                  have zf3220 := congrArg Int32.toInt ef3220
                  obtain ⟨f3221, ef3221⟩ : ∃ f_, h3218 63 20 = f_ := ⟨_, rfl⟩
                  have bf3221 : B f3221 (-2147483648) 2147483647 := by have z_ := hJ3218.1 63 20; rw [ef3221] at z_; exact z_
                  have zf3221 := congrArg Int32.toInt ef3221
                  obtain ⟨f3222, ef3222⟩ : ∃ f_, h3218 63 19 = f_ := ⟨_, rfl⟩
                  have bf3222 : B f3222 0 3 := by have z_ := hJ3218.1 63 19; rw [ef3222] at z_; exact z_
                  have zf3222 := congrArg Int32.toInt ef3222
                  have z3223 := congrArg Int32.toInt (rd_w k3218 (rd_w k3189 (rd_w k2935 (rd_w k2896 (rd_w k2872 z1824 rfl) rfl) rfl) rfl) rfl)
                  have z3224 := congrArg Int32.toInt ef3219
                  have z3225 := congrArg Int32.toInt ef3220
                  have z3226 := congrArg Int32.toInt ef3221
                  have z3227 := congrArg Int32.toInt ef3222
                  have z3228 := congrArg Int32.toInt (rd_w k3218 (rd_w k3189 (rd_w k2935 (rd_w k2896 (rd_w k2872 ef1829 rfl) rfl) rfl) rfl) rfl)
                  have z3229 := congrArg Int32.toInt (rd_w k3218 (rd_w k3189 (rd_w k2935 (rd_w k2896 (rd_w k2872 ef1830 rfl) rfl) rfl) rfl) rfl)
                  have z3230 := congrArg Int32.toInt (rd_w k3218 (rd_w k3189 (rd_w k2935 (rd_w k2896 (rd_w k2872 ef1831 rfl) rfl) rfl) rfl) rfl)
                  have z3231 := congrArg Int32.toInt (rd_w k3218 (rd_w k3189 (rd_w k2935 (rd_w k2896 (rd_w k2872 ef1832 rfl) rfl) rfl) rfl) rfl)
                  have z3232 := congrArg Int32.toInt (rd_w k3218 (rd_w k3189 (rd_w k2935 (rd_w k2896 (rd_w k2872 ef1833 rfl) rfl) rfl) rfl) rfl)
                  have z3233 := congrArg Int32.toInt (rd_w k3218 (rd_w k3189 (rd_w k2935 (rd_w k2896 (rd_w k2872 ef1834 rfl) rfl) rfl) rfl) rfl)
                  refine ev_goto rfl rfl ?_
                  exact (EvQ.drop 3 (ih19 w1818 w1819 h3218 b1820 b1821 hJ3218 (rd_w k3218 (rd_w k3189 (rd_w k2935 (rd_w k2896 (rd_w k2872 z1824 rfl) rfl) rfl) rfl) rfl) (by have z0_ := congrArg Int32.toInt (rd_w k3218 (rd_w k3189 (rd_w k2935 (rd_w k2896 (rd_w k2872 z1824 rfl) rfl) rfl) rfl) rfl); have z1_ := congrArg Int32.toInt ef3219; have z2_ := congrArg Int32.toInt ef3220; have z3_ := congrArg Int32.toInt ef3221; have z4_ := congrArg Int32.toInt ef3222; have z5_ := congrArg Int32.toInt (rd_w k3218 (rd_w k3189 (rd_w k2935 (rd_w k2896 (rd_w k2872 ef1829 rfl) rfl) rfl) rfl) rfl); have z6_ := congrArg Int32.toInt (rd_w k3218 (rd_w k3189 (rd_w k2935 (rd_w k2896 (rd_w k2872 ef1830 rfl) rfl) rfl) rfl) rfl); have z7_ := congrArg Int32.toInt (rd_w k3218 (rd_w k3189 (rd_w k2935 (rd_w k2896 (rd_w k2872 ef1831 rfl) rfl) rfl) rfl) rfl); have z8_ := congrArg Int32.toInt (rd_w k3218 (rd_w k3189 (rd_w k2935 (rd_w k2896 (rd_w k2872 ef1832 rfl) rfl) rfl) rfl) rfl); have z9_ := congrArg Int32.toInt (rd_w k3218 (rd_w k3189 (rd_w k2935 (rd_w k2896 (rd_w k2872 ef1833 rfl) rfl) rfl) rfl) rfl); have z10_ := congrArg Int32.toInt (rd_w k3218 (rd_w k3189 (rd_w k2935 (rd_w k2896 (rd_w k2872 ef1834 rfl) rfl) rfl) rfl) rfl); have z_ := w_lits; have zl_ := l_lits; omega) (by have z0_ := congrArg Int32.toInt (rd_w k3218 (rd_w k3189 (rd_w k2935 (rd_w k2896 (rd_w k2872 z1824 rfl) rfl) rfl) rfl) rfl); have z1_ := congrArg Int32.toInt ef3219; have z2_ := congrArg Int32.toInt ef3220; have z3_ := congrArg Int32.toInt ef3221; have z4_ := congrArg Int32.toInt ef3222; have z5_ := congrArg Int32.toInt (rd_w k3218 (rd_w k3189 (rd_w k2935 (rd_w k2896 (rd_w k2872 ef1829 rfl) rfl) rfl) rfl) rfl); have z6_ := congrArg Int32.toInt (rd_w k3218 (rd_w k3189 (rd_w k2935 (rd_w k2896 (rd_w k2872 ef1830 rfl) rfl) rfl) rfl) rfl); have z7_ := congrArg Int32.toInt (rd_w k3218 (rd_w k3189 (rd_w k2935 (rd_w k2896 (rd_w k2872 ef1831 rfl) rfl) rfl) rfl) rfl); have z8_ := congrArg Int32.toInt (rd_w k3218 (rd_w k3189 (rd_w k2935 (rd_w k2896 (rd_w k2872 ef1832 rfl) rfl) rfl) rfl) rfl); have z9_ := congrArg Int32.toInt (rd_w k3218 (rd_w k3189 (rd_w k2935 (rd_w k2896 (rd_w k2872 ef1833 rfl) rfl) rfl) rfl) rfl); have z10_ := congrArg Int32.toInt (rd_w k3218 (rd_w k3189 (rd_w k2935 (rd_w k2896 (rd_w k2872 ef1834 rfl) rfl) rfl) rfl) rfl); have z_ := w_lits; have zl_ := l_lits; omega) (by have z0_ := congrArg Int32.toInt (rd_w k3218 (rd_w k3189 (rd_w k2935 (rd_w k2896 (rd_w k2872 z1824 rfl) rfl) rfl) rfl) rfl); have z1_ := congrArg Int32.toInt ef3219; have z2_ := congrArg Int32.toInt ef3220; have z3_ := congrArg Int32.toInt ef3221; have z4_ := congrArg Int32.toInt ef3222; have z5_ := congrArg Int32.toInt (rd_w k3218 (rd_w k3189 (rd_w k2935 (rd_w k2896 (rd_w k2872 ef1829 rfl) rfl) rfl) rfl) rfl); have z6_ := congrArg Int32.toInt (rd_w k3218 (rd_w k3189 (rd_w k2935 (rd_w k2896 (rd_w k2872 ef1830 rfl) rfl) rfl) rfl) rfl); have z7_ := congrArg Int32.toInt (rd_w k3218 (rd_w k3189 (rd_w k2935 (rd_w k2896 (rd_w k2872 ef1831 rfl) rfl) rfl) rfl) rfl); have z8_ := congrArg Int32.toInt (rd_w k3218 (rd_w k3189 (rd_w k2935 (rd_w k2896 (rd_w k2872 ef1832 rfl) rfl) rfl) rfl) rfl); have z9_ := congrArg Int32.toInt (rd_w k3218 (rd_w k3189 (rd_w k2935 (rd_w k2896 (rd_w k2872 ef1833 rfl) rfl) rfl) rfl) rfl); have z10_ := congrArg Int32.toInt (rd_w k3218 (rd_w k3189 (rd_w k2935 (rd_w k2896 (rd_w k2872 ef1834 rfl) rfl) rfl) rfl) rfl); have z_ := w_lits; have zl_ := l_lits; omega) (by have z0_ := congrArg Int32.toInt (rd_w k3218 (rd_w k3189 (rd_w k2935 (rd_w k2896 (rd_w k2872 z1824 rfl) rfl) rfl) rfl) rfl); have z1_ := congrArg Int32.toInt ef3219; have z2_ := congrArg Int32.toInt ef3220; have z3_ := congrArg Int32.toInt ef3221; have z4_ := congrArg Int32.toInt ef3222; have z5_ := congrArg Int32.toInt (rd_w k3218 (rd_w k3189 (rd_w k2935 (rd_w k2896 (rd_w k2872 ef1829 rfl) rfl) rfl) rfl) rfl); have z6_ := congrArg Int32.toInt (rd_w k3218 (rd_w k3189 (rd_w k2935 (rd_w k2896 (rd_w k2872 ef1830 rfl) rfl) rfl) rfl) rfl); have z7_ := congrArg Int32.toInt (rd_w k3218 (rd_w k3189 (rd_w k2935 (rd_w k2896 (rd_w k2872 ef1831 rfl) rfl) rfl) rfl) rfl); have z8_ := congrArg Int32.toInt (rd_w k3218 (rd_w k3189 (rd_w k2935 (rd_w k2896 (rd_w k2872 ef1832 rfl) rfl) rfl) rfl) rfl); have z9_ := congrArg Int32.toInt (rd_w k3218 (rd_w k3189 (rd_w k2935 (rd_w k2896 (rd_w k2872 ef1833 rfl) rfl) rfl) rfl) rfl); have z10_ := congrArg Int32.toInt (rd_w k3218 (rd_w k3189 (rd_w k2935 (rd_w k2896 (rd_w k2872 ef1834 rfl) rfl) rfl) rfl) rfl); have z_ := w_lits; have zl_ := l_lits; omega) (by have z0_ := congrArg Int32.toInt (rd_w k3218 (rd_w k3189 (rd_w k2935 (rd_w k2896 (rd_w k2872 z1824 rfl) rfl) rfl) rfl) rfl); have z1_ := congrArg Int32.toInt ef3219; have z2_ := congrArg Int32.toInt ef3220; have z3_ := congrArg Int32.toInt ef3221; have z4_ := congrArg Int32.toInt ef3222; have z5_ := congrArg Int32.toInt (rd_w k3218 (rd_w k3189 (rd_w k2935 (rd_w k2896 (rd_w k2872 ef1829 rfl) rfl) rfl) rfl) rfl); have z6_ := congrArg Int32.toInt (rd_w k3218 (rd_w k3189 (rd_w k2935 (rd_w k2896 (rd_w k2872 ef1830 rfl) rfl) rfl) rfl) rfl); have z7_ := congrArg Int32.toInt (rd_w k3218 (rd_w k3189 (rd_w k2935 (rd_w k2896 (rd_w k2872 ef1831 rfl) rfl) rfl) rfl) rfl); have z8_ := congrArg Int32.toInt (rd_w k3218 (rd_w k3189 (rd_w k2935 (rd_w k2896 (rd_w k2872 ef1832 rfl) rfl) rfl) rfl) rfl); have z9_ := congrArg Int32.toInt (rd_w k3218 (rd_w k3189 (rd_w k2935 (rd_w k2896 (rd_w k2872 ef1833 rfl) rfl) rfl) rfl) rfl); have z10_ := congrArg Int32.toInt (rd_w k3218 (rd_w k3189 (rd_w k2935 (rd_w k2896 (rd_w k2872 ef1834 rfl) rfl) rfl) rfl) rfl); have z_ := w_lits; have zl_ := l_lits; omega) (by have z0_ := congrArg Int32.toInt (rd_w k3218 (rd_w k3189 (rd_w k2935 (rd_w k2896 (rd_w k2872 z1824 rfl) rfl) rfl) rfl) rfl); have z1_ := congrArg Int32.toInt ef3219; have z2_ := congrArg Int32.toInt ef3220; have z3_ := congrArg Int32.toInt ef3221; have z4_ := congrArg Int32.toInt ef3222; have z5_ := congrArg Int32.toInt (rd_w k3218 (rd_w k3189 (rd_w k2935 (rd_w k2896 (rd_w k2872 ef1829 rfl) rfl) rfl) rfl) rfl); have z6_ := congrArg Int32.toInt (rd_w k3218 (rd_w k3189 (rd_w k2935 (rd_w k2896 (rd_w k2872 ef1830 rfl) rfl) rfl) rfl) rfl); have z7_ := congrArg Int32.toInt (rd_w k3218 (rd_w k3189 (rd_w k2935 (rd_w k2896 (rd_w k2872 ef1831 rfl) rfl) rfl) rfl) rfl); have z8_ := congrArg Int32.toInt (rd_w k3218 (rd_w k3189 (rd_w k2935 (rd_w k2896 (rd_w k2872 ef1832 rfl) rfl) rfl) rfl) rfl); have z9_ := congrArg Int32.toInt (rd_w k3218 (rd_w k3189 (rd_w k2935 (rd_w k2896 (rd_w k2872 ef1833 rfl) rfl) rfl) rfl) rfl); have z10_ := congrArg Int32.toInt (rd_w k3218 (rd_w k3189 (rd_w k2935 (rd_w k2896 (rd_w k2872 ef1834 rfl) rfl) rfl) rfl) rfl); have z_ := w_lits; have zl_ := l_lits; omega) (mM_dec hm19 (by have z0_ := congrArg Int32.toInt (rd_w k3218 (rd_w k3189 (rd_w k2935 (rd_w k2896 (rd_w k2872 z1824 rfl) rfl) rfl) rfl) rfl); have z1_ := congrArg Int32.toInt ef3219; have z2_ := congrArg Int32.toInt ef3220; have z3_ := congrArg Int32.toInt ef3221; have z4_ := congrArg Int32.toInt ef3222; have z5_ := congrArg Int32.toInt (rd_w k3218 (rd_w k3189 (rd_w k2935 (rd_w k2896 (rd_w k2872 ef1829 rfl) rfl) rfl) rfl) rfl); have z6_ := congrArg Int32.toInt (rd_w k3218 (rd_w k3189 (rd_w k2935 (rd_w k2896 (rd_w k2872 ef1830 rfl) rfl) rfl) rfl) rfl); have z7_ := congrArg Int32.toInt (rd_w k3218 (rd_w k3189 (rd_w k2935 (rd_w k2896 (rd_w k2872 ef1831 rfl) rfl) rfl) rfl) rfl); have z8_ := congrArg Int32.toInt (rd_w k3218 (rd_w k3189 (rd_w k2935 (rd_w k2896 (rd_w k2872 ef1832 rfl) rfl) rfl) rfl) rfl); have z9_ := congrArg Int32.toInt (rd_w k3218 (rd_w k3189 (rd_w k2935 (rd_w k2896 (rd_w k2872 ef1833 rfl) rfl) rfl) rfl) rfl); have z10_ := congrArg Int32.toInt (rd_w k3218 (rd_w k3189 (rd_w k2935 (rd_w k2896 (rd_w k2872 ef1834 rfl) rfl) rfl) rfl) rfl); have z_ := w_lits; have zl_ := l_lits; omega) (by have z0_ := congrArg Int32.toInt (rd_w k3218 (rd_w k3189 (rd_w k2935 (rd_w k2896 (rd_w k2872 z1824 rfl) rfl) rfl) rfl) rfl); have z1_ := congrArg Int32.toInt ef3219; have z2_ := congrArg Int32.toInt ef3220; have z3_ := congrArg Int32.toInt ef3221; have z4_ := congrArg Int32.toInt ef3222; have z5_ := congrArg Int32.toInt (rd_w k3218 (rd_w k3189 (rd_w k2935 (rd_w k2896 (rd_w k2872 ef1829 rfl) rfl) rfl) rfl) rfl); have z6_ := congrArg Int32.toInt (rd_w k3218 (rd_w k3189 (rd_w k2935 (rd_w k2896 (rd_w k2872 ef1830 rfl) rfl) rfl) rfl) rfl); have z7_ := congrArg Int32.toInt (rd_w k3218 (rd_w k3189 (rd_w k2935 (rd_w k2896 (rd_w k2872 ef1831 rfl) rfl) rfl) rfl) rfl); have z8_ := congrArg Int32.toInt (rd_w k3218 (rd_w k3189 (rd_w k2935 (rd_w k2896 (rd_w k2872 ef1832 rfl) rfl) rfl) rfl) rfl); have z9_ := congrArg Int32.toInt (rd_w k3218 (rd_w k3189 (rd_w k2935 (rd_w k2896 (rd_w k2872 ef1833 rfl) rfl) rfl) rfl) rfl); have z10_ := congrArg Int32.toInt (rd_w k3218 (rd_w k3189 (rd_w k2935 (rd_w k2896 (rd_w k2872 ef1834 rfl) rfl) rfl) rfl) rfl); have z_ := w_lits; have zl_ := l_lits; omega) (by have z0_ := congrArg Int32.toInt (rd_w k3218 (rd_w k3189 (rd_w k2935 (rd_w k2896 (rd_w k2872 z1824 rfl) rfl) rfl) rfl) rfl); have z1_ := congrArg Int32.toInt ef3219; have z2_ := congrArg Int32.toInt ef3220; have z3_ := congrArg Int32.toInt ef3221; have z4_ := congrArg Int32.toInt ef3222; have z5_ := congrArg Int32.toInt (rd_w k3218 (rd_w k3189 (rd_w k2935 (rd_w k2896 (rd_w k2872 ef1829 rfl) rfl) rfl) rfl) rfl); have z6_ := congrArg Int32.toInt (rd_w k3218 (rd_w k3189 (rd_w k2935 (rd_w k2896 (rd_w k2872 ef1830 rfl) rfl) rfl) rfl) rfl); have z7_ := congrArg Int32.toInt (rd_w k3218 (rd_w k3189 (rd_w k2935 (rd_w k2896 (rd_w k2872 ef1831 rfl) rfl) rfl) rfl) rfl); have z8_ := congrArg Int32.toInt (rd_w k3218 (rd_w k3189 (rd_w k2935 (rd_w k2896 (rd_w k2872 ef1832 rfl) rfl) rfl) rfl) rfl); have z9_ := congrArg Int32.toInt (rd_w k3218 (rd_w k3189 (rd_w k2935 (rd_w k2896 (rd_w k2872 ef1833 rfl) rfl) rfl) rfl) rfl); have z10_ := congrArg Int32.toInt (rd_w k3218 (rd_w k3189 (rd_w k2935 (rd_w k2896 (rd_w k2872 ef1834 rfl) rfl) rfl) rfl) rfl); have z_ := w_lits; have zl_ := l_lits; omega))))
                · have b3205 : B f3190 0 0 := R_eqX bf3190 (by decide : B 0 0 0) c3202
                  have z3206 := congrArg Int32.toInt c3202
                  rw [show (0 : Int32).toInt = 0 from by decide] at z3206
                  refine ev_aload_n rfl rfl rfl ?_
                  refine ev_getR (y := 76) rfl rfl fl_X10_60 rfl rfl rfl rfl ?_
                  refine ev_aload_n rfl rfl rfl ?_
                  refine ev_getV (v := f1830) rfl rfl fl_X10_241 rfl rfl rfl (rd_w k3189 (rd_w k2935 (rd_w k2896 (rd_w k2872 ef1830 rfl) rfl) rfl) rfl) ?_
                  rcases B.c5 (b2951.mono (by decide) (by decide)) with rfl | rfl | rfl | rfl | rfl
                  · refine ev_aload_n rfl rfl rfl ?_
                    refine ev_getV (v := f1829) rfl rfl fl_X10_234 rfl rfl rfl (rd_w k3189 (rd_w k2935 (rd_w k2896 (rd_w k2872 ef1829 rfl) rfl) rfl) rfl) ?_
                    refine ev_iasK (j := 0) (n := 5) (l := 0) (u := 60) hJ3189 (by decide : B 0 0 0) (by decide) (by decide) (by decide) rfl bf1829 (by decide) (by decide) rfl rfl rfl rfl rfl (fun h3234 hJ3234 k3234 => ?_)
                    refine ev_aload_n rfl rfl rfl ?_
                    refine ev_getR (y := 77) rfl rfl fl_X10_63 rfl rfl rfl rfl ?_
                    refine ev_aload_n rfl rfl rfl ?_
                    refine ev_getV (v := 0) rfl rfl fl_X10_241 rfl rfl rfl (rd_a k3234 (rd_w k3189 (rd_w k2935 (rd_w k2896 (rd_w k2872 ef1830 rfl) rfl) rfl) rfl) rfl) ?_
                    refine ev_iload_n rfl rfl rfl ?_
                    have b3235 : B f1827 0 20 := ⟨(by have z0_ := congrArg Int32.toInt (rd_a k3234 (rd_w k3189 (rd_w k2935 (rd_w k2896 (rd_w k2872 z1824 rfl) rfl) rfl) rfl) rfl); have z1_ := congrArg Int32.toInt (rd_a k3234 (rd_w k3189 (rd_w k2935 ef2897 rfl) rfl) rfl); have z2_ := congrArg Int32.toInt (rd_a k3234 ef3190 rfl); have z3_ := congrArg Int32.toInt (rd_a k3234 (rd_w k3189 (rd_w k2935 ef2899 rfl) rfl) rfl); have z4_ := congrArg Int32.toInt (rd_a k3234 (rd_w k3189 (rd_w k2935 ef2900 rfl) rfl) rfl); have z5_ := congrArg Int32.toInt (rd_a k3234 (rd_w k3189 (rd_w k2935 (rd_w k2896 (rd_w k2872 ef1829 rfl) rfl) rfl) rfl) rfl); have z6_ := congrArg Int32.toInt (rd_a k3234 (rd_w k3189 (rd_w k2935 (rd_w k2896 (rd_w k2872 ef1830 rfl) rfl) rfl) rfl) rfl); have z7_ := congrArg Int32.toInt (rd_s k3234); have z8_ := congrArg Int32.toInt (rd_o k3234 (rd_w k3189 (rd_w k2935 (rd_w k2896 (rd_w k2872 ef1832 rfl) rfl) rfl) rfl) rfl); have z9_ := congrArg Int32.toInt (rd_o k3234 (rd_w k3189 (rd_w k2935 (rd_w k2896 (rd_w k2872 ef1833 rfl) rfl) rfl) rfl) rfl); have z10_ := congrArg Int32.toInt (rd_o k3234 (rd_w k3189 (rd_w k2935 (rd_w k2896 (rd_w k2872 ef1834 rfl) rfl) rfl) rfl) rfl); have z_ := w_lits; have zl_ := l_lits; omega), (by have z0_ := congrArg Int32.toInt (rd_a k3234 (rd_w k3189 (rd_w k2935 (rd_w k2896 (rd_w k2872 z1824 rfl) rfl) rfl) rfl) rfl); have z1_ := congrArg Int32.toInt (rd_a k3234 (rd_w k3189 (rd_w k2935 ef2897 rfl) rfl) rfl); have z2_ := congrArg Int32.toInt (rd_a k3234 ef3190 rfl); have z3_ := congrArg Int32.toInt (rd_a k3234 (rd_w k3189 (rd_w k2935 ef2899 rfl) rfl) rfl); have z4_ := congrArg Int32.toInt (rd_a k3234 (rd_w k3189 (rd_w k2935 ef2900 rfl) rfl) rfl); have z5_ := congrArg Int32.toInt (rd_a k3234 (rd_w k3189 (rd_w k2935 (rd_w k2896 (rd_w k2872 ef1829 rfl) rfl) rfl) rfl) rfl); have z6_ := congrArg Int32.toInt (rd_a k3234 (rd_w k3189 (rd_w k2935 (rd_w k2896 (rd_w k2872 ef1830 rfl) rfl) rfl) rfl) rfl); have z7_ := congrArg Int32.toInt (rd_s k3234); have z8_ := congrArg Int32.toInt (rd_o k3234 (rd_w k3189 (rd_w k2935 (rd_w k2896 (rd_w k2872 ef1832 rfl) rfl) rfl) rfl) rfl); have z9_ := congrArg Int32.toInt (rd_o k3234 (rd_w k3189 (rd_w k2935 (rd_w k2896 (rd_w k2872 ef1833 rfl) rfl) rfl) rfl) rfl); have z10_ := congrArg Int32.toInt (rd_o k3234 (rd_w k3189 (rd_w k2935 (rd_w k2896 (rd_w k2872 ef1834 rfl) rfl) rfl) rfl) rfl); have z_ := w_lits; have zl_ := l_lits; omega)⟩
                    refine ev_iasW (n := 5) (l := 0) (u := 20) hJ3234 (by decide : B 0 0 0) (by decide) (by decide) (fun _ => rfl) b3235 (by decide) (by decide) (fun _ => rfl) rfl rfl rfl rfl (fun h3236 hJ3236 k3236 => ?_)
                    refine ev_aload_n rfl rfl rfl ?_
                    refine ev_dup rfl rfl rfl ?_
                    refine ev_getV (v := 0) rfl rfl fl_X10_241 rfl rfl rfl (rd_a k3236 (rd_a k3234 (rd_w k3189 (rd_w k2935 (rd_w k2896 (rd_w k2872 ef1830 rfl) rfl) rfl) rfl) rfl) rfl) ?_
                    refine ev_iconst (v := 1) rfl rfl (by decide) ?_
                    refine ev_iaddB (l := 1) (u := 1) rfl rfl (by decide : B 0 0 0) (by decide : B 1 1 1) (by decide) (by decide) (by decide) (by decide) (fun v3237 b3237 e3237 g3237 => ?_)
                    have e3237x := e3237; rw [show (0 : Int32).toInt = 0 from by decide] at e3237x
                    have e3237xx := e3237x; rw [show (1 : Int32).toInt = 1 from by decide] at e3237xx
                    have b3238 : B v3237 0 4 := ⟨(by have z0_ := congrArg Int32.toInt (rd_a k3236 (rd_a k3234 (rd_w k3189 (rd_w k2935 (rd_w k2896 (rd_w k2872 z1824 rfl) rfl) rfl) rfl) rfl) rfl); have z1_ := congrArg Int32.toInt (rd_a k3236 (rd_a k3234 (rd_w k3189 (rd_w k2935 ef2897 rfl) rfl) rfl) rfl); have z2_ := congrArg Int32.toInt (rd_a k3236 (rd_a k3234 ef3190 rfl) rfl); have z3_ := congrArg Int32.toInt (rd_a k3236 (rd_a k3234 (rd_w k3189 (rd_w k2935 ef2899 rfl) rfl) rfl) rfl); have z4_ := congrArg Int32.toInt (rd_a k3236 (rd_a k3234 (rd_w k3189 (rd_w k2935 ef2900 rfl) rfl) rfl) rfl); have z5_ := congrArg Int32.toInt (rd_a k3236 (rd_a k3234 (rd_w k3189 (rd_w k2935 (rd_w k2896 (rd_w k2872 ef1829 rfl) rfl) rfl) rfl) rfl) rfl); have z6_ := congrArg Int32.toInt (rd_a k3236 (rd_a k3234 (rd_w k3189 (rd_w k2935 (rd_w k2896 (rd_w k2872 ef1830 rfl) rfl) rfl) rfl) rfl) rfl); have z7_ := congrArg Int32.toInt (rd_a k3236 (rd_s k3234) rfl); have z8_ := congrArg Int32.toInt (rd_a k3236 (rd_o k3234 (rd_w k3189 (rd_w k2935 (rd_w k2896 (rd_w k2872 ef1832 rfl) rfl) rfl) rfl) rfl) rfl); have z9_ := congrArg Int32.toInt (rd_a k3236 (rd_o k3234 (rd_w k3189 (rd_w k2935 (rd_w k2896 (rd_w k2872 ef1833 rfl) rfl) rfl) rfl) rfl) rfl); have z10_ := congrArg Int32.toInt (rd_a k3236 (rd_o k3234 (rd_w k3189 (rd_w k2935 (rd_w k2896 (rd_w k2872 ef1834 rfl) rfl) rfl) rfl) rfl) rfl); have z_ := w_lits; have zl_ := l_lits; omega), (by have z0_ := congrArg Int32.toInt (rd_a k3236 (rd_a k3234 (rd_w k3189 (rd_w k2935 (rd_w k2896 (rd_w k2872 z1824 rfl) rfl) rfl) rfl) rfl) rfl); have z1_ := congrArg Int32.toInt (rd_a k3236 (rd_a k3234 (rd_w k3189 (rd_w k2935 ef2897 rfl) rfl) rfl) rfl); have z2_ := congrArg Int32.toInt (rd_a k3236 (rd_a k3234 ef3190 rfl) rfl); have z3_ := congrArg Int32.toInt (rd_a k3236 (rd_a k3234 (rd_w k3189 (rd_w k2935 ef2899 rfl) rfl) rfl) rfl); have z4_ := congrArg Int32.toInt (rd_a k3236 (rd_a k3234 (rd_w k3189 (rd_w k2935 ef2900 rfl) rfl) rfl) rfl); have z5_ := congrArg Int32.toInt (rd_a k3236 (rd_a k3234 (rd_w k3189 (rd_w k2935 (rd_w k2896 (rd_w k2872 ef1829 rfl) rfl) rfl) rfl) rfl) rfl); have z6_ := congrArg Int32.toInt (rd_a k3236 (rd_a k3234 (rd_w k3189 (rd_w k2935 (rd_w k2896 (rd_w k2872 ef1830 rfl) rfl) rfl) rfl) rfl) rfl); have z7_ := congrArg Int32.toInt (rd_a k3236 (rd_s k3234) rfl); have z8_ := congrArg Int32.toInt (rd_a k3236 (rd_o k3234 (rd_w k3189 (rd_w k2935 (rd_w k2896 (rd_w k2872 ef1832 rfl) rfl) rfl) rfl) rfl) rfl); have z9_ := congrArg Int32.toInt (rd_a k3236 (rd_o k3234 (rd_w k3189 (rd_w k2935 (rd_w k2896 (rd_w k2872 ef1833 rfl) rfl) rfl) rfl) rfl) rfl); have z10_ := congrArg Int32.toInt (rd_a k3236 (rd_o k3234 (rd_w k3189 (rd_w k2935 (rd_w k2896 (rd_w k2872 ef1834 rfl) rfl) rfl) rfl) rfl) rfl); have z_ := w_lits; have zl_ := l_lits; omega)⟩
                    refine ev_putW (l := 0) (u := 4) hJ3236 rfl b3238 (by decide) (by decide) rfl rfl rfl fl_X10_241 rfl rfl rfl rfl rfl (fun h3239 hJ3239 k3239 => ?_)
                    refine ev_iconst (v := 1) rfl rfl (by decide) ?_
                    refine ev_istore_n rfl rfl rfl rfl ?_
                    dsimp only [List.set]
                    refine ev_aload_n rfl rfl rfl ?_
                    have z3240 := congrArg Int32.toInt (rd_o k3239 (rd_a k3236 (rd_a k3234 (rd_w k3189 (rd_w k2935 (rd_w k2896 (rd_w k2872 z1824 rfl) rfl) rfl) rfl) rfl) rfl) rfl)
                    have z3241 := congrArg Int32.toInt (rd_o k3239 (rd_a k3236 (rd_a k3234 (rd_w k3189 (rd_w k2935 ef2897 rfl) rfl) rfl) rfl) rfl)
                    have z3242 := congrArg Int32.toInt (rd_o k3239 (rd_a k3236 (rd_a k3234 ef3190 rfl) rfl) rfl)
                    have z3243 := congrArg Int32.toInt (rd_o k3239 (rd_a k3236 (rd_a k3234 (rd_w k3189 (rd_w k2935 ef2899 rfl) rfl) rfl) rfl) rfl)
                    have z3244 := congrArg Int32.toInt (rd_o k3239 (rd_a k3236 (rd_a k3234 (rd_w k3189 (rd_w k2935 ef2900 rfl) rfl) rfl) rfl) rfl)
                    have z3245 := congrArg Int32.toInt (rd_o k3239 (rd_a k3236 (rd_a k3234 (rd_w k3189 (rd_w k2935 (rd_w k2896 (rd_w k2872 ef1829 rfl) rfl) rfl) rfl) rfl) rfl) rfl)
                    have z3246 := congrArg Int32.toInt (rd_s k3239)
                    have z3247 := congrArg Int32.toInt (rd_o k3239 (rd_a k3236 (rd_s k3234) rfl) rfl)
                    have z3248 := congrArg Int32.toInt (rd_o k3239 (rd_a k3236 (rd_o k3234 (rd_w k3189 (rd_w k2935 (rd_w k2896 (rd_w k2872 ef1832 rfl) rfl) rfl) rfl) rfl) rfl) rfl)
                    have z3249 := congrArg Int32.toInt (rd_o k3239 (rd_a k3236 (rd_o k3234 (rd_w k3189 (rd_w k2935 (rd_w k2896 (rd_w k2872 ef1833 rfl) rfl) rfl) rfl) rfl) rfl) rfl)
                    have z3250 := congrArg Int32.toInt (rd_o k3239 (rd_a k3236 (rd_o k3234 (rd_w k3189 (rd_w k2935 (rd_w k2896 (rd_w k2872 ef1834 rfl) rfl) rfl) rfl) rfl) rfl) rfl)
                    refine ev_V0K hJ3239 rfl rfl rfl lk_X10_251 vt_X10_next rfl rfl rfl rfl rfl (w_X10_next_63 L b h3239 hJ3239.1 (by have z0_ := congrArg Int32.toInt (rd_o k3239 (rd_a k3236 (rd_a k3234 (rd_w k3189 (rd_w k2935 (rd_w k2896 (rd_w k2872 z1824 rfl) rfl) rfl) rfl) rfl) rfl) rfl); have z1_ := congrArg Int32.toInt (rd_o k3239 (rd_a k3236 (rd_a k3234 (rd_w k3189 (rd_w k2935 ef2897 rfl) rfl) rfl) rfl) rfl); have z2_ := congrArg Int32.toInt (rd_o k3239 (rd_a k3236 (rd_a k3234 ef3190 rfl) rfl) rfl); have z3_ := congrArg Int32.toInt (rd_o k3239 (rd_a k3236 (rd_a k3234 (rd_w k3189 (rd_w k2935 ef2899 rfl) rfl) rfl) rfl) rfl); have z4_ := congrArg Int32.toInt (rd_o k3239 (rd_a k3236 (rd_a k3234 (rd_w k3189 (rd_w k2935 ef2900 rfl) rfl) rfl) rfl) rfl); have z5_ := congrArg Int32.toInt (rd_o k3239 (rd_a k3236 (rd_a k3234 (rd_w k3189 (rd_w k2935 (rd_w k2896 (rd_w k2872 ef1829 rfl) rfl) rfl) rfl) rfl) rfl) rfl); have z6_ := congrArg Int32.toInt (rd_s k3239); have z7_ := congrArg Int32.toInt (rd_o k3239 (rd_a k3236 (rd_s k3234) rfl) rfl); have z8_ := congrArg Int32.toInt (rd_o k3239 (rd_a k3236 (rd_o k3234 (rd_w k3189 (rd_w k2935 (rd_w k2896 (rd_w k2872 ef1832 rfl) rfl) rfl) rfl) rfl) rfl) rfl); have z9_ := congrArg Int32.toInt (rd_o k3239 (rd_a k3236 (rd_o k3234 (rd_w k3189 (rd_w k2935 (rd_w k2896 (rd_w k2872 ef1833 rfl) rfl) rfl) rfl) rfl) rfl) rfl); have z10_ := congrArg Int32.toInt (rd_o k3239 (rd_a k3236 (rd_o k3234 (rd_w k3189 (rd_w k2935 (rd_w k2896 (rd_w k2872 ef1834 rfl) rfl) rfl) rfl) rfl) rfl) rfl); have z_ := w_lits; have zl_ := l_lits; omega)) (fun h3251 hJ3251 k3251 m3251 => ?_)
                    obtain ⟨m3251_0, m3251_1, m3251_2, m3251_3, m3251_4⟩ := m3251
                    obtain ⟨f3252, ef3252⟩ : ∃ f_, h3251 63 17 = f_ := ⟨_, rfl⟩
                    have bf3252 : B f3252 0 160 := by have z_ := hJ3251.1 63 17; rw [ef3252] at z_; exact z_
                    have zf3252 := congrArg Int32.toInt ef3252
                    obtain ⟨f3253, ef3253⟩ : ∃ f_, h3251 63 21 = f_ := ⟨_, rfl⟩
                    have bf3253 : B f3253 0 6 := by have z_ := hJ3251.1 63 21; rw [ef3253] at z_; exact z_
                    have zf3253 := congrArg Int32.toInt ef3253
                    obtain ⟨f3254, ef3254⟩ : ∃ f_, h3251 63 20 = f_ := ⟨_, rfl⟩
                    have bf3254 : B f3254 (-2147483648) 2147483647 := by have z_ := hJ3251.1 63 20; rw [ef3254] at z_; exact z_
                    have zf3254 := congrArg Int32.toInt ef3254
                    obtain ⟨f3255, ef3255⟩ : ∃ f_, h3251 63 19 = f_ := ⟨_, rfl⟩
                    have bf3255 : B f3255 0 3 := by have z_ := hJ3251.1 63 19; rw [ef3255] at z_; exact z_
                    have zf3255 := congrArg Int32.toInt ef3255
                    have z3256 := congrArg Int32.toInt (rd_w k3251 (rd_o k3239 (rd_a k3236 (rd_a k3234 (rd_w k3189 (rd_w k2935 (rd_w k2896 (rd_w k2872 z1824 rfl) rfl) rfl) rfl) rfl) rfl) rfl) rfl)
                    have z3257 := congrArg Int32.toInt ef3252
                    have z3258 := congrArg Int32.toInt ef3253
                    have z3259 := congrArg Int32.toInt ef3254
                    have z3260 := congrArg Int32.toInt ef3255
                    have z3261 := congrArg Int32.toInt (rd_w k3251 (rd_o k3239 (rd_a k3236 (rd_a k3234 (rd_w k3189 (rd_w k2935 (rd_w k2896 (rd_w k2872 ef1829 rfl) rfl) rfl) rfl) rfl) rfl) rfl) rfl)
                    have z3262 := congrArg Int32.toInt (rd_w k3251 (rd_s k3239) rfl)
                    have z3263 := congrArg Int32.toInt (rd_w k3251 (rd_o k3239 (rd_a k3236 (rd_s k3234) rfl) rfl) rfl)
                    have z3264 := congrArg Int32.toInt (rd_w k3251 (rd_o k3239 (rd_a k3236 (rd_o k3234 (rd_w k3189 (rd_w k2935 (rd_w k2896 (rd_w k2872 ef1832 rfl) rfl) rfl) rfl) rfl) rfl) rfl) rfl)
                    have z3265 := congrArg Int32.toInt (rd_w k3251 (rd_o k3239 (rd_a k3236 (rd_o k3234 (rd_w k3189 (rd_w k2935 (rd_w k2896 (rd_w k2872 ef1833 rfl) rfl) rfl) rfl) rfl) rfl) rfl) rfl)
                    have z3266 := congrArg Int32.toInt (rd_w k3251 (rd_o k3239 (rd_a k3236 (rd_o k3234 (rd_w k3189 (rd_w k2935 (rd_w k2896 (rd_w k2872 ef1834 rfl) rfl) rfl) rfl) rfl) rfl) rfl) rfl)
                    refine ev_goto rfl rfl ?_
                    exact (EvQ.drop 3 (ih19 1 w1819 h3251 ((by decide : B 1 1 1).mono (by decide) (by decide)) b1821 hJ3251 (rd_w k3251 (rd_o k3239 (rd_a k3236 (rd_a k3234 (rd_w k3189 (rd_w k2935 (rd_w k2896 (rd_w k2872 z1824 rfl) rfl) rfl) rfl) rfl) rfl) rfl) rfl) (by have z0_ := congrArg Int32.toInt (rd_w k3251 (rd_o k3239 (rd_a k3236 (rd_a k3234 (rd_w k3189 (rd_w k2935 (rd_w k2896 (rd_w k2872 z1824 rfl) rfl) rfl) rfl) rfl) rfl) rfl) rfl); have z1_ := congrArg Int32.toInt ef3252; have z2_ := congrArg Int32.toInt ef3253; have z3_ := congrArg Int32.toInt ef3254; have z4_ := congrArg Int32.toInt ef3255; have z5_ := congrArg Int32.toInt (rd_w k3251 (rd_o k3239 (rd_a k3236 (rd_a k3234 (rd_w k3189 (rd_w k2935 (rd_w k2896 (rd_w k2872 ef1829 rfl) rfl) rfl) rfl) rfl) rfl) rfl) rfl); have z6_ := congrArg Int32.toInt (rd_w k3251 (rd_s k3239) rfl); have z7_ := congrArg Int32.toInt (rd_w k3251 (rd_o k3239 (rd_a k3236 (rd_s k3234) rfl) rfl) rfl); have z8_ := congrArg Int32.toInt (rd_w k3251 (rd_o k3239 (rd_a k3236 (rd_o k3234 (rd_w k3189 (rd_w k2935 (rd_w k2896 (rd_w k2872 ef1832 rfl) rfl) rfl) rfl) rfl) rfl) rfl) rfl); have z9_ := congrArg Int32.toInt (rd_w k3251 (rd_o k3239 (rd_a k3236 (rd_o k3234 (rd_w k3189 (rd_w k2935 (rd_w k2896 (rd_w k2872 ef1833 rfl) rfl) rfl) rfl) rfl) rfl) rfl) rfl); have z10_ := congrArg Int32.toInt (rd_w k3251 (rd_o k3239 (rd_a k3236 (rd_o k3234 (rd_w k3189 (rd_w k2935 (rd_w k2896 (rd_w k2872 ef1834 rfl) rfl) rfl) rfl) rfl) rfl) rfl) rfl); have z_ := w_lits; have zl_ := l_lits; omega) (by have z0_ := congrArg Int32.toInt (rd_w k3251 (rd_o k3239 (rd_a k3236 (rd_a k3234 (rd_w k3189 (rd_w k2935 (rd_w k2896 (rd_w k2872 z1824 rfl) rfl) rfl) rfl) rfl) rfl) rfl) rfl); have z1_ := congrArg Int32.toInt ef3252; have z2_ := congrArg Int32.toInt ef3253; have z3_ := congrArg Int32.toInt ef3254; have z4_ := congrArg Int32.toInt ef3255; have z5_ := congrArg Int32.toInt (rd_w k3251 (rd_o k3239 (rd_a k3236 (rd_a k3234 (rd_w k3189 (rd_w k2935 (rd_w k2896 (rd_w k2872 ef1829 rfl) rfl) rfl) rfl) rfl) rfl) rfl) rfl); have z6_ := congrArg Int32.toInt (rd_w k3251 (rd_s k3239) rfl); have z7_ := congrArg Int32.toInt (rd_w k3251 (rd_o k3239 (rd_a k3236 (rd_s k3234) rfl) rfl) rfl); have z8_ := congrArg Int32.toInt (rd_w k3251 (rd_o k3239 (rd_a k3236 (rd_o k3234 (rd_w k3189 (rd_w k2935 (rd_w k2896 (rd_w k2872 ef1832 rfl) rfl) rfl) rfl) rfl) rfl) rfl) rfl); have z9_ := congrArg Int32.toInt (rd_w k3251 (rd_o k3239 (rd_a k3236 (rd_o k3234 (rd_w k3189 (rd_w k2935 (rd_w k2896 (rd_w k2872 ef1833 rfl) rfl) rfl) rfl) rfl) rfl) rfl) rfl); have z10_ := congrArg Int32.toInt (rd_w k3251 (rd_o k3239 (rd_a k3236 (rd_o k3234 (rd_w k3189 (rd_w k2935 (rd_w k2896 (rd_w k2872 ef1834 rfl) rfl) rfl) rfl) rfl) rfl) rfl) rfl); have z_ := w_lits; have zl_ := l_lits; omega) (by have z0_ := congrArg Int32.toInt (rd_w k3251 (rd_o k3239 (rd_a k3236 (rd_a k3234 (rd_w k3189 (rd_w k2935 (rd_w k2896 (rd_w k2872 z1824 rfl) rfl) rfl) rfl) rfl) rfl) rfl) rfl); have z1_ := congrArg Int32.toInt ef3252; have z2_ := congrArg Int32.toInt ef3253; have z3_ := congrArg Int32.toInt ef3254; have z4_ := congrArg Int32.toInt ef3255; have z5_ := congrArg Int32.toInt (rd_w k3251 (rd_o k3239 (rd_a k3236 (rd_a k3234 (rd_w k3189 (rd_w k2935 (rd_w k2896 (rd_w k2872 ef1829 rfl) rfl) rfl) rfl) rfl) rfl) rfl) rfl); have z6_ := congrArg Int32.toInt (rd_w k3251 (rd_s k3239) rfl); have z7_ := congrArg Int32.toInt (rd_w k3251 (rd_o k3239 (rd_a k3236 (rd_s k3234) rfl) rfl) rfl); have z8_ := congrArg Int32.toInt (rd_w k3251 (rd_o k3239 (rd_a k3236 (rd_o k3234 (rd_w k3189 (rd_w k2935 (rd_w k2896 (rd_w k2872 ef1832 rfl) rfl) rfl) rfl) rfl) rfl) rfl) rfl); have z9_ := congrArg Int32.toInt (rd_w k3251 (rd_o k3239 (rd_a k3236 (rd_o k3234 (rd_w k3189 (rd_w k2935 (rd_w k2896 (rd_w k2872 ef1833 rfl) rfl) rfl) rfl) rfl) rfl) rfl) rfl); have z10_ := congrArg Int32.toInt (rd_w k3251 (rd_o k3239 (rd_a k3236 (rd_o k3234 (rd_w k3189 (rd_w k2935 (rd_w k2896 (rd_w k2872 ef1834 rfl) rfl) rfl) rfl) rfl) rfl) rfl) rfl); have z_ := w_lits; have zl_ := l_lits; omega) (by have z0_ := congrArg Int32.toInt (rd_w k3251 (rd_o k3239 (rd_a k3236 (rd_a k3234 (rd_w k3189 (rd_w k2935 (rd_w k2896 (rd_w k2872 z1824 rfl) rfl) rfl) rfl) rfl) rfl) rfl) rfl); have z1_ := congrArg Int32.toInt ef3252; have z2_ := congrArg Int32.toInt ef3253; have z3_ := congrArg Int32.toInt ef3254; have z4_ := congrArg Int32.toInt ef3255; have z5_ := congrArg Int32.toInt (rd_w k3251 (rd_o k3239 (rd_a k3236 (rd_a k3234 (rd_w k3189 (rd_w k2935 (rd_w k2896 (rd_w k2872 ef1829 rfl) rfl) rfl) rfl) rfl) rfl) rfl) rfl); have z6_ := congrArg Int32.toInt (rd_w k3251 (rd_s k3239) rfl); have z7_ := congrArg Int32.toInt (rd_w k3251 (rd_o k3239 (rd_a k3236 (rd_s k3234) rfl) rfl) rfl); have z8_ := congrArg Int32.toInt (rd_w k3251 (rd_o k3239 (rd_a k3236 (rd_o k3234 (rd_w k3189 (rd_w k2935 (rd_w k2896 (rd_w k2872 ef1832 rfl) rfl) rfl) rfl) rfl) rfl) rfl) rfl); have z9_ := congrArg Int32.toInt (rd_w k3251 (rd_o k3239 (rd_a k3236 (rd_o k3234 (rd_w k3189 (rd_w k2935 (rd_w k2896 (rd_w k2872 ef1833 rfl) rfl) rfl) rfl) rfl) rfl) rfl) rfl); have z10_ := congrArg Int32.toInt (rd_w k3251 (rd_o k3239 (rd_a k3236 (rd_o k3234 (rd_w k3189 (rd_w k2935 (rd_w k2896 (rd_w k2872 ef1834 rfl) rfl) rfl) rfl) rfl) rfl) rfl) rfl); have z_ := w_lits; have zl_ := l_lits; omega) (by have z0_ := congrArg Int32.toInt (rd_w k3251 (rd_o k3239 (rd_a k3236 (rd_a k3234 (rd_w k3189 (rd_w k2935 (rd_w k2896 (rd_w k2872 z1824 rfl) rfl) rfl) rfl) rfl) rfl) rfl) rfl); have z1_ := congrArg Int32.toInt ef3252; have z2_ := congrArg Int32.toInt ef3253; have z3_ := congrArg Int32.toInt ef3254; have z4_ := congrArg Int32.toInt ef3255; have z5_ := congrArg Int32.toInt (rd_w k3251 (rd_o k3239 (rd_a k3236 (rd_a k3234 (rd_w k3189 (rd_w k2935 (rd_w k2896 (rd_w k2872 ef1829 rfl) rfl) rfl) rfl) rfl) rfl) rfl) rfl); have z6_ := congrArg Int32.toInt (rd_w k3251 (rd_s k3239) rfl); have z7_ := congrArg Int32.toInt (rd_w k3251 (rd_o k3239 (rd_a k3236 (rd_s k3234) rfl) rfl) rfl); have z8_ := congrArg Int32.toInt (rd_w k3251 (rd_o k3239 (rd_a k3236 (rd_o k3234 (rd_w k3189 (rd_w k2935 (rd_w k2896 (rd_w k2872 ef1832 rfl) rfl) rfl) rfl) rfl) rfl) rfl) rfl); have z9_ := congrArg Int32.toInt (rd_w k3251 (rd_o k3239 (rd_a k3236 (rd_o k3234 (rd_w k3189 (rd_w k2935 (rd_w k2896 (rd_w k2872 ef1833 rfl) rfl) rfl) rfl) rfl) rfl) rfl) rfl); have z10_ := congrArg Int32.toInt (rd_w k3251 (rd_o k3239 (rd_a k3236 (rd_o k3234 (rd_w k3189 (rd_w k2935 (rd_w k2896 (rd_w k2872 ef1834 rfl) rfl) rfl) rfl) rfl) rfl) rfl) rfl); have z_ := w_lits; have zl_ := l_lits; omega) (by have z0_ := congrArg Int32.toInt (rd_w k3251 (rd_o k3239 (rd_a k3236 (rd_a k3234 (rd_w k3189 (rd_w k2935 (rd_w k2896 (rd_w k2872 z1824 rfl) rfl) rfl) rfl) rfl) rfl) rfl) rfl); have z1_ := congrArg Int32.toInt ef3252; have z2_ := congrArg Int32.toInt ef3253; have z3_ := congrArg Int32.toInt ef3254; have z4_ := congrArg Int32.toInt ef3255; have z5_ := congrArg Int32.toInt (rd_w k3251 (rd_o k3239 (rd_a k3236 (rd_a k3234 (rd_w k3189 (rd_w k2935 (rd_w k2896 (rd_w k2872 ef1829 rfl) rfl) rfl) rfl) rfl) rfl) rfl) rfl); have z6_ := congrArg Int32.toInt (rd_w k3251 (rd_s k3239) rfl); have z7_ := congrArg Int32.toInt (rd_w k3251 (rd_o k3239 (rd_a k3236 (rd_s k3234) rfl) rfl) rfl); have z8_ := congrArg Int32.toInt (rd_w k3251 (rd_o k3239 (rd_a k3236 (rd_o k3234 (rd_w k3189 (rd_w k2935 (rd_w k2896 (rd_w k2872 ef1832 rfl) rfl) rfl) rfl) rfl) rfl) rfl) rfl); have z9_ := congrArg Int32.toInt (rd_w k3251 (rd_o k3239 (rd_a k3236 (rd_o k3234 (rd_w k3189 (rd_w k2935 (rd_w k2896 (rd_w k2872 ef1833 rfl) rfl) rfl) rfl) rfl) rfl) rfl) rfl); have z10_ := congrArg Int32.toInt (rd_w k3251 (rd_o k3239 (rd_a k3236 (rd_o k3234 (rd_w k3189 (rd_w k2935 (rd_w k2896 (rd_w k2872 ef1834 rfl) rfl) rfl) rfl) rfl) rfl) rfl) rfl); have z_ := w_lits; have zl_ := l_lits; omega) (mM_dec hm19 (by have z0_ := congrArg Int32.toInt (rd_w k3251 (rd_o k3239 (rd_a k3236 (rd_a k3234 (rd_w k3189 (rd_w k2935 (rd_w k2896 (rd_w k2872 z1824 rfl) rfl) rfl) rfl) rfl) rfl) rfl) rfl); have z1_ := congrArg Int32.toInt ef3252; have z2_ := congrArg Int32.toInt ef3253; have z3_ := congrArg Int32.toInt ef3254; have z4_ := congrArg Int32.toInt ef3255; have z5_ := congrArg Int32.toInt (rd_w k3251 (rd_o k3239 (rd_a k3236 (rd_a k3234 (rd_w k3189 (rd_w k2935 (rd_w k2896 (rd_w k2872 ef1829 rfl) rfl) rfl) rfl) rfl) rfl) rfl) rfl); have z6_ := congrArg Int32.toInt (rd_w k3251 (rd_s k3239) rfl); have z7_ := congrArg Int32.toInt (rd_w k3251 (rd_o k3239 (rd_a k3236 (rd_s k3234) rfl) rfl) rfl); have z8_ := congrArg Int32.toInt (rd_w k3251 (rd_o k3239 (rd_a k3236 (rd_o k3234 (rd_w k3189 (rd_w k2935 (rd_w k2896 (rd_w k2872 ef1832 rfl) rfl) rfl) rfl) rfl) rfl) rfl) rfl); have z9_ := congrArg Int32.toInt (rd_w k3251 (rd_o k3239 (rd_a k3236 (rd_o k3234 (rd_w k3189 (rd_w k2935 (rd_w k2896 (rd_w k2872 ef1833 rfl) rfl) rfl) rfl) rfl) rfl) rfl) rfl); have z10_ := congrArg Int32.toInt (rd_w k3251 (rd_o k3239 (rd_a k3236 (rd_o k3234 (rd_w k3189 (rd_w k2935 (rd_w k2896 (rd_w k2872 ef1834 rfl) rfl) rfl) rfl) rfl) rfl) rfl) rfl); have z_ := w_lits; have zl_ := l_lits; omega) (by have z0_ := congrArg Int32.toInt (rd_w k3251 (rd_o k3239 (rd_a k3236 (rd_a k3234 (rd_w k3189 (rd_w k2935 (rd_w k2896 (rd_w k2872 z1824 rfl) rfl) rfl) rfl) rfl) rfl) rfl) rfl); have z1_ := congrArg Int32.toInt ef3252; have z2_ := congrArg Int32.toInt ef3253; have z3_ := congrArg Int32.toInt ef3254; have z4_ := congrArg Int32.toInt ef3255; have z5_ := congrArg Int32.toInt (rd_w k3251 (rd_o k3239 (rd_a k3236 (rd_a k3234 (rd_w k3189 (rd_w k2935 (rd_w k2896 (rd_w k2872 ef1829 rfl) rfl) rfl) rfl) rfl) rfl) rfl) rfl); have z6_ := congrArg Int32.toInt (rd_w k3251 (rd_s k3239) rfl); have z7_ := congrArg Int32.toInt (rd_w k3251 (rd_o k3239 (rd_a k3236 (rd_s k3234) rfl) rfl) rfl); have z8_ := congrArg Int32.toInt (rd_w k3251 (rd_o k3239 (rd_a k3236 (rd_o k3234 (rd_w k3189 (rd_w k2935 (rd_w k2896 (rd_w k2872 ef1832 rfl) rfl) rfl) rfl) rfl) rfl) rfl) rfl); have z9_ := congrArg Int32.toInt (rd_w k3251 (rd_o k3239 (rd_a k3236 (rd_o k3234 (rd_w k3189 (rd_w k2935 (rd_w k2896 (rd_w k2872 ef1833 rfl) rfl) rfl) rfl) rfl) rfl) rfl) rfl); have z10_ := congrArg Int32.toInt (rd_w k3251 (rd_o k3239 (rd_a k3236 (rd_o k3234 (rd_w k3189 (rd_w k2935 (rd_w k2896 (rd_w k2872 ef1834 rfl) rfl) rfl) rfl) rfl) rfl) rfl) rfl); have z_ := w_lits; have zl_ := l_lits; omega) (by have z0_ := congrArg Int32.toInt (rd_w k3251 (rd_o k3239 (rd_a k3236 (rd_a k3234 (rd_w k3189 (rd_w k2935 (rd_w k2896 (rd_w k2872 z1824 rfl) rfl) rfl) rfl) rfl) rfl) rfl) rfl); have z1_ := congrArg Int32.toInt ef3252; have z2_ := congrArg Int32.toInt ef3253; have z3_ := congrArg Int32.toInt ef3254; have z4_ := congrArg Int32.toInt ef3255; have z5_ := congrArg Int32.toInt (rd_w k3251 (rd_o k3239 (rd_a k3236 (rd_a k3234 (rd_w k3189 (rd_w k2935 (rd_w k2896 (rd_w k2872 ef1829 rfl) rfl) rfl) rfl) rfl) rfl) rfl) rfl); have z6_ := congrArg Int32.toInt (rd_w k3251 (rd_s k3239) rfl); have z7_ := congrArg Int32.toInt (rd_w k3251 (rd_o k3239 (rd_a k3236 (rd_s k3234) rfl) rfl) rfl); have z8_ := congrArg Int32.toInt (rd_w k3251 (rd_o k3239 (rd_a k3236 (rd_o k3234 (rd_w k3189 (rd_w k2935 (rd_w k2896 (rd_w k2872 ef1832 rfl) rfl) rfl) rfl) rfl) rfl) rfl) rfl); have z9_ := congrArg Int32.toInt (rd_w k3251 (rd_o k3239 (rd_a k3236 (rd_o k3234 (rd_w k3189 (rd_w k2935 (rd_w k2896 (rd_w k2872 ef1833 rfl) rfl) rfl) rfl) rfl) rfl) rfl) rfl); have z10_ := congrArg Int32.toInt (rd_w k3251 (rd_o k3239 (rd_a k3236 (rd_o k3234 (rd_w k3189 (rd_w k2935 (rd_w k2896 (rd_w k2872 ef1834 rfl) rfl) rfl) rfl) rfl) rfl) rfl) rfl); have z_ := w_lits; have zl_ := l_lits; omega))))
                  · refine ev_aload_n rfl rfl rfl ?_
                    refine ev_getV (v := f1829) rfl rfl fl_X10_234 rfl rfl rfl (rd_w k3189 (rd_w k2935 (rd_w k2896 (rd_w k2872 ef1829 rfl) rfl) rfl) rfl) ?_
                    refine ev_iasK (j := 1) (n := 5) (l := 0) (u := 60) hJ3189 (by decide : B 1 1 1) (by decide) (by decide) (by decide) rfl bf1829 (by decide) (by decide) rfl rfl rfl rfl rfl (fun h3267 hJ3267 k3267 => ?_)
                    refine ev_aload_n rfl rfl rfl ?_
                    refine ev_getR (y := 77) rfl rfl fl_X10_63 rfl rfl rfl rfl ?_
                    refine ev_aload_n rfl rfl rfl ?_
                    refine ev_getV (v := 1) rfl rfl fl_X10_241 rfl rfl rfl (rd_a k3267 (rd_w k3189 (rd_w k2935 (rd_w k2896 (rd_w k2872 ef1830 rfl) rfl) rfl) rfl) rfl) ?_
                    refine ev_iload_n rfl rfl rfl ?_
                    have b3268 : B f1827 0 20 := ⟨(by have z0_ := congrArg Int32.toInt (rd_a k3267 (rd_w k3189 (rd_w k2935 (rd_w k2896 (rd_w k2872 z1824 rfl) rfl) rfl) rfl) rfl); have z1_ := congrArg Int32.toInt (rd_a k3267 (rd_w k3189 (rd_w k2935 ef2897 rfl) rfl) rfl); have z2_ := congrArg Int32.toInt (rd_a k3267 ef3190 rfl); have z3_ := congrArg Int32.toInt (rd_a k3267 (rd_w k3189 (rd_w k2935 ef2899 rfl) rfl) rfl); have z4_ := congrArg Int32.toInt (rd_a k3267 (rd_w k3189 (rd_w k2935 ef2900 rfl) rfl) rfl); have z5_ := congrArg Int32.toInt (rd_a k3267 (rd_w k3189 (rd_w k2935 (rd_w k2896 (rd_w k2872 ef1829 rfl) rfl) rfl) rfl) rfl); have z6_ := congrArg Int32.toInt (rd_a k3267 (rd_w k3189 (rd_w k2935 (rd_w k2896 (rd_w k2872 ef1830 rfl) rfl) rfl) rfl) rfl); have z7_ := congrArg Int32.toInt (rd_o k3267 (rd_w k3189 (rd_w k2935 (rd_w k2896 (rd_w k2872 ef1831 rfl) rfl) rfl) rfl) rfl); have z8_ := congrArg Int32.toInt (rd_s k3267); have z9_ := congrArg Int32.toInt (rd_o k3267 (rd_w k3189 (rd_w k2935 (rd_w k2896 (rd_w k2872 ef1833 rfl) rfl) rfl) rfl) rfl); have z10_ := congrArg Int32.toInt (rd_o k3267 (rd_w k3189 (rd_w k2935 (rd_w k2896 (rd_w k2872 ef1834 rfl) rfl) rfl) rfl) rfl); have z_ := w_lits; have zl_ := l_lits; omega), (by have z0_ := congrArg Int32.toInt (rd_a k3267 (rd_w k3189 (rd_w k2935 (rd_w k2896 (rd_w k2872 z1824 rfl) rfl) rfl) rfl) rfl); have z1_ := congrArg Int32.toInt (rd_a k3267 (rd_w k3189 (rd_w k2935 ef2897 rfl) rfl) rfl); have z2_ := congrArg Int32.toInt (rd_a k3267 ef3190 rfl); have z3_ := congrArg Int32.toInt (rd_a k3267 (rd_w k3189 (rd_w k2935 ef2899 rfl) rfl) rfl); have z4_ := congrArg Int32.toInt (rd_a k3267 (rd_w k3189 (rd_w k2935 ef2900 rfl) rfl) rfl); have z5_ := congrArg Int32.toInt (rd_a k3267 (rd_w k3189 (rd_w k2935 (rd_w k2896 (rd_w k2872 ef1829 rfl) rfl) rfl) rfl) rfl); have z6_ := congrArg Int32.toInt (rd_a k3267 (rd_w k3189 (rd_w k2935 (rd_w k2896 (rd_w k2872 ef1830 rfl) rfl) rfl) rfl) rfl); have z7_ := congrArg Int32.toInt (rd_o k3267 (rd_w k3189 (rd_w k2935 (rd_w k2896 (rd_w k2872 ef1831 rfl) rfl) rfl) rfl) rfl); have z8_ := congrArg Int32.toInt (rd_s k3267); have z9_ := congrArg Int32.toInt (rd_o k3267 (rd_w k3189 (rd_w k2935 (rd_w k2896 (rd_w k2872 ef1833 rfl) rfl) rfl) rfl) rfl); have z10_ := congrArg Int32.toInt (rd_o k3267 (rd_w k3189 (rd_w k2935 (rd_w k2896 (rd_w k2872 ef1834 rfl) rfl) rfl) rfl) rfl); have z_ := w_lits; have zl_ := l_lits; omega)⟩
                    refine ev_iasW (n := 5) (l := 0) (u := 20) hJ3267 (by decide : B 1 1 1) (by decide) (by decide) (fun _ => rfl) b3268 (by decide) (by decide) (fun _ => rfl) rfl rfl rfl rfl (fun h3269 hJ3269 k3269 => ?_)
                    refine ev_aload_n rfl rfl rfl ?_
                    refine ev_dup rfl rfl rfl ?_
                    refine ev_getV (v := 1) rfl rfl fl_X10_241 rfl rfl rfl (rd_a k3269 (rd_a k3267 (rd_w k3189 (rd_w k2935 (rd_w k2896 (rd_w k2872 ef1830 rfl) rfl) rfl) rfl) rfl) rfl) ?_
                    refine ev_iconst (v := 1) rfl rfl (by decide) ?_
                    refine ev_iaddB (l := 2) (u := 2) rfl rfl (by decide : B 1 1 1) (by decide : B 1 1 1) (by decide) (by decide) (by decide) (by decide) (fun v3270 b3270 e3270 g3270 => ?_)
                    have e3270x := e3270; rw [show (1 : Int32).toInt = 1 from by decide] at e3270x
                    have b3271 : B v3270 0 4 := ⟨(by have z0_ := congrArg Int32.toInt (rd_a k3269 (rd_a k3267 (rd_w k3189 (rd_w k2935 (rd_w k2896 (rd_w k2872 z1824 rfl) rfl) rfl) rfl) rfl) rfl); have z1_ := congrArg Int32.toInt (rd_a k3269 (rd_a k3267 (rd_w k3189 (rd_w k2935 ef2897 rfl) rfl) rfl) rfl); have z2_ := congrArg Int32.toInt (rd_a k3269 (rd_a k3267 ef3190 rfl) rfl); have z3_ := congrArg Int32.toInt (rd_a k3269 (rd_a k3267 (rd_w k3189 (rd_w k2935 ef2899 rfl) rfl) rfl) rfl); have z4_ := congrArg Int32.toInt (rd_a k3269 (rd_a k3267 (rd_w k3189 (rd_w k2935 ef2900 rfl) rfl) rfl) rfl); have z5_ := congrArg Int32.toInt (rd_a k3269 (rd_a k3267 (rd_w k3189 (rd_w k2935 (rd_w k2896 (rd_w k2872 ef1829 rfl) rfl) rfl) rfl) rfl) rfl); have z6_ := congrArg Int32.toInt (rd_a k3269 (rd_a k3267 (rd_w k3189 (rd_w k2935 (rd_w k2896 (rd_w k2872 ef1830 rfl) rfl) rfl) rfl) rfl) rfl); have z7_ := congrArg Int32.toInt (rd_a k3269 (rd_o k3267 (rd_w k3189 (rd_w k2935 (rd_w k2896 (rd_w k2872 ef1831 rfl) rfl) rfl) rfl) rfl) rfl); have z8_ := congrArg Int32.toInt (rd_a k3269 (rd_s k3267) rfl); have z9_ := congrArg Int32.toInt (rd_a k3269 (rd_o k3267 (rd_w k3189 (rd_w k2935 (rd_w k2896 (rd_w k2872 ef1833 rfl) rfl) rfl) rfl) rfl) rfl); have z10_ := congrArg Int32.toInt (rd_a k3269 (rd_o k3267 (rd_w k3189 (rd_w k2935 (rd_w k2896 (rd_w k2872 ef1834 rfl) rfl) rfl) rfl) rfl) rfl); have z_ := w_lits; have zl_ := l_lits; omega), (by have z0_ := congrArg Int32.toInt (rd_a k3269 (rd_a k3267 (rd_w k3189 (rd_w k2935 (rd_w k2896 (rd_w k2872 z1824 rfl) rfl) rfl) rfl) rfl) rfl); have z1_ := congrArg Int32.toInt (rd_a k3269 (rd_a k3267 (rd_w k3189 (rd_w k2935 ef2897 rfl) rfl) rfl) rfl); have z2_ := congrArg Int32.toInt (rd_a k3269 (rd_a k3267 ef3190 rfl) rfl); have z3_ := congrArg Int32.toInt (rd_a k3269 (rd_a k3267 (rd_w k3189 (rd_w k2935 ef2899 rfl) rfl) rfl) rfl); have z4_ := congrArg Int32.toInt (rd_a k3269 (rd_a k3267 (rd_w k3189 (rd_w k2935 ef2900 rfl) rfl) rfl) rfl); have z5_ := congrArg Int32.toInt (rd_a k3269 (rd_a k3267 (rd_w k3189 (rd_w k2935 (rd_w k2896 (rd_w k2872 ef1829 rfl) rfl) rfl) rfl) rfl) rfl); have z6_ := congrArg Int32.toInt (rd_a k3269 (rd_a k3267 (rd_w k3189 (rd_w k2935 (rd_w k2896 (rd_w k2872 ef1830 rfl) rfl) rfl) rfl) rfl) rfl); have z7_ := congrArg Int32.toInt (rd_a k3269 (rd_o k3267 (rd_w k3189 (rd_w k2935 (rd_w k2896 (rd_w k2872 ef1831 rfl) rfl) rfl) rfl) rfl) rfl); have z8_ := congrArg Int32.toInt (rd_a k3269 (rd_s k3267) rfl); have z9_ := congrArg Int32.toInt (rd_a k3269 (rd_o k3267 (rd_w k3189 (rd_w k2935 (rd_w k2896 (rd_w k2872 ef1833 rfl) rfl) rfl) rfl) rfl) rfl); have z10_ := congrArg Int32.toInt (rd_a k3269 (rd_o k3267 (rd_w k3189 (rd_w k2935 (rd_w k2896 (rd_w k2872 ef1834 rfl) rfl) rfl) rfl) rfl) rfl); have z_ := w_lits; have zl_ := l_lits; omega)⟩
                    refine ev_putW (l := 0) (u := 4) hJ3269 rfl b3271 (by decide) (by decide) rfl rfl rfl fl_X10_241 rfl rfl rfl rfl rfl (fun h3272 hJ3272 k3272 => ?_)
                    refine ev_iconst (v := 1) rfl rfl (by decide) ?_
                    refine ev_istore_n rfl rfl rfl rfl ?_
                    dsimp only [List.set]
                    refine ev_aload_n rfl rfl rfl ?_
                    have z3273 := congrArg Int32.toInt (rd_o k3272 (rd_a k3269 (rd_a k3267 (rd_w k3189 (rd_w k2935 (rd_w k2896 (rd_w k2872 z1824 rfl) rfl) rfl) rfl) rfl) rfl) rfl)
                    have z3274 := congrArg Int32.toInt (rd_o k3272 (rd_a k3269 (rd_a k3267 (rd_w k3189 (rd_w k2935 ef2897 rfl) rfl) rfl) rfl) rfl)
                    have z3275 := congrArg Int32.toInt (rd_o k3272 (rd_a k3269 (rd_a k3267 ef3190 rfl) rfl) rfl)
                    have z3276 := congrArg Int32.toInt (rd_o k3272 (rd_a k3269 (rd_a k3267 (rd_w k3189 (rd_w k2935 ef2899 rfl) rfl) rfl) rfl) rfl)
                    have z3277 := congrArg Int32.toInt (rd_o k3272 (rd_a k3269 (rd_a k3267 (rd_w k3189 (rd_w k2935 ef2900 rfl) rfl) rfl) rfl) rfl)
                    have z3278 := congrArg Int32.toInt (rd_o k3272 (rd_a k3269 (rd_a k3267 (rd_w k3189 (rd_w k2935 (rd_w k2896 (rd_w k2872 ef1829 rfl) rfl) rfl) rfl) rfl) rfl) rfl)
                    have z3279 := congrArg Int32.toInt (rd_s k3272)
                    have z3280 := congrArg Int32.toInt (rd_o k3272 (rd_a k3269 (rd_o k3267 (rd_w k3189 (rd_w k2935 (rd_w k2896 (rd_w k2872 ef1831 rfl) rfl) rfl) rfl) rfl) rfl) rfl)
                    have z3281 := congrArg Int32.toInt (rd_o k3272 (rd_a k3269 (rd_s k3267) rfl) rfl)
                    have z3282 := congrArg Int32.toInt (rd_o k3272 (rd_a k3269 (rd_o k3267 (rd_w k3189 (rd_w k2935 (rd_w k2896 (rd_w k2872 ef1833 rfl) rfl) rfl) rfl) rfl) rfl) rfl)
                    have z3283 := congrArg Int32.toInt (rd_o k3272 (rd_a k3269 (rd_o k3267 (rd_w k3189 (rd_w k2935 (rd_w k2896 (rd_w k2872 ef1834 rfl) rfl) rfl) rfl) rfl) rfl) rfl)
                    refine ev_V0K hJ3272 rfl rfl rfl lk_X10_251 vt_X10_next rfl rfl rfl rfl rfl (w_X10_next_63 L b h3272 hJ3272.1 (by have z0_ := congrArg Int32.toInt (rd_o k3272 (rd_a k3269 (rd_a k3267 (rd_w k3189 (rd_w k2935 (rd_w k2896 (rd_w k2872 z1824 rfl) rfl) rfl) rfl) rfl) rfl) rfl); have z1_ := congrArg Int32.toInt (rd_o k3272 (rd_a k3269 (rd_a k3267 (rd_w k3189 (rd_w k2935 ef2897 rfl) rfl) rfl) rfl) rfl); have z2_ := congrArg Int32.toInt (rd_o k3272 (rd_a k3269 (rd_a k3267 ef3190 rfl) rfl) rfl); have z3_ := congrArg Int32.toInt (rd_o k3272 (rd_a k3269 (rd_a k3267 (rd_w k3189 (rd_w k2935 ef2899 rfl) rfl) rfl) rfl) rfl); have z4_ := congrArg Int32.toInt (rd_o k3272 (rd_a k3269 (rd_a k3267 (rd_w k3189 (rd_w k2935 ef2900 rfl) rfl) rfl) rfl) rfl); have z5_ := congrArg Int32.toInt (rd_o k3272 (rd_a k3269 (rd_a k3267 (rd_w k3189 (rd_w k2935 (rd_w k2896 (rd_w k2872 ef1829 rfl) rfl) rfl) rfl) rfl) rfl) rfl); have z6_ := congrArg Int32.toInt (rd_s k3272); have z7_ := congrArg Int32.toInt (rd_o k3272 (rd_a k3269 (rd_o k3267 (rd_w k3189 (rd_w k2935 (rd_w k2896 (rd_w k2872 ef1831 rfl) rfl) rfl) rfl) rfl) rfl) rfl); have z8_ := congrArg Int32.toInt (rd_o k3272 (rd_a k3269 (rd_s k3267) rfl) rfl); have z9_ := congrArg Int32.toInt (rd_o k3272 (rd_a k3269 (rd_o k3267 (rd_w k3189 (rd_w k2935 (rd_w k2896 (rd_w k2872 ef1833 rfl) rfl) rfl) rfl) rfl) rfl) rfl); have z10_ := congrArg Int32.toInt (rd_o k3272 (rd_a k3269 (rd_o k3267 (rd_w k3189 (rd_w k2935 (rd_w k2896 (rd_w k2872 ef1834 rfl) rfl) rfl) rfl) rfl) rfl) rfl); have z_ := w_lits; have zl_ := l_lits; omega)) (fun h3284 hJ3284 k3284 m3284 => ?_)
                    obtain ⟨m3284_0, m3284_1, m3284_2, m3284_3, m3284_4⟩ := m3284
                    obtain ⟨f3285, ef3285⟩ : ∃ f_, h3284 63 17 = f_ := ⟨_, rfl⟩
                    have bf3285 : B f3285 0 160 := by have z_ := hJ3284.1 63 17; rw [ef3285] at z_; exact z_
                    have zf3285 := congrArg Int32.toInt ef3285
                    obtain ⟨f3286, ef3286⟩ : ∃ f_, h3284 63 21 = f_ := ⟨_, rfl⟩
                    have bf3286 : B f3286 0 6 := by have z_ := hJ3284.1 63 21; rw [ef3286] at z_; exact z_
                    have zf3286 := congrArg Int32.toInt ef3286
                    obtain ⟨f3287, ef3287⟩ : ∃ f_, h3284 63 20 = f_ := ⟨_, rfl⟩
                    have bf3287 : B f3287 (-2147483648) 2147483647 := by have z_ := hJ3284.1 63 20; rw [ef3287] at z_; exact z_
                    have zf3287 := congrArg Int32.toInt ef3287
                    obtain ⟨f3288, ef3288⟩ : ∃ f_, h3284 63 19 = f_ := ⟨_, rfl⟩
                    have bf3288 : B f3288 0 3 := by have z_ := hJ3284.1 63 19; rw [ef3288] at z_; exact z_
                    have zf3288 := congrArg Int32.toInt ef3288
                    have z3289 := congrArg Int32.toInt (rd_w k3284 (rd_o k3272 (rd_a k3269 (rd_a k3267 (rd_w k3189 (rd_w k2935 (rd_w k2896 (rd_w k2872 z1824 rfl) rfl) rfl) rfl) rfl) rfl) rfl) rfl)
                    have z3290 := congrArg Int32.toInt ef3285
                    have z3291 := congrArg Int32.toInt ef3286
                    have z3292 := congrArg Int32.toInt ef3287
                    have z3293 := congrArg Int32.toInt ef3288
                    have z3294 := congrArg Int32.toInt (rd_w k3284 (rd_o k3272 (rd_a k3269 (rd_a k3267 (rd_w k3189 (rd_w k2935 (rd_w k2896 (rd_w k2872 ef1829 rfl) rfl) rfl) rfl) rfl) rfl) rfl) rfl)
                    have z3295 := congrArg Int32.toInt (rd_w k3284 (rd_s k3272) rfl)
                    have z3296 := congrArg Int32.toInt (rd_w k3284 (rd_o k3272 (rd_a k3269 (rd_o k3267 (rd_w k3189 (rd_w k2935 (rd_w k2896 (rd_w k2872 ef1831 rfl) rfl) rfl) rfl) rfl) rfl) rfl) rfl)
                    have z3297 := congrArg Int32.toInt (rd_w k3284 (rd_o k3272 (rd_a k3269 (rd_s k3267) rfl) rfl) rfl)
                    have z3298 := congrArg Int32.toInt (rd_w k3284 (rd_o k3272 (rd_a k3269 (rd_o k3267 (rd_w k3189 (rd_w k2935 (rd_w k2896 (rd_w k2872 ef1833 rfl) rfl) rfl) rfl) rfl) rfl) rfl) rfl)
                    have z3299 := congrArg Int32.toInt (rd_w k3284 (rd_o k3272 (rd_a k3269 (rd_o k3267 (rd_w k3189 (rd_w k2935 (rd_w k2896 (rd_w k2872 ef1834 rfl) rfl) rfl) rfl) rfl) rfl) rfl) rfl)
                    refine ev_goto rfl rfl ?_
                    exact (EvQ.drop 3 (ih19 1 w1819 h3284 ((by decide : B 1 1 1).mono (by decide) (by decide)) b1821 hJ3284 (rd_w k3284 (rd_o k3272 (rd_a k3269 (rd_a k3267 (rd_w k3189 (rd_w k2935 (rd_w k2896 (rd_w k2872 z1824 rfl) rfl) rfl) rfl) rfl) rfl) rfl) rfl) (by have z0_ := congrArg Int32.toInt (rd_w k3284 (rd_o k3272 (rd_a k3269 (rd_a k3267 (rd_w k3189 (rd_w k2935 (rd_w k2896 (rd_w k2872 z1824 rfl) rfl) rfl) rfl) rfl) rfl) rfl) rfl); have z1_ := congrArg Int32.toInt ef3285; have z2_ := congrArg Int32.toInt ef3286; have z3_ := congrArg Int32.toInt ef3287; have z4_ := congrArg Int32.toInt ef3288; have z5_ := congrArg Int32.toInt (rd_w k3284 (rd_o k3272 (rd_a k3269 (rd_a k3267 (rd_w k3189 (rd_w k2935 (rd_w k2896 (rd_w k2872 ef1829 rfl) rfl) rfl) rfl) rfl) rfl) rfl) rfl); have z6_ := congrArg Int32.toInt (rd_w k3284 (rd_s k3272) rfl); have z7_ := congrArg Int32.toInt (rd_w k3284 (rd_o k3272 (rd_a k3269 (rd_o k3267 (rd_w k3189 (rd_w k2935 (rd_w k2896 (rd_w k2872 ef1831 rfl) rfl) rfl) rfl) rfl) rfl) rfl) rfl); have z8_ := congrArg Int32.toInt (rd_w k3284 (rd_o k3272 (rd_a k3269 (rd_s k3267) rfl) rfl) rfl); have z9_ := congrArg Int32.toInt (rd_w k3284 (rd_o k3272 (rd_a k3269 (rd_o k3267 (rd_w k3189 (rd_w k2935 (rd_w k2896 (rd_w k2872 ef1833 rfl) rfl) rfl) rfl) rfl) rfl) rfl) rfl); have z10_ := congrArg Int32.toInt (rd_w k3284 (rd_o k3272 (rd_a k3269 (rd_o k3267 (rd_w k3189 (rd_w k2935 (rd_w k2896 (rd_w k2872 ef1834 rfl) rfl) rfl) rfl) rfl) rfl) rfl) rfl); have z_ := w_lits; have zl_ := l_lits; omega) (by have z0_ := congrArg Int32.toInt (rd_w k3284 (rd_o k3272 (rd_a k3269 (rd_a k3267 (rd_w k3189 (rd_w k2935 (rd_w k2896 (rd_w k2872 z1824 rfl) rfl) rfl) rfl) rfl) rfl) rfl) rfl); have z1_ := congrArg Int32.toInt ef3285; have z2_ := congrArg Int32.toInt ef3286; have z3_ := congrArg Int32.toInt ef3287; have z4_ := congrArg Int32.toInt ef3288; have z5_ := congrArg Int32.toInt (rd_w k3284 (rd_o k3272 (rd_a k3269 (rd_a k3267 (rd_w k3189 (rd_w k2935 (rd_w k2896 (rd_w k2872 ef1829 rfl) rfl) rfl) rfl) rfl) rfl) rfl) rfl); have z6_ := congrArg Int32.toInt (rd_w k3284 (rd_s k3272) rfl); have z7_ := congrArg Int32.toInt (rd_w k3284 (rd_o k3272 (rd_a k3269 (rd_o k3267 (rd_w k3189 (rd_w k2935 (rd_w k2896 (rd_w k2872 ef1831 rfl) rfl) rfl) rfl) rfl) rfl) rfl) rfl); have z8_ := congrArg Int32.toInt (rd_w k3284 (rd_o k3272 (rd_a k3269 (rd_s k3267) rfl) rfl) rfl); have z9_ := congrArg Int32.toInt (rd_w k3284 (rd_o k3272 (rd_a k3269 (rd_o k3267 (rd_w k3189 (rd_w k2935 (rd_w k2896 (rd_w k2872 ef1833 rfl) rfl) rfl) rfl) rfl) rfl) rfl) rfl); have z10_ := congrArg Int32.toInt (rd_w k3284 (rd_o k3272 (rd_a k3269 (rd_o k3267 (rd_w k3189 (rd_w k2935 (rd_w k2896 (rd_w k2872 ef1834 rfl) rfl) rfl) rfl) rfl) rfl) rfl) rfl); have z_ := w_lits; have zl_ := l_lits; omega) (by have z0_ := congrArg Int32.toInt (rd_w k3284 (rd_o k3272 (rd_a k3269 (rd_a k3267 (rd_w k3189 (rd_w k2935 (rd_w k2896 (rd_w k2872 z1824 rfl) rfl) rfl) rfl) rfl) rfl) rfl) rfl); have z1_ := congrArg Int32.toInt ef3285; have z2_ := congrArg Int32.toInt ef3286; have z3_ := congrArg Int32.toInt ef3287; have z4_ := congrArg Int32.toInt ef3288; have z5_ := congrArg Int32.toInt (rd_w k3284 (rd_o k3272 (rd_a k3269 (rd_a k3267 (rd_w k3189 (rd_w k2935 (rd_w k2896 (rd_w k2872 ef1829 rfl) rfl) rfl) rfl) rfl) rfl) rfl) rfl); have z6_ := congrArg Int32.toInt (rd_w k3284 (rd_s k3272) rfl); have z7_ := congrArg Int32.toInt (rd_w k3284 (rd_o k3272 (rd_a k3269 (rd_o k3267 (rd_w k3189 (rd_w k2935 (rd_w k2896 (rd_w k2872 ef1831 rfl) rfl) rfl) rfl) rfl) rfl) rfl) rfl); have z8_ := congrArg Int32.toInt (rd_w k3284 (rd_o k3272 (rd_a k3269 (rd_s k3267) rfl) rfl) rfl); have z9_ := congrArg Int32.toInt (rd_w k3284 (rd_o k3272 (rd_a k3269 (rd_o k3267 (rd_w k3189 (rd_w k2935 (rd_w k2896 (rd_w k2872 ef1833 rfl) rfl) rfl) rfl) rfl) rfl) rfl) rfl); have z10_ := congrArg Int32.toInt (rd_w k3284 (rd_o k3272 (rd_a k3269 (rd_o k3267 (rd_w k3189 (rd_w k2935 (rd_w k2896 (rd_w k2872 ef1834 rfl) rfl) rfl) rfl) rfl) rfl) rfl) rfl); have z_ := w_lits; have zl_ := l_lits; omega) (by have z0_ := congrArg Int32.toInt (rd_w k3284 (rd_o k3272 (rd_a k3269 (rd_a k3267 (rd_w k3189 (rd_w k2935 (rd_w k2896 (rd_w k2872 z1824 rfl) rfl) rfl) rfl) rfl) rfl) rfl) rfl); have z1_ := congrArg Int32.toInt ef3285; have z2_ := congrArg Int32.toInt ef3286; have z3_ := congrArg Int32.toInt ef3287; have z4_ := congrArg Int32.toInt ef3288; have z5_ := congrArg Int32.toInt (rd_w k3284 (rd_o k3272 (rd_a k3269 (rd_a k3267 (rd_w k3189 (rd_w k2935 (rd_w k2896 (rd_w k2872 ef1829 rfl) rfl) rfl) rfl) rfl) rfl) rfl) rfl); have z6_ := congrArg Int32.toInt (rd_w k3284 (rd_s k3272) rfl); have z7_ := congrArg Int32.toInt (rd_w k3284 (rd_o k3272 (rd_a k3269 (rd_o k3267 (rd_w k3189 (rd_w k2935 (rd_w k2896 (rd_w k2872 ef1831 rfl) rfl) rfl) rfl) rfl) rfl) rfl) rfl); have z8_ := congrArg Int32.toInt (rd_w k3284 (rd_o k3272 (rd_a k3269 (rd_s k3267) rfl) rfl) rfl); have z9_ := congrArg Int32.toInt (rd_w k3284 (rd_o k3272 (rd_a k3269 (rd_o k3267 (rd_w k3189 (rd_w k2935 (rd_w k2896 (rd_w k2872 ef1833 rfl) rfl) rfl) rfl) rfl) rfl) rfl) rfl); have z10_ := congrArg Int32.toInt (rd_w k3284 (rd_o k3272 (rd_a k3269 (rd_o k3267 (rd_w k3189 (rd_w k2935 (rd_w k2896 (rd_w k2872 ef1834 rfl) rfl) rfl) rfl) rfl) rfl) rfl) rfl); have z_ := w_lits; have zl_ := l_lits; omega) (by have z0_ := congrArg Int32.toInt (rd_w k3284 (rd_o k3272 (rd_a k3269 (rd_a k3267 (rd_w k3189 (rd_w k2935 (rd_w k2896 (rd_w k2872 z1824 rfl) rfl) rfl) rfl) rfl) rfl) rfl) rfl); have z1_ := congrArg Int32.toInt ef3285; have z2_ := congrArg Int32.toInt ef3286; have z3_ := congrArg Int32.toInt ef3287; have z4_ := congrArg Int32.toInt ef3288; have z5_ := congrArg Int32.toInt (rd_w k3284 (rd_o k3272 (rd_a k3269 (rd_a k3267 (rd_w k3189 (rd_w k2935 (rd_w k2896 (rd_w k2872 ef1829 rfl) rfl) rfl) rfl) rfl) rfl) rfl) rfl); have z6_ := congrArg Int32.toInt (rd_w k3284 (rd_s k3272) rfl); have z7_ := congrArg Int32.toInt (rd_w k3284 (rd_o k3272 (rd_a k3269 (rd_o k3267 (rd_w k3189 (rd_w k2935 (rd_w k2896 (rd_w k2872 ef1831 rfl) rfl) rfl) rfl) rfl) rfl) rfl) rfl); have z8_ := congrArg Int32.toInt (rd_w k3284 (rd_o k3272 (rd_a k3269 (rd_s k3267) rfl) rfl) rfl); have z9_ := congrArg Int32.toInt (rd_w k3284 (rd_o k3272 (rd_a k3269 (rd_o k3267 (rd_w k3189 (rd_w k2935 (rd_w k2896 (rd_w k2872 ef1833 rfl) rfl) rfl) rfl) rfl) rfl) rfl) rfl); have z10_ := congrArg Int32.toInt (rd_w k3284 (rd_o k3272 (rd_a k3269 (rd_o k3267 (rd_w k3189 (rd_w k2935 (rd_w k2896 (rd_w k2872 ef1834 rfl) rfl) rfl) rfl) rfl) rfl) rfl) rfl); have z_ := w_lits; have zl_ := l_lits; omega) (by have z0_ := congrArg Int32.toInt (rd_w k3284 (rd_o k3272 (rd_a k3269 (rd_a k3267 (rd_w k3189 (rd_w k2935 (rd_w k2896 (rd_w k2872 z1824 rfl) rfl) rfl) rfl) rfl) rfl) rfl) rfl); have z1_ := congrArg Int32.toInt ef3285; have z2_ := congrArg Int32.toInt ef3286; have z3_ := congrArg Int32.toInt ef3287; have z4_ := congrArg Int32.toInt ef3288; have z5_ := congrArg Int32.toInt (rd_w k3284 (rd_o k3272 (rd_a k3269 (rd_a k3267 (rd_w k3189 (rd_w k2935 (rd_w k2896 (rd_w k2872 ef1829 rfl) rfl) rfl) rfl) rfl) rfl) rfl) rfl); have z6_ := congrArg Int32.toInt (rd_w k3284 (rd_s k3272) rfl); have z7_ := congrArg Int32.toInt (rd_w k3284 (rd_o k3272 (rd_a k3269 (rd_o k3267 (rd_w k3189 (rd_w k2935 (rd_w k2896 (rd_w k2872 ef1831 rfl) rfl) rfl) rfl) rfl) rfl) rfl) rfl); have z8_ := congrArg Int32.toInt (rd_w k3284 (rd_o k3272 (rd_a k3269 (rd_s k3267) rfl) rfl) rfl); have z9_ := congrArg Int32.toInt (rd_w k3284 (rd_o k3272 (rd_a k3269 (rd_o k3267 (rd_w k3189 (rd_w k2935 (rd_w k2896 (rd_w k2872 ef1833 rfl) rfl) rfl) rfl) rfl) rfl) rfl) rfl); have z10_ := congrArg Int32.toInt (rd_w k3284 (rd_o k3272 (rd_a k3269 (rd_o k3267 (rd_w k3189 (rd_w k2935 (rd_w k2896 (rd_w k2872 ef1834 rfl) rfl) rfl) rfl) rfl) rfl) rfl) rfl); have z_ := w_lits; have zl_ := l_lits; omega) (mM_dec hm19 (by have z0_ := congrArg Int32.toInt (rd_w k3284 (rd_o k3272 (rd_a k3269 (rd_a k3267 (rd_w k3189 (rd_w k2935 (rd_w k2896 (rd_w k2872 z1824 rfl) rfl) rfl) rfl) rfl) rfl) rfl) rfl); have z1_ := congrArg Int32.toInt ef3285; have z2_ := congrArg Int32.toInt ef3286; have z3_ := congrArg Int32.toInt ef3287; have z4_ := congrArg Int32.toInt ef3288; have z5_ := congrArg Int32.toInt (rd_w k3284 (rd_o k3272 (rd_a k3269 (rd_a k3267 (rd_w k3189 (rd_w k2935 (rd_w k2896 (rd_w k2872 ef1829 rfl) rfl) rfl) rfl) rfl) rfl) rfl) rfl); have z6_ := congrArg Int32.toInt (rd_w k3284 (rd_s k3272) rfl); have z7_ := congrArg Int32.toInt (rd_w k3284 (rd_o k3272 (rd_a k3269 (rd_o k3267 (rd_w k3189 (rd_w k2935 (rd_w k2896 (rd_w k2872 ef1831 rfl) rfl) rfl) rfl) rfl) rfl) rfl) rfl); have z8_ := congrArg Int32.toInt (rd_w k3284 (rd_o k3272 (rd_a k3269 (rd_s k3267) rfl) rfl) rfl); have z9_ := congrArg Int32.toInt (rd_w k3284 (rd_o k3272 (rd_a k3269 (rd_o k3267 (rd_w k3189 (rd_w k2935 (rd_w k2896 (rd_w k2872 ef1833 rfl) rfl) rfl) rfl) rfl) rfl) rfl) rfl); have z10_ := congrArg Int32.toInt (rd_w k3284 (rd_o k3272 (rd_a k3269 (rd_o k3267 (rd_w k3189 (rd_w k2935 (rd_w k2896 (rd_w k2872 ef1834 rfl) rfl) rfl) rfl) rfl) rfl) rfl) rfl); have z_ := w_lits; have zl_ := l_lits; omega) (by have z0_ := congrArg Int32.toInt (rd_w k3284 (rd_o k3272 (rd_a k3269 (rd_a k3267 (rd_w k3189 (rd_w k2935 (rd_w k2896 (rd_w k2872 z1824 rfl) rfl) rfl) rfl) rfl) rfl) rfl) rfl); have z1_ := congrArg Int32.toInt ef3285; have z2_ := congrArg Int32.toInt ef3286; have z3_ := congrArg Int32.toInt ef3287; have z4_ := congrArg Int32.toInt ef3288; have z5_ := congrArg Int32.toInt (rd_w k3284 (rd_o k3272 (rd_a k3269 (rd_a k3267 (rd_w k3189 (rd_w k2935 (rd_w k2896 (rd_w k2872 ef1829 rfl) rfl) rfl) rfl) rfl) rfl) rfl) rfl); have z6_ := congrArg Int32.toInt (rd_w k3284 (rd_s k3272) rfl); have z7_ := congrArg Int32.toInt (rd_w k3284 (rd_o k3272 (rd_a k3269 (rd_o k3267 (rd_w k3189 (rd_w k2935 (rd_w k2896 (rd_w k2872 ef1831 rfl) rfl) rfl) rfl) rfl) rfl) rfl) rfl); have z8_ := congrArg Int32.toInt (rd_w k3284 (rd_o k3272 (rd_a k3269 (rd_s k3267) rfl) rfl) rfl); have z9_ := congrArg Int32.toInt (rd_w k3284 (rd_o k3272 (rd_a k3269 (rd_o k3267 (rd_w k3189 (rd_w k2935 (rd_w k2896 (rd_w k2872 ef1833 rfl) rfl) rfl) rfl) rfl) rfl) rfl) rfl); have z10_ := congrArg Int32.toInt (rd_w k3284 (rd_o k3272 (rd_a k3269 (rd_o k3267 (rd_w k3189 (rd_w k2935 (rd_w k2896 (rd_w k2872 ef1834 rfl) rfl) rfl) rfl) rfl) rfl) rfl) rfl); have z_ := w_lits; have zl_ := l_lits; omega) (by have z0_ := congrArg Int32.toInt (rd_w k3284 (rd_o k3272 (rd_a k3269 (rd_a k3267 (rd_w k3189 (rd_w k2935 (rd_w k2896 (rd_w k2872 z1824 rfl) rfl) rfl) rfl) rfl) rfl) rfl) rfl); have z1_ := congrArg Int32.toInt ef3285; have z2_ := congrArg Int32.toInt ef3286; have z3_ := congrArg Int32.toInt ef3287; have z4_ := congrArg Int32.toInt ef3288; have z5_ := congrArg Int32.toInt (rd_w k3284 (rd_o k3272 (rd_a k3269 (rd_a k3267 (rd_w k3189 (rd_w k2935 (rd_w k2896 (rd_w k2872 ef1829 rfl) rfl) rfl) rfl) rfl) rfl) rfl) rfl); have z6_ := congrArg Int32.toInt (rd_w k3284 (rd_s k3272) rfl); have z7_ := congrArg Int32.toInt (rd_w k3284 (rd_o k3272 (rd_a k3269 (rd_o k3267 (rd_w k3189 (rd_w k2935 (rd_w k2896 (rd_w k2872 ef1831 rfl) rfl) rfl) rfl) rfl) rfl) rfl) rfl); have z8_ := congrArg Int32.toInt (rd_w k3284 (rd_o k3272 (rd_a k3269 (rd_s k3267) rfl) rfl) rfl); have z9_ := congrArg Int32.toInt (rd_w k3284 (rd_o k3272 (rd_a k3269 (rd_o k3267 (rd_w k3189 (rd_w k2935 (rd_w k2896 (rd_w k2872 ef1833 rfl) rfl) rfl) rfl) rfl) rfl) rfl) rfl); have z10_ := congrArg Int32.toInt (rd_w k3284 (rd_o k3272 (rd_a k3269 (rd_o k3267 (rd_w k3189 (rd_w k2935 (rd_w k2896 (rd_w k2872 ef1834 rfl) rfl) rfl) rfl) rfl) rfl) rfl) rfl); have z_ := w_lits; have zl_ := l_lits; omega))))
                  · refine ev_aload_n rfl rfl rfl ?_
                    refine ev_getV (v := f1829) rfl rfl fl_X10_234 rfl rfl rfl (rd_w k3189 (rd_w k2935 (rd_w k2896 (rd_w k2872 ef1829 rfl) rfl) rfl) rfl) ?_
                    refine ev_iasK (j := 2) (n := 5) (l := 0) (u := 60) hJ3189 (by decide : B 2 2 2) (by decide) (by decide) (by decide) rfl bf1829 (by decide) (by decide) rfl rfl rfl rfl rfl (fun h3300 hJ3300 k3300 => ?_)
                    refine ev_aload_n rfl rfl rfl ?_
                    refine ev_getR (y := 77) rfl rfl fl_X10_63 rfl rfl rfl rfl ?_
                    refine ev_aload_n rfl rfl rfl ?_
                    refine ev_getV (v := 2) rfl rfl fl_X10_241 rfl rfl rfl (rd_a k3300 (rd_w k3189 (rd_w k2935 (rd_w k2896 (rd_w k2872 ef1830 rfl) rfl) rfl) rfl) rfl) ?_
                    refine ev_iload_n rfl rfl rfl ?_
                    have b3301 : B f1827 0 20 := ⟨(by have z0_ := congrArg Int32.toInt (rd_a k3300 (rd_w k3189 (rd_w k2935 (rd_w k2896 (rd_w k2872 z1824 rfl) rfl) rfl) rfl) rfl); have z1_ := congrArg Int32.toInt (rd_a k3300 (rd_w k3189 (rd_w k2935 ef2897 rfl) rfl) rfl); have z2_ := congrArg Int32.toInt (rd_a k3300 ef3190 rfl); have z3_ := congrArg Int32.toInt (rd_a k3300 (rd_w k3189 (rd_w k2935 ef2899 rfl) rfl) rfl); have z4_ := congrArg Int32.toInt (rd_a k3300 (rd_w k3189 (rd_w k2935 ef2900 rfl) rfl) rfl); have z5_ := congrArg Int32.toInt (rd_a k3300 (rd_w k3189 (rd_w k2935 (rd_w k2896 (rd_w k2872 ef1829 rfl) rfl) rfl) rfl) rfl); have z6_ := congrArg Int32.toInt (rd_a k3300 (rd_w k3189 (rd_w k2935 (rd_w k2896 (rd_w k2872 ef1830 rfl) rfl) rfl) rfl) rfl); have z7_ := congrArg Int32.toInt (rd_o k3300 (rd_w k3189 (rd_w k2935 (rd_w k2896 (rd_w k2872 ef1831 rfl) rfl) rfl) rfl) rfl); have z8_ := congrArg Int32.toInt (rd_o k3300 (rd_w k3189 (rd_w k2935 (rd_w k2896 (rd_w k2872 ef1832 rfl) rfl) rfl) rfl) rfl); have z9_ := congrArg Int32.toInt (rd_s k3300); have z10_ := congrArg Int32.toInt (rd_o k3300 (rd_w k3189 (rd_w k2935 (rd_w k2896 (rd_w k2872 ef1834 rfl) rfl) rfl) rfl) rfl); have z_ := w_lits; have zl_ := l_lits; omega), (by have z0_ := congrArg Int32.toInt (rd_a k3300 (rd_w k3189 (rd_w k2935 (rd_w k2896 (rd_w k2872 z1824 rfl) rfl) rfl) rfl) rfl); have z1_ := congrArg Int32.toInt (rd_a k3300 (rd_w k3189 (rd_w k2935 ef2897 rfl) rfl) rfl); have z2_ := congrArg Int32.toInt (rd_a k3300 ef3190 rfl); have z3_ := congrArg Int32.toInt (rd_a k3300 (rd_w k3189 (rd_w k2935 ef2899 rfl) rfl) rfl); have z4_ := congrArg Int32.toInt (rd_a k3300 (rd_w k3189 (rd_w k2935 ef2900 rfl) rfl) rfl); have z5_ := congrArg Int32.toInt (rd_a k3300 (rd_w k3189 (rd_w k2935 (rd_w k2896 (rd_w k2872 ef1829 rfl) rfl) rfl) rfl) rfl); have z6_ := congrArg Int32.toInt (rd_a k3300 (rd_w k3189 (rd_w k2935 (rd_w k2896 (rd_w k2872 ef1830 rfl) rfl) rfl) rfl) rfl); have z7_ := congrArg Int32.toInt (rd_o k3300 (rd_w k3189 (rd_w k2935 (rd_w k2896 (rd_w k2872 ef1831 rfl) rfl) rfl) rfl) rfl); have z8_ := congrArg Int32.toInt (rd_o k3300 (rd_w k3189 (rd_w k2935 (rd_w k2896 (rd_w k2872 ef1832 rfl) rfl) rfl) rfl) rfl); have z9_ := congrArg Int32.toInt (rd_s k3300); have z10_ := congrArg Int32.toInt (rd_o k3300 (rd_w k3189 (rd_w k2935 (rd_w k2896 (rd_w k2872 ef1834 rfl) rfl) rfl) rfl) rfl); have z_ := w_lits; have zl_ := l_lits; omega)⟩
                    refine ev_iasW (n := 5) (l := 0) (u := 20) hJ3300 (by decide : B 2 2 2) (by decide) (by decide) (fun _ => rfl) b3301 (by decide) (by decide) (fun _ => rfl) rfl rfl rfl rfl (fun h3302 hJ3302 k3302 => ?_)
                    refine ev_aload_n rfl rfl rfl ?_
                    refine ev_dup rfl rfl rfl ?_
                    refine ev_getV (v := 2) rfl rfl fl_X10_241 rfl rfl rfl (rd_a k3302 (rd_a k3300 (rd_w k3189 (rd_w k2935 (rd_w k2896 (rd_w k2872 ef1830 rfl) rfl) rfl) rfl) rfl) rfl) ?_
                    refine ev_iconst (v := 1) rfl rfl (by decide) ?_
                    refine ev_iaddB (l := 3) (u := 3) rfl rfl (by decide : B 2 2 2) (by decide : B 1 1 1) (by decide) (by decide) (by decide) (by decide) (fun v3303 b3303 e3303 g3303 => ?_)
                    have e3303x := e3303; rw [show (2 : Int32).toInt = 2 from by decide] at e3303x
                    have e3303xx := e3303x; rw [show (1 : Int32).toInt = 1 from by decide] at e3303xx
                    have b3304 : B v3303 0 4 := ⟨(by have z0_ := congrArg Int32.toInt (rd_a k3302 (rd_a k3300 (rd_w k3189 (rd_w k2935 (rd_w k2896 (rd_w k2872 z1824 rfl) rfl) rfl) rfl) rfl) rfl); have z1_ := congrArg Int32.toInt (rd_a k3302 (rd_a k3300 (rd_w k3189 (rd_w k2935 ef2897 rfl) rfl) rfl) rfl); have z2_ := congrArg Int32.toInt (rd_a k3302 (rd_a k3300 ef3190 rfl) rfl); have z3_ := congrArg Int32.toInt (rd_a k3302 (rd_a k3300 (rd_w k3189 (rd_w k2935 ef2899 rfl) rfl) rfl) rfl); have z4_ := congrArg Int32.toInt (rd_a k3302 (rd_a k3300 (rd_w k3189 (rd_w k2935 ef2900 rfl) rfl) rfl) rfl); have z5_ := congrArg Int32.toInt (rd_a k3302 (rd_a k3300 (rd_w k3189 (rd_w k2935 (rd_w k2896 (rd_w k2872 ef1829 rfl) rfl) rfl) rfl) rfl) rfl); have z6_ := congrArg Int32.toInt (rd_a k3302 (rd_a k3300 (rd_w k3189 (rd_w k2935 (rd_w k2896 (rd_w k2872 ef1830 rfl) rfl) rfl) rfl) rfl) rfl); have z7_ := congrArg Int32.toInt (rd_a k3302 (rd_o k3300 (rd_w k3189 (rd_w k2935 (rd_w k2896 (rd_w k2872 ef1831 rfl) rfl) rfl) rfl) rfl) rfl); have z8_ := congrArg Int32.toInt (rd_a k3302 (rd_o k3300 (rd_w k3189 (rd_w k2935 (rd_w k2896 (rd_w k2872 ef1832 rfl) rfl) rfl) rfl) rfl) rfl); have z9_ := congrArg Int32.toInt (rd_a k3302 (rd_s k3300) rfl); have z10_ := congrArg Int32.toInt (rd_a k3302 (rd_o k3300 (rd_w k3189 (rd_w k2935 (rd_w k2896 (rd_w k2872 ef1834 rfl) rfl) rfl) rfl) rfl) rfl); have z_ := w_lits; have zl_ := l_lits; omega), (by have z0_ := congrArg Int32.toInt (rd_a k3302 (rd_a k3300 (rd_w k3189 (rd_w k2935 (rd_w k2896 (rd_w k2872 z1824 rfl) rfl) rfl) rfl) rfl) rfl); have z1_ := congrArg Int32.toInt (rd_a k3302 (rd_a k3300 (rd_w k3189 (rd_w k2935 ef2897 rfl) rfl) rfl) rfl); have z2_ := congrArg Int32.toInt (rd_a k3302 (rd_a k3300 ef3190 rfl) rfl); have z3_ := congrArg Int32.toInt (rd_a k3302 (rd_a k3300 (rd_w k3189 (rd_w k2935 ef2899 rfl) rfl) rfl) rfl); have z4_ := congrArg Int32.toInt (rd_a k3302 (rd_a k3300 (rd_w k3189 (rd_w k2935 ef2900 rfl) rfl) rfl) rfl); have z5_ := congrArg Int32.toInt (rd_a k3302 (rd_a k3300 (rd_w k3189 (rd_w k2935 (rd_w k2896 (rd_w k2872 ef1829 rfl) rfl) rfl) rfl) rfl) rfl); have z6_ := congrArg Int32.toInt (rd_a k3302 (rd_a k3300 (rd_w k3189 (rd_w k2935 (rd_w k2896 (rd_w k2872 ef1830 rfl) rfl) rfl) rfl) rfl) rfl); have z7_ := congrArg Int32.toInt (rd_a k3302 (rd_o k3300 (rd_w k3189 (rd_w k2935 (rd_w k2896 (rd_w k2872 ef1831 rfl) rfl) rfl) rfl) rfl) rfl); have z8_ := congrArg Int32.toInt (rd_a k3302 (rd_o k3300 (rd_w k3189 (rd_w k2935 (rd_w k2896 (rd_w k2872 ef1832 rfl) rfl) rfl) rfl) rfl) rfl); have z9_ := congrArg Int32.toInt (rd_a k3302 (rd_s k3300) rfl); have z10_ := congrArg Int32.toInt (rd_a k3302 (rd_o k3300 (rd_w k3189 (rd_w k2935 (rd_w k2896 (rd_w k2872 ef1834 rfl) rfl) rfl) rfl) rfl) rfl); have z_ := w_lits; have zl_ := l_lits; omega)⟩
                    refine ev_putW (l := 0) (u := 4) hJ3302 rfl b3304 (by decide) (by decide) rfl rfl rfl fl_X10_241 rfl rfl rfl rfl rfl (fun h3305 hJ3305 k3305 => ?_)
                    refine ev_iconst (v := 1) rfl rfl (by decide) ?_
                    refine ev_istore_n rfl rfl rfl rfl ?_
                    dsimp only [List.set]
                    refine ev_aload_n rfl rfl rfl ?_
                    have z3306 := congrArg Int32.toInt (rd_o k3305 (rd_a k3302 (rd_a k3300 (rd_w k3189 (rd_w k2935 (rd_w k2896 (rd_w k2872 z1824 rfl) rfl) rfl) rfl) rfl) rfl) rfl)
                    have z3307 := congrArg Int32.toInt (rd_o k3305 (rd_a k3302 (rd_a k3300 (rd_w k3189 (rd_w k2935 ef2897 rfl) rfl) rfl) rfl) rfl)
                    have z3308 := congrArg Int32.toInt (rd_o k3305 (rd_a k3302 (rd_a k3300 ef3190 rfl) rfl) rfl)
                    have z3309 := congrArg Int32.toInt (rd_o k3305 (rd_a k3302 (rd_a k3300 (rd_w k3189 (rd_w k2935 ef2899 rfl) rfl) rfl) rfl) rfl)
                    have z3310 := congrArg Int32.toInt (rd_o k3305 (rd_a k3302 (rd_a k3300 (rd_w k3189 (rd_w k2935 ef2900 rfl) rfl) rfl) rfl) rfl)
                    have z3311 := congrArg Int32.toInt (rd_o k3305 (rd_a k3302 (rd_a k3300 (rd_w k3189 (rd_w k2935 (rd_w k2896 (rd_w k2872 ef1829 rfl) rfl) rfl) rfl) rfl) rfl) rfl)
                    have z3312 := congrArg Int32.toInt (rd_s k3305)
                    have z3313 := congrArg Int32.toInt (rd_o k3305 (rd_a k3302 (rd_o k3300 (rd_w k3189 (rd_w k2935 (rd_w k2896 (rd_w k2872 ef1831 rfl) rfl) rfl) rfl) rfl) rfl) rfl)
                    have z3314 := congrArg Int32.toInt (rd_o k3305 (rd_a k3302 (rd_o k3300 (rd_w k3189 (rd_w k2935 (rd_w k2896 (rd_w k2872 ef1832 rfl) rfl) rfl) rfl) rfl) rfl) rfl)
                    have z3315 := congrArg Int32.toInt (rd_o k3305 (rd_a k3302 (rd_s k3300) rfl) rfl)
                    have z3316 := congrArg Int32.toInt (rd_o k3305 (rd_a k3302 (rd_o k3300 (rd_w k3189 (rd_w k2935 (rd_w k2896 (rd_w k2872 ef1834 rfl) rfl) rfl) rfl) rfl) rfl) rfl)
                    refine ev_V0K hJ3305 rfl rfl rfl lk_X10_251 vt_X10_next rfl rfl rfl rfl rfl (w_X10_next_63 L b h3305 hJ3305.1 (by have z0_ := congrArg Int32.toInt (rd_o k3305 (rd_a k3302 (rd_a k3300 (rd_w k3189 (rd_w k2935 (rd_w k2896 (rd_w k2872 z1824 rfl) rfl) rfl) rfl) rfl) rfl) rfl); have z1_ := congrArg Int32.toInt (rd_o k3305 (rd_a k3302 (rd_a k3300 (rd_w k3189 (rd_w k2935 ef2897 rfl) rfl) rfl) rfl) rfl); have z2_ := congrArg Int32.toInt (rd_o k3305 (rd_a k3302 (rd_a k3300 ef3190 rfl) rfl) rfl); have z3_ := congrArg Int32.toInt (rd_o k3305 (rd_a k3302 (rd_a k3300 (rd_w k3189 (rd_w k2935 ef2899 rfl) rfl) rfl) rfl) rfl); have z4_ := congrArg Int32.toInt (rd_o k3305 (rd_a k3302 (rd_a k3300 (rd_w k3189 (rd_w k2935 ef2900 rfl) rfl) rfl) rfl) rfl); have z5_ := congrArg Int32.toInt (rd_o k3305 (rd_a k3302 (rd_a k3300 (rd_w k3189 (rd_w k2935 (rd_w k2896 (rd_w k2872 ef1829 rfl) rfl) rfl) rfl) rfl) rfl) rfl); have z6_ := congrArg Int32.toInt (rd_s k3305); have z7_ := congrArg Int32.toInt (rd_o k3305 (rd_a k3302 (rd_o k3300 (rd_w k3189 (rd_w k2935 (rd_w k2896 (rd_w k2872 ef1831 rfl) rfl) rfl) rfl) rfl) rfl) rfl); have z8_ := congrArg Int32.toInt (rd_o k3305 (rd_a k3302 (rd_o k3300 (rd_w k3189 (rd_w k2935 (rd_w k2896 (rd_w k2872 ef1832 rfl) rfl) rfl) rfl) rfl) rfl) rfl); have z9_ := congrArg Int32.toInt (rd_o k3305 (rd_a k3302 (rd_s k3300) rfl) rfl); have z10_ := congrArg Int32.toInt (rd_o k3305 (rd_a k3302 (rd_o k3300 (rd_w k3189 (rd_w k2935 (rd_w k2896 (rd_w k2872 ef1834 rfl) rfl) rfl) rfl) rfl) rfl) rfl); have z_ := w_lits; have zl_ := l_lits; omega)) (fun h3317 hJ3317 k3317 m3317 => ?_)
                    obtain ⟨m3317_0, m3317_1, m3317_2, m3317_3, m3317_4⟩ := m3317
                    obtain ⟨f3318, ef3318⟩ : ∃ f_, h3317 63 17 = f_ := ⟨_, rfl⟩
                    have bf3318 : B f3318 0 160 := by have z_ := hJ3317.1 63 17; rw [ef3318] at z_; exact z_
                    have zf3318 := congrArg Int32.toInt ef3318
                    obtain ⟨f3319, ef3319⟩ : ∃ f_, h3317 63 21 = f_ := ⟨_, rfl⟩
                    have bf3319 : B f3319 0 6 := by have z_ := hJ3317.1 63 21; rw [ef3319] at z_; exact z_
                    have zf3319 := congrArg Int32.toInt ef3319
                    obtain ⟨f3320, ef3320⟩ : ∃ f_, h3317 63 20 = f_ := ⟨_, rfl⟩
                    have bf3320 : B f3320 (-2147483648) 2147483647 := by have z_ := hJ3317.1 63 20; rw [ef3320] at z_; exact z_
                    have zf3320 := congrArg Int32.toInt ef3320
                    obtain ⟨f3321, ef3321⟩ : ∃ f_, h3317 63 19 = f_ := ⟨_, rfl⟩
                    have bf3321 : B f3321 0 3 := by have z_ := hJ3317.1 63 19; rw [ef3321] at z_; exact z_
                    have zf3321 := congrArg Int32.toInt ef3321
                    have z3322 := congrArg Int32.toInt (rd_w k3317 (rd_o k3305 (rd_a k3302 (rd_a k3300 (rd_w k3189 (rd_w k2935 (rd_w k2896 (rd_w k2872 z1824 rfl) rfl) rfl) rfl) rfl) rfl) rfl) rfl)
                    have z3323 := congrArg Int32.toInt ef3318
                    have z3324 := congrArg Int32.toInt ef3319
                    have z3325 := congrArg Int32.toInt ef3320
                    have z3326 := congrArg Int32.toInt ef3321
                    have z3327 := congrArg Int32.toInt (rd_w k3317 (rd_o k3305 (rd_a k3302 (rd_a k3300 (rd_w k3189 (rd_w k2935 (rd_w k2896 (rd_w k2872 ef1829 rfl) rfl) rfl) rfl) rfl) rfl) rfl) rfl)
                    have z3328 := congrArg Int32.toInt (rd_w k3317 (rd_s k3305) rfl)
                    have z3329 := congrArg Int32.toInt (rd_w k3317 (rd_o k3305 (rd_a k3302 (rd_o k3300 (rd_w k3189 (rd_w k2935 (rd_w k2896 (rd_w k2872 ef1831 rfl) rfl) rfl) rfl) rfl) rfl) rfl) rfl)
                    have z3330 := congrArg Int32.toInt (rd_w k3317 (rd_o k3305 (rd_a k3302 (rd_o k3300 (rd_w k3189 (rd_w k2935 (rd_w k2896 (rd_w k2872 ef1832 rfl) rfl) rfl) rfl) rfl) rfl) rfl) rfl)
                    have z3331 := congrArg Int32.toInt (rd_w k3317 (rd_o k3305 (rd_a k3302 (rd_s k3300) rfl) rfl) rfl)
                    have z3332 := congrArg Int32.toInt (rd_w k3317 (rd_o k3305 (rd_a k3302 (rd_o k3300 (rd_w k3189 (rd_w k2935 (rd_w k2896 (rd_w k2872 ef1834 rfl) rfl) rfl) rfl) rfl) rfl) rfl) rfl)
                    refine ev_goto rfl rfl ?_
                    exact (EvQ.drop 3 (ih19 1 w1819 h3317 ((by decide : B 1 1 1).mono (by decide) (by decide)) b1821 hJ3317 (rd_w k3317 (rd_o k3305 (rd_a k3302 (rd_a k3300 (rd_w k3189 (rd_w k2935 (rd_w k2896 (rd_w k2872 z1824 rfl) rfl) rfl) rfl) rfl) rfl) rfl) rfl) (by have z0_ := congrArg Int32.toInt (rd_w k3317 (rd_o k3305 (rd_a k3302 (rd_a k3300 (rd_w k3189 (rd_w k2935 (rd_w k2896 (rd_w k2872 z1824 rfl) rfl) rfl) rfl) rfl) rfl) rfl) rfl); have z1_ := congrArg Int32.toInt ef3318; have z2_ := congrArg Int32.toInt ef3319; have z3_ := congrArg Int32.toInt ef3320; have z4_ := congrArg Int32.toInt ef3321; have z5_ := congrArg Int32.toInt (rd_w k3317 (rd_o k3305 (rd_a k3302 (rd_a k3300 (rd_w k3189 (rd_w k2935 (rd_w k2896 (rd_w k2872 ef1829 rfl) rfl) rfl) rfl) rfl) rfl) rfl) rfl); have z6_ := congrArg Int32.toInt (rd_w k3317 (rd_s k3305) rfl); have z7_ := congrArg Int32.toInt (rd_w k3317 (rd_o k3305 (rd_a k3302 (rd_o k3300 (rd_w k3189 (rd_w k2935 (rd_w k2896 (rd_w k2872 ef1831 rfl) rfl) rfl) rfl) rfl) rfl) rfl) rfl); have z8_ := congrArg Int32.toInt (rd_w k3317 (rd_o k3305 (rd_a k3302 (rd_o k3300 (rd_w k3189 (rd_w k2935 (rd_w k2896 (rd_w k2872 ef1832 rfl) rfl) rfl) rfl) rfl) rfl) rfl) rfl); have z9_ := congrArg Int32.toInt (rd_w k3317 (rd_o k3305 (rd_a k3302 (rd_s k3300) rfl) rfl) rfl); have z10_ := congrArg Int32.toInt (rd_w k3317 (rd_o k3305 (rd_a k3302 (rd_o k3300 (rd_w k3189 (rd_w k2935 (rd_w k2896 (rd_w k2872 ef1834 rfl) rfl) rfl) rfl) rfl) rfl) rfl) rfl); have z_ := w_lits; have zl_ := l_lits; omega) (by have z0_ := congrArg Int32.toInt (rd_w k3317 (rd_o k3305 (rd_a k3302 (rd_a k3300 (rd_w k3189 (rd_w k2935 (rd_w k2896 (rd_w k2872 z1824 rfl) rfl) rfl) rfl) rfl) rfl) rfl) rfl); have z1_ := congrArg Int32.toInt ef3318; have z2_ := congrArg Int32.toInt ef3319; have z3_ := congrArg Int32.toInt ef3320; have z4_ := congrArg Int32.toInt ef3321; have z5_ := congrArg Int32.toInt (rd_w k3317 (rd_o k3305 (rd_a k3302 (rd_a k3300 (rd_w k3189 (rd_w k2935 (rd_w k2896 (rd_w k2872 ef1829 rfl) rfl) rfl) rfl) rfl) rfl) rfl) rfl); have z6_ := congrArg Int32.toInt (rd_w k3317 (rd_s k3305) rfl); have z7_ := congrArg Int32.toInt (rd_w k3317 (rd_o k3305 (rd_a k3302 (rd_o k3300 (rd_w k3189 (rd_w k2935 (rd_w k2896 (rd_w k2872 ef1831 rfl) rfl) rfl) rfl) rfl) rfl) rfl) rfl); have z8_ := congrArg Int32.toInt (rd_w k3317 (rd_o k3305 (rd_a k3302 (rd_o k3300 (rd_w k3189 (rd_w k2935 (rd_w k2896 (rd_w k2872 ef1832 rfl) rfl) rfl) rfl) rfl) rfl) rfl) rfl); have z9_ := congrArg Int32.toInt (rd_w k3317 (rd_o k3305 (rd_a k3302 (rd_s k3300) rfl) rfl) rfl); have z10_ := congrArg Int32.toInt (rd_w k3317 (rd_o k3305 (rd_a k3302 (rd_o k3300 (rd_w k3189 (rd_w k2935 (rd_w k2896 (rd_w k2872 ef1834 rfl) rfl) rfl) rfl) rfl) rfl) rfl) rfl); have z_ := w_lits; have zl_ := l_lits; omega) (by have z0_ := congrArg Int32.toInt (rd_w k3317 (rd_o k3305 (rd_a k3302 (rd_a k3300 (rd_w k3189 (rd_w k2935 (rd_w k2896 (rd_w k2872 z1824 rfl) rfl) rfl) rfl) rfl) rfl) rfl) rfl); have z1_ := congrArg Int32.toInt ef3318; have z2_ := congrArg Int32.toInt ef3319; have z3_ := congrArg Int32.toInt ef3320; have z4_ := congrArg Int32.toInt ef3321; have z5_ := congrArg Int32.toInt (rd_w k3317 (rd_o k3305 (rd_a k3302 (rd_a k3300 (rd_w k3189 (rd_w k2935 (rd_w k2896 (rd_w k2872 ef1829 rfl) rfl) rfl) rfl) rfl) rfl) rfl) rfl); have z6_ := congrArg Int32.toInt (rd_w k3317 (rd_s k3305) rfl); have z7_ := congrArg Int32.toInt (rd_w k3317 (rd_o k3305 (rd_a k3302 (rd_o k3300 (rd_w k3189 (rd_w k2935 (rd_w k2896 (rd_w k2872 ef1831 rfl) rfl) rfl) rfl) rfl) rfl) rfl) rfl); have z8_ := congrArg Int32.toInt (rd_w k3317 (rd_o k3305 (rd_a k3302 (rd_o k3300 (rd_w k3189 (rd_w k2935 (rd_w k2896 (rd_w k2872 ef1832 rfl) rfl) rfl) rfl) rfl) rfl) rfl) rfl); have z9_ := congrArg Int32.toInt (rd_w k3317 (rd_o k3305 (rd_a k3302 (rd_s k3300) rfl) rfl) rfl); have z10_ := congrArg Int32.toInt (rd_w k3317 (rd_o k3305 (rd_a k3302 (rd_o k3300 (rd_w k3189 (rd_w k2935 (rd_w k2896 (rd_w k2872 ef1834 rfl) rfl) rfl) rfl) rfl) rfl) rfl) rfl); have z_ := w_lits; have zl_ := l_lits; omega) (by have z0_ := congrArg Int32.toInt (rd_w k3317 (rd_o k3305 (rd_a k3302 (rd_a k3300 (rd_w k3189 (rd_w k2935 (rd_w k2896 (rd_w k2872 z1824 rfl) rfl) rfl) rfl) rfl) rfl) rfl) rfl); have z1_ := congrArg Int32.toInt ef3318; have z2_ := congrArg Int32.toInt ef3319; have z3_ := congrArg Int32.toInt ef3320; have z4_ := congrArg Int32.toInt ef3321; have z5_ := congrArg Int32.toInt (rd_w k3317 (rd_o k3305 (rd_a k3302 (rd_a k3300 (rd_w k3189 (rd_w k2935 (rd_w k2896 (rd_w k2872 ef1829 rfl) rfl) rfl) rfl) rfl) rfl) rfl) rfl); have z6_ := congrArg Int32.toInt (rd_w k3317 (rd_s k3305) rfl); have z7_ := congrArg Int32.toInt (rd_w k3317 (rd_o k3305 (rd_a k3302 (rd_o k3300 (rd_w k3189 (rd_w k2935 (rd_w k2896 (rd_w k2872 ef1831 rfl) rfl) rfl) rfl) rfl) rfl) rfl) rfl); have z8_ := congrArg Int32.toInt (rd_w k3317 (rd_o k3305 (rd_a k3302 (rd_o k3300 (rd_w k3189 (rd_w k2935 (rd_w k2896 (rd_w k2872 ef1832 rfl) rfl) rfl) rfl) rfl) rfl) rfl) rfl); have z9_ := congrArg Int32.toInt (rd_w k3317 (rd_o k3305 (rd_a k3302 (rd_s k3300) rfl) rfl) rfl); have z10_ := congrArg Int32.toInt (rd_w k3317 (rd_o k3305 (rd_a k3302 (rd_o k3300 (rd_w k3189 (rd_w k2935 (rd_w k2896 (rd_w k2872 ef1834 rfl) rfl) rfl) rfl) rfl) rfl) rfl) rfl); have z_ := w_lits; have zl_ := l_lits; omega) (by have z0_ := congrArg Int32.toInt (rd_w k3317 (rd_o k3305 (rd_a k3302 (rd_a k3300 (rd_w k3189 (rd_w k2935 (rd_w k2896 (rd_w k2872 z1824 rfl) rfl) rfl) rfl) rfl) rfl) rfl) rfl); have z1_ := congrArg Int32.toInt ef3318; have z2_ := congrArg Int32.toInt ef3319; have z3_ := congrArg Int32.toInt ef3320; have z4_ := congrArg Int32.toInt ef3321; have z5_ := congrArg Int32.toInt (rd_w k3317 (rd_o k3305 (rd_a k3302 (rd_a k3300 (rd_w k3189 (rd_w k2935 (rd_w k2896 (rd_w k2872 ef1829 rfl) rfl) rfl) rfl) rfl) rfl) rfl) rfl); have z6_ := congrArg Int32.toInt (rd_w k3317 (rd_s k3305) rfl); have z7_ := congrArg Int32.toInt (rd_w k3317 (rd_o k3305 (rd_a k3302 (rd_o k3300 (rd_w k3189 (rd_w k2935 (rd_w k2896 (rd_w k2872 ef1831 rfl) rfl) rfl) rfl) rfl) rfl) rfl) rfl); have z8_ := congrArg Int32.toInt (rd_w k3317 (rd_o k3305 (rd_a k3302 (rd_o k3300 (rd_w k3189 (rd_w k2935 (rd_w k2896 (rd_w k2872 ef1832 rfl) rfl) rfl) rfl) rfl) rfl) rfl) rfl); have z9_ := congrArg Int32.toInt (rd_w k3317 (rd_o k3305 (rd_a k3302 (rd_s k3300) rfl) rfl) rfl); have z10_ := congrArg Int32.toInt (rd_w k3317 (rd_o k3305 (rd_a k3302 (rd_o k3300 (rd_w k3189 (rd_w k2935 (rd_w k2896 (rd_w k2872 ef1834 rfl) rfl) rfl) rfl) rfl) rfl) rfl) rfl); have z_ := w_lits; have zl_ := l_lits; omega) (by have z0_ := congrArg Int32.toInt (rd_w k3317 (rd_o k3305 (rd_a k3302 (rd_a k3300 (rd_w k3189 (rd_w k2935 (rd_w k2896 (rd_w k2872 z1824 rfl) rfl) rfl) rfl) rfl) rfl) rfl) rfl); have z1_ := congrArg Int32.toInt ef3318; have z2_ := congrArg Int32.toInt ef3319; have z3_ := congrArg Int32.toInt ef3320; have z4_ := congrArg Int32.toInt ef3321; have z5_ := congrArg Int32.toInt (rd_w k3317 (rd_o k3305 (rd_a k3302 (rd_a k3300 (rd_w k3189 (rd_w k2935 (rd_w k2896 (rd_w k2872 ef1829 rfl) rfl) rfl) rfl) rfl) rfl) rfl) rfl); have z6_ := congrArg Int32.toInt (rd_w k3317 (rd_s k3305) rfl); have z7_ := congrArg Int32.toInt (rd_w k3317 (rd_o k3305 (rd_a k3302 (rd_o k3300 (rd_w k3189 (rd_w k2935 (rd_w k2896 (rd_w k2872 ef1831 rfl) rfl) rfl) rfl) rfl) rfl) rfl) rfl); have z8_ := congrArg Int32.toInt (rd_w k3317 (rd_o k3305 (rd_a k3302 (rd_o k3300 (rd_w k3189 (rd_w k2935 (rd_w k2896 (rd_w k2872 ef1832 rfl) rfl) rfl) rfl) rfl) rfl) rfl) rfl); have z9_ := congrArg Int32.toInt (rd_w k3317 (rd_o k3305 (rd_a k3302 (rd_s k3300) rfl) rfl) rfl); have z10_ := congrArg Int32.toInt (rd_w k3317 (rd_o k3305 (rd_a k3302 (rd_o k3300 (rd_w k3189 (rd_w k2935 (rd_w k2896 (rd_w k2872 ef1834 rfl) rfl) rfl) rfl) rfl) rfl) rfl) rfl); have z_ := w_lits; have zl_ := l_lits; omega) (mM_dec hm19 (by have z0_ := congrArg Int32.toInt (rd_w k3317 (rd_o k3305 (rd_a k3302 (rd_a k3300 (rd_w k3189 (rd_w k2935 (rd_w k2896 (rd_w k2872 z1824 rfl) rfl) rfl) rfl) rfl) rfl) rfl) rfl); have z1_ := congrArg Int32.toInt ef3318; have z2_ := congrArg Int32.toInt ef3319; have z3_ := congrArg Int32.toInt ef3320; have z4_ := congrArg Int32.toInt ef3321; have z5_ := congrArg Int32.toInt (rd_w k3317 (rd_o k3305 (rd_a k3302 (rd_a k3300 (rd_w k3189 (rd_w k2935 (rd_w k2896 (rd_w k2872 ef1829 rfl) rfl) rfl) rfl) rfl) rfl) rfl) rfl); have z6_ := congrArg Int32.toInt (rd_w k3317 (rd_s k3305) rfl); have z7_ := congrArg Int32.toInt (rd_w k3317 (rd_o k3305 (rd_a k3302 (rd_o k3300 (rd_w k3189 (rd_w k2935 (rd_w k2896 (rd_w k2872 ef1831 rfl) rfl) rfl) rfl) rfl) rfl) rfl) rfl); have z8_ := congrArg Int32.toInt (rd_w k3317 (rd_o k3305 (rd_a k3302 (rd_o k3300 (rd_w k3189 (rd_w k2935 (rd_w k2896 (rd_w k2872 ef1832 rfl) rfl) rfl) rfl) rfl) rfl) rfl) rfl); have z9_ := congrArg Int32.toInt (rd_w k3317 (rd_o k3305 (rd_a k3302 (rd_s k3300) rfl) rfl) rfl); have z10_ := congrArg Int32.toInt (rd_w k3317 (rd_o k3305 (rd_a k3302 (rd_o k3300 (rd_w k3189 (rd_w k2935 (rd_w k2896 (rd_w k2872 ef1834 rfl) rfl) rfl) rfl) rfl) rfl) rfl) rfl); have z_ := w_lits; have zl_ := l_lits; omega) (by have z0_ := congrArg Int32.toInt (rd_w k3317 (rd_o k3305 (rd_a k3302 (rd_a k3300 (rd_w k3189 (rd_w k2935 (rd_w k2896 (rd_w k2872 z1824 rfl) rfl) rfl) rfl) rfl) rfl) rfl) rfl); have z1_ := congrArg Int32.toInt ef3318; have z2_ := congrArg Int32.toInt ef3319; have z3_ := congrArg Int32.toInt ef3320; have z4_ := congrArg Int32.toInt ef3321; have z5_ := congrArg Int32.toInt (rd_w k3317 (rd_o k3305 (rd_a k3302 (rd_a k3300 (rd_w k3189 (rd_w k2935 (rd_w k2896 (rd_w k2872 ef1829 rfl) rfl) rfl) rfl) rfl) rfl) rfl) rfl); have z6_ := congrArg Int32.toInt (rd_w k3317 (rd_s k3305) rfl); have z7_ := congrArg Int32.toInt (rd_w k3317 (rd_o k3305 (rd_a k3302 (rd_o k3300 (rd_w k3189 (rd_w k2935 (rd_w k2896 (rd_w k2872 ef1831 rfl) rfl) rfl) rfl) rfl) rfl) rfl) rfl); have z8_ := congrArg Int32.toInt (rd_w k3317 (rd_o k3305 (rd_a k3302 (rd_o k3300 (rd_w k3189 (rd_w k2935 (rd_w k2896 (rd_w k2872 ef1832 rfl) rfl) rfl) rfl) rfl) rfl) rfl) rfl); have z9_ := congrArg Int32.toInt (rd_w k3317 (rd_o k3305 (rd_a k3302 (rd_s k3300) rfl) rfl) rfl); have z10_ := congrArg Int32.toInt (rd_w k3317 (rd_o k3305 (rd_a k3302 (rd_o k3300 (rd_w k3189 (rd_w k2935 (rd_w k2896 (rd_w k2872 ef1834 rfl) rfl) rfl) rfl) rfl) rfl) rfl) rfl); have z_ := w_lits; have zl_ := l_lits; omega) (by have z0_ := congrArg Int32.toInt (rd_w k3317 (rd_o k3305 (rd_a k3302 (rd_a k3300 (rd_w k3189 (rd_w k2935 (rd_w k2896 (rd_w k2872 z1824 rfl) rfl) rfl) rfl) rfl) rfl) rfl) rfl); have z1_ := congrArg Int32.toInt ef3318; have z2_ := congrArg Int32.toInt ef3319; have z3_ := congrArg Int32.toInt ef3320; have z4_ := congrArg Int32.toInt ef3321; have z5_ := congrArg Int32.toInt (rd_w k3317 (rd_o k3305 (rd_a k3302 (rd_a k3300 (rd_w k3189 (rd_w k2935 (rd_w k2896 (rd_w k2872 ef1829 rfl) rfl) rfl) rfl) rfl) rfl) rfl) rfl); have z6_ := congrArg Int32.toInt (rd_w k3317 (rd_s k3305) rfl); have z7_ := congrArg Int32.toInt (rd_w k3317 (rd_o k3305 (rd_a k3302 (rd_o k3300 (rd_w k3189 (rd_w k2935 (rd_w k2896 (rd_w k2872 ef1831 rfl) rfl) rfl) rfl) rfl) rfl) rfl) rfl); have z8_ := congrArg Int32.toInt (rd_w k3317 (rd_o k3305 (rd_a k3302 (rd_o k3300 (rd_w k3189 (rd_w k2935 (rd_w k2896 (rd_w k2872 ef1832 rfl) rfl) rfl) rfl) rfl) rfl) rfl) rfl); have z9_ := congrArg Int32.toInt (rd_w k3317 (rd_o k3305 (rd_a k3302 (rd_s k3300) rfl) rfl) rfl); have z10_ := congrArg Int32.toInt (rd_w k3317 (rd_o k3305 (rd_a k3302 (rd_o k3300 (rd_w k3189 (rd_w k2935 (rd_w k2896 (rd_w k2872 ef1834 rfl) rfl) rfl) rfl) rfl) rfl) rfl) rfl); have z_ := w_lits; have zl_ := l_lits; omega))))
                  · refine ev_aload_n rfl rfl rfl ?_
                    refine ev_getV (v := f1829) rfl rfl fl_X10_234 rfl rfl rfl (rd_w k3189 (rd_w k2935 (rd_w k2896 (rd_w k2872 ef1829 rfl) rfl) rfl) rfl) ?_
                    refine ev_iasK (j := 3) (n := 5) (l := 0) (u := 60) hJ3189 (by decide : B 3 3 3) (by decide) (by decide) (by decide) rfl bf1829 (by decide) (by decide) rfl rfl rfl rfl rfl (fun h3333 hJ3333 k3333 => ?_)
                    refine ev_aload_n rfl rfl rfl ?_
                    refine ev_getR (y := 77) rfl rfl fl_X10_63 rfl rfl rfl rfl ?_
                    refine ev_aload_n rfl rfl rfl ?_
                    refine ev_getV (v := 3) rfl rfl fl_X10_241 rfl rfl rfl (rd_a k3333 (rd_w k3189 (rd_w k2935 (rd_w k2896 (rd_w k2872 ef1830 rfl) rfl) rfl) rfl) rfl) ?_
                    refine ev_iload_n rfl rfl rfl ?_
                    have b3334 : B f1827 0 20 := ⟨(by have z0_ := congrArg Int32.toInt (rd_a k3333 (rd_w k3189 (rd_w k2935 (rd_w k2896 (rd_w k2872 z1824 rfl) rfl) rfl) rfl) rfl); have z1_ := congrArg Int32.toInt (rd_a k3333 (rd_w k3189 (rd_w k2935 ef2897 rfl) rfl) rfl); have z2_ := congrArg Int32.toInt (rd_a k3333 ef3190 rfl); have z3_ := congrArg Int32.toInt (rd_a k3333 (rd_w k3189 (rd_w k2935 ef2899 rfl) rfl) rfl); have z4_ := congrArg Int32.toInt (rd_a k3333 (rd_w k3189 (rd_w k2935 ef2900 rfl) rfl) rfl); have z5_ := congrArg Int32.toInt (rd_a k3333 (rd_w k3189 (rd_w k2935 (rd_w k2896 (rd_w k2872 ef1829 rfl) rfl) rfl) rfl) rfl); have z6_ := congrArg Int32.toInt (rd_a k3333 (rd_w k3189 (rd_w k2935 (rd_w k2896 (rd_w k2872 ef1830 rfl) rfl) rfl) rfl) rfl); have z7_ := congrArg Int32.toInt (rd_o k3333 (rd_w k3189 (rd_w k2935 (rd_w k2896 (rd_w k2872 ef1831 rfl) rfl) rfl) rfl) rfl); have z8_ := congrArg Int32.toInt (rd_o k3333 (rd_w k3189 (rd_w k2935 (rd_w k2896 (rd_w k2872 ef1832 rfl) rfl) rfl) rfl) rfl); have z9_ := congrArg Int32.toInt (rd_o k3333 (rd_w k3189 (rd_w k2935 (rd_w k2896 (rd_w k2872 ef1833 rfl) rfl) rfl) rfl) rfl); have z10_ := congrArg Int32.toInt (rd_s k3333); have z_ := w_lits; have zl_ := l_lits; omega), (by have z0_ := congrArg Int32.toInt (rd_a k3333 (rd_w k3189 (rd_w k2935 (rd_w k2896 (rd_w k2872 z1824 rfl) rfl) rfl) rfl) rfl); have z1_ := congrArg Int32.toInt (rd_a k3333 (rd_w k3189 (rd_w k2935 ef2897 rfl) rfl) rfl); have z2_ := congrArg Int32.toInt (rd_a k3333 ef3190 rfl); have z3_ := congrArg Int32.toInt (rd_a k3333 (rd_w k3189 (rd_w k2935 ef2899 rfl) rfl) rfl); have z4_ := congrArg Int32.toInt (rd_a k3333 (rd_w k3189 (rd_w k2935 ef2900 rfl) rfl) rfl); have z5_ := congrArg Int32.toInt (rd_a k3333 (rd_w k3189 (rd_w k2935 (rd_w k2896 (rd_w k2872 ef1829 rfl) rfl) rfl) rfl) rfl); have z6_ := congrArg Int32.toInt (rd_a k3333 (rd_w k3189 (rd_w k2935 (rd_w k2896 (rd_w k2872 ef1830 rfl) rfl) rfl) rfl) rfl); have z7_ := congrArg Int32.toInt (rd_o k3333 (rd_w k3189 (rd_w k2935 (rd_w k2896 (rd_w k2872 ef1831 rfl) rfl) rfl) rfl) rfl); have z8_ := congrArg Int32.toInt (rd_o k3333 (rd_w k3189 (rd_w k2935 (rd_w k2896 (rd_w k2872 ef1832 rfl) rfl) rfl) rfl) rfl); have z9_ := congrArg Int32.toInt (rd_o k3333 (rd_w k3189 (rd_w k2935 (rd_w k2896 (rd_w k2872 ef1833 rfl) rfl) rfl) rfl) rfl); have z10_ := congrArg Int32.toInt (rd_s k3333); have z_ := w_lits; have zl_ := l_lits; omega)⟩
                    refine ev_iasW (n := 5) (l := 0) (u := 20) hJ3333 (by decide : B 3 3 3) (by decide) (by decide) (fun _ => rfl) b3334 (by decide) (by decide) (fun _ => rfl) rfl rfl rfl rfl (fun h3335 hJ3335 k3335 => ?_)
                    refine ev_aload_n rfl rfl rfl ?_
                    refine ev_dup rfl rfl rfl ?_
                    refine ev_getV (v := 3) rfl rfl fl_X10_241 rfl rfl rfl (rd_a k3335 (rd_a k3333 (rd_w k3189 (rd_w k2935 (rd_w k2896 (rd_w k2872 ef1830 rfl) rfl) rfl) rfl) rfl) rfl) ?_
                    refine ev_iconst (v := 1) rfl rfl (by decide) ?_
                    refine ev_iaddB (l := 4) (u := 4) rfl rfl (by decide : B 3 3 3) (by decide : B 1 1 1) (by decide) (by decide) (by decide) (by decide) (fun v3336 b3336 e3336 g3336 => ?_)
                    have e3336x := e3336; rw [show (1 : Int32).toInt = 1 from by decide] at e3336x
                    have e3336xx := e3336x; rw [show (3 : Int32).toInt = 3 from by decide] at e3336xx
                    have b3337 : B v3336 0 4 := ⟨(by have z0_ := congrArg Int32.toInt (rd_a k3335 (rd_a k3333 (rd_w k3189 (rd_w k2935 (rd_w k2896 (rd_w k2872 z1824 rfl) rfl) rfl) rfl) rfl) rfl); have z1_ := congrArg Int32.toInt (rd_a k3335 (rd_a k3333 (rd_w k3189 (rd_w k2935 ef2897 rfl) rfl) rfl) rfl); have z2_ := congrArg Int32.toInt (rd_a k3335 (rd_a k3333 ef3190 rfl) rfl); have z3_ := congrArg Int32.toInt (rd_a k3335 (rd_a k3333 (rd_w k3189 (rd_w k2935 ef2899 rfl) rfl) rfl) rfl); have z4_ := congrArg Int32.toInt (rd_a k3335 (rd_a k3333 (rd_w k3189 (rd_w k2935 ef2900 rfl) rfl) rfl) rfl); have z5_ := congrArg Int32.toInt (rd_a k3335 (rd_a k3333 (rd_w k3189 (rd_w k2935 (rd_w k2896 (rd_w k2872 ef1829 rfl) rfl) rfl) rfl) rfl) rfl); have z6_ := congrArg Int32.toInt (rd_a k3335 (rd_a k3333 (rd_w k3189 (rd_w k2935 (rd_w k2896 (rd_w k2872 ef1830 rfl) rfl) rfl) rfl) rfl) rfl); have z7_ := congrArg Int32.toInt (rd_a k3335 (rd_o k3333 (rd_w k3189 (rd_w k2935 (rd_w k2896 (rd_w k2872 ef1831 rfl) rfl) rfl) rfl) rfl) rfl); have z8_ := congrArg Int32.toInt (rd_a k3335 (rd_o k3333 (rd_w k3189 (rd_w k2935 (rd_w k2896 (rd_w k2872 ef1832 rfl) rfl) rfl) rfl) rfl) rfl); have z9_ := congrArg Int32.toInt (rd_a k3335 (rd_o k3333 (rd_w k3189 (rd_w k2935 (rd_w k2896 (rd_w k2872 ef1833 rfl) rfl) rfl) rfl) rfl) rfl); have z10_ := congrArg Int32.toInt (rd_a k3335 (rd_s k3333) rfl); have z_ := w_lits; have zl_ := l_lits; omega), (by have z0_ := congrArg Int32.toInt (rd_a k3335 (rd_a k3333 (rd_w k3189 (rd_w k2935 (rd_w k2896 (rd_w k2872 z1824 rfl) rfl) rfl) rfl) rfl) rfl); have z1_ := congrArg Int32.toInt (rd_a k3335 (rd_a k3333 (rd_w k3189 (rd_w k2935 ef2897 rfl) rfl) rfl) rfl); have z2_ := congrArg Int32.toInt (rd_a k3335 (rd_a k3333 ef3190 rfl) rfl); have z3_ := congrArg Int32.toInt (rd_a k3335 (rd_a k3333 (rd_w k3189 (rd_w k2935 ef2899 rfl) rfl) rfl) rfl); have z4_ := congrArg Int32.toInt (rd_a k3335 (rd_a k3333 (rd_w k3189 (rd_w k2935 ef2900 rfl) rfl) rfl) rfl); have z5_ := congrArg Int32.toInt (rd_a k3335 (rd_a k3333 (rd_w k3189 (rd_w k2935 (rd_w k2896 (rd_w k2872 ef1829 rfl) rfl) rfl) rfl) rfl) rfl); have z6_ := congrArg Int32.toInt (rd_a k3335 (rd_a k3333 (rd_w k3189 (rd_w k2935 (rd_w k2896 (rd_w k2872 ef1830 rfl) rfl) rfl) rfl) rfl) rfl); have z7_ := congrArg Int32.toInt (rd_a k3335 (rd_o k3333 (rd_w k3189 (rd_w k2935 (rd_w k2896 (rd_w k2872 ef1831 rfl) rfl) rfl) rfl) rfl) rfl); have z8_ := congrArg Int32.toInt (rd_a k3335 (rd_o k3333 (rd_w k3189 (rd_w k2935 (rd_w k2896 (rd_w k2872 ef1832 rfl) rfl) rfl) rfl) rfl) rfl); have z9_ := congrArg Int32.toInt (rd_a k3335 (rd_o k3333 (rd_w k3189 (rd_w k2935 (rd_w k2896 (rd_w k2872 ef1833 rfl) rfl) rfl) rfl) rfl) rfl); have z10_ := congrArg Int32.toInt (rd_a k3335 (rd_s k3333) rfl); have z_ := w_lits; have zl_ := l_lits; omega)⟩
                    refine ev_putW (l := 0) (u := 4) hJ3335 rfl b3337 (by decide) (by decide) rfl rfl rfl fl_X10_241 rfl rfl rfl rfl rfl (fun h3338 hJ3338 k3338 => ?_)
                    refine ev_iconst (v := 1) rfl rfl (by decide) ?_
                    refine ev_istore_n rfl rfl rfl rfl ?_
                    dsimp only [List.set]
                    refine ev_aload_n rfl rfl rfl ?_
                    have z3339 := congrArg Int32.toInt (rd_o k3338 (rd_a k3335 (rd_a k3333 (rd_w k3189 (rd_w k2935 (rd_w k2896 (rd_w k2872 z1824 rfl) rfl) rfl) rfl) rfl) rfl) rfl)
                    have z3340 := congrArg Int32.toInt (rd_o k3338 (rd_a k3335 (rd_a k3333 (rd_w k3189 (rd_w k2935 ef2897 rfl) rfl) rfl) rfl) rfl)
                    have z3341 := congrArg Int32.toInt (rd_o k3338 (rd_a k3335 (rd_a k3333 ef3190 rfl) rfl) rfl)
                    have z3342 := congrArg Int32.toInt (rd_o k3338 (rd_a k3335 (rd_a k3333 (rd_w k3189 (rd_w k2935 ef2899 rfl) rfl) rfl) rfl) rfl)
                    have z3343 := congrArg Int32.toInt (rd_o k3338 (rd_a k3335 (rd_a k3333 (rd_w k3189 (rd_w k2935 ef2900 rfl) rfl) rfl) rfl) rfl)
                    have z3344 := congrArg Int32.toInt (rd_o k3338 (rd_a k3335 (rd_a k3333 (rd_w k3189 (rd_w k2935 (rd_w k2896 (rd_w k2872 ef1829 rfl) rfl) rfl) rfl) rfl) rfl) rfl)
                    have z3345 := congrArg Int32.toInt (rd_s k3338)
                    have z3346 := congrArg Int32.toInt (rd_o k3338 (rd_a k3335 (rd_o k3333 (rd_w k3189 (rd_w k2935 (rd_w k2896 (rd_w k2872 ef1831 rfl) rfl) rfl) rfl) rfl) rfl) rfl)
                    have z3347 := congrArg Int32.toInt (rd_o k3338 (rd_a k3335 (rd_o k3333 (rd_w k3189 (rd_w k2935 (rd_w k2896 (rd_w k2872 ef1832 rfl) rfl) rfl) rfl) rfl) rfl) rfl)
                    have z3348 := congrArg Int32.toInt (rd_o k3338 (rd_a k3335 (rd_o k3333 (rd_w k3189 (rd_w k2935 (rd_w k2896 (rd_w k2872 ef1833 rfl) rfl) rfl) rfl) rfl) rfl) rfl)
                    have z3349 := congrArg Int32.toInt (rd_o k3338 (rd_a k3335 (rd_s k3333) rfl) rfl)
                    refine ev_V0K hJ3338 rfl rfl rfl lk_X10_251 vt_X10_next rfl rfl rfl rfl rfl (w_X10_next_63 L b h3338 hJ3338.1 (by have z0_ := congrArg Int32.toInt (rd_o k3338 (rd_a k3335 (rd_a k3333 (rd_w k3189 (rd_w k2935 (rd_w k2896 (rd_w k2872 z1824 rfl) rfl) rfl) rfl) rfl) rfl) rfl); have z1_ := congrArg Int32.toInt (rd_o k3338 (rd_a k3335 (rd_a k3333 (rd_w k3189 (rd_w k2935 ef2897 rfl) rfl) rfl) rfl) rfl); have z2_ := congrArg Int32.toInt (rd_o k3338 (rd_a k3335 (rd_a k3333 ef3190 rfl) rfl) rfl); have z3_ := congrArg Int32.toInt (rd_o k3338 (rd_a k3335 (rd_a k3333 (rd_w k3189 (rd_w k2935 ef2899 rfl) rfl) rfl) rfl) rfl); have z4_ := congrArg Int32.toInt (rd_o k3338 (rd_a k3335 (rd_a k3333 (rd_w k3189 (rd_w k2935 ef2900 rfl) rfl) rfl) rfl) rfl); have z5_ := congrArg Int32.toInt (rd_o k3338 (rd_a k3335 (rd_a k3333 (rd_w k3189 (rd_w k2935 (rd_w k2896 (rd_w k2872 ef1829 rfl) rfl) rfl) rfl) rfl) rfl) rfl); have z6_ := congrArg Int32.toInt (rd_s k3338); have z7_ := congrArg Int32.toInt (rd_o k3338 (rd_a k3335 (rd_o k3333 (rd_w k3189 (rd_w k2935 (rd_w k2896 (rd_w k2872 ef1831 rfl) rfl) rfl) rfl) rfl) rfl) rfl); have z8_ := congrArg Int32.toInt (rd_o k3338 (rd_a k3335 (rd_o k3333 (rd_w k3189 (rd_w k2935 (rd_w k2896 (rd_w k2872 ef1832 rfl) rfl) rfl) rfl) rfl) rfl) rfl); have z9_ := congrArg Int32.toInt (rd_o k3338 (rd_a k3335 (rd_o k3333 (rd_w k3189 (rd_w k2935 (rd_w k2896 (rd_w k2872 ef1833 rfl) rfl) rfl) rfl) rfl) rfl) rfl); have z10_ := congrArg Int32.toInt (rd_o k3338 (rd_a k3335 (rd_s k3333) rfl) rfl); have z_ := w_lits; have zl_ := l_lits; omega)) (fun h3350 hJ3350 k3350 m3350 => ?_)
                    obtain ⟨m3350_0, m3350_1, m3350_2, m3350_3, m3350_4⟩ := m3350
                    obtain ⟨f3351, ef3351⟩ : ∃ f_, h3350 63 17 = f_ := ⟨_, rfl⟩
                    have bf3351 : B f3351 0 160 := by have z_ := hJ3350.1 63 17; rw [ef3351] at z_; exact z_
                    have zf3351 := congrArg Int32.toInt ef3351
                    obtain ⟨f3352, ef3352⟩ : ∃ f_, h3350 63 21 = f_ := ⟨_, rfl⟩
                    have bf3352 : B f3352 0 6 := by have z_ := hJ3350.1 63 21; rw [ef3352] at z_; exact z_
                    have zf3352 := congrArg Int32.toInt ef3352
                    obtain ⟨f3353, ef3353⟩ : ∃ f_, h3350 63 20 = f_ := ⟨_, rfl⟩
                    have bf3353 : B f3353 (-2147483648) 2147483647 := by have z_ := hJ3350.1 63 20; rw [ef3353] at z_; exact z_
                    have zf3353 := congrArg Int32.toInt ef3353
                    obtain ⟨f3354, ef3354⟩ : ∃ f_, h3350 63 19 = f_ := ⟨_, rfl⟩
                    have bf3354 : B f3354 0 3 := by have z_ := hJ3350.1 63 19; rw [ef3354] at z_; exact z_
                    have zf3354 := congrArg Int32.toInt ef3354
                    have z3355 := congrArg Int32.toInt (rd_w k3350 (rd_o k3338 (rd_a k3335 (rd_a k3333 (rd_w k3189 (rd_w k2935 (rd_w k2896 (rd_w k2872 z1824 rfl) rfl) rfl) rfl) rfl) rfl) rfl) rfl)
                    have z3356 := congrArg Int32.toInt ef3351
                    have z3357 := congrArg Int32.toInt ef3352
                    have z3358 := congrArg Int32.toInt ef3353
                    have z3359 := congrArg Int32.toInt ef3354
                    have z3360 := congrArg Int32.toInt (rd_w k3350 (rd_o k3338 (rd_a k3335 (rd_a k3333 (rd_w k3189 (rd_w k2935 (rd_w k2896 (rd_w k2872 ef1829 rfl) rfl) rfl) rfl) rfl) rfl) rfl) rfl)
                    have z3361 := congrArg Int32.toInt (rd_w k3350 (rd_s k3338) rfl)
                    have z3362 := congrArg Int32.toInt (rd_w k3350 (rd_o k3338 (rd_a k3335 (rd_o k3333 (rd_w k3189 (rd_w k2935 (rd_w k2896 (rd_w k2872 ef1831 rfl) rfl) rfl) rfl) rfl) rfl) rfl) rfl)
                    have z3363 := congrArg Int32.toInt (rd_w k3350 (rd_o k3338 (rd_a k3335 (rd_o k3333 (rd_w k3189 (rd_w k2935 (rd_w k2896 (rd_w k2872 ef1832 rfl) rfl) rfl) rfl) rfl) rfl) rfl) rfl)
                    have z3364 := congrArg Int32.toInt (rd_w k3350 (rd_o k3338 (rd_a k3335 (rd_o k3333 (rd_w k3189 (rd_w k2935 (rd_w k2896 (rd_w k2872 ef1833 rfl) rfl) rfl) rfl) rfl) rfl) rfl) rfl)
                    have z3365 := congrArg Int32.toInt (rd_w k3350 (rd_o k3338 (rd_a k3335 (rd_s k3333) rfl) rfl) rfl)
                    refine ev_goto rfl rfl ?_
                    exact (EvQ.drop 3 (ih19 1 w1819 h3350 ((by decide : B 1 1 1).mono (by decide) (by decide)) b1821 hJ3350 (rd_w k3350 (rd_o k3338 (rd_a k3335 (rd_a k3333 (rd_w k3189 (rd_w k2935 (rd_w k2896 (rd_w k2872 z1824 rfl) rfl) rfl) rfl) rfl) rfl) rfl) rfl) (by have z0_ := congrArg Int32.toInt (rd_w k3350 (rd_o k3338 (rd_a k3335 (rd_a k3333 (rd_w k3189 (rd_w k2935 (rd_w k2896 (rd_w k2872 z1824 rfl) rfl) rfl) rfl) rfl) rfl) rfl) rfl); have z1_ := congrArg Int32.toInt ef3351; have z2_ := congrArg Int32.toInt ef3352; have z3_ := congrArg Int32.toInt ef3353; have z4_ := congrArg Int32.toInt ef3354; have z5_ := congrArg Int32.toInt (rd_w k3350 (rd_o k3338 (rd_a k3335 (rd_a k3333 (rd_w k3189 (rd_w k2935 (rd_w k2896 (rd_w k2872 ef1829 rfl) rfl) rfl) rfl) rfl) rfl) rfl) rfl); have z6_ := congrArg Int32.toInt (rd_w k3350 (rd_s k3338) rfl); have z7_ := congrArg Int32.toInt (rd_w k3350 (rd_o k3338 (rd_a k3335 (rd_o k3333 (rd_w k3189 (rd_w k2935 (rd_w k2896 (rd_w k2872 ef1831 rfl) rfl) rfl) rfl) rfl) rfl) rfl) rfl); have z8_ := congrArg Int32.toInt (rd_w k3350 (rd_o k3338 (rd_a k3335 (rd_o k3333 (rd_w k3189 (rd_w k2935 (rd_w k2896 (rd_w k2872 ef1832 rfl) rfl) rfl) rfl) rfl) rfl) rfl) rfl); have z9_ := congrArg Int32.toInt (rd_w k3350 (rd_o k3338 (rd_a k3335 (rd_o k3333 (rd_w k3189 (rd_w k2935 (rd_w k2896 (rd_w k2872 ef1833 rfl) rfl) rfl) rfl) rfl) rfl) rfl) rfl); have z10_ := congrArg Int32.toInt (rd_w k3350 (rd_o k3338 (rd_a k3335 (rd_s k3333) rfl) rfl) rfl); have z_ := w_lits; have zl_ := l_lits; omega) (by have z0_ := congrArg Int32.toInt (rd_w k3350 (rd_o k3338 (rd_a k3335 (rd_a k3333 (rd_w k3189 (rd_w k2935 (rd_w k2896 (rd_w k2872 z1824 rfl) rfl) rfl) rfl) rfl) rfl) rfl) rfl); have z1_ := congrArg Int32.toInt ef3351; have z2_ := congrArg Int32.toInt ef3352; have z3_ := congrArg Int32.toInt ef3353; have z4_ := congrArg Int32.toInt ef3354; have z5_ := congrArg Int32.toInt (rd_w k3350 (rd_o k3338 (rd_a k3335 (rd_a k3333 (rd_w k3189 (rd_w k2935 (rd_w k2896 (rd_w k2872 ef1829 rfl) rfl) rfl) rfl) rfl) rfl) rfl) rfl); have z6_ := congrArg Int32.toInt (rd_w k3350 (rd_s k3338) rfl); have z7_ := congrArg Int32.toInt (rd_w k3350 (rd_o k3338 (rd_a k3335 (rd_o k3333 (rd_w k3189 (rd_w k2935 (rd_w k2896 (rd_w k2872 ef1831 rfl) rfl) rfl) rfl) rfl) rfl) rfl) rfl); have z8_ := congrArg Int32.toInt (rd_w k3350 (rd_o k3338 (rd_a k3335 (rd_o k3333 (rd_w k3189 (rd_w k2935 (rd_w k2896 (rd_w k2872 ef1832 rfl) rfl) rfl) rfl) rfl) rfl) rfl) rfl); have z9_ := congrArg Int32.toInt (rd_w k3350 (rd_o k3338 (rd_a k3335 (rd_o k3333 (rd_w k3189 (rd_w k2935 (rd_w k2896 (rd_w k2872 ef1833 rfl) rfl) rfl) rfl) rfl) rfl) rfl) rfl); have z10_ := congrArg Int32.toInt (rd_w k3350 (rd_o k3338 (rd_a k3335 (rd_s k3333) rfl) rfl) rfl); have z_ := w_lits; have zl_ := l_lits; omega) (by have z0_ := congrArg Int32.toInt (rd_w k3350 (rd_o k3338 (rd_a k3335 (rd_a k3333 (rd_w k3189 (rd_w k2935 (rd_w k2896 (rd_w k2872 z1824 rfl) rfl) rfl) rfl) rfl) rfl) rfl) rfl); have z1_ := congrArg Int32.toInt ef3351; have z2_ := congrArg Int32.toInt ef3352; have z3_ := congrArg Int32.toInt ef3353; have z4_ := congrArg Int32.toInt ef3354; have z5_ := congrArg Int32.toInt (rd_w k3350 (rd_o k3338 (rd_a k3335 (rd_a k3333 (rd_w k3189 (rd_w k2935 (rd_w k2896 (rd_w k2872 ef1829 rfl) rfl) rfl) rfl) rfl) rfl) rfl) rfl); have z6_ := congrArg Int32.toInt (rd_w k3350 (rd_s k3338) rfl); have z7_ := congrArg Int32.toInt (rd_w k3350 (rd_o k3338 (rd_a k3335 (rd_o k3333 (rd_w k3189 (rd_w k2935 (rd_w k2896 (rd_w k2872 ef1831 rfl) rfl) rfl) rfl) rfl) rfl) rfl) rfl); have z8_ := congrArg Int32.toInt (rd_w k3350 (rd_o k3338 (rd_a k3335 (rd_o k3333 (rd_w k3189 (rd_w k2935 (rd_w k2896 (rd_w k2872 ef1832 rfl) rfl) rfl) rfl) rfl) rfl) rfl) rfl); have z9_ := congrArg Int32.toInt (rd_w k3350 (rd_o k3338 (rd_a k3335 (rd_o k3333 (rd_w k3189 (rd_w k2935 (rd_w k2896 (rd_w k2872 ef1833 rfl) rfl) rfl) rfl) rfl) rfl) rfl) rfl); have z10_ := congrArg Int32.toInt (rd_w k3350 (rd_o k3338 (rd_a k3335 (rd_s k3333) rfl) rfl) rfl); have z_ := w_lits; have zl_ := l_lits; omega) (by have z0_ := congrArg Int32.toInt (rd_w k3350 (rd_o k3338 (rd_a k3335 (rd_a k3333 (rd_w k3189 (rd_w k2935 (rd_w k2896 (rd_w k2872 z1824 rfl) rfl) rfl) rfl) rfl) rfl) rfl) rfl); have z1_ := congrArg Int32.toInt ef3351; have z2_ := congrArg Int32.toInt ef3352; have z3_ := congrArg Int32.toInt ef3353; have z4_ := congrArg Int32.toInt ef3354; have z5_ := congrArg Int32.toInt (rd_w k3350 (rd_o k3338 (rd_a k3335 (rd_a k3333 (rd_w k3189 (rd_w k2935 (rd_w k2896 (rd_w k2872 ef1829 rfl) rfl) rfl) rfl) rfl) rfl) rfl) rfl); have z6_ := congrArg Int32.toInt (rd_w k3350 (rd_s k3338) rfl); have z7_ := congrArg Int32.toInt (rd_w k3350 (rd_o k3338 (rd_a k3335 (rd_o k3333 (rd_w k3189 (rd_w k2935 (rd_w k2896 (rd_w k2872 ef1831 rfl) rfl) rfl) rfl) rfl) rfl) rfl) rfl); have z8_ := congrArg Int32.toInt (rd_w k3350 (rd_o k3338 (rd_a k3335 (rd_o k3333 (rd_w k3189 (rd_w k2935 (rd_w k2896 (rd_w k2872 ef1832 rfl) rfl) rfl) rfl) rfl) rfl) rfl) rfl); have z9_ := congrArg Int32.toInt (rd_w k3350 (rd_o k3338 (rd_a k3335 (rd_o k3333 (rd_w k3189 (rd_w k2935 (rd_w k2896 (rd_w k2872 ef1833 rfl) rfl) rfl) rfl) rfl) rfl) rfl) rfl); have z10_ := congrArg Int32.toInt (rd_w k3350 (rd_o k3338 (rd_a k3335 (rd_s k3333) rfl) rfl) rfl); have z_ := w_lits; have zl_ := l_lits; omega) (by have z0_ := congrArg Int32.toInt (rd_w k3350 (rd_o k3338 (rd_a k3335 (rd_a k3333 (rd_w k3189 (rd_w k2935 (rd_w k2896 (rd_w k2872 z1824 rfl) rfl) rfl) rfl) rfl) rfl) rfl) rfl); have z1_ := congrArg Int32.toInt ef3351; have z2_ := congrArg Int32.toInt ef3352; have z3_ := congrArg Int32.toInt ef3353; have z4_ := congrArg Int32.toInt ef3354; have z5_ := congrArg Int32.toInt (rd_w k3350 (rd_o k3338 (rd_a k3335 (rd_a k3333 (rd_w k3189 (rd_w k2935 (rd_w k2896 (rd_w k2872 ef1829 rfl) rfl) rfl) rfl) rfl) rfl) rfl) rfl); have z6_ := congrArg Int32.toInt (rd_w k3350 (rd_s k3338) rfl); have z7_ := congrArg Int32.toInt (rd_w k3350 (rd_o k3338 (rd_a k3335 (rd_o k3333 (rd_w k3189 (rd_w k2935 (rd_w k2896 (rd_w k2872 ef1831 rfl) rfl) rfl) rfl) rfl) rfl) rfl) rfl); have z8_ := congrArg Int32.toInt (rd_w k3350 (rd_o k3338 (rd_a k3335 (rd_o k3333 (rd_w k3189 (rd_w k2935 (rd_w k2896 (rd_w k2872 ef1832 rfl) rfl) rfl) rfl) rfl) rfl) rfl) rfl); have z9_ := congrArg Int32.toInt (rd_w k3350 (rd_o k3338 (rd_a k3335 (rd_o k3333 (rd_w k3189 (rd_w k2935 (rd_w k2896 (rd_w k2872 ef1833 rfl) rfl) rfl) rfl) rfl) rfl) rfl) rfl); have z10_ := congrArg Int32.toInt (rd_w k3350 (rd_o k3338 (rd_a k3335 (rd_s k3333) rfl) rfl) rfl); have z_ := w_lits; have zl_ := l_lits; omega) (by have z0_ := congrArg Int32.toInt (rd_w k3350 (rd_o k3338 (rd_a k3335 (rd_a k3333 (rd_w k3189 (rd_w k2935 (rd_w k2896 (rd_w k2872 z1824 rfl) rfl) rfl) rfl) rfl) rfl) rfl) rfl); have z1_ := congrArg Int32.toInt ef3351; have z2_ := congrArg Int32.toInt ef3352; have z3_ := congrArg Int32.toInt ef3353; have z4_ := congrArg Int32.toInt ef3354; have z5_ := congrArg Int32.toInt (rd_w k3350 (rd_o k3338 (rd_a k3335 (rd_a k3333 (rd_w k3189 (rd_w k2935 (rd_w k2896 (rd_w k2872 ef1829 rfl) rfl) rfl) rfl) rfl) rfl) rfl) rfl); have z6_ := congrArg Int32.toInt (rd_w k3350 (rd_s k3338) rfl); have z7_ := congrArg Int32.toInt (rd_w k3350 (rd_o k3338 (rd_a k3335 (rd_o k3333 (rd_w k3189 (rd_w k2935 (rd_w k2896 (rd_w k2872 ef1831 rfl) rfl) rfl) rfl) rfl) rfl) rfl) rfl); have z8_ := congrArg Int32.toInt (rd_w k3350 (rd_o k3338 (rd_a k3335 (rd_o k3333 (rd_w k3189 (rd_w k2935 (rd_w k2896 (rd_w k2872 ef1832 rfl) rfl) rfl) rfl) rfl) rfl) rfl) rfl); have z9_ := congrArg Int32.toInt (rd_w k3350 (rd_o k3338 (rd_a k3335 (rd_o k3333 (rd_w k3189 (rd_w k2935 (rd_w k2896 (rd_w k2872 ef1833 rfl) rfl) rfl) rfl) rfl) rfl) rfl) rfl); have z10_ := congrArg Int32.toInt (rd_w k3350 (rd_o k3338 (rd_a k3335 (rd_s k3333) rfl) rfl) rfl); have z_ := w_lits; have zl_ := l_lits; omega) (mM_dec hm19 (by have z0_ := congrArg Int32.toInt (rd_w k3350 (rd_o k3338 (rd_a k3335 (rd_a k3333 (rd_w k3189 (rd_w k2935 (rd_w k2896 (rd_w k2872 z1824 rfl) rfl) rfl) rfl) rfl) rfl) rfl) rfl); have z1_ := congrArg Int32.toInt ef3351; have z2_ := congrArg Int32.toInt ef3352; have z3_ := congrArg Int32.toInt ef3353; have z4_ := congrArg Int32.toInt ef3354; have z5_ := congrArg Int32.toInt (rd_w k3350 (rd_o k3338 (rd_a k3335 (rd_a k3333 (rd_w k3189 (rd_w k2935 (rd_w k2896 (rd_w k2872 ef1829 rfl) rfl) rfl) rfl) rfl) rfl) rfl) rfl); have z6_ := congrArg Int32.toInt (rd_w k3350 (rd_s k3338) rfl); have z7_ := congrArg Int32.toInt (rd_w k3350 (rd_o k3338 (rd_a k3335 (rd_o k3333 (rd_w k3189 (rd_w k2935 (rd_w k2896 (rd_w k2872 ef1831 rfl) rfl) rfl) rfl) rfl) rfl) rfl) rfl); have z8_ := congrArg Int32.toInt (rd_w k3350 (rd_o k3338 (rd_a k3335 (rd_o k3333 (rd_w k3189 (rd_w k2935 (rd_w k2896 (rd_w k2872 ef1832 rfl) rfl) rfl) rfl) rfl) rfl) rfl) rfl); have z9_ := congrArg Int32.toInt (rd_w k3350 (rd_o k3338 (rd_a k3335 (rd_o k3333 (rd_w k3189 (rd_w k2935 (rd_w k2896 (rd_w k2872 ef1833 rfl) rfl) rfl) rfl) rfl) rfl) rfl) rfl); have z10_ := congrArg Int32.toInt (rd_w k3350 (rd_o k3338 (rd_a k3335 (rd_s k3333) rfl) rfl) rfl); have z_ := w_lits; have zl_ := l_lits; omega) (by have z0_ := congrArg Int32.toInt (rd_w k3350 (rd_o k3338 (rd_a k3335 (rd_a k3333 (rd_w k3189 (rd_w k2935 (rd_w k2896 (rd_w k2872 z1824 rfl) rfl) rfl) rfl) rfl) rfl) rfl) rfl); have z1_ := congrArg Int32.toInt ef3351; have z2_ := congrArg Int32.toInt ef3352; have z3_ := congrArg Int32.toInt ef3353; have z4_ := congrArg Int32.toInt ef3354; have z5_ := congrArg Int32.toInt (rd_w k3350 (rd_o k3338 (rd_a k3335 (rd_a k3333 (rd_w k3189 (rd_w k2935 (rd_w k2896 (rd_w k2872 ef1829 rfl) rfl) rfl) rfl) rfl) rfl) rfl) rfl); have z6_ := congrArg Int32.toInt (rd_w k3350 (rd_s k3338) rfl); have z7_ := congrArg Int32.toInt (rd_w k3350 (rd_o k3338 (rd_a k3335 (rd_o k3333 (rd_w k3189 (rd_w k2935 (rd_w k2896 (rd_w k2872 ef1831 rfl) rfl) rfl) rfl) rfl) rfl) rfl) rfl); have z8_ := congrArg Int32.toInt (rd_w k3350 (rd_o k3338 (rd_a k3335 (rd_o k3333 (rd_w k3189 (rd_w k2935 (rd_w k2896 (rd_w k2872 ef1832 rfl) rfl) rfl) rfl) rfl) rfl) rfl) rfl); have z9_ := congrArg Int32.toInt (rd_w k3350 (rd_o k3338 (rd_a k3335 (rd_o k3333 (rd_w k3189 (rd_w k2935 (rd_w k2896 (rd_w k2872 ef1833 rfl) rfl) rfl) rfl) rfl) rfl) rfl) rfl); have z10_ := congrArg Int32.toInt (rd_w k3350 (rd_o k3338 (rd_a k3335 (rd_s k3333) rfl) rfl) rfl); have z_ := w_lits; have zl_ := l_lits; omega) (by have z0_ := congrArg Int32.toInt (rd_w k3350 (rd_o k3338 (rd_a k3335 (rd_a k3333 (rd_w k3189 (rd_w k2935 (rd_w k2896 (rd_w k2872 z1824 rfl) rfl) rfl) rfl) rfl) rfl) rfl) rfl); have z1_ := congrArg Int32.toInt ef3351; have z2_ := congrArg Int32.toInt ef3352; have z3_ := congrArg Int32.toInt ef3353; have z4_ := congrArg Int32.toInt ef3354; have z5_ := congrArg Int32.toInt (rd_w k3350 (rd_o k3338 (rd_a k3335 (rd_a k3333 (rd_w k3189 (rd_w k2935 (rd_w k2896 (rd_w k2872 ef1829 rfl) rfl) rfl) rfl) rfl) rfl) rfl) rfl); have z6_ := congrArg Int32.toInt (rd_w k3350 (rd_s k3338) rfl); have z7_ := congrArg Int32.toInt (rd_w k3350 (rd_o k3338 (rd_a k3335 (rd_o k3333 (rd_w k3189 (rd_w k2935 (rd_w k2896 (rd_w k2872 ef1831 rfl) rfl) rfl) rfl) rfl) rfl) rfl) rfl); have z8_ := congrArg Int32.toInt (rd_w k3350 (rd_o k3338 (rd_a k3335 (rd_o k3333 (rd_w k3189 (rd_w k2935 (rd_w k2896 (rd_w k2872 ef1832 rfl) rfl) rfl) rfl) rfl) rfl) rfl) rfl); have z9_ := congrArg Int32.toInt (rd_w k3350 (rd_o k3338 (rd_a k3335 (rd_o k3333 (rd_w k3189 (rd_w k2935 (rd_w k2896 (rd_w k2872 ef1833 rfl) rfl) rfl) rfl) rfl) rfl) rfl) rfl); have z10_ := congrArg Int32.toInt (rd_w k3350 (rd_o k3338 (rd_a k3335 (rd_s k3333) rfl) rfl) rfl); have z_ := w_lits; have zl_ := l_lits; omega))))
                  · refine ev_aload_n rfl rfl rfl ?_
                    refine ev_getV (v := f1829) rfl rfl fl_X10_234 rfl rfl rfl (rd_w k3189 (rd_w k2935 (rd_w k2896 (rd_w k2872 ef1829 rfl) rfl) rfl) rfl) ?_
                    refine ev_iasW (n := 5) (l := 0) (u := 60) hJ3189 (by decide : B 4 4 4) (by decide) (by decide) (fun _ => rfl) bf1829 (by decide) (by decide) (fun _ => rfl) rfl rfl rfl rfl (fun h3366 hJ3366 k3366 => ?_)
                    obtain ⟨f3367, ef3367⟩ : ∃ f_, h3366 76 0 = f_ := ⟨_, rfl⟩
                    have bf3367 : B f3367 0 60 := by have z_ := hJ3366.1 76 0; rw [ef3367] at z_; exact z_
                    have zf3367 := congrArg Int32.toInt ef3367
                    obtain ⟨f3368, ef3368⟩ : ∃ f_, h3366 76 1 = f_ := ⟨_, rfl⟩
                    have bf3368 : B f3368 0 60 := by have z_ := hJ3366.1 76 1; rw [ef3368] at z_; exact z_
                    have zf3368 := congrArg Int32.toInt ef3368
                    obtain ⟨f3369, ef3369⟩ : ∃ f_, h3366 76 2 = f_ := ⟨_, rfl⟩
                    have bf3369 : B f3369 0 60 := by have z_ := hJ3366.1 76 2; rw [ef3369] at z_; exact z_
                    have zf3369 := congrArg Int32.toInt ef3369
                    obtain ⟨f3370, ef3370⟩ : ∃ f_, h3366 76 3 = f_ := ⟨_, rfl⟩
                    have bf3370 : B f3370 0 60 := by have z_ := hJ3366.1 76 3; rw [ef3370] at z_; exact z_
                    have zf3370 := congrArg Int32.toInt ef3370
                    refine ev_aload_n rfl rfl rfl ?_
                    refine ev_getR (y := 77) rfl rfl fl_X10_63 rfl rfl rfl rfl ?_
                    refine ev_aload_n rfl rfl rfl ?_
                    refine ev_getV (v := 4) rfl rfl fl_X10_241 rfl rfl rfl (rd_a k3366 (rd_w k3189 (rd_w k2935 (rd_w k2896 (rd_w k2872 ef1830 rfl) rfl) rfl) rfl) rfl) ?_
                    refine ev_iload_n rfl rfl rfl ?_
                    have b3371 : B f1827 0 20 := ⟨(by have z0_ := congrArg Int32.toInt (rd_a k3366 (rd_w k3189 (rd_w k2935 (rd_w k2896 (rd_w k2872 z1824 rfl) rfl) rfl) rfl) rfl); have z1_ := congrArg Int32.toInt (rd_a k3366 (rd_w k3189 (rd_w k2935 ef2897 rfl) rfl) rfl); have z2_ := congrArg Int32.toInt (rd_a k3366 ef3190 rfl); have z3_ := congrArg Int32.toInt (rd_a k3366 (rd_w k3189 (rd_w k2935 ef2899 rfl) rfl) rfl); have z4_ := congrArg Int32.toInt (rd_a k3366 (rd_w k3189 (rd_w k2935 ef2900 rfl) rfl) rfl); have z5_ := congrArg Int32.toInt (rd_a k3366 (rd_w k3189 (rd_w k2935 (rd_w k2896 (rd_w k2872 ef1829 rfl) rfl) rfl) rfl) rfl); have z6_ := congrArg Int32.toInt (rd_a k3366 (rd_w k3189 (rd_w k2935 (rd_w k2896 (rd_w k2872 ef1830 rfl) rfl) rfl) rfl) rfl); have z7_ := congrArg Int32.toInt ef3367; have z8_ := congrArg Int32.toInt ef3368; have z9_ := congrArg Int32.toInt ef3369; have z10_ := congrArg Int32.toInt ef3370; have z_ := w_lits; have zl_ := l_lits; omega), (by have z0_ := congrArg Int32.toInt (rd_a k3366 (rd_w k3189 (rd_w k2935 (rd_w k2896 (rd_w k2872 z1824 rfl) rfl) rfl) rfl) rfl); have z1_ := congrArg Int32.toInt (rd_a k3366 (rd_w k3189 (rd_w k2935 ef2897 rfl) rfl) rfl); have z2_ := congrArg Int32.toInt (rd_a k3366 ef3190 rfl); have z3_ := congrArg Int32.toInt (rd_a k3366 (rd_w k3189 (rd_w k2935 ef2899 rfl) rfl) rfl); have z4_ := congrArg Int32.toInt (rd_a k3366 (rd_w k3189 (rd_w k2935 ef2900 rfl) rfl) rfl); have z5_ := congrArg Int32.toInt (rd_a k3366 (rd_w k3189 (rd_w k2935 (rd_w k2896 (rd_w k2872 ef1829 rfl) rfl) rfl) rfl) rfl); have z6_ := congrArg Int32.toInt (rd_a k3366 (rd_w k3189 (rd_w k2935 (rd_w k2896 (rd_w k2872 ef1830 rfl) rfl) rfl) rfl) rfl); have z7_ := congrArg Int32.toInt ef3367; have z8_ := congrArg Int32.toInt ef3368; have z9_ := congrArg Int32.toInt ef3369; have z10_ := congrArg Int32.toInt ef3370; have z_ := w_lits; have zl_ := l_lits; omega)⟩
                    refine ev_iasW (n := 5) (l := 0) (u := 20) hJ3366 (by decide : B 4 4 4) (by decide) (by decide) (fun _ => rfl) b3371 (by decide) (by decide) (fun _ => rfl) rfl rfl rfl rfl (fun h3372 hJ3372 k3372 => ?_)
                    refine ev_aload_n rfl rfl rfl ?_
                    refine ev_dup rfl rfl rfl ?_
                    refine ev_getV (v := 4) rfl rfl fl_X10_241 rfl rfl rfl (rd_a k3372 (rd_a k3366 (rd_w k3189 (rd_w k2935 (rd_w k2896 (rd_w k2872 ef1830 rfl) rfl) rfl) rfl) rfl) rfl) ?_
                    refine ev_iconst (v := 1) rfl rfl (by decide) ?_
                    refine ev_iaddB (l := 5) (u := 5) rfl rfl (by decide : B 4 4 4) (by decide : B 1 1 1) (by decide) (by decide) (by decide) (by decide) (fun v3373 b3373 e3373 g3373 => ?_)
                    have e3373x := e3373; rw [show (4 : Int32).toInt = 4 from by decide] at e3373x
                    have e3373xx := e3373x; rw [show (1 : Int32).toInt = 1 from by decide] at e3373xx
                    have b3374 : B v3373 0 4 := ⟨(by have z0_ := congrArg Int32.toInt (rd_a k3372 (rd_a k3366 (rd_w k3189 (rd_w k2935 (rd_w k2896 (rd_w k2872 z1824 rfl) rfl) rfl) rfl) rfl) rfl); have z1_ := congrArg Int32.toInt (rd_a k3372 (rd_a k3366 (rd_w k3189 (rd_w k2935 ef2897 rfl) rfl) rfl) rfl); have z2_ := congrArg Int32.toInt (rd_a k3372 (rd_a k3366 ef3190 rfl) rfl); have z3_ := congrArg Int32.toInt (rd_a k3372 (rd_a k3366 (rd_w k3189 (rd_w k2935 ef2899 rfl) rfl) rfl) rfl); have z4_ := congrArg Int32.toInt (rd_a k3372 (rd_a k3366 (rd_w k3189 (rd_w k2935 ef2900 rfl) rfl) rfl) rfl); have z5_ := congrArg Int32.toInt (rd_a k3372 (rd_a k3366 (rd_w k3189 (rd_w k2935 (rd_w k2896 (rd_w k2872 ef1829 rfl) rfl) rfl) rfl) rfl) rfl); have z6_ := congrArg Int32.toInt (rd_a k3372 (rd_a k3366 (rd_w k3189 (rd_w k2935 (rd_w k2896 (rd_w k2872 ef1830 rfl) rfl) rfl) rfl) rfl) rfl); have z7_ := congrArg Int32.toInt (rd_a k3372 ef3367 rfl); have z8_ := congrArg Int32.toInt (rd_a k3372 ef3368 rfl); have z9_ := congrArg Int32.toInt (rd_a k3372 ef3369 rfl); have z10_ := congrArg Int32.toInt (rd_a k3372 ef3370 rfl); have z_ := w_lits; have zl_ := l_lits; omega), (by have z0_ := congrArg Int32.toInt (rd_a k3372 (rd_a k3366 (rd_w k3189 (rd_w k2935 (rd_w k2896 (rd_w k2872 z1824 rfl) rfl) rfl) rfl) rfl) rfl); have z1_ := congrArg Int32.toInt (rd_a k3372 (rd_a k3366 (rd_w k3189 (rd_w k2935 ef2897 rfl) rfl) rfl) rfl); have z2_ := congrArg Int32.toInt (rd_a k3372 (rd_a k3366 ef3190 rfl) rfl); have z3_ := congrArg Int32.toInt (rd_a k3372 (rd_a k3366 (rd_w k3189 (rd_w k2935 ef2899 rfl) rfl) rfl) rfl); have z4_ := congrArg Int32.toInt (rd_a k3372 (rd_a k3366 (rd_w k3189 (rd_w k2935 ef2900 rfl) rfl) rfl) rfl); have z5_ := congrArg Int32.toInt (rd_a k3372 (rd_a k3366 (rd_w k3189 (rd_w k2935 (rd_w k2896 (rd_w k2872 ef1829 rfl) rfl) rfl) rfl) rfl) rfl); have z6_ := congrArg Int32.toInt (rd_a k3372 (rd_a k3366 (rd_w k3189 (rd_w k2935 (rd_w k2896 (rd_w k2872 ef1830 rfl) rfl) rfl) rfl) rfl) rfl); have z7_ := congrArg Int32.toInt (rd_a k3372 ef3367 rfl); have z8_ := congrArg Int32.toInt (rd_a k3372 ef3368 rfl); have z9_ := congrArg Int32.toInt (rd_a k3372 ef3369 rfl); have z10_ := congrArg Int32.toInt (rd_a k3372 ef3370 rfl); have z_ := w_lits; have zl_ := l_lits; omega)⟩
                    refine ev_putW (l := 0) (u := 4) hJ3372 rfl b3374 (by decide) (by decide) rfl rfl rfl fl_X10_241 rfl rfl rfl rfl rfl (fun h3375 hJ3375 k3375 => ?_)
                    refine ev_iconst (v := 1) rfl rfl (by decide) ?_
                    refine ev_istore_n rfl rfl rfl rfl ?_
                    dsimp only [List.set]
                    refine ev_aload_n rfl rfl rfl ?_
                    have z3376 := congrArg Int32.toInt (rd_o k3375 (rd_a k3372 (rd_a k3366 (rd_w k3189 (rd_w k2935 (rd_w k2896 (rd_w k2872 z1824 rfl) rfl) rfl) rfl) rfl) rfl) rfl)
                    have z3377 := congrArg Int32.toInt (rd_o k3375 (rd_a k3372 (rd_a k3366 (rd_w k3189 (rd_w k2935 ef2897 rfl) rfl) rfl) rfl) rfl)
                    have z3378 := congrArg Int32.toInt (rd_o k3375 (rd_a k3372 (rd_a k3366 ef3190 rfl) rfl) rfl)
                    have z3379 := congrArg Int32.toInt (rd_o k3375 (rd_a k3372 (rd_a k3366 (rd_w k3189 (rd_w k2935 ef2899 rfl) rfl) rfl) rfl) rfl)
                    have z3380 := congrArg Int32.toInt (rd_o k3375 (rd_a k3372 (rd_a k3366 (rd_w k3189 (rd_w k2935 ef2900 rfl) rfl) rfl) rfl) rfl)
                    have z3381 := congrArg Int32.toInt (rd_o k3375 (rd_a k3372 (rd_a k3366 (rd_w k3189 (rd_w k2935 (rd_w k2896 (rd_w k2872 ef1829 rfl) rfl) rfl) rfl) rfl) rfl) rfl)
                    have z3382 := congrArg Int32.toInt (rd_s k3375)
                    have z3383 := congrArg Int32.toInt (rd_o k3375 (rd_a k3372 ef3367 rfl) rfl)
                    have z3384 := congrArg Int32.toInt (rd_o k3375 (rd_a k3372 ef3368 rfl) rfl)
                    have z3385 := congrArg Int32.toInt (rd_o k3375 (rd_a k3372 ef3369 rfl) rfl)
                    have z3386 := congrArg Int32.toInt (rd_o k3375 (rd_a k3372 ef3370 rfl) rfl)
                    refine ev_V0K hJ3375 rfl rfl rfl lk_X10_251 vt_X10_next rfl rfl rfl rfl rfl (w_X10_next_63 L b h3375 hJ3375.1 (by have z0_ := congrArg Int32.toInt (rd_o k3375 (rd_a k3372 (rd_a k3366 (rd_w k3189 (rd_w k2935 (rd_w k2896 (rd_w k2872 z1824 rfl) rfl) rfl) rfl) rfl) rfl) rfl); have z1_ := congrArg Int32.toInt (rd_o k3375 (rd_a k3372 (rd_a k3366 (rd_w k3189 (rd_w k2935 ef2897 rfl) rfl) rfl) rfl) rfl); have z2_ := congrArg Int32.toInt (rd_o k3375 (rd_a k3372 (rd_a k3366 ef3190 rfl) rfl) rfl); have z3_ := congrArg Int32.toInt (rd_o k3375 (rd_a k3372 (rd_a k3366 (rd_w k3189 (rd_w k2935 ef2899 rfl) rfl) rfl) rfl) rfl); have z4_ := congrArg Int32.toInt (rd_o k3375 (rd_a k3372 (rd_a k3366 (rd_w k3189 (rd_w k2935 ef2900 rfl) rfl) rfl) rfl) rfl); have z5_ := congrArg Int32.toInt (rd_o k3375 (rd_a k3372 (rd_a k3366 (rd_w k3189 (rd_w k2935 (rd_w k2896 (rd_w k2872 ef1829 rfl) rfl) rfl) rfl) rfl) rfl) rfl); have z6_ := congrArg Int32.toInt (rd_s k3375); have z7_ := congrArg Int32.toInt (rd_o k3375 (rd_a k3372 ef3367 rfl) rfl); have z8_ := congrArg Int32.toInt (rd_o k3375 (rd_a k3372 ef3368 rfl) rfl); have z9_ := congrArg Int32.toInt (rd_o k3375 (rd_a k3372 ef3369 rfl) rfl); have z10_ := congrArg Int32.toInt (rd_o k3375 (rd_a k3372 ef3370 rfl) rfl); have z_ := w_lits; have zl_ := l_lits; omega)) (fun h3387 hJ3387 k3387 m3387 => ?_)
                    obtain ⟨m3387_0, m3387_1, m3387_2, m3387_3, m3387_4⟩ := m3387
                    obtain ⟨f3388, ef3388⟩ : ∃ f_, h3387 63 17 = f_ := ⟨_, rfl⟩
                    have bf3388 : B f3388 0 160 := by have z_ := hJ3387.1 63 17; rw [ef3388] at z_; exact z_
                    have zf3388 := congrArg Int32.toInt ef3388
                    obtain ⟨f3389, ef3389⟩ : ∃ f_, h3387 63 21 = f_ := ⟨_, rfl⟩
                    have bf3389 : B f3389 0 6 := by have z_ := hJ3387.1 63 21; rw [ef3389] at z_; exact z_
                    have zf3389 := congrArg Int32.toInt ef3389
                    obtain ⟨f3390, ef3390⟩ : ∃ f_, h3387 63 20 = f_ := ⟨_, rfl⟩
                    have bf3390 : B f3390 (-2147483648) 2147483647 := by have z_ := hJ3387.1 63 20; rw [ef3390] at z_; exact z_
                    have zf3390 := congrArg Int32.toInt ef3390
                    obtain ⟨f3391, ef3391⟩ : ∃ f_, h3387 63 19 = f_ := ⟨_, rfl⟩
                    have bf3391 : B f3391 0 3 := by have z_ := hJ3387.1 63 19; rw [ef3391] at z_; exact z_
                    have zf3391 := congrArg Int32.toInt ef3391
                    have z3392 := congrArg Int32.toInt (rd_w k3387 (rd_o k3375 (rd_a k3372 (rd_a k3366 (rd_w k3189 (rd_w k2935 (rd_w k2896 (rd_w k2872 z1824 rfl) rfl) rfl) rfl) rfl) rfl) rfl) rfl)
                    have z3393 := congrArg Int32.toInt ef3388
                    have z3394 := congrArg Int32.toInt ef3389
                    have z3395 := congrArg Int32.toInt ef3390
                    have z3396 := congrArg Int32.toInt ef3391
                    have z3397 := congrArg Int32.toInt (rd_w k3387 (rd_o k3375 (rd_a k3372 (rd_a k3366 (rd_w k3189 (rd_w k2935 (rd_w k2896 (rd_w k2872 ef1829 rfl) rfl) rfl) rfl) rfl) rfl) rfl) rfl)
                    have z3398 := congrArg Int32.toInt (rd_w k3387 (rd_s k3375) rfl)
                    have z3399 := congrArg Int32.toInt (rd_w k3387 (rd_o k3375 (rd_a k3372 ef3367 rfl) rfl) rfl)
                    have z3400 := congrArg Int32.toInt (rd_w k3387 (rd_o k3375 (rd_a k3372 ef3368 rfl) rfl) rfl)
                    have z3401 := congrArg Int32.toInt (rd_w k3387 (rd_o k3375 (rd_a k3372 ef3369 rfl) rfl) rfl)
                    have z3402 := congrArg Int32.toInt (rd_w k3387 (rd_o k3375 (rd_a k3372 ef3370 rfl) rfl) rfl)
                    refine ev_goto rfl rfl ?_
                    exact (EvQ.drop 3 (ih19 1 w1819 h3387 ((by decide : B 1 1 1).mono (by decide) (by decide)) b1821 hJ3387 (rd_w k3387 (rd_o k3375 (rd_a k3372 (rd_a k3366 (rd_w k3189 (rd_w k2935 (rd_w k2896 (rd_w k2872 z1824 rfl) rfl) rfl) rfl) rfl) rfl) rfl) rfl) (by have z0_ := congrArg Int32.toInt (rd_w k3387 (rd_o k3375 (rd_a k3372 (rd_a k3366 (rd_w k3189 (rd_w k2935 (rd_w k2896 (rd_w k2872 z1824 rfl) rfl) rfl) rfl) rfl) rfl) rfl) rfl); have z1_ := congrArg Int32.toInt ef3388; have z2_ := congrArg Int32.toInt ef3389; have z3_ := congrArg Int32.toInt ef3390; have z4_ := congrArg Int32.toInt ef3391; have z5_ := congrArg Int32.toInt (rd_w k3387 (rd_o k3375 (rd_a k3372 (rd_a k3366 (rd_w k3189 (rd_w k2935 (rd_w k2896 (rd_w k2872 ef1829 rfl) rfl) rfl) rfl) rfl) rfl) rfl) rfl); have z6_ := congrArg Int32.toInt (rd_w k3387 (rd_s k3375) rfl); have z7_ := congrArg Int32.toInt (rd_w k3387 (rd_o k3375 (rd_a k3372 ef3367 rfl) rfl) rfl); have z8_ := congrArg Int32.toInt (rd_w k3387 (rd_o k3375 (rd_a k3372 ef3368 rfl) rfl) rfl); have z9_ := congrArg Int32.toInt (rd_w k3387 (rd_o k3375 (rd_a k3372 ef3369 rfl) rfl) rfl); have z10_ := congrArg Int32.toInt (rd_w k3387 (rd_o k3375 (rd_a k3372 ef3370 rfl) rfl) rfl); have z_ := w_lits; have zl_ := l_lits; omega) (by have z0_ := congrArg Int32.toInt (rd_w k3387 (rd_o k3375 (rd_a k3372 (rd_a k3366 (rd_w k3189 (rd_w k2935 (rd_w k2896 (rd_w k2872 z1824 rfl) rfl) rfl) rfl) rfl) rfl) rfl) rfl); have z1_ := congrArg Int32.toInt ef3388; have z2_ := congrArg Int32.toInt ef3389; have z3_ := congrArg Int32.toInt ef3390; have z4_ := congrArg Int32.toInt ef3391; have z5_ := congrArg Int32.toInt (rd_w k3387 (rd_o k3375 (rd_a k3372 (rd_a k3366 (rd_w k3189 (rd_w k2935 (rd_w k2896 (rd_w k2872 ef1829 rfl) rfl) rfl) rfl) rfl) rfl) rfl) rfl); have z6_ := congrArg Int32.toInt (rd_w k3387 (rd_s k3375) rfl); have z7_ := congrArg Int32.toInt (rd_w k3387 (rd_o k3375 (rd_a k3372 ef3367 rfl) rfl) rfl); have z8_ := congrArg Int32.toInt (rd_w k3387 (rd_o k3375 (rd_a k3372 ef3368 rfl) rfl) rfl); have z9_ := congrArg Int32.toInt (rd_w k3387 (rd_o k3375 (rd_a k3372 ef3369 rfl) rfl) rfl); have z10_ := congrArg Int32.toInt (rd_w k3387 (rd_o k3375 (rd_a k3372 ef3370 rfl) rfl) rfl); have z_ := w_lits; have zl_ := l_lits; omega) (by have z0_ := congrArg Int32.toInt (rd_w k3387 (rd_o k3375 (rd_a k3372 (rd_a k3366 (rd_w k3189 (rd_w k2935 (rd_w k2896 (rd_w k2872 z1824 rfl) rfl) rfl) rfl) rfl) rfl) rfl) rfl); have z1_ := congrArg Int32.toInt ef3388; have z2_ := congrArg Int32.toInt ef3389; have z3_ := congrArg Int32.toInt ef3390; have z4_ := congrArg Int32.toInt ef3391; have z5_ := congrArg Int32.toInt (rd_w k3387 (rd_o k3375 (rd_a k3372 (rd_a k3366 (rd_w k3189 (rd_w k2935 (rd_w k2896 (rd_w k2872 ef1829 rfl) rfl) rfl) rfl) rfl) rfl) rfl) rfl); have z6_ := congrArg Int32.toInt (rd_w k3387 (rd_s k3375) rfl); have z7_ := congrArg Int32.toInt (rd_w k3387 (rd_o k3375 (rd_a k3372 ef3367 rfl) rfl) rfl); have z8_ := congrArg Int32.toInt (rd_w k3387 (rd_o k3375 (rd_a k3372 ef3368 rfl) rfl) rfl); have z9_ := congrArg Int32.toInt (rd_w k3387 (rd_o k3375 (rd_a k3372 ef3369 rfl) rfl) rfl); have z10_ := congrArg Int32.toInt (rd_w k3387 (rd_o k3375 (rd_a k3372 ef3370 rfl) rfl) rfl); have z_ := w_lits; have zl_ := l_lits; omega) (by have z0_ := congrArg Int32.toInt (rd_w k3387 (rd_o k3375 (rd_a k3372 (rd_a k3366 (rd_w k3189 (rd_w k2935 (rd_w k2896 (rd_w k2872 z1824 rfl) rfl) rfl) rfl) rfl) rfl) rfl) rfl); have z1_ := congrArg Int32.toInt ef3388; have z2_ := congrArg Int32.toInt ef3389; have z3_ := congrArg Int32.toInt ef3390; have z4_ := congrArg Int32.toInt ef3391; have z5_ := congrArg Int32.toInt (rd_w k3387 (rd_o k3375 (rd_a k3372 (rd_a k3366 (rd_w k3189 (rd_w k2935 (rd_w k2896 (rd_w k2872 ef1829 rfl) rfl) rfl) rfl) rfl) rfl) rfl) rfl); have z6_ := congrArg Int32.toInt (rd_w k3387 (rd_s k3375) rfl); have z7_ := congrArg Int32.toInt (rd_w k3387 (rd_o k3375 (rd_a k3372 ef3367 rfl) rfl) rfl); have z8_ := congrArg Int32.toInt (rd_w k3387 (rd_o k3375 (rd_a k3372 ef3368 rfl) rfl) rfl); have z9_ := congrArg Int32.toInt (rd_w k3387 (rd_o k3375 (rd_a k3372 ef3369 rfl) rfl) rfl); have z10_ := congrArg Int32.toInt (rd_w k3387 (rd_o k3375 (rd_a k3372 ef3370 rfl) rfl) rfl); have z_ := w_lits; have zl_ := l_lits; omega) (by have z0_ := congrArg Int32.toInt (rd_w k3387 (rd_o k3375 (rd_a k3372 (rd_a k3366 (rd_w k3189 (rd_w k2935 (rd_w k2896 (rd_w k2872 z1824 rfl) rfl) rfl) rfl) rfl) rfl) rfl) rfl); have z1_ := congrArg Int32.toInt ef3388; have z2_ := congrArg Int32.toInt ef3389; have z3_ := congrArg Int32.toInt ef3390; have z4_ := congrArg Int32.toInt ef3391; have z5_ := congrArg Int32.toInt (rd_w k3387 (rd_o k3375 (rd_a k3372 (rd_a k3366 (rd_w k3189 (rd_w k2935 (rd_w k2896 (rd_w k2872 ef1829 rfl) rfl) rfl) rfl) rfl) rfl) rfl) rfl); have z6_ := congrArg Int32.toInt (rd_w k3387 (rd_s k3375) rfl); have z7_ := congrArg Int32.toInt (rd_w k3387 (rd_o k3375 (rd_a k3372 ef3367 rfl) rfl) rfl); have z8_ := congrArg Int32.toInt (rd_w k3387 (rd_o k3375 (rd_a k3372 ef3368 rfl) rfl) rfl); have z9_ := congrArg Int32.toInt (rd_w k3387 (rd_o k3375 (rd_a k3372 ef3369 rfl) rfl) rfl); have z10_ := congrArg Int32.toInt (rd_w k3387 (rd_o k3375 (rd_a k3372 ef3370 rfl) rfl) rfl); have z_ := w_lits; have zl_ := l_lits; omega) (by have z0_ := congrArg Int32.toInt (rd_w k3387 (rd_o k3375 (rd_a k3372 (rd_a k3366 (rd_w k3189 (rd_w k2935 (rd_w k2896 (rd_w k2872 z1824 rfl) rfl) rfl) rfl) rfl) rfl) rfl) rfl); have z1_ := congrArg Int32.toInt ef3388; have z2_ := congrArg Int32.toInt ef3389; have z3_ := congrArg Int32.toInt ef3390; have z4_ := congrArg Int32.toInt ef3391; have z5_ := congrArg Int32.toInt (rd_w k3387 (rd_o k3375 (rd_a k3372 (rd_a k3366 (rd_w k3189 (rd_w k2935 (rd_w k2896 (rd_w k2872 ef1829 rfl) rfl) rfl) rfl) rfl) rfl) rfl) rfl); have z6_ := congrArg Int32.toInt (rd_w k3387 (rd_s k3375) rfl); have z7_ := congrArg Int32.toInt (rd_w k3387 (rd_o k3375 (rd_a k3372 ef3367 rfl) rfl) rfl); have z8_ := congrArg Int32.toInt (rd_w k3387 (rd_o k3375 (rd_a k3372 ef3368 rfl) rfl) rfl); have z9_ := congrArg Int32.toInt (rd_w k3387 (rd_o k3375 (rd_a k3372 ef3369 rfl) rfl) rfl); have z10_ := congrArg Int32.toInt (rd_w k3387 (rd_o k3375 (rd_a k3372 ef3370 rfl) rfl) rfl); have z_ := w_lits; have zl_ := l_lits; omega) (mM_dec hm19 (by have z0_ := congrArg Int32.toInt (rd_w k3387 (rd_o k3375 (rd_a k3372 (rd_a k3366 (rd_w k3189 (rd_w k2935 (rd_w k2896 (rd_w k2872 z1824 rfl) rfl) rfl) rfl) rfl) rfl) rfl) rfl); have z1_ := congrArg Int32.toInt ef3388; have z2_ := congrArg Int32.toInt ef3389; have z3_ := congrArg Int32.toInt ef3390; have z4_ := congrArg Int32.toInt ef3391; have z5_ := congrArg Int32.toInt (rd_w k3387 (rd_o k3375 (rd_a k3372 (rd_a k3366 (rd_w k3189 (rd_w k2935 (rd_w k2896 (rd_w k2872 ef1829 rfl) rfl) rfl) rfl) rfl) rfl) rfl) rfl); have z6_ := congrArg Int32.toInt (rd_w k3387 (rd_s k3375) rfl); have z7_ := congrArg Int32.toInt (rd_w k3387 (rd_o k3375 (rd_a k3372 ef3367 rfl) rfl) rfl); have z8_ := congrArg Int32.toInt (rd_w k3387 (rd_o k3375 (rd_a k3372 ef3368 rfl) rfl) rfl); have z9_ := congrArg Int32.toInt (rd_w k3387 (rd_o k3375 (rd_a k3372 ef3369 rfl) rfl) rfl); have z10_ := congrArg Int32.toInt (rd_w k3387 (rd_o k3375 (rd_a k3372 ef3370 rfl) rfl) rfl); have z_ := w_lits; have zl_ := l_lits; omega) (by have z0_ := congrArg Int32.toInt (rd_w k3387 (rd_o k3375 (rd_a k3372 (rd_a k3366 (rd_w k3189 (rd_w k2935 (rd_w k2896 (rd_w k2872 z1824 rfl) rfl) rfl) rfl) rfl) rfl) rfl) rfl); have z1_ := congrArg Int32.toInt ef3388; have z2_ := congrArg Int32.toInt ef3389; have z3_ := congrArg Int32.toInt ef3390; have z4_ := congrArg Int32.toInt ef3391; have z5_ := congrArg Int32.toInt (rd_w k3387 (rd_o k3375 (rd_a k3372 (rd_a k3366 (rd_w k3189 (rd_w k2935 (rd_w k2896 (rd_w k2872 ef1829 rfl) rfl) rfl) rfl) rfl) rfl) rfl) rfl); have z6_ := congrArg Int32.toInt (rd_w k3387 (rd_s k3375) rfl); have z7_ := congrArg Int32.toInt (rd_w k3387 (rd_o k3375 (rd_a k3372 ef3367 rfl) rfl) rfl); have z8_ := congrArg Int32.toInt (rd_w k3387 (rd_o k3375 (rd_a k3372 ef3368 rfl) rfl) rfl); have z9_ := congrArg Int32.toInt (rd_w k3387 (rd_o k3375 (rd_a k3372 ef3369 rfl) rfl) rfl); have z10_ := congrArg Int32.toInt (rd_w k3387 (rd_o k3375 (rd_a k3372 ef3370 rfl) rfl) rfl); have z_ := w_lits; have zl_ := l_lits; omega) (by have z0_ := congrArg Int32.toInt (rd_w k3387 (rd_o k3375 (rd_a k3372 (rd_a k3366 (rd_w k3189 (rd_w k2935 (rd_w k2896 (rd_w k2872 z1824 rfl) rfl) rfl) rfl) rfl) rfl) rfl) rfl); have z1_ := congrArg Int32.toInt ef3388; have z2_ := congrArg Int32.toInt ef3389; have z3_ := congrArg Int32.toInt ef3390; have z4_ := congrArg Int32.toInt ef3391; have z5_ := congrArg Int32.toInt (rd_w k3387 (rd_o k3375 (rd_a k3372 (rd_a k3366 (rd_w k3189 (rd_w k2935 (rd_w k2896 (rd_w k2872 ef1829 rfl) rfl) rfl) rfl) rfl) rfl) rfl) rfl); have z6_ := congrArg Int32.toInt (rd_w k3387 (rd_s k3375) rfl); have z7_ := congrArg Int32.toInt (rd_w k3387 (rd_o k3375 (rd_a k3372 ef3367 rfl) rfl) rfl); have z8_ := congrArg Int32.toInt (rd_w k3387 (rd_o k3375 (rd_a k3372 ef3368 rfl) rfl) rfl); have z9_ := congrArg Int32.toInt (rd_w k3387 (rd_o k3375 (rd_a k3372 ef3369 rfl) rfl) rfl); have z10_ := congrArg Int32.toInt (rd_w k3387 (rd_o k3375 (rd_a k3372 ef3370 rfl) rfl) rfl); have z_ := w_lits; have zl_ := l_lits; omega))))
          · have b1928 : B r1924 1 1 := R_neL b1924 (by decide : B 0 0 0) c1925 (by decide)
            have z1929 := w_ne c1925
            rw [show (0 : Int32).toInt = 0 from by decide] at z1929
            refine ev_aload_n rfl rfl rfl ?_
            refine ev_aload_n rfl rfl rfl ?_
            refine ev_getV (v := f1828) rfl rfl fl_X10_204 rfl rfl rfl ef1828 ?_
            refine ev_iconst (v := 1) rfl rfl (by decide) ?_
            refine ev_icmp_ne rfl rfl (fun c3403 => ?_) (fun c3403 => ?_)
            · have z3404 := w_ne c3403
              rw [show (1 : Int32).toInt = 1 from by decide] at z3404
              refine ev_iconst (v := 0) rfl rfl (by decide) ?_
              have b3407 : B 0 0 4095 := ⟨(by have z0_ := congrArg Int32.toInt z1824; have z1_ := congrArg Int32.toInt ef1825; have z2_ := congrArg Int32.toInt ef1826; have z3_ := congrArg Int32.toInt ef1827; have z4_ := congrArg Int32.toInt ef1828; have z5_ := congrArg Int32.toInt ef1829; have z6_ := congrArg Int32.toInt ef1830; have z7_ := congrArg Int32.toInt ef1831; have z8_ := congrArg Int32.toInt ef1832; have z9_ := congrArg Int32.toInt ef1833; have z10_ := congrArg Int32.toInt ef1834; have z_ := w_lits; have zl_ := l_lits; omega), (by have z0_ := congrArg Int32.toInt z1824; have z1_ := congrArg Int32.toInt ef1825; have z2_ := congrArg Int32.toInt ef1826; have z3_ := congrArg Int32.toInt ef1827; have z4_ := congrArg Int32.toInt ef1828; have z5_ := congrArg Int32.toInt ef1829; have z6_ := congrArg Int32.toInt ef1830; have z7_ := congrArg Int32.toInt ef1831; have z8_ := congrArg Int32.toInt ef1832; have z9_ := congrArg Int32.toInt ef1833; have z10_ := congrArg Int32.toInt ef1834; have z_ := w_lits; have zl_ := l_lits; omega)⟩
              have z3408 := congrArg Int32.toInt z1824
              have z3409 := congrArg Int32.toInt ef1825
              have z3410 := congrArg Int32.toInt ef1826
              have z3411 := congrArg Int32.toInt ef1827
              have z3412 := congrArg Int32.toInt ef1828
              have z3413 := congrArg Int32.toInt ef1829
              have z3414 := congrArg Int32.toInt ef1830
              have z3415 := congrArg Int32.toInt ef1831
              have z3416 := congrArg Int32.toInt ef1832
              have z3417 := congrArg Int32.toInt ef1833
              have z3418 := congrArg Int32.toInt ef1834
              refine ev_V1K hJ1823 rfl rfl rfl lk_X10_247 vt_X10_beatRead rfl rfl rfl rfl rfl (w_X10_beatRead_63 L b h1822 hJ1823.1 0 b3407 (by have z0_ := congrArg Int32.toInt z1824; have z1_ := congrArg Int32.toInt ef1825; have z2_ := congrArg Int32.toInt ef1826; have z3_ := congrArg Int32.toInt ef1827; have z4_ := congrArg Int32.toInt ef1828; have z5_ := congrArg Int32.toInt ef1829; have z6_ := congrArg Int32.toInt ef1830; have z7_ := congrArg Int32.toInt ef1831; have z8_ := congrArg Int32.toInt ef1832; have z9_ := congrArg Int32.toInt ef1833; have z10_ := congrArg Int32.toInt ef1834; have z_ := w_lits; have zl_ := l_lits; omega) (by have z0_ := congrArg Int32.toInt z1824; have z1_ := congrArg Int32.toInt ef1825; have z2_ := congrArg Int32.toInt ef1826; have z3_ := congrArg Int32.toInt ef1827; have z4_ := congrArg Int32.toInt ef1828; have z5_ := congrArg Int32.toInt ef1829; have z6_ := congrArg Int32.toInt ef1830; have z7_ := congrArg Int32.toInt ef1831; have z8_ := congrArg Int32.toInt ef1832; have z9_ := congrArg Int32.toInt ef1833; have z10_ := congrArg Int32.toInt ef1834; have z_ := w_lits; have zl_ := l_lits; omega) (by have z0_ := congrArg Int32.toInt z1824; have z1_ := congrArg Int32.toInt ef1825; have z2_ := congrArg Int32.toInt ef1826; have z3_ := congrArg Int32.toInt ef1827; have z4_ := congrArg Int32.toInt ef1828; have z5_ := congrArg Int32.toInt ef1829; have z6_ := congrArg Int32.toInt ef1830; have z7_ := congrArg Int32.toInt ef1831; have z8_ := congrArg Int32.toInt ef1832; have z9_ := congrArg Int32.toInt ef1833; have z10_ := congrArg Int32.toInt ef1834; have z_ := w_lits; have zl_ := l_lits; omega) (by have z0_ := congrArg Int32.toInt z1824; have z1_ := congrArg Int32.toInt ef1825; have z2_ := congrArg Int32.toInt ef1826; have z3_ := congrArg Int32.toInt ef1827; have z4_ := congrArg Int32.toInt ef1828; have z5_ := congrArg Int32.toInt ef1829; have z6_ := congrArg Int32.toInt ef1830; have z7_ := congrArg Int32.toInt ef1831; have z8_ := congrArg Int32.toInt ef1832; have z9_ := congrArg Int32.toInt ef1833; have z10_ := congrArg Int32.toInt ef1834; have z_ := w_lits; have zl_ := l_lits; omega)) (fun h3419 hJ3419 k3419 m3419 => ?_)
              obtain ⟨m3419_0, m3419_1, m3419_2, m3419_3⟩ := m3419
              obtain ⟨f3420, ef3420⟩ : ∃ f_, h3419 63 27 = f_ := ⟨_, rfl⟩
              have bf3420 : B f3420 0 60 := by have z_ := hJ3419.1 63 27; rw [ef3420] at z_; exact z_
              have zf3420 := congrArg Int32.toInt ef3420
              have z3421 := congrArg Int32.toInt (rd_w k3419 z1824 rfl)
              have z3422 := congrArg Int32.toInt (rd_w k3419 ef1825 rfl)
              have z3423 := congrArg Int32.toInt (rd_w k3419 ef1826 rfl)
              have z3424 := congrArg Int32.toInt (rd_w k3419 ef1827 rfl)
              have z3425 := congrArg Int32.toInt (rd_w k3419 ef1828 rfl)
              have z3426 := congrArg Int32.toInt ef3420
              have z3427 := congrArg Int32.toInt (rd_w k3419 ef1830 rfl)
              have z3428 := congrArg Int32.toInt (rd_w k3419 ef1831 rfl)
              have z3429 := congrArg Int32.toInt (rd_w k3419 ef1832 rfl)
              have z3430 := congrArg Int32.toInt (rd_w k3419 ef1833 rfl)
              have z3431 := congrArg Int32.toInt (rd_w k3419 ef1834 rfl)
              refine ev_iconst (v := 0) rfl rfl (by decide) ?_
              refine ev_istore_n rfl rfl rfl rfl ?_
              dsimp only [List.set]
              refine ev_aload_n rfl rfl rfl ?_
              have z3432 := congrArg Int32.toInt (rd_w k3419 z1824 rfl)
              have z3433 := congrArg Int32.toInt (rd_w k3419 ef1825 rfl)
              have z3434 := congrArg Int32.toInt (rd_w k3419 ef1826 rfl)
              have z3435 := congrArg Int32.toInt (rd_w k3419 ef1827 rfl)
              have z3436 := congrArg Int32.toInt (rd_w k3419 ef1828 rfl)
              have z3437 := congrArg Int32.toInt ef3420
              have z3438 := congrArg Int32.toInt (rd_w k3419 ef1830 rfl)
              have z3439 := congrArg Int32.toInt (rd_w k3419 ef1831 rfl)
              have z3440 := congrArg Int32.toInt (rd_w k3419 ef1832 rfl)
              have z3441 := congrArg Int32.toInt (rd_w k3419 ef1833 rfl)
              have z3442 := congrArg Int32.toInt (rd_w k3419 ef1834 rfl)
              refine ev_V0K hJ3419 rfl rfl rfl lk_X10_251 vt_X10_next rfl rfl rfl rfl rfl (w_X10_next_63 L b h3419 hJ3419.1 (by have z0_ := congrArg Int32.toInt (rd_w k3419 z1824 rfl); have z1_ := congrArg Int32.toInt (rd_w k3419 ef1825 rfl); have z2_ := congrArg Int32.toInt (rd_w k3419 ef1826 rfl); have z3_ := congrArg Int32.toInt (rd_w k3419 ef1827 rfl); have z4_ := congrArg Int32.toInt (rd_w k3419 ef1828 rfl); have z5_ := congrArg Int32.toInt ef3420; have z6_ := congrArg Int32.toInt (rd_w k3419 ef1830 rfl); have z7_ := congrArg Int32.toInt (rd_w k3419 ef1831 rfl); have z8_ := congrArg Int32.toInt (rd_w k3419 ef1832 rfl); have z9_ := congrArg Int32.toInt (rd_w k3419 ef1833 rfl); have z10_ := congrArg Int32.toInt (rd_w k3419 ef1834 rfl); have z_ := w_lits; have zl_ := l_lits; omega)) (fun h3443 hJ3443 k3443 m3443 => ?_)
              obtain ⟨m3443_0, m3443_1, m3443_2, m3443_3, m3443_4⟩ := m3443
              obtain ⟨f3444, ef3444⟩ : ∃ f_, h3443 63 17 = f_ := ⟨_, rfl⟩
              have bf3444 : B f3444 0 160 := by have z_ := hJ3443.1 63 17; rw [ef3444] at z_; exact z_
              have zf3444 := congrArg Int32.toInt ef3444
              obtain ⟨f3445, ef3445⟩ : ∃ f_, h3443 63 21 = f_ := ⟨_, rfl⟩
              have bf3445 : B f3445 0 6 := by have z_ := hJ3443.1 63 21; rw [ef3445] at z_; exact z_
              have zf3445 := congrArg Int32.toInt ef3445
              obtain ⟨f3446, ef3446⟩ : ∃ f_, h3443 63 20 = f_ := ⟨_, rfl⟩
              have bf3446 : B f3446 (-2147483648) 2147483647 := by have z_ := hJ3443.1 63 20; rw [ef3446] at z_; exact z_
              have zf3446 := congrArg Int32.toInt ef3446
              obtain ⟨f3447, ef3447⟩ : ∃ f_, h3443 63 19 = f_ := ⟨_, rfl⟩
              have bf3447 : B f3447 0 3 := by have z_ := hJ3443.1 63 19; rw [ef3447] at z_; exact z_
              have zf3447 := congrArg Int32.toInt ef3447
              have z3448 := congrArg Int32.toInt (rd_w k3443 (rd_w k3419 z1824 rfl) rfl)
              have z3449 := congrArg Int32.toInt ef3444
              have z3450 := congrArg Int32.toInt ef3445
              have z3451 := congrArg Int32.toInt ef3446
              have z3452 := congrArg Int32.toInt ef3447
              have z3453 := congrArg Int32.toInt (rd_w k3443 ef3420 rfl)
              have z3454 := congrArg Int32.toInt (rd_w k3443 (rd_w k3419 ef1830 rfl) rfl)
              have z3455 := congrArg Int32.toInt (rd_w k3443 (rd_w k3419 ef1831 rfl) rfl)
              have z3456 := congrArg Int32.toInt (rd_w k3443 (rd_w k3419 ef1832 rfl) rfl)
              have z3457 := congrArg Int32.toInt (rd_w k3443 (rd_w k3419 ef1833 rfl) rfl)
              have z3458 := congrArg Int32.toInt (rd_w k3443 (rd_w k3419 ef1834 rfl) rfl)
              refine ev_goto rfl rfl ?_
              exact (ih19 0 w1819 h3443 b3407 b1821 hJ3443 (rd_w k3443 (rd_w k3419 z1824 rfl) rfl) (by have z0_ := congrArg Int32.toInt (rd_w k3443 (rd_w k3419 z1824 rfl) rfl); have z1_ := congrArg Int32.toInt ef3444; have z2_ := congrArg Int32.toInt ef3445; have z3_ := congrArg Int32.toInt ef3446; have z4_ := congrArg Int32.toInt ef3447; have z5_ := congrArg Int32.toInt (rd_w k3443 ef3420 rfl); have z6_ := congrArg Int32.toInt (rd_w k3443 (rd_w k3419 ef1830 rfl) rfl); have z7_ := congrArg Int32.toInt (rd_w k3443 (rd_w k3419 ef1831 rfl) rfl); have z8_ := congrArg Int32.toInt (rd_w k3443 (rd_w k3419 ef1832 rfl) rfl); have z9_ := congrArg Int32.toInt (rd_w k3443 (rd_w k3419 ef1833 rfl) rfl); have z10_ := congrArg Int32.toInt (rd_w k3443 (rd_w k3419 ef1834 rfl) rfl); have z_ := w_lits; have zl_ := l_lits; omega) (by have z0_ := congrArg Int32.toInt (rd_w k3443 (rd_w k3419 z1824 rfl) rfl); have z1_ := congrArg Int32.toInt ef3444; have z2_ := congrArg Int32.toInt ef3445; have z3_ := congrArg Int32.toInt ef3446; have z4_ := congrArg Int32.toInt ef3447; have z5_ := congrArg Int32.toInt (rd_w k3443 ef3420 rfl); have z6_ := congrArg Int32.toInt (rd_w k3443 (rd_w k3419 ef1830 rfl) rfl); have z7_ := congrArg Int32.toInt (rd_w k3443 (rd_w k3419 ef1831 rfl) rfl); have z8_ := congrArg Int32.toInt (rd_w k3443 (rd_w k3419 ef1832 rfl) rfl); have z9_ := congrArg Int32.toInt (rd_w k3443 (rd_w k3419 ef1833 rfl) rfl); have z10_ := congrArg Int32.toInt (rd_w k3443 (rd_w k3419 ef1834 rfl) rfl); have z_ := w_lits; have zl_ := l_lits; omega) (by have z0_ := congrArg Int32.toInt (rd_w k3443 (rd_w k3419 z1824 rfl) rfl); have z1_ := congrArg Int32.toInt ef3444; have z2_ := congrArg Int32.toInt ef3445; have z3_ := congrArg Int32.toInt ef3446; have z4_ := congrArg Int32.toInt ef3447; have z5_ := congrArg Int32.toInt (rd_w k3443 ef3420 rfl); have z6_ := congrArg Int32.toInt (rd_w k3443 (rd_w k3419 ef1830 rfl) rfl); have z7_ := congrArg Int32.toInt (rd_w k3443 (rd_w k3419 ef1831 rfl) rfl); have z8_ := congrArg Int32.toInt (rd_w k3443 (rd_w k3419 ef1832 rfl) rfl); have z9_ := congrArg Int32.toInt (rd_w k3443 (rd_w k3419 ef1833 rfl) rfl); have z10_ := congrArg Int32.toInt (rd_w k3443 (rd_w k3419 ef1834 rfl) rfl); have z_ := w_lits; have zl_ := l_lits; omega) (by have z0_ := congrArg Int32.toInt (rd_w k3443 (rd_w k3419 z1824 rfl) rfl); have z1_ := congrArg Int32.toInt ef3444; have z2_ := congrArg Int32.toInt ef3445; have z3_ := congrArg Int32.toInt ef3446; have z4_ := congrArg Int32.toInt ef3447; have z5_ := congrArg Int32.toInt (rd_w k3443 ef3420 rfl); have z6_ := congrArg Int32.toInt (rd_w k3443 (rd_w k3419 ef1830 rfl) rfl); have z7_ := congrArg Int32.toInt (rd_w k3443 (rd_w k3419 ef1831 rfl) rfl); have z8_ := congrArg Int32.toInt (rd_w k3443 (rd_w k3419 ef1832 rfl) rfl); have z9_ := congrArg Int32.toInt (rd_w k3443 (rd_w k3419 ef1833 rfl) rfl); have z10_ := congrArg Int32.toInt (rd_w k3443 (rd_w k3419 ef1834 rfl) rfl); have z_ := w_lits; have zl_ := l_lits; omega) (by have z0_ := congrArg Int32.toInt (rd_w k3443 (rd_w k3419 z1824 rfl) rfl); have z1_ := congrArg Int32.toInt ef3444; have z2_ := congrArg Int32.toInt ef3445; have z3_ := congrArg Int32.toInt ef3446; have z4_ := congrArg Int32.toInt ef3447; have z5_ := congrArg Int32.toInt (rd_w k3443 ef3420 rfl); have z6_ := congrArg Int32.toInt (rd_w k3443 (rd_w k3419 ef1830 rfl) rfl); have z7_ := congrArg Int32.toInt (rd_w k3443 (rd_w k3419 ef1831 rfl) rfl); have z8_ := congrArg Int32.toInt (rd_w k3443 (rd_w k3419 ef1832 rfl) rfl); have z9_ := congrArg Int32.toInt (rd_w k3443 (rd_w k3419 ef1833 rfl) rfl); have z10_ := congrArg Int32.toInt (rd_w k3443 (rd_w k3419 ef1834 rfl) rfl); have z_ := w_lits; have zl_ := l_lits; omega) (by have z0_ := congrArg Int32.toInt (rd_w k3443 (rd_w k3419 z1824 rfl) rfl); have z1_ := congrArg Int32.toInt ef3444; have z2_ := congrArg Int32.toInt ef3445; have z3_ := congrArg Int32.toInt ef3446; have z4_ := congrArg Int32.toInt ef3447; have z5_ := congrArg Int32.toInt (rd_w k3443 ef3420 rfl); have z6_ := congrArg Int32.toInt (rd_w k3443 (rd_w k3419 ef1830 rfl) rfl); have z7_ := congrArg Int32.toInt (rd_w k3443 (rd_w k3419 ef1831 rfl) rfl); have z8_ := congrArg Int32.toInt (rd_w k3443 (rd_w k3419 ef1832 rfl) rfl); have z9_ := congrArg Int32.toInt (rd_w k3443 (rd_w k3419 ef1833 rfl) rfl); have z10_ := congrArg Int32.toInt (rd_w k3443 (rd_w k3419 ef1834 rfl) rfl); have z_ := w_lits; have zl_ := l_lits; omega) (mM_dec hm19 (by have z0_ := congrArg Int32.toInt (rd_w k3443 (rd_w k3419 z1824 rfl) rfl); have z1_ := congrArg Int32.toInt ef3444; have z2_ := congrArg Int32.toInt ef3445; have z3_ := congrArg Int32.toInt ef3446; have z4_ := congrArg Int32.toInt ef3447; have z5_ := congrArg Int32.toInt (rd_w k3443 ef3420 rfl); have z6_ := congrArg Int32.toInt (rd_w k3443 (rd_w k3419 ef1830 rfl) rfl); have z7_ := congrArg Int32.toInt (rd_w k3443 (rd_w k3419 ef1831 rfl) rfl); have z8_ := congrArg Int32.toInt (rd_w k3443 (rd_w k3419 ef1832 rfl) rfl); have z9_ := congrArg Int32.toInt (rd_w k3443 (rd_w k3419 ef1833 rfl) rfl); have z10_ := congrArg Int32.toInt (rd_w k3443 (rd_w k3419 ef1834 rfl) rfl); have z_ := w_lits; have zl_ := l_lits; omega) (by have z0_ := congrArg Int32.toInt (rd_w k3443 (rd_w k3419 z1824 rfl) rfl); have z1_ := congrArg Int32.toInt ef3444; have z2_ := congrArg Int32.toInt ef3445; have z3_ := congrArg Int32.toInt ef3446; have z4_ := congrArg Int32.toInt ef3447; have z5_ := congrArg Int32.toInt (rd_w k3443 ef3420 rfl); have z6_ := congrArg Int32.toInt (rd_w k3443 (rd_w k3419 ef1830 rfl) rfl); have z7_ := congrArg Int32.toInt (rd_w k3443 (rd_w k3419 ef1831 rfl) rfl); have z8_ := congrArg Int32.toInt (rd_w k3443 (rd_w k3419 ef1832 rfl) rfl); have z9_ := congrArg Int32.toInt (rd_w k3443 (rd_w k3419 ef1833 rfl) rfl); have z10_ := congrArg Int32.toInt (rd_w k3443 (rd_w k3419 ef1834 rfl) rfl); have z_ := w_lits; have zl_ := l_lits; omega) (by have z0_ := congrArg Int32.toInt (rd_w k3443 (rd_w k3419 z1824 rfl) rfl); have z1_ := congrArg Int32.toInt ef3444; have z2_ := congrArg Int32.toInt ef3445; have z3_ := congrArg Int32.toInt ef3446; have z4_ := congrArg Int32.toInt ef3447; have z5_ := congrArg Int32.toInt (rd_w k3443 ef3420 rfl); have z6_ := congrArg Int32.toInt (rd_w k3443 (rd_w k3419 ef1830 rfl) rfl); have z7_ := congrArg Int32.toInt (rd_w k3443 (rd_w k3419 ef1831 rfl) rfl); have z8_ := congrArg Int32.toInt (rd_w k3443 (rd_w k3419 ef1832 rfl) rfl); have z9_ := congrArg Int32.toInt (rd_w k3443 (rd_w k3419 ef1833 rfl) rfl); have z10_ := congrArg Int32.toInt (rd_w k3443 (rd_w k3419 ef1834 rfl) rfl); have z_ := w_lits; have zl_ := l_lits; omega)))
            · have b3405 : B f1828 1 1 := R_eqX bf1828 (by decide : B 1 1 1) c3403
              have z3406 := congrArg Int32.toInt c3403
              rw [show (1 : Int32).toInt = 1 from by decide] at z3406
              refine ev_aload_n rfl rfl rfl ?_
              refine ev_getV (v := f1827) rfl rfl fl_X10_207 rfl rfl rfl ef1827 ?_
              refine ev_goto rfl rfl ?_
              have b3459 : B f1827 0 4095 := ⟨(by have z0_ := congrArg Int32.toInt z1824; have z1_ := congrArg Int32.toInt ef1825; have z2_ := congrArg Int32.toInt ef1826; have z3_ := congrArg Int32.toInt ef1827; have z4_ := congrArg Int32.toInt ef1828; have z5_ := congrArg Int32.toInt ef1829; have z6_ := congrArg Int32.toInt ef1830; have z7_ := congrArg Int32.toInt ef1831; have z8_ := congrArg Int32.toInt ef1832; have z9_ := congrArg Int32.toInt ef1833; have z10_ := congrArg Int32.toInt ef1834; have z_ := w_lits; have zl_ := l_lits; omega), (by have z0_ := congrArg Int32.toInt z1824; have z1_ := congrArg Int32.toInt ef1825; have z2_ := congrArg Int32.toInt ef1826; have z3_ := congrArg Int32.toInt ef1827; have z4_ := congrArg Int32.toInt ef1828; have z5_ := congrArg Int32.toInt ef1829; have z6_ := congrArg Int32.toInt ef1830; have z7_ := congrArg Int32.toInt ef1831; have z8_ := congrArg Int32.toInt ef1832; have z9_ := congrArg Int32.toInt ef1833; have z10_ := congrArg Int32.toInt ef1834; have z_ := w_lits; have zl_ := l_lits; omega)⟩
              have z3460 := congrArg Int32.toInt z1824
              have z3461 := congrArg Int32.toInt ef1825
              have z3462 := congrArg Int32.toInt ef1826
              have z3463 := congrArg Int32.toInt ef1827
              have z3464 := congrArg Int32.toInt ef1828
              have z3465 := congrArg Int32.toInt ef1829
              have z3466 := congrArg Int32.toInt ef1830
              have z3467 := congrArg Int32.toInt ef1831
              have z3468 := congrArg Int32.toInt ef1832
              have z3469 := congrArg Int32.toInt ef1833
              have z3470 := congrArg Int32.toInt ef1834
              refine ev_V1K hJ1823 rfl rfl rfl lk_X10_247 vt_X10_beatRead rfl rfl rfl rfl rfl (w_X10_beatRead_63 L b h1822 hJ1823.1 f1827 b3459 (by have z0_ := congrArg Int32.toInt z1824; have z1_ := congrArg Int32.toInt ef1825; have z2_ := congrArg Int32.toInt ef1826; have z3_ := congrArg Int32.toInt ef1827; have z4_ := congrArg Int32.toInt ef1828; have z5_ := congrArg Int32.toInt ef1829; have z6_ := congrArg Int32.toInt ef1830; have z7_ := congrArg Int32.toInt ef1831; have z8_ := congrArg Int32.toInt ef1832; have z9_ := congrArg Int32.toInt ef1833; have z10_ := congrArg Int32.toInt ef1834; have z_ := w_lits; have zl_ := l_lits; omega) (by have z0_ := congrArg Int32.toInt z1824; have z1_ := congrArg Int32.toInt ef1825; have z2_ := congrArg Int32.toInt ef1826; have z3_ := congrArg Int32.toInt ef1827; have z4_ := congrArg Int32.toInt ef1828; have z5_ := congrArg Int32.toInt ef1829; have z6_ := congrArg Int32.toInt ef1830; have z7_ := congrArg Int32.toInt ef1831; have z8_ := congrArg Int32.toInt ef1832; have z9_ := congrArg Int32.toInt ef1833; have z10_ := congrArg Int32.toInt ef1834; have z_ := w_lits; have zl_ := l_lits; omega) (by have z0_ := congrArg Int32.toInt z1824; have z1_ := congrArg Int32.toInt ef1825; have z2_ := congrArg Int32.toInt ef1826; have z3_ := congrArg Int32.toInt ef1827; have z4_ := congrArg Int32.toInt ef1828; have z5_ := congrArg Int32.toInt ef1829; have z6_ := congrArg Int32.toInt ef1830; have z7_ := congrArg Int32.toInt ef1831; have z8_ := congrArg Int32.toInt ef1832; have z9_ := congrArg Int32.toInt ef1833; have z10_ := congrArg Int32.toInt ef1834; have z_ := w_lits; have zl_ := l_lits; omega) (by have z0_ := congrArg Int32.toInt z1824; have z1_ := congrArg Int32.toInt ef1825; have z2_ := congrArg Int32.toInt ef1826; have z3_ := congrArg Int32.toInt ef1827; have z4_ := congrArg Int32.toInt ef1828; have z5_ := congrArg Int32.toInt ef1829; have z6_ := congrArg Int32.toInt ef1830; have z7_ := congrArg Int32.toInt ef1831; have z8_ := congrArg Int32.toInt ef1832; have z9_ := congrArg Int32.toInt ef1833; have z10_ := congrArg Int32.toInt ef1834; have z_ := w_lits; have zl_ := l_lits; omega)) (fun h3471 hJ3471 k3471 m3471 => ?_)
              obtain ⟨m3471_0, m3471_1, m3471_2, m3471_3⟩ := m3471
              obtain ⟨f3472, ef3472⟩ : ∃ f_, h3471 63 27 = f_ := ⟨_, rfl⟩
              have bf3472 : B f3472 0 60 := by have z_ := hJ3471.1 63 27; rw [ef3472] at z_; exact z_
              have zf3472 := congrArg Int32.toInt ef3472
              have z3473 := congrArg Int32.toInt (rd_w k3471 z1824 rfl)
              have z3474 := congrArg Int32.toInt (rd_w k3471 ef1825 rfl)
              have z3475 := congrArg Int32.toInt (rd_w k3471 ef1826 rfl)
              have z3476 := congrArg Int32.toInt (rd_w k3471 ef1827 rfl)
              have z3477 := congrArg Int32.toInt (rd_w k3471 ef1828 rfl)
              have z3478 := congrArg Int32.toInt ef3472
              have z3479 := congrArg Int32.toInt (rd_w k3471 ef1830 rfl)
              have z3480 := congrArg Int32.toInt (rd_w k3471 ef1831 rfl)
              have z3481 := congrArg Int32.toInt (rd_w k3471 ef1832 rfl)
              have z3482 := congrArg Int32.toInt (rd_w k3471 ef1833 rfl)
              have z3483 := congrArg Int32.toInt (rd_w k3471 ef1834 rfl)
              refine ev_iconst (v := 0) rfl rfl (by decide) ?_
              refine ev_istore_n rfl rfl rfl rfl ?_
              dsimp only [List.set]
              refine ev_aload_n rfl rfl rfl ?_
              have z3484 := congrArg Int32.toInt (rd_w k3471 z1824 rfl)
              have z3485 := congrArg Int32.toInt (rd_w k3471 ef1825 rfl)
              have z3486 := congrArg Int32.toInt (rd_w k3471 ef1826 rfl)
              have z3487 := congrArg Int32.toInt (rd_w k3471 ef1827 rfl)
              have z3488 := congrArg Int32.toInt (rd_w k3471 ef1828 rfl)
              have z3489 := congrArg Int32.toInt ef3472
              have z3490 := congrArg Int32.toInt (rd_w k3471 ef1830 rfl)
              have z3491 := congrArg Int32.toInt (rd_w k3471 ef1831 rfl)
              have z3492 := congrArg Int32.toInt (rd_w k3471 ef1832 rfl)
              have z3493 := congrArg Int32.toInt (rd_w k3471 ef1833 rfl)
              have z3494 := congrArg Int32.toInt (rd_w k3471 ef1834 rfl)
              refine ev_V0K hJ3471 rfl rfl rfl lk_X10_251 vt_X10_next rfl rfl rfl rfl rfl (w_X10_next_63 L b h3471 hJ3471.1 (by have z0_ := congrArg Int32.toInt (rd_w k3471 z1824 rfl); have z1_ := congrArg Int32.toInt (rd_w k3471 ef1825 rfl); have z2_ := congrArg Int32.toInt (rd_w k3471 ef1826 rfl); have z3_ := congrArg Int32.toInt (rd_w k3471 ef1827 rfl); have z4_ := congrArg Int32.toInt (rd_w k3471 ef1828 rfl); have z5_ := congrArg Int32.toInt ef3472; have z6_ := congrArg Int32.toInt (rd_w k3471 ef1830 rfl); have z7_ := congrArg Int32.toInt (rd_w k3471 ef1831 rfl); have z8_ := congrArg Int32.toInt (rd_w k3471 ef1832 rfl); have z9_ := congrArg Int32.toInt (rd_w k3471 ef1833 rfl); have z10_ := congrArg Int32.toInt (rd_w k3471 ef1834 rfl); have z_ := w_lits; have zl_ := l_lits; omega)) (fun h3495 hJ3495 k3495 m3495 => ?_)
              obtain ⟨m3495_0, m3495_1, m3495_2, m3495_3, m3495_4⟩ := m3495
              obtain ⟨f3496, ef3496⟩ : ∃ f_, h3495 63 17 = f_ := ⟨_, rfl⟩
              have bf3496 : B f3496 0 160 := by have z_ := hJ3495.1 63 17; rw [ef3496] at z_; exact z_
              have zf3496 := congrArg Int32.toInt ef3496
              obtain ⟨f3497, ef3497⟩ : ∃ f_, h3495 63 21 = f_ := ⟨_, rfl⟩
              have bf3497 : B f3497 0 6 := by have z_ := hJ3495.1 63 21; rw [ef3497] at z_; exact z_
              have zf3497 := congrArg Int32.toInt ef3497
              obtain ⟨f3498, ef3498⟩ : ∃ f_, h3495 63 20 = f_ := ⟨_, rfl⟩
              have bf3498 : B f3498 (-2147483648) 2147483647 := by have z_ := hJ3495.1 63 20; rw [ef3498] at z_; exact z_
              have zf3498 := congrArg Int32.toInt ef3498
              obtain ⟨f3499, ef3499⟩ : ∃ f_, h3495 63 19 = f_ := ⟨_, rfl⟩
              have bf3499 : B f3499 0 3 := by have z_ := hJ3495.1 63 19; rw [ef3499] at z_; exact z_
              have zf3499 := congrArg Int32.toInt ef3499
              have z3500 := congrArg Int32.toInt (rd_w k3495 (rd_w k3471 z1824 rfl) rfl)
              have z3501 := congrArg Int32.toInt ef3496
              have z3502 := congrArg Int32.toInt ef3497
              have z3503 := congrArg Int32.toInt ef3498
              have z3504 := congrArg Int32.toInt ef3499
              have z3505 := congrArg Int32.toInt (rd_w k3495 ef3472 rfl)
              have z3506 := congrArg Int32.toInt (rd_w k3495 (rd_w k3471 ef1830 rfl) rfl)
              have z3507 := congrArg Int32.toInt (rd_w k3495 (rd_w k3471 ef1831 rfl) rfl)
              have z3508 := congrArg Int32.toInt (rd_w k3495 (rd_w k3471 ef1832 rfl) rfl)
              have z3509 := congrArg Int32.toInt (rd_w k3495 (rd_w k3471 ef1833 rfl) rfl)
              have z3510 := congrArg Int32.toInt (rd_w k3495 (rd_w k3471 ef1834 rfl) rfl)
              refine ev_goto rfl rfl ?_
              exact (ih19 0 w1819 h3495 ((by decide : B 0 0 0).mono (by decide) (by decide)) b1821 hJ3495 (rd_w k3495 (rd_w k3471 z1824 rfl) rfl) (by have z0_ := congrArg Int32.toInt (rd_w k3495 (rd_w k3471 z1824 rfl) rfl); have z1_ := congrArg Int32.toInt ef3496; have z2_ := congrArg Int32.toInt ef3497; have z3_ := congrArg Int32.toInt ef3498; have z4_ := congrArg Int32.toInt ef3499; have z5_ := congrArg Int32.toInt (rd_w k3495 ef3472 rfl); have z6_ := congrArg Int32.toInt (rd_w k3495 (rd_w k3471 ef1830 rfl) rfl); have z7_ := congrArg Int32.toInt (rd_w k3495 (rd_w k3471 ef1831 rfl) rfl); have z8_ := congrArg Int32.toInt (rd_w k3495 (rd_w k3471 ef1832 rfl) rfl); have z9_ := congrArg Int32.toInt (rd_w k3495 (rd_w k3471 ef1833 rfl) rfl); have z10_ := congrArg Int32.toInt (rd_w k3495 (rd_w k3471 ef1834 rfl) rfl); have z_ := w_lits; have zl_ := l_lits; omega) (by have z0_ := congrArg Int32.toInt (rd_w k3495 (rd_w k3471 z1824 rfl) rfl); have z1_ := congrArg Int32.toInt ef3496; have z2_ := congrArg Int32.toInt ef3497; have z3_ := congrArg Int32.toInt ef3498; have z4_ := congrArg Int32.toInt ef3499; have z5_ := congrArg Int32.toInt (rd_w k3495 ef3472 rfl); have z6_ := congrArg Int32.toInt (rd_w k3495 (rd_w k3471 ef1830 rfl) rfl); have z7_ := congrArg Int32.toInt (rd_w k3495 (rd_w k3471 ef1831 rfl) rfl); have z8_ := congrArg Int32.toInt (rd_w k3495 (rd_w k3471 ef1832 rfl) rfl); have z9_ := congrArg Int32.toInt (rd_w k3495 (rd_w k3471 ef1833 rfl) rfl); have z10_ := congrArg Int32.toInt (rd_w k3495 (rd_w k3471 ef1834 rfl) rfl); have z_ := w_lits; have zl_ := l_lits; omega) (by have z0_ := congrArg Int32.toInt (rd_w k3495 (rd_w k3471 z1824 rfl) rfl); have z1_ := congrArg Int32.toInt ef3496; have z2_ := congrArg Int32.toInt ef3497; have z3_ := congrArg Int32.toInt ef3498; have z4_ := congrArg Int32.toInt ef3499; have z5_ := congrArg Int32.toInt (rd_w k3495 ef3472 rfl); have z6_ := congrArg Int32.toInt (rd_w k3495 (rd_w k3471 ef1830 rfl) rfl); have z7_ := congrArg Int32.toInt (rd_w k3495 (rd_w k3471 ef1831 rfl) rfl); have z8_ := congrArg Int32.toInt (rd_w k3495 (rd_w k3471 ef1832 rfl) rfl); have z9_ := congrArg Int32.toInt (rd_w k3495 (rd_w k3471 ef1833 rfl) rfl); have z10_ := congrArg Int32.toInt (rd_w k3495 (rd_w k3471 ef1834 rfl) rfl); have z_ := w_lits; have zl_ := l_lits; omega) (by have z0_ := congrArg Int32.toInt (rd_w k3495 (rd_w k3471 z1824 rfl) rfl); have z1_ := congrArg Int32.toInt ef3496; have z2_ := congrArg Int32.toInt ef3497; have z3_ := congrArg Int32.toInt ef3498; have z4_ := congrArg Int32.toInt ef3499; have z5_ := congrArg Int32.toInt (rd_w k3495 ef3472 rfl); have z6_ := congrArg Int32.toInt (rd_w k3495 (rd_w k3471 ef1830 rfl) rfl); have z7_ := congrArg Int32.toInt (rd_w k3495 (rd_w k3471 ef1831 rfl) rfl); have z8_ := congrArg Int32.toInt (rd_w k3495 (rd_w k3471 ef1832 rfl) rfl); have z9_ := congrArg Int32.toInt (rd_w k3495 (rd_w k3471 ef1833 rfl) rfl); have z10_ := congrArg Int32.toInt (rd_w k3495 (rd_w k3471 ef1834 rfl) rfl); have z_ := w_lits; have zl_ := l_lits; omega) (by have z0_ := congrArg Int32.toInt (rd_w k3495 (rd_w k3471 z1824 rfl) rfl); have z1_ := congrArg Int32.toInt ef3496; have z2_ := congrArg Int32.toInt ef3497; have z3_ := congrArg Int32.toInt ef3498; have z4_ := congrArg Int32.toInt ef3499; have z5_ := congrArg Int32.toInt (rd_w k3495 ef3472 rfl); have z6_ := congrArg Int32.toInt (rd_w k3495 (rd_w k3471 ef1830 rfl) rfl); have z7_ := congrArg Int32.toInt (rd_w k3495 (rd_w k3471 ef1831 rfl) rfl); have z8_ := congrArg Int32.toInt (rd_w k3495 (rd_w k3471 ef1832 rfl) rfl); have z9_ := congrArg Int32.toInt (rd_w k3495 (rd_w k3471 ef1833 rfl) rfl); have z10_ := congrArg Int32.toInt (rd_w k3495 (rd_w k3471 ef1834 rfl) rfl); have z_ := w_lits; have zl_ := l_lits; omega) (by have z0_ := congrArg Int32.toInt (rd_w k3495 (rd_w k3471 z1824 rfl) rfl); have z1_ := congrArg Int32.toInt ef3496; have z2_ := congrArg Int32.toInt ef3497; have z3_ := congrArg Int32.toInt ef3498; have z4_ := congrArg Int32.toInt ef3499; have z5_ := congrArg Int32.toInt (rd_w k3495 ef3472 rfl); have z6_ := congrArg Int32.toInt (rd_w k3495 (rd_w k3471 ef1830 rfl) rfl); have z7_ := congrArg Int32.toInt (rd_w k3495 (rd_w k3471 ef1831 rfl) rfl); have z8_ := congrArg Int32.toInt (rd_w k3495 (rd_w k3471 ef1832 rfl) rfl); have z9_ := congrArg Int32.toInt (rd_w k3495 (rd_w k3471 ef1833 rfl) rfl); have z10_ := congrArg Int32.toInt (rd_w k3495 (rd_w k3471 ef1834 rfl) rfl); have z_ := w_lits; have zl_ := l_lits; omega) (mM_dec hm19 (by have z0_ := congrArg Int32.toInt (rd_w k3495 (rd_w k3471 z1824 rfl) rfl); have z1_ := congrArg Int32.toInt ef3496; have z2_ := congrArg Int32.toInt ef3497; have z3_ := congrArg Int32.toInt ef3498; have z4_ := congrArg Int32.toInt ef3499; have z5_ := congrArg Int32.toInt (rd_w k3495 ef3472 rfl); have z6_ := congrArg Int32.toInt (rd_w k3495 (rd_w k3471 ef1830 rfl) rfl); have z7_ := congrArg Int32.toInt (rd_w k3495 (rd_w k3471 ef1831 rfl) rfl); have z8_ := congrArg Int32.toInt (rd_w k3495 (rd_w k3471 ef1832 rfl) rfl); have z9_ := congrArg Int32.toInt (rd_w k3495 (rd_w k3471 ef1833 rfl) rfl); have z10_ := congrArg Int32.toInt (rd_w k3495 (rd_w k3471 ef1834 rfl) rfl); have z_ := w_lits; have zl_ := l_lits; omega) (by have z0_ := congrArg Int32.toInt (rd_w k3495 (rd_w k3471 z1824 rfl) rfl); have z1_ := congrArg Int32.toInt ef3496; have z2_ := congrArg Int32.toInt ef3497; have z3_ := congrArg Int32.toInt ef3498; have z4_ := congrArg Int32.toInt ef3499; have z5_ := congrArg Int32.toInt (rd_w k3495 ef3472 rfl); have z6_ := congrArg Int32.toInt (rd_w k3495 (rd_w k3471 ef1830 rfl) rfl); have z7_ := congrArg Int32.toInt (rd_w k3495 (rd_w k3471 ef1831 rfl) rfl); have z8_ := congrArg Int32.toInt (rd_w k3495 (rd_w k3471 ef1832 rfl) rfl); have z9_ := congrArg Int32.toInt (rd_w k3495 (rd_w k3471 ef1833 rfl) rfl); have z10_ := congrArg Int32.toInt (rd_w k3495 (rd_w k3471 ef1834 rfl) rfl); have z_ := w_lits; have zl_ := l_lits; omega) (by have z0_ := congrArg Int32.toInt (rd_w k3495 (rd_w k3471 z1824 rfl) rfl); have z1_ := congrArg Int32.toInt ef3496; have z2_ := congrArg Int32.toInt ef3497; have z3_ := congrArg Int32.toInt ef3498; have z4_ := congrArg Int32.toInt ef3499; have z5_ := congrArg Int32.toInt (rd_w k3495 ef3472 rfl); have z6_ := congrArg Int32.toInt (rd_w k3495 (rd_w k3471 ef1830 rfl) rfl); have z7_ := congrArg Int32.toInt (rd_w k3495 (rd_w k3471 ef1831 rfl) rfl); have z8_ := congrArg Int32.toInt (rd_w k3495 (rd_w k3471 ef1832 rfl) rfl); have z9_ := congrArg Int32.toInt (rd_w k3495 (rd_w k3471 ef1833 rfl) rfl); have z10_ := congrArg Int32.toInt (rd_w k3495 (rd_w k3471 ef1834 rfl) rfl); have z_ := w_lits; have zl_ := l_lits; omega)))
  exact (lp19_1817 330 1 1 h14 ((by decide : B 1 1 1).mono (by decide) (by decide)) (by decide : B 1 1 1) hJ14 (rd_o k14 (rd_o k13 (rd_o k12 ef1 rfl) rfl) rfl) (by have z0_ := congrArg Int32.toInt (rd_o k14 (rd_o k13 (rd_o k12 ef1 rfl) rfl) rfl); have z1_ := congrArg Int32.toInt (rd_o k14 (rd_o k13 (rd_o k12 ef2 rfl) rfl) rfl); have z2_ := congrArg Int32.toInt (rd_o k14 (rd_o k13 (rd_o k12 ef3 rfl) rfl) rfl); have z3_ := congrArg Int32.toInt (rd_o k14 (rd_o k13 (rd_o k12 ef4 rfl) rfl) rfl); have z4_ := congrArg Int32.toInt (rd_o k14 (rd_o k13 (rd_o k12 ef5 rfl) rfl) rfl); have z5_ := congrArg Int32.toInt (rd_o k14 (rd_s k13) rfl); have z6_ := congrArg Int32.toInt (rd_o k14 (rd_o k13 (rd_s k12) rfl) rfl); have z7_ := congrArg Int32.toInt (rd_o k14 (rd_o k13 (rd_o k12 ef8 rfl) rfl) rfl); have z8_ := congrArg Int32.toInt (rd_o k14 (rd_o k13 (rd_o k12 ef9 rfl) rfl) rfl); have z9_ := congrArg Int32.toInt (rd_o k14 (rd_o k13 (rd_o k12 ef10 rfl) rfl) rfl); have z10_ := congrArg Int32.toInt (rd_o k14 (rd_o k13 (rd_o k12 ef11 rfl) rfl) rfl); have z_ := w_lits; have zl_ := l_lits; omega) (by have z0_ := congrArg Int32.toInt (rd_o k14 (rd_o k13 (rd_o k12 ef1 rfl) rfl) rfl); have z1_ := congrArg Int32.toInt (rd_o k14 (rd_o k13 (rd_o k12 ef2 rfl) rfl) rfl); have z2_ := congrArg Int32.toInt (rd_o k14 (rd_o k13 (rd_o k12 ef3 rfl) rfl) rfl); have z3_ := congrArg Int32.toInt (rd_o k14 (rd_o k13 (rd_o k12 ef4 rfl) rfl) rfl); have z4_ := congrArg Int32.toInt (rd_o k14 (rd_o k13 (rd_o k12 ef5 rfl) rfl) rfl); have z5_ := congrArg Int32.toInt (rd_o k14 (rd_s k13) rfl); have z6_ := congrArg Int32.toInt (rd_o k14 (rd_o k13 (rd_s k12) rfl) rfl); have z7_ := congrArg Int32.toInt (rd_o k14 (rd_o k13 (rd_o k12 ef8 rfl) rfl) rfl); have z8_ := congrArg Int32.toInt (rd_o k14 (rd_o k13 (rd_o k12 ef9 rfl) rfl) rfl); have z9_ := congrArg Int32.toInt (rd_o k14 (rd_o k13 (rd_o k12 ef10 rfl) rfl) rfl); have z10_ := congrArg Int32.toInt (rd_o k14 (rd_o k13 (rd_o k12 ef11 rfl) rfl) rfl); have z_ := w_lits; have zl_ := l_lits; omega) (by have z0_ := congrArg Int32.toInt (rd_o k14 (rd_o k13 (rd_o k12 ef1 rfl) rfl) rfl); have z1_ := congrArg Int32.toInt (rd_o k14 (rd_o k13 (rd_o k12 ef2 rfl) rfl) rfl); have z2_ := congrArg Int32.toInt (rd_o k14 (rd_o k13 (rd_o k12 ef3 rfl) rfl) rfl); have z3_ := congrArg Int32.toInt (rd_o k14 (rd_o k13 (rd_o k12 ef4 rfl) rfl) rfl); have z4_ := congrArg Int32.toInt (rd_o k14 (rd_o k13 (rd_o k12 ef5 rfl) rfl) rfl); have z5_ := congrArg Int32.toInt (rd_o k14 (rd_s k13) rfl); have z6_ := congrArg Int32.toInt (rd_o k14 (rd_o k13 (rd_s k12) rfl) rfl); have z7_ := congrArg Int32.toInt (rd_o k14 (rd_o k13 (rd_o k12 ef8 rfl) rfl) rfl); have z8_ := congrArg Int32.toInt (rd_o k14 (rd_o k13 (rd_o k12 ef9 rfl) rfl) rfl); have z9_ := congrArg Int32.toInt (rd_o k14 (rd_o k13 (rd_o k12 ef10 rfl) rfl) rfl); have z10_ := congrArg Int32.toInt (rd_o k14 (rd_o k13 (rd_o k12 ef11 rfl) rfl) rfl); have z_ := w_lits; have zl_ := l_lits; omega) (by have z0_ := congrArg Int32.toInt (rd_o k14 (rd_o k13 (rd_o k12 ef1 rfl) rfl) rfl); have z1_ := congrArg Int32.toInt (rd_o k14 (rd_o k13 (rd_o k12 ef2 rfl) rfl) rfl); have z2_ := congrArg Int32.toInt (rd_o k14 (rd_o k13 (rd_o k12 ef3 rfl) rfl) rfl); have z3_ := congrArg Int32.toInt (rd_o k14 (rd_o k13 (rd_o k12 ef4 rfl) rfl) rfl); have z4_ := congrArg Int32.toInt (rd_o k14 (rd_o k13 (rd_o k12 ef5 rfl) rfl) rfl); have z5_ := congrArg Int32.toInt (rd_o k14 (rd_s k13) rfl); have z6_ := congrArg Int32.toInt (rd_o k14 (rd_o k13 (rd_s k12) rfl) rfl); have z7_ := congrArg Int32.toInt (rd_o k14 (rd_o k13 (rd_o k12 ef8 rfl) rfl) rfl); have z8_ := congrArg Int32.toInt (rd_o k14 (rd_o k13 (rd_o k12 ef9 rfl) rfl) rfl); have z9_ := congrArg Int32.toInt (rd_o k14 (rd_o k13 (rd_o k12 ef10 rfl) rfl) rfl); have z10_ := congrArg Int32.toInt (rd_o k14 (rd_o k13 (rd_o k12 ef11 rfl) rfl) rfl); have z_ := w_lits; have zl_ := l_lits; omega) (by have z0_ := congrArg Int32.toInt (rd_o k14 (rd_o k13 (rd_o k12 ef1 rfl) rfl) rfl); have z1_ := congrArg Int32.toInt (rd_o k14 (rd_o k13 (rd_o k12 ef2 rfl) rfl) rfl); have z2_ := congrArg Int32.toInt (rd_o k14 (rd_o k13 (rd_o k12 ef3 rfl) rfl) rfl); have z3_ := congrArg Int32.toInt (rd_o k14 (rd_o k13 (rd_o k12 ef4 rfl) rfl) rfl); have z4_ := congrArg Int32.toInt (rd_o k14 (rd_o k13 (rd_o k12 ef5 rfl) rfl) rfl); have z5_ := congrArg Int32.toInt (rd_o k14 (rd_s k13) rfl); have z6_ := congrArg Int32.toInt (rd_o k14 (rd_o k13 (rd_s k12) rfl) rfl); have z7_ := congrArg Int32.toInt (rd_o k14 (rd_o k13 (rd_o k12 ef8 rfl) rfl) rfl); have z8_ := congrArg Int32.toInt (rd_o k14 (rd_o k13 (rd_o k12 ef9 rfl) rfl) rfl); have z9_ := congrArg Int32.toInt (rd_o k14 (rd_o k13 (rd_o k12 ef10 rfl) rfl) rfl); have z10_ := congrArg Int32.toInt (rd_o k14 (rd_o k13 (rd_o k12 ef11 rfl) rfl) rfl); have z_ := w_lits; have zl_ := l_lits; omega) (by have z0_ := congrArg Int32.toInt (rd_o k14 (rd_o k13 (rd_o k12 ef1 rfl) rfl) rfl); have z1_ := congrArg Int32.toInt (rd_o k14 (rd_o k13 (rd_o k12 ef2 rfl) rfl) rfl); have z2_ := congrArg Int32.toInt (rd_o k14 (rd_o k13 (rd_o k12 ef3 rfl) rfl) rfl); have z3_ := congrArg Int32.toInt (rd_o k14 (rd_o k13 (rd_o k12 ef4 rfl) rfl) rfl); have z4_ := congrArg Int32.toInt (rd_o k14 (rd_o k13 (rd_o k12 ef5 rfl) rfl) rfl); have z5_ := congrArg Int32.toInt (rd_o k14 (rd_s k13) rfl); have z6_ := congrArg Int32.toInt (rd_o k14 (rd_o k13 (rd_s k12) rfl) rfl); have z7_ := congrArg Int32.toInt (rd_o k14 (rd_o k13 (rd_o k12 ef8 rfl) rfl) rfl); have z8_ := congrArg Int32.toInt (rd_o k14 (rd_o k13 (rd_o k12 ef9 rfl) rfl) rfl); have z9_ := congrArg Int32.toInt (rd_o k14 (rd_o k13 (rd_o k12 ef10 rfl) rfl) rfl); have z10_ := congrArg Int32.toInt (rd_o k14 (rd_o k13 (rd_o k12 ef11 rfl) rfl) rfl); have z_ := w_lits; have zl_ := l_lits; omega) (mM_top _ _ _ (hJ14.1 63 17)))

set_option maxRecDepth 100000 in
set_option maxHeartbeats 4000000 in
theorem w_X10_tune_63 (L : Nat) (b : Bool) (h : Hp) (hB : Bx h)  : EvJ mi_X10_tune [.ref 63] (G0 L b) h (fun r : Int32 => B r (-2147483648) 2147483647) [(63, 16), (63, 17), (63, 18), (63, 19), (63, 20), (63, 21), (63, 22), (63, 23), (63, 27), (63, 28), (63, 31), (73, 999), (74, 999), (75, 999), (76, 999), (77, 999)] := by
  refine EvM.of2 (lo := [some (.ref 63), none]) pf_X10_tune ok_X10_tune rfl rfl ?_
  have hJ0 : JW [(63, 16), (63, 17), (63, 18), (63, 19), (63, 20), (63, 21), (63, 22), (63, 23), (63, 27), (63, 28), (63, 31), (73, 999), (74, 999), (75, 999), (76, 999), (77, 999)] h h := JW.refl hB
  obtain ⟨f1, ef1⟩ : ∃ f_, h 63 16 = f_ := ⟨_, rfl⟩
  have bf1 : B f1 0 160 := by have z_ := hJ0.1 63 16; rw [ef1] at z_; exact z_
  have zf1 := congrArg Int32.toInt ef1
  obtain ⟨f2, ef2⟩ : ∃ f_, h 63 17 = f_ := ⟨_, rfl⟩
  have bf2 : B f2 0 160 := by have z_ := hJ0.1 63 17; rw [ef2] at z_; exact z_
  have zf2 := congrArg Int32.toInt ef2
  obtain ⟨f3, ef3⟩ : ∃ f_, h 63 21 = f_ := ⟨_, rfl⟩
  have bf3 : B f3 0 6 := by have z_ := hJ0.1 63 21; rw [ef3] at z_; exact z_
  have zf3 := congrArg Int32.toInt ef3
  obtain ⟨f4, ef4⟩ : ∃ f_, h 63 20 = f_ := ⟨_, rfl⟩
  have bf4 : B f4 (-2147483648) 2147483647 := by have z_ := hJ0.1 63 20; rw [ef4] at z_; exact z_
  have zf4 := congrArg Int32.toInt ef4
  obtain ⟨f5, ef5⟩ : ∃ f_, h 63 19 = f_ := ⟨_, rfl⟩
  have bf5 : B f5 0 3 := by have z_ := hJ0.1 63 19; rw [ef5] at z_; exact z_
  have zf5 := congrArg Int32.toInt ef5
  obtain ⟨f6, ef6⟩ : ∃ f_, h 63 27 = f_ := ⟨_, rfl⟩
  have bf6 : B f6 0 60 := by have z_ := hJ0.1 63 27; rw [ef6] at z_; exact z_
  have zf6 := congrArg Int32.toInt ef6
  refine ev_aload_n rfl rfl rfl ?_
  refine ev_getW (l := 0) (u := 6) hJ0.1 rfl rfl rfl fl_X10_257 rfl rfl rfl (fun v7 b7 e7 => ?_)
  refine ev_bipush (v := 6) rfl rfl (by decide) ?_
  refine ev_icmp_ne rfl rfl (fun c8 => ?_) (fun c8 => ?_)
  · have b9 : B v7 0 5 := R_neU b7 (by decide : B 6 6 6) c8 (by decide)
    have z10 := w_ne c8
    rw [show (6 : Int32).toInt = 6 from by decide] at z10
    refine ev_aload_n rfl rfl rfl ?_
    refine ev_iconst (v := 0) rfl rfl (by decide) ?_
    refine ev_putW (l := 0) (u := 6) hJ0 rfl (by decide : B 0 0 0) (by decide) (by decide) rfl rfl rfl fl_X10_191 rfl rfl rfl rfl rfl (fun h13 hJ13 k13 => ?_)
    refine ev_aload_n rfl rfl rfl ?_
    refine ev_iconst (v := 0) rfl rfl (by decide) ?_
    refine ev_putW (l := 0) (u := 160) hJ13 rfl (by decide : B 0 0 0) (by decide) (by decide) rfl rfl rfl fl_X10_210 rfl rfl rfl rfl rfl (fun h14 hJ14 k14 => ?_)
    refine ev_aload_n rfl rfl rfl ?_
    have z15 := congrArg Int32.toInt (rd_o k14 (rd_o k13 ef1 rfl) rfl)
    have z16 := congrArg Int32.toInt (rd_s k14)
    have z17 := congrArg Int32.toInt (rd_o k14 (rd_s k13) rfl)
    have z18 := congrArg Int32.toInt (rd_o k14 (rd_o k13 ef4 rfl) rfl)
    have z19 := congrArg Int32.toInt (rd_o k14 (rd_o k13 ef5 rfl) rfl)
    have z20 := congrArg Int32.toInt (rd_o k14 (rd_o k13 ef6 rfl) rfl)
    refine ev_V0K hJ14 rfl rfl rfl lk_X10_251 vt_X10_next rfl rfl rfl rfl rfl (w_X10_next_63 L b h14 hJ14.1 (by have z0_ := congrArg Int32.toInt (rd_o k14 (rd_o k13 ef1 rfl) rfl); have z1_ := congrArg Int32.toInt (rd_s k14); have z2_ := congrArg Int32.toInt (rd_o k14 (rd_s k13) rfl); have z3_ := congrArg Int32.toInt (rd_o k14 (rd_o k13 ef4 rfl) rfl); have z4_ := congrArg Int32.toInt (rd_o k14 (rd_o k13 ef5 rfl) rfl); have z5_ := congrArg Int32.toInt (rd_o k14 (rd_o k13 ef6 rfl) rfl); have z_ := w_lits; have zl_ := l_lits; omega)) (fun h21 hJ21 k21 m21 => ?_)
    obtain ⟨m21_0, m21_1, m21_2, m21_3, m21_4⟩ := m21
    obtain ⟨f22, ef22⟩ : ∃ f_, h21 63 17 = f_ := ⟨_, rfl⟩
    have bf22 : B f22 0 160 := by have z_ := hJ21.1 63 17; rw [ef22] at z_; exact z_
    have zf22 := congrArg Int32.toInt ef22
    obtain ⟨f23, ef23⟩ : ∃ f_, h21 63 21 = f_ := ⟨_, rfl⟩
    have bf23 : B f23 0 6 := by have z_ := hJ21.1 63 21; rw [ef23] at z_; exact z_
    have zf23 := congrArg Int32.toInt ef23
    obtain ⟨f24, ef24⟩ : ∃ f_, h21 63 20 = f_ := ⟨_, rfl⟩
    have bf24 : B f24 (-2147483648) 2147483647 := by have z_ := hJ21.1 63 20; rw [ef24] at z_; exact z_
    have zf24 := congrArg Int32.toInt ef24
    obtain ⟨f25, ef25⟩ : ∃ f_, h21 63 19 = f_ := ⟨_, rfl⟩
    have bf25 : B f25 0 3 := by have z_ := hJ21.1 63 19; rw [ef25] at z_; exact z_
    have zf25 := congrArg Int32.toInt ef25
    have z26 := congrArg Int32.toInt (rd_w k21 (rd_o k14 (rd_o k13 ef1 rfl) rfl) rfl)
    have z27 := congrArg Int32.toInt ef22
    have z28 := congrArg Int32.toInt ef23
    have z29 := congrArg Int32.toInt ef24
    have z30 := congrArg Int32.toInt ef25
    have z31 := congrArg Int32.toInt (rd_w k21 (rd_o k14 (rd_o k13 ef6 rfl) rfl) rfl)
    refine ev_aload_n rfl rfl rfl ?_
    have z32 := congrArg Int32.toInt (rd_w k21 (rd_o k14 (rd_o k13 ef1 rfl) rfl) rfl)
    have z33 := congrArg Int32.toInt ef22
    have z34 := congrArg Int32.toInt ef23
    have z35 := congrArg Int32.toInt ef24
    have z36 := congrArg Int32.toInt ef25
    have z37 := congrArg Int32.toInt (rd_w k21 (rd_o k14 (rd_o k13 ef6 rfl) rfl) rfl)
    refine ev_V0K hJ21 rfl rfl rfl lk_X10_260 vt_X10_readTune rfl rfl rfl rfl rfl (w_X10_readTune_63 L b h21 hJ21.1 (by have z0_ := congrArg Int32.toInt (rd_w k21 (rd_o k14 (rd_o k13 ef1 rfl) rfl) rfl); have z1_ := congrArg Int32.toInt ef22; have z2_ := congrArg Int32.toInt ef23; have z3_ := congrArg Int32.toInt ef24; have z4_ := congrArg Int32.toInt ef25; have z5_ := congrArg Int32.toInt (rd_w k21 (rd_o k14 (rd_o k13 ef6 rfl) rfl) rfl); have z_ := w_lits; have zl_ := l_lits; omega) (by have z0_ := congrArg Int32.toInt (rd_w k21 (rd_o k14 (rd_o k13 ef1 rfl) rfl) rfl); have z1_ := congrArg Int32.toInt ef22; have z2_ := congrArg Int32.toInt ef23; have z3_ := congrArg Int32.toInt ef24; have z4_ := congrArg Int32.toInt ef25; have z5_ := congrArg Int32.toInt (rd_w k21 (rd_o k14 (rd_o k13 ef6 rfl) rfl) rfl); have z_ := w_lits; have zl_ := l_lits; omega)) (fun h38 hJ38 k38 m38 => ?_)
    obtain ⟨f39, ef39⟩ : ∃ f_, h38 63 17 = f_ := ⟨_, rfl⟩
    have bf39 : B f39 0 160 := by have z_ := hJ38.1 63 17; rw [ef39] at z_; exact z_
    have zf39 := congrArg Int32.toInt ef39
    obtain ⟨f40, ef40⟩ : ∃ f_, h38 63 21 = f_ := ⟨_, rfl⟩
    have bf40 : B f40 0 6 := by have z_ := hJ38.1 63 21; rw [ef40] at z_; exact z_
    have zf40 := congrArg Int32.toInt ef40
    obtain ⟨f41, ef41⟩ : ∃ f_, h38 63 20 = f_ := ⟨_, rfl⟩
    have bf41 : B f41 (-2147483648) 2147483647 := by have z_ := hJ38.1 63 20; rw [ef41] at z_; exact z_
    have zf41 := congrArg Int32.toInt ef41
    obtain ⟨f42, ef42⟩ : ∃ f_, h38 63 19 = f_ := ⟨_, rfl⟩
    have bf42 : B f42 0 3 := by have z_ := hJ38.1 63 19; rw [ef42] at z_; exact z_
    have zf42 := congrArg Int32.toInt ef42
    obtain ⟨f43, ef43⟩ : ∃ f_, h38 63 27 = f_ := ⟨_, rfl⟩
    have bf43 : B f43 0 60 := by have z_ := hJ38.1 63 27; rw [ef43] at z_; exact z_
    have zf43 := congrArg Int32.toInt ef43
    have z44 := congrArg Int32.toInt (rd_w k38 (rd_w k21 (rd_o k14 (rd_o k13 ef1 rfl) rfl) rfl) rfl)
    have z45 := congrArg Int32.toInt ef39
    have z46 := congrArg Int32.toInt ef40
    have z47 := congrArg Int32.toInt ef41
    have z48 := congrArg Int32.toInt ef42
    have z49 := congrArg Int32.toInt ef43
    refine ev_aload_n rfl rfl rfl ?_
    refine ev_iconst (v := 0) rfl rfl (by decide) ?_
    refine ev_putW (l := 0) (u := 160) hJ38 rfl (by decide : B 0 0 0) (by decide) (by decide) rfl rfl rfl fl_X10_186 rfl rfl rfl rfl rfl (fun h50 hJ50 k50 => ?_)
    refine ev_aload_n rfl rfl rfl ?_
    refine ev_getV (v := f40) rfl rfl fl_X10_191 rfl rfl rfl (rd_o k50 ef40 rfl) ?_
    refine ev_if_le rfl rfl (fun c51 => ?_) (fun c51 => ?_)
    · have b52 : B f40 0 0 := R_leX bf40 (by decide : B 0 0 0) c51 (by decide)
      have z53 := w_le c51
      rw [show (0 : Int32).toInt = 0 from by decide] at z53
      refine ev_iconst (v := 0) rfl rfl (by decide) ?_
      refine ev_istore_n rfl rfl rfl rfl ?_
      dsimp only [List.set]
      have lp52_184 : ∀ (n : Nat) (w185 : Int32) (h187 : Hp), B w185 0 60 → JW [(63, 16), (63, 17), (63, 18), (63, 19), (63, 20), (63, 21), (63, 22), (63, 23), (63, 27), (63, 28), (63, 31), (73, 999), (74, 999), (75, 999), (76, 999), (77, 999)] h h187 → (h187 63 16 = 0) → (h187 63 23 = v7) → (h187 63 17 = f39) → (h187 63 21 = f40) → (h187 63 20 = f41) → (h187 63 19 = f42) → (h187 63 27 = f43) → 60 + 1 - w185.toInt ≤ (n : Int) → EvQ mi_X10_tune 52 [some (.ref 63), some (.int w185)] [] (G0 L b) h187 0 0 (QJ (fun r : Int32 => B r (-2147483648) 2147483647) [(63, 16), (63, 17), (63, 18), (63, 19), (63, 20), (63, 21), (63, 22), (63, 23), (63, 27), (63, 28), (63, 31), (73, 999), (74, 999), (75, 999), (76, 999), (77, 999)] (G0 L b) h) := by
        intro n
        induction n with
        | zero =>
          intro w185 h187 b186 hJ188 z189 z190 z191 z192 z193 z194 z195 hm52
          exact absurd hm52 (L_zero b186 (by decide))
        | succ n ih52 =>
          intro w185 h187 b186 hJ188 z189 z190 z191 z192 z193 z194 z195 hm52
          have z196 := congrArg Int32.toInt z189
          have z197 := congrArg Int32.toInt z191
          have z198 := congrArg Int32.toInt z192
          have z199 := congrArg Int32.toInt z193
          have z200 := congrArg Int32.toInt z194
          have z201 := congrArg Int32.toInt z195
          refine ev_iload_n rfl rfl rfl ?_
          refine ev_aload_n rfl rfl rfl ?_
          refine ev_getV (v := f43) rfl rfl fl_X10_234 rfl rfl rfl z195 ?_
          refine ev_icmp_ge rfl rfl (fun c202 => ?_) (fun c202 => ?_)
          · have z203 := w_le c202
            refine ev_aload_n rfl rfl rfl ?_
            refine ev_getR (y := 73) rfl rfl fl_X10_51 rfl rfl rfl rfl ?_
            refine ev_aload_n rfl rfl rfl ?_
            refine ev_getV (v := v7) rfl rfl fl_X10_257 rfl rfl rfl z190 ?_
            refine ev_aload_n rfl rfl rfl ?_
            refine ev_getV (v := f43) rfl rfl fl_X10_234 rfl rfl rfl z195 ?_
            have b207 : B f43 0 24 := ⟨(by have z0_ := congrArg Int32.toInt z189; have z1_ := congrArg Int32.toInt z191; have z2_ := congrArg Int32.toInt z192; have z3_ := congrArg Int32.toInt z193; have z4_ := congrArg Int32.toInt z194; have z5_ := congrArg Int32.toInt z195; have z_ := w_lits; have zl_ := l_lits; omega), (by have z0_ := congrArg Int32.toInt z189; have z1_ := congrArg Int32.toInt z191; have z2_ := congrArg Int32.toInt z192; have z3_ := congrArg Int32.toInt z193; have z4_ := congrArg Int32.toInt z194; have z5_ := congrArg Int32.toInt z195; have z_ := w_lits; have zl_ := l_lits; omega)⟩
            refine ev_iasW (n := 6) (l := 0) (u := 24) hJ188 b9 (by decide) (by decide) (fun _ => rfl) b207 (by decide) (by decide) (fun _ => rfl) rfl rfl rfl rfl (fun h208 hJ208 k208 => ?_)
            refine ev_aload_n rfl rfl rfl ?_
            refine ev_dup rfl rfl rfl ?_
            refine ev_getV (v := v7) rfl rfl fl_X10_257 rfl rfl rfl (rd_a k208 z190 rfl) ?_
            refine ev_iconst (v := 1) rfl rfl (by decide) ?_
            refine ev_iaddB (l := 1) (u := 6) rfl rfl b9 (by decide : B 1 1 1) (by decide) (by decide) (by decide) (by decide) (fun v209 b209 e209 g209 => ?_)
            have e209x := e209; rw [show (1 : Int32).toInt = 1 from by decide] at e209x
            refine ev_putW (l := 0) (u := 6) hJ208 rfl b209 (by decide) (by decide) rfl rfl rfl fl_X10_257 rfl rfl rfl rfl rfl (fun h210 hJ210 k210 => ?_)
            refine ev_aload_n rfl rfl rfl ?_
            refine ev_getV (v := v209) rfl rfl fl_X10_257 rfl rfl rfl (rd_s k210) ?_
            refine ev_iconst (v := 1) rfl rfl (by decide) ?_
            refine ev_isubB (l := 0) (u := 5) rfl rfl b209 (by decide : B 1 1 1) (by decide) (by decide) (by decide) (by decide) (fun v211 b211 e211 g211 => ?_)
            have e211x := e211; rw [show (1 : Int32).toInt = 1 from by decide] at e211x
            exact ev_iret rfl rfl rfl ⟨⟨_, rfl, (b211.mono (by decide) (by decide))⟩, rfl, hJ210⟩
          · have b204 : B w185 0 59 := R_ltX b186 bf43 (Int32.not_le.mp c202) (by decide)
            have b205 : B f43 1 60 := R_ltY b186 bf43 (Int32.not_le.mp c202) (by decide)
            have z206 := w_lt (Int32.not_le.mp c202)
            refine ev_aload_n rfl rfl rfl ?_
            refine ev_getR (y := 74) rfl rfl fl_X10_54 rfl rfl rfl rfl ?_
            refine ev_bipush (v := 24) rfl rfl (by decide) ?_
            refine ev_aload_n rfl rfl rfl ?_
            refine ev_getV (v := v7) rfl rfl fl_X10_257 rfl rfl rfl z190 ?_
            refine ev_imulB (l := 0) (u := 120) rfl rfl (by decide : B 24 24 24) b9 (by decide) (by decide) (by decide) (by decide) (by decide) (fun v212 b212 e212 g212 => ?_)
            rw [show (24 : Int32).toInt = 24 from by decide] at e212
            refine ev_iload_n rfl rfl rfl ?_
            refine ev_iaddB (l := 0) (u := 179) rfl rfl b212 b204 (by decide) (by decide) (by decide) (by decide) (fun v213 b213 e213 g213 => ?_)
            refine ev_aload_n rfl rfl rfl ?_
            refine ev_getR (y := 75) rfl rfl fl_X10_57 rfl rfl rfl rfl ?_
            refine ev_iload_n rfl rfl rfl ?_
            refine ev_ialW (n := 64) (l := 0) (u := 4095) hJ188.1 b204 (by decide) (by decide) (fun _ => rfl) rfl rfl rfl (fun v214 b214 e214 => ?_)
            have b215 : B v213 0 143 := ⟨(by have z0_ := congrArg Int32.toInt z189; have z1_ := congrArg Int32.toInt z191; have z2_ := congrArg Int32.toInt z192; have z3_ := congrArg Int32.toInt z193; have z4_ := congrArg Int32.toInt z194; have z5_ := congrArg Int32.toInt z195; have z_ := w_lits; have zl_ := l_lits; omega), (by have z0_ := congrArg Int32.toInt z189; have z1_ := congrArg Int32.toInt z191; have z2_ := congrArg Int32.toInt z192; have z3_ := congrArg Int32.toInt z193; have z4_ := congrArg Int32.toInt z194; have z5_ := congrArg Int32.toInt z195; have z_ := w_lits; have zl_ := l_lits; omega)⟩
            refine ev_iasW (n := 144) (l := 0) (u := 4095) hJ188 b215 (by decide) (by decide) (fun _ => rfl) b214 (by decide) (by decide) (fun _ => rfl) rfl rfl rfl rfl (fun h216 hJ216 k216 => ?_)
            refine ev_iincB (y := 1) (l := 1) (u := 60) rfl rfl rfl (by decide) rfl rfl b204 (by decide : B 1 1 1) (by decide) (by decide) (by decide) (by decide) (fun v217 b217 e217 => ?_)
            dsimp only [List.set]
            have e217x := e217; rw [show (1 : Int32).toInt = 1 from by decide] at e217x
            refine ev_goto rfl rfl ?_
            exact (ih52 v217 h216 (b217.mono (by decide) (by decide)) hJ216 (rd_a k216 z189 rfl) (rd_a k216 z190 rfl) (rd_a k216 z191 rfl) (rd_a k216 z192 rfl) (rd_a k216 z193 rfl) (rd_a k216 z194 rfl) (rd_a k216 z195 rfl) (L_up hm52 (e_p1 e217 (by decide))))
      exact (lp52_184 61 0 h50 ((by decide : B 0 0 0).mono (by decide) (by decide)) hJ50 (rd_s k50) (rd_o k50 (rd_w k38 (rd_w k21 (rd_o k14 (rd_o k13 e7 rfl) rfl) rfl) rfl) rfl) (rd_o k50 ef39 rfl) (rd_o k50 ef40 rfl) (rd_o k50 ef41 rfl) (rd_o k50 ef42 rfl) (rd_o k50 ef43 rfl) (L_init (by decide : B 0 0 0) (by decide)))
    · have b54 : B f40 1 6 := R_ltY (by decide : B 0 0 0) bf40 (Int32.not_le.mp c51) (by decide)
      have z55 := w_lt (Int32.not_le.mp c51)
      rw [show (0 : Int32).toInt = 0 from by decide] at z55
      refine ev_bipush (v := (-10)) rfl rfl (by decide) ?_
      refine ev_aload_n rfl rfl rfl ?_
      refine ev_getW (l := (-2147483648)) (u := 2147483647) hJ50.1 rfl rfl rfl fl_X10_194 rfl rfl rfl (fun v218 b218 e218 => ?_)
      refine ev_isubA rfl rfl (fun v219 g219 => ?_)
      exact ev_iret rfl rfl rfl ⟨⟨_, rfl, (B.any v219)⟩, rfl, hJ50⟩
  · have b11 : B v7 6 6 := R_eqX b7 (by decide : B 6 6 6) c8
    have z12 := congrArg Int32.toInt c8
    rw [show (6 : Int32).toInt = 6 from by decide] at z12
    refine ev_bipush (v := (-3)) rfl rfl (by decide) ?_
    exact ev_iret rfl rfl rfl ⟨⟨_, rfl, ((by decide : B (-3) (-3) (-3)).mono (by decide) (by decide))⟩, rfl, hJ0⟩
