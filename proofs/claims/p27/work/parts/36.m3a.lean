set_option maxRecDepth 100000 in
set_option maxHeartbeats 4000000 in
theorem w_X10_look_63 (L : Nat) (b : Bool) (h : Hp) (hB : Bx h) (a0 : Int32) (p0 : B a0 0 160) (t : Int32) (rt : h 72 a0.toNatClampNeg = t) : EvP mi_X10_look [.ref 63, .int a0] (G0 L b) h (fun r : Int32 => B r (-1) 255 ∧ (a0.toInt < (h 63 16).toInt → r.toInt = t.toInt) ∧ ((h 63 16).toInt ≤ a0.toInt → r.toInt = -1)) := by
  refine EvM.of2 (lo := [some (.ref 63), some (.int a0)]) pf_X10_look ok_X10_look rfl rfl ?_
  have bt : B t 0 255 := by have z_ := hB 72 a0.toNatClampNeg; rw [rt] at z_; exact z_
  obtain ⟨f1, ef1⟩ : ∃ f_, h 63 16 = f_ := ⟨_, rfl⟩
  have bf1 : B f1 0 160 := by have z_ := hB 63 16; rw [ef1] at z_; exact z_
  have zf1 := congrArg Int32.toInt ef1
  refine ev_iload_n rfl rfl rfl ?_
  refine ev_aload_n rfl rfl rfl ?_
  refine ev_getV (v := f1) rfl rfl fl_X10_186 rfl rfl rfl ef1 ?_
  refine ev_icmp_ge rfl rfl (fun c2 => ?_) (fun c2 => ?_)
  · have z3 := w_le c2
    refine ev_iconst (v := (-1)) rfl rfl (by decide) ?_
    exact ev_iret rfl rfl rfl ⟨⟨_, rfl, ⟨((by decide : B (-1) (-1) (-1)).mono (by decide) (by decide)), (by have z0_ := congrArg Int32.toInt ef1; have z_ := w_lits; have zl_ := l_lits; omega), (by have z0_ := congrArg Int32.toInt ef1; have z_ := w_lits; have zl_ := l_lits; omega)⟩⟩, rfl, rfl⟩
  · have b4 : B a0 0 159 := R_ltX p0 bf1 (Int32.not_le.mp c2) (by decide)
    have b5 : B f1 1 160 := R_ltY p0 bf1 (Int32.not_le.mp c2) (by decide)
    have z6 := w_lt (Int32.not_le.mp c2)
    refine ev_aload_n rfl rfl rfl ?_
    refine ev_getR (y := 72) rfl rfl fl_X10_48 rfl rfl rfl rfl ?_
    refine ev_iload_n rfl rfl rfl ?_
    refine ev_iadV (v := t) rfl rfl rfl (b4.vp (by decide) (by decide)) rfl rt ?_
    refine ev_goto rfl rfl ?_
    exact ev_iret rfl rfl rfl ⟨⟨_, rfl, ⟨(bt.mono (by decide) (by decide)), (by have z0_ := congrArg Int32.toInt ef1; have z_ := w_lits; have zl_ := l_lits; omega), (by have z0_ := congrArg Int32.toInt ef1; have z_ := w_lits; have zl_ := l_lits; omega)⟩⟩, rfl, rfl⟩

set_option maxRecDepth 100000 in
set_option maxHeartbeats 4000000 in
theorem w_X10_fails_63 (L : Nat) (b : Bool) (h : Hp) (hB : Bx h) (a0 : Int32) (p0 : B a0 1 6) (a1 : Int32) : EvK mi_X10_fails [.ref 63, .int a0, .int a1] (G0 L b) h (fun z : Hp => (¬ (z 63 21).toInt = 0)) [(63, 21), (63, 22)] := by
  refine EvM.of2 (lo := [some (.ref 63), some (.int a0), some (.int a1)]) pf_X10_fails ok_X10_fails rfl rfl ?_
  have hJ0 : JW [(63, 21), (63, 22)] h h := JW.refl hB
  obtain ⟨f1, ef1⟩ : ∃ f_, h 63 21 = f_ := ⟨_, rfl⟩
  have bf1 : B f1 0 6 := by have z_ := hJ0.1 63 21; rw [ef1] at z_; exact z_
  have zf1 := congrArg Int32.toInt ef1
  refine ev_aload_n rfl rfl rfl ?_
  refine ev_getV (v := f1) rfl rfl fl_X10_191 rfl rfl rfl ef1 ?_
  refine ev_if_ne rfl rfl (fun c2 => ?_) (fun c2 => ?_)
  · have b3 : B f1 1 6 := R_neL bf1 (by decide : B 0 0 0) c2 (by decide)
    have z4 := w_ne c2
    rw [show (0 : Int32).toInt = 0 from by decide] at z4
    exact ev_vret rfl rfl trivial ⟨rfl, rfl, hJ0, (by have z0_ := congrArg Int32.toInt ef1; have z_ := w_lits; have zl_ := l_lits; omega)⟩
  · have b5 : B f1 0 0 := R_eqX bf1 (by decide : B 0 0 0) c2
    have z6 := congrArg Int32.toInt c2
    rw [show (0 : Int32).toInt = 0 from by decide] at z6
    refine ev_aload_n rfl rfl rfl ?_
    refine ev_iload_n rfl rfl rfl ?_
    refine ev_putW (l := 0) (u := 6) hJ0 rfl p0 (by decide) (by decide) rfl rfl rfl fl_X10_191 rfl rfl rfl rfl rfl (fun h7 hJ7 k7 => ?_)
    refine ev_aload_n rfl rfl rfl ?_
    refine ev_iload_n rfl rfl rfl ?_
    refine ev_putW (l := (-2147483648)) (u := 2147483647) hJ7 rfl (B.any a1) (by decide) (by decide) rfl rfl rfl fl_X10_194 rfl rfl rfl rfl rfl (fun h8 hJ8 k8 => ?_)
    exact ev_vret rfl rfl trivial ⟨rfl, rfl, hJ8, (by have z0_ := congrArg Int32.toInt (rd_o k8 (rd_s k7) rfl); have z_ := w_lits; have zl_ := l_lits; omega)⟩

set_option maxRecDepth 100000 in
set_option maxHeartbeats 4000000 in
theorem w_X10_wants_63 (L : Nat) (b : Bool) (h : Hp) (hB : Bx h) (a0 : Int32) (p0 : B a0 0 1) (a1 : Int32) (p1 : B a1 1 6) : EvK mi_X10_wants [.ref 63, .int a0, .int a1] (G0 L b) h (fun z : Hp => ((z 63 21).toInt = 0 → (h 63 21).toInt = 0 ∧ ¬ a0.toInt = 0)) [(63, 21), (63, 22)] := by
  refine EvM.of2 (lo := [some (.ref 63), some (.int a0), some (.int a1)]) pf_X10_wants ok_X10_wants rfl rfl ?_
  have hJ0 : JW [(63, 21), (63, 22)] h h := JW.refl hB
  obtain ⟨f1, ef1⟩ : ∃ f_, h 63 21 = f_ := ⟨_, rfl⟩
  have bf1 : B f1 0 6 := by have z_ := hJ0.1 63 21; rw [ef1] at z_; exact z_
  have zf1 := congrArg Int32.toInt ef1
  refine ev_iload_n rfl rfl rfl ?_
  refine ev_if_ne rfl rfl (fun c2 => ?_) (fun c2 => ?_)
  · have b3 : B a0 1 1 := R_neL p0 (by decide : B 0 0 0) c2 (by decide)
    have z4 := w_ne c2
    rw [show (0 : Int32).toInt = 0 from by decide] at z4
    exact ev_vret rfl rfl trivial ⟨rfl, rfl, hJ0, (by have z0_ := congrArg Int32.toInt ef1; have z_ := w_lits; have zl_ := l_lits; omega)⟩
  · have b5 : B a0 0 0 := R_eqX p0 (by decide : B 0 0 0) c2
    have z6 := congrArg Int32.toInt c2
    rw [show (0 : Int32).toInt = 0 from by decide] at z6
    refine ev_aload_n rfl rfl rfl ?_
    refine ev_iload_n rfl rfl rfl ?_
    refine ev_aload_n rfl rfl rfl ?_
    refine ev_getW (l := (-2147483648)) (u := 2147483647) hJ0.1 rfl rfl rfl fl_X10_197 rfl rfl rfl (fun v7 b7 e7 => ?_)
    have z8 := congrArg Int32.toInt ef1
    refine ev_V2K hJ0 rfl rfl rfl lk_X10_200 vt_X10_fails rfl rfl rfl rfl rfl (w_X10_fails_63 L b h hJ0.1 a1 p1 v7) (fun h9 hJ9 k9 m9 => ?_)
    obtain ⟨f10, ef10⟩ : ∃ f_, h9 63 21 = f_ := ⟨_, rfl⟩
    have bf10 : B f10 0 6 := by have z_ := hJ9.1 63 21; rw [ef10] at z_; exact z_
    have zf10 := congrArg Int32.toInt ef10
    have z11 := congrArg Int32.toInt ef10
    exact ev_vret rfl rfl trivial ⟨rfl, rfl, hJ9, (by have z0_ := congrArg Int32.toInt ef10; have z_ := w_lits; have zl_ := l_lits; omega)⟩

set_option maxRecDepth 100000 in
set_option maxHeartbeats 4000000 in
theorem w_X10_readChord_63 (L : Nat) (b : Bool) (h : Hp) (hB : Bx h) (t : Int32) (rt : h 72 (h 63 17).toNatClampNeg = t) (rb : B t 97 122) (rp0 : (h 63 17).toInt < (h 63 16).toInt) (q0 : B (h 63 21) 0 0) : EvK mi_X10_readChord [.ref 63] (G0 L b) h (fun z : Hp => ((z 63 17).toInt ≤ (z 63 16).toInt) ∧ ((h 63 17).toInt + 1 ≤ (z 63 17).toInt) ∧ ((z 63 19).toInt = 1) ∧ (0 ≤ (z 63 20).toInt ∧ (z 63 20).toInt ≤ 4095)) [(63, 17), (63, 19), (63, 20), (63, 21), (63, 22)] := by
  refine EvM.of2 (lo := [some (.ref 63), none]) pf_X10_readChord ok_X10_readChord rfl rfl ?_
  have hJ0 : JW [(63, 17), (63, 19), (63, 20), (63, 21), (63, 22)] h h := JW.refl hB
  obtain ⟨f0, ef0⟩ : ∃ f_, h 63 21 = f_ := ⟨_, rfl⟩
  rw [ef0] at q0
  have zef0 := congrArg Int32.toInt ef0
  obtain ⟨f1, ef1⟩ : ∃ f_, h 63 16 = f_ := ⟨_, rfl⟩
  have bf1 : B f1 0 160 := by have z_ := hJ0.1 63 16; rw [ef1] at z_; exact z_
  have zf1 := congrArg Int32.toInt ef1
  obtain ⟨f2, ef2⟩ : ∃ f_, h 63 17 = f_ := ⟨_, rfl⟩
  have bf2 : B f2 0 160 := by have z_ := hJ0.1 63 17; rw [ef2] at z_; exact z_
  have zf2 := congrArg Int32.toInt ef2
  obtain ⟨f3, ef3⟩ : ∃ f_, h 63 20 = f_ := ⟨_, rfl⟩
  have bf3 : B f3 (-2147483648) 2147483647 := by have z_ := hJ0.1 63 20; rw [ef3] at z_; exact z_
  have zf3 := congrArg Int32.toInt ef3
  obtain ⟨f4, ef4⟩ : ∃ f_, h 63 19 = f_ := ⟨_, rfl⟩
  have bf4 : B f4 0 3 := by have z_ := hJ0.1 63 19; rw [ef4] at z_; exact z_
  have zf4 := congrArg Int32.toInt ef4
  rw [ef2] at rt
  refine ev_aload_n rfl rfl rfl ?_
  refine ev_iconst (v := 1) rfl rfl (by decide) ?_
  refine ev_putW (l := 0) (u := 3) hJ0 rfl (by decide : B 1 1 1) (by decide) (by decide) rfl rfl rfl fl_X10_204 rfl rfl rfl rfl rfl (fun h5 hJ5 k5 => ?_)
  refine ev_aload_n rfl rfl rfl ?_
  refine ev_iconst (v := 0) rfl rfl (by decide) ?_
  refine ev_putW (l := (-2147483648)) (u := 2147483647) hJ5 rfl (by decide : B 0 0 0) (by decide) (by decide) rfl rfl rfl fl_X10_207 rfl rfl rfl rfl rfl (fun h6 hJ6 k6 => ?_)
  refine ev_aload_n rfl rfl rfl ?_
  refine ev_aload_n rfl rfl rfl ?_
  refine ev_getV (v := f2) rfl rfl fl_X10_210 rfl rfl rfl (rd_o k6 (rd_o k5 ef2 rfl) rfl) ?_
  have z7 := congrArg Int32.toInt (rd_o k6 (rd_o k5 ef1 rfl) rfl)
  have z8 := congrArg Int32.toInt (rd_o k6 (rd_o k5 ef2 rfl) rfl)
  have z9 := congrArg Int32.toInt (rd_o k6 (rd_o k5 ef0 rfl) rfl)
  have z10 := congrArg Int32.toInt (rd_s k6)
  have z11 := congrArg Int32.toInt (rd_o k6 (rd_s k5) rfl)
  refine ev_V1P rfl rfl lk_X10_213 vt_X10_look rfl rfl rfl rfl rfl (w_X10_look_63 L b h6 hJ6.1 f2 bf2 t (rd_o k6 (rd_o k5 rt rfl) rfl)) (fun r12 q12 => ?_)
  obtain ⟨b12, pp12_0, pp12_1⟩ := q12
  refine ev_i2l rfl rfl ?_
  have z13 := Int32.toInt_toInt64 r12
  have z13b := B.any r12
  refine ev_ldc2 (v := 97) rfl rfl kc_X10_216 ?_
  refine ev_ldc2 (v := 122) rfl rfl kc_X10_218 ?_
  have z14 := congrArg Int32.toInt (rd_o k6 (rd_o k5 ef1 rfl) rfl)
  have z15 := congrArg Int32.toInt (rd_o k6 (rd_o k5 ef2 rfl) rfl)
  have z16 := congrArg Int32.toInt (rd_o k6 (rd_o k5 ef0 rfl) rfl)
  have z17 := congrArg Int32.toInt (rd_s k6)
  have z18 := congrArg Int32.toInt (rd_o k6 (rd_s k5) rfl)
  refine ev_S3P rfl rfl lk_X10_124 st_X10_in rfl rfl (w_inR (G0 L b) h6 r12 97 122 (by decide : BL 97 97 97) (by decide : BL 122 122 122)) (fun r19 q19 => ?_)
  obtain ⟨b19, p19_0, pp19_0, pp19_1⟩ := q19
  refine ev_if_eq rfl rfl (fun c20 => False.elim (by have z0_ := congrArg Int32.toInt (rd_o k6 (rd_o k5 ef1 rfl) rfl); have z1_ := congrArg Int32.toInt (rd_o k6 (rd_o k5 ef2 rfl) rfl); have z2_ := congrArg Int32.toInt (rd_o k6 (rd_o k5 ef0 rfl) rfl); have z3_ := congrArg Int32.toInt (rd_s k6); have z4_ := congrArg Int32.toInt (rd_o k6 (rd_s k5) rfl); have z5_ := congrArg Int32.toInt c20; have z_ := w_lits; have zl_ := l_lits; omega)) (fun c20 => ?_)
  have b23 : B r19 1 1 := R_neL b19 (by decide : B 0 0 0) c20 (by decide)
  have b24 : B r12 97 122 := p19_0 c20
  have z25 := w_ne c20
  rw [show (0 : Int32).toInt = 0 from by decide] at z25
  refine ev_aload_n rfl rfl rfl ?_
  refine ev_getV (v := f0) rfl rfl fl_X10_191 rfl rfl rfl (rd_o k6 (rd_o k5 ef0 rfl) rfl) ?_
  refine ev_if_ne rfl rfl (fun c26 => absurd (D_eq q0 (by decide : B 0 0 0)) c26) (fun c26 => ?_)
  have z27 := congrArg Int32.toInt c26
  rw [show (0 : Int32).toInt = 0 from by decide] at z27
  refine ev_aload_n rfl rfl rfl ?_
  refine ev_aload_n rfl rfl rfl ?_
  refine ev_getV (v := f2) rfl rfl fl_X10_210 rfl rfl rfl (rd_o k6 (rd_o k5 ef2 rfl) rfl) ?_
  have z28 := congrArg Int32.toInt (rd_o k6 (rd_o k5 ef1 rfl) rfl)
  have z29 := congrArg Int32.toInt (rd_o k6 (rd_o k5 ef2 rfl) rfl)
  have z30 := congrArg Int32.toInt (rd_o k6 (rd_o k5 ef0 rfl) rfl)
  have z31 := congrArg Int32.toInt (rd_s k6)
  have z32 := congrArg Int32.toInt (rd_o k6 (rd_s k5) rfl)
  refine ev_V1P rfl rfl lk_X10_213 vt_X10_look rfl rfl rfl rfl rfl (w_X10_look_63 L b h6 hJ6.1 f2 bf2 t (rd_o k6 (rd_o k5 rt rfl) rfl)) (fun r33 q33 => ?_)
  obtain ⟨b33, pp33_0, pp33_1⟩ := q33
  refine ev_bipush (v := 97) rfl rfl (by decide) ?_
  have b34 : B r33 97 122 := ⟨(by have z0_ := congrArg Int32.toInt (rd_o k6 (rd_o k5 ef1 rfl) rfl); have z1_ := congrArg Int32.toInt (rd_o k6 (rd_o k5 ef2 rfl) rfl); have z2_ := congrArg Int32.toInt (rd_o k6 (rd_o k5 ef0 rfl) rfl); have z3_ := congrArg Int32.toInt (rd_s k6); have z4_ := congrArg Int32.toInt (rd_o k6 (rd_s k5) rfl); have z_ := w_lits; have zl_ := l_lits; omega), (by have z0_ := congrArg Int32.toInt (rd_o k6 (rd_o k5 ef1 rfl) rfl); have z1_ := congrArg Int32.toInt (rd_o k6 (rd_o k5 ef2 rfl) rfl); have z2_ := congrArg Int32.toInt (rd_o k6 (rd_o k5 ef0 rfl) rfl); have z3_ := congrArg Int32.toInt (rd_s k6); have z4_ := congrArg Int32.toInt (rd_o k6 (rd_s k5) rfl); have z_ := w_lits; have zl_ := l_lits; omega)⟩
  refine ev_isubB (l := 0) (u := 25) rfl rfl b34 (by decide : B 97 97 97) (by decide) (by decide) (by decide) (by decide) (fun v35 b35 e35 g35 => ?_)
  have e35x := e35; rw [show (97 : Int32).toInt = 97 from by decide] at e35x
  refine ev_istore_n rfl rfl rfl rfl ?_
  dsimp only [List.set]
  refine ev_iload_n rfl rfl rfl ?_
  refine ev_bipush (v := 11) rfl rfl (by decide) ?_
  refine ev_icmp_le rfl rfl (fun c36 => ?_) (fun c36 => ?_)
  · have b37 : B v35 0 11 := R_leX b35 (by decide : B 11 11 11) c36 (by decide)
    have b38 : B r33 97 108 := (R_bks (l' := 97) (u' := 108) e35 b37 (by decide : B 97 97 97) (by decide) (by decide))
    have z39 := w_le c36
    rw [show (11 : Int32).toInt = 11 from by decide] at z39
    refine ev_aload_n rfl rfl rfl ?_
    refine ev_getV (v := 0) rfl rfl fl_X10_207 rfl rfl rfl (rd_s k6) ?_
    refine ev_iload_n rfl rfl rfl ?_
    refine ev_ishr0 rfl rfl ?_
    refine ev_iconst (v := 1) rfl rfl (by decide) ?_
    refine ev_iand0 rfl rfl ?_
    refine ev_iconst (v := 1) rfl rfl (by decide) ?_
    refine ev_icmp_eq rfl rfl (fun c45 => absurd c45 (D_ne (by decide : B 0 0 0) (by decide : B 1 1 1) (by decide))) (fun c45 => ?_)
    have z46 := w_ne c45
    rw [show (0 : Int32).toInt = 0 from by decide] at z46
    rw [show (1 : Int32).toInt = 1 from by decide] at z46
    refine ev_aload_n rfl rfl rfl ?_
    refine ev_getV (v := 0) rfl rfl fl_X10_207 rfl rfl rfl (rd_s k6) ?_
    refine ev_S1P rfl rfl lk_X10_220 st_X10_bits rfl rfl (w_X10_bits L b h6 hJ6.1 0) (fun r47 q47 => ?_)
    refine ev_iconst (v := 5) rfl rfl (by decide) ?_
    refine ev_icmp_ne rfl rfl (fun c48 => ?_) (fun c48 => ?_)
    · have z49 := w_ne c48
      rw [show (5 : Int32).toInt = 5 from by decide] at z49
      refine ev_aload_n rfl rfl rfl ?_
      refine ev_dup rfl rfl rfl ?_
      refine ev_getV (v := 0) rfl rfl fl_X10_207 rfl rfl rfl (rd_s k6) ?_
      refine ev_iconst (v := 1) rfl rfl (by decide) ?_
      refine ev_iload_n rfl rfl rfl ?_
      refine ev_ishlB rfl rfl b37 (by decide) (by decide) (fun v52 b52 => ?_)
      have b53 : B 0 0 4095 := ⟨(by have z0_ := congrArg Int32.toInt (rd_o k6 (rd_o k5 ef1 rfl) rfl); have z1_ := congrArg Int32.toInt (rd_o k6 (rd_o k5 ef2 rfl) rfl); have z2_ := congrArg Int32.toInt (rd_o k6 (rd_o k5 ef0 rfl) rfl); have z3_ := congrArg Int32.toInt (rd_s k6); have z4_ := congrArg Int32.toInt (rd_o k6 (rd_s k5) rfl); have z_ := w_lits; have zl_ := l_lits; omega), (by have z0_ := congrArg Int32.toInt (rd_o k6 (rd_o k5 ef1 rfl) rfl); have z1_ := congrArg Int32.toInt (rd_o k6 (rd_o k5 ef2 rfl) rfl); have z2_ := congrArg Int32.toInt (rd_o k6 (rd_o k5 ef0 rfl) rfl); have z3_ := congrArg Int32.toInt (rd_s k6); have z4_ := congrArg Int32.toInt (rd_o k6 (rd_s k5) rfl); have z_ := w_lits; have zl_ := l_lits; omega)⟩
      refine ev_iorB 12 (u := 4095) rfl rfl b53 b52 (by decide) (by decide) (by decide) (by decide) (by decide) (by decide) (fun v54 b54 e54 => ?_)
      refine ev_putW (l := (-2147483648)) (u := 2147483647) hJ6 rfl b54 (by decide) (by decide) rfl rfl rfl fl_X10_207 rfl rfl rfl rfl rfl (fun h55 hJ55 k55 => ?_)
      refine ev_aload_n rfl rfl rfl ?_
      refine ev_dup rfl rfl rfl ?_
      refine ev_getV (v := f2) rfl rfl fl_X10_210 rfl rfl rfl (rd_o k55 (rd_o k6 (rd_o k5 ef2 rfl) rfl) rfl) ?_
      refine ev_iconst (v := 1) rfl rfl (by decide) ?_
      refine ev_iaddB (l := 1) (u := 161) rfl rfl bf2 (by decide : B 1 1 1) (by decide) (by decide) (by decide) (by decide) (fun v56 b56 e56 g56 => ?_)
      have e56x := e56; rw [show (1 : Int32).toInt = 1 from by decide] at e56x
      have b57 : B v56 0 160 := ⟨(by have z0_ := congrArg Int32.toInt (rd_o k55 (rd_o k6 (rd_o k5 ef1 rfl) rfl) rfl); have z1_ := congrArg Int32.toInt (rd_o k55 (rd_o k6 (rd_o k5 ef2 rfl) rfl) rfl); have z2_ := congrArg Int32.toInt (rd_o k55 (rd_o k6 (rd_o k5 ef0 rfl) rfl) rfl); have z3_ := congrArg Int32.toInt (rd_s k55); have z4_ := congrArg Int32.toInt (rd_o k55 (rd_o k6 (rd_s k5) rfl) rfl); have z_ := w_lits; have zl_ := l_lits; omega), (by have z0_ := congrArg Int32.toInt (rd_o k55 (rd_o k6 (rd_o k5 ef1 rfl) rfl) rfl); have z1_ := congrArg Int32.toInt (rd_o k55 (rd_o k6 (rd_o k5 ef2 rfl) rfl) rfl); have z2_ := congrArg Int32.toInt (rd_o k55 (rd_o k6 (rd_o k5 ef0 rfl) rfl) rfl); have z3_ := congrArg Int32.toInt (rd_s k55); have z4_ := congrArg Int32.toInt (rd_o k55 (rd_o k6 (rd_s k5) rfl) rfl); have z_ := w_lits; have zl_ := l_lits; omega)⟩
      refine ev_putW (l := 0) (u := 160) hJ55 rfl b57 (by decide) (by decide) rfl rfl rfl fl_X10_210 rfl rfl rfl rfl rfl (fun h58 hJ58 k58 => ?_)
      refine ev_goto rfl rfl ?_
      have lp10_326 : ∀ (n : Nat) (w327 : Int32) (h329 : Hp), B w327 0 25 → JW [(63, 17), (63, 19), (63, 20), (63, 21), (63, 22)] h h329 → (h329 63 16 = f1) → (h329 63 19 = 1) → (h329 72 (Int32.toNatClampNeg f2) = t) → ((h329 63 17).toInt ≤ (h329 63 16).toInt) → ((h 63 17).toInt + 1 ≤ (h329 63 17).toInt) → (0 ≤ (h329 63 20).toInt ∧ (h329 63 20).toInt ≤ 4095) → 160 + 1 - (h329 63 17).toInt ≤ (n : Int) → EvQ mi_X10_readChord 10 [some (.ref 63), some (.int w327)] [] (G0 L b) h329 0 0 (QK (fun z : Hp => ((z 63 17).toInt ≤ (z 63 16).toInt) ∧ ((h 63 17).toInt + 1 ≤ (z 63 17).toInt) ∧ ((z 63 19).toInt = 1) ∧ (0 ≤ (z 63 20).toInt ∧ (z 63 20).toInt ≤ 4095)) [(63, 17), (63, 19), (63, 20), (63, 21), (63, 22)] (G0 L b) h) := by
        intro n
        induction n with
        | zero =>
          intro w327 h329 b328 hJ330 z331 z332 z333 y10_0 y10_1 y10_2 hm10
          obtain ⟨f334, ef334⟩ : ∃ f_, h329 63 17 = f_ := ⟨_, rfl⟩
          have bf334 : B f334 0 160 := by
            have z_ := hJ330.1 63 17
            rw [ef334] at z_
            exact z_
          rw [ef334] at hm10
          exact absurd hm10 (L_zero bf334 (by decide))
        | succ n ih10 =>
          intro w327 h329 b328 hJ330 z331 z332 z333 y10_0 y10_1 y10_2 hm10
          obtain ⟨f334, ef334⟩ : ∃ f_, h329 63 17 = f_ := ⟨_, rfl⟩
          have bf334 : B f334 0 160 := by
            have z_ := hJ330.1 63 17
            rw [ef334] at z_
            exact z_
          rw [ef334] at hm10
          obtain ⟨f335, ef335⟩ : ∃ f_, h329 63 21 = f_ := ⟨_, rfl⟩
          have bf335 : B f335 0 6 := by have z_ := hJ330.1 63 21; rw [ef335] at z_; exact z_
          have zf335 := congrArg Int32.toInt ef335
          obtain ⟨f336, ef336⟩ : ∃ f_, h329 63 20 = f_ := ⟨_, rfl⟩
          have bf336 : B f336 (-2147483648) 2147483647 := by have z_ := hJ330.1 63 20; rw [ef336] at z_; exact z_
          have zf336 := congrArg Int32.toInt ef336
          have z337 := congrArg Int32.toInt z331
          have z338 := congrArg Int32.toInt ef334
          have z339 := congrArg Int32.toInt ef335
          have z340 := congrArg Int32.toInt ef336
          have z341 := congrArg Int32.toInt z332
          refine ev_aload_n rfl rfl rfl ?_
          refine ev_aload_n rfl rfl rfl ?_
          refine ev_getV (v := f334) rfl rfl fl_X10_210 rfl rfl rfl ef334 ?_
          obtain ⟨t342, et342⟩ : ∃ f_, h329 72 (Int32.toNatClampNeg f334) = f_ := ⟨_, rfl⟩
          have bt342 : B t342 0 255 := by have z_ := hJ330.1 72 (Int32.toNatClampNeg f334); rw [et342] at z_; exact z_
          have z343 := congrArg Int32.toInt z331
          have z344 := congrArg Int32.toInt ef334
          have z345 := congrArg Int32.toInt ef335
          have z346 := congrArg Int32.toInt ef336
          have z347 := congrArg Int32.toInt z332
          refine ev_V1P rfl rfl lk_X10_213 vt_X10_look rfl rfl rfl rfl rfl (w_X10_look_63 L b h329 hJ330.1 f334 bf334 t342 et342) (fun r348 q348 => ?_)
          obtain ⟨b348, pp348_0, pp348_1⟩ := q348
          refine ev_i2l rfl rfl ?_
          have z349 := Int32.toInt_toInt64 r348
          have z349b := B.any r348
          refine ev_ldc2 (v := 97) rfl rfl kc_X10_216 ?_
          refine ev_ldc2 (v := 122) rfl rfl kc_X10_218 ?_
          have z350 := congrArg Int32.toInt z331
          have z351 := congrArg Int32.toInt ef334
          have z352 := congrArg Int32.toInt ef335
          have z353 := congrArg Int32.toInt ef336
          have z354 := congrArg Int32.toInt z332
          refine ev_S3P rfl rfl lk_X10_124 st_X10_in rfl rfl (w_inR (G0 L b) h329 r348 97 122 (by decide : BL 97 97 97) (by decide : BL 122 122 122)) (fun r355 q355 => ?_)
          obtain ⟨b355, p355_0, pp355_0, pp355_1⟩ := q355
          refine ev_if_eq rfl rfl (fun c356 => ?_) (fun c356 => ?_)
          · have z357 := congrArg Int32.toInt c356
            rw [show (0 : Int32).toInt = 0 from by decide] at z357
            exact ev_vret rfl rfl trivial ⟨rfl, rfl, hJ330, (by have z0_ := congrArg Int32.toInt z331; have z1_ := congrArg Int32.toInt ef334; have z2_ := congrArg Int32.toInt ef335; have z3_ := congrArg Int32.toInt ef336; have z4_ := congrArg Int32.toInt z332; have z_ := w_lits; have zl_ := l_lits; omega), (by have z0_ := congrArg Int32.toInt z331; have z1_ := congrArg Int32.toInt ef334; have z2_ := congrArg Int32.toInt ef335; have z3_ := congrArg Int32.toInt ef336; have z4_ := congrArg Int32.toInt z332; have z_ := w_lits; have zl_ := l_lits; omega), (by have z0_ := congrArg Int32.toInt z331; have z1_ := congrArg Int32.toInt ef334; have z2_ := congrArg Int32.toInt ef335; have z3_ := congrArg Int32.toInt ef336; have z4_ := congrArg Int32.toInt z332; have z_ := w_lits; have zl_ := l_lits; omega), (by have z0_ := congrArg Int32.toInt z331; have z1_ := congrArg Int32.toInt ef334; have z2_ := congrArg Int32.toInt ef335; have z3_ := congrArg Int32.toInt ef336; have z4_ := congrArg Int32.toInt z332; have z_ := w_lits; have zl_ := l_lits; omega)⟩
          · have b358 : B r348 97 122 := p355_0 c356
            have z359 := w_ne c356
            rw [show (0 : Int32).toInt = 0 from by decide] at z359
            refine ev_aload_n rfl rfl rfl ?_
            refine ev_getV (v := f335) rfl rfl fl_X10_191 rfl rfl rfl ef335 ?_
            refine ev_if_ne rfl rfl (fun c360 => ?_) (fun c360 => ?_)
            · have z361 := w_ne c360
              rw [show (0 : Int32).toInt = 0 from by decide] at z361
              exact ev_vret rfl rfl trivial ⟨rfl, rfl, hJ330, (by have z0_ := congrArg Int32.toInt z331; have z1_ := congrArg Int32.toInt ef334; have z2_ := congrArg Int32.toInt ef335; have z3_ := congrArg Int32.toInt ef336; have z4_ := congrArg Int32.toInt z332; have z_ := w_lits; have zl_ := l_lits; omega), (by have z0_ := congrArg Int32.toInt z331; have z1_ := congrArg Int32.toInt ef334; have z2_ := congrArg Int32.toInt ef335; have z3_ := congrArg Int32.toInt ef336; have z4_ := congrArg Int32.toInt z332; have z_ := w_lits; have zl_ := l_lits; omega), (by have z0_ := congrArg Int32.toInt z331; have z1_ := congrArg Int32.toInt ef334; have z2_ := congrArg Int32.toInt ef335; have z3_ := congrArg Int32.toInt ef336; have z4_ := congrArg Int32.toInt z332; have z_ := w_lits; have zl_ := l_lits; omega), (by have z0_ := congrArg Int32.toInt z331; have z1_ := congrArg Int32.toInt ef334; have z2_ := congrArg Int32.toInt ef335; have z3_ := congrArg Int32.toInt ef336; have z4_ := congrArg Int32.toInt z332; have z_ := w_lits; have zl_ := l_lits; omega)⟩
            · have z362 := congrArg Int32.toInt c360
              rw [show (0 : Int32).toInt = 0 from by decide] at z362
              refine ev_aload_n rfl rfl rfl ?_
              refine ev_aload_n rfl rfl rfl ?_
              refine ev_getV (v := f334) rfl rfl fl_X10_210 rfl rfl rfl ef334 ?_
              have z363 := congrArg Int32.toInt z331
              have z364 := congrArg Int32.toInt ef334
              have z365 := congrArg Int32.toInt ef335
              have z366 := congrArg Int32.toInt ef336
              have z367 := congrArg Int32.toInt z332
              refine ev_V1P rfl rfl lk_X10_213 vt_X10_look rfl rfl rfl rfl rfl (w_X10_look_63 L b h329 hJ330.1 f334 bf334 t342 et342) (fun r368 q368 => ?_)
              obtain ⟨b368, pp368_0, pp368_1⟩ := q368
              refine ev_bipush (v := 97) rfl rfl (by decide) ?_
              have b369 : B r368 97 122 := ⟨(by have z0_ := congrArg Int32.toInt z331; have z1_ := congrArg Int32.toInt ef334; have z2_ := congrArg Int32.toInt ef335; have z3_ := congrArg Int32.toInt ef336; have z4_ := congrArg Int32.toInt z332; have z_ := w_lits; have zl_ := l_lits; omega), (by have z0_ := congrArg Int32.toInt z331; have z1_ := congrArg Int32.toInt ef334; have z2_ := congrArg Int32.toInt ef335; have z3_ := congrArg Int32.toInt ef336; have z4_ := congrArg Int32.toInt z332; have z_ := w_lits; have zl_ := l_lits; omega)⟩
              refine ev_isubB (l := 0) (u := 25) rfl rfl b369 (by decide : B 97 97 97) (by decide) (by decide) (by decide) (by decide) (fun v370 b370 e370 g370 => ?_)
              have e370x := e370; rw [show (97 : Int32).toInt = 97 from by decide] at e370x
              refine ev_istore_n rfl rfl rfl rfl ?_
              dsimp only [List.set]
              refine ev_iload_n rfl rfl rfl ?_
              refine ev_bipush (v := 11) rfl rfl (by decide) ?_
              refine ev_icmp_le rfl rfl (fun c371 => ?_) (fun c371 => ?_)
              · have b372 : B v370 0 11 := R_leX b370 (by decide : B 11 11 11) c371 (by decide)
                have b373 : B r368 97 108 := (R_bks (l' := 97) (u' := 108) e370 b372 (by decide : B 97 97 97) (by decide) (by decide))
                have z374 := w_le c371
                rw [show (11 : Int32).toInt = 11 from by decide] at z374
                refine ev_aload_n rfl rfl rfl ?_
                refine ev_getV (v := f336) rfl rfl fl_X10_207 rfl rfl rfl ef336 ?_
                refine ev_iload_n rfl rfl rfl ?_
                refine ev_ishrA rfl rfl (fun v378 => ?_)
                refine ev_iconst (v := 1) rfl rfl (by decide) ?_
                refine ev_iandB rfl rfl (by decide : B 1 1 1) (by decide) (fun v379 b379 e379 => ?_)
                refine ev_iconst (v := 1) rfl rfl (by decide) ?_
                refine ev_icmp_eq rfl rfl (fun c380 => ?_) (fun c380 => ?_)
                · have b381 : B v379 1 1 := R_eqX b379 (by decide : B 1 1 1) c380
                  have z382 := congrArg Int32.toInt c380
                  rw [show (1 : Int32).toInt = 1 from by decide] at z382
                  refine ev_aload_n rfl rfl rfl ?_
                  refine ev_iconst (v := 4) rfl rfl (by decide) ?_
                  refine ev_aload_n rfl rfl rfl ?_
                  refine ev_getV (v := f334) rfl rfl fl_X10_210 rfl rfl rfl ef334 ?_
                  have z385 := congrArg Int32.toInt z331
                  have z386 := congrArg Int32.toInt ef334
                  have z387 := congrArg Int32.toInt ef335
                  have z388 := congrArg Int32.toInt ef336
                  have z389 := congrArg Int32.toInt z332
                  refine ev_V2K hJ330 rfl rfl rfl lk_X10_200 vt_X10_fails rfl rfl rfl rfl rfl (w_X10_fails_63 L b h329 hJ330.1 4 ((by decide : B 4 4 4).mono (by decide) (by decide)) f334) (fun h390 hJ390 k390 m390 => ?_)
                  obtain ⟨f391, ef391⟩ : ∃ f_, h390 63 21 = f_ := ⟨_, rfl⟩
                  have bf391 : B f391 0 6 := by have z_ := hJ390.1 63 21; rw [ef391] at z_; exact z_
                  have zf391 := congrArg Int32.toInt ef391
                  have z392 := congrArg Int32.toInt (rd_w k390 z331 rfl)
                  have z393 := congrArg Int32.toInt (rd_w k390 ef334 rfl)
                  have z394 := congrArg Int32.toInt ef391
                  have z395 := congrArg Int32.toInt (rd_w k390 ef336 rfl)
                  have z396 := congrArg Int32.toInt (rd_w k390 z332 rfl)
                  refine ev_goto rfl rfl ?_
                  refine ev_aload_n rfl rfl rfl ?_
                  refine ev_dup rfl rfl rfl ?_
                  refine ev_getV (v := f334) rfl rfl fl_X10_210 rfl rfl rfl (rd_w k390 ef334 rfl) ?_
                  refine ev_iconst (v := 1) rfl rfl (by decide) ?_
                  refine ev_iaddB (l := 1) (u := 161) rfl rfl bf334 (by decide : B 1 1 1) (by decide) (by decide) (by decide) (by decide) (fun v397 b397 e397 g397 => ?_)
                  have e397x := e397; rw [show (1 : Int32).toInt = 1 from by decide] at e397x
                  have b398 : B v397 0 160 := ⟨(by have z0_ := congrArg Int32.toInt (rd_w k390 z331 rfl); have z1_ := congrArg Int32.toInt (rd_w k390 ef334 rfl); have z2_ := congrArg Int32.toInt ef391; have z3_ := congrArg Int32.toInt (rd_w k390 ef336 rfl); have z4_ := congrArg Int32.toInt (rd_w k390 z332 rfl); have z_ := w_lits; have zl_ := l_lits; omega), (by have z0_ := congrArg Int32.toInt (rd_w k390 z331 rfl); have z1_ := congrArg Int32.toInt (rd_w k390 ef334 rfl); have z2_ := congrArg Int32.toInt ef391; have z3_ := congrArg Int32.toInt (rd_w k390 ef336 rfl); have z4_ := congrArg Int32.toInt (rd_w k390 z332 rfl); have z_ := w_lits; have zl_ := l_lits; omega)⟩
                  refine ev_putW (l := 0) (u := 160) hJ390 rfl b398 (by decide) (by decide) rfl rfl rfl fl_X10_210 rfl rfl rfl rfl rfl (fun h399 hJ399 k399 => ?_)
                  refine ev_goto rfl rfl ?_
                  exact (ih10 v370 h399 (b372.mono (by decide) (by decide)) hJ399 (rd_o k399 (rd_w k390 z331 rfl) rfl) (rd_o k399 (rd_w k390 z332 rfl) rfl) (rd_o k399 (rd_w k390 z333 rfl) rfl) (by have z0_ := congrArg Int32.toInt (rd_o k399 (rd_w k390 z331 rfl) rfl); have z1_ := congrArg Int32.toInt (rd_s k399); have z2_ := congrArg Int32.toInt (rd_o k399 ef391 rfl); have z3_ := congrArg Int32.toInt (rd_o k399 (rd_w k390 ef336 rfl) rfl); have z4_ := congrArg Int32.toInt (rd_o k399 (rd_w k390 z332 rfl) rfl); have z_ := w_lits; have zl_ := l_lits; omega) (by have z0_ := congrArg Int32.toInt (rd_o k399 (rd_w k390 z331 rfl) rfl); have z1_ := congrArg Int32.toInt (rd_s k399); have z2_ := congrArg Int32.toInt (rd_o k399 ef391 rfl); have z3_ := congrArg Int32.toInt (rd_o k399 (rd_w k390 ef336 rfl) rfl); have z4_ := congrArg Int32.toInt (rd_o k399 (rd_w k390 z332 rfl) rfl); have z_ := w_lits; have zl_ := l_lits; omega) (by have z0_ := congrArg Int32.toInt (rd_o k399 (rd_w k390 z331 rfl) rfl); have z1_ := congrArg Int32.toInt (rd_s k399); have z2_ := congrArg Int32.toInt (rd_o k399 ef391 rfl); have z3_ := congrArg Int32.toInt (rd_o k399 (rd_w k390 ef336 rfl) rfl); have z4_ := congrArg Int32.toInt (rd_o k399 (rd_w k390 z332 rfl) rfl); have z_ := w_lits; have zl_ := l_lits; omega) (by rw [(rd_s k399)]; exact L_up hm10 (e_p1 e397 (by decide))))
                · have b383 : B v379 0 0 := R_neU b379 (by decide : B 1 1 1) c380 (by decide)
                  have z384 := w_ne c380
                  rw [show (1 : Int32).toInt = 1 from by decide] at z384
                  refine ev_aload_n rfl rfl rfl ?_
                  refine ev_getV (v := f336) rfl rfl fl_X10_207 rfl rfl rfl ef336 ?_
                  refine ev_S1P rfl rfl lk_X10_220 st_X10_bits rfl rfl (w_X10_bits L b h329 hJ330.1 f336) (fun r400 q400 => ?_)
                  refine ev_iconst (v := 5) rfl rfl (by decide) ?_
                  refine ev_icmp_ne rfl rfl (fun c401 => ?_) (fun c401 => ?_)
                  · have z402 := w_ne c401
                    rw [show (5 : Int32).toInt = 5 from by decide] at z402
                    refine ev_aload_n rfl rfl rfl ?_
                    refine ev_dup rfl rfl rfl ?_
                    refine ev_getV (v := f336) rfl rfl fl_X10_207 rfl rfl rfl ef336 ?_
                    refine ev_iconst (v := 1) rfl rfl (by decide) ?_
                    refine ev_iload_n rfl rfl rfl ?_
                    refine ev_ishlB rfl rfl b372 (by decide) (by decide) (fun v405 b405 => ?_)
                    have b406 : B f336 0 4095 := ⟨(by have z0_ := congrArg Int32.toInt z331; have z1_ := congrArg Int32.toInt ef334; have z2_ := congrArg Int32.toInt ef335; have z3_ := congrArg Int32.toInt ef336; have z4_ := congrArg Int32.toInt z332; have z_ := w_lits; have zl_ := l_lits; omega), (by have z0_ := congrArg Int32.toInt z331; have z1_ := congrArg Int32.toInt ef334; have z2_ := congrArg Int32.toInt ef335; have z3_ := congrArg Int32.toInt ef336; have z4_ := congrArg Int32.toInt z332; have z_ := w_lits; have zl_ := l_lits; omega)⟩
                    refine ev_iorB 12 (u := 4095) rfl rfl b406 b405 (by decide) (by decide) (by decide) (by decide) (by decide) (by decide) (fun v407 b407 e407 => ?_)
                    refine ev_putW (l := (-2147483648)) (u := 2147483647) hJ330 rfl b407 (by decide) (by decide) rfl rfl rfl fl_X10_207 rfl rfl rfl rfl rfl (fun h408 hJ408 k408 => ?_)
                    refine ev_aload_n rfl rfl rfl ?_
                    refine ev_dup rfl rfl rfl ?_
                    refine ev_getV (v := f334) rfl rfl fl_X10_210 rfl rfl rfl (rd_o k408 ef334 rfl) ?_
                    refine ev_iconst (v := 1) rfl rfl (by decide) ?_
                    refine ev_iaddB (l := 1) (u := 161) rfl rfl bf334 (by decide : B 1 1 1) (by decide) (by decide) (by decide) (by decide) (fun v409 b409 e409 g409 => ?_)
                    have e409x := e409; rw [show (1 : Int32).toInt = 1 from by decide] at e409x
                    have b410 : B v409 0 160 := ⟨(by have z0_ := congrArg Int32.toInt (rd_o k408 z331 rfl); have z1_ := congrArg Int32.toInt (rd_o k408 ef334 rfl); have z2_ := congrArg Int32.toInt (rd_o k408 ef335 rfl); have z3_ := congrArg Int32.toInt (rd_s k408); have z4_ := congrArg Int32.toInt (rd_o k408 z332 rfl); have z_ := w_lits; have zl_ := l_lits; omega), (by have z0_ := congrArg Int32.toInt (rd_o k408 z331 rfl); have z1_ := congrArg Int32.toInt (rd_o k408 ef334 rfl); have z2_ := congrArg Int32.toInt (rd_o k408 ef335 rfl); have z3_ := congrArg Int32.toInt (rd_s k408); have z4_ := congrArg Int32.toInt (rd_o k408 z332 rfl); have z_ := w_lits; have zl_ := l_lits; omega)⟩
                    refine ev_putW (l := 0) (u := 160) hJ408 rfl b410 (by decide) (by decide) rfl rfl rfl fl_X10_210 rfl rfl rfl rfl rfl (fun h411 hJ411 k411 => ?_)
                    refine ev_goto rfl rfl ?_
                    exact (ih10 v370 h411 (b372.mono (by decide) (by decide)) hJ411 (rd_o k411 (rd_o k408 z331 rfl) rfl) (rd_o k411 (rd_o k408 z332 rfl) rfl) (rd_o k411 (rd_o k408 z333 rfl) rfl) (by have z0_ := congrArg Int32.toInt (rd_o k411 (rd_o k408 z331 rfl) rfl); have z1_ := congrArg Int32.toInt (rd_s k411); have z2_ := congrArg Int32.toInt (rd_o k411 (rd_o k408 ef335 rfl) rfl); have z3_ := congrArg Int32.toInt (rd_o k411 (rd_s k408) rfl); have z4_ := congrArg Int32.toInt (rd_o k411 (rd_o k408 z332 rfl) rfl); have z_ := w_lits; have zl_ := l_lits; omega) (by have z0_ := congrArg Int32.toInt (rd_o k411 (rd_o k408 z331 rfl) rfl); have z1_ := congrArg Int32.toInt (rd_s k411); have z2_ := congrArg Int32.toInt (rd_o k411 (rd_o k408 ef335 rfl) rfl); have z3_ := congrArg Int32.toInt (rd_o k411 (rd_s k408) rfl); have z4_ := congrArg Int32.toInt (rd_o k411 (rd_o k408 z332 rfl) rfl); have z_ := w_lits; have zl_ := l_lits; omega) (by have z0_ := congrArg Int32.toInt (rd_o k411 (rd_o k408 z331 rfl) rfl); have z1_ := congrArg Int32.toInt (rd_s k411); have z2_ := congrArg Int32.toInt (rd_o k411 (rd_o k408 ef335 rfl) rfl); have z3_ := congrArg Int32.toInt (rd_o k411 (rd_s k408) rfl); have z4_ := congrArg Int32.toInt (rd_o k411 (rd_o k408 z332 rfl) rfl); have z_ := w_lits; have zl_ := l_lits; omega) (by rw [(rd_s k411)]; exact L_up hm10 (e_p1 e409 (by decide))))
                  · have b403 : B r400 5 5 := R_eqX (B.any r400) (by decide : B 5 5 5) c401
                    have z404 := congrArg Int32.toInt c401
                    rw [show (5 : Int32).toInt = 5 from by decide] at z404
                    refine ev_aload_n rfl rfl rfl ?_
                    refine ev_iconst (v := 4) rfl rfl (by decide) ?_
                    refine ev_aload_n rfl rfl rfl ?_
                    refine ev_getV (v := f334) rfl rfl fl_X10_210 rfl rfl rfl ef334 ?_
                    have z412 := congrArg Int32.toInt z331
                    have z413 := congrArg Int32.toInt ef334
                    have z414 := congrArg Int32.toInt ef335
                    have z415 := congrArg Int32.toInt ef336
                    have z416 := congrArg Int32.toInt z332
                    refine ev_V2K hJ330 rfl rfl rfl lk_X10_200 vt_X10_fails rfl rfl rfl rfl rfl (w_X10_fails_63 L b h329 hJ330.1 4 ((by decide : B 4 4 4).mono (by decide) (by decide)) f334) (fun h417 hJ417 k417 m417 => ?_)
                    obtain ⟨f418, ef418⟩ : ∃ f_, h417 63 21 = f_ := ⟨_, rfl⟩
                    have bf418 : B f418 0 6 := by have z_ := hJ417.1 63 21; rw [ef418] at z_; exact z_
                    have zf418 := congrArg Int32.toInt ef418
                    have z419 := congrArg Int32.toInt (rd_w k417 z331 rfl)
                    have z420 := congrArg Int32.toInt (rd_w k417 ef334 rfl)
                    have z421 := congrArg Int32.toInt ef418
                    have z422 := congrArg Int32.toInt (rd_w k417 ef336 rfl)
                    have z423 := congrArg Int32.toInt (rd_w k417 z332 rfl)
                    refine ev_goto rfl rfl ?_
                    refine ev_aload_n rfl rfl rfl ?_
                    refine ev_dup rfl rfl rfl ?_
                    refine ev_getV (v := f334) rfl rfl fl_X10_210 rfl rfl rfl (rd_w k417 ef334 rfl) ?_
                    refine ev_iconst (v := 1) rfl rfl (by decide) ?_
                    refine ev_iaddB (l := 1) (u := 161) rfl rfl bf334 (by decide : B 1 1 1) (by decide) (by decide) (by decide) (by decide) (fun v424 b424 e424 g424 => ?_)
                    have e424x := e424; rw [show (1 : Int32).toInt = 1 from by decide] at e424x
                    have b425 : B v424 0 160 := ⟨(by have z0_ := congrArg Int32.toInt (rd_w k417 z331 rfl); have z1_ := congrArg Int32.toInt (rd_w k417 ef334 rfl); have z2_ := congrArg Int32.toInt ef418; have z3_ := congrArg Int32.toInt (rd_w k417 ef336 rfl); have z4_ := congrArg Int32.toInt (rd_w k417 z332 rfl); have z_ := w_lits; have zl_ := l_lits; omega), (by have z0_ := congrArg Int32.toInt (rd_w k417 z331 rfl); have z1_ := congrArg Int32.toInt (rd_w k417 ef334 rfl); have z2_ := congrArg Int32.toInt ef418; have z3_ := congrArg Int32.toInt (rd_w k417 ef336 rfl); have z4_ := congrArg Int32.toInt (rd_w k417 z332 rfl); have z_ := w_lits; have zl_ := l_lits; omega)⟩
                    refine ev_putW (l := 0) (u := 160) hJ417 rfl b425 (by decide) (by decide) rfl rfl rfl fl_X10_210 rfl rfl rfl rfl rfl (fun h426 hJ426 k426 => ?_)
                    refine ev_goto rfl rfl ?_
                    exact (ih10 v370 h426 (b372.mono (by decide) (by decide)) hJ426 (rd_o k426 (rd_w k417 z331 rfl) rfl) (rd_o k426 (rd_w k417 z332 rfl) rfl) (rd_o k426 (rd_w k417 z333 rfl) rfl) (by have z0_ := congrArg Int32.toInt (rd_o k426 (rd_w k417 z331 rfl) rfl); have z1_ := congrArg Int32.toInt (rd_s k426); have z2_ := congrArg Int32.toInt (rd_o k426 ef418 rfl); have z3_ := congrArg Int32.toInt (rd_o k426 (rd_w k417 ef336 rfl) rfl); have z4_ := congrArg Int32.toInt (rd_o k426 (rd_w k417 z332 rfl) rfl); have z_ := w_lits; have zl_ := l_lits; omega) (by have z0_ := congrArg Int32.toInt (rd_o k426 (rd_w k417 z331 rfl) rfl); have z1_ := congrArg Int32.toInt (rd_s k426); have z2_ := congrArg Int32.toInt (rd_o k426 ef418 rfl); have z3_ := congrArg Int32.toInt (rd_o k426 (rd_w k417 ef336 rfl) rfl); have z4_ := congrArg Int32.toInt (rd_o k426 (rd_w k417 z332 rfl) rfl); have z_ := w_lits; have zl_ := l_lits; omega) (by have z0_ := congrArg Int32.toInt (rd_o k426 (rd_w k417 z331 rfl) rfl); have z1_ := congrArg Int32.toInt (rd_s k426); have z2_ := congrArg Int32.toInt (rd_o k426 ef418 rfl); have z3_ := congrArg Int32.toInt (rd_o k426 (rd_w k417 ef336 rfl) rfl); have z4_ := congrArg Int32.toInt (rd_o k426 (rd_w k417 z332 rfl) rfl); have z_ := w_lits; have zl_ := l_lits; omega) (by rw [(rd_s k426)]; exact L_up hm10 (e_p1 e424 (by decide))))
              · have b375 : B v370 12 25 := R_ltY (by decide : B 11 11 11) b370 (Int32.not_le.mp c371) (by decide)
                have b376 : B r368 109 122 := (R_bks (l' := 109) (u' := 122) e370 b375 (by decide : B 97 97 97) (by decide) (by decide))
                have z377 := w_lt (Int32.not_le.mp c371)
                rw [show (11 : Int32).toInt = 11 from by decide] at z377
                refine ev_aload_n rfl rfl rfl ?_
                refine ev_iconst (v := 1) rfl rfl (by decide) ?_
                refine ev_aload_n rfl rfl rfl ?_
                refine ev_getV (v := f334) rfl rfl fl_X10_210 rfl rfl rfl ef334 ?_
                have z427 := congrArg Int32.toInt z331
                have z428 := congrArg Int32.toInt ef334
                have z429 := congrArg Int32.toInt ef335
                have z430 := congrArg Int32.toInt ef336
                have z431 := congrArg Int32.toInt z332
                refine ev_V2K hJ330 rfl rfl rfl lk_X10_200 vt_X10_fails rfl rfl rfl rfl rfl (w_X10_fails_63 L b h329 hJ330.1 1 ((by decide : B 1 1 1).mono (by decide) (by decide)) f334) (fun h432 hJ432 k432 m432 => ?_)
                obtain ⟨f433, ef433⟩ : ∃ f_, h432 63 21 = f_ := ⟨_, rfl⟩
                have bf433 : B f433 0 6 := by have z_ := hJ432.1 63 21; rw [ef433] at z_; exact z_
                have zf433 := congrArg Int32.toInt ef433
                have z434 := congrArg Int32.toInt (rd_w k432 z331 rfl)
                have z435 := congrArg Int32.toInt (rd_w k432 ef334 rfl)
                have z436 := congrArg Int32.toInt ef433
                have z437 := congrArg Int32.toInt (rd_w k432 ef336 rfl)
                have z438 := congrArg Int32.toInt (rd_w k432 z332 rfl)
                refine ev_goto rfl rfl ?_
                refine ev_aload_n rfl rfl rfl ?_
                refine ev_dup rfl rfl rfl ?_
                refine ev_getV (v := f334) rfl rfl fl_X10_210 rfl rfl rfl (rd_w k432 ef334 rfl) ?_
                refine ev_iconst (v := 1) rfl rfl (by decide) ?_
                refine ev_iaddB (l := 1) (u := 161) rfl rfl bf334 (by decide : B 1 1 1) (by decide) (by decide) (by decide) (by decide) (fun v439 b439 e439 g439 => ?_)
                have e439x := e439; rw [show (1 : Int32).toInt = 1 from by decide] at e439x
                have b440 : B v439 0 160 := ⟨(by have z0_ := congrArg Int32.toInt (rd_w k432 z331 rfl); have z1_ := congrArg Int32.toInt (rd_w k432 ef334 rfl); have z2_ := congrArg Int32.toInt ef433; have z3_ := congrArg Int32.toInt (rd_w k432 ef336 rfl); have z4_ := congrArg Int32.toInt (rd_w k432 z332 rfl); have z_ := w_lits; have zl_ := l_lits; omega), (by have z0_ := congrArg Int32.toInt (rd_w k432 z331 rfl); have z1_ := congrArg Int32.toInt (rd_w k432 ef334 rfl); have z2_ := congrArg Int32.toInt ef433; have z3_ := congrArg Int32.toInt (rd_w k432 ef336 rfl); have z4_ := congrArg Int32.toInt (rd_w k432 z332 rfl); have z_ := w_lits; have zl_ := l_lits; omega)⟩
                refine ev_putW (l := 0) (u := 160) hJ432 rfl b440 (by decide) (by decide) rfl rfl rfl fl_X10_210 rfl rfl rfl rfl rfl (fun h441 hJ441 k441 => ?_)
                refine ev_goto rfl rfl ?_
                exact (ih10 v370 h441 (b375.mono (by decide) (by decide)) hJ441 (rd_o k441 (rd_w k432 z331 rfl) rfl) (rd_o k441 (rd_w k432 z332 rfl) rfl) (rd_o k441 (rd_w k432 z333 rfl) rfl) (by have z0_ := congrArg Int32.toInt (rd_o k441 (rd_w k432 z331 rfl) rfl); have z1_ := congrArg Int32.toInt (rd_s k441); have z2_ := congrArg Int32.toInt (rd_o k441 ef433 rfl); have z3_ := congrArg Int32.toInt (rd_o k441 (rd_w k432 ef336 rfl) rfl); have z4_ := congrArg Int32.toInt (rd_o k441 (rd_w k432 z332 rfl) rfl); have z_ := w_lits; have zl_ := l_lits; omega) (by have z0_ := congrArg Int32.toInt (rd_o k441 (rd_w k432 z331 rfl) rfl); have z1_ := congrArg Int32.toInt (rd_s k441); have z2_ := congrArg Int32.toInt (rd_o k441 ef433 rfl); have z3_ := congrArg Int32.toInt (rd_o k441 (rd_w k432 ef336 rfl) rfl); have z4_ := congrArg Int32.toInt (rd_o k441 (rd_w k432 z332 rfl) rfl); have z_ := w_lits; have zl_ := l_lits; omega) (by have z0_ := congrArg Int32.toInt (rd_o k441 (rd_w k432 z331 rfl) rfl); have z1_ := congrArg Int32.toInt (rd_s k441); have z2_ := congrArg Int32.toInt (rd_o k441 ef433 rfl); have z3_ := congrArg Int32.toInt (rd_o k441 (rd_w k432 ef336 rfl) rfl); have z4_ := congrArg Int32.toInt (rd_o k441 (rd_w k432 z332 rfl) rfl); have z_ := w_lits; have zl_ := l_lits; omega) (by rw [(rd_s k441)]; exact L_up hm10 (e_p1 e439 (by decide))))
      exact (lp10_326 161 v35 h58 (b37.mono (by decide) (by decide)) hJ58 (rd_o k58 (rd_o k55 (rd_o k6 (rd_o k5 ef1 rfl) rfl) rfl) rfl) (rd_o k58 (rd_o k55 (rd_o k6 (rd_s k5) rfl) rfl) rfl) (rd_o k58 (rd_o k55 (rd_o k6 (rd_o k5 rt rfl) rfl) rfl) rfl) (by have z0_ := congrArg Int32.toInt (rd_o k58 (rd_o k55 (rd_o k6 (rd_o k5 ef1 rfl) rfl) rfl) rfl); have z1_ := congrArg Int32.toInt (rd_s k58); have z2_ := congrArg Int32.toInt (rd_o k58 (rd_o k55 (rd_o k6 (rd_o k5 ef0 rfl) rfl) rfl) rfl); have z3_ := congrArg Int32.toInt (rd_o k58 (rd_s k55) rfl); have z4_ := congrArg Int32.toInt (rd_o k58 (rd_o k55 (rd_o k6 (rd_s k5) rfl) rfl) rfl); have z_ := w_lits; have zl_ := l_lits; omega) (by have z0_ := congrArg Int32.toInt (rd_o k58 (rd_o k55 (rd_o k6 (rd_o k5 ef1 rfl) rfl) rfl) rfl); have z1_ := congrArg Int32.toInt (rd_s k58); have z2_ := congrArg Int32.toInt (rd_o k58 (rd_o k55 (rd_o k6 (rd_o k5 ef0 rfl) rfl) rfl) rfl); have z3_ := congrArg Int32.toInt (rd_o k58 (rd_s k55) rfl); have z4_ := congrArg Int32.toInt (rd_o k58 (rd_o k55 (rd_o k6 (rd_s k5) rfl) rfl) rfl); have z_ := w_lits; have zl_ := l_lits; omega) (by have z0_ := congrArg Int32.toInt (rd_o k58 (rd_o k55 (rd_o k6 (rd_o k5 ef1 rfl) rfl) rfl) rfl); have z1_ := congrArg Int32.toInt (rd_s k58); have z2_ := congrArg Int32.toInt (rd_o k58 (rd_o k55 (rd_o k6 (rd_o k5 ef0 rfl) rfl) rfl) rfl); have z3_ := congrArg Int32.toInt (rd_o k58 (rd_s k55) rfl); have z4_ := congrArg Int32.toInt (rd_o k58 (rd_o k55 (rd_o k6 (rd_s k5) rfl) rfl) rfl); have z_ := w_lits; have zl_ := l_lits; omega) (by rw [(rd_s k58)]; exact L_init b57 (by decide)))
    · have b50 : B r47 5 5 := R_eqX (B.any r47) (by decide : B 5 5 5) c48
      have z51 := congrArg Int32.toInt c48
      rw [show (5 : Int32).toInt = 5 from by decide] at z51
      refine ev_aload_n rfl rfl rfl ?_
      refine ev_iconst (v := 4) rfl rfl (by decide) ?_
      refine ev_aload_n rfl rfl rfl ?_
      refine ev_getV (v := f2) rfl rfl fl_X10_210 rfl rfl rfl (rd_o k6 (rd_o k5 ef2 rfl) rfl) ?_
      have z442 := congrArg Int32.toInt (rd_o k6 (rd_o k5 ef1 rfl) rfl)
      have z443 := congrArg Int32.toInt (rd_o k6 (rd_o k5 ef2 rfl) rfl)
      have z444 := congrArg Int32.toInt (rd_o k6 (rd_o k5 ef0 rfl) rfl)
      have z445 := congrArg Int32.toInt (rd_s k6)
      have z446 := congrArg Int32.toInt (rd_o k6 (rd_s k5) rfl)
      refine ev_V2K hJ6 rfl rfl rfl lk_X10_200 vt_X10_fails rfl rfl rfl rfl rfl (w_X10_fails_63 L b h6 hJ6.1 4 ((by decide : B 4 4 4).mono (by decide) (by decide)) f2) (fun h447 hJ447 k447 m447 => ?_)
      obtain ⟨f448, ef448⟩ : ∃ f_, h447 63 21 = f_ := ⟨_, rfl⟩
      have bf448 : B f448 0 6 := by have z_ := hJ447.1 63 21; rw [ef448] at z_; exact z_
      have zf448 := congrArg Int32.toInt ef448
      have z449 := congrArg Int32.toInt (rd_w k447 (rd_o k6 (rd_o k5 ef1 rfl) rfl) rfl)
      have z450 := congrArg Int32.toInt (rd_w k447 (rd_o k6 (rd_o k5 ef2 rfl) rfl) rfl)
      have z451 := congrArg Int32.toInt ef448
      have z452 := congrArg Int32.toInt (rd_w k447 (rd_s k6) rfl)
      have z453 := congrArg Int32.toInt (rd_w k447 (rd_o k6 (rd_s k5) rfl) rfl)
      refine ev_goto rfl rfl ?_
      refine ev_aload_n rfl rfl rfl ?_
      refine ev_dup rfl rfl rfl ?_
      refine ev_getV (v := f2) rfl rfl fl_X10_210 rfl rfl rfl (rd_w k447 (rd_o k6 (rd_o k5 ef2 rfl) rfl) rfl) ?_
      refine ev_iconst (v := 1) rfl rfl (by decide) ?_
      refine ev_iaddB (l := 1) (u := 161) rfl rfl bf2 (by decide : B 1 1 1) (by decide) (by decide) (by decide) (by decide) (fun v454 b454 e454 g454 => ?_)
      have e454x := e454; rw [show (1 : Int32).toInt = 1 from by decide] at e454x
      have b455 : B v454 0 160 := ⟨(by have z0_ := congrArg Int32.toInt (rd_w k447 (rd_o k6 (rd_o k5 ef1 rfl) rfl) rfl); have z1_ := congrArg Int32.toInt (rd_w k447 (rd_o k6 (rd_o k5 ef2 rfl) rfl) rfl); have z2_ := congrArg Int32.toInt ef448; have z3_ := congrArg Int32.toInt (rd_w k447 (rd_s k6) rfl); have z4_ := congrArg Int32.toInt (rd_w k447 (rd_o k6 (rd_s k5) rfl) rfl); have z_ := w_lits; have zl_ := l_lits; omega), (by have z0_ := congrArg Int32.toInt (rd_w k447 (rd_o k6 (rd_o k5 ef1 rfl) rfl) rfl); have z1_ := congrArg Int32.toInt (rd_w k447 (rd_o k6 (rd_o k5 ef2 rfl) rfl) rfl); have z2_ := congrArg Int32.toInt ef448; have z3_ := congrArg Int32.toInt (rd_w k447 (rd_s k6) rfl); have z4_ := congrArg Int32.toInt (rd_w k447 (rd_o k6 (rd_s k5) rfl) rfl); have z_ := w_lits; have zl_ := l_lits; omega)⟩
      refine ev_putW (l := 0) (u := 160) hJ447 rfl b455 (by decide) (by decide) rfl rfl rfl fl_X10_210 rfl rfl rfl rfl rfl (fun h456 hJ456 k456 => ?_)
      refine ev_goto rfl rfl ?_
      have lp10_744 : ∀ (n : Nat) (w745 : Int32) (h747 : Hp), B w745 0 25 → JW [(63, 17), (63, 19), (63, 20), (63, 21), (63, 22)] h h747 → (h747 63 16 = f1) → (h747 63 19 = 1) → (h747 72 (Int32.toNatClampNeg f2) = t) → ((h747 63 17).toInt ≤ (h747 63 16).toInt) → ((h 63 17).toInt + 1 ≤ (h747 63 17).toInt) → (0 ≤ (h747 63 20).toInt ∧ (h747 63 20).toInt ≤ 4095) → 160 + 1 - (h747 63 17).toInt ≤ (n : Int) → EvQ mi_X10_readChord 10 [some (.ref 63), some (.int w745)] [] (G0 L b) h747 0 0 (QK (fun z : Hp => ((z 63 17).toInt ≤ (z 63 16).toInt) ∧ ((h 63 17).toInt + 1 ≤ (z 63 17).toInt) ∧ ((z 63 19).toInt = 1) ∧ (0 ≤ (z 63 20).toInt ∧ (z 63 20).toInt ≤ 4095)) [(63, 17), (63, 19), (63, 20), (63, 21), (63, 22)] (G0 L b) h) := by
        intro n
        induction n with
        | zero =>
          intro w745 h747 b746 hJ748 z749 z750 z751 y10_0 y10_1 y10_2 hm10
          obtain ⟨f752, ef752⟩ : ∃ f_, h747 63 17 = f_ := ⟨_, rfl⟩
          have bf752 : B f752 0 160 := by
            have z_ := hJ748.1 63 17
            rw [ef752] at z_
            exact z_
          rw [ef752] at hm10
          exact absurd hm10 (L_zero bf752 (by decide))
        | succ n ih10 =>
          intro w745 h747 b746 hJ748 z749 z750 z751 y10_0 y10_1 y10_2 hm10
          obtain ⟨f752, ef752⟩ : ∃ f_, h747 63 17 = f_ := ⟨_, rfl⟩
          have bf752 : B f752 0 160 := by
            have z_ := hJ748.1 63 17
            rw [ef752] at z_
            exact z_
          rw [ef752] at hm10
          obtain ⟨f753, ef753⟩ : ∃ f_, h747 63 21 = f_ := ⟨_, rfl⟩
          have bf753 : B f753 0 6 := by have z_ := hJ748.1 63 21; rw [ef753] at z_; exact z_
          have zf753 := congrArg Int32.toInt ef753
          obtain ⟨f754, ef754⟩ : ∃ f_, h747 63 20 = f_ := ⟨_, rfl⟩
          have bf754 : B f754 (-2147483648) 2147483647 := by have z_ := hJ748.1 63 20; rw [ef754] at z_; exact z_
          have zf754 := congrArg Int32.toInt ef754
          have z755 := congrArg Int32.toInt z749
          have z756 := congrArg Int32.toInt ef752
          have z757 := congrArg Int32.toInt ef753
          have z758 := congrArg Int32.toInt ef754
          have z759 := congrArg Int32.toInt z750
          refine ev_aload_n rfl rfl rfl ?_
          refine ev_aload_n rfl rfl rfl ?_
          refine ev_getV (v := f752) rfl rfl fl_X10_210 rfl rfl rfl ef752 ?_
          obtain ⟨t760, et760⟩ : ∃ f_, h747 72 (Int32.toNatClampNeg f752) = f_ := ⟨_, rfl⟩
          have bt760 : B t760 0 255 := by have z_ := hJ748.1 72 (Int32.toNatClampNeg f752); rw [et760] at z_; exact z_
          have z761 := congrArg Int32.toInt z749
          have z762 := congrArg Int32.toInt ef752
          have z763 := congrArg Int32.toInt ef753
          have z764 := congrArg Int32.toInt ef754
          have z765 := congrArg Int32.toInt z750
          refine ev_V1P rfl rfl lk_X10_213 vt_X10_look rfl rfl rfl rfl rfl (w_X10_look_63 L b h747 hJ748.1 f752 bf752 t760 et760) (fun r766 q766 => ?_)
          obtain ⟨b766, pp766_0, pp766_1⟩ := q766
          refine ev_i2l rfl rfl ?_
          have z767 := Int32.toInt_toInt64 r766
          have z767b := B.any r766
          refine ev_ldc2 (v := 97) rfl rfl kc_X10_216 ?_
          refine ev_ldc2 (v := 122) rfl rfl kc_X10_218 ?_
          have z768 := congrArg Int32.toInt z749
          have z769 := congrArg Int32.toInt ef752
          have z770 := congrArg Int32.toInt ef753
          have z771 := congrArg Int32.toInt ef754
          have z772 := congrArg Int32.toInt z750
          refine ev_S3P rfl rfl lk_X10_124 st_X10_in rfl rfl (w_inR (G0 L b) h747 r766 97 122 (by decide : BL 97 97 97) (by decide : BL 122 122 122)) (fun r773 q773 => ?_)
          obtain ⟨b773, p773_0, pp773_0, pp773_1⟩ := q773
          refine ev_if_eq rfl rfl (fun c774 => ?_) (fun c774 => ?_)
          · have b775 : B r773 0 0 := R_eqX b773 (by decide : B 0 0 0) c774
            have z776 := congrArg Int32.toInt c774
            rw [show (0 : Int32).toInt = 0 from by decide] at z776
            exact ev_vret rfl rfl trivial ⟨rfl, rfl, hJ748, (by have z0_ := congrArg Int32.toInt z749; have z1_ := congrArg Int32.toInt ef752; have z2_ := congrArg Int32.toInt ef753; have z3_ := congrArg Int32.toInt ef754; have z4_ := congrArg Int32.toInt z750; have z_ := w_lits; have zl_ := l_lits; omega), (by have z0_ := congrArg Int32.toInt z749; have z1_ := congrArg Int32.toInt ef752; have z2_ := congrArg Int32.toInt ef753; have z3_ := congrArg Int32.toInt ef754; have z4_ := congrArg Int32.toInt z750; have z_ := w_lits; have zl_ := l_lits; omega), (by have z0_ := congrArg Int32.toInt z749; have z1_ := congrArg Int32.toInt ef752; have z2_ := congrArg Int32.toInt ef753; have z3_ := congrArg Int32.toInt ef754; have z4_ := congrArg Int32.toInt z750; have z_ := w_lits; have zl_ := l_lits; omega), (by have z0_ := congrArg Int32.toInt z749; have z1_ := congrArg Int32.toInt ef752; have z2_ := congrArg Int32.toInt ef753; have z3_ := congrArg Int32.toInt ef754; have z4_ := congrArg Int32.toInt z750; have z_ := w_lits; have zl_ := l_lits; omega)⟩
          · have b777 : B r773 1 1 := R_neL b773 (by decide : B 0 0 0) c774 (by decide)
            have b778 : B r766 97 122 := p773_0 c774
            have z779 := w_ne c774
            rw [show (0 : Int32).toInt = 0 from by decide] at z779
            refine ev_aload_n rfl rfl rfl ?_
            refine ev_getV (v := f753) rfl rfl fl_X10_191 rfl rfl rfl ef753 ?_
            refine ev_if_ne rfl rfl (fun c780 => ?_) (fun c780 => ?_)
            · have b781 : B f753 1 6 := R_neL bf753 (by decide : B 0 0 0) c780 (by decide)
              have z782 := w_ne c780
              rw [show (0 : Int32).toInt = 0 from by decide] at z782
              exact ev_vret rfl rfl trivial ⟨rfl, rfl, hJ748, (by have z0_ := congrArg Int32.toInt z749; have z1_ := congrArg Int32.toInt ef752; have z2_ := congrArg Int32.toInt ef753; have z3_ := congrArg Int32.toInt ef754; have z4_ := congrArg Int32.toInt z750; have z_ := w_lits; have zl_ := l_lits; omega), (by have z0_ := congrArg Int32.toInt z749; have z1_ := congrArg Int32.toInt ef752; have z2_ := congrArg Int32.toInt ef753; have z3_ := congrArg Int32.toInt ef754; have z4_ := congrArg Int32.toInt z750; have z_ := w_lits; have zl_ := l_lits; omega), (by have z0_ := congrArg Int32.toInt z749; have z1_ := congrArg Int32.toInt ef752; have z2_ := congrArg Int32.toInt ef753; have z3_ := congrArg Int32.toInt ef754; have z4_ := congrArg Int32.toInt z750; have z_ := w_lits; have zl_ := l_lits; omega), (by have z0_ := congrArg Int32.toInt z749; have z1_ := congrArg Int32.toInt ef752; have z2_ := congrArg Int32.toInt ef753; have z3_ := congrArg Int32.toInt ef754; have z4_ := congrArg Int32.toInt z750; have z_ := w_lits; have zl_ := l_lits; omega)⟩
            · have b783 : B f753 0 0 := R_eqX bf753 (by decide : B 0 0 0) c780
              have z784 := congrArg Int32.toInt c780
              rw [show (0 : Int32).toInt = 0 from by decide] at z784
              refine ev_aload_n rfl rfl rfl ?_
              refine ev_aload_n rfl rfl rfl ?_
              refine ev_getV (v := f752) rfl rfl fl_X10_210 rfl rfl rfl ef752 ?_
              have z785 := congrArg Int32.toInt z749
              have z786 := congrArg Int32.toInt ef752
              have z787 := congrArg Int32.toInt ef753
              have z788 := congrArg Int32.toInt ef754
              have z789 := congrArg Int32.toInt z750
              refine ev_V1P rfl rfl lk_X10_213 vt_X10_look rfl rfl rfl rfl rfl (w_X10_look_63 L b h747 hJ748.1 f752 bf752 t760 et760) (fun r790 q790 => ?_)
              obtain ⟨b790, pp790_0, pp790_1⟩ := q790
              refine ev_bipush (v := 97) rfl rfl (by decide) ?_
              have b791 : B r790 97 122 := ⟨(by have z0_ := congrArg Int32.toInt z749; have z1_ := congrArg Int32.toInt ef752; have z2_ := congrArg Int32.toInt ef753; have z3_ := congrArg Int32.toInt ef754; have z4_ := congrArg Int32.toInt z750; have z_ := w_lits; have zl_ := l_lits; omega), (by have z0_ := congrArg Int32.toInt z749; have z1_ := congrArg Int32.toInt ef752; have z2_ := congrArg Int32.toInt ef753; have z3_ := congrArg Int32.toInt ef754; have z4_ := congrArg Int32.toInt z750; have z_ := w_lits; have zl_ := l_lits; omega)⟩
              refine ev_isubB (l := 0) (u := 25) rfl rfl b791 (by decide : B 97 97 97) (by decide) (by decide) (by decide) (by decide) (fun v792 b792 e792 g792 => ?_)
              have e792x := e792; rw [show (97 : Int32).toInt = 97 from by decide] at e792x
              refine ev_istore_n rfl rfl rfl rfl ?_
              dsimp only [List.set]
              refine ev_iload_n rfl rfl rfl ?_
              refine ev_bipush (v := 11) rfl rfl (by decide) ?_
              refine ev_icmp_le rfl rfl (fun c793 => ?_) (fun c793 => ?_)
              · have b794 : B v792 0 11 := R_leX b792 (by decide : B 11 11 11) c793 (by decide)
                have b795 : B r790 97 108 := (R_bks (l' := 97) (u' := 108) e792 b794 (by decide : B 97 97 97) (by decide) (by decide))
                have z796 := w_le c793
                rw [show (11 : Int32).toInt = 11 from by decide] at z796
                refine ev_aload_n rfl rfl rfl ?_
                refine ev_getV (v := f754) rfl rfl fl_X10_207 rfl rfl rfl ef754 ?_
                refine ev_iload_n rfl rfl rfl ?_
                refine ev_ishrA rfl rfl (fun v800 => ?_)
                refine ev_iconst (v := 1) rfl rfl (by decide) ?_
                refine ev_iandB rfl rfl (by decide : B 1 1 1) (by decide) (fun v801 b801 e801 => ?_)
                refine ev_iconst (v := 1) rfl rfl (by decide) ?_
                refine ev_icmp_eq rfl rfl (fun c802 => ?_) (fun c802 => ?_)
                · have b803 : B v801 1 1 := R_eqX b801 (by decide : B 1 1 1) c802
                  have z804 := congrArg Int32.toInt c802
                  rw [show (1 : Int32).toInt = 1 from by decide] at z804
                  refine ev_aload_n rfl rfl rfl ?_
                  refine ev_iconst (v := 4) rfl rfl (by decide) ?_
                  refine ev_aload_n rfl rfl rfl ?_
                  refine ev_getV (v := f752) rfl rfl fl_X10_210 rfl rfl rfl ef752 ?_
                  have z807 := congrArg Int32.toInt z749
                  have z808 := congrArg Int32.toInt ef752
                  have z809 := congrArg Int32.toInt ef753
                  have z810 := congrArg Int32.toInt ef754
                  have z811 := congrArg Int32.toInt z750
                  refine ev_V2K hJ748 rfl rfl rfl lk_X10_200 vt_X10_fails rfl rfl rfl rfl rfl (w_X10_fails_63 L b h747 hJ748.1 4 ((by decide : B 4 4 4).mono (by decide) (by decide)) f752) (fun h812 hJ812 k812 m812 => ?_)
                  obtain ⟨f813, ef813⟩ : ∃ f_, h812 63 21 = f_ := ⟨_, rfl⟩
                  have bf813 : B f813 0 6 := by have z_ := hJ812.1 63 21; rw [ef813] at z_; exact z_
                  have zf813 := congrArg Int32.toInt ef813
                  have z814 := congrArg Int32.toInt (rd_w k812 z749 rfl)
                  have z815 := congrArg Int32.toInt (rd_w k812 ef752 rfl)
                  have z816 := congrArg Int32.toInt ef813
                  have z817 := congrArg Int32.toInt (rd_w k812 ef754 rfl)
                  have z818 := congrArg Int32.toInt (rd_w k812 z750 rfl)
                  refine ev_goto rfl rfl ?_
                  refine ev_aload_n rfl rfl rfl ?_
                  refine ev_dup rfl rfl rfl ?_
                  refine ev_getV (v := f752) rfl rfl fl_X10_210 rfl rfl rfl (rd_w k812 ef752 rfl) ?_
                  refine ev_iconst (v := 1) rfl rfl (by decide) ?_
                  refine ev_iaddB (l := 1) (u := 161) rfl rfl bf752 (by decide : B 1 1 1) (by decide) (by decide) (by decide) (by decide) (fun v819 b819 e819 g819 => ?_)
                  have e819x := e819; rw [show (1 : Int32).toInt = 1 from by decide] at e819x
                  have b820 : B v819 0 160 := ⟨(by have z0_ := congrArg Int32.toInt (rd_w k812 z749 rfl); have z1_ := congrArg Int32.toInt (rd_w k812 ef752 rfl); have z2_ := congrArg Int32.toInt ef813; have z3_ := congrArg Int32.toInt (rd_w k812 ef754 rfl); have z4_ := congrArg Int32.toInt (rd_w k812 z750 rfl); have z_ := w_lits; have zl_ := l_lits; omega), (by have z0_ := congrArg Int32.toInt (rd_w k812 z749 rfl); have z1_ := congrArg Int32.toInt (rd_w k812 ef752 rfl); have z2_ := congrArg Int32.toInt ef813; have z3_ := congrArg Int32.toInt (rd_w k812 ef754 rfl); have z4_ := congrArg Int32.toInt (rd_w k812 z750 rfl); have z_ := w_lits; have zl_ := l_lits; omega)⟩
                  refine ev_putW (l := 0) (u := 160) hJ812 rfl b820 (by decide) (by decide) rfl rfl rfl fl_X10_210 rfl rfl rfl rfl rfl (fun h821 hJ821 k821 => ?_)
                  refine ev_goto rfl rfl ?_
                  exact (ih10 v792 h821 (b794.mono (by decide) (by decide)) hJ821 (rd_o k821 (rd_w k812 z749 rfl) rfl) (rd_o k821 (rd_w k812 z750 rfl) rfl) (rd_o k821 (rd_w k812 z751 rfl) rfl) (by have z0_ := congrArg Int32.toInt (rd_o k821 (rd_w k812 z749 rfl) rfl); have z1_ := congrArg Int32.toInt (rd_s k821); have z2_ := congrArg Int32.toInt (rd_o k821 ef813 rfl); have z3_ := congrArg Int32.toInt (rd_o k821 (rd_w k812 ef754 rfl) rfl); have z4_ := congrArg Int32.toInt (rd_o k821 (rd_w k812 z750 rfl) rfl); have z_ := w_lits; have zl_ := l_lits; omega) (by have z0_ := congrArg Int32.toInt (rd_o k821 (rd_w k812 z749 rfl) rfl); have z1_ := congrArg Int32.toInt (rd_s k821); have z2_ := congrArg Int32.toInt (rd_o k821 ef813 rfl); have z3_ := congrArg Int32.toInt (rd_o k821 (rd_w k812 ef754 rfl) rfl); have z4_ := congrArg Int32.toInt (rd_o k821 (rd_w k812 z750 rfl) rfl); have z_ := w_lits; have zl_ := l_lits; omega) (by have z0_ := congrArg Int32.toInt (rd_o k821 (rd_w k812 z749 rfl) rfl); have z1_ := congrArg Int32.toInt (rd_s k821); have z2_ := congrArg Int32.toInt (rd_o k821 ef813 rfl); have z3_ := congrArg Int32.toInt (rd_o k821 (rd_w k812 ef754 rfl) rfl); have z4_ := congrArg Int32.toInt (rd_o k821 (rd_w k812 z750 rfl) rfl); have z_ := w_lits; have zl_ := l_lits; omega) (by rw [(rd_s k821)]; exact L_up hm10 (e_p1 e819 (by decide))))
                · have b805 : B v801 0 0 := R_neU b801 (by decide : B 1 1 1) c802 (by decide)
                  have z806 := w_ne c802
                  rw [show (1 : Int32).toInt = 1 from by decide] at z806
                  refine ev_aload_n rfl rfl rfl ?_
                  refine ev_getV (v := f754) rfl rfl fl_X10_207 rfl rfl rfl ef754 ?_
                  refine ev_S1P rfl rfl lk_X10_220 st_X10_bits rfl rfl (w_X10_bits L b h747 hJ748.1 f754) (fun r822 q822 => ?_)
                  refine ev_iconst (v := 5) rfl rfl (by decide) ?_
                  refine ev_icmp_ne rfl rfl (fun c823 => ?_) (fun c823 => ?_)
                  · have z824 := w_ne c823
                    rw [show (5 : Int32).toInt = 5 from by decide] at z824
                    refine ev_aload_n rfl rfl rfl ?_
                    refine ev_dup rfl rfl rfl ?_
                    refine ev_getV (v := f754) rfl rfl fl_X10_207 rfl rfl rfl ef754 ?_
                    refine ev_iconst (v := 1) rfl rfl (by decide) ?_
                    refine ev_iload_n rfl rfl rfl ?_
                    refine ev_ishlB rfl rfl b794 (by decide) (by decide) (fun v827 b827 => ?_)
                    have b828 : B f754 0 4095 := ⟨(by have z0_ := congrArg Int32.toInt z749; have z1_ := congrArg Int32.toInt ef752; have z2_ := congrArg Int32.toInt ef753; have z3_ := congrArg Int32.toInt ef754; have z4_ := congrArg Int32.toInt z750; have z_ := w_lits; have zl_ := l_lits; omega), (by have z0_ := congrArg Int32.toInt z749; have z1_ := congrArg Int32.toInt ef752; have z2_ := congrArg Int32.toInt ef753; have z3_ := congrArg Int32.toInt ef754; have z4_ := congrArg Int32.toInt z750; have z_ := w_lits; have zl_ := l_lits; omega)⟩
                    refine ev_iorB 12 (u := 4095) rfl rfl b828 b827 (by decide) (by decide) (by decide) (by decide) (by decide) (by decide) (fun v829 b829 e829 => ?_)
                    refine ev_putW (l := (-2147483648)) (u := 2147483647) hJ748 rfl b829 (by decide) (by decide) rfl rfl rfl fl_X10_207 rfl rfl rfl rfl rfl (fun h830 hJ830 k830 => ?_)
                    refine ev_aload_n rfl rfl rfl ?_
                    refine ev_dup rfl rfl rfl ?_
                    refine ev_getV (v := f752) rfl rfl fl_X10_210 rfl rfl rfl (rd_o k830 ef752 rfl) ?_
                    refine ev_iconst (v := 1) rfl rfl (by decide) ?_
                    refine ev_iaddB (l := 1) (u := 161) rfl rfl bf752 (by decide : B 1 1 1) (by decide) (by decide) (by decide) (by decide) (fun v831 b831 e831 g831 => ?_)
                    have e831x := e831; rw [show (1 : Int32).toInt = 1 from by decide] at e831x
                    have b832 : B v831 0 160 := ⟨(by have z0_ := congrArg Int32.toInt (rd_o k830 z749 rfl); have z1_ := congrArg Int32.toInt (rd_o k830 ef752 rfl); have z2_ := congrArg Int32.toInt (rd_o k830 ef753 rfl); have z3_ := congrArg Int32.toInt (rd_s k830); have z4_ := congrArg Int32.toInt (rd_o k830 z750 rfl); have z_ := w_lits; have zl_ := l_lits; omega), (by have z0_ := congrArg Int32.toInt (rd_o k830 z749 rfl); have z1_ := congrArg Int32.toInt (rd_o k830 ef752 rfl); have z2_ := congrArg Int32.toInt (rd_o k830 ef753 rfl); have z3_ := congrArg Int32.toInt (rd_s k830); have z4_ := congrArg Int32.toInt (rd_o k830 z750 rfl); have z_ := w_lits; have zl_ := l_lits; omega)⟩
                    refine ev_putW (l := 0) (u := 160) hJ830 rfl b832 (by decide) (by decide) rfl rfl rfl fl_X10_210 rfl rfl rfl rfl rfl (fun h833 hJ833 k833 => ?_)
                    refine ev_goto rfl rfl ?_
                    exact (ih10 v792 h833 (b794.mono (by decide) (by decide)) hJ833 (rd_o k833 (rd_o k830 z749 rfl) rfl) (rd_o k833 (rd_o k830 z750 rfl) rfl) (rd_o k833 (rd_o k830 z751 rfl) rfl) (by have z0_ := congrArg Int32.toInt (rd_o k833 (rd_o k830 z749 rfl) rfl); have z1_ := congrArg Int32.toInt (rd_s k833); have z2_ := congrArg Int32.toInt (rd_o k833 (rd_o k830 ef753 rfl) rfl); have z3_ := congrArg Int32.toInt (rd_o k833 (rd_s k830) rfl); have z4_ := congrArg Int32.toInt (rd_o k833 (rd_o k830 z750 rfl) rfl); have z_ := w_lits; have zl_ := l_lits; omega) (by have z0_ := congrArg Int32.toInt (rd_o k833 (rd_o k830 z749 rfl) rfl); have z1_ := congrArg Int32.toInt (rd_s k833); have z2_ := congrArg Int32.toInt (rd_o k833 (rd_o k830 ef753 rfl) rfl); have z3_ := congrArg Int32.toInt (rd_o k833 (rd_s k830) rfl); have z4_ := congrArg Int32.toInt (rd_o k833 (rd_o k830 z750 rfl) rfl); have z_ := w_lits; have zl_ := l_lits; omega) (by have z0_ := congrArg Int32.toInt (rd_o k833 (rd_o k830 z749 rfl) rfl); have z1_ := congrArg Int32.toInt (rd_s k833); have z2_ := congrArg Int32.toInt (rd_o k833 (rd_o k830 ef753 rfl) rfl); have z3_ := congrArg Int32.toInt (rd_o k833 (rd_s k830) rfl); have z4_ := congrArg Int32.toInt (rd_o k833 (rd_o k830 z750 rfl) rfl); have z_ := w_lits; have zl_ := l_lits; omega) (by rw [(rd_s k833)]; exact L_up hm10 (e_p1 e831 (by decide))))
                  · have b825 : B r822 5 5 := R_eqX (B.any r822) (by decide : B 5 5 5) c823
                    have z826 := congrArg Int32.toInt c823
                    rw [show (5 : Int32).toInt = 5 from by decide] at z826
                    refine ev_aload_n rfl rfl rfl ?_
                    refine ev_iconst (v := 4) rfl rfl (by decide) ?_
                    refine ev_aload_n rfl rfl rfl ?_
                    refine ev_getV (v := f752) rfl rfl fl_X10_210 rfl rfl rfl ef752 ?_
                    have z834 := congrArg Int32.toInt z749
                    have z835 := congrArg Int32.toInt ef752
                    have z836 := congrArg Int32.toInt ef753
                    have z837 := congrArg Int32.toInt ef754
                    have z838 := congrArg Int32.toInt z750
                    refine ev_V2K hJ748 rfl rfl rfl lk_X10_200 vt_X10_fails rfl rfl rfl rfl rfl (w_X10_fails_63 L b h747 hJ748.1 4 ((by decide : B 4 4 4).mono (by decide) (by decide)) f752) (fun h839 hJ839 k839 m839 => ?_)
                    obtain ⟨f840, ef840⟩ : ∃ f_, h839 63 21 = f_ := ⟨_, rfl⟩
                    have bf840 : B f840 0 6 := by have z_ := hJ839.1 63 21; rw [ef840] at z_; exact z_
                    have zf840 := congrArg Int32.toInt ef840
                    have z841 := congrArg Int32.toInt (rd_w k839 z749 rfl)
                    have z842 := congrArg Int32.toInt (rd_w k839 ef752 rfl)
                    have z843 := congrArg Int32.toInt ef840
                    have z844 := congrArg Int32.toInt (rd_w k839 ef754 rfl)
                    have z845 := congrArg Int32.toInt (rd_w k839 z750 rfl)
                    refine ev_goto rfl rfl ?_
                    refine ev_aload_n rfl rfl rfl ?_
                    refine ev_dup rfl rfl rfl ?_
                    refine ev_getV (v := f752) rfl rfl fl_X10_210 rfl rfl rfl (rd_w k839 ef752 rfl) ?_
                    refine ev_iconst (v := 1) rfl rfl (by decide) ?_
                    refine ev_iaddB (l := 1) (u := 161) rfl rfl bf752 (by decide : B 1 1 1) (by decide) (by decide) (by decide) (by decide) (fun v846 b846 e846 g846 => ?_)
                    have e846x := e846; rw [show (1 : Int32).toInt = 1 from by decide] at e846x
                    have b847 : B v846 0 160 := ⟨(by have z0_ := congrArg Int32.toInt (rd_w k839 z749 rfl); have z1_ := congrArg Int32.toInt (rd_w k839 ef752 rfl); have z2_ := congrArg Int32.toInt ef840; have z3_ := congrArg Int32.toInt (rd_w k839 ef754 rfl); have z4_ := congrArg Int32.toInt (rd_w k839 z750 rfl); have z_ := w_lits; have zl_ := l_lits; omega), (by have z0_ := congrArg Int32.toInt (rd_w k839 z749 rfl); have z1_ := congrArg Int32.toInt (rd_w k839 ef752 rfl); have z2_ := congrArg Int32.toInt ef840; have z3_ := congrArg Int32.toInt (rd_w k839 ef754 rfl); have z4_ := congrArg Int32.toInt (rd_w k839 z750 rfl); have z_ := w_lits; have zl_ := l_lits; omega)⟩
                    refine ev_putW (l := 0) (u := 160) hJ839 rfl b847 (by decide) (by decide) rfl rfl rfl fl_X10_210 rfl rfl rfl rfl rfl (fun h848 hJ848 k848 => ?_)
                    refine ev_goto rfl rfl ?_
                    exact (ih10 v792 h848 (b794.mono (by decide) (by decide)) hJ848 (rd_o k848 (rd_w k839 z749 rfl) rfl) (rd_o k848 (rd_w k839 z750 rfl) rfl) (rd_o k848 (rd_w k839 z751 rfl) rfl) (by have z0_ := congrArg Int32.toInt (rd_o k848 (rd_w k839 z749 rfl) rfl); have z1_ := congrArg Int32.toInt (rd_s k848); have z2_ := congrArg Int32.toInt (rd_o k848 ef840 rfl); have z3_ := congrArg Int32.toInt (rd_o k848 (rd_w k839 ef754 rfl) rfl); have z4_ := congrArg Int32.toInt (rd_o k848 (rd_w k839 z750 rfl) rfl); have z_ := w_lits; have zl_ := l_lits; omega) (by have z0_ := congrArg Int32.toInt (rd_o k848 (rd_w k839 z749 rfl) rfl); have z1_ := congrArg Int32.toInt (rd_s k848); have z2_ := congrArg Int32.toInt (rd_o k848 ef840 rfl); have z3_ := congrArg Int32.toInt (rd_o k848 (rd_w k839 ef754 rfl) rfl); have z4_ := congrArg Int32.toInt (rd_o k848 (rd_w k839 z750 rfl) rfl); have z_ := w_lits; have zl_ := l_lits; omega) (by have z0_ := congrArg Int32.toInt (rd_o k848 (rd_w k839 z749 rfl) rfl); have z1_ := congrArg Int32.toInt (rd_s k848); have z2_ := congrArg Int32.toInt (rd_o k848 ef840 rfl); have z3_ := congrArg Int32.toInt (rd_o k848 (rd_w k839 ef754 rfl) rfl); have z4_ := congrArg Int32.toInt (rd_o k848 (rd_w k839 z750 rfl) rfl); have z_ := w_lits; have zl_ := l_lits; omega) (by rw [(rd_s k848)]; exact L_up hm10 (e_p1 e846 (by decide))))
              · have b797 : B v792 12 25 := R_ltY (by decide : B 11 11 11) b792 (Int32.not_le.mp c793) (by decide)
                have b798 : B r790 109 122 := (R_bks (l' := 109) (u' := 122) e792 b797 (by decide : B 97 97 97) (by decide) (by decide))
                have z799 := w_lt (Int32.not_le.mp c793)
                rw [show (11 : Int32).toInt = 11 from by decide] at z799
                refine ev_aload_n rfl rfl rfl ?_
                refine ev_iconst (v := 1) rfl rfl (by decide) ?_
                refine ev_aload_n rfl rfl rfl ?_
                refine ev_getV (v := f752) rfl rfl fl_X10_210 rfl rfl rfl ef752 ?_
                have z849 := congrArg Int32.toInt z749
                have z850 := congrArg Int32.toInt ef752
                have z851 := congrArg Int32.toInt ef753
                have z852 := congrArg Int32.toInt ef754
                have z853 := congrArg Int32.toInt z750
                refine ev_V2K hJ748 rfl rfl rfl lk_X10_200 vt_X10_fails rfl rfl rfl rfl rfl (w_X10_fails_63 L b h747 hJ748.1 1 ((by decide : B 1 1 1).mono (by decide) (by decide)) f752) (fun h854 hJ854 k854 m854 => ?_)
                obtain ⟨f855, ef855⟩ : ∃ f_, h854 63 21 = f_ := ⟨_, rfl⟩
                have bf855 : B f855 0 6 := by have z_ := hJ854.1 63 21; rw [ef855] at z_; exact z_
                have zf855 := congrArg Int32.toInt ef855
                have z856 := congrArg Int32.toInt (rd_w k854 z749 rfl)
                have z857 := congrArg Int32.toInt (rd_w k854 ef752 rfl)
                have z858 := congrArg Int32.toInt ef855
                have z859 := congrArg Int32.toInt (rd_w k854 ef754 rfl)
                have z860 := congrArg Int32.toInt (rd_w k854 z750 rfl)
                refine ev_goto rfl rfl ?_
                refine ev_aload_n rfl rfl rfl ?_
                refine ev_dup rfl rfl rfl ?_
                refine ev_getV (v := f752) rfl rfl fl_X10_210 rfl rfl rfl (rd_w k854 ef752 rfl) ?_
                refine ev_iconst (v := 1) rfl rfl (by decide) ?_
                refine ev_iaddB (l := 1) (u := 161) rfl rfl bf752 (by decide : B 1 1 1) (by decide) (by decide) (by decide) (by decide) (fun v861 b861 e861 g861 => ?_)
                have e861x := e861; rw [show (1 : Int32).toInt = 1 from by decide] at e861x
                have b862 : B v861 0 160 := ⟨(by have z0_ := congrArg Int32.toInt (rd_w k854 z749 rfl); have z1_ := congrArg Int32.toInt (rd_w k854 ef752 rfl); have z2_ := congrArg Int32.toInt ef855; have z3_ := congrArg Int32.toInt (rd_w k854 ef754 rfl); have z4_ := congrArg Int32.toInt (rd_w k854 z750 rfl); have z_ := w_lits; have zl_ := l_lits; omega), (by have z0_ := congrArg Int32.toInt (rd_w k854 z749 rfl); have z1_ := congrArg Int32.toInt (rd_w k854 ef752 rfl); have z2_ := congrArg Int32.toInt ef855; have z3_ := congrArg Int32.toInt (rd_w k854 ef754 rfl); have z4_ := congrArg Int32.toInt (rd_w k854 z750 rfl); have z_ := w_lits; have zl_ := l_lits; omega)⟩
                refine ev_putW (l := 0) (u := 160) hJ854 rfl b862 (by decide) (by decide) rfl rfl rfl fl_X10_210 rfl rfl rfl rfl rfl (fun h863 hJ863 k863 => ?_)
                refine ev_goto rfl rfl ?_
                exact (ih10 v792 h863 (b797.mono (by decide) (by decide)) hJ863 (rd_o k863 (rd_w k854 z749 rfl) rfl) (rd_o k863 (rd_w k854 z750 rfl) rfl) (rd_o k863 (rd_w k854 z751 rfl) rfl) (by have z0_ := congrArg Int32.toInt (rd_o k863 (rd_w k854 z749 rfl) rfl); have z1_ := congrArg Int32.toInt (rd_s k863); have z2_ := congrArg Int32.toInt (rd_o k863 ef855 rfl); have z3_ := congrArg Int32.toInt (rd_o k863 (rd_w k854 ef754 rfl) rfl); have z4_ := congrArg Int32.toInt (rd_o k863 (rd_w k854 z750 rfl) rfl); have z_ := w_lits; have zl_ := l_lits; omega) (by have z0_ := congrArg Int32.toInt (rd_o k863 (rd_w k854 z749 rfl) rfl); have z1_ := congrArg Int32.toInt (rd_s k863); have z2_ := congrArg Int32.toInt (rd_o k863 ef855 rfl); have z3_ := congrArg Int32.toInt (rd_o k863 (rd_w k854 ef754 rfl) rfl); have z4_ := congrArg Int32.toInt (rd_o k863 (rd_w k854 z750 rfl) rfl); have z_ := w_lits; have zl_ := l_lits; omega) (by have z0_ := congrArg Int32.toInt (rd_o k863 (rd_w k854 z749 rfl) rfl); have z1_ := congrArg Int32.toInt (rd_s k863); have z2_ := congrArg Int32.toInt (rd_o k863 ef855 rfl); have z3_ := congrArg Int32.toInt (rd_o k863 (rd_w k854 ef754 rfl) rfl); have z4_ := congrArg Int32.toInt (rd_o k863 (rd_w k854 z750 rfl) rfl); have z_ := w_lits; have zl_ := l_lits; omega) (by rw [(rd_s k863)]; exact L_up hm10 (e_p1 e861 (by decide))))
      exact (lp10_744 161 v35 h456 (b37.mono (by decide) (by decide)) hJ456 (rd_o k456 (rd_w k447 (rd_o k6 (rd_o k5 ef1 rfl) rfl) rfl) rfl) (rd_o k456 (rd_w k447 (rd_o k6 (rd_s k5) rfl) rfl) rfl) (rd_o k456 (rd_w k447 (rd_o k6 (rd_o k5 rt rfl) rfl) rfl) rfl) (by have z0_ := congrArg Int32.toInt (rd_o k456 (rd_w k447 (rd_o k6 (rd_o k5 ef1 rfl) rfl) rfl) rfl); have z1_ := congrArg Int32.toInt (rd_s k456); have z2_ := congrArg Int32.toInt (rd_o k456 ef448 rfl); have z3_ := congrArg Int32.toInt (rd_o k456 (rd_w k447 (rd_s k6) rfl) rfl); have z4_ := congrArg Int32.toInt (rd_o k456 (rd_w k447 (rd_o k6 (rd_s k5) rfl) rfl) rfl); have z_ := w_lits; have zl_ := l_lits; omega) (by have z0_ := congrArg Int32.toInt (rd_o k456 (rd_w k447 (rd_o k6 (rd_o k5 ef1 rfl) rfl) rfl) rfl); have z1_ := congrArg Int32.toInt (rd_s k456); have z2_ := congrArg Int32.toInt (rd_o k456 ef448 rfl); have z3_ := congrArg Int32.toInt (rd_o k456 (rd_w k447 (rd_s k6) rfl) rfl); have z4_ := congrArg Int32.toInt (rd_o k456 (rd_w k447 (rd_o k6 (rd_s k5) rfl) rfl) rfl); have z_ := w_lits; have zl_ := l_lits; omega) (by have z0_ := congrArg Int32.toInt (rd_o k456 (rd_w k447 (rd_o k6 (rd_o k5 ef1 rfl) rfl) rfl) rfl); have z1_ := congrArg Int32.toInt (rd_s k456); have z2_ := congrArg Int32.toInt (rd_o k456 ef448 rfl); have z3_ := congrArg Int32.toInt (rd_o k456 (rd_w k447 (rd_s k6) rfl) rfl); have z4_ := congrArg Int32.toInt (rd_o k456 (rd_w k447 (rd_o k6 (rd_s k5) rfl) rfl) rfl); have z_ := w_lits; have zl_ := l_lits; omega) (by rw [(rd_s k456)]; exact L_init b455 (by decide)))
  · have b40 : B v35 12 25 := R_ltY (by decide : B 11 11 11) b35 (Int32.not_le.mp c36) (by decide)
    have b41 : B r33 109 122 := (R_bks (l' := 109) (u' := 122) e35 b40 (by decide : B 97 97 97) (by decide) (by decide))
    have z42 := w_lt (Int32.not_le.mp c36)
    rw [show (11 : Int32).toInt = 11 from by decide] at z42
    refine ev_aload_n rfl rfl rfl ?_
    refine ev_iconst (v := 1) rfl rfl (by decide) ?_
    refine ev_aload_n rfl rfl rfl ?_
    refine ev_getV (v := f2) rfl rfl fl_X10_210 rfl rfl rfl (rd_o k6 (rd_o k5 ef2 rfl) rfl) ?_
    have z864 := congrArg Int32.toInt (rd_o k6 (rd_o k5 ef1 rfl) rfl)
    have z865 := congrArg Int32.toInt (rd_o k6 (rd_o k5 ef2 rfl) rfl)
    have z866 := congrArg Int32.toInt (rd_o k6 (rd_o k5 ef0 rfl) rfl)
    have z867 := congrArg Int32.toInt (rd_s k6)
    have z868 := congrArg Int32.toInt (rd_o k6 (rd_s k5) rfl)
    refine ev_V2K hJ6 rfl rfl rfl lk_X10_200 vt_X10_fails rfl rfl rfl rfl rfl (w_X10_fails_63 L b h6 hJ6.1 1 ((by decide : B 1 1 1).mono (by decide) (by decide)) f2) (fun h869 hJ869 k869 m869 => ?_)
    obtain ⟨f870, ef870⟩ : ∃ f_, h869 63 21 = f_ := ⟨_, rfl⟩
    have bf870 : B f870 0 6 := by have z_ := hJ869.1 63 21; rw [ef870] at z_; exact z_
    have zf870 := congrArg Int32.toInt ef870
    have z871 := congrArg Int32.toInt (rd_w k869 (rd_o k6 (rd_o k5 ef1 rfl) rfl) rfl)
    have z872 := congrArg Int32.toInt (rd_w k869 (rd_o k6 (rd_o k5 ef2 rfl) rfl) rfl)
    have z873 := congrArg Int32.toInt ef870
    have z874 := congrArg Int32.toInt (rd_w k869 (rd_s k6) rfl)
    have z875 := congrArg Int32.toInt (rd_w k869 (rd_o k6 (rd_s k5) rfl) rfl)
    refine ev_goto rfl rfl ?_
    refine ev_aload_n rfl rfl rfl ?_
    refine ev_dup rfl rfl rfl ?_
    refine ev_getV (v := f2) rfl rfl fl_X10_210 rfl rfl rfl (rd_w k869 (rd_o k6 (rd_o k5 ef2 rfl) rfl) rfl) ?_
    refine ev_iconst (v := 1) rfl rfl (by decide) ?_
    refine ev_iaddB (l := 1) (u := 161) rfl rfl bf2 (by decide : B 1 1 1) (by decide) (by decide) (by decide) (by decide) (fun v876 b876 e876 g876 => ?_)
    have e876x := e876; rw [show (1 : Int32).toInt = 1 from by decide] at e876x
    have b877 : B v876 0 160 := ⟨(by have z0_ := congrArg Int32.toInt (rd_w k869 (rd_o k6 (rd_o k5 ef1 rfl) rfl) rfl); have z1_ := congrArg Int32.toInt (rd_w k869 (rd_o k6 (rd_o k5 ef2 rfl) rfl) rfl); have z2_ := congrArg Int32.toInt ef870; have z3_ := congrArg Int32.toInt (rd_w k869 (rd_s k6) rfl); have z4_ := congrArg Int32.toInt (rd_w k869 (rd_o k6 (rd_s k5) rfl) rfl); have z_ := w_lits; have zl_ := l_lits; omega), (by have z0_ := congrArg Int32.toInt (rd_w k869 (rd_o k6 (rd_o k5 ef1 rfl) rfl) rfl); have z1_ := congrArg Int32.toInt (rd_w k869 (rd_o k6 (rd_o k5 ef2 rfl) rfl) rfl); have z2_ := congrArg Int32.toInt ef870; have z3_ := congrArg Int32.toInt (rd_w k869 (rd_s k6) rfl); have z4_ := congrArg Int32.toInt (rd_w k869 (rd_o k6 (rd_s k5) rfl) rfl); have z_ := w_lits; have zl_ := l_lits; omega)⟩
    refine ev_putW (l := 0) (u := 160) hJ869 rfl b877 (by decide) (by decide) rfl rfl rfl fl_X10_210 rfl rfl rfl rfl rfl (fun h878 hJ878 k878 => ?_)
    refine ev_goto rfl rfl ?_
    have lp10_1109 : ∀ (n : Nat) (w1110 : Int32) (h1112 : Hp), B w1110 0 25 → JW [(63, 17), (63, 19), (63, 20), (63, 21), (63, 22)] h h1112 → (h1112 63 16 = f1) → (h1112 63 19 = 1) → (h1112 72 (Int32.toNatClampNeg f2) = t) → ((h1112 63 17).toInt ≤ (h1112 63 16).toInt) → ((h 63 17).toInt + 1 ≤ (h1112 63 17).toInt) → (0 ≤ (h1112 63 20).toInt ∧ (h1112 63 20).toInt ≤ 4095) → 160 + 1 - (h1112 63 17).toInt ≤ (n : Int) → EvQ mi_X10_readChord 10 [some (.ref 63), some (.int w1110)] [] (G0 L b) h1112 0 0 (QK (fun z : Hp => ((z 63 17).toInt ≤ (z 63 16).toInt) ∧ ((h 63 17).toInt + 1 ≤ (z 63 17).toInt) ∧ ((z 63 19).toInt = 1) ∧ (0 ≤ (z 63 20).toInt ∧ (z 63 20).toInt ≤ 4095)) [(63, 17), (63, 19), (63, 20), (63, 21), (63, 22)] (G0 L b) h) := by
      intro n
      induction n with
      | zero =>
        intro w1110 h1112 b1111 hJ1113 z1114 z1115 z1116 y10_0 y10_1 y10_2 hm10
        obtain ⟨f1117, ef1117⟩ : ∃ f_, h1112 63 17 = f_ := ⟨_, rfl⟩
        have bf1117 : B f1117 0 160 := by
          have z_ := hJ1113.1 63 17
          rw [ef1117] at z_
          exact z_
        rw [ef1117] at hm10
        exact absurd hm10 (L_zero bf1117 (by decide))
      | succ n ih10 =>
        intro w1110 h1112 b1111 hJ1113 z1114 z1115 z1116 y10_0 y10_1 y10_2 hm10
        obtain ⟨f1117, ef1117⟩ : ∃ f_, h1112 63 17 = f_ := ⟨_, rfl⟩
        have bf1117 : B f1117 0 160 := by
          have z_ := hJ1113.1 63 17
          rw [ef1117] at z_
          exact z_
        rw [ef1117] at hm10
        obtain ⟨f1118, ef1118⟩ : ∃ f_, h1112 63 21 = f_ := ⟨_, rfl⟩
        have bf1118 : B f1118 0 6 := by have z_ := hJ1113.1 63 21; rw [ef1118] at z_; exact z_
        have zf1118 := congrArg Int32.toInt ef1118
        obtain ⟨f1119, ef1119⟩ : ∃ f_, h1112 63 20 = f_ := ⟨_, rfl⟩
        have bf1119 : B f1119 (-2147483648) 2147483647 := by have z_ := hJ1113.1 63 20; rw [ef1119] at z_; exact z_
        have zf1119 := congrArg Int32.toInt ef1119
        have z1120 := congrArg Int32.toInt z1114
        have z1121 := congrArg Int32.toInt ef1117
        have z1122 := congrArg Int32.toInt ef1118
        have z1123 := congrArg Int32.toInt ef1119
        have z1124 := congrArg Int32.toInt z1115
        refine ev_aload_n rfl rfl rfl ?_
        refine ev_aload_n rfl rfl rfl ?_
        refine ev_getV (v := f1117) rfl rfl fl_X10_210 rfl rfl rfl ef1117 ?_
        obtain ⟨t1125, et1125⟩ : ∃ f_, h1112 72 (Int32.toNatClampNeg f1117) = f_ := ⟨_, rfl⟩
        have bt1125 : B t1125 0 255 := by have z_ := hJ1113.1 72 (Int32.toNatClampNeg f1117); rw [et1125] at z_; exact z_
        have z1126 := congrArg Int32.toInt z1114
        have z1127 := congrArg Int32.toInt ef1117
        have z1128 := congrArg Int32.toInt ef1118
        have z1129 := congrArg Int32.toInt ef1119
        have z1130 := congrArg Int32.toInt z1115
        refine ev_V1P rfl rfl lk_X10_213 vt_X10_look rfl rfl rfl rfl rfl (w_X10_look_63 L b h1112 hJ1113.1 f1117 bf1117 t1125 et1125) (fun r1131 q1131 => ?_)
        obtain ⟨b1131, pp1131_0, pp1131_1⟩ := q1131
        refine ev_i2l rfl rfl ?_
        have z1132 := Int32.toInt_toInt64 r1131
        have z1132b := B.any r1131
        refine ev_ldc2 (v := 97) rfl rfl kc_X10_216 ?_
        refine ev_ldc2 (v := 122) rfl rfl kc_X10_218 ?_
        have z1133 := congrArg Int32.toInt z1114
        have z1134 := congrArg Int32.toInt ef1117
        have z1135 := congrArg Int32.toInt ef1118
        have z1136 := congrArg Int32.toInt ef1119
        have z1137 := congrArg Int32.toInt z1115
        refine ev_S3P rfl rfl lk_X10_124 st_X10_in rfl rfl (w_inR (G0 L b) h1112 r1131 97 122 (by decide : BL 97 97 97) (by decide : BL 122 122 122)) (fun r1138 q1138 => ?_)
        obtain ⟨b1138, p1138_0, pp1138_0, pp1138_1⟩ := q1138
        refine ev_if_eq rfl rfl (fun c1139 => ?_) (fun c1139 => ?_)
        · have b1140 : B r1138 0 0 := R_eqX b1138 (by decide : B 0 0 0) c1139
          have z1141 := congrArg Int32.toInt c1139
          rw [show (0 : Int32).toInt = 0 from by decide] at z1141
          exact ev_vret rfl rfl trivial ⟨rfl, rfl, hJ1113, (by have z0_ := congrArg Int32.toInt z1114; have z1_ := congrArg Int32.toInt ef1117; have z2_ := congrArg Int32.toInt ef1118; have z3_ := congrArg Int32.toInt ef1119; have z4_ := congrArg Int32.toInt z1115; have z_ := w_lits; have zl_ := l_lits; omega), (by have z0_ := congrArg Int32.toInt z1114; have z1_ := congrArg Int32.toInt ef1117; have z2_ := congrArg Int32.toInt ef1118; have z3_ := congrArg Int32.toInt ef1119; have z4_ := congrArg Int32.toInt z1115; have z_ := w_lits; have zl_ := l_lits; omega), (by have z0_ := congrArg Int32.toInt z1114; have z1_ := congrArg Int32.toInt ef1117; have z2_ := congrArg Int32.toInt ef1118; have z3_ := congrArg Int32.toInt ef1119; have z4_ := congrArg Int32.toInt z1115; have z_ := w_lits; have zl_ := l_lits; omega), (by have z0_ := congrArg Int32.toInt z1114; have z1_ := congrArg Int32.toInt ef1117; have z2_ := congrArg Int32.toInt ef1118; have z3_ := congrArg Int32.toInt ef1119; have z4_ := congrArg Int32.toInt z1115; have z_ := w_lits; have zl_ := l_lits; omega)⟩
        · have b1142 : B r1138 1 1 := R_neL b1138 (by decide : B 0 0 0) c1139 (by decide)
          have b1143 : B r1131 97 122 := p1138_0 c1139
          have z1144 := w_ne c1139
          rw [show (0 : Int32).toInt = 0 from by decide] at z1144
          refine ev_aload_n rfl rfl rfl ?_
          refine ev_getV (v := f1118) rfl rfl fl_X10_191 rfl rfl rfl ef1118 ?_
          refine ev_if_ne rfl rfl (fun c1145 => ?_) (fun c1145 => ?_)
          · have b1146 : B f1118 1 6 := R_neL bf1118 (by decide : B 0 0 0) c1145 (by decide)
            have z1147 := w_ne c1145
            rw [show (0 : Int32).toInt = 0 from by decide] at z1147
            exact ev_vret rfl rfl trivial ⟨rfl, rfl, hJ1113, (by have z0_ := congrArg Int32.toInt z1114; have z1_ := congrArg Int32.toInt ef1117; have z2_ := congrArg Int32.toInt ef1118; have z3_ := congrArg Int32.toInt ef1119; have z4_ := congrArg Int32.toInt z1115; have z_ := w_lits; have zl_ := l_lits; omega), (by have z0_ := congrArg Int32.toInt z1114; have z1_ := congrArg Int32.toInt ef1117; have z2_ := congrArg Int32.toInt ef1118; have z3_ := congrArg Int32.toInt ef1119; have z4_ := congrArg Int32.toInt z1115; have z_ := w_lits; have zl_ := l_lits; omega), (by have z0_ := congrArg Int32.toInt z1114; have z1_ := congrArg Int32.toInt ef1117; have z2_ := congrArg Int32.toInt ef1118; have z3_ := congrArg Int32.toInt ef1119; have z4_ := congrArg Int32.toInt z1115; have z_ := w_lits; have zl_ := l_lits; omega), (by have z0_ := congrArg Int32.toInt z1114; have z1_ := congrArg Int32.toInt ef1117; have z2_ := congrArg Int32.toInt ef1118; have z3_ := congrArg Int32.toInt ef1119; have z4_ := congrArg Int32.toInt z1115; have z_ := w_lits; have zl_ := l_lits; omega)⟩
          · have b1148 : B f1118 0 0 := R_eqX bf1118 (by decide : B 0 0 0) c1145
            have z1149 := congrArg Int32.toInt c1145
            rw [show (0 : Int32).toInt = 0 from by decide] at z1149
            refine ev_aload_n rfl rfl rfl ?_
            refine ev_aload_n rfl rfl rfl ?_
            refine ev_getV (v := f1117) rfl rfl fl_X10_210 rfl rfl rfl ef1117 ?_
            have z1150 := congrArg Int32.toInt z1114
            have z1151 := congrArg Int32.toInt ef1117
            have z1152 := congrArg Int32.toInt ef1118
            have z1153 := congrArg Int32.toInt ef1119
            have z1154 := congrArg Int32.toInt z1115
            refine ev_V1P rfl rfl lk_X10_213 vt_X10_look rfl rfl rfl rfl rfl (w_X10_look_63 L b h1112 hJ1113.1 f1117 bf1117 t1125 et1125) (fun r1155 q1155 => ?_)
            obtain ⟨b1155, pp1155_0, pp1155_1⟩ := q1155
            refine ev_bipush (v := 97) rfl rfl (by decide) ?_
            have b1156 : B r1155 97 122 := ⟨(by have z0_ := congrArg Int32.toInt z1114; have z1_ := congrArg Int32.toInt ef1117; have z2_ := congrArg Int32.toInt ef1118; have z3_ := congrArg Int32.toInt ef1119; have z4_ := congrArg Int32.toInt z1115; have z_ := w_lits; have zl_ := l_lits; omega), (by have z0_ := congrArg Int32.toInt z1114; have z1_ := congrArg Int32.toInt ef1117; have z2_ := congrArg Int32.toInt ef1118; have z3_ := congrArg Int32.toInt ef1119; have z4_ := congrArg Int32.toInt z1115; have z_ := w_lits; have zl_ := l_lits; omega)⟩
            refine ev_isubB (l := 0) (u := 25) rfl rfl b1156 (by decide : B 97 97 97) (by decide) (by decide) (by decide) (by decide) (fun v1157 b1157 e1157 g1157 => ?_)
            have e1157x := e1157; rw [show (97 : Int32).toInt = 97 from by decide] at e1157x
            refine ev_istore_n rfl rfl rfl rfl ?_
            dsimp only [List.set]
            refine ev_iload_n rfl rfl rfl ?_
            refine ev_bipush (v := 11) rfl rfl (by decide) ?_
            refine ev_icmp_le rfl rfl (fun c1158 => ?_) (fun c1158 => ?_)
            · have b1159 : B v1157 0 11 := R_leX b1157 (by decide : B 11 11 11) c1158 (by decide)
              have b1160 : B r1155 97 108 := (R_bks (l' := 97) (u' := 108) e1157 b1159 (by decide : B 97 97 97) (by decide) (by decide))
              have z1161 := w_le c1158
              rw [show (11 : Int32).toInt = 11 from by decide] at z1161
              refine ev_aload_n rfl rfl rfl ?_
              refine ev_getV (v := f1119) rfl rfl fl_X10_207 rfl rfl rfl ef1119 ?_
              refine ev_iload_n rfl rfl rfl ?_
              refine ev_ishrA rfl rfl (fun v1165 => ?_)
              refine ev_iconst (v := 1) rfl rfl (by decide) ?_
              refine ev_iandB rfl rfl (by decide : B 1 1 1) (by decide) (fun v1166 b1166 e1166 => ?_)
              refine ev_iconst (v := 1) rfl rfl (by decide) ?_
              refine ev_icmp_eq rfl rfl (fun c1167 => ?_) (fun c1167 => ?_)
              · have b1168 : B v1166 1 1 := R_eqX b1166 (by decide : B 1 1 1) c1167
                have z1169 := congrArg Int32.toInt c1167
                rw [show (1 : Int32).toInt = 1 from by decide] at z1169
                refine ev_aload_n rfl rfl rfl ?_
                refine ev_iconst (v := 4) rfl rfl (by decide) ?_
                refine ev_aload_n rfl rfl rfl ?_
                refine ev_getV (v := f1117) rfl rfl fl_X10_210 rfl rfl rfl ef1117 ?_
                have z1172 := congrArg Int32.toInt z1114
                have z1173 := congrArg Int32.toInt ef1117
                have z1174 := congrArg Int32.toInt ef1118
                have z1175 := congrArg Int32.toInt ef1119
                have z1176 := congrArg Int32.toInt z1115
                refine ev_V2K hJ1113 rfl rfl rfl lk_X10_200 vt_X10_fails rfl rfl rfl rfl rfl (w_X10_fails_63 L b h1112 hJ1113.1 4 ((by decide : B 4 4 4).mono (by decide) (by decide)) f1117) (fun h1177 hJ1177 k1177 m1177 => ?_)
                obtain ⟨f1178, ef1178⟩ : ∃ f_, h1177 63 21 = f_ := ⟨_, rfl⟩
                have bf1178 : B f1178 0 6 := by have z_ := hJ1177.1 63 21; rw [ef1178] at z_; exact z_
                have zf1178 := congrArg Int32.toInt ef1178
                have z1179 := congrArg Int32.toInt (rd_w k1177 z1114 rfl)
                have z1180 := congrArg Int32.toInt (rd_w k1177 ef1117 rfl)
                have z1181 := congrArg Int32.toInt ef1178
                have z1182 := congrArg Int32.toInt (rd_w k1177 ef1119 rfl)
                have z1183 := congrArg Int32.toInt (rd_w k1177 z1115 rfl)
                refine ev_goto rfl rfl ?_
                refine ev_aload_n rfl rfl rfl ?_
                refine ev_dup rfl rfl rfl ?_
                refine ev_getV (v := f1117) rfl rfl fl_X10_210 rfl rfl rfl (rd_w k1177 ef1117 rfl) ?_
                refine ev_iconst (v := 1) rfl rfl (by decide) ?_
                refine ev_iaddB (l := 1) (u := 161) rfl rfl bf1117 (by decide : B 1 1 1) (by decide) (by decide) (by decide) (by decide) (fun v1184 b1184 e1184 g1184 => ?_)
                have e1184x := e1184; rw [show (1 : Int32).toInt = 1 from by decide] at e1184x
                have b1185 : B v1184 0 160 := ⟨(by have z0_ := congrArg Int32.toInt (rd_w k1177 z1114 rfl); have z1_ := congrArg Int32.toInt (rd_w k1177 ef1117 rfl); have z2_ := congrArg Int32.toInt ef1178; have z3_ := congrArg Int32.toInt (rd_w k1177 ef1119 rfl); have z4_ := congrArg Int32.toInt (rd_w k1177 z1115 rfl); have z_ := w_lits; have zl_ := l_lits; omega), (by have z0_ := congrArg Int32.toInt (rd_w k1177 z1114 rfl); have z1_ := congrArg Int32.toInt (rd_w k1177 ef1117 rfl); have z2_ := congrArg Int32.toInt ef1178; have z3_ := congrArg Int32.toInt (rd_w k1177 ef1119 rfl); have z4_ := congrArg Int32.toInt (rd_w k1177 z1115 rfl); have z_ := w_lits; have zl_ := l_lits; omega)⟩
                refine ev_putW (l := 0) (u := 160) hJ1177 rfl b1185 (by decide) (by decide) rfl rfl rfl fl_X10_210 rfl rfl rfl rfl rfl (fun h1186 hJ1186 k1186 => ?_)
                refine ev_goto rfl rfl ?_
                exact (ih10 v1157 h1186 (b1159.mono (by decide) (by decide)) hJ1186 (rd_o k1186 (rd_w k1177 z1114 rfl) rfl) (rd_o k1186 (rd_w k1177 z1115 rfl) rfl) (rd_o k1186 (rd_w k1177 z1116 rfl) rfl) (by have z0_ := congrArg Int32.toInt (rd_o k1186 (rd_w k1177 z1114 rfl) rfl); have z1_ := congrArg Int32.toInt (rd_s k1186); have z2_ := congrArg Int32.toInt (rd_o k1186 ef1178 rfl); have z3_ := congrArg Int32.toInt (rd_o k1186 (rd_w k1177 ef1119 rfl) rfl); have z4_ := congrArg Int32.toInt (rd_o k1186 (rd_w k1177 z1115 rfl) rfl); have z_ := w_lits; have zl_ := l_lits; omega) (by have z0_ := congrArg Int32.toInt (rd_o k1186 (rd_w k1177 z1114 rfl) rfl); have z1_ := congrArg Int32.toInt (rd_s k1186); have z2_ := congrArg Int32.toInt (rd_o k1186 ef1178 rfl); have z3_ := congrArg Int32.toInt (rd_o k1186 (rd_w k1177 ef1119 rfl) rfl); have z4_ := congrArg Int32.toInt (rd_o k1186 (rd_w k1177 z1115 rfl) rfl); have z_ := w_lits; have zl_ := l_lits; omega) (by have z0_ := congrArg Int32.toInt (rd_o k1186 (rd_w k1177 z1114 rfl) rfl); have z1_ := congrArg Int32.toInt (rd_s k1186); have z2_ := congrArg Int32.toInt (rd_o k1186 ef1178 rfl); have z3_ := congrArg Int32.toInt (rd_o k1186 (rd_w k1177 ef1119 rfl) rfl); have z4_ := congrArg Int32.toInt (rd_o k1186 (rd_w k1177 z1115 rfl) rfl); have z_ := w_lits; have zl_ := l_lits; omega) (by rw [(rd_s k1186)]; exact L_up hm10 (e_p1 e1184 (by decide))))
              · have b1170 : B v1166 0 0 := R_neU b1166 (by decide : B 1 1 1) c1167 (by decide)
                have z1171 := w_ne c1167
                rw [show (1 : Int32).toInt = 1 from by decide] at z1171
                refine ev_aload_n rfl rfl rfl ?_
                refine ev_getV (v := f1119) rfl rfl fl_X10_207 rfl rfl rfl ef1119 ?_
                refine ev_S1P rfl rfl lk_X10_220 st_X10_bits rfl rfl (w_X10_bits L b h1112 hJ1113.1 f1119) (fun r1187 q1187 => ?_)
                refine ev_iconst (v := 5) rfl rfl (by decide) ?_
                refine ev_icmp_ne rfl rfl (fun c1188 => ?_) (fun c1188 => ?_)
                · have z1189 := w_ne c1188
                  rw [show (5 : Int32).toInt = 5 from by decide] at z1189
                  refine ev_aload_n rfl rfl rfl ?_
                  refine ev_dup rfl rfl rfl ?_
                  refine ev_getV (v := f1119) rfl rfl fl_X10_207 rfl rfl rfl ef1119 ?_
                  refine ev_iconst (v := 1) rfl rfl (by decide) ?_
                  refine ev_iload_n rfl rfl rfl ?_
                  refine ev_ishlB rfl rfl b1159 (by decide) (by decide) (fun v1192 b1192 => ?_)
                  have b1193 : B f1119 0 4095 := ⟨(by have z0_ := congrArg Int32.toInt z1114; have z1_ := congrArg Int32.toInt ef1117; have z2_ := congrArg Int32.toInt ef1118; have z3_ := congrArg Int32.toInt ef1119; have z4_ := congrArg Int32.toInt z1115; have z_ := w_lits; have zl_ := l_lits; omega), (by have z0_ := congrArg Int32.toInt z1114; have z1_ := congrArg Int32.toInt ef1117; have z2_ := congrArg Int32.toInt ef1118; have z3_ := congrArg Int32.toInt ef1119; have z4_ := congrArg Int32.toInt z1115; have z_ := w_lits; have zl_ := l_lits; omega)⟩
                  refine ev_iorB 12 (u := 4095) rfl rfl b1193 b1192 (by decide) (by decide) (by decide) (by decide) (by decide) (by decide) (fun v1194 b1194 e1194 => ?_)
                  refine ev_putW (l := (-2147483648)) (u := 2147483647) hJ1113 rfl b1194 (by decide) (by decide) rfl rfl rfl fl_X10_207 rfl rfl rfl rfl rfl (fun h1195 hJ1195 k1195 => ?_)
                  refine ev_aload_n rfl rfl rfl ?_
                  refine ev_dup rfl rfl rfl ?_
                  refine ev_getV (v := f1117) rfl rfl fl_X10_210 rfl rfl rfl (rd_o k1195 ef1117 rfl) ?_
                  refine ev_iconst (v := 1) rfl rfl (by decide) ?_
                  refine ev_iaddB (l := 1) (u := 161) rfl rfl bf1117 (by decide : B 1 1 1) (by decide) (by decide) (by decide) (by decide) (fun v1196 b1196 e1196 g1196 => ?_)
                  have e1196x := e1196; rw [show (1 : Int32).toInt = 1 from by decide] at e1196x
                  have b1197 : B v1196 0 160 := ⟨(by have z0_ := congrArg Int32.toInt (rd_o k1195 z1114 rfl); have z1_ := congrArg Int32.toInt (rd_o k1195 ef1117 rfl); have z2_ := congrArg Int32.toInt (rd_o k1195 ef1118 rfl); have z3_ := congrArg Int32.toInt (rd_s k1195); have z4_ := congrArg Int32.toInt (rd_o k1195 z1115 rfl); have z_ := w_lits; have zl_ := l_lits; omega), (by have z0_ := congrArg Int32.toInt (rd_o k1195 z1114 rfl); have z1_ := congrArg Int32.toInt (rd_o k1195 ef1117 rfl); have z2_ := congrArg Int32.toInt (rd_o k1195 ef1118 rfl); have z3_ := congrArg Int32.toInt (rd_s k1195); have z4_ := congrArg Int32.toInt (rd_o k1195 z1115 rfl); have z_ := w_lits; have zl_ := l_lits; omega)⟩
                  refine ev_putW (l := 0) (u := 160) hJ1195 rfl b1197 (by decide) (by decide) rfl rfl rfl fl_X10_210 rfl rfl rfl rfl rfl (fun h1198 hJ1198 k1198 => ?_)
                  refine ev_goto rfl rfl ?_
                  exact (ih10 v1157 h1198 (b1159.mono (by decide) (by decide)) hJ1198 (rd_o k1198 (rd_o k1195 z1114 rfl) rfl) (rd_o k1198 (rd_o k1195 z1115 rfl) rfl) (rd_o k1198 (rd_o k1195 z1116 rfl) rfl) (by have z0_ := congrArg Int32.toInt (rd_o k1198 (rd_o k1195 z1114 rfl) rfl); have z1_ := congrArg Int32.toInt (rd_s k1198); have z2_ := congrArg Int32.toInt (rd_o k1198 (rd_o k1195 ef1118 rfl) rfl); have z3_ := congrArg Int32.toInt (rd_o k1198 (rd_s k1195) rfl); have z4_ := congrArg Int32.toInt (rd_o k1198 (rd_o k1195 z1115 rfl) rfl); have z_ := w_lits; have zl_ := l_lits; omega) (by have z0_ := congrArg Int32.toInt (rd_o k1198 (rd_o k1195 z1114 rfl) rfl); have z1_ := congrArg Int32.toInt (rd_s k1198); have z2_ := congrArg Int32.toInt (rd_o k1198 (rd_o k1195 ef1118 rfl) rfl); have z3_ := congrArg Int32.toInt (rd_o k1198 (rd_s k1195) rfl); have z4_ := congrArg Int32.toInt (rd_o k1198 (rd_o k1195 z1115 rfl) rfl); have z_ := w_lits; have zl_ := l_lits; omega) (by have z0_ := congrArg Int32.toInt (rd_o k1198 (rd_o k1195 z1114 rfl) rfl); have z1_ := congrArg Int32.toInt (rd_s k1198); have z2_ := congrArg Int32.toInt (rd_o k1198 (rd_o k1195 ef1118 rfl) rfl); have z3_ := congrArg Int32.toInt (rd_o k1198 (rd_s k1195) rfl); have z4_ := congrArg Int32.toInt (rd_o k1198 (rd_o k1195 z1115 rfl) rfl); have z_ := w_lits; have zl_ := l_lits; omega) (by rw [(rd_s k1198)]; exact L_up hm10 (e_p1 e1196 (by decide))))
                · have b1190 : B r1187 5 5 := R_eqX (B.any r1187) (by decide : B 5 5 5) c1188
                  have z1191 := congrArg Int32.toInt c1188
                  rw [show (5 : Int32).toInt = 5 from by decide] at z1191
                  refine ev_aload_n rfl rfl rfl ?_
                  refine ev_iconst (v := 4) rfl rfl (by decide) ?_
                  refine ev_aload_n rfl rfl rfl ?_
                  refine ev_getV (v := f1117) rfl rfl fl_X10_210 rfl rfl rfl ef1117 ?_
                  have z1199 := congrArg Int32.toInt z1114
                  have z1200 := congrArg Int32.toInt ef1117
                  have z1201 := congrArg Int32.toInt ef1118
                  have z1202 := congrArg Int32.toInt ef1119
                  have z1203 := congrArg Int32.toInt z1115
                  refine ev_V2K hJ1113 rfl rfl rfl lk_X10_200 vt_X10_fails rfl rfl rfl rfl rfl (w_X10_fails_63 L b h1112 hJ1113.1 4 ((by decide : B 4 4 4).mono (by decide) (by decide)) f1117) (fun h1204 hJ1204 k1204 m1204 => ?_)
                  obtain ⟨f1205, ef1205⟩ : ∃ f_, h1204 63 21 = f_ := ⟨_, rfl⟩
                  have bf1205 : B f1205 0 6 := by have z_ := hJ1204.1 63 21; rw [ef1205] at z_; exact z_
                  have zf1205 := congrArg Int32.toInt ef1205
                  have z1206 := congrArg Int32.toInt (rd_w k1204 z1114 rfl)
                  have z1207 := congrArg Int32.toInt (rd_w k1204 ef1117 rfl)
                  have z1208 := congrArg Int32.toInt ef1205
                  have z1209 := congrArg Int32.toInt (rd_w k1204 ef1119 rfl)
                  have z1210 := congrArg Int32.toInt (rd_w k1204 z1115 rfl)
                  refine ev_goto rfl rfl ?_
                  refine ev_aload_n rfl rfl rfl ?_
                  refine ev_dup rfl rfl rfl ?_
                  refine ev_getV (v := f1117) rfl rfl fl_X10_210 rfl rfl rfl (rd_w k1204 ef1117 rfl) ?_
                  refine ev_iconst (v := 1) rfl rfl (by decide) ?_
                  refine ev_iaddB (l := 1) (u := 161) rfl rfl bf1117 (by decide : B 1 1 1) (by decide) (by decide) (by decide) (by decide) (fun v1211 b1211 e1211 g1211 => ?_)
                  have e1211x := e1211; rw [show (1 : Int32).toInt = 1 from by decide] at e1211x
                  have b1212 : B v1211 0 160 := ⟨(by have z0_ := congrArg Int32.toInt (rd_w k1204 z1114 rfl); have z1_ := congrArg Int32.toInt (rd_w k1204 ef1117 rfl); have z2_ := congrArg Int32.toInt ef1205; have z3_ := congrArg Int32.toInt (rd_w k1204 ef1119 rfl); have z4_ := congrArg Int32.toInt (rd_w k1204 z1115 rfl); have z_ := w_lits; have zl_ := l_lits; omega), (by have z0_ := congrArg Int32.toInt (rd_w k1204 z1114 rfl); have z1_ := congrArg Int32.toInt (rd_w k1204 ef1117 rfl); have z2_ := congrArg Int32.toInt ef1205; have z3_ := congrArg Int32.toInt (rd_w k1204 ef1119 rfl); have z4_ := congrArg Int32.toInt (rd_w k1204 z1115 rfl); have z_ := w_lits; have zl_ := l_lits; omega)⟩
                  refine ev_putW (l := 0) (u := 160) hJ1204 rfl b1212 (by decide) (by decide) rfl rfl rfl fl_X10_210 rfl rfl rfl rfl rfl (fun h1213 hJ1213 k1213 => ?_)
                  refine ev_goto rfl rfl ?_
                  exact (ih10 v1157 h1213 (b1159.mono (by decide) (by decide)) hJ1213 (rd_o k1213 (rd_w k1204 z1114 rfl) rfl) (rd_o k1213 (rd_w k1204 z1115 rfl) rfl) (rd_o k1213 (rd_w k1204 z1116 rfl) rfl) (by have z0_ := congrArg Int32.toInt (rd_o k1213 (rd_w k1204 z1114 rfl) rfl); have z1_ := congrArg Int32.toInt (rd_s k1213); have z2_ := congrArg Int32.toInt (rd_o k1213 ef1205 rfl); have z3_ := congrArg Int32.toInt (rd_o k1213 (rd_w k1204 ef1119 rfl) rfl); have z4_ := congrArg Int32.toInt (rd_o k1213 (rd_w k1204 z1115 rfl) rfl); have z_ := w_lits; have zl_ := l_lits; omega) (by have z0_ := congrArg Int32.toInt (rd_o k1213 (rd_w k1204 z1114 rfl) rfl); have z1_ := congrArg Int32.toInt (rd_s k1213); have z2_ := congrArg Int32.toInt (rd_o k1213 ef1205 rfl); have z3_ := congrArg Int32.toInt (rd_o k1213 (rd_w k1204 ef1119 rfl) rfl); have z4_ := congrArg Int32.toInt (rd_o k1213 (rd_w k1204 z1115 rfl) rfl); have z_ := w_lits; have zl_ := l_lits; omega) (by have z0_ := congrArg Int32.toInt (rd_o k1213 (rd_w k1204 z1114 rfl) rfl); have z1_ := congrArg Int32.toInt (rd_s k1213); have z2_ := congrArg Int32.toInt (rd_o k1213 ef1205 rfl); have z3_ := congrArg Int32.toInt (rd_o k1213 (rd_w k1204 ef1119 rfl) rfl); have z4_ := congrArg Int32.toInt (rd_o k1213 (rd_w k1204 z1115 rfl) rfl); have z_ := w_lits; have zl_ := l_lits; omega) (by rw [(rd_s k1213)]; exact L_up hm10 (e_p1 e1211 (by decide))))
            · have b1162 : B v1157 12 25 := R_ltY (by decide : B 11 11 11) b1157 (Int32.not_le.mp c1158) (by decide)
              have b1163 : B r1155 109 122 := (R_bks (l' := 109) (u' := 122) e1157 b1162 (by decide : B 97 97 97) (by decide) (by decide))
              have z1164 := w_lt (Int32.not_le.mp c1158)
              rw [show (11 : Int32).toInt = 11 from by decide] at z1164
              refine ev_aload_n rfl rfl rfl ?_
              refine ev_iconst (v := 1) rfl rfl (by decide) ?_
              refine ev_aload_n rfl rfl rfl ?_
              refine ev_getV (v := f1117) rfl rfl fl_X10_210 rfl rfl rfl ef1117 ?_
              have z1214 := congrArg Int32.toInt z1114
              have z1215 := congrArg Int32.toInt ef1117
              have z1216 := congrArg Int32.toInt ef1118
              have z1217 := congrArg Int32.toInt ef1119
              have z1218 := congrArg Int32.toInt z1115
              refine ev_V2K hJ1113 rfl rfl rfl lk_X10_200 vt_X10_fails rfl rfl rfl rfl rfl (w_X10_fails_63 L b h1112 hJ1113.1 1 ((by decide : B 1 1 1).mono (by decide) (by decide)) f1117) (fun h1219 hJ1219 k1219 m1219 => ?_)
              obtain ⟨f1220, ef1220⟩ : ∃ f_, h1219 63 21 = f_ := ⟨_, rfl⟩
              have bf1220 : B f1220 0 6 := by have z_ := hJ1219.1 63 21; rw [ef1220] at z_; exact z_
              have zf1220 := congrArg Int32.toInt ef1220
              have z1221 := congrArg Int32.toInt (rd_w k1219 z1114 rfl)
              have z1222 := congrArg Int32.toInt (rd_w k1219 ef1117 rfl)
              have z1223 := congrArg Int32.toInt ef1220
              have z1224 := congrArg Int32.toInt (rd_w k1219 ef1119 rfl)
              have z1225 := congrArg Int32.toInt (rd_w k1219 z1115 rfl)
              refine ev_goto rfl rfl ?_
              refine ev_aload_n rfl rfl rfl ?_
              refine ev_dup rfl rfl rfl ?_
              refine ev_getV (v := f1117) rfl rfl fl_X10_210 rfl rfl rfl (rd_w k1219 ef1117 rfl) ?_
              refine ev_iconst (v := 1) rfl rfl (by decide) ?_
              refine ev_iaddB (l := 1) (u := 161) rfl rfl bf1117 (by decide : B 1 1 1) (by decide) (by decide) (by decide) (by decide) (fun v1226 b1226 e1226 g1226 => ?_)
              have e1226x := e1226; rw [show (1 : Int32).toInt = 1 from by decide] at e1226x
              have b1227 : B v1226 0 160 := ⟨(by have z0_ := congrArg Int32.toInt (rd_w k1219 z1114 rfl); have z1_ := congrArg Int32.toInt (rd_w k1219 ef1117 rfl); have z2_ := congrArg Int32.toInt ef1220; have z3_ := congrArg Int32.toInt (rd_w k1219 ef1119 rfl); have z4_ := congrArg Int32.toInt (rd_w k1219 z1115 rfl); have z_ := w_lits; have zl_ := l_lits; omega), (by have z0_ := congrArg Int32.toInt (rd_w k1219 z1114 rfl); have z1_ := congrArg Int32.toInt (rd_w k1219 ef1117 rfl); have z2_ := congrArg Int32.toInt ef1220; have z3_ := congrArg Int32.toInt (rd_w k1219 ef1119 rfl); have z4_ := congrArg Int32.toInt (rd_w k1219 z1115 rfl); have z_ := w_lits; have zl_ := l_lits; omega)⟩
              refine ev_putW (l := 0) (u := 160) hJ1219 rfl b1227 (by decide) (by decide) rfl rfl rfl fl_X10_210 rfl rfl rfl rfl rfl (fun h1228 hJ1228 k1228 => ?_)
              refine ev_goto rfl rfl ?_
              exact (ih10 v1157 h1228 (b1162.mono (by decide) (by decide)) hJ1228 (rd_o k1228 (rd_w k1219 z1114 rfl) rfl) (rd_o k1228 (rd_w k1219 z1115 rfl) rfl) (rd_o k1228 (rd_w k1219 z1116 rfl) rfl) (by have z0_ := congrArg Int32.toInt (rd_o k1228 (rd_w k1219 z1114 rfl) rfl); have z1_ := congrArg Int32.toInt (rd_s k1228); have z2_ := congrArg Int32.toInt (rd_o k1228 ef1220 rfl); have z3_ := congrArg Int32.toInt (rd_o k1228 (rd_w k1219 ef1119 rfl) rfl); have z4_ := congrArg Int32.toInt (rd_o k1228 (rd_w k1219 z1115 rfl) rfl); have z_ := w_lits; have zl_ := l_lits; omega) (by have z0_ := congrArg Int32.toInt (rd_o k1228 (rd_w k1219 z1114 rfl) rfl); have z1_ := congrArg Int32.toInt (rd_s k1228); have z2_ := congrArg Int32.toInt (rd_o k1228 ef1220 rfl); have z3_ := congrArg Int32.toInt (rd_o k1228 (rd_w k1219 ef1119 rfl) rfl); have z4_ := congrArg Int32.toInt (rd_o k1228 (rd_w k1219 z1115 rfl) rfl); have z_ := w_lits; have zl_ := l_lits; omega) (by have z0_ := congrArg Int32.toInt (rd_o k1228 (rd_w k1219 z1114 rfl) rfl); have z1_ := congrArg Int32.toInt (rd_s k1228); have z2_ := congrArg Int32.toInt (rd_o k1228 ef1220 rfl); have z3_ := congrArg Int32.toInt (rd_o k1228 (rd_w k1219 ef1119 rfl) rfl); have z4_ := congrArg Int32.toInt (rd_o k1228 (rd_w k1219 z1115 rfl) rfl); have z_ := w_lits; have zl_ := l_lits; omega) (by rw [(rd_s k1228)]; exact L_up hm10 (e_p1 e1226 (by decide))))
    exact (lp10_1109 161 v35 h878 (b40.mono (by decide) (by decide)) hJ878 (rd_o k878 (rd_w k869 (rd_o k6 (rd_o k5 ef1 rfl) rfl) rfl) rfl) (rd_o k878 (rd_w k869 (rd_o k6 (rd_s k5) rfl) rfl) rfl) (rd_o k878 (rd_w k869 (rd_o k6 (rd_o k5 rt rfl) rfl) rfl) rfl) (by have z0_ := congrArg Int32.toInt (rd_o k878 (rd_w k869 (rd_o k6 (rd_o k5 ef1 rfl) rfl) rfl) rfl); have z1_ := congrArg Int32.toInt (rd_s k878); have z2_ := congrArg Int32.toInt (rd_o k878 ef870 rfl); have z3_ := congrArg Int32.toInt (rd_o k878 (rd_w k869 (rd_s k6) rfl) rfl); have z4_ := congrArg Int32.toInt (rd_o k878 (rd_w k869 (rd_o k6 (rd_s k5) rfl) rfl) rfl); have z_ := w_lits; have zl_ := l_lits; omega) (by have z0_ := congrArg Int32.toInt (rd_o k878 (rd_w k869 (rd_o k6 (rd_o k5 ef1 rfl) rfl) rfl) rfl); have z1_ := congrArg Int32.toInt (rd_s k878); have z2_ := congrArg Int32.toInt (rd_o k878 ef870 rfl); have z3_ := congrArg Int32.toInt (rd_o k878 (rd_w k869 (rd_s k6) rfl) rfl); have z4_ := congrArg Int32.toInt (rd_o k878 (rd_w k869 (rd_o k6 (rd_s k5) rfl) rfl) rfl); have z_ := w_lits; have zl_ := l_lits; omega) (by have z0_ := congrArg Int32.toInt (rd_o k878 (rd_w k869 (rd_o k6 (rd_o k5 ef1 rfl) rfl) rfl) rfl); have z1_ := congrArg Int32.toInt (rd_s k878); have z2_ := congrArg Int32.toInt (rd_o k878 ef870 rfl); have z3_ := congrArg Int32.toInt (rd_o k878 (rd_w k869 (rd_s k6) rfl) rfl); have z4_ := congrArg Int32.toInt (rd_o k878 (rd_w k869 (rd_o k6 (rd_s k5) rfl) rfl) rfl); have z_ := w_lits; have zl_ := l_lits; omega) (by rw [(rd_s k878)]; exact L_init b877 (by decide)))

set_option maxRecDepth 100000 in
set_option maxHeartbeats 4000000 in
theorem w_X10_next_63 (L : Nat) (b : Bool) (h : Hp) (hB : Bx h) (rp0 : (h 63 17).toInt ≤ (h 63 16).toInt) : EvK mi_X10_next [.ref 63] (G0 L b) h (fun z : Hp => ((z 63 17).toInt ≤ (z 63 16).toInt) ∧ ((z 63 21).toInt = 0 → (h 63 21).toInt = 0) ∧ ((¬ (z 63 21).toInt = 0) ∨ (z 63 19).toInt = 0 ∨ (h 63 17).toInt + 1 ≤ (z 63 17).toInt) ∧ ((h 63 17).toInt ≤ (z 63 17).toInt) ∧ ((z 63 21).toInt = 0 → (z 63 19).toInt = 1 → 0 ≤ (z 63 20).toInt ∧ (z 63 20).toInt ≤ 4095)) [(63, 17), (63, 18), (63, 19), (63, 20), (63, 21), (63, 22)] := by
  refine EvM.of2 (lo := [some (.ref 63), none]) pf_X10_next ok_X10_next rfl rfl ?_
  have hJ0 : JW [(63, 17), (63, 18), (63, 19), (63, 20), (63, 21), (63, 22)] h h := JW.refl hB
  obtain ⟨f1, ef1⟩ : ∃ f_, h 63 16 = f_ := ⟨_, rfl⟩
  have bf1 : B f1 0 160 := by have z_ := hJ0.1 63 16; rw [ef1] at z_; exact z_
  have zf1 := congrArg Int32.toInt ef1
  obtain ⟨f2, ef2⟩ : ∃ f_, h 63 17 = f_ := ⟨_, rfl⟩
  have bf2 : B f2 0 160 := by have z_ := hJ0.1 63 17; rw [ef2] at z_; exact z_
  have zf2 := congrArg Int32.toInt ef2
  obtain ⟨f3, ef3⟩ : ∃ f_, h 63 21 = f_ := ⟨_, rfl⟩
  have bf3 : B f3 0 6 := by have z_ := hJ0.1 63 21; rw [ef3] at z_; exact z_
  have zf3 := congrArg Int32.toInt ef3
  obtain ⟨f4, ef4⟩ : ∃ f_, h 63 20 = f_ := ⟨_, rfl⟩
  have bf4 : B f4 (-2147483648) 2147483647 := by have z_ := hJ0.1 63 20; rw [ef4] at z_; exact z_
  have zf4 := congrArg Int32.toInt ef4
  obtain ⟨f5, ef5⟩ : ∃ f_, h 63 19 = f_ := ⟨_, rfl⟩
  have bf5 : B f5 0 3 := by have z_ := hJ0.1 63 19; rw [ef5] at z_; exact z_
  have zf5 := congrArg Int32.toInt ef5
  refine ev_aload_n rfl rfl rfl ?_
  refine ev_getV (v := f3) rfl rfl fl_X10_191 rfl rfl rfl ef3 ?_
  refine ev_if_le rfl rfl (fun c6 => ?_) (fun c6 => ?_)
  · have b7 : B f3 0 0 := R_leX bf3 (by decide : B 0 0 0) c6 (by decide)
    have z8 := w_le c6
    rw [show (0 : Int32).toInt = 0 from by decide] at z8
    have lp8_1014 : ∀ (n : Nat) (h1015 : Hp), JW [(63, 17), (63, 18), (63, 19), (63, 20), (63, 21), (63, 22)] h h1015 → (h1015 63 16 = f1) → (h1015 63 21 = f3) → (h1015 63 20 = f4) → (h1015 63 19 = f5) → ((h1015 63 17).toInt ≤ (h1015 63 16).toInt) → ((h 63 17).toInt ≤ (h1015 63 17).toInt) → 160 + 1 - (h1015 63 17).toInt ≤ (n : Int) → EvQ mi_X10_next 8 [some (.ref 63), none] [] (G0 L b) h1015 0 0 (QK (fun z : Hp => ((z 63 17).toInt ≤ (z 63 16).toInt) ∧ ((z 63 21).toInt = 0 → (h 63 21).toInt = 0) ∧ ((¬ (z 63 21).toInt = 0) ∨ (z 63 19).toInt = 0 ∨ (h 63 17).toInt + 1 ≤ (z 63 17).toInt) ∧ ((h 63 17).toInt ≤ (z 63 17).toInt) ∧ ((z 63 21).toInt = 0 → (z 63 19).toInt = 1 → 0 ≤ (z 63 20).toInt ∧ (z 63 20).toInt ≤ 4095)) [(63, 17), (63, 18), (63, 19), (63, 20), (63, 21), (63, 22)] (G0 L b) h) := by
      intro n
      induction n with
      | zero =>
        intro h1015 hJ1016 z1017 z1018 z1019 z1020 y8_0 y8_1 hm8
        obtain ⟨f1021, ef1021⟩ : ∃ f_, h1015 63 17 = f_ := ⟨_, rfl⟩
        have bf1021 : B f1021 0 160 := by
          have z_ := hJ1016.1 63 17
          rw [ef1021] at z_
          exact z_
        rw [ef1021] at hm8
        exact absurd hm8 (L_zero bf1021 (by decide))
      | succ n ih8 =>
        intro h1015 hJ1016 z1017 z1018 z1019 z1020 y8_0 y8_1 hm8
        obtain ⟨f1021, ef1021⟩ : ∃ f_, h1015 63 17 = f_ := ⟨_, rfl⟩
        have bf1021 : B f1021 0 160 := by
          have z_ := hJ1016.1 63 17
          rw [ef1021] at z_
          exact z_
        rw [ef1021] at hm8
        have z1022 := congrArg Int32.toInt z1017
        have z1023 := congrArg Int32.toInt ef1021
        have z1024 := congrArg Int32.toInt z1018
        have z1025 := congrArg Int32.toInt z1019
        have z1026 := congrArg Int32.toInt z1020
        refine ev_aload_n rfl rfl rfl ?_
        refine ev_aload_n rfl rfl rfl ?_
        refine ev_getV (v := f1021) rfl rfl fl_X10_210 rfl rfl rfl ef1021 ?_
        obtain ⟨t1027, et1027⟩ : ∃ f_, h1015 72 (Int32.toNatClampNeg f1021) = f_ := ⟨_, rfl⟩
        have bt1027 : B t1027 0 255 := by have z_ := hJ1016.1 72 (Int32.toNatClampNeg f1021); rw [et1027] at z_; exact z_
        have z1028 := congrArg Int32.toInt z1017
        have z1029 := congrArg Int32.toInt ef1021
        have z1030 := congrArg Int32.toInt z1018
        have z1031 := congrArg Int32.toInt z1019
        have z1032 := congrArg Int32.toInt z1020
        refine ev_V1P rfl rfl lk_X10_213 vt_X10_look rfl rfl rfl rfl rfl (w_X10_look_63 L b h1015 hJ1016.1 f1021 bf1021 t1027 et1027) (fun r1033 q1033 => ?_)
        obtain ⟨b1033, pp1033_0, pp1033_1⟩ := q1033
        refine ev_bipush (v := 32) rfl rfl (by decide) ?_
        refine ev_icmp_ne rfl rfl (fun c1034 => ?_) (fun c1034 => ?_)
        · have z1035 := w_ne c1034
          rw [show (32 : Int32).toInt = 32 from by decide] at z1035
          refine ev_aload_n rfl rfl rfl ?_
          refine ev_aload_n rfl rfl rfl ?_
          refine ev_getV (v := f1021) rfl rfl fl_X10_210 rfl rfl rfl ef1021 ?_
          refine ev_putW (l := (-2147483648)) (u := 2147483647) hJ1016 rfl bf1021 (by decide) (by decide) rfl rfl rfl fl_X10_197 rfl rfl rfl rfl rfl (fun h1038 hJ1038 k1038 => ?_)
          refine ev_aload_n rfl rfl rfl ?_
          refine ev_aload_n rfl rfl rfl ?_
          refine ev_getV (v := f1021) rfl rfl fl_X10_210 rfl rfl rfl (rd_o k1038 ef1021 rfl) ?_
          have z1039 := congrArg Int32.toInt (rd_o k1038 z1017 rfl)
          have z1040 := congrArg Int32.toInt (rd_o k1038 ef1021 rfl)
          have z1041 := congrArg Int32.toInt (rd_o k1038 z1018 rfl)
          have z1042 := congrArg Int32.toInt (rd_o k1038 z1019 rfl)
          have z1043 := congrArg Int32.toInt (rd_o k1038 z1020 rfl)
          refine ev_V1P rfl rfl lk_X10_213 vt_X10_look rfl rfl rfl rfl rfl (w_X10_look_63 L b h1038 hJ1038.1 f1021 bf1021 t1027 (rd_o k1038 et1027 rfl)) (fun r1044 q1044 => ?_)
          obtain ⟨b1044, pp1044_0, pp1044_1⟩ := q1044
          refine ev_istore_n rfl rfl rfl rfl ?_
          dsimp only [List.set]
          refine ev_iload_n rfl rfl rfl ?_
          refine ev_if_ge rfl rfl (fun c1045 => ?_) (fun c1045 => ?_)
          · have b1046 : B r1044 0 255 := R_leY (by decide : B 0 0 0) b1044 c1045 (by decide)
            have z1047 := w_le c1045
            rw [show (0 : Int32).toInt = 0 from by decide] at z1047
            refine ev_iload_n rfl rfl rfl ?_
            refine ev_i2l rfl rfl ?_
            have z1050 := Int32.toInt_toInt64 r1044
            have z1050b := B.any r1044
            refine ev_ldc2 (v := 97) rfl rfl kc_X10_216 ?_
            refine ev_ldc2 (v := 122) rfl rfl kc_X10_218 ?_
            have z1051 := congrArg Int32.toInt (rd_o k1038 z1017 rfl)
            have z1052 := congrArg Int32.toInt (rd_o k1038 ef1021 rfl)
            have z1053 := congrArg Int32.toInt (rd_o k1038 z1018 rfl)
            have z1054 := congrArg Int32.toInt (rd_o k1038 z1019 rfl)
            have z1055 := congrArg Int32.toInt (rd_o k1038 z1020 rfl)
            refine ev_S3P rfl rfl lk_X10_124 st_X10_in rfl rfl (w_inR (G0 L b) h1038 r1044 97 122 (by decide : BL 97 97 97) (by decide : BL 122 122 122)) (fun r1056 q1056 => ?_)
            obtain ⟨b1056, p1056_0, pp1056_0, pp1056_1⟩ := q1056
            refine ev_if_eq rfl rfl (fun c1057 => ?_) (fun c1057 => ?_)
            · have b1058 : B r1056 0 0 := R_eqX b1056 (by decide : B 0 0 0) c1057
              have z1059 := congrArg Int32.toInt c1057
              rw [show (0 : Int32).toInt = 0 from by decide] at z1059
              refine ev_iload_n rfl rfl rfl ?_
              refine ev_i2l rfl rfl ?_
              have z1063 := Int32.toInt_toInt64 r1044
              have z1063b := B.any r1044
              refine ev_ldc2 (v := 48) rfl rfl kc_X10_226 ?_
              refine ev_ldc2 (v := 57) rfl rfl kc_X10_228 ?_
              have z1064 := congrArg Int32.toInt (rd_o k1038 z1017 rfl)
              have z1065 := congrArg Int32.toInt (rd_o k1038 ef1021 rfl)
              have z1066 := congrArg Int32.toInt (rd_o k1038 z1018 rfl)
              have z1067 := congrArg Int32.toInt (rd_o k1038 z1019 rfl)
              have z1068 := congrArg Int32.toInt (rd_o k1038 z1020 rfl)
              refine ev_S3P rfl rfl lk_X10_124 st_X10_in rfl rfl (w_inR (G0 L b) h1038 r1044 48 57 (by decide : BL 48 48 48) (by decide : BL 57 57 57)) (fun r1069 q1069 => ?_)
              obtain ⟨b1069, p1069_0, pp1069_0, pp1069_1⟩ := q1069
              refine ev_if_eq rfl rfl (fun c1070 => ?_) (fun c1070 => ?_)
              · have b1071 : B r1069 0 0 := R_eqX b1069 (by decide : B 0 0 0) c1070
                have z1072 := congrArg Int32.toInt c1070
                rw [show (0 : Int32).toInt = 0 from by decide] at z1072
                refine ev_aload_n rfl rfl rfl ?_
                refine ev_iconst (v := 3) rfl rfl (by decide) ?_
                refine ev_putW (l := 0) (u := 3) hJ1038 rfl (by decide : B 3 3 3) (by decide) (by decide) rfl rfl rfl fl_X10_204 rfl rfl rfl rfl rfl (fun h1076 hJ1076 k1076 => ?_)
                refine ev_aload_n rfl rfl rfl ?_
                refine ev_iload_n rfl rfl rfl ?_
                refine ev_putW (l := (-2147483648)) (u := 2147483647) hJ1076 rfl b1046 (by decide) (by decide) rfl rfl rfl fl_X10_207 rfl rfl rfl rfl rfl (fun h1077 hJ1077 k1077 => ?_)
                refine ev_aload_n rfl rfl rfl ?_
                refine ev_iload_n rfl rfl rfl ?_
                refine ev_bipush (v := 40) rfl rfl (by decide) ?_
                refine ev_icmp_eq rfl rfl (fun c1078 => ?_) (fun c1078 => ?_)
                · have b1079 : B r1044 40 40 := R_eqX b1046 (by decide : B 40 40 40) c1078
                  have z1080 := congrArg Int32.toInt c1078
                  rw [show (40 : Int32).toInt = 40 from by decide] at z1080
                  refine ev_iconst (v := 1) rfl rfl (by decide) ?_
                  refine ev_goto rfl rfl ?_
                  refine ev_iconst (v := 1) rfl rfl (by decide) ?_
                  have z1082 := congrArg Int32.toInt (rd_o k1077 (rd_o k1076 (rd_o k1038 z1017 rfl) rfl) rfl)
                  have z1083 := congrArg Int32.toInt (rd_o k1077 (rd_o k1076 (rd_o k1038 ef1021 rfl) rfl) rfl)
                  have z1084 := congrArg Int32.toInt (rd_o k1077 (rd_o k1076 (rd_o k1038 z1018 rfl) rfl) rfl)
                  have z1085 := congrArg Int32.toInt (rd_s k1077)
                  have z1086 := congrArg Int32.toInt (rd_o k1077 (rd_s k1076) rfl)
                  refine ev_V2K hJ1077 rfl rfl rfl lk_X10_230 vt_X10_wants rfl rfl rfl rfl rfl (w_X10_wants_63 L b h1077 hJ1077.1 1 ((by decide : B 1 1 1).mono (by decide) (by decide)) 1 ((by decide : B 1 1 1).mono (by decide) (by decide))) (fun h1087 hJ1087 k1087 m1087 => ?_)
                  obtain ⟨f1088, ef1088⟩ : ∃ f_, h1087 63 21 = f_ := ⟨_, rfl⟩
                  have bf1088 : B f1088 0 6 := by have z_ := hJ1087.1 63 21; rw [ef1088] at z_; exact z_
                  have zf1088 := congrArg Int32.toInt ef1088
                  have z1089 := congrArg Int32.toInt (rd_w k1087 (rd_o k1077 (rd_o k1076 (rd_o k1038 z1017 rfl) rfl) rfl) rfl)
                  have z1090 := congrArg Int32.toInt (rd_w k1087 (rd_o k1077 (rd_o k1076 (rd_o k1038 ef1021 rfl) rfl) rfl) rfl)
                  have z1091 := congrArg Int32.toInt ef1088
                  have z1092 := congrArg Int32.toInt (rd_w k1087 (rd_s k1077) rfl)
                  have z1093 := congrArg Int32.toInt (rd_w k1087 (rd_o k1077 (rd_s k1076) rfl) rfl)
                  refine ev_aload_n rfl rfl rfl ?_
                  refine ev_dup rfl rfl rfl ?_
                  refine ev_getV (v := f1021) rfl rfl fl_X10_210 rfl rfl rfl (rd_w k1087 (rd_o k1077 (rd_o k1076 (rd_o k1038 ef1021 rfl) rfl) rfl) rfl) ?_
                  refine ev_iconst (v := 1) rfl rfl (by decide) ?_
                  refine ev_iaddB (l := 1) (u := 161) rfl rfl bf1021 (by decide : B 1 1 1) (by decide) (by decide) (by decide) (by decide) (fun v1094 b1094 e1094 g1094 => ?_)
                  have e1094x := e1094; rw [show (1 : Int32).toInt = 1 from by decide] at e1094x
                  have b1095 : B v1094 0 160 := ⟨(by have z0_ := congrArg Int32.toInt (rd_w k1087 (rd_o k1077 (rd_o k1076 (rd_o k1038 z1017 rfl) rfl) rfl) rfl); have z1_ := congrArg Int32.toInt (rd_w k1087 (rd_o k1077 (rd_o k1076 (rd_o k1038 ef1021 rfl) rfl) rfl) rfl); have z2_ := congrArg Int32.toInt ef1088; have z3_ := congrArg Int32.toInt (rd_w k1087 (rd_s k1077) rfl); have z4_ := congrArg Int32.toInt (rd_w k1087 (rd_o k1077 (rd_s k1076) rfl) rfl); have z_ := w_lits; have zl_ := l_lits; omega), (by have z0_ := congrArg Int32.toInt (rd_w k1087 (rd_o k1077 (rd_o k1076 (rd_o k1038 z1017 rfl) rfl) rfl) rfl); have z1_ := congrArg Int32.toInt (rd_w k1087 (rd_o k1077 (rd_o k1076 (rd_o k1038 ef1021 rfl) rfl) rfl) rfl); have z2_ := congrArg Int32.toInt ef1088; have z3_ := congrArg Int32.toInt (rd_w k1087 (rd_s k1077) rfl); have z4_ := congrArg Int32.toInt (rd_w k1087 (rd_o k1077 (rd_s k1076) rfl) rfl); have z_ := w_lits; have zl_ := l_lits; omega)⟩
                  refine ev_putW (l := 0) (u := 160) hJ1087 rfl b1095 (by decide) (by decide) rfl rfl rfl fl_X10_210 rfl rfl rfl rfl rfl (fun h1096 hJ1096 k1096 => ?_)
                  exact ev_vret rfl rfl trivial ⟨rfl, rfl, hJ1096, (by have z0_ := congrArg Int32.toInt (rd_o k1096 (rd_w k1087 (rd_o k1077 (rd_o k1076 (rd_o k1038 z1017 rfl) rfl) rfl) rfl) rfl); have z1_ := congrArg Int32.toInt (rd_s k1096); have z2_ := congrArg Int32.toInt (rd_o k1096 ef1088 rfl); have z3_ := congrArg Int32.toInt (rd_o k1096 (rd_w k1087 (rd_s k1077) rfl) rfl); have z4_ := congrArg Int32.toInt (rd_o k1096 (rd_w k1087 (rd_o k1077 (rd_s k1076) rfl) rfl) rfl); have z_ := w_lits; have zl_ := l_lits; omega), (by have z0_ := congrArg Int32.toInt (rd_o k1096 (rd_w k1087 (rd_o k1077 (rd_o k1076 (rd_o k1038 z1017 rfl) rfl) rfl) rfl) rfl); have z1_ := congrArg Int32.toInt (rd_s k1096); have z2_ := congrArg Int32.toInt (rd_o k1096 ef1088 rfl); have z3_ := congrArg Int32.toInt (rd_o k1096 (rd_w k1087 (rd_s k1077) rfl) rfl); have z4_ := congrArg Int32.toInt (rd_o k1096 (rd_w k1087 (rd_o k1077 (rd_s k1076) rfl) rfl) rfl); have z_ := w_lits; have zl_ := l_lits; omega), (by have z0_ := congrArg Int32.toInt (rd_o k1096 (rd_w k1087 (rd_o k1077 (rd_o k1076 (rd_o k1038 z1017 rfl) rfl) rfl) rfl) rfl); have z1_ := congrArg Int32.toInt (rd_s k1096); have z2_ := congrArg Int32.toInt (rd_o k1096 ef1088 rfl); have z3_ := congrArg Int32.toInt (rd_o k1096 (rd_w k1087 (rd_s k1077) rfl) rfl); have z4_ := congrArg Int32.toInt (rd_o k1096 (rd_w k1087 (rd_o k1077 (rd_s k1076) rfl) rfl) rfl); have z_ := w_lits; have zl_ := l_lits; omega), (by have z0_ := congrArg Int32.toInt (rd_o k1096 (rd_w k1087 (rd_o k1077 (rd_o k1076 (rd_o k1038 z1017 rfl) rfl) rfl) rfl) rfl); have z1_ := congrArg Int32.toInt (rd_s k1096); have z2_ := congrArg Int32.toInt (rd_o k1096 ef1088 rfl); have z3_ := congrArg Int32.toInt (rd_o k1096 (rd_w k1087 (rd_s k1077) rfl) rfl); have z4_ := congrArg Int32.toInt (rd_o k1096 (rd_w k1087 (rd_o k1077 (rd_s k1076) rfl) rfl) rfl); have z_ := w_lits; have zl_ := l_lits; omega), (by have z0_ := congrArg Int32.toInt (rd_o k1096 (rd_w k1087 (rd_o k1077 (rd_o k1076 (rd_o k1038 z1017 rfl) rfl) rfl) rfl) rfl); have z1_ := congrArg Int32.toInt (rd_s k1096); have z2_ := congrArg Int32.toInt (rd_o k1096 ef1088 rfl); have z3_ := congrArg Int32.toInt (rd_o k1096 (rd_w k1087 (rd_s k1077) rfl) rfl); have z4_ := congrArg Int32.toInt (rd_o k1096 (rd_w k1087 (rd_o k1077 (rd_s k1076) rfl) rfl) rfl); have z_ := w_lits; have zl_ := l_lits; omega)⟩
                · have z1081 := w_ne c1078
                  rw [show (40 : Int32).toInt = 40 from by decide] at z1081
                  refine ev_iload_n rfl rfl rfl ?_
                  refine ev_bipush (v := 41) rfl rfl (by decide) ?_
                  refine ev_icmp_eq rfl rfl (fun c1097 => ?_) (fun c1097 => ?_)
                  · have b1098 : B r1044 41 41 := R_eqX b1046 (by decide : B 41 41 41) c1097
                    have z1099 := congrArg Int32.toInt c1097
                    rw [show (41 : Int32).toInt = 41 from by decide] at z1099
                    refine ev_iconst (v := 1) rfl rfl (by decide) ?_
                    refine ev_goto rfl rfl ?_
                    refine ev_iconst (v := 1) rfl rfl (by decide) ?_
                    have z1101 := congrArg Int32.toInt (rd_o k1077 (rd_o k1076 (rd_o k1038 z1017 rfl) rfl) rfl)
                    have z1102 := congrArg Int32.toInt (rd_o k1077 (rd_o k1076 (rd_o k1038 ef1021 rfl) rfl) rfl)
                    have z1103 := congrArg Int32.toInt (rd_o k1077 (rd_o k1076 (rd_o k1038 z1018 rfl) rfl) rfl)
                    have z1104 := congrArg Int32.toInt (rd_s k1077)
                    have z1105 := congrArg Int32.toInt (rd_o k1077 (rd_s k1076) rfl)
                    refine ev_V2K hJ1077 rfl rfl rfl lk_X10_230 vt_X10_wants rfl rfl rfl rfl rfl (w_X10_wants_63 L b h1077 hJ1077.1 1 ((by decide : B 1 1 1).mono (by decide) (by decide)) 1 ((by decide : B 1 1 1).mono (by decide) (by decide))) (fun h1106 hJ1106 k1106 m1106 => ?_)
                    obtain ⟨f1107, ef1107⟩ : ∃ f_, h1106 63 21 = f_ := ⟨_, rfl⟩
                    have bf1107 : B f1107 0 6 := by have z_ := hJ1106.1 63 21; rw [ef1107] at z_; exact z_
                    have zf1107 := congrArg Int32.toInt ef1107
                    have z1108 := congrArg Int32.toInt (rd_w k1106 (rd_o k1077 (rd_o k1076 (rd_o k1038 z1017 rfl) rfl) rfl) rfl)
                    have z1109 := congrArg Int32.toInt (rd_w k1106 (rd_o k1077 (rd_o k1076 (rd_o k1038 ef1021 rfl) rfl) rfl) rfl)
                    have z1110 := congrArg Int32.toInt ef1107
                    have z1111 := congrArg Int32.toInt (rd_w k1106 (rd_s k1077) rfl)
                    have z1112 := congrArg Int32.toInt (rd_w k1106 (rd_o k1077 (rd_s k1076) rfl) rfl)
                    refine ev_aload_n rfl rfl rfl ?_
                    refine ev_dup rfl rfl rfl ?_
                    refine ev_getV (v := f1021) rfl rfl fl_X10_210 rfl rfl rfl (rd_w k1106 (rd_o k1077 (rd_o k1076 (rd_o k1038 ef1021 rfl) rfl) rfl) rfl) ?_
                    refine ev_iconst (v := 1) rfl rfl (by decide) ?_
                    refine ev_iaddB (l := 1) (u := 161) rfl rfl bf1021 (by decide : B 1 1 1) (by decide) (by decide) (by decide) (by decide) (fun v1113 b1113 e1113 g1113 => ?_)
                    have e1113x := e1113; rw [show (1 : Int32).toInt = 1 from by decide] at e1113x
                    have b1114 : B v1113 0 160 := ⟨(by have z0_ := congrArg Int32.toInt (rd_w k1106 (rd_o k1077 (rd_o k1076 (rd_o k1038 z1017 rfl) rfl) rfl) rfl); have z1_ := congrArg Int32.toInt (rd_w k1106 (rd_o k1077 (rd_o k1076 (rd_o k1038 ef1021 rfl) rfl) rfl) rfl); have z2_ := congrArg Int32.toInt ef1107; have z3_ := congrArg Int32.toInt (rd_w k1106 (rd_s k1077) rfl); have z4_ := congrArg Int32.toInt (rd_w k1106 (rd_o k1077 (rd_s k1076) rfl) rfl); have z_ := w_lits; have zl_ := l_lits; omega), (by have z0_ := congrArg Int32.toInt (rd_w k1106 (rd_o k1077 (rd_o k1076 (rd_o k1038 z1017 rfl) rfl) rfl) rfl); have z1_ := congrArg Int32.toInt (rd_w k1106 (rd_o k1077 (rd_o k1076 (rd_o k1038 ef1021 rfl) rfl) rfl) rfl); have z2_ := congrArg Int32.toInt ef1107; have z3_ := congrArg Int32.toInt (rd_w k1106 (rd_s k1077) rfl); have z4_ := congrArg Int32.toInt (rd_w k1106 (rd_o k1077 (rd_s k1076) rfl) rfl); have z_ := w_lits; have zl_ := l_lits; omega)⟩
                    refine ev_putW (l := 0) (u := 160) hJ1106 rfl b1114 (by decide) (by decide) rfl rfl rfl fl_X10_210 rfl rfl rfl rfl rfl (fun h1115 hJ1115 k1115 => ?_)
                    exact ev_vret rfl rfl trivial ⟨rfl, rfl, hJ1115, (by have z0_ := congrArg Int32.toInt (rd_o k1115 (rd_w k1106 (rd_o k1077 (rd_o k1076 (rd_o k1038 z1017 rfl) rfl) rfl) rfl) rfl); have z1_ := congrArg Int32.toInt (rd_s k1115); have z2_ := congrArg Int32.toInt (rd_o k1115 ef1107 rfl); have z3_ := congrArg Int32.toInt (rd_o k1115 (rd_w k1106 (rd_s k1077) rfl) rfl); have z4_ := congrArg Int32.toInt (rd_o k1115 (rd_w k1106 (rd_o k1077 (rd_s k1076) rfl) rfl) rfl); have z_ := w_lits; have zl_ := l_lits; omega), (by have z0_ := congrArg Int32.toInt (rd_o k1115 (rd_w k1106 (rd_o k1077 (rd_o k1076 (rd_o k1038 z1017 rfl) rfl) rfl) rfl) rfl); have z1_ := congrArg Int32.toInt (rd_s k1115); have z2_ := congrArg Int32.toInt (rd_o k1115 ef1107 rfl); have z3_ := congrArg Int32.toInt (rd_o k1115 (rd_w k1106 (rd_s k1077) rfl) rfl); have z4_ := congrArg Int32.toInt (rd_o k1115 (rd_w k1106 (rd_o k1077 (rd_s k1076) rfl) rfl) rfl); have z_ := w_lits; have zl_ := l_lits; omega), (by have z0_ := congrArg Int32.toInt (rd_o k1115 (rd_w k1106 (rd_o k1077 (rd_o k1076 (rd_o k1038 z1017 rfl) rfl) rfl) rfl) rfl); have z1_ := congrArg Int32.toInt (rd_s k1115); have z2_ := congrArg Int32.toInt (rd_o k1115 ef1107 rfl); have z3_ := congrArg Int32.toInt (rd_o k1115 (rd_w k1106 (rd_s k1077) rfl) rfl); have z4_ := congrArg Int32.toInt (rd_o k1115 (rd_w k1106 (rd_o k1077 (rd_s k1076) rfl) rfl) rfl); have z_ := w_lits; have zl_ := l_lits; omega), (by have z0_ := congrArg Int32.toInt (rd_o k1115 (rd_w k1106 (rd_o k1077 (rd_o k1076 (rd_o k1038 z1017 rfl) rfl) rfl) rfl) rfl); have z1_ := congrArg Int32.toInt (rd_s k1115); have z2_ := congrArg Int32.toInt (rd_o k1115 ef1107 rfl); have z3_ := congrArg Int32.toInt (rd_o k1115 (rd_w k1106 (rd_s k1077) rfl) rfl); have z4_ := congrArg Int32.toInt (rd_o k1115 (rd_w k1106 (rd_o k1077 (rd_s k1076) rfl) rfl) rfl); have z_ := w_lits; have zl_ := l_lits; omega), (by have z0_ := congrArg Int32.toInt (rd_o k1115 (rd_w k1106 (rd_o k1077 (rd_o k1076 (rd_o k1038 z1017 rfl) rfl) rfl) rfl) rfl); have z1_ := congrArg Int32.toInt (rd_s k1115); have z2_ := congrArg Int32.toInt (rd_o k1115 ef1107 rfl); have z3_ := congrArg Int32.toInt (rd_o k1115 (rd_w k1106 (rd_s k1077) rfl) rfl); have z4_ := congrArg Int32.toInt (rd_o k1115 (rd_w k1106 (rd_o k1077 (rd_s k1076) rfl) rfl) rfl); have z_ := w_lits; have zl_ := l_lits; omega)⟩
                  · have z1100 := w_ne c1097
                    rw [show (41 : Int32).toInt = 41 from by decide] at z1100
                    refine ev_iload_n rfl rfl rfl ?_
                    refine ev_bipush (v := 46) rfl rfl (by decide) ?_
                    refine ev_icmp_ne rfl rfl (fun c1116 => ?_) (fun c1116 => ?_)
                    · have z1117 := w_ne c1116
                      rw [show (46 : Int32).toInt = 46 from by decide] at z1117
                      refine ev_iconst (v := 0) rfl rfl (by decide) ?_
                      refine ev_iconst (v := 1) rfl rfl (by decide) ?_
                      have z1120 := congrArg Int32.toInt (rd_o k1077 (rd_o k1076 (rd_o k1038 z1017 rfl) rfl) rfl)
                      have z1121 := congrArg Int32.toInt (rd_o k1077 (rd_o k1076 (rd_o k1038 ef1021 rfl) rfl) rfl)
                      have z1122 := congrArg Int32.toInt (rd_o k1077 (rd_o k1076 (rd_o k1038 z1018 rfl) rfl) rfl)
                      have z1123 := congrArg Int32.toInt (rd_s k1077)
                      have z1124 := congrArg Int32.toInt (rd_o k1077 (rd_s k1076) rfl)
                      refine ev_V2K hJ1077 rfl rfl rfl lk_X10_230 vt_X10_wants rfl rfl rfl rfl rfl (w_X10_wants_63 L b h1077 hJ1077.1 0 ((by decide : B 0 0 0).mono (by decide) (by decide)) 1 ((by decide : B 1 1 1).mono (by decide) (by decide))) (fun h1125 hJ1125 k1125 m1125 => ?_)
                      obtain ⟨f1126, ef1126⟩ : ∃ f_, h1125 63 21 = f_ := ⟨_, rfl⟩
                      have bf1126 : B f1126 0 6 := by have z_ := hJ1125.1 63 21; rw [ef1126] at z_; exact z_
                      have zf1126 := congrArg Int32.toInt ef1126
                      have z1127 := congrArg Int32.toInt (rd_w k1125 (rd_o k1077 (rd_o k1076 (rd_o k1038 z1017 rfl) rfl) rfl) rfl)
                      have z1128 := congrArg Int32.toInt (rd_w k1125 (rd_o k1077 (rd_o k1076 (rd_o k1038 ef1021 rfl) rfl) rfl) rfl)
                      have z1129 := congrArg Int32.toInt ef1126
                      have z1130 := congrArg Int32.toInt (rd_w k1125 (rd_s k1077) rfl)
                      have z1131 := congrArg Int32.toInt (rd_w k1125 (rd_o k1077 (rd_s k1076) rfl) rfl)
                      refine ev_aload_n rfl rfl rfl ?_
                      refine ev_dup rfl rfl rfl ?_
                      refine ev_getV (v := f1021) rfl rfl fl_X10_210 rfl rfl rfl (rd_w k1125 (rd_o k1077 (rd_o k1076 (rd_o k1038 ef1021 rfl) rfl) rfl) rfl) ?_
                      refine ev_iconst (v := 1) rfl rfl (by decide) ?_
                      refine ev_iaddB (l := 1) (u := 161) rfl rfl bf1021 (by decide : B 1 1 1) (by decide) (by decide) (by decide) (by decide) (fun v1132 b1132 e1132 g1132 => ?_)
                      have e1132x := e1132; rw [show (1 : Int32).toInt = 1 from by decide] at e1132x
                      have b1133 : B v1132 0 160 := ⟨(by have z0_ := congrArg Int32.toInt (rd_w k1125 (rd_o k1077 (rd_o k1076 (rd_o k1038 z1017 rfl) rfl) rfl) rfl); have z1_ := congrArg Int32.toInt (rd_w k1125 (rd_o k1077 (rd_o k1076 (rd_o k1038 ef1021 rfl) rfl) rfl) rfl); have z2_ := congrArg Int32.toInt ef1126; have z3_ := congrArg Int32.toInt (rd_w k1125 (rd_s k1077) rfl); have z4_ := congrArg Int32.toInt (rd_w k1125 (rd_o k1077 (rd_s k1076) rfl) rfl); have z_ := w_lits; have zl_ := l_lits; omega), (by have z0_ := congrArg Int32.toInt (rd_w k1125 (rd_o k1077 (rd_o k1076 (rd_o k1038 z1017 rfl) rfl) rfl) rfl); have z1_ := congrArg Int32.toInt (rd_w k1125 (rd_o k1077 (rd_o k1076 (rd_o k1038 ef1021 rfl) rfl) rfl) rfl); have z2_ := congrArg Int32.toInt ef1126; have z3_ := congrArg Int32.toInt (rd_w k1125 (rd_s k1077) rfl); have z4_ := congrArg Int32.toInt (rd_w k1125 (rd_o k1077 (rd_s k1076) rfl) rfl); have z_ := w_lits; have zl_ := l_lits; omega)⟩
                      refine ev_putW (l := 0) (u := 160) hJ1125 rfl b1133 (by decide) (by decide) rfl rfl rfl fl_X10_210 rfl rfl rfl rfl rfl (fun h1134 hJ1134 k1134 => ?_)
                      exact ev_vret rfl rfl trivial ⟨rfl, rfl, hJ1134, (by have z0_ := congrArg Int32.toInt (rd_o k1134 (rd_w k1125 (rd_o k1077 (rd_o k1076 (rd_o k1038 z1017 rfl) rfl) rfl) rfl) rfl); have z1_ := congrArg Int32.toInt (rd_s k1134); have z2_ := congrArg Int32.toInt (rd_o k1134 ef1126 rfl); have z3_ := congrArg Int32.toInt (rd_o k1134 (rd_w k1125 (rd_s k1077) rfl) rfl); have z4_ := congrArg Int32.toInt (rd_o k1134 (rd_w k1125 (rd_o k1077 (rd_s k1076) rfl) rfl) rfl); have z_ := w_lits; have zl_ := l_lits; omega), (by have z0_ := congrArg Int32.toInt (rd_o k1134 (rd_w k1125 (rd_o k1077 (rd_o k1076 (rd_o k1038 z1017 rfl) rfl) rfl) rfl) rfl); have z1_ := congrArg Int32.toInt (rd_s k1134); have z2_ := congrArg Int32.toInt (rd_o k1134 ef1126 rfl); have z3_ := congrArg Int32.toInt (rd_o k1134 (rd_w k1125 (rd_s k1077) rfl) rfl); have z4_ := congrArg Int32.toInt (rd_o k1134 (rd_w k1125 (rd_o k1077 (rd_s k1076) rfl) rfl) rfl); have z_ := w_lits; have zl_ := l_lits; omega), (by have z0_ := congrArg Int32.toInt (rd_o k1134 (rd_w k1125 (rd_o k1077 (rd_o k1076 (rd_o k1038 z1017 rfl) rfl) rfl) rfl) rfl); have z1_ := congrArg Int32.toInt (rd_s k1134); have z2_ := congrArg Int32.toInt (rd_o k1134 ef1126 rfl); have z3_ := congrArg Int32.toInt (rd_o k1134 (rd_w k1125 (rd_s k1077) rfl) rfl); have z4_ := congrArg Int32.toInt (rd_o k1134 (rd_w k1125 (rd_o k1077 (rd_s k1076) rfl) rfl) rfl); have z_ := w_lits; have zl_ := l_lits; omega), (by have z0_ := congrArg Int32.toInt (rd_o k1134 (rd_w k1125 (rd_o k1077 (rd_o k1076 (rd_o k1038 z1017 rfl) rfl) rfl) rfl) rfl); have z1_ := congrArg Int32.toInt (rd_s k1134); have z2_ := congrArg Int32.toInt (rd_o k1134 ef1126 rfl); have z3_ := congrArg Int32.toInt (rd_o k1134 (rd_w k1125 (rd_s k1077) rfl) rfl); have z4_ := congrArg Int32.toInt (rd_o k1134 (rd_w k1125 (rd_o k1077 (rd_s k1076) rfl) rfl) rfl); have z_ := w_lits; have zl_ := l_lits; omega), (by have z0_ := congrArg Int32.toInt (rd_o k1134 (rd_w k1125 (rd_o k1077 (rd_o k1076 (rd_o k1038 z1017 rfl) rfl) rfl) rfl) rfl); have z1_ := congrArg Int32.toInt (rd_s k1134); have z2_ := congrArg Int32.toInt (rd_o k1134 ef1126 rfl); have z3_ := congrArg Int32.toInt (rd_o k1134 (rd_w k1125 (rd_s k1077) rfl) rfl); have z4_ := congrArg Int32.toInt (rd_o k1134 (rd_w k1125 (rd_o k1077 (rd_s k1076) rfl) rfl) rfl); have z_ := w_lits; have zl_ := l_lits; omega)⟩
                    · have b1118 : B r1044 46 46 := R_eqX b1046 (by decide : B 46 46 46) c1116
                      have z1119 := congrArg Int32.toInt c1116
                      rw [show (46 : Int32).toInt = 46 from by decide] at z1119
                      refine ev_iconst (v := 1) rfl rfl (by decide) ?_
                      refine ev_goto rfl rfl ?_
                      refine ev_iconst (v := 1) rfl rfl (by decide) ?_
                      have z1135 := congrArg Int32.toInt (rd_o k1077 (rd_o k1076 (rd_o k1038 z1017 rfl) rfl) rfl)
                      have z1136 := congrArg Int32.toInt (rd_o k1077 (rd_o k1076 (rd_o k1038 ef1021 rfl) rfl) rfl)
                      have z1137 := congrArg Int32.toInt (rd_o k1077 (rd_o k1076 (rd_o k1038 z1018 rfl) rfl) rfl)
                      have z1138 := congrArg Int32.toInt (rd_s k1077)
                      have z1139 := congrArg Int32.toInt (rd_o k1077 (rd_s k1076) rfl)
                      refine ev_V2K hJ1077 rfl rfl rfl lk_X10_230 vt_X10_wants rfl rfl rfl rfl rfl (w_X10_wants_63 L b h1077 hJ1077.1 1 ((by decide : B 1 1 1).mono (by decide) (by decide)) 1 ((by decide : B 1 1 1).mono (by decide) (by decide))) (fun h1140 hJ1140 k1140 m1140 => ?_)
                      obtain ⟨f1141, ef1141⟩ : ∃ f_, h1140 63 21 = f_ := ⟨_, rfl⟩
                      have bf1141 : B f1141 0 6 := by have z_ := hJ1140.1 63 21; rw [ef1141] at z_; exact z_
                      have zf1141 := congrArg Int32.toInt ef1141
                      have z1142 := congrArg Int32.toInt (rd_w k1140 (rd_o k1077 (rd_o k1076 (rd_o k1038 z1017 rfl) rfl) rfl) rfl)
                      have z1143 := congrArg Int32.toInt (rd_w k1140 (rd_o k1077 (rd_o k1076 (rd_o k1038 ef1021 rfl) rfl) rfl) rfl)
                      have z1144 := congrArg Int32.toInt ef1141
                      have z1145 := congrArg Int32.toInt (rd_w k1140 (rd_s k1077) rfl)
                      have z1146 := congrArg Int32.toInt (rd_w k1140 (rd_o k1077 (rd_s k1076) rfl) rfl)
                      refine ev_aload_n rfl rfl rfl ?_
                      refine ev_dup rfl rfl rfl ?_
                      refine ev_getV (v := f1021) rfl rfl fl_X10_210 rfl rfl rfl (rd_w k1140 (rd_o k1077 (rd_o k1076 (rd_o k1038 ef1021 rfl) rfl) rfl) rfl) ?_
                      refine ev_iconst (v := 1) rfl rfl (by decide) ?_
                      refine ev_iaddB (l := 1) (u := 161) rfl rfl bf1021 (by decide : B 1 1 1) (by decide) (by decide) (by decide) (by decide) (fun v1147 b1147 e1147 g1147 => ?_)
                      have e1147x := e1147; rw [show (1 : Int32).toInt = 1 from by decide] at e1147x
                      have b1148 : B v1147 0 160 := ⟨(by have z0_ := congrArg Int32.toInt (rd_w k1140 (rd_o k1077 (rd_o k1076 (rd_o k1038 z1017 rfl) rfl) rfl) rfl); have z1_ := congrArg Int32.toInt (rd_w k1140 (rd_o k1077 (rd_o k1076 (rd_o k1038 ef1021 rfl) rfl) rfl) rfl); have z2_ := congrArg Int32.toInt ef1141; have z3_ := congrArg Int32.toInt (rd_w k1140 (rd_s k1077) rfl); have z4_ := congrArg Int32.toInt (rd_w k1140 (rd_o k1077 (rd_s k1076) rfl) rfl); have z_ := w_lits; have zl_ := l_lits; omega), (by have z0_ := congrArg Int32.toInt (rd_w k1140 (rd_o k1077 (rd_o k1076 (rd_o k1038 z1017 rfl) rfl) rfl) rfl); have z1_ := congrArg Int32.toInt (rd_w k1140 (rd_o k1077 (rd_o k1076 (rd_o k1038 ef1021 rfl) rfl) rfl) rfl); have z2_ := congrArg Int32.toInt ef1141; have z3_ := congrArg Int32.toInt (rd_w k1140 (rd_s k1077) rfl); have z4_ := congrArg Int32.toInt (rd_w k1140 (rd_o k1077 (rd_s k1076) rfl) rfl); have z_ := w_lits; have zl_ := l_lits; omega)⟩
                      refine ev_putW (l := 0) (u := 160) hJ1140 rfl b1148 (by decide) (by decide) rfl rfl rfl fl_X10_210 rfl rfl rfl rfl rfl (fun h1149 hJ1149 k1149 => ?_)
                      exact ev_vret rfl rfl trivial ⟨rfl, rfl, hJ1149, (by have z0_ := congrArg Int32.toInt (rd_o k1149 (rd_w k1140 (rd_o k1077 (rd_o k1076 (rd_o k1038 z1017 rfl) rfl) rfl) rfl) rfl); have z1_ := congrArg Int32.toInt (rd_s k1149); have z2_ := congrArg Int32.toInt (rd_o k1149 ef1141 rfl); have z3_ := congrArg Int32.toInt (rd_o k1149 (rd_w k1140 (rd_s k1077) rfl) rfl); have z4_ := congrArg Int32.toInt (rd_o k1149 (rd_w k1140 (rd_o k1077 (rd_s k1076) rfl) rfl) rfl); have z_ := w_lits; have zl_ := l_lits; omega), (by have z0_ := congrArg Int32.toInt (rd_o k1149 (rd_w k1140 (rd_o k1077 (rd_o k1076 (rd_o k1038 z1017 rfl) rfl) rfl) rfl) rfl); have z1_ := congrArg Int32.toInt (rd_s k1149); have z2_ := congrArg Int32.toInt (rd_o k1149 ef1141 rfl); have z3_ := congrArg Int32.toInt (rd_o k1149 (rd_w k1140 (rd_s k1077) rfl) rfl); have z4_ := congrArg Int32.toInt (rd_o k1149 (rd_w k1140 (rd_o k1077 (rd_s k1076) rfl) rfl) rfl); have z_ := w_lits; have zl_ := l_lits; omega), (by have z0_ := congrArg Int32.toInt (rd_o k1149 (rd_w k1140 (rd_o k1077 (rd_o k1076 (rd_o k1038 z1017 rfl) rfl) rfl) rfl) rfl); have z1_ := congrArg Int32.toInt (rd_s k1149); have z2_ := congrArg Int32.toInt (rd_o k1149 ef1141 rfl); have z3_ := congrArg Int32.toInt (rd_o k1149 (rd_w k1140 (rd_s k1077) rfl) rfl); have z4_ := congrArg Int32.toInt (rd_o k1149 (rd_w k1140 (rd_o k1077 (rd_s k1076) rfl) rfl) rfl); have z_ := w_lits; have zl_ := l_lits; omega), (by have z0_ := congrArg Int32.toInt (rd_o k1149 (rd_w k1140 (rd_o k1077 (rd_o k1076 (rd_o k1038 z1017 rfl) rfl) rfl) rfl) rfl); have z1_ := congrArg Int32.toInt (rd_s k1149); have z2_ := congrArg Int32.toInt (rd_o k1149 ef1141 rfl); have z3_ := congrArg Int32.toInt (rd_o k1149 (rd_w k1140 (rd_s k1077) rfl) rfl); have z4_ := congrArg Int32.toInt (rd_o k1149 (rd_w k1140 (rd_o k1077 (rd_s k1076) rfl) rfl) rfl); have z_ := w_lits; have zl_ := l_lits; omega), (by have z0_ := congrArg Int32.toInt (rd_o k1149 (rd_w k1140 (rd_o k1077 (rd_o k1076 (rd_o k1038 z1017 rfl) rfl) rfl) rfl) rfl); have z1_ := congrArg Int32.toInt (rd_s k1149); have z2_ := congrArg Int32.toInt (rd_o k1149 ef1141 rfl); have z3_ := congrArg Int32.toInt (rd_o k1149 (rd_w k1140 (rd_s k1077) rfl) rfl); have z4_ := congrArg Int32.toInt (rd_o k1149 (rd_w k1140 (rd_o k1077 (rd_s k1076) rfl) rfl) rfl); have z_ := w_lits; have zl_ := l_lits; omega)⟩
              · have b1073 : B r1069 1 1 := R_neL b1069 (by decide : B 0 0 0) c1070 (by decide)
                have b1074 : B r1044 48 57 := p1069_0 c1070
                have z1075 := w_ne c1070
                rw [show (0 : Int32).toInt = 0 from by decide] at z1075
                refine ev_aload_n rfl rfl rfl ?_
                refine ev_iconst (v := 2) rfl rfl (by decide) ?_
                refine ev_putW (l := 0) (u := 3) hJ1038 rfl (by decide : B 2 2 2) (by decide) (by decide) rfl rfl rfl fl_X10_204 rfl rfl rfl rfl rfl (fun h1150 hJ1150 k1150 => ?_)
                refine ev_aload_n rfl rfl rfl ?_
                refine ev_iconst (v := 0) rfl rfl (by decide) ?_
                refine ev_putW (l := (-2147483648)) (u := 2147483647) hJ1150 rfl (by decide : B 0 0 0) (by decide) (by decide) rfl rfl rfl fl_X10_207 rfl rfl rfl rfl rfl (fun h1151 hJ1151 k1151 => ?_)
                refine ev_aload_n rfl rfl rfl ?_
                refine ev_aload_n rfl rfl rfl ?_
                refine ev_getV (v := f1021) rfl rfl fl_X10_210 rfl rfl rfl (rd_o k1151 (rd_o k1150 (rd_o k1038 ef1021 rfl) rfl) rfl) ?_
                have z1152 := congrArg Int32.toInt (rd_o k1151 (rd_o k1150 (rd_o k1038 z1017 rfl) rfl) rfl)
                have z1153 := congrArg Int32.toInt (rd_o k1151 (rd_o k1150 (rd_o k1038 ef1021 rfl) rfl) rfl)
                have z1154 := congrArg Int32.toInt (rd_o k1151 (rd_o k1150 (rd_o k1038 z1018 rfl) rfl) rfl)
                have z1155 := congrArg Int32.toInt (rd_s k1151)
                have z1156 := congrArg Int32.toInt (rd_o k1151 (rd_s k1150) rfl)
                refine ev_V1P rfl rfl lk_X10_213 vt_X10_look rfl rfl rfl rfl rfl (w_X10_look_63 L b h1151 hJ1151.1 f1021 bf1021 t1027 (rd_o k1151 (rd_o k1150 (rd_o k1038 et1027 rfl) rfl) rfl)) (fun r1157 q1157 => ?_)
                obtain ⟨b1157, pp1157_0, pp1157_1⟩ := q1157
                refine ev_i2l rfl rfl ?_
                have z1158 := Int32.toInt_toInt64 r1157
                have z1158b := B.any r1157
                refine ev_ldc2 (v := 48) rfl rfl kc_X10_226 ?_
                refine ev_ldc2 (v := 57) rfl rfl kc_X10_228 ?_
                have z1159 := congrArg Int32.toInt (rd_o k1151 (rd_o k1150 (rd_o k1038 z1017 rfl) rfl) rfl)
                have z1160 := congrArg Int32.toInt (rd_o k1151 (rd_o k1150 (rd_o k1038 ef1021 rfl) rfl) rfl)
                have z1161 := congrArg Int32.toInt (rd_o k1151 (rd_o k1150 (rd_o k1038 z1018 rfl) rfl) rfl)
                have z1162 := congrArg Int32.toInt (rd_s k1151)
                have z1163 := congrArg Int32.toInt (rd_o k1151 (rd_s k1150) rfl)
                refine ev_S3P rfl rfl lk_X10_124 st_X10_in rfl rfl (w_inR (G0 L b) h1151 r1157 48 57 (by decide : BL 48 48 48) (by decide : BL 57 57 57)) (fun r1164 q1164 => ?_)
                obtain ⟨b1164, p1164_0, pp1164_0, pp1164_1⟩ := q1164
                refine ev_if_eq rfl rfl (fun c1165 => False.elim (by have z0_ := congrArg Int32.toInt (rd_o k1151 (rd_o k1150 (rd_o k1038 z1017 rfl) rfl) rfl); have z1_ := congrArg Int32.toInt (rd_o k1151 (rd_o k1150 (rd_o k1038 ef1021 rfl) rfl) rfl); have z2_ := congrArg Int32.toInt (rd_o k1151 (rd_o k1150 (rd_o k1038 z1018 rfl) rfl) rfl); have z3_ := congrArg Int32.toInt (rd_s k1151); have z4_ := congrArg Int32.toInt (rd_o k1151 (rd_s k1150) rfl); have z5_ := congrArg Int32.toInt c1165; have z_ := w_lits; have zl_ := l_lits; omega)) (fun c1165 => ?_)
                have b1168 : B r1164 1 1 := R_neL b1164 (by decide : B 0 0 0) c1165 (by decide)
                have b1169 : B r1157 48 57 := p1164_0 c1165
                have z1170 := w_ne c1165
                rw [show (0 : Int32).toInt = 0 from by decide] at z1170
                refine ev_aload_n rfl rfl rfl ?_
                refine ev_aload_n rfl rfl rfl ?_
                refine ev_getV (v := f1021) rfl rfl fl_X10_210 rfl rfl rfl (rd_o k1151 (rd_o k1150 (rd_o k1038 ef1021 rfl) rfl) rfl) ?_
                refine ev_aload_n rfl rfl rfl ?_
                refine ev_getV (v := f1021) rfl rfl fl_X10_197 rfl rfl rfl (rd_o k1151 (rd_o k1150 (rd_s k1038) rfl) rfl) ?_
                refine ev_isubB (l := -160) (u := 160) rfl rfl bf1021 bf1021 (by decide) (by decide) (by decide) (by decide) (fun v1171 b1171 e1171 g1171 => ?_)
                refine ev_iconst (v := 2) rfl rfl (by decide) ?_
                refine ev_icmp_ge rfl rfl (fun c1172 => ?_) (fun c1172 => ?_)
                · have b1173 : B v1171 2 160 := R_leY (by decide : B 2 2 2) b1171 c1172 (by decide)
                  have z1174 := w_le c1172
                  rw [show (2 : Int32).toInt = 2 from by decide] at z1174
                  refine ev_aload_n rfl rfl rfl ?_
                  refine ev_getV (v := 0) rfl rfl fl_X10_207 rfl rfl rfl (rd_s k1151) ?_
                  refine ev_putW (l := (-2147483648)) (u := 2147483647) hJ1151 rfl (by decide : B 0 0 0) (by decide) (by decide) rfl rfl rfl fl_X10_207 rfl rfl rfl rfl rfl (fun h1177 hJ1177 k1177 => ?_)
                  refine ev_aload_n rfl rfl rfl ?_
                  refine ev_dup rfl rfl rfl ?_
                  refine ev_getV (v := f1021) rfl rfl fl_X10_210 rfl rfl rfl (rd_o k1177 (rd_o k1151 (rd_o k1150 (rd_o k1038 ef1021 rfl) rfl) rfl) rfl) ?_
                  refine ev_iconst (v := 1) rfl rfl (by decide) ?_
                  refine ev_iaddB (l := 1) (u := 161) rfl rfl bf1021 (by decide : B 1 1 1) (by decide) (by decide) (by decide) (by decide) (fun v1178 b1178 e1178 g1178 => ?_)
                  have e1178x := e1178; rw [show (1 : Int32).toInt = 1 from by decide] at e1178x
                  have b1179 : B v1178 0 160 := ⟨(by have z0_ := congrArg Int32.toInt (rd_o k1177 (rd_o k1151 (rd_o k1150 (rd_o k1038 z1017 rfl) rfl) rfl) rfl); have z1_ := congrArg Int32.toInt (rd_o k1177 (rd_o k1151 (rd_o k1150 (rd_o k1038 ef1021 rfl) rfl) rfl) rfl); have z2_ := congrArg Int32.toInt (rd_o k1177 (rd_o k1151 (rd_o k1150 (rd_o k1038 z1018 rfl) rfl) rfl) rfl); have z3_ := congrArg Int32.toInt (rd_s k1177); have z4_ := congrArg Int32.toInt (rd_o k1177 (rd_o k1151 (rd_s k1150) rfl) rfl); have z_ := w_lits; have zl_ := l_lits; omega), (by have z0_ := congrArg Int32.toInt (rd_o k1177 (rd_o k1151 (rd_o k1150 (rd_o k1038 z1017 rfl) rfl) rfl) rfl); have z1_ := congrArg Int32.toInt (rd_o k1177 (rd_o k1151 (rd_o k1150 (rd_o k1038 ef1021 rfl) rfl) rfl) rfl); have z2_ := congrArg Int32.toInt (rd_o k1177 (rd_o k1151 (rd_o k1150 (rd_o k1038 z1018 rfl) rfl) rfl) rfl); have z3_ := congrArg Int32.toInt (rd_s k1177); have z4_ := congrArg Int32.toInt (rd_o k1177 (rd_o k1151 (rd_s k1150) rfl) rfl); have z_ := w_lits; have zl_ := l_lits; omega)⟩
                  refine ev_putW (l := 0) (u := 160) hJ1177 rfl b1179 (by decide) (by decide) rfl rfl rfl fl_X10_210 rfl rfl rfl rfl rfl (fun h1180 hJ1180 k1180 => ?_)
                  refine ev_goto rfl rfl ?_
                  have lp108_1300 : ∀ (n : Nat) (h1301 : Hp), JW [(63, 17), (63, 18), (63, 19), (63, 20), (63, 21), (63, 22)] h h1301 → (h1301 63 16 = f1) → (h1301 63 21 = f3) → (h1301 63 19 = 2) → (h1301 72 (Int32.toNatClampNeg f1021) = t1027) → (h1301 63 18 = f1021) → ((h1301 63 17).toInt ≤ (h1301 63 16).toInt) → ((h 63 17).toInt + 1 ≤ (h1301 63 17).toInt) → 160 + 1 - (h1301 63 17).toInt ≤ (n : Int) → EvQ mi_X10_next 108 [some (.ref 63), some (.int r1044)] [] (G0 L b) h1301 0 0 (QK (fun z : Hp => ((z 63 17).toInt ≤ (z 63 16).toInt) ∧ ((z 63 21).toInt = 0 → (h 63 21).toInt = 0) ∧ ((¬ (z 63 21).toInt = 0) ∨ (z 63 19).toInt = 0 ∨ (h 63 17).toInt + 1 ≤ (z 63 17).toInt) ∧ ((h 63 17).toInt ≤ (z 63 17).toInt) ∧ ((z 63 21).toInt = 0 → (z 63 19).toInt = 1 → 0 ≤ (z 63 20).toInt ∧ (z 63 20).toInt ≤ 4095)) [(63, 17), (63, 18), (63, 19), (63, 20), (63, 21), (63, 22)] (G0 L b) h) := by
                    intro n
                    induction n with
                    | zero =>
                      intro h1301 hJ1302 z1303 z1304 z1305 z1306 z1307 y108_0 y108_1 hm108
                      obtain ⟨f1308, ef1308⟩ : ∃ f_, h1301 63 17 = f_ := ⟨_, rfl⟩
                      have bf1308 : B f1308 0 160 := by
                        have z_ := hJ1302.1 63 17
                        rw [ef1308] at z_
                        exact z_
                      rw [ef1308] at hm108
                      exact absurd hm108 (L_zero bf1308 (by decide))
                    | succ n ih108 =>
                      intro h1301 hJ1302 z1303 z1304 z1305 z1306 z1307 y108_0 y108_1 hm108
                      obtain ⟨f1308, ef1308⟩ : ∃ f_, h1301 63 17 = f_ := ⟨_, rfl⟩
                      have bf1308 : B f1308 0 160 := by
                        have z_ := hJ1302.1 63 17
                        rw [ef1308] at z_
                        exact z_
                      rw [ef1308] at hm108
                      obtain ⟨f1309, ef1309⟩ : ∃ f_, h1301 63 20 = f_ := ⟨_, rfl⟩
                      have bf1309 : B f1309 (-2147483648) 2147483647 := by have z_ := hJ1302.1 63 20; rw [ef1309] at z_; exact z_
                      have zf1309 := congrArg Int32.toInt ef1309
                      have z1310 := congrArg Int32.toInt z1303
                      have z1311 := congrArg Int32.toInt ef1308
                      have z1312 := congrArg Int32.toInt z1304
                      have z1313 := congrArg Int32.toInt ef1309
                      have z1314 := congrArg Int32.toInt z1305
                      refine ev_aload_n rfl rfl rfl ?_
                      refine ev_aload_n rfl rfl rfl ?_
                      refine ev_getV (v := f1308) rfl rfl fl_X10_210 rfl rfl rfl ef1308 ?_
                      obtain ⟨t1315, et1315⟩ : ∃ f_, h1301 72 (Int32.toNatClampNeg f1308) = f_ := ⟨_, rfl⟩
                      have bt1315 : B t1315 0 255 := by have z_ := hJ1302.1 72 (Int32.toNatClampNeg f1308); rw [et1315] at z_; exact z_
                      have z1316 := congrArg Int32.toInt z1303
                      have z1317 := congrArg Int32.toInt ef1308
                      have z1318 := congrArg Int32.toInt z1304
                      have z1319 := congrArg Int32.toInt ef1309
                      have z1320 := congrArg Int32.toInt z1305
                      refine ev_V1P rfl rfl lk_X10_213 vt_X10_look rfl rfl rfl rfl rfl (w_X10_look_63 L b h1301 hJ1302.1 f1308 bf1308 t1315 et1315) (fun r1321 q1321 => ?_)
                      obtain ⟨b1321, pp1321_0, pp1321_1⟩ := q1321
                      refine ev_i2l rfl rfl ?_
                      have z1322 := Int32.toInt_toInt64 r1321
                      have z1322b := B.any r1321
                      refine ev_ldc2 (v := 48) rfl rfl kc_X10_226 ?_
                      refine ev_ldc2 (v := 57) rfl rfl kc_X10_228 ?_
                      have z1323 := congrArg Int32.toInt z1303
                      have z1324 := congrArg Int32.toInt ef1308
                      have z1325 := congrArg Int32.toInt z1304
                      have z1326 := congrArg Int32.toInt ef1309
                      have z1327 := congrArg Int32.toInt z1305
                      refine ev_S3P rfl rfl lk_X10_124 st_X10_in rfl rfl (w_inR (G0 L b) h1301 r1321 48 57 (by decide : BL 48 48 48) (by decide : BL 57 57 57)) (fun r1328 q1328 => ?_)
                      obtain ⟨b1328, p1328_0, pp1328_0, pp1328_1⟩ := q1328
                      refine ev_if_eq rfl rfl (fun c1329 => ?_) (fun c1329 => ?_)
                      · have b1330 : B r1328 0 0 := R_eqX b1328 (by decide : B 0 0 0) c1329
                        have z1331 := congrArg Int32.toInt c1329
                        rw [show (0 : Int32).toInt = 0 from by decide] at z1331
                        refine ev_aload_n rfl rfl rfl ?_
                        refine ev_aload_n rfl rfl rfl ?_
                        refine ev_getV (v := f1308) rfl rfl fl_X10_210 rfl rfl rfl ef1308 ?_
                        refine ev_aload_n rfl rfl rfl ?_
                        refine ev_getV (v := f1021) rfl rfl fl_X10_197 rfl rfl rfl z1307 ?_
                        refine ev_isubB (l := -160) (u := 160) rfl rfl bf1308 bf1021 (by decide) (by decide) (by decide) (by decide) (fun v1335 b1335 e1335 g1335 => ?_)
                        refine ev_iconst (v := 2) rfl rfl (by decide) ?_
                        refine ev_icmp_gt rfl rfl (fun c1336 => ?_) (fun c1336 => ?_)
                        · have b1337 : B v1335 3 160 := R_ltY (by decide : B 2 2 2) b1335 c1336 (by decide)
                          have z1338 := w_lt c1336
                          rw [show (2 : Int32).toInt = 2 from by decide] at z1338
                          refine ev_iconst (v := 0) rfl rfl (by decide) ?_
                          refine ev_iconst (v := 1) rfl rfl (by decide) ?_
                          have z1341 := congrArg Int32.toInt z1303
                          have z1342 := congrArg Int32.toInt ef1308
                          have z1343 := congrArg Int32.toInt z1304
                          have z1344 := congrArg Int32.toInt ef1309
                          have z1345 := congrArg Int32.toInt z1305
                          refine ev_V2K hJ1302 rfl rfl rfl lk_X10_230 vt_X10_wants rfl rfl rfl rfl rfl (w_X10_wants_63 L b h1301 hJ1302.1 0 ((by decide : B 0 0 0).mono (by decide) (by decide)) 1 ((by decide : B 1 1 1).mono (by decide) (by decide))) (fun h1346 hJ1346 k1346 m1346 => ?_)
                          obtain ⟨f1347, ef1347⟩ : ∃ f_, h1346 63 21 = f_ := ⟨_, rfl⟩
                          have bf1347 : B f1347 0 6 := by have z_ := hJ1346.1 63 21; rw [ef1347] at z_; exact z_
                          have zf1347 := congrArg Int32.toInt ef1347
                          have z1348 := congrArg Int32.toInt (rd_w k1346 z1303 rfl)
                          have z1349 := congrArg Int32.toInt (rd_w k1346 ef1308 rfl)
                          have z1350 := congrArg Int32.toInt ef1347
                          have z1351 := congrArg Int32.toInt (rd_w k1346 ef1309 rfl)
                          have z1352 := congrArg Int32.toInt (rd_w k1346 z1305 rfl)
                          refine ev_goto rfl rfl ?_
                          exact ev_vret rfl rfl trivial ⟨rfl, rfl, hJ1346, (by have z0_ := congrArg Int32.toInt (rd_w k1346 z1303 rfl); have z1_ := congrArg Int32.toInt (rd_w k1346 ef1308 rfl); have z2_ := congrArg Int32.toInt ef1347; have z3_ := congrArg Int32.toInt (rd_w k1346 ef1309 rfl); have z4_ := congrArg Int32.toInt (rd_w k1346 z1305 rfl); have z_ := w_lits; have zl_ := l_lits; omega), (by have z0_ := congrArg Int32.toInt (rd_w k1346 z1303 rfl); have z1_ := congrArg Int32.toInt (rd_w k1346 ef1308 rfl); have z2_ := congrArg Int32.toInt ef1347; have z3_ := congrArg Int32.toInt (rd_w k1346 ef1309 rfl); have z4_ := congrArg Int32.toInt (rd_w k1346 z1305 rfl); have z_ := w_lits; have zl_ := l_lits; omega), (by have z0_ := congrArg Int32.toInt (rd_w k1346 z1303 rfl); have z1_ := congrArg Int32.toInt (rd_w k1346 ef1308 rfl); have z2_ := congrArg Int32.toInt ef1347; have z3_ := congrArg Int32.toInt (rd_w k1346 ef1309 rfl); have z4_ := congrArg Int32.toInt (rd_w k1346 z1305 rfl); have z_ := w_lits; have zl_ := l_lits; omega), (by have z0_ := congrArg Int32.toInt (rd_w k1346 z1303 rfl); have z1_ := congrArg Int32.toInt (rd_w k1346 ef1308 rfl); have z2_ := congrArg Int32.toInt ef1347; have z3_ := congrArg Int32.toInt (rd_w k1346 ef1309 rfl); have z4_ := congrArg Int32.toInt (rd_w k1346 z1305 rfl); have z_ := w_lits; have zl_ := l_lits; omega), (by have z0_ := congrArg Int32.toInt (rd_w k1346 z1303 rfl); have z1_ := congrArg Int32.toInt (rd_w k1346 ef1308 rfl); have z2_ := congrArg Int32.toInt ef1347; have z3_ := congrArg Int32.toInt (rd_w k1346 ef1309 rfl); have z4_ := congrArg Int32.toInt (rd_w k1346 z1305 rfl); have z_ := w_lits; have zl_ := l_lits; omega)⟩
                        · have b1339 : B v1335 (-160) 2 := R_leX b1335 (by decide : B 2 2 2) (Int32.not_lt.mp c1336) (by decide)
                          have z1340 := w_le (Int32.not_lt.mp c1336)
                          rw [show (2 : Int32).toInt = 2 from by decide] at z1340
                          refine ev_iconst (v := 1) rfl rfl (by decide) ?_
                          refine ev_goto rfl rfl ?_
                          refine ev_iconst (v := 1) rfl rfl (by decide) ?_
                          have z1353 := congrArg Int32.toInt z1303
                          have z1354 := congrArg Int32.toInt ef1308
                          have z1355 := congrArg Int32.toInt z1304
                          have z1356 := congrArg Int32.toInt ef1309
                          have z1357 := congrArg Int32.toInt z1305
                          refine ev_V2K hJ1302 rfl rfl rfl lk_X10_230 vt_X10_wants rfl rfl rfl rfl rfl (w_X10_wants_63 L b h1301 hJ1302.1 1 ((by decide : B 1 1 1).mono (by decide) (by decide)) 1 ((by decide : B 1 1 1).mono (by decide) (by decide))) (fun h1358 hJ1358 k1358 m1358 => ?_)
                          obtain ⟨f1359, ef1359⟩ : ∃ f_, h1358 63 21 = f_ := ⟨_, rfl⟩
                          have bf1359 : B f1359 0 6 := by have z_ := hJ1358.1 63 21; rw [ef1359] at z_; exact z_
                          have zf1359 := congrArg Int32.toInt ef1359
                          have z1360 := congrArg Int32.toInt (rd_w k1358 z1303 rfl)
                          have z1361 := congrArg Int32.toInt (rd_w k1358 ef1308 rfl)
                          have z1362 := congrArg Int32.toInt ef1359
                          have z1363 := congrArg Int32.toInt (rd_w k1358 ef1309 rfl)
                          have z1364 := congrArg Int32.toInt (rd_w k1358 z1305 rfl)
                          refine ev_goto rfl rfl ?_
                          exact ev_vret rfl rfl trivial ⟨rfl, rfl, hJ1358, (by have z0_ := congrArg Int32.toInt (rd_w k1358 z1303 rfl); have z1_ := congrArg Int32.toInt (rd_w k1358 ef1308 rfl); have z2_ := congrArg Int32.toInt ef1359; have z3_ := congrArg Int32.toInt (rd_w k1358 ef1309 rfl); have z4_ := congrArg Int32.toInt (rd_w k1358 z1305 rfl); have z_ := w_lits; have zl_ := l_lits; omega), (by have z0_ := congrArg Int32.toInt (rd_w k1358 z1303 rfl); have z1_ := congrArg Int32.toInt (rd_w k1358 ef1308 rfl); have z2_ := congrArg Int32.toInt ef1359; have z3_ := congrArg Int32.toInt (rd_w k1358 ef1309 rfl); have z4_ := congrArg Int32.toInt (rd_w k1358 z1305 rfl); have z_ := w_lits; have zl_ := l_lits; omega), (by have z0_ := congrArg Int32.toInt (rd_w k1358 z1303 rfl); have z1_ := congrArg Int32.toInt (rd_w k1358 ef1308 rfl); have z2_ := congrArg Int32.toInt ef1359; have z3_ := congrArg Int32.toInt (rd_w k1358 ef1309 rfl); have z4_ := congrArg Int32.toInt (rd_w k1358 z1305 rfl); have z_ := w_lits; have zl_ := l_lits; omega), (by have z0_ := congrArg Int32.toInt (rd_w k1358 z1303 rfl); have z1_ := congrArg Int32.toInt (rd_w k1358 ef1308 rfl); have z2_ := congrArg Int32.toInt ef1359; have z3_ := congrArg Int32.toInt (rd_w k1358 ef1309 rfl); have z4_ := congrArg Int32.toInt (rd_w k1358 z1305 rfl); have z_ := w_lits; have zl_ := l_lits; omega), (by have z0_ := congrArg Int32.toInt (rd_w k1358 z1303 rfl); have z1_ := congrArg Int32.toInt (rd_w k1358 ef1308 rfl); have z2_ := congrArg Int32.toInt ef1359; have z3_ := congrArg Int32.toInt (rd_w k1358 ef1309 rfl); have z4_ := congrArg Int32.toInt (rd_w k1358 z1305 rfl); have z_ := w_lits; have zl_ := l_lits; omega)⟩
                      · have b1332 : B r1328 1 1 := R_neL b1328 (by decide : B 0 0 0) c1329 (by decide)
                        have b1333 : B r1321 48 57 := p1328_0 c1329
                        have z1334 := w_ne c1329
                        rw [show (0 : Int32).toInt = 0 from by decide] at z1334
                        refine ev_aload_n rfl rfl rfl ?_
                        refine ev_aload_n rfl rfl rfl ?_
                        refine ev_getV (v := f1308) rfl rfl fl_X10_210 rfl rfl rfl ef1308 ?_
                        refine ev_aload_n rfl rfl rfl ?_
                        refine ev_getV (v := f1021) rfl rfl fl_X10_197 rfl rfl rfl z1307 ?_
                        refine ev_isubB (l := -160) (u := 160) rfl rfl bf1308 bf1021 (by decide) (by decide) (by decide) (by decide) (fun v1365 b1365 e1365 g1365 => ?_)
                        refine ev_iconst (v := 2) rfl rfl (by decide) ?_
                        refine ev_icmp_ge rfl rfl (fun c1366 => ?_) (fun c1366 => ?_)
                        · have b1367 : B v1365 2 160 := R_leY (by decide : B 2 2 2) b1365 c1366 (by decide)
                          have z1368 := w_le c1366
                          rw [show (2 : Int32).toInt = 2 from by decide] at z1368
                          refine ev_aload_n rfl rfl rfl ?_
                          refine ev_getV (v := f1309) rfl rfl fl_X10_207 rfl rfl rfl ef1309 ?_
                          refine ev_putW (l := (-2147483648)) (u := 2147483647) hJ1302 rfl bf1309 (by decide) (by decide) rfl rfl rfl fl_X10_207 rfl rfl rfl rfl rfl (fun h1371 hJ1371 k1371 => ?_)
                          refine ev_aload_n rfl rfl rfl ?_
                          refine ev_dup rfl rfl rfl ?_
                          refine ev_getV (v := f1308) rfl rfl fl_X10_210 rfl rfl rfl (rd_o k1371 ef1308 rfl) ?_
                          refine ev_iconst (v := 1) rfl rfl (by decide) ?_
                          refine ev_iaddB (l := 1) (u := 161) rfl rfl bf1308 (by decide : B 1 1 1) (by decide) (by decide) (by decide) (by decide) (fun v1372 b1372 e1372 g1372 => ?_)
                          have e1372x := e1372; rw [show (1 : Int32).toInt = 1 from by decide] at e1372x
                          have b1373 : B v1372 0 160 := ⟨(by have z0_ := congrArg Int32.toInt (rd_o k1371 z1303 rfl); have z1_ := congrArg Int32.toInt (rd_o k1371 ef1308 rfl); have z2_ := congrArg Int32.toInt (rd_o k1371 z1304 rfl); have z3_ := congrArg Int32.toInt (rd_s k1371); have z4_ := congrArg Int32.toInt (rd_o k1371 z1305 rfl); have z_ := w_lits; have zl_ := l_lits; omega), (by have z0_ := congrArg Int32.toInt (rd_o k1371 z1303 rfl); have z1_ := congrArg Int32.toInt (rd_o k1371 ef1308 rfl); have z2_ := congrArg Int32.toInt (rd_o k1371 z1304 rfl); have z3_ := congrArg Int32.toInt (rd_s k1371); have z4_ := congrArg Int32.toInt (rd_o k1371 z1305 rfl); have z_ := w_lits; have zl_ := l_lits; omega)⟩
                          refine ev_putW (l := 0) (u := 160) hJ1371 rfl b1373 (by decide) (by decide) rfl rfl rfl fl_X10_210 rfl rfl rfl rfl rfl (fun h1374 hJ1374 k1374 => ?_)
                          refine ev_goto rfl rfl ?_
                          exact (ih108 h1374 hJ1374 (rd_o k1374 (rd_o k1371 z1303 rfl) rfl) (rd_o k1374 (rd_o k1371 z1304 rfl) rfl) (rd_o k1374 (rd_o k1371 z1305 rfl) rfl) (rd_o k1374 (rd_o k1371 z1306 rfl) rfl) (rd_o k1374 (rd_o k1371 z1307 rfl) rfl) (by have z0_ := congrArg Int32.toInt (rd_o k1374 (rd_o k1371 z1303 rfl) rfl); have z1_ := congrArg Int32.toInt (rd_s k1374); have z2_ := congrArg Int32.toInt (rd_o k1374 (rd_o k1371 z1304 rfl) rfl); have z3_ := congrArg Int32.toInt (rd_o k1374 (rd_s k1371) rfl); have z4_ := congrArg Int32.toInt (rd_o k1374 (rd_o k1371 z1305 rfl) rfl); have z_ := w_lits; have zl_ := l_lits; omega) (by have z0_ := congrArg Int32.toInt (rd_o k1374 (rd_o k1371 z1303 rfl) rfl); have z1_ := congrArg Int32.toInt (rd_s k1374); have z2_ := congrArg Int32.toInt (rd_o k1374 (rd_o k1371 z1304 rfl) rfl); have z3_ := congrArg Int32.toInt (rd_o k1374 (rd_s k1371) rfl); have z4_ := congrArg Int32.toInt (rd_o k1374 (rd_o k1371 z1305 rfl) rfl); have z_ := w_lits; have zl_ := l_lits; omega) (by rw [(rd_s k1374)]; exact L_up hm108 (e_p1 e1372 (by decide))))
                        · have b1369 : B v1365 (-160) 1 := R_ltX b1365 (by decide : B 2 2 2) (Int32.not_le.mp c1366) (by decide)
                          have z1370 := w_lt (Int32.not_le.mp c1366)
                          rw [show (2 : Int32).toInt = 2 from by decide] at z1370
                          refine ev_bipush (v := 10) rfl rfl (by decide) ?_
                          refine ev_aload_n rfl rfl rfl ?_
                          refine ev_getV (v := f1309) rfl rfl fl_X10_207 rfl rfl rfl ef1309 ?_
                          refine ev_imulA rfl rfl (fun v1375 => ?_)
                          refine ev_aload_n rfl rfl rfl ?_
                          refine ev_aload_n rfl rfl rfl ?_
                          refine ev_getV (v := f1308) rfl rfl fl_X10_210 rfl rfl rfl ef1308 ?_
                          have z1376 := congrArg Int32.toInt z1303
                          have z1377 := congrArg Int32.toInt ef1308
                          have z1378 := congrArg Int32.toInt z1304
                          have z1379 := congrArg Int32.toInt ef1309
                          have z1380 := congrArg Int32.toInt z1305
                          refine ev_V1P rfl rfl lk_X10_213 vt_X10_look rfl rfl rfl rfl rfl (w_X10_look_63 L b h1301 hJ1302.1 f1308 bf1308 t1315 et1315) (fun r1381 q1381 => ?_)
                          obtain ⟨b1381, pp1381_0, pp1381_1⟩ := q1381
                          refine ev_iaddA rfl rfl (fun v1382 g1382 => ?_)
                          refine ev_bipush (v := 48) rfl rfl (by decide) ?_
                          refine ev_isubA rfl rfl (fun v1383 g1383 => ?_)
                          refine ev_goto rfl rfl ?_
                          refine ev_putW (l := (-2147483648)) (u := 2147483647) hJ1302 rfl (B.any v1383) (by decide) (by decide) rfl rfl rfl fl_X10_207 rfl rfl rfl rfl rfl (fun h1384 hJ1384 k1384 => ?_)
                          refine ev_aload_n rfl rfl rfl ?_
                          refine ev_dup rfl rfl rfl ?_
                          refine ev_getV (v := f1308) rfl rfl fl_X10_210 rfl rfl rfl (rd_o k1384 ef1308 rfl) ?_
                          refine ev_iconst (v := 1) rfl rfl (by decide) ?_
                          refine ev_iaddB (l := 1) (u := 161) rfl rfl bf1308 (by decide : B 1 1 1) (by decide) (by decide) (by decide) (by decide) (fun v1385 b1385 e1385 g1385 => ?_)
                          have e1385x := e1385; rw [show (1 : Int32).toInt = 1 from by decide] at e1385x
                          have b1386 : B v1385 0 160 := ⟨(by have z0_ := congrArg Int32.toInt (rd_o k1384 z1303 rfl); have z1_ := congrArg Int32.toInt (rd_o k1384 ef1308 rfl); have z2_ := congrArg Int32.toInt (rd_o k1384 z1304 rfl); have z3_ := congrArg Int32.toInt (rd_s k1384); have z4_ := congrArg Int32.toInt (rd_o k1384 z1305 rfl); have z_ := w_lits; have zl_ := l_lits; omega), (by have z0_ := congrArg Int32.toInt (rd_o k1384 z1303 rfl); have z1_ := congrArg Int32.toInt (rd_o k1384 ef1308 rfl); have z2_ := congrArg Int32.toInt (rd_o k1384 z1304 rfl); have z3_ := congrArg Int32.toInt (rd_s k1384); have z4_ := congrArg Int32.toInt (rd_o k1384 z1305 rfl); have z_ := w_lits; have zl_ := l_lits; omega)⟩
                          refine ev_putW (l := 0) (u := 160) hJ1384 rfl b1386 (by decide) (by decide) rfl rfl rfl fl_X10_210 rfl rfl rfl rfl rfl (fun h1387 hJ1387 k1387 => ?_)
                          refine ev_goto rfl rfl ?_
                          exact (ih108 h1387 hJ1387 (rd_o k1387 (rd_o k1384 z1303 rfl) rfl) (rd_o k1387 (rd_o k1384 z1304 rfl) rfl) (rd_o k1387 (rd_o k1384 z1305 rfl) rfl) (rd_o k1387 (rd_o k1384 z1306 rfl) rfl) (rd_o k1387 (rd_o k1384 z1307 rfl) rfl) (by have z0_ := congrArg Int32.toInt (rd_o k1387 (rd_o k1384 z1303 rfl) rfl); have z1_ := congrArg Int32.toInt (rd_s k1387); have z2_ := congrArg Int32.toInt (rd_o k1387 (rd_o k1384 z1304 rfl) rfl); have z3_ := congrArg Int32.toInt (rd_o k1387 (rd_s k1384) rfl); have z4_ := congrArg Int32.toInt (rd_o k1387 (rd_o k1384 z1305 rfl) rfl); have z_ := w_lits; have zl_ := l_lits; omega) (by have z0_ := congrArg Int32.toInt (rd_o k1387 (rd_o k1384 z1303 rfl) rfl); have z1_ := congrArg Int32.toInt (rd_s k1387); have z2_ := congrArg Int32.toInt (rd_o k1387 (rd_o k1384 z1304 rfl) rfl); have z3_ := congrArg Int32.toInt (rd_o k1387 (rd_s k1384) rfl); have z4_ := congrArg Int32.toInt (rd_o k1387 (rd_o k1384 z1305 rfl) rfl); have z_ := w_lits; have zl_ := l_lits; omega) (by rw [(rd_s k1387)]; exact L_up hm108 (e_p1 e1385 (by decide))))
                  exact (lp108_1300 161 h1180 hJ1180 (rd_o k1180 (rd_o k1177 (rd_o k1151 (rd_o k1150 (rd_o k1038 z1017 rfl) rfl) rfl) rfl) rfl) (rd_o k1180 (rd_o k1177 (rd_o k1151 (rd_o k1150 (rd_o k1038 z1018 rfl) rfl) rfl) rfl) rfl) (rd_o k1180 (rd_o k1177 (rd_o k1151 (rd_s k1150) rfl) rfl) rfl) (rd_o k1180 (rd_o k1177 (rd_o k1151 (rd_o k1150 (rd_o k1038 et1027 rfl) rfl) rfl) rfl) rfl) (rd_o k1180 (rd_o k1177 (rd_o k1151 (rd_o k1150 (rd_s k1038) rfl) rfl) rfl) rfl) (by have z0_ := congrArg Int32.toInt (rd_o k1180 (rd_o k1177 (rd_o k1151 (rd_o k1150 (rd_o k1038 z1017 rfl) rfl) rfl) rfl) rfl); have z1_ := congrArg Int32.toInt (rd_s k1180); have z2_ := congrArg Int32.toInt (rd_o k1180 (rd_o k1177 (rd_o k1151 (rd_o k1150 (rd_o k1038 z1018 rfl) rfl) rfl) rfl) rfl); have z3_ := congrArg Int32.toInt (rd_o k1180 (rd_s k1177) rfl); have z4_ := congrArg Int32.toInt (rd_o k1180 (rd_o k1177 (rd_o k1151 (rd_s k1150) rfl) rfl) rfl); have z_ := w_lits; have zl_ := l_lits; omega) (by have z0_ := congrArg Int32.toInt (rd_o k1180 (rd_o k1177 (rd_o k1151 (rd_o k1150 (rd_o k1038 z1017 rfl) rfl) rfl) rfl) rfl); have z1_ := congrArg Int32.toInt (rd_s k1180); have z2_ := congrArg Int32.toInt (rd_o k1180 (rd_o k1177 (rd_o k1151 (rd_o k1150 (rd_o k1038 z1018 rfl) rfl) rfl) rfl) rfl); have z3_ := congrArg Int32.toInt (rd_o k1180 (rd_s k1177) rfl); have z4_ := congrArg Int32.toInt (rd_o k1180 (rd_o k1177 (rd_o k1151 (rd_s k1150) rfl) rfl) rfl); have z_ := w_lits; have zl_ := l_lits; omega) (by rw [(rd_s k1180)]; exact L_init b1179 (by decide)))
                · have b1175 : B v1171 (-160) 1 := R_ltX b1171 (by decide : B 2 2 2) (Int32.not_le.mp c1172) (by decide)
                  have z1176 := w_lt (Int32.not_le.mp c1172)
                  rw [show (2 : Int32).toInt = 2 from by decide] at z1176
                  refine ev_bipush (v := 10) rfl rfl (by decide) ?_
                  refine ev_aload_n rfl rfl rfl ?_
                  refine ev_getV (v := 0) rfl rfl fl_X10_207 rfl rfl rfl (rd_s k1151) ?_
                  refine ev_imulB (l := 0) (u := 0) rfl rfl (by decide : B 10 10 10) (by decide : B 0 0 0) (by decide) (by decide) (by decide) (by decide) (by decide) (fun v1388 b1388 e1388 g1388 => ?_)
                  rw [show (0 : Int32).toInt = 0 from by decide] at e1388
                  refine ev_aload_n rfl rfl rfl ?_
                  refine ev_aload_n rfl rfl rfl ?_
                  refine ev_getV (v := f1021) rfl rfl fl_X10_210 rfl rfl rfl (rd_o k1151 (rd_o k1150 (rd_o k1038 ef1021 rfl) rfl) rfl) ?_
                  have z1389 := congrArg Int32.toInt (rd_o k1151 (rd_o k1150 (rd_o k1038 z1017 rfl) rfl) rfl)
                  have z1390 := congrArg Int32.toInt (rd_o k1151 (rd_o k1150 (rd_o k1038 ef1021 rfl) rfl) rfl)
                  have z1391 := congrArg Int32.toInt (rd_o k1151 (rd_o k1150 (rd_o k1038 z1018 rfl) rfl) rfl)
                  have z1392 := congrArg Int32.toInt (rd_s k1151)
                  have z1393 := congrArg Int32.toInt (rd_o k1151 (rd_s k1150) rfl)
                  refine ev_V1P rfl rfl lk_X10_213 vt_X10_look rfl rfl rfl rfl rfl (w_X10_look_63 L b h1151 hJ1151.1 f1021 bf1021 t1027 (rd_o k1151 (rd_o k1150 (rd_o k1038 et1027 rfl) rfl) rfl)) (fun r1394 q1394 => ?_)
                  obtain ⟨b1394, pp1394_0, pp1394_1⟩ := q1394
                  refine ev_iaddB (l := -1) (u := 255) rfl rfl b1388 b1394 (by decide) (by decide) (by decide) (by decide) (fun v1395 b1395 e1395 g1395 => ?_)
                  refine ev_bipush (v := 48) rfl rfl (by decide) ?_
                  refine ev_isubB (l := -49) (u := 207) rfl rfl b1395 (by decide : B 48 48 48) (by decide) (by decide) (by decide) (by decide) (fun v1396 b1396 e1396 g1396 => ?_)
                  have e1396x := e1396; rw [show (48 : Int32).toInt = 48 from by decide] at e1396x
                  refine ev_goto rfl rfl ?_
                  refine ev_putW (l := (-2147483648)) (u := 2147483647) hJ1151 rfl b1396 (by decide) (by decide) rfl rfl rfl fl_X10_207 rfl rfl rfl rfl rfl (fun h1397 hJ1397 k1397 => ?_)
                  refine ev_aload_n rfl rfl rfl ?_
                  refine ev_dup rfl rfl rfl ?_
                  refine ev_getV (v := f1021) rfl rfl fl_X10_210 rfl rfl rfl (rd_o k1397 (rd_o k1151 (rd_o k1150 (rd_o k1038 ef1021 rfl) rfl) rfl) rfl) ?_
                  refine ev_iconst (v := 1) rfl rfl (by decide) ?_
                  refine ev_iaddB (l := 1) (u := 161) rfl rfl bf1021 (by decide : B 1 1 1) (by decide) (by decide) (by decide) (by decide) (fun v1398 b1398 e1398 g1398 => ?_)
                  have e1398x := e1398; rw [show (1 : Int32).toInt = 1 from by decide] at e1398x
                  have b1399 : B v1398 0 160 := ⟨(by have z0_ := congrArg Int32.toInt (rd_o k1397 (rd_o k1151 (rd_o k1150 (rd_o k1038 z1017 rfl) rfl) rfl) rfl); have z1_ := congrArg Int32.toInt (rd_o k1397 (rd_o k1151 (rd_o k1150 (rd_o k1038 ef1021 rfl) rfl) rfl) rfl); have z2_ := congrArg Int32.toInt (rd_o k1397 (rd_o k1151 (rd_o k1150 (rd_o k1038 z1018 rfl) rfl) rfl) rfl); have z3_ := congrArg Int32.toInt (rd_s k1397); have z4_ := congrArg Int32.toInt (rd_o k1397 (rd_o k1151 (rd_s k1150) rfl) rfl); have z_ := w_lits; have zl_ := l_lits; omega), (by have z0_ := congrArg Int32.toInt (rd_o k1397 (rd_o k1151 (rd_o k1150 (rd_o k1038 z1017 rfl) rfl) rfl) rfl); have z1_ := congrArg Int32.toInt (rd_o k1397 (rd_o k1151 (rd_o k1150 (rd_o k1038 ef1021 rfl) rfl) rfl) rfl); have z2_ := congrArg Int32.toInt (rd_o k1397 (rd_o k1151 (rd_o k1150 (rd_o k1038 z1018 rfl) rfl) rfl) rfl); have z3_ := congrArg Int32.toInt (rd_s k1397); have z4_ := congrArg Int32.toInt (rd_o k1397 (rd_o k1151 (rd_s k1150) rfl) rfl); have z_ := w_lits; have zl_ := l_lits; omega)⟩
                  refine ev_putW (l := 0) (u := 160) hJ1397 rfl b1399 (by decide) (by decide) rfl rfl rfl fl_X10_210 rfl rfl rfl rfl rfl (fun h1400 hJ1400 k1400 => ?_)
                  refine ev_goto rfl rfl ?_
                  have lp108_1520 : ∀ (n : Nat) (h1521 : Hp), JW [(63, 17), (63, 18), (63, 19), (63, 20), (63, 21), (63, 22)] h h1521 → (h1521 63 16 = f1) → (h1521 63 21 = f3) → (h1521 63 19 = 2) → (h1521 72 (Int32.toNatClampNeg f1021) = t1027) → (h1521 63 18 = f1021) → ((h1521 63 17).toInt ≤ (h1521 63 16).toInt) → ((h 63 17).toInt + 1 ≤ (h1521 63 17).toInt) → 160 + 1 - (h1521 63 17).toInt ≤ (n : Int) → EvQ mi_X10_next 108 [some (.ref 63), some (.int r1044)] [] (G0 L b) h1521 0 0 (QK (fun z : Hp => ((z 63 17).toInt ≤ (z 63 16).toInt) ∧ ((z 63 21).toInt = 0 → (h 63 21).toInt = 0) ∧ ((¬ (z 63 21).toInt = 0) ∨ (z 63 19).toInt = 0 ∨ (h 63 17).toInt + 1 ≤ (z 63 17).toInt) ∧ ((h 63 17).toInt ≤ (z 63 17).toInt) ∧ ((z 63 21).toInt = 0 → (z 63 19).toInt = 1 → 0 ≤ (z 63 20).toInt ∧ (z 63 20).toInt ≤ 4095)) [(63, 17), (63, 18), (63, 19), (63, 20), (63, 21), (63, 22)] (G0 L b) h) := by
                    intro n
                    induction n with
                    | zero =>
                      intro h1521 hJ1522 z1523 z1524 z1525 z1526 z1527 y108_0 y108_1 hm108
                      obtain ⟨f1528, ef1528⟩ : ∃ f_, h1521 63 17 = f_ := ⟨_, rfl⟩
                      have bf1528 : B f1528 0 160 := by
                        have z_ := hJ1522.1 63 17
                        rw [ef1528] at z_
                        exact z_
                      rw [ef1528] at hm108
                      exact absurd hm108 (L_zero bf1528 (by decide))
                    | succ n ih108 =>
                      intro h1521 hJ1522 z1523 z1524 z1525 z1526 z1527 y108_0 y108_1 hm108
                      obtain ⟨f1528, ef1528⟩ : ∃ f_, h1521 63 17 = f_ := ⟨_, rfl⟩
                      have bf1528 : B f1528 0 160 := by
                        have z_ := hJ1522.1 63 17
                        rw [ef1528] at z_
                        exact z_
                      rw [ef1528] at hm108
                      obtain ⟨f1529, ef1529⟩ : ∃ f_, h1521 63 20 = f_ := ⟨_, rfl⟩
                      have bf1529 : B f1529 (-2147483648) 2147483647 := by have z_ := hJ1522.1 63 20; rw [ef1529] at z_; exact z_
                      have zf1529 := congrArg Int32.toInt ef1529
                      have z1530 := congrArg Int32.toInt z1523
                      have z1531 := congrArg Int32.toInt ef1528
                      have z1532 := congrArg Int32.toInt z1524
                      have z1533 := congrArg Int32.toInt ef1529
                      have z1534 := congrArg Int32.toInt z1525
                      refine ev_aload_n rfl rfl rfl ?_
                      refine ev_aload_n rfl rfl rfl ?_
                      refine ev_getV (v := f1528) rfl rfl fl_X10_210 rfl rfl rfl ef1528 ?_
                      obtain ⟨t1535, et1535⟩ : ∃ f_, h1521 72 (Int32.toNatClampNeg f1528) = f_ := ⟨_, rfl⟩
                      have bt1535 : B t1535 0 255 := by have z_ := hJ1522.1 72 (Int32.toNatClampNeg f1528); rw [et1535] at z_; exact z_
                      have z1536 := congrArg Int32.toInt z1523
                      have z1537 := congrArg Int32.toInt ef1528
                      have z1538 := congrArg Int32.toInt z1524
                      have z1539 := congrArg Int32.toInt ef1529
                      have z1540 := congrArg Int32.toInt z1525
                      refine ev_V1P rfl rfl lk_X10_213 vt_X10_look rfl rfl rfl rfl rfl (w_X10_look_63 L b h1521 hJ1522.1 f1528 bf1528 t1535 et1535) (fun r1541 q1541 => ?_)
                      obtain ⟨b1541, pp1541_0, pp1541_1⟩ := q1541
                      refine ev_i2l rfl rfl ?_
                      have z1542 := Int32.toInt_toInt64 r1541
                      have z1542b := B.any r1541
                      refine ev_ldc2 (v := 48) rfl rfl kc_X10_226 ?_
                      refine ev_ldc2 (v := 57) rfl rfl kc_X10_228 ?_
                      have z1543 := congrArg Int32.toInt z1523
                      have z1544 := congrArg Int32.toInt ef1528
                      have z1545 := congrArg Int32.toInt z1524
                      have z1546 := congrArg Int32.toInt ef1529
                      have z1547 := congrArg Int32.toInt z1525
                      refine ev_S3P rfl rfl lk_X10_124 st_X10_in rfl rfl (w_inR (G0 L b) h1521 r1541 48 57 (by decide : BL 48 48 48) (by decide : BL 57 57 57)) (fun r1548 q1548 => ?_)
                      obtain ⟨b1548, p1548_0, pp1548_0, pp1548_1⟩ := q1548
                      refine ev_if_eq rfl rfl (fun c1549 => ?_) (fun c1549 => ?_)
                      · have b1550 : B r1548 0 0 := R_eqX b1548 (by decide : B 0 0 0) c1549
                        have z1551 := congrArg Int32.toInt c1549
                        rw [show (0 : Int32).toInt = 0 from by decide] at z1551
                        refine ev_aload_n rfl rfl rfl ?_
                        refine ev_aload_n rfl rfl rfl ?_
                        refine ev_getV (v := f1528) rfl rfl fl_X10_210 rfl rfl rfl ef1528 ?_
                        refine ev_aload_n rfl rfl rfl ?_
                        refine ev_getV (v := f1021) rfl rfl fl_X10_197 rfl rfl rfl z1527 ?_
                        refine ev_isubB (l := -160) (u := 160) rfl rfl bf1528 bf1021 (by decide) (by decide) (by decide) (by decide) (fun v1555 b1555 e1555 g1555 => ?_)
                        refine ev_iconst (v := 2) rfl rfl (by decide) ?_
                        refine ev_icmp_gt rfl rfl (fun c1556 => ?_) (fun c1556 => ?_)
                        · have b1557 : B v1555 3 160 := R_ltY (by decide : B 2 2 2) b1555 c1556 (by decide)
                          have z1558 := w_lt c1556
                          rw [show (2 : Int32).toInt = 2 from by decide] at z1558
                          refine ev_iconst (v := 0) rfl rfl (by decide) ?_
                          refine ev_iconst (v := 1) rfl rfl (by decide) ?_
                          have z1561 := congrArg Int32.toInt z1523
                          have z1562 := congrArg Int32.toInt ef1528
                          have z1563 := congrArg Int32.toInt z1524
                          have z1564 := congrArg Int32.toInt ef1529
                          have z1565 := congrArg Int32.toInt z1525
                          refine ev_V2K hJ1522 rfl rfl rfl lk_X10_230 vt_X10_wants rfl rfl rfl rfl rfl (w_X10_wants_63 L b h1521 hJ1522.1 0 ((by decide : B 0 0 0).mono (by decide) (by decide)) 1 ((by decide : B 1 1 1).mono (by decide) (by decide))) (fun h1566 hJ1566 k1566 m1566 => ?_)
                          obtain ⟨f1567, ef1567⟩ : ∃ f_, h1566 63 21 = f_ := ⟨_, rfl⟩
                          have bf1567 : B f1567 0 6 := by have z_ := hJ1566.1 63 21; rw [ef1567] at z_; exact z_
                          have zf1567 := congrArg Int32.toInt ef1567
                          have z1568 := congrArg Int32.toInt (rd_w k1566 z1523 rfl)
                          have z1569 := congrArg Int32.toInt (rd_w k1566 ef1528 rfl)
                          have z1570 := congrArg Int32.toInt ef1567
                          have z1571 := congrArg Int32.toInt (rd_w k1566 ef1529 rfl)
                          have z1572 := congrArg Int32.toInt (rd_w k1566 z1525 rfl)
                          refine ev_goto rfl rfl ?_
                          exact ev_vret rfl rfl trivial ⟨rfl, rfl, hJ1566, (by have z0_ := congrArg Int32.toInt (rd_w k1566 z1523 rfl); have z1_ := congrArg Int32.toInt (rd_w k1566 ef1528 rfl); have z2_ := congrArg Int32.toInt ef1567; have z3_ := congrArg Int32.toInt (rd_w k1566 ef1529 rfl); have z4_ := congrArg Int32.toInt (rd_w k1566 z1525 rfl); have z_ := w_lits; have zl_ := l_lits; omega), (by have z0_ := congrArg Int32.toInt (rd_w k1566 z1523 rfl); have z1_ := congrArg Int32.toInt (rd_w k1566 ef1528 rfl); have z2_ := congrArg Int32.toInt ef1567; have z3_ := congrArg Int32.toInt (rd_w k1566 ef1529 rfl); have z4_ := congrArg Int32.toInt (rd_w k1566 z1525 rfl); have z_ := w_lits; have zl_ := l_lits; omega), (by have z0_ := congrArg Int32.toInt (rd_w k1566 z1523 rfl); have z1_ := congrArg Int32.toInt (rd_w k1566 ef1528 rfl); have z2_ := congrArg Int32.toInt ef1567; have z3_ := congrArg Int32.toInt (rd_w k1566 ef1529 rfl); have z4_ := congrArg Int32.toInt (rd_w k1566 z1525 rfl); have z_ := w_lits; have zl_ := l_lits; omega), (by have z0_ := congrArg Int32.toInt (rd_w k1566 z1523 rfl); have z1_ := congrArg Int32.toInt (rd_w k1566 ef1528 rfl); have z2_ := congrArg Int32.toInt ef1567; have z3_ := congrArg Int32.toInt (rd_w k1566 ef1529 rfl); have z4_ := congrArg Int32.toInt (rd_w k1566 z1525 rfl); have z_ := w_lits; have zl_ := l_lits; omega), (by have z0_ := congrArg Int32.toInt (rd_w k1566 z1523 rfl); have z1_ := congrArg Int32.toInt (rd_w k1566 ef1528 rfl); have z2_ := congrArg Int32.toInt ef1567; have z3_ := congrArg Int32.toInt (rd_w k1566 ef1529 rfl); have z4_ := congrArg Int32.toInt (rd_w k1566 z1525 rfl); have z_ := w_lits; have zl_ := l_lits; omega)⟩
                        · have b1559 : B v1555 (-160) 2 := R_leX b1555 (by decide : B 2 2 2) (Int32.not_lt.mp c1556) (by decide)
                          have z1560 := w_le (Int32.not_lt.mp c1556)
                          rw [show (2 : Int32).toInt = 2 from by decide] at z1560
                          refine ev_iconst (v := 1) rfl rfl (by decide) ?_
                          refine ev_goto rfl rfl ?_
                          refine ev_iconst (v := 1) rfl rfl (by decide) ?_
                          have z1573 := congrArg Int32.toInt z1523
                          have z1574 := congrArg Int32.toInt ef1528
                          have z1575 := congrArg Int32.toInt z1524
                          have z1576 := congrArg Int32.toInt ef1529
                          have z1577 := congrArg Int32.toInt z1525
                          refine ev_V2K hJ1522 rfl rfl rfl lk_X10_230 vt_X10_wants rfl rfl rfl rfl rfl (w_X10_wants_63 L b h1521 hJ1522.1 1 ((by decide : B 1 1 1).mono (by decide) (by decide)) 1 ((by decide : B 1 1 1).mono (by decide) (by decide))) (fun h1578 hJ1578 k1578 m1578 => ?_)
                          obtain ⟨f1579, ef1579⟩ : ∃ f_, h1578 63 21 = f_ := ⟨_, rfl⟩
                          have bf1579 : B f1579 0 6 := by have z_ := hJ1578.1 63 21; rw [ef1579] at z_; exact z_
                          have zf1579 := congrArg Int32.toInt ef1579
                          have z1580 := congrArg Int32.toInt (rd_w k1578 z1523 rfl)
                          have z1581 := congrArg Int32.toInt (rd_w k1578 ef1528 rfl)
                          have z1582 := congrArg Int32.toInt ef1579
                          have z1583 := congrArg Int32.toInt (rd_w k1578 ef1529 rfl)
                          have z1584 := congrArg Int32.toInt (rd_w k1578 z1525 rfl)
                          refine ev_goto rfl rfl ?_
                          exact ev_vret rfl rfl trivial ⟨rfl, rfl, hJ1578, (by have z0_ := congrArg Int32.toInt (rd_w k1578 z1523 rfl); have z1_ := congrArg Int32.toInt (rd_w k1578 ef1528 rfl); have z2_ := congrArg Int32.toInt ef1579; have z3_ := congrArg Int32.toInt (rd_w k1578 ef1529 rfl); have z4_ := congrArg Int32.toInt (rd_w k1578 z1525 rfl); have z_ := w_lits; have zl_ := l_lits; omega), (by have z0_ := congrArg Int32.toInt (rd_w k1578 z1523 rfl); have z1_ := congrArg Int32.toInt (rd_w k1578 ef1528 rfl); have z2_ := congrArg Int32.toInt ef1579; have z3_ := congrArg Int32.toInt (rd_w k1578 ef1529 rfl); have z4_ := congrArg Int32.toInt (rd_w k1578 z1525 rfl); have z_ := w_lits; have zl_ := l_lits; omega), (by have z0_ := congrArg Int32.toInt (rd_w k1578 z1523 rfl); have z1_ := congrArg Int32.toInt (rd_w k1578 ef1528 rfl); have z2_ := congrArg Int32.toInt ef1579; have z3_ := congrArg Int32.toInt (rd_w k1578 ef1529 rfl); have z4_ := congrArg Int32.toInt (rd_w k1578 z1525 rfl); have z_ := w_lits; have zl_ := l_lits; omega), (by have z0_ := congrArg Int32.toInt (rd_w k1578 z1523 rfl); have z1_ := congrArg Int32.toInt (rd_w k1578 ef1528 rfl); have z2_ := congrArg Int32.toInt ef1579; have z3_ := congrArg Int32.toInt (rd_w k1578 ef1529 rfl); have z4_ := congrArg Int32.toInt (rd_w k1578 z1525 rfl); have z_ := w_lits; have zl_ := l_lits; omega), (by have z0_ := congrArg Int32.toInt (rd_w k1578 z1523 rfl); have z1_ := congrArg Int32.toInt (rd_w k1578 ef1528 rfl); have z2_ := congrArg Int32.toInt ef1579; have z3_ := congrArg Int32.toInt (rd_w k1578 ef1529 rfl); have z4_ := congrArg Int32.toInt (rd_w k1578 z1525 rfl); have z_ := w_lits; have zl_ := l_lits; omega)⟩
                      · have b1552 : B r1548 1 1 := R_neL b1548 (by decide : B 0 0 0) c1549 (by decide)
                        have b1553 : B r1541 48 57 := p1548_0 c1549
                        have z1554 := w_ne c1549
                        rw [show (0 : Int32).toInt = 0 from by decide] at z1554
                        refine ev_aload_n rfl rfl rfl ?_
                        refine ev_aload_n rfl rfl rfl ?_
                        refine ev_getV (v := f1528) rfl rfl fl_X10_210 rfl rfl rfl ef1528 ?_
                        refine ev_aload_n rfl rfl rfl ?_
                        refine ev_getV (v := f1021) rfl rfl fl_X10_197 rfl rfl rfl z1527 ?_
                        refine ev_isubB (l := -160) (u := 160) rfl rfl bf1528 bf1021 (by decide) (by decide) (by decide) (by decide) (fun v1585 b1585 e1585 g1585 => ?_)
                        refine ev_iconst (v := 2) rfl rfl (by decide) ?_
                        refine ev_icmp_ge rfl rfl (fun c1586 => ?_) (fun c1586 => ?_)
                        · have b1587 : B v1585 2 160 := R_leY (by decide : B 2 2 2) b1585 c1586 (by decide)
                          have z1588 := w_le c1586
                          rw [show (2 : Int32).toInt = 2 from by decide] at z1588
                          refine ev_aload_n rfl rfl rfl ?_
                          refine ev_getV (v := f1529) rfl rfl fl_X10_207 rfl rfl rfl ef1529 ?_
                          refine ev_putW (l := (-2147483648)) (u := 2147483647) hJ1522 rfl bf1529 (by decide) (by decide) rfl rfl rfl fl_X10_207 rfl rfl rfl rfl rfl (fun h1591 hJ1591 k1591 => ?_)
                          refine ev_aload_n rfl rfl rfl ?_
                          refine ev_dup rfl rfl rfl ?_
                          refine ev_getV (v := f1528) rfl rfl fl_X10_210 rfl rfl rfl (rd_o k1591 ef1528 rfl) ?_
                          refine ev_iconst (v := 1) rfl rfl (by decide) ?_
                          refine ev_iaddB (l := 1) (u := 161) rfl rfl bf1528 (by decide : B 1 1 1) (by decide) (by decide) (by decide) (by decide) (fun v1592 b1592 e1592 g1592 => ?_)
                          have e1592x := e1592; rw [show (1 : Int32).toInt = 1 from by decide] at e1592x
                          have b1593 : B v1592 0 160 := ⟨(by have z0_ := congrArg Int32.toInt (rd_o k1591 z1523 rfl); have z1_ := congrArg Int32.toInt (rd_o k1591 ef1528 rfl); have z2_ := congrArg Int32.toInt (rd_o k1591 z1524 rfl); have z3_ := congrArg Int32.toInt (rd_s k1591); have z4_ := congrArg Int32.toInt (rd_o k1591 z1525 rfl); have z_ := w_lits; have zl_ := l_lits; omega), (by have z0_ := congrArg Int32.toInt (rd_o k1591 z1523 rfl); have z1_ := congrArg Int32.toInt (rd_o k1591 ef1528 rfl); have z2_ := congrArg Int32.toInt (rd_o k1591 z1524 rfl); have z3_ := congrArg Int32.toInt (rd_s k1591); have z4_ := congrArg Int32.toInt (rd_o k1591 z1525 rfl); have z_ := w_lits; have zl_ := l_lits; omega)⟩
                          refine ev_putW (l := 0) (u := 160) hJ1591 rfl b1593 (by decide) (by decide) rfl rfl rfl fl_X10_210 rfl rfl rfl rfl rfl (fun h1594 hJ1594 k1594 => ?_)
                          refine ev_goto rfl rfl ?_
                          exact (ih108 h1594 hJ1594 (rd_o k1594 (rd_o k1591 z1523 rfl) rfl) (rd_o k1594 (rd_o k1591 z1524 rfl) rfl) (rd_o k1594 (rd_o k1591 z1525 rfl) rfl) (rd_o k1594 (rd_o k1591 z1526 rfl) rfl) (rd_o k1594 (rd_o k1591 z1527 rfl) rfl) (by have z0_ := congrArg Int32.toInt (rd_o k1594 (rd_o k1591 z1523 rfl) rfl); have z1_ := congrArg Int32.toInt (rd_s k1594); have z2_ := congrArg Int32.toInt (rd_o k1594 (rd_o k1591 z1524 rfl) rfl); have z3_ := congrArg Int32.toInt (rd_o k1594 (rd_s k1591) rfl); have z4_ := congrArg Int32.toInt (rd_o k1594 (rd_o k1591 z1525 rfl) rfl); have z_ := w_lits; have zl_ := l_lits; omega) (by have z0_ := congrArg Int32.toInt (rd_o k1594 (rd_o k1591 z1523 rfl) rfl); have z1_ := congrArg Int32.toInt (rd_s k1594); have z2_ := congrArg Int32.toInt (rd_o k1594 (rd_o k1591 z1524 rfl) rfl); have z3_ := congrArg Int32.toInt (rd_o k1594 (rd_s k1591) rfl); have z4_ := congrArg Int32.toInt (rd_o k1594 (rd_o k1591 z1525 rfl) rfl); have z_ := w_lits; have zl_ := l_lits; omega) (by rw [(rd_s k1594)]; exact L_up hm108 (e_p1 e1592 (by decide))))
                        · have b1589 : B v1585 (-160) 1 := R_ltX b1585 (by decide : B 2 2 2) (Int32.not_le.mp c1586) (by decide)
                          have z1590 := w_lt (Int32.not_le.mp c1586)
                          rw [show (2 : Int32).toInt = 2 from by decide] at z1590
                          refine ev_bipush (v := 10) rfl rfl (by decide) ?_
                          refine ev_aload_n rfl rfl rfl ?_
                          refine ev_getV (v := f1529) rfl rfl fl_X10_207 rfl rfl rfl ef1529 ?_
                          refine ev_imulA rfl rfl (fun v1595 => ?_)
                          refine ev_aload_n rfl rfl rfl ?_
                          refine ev_aload_n rfl rfl rfl ?_
                          refine ev_getV (v := f1528) rfl rfl fl_X10_210 rfl rfl rfl ef1528 ?_
                          have z1596 := congrArg Int32.toInt z1523
                          have z1597 := congrArg Int32.toInt ef1528
                          have z1598 := congrArg Int32.toInt z1524
                          have z1599 := congrArg Int32.toInt ef1529
                          have z1600 := congrArg Int32.toInt z1525
                          refine ev_V1P rfl rfl lk_X10_213 vt_X10_look rfl rfl rfl rfl rfl (w_X10_look_63 L b h1521 hJ1522.1 f1528 bf1528 t1535 et1535) (fun r1601 q1601 => ?_)
                          obtain ⟨b1601, pp1601_0, pp1601_1⟩ := q1601
                          refine ev_iaddA rfl rfl (fun v1602 g1602 => ?_)
                          refine ev_bipush (v := 48) rfl rfl (by decide) ?_
                          refine ev_isubA rfl rfl (fun v1603 g1603 => ?_)
                          refine ev_goto rfl rfl ?_
                          refine ev_putW (l := (-2147483648)) (u := 2147483647) hJ1522 rfl (B.any v1603) (by decide) (by decide) rfl rfl rfl fl_X10_207 rfl rfl rfl rfl rfl (fun h1604 hJ1604 k1604 => ?_)
                          refine ev_aload_n rfl rfl rfl ?_
                          refine ev_dup rfl rfl rfl ?_
                          refine ev_getV (v := f1528) rfl rfl fl_X10_210 rfl rfl rfl (rd_o k1604 ef1528 rfl) ?_
                          refine ev_iconst (v := 1) rfl rfl (by decide) ?_
                          refine ev_iaddB (l := 1) (u := 161) rfl rfl bf1528 (by decide : B 1 1 1) (by decide) (by decide) (by decide) (by decide) (fun v1605 b1605 e1605 g1605 => ?_)
                          have e1605x := e1605; rw [show (1 : Int32).toInt = 1 from by decide] at e1605x
                          have b1606 : B v1605 0 160 := ⟨(by have z0_ := congrArg Int32.toInt (rd_o k1604 z1523 rfl); have z1_ := congrArg Int32.toInt (rd_o k1604 ef1528 rfl); have z2_ := congrArg Int32.toInt (rd_o k1604 z1524 rfl); have z3_ := congrArg Int32.toInt (rd_s k1604); have z4_ := congrArg Int32.toInt (rd_o k1604 z1525 rfl); have z_ := w_lits; have zl_ := l_lits; omega), (by have z0_ := congrArg Int32.toInt (rd_o k1604 z1523 rfl); have z1_ := congrArg Int32.toInt (rd_o k1604 ef1528 rfl); have z2_ := congrArg Int32.toInt (rd_o k1604 z1524 rfl); have z3_ := congrArg Int32.toInt (rd_s k1604); have z4_ := congrArg Int32.toInt (rd_o k1604 z1525 rfl); have z_ := w_lits; have zl_ := l_lits; omega)⟩
                          refine ev_putW (l := 0) (u := 160) hJ1604 rfl b1606 (by decide) (by decide) rfl rfl rfl fl_X10_210 rfl rfl rfl rfl rfl (fun h1607 hJ1607 k1607 => ?_)
                          refine ev_goto rfl rfl ?_
                          exact (ih108 h1607 hJ1607 (rd_o k1607 (rd_o k1604 z1523 rfl) rfl) (rd_o k1607 (rd_o k1604 z1524 rfl) rfl) (rd_o k1607 (rd_o k1604 z1525 rfl) rfl) (rd_o k1607 (rd_o k1604 z1526 rfl) rfl) (rd_o k1607 (rd_o k1604 z1527 rfl) rfl) (by have z0_ := congrArg Int32.toInt (rd_o k1607 (rd_o k1604 z1523 rfl) rfl); have z1_ := congrArg Int32.toInt (rd_s k1607); have z2_ := congrArg Int32.toInt (rd_o k1607 (rd_o k1604 z1524 rfl) rfl); have z3_ := congrArg Int32.toInt (rd_o k1607 (rd_s k1604) rfl); have z4_ := congrArg Int32.toInt (rd_o k1607 (rd_o k1604 z1525 rfl) rfl); have z_ := w_lits; have zl_ := l_lits; omega) (by have z0_ := congrArg Int32.toInt (rd_o k1607 (rd_o k1604 z1523 rfl) rfl); have z1_ := congrArg Int32.toInt (rd_s k1607); have z2_ := congrArg Int32.toInt (rd_o k1607 (rd_o k1604 z1524 rfl) rfl); have z3_ := congrArg Int32.toInt (rd_o k1607 (rd_s k1604) rfl); have z4_ := congrArg Int32.toInt (rd_o k1607 (rd_o k1604 z1525 rfl) rfl); have z_ := w_lits; have zl_ := l_lits; omega) (by rw [(rd_s k1607)]; exact L_up hm108 (e_p1 e1605 (by decide))))
                  exact (lp108_1520 161 h1400 hJ1400 (rd_o k1400 (rd_o k1397 (rd_o k1151 (rd_o k1150 (rd_o k1038 z1017 rfl) rfl) rfl) rfl) rfl) (rd_o k1400 (rd_o k1397 (rd_o k1151 (rd_o k1150 (rd_o k1038 z1018 rfl) rfl) rfl) rfl) rfl) (rd_o k1400 (rd_o k1397 (rd_o k1151 (rd_s k1150) rfl) rfl) rfl) (rd_o k1400 (rd_o k1397 (rd_o k1151 (rd_o k1150 (rd_o k1038 et1027 rfl) rfl) rfl) rfl) rfl) (rd_o k1400 (rd_o k1397 (rd_o k1151 (rd_o k1150 (rd_s k1038) rfl) rfl) rfl) rfl) (by have z0_ := congrArg Int32.toInt (rd_o k1400 (rd_o k1397 (rd_o k1151 (rd_o k1150 (rd_o k1038 z1017 rfl) rfl) rfl) rfl) rfl); have z1_ := congrArg Int32.toInt (rd_s k1400); have z2_ := congrArg Int32.toInt (rd_o k1400 (rd_o k1397 (rd_o k1151 (rd_o k1150 (rd_o k1038 z1018 rfl) rfl) rfl) rfl) rfl); have z3_ := congrArg Int32.toInt (rd_o k1400 (rd_s k1397) rfl); have z4_ := congrArg Int32.toInt (rd_o k1400 (rd_o k1397 (rd_o k1151 (rd_s k1150) rfl) rfl) rfl); have z_ := w_lits; have zl_ := l_lits; omega) (by have z0_ := congrArg Int32.toInt (rd_o k1400 (rd_o k1397 (rd_o k1151 (rd_o k1150 (rd_o k1038 z1017 rfl) rfl) rfl) rfl) rfl); have z1_ := congrArg Int32.toInt (rd_s k1400); have z2_ := congrArg Int32.toInt (rd_o k1400 (rd_o k1397 (rd_o k1151 (rd_o k1150 (rd_o k1038 z1018 rfl) rfl) rfl) rfl) rfl); have z3_ := congrArg Int32.toInt (rd_o k1400 (rd_s k1397) rfl); have z4_ := congrArg Int32.toInt (rd_o k1400 (rd_o k1397 (rd_o k1151 (rd_s k1150) rfl) rfl) rfl); have z_ := w_lits; have zl_ := l_lits; omega) (by rw [(rd_s k1400)]; exact L_init b1399 (by decide)))
            · have b1060 : B r1056 1 1 := R_neL b1056 (by decide : B 0 0 0) c1057 (by decide)
              have b1061 : B r1044 97 122 := p1056_0 c1057
              have z1062 := w_ne c1057
              rw [show (0 : Int32).toInt = 0 from by decide] at z1062
              refine ev_aload_n rfl rfl rfl ?_
              have z1608 := congrArg Int32.toInt (rd_o k1038 z1017 rfl)
              have z1609 := congrArg Int32.toInt (rd_o k1038 ef1021 rfl)
              have z1610 := congrArg Int32.toInt (rd_o k1038 z1018 rfl)
              have z1611 := congrArg Int32.toInt (rd_o k1038 z1019 rfl)
              have z1612 := congrArg Int32.toInt (rd_o k1038 z1020 rfl)
              refine ev_V0K hJ1038 rfl rfl rfl lk_X10_223 vt_X10_readChord rfl rfl rfl rfl rfl (w_X10_readChord_63 L b h1038 hJ1038.1 t1027 (by rw [(rd_o k1038 ef1021 rfl)]; exact (rd_o k1038 et1027 rfl)) ⟨(by have z0_ := congrArg Int32.toInt (rd_o k1038 z1017 rfl); have z1_ := congrArg Int32.toInt (rd_o k1038 ef1021 rfl); have z2_ := congrArg Int32.toInt (rd_o k1038 z1018 rfl); have z3_ := congrArg Int32.toInt (rd_o k1038 z1019 rfl); have z4_ := congrArg Int32.toInt (rd_o k1038 z1020 rfl); have z_ := w_lits; have zl_ := l_lits; omega), (by have z0_ := congrArg Int32.toInt (rd_o k1038 z1017 rfl); have z1_ := congrArg Int32.toInt (rd_o k1038 ef1021 rfl); have z2_ := congrArg Int32.toInt (rd_o k1038 z1018 rfl); have z3_ := congrArg Int32.toInt (rd_o k1038 z1019 rfl); have z4_ := congrArg Int32.toInt (rd_o k1038 z1020 rfl); have z_ := w_lits; have zl_ := l_lits; omega)⟩ (by have z0_ := congrArg Int32.toInt (rd_o k1038 z1017 rfl); have z1_ := congrArg Int32.toInt (rd_o k1038 ef1021 rfl); have z2_ := congrArg Int32.toInt (rd_o k1038 z1018 rfl); have z3_ := congrArg Int32.toInt (rd_o k1038 z1019 rfl); have z4_ := congrArg Int32.toInt (rd_o k1038 z1020 rfl); have z_ := w_lits; have zl_ := l_lits; omega) (B.at (rd_o k1038 z1018 rfl) b7)) (fun h1613 hJ1613 k1613 m1613 => ?_)
              obtain ⟨m1613_0, m1613_1, m1613_2, m1613_3⟩ := m1613
              obtain ⟨f1614, ef1614⟩ : ∃ f_, h1613 63 17 = f_ := ⟨_, rfl⟩
              have bf1614 : B f1614 0 160 := by have z_ := hJ1613.1 63 17; rw [ef1614] at z_; exact z_
              have zf1614 := congrArg Int32.toInt ef1614
              obtain ⟨f1615, ef1615⟩ : ∃ f_, h1613 63 21 = f_ := ⟨_, rfl⟩
              have bf1615 : B f1615 0 6 := by have z_ := hJ1613.1 63 21; rw [ef1615] at z_; exact z_
              have zf1615 := congrArg Int32.toInt ef1615
              obtain ⟨f1616, ef1616⟩ : ∃ f_, h1613 63 20 = f_ := ⟨_, rfl⟩
              have bf1616 : B f1616 (-2147483648) 2147483647 := by have z_ := hJ1613.1 63 20; rw [ef1616] at z_; exact z_
              have zf1616 := congrArg Int32.toInt ef1616
              obtain ⟨f1617, ef1617⟩ : ∃ f_, h1613 63 19 = f_ := ⟨_, rfl⟩
              have bf1617 : B f1617 0 3 := by have z_ := hJ1613.1 63 19; rw [ef1617] at z_; exact z_
              have zf1617 := congrArg Int32.toInt ef1617
              have z1618 := congrArg Int32.toInt (rd_w k1613 (rd_o k1038 z1017 rfl) rfl)
              have z1619 := congrArg Int32.toInt ef1614
              have z1620 := congrArg Int32.toInt ef1615
              have z1621 := congrArg Int32.toInt ef1616
              have z1622 := congrArg Int32.toInt ef1617
              refine ev_goto rfl rfl ?_
              exact ev_vret rfl rfl trivial ⟨rfl, rfl, hJ1613, (by have z0_ := congrArg Int32.toInt (rd_w k1613 (rd_o k1038 z1017 rfl) rfl); have z1_ := congrArg Int32.toInt ef1614; have z2_ := congrArg Int32.toInt ef1615; have z3_ := congrArg Int32.toInt ef1616; have z4_ := congrArg Int32.toInt ef1617; have z_ := w_lits; have zl_ := l_lits; omega), (by have z0_ := congrArg Int32.toInt (rd_w k1613 (rd_o k1038 z1017 rfl) rfl); have z1_ := congrArg Int32.toInt ef1614; have z2_ := congrArg Int32.toInt ef1615; have z3_ := congrArg Int32.toInt ef1616; have z4_ := congrArg Int32.toInt ef1617; have z_ := w_lits; have zl_ := l_lits; omega), (by have z0_ := congrArg Int32.toInt (rd_w k1613 (rd_o k1038 z1017 rfl) rfl); have z1_ := congrArg Int32.toInt ef1614; have z2_ := congrArg Int32.toInt ef1615; have z3_ := congrArg Int32.toInt ef1616; have z4_ := congrArg Int32.toInt ef1617; have z_ := w_lits; have zl_ := l_lits; omega), (by have z0_ := congrArg Int32.toInt (rd_w k1613 (rd_o k1038 z1017 rfl) rfl); have z1_ := congrArg Int32.toInt ef1614; have z2_ := congrArg Int32.toInt ef1615; have z3_ := congrArg Int32.toInt ef1616; have z4_ := congrArg Int32.toInt ef1617; have z_ := w_lits; have zl_ := l_lits; omega), (by have z0_ := congrArg Int32.toInt (rd_w k1613 (rd_o k1038 z1017 rfl) rfl); have z1_ := congrArg Int32.toInt ef1614; have z2_ := congrArg Int32.toInt ef1615; have z3_ := congrArg Int32.toInt ef1616; have z4_ := congrArg Int32.toInt ef1617; have z_ := w_lits; have zl_ := l_lits; omega)⟩
          · have b1048 : B r1044 (-1) (-1) := R_ltX b1044 (by decide : B 0 0 0) (Int32.not_le.mp c1045) (by decide)
            have z1049 := w_lt (Int32.not_le.mp c1045)
            rw [show (0 : Int32).toInt = 0 from by decide] at z1049
            refine ev_aload_n rfl rfl rfl ?_
            refine ev_iconst (v := 0) rfl rfl (by decide) ?_
            refine ev_putW (l := 0) (u := 3) hJ1038 rfl (by decide : B 0 0 0) (by decide) (by decide) rfl rfl rfl fl_X10_204 rfl rfl rfl rfl rfl (fun h1623 hJ1623 k1623 => ?_)
            refine ev_goto rfl rfl ?_
            exact ev_vret rfl rfl trivial ⟨rfl, rfl, hJ1623, (by have z0_ := congrArg Int32.toInt (rd_o k1623 (rd_o k1038 z1017 rfl) rfl); have z1_ := congrArg Int32.toInt (rd_o k1623 (rd_o k1038 ef1021 rfl) rfl); have z2_ := congrArg Int32.toInt (rd_o k1623 (rd_o k1038 z1018 rfl) rfl); have z3_ := congrArg Int32.toInt (rd_o k1623 (rd_o k1038 z1019 rfl) rfl); have z4_ := congrArg Int32.toInt (rd_s k1623); have z_ := w_lits; have zl_ := l_lits; omega), (by have z0_ := congrArg Int32.toInt (rd_o k1623 (rd_o k1038 z1017 rfl) rfl); have z1_ := congrArg Int32.toInt (rd_o k1623 (rd_o k1038 ef1021 rfl) rfl); have z2_ := congrArg Int32.toInt (rd_o k1623 (rd_o k1038 z1018 rfl) rfl); have z3_ := congrArg Int32.toInt (rd_o k1623 (rd_o k1038 z1019 rfl) rfl); have z4_ := congrArg Int32.toInt (rd_s k1623); have z_ := w_lits; have zl_ := l_lits; omega), (by have z0_ := congrArg Int32.toInt (rd_o k1623 (rd_o k1038 z1017 rfl) rfl); have z1_ := congrArg Int32.toInt (rd_o k1623 (rd_o k1038 ef1021 rfl) rfl); have z2_ := congrArg Int32.toInt (rd_o k1623 (rd_o k1038 z1018 rfl) rfl); have z3_ := congrArg Int32.toInt (rd_o k1623 (rd_o k1038 z1019 rfl) rfl); have z4_ := congrArg Int32.toInt (rd_s k1623); have z_ := w_lits; have zl_ := l_lits; omega), (by have z0_ := congrArg Int32.toInt (rd_o k1623 (rd_o k1038 z1017 rfl) rfl); have z1_ := congrArg Int32.toInt (rd_o k1623 (rd_o k1038 ef1021 rfl) rfl); have z2_ := congrArg Int32.toInt (rd_o k1623 (rd_o k1038 z1018 rfl) rfl); have z3_ := congrArg Int32.toInt (rd_o k1623 (rd_o k1038 z1019 rfl) rfl); have z4_ := congrArg Int32.toInt (rd_s k1623); have z_ := w_lits; have zl_ := l_lits; omega), (by have z0_ := congrArg Int32.toInt (rd_o k1623 (rd_o k1038 z1017 rfl) rfl); have z1_ := congrArg Int32.toInt (rd_o k1623 (rd_o k1038 ef1021 rfl) rfl); have z2_ := congrArg Int32.toInt (rd_o k1623 (rd_o k1038 z1018 rfl) rfl); have z3_ := congrArg Int32.toInt (rd_o k1623 (rd_o k1038 z1019 rfl) rfl); have z4_ := congrArg Int32.toInt (rd_s k1623); have z_ := w_lits; have zl_ := l_lits; omega)⟩
        · have b1036 : B r1033 32 32 := R_eqX b1033 (by decide : B 32 32 32) c1034
          have z1037 := congrArg Int32.toInt c1034
          rw [show (32 : Int32).toInt = 32 from by decide] at z1037
          refine ev_aload_n rfl rfl rfl ?_
          refine ev_dup rfl rfl rfl ?_
          refine ev_getV (v := f1021) rfl rfl fl_X10_210 rfl rfl rfl ef1021 ?_
          refine ev_iconst (v := 1) rfl rfl (by decide) ?_
          refine ev_iaddB (l := 1) (u := 161) rfl rfl bf1021 (by decide : B 1 1 1) (by decide) (by decide) (by decide) (by decide) (fun v1624 b1624 e1624 g1624 => ?_)
          have e1624x := e1624; rw [show (1 : Int32).toInt = 1 from by decide] at e1624x
          have b1625 : B v1624 0 160 := ⟨(by have z0_ := congrArg Int32.toInt z1017; have z1_ := congrArg Int32.toInt ef1021; have z2_ := congrArg Int32.toInt z1018; have z3_ := congrArg Int32.toInt z1019; have z4_ := congrArg Int32.toInt z1020; have z_ := w_lits; have zl_ := l_lits; omega), (by have z0_ := congrArg Int32.toInt z1017; have z1_ := congrArg Int32.toInt ef1021; have z2_ := congrArg Int32.toInt z1018; have z3_ := congrArg Int32.toInt z1019; have z4_ := congrArg Int32.toInt z1020; have z_ := w_lits; have zl_ := l_lits; omega)⟩
          refine ev_putW (l := 0) (u := 160) hJ1016 rfl b1625 (by decide) (by decide) rfl rfl rfl fl_X10_210 rfl rfl rfl rfl rfl (fun h1626 hJ1626 k1626 => ?_)
          refine ev_goto rfl rfl ?_
          exact (ih8 h1626 hJ1626 (rd_o k1626 z1017 rfl) (rd_o k1626 z1018 rfl) (rd_o k1626 z1019 rfl) (rd_o k1626 z1020 rfl) (by have z0_ := congrArg Int32.toInt (rd_o k1626 z1017 rfl); have z1_ := congrArg Int32.toInt (rd_s k1626); have z2_ := congrArg Int32.toInt (rd_o k1626 z1018 rfl); have z3_ := congrArg Int32.toInt (rd_o k1626 z1019 rfl); have z4_ := congrArg Int32.toInt (rd_o k1626 z1020 rfl); have z_ := w_lits; have zl_ := l_lits; omega) (by have z0_ := congrArg Int32.toInt (rd_o k1626 z1017 rfl); have z1_ := congrArg Int32.toInt (rd_s k1626); have z2_ := congrArg Int32.toInt (rd_o k1626 z1018 rfl); have z3_ := congrArg Int32.toInt (rd_o k1626 z1019 rfl); have z4_ := congrArg Int32.toInt (rd_o k1626 z1020 rfl); have z_ := w_lits; have zl_ := l_lits; omega) (by rw [(rd_s k1626)]; exact L_up hm8 (e_p1 e1624 (by decide))))
    exact (lp8_1014 161 h hJ0 ef1 ef3 ef4 ef5 (by have z0_ := congrArg Int32.toInt ef1; have z1_ := congrArg Int32.toInt ef2; have z2_ := congrArg Int32.toInt ef3; have z3_ := congrArg Int32.toInt ef4; have z4_ := congrArg Int32.toInt ef5; have z_ := w_lits; have zl_ := l_lits; omega) (by have z0_ := congrArg Int32.toInt ef1; have z1_ := congrArg Int32.toInt ef2; have z2_ := congrArg Int32.toInt ef3; have z3_ := congrArg Int32.toInt ef4; have z4_ := congrArg Int32.toInt ef5; have z_ := w_lits; have zl_ := l_lits; omega) (by rw [ef2]; exact L_init bf2 (by decide)))
  · have b9 : B f3 1 6 := R_ltY (by decide : B 0 0 0) bf3 (Int32.not_le.mp c6) (by decide)
    have z10 := w_lt (Int32.not_le.mp c6)
    rw [show (0 : Int32).toInt = 0 from by decide] at z10
    exact ev_vret rfl rfl trivial ⟨rfl, rfl, hJ0, (by have z0_ := congrArg Int32.toInt ef1; have z1_ := congrArg Int32.toInt ef2; have z2_ := congrArg Int32.toInt ef3; have z3_ := congrArg Int32.toInt ef4; have z4_ := congrArg Int32.toInt ef5; have z_ := w_lits; have zl_ := l_lits; omega), (by have z0_ := congrArg Int32.toInt ef1; have z1_ := congrArg Int32.toInt ef2; have z2_ := congrArg Int32.toInt ef3; have z3_ := congrArg Int32.toInt ef4; have z4_ := congrArg Int32.toInt ef5; have z_ := w_lits; have zl_ := l_lits; omega), (by have z0_ := congrArg Int32.toInt ef1; have z1_ := congrArg Int32.toInt ef2; have z2_ := congrArg Int32.toInt ef3; have z3_ := congrArg Int32.toInt ef4; have z4_ := congrArg Int32.toInt ef5; have z_ := w_lits; have zl_ := l_lits; omega), (by have z0_ := congrArg Int32.toInt ef1; have z1_ := congrArg Int32.toInt ef2; have z2_ := congrArg Int32.toInt ef3; have z3_ := congrArg Int32.toInt ef4; have z4_ := congrArg Int32.toInt ef5; have z_ := w_lits; have zl_ := l_lits; omega), (by have z0_ := congrArg Int32.toInt ef1; have z1_ := congrArg Int32.toInt ef2; have z2_ := congrArg Int32.toInt ef3; have z3_ := congrArg Int32.toInt ef4; have z4_ := congrArg Int32.toInt ef5; have z_ := w_lits; have zl_ := l_lits; omega)⟩
