set_option maxRecDepth 100000 in
set_option maxHeartbeats 4000000 in
theorem w_X10_beatRead_63 (L : Nat) (b : Bool) (h : Hp) (hB : Bx h) (a0 : Int32) (p0 : B a0 0 4095) (rp0 : (0 < (h 63 31).toInt → (h 76 0).toInt ≤ (h 63 27).toInt)) (rp1 : (1 < (h 63 31).toInt → (h 76 0).toInt ≤ (h 76 1).toInt ∧ (h 76 1).toInt ≤ (h 63 27).toInt)) (rp2 : (2 < (h 63 31).toInt → (h 76 1).toInt ≤ (h 76 2).toInt ∧ (h 76 2).toInt ≤ (h 63 27).toInt)) (rp3 : (3 < (h 63 31).toInt → (h 76 2).toInt ≤ (h 76 3).toInt ∧ (h 76 3).toInt ≤ (h 63 27).toInt)) : EvK mi_X10_beatRead [.ref 63, .int a0] (G0 L b) h (fun z : Hp => ((0 < (z 63 31).toInt → (z 76 0).toInt ≤ (z 63 27).toInt)) ∧ ((1 < (z 63 31).toInt → (z 76 0).toInt ≤ (z 76 1).toInt ∧ (z 76 1).toInt ≤ (z 63 27).toInt)) ∧ ((2 < (z 63 31).toInt → (z 76 1).toInt ≤ (z 76 2).toInt ∧ (z 76 2).toInt ≤ (z 63 27).toInt)) ∧ ((3 < (z 63 31).toInt → (z 76 2).toInt ≤ (z 76 3).toInt ∧ (z 76 3).toInt ≤ (z 63 27).toInt))) [(63, 27), (63, 28), (75, 999)] := by
  refine EvM.of2 (lo := [some (.ref 63), some (.int a0)]) pf_X10_beatRead ok_X10_beatRead rfl rfl ?_
  have hJ0 : JW [(63, 27), (63, 28), (75, 999)] h h := JW.refl hB
  obtain ⟨f1, ef1⟩ : ∃ f_, h 63 27 = f_ := ⟨_, rfl⟩
  have bf1 : B f1 0 60 := by have z_ := hJ0.1 63 27; rw [ef1] at z_; exact z_
  have zf1 := congrArg Int32.toInt ef1
  obtain ⟨f2, ef2⟩ : ∃ f_, h 63 31 = f_ := ⟨_, rfl⟩
  have bf2 : B f2 0 4 := by have z_ := hJ0.1 63 31; rw [ef2] at z_; exact z_
  have zf2 := congrArg Int32.toInt ef2
  obtain ⟨f3, ef3⟩ : ∃ f_, h 76 0 = f_ := ⟨_, rfl⟩
  have bf3 : B f3 0 60 := by have z_ := hJ0.1 76 0; rw [ef3] at z_; exact z_
  have zf3 := congrArg Int32.toInt ef3
  obtain ⟨f4, ef4⟩ : ∃ f_, h 76 1 = f_ := ⟨_, rfl⟩
  have bf4 : B f4 0 60 := by have z_ := hJ0.1 76 1; rw [ef4] at z_; exact z_
  have zf4 := congrArg Int32.toInt ef4
  obtain ⟨f5, ef5⟩ : ∃ f_, h 76 2 = f_ := ⟨_, rfl⟩
  have bf5 : B f5 0 60 := by have z_ := hJ0.1 76 2; rw [ef5] at z_; exact z_
  have zf5 := congrArg Int32.toInt ef5
  obtain ⟨f6, ef6⟩ : ∃ f_, h 76 3 = f_ := ⟨_, rfl⟩
  have bf6 : B f6 0 60 := by have z_ := hJ0.1 76 3; rw [ef6] at z_; exact z_
  have zf6 := congrArg Int32.toInt ef6
  refine ev_aload_n rfl rfl rfl ?_
  refine ev_getV (v := f1) rfl rfl fl_X10_234 rfl rfl rfl ef1 ?_
  refine ev_bipush (v := 60) rfl rfl (by decide) ?_
  refine ev_icmp_lt rfl rfl (fun c7 => ?_) (fun c7 => ?_)
  · have b8 : B f1 0 59 := R_ltX bf1 (by decide : B 60 60 60) c7 (by decide)
    have z9 := w_lt c7
    rw [show (60 : Int32).toInt = 60 from by decide] at z9
    refine ev_aload_n rfl rfl rfl ?_
    refine ev_getR (y := 75) rfl rfl fl_X10_57 rfl rfl rfl rfl ?_
    refine ev_aload_n rfl rfl rfl ?_
    refine ev_getV (v := f1) rfl rfl fl_X10_234 rfl rfl rfl ef1 ?_
    refine ev_iload_n rfl rfl rfl ?_
    refine ev_iasW (n := 64) (l := 0) (u := 4095) hJ0 b8 (by decide) (by decide) (fun _ => rfl) p0 (by decide) (by decide) (fun _ => rfl) rfl rfl rfl rfl (fun h12 hJ12 k12 => ?_)
    refine ev_aload_n rfl rfl rfl ?_
    refine ev_dup rfl rfl rfl ?_
    refine ev_getV (v := f1) rfl rfl fl_X10_234 rfl rfl rfl (rd_a k12 ef1 rfl) ?_
    refine ev_iconst (v := 1) rfl rfl (by decide) ?_
    refine ev_iaddB (l := 1) (u := 60) rfl rfl b8 (by decide : B 1 1 1) (by decide) (by decide) (by decide) (by decide) (fun v13 b13 e13 g13 => ?_)
    have e13x := e13; rw [show (1 : Int32).toInt = 1 from by decide] at e13x
    refine ev_putW (l := 0) (u := 60) hJ12 rfl b13 (by decide) (by decide) rfl rfl rfl fl_X10_234 rfl rfl rfl rfl rfl (fun h14 hJ14 k14 => ?_)
    exact ev_vret rfl rfl trivial ⟨rfl, rfl, hJ14, (by have z0_ := congrArg Int32.toInt (rd_s k14); have z1_ := congrArg Int32.toInt (rd_o k14 (rd_a k12 ef2 rfl) rfl); have z2_ := congrArg Int32.toInt (rd_o k14 (rd_a k12 ef3 rfl) rfl); have z_ := w_lits; have zl_ := l_lits; omega), (by have z0_ := congrArg Int32.toInt (rd_s k14); have z1_ := congrArg Int32.toInt (rd_o k14 (rd_a k12 ef2 rfl) rfl); have z2_ := congrArg Int32.toInt (rd_o k14 (rd_a k12 ef3 rfl) rfl); have z3_ := congrArg Int32.toInt (rd_o k14 (rd_a k12 ef4 rfl) rfl); have z_ := w_lits; have zl_ := l_lits; omega), (by have z0_ := congrArg Int32.toInt (rd_s k14); have z1_ := congrArg Int32.toInt (rd_o k14 (rd_a k12 ef2 rfl) rfl); have z2_ := congrArg Int32.toInt (rd_o k14 (rd_a k12 ef4 rfl) rfl); have z3_ := congrArg Int32.toInt (rd_o k14 (rd_a k12 ef5 rfl) rfl); have z_ := w_lits; have zl_ := l_lits; omega), (by have z0_ := congrArg Int32.toInt (rd_s k14); have z1_ := congrArg Int32.toInt (rd_o k14 (rd_a k12 ef2 rfl) rfl); have z2_ := congrArg Int32.toInt (rd_o k14 (rd_a k12 ef5 rfl) rfl); have z3_ := congrArg Int32.toInt (rd_o k14 (rd_a k12 ef6 rfl) rfl); have z_ := w_lits; have zl_ := l_lits; omega)⟩
  · have b10 : B f1 60 60 := R_leY (by decide : B 60 60 60) bf1 (Int32.not_lt.mp c7) (by decide)
    have z11 := w_le (Int32.not_lt.mp c7)
    rw [show (60 : Int32).toInt = 60 from by decide] at z11
    refine ev_aload_n rfl rfl rfl ?_
    refine ev_iconst (v := 1) rfl rfl (by decide) ?_
    refine ev_puzW (l := (-2147483648)) (u := 2147483647) hJ0 rfl ((by decide : B 1 1 1).mono (by decide) (by decide)) (by decide) (by decide) rfl rfl rfl fl_X10_237 rfl rfl rfl rfl rfl (fun h15 hJ15 k15 => ?_)
    refine ev_goto rfl rfl ?_
    exact ev_vret rfl rfl trivial ⟨rfl, rfl, hJ15, (by have z0_ := congrArg Int32.toInt (rd_o k15 ef1 rfl); have z1_ := congrArg Int32.toInt (rd_o k15 ef2 rfl); have z2_ := congrArg Int32.toInt (rd_o k15 ef3 rfl); have z_ := w_lits; have zl_ := l_lits; omega), (by have z0_ := congrArg Int32.toInt (rd_o k15 ef1 rfl); have z1_ := congrArg Int32.toInt (rd_o k15 ef2 rfl); have z2_ := congrArg Int32.toInt (rd_o k15 ef3 rfl); have z3_ := congrArg Int32.toInt (rd_o k15 ef4 rfl); have z_ := w_lits; have zl_ := l_lits; omega), (by have z0_ := congrArg Int32.toInt (rd_o k15 ef1 rfl); have z1_ := congrArg Int32.toInt (rd_o k15 ef2 rfl); have z2_ := congrArg Int32.toInt (rd_o k15 ef4 rfl); have z3_ := congrArg Int32.toInt (rd_o k15 ef5 rfl); have z_ := w_lits; have zl_ := l_lits; omega), (by have z0_ := congrArg Int32.toInt (rd_o k15 ef1 rfl); have z1_ := congrArg Int32.toInt (rd_o k15 ef2 rfl); have z2_ := congrArg Int32.toInt (rd_o k15 ef5 rfl); have z3_ := congrArg Int32.toInt (rd_o k15 ef6 rfl); have z_ := w_lits; have zl_ := l_lits; omega)⟩

set_option maxRecDepth 100000 in
set_option maxHeartbeats 4000000 in
theorem w_X10_closes_63 (L : Nat) (b : Bool) (h : Hp) (hB : Bx h) (rp0 : (0 < (h 63 31).toInt → (h 76 0).toInt ≤ (h 63 27).toInt)) (rp1 : (1 < (h 63 31).toInt → (h 76 0).toInt ≤ (h 76 1).toInt ∧ (h 76 1).toInt ≤ (h 63 27).toInt)) (rp2 : (2 < (h 63 31).toInt → (h 76 1).toInt ≤ (h 76 2).toInt ∧ (h 76 2).toInt ≤ (h 63 27).toInt)) (rp3 : (3 < (h 63 31).toInt → (h 76 2).toInt ≤ (h 76 3).toInt ∧ (h 76 3).toInt ≤ (h 63 27).toInt)) (q0 : B (h 63 31) 1 4) : EvK mi_X10_closes [.ref 63] (G0 L b) h (fun z : Hp => ((0 < (z 63 31).toInt → (z 76 0).toInt ≤ (z 63 27).toInt)) ∧ ((1 < (z 63 31).toInt → (z 76 0).toInt ≤ (z 76 1).toInt ∧ (z 76 1).toInt ≤ (z 63 27).toInt)) ∧ ((2 < (z 63 31).toInt → (z 76 1).toInt ≤ (z 76 2).toInt ∧ (z 76 2).toInt ≤ (z 63 27).toInt)) ∧ ((3 < (z 63 31).toInt → (z 76 2).toInt ≤ (z 76 3).toInt ∧ (z 76 3).toInt ≤ (z 63 27).toInt))) [(63, 27), (63, 28), (63, 31), (75, 999)] := by
  refine EvM.of2 (lo := [some (.ref 63), none, none, none]) pf_X10_closes ok_X10_closes rfl rfl ?_
  have hJ0 : JW [(63, 27), (63, 28), (63, 31), (75, 999)] h h := JW.refl hB
  obtain ⟨f0, ef0⟩ : ∃ f_, h 63 31 = f_ := ⟨_, rfl⟩
  rw [ef0] at q0
  have zef0 := congrArg Int32.toInt ef0
  obtain ⟨f1, ef1⟩ : ∃ f_, h 63 27 = f_ := ⟨_, rfl⟩
  have bf1 : B f1 0 60 := by have z_ := hJ0.1 63 27; rw [ef1] at z_; exact z_
  have zf1 := congrArg Int32.toInt ef1
  obtain ⟨f2, ef2⟩ : ∃ f_, h 76 0 = f_ := ⟨_, rfl⟩
  have bf2 : B f2 0 60 := by have z_ := hJ0.1 76 0; rw [ef2] at z_; exact z_
  have zf2 := congrArg Int32.toInt ef2
  obtain ⟨f3, ef3⟩ : ∃ f_, h 76 1 = f_ := ⟨_, rfl⟩
  have bf3 : B f3 0 60 := by have z_ := hJ0.1 76 1; rw [ef3] at z_; exact z_
  have zf3 := congrArg Int32.toInt ef3
  obtain ⟨f4, ef4⟩ : ∃ f_, h 76 2 = f_ := ⟨_, rfl⟩
  have bf4 : B f4 0 60 := by have z_ := hJ0.1 76 2; rw [ef4] at z_; exact z_
  have zf4 := congrArg Int32.toInt ef4
  obtain ⟨f5, ef5⟩ : ∃ f_, h 76 3 = f_ := ⟨_, rfl⟩
  have bf5 : B f5 0 60 := by have z_ := hJ0.1 76 3; rw [ef5] at z_; exact z_
  have zf5 := congrArg Int32.toInt ef5
  refine ev_aload_n rfl rfl rfl ?_
  refine ev_dup rfl rfl rfl ?_
  refine ev_getV (v := f0) rfl rfl fl_X10_241 rfl rfl rfl ef0 ?_
  refine ev_iconst (v := 1) rfl rfl (by decide) ?_
  refine ev_isubB (l := 0) (u := 3) rfl rfl q0 (by decide : B 1 1 1) (by decide) (by decide) (by decide) (by decide) (fun v6 b6 e6 g6 => ?_)
  have e6x := e6; rw [show (1 : Int32).toInt = 1 from by decide] at e6x
  refine ev_putW (l := 0) (u := 4) hJ0 rfl b6 (by decide) (by decide) rfl rfl rfl fl_X10_241 rfl rfl rfl rfl rfl (fun h7 hJ7 k7 => ?_)
  refine ev_aload_n rfl rfl rfl ?_
  refine ev_getR (y := 76) rfl rfl fl_X10_60 rfl rfl rfl rfl ?_
  refine ev_aload_n rfl rfl rfl ?_
  refine ev_getV (v := v6) rfl rfl fl_X10_241 rfl rfl rfl (rd_s k7) ?_
  rcases B.c4 b6 with rfl | rfl | rfl | rfl
  · refine ev_iadV (j := 0) (v := f2) rfl rfl rfl (by unfold vp_in; decide) (by decide) (rd_o k7 ef2 rfl) ?_
    refine ev_istore_n rfl rfl rfl rfl ?_
    dsimp only [List.set]
    refine ev_aload_n rfl rfl rfl ?_
    refine ev_getV (v := f1) rfl rfl fl_X10_234 rfl rfl rfl (rd_o k7 ef1 rfl) ?_
    refine ev_iload_n rfl rfl rfl ?_
    refine ev_isubB (l := -60) (u := 60) rfl rfl bf1 bf2 (by decide) (by decide) (by decide) (by decide) (fun v8 b8 e8 g8 => ?_)
    refine ev_istore_n rfl rfl rfl rfl ?_
    dsimp only [List.set]
    refine ev_iload_n rfl rfl rfl ?_
    refine ev_aload_n rfl rfl rfl ?_
    refine ev_getR (y := 77) rfl rfl fl_X10_63 rfl rfl rfl rfl ?_
    refine ev_aload_n rfl rfl rfl ?_
    refine ev_getV (v := 0) rfl rfl fl_X10_241 rfl rfl rfl (rd_s k7) ?_
    refine ev_ialK (j := 0) (n := 5) (l := 0) (u := 20) hJ7.1 (by decide : B 0 0 0) (by decide) (by decide) (by decide) rfl rfl rfl rfl (fun v9 b9 e9 => ?_)
    have b10 : B v8 0 60 := ⟨(by have z0_ := congrArg Int32.toInt (rd_o k7 ef1 rfl); have z1_ := congrArg Int32.toInt (rd_s k7); have z2_ := congrArg Int32.toInt (rd_o k7 ef2 rfl); have z3_ := congrArg Int32.toInt (rd_o k7 ef3 rfl); have z4_ := congrArg Int32.toInt (rd_o k7 ef4 rfl); have z5_ := congrArg Int32.toInt (rd_o k7 ef5 rfl); have z_ := w_lits; have zl_ := l_lits; omega), (by have z0_ := congrArg Int32.toInt (rd_o k7 ef1 rfl); have z1_ := congrArg Int32.toInt (rd_s k7); have z2_ := congrArg Int32.toInt (rd_o k7 ef2 rfl); have z3_ := congrArg Int32.toInt (rd_o k7 ef3 rfl); have z4_ := congrArg Int32.toInt (rd_o k7 ef4 rfl); have z5_ := congrArg Int32.toInt (rd_o k7 ef5 rfl); have z_ := w_lits; have zl_ := l_lits; omega)⟩
    refine ev_imulB (l := 0) (u := 1200) rfl rfl b10 b9 (by decide) (by decide) (by decide) (by decide) (by decide) (fun v11 b11 e11 g11 => ?_)
    clear e11
    refine ev_iload_n rfl rfl rfl ?_
    refine ev_iaddB (l := 0) (u := 1260) rfl rfl b11 bf2 (by decide) (by decide) (by decide) (by decide) (fun v12 b12 e12 g12 => ?_)
    refine ev_bipush (v := 24) rfl rfl (by decide) ?_
    refine ev_icmp_le rfl rfl (fun c13 => ?_) (fun c13 => ?_)
    · have b14 : B v12 0 24 := R_leX b12 (by decide : B 24 24 24) c13 (by decide)
      have z15 := w_le c13
      rw [show (24 : Int32).toInt = 24 from by decide] at z15
      refine ev_iload_n rfl rfl rfl ?_
      refine ev_istore_n rfl rfl rfl rfl ?_
      dsimp only [List.set]
      have lp55_104 : ∀ (n : Nat) (w105 : Int32) (h107 : Hp), B w105 0 1200 → JW [(63, 27), (63, 28), (63, 31), (75, 999)] h h107 → (h107 63 31 = 0) → (h107 63 27 = f1) → (h107 76 0 = f2) → (h107 76 1 = f3) → (h107 76 2 = f4) → (h107 76 3 = f5) → (h107 77 0 = v9) → (v8.toInt ≤ w105.toInt) → 1200 + 1 - w105.toInt ≤ (n : Int) → EvQ mi_X10_closes 55 [some (.ref 63), some (.int f2), some (.int v8), some (.int w105)] [] (G0 L b) h107 0 0 (QK (fun z : Hp => ((0 < (z 63 31).toInt → (z 76 0).toInt ≤ (z 63 27).toInt)) ∧ ((1 < (z 63 31).toInt → (z 76 0).toInt ≤ (z 76 1).toInt ∧ (z 76 1).toInt ≤ (z 63 27).toInt)) ∧ ((2 < (z 63 31).toInt → (z 76 1).toInt ≤ (z 76 2).toInt ∧ (z 76 2).toInt ≤ (z 63 27).toInt)) ∧ ((3 < (z 63 31).toInt → (z 76 2).toInt ≤ (z 76 3).toInt ∧ (z 76 3).toInt ≤ (z 63 27).toInt))) [(63, 27), (63, 28), (63, 31), (75, 999)] (G0 L b) h) := by
        intro n
        induction n with
        | zero =>
          intro w105 h107 b106 hJ108 z109 z110 z111 z112 z113 z114 z115 y55_0 hm55
          exact absurd hm55 (L_zero b106 (by decide))
        | succ n ih55 =>
          intro w105 h107 b106 hJ108 z109 z110 z111 z112 z113 z114 z115 y55_0 hm55
          have z116 := congrArg Int32.toInt z110
          have z117 := congrArg Int32.toInt z109
          have z118 := congrArg Int32.toInt z111
          have z119 := congrArg Int32.toInt z112
          have z120 := congrArg Int32.toInt z113
          have z121 := congrArg Int32.toInt z114
          refine ev_iload_n rfl rfl rfl ?_
          refine ev_iload_n rfl rfl rfl ?_
          refine ev_aload_n rfl rfl rfl ?_
          refine ev_getR (y := 77) rfl rfl fl_X10_63 rfl rfl rfl rfl ?_
          refine ev_aload_n rfl rfl rfl ?_
          refine ev_getV (v := 0) rfl rfl fl_X10_241 rfl rfl rfl z109 ?_
          refine ev_iadV (j := 0) (v := v9) rfl rfl rfl (by unfold vp_in; decide) (by decide) z115 ?_
          refine ev_imulV g11 rfl rfl ?_
          refine ev_icmp_ge rfl rfl (fun c122 => ?_) (fun c122 => ?_)
          · have z123 := w_le c122
            refine ev_aload_n rfl rfl rfl ?_
            refine ev_iload_n rfl rfl rfl ?_
            refine ev_iload_n rfl rfl rfl ?_
            refine ev_aload_n rfl rfl rfl ?_
            refine ev_getR (y := 77) rfl rfl fl_X10_63 rfl rfl rfl rfl ?_
            refine ev_aload_n rfl rfl rfl ?_
            refine ev_getV (v := 0) rfl rfl fl_X10_241 rfl rfl rfl z109 ?_
            refine ev_iadV (j := 0) (v := v9) rfl rfl rfl (by unfold vp_in; decide) (by decide) z115 ?_
            refine ev_imulV g11 rfl rfl ?_
            refine ev_iaddB (l := 0) (u := 1260) rfl rfl bf2 b11 (by decide) (by decide) (by decide) (by decide) (fun v127 b127 e127 g127 => ?_)
            have b128 : B v127 0 60 := ⟨(by have z0_ := congrArg Int32.toInt z110; have z1_ := congrArg Int32.toInt z109; have z2_ := congrArg Int32.toInt z111; have z3_ := congrArg Int32.toInt z112; have z4_ := congrArg Int32.toInt z113; have z5_ := congrArg Int32.toInt z114; have z_ := w_lits; have zl_ := l_lits; omega), (by have z0_ := congrArg Int32.toInt z110; have z1_ := congrArg Int32.toInt z109; have z2_ := congrArg Int32.toInt z111; have z3_ := congrArg Int32.toInt z112; have z4_ := congrArg Int32.toInt z113; have z5_ := congrArg Int32.toInt z114; have z_ := w_lits; have zl_ := l_lits; omega)⟩
            refine ev_putW (l := 0) (u := 60) hJ108 rfl b128 (by decide) (by decide) rfl rfl rfl fl_X10_234 rfl rfl rfl rfl rfl (fun h129 hJ129 k129 => ?_)
            exact ev_vret rfl rfl trivial ⟨rfl, rfl, hJ129, (by have z0_ := congrArg Int32.toInt (rd_s k129); have z1_ := congrArg Int32.toInt (rd_o k129 z109 rfl); have z2_ := congrArg Int32.toInt (rd_o k129 z111 rfl); have z_ := w_lits; have zl_ := l_lits; omega), (by have z0_ := congrArg Int32.toInt (rd_s k129); have z1_ := congrArg Int32.toInt (rd_o k129 z109 rfl); have z2_ := congrArg Int32.toInt (rd_o k129 z111 rfl); have z3_ := congrArg Int32.toInt (rd_o k129 z112 rfl); have z_ := w_lits; have zl_ := l_lits; omega), (by have z0_ := congrArg Int32.toInt (rd_s k129); have z1_ := congrArg Int32.toInt (rd_o k129 z109 rfl); have z2_ := congrArg Int32.toInt (rd_o k129 z112 rfl); have z3_ := congrArg Int32.toInt (rd_o k129 z113 rfl); have z_ := w_lits; have zl_ := l_lits; omega), (by have z0_ := congrArg Int32.toInt (rd_s k129); have z1_ := congrArg Int32.toInt (rd_o k129 z109 rfl); have z2_ := congrArg Int32.toInt (rd_o k129 z113 rfl); have z3_ := congrArg Int32.toInt (rd_o k129 z114 rfl); have z_ := w_lits; have zl_ := l_lits; omega)⟩
          · have b124 : B w105 0 1199 := R_ltX b106 b11 (Int32.not_le.mp c122) (by decide)
            have b125 : B v11 1 1200 := R_ltY b106 b11 (Int32.not_le.mp c122) (by decide)
            have z126 := w_lt (Int32.not_le.mp c122)
            refine ev_aload_n rfl rfl rfl ?_
            refine ev_getR (y := 75) rfl rfl fl_X10_57 rfl rfl rfl rfl ?_
            refine ev_iload_n rfl rfl rfl ?_
            refine ev_iload_n rfl rfl rfl ?_
            refine ev_iaddB (l := 0) (u := 1259) rfl rfl bf2 b124 (by decide) (by decide) (by decide) (by decide) (fun v130 b130 e130 g130 => ?_)
            refine ev_aload_n rfl rfl rfl ?_
            refine ev_getR (y := 75) rfl rfl fl_X10_57 rfl rfl rfl rfl ?_
            refine ev_iload_n rfl rfl rfl ?_
            refine ev_iload_n rfl rfl rfl ?_
            refine ev_iaddV g130 rfl rfl ?_
            refine ev_iload_n rfl rfl rfl ?_
            refine ev_isubB (l := -60) (u := 1259) rfl rfl b130 b10 (by decide) (by decide) (by decide) (by decide) (fun v131 b131 e131 g131 => ?_)
            have b132 : B v131 0 63 := ⟨(by have z0_ := congrArg Int32.toInt z110; have z1_ := congrArg Int32.toInt z109; have z2_ := congrArg Int32.toInt z111; have z3_ := congrArg Int32.toInt z112; have z4_ := congrArg Int32.toInt z113; have z5_ := congrArg Int32.toInt z114; have z_ := w_lits; have zl_ := l_lits; omega), (by have z0_ := congrArg Int32.toInt z110; have z1_ := congrArg Int32.toInt z109; have z2_ := congrArg Int32.toInt z111; have z3_ := congrArg Int32.toInt z112; have z4_ := congrArg Int32.toInt z113; have z5_ := congrArg Int32.toInt z114; have z_ := w_lits; have zl_ := l_lits; omega)⟩
            refine ev_ialW (n := 64) (l := 0) (u := 4095) hJ108.1 b132 (by decide) (by decide) (fun _ => rfl) rfl rfl rfl (fun v133 b133 e133 => ?_)
            have b134 : B v130 0 63 := ⟨(by have z0_ := congrArg Int32.toInt z110; have z1_ := congrArg Int32.toInt z109; have z2_ := congrArg Int32.toInt z111; have z3_ := congrArg Int32.toInt z112; have z4_ := congrArg Int32.toInt z113; have z5_ := congrArg Int32.toInt z114; have z_ := w_lits; have zl_ := l_lits; omega), (by have z0_ := congrArg Int32.toInt z110; have z1_ := congrArg Int32.toInt z109; have z2_ := congrArg Int32.toInt z111; have z3_ := congrArg Int32.toInt z112; have z4_ := congrArg Int32.toInt z113; have z5_ := congrArg Int32.toInt z114; have z_ := w_lits; have zl_ := l_lits; omega)⟩
            refine ev_iasW (n := 64) (l := 0) (u := 4095) hJ108 b134 (by decide) (by decide) (fun _ => rfl) b133 (by decide) (by decide) (fun _ => rfl) rfl rfl rfl rfl (fun h135 hJ135 k135 => ?_)
            refine ev_iincB (y := 1) (l := 1) (u := 1200) rfl rfl rfl (by decide) rfl rfl b124 (by decide : B 1 1 1) (by decide) (by decide) (by decide) (by decide) (fun v136 b136 e136 => ?_)
            dsimp only [List.set]
            have e136x := e136; rw [show (1 : Int32).toInt = 1 from by decide] at e136x
            refine ev_goto rfl rfl ?_
            exact (ih55 v136 h135 (b136.mono (by decide) (by decide)) hJ135 (rd_a k135 z109 rfl) (rd_a k135 z110 rfl) (rd_a k135 z111 rfl) (rd_a k135 z112 rfl) (rd_a k135 z113 rfl) (rd_a k135 z114 rfl) (rd_a k135 z115 rfl) (by have z_ := w_lits; have zl_ := l_lits; omega) (L_up hm55 (e_p1 e136 (by decide))))
      exact (lp55_104 1201 v8 h7 (b10.mono (by decide) (by decide)) hJ7 (rd_s k7) (rd_o k7 ef1 rfl) (rd_o k7 ef2 rfl) (rd_o k7 ef3 rfl) (rd_o k7 ef4 rfl) (rd_o k7 ef5 rfl) e9 (by have z_ := w_lits; have zl_ := l_lits; omega) (L_init b10 (by decide)))
    · have b16 : B v12 25 1260 := R_ltY (by decide : B 24 24 24) b12 (Int32.not_le.mp c13) (by decide)
      have z17 := w_lt (Int32.not_le.mp c13)
      rw [show (24 : Int32).toInt = 24 from by decide] at z17
      refine ev_aload_n rfl rfl rfl ?_
      refine ev_iconst (v := 1) rfl rfl (by decide) ?_
      refine ev_puzW (l := (-2147483648)) (u := 2147483647) hJ7 rfl ((by decide : B 1 1 1).mono (by decide) (by decide)) (by decide) (by decide) rfl rfl rfl fl_X10_237 rfl rfl rfl rfl rfl (fun h137 hJ137 k137 => ?_)
      refine ev_goto rfl rfl ?_
      exact ev_vret rfl rfl trivial ⟨rfl, rfl, hJ137, (by have z0_ := congrArg Int32.toInt (rd_o k137 (rd_o k7 ef1 rfl) rfl); have z1_ := congrArg Int32.toInt (rd_o k137 (rd_s k7) rfl); have z2_ := congrArg Int32.toInt (rd_o k137 (rd_o k7 ef2 rfl) rfl); have z_ := w_lits; have zl_ := l_lits; omega), (by have z0_ := congrArg Int32.toInt (rd_o k137 (rd_o k7 ef1 rfl) rfl); have z1_ := congrArg Int32.toInt (rd_o k137 (rd_s k7) rfl); have z2_ := congrArg Int32.toInt (rd_o k137 (rd_o k7 ef2 rfl) rfl); have z3_ := congrArg Int32.toInt (rd_o k137 (rd_o k7 ef3 rfl) rfl); have z_ := w_lits; have zl_ := l_lits; omega), (by have z0_ := congrArg Int32.toInt (rd_o k137 (rd_o k7 ef1 rfl) rfl); have z1_ := congrArg Int32.toInt (rd_o k137 (rd_s k7) rfl); have z2_ := congrArg Int32.toInt (rd_o k137 (rd_o k7 ef3 rfl) rfl); have z3_ := congrArg Int32.toInt (rd_o k137 (rd_o k7 ef4 rfl) rfl); have z_ := w_lits; have zl_ := l_lits; omega), (by have z0_ := congrArg Int32.toInt (rd_o k137 (rd_o k7 ef1 rfl) rfl); have z1_ := congrArg Int32.toInt (rd_o k137 (rd_s k7) rfl); have z2_ := congrArg Int32.toInt (rd_o k137 (rd_o k7 ef4 rfl) rfl); have z3_ := congrArg Int32.toInt (rd_o k137 (rd_o k7 ef5 rfl) rfl); have z_ := w_lits; have zl_ := l_lits; omega)⟩
  · refine ev_iadV (j := 1) (v := f3) rfl rfl rfl (by unfold vp_in; decide) (by decide) (rd_o k7 ef3 rfl) ?_
    refine ev_istore_n rfl rfl rfl rfl ?_
    dsimp only [List.set]
    refine ev_aload_n rfl rfl rfl ?_
    refine ev_getV (v := f1) rfl rfl fl_X10_234 rfl rfl rfl (rd_o k7 ef1 rfl) ?_
    refine ev_iload_n rfl rfl rfl ?_
    refine ev_isubB (l := -60) (u := 60) rfl rfl bf1 bf3 (by decide) (by decide) (by decide) (by decide) (fun v138 b138 e138 g138 => ?_)
    refine ev_istore_n rfl rfl rfl rfl ?_
    dsimp only [List.set]
    refine ev_iload_n rfl rfl rfl ?_
    refine ev_aload_n rfl rfl rfl ?_
    refine ev_getR (y := 77) rfl rfl fl_X10_63 rfl rfl rfl rfl ?_
    refine ev_aload_n rfl rfl rfl ?_
    refine ev_getV (v := 1) rfl rfl fl_X10_241 rfl rfl rfl (rd_s k7) ?_
    refine ev_ialK (j := 1) (n := 5) (l := 0) (u := 20) hJ7.1 (by decide : B 1 1 1) (by decide) (by decide) (by decide) rfl rfl rfl rfl (fun v139 b139 e139 => ?_)
    have b140 : B v138 0 60 := ⟨(by have z0_ := congrArg Int32.toInt (rd_o k7 ef1 rfl); have z1_ := congrArg Int32.toInt (rd_s k7); have z2_ := congrArg Int32.toInt (rd_o k7 ef2 rfl); have z3_ := congrArg Int32.toInt (rd_o k7 ef3 rfl); have z4_ := congrArg Int32.toInt (rd_o k7 ef4 rfl); have z5_ := congrArg Int32.toInt (rd_o k7 ef5 rfl); have z_ := w_lits; have zl_ := l_lits; omega), (by have z0_ := congrArg Int32.toInt (rd_o k7 ef1 rfl); have z1_ := congrArg Int32.toInt (rd_s k7); have z2_ := congrArg Int32.toInt (rd_o k7 ef2 rfl); have z3_ := congrArg Int32.toInt (rd_o k7 ef3 rfl); have z4_ := congrArg Int32.toInt (rd_o k7 ef4 rfl); have z5_ := congrArg Int32.toInt (rd_o k7 ef5 rfl); have z_ := w_lits; have zl_ := l_lits; omega)⟩
    refine ev_imulB (l := 0) (u := 1200) rfl rfl b140 b139 (by decide) (by decide) (by decide) (by decide) (by decide) (fun v141 b141 e141 g141 => ?_)
    clear e141
    refine ev_iload_n rfl rfl rfl ?_
    refine ev_iaddB (l := 0) (u := 1260) rfl rfl b141 bf3 (by decide) (by decide) (by decide) (by decide) (fun v142 b142 e142 g142 => ?_)
    refine ev_bipush (v := 24) rfl rfl (by decide) ?_
    refine ev_icmp_le rfl rfl (fun c143 => ?_) (fun c143 => ?_)
    · have b144 : B v142 0 24 := R_leX b142 (by decide : B 24 24 24) c143 (by decide)
      have z145 := w_le c143
      rw [show (24 : Int32).toInt = 24 from by decide] at z145
      refine ev_iload_n rfl rfl rfl ?_
      refine ev_istore_n rfl rfl rfl rfl ?_
      dsimp only [List.set]
      have lp55_234 : ∀ (n : Nat) (w235 : Int32) (h237 : Hp), B w235 0 1200 → JW [(63, 27), (63, 28), (63, 31), (75, 999)] h h237 → (h237 63 31 = 1) → (h237 63 27 = f1) → (h237 76 0 = f2) → (h237 76 1 = f3) → (h237 76 2 = f4) → (h237 76 3 = f5) → (h237 77 1 = v139) → (v138.toInt ≤ w235.toInt) → 1200 + 1 - w235.toInt ≤ (n : Int) → EvQ mi_X10_closes 55 [some (.ref 63), some (.int f3), some (.int v138), some (.int w235)] [] (G0 L b) h237 0 0 (QK (fun z : Hp => ((0 < (z 63 31).toInt → (z 76 0).toInt ≤ (z 63 27).toInt)) ∧ ((1 < (z 63 31).toInt → (z 76 0).toInt ≤ (z 76 1).toInt ∧ (z 76 1).toInt ≤ (z 63 27).toInt)) ∧ ((2 < (z 63 31).toInt → (z 76 1).toInt ≤ (z 76 2).toInt ∧ (z 76 2).toInt ≤ (z 63 27).toInt)) ∧ ((3 < (z 63 31).toInt → (z 76 2).toInt ≤ (z 76 3).toInt ∧ (z 76 3).toInt ≤ (z 63 27).toInt))) [(63, 27), (63, 28), (63, 31), (75, 999)] (G0 L b) h) := by
        intro n
        induction n with
        | zero =>
          intro w235 h237 b236 hJ238 z239 z240 z241 z242 z243 z244 z245 y55_0 hm55
          exact absurd hm55 (L_zero b236 (by decide))
        | succ n ih55 =>
          intro w235 h237 b236 hJ238 z239 z240 z241 z242 z243 z244 z245 y55_0 hm55
          have z246 := congrArg Int32.toInt z240
          have z247 := congrArg Int32.toInt z239
          have z248 := congrArg Int32.toInt z241
          have z249 := congrArg Int32.toInt z242
          have z250 := congrArg Int32.toInt z243
          have z251 := congrArg Int32.toInt z244
          refine ev_iload_n rfl rfl rfl ?_
          refine ev_iload_n rfl rfl rfl ?_
          refine ev_aload_n rfl rfl rfl ?_
          refine ev_getR (y := 77) rfl rfl fl_X10_63 rfl rfl rfl rfl ?_
          refine ev_aload_n rfl rfl rfl ?_
          refine ev_getV (v := 1) rfl rfl fl_X10_241 rfl rfl rfl z239 ?_
          refine ev_iadV (j := 1) (v := v139) rfl rfl rfl (by unfold vp_in; decide) (by decide) z245 ?_
          refine ev_imulV g141 rfl rfl ?_
          refine ev_icmp_ge rfl rfl (fun c252 => ?_) (fun c252 => ?_)
          · have z253 := w_le c252
            refine ev_aload_n rfl rfl rfl ?_
            refine ev_iload_n rfl rfl rfl ?_
            refine ev_iload_n rfl rfl rfl ?_
            refine ev_aload_n rfl rfl rfl ?_
            refine ev_getR (y := 77) rfl rfl fl_X10_63 rfl rfl rfl rfl ?_
            refine ev_aload_n rfl rfl rfl ?_
            refine ev_getV (v := 1) rfl rfl fl_X10_241 rfl rfl rfl z239 ?_
            refine ev_iadV (j := 1) (v := v139) rfl rfl rfl (by unfold vp_in; decide) (by decide) z245 ?_
            refine ev_imulV g141 rfl rfl ?_
            refine ev_iaddB (l := 0) (u := 1260) rfl rfl bf3 b141 (by decide) (by decide) (by decide) (by decide) (fun v257 b257 e257 g257 => ?_)
            have b258 : B v257 0 60 := ⟨(by have z0_ := congrArg Int32.toInt z240; have z1_ := congrArg Int32.toInt z239; have z2_ := congrArg Int32.toInt z241; have z3_ := congrArg Int32.toInt z242; have z4_ := congrArg Int32.toInt z243; have z5_ := congrArg Int32.toInt z244; have z_ := w_lits; have zl_ := l_lits; omega), (by have z0_ := congrArg Int32.toInt z240; have z1_ := congrArg Int32.toInt z239; have z2_ := congrArg Int32.toInt z241; have z3_ := congrArg Int32.toInt z242; have z4_ := congrArg Int32.toInt z243; have z5_ := congrArg Int32.toInt z244; have z_ := w_lits; have zl_ := l_lits; omega)⟩
            refine ev_putW (l := 0) (u := 60) hJ238 rfl b258 (by decide) (by decide) rfl rfl rfl fl_X10_234 rfl rfl rfl rfl rfl (fun h259 hJ259 k259 => ?_)
            exact ev_vret rfl rfl trivial ⟨rfl, rfl, hJ259, (by have z0_ := congrArg Int32.toInt (rd_s k259); have z1_ := congrArg Int32.toInt (rd_o k259 z239 rfl); have z2_ := congrArg Int32.toInt (rd_o k259 z241 rfl); have z_ := w_lits; have zl_ := l_lits; omega), (by have z0_ := congrArg Int32.toInt (rd_s k259); have z1_ := congrArg Int32.toInt (rd_o k259 z239 rfl); have z2_ := congrArg Int32.toInt (rd_o k259 z241 rfl); have z3_ := congrArg Int32.toInt (rd_o k259 z242 rfl); have z_ := w_lits; have zl_ := l_lits; omega), (by have z0_ := congrArg Int32.toInt (rd_s k259); have z1_ := congrArg Int32.toInt (rd_o k259 z239 rfl); have z2_ := congrArg Int32.toInt (rd_o k259 z242 rfl); have z3_ := congrArg Int32.toInt (rd_o k259 z243 rfl); have z_ := w_lits; have zl_ := l_lits; omega), (by have z0_ := congrArg Int32.toInt (rd_s k259); have z1_ := congrArg Int32.toInt (rd_o k259 z239 rfl); have z2_ := congrArg Int32.toInt (rd_o k259 z243 rfl); have z3_ := congrArg Int32.toInt (rd_o k259 z244 rfl); have z_ := w_lits; have zl_ := l_lits; omega)⟩
          · have b254 : B w235 0 1199 := R_ltX b236 b141 (Int32.not_le.mp c252) (by decide)
            have b255 : B v141 1 1200 := R_ltY b236 b141 (Int32.not_le.mp c252) (by decide)
            have z256 := w_lt (Int32.not_le.mp c252)
            refine ev_aload_n rfl rfl rfl ?_
            refine ev_getR (y := 75) rfl rfl fl_X10_57 rfl rfl rfl rfl ?_
            refine ev_iload_n rfl rfl rfl ?_
            refine ev_iload_n rfl rfl rfl ?_
            refine ev_iaddB (l := 0) (u := 1259) rfl rfl bf3 b254 (by decide) (by decide) (by decide) (by decide) (fun v260 b260 e260 g260 => ?_)
            refine ev_aload_n rfl rfl rfl ?_
            refine ev_getR (y := 75) rfl rfl fl_X10_57 rfl rfl rfl rfl ?_
            refine ev_iload_n rfl rfl rfl ?_
            refine ev_iload_n rfl rfl rfl ?_
            refine ev_iaddV g260 rfl rfl ?_
            refine ev_iload_n rfl rfl rfl ?_
            refine ev_isubB (l := -60) (u := 1259) rfl rfl b260 b140 (by decide) (by decide) (by decide) (by decide) (fun v261 b261 e261 g261 => ?_)
            have b262 : B v261 0 63 := ⟨(by have z0_ := congrArg Int32.toInt z240; have z1_ := congrArg Int32.toInt z239; have z2_ := congrArg Int32.toInt z241; have z3_ := congrArg Int32.toInt z242; have z4_ := congrArg Int32.toInt z243; have z5_ := congrArg Int32.toInt z244; have z_ := w_lits; have zl_ := l_lits; omega), (by have z0_ := congrArg Int32.toInt z240; have z1_ := congrArg Int32.toInt z239; have z2_ := congrArg Int32.toInt z241; have z3_ := congrArg Int32.toInt z242; have z4_ := congrArg Int32.toInt z243; have z5_ := congrArg Int32.toInt z244; have z_ := w_lits; have zl_ := l_lits; omega)⟩
            refine ev_ialW (n := 64) (l := 0) (u := 4095) hJ238.1 b262 (by decide) (by decide) (fun _ => rfl) rfl rfl rfl (fun v263 b263 e263 => ?_)
            have b264 : B v260 0 63 := ⟨(by have z0_ := congrArg Int32.toInt z240; have z1_ := congrArg Int32.toInt z239; have z2_ := congrArg Int32.toInt z241; have z3_ := congrArg Int32.toInt z242; have z4_ := congrArg Int32.toInt z243; have z5_ := congrArg Int32.toInt z244; have z_ := w_lits; have zl_ := l_lits; omega), (by have z0_ := congrArg Int32.toInt z240; have z1_ := congrArg Int32.toInt z239; have z2_ := congrArg Int32.toInt z241; have z3_ := congrArg Int32.toInt z242; have z4_ := congrArg Int32.toInt z243; have z5_ := congrArg Int32.toInt z244; have z_ := w_lits; have zl_ := l_lits; omega)⟩
            refine ev_iasW (n := 64) (l := 0) (u := 4095) hJ238 b264 (by decide) (by decide) (fun _ => rfl) b263 (by decide) (by decide) (fun _ => rfl) rfl rfl rfl rfl (fun h265 hJ265 k265 => ?_)
            refine ev_iincB (y := 1) (l := 1) (u := 1200) rfl rfl rfl (by decide) rfl rfl b254 (by decide : B 1 1 1) (by decide) (by decide) (by decide) (by decide) (fun v266 b266 e266 => ?_)
            dsimp only [List.set]
            have e266x := e266; rw [show (1 : Int32).toInt = 1 from by decide] at e266x
            refine ev_goto rfl rfl ?_
            exact (ih55 v266 h265 (b266.mono (by decide) (by decide)) hJ265 (rd_a k265 z239 rfl) (rd_a k265 z240 rfl) (rd_a k265 z241 rfl) (rd_a k265 z242 rfl) (rd_a k265 z243 rfl) (rd_a k265 z244 rfl) (rd_a k265 z245 rfl) (by have z_ := w_lits; have zl_ := l_lits; omega) (L_up hm55 (e_p1 e266 (by decide))))
      exact (lp55_234 1201 v138 h7 (b140.mono (by decide) (by decide)) hJ7 (rd_s k7) (rd_o k7 ef1 rfl) (rd_o k7 ef2 rfl) (rd_o k7 ef3 rfl) (rd_o k7 ef4 rfl) (rd_o k7 ef5 rfl) e139 (by have z_ := w_lits; have zl_ := l_lits; omega) (L_init b140 (by decide)))
    · have b146 : B v142 25 1260 := R_ltY (by decide : B 24 24 24) b142 (Int32.not_le.mp c143) (by decide)
      have z147 := w_lt (Int32.not_le.mp c143)
      rw [show (24 : Int32).toInt = 24 from by decide] at z147
      refine ev_aload_n rfl rfl rfl ?_
      refine ev_iconst (v := 1) rfl rfl (by decide) ?_
      refine ev_puzW (l := (-2147483648)) (u := 2147483647) hJ7 rfl ((by decide : B 1 1 1).mono (by decide) (by decide)) (by decide) (by decide) rfl rfl rfl fl_X10_237 rfl rfl rfl rfl rfl (fun h267 hJ267 k267 => ?_)
      refine ev_goto rfl rfl ?_
      exact ev_vret rfl rfl trivial ⟨rfl, rfl, hJ267, (by have z0_ := congrArg Int32.toInt (rd_o k267 (rd_o k7 ef1 rfl) rfl); have z1_ := congrArg Int32.toInt (rd_o k267 (rd_s k7) rfl); have z2_ := congrArg Int32.toInt (rd_o k267 (rd_o k7 ef2 rfl) rfl); have z_ := w_lits; have zl_ := l_lits; omega), (by have z0_ := congrArg Int32.toInt (rd_o k267 (rd_o k7 ef1 rfl) rfl); have z1_ := congrArg Int32.toInt (rd_o k267 (rd_s k7) rfl); have z2_ := congrArg Int32.toInt (rd_o k267 (rd_o k7 ef2 rfl) rfl); have z3_ := congrArg Int32.toInt (rd_o k267 (rd_o k7 ef3 rfl) rfl); have z_ := w_lits; have zl_ := l_lits; omega), (by have z0_ := congrArg Int32.toInt (rd_o k267 (rd_o k7 ef1 rfl) rfl); have z1_ := congrArg Int32.toInt (rd_o k267 (rd_s k7) rfl); have z2_ := congrArg Int32.toInt (rd_o k267 (rd_o k7 ef3 rfl) rfl); have z3_ := congrArg Int32.toInt (rd_o k267 (rd_o k7 ef4 rfl) rfl); have z_ := w_lits; have zl_ := l_lits; omega), (by have z0_ := congrArg Int32.toInt (rd_o k267 (rd_o k7 ef1 rfl) rfl); have z1_ := congrArg Int32.toInt (rd_o k267 (rd_s k7) rfl); have z2_ := congrArg Int32.toInt (rd_o k267 (rd_o k7 ef4 rfl) rfl); have z3_ := congrArg Int32.toInt (rd_o k267 (rd_o k7 ef5 rfl) rfl); have z_ := w_lits; have zl_ := l_lits; omega)⟩
  · refine ev_iadV (j := 2) (v := f4) rfl rfl rfl (by unfold vp_in; decide) (by decide) (rd_o k7 ef4 rfl) ?_
    refine ev_istore_n rfl rfl rfl rfl ?_
    dsimp only [List.set]
    refine ev_aload_n rfl rfl rfl ?_
    refine ev_getV (v := f1) rfl rfl fl_X10_234 rfl rfl rfl (rd_o k7 ef1 rfl) ?_
    refine ev_iload_n rfl rfl rfl ?_
    refine ev_isubB (l := -60) (u := 60) rfl rfl bf1 bf4 (by decide) (by decide) (by decide) (by decide) (fun v268 b268 e268 g268 => ?_)
    refine ev_istore_n rfl rfl rfl rfl ?_
    dsimp only [List.set]
    refine ev_iload_n rfl rfl rfl ?_
    refine ev_aload_n rfl rfl rfl ?_
    refine ev_getR (y := 77) rfl rfl fl_X10_63 rfl rfl rfl rfl ?_
    refine ev_aload_n rfl rfl rfl ?_
    refine ev_getV (v := 2) rfl rfl fl_X10_241 rfl rfl rfl (rd_s k7) ?_
    refine ev_ialK (j := 2) (n := 5) (l := 0) (u := 20) hJ7.1 (by decide : B 2 2 2) (by decide) (by decide) (by decide) rfl rfl rfl rfl (fun v269 b269 e269 => ?_)
    have b270 : B v268 0 60 := ⟨(by have z0_ := congrArg Int32.toInt (rd_o k7 ef1 rfl); have z1_ := congrArg Int32.toInt (rd_s k7); have z2_ := congrArg Int32.toInt (rd_o k7 ef2 rfl); have z3_ := congrArg Int32.toInt (rd_o k7 ef3 rfl); have z4_ := congrArg Int32.toInt (rd_o k7 ef4 rfl); have z5_ := congrArg Int32.toInt (rd_o k7 ef5 rfl); have z_ := w_lits; have zl_ := l_lits; omega), (by have z0_ := congrArg Int32.toInt (rd_o k7 ef1 rfl); have z1_ := congrArg Int32.toInt (rd_s k7); have z2_ := congrArg Int32.toInt (rd_o k7 ef2 rfl); have z3_ := congrArg Int32.toInt (rd_o k7 ef3 rfl); have z4_ := congrArg Int32.toInt (rd_o k7 ef4 rfl); have z5_ := congrArg Int32.toInt (rd_o k7 ef5 rfl); have z_ := w_lits; have zl_ := l_lits; omega)⟩
    refine ev_imulB (l := 0) (u := 1200) rfl rfl b270 b269 (by decide) (by decide) (by decide) (by decide) (by decide) (fun v271 b271 e271 g271 => ?_)
    clear e271
    refine ev_iload_n rfl rfl rfl ?_
    refine ev_iaddB (l := 0) (u := 1260) rfl rfl b271 bf4 (by decide) (by decide) (by decide) (by decide) (fun v272 b272 e272 g272 => ?_)
    refine ev_bipush (v := 24) rfl rfl (by decide) ?_
    refine ev_icmp_le rfl rfl (fun c273 => ?_) (fun c273 => ?_)
    · have b274 : B v272 0 24 := R_leX b272 (by decide : B 24 24 24) c273 (by decide)
      have z275 := w_le c273
      rw [show (24 : Int32).toInt = 24 from by decide] at z275
      refine ev_iload_n rfl rfl rfl ?_
      refine ev_istore_n rfl rfl rfl rfl ?_
      dsimp only [List.set]
      have lp55_364 : ∀ (n : Nat) (w365 : Int32) (h367 : Hp), B w365 0 1200 → JW [(63, 27), (63, 28), (63, 31), (75, 999)] h h367 → (h367 63 31 = 2) → (h367 63 27 = f1) → (h367 76 0 = f2) → (h367 76 1 = f3) → (h367 76 2 = f4) → (h367 76 3 = f5) → (h367 77 2 = v269) → (v268.toInt ≤ w365.toInt) → 1200 + 1 - w365.toInt ≤ (n : Int) → EvQ mi_X10_closes 55 [some (.ref 63), some (.int f4), some (.int v268), some (.int w365)] [] (G0 L b) h367 0 0 (QK (fun z : Hp => ((0 < (z 63 31).toInt → (z 76 0).toInt ≤ (z 63 27).toInt)) ∧ ((1 < (z 63 31).toInt → (z 76 0).toInt ≤ (z 76 1).toInt ∧ (z 76 1).toInt ≤ (z 63 27).toInt)) ∧ ((2 < (z 63 31).toInt → (z 76 1).toInt ≤ (z 76 2).toInt ∧ (z 76 2).toInt ≤ (z 63 27).toInt)) ∧ ((3 < (z 63 31).toInt → (z 76 2).toInt ≤ (z 76 3).toInt ∧ (z 76 3).toInt ≤ (z 63 27).toInt))) [(63, 27), (63, 28), (63, 31), (75, 999)] (G0 L b) h) := by
        intro n
        induction n with
        | zero =>
          intro w365 h367 b366 hJ368 z369 z370 z371 z372 z373 z374 z375 y55_0 hm55
          exact absurd hm55 (L_zero b366 (by decide))
        | succ n ih55 =>
          intro w365 h367 b366 hJ368 z369 z370 z371 z372 z373 z374 z375 y55_0 hm55
          have z376 := congrArg Int32.toInt z370
          have z377 := congrArg Int32.toInt z369
          have z378 := congrArg Int32.toInt z371
          have z379 := congrArg Int32.toInt z372
          have z380 := congrArg Int32.toInt z373
          have z381 := congrArg Int32.toInt z374
          refine ev_iload_n rfl rfl rfl ?_
          refine ev_iload_n rfl rfl rfl ?_
          refine ev_aload_n rfl rfl rfl ?_
          refine ev_getR (y := 77) rfl rfl fl_X10_63 rfl rfl rfl rfl ?_
          refine ev_aload_n rfl rfl rfl ?_
          refine ev_getV (v := 2) rfl rfl fl_X10_241 rfl rfl rfl z369 ?_
          refine ev_iadV (j := 2) (v := v269) rfl rfl rfl (by unfold vp_in; decide) (by decide) z375 ?_
          refine ev_imulV g271 rfl rfl ?_
          refine ev_icmp_ge rfl rfl (fun c382 => ?_) (fun c382 => ?_)
          · have z383 := w_le c382
            refine ev_aload_n rfl rfl rfl ?_
            refine ev_iload_n rfl rfl rfl ?_
            refine ev_iload_n rfl rfl rfl ?_
            refine ev_aload_n rfl rfl rfl ?_
            refine ev_getR (y := 77) rfl rfl fl_X10_63 rfl rfl rfl rfl ?_
            refine ev_aload_n rfl rfl rfl ?_
            refine ev_getV (v := 2) rfl rfl fl_X10_241 rfl rfl rfl z369 ?_
            refine ev_iadV (j := 2) (v := v269) rfl rfl rfl (by unfold vp_in; decide) (by decide) z375 ?_
            refine ev_imulV g271 rfl rfl ?_
            refine ev_iaddB (l := 0) (u := 1260) rfl rfl bf4 b271 (by decide) (by decide) (by decide) (by decide) (fun v387 b387 e387 g387 => ?_)
            have b388 : B v387 0 60 := ⟨(by have z0_ := congrArg Int32.toInt z370; have z1_ := congrArg Int32.toInt z369; have z2_ := congrArg Int32.toInt z371; have z3_ := congrArg Int32.toInt z372; have z4_ := congrArg Int32.toInt z373; have z5_ := congrArg Int32.toInt z374; have z_ := w_lits; have zl_ := l_lits; omega), (by have z0_ := congrArg Int32.toInt z370; have z1_ := congrArg Int32.toInt z369; have z2_ := congrArg Int32.toInt z371; have z3_ := congrArg Int32.toInt z372; have z4_ := congrArg Int32.toInt z373; have z5_ := congrArg Int32.toInt z374; have z_ := w_lits; have zl_ := l_lits; omega)⟩
            refine ev_putW (l := 0) (u := 60) hJ368 rfl b388 (by decide) (by decide) rfl rfl rfl fl_X10_234 rfl rfl rfl rfl rfl (fun h389 hJ389 k389 => ?_)
            exact ev_vret rfl rfl trivial ⟨rfl, rfl, hJ389, (by have z0_ := congrArg Int32.toInt (rd_s k389); have z1_ := congrArg Int32.toInt (rd_o k389 z369 rfl); have z2_ := congrArg Int32.toInt (rd_o k389 z371 rfl); have z_ := w_lits; have zl_ := l_lits; omega), (by have z0_ := congrArg Int32.toInt (rd_s k389); have z1_ := congrArg Int32.toInt (rd_o k389 z369 rfl); have z2_ := congrArg Int32.toInt (rd_o k389 z371 rfl); have z3_ := congrArg Int32.toInt (rd_o k389 z372 rfl); have z_ := w_lits; have zl_ := l_lits; omega), (by have z0_ := congrArg Int32.toInt (rd_s k389); have z1_ := congrArg Int32.toInt (rd_o k389 z369 rfl); have z2_ := congrArg Int32.toInt (rd_o k389 z372 rfl); have z3_ := congrArg Int32.toInt (rd_o k389 z373 rfl); have z_ := w_lits; have zl_ := l_lits; omega), (by have z0_ := congrArg Int32.toInt (rd_s k389); have z1_ := congrArg Int32.toInt (rd_o k389 z369 rfl); have z2_ := congrArg Int32.toInt (rd_o k389 z373 rfl); have z3_ := congrArg Int32.toInt (rd_o k389 z374 rfl); have z_ := w_lits; have zl_ := l_lits; omega)⟩
          · have b384 : B w365 0 1199 := R_ltX b366 b271 (Int32.not_le.mp c382) (by decide)
            have b385 : B v271 1 1200 := R_ltY b366 b271 (Int32.not_le.mp c382) (by decide)
            have z386 := w_lt (Int32.not_le.mp c382)
            refine ev_aload_n rfl rfl rfl ?_
            refine ev_getR (y := 75) rfl rfl fl_X10_57 rfl rfl rfl rfl ?_
            refine ev_iload_n rfl rfl rfl ?_
            refine ev_iload_n rfl rfl rfl ?_
            refine ev_iaddB (l := 0) (u := 1259) rfl rfl bf4 b384 (by decide) (by decide) (by decide) (by decide) (fun v390 b390 e390 g390 => ?_)
            refine ev_aload_n rfl rfl rfl ?_
            refine ev_getR (y := 75) rfl rfl fl_X10_57 rfl rfl rfl rfl ?_
            refine ev_iload_n rfl rfl rfl ?_
            refine ev_iload_n rfl rfl rfl ?_
            refine ev_iaddV g390 rfl rfl ?_
            refine ev_iload_n rfl rfl rfl ?_
            refine ev_isubB (l := -60) (u := 1259) rfl rfl b390 b270 (by decide) (by decide) (by decide) (by decide) (fun v391 b391 e391 g391 => ?_)
            have b392 : B v391 0 63 := ⟨(by have z0_ := congrArg Int32.toInt z370; have z1_ := congrArg Int32.toInt z369; have z2_ := congrArg Int32.toInt z371; have z3_ := congrArg Int32.toInt z372; have z4_ := congrArg Int32.toInt z373; have z5_ := congrArg Int32.toInt z374; have z_ := w_lits; have zl_ := l_lits; omega), (by have z0_ := congrArg Int32.toInt z370; have z1_ := congrArg Int32.toInt z369; have z2_ := congrArg Int32.toInt z371; have z3_ := congrArg Int32.toInt z372; have z4_ := congrArg Int32.toInt z373; have z5_ := congrArg Int32.toInt z374; have z_ := w_lits; have zl_ := l_lits; omega)⟩
            refine ev_ialW (n := 64) (l := 0) (u := 4095) hJ368.1 b392 (by decide) (by decide) (fun _ => rfl) rfl rfl rfl (fun v393 b393 e393 => ?_)
            have b394 : B v390 0 63 := ⟨(by have z0_ := congrArg Int32.toInt z370; have z1_ := congrArg Int32.toInt z369; have z2_ := congrArg Int32.toInt z371; have z3_ := congrArg Int32.toInt z372; have z4_ := congrArg Int32.toInt z373; have z5_ := congrArg Int32.toInt z374; have z_ := w_lits; have zl_ := l_lits; omega), (by have z0_ := congrArg Int32.toInt z370; have z1_ := congrArg Int32.toInt z369; have z2_ := congrArg Int32.toInt z371; have z3_ := congrArg Int32.toInt z372; have z4_ := congrArg Int32.toInt z373; have z5_ := congrArg Int32.toInt z374; have z_ := w_lits; have zl_ := l_lits; omega)⟩
            refine ev_iasW (n := 64) (l := 0) (u := 4095) hJ368 b394 (by decide) (by decide) (fun _ => rfl) b393 (by decide) (by decide) (fun _ => rfl) rfl rfl rfl rfl (fun h395 hJ395 k395 => ?_)
            refine ev_iincB (y := 1) (l := 1) (u := 1200) rfl rfl rfl (by decide) rfl rfl b384 (by decide : B 1 1 1) (by decide) (by decide) (by decide) (by decide) (fun v396 b396 e396 => ?_)
            dsimp only [List.set]
            have e396x := e396; rw [show (1 : Int32).toInt = 1 from by decide] at e396x
            refine ev_goto rfl rfl ?_
            exact (ih55 v396 h395 (b396.mono (by decide) (by decide)) hJ395 (rd_a k395 z369 rfl) (rd_a k395 z370 rfl) (rd_a k395 z371 rfl) (rd_a k395 z372 rfl) (rd_a k395 z373 rfl) (rd_a k395 z374 rfl) (rd_a k395 z375 rfl) (by have z_ := w_lits; have zl_ := l_lits; omega) (L_up hm55 (e_p1 e396 (by decide))))
      exact (lp55_364 1201 v268 h7 (b270.mono (by decide) (by decide)) hJ7 (rd_s k7) (rd_o k7 ef1 rfl) (rd_o k7 ef2 rfl) (rd_o k7 ef3 rfl) (rd_o k7 ef4 rfl) (rd_o k7 ef5 rfl) e269 (by have z_ := w_lits; have zl_ := l_lits; omega) (L_init b270 (by decide)))
    · have b276 : B v272 25 1260 := R_ltY (by decide : B 24 24 24) b272 (Int32.not_le.mp c273) (by decide)
      have z277 := w_lt (Int32.not_le.mp c273)
      rw [show (24 : Int32).toInt = 24 from by decide] at z277
      refine ev_aload_n rfl rfl rfl ?_
      refine ev_iconst (v := 1) rfl rfl (by decide) ?_
      refine ev_puzW (l := (-2147483648)) (u := 2147483647) hJ7 rfl ((by decide : B 1 1 1).mono (by decide) (by decide)) (by decide) (by decide) rfl rfl rfl fl_X10_237 rfl rfl rfl rfl rfl (fun h397 hJ397 k397 => ?_)
      refine ev_goto rfl rfl ?_
      exact ev_vret rfl rfl trivial ⟨rfl, rfl, hJ397, (by have z0_ := congrArg Int32.toInt (rd_o k397 (rd_o k7 ef1 rfl) rfl); have z1_ := congrArg Int32.toInt (rd_o k397 (rd_s k7) rfl); have z2_ := congrArg Int32.toInt (rd_o k397 (rd_o k7 ef2 rfl) rfl); have z_ := w_lits; have zl_ := l_lits; omega), (by have z0_ := congrArg Int32.toInt (rd_o k397 (rd_o k7 ef1 rfl) rfl); have z1_ := congrArg Int32.toInt (rd_o k397 (rd_s k7) rfl); have z2_ := congrArg Int32.toInt (rd_o k397 (rd_o k7 ef2 rfl) rfl); have z3_ := congrArg Int32.toInt (rd_o k397 (rd_o k7 ef3 rfl) rfl); have z_ := w_lits; have zl_ := l_lits; omega), (by have z0_ := congrArg Int32.toInt (rd_o k397 (rd_o k7 ef1 rfl) rfl); have z1_ := congrArg Int32.toInt (rd_o k397 (rd_s k7) rfl); have z2_ := congrArg Int32.toInt (rd_o k397 (rd_o k7 ef3 rfl) rfl); have z3_ := congrArg Int32.toInt (rd_o k397 (rd_o k7 ef4 rfl) rfl); have z_ := w_lits; have zl_ := l_lits; omega), (by have z0_ := congrArg Int32.toInt (rd_o k397 (rd_o k7 ef1 rfl) rfl); have z1_ := congrArg Int32.toInt (rd_o k397 (rd_s k7) rfl); have z2_ := congrArg Int32.toInt (rd_o k397 (rd_o k7 ef4 rfl) rfl); have z3_ := congrArg Int32.toInt (rd_o k397 (rd_o k7 ef5 rfl) rfl); have z_ := w_lits; have zl_ := l_lits; omega)⟩
  · refine ev_iadV (j := 3) (v := f5) rfl rfl rfl (by unfold vp_in; decide) (by decide) (rd_o k7 ef5 rfl) ?_
    refine ev_istore_n rfl rfl rfl rfl ?_
    dsimp only [List.set]
    refine ev_aload_n rfl rfl rfl ?_
    refine ev_getV (v := f1) rfl rfl fl_X10_234 rfl rfl rfl (rd_o k7 ef1 rfl) ?_
    refine ev_iload_n rfl rfl rfl ?_
    refine ev_isubB (l := -60) (u := 60) rfl rfl bf1 bf5 (by decide) (by decide) (by decide) (by decide) (fun v398 b398 e398 g398 => ?_)
    refine ev_istore_n rfl rfl rfl rfl ?_
    dsimp only [List.set]
    refine ev_iload_n rfl rfl rfl ?_
    refine ev_aload_n rfl rfl rfl ?_
    refine ev_getR (y := 77) rfl rfl fl_X10_63 rfl rfl rfl rfl ?_
    refine ev_aload_n rfl rfl rfl ?_
    refine ev_getV (v := 3) rfl rfl fl_X10_241 rfl rfl rfl (rd_s k7) ?_
    refine ev_ialK (j := 3) (n := 5) (l := 0) (u := 20) hJ7.1 (by decide : B 3 3 3) (by decide) (by decide) (by decide) rfl rfl rfl rfl (fun v399 b399 e399 => ?_)
    have b400 : B v398 0 60 := ⟨(by have z0_ := congrArg Int32.toInt (rd_o k7 ef1 rfl); have z1_ := congrArg Int32.toInt (rd_s k7); have z2_ := congrArg Int32.toInt (rd_o k7 ef2 rfl); have z3_ := congrArg Int32.toInt (rd_o k7 ef3 rfl); have z4_ := congrArg Int32.toInt (rd_o k7 ef4 rfl); have z5_ := congrArg Int32.toInt (rd_o k7 ef5 rfl); have z_ := w_lits; have zl_ := l_lits; omega), (by have z0_ := congrArg Int32.toInt (rd_o k7 ef1 rfl); have z1_ := congrArg Int32.toInt (rd_s k7); have z2_ := congrArg Int32.toInt (rd_o k7 ef2 rfl); have z3_ := congrArg Int32.toInt (rd_o k7 ef3 rfl); have z4_ := congrArg Int32.toInt (rd_o k7 ef4 rfl); have z5_ := congrArg Int32.toInt (rd_o k7 ef5 rfl); have z_ := w_lits; have zl_ := l_lits; omega)⟩
    refine ev_imulB (l := 0) (u := 1200) rfl rfl b400 b399 (by decide) (by decide) (by decide) (by decide) (by decide) (fun v401 b401 e401 g401 => ?_)
    clear e401
    refine ev_iload_n rfl rfl rfl ?_
    refine ev_iaddB (l := 0) (u := 1260) rfl rfl b401 bf5 (by decide) (by decide) (by decide) (by decide) (fun v402 b402 e402 g402 => ?_)
    refine ev_bipush (v := 24) rfl rfl (by decide) ?_
    refine ev_icmp_le rfl rfl (fun c403 => ?_) (fun c403 => ?_)
    · have b404 : B v402 0 24 := R_leX b402 (by decide : B 24 24 24) c403 (by decide)
      have z405 := w_le c403
      rw [show (24 : Int32).toInt = 24 from by decide] at z405
      refine ev_iload_n rfl rfl rfl ?_
      refine ev_istore_n rfl rfl rfl rfl ?_
      dsimp only [List.set]
      have lp55_494 : ∀ (n : Nat) (w495 : Int32) (h497 : Hp), B w495 0 1200 → JW [(63, 27), (63, 28), (63, 31), (75, 999)] h h497 → (h497 63 31 = 3) → (h497 63 27 = f1) → (h497 76 0 = f2) → (h497 76 1 = f3) → (h497 76 2 = f4) → (h497 76 3 = f5) → (h497 77 3 = v399) → (v398.toInt ≤ w495.toInt) → 1200 + 1 - w495.toInt ≤ (n : Int) → EvQ mi_X10_closes 55 [some (.ref 63), some (.int f5), some (.int v398), some (.int w495)] [] (G0 L b) h497 0 0 (QK (fun z : Hp => ((0 < (z 63 31).toInt → (z 76 0).toInt ≤ (z 63 27).toInt)) ∧ ((1 < (z 63 31).toInt → (z 76 0).toInt ≤ (z 76 1).toInt ∧ (z 76 1).toInt ≤ (z 63 27).toInt)) ∧ ((2 < (z 63 31).toInt → (z 76 1).toInt ≤ (z 76 2).toInt ∧ (z 76 2).toInt ≤ (z 63 27).toInt)) ∧ ((3 < (z 63 31).toInt → (z 76 2).toInt ≤ (z 76 3).toInt ∧ (z 76 3).toInt ≤ (z 63 27).toInt))) [(63, 27), (63, 28), (63, 31), (75, 999)] (G0 L b) h) := by
        intro n
        induction n with
        | zero =>
          intro w495 h497 b496 hJ498 z499 z500 z501 z502 z503 z504 z505 y55_0 hm55
          exact absurd hm55 (L_zero b496 (by decide))
        | succ n ih55 =>
          intro w495 h497 b496 hJ498 z499 z500 z501 z502 z503 z504 z505 y55_0 hm55
          have z506 := congrArg Int32.toInt z500
          have z507 := congrArg Int32.toInt z499
          have z508 := congrArg Int32.toInt z501
          have z509 := congrArg Int32.toInt z502
          have z510 := congrArg Int32.toInt z503
          have z511 := congrArg Int32.toInt z504
          refine ev_iload_n rfl rfl rfl ?_
          refine ev_iload_n rfl rfl rfl ?_
          refine ev_aload_n rfl rfl rfl ?_
          refine ev_getR (y := 77) rfl rfl fl_X10_63 rfl rfl rfl rfl ?_
          refine ev_aload_n rfl rfl rfl ?_
          refine ev_getV (v := 3) rfl rfl fl_X10_241 rfl rfl rfl z499 ?_
          refine ev_iadV (j := 3) (v := v399) rfl rfl rfl (by unfold vp_in; decide) (by decide) z505 ?_
          refine ev_imulV g401 rfl rfl ?_
          refine ev_icmp_ge rfl rfl (fun c512 => ?_) (fun c512 => ?_)
          · have z513 := w_le c512
            refine ev_aload_n rfl rfl rfl ?_
            refine ev_iload_n rfl rfl rfl ?_
            refine ev_iload_n rfl rfl rfl ?_
            refine ev_aload_n rfl rfl rfl ?_
            refine ev_getR (y := 77) rfl rfl fl_X10_63 rfl rfl rfl rfl ?_
            refine ev_aload_n rfl rfl rfl ?_
            refine ev_getV (v := 3) rfl rfl fl_X10_241 rfl rfl rfl z499 ?_
            refine ev_iadV (j := 3) (v := v399) rfl rfl rfl (by unfold vp_in; decide) (by decide) z505 ?_
            refine ev_imulV g401 rfl rfl ?_
            refine ev_iaddB (l := 0) (u := 1260) rfl rfl bf5 b401 (by decide) (by decide) (by decide) (by decide) (fun v517 b517 e517 g517 => ?_)
            have b518 : B v517 0 60 := ⟨(by have z0_ := congrArg Int32.toInt z500; have z1_ := congrArg Int32.toInt z499; have z2_ := congrArg Int32.toInt z501; have z3_ := congrArg Int32.toInt z502; have z4_ := congrArg Int32.toInt z503; have z5_ := congrArg Int32.toInt z504; have z_ := w_lits; have zl_ := l_lits; omega), (by have z0_ := congrArg Int32.toInt z500; have z1_ := congrArg Int32.toInt z499; have z2_ := congrArg Int32.toInt z501; have z3_ := congrArg Int32.toInt z502; have z4_ := congrArg Int32.toInt z503; have z5_ := congrArg Int32.toInt z504; have z_ := w_lits; have zl_ := l_lits; omega)⟩
            refine ev_putW (l := 0) (u := 60) hJ498 rfl b518 (by decide) (by decide) rfl rfl rfl fl_X10_234 rfl rfl rfl rfl rfl (fun h519 hJ519 k519 => ?_)
            exact ev_vret rfl rfl trivial ⟨rfl, rfl, hJ519, (by have z0_ := congrArg Int32.toInt (rd_s k519); have z1_ := congrArg Int32.toInt (rd_o k519 z499 rfl); have z2_ := congrArg Int32.toInt (rd_o k519 z501 rfl); have z_ := w_lits; have zl_ := l_lits; omega), (by have z0_ := congrArg Int32.toInt (rd_s k519); have z1_ := congrArg Int32.toInt (rd_o k519 z499 rfl); have z2_ := congrArg Int32.toInt (rd_o k519 z501 rfl); have z3_ := congrArg Int32.toInt (rd_o k519 z502 rfl); have z_ := w_lits; have zl_ := l_lits; omega), (by have z0_ := congrArg Int32.toInt (rd_s k519); have z1_ := congrArg Int32.toInt (rd_o k519 z499 rfl); have z2_ := congrArg Int32.toInt (rd_o k519 z502 rfl); have z3_ := congrArg Int32.toInt (rd_o k519 z503 rfl); have z_ := w_lits; have zl_ := l_lits; omega), (by have z0_ := congrArg Int32.toInt (rd_s k519); have z1_ := congrArg Int32.toInt (rd_o k519 z499 rfl); have z2_ := congrArg Int32.toInt (rd_o k519 z503 rfl); have z3_ := congrArg Int32.toInt (rd_o k519 z504 rfl); have z_ := w_lits; have zl_ := l_lits; omega)⟩
          · have b514 : B w495 0 1199 := R_ltX b496 b401 (Int32.not_le.mp c512) (by decide)
            have b515 : B v401 1 1200 := R_ltY b496 b401 (Int32.not_le.mp c512) (by decide)
            have z516 := w_lt (Int32.not_le.mp c512)
            refine ev_aload_n rfl rfl rfl ?_
            refine ev_getR (y := 75) rfl rfl fl_X10_57 rfl rfl rfl rfl ?_
            refine ev_iload_n rfl rfl rfl ?_
            refine ev_iload_n rfl rfl rfl ?_
            refine ev_iaddB (l := 0) (u := 1259) rfl rfl bf5 b514 (by decide) (by decide) (by decide) (by decide) (fun v520 b520 e520 g520 => ?_)
            refine ev_aload_n rfl rfl rfl ?_
            refine ev_getR (y := 75) rfl rfl fl_X10_57 rfl rfl rfl rfl ?_
            refine ev_iload_n rfl rfl rfl ?_
            refine ev_iload_n rfl rfl rfl ?_
            refine ev_iaddV g520 rfl rfl ?_
            refine ev_iload_n rfl rfl rfl ?_
            refine ev_isubB (l := -60) (u := 1259) rfl rfl b520 b400 (by decide) (by decide) (by decide) (by decide) (fun v521 b521 e521 g521 => ?_)
            have b522 : B v521 0 63 := ⟨(by have z0_ := congrArg Int32.toInt z500; have z1_ := congrArg Int32.toInt z499; have z2_ := congrArg Int32.toInt z501; have z3_ := congrArg Int32.toInt z502; have z4_ := congrArg Int32.toInt z503; have z5_ := congrArg Int32.toInt z504; have z_ := w_lits; have zl_ := l_lits; omega), (by have z0_ := congrArg Int32.toInt z500; have z1_ := congrArg Int32.toInt z499; have z2_ := congrArg Int32.toInt z501; have z3_ := congrArg Int32.toInt z502; have z4_ := congrArg Int32.toInt z503; have z5_ := congrArg Int32.toInt z504; have z_ := w_lits; have zl_ := l_lits; omega)⟩
            refine ev_ialW (n := 64) (l := 0) (u := 4095) hJ498.1 b522 (by decide) (by decide) (fun _ => rfl) rfl rfl rfl (fun v523 b523 e523 => ?_)
            have b524 : B v520 0 63 := ⟨(by have z0_ := congrArg Int32.toInt z500; have z1_ := congrArg Int32.toInt z499; have z2_ := congrArg Int32.toInt z501; have z3_ := congrArg Int32.toInt z502; have z4_ := congrArg Int32.toInt z503; have z5_ := congrArg Int32.toInt z504; have z_ := w_lits; have zl_ := l_lits; omega), (by have z0_ := congrArg Int32.toInt z500; have z1_ := congrArg Int32.toInt z499; have z2_ := congrArg Int32.toInt z501; have z3_ := congrArg Int32.toInt z502; have z4_ := congrArg Int32.toInt z503; have z5_ := congrArg Int32.toInt z504; have z_ := w_lits; have zl_ := l_lits; omega)⟩
            refine ev_iasW (n := 64) (l := 0) (u := 4095) hJ498 b524 (by decide) (by decide) (fun _ => rfl) b523 (by decide) (by decide) (fun _ => rfl) rfl rfl rfl rfl (fun h525 hJ525 k525 => ?_)
            refine ev_iincB (y := 1) (l := 1) (u := 1200) rfl rfl rfl (by decide) rfl rfl b514 (by decide : B 1 1 1) (by decide) (by decide) (by decide) (by decide) (fun v526 b526 e526 => ?_)
            dsimp only [List.set]
            have e526x := e526; rw [show (1 : Int32).toInt = 1 from by decide] at e526x
            refine ev_goto rfl rfl ?_
            exact (ih55 v526 h525 (b526.mono (by decide) (by decide)) hJ525 (rd_a k525 z499 rfl) (rd_a k525 z500 rfl) (rd_a k525 z501 rfl) (rd_a k525 z502 rfl) (rd_a k525 z503 rfl) (rd_a k525 z504 rfl) (rd_a k525 z505 rfl) (by have z_ := w_lits; have zl_ := l_lits; omega) (L_up hm55 (e_p1 e526 (by decide))))
      exact (lp55_494 1201 v398 h7 (b400.mono (by decide) (by decide)) hJ7 (rd_s k7) (rd_o k7 ef1 rfl) (rd_o k7 ef2 rfl) (rd_o k7 ef3 rfl) (rd_o k7 ef4 rfl) (rd_o k7 ef5 rfl) e399 (by have z_ := w_lits; have zl_ := l_lits; omega) (L_init b400 (by decide)))
    · have b406 : B v402 25 1260 := R_ltY (by decide : B 24 24 24) b402 (Int32.not_le.mp c403) (by decide)
      have z407 := w_lt (Int32.not_le.mp c403)
      rw [show (24 : Int32).toInt = 24 from by decide] at z407
      refine ev_aload_n rfl rfl rfl ?_
      refine ev_iconst (v := 1) rfl rfl (by decide) ?_
      refine ev_puzW (l := (-2147483648)) (u := 2147483647) hJ7 rfl ((by decide : B 1 1 1).mono (by decide) (by decide)) (by decide) (by decide) rfl rfl rfl fl_X10_237 rfl rfl rfl rfl rfl (fun h527 hJ527 k527 => ?_)
      refine ev_goto rfl rfl ?_
      exact ev_vret rfl rfl trivial ⟨rfl, rfl, hJ527, (by have z0_ := congrArg Int32.toInt (rd_o k527 (rd_o k7 ef1 rfl) rfl); have z1_ := congrArg Int32.toInt (rd_o k527 (rd_s k7) rfl); have z2_ := congrArg Int32.toInt (rd_o k527 (rd_o k7 ef2 rfl) rfl); have z_ := w_lits; have zl_ := l_lits; omega), (by have z0_ := congrArg Int32.toInt (rd_o k527 (rd_o k7 ef1 rfl) rfl); have z1_ := congrArg Int32.toInt (rd_o k527 (rd_s k7) rfl); have z2_ := congrArg Int32.toInt (rd_o k527 (rd_o k7 ef2 rfl) rfl); have z3_ := congrArg Int32.toInt (rd_o k527 (rd_o k7 ef3 rfl) rfl); have z_ := w_lits; have zl_ := l_lits; omega), (by have z0_ := congrArg Int32.toInt (rd_o k527 (rd_o k7 ef1 rfl) rfl); have z1_ := congrArg Int32.toInt (rd_o k527 (rd_s k7) rfl); have z2_ := congrArg Int32.toInt (rd_o k527 (rd_o k7 ef3 rfl) rfl); have z3_ := congrArg Int32.toInt (rd_o k527 (rd_o k7 ef4 rfl) rfl); have z_ := w_lits; have zl_ := l_lits; omega), (by have z0_ := congrArg Int32.toInt (rd_o k527 (rd_o k7 ef1 rfl) rfl); have z1_ := congrArg Int32.toInt (rd_o k527 (rd_s k7) rfl); have z2_ := congrArg Int32.toInt (rd_o k527 (rd_o k7 ef4 rfl) rfl); have z3_ := congrArg Int32.toInt (rd_o k527 (rd_o k7 ef5 rfl) rfl); have z_ := w_lits; have zl_ := l_lits; omega)⟩

