set_option maxRecDepth 100000 in
set_option maxHeartbeats 4000000 in
theorem w_X2_isLetter_23 (L : Nat) (b : Bool) (h : Hp) (hB : Bx h) (a0 : Int32) (p0 : B a0 0 160) (t : Int32) (rt : h 24 a0.toNatClampNeg = t) : EvP mi_X2_isLetter [.ref 23, .int a0] (G0 L b) h (fun r : Int32 => B r 0 1 ∧ (¬ r = 0 → B a0 0 159) ∧ (¬ r = 0 → B t 97 122) ∧ (r.toInt = 0 → ¬ (a0.toInt < (h 23 1).toInt ∧ 97 ≤ t.toInt ∧ t.toInt ≤ 122)) ∧ (¬ r.toInt = 0 → a0.toInt < (h 23 1).toInt)) := by
  refine EvM.of2 (lo := [some (.ref 23), some (.int a0)]) pf_X2_isLetter ok_X2_isLetter rfl rfl ?_
  obtain ⟨f1, ef1⟩ : ∃ f_, h 23 1 = f_ := ⟨_, rfl⟩
  have bf1 : B f1 0 160 := by have z_ := hB 23 1; rw [ef1] at z_; exact z_
  have zf1 := congrArg Int32.toInt ef1
  refine ev_iload_n rfl rfl rfl ?_
  refine ev_aload_n rfl rfl rfl ?_
  refine ev_getV (v := f1) rfl rfl fl_X2_15 rfl rfl rfl ef1 ?_
  refine ev_icmp_ge rfl rfl (fun c2 => ?_) (fun c2 => ?_)
  · have z3 := w_le c2
    refine ev_iconst (v := 0) rfl rfl (by decide) ?_
    exact ev_iret rfl rfl rfl ⟨⟨_, rfl, ⟨((by decide : B 0 0 0).mono (by decide) (by decide)), (fun e_ => absurd rfl e_), (fun e_ => absurd rfl e_), (by have z0_ := congrArg Int32.toInt ef1; have z_ := w_lits; have zl_ := l_lits; omega), (by have z0_ := congrArg Int32.toInt ef1; have z_ := w_lits; have zl_ := l_lits; omega)⟩⟩, rfl, rfl⟩
  · have b4 : B a0 0 159 := R_ltX p0 bf1 (Int32.not_le.mp c2) (by decide)
    have b5 : B f1 1 160 := R_ltY p0 bf1 (Int32.not_le.mp c2) (by decide)
    have z6 := w_lt (Int32.not_le.mp c2)
    refine ev_aload_n rfl rfl rfl ?_
    refine ev_getR (y := 24) rfl rfl fl_X2_11 rfl rfl rfl rfl ?_
    refine ev_iload_n rfl rfl rfl ?_
    refine ev_badV (v := t) rfl rfl rfl (b4.vp (by decide) (by decide)) rfl rt ?_
    refine ev_bipush (v := 97) rfl rfl (by decide) ?_
    refine ev_icmp_lt rfl rfl (fun c7 => ?_) (fun c7 => ?_)
    · have b8 : B t (-2147483648) 96 := R_ltX (B.any t) (by decide : B 97 97 97) c7 (by decide)
      have z9 := w_lt c7
      rw [show (97 : Int32).toInt = 97 from by decide] at z9
      refine ev_iconst (v := 0) rfl rfl (by decide) ?_
      exact ev_iret rfl rfl rfl ⟨⟨_, rfl, ⟨((by decide : B 0 0 0).mono (by decide) (by decide)), (fun e_ => absurd rfl e_), (fun e_ => absurd rfl e_), (by have z0_ := congrArg Int32.toInt ef1; have z_ := w_lits; have zl_ := l_lits; omega), (by have z0_ := congrArg Int32.toInt ef1; have z_ := w_lits; have zl_ := l_lits; omega)⟩⟩, rfl, rfl⟩
    · have b10 : B t 97 2147483647 := R_leY (by decide : B 97 97 97) (B.any t) (Int32.not_lt.mp c7) (by decide)
      have z11 := w_le (Int32.not_lt.mp c7)
      rw [show (97 : Int32).toInt = 97 from by decide] at z11
      refine ev_aload_n rfl rfl rfl ?_
      refine ev_getR (y := 24) rfl rfl fl_X2_11 rfl rfl rfl rfl ?_
      refine ev_iload_n rfl rfl rfl ?_
      refine ev_badV (v := t) rfl rfl rfl (b4.vp (by decide) (by decide)) rfl rt ?_
      refine ev_bipush (v := 122) rfl rfl (by decide) ?_
      refine ev_icmp_gt rfl rfl (fun c12 => ?_) (fun c12 => ?_)
      · have b13 : B t 123 2147483647 := R_ltY (by decide : B 122 122 122) b10 c12 (by decide)
        have z14 := w_lt c12
        rw [show (122 : Int32).toInt = 122 from by decide] at z14
        refine ev_iconst (v := 0) rfl rfl (by decide) ?_
        exact ev_iret rfl rfl rfl ⟨⟨_, rfl, ⟨((by decide : B 0 0 0).mono (by decide) (by decide)), (fun e_ => absurd rfl e_), (fun e_ => absurd rfl e_), (by have z0_ := congrArg Int32.toInt ef1; have z_ := w_lits; have zl_ := l_lits; omega), (by have z0_ := congrArg Int32.toInt ef1; have z_ := w_lits; have zl_ := l_lits; omega)⟩⟩, rfl, rfl⟩
      · have b15 : B t 97 122 := R_leX b10 (by decide : B 122 122 122) (Int32.not_lt.mp c12) (by decide)
        have z16 := w_le (Int32.not_lt.mp c12)
        rw [show (122 : Int32).toInt = 122 from by decide] at z16
        refine ev_iconst (v := 1) rfl rfl (by decide) ?_
        refine ev_goto rfl rfl ?_
        exact ev_iret rfl rfl rfl ⟨⟨_, rfl, ⟨((by decide : B 1 1 1).mono (by decide) (by decide)), (fun _ => b4), (fun _ => b15), (by have z0_ := congrArg Int32.toInt ef1; have z_ := w_lits; have zl_ := l_lits; omega), (by have z0_ := congrArg Int32.toInt ef1; have z_ := w_lits; have zl_ := l_lits; omega)⟩⟩, rfl, rfl⟩

set_option maxRecDepth 100000 in
set_option maxHeartbeats 4000000 in
theorem w_X2_isFigure_23 (L : Nat) (b : Bool) (h : Hp) (hB : Bx h) (a0 : Int32) (p0 : B a0 0 160) (t : Int32) (rt : h 24 a0.toNatClampNeg = t) : EvP mi_X2_isFigure [.ref 23, .int a0] (G0 L b) h (fun r : Int32 => B r 0 1 ∧ (¬ r = 0 → B a0 0 159) ∧ (¬ r = 0 → B t 48 57) ∧ (r.toInt = 0 → ¬ (a0.toInt < (h 23 1).toInt ∧ 48 ≤ t.toInt ∧ t.toInt ≤ 57)) ∧ (¬ r.toInt = 0 → a0.toInt < (h 23 1).toInt)) := by
  refine EvM.of2 (lo := [some (.ref 23), some (.int a0)]) pf_X2_isFigure ok_X2_isFigure rfl rfl ?_
  obtain ⟨f1, ef1⟩ : ∃ f_, h 23 1 = f_ := ⟨_, rfl⟩
  have bf1 : B f1 0 160 := by have z_ := hB 23 1; rw [ef1] at z_; exact z_
  have zf1 := congrArg Int32.toInt ef1
  refine ev_iload_n rfl rfl rfl ?_
  refine ev_aload_n rfl rfl rfl ?_
  refine ev_getV (v := f1) rfl rfl fl_X2_15 rfl rfl rfl ef1 ?_
  refine ev_icmp_ge rfl rfl (fun c2 => ?_) (fun c2 => ?_)
  · have z3 := w_le c2
    refine ev_iconst (v := 0) rfl rfl (by decide) ?_
    exact ev_iret rfl rfl rfl ⟨⟨_, rfl, ⟨((by decide : B 0 0 0).mono (by decide) (by decide)), (fun e_ => absurd rfl e_), (fun e_ => absurd rfl e_), (by have z0_ := congrArg Int32.toInt ef1; have z_ := w_lits; have zl_ := l_lits; omega), (by have z0_ := congrArg Int32.toInt ef1; have z_ := w_lits; have zl_ := l_lits; omega)⟩⟩, rfl, rfl⟩
  · have b4 : B a0 0 159 := R_ltX p0 bf1 (Int32.not_le.mp c2) (by decide)
    have b5 : B f1 1 160 := R_ltY p0 bf1 (Int32.not_le.mp c2) (by decide)
    have z6 := w_lt (Int32.not_le.mp c2)
    refine ev_aload_n rfl rfl rfl ?_
    refine ev_getR (y := 24) rfl rfl fl_X2_11 rfl rfl rfl rfl ?_
    refine ev_iload_n rfl rfl rfl ?_
    refine ev_badV (v := t) rfl rfl rfl (b4.vp (by decide) (by decide)) rfl rt ?_
    refine ev_bipush (v := 48) rfl rfl (by decide) ?_
    refine ev_icmp_lt rfl rfl (fun c7 => ?_) (fun c7 => ?_)
    · have b8 : B t (-2147483648) 47 := R_ltX (B.any t) (by decide : B 48 48 48) c7 (by decide)
      have z9 := w_lt c7
      rw [show (48 : Int32).toInt = 48 from by decide] at z9
      refine ev_iconst (v := 0) rfl rfl (by decide) ?_
      exact ev_iret rfl rfl rfl ⟨⟨_, rfl, ⟨((by decide : B 0 0 0).mono (by decide) (by decide)), (fun e_ => absurd rfl e_), (fun e_ => absurd rfl e_), (by have z0_ := congrArg Int32.toInt ef1; have z_ := w_lits; have zl_ := l_lits; omega), (by have z0_ := congrArg Int32.toInt ef1; have z_ := w_lits; have zl_ := l_lits; omega)⟩⟩, rfl, rfl⟩
    · have b10 : B t 48 2147483647 := R_leY (by decide : B 48 48 48) (B.any t) (Int32.not_lt.mp c7) (by decide)
      have z11 := w_le (Int32.not_lt.mp c7)
      rw [show (48 : Int32).toInt = 48 from by decide] at z11
      refine ev_aload_n rfl rfl rfl ?_
      refine ev_getR (y := 24) rfl rfl fl_X2_11 rfl rfl rfl rfl ?_
      refine ev_iload_n rfl rfl rfl ?_
      refine ev_badV (v := t) rfl rfl rfl (b4.vp (by decide) (by decide)) rfl rt ?_
      refine ev_bipush (v := 57) rfl rfl (by decide) ?_
      refine ev_icmp_gt rfl rfl (fun c12 => ?_) (fun c12 => ?_)
      · have b13 : B t 58 2147483647 := R_ltY (by decide : B 57 57 57) b10 c12 (by decide)
        have z14 := w_lt c12
        rw [show (57 : Int32).toInt = 57 from by decide] at z14
        refine ev_iconst (v := 0) rfl rfl (by decide) ?_
        exact ev_iret rfl rfl rfl ⟨⟨_, rfl, ⟨((by decide : B 0 0 0).mono (by decide) (by decide)), (fun e_ => absurd rfl e_), (fun e_ => absurd rfl e_), (by have z0_ := congrArg Int32.toInt ef1; have z_ := w_lits; have zl_ := l_lits; omega), (by have z0_ := congrArg Int32.toInt ef1; have z_ := w_lits; have zl_ := l_lits; omega)⟩⟩, rfl, rfl⟩
      · have b15 : B t 48 57 := R_leX b10 (by decide : B 57 57 57) (Int32.not_lt.mp c12) (by decide)
        have z16 := w_le (Int32.not_lt.mp c12)
        rw [show (57 : Int32).toInt = 57 from by decide] at z16
        refine ev_iconst (v := 1) rfl rfl (by decide) ?_
        refine ev_goto rfl rfl ?_
        exact ev_iret rfl rfl rfl ⟨⟨_, rfl, ⟨((by decide : B 1 1 1).mono (by decide) (by decide)), (fun _ => b4), (fun _ => b15), (by have z0_ := congrArg Int32.toInt ef1; have z_ := w_lits; have zl_ := l_lits; omega), (by have z0_ := congrArg Int32.toInt ef1; have z_ := w_lits; have zl_ := l_lits; omega)⟩⟩, rfl, rfl⟩

set_option maxRecDepth 100000 in
set_option maxHeartbeats 4000000 in
theorem w_X2_fail_23 (L : Nat) (b : Bool) (h : Hp) (hB : Bx h) (a0 : Int32) (a1 : Int32) : EvK mi_X2_fail [.ref 23, .int a0, .int a1] (G0 L b) h (fun z : Hp => ((z 23 7).toInt = a0.toInt)) [(23, 7), (23, 8)] := by
  refine EvM.of2 (lo := [some (.ref 23), some (.int a0), some (.int a1)]) pf_X2_fail ok_X2_fail rfl rfl ?_
  have hJ0 : JW [(23, 7), (23, 8)] h h := JW.refl hB
  obtain ⟨f1, ef1⟩ : ∃ f_, h 23 7 = f_ := ⟨_, rfl⟩
  have zf1 := congrArg Int32.toInt ef1
  refine ev_aload_n rfl rfl rfl ?_
  refine ev_iload_n rfl rfl rfl ?_
  refine ev_putW (l := (-2147483648)) (u := 2147483647) hJ0 rfl (B.any a0) (by decide) (by decide) rfl rfl rfl fl_X2_34 rfl rfl rfl rfl rfl (fun h2 hJ2 k2 => ?_)
  refine ev_aload_n rfl rfl rfl ?_
  refine ev_iload_n rfl rfl rfl ?_
  refine ev_putW (l := (-2147483648)) (u := 2147483647) hJ2 rfl (B.any a1) (by decide) (by decide) rfl rfl rfl fl_X2_37 rfl rfl rfl rfl rfl (fun h3 hJ3 k3 => ?_)
  exact ev_vret rfl rfl trivial ⟨rfl, rfl, hJ3, (by have z0_ := congrArg Int32.toInt (rd_o k3 (rd_s k2) rfl); have z_ := w_lits; have zl_ := l_lits; omega)⟩

set_option maxRecDepth 100000 in
set_option maxHeartbeats 4000000 in
theorem w_X2_readSign_23 (L : Nat) (b : Bool) (h : Hp) (hB : Bx h) (rp0 : (h 23 2).toInt < (h 23 1).toInt) : EvK mi_X2_readSign [.ref 23] (G0 L b) h (fun z : Hp => ((z 23 2).toInt = (h 23 2).toInt + 1) ∧ (¬ (z 23 3).toInt = 0 ∨ ¬ (z 23 7).toInt = 0)) [(23, 2), (23, 3), (23, 7), (23, 8)] := by
  refine EvM.of2 (lo := [some (.ref 23)]) pf_X2_readSign ok_X2_readSign rfl rfl ?_
  have hJ0 : JW [(23, 2), (23, 3), (23, 7), (23, 8)] h h := JW.refl hB
  obtain ⟨f1, ef1⟩ : ∃ f_, h 23 1 = f_ := ⟨_, rfl⟩
  have bf1 : B f1 0 160 := by have z_ := hJ0.1 23 1; rw [ef1] at z_; exact z_
  have zf1 := congrArg Int32.toInt ef1
  obtain ⟨f2, ef2⟩ : ∃ f_, h 23 2 = f_ := ⟨_, rfl⟩
  have bf2 : B f2 0 160 := by have z_ := hJ0.1 23 2; rw [ef2] at z_; exact z_
  have zf2 := congrArg Int32.toInt ef2
  obtain ⟨f3, ef3⟩ : ∃ f_, h 23 3 = f_ := ⟨_, rfl⟩
  have zf3 := congrArg Int32.toInt ef3
  obtain ⟨f4, ef4⟩ : ∃ f_, h 23 7 = f_ := ⟨_, rfl⟩
  have zf4 := congrArg Int32.toInt ef4
  refine ev_aload_n rfl rfl rfl ?_
  refine ev_getR (y := 24) rfl rfl fl_X2_11 rfl rfl rfl rfl ?_
  refine ev_aload_n rfl rfl rfl ?_
  refine ev_getV (v := f2) rfl rfl fl_X2_19 rfl rfl rfl ef2 ?_
  have b5 : B f2 0 159 := ⟨(by have z0_ := congrArg Int32.toInt ef1; have z1_ := congrArg Int32.toInt ef2; have z2_ := congrArg Int32.toInt ef3; have z3_ := congrArg Int32.toInt ef4; have z_ := w_lits; have zl_ := l_lits; omega), (by have z0_ := congrArg Int32.toInt ef1; have z1_ := congrArg Int32.toInt ef2; have z2_ := congrArg Int32.toInt ef3; have z3_ := congrArg Int32.toInt ef4; have z_ := w_lits; have zl_ := l_lits; omega)⟩
  refine ev_balW (n := 160) (l := (-2147483648)) (u := 2147483647) hJ0.1 b5 (by decide) (by decide) (fun _ => rfl) rfl rfl rfl (fun v6 b6 e6 => ?_)
  by_cases c7 : v6 = 40
  · subst c7
    refine ev_lookup 52 rfl (by decide) rfl (by decide) ?_
    refine ev_aload_n rfl rfl rfl ?_
    refine ev_iconst (v := 4) rfl rfl (by decide) ?_
    refine ev_putW (l := (-2147483648)) (u := 2147483647) hJ0 rfl (by decide : B 4 4 4) (by decide) (by decide) rfl rfl rfl fl_X2_22 rfl rfl rfl rfl rfl (fun h8 hJ8 k8 => ?_)
    refine ev_goto rfl rfl ?_
    refine ev_aload_n rfl rfl rfl ?_
    refine ev_dup rfl rfl rfl ?_
    refine ev_getV (v := f2) rfl rfl fl_X2_19 rfl rfl rfl (rd_o k8 ef2 rfl) ?_
    refine ev_iconst (v := 1) rfl rfl (by decide) ?_
    refine ev_iaddB (l := 1) (u := 160) rfl rfl b5 (by decide : B 1 1 1) (by decide) (by decide) (by decide) (by decide) (fun v9 b9 e9 g9 => ?_)
    have e9x := e9; rw [show (1 : Int32).toInt = 1 from by decide] at e9x
    have b10 : B v9 0 160 := ⟨(by have z0_ := congrArg Int32.toInt (rd_o k8 ef1 rfl); have z1_ := congrArg Int32.toInt (rd_o k8 ef2 rfl); have z2_ := congrArg Int32.toInt (rd_s k8); have z3_ := congrArg Int32.toInt (rd_o k8 ef4 rfl); have z_ := w_lits; have zl_ := l_lits; omega), (by have z0_ := congrArg Int32.toInt (rd_o k8 ef1 rfl); have z1_ := congrArg Int32.toInt (rd_o k8 ef2 rfl); have z2_ := congrArg Int32.toInt (rd_s k8); have z3_ := congrArg Int32.toInt (rd_o k8 ef4 rfl); have z_ := w_lits; have zl_ := l_lits; omega)⟩
    refine ev_putW (l := 0) (u := 160) hJ8 rfl b10 (by decide) (by decide) rfl rfl rfl fl_X2_19 rfl rfl rfl rfl rfl (fun h11 hJ11 k11 => ?_)
    exact ev_vret rfl rfl trivial ⟨rfl, rfl, hJ11, (by have z0_ := congrArg Int32.toInt (rd_s k11); have z_ := w_lits; have zl_ := l_lits; omega), (by have z0_ := congrArg Int32.toInt (rd_o k11 (rd_s k8) rfl); have z1_ := congrArg Int32.toInt (rd_o k11 (rd_o k8 ef4 rfl) rfl); have z_ := w_lits; have zl_ := l_lits; omega)⟩
  by_cases c12 : v6 = 41
  · subst c12
    refine ev_lookup 60 rfl (by decide) rfl (by decide) ?_
    refine ev_aload_n rfl rfl rfl ?_
    refine ev_iconst (v := 5) rfl rfl (by decide) ?_
    refine ev_putW (l := (-2147483648)) (u := 2147483647) hJ0 rfl (by decide : B 5 5 5) (by decide) (by decide) rfl rfl rfl fl_X2_22 rfl rfl rfl rfl rfl (fun h13 hJ13 k13 => ?_)
    refine ev_goto rfl rfl ?_
    refine ev_aload_n rfl rfl rfl ?_
    refine ev_dup rfl rfl rfl ?_
    refine ev_getV (v := f2) rfl rfl fl_X2_19 rfl rfl rfl (rd_o k13 ef2 rfl) ?_
    refine ev_iconst (v := 1) rfl rfl (by decide) ?_
    refine ev_iaddB (l := 1) (u := 160) rfl rfl b5 (by decide : B 1 1 1) (by decide) (by decide) (by decide) (by decide) (fun v14 b14 e14 g14 => ?_)
    have e14x := e14; rw [show (1 : Int32).toInt = 1 from by decide] at e14x
    have b15 : B v14 0 160 := ⟨(by have z0_ := congrArg Int32.toInt (rd_o k13 ef1 rfl); have z1_ := congrArg Int32.toInt (rd_o k13 ef2 rfl); have z2_ := congrArg Int32.toInt (rd_s k13); have z3_ := congrArg Int32.toInt (rd_o k13 ef4 rfl); have z_ := w_lits; have zl_ := l_lits; omega), (by have z0_ := congrArg Int32.toInt (rd_o k13 ef1 rfl); have z1_ := congrArg Int32.toInt (rd_o k13 ef2 rfl); have z2_ := congrArg Int32.toInt (rd_s k13); have z3_ := congrArg Int32.toInt (rd_o k13 ef4 rfl); have z_ := w_lits; have zl_ := l_lits; omega)⟩
    refine ev_putW (l := 0) (u := 160) hJ13 rfl b15 (by decide) (by decide) rfl rfl rfl fl_X2_19 rfl rfl rfl rfl rfl (fun h16 hJ16 k16 => ?_)
    exact ev_vret rfl rfl trivial ⟨rfl, rfl, hJ16, (by have z0_ := congrArg Int32.toInt (rd_s k16); have z_ := w_lits; have zl_ := l_lits; omega), (by have z0_ := congrArg Int32.toInt (rd_o k16 (rd_s k13) rfl); have z1_ := congrArg Int32.toInt (rd_o k16 (rd_o k13 ef4 rfl) rfl); have z_ := w_lits; have zl_ := l_lits; omega)⟩
  by_cases c17 : v6 = 46
  · subst c17
    refine ev_lookup 44 rfl (by decide) rfl (by decide) ?_
    refine ev_aload_n rfl rfl rfl ?_
    refine ev_iconst (v := 3) rfl rfl (by decide) ?_
    refine ev_putW (l := (-2147483648)) (u := 2147483647) hJ0 rfl (by decide : B 3 3 3) (by decide) (by decide) rfl rfl rfl fl_X2_22 rfl rfl rfl rfl rfl (fun h18 hJ18 k18 => ?_)
    refine ev_goto rfl rfl ?_
    refine ev_aload_n rfl rfl rfl ?_
    refine ev_dup rfl rfl rfl ?_
    refine ev_getV (v := f2) rfl rfl fl_X2_19 rfl rfl rfl (rd_o k18 ef2 rfl) ?_
    refine ev_iconst (v := 1) rfl rfl (by decide) ?_
    refine ev_iaddB (l := 1) (u := 160) rfl rfl b5 (by decide : B 1 1 1) (by decide) (by decide) (by decide) (by decide) (fun v19 b19 e19 g19 => ?_)
    have e19x := e19; rw [show (1 : Int32).toInt = 1 from by decide] at e19x
    have b20 : B v19 0 160 := ⟨(by have z0_ := congrArg Int32.toInt (rd_o k18 ef1 rfl); have z1_ := congrArg Int32.toInt (rd_o k18 ef2 rfl); have z2_ := congrArg Int32.toInt (rd_s k18); have z3_ := congrArg Int32.toInt (rd_o k18 ef4 rfl); have z_ := w_lits; have zl_ := l_lits; omega), (by have z0_ := congrArg Int32.toInt (rd_o k18 ef1 rfl); have z1_ := congrArg Int32.toInt (rd_o k18 ef2 rfl); have z2_ := congrArg Int32.toInt (rd_s k18); have z3_ := congrArg Int32.toInt (rd_o k18 ef4 rfl); have z_ := w_lits; have zl_ := l_lits; omega)⟩
    refine ev_putW (l := 0) (u := 160) hJ18 rfl b20 (by decide) (by decide) rfl rfl rfl fl_X2_19 rfl rfl rfl rfl rfl (fun h21 hJ21 k21 => ?_)
    exact ev_vret rfl rfl trivial ⟨rfl, rfl, hJ21, (by have z0_ := congrArg Int32.toInt (rd_s k21); have z_ := w_lits; have zl_ := l_lits; omega), (by have z0_ := congrArg Int32.toInt (rd_o k21 (rd_s k18) rfl); have z1_ := congrArg Int32.toInt (rd_o k21 (rd_o k18 ef4 rfl) rfl); have z_ := w_lits; have zl_ := l_lits; omega)⟩
  refine ev_lookup 68 rfl (by decide) (lk_no3 c7 c12 c17) (by decide) ?_
  refine ev_aload_n rfl rfl rfl ?_
  refine ev_iconst (v := 1) rfl rfl (by decide) ?_
  refine ev_aload_n rfl rfl rfl ?_
  refine ev_getV (v := f2) rfl rfl fl_X2_19 rfl rfl rfl ef2 ?_
  refine ev_V2K hJ0 rfl rfl rfl lk_X2_79 vt_X2_fail rfl rfl rfl rfl rfl (w_X2_fail_23 L b h hJ0.1 1 f2) (fun h22 hJ22 k22 m22 => ?_)
  obtain ⟨f23, ef23⟩ : ∃ f_, h22 23 7 = f_ := ⟨_, rfl⟩
  have zf23 := congrArg Int32.toInt ef23
  refine ev_aload_n rfl rfl rfl ?_
  refine ev_dup rfl rfl rfl ?_
  refine ev_getV (v := f2) rfl rfl fl_X2_19 rfl rfl rfl (rd_w k22 ef2 rfl) ?_
  refine ev_iconst (v := 1) rfl rfl (by decide) ?_
  refine ev_iaddB (l := 1) (u := 160) rfl rfl b5 (by decide : B 1 1 1) (by decide) (by decide) (by decide) (by decide) (fun v24 b24 e24 g24 => ?_)
  have e24x := e24; rw [show (1 : Int32).toInt = 1 from by decide] at e24x
  have b25 : B v24 0 160 := ⟨(by have z0_ := congrArg Int32.toInt (rd_w k22 ef1 rfl); have z1_ := congrArg Int32.toInt (rd_w k22 ef2 rfl); have z2_ := congrArg Int32.toInt (rd_w k22 ef3 rfl); have z3_ := congrArg Int32.toInt ef23; have z_ := w_lits; have zl_ := l_lits; omega), (by have z0_ := congrArg Int32.toInt (rd_w k22 ef1 rfl); have z1_ := congrArg Int32.toInt (rd_w k22 ef2 rfl); have z2_ := congrArg Int32.toInt (rd_w k22 ef3 rfl); have z3_ := congrArg Int32.toInt ef23; have z_ := w_lits; have zl_ := l_lits; omega)⟩
  refine ev_putW (l := 0) (u := 160) hJ22 rfl b25 (by decide) (by decide) rfl rfl rfl fl_X2_19 rfl rfl rfl rfl rfl (fun h26 hJ26 k26 => ?_)
  exact ev_vret rfl rfl trivial ⟨rfl, rfl, hJ26, (by have z0_ := congrArg Int32.toInt (rd_s k26); have z_ := w_lits; have zl_ := l_lits; omega), (by have z0_ := congrArg Int32.toInt (rd_o k26 (rd_w k22 ef3 rfl) rfl); have z1_ := congrArg Int32.toInt (rd_o k26 ef23 rfl); have z_ := w_lits; have zl_ := l_lits; omega)⟩

set_option maxRecDepth 100000 in
set_option maxHeartbeats 4000000 in
theorem w_X2_readNumber_23 (L : Nat) (b : Bool) (h : Hp) (hB : Bx h) (t : Int32) (rt : h 24 (h 23 2).toNatClampNeg = t) (rb : B t 48 57) (rp0 : (h 23 2).toInt < (h 23 1).toInt) : EvK mi_X2_readNumber [.ref 23] (G0 L b) h (fun z : Hp => ((z 23 2).toInt ≤ (z 23 1).toInt) ∧ ((¬ (z 23 7).toInt = 0) ∨ (h 23 2).toInt + 1 ≤ (z 23 2).toInt)) [(23, 2), (23, 3), (23, 5), (23, 7), (23, 8)] := by
  refine EvM.of2 (lo := [some (.ref 23), none]) pf_X2_readNumber ok_X2_readNumber rfl rfl ?_
  have hJ0 : JW [(23, 2), (23, 3), (23, 5), (23, 7), (23, 8)] h h := JW.refl hB
  obtain ⟨f1, ef1⟩ : ∃ f_, h 23 1 = f_ := ⟨_, rfl⟩
  have bf1 : B f1 0 160 := by have z_ := hJ0.1 23 1; rw [ef1] at z_; exact z_
  have zf1 := congrArg Int32.toInt ef1
  obtain ⟨f2, ef2⟩ : ∃ f_, h 23 2 = f_ := ⟨_, rfl⟩
  have bf2 : B f2 0 160 := by have z_ := hJ0.1 23 2; rw [ef2] at z_; exact z_
  have zf2 := congrArg Int32.toInt ef2
  obtain ⟨f3, ef3⟩ : ∃ f_, h 23 7 = f_ := ⟨_, rfl⟩
  have zf3 := congrArg Int32.toInt ef3
  rw [ef2] at rt
  refine ev_aload_n rfl rfl rfl ?_
  refine ev_iconst (v := 2) rfl rfl (by decide) ?_
  refine ev_putW (l := (-2147483648)) (u := 2147483647) hJ0 rfl (by decide : B 2 2 2) (by decide) (by decide) rfl rfl rfl fl_X2_22 rfl rfl rfl rfl rfl (fun h4 hJ4 k4 => ?_)
  refine ev_aload_n rfl rfl rfl ?_
  refine ev_iconst (v := 0) rfl rfl (by decide) ?_
  refine ev_putW (l := 0) (u := 4095) hJ4 rfl (by decide : B 0 0 0) (by decide) (by decide) rfl rfl rfl fl_X2_28 rfl rfl rfl rfl rfl (fun h5 hJ5 k5 => ?_)
  refine ev_iconst (v := 0) rfl rfl (by decide) ?_
  refine ev_istore_n rfl rfl rfl rfl ?_
  dsimp only [List.set]
  refine ev_iload_n rfl rfl rfl ?_
  refine ev_iconst (v := 2) rfl rfl (by decide) ?_
  refine ev_icmp_ge rfl rfl (fun c6 => absurd c6 (D_nle (by decide : B 2 2 2) (by decide : B 0 0 0) (by decide))) (fun c6 => ?_)
  have z7 := w_lt (Int32.not_le.mp c6)
  rw [show (0 : Int32).toInt = 0 from by decide] at z7
  rw [show (2 : Int32).toInt = 2 from by decide] at z7
  refine ev_aload_n rfl rfl rfl ?_
  refine ev_aload_n rfl rfl rfl ?_
  refine ev_getV (v := f2) rfl rfl fl_X2_19 rfl rfl rfl (rd_o k5 (rd_o k4 ef2 rfl) rfl) ?_
  have z8 := congrArg Int32.toInt (rd_o k5 (rd_o k4 ef1 rfl) rfl)
  refine ev_V1P rfl rfl lk_X2_70 vt_X2_isFigure rfl rfl rfl rfl rfl (w_X2_isFigure_23 L b h5 hJ5.1 f2 bf2 t (rd_o k5 (rd_o k4 rt rfl) rfl)) (fun r9 q9 => ?_)
  obtain ⟨b9, p9_0, p9_1, pp9_0, pp9_1⟩ := q9
  refine ev_if_eq rfl rfl (fun c10 => False.elim (by have z0_ := congrArg Int32.toInt (rd_o k5 (rd_o k4 ef1 rfl) rfl); have z1_ := congrArg Int32.toInt (rd_o k5 (rd_o k4 ef2 rfl) rfl); have z2_ := congrArg Int32.toInt (rd_o k5 (rd_o k4 ef3 rfl) rfl); have z3_ := congrArg Int32.toInt c10; have z_ := w_lits; have zl_ := l_lits; omega)) (fun c10 => ?_)
  have b13 : B r9 1 1 := R_neL b9 (by decide : B 0 0 0) c10 (by decide)
  have b14 : B f2 0 159 := p9_0 c10
  have z15 := w_ne c10
  rw [show (0 : Int32).toInt = 0 from by decide] at z15
  refine ev_aload_n rfl rfl rfl ?_
  refine ev_aload_n rfl rfl rfl ?_
  refine ev_getV (v := 0) rfl rfl fl_X2_28 rfl rfl rfl (rd_s k5) ?_
  refine ev_bipush (v := 10) rfl rfl (by decide) ?_
  refine ev_imulB (l := 0) (u := 0) rfl rfl (by decide : B 0 0 0) (by decide : B 10 10 10) (by decide) (by decide) (by decide) (by decide) (by decide) (fun v16 b16 e16 g16 => ?_)
  rw [show (10 : Int32).toInt = 10 from by decide] at e16
  refine ev_aload_n rfl rfl rfl ?_
  refine ev_getR (y := 24) rfl rfl fl_X2_11 rfl rfl rfl rfl ?_
  refine ev_aload_n rfl rfl rfl ?_
  refine ev_getV (v := f2) rfl rfl fl_X2_19 rfl rfl rfl (rd_o k5 (rd_o k4 ef2 rfl) rfl) ?_
  refine ev_badV (v := t) rfl rfl rfl (b14.vp (by decide) (by decide)) rfl (rd_o k5 (rd_o k4 rt rfl) rfl) ?_
  refine ev_iaddB (l := 48) (u := 57) rfl rfl b16 rb (by decide) (by decide) (by decide) (by decide) (fun v17 b17 e17 g17 => ?_)
  refine ev_bipush (v := 48) rfl rfl (by decide) ?_
  refine ev_isubB (l := 0) (u := 9) rfl rfl b17 (by decide : B 48 48 48) (by decide) (by decide) (by decide) (by decide) (fun v18 b18 e18 g18 => ?_)
  have e18x := e18; rw [show (48 : Int32).toInt = 48 from by decide] at e18x
  refine ev_putW (l := 0) (u := 4095) hJ5 rfl b18 (by decide) (by decide) rfl rfl rfl fl_X2_28 rfl rfl rfl rfl rfl (fun h19 hJ19 k19 => ?_)
  refine ev_aload_n rfl rfl rfl ?_
  refine ev_dup rfl rfl rfl ?_
  refine ev_getV (v := f2) rfl rfl fl_X2_19 rfl rfl rfl (rd_o k19 (rd_o k5 (rd_o k4 ef2 rfl) rfl) rfl) ?_
  refine ev_iconst (v := 1) rfl rfl (by decide) ?_
  refine ev_iaddB (l := 1) (u := 160) rfl rfl b14 (by decide : B 1 1 1) (by decide) (by decide) (by decide) (by decide) (fun v20 b20 e20 g20 => ?_)
  have e20x := e20; rw [show (1 : Int32).toInt = 1 from by decide] at e20x
  have b21 : B v20 0 160 := ⟨(by have z0_ := congrArg Int32.toInt (rd_o k19 (rd_o k5 (rd_o k4 ef1 rfl) rfl) rfl); have z1_ := congrArg Int32.toInt (rd_o k19 (rd_o k5 (rd_o k4 ef2 rfl) rfl) rfl); have z2_ := congrArg Int32.toInt (rd_o k19 (rd_o k5 (rd_o k4 ef3 rfl) rfl) rfl); have z_ := w_lits; have zl_ := l_lits; omega), (by have z0_ := congrArg Int32.toInt (rd_o k19 (rd_o k5 (rd_o k4 ef1 rfl) rfl) rfl); have z1_ := congrArg Int32.toInt (rd_o k19 (rd_o k5 (rd_o k4 ef2 rfl) rfl) rfl); have z2_ := congrArg Int32.toInt (rd_o k19 (rd_o k5 (rd_o k4 ef3 rfl) rfl) rfl); have z_ := w_lits; have zl_ := l_lits; omega)⟩
  refine ev_putW (l := 0) (u := 160) hJ19 rfl b21 (by decide) (by decide) rfl rfl rfl fl_X2_19 rfl rfl rfl rfl rfl (fun h22 hJ22 k22 => ?_)
  refine ev_iincL (v := 1) (y := 1) rfl rfl rfl (by decide) rfl rfl (by decide) ?_
  dsimp only [List.set]
  refine ev_goto rfl rfl ?_
  refine ev_iload_n rfl rfl rfl ?_
  refine ev_iconst (v := 2) rfl rfl (by decide) ?_
  refine ev_icmp_ge rfl rfl (fun c23 => absurd c23 (D_nle (by decide : B 2 2 2) (by decide : B 1 1 1) (by decide))) (fun c23 => ?_)
  have z24 := w_lt (Int32.not_le.mp c23)
  rw [show (1 : Int32).toInt = 1 from by decide] at z24
  rw [show (2 : Int32).toInt = 2 from by decide] at z24
  refine ev_aload_n rfl rfl rfl ?_
  refine ev_aload_n rfl rfl rfl ?_
  refine ev_getV (v := v20) rfl rfl fl_X2_19 rfl rfl rfl (rd_s k22) ?_
  obtain ⟨t25, et25⟩ : ∃ f_, h22 24 (Int32.toNatClampNeg v20) = f_ := ⟨_, rfl⟩
  have z26 := congrArg Int32.toInt (rd_o k22 (rd_o k19 (rd_o k5 (rd_o k4 ef1 rfl) rfl) rfl) rfl)
  refine ev_V1P rfl rfl lk_X2_70 vt_X2_isFigure rfl rfl rfl rfl rfl (w_X2_isFigure_23 L b h22 hJ22.1 v20 b21 t25 et25) (fun r27 q27 => ?_)
  obtain ⟨b27, p27_0, p27_1, pp27_0, pp27_1⟩ := q27
  refine ev_if_eq rfl rfl (fun c28 => ?_) (fun c28 => ?_)
  · have b29 : B r27 0 0 := R_eqX b27 (by decide : B 0 0 0) c28
    have z30 := congrArg Int32.toInt c28
    rw [show (0 : Int32).toInt = 0 from by decide] at z30
    refine ev_aload_n rfl rfl rfl ?_
    refine ev_aload_n rfl rfl rfl ?_
    refine ev_getV (v := v20) rfl rfl fl_X2_19 rfl rfl rfl (rd_s k22) ?_
    refine ev_V1P rfl rfl lk_X2_70 vt_X2_isFigure rfl rfl rfl rfl rfl (w_X2_isFigure_23 L b h22 hJ22.1 v20 b21 t25 et25) (fun r36 q36 => ?_)
    obtain ⟨b36, p36_0, p36_1, pp36_0, pp36_1⟩ := q36
    refine ev_if_eq rfl rfl (fun c37 => ?_) (fun c37 => ?_)
    · have b38 : B r36 0 0 := R_eqX b36 (by decide : B 0 0 0) c37
      have z39 := congrArg Int32.toInt c37
      rw [show (0 : Int32).toInt = 0 from by decide] at z39
      exact ev_vret rfl rfl trivial ⟨rfl, rfl, hJ22, (by have z0_ := congrArg Int32.toInt (rd_o k22 (rd_o k19 (rd_o k5 (rd_o k4 ef1 rfl) rfl) rfl) rfl); have z1_ := congrArg Int32.toInt (rd_s k22); have z_ := w_lits; have zl_ := l_lits; omega), (by have z0_ := congrArg Int32.toInt (rd_s k22); have z1_ := congrArg Int32.toInt (rd_o k22 (rd_o k19 (rd_o k5 (rd_o k4 ef3 rfl) rfl) rfl) rfl); have z_ := w_lits; have zl_ := l_lits; omega)⟩
    · have b40 : B r36 1 1 := R_neL b36 (by decide : B 0 0 0) c37 (by decide)
      have b41 : B v20 0 159 := p36_0 c37
      have b42 : B f2 0 158 := B.inter b14 (R_bk (l' := (-1)) (u' := 158) e20 b41 (by decide : B 1 1 1) (by decide) (by decide)) (by decide) (by decide)
      have b43 : B t25 48 57 := p36_1 c37
      have z44 := w_ne c37
      rw [show (0 : Int32).toInt = 0 from by decide] at z44
      refine ev_aload_n rfl rfl rfl ?_
      refine ev_iconst (v := 1) rfl rfl (by decide) ?_
      refine ev_aload_n rfl rfl rfl ?_
      refine ev_getW (l := (-2147483648)) (u := 2147483647) hJ22.1 rfl rfl rfl fl_X2_25 rfl rfl rfl (fun v45 b45 e45 => ?_)
      have z46 := congrArg Int32.toInt (rd_o k22 (rd_o k19 (rd_o k5 (rd_o k4 ef3 rfl) rfl) rfl) rfl)
      refine ev_V2K hJ22 rfl rfl rfl lk_X2_79 vt_X2_fail rfl rfl rfl rfl rfl (w_X2_fail_23 L b h22 hJ22.1 1 v45) (fun h47 hJ47 k47 m47 => ?_)
      obtain ⟨f48, ef48⟩ : ∃ f_, h47 23 7 = f_ := ⟨_, rfl⟩
      have zf48 := congrArg Int32.toInt ef48
      exact ev_vret rfl rfl trivial ⟨rfl, rfl, hJ47, (by have z0_ := congrArg Int32.toInt (rd_w k47 (rd_o k22 (rd_o k19 (rd_o k5 (rd_o k4 ef1 rfl) rfl) rfl) rfl) rfl); have z1_ := congrArg Int32.toInt (rd_w k47 (rd_s k22) rfl); have z_ := w_lits; have zl_ := l_lits; omega), (by have z0_ := congrArg Int32.toInt (rd_w k47 (rd_s k22) rfl); have z1_ := congrArg Int32.toInt ef48; have z_ := w_lits; have zl_ := l_lits; omega)⟩
  · have b31 : B r27 1 1 := R_neL b27 (by decide : B 0 0 0) c28 (by decide)
    have b32 : B v20 0 159 := p27_0 c28
    have b33 : B f2 0 158 := B.inter b14 (R_bk (l' := (-1)) (u' := 158) e20 b32 (by decide : B 1 1 1) (by decide) (by decide)) (by decide) (by decide)
    have b34 : B t25 48 57 := p27_1 c28
    have z35 := w_ne c28
    rw [show (0 : Int32).toInt = 0 from by decide] at z35
    refine ev_aload_n rfl rfl rfl ?_
    refine ev_aload_n rfl rfl rfl ?_
    refine ev_getV (v := v18) rfl rfl fl_X2_28 rfl rfl rfl (rd_o k22 (rd_s k19) rfl) ?_
    refine ev_bipush (v := 10) rfl rfl (by decide) ?_
    refine ev_imulB (l := 0) (u := 90) rfl rfl b18 (by decide : B 10 10 10) (by decide) (by decide) (by decide) (by decide) (by decide) (fun v49 b49 e49 g49 => ?_)
    rw [show (10 : Int32).toInt = 10 from by decide] at e49
    refine ev_aload_n rfl rfl rfl ?_
    refine ev_getR (y := 24) rfl rfl fl_X2_11 rfl rfl rfl rfl ?_
    refine ev_aload_n rfl rfl rfl ?_
    refine ev_getV (v := v20) rfl rfl fl_X2_19 rfl rfl rfl (rd_s k22) ?_
    refine ev_badV (v := t25) rfl rfl rfl (b32.vp (by decide) (by decide)) rfl et25 ?_
    refine ev_iaddB (l := 48) (u := 147) rfl rfl b49 b34 (by decide) (by decide) (by decide) (by decide) (fun v50 b50 e50 g50 => ?_)
    refine ev_bipush (v := 48) rfl rfl (by decide) ?_
    refine ev_isubB (l := 0) (u := 99) rfl rfl b50 (by decide : B 48 48 48) (by decide) (by decide) (by decide) (by decide) (fun v51 b51 e51 g51 => ?_)
    have e51x := e51; rw [show (48 : Int32).toInt = 48 from by decide] at e51x
    refine ev_putW (l := 0) (u := 4095) hJ22 rfl b51 (by decide) (by decide) rfl rfl rfl fl_X2_28 rfl rfl rfl rfl rfl (fun h52 hJ52 k52 => ?_)
    refine ev_aload_n rfl rfl rfl ?_
    refine ev_dup rfl rfl rfl ?_
    refine ev_getV (v := v20) rfl rfl fl_X2_19 rfl rfl rfl (rd_o k52 (rd_s k22) rfl) ?_
    refine ev_iconst (v := 1) rfl rfl (by decide) ?_
    refine ev_iaddB (l := 1) (u := 160) rfl rfl b32 (by decide : B 1 1 1) (by decide) (by decide) (by decide) (by decide) (fun v53 b53 e53 g53 => ?_)
    have e53x := e53; rw [show (1 : Int32).toInt = 1 from by decide] at e53x
    have b54 : B v53 0 160 := ⟨(by have z0_ := congrArg Int32.toInt (rd_o k52 (rd_o k22 (rd_o k19 (rd_o k5 (rd_o k4 ef1 rfl) rfl) rfl) rfl) rfl); have z1_ := congrArg Int32.toInt (rd_o k52 (rd_s k22) rfl); have z2_ := congrArg Int32.toInt (rd_o k52 (rd_o k22 (rd_o k19 (rd_o k5 (rd_o k4 ef3 rfl) rfl) rfl) rfl) rfl); have z_ := w_lits; have zl_ := l_lits; omega), (by have z0_ := congrArg Int32.toInt (rd_o k52 (rd_o k22 (rd_o k19 (rd_o k5 (rd_o k4 ef1 rfl) rfl) rfl) rfl) rfl); have z1_ := congrArg Int32.toInt (rd_o k52 (rd_s k22) rfl); have z2_ := congrArg Int32.toInt (rd_o k52 (rd_o k22 (rd_o k19 (rd_o k5 (rd_o k4 ef3 rfl) rfl) rfl) rfl) rfl); have z_ := w_lits; have zl_ := l_lits; omega)⟩
    refine ev_putW (l := 0) (u := 160) hJ52 rfl b54 (by decide) (by decide) rfl rfl rfl fl_X2_19 rfl rfl rfl rfl rfl (fun h55 hJ55 k55 => ?_)
    refine ev_iincL (v := 2) (y := 1) rfl rfl rfl (by decide) rfl rfl (by decide) ?_
    dsimp only [List.set]
    refine ev_goto rfl rfl ?_
    refine ev_iload_n rfl rfl rfl ?_
    refine ev_iconst (v := 2) rfl rfl (by decide) ?_
    refine ev_icmp_ge rfl rfl (fun c56 => ?_) (fun c56 => absurd (D_le (by decide : B 2 2 2) (by decide : B 2 2 2) (by decide)) c56)
    have z57 := w_le c56
    rw [show (2 : Int32).toInt = 2 from by decide] at z57
    refine ev_aload_n rfl rfl rfl ?_
    refine ev_aload_n rfl rfl rfl ?_
    refine ev_getV (v := v53) rfl rfl fl_X2_19 rfl rfl rfl (rd_s k55) ?_
    obtain ⟨t58, et58⟩ : ∃ f_, h55 24 (Int32.toNatClampNeg v53) = f_ := ⟨_, rfl⟩
    have z59 := congrArg Int32.toInt (rd_o k55 (rd_o k52 (rd_o k22 (rd_o k19 (rd_o k5 (rd_o k4 ef1 rfl) rfl) rfl) rfl) rfl) rfl)
    refine ev_V1P rfl rfl lk_X2_70 vt_X2_isFigure rfl rfl rfl rfl rfl (w_X2_isFigure_23 L b h55 hJ55.1 v53 b54 t58 et58) (fun r60 q60 => ?_)
    obtain ⟨b60, p60_0, p60_1, pp60_0, pp60_1⟩ := q60
    refine ev_if_eq rfl rfl (fun c61 => ?_) (fun c61 => ?_)
    · have b62 : B r60 0 0 := R_eqX b60 (by decide : B 0 0 0) c61
      have z63 := congrArg Int32.toInt c61
      rw [show (0 : Int32).toInt = 0 from by decide] at z63
      exact ev_vret rfl rfl trivial ⟨rfl, rfl, hJ55, (by have z0_ := congrArg Int32.toInt (rd_o k55 (rd_o k52 (rd_o k22 (rd_o k19 (rd_o k5 (rd_o k4 ef1 rfl) rfl) rfl) rfl) rfl) rfl); have z1_ := congrArg Int32.toInt (rd_s k55); have z_ := w_lits; have zl_ := l_lits; omega), (by have z0_ := congrArg Int32.toInt (rd_s k55); have z1_ := congrArg Int32.toInt (rd_o k55 (rd_o k52 (rd_o k22 (rd_o k19 (rd_o k5 (rd_o k4 ef3 rfl) rfl) rfl) rfl) rfl) rfl); have z_ := w_lits; have zl_ := l_lits; omega)⟩
    · have b64 : B r60 1 1 := R_neL b60 (by decide : B 0 0 0) c61 (by decide)
      have b65 : B v53 0 159 := p60_0 c61
      have b66 : B v20 0 158 := B.inter b32 (R_bk (l' := (-1)) (u' := 158) e53 b65 (by decide : B 1 1 1) (by decide) (by decide)) (by decide) (by decide)
      have b67 : B f2 0 157 := B.inter b33 (R_bk (l' := (-1)) (u' := 157) e20 b66 (by decide : B 1 1 1) (by decide) (by decide)) (by decide) (by decide)
      have b68 : B t58 48 57 := p60_1 c61
      have z69 := w_ne c61
      rw [show (0 : Int32).toInt = 0 from by decide] at z69
      refine ev_aload_n rfl rfl rfl ?_
      refine ev_iconst (v := 1) rfl rfl (by decide) ?_
      refine ev_aload_n rfl rfl rfl ?_
      refine ev_getW (l := (-2147483648)) (u := 2147483647) hJ55.1 rfl rfl rfl fl_X2_25 rfl rfl rfl (fun v70 b70 e70 => ?_)
      have z71 := congrArg Int32.toInt (rd_o k55 (rd_o k52 (rd_o k22 (rd_o k19 (rd_o k5 (rd_o k4 ef3 rfl) rfl) rfl) rfl) rfl) rfl)
      refine ev_V2K hJ55 rfl rfl rfl lk_X2_79 vt_X2_fail rfl rfl rfl rfl rfl (w_X2_fail_23 L b h55 hJ55.1 1 v70) (fun h72 hJ72 k72 m72 => ?_)
      obtain ⟨f73, ef73⟩ : ∃ f_, h72 23 7 = f_ := ⟨_, rfl⟩
      have zf73 := congrArg Int32.toInt ef73
      exact ev_vret rfl rfl trivial ⟨rfl, rfl, hJ72, (by have z0_ := congrArg Int32.toInt (rd_w k72 (rd_o k55 (rd_o k52 (rd_o k22 (rd_o k19 (rd_o k5 (rd_o k4 ef1 rfl) rfl) rfl) rfl) rfl) rfl) rfl); have z1_ := congrArg Int32.toInt (rd_w k72 (rd_s k55) rfl); have z_ := w_lits; have zl_ := l_lits; omega), (by have z0_ := congrArg Int32.toInt (rd_w k72 (rd_s k55) rfl); have z1_ := congrArg Int32.toInt ef73; have z_ := w_lits; have zl_ := l_lits; omega)⟩

set_option maxRecDepth 100000 in
set_option maxHeartbeats 4000000 in
theorem w_X2_readChord_23 (L : Nat) (b : Bool) (h : Hp) (hB : Bx h) (t : Int32) (rt : h 24 (h 23 2).toNatClampNeg = t) (rb : B t 97 122) (rp0 : (h 23 2).toInt < (h 23 1).toInt) : EvK mi_X2_readChord [.ref 23] (G0 L b) h (fun z : Hp => ((z 23 2).toInt ≤ (z 23 1).toInt) ∧ ((¬ (z 23 7).toInt = 0) ∨ (h 23 2).toInt + 1 ≤ (z 23 2).toInt)) [(23, 2), (23, 3), (23, 5), (23, 6), (23, 7), (23, 8)] := by
  refine EvM.of2 (lo := [some (.ref 23), none, none]) pf_X2_readChord ok_X2_readChord rfl rfl ?_
  have hJ0 : JW [(23, 2), (23, 3), (23, 5), (23, 6), (23, 7), (23, 8)] h h := JW.refl hB
  obtain ⟨f1, ef1⟩ : ∃ f_, h 23 1 = f_ := ⟨_, rfl⟩
  have bf1 : B f1 0 160 := by have z_ := hJ0.1 23 1; rw [ef1] at z_; exact z_
  have zf1 := congrArg Int32.toInt ef1
  obtain ⟨f2, ef2⟩ : ∃ f_, h 23 2 = f_ := ⟨_, rfl⟩
  have bf2 : B f2 0 160 := by have z_ := hJ0.1 23 2; rw [ef2] at z_; exact z_
  have zf2 := congrArg Int32.toInt ef2
  obtain ⟨f3, ef3⟩ : ∃ f_, h 23 7 = f_ := ⟨_, rfl⟩
  have zf3 := congrArg Int32.toInt ef3
  rw [ef2] at rt
  refine ev_aload_n rfl rfl rfl ?_
  refine ev_iconst (v := 1) rfl rfl (by decide) ?_
  refine ev_putW (l := (-2147483648)) (u := 2147483647) hJ0 rfl (by decide : B 1 1 1) (by decide) (by decide) rfl rfl rfl fl_X2_22 rfl rfl rfl rfl rfl (fun h4 hJ4 k4 => ?_)
  refine ev_aload_n rfl rfl rfl ?_
  refine ev_iconst (v := 0) rfl rfl (by decide) ?_
  refine ev_putW (l := 0) (u := 4095) hJ4 rfl (by decide : B 0 0 0) (by decide) (by decide) rfl rfl rfl fl_X2_28 rfl rfl rfl rfl rfl (fun h5 hJ5 k5 => ?_)
  refine ev_aload_n rfl rfl rfl ?_
  refine ev_iconst (v := (-1)) rfl rfl (by decide) ?_
  refine ev_putW (l := (-2147483648)) (u := 2147483647) hJ5 rfl (by decide : B (-1) (-1) (-1)) (by decide) (by decide) rfl rfl rfl fl_X2_31 rfl rfl rfl rfl rfl (fun h6 hJ6 k6 => ?_)
  refine ev_iconst (v := 0) rfl rfl (by decide) ?_
  refine ev_istore_n rfl rfl rfl rfl ?_
  dsimp only [List.set]
  refine ev_iload_n rfl rfl rfl ?_
  refine ev_iconst (v := 5) rfl rfl (by decide) ?_
  refine ev_icmp_gt rfl rfl (fun c7 => absurd c7 (D_nlt (by decide : B 5 5 5) (by decide : B 0 0 0) (by decide))) (fun c7 => ?_)
  have z8 := w_le (Int32.not_lt.mp c7)
  rw [show (0 : Int32).toInt = 0 from by decide] at z8
  rw [show (5 : Int32).toInt = 5 from by decide] at z8
  refine ev_aload_n rfl rfl rfl ?_
  refine ev_aload_n rfl rfl rfl ?_
  refine ev_getV (v := f2) rfl rfl fl_X2_19 rfl rfl rfl (rd_o k6 (rd_o k5 (rd_o k4 ef2 rfl) rfl) rfl) ?_
  have z9 := congrArg Int32.toInt (rd_o k6 (rd_o k5 (rd_o k4 ef1 rfl) rfl) rfl)
  refine ev_V1P rfl rfl lk_X2_63 vt_X2_isLetter rfl rfl rfl rfl rfl (w_X2_isLetter_23 L b h6 hJ6.1 f2 bf2 t (rd_o k6 (rd_o k5 (rd_o k4 rt rfl) rfl) rfl)) (fun r10 q10 => ?_)
  obtain ⟨b10, p10_0, p10_1, pp10_0, pp10_1⟩ := q10
  refine ev_if_eq rfl rfl (fun c11 => False.elim (by have z0_ := congrArg Int32.toInt (rd_o k6 (rd_o k5 (rd_o k4 ef1 rfl) rfl) rfl); have z1_ := congrArg Int32.toInt (rd_o k6 (rd_o k5 (rd_o k4 ef2 rfl) rfl) rfl); have z2_ := congrArg Int32.toInt (rd_o k6 (rd_o k5 (rd_o k4 ef3 rfl) rfl) rfl); have z3_ := congrArg Int32.toInt c11; have z_ := w_lits; have zl_ := l_lits; omega)) (fun c11 => ?_)
  have b14 : B r10 1 1 := R_neL b10 (by decide : B 0 0 0) c11 (by decide)
  have b15 : B f2 0 159 := p10_0 c11
  have z16 := w_ne c11
  rw [show (0 : Int32).toInt = 0 from by decide] at z16
  refine ev_aload_n rfl rfl rfl ?_
  refine ev_getR (y := 24) rfl rfl fl_X2_11 rfl rfl rfl rfl ?_
  refine ev_aload_n rfl rfl rfl ?_
  refine ev_getV (v := f2) rfl rfl fl_X2_19 rfl rfl rfl (rd_o k6 (rd_o k5 (rd_o k4 ef2 rfl) rfl) rfl) ?_
  refine ev_badV (v := t) rfl rfl rfl (b15.vp (by decide) (by decide)) rfl (rd_o k6 (rd_o k5 (rd_o k4 rt rfl) rfl) rfl) ?_
  refine ev_bipush (v := 97) rfl rfl (by decide) ?_
  refine ev_isubB (l := 0) (u := 25) rfl rfl rb (by decide : B 97 97 97) (by decide) (by decide) (by decide) (by decide) (fun v17 b17 e17 g17 => ?_)
  have e17x := e17; rw [show (97 : Int32).toInt = 97 from by decide] at e17x
  refine ev_istore_n rfl rfl rfl rfl ?_
  dsimp only [List.set]
  refine ev_iload_n rfl rfl rfl ?_
  refine ev_bipush (v := 12) rfl rfl (by decide) ?_
  refine ev_icmp_lt rfl rfl (fun c18 => ?_) (fun c18 => ?_)
  · have b19 : B v17 0 11 := R_ltX b17 (by decide : B 12 12 12) c18 (by decide)
    have b20 : B t 97 108 := (R_bks (l' := 97) (u' := 108) e17 b19 (by decide : B 97 97 97) (by decide) (by decide))
    have z21 := w_lt c18
    rw [show (12 : Int32).toInt = 12 from by decide] at z21
    refine ev_aload_n rfl rfl rfl ?_
    refine ev_getV (v := 0) rfl rfl fl_X2_28 rfl rfl rfl (rd_o k6 (rd_s k5) rfl) ?_
    refine ev_iload_n rfl rfl rfl ?_
    refine ev_ishr0 rfl rfl ?_
    refine ev_iconst (v := 1) rfl rfl (by decide) ?_
    refine ev_iand0 rfl rfl ?_
    refine ev_if_ne rfl rfl (fun c27 => absurd (D_eq (by decide : B 0 0 0) (by decide : B 0 0 0)) c27) (fun c27 => ?_)
    have z28 := congrArg Int32.toInt c27
    rw [show (0 : Int32).toInt = 0 from by decide] at z28
    refine ev_iload_n rfl rfl rfl ?_
    refine ev_iconst (v := 5) rfl rfl (by decide) ?_
    refine ev_icmp_ne rfl rfl (fun c29 => ?_) (fun c29 => absurd c29 (D_ne (by decide : B 0 0 0) (by decide : B 5 5 5) (by decide)))
    have z30 := w_ne c29
    rw [show (0 : Int32).toInt = 0 from by decide] at z30
    rw [show (5 : Int32).toInt = 5 from by decide] at z30
    refine ev_aload_n rfl rfl rfl ?_
    refine ev_dup rfl rfl rfl ?_
    refine ev_getV (v := 0) rfl rfl fl_X2_28 rfl rfl rfl (rd_o k6 (rd_s k5) rfl) ?_
    refine ev_iconst (v := 1) rfl rfl (by decide) ?_
    refine ev_iload_n rfl rfl rfl ?_
    refine ev_ishlB rfl rfl b19 (by decide) (by decide) (fun v31 b31 => ?_)
    refine ev_iorB 12 (u := 4095) rfl rfl (by decide : B 0 0 0) b31 (by decide) (by decide) (by decide) (by decide) (by decide) (by decide) (fun v32 b32 e32 => ?_)
    refine ev_putW (l := 0) (u := 4095) hJ6 rfl b32 (by decide) (by decide) rfl rfl rfl fl_X2_28 rfl rfl rfl rfl rfl (fun h33 hJ33 k33 => ?_)
    refine ev_aload_n rfl rfl rfl ?_
    refine ev_dup rfl rfl rfl ?_
    refine ev_getV (v := f2) rfl rfl fl_X2_19 rfl rfl rfl (rd_o k33 (rd_o k6 (rd_o k5 (rd_o k4 ef2 rfl) rfl) rfl) rfl) ?_
    refine ev_iconst (v := 1) rfl rfl (by decide) ?_
    refine ev_iaddB (l := 1) (u := 160) rfl rfl b15 (by decide : B 1 1 1) (by decide) (by decide) (by decide) (by decide) (fun v34 b34 e34 g34 => ?_)
    have e34x := e34; rw [show (1 : Int32).toInt = 1 from by decide] at e34x
    have b35 : B v34 0 160 := ⟨(by have z0_ := congrArg Int32.toInt (rd_o k33 (rd_o k6 (rd_o k5 (rd_o k4 ef1 rfl) rfl) rfl) rfl); have z1_ := congrArg Int32.toInt (rd_o k33 (rd_o k6 (rd_o k5 (rd_o k4 ef2 rfl) rfl) rfl) rfl); have z2_ := congrArg Int32.toInt (rd_o k33 (rd_o k6 (rd_o k5 (rd_o k4 ef3 rfl) rfl) rfl) rfl); have z_ := w_lits; have zl_ := l_lits; omega), (by have z0_ := congrArg Int32.toInt (rd_o k33 (rd_o k6 (rd_o k5 (rd_o k4 ef1 rfl) rfl) rfl) rfl); have z1_ := congrArg Int32.toInt (rd_o k33 (rd_o k6 (rd_o k5 (rd_o k4 ef2 rfl) rfl) rfl) rfl); have z2_ := congrArg Int32.toInt (rd_o k33 (rd_o k6 (rd_o k5 (rd_o k4 ef3 rfl) rfl) rfl) rfl); have z_ := w_lits; have zl_ := l_lits; omega)⟩
    refine ev_putW (l := 0) (u := 160) hJ33 rfl b35 (by decide) (by decide) rfl rfl rfl fl_X2_19 rfl rfl rfl rfl rfl (fun h36 hJ36 k36 => ?_)
    refine ev_iincL (v := 1) (y := 1) rfl rfl rfl (by decide) rfl rfl (by decide) ?_
    dsimp only [List.set]
    refine ev_goto rfl rfl ?_
    have lp17_266 : ∀ (n : Nat) (w267 : Int32) (w268 : Int32) (h271 : Hp), B w267 1 5 → B w268 0 11 → JW [(23, 2), (23, 3), (23, 5), (23, 6), (23, 7), (23, 8)] h h271 → (h271 23 1 = f1) → (h271 23 7 = f3) → (h271 24 (Int32.toNatClampNeg f2) = t) → (h271 23 3 = 1) → (h271 23 6 = (-1)) → ((h 23 2).toInt + 1 ≤ (h271 23 2).toInt) → ((h271 23 2).toInt ≤ (h271 23 1).toInt) → 5 + 1 - w267.toInt ≤ (n : Int) → EvQ mi_X2_readChord 17 [some (.ref 23), some (.int w267), some (.int w268)] [] (G0 L b) h271 0 0 (QK (fun z : Hp => ((z 23 2).toInt ≤ (z 23 1).toInt) ∧ ((¬ (z 23 7).toInt = 0) ∨ (h 23 2).toInt + 1 ≤ (z 23 2).toInt)) [(23, 2), (23, 3), (23, 5), (23, 6), (23, 7), (23, 8)] (G0 L b) h) := by
      intro n
      induction n with
      | zero =>
        intro w267 w268 h271 b269 b270 hJ272 z273 z274 z275 z276 z277 y17_0 y17_1 hm17
        exact absurd hm17 (L_zero b269 (by decide))
      | succ n ih17 =>
        intro w267 w268 h271 b269 b270 hJ272 z273 z274 z275 z276 z277 y17_0 y17_1 hm17
        obtain ⟨f278, ef278⟩ : ∃ f_, h271 23 2 = f_ := ⟨_, rfl⟩
        have bf278 : B f278 0 160 := by have z_ := hJ272.1 23 2; rw [ef278] at z_; exact z_
        have zf278 := congrArg Int32.toInt ef278
        have z279 := congrArg Int32.toInt z273
        have z280 := congrArg Int32.toInt z274
        refine ev_iload_n rfl rfl rfl ?_
        refine ev_iconst (v := 5) rfl rfl (by decide) ?_
        refine ev_icmp_gt rfl rfl (fun c281 => absurd c281 (D_nlt (by decide : B 5 5 5) b269 (by decide))) (fun c281 => ?_)
        have z282 := w_le (Int32.not_lt.mp c281)
        rw [show (5 : Int32).toInt = 5 from by decide] at z282
        refine ev_aload_n rfl rfl rfl ?_
        refine ev_aload_n rfl rfl rfl ?_
        refine ev_getV (v := f278) rfl rfl fl_X2_19 rfl rfl rfl ef278 ?_
        obtain ⟨t283, et283⟩ : ∃ f_, h271 24 (Int32.toNatClampNeg f278) = f_ := ⟨_, rfl⟩
        refine ev_V1P rfl rfl lk_X2_63 vt_X2_isLetter rfl rfl rfl rfl rfl (w_X2_isLetter_23 L b h271 hJ272.1 f278 bf278 t283 et283) (fun r284 q284 => ?_)
        obtain ⟨b284, p284_0, p284_1, pp284_0, pp284_1⟩ := q284
        refine ev_if_eq rfl rfl (fun c285 => ?_) (fun c285 => ?_)
        · have b286 : B r284 0 0 := R_eqX b284 (by decide : B 0 0 0) c285
          have z287 := congrArg Int32.toInt c285
          rw [show (0 : Int32).toInt = 0 from by decide] at z287
          exact ev_vret rfl rfl trivial ⟨rfl, rfl, hJ272, (by have z0_ := congrArg Int32.toInt z273; have z1_ := congrArg Int32.toInt ef278; have z_ := w_lits; have zl_ := l_lits; omega), (by have z0_ := congrArg Int32.toInt ef278; have z1_ := congrArg Int32.toInt z274; have z_ := w_lits; have zl_ := l_lits; omega)⟩
        · have b288 : B r284 1 1 := R_neL b284 (by decide : B 0 0 0) c285 (by decide)
          have b289 : B f278 0 159 := p284_0 c285
          have b290 : B t283 97 122 := p284_1 c285
          have z291 := w_ne c285
          rw [show (0 : Int32).toInt = 0 from by decide] at z291
          refine ev_aload_n rfl rfl rfl ?_
          refine ev_getR (y := 24) rfl rfl fl_X2_11 rfl rfl rfl rfl ?_
          refine ev_aload_n rfl rfl rfl ?_
          refine ev_getV (v := f278) rfl rfl fl_X2_19 rfl rfl rfl ef278 ?_
          refine ev_badV (v := t283) rfl rfl rfl (b289.vp (by decide) (by decide)) rfl et283 ?_
          refine ev_bipush (v := 97) rfl rfl (by decide) ?_
          refine ev_isubB (l := 0) (u := 25) rfl rfl b290 (by decide : B 97 97 97) (by decide) (by decide) (by decide) (by decide) (fun v292 b292 e292 g292 => ?_)
          have e292x := e292; rw [show (97 : Int32).toInt = 97 from by decide] at e292x
          refine ev_istore_n rfl rfl rfl rfl ?_
          dsimp only [List.set]
          refine ev_iload_n rfl rfl rfl ?_
          refine ev_bipush (v := 12) rfl rfl (by decide) ?_
          refine ev_icmp_lt rfl rfl (fun c293 => ?_) (fun c293 => ?_)
          · have b294 : B v292 0 11 := R_ltX b292 (by decide : B 12 12 12) c293 (by decide)
            have b295 : B t283 97 108 := (R_bks (l' := 97) (u' := 108) e292 b294 (by decide : B 97 97 97) (by decide) (by decide))
            have z296 := w_lt c293
            rw [show (12 : Int32).toInt = 12 from by decide] at z296
            refine ev_aload_n rfl rfl rfl ?_
            refine ev_getW (l := 0) (u := 4095) hJ272.1 rfl rfl rfl fl_X2_28 rfl rfl rfl (fun v300 b300 e300 => ?_)
            refine ev_iload_n rfl rfl rfl ?_
            refine ev_ishrA rfl rfl (fun v301 => ?_)
            refine ev_iconst (v := 1) rfl rfl (by decide) ?_
            refine ev_iandB rfl rfl (by decide : B 1 1 1) (by decide) (fun v302 b302 e302 => ?_)
            refine ev_if_ne rfl rfl (fun c303 => ?_) (fun c303 => ?_)
            · have b304 : B v302 1 1 := R_neL b302 (by decide : B 0 0 0) c303 (by decide)
              have z305 := w_ne c303
              rw [show (0 : Int32).toInt = 0 from by decide] at z305
              refine ev_aload_n rfl rfl rfl ?_
              refine ev_aload_n rfl rfl rfl ?_
              refine ev_getV (v := f278) rfl rfl fl_X2_19 rfl rfl rfl ef278 ?_
              refine ev_putW (l := (-2147483648)) (u := 2147483647) hJ272 rfl b289 (by decide) (by decide) rfl rfl rfl fl_X2_31 rfl rfl rfl rfl rfl (fun h308 hJ308 k308 => ?_)
              exact ev_vret rfl rfl trivial ⟨rfl, rfl, hJ308, (by have z0_ := congrArg Int32.toInt (rd_o k308 z273 rfl); have z1_ := congrArg Int32.toInt (rd_o k308 ef278 rfl); have z_ := w_lits; have zl_ := l_lits; omega), (by have z0_ := congrArg Int32.toInt (rd_o k308 ef278 rfl); have z1_ := congrArg Int32.toInt (rd_o k308 z274 rfl); have z_ := w_lits; have zl_ := l_lits; omega)⟩
            · have b306 : B v302 0 0 := R_eqX b302 (by decide : B 0 0 0) c303
              have z307 := congrArg Int32.toInt c303
              rw [show (0 : Int32).toInt = 0 from by decide] at z307
              refine ev_iload_n rfl rfl rfl ?_
              refine ev_iconst (v := 5) rfl rfl (by decide) ?_
              refine ev_icmp_ne rfl rfl (fun c309 => ?_) (fun c309 => ?_)
              · have b310 : B w267 1 4 := R_neU b269 (by decide : B 5 5 5) c309 (by decide)
                have z311 := w_ne c309
                rw [show (5 : Int32).toInt = 5 from by decide] at z311
                refine ev_aload_n rfl rfl rfl ?_
                refine ev_dup rfl rfl rfl ?_
                refine ev_getV (v := v300) rfl rfl fl_X2_28 rfl rfl rfl e300 ?_
                refine ev_iconst (v := 1) rfl rfl (by decide) ?_
                refine ev_iload_n rfl rfl rfl ?_
                refine ev_ishlB rfl rfl b294 (by decide) (by decide) (fun v314 b314 => ?_)
                refine ev_iorB 12 (u := 4095) rfl rfl b300 b314 (by decide) (by decide) (by decide) (by decide) (by decide) (by decide) (fun v315 b315 e315 => ?_)
                refine ev_putW (l := 0) (u := 4095) hJ272 rfl b315 (by decide) (by decide) rfl rfl rfl fl_X2_28 rfl rfl rfl rfl rfl (fun h316 hJ316 k316 => ?_)
                refine ev_aload_n rfl rfl rfl ?_
                refine ev_dup rfl rfl rfl ?_
                refine ev_getV (v := f278) rfl rfl fl_X2_19 rfl rfl rfl (rd_o k316 ef278 rfl) ?_
                refine ev_iconst (v := 1) rfl rfl (by decide) ?_
                refine ev_iaddB (l := 1) (u := 160) rfl rfl b289 (by decide : B 1 1 1) (by decide) (by decide) (by decide) (by decide) (fun v317 b317 e317 g317 => ?_)
                have e317x := e317; rw [show (1 : Int32).toInt = 1 from by decide] at e317x
                have b318 : B v317 0 160 := ⟨(by have z0_ := congrArg Int32.toInt (rd_o k316 z273 rfl); have z1_ := congrArg Int32.toInt (rd_o k316 ef278 rfl); have z2_ := congrArg Int32.toInt (rd_o k316 z274 rfl); have z_ := w_lits; have zl_ := l_lits; omega), (by have z0_ := congrArg Int32.toInt (rd_o k316 z273 rfl); have z1_ := congrArg Int32.toInt (rd_o k316 ef278 rfl); have z2_ := congrArg Int32.toInt (rd_o k316 z274 rfl); have z_ := w_lits; have zl_ := l_lits; omega)⟩
                refine ev_putW (l := 0) (u := 160) hJ316 rfl b318 (by decide) (by decide) rfl rfl rfl fl_X2_19 rfl rfl rfl rfl rfl (fun h319 hJ319 k319 => ?_)
                refine ev_iincB (y := 1) (l := 2) (u := 5) rfl rfl rfl (by decide) rfl rfl b310 (by decide : B 1 1 1) (by decide) (by decide) (by decide) (by decide) (fun v320 b320 e320 => ?_)
                dsimp only [List.set]
                have e320x := e320; rw [show (1 : Int32).toInt = 1 from by decide] at e320x
                refine ev_goto rfl rfl ?_
                exact (ih17 v320 v292 h319 (b320.mono (by decide) (by decide)) b294 hJ319 (rd_o k319 (rd_o k316 z273 rfl) rfl) (rd_o k319 (rd_o k316 z274 rfl) rfl) (rd_o k319 (rd_o k316 z275 rfl) rfl) (rd_o k319 (rd_o k316 z276 rfl) rfl) (rd_o k319 (rd_o k316 z277 rfl) rfl) (by have z0_ := congrArg Int32.toInt (rd_s k319); have z_ := w_lits; have zl_ := l_lits; omega) (by have z0_ := congrArg Int32.toInt (rd_o k319 (rd_o k316 z273 rfl) rfl); have z1_ := congrArg Int32.toInt (rd_s k319); have z_ := w_lits; have zl_ := l_lits; omega) (L_up hm17 (e_p1 e320 (by decide))))
              · have b312 : B w267 5 5 := R_eqX b269 (by decide : B 5 5 5) c309
                have z313 := congrArg Int32.toInt c309
                rw [show (5 : Int32).toInt = 5 from by decide] at z313
                refine ev_aload_n rfl rfl rfl ?_
                refine ev_aload_n rfl rfl rfl ?_
                refine ev_getV (v := f278) rfl rfl fl_X2_19 rfl rfl rfl ef278 ?_
                refine ev_putW (l := (-2147483648)) (u := 2147483647) hJ272 rfl b289 (by decide) (by decide) rfl rfl rfl fl_X2_31 rfl rfl rfl rfl rfl (fun h321 hJ321 k321 => ?_)
                exact ev_vret rfl rfl trivial ⟨rfl, rfl, hJ321, (by have z0_ := congrArg Int32.toInt (rd_o k321 z273 rfl); have z1_ := congrArg Int32.toInt (rd_o k321 ef278 rfl); have z_ := w_lits; have zl_ := l_lits; omega), (by have z0_ := congrArg Int32.toInt (rd_o k321 ef278 rfl); have z1_ := congrArg Int32.toInt (rd_o k321 z274 rfl); have z_ := w_lits; have zl_ := l_lits; omega)⟩
          · have b297 : B v292 12 25 := R_leY (by decide : B 12 12 12) b292 (Int32.not_lt.mp c293) (by decide)
            have b298 : B t283 109 122 := (R_bks (l' := 109) (u' := 122) e292 b297 (by decide : B 97 97 97) (by decide) (by decide))
            have z299 := w_le (Int32.not_lt.mp c293)
            rw [show (12 : Int32).toInt = 12 from by decide] at z299
            refine ev_aload_n rfl rfl rfl ?_
            refine ev_iconst (v := 1) rfl rfl (by decide) ?_
            refine ev_aload_n rfl rfl rfl ?_
            refine ev_getV (v := f278) rfl rfl fl_X2_19 rfl rfl rfl ef278 ?_
            refine ev_V2K hJ272 rfl rfl rfl lk_X2_79 vt_X2_fail rfl rfl rfl rfl rfl (w_X2_fail_23 L b h271 hJ272.1 1 f278) (fun h322 hJ322 k322 m322 => ?_)
            obtain ⟨f323, ef323⟩ : ∃ f_, h322 23 7 = f_ := ⟨_, rfl⟩
            have zf323 := congrArg Int32.toInt ef323
            exact ev_vret rfl rfl trivial ⟨rfl, rfl, hJ322, (by have z0_ := congrArg Int32.toInt (rd_w k322 z273 rfl); have z1_ := congrArg Int32.toInt (rd_w k322 ef278 rfl); have z_ := w_lits; have zl_ := l_lits; omega), (by have z0_ := congrArg Int32.toInt (rd_w k322 ef278 rfl); have z1_ := congrArg Int32.toInt ef323; have z_ := w_lits; have zl_ := l_lits; omega)⟩
    exact (lp17_266 5 1 v17 h36 ((by decide : B 1 1 1).mono (by decide) (by decide)) b19 hJ36 (rd_o k36 (rd_o k33 (rd_o k6 (rd_o k5 (rd_o k4 ef1 rfl) rfl) rfl) rfl) rfl) (rd_o k36 (rd_o k33 (rd_o k6 (rd_o k5 (rd_o k4 ef3 rfl) rfl) rfl) rfl) rfl) (rd_o k36 (rd_o k33 (rd_o k6 (rd_o k5 (rd_o k4 rt rfl) rfl) rfl) rfl) rfl) (rd_o k36 (rd_o k33 (rd_o k6 (rd_o k5 (rd_s k4) rfl) rfl) rfl) rfl) (rd_o k36 (rd_o k33 (rd_s k6) rfl) rfl) (by have z0_ := congrArg Int32.toInt (rd_s k36); have z_ := w_lits; have zl_ := l_lits; omega) (by have z0_ := congrArg Int32.toInt (rd_o k36 (rd_o k33 (rd_o k6 (rd_o k5 (rd_o k4 ef1 rfl) rfl) rfl) rfl) rfl); have z1_ := congrArg Int32.toInt (rd_s k36); have z_ := w_lits; have zl_ := l_lits; omega) (L_init (by decide : B 1 1 1) (by decide)))
  · have b22 : B v17 12 25 := R_leY (by decide : B 12 12 12) b17 (Int32.not_lt.mp c18) (by decide)
    have b23 : B t 109 122 := (R_bks (l' := 109) (u' := 122) e17 b22 (by decide : B 97 97 97) (by decide) (by decide))
    have z24 := w_le (Int32.not_lt.mp c18)
    rw [show (12 : Int32).toInt = 12 from by decide] at z24
    refine ev_aload_n rfl rfl rfl ?_
    refine ev_iconst (v := 1) rfl rfl (by decide) ?_
    refine ev_aload_n rfl rfl rfl ?_
    refine ev_getV (v := f2) rfl rfl fl_X2_19 rfl rfl rfl (rd_o k6 (rd_o k5 (rd_o k4 ef2 rfl) rfl) rfl) ?_
    have z324 := congrArg Int32.toInt (rd_o k6 (rd_o k5 (rd_o k4 ef3 rfl) rfl) rfl)
    refine ev_V2K hJ6 rfl rfl rfl lk_X2_79 vt_X2_fail rfl rfl rfl rfl rfl (w_X2_fail_23 L b h6 hJ6.1 1 f2) (fun h325 hJ325 k325 m325 => ?_)
    obtain ⟨f326, ef326⟩ : ∃ f_, h325 23 7 = f_ := ⟨_, rfl⟩
    have zf326 := congrArg Int32.toInt ef326
    exact ev_vret rfl rfl trivial ⟨rfl, rfl, hJ325, (by have z0_ := congrArg Int32.toInt (rd_w k325 (rd_o k6 (rd_o k5 (rd_o k4 ef1 rfl) rfl) rfl) rfl); have z1_ := congrArg Int32.toInt (rd_w k325 (rd_o k6 (rd_o k5 (rd_o k4 ef2 rfl) rfl) rfl) rfl); have z_ := w_lits; have zl_ := l_lits; omega), (by have z0_ := congrArg Int32.toInt (rd_w k325 (rd_o k6 (rd_o k5 (rd_o k4 ef2 rfl) rfl) rfl) rfl); have z1_ := congrArg Int32.toInt ef326; have z_ := w_lits; have zl_ := l_lits; omega)⟩

set_option maxRecDepth 100000 in
set_option maxHeartbeats 4000000 in
theorem w_X2_readToken_23 (L : Nat) (b : Bool) (h : Hp) (hB : Bx h) (rp0 : (h 23 2).toInt ≤ (h 23 1).toInt) : EvK mi_X2_readToken [.ref 23] (G0 L b) h (fun z : Hp => ((z 23 2).toInt ≤ (z 23 1).toInt) ∧ ((z 23 3).toInt = 0 ∨ (¬ (z 23 7).toInt = 0) ∨ (h 23 2).toInt + 1 ≤ (z 23 2).toInt)) [(23, 2), (23, 3), (23, 4), (23, 5), (23, 6), (23, 7), (23, 8)] := by
  refine EvM.of2 (lo := [some (.ref 23)]) pf_X2_readToken ok_X2_readToken rfl rfl ?_
  have hJ0 : JW [(23, 2), (23, 3), (23, 4), (23, 5), (23, 6), (23, 7), (23, 8)] h h := JW.refl hB
  obtain ⟨f1, ef1⟩ : ∃ f_, h 23 1 = f_ := ⟨_, rfl⟩
  have bf1 : B f1 0 160 := by have z_ := hJ0.1 23 1; rw [ef1] at z_; exact z_
  have zf1 := congrArg Int32.toInt ef1
  obtain ⟨f2, ef2⟩ : ∃ f_, h 23 2 = f_ := ⟨_, rfl⟩
  have bf2 : B f2 0 160 := by have z_ := hJ0.1 23 2; rw [ef2] at z_; exact z_
  have zf2 := congrArg Int32.toInt ef2
  obtain ⟨f3, ef3⟩ : ∃ f_, h 23 3 = f_ := ⟨_, rfl⟩
  have zf3 := congrArg Int32.toInt ef3
  obtain ⟨f4, ef4⟩ : ∃ f_, h 23 7 = f_ := ⟨_, rfl⟩
  have zf4 := congrArg Int32.toInt ef4
  have lp0_248 : ∀ (n : Nat) (h249 : Hp), JW [(23, 2), (23, 3), (23, 4), (23, 5), (23, 6), (23, 7), (23, 8)] h h249 → (h249 23 1 = f1) → (h249 23 3 = f3) → (h249 23 7 = f4) → ((h 23 2).toInt ≤ (h249 23 2).toInt) → ((h249 23 2).toInt ≤ (h249 23 1).toInt) → 160 + 1 - (h249 23 2).toInt ≤ (n : Int) → EvQ mi_X2_readToken 0 [some (.ref 23)] [] (G0 L b) h249 0 0 (QK (fun z : Hp => ((z 23 2).toInt ≤ (z 23 1).toInt) ∧ ((z 23 3).toInt = 0 ∨ (¬ (z 23 7).toInt = 0) ∨ (h 23 2).toInt + 1 ≤ (z 23 2).toInt)) [(23, 2), (23, 3), (23, 4), (23, 5), (23, 6), (23, 7), (23, 8)] (G0 L b) h) := by
    intro n
    induction n with
    | zero =>
      intro h249 hJ250 z251 z252 z253 y0_0 y0_1 hm0
      obtain ⟨f254, ef254⟩ : ∃ f_, h249 23 2 = f_ := ⟨_, rfl⟩
      have bf254 : B f254 0 160 := by
        have z_ := hJ250.1 23 2
        rw [ef254] at z_
        exact z_
      rw [ef254] at hm0
      exact absurd hm0 (L_zero bf254 (by decide))
    | succ n ih0 =>
      intro h249 hJ250 z251 z252 z253 y0_0 y0_1 hm0
      obtain ⟨f254, ef254⟩ : ∃ f_, h249 23 2 = f_ := ⟨_, rfl⟩
      have bf254 : B f254 0 160 := by
        have z_ := hJ250.1 23 2
        rw [ef254] at z_
        exact z_
      rw [ef254] at hm0
      have z255 := congrArg Int32.toInt z251
      have z256 := congrArg Int32.toInt ef254
      have z257 := congrArg Int32.toInt z252
      have z258 := congrArg Int32.toInt z253
      refine ev_aload_n rfl rfl rfl ?_
      refine ev_getV (v := f254) rfl rfl fl_X2_19 rfl rfl rfl ef254 ?_
      refine ev_aload_n rfl rfl rfl ?_
      refine ev_getV (v := f1) rfl rfl fl_X2_15 rfl rfl rfl z251 ?_
      refine ev_icmp_ge rfl rfl (fun c259 => ?_) (fun c259 => ?_)
      · have z260 := w_le c259
        refine ev_aload_n rfl rfl rfl ?_
        refine ev_aload_n rfl rfl rfl ?_
        refine ev_getV (v := f254) rfl rfl fl_X2_19 rfl rfl rfl ef254 ?_
        refine ev_putW (l := (-2147483648)) (u := 2147483647) hJ250 rfl bf254 (by decide) (by decide) rfl rfl rfl fl_X2_25 rfl rfl rfl rfl rfl (fun h264 hJ264 k264 => ?_)
        refine ev_aload_n rfl rfl rfl ?_
        refine ev_getV (v := f254) rfl rfl fl_X2_19 rfl rfl rfl (rd_o k264 ef254 rfl) ?_
        refine ev_aload_n rfl rfl rfl ?_
        refine ev_getV (v := f1) rfl rfl fl_X2_15 rfl rfl rfl (rd_o k264 z251 rfl) ?_
        refine ev_icmp_lt rfl rfl (fun c265 => ?_) (fun c265 => ?_)
        · have b266 : B f254 0 159 := R_ltX bf254 bf1 c265 (by decide)
          have b267 : B f1 1 160 := R_ltY bf254 bf1 c265 (by decide)
          have z268 := w_lt c265
          refine ev_aload_n rfl rfl rfl ?_
          refine ev_aload_n rfl rfl rfl ?_
          refine ev_getV (v := f254) rfl rfl fl_X2_19 rfl rfl rfl (rd_o k264 ef254 rfl) ?_
          obtain ⟨t270, et270⟩ : ∃ f_, h264 24 (Int32.toNatClampNeg f254) = f_ := ⟨_, rfl⟩
          have z271 := congrArg Int32.toInt (rd_o k264 z251 rfl)
          refine ev_V1P rfl rfl lk_X2_63 vt_X2_isLetter rfl rfl rfl rfl rfl (w_X2_isLetter_23 L b h264 hJ264.1 f254 (b266.mono (by decide) (by decide)) t270 et270) (fun r272 q272 => ?_)
          obtain ⟨b272, p272_0, p272_1, pp272_0, pp272_1⟩ := q272
          refine ev_if_eq rfl rfl (fun c273 => ?_) (fun c273 => ?_)
          · have b274 : B r272 0 0 := R_eqX b272 (by decide : B 0 0 0) c273
            have z275 := congrArg Int32.toInt c273
            rw [show (0 : Int32).toInt = 0 from by decide] at z275
            refine ev_aload_n rfl rfl rfl ?_
            refine ev_aload_n rfl rfl rfl ?_
            refine ev_getV (v := f254) rfl rfl fl_X2_19 rfl rfl rfl (rd_o k264 ef254 rfl) ?_
            refine ev_V1P rfl rfl lk_X2_70 vt_X2_isFigure rfl rfl rfl rfl rfl (w_X2_isFigure_23 L b h264 hJ264.1 f254 (b266.mono (by decide) (by decide)) t270 et270) (fun r279 q279 => ?_)
            obtain ⟨b279, p279_0, p279_1, pp279_0, pp279_1⟩ := q279
            refine ev_if_eq rfl rfl (fun c280 => ?_) (fun c280 => ?_)
            · have b281 : B r279 0 0 := R_eqX b279 (by decide : B 0 0 0) c280
              have z282 := congrArg Int32.toInt c280
              rw [show (0 : Int32).toInt = 0 from by decide] at z282
              refine ev_aload_n rfl rfl rfl ?_
              have z286 := congrArg Int32.toInt (rd_o k264 ef254 rfl)
              have z287 := congrArg Int32.toInt (rd_o k264 z252 rfl)
              have z288 := congrArg Int32.toInt (rd_o k264 z253 rfl)
              refine ev_V0K hJ264 rfl rfl rfl lk_X2_76 vt_X2_readSign rfl rfl rfl rfl rfl (w_X2_readSign_23 L b h264 hJ264.1 (by have z0_ := congrArg Int32.toInt (rd_o k264 z251 rfl); have z1_ := congrArg Int32.toInt (rd_o k264 ef254 rfl); have z_ := w_lits; have zl_ := l_lits; omega)) (fun h289 hJ289 k289 m289 => ?_)
              obtain ⟨m289_0, m289_1⟩ := m289
              obtain ⟨f290, ef290⟩ : ∃ f_, h289 23 2 = f_ := ⟨_, rfl⟩
              have bf290 : B f290 0 160 := by have z_ := hJ289.1 23 2; rw [ef290] at z_; exact z_
              have zf290 := congrArg Int32.toInt ef290
              obtain ⟨f291, ef291⟩ : ∃ f_, h289 23 3 = f_ := ⟨_, rfl⟩
              have zf291 := congrArg Int32.toInt ef291
              obtain ⟨f292, ef292⟩ : ∃ f_, h289 23 7 = f_ := ⟨_, rfl⟩
              have zf292 := congrArg Int32.toInt ef292
              exact ev_vret rfl rfl trivial ⟨rfl, rfl, hJ289, (by have z0_ := congrArg Int32.toInt (rd_w k289 (rd_o k264 z251 rfl) rfl); have z1_ := congrArg Int32.toInt ef290; have z_ := w_lits; have zl_ := l_lits; omega), (by have z0_ := congrArg Int32.toInt ef290; have z1_ := congrArg Int32.toInt ef291; have z2_ := congrArg Int32.toInt ef292; have z_ := w_lits; have zl_ := l_lits; omega)⟩
            · have b283 : B r279 1 1 := R_neL b279 (by decide : B 0 0 0) c280 (by decide)
              have b284 : B t270 48 57 := p279_1 c280
              have z285 := w_ne c280
              rw [show (0 : Int32).toInt = 0 from by decide] at z285
              refine ev_aload_n rfl rfl rfl ?_
              have z293 := congrArg Int32.toInt (rd_o k264 ef254 rfl)
              have z294 := congrArg Int32.toInt (rd_o k264 z253 rfl)
              refine ev_V0K hJ264 rfl rfl rfl lk_X2_73 vt_X2_readNumber rfl rfl rfl rfl rfl (w_X2_readNumber_23 L b h264 hJ264.1 t270 (by rw [(rd_o k264 ef254 rfl)]; exact et270) b284 (by have z0_ := congrArg Int32.toInt (rd_o k264 z251 rfl); have z1_ := congrArg Int32.toInt (rd_o k264 ef254 rfl); have z_ := w_lits; have zl_ := l_lits; omega)) (fun h295 hJ295 k295 m295 => ?_)
              obtain ⟨m295_0, m295_1⟩ := m295
              obtain ⟨f296, ef296⟩ : ∃ f_, h295 23 2 = f_ := ⟨_, rfl⟩
              have bf296 : B f296 0 160 := by have z_ := hJ295.1 23 2; rw [ef296] at z_; exact z_
              have zf296 := congrArg Int32.toInt ef296
              obtain ⟨f297, ef297⟩ : ∃ f_, h295 23 3 = f_ := ⟨_, rfl⟩
              have zf297 := congrArg Int32.toInt ef297
              obtain ⟨f298, ef298⟩ : ∃ f_, h295 23 7 = f_ := ⟨_, rfl⟩
              have zf298 := congrArg Int32.toInt ef298
              have z299 := congrArg Int32.toInt (rd_w k295 (rd_o k264 z251 rfl) rfl)
              refine ev_goto rfl rfl ?_
              exact ev_vret rfl rfl trivial ⟨rfl, rfl, hJ295, (by have z0_ := congrArg Int32.toInt (rd_w k295 (rd_o k264 z251 rfl) rfl); have z1_ := congrArg Int32.toInt ef296; have z_ := w_lits; have zl_ := l_lits; omega), (by have z0_ := congrArg Int32.toInt ef296; have z1_ := congrArg Int32.toInt ef297; have z2_ := congrArg Int32.toInt ef298; have z_ := w_lits; have zl_ := l_lits; omega)⟩
          · have b276 : B r272 1 1 := R_neL b272 (by decide : B 0 0 0) c273 (by decide)
            have b277 : B t270 97 122 := p272_1 c273
            have z278 := w_ne c273
            rw [show (0 : Int32).toInt = 0 from by decide] at z278
            refine ev_aload_n rfl rfl rfl ?_
            have z300 := congrArg Int32.toInt (rd_o k264 ef254 rfl)
            have z301 := congrArg Int32.toInt (rd_o k264 z253 rfl)
            refine ev_V0K hJ264 rfl rfl rfl lk_X2_67 vt_X2_readChord rfl rfl rfl rfl rfl (w_X2_readChord_23 L b h264 hJ264.1 t270 (by rw [(rd_o k264 ef254 rfl)]; exact et270) b277 (by have z0_ := congrArg Int32.toInt (rd_o k264 z251 rfl); have z1_ := congrArg Int32.toInt (rd_o k264 ef254 rfl); have z_ := w_lits; have zl_ := l_lits; omega)) (fun h302 hJ302 k302 m302 => ?_)
            obtain ⟨m302_0, m302_1⟩ := m302
            obtain ⟨f303, ef303⟩ : ∃ f_, h302 23 2 = f_ := ⟨_, rfl⟩
            have bf303 : B f303 0 160 := by have z_ := hJ302.1 23 2; rw [ef303] at z_; exact z_
            have zf303 := congrArg Int32.toInt ef303
            obtain ⟨f304, ef304⟩ : ∃ f_, h302 23 3 = f_ := ⟨_, rfl⟩
            have zf304 := congrArg Int32.toInt ef304
            obtain ⟨f305, ef305⟩ : ∃ f_, h302 23 7 = f_ := ⟨_, rfl⟩
            have zf305 := congrArg Int32.toInt ef305
            have z306 := congrArg Int32.toInt (rd_w k302 (rd_o k264 z251 rfl) rfl)
            refine ev_goto rfl rfl ?_
            exact ev_vret rfl rfl trivial ⟨rfl, rfl, hJ302, (by have z0_ := congrArg Int32.toInt (rd_w k302 (rd_o k264 z251 rfl) rfl); have z1_ := congrArg Int32.toInt ef303; have z_ := w_lits; have zl_ := l_lits; omega), (by have z0_ := congrArg Int32.toInt ef303; have z1_ := congrArg Int32.toInt ef304; have z2_ := congrArg Int32.toInt ef305; have z_ := w_lits; have zl_ := l_lits; omega)⟩
        · have z269 := w_le (Int32.not_lt.mp c265)
          refine ev_aload_n rfl rfl rfl ?_
          refine ev_iconst (v := 0) rfl rfl (by decide) ?_
          refine ev_putW (l := (-2147483648)) (u := 2147483647) hJ264 rfl (by decide : B 0 0 0) (by decide) (by decide) rfl rfl rfl fl_X2_22 rfl rfl rfl rfl rfl (fun h307 hJ307 k307 => ?_)
          refine ev_goto rfl rfl ?_
          exact ev_vret rfl rfl trivial ⟨rfl, rfl, hJ307, (by have z0_ := congrArg Int32.toInt (rd_o k307 (rd_o k264 z251 rfl) rfl); have z1_ := congrArg Int32.toInt (rd_o k307 (rd_o k264 ef254 rfl) rfl); have z_ := w_lits; have zl_ := l_lits; omega), (by have z0_ := congrArg Int32.toInt (rd_o k307 (rd_o k264 ef254 rfl) rfl); have z1_ := congrArg Int32.toInt (rd_s k307); have z2_ := congrArg Int32.toInt (rd_o k307 (rd_o k264 z253 rfl) rfl); have z_ := w_lits; have zl_ := l_lits; omega)⟩
      · have b261 : B f254 0 159 := R_ltX bf254 bf1 (Int32.not_le.mp c259) (by decide)
        have b262 : B f1 1 160 := R_ltY bf254 bf1 (Int32.not_le.mp c259) (by decide)
        have z263 := w_lt (Int32.not_le.mp c259)
        refine ev_aload_n rfl rfl rfl ?_
        refine ev_getR (y := 24) rfl rfl fl_X2_11 rfl rfl rfl rfl ?_
        refine ev_aload_n rfl rfl rfl ?_
        refine ev_getV (v := f254) rfl rfl fl_X2_19 rfl rfl rfl ef254 ?_
        refine ev_balW (n := 160) (l := (-2147483648)) (u := 2147483647) hJ250.1 b261 (by decide) (by decide) (fun _ => rfl) rfl rfl rfl (fun v308 b308 e308 => ?_)
        refine ev_bipush (v := 32) rfl rfl (by decide) ?_
        refine ev_icmp_ne rfl rfl (fun c309 => ?_) (fun c309 => ?_)
        · have z310 := w_ne c309
          rw [show (32 : Int32).toInt = 32 from by decide] at z310
          refine ev_aload_n rfl rfl rfl ?_
          refine ev_aload_n rfl rfl rfl ?_
          refine ev_getV (v := f254) rfl rfl fl_X2_19 rfl rfl rfl ef254 ?_
          refine ev_putW (l := (-2147483648)) (u := 2147483647) hJ250 rfl b261 (by decide) (by decide) rfl rfl rfl fl_X2_25 rfl rfl rfl rfl rfl (fun h313 hJ313 k313 => ?_)
          refine ev_aload_n rfl rfl rfl ?_
          refine ev_getV (v := f254) rfl rfl fl_X2_19 rfl rfl rfl (rd_o k313 ef254 rfl) ?_
          refine ev_aload_n rfl rfl rfl ?_
          refine ev_getV (v := f1) rfl rfl fl_X2_15 rfl rfl rfl (rd_o k313 z251 rfl) ?_
          refine ev_icmp_lt rfl rfl (fun c314 => ?_) (fun c314 => ?_)
          · have z315 := w_lt c314
            refine ev_aload_n rfl rfl rfl ?_
            refine ev_aload_n rfl rfl rfl ?_
            refine ev_getV (v := f254) rfl rfl fl_X2_19 rfl rfl rfl (rd_o k313 ef254 rfl) ?_
            have z319 := congrArg Int32.toInt (rd_o k313 z251 rfl)
            refine ev_V1P rfl rfl lk_X2_63 vt_X2_isLetter rfl rfl rfl rfl rfl (w_X2_isLetter_23 L b h313 hJ313.1 f254 (b261.mono (by decide) (by decide)) v308 (rd_o k313 e308 rfl)) (fun r320 q320 => ?_)
            obtain ⟨b320, p320_0, p320_1, pp320_0, pp320_1⟩ := q320
            refine ev_if_eq rfl rfl (fun c321 => ?_) (fun c321 => ?_)
            · have b322 : B r320 0 0 := R_eqX b320 (by decide : B 0 0 0) c321
              have z323 := congrArg Int32.toInt c321
              rw [show (0 : Int32).toInt = 0 from by decide] at z323
              refine ev_aload_n rfl rfl rfl ?_
              refine ev_aload_n rfl rfl rfl ?_
              refine ev_getV (v := f254) rfl rfl fl_X2_19 rfl rfl rfl (rd_o k313 ef254 rfl) ?_
              refine ev_V1P rfl rfl lk_X2_70 vt_X2_isFigure rfl rfl rfl rfl rfl (w_X2_isFigure_23 L b h313 hJ313.1 f254 (b261.mono (by decide) (by decide)) v308 (rd_o k313 e308 rfl)) (fun r327 q327 => ?_)
              obtain ⟨b327, p327_0, p327_1, pp327_0, pp327_1⟩ := q327
              refine ev_if_eq rfl rfl (fun c328 => ?_) (fun c328 => ?_)
              · have b329 : B r327 0 0 := R_eqX b327 (by decide : B 0 0 0) c328
                have z330 := congrArg Int32.toInt c328
                rw [show (0 : Int32).toInt = 0 from by decide] at z330
                refine ev_aload_n rfl rfl rfl ?_
                have z334 := congrArg Int32.toInt (rd_o k313 ef254 rfl)
                have z335 := congrArg Int32.toInt (rd_o k313 z252 rfl)
                have z336 := congrArg Int32.toInt (rd_o k313 z253 rfl)
                refine ev_V0K hJ313 rfl rfl rfl lk_X2_76 vt_X2_readSign rfl rfl rfl rfl rfl (w_X2_readSign_23 L b h313 hJ313.1 (by have z0_ := congrArg Int32.toInt (rd_o k313 z251 rfl); have z1_ := congrArg Int32.toInt (rd_o k313 ef254 rfl); have z_ := w_lits; have zl_ := l_lits; omega)) (fun h337 hJ337 k337 m337 => ?_)
                obtain ⟨m337_0, m337_1⟩ := m337
                obtain ⟨f338, ef338⟩ : ∃ f_, h337 23 2 = f_ := ⟨_, rfl⟩
                have bf338 : B f338 0 160 := by have z_ := hJ337.1 23 2; rw [ef338] at z_; exact z_
                have zf338 := congrArg Int32.toInt ef338
                obtain ⟨f339, ef339⟩ : ∃ f_, h337 23 3 = f_ := ⟨_, rfl⟩
                have zf339 := congrArg Int32.toInt ef339
                obtain ⟨f340, ef340⟩ : ∃ f_, h337 23 7 = f_ := ⟨_, rfl⟩
                have zf340 := congrArg Int32.toInt ef340
                exact ev_vret rfl rfl trivial ⟨rfl, rfl, hJ337, (by have z0_ := congrArg Int32.toInt (rd_w k337 (rd_o k313 z251 rfl) rfl); have z1_ := congrArg Int32.toInt ef338; have z_ := w_lits; have zl_ := l_lits; omega), (by have z0_ := congrArg Int32.toInt ef338; have z1_ := congrArg Int32.toInt ef339; have z2_ := congrArg Int32.toInt ef340; have z_ := w_lits; have zl_ := l_lits; omega)⟩
              · have b331 : B r327 1 1 := R_neL b327 (by decide : B 0 0 0) c328 (by decide)
                have b332 : B v308 48 57 := p327_1 c328
                have z333 := w_ne c328
                rw [show (0 : Int32).toInt = 0 from by decide] at z333
                refine ev_aload_n rfl rfl rfl ?_
                have z341 := congrArg Int32.toInt (rd_o k313 ef254 rfl)
                have z342 := congrArg Int32.toInt (rd_o k313 z253 rfl)
                refine ev_V0K hJ313 rfl rfl rfl lk_X2_73 vt_X2_readNumber rfl rfl rfl rfl rfl (w_X2_readNumber_23 L b h313 hJ313.1 v308 (by rw [(rd_o k313 ef254 rfl)]; exact (rd_o k313 e308 rfl)) b332 (by have z0_ := congrArg Int32.toInt (rd_o k313 z251 rfl); have z1_ := congrArg Int32.toInt (rd_o k313 ef254 rfl); have z_ := w_lits; have zl_ := l_lits; omega)) (fun h343 hJ343 k343 m343 => ?_)
                obtain ⟨m343_0, m343_1⟩ := m343
                obtain ⟨f344, ef344⟩ : ∃ f_, h343 23 2 = f_ := ⟨_, rfl⟩
                have bf344 : B f344 0 160 := by have z_ := hJ343.1 23 2; rw [ef344] at z_; exact z_
                have zf344 := congrArg Int32.toInt ef344
                obtain ⟨f345, ef345⟩ : ∃ f_, h343 23 3 = f_ := ⟨_, rfl⟩
                have zf345 := congrArg Int32.toInt ef345
                obtain ⟨f346, ef346⟩ : ∃ f_, h343 23 7 = f_ := ⟨_, rfl⟩
                have zf346 := congrArg Int32.toInt ef346
                have z347 := congrArg Int32.toInt (rd_w k343 (rd_o k313 z251 rfl) rfl)
                refine ev_goto rfl rfl ?_
                exact ev_vret rfl rfl trivial ⟨rfl, rfl, hJ343, (by have z0_ := congrArg Int32.toInt (rd_w k343 (rd_o k313 z251 rfl) rfl); have z1_ := congrArg Int32.toInt ef344; have z_ := w_lits; have zl_ := l_lits; omega), (by have z0_ := congrArg Int32.toInt ef344; have z1_ := congrArg Int32.toInt ef345; have z2_ := congrArg Int32.toInt ef346; have z_ := w_lits; have zl_ := l_lits; omega)⟩
            · have b324 : B r320 1 1 := R_neL b320 (by decide : B 0 0 0) c321 (by decide)
              have b325 : B v308 97 122 := p320_1 c321
              have z326 := w_ne c321
              rw [show (0 : Int32).toInt = 0 from by decide] at z326
              refine ev_aload_n rfl rfl rfl ?_
              have z348 := congrArg Int32.toInt (rd_o k313 ef254 rfl)
              have z349 := congrArg Int32.toInt (rd_o k313 z253 rfl)
              refine ev_V0K hJ313 rfl rfl rfl lk_X2_67 vt_X2_readChord rfl rfl rfl rfl rfl (w_X2_readChord_23 L b h313 hJ313.1 v308 (by rw [(rd_o k313 ef254 rfl)]; exact (rd_o k313 e308 rfl)) b325 (by have z0_ := congrArg Int32.toInt (rd_o k313 z251 rfl); have z1_ := congrArg Int32.toInt (rd_o k313 ef254 rfl); have z_ := w_lits; have zl_ := l_lits; omega)) (fun h350 hJ350 k350 m350 => ?_)
              obtain ⟨m350_0, m350_1⟩ := m350
              obtain ⟨f351, ef351⟩ : ∃ f_, h350 23 2 = f_ := ⟨_, rfl⟩
              have bf351 : B f351 0 160 := by have z_ := hJ350.1 23 2; rw [ef351] at z_; exact z_
              have zf351 := congrArg Int32.toInt ef351
              obtain ⟨f352, ef352⟩ : ∃ f_, h350 23 3 = f_ := ⟨_, rfl⟩
              have zf352 := congrArg Int32.toInt ef352
              obtain ⟨f353, ef353⟩ : ∃ f_, h350 23 7 = f_ := ⟨_, rfl⟩
              have zf353 := congrArg Int32.toInt ef353
              have z354 := congrArg Int32.toInt (rd_w k350 (rd_o k313 z251 rfl) rfl)
              refine ev_goto rfl rfl ?_
              exact ev_vret rfl rfl trivial ⟨rfl, rfl, hJ350, (by have z0_ := congrArg Int32.toInt (rd_w k350 (rd_o k313 z251 rfl) rfl); have z1_ := congrArg Int32.toInt ef351; have z_ := w_lits; have zl_ := l_lits; omega), (by have z0_ := congrArg Int32.toInt ef351; have z1_ := congrArg Int32.toInt ef352; have z2_ := congrArg Int32.toInt ef353; have z_ := w_lits; have zl_ := l_lits; omega)⟩
          · have b316 : B f254 1 159 := R_leY b262 b261 (Int32.not_lt.mp c314) (by decide)
            have b317 : B f1 1 159 := R_leX b262 b261 (Int32.not_lt.mp c314) (by decide)
            have z318 := w_le (Int32.not_lt.mp c314)
            refine ev_aload_n rfl rfl rfl ?_
            refine ev_iconst (v := 0) rfl rfl (by decide) ?_
            refine ev_putW (l := (-2147483648)) (u := 2147483647) hJ313 rfl (by decide : B 0 0 0) (by decide) (by decide) rfl rfl rfl fl_X2_22 rfl rfl rfl rfl rfl (fun h355 hJ355 k355 => ?_)
            refine ev_goto rfl rfl ?_
            exact ev_vret rfl rfl trivial ⟨rfl, rfl, hJ355, (by have z0_ := congrArg Int32.toInt (rd_o k355 (rd_o k313 z251 rfl) rfl); have z1_ := congrArg Int32.toInt (rd_o k355 (rd_o k313 ef254 rfl) rfl); have z_ := w_lits; have zl_ := l_lits; omega), (by have z0_ := congrArg Int32.toInt (rd_o k355 (rd_o k313 ef254 rfl) rfl); have z1_ := congrArg Int32.toInt (rd_s k355); have z2_ := congrArg Int32.toInt (rd_o k355 (rd_o k313 z253 rfl) rfl); have z_ := w_lits; have zl_ := l_lits; omega)⟩
        · have b311 : B v308 32 32 := R_eqX (B.any v308) (by decide : B 32 32 32) c309
          have z312 := congrArg Int32.toInt c309
          rw [show (32 : Int32).toInt = 32 from by decide] at z312
          refine ev_aload_n rfl rfl rfl ?_
          refine ev_dup rfl rfl rfl ?_
          refine ev_getV (v := f254) rfl rfl fl_X2_19 rfl rfl rfl ef254 ?_
          refine ev_iconst (v := 1) rfl rfl (by decide) ?_
          refine ev_iaddB (l := 1) (u := 160) rfl rfl b261 (by decide : B 1 1 1) (by decide) (by decide) (by decide) (by decide) (fun v356 b356 e356 g356 => ?_)
          have e356x := e356; rw [show (1 : Int32).toInt = 1 from by decide] at e356x
          have b357 : B v356 0 160 := ⟨(by have z0_ := congrArg Int32.toInt z251; have z1_ := congrArg Int32.toInt ef254; have z2_ := congrArg Int32.toInt z252; have z3_ := congrArg Int32.toInt z253; have z_ := w_lits; have zl_ := l_lits; omega), (by have z0_ := congrArg Int32.toInt z251; have z1_ := congrArg Int32.toInt ef254; have z2_ := congrArg Int32.toInt z252; have z3_ := congrArg Int32.toInt z253; have z_ := w_lits; have zl_ := l_lits; omega)⟩
          refine ev_putW (l := 0) (u := 160) hJ250 rfl b357 (by decide) (by decide) rfl rfl rfl fl_X2_19 rfl rfl rfl rfl rfl (fun h358 hJ358 k358 => ?_)
          refine ev_goto rfl rfl ?_
          exact (ih0 h358 hJ358 (rd_o k358 z251 rfl) (rd_o k358 z252 rfl) (rd_o k358 z253 rfl) (by have z0_ := congrArg Int32.toInt (rd_s k358); have z_ := w_lits; have zl_ := l_lits; omega) (by have z0_ := congrArg Int32.toInt (rd_o k358 z251 rfl); have z1_ := congrArg Int32.toInt (rd_s k358); have z_ := w_lits; have zl_ := l_lits; omega) (by rw [(rd_s k358)]; exact L_up hm0 (e_p1 e356 (by decide))))
  exact (lp0_248 161 h hJ0 ef1 ef3 ef4 (by have z0_ := congrArg Int32.toInt ef2; have z_ := w_lits; have zl_ := l_lits; omega) (by have z0_ := congrArg Int32.toInt ef1; have z1_ := congrArg Int32.toInt ef2; have z_ := w_lits; have zl_ := l_lits; omega) (by rw [ef2]; exact L_init bf2 (by decide)))

set_option maxRecDepth 100000 in
set_option maxHeartbeats 4000000 in
theorem w_X2_misplaced_23 (L : Nat) (b : Bool) (h : Hp) (hB : Bx h)  : EvI mi_X2_misplaced [.ref 23] (G0 L b) h (fun (r : Int32) (z : Hp) => B r 3 3 ∧ ((z 23 7).toInt = 2)) [(23, 7), (23, 8)] := by
  refine EvM.of2 (lo := [some (.ref 23)]) pf_X2_misplaced ok_X2_misplaced rfl rfl ?_
  have hJ0 : JW [(23, 7), (23, 8)] h h := JW.refl hB
  obtain ⟨f1, ef1⟩ : ∃ f_, h 23 7 = f_ := ⟨_, rfl⟩
  have zf1 := congrArg Int32.toInt ef1
  refine ev_aload_n rfl rfl rfl ?_
  refine ev_iconst (v := 2) rfl rfl (by decide) ?_
  refine ev_aload_n rfl rfl rfl ?_
  refine ev_getW (l := (-2147483648)) (u := 2147483647) hJ0.1 rfl rfl rfl fl_X2_25 rfl rfl rfl (fun v2 b2 e2 => ?_)
  refine ev_V2K hJ0 rfl rfl rfl lk_X2_79 vt_X2_fail rfl rfl rfl rfl rfl (w_X2_fail_23 L b h hJ0.1 2 v2) (fun h3 hJ3 k3 m3 => ?_)
  obtain ⟨f4, ef4⟩ : ∃ f_, h3 23 7 = f_ := ⟨_, rfl⟩
  have zf4 := congrArg Int32.toInt ef4
  refine ev_iconst (v := 3) rfl rfl (by decide) ?_
  exact ev_iret rfl rfl rfl ⟨⟨_, rfl, ⟨(by decide : B 3 3 3), (by have z0_ := congrArg Int32.toInt ef4; have z_ := w_lits; have zl_ := l_lits; omega)⟩⟩, rfl, hJ3⟩

set_option maxRecDepth 100000 in
set_option maxHeartbeats 4000000 in
theorem w_X2_takeEnd_23 (L : Nat) (b : Bool) (h : Hp) (hB : Bx h)  : EvI mi_X2_takeEnd [.ref 23] (G0 L b) h (fun (r : Int32) (z : Hp) => B r 3 3 ∧ ((z 23 7).toInt = 0 → (z 23 10).toInt ≤ 24)) [(23, 7), (23, 8)] := by
  refine EvM.of2 (lo := [some (.ref 23)]) pf_X2_takeEnd ok_X2_takeEnd rfl rfl ?_
  have hJ0 : JW [(23, 7), (23, 8)] h h := JW.refl hB
  obtain ⟨f1, ef1⟩ : ∃ f_, h 23 7 = f_ := ⟨_, rfl⟩
  have zf1 := congrArg Int32.toInt ef1
  obtain ⟨f2, ef2⟩ : ∃ f_, h 23 10 = f_ := ⟨_, rfl⟩
  have bf2 : B f2 0 25 := by have z_ := hJ0.1 23 10; rw [ef2] at z_; exact z_
  have zf2 := congrArg Int32.toInt ef2
  refine ev_aload_n rfl rfl rfl ?_
  refine ev_getV (v := f2) rfl rfl fl_X2_44 rfl rfl rfl ef2 ?_
  refine ev_bipush (v := 24) rfl rfl (by decide) ?_
  refine ev_icmp_le rfl rfl (fun c3 => ?_) (fun c3 => ?_)
  · have b4 : B f2 0 24 := R_leX bf2 (by decide : B 24 24 24) c3 (by decide)
    have z5 := w_le c3
    rw [show (24 : Int32).toInt = 24 from by decide] at z5
    refine ev_iconst (v := 3) rfl rfl (by decide) ?_
    exact ev_iret rfl rfl rfl ⟨⟨_, rfl, ⟨(by decide : B 3 3 3), (by have z0_ := congrArg Int32.toInt ef1; have z1_ := congrArg Int32.toInt ef2; have z_ := w_lits; have zl_ := l_lits; omega)⟩⟩, rfl, hJ0⟩
  · have b6 : B f2 25 25 := R_ltY (by decide : B 24 24 24) bf2 (Int32.not_le.mp c3) (by decide)
    have z7 := w_lt (Int32.not_le.mp c3)
    rw [show (24 : Int32).toInt = 24 from by decide] at z7
    refine ev_aload_n rfl rfl rfl ?_
    refine ev_bipush (v := 6) rfl rfl (by decide) ?_
    refine ev_iconst (v := 0) rfl rfl (by decide) ?_
    refine ev_V2K hJ0 rfl rfl rfl lk_X2_79 vt_X2_fail rfl rfl rfl rfl rfl (w_X2_fail_23 L b h hJ0.1 6 0) (fun h8 hJ8 k8 m8 => ?_)
    obtain ⟨f9, ef9⟩ : ∃ f_, h8 23 7 = f_ := ⟨_, rfl⟩
    have zf9 := congrArg Int32.toInt ef9
    refine ev_iconst (v := 3) rfl rfl (by decide) ?_
    exact ev_iret rfl rfl rfl ⟨⟨_, rfl, ⟨(by decide : B 3 3 3), (by have z0_ := congrArg Int32.toInt ef9; have z1_ := congrArg Int32.toInt (rd_w k8 ef2 rfl); have z_ := w_lits; have zl_ := l_lits; omega)⟩⟩, rfl, hJ8⟩

set_option maxRecDepth 100000 in
set_option maxHeartbeats 4000000 in
theorem w_X2_addBeat_23 (L : Nat) (b : Bool) (h : Hp) (hB : Bx h) (a0 : Int32) (p0 : B a0 0 4095) (rp0 : (0 < (h 23 13).toInt → (h 26 0).toInt ≤ (h 23 10).toInt)) (rp1 : (1 < (h 23 13).toInt → (h 26 0).toInt ≤ (h 26 1).toInt ∧ (h 26 1).toInt ≤ (h 23 10).toInt)) (rp2 : (2 < (h 23 13).toInt → (h 26 1).toInt ≤ (h 26 2).toInt ∧ (h 26 2).toInt ≤ (h 23 10).toInt)) (rp3 : (3 < (h 23 13).toInt → (h 26 2).toInt ≤ (h 26 3).toInt ∧ (h 26 3).toInt ≤ (h 23 10).toInt)) : EvI mi_X2_addBeat [.ref 23, .int a0] (G0 L b) h (fun (r : Int32) (z : Hp) => B r 1 1 ∧ ((0 < (z 23 13).toInt → (z 26 0).toInt ≤ (z 23 10).toInt)) ∧ ((1 < (z 23 13).toInt → (z 26 0).toInt ≤ (z 26 1).toInt ∧ (z 26 1).toInt ≤ (z 23 10).toInt)) ∧ ((2 < (z 23 13).toInt → (z 26 1).toInt ≤ (z 26 2).toInt ∧ (z 26 2).toInt ≤ (z 23 10).toInt)) ∧ ((3 < (z 23 13).toInt → (z 26 2).toInt ≤ (z 26 3).toInt ∧ (z 26 3).toInt ≤ (z 23 10).toInt))) [(23, 10), (25, 999)] := by
  refine EvM.of2 (lo := [some (.ref 23), some (.int a0)]) pf_X2_addBeat ok_X2_addBeat rfl rfl ?_
  have hJ0 : JW [(23, 10), (25, 999)] h h := JW.refl hB
  obtain ⟨f1, ef1⟩ : ∃ f_, h 23 10 = f_ := ⟨_, rfl⟩
  have bf1 : B f1 0 25 := by have z_ := hJ0.1 23 10; rw [ef1] at z_; exact z_
  have zf1 := congrArg Int32.toInt ef1
  obtain ⟨f2, ef2⟩ : ∃ f_, h 23 13 = f_ := ⟨_, rfl⟩
  have bf2 : B f2 0 4 := by have z_ := hJ0.1 23 13; rw [ef2] at z_; exact z_
  have zf2 := congrArg Int32.toInt ef2
  obtain ⟨f3, ef3⟩ : ∃ f_, h 26 0 = f_ := ⟨_, rfl⟩
  have bf3 : B f3 0 25 := by have z_ := hJ0.1 26 0; rw [ef3] at z_; exact z_
  have zf3 := congrArg Int32.toInt ef3
  obtain ⟨f4, ef4⟩ : ∃ f_, h 26 1 = f_ := ⟨_, rfl⟩
  have bf4 : B f4 0 25 := by have z_ := hJ0.1 26 1; rw [ef4] at z_; exact z_
  have zf4 := congrArg Int32.toInt ef4
  obtain ⟨f5, ef5⟩ : ∃ f_, h 26 2 = f_ := ⟨_, rfl⟩
  have bf5 : B f5 0 25 := by have z_ := hJ0.1 26 2; rw [ef5] at z_; exact z_
  have zf5 := congrArg Int32.toInt ef5
  obtain ⟨f6, ef6⟩ : ∃ f_, h 26 3 = f_ := ⟨_, rfl⟩
  have bf6 : B f6 0 25 := by have z_ := hJ0.1 26 3; rw [ef6] at z_; exact z_
  have zf6 := congrArg Int32.toInt ef6
  refine ev_aload_n rfl rfl rfl ?_
  refine ev_getV (v := f1) rfl rfl fl_X2_44 rfl rfl rfl ef1 ?_
  refine ev_bipush (v := 24) rfl rfl (by decide) ?_
  refine ev_icmp_ge rfl rfl (fun c7 => ?_) (fun c7 => ?_)
  · have b8 : B f1 24 25 := R_leY (by decide : B 24 24 24) bf1 c7 (by decide)
    have z9 := w_le c7
    rw [show (24 : Int32).toInt = 24 from by decide] at z9
    refine ev_aload_n rfl rfl rfl ?_
    refine ev_bipush (v := 25) rfl rfl (by decide) ?_
    refine ev_aload_n rfl rfl rfl ?_
    refine ev_getV (v := f1) rfl rfl fl_X2_44 rfl rfl rfl ef1 ?_
    refine ev_iconst (v := 1) rfl rfl (by decide) ?_
    refine ev_iaddB (l := 25) (u := 26) rfl rfl b8 (by decide : B 1 1 1) (by decide) (by decide) (by decide) (by decide) (fun v12 b12 e12 g12 => ?_)
    have e12x := e12; rw [show (1 : Int32).toInt = 1 from by decide] at e12x
    refine ev_S2P rfl rfl lk_X2_105 st_J9_min_7cf53 rfl rfl (w_minR (l := 25) (u := 25) (G0 L b) h 25 v12 (by decide : B 25 25 25) b12 (by decide) (by decide) (Or.inl (by decide))) (fun r13 q13 => ?_)
    obtain ⟨b13, pp13_0, pp13_1, pp13_2⟩ := q13
    refine ev_putW (l := 0) (u := 25) hJ0 rfl b13 (by decide) (by decide) rfl rfl rfl fl_X2_44 rfl rfl rfl rfl rfl (fun h14 hJ14 k14 => ?_)
    refine ev_iconst (v := 1) rfl rfl (by decide) ?_
    exact ev_iret rfl rfl rfl ⟨⟨_, rfl, ⟨(by decide : B 1 1 1), (by have z0_ := congrArg Int32.toInt (rd_s k14); have z1_ := congrArg Int32.toInt (rd_o k14 ef2 rfl); have z2_ := congrArg Int32.toInt (rd_o k14 ef3 rfl); have z_ := w_lits; have zl_ := l_lits; omega), (by have z0_ := congrArg Int32.toInt (rd_s k14); have z1_ := congrArg Int32.toInt (rd_o k14 ef2 rfl); have z2_ := congrArg Int32.toInt (rd_o k14 ef3 rfl); have z3_ := congrArg Int32.toInt (rd_o k14 ef4 rfl); have z_ := w_lits; have zl_ := l_lits; omega), (by have z0_ := congrArg Int32.toInt (rd_s k14); have z1_ := congrArg Int32.toInt (rd_o k14 ef2 rfl); have z2_ := congrArg Int32.toInt (rd_o k14 ef4 rfl); have z3_ := congrArg Int32.toInt (rd_o k14 ef5 rfl); have z_ := w_lits; have zl_ := l_lits; omega), (by have z0_ := congrArg Int32.toInt (rd_s k14); have z1_ := congrArg Int32.toInt (rd_o k14 ef2 rfl); have z2_ := congrArg Int32.toInt (rd_o k14 ef5 rfl); have z3_ := congrArg Int32.toInt (rd_o k14 ef6 rfl); have z_ := w_lits; have zl_ := l_lits; omega)⟩⟩, rfl, hJ14⟩
  · have b10 : B f1 0 23 := R_ltX bf1 (by decide : B 24 24 24) (Int32.not_le.mp c7) (by decide)
    have z11 := w_lt (Int32.not_le.mp c7)
    rw [show (24 : Int32).toInt = 24 from by decide] at z11
    refine ev_aload_n rfl rfl rfl ?_
    refine ev_getR (y := 25) rfl rfl fl_X2_40 rfl rfl rfl rfl ?_
    refine ev_aload_n rfl rfl rfl ?_
    refine ev_getV (v := f1) rfl rfl fl_X2_44 rfl rfl rfl ef1 ?_
    refine ev_iload_n rfl rfl rfl ?_
    refine ev_iasW (n := 24) (l := 0) (u := 4095) hJ0 b10 (by decide) (by decide) (fun _ => rfl) p0 (by decide) (by decide) (fun _ => rfl) rfl rfl rfl rfl (fun h15 hJ15 k15 => ?_)
    refine ev_aload_n rfl rfl rfl ?_
    refine ev_bipush (v := 25) rfl rfl (by decide) ?_
    refine ev_aload_n rfl rfl rfl ?_
    refine ev_getV (v := f1) rfl rfl fl_X2_44 rfl rfl rfl (rd_a k15 ef1 rfl) ?_
    refine ev_iconst (v := 1) rfl rfl (by decide) ?_
    refine ev_iaddB (l := 1) (u := 24) rfl rfl b10 (by decide : B 1 1 1) (by decide) (by decide) (by decide) (by decide) (fun v16 b16 e16 g16 => ?_)
    have e16x := e16; rw [show (1 : Int32).toInt = 1 from by decide] at e16x
    have z17 := congrArg Int32.toInt (rd_a k15 ef1 rfl)
    have z18 := congrArg Int32.toInt (rd_a k15 ef2 rfl)
    have z19 := congrArg Int32.toInt (rd_a k15 ef3 rfl)
    have z20 := congrArg Int32.toInt (rd_a k15 ef4 rfl)
    have z21 := congrArg Int32.toInt (rd_a k15 ef5 rfl)
    have z22 := congrArg Int32.toInt (rd_a k15 ef6 rfl)
    refine ev_S2P rfl rfl lk_X2_105 st_J9_min_7cf53 rfl rfl (w_minR (l := 1) (u := 24) (G0 L b) h15 25 v16 (by decide : B 25 25 25) b16 (by decide) (by decide) (Or.inr (by decide))) (fun r23 q23 => ?_)
    obtain ⟨b23, pp23_0, pp23_1, pp23_2⟩ := q23
    refine ev_putW (l := 0) (u := 25) hJ15 rfl b23 (by decide) (by decide) rfl rfl rfl fl_X2_44 rfl rfl rfl rfl rfl (fun h24 hJ24 k24 => ?_)
    refine ev_iconst (v := 1) rfl rfl (by decide) ?_
    exact ev_iret rfl rfl rfl ⟨⟨_, rfl, ⟨(by decide : B 1 1 1), (by have z0_ := congrArg Int32.toInt (rd_s k24); have z1_ := congrArg Int32.toInt (rd_o k24 (rd_a k15 ef2 rfl) rfl); have z2_ := congrArg Int32.toInt (rd_o k24 (rd_a k15 ef3 rfl) rfl); have z_ := w_lits; have zl_ := l_lits; omega), (by have z0_ := congrArg Int32.toInt (rd_s k24); have z1_ := congrArg Int32.toInt (rd_o k24 (rd_a k15 ef2 rfl) rfl); have z2_ := congrArg Int32.toInt (rd_o k24 (rd_a k15 ef3 rfl) rfl); have z3_ := congrArg Int32.toInt (rd_o k24 (rd_a k15 ef4 rfl) rfl); have z_ := w_lits; have zl_ := l_lits; omega), (by have z0_ := congrArg Int32.toInt (rd_s k24); have z1_ := congrArg Int32.toInt (rd_o k24 (rd_a k15 ef2 rfl) rfl); have z2_ := congrArg Int32.toInt (rd_o k24 (rd_a k15 ef4 rfl) rfl); have z3_ := congrArg Int32.toInt (rd_o k24 (rd_a k15 ef5 rfl) rfl); have z_ := w_lits; have zl_ := l_lits; omega), (by have z0_ := congrArg Int32.toInt (rd_s k24); have z1_ := congrArg Int32.toInt (rd_o k24 (rd_a k15 ef2 rfl) rfl); have z2_ := congrArg Int32.toInt (rd_o k24 (rd_a k15 ef5 rfl) rfl); have z3_ := congrArg Int32.toInt (rd_o k24 (rd_a k15 ef6 rfl) rfl); have z_ := w_lits; have zl_ := l_lits; omega)⟩⟩, rfl, hJ24⟩

set_option maxRecDepth 100000 in
set_option maxHeartbeats 4000000 in
theorem w_X2_takeChord_23 (L : Nat) (b : Bool) (h : Hp) (hB : Bx h) (rp0 : (0 < (h 23 13).toInt → (h 26 0).toInt ≤ (h 23 10).toInt)) (rp1 : (1 < (h 23 13).toInt → (h 26 0).toInt ≤ (h 26 1).toInt ∧ (h 26 1).toInt ≤ (h 23 10).toInt)) (rp2 : (2 < (h 23 13).toInt → (h 26 1).toInt ≤ (h 26 2).toInt ∧ (h 26 2).toInt ≤ (h 23 10).toInt)) (rp3 : (3 < (h 23 13).toInt → (h 26 2).toInt ≤ (h 26 3).toInt ∧ (h 26 3).toInt ≤ (h 23 10).toInt)) : EvI mi_X2_takeChord [.ref 23] (G0 L b) h (fun (r : Int32) (z : Hp) => B r 1 1 ∧ ((0 < (z 23 13).toInt → (z 26 0).toInt ≤ (z 23 10).toInt)) ∧ ((1 < (z 23 13).toInt → (z 26 0).toInt ≤ (z 26 1).toInt ∧ (z 26 1).toInt ≤ (z 23 10).toInt)) ∧ ((2 < (z 23 13).toInt → (z 26 1).toInt ≤ (z 26 2).toInt ∧ (z 26 2).toInt ≤ (z 23 10).toInt)) ∧ ((3 < (z 23 13).toInt → (z 26 2).toInt ≤ (z 26 3).toInt ∧ (z 26 3).toInt ≤ (z 23 10).toInt))) [(23, 7), (23, 8), (23, 10), (25, 999)] := by
  refine EvM.of2 (lo := [some (.ref 23)]) pf_X2_takeChord ok_X2_takeChord rfl rfl ?_
  have hJ0 : JW [(23, 7), (23, 8), (23, 10), (25, 999)] h h := JW.refl hB
  obtain ⟨f1, ef1⟩ : ∃ f_, h 23 10 = f_ := ⟨_, rfl⟩
  have bf1 : B f1 0 25 := by have z_ := hJ0.1 23 10; rw [ef1] at z_; exact z_
  have zf1 := congrArg Int32.toInt ef1
  obtain ⟨f2, ef2⟩ : ∃ f_, h 23 13 = f_ := ⟨_, rfl⟩
  have bf2 : B f2 0 4 := by have z_ := hJ0.1 23 13; rw [ef2] at z_; exact z_
  have zf2 := congrArg Int32.toInt ef2
  obtain ⟨f3, ef3⟩ : ∃ f_, h 26 0 = f_ := ⟨_, rfl⟩
  have bf3 : B f3 0 25 := by have z_ := hJ0.1 26 0; rw [ef3] at z_; exact z_
  have zf3 := congrArg Int32.toInt ef3
  obtain ⟨f4, ef4⟩ : ∃ f_, h 26 1 = f_ := ⟨_, rfl⟩
  have bf4 : B f4 0 25 := by have z_ := hJ0.1 26 1; rw [ef4] at z_; exact z_
  have zf4 := congrArg Int32.toInt ef4
  obtain ⟨f5, ef5⟩ : ∃ f_, h 26 2 = f_ := ⟨_, rfl⟩
  have bf5 : B f5 0 25 := by have z_ := hJ0.1 26 2; rw [ef5] at z_; exact z_
  have zf5 := congrArg Int32.toInt ef5
  obtain ⟨f6, ef6⟩ : ∃ f_, h 26 3 = f_ := ⟨_, rfl⟩
  have bf6 : B f6 0 25 := by have z_ := hJ0.1 26 3; rw [ef6] at z_; exact z_
  have zf6 := congrArg Int32.toInt ef6
  refine ev_aload_n rfl rfl rfl ?_
  refine ev_getW (l := (-2147483648)) (u := 2147483647) hJ0.1 rfl rfl rfl fl_X2_31 rfl rfl rfl (fun v7 b7 e7 => ?_)
  refine ev_iconst (v := (-1)) rfl rfl (by decide) ?_
  refine ev_icmp_eq rfl rfl (fun c8 => ?_) (fun c8 => ?_)
  · have b9 : B v7 (-1) (-1) := R_eqX (B.any v7) (by decide : B (-1) (-1) (-1)) c8
    have z10 := congrArg Int32.toInt c8
    rw [show ((-1) : Int32).toInt = (-1) from by decide] at z10
    refine ev_aload_n rfl rfl rfl ?_
    refine ev_aload_n rfl rfl rfl ?_
    refine ev_getW (l := 0) (u := 4095) hJ0.1 rfl rfl rfl fl_X2_28 rfl rfl rfl (fun v12 b12 e12 => ?_)
    refine ev_V1I hJ0 rfl rfl rfl lk_X2_93 vt_X2_addBeat rfl rfl rfl rfl rfl (w_X2_addBeat_23 L b h hJ0.1 v12 b12 (by have z0_ := congrArg Int32.toInt ef1; have z1_ := congrArg Int32.toInt ef2; have z2_ := congrArg Int32.toInt ef3; have z_ := w_lits; have zl_ := l_lits; omega) (by have z0_ := congrArg Int32.toInt ef1; have z1_ := congrArg Int32.toInt ef2; have z2_ := congrArg Int32.toInt ef3; have z3_ := congrArg Int32.toInt ef4; have z_ := w_lits; have zl_ := l_lits; omega) (by have z0_ := congrArg Int32.toInt ef1; have z1_ := congrArg Int32.toInt ef2; have z2_ := congrArg Int32.toInt ef4; have z3_ := congrArg Int32.toInt ef5; have z_ := w_lits; have zl_ := l_lits; omega) (by have z0_ := congrArg Int32.toInt ef1; have z1_ := congrArg Int32.toInt ef2; have z2_ := congrArg Int32.toInt ef5; have z3_ := congrArg Int32.toInt ef6; have z_ := w_lits; have zl_ := l_lits; omega)) (fun r13 h13 q13 hJ13 k13 => ?_)
    obtain ⟨b13, m13_0, m13_1, m13_2, m13_3⟩ := q13
    obtain ⟨f14, ef14⟩ : ∃ f_, h13 23 10 = f_ := ⟨_, rfl⟩
    have bf14 : B f14 0 25 := by have z_ := hJ13.1 23 10; rw [ef14] at z_; exact z_
    have zf14 := congrArg Int32.toInt ef14
    have z15 := congrArg Int32.toInt (rd_w k13 ef2 rfl)
    have z16 := congrArg Int32.toInt (rd_w k13 ef3 rfl)
    have z17 := congrArg Int32.toInt (rd_w k13 ef4 rfl)
    have z18 := congrArg Int32.toInt (rd_w k13 ef5 rfl)
    have z19 := congrArg Int32.toInt (rd_w k13 ef6 rfl)
    exact ev_iret rfl rfl rfl ⟨⟨_, rfl, ⟨b13, (by have z0_ := congrArg Int32.toInt ef14; have z1_ := congrArg Int32.toInt (rd_w k13 ef2 rfl); have z2_ := congrArg Int32.toInt (rd_w k13 ef3 rfl); have z_ := w_lits; have zl_ := l_lits; omega), (by have z0_ := congrArg Int32.toInt ef14; have z1_ := congrArg Int32.toInt (rd_w k13 ef2 rfl); have z2_ := congrArg Int32.toInt (rd_w k13 ef3 rfl); have z3_ := congrArg Int32.toInt (rd_w k13 ef4 rfl); have z_ := w_lits; have zl_ := l_lits; omega), (by have z0_ := congrArg Int32.toInt ef14; have z1_ := congrArg Int32.toInt (rd_w k13 ef2 rfl); have z2_ := congrArg Int32.toInt (rd_w k13 ef4 rfl); have z3_ := congrArg Int32.toInt (rd_w k13 ef5 rfl); have z_ := w_lits; have zl_ := l_lits; omega), (by have z0_ := congrArg Int32.toInt ef14; have z1_ := congrArg Int32.toInt (rd_w k13 ef2 rfl); have z2_ := congrArg Int32.toInt (rd_w k13 ef5 rfl); have z3_ := congrArg Int32.toInt (rd_w k13 ef6 rfl); have z_ := w_lits; have zl_ := l_lits; omega)⟩⟩, rfl, hJ13⟩
  · have z11 := w_ne c8
    rw [show ((-1) : Int32).toInt = (-1) from by decide] at z11
    refine ev_aload_n rfl rfl rfl ?_
    refine ev_iconst (v := 4) rfl rfl (by decide) ?_
    refine ev_aload_n rfl rfl rfl ?_
    refine ev_getV (v := v7) rfl rfl fl_X2_31 rfl rfl rfl e7 ?_
    refine ev_V2K hJ0 rfl rfl rfl lk_X2_79 vt_X2_fail rfl rfl rfl rfl rfl (w_X2_fail_23 L b h hJ0.1 4 v7) (fun h20 hJ20 k20 m20 => ?_)
    refine ev_aload_n rfl rfl rfl ?_
    refine ev_aload_n rfl rfl rfl ?_
    refine ev_getW (l := 0) (u := 4095) hJ20.1 rfl rfl rfl fl_X2_28 rfl rfl rfl (fun v21 b21 e21 => ?_)
    have z22 := congrArg Int32.toInt (rd_w k20 ef1 rfl)
    have z23 := congrArg Int32.toInt (rd_w k20 ef2 rfl)
    have z24 := congrArg Int32.toInt (rd_w k20 ef3 rfl)
    have z25 := congrArg Int32.toInt (rd_w k20 ef4 rfl)
    have z26 := congrArg Int32.toInt (rd_w k20 ef5 rfl)
    have z27 := congrArg Int32.toInt (rd_w k20 ef6 rfl)
    refine ev_V1I hJ20 rfl rfl rfl lk_X2_93 vt_X2_addBeat rfl rfl rfl rfl rfl (w_X2_addBeat_23 L b h20 hJ20.1 v21 b21 (by have z0_ := congrArg Int32.toInt (rd_w k20 ef1 rfl); have z1_ := congrArg Int32.toInt (rd_w k20 ef2 rfl); have z2_ := congrArg Int32.toInt (rd_w k20 ef3 rfl); have z_ := w_lits; have zl_ := l_lits; omega) (by have z0_ := congrArg Int32.toInt (rd_w k20 ef1 rfl); have z1_ := congrArg Int32.toInt (rd_w k20 ef2 rfl); have z2_ := congrArg Int32.toInt (rd_w k20 ef3 rfl); have z3_ := congrArg Int32.toInt (rd_w k20 ef4 rfl); have z_ := w_lits; have zl_ := l_lits; omega) (by have z0_ := congrArg Int32.toInt (rd_w k20 ef1 rfl); have z1_ := congrArg Int32.toInt (rd_w k20 ef2 rfl); have z2_ := congrArg Int32.toInt (rd_w k20 ef4 rfl); have z3_ := congrArg Int32.toInt (rd_w k20 ef5 rfl); have z_ := w_lits; have zl_ := l_lits; omega) (by have z0_ := congrArg Int32.toInt (rd_w k20 ef1 rfl); have z1_ := congrArg Int32.toInt (rd_w k20 ef2 rfl); have z2_ := congrArg Int32.toInt (rd_w k20 ef5 rfl); have z3_ := congrArg Int32.toInt (rd_w k20 ef6 rfl); have z_ := w_lits; have zl_ := l_lits; omega)) (fun r28 h28 q28 hJ28 k28 => ?_)
    obtain ⟨b28, m28_0, m28_1, m28_2, m28_3⟩ := q28
    obtain ⟨f29, ef29⟩ : ∃ f_, h28 23 10 = f_ := ⟨_, rfl⟩
    have bf29 : B f29 0 25 := by have z_ := hJ28.1 23 10; rw [ef29] at z_; exact z_
    have zf29 := congrArg Int32.toInt ef29
    have z30 := congrArg Int32.toInt (rd_w k28 (rd_w k20 ef2 rfl) rfl)
    have z31 := congrArg Int32.toInt (rd_w k28 (rd_w k20 ef3 rfl) rfl)
    have z32 := congrArg Int32.toInt (rd_w k28 (rd_w k20 ef4 rfl) rfl)
    have z33 := congrArg Int32.toInt (rd_w k28 (rd_w k20 ef5 rfl) rfl)
    have z34 := congrArg Int32.toInt (rd_w k28 (rd_w k20 ef6 rfl) rfl)
    exact ev_iret rfl rfl rfl ⟨⟨_, rfl, ⟨b28, (by have z0_ := congrArg Int32.toInt ef29; have z1_ := congrArg Int32.toInt (rd_w k28 (rd_w k20 ef2 rfl) rfl); have z2_ := congrArg Int32.toInt (rd_w k28 (rd_w k20 ef3 rfl) rfl); have z_ := w_lits; have zl_ := l_lits; omega), (by have z0_ := congrArg Int32.toInt ef29; have z1_ := congrArg Int32.toInt (rd_w k28 (rd_w k20 ef2 rfl) rfl); have z2_ := congrArg Int32.toInt (rd_w k28 (rd_w k20 ef3 rfl) rfl); have z3_ := congrArg Int32.toInt (rd_w k28 (rd_w k20 ef4 rfl) rfl); have z_ := w_lits; have zl_ := l_lits; omega), (by have z0_ := congrArg Int32.toInt ef29; have z1_ := congrArg Int32.toInt (rd_w k28 (rd_w k20 ef2 rfl) rfl); have z2_ := congrArg Int32.toInt (rd_w k28 (rd_w k20 ef4 rfl) rfl); have z3_ := congrArg Int32.toInt (rd_w k28 (rd_w k20 ef5 rfl) rfl); have z_ := w_lits; have zl_ := l_lits; omega), (by have z0_ := congrArg Int32.toInt ef29; have z1_ := congrArg Int32.toInt (rd_w k28 (rd_w k20 ef2 rfl) rfl); have z2_ := congrArg Int32.toInt (rd_w k28 (rd_w k20 ef5 rfl) rfl); have z3_ := congrArg Int32.toInt (rd_w k28 (rd_w k20 ef6 rfl) rfl); have z_ := w_lits; have zl_ := l_lits; omega)⟩⟩, rfl, hJ28⟩

set_option maxRecDepth 100000 in
set_option maxHeartbeats 4000000 in
theorem w_X2_takeNumber_23 (L : Nat) (b : Bool) (h : Hp) (hB : Bx h)  : EvJ mi_X2_takeNumber [.ref 23] (G0 L b) h (fun r : Int32 => B r 2 2) [(23, 7), (23, 8)] := by
  refine EvM.of2 (lo := [some (.ref 23)]) pf_X2_takeNumber ok_X2_takeNumber rfl rfl ?_
  have hJ0 : JW [(23, 7), (23, 8)] h h := JW.refl hB
  refine ev_aload_n rfl rfl rfl ?_
  refine ev_getW (l := 0) (u := 4095) hJ0.1 rfl rfl rfl fl_X2_28 rfl rfl rfl (fun v1 b1 e1 => ?_)
  refine ev_iconst (v := 1) rfl rfl (by decide) ?_
  refine ev_bipush (v := 20) rfl rfl (by decide) ?_
  refine ev_SN3P rfl rfl lk_X2_111 st_X9_isWithin rfl rfl (w_isWithin (G0 L b) h v1 1 20 (by decide : B 1 1 1) (by decide : B 20 20 20)) (fun r2 q2 => ?_)
  obtain ⟨b2, p2_0⟩ := q2
  refine ev_if_ne rfl rfl (fun c3 => ?_) (fun c3 => ?_)
  · have b4 : B r2 1 1 := R_neL b2 (by decide : B 0 0 0) c3 (by decide)
    have b5 : B v1 1 20 := p2_0 c3
    refine ev_iconst (v := 2) rfl rfl (by decide) ?_
    exact ev_iret rfl rfl rfl ⟨⟨_, rfl, (by decide : B 2 2 2)⟩, rfl, hJ0⟩
  · have b6 : B r2 0 0 := R_eqX b2 (by decide : B 0 0 0) c3
    refine ev_aload_n rfl rfl rfl ?_
    refine ev_iconst (v := 3) rfl rfl (by decide) ?_
    refine ev_aload_n rfl rfl rfl ?_
    refine ev_getW (l := (-2147483648)) (u := 2147483647) hJ0.1 rfl rfl rfl fl_X2_25 rfl rfl rfl (fun v7 b7 e7 => ?_)
    refine ev_V2K hJ0 rfl rfl rfl lk_X2_79 vt_X2_fail rfl rfl rfl rfl rfl (w_X2_fail_23 L b h hJ0.1 3 v7) (fun h8 hJ8 k8 m8 => ?_)
    refine ev_iconst (v := 2) rfl rfl (by decide) ?_
    exact ev_iret rfl rfl rfl ⟨⟨_, rfl, (by decide : B 2 2 2)⟩, rfl, hJ8⟩

set_option maxRecDepth 100000 in
set_option maxHeartbeats 4000000 in
theorem w_X2_takeClose_23 (L : Nat) (b : Bool) (h : Hp) (hB : Bx h) (rp0 : (0 < (h 23 13).toInt → (h 26 0).toInt ≤ (h 23 10).toInt)) (rp1 : (1 < (h 23 13).toInt → (h 26 0).toInt ≤ (h 26 1).toInt ∧ (h 26 1).toInt ≤ (h 23 10).toInt)) (rp2 : (2 < (h 23 13).toInt → (h 26 1).toInt ≤ (h 26 2).toInt ∧ (h 26 2).toInt ≤ (h 23 10).toInt)) (rp3 : (3 < (h 23 13).toInt → (h 26 2).toInt ≤ (h 26 3).toInt ∧ (h 26 3).toInt ≤ (h 23 10).toInt)) (q0 : B (h 23 13) 1 4) : EvI mi_X2_takeClose [.ref 23] (G0 L b) h (fun (r : Int32) (z : Hp) => B r 1 1 ∧ ((0 < (z 23 13).toInt → (z 26 0).toInt ≤ (z 23 10).toInt)) ∧ ((1 < (z 23 13).toInt → (z 26 0).toInt ≤ (z 26 1).toInt ∧ (z 26 1).toInt ≤ (z 23 10).toInt)) ∧ ((2 < (z 23 13).toInt → (z 26 1).toInt ≤ (z 26 2).toInt ∧ (z 26 2).toInt ≤ (z 23 10).toInt)) ∧ ((3 < (z 23 13).toInt → (z 26 2).toInt ≤ (z 26 3).toInt ∧ (z 26 3).toInt ≤ (z 23 10).toInt))) [(23, 10), (23, 13), (25, 999)] := by
  refine EvM.of2 (lo := [some (.ref 23), none, none, none, none]) pf_X2_takeClose ok_X2_takeClose rfl rfl ?_
  have hJ0 : JW [(23, 10), (23, 13), (25, 999)] h h := JW.refl hB
  obtain ⟨f0, ef0⟩ : ∃ f_, h 23 13 = f_ := ⟨_, rfl⟩
  rw [ef0] at q0
  have zef0 := congrArg Int32.toInt ef0
  obtain ⟨f1, ef1⟩ : ∃ f_, h 23 10 = f_ := ⟨_, rfl⟩
  have bf1 : B f1 0 25 := by have z_ := hJ0.1 23 10; rw [ef1] at z_; exact z_
  have zf1 := congrArg Int32.toInt ef1
  obtain ⟨f2, ef2⟩ : ∃ f_, h 26 0 = f_ := ⟨_, rfl⟩
  have bf2 : B f2 0 25 := by have z_ := hJ0.1 26 0; rw [ef2] at z_; exact z_
  have zf2 := congrArg Int32.toInt ef2
  obtain ⟨f3, ef3⟩ : ∃ f_, h 26 1 = f_ := ⟨_, rfl⟩
  have bf3 : B f3 0 25 := by have z_ := hJ0.1 26 1; rw [ef3] at z_; exact z_
  have zf3 := congrArg Int32.toInt ef3
  obtain ⟨f4, ef4⟩ : ∃ f_, h 26 2 = f_ := ⟨_, rfl⟩
  have bf4 : B f4 0 25 := by have z_ := hJ0.1 26 2; rw [ef4] at z_; exact z_
  have zf4 := congrArg Int32.toInt ef4
  obtain ⟨f5, ef5⟩ : ∃ f_, h 26 3 = f_ := ⟨_, rfl⟩
  have bf5 : B f5 0 25 := by have z_ := hJ0.1 26 3; rw [ef5] at z_; exact z_
  have zf5 := congrArg Int32.toInt ef5
  refine ev_aload_n rfl rfl rfl ?_
  refine ev_dup rfl rfl rfl ?_
  refine ev_getV (v := f0) rfl rfl fl_X2_53 rfl rfl rfl ef0 ?_
  refine ev_iconst (v := 1) rfl rfl (by decide) ?_
  refine ev_isubB (l := 0) (u := 3) rfl rfl q0 (by decide : B 1 1 1) (by decide) (by decide) (by decide) (by decide) (fun v6 b6 e6 g6 => ?_)
  have e6x := e6; rw [show (1 : Int32).toInt = 1 from by decide] at e6x
  refine ev_putW (l := 0) (u := 4) hJ0 rfl b6 (by decide) (by decide) rfl rfl rfl fl_X2_53 rfl rfl rfl rfl rfl (fun h7 hJ7 k7 => ?_)
  refine ev_aload_n rfl rfl rfl ?_
  refine ev_getR (y := 26) rfl rfl fl_X2_47 rfl rfl rfl rfl ?_
  refine ev_aload_n rfl rfl rfl ?_
  refine ev_getV (v := v6) rfl rfl fl_X2_53 rfl rfl rfl (rd_s k7) ?_
  rcases B.c4 b6 with rfl | rfl | rfl | rfl
  · refine ev_iadV (j := 0) (v := f2) rfl rfl rfl (by unfold vp_in; decide) (by decide) (rd_o k7 ef2 rfl) ?_
    refine ev_istore_n rfl rfl rfl rfl ?_
    dsimp only [List.set]
    refine ev_iload_n rfl rfl rfl ?_
    refine ev_aload_n rfl rfl rfl ?_
    refine ev_getV (v := f1) rfl rfl fl_X2_44 rfl rfl rfl (rd_o k7 ef1 rfl) ?_
    refine ev_iload_n rfl rfl rfl ?_
    refine ev_isubB (l := -25) (u := 25) rfl rfl bf1 bf2 (by decide) (by decide) (by decide) (by decide) (fun v8 b8 e8 g8 => ?_)
    refine ev_aload_n rfl rfl rfl ?_
    refine ev_getR (y := 27) rfl rfl fl_X2_50 rfl rfl rfl rfl ?_
    refine ev_aload_n rfl rfl rfl ?_
    refine ev_getV (v := 0) rfl rfl fl_X2_53 rfl rfl rfl (rd_s k7) ?_
    refine ev_ialK (j := 0) (n := 4) (l := 0) (u := 4095) hJ7.1 (by decide : B 0 0 0) (by decide) (by decide) (by decide) rfl rfl rfl rfl (fun v9 b9 e9 => ?_)
    have b10 : B v8 0 25 := ⟨(by have z0_ := congrArg Int32.toInt (rd_o k7 ef1 rfl); have z1_ := congrArg Int32.toInt (rd_s k7); have z2_ := congrArg Int32.toInt (rd_o k7 ef2 rfl); have z3_ := congrArg Int32.toInt (rd_o k7 ef3 rfl); have z4_ := congrArg Int32.toInt (rd_o k7 ef4 rfl); have z5_ := congrArg Int32.toInt (rd_o k7 ef5 rfl); have z_ := w_lits; have zl_ := l_lits; omega), (by have z0_ := congrArg Int32.toInt (rd_o k7 ef1 rfl); have z1_ := congrArg Int32.toInt (rd_s k7); have z2_ := congrArg Int32.toInt (rd_o k7 ef2 rfl); have z3_ := congrArg Int32.toInt (rd_o k7 ef3 rfl); have z4_ := congrArg Int32.toInt (rd_o k7 ef4 rfl); have z5_ := congrArg Int32.toInt (rd_o k7 ef5 rfl); have z_ := w_lits; have zl_ := l_lits; omega)⟩
    refine ev_imulB (l := 0) (u := 102375) rfl rfl b10 b9 (by decide) (by decide) (by decide) (by decide) (by decide) (fun v11 b11 e11 g11 => ?_)
    clear e11
    refine ev_iaddB (l := 0) (u := 102400) rfl rfl bf2 b11 (by decide) (by decide) (by decide) (by decide) (fun v12 b12 e12 g12 => ?_)
    refine ev_istore_n rfl rfl rfl rfl ?_
    dsimp only [List.set]
    refine ev_aload_n rfl rfl rfl ?_
    refine ev_getV (v := f1) rfl rfl fl_X2_44 rfl rfl rfl (rd_o k7 ef1 rfl) ?_
    refine ev_bipush (v := 24) rfl rfl (by decide) ?_
    refine ev_icmp_gt rfl rfl (fun c13 => ?_) (fun c13 => ?_)
    · have b14 : B f1 25 25 := R_ltY (by decide : B 24 24 24) bf1 c13 (by decide)
      have z15 := w_lt c13
      rw [show (24 : Int32).toInt = 24 from by decide] at z15
      refine ev_aload_n rfl rfl rfl ?_
      refine ev_bipush (v := 25) rfl rfl (by decide) ?_
      refine ev_putW (l := 0) (u := 25) hJ7 rfl (by decide : B 25 25 25) (by decide) (by decide) rfl rfl rfl fl_X2_44 rfl rfl rfl rfl rfl (fun h18 hJ18 k18 => ?_)
      refine ev_iconst (v := 1) rfl rfl (by decide) ?_
      exact ev_iret rfl rfl rfl ⟨⟨_, rfl, ⟨(by decide : B 1 1 1), (by have z0_ := congrArg Int32.toInt (rd_s k18); have z1_ := congrArg Int32.toInt (rd_o k18 (rd_s k7) rfl); have z2_ := congrArg Int32.toInt (rd_o k18 (rd_o k7 ef2 rfl) rfl); have z_ := w_lits; have zl_ := l_lits; omega), (by have z0_ := congrArg Int32.toInt (rd_s k18); have z1_ := congrArg Int32.toInt (rd_o k18 (rd_s k7) rfl); have z2_ := congrArg Int32.toInt (rd_o k18 (rd_o k7 ef2 rfl) rfl); have z3_ := congrArg Int32.toInt (rd_o k18 (rd_o k7 ef3 rfl) rfl); have z_ := w_lits; have zl_ := l_lits; omega), (by have z0_ := congrArg Int32.toInt (rd_s k18); have z1_ := congrArg Int32.toInt (rd_o k18 (rd_s k7) rfl); have z2_ := congrArg Int32.toInt (rd_o k18 (rd_o k7 ef3 rfl) rfl); have z3_ := congrArg Int32.toInt (rd_o k18 (rd_o k7 ef4 rfl) rfl); have z_ := w_lits; have zl_ := l_lits; omega), (by have z0_ := congrArg Int32.toInt (rd_s k18); have z1_ := congrArg Int32.toInt (rd_o k18 (rd_s k7) rfl); have z2_ := congrArg Int32.toInt (rd_o k18 (rd_o k7 ef4 rfl) rfl); have z3_ := congrArg Int32.toInt (rd_o k18 (rd_o k7 ef5 rfl) rfl); have z_ := w_lits; have zl_ := l_lits; omega)⟩⟩, rfl, hJ18⟩
    · have b16 : B f1 0 24 := R_leX bf1 (by decide : B 24 24 24) (Int32.not_lt.mp c13) (by decide)
      have z17 := w_le (Int32.not_lt.mp c13)
      rw [show (24 : Int32).toInt = 24 from by decide] at z17
      refine ev_iload_n rfl rfl rfl ?_
      refine ev_bipush (v := 24) rfl rfl (by decide) ?_
      refine ev_icmp_le rfl rfl (fun c19 => ?_) (fun c19 => ?_)
      · have b20 : B v12 0 24 := R_leX b12 (by decide : B 24 24 24) c19 (by decide)
        have z21 := w_le c19
        rw [show (24 : Int32).toInt = 24 from by decide] at z21
        refine ev_aload_n rfl rfl rfl ?_
        refine ev_getV (v := f1) rfl rfl fl_X2_44 rfl rfl rfl (rd_o k7 ef1 rfl) ?_
        refine ev_iload_n rfl rfl rfl ?_
        refine ev_isubV g8 rfl rfl ?_
        refine ev_istore_n rfl rfl rfl rfl ?_
        dsimp only [List.set]
        refine ev_aload_n rfl rfl rfl ?_
        refine ev_getV (v := f1) rfl rfl fl_X2_44 rfl rfl rfl (rd_o k7 ef1 rfl) ?_
        refine ev_istore rfl rfl rfl rfl ?_
        dsimp only [List.set]
        have lp75_63 : ∀ (n : Nat) (w64 : Int32) (h66 : Hp), B w64 0 24 → JW [(23, 10), (23, 13), (25, 999)] h h66 → (h66 23 13 = 0) → (h66 23 10 = f1) → (h66 26 0 = f2) → (h66 26 1 = f3) → (h66 26 2 = f4) → (h66 26 3 = f5) → (h66 27 0 = v9) → ((h66 23 10).toInt ≤ w64.toInt) → 24 + 1 - w64.toInt ≤ (n : Int) → EvQ mi_X2_takeClose 75 [some (.ref 23), some (.int f2), some (.int v12), some (.int v8), some (.int w64)] [] (G0 L b) h66 0 0 (QI (fun (r : Int32) (z : Hp) => B r 1 1 ∧ ((0 < (z 23 13).toInt → (z 26 0).toInt ≤ (z 23 10).toInt)) ∧ ((1 < (z 23 13).toInt → (z 26 0).toInt ≤ (z 26 1).toInt ∧ (z 26 1).toInt ≤ (z 23 10).toInt)) ∧ ((2 < (z 23 13).toInt → (z 26 1).toInt ≤ (z 26 2).toInt ∧ (z 26 2).toInt ≤ (z 23 10).toInt)) ∧ ((3 < (z 23 13).toInt → (z 26 2).toInt ≤ (z 26 3).toInt ∧ (z 26 3).toInt ≤ (z 23 10).toInt))) [(23, 10), (23, 13), (25, 999)] (G0 L b) h) := by
          intro n
          induction n with
          | zero =>
            intro w64 h66 b65 hJ67 z68 z69 z70 z71 z72 z73 z74 y75_0 hm75
            exact absurd hm75 (L_zero b65 (by decide))
          | succ n ih75 =>
            intro w64 h66 b65 hJ67 z68 z69 z70 z71 z72 z73 z74 y75_0 hm75
            have z75 := congrArg Int32.toInt z69
            have z76 := congrArg Int32.toInt z68
            have z77 := congrArg Int32.toInt z70
            have z78 := congrArg Int32.toInt z71
            have z79 := congrArg Int32.toInt z72
            have z80 := congrArg Int32.toInt z73
            refine ev_iload rfl rfl rfl ?_
            refine ev_iload_n rfl rfl rfl ?_
            refine ev_icmp_ge rfl rfl (fun c81 => ?_) (fun c81 => ?_)
            · have z82 := w_le c81
              refine ev_aload_n rfl rfl rfl ?_
              refine ev_iload_n rfl rfl rfl ?_
              refine ev_putW (l := 0) (u := 25) hJ67 rfl b20 (by decide) (by decide) rfl rfl rfl fl_X2_44 rfl rfl rfl rfl rfl (fun h86 hJ86 k86 => ?_)
              refine ev_iconst (v := 1) rfl rfl (by decide) ?_
              exact ev_iret rfl rfl rfl ⟨⟨_, rfl, ⟨(by decide : B 1 1 1), (by have z0_ := congrArg Int32.toInt (rd_s k86); have z1_ := congrArg Int32.toInt (rd_o k86 z68 rfl); have z2_ := congrArg Int32.toInt (rd_o k86 z70 rfl); have z_ := w_lits; have zl_ := l_lits; omega), (by have z0_ := congrArg Int32.toInt (rd_s k86); have z1_ := congrArg Int32.toInt (rd_o k86 z68 rfl); have z2_ := congrArg Int32.toInt (rd_o k86 z70 rfl); have z3_ := congrArg Int32.toInt (rd_o k86 z71 rfl); have z_ := w_lits; have zl_ := l_lits; omega), (by have z0_ := congrArg Int32.toInt (rd_s k86); have z1_ := congrArg Int32.toInt (rd_o k86 z68 rfl); have z2_ := congrArg Int32.toInt (rd_o k86 z71 rfl); have z3_ := congrArg Int32.toInt (rd_o k86 z72 rfl); have z_ := w_lits; have zl_ := l_lits; omega), (by have z0_ := congrArg Int32.toInt (rd_s k86); have z1_ := congrArg Int32.toInt (rd_o k86 z68 rfl); have z2_ := congrArg Int32.toInt (rd_o k86 z72 rfl); have z3_ := congrArg Int32.toInt (rd_o k86 z73 rfl); have z_ := w_lits; have zl_ := l_lits; omega)⟩⟩, rfl, hJ86⟩
            · have b83 : B w64 0 23 := R_ltX b65 b20 (Int32.not_le.mp c81) (by decide)
              have b84 : B v12 1 24 := R_ltY b65 b20 (Int32.not_le.mp c81) (by decide)
              have z85 := w_lt (Int32.not_le.mp c81)
              refine ev_aload_n rfl rfl rfl ?_
              refine ev_getR (y := 25) rfl rfl fl_X2_40 rfl rfl rfl rfl ?_
              refine ev_iload rfl rfl rfl ?_
              refine ev_aload_n rfl rfl rfl ?_
              refine ev_getR (y := 25) rfl rfl fl_X2_40 rfl rfl rfl rfl ?_
              refine ev_iload rfl rfl rfl ?_
              refine ev_iload_n rfl rfl rfl ?_
              refine ev_isubB (l := -25) (u := 23) rfl rfl b83 b10 (by decide) (by decide) (by decide) (by decide) (fun v87 b87 e87 g87 => ?_)
              have b88 : B v87 0 23 := ⟨(by have z0_ := congrArg Int32.toInt z69; have z1_ := congrArg Int32.toInt z68; have z2_ := congrArg Int32.toInt z70; have z3_ := congrArg Int32.toInt z71; have z4_ := congrArg Int32.toInt z72; have z5_ := congrArg Int32.toInt z73; have z_ := w_lits; have zl_ := l_lits; omega), (by have z0_ := congrArg Int32.toInt z69; have z1_ := congrArg Int32.toInt z68; have z2_ := congrArg Int32.toInt z70; have z3_ := congrArg Int32.toInt z71; have z4_ := congrArg Int32.toInt z72; have z5_ := congrArg Int32.toInt z73; have z_ := w_lits; have zl_ := l_lits; omega)⟩
              refine ev_ialW (n := 24) (l := 0) (u := 4095) hJ67.1 b88 (by decide) (by decide) (fun _ => rfl) rfl rfl rfl (fun v89 b89 e89 => ?_)
              refine ev_iasW (n := 24) (l := 0) (u := 4095) hJ67 b83 (by decide) (by decide) (fun _ => rfl) b89 (by decide) (by decide) (fun _ => rfl) rfl rfl rfl rfl (fun h90 hJ90 k90 => ?_)
              refine ev_iincB (y := 1) (l := 1) (u := 24) rfl rfl rfl (by decide) rfl rfl b83 (by decide : B 1 1 1) (by decide) (by decide) (by decide) (by decide) (fun v91 b91 e91 => ?_)
              dsimp only [List.set]
              have e91x := e91; rw [show (1 : Int32).toInt = 1 from by decide] at e91x
              refine ev_goto rfl rfl ?_
              exact (ih75 v91 h90 (b91.mono (by decide) (by decide)) hJ90 (rd_a k90 z68 rfl) (rd_a k90 z69 rfl) (rd_a k90 z70 rfl) (rd_a k90 z71 rfl) (rd_a k90 z72 rfl) (rd_a k90 z73 rfl) (rd_a k90 z74 rfl) (by have z0_ := congrArg Int32.toInt (rd_a k90 z69 rfl); have z_ := w_lits; have zl_ := l_lits; omega) (L_up hm75 (e_p1 e91 (by decide))))
        exact (lp75_63 25 f1 h7 b16 hJ7 (rd_s k7) (rd_o k7 ef1 rfl) (rd_o k7 ef2 rfl) (rd_o k7 ef3 rfl) (rd_o k7 ef4 rfl) (rd_o k7 ef5 rfl) e9 (by have z0_ := congrArg Int32.toInt (rd_o k7 ef1 rfl); have z_ := w_lits; have zl_ := l_lits; omega) (L_init b16 (by decide)))
      · have b22 : B v12 25 102400 := R_ltY (by decide : B 24 24 24) b12 (Int32.not_le.mp c19) (by decide)
        have z23 := w_lt (Int32.not_le.mp c19)
        rw [show (24 : Int32).toInt = 24 from by decide] at z23
        refine ev_aload_n rfl rfl rfl ?_
        refine ev_bipush (v := 25) rfl rfl (by decide) ?_
        refine ev_putW (l := 0) (u := 25) hJ7 rfl (by decide : B 25 25 25) (by decide) (by decide) rfl rfl rfl fl_X2_44 rfl rfl rfl rfl rfl (fun h92 hJ92 k92 => ?_)
        refine ev_iconst (v := 1) rfl rfl (by decide) ?_
        exact ev_iret rfl rfl rfl ⟨⟨_, rfl, ⟨(by decide : B 1 1 1), (by have z0_ := congrArg Int32.toInt (rd_s k92); have z1_ := congrArg Int32.toInt (rd_o k92 (rd_s k7) rfl); have z2_ := congrArg Int32.toInt (rd_o k92 (rd_o k7 ef2 rfl) rfl); have z_ := w_lits; have zl_ := l_lits; omega), (by have z0_ := congrArg Int32.toInt (rd_s k92); have z1_ := congrArg Int32.toInt (rd_o k92 (rd_s k7) rfl); have z2_ := congrArg Int32.toInt (rd_o k92 (rd_o k7 ef2 rfl) rfl); have z3_ := congrArg Int32.toInt (rd_o k92 (rd_o k7 ef3 rfl) rfl); have z_ := w_lits; have zl_ := l_lits; omega), (by have z0_ := congrArg Int32.toInt (rd_s k92); have z1_ := congrArg Int32.toInt (rd_o k92 (rd_s k7) rfl); have z2_ := congrArg Int32.toInt (rd_o k92 (rd_o k7 ef3 rfl) rfl); have z3_ := congrArg Int32.toInt (rd_o k92 (rd_o k7 ef4 rfl) rfl); have z_ := w_lits; have zl_ := l_lits; omega), (by have z0_ := congrArg Int32.toInt (rd_s k92); have z1_ := congrArg Int32.toInt (rd_o k92 (rd_s k7) rfl); have z2_ := congrArg Int32.toInt (rd_o k92 (rd_o k7 ef4 rfl) rfl); have z3_ := congrArg Int32.toInt (rd_o k92 (rd_o k7 ef5 rfl) rfl); have z_ := w_lits; have zl_ := l_lits; omega)⟩⟩, rfl, hJ92⟩
  · refine ev_iadV (j := 1) (v := f3) rfl rfl rfl (by unfold vp_in; decide) (by decide) (rd_o k7 ef3 rfl) ?_
    refine ev_istore_n rfl rfl rfl rfl ?_
    dsimp only [List.set]
    refine ev_iload_n rfl rfl rfl ?_
    refine ev_aload_n rfl rfl rfl ?_
    refine ev_getV (v := f1) rfl rfl fl_X2_44 rfl rfl rfl (rd_o k7 ef1 rfl) ?_
    refine ev_iload_n rfl rfl rfl ?_
    refine ev_isubB (l := -25) (u := 25) rfl rfl bf1 bf3 (by decide) (by decide) (by decide) (by decide) (fun v93 b93 e93 g93 => ?_)
    refine ev_aload_n rfl rfl rfl ?_
    refine ev_getR (y := 27) rfl rfl fl_X2_50 rfl rfl rfl rfl ?_
    refine ev_aload_n rfl rfl rfl ?_
    refine ev_getV (v := 1) rfl rfl fl_X2_53 rfl rfl rfl (rd_s k7) ?_
    refine ev_ialK (j := 1) (n := 4) (l := 0) (u := 4095) hJ7.1 (by decide : B 1 1 1) (by decide) (by decide) (by decide) rfl rfl rfl rfl (fun v94 b94 e94 => ?_)
    have b95 : B v93 0 25 := ⟨(by have z0_ := congrArg Int32.toInt (rd_o k7 ef1 rfl); have z1_ := congrArg Int32.toInt (rd_s k7); have z2_ := congrArg Int32.toInt (rd_o k7 ef2 rfl); have z3_ := congrArg Int32.toInt (rd_o k7 ef3 rfl); have z4_ := congrArg Int32.toInt (rd_o k7 ef4 rfl); have z5_ := congrArg Int32.toInt (rd_o k7 ef5 rfl); have z_ := w_lits; have zl_ := l_lits; omega), (by have z0_ := congrArg Int32.toInt (rd_o k7 ef1 rfl); have z1_ := congrArg Int32.toInt (rd_s k7); have z2_ := congrArg Int32.toInt (rd_o k7 ef2 rfl); have z3_ := congrArg Int32.toInt (rd_o k7 ef3 rfl); have z4_ := congrArg Int32.toInt (rd_o k7 ef4 rfl); have z5_ := congrArg Int32.toInt (rd_o k7 ef5 rfl); have z_ := w_lits; have zl_ := l_lits; omega)⟩
    refine ev_imulB (l := 0) (u := 102375) rfl rfl b95 b94 (by decide) (by decide) (by decide) (by decide) (by decide) (fun v96 b96 e96 g96 => ?_)
    clear e96
    refine ev_iaddB (l := 0) (u := 102400) rfl rfl bf3 b96 (by decide) (by decide) (by decide) (by decide) (fun v97 b97 e97 g97 => ?_)
    refine ev_istore_n rfl rfl rfl rfl ?_
    dsimp only [List.set]
    refine ev_aload_n rfl rfl rfl ?_
    refine ev_getV (v := f1) rfl rfl fl_X2_44 rfl rfl rfl (rd_o k7 ef1 rfl) ?_
    refine ev_bipush (v := 24) rfl rfl (by decide) ?_
    refine ev_icmp_gt rfl rfl (fun c98 => ?_) (fun c98 => ?_)
    · have b99 : B f1 25 25 := R_ltY (by decide : B 24 24 24) bf1 c98 (by decide)
      have z100 := w_lt c98
      rw [show (24 : Int32).toInt = 24 from by decide] at z100
      refine ev_aload_n rfl rfl rfl ?_
      refine ev_bipush (v := 25) rfl rfl (by decide) ?_
      refine ev_putW (l := 0) (u := 25) hJ7 rfl (by decide : B 25 25 25) (by decide) (by decide) rfl rfl rfl fl_X2_44 rfl rfl rfl rfl rfl (fun h103 hJ103 k103 => ?_)
      refine ev_iconst (v := 1) rfl rfl (by decide) ?_
      exact ev_iret rfl rfl rfl ⟨⟨_, rfl, ⟨(by decide : B 1 1 1), (by have z0_ := congrArg Int32.toInt (rd_s k103); have z1_ := congrArg Int32.toInt (rd_o k103 (rd_s k7) rfl); have z2_ := congrArg Int32.toInt (rd_o k103 (rd_o k7 ef2 rfl) rfl); have z_ := w_lits; have zl_ := l_lits; omega), (by have z0_ := congrArg Int32.toInt (rd_s k103); have z1_ := congrArg Int32.toInt (rd_o k103 (rd_s k7) rfl); have z2_ := congrArg Int32.toInt (rd_o k103 (rd_o k7 ef2 rfl) rfl); have z3_ := congrArg Int32.toInt (rd_o k103 (rd_o k7 ef3 rfl) rfl); have z_ := w_lits; have zl_ := l_lits; omega), (by have z0_ := congrArg Int32.toInt (rd_s k103); have z1_ := congrArg Int32.toInt (rd_o k103 (rd_s k7) rfl); have z2_ := congrArg Int32.toInt (rd_o k103 (rd_o k7 ef3 rfl) rfl); have z3_ := congrArg Int32.toInt (rd_o k103 (rd_o k7 ef4 rfl) rfl); have z_ := w_lits; have zl_ := l_lits; omega), (by have z0_ := congrArg Int32.toInt (rd_s k103); have z1_ := congrArg Int32.toInt (rd_o k103 (rd_s k7) rfl); have z2_ := congrArg Int32.toInt (rd_o k103 (rd_o k7 ef4 rfl) rfl); have z3_ := congrArg Int32.toInt (rd_o k103 (rd_o k7 ef5 rfl) rfl); have z_ := w_lits; have zl_ := l_lits; omega)⟩⟩, rfl, hJ103⟩
    · have b101 : B f1 0 24 := R_leX bf1 (by decide : B 24 24 24) (Int32.not_lt.mp c98) (by decide)
      have z102 := w_le (Int32.not_lt.mp c98)
      rw [show (24 : Int32).toInt = 24 from by decide] at z102
      refine ev_iload_n rfl rfl rfl ?_
      refine ev_bipush (v := 24) rfl rfl (by decide) ?_
      refine ev_icmp_le rfl rfl (fun c104 => ?_) (fun c104 => ?_)
      · have b105 : B v97 0 24 := R_leX b97 (by decide : B 24 24 24) c104 (by decide)
        have z106 := w_le c104
        rw [show (24 : Int32).toInt = 24 from by decide] at z106
        refine ev_aload_n rfl rfl rfl ?_
        refine ev_getV (v := f1) rfl rfl fl_X2_44 rfl rfl rfl (rd_o k7 ef1 rfl) ?_
        refine ev_iload_n rfl rfl rfl ?_
        refine ev_isubV g93 rfl rfl ?_
        refine ev_istore_n rfl rfl rfl rfl ?_
        dsimp only [List.set]
        refine ev_aload_n rfl rfl rfl ?_
        refine ev_getV (v := f1) rfl rfl fl_X2_44 rfl rfl rfl (rd_o k7 ef1 rfl) ?_
        refine ev_istore rfl rfl rfl rfl ?_
        dsimp only [List.set]
        have lp75_148 : ∀ (n : Nat) (w149 : Int32) (h151 : Hp), B w149 0 24 → JW [(23, 10), (23, 13), (25, 999)] h h151 → (h151 23 13 = 1) → (h151 23 10 = f1) → (h151 26 0 = f2) → (h151 26 1 = f3) → (h151 26 2 = f4) → (h151 26 3 = f5) → (h151 27 1 = v94) → ((h151 23 10).toInt ≤ w149.toInt) → 24 + 1 - w149.toInt ≤ (n : Int) → EvQ mi_X2_takeClose 75 [some (.ref 23), some (.int f3), some (.int v97), some (.int v93), some (.int w149)] [] (G0 L b) h151 0 0 (QI (fun (r : Int32) (z : Hp) => B r 1 1 ∧ ((0 < (z 23 13).toInt → (z 26 0).toInt ≤ (z 23 10).toInt)) ∧ ((1 < (z 23 13).toInt → (z 26 0).toInt ≤ (z 26 1).toInt ∧ (z 26 1).toInt ≤ (z 23 10).toInt)) ∧ ((2 < (z 23 13).toInt → (z 26 1).toInt ≤ (z 26 2).toInt ∧ (z 26 2).toInt ≤ (z 23 10).toInt)) ∧ ((3 < (z 23 13).toInt → (z 26 2).toInt ≤ (z 26 3).toInt ∧ (z 26 3).toInt ≤ (z 23 10).toInt))) [(23, 10), (23, 13), (25, 999)] (G0 L b) h) := by
          intro n
          induction n with
          | zero =>
            intro w149 h151 b150 hJ152 z153 z154 z155 z156 z157 z158 z159 y75_0 hm75
            exact absurd hm75 (L_zero b150 (by decide))
          | succ n ih75 =>
            intro w149 h151 b150 hJ152 z153 z154 z155 z156 z157 z158 z159 y75_0 hm75
            have z160 := congrArg Int32.toInt z154
            have z161 := congrArg Int32.toInt z153
            have z162 := congrArg Int32.toInt z155
            have z163 := congrArg Int32.toInt z156
            have z164 := congrArg Int32.toInt z157
            have z165 := congrArg Int32.toInt z158
            refine ev_iload rfl rfl rfl ?_
            refine ev_iload_n rfl rfl rfl ?_
            refine ev_icmp_ge rfl rfl (fun c166 => ?_) (fun c166 => ?_)
            · have z167 := w_le c166
              refine ev_aload_n rfl rfl rfl ?_
              refine ev_iload_n rfl rfl rfl ?_
              refine ev_putW (l := 0) (u := 25) hJ152 rfl b105 (by decide) (by decide) rfl rfl rfl fl_X2_44 rfl rfl rfl rfl rfl (fun h171 hJ171 k171 => ?_)
              refine ev_iconst (v := 1) rfl rfl (by decide) ?_
              exact ev_iret rfl rfl rfl ⟨⟨_, rfl, ⟨(by decide : B 1 1 1), (by have z0_ := congrArg Int32.toInt (rd_s k171); have z1_ := congrArg Int32.toInt (rd_o k171 z153 rfl); have z2_ := congrArg Int32.toInt (rd_o k171 z155 rfl); have z_ := w_lits; have zl_ := l_lits; omega), (by have z0_ := congrArg Int32.toInt (rd_s k171); have z1_ := congrArg Int32.toInt (rd_o k171 z153 rfl); have z2_ := congrArg Int32.toInt (rd_o k171 z155 rfl); have z3_ := congrArg Int32.toInt (rd_o k171 z156 rfl); have z_ := w_lits; have zl_ := l_lits; omega), (by have z0_ := congrArg Int32.toInt (rd_s k171); have z1_ := congrArg Int32.toInt (rd_o k171 z153 rfl); have z2_ := congrArg Int32.toInt (rd_o k171 z156 rfl); have z3_ := congrArg Int32.toInt (rd_o k171 z157 rfl); have z_ := w_lits; have zl_ := l_lits; omega), (by have z0_ := congrArg Int32.toInt (rd_s k171); have z1_ := congrArg Int32.toInt (rd_o k171 z153 rfl); have z2_ := congrArg Int32.toInt (rd_o k171 z157 rfl); have z3_ := congrArg Int32.toInt (rd_o k171 z158 rfl); have z_ := w_lits; have zl_ := l_lits; omega)⟩⟩, rfl, hJ171⟩
            · have b168 : B w149 0 23 := R_ltX b150 b105 (Int32.not_le.mp c166) (by decide)
              have b169 : B v97 1 24 := R_ltY b150 b105 (Int32.not_le.mp c166) (by decide)
              have z170 := w_lt (Int32.not_le.mp c166)
              refine ev_aload_n rfl rfl rfl ?_
              refine ev_getR (y := 25) rfl rfl fl_X2_40 rfl rfl rfl rfl ?_
              refine ev_iload rfl rfl rfl ?_
              refine ev_aload_n rfl rfl rfl ?_
              refine ev_getR (y := 25) rfl rfl fl_X2_40 rfl rfl rfl rfl ?_
              refine ev_iload rfl rfl rfl ?_
              refine ev_iload_n rfl rfl rfl ?_
              refine ev_isubB (l := -25) (u := 23) rfl rfl b168 b95 (by decide) (by decide) (by decide) (by decide) (fun v172 b172 e172 g172 => ?_)
              have b173 : B v172 0 23 := ⟨(by have z0_ := congrArg Int32.toInt z154; have z1_ := congrArg Int32.toInt z153; have z2_ := congrArg Int32.toInt z155; have z3_ := congrArg Int32.toInt z156; have z4_ := congrArg Int32.toInt z157; have z5_ := congrArg Int32.toInt z158; have z_ := w_lits; have zl_ := l_lits; omega), (by have z0_ := congrArg Int32.toInt z154; have z1_ := congrArg Int32.toInt z153; have z2_ := congrArg Int32.toInt z155; have z3_ := congrArg Int32.toInt z156; have z4_ := congrArg Int32.toInt z157; have z5_ := congrArg Int32.toInt z158; have z_ := w_lits; have zl_ := l_lits; omega)⟩
              refine ev_ialW (n := 24) (l := 0) (u := 4095) hJ152.1 b173 (by decide) (by decide) (fun _ => rfl) rfl rfl rfl (fun v174 b174 e174 => ?_)
              refine ev_iasW (n := 24) (l := 0) (u := 4095) hJ152 b168 (by decide) (by decide) (fun _ => rfl) b174 (by decide) (by decide) (fun _ => rfl) rfl rfl rfl rfl (fun h175 hJ175 k175 => ?_)
              refine ev_iincB (y := 1) (l := 1) (u := 24) rfl rfl rfl (by decide) rfl rfl b168 (by decide : B 1 1 1) (by decide) (by decide) (by decide) (by decide) (fun v176 b176 e176 => ?_)
              dsimp only [List.set]
              have e176x := e176; rw [show (1 : Int32).toInt = 1 from by decide] at e176x
              refine ev_goto rfl rfl ?_
              exact (ih75 v176 h175 (b176.mono (by decide) (by decide)) hJ175 (rd_a k175 z153 rfl) (rd_a k175 z154 rfl) (rd_a k175 z155 rfl) (rd_a k175 z156 rfl) (rd_a k175 z157 rfl) (rd_a k175 z158 rfl) (rd_a k175 z159 rfl) (by have z0_ := congrArg Int32.toInt (rd_a k175 z154 rfl); have z_ := w_lits; have zl_ := l_lits; omega) (L_up hm75 (e_p1 e176 (by decide))))
        exact (lp75_148 25 f1 h7 b101 hJ7 (rd_s k7) (rd_o k7 ef1 rfl) (rd_o k7 ef2 rfl) (rd_o k7 ef3 rfl) (rd_o k7 ef4 rfl) (rd_o k7 ef5 rfl) e94 (by have z0_ := congrArg Int32.toInt (rd_o k7 ef1 rfl); have z_ := w_lits; have zl_ := l_lits; omega) (L_init b101 (by decide)))
      · have b107 : B v97 25 102400 := R_ltY (by decide : B 24 24 24) b97 (Int32.not_le.mp c104) (by decide)
        have z108 := w_lt (Int32.not_le.mp c104)
        rw [show (24 : Int32).toInt = 24 from by decide] at z108
        refine ev_aload_n rfl rfl rfl ?_
        refine ev_bipush (v := 25) rfl rfl (by decide) ?_
        refine ev_putW (l := 0) (u := 25) hJ7 rfl (by decide : B 25 25 25) (by decide) (by decide) rfl rfl rfl fl_X2_44 rfl rfl rfl rfl rfl (fun h177 hJ177 k177 => ?_)
        refine ev_iconst (v := 1) rfl rfl (by decide) ?_
        exact ev_iret rfl rfl rfl ⟨⟨_, rfl, ⟨(by decide : B 1 1 1), (by have z0_ := congrArg Int32.toInt (rd_s k177); have z1_ := congrArg Int32.toInt (rd_o k177 (rd_s k7) rfl); have z2_ := congrArg Int32.toInt (rd_o k177 (rd_o k7 ef2 rfl) rfl); have z_ := w_lits; have zl_ := l_lits; omega), (by have z0_ := congrArg Int32.toInt (rd_s k177); have z1_ := congrArg Int32.toInt (rd_o k177 (rd_s k7) rfl); have z2_ := congrArg Int32.toInt (rd_o k177 (rd_o k7 ef2 rfl) rfl); have z3_ := congrArg Int32.toInt (rd_o k177 (rd_o k7 ef3 rfl) rfl); have z_ := w_lits; have zl_ := l_lits; omega), (by have z0_ := congrArg Int32.toInt (rd_s k177); have z1_ := congrArg Int32.toInt (rd_o k177 (rd_s k7) rfl); have z2_ := congrArg Int32.toInt (rd_o k177 (rd_o k7 ef3 rfl) rfl); have z3_ := congrArg Int32.toInt (rd_o k177 (rd_o k7 ef4 rfl) rfl); have z_ := w_lits; have zl_ := l_lits; omega), (by have z0_ := congrArg Int32.toInt (rd_s k177); have z1_ := congrArg Int32.toInt (rd_o k177 (rd_s k7) rfl); have z2_ := congrArg Int32.toInt (rd_o k177 (rd_o k7 ef4 rfl) rfl); have z3_ := congrArg Int32.toInt (rd_o k177 (rd_o k7 ef5 rfl) rfl); have z_ := w_lits; have zl_ := l_lits; omega)⟩⟩, rfl, hJ177⟩
  · refine ev_iadV (j := 2) (v := f4) rfl rfl rfl (by unfold vp_in; decide) (by decide) (rd_o k7 ef4 rfl) ?_
    refine ev_istore_n rfl rfl rfl rfl ?_
    dsimp only [List.set]
    refine ev_iload_n rfl rfl rfl ?_
    refine ev_aload_n rfl rfl rfl ?_
    refine ev_getV (v := f1) rfl rfl fl_X2_44 rfl rfl rfl (rd_o k7 ef1 rfl) ?_
    refine ev_iload_n rfl rfl rfl ?_
    refine ev_isubB (l := -25) (u := 25) rfl rfl bf1 bf4 (by decide) (by decide) (by decide) (by decide) (fun v178 b178 e178 g178 => ?_)
    refine ev_aload_n rfl rfl rfl ?_
    refine ev_getR (y := 27) rfl rfl fl_X2_50 rfl rfl rfl rfl ?_
    refine ev_aload_n rfl rfl rfl ?_
    refine ev_getV (v := 2) rfl rfl fl_X2_53 rfl rfl rfl (rd_s k7) ?_
    refine ev_ialK (j := 2) (n := 4) (l := 0) (u := 4095) hJ7.1 (by decide : B 2 2 2) (by decide) (by decide) (by decide) rfl rfl rfl rfl (fun v179 b179 e179 => ?_)
    have b180 : B v178 0 25 := ⟨(by have z0_ := congrArg Int32.toInt (rd_o k7 ef1 rfl); have z1_ := congrArg Int32.toInt (rd_s k7); have z2_ := congrArg Int32.toInt (rd_o k7 ef2 rfl); have z3_ := congrArg Int32.toInt (rd_o k7 ef3 rfl); have z4_ := congrArg Int32.toInt (rd_o k7 ef4 rfl); have z5_ := congrArg Int32.toInt (rd_o k7 ef5 rfl); have z_ := w_lits; have zl_ := l_lits; omega), (by have z0_ := congrArg Int32.toInt (rd_o k7 ef1 rfl); have z1_ := congrArg Int32.toInt (rd_s k7); have z2_ := congrArg Int32.toInt (rd_o k7 ef2 rfl); have z3_ := congrArg Int32.toInt (rd_o k7 ef3 rfl); have z4_ := congrArg Int32.toInt (rd_o k7 ef4 rfl); have z5_ := congrArg Int32.toInt (rd_o k7 ef5 rfl); have z_ := w_lits; have zl_ := l_lits; omega)⟩
    refine ev_imulB (l := 0) (u := 102375) rfl rfl b180 b179 (by decide) (by decide) (by decide) (by decide) (by decide) (fun v181 b181 e181 g181 => ?_)
    clear e181
    refine ev_iaddB (l := 0) (u := 102400) rfl rfl bf4 b181 (by decide) (by decide) (by decide) (by decide) (fun v182 b182 e182 g182 => ?_)
    refine ev_istore_n rfl rfl rfl rfl ?_
    dsimp only [List.set]
    refine ev_aload_n rfl rfl rfl ?_
    refine ev_getV (v := f1) rfl rfl fl_X2_44 rfl rfl rfl (rd_o k7 ef1 rfl) ?_
    refine ev_bipush (v := 24) rfl rfl (by decide) ?_
    refine ev_icmp_gt rfl rfl (fun c183 => ?_) (fun c183 => ?_)
    · have b184 : B f1 25 25 := R_ltY (by decide : B 24 24 24) bf1 c183 (by decide)
      have z185 := w_lt c183
      rw [show (24 : Int32).toInt = 24 from by decide] at z185
      refine ev_aload_n rfl rfl rfl ?_
      refine ev_bipush (v := 25) rfl rfl (by decide) ?_
      refine ev_putW (l := 0) (u := 25) hJ7 rfl (by decide : B 25 25 25) (by decide) (by decide) rfl rfl rfl fl_X2_44 rfl rfl rfl rfl rfl (fun h188 hJ188 k188 => ?_)
      refine ev_iconst (v := 1) rfl rfl (by decide) ?_
      exact ev_iret rfl rfl rfl ⟨⟨_, rfl, ⟨(by decide : B 1 1 1), (by have z0_ := congrArg Int32.toInt (rd_s k188); have z1_ := congrArg Int32.toInt (rd_o k188 (rd_s k7) rfl); have z2_ := congrArg Int32.toInt (rd_o k188 (rd_o k7 ef2 rfl) rfl); have z_ := w_lits; have zl_ := l_lits; omega), (by have z0_ := congrArg Int32.toInt (rd_s k188); have z1_ := congrArg Int32.toInt (rd_o k188 (rd_s k7) rfl); have z2_ := congrArg Int32.toInt (rd_o k188 (rd_o k7 ef2 rfl) rfl); have z3_ := congrArg Int32.toInt (rd_o k188 (rd_o k7 ef3 rfl) rfl); have z_ := w_lits; have zl_ := l_lits; omega), (by have z0_ := congrArg Int32.toInt (rd_s k188); have z1_ := congrArg Int32.toInt (rd_o k188 (rd_s k7) rfl); have z2_ := congrArg Int32.toInt (rd_o k188 (rd_o k7 ef3 rfl) rfl); have z3_ := congrArg Int32.toInt (rd_o k188 (rd_o k7 ef4 rfl) rfl); have z_ := w_lits; have zl_ := l_lits; omega), (by have z0_ := congrArg Int32.toInt (rd_s k188); have z1_ := congrArg Int32.toInt (rd_o k188 (rd_s k7) rfl); have z2_ := congrArg Int32.toInt (rd_o k188 (rd_o k7 ef4 rfl) rfl); have z3_ := congrArg Int32.toInt (rd_o k188 (rd_o k7 ef5 rfl) rfl); have z_ := w_lits; have zl_ := l_lits; omega)⟩⟩, rfl, hJ188⟩
    · have b186 : B f1 0 24 := R_leX bf1 (by decide : B 24 24 24) (Int32.not_lt.mp c183) (by decide)
      have z187 := w_le (Int32.not_lt.mp c183)
      rw [show (24 : Int32).toInt = 24 from by decide] at z187
      refine ev_iload_n rfl rfl rfl ?_
      refine ev_bipush (v := 24) rfl rfl (by decide) ?_
      refine ev_icmp_le rfl rfl (fun c189 => ?_) (fun c189 => ?_)
      · have b190 : B v182 0 24 := R_leX b182 (by decide : B 24 24 24) c189 (by decide)
        have z191 := w_le c189
        rw [show (24 : Int32).toInt = 24 from by decide] at z191
        refine ev_aload_n rfl rfl rfl ?_
        refine ev_getV (v := f1) rfl rfl fl_X2_44 rfl rfl rfl (rd_o k7 ef1 rfl) ?_
        refine ev_iload_n rfl rfl rfl ?_
        refine ev_isubV g178 rfl rfl ?_
        refine ev_istore_n rfl rfl rfl rfl ?_
        dsimp only [List.set]
        refine ev_aload_n rfl rfl rfl ?_
        refine ev_getV (v := f1) rfl rfl fl_X2_44 rfl rfl rfl (rd_o k7 ef1 rfl) ?_
        refine ev_istore rfl rfl rfl rfl ?_
        dsimp only [List.set]
        have lp75_233 : ∀ (n : Nat) (w234 : Int32) (h236 : Hp), B w234 0 24 → JW [(23, 10), (23, 13), (25, 999)] h h236 → (h236 23 13 = 2) → (h236 23 10 = f1) → (h236 26 0 = f2) → (h236 26 1 = f3) → (h236 26 2 = f4) → (h236 26 3 = f5) → (h236 27 2 = v179) → ((h236 23 10).toInt ≤ w234.toInt) → 24 + 1 - w234.toInt ≤ (n : Int) → EvQ mi_X2_takeClose 75 [some (.ref 23), some (.int f4), some (.int v182), some (.int v178), some (.int w234)] [] (G0 L b) h236 0 0 (QI (fun (r : Int32) (z : Hp) => B r 1 1 ∧ ((0 < (z 23 13).toInt → (z 26 0).toInt ≤ (z 23 10).toInt)) ∧ ((1 < (z 23 13).toInt → (z 26 0).toInt ≤ (z 26 1).toInt ∧ (z 26 1).toInt ≤ (z 23 10).toInt)) ∧ ((2 < (z 23 13).toInt → (z 26 1).toInt ≤ (z 26 2).toInt ∧ (z 26 2).toInt ≤ (z 23 10).toInt)) ∧ ((3 < (z 23 13).toInt → (z 26 2).toInt ≤ (z 26 3).toInt ∧ (z 26 3).toInt ≤ (z 23 10).toInt))) [(23, 10), (23, 13), (25, 999)] (G0 L b) h) := by
          intro n
          induction n with
          | zero =>
            intro w234 h236 b235 hJ237 z238 z239 z240 z241 z242 z243 z244 y75_0 hm75
            exact absurd hm75 (L_zero b235 (by decide))
          | succ n ih75 =>
            intro w234 h236 b235 hJ237 z238 z239 z240 z241 z242 z243 z244 y75_0 hm75
            have z245 := congrArg Int32.toInt z239
            have z246 := congrArg Int32.toInt z238
            have z247 := congrArg Int32.toInt z240
            have z248 := congrArg Int32.toInt z241
            have z249 := congrArg Int32.toInt z242
            have z250 := congrArg Int32.toInt z243
            refine ev_iload rfl rfl rfl ?_
            refine ev_iload_n rfl rfl rfl ?_
            refine ev_icmp_ge rfl rfl (fun c251 => ?_) (fun c251 => ?_)
            · have z252 := w_le c251
              refine ev_aload_n rfl rfl rfl ?_
              refine ev_iload_n rfl rfl rfl ?_
              refine ev_putW (l := 0) (u := 25) hJ237 rfl b190 (by decide) (by decide) rfl rfl rfl fl_X2_44 rfl rfl rfl rfl rfl (fun h256 hJ256 k256 => ?_)
              refine ev_iconst (v := 1) rfl rfl (by decide) ?_
              exact ev_iret rfl rfl rfl ⟨⟨_, rfl, ⟨(by decide : B 1 1 1), (by have z0_ := congrArg Int32.toInt (rd_s k256); have z1_ := congrArg Int32.toInt (rd_o k256 z238 rfl); have z2_ := congrArg Int32.toInt (rd_o k256 z240 rfl); have z_ := w_lits; have zl_ := l_lits; omega), (by have z0_ := congrArg Int32.toInt (rd_s k256); have z1_ := congrArg Int32.toInt (rd_o k256 z238 rfl); have z2_ := congrArg Int32.toInt (rd_o k256 z240 rfl); have z3_ := congrArg Int32.toInt (rd_o k256 z241 rfl); have z_ := w_lits; have zl_ := l_lits; omega), (by have z0_ := congrArg Int32.toInt (rd_s k256); have z1_ := congrArg Int32.toInt (rd_o k256 z238 rfl); have z2_ := congrArg Int32.toInt (rd_o k256 z241 rfl); have z3_ := congrArg Int32.toInt (rd_o k256 z242 rfl); have z_ := w_lits; have zl_ := l_lits; omega), (by have z0_ := congrArg Int32.toInt (rd_s k256); have z1_ := congrArg Int32.toInt (rd_o k256 z238 rfl); have z2_ := congrArg Int32.toInt (rd_o k256 z242 rfl); have z3_ := congrArg Int32.toInt (rd_o k256 z243 rfl); have z_ := w_lits; have zl_ := l_lits; omega)⟩⟩, rfl, hJ256⟩
            · have b253 : B w234 0 23 := R_ltX b235 b190 (Int32.not_le.mp c251) (by decide)
              have b254 : B v182 1 24 := R_ltY b235 b190 (Int32.not_le.mp c251) (by decide)
              have z255 := w_lt (Int32.not_le.mp c251)
              refine ev_aload_n rfl rfl rfl ?_
              refine ev_getR (y := 25) rfl rfl fl_X2_40 rfl rfl rfl rfl ?_
              refine ev_iload rfl rfl rfl ?_
              refine ev_aload_n rfl rfl rfl ?_
              refine ev_getR (y := 25) rfl rfl fl_X2_40 rfl rfl rfl rfl ?_
              refine ev_iload rfl rfl rfl ?_
              refine ev_iload_n rfl rfl rfl ?_
              refine ev_isubB (l := -25) (u := 23) rfl rfl b253 b180 (by decide) (by decide) (by decide) (by decide) (fun v257 b257 e257 g257 => ?_)
              have b258 : B v257 0 23 := ⟨(by have z0_ := congrArg Int32.toInt z239; have z1_ := congrArg Int32.toInt z238; have z2_ := congrArg Int32.toInt z240; have z3_ := congrArg Int32.toInt z241; have z4_ := congrArg Int32.toInt z242; have z5_ := congrArg Int32.toInt z243; have z_ := w_lits; have zl_ := l_lits; omega), (by have z0_ := congrArg Int32.toInt z239; have z1_ := congrArg Int32.toInt z238; have z2_ := congrArg Int32.toInt z240; have z3_ := congrArg Int32.toInt z241; have z4_ := congrArg Int32.toInt z242; have z5_ := congrArg Int32.toInt z243; have z_ := w_lits; have zl_ := l_lits; omega)⟩
              refine ev_ialW (n := 24) (l := 0) (u := 4095) hJ237.1 b258 (by decide) (by decide) (fun _ => rfl) rfl rfl rfl (fun v259 b259 e259 => ?_)
              refine ev_iasW (n := 24) (l := 0) (u := 4095) hJ237 b253 (by decide) (by decide) (fun _ => rfl) b259 (by decide) (by decide) (fun _ => rfl) rfl rfl rfl rfl (fun h260 hJ260 k260 => ?_)
              refine ev_iincB (y := 1) (l := 1) (u := 24) rfl rfl rfl (by decide) rfl rfl b253 (by decide : B 1 1 1) (by decide) (by decide) (by decide) (by decide) (fun v261 b261 e261 => ?_)
              dsimp only [List.set]
              have e261x := e261; rw [show (1 : Int32).toInt = 1 from by decide] at e261x
              refine ev_goto rfl rfl ?_
              exact (ih75 v261 h260 (b261.mono (by decide) (by decide)) hJ260 (rd_a k260 z238 rfl) (rd_a k260 z239 rfl) (rd_a k260 z240 rfl) (rd_a k260 z241 rfl) (rd_a k260 z242 rfl) (rd_a k260 z243 rfl) (rd_a k260 z244 rfl) (by have z0_ := congrArg Int32.toInt (rd_a k260 z239 rfl); have z_ := w_lits; have zl_ := l_lits; omega) (L_up hm75 (e_p1 e261 (by decide))))
        exact (lp75_233 25 f1 h7 b186 hJ7 (rd_s k7) (rd_o k7 ef1 rfl) (rd_o k7 ef2 rfl) (rd_o k7 ef3 rfl) (rd_o k7 ef4 rfl) (rd_o k7 ef5 rfl) e179 (by have z0_ := congrArg Int32.toInt (rd_o k7 ef1 rfl); have z_ := w_lits; have zl_ := l_lits; omega) (L_init b186 (by decide)))
      · have b192 : B v182 25 102400 := R_ltY (by decide : B 24 24 24) b182 (Int32.not_le.mp c189) (by decide)
        have z193 := w_lt (Int32.not_le.mp c189)
        rw [show (24 : Int32).toInt = 24 from by decide] at z193
        refine ev_aload_n rfl rfl rfl ?_
        refine ev_bipush (v := 25) rfl rfl (by decide) ?_
        refine ev_putW (l := 0) (u := 25) hJ7 rfl (by decide : B 25 25 25) (by decide) (by decide) rfl rfl rfl fl_X2_44 rfl rfl rfl rfl rfl (fun h262 hJ262 k262 => ?_)
        refine ev_iconst (v := 1) rfl rfl (by decide) ?_
        exact ev_iret rfl rfl rfl ⟨⟨_, rfl, ⟨(by decide : B 1 1 1), (by have z0_ := congrArg Int32.toInt (rd_s k262); have z1_ := congrArg Int32.toInt (rd_o k262 (rd_s k7) rfl); have z2_ := congrArg Int32.toInt (rd_o k262 (rd_o k7 ef2 rfl) rfl); have z_ := w_lits; have zl_ := l_lits; omega), (by have z0_ := congrArg Int32.toInt (rd_s k262); have z1_ := congrArg Int32.toInt (rd_o k262 (rd_s k7) rfl); have z2_ := congrArg Int32.toInt (rd_o k262 (rd_o k7 ef2 rfl) rfl); have z3_ := congrArg Int32.toInt (rd_o k262 (rd_o k7 ef3 rfl) rfl); have z_ := w_lits; have zl_ := l_lits; omega), (by have z0_ := congrArg Int32.toInt (rd_s k262); have z1_ := congrArg Int32.toInt (rd_o k262 (rd_s k7) rfl); have z2_ := congrArg Int32.toInt (rd_o k262 (rd_o k7 ef3 rfl) rfl); have z3_ := congrArg Int32.toInt (rd_o k262 (rd_o k7 ef4 rfl) rfl); have z_ := w_lits; have zl_ := l_lits; omega), (by have z0_ := congrArg Int32.toInt (rd_s k262); have z1_ := congrArg Int32.toInt (rd_o k262 (rd_s k7) rfl); have z2_ := congrArg Int32.toInt (rd_o k262 (rd_o k7 ef4 rfl) rfl); have z3_ := congrArg Int32.toInt (rd_o k262 (rd_o k7 ef5 rfl) rfl); have z_ := w_lits; have zl_ := l_lits; omega)⟩⟩, rfl, hJ262⟩
  · refine ev_iadV (j := 3) (v := f5) rfl rfl rfl (by unfold vp_in; decide) (by decide) (rd_o k7 ef5 rfl) ?_
    refine ev_istore_n rfl rfl rfl rfl ?_
    dsimp only [List.set]
    refine ev_iload_n rfl rfl rfl ?_
    refine ev_aload_n rfl rfl rfl ?_
    refine ev_getV (v := f1) rfl rfl fl_X2_44 rfl rfl rfl (rd_o k7 ef1 rfl) ?_
    refine ev_iload_n rfl rfl rfl ?_
    refine ev_isubB (l := -25) (u := 25) rfl rfl bf1 bf5 (by decide) (by decide) (by decide) (by decide) (fun v263 b263 e263 g263 => ?_)
    refine ev_aload_n rfl rfl rfl ?_
    refine ev_getR (y := 27) rfl rfl fl_X2_50 rfl rfl rfl rfl ?_
    refine ev_aload_n rfl rfl rfl ?_
    refine ev_getV (v := 3) rfl rfl fl_X2_53 rfl rfl rfl (rd_s k7) ?_
    refine ev_ialK (j := 3) (n := 4) (l := 0) (u := 4095) hJ7.1 (by decide : B 3 3 3) (by decide) (by decide) (by decide) rfl rfl rfl rfl (fun v264 b264 e264 => ?_)
    have b265 : B v263 0 25 := ⟨(by have z0_ := congrArg Int32.toInt (rd_o k7 ef1 rfl); have z1_ := congrArg Int32.toInt (rd_s k7); have z2_ := congrArg Int32.toInt (rd_o k7 ef2 rfl); have z3_ := congrArg Int32.toInt (rd_o k7 ef3 rfl); have z4_ := congrArg Int32.toInt (rd_o k7 ef4 rfl); have z5_ := congrArg Int32.toInt (rd_o k7 ef5 rfl); have z_ := w_lits; have zl_ := l_lits; omega), (by have z0_ := congrArg Int32.toInt (rd_o k7 ef1 rfl); have z1_ := congrArg Int32.toInt (rd_s k7); have z2_ := congrArg Int32.toInt (rd_o k7 ef2 rfl); have z3_ := congrArg Int32.toInt (rd_o k7 ef3 rfl); have z4_ := congrArg Int32.toInt (rd_o k7 ef4 rfl); have z5_ := congrArg Int32.toInt (rd_o k7 ef5 rfl); have z_ := w_lits; have zl_ := l_lits; omega)⟩
    refine ev_imulB (l := 0) (u := 102375) rfl rfl b265 b264 (by decide) (by decide) (by decide) (by decide) (by decide) (fun v266 b266 e266 g266 => ?_)
    clear e266
    refine ev_iaddB (l := 0) (u := 102400) rfl rfl bf5 b266 (by decide) (by decide) (by decide) (by decide) (fun v267 b267 e267 g267 => ?_)
    refine ev_istore_n rfl rfl rfl rfl ?_
    dsimp only [List.set]
    refine ev_aload_n rfl rfl rfl ?_
    refine ev_getV (v := f1) rfl rfl fl_X2_44 rfl rfl rfl (rd_o k7 ef1 rfl) ?_
    refine ev_bipush (v := 24) rfl rfl (by decide) ?_
    refine ev_icmp_gt rfl rfl (fun c268 => ?_) (fun c268 => ?_)
    · have b269 : B f1 25 25 := R_ltY (by decide : B 24 24 24) bf1 c268 (by decide)
      have z270 := w_lt c268
      rw [show (24 : Int32).toInt = 24 from by decide] at z270
      refine ev_aload_n rfl rfl rfl ?_
      refine ev_bipush (v := 25) rfl rfl (by decide) ?_
      refine ev_putW (l := 0) (u := 25) hJ7 rfl (by decide : B 25 25 25) (by decide) (by decide) rfl rfl rfl fl_X2_44 rfl rfl rfl rfl rfl (fun h273 hJ273 k273 => ?_)
      refine ev_iconst (v := 1) rfl rfl (by decide) ?_
      exact ev_iret rfl rfl rfl ⟨⟨_, rfl, ⟨(by decide : B 1 1 1), (by have z0_ := congrArg Int32.toInt (rd_s k273); have z1_ := congrArg Int32.toInt (rd_o k273 (rd_s k7) rfl); have z2_ := congrArg Int32.toInt (rd_o k273 (rd_o k7 ef2 rfl) rfl); have z_ := w_lits; have zl_ := l_lits; omega), (by have z0_ := congrArg Int32.toInt (rd_s k273); have z1_ := congrArg Int32.toInt (rd_o k273 (rd_s k7) rfl); have z2_ := congrArg Int32.toInt (rd_o k273 (rd_o k7 ef2 rfl) rfl); have z3_ := congrArg Int32.toInt (rd_o k273 (rd_o k7 ef3 rfl) rfl); have z_ := w_lits; have zl_ := l_lits; omega), (by have z0_ := congrArg Int32.toInt (rd_s k273); have z1_ := congrArg Int32.toInt (rd_o k273 (rd_s k7) rfl); have z2_ := congrArg Int32.toInt (rd_o k273 (rd_o k7 ef3 rfl) rfl); have z3_ := congrArg Int32.toInt (rd_o k273 (rd_o k7 ef4 rfl) rfl); have z_ := w_lits; have zl_ := l_lits; omega), (by have z0_ := congrArg Int32.toInt (rd_s k273); have z1_ := congrArg Int32.toInt (rd_o k273 (rd_s k7) rfl); have z2_ := congrArg Int32.toInt (rd_o k273 (rd_o k7 ef4 rfl) rfl); have z3_ := congrArg Int32.toInt (rd_o k273 (rd_o k7 ef5 rfl) rfl); have z_ := w_lits; have zl_ := l_lits; omega)⟩⟩, rfl, hJ273⟩
    · have b271 : B f1 0 24 := R_leX bf1 (by decide : B 24 24 24) (Int32.not_lt.mp c268) (by decide)
      have z272 := w_le (Int32.not_lt.mp c268)
      rw [show (24 : Int32).toInt = 24 from by decide] at z272
      refine ev_iload_n rfl rfl rfl ?_
      refine ev_bipush (v := 24) rfl rfl (by decide) ?_
      refine ev_icmp_le rfl rfl (fun c274 => ?_) (fun c274 => ?_)
      · have b275 : B v267 0 24 := R_leX b267 (by decide : B 24 24 24) c274 (by decide)
        have z276 := w_le c274
        rw [show (24 : Int32).toInt = 24 from by decide] at z276
        refine ev_aload_n rfl rfl rfl ?_
        refine ev_getV (v := f1) rfl rfl fl_X2_44 rfl rfl rfl (rd_o k7 ef1 rfl) ?_
        refine ev_iload_n rfl rfl rfl ?_
        refine ev_isubV g263 rfl rfl ?_
        refine ev_istore_n rfl rfl rfl rfl ?_
        dsimp only [List.set]
        refine ev_aload_n rfl rfl rfl ?_
        refine ev_getV (v := f1) rfl rfl fl_X2_44 rfl rfl rfl (rd_o k7 ef1 rfl) ?_
        refine ev_istore rfl rfl rfl rfl ?_
        dsimp only [List.set]
        have lp75_318 : ∀ (n : Nat) (w319 : Int32) (h321 : Hp), B w319 0 24 → JW [(23, 10), (23, 13), (25, 999)] h h321 → (h321 23 13 = 3) → (h321 23 10 = f1) → (h321 26 0 = f2) → (h321 26 1 = f3) → (h321 26 2 = f4) → (h321 26 3 = f5) → (h321 27 3 = v264) → ((h321 23 10).toInt ≤ w319.toInt) → 24 + 1 - w319.toInt ≤ (n : Int) → EvQ mi_X2_takeClose 75 [some (.ref 23), some (.int f5), some (.int v267), some (.int v263), some (.int w319)] [] (G0 L b) h321 0 0 (QI (fun (r : Int32) (z : Hp) => B r 1 1 ∧ ((0 < (z 23 13).toInt → (z 26 0).toInt ≤ (z 23 10).toInt)) ∧ ((1 < (z 23 13).toInt → (z 26 0).toInt ≤ (z 26 1).toInt ∧ (z 26 1).toInt ≤ (z 23 10).toInt)) ∧ ((2 < (z 23 13).toInt → (z 26 1).toInt ≤ (z 26 2).toInt ∧ (z 26 2).toInt ≤ (z 23 10).toInt)) ∧ ((3 < (z 23 13).toInt → (z 26 2).toInt ≤ (z 26 3).toInt ∧ (z 26 3).toInt ≤ (z 23 10).toInt))) [(23, 10), (23, 13), (25, 999)] (G0 L b) h) := by
          intro n
          induction n with
          | zero =>
            intro w319 h321 b320 hJ322 z323 z324 z325 z326 z327 z328 z329 y75_0 hm75
            exact absurd hm75 (L_zero b320 (by decide))
          | succ n ih75 =>
            intro w319 h321 b320 hJ322 z323 z324 z325 z326 z327 z328 z329 y75_0 hm75
            have z330 := congrArg Int32.toInt z324
            have z331 := congrArg Int32.toInt z323
            have z332 := congrArg Int32.toInt z325
            have z333 := congrArg Int32.toInt z326
            have z334 := congrArg Int32.toInt z327
            have z335 := congrArg Int32.toInt z328
            refine ev_iload rfl rfl rfl ?_
            refine ev_iload_n rfl rfl rfl ?_
            refine ev_icmp_ge rfl rfl (fun c336 => ?_) (fun c336 => ?_)
            · have z337 := w_le c336
              refine ev_aload_n rfl rfl rfl ?_
              refine ev_iload_n rfl rfl rfl ?_
              refine ev_putW (l := 0) (u := 25) hJ322 rfl b275 (by decide) (by decide) rfl rfl rfl fl_X2_44 rfl rfl rfl rfl rfl (fun h341 hJ341 k341 => ?_)
              refine ev_iconst (v := 1) rfl rfl (by decide) ?_
              exact ev_iret rfl rfl rfl ⟨⟨_, rfl, ⟨(by decide : B 1 1 1), (by have z0_ := congrArg Int32.toInt (rd_s k341); have z1_ := congrArg Int32.toInt (rd_o k341 z323 rfl); have z2_ := congrArg Int32.toInt (rd_o k341 z325 rfl); have z_ := w_lits; have zl_ := l_lits; omega), (by have z0_ := congrArg Int32.toInt (rd_s k341); have z1_ := congrArg Int32.toInt (rd_o k341 z323 rfl); have z2_ := congrArg Int32.toInt (rd_o k341 z325 rfl); have z3_ := congrArg Int32.toInt (rd_o k341 z326 rfl); have z_ := w_lits; have zl_ := l_lits; omega), (by have z0_ := congrArg Int32.toInt (rd_s k341); have z1_ := congrArg Int32.toInt (rd_o k341 z323 rfl); have z2_ := congrArg Int32.toInt (rd_o k341 z326 rfl); have z3_ := congrArg Int32.toInt (rd_o k341 z327 rfl); have z_ := w_lits; have zl_ := l_lits; omega), (by have z0_ := congrArg Int32.toInt (rd_s k341); have z1_ := congrArg Int32.toInt (rd_o k341 z323 rfl); have z2_ := congrArg Int32.toInt (rd_o k341 z327 rfl); have z3_ := congrArg Int32.toInt (rd_o k341 z328 rfl); have z_ := w_lits; have zl_ := l_lits; omega)⟩⟩, rfl, hJ341⟩
            · have b338 : B w319 0 23 := R_ltX b320 b275 (Int32.not_le.mp c336) (by decide)
              have b339 : B v267 1 24 := R_ltY b320 b275 (Int32.not_le.mp c336) (by decide)
              have z340 := w_lt (Int32.not_le.mp c336)
              refine ev_aload_n rfl rfl rfl ?_
              refine ev_getR (y := 25) rfl rfl fl_X2_40 rfl rfl rfl rfl ?_
              refine ev_iload rfl rfl rfl ?_
              refine ev_aload_n rfl rfl rfl ?_
              refine ev_getR (y := 25) rfl rfl fl_X2_40 rfl rfl rfl rfl ?_
              refine ev_iload rfl rfl rfl ?_
              refine ev_iload_n rfl rfl rfl ?_
              refine ev_isubB (l := -25) (u := 23) rfl rfl b338 b265 (by decide) (by decide) (by decide) (by decide) (fun v342 b342 e342 g342 => ?_)
              have b343 : B v342 0 23 := ⟨(by have z0_ := congrArg Int32.toInt z324; have z1_ := congrArg Int32.toInt z323; have z2_ := congrArg Int32.toInt z325; have z3_ := congrArg Int32.toInt z326; have z4_ := congrArg Int32.toInt z327; have z5_ := congrArg Int32.toInt z328; have z_ := w_lits; have zl_ := l_lits; omega), (by have z0_ := congrArg Int32.toInt z324; have z1_ := congrArg Int32.toInt z323; have z2_ := congrArg Int32.toInt z325; have z3_ := congrArg Int32.toInt z326; have z4_ := congrArg Int32.toInt z327; have z5_ := congrArg Int32.toInt z328; have z_ := w_lits; have zl_ := l_lits; omega)⟩
              refine ev_ialW (n := 24) (l := 0) (u := 4095) hJ322.1 b343 (by decide) (by decide) (fun _ => rfl) rfl rfl rfl (fun v344 b344 e344 => ?_)
              refine ev_iasW (n := 24) (l := 0) (u := 4095) hJ322 b338 (by decide) (by decide) (fun _ => rfl) b344 (by decide) (by decide) (fun _ => rfl) rfl rfl rfl rfl (fun h345 hJ345 k345 => ?_)
              refine ev_iincB (y := 1) (l := 1) (u := 24) rfl rfl rfl (by decide) rfl rfl b338 (by decide : B 1 1 1) (by decide) (by decide) (by decide) (by decide) (fun v346 b346 e346 => ?_)
              dsimp only [List.set]
              have e346x := e346; rw [show (1 : Int32).toInt = 1 from by decide] at e346x
              refine ev_goto rfl rfl ?_
              exact (ih75 v346 h345 (b346.mono (by decide) (by decide)) hJ345 (rd_a k345 z323 rfl) (rd_a k345 z324 rfl) (rd_a k345 z325 rfl) (rd_a k345 z326 rfl) (rd_a k345 z327 rfl) (rd_a k345 z328 rfl) (rd_a k345 z329 rfl) (by have z0_ := congrArg Int32.toInt (rd_a k345 z324 rfl); have z_ := w_lits; have zl_ := l_lits; omega) (L_up hm75 (e_p1 e346 (by decide))))
        exact (lp75_318 25 f1 h7 b271 hJ7 (rd_s k7) (rd_o k7 ef1 rfl) (rd_o k7 ef2 rfl) (rd_o k7 ef3 rfl) (rd_o k7 ef4 rfl) (rd_o k7 ef5 rfl) e264 (by have z0_ := congrArg Int32.toInt (rd_o k7 ef1 rfl); have z_ := w_lits; have zl_ := l_lits; omega) (L_init b271 (by decide)))
      · have b277 : B v267 25 102400 := R_ltY (by decide : B 24 24 24) b267 (Int32.not_le.mp c274) (by decide)
        have z278 := w_lt (Int32.not_le.mp c274)
        rw [show (24 : Int32).toInt = 24 from by decide] at z278
        refine ev_aload_n rfl rfl rfl ?_
        refine ev_bipush (v := 25) rfl rfl (by decide) ?_
        refine ev_putW (l := 0) (u := 25) hJ7 rfl (by decide : B 25 25 25) (by decide) (by decide) rfl rfl rfl fl_X2_44 rfl rfl rfl rfl rfl (fun h347 hJ347 k347 => ?_)
        refine ev_iconst (v := 1) rfl rfl (by decide) ?_
        exact ev_iret rfl rfl rfl ⟨⟨_, rfl, ⟨(by decide : B 1 1 1), (by have z0_ := congrArg Int32.toInt (rd_s k347); have z1_ := congrArg Int32.toInt (rd_o k347 (rd_s k7) rfl); have z2_ := congrArg Int32.toInt (rd_o k347 (rd_o k7 ef2 rfl) rfl); have z_ := w_lits; have zl_ := l_lits; omega), (by have z0_ := congrArg Int32.toInt (rd_s k347); have z1_ := congrArg Int32.toInt (rd_o k347 (rd_s k7) rfl); have z2_ := congrArg Int32.toInt (rd_o k347 (rd_o k7 ef2 rfl) rfl); have z3_ := congrArg Int32.toInt (rd_o k347 (rd_o k7 ef3 rfl) rfl); have z_ := w_lits; have zl_ := l_lits; omega), (by have z0_ := congrArg Int32.toInt (rd_s k347); have z1_ := congrArg Int32.toInt (rd_o k347 (rd_s k7) rfl); have z2_ := congrArg Int32.toInt (rd_o k347 (rd_o k7 ef3 rfl) rfl); have z3_ := congrArg Int32.toInt (rd_o k347 (rd_o k7 ef4 rfl) rfl); have z_ := w_lits; have zl_ := l_lits; omega), (by have z0_ := congrArg Int32.toInt (rd_s k347); have z1_ := congrArg Int32.toInt (rd_o k347 (rd_s k7) rfl); have z2_ := congrArg Int32.toInt (rd_o k347 (rd_o k7 ef4 rfl) rfl); have z3_ := congrArg Int32.toInt (rd_o k347 (rd_o k7 ef5 rfl) rfl); have z_ := w_lits; have zl_ := l_lits; omega)⟩⟩, rfl, hJ347⟩

set_option maxRecDepth 100000 in
set_option maxHeartbeats 4000000 in
theorem w_X2_takeOpen_23 (L : Nat) (b : Bool) (h : Hp) (hB : Bx h) (rp0 : (0 < (h 23 13).toInt → (h 26 0).toInt ≤ (h 23 10).toInt)) (rp1 : (1 < (h 23 13).toInt → (h 26 0).toInt ≤ (h 26 1).toInt ∧ (h 26 1).toInt ≤ (h 23 10).toInt)) (rp2 : (2 < (h 23 13).toInt → (h 26 1).toInt ≤ (h 26 2).toInt ∧ (h 26 2).toInt ≤ (h 23 10).toInt)) (rp3 : (3 < (h 23 13).toInt → (h 26 2).toInt ≤ (h 26 3).toInt ∧ (h 26 3).toInt ≤ (h 23 10).toInt)) : EvI mi_X2_takeOpen [.ref 23] (G0 L b) h (fun (r : Int32) (z : Hp) => B r 0 3 ∧ ((0 < (z 23 13).toInt → (z 26 0).toInt ≤ (z 23 10).toInt)) ∧ ((1 < (z 23 13).toInt → (z 26 0).toInt ≤ (z 26 1).toInt ∧ (z 26 1).toInt ≤ (z 23 10).toInt)) ∧ ((2 < (z 23 13).toInt → (z 26 1).toInt ≤ (z 26 2).toInt ∧ (z 26 2).toInt ≤ (z 23 10).toInt)) ∧ ((3 < (z 23 13).toInt → (z 26 2).toInt ≤ (z 26 3).toInt ∧ (z 26 3).toInt ≤ (z 23 10).toInt)) ∧ (r.toInt = 3 → ¬ (z 23 7).toInt = 0)) [(23, 7), (23, 8), (23, 13), (26, 999), (27, 999)] := by
  refine EvM.of2 (lo := [some (.ref 23)]) pf_X2_takeOpen ok_X2_takeOpen rfl rfl ?_
  have hJ0 : JW [(23, 7), (23, 8), (23, 13), (26, 999), (27, 999)] h h := JW.refl hB
  obtain ⟨f1, ef1⟩ : ∃ f_, h 23 10 = f_ := ⟨_, rfl⟩
  have bf1 : B f1 0 25 := by have z_ := hJ0.1 23 10; rw [ef1] at z_; exact z_
  have zf1 := congrArg Int32.toInt ef1
  obtain ⟨f2, ef2⟩ : ∃ f_, h 23 13 = f_ := ⟨_, rfl⟩
  have bf2 : B f2 0 4 := by have z_ := hJ0.1 23 13; rw [ef2] at z_; exact z_
  have zf2 := congrArg Int32.toInt ef2
  obtain ⟨f3, ef3⟩ : ∃ f_, h 26 0 = f_ := ⟨_, rfl⟩
  have bf3 : B f3 0 25 := by have z_ := hJ0.1 26 0; rw [ef3] at z_; exact z_
  have zf3 := congrArg Int32.toInt ef3
  obtain ⟨f4, ef4⟩ : ∃ f_, h 26 1 = f_ := ⟨_, rfl⟩
  have bf4 : B f4 0 25 := by have z_ := hJ0.1 26 1; rw [ef4] at z_; exact z_
  have zf4 := congrArg Int32.toInt ef4
  obtain ⟨f5, ef5⟩ : ∃ f_, h 26 2 = f_ := ⟨_, rfl⟩
  have bf5 : B f5 0 25 := by have z_ := hJ0.1 26 2; rw [ef5] at z_; exact z_
  have zf5 := congrArg Int32.toInt ef5
  obtain ⟨f6, ef6⟩ : ∃ f_, h 26 3 = f_ := ⟨_, rfl⟩
  have bf6 : B f6 0 25 := by have z_ := hJ0.1 26 3; rw [ef6] at z_; exact z_
  have zf6 := congrArg Int32.toInt ef6
  obtain ⟨f7, ef7⟩ : ∃ f_, h 23 7 = f_ := ⟨_, rfl⟩
  have zf7 := congrArg Int32.toInt ef7
  refine ev_aload_n rfl rfl rfl ?_
  refine ev_getV (v := f2) rfl rfl fl_X2_53 rfl rfl rfl ef2 ?_
  refine ev_iconst (v := 4) rfl rfl (by decide) ?_
  refine ev_icmp_lt rfl rfl (fun c8 => ?_) (fun c8 => ?_)
  · have b9 : B f2 0 3 := R_ltX bf2 (by decide : B 4 4 4) c8 (by decide)
    have z10 := w_lt c8
    rw [show (4 : Int32).toInt = 4 from by decide] at z10
    refine ev_aload_n rfl rfl rfl ?_
    refine ev_getR (y := 26) rfl rfl fl_X2_47 rfl rfl rfl rfl ?_
    refine ev_aload_n rfl rfl rfl ?_
    refine ev_getV (v := f2) rfl rfl fl_X2_53 rfl rfl rfl ef2 ?_
    rcases B.c4 b9 with rfl | rfl | rfl | rfl
    · refine ev_aload_n rfl rfl rfl ?_
      refine ev_getV (v := f1) rfl rfl fl_X2_44 rfl rfl rfl ef1 ?_
      refine ev_iasK (j := 0) (n := 4) (l := 0) (u := 25) hJ0 (by decide : B 0 0 0) (by decide) (by decide) (by decide) rfl bf1 (by decide) (by decide) rfl rfl rfl rfl rfl (fun h13 hJ13 k13 => ?_)
      refine ev_aload_n rfl rfl rfl ?_
      refine ev_getR (y := 27) rfl rfl fl_X2_50 rfl rfl rfl rfl ?_
      refine ev_aload_n rfl rfl rfl ?_
      refine ev_getV (v := 0) rfl rfl fl_X2_53 rfl rfl rfl (rd_a k13 ef2 rfl) ?_
      refine ev_aload_n rfl rfl rfl ?_
      refine ev_getW (l := 0) (u := 4095) hJ13.1 rfl rfl rfl fl_X2_28 rfl rfl rfl (fun v14 b14 e14 => ?_)
      refine ev_iasW (n := 4) (l := 0) (u := 4095) hJ13 (by decide : B 0 0 0) (by decide) (by decide) (fun _ => rfl) b14 (by decide) (by decide) (fun _ => rfl) rfl rfl rfl rfl (fun h15 hJ15 k15 => ?_)
      refine ev_aload_n rfl rfl rfl ?_
      refine ev_dup rfl rfl rfl ?_
      refine ev_getV (v := 0) rfl rfl fl_X2_53 rfl rfl rfl (rd_a k15 (rd_a k13 ef2 rfl) rfl) ?_
      refine ev_iconst (v := 1) rfl rfl (by decide) ?_
      refine ev_iaddB (l := 1) (u := 1) rfl rfl (by decide : B 0 0 0) (by decide : B 1 1 1) (by decide) (by decide) (by decide) (by decide) (fun v16 b16 e16 g16 => ?_)
      have e16x := e16; rw [show (0 : Int32).toInt = 0 from by decide] at e16x
      have e16xx := e16x; rw [show (1 : Int32).toInt = 1 from by decide] at e16xx
      refine ev_putW (l := 0) (u := 4) hJ15 rfl b16 (by decide) (by decide) rfl rfl rfl fl_X2_53 rfl rfl rfl rfl rfl (fun h17 hJ17 k17 => ?_)
      refine ev_iconst (v := 0) rfl rfl (by decide) ?_
      exact ev_iret rfl rfl rfl ⟨⟨_, rfl, ⟨((by decide : B 0 0 0).mono (by decide) (by decide)), (by have z0_ := congrArg Int32.toInt (rd_o k17 (rd_a k15 (rd_a k13 ef1 rfl) rfl) rfl); have z1_ := congrArg Int32.toInt (rd_s k17); have z2_ := congrArg Int32.toInt (rd_o k17 (rd_a k15 (rd_s k13) rfl) rfl); have z_ := w_lits; have zl_ := l_lits; omega), (by have z0_ := congrArg Int32.toInt (rd_o k17 (rd_a k15 (rd_a k13 ef1 rfl) rfl) rfl); have z1_ := congrArg Int32.toInt (rd_s k17); have z2_ := congrArg Int32.toInt (rd_o k17 (rd_a k15 (rd_s k13) rfl) rfl); have z3_ := congrArg Int32.toInt (rd_o k17 (rd_a k15 (rd_o k13 ef4 rfl) rfl) rfl); have z_ := w_lits; have zl_ := l_lits; omega), (by have z0_ := congrArg Int32.toInt (rd_o k17 (rd_a k15 (rd_a k13 ef1 rfl) rfl) rfl); have z1_ := congrArg Int32.toInt (rd_s k17); have z2_ := congrArg Int32.toInt (rd_o k17 (rd_a k15 (rd_o k13 ef4 rfl) rfl) rfl); have z3_ := congrArg Int32.toInt (rd_o k17 (rd_a k15 (rd_o k13 ef5 rfl) rfl) rfl); have z_ := w_lits; have zl_ := l_lits; omega), (by have z0_ := congrArg Int32.toInt (rd_o k17 (rd_a k15 (rd_a k13 ef1 rfl) rfl) rfl); have z1_ := congrArg Int32.toInt (rd_s k17); have z2_ := congrArg Int32.toInt (rd_o k17 (rd_a k15 (rd_o k13 ef5 rfl) rfl) rfl); have z3_ := congrArg Int32.toInt (rd_o k17 (rd_a k15 (rd_o k13 ef6 rfl) rfl) rfl); have z_ := w_lits; have zl_ := l_lits; omega), (by have z0_ := congrArg Int32.toInt (rd_o k17 (rd_a k15 (rd_a k13 ef7 rfl) rfl) rfl); have z_ := w_lits; have zl_ := l_lits; omega)⟩⟩, rfl, hJ17⟩
    · refine ev_aload_n rfl rfl rfl ?_
      refine ev_getV (v := f1) rfl rfl fl_X2_44 rfl rfl rfl ef1 ?_
      refine ev_iasK (j := 1) (n := 4) (l := 0) (u := 25) hJ0 (by decide : B 1 1 1) (by decide) (by decide) (by decide) rfl bf1 (by decide) (by decide) rfl rfl rfl rfl rfl (fun h18 hJ18 k18 => ?_)
      refine ev_aload_n rfl rfl rfl ?_
      refine ev_getR (y := 27) rfl rfl fl_X2_50 rfl rfl rfl rfl ?_
      refine ev_aload_n rfl rfl rfl ?_
      refine ev_getV (v := 1) rfl rfl fl_X2_53 rfl rfl rfl (rd_a k18 ef2 rfl) ?_
      refine ev_aload_n rfl rfl rfl ?_
      refine ev_getW (l := 0) (u := 4095) hJ18.1 rfl rfl rfl fl_X2_28 rfl rfl rfl (fun v19 b19 e19 => ?_)
      refine ev_iasW (n := 4) (l := 0) (u := 4095) hJ18 (by decide : B 1 1 1) (by decide) (by decide) (fun _ => rfl) b19 (by decide) (by decide) (fun _ => rfl) rfl rfl rfl rfl (fun h20 hJ20 k20 => ?_)
      refine ev_aload_n rfl rfl rfl ?_
      refine ev_dup rfl rfl rfl ?_
      refine ev_getV (v := 1) rfl rfl fl_X2_53 rfl rfl rfl (rd_a k20 (rd_a k18 ef2 rfl) rfl) ?_
      refine ev_iconst (v := 1) rfl rfl (by decide) ?_
      refine ev_iaddB (l := 2) (u := 2) rfl rfl (by decide : B 1 1 1) (by decide : B 1 1 1) (by decide) (by decide) (by decide) (by decide) (fun v21 b21 e21 g21 => ?_)
      have e21x := e21; rw [show (1 : Int32).toInt = 1 from by decide] at e21x
      refine ev_putW (l := 0) (u := 4) hJ20 rfl b21 (by decide) (by decide) rfl rfl rfl fl_X2_53 rfl rfl rfl rfl rfl (fun h22 hJ22 k22 => ?_)
      refine ev_iconst (v := 0) rfl rfl (by decide) ?_
      exact ev_iret rfl rfl rfl ⟨⟨_, rfl, ⟨((by decide : B 0 0 0).mono (by decide) (by decide)), (by have z0_ := congrArg Int32.toInt (rd_o k22 (rd_a k20 (rd_a k18 ef1 rfl) rfl) rfl); have z1_ := congrArg Int32.toInt (rd_s k22); have z2_ := congrArg Int32.toInt (rd_o k22 (rd_a k20 (rd_o k18 ef3 rfl) rfl) rfl); have z_ := w_lits; have zl_ := l_lits; omega), (by have z0_ := congrArg Int32.toInt (rd_o k22 (rd_a k20 (rd_a k18 ef1 rfl) rfl) rfl); have z1_ := congrArg Int32.toInt (rd_s k22); have z2_ := congrArg Int32.toInt (rd_o k22 (rd_a k20 (rd_o k18 ef3 rfl) rfl) rfl); have z3_ := congrArg Int32.toInt (rd_o k22 (rd_a k20 (rd_s k18) rfl) rfl); have z_ := w_lits; have zl_ := l_lits; omega), (by have z0_ := congrArg Int32.toInt (rd_o k22 (rd_a k20 (rd_a k18 ef1 rfl) rfl) rfl); have z1_ := congrArg Int32.toInt (rd_s k22); have z2_ := congrArg Int32.toInt (rd_o k22 (rd_a k20 (rd_s k18) rfl) rfl); have z3_ := congrArg Int32.toInt (rd_o k22 (rd_a k20 (rd_o k18 ef5 rfl) rfl) rfl); have z_ := w_lits; have zl_ := l_lits; omega), (by have z0_ := congrArg Int32.toInt (rd_o k22 (rd_a k20 (rd_a k18 ef1 rfl) rfl) rfl); have z1_ := congrArg Int32.toInt (rd_s k22); have z2_ := congrArg Int32.toInt (rd_o k22 (rd_a k20 (rd_o k18 ef5 rfl) rfl) rfl); have z3_ := congrArg Int32.toInt (rd_o k22 (rd_a k20 (rd_o k18 ef6 rfl) rfl) rfl); have z_ := w_lits; have zl_ := l_lits; omega), (by have z0_ := congrArg Int32.toInt (rd_o k22 (rd_a k20 (rd_a k18 ef7 rfl) rfl) rfl); have z_ := w_lits; have zl_ := l_lits; omega)⟩⟩, rfl, hJ22⟩
    · refine ev_aload_n rfl rfl rfl ?_
      refine ev_getV (v := f1) rfl rfl fl_X2_44 rfl rfl rfl ef1 ?_
      refine ev_iasK (j := 2) (n := 4) (l := 0) (u := 25) hJ0 (by decide : B 2 2 2) (by decide) (by decide) (by decide) rfl bf1 (by decide) (by decide) rfl rfl rfl rfl rfl (fun h23 hJ23 k23 => ?_)
      refine ev_aload_n rfl rfl rfl ?_
      refine ev_getR (y := 27) rfl rfl fl_X2_50 rfl rfl rfl rfl ?_
      refine ev_aload_n rfl rfl rfl ?_
      refine ev_getV (v := 2) rfl rfl fl_X2_53 rfl rfl rfl (rd_a k23 ef2 rfl) ?_
      refine ev_aload_n rfl rfl rfl ?_
      refine ev_getW (l := 0) (u := 4095) hJ23.1 rfl rfl rfl fl_X2_28 rfl rfl rfl (fun v24 b24 e24 => ?_)
      refine ev_iasW (n := 4) (l := 0) (u := 4095) hJ23 (by decide : B 2 2 2) (by decide) (by decide) (fun _ => rfl) b24 (by decide) (by decide) (fun _ => rfl) rfl rfl rfl rfl (fun h25 hJ25 k25 => ?_)
      refine ev_aload_n rfl rfl rfl ?_
      refine ev_dup rfl rfl rfl ?_
      refine ev_getV (v := 2) rfl rfl fl_X2_53 rfl rfl rfl (rd_a k25 (rd_a k23 ef2 rfl) rfl) ?_
      refine ev_iconst (v := 1) rfl rfl (by decide) ?_
      refine ev_iaddB (l := 3) (u := 3) rfl rfl (by decide : B 2 2 2) (by decide : B 1 1 1) (by decide) (by decide) (by decide) (by decide) (fun v26 b26 e26 g26 => ?_)
      have e26x := e26; rw [show (2 : Int32).toInt = 2 from by decide] at e26x
      have e26xx := e26x; rw [show (1 : Int32).toInt = 1 from by decide] at e26xx
      refine ev_putW (l := 0) (u := 4) hJ25 rfl b26 (by decide) (by decide) rfl rfl rfl fl_X2_53 rfl rfl rfl rfl rfl (fun h27 hJ27 k27 => ?_)
      refine ev_iconst (v := 0) rfl rfl (by decide) ?_
      exact ev_iret rfl rfl rfl ⟨⟨_, rfl, ⟨((by decide : B 0 0 0).mono (by decide) (by decide)), (by have z0_ := congrArg Int32.toInt (rd_o k27 (rd_a k25 (rd_a k23 ef1 rfl) rfl) rfl); have z1_ := congrArg Int32.toInt (rd_s k27); have z2_ := congrArg Int32.toInt (rd_o k27 (rd_a k25 (rd_o k23 ef3 rfl) rfl) rfl); have z_ := w_lits; have zl_ := l_lits; omega), (by have z0_ := congrArg Int32.toInt (rd_o k27 (rd_a k25 (rd_a k23 ef1 rfl) rfl) rfl); have z1_ := congrArg Int32.toInt (rd_s k27); have z2_ := congrArg Int32.toInt (rd_o k27 (rd_a k25 (rd_o k23 ef3 rfl) rfl) rfl); have z3_ := congrArg Int32.toInt (rd_o k27 (rd_a k25 (rd_o k23 ef4 rfl) rfl) rfl); have z_ := w_lits; have zl_ := l_lits; omega), (by have z0_ := congrArg Int32.toInt (rd_o k27 (rd_a k25 (rd_a k23 ef1 rfl) rfl) rfl); have z1_ := congrArg Int32.toInt (rd_s k27); have z2_ := congrArg Int32.toInt (rd_o k27 (rd_a k25 (rd_o k23 ef4 rfl) rfl) rfl); have z3_ := congrArg Int32.toInt (rd_o k27 (rd_a k25 (rd_s k23) rfl) rfl); have z_ := w_lits; have zl_ := l_lits; omega), (by have z0_ := congrArg Int32.toInt (rd_o k27 (rd_a k25 (rd_a k23 ef1 rfl) rfl) rfl); have z1_ := congrArg Int32.toInt (rd_s k27); have z2_ := congrArg Int32.toInt (rd_o k27 (rd_a k25 (rd_s k23) rfl) rfl); have z3_ := congrArg Int32.toInt (rd_o k27 (rd_a k25 (rd_o k23 ef6 rfl) rfl) rfl); have z_ := w_lits; have zl_ := l_lits; omega), (by have z0_ := congrArg Int32.toInt (rd_o k27 (rd_a k25 (rd_a k23 ef7 rfl) rfl) rfl); have z_ := w_lits; have zl_ := l_lits; omega)⟩⟩, rfl, hJ27⟩
    · refine ev_aload_n rfl rfl rfl ?_
      refine ev_getV (v := f1) rfl rfl fl_X2_44 rfl rfl rfl ef1 ?_
      refine ev_iasK (j := 3) (n := 4) (l := 0) (u := 25) hJ0 (by decide : B 3 3 3) (by decide) (by decide) (by decide) rfl bf1 (by decide) (by decide) rfl rfl rfl rfl rfl (fun h28 hJ28 k28 => ?_)
      refine ev_aload_n rfl rfl rfl ?_
      refine ev_getR (y := 27) rfl rfl fl_X2_50 rfl rfl rfl rfl ?_
      refine ev_aload_n rfl rfl rfl ?_
      refine ev_getV (v := 3) rfl rfl fl_X2_53 rfl rfl rfl (rd_a k28 ef2 rfl) ?_
      refine ev_aload_n rfl rfl rfl ?_
      refine ev_getW (l := 0) (u := 4095) hJ28.1 rfl rfl rfl fl_X2_28 rfl rfl rfl (fun v29 b29 e29 => ?_)
      refine ev_iasW (n := 4) (l := 0) (u := 4095) hJ28 (by decide : B 3 3 3) (by decide) (by decide) (fun _ => rfl) b29 (by decide) (by decide) (fun _ => rfl) rfl rfl rfl rfl (fun h30 hJ30 k30 => ?_)
      refine ev_aload_n rfl rfl rfl ?_
      refine ev_dup rfl rfl rfl ?_
      refine ev_getV (v := 3) rfl rfl fl_X2_53 rfl rfl rfl (rd_a k30 (rd_a k28 ef2 rfl) rfl) ?_
      refine ev_iconst (v := 1) rfl rfl (by decide) ?_
      refine ev_iaddB (l := 4) (u := 4) rfl rfl (by decide : B 3 3 3) (by decide : B 1 1 1) (by decide) (by decide) (by decide) (by decide) (fun v31 b31 e31 g31 => ?_)
      have e31x := e31; rw [show (3 : Int32).toInt = 3 from by decide] at e31x
      have e31xx := e31x; rw [show (1 : Int32).toInt = 1 from by decide] at e31xx
      refine ev_putW (l := 0) (u := 4) hJ30 rfl b31 (by decide) (by decide) rfl rfl rfl fl_X2_53 rfl rfl rfl rfl rfl (fun h32 hJ32 k32 => ?_)
      refine ev_iconst (v := 0) rfl rfl (by decide) ?_
      exact ev_iret rfl rfl rfl ⟨⟨_, rfl, ⟨((by decide : B 0 0 0).mono (by decide) (by decide)), (by have z0_ := congrArg Int32.toInt (rd_o k32 (rd_a k30 (rd_a k28 ef1 rfl) rfl) rfl); have z1_ := congrArg Int32.toInt (rd_s k32); have z2_ := congrArg Int32.toInt (rd_o k32 (rd_a k30 (rd_o k28 ef3 rfl) rfl) rfl); have z_ := w_lits; have zl_ := l_lits; omega), (by have z0_ := congrArg Int32.toInt (rd_o k32 (rd_a k30 (rd_a k28 ef1 rfl) rfl) rfl); have z1_ := congrArg Int32.toInt (rd_s k32); have z2_ := congrArg Int32.toInt (rd_o k32 (rd_a k30 (rd_o k28 ef3 rfl) rfl) rfl); have z3_ := congrArg Int32.toInt (rd_o k32 (rd_a k30 (rd_o k28 ef4 rfl) rfl) rfl); have z_ := w_lits; have zl_ := l_lits; omega), (by have z0_ := congrArg Int32.toInt (rd_o k32 (rd_a k30 (rd_a k28 ef1 rfl) rfl) rfl); have z1_ := congrArg Int32.toInt (rd_s k32); have z2_ := congrArg Int32.toInt (rd_o k32 (rd_a k30 (rd_o k28 ef4 rfl) rfl) rfl); have z3_ := congrArg Int32.toInt (rd_o k32 (rd_a k30 (rd_o k28 ef5 rfl) rfl) rfl); have z_ := w_lits; have zl_ := l_lits; omega), (by have z0_ := congrArg Int32.toInt (rd_o k32 (rd_a k30 (rd_a k28 ef1 rfl) rfl) rfl); have z1_ := congrArg Int32.toInt (rd_s k32); have z2_ := congrArg Int32.toInt (rd_o k32 (rd_a k30 (rd_o k28 ef5 rfl) rfl) rfl); have z3_ := congrArg Int32.toInt (rd_o k32 (rd_a k30 (rd_s k28) rfl) rfl); have z_ := w_lits; have zl_ := l_lits; omega), (by have z0_ := congrArg Int32.toInt (rd_o k32 (rd_a k30 (rd_a k28 ef7 rfl) rfl) rfl); have z_ := w_lits; have zl_ := l_lits; omega)⟩⟩, rfl, hJ32⟩
  · have b11 : B f2 4 4 := R_leY (by decide : B 4 4 4) bf2 (Int32.not_lt.mp c8) (by decide)
    have z12 := w_le (Int32.not_lt.mp c8)
    rw [show (4 : Int32).toInt = 4 from by decide] at z12
    refine ev_aload_n rfl rfl rfl ?_
    refine ev_iconst (v := 5) rfl rfl (by decide) ?_
    refine ev_aload_n rfl rfl rfl ?_
    refine ev_getW (l := (-2147483648)) (u := 2147483647) hJ0.1 rfl rfl rfl fl_X2_25 rfl rfl rfl (fun v33 b33 e33 => ?_)
    refine ev_V2K hJ0 rfl rfl rfl lk_X2_79 vt_X2_fail rfl rfl rfl rfl rfl (w_X2_fail_23 L b h hJ0.1 5 v33) (fun h34 hJ34 k34 m34 => ?_)
    obtain ⟨f35, ef35⟩ : ∃ f_, h34 23 7 = f_ := ⟨_, rfl⟩
    have zf35 := congrArg Int32.toInt ef35
    refine ev_iconst (v := 3) rfl rfl (by decide) ?_
    exact ev_iret rfl rfl rfl ⟨⟨_, rfl, ⟨((by decide : B 3 3 3).mono (by decide) (by decide)), (by have z0_ := congrArg Int32.toInt (rd_w k34 ef1 rfl); have z1_ := congrArg Int32.toInt (rd_w k34 ef2 rfl); have z2_ := congrArg Int32.toInt (rd_w k34 ef3 rfl); have z_ := w_lits; have zl_ := l_lits; omega), (by have z0_ := congrArg Int32.toInt (rd_w k34 ef1 rfl); have z1_ := congrArg Int32.toInt (rd_w k34 ef2 rfl); have z2_ := congrArg Int32.toInt (rd_w k34 ef3 rfl); have z3_ := congrArg Int32.toInt (rd_w k34 ef4 rfl); have z_ := w_lits; have zl_ := l_lits; omega), (by have z0_ := congrArg Int32.toInt (rd_w k34 ef1 rfl); have z1_ := congrArg Int32.toInt (rd_w k34 ef2 rfl); have z2_ := congrArg Int32.toInt (rd_w k34 ef4 rfl); have z3_ := congrArg Int32.toInt (rd_w k34 ef5 rfl); have z_ := w_lits; have zl_ := l_lits; omega), (by have z0_ := congrArg Int32.toInt (rd_w k34 ef1 rfl); have z1_ := congrArg Int32.toInt (rd_w k34 ef2 rfl); have z2_ := congrArg Int32.toInt (rd_w k34 ef5 rfl); have z3_ := congrArg Int32.toInt (rd_w k34 ef6 rfl); have z_ := w_lits; have zl_ := l_lits; omega), (by have z0_ := congrArg Int32.toInt ef35; have z_ := w_lits; have zl_ := l_lits; omega)⟩⟩, rfl, hJ34⟩

set_option maxRecDepth 100000 in
set_option maxHeartbeats 4000000 in
theorem w_X2_take_23 (L : Nat) (b : Bool) (h : Hp) (hB : Bx h) (a0 : Int32) (p0 : B a0 0 3) (rp0 : (0 < (h 23 13).toInt → (h 26 0).toInt ≤ (h 23 10).toInt)) (rp1 : (1 < (h 23 13).toInt → (h 26 0).toInt ≤ (h 26 1).toInt ∧ (h 26 1).toInt ≤ (h 23 10).toInt)) (rp2 : (2 < (h 23 13).toInt → (h 26 1).toInt ≤ (h 26 2).toInt ∧ (h 26 2).toInt ≤ (h 23 10).toInt)) (rp3 : (3 < (h 23 13).toInt → (h 26 2).toInt ≤ (h 26 3).toInt ∧ (h 26 3).toInt ≤ (h 23 10).toInt)) : EvI mi_X2_take [.ref 23, .int a0] (G0 L b) h (fun (r : Int32) (z : Hp) => B r 0 3 ∧ ((0 < (z 23 13).toInt → (z 26 0).toInt ≤ (z 23 10).toInt)) ∧ ((1 < (z 23 13).toInt → (z 26 0).toInt ≤ (z 26 1).toInt ∧ (z 26 1).toInt ≤ (z 23 10).toInt)) ∧ ((2 < (z 23 13).toInt → (z 26 1).toInt ≤ (z 26 2).toInt ∧ (z 26 2).toInt ≤ (z 23 10).toInt)) ∧ ((3 < (z 23 13).toInt → (z 26 2).toInt ≤ (z 26 3).toInt ∧ (z 26 3).toInt ≤ (z 23 10).toInt)) ∧ ((z 23 3).toInt = 0 → r.toInt = 3) ∧ (r.toInt = 3 → (z 23 7).toInt = 0 → (z 23 10).toInt ≤ 24)) [(23, 7), (23, 8), (23, 10), (23, 13), (25, 999), (26, 999), (27, 999)] := by
  refine EvM.of2 (lo := [some (.ref 23), some (.int a0)]) pf_X2_take ok_X2_take rfl rfl ?_
  have hJ0 : JW [(23, 7), (23, 8), (23, 10), (23, 13), (25, 999), (26, 999), (27, 999)] h h := JW.refl hB
  obtain ⟨f1, ef1⟩ : ∃ f_, h 23 10 = f_ := ⟨_, rfl⟩
  have bf1 : B f1 0 25 := by have z_ := hJ0.1 23 10; rw [ef1] at z_; exact z_
  have zf1 := congrArg Int32.toInt ef1
  obtain ⟨f2, ef2⟩ : ∃ f_, h 23 13 = f_ := ⟨_, rfl⟩
  have bf2 : B f2 0 4 := by have z_ := hJ0.1 23 13; rw [ef2] at z_; exact z_
  have zf2 := congrArg Int32.toInt ef2
  obtain ⟨f3, ef3⟩ : ∃ f_, h 26 0 = f_ := ⟨_, rfl⟩
  have bf3 : B f3 0 25 := by have z_ := hJ0.1 26 0; rw [ef3] at z_; exact z_
  have zf3 := congrArg Int32.toInt ef3
  obtain ⟨f4, ef4⟩ : ∃ f_, h 26 1 = f_ := ⟨_, rfl⟩
  have bf4 : B f4 0 25 := by have z_ := hJ0.1 26 1; rw [ef4] at z_; exact z_
  have zf4 := congrArg Int32.toInt ef4
  obtain ⟨f5, ef5⟩ : ∃ f_, h 26 2 = f_ := ⟨_, rfl⟩
  have bf5 : B f5 0 25 := by have z_ := hJ0.1 26 2; rw [ef5] at z_; exact z_
  have zf5 := congrArg Int32.toInt ef5
  obtain ⟨f6, ef6⟩ : ∃ f_, h 26 3 = f_ := ⟨_, rfl⟩
  have bf6 : B f6 0 25 := by have z_ := hJ0.1 26 3; rw [ef6] at z_; exact z_
  have zf6 := congrArg Int32.toInt ef6
  obtain ⟨f7, ef7⟩ : ∃ f_, h 23 7 = f_ := ⟨_, rfl⟩
  have zf7 := congrArg Int32.toInt ef7
  obtain ⟨f8, ef8⟩ : ∃ f_, h 23 3 = f_ := ⟨_, rfl⟩
  have zf8 := congrArg Int32.toInt ef8
  refine ev_iload_n rfl rfl rfl ?_
  refine ev_iconst (v := 2) rfl rfl (by decide) ?_
  refine ev_icmp_ne rfl rfl (fun c9 => ?_) (fun c9 => ?_)
  · have z10 := w_ne c9
    rw [show (2 : Int32).toInt = 2 from by decide] at z10
    refine ev_aload_n rfl rfl rfl ?_
    refine ev_getV (v := f8) rfl rfl fl_X2_22 rfl rfl rfl ef8 ?_
    rcases ev_sw f8 0 5 with w13 | w13
    · refine ev_tabOut 132 rfl w13 (by decide) ?_
      refine ev_aload_n rfl rfl rfl ?_
      refine ev_V0I hJ0 rfl rfl rfl lk_X2_87 vt_X2_misplaced rfl rfl rfl rfl rfl (w_X2_misplaced_23 L b h hJ0.1 ) (fun r14 h14 q14 hJ14 k14 => ?_)
      obtain ⟨b14, m14_0⟩ := q14
      obtain ⟨f15, ef15⟩ : ∃ f_, h14 23 7 = f_ := ⟨_, rfl⟩
      have zf15 := congrArg Int32.toInt ef15
      exact ev_iret rfl rfl rfl ⟨⟨_, rfl, ⟨(b14.mono (by decide) (by decide)), (by have z0_ := congrArg Int32.toInt (rd_w k14 ef1 rfl); have z1_ := congrArg Int32.toInt (rd_w k14 ef2 rfl); have z2_ := congrArg Int32.toInt (rd_w k14 ef3 rfl); have z_ := w_lits; have zl_ := l_lits; omega), (by have z0_ := congrArg Int32.toInt (rd_w k14 ef1 rfl); have z1_ := congrArg Int32.toInt (rd_w k14 ef2 rfl); have z2_ := congrArg Int32.toInt (rd_w k14 ef3 rfl); have z3_ := congrArg Int32.toInt (rd_w k14 ef4 rfl); have z_ := w_lits; have zl_ := l_lits; omega), (by have z0_ := congrArg Int32.toInt (rd_w k14 ef1 rfl); have z1_ := congrArg Int32.toInt (rd_w k14 ef2 rfl); have z2_ := congrArg Int32.toInt (rd_w k14 ef4 rfl); have z3_ := congrArg Int32.toInt (rd_w k14 ef5 rfl); have z_ := w_lits; have zl_ := l_lits; omega), (by have z0_ := congrArg Int32.toInt (rd_w k14 ef1 rfl); have z1_ := congrArg Int32.toInt (rd_w k14 ef2 rfl); have z2_ := congrArg Int32.toInt (rd_w k14 ef5 rfl); have z3_ := congrArg Int32.toInt (rd_w k14 ef6 rfl); have z_ := w_lits; have zl_ := l_lits; omega), (by have z0_ := congrArg Int32.toInt (rd_w k14 ef8 rfl); have z_ := w_lits; have zl_ := l_lits; omega), (by have z0_ := congrArg Int32.toInt (rd_w k14 ef1 rfl); have z1_ := congrArg Int32.toInt ef15; have z_ := w_lits; have zl_ := l_lits; omega)⟩⟩, rfl, hJ14⟩
    · have w13b : f8 = 0 ∨ f8 = 1 ∨ f8 = 2 ∨ f8 = 3 ∨ f8 = 4 ∨ f8 = 5 := sw_or6_0 w13
      rcases w13b with rfl | rfl | rfl | rfl | rfl | rfl
      · refine ev_tabIn 108 rfl (by decide) (by decide) rfl (by decide) ?_
        refine ev_iload_n rfl rfl rfl ?_
        refine ev_iconst (v := 1) rfl rfl (by decide) ?_
        refine ev_icmp_ne rfl rfl (fun c16 => ?_) (fun c16 => ?_)
        · have z17 := w_ne c16
          rw [show (1 : Int32).toInt = 1 from by decide] at z17
          refine ev_aload_n rfl rfl rfl ?_
          refine ev_V0I hJ0 rfl rfl rfl lk_X2_87 vt_X2_misplaced rfl rfl rfl rfl rfl (w_X2_misplaced_23 L b h hJ0.1 ) (fun r20 h20 q20 hJ20 k20 => ?_)
          obtain ⟨b20, m20_0⟩ := q20
          obtain ⟨f21, ef21⟩ : ∃ f_, h20 23 7 = f_ := ⟨_, rfl⟩
          have zf21 := congrArg Int32.toInt ef21
          exact ev_iret rfl rfl rfl ⟨⟨_, rfl, ⟨(b20.mono (by decide) (by decide)), (by have z0_ := congrArg Int32.toInt (rd_w k20 ef1 rfl); have z1_ := congrArg Int32.toInt (rd_w k20 ef2 rfl); have z2_ := congrArg Int32.toInt (rd_w k20 ef3 rfl); have z_ := w_lits; have zl_ := l_lits; omega), (by have z0_ := congrArg Int32.toInt (rd_w k20 ef1 rfl); have z1_ := congrArg Int32.toInt (rd_w k20 ef2 rfl); have z2_ := congrArg Int32.toInt (rd_w k20 ef3 rfl); have z3_ := congrArg Int32.toInt (rd_w k20 ef4 rfl); have z_ := w_lits; have zl_ := l_lits; omega), (by have z0_ := congrArg Int32.toInt (rd_w k20 ef1 rfl); have z1_ := congrArg Int32.toInt (rd_w k20 ef2 rfl); have z2_ := congrArg Int32.toInt (rd_w k20 ef4 rfl); have z3_ := congrArg Int32.toInt (rd_w k20 ef5 rfl); have z_ := w_lits; have zl_ := l_lits; omega), (by have z0_ := congrArg Int32.toInt (rd_w k20 ef1 rfl); have z1_ := congrArg Int32.toInt (rd_w k20 ef2 rfl); have z2_ := congrArg Int32.toInt (rd_w k20 ef5 rfl); have z3_ := congrArg Int32.toInt (rd_w k20 ef6 rfl); have z_ := w_lits; have zl_ := l_lits; omega), (by have z0_ := congrArg Int32.toInt (rd_w k20 ef8 rfl); have z_ := w_lits; have zl_ := l_lits; omega), (by have z0_ := congrArg Int32.toInt (rd_w k20 ef1 rfl); have z1_ := congrArg Int32.toInt ef21; have z_ := w_lits; have zl_ := l_lits; omega)⟩⟩, rfl, hJ20⟩
        · have b18 : B a0 1 1 := R_eqX p0 (by decide : B 1 1 1) c16
          have z19 := congrArg Int32.toInt c16
          rw [show (1 : Int32).toInt = 1 from by decide] at z19
          refine ev_aload_n rfl rfl rfl ?_
          refine ev_getV (v := f2) rfl rfl fl_X2_53 rfl rfl rfl ef2 ?_
          refine ev_if_ne rfl rfl (fun c22 => ?_) (fun c22 => ?_)
          · have b23 : B f2 1 4 := R_neL bf2 (by decide : B 0 0 0) c22 (by decide)
            have z24 := w_ne c22
            rw [show (0 : Int32).toInt = 0 from by decide] at z24
            refine ev_aload_n rfl rfl rfl ?_
            refine ev_V0I hJ0 rfl rfl rfl lk_X2_87 vt_X2_misplaced rfl rfl rfl rfl rfl (w_X2_misplaced_23 L b h hJ0.1 ) (fun r27 h27 q27 hJ27 k27 => ?_)
            obtain ⟨b27, m27_0⟩ := q27
            obtain ⟨f28, ef28⟩ : ∃ f_, h27 23 7 = f_ := ⟨_, rfl⟩
            have zf28 := congrArg Int32.toInt ef28
            exact ev_iret rfl rfl rfl ⟨⟨_, rfl, ⟨(b27.mono (by decide) (by decide)), (by have z0_ := congrArg Int32.toInt (rd_w k27 ef1 rfl); have z1_ := congrArg Int32.toInt (rd_w k27 ef2 rfl); have z2_ := congrArg Int32.toInt (rd_w k27 ef3 rfl); have z_ := w_lits; have zl_ := l_lits; omega), (by have z0_ := congrArg Int32.toInt (rd_w k27 ef1 rfl); have z1_ := congrArg Int32.toInt (rd_w k27 ef2 rfl); have z2_ := congrArg Int32.toInt (rd_w k27 ef3 rfl); have z3_ := congrArg Int32.toInt (rd_w k27 ef4 rfl); have z_ := w_lits; have zl_ := l_lits; omega), (by have z0_ := congrArg Int32.toInt (rd_w k27 ef1 rfl); have z1_ := congrArg Int32.toInt (rd_w k27 ef2 rfl); have z2_ := congrArg Int32.toInt (rd_w k27 ef4 rfl); have z3_ := congrArg Int32.toInt (rd_w k27 ef5 rfl); have z_ := w_lits; have zl_ := l_lits; omega), (by have z0_ := congrArg Int32.toInt (rd_w k27 ef1 rfl); have z1_ := congrArg Int32.toInt (rd_w k27 ef2 rfl); have z2_ := congrArg Int32.toInt (rd_w k27 ef5 rfl); have z3_ := congrArg Int32.toInt (rd_w k27 ef6 rfl); have z_ := w_lits; have zl_ := l_lits; omega), (by have z0_ := congrArg Int32.toInt (rd_w k27 ef8 rfl); have z_ := w_lits; have zl_ := l_lits; omega), (by have z0_ := congrArg Int32.toInt (rd_w k27 ef1 rfl); have z1_ := congrArg Int32.toInt ef28; have z_ := w_lits; have zl_ := l_lits; omega)⟩⟩, rfl, hJ27⟩
          · have b25 : B f2 0 0 := R_eqX bf2 (by decide : B 0 0 0) c22
            have z26 := congrArg Int32.toInt c22
            rw [show (0 : Int32).toInt = 0 from by decide] at z26
            refine ev_aload_n rfl rfl rfl ?_
            refine ev_V0I hJ0 rfl rfl rfl lk_X2_102 vt_X2_takeEnd rfl rfl rfl rfl rfl (w_X2_takeEnd_23 L b h hJ0.1 ) (fun r29 h29 q29 hJ29 k29 => ?_)
            obtain ⟨b29, m29_0⟩ := q29
            obtain ⟨f30, ef30⟩ : ∃ f_, h29 23 7 = f_ := ⟨_, rfl⟩
            have zf30 := congrArg Int32.toInt ef30
            have z31 := congrArg Int32.toInt (rd_w k29 ef1 rfl)
            refine ev_goto rfl rfl ?_
            exact ev_iret rfl rfl rfl ⟨⟨_, rfl, ⟨(b29.mono (by decide) (by decide)), (by have z0_ := congrArg Int32.toInt (rd_w k29 ef1 rfl); have z1_ := congrArg Int32.toInt (rd_w k29 ef2 rfl); have z2_ := congrArg Int32.toInt (rd_w k29 ef3 rfl); have z_ := w_lits; have zl_ := l_lits; omega), (by have z0_ := congrArg Int32.toInt (rd_w k29 ef1 rfl); have z1_ := congrArg Int32.toInt (rd_w k29 ef2 rfl); have z2_ := congrArg Int32.toInt (rd_w k29 ef3 rfl); have z3_ := congrArg Int32.toInt (rd_w k29 ef4 rfl); have z_ := w_lits; have zl_ := l_lits; omega), (by have z0_ := congrArg Int32.toInt (rd_w k29 ef1 rfl); have z1_ := congrArg Int32.toInt (rd_w k29 ef2 rfl); have z2_ := congrArg Int32.toInt (rd_w k29 ef4 rfl); have z3_ := congrArg Int32.toInt (rd_w k29 ef5 rfl); have z_ := w_lits; have zl_ := l_lits; omega), (by have z0_ := congrArg Int32.toInt (rd_w k29 ef1 rfl); have z1_ := congrArg Int32.toInt (rd_w k29 ef2 rfl); have z2_ := congrArg Int32.toInt (rd_w k29 ef5 rfl); have z3_ := congrArg Int32.toInt (rd_w k29 ef6 rfl); have z_ := w_lits; have zl_ := l_lits; omega), (by have z0_ := congrArg Int32.toInt (rd_w k29 ef8 rfl); have z_ := w_lits; have zl_ := l_lits; omega), (by have z0_ := congrArg Int32.toInt (rd_w k29 ef1 rfl); have z1_ := congrArg Int32.toInt ef30; have z_ := w_lits; have zl_ := l_lits; omega)⟩⟩, rfl, hJ29⟩
      · refine ev_tabIn 68 rfl (by decide) (by decide) rfl (by decide) ?_
        refine ev_aload_n rfl rfl rfl ?_
        refine ev_V0I hJ0 rfl rfl rfl lk_X2_90 vt_X2_takeChord rfl rfl rfl rfl rfl (w_X2_takeChord_23 L b h hJ0.1 (by have z0_ := congrArg Int32.toInt ef1; have z1_ := congrArg Int32.toInt ef2; have z2_ := congrArg Int32.toInt ef3; have z_ := w_lits; have zl_ := l_lits; omega) (by have z0_ := congrArg Int32.toInt ef1; have z1_ := congrArg Int32.toInt ef2; have z2_ := congrArg Int32.toInt ef3; have z3_ := congrArg Int32.toInt ef4; have z_ := w_lits; have zl_ := l_lits; omega) (by have z0_ := congrArg Int32.toInt ef1; have z1_ := congrArg Int32.toInt ef2; have z2_ := congrArg Int32.toInt ef4; have z3_ := congrArg Int32.toInt ef5; have z_ := w_lits; have zl_ := l_lits; omega) (by have z0_ := congrArg Int32.toInt ef1; have z1_ := congrArg Int32.toInt ef2; have z2_ := congrArg Int32.toInt ef5; have z3_ := congrArg Int32.toInt ef6; have z_ := w_lits; have zl_ := l_lits; omega)) (fun r32 h32 q32 hJ32 k32 => ?_)
        obtain ⟨b32, m32_0, m32_1, m32_2, m32_3⟩ := q32
        obtain ⟨f33, ef33⟩ : ∃ f_, h32 23 10 = f_ := ⟨_, rfl⟩
        have bf33 : B f33 0 25 := by have z_ := hJ32.1 23 10; rw [ef33] at z_; exact z_
        have zf33 := congrArg Int32.toInt ef33
        obtain ⟨f34, ef34⟩ : ∃ f_, h32 23 7 = f_ := ⟨_, rfl⟩
        have zf34 := congrArg Int32.toInt ef34
        have z35 := congrArg Int32.toInt (rd_w k32 ef2 rfl)
        have z36 := congrArg Int32.toInt (rd_w k32 ef3 rfl)
        have z37 := congrArg Int32.toInt (rd_w k32 ef4 rfl)
        have z38 := congrArg Int32.toInt (rd_w k32 ef5 rfl)
        have z39 := congrArg Int32.toInt (rd_w k32 ef6 rfl)
        exact ev_iret rfl rfl rfl ⟨⟨_, rfl, ⟨(b32.mono (by decide) (by decide)), (by have z0_ := congrArg Int32.toInt ef33; have z1_ := congrArg Int32.toInt (rd_w k32 ef2 rfl); have z2_ := congrArg Int32.toInt (rd_w k32 ef3 rfl); have z_ := w_lits; have zl_ := l_lits; omega), (by have z0_ := congrArg Int32.toInt ef33; have z1_ := congrArg Int32.toInt (rd_w k32 ef2 rfl); have z2_ := congrArg Int32.toInt (rd_w k32 ef3 rfl); have z3_ := congrArg Int32.toInt (rd_w k32 ef4 rfl); have z_ := w_lits; have zl_ := l_lits; omega), (by have z0_ := congrArg Int32.toInt ef33; have z1_ := congrArg Int32.toInt (rd_w k32 ef2 rfl); have z2_ := congrArg Int32.toInt (rd_w k32 ef4 rfl); have z3_ := congrArg Int32.toInt (rd_w k32 ef5 rfl); have z_ := w_lits; have zl_ := l_lits; omega), (by have z0_ := congrArg Int32.toInt ef33; have z1_ := congrArg Int32.toInt (rd_w k32 ef2 rfl); have z2_ := congrArg Int32.toInt (rd_w k32 ef5 rfl); have z3_ := congrArg Int32.toInt (rd_w k32 ef6 rfl); have z_ := w_lits; have zl_ := l_lits; omega), (by have z0_ := congrArg Int32.toInt (rd_w k32 ef8 rfl); have z_ := w_lits; have zl_ := l_lits; omega), (by have z0_ := congrArg Int32.toInt ef33; have z1_ := congrArg Int32.toInt ef34; have z_ := w_lits; have zl_ := l_lits; omega)⟩⟩, rfl, hJ32⟩
      · refine ev_tabIn 79 rfl (by decide) (by decide) rfl (by decide) ?_
        refine ev_aload_n rfl rfl rfl ?_
        refine ev_V0J hJ0 rfl rfl rfl lk_X2_96 vt_X2_takeNumber rfl rfl rfl rfl rfl (w_X2_takeNumber_23 L b h hJ0.1 ) (fun r40 h40 q40 hJ40 k40 => ?_)
        obtain ⟨f41, ef41⟩ : ∃ f_, h40 23 7 = f_ := ⟨_, rfl⟩
        have zf41 := congrArg Int32.toInt ef41
        exact ev_iret rfl rfl rfl ⟨⟨_, rfl, ⟨(q40.mono (by decide) (by decide)), (by have z0_ := congrArg Int32.toInt (rd_w k40 ef1 rfl); have z1_ := congrArg Int32.toInt (rd_w k40 ef2 rfl); have z2_ := congrArg Int32.toInt (rd_w k40 ef3 rfl); have z_ := w_lits; have zl_ := l_lits; omega), (by have z0_ := congrArg Int32.toInt (rd_w k40 ef1 rfl); have z1_ := congrArg Int32.toInt (rd_w k40 ef2 rfl); have z2_ := congrArg Int32.toInt (rd_w k40 ef3 rfl); have z3_ := congrArg Int32.toInt (rd_w k40 ef4 rfl); have z_ := w_lits; have zl_ := l_lits; omega), (by have z0_ := congrArg Int32.toInt (rd_w k40 ef1 rfl); have z1_ := congrArg Int32.toInt (rd_w k40 ef2 rfl); have z2_ := congrArg Int32.toInt (rd_w k40 ef4 rfl); have z3_ := congrArg Int32.toInt (rd_w k40 ef5 rfl); have z_ := w_lits; have zl_ := l_lits; omega), (by have z0_ := congrArg Int32.toInt (rd_w k40 ef1 rfl); have z1_ := congrArg Int32.toInt (rd_w k40 ef2 rfl); have z2_ := congrArg Int32.toInt (rd_w k40 ef5 rfl); have z3_ := congrArg Int32.toInt (rd_w k40 ef6 rfl); have z_ := w_lits; have zl_ := l_lits; omega), (by have z0_ := congrArg Int32.toInt (rd_w k40 ef8 rfl); have z_ := w_lits; have zl_ := l_lits; omega), (by have z0_ := congrArg Int32.toInt (rd_w k40 ef1 rfl); have z1_ := congrArg Int32.toInt ef41; have z_ := w_lits; have zl_ := l_lits; omega)⟩⟩, rfl, hJ40⟩
      · refine ev_tabIn 73 rfl (by decide) (by decide) rfl (by decide) ?_
        refine ev_aload_n rfl rfl rfl ?_
        refine ev_iconst (v := 0) rfl rfl (by decide) ?_
        refine ev_V1I hJ0 rfl rfl rfl lk_X2_93 vt_X2_addBeat rfl rfl rfl rfl rfl (w_X2_addBeat_23 L b h hJ0.1 0 ((by decide : B 0 0 0).mono (by decide) (by decide)) (by have z0_ := congrArg Int32.toInt ef1; have z1_ := congrArg Int32.toInt ef2; have z2_ := congrArg Int32.toInt ef3; have z_ := w_lits; have zl_ := l_lits; omega) (by have z0_ := congrArg Int32.toInt ef1; have z1_ := congrArg Int32.toInt ef2; have z2_ := congrArg Int32.toInt ef3; have z3_ := congrArg Int32.toInt ef4; have z_ := w_lits; have zl_ := l_lits; omega) (by have z0_ := congrArg Int32.toInt ef1; have z1_ := congrArg Int32.toInt ef2; have z2_ := congrArg Int32.toInt ef4; have z3_ := congrArg Int32.toInt ef5; have z_ := w_lits; have zl_ := l_lits; omega) (by have z0_ := congrArg Int32.toInt ef1; have z1_ := congrArg Int32.toInt ef2; have z2_ := congrArg Int32.toInt ef5; have z3_ := congrArg Int32.toInt ef6; have z_ := w_lits; have zl_ := l_lits; omega)) (fun r42 h42 q42 hJ42 k42 => ?_)
        obtain ⟨b42, m42_0, m42_1, m42_2, m42_3⟩ := q42
        obtain ⟨f43, ef43⟩ : ∃ f_, h42 23 10 = f_ := ⟨_, rfl⟩
        have bf43 : B f43 0 25 := by have z_ := hJ42.1 23 10; rw [ef43] at z_; exact z_
        have zf43 := congrArg Int32.toInt ef43
        have z44 := congrArg Int32.toInt (rd_w k42 ef2 rfl)
        have z45 := congrArg Int32.toInt (rd_w k42 ef3 rfl)
        have z46 := congrArg Int32.toInt (rd_w k42 ef4 rfl)
        have z47 := congrArg Int32.toInt (rd_w k42 ef5 rfl)
        have z48 := congrArg Int32.toInt (rd_w k42 ef6 rfl)
        exact ev_iret rfl rfl rfl ⟨⟨_, rfl, ⟨(b42.mono (by decide) (by decide)), (by have z0_ := congrArg Int32.toInt ef43; have z1_ := congrArg Int32.toInt (rd_w k42 ef2 rfl); have z2_ := congrArg Int32.toInt (rd_w k42 ef3 rfl); have z_ := w_lits; have zl_ := l_lits; omega), (by have z0_ := congrArg Int32.toInt ef43; have z1_ := congrArg Int32.toInt (rd_w k42 ef2 rfl); have z2_ := congrArg Int32.toInt (rd_w k42 ef3 rfl); have z3_ := congrArg Int32.toInt (rd_w k42 ef4 rfl); have z_ := w_lits; have zl_ := l_lits; omega), (by have z0_ := congrArg Int32.toInt ef43; have z1_ := congrArg Int32.toInt (rd_w k42 ef2 rfl); have z2_ := congrArg Int32.toInt (rd_w k42 ef4 rfl); have z3_ := congrArg Int32.toInt (rd_w k42 ef5 rfl); have z_ := w_lits; have zl_ := l_lits; omega), (by have z0_ := congrArg Int32.toInt ef43; have z1_ := congrArg Int32.toInt (rd_w k42 ef2 rfl); have z2_ := congrArg Int32.toInt (rd_w k42 ef5 rfl); have z3_ := congrArg Int32.toInt (rd_w k42 ef6 rfl); have z_ := w_lits; have zl_ := l_lits; omega), (by have z0_ := congrArg Int32.toInt (rd_w k42 ef8 rfl); have z_ := w_lits; have zl_ := l_lits; omega), (by have z0_ := congrArg Int32.toInt ef43; have z1_ := congrArg Int32.toInt (rd_w k42 ef7 rfl); have z_ := w_lits; have zl_ := l_lits; omega)⟩⟩, rfl, hJ42⟩
      · refine ev_tabIn 132 rfl (by decide) (by decide) rfl (by decide) ?_
        refine ev_aload_n rfl rfl rfl ?_
        refine ev_V0I hJ0 rfl rfl rfl lk_X2_87 vt_X2_misplaced rfl rfl rfl rfl rfl (w_X2_misplaced_23 L b h hJ0.1 ) (fun r49 h49 q49 hJ49 k49 => ?_)
        obtain ⟨b49, m49_0⟩ := q49
        obtain ⟨f50, ef50⟩ : ∃ f_, h49 23 7 = f_ := ⟨_, rfl⟩
        have zf50 := congrArg Int32.toInt ef50
        exact ev_iret rfl rfl rfl ⟨⟨_, rfl, ⟨(b49.mono (by decide) (by decide)), (by have z0_ := congrArg Int32.toInt (rd_w k49 ef1 rfl); have z1_ := congrArg Int32.toInt (rd_w k49 ef2 rfl); have z2_ := congrArg Int32.toInt (rd_w k49 ef3 rfl); have z_ := w_lits; have zl_ := l_lits; omega), (by have z0_ := congrArg Int32.toInt (rd_w k49 ef1 rfl); have z1_ := congrArg Int32.toInt (rd_w k49 ef2 rfl); have z2_ := congrArg Int32.toInt (rd_w k49 ef3 rfl); have z3_ := congrArg Int32.toInt (rd_w k49 ef4 rfl); have z_ := w_lits; have zl_ := l_lits; omega), (by have z0_ := congrArg Int32.toInt (rd_w k49 ef1 rfl); have z1_ := congrArg Int32.toInt (rd_w k49 ef2 rfl); have z2_ := congrArg Int32.toInt (rd_w k49 ef4 rfl); have z3_ := congrArg Int32.toInt (rd_w k49 ef5 rfl); have z_ := w_lits; have zl_ := l_lits; omega), (by have z0_ := congrArg Int32.toInt (rd_w k49 ef1 rfl); have z1_ := congrArg Int32.toInt (rd_w k49 ef2 rfl); have z2_ := congrArg Int32.toInt (rd_w k49 ef5 rfl); have z3_ := congrArg Int32.toInt (rd_w k49 ef6 rfl); have z_ := w_lits; have zl_ := l_lits; omega), (by have z0_ := congrArg Int32.toInt (rd_w k49 ef8 rfl); have z_ := w_lits; have zl_ := l_lits; omega), (by have z0_ := congrArg Int32.toInt (rd_w k49 ef1 rfl); have z1_ := congrArg Int32.toInt ef50; have z_ := w_lits; have zl_ := l_lits; omega)⟩⟩, rfl, hJ49⟩
      · refine ev_tabIn 84 rfl (by decide) (by decide) rfl (by decide) ?_
        refine ev_iload_n rfl rfl rfl ?_
        refine ev_iconst (v := 1) rfl rfl (by decide) ?_
        refine ev_icmp_ne rfl rfl (fun c51 => ?_) (fun c51 => ?_)
        · have z52 := w_ne c51
          rw [show (1 : Int32).toInt = 1 from by decide] at z52
          refine ev_aload_n rfl rfl rfl ?_
          refine ev_V0I hJ0 rfl rfl rfl lk_X2_87 vt_X2_misplaced rfl rfl rfl rfl rfl (w_X2_misplaced_23 L b h hJ0.1 ) (fun r55 h55 q55 hJ55 k55 => ?_)
          obtain ⟨b55, m55_0⟩ := q55
          obtain ⟨f56, ef56⟩ : ∃ f_, h55 23 7 = f_ := ⟨_, rfl⟩
          have zf56 := congrArg Int32.toInt ef56
          exact ev_iret rfl rfl rfl ⟨⟨_, rfl, ⟨(b55.mono (by decide) (by decide)), (by have z0_ := congrArg Int32.toInt (rd_w k55 ef1 rfl); have z1_ := congrArg Int32.toInt (rd_w k55 ef2 rfl); have z2_ := congrArg Int32.toInt (rd_w k55 ef3 rfl); have z_ := w_lits; have zl_ := l_lits; omega), (by have z0_ := congrArg Int32.toInt (rd_w k55 ef1 rfl); have z1_ := congrArg Int32.toInt (rd_w k55 ef2 rfl); have z2_ := congrArg Int32.toInt (rd_w k55 ef3 rfl); have z3_ := congrArg Int32.toInt (rd_w k55 ef4 rfl); have z_ := w_lits; have zl_ := l_lits; omega), (by have z0_ := congrArg Int32.toInt (rd_w k55 ef1 rfl); have z1_ := congrArg Int32.toInt (rd_w k55 ef2 rfl); have z2_ := congrArg Int32.toInt (rd_w k55 ef4 rfl); have z3_ := congrArg Int32.toInt (rd_w k55 ef5 rfl); have z_ := w_lits; have zl_ := l_lits; omega), (by have z0_ := congrArg Int32.toInt (rd_w k55 ef1 rfl); have z1_ := congrArg Int32.toInt (rd_w k55 ef2 rfl); have z2_ := congrArg Int32.toInt (rd_w k55 ef5 rfl); have z3_ := congrArg Int32.toInt (rd_w k55 ef6 rfl); have z_ := w_lits; have zl_ := l_lits; omega), (by have z0_ := congrArg Int32.toInt (rd_w k55 ef8 rfl); have z_ := w_lits; have zl_ := l_lits; omega), (by have z0_ := congrArg Int32.toInt (rd_w k55 ef1 rfl); have z1_ := congrArg Int32.toInt ef56; have z_ := w_lits; have zl_ := l_lits; omega)⟩⟩, rfl, hJ55⟩
        · have b53 : B a0 1 1 := R_eqX p0 (by decide : B 1 1 1) c51
          have z54 := congrArg Int32.toInt c51
          rw [show (1 : Int32).toInt = 1 from by decide] at z54
          refine ev_aload_n rfl rfl rfl ?_
          refine ev_getV (v := f2) rfl rfl fl_X2_53 rfl rfl rfl ef2 ?_
          refine ev_if_le rfl rfl (fun c57 => ?_) (fun c57 => ?_)
          · have b58 : B f2 0 0 := R_leX bf2 (by decide : B 0 0 0) c57 (by decide)
            have z59 := w_le c57
            rw [show (0 : Int32).toInt = 0 from by decide] at z59
            refine ev_aload_n rfl rfl rfl ?_
            refine ev_V0I hJ0 rfl rfl rfl lk_X2_87 vt_X2_misplaced rfl rfl rfl rfl rfl (w_X2_misplaced_23 L b h hJ0.1 ) (fun r62 h62 q62 hJ62 k62 => ?_)
            obtain ⟨b62, m62_0⟩ := q62
            obtain ⟨f63, ef63⟩ : ∃ f_, h62 23 7 = f_ := ⟨_, rfl⟩
            have zf63 := congrArg Int32.toInt ef63
            exact ev_iret rfl rfl rfl ⟨⟨_, rfl, ⟨(b62.mono (by decide) (by decide)), (by have z0_ := congrArg Int32.toInt (rd_w k62 ef1 rfl); have z1_ := congrArg Int32.toInt (rd_w k62 ef2 rfl); have z2_ := congrArg Int32.toInt (rd_w k62 ef3 rfl); have z_ := w_lits; have zl_ := l_lits; omega), (by have z0_ := congrArg Int32.toInt (rd_w k62 ef1 rfl); have z1_ := congrArg Int32.toInt (rd_w k62 ef2 rfl); have z2_ := congrArg Int32.toInt (rd_w k62 ef3 rfl); have z3_ := congrArg Int32.toInt (rd_w k62 ef4 rfl); have z_ := w_lits; have zl_ := l_lits; omega), (by have z0_ := congrArg Int32.toInt (rd_w k62 ef1 rfl); have z1_ := congrArg Int32.toInt (rd_w k62 ef2 rfl); have z2_ := congrArg Int32.toInt (rd_w k62 ef4 rfl); have z3_ := congrArg Int32.toInt (rd_w k62 ef5 rfl); have z_ := w_lits; have zl_ := l_lits; omega), (by have z0_ := congrArg Int32.toInt (rd_w k62 ef1 rfl); have z1_ := congrArg Int32.toInt (rd_w k62 ef2 rfl); have z2_ := congrArg Int32.toInt (rd_w k62 ef5 rfl); have z3_ := congrArg Int32.toInt (rd_w k62 ef6 rfl); have z_ := w_lits; have zl_ := l_lits; omega), (by have z0_ := congrArg Int32.toInt (rd_w k62 ef8 rfl); have z_ := w_lits; have zl_ := l_lits; omega), (by have z0_ := congrArg Int32.toInt (rd_w k62 ef1 rfl); have z1_ := congrArg Int32.toInt ef63; have z_ := w_lits; have zl_ := l_lits; omega)⟩⟩, rfl, hJ62⟩
          · have b60 : B f2 1 4 := R_ltY (by decide : B 0 0 0) bf2 (Int32.not_le.mp c57) (by decide)
            have z61 := w_lt (Int32.not_le.mp c57)
            rw [show (0 : Int32).toInt = 0 from by decide] at z61
            refine ev_aload_n rfl rfl rfl ?_
            refine ev_V0I hJ0 rfl rfl rfl lk_X2_99 vt_X2_takeClose rfl rfl rfl rfl rfl (w_X2_takeClose_23 L b h hJ0.1 (by have z0_ := congrArg Int32.toInt ef1; have z1_ := congrArg Int32.toInt ef2; have z2_ := congrArg Int32.toInt ef3; have z_ := w_lits; have zl_ := l_lits; omega) (by have z0_ := congrArg Int32.toInt ef1; have z1_ := congrArg Int32.toInt ef2; have z2_ := congrArg Int32.toInt ef3; have z3_ := congrArg Int32.toInt ef4; have z_ := w_lits; have zl_ := l_lits; omega) (by have z0_ := congrArg Int32.toInt ef1; have z1_ := congrArg Int32.toInt ef2; have z2_ := congrArg Int32.toInt ef4; have z3_ := congrArg Int32.toInt ef5; have z_ := w_lits; have zl_ := l_lits; omega) (by have z0_ := congrArg Int32.toInt ef1; have z1_ := congrArg Int32.toInt ef2; have z2_ := congrArg Int32.toInt ef5; have z3_ := congrArg Int32.toInt ef6; have z_ := w_lits; have zl_ := l_lits; omega) (B.at ef2 b60)) (fun r64 h64 q64 hJ64 k64 => ?_)
            obtain ⟨b64, m64_0, m64_1, m64_2, m64_3⟩ := q64
            obtain ⟨f65, ef65⟩ : ∃ f_, h64 23 10 = f_ := ⟨_, rfl⟩
            have bf65 : B f65 0 25 := by have z_ := hJ64.1 23 10; rw [ef65] at z_; exact z_
            have zf65 := congrArg Int32.toInt ef65
            obtain ⟨f66, ef66⟩ : ∃ f_, h64 23 13 = f_ := ⟨_, rfl⟩
            have bf66 : B f66 0 4 := by have z_ := hJ64.1 23 13; rw [ef66] at z_; exact z_
            have zf66 := congrArg Int32.toInt ef66
            have z67 := congrArg Int32.toInt (rd_w k64 ef3 rfl)
            have z68 := congrArg Int32.toInt (rd_w k64 ef4 rfl)
            have z69 := congrArg Int32.toInt (rd_w k64 ef5 rfl)
            have z70 := congrArg Int32.toInt (rd_w k64 ef6 rfl)
            refine ev_goto rfl rfl ?_
            exact ev_iret rfl rfl rfl ⟨⟨_, rfl, ⟨(b64.mono (by decide) (by decide)), (by have z0_ := congrArg Int32.toInt ef65; have z1_ := congrArg Int32.toInt ef66; have z2_ := congrArg Int32.toInt (rd_w k64 ef3 rfl); have z_ := w_lits; have zl_ := l_lits; omega), (by have z0_ := congrArg Int32.toInt ef65; have z1_ := congrArg Int32.toInt ef66; have z2_ := congrArg Int32.toInt (rd_w k64 ef3 rfl); have z3_ := congrArg Int32.toInt (rd_w k64 ef4 rfl); have z_ := w_lits; have zl_ := l_lits; omega), (by have z0_ := congrArg Int32.toInt ef65; have z1_ := congrArg Int32.toInt ef66; have z2_ := congrArg Int32.toInt (rd_w k64 ef4 rfl); have z3_ := congrArg Int32.toInt (rd_w k64 ef5 rfl); have z_ := w_lits; have zl_ := l_lits; omega), (by have z0_ := congrArg Int32.toInt ef65; have z1_ := congrArg Int32.toInt ef66; have z2_ := congrArg Int32.toInt (rd_w k64 ef5 rfl); have z3_ := congrArg Int32.toInt (rd_w k64 ef6 rfl); have z_ := w_lits; have zl_ := l_lits; omega), (by have z0_ := congrArg Int32.toInt (rd_w k64 ef8 rfl); have z_ := w_lits; have zl_ := l_lits; omega), (by have z0_ := congrArg Int32.toInt ef65; have z1_ := congrArg Int32.toInt (rd_w k64 ef7 rfl); have z_ := w_lits; have zl_ := l_lits; omega)⟩⟩, rfl, hJ64⟩
  · have b11 : B a0 2 2 := R_eqX p0 (by decide : B 2 2 2) c9
    have z12 := congrArg Int32.toInt c9
    rw [show (2 : Int32).toInt = 2 from by decide] at z12
    refine ev_aload_n rfl rfl rfl ?_
    refine ev_getV (v := f8) rfl rfl fl_X2_22 rfl rfl rfl ef8 ?_
    refine ev_iconst (v := 4) rfl rfl (by decide) ?_
    refine ev_icmp_ne rfl rfl (fun c71 => ?_) (fun c71 => ?_)
    · have z72 := w_ne c71
      rw [show (4 : Int32).toInt = 4 from by decide] at z72
      refine ev_aload_n rfl rfl rfl ?_
      refine ev_V0I hJ0 rfl rfl rfl lk_X2_87 vt_X2_misplaced rfl rfl rfl rfl rfl (w_X2_misplaced_23 L b h hJ0.1 ) (fun r75 h75 q75 hJ75 k75 => ?_)
      obtain ⟨b75, m75_0⟩ := q75
      obtain ⟨f76, ef76⟩ : ∃ f_, h75 23 7 = f_ := ⟨_, rfl⟩
      have zf76 := congrArg Int32.toInt ef76
      exact ev_iret rfl rfl rfl ⟨⟨_, rfl, ⟨(b75.mono (by decide) (by decide)), (by have z0_ := congrArg Int32.toInt (rd_w k75 ef1 rfl); have z1_ := congrArg Int32.toInt (rd_w k75 ef2 rfl); have z2_ := congrArg Int32.toInt (rd_w k75 ef3 rfl); have z_ := w_lits; have zl_ := l_lits; omega), (by have z0_ := congrArg Int32.toInt (rd_w k75 ef1 rfl); have z1_ := congrArg Int32.toInt (rd_w k75 ef2 rfl); have z2_ := congrArg Int32.toInt (rd_w k75 ef3 rfl); have z3_ := congrArg Int32.toInt (rd_w k75 ef4 rfl); have z_ := w_lits; have zl_ := l_lits; omega), (by have z0_ := congrArg Int32.toInt (rd_w k75 ef1 rfl); have z1_ := congrArg Int32.toInt (rd_w k75 ef2 rfl); have z2_ := congrArg Int32.toInt (rd_w k75 ef4 rfl); have z3_ := congrArg Int32.toInt (rd_w k75 ef5 rfl); have z_ := w_lits; have zl_ := l_lits; omega), (by have z0_ := congrArg Int32.toInt (rd_w k75 ef1 rfl); have z1_ := congrArg Int32.toInt (rd_w k75 ef2 rfl); have z2_ := congrArg Int32.toInt (rd_w k75 ef5 rfl); have z3_ := congrArg Int32.toInt (rd_w k75 ef6 rfl); have z_ := w_lits; have zl_ := l_lits; omega), (by have z0_ := congrArg Int32.toInt (rd_w k75 ef8 rfl); have z_ := w_lits; have zl_ := l_lits; omega), (by have z0_ := congrArg Int32.toInt (rd_w k75 ef1 rfl); have z1_ := congrArg Int32.toInt ef76; have z_ := w_lits; have zl_ := l_lits; omega)⟩⟩, rfl, hJ75⟩
    · have b73 : B f8 4 4 := R_eqX (B.any f8) (by decide : B 4 4 4) c71
      have z74 := congrArg Int32.toInt c71
      rw [show (4 : Int32).toInt = 4 from by decide] at z74
      refine ev_aload_n rfl rfl rfl ?_
      refine ev_V0I hJ0 rfl rfl rfl lk_X2_83 vt_X2_takeOpen rfl rfl rfl rfl rfl (w_X2_takeOpen_23 L b h hJ0.1 (by have z0_ := congrArg Int32.toInt ef1; have z1_ := congrArg Int32.toInt ef2; have z2_ := congrArg Int32.toInt ef3; have z_ := w_lits; have zl_ := l_lits; omega) (by have z0_ := congrArg Int32.toInt ef1; have z1_ := congrArg Int32.toInt ef2; have z2_ := congrArg Int32.toInt ef3; have z3_ := congrArg Int32.toInt ef4; have z_ := w_lits; have zl_ := l_lits; omega) (by have z0_ := congrArg Int32.toInt ef1; have z1_ := congrArg Int32.toInt ef2; have z2_ := congrArg Int32.toInt ef4; have z3_ := congrArg Int32.toInt ef5; have z_ := w_lits; have zl_ := l_lits; omega) (by have z0_ := congrArg Int32.toInt ef1; have z1_ := congrArg Int32.toInt ef2; have z2_ := congrArg Int32.toInt ef5; have z3_ := congrArg Int32.toInt ef6; have z_ := w_lits; have zl_ := l_lits; omega)) (fun r77 h77 q77 hJ77 k77 => ?_)
      obtain ⟨b77, m77_0, m77_1, m77_2, m77_3, m77_4⟩ := q77
      obtain ⟨f78, ef78⟩ : ∃ f_, h77 23 13 = f_ := ⟨_, rfl⟩
      have bf78 : B f78 0 4 := by have z_ := hJ77.1 23 13; rw [ef78] at z_; exact z_
      have zf78 := congrArg Int32.toInt ef78
      obtain ⟨f79, ef79⟩ : ∃ f_, h77 26 0 = f_ := ⟨_, rfl⟩
      have bf79 : B f79 0 25 := by have z_ := hJ77.1 26 0; rw [ef79] at z_; exact z_
      have zf79 := congrArg Int32.toInt ef79
      obtain ⟨f80, ef80⟩ : ∃ f_, h77 26 1 = f_ := ⟨_, rfl⟩
      have bf80 : B f80 0 25 := by have z_ := hJ77.1 26 1; rw [ef80] at z_; exact z_
      have zf80 := congrArg Int32.toInt ef80
      obtain ⟨f81, ef81⟩ : ∃ f_, h77 26 2 = f_ := ⟨_, rfl⟩
      have bf81 : B f81 0 25 := by have z_ := hJ77.1 26 2; rw [ef81] at z_; exact z_
      have zf81 := congrArg Int32.toInt ef81
      obtain ⟨f82, ef82⟩ : ∃ f_, h77 26 3 = f_ := ⟨_, rfl⟩
      have bf82 : B f82 0 25 := by have z_ := hJ77.1 26 3; rw [ef82] at z_; exact z_
      have zf82 := congrArg Int32.toInt ef82
      obtain ⟨f83, ef83⟩ : ∃ f_, h77 23 7 = f_ := ⟨_, rfl⟩
      have zf83 := congrArg Int32.toInt ef83
      have z84 := congrArg Int32.toInt (rd_w k77 ef1 rfl)
      refine ev_goto rfl rfl ?_
      exact ev_iret rfl rfl rfl ⟨⟨_, rfl, ⟨b77, (by have z0_ := congrArg Int32.toInt (rd_w k77 ef1 rfl); have z1_ := congrArg Int32.toInt ef78; have z2_ := congrArg Int32.toInt ef79; have z_ := w_lits; have zl_ := l_lits; omega), (by have z0_ := congrArg Int32.toInt (rd_w k77 ef1 rfl); have z1_ := congrArg Int32.toInt ef78; have z2_ := congrArg Int32.toInt ef79; have z3_ := congrArg Int32.toInt ef80; have z_ := w_lits; have zl_ := l_lits; omega), (by have z0_ := congrArg Int32.toInt (rd_w k77 ef1 rfl); have z1_ := congrArg Int32.toInt ef78; have z2_ := congrArg Int32.toInt ef80; have z3_ := congrArg Int32.toInt ef81; have z_ := w_lits; have zl_ := l_lits; omega), (by have z0_ := congrArg Int32.toInt (rd_w k77 ef1 rfl); have z1_ := congrArg Int32.toInt ef78; have z2_ := congrArg Int32.toInt ef81; have z3_ := congrArg Int32.toInt ef82; have z_ := w_lits; have zl_ := l_lits; omega), (by have z0_ := congrArg Int32.toInt (rd_w k77 ef8 rfl); have z_ := w_lits; have zl_ := l_lits; omega), (by have z0_ := congrArg Int32.toInt (rd_w k77 ef1 rfl); have z1_ := congrArg Int32.toInt ef83; have z_ := w_lits; have zl_ := l_lits; omega)⟩⟩, rfl, hJ77⟩

set_option maxRecDepth 100000 in
set_option maxHeartbeats 4000000 in
theorem w_X2_readAll_23 (L : Nat) (b : Bool) (h : Hp) (hB : Bx h)  : EvK mi_X2_readAll [.ref 23] (G0 L b) h (fun z : Hp => ((z 23 7).toInt = 0 → (z 23 10).toInt ≤ 24)) [(23, 2), (23, 3), (23, 4), (23, 5), (23, 6), (23, 7), (23, 8), (23, 10), (23, 13), (25, 999), (26, 999), (27, 999)] := by
  refine EvM.of2 (lo := [some (.ref 23), none, none]) pf_X2_readAll ok_X2_readAll rfl rfl ?_
  have hJ0 : JW [(23, 2), (23, 3), (23, 4), (23, 5), (23, 6), (23, 7), (23, 8), (23, 10), (23, 13), (25, 999), (26, 999), (27, 999)] h h := JW.refl hB
  obtain ⟨f1, ef1⟩ : ∃ f_, h 23 10 = f_ := ⟨_, rfl⟩
  have bf1 : B f1 0 25 := by have z_ := hJ0.1 23 10; rw [ef1] at z_; exact z_
  have zf1 := congrArg Int32.toInt ef1
  obtain ⟨f2, ef2⟩ : ∃ f_, h 23 13 = f_ := ⟨_, rfl⟩
  have bf2 : B f2 0 4 := by have z_ := hJ0.1 23 13; rw [ef2] at z_; exact z_
  have zf2 := congrArg Int32.toInt ef2
  obtain ⟨f3, ef3⟩ : ∃ f_, h 26 0 = f_ := ⟨_, rfl⟩
  have bf3 : B f3 0 25 := by have z_ := hJ0.1 26 0; rw [ef3] at z_; exact z_
  have zf3 := congrArg Int32.toInt ef3
  obtain ⟨f4, ef4⟩ : ∃ f_, h 26 1 = f_ := ⟨_, rfl⟩
  have bf4 : B f4 0 25 := by have z_ := hJ0.1 26 1; rw [ef4] at z_; exact z_
  have zf4 := congrArg Int32.toInt ef4
  obtain ⟨f5, ef5⟩ : ∃ f_, h 26 2 = f_ := ⟨_, rfl⟩
  have bf5 : B f5 0 25 := by have z_ := hJ0.1 26 2; rw [ef5] at z_; exact z_
  have zf5 := congrArg Int32.toInt ef5
  obtain ⟨f6, ef6⟩ : ∃ f_, h 26 3 = f_ := ⟨_, rfl⟩
  have bf6 : B f6 0 25 := by have z_ := hJ0.1 26 3; rw [ef6] at z_; exact z_
  have zf6 := congrArg Int32.toInt ef6
  obtain ⟨f7, ef7⟩ : ∃ f_, h 23 1 = f_ := ⟨_, rfl⟩
  have bf7 : B f7 0 160 := by have z_ := hJ0.1 23 1; rw [ef7] at z_; exact z_
  have zf7 := congrArg Int32.toInt ef7
  obtain ⟨f8, ef8⟩ : ∃ f_, h 23 2 = f_ := ⟨_, rfl⟩
  have bf8 : B f8 0 160 := by have z_ := hJ0.1 23 2; rw [ef8] at z_; exact z_
  have zf8 := congrArg Int32.toInt ef8
  obtain ⟨f9, ef9⟩ : ∃ f_, h 23 3 = f_ := ⟨_, rfl⟩
  have zf9 := congrArg Int32.toInt ef9
  obtain ⟨f10, ef10⟩ : ∃ f_, h 23 7 = f_ := ⟨_, rfl⟩
  have zf10 := congrArg Int32.toInt ef10
  refine ev_aload_n rfl rfl rfl ?_
  refine ev_iconst (v := 0) rfl rfl (by decide) ?_
  refine ev_putW (l := 0) (u := 160) hJ0 rfl (by decide : B 0 0 0) (by decide) (by decide) rfl rfl rfl fl_X2_19 rfl rfl rfl rfl rfl (fun h11 hJ11 k11 => ?_)
  refine ev_aload_n rfl rfl rfl ?_
  refine ev_iconst (v := 0) rfl rfl (by decide) ?_
  refine ev_putW (l := (-2147483648)) (u := 2147483647) hJ11 rfl (by decide : B 0 0 0) (by decide) (by decide) rfl rfl rfl fl_X2_34 rfl rfl rfl rfl rfl (fun h12 hJ12 k12 => ?_)
  refine ev_aload_n rfl rfl rfl ?_
  refine ev_iconst (v := 0) rfl rfl (by decide) ?_
  refine ev_putW (l := (-2147483648)) (u := 2147483647) hJ12 rfl (by decide : B 0 0 0) (by decide) (by decide) rfl rfl rfl fl_X2_37 rfl rfl rfl rfl rfl (fun h13 hJ13 k13 => ?_)
  refine ev_aload_n rfl rfl rfl ?_
  refine ev_iconst (v := 0) rfl rfl (by decide) ?_
  refine ev_putW (l := 0) (u := 25) hJ13 rfl (by decide : B 0 0 0) (by decide) (by decide) rfl rfl rfl fl_X2_44 rfl rfl rfl rfl rfl (fun h14 hJ14 k14 => ?_)
  refine ev_aload_n rfl rfl rfl ?_
  refine ev_iconst (v := 0) rfl rfl (by decide) ?_
  refine ev_putW (l := 0) (u := 4) hJ14 rfl (by decide : B 0 0 0) (by decide) (by decide) rfl rfl rfl fl_X2_53 rfl rfl rfl rfl rfl (fun h15 hJ15 k15 => ?_)
  refine ev_iconst (v := 0) rfl rfl (by decide) ?_
  refine ev_istore_n rfl rfl rfl rfl ?_
  dsimp only [List.set]
  refine ev_iconst (v := 0) rfl rfl (by decide) ?_
  refine ev_istore_n rfl rfl rfl rfl ?_
  dsimp only [List.set]
  have lp29_358 : ∀ (n : Nat) (w359 : Int32) (w360 : Int32) (h363 : Hp), B w359 0 3 → B w360 0 161 → JW [(23, 2), (23, 3), (23, 4), (23, 5), (23, 6), (23, 7), (23, 8), (23, 10), (23, 13), (25, 999), (26, 999), (27, 999)] h h363 → (h363 23 1 = f7) → ((0 < (h363 23 13).toInt → (h363 26 0).toInt ≤ (h363 23 10).toInt)) → ((1 < (h363 23 13).toInt → (h363 26 0).toInt ≤ (h363 26 1).toInt ∧ (h363 26 1).toInt ≤ (h363 23 10).toInt)) → ((2 < (h363 23 13).toInt → (h363 26 1).toInt ≤ (h363 26 2).toInt ∧ (h363 26 2).toInt ≤ (h363 23 10).toInt)) → ((3 < (h363 23 13).toInt → (h363 26 2).toInt ≤ (h363 26 3).toInt ∧ (h363 26 3).toInt ≤ (h363 23 10).toInt)) → ((h363 23 2).toInt ≤ (h363 23 1).toInt) → (w360.toInt ≤ (h363 23 2).toInt ∨ w359.toInt = 3 ∨ ¬ (h363 23 7).toInt = 0) → (w359.toInt = 3 → (h363 23 7).toInt = 0 → (h363 23 10).toInt ≤ 24) → 161 + 1 - w360.toInt ≤ (n : Int) → EvQ mi_X2_readAll 29 [some (.ref 23), some (.int w359), some (.int w360)] [] (G0 L b) h363 0 0 (QK (fun z : Hp => ((z 23 7).toInt = 0 → (z 23 10).toInt ≤ 24)) [(23, 2), (23, 3), (23, 4), (23, 5), (23, 6), (23, 7), (23, 8), (23, 10), (23, 13), (25, 999), (26, 999), (27, 999)] (G0 L b) h) := by
    intro n
    induction n with
    | zero =>
      intro w359 w360 h363 b361 b362 hJ364 z365 y29_0 y29_1 y29_2 y29_3 y29_4 y29_5 y29_6 hm29
      exact absurd hm29 (L_zero b362 (by decide))
    | succ n ih29 =>
      intro w359 w360 h363 b361 b362 hJ364 z365 y29_0 y29_1 y29_2 y29_3 y29_4 y29_5 y29_6 hm29
      obtain ⟨f366, ef366⟩ : ∃ f_, h363 23 10 = f_ := ⟨_, rfl⟩
      have bf366 : B f366 0 25 := by have z_ := hJ364.1 23 10; rw [ef366] at z_; exact z_
      have zf366 := congrArg Int32.toInt ef366
      obtain ⟨f367, ef367⟩ : ∃ f_, h363 23 13 = f_ := ⟨_, rfl⟩
      have bf367 : B f367 0 4 := by have z_ := hJ364.1 23 13; rw [ef367] at z_; exact z_
      have zf367 := congrArg Int32.toInt ef367
      obtain ⟨f368, ef368⟩ : ∃ f_, h363 26 0 = f_ := ⟨_, rfl⟩
      have bf368 : B f368 0 25 := by have z_ := hJ364.1 26 0; rw [ef368] at z_; exact z_
      have zf368 := congrArg Int32.toInt ef368
      obtain ⟨f369, ef369⟩ : ∃ f_, h363 26 1 = f_ := ⟨_, rfl⟩
      have bf369 : B f369 0 25 := by have z_ := hJ364.1 26 1; rw [ef369] at z_; exact z_
      have zf369 := congrArg Int32.toInt ef369
      obtain ⟨f370, ef370⟩ : ∃ f_, h363 26 2 = f_ := ⟨_, rfl⟩
      have bf370 : B f370 0 25 := by have z_ := hJ364.1 26 2; rw [ef370] at z_; exact z_
      have zf370 := congrArg Int32.toInt ef370
      obtain ⟨f371, ef371⟩ : ∃ f_, h363 26 3 = f_ := ⟨_, rfl⟩
      have bf371 : B f371 0 25 := by have z_ := hJ364.1 26 3; rw [ef371] at z_; exact z_
      have zf371 := congrArg Int32.toInt ef371
      obtain ⟨f372, ef372⟩ : ∃ f_, h363 23 2 = f_ := ⟨_, rfl⟩
      have bf372 : B f372 0 160 := by have z_ := hJ364.1 23 2; rw [ef372] at z_; exact z_
      have zf372 := congrArg Int32.toInt ef372
      obtain ⟨f373, ef373⟩ : ∃ f_, h363 23 3 = f_ := ⟨_, rfl⟩
      have zf373 := congrArg Int32.toInt ef373
      obtain ⟨f374, ef374⟩ : ∃ f_, h363 23 7 = f_ := ⟨_, rfl⟩
      have zf374 := congrArg Int32.toInt ef374
      have z375 := congrArg Int32.toInt z365
      refine ev_iload_n rfl rfl rfl ?_
      refine ev_aload_n rfl rfl rfl ?_
      refine ev_getV (v := f7) rfl rfl fl_X2_15 rfl rfl rfl z365 ?_
      refine ev_icmp_gt rfl rfl (fun c376 => ?_) (fun c376 => ?_)
      · have b377 : B w360 1 161 := R_ltY bf7 b362 c376 (by decide)
        have z378 := w_lt c376
        exact ev_vret rfl rfl trivial ⟨rfl, rfl, hJ364, (by have z0_ := congrArg Int32.toInt ef366; have z1_ := congrArg Int32.toInt ef374; have z_ := w_lits; have zl_ := l_lits; omega)⟩
      · have b379 : B w360 0 160 := R_leX b362 bf7 (Int32.not_lt.mp c376) (by decide)
        have z380 := w_le (Int32.not_lt.mp c376)
        refine ev_iload_n rfl rfl rfl ?_
        refine ev_iconst (v := 3) rfl rfl (by decide) ?_
        refine ev_icmp_eq rfl rfl (fun c381 => ?_) (fun c381 => ?_)
        · have b382 : B w359 3 3 := R_eqX b361 (by decide : B 3 3 3) c381
          have z383 := congrArg Int32.toInt c381
          rw [show (3 : Int32).toInt = 3 from by decide] at z383
          exact ev_vret rfl rfl trivial ⟨rfl, rfl, hJ364, (by have z0_ := congrArg Int32.toInt ef366; have z1_ := congrArg Int32.toInt ef374; have z_ := w_lits; have zl_ := l_lits; omega)⟩
        · have b384 : B w359 0 2 := R_neU b361 (by decide : B 3 3 3) c381 (by decide)
          have z385 := w_ne c381
          rw [show (3 : Int32).toInt = 3 from by decide] at z385
          refine ev_aload_n rfl rfl rfl ?_
          refine ev_getV (v := f374) rfl rfl fl_X2_34 rfl rfl rfl ef374 ?_
          refine ev_if_ne rfl rfl (fun c386 => ?_) (fun c386 => ?_)
          · have z387 := w_ne c386
            rw [show (0 : Int32).toInt = 0 from by decide] at z387
            exact ev_vret rfl rfl trivial ⟨rfl, rfl, hJ364, (by have z0_ := congrArg Int32.toInt ef366; have z1_ := congrArg Int32.toInt ef374; have z_ := w_lits; have zl_ := l_lits; omega)⟩
          · have b388 : B f374 0 0 := R_eqX (B.any f374) (by decide : B 0 0 0) c386
            have z389 := congrArg Int32.toInt c386
            rw [show (0 : Int32).toInt = 0 from by decide] at z389
            refine ev_aload_n rfl rfl rfl ?_
            refine ev_V0K hJ364 rfl rfl rfl lk_X2_56 vt_X2_readToken rfl rfl rfl rfl rfl (w_X2_readToken_23 L b h363 hJ364.1 (by have z0_ := congrArg Int32.toInt z365; have z1_ := congrArg Int32.toInt ef372; have z_ := w_lits; have zl_ := l_lits; omega)) (fun h390 hJ390 k390 m390 => ?_)
            obtain ⟨m390_0, m390_1⟩ := m390
            obtain ⟨f391, ef391⟩ : ∃ f_, h390 23 2 = f_ := ⟨_, rfl⟩
            have bf391 : B f391 0 160 := by have z_ := hJ390.1 23 2; rw [ef391] at z_; exact z_
            have zf391 := congrArg Int32.toInt ef391
            obtain ⟨f392, ef392⟩ : ∃ f_, h390 23 3 = f_ := ⟨_, rfl⟩
            have zf392 := congrArg Int32.toInt ef392
            obtain ⟨f393, ef393⟩ : ∃ f_, h390 23 7 = f_ := ⟨_, rfl⟩
            have zf393 := congrArg Int32.toInt ef393
            have z394 := congrArg Int32.toInt (rd_w k390 z365 rfl)
            refine ev_aload_n rfl rfl rfl ?_
            refine ev_getV (v := f393) rfl rfl fl_X2_34 rfl rfl rfl ef393 ?_
            refine ev_if_ne rfl rfl (fun c395 => ?_) (fun c395 => ?_)
            · have z396 := w_ne c395
              rw [show (0 : Int32).toInt = 0 from by decide] at z396
              refine ev_iincB (y := 1) (l := 1) (u := 161) rfl rfl rfl (by decide) rfl rfl b379 (by decide : B 1 1 1) (by decide) (by decide) (by decide) (by decide) (fun v399 b399 e399 => ?_)
              dsimp only [List.set]
              have e399x := e399; rw [show (1 : Int32).toInt = 1 from by decide] at e399x
              refine ev_goto rfl rfl ?_
              exact (ih29 w359 v399 h390 (b384.mono (by decide) (by decide)) (b399.mono (by decide) (by decide)) hJ390 (rd_w k390 z365 rfl) (by have z0_ := congrArg Int32.toInt (rd_w k390 ef366 rfl); have z1_ := congrArg Int32.toInt (rd_w k390 ef367 rfl); have z2_ := congrArg Int32.toInt (rd_w k390 ef368 rfl); have z_ := w_lits; have zl_ := l_lits; omega) (by have z0_ := congrArg Int32.toInt (rd_w k390 ef366 rfl); have z1_ := congrArg Int32.toInt (rd_w k390 ef367 rfl); have z2_ := congrArg Int32.toInt (rd_w k390 ef368 rfl); have z3_ := congrArg Int32.toInt (rd_w k390 ef369 rfl); have z_ := w_lits; have zl_ := l_lits; omega) (by have z0_ := congrArg Int32.toInt (rd_w k390 ef366 rfl); have z1_ := congrArg Int32.toInt (rd_w k390 ef367 rfl); have z2_ := congrArg Int32.toInt (rd_w k390 ef369 rfl); have z3_ := congrArg Int32.toInt (rd_w k390 ef370 rfl); have z_ := w_lits; have zl_ := l_lits; omega) (by have z0_ := congrArg Int32.toInt (rd_w k390 ef366 rfl); have z1_ := congrArg Int32.toInt (rd_w k390 ef367 rfl); have z2_ := congrArg Int32.toInt (rd_w k390 ef370 rfl); have z3_ := congrArg Int32.toInt (rd_w k390 ef371 rfl); have z_ := w_lits; have zl_ := l_lits; omega) (by have z0_ := congrArg Int32.toInt (rd_w k390 z365 rfl); have z1_ := congrArg Int32.toInt ef391; have z_ := w_lits; have zl_ := l_lits; omega) (by have z0_ := congrArg Int32.toInt ef391; have z1_ := congrArg Int32.toInt ef393; have z_ := w_lits; have zl_ := l_lits; omega) (by have z0_ := congrArg Int32.toInt (rd_w k390 ef366 rfl); have z1_ := congrArg Int32.toInt ef393; have z_ := w_lits; have zl_ := l_lits; omega) (L_up hm29 (e_p1 e399 (by decide))))
            · have b397 : B f393 0 0 := R_eqX (B.any f393) (by decide : B 0 0 0) c395
              have z398 := congrArg Int32.toInt c395
              rw [show (0 : Int32).toInt = 0 from by decide] at z398
              refine ev_aload_n rfl rfl rfl ?_
              refine ev_iload_n rfl rfl rfl ?_
              have z400 := congrArg Int32.toInt (rd_w k390 ef366 rfl)
              have z401 := congrArg Int32.toInt (rd_w k390 ef367 rfl)
              have z402 := congrArg Int32.toInt (rd_w k390 ef368 rfl)
              have z403 := congrArg Int32.toInt (rd_w k390 ef369 rfl)
              have z404 := congrArg Int32.toInt (rd_w k390 ef370 rfl)
              have z405 := congrArg Int32.toInt (rd_w k390 ef371 rfl)
              refine ev_V1I hJ390 rfl rfl rfl lk_X2_59 vt_X2_take rfl rfl rfl rfl rfl (w_X2_take_23 L b h390 hJ390.1 w359 (b384.mono (by decide) (by decide)) (by have z0_ := congrArg Int32.toInt (rd_w k390 ef366 rfl); have z1_ := congrArg Int32.toInt (rd_w k390 ef367 rfl); have z2_ := congrArg Int32.toInt (rd_w k390 ef368 rfl); have z_ := w_lits; have zl_ := l_lits; omega) (by have z0_ := congrArg Int32.toInt (rd_w k390 ef366 rfl); have z1_ := congrArg Int32.toInt (rd_w k390 ef367 rfl); have z2_ := congrArg Int32.toInt (rd_w k390 ef368 rfl); have z3_ := congrArg Int32.toInt (rd_w k390 ef369 rfl); have z_ := w_lits; have zl_ := l_lits; omega) (by have z0_ := congrArg Int32.toInt (rd_w k390 ef366 rfl); have z1_ := congrArg Int32.toInt (rd_w k390 ef367 rfl); have z2_ := congrArg Int32.toInt (rd_w k390 ef369 rfl); have z3_ := congrArg Int32.toInt (rd_w k390 ef370 rfl); have z_ := w_lits; have zl_ := l_lits; omega) (by have z0_ := congrArg Int32.toInt (rd_w k390 ef366 rfl); have z1_ := congrArg Int32.toInt (rd_w k390 ef367 rfl); have z2_ := congrArg Int32.toInt (rd_w k390 ef370 rfl); have z3_ := congrArg Int32.toInt (rd_w k390 ef371 rfl); have z_ := w_lits; have zl_ := l_lits; omega)) (fun r406 h406 q406 hJ406 k406 => ?_)
              obtain ⟨b406, m406_0, m406_1, m406_2, m406_3, m406_4, m406_5⟩ := q406
              obtain ⟨f407, ef407⟩ : ∃ f_, h406 23 10 = f_ := ⟨_, rfl⟩
              have bf407 : B f407 0 25 := by have z_ := hJ406.1 23 10; rw [ef407] at z_; exact z_
              have zf407 := congrArg Int32.toInt ef407
              obtain ⟨f408, ef408⟩ : ∃ f_, h406 23 13 = f_ := ⟨_, rfl⟩
              have bf408 : B f408 0 4 := by have z_ := hJ406.1 23 13; rw [ef408] at z_; exact z_
              have zf408 := congrArg Int32.toInt ef408
              obtain ⟨f409, ef409⟩ : ∃ f_, h406 26 0 = f_ := ⟨_, rfl⟩
              have bf409 : B f409 0 25 := by have z_ := hJ406.1 26 0; rw [ef409] at z_; exact z_
              have zf409 := congrArg Int32.toInt ef409
              obtain ⟨f410, ef410⟩ : ∃ f_, h406 26 1 = f_ := ⟨_, rfl⟩
              have bf410 : B f410 0 25 := by have z_ := hJ406.1 26 1; rw [ef410] at z_; exact z_
              have zf410 := congrArg Int32.toInt ef410
              obtain ⟨f411, ef411⟩ : ∃ f_, h406 26 2 = f_ := ⟨_, rfl⟩
              have bf411 : B f411 0 25 := by have z_ := hJ406.1 26 2; rw [ef411] at z_; exact z_
              have zf411 := congrArg Int32.toInt ef411
              obtain ⟨f412, ef412⟩ : ∃ f_, h406 26 3 = f_ := ⟨_, rfl⟩
              have bf412 : B f412 0 25 := by have z_ := hJ406.1 26 3; rw [ef412] at z_; exact z_
              have zf412 := congrArg Int32.toInt ef412
              obtain ⟨f413, ef413⟩ : ∃ f_, h406 23 7 = f_ := ⟨_, rfl⟩
              have zf413 := congrArg Int32.toInt ef413
              have z414 := congrArg Int32.toInt (rd_w k406 ef392 rfl)
              refine ev_istore_n rfl rfl rfl rfl ?_
              dsimp only [List.set]
              refine ev_iincB (y := 1) (l := 1) (u := 161) rfl rfl rfl (by decide) rfl rfl b379 (by decide : B 1 1 1) (by decide) (by decide) (by decide) (by decide) (fun v415 b415 e415 => ?_)
              dsimp only [List.set]
              have e415x := e415; rw [show (1 : Int32).toInt = 1 from by decide] at e415x
              refine ev_goto rfl rfl ?_
              exact (ih29 r406 v415 h406 b406 (b415.mono (by decide) (by decide)) hJ406 (rd_w k406 (rd_w k390 z365 rfl) rfl) (by have z0_ := congrArg Int32.toInt ef407; have z1_ := congrArg Int32.toInt ef408; have z2_ := congrArg Int32.toInt ef409; have z_ := w_lits; have zl_ := l_lits; omega) (by have z0_ := congrArg Int32.toInt ef407; have z1_ := congrArg Int32.toInt ef408; have z2_ := congrArg Int32.toInt ef409; have z3_ := congrArg Int32.toInt ef410; have z_ := w_lits; have zl_ := l_lits; omega) (by have z0_ := congrArg Int32.toInt ef407; have z1_ := congrArg Int32.toInt ef408; have z2_ := congrArg Int32.toInt ef410; have z3_ := congrArg Int32.toInt ef411; have z_ := w_lits; have zl_ := l_lits; omega) (by have z0_ := congrArg Int32.toInt ef407; have z1_ := congrArg Int32.toInt ef408; have z2_ := congrArg Int32.toInt ef411; have z3_ := congrArg Int32.toInt ef412; have z_ := w_lits; have zl_ := l_lits; omega) (by have z0_ := congrArg Int32.toInt (rd_w k406 (rd_w k390 z365 rfl) rfl); have z1_ := congrArg Int32.toInt (rd_w k406 ef391 rfl); have z_ := w_lits; have zl_ := l_lits; omega) (by have z0_ := congrArg Int32.toInt (rd_w k406 ef391 rfl); have z1_ := congrArg Int32.toInt ef413; have z_ := w_lits; have zl_ := l_lits; omega) (by have z0_ := congrArg Int32.toInt ef407; have z1_ := congrArg Int32.toInt ef413; have z_ := w_lits; have zl_ := l_lits; omega) (L_up hm29 (e_p1 e415 (by decide))))
  exact (lp29_358 162 0 0 h15 ((by decide : B 0 0 0).mono (by decide) (by decide)) ((by decide : B 0 0 0).mono (by decide) (by decide)) hJ15 (rd_o k15 (rd_o k14 (rd_o k13 (rd_o k12 (rd_o k11 ef7 rfl) rfl) rfl) rfl) rfl) (by have z0_ := congrArg Int32.toInt (rd_o k15 (rd_s k14) rfl); have z1_ := congrArg Int32.toInt (rd_s k15); have z2_ := congrArg Int32.toInt (rd_o k15 (rd_o k14 (rd_o k13 (rd_o k12 (rd_o k11 ef3 rfl) rfl) rfl) rfl) rfl); have z_ := w_lits; have zl_ := l_lits; omega) (by have z0_ := congrArg Int32.toInt (rd_o k15 (rd_s k14) rfl); have z1_ := congrArg Int32.toInt (rd_s k15); have z2_ := congrArg Int32.toInt (rd_o k15 (rd_o k14 (rd_o k13 (rd_o k12 (rd_o k11 ef3 rfl) rfl) rfl) rfl) rfl); have z3_ := congrArg Int32.toInt (rd_o k15 (rd_o k14 (rd_o k13 (rd_o k12 (rd_o k11 ef4 rfl) rfl) rfl) rfl) rfl); have z_ := w_lits; have zl_ := l_lits; omega) (by have z0_ := congrArg Int32.toInt (rd_o k15 (rd_s k14) rfl); have z1_ := congrArg Int32.toInt (rd_s k15); have z2_ := congrArg Int32.toInt (rd_o k15 (rd_o k14 (rd_o k13 (rd_o k12 (rd_o k11 ef4 rfl) rfl) rfl) rfl) rfl); have z3_ := congrArg Int32.toInt (rd_o k15 (rd_o k14 (rd_o k13 (rd_o k12 (rd_o k11 ef5 rfl) rfl) rfl) rfl) rfl); have z_ := w_lits; have zl_ := l_lits; omega) (by have z0_ := congrArg Int32.toInt (rd_o k15 (rd_s k14) rfl); have z1_ := congrArg Int32.toInt (rd_s k15); have z2_ := congrArg Int32.toInt (rd_o k15 (rd_o k14 (rd_o k13 (rd_o k12 (rd_o k11 ef5 rfl) rfl) rfl) rfl) rfl); have z3_ := congrArg Int32.toInt (rd_o k15 (rd_o k14 (rd_o k13 (rd_o k12 (rd_o k11 ef6 rfl) rfl) rfl) rfl) rfl); have z_ := w_lits; have zl_ := l_lits; omega) (by have z0_ := congrArg Int32.toInt (rd_o k15 (rd_o k14 (rd_o k13 (rd_o k12 (rd_o k11 ef7 rfl) rfl) rfl) rfl) rfl); have z1_ := congrArg Int32.toInt (rd_o k15 (rd_o k14 (rd_o k13 (rd_o k12 (rd_s k11) rfl) rfl) rfl) rfl); have z_ := w_lits; have zl_ := l_lits; omega) (by have z0_ := congrArg Int32.toInt (rd_o k15 (rd_o k14 (rd_o k13 (rd_o k12 (rd_s k11) rfl) rfl) rfl) rfl); have z1_ := congrArg Int32.toInt (rd_o k15 (rd_o k14 (rd_o k13 (rd_s k12) rfl) rfl) rfl); have z_ := w_lits; have zl_ := l_lits; omega) (by have z0_ := congrArg Int32.toInt (rd_o k15 (rd_s k14) rfl); have z1_ := congrArg Int32.toInt (rd_o k15 (rd_o k14 (rd_o k13 (rd_s k12) rfl) rfl) rfl); have z_ := w_lits; have zl_ := l_lits; omega) (L_init (by decide : B 0 0 0) (by decide)))

set_option maxRecDepth 100000 in
set_option maxHeartbeats 4000000 in
theorem w_X9_tune_1 (L : Nat) (b : Bool) (h : Hp) (hB : Bx h)  : EvJ mi_X9_tune [.ref 1] (G0 L b) h (fun r : Int32 => B r (-2147483648) 2147483647) [(23, 1), (23, 2), (23, 3), (23, 4), (23, 5), (23, 6), (23, 7), (23, 8), (23, 10), (23, 13), (25, 999), (26, 999), (27, 999), (28, 2), (30, 999), (31, 999), (32, 999), (33, 999), (34, 999), (35, 999), (36, 999)] := by
  refine EvM.of2 (lo := [some (.ref 1)]) pf_X9_tune ok_X9_tune rfl rfl ?_
  have hJ0 : JW [(23, 1), (23, 2), (23, 3), (23, 4), (23, 5), (23, 6), (23, 7), (23, 8), (23, 10), (23, 13), (25, 999), (26, 999), (27, 999), (28, 2), (30, 999), (31, 999), (32, 999), (33, 999), (34, 999), (35, 999), (36, 999)] h h := JW.refl hB
  obtain ⟨f1, ef1⟩ : ∃ f_, h 23 7 = f_ := ⟨_, rfl⟩
  have zf1 := congrArg Int32.toInt ef1
  obtain ⟨f2, ef2⟩ : ∃ f_, h 23 10 = f_ := ⟨_, rfl⟩
  have bf2 : B f2 0 25 := by have z_ := hJ0.1 23 10; rw [ef2] at z_; exact z_
  have zf2 := congrArg Int32.toInt ef2
  refine ev_aload_n rfl rfl rfl ?_
  refine ev_getR (y := 28) rfl rfl fl_X9_43 rfl rfl rfl rfl ?_
  refine ev_getW (l := 0) (u := 6) hJ0.1 rfl rfl rfl fl_X9_176 rfl rfl rfl (fun v3 b3 e3 => ?_)
  refine ev_bipush (v := 6) rfl rfl (by decide) ?_
  refine ev_icmp_lt rfl rfl (fun c4 => ?_) (fun c4 => ?_)
  · have b5 : B v3 0 5 := R_ltX b3 (by decide : B 6 6 6) c4 (by decide)
    have z6 := w_lt c4
    rw [show (6 : Int32).toInt = 6 from by decide] at z6
    refine ev_aload_n rfl rfl rfl ?_
    refine ev_getR (y := 23) rfl rfl fl_X9_36 rfl rfl rfl rfl ?_
    refine ev_V0K hJ0 rfl rfl rfl lk_X9_177 vt_X2_readAll rfl rfl rfl rfl rfl (w_X2_readAll_23 L b h hJ0.1 ) (fun h9 hJ9 k9 m9 => ?_)
    obtain ⟨f10, ef10⟩ : ∃ f_, h9 23 7 = f_ := ⟨_, rfl⟩
    have zf10 := congrArg Int32.toInt ef10
    obtain ⟨f11, ef11⟩ : ∃ f_, h9 23 10 = f_ := ⟨_, rfl⟩
    have bf11 : B f11 0 25 := by have z_ := hJ9.1 23 10; rw [ef11] at z_; exact z_
    have zf11 := congrArg Int32.toInt ef11
    refine ev_aload_n rfl rfl rfl ?_
    refine ev_getR (y := 23) rfl rfl fl_X9_36 rfl rfl rfl rfl ?_
    refine ev_iconst (v := 0) rfl rfl (by decide) ?_
    refine ev_putW (l := 0) (u := 160) hJ9 rfl (by decide : B 0 0 0) (by decide) (by decide) rfl rfl rfl fl_X9_173 rfl rfl rfl rfl rfl (fun h12 hJ12 k12 => ?_)
    refine ev_aload_n rfl rfl rfl ?_
    refine ev_getR (y := 23) rfl rfl fl_X9_36 rfl rfl rfl rfl ?_
    refine ev_getV (v := f10) rfl rfl fl_X9_180 rfl rfl rfl (rd_o k12 ef10 rfl) ?_
    refine ev_if_eq rfl rfl (fun c13 => ?_) (fun c13 => ?_)
    · have b14 : B f10 0 0 := R_eqX (B.any f10) (by decide : B 0 0 0) c13
      have z15 := congrArg Int32.toInt c13
      rw [show (0 : Int32).toInt = 0 from by decide] at z15
      refine ev_aload_n rfl rfl rfl ?_
      refine ev_getR (y := 28) rfl rfl fl_X9_43 rfl rfl rfl rfl ?_
      refine ev_aload_n rfl rfl rfl ?_
      refine ev_getR (y := 23) rfl rfl fl_X9_36 rfl rfl rfl rfl ?_
      refine ev_getR (y := 25) rfl rfl fl_X9_186 rfl rfl rfl rfl ?_
      refine ev_aload_n rfl rfl rfl ?_
      refine ev_getR (y := 23) rfl rfl fl_X9_36 rfl rfl rfl rfl ?_
      refine ev_getV (v := f11) rfl rfl fl_X9_189 rfl rfl rfl (rd_o k12 ef11 rfl) ?_
      refine ev_V2J hJ12 rfl rfl rfl lk_X9_192 vt_X7_add rfl rfl rfl rfl rfl (w_X7_add_28_25 L b h12 hJ12.1 f11 ⟨(by have z0_ := congrArg Int32.toInt (rd_o k12 ef10 rfl); have z1_ := congrArg Int32.toInt (rd_o k12 ef11 rfl); have z_ := w_lits; have zl_ := l_lits; omega), (by have z0_ := congrArg Int32.toInt (rd_o k12 ef10 rfl); have z1_ := congrArg Int32.toInt (rd_o k12 ef11 rfl); have z_ := w_lits; have zl_ := l_lits; omega)⟩ (B.at (rd_o k12 (rd_w k9 e3 rfl) rfl) b5)) (fun r17 h17 q17 hJ17 k17 => ?_)
      exact ev_iret rfl rfl rfl ⟨⟨_, rfl, (q17.mono (by decide) (by decide))⟩, rfl, hJ17⟩
    · have z16 := w_ne c13
      rw [show (0 : Int32).toInt = 0 from by decide] at z16
      refine ev_bipush (v := (-10)) rfl rfl (by decide) ?_
      refine ev_aload_n rfl rfl rfl ?_
      refine ev_getR (y := 23) rfl rfl fl_X9_36 rfl rfl rfl rfl ?_
      refine ev_getW (l := (-2147483648)) (u := 2147483647) hJ12.1 rfl rfl rfl fl_X9_183 rfl rfl rfl (fun v18 b18 e18 => ?_)
      refine ev_isubA rfl rfl (fun v19 g19 => ?_)
      exact ev_iret rfl rfl rfl ⟨⟨_, rfl, (B.any v19)⟩, rfl, hJ12⟩
  · have b7 : B v3 6 6 := R_leY (by decide : B 6 6 6) b3 (Int32.not_lt.mp c4) (by decide)
    have z8 := w_le (Int32.not_lt.mp c4)
    rw [show (6 : Int32).toInt = 6 from by decide] at z8
    refine ev_bipush (v := (-3)) rfl rfl (by decide) ?_
    exact ev_iret rfl rfl rfl ⟨⟨_, rfl, ((by decide : B (-3) (-3) (-3)).mono (by decide) (by decide))⟩, rfl, hJ0⟩

