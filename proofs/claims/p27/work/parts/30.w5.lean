set_option maxRecDepth 100000 in
set_option maxHeartbeats 4000000 in
theorem w_X2_isLetter_23 (L : Nat) (b : Bool) (h : Hp) (hB : Bx h) (a0 : Int32) (p0 : B a0 0 160) (t : Int32) (rt : h 24 a0.toNatClampNeg = t) : EvP mi_X2_isLetter [.ref 23, .int a0] (G0 L b) h (fun r : Int32 => B r 0 1 ∧ (¬ r = 0 → B a0 0 159) ∧ (¬ r = 0 → B t 97 122) ∧ (r.toInt = 0 → ¬ (a0.toInt < (h 23 1).toInt ∧ 97 ≤ t.toInt ∧ t.toInt ≤ 122)) ∧ (¬ r.toInt = 0 → a0.toInt < (h 23 1).toInt)) := by
  refine EvM.of2 (lo := [some (.ref 23), some (.int a0)]) pf_X2_isLetter ok_X2_isLetter rfl rfl ?_
  obtain ⟨f1, ef1⟩ : ∃ f_, h 23 1 = f_ := ⟨_, rfl⟩
  have bf1 : B f1 0 160 := by have z_ := hB 23 1; rw [ef1] at z_; exact z_
  have zf1 := congrArg Int32.toInt ef1
  refine ev_iload_n rfl rfl rfl ?_
  refine ev_aload_n rfl rfl rfl ?_
  refine ev_getV (v := f1) rfl rfl fl_X2_15 rfl rfl rfl ef1 ?_
  refine ev_icmp_ge rfl rfl (fun c2 => ?_) (fun c2 => ?_)
  · have z3 := w_le c2
    refine ev_iconst (v := 0) rfl rfl (by decide) ?_
    exact ev_iret rfl rfl rfl ⟨⟨_, rfl, ⟨((by decide : B 0 0 0).mono (by decide) (by decide)), (fun e_ => absurd rfl e_), (fun e_ => absurd rfl e_), (by have z0_ := congrArg Int32.toInt ef1; have z_ := w_lits; have zl_ := l_lits; omega), (by have z0_ := congrArg Int32.toInt ef1; have z_ := w_lits; have zl_ := l_lits; omega)⟩⟩, rfl, rfl⟩
  · have b4 : B a0 0 159 := R_ltX p0 bf1 (Int32.not_le.mp c2) (by decide)
    have b5 : B f1 1 160 := R_ltY p0 bf1 (Int32.not_le.mp c2) (by decide)
    have z6 := w_lt (Int32.not_le.mp c2)
    refine ev_aload_n rfl rfl rfl ?_
    refine ev_getR (y := 24) rfl rfl fl_X2_11 rfl rfl rfl rfl ?_
    refine ev_iload_n rfl rfl rfl ?_
    refine ev_badV (v := t) rfl rfl rfl (b4.vp (by decide) (by decide)) rfl rt ?_
    refine ev_bipush (v := 97) rfl rfl (by decide) ?_
    refine ev_icmp_lt rfl rfl (fun c7 => ?_) (fun c7 => ?_)
    · have b8 : B t (-2147483648) 96 := R_ltX (B.any t) (by decide : B 97 97 97) c7 (by decide)
      have z9 := w_lt c7
      rw [show (97 : Int32).toInt = 97 from by decide] at z9
      refine ev_iconst (v := 0) rfl rfl (by decide) ?_
      exact ev_iret rfl rfl rfl ⟨⟨_, rfl, ⟨((by decide : B 0 0 0).mono (by decide) (by decide)), (fun e_ => absurd rfl e_), (fun e_ => absurd rfl e_), (by have z0_ := congrArg Int32.toInt ef1; have z_ := w_lits; have zl_ := l_lits; omega), (by have z0_ := congrArg Int32.toInt ef1; have z_ := w_lits; have zl_ := l_lits; omega)⟩⟩, rfl, rfl⟩
    · have b10 : B t 97 2147483647 := R_leY (by decide : B 97 97 97) (B.any t) (Int32.not_lt.mp c7) (by decide)
      have z11 := w_le (Int32.not_lt.mp c7)
      rw [show (97 : Int32).toInt = 97 from by decide] at z11
      refine ev_aload_n rfl rfl rfl ?_
      refine ev_getR (y := 24) rfl rfl fl_X2_11 rfl rfl rfl rfl ?_
      refine ev_iload_n rfl rfl rfl ?_
      refine ev_badV (v := t) rfl rfl rfl (b4.vp (by decide) (by decide)) rfl rt ?_
      refine ev_bipush (v := 122) rfl rfl (by decide) ?_
      refine ev_icmp_gt rfl rfl (fun c12 => ?_) (fun c12 => ?_)
      · have b13 : B t 123 2147483647 := R_ltY (by decide : B 122 122 122) b10 c12 (by decide)
        have z14 := w_lt c12
        rw [show (122 : Int32).toInt = 122 from by decide] at z14
        refine ev_iconst (v := 0) rfl rfl (by decide) ?_
        exact ev_iret rfl rfl rfl ⟨⟨_, rfl, ⟨((by decide : B 0 0 0).mono (by decide) (by decide)), (fun e_ => absurd rfl e_), (fun e_ => absurd rfl e_), (by have z0_ := congrArg Int32.toInt ef1; have z_ := w_lits; have zl_ := l_lits; omega), (by have z0_ := congrArg Int32.toInt ef1; have z_ := w_lits; have zl_ := l_lits; omega)⟩⟩, rfl, rfl⟩
      · have b15 : B t 97 122 := R_leX b10 (by decide : B 122 122 122) (Int32.not_lt.mp c12) (by decide)
        have z16 := w_le (Int32.not_lt.mp c12)
        rw [show (122 : Int32).toInt = 122 from by decide] at z16
        refine ev_iconst (v := 1) rfl rfl (by decide) ?_
        refine ev_goto rfl rfl ?_
        exact ev_iret rfl rfl rfl ⟨⟨_, rfl, ⟨((by decide : B 1 1 1).mono (by decide) (by decide)), (fun _ => b4), (fun _ => b15), (by have z0_ := congrArg Int32.toInt ef1; have z_ := w_lits; have zl_ := l_lits; omega), (by have z0_ := congrArg Int32.toInt ef1; have z_ := w_lits; have zl_ := l_lits; omega)⟩⟩, rfl, rfl⟩

set_option maxRecDepth 100000 in
set_option maxHeartbeats 4000000 in
theorem w_X2_isFigure_23 (L : Nat) (b : Bool) (h : Hp) (hB : Bx h) (a0 : Int32) (p0 : B a0 0 160) (t : Int32) (rt : h 24 a0.toNatClampNeg = t) : EvP mi_X2_isFigure [.ref 23, .int a0] (G0 L b) h (fun r : Int32 => B r 0 1 ∧ (¬ r = 0 → B a0 0 159) ∧ (¬ r = 0 → B t 48 57) ∧ (r.toInt = 0 → ¬ (a0.toInt < (h 23 1).toInt ∧ 48 ≤ t.toInt ∧ t.toInt ≤ 57)) ∧ (¬ r.toInt = 0 → a0.toInt < (h 23 1).toInt)) := by
  refine EvM.of2 (lo := [some (.ref 23), some (.int a0)]) pf_X2_isFigure ok_X2_isFigure rfl rfl ?_
  obtain ⟨f1, ef1⟩ : ∃ f_, h 23 1 = f_ := ⟨_, rfl⟩
  have bf1 : B f1 0 160 := by have z_ := hB 23 1; rw [ef1] at z_; exact z_
  have zf1 := congrArg Int32.toInt ef1
  refine ev_iload_n rfl rfl rfl ?_
  refine ev_aload_n rfl rfl rfl ?_
  refine ev_getV (v := f1) rfl rfl fl_X2_15 rfl rfl rfl ef1 ?_
  refine ev_icmp_ge rfl rfl (fun c2 => ?_) (fun c2 => ?_)
  · have z3 := w_le c2
    refine ev_iconst (v := 0) rfl rfl (by decide) ?_
    exact ev_iret rfl rfl rfl ⟨⟨_, rfl, ⟨((by decide : B 0 0 0).mono (by decide) (by decide)), (fun e_ => absurd rfl e_), (fun e_ => absurd rfl e_), (by have z0_ := congrArg Int32.toInt ef1; have z_ := w_lits; have zl_ := l_lits; omega), (by have z0_ := congrArg Int32.toInt ef1; have z_ := w_lits; have zl_ := l_lits; omega)⟩⟩, rfl, rfl⟩
  · have b4 : B a0 0 159 := R_ltX p0 bf1 (Int32.not_le.mp c2) (by decide)
    have b5 : B f1 1 160 := R_ltY p0 bf1 (Int32.not_le.mp c2) (by decide)
    have z6 := w_lt (Int32.not_le.mp c2)
    refine ev_aload_n rfl rfl rfl ?_
    refine ev_getR (y := 24) rfl rfl fl_X2_11 rfl rfl rfl rfl ?_
    refine ev_iload_n rfl rfl rfl ?_
    refine ev_badV (v := t) rfl rfl rfl (b4.vp (by decide) (by decide)) rfl rt ?_
    refine ev_bipush (v := 48) rfl rfl (by decide) ?_
    refine ev_icmp_lt rfl rfl (fun c7 => ?_) (fun c7 => ?_)
    · have b8 : B t (-2147483648) 47 := R_ltX (B.any t) (by decide : B 48 48 48) c7 (by decide)
      have z9 := w_lt c7
      rw [show (48 : Int32).toInt = 48 from by decide] at z9
      refine ev_iconst (v := 0) rfl rfl (by decide) ?_
      exact ev_iret rfl rfl rfl ⟨⟨_, rfl, ⟨((by decide : B 0 0 0).mono (by decide) (by decide)), (fun e_ => absurd rfl e_), (fun e_ => absurd rfl e_), (by have z0_ := congrArg Int32.toInt ef1; have z_ := w_lits; have zl_ := l_lits; omega), (by have z0_ := congrArg Int32.toInt ef1; have z_ := w_lits; have zl_ := l_lits; omega)⟩⟩, rfl, rfl⟩
    · have b10 : B t 48 2147483647 := R_leY (by decide : B 48 48 48) (B.any t) (Int32.not_lt.mp c7) (by decide)
      have z11 := w_le (Int32.not_lt.mp c7)
      rw [show (48 : Int32).toInt = 48 from by decide] at z11
      refine ev_aload_n rfl rfl rfl ?_
      refine ev_getR (y := 24) rfl rfl fl_X2_11 rfl rfl rfl rfl ?_
      refine ev_iload_n rfl rfl rfl ?_
      refine ev_badV (v := t) rfl rfl rfl (b4.vp (by decide) (by decide)) rfl rt ?_
      refine ev_bipush (v := 57) rfl rfl (by decide) ?_
      refine ev_icmp_gt rfl rfl (fun c12 => ?_) (fun c12 => ?_)
      · have b13 : B t 58 2147483647 := R_ltY (by decide : B 57 57 57) b10 c12 (by decide)
        have z14 := w_lt c12
        rw [show (57 : Int32).toInt = 57 from by decide] at z14
        refine ev_iconst (v := 0) rfl rfl (by decide) ?_
        exact ev_iret rfl rfl rfl ⟨⟨_, rfl, ⟨((by decide : B 0 0 0).mono (by decide) (by decide)), (fun e_ => absurd rfl e_), (fun e_ => absurd rfl e_), (by have z0_ := congrArg Int32.toInt ef1; have z_ := w_lits; have zl_ := l_lits; omega), (by have z0_ := congrArg Int32.toInt ef1; have z_ := w_lits; have zl_ := l_lits; omega)⟩⟩, rfl, rfl⟩
      · have b15 : B t 48 57 := R_leX b10 (by decide : B 57 57 57) (Int32.not_lt.mp c12) (by decide)
        have z16 := w_le (Int32.not_lt.mp c12)
        rw [show (57 : Int32).toInt = 57 from by decide] at z16
        refine ev_iconst (v := 1) rfl rfl (by decide) ?_
        refine ev_goto rfl rfl ?_
        exact ev_iret rfl rfl rfl ⟨⟨_, rfl, ⟨((by decide : B 1 1 1).mono (by decide) (by decide)), (fun _ => b4), (fun _ => b15), (by have z0_ := congrArg Int32.toInt ef1; have z_ := w_lits; have zl_ := l_lits; omega), (by have z0_ := congrArg Int32.toInt ef1; have z_ := w_lits; have zl_ := l_lits; omega)⟩⟩, rfl, rfl⟩

set_option maxRecDepth 100000 in
set_option maxHeartbeats 4000000 in
theorem w_X2_fail_23 (L : Nat) (b : Bool) (h : Hp) (hB : Bx h) (a0 : Int32) (a1 : Int32) : EvK mi_X2_fail [.ref 23, .int a0, .int a1] (G0 L b) h (fun z : Hp => ((z 23 7).toInt = a0.toInt)) [(23, 7), (23, 8)] := by
  refine EvM.of2 (lo := [some (.ref 23), some (.int a0), some (.int a1)]) pf_X2_fail ok_X2_fail rfl rfl ?_
  have hJ0 : JW [(23, 7), (23, 8)] h h := JW.refl hB
  obtain ⟨f1, ef1⟩ : ∃ f_, h 23 7 = f_ := ⟨_, rfl⟩
  have bf1 : B f1 (-2147483648) 2147483647 := by have z_ := hJ0.1 23 7; rw [ef1] at z_; exact z_
  have zf1 := congrArg Int32.toInt ef1
  refine ev_aload_n rfl rfl rfl ?_
  refine ev_iload_n rfl rfl rfl ?_
  refine ev_putW (l := (-2147483648)) (u := 2147483647) hJ0 rfl (B.any a0) (by decide) (by decide) rfl rfl rfl fl_X2_34 rfl rfl rfl rfl rfl (fun h2 hJ2 k2 => ?_)
  refine ev_aload_n rfl rfl rfl ?_
  refine ev_iload_n rfl rfl rfl ?_
  refine ev_putW (l := (-2147483648)) (u := 2147483647) hJ2 rfl (B.any a1) (by decide) (by decide) rfl rfl rfl fl_X2_37 rfl rfl rfl rfl rfl (fun h3 hJ3 k3 => ?_)
  exact ev_vret rfl rfl trivial ⟨rfl, rfl, hJ3, (by have z0_ := congrArg Int32.toInt (rd_o k3 (rd_s k2) rfl); have z_ := w_lits; have zl_ := l_lits; omega)⟩

set_option maxRecDepth 100000 in
set_option maxHeartbeats 4000000 in
theorem w_X2_readSign_23 (L : Nat) (b : Bool) (h : Hp) (hB : Bx h) (rp0 : (h 23 2).toInt < (h 23 1).toInt) : EvK mi_X2_readSign [.ref 23] (G0 L b) h (fun z : Hp => ((z 23 2).toInt = (h 23 2).toInt + 1) ∧ (¬ (z 23 3).toInt = 0 ∨ ¬ (z 23 7).toInt = 0)) [(23, 2), (23, 3), (23, 7), (23, 8)] := by
  refine EvM.of2 (lo := [some (.ref 23)]) pf_X2_readSign ok_X2_readSign rfl rfl ?_
  have hJ0 : JW [(23, 2), (23, 3), (23, 7), (23, 8)] h h := JW.refl hB
  obtain ⟨f1, ef1⟩ : ∃ f_, h 23 1 = f_ := ⟨_, rfl⟩
  have bf1 : B f1 0 160 := by have z_ := hJ0.1 23 1; rw [ef1] at z_; exact z_
  have zf1 := congrArg Int32.toInt ef1
  obtain ⟨f2, ef2⟩ : ∃ f_, h 23 2 = f_ := ⟨_, rfl⟩
  have bf2 : B f2 0 160 := by have z_ := hJ0.1 23 2; rw [ef2] at z_; exact z_
  have zf2 := congrArg Int32.toInt ef2
  obtain ⟨f3, ef3⟩ : ∃ f_, h 23 3 = f_ := ⟨_, rfl⟩
  have bf3 : B f3 (-2147483648) 2147483647 := by have z_ := hJ0.1 23 3; rw [ef3] at z_; exact z_
  have zf3 := congrArg Int32.toInt ef3
  obtain ⟨f4, ef4⟩ : ∃ f_, h 23 7 = f_ := ⟨_, rfl⟩
  have bf4 : B f4 (-2147483648) 2147483647 := by have z_ := hJ0.1 23 7; rw [ef4] at z_; exact z_
  have zf4 := congrArg Int32.toInt ef4
  refine ev_aload_n rfl rfl rfl ?_
  refine ev_getR (y := 24) rfl rfl fl_X2_11 rfl rfl rfl rfl ?_
  refine ev_aload_n rfl rfl rfl ?_
  refine ev_getV (v := f2) rfl rfl fl_X2_19 rfl rfl rfl ef2 ?_
  have b5 : B f2 0 159 := ⟨(by have z0_ := congrArg Int32.toInt ef1; have z1_ := congrArg Int32.toInt ef2; have z2_ := congrArg Int32.toInt ef3; have z3_ := congrArg Int32.toInt ef4; have z_ := w_lits; have zl_ := l_lits; omega), (by have z0_ := congrArg Int32.toInt ef1; have z1_ := congrArg Int32.toInt ef2; have z2_ := congrArg Int32.toInt ef3; have z3_ := congrArg Int32.toInt ef4; have z_ := w_lits; have zl_ := l_lits; omega)⟩
  refine ev_balW (n := 160) (l := (-2147483648)) (u := 2147483647) hJ0.1 b5 (by decide) (by decide) (fun _ => rfl) rfl rfl rfl (fun v6 b6 e6 => ?_)
  by_cases c7 : v6 = 40
  · subst c7
    refine ev_lookup 52 rfl (by decide) rfl (by decide) ?_
    refine ev_aload_n rfl rfl rfl ?_
    refine ev_iconst (v := 4) rfl rfl (by decide) ?_
    refine ev_putW (l := (-2147483648)) (u := 2147483647) hJ0 rfl (by decide : B 4 4 4) (by decide) (by decide) rfl rfl rfl fl_X2_22 rfl rfl rfl rfl rfl (fun h8 hJ8 k8 => ?_)
    refine ev_goto rfl rfl ?_
    refine ev_aload_n rfl rfl rfl ?_
    refine ev_dup rfl rfl rfl ?_
    refine ev_getV (v := f2) rfl rfl fl_X2_19 rfl rfl rfl (rd_o k8 ef2 rfl) ?_
    refine ev_iconst (v := 1) rfl rfl (by decide) ?_
    refine ev_iaddB (l := 1) (u := 160) rfl rfl b5 (by decide : B 1 1 1) (by decide) (by decide) (by decide) (by decide) (fun v9 b9 e9 g9 => ?_)
    have e9x := e9; rw [show (1 : Int32).toInt = 1 from by decide] at e9x
    have b10 : B v9 0 160 := ⟨(by have z0_ := congrArg Int32.toInt (rd_o k8 ef1 rfl); have z1_ := congrArg Int32.toInt (rd_o k8 ef2 rfl); have z2_ := congrArg Int32.toInt (rd_s k8); have z3_ := congrArg Int32.toInt (rd_o k8 ef4 rfl); have z_ := w_lits; have zl_ := l_lits; omega), (by have z0_ := congrArg Int32.toInt (rd_o k8 ef1 rfl); have z1_ := congrArg Int32.toInt (rd_o k8 ef2 rfl); have z2_ := congrArg Int32.toInt (rd_s k8); have z3_ := congrArg Int32.toInt (rd_o k8 ef4 rfl); have z_ := w_lits; have zl_ := l_lits; omega)⟩
    refine ev_putW (l := 0) (u := 160) hJ8 rfl b10 (by decide) (by decide) rfl rfl rfl fl_X2_19 rfl rfl rfl rfl rfl (fun h11 hJ11 k11 => ?_)
    exact ev_vret rfl rfl trivial ⟨rfl, rfl, hJ11, (by have z0_ := congrArg Int32.toInt (rd_o k11 (rd_o k8 ef1 rfl) rfl); have z1_ := congrArg Int32.toInt (rd_s k11); have z2_ := congrArg Int32.toInt (rd_o k11 (rd_s k8) rfl); have z3_ := congrArg Int32.toInt (rd_o k11 (rd_o k8 ef4 rfl) rfl); have z_ := w_lits; have zl_ := l_lits; omega), (by have z0_ := congrArg Int32.toInt (rd_o k11 (rd_o k8 ef1 rfl) rfl); have z1_ := congrArg Int32.toInt (rd_s k11); have z2_ := congrArg Int32.toInt (rd_o k11 (rd_s k8) rfl); have z3_ := congrArg Int32.toInt (rd_o k11 (rd_o k8 ef4 rfl) rfl); have z_ := w_lits; have zl_ := l_lits; omega)⟩
  by_cases c12 : v6 = 41
  · subst c12
    refine ev_lookup 60 rfl (by decide) rfl (by decide) ?_
    refine ev_aload_n rfl rfl rfl ?_
    refine ev_iconst (v := 5) rfl rfl (by decide) ?_
    refine ev_putW (l := (-2147483648)) (u := 2147483647) hJ0 rfl (by decide : B 5 5 5) (by decide) (by decide) rfl rfl rfl fl_X2_22 rfl rfl rfl rfl rfl (fun h13 hJ13 k13 => ?_)
    refine ev_goto rfl rfl ?_
    refine ev_aload_n rfl rfl rfl ?_
    refine ev_dup rfl rfl rfl ?_
    refine ev_getV (v := f2) rfl rfl fl_X2_19 rfl rfl rfl (rd_o k13 ef2 rfl) ?_
    refine ev_iconst (v := 1) rfl rfl (by decide) ?_
    refine ev_iaddB (l := 1) (u := 160) rfl rfl b5 (by decide : B 1 1 1) (by decide) (by decide) (by decide) (by decide) (fun v14 b14 e14 g14 => ?_)
    have e14x := e14; rw [show (1 : Int32).toInt = 1 from by decide] at e14x
    have b15 : B v14 0 160 := ⟨(by have z0_ := congrArg Int32.toInt (rd_o k13 ef1 rfl); have z1_ := congrArg Int32.toInt (rd_o k13 ef2 rfl); have z2_ := congrArg Int32.toInt (rd_s k13); have z3_ := congrArg Int32.toInt (rd_o k13 ef4 rfl); have z_ := w_lits; have zl_ := l_lits; omega), (by have z0_ := congrArg Int32.toInt (rd_o k13 ef1 rfl); have z1_ := congrArg Int32.toInt (rd_o k13 ef2 rfl); have z2_ := congrArg Int32.toInt (rd_s k13); have z3_ := congrArg Int32.toInt (rd_o k13 ef4 rfl); have z_ := w_lits; have zl_ := l_lits; omega)⟩
    refine ev_putW (l := 0) (u := 160) hJ13 rfl b15 (by decide) (by decide) rfl rfl rfl fl_X2_19 rfl rfl rfl rfl rfl (fun h16 hJ16 k16 => ?_)
    exact ev_vret rfl rfl trivial ⟨rfl, rfl, hJ16, (by have z0_ := congrArg Int32.toInt (rd_o k16 (rd_o k13 ef1 rfl) rfl); have z1_ := congrArg Int32.toInt (rd_s k16); have z2_ := congrArg Int32.toInt (rd_o k16 (rd_s k13) rfl); have z3_ := congrArg Int32.toInt (rd_o k16 (rd_o k13 ef4 rfl) rfl); have z_ := w_lits; have zl_ := l_lits; omega), (by have z0_ := congrArg Int32.toInt (rd_o k16 (rd_o k13 ef1 rfl) rfl); have z1_ := congrArg Int32.toInt (rd_s k16); have z2_ := congrArg Int32.toInt (rd_o k16 (rd_s k13) rfl); have z3_ := congrArg Int32.toInt (rd_o k16 (rd_o k13 ef4 rfl) rfl); have z_ := w_lits; have zl_ := l_lits; omega)⟩
  by_cases c17 : v6 = 46
  · subst c17
    refine ev_lookup 44 rfl (by decide) rfl (by decide) ?_
    refine ev_aload_n rfl rfl rfl ?_
    refine ev_iconst (v := 3) rfl rfl (by decide) ?_
    refine ev_putW (l := (-2147483648)) (u := 2147483647) hJ0 rfl (by decide : B 3 3 3) (by decide) (by decide) rfl rfl rfl fl_X2_22 rfl rfl rfl rfl rfl (fun h18 hJ18 k18 => ?_)
    refine ev_goto rfl rfl ?_
    refine ev_aload_n rfl rfl rfl ?_
    refine ev_dup rfl rfl rfl ?_
    refine ev_getV (v := f2) rfl rfl fl_X2_19 rfl rfl rfl (rd_o k18 ef2 rfl) ?_
    refine ev_iconst (v := 1) rfl rfl (by decide) ?_
    refine ev_iaddB (l := 1) (u := 160) rfl rfl b5 (by decide : B 1 1 1) (by decide) (by decide) (by decide) (by decide) (fun v19 b19 e19 g19 => ?_)
    have e19x := e19; rw [show (1 : Int32).toInt = 1 from by decide] at e19x
    have b20 : B v19 0 160 := ⟨(by have z0_ := congrArg Int32.toInt (rd_o k18 ef1 rfl); have z1_ := congrArg Int32.toInt (rd_o k18 ef2 rfl); have z2_ := congrArg Int32.toInt (rd_s k18); have z3_ := congrArg Int32.toInt (rd_o k18 ef4 rfl); have z_ := w_lits; have zl_ := l_lits; omega), (by have z0_ := congrArg Int32.toInt (rd_o k18 ef1 rfl); have z1_ := congrArg Int32.toInt (rd_o k18 ef2 rfl); have z2_ := congrArg Int32.toInt (rd_s k18); have z3_ := congrArg Int32.toInt (rd_o k18 ef4 rfl); have z_ := w_lits; have zl_ := l_lits; omega)⟩
    refine ev_putW (l := 0) (u := 160) hJ18 rfl b20 (by decide) (by decide) rfl rfl rfl fl_X2_19 rfl rfl rfl rfl rfl (fun h21 hJ21 k21 => ?_)
    exact ev_vret rfl rfl trivial ⟨rfl, rfl, hJ21, (by have z0_ := congrArg Int32.toInt (rd_o k21 (rd_o k18 ef1 rfl) rfl); have z1_ := congrArg Int32.toInt (rd_s k21); have z2_ := congrArg Int32.toInt (rd_o k21 (rd_s k18) rfl); have z3_ := congrArg Int32.toInt (rd_o k21 (rd_o k18 ef4 rfl) rfl); have z_ := w_lits; have zl_ := l_lits; omega), (by have z0_ := congrArg Int32.toInt (rd_o k21 (rd_o k18 ef1 rfl) rfl); have z1_ := congrArg Int32.toInt (rd_s k21); have z2_ := congrArg Int32.toInt (rd_o k21 (rd_s k18) rfl); have z3_ := congrArg Int32.toInt (rd_o k21 (rd_o k18 ef4 rfl) rfl); have z_ := w_lits; have zl_ := l_lits; omega)⟩
  refine ev_lookup 68 rfl (by decide) (lk_no3 c7 c12 c17) (by decide) ?_
  refine ev_aload_n rfl rfl rfl ?_
  refine ev_iconst (v := 1) rfl rfl (by decide) ?_
  refine ev_aload_n rfl rfl rfl ?_
  refine ev_getV (v := f2) rfl rfl fl_X2_19 rfl rfl rfl ef2 ?_
  have z22 := congrArg Int32.toInt ef1
  have z23 := congrArg Int32.toInt ef2
  have z24 := congrArg Int32.toInt ef3
  have z25 := congrArg Int32.toInt ef4
  refine ev_V2K hJ0 rfl rfl rfl lk_X2_79 vt_X2_fail rfl rfl rfl rfl rfl (w_X2_fail_23 L b h hJ0.1 1 f2) (fun h26 hJ26 k26 m26 => ?_)
  obtain ⟨f27, ef27⟩ : ∃ f_, h26 23 7 = f_ := ⟨_, rfl⟩
  have bf27 : B f27 (-2147483648) 2147483647 := by have z_ := hJ26.1 23 7; rw [ef27] at z_; exact z_
  have zf27 := congrArg Int32.toInt ef27
  have z28 := congrArg Int32.toInt (rd_w k26 ef1 rfl)
  have z29 := congrArg Int32.toInt (rd_w k26 ef2 rfl)
  have z30 := congrArg Int32.toInt (rd_w k26 ef3 rfl)
  have z31 := congrArg Int32.toInt ef27
  refine ev_aload_n rfl rfl rfl ?_
  refine ev_dup rfl rfl rfl ?_
  refine ev_getV (v := f2) rfl rfl fl_X2_19 rfl rfl rfl (rd_w k26 ef2 rfl) ?_
  refine ev_iconst (v := 1) rfl rfl (by decide) ?_
  refine ev_iaddB (l := 1) (u := 160) rfl rfl b5 (by decide : B 1 1 1) (by decide) (by decide) (by decide) (by decide) (fun v32 b32 e32 g32 => ?_)
  have e32x := e32; rw [show (1 : Int32).toInt = 1 from by decide] at e32x
  have b33 : B v32 0 160 := ⟨(by have z0_ := congrArg Int32.toInt (rd_w k26 ef1 rfl); have z1_ := congrArg Int32.toInt (rd_w k26 ef2 rfl); have z2_ := congrArg Int32.toInt (rd_w k26 ef3 rfl); have z3_ := congrArg Int32.toInt ef27; have z_ := w_lits; have zl_ := l_lits; omega), (by have z0_ := congrArg Int32.toInt (rd_w k26 ef1 rfl); have z1_ := congrArg Int32.toInt (rd_w k26 ef2 rfl); have z2_ := congrArg Int32.toInt (rd_w k26 ef3 rfl); have z3_ := congrArg Int32.toInt ef27; have z_ := w_lits; have zl_ := l_lits; omega)⟩
  refine ev_putW (l := 0) (u := 160) hJ26 rfl b33 (by decide) (by decide) rfl rfl rfl fl_X2_19 rfl rfl rfl rfl rfl (fun h34 hJ34 k34 => ?_)
  exact ev_vret rfl rfl trivial ⟨rfl, rfl, hJ34, (by have z0_ := congrArg Int32.toInt (rd_o k34 (rd_w k26 ef1 rfl) rfl); have z1_ := congrArg Int32.toInt (rd_s k34); have z2_ := congrArg Int32.toInt (rd_o k34 (rd_w k26 ef3 rfl) rfl); have z3_ := congrArg Int32.toInt (rd_o k34 ef27 rfl); have z_ := w_lits; have zl_ := l_lits; omega), (by have z0_ := congrArg Int32.toInt (rd_o k34 (rd_w k26 ef1 rfl) rfl); have z1_ := congrArg Int32.toInt (rd_s k34); have z2_ := congrArg Int32.toInt (rd_o k34 (rd_w k26 ef3 rfl) rfl); have z3_ := congrArg Int32.toInt (rd_o k34 ef27 rfl); have z_ := w_lits; have zl_ := l_lits; omega)⟩

set_option maxRecDepth 100000 in
set_option maxHeartbeats 4000000 in
theorem w_X2_readNumber_23 (L : Nat) (b : Bool) (h : Hp) (hB : Bx h) (t : Int32) (rt : h 24 (h 23 2).toNatClampNeg = t) (rb : B t 48 57) (rp0 : (h 23 2).toInt < (h 23 1).toInt) : EvK mi_X2_readNumber [.ref 23] (G0 L b) h (fun z : Hp => ((z 23 2).toInt ≤ (z 23 1).toInt) ∧ ((¬ (z 23 7).toInt = 0) ∨ (h 23 2).toInt + 1 ≤ (z 23 2).toInt)) [(23, 2), (23, 3), (23, 5), (23, 7), (23, 8)] := by
  refine EvM.of2 (lo := [some (.ref 23), none]) pf_X2_readNumber ok_X2_readNumber rfl rfl ?_
  have hJ0 : JW [(23, 2), (23, 3), (23, 5), (23, 7), (23, 8)] h h := JW.refl hB
  obtain ⟨f1, ef1⟩ : ∃ f_, h 23 1 = f_ := ⟨_, rfl⟩
  have bf1 : B f1 0 160 := by have z_ := hJ0.1 23 1; rw [ef1] at z_; exact z_
  have zf1 := congrArg Int32.toInt ef1
  obtain ⟨f2, ef2⟩ : ∃ f_, h 23 2 = f_ := ⟨_, rfl⟩
  have bf2 : B f2 0 160 := by have z_ := hJ0.1 23 2; rw [ef2] at z_; exact z_
  have zf2 := congrArg Int32.toInt ef2
  obtain ⟨f3, ef3⟩ : ∃ f_, h 23 7 = f_ := ⟨_, rfl⟩
  have bf3 : B f3 (-2147483648) 2147483647 := by have z_ := hJ0.1 23 7; rw [ef3] at z_; exact z_
  have zf3 := congrArg Int32.toInt ef3
  rw [ef2] at rt
  refine ev_aload_n rfl rfl rfl ?_
  refine ev_iconst (v := 2) rfl rfl (by decide) ?_
  refine ev_putW (l := (-2147483648)) (u := 2147483647) hJ0 rfl (by decide : B 2 2 2) (by decide) (by decide) rfl rfl rfl fl_X2_22 rfl rfl rfl rfl rfl (fun h4 hJ4 k4 => ?_)
  refine ev_aload_n rfl rfl rfl ?_
  refine ev_iconst (v := 0) rfl rfl (by decide) ?_
  refine ev_putW (l := 0) (u := 4095) hJ4 rfl (by decide : B 0 0 0) (by decide) (by decide) rfl rfl rfl fl_X2_28 rfl rfl rfl rfl rfl (fun h5 hJ5 k5 => ?_)
  refine ev_iconst (v := 0) rfl rfl (by decide) ?_
  refine ev_istore_n rfl rfl rfl rfl ?_
  dsimp only [List.set]
  refine ev_iload_n rfl rfl rfl ?_
  refine ev_iconst (v := 2) rfl rfl (by decide) ?_
  refine ev_icmp_ge rfl rfl (fun c6 => absurd c6 (D_nle (by decide : B 2 2 2) (by decide : B 0 0 0) (by decide))) (fun c6 => ?_)
  have z7 := w_lt (Int32.not_le.mp c6)
  rw [show (0 : Int32).toInt = 0 from by decide] at z7
  rw [show (2 : Int32).toInt = 2 from by decide] at z7
  refine ev_aload_n rfl rfl rfl ?_
  refine ev_aload_n rfl rfl rfl ?_
  refine ev_getV (v := f2) rfl rfl fl_X2_19 rfl rfl rfl (rd_o k5 (rd_o k4 ef2 rfl) rfl) ?_
  have z8 := congrArg Int32.toInt (rd_o k5 (rd_o k4 ef1 rfl) rfl)
  have z9 := congrArg Int32.toInt (rd_o k5 (rd_o k4 ef2 rfl) rfl)
  have z10 := congrArg Int32.toInt (rd_o k5 (rd_o k4 ef3 rfl) rfl)
  refine ev_V1P rfl rfl lk_X2_70 vt_X2_isFigure rfl rfl rfl rfl rfl (w_X2_isFigure_23 L b h5 hJ5.1 f2 bf2 t (rd_o k5 (rd_o k4 rt rfl) rfl)) (fun r11 q11 => ?_)
  obtain ⟨b11, p11_0, p11_1, pp11_0, pp11_1⟩ := q11
  refine ev_if_eq rfl rfl (fun c12 => False.elim (by have z0_ := congrArg Int32.toInt (rd_o k5 (rd_o k4 ef1 rfl) rfl); have z1_ := congrArg Int32.toInt (rd_o k5 (rd_o k4 ef2 rfl) rfl); have z2_ := congrArg Int32.toInt (rd_o k5 (rd_o k4 ef3 rfl) rfl); have z3_ := congrArg Int32.toInt c12; have z_ := w_lits; have zl_ := l_lits; omega)) (fun c12 => ?_)
  have b15 : B r11 1 1 := R_neL b11 (by decide : B 0 0 0) c12 (by decide)
  have b16 : B f2 0 159 := p11_0 c12
  have z17 := w_ne c12
  rw [show (0 : Int32).toInt = 0 from by decide] at z17
  refine ev_aload_n rfl rfl rfl ?_
  refine ev_aload_n rfl rfl rfl ?_
  refine ev_getV (v := 0) rfl rfl fl_X2_28 rfl rfl rfl (rd_s k5) ?_
  refine ev_bipush (v := 10) rfl rfl (by decide) ?_
  refine ev_imulB (l := 0) (u := 0) rfl rfl (by decide : B 0 0 0) (by decide : B 10 10 10) (by decide) (by decide) (by decide) (by decide) (by decide) (fun v18 b18 e18 g18 => ?_)
  rw [show (10 : Int32).toInt = 10 from by decide] at e18
  refine ev_aload_n rfl rfl rfl ?_
  refine ev_getR (y := 24) rfl rfl fl_X2_11 rfl rfl rfl rfl ?_
  refine ev_aload_n rfl rfl rfl ?_
  refine ev_getV (v := f2) rfl rfl fl_X2_19 rfl rfl rfl (rd_o k5 (rd_o k4 ef2 rfl) rfl) ?_
  refine ev_badV (v := t) rfl rfl rfl (b16.vp (by decide) (by decide)) rfl (rd_o k5 (rd_o k4 rt rfl) rfl) ?_
  refine ev_iaddB (l := 48) (u := 57) rfl rfl b18 rb (by decide) (by decide) (by decide) (by decide) (fun v19 b19 e19 g19 => ?_)
  refine ev_bipush (v := 48) rfl rfl (by decide) ?_
  refine ev_isubB (l := 0) (u := 9) rfl rfl b19 (by decide : B 48 48 48) (by decide) (by decide) (by decide) (by decide) (fun v20 b20 e20 g20 => ?_)
  have e20x := e20; rw [show (48 : Int32).toInt = 48 from by decide] at e20x
  refine ev_putW (l := 0) (u := 4095) hJ5 rfl b20 (by decide) (by decide) rfl rfl rfl fl_X2_28 rfl rfl rfl rfl rfl (fun h21 hJ21 k21 => ?_)
  refine ev_aload_n rfl rfl rfl ?_
  refine ev_dup rfl rfl rfl ?_
  refine ev_getV (v := f2) rfl rfl fl_X2_19 rfl rfl rfl (rd_o k21 (rd_o k5 (rd_o k4 ef2 rfl) rfl) rfl) ?_
  refine ev_iconst (v := 1) rfl rfl (by decide) ?_
  refine ev_iaddB (l := 1) (u := 160) rfl rfl b16 (by decide : B 1 1 1) (by decide) (by decide) (by decide) (by decide) (fun v22 b22 e22 g22 => ?_)
  have e22x := e22; rw [show (1 : Int32).toInt = 1 from by decide] at e22x
  have b23 : B v22 0 160 := ⟨(by have z0_ := congrArg Int32.toInt (rd_o k21 (rd_o k5 (rd_o k4 ef1 rfl) rfl) rfl); have z1_ := congrArg Int32.toInt (rd_o k21 (rd_o k5 (rd_o k4 ef2 rfl) rfl) rfl); have z2_ := congrArg Int32.toInt (rd_o k21 (rd_o k5 (rd_o k4 ef3 rfl) rfl) rfl); have z_ := w_lits; have zl_ := l_lits; omega), (by have z0_ := congrArg Int32.toInt (rd_o k21 (rd_o k5 (rd_o k4 ef1 rfl) rfl) rfl); have z1_ := congrArg Int32.toInt (rd_o k21 (rd_o k5 (rd_o k4 ef2 rfl) rfl) rfl); have z2_ := congrArg Int32.toInt (rd_o k21 (rd_o k5 (rd_o k4 ef3 rfl) rfl) rfl); have z_ := w_lits; have zl_ := l_lits; omega)⟩
  refine ev_putW (l := 0) (u := 160) hJ21 rfl b23 (by decide) (by decide) rfl rfl rfl fl_X2_19 rfl rfl rfl rfl rfl (fun h24 hJ24 k24 => ?_)
  refine ev_iincL (v := 1) (y := 1) rfl rfl rfl (by decide) rfl rfl (by decide) ?_
  dsimp only [List.set]
  refine ev_goto rfl rfl ?_
  refine ev_iload_n rfl rfl rfl ?_
  refine ev_iconst (v := 2) rfl rfl (by decide) ?_
  refine ev_icmp_ge rfl rfl (fun c25 => absurd c25 (D_nle (by decide : B 2 2 2) (by decide : B 1 1 1) (by decide))) (fun c25 => ?_)
  have z26 := w_lt (Int32.not_le.mp c25)
  rw [show (1 : Int32).toInt = 1 from by decide] at z26
  rw [show (2 : Int32).toInt = 2 from by decide] at z26
  refine ev_aload_n rfl rfl rfl ?_
  refine ev_aload_n rfl rfl rfl ?_
  refine ev_getV (v := v22) rfl rfl fl_X2_19 rfl rfl rfl (rd_s k24) ?_
  obtain ⟨t27, et27⟩ : ∃ f_, h24 24 (Int32.toNatClampNeg v22) = f_ := ⟨_, rfl⟩
  have z28 := congrArg Int32.toInt (rd_o k24 (rd_o k21 (rd_o k5 (rd_o k4 ef1 rfl) rfl) rfl) rfl)
  have z29 := congrArg Int32.toInt (rd_s k24)
  have z30 := congrArg Int32.toInt (rd_o k24 (rd_o k21 (rd_o k5 (rd_o k4 ef3 rfl) rfl) rfl) rfl)
  refine ev_V1P rfl rfl lk_X2_70 vt_X2_isFigure rfl rfl rfl rfl rfl (w_X2_isFigure_23 L b h24 hJ24.1 v22 b23 t27 et27) (fun r31 q31 => ?_)
  obtain ⟨b31, p31_0, p31_1, pp31_0, pp31_1⟩ := q31
  refine ev_if_eq rfl rfl (fun c32 => ?_) (fun c32 => ?_)
  · have b33 : B r31 0 0 := R_eqX b31 (by decide : B 0 0 0) c32
    have z34 := congrArg Int32.toInt c32
    rw [show (0 : Int32).toInt = 0 from by decide] at z34
    refine ev_aload_n rfl rfl rfl ?_
    refine ev_aload_n rfl rfl rfl ?_
    refine ev_getV (v := v22) rfl rfl fl_X2_19 rfl rfl rfl (rd_s k24) ?_
    have z40 := congrArg Int32.toInt (rd_o k24 (rd_o k21 (rd_o k5 (rd_o k4 ef1 rfl) rfl) rfl) rfl)
    have z41 := congrArg Int32.toInt (rd_s k24)
    have z42 := congrArg Int32.toInt (rd_o k24 (rd_o k21 (rd_o k5 (rd_o k4 ef3 rfl) rfl) rfl) rfl)
    refine ev_V1P rfl rfl lk_X2_70 vt_X2_isFigure rfl rfl rfl rfl rfl (w_X2_isFigure_23 L b h24 hJ24.1 v22 b23 t27 et27) (fun r43 q43 => ?_)
    obtain ⟨b43, p43_0, p43_1, pp43_0, pp43_1⟩ := q43
    refine ev_if_eq rfl rfl (fun c44 => ?_) (fun c44 => ?_)
    · have b45 : B r43 0 0 := R_eqX b43 (by decide : B 0 0 0) c44
      have z46 := congrArg Int32.toInt c44
      rw [show (0 : Int32).toInt = 0 from by decide] at z46
      exact ev_vret rfl rfl trivial ⟨rfl, rfl, hJ24, (by have z0_ := congrArg Int32.toInt (rd_o k24 (rd_o k21 (rd_o k5 (rd_o k4 ef1 rfl) rfl) rfl) rfl); have z1_ := congrArg Int32.toInt (rd_s k24); have z2_ := congrArg Int32.toInt (rd_o k24 (rd_o k21 (rd_o k5 (rd_o k4 ef3 rfl) rfl) rfl) rfl); have z_ := w_lits; have zl_ := l_lits; omega), (by have z0_ := congrArg Int32.toInt (rd_o k24 (rd_o k21 (rd_o k5 (rd_o k4 ef1 rfl) rfl) rfl) rfl); have z1_ := congrArg Int32.toInt (rd_s k24); have z2_ := congrArg Int32.toInt (rd_o k24 (rd_o k21 (rd_o k5 (rd_o k4 ef3 rfl) rfl) rfl) rfl); have z_ := w_lits; have zl_ := l_lits; omega)⟩
    · have b47 : B r43 1 1 := R_neL b43 (by decide : B 0 0 0) c44 (by decide)
      have b48 : B v22 0 159 := p43_0 c44
      have b49 : B f2 0 158 := B.inter b16 (R_bk (l' := (-1)) (u' := 158) e22 b48 (by decide : B 1 1 1) (by decide) (by decide)) (by decide) (by decide)
      have b50 : B t27 48 57 := p43_1 c44
      have z51 := w_ne c44
      rw [show (0 : Int32).toInt = 0 from by decide] at z51
      refine ev_aload_n rfl rfl rfl ?_
      refine ev_iconst (v := 1) rfl rfl (by decide) ?_
      refine ev_aload_n rfl rfl rfl ?_
      refine ev_getW (l := (-2147483648)) (u := 2147483647) hJ24.1 rfl rfl rfl fl_X2_25 rfl rfl rfl (fun v52 b52 e52 => ?_)
      have z53 := congrArg Int32.toInt (rd_o k24 (rd_o k21 (rd_o k5 (rd_o k4 ef1 rfl) rfl) rfl) rfl)
      have z54 := congrArg Int32.toInt (rd_s k24)
      have z55 := congrArg Int32.toInt (rd_o k24 (rd_o k21 (rd_o k5 (rd_o k4 ef3 rfl) rfl) rfl) rfl)
      refine ev_V2K hJ24 rfl rfl rfl lk_X2_79 vt_X2_fail rfl rfl rfl rfl rfl (w_X2_fail_23 L b h24 hJ24.1 1 v52) (fun h56 hJ56 k56 m56 => ?_)
      obtain ⟨f57, ef57⟩ : ∃ f_, h56 23 7 = f_ := ⟨_, rfl⟩
      have bf57 : B f57 (-2147483648) 2147483647 := by have z_ := hJ56.1 23 7; rw [ef57] at z_; exact z_
      have zf57 := congrArg Int32.toInt ef57
      have z58 := congrArg Int32.toInt (rd_w k56 (rd_o k24 (rd_o k21 (rd_o k5 (rd_o k4 ef1 rfl) rfl) rfl) rfl) rfl)
      have z59 := congrArg Int32.toInt (rd_w k56 (rd_s k24) rfl)
      have z60 := congrArg Int32.toInt ef57
      exact ev_vret rfl rfl trivial ⟨rfl, rfl, hJ56, (by have z0_ := congrArg Int32.toInt (rd_w k56 (rd_o k24 (rd_o k21 (rd_o k5 (rd_o k4 ef1 rfl) rfl) rfl) rfl) rfl); have z1_ := congrArg Int32.toInt (rd_w k56 (rd_s k24) rfl); have z2_ := congrArg Int32.toInt ef57; have z_ := w_lits; have zl_ := l_lits; omega), (by have z0_ := congrArg Int32.toInt (rd_w k56 (rd_o k24 (rd_o k21 (rd_o k5 (rd_o k4 ef1 rfl) rfl) rfl) rfl) rfl); have z1_ := congrArg Int32.toInt (rd_w k56 (rd_s k24) rfl); have z2_ := congrArg Int32.toInt ef57; have z_ := w_lits; have zl_ := l_lits; omega)⟩
  · have b35 : B r31 1 1 := R_neL b31 (by decide : B 0 0 0) c32 (by decide)
    have b36 : B v22 0 159 := p31_0 c32
    have b37 : B f2 0 158 := B.inter b16 (R_bk (l' := (-1)) (u' := 158) e22 b36 (by decide : B 1 1 1) (by decide) (by decide)) (by decide) (by decide)
    have b38 : B t27 48 57 := p31_1 c32
    have z39 := w_ne c32
    rw [show (0 : Int32).toInt = 0 from by decide] at z39
    refine ev_aload_n rfl rfl rfl ?_
    refine ev_aload_n rfl rfl rfl ?_
    refine ev_getV (v := v20) rfl rfl fl_X2_28 rfl rfl rfl (rd_o k24 (rd_s k21) rfl) ?_
    refine ev_bipush (v := 10) rfl rfl (by decide) ?_
    refine ev_imulB (l := 0) (u := 90) rfl rfl b20 (by decide : B 10 10 10) (by decide) (by decide) (by decide) (by decide) (by decide) (fun v61 b61 e61 g61 => ?_)
    rw [show (10 : Int32).toInt = 10 from by decide] at e61
    refine ev_aload_n rfl rfl rfl ?_
    refine ev_getR (y := 24) rfl rfl fl_X2_11 rfl rfl rfl rfl ?_
    refine ev_aload_n rfl rfl rfl ?_
    refine ev_getV (v := v22) rfl rfl fl_X2_19 rfl rfl rfl (rd_s k24) ?_
    refine ev_badV (v := t27) rfl rfl rfl (b36.vp (by decide) (by decide)) rfl et27 ?_
    refine ev_iaddB (l := 48) (u := 147) rfl rfl b61 b38 (by decide) (by decide) (by decide) (by decide) (fun v62 b62 e62 g62 => ?_)
    refine ev_bipush (v := 48) rfl rfl (by decide) ?_
    refine ev_isubB (l := 0) (u := 99) rfl rfl b62 (by decide : B 48 48 48) (by decide) (by decide) (by decide) (by decide) (fun v63 b63 e63 g63 => ?_)
    have e63x := e63; rw [show (48 : Int32).toInt = 48 from by decide] at e63x
    refine ev_putW (l := 0) (u := 4095) hJ24 rfl b63 (by decide) (by decide) rfl rfl rfl fl_X2_28 rfl rfl rfl rfl rfl (fun h64 hJ64 k64 => ?_)
    refine ev_aload_n rfl rfl rfl ?_
    refine ev_dup rfl rfl rfl ?_
    refine ev_getV (v := v22) rfl rfl fl_X2_19 rfl rfl rfl (rd_o k64 (rd_s k24) rfl) ?_
    refine ev_iconst (v := 1) rfl rfl (by decide) ?_
    refine ev_iaddB (l := 1) (u := 160) rfl rfl b36 (by decide : B 1 1 1) (by decide) (by decide) (by decide) (by decide) (fun v65 b65 e65 g65 => ?_)
    have e65x := e65; rw [show (1 : Int32).toInt = 1 from by decide] at e65x
    have b66 : B v65 0 160 := ⟨(by have z0_ := congrArg Int32.toInt (rd_o k64 (rd_o k24 (rd_o k21 (rd_o k5 (rd_o k4 ef1 rfl) rfl) rfl) rfl) rfl); have z1_ := congrArg Int32.toInt (rd_o k64 (rd_s k24) rfl); have z2_ := congrArg Int32.toInt (rd_o k64 (rd_o k24 (rd_o k21 (rd_o k5 (rd_o k4 ef3 rfl) rfl) rfl) rfl) rfl); have z_ := w_lits; have zl_ := l_lits; omega), (by have z0_ := congrArg Int32.toInt (rd_o k64 (rd_o k24 (rd_o k21 (rd_o k5 (rd_o k4 ef1 rfl) rfl) rfl) rfl) rfl); have z1_ := congrArg Int32.toInt (rd_o k64 (rd_s k24) rfl); have z2_ := congrArg Int32.toInt (rd_o k64 (rd_o k24 (rd_o k21 (rd_o k5 (rd_o k4 ef3 rfl) rfl) rfl) rfl) rfl); have z_ := w_lits; have zl_ := l_lits; omega)⟩
    refine ev_putW (l := 0) (u := 160) hJ64 rfl b66 (by decide) (by decide) rfl rfl rfl fl_X2_19 rfl rfl rfl rfl rfl (fun h67 hJ67 k67 => ?_)
    refine ev_iincL (v := 2) (y := 1) rfl rfl rfl (by decide) rfl rfl (by decide) ?_
    dsimp only [List.set]
    refine ev_goto rfl rfl ?_
    refine ev_iload_n rfl rfl rfl ?_
    refine ev_iconst (v := 2) rfl rfl (by decide) ?_
    refine ev_icmp_ge rfl rfl (fun c68 => ?_) (fun c68 => absurd (D_le (by decide : B 2 2 2) (by decide : B 2 2 2) (by decide)) c68)
    have z69 := w_le c68
    rw [show (2 : Int32).toInt = 2 from by decide] at z69
    refine ev_aload_n rfl rfl rfl ?_
    refine ev_aload_n rfl rfl rfl ?_
    refine ev_getV (v := v65) rfl rfl fl_X2_19 rfl rfl rfl (rd_s k67) ?_
    obtain ⟨t70, et70⟩ : ∃ f_, h67 24 (Int32.toNatClampNeg v65) = f_ := ⟨_, rfl⟩
    have z71 := congrArg Int32.toInt (rd_o k67 (rd_o k64 (rd_o k24 (rd_o k21 (rd_o k5 (rd_o k4 ef1 rfl) rfl) rfl) rfl) rfl) rfl)
    have z72 := congrArg Int32.toInt (rd_s k67)
    have z73 := congrArg Int32.toInt (rd_o k67 (rd_o k64 (rd_o k24 (rd_o k21 (rd_o k5 (rd_o k4 ef3 rfl) rfl) rfl) rfl) rfl) rfl)
    refine ev_V1P rfl rfl lk_X2_70 vt_X2_isFigure rfl rfl rfl rfl rfl (w_X2_isFigure_23 L b h67 hJ67.1 v65 b66 t70 et70) (fun r74 q74 => ?_)
    obtain ⟨b74, p74_0, p74_1, pp74_0, pp74_1⟩ := q74
    refine ev_if_eq rfl rfl (fun c75 => ?_) (fun c75 => ?_)
    · have b76 : B r74 0 0 := R_eqX b74 (by decide : B 0 0 0) c75
      have z77 := congrArg Int32.toInt c75
      rw [show (0 : Int32).toInt = 0 from by decide] at z77
      exact ev_vret rfl rfl trivial ⟨rfl, rfl, hJ67, (by have z0_ := congrArg Int32.toInt (rd_o k67 (rd_o k64 (rd_o k24 (rd_o k21 (rd_o k5 (rd_o k4 ef1 rfl) rfl) rfl) rfl) rfl) rfl); have z1_ := congrArg Int32.toInt (rd_s k67); have z2_ := congrArg Int32.toInt (rd_o k67 (rd_o k64 (rd_o k24 (rd_o k21 (rd_o k5 (rd_o k4 ef3 rfl) rfl) rfl) rfl) rfl) rfl); have z_ := w_lits; have zl_ := l_lits; omega), (by have z0_ := congrArg Int32.toInt (rd_o k67 (rd_o k64 (rd_o k24 (rd_o k21 (rd_o k5 (rd_o k4 ef1 rfl) rfl) rfl) rfl) rfl) rfl); have z1_ := congrArg Int32.toInt (rd_s k67); have z2_ := congrArg Int32.toInt (rd_o k67 (rd_o k64 (rd_o k24 (rd_o k21 (rd_o k5 (rd_o k4 ef3 rfl) rfl) rfl) rfl) rfl) rfl); have z_ := w_lits; have zl_ := l_lits; omega)⟩
    · have b78 : B r74 1 1 := R_neL b74 (by decide : B 0 0 0) c75 (by decide)
      have b79 : B v65 0 159 := p74_0 c75
      have b80 : B v22 0 158 := B.inter b36 (R_bk (l' := (-1)) (u' := 158) e65 b79 (by decide : B 1 1 1) (by decide) (by decide)) (by decide) (by decide)
      have b81 : B f2 0 157 := B.inter b37 (R_bk (l' := (-1)) (u' := 157) e22 b80 (by decide : B 1 1 1) (by decide) (by decide)) (by decide) (by decide)
      have b82 : B t70 48 57 := p74_1 c75
      have z83 := w_ne c75
      rw [show (0 : Int32).toInt = 0 from by decide] at z83
      refine ev_aload_n rfl rfl rfl ?_
      refine ev_iconst (v := 1) rfl rfl (by decide) ?_
      refine ev_aload_n rfl rfl rfl ?_
      refine ev_getW (l := (-2147483648)) (u := 2147483647) hJ67.1 rfl rfl rfl fl_X2_25 rfl rfl rfl (fun v84 b84 e84 => ?_)
      have z85 := congrArg Int32.toInt (rd_o k67 (rd_o k64 (rd_o k24 (rd_o k21 (rd_o k5 (rd_o k4 ef1 rfl) rfl) rfl) rfl) rfl) rfl)
      have z86 := congrArg Int32.toInt (rd_s k67)
      have z87 := congrArg Int32.toInt (rd_o k67 (rd_o k64 (rd_o k24 (rd_o k21 (rd_o k5 (rd_o k4 ef3 rfl) rfl) rfl) rfl) rfl) rfl)
      refine ev_V2K hJ67 rfl rfl rfl lk_X2_79 vt_X2_fail rfl rfl rfl rfl rfl (w_X2_fail_23 L b h67 hJ67.1 1 v84) (fun h88 hJ88 k88 m88 => ?_)
      obtain ⟨f89, ef89⟩ : ∃ f_, h88 23 7 = f_ := ⟨_, rfl⟩
      have bf89 : B f89 (-2147483648) 2147483647 := by have z_ := hJ88.1 23 7; rw [ef89] at z_; exact z_
      have zf89 := congrArg Int32.toInt ef89
      have z90 := congrArg Int32.toInt (rd_w k88 (rd_o k67 (rd_o k64 (rd_o k24 (rd_o k21 (rd_o k5 (rd_o k4 ef1 rfl) rfl) rfl) rfl) rfl) rfl) rfl)
      have z91 := congrArg Int32.toInt (rd_w k88 (rd_s k67) rfl)
      have z92 := congrArg Int32.toInt ef89
      exact ev_vret rfl rfl trivial ⟨rfl, rfl, hJ88, (by have z0_ := congrArg Int32.toInt (rd_w k88 (rd_o k67 (rd_o k64 (rd_o k24 (rd_o k21 (rd_o k5 (rd_o k4 ef1 rfl) rfl) rfl) rfl) rfl) rfl) rfl); have z1_ := congrArg Int32.toInt (rd_w k88 (rd_s k67) rfl); have z2_ := congrArg Int32.toInt ef89; have z_ := w_lits; have zl_ := l_lits; omega), (by have z0_ := congrArg Int32.toInt (rd_w k88 (rd_o k67 (rd_o k64 (rd_o k24 (rd_o k21 (rd_o k5 (rd_o k4 ef1 rfl) rfl) rfl) rfl) rfl) rfl) rfl); have z1_ := congrArg Int32.toInt (rd_w k88 (rd_s k67) rfl); have z2_ := congrArg Int32.toInt ef89; have z_ := w_lits; have zl_ := l_lits; omega)⟩

set_option maxRecDepth 100000 in
set_option maxHeartbeats 4000000 in
theorem w_X2_readChord_23 (L : Nat) (b : Bool) (h : Hp) (hB : Bx h) (t : Int32) (rt : h 24 (h 23 2).toNatClampNeg = t) (rb : B t 97 122) (rp0 : (h 23 2).toInt < (h 23 1).toInt) : EvK mi_X2_readChord [.ref 23] (G0 L b) h (fun z : Hp => ((z 23 2).toInt ≤ (z 23 1).toInt) ∧ ((¬ (z 23 7).toInt = 0) ∨ (h 23 2).toInt + 1 ≤ (z 23 2).toInt)) [(23, 2), (23, 3), (23, 5), (23, 6), (23, 7), (23, 8)] := by
  refine EvM.of2 (lo := [some (.ref 23), none, none]) pf_X2_readChord ok_X2_readChord rfl rfl ?_
  have hJ0 : JW [(23, 2), (23, 3), (23, 5), (23, 6), (23, 7), (23, 8)] h h := JW.refl hB
  obtain ⟨f1, ef1⟩ : ∃ f_, h 23 1 = f_ := ⟨_, rfl⟩
  have bf1 : B f1 0 160 := by have z_ := hJ0.1 23 1; rw [ef1] at z_; exact z_
  have zf1 := congrArg Int32.toInt ef1
  obtain ⟨f2, ef2⟩ : ∃ f_, h 23 2 = f_ := ⟨_, rfl⟩
  have bf2 : B f2 0 160 := by have z_ := hJ0.1 23 2; rw [ef2] at z_; exact z_
  have zf2 := congrArg Int32.toInt ef2
  obtain ⟨f3, ef3⟩ : ∃ f_, h 23 7 = f_ := ⟨_, rfl⟩
  have bf3 : B f3 (-2147483648) 2147483647 := by have z_ := hJ0.1 23 7; rw [ef3] at z_; exact z_
  have zf3 := congrArg Int32.toInt ef3
  rw [ef2] at rt
  refine ev_aload_n rfl rfl rfl ?_
  refine ev_iconst (v := 1) rfl rfl (by decide) ?_
  refine ev_putW (l := (-2147483648)) (u := 2147483647) hJ0 rfl (by decide : B 1 1 1) (by decide) (by decide) rfl rfl rfl fl_X2_22 rfl rfl rfl rfl rfl (fun h4 hJ4 k4 => ?_)
  refine ev_aload_n rfl rfl rfl ?_
  refine ev_iconst (v := 0) rfl rfl (by decide) ?_
  refine ev_putW (l := 0) (u := 4095) hJ4 rfl (by decide : B 0 0 0) (by decide) (by decide) rfl rfl rfl fl_X2_28 rfl rfl rfl rfl rfl (fun h5 hJ5 k5 => ?_)
  refine ev_aload_n rfl rfl rfl ?_
  refine ev_iconst (v := (-1)) rfl rfl (by decide) ?_
  refine ev_putW (l := (-2147483648)) (u := 2147483647) hJ5 rfl (by decide : B (-1) (-1) (-1)) (by decide) (by decide) rfl rfl rfl fl_X2_31 rfl rfl rfl rfl rfl (fun h6 hJ6 k6 => ?_)
  refine ev_iconst (v := 0) rfl rfl (by decide) ?_
  refine ev_istore_n rfl rfl rfl rfl ?_
  dsimp only [List.set]
  refine ev_iload_n rfl rfl rfl ?_
  refine ev_iconst (v := 5) rfl rfl (by decide) ?_
  refine ev_icmp_gt rfl rfl (fun c7 => absurd c7 (D_nlt (by decide : B 5 5 5) (by decide : B 0 0 0) (by decide))) (fun c7 => ?_)
  have z8 := w_le (Int32.not_lt.mp c7)
  rw [show (0 : Int32).toInt = 0 from by decide] at z8
  rw [show (5 : Int32).toInt = 5 from by decide] at z8
  refine ev_aload_n rfl rfl rfl ?_
  refine ev_aload_n rfl rfl rfl ?_
  refine ev_getV (v := f2) rfl rfl fl_X2_19 rfl rfl rfl (rd_o k6 (rd_o k5 (rd_o k4 ef2 rfl) rfl) rfl) ?_
  have z9 := congrArg Int32.toInt (rd_o k6 (rd_o k5 (rd_o k4 ef1 rfl) rfl) rfl)
  have z10 := congrArg Int32.toInt (rd_o k6 (rd_o k5 (rd_o k4 ef2 rfl) rfl) rfl)
  have z11 := congrArg Int32.toInt (rd_o k6 (rd_o k5 (rd_o k4 ef3 rfl) rfl) rfl)
  refine ev_V1P rfl rfl lk_X2_63 vt_X2_isLetter rfl rfl rfl rfl rfl (w_X2_isLetter_23 L b h6 hJ6.1 f2 bf2 t (rd_o k6 (rd_o k5 (rd_o k4 rt rfl) rfl) rfl)) (fun r12 q12 => ?_)
  obtain ⟨b12, p12_0, p12_1, pp12_0, pp12_1⟩ := q12
  refine ev_if_eq rfl rfl (fun c13 => False.elim (by have z0_ := congrArg Int32.toInt (rd_o k6 (rd_o k5 (rd_o k4 ef1 rfl) rfl) rfl); have z1_ := congrArg Int32.toInt (rd_o k6 (rd_o k5 (rd_o k4 ef2 rfl) rfl) rfl); have z2_ := congrArg Int32.toInt (rd_o k6 (rd_o k5 (rd_o k4 ef3 rfl) rfl) rfl); have z3_ := congrArg Int32.toInt c13; have z_ := w_lits; have zl_ := l_lits; omega)) (fun c13 => ?_)
  have b16 : B r12 1 1 := R_neL b12 (by decide : B 0 0 0) c13 (by decide)
  have b17 : B f2 0 159 := p12_0 c13
  have z18 := w_ne c13
  rw [show (0 : Int32).toInt = 0 from by decide] at z18
  refine ev_aload_n rfl rfl rfl ?_
  refine ev_getR (y := 24) rfl rfl fl_X2_11 rfl rfl rfl rfl ?_
  refine ev_aload_n rfl rfl rfl ?_
  refine ev_getV (v := f2) rfl rfl fl_X2_19 rfl rfl rfl (rd_o k6 (rd_o k5 (rd_o k4 ef2 rfl) rfl) rfl) ?_
  refine ev_badV (v := t) rfl rfl rfl (b17.vp (by decide) (by decide)) rfl (rd_o k6 (rd_o k5 (rd_o k4 rt rfl) rfl) rfl) ?_
  refine ev_bipush (v := 97) rfl rfl (by decide) ?_
  refine ev_isubB (l := 0) (u := 25) rfl rfl rb (by decide : B 97 97 97) (by decide) (by decide) (by decide) (by decide) (fun v19 b19 e19 g19 => ?_)
  have e19x := e19; rw [show (97 : Int32).toInt = 97 from by decide] at e19x
  refine ev_istore_n rfl rfl rfl rfl ?_
  dsimp only [List.set]
  refine ev_iload_n rfl rfl rfl ?_
  refine ev_bipush (v := 12) rfl rfl (by decide) ?_
  refine ev_icmp_lt rfl rfl (fun c20 => ?_) (fun c20 => ?_)
  · have b21 : B v19 0 11 := R_ltX b19 (by decide : B 12 12 12) c20 (by decide)
    have b22 : B t 97 108 := (R_bks (l' := 97) (u' := 108) e19 b21 (by decide : B 97 97 97) (by decide) (by decide))
    have z23 := w_lt c20
    rw [show (12 : Int32).toInt = 12 from by decide] at z23
    refine ev_aload_n rfl rfl rfl ?_
    refine ev_getV (v := 0) rfl rfl fl_X2_28 rfl rfl rfl (rd_o k6 (rd_s k5) rfl) ?_
    refine ev_iload_n rfl rfl rfl ?_
    refine ev_ishr0 rfl rfl ?_
    refine ev_iconst (v := 1) rfl rfl (by decide) ?_
    refine ev_iand0 rfl rfl ?_
    refine ev_if_ne rfl rfl (fun c29 => absurd (D_eq (by decide : B 0 0 0) (by decide : B 0 0 0)) c29) (fun c29 => ?_)
    have z30 := congrArg Int32.toInt c29
    rw [show (0 : Int32).toInt = 0 from by decide] at z30
    refine ev_iload_n rfl rfl rfl ?_
    refine ev_iconst (v := 5) rfl rfl (by decide) ?_
    refine ev_icmp_ne rfl rfl (fun c31 => ?_) (fun c31 => absurd c31 (D_ne (by decide : B 0 0 0) (by decide : B 5 5 5) (by decide)))
    have z32 := w_ne c31
    rw [show (0 : Int32).toInt = 0 from by decide] at z32
    rw [show (5 : Int32).toInt = 5 from by decide] at z32
    refine ev_aload_n rfl rfl rfl ?_
    refine ev_dup rfl rfl rfl ?_
    refine ev_getV (v := 0) rfl rfl fl_X2_28 rfl rfl rfl (rd_o k6 (rd_s k5) rfl) ?_
    refine ev_iconst (v := 1) rfl rfl (by decide) ?_
    refine ev_iload_n rfl rfl rfl ?_
    refine ev_ishlB rfl rfl b21 (by decide) (by decide) (fun v33 b33 => ?_)
    refine ev_iorB 12 (u := 4095) rfl rfl (by decide : B 0 0 0) b33 (by decide) (by decide) (by decide) (by decide) (by decide) (by decide) (fun v34 b34 e34 => ?_)
    refine ev_putW (l := 0) (u := 4095) hJ6 rfl b34 (by decide) (by decide) rfl rfl rfl fl_X2_28 rfl rfl rfl rfl rfl (fun h35 hJ35 k35 => ?_)
    refine ev_aload_n rfl rfl rfl ?_
    refine ev_dup rfl rfl rfl ?_
    refine ev_getV (v := f2) rfl rfl fl_X2_19 rfl rfl rfl (rd_o k35 (rd_o k6 (rd_o k5 (rd_o k4 ef2 rfl) rfl) rfl) rfl) ?_
    refine ev_iconst (v := 1) rfl rfl (by decide) ?_
    refine ev_iaddB (l := 1) (u := 160) rfl rfl b17 (by decide : B 1 1 1) (by decide) (by decide) (by decide) (by decide) (fun v36 b36 e36 g36 => ?_)
    have e36x := e36; rw [show (1 : Int32).toInt = 1 from by decide] at e36x
    have b37 : B v36 0 160 := ⟨(by have z0_ := congrArg Int32.toInt (rd_o k35 (rd_o k6 (rd_o k5 (rd_o k4 ef1 rfl) rfl) rfl) rfl); have z1_ := congrArg Int32.toInt (rd_o k35 (rd_o k6 (rd_o k5 (rd_o k4 ef2 rfl) rfl) rfl) rfl); have z2_ := congrArg Int32.toInt (rd_o k35 (rd_o k6 (rd_o k5 (rd_o k4 ef3 rfl) rfl) rfl) rfl); have z_ := w_lits; have zl_ := l_lits; omega), (by have z0_ := congrArg Int32.toInt (rd_o k35 (rd_o k6 (rd_o k5 (rd_o k4 ef1 rfl) rfl) rfl) rfl); have z1_ := congrArg Int32.toInt (rd_o k35 (rd_o k6 (rd_o k5 (rd_o k4 ef2 rfl) rfl) rfl) rfl); have z2_ := congrArg Int32.toInt (rd_o k35 (rd_o k6 (rd_o k5 (rd_o k4 ef3 rfl) rfl) rfl) rfl); have z_ := w_lits; have zl_ := l_lits; omega)⟩
    refine ev_putW (l := 0) (u := 160) hJ35 rfl b37 (by decide) (by decide) rfl rfl rfl fl_X2_19 rfl rfl rfl rfl rfl (fun h38 hJ38 k38 => ?_)
    refine ev_iincL (v := 1) (y := 1) rfl rfl rfl (by decide) rfl rfl (by decide) ?_
    dsimp only [List.set]
    refine ev_goto rfl rfl ?_
    have lp17_268 : ∀ (n : Nat) (w269 : Int32) (w270 : Int32) (h273 : Hp), B w269 1 5 → B w270 0 11 → JW [(23, 2), (23, 3), (23, 5), (23, 6), (23, 7), (23, 8)] h h273 → (h273 23 1 = f1) → (h273 23 7 = f3) → (h273 24 (Int32.toNatClampNeg f2) = t) → (h273 23 3 = 1) → (h273 23 6 = (-1)) → ((h 23 2).toInt + 1 ≤ (h273 23 2).toInt) → ((h273 23 2).toInt ≤ (h273 23 1).toInt) → 5 + 1 - w269.toInt ≤ (n : Int) → EvQ mi_X2_readChord 17 [some (.ref 23), some (.int w269), some (.int w270)] [] (G0 L b) h273 0 0 (QK (fun z : Hp => ((z 23 2).toInt ≤ (z 23 1).toInt) ∧ ((¬ (z 23 7).toInt = 0) ∨ (h 23 2).toInt + 1 ≤ (z 23 2).toInt)) [(23, 2), (23, 3), (23, 5), (23, 6), (23, 7), (23, 8)] (G0 L b) h) := by
      intro n
      induction n with
      | zero =>
        intro w269 w270 h273 b271 b272 hJ274 z275 z276 z277 z278 z279 y17_0 y17_1 hm17
        exact absurd hm17 (L_zero b271 (by decide))
      | succ n ih17 =>
        intro w269 w270 h273 b271 b272 hJ274 z275 z276 z277 z278 z279 y17_0 y17_1 hm17
        obtain ⟨f280, ef280⟩ : ∃ f_, h273 23 2 = f_ := ⟨_, rfl⟩
        have bf280 : B f280 0 160 := by have z_ := hJ274.1 23 2; rw [ef280] at z_; exact z_
        have zf280 := congrArg Int32.toInt ef280
        have z281 := congrArg Int32.toInt z275
        have z282 := congrArg Int32.toInt ef280
        have z283 := congrArg Int32.toInt z276
        refine ev_iload_n rfl rfl rfl ?_
        refine ev_iconst (v := 5) rfl rfl (by decide) ?_
        refine ev_icmp_gt rfl rfl (fun c284 => absurd c284 (D_nlt (by decide : B 5 5 5) b271 (by decide))) (fun c284 => ?_)
        have z285 := w_le (Int32.not_lt.mp c284)
        rw [show (5 : Int32).toInt = 5 from by decide] at z285
        refine ev_aload_n rfl rfl rfl ?_
        refine ev_aload_n rfl rfl rfl ?_
        refine ev_getV (v := f280) rfl rfl fl_X2_19 rfl rfl rfl ef280 ?_
        obtain ⟨t286, et286⟩ : ∃ f_, h273 24 (Int32.toNatClampNeg f280) = f_ := ⟨_, rfl⟩
        have z287 := congrArg Int32.toInt z275
        have z288 := congrArg Int32.toInt ef280
        have z289 := congrArg Int32.toInt z276
        refine ev_V1P rfl rfl lk_X2_63 vt_X2_isLetter rfl rfl rfl rfl rfl (w_X2_isLetter_23 L b h273 hJ274.1 f280 bf280 t286 et286) (fun r290 q290 => ?_)
        obtain ⟨b290, p290_0, p290_1, pp290_0, pp290_1⟩ := q290
        refine ev_if_eq rfl rfl (fun c291 => ?_) (fun c291 => ?_)
        · have b292 : B r290 0 0 := R_eqX b290 (by decide : B 0 0 0) c291
          have z293 := congrArg Int32.toInt c291
          rw [show (0 : Int32).toInt = 0 from by decide] at z293
          exact ev_vret rfl rfl trivial ⟨rfl, rfl, hJ274, (by have z0_ := congrArg Int32.toInt z275; have z1_ := congrArg Int32.toInt ef280; have z2_ := congrArg Int32.toInt z276; have z_ := w_lits; have zl_ := l_lits; omega), (by have z0_ := congrArg Int32.toInt z275; have z1_ := congrArg Int32.toInt ef280; have z2_ := congrArg Int32.toInt z276; have z_ := w_lits; have zl_ := l_lits; omega)⟩
        · have b294 : B r290 1 1 := R_neL b290 (by decide : B 0 0 0) c291 (by decide)
          have b295 : B f280 0 159 := p290_0 c291
          have b296 : B t286 97 122 := p290_1 c291
          have z297 := w_ne c291
          rw [show (0 : Int32).toInt = 0 from by decide] at z297
          refine ev_aload_n rfl rfl rfl ?_
          refine ev_getR (y := 24) rfl rfl fl_X2_11 rfl rfl rfl rfl ?_
          refine ev_aload_n rfl rfl rfl ?_
          refine ev_getV (v := f280) rfl rfl fl_X2_19 rfl rfl rfl ef280 ?_
          refine ev_badV (v := t286) rfl rfl rfl (b295.vp (by decide) (by decide)) rfl et286 ?_
          refine ev_bipush (v := 97) rfl rfl (by decide) ?_
          refine ev_isubB (l := 0) (u := 25) rfl rfl b296 (by decide : B 97 97 97) (by decide) (by decide) (by decide) (by decide) (fun v298 b298 e298 g298 => ?_)
          have e298x := e298; rw [show (97 : Int32).toInt = 97 from by decide] at e298x
          refine ev_istore_n rfl rfl rfl rfl ?_
          dsimp only [List.set]
          refine ev_iload_n rfl rfl rfl ?_
          refine ev_bipush (v := 12) rfl rfl (by decide) ?_
          refine ev_icmp_lt rfl rfl (fun c299 => ?_) (fun c299 => ?_)
          · have b300 : B v298 0 11 := R_ltX b298 (by decide : B 12 12 12) c299 (by decide)
            have b301 : B t286 97 108 := (R_bks (l' := 97) (u' := 108) e298 b300 (by decide : B 97 97 97) (by decide) (by decide))
            have z302 := w_lt c299
            rw [show (12 : Int32).toInt = 12 from by decide] at z302
            refine ev_aload_n rfl rfl rfl ?_
            refine ev_getW (l := 0) (u := 4095) hJ274.1 rfl rfl rfl fl_X2_28 rfl rfl rfl (fun v306 b306 e306 => ?_)
            refine ev_iload_n rfl rfl rfl ?_
            refine ev_ishrA rfl rfl (fun v307 => ?_)
            refine ev_iconst (v := 1) rfl rfl (by decide) ?_
            refine ev_iandB rfl rfl (by decide : B 1 1 1) (by decide) (fun v308 b308 e308 => ?_)
            refine ev_if_ne rfl rfl (fun c309 => ?_) (fun c309 => ?_)
            · have b310 : B v308 1 1 := R_neL b308 (by decide : B 0 0 0) c309 (by decide)
              have z311 := w_ne c309
              rw [show (0 : Int32).toInt = 0 from by decide] at z311
              refine ev_aload_n rfl rfl rfl ?_
              refine ev_aload_n rfl rfl rfl ?_
              refine ev_getV (v := f280) rfl rfl fl_X2_19 rfl rfl rfl ef280 ?_
              refine ev_putW (l := (-2147483648)) (u := 2147483647) hJ274 rfl b295 (by decide) (by decide) rfl rfl rfl fl_X2_31 rfl rfl rfl rfl rfl (fun h314 hJ314 k314 => ?_)
              exact ev_vret rfl rfl trivial ⟨rfl, rfl, hJ314, (by have z0_ := congrArg Int32.toInt (rd_o k314 z275 rfl); have z1_ := congrArg Int32.toInt (rd_o k314 ef280 rfl); have z2_ := congrArg Int32.toInt (rd_o k314 z276 rfl); have z_ := w_lits; have zl_ := l_lits; omega), (by have z0_ := congrArg Int32.toInt (rd_o k314 z275 rfl); have z1_ := congrArg Int32.toInt (rd_o k314 ef280 rfl); have z2_ := congrArg Int32.toInt (rd_o k314 z276 rfl); have z_ := w_lits; have zl_ := l_lits; omega)⟩
            · have b312 : B v308 0 0 := R_eqX b308 (by decide : B 0 0 0) c309
              have z313 := congrArg Int32.toInt c309
              rw [show (0 : Int32).toInt = 0 from by decide] at z313
              refine ev_iload_n rfl rfl rfl ?_
              refine ev_iconst (v := 5) rfl rfl (by decide) ?_
              refine ev_icmp_ne rfl rfl (fun c315 => ?_) (fun c315 => ?_)
              · have b316 : B w269 1 4 := R_neU b271 (by decide : B 5 5 5) c315 (by decide)
                have z317 := w_ne c315
                rw [show (5 : Int32).toInt = 5 from by decide] at z317
                refine ev_aload_n rfl rfl rfl ?_
                refine ev_dup rfl rfl rfl ?_
                refine ev_getV (v := v306) rfl rfl fl_X2_28 rfl rfl rfl e306 ?_
                refine ev_iconst (v := 1) rfl rfl (by decide) ?_
                refine ev_iload_n rfl rfl rfl ?_
                refine ev_ishlB rfl rfl b300 (by decide) (by decide) (fun v320 b320 => ?_)
                refine ev_iorB 12 (u := 4095) rfl rfl b306 b320 (by decide) (by decide) (by decide) (by decide) (by decide) (by decide) (fun v321 b321 e321 => ?_)
                refine ev_putW (l := 0) (u := 4095) hJ274 rfl b321 (by decide) (by decide) rfl rfl rfl fl_X2_28 rfl rfl rfl rfl rfl (fun h322 hJ322 k322 => ?_)
                refine ev_aload_n rfl rfl rfl ?_
                refine ev_dup rfl rfl rfl ?_
                refine ev_getV (v := f280) rfl rfl fl_X2_19 rfl rfl rfl (rd_o k322 ef280 rfl) ?_
                refine ev_iconst (v := 1) rfl rfl (by decide) ?_
                refine ev_iaddB (l := 1) (u := 160) rfl rfl b295 (by decide : B 1 1 1) (by decide) (by decide) (by decide) (by decide) (fun v323 b323 e323 g323 => ?_)
                have e323x := e323; rw [show (1 : Int32).toInt = 1 from by decide] at e323x
                have b324 : B v323 0 160 := ⟨(by have z0_ := congrArg Int32.toInt (rd_o k322 z275 rfl); have z1_ := congrArg Int32.toInt (rd_o k322 ef280 rfl); have z2_ := congrArg Int32.toInt (rd_o k322 z276 rfl); have z_ := w_lits; have zl_ := l_lits; omega), (by have z0_ := congrArg Int32.toInt (rd_o k322 z275 rfl); have z1_ := congrArg Int32.toInt (rd_o k322 ef280 rfl); have z2_ := congrArg Int32.toInt (rd_o k322 z276 rfl); have z_ := w_lits; have zl_ := l_lits; omega)⟩
                refine ev_putW (l := 0) (u := 160) hJ322 rfl b324 (by decide) (by decide) rfl rfl rfl fl_X2_19 rfl rfl rfl rfl rfl (fun h325 hJ325 k325 => ?_)
                refine ev_iincB (y := 1) (l := 2) (u := 5) rfl rfl rfl (by decide) rfl rfl b316 (by decide : B 1 1 1) (by decide) (by decide) (by decide) (by decide) (fun v326 b326 e326 => ?_)
                dsimp only [List.set]
                have e326x := e326; rw [show (1 : Int32).toInt = 1 from by decide] at e326x
                refine ev_goto rfl rfl ?_
                exact (ih17 v326 v298 h325 (b326.mono (by decide) (by decide)) b300 hJ325 (rd_o k325 (rd_o k322 z275 rfl) rfl) (rd_o k325 (rd_o k322 z276 rfl) rfl) (rd_o k325 (rd_o k322 z277 rfl) rfl) (rd_o k325 (rd_o k322 z278 rfl) rfl) (rd_o k325 (rd_o k322 z279 rfl) rfl) (by have z0_ := congrArg Int32.toInt (rd_o k325 (rd_o k322 z275 rfl) rfl); have z1_ := congrArg Int32.toInt (rd_s k325); have z2_ := congrArg Int32.toInt (rd_o k325 (rd_o k322 z276 rfl) rfl); have z_ := w_lits; have zl_ := l_lits; omega) (by have z0_ := congrArg Int32.toInt (rd_o k325 (rd_o k322 z275 rfl) rfl); have z1_ := congrArg Int32.toInt (rd_s k325); have z2_ := congrArg Int32.toInt (rd_o k325 (rd_o k322 z276 rfl) rfl); have z_ := w_lits; have zl_ := l_lits; omega) (L_up hm17 (e_p1 e326 (by decide))))
              · have b318 : B w269 5 5 := R_eqX b271 (by decide : B 5 5 5) c315
                have z319 := congrArg Int32.toInt c315
                rw [show (5 : Int32).toInt = 5 from by decide] at z319
                refine ev_aload_n rfl rfl rfl ?_
                refine ev_aload_n rfl rfl rfl ?_
                refine ev_getV (v := f280) rfl rfl fl_X2_19 rfl rfl rfl ef280 ?_
                refine ev_putW (l := (-2147483648)) (u := 2147483647) hJ274 rfl b295 (by decide) (by decide) rfl rfl rfl fl_X2_31 rfl rfl rfl rfl rfl (fun h327 hJ327 k327 => ?_)
                exact ev_vret rfl rfl trivial ⟨rfl, rfl, hJ327, (by have z0_ := congrArg Int32.toInt (rd_o k327 z275 rfl); have z1_ := congrArg Int32.toInt (rd_o k327 ef280 rfl); have z2_ := congrArg Int32.toInt (rd_o k327 z276 rfl); have z_ := w_lits; have zl_ := l_lits; omega), (by have z0_ := congrArg Int32.toInt (rd_o k327 z275 rfl); have z1_ := congrArg Int32.toInt (rd_o k327 ef280 rfl); have z2_ := congrArg Int32.toInt (rd_o k327 z276 rfl); have z_ := w_lits; have zl_ := l_lits; omega)⟩
          · have b303 : B v298 12 25 := R_leY (by decide : B 12 12 12) b298 (Int32.not_lt.mp c299) (by decide)
            have b304 : B t286 109 122 := (R_bks (l' := 109) (u' := 122) e298 b303 (by decide : B 97 97 97) (by decide) (by decide))
            have z305 := w_le (Int32.not_lt.mp c299)
            rw [show (12 : Int32).toInt = 12 from by decide] at z305
            refine ev_aload_n rfl rfl rfl ?_
            refine ev_iconst (v := 1) rfl rfl (by decide) ?_
            refine ev_aload_n rfl rfl rfl ?_
            refine ev_getV (v := f280) rfl rfl fl_X2_19 rfl rfl rfl ef280 ?_
            have z328 := congrArg Int32.toInt z275
            have z329 := congrArg Int32.toInt ef280
            have z330 := congrArg Int32.toInt z276
            refine ev_V2K hJ274 rfl rfl rfl lk_X2_79 vt_X2_fail rfl rfl rfl rfl rfl (w_X2_fail_23 L b h273 hJ274.1 1 f280) (fun h331 hJ331 k331 m331 => ?_)
            obtain ⟨f332, ef332⟩ : ∃ f_, h331 23 7 = f_ := ⟨_, rfl⟩
            have bf332 : B f332 (-2147483648) 2147483647 := by have z_ := hJ331.1 23 7; rw [ef332] at z_; exact z_
            have zf332 := congrArg Int32.toInt ef332
            have z333 := congrArg Int32.toInt (rd_w k331 z275 rfl)
            have z334 := congrArg Int32.toInt (rd_w k331 ef280 rfl)
            have z335 := congrArg Int32.toInt ef332
            exact ev_vret rfl rfl trivial ⟨rfl, rfl, hJ331, (by have z0_ := congrArg Int32.toInt (rd_w k331 z275 rfl); have z1_ := congrArg Int32.toInt (rd_w k331 ef280 rfl); have z2_ := congrArg Int32.toInt ef332; have z_ := w_lits; have zl_ := l_lits; omega), (by have z0_ := congrArg Int32.toInt (rd_w k331 z275 rfl); have z1_ := congrArg Int32.toInt (rd_w k331 ef280 rfl); have z2_ := congrArg Int32.toInt ef332; have z_ := w_lits; have zl_ := l_lits; omega)⟩
    exact (lp17_268 5 1 v19 h38 ((by decide : B 1 1 1).mono (by decide) (by decide)) b21 hJ38 (rd_o k38 (rd_o k35 (rd_o k6 (rd_o k5 (rd_o k4 ef1 rfl) rfl) rfl) rfl) rfl) (rd_o k38 (rd_o k35 (rd_o k6 (rd_o k5 (rd_o k4 ef3 rfl) rfl) rfl) rfl) rfl) (rd_o k38 (rd_o k35 (rd_o k6 (rd_o k5 (rd_o k4 rt rfl) rfl) rfl) rfl) rfl) (rd_o k38 (rd_o k35 (rd_o k6 (rd_o k5 (rd_s k4) rfl) rfl) rfl) rfl) (rd_o k38 (rd_o k35 (rd_s k6) rfl) rfl) (by have z0_ := congrArg Int32.toInt (rd_o k38 (rd_o k35 (rd_o k6 (rd_o k5 (rd_o k4 ef1 rfl) rfl) rfl) rfl) rfl); have z1_ := congrArg Int32.toInt (rd_s k38); have z2_ := congrArg Int32.toInt (rd_o k38 (rd_o k35 (rd_o k6 (rd_o k5 (rd_o k4 ef3 rfl) rfl) rfl) rfl) rfl); have z_ := w_lits; have zl_ := l_lits; omega) (by have z0_ := congrArg Int32.toInt (rd_o k38 (rd_o k35 (rd_o k6 (rd_o k5 (rd_o k4 ef1 rfl) rfl) rfl) rfl) rfl); have z1_ := congrArg Int32.toInt (rd_s k38); have z2_ := congrArg Int32.toInt (rd_o k38 (rd_o k35 (rd_o k6 (rd_o k5 (rd_o k4 ef3 rfl) rfl) rfl) rfl) rfl); have z_ := w_lits; have zl_ := l_lits; omega) (L_init (by decide : B 1 1 1) (by decide)))
  · have b24 : B v19 12 25 := R_leY (by decide : B 12 12 12) b19 (Int32.not_lt.mp c20) (by decide)
    have b25 : B t 109 122 := (R_bks (l' := 109) (u' := 122) e19 b24 (by decide : B 97 97 97) (by decide) (by decide))
    have z26 := w_le (Int32.not_lt.mp c20)
    rw [show (12 : Int32).toInt = 12 from by decide] at z26
    refine ev_aload_n rfl rfl rfl ?_
    refine ev_iconst (v := 1) rfl rfl (by decide) ?_
    refine ev_aload_n rfl rfl rfl ?_
    refine ev_getV (v := f2) rfl rfl fl_X2_19 rfl rfl rfl (rd_o k6 (rd_o k5 (rd_o k4 ef2 rfl) rfl) rfl) ?_
    have z336 := congrArg Int32.toInt (rd_o k6 (rd_o k5 (rd_o k4 ef1 rfl) rfl) rfl)
    have z337 := congrArg Int32.toInt (rd_o k6 (rd_o k5 (rd_o k4 ef2 rfl) rfl) rfl)
    have z338 := congrArg Int32.toInt (rd_o k6 (rd_o k5 (rd_o k4 ef3 rfl) rfl) rfl)
    refine ev_V2K hJ6 rfl rfl rfl lk_X2_79 vt_X2_fail rfl rfl rfl rfl rfl (w_X2_fail_23 L b h6 hJ6.1 1 f2) (fun h339 hJ339 k339 m339 => ?_)
    obtain ⟨f340, ef340⟩ : ∃ f_, h339 23 7 = f_ := ⟨_, rfl⟩
    have bf340 : B f340 (-2147483648) 2147483647 := by have z_ := hJ339.1 23 7; rw [ef340] at z_; exact z_
    have zf340 := congrArg Int32.toInt ef340
    have z341 := congrArg Int32.toInt (rd_w k339 (rd_o k6 (rd_o k5 (rd_o k4 ef1 rfl) rfl) rfl) rfl)
    have z342 := congrArg Int32.toInt (rd_w k339 (rd_o k6 (rd_o k5 (rd_o k4 ef2 rfl) rfl) rfl) rfl)
    have z343 := congrArg Int32.toInt ef340
    exact ev_vret rfl rfl trivial ⟨rfl, rfl, hJ339, (by have z0_ := congrArg Int32.toInt (rd_w k339 (rd_o k6 (rd_o k5 (rd_o k4 ef1 rfl) rfl) rfl) rfl); have z1_ := congrArg Int32.toInt (rd_w k339 (rd_o k6 (rd_o k5 (rd_o k4 ef2 rfl) rfl) rfl) rfl); have z2_ := congrArg Int32.toInt ef340; have z_ := w_lits; have zl_ := l_lits; omega), (by have z0_ := congrArg Int32.toInt (rd_w k339 (rd_o k6 (rd_o k5 (rd_o k4 ef1 rfl) rfl) rfl) rfl); have z1_ := congrArg Int32.toInt (rd_w k339 (rd_o k6 (rd_o k5 (rd_o k4 ef2 rfl) rfl) rfl) rfl); have z2_ := congrArg Int32.toInt ef340; have z_ := w_lits; have zl_ := l_lits; omega)⟩

set_option maxRecDepth 100000 in
set_option maxHeartbeats 4000000 in
theorem w_X2_readToken_23 (L : Nat) (b : Bool) (h : Hp) (hB : Bx h) (rp0 : (h 23 2).toInt ≤ (h 23 1).toInt) : EvK mi_X2_readToken [.ref 23] (G0 L b) h (fun z : Hp => ((z 23 2).toInt ≤ (z 23 1).toInt) ∧ ((z 23 3).toInt = 0 ∨ (¬ (z 23 7).toInt = 0) ∨ (h 23 2).toInt + 1 ≤ (z 23 2).toInt)) [(23, 2), (23, 3), (23, 4), (23, 5), (23, 6), (23, 7), (23, 8)] := by
  refine EvM.of2 (lo := [some (.ref 23)]) pf_X2_readToken ok_X2_readToken rfl rfl ?_
  have hJ0 : JW [(23, 2), (23, 3), (23, 4), (23, 5), (23, 6), (23, 7), (23, 8)] h h := JW.refl hB
  obtain ⟨f1, ef1⟩ : ∃ f_, h 23 1 = f_ := ⟨_, rfl⟩
  have bf1 : B f1 0 160 := by have z_ := hJ0.1 23 1; rw [ef1] at z_; exact z_
  have zf1 := congrArg Int32.toInt ef1
  obtain ⟨f2, ef2⟩ : ∃ f_, h 23 2 = f_ := ⟨_, rfl⟩
  have bf2 : B f2 0 160 := by have z_ := hJ0.1 23 2; rw [ef2] at z_; exact z_
  have zf2 := congrArg Int32.toInt ef2
  obtain ⟨f3, ef3⟩ : ∃ f_, h 23 3 = f_ := ⟨_, rfl⟩
  have bf3 : B f3 (-2147483648) 2147483647 := by have z_ := hJ0.1 23 3; rw [ef3] at z_; exact z_
  have zf3 := congrArg Int32.toInt ef3
  obtain ⟨f4, ef4⟩ : ∃ f_, h 23 7 = f_ := ⟨_, rfl⟩
  have bf4 : B f4 (-2147483648) 2147483647 := by have z_ := hJ0.1 23 7; rw [ef4] at z_; exact z_
  have zf4 := congrArg Int32.toInt ef4
  have lp0_248 : ∀ (n : Nat) (h249 : Hp), JW [(23, 2), (23, 3), (23, 4), (23, 5), (23, 6), (23, 7), (23, 8)] h h249 → (h249 23 1 = f1) → (h249 23 3 = f3) → (h249 23 7 = f4) → ((h 23 2).toInt ≤ (h249 23 2).toInt) → ((h249 23 2).toInt ≤ (h249 23 1).toInt) → 160 + 1 - (h249 23 2).toInt ≤ (n : Int) → EvQ mi_X2_readToken 0 [some (.ref 23)] [] (G0 L b) h249 0 0 (QK (fun z : Hp => ((z 23 2).toInt ≤ (z 23 1).toInt) ∧ ((z 23 3).toInt = 0 ∨ (¬ (z 23 7).toInt = 0) ∨ (h 23 2).toInt + 1 ≤ (z 23 2).toInt)) [(23, 2), (23, 3), (23, 4), (23, 5), (23, 6), (23, 7), (23, 8)] (G0 L b) h) := by
    intro n
    induction n with
    | zero =>
      intro h249 hJ250 z251 z252 z253 y0_0 y0_1 hm0
      obtain ⟨f254, ef254⟩ : ∃ f_, h249 23 2 = f_ := ⟨_, rfl⟩
      have bf254 : B f254 0 160 := by
        have z_ := hJ250.1 23 2
        rw [ef254] at z_
        exact z_
      rw [ef254] at hm0
      exact absurd hm0 (L_zero bf254 (by decide))
    | succ n ih0 =>
      intro h249 hJ250 z251 z252 z253 y0_0 y0_1 hm0
      obtain ⟨f254, ef254⟩ : ∃ f_, h249 23 2 = f_ := ⟨_, rfl⟩
      have bf254 : B f254 0 160 := by
        have z_ := hJ250.1 23 2
        rw [ef254] at z_
        exact z_
      rw [ef254] at hm0
      have z255 := congrArg Int32.toInt z251
      have z256 := congrArg Int32.toInt ef254
      have z257 := congrArg Int32.toInt z252
      have z258 := congrArg Int32.toInt z253
      refine ev_aload_n rfl rfl rfl ?_
      refine ev_getV (v := f254) rfl rfl fl_X2_19 rfl rfl rfl ef254 ?_
      refine ev_aload_n rfl rfl rfl ?_
      refine ev_getV (v := f1) rfl rfl fl_X2_15 rfl rfl rfl z251 ?_
      refine ev_icmp_ge rfl rfl (fun c259 => ?_) (fun c259 => ?_)
      · have z260 := w_le c259
        refine ev_aload_n rfl rfl rfl ?_
        refine ev_aload_n rfl rfl rfl ?_
        refine ev_getV (v := f254) rfl rfl fl_X2_19 rfl rfl rfl ef254 ?_
        refine ev_putW (l := (-2147483648)) (u := 2147483647) hJ250 rfl bf254 (by decide) (by decide) rfl rfl rfl fl_X2_25 rfl rfl rfl rfl rfl (fun h264 hJ264 k264 => ?_)
        refine ev_aload_n rfl rfl rfl ?_
        refine ev_getV (v := f254) rfl rfl fl_X2_19 rfl rfl rfl (rd_o k264 ef254 rfl) ?_
        refine ev_aload_n rfl rfl rfl ?_
        refine ev_getV (v := f1) rfl rfl fl_X2_15 rfl rfl rfl (rd_o k264 z251 rfl) ?_
        refine ev_icmp_lt rfl rfl (fun c265 => ?_) (fun c265 => ?_)
        · have b266 : B f254 0 159 := R_ltX bf254 bf1 c265 (by decide)
          have b267 : B f1 1 160 := R_ltY bf254 bf1 c265 (by decide)
          have z268 := w_lt c265
          refine ev_aload_n rfl rfl rfl ?_
          refine ev_aload_n rfl rfl rfl ?_
          refine ev_getV (v := f254) rfl rfl fl_X2_19 rfl rfl rfl (rd_o k264 ef254 rfl) ?_
          obtain ⟨t270, et270⟩ : ∃ f_, h264 24 (Int32.toNatClampNeg f254) = f_ := ⟨_, rfl⟩
          have z271 := congrArg Int32.toInt (rd_o k264 z251 rfl)
          have z272 := congrArg Int32.toInt (rd_o k264 ef254 rfl)
          have z273 := congrArg Int32.toInt (rd_o k264 z252 rfl)
          have z274 := congrArg Int32.toInt (rd_o k264 z253 rfl)
          refine ev_V1P rfl rfl lk_X2_63 vt_X2_isLetter rfl rfl rfl rfl rfl (w_X2_isLetter_23 L b h264 hJ264.1 f254 (b266.mono (by decide) (by decide)) t270 et270) (fun r275 q275 => ?_)
          obtain ⟨b275, p275_0, p275_1, pp275_0, pp275_1⟩ := q275
          refine ev_if_eq rfl rfl (fun c276 => ?_) (fun c276 => ?_)
          · have b277 : B r275 0 0 := R_eqX b275 (by decide : B 0 0 0) c276
            have z278 := congrArg Int32.toInt c276
            rw [show (0 : Int32).toInt = 0 from by decide] at z278
            refine ev_aload_n rfl rfl rfl ?_
            refine ev_aload_n rfl rfl rfl ?_
            refine ev_getV (v := f254) rfl rfl fl_X2_19 rfl rfl rfl (rd_o k264 ef254 rfl) ?_
            have z282 := congrArg Int32.toInt (rd_o k264 z251 rfl)
            have z283 := congrArg Int32.toInt (rd_o k264 ef254 rfl)
            have z284 := congrArg Int32.toInt (rd_o k264 z252 rfl)
            have z285 := congrArg Int32.toInt (rd_o k264 z253 rfl)
            refine ev_V1P rfl rfl lk_X2_70 vt_X2_isFigure rfl rfl rfl rfl rfl (w_X2_isFigure_23 L b h264 hJ264.1 f254 (b266.mono (by decide) (by decide)) t270 et270) (fun r286 q286 => ?_)
            obtain ⟨b286, p286_0, p286_1, pp286_0, pp286_1⟩ := q286
            refine ev_if_eq rfl rfl (fun c287 => ?_) (fun c287 => ?_)
            · have b288 : B r286 0 0 := R_eqX b286 (by decide : B 0 0 0) c287
              have z289 := congrArg Int32.toInt c287
              rw [show (0 : Int32).toInt = 0 from by decide] at z289
              refine ev_aload_n rfl rfl rfl ?_
              have z293 := congrArg Int32.toInt (rd_o k264 z251 rfl)
              have z294 := congrArg Int32.toInt (rd_o k264 ef254 rfl)
              have z295 := congrArg Int32.toInt (rd_o k264 z252 rfl)
              have z296 := congrArg Int32.toInt (rd_o k264 z253 rfl)
              refine ev_V0K hJ264 rfl rfl rfl lk_X2_76 vt_X2_readSign rfl rfl rfl rfl rfl (w_X2_readSign_23 L b h264 hJ264.1 (by have z0_ := congrArg Int32.toInt (rd_o k264 z251 rfl); have z1_ := congrArg Int32.toInt (rd_o k264 ef254 rfl); have z2_ := congrArg Int32.toInt (rd_o k264 z252 rfl); have z3_ := congrArg Int32.toInt (rd_o k264 z253 rfl); have z_ := w_lits; have zl_ := l_lits; omega)) (fun h297 hJ297 k297 m297 => ?_)
              obtain ⟨m297_0, m297_1⟩ := m297
              obtain ⟨f298, ef298⟩ : ∃ f_, h297 23 2 = f_ := ⟨_, rfl⟩
              have bf298 : B f298 0 160 := by have z_ := hJ297.1 23 2; rw [ef298] at z_; exact z_
              have zf298 := congrArg Int32.toInt ef298
              obtain ⟨f299, ef299⟩ : ∃ f_, h297 23 3 = f_ := ⟨_, rfl⟩
              have bf299 : B f299 (-2147483648) 2147483647 := by have z_ := hJ297.1 23 3; rw [ef299] at z_; exact z_
              have zf299 := congrArg Int32.toInt ef299
              obtain ⟨f300, ef300⟩ : ∃ f_, h297 23 7 = f_ := ⟨_, rfl⟩
              have bf300 : B f300 (-2147483648) 2147483647 := by have z_ := hJ297.1 23 7; rw [ef300] at z_; exact z_
              have zf300 := congrArg Int32.toInt ef300
              have z301 := congrArg Int32.toInt (rd_w k297 (rd_o k264 z251 rfl) rfl)
              have z302 := congrArg Int32.toInt ef298
              have z303 := congrArg Int32.toInt ef299
              have z304 := congrArg Int32.toInt ef300
              exact ev_vret rfl rfl trivial ⟨rfl, rfl, hJ297, (by have z0_ := congrArg Int32.toInt (rd_w k297 (rd_o k264 z251 rfl) rfl); have z1_ := congrArg Int32.toInt ef298; have z2_ := congrArg Int32.toInt ef299; have z3_ := congrArg Int32.toInt ef300; have z_ := w_lits; have zl_ := l_lits; omega), (by have z0_ := congrArg Int32.toInt (rd_w k297 (rd_o k264 z251 rfl) rfl); have z1_ := congrArg Int32.toInt ef298; have z2_ := congrArg Int32.toInt ef299; have z3_ := congrArg Int32.toInt ef300; have z_ := w_lits; have zl_ := l_lits; omega)⟩
            · have b290 : B r286 1 1 := R_neL b286 (by decide : B 0 0 0) c287 (by decide)
              have b291 : B t270 48 57 := p286_1 c287
              have z292 := w_ne c287
              rw [show (0 : Int32).toInt = 0 from by decide] at z292
              refine ev_aload_n rfl rfl rfl ?_
              have z305 := congrArg Int32.toInt (rd_o k264 z251 rfl)
              have z306 := congrArg Int32.toInt (rd_o k264 ef254 rfl)
              have z307 := congrArg Int32.toInt (rd_o k264 z252 rfl)
              have z308 := congrArg Int32.toInt (rd_o k264 z253 rfl)
              refine ev_V0K hJ264 rfl rfl rfl lk_X2_73 vt_X2_readNumber rfl rfl rfl rfl rfl (w_X2_readNumber_23 L b h264 hJ264.1 t270 (by rw [(rd_o k264 ef254 rfl)]; exact et270) b291 (by have z0_ := congrArg Int32.toInt (rd_o k264 z251 rfl); have z1_ := congrArg Int32.toInt (rd_o k264 ef254 rfl); have z2_ := congrArg Int32.toInt (rd_o k264 z252 rfl); have z3_ := congrArg Int32.toInt (rd_o k264 z253 rfl); have z_ := w_lits; have zl_ := l_lits; omega)) (fun h309 hJ309 k309 m309 => ?_)
              obtain ⟨m309_0, m309_1⟩ := m309
              obtain ⟨f310, ef310⟩ : ∃ f_, h309 23 2 = f_ := ⟨_, rfl⟩
              have bf310 : B f310 0 160 := by have z_ := hJ309.1 23 2; rw [ef310] at z_; exact z_
              have zf310 := congrArg Int32.toInt ef310
              obtain ⟨f311, ef311⟩ : ∃ f_, h309 23 3 = f_ := ⟨_, rfl⟩
              have bf311 : B f311 (-2147483648) 2147483647 := by have z_ := hJ309.1 23 3; rw [ef311] at z_; exact z_
              have zf311 := congrArg Int32.toInt ef311
              obtain ⟨f312, ef312⟩ : ∃ f_, h309 23 7 = f_ := ⟨_, rfl⟩
              have bf312 : B f312 (-2147483648) 2147483647 := by have z_ := hJ309.1 23 7; rw [ef312] at z_; exact z_
              have zf312 := congrArg Int32.toInt ef312
              have z313 := congrArg Int32.toInt (rd_w k309 (rd_o k264 z251 rfl) rfl)
              have z314 := congrArg Int32.toInt ef310
              have z315 := congrArg Int32.toInt ef311
              have z316 := congrArg Int32.toInt ef312
              refine ev_goto rfl rfl ?_
              exact ev_vret rfl rfl trivial ⟨rfl, rfl, hJ309, (by have z0_ := congrArg Int32.toInt (rd_w k309 (rd_o k264 z251 rfl) rfl); have z1_ := congrArg Int32.toInt ef310; have z2_ := congrArg Int32.toInt ef311; have z3_ := congrArg Int32.toInt ef312; have z_ := w_lits; have zl_ := l_lits; omega), (by have z0_ := congrArg Int32.toInt (rd_w k309 (rd_o k264 z251 rfl) rfl); have z1_ := congrArg Int32.toInt ef310; have z2_ := congrArg Int32.toInt ef311; have z3_ := congrArg Int32.toInt ef312; have z_ := w_lits; have zl_ := l_lits; omega)⟩
          · have b279 : B r275 1 1 := R_neL b275 (by decide : B 0 0 0) c276 (by decide)
            have b280 : B t270 97 122 := p275_1 c276
            have z281 := w_ne c276
            rw [show (0 : Int32).toInt = 0 from by decide] at z281
            refine ev_aload_n rfl rfl rfl ?_
            have z317 := congrArg Int32.toInt (rd_o k264 z251 rfl)
            have z318 := congrArg Int32.toInt (rd_o k264 ef254 rfl)
            have z319 := congrArg Int32.toInt (rd_o k264 z252 rfl)
            have z320 := congrArg Int32.toInt (rd_o k264 z253 rfl)
            refine ev_V0K hJ264 rfl rfl rfl lk_X2_67 vt_X2_readChord rfl rfl rfl rfl rfl (w_X2_readChord_23 L b h264 hJ264.1 t270 (by rw [(rd_o k264 ef254 rfl)]; exact et270) b280 (by have z0_ := congrArg Int32.toInt (rd_o k264 z251 rfl); have z1_ := congrArg Int32.toInt (rd_o k264 ef254 rfl); have z2_ := congrArg Int32.toInt (rd_o k264 z252 rfl); have z3_ := congrArg Int32.toInt (rd_o k264 z253 rfl); have z_ := w_lits; have zl_ := l_lits; omega)) (fun h321 hJ321 k321 m321 => ?_)
            obtain ⟨m321_0, m321_1⟩ := m321
            obtain ⟨f322, ef322⟩ : ∃ f_, h321 23 2 = f_ := ⟨_, rfl⟩
            have bf322 : B f322 0 160 := by have z_ := hJ321.1 23 2; rw [ef322] at z_; exact z_
            have zf322 := congrArg Int32.toInt ef322
            obtain ⟨f323, ef323⟩ : ∃ f_, h321 23 3 = f_ := ⟨_, rfl⟩
            have bf323 : B f323 (-2147483648) 2147483647 := by have z_ := hJ321.1 23 3; rw [ef323] at z_; exact z_
            have zf323 := congrArg Int32.toInt ef323
            obtain ⟨f324, ef324⟩ : ∃ f_, h321 23 7 = f_ := ⟨_, rfl⟩
            have bf324 : B f324 (-2147483648) 2147483647 := by have z_ := hJ321.1 23 7; rw [ef324] at z_; exact z_
            have zf324 := congrArg Int32.toInt ef324
            have z325 := congrArg Int32.toInt (rd_w k321 (rd_o k264 z251 rfl) rfl)
            have z326 := congrArg Int32.toInt ef322
            have z327 := congrArg Int32.toInt ef323
            have z328 := congrArg Int32.toInt ef324
            refine ev_goto rfl rfl ?_
            exact ev_vret rfl rfl trivial ⟨rfl, rfl, hJ321, (by have z0_ := congrArg Int32.toInt (rd_w k321 (rd_o k264 z251 rfl) rfl); have z1_ := congrArg Int32.toInt ef322; have z2_ := congrArg Int32.toInt ef323; have z3_ := congrArg Int32.toInt ef324; have z_ := w_lits; have zl_ := l_lits; omega), (by have z0_ := congrArg Int32.toInt (rd_w k321 (rd_o k264 z251 rfl) rfl); have z1_ := congrArg Int32.toInt ef322; have z2_ := congrArg Int32.toInt ef323; have z3_ := congrArg Int32.toInt ef324; have z_ := w_lits; have zl_ := l_lits; omega)⟩
        · have z269 := w_le (Int32.not_lt.mp c265)
          refine ev_aload_n rfl rfl rfl ?_
          refine ev_iconst (v := 0) rfl rfl (by decide) ?_
          refine ev_putW (l := (-2147483648)) (u := 2147483647) hJ264 rfl (by decide : B 0 0 0) (by decide) (by decide) rfl rfl rfl fl_X2_22 rfl rfl rfl rfl rfl (fun h329 hJ329 k329 => ?_)
          refine ev_goto rfl rfl ?_
          exact ev_vret rfl rfl trivial ⟨rfl, rfl, hJ329, (by have z0_ := congrArg Int32.toInt (rd_o k329 (rd_o k264 z251 rfl) rfl); have z1_ := congrArg Int32.toInt (rd_o k329 (rd_o k264 ef254 rfl) rfl); have z2_ := congrArg Int32.toInt (rd_s k329); have z3_ := congrArg Int32.toInt (rd_o k329 (rd_o k264 z253 rfl) rfl); have z_ := w_lits; have zl_ := l_lits; omega), (by have z0_ := congrArg Int32.toInt (rd_o k329 (rd_o k264 z251 rfl) rfl); have z1_ := congrArg Int32.toInt (rd_o k329 (rd_o k264 ef254 rfl) rfl); have z2_ := congrArg Int32.toInt (rd_s k329); have z3_ := congrArg Int32.toInt (rd_o k329 (rd_o k264 z253 rfl) rfl); have z_ := w_lits; have zl_ := l_lits; omega)⟩
      · have b261 : B f254 0 159 := R_ltX bf254 bf1 (Int32.not_le.mp c259) (by decide)
        have b262 : B f1 1 160 := R_ltY bf254 bf1 (Int32.not_le.mp c259) (by decide)
        have z263 := w_lt (Int32.not_le.mp c259)
        refine ev_aload_n rfl rfl rfl ?_
        refine ev_getR (y := 24) rfl rfl fl_X2_11 rfl rfl rfl rfl ?_
        refine ev_aload_n rfl rfl rfl ?_
        refine ev_getV (v := f254) rfl rfl fl_X2_19 rfl rfl rfl ef254 ?_
        refine ev_balW (n := 160) (l := (-2147483648)) (u := 2147483647) hJ250.1 b261 (by decide) (by decide) (fun _ => rfl) rfl rfl rfl (fun v330 b330 e330 => ?_)
        refine ev_bipush (v := 32) rfl rfl (by decide) ?_
        refine ev_icmp_ne rfl rfl (fun c331 => ?_) (fun c331 => ?_)
        · have z332 := w_ne c331
          rw [show (32 : Int32).toInt = 32 from by decide] at z332
          refine ev_aload_n rfl rfl rfl ?_
          refine ev_aload_n rfl rfl rfl ?_
          refine ev_getV (v := f254) rfl rfl fl_X2_19 rfl rfl rfl ef254 ?_
          refine ev_putW (l := (-2147483648)) (u := 2147483647) hJ250 rfl b261 (by decide) (by decide) rfl rfl rfl fl_X2_25 rfl rfl rfl rfl rfl (fun h335 hJ335 k335 => ?_)
          refine ev_aload_n rfl rfl rfl ?_
          refine ev_getV (v := f254) rfl rfl fl_X2_19 rfl rfl rfl (rd_o k335 ef254 rfl) ?_
          refine ev_aload_n rfl rfl rfl ?_
          refine ev_getV (v := f1) rfl rfl fl_X2_15 rfl rfl rfl (rd_o k335 z251 rfl) ?_
          refine ev_icmp_lt rfl rfl (fun c336 => ?_) (fun c336 => ?_)
          · have z337 := w_lt c336
            refine ev_aload_n rfl rfl rfl ?_
            refine ev_aload_n rfl rfl rfl ?_
            refine ev_getV (v := f254) rfl rfl fl_X2_19 rfl rfl rfl (rd_o k335 ef254 rfl) ?_
            have z341 := congrArg Int32.toInt (rd_o k335 z251 rfl)
            have z342 := congrArg Int32.toInt (rd_o k335 ef254 rfl)
            have z343 := congrArg Int32.toInt (rd_o k335 z252 rfl)
            have z344 := congrArg Int32.toInt (rd_o k335 z253 rfl)
            refine ev_V1P rfl rfl lk_X2_63 vt_X2_isLetter rfl rfl rfl rfl rfl (w_X2_isLetter_23 L b h335 hJ335.1 f254 (b261.mono (by decide) (by decide)) v330 (rd_o k335 e330 rfl)) (fun r345 q345 => ?_)
            obtain ⟨b345, p345_0, p345_1, pp345_0, pp345_1⟩ := q345
            refine ev_if_eq rfl rfl (fun c346 => ?_) (fun c346 => ?_)
            · have b347 : B r345 0 0 := R_eqX b345 (by decide : B 0 0 0) c346
              have z348 := congrArg Int32.toInt c346
              rw [show (0 : Int32).toInt = 0 from by decide] at z348
              refine ev_aload_n rfl rfl rfl ?_
              refine ev_aload_n rfl rfl rfl ?_
              refine ev_getV (v := f254) rfl rfl fl_X2_19 rfl rfl rfl (rd_o k335 ef254 rfl) ?_
              have z352 := congrArg Int32.toInt (rd_o k335 z251 rfl)
              have z353 := congrArg Int32.toInt (rd_o k335 ef254 rfl)
              have z354 := congrArg Int32.toInt (rd_o k335 z252 rfl)
              have z355 := congrArg Int32.toInt (rd_o k335 z253 rfl)
              refine ev_V1P rfl rfl lk_X2_70 vt_X2_isFigure rfl rfl rfl rfl rfl (w_X2_isFigure_23 L b h335 hJ335.1 f254 (b261.mono (by decide) (by decide)) v330 (rd_o k335 e330 rfl)) (fun r356 q356 => ?_)
              obtain ⟨b356, p356_0, p356_1, pp356_0, pp356_1⟩ := q356
              refine ev_if_eq rfl rfl (fun c357 => ?_) (fun c357 => ?_)
              · have b358 : B r356 0 0 := R_eqX b356 (by decide : B 0 0 0) c357
                have z359 := congrArg Int32.toInt c357
                rw [show (0 : Int32).toInt = 0 from by decide] at z359
                refine ev_aload_n rfl rfl rfl ?_
                have z363 := congrArg Int32.toInt (rd_o k335 z251 rfl)
                have z364 := congrArg Int32.toInt (rd_o k335 ef254 rfl)
                have z365 := congrArg Int32.toInt (rd_o k335 z252 rfl)
                have z366 := congrArg Int32.toInt (rd_o k335 z253 rfl)
                refine ev_V0K hJ335 rfl rfl rfl lk_X2_76 vt_X2_readSign rfl rfl rfl rfl rfl (w_X2_readSign_23 L b h335 hJ335.1 (by have z0_ := congrArg Int32.toInt (rd_o k335 z251 rfl); have z1_ := congrArg Int32.toInt (rd_o k335 ef254 rfl); have z2_ := congrArg Int32.toInt (rd_o k335 z252 rfl); have z3_ := congrArg Int32.toInt (rd_o k335 z253 rfl); have z_ := w_lits; have zl_ := l_lits; omega)) (fun h367 hJ367 k367 m367 => ?_)
                obtain ⟨m367_0, m367_1⟩ := m367
                obtain ⟨f368, ef368⟩ : ∃ f_, h367 23 2 = f_ := ⟨_, rfl⟩
                have bf368 : B f368 0 160 := by have z_ := hJ367.1 23 2; rw [ef368] at z_; exact z_
                have zf368 := congrArg Int32.toInt ef368
                obtain ⟨f369, ef369⟩ : ∃ f_, h367 23 3 = f_ := ⟨_, rfl⟩
                have bf369 : B f369 (-2147483648) 2147483647 := by have z_ := hJ367.1 23 3; rw [ef369] at z_; exact z_
                have zf369 := congrArg Int32.toInt ef369
                obtain ⟨f370, ef370⟩ : ∃ f_, h367 23 7 = f_ := ⟨_, rfl⟩
                have bf370 : B f370 (-2147483648) 2147483647 := by have z_ := hJ367.1 23 7; rw [ef370] at z_; exact z_
                have zf370 := congrArg Int32.toInt ef370
                have z371 := congrArg Int32.toInt (rd_w k367 (rd_o k335 z251 rfl) rfl)
                have z372 := congrArg Int32.toInt ef368
                have z373 := congrArg Int32.toInt ef369
                have z374 := congrArg Int32.toInt ef370
                exact ev_vret rfl rfl trivial ⟨rfl, rfl, hJ367, (by have z0_ := congrArg Int32.toInt (rd_w k367 (rd_o k335 z251 rfl) rfl); have z1_ := congrArg Int32.toInt ef368; have z2_ := congrArg Int32.toInt ef369; have z3_ := congrArg Int32.toInt ef370; have z_ := w_lits; have zl_ := l_lits; omega), (by have z0_ := congrArg Int32.toInt (rd_w k367 (rd_o k335 z251 rfl) rfl); have z1_ := congrArg Int32.toInt ef368; have z2_ := congrArg Int32.toInt ef369; have z3_ := congrArg Int32.toInt ef370; have z_ := w_lits; have zl_ := l_lits; omega)⟩
              · have b360 : B r356 1 1 := R_neL b356 (by decide : B 0 0 0) c357 (by decide)
                have b361 : B v330 48 57 := p356_1 c357
                have z362 := w_ne c357
                rw [show (0 : Int32).toInt = 0 from by decide] at z362
                refine ev_aload_n rfl rfl rfl ?_
                have z375 := congrArg Int32.toInt (rd_o k335 z251 rfl)
                have z376 := congrArg Int32.toInt (rd_o k335 ef254 rfl)
                have z377 := congrArg Int32.toInt (rd_o k335 z252 rfl)
                have z378 := congrArg Int32.toInt (rd_o k335 z253 rfl)
                refine ev_V0K hJ335 rfl rfl rfl lk_X2_73 vt_X2_readNumber rfl rfl rfl rfl rfl (w_X2_readNumber_23 L b h335 hJ335.1 v330 (by rw [(rd_o k335 ef254 rfl)]; exact (rd_o k335 e330 rfl)) b361 (by have z0_ := congrArg Int32.toInt (rd_o k335 z251 rfl); have z1_ := congrArg Int32.toInt (rd_o k335 ef254 rfl); have z2_ := congrArg Int32.toInt (rd_o k335 z252 rfl); have z3_ := congrArg Int32.toInt (rd_o k335 z253 rfl); have z_ := w_lits; have zl_ := l_lits; omega)) (fun h379 hJ379 k379 m379 => ?_)
                obtain ⟨m379_0, m379_1⟩ := m379
                obtain ⟨f380, ef380⟩ : ∃ f_, h379 23 2 = f_ := ⟨_, rfl⟩
                have bf380 : B f380 0 160 := by have z_ := hJ379.1 23 2; rw [ef380] at z_; exact z_
                have zf380 := congrArg Int32.toInt ef380
                obtain ⟨f381, ef381⟩ : ∃ f_, h379 23 3 = f_ := ⟨_, rfl⟩
                have bf381 : B f381 (-2147483648) 2147483647 := by have z_ := hJ379.1 23 3; rw [ef381] at z_; exact z_
                have zf381 := congrArg Int32.toInt ef381
                obtain ⟨f382, ef382⟩ : ∃ f_, h379 23 7 = f_ := ⟨_, rfl⟩
                have bf382 : B f382 (-2147483648) 2147483647 := by have z_ := hJ379.1 23 7; rw [ef382] at z_; exact z_
                have zf382 := congrArg Int32.toInt ef382
                have z383 := congrArg Int32.toInt (rd_w k379 (rd_o k335 z251 rfl) rfl)
                have z384 := congrArg Int32.toInt ef380
                have z385 := congrArg Int32.toInt ef381
                have z386 := congrArg Int32.toInt ef382
                refine ev_goto rfl rfl ?_
                exact ev_vret rfl rfl trivial ⟨rfl, rfl, hJ379, (by have z0_ := congrArg Int32.toInt (rd_w k379 (rd_o k335 z251 rfl) rfl); have z1_ := congrArg Int32.toInt ef380; have z2_ := congrArg Int32.toInt ef381; have z3_ := congrArg Int32.toInt ef382; have z_ := w_lits; have zl_ := l_lits; omega), (by have z0_ := congrArg Int32.toInt (rd_w k379 (rd_o k335 z251 rfl) rfl); have z1_ := congrArg Int32.toInt ef380; have z2_ := congrArg Int32.toInt ef381; have z3_ := congrArg Int32.toInt ef382; have z_ := w_lits; have zl_ := l_lits; omega)⟩
            · have b349 : B r345 1 1 := R_neL b345 (by decide : B 0 0 0) c346 (by decide)
              have b350 : B v330 97 122 := p345_1 c346
              have z351 := w_ne c346
              rw [show (0 : Int32).toInt = 0 from by decide] at z351
              refine ev_aload_n rfl rfl rfl ?_
              have z387 := congrArg Int32.toInt (rd_o k335 z251 rfl)
              have z388 := congrArg Int32.toInt (rd_o k335 ef254 rfl)
              have z389 := congrArg Int32.toInt (rd_o k335 z252 rfl)
              have z390 := congrArg Int32.toInt (rd_o k335 z253 rfl)
              refine ev_V0K hJ335 rfl rfl rfl lk_X2_67 vt_X2_readChord rfl rfl rfl rfl rfl (w_X2_readChord_23 L b h335 hJ335.1 v330 (by rw [(rd_o k335 ef254 rfl)]; exact (rd_o k335 e330 rfl)) b350 (by have z0_ := congrArg Int32.toInt (rd_o k335 z251 rfl); have z1_ := congrArg Int32.toInt (rd_o k335 ef254 rfl); have z2_ := congrArg Int32.toInt (rd_o k335 z252 rfl); have z3_ := congrArg Int32.toInt (rd_o k335 z253 rfl); have z_ := w_lits; have zl_ := l_lits; omega)) (fun h391 hJ391 k391 m391 => ?_)
              obtain ⟨m391_0, m391_1⟩ := m391
              obtain ⟨f392, ef392⟩ : ∃ f_, h391 23 2 = f_ := ⟨_, rfl⟩
              have bf392 : B f392 0 160 := by have z_ := hJ391.1 23 2; rw [ef392] at z_; exact z_
              have zf392 := congrArg Int32.toInt ef392
              obtain ⟨f393, ef393⟩ : ∃ f_, h391 23 3 = f_ := ⟨_, rfl⟩
              have bf393 : B f393 (-2147483648) 2147483647 := by have z_ := hJ391.1 23 3; rw [ef393] at z_; exact z_
              have zf393 := congrArg Int32.toInt ef393
              obtain ⟨f394, ef394⟩ : ∃ f_, h391 23 7 = f_ := ⟨_, rfl⟩
              have bf394 : B f394 (-2147483648) 2147483647 := by have z_ := hJ391.1 23 7; rw [ef394] at z_; exact z_
              have zf394 := congrArg Int32.toInt ef394
              have z395 := congrArg Int32.toInt (rd_w k391 (rd_o k335 z251 rfl) rfl)
              have z396 := congrArg Int32.toInt ef392
              have z397 := congrArg Int32.toInt ef393
              have z398 := congrArg Int32.toInt ef394
              refine ev_goto rfl rfl ?_
              exact ev_vret rfl rfl trivial ⟨rfl, rfl, hJ391, (by have z0_ := congrArg Int32.toInt (rd_w k391 (rd_o k335 z251 rfl) rfl); have z1_ := congrArg Int32.toInt ef392; have z2_ := congrArg Int32.toInt ef393; have z3_ := congrArg Int32.toInt ef394; have z_ := w_lits; have zl_ := l_lits; omega), (by have z0_ := congrArg Int32.toInt (rd_w k391 (rd_o k335 z251 rfl) rfl); have z1_ := congrArg Int32.toInt ef392; have z2_ := congrArg Int32.toInt ef393; have z3_ := congrArg Int32.toInt ef394; have z_ := w_lits; have zl_ := l_lits; omega)⟩
          · have b338 : B f254 1 159 := R_leY b262 b261 (Int32.not_lt.mp c336) (by decide)
            have b339 : B f1 1 159 := R_leX b262 b261 (Int32.not_lt.mp c336) (by decide)
            have z340 := w_le (Int32.not_lt.mp c336)
            refine ev_aload_n rfl rfl rfl ?_
            refine ev_iconst (v := 0) rfl rfl (by decide) ?_
            refine ev_putW (l := (-2147483648)) (u := 2147483647) hJ335 rfl (by decide : B 0 0 0) (by decide) (by decide) rfl rfl rfl fl_X2_22 rfl rfl rfl rfl rfl (fun h399 hJ399 k399 => ?_)
            refine ev_goto rfl rfl ?_
            exact ev_vret rfl rfl trivial ⟨rfl, rfl, hJ399, (by have z0_ := congrArg Int32.toInt (rd_o k399 (rd_o k335 z251 rfl) rfl); have z1_ := congrArg Int32.toInt (rd_o k399 (rd_o k335 ef254 rfl) rfl); have z2_ := congrArg Int32.toInt (rd_s k399); have z3_ := congrArg Int32.toInt (rd_o k399 (rd_o k335 z253 rfl) rfl); have z_ := w_lits; have zl_ := l_lits; omega), (by have z0_ := congrArg Int32.toInt (rd_o k399 (rd_o k335 z251 rfl) rfl); have z1_ := congrArg Int32.toInt (rd_o k399 (rd_o k335 ef254 rfl) rfl); have z2_ := congrArg Int32.toInt (rd_s k399); have z3_ := congrArg Int32.toInt (rd_o k399 (rd_o k335 z253 rfl) rfl); have z_ := w_lits; have zl_ := l_lits; omega)⟩
        · have b333 : B v330 32 32 := R_eqX (B.any v330) (by decide : B 32 32 32) c331
          have z334 := congrArg Int32.toInt c331
          rw [show (32 : Int32).toInt = 32 from by decide] at z334
          refine ev_aload_n rfl rfl rfl ?_
          refine ev_dup rfl rfl rfl ?_
          refine ev_getV (v := f254) rfl rfl fl_X2_19 rfl rfl rfl ef254 ?_
          refine ev_iconst (v := 1) rfl rfl (by decide) ?_
          refine ev_iaddB (l := 1) (u := 160) rfl rfl b261 (by decide : B 1 1 1) (by decide) (by decide) (by decide) (by decide) (fun v400 b400 e400 g400 => ?_)
          have e400x := e400; rw [show (1 : Int32).toInt = 1 from by decide] at e400x
          have b401 : B v400 0 160 := ⟨(by have z0_ := congrArg Int32.toInt z251; have z1_ := congrArg Int32.toInt ef254; have z2_ := congrArg Int32.toInt z252; have z3_ := congrArg Int32.toInt z253; have z_ := w_lits; have zl_ := l_lits; omega), (by have z0_ := congrArg Int32.toInt z251; have z1_ := congrArg Int32.toInt ef254; have z2_ := congrArg Int32.toInt z252; have z3_ := congrArg Int32.toInt z253; have z_ := w_lits; have zl_ := l_lits; omega)⟩
          refine ev_putW (l := 0) (u := 160) hJ250 rfl b401 (by decide) (by decide) rfl rfl rfl fl_X2_19 rfl rfl rfl rfl rfl (fun h402 hJ402 k402 => ?_)
          refine ev_goto rfl rfl ?_
          exact (ih0 h402 hJ402 (rd_o k402 z251 rfl) (rd_o k402 z252 rfl) (rd_o k402 z253 rfl) (by have z0_ := congrArg Int32.toInt (rd_o k402 z251 rfl); have z1_ := congrArg Int32.toInt (rd_s k402); have z2_ := congrArg Int32.toInt (rd_o k402 z252 rfl); have z3_ := congrArg Int32.toInt (rd_o k402 z253 rfl); have z_ := w_lits; have zl_ := l_lits; omega) (by have z0_ := congrArg Int32.toInt (rd_o k402 z251 rfl); have z1_ := congrArg Int32.toInt (rd_s k402); have z2_ := congrArg Int32.toInt (rd_o k402 z252 rfl); have z3_ := congrArg Int32.toInt (rd_o k402 z253 rfl); have z_ := w_lits; have zl_ := l_lits; omega) (by rw [(rd_s k402)]; exact L_up hm0 (e_p1 e400 (by decide))))
  exact (lp0_248 161 h hJ0 ef1 ef3 ef4 (by have z0_ := congrArg Int32.toInt ef1; have z1_ := congrArg Int32.toInt ef2; have z2_ := congrArg Int32.toInt ef3; have z3_ := congrArg Int32.toInt ef4; have z_ := w_lits; have zl_ := l_lits; omega) (by have z0_ := congrArg Int32.toInt ef1; have z1_ := congrArg Int32.toInt ef2; have z2_ := congrArg Int32.toInt ef3; have z3_ := congrArg Int32.toInt ef4; have z_ := w_lits; have zl_ := l_lits; omega) (by rw [ef2]; exact L_init bf2 (by decide)))

set_option maxRecDepth 100000 in
set_option maxHeartbeats 4000000 in
theorem w_X2_misplaced_23 (L : Nat) (b : Bool) (h : Hp) (hB : Bx h)  : EvI mi_X2_misplaced [.ref 23] (G0 L b) h (fun (r : Int32) (z : Hp) => B r 3 3 ∧ ((z 23 7).toInt = 2)) [(23, 7), (23, 8)] := by
  refine EvM.of2 (lo := [some (.ref 23)]) pf_X2_misplaced ok_X2_misplaced rfl rfl ?_
  have hJ0 : JW [(23, 7), (23, 8)] h h := JW.refl hB
  obtain ⟨f1, ef1⟩ : ∃ f_, h 23 7 = f_ := ⟨_, rfl⟩
  have bf1 : B f1 (-2147483648) 2147483647 := by have z_ := hJ0.1 23 7; rw [ef1] at z_; exact z_
  have zf1 := congrArg Int32.toInt ef1
  refine ev_aload_n rfl rfl rfl ?_
  refine ev_iconst (v := 2) rfl rfl (by decide) ?_
  refine ev_aload_n rfl rfl rfl ?_
  refine ev_getW (l := (-2147483648)) (u := 2147483647) hJ0.1 rfl rfl rfl fl_X2_25 rfl rfl rfl (fun v2 b2 e2 => ?_)
  have z3 := congrArg Int32.toInt ef1
  refine ev_V2K hJ0 rfl rfl rfl lk_X2_79 vt_X2_fail rfl rfl rfl rfl rfl (w_X2_fail_23 L b h hJ0.1 2 v2) (fun h4 hJ4 k4 m4 => ?_)
  obtain ⟨f5, ef5⟩ : ∃ f_, h4 23 7 = f_ := ⟨_, rfl⟩
  have bf5 : B f5 (-2147483648) 2147483647 := by have z_ := hJ4.1 23 7; rw [ef5] at z_; exact z_
  have zf5 := congrArg Int32.toInt ef5
  have z6 := congrArg Int32.toInt ef5
  refine ev_iconst (v := 3) rfl rfl (by decide) ?_
  exact ev_iret rfl rfl rfl ⟨⟨_, rfl, ⟨(by decide : B 3 3 3), (by have z0_ := congrArg Int32.toInt ef5; have z_ := w_lits; have zl_ := l_lits; omega)⟩⟩, rfl, hJ4⟩

set_option maxRecDepth 100000 in
set_option maxHeartbeats 4000000 in
theorem w_X2_takeEnd_23 (L : Nat) (b : Bool) (h : Hp) (hB : Bx h)  : EvI mi_X2_takeEnd [.ref 23] (G0 L b) h (fun (r : Int32) (z : Hp) => B r 3 3 ∧ ((z 23 7).toInt = 0 → (z 23 10).toInt ≤ 24)) [(23, 7), (23, 8)] := by
  refine EvM.of2 (lo := [some (.ref 23)]) pf_X2_takeEnd ok_X2_takeEnd rfl rfl ?_
  have hJ0 : JW [(23, 7), (23, 8)] h h := JW.refl hB
  obtain ⟨f1, ef1⟩ : ∃ f_, h 23 7 = f_ := ⟨_, rfl⟩
  have bf1 : B f1 (-2147483648) 2147483647 := by have z_ := hJ0.1 23 7; rw [ef1] at z_; exact z_
  have zf1 := congrArg Int32.toInt ef1
  obtain ⟨f2, ef2⟩ : ∃ f_, h 23 10 = f_ := ⟨_, rfl⟩
  have bf2 : B f2 0 25 := by have z_ := hJ0.1 23 10; rw [ef2] at z_; exact z_
  have zf2 := congrArg Int32.toInt ef2
  refine ev_aload_n rfl rfl rfl ?_
  refine ev_getV (v := f2) rfl rfl fl_X2_44 rfl rfl rfl ef2 ?_
  refine ev_bipush (v := 24) rfl rfl (by decide) ?_
  refine ev_icmp_le rfl rfl (fun c3 => ?_) (fun c3 => ?_)
  · have b4 : B f2 0 24 := R_leX bf2 (by decide : B 24 24 24) c3 (by decide)
    have z5 := w_le c3
    rw [show (24 : Int32).toInt = 24 from by decide] at z5
    refine ev_iconst (v := 3) rfl rfl (by decide) ?_
    exact ev_iret rfl rfl rfl ⟨⟨_, rfl, ⟨(by decide : B 3 3 3), (by have z0_ := congrArg Int32.toInt ef1; have z1_ := congrArg Int32.toInt ef2; have z_ := w_lits; have zl_ := l_lits; omega)⟩⟩, rfl, hJ0⟩
  · have b6 : B f2 25 25 := R_ltY (by decide : B 24 24 24) bf2 (Int32.not_le.mp c3) (by decide)
    have z7 := w_lt (Int32.not_le.mp c3)
    rw [show (24 : Int32).toInt = 24 from by decide] at z7
    refine ev_aload_n rfl rfl rfl ?_
    refine ev_bipush (v := 6) rfl rfl (by decide) ?_
    refine ev_iconst (v := 0) rfl rfl (by decide) ?_
    have z8 := congrArg Int32.toInt ef1
    have z9 := congrArg Int32.toInt ef2
    refine ev_V2K hJ0 rfl rfl rfl lk_X2_79 vt_X2_fail rfl rfl rfl rfl rfl (w_X2_fail_23 L b h hJ0.1 6 0) (fun h10 hJ10 k10 m10 => ?_)
    obtain ⟨f11, ef11⟩ : ∃ f_, h10 23 7 = f_ := ⟨_, rfl⟩
    have bf11 : B f11 (-2147483648) 2147483647 := by have z_ := hJ10.1 23 7; rw [ef11] at z_; exact z_
    have zf11 := congrArg Int32.toInt ef11
    have z12 := congrArg Int32.toInt ef11
    have z13 := congrArg Int32.toInt (rd_w k10 ef2 rfl)
    refine ev_iconst (v := 3) rfl rfl (by decide) ?_
    exact ev_iret rfl rfl rfl ⟨⟨_, rfl, ⟨(by decide : B 3 3 3), (by have z0_ := congrArg Int32.toInt ef11; have z1_ := congrArg Int32.toInt (rd_w k10 ef2 rfl); have z_ := w_lits; have zl_ := l_lits; omega)⟩⟩, rfl, hJ10⟩

set_option maxRecDepth 100000 in
set_option maxHeartbeats 4000000 in
theorem w_X2_addBeat_23 (L : Nat) (b : Bool) (h : Hp) (hB : Bx h) (a0 : Int32) (p0 : B a0 0 4095) (rp0 : (0 < (h 23 13).toInt → (h 26 0).toInt ≤ (h 23 10).toInt)) (rp1 : (1 < (h 23 13).toInt → (h 26 0).toInt ≤ (h 26 1).toInt ∧ (h 26 1).toInt ≤ (h 23 10).toInt)) (rp2 : (2 < (h 23 13).toInt → (h 26 1).toInt ≤ (h 26 2).toInt ∧ (h 26 2).toInt ≤ (h 23 10).toInt)) (rp3 : (3 < (h 23 13).toInt → (h 26 2).toInt ≤ (h 26 3).toInt ∧ (h 26 3).toInt ≤ (h 23 10).toInt)) : EvI mi_X2_addBeat [.ref 23, .int a0] (G0 L b) h (fun (r : Int32) (z : Hp) => B r 1 1 ∧ ((0 < (z 23 13).toInt → (z 26 0).toInt ≤ (z 23 10).toInt)) ∧ ((1 < (z 23 13).toInt → (z 26 0).toInt ≤ (z 26 1).toInt ∧ (z 26 1).toInt ≤ (z 23 10).toInt)) ∧ ((2 < (z 23 13).toInt → (z 26 1).toInt ≤ (z 26 2).toInt ∧ (z 26 2).toInt ≤ (z 23 10).toInt)) ∧ ((3 < (z 23 13).toInt → (z 26 2).toInt ≤ (z 26 3).toInt ∧ (z 26 3).toInt ≤ (z 23 10).toInt))) [(23, 10), (25, 999)] := by
  refine EvM.of2 (lo := [some (.ref 23), some (.int a0)]) pf_X2_addBeat ok_X2_addBeat rfl rfl ?_
  have hJ0 : JW [(23, 10), (25, 999)] h h := JW.refl hB
  obtain ⟨f1, ef1⟩ : ∃ f_, h 23 10 = f_ := ⟨_, rfl⟩
  have bf1 : B f1 0 25 := by have z_ := hJ0.1 23 10; rw [ef1] at z_; exact z_
  have zf1 := congrArg Int32.toInt ef1
  obtain ⟨f2, ef2⟩ : ∃ f_, h 23 13 = f_ := ⟨_, rfl⟩
  have bf2 : B f2 0 4 := by have z_ := hJ0.1 23 13; rw [ef2] at z_; exact z_
  have zf2 := congrArg Int32.toInt ef2
  obtain ⟨f3, ef3⟩ : ∃ f_, h 26 0 = f_ := ⟨_, rfl⟩
  have bf3 : B f3 0 25 := by have z_ := hJ0.1 26 0; rw [ef3] at z_; exact z_
  have zf3 := congrArg Int32.toInt ef3
  obtain ⟨f4, ef4⟩ : ∃ f_, h 26 1 = f_ := ⟨_, rfl⟩
  have bf4 : B f4 0 25 := by have z_ := hJ0.1 26 1; rw [ef4] at z_; exact z_
  have zf4 := congrArg Int32.toInt ef4
  obtain ⟨f5, ef5⟩ : ∃ f_, h 26 2 = f_ := ⟨_, rfl⟩
  have bf5 : B f5 0 25 := by have z_ := hJ0.1 26 2; rw [ef5] at z_; exact z_
  have zf5 := congrArg Int32.toInt ef5
  obtain ⟨f6, ef6⟩ : ∃ f_, h 26 3 = f_ := ⟨_, rfl⟩
  have bf6 : B f6 0 25 := by have z_ := hJ0.1 26 3; rw [ef6] at z_; exact z_
  have zf6 := congrArg Int32.toInt ef6
  refine ev_aload_n rfl rfl rfl ?_
  refine ev_getV (v := f1) rfl rfl fl_X2_44 rfl rfl rfl ef1 ?_
  refine ev_bipush (v := 24) rfl rfl (by decide) ?_
  refine ev_icmp_ge rfl rfl (fun c7 => ?_) (fun c7 => ?_)
  · have b8 : B f1 24 25 := R_leY (by decide : B 24 24 24) bf1 c7 (by decide)
    have z9 := w_le c7
    rw [show (24 : Int32).toInt = 24 from by decide] at z9
    refine ev_aload_n rfl rfl rfl ?_
    refine ev_bipush (v := 25) rfl rfl (by decide) ?_
    refine ev_aload_n rfl rfl rfl ?_
    refine ev_getV (v := f1) rfl rfl fl_X2_44 rfl rfl rfl ef1 ?_
    refine ev_iconst (v := 1) rfl rfl (by decide) ?_
    refine ev_iaddB (l := 25) (u := 26) rfl rfl b8 (by decide : B 1 1 1) (by decide) (by decide) (by decide) (by decide) (fun v12 b12 e12 g12 => ?_)
    have e12x := e12; rw [show (1 : Int32).toInt = 1 from by decide] at e12x
    have z13 := congrArg Int32.toInt ef1
    have z14 := congrArg Int32.toInt ef2
    have z15 := congrArg Int32.toInt ef3
    have z16 := congrArg Int32.toInt ef4
    have z17 := congrArg Int32.toInt ef5
    have z18 := congrArg Int32.toInt ef6
    refine ev_S2P rfl rfl lk_X2_105 st_J9_min_7cf53 rfl rfl (w_minR (l := 25) (u := 25) (G0 L b) h 25 v12 (by decide : B 25 25 25) b12 (by decide) (by decide) (Or.inl (by decide))) (fun r19 q19 => ?_)
    obtain ⟨b19, pp19_0, pp19_1, pp19_2⟩ := q19
    refine ev_putW (l := 0) (u := 25) hJ0 rfl b19 (by decide) (by decide) rfl rfl rfl fl_X2_44 rfl rfl rfl rfl rfl (fun h20 hJ20 k20 => ?_)
    refine ev_iconst (v := 1) rfl rfl (by decide) ?_
    exact ev_iret rfl rfl rfl ⟨⟨_, rfl, ⟨(by decide : B 1 1 1), (by have z0_ := congrArg Int32.toInt (rd_s k20); have z1_ := congrArg Int32.toInt (rd_o k20 ef2 rfl); have z2_ := congrArg Int32.toInt (rd_o k20 ef3 rfl); have z3_ := congrArg Int32.toInt (rd_o k20 ef4 rfl); have z4_ := congrArg Int32.toInt (rd_o k20 ef5 rfl); have z5_ := congrArg Int32.toInt (rd_o k20 ef6 rfl); have z_ := w_lits; have zl_ := l_lits; omega), (by have z0_ := congrArg Int32.toInt (rd_s k20); have z1_ := congrArg Int32.toInt (rd_o k20 ef2 rfl); have z2_ := congrArg Int32.toInt (rd_o k20 ef3 rfl); have z3_ := congrArg Int32.toInt (rd_o k20 ef4 rfl); have z4_ := congrArg Int32.toInt (rd_o k20 ef5 rfl); have z5_ := congrArg Int32.toInt (rd_o k20 ef6 rfl); have z_ := w_lits; have zl_ := l_lits; omega), (by have z0_ := congrArg Int32.toInt (rd_s k20); have z1_ := congrArg Int32.toInt (rd_o k20 ef2 rfl); have z2_ := congrArg Int32.toInt (rd_o k20 ef3 rfl); have z3_ := congrArg Int32.toInt (rd_o k20 ef4 rfl); have z4_ := congrArg Int32.toInt (rd_o k20 ef5 rfl); have z5_ := congrArg Int32.toInt (rd_o k20 ef6 rfl); have z_ := w_lits; have zl_ := l_lits; omega), (by have z0_ := congrArg Int32.toInt (rd_s k20); have z1_ := congrArg Int32.toInt (rd_o k20 ef2 rfl); have z2_ := congrArg Int32.toInt (rd_o k20 ef3 rfl); have z3_ := congrArg Int32.toInt (rd_o k20 ef4 rfl); have z4_ := congrArg Int32.toInt (rd_o k20 ef5 rfl); have z5_ := congrArg Int32.toInt (rd_o k20 ef6 rfl); have z_ := w_lits; have zl_ := l_lits; omega)⟩⟩, rfl, hJ20⟩
  · have b10 : B f1 0 23 := R_ltX bf1 (by decide : B 24 24 24) (Int32.not_le.mp c7) (by decide)
    have z11 := w_lt (Int32.not_le.mp c7)
    rw [show (24 : Int32).toInt = 24 from by decide] at z11
    refine ev_aload_n rfl rfl rfl ?_
    refine ev_getR (y := 25) rfl rfl fl_X2_40 rfl rfl rfl rfl ?_
    refine ev_aload_n rfl rfl rfl ?_
    refine ev_getV (v := f1) rfl rfl fl_X2_44 rfl rfl rfl ef1 ?_
    refine ev_iload_n rfl rfl rfl ?_
    refine ev_iasW (n := 24) (l := 0) (u := 4095) hJ0 b10 (by decide) (by decide) (fun _ => rfl) p0 (by decide) (by decide) (fun _ => rfl) rfl rfl rfl rfl (fun h21 hJ21 k21 => ?_)
    refine ev_aload_n rfl rfl rfl ?_
    refine ev_bipush (v := 25) rfl rfl (by decide) ?_
    refine ev_aload_n rfl rfl rfl ?_
    refine ev_getV (v := f1) rfl rfl fl_X2_44 rfl rfl rfl (rd_a k21 ef1 rfl) ?_
    refine ev_iconst (v := 1) rfl rfl (by decide) ?_
    refine ev_iaddB (l := 1) (u := 24) rfl rfl b10 (by decide : B 1 1 1) (by decide) (by decide) (by decide) (by decide) (fun v22 b22 e22 g22 => ?_)
    have e22x := e22; rw [show (1 : Int32).toInt = 1 from by decide] at e22x
    have z23 := congrArg Int32.toInt (rd_a k21 ef1 rfl)
    have z24 := congrArg Int32.toInt (rd_a k21 ef2 rfl)
    have z25 := congrArg Int32.toInt (rd_a k21 ef3 rfl)
    have z26 := congrArg Int32.toInt (rd_a k21 ef4 rfl)
    have z27 := congrArg Int32.toInt (rd_a k21 ef5 rfl)
    have z28 := congrArg Int32.toInt (rd_a k21 ef6 rfl)
    refine ev_S2P rfl rfl lk_X2_105 st_J9_min_7cf53 rfl rfl (w_minR (l := 1) (u := 24) (G0 L b) h21 25 v22 (by decide : B 25 25 25) b22 (by decide) (by decide) (Or.inr (by decide))) (fun r29 q29 => ?_)
    obtain ⟨b29, pp29_0, pp29_1, pp29_2⟩ := q29
    refine ev_putW (l := 0) (u := 25) hJ21 rfl b29 (by decide) (by decide) rfl rfl rfl fl_X2_44 rfl rfl rfl rfl rfl (fun h30 hJ30 k30 => ?_)
    refine ev_iconst (v := 1) rfl rfl (by decide) ?_
    exact ev_iret rfl rfl rfl ⟨⟨_, rfl, ⟨(by decide : B 1 1 1), (by have z0_ := congrArg Int32.toInt (rd_s k30); have z1_ := congrArg Int32.toInt (rd_o k30 (rd_a k21 ef2 rfl) rfl); have z2_ := congrArg Int32.toInt (rd_o k30 (rd_a k21 ef3 rfl) rfl); have z3_ := congrArg Int32.toInt (rd_o k30 (rd_a k21 ef4 rfl) rfl); have z4_ := congrArg Int32.toInt (rd_o k30 (rd_a k21 ef5 rfl) rfl); have z5_ := congrArg Int32.toInt (rd_o k30 (rd_a k21 ef6 rfl) rfl); have z_ := w_lits; have zl_ := l_lits; omega), (by have z0_ := congrArg Int32.toInt (rd_s k30); have z1_ := congrArg Int32.toInt (rd_o k30 (rd_a k21 ef2 rfl) rfl); have z2_ := congrArg Int32.toInt (rd_o k30 (rd_a k21 ef3 rfl) rfl); have z3_ := congrArg Int32.toInt (rd_o k30 (rd_a k21 ef4 rfl) rfl); have z4_ := congrArg Int32.toInt (rd_o k30 (rd_a k21 ef5 rfl) rfl); have z5_ := congrArg Int32.toInt (rd_o k30 (rd_a k21 ef6 rfl) rfl); have z_ := w_lits; have zl_ := l_lits; omega), (by have z0_ := congrArg Int32.toInt (rd_s k30); have z1_ := congrArg Int32.toInt (rd_o k30 (rd_a k21 ef2 rfl) rfl); have z2_ := congrArg Int32.toInt (rd_o k30 (rd_a k21 ef3 rfl) rfl); have z3_ := congrArg Int32.toInt (rd_o k30 (rd_a k21 ef4 rfl) rfl); have z4_ := congrArg Int32.toInt (rd_o k30 (rd_a k21 ef5 rfl) rfl); have z5_ := congrArg Int32.toInt (rd_o k30 (rd_a k21 ef6 rfl) rfl); have z_ := w_lits; have zl_ := l_lits; omega), (by have z0_ := congrArg Int32.toInt (rd_s k30); have z1_ := congrArg Int32.toInt (rd_o k30 (rd_a k21 ef2 rfl) rfl); have z2_ := congrArg Int32.toInt (rd_o k30 (rd_a k21 ef3 rfl) rfl); have z3_ := congrArg Int32.toInt (rd_o k30 (rd_a k21 ef4 rfl) rfl); have z4_ := congrArg Int32.toInt (rd_o k30 (rd_a k21 ef5 rfl) rfl); have z5_ := congrArg Int32.toInt (rd_o k30 (rd_a k21 ef6 rfl) rfl); have z_ := w_lits; have zl_ := l_lits; omega)⟩⟩, rfl, hJ30⟩

set_option maxRecDepth 100000 in
set_option maxHeartbeats 4000000 in
theorem w_X2_takeChord_23 (L : Nat) (b : Bool) (h : Hp) (hB : Bx h) (rp0 : (0 < (h 23 13).toInt → (h 26 0).toInt ≤ (h 23 10).toInt)) (rp1 : (1 < (h 23 13).toInt → (h 26 0).toInt ≤ (h 26 1).toInt ∧ (h 26 1).toInt ≤ (h 23 10).toInt)) (rp2 : (2 < (h 23 13).toInt → (h 26 1).toInt ≤ (h 26 2).toInt ∧ (h 26 2).toInt ≤ (h 23 10).toInt)) (rp3 : (3 < (h 23 13).toInt → (h 26 2).toInt ≤ (h 26 3).toInt ∧ (h 26 3).toInt ≤ (h 23 10).toInt)) : EvI mi_X2_takeChord [.ref 23] (G0 L b) h (fun (r : Int32) (z : Hp) => B r 1 1 ∧ ((0 < (z 23 13).toInt → (z 26 0).toInt ≤ (z 23 10).toInt)) ∧ ((1 < (z 23 13).toInt → (z 26 0).toInt ≤ (z 26 1).toInt ∧ (z 26 1).toInt ≤ (z 23 10).toInt)) ∧ ((2 < (z 23 13).toInt → (z 26 1).toInt ≤ (z 26 2).toInt ∧ (z 26 2).toInt ≤ (z 23 10).toInt)) ∧ ((3 < (z 23 13).toInt → (z 26 2).toInt ≤ (z 26 3).toInt ∧ (z 26 3).toInt ≤ (z 23 10).toInt))) [(23, 7), (23, 8), (23, 10), (25, 999)] := by
  refine EvM.of2 (lo := [some (.ref 23)]) pf_X2_takeChord ok_X2_takeChord rfl rfl ?_
  have hJ0 : JW [(23, 7), (23, 8), (23, 10), (25, 999)] h h := JW.refl hB
  obtain ⟨f1, ef1⟩ : ∃ f_, h 23 10 = f_ := ⟨_, rfl⟩
  have bf1 : B f1 0 25 := by have z_ := hJ0.1 23 10; rw [ef1] at z_; exact z_
  have zf1 := congrArg Int32.toInt ef1
  obtain ⟨f2, ef2⟩ : ∃ f_, h 23 13 = f_ := ⟨_, rfl⟩
  have bf2 : B f2 0 4 := by have z_ := hJ0.1 23 13; rw [ef2] at z_; exact z_
  have zf2 := congrArg Int32.toInt ef2
  obtain ⟨f3, ef3⟩ : ∃ f_, h 26 0 = f_ := ⟨_, rfl⟩
  have bf3 : B f3 0 25 := by have z_ := hJ0.1 26 0; rw [ef3] at z_; exact z_
  have zf3 := congrArg Int32.toInt ef3
  obtain ⟨f4, ef4⟩ : ∃ f_, h 26 1 = f_ := ⟨_, rfl⟩
  have bf4 : B f4 0 25 := by have z_ := hJ0.1 26 1; rw [ef4] at z_; exact z_
  have zf4 := congrArg Int32.toInt ef4
  obtain ⟨f5, ef5⟩ : ∃ f_, h 26 2 = f_ := ⟨_, rfl⟩
  have bf5 : B f5 0 25 := by have z_ := hJ0.1 26 2; rw [ef5] at z_; exact z_
  have zf5 := congrArg Int32.toInt ef5
  obtain ⟨f6, ef6⟩ : ∃ f_, h 26 3 = f_ := ⟨_, rfl⟩
  have bf6 : B f6 0 25 := by have z_ := hJ0.1 26 3; rw [ef6] at z_; exact z_
  have zf6 := congrArg Int32.toInt ef6
  refine ev_aload_n rfl rfl rfl ?_
  refine ev_getW (l := (-2147483648)) (u := 2147483647) hJ0.1 rfl rfl rfl fl_X2_31 rfl rfl rfl (fun v7 b7 e7 => ?_)
  refine ev_iconst (v := (-1)) rfl rfl (by decide) ?_
  refine ev_icmp_eq rfl rfl (fun c8 => ?_) (fun c8 => ?_)
  · have b9 : B v7 (-1) (-1) := R_eqX (B.any v7) (by decide : B (-1) (-1) (-1)) c8
    have z10 := congrArg Int32.toInt c8
    rw [show ((-1) : Int32).toInt = (-1) from by decide] at z10
    refine ev_aload_n rfl rfl rfl ?_
    refine ev_aload_n rfl rfl rfl ?_
    refine ev_getW (l := 0) (u := 4095) hJ0.1 rfl rfl rfl fl_X2_28 rfl rfl rfl (fun v12 b12 e12 => ?_)
    have z13 := congrArg Int32.toInt ef1
    have z14 := congrArg Int32.toInt ef2
    have z15 := congrArg Int32.toInt ef3
    have z16 := congrArg Int32.toInt ef4
    have z17 := congrArg Int32.toInt ef5
    have z18 := congrArg Int32.toInt ef6
    refine ev_V1I hJ0 rfl rfl rfl lk_X2_93 vt_X2_addBeat rfl rfl rfl rfl rfl (w_X2_addBeat_23 L b h hJ0.1 v12 b12 (by have z0_ := congrArg Int32.toInt ef1; have z1_ := congrArg Int32.toInt ef2; have z2_ := congrArg Int32.toInt ef3; have z3_ := congrArg Int32.toInt ef4; have z4_ := congrArg Int32.toInt ef5; have z5_ := congrArg Int32.toInt ef6; have z_ := w_lits; have zl_ := l_lits; omega) (by have z0_ := congrArg Int32.toInt ef1; have z1_ := congrArg Int32.toInt ef2; have z2_ := congrArg Int32.toInt ef3; have z3_ := congrArg Int32.toInt ef4; have z4_ := congrArg Int32.toInt ef5; have z5_ := congrArg Int32.toInt ef6; have z_ := w_lits; have zl_ := l_lits; omega) (by have z0_ := congrArg Int32.toInt ef1; have z1_ := congrArg Int32.toInt ef2; have z2_ := congrArg Int32.toInt ef3; have z3_ := congrArg Int32.toInt ef4; have z4_ := congrArg Int32.toInt ef5; have z5_ := congrArg Int32.toInt ef6; have z_ := w_lits; have zl_ := l_lits; omega) (by have z0_ := congrArg Int32.toInt ef1; have z1_ := congrArg Int32.toInt ef2; have z2_ := congrArg Int32.toInt ef3; have z3_ := congrArg Int32.toInt ef4; have z4_ := congrArg Int32.toInt ef5; have z5_ := congrArg Int32.toInt ef6; have z_ := w_lits; have zl_ := l_lits; omega)) (fun r19 h19 q19 hJ19 k19 => ?_)
    obtain ⟨b19, m19_0, m19_1, m19_2, m19_3⟩ := q19
    obtain ⟨f20, ef20⟩ : ∃ f_, h19 23 10 = f_ := ⟨_, rfl⟩
    have bf20 : B f20 0 25 := by have z_ := hJ19.1 23 10; rw [ef20] at z_; exact z_
    have zf20 := congrArg Int32.toInt ef20
    have z21 := congrArg Int32.toInt ef20
    have z22 := congrArg Int32.toInt (rd_w k19 ef2 rfl)
    have z23 := congrArg Int32.toInt (rd_w k19 ef3 rfl)
    have z24 := congrArg Int32.toInt (rd_w k19 ef4 rfl)
    have z25 := congrArg Int32.toInt (rd_w k19 ef5 rfl)
    have z26 := congrArg Int32.toInt (rd_w k19 ef6 rfl)
    exact ev_iret rfl rfl rfl ⟨⟨_, rfl, ⟨b19, (by have z0_ := congrArg Int32.toInt ef20; have z1_ := congrArg Int32.toInt (rd_w k19 ef2 rfl); have z2_ := congrArg Int32.toInt (rd_w k19 ef3 rfl); have z3_ := congrArg Int32.toInt (rd_w k19 ef4 rfl); have z4_ := congrArg Int32.toInt (rd_w k19 ef5 rfl); have z5_ := congrArg Int32.toInt (rd_w k19 ef6 rfl); have z_ := w_lits; have zl_ := l_lits; omega), (by have z0_ := congrArg Int32.toInt ef20; have z1_ := congrArg Int32.toInt (rd_w k19 ef2 rfl); have z2_ := congrArg Int32.toInt (rd_w k19 ef3 rfl); have z3_ := congrArg Int32.toInt (rd_w k19 ef4 rfl); have z4_ := congrArg Int32.toInt (rd_w k19 ef5 rfl); have z5_ := congrArg Int32.toInt (rd_w k19 ef6 rfl); have z_ := w_lits; have zl_ := l_lits; omega), (by have z0_ := congrArg Int32.toInt ef20; have z1_ := congrArg Int32.toInt (rd_w k19 ef2 rfl); have z2_ := congrArg Int32.toInt (rd_w k19 ef3 rfl); have z3_ := congrArg Int32.toInt (rd_w k19 ef4 rfl); have z4_ := congrArg Int32.toInt (rd_w k19 ef5 rfl); have z5_ := congrArg Int32.toInt (rd_w k19 ef6 rfl); have z_ := w_lits; have zl_ := l_lits; omega), (by have z0_ := congrArg Int32.toInt ef20; have z1_ := congrArg Int32.toInt (rd_w k19 ef2 rfl); have z2_ := congrArg Int32.toInt (rd_w k19 ef3 rfl); have z3_ := congrArg Int32.toInt (rd_w k19 ef4 rfl); have z4_ := congrArg Int32.toInt (rd_w k19 ef5 rfl); have z5_ := congrArg Int32.toInt (rd_w k19 ef6 rfl); have z_ := w_lits; have zl_ := l_lits; omega)⟩⟩, rfl, hJ19⟩
  · have z11 := w_ne c8
    rw [show ((-1) : Int32).toInt = (-1) from by decide] at z11
    refine ev_aload_n rfl rfl rfl ?_
    refine ev_iconst (v := 4) rfl rfl (by decide) ?_
    refine ev_aload_n rfl rfl rfl ?_
    refine ev_getV (v := v7) rfl rfl fl_X2_31 rfl rfl rfl e7 ?_
    have z27 := congrArg Int32.toInt ef1
    have z28 := congrArg Int32.toInt ef2
    have z29 := congrArg Int32.toInt ef3
    have z30 := congrArg Int32.toInt ef4
    have z31 := congrArg Int32.toInt ef5
    have z32 := congrArg Int32.toInt ef6
    refine ev_V2K hJ0 rfl rfl rfl lk_X2_79 vt_X2_fail rfl rfl rfl rfl rfl (w_X2_fail_23 L b h hJ0.1 4 v7) (fun h33 hJ33 k33 m33 => ?_)
    have z34 := congrArg Int32.toInt (rd_w k33 ef1 rfl)
    have z35 := congrArg Int32.toInt (rd_w k33 ef2 rfl)
    have z36 := congrArg Int32.toInt (rd_w k33 ef3 rfl)
    have z37 := congrArg Int32.toInt (rd_w k33 ef4 rfl)
    have z38 := congrArg Int32.toInt (rd_w k33 ef5 rfl)
    have z39 := congrArg Int32.toInt (rd_w k33 ef6 rfl)
    refine ev_aload_n rfl rfl rfl ?_
    refine ev_aload_n rfl rfl rfl ?_
    refine ev_getW (l := 0) (u := 4095) hJ33.1 rfl rfl rfl fl_X2_28 rfl rfl rfl (fun v40 b40 e40 => ?_)
    have z41 := congrArg Int32.toInt (rd_w k33 ef1 rfl)
    have z42 := congrArg Int32.toInt (rd_w k33 ef2 rfl)
    have z43 := congrArg Int32.toInt (rd_w k33 ef3 rfl)
    have z44 := congrArg Int32.toInt (rd_w k33 ef4 rfl)
    have z45 := congrArg Int32.toInt (rd_w k33 ef5 rfl)
    have z46 := congrArg Int32.toInt (rd_w k33 ef6 rfl)
    refine ev_V1I hJ33 rfl rfl rfl lk_X2_93 vt_X2_addBeat rfl rfl rfl rfl rfl (w_X2_addBeat_23 L b h33 hJ33.1 v40 b40 (by have z0_ := congrArg Int32.toInt (rd_w k33 ef1 rfl); have z1_ := congrArg Int32.toInt (rd_w k33 ef2 rfl); have z2_ := congrArg Int32.toInt (rd_w k33 ef3 rfl); have z3_ := congrArg Int32.toInt (rd_w k33 ef4 rfl); have z4_ := congrArg Int32.toInt (rd_w k33 ef5 rfl); have z5_ := congrArg Int32.toInt (rd_w k33 ef6 rfl); have z_ := w_lits; have zl_ := l_lits; omega) (by have z0_ := congrArg Int32.toInt (rd_w k33 ef1 rfl); have z1_ := congrArg Int32.toInt (rd_w k33 ef2 rfl); have z2_ := congrArg Int32.toInt (rd_w k33 ef3 rfl); have z3_ := congrArg Int32.toInt (rd_w k33 ef4 rfl); have z4_ := congrArg Int32.toInt (rd_w k33 ef5 rfl); have z5_ := congrArg Int32.toInt (rd_w k33 ef6 rfl); have z_ := w_lits; have zl_ := l_lits; omega) (by have z0_ := congrArg Int32.toInt (rd_w k33 ef1 rfl); have z1_ := congrArg Int32.toInt (rd_w k33 ef2 rfl); have z2_ := congrArg Int32.toInt (rd_w k33 ef3 rfl); have z3_ := congrArg Int32.toInt (rd_w k33 ef4 rfl); have z4_ := congrArg Int32.toInt (rd_w k33 ef5 rfl); have z5_ := congrArg Int32.toInt (rd_w k33 ef6 rfl); have z_ := w_lits; have zl_ := l_lits; omega) (by have z0_ := congrArg Int32.toInt (rd_w k33 ef1 rfl); have z1_ := congrArg Int32.toInt (rd_w k33 ef2 rfl); have z2_ := congrArg Int32.toInt (rd_w k33 ef3 rfl); have z3_ := congrArg Int32.toInt (rd_w k33 ef4 rfl); have z4_ := congrArg Int32.toInt (rd_w k33 ef5 rfl); have z5_ := congrArg Int32.toInt (rd_w k33 ef6 rfl); have z_ := w_lits; have zl_ := l_lits; omega)) (fun r47 h47 q47 hJ47 k47 => ?_)
    obtain ⟨b47, m47_0, m47_1, m47_2, m47_3⟩ := q47
    obtain ⟨f48, ef48⟩ : ∃ f_, h47 23 10 = f_ := ⟨_, rfl⟩
    have bf48 : B f48 0 25 := by have z_ := hJ47.1 23 10; rw [ef48] at z_; exact z_
    have zf48 := congrArg Int32.toInt ef48
    have z49 := congrArg Int32.toInt ef48
    have z50 := congrArg Int32.toInt (rd_w k47 (rd_w k33 ef2 rfl) rfl)
    have z51 := congrArg Int32.toInt (rd_w k47 (rd_w k33 ef3 rfl) rfl)
    have z52 := congrArg Int32.toInt (rd_w k47 (rd_w k33 ef4 rfl) rfl)
    have z53 := congrArg Int32.toInt (rd_w k47 (rd_w k33 ef5 rfl) rfl)
    have z54 := congrArg Int32.toInt (rd_w k47 (rd_w k33 ef6 rfl) rfl)
    exact ev_iret rfl rfl rfl ⟨⟨_, rfl, ⟨b47, (by have z0_ := congrArg Int32.toInt ef48; have z1_ := congrArg Int32.toInt (rd_w k47 (rd_w k33 ef2 rfl) rfl); have z2_ := congrArg Int32.toInt (rd_w k47 (rd_w k33 ef3 rfl) rfl); have z3_ := congrArg Int32.toInt (rd_w k47 (rd_w k33 ef4 rfl) rfl); have z4_ := congrArg Int32.toInt (rd_w k47 (rd_w k33 ef5 rfl) rfl); have z5_ := congrArg Int32.toInt (rd_w k47 (rd_w k33 ef6 rfl) rfl); have z_ := w_lits; have zl_ := l_lits; omega), (by have z0_ := congrArg Int32.toInt ef48; have z1_ := congrArg Int32.toInt (rd_w k47 (rd_w k33 ef2 rfl) rfl); have z2_ := congrArg Int32.toInt (rd_w k47 (rd_w k33 ef3 rfl) rfl); have z3_ := congrArg Int32.toInt (rd_w k47 (rd_w k33 ef4 rfl) rfl); have z4_ := congrArg Int32.toInt (rd_w k47 (rd_w k33 ef5 rfl) rfl); have z5_ := congrArg Int32.toInt (rd_w k47 (rd_w k33 ef6 rfl) rfl); have z_ := w_lits; have zl_ := l_lits; omega), (by have z0_ := congrArg Int32.toInt ef48; have z1_ := congrArg Int32.toInt (rd_w k47 (rd_w k33 ef2 rfl) rfl); have z2_ := congrArg Int32.toInt (rd_w k47 (rd_w k33 ef3 rfl) rfl); have z3_ := congrArg Int32.toInt (rd_w k47 (rd_w k33 ef4 rfl) rfl); have z4_ := congrArg Int32.toInt (rd_w k47 (rd_w k33 ef5 rfl) rfl); have z5_ := congrArg Int32.toInt (rd_w k47 (rd_w k33 ef6 rfl) rfl); have z_ := w_lits; have zl_ := l_lits; omega), (by have z0_ := congrArg Int32.toInt ef48; have z1_ := congrArg Int32.toInt (rd_w k47 (rd_w k33 ef2 rfl) rfl); have z2_ := congrArg Int32.toInt (rd_w k47 (rd_w k33 ef3 rfl) rfl); have z3_ := congrArg Int32.toInt (rd_w k47 (rd_w k33 ef4 rfl) rfl); have z4_ := congrArg Int32.toInt (rd_w k47 (rd_w k33 ef5 rfl) rfl); have z5_ := congrArg Int32.toInt (rd_w k47 (rd_w k33 ef6 rfl) rfl); have z_ := w_lits; have zl_ := l_lits; omega)⟩⟩, rfl, hJ47⟩

set_option maxRecDepth 100000 in
set_option maxHeartbeats 4000000 in
theorem w_X2_takeNumber_23 (L : Nat) (b : Bool) (h : Hp) (hB : Bx h)  : EvJ mi_X2_takeNumber [.ref 23] (G0 L b) h (fun r : Int32 => B r 2 2) [(23, 7), (23, 8)] := by
  refine EvM.of2 (lo := [some (.ref 23)]) pf_X2_takeNumber ok_X2_takeNumber rfl rfl ?_
  have hJ0 : JW [(23, 7), (23, 8)] h h := JW.refl hB
  refine ev_aload_n rfl rfl rfl ?_
  refine ev_getW (l := 0) (u := 4095) hJ0.1 rfl rfl rfl fl_X2_28 rfl rfl rfl (fun v1 b1 e1 => ?_)
  refine ev_iconst (v := 1) rfl rfl (by decide) ?_
  refine ev_bipush (v := 20) rfl rfl (by decide) ?_
  refine ev_SN3P rfl rfl lk_X2_111 st_X9_isWithin rfl rfl (w_isWithin (G0 L b) h v1 1 20 (by decide : B 1 1 1) (by decide : B 20 20 20)) (fun r2 q2 => ?_)
  obtain ⟨b2, p2_0⟩ := q2
  refine ev_if_ne rfl rfl (fun c3 => ?_) (fun c3 => ?_)
  · have b4 : B r2 1 1 := R_neL b2 (by decide : B 0 0 0) c3 (by decide)
    have b5 : B v1 1 20 := p2_0 c3
    refine ev_iconst (v := 2) rfl rfl (by decide) ?_
    exact ev_iret rfl rfl rfl ⟨⟨_, rfl, (by decide : B 2 2 2)⟩, rfl, hJ0⟩
  · have b6 : B r2 0 0 := R_eqX b2 (by decide : B 0 0 0) c3
    refine ev_aload_n rfl rfl rfl ?_
    refine ev_iconst (v := 3) rfl rfl (by decide) ?_
    refine ev_aload_n rfl rfl rfl ?_
    refine ev_getW (l := (-2147483648)) (u := 2147483647) hJ0.1 rfl rfl rfl fl_X2_25 rfl rfl rfl (fun v7 b7 e7 => ?_)
    refine ev_V2K hJ0 rfl rfl rfl lk_X2_79 vt_X2_fail rfl rfl rfl rfl rfl (w_X2_fail_23 L b h hJ0.1 3 v7) (fun h8 hJ8 k8 m8 => ?_)
    refine ev_iconst (v := 2) rfl rfl (by decide) ?_
    exact ev_iret rfl rfl rfl ⟨⟨_, rfl, (by decide : B 2 2 2)⟩, rfl, hJ8⟩

set_option maxRecDepth 100000 in
set_option maxHeartbeats 4000000 in
theorem w_X2_takeClose_23 (L : Nat) (b : Bool) (h : Hp) (hB : Bx h) (rp0 : (0 < (h 23 13).toInt → (h 26 0).toInt ≤ (h 23 10).toInt)) (rp1 : (1 < (h 23 13).toInt → (h 26 0).toInt ≤ (h 26 1).toInt ∧ (h 26 1).toInt ≤ (h 23 10).toInt)) (rp2 : (2 < (h 23 13).toInt → (h 26 1).toInt ≤ (h 26 2).toInt ∧ (h 26 2).toInt ≤ (h 23 10).toInt)) (rp3 : (3 < (h 23 13).toInt → (h 26 2).toInt ≤ (h 26 3).toInt ∧ (h 26 3).toInt ≤ (h 23 10).toInt)) (q0 : B (h 23 13) 1 4) : EvI mi_X2_takeClose [.ref 23] (G0 L b) h (fun (r : Int32) (z : Hp) => B r 1 1 ∧ ((0 < (z 23 13).toInt → (z 26 0).toInt ≤ (z 23 10).toInt)) ∧ ((1 < (z 23 13).toInt → (z 26 0).toInt ≤ (z 26 1).toInt ∧ (z 26 1).toInt ≤ (z 23 10).toInt)) ∧ ((2 < (z 23 13).toInt → (z 26 1).toInt ≤ (z 26 2).toInt ∧ (z 26 2).toInt ≤ (z 23 10).toInt)) ∧ ((3 < (z 23 13).toInt → (z 26 2).toInt ≤ (z 26 3).toInt ∧ (z 26 3).toInt ≤ (z 23 10).toInt))) [(23, 10), (23, 13), (25, 999)] := by
  refine EvM.of2 (lo := [some (.ref 23), none, none, none, none]) pf_X2_takeClose ok_X2_takeClose rfl rfl ?_
  have hJ0 : JW [(23, 10), (23, 13), (25, 999)] h h := JW.refl hB
  obtain ⟨f0, ef0⟩ : ∃ f_, h 23 13 = f_ := ⟨_, rfl⟩
  rw [ef0] at q0
  have zef0 := congrArg Int32.toInt ef0
  obtain ⟨f1, ef1⟩ : ∃ f_, h 23 10 = f_ := ⟨_, rfl⟩
  have bf1 : B f1 0 25 := by have z_ := hJ0.1 23 10; rw [ef1] at z_; exact z_
  have zf1 := congrArg Int32.toInt ef1
  obtain ⟨f2, ef2⟩ : ∃ f_, h 26 0 = f_ := ⟨_, rfl⟩
  have bf2 : B f2 0 25 := by have z_ := hJ0.1 26 0; rw [ef2] at z_; exact z_
  have zf2 := congrArg Int32.toInt ef2
  obtain ⟨f3, ef3⟩ : ∃ f_, h 26 1 = f_ := ⟨_, rfl⟩
  have bf3 : B f3 0 25 := by have z_ := hJ0.1 26 1; rw [ef3] at z_; exact z_
  have zf3 := congrArg Int32.toInt ef3
  obtain ⟨f4, ef4⟩ : ∃ f_, h 26 2 = f_ := ⟨_, rfl⟩
  have bf4 : B f4 0 25 := by have z_ := hJ0.1 26 2; rw [ef4] at z_; exact z_
  have zf4 := congrArg Int32.toInt ef4
  obtain ⟨f5, ef5⟩ : ∃ f_, h 26 3 = f_ := ⟨_, rfl⟩
  have bf5 : B f5 0 25 := by have z_ := hJ0.1 26 3; rw [ef5] at z_; exact z_
  have zf5 := congrArg Int32.toInt ef5
  refine ev_aload_n rfl rfl rfl ?_
  refine ev_dup rfl rfl rfl ?_
  refine ev_getV (v := f0) rfl rfl fl_X2_53 rfl rfl rfl ef0 ?_
  refine ev_iconst (v := 1) rfl rfl (by decide) ?_
  refine ev_isubB (l := 0) (u := 3) rfl rfl q0 (by decide : B 1 1 1) (by decide) (by decide) (by decide) (by decide) (fun v6 b6 e6 g6 => ?_)
  have e6x := e6; rw [show (1 : Int32).toInt = 1 from by decide] at e6x
  refine ev_putW (l := 0) (u := 4) hJ0 rfl b6 (by decide) (by decide) rfl rfl rfl fl_X2_53 rfl rfl rfl rfl rfl (fun h7 hJ7 k7 => ?_)
  refine ev_aload_n rfl rfl rfl ?_
  refine ev_getR (y := 26) rfl rfl fl_X2_47 rfl rfl rfl rfl ?_
  refine ev_aload_n rfl rfl rfl ?_
  refine ev_getV (v := v6) rfl rfl fl_X2_53 rfl rfl rfl (rd_s k7) ?_
  rcases B.c4 b6 with rfl | rfl | rfl | rfl
  · refine ev_iadV (j := 0) (v := f2) rfl rfl rfl (by unfold vp_in; decide) (by decide) (rd_o k7 ef2 rfl) ?_
    refine ev_istore_n rfl rfl rfl rfl ?_
    dsimp only [List.set]
    refine ev_iload_n rfl rfl rfl ?_
    refine ev_aload_n rfl rfl rfl ?_
    refine ev_getV (v := f1) rfl rfl fl_X2_44 rfl rfl rfl (rd_o k7 ef1 rfl) ?_
    refine ev_iload_n rfl rfl rfl ?_
    refine ev_isubB (l := -25) (u := 25) rfl rfl bf1 bf2 (by decide) (by decide) (by decide) (by decide) (fun v8 b8 e8 g8 => ?_)
    refine ev_aload_n rfl rfl rfl ?_
    refine ev_getR (y := 27) rfl rfl fl_X2_50 rfl rfl rfl rfl ?_
    refine ev_aload_n rfl rfl rfl ?_
    refine ev_getV (v := 0) rfl rfl fl_X2_53 rfl rfl rfl (rd_s k7) ?_
    refine ev_ialK (j := 0) (n := 4) (l := 0) (u := 4095) hJ7.1 (by decide : B 0 0 0) (by decide) (by decide) (by decide) rfl rfl rfl rfl (fun v9 b9 e9 => ?_)
    have b10 : B v8 0 25 := ⟨(by have z0_ := congrArg Int32.toInt (rd_o k7 ef1 rfl); have z1_ := congrArg Int32.toInt (rd_s k7); have z2_ := congrArg Int32.toInt (rd_o k7 ef2 rfl); have z3_ := congrArg Int32.toInt (rd_o k7 ef3 rfl); have z4_ := congrArg Int32.toInt (rd_o k7 ef4 rfl); have z5_ := congrArg Int32.toInt (rd_o k7 ef5 rfl); have z_ := w_lits; have zl_ := l_lits; omega), (by have z0_ := congrArg Int32.toInt (rd_o k7 ef1 rfl); have z1_ := congrArg Int32.toInt (rd_s k7); have z2_ := congrArg Int32.toInt (rd_o k7 ef2 rfl); have z3_ := congrArg Int32.toInt (rd_o k7 ef3 rfl); have z4_ := congrArg Int32.toInt (rd_o k7 ef4 rfl); have z5_ := congrArg Int32.toInt (rd_o k7 ef5 rfl); have z_ := w_lits; have zl_ := l_lits; omega)⟩
    refine ev_imulB (l := 0) (u := 102375) rfl rfl b10 b9 (by decide) (by decide) (by decide) (by decide) (by decide) (fun v11 b11 e11 g11 => ?_)
    clear e11
    refine ev_iaddB (l := 0) (u := 102400) rfl rfl bf2 b11 (by decide) (by decide) (by decide) (by decide) (fun v12 b12 e12 g12 => ?_)
    refine ev_istore_n rfl rfl rfl rfl ?_
    dsimp only [List.set]
    refine ev_aload_n rfl rfl rfl ?_
    refine ev_getV (v := f1) rfl rfl fl_X2_44 rfl rfl rfl (rd_o k7 ef1 rfl) ?_
    refine ev_bipush (v := 24) rfl rfl (by decide) ?_
    refine ev_icmp_gt rfl rfl (fun c13 => ?_) (fun c13 => ?_)
    · have b14 : B f1 25 25 := R_ltY (by decide : B 24 24 24) bf1 c13 (by decide)
      have z15 := w_lt c13
      rw [show (24 : Int32).toInt = 24 from by decide] at z15
      refine ev_aload_n rfl rfl rfl ?_
      refine ev_bipush (v := 25) rfl rfl (by decide) ?_
      refine ev_putW (l := 0) (u := 25) hJ7 rfl (by decide : B 25 25 25) (by decide) (by decide) rfl rfl rfl fl_X2_44 rfl rfl rfl rfl rfl (fun h18 hJ18 k18 => ?_)
      refine ev_iconst (v := 1) rfl rfl (by decide) ?_
      exact ev_iret rfl rfl rfl ⟨⟨_, rfl, ⟨(by decide : B 1 1 1), (by have z0_ := congrArg Int32.toInt (rd_s k18); have z1_ := congrArg Int32.toInt (rd_o k18 (rd_s k7) rfl); have z2_ := congrArg Int32.toInt (rd_o k18 (rd_o k7 ef2 rfl) rfl); have z3_ := congrArg Int32.toInt (rd_o k18 (rd_o k7 ef3 rfl) rfl); have z4_ := congrArg Int32.toInt (rd_o k18 (rd_o k7 ef4 rfl) rfl); have z5_ := congrArg Int32.toInt (rd_o k18 (rd_o k7 ef5 rfl) rfl); have z_ := w_lits; have zl_ := l_lits; omega), (by have z0_ := congrArg Int32.toInt (rd_s k18); have z1_ := congrArg Int32.toInt (rd_o k18 (rd_s k7) rfl); have z2_ := congrArg Int32.toInt (rd_o k18 (rd_o k7 ef2 rfl) rfl); have z3_ := congrArg Int32.toInt (rd_o k18 (rd_o k7 ef3 rfl) rfl); have z4_ := congrArg Int32.toInt (rd_o k18 (rd_o k7 ef4 rfl) rfl); have z5_ := congrArg Int32.toInt (rd_o k18 (rd_o k7 ef5 rfl) rfl); have z_ := w_lits; have zl_ := l_lits; omega), (by have z0_ := congrArg Int32.toInt (rd_s k18); have z1_ := congrArg Int32.toInt (rd_o k18 (rd_s k7) rfl); have z2_ := congrArg Int32.toInt (rd_o k18 (rd_o k7 ef2 rfl) rfl); have z3_ := congrArg Int32.toInt (rd_o k18 (rd_o k7 ef3 rfl) rfl); have z4_ := congrArg Int32.toInt (rd_o k18 (rd_o k7 ef4 rfl) rfl); have z5_ := congrArg Int32.toInt (rd_o k18 (rd_o k7 ef5 rfl) rfl); have z_ := w_lits; have zl_ := l_lits; omega), (by have z0_ := congrArg Int32.toInt (rd_s k18); have z1_ := congrArg Int32.toInt (rd_o k18 (rd_s k7) rfl); have z2_ := congrArg Int32.toInt (rd_o k18 (rd_o k7 ef2 rfl) rfl); have z3_ := congrArg Int32.toInt (rd_o k18 (rd_o k7 ef3 rfl) rfl); have z4_ := congrArg Int32.toInt (rd_o k18 (rd_o k7 ef4 rfl) rfl); have z5_ := congrArg Int32.toInt (rd_o k18 (rd_o k7 ef5 rfl) rfl); have z_ := w_lits; have zl_ := l_lits; omega)⟩⟩, rfl, hJ18⟩
    · have b16 : B f1 0 24 := R_leX bf1 (by decide : B 24 24 24) (Int32.not_lt.mp c13) (by decide)
      have z17 := w_le (Int32.not_lt.mp c13)
      rw [show (24 : Int32).toInt = 24 from by decide] at z17
      refine ev_iload_n rfl rfl rfl ?_
      refine ev_bipush (v := 24) rfl rfl (by decide) ?_
      refine ev_icmp_le rfl rfl (fun c19 => ?_) (fun c19 => ?_)
      · have b20 : B v12 0 24 := R_leX b12 (by decide : B 24 24 24) c19 (by decide)
        have z21 := w_le c19
        rw [show (24 : Int32).toInt = 24 from by decide] at z21
        refine ev_aload_n rfl rfl rfl ?_
        refine ev_getV (v := f1) rfl rfl fl_X2_44 rfl rfl rfl (rd_o k7 ef1 rfl) ?_
        refine ev_iload_n rfl rfl rfl ?_
        refine ev_isubV g8 rfl rfl ?_
        refine ev_istore_n rfl rfl rfl rfl ?_
        dsimp only [List.set]
        refine ev_aload_n rfl rfl rfl ?_
        refine ev_getV (v := f1) rfl rfl fl_X2_44 rfl rfl rfl (rd_o k7 ef1 rfl) ?_
        refine ev_istore rfl rfl rfl rfl ?_
        dsimp only [List.set]
        have lp75_63 : ∀ (n : Nat) (w64 : Int32) (h66 : Hp), B w64 0 24 → JW [(23, 10), (23, 13), (25, 999)] h h66 → (h66 23 13 = 0) → (h66 23 10 = f1) → (h66 26 0 = f2) → (h66 26 1 = f3) → (h66 26 2 = f4) → (h66 26 3 = f5) → (h66 27 0 = v9) → ((h66 23 10).toInt ≤ w64.toInt) → 24 + 1 - w64.toInt ≤ (n : Int) → EvQ mi_X2_takeClose 75 [some (.ref 23), some (.int f2), some (.int v12), some (.int v8), some (.int w64)] [] (G0 L b) h66 0 0 (QI (fun (r : Int32) (z : Hp) => B r 1 1 ∧ ((0 < (z 23 13).toInt → (z 26 0).toInt ≤ (z 23 10).toInt)) ∧ ((1 < (z 23 13).toInt → (z 26 0).toInt ≤ (z 26 1).toInt ∧ (z 26 1).toInt ≤ (z 23 10).toInt)) ∧ ((2 < (z 23 13).toInt → (z 26 1).toInt ≤ (z 26 2).toInt ∧ (z 26 2).toInt ≤ (z 23 10).toInt)) ∧ ((3 < (z 23 13).toInt → (z 26 2).toInt ≤ (z 26 3).toInt ∧ (z 26 3).toInt ≤ (z 23 10).toInt))) [(23, 10), (23, 13), (25, 999)] (G0 L b) h) := by
          intro n
          induction n with
          | zero =>
            intro w64 h66 b65 hJ67 z68 z69 z70 z71 z72 z73 z74 y75_0 hm75
            exact absurd hm75 (L_zero b65 (by decide))
          | succ n ih75 =>
            intro w64 h66 b65 hJ67 z68 z69 z70 z71 z72 z73 z74 y75_0 hm75
            have z75 := congrArg Int32.toInt z69
            have z76 := congrArg Int32.toInt z68
            have z77 := congrArg Int32.toInt z70
            have z78 := congrArg Int32.toInt z71
            have z79 := congrArg Int32.toInt z72
            have z80 := congrArg Int32.toInt z73
            refine ev_iload rfl rfl rfl ?_
            refine ev_iload_n rfl rfl rfl ?_
            refine ev_icmp_ge rfl rfl (fun c81 => ?_) (fun c81 => ?_)
            · have z82 := w_le c81
              refine ev_aload_n rfl rfl rfl ?_
              refine ev_iload_n rfl rfl rfl ?_
              refine ev_putW (l := 0) (u := 25) hJ67 rfl b20 (by decide) (by decide) rfl rfl rfl fl_X2_44 rfl rfl rfl rfl rfl (fun h86 hJ86 k86 => ?_)
              refine ev_iconst (v := 1) rfl rfl (by decide) ?_
              exact ev_iret rfl rfl rfl ⟨⟨_, rfl, ⟨(by decide : B 1 1 1), (by have z0_ := congrArg Int32.toInt (rd_s k86); have z1_ := congrArg Int32.toInt (rd_o k86 z68 rfl); have z2_ := congrArg Int32.toInt (rd_o k86 z70 rfl); have z3_ := congrArg Int32.toInt (rd_o k86 z71 rfl); have z4_ := congrArg Int32.toInt (rd_o k86 z72 rfl); have z5_ := congrArg Int32.toInt (rd_o k86 z73 rfl); have z_ := w_lits; have zl_ := l_lits; omega), (by have z0_ := congrArg Int32.toInt (rd_s k86); have z1_ := congrArg Int32.toInt (rd_o k86 z68 rfl); have z2_ := congrArg Int32.toInt (rd_o k86 z70 rfl); have z3_ := congrArg Int32.toInt (rd_o k86 z71 rfl); have z4_ := congrArg Int32.toInt (rd_o k86 z72 rfl); have z5_ := congrArg Int32.toInt (rd_o k86 z73 rfl); have z_ := w_lits; have zl_ := l_lits; omega), (by have z0_ := congrArg Int32.toInt (rd_s k86); have z1_ := congrArg Int32.toInt (rd_o k86 z68 rfl); have z2_ := congrArg Int32.toInt (rd_o k86 z70 rfl); have z3_ := congrArg Int32.toInt (rd_o k86 z71 rfl); have z4_ := congrArg Int32.toInt (rd_o k86 z72 rfl); have z5_ := congrArg Int32.toInt (rd_o k86 z73 rfl); have z_ := w_lits; have zl_ := l_lits; omega), (by have z0_ := congrArg Int32.toInt (rd_s k86); have z1_ := congrArg Int32.toInt (rd_o k86 z68 rfl); have z2_ := congrArg Int32.toInt (rd_o k86 z70 rfl); have z3_ := congrArg Int32.toInt (rd_o k86 z71 rfl); have z4_ := congrArg Int32.toInt (rd_o k86 z72 rfl); have z5_ := congrArg Int32.toInt (rd_o k86 z73 rfl); have z_ := w_lits; have zl_ := l_lits; omega)⟩⟩, rfl, hJ86⟩
            · have b83 : B w64 0 23 := R_ltX b65 b20 (Int32.not_le.mp c81) (by decide)
              have b84 : B v12 1 24 := R_ltY b65 b20 (Int32.not_le.mp c81) (by decide)
              have z85 := w_lt (Int32.not_le.mp c81)
              refine ev_aload_n rfl rfl rfl ?_
              refine ev_getR (y := 25) rfl rfl fl_X2_40 rfl rfl rfl rfl ?_
              refine ev_iload rfl rfl rfl ?_
              refine ev_aload_n rfl rfl rfl ?_
              refine ev_getR (y := 25) rfl rfl fl_X2_40 rfl rfl rfl rfl ?_
              refine ev_iload rfl rfl rfl ?_
              refine ev_iload_n rfl rfl rfl ?_
              refine ev_isubB (l := -25) (u := 23) rfl rfl b83 b10 (by decide) (by decide) (by decide) (by decide) (fun v87 b87 e87 g87 => ?_)
              have b88 : B v87 0 23 := ⟨(by have z0_ := congrArg Int32.toInt z69; have z1_ := congrArg Int32.toInt z68; have z2_ := congrArg Int32.toInt z70; have z3_ := congrArg Int32.toInt z71; have z4_ := congrArg Int32.toInt z72; have z5_ := congrArg Int32.toInt z73; have z_ := w_lits; have zl_ := l_lits; omega), (by have z0_ := congrArg Int32.toInt z69; have z1_ := congrArg Int32.toInt z68; have z2_ := congrArg Int32.toInt z70; have z3_ := congrArg Int32.toInt z71; have z4_ := congrArg Int32.toInt z72; have z5_ := congrArg Int32.toInt z73; have z_ := w_lits; have zl_ := l_lits; omega)⟩
              refine ev_ialW (n := 24) (l := 0) (u := 4095) hJ67.1 b88 (by decide) (by decide) (fun _ => rfl) rfl rfl rfl (fun v89 b89 e89 => ?_)
              refine ev_iasW (n := 24) (l := 0) (u := 4095) hJ67 b83 (by decide) (by decide) (fun _ => rfl) b89 (by decide) (by decide) (fun _ => rfl) rfl rfl rfl rfl (fun h90 hJ90 k90 => ?_)
              refine ev_iincB (y := 1) (l := 1) (u := 24) rfl rfl rfl (by decide) rfl rfl b83 (by decide : B 1 1 1) (by decide) (by decide) (by decide) (by decide) (fun v91 b91 e91 => ?_)
              dsimp only [List.set]
              have e91x := e91; rw [show (1 : Int32).toInt = 1 from by decide] at e91x
              refine ev_goto rfl rfl ?_
              exact (ih75 v91 h90 (b91.mono (by decide) (by decide)) hJ90 (rd_a k90 z68 rfl) (rd_a k90 z69 rfl) (rd_a k90 z70 rfl) (rd_a k90 z71 rfl) (rd_a k90 z72 rfl) (rd_a k90 z73 rfl) (rd_a k90 z74 rfl) (by have z0_ := congrArg Int32.toInt (rd_a k90 z69 rfl); have z1_ := congrArg Int32.toInt (rd_a k90 z68 rfl); have z2_ := congrArg Int32.toInt (rd_a k90 z70 rfl); have z3_ := congrArg Int32.toInt (rd_a k90 z71 rfl); have z4_ := congrArg Int32.toInt (rd_a k90 z72 rfl); have z5_ := congrArg Int32.toInt (rd_a k90 z73 rfl); have z_ := w_lits; have zl_ := l_lits; omega) (L_up hm75 (e_p1 e91 (by decide))))
        exact (lp75_63 25 f1 h7 b16 hJ7 (rd_s k7) (rd_o k7 ef1 rfl) (rd_o k7 ef2 rfl) (rd_o k7 ef3 rfl) (rd_o k7 ef4 rfl) (rd_o k7 ef5 rfl) e9 (by have z0_ := congrArg Int32.toInt (rd_o k7 ef1 rfl); have z1_ := congrArg Int32.toInt (rd_s k7); have z2_ := congrArg Int32.toInt (rd_o k7 ef2 rfl); have z3_ := congrArg Int32.toInt (rd_o k7 ef3 rfl); have z4_ := congrArg Int32.toInt (rd_o k7 ef4 rfl); have z5_ := congrArg Int32.toInt (rd_o k7 ef5 rfl); have z_ := w_lits; have zl_ := l_lits; omega) (L_init b16 (by decide)))
      · have b22 : B v12 25 102400 := R_ltY (by decide : B 24 24 24) b12 (Int32.not_le.mp c19) (by decide)
        have z23 := w_lt (Int32.not_le.mp c19)
        rw [show (24 : Int32).toInt = 24 from by decide] at z23
        refine ev_aload_n rfl rfl rfl ?_
        refine ev_bipush (v := 25) rfl rfl (by decide) ?_
        refine ev_putW (l := 0) (u := 25) hJ7 rfl (by decide : B 25 25 25) (by decide) (by decide) rfl rfl rfl fl_X2_44 rfl rfl rfl rfl rfl (fun h92 hJ92 k92 => ?_)
        refine ev_iconst (v := 1) rfl rfl (by decide) ?_
        exact ev_iret rfl rfl rfl ⟨⟨_, rfl, ⟨(by decide : B 1 1 1), (by have z0_ := congrArg Int32.toInt (rd_s k92); have z1_ := congrArg Int32.toInt (rd_o k92 (rd_s k7) rfl); have z2_ := congrArg Int32.toInt (rd_o k92 (rd_o k7 ef2 rfl) rfl); have z3_ := congrArg Int32.toInt (rd_o k92 (rd_o k7 ef3 rfl) rfl); have z4_ := congrArg Int32.toInt (rd_o k92 (rd_o k7 ef4 rfl) rfl); have z5_ := congrArg Int32.toInt (rd_o k92 (rd_o k7 ef5 rfl) rfl); have z_ := w_lits; have zl_ := l_lits; omega), (by have z0_ := congrArg Int32.toInt (rd_s k92); have z1_ := congrArg Int32.toInt (rd_o k92 (rd_s k7) rfl); have z2_ := congrArg Int32.toInt (rd_o k92 (rd_o k7 ef2 rfl) rfl); have z3_ := congrArg Int32.toInt (rd_o k92 (rd_o k7 ef3 rfl) rfl); have z4_ := congrArg Int32.toInt (rd_o k92 (rd_o k7 ef4 rfl) rfl); have z5_ := congrArg Int32.toInt (rd_o k92 (rd_o k7 ef5 rfl) rfl); have z_ := w_lits; have zl_ := l_lits; omega), (by have z0_ := congrArg Int32.toInt (rd_s k92); have z1_ := congrArg Int32.toInt (rd_o k92 (rd_s k7) rfl); have z2_ := congrArg Int32.toInt (rd_o k92 (rd_o k7 ef2 rfl) rfl); have z3_ := congrArg Int32.toInt (rd_o k92 (rd_o k7 ef3 rfl) rfl); have z4_ := congrArg Int32.toInt (rd_o k92 (rd_o k7 ef4 rfl) rfl); have z5_ := congrArg Int32.toInt (rd_o k92 (rd_o k7 ef5 rfl) rfl); have z_ := w_lits; have zl_ := l_lits; omega), (by have z0_ := congrArg Int32.toInt (rd_s k92); have z1_ := congrArg Int32.toInt (rd_o k92 (rd_s k7) rfl); have z2_ := congrArg Int32.toInt (rd_o k92 (rd_o k7 ef2 rfl) rfl); have z3_ := congrArg Int32.toInt (rd_o k92 (rd_o k7 ef3 rfl) rfl); have z4_ := congrArg Int32.toInt (rd_o k92 (rd_o k7 ef4 rfl) rfl); have z5_ := congrArg Int32.toInt (rd_o k92 (rd_o k7 ef5 rfl) rfl); have z_ := w_lits; have zl_ := l_lits; omega)⟩⟩, rfl, hJ92⟩
  · refine ev_iadV (j := 1) (v := f3) rfl rfl rfl (by unfold vp_in; decide) (by decide) (rd_o k7 ef3 rfl) ?_
    refine ev_istore_n rfl rfl rfl rfl ?_
    dsimp only [List.set]
    refine ev_iload_n rfl rfl rfl ?_
    refine ev_aload_n rfl rfl rfl ?_
    refine ev_getV (v := f1) rfl rfl fl_X2_44 rfl rfl rfl (rd_o k7 ef1 rfl) ?_
    refine ev_iload_n rfl rfl rfl ?_
    refine ev_isubB (l := -25) (u := 25) rfl rfl bf1 bf3 (by decide) (by decide) (by decide) (by decide) (fun v93 b93 e93 g93 => ?_)
    refine ev_aload_n rfl rfl rfl ?_
    refine ev_getR (y := 27) rfl rfl fl_X2_50 rfl rfl rfl rfl ?_
    refine ev_aload_n rfl rfl rfl ?_
    refine ev_getV (v := 1) rfl rfl fl_X2_53 rfl rfl rfl (rd_s k7) ?_
    refine ev_ialK (j := 1) (n := 4) (l := 0) (u := 4095) hJ7.1 (by decide : B 1 1 1) (by decide) (by decide) (by decide) rfl rfl rfl rfl (fun v94 b94 e94 => ?_)
    have b95 : B v93 0 25 := ⟨(by have z0_ := congrArg Int32.toInt (rd_o k7 ef1 rfl); have z1_ := congrArg Int32.toInt (rd_s k7); have z2_ := congrArg Int32.toInt (rd_o k7 ef2 rfl); have z3_ := congrArg Int32.toInt (rd_o k7 ef3 rfl); have z4_ := congrArg Int32.toInt (rd_o k7 ef4 rfl); have z5_ := congrArg Int32.toInt (rd_o k7 ef5 rfl); have z_ := w_lits; have zl_ := l_lits; omega), (by have z0_ := congrArg Int32.toInt (rd_o k7 ef1 rfl); have z1_ := congrArg Int32.toInt (rd_s k7); have z2_ := congrArg Int32.toInt (rd_o k7 ef2 rfl); have z3_ := congrArg Int32.toInt (rd_o k7 ef3 rfl); have z4_ := congrArg Int32.toInt (rd_o k7 ef4 rfl); have z5_ := congrArg Int32.toInt (rd_o k7 ef5 rfl); have z_ := w_lits; have zl_ := l_lits; omega)⟩
    refine ev_imulB (l := 0) (u := 102375) rfl rfl b95 b94 (by decide) (by decide) (by decide) (by decide) (by decide) (fun v96 b96 e96 g96 => ?_)
    clear e96
    refine ev_iaddB (l := 0) (u := 102400) rfl rfl bf3 b96 (by decide) (by decide) (by decide) (by decide) (fun v97 b97 e97 g97 => ?_)
    refine ev_istore_n rfl rfl rfl rfl ?_
    dsimp only [List.set]
    refine ev_aload_n rfl rfl rfl ?_
    refine ev_getV (v := f1) rfl rfl fl_X2_44 rfl rfl rfl (rd_o k7 ef1 rfl) ?_
    refine ev_bipush (v := 24) rfl rfl (by decide) ?_
    refine ev_icmp_gt rfl rfl (fun c98 => ?_) (fun c98 => ?_)
    · have b99 : B f1 25 25 := R_ltY (by decide : B 24 24 24) bf1 c98 (by decide)
      have z100 := w_lt c98
      rw [show (24 : Int32).toInt = 24 from by decide] at z100
      refine ev_aload_n rfl rfl rfl ?_
      refine ev_bipush (v := 25) rfl rfl (by decide) ?_
      refine ev_putW (l := 0) (u := 25) hJ7 rfl (by decide : B 25 25 25) (by decide) (by decide) rfl rfl rfl fl_X2_44 rfl rfl rfl rfl rfl (fun h103 hJ103 k103 => ?_)
      refine ev_iconst (v := 1) rfl rfl (by decide) ?_
      exact ev_iret rfl rfl rfl ⟨⟨_, rfl, ⟨(by decide : B 1 1 1), (by have z0_ := congrArg Int32.toInt (rd_s k103); have z1_ := congrArg Int32.toInt (rd_o k103 (rd_s k7) rfl); have z2_ := congrArg Int32.toInt (rd_o k103 (rd_o k7 ef2 rfl) rfl); have z3_ := congrArg Int32.toInt (rd_o k103 (rd_o k7 ef3 rfl) rfl); have z4_ := congrArg Int32.toInt (rd_o k103 (rd_o k7 ef4 rfl) rfl); have z5_ := congrArg Int32.toInt (rd_o k103 (rd_o k7 ef5 rfl) rfl); have z_ := w_lits; have zl_ := l_lits; omega), (by have z0_ := congrArg Int32.toInt (rd_s k103); have z1_ := congrArg Int32.toInt (rd_o k103 (rd_s k7) rfl); have z2_ := congrArg Int32.toInt (rd_o k103 (rd_o k7 ef2 rfl) rfl); have z3_ := congrArg Int32.toInt (rd_o k103 (rd_o k7 ef3 rfl) rfl); have z4_ := congrArg Int32.toInt (rd_o k103 (rd_o k7 ef4 rfl) rfl); have z5_ := congrArg Int32.toInt (rd_o k103 (rd_o k7 ef5 rfl) rfl); have z_ := w_lits; have zl_ := l_lits; omega), (by have z0_ := congrArg Int32.toInt (rd_s k103); have z1_ := congrArg Int32.toInt (rd_o k103 (rd_s k7) rfl); have z2_ := congrArg Int32.toInt (rd_o k103 (rd_o k7 ef2 rfl) rfl); have z3_ := congrArg Int32.toInt (rd_o k103 (rd_o k7 ef3 rfl) rfl); have z4_ := congrArg Int32.toInt (rd_o k103 (rd_o k7 ef4 rfl) rfl); have z5_ := congrArg Int32.toInt (rd_o k103 (rd_o k7 ef5 rfl) rfl); have z_ := w_lits; have zl_ := l_lits; omega), (by have z0_ := congrArg Int32.toInt (rd_s k103); have z1_ := congrArg Int32.toInt (rd_o k103 (rd_s k7) rfl); have z2_ := congrArg Int32.toInt (rd_o k103 (rd_o k7 ef2 rfl) rfl); have z3_ := congrArg Int32.toInt (rd_o k103 (rd_o k7 ef3 rfl) rfl); have z4_ := congrArg Int32.toInt (rd_o k103 (rd_o k7 ef4 rfl) rfl); have z5_ := congrArg Int32.toInt (rd_o k103 (rd_o k7 ef5 rfl) rfl); have z_ := w_lits; have zl_ := l_lits; omega)⟩⟩, rfl, hJ103⟩
    · have b101 : B f1 0 24 := R_leX bf1 (by decide : B 24 24 24) (Int32.not_lt.mp c98) (by decide)
      have z102 := w_le (Int32.not_lt.mp c98)
      rw [show (24 : Int32).toInt = 24 from by decide] at z102
      refine ev_iload_n rfl rfl rfl ?_
      refine ev_bipush (v := 24) rfl rfl (by decide) ?_
      refine ev_icmp_le rfl rfl (fun c104 => ?_) (fun c104 => ?_)
      · have b105 : B v97 0 24 := R_leX b97 (by decide : B 24 24 24) c104 (by decide)
        have z106 := w_le c104
        rw [show (24 : Int32).toInt = 24 from by decide] at z106
        refine ev_aload_n rfl rfl rfl ?_
        refine ev_getV (v := f1) rfl rfl fl_X2_44 rfl rfl rfl (rd_o k7 ef1 rfl) ?_
        refine ev_iload_n rfl rfl rfl ?_
        refine ev_isubV g93 rfl rfl ?_
        refine ev_istore_n rfl rfl rfl rfl ?_
        dsimp only [List.set]
        refine ev_aload_n rfl rfl rfl ?_
        refine ev_getV (v := f1) rfl rfl fl_X2_44 rfl rfl rfl (rd_o k7 ef1 rfl) ?_
        refine ev_istore rfl rfl rfl rfl ?_
        dsimp only [List.set]
        have lp75_148 : ∀ (n : Nat) (w149 : Int32) (h151 : Hp), B w149 0 24 → JW [(23, 10), (23, 13), (25, 999)] h h151 → (h151 23 13 = 1) → (h151 23 10 = f1) → (h151 26 0 = f2) → (h151 26 1 = f3) → (h151 26 2 = f4) → (h151 26 3 = f5) → (h151 27 1 = v94) → ((h151 23 10).toInt ≤ w149.toInt) → 24 + 1 - w149.toInt ≤ (n : Int) → EvQ mi_X2_takeClose 75 [some (.ref 23), some (.int f3), some (.int v97), some (.int v93), some (.int w149)] [] (G0 L b) h151 0 0 (QI (fun (r : Int32) (z : Hp) => B r 1 1 ∧ ((0 < (z 23 13).toInt → (z 26 0).toInt ≤ (z 23 10).toInt)) ∧ ((1 < (z 23 13).toInt → (z 26 0).toInt ≤ (z 26 1).toInt ∧ (z 26 1).toInt ≤ (z 23 10).toInt)) ∧ ((2 < (z 23 13).toInt → (z 26 1).toInt ≤ (z 26 2).toInt ∧ (z 26 2).toInt ≤ (z 23 10).toInt)) ∧ ((3 < (z 23 13).toInt → (z 26 2).toInt ≤ (z 26 3).toInt ∧ (z 26 3).toInt ≤ (z 23 10).toInt))) [(23, 10), (23, 13), (25, 999)] (G0 L b) h) := by
          intro n
          induction n with
          | zero =>
            intro w149 h151 b150 hJ152 z153 z154 z155 z156 z157 z158 z159 y75_0 hm75
            exact absurd hm75 (L_zero b150 (by decide))
          | succ n ih75 =>
            intro w149 h151 b150 hJ152 z153 z154 z155 z156 z157 z158 z159 y75_0 hm75
            have z160 := congrArg Int32.toInt z154
            have z161 := congrArg Int32.toInt z153
            have z162 := congrArg Int32.toInt z155
            have z163 := congrArg Int32.toInt z156
            have z164 := congrArg Int32.toInt z157
            have z165 := congrArg Int32.toInt z158
            refine ev_iload rfl rfl rfl ?_
            refine ev_iload_n rfl rfl rfl ?_
            refine ev_icmp_ge rfl rfl (fun c166 => ?_) (fun c166 => ?_)
            · have z167 := w_le c166
              refine ev_aload_n rfl rfl rfl ?_
              refine ev_iload_n rfl rfl rfl ?_
              refine ev_putW (l := 0) (u := 25) hJ152 rfl b105 (by decide) (by decide) rfl rfl rfl fl_X2_44 rfl rfl rfl rfl rfl (fun h171 hJ171 k171 => ?_)
              refine ev_iconst (v := 1) rfl rfl (by decide) ?_
              exact ev_iret rfl rfl rfl ⟨⟨_, rfl, ⟨(by decide : B 1 1 1), (by have z0_ := congrArg Int32.toInt (rd_s k171); have z1_ := congrArg Int32.toInt (rd_o k171 z153 rfl); have z2_ := congrArg Int32.toInt (rd_o k171 z155 rfl); have z3_ := congrArg Int32.toInt (rd_o k171 z156 rfl); have z4_ := congrArg Int32.toInt (rd_o k171 z157 rfl); have z5_ := congrArg Int32.toInt (rd_o k171 z158 rfl); have z_ := w_lits; have zl_ := l_lits; omega), (by have z0_ := congrArg Int32.toInt (rd_s k171); have z1_ := congrArg Int32.toInt (rd_o k171 z153 rfl); have z2_ := congrArg Int32.toInt (rd_o k171 z155 rfl); have z3_ := congrArg Int32.toInt (rd_o k171 z156 rfl); have z4_ := congrArg Int32.toInt (rd_o k171 z157 rfl); have z5_ := congrArg Int32.toInt (rd_o k171 z158 rfl); have z_ := w_lits; have zl_ := l_lits; omega), (by have z0_ := congrArg Int32.toInt (rd_s k171); have z1_ := congrArg Int32.toInt (rd_o k171 z153 rfl); have z2_ := congrArg Int32.toInt (rd_o k171 z155 rfl); have z3_ := congrArg Int32.toInt (rd_o k171 z156 rfl); have z4_ := congrArg Int32.toInt (rd_o k171 z157 rfl); have z5_ := congrArg Int32.toInt (rd_o k171 z158 rfl); have z_ := w_lits; have zl_ := l_lits; omega), (by have z0_ := congrArg Int32.toInt (rd_s k171); have z1_ := congrArg Int32.toInt (rd_o k171 z153 rfl); have z2_ := congrArg Int32.toInt (rd_o k171 z155 rfl); have z3_ := congrArg Int32.toInt (rd_o k171 z156 rfl); have z4_ := congrArg Int32.toInt (rd_o k171 z157 rfl); have z5_ := congrArg Int32.toInt (rd_o k171 z158 rfl); have z_ := w_lits; have zl_ := l_lits; omega)⟩⟩, rfl, hJ171⟩
            · have b168 : B w149 0 23 := R_ltX b150 b105 (Int32.not_le.mp c166) (by decide)
              have b169 : B v97 1 24 := R_ltY b150 b105 (Int32.not_le.mp c166) (by decide)
              have z170 := w_lt (Int32.not_le.mp c166)
              refine ev_aload_n rfl rfl rfl ?_
              refine ev_getR (y := 25) rfl rfl fl_X2_40 rfl rfl rfl rfl ?_
              refine ev_iload rfl rfl rfl ?_
              refine ev_aload_n rfl rfl rfl ?_
              refine ev_getR (y := 25) rfl rfl fl_X2_40 rfl rfl rfl rfl ?_
              refine ev_iload rfl rfl rfl ?_
              refine ev_iload_n rfl rfl rfl ?_
              refine ev_isubB (l := -25) (u := 23) rfl rfl b168 b95 (by decide) (by decide) (by decide) (by decide) (fun v172 b172 e172 g172 => ?_)
              have b173 : B v172 0 23 := ⟨(by have z0_ := congrArg Int32.toInt z154; have z1_ := congrArg Int32.toInt z153; have z2_ := congrArg Int32.toInt z155; have z3_ := congrArg Int32.toInt z156; have z4_ := congrArg Int32.toInt z157; have z5_ := congrArg Int32.toInt z158; have z_ := w_lits; have zl_ := l_lits; omega), (by have z0_ := congrArg Int32.toInt z154; have z1_ := congrArg Int32.toInt z153; have z2_ := congrArg Int32.toInt z155; have z3_ := congrArg Int32.toInt z156; have z4_ := congrArg Int32.toInt z157; have z5_ := congrArg Int32.toInt z158; have z_ := w_lits; have zl_ := l_lits; omega)⟩
              refine ev_ialW (n := 24) (l := 0) (u := 4095) hJ152.1 b173 (by decide) (by decide) (fun _ => rfl) rfl rfl rfl (fun v174 b174 e174 => ?_)
              refine ev_iasW (n := 24) (l := 0) (u := 4095) hJ152 b168 (by decide) (by decide) (fun _ => rfl) b174 (by decide) (by decide) (fun _ => rfl) rfl rfl rfl rfl (fun h175 hJ175 k175 => ?_)
              refine ev_iincB (y := 1) (l := 1) (u := 24) rfl rfl rfl (by decide) rfl rfl b168 (by decide : B 1 1 1) (by decide) (by decide) (by decide) (by decide) (fun v176 b176 e176 => ?_)
              dsimp only [List.set]
              have e176x := e176; rw [show (1 : Int32).toInt = 1 from by decide] at e176x
              refine ev_goto rfl rfl ?_
              exact (ih75 v176 h175 (b176.mono (by decide) (by decide)) hJ175 (rd_a k175 z153 rfl) (rd_a k175 z154 rfl) (rd_a k175 z155 rfl) (rd_a k175 z156 rfl) (rd_a k175 z157 rfl) (rd_a k175 z158 rfl) (rd_a k175 z159 rfl) (by have z0_ := congrArg Int32.toInt (rd_a k175 z154 rfl); have z1_ := congrArg Int32.toInt (rd_a k175 z153 rfl); have z2_ := congrArg Int32.toInt (rd_a k175 z155 rfl); have z3_ := congrArg Int32.toInt (rd_a k175 z156 rfl); have z4_ := congrArg Int32.toInt (rd_a k175 z157 rfl); have z5_ := congrArg Int32.toInt (rd_a k175 z158 rfl); have z_ := w_lits; have zl_ := l_lits; omega) (L_up hm75 (e_p1 e176 (by decide))))
        exact (lp75_148 25 f1 h7 b101 hJ7 (rd_s k7) (rd_o k7 ef1 rfl) (rd_o k7 ef2 rfl) (rd_o k7 ef3 rfl) (rd_o k7 ef4 rfl) (rd_o k7 ef5 rfl) e94 (by have z0_ := congrArg Int32.toInt (rd_o k7 ef1 rfl); have z1_ := congrArg Int32.toInt (rd_s k7); have z2_ := congrArg Int32.toInt (rd_o k7 ef2 rfl); have z3_ := congrArg Int32.toInt (rd_o k7 ef3 rfl); have z4_ := congrArg Int32.toInt (rd_o k7 ef4 rfl); have z5_ := congrArg Int32.toInt (rd_o k7 ef5 rfl); have z_ := w_lits; have zl_ := l_lits; omega) (L_init b101 (by decide)))
      · have b107 : B v97 25 102400 := R_ltY (by decide : B 24 24 24) b97 (Int32.not_le.mp c104) (by decide)
        have z108 := w_lt (Int32.not_le.mp c104)
        rw [show (24 : Int32).toInt = 24 from by decide] at z108
        refine ev_aload_n rfl rfl rfl ?_
        refine ev_bipush (v := 25) rfl rfl (by decide) ?_
        refine ev_putW (l := 0) (u := 25) hJ7 rfl (by decide : B 25 25 25) (by decide) (by decide) rfl rfl rfl fl_X2_44 rfl rfl rfl rfl rfl (fun h177 hJ177 k177 => ?_)
        refine ev_iconst (v := 1) rfl rfl (by decide) ?_
        exact ev_iret rfl rfl rfl ⟨⟨_, rfl, ⟨(by decide : B 1 1 1), (by have z0_ := congrArg Int32.toInt (rd_s k177); have z1_ := congrArg Int32.toInt (rd_o k177 (rd_s k7) rfl); have z2_ := congrArg Int32.toInt (rd_o k177 (rd_o k7 ef2 rfl) rfl); have z3_ := congrArg Int32.toInt (rd_o k177 (rd_o k7 ef3 rfl) rfl); have z4_ := congrArg Int32.toInt (rd_o k177 (rd_o k7 ef4 rfl) rfl); have z5_ := congrArg Int32.toInt (rd_o k177 (rd_o k7 ef5 rfl) rfl); have z_ := w_lits; have zl_ := l_lits; omega), (by have z0_ := congrArg Int32.toInt (rd_s k177); have z1_ := congrArg Int32.toInt (rd_o k177 (rd_s k7) rfl); have z2_ := congrArg Int32.toInt (rd_o k177 (rd_o k7 ef2 rfl) rfl); have z3_ := congrArg Int32.toInt (rd_o k177 (rd_o k7 ef3 rfl) rfl); have z4_ := congrArg Int32.toInt (rd_o k177 (rd_o k7 ef4 rfl) rfl); have z5_ := congrArg Int32.toInt (rd_o k177 (rd_o k7 ef5 rfl) rfl); have z_ := w_lits; have zl_ := l_lits; omega), (by have z0_ := congrArg Int32.toInt (rd_s k177); have z1_ := congrArg Int32.toInt (rd_o k177 (rd_s k7) rfl); have z2_ := congrArg Int32.toInt (rd_o k177 (rd_o k7 ef2 rfl) rfl); have z3_ := congrArg Int32.toInt (rd_o k177 (rd_o k7 ef3 rfl) rfl); have z4_ := congrArg Int32.toInt (rd_o k177 (rd_o k7 ef4 rfl) rfl); have z5_ := congrArg Int32.toInt (rd_o k177 (rd_o k7 ef5 rfl) rfl); have z_ := w_lits; have zl_ := l_lits; omega), (by have z0_ := congrArg Int32.toInt (rd_s k177); have z1_ := congrArg Int32.toInt (rd_o k177 (rd_s k7) rfl); have z2_ := congrArg Int32.toInt (rd_o k177 (rd_o k7 ef2 rfl) rfl); have z3_ := congrArg Int32.toInt (rd_o k177 (rd_o k7 ef3 rfl) rfl); have z4_ := congrArg Int32.toInt (rd_o k177 (rd_o k7 ef4 rfl) rfl); have z5_ := congrArg Int32.toInt (rd_o k177 (rd_o k7 ef5 rfl) rfl); have z_ := w_lits; have zl_ := l_lits; omega)⟩⟩, rfl, hJ177⟩
  · refine ev_iadV (j := 2) (v := f4) rfl rfl rfl (by unfold vp_in; decide) (by decide) (rd_o k7 ef4 rfl) ?_
    refine ev_istore_n rfl rfl rfl rfl ?_
    dsimp only [List.set]
    refine ev_iload_n rfl rfl rfl ?_
    refine ev_aload_n rfl rfl rfl ?_
    refine ev_getV (v := f1) rfl rfl fl_X2_44 rfl rfl rfl (rd_o k7 ef1 rfl) ?_
    refine ev_iload_n rfl rfl rfl ?_
    refine ev_isubB (l := -25) (u := 25) rfl rfl bf1 bf4 (by decide) (by decide) (by decide) (by decide) (fun v178 b178 e178 g178 => ?_)
    refine ev_aload_n rfl rfl rfl ?_
    refine ev_getR (y := 27) rfl rfl fl_X2_50 rfl rfl rfl rfl ?_
    refine ev_aload_n rfl rfl rfl ?_
    refine ev_getV (v := 2) rfl rfl fl_X2_53 rfl rfl rfl (rd_s k7) ?_
    refine ev_ialK (j := 2) (n := 4) (l := 0) (u := 4095) hJ7.1 (by decide : B 2 2 2) (by decide) (by decide) (by decide) rfl rfl rfl rfl (fun v179 b179 e179 => ?_)
    have b180 : B v178 0 25 := ⟨(by have z0_ := congrArg Int32.toInt (rd_o k7 ef1 rfl); have z1_ := congrArg Int32.toInt (rd_s k7); have z2_ := congrArg Int32.toInt (rd_o k7 ef2 rfl); have z3_ := congrArg Int32.toInt (rd_o k7 ef3 rfl); have z4_ := congrArg Int32.toInt (rd_o k7 ef4 rfl); have z5_ := congrArg Int32.toInt (rd_o k7 ef5 rfl); have z_ := w_lits; have zl_ := l_lits; omega), (by have z0_ := congrArg Int32.toInt (rd_o k7 ef1 rfl); have z1_ := congrArg Int32.toInt (rd_s k7); have z2_ := congrArg Int32.toInt (rd_o k7 ef2 rfl); have z3_ := congrArg Int32.toInt (rd_o k7 ef3 rfl); have z4_ := congrArg Int32.toInt (rd_o k7 ef4 rfl); have z5_ := congrArg Int32.toInt (rd_o k7 ef5 rfl); have z_ := w_lits; have zl_ := l_lits; omega)⟩
    refine ev_imulB (l := 0) (u := 102375) rfl rfl b180 b179 (by decide) (by decide) (by decide) (by decide) (by decide) (fun v181 b181 e181 g181 => ?_)
    clear e181
    refine ev_iaddB (l := 0) (u := 102400) rfl rfl bf4 b181 (by decide) (by decide) (by decide) (by decide) (fun v182 b182 e182 g182 => ?_)
    refine ev_istore_n rfl rfl rfl rfl ?_
    dsimp only [List.set]
    refine ev_aload_n rfl rfl rfl ?_
    refine ev_getV (v := f1) rfl rfl fl_X2_44 rfl rfl rfl (rd_o k7 ef1 rfl) ?_
    refine ev_bipush (v := 24) rfl rfl (by decide) ?_
    refine ev_icmp_gt rfl rfl (fun c183 => ?_) (fun c183 => ?_)
    · have b184 : B f1 25 25 := R_ltY (by decide : B 24 24 24) bf1 c183 (by decide)
      have z185 := w_lt c183
      rw [show (24 : Int32).toInt = 24 from by decide] at z185
      refine ev_aload_n rfl rfl rfl ?_
      refine ev_bipush (v := 25) rfl rfl (by decide) ?_
      refine ev_putW (l := 0) (u := 25) hJ7 rfl (by decide : B 25 25 25) (by decide) (by decide) rfl rfl rfl fl_X2_44 rfl rfl rfl rfl rfl (fun h188 hJ188 k188 => ?_)
      refine ev_iconst (v := 1) rfl rfl (by decide) ?_
      exact ev_iret rfl rfl rfl ⟨⟨_, rfl, ⟨(by decide : B 1 1 1), (by have z0_ := congrArg Int32.toInt (rd_s k188); have z1_ := congrArg Int32.toInt (rd_o k188 (rd_s k7) rfl); have z2_ := congrArg Int32.toInt (rd_o k188 (rd_o k7 ef2 rfl) rfl); have z3_ := congrArg Int32.toInt (rd_o k188 (rd_o k7 ef3 rfl) rfl); have z4_ := congrArg Int32.toInt (rd_o k188 (rd_o k7 ef4 rfl) rfl); have z5_ := congrArg Int32.toInt (rd_o k188 (rd_o k7 ef5 rfl) rfl); have z_ := w_lits; have zl_ := l_lits; omega), (by have z0_ := congrArg Int32.toInt (rd_s k188); have z1_ := congrArg Int32.toInt (rd_o k188 (rd_s k7) rfl); have z2_ := congrArg Int32.toInt (rd_o k188 (rd_o k7 ef2 rfl) rfl); have z3_ := congrArg Int32.toInt (rd_o k188 (rd_o k7 ef3 rfl) rfl); have z4_ := congrArg Int32.toInt (rd_o k188 (rd_o k7 ef4 rfl) rfl); have z5_ := congrArg Int32.toInt (rd_o k188 (rd_o k7 ef5 rfl) rfl); have z_ := w_lits; have zl_ := l_lits; omega), (by have z0_ := congrArg Int32.toInt (rd_s k188); have z1_ := congrArg Int32.toInt (rd_o k188 (rd_s k7) rfl); have z2_ := congrArg Int32.toInt (rd_o k188 (rd_o k7 ef2 rfl) rfl); have z3_ := congrArg Int32.toInt (rd_o k188 (rd_o k7 ef3 rfl) rfl); have z4_ := congrArg Int32.toInt (rd_o k188 (rd_o k7 ef4 rfl) rfl); have z5_ := congrArg Int32.toInt (rd_o k188 (rd_o k7 ef5 rfl) rfl); have z_ := w_lits; have zl_ := l_lits; omega), (by have z0_ := congrArg Int32.toInt (rd_s k188); have z1_ := congrArg Int32.toInt (rd_o k188 (rd_s k7) rfl); have z2_ := congrArg Int32.toInt (rd_o k188 (rd_o k7 ef2 rfl) rfl); have z3_ := congrArg Int32.toInt (rd_o k188 (rd_o k7 ef3 rfl) rfl); have z4_ := congrArg Int32.toInt (rd_o k188 (rd_o k7 ef4 rfl) rfl); have z5_ := congrArg Int32.toInt (rd_o k188 (rd_o k7 ef5 rfl) rfl); have z_ := w_lits; have zl_ := l_lits; omega)⟩⟩, rfl, hJ188⟩
    · have b186 : B f1 0 24 := R_leX bf1 (by decide : B 24 24 24) (Int32.not_lt.mp c183) (by decide)
      have z187 := w_le (Int32.not_lt.mp c183)
      rw [show (24 : Int32).toInt = 24 from by decide] at z187
      refine ev_iload_n rfl rfl rfl ?_
      refine ev_bipush (v := 24) rfl rfl (by decide) ?_
      refine ev_icmp_le rfl rfl (fun c189 => ?_) (fun c189 => ?_)
      · have b190 : B v182 0 24 := R_leX b182 (by decide : B 24 24 24) c189 (by decide)
        have z191 := w_le c189
        rw [show (24 : Int32).toInt = 24 from by decide] at z191
        refine ev_aload_n rfl rfl rfl ?_
        refine ev_getV (v := f1) rfl rfl fl_X2_44 rfl rfl rfl (rd_o k7 ef1 rfl) ?_
        refine ev_iload_n rfl rfl rfl ?_
        refine ev_isubV g178 rfl rfl ?_
        refine ev_istore_n rfl rfl rfl rfl ?_
        dsimp only [List.set]
        refine ev_aload_n rfl rfl rfl ?_
        refine ev_getV (v := f1) rfl rfl fl_X2_44 rfl rfl rfl (rd_o k7 ef1 rfl) ?_
        refine ev_istore rfl rfl rfl rfl ?_
        dsimp only [List.set]
        have lp75_233 : ∀ (n : Nat) (w234 : Int32) (h236 : Hp), B w234 0 24 → JW [(23, 10), (23, 13), (25, 999)] h h236 → (h236 23 13 = 2) → (h236 23 10 = f1) → (h236 26 0 = f2) → (h236 26 1 = f3) → (h236 26 2 = f4) → (h236 26 3 = f5) → (h236 27 2 = v179) → ((h236 23 10).toInt ≤ w234.toInt) → 24 + 1 - w234.toInt ≤ (n : Int) → EvQ mi_X2_takeClose 75 [some (.ref 23), some (.int f4), some (.int v182), some (.int v178), some (.int w234)] [] (G0 L b) h236 0 0 (QI (fun (r : Int32) (z : Hp) => B r 1 1 ∧ ((0 < (z 23 13).toInt → (z 26 0).toInt ≤ (z 23 10).toInt)) ∧ ((1 < (z 23 13).toInt → (z 26 0).toInt ≤ (z 26 1).toInt ∧ (z 26 1).toInt ≤ (z 23 10).toInt)) ∧ ((2 < (z 23 13).toInt → (z 26 1).toInt ≤ (z 26 2).toInt ∧ (z 26 2).toInt ≤ (z 23 10).toInt)) ∧ ((3 < (z 23 13).toInt → (z 26 2).toInt ≤ (z 26 3).toInt ∧ (z 26 3).toInt ≤ (z 23 10).toInt))) [(23, 10), (23, 13), (25, 999)] (G0 L b) h) := by
          intro n
          induction n with
          | zero =>
            intro w234 h236 b235 hJ237 z238 z239 z240 z241 z242 z243 z244 y75_0 hm75
            exact absurd hm75 (L_zero b235 (by decide))
          | succ n ih75 =>
            intro w234 h236 b235 hJ237 z238 z239 z240 z241 z242 z243 z244 y75_0 hm75
            have z245 := congrArg Int32.toInt z239
            have z246 := congrArg Int32.toInt z238
            have z247 := congrArg Int32.toInt z240
            have z248 := congrArg Int32.toInt z241
            have z249 := congrArg Int32.toInt z242
            have z250 := congrArg Int32.toInt z243
            refine ev_iload rfl rfl rfl ?_
            refine ev_iload_n rfl rfl rfl ?_
            refine ev_icmp_ge rfl rfl (fun c251 => ?_) (fun c251 => ?_)
            · have z252 := w_le c251
              refine ev_aload_n rfl rfl rfl ?_
              refine ev_iload_n rfl rfl rfl ?_
              refine ev_putW (l := 0) (u := 25) hJ237 rfl b190 (by decide) (by decide) rfl rfl rfl fl_X2_44 rfl rfl rfl rfl rfl (fun h256 hJ256 k256 => ?_)
              refine ev_iconst (v := 1) rfl rfl (by decide) ?_
              exact ev_iret rfl rfl rfl ⟨⟨_, rfl, ⟨(by decide : B 1 1 1), (by have z0_ := congrArg Int32.toInt (rd_s k256); have z1_ := congrArg Int32.toInt (rd_o k256 z238 rfl); have z2_ := congrArg Int32.toInt (rd_o k256 z240 rfl); have z3_ := congrArg Int32.toInt (rd_o k256 z241 rfl); have z4_ := congrArg Int32.toInt (rd_o k256 z242 rfl); have z5_ := congrArg Int32.toInt (rd_o k256 z243 rfl); have z_ := w_lits; have zl_ := l_lits; omega), (by have z0_ := congrArg Int32.toInt (rd_s k256); have z1_ := congrArg Int32.toInt (rd_o k256 z238 rfl); have z2_ := congrArg Int32.toInt (rd_o k256 z240 rfl); have z3_ := congrArg Int32.toInt (rd_o k256 z241 rfl); have z4_ := congrArg Int32.toInt (rd_o k256 z242 rfl); have z5_ := congrArg Int32.toInt (rd_o k256 z243 rfl); have z_ := w_lits; have zl_ := l_lits; omega), (by have z0_ := congrArg Int32.toInt (rd_s k256); have z1_ := congrArg Int32.toInt (rd_o k256 z238 rfl); have z2_ := congrArg Int32.toInt (rd_o k256 z240 rfl); have z3_ := congrArg Int32.toInt (rd_o k256 z241 rfl); have z4_ := congrArg Int32.toInt (rd_o k256 z242 rfl); have z5_ := congrArg Int32.toInt (rd_o k256 z243 rfl); have z_ := w_lits; have zl_ := l_lits; omega), (by have z0_ := congrArg Int32.toInt (rd_s k256); have z1_ := congrArg Int32.toInt (rd_o k256 z238 rfl); have z2_ := congrArg Int32.toInt (rd_o k256 z240 rfl); have z3_ := congrArg Int32.toInt (rd_o k256 z241 rfl); have z4_ := congrArg Int32.toInt (rd_o k256 z242 rfl); have z5_ := congrArg Int32.toInt (rd_o k256 z243 rfl); have z_ := w_lits; have zl_ := l_lits; omega)⟩⟩, rfl, hJ256⟩
            · have b253 : B w234 0 23 := R_ltX b235 b190 (Int32.not_le.mp c251) (by decide)
              have b254 : B v182 1 24 := R_ltY b235 b190 (Int32.not_le.mp c251) (by decide)
              have z255 := w_lt (Int32.not_le.mp c251)
              refine ev_aload_n rfl rfl rfl ?_
              refine ev_getR (y := 25) rfl rfl fl_X2_40 rfl rfl rfl rfl ?_
              refine ev_iload rfl rfl rfl ?_
              refine ev_aload_n rfl rfl rfl ?_
              refine ev_getR (y := 25) rfl rfl fl_X2_40 rfl rfl rfl rfl ?_
              refine ev_iload rfl rfl rfl ?_
              refine ev_iload_n rfl rfl rfl ?_
              refine ev_isubB (l := -25) (u := 23) rfl rfl b253 b180 (by decide) (by decide) (by decide) (by decide) (fun v257 b257 e257 g257 => ?_)
              have b258 : B v257 0 23 := ⟨(by have z0_ := congrArg Int32.toInt z239; have z1_ := congrArg Int32.toInt z238; have z2_ := congrArg Int32.toInt z240; have z3_ := congrArg Int32.toInt z241; have z4_ := congrArg Int32.toInt z242; have z5_ := congrArg Int32.toInt z243; have z_ := w_lits; have zl_ := l_lits; omega), (by have z0_ := congrArg Int32.toInt z239; have z1_ := congrArg Int32.toInt z238; have z2_ := congrArg Int32.toInt z240; have z3_ := congrArg Int32.toInt z241; have z4_ := congrArg Int32.toInt z242; have z5_ := congrArg Int32.toInt z243; have z_ := w_lits; have zl_ := l_lits; omega)⟩
              refine ev_ialW (n := 24) (l := 0) (u := 4095) hJ237.1 b258 (by decide) (by decide) (fun _ => rfl) rfl rfl rfl (fun v259 b259 e259 => ?_)
              refine ev_iasW (n := 24) (l := 0) (u := 4095) hJ237 b253 (by decide) (by decide) (fun _ => rfl) b259 (by decide) (by decide) (fun _ => rfl) rfl rfl rfl rfl (fun h260 hJ260 k260 => ?_)
              refine ev_iincB (y := 1) (l := 1) (u := 24) rfl rfl rfl (by decide) rfl rfl b253 (by decide : B 1 1 1) (by decide) (by decide) (by decide) (by decide) (fun v261 b261 e261 => ?_)
              dsimp only [List.set]
              have e261x := e261; rw [show (1 : Int32).toInt = 1 from by decide] at e261x
              refine ev_goto rfl rfl ?_
              exact (ih75 v261 h260 (b261.mono (by decide) (by decide)) hJ260 (rd_a k260 z238 rfl) (rd_a k260 z239 rfl) (rd_a k260 z240 rfl) (rd_a k260 z241 rfl) (rd_a k260 z242 rfl) (rd_a k260 z243 rfl) (rd_a k260 z244 rfl) (by have z0_ := congrArg Int32.toInt (rd_a k260 z239 rfl); have z1_ := congrArg Int32.toInt (rd_a k260 z238 rfl); have z2_ := congrArg Int32.toInt (rd_a k260 z240 rfl); have z3_ := congrArg Int32.toInt (rd_a k260 z241 rfl); have z4_ := congrArg Int32.toInt (rd_a k260 z242 rfl); have z5_ := congrArg Int32.toInt (rd_a k260 z243 rfl); have z_ := w_lits; have zl_ := l_lits; omega) (L_up hm75 (e_p1 e261 (by decide))))
        exact (lp75_233 25 f1 h7 b186 hJ7 (rd_s k7) (rd_o k7 ef1 rfl) (rd_o k7 ef2 rfl) (rd_o k7 ef3 rfl) (rd_o k7 ef4 rfl) (rd_o k7 ef5 rfl) e179 (by have z0_ := congrArg Int32.toInt (rd_o k7 ef1 rfl); have z1_ := congrArg Int32.toInt (rd_s k7); have z2_ := congrArg Int32.toInt (rd_o k7 ef2 rfl); have z3_ := congrArg Int32.toInt (rd_o k7 ef3 rfl); have z4_ := congrArg Int32.toInt (rd_o k7 ef4 rfl); have z5_ := congrArg Int32.toInt (rd_o k7 ef5 rfl); have z_ := w_lits; have zl_ := l_lits; omega) (L_init b186 (by decide)))
      · have b192 : B v182 25 102400 := R_ltY (by decide : B 24 24 24) b182 (Int32.not_le.mp c189) (by decide)
        have z193 := w_lt (Int32.not_le.mp c189)
        rw [show (24 : Int32).toInt = 24 from by decide] at z193
        refine ev_aload_n rfl rfl rfl ?_
        refine ev_bipush (v := 25) rfl rfl (by decide) ?_
        refine ev_putW (l := 0) (u := 25) hJ7 rfl (by decide : B 25 25 25) (by decide) (by decide) rfl rfl rfl fl_X2_44 rfl rfl rfl rfl rfl (fun h262 hJ262 k262 => ?_)
        refine ev_iconst (v := 1) rfl rfl (by decide) ?_
        exact ev_iret rfl rfl rfl ⟨⟨_, rfl, ⟨(by decide : B 1 1 1), (by have z0_ := congrArg Int32.toInt (rd_s k262); have z1_ := congrArg Int32.toInt (rd_o k262 (rd_s k7) rfl); have z2_ := congrArg Int32.toInt (rd_o k262 (rd_o k7 ef2 rfl) rfl); have z3_ := congrArg Int32.toInt (rd_o k262 (rd_o k7 ef3 rfl) rfl); have z4_ := congrArg Int32.toInt (rd_o k262 (rd_o k7 ef4 rfl) rfl); have z5_ := congrArg Int32.toInt (rd_o k262 (rd_o k7 ef5 rfl) rfl); have z_ := w_lits; have zl_ := l_lits; omega), (by have z0_ := congrArg Int32.toInt (rd_s k262); have z1_ := congrArg Int32.toInt (rd_o k262 (rd_s k7) rfl); have z2_ := congrArg Int32.toInt (rd_o k262 (rd_o k7 ef2 rfl) rfl); have z3_ := congrArg Int32.toInt (rd_o k262 (rd_o k7 ef3 rfl) rfl); have z4_ := congrArg Int32.toInt (rd_o k262 (rd_o k7 ef4 rfl) rfl); have z5_ := congrArg Int32.toInt (rd_o k262 (rd_o k7 ef5 rfl) rfl); have z_ := w_lits; have zl_ := l_lits; omega), (by have z0_ := congrArg Int32.toInt (rd_s k262); have z1_ := congrArg Int32.toInt (rd_o k262 (rd_s k7) rfl); have z2_ := congrArg Int32.toInt (rd_o k262 (rd_o k7 ef2 rfl) rfl); have z3_ := congrArg Int32.toInt (rd_o k262 (rd_o k7 ef3 rfl) rfl); have z4_ := congrArg Int32.toInt (rd_o k262 (rd_o k7 ef4 rfl) rfl); have z5_ := congrArg Int32.toInt (rd_o k262 (rd_o k7 ef5 rfl) rfl); have z_ := w_lits; have zl_ := l_lits; omega), (by have z0_ := congrArg Int32.toInt (rd_s k262); have z1_ := congrArg Int32.toInt (rd_o k262 (rd_s k7) rfl); have z2_ := congrArg Int32.toInt (rd_o k262 (rd_o k7 ef2 rfl) rfl); have z3_ := congrArg Int32.toInt (rd_o k262 (rd_o k7 ef3 rfl) rfl); have z4_ := congrArg Int32.toInt (rd_o k262 (rd_o k7 ef4 rfl) rfl); have z5_ := congrArg Int32.toInt (rd_o k262 (rd_o k7 ef5 rfl) rfl); have z_ := w_lits; have zl_ := l_lits; omega)⟩⟩, rfl, hJ262⟩
  · refine ev_iadV (j := 3) (v := f5) rfl rfl rfl (by unfold vp_in; decide) (by decide) (rd_o k7 ef5 rfl) ?_
    refine ev_istore_n rfl rfl rfl rfl ?_
    dsimp only [List.set]
    refine ev_iload_n rfl rfl rfl ?_
    refine ev_aload_n rfl rfl rfl ?_
    refine ev_getV (v := f1) rfl rfl fl_X2_44 rfl rfl rfl (rd_o k7 ef1 rfl) ?_
    refine ev_iload_n rfl rfl rfl ?_
    refine ev_isubB (l := -25) (u := 25) rfl rfl bf1 bf5 (by decide) (by decide) (by decide) (by decide) (fun v263 b263 e263 g263 => ?_)
    refine ev_aload_n rfl rfl rfl ?_
    refine ev_getR (y := 27) rfl rfl fl_X2_50 rfl rfl rfl rfl ?_
    refine ev_aload_n rfl rfl rfl ?_
    refine ev_getV (v := 3) rfl rfl fl_X2_53 rfl rfl rfl (rd_s k7) ?_
    refine ev_ialK (j := 3) (n := 4) (l := 0) (u := 4095) hJ7.1 (by decide : B 3 3 3) (by decide) (by decide) (by decide) rfl rfl rfl rfl (fun v264 b264 e264 => ?_)
    have b265 : B v263 0 25 := ⟨(by have z0_ := congrArg Int32.toInt (rd_o k7 ef1 rfl); have z1_ := congrArg Int32.toInt (rd_s k7); have z2_ := congrArg Int32.toInt (rd_o k7 ef2 rfl); have z3_ := congrArg Int32.toInt (rd_o k7 ef3 rfl); have z4_ := congrArg Int32.toInt (rd_o k7 ef4 rfl); have z5_ := congrArg Int32.toInt (rd_o k7 ef5 rfl); have z_ := w_lits; have zl_ := l_lits; omega), (by have z0_ := congrArg Int32.toInt (rd_o k7 ef1 rfl); have z1_ := congrArg Int32.toInt (rd_s k7); have z2_ := congrArg Int32.toInt (rd_o k7 ef2 rfl); have z3_ := congrArg Int32.toInt (rd_o k7 ef3 rfl); have z4_ := congrArg Int32.toInt (rd_o k7 ef4 rfl); have z5_ := congrArg Int32.toInt (rd_o k7 ef5 rfl); have z_ := w_lits; have zl_ := l_lits; omega)⟩
    refine ev_imulB (l := 0) (u := 102375) rfl rfl b265 b264 (by decide) (by decide) (by decide) (by decide) (by decide) (fun v266 b266 e266 g266 => ?_)
    clear e266
    refine ev_iaddB (l := 0) (u := 102400) rfl rfl bf5 b266 (by decide) (by decide) (by decide) (by decide) (fun v267 b267 e267 g267 => ?_)
    refine ev_istore_n rfl rfl rfl rfl ?_
    dsimp only [List.set]
    refine ev_aload_n rfl rfl rfl ?_
    refine ev_getV (v := f1) rfl rfl fl_X2_44 rfl rfl rfl (rd_o k7 ef1 rfl) ?_
    refine ev_bipush (v := 24) rfl rfl (by decide) ?_
    refine ev_icmp_gt rfl rfl (fun c268 => ?_) (fun c268 => ?_)
    · have b269 : B f1 25 25 := R_ltY (by decide : B 24 24 24) bf1 c268 (by decide)
      have z270 := w_lt c268
      rw [show (24 : Int32).toInt = 24 from by decide] at z270
      refine ev_aload_n rfl rfl rfl ?_
      refine ev_bipush (v := 25) rfl rfl (by decide) ?_
      refine ev_putW (l := 0) (u := 25) hJ7 rfl (by decide : B 25 25 25) (by decide) (by decide) rfl rfl rfl fl_X2_44 rfl rfl rfl rfl rfl (fun h273 hJ273 k273 => ?_)
      refine ev_iconst (v := 1) rfl rfl (by decide) ?_
      exact ev_iret rfl rfl rfl ⟨⟨_, rfl, ⟨(by decide : B 1 1 1), (by have z0_ := congrArg Int32.toInt (rd_s k273); have z1_ := congrArg Int32.toInt (rd_o k273 (rd_s k7) rfl); have z2_ := congrArg Int32.toInt (rd_o k273 (rd_o k7 ef2 rfl) rfl); have z3_ := congrArg Int32.toInt (rd_o k273 (rd_o k7 ef3 rfl) rfl); have z4_ := congrArg Int32.toInt (rd_o k273 (rd_o k7 ef4 rfl) rfl); have z5_ := congrArg Int32.toInt (rd_o k273 (rd_o k7 ef5 rfl) rfl); have z_ := w_lits; have zl_ := l_lits; omega), (by have z0_ := congrArg Int32.toInt (rd_s k273); have z1_ := congrArg Int32.toInt (rd_o k273 (rd_s k7) rfl); have z2_ := congrArg Int32.toInt (rd_o k273 (rd_o k7 ef2 rfl) rfl); have z3_ := congrArg Int32.toInt (rd_o k273 (rd_o k7 ef3 rfl) rfl); have z4_ := congrArg Int32.toInt (rd_o k273 (rd_o k7 ef4 rfl) rfl); have z5_ := congrArg Int32.toInt (rd_o k273 (rd_o k7 ef5 rfl) rfl); have z_ := w_lits; have zl_ := l_lits; omega), (by have z0_ := congrArg Int32.toInt (rd_s k273); have z1_ := congrArg Int32.toInt (rd_o k273 (rd_s k7) rfl); have z2_ := congrArg Int32.toInt (rd_o k273 (rd_o k7 ef2 rfl) rfl); have z3_ := congrArg Int32.toInt (rd_o k273 (rd_o k7 ef3 rfl) rfl); have z4_ := congrArg Int32.toInt (rd_o k273 (rd_o k7 ef4 rfl) rfl); have z5_ := congrArg Int32.toInt (rd_o k273 (rd_o k7 ef5 rfl) rfl); have z_ := w_lits; have zl_ := l_lits; omega), (by have z0_ := congrArg Int32.toInt (rd_s k273); have z1_ := congrArg Int32.toInt (rd_o k273 (rd_s k7) rfl); have z2_ := congrArg Int32.toInt (rd_o k273 (rd_o k7 ef2 rfl) rfl); have z3_ := congrArg Int32.toInt (rd_o k273 (rd_o k7 ef3 rfl) rfl); have z4_ := congrArg Int32.toInt (rd_o k273 (rd_o k7 ef4 rfl) rfl); have z5_ := congrArg Int32.toInt (rd_o k273 (rd_o k7 ef5 rfl) rfl); have z_ := w_lits; have zl_ := l_lits; omega)⟩⟩, rfl, hJ273⟩
    · have b271 : B f1 0 24 := R_leX bf1 (by decide : B 24 24 24) (Int32.not_lt.mp c268) (by decide)
      have z272 := w_le (Int32.not_lt.mp c268)
      rw [show (24 : Int32).toInt = 24 from by decide] at z272
      refine ev_iload_n rfl rfl rfl ?_
      refine ev_bipush (v := 24) rfl rfl (by decide) ?_
      refine ev_icmp_le rfl rfl (fun c274 => ?_) (fun c274 => ?_)
      · have b275 : B v267 0 24 := R_leX b267 (by decide : B 24 24 24) c274 (by decide)
        have z276 := w_le c274
        rw [show (24 : Int32).toInt = 24 from by decide] at z276
        refine ev_aload_n rfl rfl rfl ?_
        refine ev_getV (v := f1) rfl rfl fl_X2_44 rfl rfl rfl (rd_o k7 ef1 rfl) ?_
        refine ev_iload_n rfl rfl rfl ?_
        refine ev_isubV g263 rfl rfl ?_
        refine ev_istore_n rfl rfl rfl rfl ?_
        dsimp only [List.set]
        refine ev_aload_n rfl rfl rfl ?_
        refine ev_getV (v := f1) rfl rfl fl_X2_44 rfl rfl rfl (rd_o k7 ef1 rfl) ?_
        refine ev_istore rfl rfl rfl rfl ?_
        dsimp only [List.set]
        have lp75_318 : ∀ (n : Nat) (w319 : Int32) (h321 : Hp), B w319 0 24 → JW [(23, 10), (23, 13), (25, 999)] h h321 → (h321 23 13 = 3) → (h321 23 10 = f1) → (h321 26 0 = f2) → (h321 26 1 = f3) → (h321 26 2 = f4) → (h321 26 3 = f5) → (h321 27 3 = v264) → ((h321 23 10).toInt ≤ w319.toInt) → 24 + 1 - w319.toInt ≤ (n : Int) → EvQ mi_X2_takeClose 75 [some (.ref 23), some (.int f5), some (.int v267), some (.int v263), some (.int w319)] [] (G0 L b) h321 0 0 (QI (fun (r : Int32) (z : Hp) => B r 1 1 ∧ ((0 < (z 23 13).toInt → (z 26 0).toInt ≤ (z 23 10).toInt)) ∧ ((1 < (z 23 13).toInt → (z 26 0).toInt ≤ (z 26 1).toInt ∧ (z 26 1).toInt ≤ (z 23 10).toInt)) ∧ ((2 < (z 23 13).toInt → (z 26 1).toInt ≤ (z 26 2).toInt ∧ (z 26 2).toInt ≤ (z 23 10).toInt)) ∧ ((3 < (z 23 13).toInt → (z 26 2).toInt ≤ (z 26 3).toInt ∧ (z 26 3).toInt ≤ (z 23 10).toInt))) [(23, 10), (23, 13), (25, 999)] (G0 L b) h) := by
          intro n
          induction n with
          | zero =>
            intro w319 h321 b320 hJ322 z323 z324 z325 z326 z327 z328 z329 y75_0 hm75
            exact absurd hm75 (L_zero b320 (by decide))
          | succ n ih75 =>
            intro w319 h321 b320 hJ322 z323 z324 z325 z326 z327 z328 z329 y75_0 hm75
            have z330 := congrArg Int32.toInt z324
            have z331 := congrArg Int32.toInt z323
            have z332 := congrArg Int32.toInt z325
            have z333 := congrArg Int32.toInt z326
            have z334 := congrArg Int32.toInt z327
            have z335 := congrArg Int32.toInt z328
            refine ev_iload rfl rfl rfl ?_
            refine ev_iload_n rfl rfl rfl ?_
            refine ev_icmp_ge rfl rfl (fun c336 => ?_) (fun c336 => ?_)
            · have z337 := w_le c336
              refine ev_aload_n rfl rfl rfl ?_
              refine ev_iload_n rfl rfl rfl ?_
              refine ev_putW (l := 0) (u := 25) hJ322 rfl b275 (by decide) (by decide) rfl rfl rfl fl_X2_44 rfl rfl rfl rfl rfl (fun h341 hJ341 k341 => ?_)
              refine ev_iconst (v := 1) rfl rfl (by decide) ?_
              exact ev_iret rfl rfl rfl ⟨⟨_, rfl, ⟨(by decide : B 1 1 1), (by have z0_ := congrArg Int32.toInt (rd_s k341); have z1_ := congrArg Int32.toInt (rd_o k341 z323 rfl); have z2_ := congrArg Int32.toInt (rd_o k341 z325 rfl); have z3_ := congrArg Int32.toInt (rd_o k341 z326 rfl); have z4_ := congrArg Int32.toInt (rd_o k341 z327 rfl); have z5_ := congrArg Int32.toInt (rd_o k341 z328 rfl); have z_ := w_lits; have zl_ := l_lits; omega), (by have z0_ := congrArg Int32.toInt (rd_s k341); have z1_ := congrArg Int32.toInt (rd_o k341 z323 rfl); have z2_ := congrArg Int32.toInt (rd_o k341 z325 rfl); have z3_ := congrArg Int32.toInt (rd_o k341 z326 rfl); have z4_ := congrArg Int32.toInt (rd_o k341 z327 rfl); have z5_ := congrArg Int32.toInt (rd_o k341 z328 rfl); have z_ := w_lits; have zl_ := l_lits; omega), (by have z0_ := congrArg Int32.toInt (rd_s k341); have z1_ := congrArg Int32.toInt (rd_o k341 z323 rfl); have z2_ := congrArg Int32.toInt (rd_o k341 z325 rfl); have z3_ := congrArg Int32.toInt (rd_o k341 z326 rfl); have z4_ := congrArg Int32.toInt (rd_o k341 z327 rfl); have z5_ := congrArg Int32.toInt (rd_o k341 z328 rfl); have z_ := w_lits; have zl_ := l_lits; omega), (by have z0_ := congrArg Int32.toInt (rd_s k341); have z1_ := congrArg Int32.toInt (rd_o k341 z323 rfl); have z2_ := congrArg Int32.toInt (rd_o k341 z325 rfl); have z3_ := congrArg Int32.toInt (rd_o k341 z326 rfl); have z4_ := congrArg Int32.toInt (rd_o k341 z327 rfl); have z5_ := congrArg Int32.toInt (rd_o k341 z328 rfl); have z_ := w_lits; have zl_ := l_lits; omega)⟩⟩, rfl, hJ341⟩
            · have b338 : B w319 0 23 := R_ltX b320 b275 (Int32.not_le.mp c336) (by decide)
              have b339 : B v267 1 24 := R_ltY b320 b275 (Int32.not_le.mp c336) (by decide)
              have z340 := w_lt (Int32.not_le.mp c336)
              refine ev_aload_n rfl rfl rfl ?_
              refine ev_getR (y := 25) rfl rfl fl_X2_40 rfl rfl rfl rfl ?_
              refine ev_iload rfl rfl rfl ?_
              refine ev_aload_n rfl rfl rfl ?_
              refine ev_getR (y := 25) rfl rfl fl_X2_40 rfl rfl rfl rfl ?_
              refine ev_iload rfl rfl rfl ?_
              refine ev_iload_n rfl rfl rfl ?_
              refine ev_isubB (l := -25) (u := 23) rfl rfl b338 b265 (by decide) (by decide) (by decide) (by decide) (fun v342 b342 e342 g342 => ?_)
              have b343 : B v342 0 23 := ⟨(by have z0_ := congrArg Int32.toInt z324; have z1_ := congrArg Int32.toInt z323; have z2_ := congrArg Int32.toInt z325; have z3_ := congrArg Int32.toInt z326; have z4_ := congrArg Int32.toInt z327; have z5_ := congrArg Int32.toInt z328; have z_ := w_lits; have zl_ := l_lits; omega), (by have z0_ := congrArg Int32.toInt z324; have z1_ := congrArg Int32.toInt z323; have z2_ := congrArg Int32.toInt z325; have z3_ := congrArg Int32.toInt z326; have z4_ := congrArg Int32.toInt z327; have z5_ := congrArg Int32.toInt z328; have z_ := w_lits; have zl_ := l_lits; omega)⟩
              refine ev_ialW (n := 24) (l := 0) (u := 4095) hJ322.1 b343 (by decide) (by decide) (fun _ => rfl) rfl rfl rfl (fun v344 b344 e344 => ?_)
              refine ev_iasW (n := 24) (l := 0) (u := 4095) hJ322 b338 (by decide) (by decide) (fun _ => rfl) b344 (by decide) (by decide) (fun _ => rfl) rfl rfl rfl rfl (fun h345 hJ345 k345 => ?_)
              refine ev_iincB (y := 1) (l := 1) (u := 24) rfl rfl rfl (by decide) rfl rfl b338 (by decide : B 1 1 1) (by decide) (by decide) (by decide) (by decide) (fun v346 b346 e346 => ?_)
              dsimp only [List.set]
              have e346x := e346; rw [show (1 : Int32).toInt = 1 from by decide] at e346x
              refine ev_goto rfl rfl ?_
              exact (ih75 v346 h345 (b346.mono (by decide) (by decide)) hJ345 (rd_a k345 z323 rfl) (rd_a k345 z324 rfl) (rd_a k345 z325 rfl) (rd_a k345 z326 rfl) (rd_a k345 z327 rfl) (rd_a k345 z328 rfl) (rd_a k345 z329 rfl) (by have z0_ := congrArg Int32.toInt (rd_a k345 z324 rfl); have z1_ := congrArg Int32.toInt (rd_a k345 z323 rfl); have z2_ := congrArg Int32.toInt (rd_a k345 z325 rfl); have z3_ := congrArg Int32.toInt (rd_a k345 z326 rfl); have z4_ := congrArg Int32.toInt (rd_a k345 z327 rfl); have z5_ := congrArg Int32.toInt (rd_a k345 z328 rfl); have z_ := w_lits; have zl_ := l_lits; omega) (L_up hm75 (e_p1 e346 (by decide))))
        exact (lp75_318 25 f1 h7 b271 hJ7 (rd_s k7) (rd_o k7 ef1 rfl) (rd_o k7 ef2 rfl) (rd_o k7 ef3 rfl) (rd_o k7 ef4 rfl) (rd_o k7 ef5 rfl) e264 (by have z0_ := congrArg Int32.toInt (rd_o k7 ef1 rfl); have z1_ := congrArg Int32.toInt (rd_s k7); have z2_ := congrArg Int32.toInt (rd_o k7 ef2 rfl); have z3_ := congrArg Int32.toInt (rd_o k7 ef3 rfl); have z4_ := congrArg Int32.toInt (rd_o k7 ef4 rfl); have z5_ := congrArg Int32.toInt (rd_o k7 ef5 rfl); have z_ := w_lits; have zl_ := l_lits; omega) (L_init b271 (by decide)))
      · have b277 : B v267 25 102400 := R_ltY (by decide : B 24 24 24) b267 (Int32.not_le.mp c274) (by decide)
        have z278 := w_lt (Int32.not_le.mp c274)
        rw [show (24 : Int32).toInt = 24 from by decide] at z278
        refine ev_aload_n rfl rfl rfl ?_
        refine ev_bipush (v := 25) rfl rfl (by decide) ?_
        refine ev_putW (l := 0) (u := 25) hJ7 rfl (by decide : B 25 25 25) (by decide) (by decide) rfl rfl rfl fl_X2_44 rfl rfl rfl rfl rfl (fun h347 hJ347 k347 => ?_)
        refine ev_iconst (v := 1) rfl rfl (by decide) ?_
        exact ev_iret rfl rfl rfl ⟨⟨_, rfl, ⟨(by decide : B 1 1 1), (by have z0_ := congrArg Int32.toInt (rd_s k347); have z1_ := congrArg Int32.toInt (rd_o k347 (rd_s k7) rfl); have z2_ := congrArg Int32.toInt (rd_o k347 (rd_o k7 ef2 rfl) rfl); have z3_ := congrArg Int32.toInt (rd_o k347 (rd_o k7 ef3 rfl) rfl); have z4_ := congrArg Int32.toInt (rd_o k347 (rd_o k7 ef4 rfl) rfl); have z5_ := congrArg Int32.toInt (rd_o k347 (rd_o k7 ef5 rfl) rfl); have z_ := w_lits; have zl_ := l_lits; omega), (by have z0_ := congrArg Int32.toInt (rd_s k347); have z1_ := congrArg Int32.toInt (rd_o k347 (rd_s k7) rfl); have z2_ := congrArg Int32.toInt (rd_o k347 (rd_o k7 ef2 rfl) rfl); have z3_ := congrArg Int32.toInt (rd_o k347 (rd_o k7 ef3 rfl) rfl); have z4_ := congrArg Int32.toInt (rd_o k347 (rd_o k7 ef4 rfl) rfl); have z5_ := congrArg Int32.toInt (rd_o k347 (rd_o k7 ef5 rfl) rfl); have z_ := w_lits; have zl_ := l_lits; omega), (by have z0_ := congrArg Int32.toInt (rd_s k347); have z1_ := congrArg Int32.toInt (rd_o k347 (rd_s k7) rfl); have z2_ := congrArg Int32.toInt (rd_o k347 (rd_o k7 ef2 rfl) rfl); have z3_ := congrArg Int32.toInt (rd_o k347 (rd_o k7 ef3 rfl) rfl); have z4_ := congrArg Int32.toInt (rd_o k347 (rd_o k7 ef4 rfl) rfl); have z5_ := congrArg Int32.toInt (rd_o k347 (rd_o k7 ef5 rfl) rfl); have z_ := w_lits; have zl_ := l_lits; omega), (by have z0_ := congrArg Int32.toInt (rd_s k347); have z1_ := congrArg Int32.toInt (rd_o k347 (rd_s k7) rfl); have z2_ := congrArg Int32.toInt (rd_o k347 (rd_o k7 ef2 rfl) rfl); have z3_ := congrArg Int32.toInt (rd_o k347 (rd_o k7 ef3 rfl) rfl); have z4_ := congrArg Int32.toInt (rd_o k347 (rd_o k7 ef4 rfl) rfl); have z5_ := congrArg Int32.toInt (rd_o k347 (rd_o k7 ef5 rfl) rfl); have z_ := w_lits; have zl_ := l_lits; omega)⟩⟩, rfl, hJ347⟩

set_option maxRecDepth 100000 in
set_option maxHeartbeats 4000000 in
theorem w_X2_takeOpen_23 (L : Nat) (b : Bool) (h : Hp) (hB : Bx h) (rp0 : (0 < (h 23 13).toInt → (h 26 0).toInt ≤ (h 23 10).toInt)) (rp1 : (1 < (h 23 13).toInt → (h 26 0).toInt ≤ (h 26 1).toInt ∧ (h 26 1).toInt ≤ (h 23 10).toInt)) (rp2 : (2 < (h 23 13).toInt → (h 26 1).toInt ≤ (h 26 2).toInt ∧ (h 26 2).toInt ≤ (h 23 10).toInt)) (rp3 : (3 < (h 23 13).toInt → (h 26 2).toInt ≤ (h 26 3).toInt ∧ (h 26 3).toInt ≤ (h 23 10).toInt)) : EvI mi_X2_takeOpen [.ref 23] (G0 L b) h (fun (r : Int32) (z : Hp) => B r 0 3 ∧ ((0 < (z 23 13).toInt → (z 26 0).toInt ≤ (z 23 10).toInt)) ∧ ((1 < (z 23 13).toInt → (z 26 0).toInt ≤ (z 26 1).toInt ∧ (z 26 1).toInt ≤ (z 23 10).toInt)) ∧ ((2 < (z 23 13).toInt → (z 26 1).toInt ≤ (z 26 2).toInt ∧ (z 26 2).toInt ≤ (z 23 10).toInt)) ∧ ((3 < (z 23 13).toInt → (z 26 2).toInt ≤ (z 26 3).toInt ∧ (z 26 3).toInt ≤ (z 23 10).toInt)) ∧ (r.toInt = 3 → ¬ (z 23 7).toInt = 0)) [(23, 7), (23, 8), (23, 13), (26, 999), (27, 999)] := by
  refine EvM.of2 (lo := [some (.ref 23)]) pf_X2_takeOpen ok_X2_takeOpen rfl rfl ?_
  have hJ0 : JW [(23, 7), (23, 8), (23, 13), (26, 999), (27, 999)] h h := JW.refl hB
  obtain ⟨f1, ef1⟩ : ∃ f_, h 23 10 = f_ := ⟨_, rfl⟩
  have bf1 : B f1 0 25 := by have z_ := hJ0.1 23 10; rw [ef1] at z_; exact z_
  have zf1 := congrArg Int32.toInt ef1
  obtain ⟨f2, ef2⟩ : ∃ f_, h 23 13 = f_ := ⟨_, rfl⟩
  have bf2 : B f2 0 4 := by have z_ := hJ0.1 23 13; rw [ef2] at z_; exact z_
  have zf2 := congrArg Int32.toInt ef2
  obtain ⟨f3, ef3⟩ : ∃ f_, h 26 0 = f_ := ⟨_, rfl⟩
  have bf3 : B f3 0 25 := by have z_ := hJ0.1 26 0; rw [ef3] at z_; exact z_
  have zf3 := congrArg Int32.toInt ef3
  obtain ⟨f4, ef4⟩ : ∃ f_, h 26 1 = f_ := ⟨_, rfl⟩
  have bf4 : B f4 0 25 := by have z_ := hJ0.1 26 1; rw [ef4] at z_; exact z_
  have zf4 := congrArg Int32.toInt ef4
  obtain ⟨f5, ef5⟩ : ∃ f_, h 26 2 = f_ := ⟨_, rfl⟩
  have bf5 : B f5 0 25 := by have z_ := hJ0.1 26 2; rw [ef5] at z_; exact z_
  have zf5 := congrArg Int32.toInt ef5
  obtain ⟨f6, ef6⟩ : ∃ f_, h 26 3 = f_ := ⟨_, rfl⟩
  have bf6 : B f6 0 25 := by have z_ := hJ0.1 26 3; rw [ef6] at z_; exact z_
  have zf6 := congrArg Int32.toInt ef6
  obtain ⟨f7, ef7⟩ : ∃ f_, h 23 7 = f_ := ⟨_, rfl⟩
  have bf7 : B f7 (-2147483648) 2147483647 := by have z_ := hJ0.1 23 7; rw [ef7] at z_; exact z_
  have zf7 := congrArg Int32.toInt ef7
  refine ev_aload_n rfl rfl rfl ?_
  refine ev_getV (v := f2) rfl rfl fl_X2_53 rfl rfl rfl ef2 ?_
  refine ev_iconst (v := 4) rfl rfl (by decide) ?_
  refine ev_icmp_lt rfl rfl (fun c8 => ?_) (fun c8 => ?_)
  · have b9 : B f2 0 3 := R_ltX bf2 (by decide : B 4 4 4) c8 (by decide)
    have z10 := w_lt c8
    rw [show (4 : Int32).toInt = 4 from by decide] at z10
    refine ev_aload_n rfl rfl rfl ?_
    refine ev_getR (y := 26) rfl rfl fl_X2_47 rfl rfl rfl rfl ?_
    refine ev_aload_n rfl rfl rfl ?_
    refine ev_getV (v := f2) rfl rfl fl_X2_53 rfl rfl rfl ef2 ?_
    rcases B.c4 b9 with rfl | rfl | rfl | rfl
    · refine ev_aload_n rfl rfl rfl ?_
      refine ev_getV (v := f1) rfl rfl fl_X2_44 rfl rfl rfl ef1 ?_
      refine ev_iasK (j := 0) (n := 4) (l := 0) (u := 25) hJ0 (by decide : B 0 0 0) (by decide) (by decide) (by decide) rfl bf1 (by decide) (by decide) rfl rfl rfl rfl rfl (fun h13 hJ13 k13 => ?_)
      refine ev_aload_n rfl rfl rfl ?_
      refine ev_getR (y := 27) rfl rfl fl_X2_50 rfl rfl rfl rfl ?_
      refine ev_aload_n rfl rfl rfl ?_
      refine ev_getV (v := 0) rfl rfl fl_X2_53 rfl rfl rfl (rd_a k13 ef2 rfl) ?_
      refine ev_aload_n rfl rfl rfl ?_
      refine ev_getW (l := 0) (u := 4095) hJ13.1 rfl rfl rfl fl_X2_28 rfl rfl rfl (fun v14 b14 e14 => ?_)
      refine ev_iasW (n := 4) (l := 0) (u := 4095) hJ13 (by decide : B 0 0 0) (by decide) (by decide) (fun _ => rfl) b14 (by decide) (by decide) (fun _ => rfl) rfl rfl rfl rfl (fun h15 hJ15 k15 => ?_)
      refine ev_aload_n rfl rfl rfl ?_
      refine ev_dup rfl rfl rfl ?_
      refine ev_getV (v := 0) rfl rfl fl_X2_53 rfl rfl rfl (rd_a k15 (rd_a k13 ef2 rfl) rfl) ?_
      refine ev_iconst (v := 1) rfl rfl (by decide) ?_
      refine ev_iaddB (l := 1) (u := 1) rfl rfl (by decide : B 0 0 0) (by decide : B 1 1 1) (by decide) (by decide) (by decide) (by decide) (fun v16 b16 e16 g16 => ?_)
      have e16x := e16; rw [show (0 : Int32).toInt = 0 from by decide] at e16x
      have e16xx := e16x; rw [show (1 : Int32).toInt = 1 from by decide] at e16xx
      refine ev_putW (l := 0) (u := 4) hJ15 rfl b16 (by decide) (by decide) rfl rfl rfl fl_X2_53 rfl rfl rfl rfl rfl (fun h17 hJ17 k17 => ?_)
      refine ev_iconst (v := 0) rfl rfl (by decide) ?_
      exact ev_iret rfl rfl rfl ⟨⟨_, rfl, ⟨((by decide : B 0 0 0).mono (by decide) (by decide)), (by have z0_ := congrArg Int32.toInt (rd_o k17 (rd_a k15 (rd_a k13 ef1 rfl) rfl) rfl); have z1_ := congrArg Int32.toInt (rd_s k17); have z2_ := congrArg Int32.toInt (rd_o k17 (rd_a k15 (rd_s k13) rfl) rfl); have z3_ := congrArg Int32.toInt (rd_o k17 (rd_a k15 (rd_o k13 ef4 rfl) rfl) rfl); have z4_ := congrArg Int32.toInt (rd_o k17 (rd_a k15 (rd_o k13 ef5 rfl) rfl) rfl); have z5_ := congrArg Int32.toInt (rd_o k17 (rd_a k15 (rd_o k13 ef6 rfl) rfl) rfl); have z6_ := congrArg Int32.toInt (rd_o k17 (rd_a k15 (rd_a k13 ef7 rfl) rfl) rfl); have z_ := w_lits; have zl_ := l_lits; omega), (by have z0_ := congrArg Int32.toInt (rd_o k17 (rd_a k15 (rd_a k13 ef1 rfl) rfl) rfl); have z1_ := congrArg Int32.toInt (rd_s k17); have z2_ := congrArg Int32.toInt (rd_o k17 (rd_a k15 (rd_s k13) rfl) rfl); have z3_ := congrArg Int32.toInt (rd_o k17 (rd_a k15 (rd_o k13 ef4 rfl) rfl) rfl); have z4_ := congrArg Int32.toInt (rd_o k17 (rd_a k15 (rd_o k13 ef5 rfl) rfl) rfl); have z5_ := congrArg Int32.toInt (rd_o k17 (rd_a k15 (rd_o k13 ef6 rfl) rfl) rfl); have z6_ := congrArg Int32.toInt (rd_o k17 (rd_a k15 (rd_a k13 ef7 rfl) rfl) rfl); have z_ := w_lits; have zl_ := l_lits; omega), (by have z0_ := congrArg Int32.toInt (rd_o k17 (rd_a k15 (rd_a k13 ef1 rfl) rfl) rfl); have z1_ := congrArg Int32.toInt (rd_s k17); have z2_ := congrArg Int32.toInt (rd_o k17 (rd_a k15 (rd_s k13) rfl) rfl); have z3_ := congrArg Int32.toInt (rd_o k17 (rd_a k15 (rd_o k13 ef4 rfl) rfl) rfl); have z4_ := congrArg Int32.toInt (rd_o k17 (rd_a k15 (rd_o k13 ef5 rfl) rfl) rfl); have z5_ := congrArg Int32.toInt (rd_o k17 (rd_a k15 (rd_o k13 ef6 rfl) rfl) rfl); have z6_ := congrArg Int32.toInt (rd_o k17 (rd_a k15 (rd_a k13 ef7 rfl) rfl) rfl); have z_ := w_lits; have zl_ := l_lits; omega), (by have z0_ := congrArg Int32.toInt (rd_o k17 (rd_a k15 (rd_a k13 ef1 rfl) rfl) rfl); have z1_ := congrArg Int32.toInt (rd_s k17); have z2_ := congrArg Int32.toInt (rd_o k17 (rd_a k15 (rd_s k13) rfl) rfl); have z3_ := congrArg Int32.toInt (rd_o k17 (rd_a k15 (rd_o k13 ef4 rfl) rfl) rfl); have z4_ := congrArg Int32.toInt (rd_o k17 (rd_a k15 (rd_o k13 ef5 rfl) rfl) rfl); have z5_ := congrArg Int32.toInt (rd_o k17 (rd_a k15 (rd_o k13 ef6 rfl) rfl) rfl); have z6_ := congrArg Int32.toInt (rd_o k17 (rd_a k15 (rd_a k13 ef7 rfl) rfl) rfl); have z_ := w_lits; have zl_ := l_lits; omega), (by have z0_ := congrArg Int32.toInt (rd_o k17 (rd_a k15 (rd_a k13 ef1 rfl) rfl) rfl); have z1_ := congrArg Int32.toInt (rd_s k17); have z2_ := congrArg Int32.toInt (rd_o k17 (rd_a k15 (rd_s k13) rfl) rfl); have z3_ := congrArg Int32.toInt (rd_o k17 (rd_a k15 (rd_o k13 ef4 rfl) rfl) rfl); have z4_ := congrArg Int32.toInt (rd_o k17 (rd_a k15 (rd_o k13 ef5 rfl) rfl) rfl); have z5_ := congrArg Int32.toInt (rd_o k17 (rd_a k15 (rd_o k13 ef6 rfl) rfl) rfl); have z6_ := congrArg Int32.toInt (rd_o k17 (rd_a k15 (rd_a k13 ef7 rfl) rfl) rfl); have z_ := w_lits; have zl_ := l_lits; omega)⟩⟩, rfl, hJ17⟩
    · refine ev_aload_n rfl rfl rfl ?_
      refine ev_getV (v := f1) rfl rfl fl_X2_44 rfl rfl rfl ef1 ?_
      refine ev_iasK (j := 1) (n := 4) (l := 0) (u := 25) hJ0 (by decide : B 1 1 1) (by decide) (by decide) (by decide) rfl bf1 (by decide) (by decide) rfl rfl rfl rfl rfl (fun h18 hJ18 k18 => ?_)
      refine ev_aload_n rfl rfl rfl ?_
      refine ev_getR (y := 27) rfl rfl fl_X2_50 rfl rfl rfl rfl ?_
      refine ev_aload_n rfl rfl rfl ?_
      refine ev_getV (v := 1) rfl rfl fl_X2_53 rfl rfl rfl (rd_a k18 ef2 rfl) ?_
      refine ev_aload_n rfl rfl rfl ?_
      refine ev_getW (l := 0) (u := 4095) hJ18.1 rfl rfl rfl fl_X2_28 rfl rfl rfl (fun v19 b19 e19 => ?_)
      refine ev_iasW (n := 4) (l := 0) (u := 4095) hJ18 (by decide : B 1 1 1) (by decide) (by decide) (fun _ => rfl) b19 (by decide) (by decide) (fun _ => rfl) rfl rfl rfl rfl (fun h20 hJ20 k20 => ?_)
      refine ev_aload_n rfl rfl rfl ?_
      refine ev_dup rfl rfl rfl ?_
      refine ev_getV (v := 1) rfl rfl fl_X2_53 rfl rfl rfl (rd_a k20 (rd_a k18 ef2 rfl) rfl) ?_
      refine ev_iconst (v := 1) rfl rfl (by decide) ?_
      refine ev_iaddB (l := 2) (u := 2) rfl rfl (by decide : B 1 1 1) (by decide : B 1 1 1) (by decide) (by decide) (by decide) (by decide) (fun v21 b21 e21 g21 => ?_)
      have e21x := e21; rw [show (1 : Int32).toInt = 1 from by decide] at e21x
      refine ev_putW (l := 0) (u := 4) hJ20 rfl b21 (by decide) (by decide) rfl rfl rfl fl_X2_53 rfl rfl rfl rfl rfl (fun h22 hJ22 k22 => ?_)
      refine ev_iconst (v := 0) rfl rfl (by decide) ?_
      exact ev_iret rfl rfl rfl ⟨⟨_, rfl, ⟨((by decide : B 0 0 0).mono (by decide) (by decide)), (by have z0_ := congrArg Int32.toInt (rd_o k22 (rd_a k20 (rd_a k18 ef1 rfl) rfl) rfl); have z1_ := congrArg Int32.toInt (rd_s k22); have z2_ := congrArg Int32.toInt (rd_o k22 (rd_a k20 (rd_o k18 ef3 rfl) rfl) rfl); have z3_ := congrArg Int32.toInt (rd_o k22 (rd_a k20 (rd_s k18) rfl) rfl); have z4_ := congrArg Int32.toInt (rd_o k22 (rd_a k20 (rd_o k18 ef5 rfl) rfl) rfl); have z5_ := congrArg Int32.toInt (rd_o k22 (rd_a k20 (rd_o k18 ef6 rfl) rfl) rfl); have z6_ := congrArg Int32.toInt (rd_o k22 (rd_a k20 (rd_a k18 ef7 rfl) rfl) rfl); have z_ := w_lits; have zl_ := l_lits; omega), (by have z0_ := congrArg Int32.toInt (rd_o k22 (rd_a k20 (rd_a k18 ef1 rfl) rfl) rfl); have z1_ := congrArg Int32.toInt (rd_s k22); have z2_ := congrArg Int32.toInt (rd_o k22 (rd_a k20 (rd_o k18 ef3 rfl) rfl) rfl); have z3_ := congrArg Int32.toInt (rd_o k22 (rd_a k20 (rd_s k18) rfl) rfl); have z4_ := congrArg Int32.toInt (rd_o k22 (rd_a k20 (rd_o k18 ef5 rfl) rfl) rfl); have z5_ := congrArg Int32.toInt (rd_o k22 (rd_a k20 (rd_o k18 ef6 rfl) rfl) rfl); have z6_ := congrArg Int32.toInt (rd_o k22 (rd_a k20 (rd_a k18 ef7 rfl) rfl) rfl); have z_ := w_lits; have zl_ := l_lits; omega), (by have z0_ := congrArg Int32.toInt (rd_o k22 (rd_a k20 (rd_a k18 ef1 rfl) rfl) rfl); have z1_ := congrArg Int32.toInt (rd_s k22); have z2_ := congrArg Int32.toInt (rd_o k22 (rd_a k20 (rd_o k18 ef3 rfl) rfl) rfl); have z3_ := congrArg Int32.toInt (rd_o k22 (rd_a k20 (rd_s k18) rfl) rfl); have z4_ := congrArg Int32.toInt (rd_o k22 (rd_a k20 (rd_o k18 ef5 rfl) rfl) rfl); have z5_ := congrArg Int32.toInt (rd_o k22 (rd_a k20 (rd_o k18 ef6 rfl) rfl) rfl); have z6_ := congrArg Int32.toInt (rd_o k22 (rd_a k20 (rd_a k18 ef7 rfl) rfl) rfl); have z_ := w_lits; have zl_ := l_lits; omega), (by have z0_ := congrArg Int32.toInt (rd_o k22 (rd_a k20 (rd_a k18 ef1 rfl) rfl) rfl); have z1_ := congrArg Int32.toInt (rd_s k22); have z2_ := congrArg Int32.toInt (rd_o k22 (rd_a k20 (rd_o k18 ef3 rfl) rfl) rfl); have z3_ := congrArg Int32.toInt (rd_o k22 (rd_a k20 (rd_s k18) rfl) rfl); have z4_ := congrArg Int32.toInt (rd_o k22 (rd_a k20 (rd_o k18 ef5 rfl) rfl) rfl); have z5_ := congrArg Int32.toInt (rd_o k22 (rd_a k20 (rd_o k18 ef6 rfl) rfl) rfl); have z6_ := congrArg Int32.toInt (rd_o k22 (rd_a k20 (rd_a k18 ef7 rfl) rfl) rfl); have z_ := w_lits; have zl_ := l_lits; omega), (by have z0_ := congrArg Int32.toInt (rd_o k22 (rd_a k20 (rd_a k18 ef1 rfl) rfl) rfl); have z1_ := congrArg Int32.toInt (rd_s k22); have z2_ := congrArg Int32.toInt (rd_o k22 (rd_a k20 (rd_o k18 ef3 rfl) rfl) rfl); have z3_ := congrArg Int32.toInt (rd_o k22 (rd_a k20 (rd_s k18) rfl) rfl); have z4_ := congrArg Int32.toInt (rd_o k22 (rd_a k20 (rd_o k18 ef5 rfl) rfl) rfl); have z5_ := congrArg Int32.toInt (rd_o k22 (rd_a k20 (rd_o k18 ef6 rfl) rfl) rfl); have z6_ := congrArg Int32.toInt (rd_o k22 (rd_a k20 (rd_a k18 ef7 rfl) rfl) rfl); have z_ := w_lits; have zl_ := l_lits; omega)⟩⟩, rfl, hJ22⟩
    · refine ev_aload_n rfl rfl rfl ?_
      refine ev_getV (v := f1) rfl rfl fl_X2_44 rfl rfl rfl ef1 ?_
      refine ev_iasK (j := 2) (n := 4) (l := 0) (u := 25) hJ0 (by decide : B 2 2 2) (by decide) (by decide) (by decide) rfl bf1 (by decide) (by decide) rfl rfl rfl rfl rfl (fun h23 hJ23 k23 => ?_)
      refine ev_aload_n rfl rfl rfl ?_
      refine ev_getR (y := 27) rfl rfl fl_X2_50 rfl rfl rfl rfl ?_
      refine ev_aload_n rfl rfl rfl ?_
      refine ev_getV (v := 2) rfl rfl fl_X2_53 rfl rfl rfl (rd_a k23 ef2 rfl) ?_
      refine ev_aload_n rfl rfl rfl ?_
      refine ev_getW (l := 0) (u := 4095) hJ23.1 rfl rfl rfl fl_X2_28 rfl rfl rfl (fun v24 b24 e24 => ?_)
      refine ev_iasW (n := 4) (l := 0) (u := 4095) hJ23 (by decide : B 2 2 2) (by decide) (by decide) (fun _ => rfl) b24 (by decide) (by decide) (fun _ => rfl) rfl rfl rfl rfl (fun h25 hJ25 k25 => ?_)
      refine ev_aload_n rfl rfl rfl ?_
      refine ev_dup rfl rfl rfl ?_
      refine ev_getV (v := 2) rfl rfl fl_X2_53 rfl rfl rfl (rd_a k25 (rd_a k23 ef2 rfl) rfl) ?_
      refine ev_iconst (v := 1) rfl rfl (by decide) ?_
      refine ev_iaddB (l := 3) (u := 3) rfl rfl (by decide : B 2 2 2) (by decide : B 1 1 1) (by decide) (by decide) (by decide) (by decide) (fun v26 b26 e26 g26 => ?_)
      have e26x := e26; rw [show (2 : Int32).toInt = 2 from by decide] at e26x
      have e26xx := e26x; rw [show (1 : Int32).toInt = 1 from by decide] at e26xx
      refine ev_putW (l := 0) (u := 4) hJ25 rfl b26 (by decide) (by decide) rfl rfl rfl fl_X2_53 rfl rfl rfl rfl rfl (fun h27 hJ27 k27 => ?_)
      refine ev_iconst (v := 0) rfl rfl (by decide) ?_
      exact ev_iret rfl rfl rfl ⟨⟨_, rfl, ⟨((by decide : B 0 0 0).mono (by decide) (by decide)), (by have z0_ := congrArg Int32.toInt (rd_o k27 (rd_a k25 (rd_a k23 ef1 rfl) rfl) rfl); have z1_ := congrArg Int32.toInt (rd_s k27); have z2_ := congrArg Int32.toInt (rd_o k27 (rd_a k25 (rd_o k23 ef3 rfl) rfl) rfl); have z3_ := congrArg Int32.toInt (rd_o k27 (rd_a k25 (rd_o k23 ef4 rfl) rfl) rfl); have z4_ := congrArg Int32.toInt (rd_o k27 (rd_a k25 (rd_s k23) rfl) rfl); have z5_ := congrArg Int32.toInt (rd_o k27 (rd_a k25 (rd_o k23 ef6 rfl) rfl) rfl); have z6_ := congrArg Int32.toInt (rd_o k27 (rd_a k25 (rd_a k23 ef7 rfl) rfl) rfl); have z_ := w_lits; have zl_ := l_lits; omega), (by have z0_ := congrArg Int32.toInt (rd_o k27 (rd_a k25 (rd_a k23 ef1 rfl) rfl) rfl); have z1_ := congrArg Int32.toInt (rd_s k27); have z2_ := congrArg Int32.toInt (rd_o k27 (rd_a k25 (rd_o k23 ef3 rfl) rfl) rfl); have z3_ := congrArg Int32.toInt (rd_o k27 (rd_a k25 (rd_o k23 ef4 rfl) rfl) rfl); have z4_ := congrArg Int32.toInt (rd_o k27 (rd_a k25 (rd_s k23) rfl) rfl); have z5_ := congrArg Int32.toInt (rd_o k27 (rd_a k25 (rd_o k23 ef6 rfl) rfl) rfl); have z6_ := congrArg Int32.toInt (rd_o k27 (rd_a k25 (rd_a k23 ef7 rfl) rfl) rfl); have z_ := w_lits; have zl_ := l_lits; omega), (by have z0_ := congrArg Int32.toInt (rd_o k27 (rd_a k25 (rd_a k23 ef1 rfl) rfl) rfl); have z1_ := congrArg Int32.toInt (rd_s k27); have z2_ := congrArg Int32.toInt (rd_o k27 (rd_a k25 (rd_o k23 ef3 rfl) rfl) rfl); have z3_ := congrArg Int32.toInt (rd_o k27 (rd_a k25 (rd_o k23 ef4 rfl) rfl) rfl); have z4_ := congrArg Int32.toInt (rd_o k27 (rd_a k25 (rd_s k23) rfl) rfl); have z5_ := congrArg Int32.toInt (rd_o k27 (rd_a k25 (rd_o k23 ef6 rfl) rfl) rfl); have z6_ := congrArg Int32.toInt (rd_o k27 (rd_a k25 (rd_a k23 ef7 rfl) rfl) rfl); have z_ := w_lits; have zl_ := l_lits; omega), (by have z0_ := congrArg Int32.toInt (rd_o k27 (rd_a k25 (rd_a k23 ef1 rfl) rfl) rfl); have z1_ := congrArg Int32.toInt (rd_s k27); have z2_ := congrArg Int32.toInt (rd_o k27 (rd_a k25 (rd_o k23 ef3 rfl) rfl) rfl); have z3_ := congrArg Int32.toInt (rd_o k27 (rd_a k25 (rd_o k23 ef4 rfl) rfl) rfl); have z4_ := congrArg Int32.toInt (rd_o k27 (rd_a k25 (rd_s k23) rfl) rfl); have z5_ := congrArg Int32.toInt (rd_o k27 (rd_a k25 (rd_o k23 ef6 rfl) rfl) rfl); have z6_ := congrArg Int32.toInt (rd_o k27 (rd_a k25 (rd_a k23 ef7 rfl) rfl) rfl); have z_ := w_lits; have zl_ := l_lits; omega), (by have z0_ := congrArg Int32.toInt (rd_o k27 (rd_a k25 (rd_a k23 ef1 rfl) rfl) rfl); have z1_ := congrArg Int32.toInt (rd_s k27); have z2_ := congrArg Int32.toInt (rd_o k27 (rd_a k25 (rd_o k23 ef3 rfl) rfl) rfl); have z3_ := congrArg Int32.toInt (rd_o k27 (rd_a k25 (rd_o k23 ef4 rfl) rfl) rfl); have z4_ := congrArg Int32.toInt (rd_o k27 (rd_a k25 (rd_s k23) rfl) rfl); have z5_ := congrArg Int32.toInt (rd_o k27 (rd_a k25 (rd_o k23 ef6 rfl) rfl) rfl); have z6_ := congrArg Int32.toInt (rd_o k27 (rd_a k25 (rd_a k23 ef7 rfl) rfl) rfl); have z_ := w_lits; have zl_ := l_lits; omega)⟩⟩, rfl, hJ27⟩
    · refine ev_aload_n rfl rfl rfl ?_
      refine ev_getV (v := f1) rfl rfl fl_X2_44 rfl rfl rfl ef1 ?_
      refine ev_iasK (j := 3) (n := 4) (l := 0) (u := 25) hJ0 (by decide : B 3 3 3) (by decide) (by decide) (by decide) rfl bf1 (by decide) (by decide) rfl rfl rfl rfl rfl (fun h28 hJ28 k28 => ?_)
      refine ev_aload_n rfl rfl rfl ?_
      refine ev_getR (y := 27) rfl rfl fl_X2_50 rfl rfl rfl rfl ?_
      refine ev_aload_n rfl rfl rfl ?_
      refine ev_getV (v := 3) rfl rfl fl_X2_53 rfl rfl rfl (rd_a k28 ef2 rfl) ?_
      refine ev_aload_n rfl rfl rfl ?_
      refine ev_getW (l := 0) (u := 4095) hJ28.1 rfl rfl rfl fl_X2_28 rfl rfl rfl (fun v29 b29 e29 => ?_)
      refine ev_iasW (n := 4) (l := 0) (u := 4095) hJ28 (by decide : B 3 3 3) (by decide) (by decide) (fun _ => rfl) b29 (by decide) (by decide) (fun _ => rfl) rfl rfl rfl rfl (fun h30 hJ30 k30 => ?_)
      refine ev_aload_n rfl rfl rfl ?_
      refine ev_dup rfl rfl rfl ?_
      refine ev_getV (v := 3) rfl rfl fl_X2_53 rfl rfl rfl (rd_a k30 (rd_a k28 ef2 rfl) rfl) ?_
      refine ev_iconst (v := 1) rfl rfl (by decide) ?_
      refine ev_iaddB (l := 4) (u := 4) rfl rfl (by decide : B 3 3 3) (by decide : B 1 1 1) (by decide) (by decide) (by decide) (by decide) (fun v31 b31 e31 g31 => ?_)
      have e31x := e31; rw [show (3 : Int32).toInt = 3 from by decide] at e31x
      have e31xx := e31x; rw [show (1 : Int32).toInt = 1 from by decide] at e31xx
      refine ev_putW (l := 0) (u := 4) hJ30 rfl b31 (by decide) (by decide) rfl rfl rfl fl_X2_53 rfl rfl rfl rfl rfl (fun h32 hJ32 k32 => ?_)
      refine ev_iconst (v := 0) rfl rfl (by decide) ?_
      exact ev_iret rfl rfl rfl ⟨⟨_, rfl, ⟨((by decide : B 0 0 0).mono (by decide) (by decide)), (by have z0_ := congrArg Int32.toInt (rd_o k32 (rd_a k30 (rd_a k28 ef1 rfl) rfl) rfl); have z1_ := congrArg Int32.toInt (rd_s k32); have z2_ := congrArg Int32.toInt (rd_o k32 (rd_a k30 (rd_o k28 ef3 rfl) rfl) rfl); have z3_ := congrArg Int32.toInt (rd_o k32 (rd_a k30 (rd_o k28 ef4 rfl) rfl) rfl); have z4_ := congrArg Int32.toInt (rd_o k32 (rd_a k30 (rd_o k28 ef5 rfl) rfl) rfl); have z5_ := congrArg Int32.toInt (rd_o k32 (rd_a k30 (rd_s k28) rfl) rfl); have z6_ := congrArg Int32.toInt (rd_o k32 (rd_a k30 (rd_a k28 ef7 rfl) rfl) rfl); have z_ := w_lits; have zl_ := l_lits; omega), (by have z0_ := congrArg Int32.toInt (rd_o k32 (rd_a k30 (rd_a k28 ef1 rfl) rfl) rfl); have z1_ := congrArg Int32.toInt (rd_s k32); have z2_ := congrArg Int32.toInt (rd_o k32 (rd_a k30 (rd_o k28 ef3 rfl) rfl) rfl); have z3_ := congrArg Int32.toInt (rd_o k32 (rd_a k30 (rd_o k28 ef4 rfl) rfl) rfl); have z4_ := congrArg Int32.toInt (rd_o k32 (rd_a k30 (rd_o k28 ef5 rfl) rfl) rfl); have z5_ := congrArg Int32.toInt (rd_o k32 (rd_a k30 (rd_s k28) rfl) rfl); have z6_ := congrArg Int32.toInt (rd_o k32 (rd_a k30 (rd_a k28 ef7 rfl) rfl) rfl); have z_ := w_lits; have zl_ := l_lits; omega), (by have z0_ := congrArg Int32.toInt (rd_o k32 (rd_a k30 (rd_a k28 ef1 rfl) rfl) rfl); have z1_ := congrArg Int32.toInt (rd_s k32); have z2_ := congrArg Int32.toInt (rd_o k32 (rd_a k30 (rd_o k28 ef3 rfl) rfl) rfl); have z3_ := congrArg Int32.toInt (rd_o k32 (rd_a k30 (rd_o k28 ef4 rfl) rfl) rfl); have z4_ := congrArg Int32.toInt (rd_o k32 (rd_a k30 (rd_o k28 ef5 rfl) rfl) rfl); have z5_ := congrArg Int32.toInt (rd_o k32 (rd_a k30 (rd_s k28) rfl) rfl); have z6_ := congrArg Int32.toInt (rd_o k32 (rd_a k30 (rd_a k28 ef7 rfl) rfl) rfl); have z_ := w_lits; have zl_ := l_lits; omega), (by have z0_ := congrArg Int32.toInt (rd_o k32 (rd_a k30 (rd_a k28 ef1 rfl) rfl) rfl); have z1_ := congrArg Int32.toInt (rd_s k32); have z2_ := congrArg Int32.toInt (rd_o k32 (rd_a k30 (rd_o k28 ef3 rfl) rfl) rfl); have z3_ := congrArg Int32.toInt (rd_o k32 (rd_a k30 (rd_o k28 ef4 rfl) rfl) rfl); have z4_ := congrArg Int32.toInt (rd_o k32 (rd_a k30 (rd_o k28 ef5 rfl) rfl) rfl); have z5_ := congrArg Int32.toInt (rd_o k32 (rd_a k30 (rd_s k28) rfl) rfl); have z6_ := congrArg Int32.toInt (rd_o k32 (rd_a k30 (rd_a k28 ef7 rfl) rfl) rfl); have z_ := w_lits; have zl_ := l_lits; omega), (by have z0_ := congrArg Int32.toInt (rd_o k32 (rd_a k30 (rd_a k28 ef1 rfl) rfl) rfl); have z1_ := congrArg Int32.toInt (rd_s k32); have z2_ := congrArg Int32.toInt (rd_o k32 (rd_a k30 (rd_o k28 ef3 rfl) rfl) rfl); have z3_ := congrArg Int32.toInt (rd_o k32 (rd_a k30 (rd_o k28 ef4 rfl) rfl) rfl); have z4_ := congrArg Int32.toInt (rd_o k32 (rd_a k30 (rd_o k28 ef5 rfl) rfl) rfl); have z5_ := congrArg Int32.toInt (rd_o k32 (rd_a k30 (rd_s k28) rfl) rfl); have z6_ := congrArg Int32.toInt (rd_o k32 (rd_a k30 (rd_a k28 ef7 rfl) rfl) rfl); have z_ := w_lits; have zl_ := l_lits; omega)⟩⟩, rfl, hJ32⟩
  · have b11 : B f2 4 4 := R_leY (by decide : B 4 4 4) bf2 (Int32.not_lt.mp c8) (by decide)
    have z12 := w_le (Int32.not_lt.mp c8)
    rw [show (4 : Int32).toInt = 4 from by decide] at z12
    refine ev_aload_n rfl rfl rfl ?_
    refine ev_iconst (v := 5) rfl rfl (by decide) ?_
    refine ev_aload_n rfl rfl rfl ?_
    refine ev_getW (l := (-2147483648)) (u := 2147483647) hJ0.1 rfl rfl rfl fl_X2_25 rfl rfl rfl (fun v33 b33 e33 => ?_)
    have z34 := congrArg Int32.toInt ef1
    have z35 := congrArg Int32.toInt ef2
    have z36 := congrArg Int32.toInt ef3
    have z37 := congrArg Int32.toInt ef4
    have z38 := congrArg Int32.toInt ef5
    have z39 := congrArg Int32.toInt ef6
    have z40 := congrArg Int32.toInt ef7
    refine ev_V2K hJ0 rfl rfl rfl lk_X2_79 vt_X2_fail rfl rfl rfl rfl rfl (w_X2_fail_23 L b h hJ0.1 5 v33) (fun h41 hJ41 k41 m41 => ?_)
    obtain ⟨f42, ef42⟩ : ∃ f_, h41 23 7 = f_ := ⟨_, rfl⟩
    have bf42 : B f42 (-2147483648) 2147483647 := by have z_ := hJ41.1 23 7; rw [ef42] at z_; exact z_
    have zf42 := congrArg Int32.toInt ef42
    have z43 := congrArg Int32.toInt (rd_w k41 ef1 rfl)
    have z44 := congrArg Int32.toInt (rd_w k41 ef2 rfl)
    have z45 := congrArg Int32.toInt (rd_w k41 ef3 rfl)
    have z46 := congrArg Int32.toInt (rd_w k41 ef4 rfl)
    have z47 := congrArg Int32.toInt (rd_w k41 ef5 rfl)
    have z48 := congrArg Int32.toInt (rd_w k41 ef6 rfl)
    have z49 := congrArg Int32.toInt ef42
    refine ev_iconst (v := 3) rfl rfl (by decide) ?_
    exact ev_iret rfl rfl rfl ⟨⟨_, rfl, ⟨((by decide : B 3 3 3).mono (by decide) (by decide)), (by have z0_ := congrArg Int32.toInt (rd_w k41 ef1 rfl); have z1_ := congrArg Int32.toInt (rd_w k41 ef2 rfl); have z2_ := congrArg Int32.toInt (rd_w k41 ef3 rfl); have z3_ := congrArg Int32.toInt (rd_w k41 ef4 rfl); have z4_ := congrArg Int32.toInt (rd_w k41 ef5 rfl); have z5_ := congrArg Int32.toInt (rd_w k41 ef6 rfl); have z6_ := congrArg Int32.toInt ef42; have z_ := w_lits; have zl_ := l_lits; omega), (by have z0_ := congrArg Int32.toInt (rd_w k41 ef1 rfl); have z1_ := congrArg Int32.toInt (rd_w k41 ef2 rfl); have z2_ := congrArg Int32.toInt (rd_w k41 ef3 rfl); have z3_ := congrArg Int32.toInt (rd_w k41 ef4 rfl); have z4_ := congrArg Int32.toInt (rd_w k41 ef5 rfl); have z5_ := congrArg Int32.toInt (rd_w k41 ef6 rfl); have z6_ := congrArg Int32.toInt ef42; have z_ := w_lits; have zl_ := l_lits; omega), (by have z0_ := congrArg Int32.toInt (rd_w k41 ef1 rfl); have z1_ := congrArg Int32.toInt (rd_w k41 ef2 rfl); have z2_ := congrArg Int32.toInt (rd_w k41 ef3 rfl); have z3_ := congrArg Int32.toInt (rd_w k41 ef4 rfl); have z4_ := congrArg Int32.toInt (rd_w k41 ef5 rfl); have z5_ := congrArg Int32.toInt (rd_w k41 ef6 rfl); have z6_ := congrArg Int32.toInt ef42; have z_ := w_lits; have zl_ := l_lits; omega), (by have z0_ := congrArg Int32.toInt (rd_w k41 ef1 rfl); have z1_ := congrArg Int32.toInt (rd_w k41 ef2 rfl); have z2_ := congrArg Int32.toInt (rd_w k41 ef3 rfl); have z3_ := congrArg Int32.toInt (rd_w k41 ef4 rfl); have z4_ := congrArg Int32.toInt (rd_w k41 ef5 rfl); have z5_ := congrArg Int32.toInt (rd_w k41 ef6 rfl); have z6_ := congrArg Int32.toInt ef42; have z_ := w_lits; have zl_ := l_lits; omega), (by have z0_ := congrArg Int32.toInt (rd_w k41 ef1 rfl); have z1_ := congrArg Int32.toInt (rd_w k41 ef2 rfl); have z2_ := congrArg Int32.toInt (rd_w k41 ef3 rfl); have z3_ := congrArg Int32.toInt (rd_w k41 ef4 rfl); have z4_ := congrArg Int32.toInt (rd_w k41 ef5 rfl); have z5_ := congrArg Int32.toInt (rd_w k41 ef6 rfl); have z6_ := congrArg Int32.toInt ef42; have z_ := w_lits; have zl_ := l_lits; omega)⟩⟩, rfl, hJ41⟩

set_option maxRecDepth 100000 in
set_option maxHeartbeats 4000000 in
theorem w_X2_take_23 (L : Nat) (b : Bool) (h : Hp) (hB : Bx h) (a0 : Int32) (p0 : B a0 0 3) (rp0 : (0 < (h 23 13).toInt → (h 26 0).toInt ≤ (h 23 10).toInt)) (rp1 : (1 < (h 23 13).toInt → (h 26 0).toInt ≤ (h 26 1).toInt ∧ (h 26 1).toInt ≤ (h 23 10).toInt)) (rp2 : (2 < (h 23 13).toInt → (h 26 1).toInt ≤ (h 26 2).toInt ∧ (h 26 2).toInt ≤ (h 23 10).toInt)) (rp3 : (3 < (h 23 13).toInt → (h 26 2).toInt ≤ (h 26 3).toInt ∧ (h 26 3).toInt ≤ (h 23 10).toInt)) : EvI mi_X2_take [.ref 23, .int a0] (G0 L b) h (fun (r : Int32) (z : Hp) => B r 0 3 ∧ ((0 < (z 23 13).toInt → (z 26 0).toInt ≤ (z 23 10).toInt)) ∧ ((1 < (z 23 13).toInt → (z 26 0).toInt ≤ (z 26 1).toInt ∧ (z 26 1).toInt ≤ (z 23 10).toInt)) ∧ ((2 < (z 23 13).toInt → (z 26 1).toInt ≤ (z 26 2).toInt ∧ (z 26 2).toInt ≤ (z 23 10).toInt)) ∧ ((3 < (z 23 13).toInt → (z 26 2).toInt ≤ (z 26 3).toInt ∧ (z 26 3).toInt ≤ (z 23 10).toInt)) ∧ ((z 23 3).toInt = 0 → r.toInt = 3) ∧ (r.toInt = 3 → (z 23 7).toInt = 0 → (z 23 10).toInt ≤ 24)) [(23, 7), (23, 8), (23, 10), (23, 13), (25, 999), (26, 999), (27, 999)] := by
  refine EvM.of2 (lo := [some (.ref 23), some (.int a0)]) pf_X2_take ok_X2_take rfl rfl ?_
  have hJ0 : JW [(23, 7), (23, 8), (23, 10), (23, 13), (25, 999), (26, 999), (27, 999)] h h := JW.refl hB
  obtain ⟨f1, ef1⟩ : ∃ f_, h 23 10 = f_ := ⟨_, rfl⟩
  have bf1 : B f1 0 25 := by have z_ := hJ0.1 23 10; rw [ef1] at z_; exact z_
  have zf1 := congrArg Int32.toInt ef1
  obtain ⟨f2, ef2⟩ : ∃ f_, h 23 13 = f_ := ⟨_, rfl⟩
  have bf2 : B f2 0 4 := by have z_ := hJ0.1 23 13; rw [ef2] at z_; exact z_
  have zf2 := congrArg Int32.toInt ef2
  obtain ⟨f3, ef3⟩ : ∃ f_, h 26 0 = f_ := ⟨_, rfl⟩
  have bf3 : B f3 0 25 := by have z_ := hJ0.1 26 0; rw [ef3] at z_; exact z_
  have zf3 := congrArg Int32.toInt ef3
  obtain ⟨f4, ef4⟩ : ∃ f_, h 26 1 = f_ := ⟨_, rfl⟩
  have bf4 : B f4 0 25 := by have z_ := hJ0.1 26 1; rw [ef4] at z_; exact z_
  have zf4 := congrArg Int32.toInt ef4
  obtain ⟨f5, ef5⟩ : ∃ f_, h 26 2 = f_ := ⟨_, rfl⟩
  have bf5 : B f5 0 25 := by have z_ := hJ0.1 26 2; rw [ef5] at z_; exact z_
  have zf5 := congrArg Int32.toInt ef5
  obtain ⟨f6, ef6⟩ : ∃ f_, h 26 3 = f_ := ⟨_, rfl⟩
  have bf6 : B f6 0 25 := by have z_ := hJ0.1 26 3; rw [ef6] at z_; exact z_
  have zf6 := congrArg Int32.toInt ef6
  obtain ⟨f7, ef7⟩ : ∃ f_, h 23 7 = f_ := ⟨_, rfl⟩
  have bf7 : B f7 (-2147483648) 2147483647 := by have z_ := hJ0.1 23 7; rw [ef7] at z_; exact z_
  have zf7 := congrArg Int32.toInt ef7
  obtain ⟨f8, ef8⟩ : ∃ f_, h 23 3 = f_ := ⟨_, rfl⟩
  have bf8 : B f8 (-2147483648) 2147483647 := by have z_ := hJ0.1 23 3; rw [ef8] at z_; exact z_
  have zf8 := congrArg Int32.toInt ef8
  refine ev_iload_n rfl rfl rfl ?_
  refine ev_iconst (v := 2) rfl rfl (by decide) ?_
  refine ev_icmp_ne rfl rfl (fun c9 => ?_) (fun c9 => ?_)
  · have z10 := w_ne c9
    rw [show (2 : Int32).toInt = 2 from by decide] at z10
    refine ev_aload_n rfl rfl rfl ?_
    refine ev_getV (v := f8) rfl rfl fl_X2_22 rfl rfl rfl ef8 ?_
    rcases ev_sw f8 0 5 with w13 | w13
    · refine ev_tabOut 132 rfl w13 (by decide) ?_
      refine ev_aload_n rfl rfl rfl ?_
      have z14 := congrArg Int32.toInt ef1
      have z15 := congrArg Int32.toInt ef2
      have z16 := congrArg Int32.toInt ef3
      have z17 := congrArg Int32.toInt ef4
      have z18 := congrArg Int32.toInt ef5
      have z19 := congrArg Int32.toInt ef6
      have z20 := congrArg Int32.toInt ef7
      have z21 := congrArg Int32.toInt ef8
      refine ev_V0I hJ0 rfl rfl rfl lk_X2_87 vt_X2_misplaced rfl rfl rfl rfl rfl (w_X2_misplaced_23 L b h hJ0.1 ) (fun r22 h22 q22 hJ22 k22 => ?_)
      obtain ⟨b22, m22_0⟩ := q22
      obtain ⟨f23, ef23⟩ : ∃ f_, h22 23 7 = f_ := ⟨_, rfl⟩
      have bf23 : B f23 (-2147483648) 2147483647 := by have z_ := hJ22.1 23 7; rw [ef23] at z_; exact z_
      have zf23 := congrArg Int32.toInt ef23
      have z24 := congrArg Int32.toInt (rd_w k22 ef1 rfl)
      have z25 := congrArg Int32.toInt (rd_w k22 ef2 rfl)
      have z26 := congrArg Int32.toInt (rd_w k22 ef3 rfl)
      have z27 := congrArg Int32.toInt (rd_w k22 ef4 rfl)
      have z28 := congrArg Int32.toInt (rd_w k22 ef5 rfl)
      have z29 := congrArg Int32.toInt (rd_w k22 ef6 rfl)
      have z30 := congrArg Int32.toInt ef23
      have z31 := congrArg Int32.toInt (rd_w k22 ef8 rfl)
      exact ev_iret rfl rfl rfl ⟨⟨_, rfl, ⟨(b22.mono (by decide) (by decide)), (by have z0_ := congrArg Int32.toInt (rd_w k22 ef1 rfl); have z1_ := congrArg Int32.toInt (rd_w k22 ef2 rfl); have z2_ := congrArg Int32.toInt (rd_w k22 ef3 rfl); have z3_ := congrArg Int32.toInt (rd_w k22 ef4 rfl); have z4_ := congrArg Int32.toInt (rd_w k22 ef5 rfl); have z5_ := congrArg Int32.toInt (rd_w k22 ef6 rfl); have z6_ := congrArg Int32.toInt ef23; have z7_ := congrArg Int32.toInt (rd_w k22 ef8 rfl); have z_ := w_lits; have zl_ := l_lits; omega), (by have z0_ := congrArg Int32.toInt (rd_w k22 ef1 rfl); have z1_ := congrArg Int32.toInt (rd_w k22 ef2 rfl); have z2_ := congrArg Int32.toInt (rd_w k22 ef3 rfl); have z3_ := congrArg Int32.toInt (rd_w k22 ef4 rfl); have z4_ := congrArg Int32.toInt (rd_w k22 ef5 rfl); have z5_ := congrArg Int32.toInt (rd_w k22 ef6 rfl); have z6_ := congrArg Int32.toInt ef23; have z7_ := congrArg Int32.toInt (rd_w k22 ef8 rfl); have z_ := w_lits; have zl_ := l_lits; omega), (by have z0_ := congrArg Int32.toInt (rd_w k22 ef1 rfl); have z1_ := congrArg Int32.toInt (rd_w k22 ef2 rfl); have z2_ := congrArg Int32.toInt (rd_w k22 ef3 rfl); have z3_ := congrArg Int32.toInt (rd_w k22 ef4 rfl); have z4_ := congrArg Int32.toInt (rd_w k22 ef5 rfl); have z5_ := congrArg Int32.toInt (rd_w k22 ef6 rfl); have z6_ := congrArg Int32.toInt ef23; have z7_ := congrArg Int32.toInt (rd_w k22 ef8 rfl); have z_ := w_lits; have zl_ := l_lits; omega), (by have z0_ := congrArg Int32.toInt (rd_w k22 ef1 rfl); have z1_ := congrArg Int32.toInt (rd_w k22 ef2 rfl); have z2_ := congrArg Int32.toInt (rd_w k22 ef3 rfl); have z3_ := congrArg Int32.toInt (rd_w k22 ef4 rfl); have z4_ := congrArg Int32.toInt (rd_w k22 ef5 rfl); have z5_ := congrArg Int32.toInt (rd_w k22 ef6 rfl); have z6_ := congrArg Int32.toInt ef23; have z7_ := congrArg Int32.toInt (rd_w k22 ef8 rfl); have z_ := w_lits; have zl_ := l_lits; omega), (by have z0_ := congrArg Int32.toInt (rd_w k22 ef1 rfl); have z1_ := congrArg Int32.toInt (rd_w k22 ef2 rfl); have z2_ := congrArg Int32.toInt (rd_w k22 ef3 rfl); have z3_ := congrArg Int32.toInt (rd_w k22 ef4 rfl); have z4_ := congrArg Int32.toInt (rd_w k22 ef5 rfl); have z5_ := congrArg Int32.toInt (rd_w k22 ef6 rfl); have z6_ := congrArg Int32.toInt ef23; have z7_ := congrArg Int32.toInt (rd_w k22 ef8 rfl); have z_ := w_lits; have zl_ := l_lits; omega), (by have z0_ := congrArg Int32.toInt (rd_w k22 ef1 rfl); have z1_ := congrArg Int32.toInt (rd_w k22 ef2 rfl); have z2_ := congrArg Int32.toInt (rd_w k22 ef3 rfl); have z3_ := congrArg Int32.toInt (rd_w k22 ef4 rfl); have z4_ := congrArg Int32.toInt (rd_w k22 ef5 rfl); have z5_ := congrArg Int32.toInt (rd_w k22 ef6 rfl); have z6_ := congrArg Int32.toInt ef23; have z7_ := congrArg Int32.toInt (rd_w k22 ef8 rfl); have z_ := w_lits; have zl_ := l_lits; omega)⟩⟩, rfl, hJ22⟩
    · have w13b : f8 = 0 ∨ f8 = 1 ∨ f8 = 2 ∨ f8 = 3 ∨ f8 = 4 ∨ f8 = 5 := sw_or6_0 w13
      rcases w13b with rfl | rfl | rfl | rfl | rfl | rfl
      · refine ev_tabIn 108 rfl (by decide) (by decide) rfl (by decide) ?_
        refine ev_iload_n rfl rfl rfl ?_
        refine ev_iconst (v := 1) rfl rfl (by decide) ?_
        refine ev_icmp_ne rfl rfl (fun c32 => ?_) (fun c32 => ?_)
        · have z33 := w_ne c32
          rw [show (1 : Int32).toInt = 1 from by decide] at z33
          refine ev_aload_n rfl rfl rfl ?_
          have z36 := congrArg Int32.toInt ef1
          have z37 := congrArg Int32.toInt ef2
          have z38 := congrArg Int32.toInt ef3
          have z39 := congrArg Int32.toInt ef4
          have z40 := congrArg Int32.toInt ef5
          have z41 := congrArg Int32.toInt ef6
          have z42 := congrArg Int32.toInt ef7
          have z43 := congrArg Int32.toInt ef8
          refine ev_V0I hJ0 rfl rfl rfl lk_X2_87 vt_X2_misplaced rfl rfl rfl rfl rfl (w_X2_misplaced_23 L b h hJ0.1 ) (fun r44 h44 q44 hJ44 k44 => ?_)
          obtain ⟨b44, m44_0⟩ := q44
          obtain ⟨f45, ef45⟩ : ∃ f_, h44 23 7 = f_ := ⟨_, rfl⟩
          have bf45 : B f45 (-2147483648) 2147483647 := by have z_ := hJ44.1 23 7; rw [ef45] at z_; exact z_
          have zf45 := congrArg Int32.toInt ef45
          have z46 := congrArg Int32.toInt (rd_w k44 ef1 rfl)
          have z47 := congrArg Int32.toInt (rd_w k44 ef2 rfl)
          have z48 := congrArg Int32.toInt (rd_w k44 ef3 rfl)
          have z49 := congrArg Int32.toInt (rd_w k44 ef4 rfl)
          have z50 := congrArg Int32.toInt (rd_w k44 ef5 rfl)
          have z51 := congrArg Int32.toInt (rd_w k44 ef6 rfl)
          have z52 := congrArg Int32.toInt ef45
          have z53 := congrArg Int32.toInt (rd_w k44 ef8 rfl)
          exact ev_iret rfl rfl rfl ⟨⟨_, rfl, ⟨(b44.mono (by decide) (by decide)), (by have z0_ := congrArg Int32.toInt (rd_w k44 ef1 rfl); have z1_ := congrArg Int32.toInt (rd_w k44 ef2 rfl); have z2_ := congrArg Int32.toInt (rd_w k44 ef3 rfl); have z3_ := congrArg Int32.toInt (rd_w k44 ef4 rfl); have z4_ := congrArg Int32.toInt (rd_w k44 ef5 rfl); have z5_ := congrArg Int32.toInt (rd_w k44 ef6 rfl); have z6_ := congrArg Int32.toInt ef45; have z7_ := congrArg Int32.toInt (rd_w k44 ef8 rfl); have z_ := w_lits; have zl_ := l_lits; omega), (by have z0_ := congrArg Int32.toInt (rd_w k44 ef1 rfl); have z1_ := congrArg Int32.toInt (rd_w k44 ef2 rfl); have z2_ := congrArg Int32.toInt (rd_w k44 ef3 rfl); have z3_ := congrArg Int32.toInt (rd_w k44 ef4 rfl); have z4_ := congrArg Int32.toInt (rd_w k44 ef5 rfl); have z5_ := congrArg Int32.toInt (rd_w k44 ef6 rfl); have z6_ := congrArg Int32.toInt ef45; have z7_ := congrArg Int32.toInt (rd_w k44 ef8 rfl); have z_ := w_lits; have zl_ := l_lits; omega), (by have z0_ := congrArg Int32.toInt (rd_w k44 ef1 rfl); have z1_ := congrArg Int32.toInt (rd_w k44 ef2 rfl); have z2_ := congrArg Int32.toInt (rd_w k44 ef3 rfl); have z3_ := congrArg Int32.toInt (rd_w k44 ef4 rfl); have z4_ := congrArg Int32.toInt (rd_w k44 ef5 rfl); have z5_ := congrArg Int32.toInt (rd_w k44 ef6 rfl); have z6_ := congrArg Int32.toInt ef45; have z7_ := congrArg Int32.toInt (rd_w k44 ef8 rfl); have z_ := w_lits; have zl_ := l_lits; omega), (by have z0_ := congrArg Int32.toInt (rd_w k44 ef1 rfl); have z1_ := congrArg Int32.toInt (rd_w k44 ef2 rfl); have z2_ := congrArg Int32.toInt (rd_w k44 ef3 rfl); have z3_ := congrArg Int32.toInt (rd_w k44 ef4 rfl); have z4_ := congrArg Int32.toInt (rd_w k44 ef5 rfl); have z5_ := congrArg Int32.toInt (rd_w k44 ef6 rfl); have z6_ := congrArg Int32.toInt ef45; have z7_ := congrArg Int32.toInt (rd_w k44 ef8 rfl); have z_ := w_lits; have zl_ := l_lits; omega), (by have z0_ := congrArg Int32.toInt (rd_w k44 ef1 rfl); have z1_ := congrArg Int32.toInt (rd_w k44 ef2 rfl); have z2_ := congrArg Int32.toInt (rd_w k44 ef3 rfl); have z3_ := congrArg Int32.toInt (rd_w k44 ef4 rfl); have z4_ := congrArg Int32.toInt (rd_w k44 ef5 rfl); have z5_ := congrArg Int32.toInt (rd_w k44 ef6 rfl); have z6_ := congrArg Int32.toInt ef45; have z7_ := congrArg Int32.toInt (rd_w k44 ef8 rfl); have z_ := w_lits; have zl_ := l_lits; omega), (by have z0_ := congrArg Int32.toInt (rd_w k44 ef1 rfl); have z1_ := congrArg Int32.toInt (rd_w k44 ef2 rfl); have z2_ := congrArg Int32.toInt (rd_w k44 ef3 rfl); have z3_ := congrArg Int32.toInt (rd_w k44 ef4 rfl); have z4_ := congrArg Int32.toInt (rd_w k44 ef5 rfl); have z5_ := congrArg Int32.toInt (rd_w k44 ef6 rfl); have z6_ := congrArg Int32.toInt ef45; have z7_ := congrArg Int32.toInt (rd_w k44 ef8 rfl); have z_ := w_lits; have zl_ := l_lits; omega)⟩⟩, rfl, hJ44⟩
        · have b34 : B a0 1 1 := R_eqX p0 (by decide : B 1 1 1) c32
          have z35 := congrArg Int32.toInt c32
          rw [show (1 : Int32).toInt = 1 from by decide] at z35
          refine ev_aload_n rfl rfl rfl ?_
          refine ev_getV (v := f2) rfl rfl fl_X2_53 rfl rfl rfl ef2 ?_
          refine ev_if_ne rfl rfl (fun c54 => ?_) (fun c54 => ?_)
          · have b55 : B f2 1 4 := R_neL bf2 (by decide : B 0 0 0) c54 (by decide)
            have z56 := w_ne c54
            rw [show (0 : Int32).toInt = 0 from by decide] at z56
            refine ev_aload_n rfl rfl rfl ?_
            have z59 := congrArg Int32.toInt ef1
            have z60 := congrArg Int32.toInt ef2
            have z61 := congrArg Int32.toInt ef3
            have z62 := congrArg Int32.toInt ef4
            have z63 := congrArg Int32.toInt ef5
            have z64 := congrArg Int32.toInt ef6
            have z65 := congrArg Int32.toInt ef7
            have z66 := congrArg Int32.toInt ef8
            refine ev_V0I hJ0 rfl rfl rfl lk_X2_87 vt_X2_misplaced rfl rfl rfl rfl rfl (w_X2_misplaced_23 L b h hJ0.1 ) (fun r67 h67 q67 hJ67 k67 => ?_)
            obtain ⟨b67, m67_0⟩ := q67
            obtain ⟨f68, ef68⟩ : ∃ f_, h67 23 7 = f_ := ⟨_, rfl⟩
            have bf68 : B f68 (-2147483648) 2147483647 := by have z_ := hJ67.1 23 7; rw [ef68] at z_; exact z_
            have zf68 := congrArg Int32.toInt ef68
            have z69 := congrArg Int32.toInt (rd_w k67 ef1 rfl)
            have z70 := congrArg Int32.toInt (rd_w k67 ef2 rfl)
            have z71 := congrArg Int32.toInt (rd_w k67 ef3 rfl)
            have z72 := congrArg Int32.toInt (rd_w k67 ef4 rfl)
            have z73 := congrArg Int32.toInt (rd_w k67 ef5 rfl)
            have z74 := congrArg Int32.toInt (rd_w k67 ef6 rfl)
            have z75 := congrArg Int32.toInt ef68
            have z76 := congrArg Int32.toInt (rd_w k67 ef8 rfl)
            exact ev_iret rfl rfl rfl ⟨⟨_, rfl, ⟨(b67.mono (by decide) (by decide)), (by have z0_ := congrArg Int32.toInt (rd_w k67 ef1 rfl); have z1_ := congrArg Int32.toInt (rd_w k67 ef2 rfl); have z2_ := congrArg Int32.toInt (rd_w k67 ef3 rfl); have z3_ := congrArg Int32.toInt (rd_w k67 ef4 rfl); have z4_ := congrArg Int32.toInt (rd_w k67 ef5 rfl); have z5_ := congrArg Int32.toInt (rd_w k67 ef6 rfl); have z6_ := congrArg Int32.toInt ef68; have z7_ := congrArg Int32.toInt (rd_w k67 ef8 rfl); have z_ := w_lits; have zl_ := l_lits; omega), (by have z0_ := congrArg Int32.toInt (rd_w k67 ef1 rfl); have z1_ := congrArg Int32.toInt (rd_w k67 ef2 rfl); have z2_ := congrArg Int32.toInt (rd_w k67 ef3 rfl); have z3_ := congrArg Int32.toInt (rd_w k67 ef4 rfl); have z4_ := congrArg Int32.toInt (rd_w k67 ef5 rfl); have z5_ := congrArg Int32.toInt (rd_w k67 ef6 rfl); have z6_ := congrArg Int32.toInt ef68; have z7_ := congrArg Int32.toInt (rd_w k67 ef8 rfl); have z_ := w_lits; have zl_ := l_lits; omega), (by have z0_ := congrArg Int32.toInt (rd_w k67 ef1 rfl); have z1_ := congrArg Int32.toInt (rd_w k67 ef2 rfl); have z2_ := congrArg Int32.toInt (rd_w k67 ef3 rfl); have z3_ := congrArg Int32.toInt (rd_w k67 ef4 rfl); have z4_ := congrArg Int32.toInt (rd_w k67 ef5 rfl); have z5_ := congrArg Int32.toInt (rd_w k67 ef6 rfl); have z6_ := congrArg Int32.toInt ef68; have z7_ := congrArg Int32.toInt (rd_w k67 ef8 rfl); have z_ := w_lits; have zl_ := l_lits; omega), (by have z0_ := congrArg Int32.toInt (rd_w k67 ef1 rfl); have z1_ := congrArg Int32.toInt (rd_w k67 ef2 rfl); have z2_ := congrArg Int32.toInt (rd_w k67 ef3 rfl); have z3_ := congrArg Int32.toInt (rd_w k67 ef4 rfl); have z4_ := congrArg Int32.toInt (rd_w k67 ef5 rfl); have z5_ := congrArg Int32.toInt (rd_w k67 ef6 rfl); have z6_ := congrArg Int32.toInt ef68; have z7_ := congrArg Int32.toInt (rd_w k67 ef8 rfl); have z_ := w_lits; have zl_ := l_lits; omega), (by have z0_ := congrArg Int32.toInt (rd_w k67 ef1 rfl); have z1_ := congrArg Int32.toInt (rd_w k67 ef2 rfl); have z2_ := congrArg Int32.toInt (rd_w k67 ef3 rfl); have z3_ := congrArg Int32.toInt (rd_w k67 ef4 rfl); have z4_ := congrArg Int32.toInt (rd_w k67 ef5 rfl); have z5_ := congrArg Int32.toInt (rd_w k67 ef6 rfl); have z6_ := congrArg Int32.toInt ef68; have z7_ := congrArg Int32.toInt (rd_w k67 ef8 rfl); have z_ := w_lits; have zl_ := l_lits; omega), (by have z0_ := congrArg Int32.toInt (rd_w k67 ef1 rfl); have z1_ := congrArg Int32.toInt (rd_w k67 ef2 rfl); have z2_ := congrArg Int32.toInt (rd_w k67 ef3 rfl); have z3_ := congrArg Int32.toInt (rd_w k67 ef4 rfl); have z4_ := congrArg Int32.toInt (rd_w k67 ef5 rfl); have z5_ := congrArg Int32.toInt (rd_w k67 ef6 rfl); have z6_ := congrArg Int32.toInt ef68; have z7_ := congrArg Int32.toInt (rd_w k67 ef8 rfl); have z_ := w_lits; have zl_ := l_lits; omega)⟩⟩, rfl, hJ67⟩
          · have b57 : B f2 0 0 := R_eqX bf2 (by decide : B 0 0 0) c54
            have z58 := congrArg Int32.toInt c54
            rw [show (0 : Int32).toInt = 0 from by decide] at z58
            refine ev_aload_n rfl rfl rfl ?_
            have z77 := congrArg Int32.toInt ef1
            have z78 := congrArg Int32.toInt ef2
            have z79 := congrArg Int32.toInt ef3
            have z80 := congrArg Int32.toInt ef4
            have z81 := congrArg Int32.toInt ef5
            have z82 := congrArg Int32.toInt ef6
            have z83 := congrArg Int32.toInt ef7
            have z84 := congrArg Int32.toInt ef8
            refine ev_V0I hJ0 rfl rfl rfl lk_X2_102 vt_X2_takeEnd rfl rfl rfl rfl rfl (w_X2_takeEnd_23 L b h hJ0.1 ) (fun r85 h85 q85 hJ85 k85 => ?_)
            obtain ⟨b85, m85_0⟩ := q85
            obtain ⟨f86, ef86⟩ : ∃ f_, h85 23 7 = f_ := ⟨_, rfl⟩
            have bf86 : B f86 (-2147483648) 2147483647 := by have z_ := hJ85.1 23 7; rw [ef86] at z_; exact z_
            have zf86 := congrArg Int32.toInt ef86
            have z87 := congrArg Int32.toInt (rd_w k85 ef1 rfl)
            have z88 := congrArg Int32.toInt (rd_w k85 ef2 rfl)
            have z89 := congrArg Int32.toInt (rd_w k85 ef3 rfl)
            have z90 := congrArg Int32.toInt (rd_w k85 ef4 rfl)
            have z91 := congrArg Int32.toInt (rd_w k85 ef5 rfl)
            have z92 := congrArg Int32.toInt (rd_w k85 ef6 rfl)
            have z93 := congrArg Int32.toInt ef86
            have z94 := congrArg Int32.toInt (rd_w k85 ef8 rfl)
            refine ev_goto rfl rfl ?_
            exact ev_iret rfl rfl rfl ⟨⟨_, rfl, ⟨(b85.mono (by decide) (by decide)), (by have z0_ := congrArg Int32.toInt (rd_w k85 ef1 rfl); have z1_ := congrArg Int32.toInt (rd_w k85 ef2 rfl); have z2_ := congrArg Int32.toInt (rd_w k85 ef3 rfl); have z3_ := congrArg Int32.toInt (rd_w k85 ef4 rfl); have z4_ := congrArg Int32.toInt (rd_w k85 ef5 rfl); have z5_ := congrArg Int32.toInt (rd_w k85 ef6 rfl); have z6_ := congrArg Int32.toInt ef86; have z7_ := congrArg Int32.toInt (rd_w k85 ef8 rfl); have z_ := w_lits; have zl_ := l_lits; omega), (by have z0_ := congrArg Int32.toInt (rd_w k85 ef1 rfl); have z1_ := congrArg Int32.toInt (rd_w k85 ef2 rfl); have z2_ := congrArg Int32.toInt (rd_w k85 ef3 rfl); have z3_ := congrArg Int32.toInt (rd_w k85 ef4 rfl); have z4_ := congrArg Int32.toInt (rd_w k85 ef5 rfl); have z5_ := congrArg Int32.toInt (rd_w k85 ef6 rfl); have z6_ := congrArg Int32.toInt ef86; have z7_ := congrArg Int32.toInt (rd_w k85 ef8 rfl); have z_ := w_lits; have zl_ := l_lits; omega), (by have z0_ := congrArg Int32.toInt (rd_w k85 ef1 rfl); have z1_ := congrArg Int32.toInt (rd_w k85 ef2 rfl); have z2_ := congrArg Int32.toInt (rd_w k85 ef3 rfl); have z3_ := congrArg Int32.toInt (rd_w k85 ef4 rfl); have z4_ := congrArg Int32.toInt (rd_w k85 ef5 rfl); have z5_ := congrArg Int32.toInt (rd_w k85 ef6 rfl); have z6_ := congrArg Int32.toInt ef86; have z7_ := congrArg Int32.toInt (rd_w k85 ef8 rfl); have z_ := w_lits; have zl_ := l_lits; omega), (by have z0_ := congrArg Int32.toInt (rd_w k85 ef1 rfl); have z1_ := congrArg Int32.toInt (rd_w k85 ef2 rfl); have z2_ := congrArg Int32.toInt (rd_w k85 ef3 rfl); have z3_ := congrArg Int32.toInt (rd_w k85 ef4 rfl); have z4_ := congrArg Int32.toInt (rd_w k85 ef5 rfl); have z5_ := congrArg Int32.toInt (rd_w k85 ef6 rfl); have z6_ := congrArg Int32.toInt ef86; have z7_ := congrArg Int32.toInt (rd_w k85 ef8 rfl); have z_ := w_lits; have zl_ := l_lits; omega), (by have z0_ := congrArg Int32.toInt (rd_w k85 ef1 rfl); have z1_ := congrArg Int32.toInt (rd_w k85 ef2 rfl); have z2_ := congrArg Int32.toInt (rd_w k85 ef3 rfl); have z3_ := congrArg Int32.toInt (rd_w k85 ef4 rfl); have z4_ := congrArg Int32.toInt (rd_w k85 ef5 rfl); have z5_ := congrArg Int32.toInt (rd_w k85 ef6 rfl); have z6_ := congrArg Int32.toInt ef86; have z7_ := congrArg Int32.toInt (rd_w k85 ef8 rfl); have z_ := w_lits; have zl_ := l_lits; omega), (by have z0_ := congrArg Int32.toInt (rd_w k85 ef1 rfl); have z1_ := congrArg Int32.toInt (rd_w k85 ef2 rfl); have z2_ := congrArg Int32.toInt (rd_w k85 ef3 rfl); have z3_ := congrArg Int32.toInt (rd_w k85 ef4 rfl); have z4_ := congrArg Int32.toInt (rd_w k85 ef5 rfl); have z5_ := congrArg Int32.toInt (rd_w k85 ef6 rfl); have z6_ := congrArg Int32.toInt ef86; have z7_ := congrArg Int32.toInt (rd_w k85 ef8 rfl); have z_ := w_lits; have zl_ := l_lits; omega)⟩⟩, rfl, hJ85⟩
      · refine ev_tabIn 68 rfl (by decide) (by decide) rfl (by decide) ?_
        refine ev_aload_n rfl rfl rfl ?_
        have z95 := congrArg Int32.toInt ef1
        have z96 := congrArg Int32.toInt ef2
        have z97 := congrArg Int32.toInt ef3
        have z98 := congrArg Int32.toInt ef4
        have z99 := congrArg Int32.toInt ef5
        have z100 := congrArg Int32.toInt ef6
        have z101 := congrArg Int32.toInt ef7
        have z102 := congrArg Int32.toInt ef8
        refine ev_V0I hJ0 rfl rfl rfl lk_X2_90 vt_X2_takeChord rfl rfl rfl rfl rfl (w_X2_takeChord_23 L b h hJ0.1 (by have z0_ := congrArg Int32.toInt ef1; have z1_ := congrArg Int32.toInt ef2; have z2_ := congrArg Int32.toInt ef3; have z3_ := congrArg Int32.toInt ef4; have z4_ := congrArg Int32.toInt ef5; have z5_ := congrArg Int32.toInt ef6; have z6_ := congrArg Int32.toInt ef7; have z7_ := congrArg Int32.toInt ef8; have z_ := w_lits; have zl_ := l_lits; omega) (by have z0_ := congrArg Int32.toInt ef1; have z1_ := congrArg Int32.toInt ef2; have z2_ := congrArg Int32.toInt ef3; have z3_ := congrArg Int32.toInt ef4; have z4_ := congrArg Int32.toInt ef5; have z5_ := congrArg Int32.toInt ef6; have z6_ := congrArg Int32.toInt ef7; have z7_ := congrArg Int32.toInt ef8; have z_ := w_lits; have zl_ := l_lits; omega) (by have z0_ := congrArg Int32.toInt ef1; have z1_ := congrArg Int32.toInt ef2; have z2_ := congrArg Int32.toInt ef3; have z3_ := congrArg Int32.toInt ef4; have z4_ := congrArg Int32.toInt ef5; have z5_ := congrArg Int32.toInt ef6; have z6_ := congrArg Int32.toInt ef7; have z7_ := congrArg Int32.toInt ef8; have z_ := w_lits; have zl_ := l_lits; omega) (by have z0_ := congrArg Int32.toInt ef1; have z1_ := congrArg Int32.toInt ef2; have z2_ := congrArg Int32.toInt ef3; have z3_ := congrArg Int32.toInt ef4; have z4_ := congrArg Int32.toInt ef5; have z5_ := congrArg Int32.toInt ef6; have z6_ := congrArg Int32.toInt ef7; have z7_ := congrArg Int32.toInt ef8; have z_ := w_lits; have zl_ := l_lits; omega)) (fun r103 h103 q103 hJ103 k103 => ?_)
        obtain ⟨b103, m103_0, m103_1, m103_2, m103_3⟩ := q103
        obtain ⟨f104, ef104⟩ : ∃ f_, h103 23 10 = f_ := ⟨_, rfl⟩
        have bf104 : B f104 0 25 := by have z_ := hJ103.1 23 10; rw [ef104] at z_; exact z_
        have zf104 := congrArg Int32.toInt ef104
        obtain ⟨f105, ef105⟩ : ∃ f_, h103 23 7 = f_ := ⟨_, rfl⟩
        have bf105 : B f105 (-2147483648) 2147483647 := by have z_ := hJ103.1 23 7; rw [ef105] at z_; exact z_
        have zf105 := congrArg Int32.toInt ef105
        have z106 := congrArg Int32.toInt ef104
        have z107 := congrArg Int32.toInt (rd_w k103 ef2 rfl)
        have z108 := congrArg Int32.toInt (rd_w k103 ef3 rfl)
        have z109 := congrArg Int32.toInt (rd_w k103 ef4 rfl)
        have z110 := congrArg Int32.toInt (rd_w k103 ef5 rfl)
        have z111 := congrArg Int32.toInt (rd_w k103 ef6 rfl)
        have z112 := congrArg Int32.toInt ef105
        have z113 := congrArg Int32.toInt (rd_w k103 ef8 rfl)
        exact ev_iret rfl rfl rfl ⟨⟨_, rfl, ⟨(b103.mono (by decide) (by decide)), (by have z0_ := congrArg Int32.toInt ef104; have z1_ := congrArg Int32.toInt (rd_w k103 ef2 rfl); have z2_ := congrArg Int32.toInt (rd_w k103 ef3 rfl); have z3_ := congrArg Int32.toInt (rd_w k103 ef4 rfl); have z4_ := congrArg Int32.toInt (rd_w k103 ef5 rfl); have z5_ := congrArg Int32.toInt (rd_w k103 ef6 rfl); have z6_ := congrArg Int32.toInt ef105; have z7_ := congrArg Int32.toInt (rd_w k103 ef8 rfl); have z_ := w_lits; have zl_ := l_lits; omega), (by have z0_ := congrArg Int32.toInt ef104; have z1_ := congrArg Int32.toInt (rd_w k103 ef2 rfl); have z2_ := congrArg Int32.toInt (rd_w k103 ef3 rfl); have z3_ := congrArg Int32.toInt (rd_w k103 ef4 rfl); have z4_ := congrArg Int32.toInt (rd_w k103 ef5 rfl); have z5_ := congrArg Int32.toInt (rd_w k103 ef6 rfl); have z6_ := congrArg Int32.toInt ef105; have z7_ := congrArg Int32.toInt (rd_w k103 ef8 rfl); have z_ := w_lits; have zl_ := l_lits; omega), (by have z0_ := congrArg Int32.toInt ef104; have z1_ := congrArg Int32.toInt (rd_w k103 ef2 rfl); have z2_ := congrArg Int32.toInt (rd_w k103 ef3 rfl); have z3_ := congrArg Int32.toInt (rd_w k103 ef4 rfl); have z4_ := congrArg Int32.toInt (rd_w k103 ef5 rfl); have z5_ := congrArg Int32.toInt (rd_w k103 ef6 rfl); have z6_ := congrArg Int32.toInt ef105; have z7_ := congrArg Int32.toInt (rd_w k103 ef8 rfl); have z_ := w_lits; have zl_ := l_lits; omega), (by have z0_ := congrArg Int32.toInt ef104; have z1_ := congrArg Int32.toInt (rd_w k103 ef2 rfl); have z2_ := congrArg Int32.toInt (rd_w k103 ef3 rfl); have z3_ := congrArg Int32.toInt (rd_w k103 ef4 rfl); have z4_ := congrArg Int32.toInt (rd_w k103 ef5 rfl); have z5_ := congrArg Int32.toInt (rd_w k103 ef6 rfl); have z6_ := congrArg Int32.toInt ef105; have z7_ := congrArg Int32.toInt (rd_w k103 ef8 rfl); have z_ := w_lits; have zl_ := l_lits; omega), (by have z0_ := congrArg Int32.toInt ef104; have z1_ := congrArg Int32.toInt (rd_w k103 ef2 rfl); have z2_ := congrArg Int32.toInt (rd_w k103 ef3 rfl); have z3_ := congrArg Int32.toInt (rd_w k103 ef4 rfl); have z4_ := congrArg Int32.toInt (rd_w k103 ef5 rfl); have z5_ := congrArg Int32.toInt (rd_w k103 ef6 rfl); have z6_ := congrArg Int32.toInt ef105; have z7_ := congrArg Int32.toInt (rd_w k103 ef8 rfl); have z_ := w_lits; have zl_ := l_lits; omega), (by have z0_ := congrArg Int32.toInt ef104; have z1_ := congrArg Int32.toInt (rd_w k103 ef2 rfl); have z2_ := congrArg Int32.toInt (rd_w k103 ef3 rfl); have z3_ := congrArg Int32.toInt (rd_w k103 ef4 rfl); have z4_ := congrArg Int32.toInt (rd_w k103 ef5 rfl); have z5_ := congrArg Int32.toInt (rd_w k103 ef6 rfl); have z6_ := congrArg Int32.toInt ef105; have z7_ := congrArg Int32.toInt (rd_w k103 ef8 rfl); have z_ := w_lits; have zl_ := l_lits; omega)⟩⟩, rfl, hJ103⟩
      · refine ev_tabIn 79 rfl (by decide) (by decide) rfl (by decide) ?_
        refine ev_aload_n rfl rfl rfl ?_
        refine ev_V0J hJ0 rfl rfl rfl lk_X2_96 vt_X2_takeNumber rfl rfl rfl rfl rfl (w_X2_takeNumber_23 L b h hJ0.1 ) (fun r114 h114 q114 hJ114 k114 => ?_)
        obtain ⟨f115, ef115⟩ : ∃ f_, h114 23 7 = f_ := ⟨_, rfl⟩
        have bf115 : B f115 (-2147483648) 2147483647 := by have z_ := hJ114.1 23 7; rw [ef115] at z_; exact z_
        have zf115 := congrArg Int32.toInt ef115
        exact ev_iret rfl rfl rfl ⟨⟨_, rfl, ⟨(q114.mono (by decide) (by decide)), (by have z0_ := congrArg Int32.toInt (rd_w k114 ef1 rfl); have z1_ := congrArg Int32.toInt (rd_w k114 ef2 rfl); have z2_ := congrArg Int32.toInt (rd_w k114 ef3 rfl); have z3_ := congrArg Int32.toInt (rd_w k114 ef4 rfl); have z4_ := congrArg Int32.toInt (rd_w k114 ef5 rfl); have z5_ := congrArg Int32.toInt (rd_w k114 ef6 rfl); have z6_ := congrArg Int32.toInt ef115; have z7_ := congrArg Int32.toInt (rd_w k114 ef8 rfl); have z_ := w_lits; have zl_ := l_lits; omega), (by have z0_ := congrArg Int32.toInt (rd_w k114 ef1 rfl); have z1_ := congrArg Int32.toInt (rd_w k114 ef2 rfl); have z2_ := congrArg Int32.toInt (rd_w k114 ef3 rfl); have z3_ := congrArg Int32.toInt (rd_w k114 ef4 rfl); have z4_ := congrArg Int32.toInt (rd_w k114 ef5 rfl); have z5_ := congrArg Int32.toInt (rd_w k114 ef6 rfl); have z6_ := congrArg Int32.toInt ef115; have z7_ := congrArg Int32.toInt (rd_w k114 ef8 rfl); have z_ := w_lits; have zl_ := l_lits; omega), (by have z0_ := congrArg Int32.toInt (rd_w k114 ef1 rfl); have z1_ := congrArg Int32.toInt (rd_w k114 ef2 rfl); have z2_ := congrArg Int32.toInt (rd_w k114 ef3 rfl); have z3_ := congrArg Int32.toInt (rd_w k114 ef4 rfl); have z4_ := congrArg Int32.toInt (rd_w k114 ef5 rfl); have z5_ := congrArg Int32.toInt (rd_w k114 ef6 rfl); have z6_ := congrArg Int32.toInt ef115; have z7_ := congrArg Int32.toInt (rd_w k114 ef8 rfl); have z_ := w_lits; have zl_ := l_lits; omega), (by have z0_ := congrArg Int32.toInt (rd_w k114 ef1 rfl); have z1_ := congrArg Int32.toInt (rd_w k114 ef2 rfl); have z2_ := congrArg Int32.toInt (rd_w k114 ef3 rfl); have z3_ := congrArg Int32.toInt (rd_w k114 ef4 rfl); have z4_ := congrArg Int32.toInt (rd_w k114 ef5 rfl); have z5_ := congrArg Int32.toInt (rd_w k114 ef6 rfl); have z6_ := congrArg Int32.toInt ef115; have z7_ := congrArg Int32.toInt (rd_w k114 ef8 rfl); have z_ := w_lits; have zl_ := l_lits; omega), (by have z0_ := congrArg Int32.toInt (rd_w k114 ef1 rfl); have z1_ := congrArg Int32.toInt (rd_w k114 ef2 rfl); have z2_ := congrArg Int32.toInt (rd_w k114 ef3 rfl); have z3_ := congrArg Int32.toInt (rd_w k114 ef4 rfl); have z4_ := congrArg Int32.toInt (rd_w k114 ef5 rfl); have z5_ := congrArg Int32.toInt (rd_w k114 ef6 rfl); have z6_ := congrArg Int32.toInt ef115; have z7_ := congrArg Int32.toInt (rd_w k114 ef8 rfl); have z_ := w_lits; have zl_ := l_lits; omega), (by have z0_ := congrArg Int32.toInt (rd_w k114 ef1 rfl); have z1_ := congrArg Int32.toInt (rd_w k114 ef2 rfl); have z2_ := congrArg Int32.toInt (rd_w k114 ef3 rfl); have z3_ := congrArg Int32.toInt (rd_w k114 ef4 rfl); have z4_ := congrArg Int32.toInt (rd_w k114 ef5 rfl); have z5_ := congrArg Int32.toInt (rd_w k114 ef6 rfl); have z6_ := congrArg Int32.toInt ef115; have z7_ := congrArg Int32.toInt (rd_w k114 ef8 rfl); have z_ := w_lits; have zl_ := l_lits; omega)⟩⟩, rfl, hJ114⟩
      · refine ev_tabIn 73 rfl (by decide) (by decide) rfl (by decide) ?_
        refine ev_aload_n rfl rfl rfl ?_
        refine ev_iconst (v := 0) rfl rfl (by decide) ?_
        have z116 := congrArg Int32.toInt ef1
        have z117 := congrArg Int32.toInt ef2
        have z118 := congrArg Int32.toInt ef3
        have z119 := congrArg Int32.toInt ef4
        have z120 := congrArg Int32.toInt ef5
        have z121 := congrArg Int32.toInt ef6
        have z122 := congrArg Int32.toInt ef7
        have z123 := congrArg Int32.toInt ef8
        refine ev_V1I hJ0 rfl rfl rfl lk_X2_93 vt_X2_addBeat rfl rfl rfl rfl rfl (w_X2_addBeat_23 L b h hJ0.1 0 ((by decide : B 0 0 0).mono (by decide) (by decide)) (by have z0_ := congrArg Int32.toInt ef1; have z1_ := congrArg Int32.toInt ef2; have z2_ := congrArg Int32.toInt ef3; have z3_ := congrArg Int32.toInt ef4; have z4_ := congrArg Int32.toInt ef5; have z5_ := congrArg Int32.toInt ef6; have z6_ := congrArg Int32.toInt ef7; have z7_ := congrArg Int32.toInt ef8; have z_ := w_lits; have zl_ := l_lits; omega) (by have z0_ := congrArg Int32.toInt ef1; have z1_ := congrArg Int32.toInt ef2; have z2_ := congrArg Int32.toInt ef3; have z3_ := congrArg Int32.toInt ef4; have z4_ := congrArg Int32.toInt ef5; have z5_ := congrArg Int32.toInt ef6; have z6_ := congrArg Int32.toInt ef7; have z7_ := congrArg Int32.toInt ef8; have z_ := w_lits; have zl_ := l_lits; omega) (by have z0_ := congrArg Int32.toInt ef1; have z1_ := congrArg Int32.toInt ef2; have z2_ := congrArg Int32.toInt ef3; have z3_ := congrArg Int32.toInt ef4; have z4_ := congrArg Int32.toInt ef5; have z5_ := congrArg Int32.toInt ef6; have z6_ := congrArg Int32.toInt ef7; have z7_ := congrArg Int32.toInt ef8; have z_ := w_lits; have zl_ := l_lits; omega) (by have z0_ := congrArg Int32.toInt ef1; have z1_ := congrArg Int32.toInt ef2; have z2_ := congrArg Int32.toInt ef3; have z3_ := congrArg Int32.toInt ef4; have z4_ := congrArg Int32.toInt ef5; have z5_ := congrArg Int32.toInt ef6; have z6_ := congrArg Int32.toInt ef7; have z7_ := congrArg Int32.toInt ef8; have z_ := w_lits; have zl_ := l_lits; omega)) (fun r124 h124 q124 hJ124 k124 => ?_)
        obtain ⟨b124, m124_0, m124_1, m124_2, m124_3⟩ := q124
        obtain ⟨f125, ef125⟩ : ∃ f_, h124 23 10 = f_ := ⟨_, rfl⟩
        have bf125 : B f125 0 25 := by have z_ := hJ124.1 23 10; rw [ef125] at z_; exact z_
        have zf125 := congrArg Int32.toInt ef125
        have z126 := congrArg Int32.toInt ef125
        have z127 := congrArg Int32.toInt (rd_w k124 ef2 rfl)
        have z128 := congrArg Int32.toInt (rd_w k124 ef3 rfl)
        have z129 := congrArg Int32.toInt (rd_w k124 ef4 rfl)
        have z130 := congrArg Int32.toInt (rd_w k124 ef5 rfl)
        have z131 := congrArg Int32.toInt (rd_w k124 ef6 rfl)
        have z132 := congrArg Int32.toInt (rd_w k124 ef7 rfl)
        have z133 := congrArg Int32.toInt (rd_w k124 ef8 rfl)
        exact ev_iret rfl rfl rfl ⟨⟨_, rfl, ⟨(b124.mono (by decide) (by decide)), (by have z0_ := congrArg Int32.toInt ef125; have z1_ := congrArg Int32.toInt (rd_w k124 ef2 rfl); have z2_ := congrArg Int32.toInt (rd_w k124 ef3 rfl); have z3_ := congrArg Int32.toInt (rd_w k124 ef4 rfl); have z4_ := congrArg Int32.toInt (rd_w k124 ef5 rfl); have z5_ := congrArg Int32.toInt (rd_w k124 ef6 rfl); have z6_ := congrArg Int32.toInt (rd_w k124 ef7 rfl); have z7_ := congrArg Int32.toInt (rd_w k124 ef8 rfl); have z_ := w_lits; have zl_ := l_lits; omega), (by have z0_ := congrArg Int32.toInt ef125; have z1_ := congrArg Int32.toInt (rd_w k124 ef2 rfl); have z2_ := congrArg Int32.toInt (rd_w k124 ef3 rfl); have z3_ := congrArg Int32.toInt (rd_w k124 ef4 rfl); have z4_ := congrArg Int32.toInt (rd_w k124 ef5 rfl); have z5_ := congrArg Int32.toInt (rd_w k124 ef6 rfl); have z6_ := congrArg Int32.toInt (rd_w k124 ef7 rfl); have z7_ := congrArg Int32.toInt (rd_w k124 ef8 rfl); have z_ := w_lits; have zl_ := l_lits; omega), (by have z0_ := congrArg Int32.toInt ef125; have z1_ := congrArg Int32.toInt (rd_w k124 ef2 rfl); have z2_ := congrArg Int32.toInt (rd_w k124 ef3 rfl); have z3_ := congrArg Int32.toInt (rd_w k124 ef4 rfl); have z4_ := congrArg Int32.toInt (rd_w k124 ef5 rfl); have z5_ := congrArg Int32.toInt (rd_w k124 ef6 rfl); have z6_ := congrArg Int32.toInt (rd_w k124 ef7 rfl); have z7_ := congrArg Int32.toInt (rd_w k124 ef8 rfl); have z_ := w_lits; have zl_ := l_lits; omega), (by have z0_ := congrArg Int32.toInt ef125; have z1_ := congrArg Int32.toInt (rd_w k124 ef2 rfl); have z2_ := congrArg Int32.toInt (rd_w k124 ef3 rfl); have z3_ := congrArg Int32.toInt (rd_w k124 ef4 rfl); have z4_ := congrArg Int32.toInt (rd_w k124 ef5 rfl); have z5_ := congrArg Int32.toInt (rd_w k124 ef6 rfl); have z6_ := congrArg Int32.toInt (rd_w k124 ef7 rfl); have z7_ := congrArg Int32.toInt (rd_w k124 ef8 rfl); have z_ := w_lits; have zl_ := l_lits; omega), (by have z0_ := congrArg Int32.toInt ef125; have z1_ := congrArg Int32.toInt (rd_w k124 ef2 rfl); have z2_ := congrArg Int32.toInt (rd_w k124 ef3 rfl); have z3_ := congrArg Int32.toInt (rd_w k124 ef4 rfl); have z4_ := congrArg Int32.toInt (rd_w k124 ef5 rfl); have z5_ := congrArg Int32.toInt (rd_w k124 ef6 rfl); have z6_ := congrArg Int32.toInt (rd_w k124 ef7 rfl); have z7_ := congrArg Int32.toInt (rd_w k124 ef8 rfl); have z_ := w_lits; have zl_ := l_lits; omega), (by have z0_ := congrArg Int32.toInt ef125; have z1_ := congrArg Int32.toInt (rd_w k124 ef2 rfl); have z2_ := congrArg Int32.toInt (rd_w k124 ef3 rfl); have z3_ := congrArg Int32.toInt (rd_w k124 ef4 rfl); have z4_ := congrArg Int32.toInt (rd_w k124 ef5 rfl); have z5_ := congrArg Int32.toInt (rd_w k124 ef6 rfl); have z6_ := congrArg Int32.toInt (rd_w k124 ef7 rfl); have z7_ := congrArg Int32.toInt (rd_w k124 ef8 rfl); have z_ := w_lits; have zl_ := l_lits; omega)⟩⟩, rfl, hJ124⟩
      · refine ev_tabIn 132 rfl (by decide) (by decide) rfl (by decide) ?_
        refine ev_aload_n rfl rfl rfl ?_
        have z134 := congrArg Int32.toInt ef1
        have z135 := congrArg Int32.toInt ef2
        have z136 := congrArg Int32.toInt ef3
        have z137 := congrArg Int32.toInt ef4
        have z138 := congrArg Int32.toInt ef5
        have z139 := congrArg Int32.toInt ef6
        have z140 := congrArg Int32.toInt ef7
        have z141 := congrArg Int32.toInt ef8
        refine ev_V0I hJ0 rfl rfl rfl lk_X2_87 vt_X2_misplaced rfl rfl rfl rfl rfl (w_X2_misplaced_23 L b h hJ0.1 ) (fun r142 h142 q142 hJ142 k142 => ?_)
        obtain ⟨b142, m142_0⟩ := q142
        obtain ⟨f143, ef143⟩ : ∃ f_, h142 23 7 = f_ := ⟨_, rfl⟩
        have bf143 : B f143 (-2147483648) 2147483647 := by have z_ := hJ142.1 23 7; rw [ef143] at z_; exact z_
        have zf143 := congrArg Int32.toInt ef143
        have z144 := congrArg Int32.toInt (rd_w k142 ef1 rfl)
        have z145 := congrArg Int32.toInt (rd_w k142 ef2 rfl)
        have z146 := congrArg Int32.toInt (rd_w k142 ef3 rfl)
        have z147 := congrArg Int32.toInt (rd_w k142 ef4 rfl)
        have z148 := congrArg Int32.toInt (rd_w k142 ef5 rfl)
        have z149 := congrArg Int32.toInt (rd_w k142 ef6 rfl)
        have z150 := congrArg Int32.toInt ef143
        have z151 := congrArg Int32.toInt (rd_w k142 ef8 rfl)
        exact ev_iret rfl rfl rfl ⟨⟨_, rfl, ⟨(b142.mono (by decide) (by decide)), (by have z0_ := congrArg Int32.toInt (rd_w k142 ef1 rfl); have z1_ := congrArg Int32.toInt (rd_w k142 ef2 rfl); have z2_ := congrArg Int32.toInt (rd_w k142 ef3 rfl); have z3_ := congrArg Int32.toInt (rd_w k142 ef4 rfl); have z4_ := congrArg Int32.toInt (rd_w k142 ef5 rfl); have z5_ := congrArg Int32.toInt (rd_w k142 ef6 rfl); have z6_ := congrArg Int32.toInt ef143; have z7_ := congrArg Int32.toInt (rd_w k142 ef8 rfl); have z_ := w_lits; have zl_ := l_lits; omega), (by have z0_ := congrArg Int32.toInt (rd_w k142 ef1 rfl); have z1_ := congrArg Int32.toInt (rd_w k142 ef2 rfl); have z2_ := congrArg Int32.toInt (rd_w k142 ef3 rfl); have z3_ := congrArg Int32.toInt (rd_w k142 ef4 rfl); have z4_ := congrArg Int32.toInt (rd_w k142 ef5 rfl); have z5_ := congrArg Int32.toInt (rd_w k142 ef6 rfl); have z6_ := congrArg Int32.toInt ef143; have z7_ := congrArg Int32.toInt (rd_w k142 ef8 rfl); have z_ := w_lits; have zl_ := l_lits; omega), (by have z0_ := congrArg Int32.toInt (rd_w k142 ef1 rfl); have z1_ := congrArg Int32.toInt (rd_w k142 ef2 rfl); have z2_ := congrArg Int32.toInt (rd_w k142 ef3 rfl); have z3_ := congrArg Int32.toInt (rd_w k142 ef4 rfl); have z4_ := congrArg Int32.toInt (rd_w k142 ef5 rfl); have z5_ := congrArg Int32.toInt (rd_w k142 ef6 rfl); have z6_ := congrArg Int32.toInt ef143; have z7_ := congrArg Int32.toInt (rd_w k142 ef8 rfl); have z_ := w_lits; have zl_ := l_lits; omega), (by have z0_ := congrArg Int32.toInt (rd_w k142 ef1 rfl); have z1_ := congrArg Int32.toInt (rd_w k142 ef2 rfl); have z2_ := congrArg Int32.toInt (rd_w k142 ef3 rfl); have z3_ := congrArg Int32.toInt (rd_w k142 ef4 rfl); have z4_ := congrArg Int32.toInt (rd_w k142 ef5 rfl); have z5_ := congrArg Int32.toInt (rd_w k142 ef6 rfl); have z6_ := congrArg Int32.toInt ef143; have z7_ := congrArg Int32.toInt (rd_w k142 ef8 rfl); have z_ := w_lits; have zl_ := l_lits; omega), (by have z0_ := congrArg Int32.toInt (rd_w k142 ef1 rfl); have z1_ := congrArg Int32.toInt (rd_w k142 ef2 rfl); have z2_ := congrArg Int32.toInt (rd_w k142 ef3 rfl); have z3_ := congrArg Int32.toInt (rd_w k142 ef4 rfl); have z4_ := congrArg Int32.toInt (rd_w k142 ef5 rfl); have z5_ := congrArg Int32.toInt (rd_w k142 ef6 rfl); have z6_ := congrArg Int32.toInt ef143; have z7_ := congrArg Int32.toInt (rd_w k142 ef8 rfl); have z_ := w_lits; have zl_ := l_lits; omega), (by have z0_ := congrArg Int32.toInt (rd_w k142 ef1 rfl); have z1_ := congrArg Int32.toInt (rd_w k142 ef2 rfl); have z2_ := congrArg Int32.toInt (rd_w k142 ef3 rfl); have z3_ := congrArg Int32.toInt (rd_w k142 ef4 rfl); have z4_ := congrArg Int32.toInt (rd_w k142 ef5 rfl); have z5_ := congrArg Int32.toInt (rd_w k142 ef6 rfl); have z6_ := congrArg Int32.toInt ef143; have z7_ := congrArg Int32.toInt (rd_w k142 ef8 rfl); have z_ := w_lits; have zl_ := l_lits; omega)⟩⟩, rfl, hJ142⟩
      · refine ev_tabIn 84 rfl (by decide) (by decide) rfl (by decide) ?_
        refine ev_iload_n rfl rfl rfl ?_
        refine ev_iconst (v := 1) rfl rfl (by decide) ?_
        refine ev_icmp_ne rfl rfl (fun c152 => ?_) (fun c152 => ?_)
        · have z153 := w_ne c152
          rw [show (1 : Int32).toInt = 1 from by decide] at z153
          refine ev_aload_n rfl rfl rfl ?_
          have z156 := congrArg Int32.toInt ef1
          have z157 := congrArg Int32.toInt ef2
          have z158 := congrArg Int32.toInt ef3
          have z159 := congrArg Int32.toInt ef4
          have z160 := congrArg Int32.toInt ef5
          have z161 := congrArg Int32.toInt ef6
          have z162 := congrArg Int32.toInt ef7
          have z163 := congrArg Int32.toInt ef8
          refine ev_V0I hJ0 rfl rfl rfl lk_X2_87 vt_X2_misplaced rfl rfl rfl rfl rfl (w_X2_misplaced_23 L b h hJ0.1 ) (fun r164 h164 q164 hJ164 k164 => ?_)
          obtain ⟨b164, m164_0⟩ := q164
          obtain ⟨f165, ef165⟩ : ∃ f_, h164 23 7 = f_ := ⟨_, rfl⟩
          have bf165 : B f165 (-2147483648) 2147483647 := by have z_ := hJ164.1 23 7; rw [ef165] at z_; exact z_
          have zf165 := congrArg Int32.toInt ef165
          have z166 := congrArg Int32.toInt (rd_w k164 ef1 rfl)
          have z167 := congrArg Int32.toInt (rd_w k164 ef2 rfl)
          have z168 := congrArg Int32.toInt (rd_w k164 ef3 rfl)
          have z169 := congrArg Int32.toInt (rd_w k164 ef4 rfl)
          have z170 := congrArg Int32.toInt (rd_w k164 ef5 rfl)
          have z171 := congrArg Int32.toInt (rd_w k164 ef6 rfl)
          have z172 := congrArg Int32.toInt ef165
          have z173 := congrArg Int32.toInt (rd_w k164 ef8 rfl)
          exact ev_iret rfl rfl rfl ⟨⟨_, rfl, ⟨(b164.mono (by decide) (by decide)), (by have z0_ := congrArg Int32.toInt (rd_w k164 ef1 rfl); have z1_ := congrArg Int32.toInt (rd_w k164 ef2 rfl); have z2_ := congrArg Int32.toInt (rd_w k164 ef3 rfl); have z3_ := congrArg Int32.toInt (rd_w k164 ef4 rfl); have z4_ := congrArg Int32.toInt (rd_w k164 ef5 rfl); have z5_ := congrArg Int32.toInt (rd_w k164 ef6 rfl); have z6_ := congrArg Int32.toInt ef165; have z7_ := congrArg Int32.toInt (rd_w k164 ef8 rfl); have z_ := w_lits; have zl_ := l_lits; omega), (by have z0_ := congrArg Int32.toInt (rd_w k164 ef1 rfl); have z1_ := congrArg Int32.toInt (rd_w k164 ef2 rfl); have z2_ := congrArg Int32.toInt (rd_w k164 ef3 rfl); have z3_ := congrArg Int32.toInt (rd_w k164 ef4 rfl); have z4_ := congrArg Int32.toInt (rd_w k164 ef5 rfl); have z5_ := congrArg Int32.toInt (rd_w k164 ef6 rfl); have z6_ := congrArg Int32.toInt ef165; have z7_ := congrArg Int32.toInt (rd_w k164 ef8 rfl); have z_ := w_lits; have zl_ := l_lits; omega), (by have z0_ := congrArg Int32.toInt (rd_w k164 ef1 rfl); have z1_ := congrArg Int32.toInt (rd_w k164 ef2 rfl); have z2_ := congrArg Int32.toInt (rd_w k164 ef3 rfl); have z3_ := congrArg Int32.toInt (rd_w k164 ef4 rfl); have z4_ := congrArg Int32.toInt (rd_w k164 ef5 rfl); have z5_ := congrArg Int32.toInt (rd_w k164 ef6 rfl); have z6_ := congrArg Int32.toInt ef165; have z7_ := congrArg Int32.toInt (rd_w k164 ef8 rfl); have z_ := w_lits; have zl_ := l_lits; omega), (by have z0_ := congrArg Int32.toInt (rd_w k164 ef1 rfl); have z1_ := congrArg Int32.toInt (rd_w k164 ef2 rfl); have z2_ := congrArg Int32.toInt (rd_w k164 ef3 rfl); have z3_ := congrArg Int32.toInt (rd_w k164 ef4 rfl); have z4_ := congrArg Int32.toInt (rd_w k164 ef5 rfl); have z5_ := congrArg Int32.toInt (rd_w k164 ef6 rfl); have z6_ := congrArg Int32.toInt ef165; have z7_ := congrArg Int32.toInt (rd_w k164 ef8 rfl); have z_ := w_lits; have zl_ := l_lits; omega), (by have z0_ := congrArg Int32.toInt (rd_w k164 ef1 rfl); have z1_ := congrArg Int32.toInt (rd_w k164 ef2 rfl); have z2_ := congrArg Int32.toInt (rd_w k164 ef3 rfl); have z3_ := congrArg Int32.toInt (rd_w k164 ef4 rfl); have z4_ := congrArg Int32.toInt (rd_w k164 ef5 rfl); have z5_ := congrArg Int32.toInt (rd_w k164 ef6 rfl); have z6_ := congrArg Int32.toInt ef165; have z7_ := congrArg Int32.toInt (rd_w k164 ef8 rfl); have z_ := w_lits; have zl_ := l_lits; omega), (by have z0_ := congrArg Int32.toInt (rd_w k164 ef1 rfl); have z1_ := congrArg Int32.toInt (rd_w k164 ef2 rfl); have z2_ := congrArg Int32.toInt (rd_w k164 ef3 rfl); have z3_ := congrArg Int32.toInt (rd_w k164 ef4 rfl); have z4_ := congrArg Int32.toInt (rd_w k164 ef5 rfl); have z5_ := congrArg Int32.toInt (rd_w k164 ef6 rfl); have z6_ := congrArg Int32.toInt ef165; have z7_ := congrArg Int32.toInt (rd_w k164 ef8 rfl); have z_ := w_lits; have zl_ := l_lits; omega)⟩⟩, rfl, hJ164⟩
        · have b154 : B a0 1 1 := R_eqX p0 (by decide : B 1 1 1) c152
          have z155 := congrArg Int32.toInt c152
          rw [show (1 : Int32).toInt = 1 from by decide] at z155
          refine ev_aload_n rfl rfl rfl ?_
          refine ev_getV (v := f2) rfl rfl fl_X2_53 rfl rfl rfl ef2 ?_
          refine ev_if_le rfl rfl (fun c174 => ?_) (fun c174 => ?_)
          · have b175 : B f2 0 0 := R_leX bf2 (by decide : B 0 0 0) c174 (by decide)
            have z176 := w_le c174
            rw [show (0 : Int32).toInt = 0 from by decide] at z176
            refine ev_aload_n rfl rfl rfl ?_
            have z179 := congrArg Int32.toInt ef1
            have z180 := congrArg Int32.toInt ef2
            have z181 := congrArg Int32.toInt ef3
            have z182 := congrArg Int32.toInt ef4
            have z183 := congrArg Int32.toInt ef5
            have z184 := congrArg Int32.toInt ef6
            have z185 := congrArg Int32.toInt ef7
            have z186 := congrArg Int32.toInt ef8
            refine ev_V0I hJ0 rfl rfl rfl lk_X2_87 vt_X2_misplaced rfl rfl rfl rfl rfl (w_X2_misplaced_23 L b h hJ0.1 ) (fun r187 h187 q187 hJ187 k187 => ?_)
            obtain ⟨b187, m187_0⟩ := q187
            obtain ⟨f188, ef188⟩ : ∃ f_, h187 23 7 = f_ := ⟨_, rfl⟩
            have bf188 : B f188 (-2147483648) 2147483647 := by have z_ := hJ187.1 23 7; rw [ef188] at z_; exact z_
            have zf188 := congrArg Int32.toInt ef188
            have z189 := congrArg Int32.toInt (rd_w k187 ef1 rfl)
            have z190 := congrArg Int32.toInt (rd_w k187 ef2 rfl)
            have z191 := congrArg Int32.toInt (rd_w k187 ef3 rfl)
            have z192 := congrArg Int32.toInt (rd_w k187 ef4 rfl)
            have z193 := congrArg Int32.toInt (rd_w k187 ef5 rfl)
            have z194 := congrArg Int32.toInt (rd_w k187 ef6 rfl)
            have z195 := congrArg Int32.toInt ef188
            have z196 := congrArg Int32.toInt (rd_w k187 ef8 rfl)
            exact ev_iret rfl rfl rfl ⟨⟨_, rfl, ⟨(b187.mono (by decide) (by decide)), (by have z0_ := congrArg Int32.toInt (rd_w k187 ef1 rfl); have z1_ := congrArg Int32.toInt (rd_w k187 ef2 rfl); have z2_ := congrArg Int32.toInt (rd_w k187 ef3 rfl); have z3_ := congrArg Int32.toInt (rd_w k187 ef4 rfl); have z4_ := congrArg Int32.toInt (rd_w k187 ef5 rfl); have z5_ := congrArg Int32.toInt (rd_w k187 ef6 rfl); have z6_ := congrArg Int32.toInt ef188; have z7_ := congrArg Int32.toInt (rd_w k187 ef8 rfl); have z_ := w_lits; have zl_ := l_lits; omega), (by have z0_ := congrArg Int32.toInt (rd_w k187 ef1 rfl); have z1_ := congrArg Int32.toInt (rd_w k187 ef2 rfl); have z2_ := congrArg Int32.toInt (rd_w k187 ef3 rfl); have z3_ := congrArg Int32.toInt (rd_w k187 ef4 rfl); have z4_ := congrArg Int32.toInt (rd_w k187 ef5 rfl); have z5_ := congrArg Int32.toInt (rd_w k187 ef6 rfl); have z6_ := congrArg Int32.toInt ef188; have z7_ := congrArg Int32.toInt (rd_w k187 ef8 rfl); have z_ := w_lits; have zl_ := l_lits; omega), (by have z0_ := congrArg Int32.toInt (rd_w k187 ef1 rfl); have z1_ := congrArg Int32.toInt (rd_w k187 ef2 rfl); have z2_ := congrArg Int32.toInt (rd_w k187 ef3 rfl); have z3_ := congrArg Int32.toInt (rd_w k187 ef4 rfl); have z4_ := congrArg Int32.toInt (rd_w k187 ef5 rfl); have z5_ := congrArg Int32.toInt (rd_w k187 ef6 rfl); have z6_ := congrArg Int32.toInt ef188; have z7_ := congrArg Int32.toInt (rd_w k187 ef8 rfl); have z_ := w_lits; have zl_ := l_lits; omega), (by have z0_ := congrArg Int32.toInt (rd_w k187 ef1 rfl); have z1_ := congrArg Int32.toInt (rd_w k187 ef2 rfl); have z2_ := congrArg Int32.toInt (rd_w k187 ef3 rfl); have z3_ := congrArg Int32.toInt (rd_w k187 ef4 rfl); have z4_ := congrArg Int32.toInt (rd_w k187 ef5 rfl); have z5_ := congrArg Int32.toInt (rd_w k187 ef6 rfl); have z6_ := congrArg Int32.toInt ef188; have z7_ := congrArg Int32.toInt (rd_w k187 ef8 rfl); have z_ := w_lits; have zl_ := l_lits; omega), (by have z0_ := congrArg Int32.toInt (rd_w k187 ef1 rfl); have z1_ := congrArg Int32.toInt (rd_w k187 ef2 rfl); have z2_ := congrArg Int32.toInt (rd_w k187 ef3 rfl); have z3_ := congrArg Int32.toInt (rd_w k187 ef4 rfl); have z4_ := congrArg Int32.toInt (rd_w k187 ef5 rfl); have z5_ := congrArg Int32.toInt (rd_w k187 ef6 rfl); have z6_ := congrArg Int32.toInt ef188; have z7_ := congrArg Int32.toInt (rd_w k187 ef8 rfl); have z_ := w_lits; have zl_ := l_lits; omega), (by have z0_ := congrArg Int32.toInt (rd_w k187 ef1 rfl); have z1_ := congrArg Int32.toInt (rd_w k187 ef2 rfl); have z2_ := congrArg Int32.toInt (rd_w k187 ef3 rfl); have z3_ := congrArg Int32.toInt (rd_w k187 ef4 rfl); have z4_ := congrArg Int32.toInt (rd_w k187 ef5 rfl); have z5_ := congrArg Int32.toInt (rd_w k187 ef6 rfl); have z6_ := congrArg Int32.toInt ef188; have z7_ := congrArg Int32.toInt (rd_w k187 ef8 rfl); have z_ := w_lits; have zl_ := l_lits; omega)⟩⟩, rfl, hJ187⟩
          · have b177 : B f2 1 4 := R_ltY (by decide : B 0 0 0) bf2 (Int32.not_le.mp c174) (by decide)
            have z178 := w_lt (Int32.not_le.mp c174)
            rw [show (0 : Int32).toInt = 0 from by decide] at z178
            refine ev_aload_n rfl rfl rfl ?_
            have z197 := congrArg Int32.toInt ef1
            have z198 := congrArg Int32.toInt ef2
            have z199 := congrArg Int32.toInt ef3
            have z200 := congrArg Int32.toInt ef4
            have z201 := congrArg Int32.toInt ef5
            have z202 := congrArg Int32.toInt ef6
            have z203 := congrArg Int32.toInt ef7
            have z204 := congrArg Int32.toInt ef8
            refine ev_V0I hJ0 rfl rfl rfl lk_X2_99 vt_X2_takeClose rfl rfl rfl rfl rfl (w_X2_takeClose_23 L b h hJ0.1 (by have z0_ := congrArg Int32.toInt ef1; have z1_ := congrArg Int32.toInt ef2; have z2_ := congrArg Int32.toInt ef3; have z3_ := congrArg Int32.toInt ef4; have z4_ := congrArg Int32.toInt ef5; have z5_ := congrArg Int32.toInt ef6; have z6_ := congrArg Int32.toInt ef7; have z7_ := congrArg Int32.toInt ef8; have z_ := w_lits; have zl_ := l_lits; omega) (by have z0_ := congrArg Int32.toInt ef1; have z1_ := congrArg Int32.toInt ef2; have z2_ := congrArg Int32.toInt ef3; have z3_ := congrArg Int32.toInt ef4; have z4_ := congrArg Int32.toInt ef5; have z5_ := congrArg Int32.toInt ef6; have z6_ := congrArg Int32.toInt ef7; have z7_ := congrArg Int32.toInt ef8; have z_ := w_lits; have zl_ := l_lits; omega) (by have z0_ := congrArg Int32.toInt ef1; have z1_ := congrArg Int32.toInt ef2; have z2_ := congrArg Int32.toInt ef3; have z3_ := congrArg Int32.toInt ef4; have z4_ := congrArg Int32.toInt ef5; have z5_ := congrArg Int32.toInt ef6; have z6_ := congrArg Int32.toInt ef7; have z7_ := congrArg Int32.toInt ef8; have z_ := w_lits; have zl_ := l_lits; omega) (by have z0_ := congrArg Int32.toInt ef1; have z1_ := congrArg Int32.toInt ef2; have z2_ := congrArg Int32.toInt ef3; have z3_ := congrArg Int32.toInt ef4; have z4_ := congrArg Int32.toInt ef5; have z5_ := congrArg Int32.toInt ef6; have z6_ := congrArg Int32.toInt ef7; have z7_ := congrArg Int32.toInt ef8; have z_ := w_lits; have zl_ := l_lits; omega) (B.at ef2 b177)) (fun r205 h205 q205 hJ205 k205 => ?_)
            obtain ⟨b205, m205_0, m205_1, m205_2, m205_3⟩ := q205
            obtain ⟨f206, ef206⟩ : ∃ f_, h205 23 10 = f_ := ⟨_, rfl⟩
            have bf206 : B f206 0 25 := by have z_ := hJ205.1 23 10; rw [ef206] at z_; exact z_
            have zf206 := congrArg Int32.toInt ef206
            obtain ⟨f207, ef207⟩ : ∃ f_, h205 23 13 = f_ := ⟨_, rfl⟩
            have bf207 : B f207 0 4 := by have z_ := hJ205.1 23 13; rw [ef207] at z_; exact z_
            have zf207 := congrArg Int32.toInt ef207
            have z208 := congrArg Int32.toInt ef206
            have z209 := congrArg Int32.toInt ef207
            have z210 := congrArg Int32.toInt (rd_w k205 ef3 rfl)
            have z211 := congrArg Int32.toInt (rd_w k205 ef4 rfl)
            have z212 := congrArg Int32.toInt (rd_w k205 ef5 rfl)
            have z213 := congrArg Int32.toInt (rd_w k205 ef6 rfl)
            have z214 := congrArg Int32.toInt (rd_w k205 ef7 rfl)
            have z215 := congrArg Int32.toInt (rd_w k205 ef8 rfl)
            refine ev_goto rfl rfl ?_
            exact ev_iret rfl rfl rfl ⟨⟨_, rfl, ⟨(b205.mono (by decide) (by decide)), (by have z0_ := congrArg Int32.toInt ef206; have z1_ := congrArg Int32.toInt ef207; have z2_ := congrArg Int32.toInt (rd_w k205 ef3 rfl); have z3_ := congrArg Int32.toInt (rd_w k205 ef4 rfl); have z4_ := congrArg Int32.toInt (rd_w k205 ef5 rfl); have z5_ := congrArg Int32.toInt (rd_w k205 ef6 rfl); have z6_ := congrArg Int32.toInt (rd_w k205 ef7 rfl); have z7_ := congrArg Int32.toInt (rd_w k205 ef8 rfl); have z_ := w_lits; have zl_ := l_lits; omega), (by have z0_ := congrArg Int32.toInt ef206; have z1_ := congrArg Int32.toInt ef207; have z2_ := congrArg Int32.toInt (rd_w k205 ef3 rfl); have z3_ := congrArg Int32.toInt (rd_w k205 ef4 rfl); have z4_ := congrArg Int32.toInt (rd_w k205 ef5 rfl); have z5_ := congrArg Int32.toInt (rd_w k205 ef6 rfl); have z6_ := congrArg Int32.toInt (rd_w k205 ef7 rfl); have z7_ := congrArg Int32.toInt (rd_w k205 ef8 rfl); have z_ := w_lits; have zl_ := l_lits; omega), (by have z0_ := congrArg Int32.toInt ef206; have z1_ := congrArg Int32.toInt ef207; have z2_ := congrArg Int32.toInt (rd_w k205 ef3 rfl); have z3_ := congrArg Int32.toInt (rd_w k205 ef4 rfl); have z4_ := congrArg Int32.toInt (rd_w k205 ef5 rfl); have z5_ := congrArg Int32.toInt (rd_w k205 ef6 rfl); have z6_ := congrArg Int32.toInt (rd_w k205 ef7 rfl); have z7_ := congrArg Int32.toInt (rd_w k205 ef8 rfl); have z_ := w_lits; have zl_ := l_lits; omega), (by have z0_ := congrArg Int32.toInt ef206; have z1_ := congrArg Int32.toInt ef207; have z2_ := congrArg Int32.toInt (rd_w k205 ef3 rfl); have z3_ := congrArg Int32.toInt (rd_w k205 ef4 rfl); have z4_ := congrArg Int32.toInt (rd_w k205 ef5 rfl); have z5_ := congrArg Int32.toInt (rd_w k205 ef6 rfl); have z6_ := congrArg Int32.toInt (rd_w k205 ef7 rfl); have z7_ := congrArg Int32.toInt (rd_w k205 ef8 rfl); have z_ := w_lits; have zl_ := l_lits; omega), (by have z0_ := congrArg Int32.toInt ef206; have z1_ := congrArg Int32.toInt ef207; have z2_ := congrArg Int32.toInt (rd_w k205 ef3 rfl); have z3_ := congrArg Int32.toInt (rd_w k205 ef4 rfl); have z4_ := congrArg Int32.toInt (rd_w k205 ef5 rfl); have z5_ := congrArg Int32.toInt (rd_w k205 ef6 rfl); have z6_ := congrArg Int32.toInt (rd_w k205 ef7 rfl); have z7_ := congrArg Int32.toInt (rd_w k205 ef8 rfl); have z_ := w_lits; have zl_ := l_lits; omega), (by have z0_ := congrArg Int32.toInt ef206; have z1_ := congrArg Int32.toInt ef207; have z2_ := congrArg Int32.toInt (rd_w k205 ef3 rfl); have z3_ := congrArg Int32.toInt (rd_w k205 ef4 rfl); have z4_ := congrArg Int32.toInt (rd_w k205 ef5 rfl); have z5_ := congrArg Int32.toInt (rd_w k205 ef6 rfl); have z6_ := congrArg Int32.toInt (rd_w k205 ef7 rfl); have z7_ := congrArg Int32.toInt (rd_w k205 ef8 rfl); have z_ := w_lits; have zl_ := l_lits; omega)⟩⟩, rfl, hJ205⟩
  · have b11 : B a0 2 2 := R_eqX p0 (by decide : B 2 2 2) c9
    have z12 := congrArg Int32.toInt c9
    rw [show (2 : Int32).toInt = 2 from by decide] at z12
    refine ev_aload_n rfl rfl rfl ?_
    refine ev_getV (v := f8) rfl rfl fl_X2_22 rfl rfl rfl ef8 ?_
    refine ev_iconst (v := 4) rfl rfl (by decide) ?_
    refine ev_icmp_ne rfl rfl (fun c216 => ?_) (fun c216 => ?_)
    · have z217 := w_ne c216
      rw [show (4 : Int32).toInt = 4 from by decide] at z217
      refine ev_aload_n rfl rfl rfl ?_
      have z220 := congrArg Int32.toInt ef1
      have z221 := congrArg Int32.toInt ef2
      have z222 := congrArg Int32.toInt ef3
      have z223 := congrArg Int32.toInt ef4
      have z224 := congrArg Int32.toInt ef5
      have z225 := congrArg Int32.toInt ef6
      have z226 := congrArg Int32.toInt ef7
      have z227 := congrArg Int32.toInt ef8
      refine ev_V0I hJ0 rfl rfl rfl lk_X2_87 vt_X2_misplaced rfl rfl rfl rfl rfl (w_X2_misplaced_23 L b h hJ0.1 ) (fun r228 h228 q228 hJ228 k228 => ?_)
      obtain ⟨b228, m228_0⟩ := q228
      obtain ⟨f229, ef229⟩ : ∃ f_, h228 23 7 = f_ := ⟨_, rfl⟩
      have bf229 : B f229 (-2147483648) 2147483647 := by have z_ := hJ228.1 23 7; rw [ef229] at z_; exact z_
      have zf229 := congrArg Int32.toInt ef229
      have z230 := congrArg Int32.toInt (rd_w k228 ef1 rfl)
      have z231 := congrArg Int32.toInt (rd_w k228 ef2 rfl)
      have z232 := congrArg Int32.toInt (rd_w k228 ef3 rfl)
      have z233 := congrArg Int32.toInt (rd_w k228 ef4 rfl)
      have z234 := congrArg Int32.toInt (rd_w k228 ef5 rfl)
      have z235 := congrArg Int32.toInt (rd_w k228 ef6 rfl)
      have z236 := congrArg Int32.toInt ef229
      have z237 := congrArg Int32.toInt (rd_w k228 ef8 rfl)
      exact ev_iret rfl rfl rfl ⟨⟨_, rfl, ⟨(b228.mono (by decide) (by decide)), (by have z0_ := congrArg Int32.toInt (rd_w k228 ef1 rfl); have z1_ := congrArg Int32.toInt (rd_w k228 ef2 rfl); have z2_ := congrArg Int32.toInt (rd_w k228 ef3 rfl); have z3_ := congrArg Int32.toInt (rd_w k228 ef4 rfl); have z4_ := congrArg Int32.toInt (rd_w k228 ef5 rfl); have z5_ := congrArg Int32.toInt (rd_w k228 ef6 rfl); have z6_ := congrArg Int32.toInt ef229; have z7_ := congrArg Int32.toInt (rd_w k228 ef8 rfl); have z_ := w_lits; have zl_ := l_lits; omega), (by have z0_ := congrArg Int32.toInt (rd_w k228 ef1 rfl); have z1_ := congrArg Int32.toInt (rd_w k228 ef2 rfl); have z2_ := congrArg Int32.toInt (rd_w k228 ef3 rfl); have z3_ := congrArg Int32.toInt (rd_w k228 ef4 rfl); have z4_ := congrArg Int32.toInt (rd_w k228 ef5 rfl); have z5_ := congrArg Int32.toInt (rd_w k228 ef6 rfl); have z6_ := congrArg Int32.toInt ef229; have z7_ := congrArg Int32.toInt (rd_w k228 ef8 rfl); have z_ := w_lits; have zl_ := l_lits; omega), (by have z0_ := congrArg Int32.toInt (rd_w k228 ef1 rfl); have z1_ := congrArg Int32.toInt (rd_w k228 ef2 rfl); have z2_ := congrArg Int32.toInt (rd_w k228 ef3 rfl); have z3_ := congrArg Int32.toInt (rd_w k228 ef4 rfl); have z4_ := congrArg Int32.toInt (rd_w k228 ef5 rfl); have z5_ := congrArg Int32.toInt (rd_w k228 ef6 rfl); have z6_ := congrArg Int32.toInt ef229; have z7_ := congrArg Int32.toInt (rd_w k228 ef8 rfl); have z_ := w_lits; have zl_ := l_lits; omega), (by have z0_ := congrArg Int32.toInt (rd_w k228 ef1 rfl); have z1_ := congrArg Int32.toInt (rd_w k228 ef2 rfl); have z2_ := congrArg Int32.toInt (rd_w k228 ef3 rfl); have z3_ := congrArg Int32.toInt (rd_w k228 ef4 rfl); have z4_ := congrArg Int32.toInt (rd_w k228 ef5 rfl); have z5_ := congrArg Int32.toInt (rd_w k228 ef6 rfl); have z6_ := congrArg Int32.toInt ef229; have z7_ := congrArg Int32.toInt (rd_w k228 ef8 rfl); have z_ := w_lits; have zl_ := l_lits; omega), (by have z0_ := congrArg Int32.toInt (rd_w k228 ef1 rfl); have z1_ := congrArg Int32.toInt (rd_w k228 ef2 rfl); have z2_ := congrArg Int32.toInt (rd_w k228 ef3 rfl); have z3_ := congrArg Int32.toInt (rd_w k228 ef4 rfl); have z4_ := congrArg Int32.toInt (rd_w k228 ef5 rfl); have z5_ := congrArg Int32.toInt (rd_w k228 ef6 rfl); have z6_ := congrArg Int32.toInt ef229; have z7_ := congrArg Int32.toInt (rd_w k228 ef8 rfl); have z_ := w_lits; have zl_ := l_lits; omega), (by have z0_ := congrArg Int32.toInt (rd_w k228 ef1 rfl); have z1_ := congrArg Int32.toInt (rd_w k228 ef2 rfl); have z2_ := congrArg Int32.toInt (rd_w k228 ef3 rfl); have z3_ := congrArg Int32.toInt (rd_w k228 ef4 rfl); have z4_ := congrArg Int32.toInt (rd_w k228 ef5 rfl); have z5_ := congrArg Int32.toInt (rd_w k228 ef6 rfl); have z6_ := congrArg Int32.toInt ef229; have z7_ := congrArg Int32.toInt (rd_w k228 ef8 rfl); have z_ := w_lits; have zl_ := l_lits; omega)⟩⟩, rfl, hJ228⟩
    · have b218 : B f8 4 4 := R_eqX bf8 (by decide : B 4 4 4) c216
      have z219 := congrArg Int32.toInt c216
      rw [show (4 : Int32).toInt = 4 from by decide] at z219
      refine ev_aload_n rfl rfl rfl ?_
      have z238 := congrArg Int32.toInt ef1
      have z239 := congrArg Int32.toInt ef2
      have z240 := congrArg Int32.toInt ef3
      have z241 := congrArg Int32.toInt ef4
      have z242 := congrArg Int32.toInt ef5
      have z243 := congrArg Int32.toInt ef6
      have z244 := congrArg Int32.toInt ef7
      have z245 := congrArg Int32.toInt ef8
      refine ev_V0I hJ0 rfl rfl rfl lk_X2_83 vt_X2_takeOpen rfl rfl rfl rfl rfl (w_X2_takeOpen_23 L b h hJ0.1 (by have z0_ := congrArg Int32.toInt ef1; have z1_ := congrArg Int32.toInt ef2; have z2_ := congrArg Int32.toInt ef3; have z3_ := congrArg Int32.toInt ef4; have z4_ := congrArg Int32.toInt ef5; have z5_ := congrArg Int32.toInt ef6; have z6_ := congrArg Int32.toInt ef7; have z7_ := congrArg Int32.toInt ef8; have z_ := w_lits; have zl_ := l_lits; omega) (by have z0_ := congrArg Int32.toInt ef1; have z1_ := congrArg Int32.toInt ef2; have z2_ := congrArg Int32.toInt ef3; have z3_ := congrArg Int32.toInt ef4; have z4_ := congrArg Int32.toInt ef5; have z5_ := congrArg Int32.toInt ef6; have z6_ := congrArg Int32.toInt ef7; have z7_ := congrArg Int32.toInt ef8; have z_ := w_lits; have zl_ := l_lits; omega) (by have z0_ := congrArg Int32.toInt ef1; have z1_ := congrArg Int32.toInt ef2; have z2_ := congrArg Int32.toInt ef3; have z3_ := congrArg Int32.toInt ef4; have z4_ := congrArg Int32.toInt ef5; have z5_ := congrArg Int32.toInt ef6; have z6_ := congrArg Int32.toInt ef7; have z7_ := congrArg Int32.toInt ef8; have z_ := w_lits; have zl_ := l_lits; omega) (by have z0_ := congrArg Int32.toInt ef1; have z1_ := congrArg Int32.toInt ef2; have z2_ := congrArg Int32.toInt ef3; have z3_ := congrArg Int32.toInt ef4; have z4_ := congrArg Int32.toInt ef5; have z5_ := congrArg Int32.toInt ef6; have z6_ := congrArg Int32.toInt ef7; have z7_ := congrArg Int32.toInt ef8; have z_ := w_lits; have zl_ := l_lits; omega)) (fun r246 h246 q246 hJ246 k246 => ?_)
      obtain ⟨b246, m246_0, m246_1, m246_2, m246_3, m246_4⟩ := q246
      obtain ⟨f247, ef247⟩ : ∃ f_, h246 23 13 = f_ := ⟨_, rfl⟩
      have bf247 : B f247 0 4 := by have z_ := hJ246.1 23 13; rw [ef247] at z_; exact z_
      have zf247 := congrArg Int32.toInt ef247
      obtain ⟨f248, ef248⟩ : ∃ f_, h246 26 0 = f_ := ⟨_, rfl⟩
      have bf248 : B f248 0 25 := by have z_ := hJ246.1 26 0; rw [ef248] at z_; exact z_
      have zf248 := congrArg Int32.toInt ef248
      obtain ⟨f249, ef249⟩ : ∃ f_, h246 26 1 = f_ := ⟨_, rfl⟩
      have bf249 : B f249 0 25 := by have z_ := hJ246.1 26 1; rw [ef249] at z_; exact z_
      have zf249 := congrArg Int32.toInt ef249
      obtain ⟨f250, ef250⟩ : ∃ f_, h246 26 2 = f_ := ⟨_, rfl⟩
      have bf250 : B f250 0 25 := by have z_ := hJ246.1 26 2; rw [ef250] at z_; exact z_
      have zf250 := congrArg Int32.toInt ef250
      obtain ⟨f251, ef251⟩ : ∃ f_, h246 26 3 = f_ := ⟨_, rfl⟩
      have bf251 : B f251 0 25 := by have z_ := hJ246.1 26 3; rw [ef251] at z_; exact z_
      have zf251 := congrArg Int32.toInt ef251
      obtain ⟨f252, ef252⟩ : ∃ f_, h246 23 7 = f_ := ⟨_, rfl⟩
      have bf252 : B f252 (-2147483648) 2147483647 := by have z_ := hJ246.1 23 7; rw [ef252] at z_; exact z_
      have zf252 := congrArg Int32.toInt ef252
      have z253 := congrArg Int32.toInt (rd_w k246 ef1 rfl)
      have z254 := congrArg Int32.toInt ef247
      have z255 := congrArg Int32.toInt ef248
      have z256 := congrArg Int32.toInt ef249
      have z257 := congrArg Int32.toInt ef250
      have z258 := congrArg Int32.toInt ef251
      have z259 := congrArg Int32.toInt ef252
      have z260 := congrArg Int32.toInt (rd_w k246 ef8 rfl)
      refine ev_goto rfl rfl ?_
      exact ev_iret rfl rfl rfl ⟨⟨_, rfl, ⟨b246, (by have z0_ := congrArg Int32.toInt (rd_w k246 ef1 rfl); have z1_ := congrArg Int32.toInt ef247; have z2_ := congrArg Int32.toInt ef248; have z3_ := congrArg Int32.toInt ef249; have z4_ := congrArg Int32.toInt ef250; have z5_ := congrArg Int32.toInt ef251; have z6_ := congrArg Int32.toInt ef252; have z7_ := congrArg Int32.toInt (rd_w k246 ef8 rfl); have z_ := w_lits; have zl_ := l_lits; omega), (by have z0_ := congrArg Int32.toInt (rd_w k246 ef1 rfl); have z1_ := congrArg Int32.toInt ef247; have z2_ := congrArg Int32.toInt ef248; have z3_ := congrArg Int32.toInt ef249; have z4_ := congrArg Int32.toInt ef250; have z5_ := congrArg Int32.toInt ef251; have z6_ := congrArg Int32.toInt ef252; have z7_ := congrArg Int32.toInt (rd_w k246 ef8 rfl); have z_ := w_lits; have zl_ := l_lits; omega), (by have z0_ := congrArg Int32.toInt (rd_w k246 ef1 rfl); have z1_ := congrArg Int32.toInt ef247; have z2_ := congrArg Int32.toInt ef248; have z3_ := congrArg Int32.toInt ef249; have z4_ := congrArg Int32.toInt ef250; have z5_ := congrArg Int32.toInt ef251; have z6_ := congrArg Int32.toInt ef252; have z7_ := congrArg Int32.toInt (rd_w k246 ef8 rfl); have z_ := w_lits; have zl_ := l_lits; omega), (by have z0_ := congrArg Int32.toInt (rd_w k246 ef1 rfl); have z1_ := congrArg Int32.toInt ef247; have z2_ := congrArg Int32.toInt ef248; have z3_ := congrArg Int32.toInt ef249; have z4_ := congrArg Int32.toInt ef250; have z5_ := congrArg Int32.toInt ef251; have z6_ := congrArg Int32.toInt ef252; have z7_ := congrArg Int32.toInt (rd_w k246 ef8 rfl); have z_ := w_lits; have zl_ := l_lits; omega), (by have z0_ := congrArg Int32.toInt (rd_w k246 ef1 rfl); have z1_ := congrArg Int32.toInt ef247; have z2_ := congrArg Int32.toInt ef248; have z3_ := congrArg Int32.toInt ef249; have z4_ := congrArg Int32.toInt ef250; have z5_ := congrArg Int32.toInt ef251; have z6_ := congrArg Int32.toInt ef252; have z7_ := congrArg Int32.toInt (rd_w k246 ef8 rfl); have z_ := w_lits; have zl_ := l_lits; omega), (by have z0_ := congrArg Int32.toInt (rd_w k246 ef1 rfl); have z1_ := congrArg Int32.toInt ef247; have z2_ := congrArg Int32.toInt ef248; have z3_ := congrArg Int32.toInt ef249; have z4_ := congrArg Int32.toInt ef250; have z5_ := congrArg Int32.toInt ef251; have z6_ := congrArg Int32.toInt ef252; have z7_ := congrArg Int32.toInt (rd_w k246 ef8 rfl); have z_ := w_lits; have zl_ := l_lits; omega)⟩⟩, rfl, hJ246⟩

set_option maxRecDepth 100000 in
set_option maxHeartbeats 4000000 in
theorem w_X2_readAll_23 (L : Nat) (b : Bool) (h : Hp) (hB : Bx h)  : EvK mi_X2_readAll [.ref 23] (G0 L b) h (fun z : Hp => ((z 23 7).toInt = 0 → (z 23 10).toInt ≤ 24)) [(23, 2), (23, 3), (23, 4), (23, 5), (23, 6), (23, 7), (23, 8), (23, 10), (23, 13), (25, 999), (26, 999), (27, 999)] := by
  refine EvM.of2 (lo := [some (.ref 23), none, none]) pf_X2_readAll ok_X2_readAll rfl rfl ?_
  have hJ0 : JW [(23, 2), (23, 3), (23, 4), (23, 5), (23, 6), (23, 7), (23, 8), (23, 10), (23, 13), (25, 999), (26, 999), (27, 999)] h h := JW.refl hB
  obtain ⟨f1, ef1⟩ : ∃ f_, h 23 10 = f_ := ⟨_, rfl⟩
  have bf1 : B f1 0 25 := by have z_ := hJ0.1 23 10; rw [ef1] at z_; exact z_
  have zf1 := congrArg Int32.toInt ef1
  obtain ⟨f2, ef2⟩ : ∃ f_, h 23 13 = f_ := ⟨_, rfl⟩
  have bf2 : B f2 0 4 := by have z_ := hJ0.1 23 13; rw [ef2] at z_; exact z_
  have zf2 := congrArg Int32.toInt ef2
  obtain ⟨f3, ef3⟩ : ∃ f_, h 26 0 = f_ := ⟨_, rfl⟩
  have bf3 : B f3 0 25 := by have z_ := hJ0.1 26 0; rw [ef3] at z_; exact z_
  have zf3 := congrArg Int32.toInt ef3
  obtain ⟨f4, ef4⟩ : ∃ f_, h 26 1 = f_ := ⟨_, rfl⟩
  have bf4 : B f4 0 25 := by have z_ := hJ0.1 26 1; rw [ef4] at z_; exact z_
  have zf4 := congrArg Int32.toInt ef4
  obtain ⟨f5, ef5⟩ : ∃ f_, h 26 2 = f_ := ⟨_, rfl⟩
  have bf5 : B f5 0 25 := by have z_ := hJ0.1 26 2; rw [ef5] at z_; exact z_
  have zf5 := congrArg Int32.toInt ef5
  obtain ⟨f6, ef6⟩ : ∃ f_, h 26 3 = f_ := ⟨_, rfl⟩
  have bf6 : B f6 0 25 := by have z_ := hJ0.1 26 3; rw [ef6] at z_; exact z_
  have zf6 := congrArg Int32.toInt ef6
  obtain ⟨f7, ef7⟩ : ∃ f_, h 23 1 = f_ := ⟨_, rfl⟩
  have bf7 : B f7 0 160 := by have z_ := hJ0.1 23 1; rw [ef7] at z_; exact z_
  have zf7 := congrArg Int32.toInt ef7
  obtain ⟨f8, ef8⟩ : ∃ f_, h 23 2 = f_ := ⟨_, rfl⟩
  have bf8 : B f8 0 160 := by have z_ := hJ0.1 23 2; rw [ef8] at z_; exact z_
  have zf8 := congrArg Int32.toInt ef8
  obtain ⟨f9, ef9⟩ : ∃ f_, h 23 3 = f_ := ⟨_, rfl⟩
  have bf9 : B f9 (-2147483648) 2147483647 := by have z_ := hJ0.1 23 3; rw [ef9] at z_; exact z_
  have zf9 := congrArg Int32.toInt ef9
  obtain ⟨f10, ef10⟩ : ∃ f_, h 23 7 = f_ := ⟨_, rfl⟩
  have bf10 : B f10 (-2147483648) 2147483647 := by have z_ := hJ0.1 23 7; rw [ef10] at z_; exact z_
  have zf10 := congrArg Int32.toInt ef10
  refine ev_aload_n rfl rfl rfl ?_
  refine ev_iconst (v := 0) rfl rfl (by decide) ?_
  refine ev_putW (l := 0) (u := 160) hJ0 rfl (by decide : B 0 0 0) (by decide) (by decide) rfl rfl rfl fl_X2_19 rfl rfl rfl rfl rfl (fun h11 hJ11 k11 => ?_)
  refine ev_aload_n rfl rfl rfl ?_
  refine ev_iconst (v := 0) rfl rfl (by decide) ?_
  refine ev_putW (l := (-2147483648)) (u := 2147483647) hJ11 rfl (by decide : B 0 0 0) (by decide) (by decide) rfl rfl rfl fl_X2_34 rfl rfl rfl rfl rfl (fun h12 hJ12 k12 => ?_)
  refine ev_aload_n rfl rfl rfl ?_
  refine ev_iconst (v := 0) rfl rfl (by decide) ?_
  refine ev_putW (l := (-2147483648)) (u := 2147483647) hJ12 rfl (by decide : B 0 0 0) (by decide) (by decide) rfl rfl rfl fl_X2_37 rfl rfl rfl rfl rfl (fun h13 hJ13 k13 => ?_)
  refine ev_aload_n rfl rfl rfl ?_
  refine ev_iconst (v := 0) rfl rfl (by decide) ?_
  refine ev_putW (l := 0) (u := 25) hJ13 rfl (by decide : B 0 0 0) (by decide) (by decide) rfl rfl rfl fl_X2_44 rfl rfl rfl rfl rfl (fun h14 hJ14 k14 => ?_)
  refine ev_aload_n rfl rfl rfl ?_
  refine ev_iconst (v := 0) rfl rfl (by decide) ?_
  refine ev_putW (l := 0) (u := 4) hJ14 rfl (by decide : B 0 0 0) (by decide) (by decide) rfl rfl rfl fl_X2_53 rfl rfl rfl rfl rfl (fun h15 hJ15 k15 => ?_)
  refine ev_iconst (v := 0) rfl rfl (by decide) ?_
  refine ev_istore_n rfl rfl rfl rfl ?_
  dsimp only [List.set]
  refine ev_iconst (v := 0) rfl rfl (by decide) ?_
  refine ev_istore_n rfl rfl rfl rfl ?_
  dsimp only [List.set]
  have lp29_358 : ∀ (n : Nat) (w359 : Int32) (w360 : Int32) (h363 : Hp), B w359 0 3 → B w360 0 161 → JW [(23, 2), (23, 3), (23, 4), (23, 5), (23, 6), (23, 7), (23, 8), (23, 10), (23, 13), (25, 999), (26, 999), (27, 999)] h h363 → (h363 23 1 = f7) → ((0 < (h363 23 13).toInt → (h363 26 0).toInt ≤ (h363 23 10).toInt)) → ((1 < (h363 23 13).toInt → (h363 26 0).toInt ≤ (h363 26 1).toInt ∧ (h363 26 1).toInt ≤ (h363 23 10).toInt)) → ((2 < (h363 23 13).toInt → (h363 26 1).toInt ≤ (h363 26 2).toInt ∧ (h363 26 2).toInt ≤ (h363 23 10).toInt)) → ((3 < (h363 23 13).toInt → (h363 26 2).toInt ≤ (h363 26 3).toInt ∧ (h363 26 3).toInt ≤ (h363 23 10).toInt)) → ((h363 23 2).toInt ≤ (h363 23 1).toInt) → (w360.toInt ≤ (h363 23 2).toInt ∨ w359.toInt = 3 ∨ ¬ (h363 23 7).toInt = 0) → (w359.toInt = 3 → (h363 23 7).toInt = 0 → (h363 23 10).toInt ≤ 24) → 161 + 1 - w360.toInt ≤ (n : Int) → EvQ mi_X2_readAll 29 [some (.ref 23), some (.int w359), some (.int w360)] [] (G0 L b) h363 0 0 (QK (fun z : Hp => ((z 23 7).toInt = 0 → (z 23 10).toInt ≤ 24)) [(23, 2), (23, 3), (23, 4), (23, 5), (23, 6), (23, 7), (23, 8), (23, 10), (23, 13), (25, 999), (26, 999), (27, 999)] (G0 L b) h) := by
    intro n
    induction n with
    | zero =>
      intro w359 w360 h363 b361 b362 hJ364 z365 y29_0 y29_1 y29_2 y29_3 y29_4 y29_5 y29_6 hm29
      exact absurd hm29 (L_zero b362 (by decide))
    | succ n ih29 =>
      intro w359 w360 h363 b361 b362 hJ364 z365 y29_0 y29_1 y29_2 y29_3 y29_4 y29_5 y29_6 hm29
      obtain ⟨f366, ef366⟩ : ∃ f_, h363 23 10 = f_ := ⟨_, rfl⟩
      have bf366 : B f366 0 25 := by have z_ := hJ364.1 23 10; rw [ef366] at z_; exact z_
      have zf366 := congrArg Int32.toInt ef366
      obtain ⟨f367, ef367⟩ : ∃ f_, h363 23 13 = f_ := ⟨_, rfl⟩
      have bf367 : B f367 0 4 := by have z_ := hJ364.1 23 13; rw [ef367] at z_; exact z_
      have zf367 := congrArg Int32.toInt ef367
      obtain ⟨f368, ef368⟩ : ∃ f_, h363 26 0 = f_ := ⟨_, rfl⟩
      have bf368 : B f368 0 25 := by have z_ := hJ364.1 26 0; rw [ef368] at z_; exact z_
      have zf368 := congrArg Int32.toInt ef368
      obtain ⟨f369, ef369⟩ : ∃ f_, h363 26 1 = f_ := ⟨_, rfl⟩
      have bf369 : B f369 0 25 := by have z_ := hJ364.1 26 1; rw [ef369] at z_; exact z_
      have zf369 := congrArg Int32.toInt ef369
      obtain ⟨f370, ef370⟩ : ∃ f_, h363 26 2 = f_ := ⟨_, rfl⟩
      have bf370 : B f370 0 25 := by have z_ := hJ364.1 26 2; rw [ef370] at z_; exact z_
      have zf370 := congrArg Int32.toInt ef370
      obtain ⟨f371, ef371⟩ : ∃ f_, h363 26 3 = f_ := ⟨_, rfl⟩
      have bf371 : B f371 0 25 := by have z_ := hJ364.1 26 3; rw [ef371] at z_; exact z_
      have zf371 := congrArg Int32.toInt ef371
      obtain ⟨f372, ef372⟩ : ∃ f_, h363 23 2 = f_ := ⟨_, rfl⟩
      have bf372 : B f372 0 160 := by have z_ := hJ364.1 23 2; rw [ef372] at z_; exact z_
      have zf372 := congrArg Int32.toInt ef372
      obtain ⟨f373, ef373⟩ : ∃ f_, h363 23 3 = f_ := ⟨_, rfl⟩
      have bf373 : B f373 (-2147483648) 2147483647 := by have z_ := hJ364.1 23 3; rw [ef373] at z_; exact z_
      have zf373 := congrArg Int32.toInt ef373
      obtain ⟨f374, ef374⟩ : ∃ f_, h363 23 7 = f_ := ⟨_, rfl⟩
      have bf374 : B f374 (-2147483648) 2147483647 := by have z_ := hJ364.1 23 7; rw [ef374] at z_; exact z_
      have zf374 := congrArg Int32.toInt ef374
      have z375 := congrArg Int32.toInt ef366
      have z376 := congrArg Int32.toInt ef367
      have z377 := congrArg Int32.toInt ef368
      have z378 := congrArg Int32.toInt ef369
      have z379 := congrArg Int32.toInt ef370
      have z380 := congrArg Int32.toInt ef371
      have z381 := congrArg Int32.toInt z365
      have z382 := congrArg Int32.toInt ef372
      have z383 := congrArg Int32.toInt ef373
      have z384 := congrArg Int32.toInt ef374
      refine ev_iload_n rfl rfl rfl ?_
      refine ev_aload_n rfl rfl rfl ?_
      refine ev_getV (v := f7) rfl rfl fl_X2_15 rfl rfl rfl z365 ?_
      refine ev_icmp_gt rfl rfl (fun c385 => ?_) (fun c385 => ?_)
      · have b386 : B w360 1 161 := R_ltY bf7 b362 c385 (by decide)
        have z387 := w_lt c385
        exact ev_vret rfl rfl trivial ⟨rfl, rfl, hJ364, (by have z0_ := congrArg Int32.toInt ef366; have z1_ := congrArg Int32.toInt ef367; have z2_ := congrArg Int32.toInt ef368; have z3_ := congrArg Int32.toInt ef369; have z4_ := congrArg Int32.toInt ef370; have z5_ := congrArg Int32.toInt ef371; have z6_ := congrArg Int32.toInt z365; have z7_ := congrArg Int32.toInt ef372; have z8_ := congrArg Int32.toInt ef373; have z9_ := congrArg Int32.toInt ef374; have z_ := w_lits; have zl_ := l_lits; omega)⟩
      · have b388 : B w360 0 160 := R_leX b362 bf7 (Int32.not_lt.mp c385) (by decide)
        have z389 := w_le (Int32.not_lt.mp c385)
        refine ev_iload_n rfl rfl rfl ?_
        refine ev_iconst (v := 3) rfl rfl (by decide) ?_
        refine ev_icmp_eq rfl rfl (fun c390 => ?_) (fun c390 => ?_)
        · have b391 : B w359 3 3 := R_eqX b361 (by decide : B 3 3 3) c390
          have z392 := congrArg Int32.toInt c390
          rw [show (3 : Int32).toInt = 3 from by decide] at z392
          exact ev_vret rfl rfl trivial ⟨rfl, rfl, hJ364, (by have z0_ := congrArg Int32.toInt ef366; have z1_ := congrArg Int32.toInt ef367; have z2_ := congrArg Int32.toInt ef368; have z3_ := congrArg Int32.toInt ef369; have z4_ := congrArg Int32.toInt ef370; have z5_ := congrArg Int32.toInt ef371; have z6_ := congrArg Int32.toInt z365; have z7_ := congrArg Int32.toInt ef372; have z8_ := congrArg Int32.toInt ef373; have z9_ := congrArg Int32.toInt ef374; have z_ := w_lits; have zl_ := l_lits; omega)⟩
        · have b393 : B w359 0 2 := R_neU b361 (by decide : B 3 3 3) c390 (by decide)
          have z394 := w_ne c390
          rw [show (3 : Int32).toInt = 3 from by decide] at z394
          refine ev_aload_n rfl rfl rfl ?_
          refine ev_getV (v := f374) rfl rfl fl_X2_34 rfl rfl rfl ef374 ?_
          refine ev_if_ne rfl rfl (fun c395 => ?_) (fun c395 => ?_)
          · have z396 := w_ne c395
            rw [show (0 : Int32).toInt = 0 from by decide] at z396
            exact ev_vret rfl rfl trivial ⟨rfl, rfl, hJ364, (by have z0_ := congrArg Int32.toInt ef366; have z1_ := congrArg Int32.toInt ef367; have z2_ := congrArg Int32.toInt ef368; have z3_ := congrArg Int32.toInt ef369; have z4_ := congrArg Int32.toInt ef370; have z5_ := congrArg Int32.toInt ef371; have z6_ := congrArg Int32.toInt z365; have z7_ := congrArg Int32.toInt ef372; have z8_ := congrArg Int32.toInt ef373; have z9_ := congrArg Int32.toInt ef374; have z_ := w_lits; have zl_ := l_lits; omega)⟩
          · have b397 : B f374 0 0 := R_eqX bf374 (by decide : B 0 0 0) c395
            have z398 := congrArg Int32.toInt c395
            rw [show (0 : Int32).toInt = 0 from by decide] at z398
            refine ev_aload_n rfl rfl rfl ?_
            have z399 := congrArg Int32.toInt ef366
            have z400 := congrArg Int32.toInt ef367
            have z401 := congrArg Int32.toInt ef368
            have z402 := congrArg Int32.toInt ef369
            have z403 := congrArg Int32.toInt ef370
            have z404 := congrArg Int32.toInt ef371
            have z405 := congrArg Int32.toInt z365
            have z406 := congrArg Int32.toInt ef372
            have z407 := congrArg Int32.toInt ef373
            have z408 := congrArg Int32.toInt ef374
            refine ev_V0K hJ364 rfl rfl rfl lk_X2_56 vt_X2_readToken rfl rfl rfl rfl rfl (w_X2_readToken_23 L b h363 hJ364.1 (by have z0_ := congrArg Int32.toInt ef366; have z1_ := congrArg Int32.toInt ef367; have z2_ := congrArg Int32.toInt ef368; have z3_ := congrArg Int32.toInt ef369; have z4_ := congrArg Int32.toInt ef370; have z5_ := congrArg Int32.toInt ef371; have z6_ := congrArg Int32.toInt z365; have z7_ := congrArg Int32.toInt ef372; have z8_ := congrArg Int32.toInt ef373; have z9_ := congrArg Int32.toInt ef374; have z_ := w_lits; have zl_ := l_lits; omega)) (fun h409 hJ409 k409 m409 => ?_)
            obtain ⟨m409_0, m409_1⟩ := m409
            obtain ⟨f410, ef410⟩ : ∃ f_, h409 23 2 = f_ := ⟨_, rfl⟩
            have bf410 : B f410 0 160 := by have z_ := hJ409.1 23 2; rw [ef410] at z_; exact z_
            have zf410 := congrArg Int32.toInt ef410
            obtain ⟨f411, ef411⟩ : ∃ f_, h409 23 3 = f_ := ⟨_, rfl⟩
            have bf411 : B f411 (-2147483648) 2147483647 := by have z_ := hJ409.1 23 3; rw [ef411] at z_; exact z_
            have zf411 := congrArg Int32.toInt ef411
            obtain ⟨f412, ef412⟩ : ∃ f_, h409 23 7 = f_ := ⟨_, rfl⟩
            have bf412 : B f412 (-2147483648) 2147483647 := by have z_ := hJ409.1 23 7; rw [ef412] at z_; exact z_
            have zf412 := congrArg Int32.toInt ef412
            have z413 := congrArg Int32.toInt (rd_w k409 ef366 rfl)
            have z414 := congrArg Int32.toInt (rd_w k409 ef367 rfl)
            have z415 := congrArg Int32.toInt (rd_w k409 ef368 rfl)
            have z416 := congrArg Int32.toInt (rd_w k409 ef369 rfl)
            have z417 := congrArg Int32.toInt (rd_w k409 ef370 rfl)
            have z418 := congrArg Int32.toInt (rd_w k409 ef371 rfl)
            have z419 := congrArg Int32.toInt (rd_w k409 z365 rfl)
            have z420 := congrArg Int32.toInt ef410
            have z421 := congrArg Int32.toInt ef411
            have z422 := congrArg Int32.toInt ef412
            refine ev_aload_n rfl rfl rfl ?_
            refine ev_getV (v := f412) rfl rfl fl_X2_34 rfl rfl rfl ef412 ?_
            refine ev_if_ne rfl rfl (fun c423 => ?_) (fun c423 => ?_)
            · have z424 := w_ne c423
              rw [show (0 : Int32).toInt = 0 from by decide] at z424
              refine ev_iincB (y := 1) (l := 1) (u := 161) rfl rfl rfl (by decide) rfl rfl b388 (by decide : B 1 1 1) (by decide) (by decide) (by decide) (by decide) (fun v427 b427 e427 => ?_)
              dsimp only [List.set]
              have e427x := e427; rw [show (1 : Int32).toInt = 1 from by decide] at e427x
              refine ev_goto rfl rfl ?_
              exact (ih29 w359 v427 h409 (b393.mono (by decide) (by decide)) (b427.mono (by decide) (by decide)) hJ409 (rd_w k409 z365 rfl) (by have z0_ := congrArg Int32.toInt (rd_w k409 ef366 rfl); have z1_ := congrArg Int32.toInt (rd_w k409 ef367 rfl); have z2_ := congrArg Int32.toInt (rd_w k409 ef368 rfl); have z3_ := congrArg Int32.toInt (rd_w k409 ef369 rfl); have z4_ := congrArg Int32.toInt (rd_w k409 ef370 rfl); have z5_ := congrArg Int32.toInt (rd_w k409 ef371 rfl); have z6_ := congrArg Int32.toInt (rd_w k409 z365 rfl); have z7_ := congrArg Int32.toInt ef410; have z8_ := congrArg Int32.toInt ef411; have z9_ := congrArg Int32.toInt ef412; have z_ := w_lits; have zl_ := l_lits; omega) (by have z0_ := congrArg Int32.toInt (rd_w k409 ef366 rfl); have z1_ := congrArg Int32.toInt (rd_w k409 ef367 rfl); have z2_ := congrArg Int32.toInt (rd_w k409 ef368 rfl); have z3_ := congrArg Int32.toInt (rd_w k409 ef369 rfl); have z4_ := congrArg Int32.toInt (rd_w k409 ef370 rfl); have z5_ := congrArg Int32.toInt (rd_w k409 ef371 rfl); have z6_ := congrArg Int32.toInt (rd_w k409 z365 rfl); have z7_ := congrArg Int32.toInt ef410; have z8_ := congrArg Int32.toInt ef411; have z9_ := congrArg Int32.toInt ef412; have z_ := w_lits; have zl_ := l_lits; omega) (by have z0_ := congrArg Int32.toInt (rd_w k409 ef366 rfl); have z1_ := congrArg Int32.toInt (rd_w k409 ef367 rfl); have z2_ := congrArg Int32.toInt (rd_w k409 ef368 rfl); have z3_ := congrArg Int32.toInt (rd_w k409 ef369 rfl); have z4_ := congrArg Int32.toInt (rd_w k409 ef370 rfl); have z5_ := congrArg Int32.toInt (rd_w k409 ef371 rfl); have z6_ := congrArg Int32.toInt (rd_w k409 z365 rfl); have z7_ := congrArg Int32.toInt ef410; have z8_ := congrArg Int32.toInt ef411; have z9_ := congrArg Int32.toInt ef412; have z_ := w_lits; have zl_ := l_lits; omega) (by have z0_ := congrArg Int32.toInt (rd_w k409 ef366 rfl); have z1_ := congrArg Int32.toInt (rd_w k409 ef367 rfl); have z2_ := congrArg Int32.toInt (rd_w k409 ef368 rfl); have z3_ := congrArg Int32.toInt (rd_w k409 ef369 rfl); have z4_ := congrArg Int32.toInt (rd_w k409 ef370 rfl); have z5_ := congrArg Int32.toInt (rd_w k409 ef371 rfl); have z6_ := congrArg Int32.toInt (rd_w k409 z365 rfl); have z7_ := congrArg Int32.toInt ef410; have z8_ := congrArg Int32.toInt ef411; have z9_ := congrArg Int32.toInt ef412; have z_ := w_lits; have zl_ := l_lits; omega) (by have z0_ := congrArg Int32.toInt (rd_w k409 ef366 rfl); have z1_ := congrArg Int32.toInt (rd_w k409 ef367 rfl); have z2_ := congrArg Int32.toInt (rd_w k409 ef368 rfl); have z3_ := congrArg Int32.toInt (rd_w k409 ef369 rfl); have z4_ := congrArg Int32.toInt (rd_w k409 ef370 rfl); have z5_ := congrArg Int32.toInt (rd_w k409 ef371 rfl); have z6_ := congrArg Int32.toInt (rd_w k409 z365 rfl); have z7_ := congrArg Int32.toInt ef410; have z8_ := congrArg Int32.toInt ef411; have z9_ := congrArg Int32.toInt ef412; have z_ := w_lits; have zl_ := l_lits; omega) (by have z0_ := congrArg Int32.toInt (rd_w k409 ef366 rfl); have z1_ := congrArg Int32.toInt (rd_w k409 ef367 rfl); have z2_ := congrArg Int32.toInt (rd_w k409 ef368 rfl); have z3_ := congrArg Int32.toInt (rd_w k409 ef369 rfl); have z4_ := congrArg Int32.toInt (rd_w k409 ef370 rfl); have z5_ := congrArg Int32.toInt (rd_w k409 ef371 rfl); have z6_ := congrArg Int32.toInt (rd_w k409 z365 rfl); have z7_ := congrArg Int32.toInt ef410; have z8_ := congrArg Int32.toInt ef411; have z9_ := congrArg Int32.toInt ef412; have z_ := w_lits; have zl_ := l_lits; omega) (by have z0_ := congrArg Int32.toInt (rd_w k409 ef366 rfl); have z1_ := congrArg Int32.toInt (rd_w k409 ef367 rfl); have z2_ := congrArg Int32.toInt (rd_w k409 ef368 rfl); have z3_ := congrArg Int32.toInt (rd_w k409 ef369 rfl); have z4_ := congrArg Int32.toInt (rd_w k409 ef370 rfl); have z5_ := congrArg Int32.toInt (rd_w k409 ef371 rfl); have z6_ := congrArg Int32.toInt (rd_w k409 z365 rfl); have z7_ := congrArg Int32.toInt ef410; have z8_ := congrArg Int32.toInt ef411; have z9_ := congrArg Int32.toInt ef412; have z_ := w_lits; have zl_ := l_lits; omega) (L_up hm29 (e_p1 e427 (by decide))))
            · have b425 : B f412 0 0 := R_eqX bf412 (by decide : B 0 0 0) c423
              have z426 := congrArg Int32.toInt c423
              rw [show (0 : Int32).toInt = 0 from by decide] at z426
              refine ev_aload_n rfl rfl rfl ?_
              refine ev_iload_n rfl rfl rfl ?_
              have z428 := congrArg Int32.toInt (rd_w k409 ef366 rfl)
              have z429 := congrArg Int32.toInt (rd_w k409 ef367 rfl)
              have z430 := congrArg Int32.toInt (rd_w k409 ef368 rfl)
              have z431 := congrArg Int32.toInt (rd_w k409 ef369 rfl)
              have z432 := congrArg Int32.toInt (rd_w k409 ef370 rfl)
              have z433 := congrArg Int32.toInt (rd_w k409 ef371 rfl)
              have z434 := congrArg Int32.toInt (rd_w k409 z365 rfl)
              have z435 := congrArg Int32.toInt ef410
              have z436 := congrArg Int32.toInt ef411
              have z437 := congrArg Int32.toInt ef412
              refine ev_V1I hJ409 rfl rfl rfl lk_X2_59 vt_X2_take rfl rfl rfl rfl rfl (w_X2_take_23 L b h409 hJ409.1 w359 (b393.mono (by decide) (by decide)) (by have z0_ := congrArg Int32.toInt (rd_w k409 ef366 rfl); have z1_ := congrArg Int32.toInt (rd_w k409 ef367 rfl); have z2_ := congrArg Int32.toInt (rd_w k409 ef368 rfl); have z3_ := congrArg Int32.toInt (rd_w k409 ef369 rfl); have z4_ := congrArg Int32.toInt (rd_w k409 ef370 rfl); have z5_ := congrArg Int32.toInt (rd_w k409 ef371 rfl); have z6_ := congrArg Int32.toInt (rd_w k409 z365 rfl); have z7_ := congrArg Int32.toInt ef410; have z8_ := congrArg Int32.toInt ef411; have z9_ := congrArg Int32.toInt ef412; have z_ := w_lits; have zl_ := l_lits; omega) (by have z0_ := congrArg Int32.toInt (rd_w k409 ef366 rfl); have z1_ := congrArg Int32.toInt (rd_w k409 ef367 rfl); have z2_ := congrArg Int32.toInt (rd_w k409 ef368 rfl); have z3_ := congrArg Int32.toInt (rd_w k409 ef369 rfl); have z4_ := congrArg Int32.toInt (rd_w k409 ef370 rfl); have z5_ := congrArg Int32.toInt (rd_w k409 ef371 rfl); have z6_ := congrArg Int32.toInt (rd_w k409 z365 rfl); have z7_ := congrArg Int32.toInt ef410; have z8_ := congrArg Int32.toInt ef411; have z9_ := congrArg Int32.toInt ef412; have z_ := w_lits; have zl_ := l_lits; omega) (by have z0_ := congrArg Int32.toInt (rd_w k409 ef366 rfl); have z1_ := congrArg Int32.toInt (rd_w k409 ef367 rfl); have z2_ := congrArg Int32.toInt (rd_w k409 ef368 rfl); have z3_ := congrArg Int32.toInt (rd_w k409 ef369 rfl); have z4_ := congrArg Int32.toInt (rd_w k409 ef370 rfl); have z5_ := congrArg Int32.toInt (rd_w k409 ef371 rfl); have z6_ := congrArg Int32.toInt (rd_w k409 z365 rfl); have z7_ := congrArg Int32.toInt ef410; have z8_ := congrArg Int32.toInt ef411; have z9_ := congrArg Int32.toInt ef412; have z_ := w_lits; have zl_ := l_lits; omega) (by have z0_ := congrArg Int32.toInt (rd_w k409 ef366 rfl); have z1_ := congrArg Int32.toInt (rd_w k409 ef367 rfl); have z2_ := congrArg Int32.toInt (rd_w k409 ef368 rfl); have z3_ := congrArg Int32.toInt (rd_w k409 ef369 rfl); have z4_ := congrArg Int32.toInt (rd_w k409 ef370 rfl); have z5_ := congrArg Int32.toInt (rd_w k409 ef371 rfl); have z6_ := congrArg Int32.toInt (rd_w k409 z365 rfl); have z7_ := congrArg Int32.toInt ef410; have z8_ := congrArg Int32.toInt ef411; have z9_ := congrArg Int32.toInt ef412; have z_ := w_lits; have zl_ := l_lits; omega)) (fun r438 h438 q438 hJ438 k438 => ?_)
              obtain ⟨b438, m438_0, m438_1, m438_2, m438_3, m438_4, m438_5⟩ := q438
              obtain ⟨f439, ef439⟩ : ∃ f_, h438 23 10 = f_ := ⟨_, rfl⟩
              have bf439 : B f439 0 25 := by have z_ := hJ438.1 23 10; rw [ef439] at z_; exact z_
              have zf439 := congrArg Int32.toInt ef439
              obtain ⟨f440, ef440⟩ : ∃ f_, h438 23 13 = f_ := ⟨_, rfl⟩
              have bf440 : B f440 0 4 := by have z_ := hJ438.1 23 13; rw [ef440] at z_; exact z_
              have zf440 := congrArg Int32.toInt ef440
              obtain ⟨f441, ef441⟩ : ∃ f_, h438 26 0 = f_ := ⟨_, rfl⟩
              have bf441 : B f441 0 25 := by have z_ := hJ438.1 26 0; rw [ef441] at z_; exact z_
              have zf441 := congrArg Int32.toInt ef441
              obtain ⟨f442, ef442⟩ : ∃ f_, h438 26 1 = f_ := ⟨_, rfl⟩
              have bf442 : B f442 0 25 := by have z_ := hJ438.1 26 1; rw [ef442] at z_; exact z_
              have zf442 := congrArg Int32.toInt ef442
              obtain ⟨f443, ef443⟩ : ∃ f_, h438 26 2 = f_ := ⟨_, rfl⟩
              have bf443 : B f443 0 25 := by have z_ := hJ438.1 26 2; rw [ef443] at z_; exact z_
              have zf443 := congrArg Int32.toInt ef443
              obtain ⟨f444, ef444⟩ : ∃ f_, h438 26 3 = f_ := ⟨_, rfl⟩
              have bf444 : B f444 0 25 := by have z_ := hJ438.1 26 3; rw [ef444] at z_; exact z_
              have zf444 := congrArg Int32.toInt ef444
              obtain ⟨f445, ef445⟩ : ∃ f_, h438 23 7 = f_ := ⟨_, rfl⟩
              have bf445 : B f445 (-2147483648) 2147483647 := by have z_ := hJ438.1 23 7; rw [ef445] at z_; exact z_
              have zf445 := congrArg Int32.toInt ef445
              have z446 := congrArg Int32.toInt ef439
              have z447 := congrArg Int32.toInt ef440
              have z448 := congrArg Int32.toInt ef441
              have z449 := congrArg Int32.toInt ef442
              have z450 := congrArg Int32.toInt ef443
              have z451 := congrArg Int32.toInt ef444
              have z452 := congrArg Int32.toInt (rd_w k438 (rd_w k409 z365 rfl) rfl)
              have z453 := congrArg Int32.toInt (rd_w k438 ef410 rfl)
              have z454 := congrArg Int32.toInt (rd_w k438 ef411 rfl)
              have z455 := congrArg Int32.toInt ef445
              refine ev_istore_n rfl rfl rfl rfl ?_
              dsimp only [List.set]
              refine ev_iincB (y := 1) (l := 1) (u := 161) rfl rfl rfl (by decide) rfl rfl b388 (by decide : B 1 1 1) (by decide) (by decide) (by decide) (by decide) (fun v456 b456 e456 => ?_)
              dsimp only [List.set]
              have e456x := e456; rw [show (1 : Int32).toInt = 1 from by decide] at e456x
              refine ev_goto rfl rfl ?_
              exact (ih29 r438 v456 h438 b438 (b456.mono (by decide) (by decide)) hJ438 (rd_w k438 (rd_w k409 z365 rfl) rfl) (by have z0_ := congrArg Int32.toInt ef439; have z1_ := congrArg Int32.toInt ef440; have z2_ := congrArg Int32.toInt ef441; have z3_ := congrArg Int32.toInt ef442; have z4_ := congrArg Int32.toInt ef443; have z5_ := congrArg Int32.toInt ef444; have z6_ := congrArg Int32.toInt (rd_w k438 (rd_w k409 z365 rfl) rfl); have z7_ := congrArg Int32.toInt (rd_w k438 ef410 rfl); have z8_ := congrArg Int32.toInt (rd_w k438 ef411 rfl); have z9_ := congrArg Int32.toInt ef445; have z_ := w_lits; have zl_ := l_lits; omega) (by have z0_ := congrArg Int32.toInt ef439; have z1_ := congrArg Int32.toInt ef440; have z2_ := congrArg Int32.toInt ef441; have z3_ := congrArg Int32.toInt ef442; have z4_ := congrArg Int32.toInt ef443; have z5_ := congrArg Int32.toInt ef444; have z6_ := congrArg Int32.toInt (rd_w k438 (rd_w k409 z365 rfl) rfl); have z7_ := congrArg Int32.toInt (rd_w k438 ef410 rfl); have z8_ := congrArg Int32.toInt (rd_w k438 ef411 rfl); have z9_ := congrArg Int32.toInt ef445; have z_ := w_lits; have zl_ := l_lits; omega) (by have z0_ := congrArg Int32.toInt ef439; have z1_ := congrArg Int32.toInt ef440; have z2_ := congrArg Int32.toInt ef441; have z3_ := congrArg Int32.toInt ef442; have z4_ := congrArg Int32.toInt ef443; have z5_ := congrArg Int32.toInt ef444; have z6_ := congrArg Int32.toInt (rd_w k438 (rd_w k409 z365 rfl) rfl); have z7_ := congrArg Int32.toInt (rd_w k438 ef410 rfl); have z8_ := congrArg Int32.toInt (rd_w k438 ef411 rfl); have z9_ := congrArg Int32.toInt ef445; have z_ := w_lits; have zl_ := l_lits; omega) (by have z0_ := congrArg Int32.toInt ef439; have z1_ := congrArg Int32.toInt ef440; have z2_ := congrArg Int32.toInt ef441; have z3_ := congrArg Int32.toInt ef442; have z4_ := congrArg Int32.toInt ef443; have z5_ := congrArg Int32.toInt ef444; have z6_ := congrArg Int32.toInt (rd_w k438 (rd_w k409 z365 rfl) rfl); have z7_ := congrArg Int32.toInt (rd_w k438 ef410 rfl); have z8_ := congrArg Int32.toInt (rd_w k438 ef411 rfl); have z9_ := congrArg Int32.toInt ef445; have z_ := w_lits; have zl_ := l_lits; omega) (by have z0_ := congrArg Int32.toInt ef439; have z1_ := congrArg Int32.toInt ef440; have z2_ := congrArg Int32.toInt ef441; have z3_ := congrArg Int32.toInt ef442; have z4_ := congrArg Int32.toInt ef443; have z5_ := congrArg Int32.toInt ef444; have z6_ := congrArg Int32.toInt (rd_w k438 (rd_w k409 z365 rfl) rfl); have z7_ := congrArg Int32.toInt (rd_w k438 ef410 rfl); have z8_ := congrArg Int32.toInt (rd_w k438 ef411 rfl); have z9_ := congrArg Int32.toInt ef445; have z_ := w_lits; have zl_ := l_lits; omega) (by have z0_ := congrArg Int32.toInt ef439; have z1_ := congrArg Int32.toInt ef440; have z2_ := congrArg Int32.toInt ef441; have z3_ := congrArg Int32.toInt ef442; have z4_ := congrArg Int32.toInt ef443; have z5_ := congrArg Int32.toInt ef444; have z6_ := congrArg Int32.toInt (rd_w k438 (rd_w k409 z365 rfl) rfl); have z7_ := congrArg Int32.toInt (rd_w k438 ef410 rfl); have z8_ := congrArg Int32.toInt (rd_w k438 ef411 rfl); have z9_ := congrArg Int32.toInt ef445; have z_ := w_lits; have zl_ := l_lits; omega) (by have z0_ := congrArg Int32.toInt ef439; have z1_ := congrArg Int32.toInt ef440; have z2_ := congrArg Int32.toInt ef441; have z3_ := congrArg Int32.toInt ef442; have z4_ := congrArg Int32.toInt ef443; have z5_ := congrArg Int32.toInt ef444; have z6_ := congrArg Int32.toInt (rd_w k438 (rd_w k409 z365 rfl) rfl); have z7_ := congrArg Int32.toInt (rd_w k438 ef410 rfl); have z8_ := congrArg Int32.toInt (rd_w k438 ef411 rfl); have z9_ := congrArg Int32.toInt ef445; have z_ := w_lits; have zl_ := l_lits; omega) (L_up hm29 (e_p1 e456 (by decide))))
  exact (lp29_358 162 0 0 h15 ((by decide : B 0 0 0).mono (by decide) (by decide)) ((by decide : B 0 0 0).mono (by decide) (by decide)) hJ15 (rd_o k15 (rd_o k14 (rd_o k13 (rd_o k12 (rd_o k11 ef7 rfl) rfl) rfl) rfl) rfl) (by have z0_ := congrArg Int32.toInt (rd_o k15 (rd_s k14) rfl); have z1_ := congrArg Int32.toInt (rd_s k15); have z2_ := congrArg Int32.toInt (rd_o k15 (rd_o k14 (rd_o k13 (rd_o k12 (rd_o k11 ef3 rfl) rfl) rfl) rfl) rfl); have z3_ := congrArg Int32.toInt (rd_o k15 (rd_o k14 (rd_o k13 (rd_o k12 (rd_o k11 ef4 rfl) rfl) rfl) rfl) rfl); have z4_ := congrArg Int32.toInt (rd_o k15 (rd_o k14 (rd_o k13 (rd_o k12 (rd_o k11 ef5 rfl) rfl) rfl) rfl) rfl); have z5_ := congrArg Int32.toInt (rd_o k15 (rd_o k14 (rd_o k13 (rd_o k12 (rd_o k11 ef6 rfl) rfl) rfl) rfl) rfl); have z6_ := congrArg Int32.toInt (rd_o k15 (rd_o k14 (rd_o k13 (rd_o k12 (rd_o k11 ef7 rfl) rfl) rfl) rfl) rfl); have z7_ := congrArg Int32.toInt (rd_o k15 (rd_o k14 (rd_o k13 (rd_o k12 (rd_s k11) rfl) rfl) rfl) rfl); have z8_ := congrArg Int32.toInt (rd_o k15 (rd_o k14 (rd_o k13 (rd_o k12 (rd_o k11 ef9 rfl) rfl) rfl) rfl) rfl); have z9_ := congrArg Int32.toInt (rd_o k15 (rd_o k14 (rd_o k13 (rd_s k12) rfl) rfl) rfl); have z_ := w_lits; have zl_ := l_lits; omega) (by have z0_ := congrArg Int32.toInt (rd_o k15 (rd_s k14) rfl); have z1_ := congrArg Int32.toInt (rd_s k15); have z2_ := congrArg Int32.toInt (rd_o k15 (rd_o k14 (rd_o k13 (rd_o k12 (rd_o k11 ef3 rfl) rfl) rfl) rfl) rfl); have z3_ := congrArg Int32.toInt (rd_o k15 (rd_o k14 (rd_o k13 (rd_o k12 (rd_o k11 ef4 rfl) rfl) rfl) rfl) rfl); have z4_ := congrArg Int32.toInt (rd_o k15 (rd_o k14 (rd_o k13 (rd_o k12 (rd_o k11 ef5 rfl) rfl) rfl) rfl) rfl); have z5_ := congrArg Int32.toInt (rd_o k15 (rd_o k14 (rd_o k13 (rd_o k12 (rd_o k11 ef6 rfl) rfl) rfl) rfl) rfl); have z6_ := congrArg Int32.toInt (rd_o k15 (rd_o k14 (rd_o k13 (rd_o k12 (rd_o k11 ef7 rfl) rfl) rfl) rfl) rfl); have z7_ := congrArg Int32.toInt (rd_o k15 (rd_o k14 (rd_o k13 (rd_o k12 (rd_s k11) rfl) rfl) rfl) rfl); have z8_ := congrArg Int32.toInt (rd_o k15 (rd_o k14 (rd_o k13 (rd_o k12 (rd_o k11 ef9 rfl) rfl) rfl) rfl) rfl); have z9_ := congrArg Int32.toInt (rd_o k15 (rd_o k14 (rd_o k13 (rd_s k12) rfl) rfl) rfl); have z_ := w_lits; have zl_ := l_lits; omega) (by have z0_ := congrArg Int32.toInt (rd_o k15 (rd_s k14) rfl); have z1_ := congrArg Int32.toInt (rd_s k15); have z2_ := congrArg Int32.toInt (rd_o k15 (rd_o k14 (rd_o k13 (rd_o k12 (rd_o k11 ef3 rfl) rfl) rfl) rfl) rfl); have z3_ := congrArg Int32.toInt (rd_o k15 (rd_o k14 (rd_o k13 (rd_o k12 (rd_o k11 ef4 rfl) rfl) rfl) rfl) rfl); have z4_ := congrArg Int32.toInt (rd_o k15 (rd_o k14 (rd_o k13 (rd_o k12 (rd_o k11 ef5 rfl) rfl) rfl) rfl) rfl); have z5_ := congrArg Int32.toInt (rd_o k15 (rd_o k14 (rd_o k13 (rd_o k12 (rd_o k11 ef6 rfl) rfl) rfl) rfl) rfl); have z6_ := congrArg Int32.toInt (rd_o k15 (rd_o k14 (rd_o k13 (rd_o k12 (rd_o k11 ef7 rfl) rfl) rfl) rfl) rfl); have z7_ := congrArg Int32.toInt (rd_o k15 (rd_o k14 (rd_o k13 (rd_o k12 (rd_s k11) rfl) rfl) rfl) rfl); have z8_ := congrArg Int32.toInt (rd_o k15 (rd_o k14 (rd_o k13 (rd_o k12 (rd_o k11 ef9 rfl) rfl) rfl) rfl) rfl); have z9_ := congrArg Int32.toInt (rd_o k15 (rd_o k14 (rd_o k13 (rd_s k12) rfl) rfl) rfl); have z_ := w_lits; have zl_ := l_lits; omega) (by have z0_ := congrArg Int32.toInt (rd_o k15 (rd_s k14) rfl); have z1_ := congrArg Int32.toInt (rd_s k15); have z2_ := congrArg Int32.toInt (rd_o k15 (rd_o k14 (rd_o k13 (rd_o k12 (rd_o k11 ef3 rfl) rfl) rfl) rfl) rfl); have z3_ := congrArg Int32.toInt (rd_o k15 (rd_o k14 (rd_o k13 (rd_o k12 (rd_o k11 ef4 rfl) rfl) rfl) rfl) rfl); have z4_ := congrArg Int32.toInt (rd_o k15 (rd_o k14 (rd_o k13 (rd_o k12 (rd_o k11 ef5 rfl) rfl) rfl) rfl) rfl); have z5_ := congrArg Int32.toInt (rd_o k15 (rd_o k14 (rd_o k13 (rd_o k12 (rd_o k11 ef6 rfl) rfl) rfl) rfl) rfl); have z6_ := congrArg Int32.toInt (rd_o k15 (rd_o k14 (rd_o k13 (rd_o k12 (rd_o k11 ef7 rfl) rfl) rfl) rfl) rfl); have z7_ := congrArg Int32.toInt (rd_o k15 (rd_o k14 (rd_o k13 (rd_o k12 (rd_s k11) rfl) rfl) rfl) rfl); have z8_ := congrArg Int32.toInt (rd_o k15 (rd_o k14 (rd_o k13 (rd_o k12 (rd_o k11 ef9 rfl) rfl) rfl) rfl) rfl); have z9_ := congrArg Int32.toInt (rd_o k15 (rd_o k14 (rd_o k13 (rd_s k12) rfl) rfl) rfl); have z_ := w_lits; have zl_ := l_lits; omega) (by have z0_ := congrArg Int32.toInt (rd_o k15 (rd_s k14) rfl); have z1_ := congrArg Int32.toInt (rd_s k15); have z2_ := congrArg Int32.toInt (rd_o k15 (rd_o k14 (rd_o k13 (rd_o k12 (rd_o k11 ef3 rfl) rfl) rfl) rfl) rfl); have z3_ := congrArg Int32.toInt (rd_o k15 (rd_o k14 (rd_o k13 (rd_o k12 (rd_o k11 ef4 rfl) rfl) rfl) rfl) rfl); have z4_ := congrArg Int32.toInt (rd_o k15 (rd_o k14 (rd_o k13 (rd_o k12 (rd_o k11 ef5 rfl) rfl) rfl) rfl) rfl); have z5_ := congrArg Int32.toInt (rd_o k15 (rd_o k14 (rd_o k13 (rd_o k12 (rd_o k11 ef6 rfl) rfl) rfl) rfl) rfl); have z6_ := congrArg Int32.toInt (rd_o k15 (rd_o k14 (rd_o k13 (rd_o k12 (rd_o k11 ef7 rfl) rfl) rfl) rfl) rfl); have z7_ := congrArg Int32.toInt (rd_o k15 (rd_o k14 (rd_o k13 (rd_o k12 (rd_s k11) rfl) rfl) rfl) rfl); have z8_ := congrArg Int32.toInt (rd_o k15 (rd_o k14 (rd_o k13 (rd_o k12 (rd_o k11 ef9 rfl) rfl) rfl) rfl) rfl); have z9_ := congrArg Int32.toInt (rd_o k15 (rd_o k14 (rd_o k13 (rd_s k12) rfl) rfl) rfl); have z_ := w_lits; have zl_ := l_lits; omega) (by have z0_ := congrArg Int32.toInt (rd_o k15 (rd_s k14) rfl); have z1_ := congrArg Int32.toInt (rd_s k15); have z2_ := congrArg Int32.toInt (rd_o k15 (rd_o k14 (rd_o k13 (rd_o k12 (rd_o k11 ef3 rfl) rfl) rfl) rfl) rfl); have z3_ := congrArg Int32.toInt (rd_o k15 (rd_o k14 (rd_o k13 (rd_o k12 (rd_o k11 ef4 rfl) rfl) rfl) rfl) rfl); have z4_ := congrArg Int32.toInt (rd_o k15 (rd_o k14 (rd_o k13 (rd_o k12 (rd_o k11 ef5 rfl) rfl) rfl) rfl) rfl); have z5_ := congrArg Int32.toInt (rd_o k15 (rd_o k14 (rd_o k13 (rd_o k12 (rd_o k11 ef6 rfl) rfl) rfl) rfl) rfl); have z6_ := congrArg Int32.toInt (rd_o k15 (rd_o k14 (rd_o k13 (rd_o k12 (rd_o k11 ef7 rfl) rfl) rfl) rfl) rfl); have z7_ := congrArg Int32.toInt (rd_o k15 (rd_o k14 (rd_o k13 (rd_o k12 (rd_s k11) rfl) rfl) rfl) rfl); have z8_ := congrArg Int32.toInt (rd_o k15 (rd_o k14 (rd_o k13 (rd_o k12 (rd_o k11 ef9 rfl) rfl) rfl) rfl) rfl); have z9_ := congrArg Int32.toInt (rd_o k15 (rd_o k14 (rd_o k13 (rd_s k12) rfl) rfl) rfl); have z_ := w_lits; have zl_ := l_lits; omega) (by have z0_ := congrArg Int32.toInt (rd_o k15 (rd_s k14) rfl); have z1_ := congrArg Int32.toInt (rd_s k15); have z2_ := congrArg Int32.toInt (rd_o k15 (rd_o k14 (rd_o k13 (rd_o k12 (rd_o k11 ef3 rfl) rfl) rfl) rfl) rfl); have z3_ := congrArg Int32.toInt (rd_o k15 (rd_o k14 (rd_o k13 (rd_o k12 (rd_o k11 ef4 rfl) rfl) rfl) rfl) rfl); have z4_ := congrArg Int32.toInt (rd_o k15 (rd_o k14 (rd_o k13 (rd_o k12 (rd_o k11 ef5 rfl) rfl) rfl) rfl) rfl); have z5_ := congrArg Int32.toInt (rd_o k15 (rd_o k14 (rd_o k13 (rd_o k12 (rd_o k11 ef6 rfl) rfl) rfl) rfl) rfl); have z6_ := congrArg Int32.toInt (rd_o k15 (rd_o k14 (rd_o k13 (rd_o k12 (rd_o k11 ef7 rfl) rfl) rfl) rfl) rfl); have z7_ := congrArg Int32.toInt (rd_o k15 (rd_o k14 (rd_o k13 (rd_o k12 (rd_s k11) rfl) rfl) rfl) rfl); have z8_ := congrArg Int32.toInt (rd_o k15 (rd_o k14 (rd_o k13 (rd_o k12 (rd_o k11 ef9 rfl) rfl) rfl) rfl) rfl); have z9_ := congrArg Int32.toInt (rd_o k15 (rd_o k14 (rd_o k13 (rd_s k12) rfl) rfl) rfl); have z_ := w_lits; have zl_ := l_lits; omega) (L_init (by decide : B 0 0 0) (by decide)))

set_option maxRecDepth 100000 in
set_option maxHeartbeats 4000000 in
theorem w_X9_tune_1 (L : Nat) (b : Bool) (h : Hp) (hB : Bx h)  : EvJ mi_X9_tune [.ref 1] (G0 L b) h (fun r : Int32 => B r (-2147483648) 2147483647) [(23, 1), (23, 2), (23, 3), (23, 4), (23, 5), (23, 6), (23, 7), (23, 8), (23, 10), (23, 13), (25, 999), (26, 999), (27, 999), (28, 2), (30, 999), (31, 999), (32, 999), (33, 999), (34, 999), (35, 999), (36, 999)] := by
  refine EvM.of2 (lo := [some (.ref 1)]) pf_X9_tune ok_X9_tune rfl rfl ?_
  have hJ0 : JW [(23, 1), (23, 2), (23, 3), (23, 4), (23, 5), (23, 6), (23, 7), (23, 8), (23, 10), (23, 13), (25, 999), (26, 999), (27, 999), (28, 2), (30, 999), (31, 999), (32, 999), (33, 999), (34, 999), (35, 999), (36, 999)] h h := JW.refl hB
  obtain ⟨f1, ef1⟩ : ∃ f_, h 23 7 = f_ := ⟨_, rfl⟩
  have bf1 : B f1 (-2147483648) 2147483647 := by have z_ := hJ0.1 23 7; rw [ef1] at z_; exact z_
  have zf1 := congrArg Int32.toInt ef1
  obtain ⟨f2, ef2⟩ : ∃ f_, h 23 10 = f_ := ⟨_, rfl⟩
  have bf2 : B f2 0 25 := by have z_ := hJ0.1 23 10; rw [ef2] at z_; exact z_
  have zf2 := congrArg Int32.toInt ef2
  refine ev_aload_n rfl rfl rfl ?_
  refine ev_getR (y := 28) rfl rfl fl_X9_43 rfl rfl rfl rfl ?_
  refine ev_getW (l := 0) (u := 6) hJ0.1 rfl rfl rfl fl_X9_176 rfl rfl rfl (fun v3 b3 e3 => ?_)
  refine ev_bipush (v := 6) rfl rfl (by decide) ?_
  refine ev_icmp_lt rfl rfl (fun c4 => ?_) (fun c4 => ?_)
  · have b5 : B v3 0 5 := R_ltX b3 (by decide : B 6 6 6) c4 (by decide)
    have z6 := w_lt c4
    rw [show (6 : Int32).toInt = 6 from by decide] at z6
    refine ev_aload_n rfl rfl rfl ?_
    refine ev_getR (y := 23) rfl rfl fl_X9_36 rfl rfl rfl rfl ?_
    have z9 := congrArg Int32.toInt ef1
    have z10 := congrArg Int32.toInt ef2
    refine ev_V0K hJ0 rfl rfl rfl lk_X9_177 vt_X2_readAll rfl rfl rfl rfl rfl (w_X2_readAll_23 L b h hJ0.1 ) (fun h11 hJ11 k11 m11 => ?_)
    obtain ⟨f12, ef12⟩ : ∃ f_, h11 23 7 = f_ := ⟨_, rfl⟩
    have bf12 : B f12 (-2147483648) 2147483647 := by have z_ := hJ11.1 23 7; rw [ef12] at z_; exact z_
    have zf12 := congrArg Int32.toInt ef12
    obtain ⟨f13, ef13⟩ : ∃ f_, h11 23 10 = f_ := ⟨_, rfl⟩
    have bf13 : B f13 0 25 := by have z_ := hJ11.1 23 10; rw [ef13] at z_; exact z_
    have zf13 := congrArg Int32.toInt ef13
    have z14 := congrArg Int32.toInt ef12
    have z15 := congrArg Int32.toInt ef13
    refine ev_aload_n rfl rfl rfl ?_
    refine ev_getR (y := 23) rfl rfl fl_X9_36 rfl rfl rfl rfl ?_
    refine ev_iconst (v := 0) rfl rfl (by decide) ?_
    refine ev_putW (l := 0) (u := 160) hJ11 rfl (by decide : B 0 0 0) (by decide) (by decide) rfl rfl rfl fl_X9_173 rfl rfl rfl rfl rfl (fun h16 hJ16 k16 => ?_)
    refine ev_aload_n rfl rfl rfl ?_
    refine ev_getR (y := 23) rfl rfl fl_X9_36 rfl rfl rfl rfl ?_
    refine ev_getV (v := f12) rfl rfl fl_X9_180 rfl rfl rfl (rd_o k16 ef12 rfl) ?_
    refine ev_if_eq rfl rfl (fun c17 => ?_) (fun c17 => ?_)
    · have b18 : B f12 0 0 := R_eqX bf12 (by decide : B 0 0 0) c17
      have z19 := congrArg Int32.toInt c17
      rw [show (0 : Int32).toInt = 0 from by decide] at z19
      refine ev_aload_n rfl rfl rfl ?_
      refine ev_getR (y := 28) rfl rfl fl_X9_43 rfl rfl rfl rfl ?_
      refine ev_aload_n rfl rfl rfl ?_
      refine ev_getR (y := 23) rfl rfl fl_X9_36 rfl rfl rfl rfl ?_
      refine ev_getR (y := 25) rfl rfl fl_X9_186 rfl rfl rfl rfl ?_
      refine ev_aload_n rfl rfl rfl ?_
      refine ev_getR (y := 23) rfl rfl fl_X9_36 rfl rfl rfl rfl ?_
      refine ev_getV (v := f13) rfl rfl fl_X9_189 rfl rfl rfl (rd_o k16 ef13 rfl) ?_
      refine ev_V2J hJ16 rfl rfl rfl lk_X9_192 vt_X7_add rfl rfl rfl rfl rfl (w_X7_add_28_25 L b h16 hJ16.1 f13 ⟨(by have z0_ := congrArg Int32.toInt (rd_o k16 ef12 rfl); have z1_ := congrArg Int32.toInt (rd_o k16 ef13 rfl); have z_ := w_lits; have zl_ := l_lits; omega), (by have z0_ := congrArg Int32.toInt (rd_o k16 ef12 rfl); have z1_ := congrArg Int32.toInt (rd_o k16 ef13 rfl); have z_ := w_lits; have zl_ := l_lits; omega)⟩ (B.at (rd_o k16 (rd_w k11 e3 rfl) rfl) b5)) (fun r21 h21 q21 hJ21 k21 => ?_)
      exact ev_iret rfl rfl rfl ⟨⟨_, rfl, (q21.mono (by decide) (by decide))⟩, rfl, hJ21⟩
    · have z20 := w_ne c17
      rw [show (0 : Int32).toInt = 0 from by decide] at z20
      refine ev_bipush (v := (-10)) rfl rfl (by decide) ?_
      refine ev_aload_n rfl rfl rfl ?_
      refine ev_getR (y := 23) rfl rfl fl_X9_36 rfl rfl rfl rfl ?_
      refine ev_getW (l := (-2147483648)) (u := 2147483647) hJ16.1 rfl rfl rfl fl_X9_183 rfl rfl rfl (fun v22 b22 e22 => ?_)
      refine ev_isubA rfl rfl (fun v23 g23 => ?_)
      exact ev_iret rfl rfl rfl ⟨⟨_, rfl, (B.any v23)⟩, rfl, hJ16⟩
  · have b7 : B v3 6 6 := R_leY (by decide : B 6 6 6) b3 (Int32.not_lt.mp c4) (by decide)
    have z8 := w_le (Int32.not_lt.mp c4)
    rw [show (6 : Int32).toInt = 6 from by decide] at z8
    refine ev_bipush (v := (-3)) rfl rfl (by decide) ?_
    exact ev_iret rfl rfl rfl ⟨⟨_, rfl, ((by decide : B (-3) (-3) (-3)).mono (by decide) (by decide))⟩, rfl, hJ0⟩
