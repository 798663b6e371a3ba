set_option maxRecDepth 100000 in
set_option maxHeartbeats 4000000 in
theorem w_X10_keeps_63 (L : Nat) (b : Bool) (h : Hp) (hB : Bx h) (rp0 : (h 63 0).toInt ≤ (h 63 3).toInt) (hKS : KS h) : EvK mi_X10_keeps [.ref 63] (G0 L b) h (fun z : Hp => (KS z)) [(63, 13), (71, 999)] := by
  refine EvM.of2 (lo := [some (.ref 63), none, none]) pf_X10_keeps ok_X10_keeps rfl rfl ?_
  have hJ0 : JW [(63, 13), (71, 999)] h h := JW.refl hB
  obtain ⟨f1, ef1⟩ : ∃ f_, h 63 13 = f_ := ⟨_, rfl⟩
  have bf1 : B f1 0 10 := by have z_ := hJ0.1 63 13; rw [ef1] at z_; exact z_
  have zf1 := congrArg Int32.toInt ef1
  obtain ⟨f2, ef2⟩ : ∃ f_, h 63 0 = f_ := ⟨_, rfl⟩
  have bf2 : B f2 0 200 := by have z_ := hJ0.1 63 0; rw [ef2] at z_; exact z_
  have zf2 := congrArg Int32.toInt ef2
  obtain ⟨f3, ef3⟩ : ∃ f_, h 63 3 = f_ := ⟨_, rfl⟩
  have bf3 : B f3 0 200 := by have z_ := hJ0.1 63 3; rw [ef3] at z_; exact z_
  have zf3 := congrArg Int32.toInt ef3
  refine ev_aload_n rfl rfl rfl ?_
  refine ev_getV (v := f1) rfl rfl fl_X10_128 rfl rfl rfl ef1 ?_
  refine ev_bipush (v := 10) rfl rfl (by decide) ?_
  refine ev_icmp_ne rfl rfl (fun c4 => ?_) (fun c4 => ?_)
  · have b5 : B f1 0 9 := R_neU bf1 (by decide : B 10 10 10) c4 (by decide)
    have z6 := w_ne c4
    rw [show (10 : Int32).toInt = 10 from by decide] at z6
    refine ev_bipush (v := 42) rfl rfl (by decide) ?_
    refine ev_aload_n rfl rfl rfl ?_
    refine ev_getV (v := f1) rfl rfl fl_X10_128 rfl rfl rfl ef1 ?_
    refine ev_imulB (l := 0) (u := 378) rfl rfl (by decide : B 42 42 42) b5 (by decide) (by decide) (by decide) (by decide) (by decide) (fun v9 b9 e9 g9 => ?_)
    rw [show (42 : Int32).toInt = 42 from by decide] at e9
    refine ev_istore_n rfl rfl rfl rfl ?_
    dsimp only [List.set]
    refine ev_aload_n rfl rfl rfl ?_
    refine ev_getR (y := 71) rfl rfl fl_X10_45 rfl rfl rfl rfl ?_
    refine ev_iload_n rfl rfl rfl ?_
    refine ev_aload_n rfl rfl rfl ?_
    refine ev_getV (v := f2) rfl rfl fl_X10_7 rfl rfl rfl ef2 ?_
    refine ev_iasG (n := 420) hJ0 b9 (by decide) (by decide) (kb_put (c := 0) (by have z0_ := congrArg Int32.toInt ef1; have z1_ := congrArg Int32.toInt ef2; have z2_ := congrArg Int32.toInt ef3; have z_ := w_lits; have zl_ := l_lits; omega) bf2) (fun _ => rfl) rfl rfl rfl rfl (fun h10 hJ10 k10 => ?_)
    refine ev_aload_n rfl rfl rfl ?_
    refine ev_getR (y := 71) rfl rfl fl_X10_45 rfl rfl rfl rfl ?_
    refine ev_iload_n rfl rfl rfl ?_
    refine ev_iconst (v := 1) rfl rfl (by decide) ?_
    refine ev_iaddB (l := 1) (u := 379) rfl rfl b9 (by decide : B 1 1 1) (by decide) (by decide) (by decide) (by decide) (fun v11 b11 e11 g11 => ?_)
    have e11x := e11; rw [show (1 : Int32).toInt = 1 from by decide] at e11x
    refine ev_aload_n rfl rfl rfl ?_
    refine ev_getW (l := (-2147483648)) (u := 2147483647) hJ10.1 rfl rfl rfl fl_X10_13 rfl rfl rfl (fun v12 b12 e12 => ?_)
    refine ev_iasG (n := 420) hJ10 b11 (by decide) (by decide) (kb_put (c := 1) (by have z0_ := congrArg Int32.toInt (rd_a k10 ef1 rfl); have z1_ := congrArg Int32.toInt (rd_a k10 ef2 rfl); have z2_ := congrArg Int32.toInt (rd_a k10 ef3 rfl); have z_ := w_lits; have zl_ := l_lits; omega) (B.any v12)) (fun _ => rfl) rfl rfl rfl rfl (fun h13 hJ13 k13 => ?_)
    refine ev_aload_n rfl rfl rfl ?_
    refine ev_getR (y := 71) rfl rfl fl_X10_45 rfl rfl rfl rfl ?_
    refine ev_iload_n rfl rfl rfl ?_
    refine ev_iconst (v := 2) rfl rfl (by decide) ?_
    refine ev_iaddB (l := 2) (u := 380) rfl rfl b9 (by decide : B 2 2 2) (by decide) (by decide) (by decide) (by decide) (fun v14 b14 e14 g14 => ?_)
    have e14x := e14; rw [show (2 : Int32).toInt = 2 from by decide] at e14x
    refine ev_aload_n rfl rfl rfl ?_
    refine ev_getW (l := (-2147483648)) (u := 2147483647) hJ13.1 rfl rfl rfl fl_X10_16 rfl rfl rfl (fun v15 b15 e15 => ?_)
    refine ev_iasG (n := 420) hJ13 b14 (by decide) (by decide) (kb_put (c := 2) (by have z0_ := congrArg Int32.toInt (rd_a k13 (rd_a k10 ef1 rfl) rfl); have z1_ := congrArg Int32.toInt (rd_a k13 (rd_a k10 ef2 rfl) rfl); have z2_ := congrArg Int32.toInt (rd_a k13 (rd_a k10 ef3 rfl) rfl); have z_ := w_lits; have zl_ := l_lits; omega) (B.any v15)) (fun _ => rfl) rfl rfl rfl rfl (fun h16 hJ16 k16 => ?_)
    refine ev_aload_n rfl rfl rfl ?_
    refine ev_getR (y := 71) rfl rfl fl_X10_45 rfl rfl rfl rfl ?_
    refine ev_iload_n rfl rfl rfl ?_
    refine ev_iconst (v := 3) rfl rfl (by decide) ?_
    refine ev_iaddB (l := 3) (u := 381) rfl rfl b9 (by decide : B 3 3 3) (by decide) (by decide) (by decide) (by decide) (fun v17 b17 e17 g17 => ?_)
    have e17x := e17; rw [show (3 : Int32).toInt = 3 from by decide] at e17x
    refine ev_aload_n rfl rfl rfl ?_
    refine ev_getV (v := f3) rfl rfl fl_X10_19 rfl rfl rfl (rd_a k16 (rd_a k13 (rd_a k10 ef3 rfl) rfl) rfl) ?_
    refine ev_iasG (n := 420) hJ16 b17 (by decide) (by decide) (kb_put (c := 3) (by have z0_ := congrArg Int32.toInt (rd_a k16 (rd_a k13 (rd_a k10 ef1 rfl) rfl) rfl); have z1_ := congrArg Int32.toInt (rd_a k16 (rd_a k13 (rd_a k10 ef2 rfl) rfl) rfl); have z2_ := congrArg Int32.toInt (rd_a k16 (rd_a k13 (rd_a k10 ef3 rfl) rfl) rfl); have z_ := w_lits; have zl_ := l_lits; omega) bf3) (fun _ => rfl) rfl rfl rfl rfl (fun h18 hJ18 k18 => ?_)
    refine ev_aload_n rfl rfl rfl ?_
    refine ev_getR (y := 71) rfl rfl fl_X10_45 rfl rfl rfl rfl ?_
    refine ev_iload_n rfl rfl rfl ?_
    refine ev_iconst (v := 4) rfl rfl (by decide) ?_
    refine ev_iaddB (l := 4) (u := 382) rfl rfl b9 (by decide : B 4 4 4) (by decide) (by decide) (by decide) (by decide) (fun v19 b19 e19 g19 => ?_)
    have e19x := e19; rw [show (4 : Int32).toInt = 4 from by decide] at e19x
    refine ev_aload_n rfl rfl rfl ?_
    refine ev_getW (l := (-2147483648)) (u := 2147483647) hJ18.1 rfl rfl rfl fl_X10_131 rfl rfl rfl (fun v20 b20 e20 => ?_)
    refine ev_iasG (n := 420) hJ18 b19 (by decide) (by decide) (kb_put (c := 4) (by have z0_ := congrArg Int32.toInt (rd_a k18 (rd_a k16 (rd_a k13 (rd_a k10 ef1 rfl) rfl) rfl) rfl); have z1_ := congrArg Int32.toInt (rd_a k18 (rd_a k16 (rd_a k13 (rd_a k10 ef2 rfl) rfl) rfl) rfl); have z2_ := congrArg Int32.toInt (rd_a k18 (rd_a k16 (rd_a k13 (rd_a k10 ef3 rfl) rfl) rfl) rfl); have z_ := w_lits; have zl_ := l_lits; omega) (B.any v20)) (fun _ => rfl) rfl rfl rfl rfl (fun h21 hJ21 k21 => ?_)
    refine ev_aload_n rfl rfl rfl ?_
    refine ev_getR (y := 71) rfl rfl fl_X10_45 rfl rfl rfl rfl ?_
    refine ev_iload_n rfl rfl rfl ?_
    refine ev_iconst (v := 5) rfl rfl (by decide) ?_
    refine ev_iaddB (l := 5) (u := 383) rfl rfl b9 (by decide : B 5 5 5) (by decide) (by decide) (by decide) (by decide) (fun v22 b22 e22 g22 => ?_)
    have e22x := e22; rw [show (5 : Int32).toInt = 5 from by decide] at e22x
    refine ev_aload_n rfl rfl rfl ?_
    refine ev_getW (l := 0) (u := 12) hJ21.1 rfl rfl rfl fl_X10_121 rfl rfl rfl (fun v23 b23 e23 => ?_)
    refine ev_iasG (n := 420) hJ21 b22 (by decide) (by decide) (kb_put (c := 5) (by have z0_ := congrArg Int32.toInt (rd_a k21 (rd_a k18 (rd_a k16 (rd_a k13 (rd_a k10 ef1 rfl) rfl) rfl) rfl) rfl); have z1_ := congrArg Int32.toInt (rd_a k21 (rd_a k18 (rd_a k16 (rd_a k13 (rd_a k10 ef2 rfl) rfl) rfl) rfl) rfl); have z2_ := congrArg Int32.toInt (rd_a k21 (rd_a k18 (rd_a k16 (rd_a k13 (rd_a k10 ef3 rfl) rfl) rfl) rfl) rfl); have z_ := w_lits; have zl_ := l_lits; omega) b23) (fun _ => rfl) rfl rfl rfl rfl (fun h24 hJ24 k24 => ?_)
    have kp25 : KP h24 f1.toInt f2 f3 := KP.mk hKS (by have z0_ := congrArg Int32.toInt (rd_a k24 (rd_a k21 (rd_a k18 (rd_a k16 (rd_a k13 (rd_a k10 ef1 rfl) rfl) rfl) rfl) rfl) rfl); have z1_ := congrArg Int32.toInt (rd_a k24 (rd_a k21 (rd_a k18 (rd_a k16 (rd_a k13 (rd_a k10 ef2 rfl) rfl) rfl) rfl) rfl) rfl); have z2_ := congrArg Int32.toInt (rd_a k24 (rd_a k21 (rd_a k18 (rd_a k16 (rd_a k13 (rd_a k10 ef3 rfl) rfl) rfl) rfl) rfl) rfl); have z_ := w_lits; have zl_ := l_lits; omega) k10 k13 k16 k18 k21 k24 (by have z0_ := congrArg Int32.toInt (rd_a k24 (rd_a k21 (rd_a k18 (rd_a k16 (rd_a k13 (rd_a k10 ef1 rfl) rfl) rfl) rfl) rfl) rfl); have z1_ := congrArg Int32.toInt (rd_a k24 (rd_a k21 (rd_a k18 (rd_a k16 (rd_a k13 (rd_a k10 ef2 rfl) rfl) rfl) rfl) rfl) rfl); have z2_ := congrArg Int32.toInt (rd_a k24 (rd_a k21 (rd_a k18 (rd_a k16 (rd_a k13 (rd_a k10 ef3 rfl) rfl) rfl) rfl) rfl) rfl); have z_ := w_lits; have zl_ := l_lits; omega) (by have z0_ := congrArg Int32.toInt (rd_a k24 (rd_a k21 (rd_a k18 (rd_a k16 (rd_a k13 (rd_a k10 ef1 rfl) rfl) rfl) rfl) rfl) rfl); have z1_ := congrArg Int32.toInt (rd_a k24 (rd_a k21 (rd_a k18 (rd_a k16 (rd_a k13 (rd_a k10 ef2 rfl) rfl) rfl) rfl) rfl) rfl); have z2_ := congrArg Int32.toInt (rd_a k24 (rd_a k21 (rd_a k18 (rd_a k16 (rd_a k13 (rd_a k10 ef3 rfl) rfl) rfl) rfl) rfl) rfl); have z_ := w_lits; have zl_ := l_lits; omega) (by have z0_ := congrArg Int32.toInt (rd_a k24 (rd_a k21 (rd_a k18 (rd_a k16 (rd_a k13 (rd_a k10 ef1 rfl) rfl) rfl) rfl) rfl) rfl); have z1_ := congrArg Int32.toInt (rd_a k24 (rd_a k21 (rd_a k18 (rd_a k16 (rd_a k13 (rd_a k10 ef2 rfl) rfl) rfl) rfl) rfl) rfl); have z2_ := congrArg Int32.toInt (rd_a k24 (rd_a k21 (rd_a k18 (rd_a k16 (rd_a k13 (rd_a k10 ef3 rfl) rfl) rfl) rfl) rfl) rfl); have z_ := w_lits; have zl_ := l_lits; omega) (by have z0_ := congrArg Int32.toInt (rd_a k24 (rd_a k21 (rd_a k18 (rd_a k16 (rd_a k13 (rd_a k10 ef1 rfl) rfl) rfl) rfl) rfl) rfl); have z1_ := congrArg Int32.toInt (rd_a k24 (rd_a k21 (rd_a k18 (rd_a k16 (rd_a k13 (rd_a k10 ef2 rfl) rfl) rfl) rfl) rfl) rfl); have z2_ := congrArg Int32.toInt (rd_a k24 (rd_a k21 (rd_a k18 (rd_a k16 (rd_a k13 (rd_a k10 ef3 rfl) rfl) rfl) rfl) rfl) rfl); have z_ := w_lits; have zl_ := l_lits; omega) (by have z0_ := congrArg Int32.toInt (rd_a k24 (rd_a k21 (rd_a k18 (rd_a k16 (rd_a k13 (rd_a k10 ef1 rfl) rfl) rfl) rfl) rfl) rfl); have z1_ := congrArg Int32.toInt (rd_a k24 (rd_a k21 (rd_a k18 (rd_a k16 (rd_a k13 (rd_a k10 ef2 rfl) rfl) rfl) rfl) rfl) rfl); have z2_ := congrArg Int32.toInt (rd_a k24 (rd_a k21 (rd_a k18 (rd_a k16 (rd_a k13 (rd_a k10 ef3 rfl) rfl) rfl) rfl) rfl) rfl); have z_ := w_lits; have zl_ := l_lits; omega) (by have z0_ := congrArg Int32.toInt (rd_a k24 (rd_a k21 (rd_a k18 (rd_a k16 (rd_a k13 (rd_a k10 ef1 rfl) rfl) rfl) rfl) rfl) rfl); have z1_ := congrArg Int32.toInt (rd_a k24 (rd_a k21 (rd_a k18 (rd_a k16 (rd_a k13 (rd_a k10 ef2 rfl) rfl) rfl) rfl) rfl) rfl); have z2_ := congrArg Int32.toInt (rd_a k24 (rd_a k21 (rd_a k18 (rd_a k16 (rd_a k13 (rd_a k10 ef3 rfl) rfl) rfl) rfl) rfl) rfl); have z_ := w_lits; have zl_ := l_lits; omega)
    refine ev_iconst (v := 0) rfl rfl (by decide) ?_
    refine ev_istore_n rfl rfl rfl rfl ?_
    dsimp only [List.set]
    have lp130_154 : ∀ (n : Nat) (w155 : Int32) (h157 : Hp), B w155 0 12 → JW [(63, 13), (71, 999)] h h157 → (h157 63 13 = f1) → (h157 63 0 = f2) → (h157 63 3 = f3) → (h157 63 1 = v12) → (h157 63 2 = v15) → (h157 63 4 = v20) → (h157 63 5 = v23) → (KP h157 f1.toInt f2 f3) → 12 + 1 - w155.toInt ≤ (n : Int) → EvQ mi_X10_keeps 130 [some (.ref 63), some (.int v9), some (.int w155)] [] (G0 L b) h157 0 0 (QK (fun z : Hp => (KS z)) [(63, 13), (71, 999)] (G0 L b) h) := by
      intro n
      induction n with
      | zero =>
        intro w155 h157 b156 hJ158 z159 z160 z161 z162 z163 z164 z165 u130_0 hm130
        exact absurd hm130 (L_zero b156 (by decide))
      | succ n ih130 =>
        intro w155 h157 b156 hJ158 z159 z160 z161 z162 z163 z164 z165 u130_0 hm130
        have z166 := congrArg Int32.toInt z159
        have z167 := congrArg Int32.toInt z160
        have z168 := congrArg Int32.toInt z161
        refine ev_iload_n rfl rfl rfl ?_
        refine ev_bipush (v := 12) rfl rfl (by decide) ?_
        refine ev_icmp_ge rfl rfl (fun c169 => ?_) (fun c169 => ?_)
        · have b170 : B w155 12 12 := R_leY (by decide : B 12 12 12) b156 c169 (by decide)
          have z171 := w_le c169
          rw [show (12 : Int32).toInt = 12 from by decide] at z171
          refine ev_aload_n rfl rfl rfl ?_
          refine ev_dup rfl rfl rfl ?_
          refine ev_getV (v := f1) rfl rfl fl_X10_128 rfl rfl rfl z159 ?_
          refine ev_iconst (v := 1) rfl rfl (by decide) ?_
          refine ev_iaddB (l := 1) (u := 10) rfl rfl b5 (by decide : B 1 1 1) (by decide) (by decide) (by decide) (by decide) (fun v174 b174 e174 g174 => ?_)
          have e174x := e174; rw [show (1 : Int32).toInt = 1 from by decide] at e174x
          refine ev_putW (l := 0) (u := 10) hJ158 rfl b174 (by decide) (by decide) rfl rfl rfl fl_X10_128 rfl rfl rfl rfl rfl (fun h175 hJ175 k175 => ?_)
          exact ev_vret rfl rfl trivial ⟨rfl, rfl, hJ175, (KP.fin u130_0 (by have z0_ := congrArg Int32.toInt (rd_s k175); have z1_ := congrArg Int32.toInt (rd_o k175 z160 rfl); have z2_ := congrArg Int32.toInt (rd_o k175 z161 rfl); have z_ := w_lits; have zl_ := l_lits; omega) (by have z0_ := congrArg Int32.toInt (rd_s k175); have z1_ := congrArg Int32.toInt (rd_o k175 z160 rfl); have z2_ := congrArg Int32.toInt (rd_o k175 z161 rfl); have z_ := w_lits; have zl_ := l_lits; omega) k175 rfl)⟩
        · have b172 : B w155 0 11 := R_ltX b156 (by decide : B 12 12 12) (Int32.not_le.mp c169) (by decide)
          have z173 := w_lt (Int32.not_le.mp c169)
          rw [show (12 : Int32).toInt = 12 from by decide] at z173
          refine ev_aload_n rfl rfl rfl ?_
          refine ev_getR (y := 71) rfl rfl fl_X10_45 rfl rfl rfl rfl ?_
          refine ev_iload_n rfl rfl rfl ?_
          refine ev_bipush (v := 6) rfl rfl (by decide) ?_
          refine ev_iaddB (l := 6) (u := 384) rfl rfl b9 (by decide : B 6 6 6) (by decide) (by decide) (by decide) (by decide) (fun v176 b176 e176 g176 => ?_)
          have e176x := e176; rw [show (6 : Int32).toInt = 6 from by decide] at e176x
          refine ev_iload_n rfl rfl rfl ?_
          refine ev_iaddB (l := 6) (u := 395) rfl rfl b176 b172 (by decide) (by decide) (by decide) (by decide) (fun v177 b177 e177 g177 => ?_)
          refine ev_aload_n rfl rfl rfl ?_
          refine ev_getR (y := 68) rfl rfl fl_X10_36 rfl rfl rfl rfl ?_
          refine ev_iload_n rfl rfl rfl ?_
          refine ev_ialW (n := 12) (l := (-2147483648)) (u := 2147483647) hJ158.1 b172 (by decide) (by decide) (fun _ => rfl) rfl rfl rfl (fun v178 b178 e178 => ?_)
          refine ev_iasG (n := 420) hJ158 b177 (by decide) (by decide) (kb_putA (by have z0_ := congrArg Int32.toInt z159; have z1_ := congrArg Int32.toInt z160; have z2_ := congrArg Int32.toInt z161; have z_ := w_lits; have zl_ := l_lits; omega)) (fun _ => rfl) rfl rfl rfl rfl (fun h179 hJ179 k179 => ?_)
          have kp180 : KP h179 f1.toInt f2 f3 := KP.set u130_0 (by have z0_ := congrArg Int32.toInt (rd_a k179 z159 rfl); have z1_ := congrArg Int32.toInt (rd_a k179 z160 rfl); have z2_ := congrArg Int32.toInt (rd_a k179 z161 rfl); have z_ := w_lits; have zl_ := l_lits; omega) k179 (by have z0_ := congrArg Int32.toInt (rd_a k179 z159 rfl); have z1_ := congrArg Int32.toInt (rd_a k179 z160 rfl); have z2_ := congrArg Int32.toInt (rd_a k179 z161 rfl); have z_ := w_lits; have zl_ := l_lits; omega) (by have z0_ := congrArg Int32.toInt (rd_a k179 z159 rfl); have z1_ := congrArg Int32.toInt (rd_a k179 z160 rfl); have z2_ := congrArg Int32.toInt (rd_a k179 z161 rfl); have z_ := w_lits; have zl_ := l_lits; omega)
          refine ev_aload_n rfl rfl rfl ?_
          refine ev_getR (y := 71) rfl rfl fl_X10_45 rfl rfl rfl rfl ?_
          refine ev_iload_n rfl rfl rfl ?_
          refine ev_bipush (v := 18) rfl rfl (by decide) ?_
          refine ev_iaddB (l := 18) (u := 396) rfl rfl b9 (by decide : B 18 18 18) (by decide) (by decide) (by decide) (by decide) (fun v181 b181 e181 g181 => ?_)
          have e181x := e181; rw [show (18 : Int32).toInt = 18 from by decide] at e181x
          refine ev_iload_n rfl rfl rfl ?_
          refine ev_iaddB (l := 18) (u := 407) rfl rfl b181 b172 (by decide) (by decide) (by decide) (by decide) (fun v182 b182 e182 g182 => ?_)
          refine ev_aload_n rfl rfl rfl ?_
          refine ev_getR (y := 69) rfl rfl fl_X10_39 rfl rfl rfl rfl ?_
          refine ev_iload_n rfl rfl rfl ?_
          refine ev_ialW (n := 12) (l := (-2147483648)) (u := 2147483647) hJ179.1 b172 (by decide) (by decide) (fun _ => rfl) rfl rfl rfl (fun v183 b183 e183 => ?_)
          refine ev_iasG (n := 420) hJ179 b182 (by decide) (by decide) (kb_putA (by have z0_ := congrArg Int32.toInt (rd_a k179 z159 rfl); have z1_ := congrArg Int32.toInt (rd_a k179 z160 rfl); have z2_ := congrArg Int32.toInt (rd_a k179 z161 rfl); have z_ := w_lits; have zl_ := l_lits; omega)) (fun _ => rfl) rfl rfl rfl rfl (fun h184 hJ184 k184 => ?_)
          have kp185 : KP h184 f1.toInt f2 f3 := KP.set kp180 (by have z0_ := congrArg Int32.toInt (rd_a k184 (rd_a k179 z159 rfl) rfl); have z1_ := congrArg Int32.toInt (rd_a k184 (rd_a k179 z160 rfl) rfl); have z2_ := congrArg Int32.toInt (rd_a k184 (rd_a k179 z161 rfl) rfl); have z_ := w_lits; have zl_ := l_lits; omega) k184 (by have z0_ := congrArg Int32.toInt (rd_a k184 (rd_a k179 z159 rfl) rfl); have z1_ := congrArg Int32.toInt (rd_a k184 (rd_a k179 z160 rfl) rfl); have z2_ := congrArg Int32.toInt (rd_a k184 (rd_a k179 z161 rfl) rfl); have z_ := w_lits; have zl_ := l_lits; omega) (by have z0_ := congrArg Int32.toInt (rd_a k184 (rd_a k179 z159 rfl) rfl); have z1_ := congrArg Int32.toInt (rd_a k184 (rd_a k179 z160 rfl) rfl); have z2_ := congrArg Int32.toInt (rd_a k184 (rd_a k179 z161 rfl) rfl); have z_ := w_lits; have zl_ := l_lits; omega)
          refine ev_aload_n rfl rfl rfl ?_
          refine ev_getR (y := 71) rfl rfl fl_X10_45 rfl rfl rfl rfl ?_
          refine ev_iload_n rfl rfl rfl ?_
          refine ev_bipush (v := 30) rfl rfl (by decide) ?_
          refine ev_iaddB (l := 30) (u := 408) rfl rfl b9 (by decide : B 30 30 30) (by decide) (by decide) (by decide) (by decide) (fun v186 b186 e186 g186 => ?_)
          have e186x := e186; rw [show (30 : Int32).toInt = 30 from by decide] at e186x
          refine ev_iload_n rfl rfl rfl ?_
          refine ev_iaddB (l := 30) (u := 419) rfl rfl b186 b172 (by decide) (by decide) (by decide) (by decide) (fun v187 b187 e187 g187 => ?_)
          refine ev_aload_n rfl rfl rfl ?_
          refine ev_getR (y := 70) rfl rfl fl_X10_42 rfl rfl rfl rfl ?_
          refine ev_iload_n rfl rfl rfl ?_
          refine ev_zalW (n := 12) (l := (-2147483648)) (u := 2147483647) hJ184.1 b172 (by decide) (by decide) (fun _ => rfl) rfl rfl rfl (fun v188 b188 e188 => ?_)
          refine ev_if_eq rfl rfl (fun c189 => ?_) (fun c189 => ?_)
          · have b190 : B v188 0 0 := R_eqX (B.any v188) (by decide : B 0 0 0) c189
            have z191 := congrArg Int32.toInt c189
            rw [show (0 : Int32).toInt = 0 from by decide] at z191
            refine ev_iconst (v := 0) rfl rfl (by decide) ?_
            refine ev_iasG (n := 420) hJ184 b187 (by decide) (by decide) (kb_putA (by have z0_ := congrArg Int32.toInt (rd_a k184 (rd_a k179 z159 rfl) rfl); have z1_ := congrArg Int32.toInt (rd_a k184 (rd_a k179 z160 rfl) rfl); have z2_ := congrArg Int32.toInt (rd_a k184 (rd_a k179 z161 rfl) rfl); have z_ := w_lits; have zl_ := l_lits; omega)) (fun _ => rfl) rfl rfl rfl rfl (fun h193 hJ193 k193 => ?_)
            have kp194 : KP h193 f1.toInt f2 f3 := KP.set kp185 (by have z0_ := congrArg Int32.toInt (rd_a k193 (rd_a k184 (rd_a k179 z159 rfl) rfl) rfl); have z1_ := congrArg Int32.toInt (rd_a k193 (rd_a k184 (rd_a k179 z160 rfl) rfl) rfl); have z2_ := congrArg Int32.toInt (rd_a k193 (rd_a k184 (rd_a k179 z161 rfl) rfl) rfl); have z_ := w_lits; have zl_ := l_lits; omega) k193 (by have z0_ := congrArg Int32.toInt (rd_a k193 (rd_a k184 (rd_a k179 z159 rfl) rfl) rfl); have z1_ := congrArg Int32.toInt (rd_a k193 (rd_a k184 (rd_a k179 z160 rfl) rfl) rfl); have z2_ := congrArg Int32.toInt (rd_a k193 (rd_a k184 (rd_a k179 z161 rfl) rfl) rfl); have z_ := w_lits; have zl_ := l_lits; omega) (by have z0_ := congrArg Int32.toInt (rd_a k193 (rd_a k184 (rd_a k179 z159 rfl) rfl) rfl); have z1_ := congrArg Int32.toInt (rd_a k193 (rd_a k184 (rd_a k179 z160 rfl) rfl) rfl); have z2_ := congrArg Int32.toInt (rd_a k193 (rd_a k184 (rd_a k179 z161 rfl) rfl) rfl); have z_ := w_lits; have zl_ := l_lits; omega)
            refine ev_iincB (y := 1) (l := 1) (u := 12) rfl rfl rfl (by decide) rfl rfl b172 (by decide : B 1 1 1) (by decide) (by decide) (by decide) (by decide) (fun v195 b195 e195 => ?_)
            dsimp only [List.set]
            have e195x := e195; rw [show (1 : Int32).toInt = 1 from by decide] at e195x
            refine ev_goto rfl rfl ?_
            exact (ih130 v195 h193 (b195.mono (by decide) (by decide)) hJ193 (rd_a k193 (rd_a k184 (rd_a k179 z159 rfl) rfl) rfl) (rd_a k193 (rd_a k184 (rd_a k179 z160 rfl) rfl) rfl) (rd_a k193 (rd_a k184 (rd_a k179 z161 rfl) rfl) rfl) (rd_a k193 (rd_a k184 (rd_a k179 z162 rfl) rfl) rfl) (rd_a k193 (rd_a k184 (rd_a k179 z163 rfl) rfl) rfl) (rd_a k193 (rd_a k184 (rd_a k179 z164 rfl) rfl) rfl) (rd_a k193 (rd_a k184 (rd_a k179 z165 rfl) rfl) rfl) kp194 (L_up hm130 (e_p1 e195 (by decide))))
          · have z192 := w_ne c189
            rw [show (0 : Int32).toInt = 0 from by decide] at z192
            refine ev_iconst (v := 1) rfl rfl (by decide) ?_
            refine ev_goto rfl rfl ?_
            refine ev_iasG (n := 420) hJ184 b187 (by decide) (by decide) (kb_putA (by have z0_ := congrArg Int32.toInt (rd_a k184 (rd_a k179 z159 rfl) rfl); have z1_ := congrArg Int32.toInt (rd_a k184 (rd_a k179 z160 rfl) rfl); have z2_ := congrArg Int32.toInt (rd_a k184 (rd_a k179 z161 rfl) rfl); have z_ := w_lits; have zl_ := l_lits; omega)) (fun _ => rfl) rfl rfl rfl rfl (fun h196 hJ196 k196 => ?_)
            have kp197 : KP h196 f1.toInt f2 f3 := KP.set kp185 (by have z0_ := congrArg Int32.toInt (rd_a k196 (rd_a k184 (rd_a k179 z159 rfl) rfl) rfl); have z1_ := congrArg Int32.toInt (rd_a k196 (rd_a k184 (rd_a k179 z160 rfl) rfl) rfl); have z2_ := congrArg Int32.toInt (rd_a k196 (rd_a k184 (rd_a k179 z161 rfl) rfl) rfl); have z_ := w_lits; have zl_ := l_lits; omega) k196 (by have z0_ := congrArg Int32.toInt (rd_a k196 (rd_a k184 (rd_a k179 z159 rfl) rfl) rfl); have z1_ := congrArg Int32.toInt (rd_a k196 (rd_a k184 (rd_a k179 z160 rfl) rfl) rfl); have z2_ := congrArg Int32.toInt (rd_a k196 (rd_a k184 (rd_a k179 z161 rfl) rfl) rfl); have z_ := w_lits; have zl_ := l_lits; omega) (by have z0_ := congrArg Int32.toInt (rd_a k196 (rd_a k184 (rd_a k179 z159 rfl) rfl) rfl); have z1_ := congrArg Int32.toInt (rd_a k196 (rd_a k184 (rd_a k179 z160 rfl) rfl) rfl); have z2_ := congrArg Int32.toInt (rd_a k196 (rd_a k184 (rd_a k179 z161 rfl) rfl) rfl); have z_ := w_lits; have zl_ := l_lits; omega)
            refine ev_iincB (y := 1) (l := 1) (u := 12) rfl rfl rfl (by decide) rfl rfl b172 (by decide : B 1 1 1) (by decide) (by decide) (by decide) (by decide) (fun v198 b198 e198 => ?_)
            dsimp only [List.set]
            have e198x := e198; rw [show (1 : Int32).toInt = 1 from by decide] at e198x
            refine ev_goto rfl rfl ?_
            exact (ih130 v198 h196 (b198.mono (by decide) (by decide)) hJ196 (rd_a k196 (rd_a k184 (rd_a k179 z159 rfl) rfl) rfl) (rd_a k196 (rd_a k184 (rd_a k179 z160 rfl) rfl) rfl) (rd_a k196 (rd_a k184 (rd_a k179 z161 rfl) rfl) rfl) (rd_a k196 (rd_a k184 (rd_a k179 z162 rfl) rfl) rfl) (rd_a k196 (rd_a k184 (rd_a k179 z163 rfl) rfl) rfl) (rd_a k196 (rd_a k184 (rd_a k179 z164 rfl) rfl) rfl) (rd_a k196 (rd_a k184 (rd_a k179 z165 rfl) rfl) rfl) kp197 (L_up hm130 (e_p1 e198 (by decide))))
    exact (lp130_154 13 0 h24 ((by decide : B 0 0 0).mono (by decide) (by decide)) hJ24 (rd_a k24 (rd_a k21 (rd_a k18 (rd_a k16 (rd_a k13 (rd_a k10 ef1 rfl) rfl) rfl) rfl) rfl) rfl) (rd_a k24 (rd_a k21 (rd_a k18 (rd_a k16 (rd_a k13 (rd_a k10 ef2 rfl) rfl) rfl) rfl) rfl) rfl) (rd_a k24 (rd_a k21 (rd_a k18 (rd_a k16 (rd_a k13 (rd_a k10 ef3 rfl) rfl) rfl) rfl) rfl) rfl) (rd_a k24 (rd_a k21 (rd_a k18 (rd_a k16 (rd_a k13 e12 rfl) rfl) rfl) rfl) rfl) (rd_a k24 (rd_a k21 (rd_a k18 (rd_a k16 e15 rfl) rfl) rfl) rfl) (rd_a k24 (rd_a k21 e20 rfl) rfl) (rd_a k24 e23 rfl) kp25 (L_init (by decide : B 0 0 0) (by decide)))
  · have b7 : B f1 10 10 := R_eqX bf1 (by decide : B 10 10 10) c4
    have z8 := congrArg Int32.toInt c4
    rw [show (10 : Int32).toInt = 10 from by decide] at z8
    refine ev_bipush (v := 42) rfl rfl (by decide) ?_
    refine ev_istore_n rfl rfl rfl rfl ?_
    dsimp only [List.set]
    have lp12_840 : ∀ (n : Nat) (w841 : Int32) (h843 : Hp), B w841 42 420 → JW [(63, 13), (71, 999)] h h843 → (h843 63 13 = f1) → (h843 63 0 = f2) → (h843 63 3 = f3) → (SH h h843 w841.toInt) → 420 + 1 - w841.toInt ≤ (n : Int) → EvQ mi_X10_keeps 12 [some (.ref 63), some (.int w841), none] [] (G0 L b) h843 0 0 (QK (fun z : Hp => (KS z)) [(63, 13), (71, 999)] (G0 L b) h) := by
      intro n
      induction n with
      | zero =>
        intro w841 h843 b842 hJ844 z845 z846 z847 u12_0 hm12
        exact absurd hm12 (L_zero b842 (by decide))
      | succ n ih12 =>
        intro w841 h843 b842 hJ844 z845 z846 z847 u12_0 hm12
        have z848 := congrArg Int32.toInt z845
        have z849 := congrArg Int32.toInt z846
        have z850 := congrArg Int32.toInt z847
        refine ev_iload_n rfl rfl rfl ?_
        refine ev_sipush (v := 420) rfl rfl (by decide) ?_
        refine ev_icmp_ge rfl rfl (fun c851 => ?_) (fun c851 => ?_)
        · have b852 : B w841 420 420 := R_leY (by decide : B 420 420 420) b842 c851 (by decide)
          have z853 := w_le c851
          rw [show (420 : Int32).toInt = 420 from by decide] at z853
          have ks856 : KS h843 := SH.ks u12_0 (by have z0_ := congrArg Int32.toInt z845; have z1_ := congrArg Int32.toInt z846; have z2_ := congrArg Int32.toInt z847; have z_ := w_lits; have zl_ := l_lits; omega) (by have z0_ := congrArg Int32.toInt z845; have z1_ := congrArg Int32.toInt z846; have z2_ := congrArg Int32.toInt z847; have z_ := w_lits; have zl_ := l_lits; omega) hKS
          refine ev_aload_n rfl rfl rfl ?_
          refine ev_dup rfl rfl rfl ?_
          refine ev_getV (v := f1) rfl rfl fl_X10_128 rfl rfl rfl z845 ?_
          refine ev_iconst (v := 1) rfl rfl (by decide) ?_
          refine ev_isubB (l := 9) (u := 9) rfl rfl b7 (by decide : B 1 1 1) (by decide) (by decide) (by decide) (by decide) (fun v857 b857 e857 g857 => ?_)
          have e857x := e857; rw [show (1 : Int32).toInt = 1 from by decide] at e857x
          refine ev_putW (l := 0) (u := 10) hJ844 rfl b857 (by decide) (by decide) rfl rfl rfl fl_X10_128 rfl rfl rfl rfl rfl (fun h858 hJ858 k858 => ?_)
          refine ev_bipush (v := 42) rfl rfl (by decide) ?_
          refine ev_aload_n rfl rfl rfl ?_
          refine ev_getV (v := v857) rfl rfl fl_X10_128 rfl rfl rfl (rd_s k858) ?_
          refine ev_imulB (l := 378) (u := 378) rfl rfl (by decide : B 42 42 42) b857 (by decide) (by decide) (by decide) (by decide) (by decide) (fun v859 b859 e859 g859 => ?_)
          rw [show (42 : Int32).toInt = 42 from by decide] at e859
          refine ev_istore_n rfl rfl rfl rfl ?_
          dsimp only [List.set]
          refine ev_aload_n rfl rfl rfl ?_
          refine ev_getR (y := 71) rfl rfl fl_X10_45 rfl rfl rfl rfl ?_
          refine ev_iload_n rfl rfl rfl ?_
          refine ev_aload_n rfl rfl rfl ?_
          refine ev_getV (v := f2) rfl rfl fl_X10_7 rfl rfl rfl (rd_o k858 z846 rfl) ?_
          refine ev_iasG (n := 420) hJ858 b859 (by decide) (by decide) (kb_put (c := 0) (by have z0_ := congrArg Int32.toInt (rd_s k858); have z1_ := congrArg Int32.toInt (rd_o k858 z846 rfl); have z2_ := congrArg Int32.toInt (rd_o k858 z847 rfl); have z_ := w_lits; have zl_ := l_lits; omega) bf2) (fun _ => rfl) rfl rfl rfl rfl (fun h860 hJ860 k860 => ?_)
          refine ev_aload_n rfl rfl rfl ?_
          refine ev_getR (y := 71) rfl rfl fl_X10_45 rfl rfl rfl rfl ?_
          refine ev_iload_n rfl rfl rfl ?_
          refine ev_iconst (v := 1) rfl rfl (by decide) ?_
          refine ev_iaddB (l := 379) (u := 379) rfl rfl b859 (by decide : B 1 1 1) (by decide) (by decide) (by decide) (by decide) (fun v861 b861 e861 g861 => ?_)
          have e861x := e861; rw [show (1 : Int32).toInt = 1 from by decide] at e861x
          refine ev_aload_n rfl rfl rfl ?_
          refine ev_getW (l := (-2147483648)) (u := 2147483647) hJ860.1 rfl rfl rfl fl_X10_13 rfl rfl rfl (fun v862 b862 e862 => ?_)
          refine ev_iasG (n := 420) hJ860 b861 (by decide) (by decide) (kb_put (c := 1) (by have z0_ := congrArg Int32.toInt (rd_a k860 (rd_s k858) rfl); have z1_ := congrArg Int32.toInt (rd_a k860 (rd_o k858 z846 rfl) rfl); have z2_ := congrArg Int32.toInt (rd_a k860 (rd_o k858 z847 rfl) rfl); have z_ := w_lits; have zl_ := l_lits; omega) (B.any v862)) (fun _ => rfl) rfl rfl rfl rfl (fun h863 hJ863 k863 => ?_)
          refine ev_aload_n rfl rfl rfl ?_
          refine ev_getR (y := 71) rfl rfl fl_X10_45 rfl rfl rfl rfl ?_
          refine ev_iload_n rfl rfl rfl ?_
          refine ev_iconst (v := 2) rfl rfl (by decide) ?_
          refine ev_iaddB (l := 380) (u := 380) rfl rfl b859 (by decide : B 2 2 2) (by decide) (by decide) (by decide) (by decide) (fun v864 b864 e864 g864 => ?_)
          have e864x := e864; rw [show (2 : Int32).toInt = 2 from by decide] at e864x
          refine ev_aload_n rfl rfl rfl ?_
          refine ev_getW (l := (-2147483648)) (u := 2147483647) hJ863.1 rfl rfl rfl fl_X10_16 rfl rfl rfl (fun v865 b865 e865 => ?_)
          refine ev_iasG (n := 420) hJ863 b864 (by decide) (by decide) (kb_put (c := 2) (by have z0_ := congrArg Int32.toInt (rd_a k863 (rd_a k860 (rd_s k858) rfl) rfl); have z1_ := congrArg Int32.toInt (rd_a k863 (rd_a k860 (rd_o k858 z846 rfl) rfl) rfl); have z2_ := congrArg Int32.toInt (rd_a k863 (rd_a k860 (rd_o k858 z847 rfl) rfl) rfl); have z_ := w_lits; have zl_ := l_lits; omega) (B.any v865)) (fun _ => rfl) rfl rfl rfl rfl (fun h866 hJ866 k866 => ?_)
          refine ev_aload_n rfl rfl rfl ?_
          refine ev_getR (y := 71) rfl rfl fl_X10_45 rfl rfl rfl rfl ?_
          refine ev_iload_n rfl rfl rfl ?_
          refine ev_iconst (v := 3) rfl rfl (by decide) ?_
          refine ev_iaddB (l := 381) (u := 381) rfl rfl b859 (by decide : B 3 3 3) (by decide) (by decide) (by decide) (by decide) (fun v867 b867 e867 g867 => ?_)
          have e867x := e867; rw [show (3 : Int32).toInt = 3 from by decide] at e867x
          refine ev_aload_n rfl rfl rfl ?_
          refine ev_getV (v := f3) rfl rfl fl_X10_19 rfl rfl rfl (rd_a k866 (rd_a k863 (rd_a k860 (rd_o k858 z847 rfl) rfl) rfl) rfl) ?_
          refine ev_iasG (n := 420) hJ866 b867 (by decide) (by decide) (kb_put (c := 3) (by have z0_ := congrArg Int32.toInt (rd_a k866 (rd_a k863 (rd_a k860 (rd_s k858) rfl) rfl) rfl); have z1_ := congrArg Int32.toInt (rd_a k866 (rd_a k863 (rd_a k860 (rd_o k858 z846 rfl) rfl) rfl) rfl); have z2_ := congrArg Int32.toInt (rd_a k866 (rd_a k863 (rd_a k860 (rd_o k858 z847 rfl) rfl) rfl) rfl); have z_ := w_lits; have zl_ := l_lits; omega) bf3) (fun _ => rfl) rfl rfl rfl rfl (fun h868 hJ868 k868 => ?_)
          refine ev_aload_n rfl rfl rfl ?_
          refine ev_getR (y := 71) rfl rfl fl_X10_45 rfl rfl rfl rfl ?_
          refine ev_iload_n rfl rfl rfl ?_
          refine ev_iconst (v := 4) rfl rfl (by decide) ?_
          refine ev_iaddB (l := 382) (u := 382) rfl rfl b859 (by decide : B 4 4 4) (by decide) (by decide) (by decide) (by decide) (fun v869 b869 e869 g869 => ?_)
          have e869x := e869; rw [show (4 : Int32).toInt = 4 from by decide] at e869x
          refine ev_aload_n rfl rfl rfl ?_
          refine ev_getW (l := (-2147483648)) (u := 2147483647) hJ868.1 rfl rfl rfl fl_X10_131 rfl rfl rfl (fun v870 b870 e870 => ?_)
          refine ev_iasG (n := 420) hJ868 b869 (by decide) (by decide) (kb_put (c := 4) (by have z0_ := congrArg Int32.toInt (rd_a k868 (rd_a k866 (rd_a k863 (rd_a k860 (rd_s k858) rfl) rfl) rfl) rfl); have z1_ := congrArg Int32.toInt (rd_a k868 (rd_a k866 (rd_a k863 (rd_a k860 (rd_o k858 z846 rfl) rfl) rfl) rfl) rfl); have z2_ := congrArg Int32.toInt (rd_a k868 (rd_a k866 (rd_a k863 (rd_a k860 (rd_o k858 z847 rfl) rfl) rfl) rfl) rfl); have z_ := w_lits; have zl_ := l_lits; omega) (B.any v870)) (fun _ => rfl) rfl rfl rfl rfl (fun h871 hJ871 k871 => ?_)
          refine ev_aload_n rfl rfl rfl ?_
          refine ev_getR (y := 71) rfl rfl fl_X10_45 rfl rfl rfl rfl ?_
          refine ev_iload_n rfl rfl rfl ?_
          refine ev_iconst (v := 5) rfl rfl (by decide) ?_
          refine ev_iaddB (l := 383) (u := 383) rfl rfl b859 (by decide : B 5 5 5) (by decide) (by decide) (by decide) (by decide) (fun v872 b872 e872 g872 => ?_)
          have e872x := e872; rw [show (5 : Int32).toInt = 5 from by decide] at e872x
          refine ev_aload_n rfl rfl rfl ?_
          refine ev_getW (l := 0) (u := 12) hJ871.1 rfl rfl rfl fl_X10_121 rfl rfl rfl (fun v873 b873 e873 => ?_)
          refine ev_iasG (n := 420) hJ871 b872 (by decide) (by decide) (kb_put (c := 5) (by have z0_ := congrArg Int32.toInt (rd_a k871 (rd_a k868 (rd_a k866 (rd_a k863 (rd_a k860 (rd_s k858) rfl) rfl) rfl) rfl) rfl); have z1_ := congrArg Int32.toInt (rd_a k871 (rd_a k868 (rd_a k866 (rd_a k863 (rd_a k860 (rd_o k858 z846 rfl) rfl) rfl) rfl) rfl) rfl); have z2_ := congrArg Int32.toInt (rd_a k871 (rd_a k868 (rd_a k866 (rd_a k863 (rd_a k860 (rd_o k858 z847 rfl) rfl) rfl) rfl) rfl) rfl); have z_ := w_lits; have zl_ := l_lits; omega) b873) (fun _ => rfl) rfl rfl rfl rfl (fun h874 hJ874 k874 => ?_)
          have kp875 : KP h874 v857.toInt f2 f3 := KP.mk (KS.set ks856 k858 rfl) (by have z0_ := congrArg Int32.toInt (rd_a k874 (rd_a k871 (rd_a k868 (rd_a k866 (rd_a k863 (rd_a k860 (rd_s k858) rfl) rfl) rfl) rfl) rfl) rfl); have z1_ := congrArg Int32.toInt (rd_a k874 (rd_a k871 (rd_a k868 (rd_a k866 (rd_a k863 (rd_a k860 (rd_o k858 z846 rfl) rfl) rfl) rfl) rfl) rfl) rfl); have z2_ := congrArg Int32.toInt (rd_a k874 (rd_a k871 (rd_a k868 (rd_a k866 (rd_a k863 (rd_a k860 (rd_o k858 z847 rfl) rfl) rfl) rfl) rfl) rfl) rfl); have z_ := w_lits; have zl_ := l_lits; omega) k860 k863 k866 k868 k871 k874 (by have z0_ := congrArg Int32.toInt (rd_a k874 (rd_a k871 (rd_a k868 (rd_a k866 (rd_a k863 (rd_a k860 (rd_s k858) rfl) rfl) rfl) rfl) rfl) rfl); have z1_ := congrArg Int32.toInt (rd_a k874 (rd_a k871 (rd_a k868 (rd_a k866 (rd_a k863 (rd_a k860 (rd_o k858 z846 rfl) rfl) rfl) rfl) rfl) rfl) rfl); have z2_ := congrArg Int32.toInt (rd_a k874 (rd_a k871 (rd_a k868 (rd_a k866 (rd_a k863 (rd_a k860 (rd_o k858 z847 rfl) rfl) rfl) rfl) rfl) rfl) rfl); have z_ := w_lits; have zl_ := l_lits; omega) (by have z0_ := congrArg Int32.toInt (rd_a k874 (rd_a k871 (rd_a k868 (rd_a k866 (rd_a k863 (rd_a k860 (rd_s k858) rfl) rfl) rfl) rfl) rfl) rfl); have z1_ := congrArg Int32.toInt (rd_a k874 (rd_a k871 (rd_a k868 (rd_a k866 (rd_a k863 (rd_a k860 (rd_o k858 z846 rfl) rfl) rfl) rfl) rfl) rfl) rfl); have z2_ := congrArg Int32.toInt (rd_a k874 (rd_a k871 (rd_a k868 (rd_a k866 (rd_a k863 (rd_a k860 (rd_o k858 z847 rfl) rfl) rfl) rfl) rfl) rfl) rfl); have z_ := w_lits; have zl_ := l_lits; omega) (by have z0_ := congrArg Int32.toInt (rd_a k874 (rd_a k871 (rd_a k868 (rd_a k866 (rd_a k863 (rd_a k860 (rd_s k858) rfl) rfl) rfl) rfl) rfl) rfl); have z1_ := congrArg Int32.toInt (rd_a k874 (rd_a k871 (rd_a k868 (rd_a k866 (rd_a k863 (rd_a k860 (rd_o k858 z846 rfl) rfl) rfl) rfl) rfl) rfl) rfl); have z2_ := congrArg Int32.toInt (rd_a k874 (rd_a k871 (rd_a k868 (rd_a k866 (rd_a k863 (rd_a k860 (rd_o k858 z847 rfl) rfl) rfl) rfl) rfl) rfl) rfl); have z_ := w_lits; have zl_ := l_lits; omega) (by have z0_ := congrArg Int32.toInt (rd_a k874 (rd_a k871 (rd_a k868 (rd_a k866 (rd_a k863 (rd_a k860 (rd_s k858) rfl) rfl) rfl) rfl) rfl) rfl); have z1_ := congrArg Int32.toInt (rd_a k874 (rd_a k871 (rd_a k868 (rd_a k866 (rd_a k863 (rd_a k860 (rd_o k858 z846 rfl) rfl) rfl) rfl) rfl) rfl) rfl); have z2_ := congrArg Int32.toInt (rd_a k874 (rd_a k871 (rd_a k868 (rd_a k866 (rd_a k863 (rd_a k860 (rd_o k858 z847 rfl) rfl) rfl) rfl) rfl) rfl) rfl); have z_ := w_lits; have zl_ := l_lits; omega) (by have z0_ := congrArg Int32.toInt (rd_a k874 (rd_a k871 (rd_a k868 (rd_a k866 (rd_a k863 (rd_a k860 (rd_s k858) rfl) rfl) rfl) rfl) rfl) rfl); have z1_ := congrArg Int32.toInt (rd_a k874 (rd_a k871 (rd_a k868 (rd_a k866 (rd_a k863 (rd_a k860 (rd_o k858 z846 rfl) rfl) rfl) rfl) rfl) rfl) rfl); have z2_ := congrArg Int32.toInt (rd_a k874 (rd_a k871 (rd_a k868 (rd_a k866 (rd_a k863 (rd_a k860 (rd_o k858 z847 rfl) rfl) rfl) rfl) rfl) rfl) rfl); have z_ := w_lits; have zl_ := l_lits; omega) (by have z0_ := congrArg Int32.toInt (rd_a k874 (rd_a k871 (rd_a k868 (rd_a k866 (rd_a k863 (rd_a k860 (rd_s k858) rfl) rfl) rfl) rfl) rfl) rfl); have z1_ := congrArg Int32.toInt (rd_a k874 (rd_a k871 (rd_a k868 (rd_a k866 (rd_a k863 (rd_a k860 (rd_o k858 z846 rfl) rfl) rfl) rfl) rfl) rfl) rfl); have z2_ := congrArg Int32.toInt (rd_a k874 (rd_a k871 (rd_a k868 (rd_a k866 (rd_a k863 (rd_a k860 (rd_o k858 z847 rfl) rfl) rfl) rfl) rfl) rfl) rfl); have z_ := w_lits; have zl_ := l_lits; omega)
          refine ev_iconst (v := 0) rfl rfl (by decide) ?_
          refine ev_istore_n rfl rfl rfl rfl ?_
          dsimp only [List.set]
          have lp130_1004 : ∀ (n : Nat) (w1005 : Int32) (h1007 : Hp), B w1005 0 12 → JW [(63, 13), (71, 999)] h h1007 → (h1007 63 13 = v857) → (h1007 63 0 = f2) → (h1007 63 3 = f3) → (h1007 63 1 = v862) → (h1007 63 2 = v865) → (h1007 63 4 = v870) → (h1007 63 5 = v873) → (KP h1007 v857.toInt f2 f3) → 12 + 1 - w1005.toInt ≤ (n : Int) → EvQ mi_X10_keeps 130 [some (.ref 63), some (.int v859), some (.int w1005)] [] (G0 L b) h1007 0 0 (QK (fun z : Hp => (KS z)) [(63, 13), (71, 999)] (G0 L b) h) := by
            intro n
            induction n with
            | zero =>
              intro w1005 h1007 b1006 hJ1008 z1009 z1010 z1011 z1012 z1013 z1014 z1015 u130_0 hm130
              exact absurd hm130 (L_zero b1006 (by decide))
            | succ n ih130 =>
              intro w1005 h1007 b1006 hJ1008 z1009 z1010 z1011 z1012 z1013 z1014 z1015 u130_0 hm130
              have z1016 := congrArg Int32.toInt z1009
              have z1017 := congrArg Int32.toInt z1010
              have z1018 := congrArg Int32.toInt z1011
              refine ev_iload_n rfl rfl rfl ?_
              refine ev_bipush (v := 12) rfl rfl (by decide) ?_
              refine ev_icmp_ge rfl rfl (fun c1019 => ?_) (fun c1019 => ?_)
              · have b1020 : B w1005 12 12 := R_leY (by decide : B 12 12 12) b1006 c1019 (by decide)
                have z1021 := w_le c1019
                rw [show (12 : Int32).toInt = 12 from by decide] at z1021
                refine ev_aload_n rfl rfl rfl ?_
                refine ev_dup rfl rfl rfl ?_
                refine ev_getV (v := v857) rfl rfl fl_X10_128 rfl rfl rfl z1009 ?_
                refine ev_iconst (v := 1) rfl rfl (by decide) ?_
                refine ev_iaddB (l := 10) (u := 10) rfl rfl b857 (by decide : B 1 1 1) (by decide) (by decide) (by decide) (by decide) (fun v1024 b1024 e1024 g1024 => ?_)
                have e1024x := e1024; rw [show (1 : Int32).toInt = 1 from by decide] at e1024x
                refine ev_putW (l := 0) (u := 10) hJ1008 rfl b1024 (by decide) (by decide) rfl rfl rfl fl_X10_128 rfl rfl rfl rfl rfl (fun h1025 hJ1025 k1025 => ?_)
                exact ev_vret rfl rfl trivial ⟨rfl, rfl, hJ1025, (KP.fin u130_0 (by have z0_ := congrArg Int32.toInt (rd_s k1025); have z1_ := congrArg Int32.toInt (rd_o k1025 z1010 rfl); have z2_ := congrArg Int32.toInt (rd_o k1025 z1011 rfl); have z_ := w_lits; have zl_ := l_lits; omega) (by have z0_ := congrArg Int32.toInt (rd_s k1025); have z1_ := congrArg Int32.toInt (rd_o k1025 z1010 rfl); have z2_ := congrArg Int32.toInt (rd_o k1025 z1011 rfl); have z_ := w_lits; have zl_ := l_lits; omega) k1025 rfl)⟩
              · have b1022 : B w1005 0 11 := R_ltX b1006 (by decide : B 12 12 12) (Int32.not_le.mp c1019) (by decide)
                have z1023 := w_lt (Int32.not_le.mp c1019)
                rw [show (12 : Int32).toInt = 12 from by decide] at z1023
                refine ev_aload_n rfl rfl rfl ?_
                refine ev_getR (y := 71) rfl rfl fl_X10_45 rfl rfl rfl rfl ?_
                refine ev_iload_n rfl rfl rfl ?_
                refine ev_bipush (v := 6) rfl rfl (by decide) ?_
                refine ev_iaddB (l := 384) (u := 384) rfl rfl b859 (by decide : B 6 6 6) (by decide) (by decide) (by decide) (by decide) (fun v1026 b1026 e1026 g1026 => ?_)
                have e1026x := e1026; rw [show (6 : Int32).toInt = 6 from by decide] at e1026x
                refine ev_iload_n rfl rfl rfl ?_
                refine ev_iaddB (l := 384) (u := 395) rfl rfl b1026 b1022 (by decide) (by decide) (by decide) (by decide) (fun v1027 b1027 e1027 g1027 => ?_)
                refine ev_aload_n rfl rfl rfl ?_
                refine ev_getR (y := 68) rfl rfl fl_X10_36 rfl rfl rfl rfl ?_
                refine ev_iload_n rfl rfl rfl ?_
                refine ev_ialW (n := 12) (l := (-2147483648)) (u := 2147483647) hJ1008.1 b1022 (by decide) (by decide) (fun _ => rfl) rfl rfl rfl (fun v1028 b1028 e1028 => ?_)
                refine ev_iasG (n := 420) hJ1008 b1027 (by decide) (by decide) (kb_putA (by have z0_ := congrArg Int32.toInt z1009; have z1_ := congrArg Int32.toInt z1010; have z2_ := congrArg Int32.toInt z1011; have z_ := w_lits; have zl_ := l_lits; omega)) (fun _ => rfl) rfl rfl rfl rfl (fun h1029 hJ1029 k1029 => ?_)
                have kp1030 : KP h1029 v857.toInt f2 f3 := KP.set u130_0 (by have z0_ := congrArg Int32.toInt (rd_a k1029 z1009 rfl); have z1_ := congrArg Int32.toInt (rd_a k1029 z1010 rfl); have z2_ := congrArg Int32.toInt (rd_a k1029 z1011 rfl); have z_ := w_lits; have zl_ := l_lits; omega) k1029 (by have z0_ := congrArg Int32.toInt (rd_a k1029 z1009 rfl); have z1_ := congrArg Int32.toInt (rd_a k1029 z1010 rfl); have z2_ := congrArg Int32.toInt (rd_a k1029 z1011 rfl); have z_ := w_lits; have zl_ := l_lits; omega) (by have z0_ := congrArg Int32.toInt (rd_a k1029 z1009 rfl); have z1_ := congrArg Int32.toInt (rd_a k1029 z1010 rfl); have z2_ := congrArg Int32.toInt (rd_a k1029 z1011 rfl); have z_ := w_lits; have zl_ := l_lits; omega)
                refine ev_aload_n rfl rfl rfl ?_
                refine ev_getR (y := 71) rfl rfl fl_X10_45 rfl rfl rfl rfl ?_
                refine ev_iload_n rfl rfl rfl ?_
                refine ev_bipush (v := 18) rfl rfl (by decide) ?_
                refine ev_iaddB (l := 396) (u := 396) rfl rfl b859 (by decide : B 18 18 18) (by decide) (by decide) (by decide) (by decide) (fun v1031 b1031 e1031 g1031 => ?_)
                have e1031x := e1031; rw [show (18 : Int32).toInt = 18 from by decide] at e1031x
                refine ev_iload_n rfl rfl rfl ?_
                refine ev_iaddB (l := 396) (u := 407) rfl rfl b1031 b1022 (by decide) (by decide) (by decide) (by decide) (fun v1032 b1032 e1032 g1032 => ?_)
                refine ev_aload_n rfl rfl rfl ?_
                refine ev_getR (y := 69) rfl rfl fl_X10_39 rfl rfl rfl rfl ?_
                refine ev_iload_n rfl rfl rfl ?_
                refine ev_ialW (n := 12) (l := (-2147483648)) (u := 2147483647) hJ1029.1 b1022 (by decide) (by decide) (fun _ => rfl) rfl rfl rfl (fun v1033 b1033 e1033 => ?_)
                refine ev_iasG (n := 420) hJ1029 b1032 (by decide) (by decide) (kb_putA (by have z0_ := congrArg Int32.toInt (rd_a k1029 z1009 rfl); have z1_ := congrArg Int32.toInt (rd_a k1029 z1010 rfl); have z2_ := congrArg Int32.toInt (rd_a k1029 z1011 rfl); have z_ := w_lits; have zl_ := l_lits; omega)) (fun _ => rfl) rfl rfl rfl rfl (fun h1034 hJ1034 k1034 => ?_)
                have kp1035 : KP h1034 v857.toInt f2 f3 := KP.set kp1030 (by have z0_ := congrArg Int32.toInt (rd_a k1034 (rd_a k1029 z1009 rfl) rfl); have z1_ := congrArg Int32.toInt (rd_a k1034 (rd_a k1029 z1010 rfl) rfl); have z2_ := congrArg Int32.toInt (rd_a k1034 (rd_a k1029 z1011 rfl) rfl); have z_ := w_lits; have zl_ := l_lits; omega) k1034 (by have z0_ := congrArg Int32.toInt (rd_a k1034 (rd_a k1029 z1009 rfl) rfl); have z1_ := congrArg Int32.toInt (rd_a k1034 (rd_a k1029 z1010 rfl) rfl); have z2_ := congrArg Int32.toInt (rd_a k1034 (rd_a k1029 z1011 rfl) rfl); have z_ := w_lits; have zl_ := l_lits; omega) (by have z0_ := congrArg Int32.toInt (rd_a k1034 (rd_a k1029 z1009 rfl) rfl); have z1_ := congrArg Int32.toInt (rd_a k1034 (rd_a k1029 z1010 rfl) rfl); have z2_ := congrArg Int32.toInt (rd_a k1034 (rd_a k1029 z1011 rfl) rfl); have z_ := w_lits; have zl_ := l_lits; omega)
                refine ev_aload_n rfl rfl rfl ?_
                refine ev_getR (y := 71) rfl rfl fl_X10_45 rfl rfl rfl rfl ?_
                refine ev_iload_n rfl rfl rfl ?_
                refine ev_bipush (v := 30) rfl rfl (by decide) ?_
                refine ev_iaddB (l := 408) (u := 408) rfl rfl b859 (by decide : B 30 30 30) (by decide) (by decide) (by decide) (by decide) (fun v1036 b1036 e1036 g1036 => ?_)
                have e1036x := e1036; rw [show (30 : Int32).toInt = 30 from by decide] at e1036x
                refine ev_iload_n rfl rfl rfl ?_
                refine ev_iaddB (l := 408) (u := 419) rfl rfl b1036 b1022 (by decide) (by decide) (by decide) (by decide) (fun v1037 b1037 e1037 g1037 => ?_)
                refine ev_aload_n rfl rfl rfl ?_
                refine ev_getR (y := 70) rfl rfl fl_X10_42 rfl rfl rfl rfl ?_
                refine ev_iload_n rfl rfl rfl ?_
                refine ev_zalW (n := 12) (l := (-2147483648)) (u := 2147483647) hJ1034.1 b1022 (by decide) (by decide) (fun _ => rfl) rfl rfl rfl (fun v1038 b1038 e1038 => ?_)
                refine ev_if_eq rfl rfl (fun c1039 => ?_) (fun c1039 => ?_)
                · have b1040 : B v1038 0 0 := R_eqX (B.any v1038) (by decide : B 0 0 0) c1039
                  have z1041 := congrArg Int32.toInt c1039
                  rw [show (0 : Int32).toInt = 0 from by decide] at z1041
                  refine ev_iconst (v := 0) rfl rfl (by decide) ?_
                  refine ev_iasG (n := 420) hJ1034 b1037 (by decide) (by decide) (kb_putA (by have z0_ := congrArg Int32.toInt (rd_a k1034 (rd_a k1029 z1009 rfl) rfl); have z1_ := congrArg Int32.toInt (rd_a k1034 (rd_a k1029 z1010 rfl) rfl); have z2_ := congrArg Int32.toInt (rd_a k1034 (rd_a k1029 z1011 rfl) rfl); have z_ := w_lits; have zl_ := l_lits; omega)) (fun _ => rfl) rfl rfl rfl rfl (fun h1043 hJ1043 k1043 => ?_)
                  have kp1044 : KP h1043 v857.toInt f2 f3 := KP.set kp1035 (by have z0_ := congrArg Int32.toInt (rd_a k1043 (rd_a k1034 (rd_a k1029 z1009 rfl) rfl) rfl); have z1_ := congrArg Int32.toInt (rd_a k1043 (rd_a k1034 (rd_a k1029 z1010 rfl) rfl) rfl); have z2_ := congrArg Int32.toInt (rd_a k1043 (rd_a k1034 (rd_a k1029 z1011 rfl) rfl) rfl); have z_ := w_lits; have zl_ := l_lits; omega) k1043 (by have z0_ := congrArg Int32.toInt (rd_a k1043 (rd_a k1034 (rd_a k1029 z1009 rfl) rfl) rfl); have z1_ := congrArg Int32.toInt (rd_a k1043 (rd_a k1034 (rd_a k1029 z1010 rfl) rfl) rfl); have z2_ := congrArg Int32.toInt (rd_a k1043 (rd_a k1034 (rd_a k1029 z1011 rfl) rfl) rfl); have z_ := w_lits; have zl_ := l_lits; omega) (by have z0_ := congrArg Int32.toInt (rd_a k1043 (rd_a k1034 (rd_a k1029 z1009 rfl) rfl) rfl); have z1_ := congrArg Int32.toInt (rd_a k1043 (rd_a k1034 (rd_a k1029 z1010 rfl) rfl) rfl); have z2_ := congrArg Int32.toInt (rd_a k1043 (rd_a k1034 (rd_a k1029 z1011 rfl) rfl) rfl); have z_ := w_lits; have zl_ := l_lits; omega)
                  refine ev_iincB (y := 1) (l := 1) (u := 12) rfl rfl rfl (by decide) rfl rfl b1022 (by decide : B 1 1 1) (by decide) (by decide) (by decide) (by decide) (fun v1045 b1045 e1045 => ?_)
                  dsimp only [List.set]
                  have e1045x := e1045; rw [show (1 : Int32).toInt = 1 from by decide] at e1045x
                  refine ev_goto rfl rfl ?_
                  exact (ih130 v1045 h1043 (b1045.mono (by decide) (by decide)) hJ1043 (rd_a k1043 (rd_a k1034 (rd_a k1029 z1009 rfl) rfl) rfl) (rd_a k1043 (rd_a k1034 (rd_a k1029 z1010 rfl) rfl) rfl) (rd_a k1043 (rd_a k1034 (rd_a k1029 z1011 rfl) rfl) rfl) (rd_a k1043 (rd_a k1034 (rd_a k1029 z1012 rfl) rfl) rfl) (rd_a k1043 (rd_a k1034 (rd_a k1029 z1013 rfl) rfl) rfl) (rd_a k1043 (rd_a k1034 (rd_a k1029 z1014 rfl) rfl) rfl) (rd_a k1043 (rd_a k1034 (rd_a k1029 z1015 rfl) rfl) rfl) kp1044 (L_up hm130 (e_p1 e1045 (by decide))))
                · have z1042 := w_ne c1039
                  rw [show (0 : Int32).toInt = 0 from by decide] at z1042
                  refine ev_iconst (v := 1) rfl rfl (by decide) ?_
                  refine ev_goto rfl rfl ?_
                  refine ev_iasG (n := 420) hJ1034 b1037 (by decide) (by decide) (kb_putA (by have z0_ := congrArg Int32.toInt (rd_a k1034 (rd_a k1029 z1009 rfl) rfl); have z1_ := congrArg Int32.toInt (rd_a k1034 (rd_a k1029 z1010 rfl) rfl); have z2_ := congrArg Int32.toInt (rd_a k1034 (rd_a k1029 z1011 rfl) rfl); have z_ := w_lits; have zl_ := l_lits; omega)) (fun _ => rfl) rfl rfl rfl rfl (fun h1046 hJ1046 k1046 => ?_)
                  have kp1047 : KP h1046 v857.toInt f2 f3 := KP.set kp1035 (by have z0_ := congrArg Int32.toInt (rd_a k1046 (rd_a k1034 (rd_a k1029 z1009 rfl) rfl) rfl); have z1_ := congrArg Int32.toInt (rd_a k1046 (rd_a k1034 (rd_a k1029 z1010 rfl) rfl) rfl); have z2_ := congrArg Int32.toInt (rd_a k1046 (rd_a k1034 (rd_a k1029 z1011 rfl) rfl) rfl); have z_ := w_lits; have zl_ := l_lits; omega) k1046 (by have z0_ := congrArg Int32.toInt (rd_a k1046 (rd_a k1034 (rd_a k1029 z1009 rfl) rfl) rfl); have z1_ := congrArg Int32.toInt (rd_a k1046 (rd_a k1034 (rd_a k1029 z1010 rfl) rfl) rfl); have z2_ := congrArg Int32.toInt (rd_a k1046 (rd_a k1034 (rd_a k1029 z1011 rfl) rfl) rfl); have z_ := w_lits; have zl_ := l_lits; omega) (by have z0_ := congrArg Int32.toInt (rd_a k1046 (rd_a k1034 (rd_a k1029 z1009 rfl) rfl) rfl); have z1_ := congrArg Int32.toInt (rd_a k1046 (rd_a k1034 (rd_a k1029 z1010 rfl) rfl) rfl); have z2_ := congrArg Int32.toInt (rd_a k1046 (rd_a k1034 (rd_a k1029 z1011 rfl) rfl) rfl); have z_ := w_lits; have zl_ := l_lits; omega)
                  refine ev_iincB (y := 1) (l := 1) (u := 12) rfl rfl rfl (by decide) rfl rfl b1022 (by decide : B 1 1 1) (by decide) (by decide) (by decide) (by decide) (fun v1048 b1048 e1048 => ?_)
                  dsimp only [List.set]
                  have e1048x := e1048; rw [show (1 : Int32).toInt = 1 from by decide] at e1048x
                  refine ev_goto rfl rfl ?_
                  exact (ih130 v1048 h1046 (b1048.mono (by decide) (by decide)) hJ1046 (rd_a k1046 (rd_a k1034 (rd_a k1029 z1009 rfl) rfl) rfl) (rd_a k1046 (rd_a k1034 (rd_a k1029 z1010 rfl) rfl) rfl) (rd_a k1046 (rd_a k1034 (rd_a k1029 z1011 rfl) rfl) rfl) (rd_a k1046 (rd_a k1034 (rd_a k1029 z1012 rfl) rfl) rfl) (rd_a k1046 (rd_a k1034 (rd_a k1029 z1013 rfl) rfl) rfl) (rd_a k1046 (rd_a k1034 (rd_a k1029 z1014 rfl) rfl) rfl) (rd_a k1046 (rd_a k1034 (rd_a k1029 z1015 rfl) rfl) rfl) kp1047 (L_up hm130 (e_p1 e1048 (by decide))))
          exact (lp130_1004 13 0 h874 ((by decide : B 0 0 0).mono (by decide) (by decide)) hJ874 (rd_a k874 (rd_a k871 (rd_a k868 (rd_a k866 (rd_a k863 (rd_a k860 (rd_s k858) rfl) rfl) rfl) rfl) rfl) rfl) (rd_a k874 (rd_a k871 (rd_a k868 (rd_a k866 (rd_a k863 (rd_a k860 (rd_o k858 z846 rfl) rfl) rfl) rfl) rfl) rfl) rfl) (rd_a k874 (rd_a k871 (rd_a k868 (rd_a k866 (rd_a k863 (rd_a k860 (rd_o k858 z847 rfl) rfl) rfl) rfl) rfl) rfl) rfl) (rd_a k874 (rd_a k871 (rd_a k868 (rd_a k866 (rd_a k863 e862 rfl) rfl) rfl) rfl) rfl) (rd_a k874 (rd_a k871 (rd_a k868 (rd_a k866 e865 rfl) rfl) rfl) rfl) (rd_a k874 (rd_a k871 e870 rfl) rfl) (rd_a k874 e873 rfl) kp875 (L_init (by decide : B 0 0 0) (by decide)))
        · have b854 : B w841 42 419 := R_ltX b842 (by decide : B 420 420 420) (Int32.not_le.mp c851) (by decide)
          have z855 := w_lt (Int32.not_le.mp c851)
          rw [show (420 : Int32).toInt = 420 from by decide] at z855
          refine ev_aload_n rfl rfl rfl ?_
          refine ev_getR (y := 71) rfl rfl fl_X10_45 rfl rfl rfl rfl ?_
          refine ev_iload_n rfl rfl rfl ?_
          refine ev_bipush (v := 42) rfl rfl (by decide) ?_
          refine ev_isubB (l := 0) (u := 377) rfl rfl b854 (by decide : B 42 42 42) (by decide) (by decide) (by decide) (by decide) (fun v1049 b1049 e1049 g1049 => ?_)
          have e1049x := e1049; rw [show (42 : Int32).toInt = 42 from by decide] at e1049x
          refine ev_aload_n rfl rfl rfl ?_
          refine ev_getR (y := 71) rfl rfl fl_X10_45 rfl rfl rfl rfl ?_
          refine ev_iload_n rfl rfl rfl ?_
          refine ev_ialG (n := 420) hJ844.1 b854 (by decide) (by decide) rfl rfl rfl (fun v1050 b1050 e1050 => ?_)
          refine ev_iasG (n := 420) hJ844 b1049 (by decide) (by decide) (kb_same (by have z0_ := congrArg Int32.toInt z845; have z1_ := congrArg Int32.toInt z846; have z2_ := congrArg Int32.toInt z847; have z_ := w_lits; have zl_ := l_lits; omega) b1050) (fun _ => rfl) rfl rfl rfl rfl (fun h1051 hJ1051 k1051 => ?_)
          refine ev_iincB (y := 1) (l := 43) (u := 420) rfl rfl rfl (by decide) rfl rfl b854 (by decide : B 1 1 1) (by decide) (by decide) (by decide) (by decide) (fun v1052 b1052 e1052 => ?_)
          dsimp only [List.set]
          have e1052x := e1052; rw [show (1 : Int32).toInt = 1 from by decide] at e1052x
          refine ev_goto rfl rfl ?_
          exact (ih12 v1052 h1051 (b1052.mono (by decide) (by decide)) hJ1051 (rd_a k1051 z845 rfl) (rd_a k1051 z846 rfl) (rd_a k1051 z847 rfl) (SH.step u12_0 (by have z0_ := congrArg Int32.toInt (rd_a k1051 z845 rfl); have z1_ := congrArg Int32.toInt (rd_a k1051 z846 rfl); have z2_ := congrArg Int32.toInt (rd_a k1051 z847 rfl); have z_ := w_lits; have zl_ := l_lits; omega) (by have z0_ := congrArg Int32.toInt (rd_a k1051 z845 rfl); have z1_ := congrArg Int32.toInt (rd_a k1051 z846 rfl); have z2_ := congrArg Int32.toInt (rd_a k1051 z847 rfl); have z_ := w_lits; have zl_ := l_lits; omega) e1050 k1051 e1052x) (L_up hm12 (e_p1 e1052 (by decide))))
    exact (lp12_840 379 42 h ((by decide : B 42 42 42).mono (by decide) (by decide)) hJ0 ef1 ef2 ef3 (by rw [show (42 : Int32).toInt = 42 from by decide]; exact SH.start h) (L_init (by decide : B 42 42 42) (by decide)))

set_option maxRecDepth 100000 in
set_option maxHeartbeats 4000000 in
theorem w_X10_undo_63 (L : Nat) (b : Bool) (h : Hp) (hB : Bx h) (rp0 : (h 63 0).toInt ≤ (h 63 3).toInt) (hKS : KS h) : EvI mi_X10_undo [.ref 63] (G0 L b) h (fun (r : Int32) (z : Hp) => B r (-4) 10 ∧ ((z 63 0).toInt ≤ (z 63 3).toInt) ∧ (KS z)) [(63, 0), (63, 1), (63, 2), (63, 3), (63, 4), (63, 13), (68, 999), (69, 999), (70, 999)] := by
  refine EvM.of2 (lo := [some (.ref 63), none, none]) pf_X10_undo ok_X10_undo rfl rfl ?_
  have hJ0 : JW [(63, 0), (63, 1), (63, 2), (63, 3), (63, 4), (63, 13), (68, 999), (69, 999), (70, 999)] h h := JW.refl hB
  obtain ⟨f1, ef1⟩ : ∃ f_, h 63 13 = f_ := ⟨_, rfl⟩
  have bf1 : B f1 0 10 := by have z_ := hJ0.1 63 13; rw [ef1] at z_; exact z_
  have zf1 := congrArg Int32.toInt ef1
  obtain ⟨f2, ef2⟩ : ∃ f_, h 63 0 = f_ := ⟨_, rfl⟩
  have bf2 : B f2 0 200 := by have z_ := hJ0.1 63 0; rw [ef2] at z_; exact z_
  have zf2 := congrArg Int32.toInt ef2
  obtain ⟨f3, ef3⟩ : ∃ f_, h 63 3 = f_ := ⟨_, rfl⟩
  have bf3 : B f3 0 200 := by have z_ := hJ0.1 63 3; rw [ef3] at z_; exact z_
  have zf3 := congrArg Int32.toInt ef3
  refine ev_aload_n rfl rfl rfl ?_
  refine ev_getV (v := f1) rfl rfl fl_X10_128 rfl rfl rfl ef1 ?_
  refine ev_if_ne rfl rfl (fun c4 => ?_) (fun c4 => ?_)
  · have b5 : B f1 1 10 := R_neL bf1 (by decide : B 0 0 0) c4 (by decide)
    have z6 := w_ne c4
    rw [show (0 : Int32).toInt = 0 from by decide] at z6
    refine ev_aload_n rfl rfl rfl ?_
    refine ev_dup rfl rfl rfl ?_
    refine ev_getV (v := f1) rfl rfl fl_X10_128 rfl rfl rfl ef1 ?_
    refine ev_iconst (v := 1) rfl rfl (by decide) ?_
    refine ev_isubB (l := 0) (u := 9) rfl rfl b5 (by decide : B 1 1 1) (by decide) (by decide) (by decide) (by decide) (fun v9 b9 e9 g9 => ?_)
    have e9x := e9; rw [show (1 : Int32).toInt = 1 from by decide] at e9x
    refine ev_putW (l := 0) (u := 10) hJ0 rfl b9 (by decide) (by decide) rfl rfl rfl fl_X10_128 rfl rfl rfl rfl rfl (fun h10 hJ10 k10 => ?_)
    refine ev_bipush (v := 42) rfl rfl (by decide) ?_
    refine ev_aload_n rfl rfl rfl ?_
    refine ev_getV (v := v9) rfl rfl fl_X10_128 rfl rfl rfl (rd_s k10) ?_
    refine ev_imulB (l := 0) (u := 378) rfl rfl (by decide : B 42 42 42) b9 (by decide) (by decide) (by decide) (by decide) (by decide) (fun v11 b11 e11 g11 => ?_)
    rw [show (42 : Int32).toInt = 42 from by decide] at e11
    refine ev_istore_n rfl rfl rfl rfl ?_
    dsimp only [List.set]
    refine ev_aload_n rfl rfl rfl ?_
    refine ev_aload_n rfl rfl rfl ?_
    refine ev_getR (y := 71) rfl rfl fl_X10_45 rfl rfl rfl rfl ?_
    refine ev_iload_n rfl rfl rfl ?_
    refine ev_ialG (n := 420) hJ10.1 b11 (by decide) (by decide) rfl rfl rfl (fun v12 b12 e12 => ?_)
    have b12k : B v12 0 200 := kb_get (c := 0) (by have z0_ := congrArg Int32.toInt (rd_s k10); have z1_ := congrArg Int32.toInt (rd_o k10 ef2 rfl); have z2_ := congrArg Int32.toInt (rd_o k10 ef3 rfl); have z_ := w_lits; have zl_ := l_lits; omega) b12
    refine ev_putW (l := 0) (u := 200) hJ10 rfl b12k (by decide) (by decide) rfl rfl rfl fl_X10_7 rfl rfl rfl rfl rfl (fun h13 hJ13 k13 => ?_)
    refine ev_aload_n rfl rfl rfl ?_
    refine ev_aload_n rfl rfl rfl ?_
    refine ev_getR (y := 71) rfl rfl fl_X10_45 rfl rfl rfl rfl ?_
    refine ev_iload_n rfl rfl rfl ?_
    refine ev_iconst (v := 1) rfl rfl (by decide) ?_
    refine ev_iaddB (l := 1) (u := 379) rfl rfl b11 (by decide : B 1 1 1) (by decide) (by decide) (by decide) (by decide) (fun v14 b14 e14 g14 => ?_)
    have e14x := e14; rw [show (1 : Int32).toInt = 1 from by decide] at e14x
    refine ev_ialG (n := 420) hJ13.1 b14 (by decide) (by decide) rfl rfl rfl (fun v15 b15 e15 => ?_)
    have b15k : B v15 (-2147483648) 2147483647 := kb_get (c := 1) (by have z0_ := congrArg Int32.toInt (rd_o k13 (rd_s k10) rfl); have z1_ := congrArg Int32.toInt (rd_s k13); have z2_ := congrArg Int32.toInt (rd_o k13 (rd_o k10 ef3 rfl) rfl); have z_ := w_lits; have zl_ := l_lits; omega) b15
    refine ev_putW (l := (-2147483648)) (u := 2147483647) hJ13 rfl (B.any v15) (by decide) (by decide) rfl rfl rfl fl_X10_13 rfl rfl rfl rfl rfl (fun h16 hJ16 k16 => ?_)
    refine ev_aload_n rfl rfl rfl ?_
    refine ev_aload_n rfl rfl rfl ?_
    refine ev_getR (y := 71) rfl rfl fl_X10_45 rfl rfl rfl rfl ?_
    refine ev_iload_n rfl rfl rfl ?_
    refine ev_iconst (v := 2) rfl rfl (by decide) ?_
    refine ev_iaddB (l := 2) (u := 380) rfl rfl b11 (by decide : B 2 2 2) (by decide) (by decide) (by decide) (by decide) (fun v17 b17 e17 g17 => ?_)
    have e17x := e17; rw [show (2 : Int32).toInt = 2 from by decide] at e17x
    refine ev_ialG (n := 420) hJ16.1 b17 (by decide) (by decide) rfl rfl rfl (fun v18 b18 e18 => ?_)
    have b18k : B v18 (-2147483648) 2147483647 := kb_get (c := 2) (by have z0_ := congrArg Int32.toInt (rd_o k16 (rd_o k13 (rd_s k10) rfl) rfl); have z1_ := congrArg Int32.toInt (rd_o k16 (rd_s k13) rfl); have z2_ := congrArg Int32.toInt (rd_o k16 (rd_o k13 (rd_o k10 ef3 rfl) rfl) rfl); have z_ := w_lits; have zl_ := l_lits; omega) b18
    refine ev_putW (l := (-2147483648)) (u := 2147483647) hJ16 rfl (B.any v18) (by decide) (by decide) rfl rfl rfl fl_X10_16 rfl rfl rfl rfl rfl (fun h19 hJ19 k19 => ?_)
    refine ev_aload_n rfl rfl rfl ?_
    refine ev_aload_n rfl rfl rfl ?_
    refine ev_getR (y := 71) rfl rfl fl_X10_45 rfl rfl rfl rfl ?_
    refine ev_iload_n rfl rfl rfl ?_
    refine ev_iconst (v := 3) rfl rfl (by decide) ?_
    refine ev_iaddB (l := 3) (u := 381) rfl rfl b11 (by decide : B 3 3 3) (by decide) (by decide) (by decide) (by decide) (fun v20 b20 e20 g20 => ?_)
    have e20x := e20; rw [show (3 : Int32).toInt = 3 from by decide] at e20x
    refine ev_ialG (n := 420) hJ19.1 b20 (by decide) (by decide) rfl rfl rfl (fun v21 b21 e21 => ?_)
    have b21k : B v21 0 200 := kb_get (c := 3) (by have z0_ := congrArg Int32.toInt (rd_o k19 (rd_o k16 (rd_o k13 (rd_s k10) rfl) rfl) rfl); have z1_ := congrArg Int32.toInt (rd_o k19 (rd_o k16 (rd_s k13) rfl) rfl); have z2_ := congrArg Int32.toInt (rd_o k19 (rd_o k16 (rd_o k13 (rd_o k10 ef3 rfl) rfl) rfl) rfl); have z_ := w_lits; have zl_ := l_lits; omega) b21
    have z22 : v12.toInt ≤ v21.toInt := KS.two (n := v9) hKS (by have z0_ := congrArg Int32.toInt (rd_o k19 (rd_o k16 (rd_o k13 (rd_s k10) rfl) rfl) rfl); have z1_ := congrArg Int32.toInt (rd_o k19 (rd_o k16 (rd_s k13) rfl) rfl); have z2_ := congrArg Int32.toInt (rd_o k19 (rd_o k16 (rd_o k13 (rd_o k10 ef3 rfl) rfl) rfl) rfl); have z_ := w_lits; have zl_ := l_lits; omega) (by have z0_ := congrArg Int32.toInt (rd_o k19 (rd_o k16 (rd_o k13 (rd_s k10) rfl) rfl) rfl); have z1_ := congrArg Int32.toInt (rd_o k19 (rd_o k16 (rd_s k13) rfl) rfl); have z2_ := congrArg Int32.toInt (rd_o k19 (rd_o k16 (rd_o k13 (rd_o k10 ef3 rfl) rfl) rfl) rfl); have z_ := w_lits; have zl_ := l_lits; omega) (by have z0_ := congrArg Int32.toInt (rd_o k19 (rd_o k16 (rd_o k13 (rd_s k10) rfl) rfl) rfl); have z1_ := congrArg Int32.toInt (rd_o k19 (rd_o k16 (rd_s k13) rfl) rfl); have z2_ := congrArg Int32.toInt (rd_o k19 (rd_o k16 (rd_o k13 (rd_o k10 ef3 rfl) rfl) rfl) rfl); have z_ := w_lits; have zl_ := l_lits; omega) (by have z0_ := congrArg Int32.toInt (rd_o k19 (rd_o k16 (rd_o k13 (rd_s k10) rfl) rfl) rfl); have z1_ := congrArg Int32.toInt (rd_o k19 (rd_o k16 (rd_s k13) rfl) rfl); have z2_ := congrArg Int32.toInt (rd_o k19 (rd_o k16 (rd_o k13 (rd_o k10 ef3 rfl) rfl) rfl) rfl); have z_ := w_lits; have zl_ := l_lits; omega) e12 (hJ10.2 71 _ rfl) e21 (hJ19.2 71 _ rfl)
    refine ev_putW (l := 0) (u := 200) hJ19 rfl b21k (by decide) (by decide) rfl rfl rfl fl_X10_19 rfl rfl rfl rfl rfl (fun h23 hJ23 k23 => ?_)
    refine ev_aload_n rfl rfl rfl ?_
    refine ev_aload_n rfl rfl rfl ?_
    refine ev_getR (y := 71) rfl rfl fl_X10_45 rfl rfl rfl rfl ?_
    refine ev_iload_n rfl rfl rfl ?_
    refine ev_iconst (v := 4) rfl rfl (by decide) ?_
    refine ev_iaddB (l := 4) (u := 382) rfl rfl b11 (by decide : B 4 4 4) (by decide) (by decide) (by decide) (by decide) (fun v24 b24 e24 g24 => ?_)
    have e24x := e24; rw [show (4 : Int32).toInt = 4 from by decide] at e24x
    refine ev_ialG (n := 420) hJ23.1 b24 (by decide) (by decide) rfl rfl rfl (fun v25 b25 e25 => ?_)
    have b25k : B v25 (-2147483648) 2147483647 := kb_get (c := 4) (by have z0_ := congrArg Int32.toInt (rd_o k23 (rd_o k19 (rd_o k16 (rd_o k13 (rd_s k10) rfl) rfl) rfl) rfl); have z1_ := congrArg Int32.toInt (rd_o k23 (rd_o k19 (rd_o k16 (rd_s k13) rfl) rfl) rfl); have z2_ := congrArg Int32.toInt (rd_s k23); have z_ := w_lits; have zl_ := l_lits; omega) b25
    refine ev_putW (l := (-2147483648)) (u := 2147483647) hJ23 rfl (B.any v25) (by decide) (by decide) rfl rfl rfl fl_X10_131 rfl rfl rfl rfl rfl (fun h26 hJ26 k26 => ?_)
    refine ev_iconst (v := 0) rfl rfl (by decide) ?_
    refine ev_istore_n rfl rfl rfl rfl ?_
    dsimp only [List.set]
    have lp88_165 : ∀ (n : Nat) (w166 : Int32) (h168 : Hp), B w166 0 12 → JW [(63, 0), (63, 1), (63, 2), (63, 3), (63, 4), (63, 13), (68, 999), (69, 999), (70, 999)] h h168 → (h168 63 13 = v9) → (h168 63 0 = v12) → (h168 63 3 = v21) → (h168 63 1 = v15) → (h168 63 2 = v18) → (h168 63 4 = v25) → (KS h168) → 12 + 1 - w166.toInt ≤ (n : Int) → EvQ mi_X10_undo 88 [some (.ref 63), some (.int v11), some (.int w166)] [] (G0 L b) h168 0 0 (QI (fun (r : Int32) (z : Hp) => B r (-4) 10 ∧ ((z 63 0).toInt ≤ (z 63 3).toInt) ∧ (KS z)) [(63, 0), (63, 1), (63, 2), (63, 3), (63, 4), (63, 13), (68, 999), (69, 999), (70, 999)] (G0 L b) h) := by
      intro n
      induction n with
      | zero =>
        intro w166 h168 b167 hJ169 z170 z171 z172 z173 z174 z175 ks88 hm88
        exact absurd hm88 (L_zero b167 (by decide))
      | succ n ih88 =>
        intro w166 h168 b167 hJ169 z170 z171 z172 z173 z174 z175 ks88 hm88
        have z176 := congrArg Int32.toInt z170
        have z177 := congrArg Int32.toInt z171
        have z178 := congrArg Int32.toInt z172
        refine ev_iload_n rfl rfl rfl ?_
        refine ev_aload_n rfl rfl rfl ?_
        refine ev_getR (y := 71) rfl rfl fl_X10_45 rfl rfl rfl rfl ?_
        refine ev_iload_n rfl rfl rfl ?_
        refine ev_iconst (v := 5) rfl rfl (by decide) ?_
        refine ev_iaddB (l := 5) (u := 383) rfl rfl b11 (by decide : B 5 5 5) (by decide) (by decide) (by decide) (by decide) (fun v179 b179 e179 g179 => ?_)
        have e179x := e179; rw [show (5 : Int32).toInt = 5 from by decide] at e179x
        refine ev_ialG (n := 420) hJ169.1 b179 (by decide) (by decide) rfl rfl rfl (fun v180 b180 e180 => ?_)
        have b180k : B v180 0 12 := kb_get (c := 5) (by have z0_ := congrArg Int32.toInt z170; have z1_ := congrArg Int32.toInt z171; have z2_ := congrArg Int32.toInt z172; have z_ := w_lits; have zl_ := l_lits; omega) b180
        refine ev_icmp_ge rfl rfl (fun c181 => ?_) (fun c181 => ?_)
        · have z182 := w_le c181
          refine ev_aload_n rfl rfl rfl ?_
          refine ev_getV (v := v9) rfl rfl fl_X10_128 rfl rfl rfl z170 ?_
          exact ev_iret rfl rfl rfl ⟨⟨_, rfl, ⟨(b9.mono (by decide) (by decide)), (by have z0_ := congrArg Int32.toInt z171; have z1_ := congrArg Int32.toInt z172; have z_ := w_lits; have zl_ := l_lits; omega), ks88⟩⟩, rfl, hJ169⟩
        · have b183 : B w166 0 11 := R_ltX b167 b180k (Int32.not_le.mp c181) (by decide)
          have b184 : B v180 1 12 := R_ltY b167 b180k (Int32.not_le.mp c181) (by decide)
          have z185 := w_lt (Int32.not_le.mp c181)
          refine ev_aload_n rfl rfl rfl ?_
          refine ev_getR (y := 68) rfl rfl fl_X10_36 rfl rfl rfl rfl ?_
          refine ev_iload_n rfl rfl rfl ?_
          refine ev_aload_n rfl rfl rfl ?_
          refine ev_getR (y := 71) rfl rfl fl_X10_45 rfl rfl rfl rfl ?_
          refine ev_iload_n rfl rfl rfl ?_
          refine ev_bipush (v := 6) rfl rfl (by decide) ?_
          refine ev_iaddB (l := 6) (u := 384) rfl rfl b11 (by decide : B 6 6 6) (by decide) (by decide) (by decide) (by decide) (fun v186 b186 e186 g186 => ?_)
          have e186x := e186; rw [show (6 : Int32).toInt = 6 from by decide] at e186x
          refine ev_iload_n rfl rfl rfl ?_
          refine ev_iaddB (l := 6) (u := 395) rfl rfl b186 b183 (by decide) (by decide) (by decide) (by decide) (fun v187 b187 e187 g187 => ?_)
          refine ev_ialG (n := 420) hJ169.1 b187 (by decide) (by decide) rfl rfl rfl (fun v188 b188 e188 => ?_)
          refine ev_iasW (n := 12) (l := (-2147483648)) (u := 2147483647) hJ169 b183 (by decide) (by decide) (fun _ => rfl) (B.any v188) (by decide) (by decide) (fun _ => rfl) rfl rfl rfl rfl (fun h189 hJ189 k189 => ?_)
          refine ev_aload_n rfl rfl rfl ?_
          refine ev_getR (y := 69) rfl rfl fl_X10_39 rfl rfl rfl rfl ?_
          refine ev_iload_n rfl rfl rfl ?_
          refine ev_aload_n rfl rfl rfl ?_
          refine ev_getR (y := 71) rfl rfl fl_X10_45 rfl rfl rfl rfl ?_
          refine ev_iload_n rfl rfl rfl ?_
          refine ev_bipush (v := 18) rfl rfl (by decide) ?_
          refine ev_iaddB (l := 18) (u := 396) rfl rfl b11 (by decide : B 18 18 18) (by decide) (by decide) (by decide) (by decide) (fun v190 b190 e190 g190 => ?_)
          have e190x := e190; rw [show (18 : Int32).toInt = 18 from by decide] at e190x
          refine ev_iload_n rfl rfl rfl ?_
          refine ev_iaddB (l := 18) (u := 407) rfl rfl b190 b183 (by decide) (by decide) (by decide) (by decide) (fun v191 b191 e191 g191 => ?_)
          refine ev_ialG (n := 420) hJ189.1 b191 (by decide) (by decide) rfl rfl rfl (fun v192 b192 e192 => ?_)
          refine ev_iasW (n := 12) (l := (-2147483648)) (u := 2147483647) hJ189 b183 (by decide) (by decide) (fun _ => rfl) (B.any v192) (by decide) (by decide) (fun _ => rfl) rfl rfl rfl rfl (fun h193 hJ193 k193 => ?_)
          refine ev_aload_n rfl rfl rfl ?_
          refine ev_getR (y := 70) rfl rfl fl_X10_42 rfl rfl rfl rfl ?_
          refine ev_iload_n rfl rfl rfl ?_
          refine ev_aload_n rfl rfl rfl ?_
          refine ev_getR (y := 71) rfl rfl fl_X10_45 rfl rfl rfl rfl ?_
          refine ev_iload_n rfl rfl rfl ?_
          refine ev_bipush (v := 30) rfl rfl (by decide) ?_
          refine ev_iaddB (l := 30) (u := 408) rfl rfl b11 (by decide : B 30 30 30) (by decide) (by decide) (by decide) (by decide) (fun v194 b194 e194 g194 => ?_)
          have e194x := e194; rw [show (30 : Int32).toInt = 30 from by decide] at e194x
          refine ev_iload_n rfl rfl rfl ?_
          refine ev_iaddB (l := 30) (u := 419) rfl rfl b194 b183 (by decide) (by decide) (by decide) (by decide) (fun v195 b195 e195 g195 => ?_)
          refine ev_ialG (n := 420) hJ193.1 b195 (by decide) (by decide) rfl rfl rfl (fun v196 b196 e196 => ?_)
          refine ev_iconst (v := 1) rfl rfl (by decide) ?_
          refine ev_icmp_ne rfl rfl (fun c197 => ?_) (fun c197 => ?_)
          · have z198 := w_ne c197
            rw [show (1 : Int32).toInt = 1 from by decide] at z198
            refine ev_iconst (v := 0) rfl rfl (by decide) ?_
            refine ev_zasW (n := 12) (l := (-2147483648)) (u := 2147483647) hJ193 b183 (by decide) (by decide) (fun _ => rfl) ((by decide : B 0 0 0).mono (by decide) (by decide)) (by decide) (by decide) (fun _ => rfl) rfl rfl rfl rfl (fun h201 hJ201 k201 => ?_)
            refine ev_iincB (y := 1) (l := 1) (u := 12) rfl rfl rfl (by decide) rfl rfl b183 (by decide : B 1 1 1) (by decide) (by decide) (by decide) (by decide) (fun v202 b202 e202 => ?_)
            dsimp only [List.set]
            have e202x := e202; rw [show (1 : Int32).toInt = 1 from by decide] at e202x
            refine ev_goto rfl rfl ?_
            exact (ih88 v202 h201 (b202.mono (by decide) (by decide)) hJ201 (rd_a k201 (rd_a k193 (rd_a k189 z170 rfl) rfl) rfl) (rd_a k201 (rd_a k193 (rd_a k189 z171 rfl) rfl) rfl) (rd_a k201 (rd_a k193 (rd_a k189 z172 rfl) rfl) rfl) (rd_a k201 (rd_a k193 (rd_a k189 z173 rfl) rfl) rfl) (rd_a k201 (rd_a k193 (rd_a k189 z174 rfl) rfl) rfl) (rd_a k201 (rd_a k193 (rd_a k189 z175 rfl) rfl) rfl) (KS.set (KS.set (KS.set ks88 k189 rfl) k193 rfl) k201 rfl) (L_up hm88 (e_p1 e202 (by decide))))
          · have b199 : B v196 1 1 := R_eqX (B.any v196) (by decide : B 1 1 1) c197
            have z200 := congrArg Int32.toInt c197
            rw [show (1 : Int32).toInt = 1 from by decide] at z200
            refine ev_iconst (v := 1) rfl rfl (by decide) ?_
            refine ev_goto rfl rfl ?_
            refine ev_zasW (n := 12) (l := (-2147483648)) (u := 2147483647) hJ193 b183 (by decide) (by decide) (fun _ => rfl) ((by decide : B 1 1 1).mono (by decide) (by decide)) (by decide) (by decide) (fun _ => rfl) rfl rfl rfl rfl (fun h203 hJ203 k203 => ?_)
            refine ev_iincB (y := 1) (l := 1) (u := 12) rfl rfl rfl (by decide) rfl rfl b183 (by decide : B 1 1 1) (by decide) (by decide) (by decide) (by decide) (fun v204 b204 e204 => ?_)
            dsimp only [List.set]
            have e204x := e204; rw [show (1 : Int32).toInt = 1 from by decide] at e204x
            refine ev_goto rfl rfl ?_
            exact (ih88 v204 h203 (b204.mono (by decide) (by decide)) hJ203 (rd_a k203 (rd_a k193 (rd_a k189 z170 rfl) rfl) rfl) (rd_a k203 (rd_a k193 (rd_a k189 z171 rfl) rfl) rfl) (rd_a k203 (rd_a k193 (rd_a k189 z172 rfl) rfl) rfl) (rd_a k203 (rd_a k193 (rd_a k189 z173 rfl) rfl) rfl) (rd_a k203 (rd_a k193 (rd_a k189 z174 rfl) rfl) rfl) (rd_a k203 (rd_a k193 (rd_a k189 z175 rfl) rfl) rfl) (KS.set (KS.set (KS.set ks88 k189 rfl) k193 rfl) k203 rfl) (L_up hm88 (e_p1 e204 (by decide))))
    exact (lp88_165 13 0 h26 ((by decide : B 0 0 0).mono (by decide) (by decide)) hJ26 (rd_o k26 (rd_o k23 (rd_o k19 (rd_o k16 (rd_o k13 (rd_s k10) rfl) rfl) rfl) rfl) rfl) (rd_o k26 (rd_o k23 (rd_o k19 (rd_o k16 (rd_s k13) rfl) rfl) rfl) rfl) (rd_o k26 (rd_s k23) rfl) (rd_o k26 (rd_o k23 (rd_o k19 (rd_s k16) rfl) rfl) rfl) (rd_o k26 (rd_o k23 (rd_s k19) rfl) rfl) (rd_s k26) (KS.set (KS.set (KS.set (KS.set (KS.set (KS.set hKS k10 rfl) k13 rfl) k16 rfl) k19 rfl) k23 rfl) k26 rfl) (L_init (by decide : B 0 0 0) (by decide)))
  · have b7 : B f1 0 0 := R_eqX bf1 (by decide : B 0 0 0) c4
    have z8 := congrArg Int32.toInt c4
    rw [show (0 : Int32).toInt = 0 from by decide] at z8
    refine ev_bipush (v := (-4)) rfl rfl (by decide) ?_
    exact ev_iret rfl rfl rfl ⟨⟨_, rfl, ⟨((by decide : B (-4) (-4) (-4)).mono (by decide) (by decide)), (by have z0_ := congrArg Int32.toInt ef2; have z1_ := congrArg Int32.toInt ef3; have z_ := w_lits; have zl_ := l_lits; omega), hKS⟩⟩, rfl, hJ0⟩

set_option maxRecDepth 100000 in
set_option maxHeartbeats 4000000 in
theorem w_X10_goes_63 (L : Nat) (b : Bool) (h : Hp) (hB : Bx h) (a0 : Int32) (rp0 : (h 63 0).toInt ≤ (h 63 3).toInt) : EvI mi_X10_goes [.ref 63, .int a0] (G0 L b) h (fun (r : Int32) (z : Hp) => B r (-5) 2147483647 ∧ ((z 63 0).toInt ≤ (z 63 3).toInt)) [(63, 0), (63, 1), (63, 4)] := by
  refine EvM.of2 (lo := [some (.ref 63), some (.int a0), none, none]) pf_X10_goes ok_X10_goes rfl rfl ?_
  have hJ0 : JW [(63, 0), (63, 1), (63, 4)] h h := JW.refl hB
  obtain ⟨f1, ef1⟩ : ∃ f_, h 63 0 = f_ := ⟨_, rfl⟩
  have bf1 : B f1 0 200 := by have z_ := hJ0.1 63 0; rw [ef1] at z_; exact z_
  have zf1 := congrArg Int32.toInt ef1
  obtain ⟨f2, ef2⟩ : ∃ f_, h 63 3 = f_ := ⟨_, rfl⟩
  have bf2 : B f2 0 200 := by have z_ := hJ0.1 63 3; rw [ef2] at z_; exact z_
  have zf2 := congrArg Int32.toInt ef2
  refine ev_aload_n rfl rfl rfl ?_
  refine ev_iload_n rfl rfl rfl ?_
  refine ev_V1P rfl rfl lk_X10_145 vt_X10_drawn rfl rfl rfl rfl rfl (w_X10_drawn_63 L b h hJ0.1 a0) (fun r3 q3 => ?_)
  refine ev_istore_n rfl rfl rfl rfl ?_
  dsimp only [List.set]
  refine ev_iload_n rfl rfl rfl ?_
  refine ev_aload_n rfl rfl rfl ?_
  refine ev_getW (l := (-2147483648)) (u := 2147483647) hJ0.1 rfl rfl rfl fl_X10_13 rfl rfl rfl (fun v4 b4 e4 => ?_)
  refine ev_icmp_le rfl rfl (fun c5 => ?_) (fun c5 => ?_)
  · have z6 := w_le c5
    refine ev_aload_n rfl rfl rfl ?_
    refine ev_iload_n rfl rfl rfl ?_
    refine ev_aload_n rfl rfl rfl ?_
    refine ev_getV (v := f1) rfl rfl fl_X10_7 rfl rfl rfl ef1 ?_
    refine ev_V2P rfl rfl lk_X10_159 vt_X10_strayOf rfl rfl rfl rfl rfl (w_X10_strayOf_63 L b h hJ0.1 a0 f1) (fun r10 q10 => ?_)
    refine ev_istore_n rfl rfl rfl rfl ?_
    dsimp only [List.set]
    refine ev_aload_n rfl rfl rfl ?_
    refine ev_dup rfl rfl rfl ?_
    refine ev_getV (v := v4) rfl rfl fl_X10_13 rfl rfl rfl e4 ?_
    refine ev_iload_n rfl rfl rfl ?_
    refine ev_isubA rfl rfl (fun v11 g11 => ?_)
    refine ev_putW (l := (-2147483648)) (u := 2147483647) hJ0 rfl (B.any v11) (by decide) (by decide) rfl rfl rfl fl_X10_13 rfl rfl rfl rfl rfl (fun h12 hJ12 k12 => ?_)
    refine ev_aload_n rfl rfl rfl ?_
    refine ev_dup rfl rfl rfl ?_
    refine ev_getV (v := f1) rfl rfl fl_X10_7 rfl rfl rfl (rd_o k12 ef1 rfl) ?_
    refine ev_aload_n rfl rfl rfl ?_
    refine ev_getV (v := v11) rfl rfl fl_X10_13 rfl rfl rfl (rd_s k12) ?_
    refine ev_if_le rfl rfl (fun c13 => ?_) (fun c13 => ?_)
    · have b14 : B v11 (-2147483648) 0 := R_leX (B.any v11) (by decide : B 0 0 0) c13 (by decide)
      have z15 := w_le c13
      rw [show (0 : Int32).toInt = 0 from by decide] at z15
      refine ev_iconst (v := 0) rfl rfl (by decide) ?_
      refine ev_iload_n rfl rfl rfl ?_
      refine ev_isubA rfl rfl (fun v18 g18 => ?_)
      refine ev_iaddA rfl rfl (fun v19 g19 => ?_)
      refine ev_putI rfl rfl fl_X10_7 rfl rfl rfl rfl rfl ?_
      obtain ⟨h20, k20⟩ : ∃ z_, z_ = ev_set h12 63 0 v19 := ⟨_, rfl⟩
      rw [← k20]
      have hP20 := JP.start hJ12 rfl k20
      refine ev_aload_n rfl rfl rfl ?_
      refine ev_aload_n rfl rfl rfl ?_
      refine ev_getV (v := v19) rfl rfl fl_X10_7 rfl rfl rfl (rd_s k20) ?_
      refine ev_if_ge rfl rfl (fun c21 => ?_) (fun c21 => ?_)
      · have b22 : B v19 0 2147483647 := R_leY (by decide : B 0 0 0) (B.any v19) c21 (by decide)
        have z23 := w_le c21
        rw [show (0 : Int32).toInt = 0 from by decide] at z23
        refine ev_aload_n rfl rfl rfl ?_
        refine ev_getV (v := v19) rfl rfl fl_X10_7 rfl rfl rfl (rd_s k20) ?_
        refine ev_putI rfl rfl fl_X10_7 rfl rfl rfl rfl rfl ?_
        obtain ⟨h26, k26⟩ : ∃ z_, z_ = ev_set h20 63 0 v19 := ⟨_, rfl⟩
        rw [← k26]
        have hP26 := JP.again hP20 k26
        refine ev_aload_n rfl rfl rfl ?_
        refine ev_getV (v := v19) rfl rfl fl_X10_7 rfl rfl rfl (rd_s k26) ?_
        refine ev_aload_n rfl rfl rfl ?_
        refine ev_getV (v := f2) rfl rfl fl_X10_19 rfl rfl rfl (rd_o k26 (rd_o k20 (rd_o k12 ef2 rfl) rfl) rfl) ?_
        refine ev_icmp_le rfl rfl (fun c27 => ?_) (fun c27 => ?_)
        · have b28 : B v19 0 200 := R_leX b22 bf2 c27 (by decide)
          have z29 := w_le c27
          have hJ32 := JP.rest hP26 (rd_s k26) b28
          refine ev_iload_n rfl rfl rfl ?_
          exact ev_iret rfl rfl rfl ⟨⟨_, rfl, ⟨(q10.mono (by decide) (by decide)), (by have z0_ := congrArg Int32.toInt (rd_s k26); have z1_ := congrArg Int32.toInt (rd_o k26 (rd_o k20 (rd_o k12 ef2 rfl) rfl) rfl); have z_ := w_lits; have zl_ := l_lits; omega)⟩⟩, rfl, hJ32⟩
        · have b30 : B v19 1 2147483647 := R_ltY bf2 b22 (Int32.not_le.mp c27) (by decide)
          have z31 := w_lt (Int32.not_le.mp c27)
          refine ev_aload_n rfl rfl rfl ?_
          refine ev_aload_n rfl rfl rfl ?_
          refine ev_getV (v := v11) rfl rfl fl_X10_13 rfl rfl rfl (rd_o k26 (rd_o k20 (rd_s k12) rfl) rfl) ?_
          refine ev_aload_n rfl rfl rfl ?_
          refine ev_getV (v := v19) rfl rfl fl_X10_7 rfl rfl rfl (rd_s k26) ?_
          refine ev_aload_n rfl rfl rfl ?_
          refine ev_getV (v := f2) rfl rfl fl_X10_19 rfl rfl rfl (rd_o k26 (rd_o k20 (rd_o k12 ef2 rfl) rfl) rfl) ?_
          refine ev_isubB (l := -199) (u := 2147483647) rfl rfl b30 bf2 (by decide) (by decide) (by decide) (by decide) (fun v33 b33 e33 g33 => ?_)
          refine ev_icmp_ge rfl rfl (fun c34 => ?_) (fun c34 => ?_)
          · have b35 : B v11 (-199) 0 := R_leY b33 b14 c34 (by decide)
            have b36 : B v33 (-199) 0 := R_leX b33 b14 c34 (by decide)
            have z37 := w_le c34
            refine ev_aload_n rfl rfl rfl ?_
            refine ev_getV (v := v11) rfl rfl fl_X10_13 rfl rfl rfl (rd_o k26 (rd_o k20 (rd_s k12) rfl) rfl) ?_
            refine ev_aload_n rfl rfl rfl ?_
            refine ev_getV (v := v19) rfl rfl fl_X10_7 rfl rfl rfl (rd_s k26) ?_
            refine ev_aload_n rfl rfl rfl ?_
            refine ev_getV (v := f2) rfl rfl fl_X10_19 rfl rfl rfl (rd_o k26 (rd_o k20 (rd_o k12 ef2 rfl) rfl) rfl) ?_
            refine ev_isubV g33 rfl rfl ?_
            refine ev_isubB (l := -199) (u := 199) rfl rfl b35 b36 (by decide) (by decide) (by decide) (by decide) (fun v39 b39 e39 g39 => ?_)
            refine ev_putI rfl rfl fl_X10_13 rfl rfl rfl rfl rfl ?_
            obtain ⟨h40, k40⟩ : ∃ z_, z_ = ev_set h26 63 1 v39 := ⟨_, rfl⟩
            rw [← k40]
            have hP40 := JP.put hP26 rfl rfl (b39.mono (by decide) (by decide)) k40
            refine ev_aload_n rfl rfl rfl ?_
            refine ev_aload_n rfl rfl rfl ?_
            refine ev_getV (v := f2) rfl rfl fl_X10_19 rfl rfl rfl (rd_o k40 (rd_o k26 (rd_o k20 (rd_o k12 ef2 rfl) rfl) rfl) rfl) ?_
            refine ev_putI rfl rfl fl_X10_7 rfl rfl rfl rfl rfl ?_
            obtain ⟨h41, k41⟩ : ∃ z_, z_ = ev_set h40 63 0 f2 := ⟨_, rfl⟩
            rw [← k41]
            have hJ41 := JP.fix hP40 bf2 k41
            refine ev_aload_n rfl rfl rfl ?_
            refine ev_dup rfl rfl rfl ?_
            refine ev_getW (l := (-2147483648)) (u := 2147483647) hJ41.1 rfl rfl rfl fl_X10_131 rfl rfl rfl (fun v42 b42 e42 => ?_)
            refine ev_iconst (v := 1) rfl rfl (by decide) ?_
            refine ev_iaddA rfl rfl (fun v43 g43 => ?_)
            refine ev_putW (l := (-2147483648)) (u := 2147483647) hJ41 rfl (B.any v43) (by decide) (by decide) rfl rfl rfl fl_X10_131 rfl rfl rfl rfl rfl (fun h44 hJ44 k44 => ?_)
            refine ev_iload_n rfl rfl rfl ?_
            exact ev_iret rfl rfl rfl ⟨⟨_, rfl, ⟨(q10.mono (by decide) (by decide)), (by have z0_ := congrArg Int32.toInt (rd_o k44 (rd_s k41) rfl); have z1_ := congrArg Int32.toInt (rd_o k44 (rd_o k41 (rd_o k40 (rd_o k26 (rd_o k20 (rd_o k12 ef2 rfl) rfl) rfl) rfl) rfl) rfl); have z_ := w_lits; have zl_ := l_lits; omega)⟩⟩, rfl, hJ44⟩
          · have z38 := w_lt (Int32.not_le.mp c34)
            refine ev_iconst (v := 0) rfl rfl (by decide) ?_
            refine ev_goto rfl rfl ?_
            refine ev_putI rfl rfl fl_X10_13 rfl rfl rfl rfl rfl ?_
            obtain ⟨h45, k45⟩ : ∃ z_, z_ = ev_set h26 63 1 0 := ⟨_, rfl⟩
            rw [← k45]
            have hP45 := JP.put hP26 rfl rfl ((by decide : B 0 0 0).mono (by decide) (by decide)) k45
            refine ev_aload_n rfl rfl rfl ?_
            refine ev_aload_n rfl rfl rfl ?_
            refine ev_getV (v := f2) rfl rfl fl_X10_19 rfl rfl rfl (rd_o k45 (rd_o k26 (rd_o k20 (rd_o k12 ef2 rfl) rfl) rfl) rfl) ?_
            refine ev_putI rfl rfl fl_X10_7 rfl rfl rfl rfl rfl ?_
            obtain ⟨h46, k46⟩ : ∃ z_, z_ = ev_set h45 63 0 f2 := ⟨_, rfl⟩
            rw [← k46]
            have hJ46 := JP.fix hP45 bf2 k46
            refine ev_aload_n rfl rfl rfl ?_
            refine ev_dup rfl rfl rfl ?_
            refine ev_getW (l := (-2147483648)) (u := 2147483647) hJ46.1 rfl rfl rfl fl_X10_131 rfl rfl rfl (fun v47 b47 e47 => ?_)
            refine ev_iconst (v := 1) rfl rfl (by decide) ?_
            refine ev_iaddA rfl rfl (fun v48 g48 => ?_)
            refine ev_putW (l := (-2147483648)) (u := 2147483647) hJ46 rfl (B.any v48) (by decide) (by decide) rfl rfl rfl fl_X10_131 rfl rfl rfl rfl rfl (fun h49 hJ49 k49 => ?_)
            refine ev_iload_n rfl rfl rfl ?_
            exact ev_iret rfl rfl rfl ⟨⟨_, rfl, ⟨(q10.mono (by decide) (by decide)), (by have z0_ := congrArg Int32.toInt (rd_o k49 (rd_s k46) rfl); have z1_ := congrArg Int32.toInt (rd_o k49 (rd_o k46 (rd_o k45 (rd_o k26 (rd_o k20 (rd_o k12 ef2 rfl) rfl) rfl) rfl) rfl) rfl); have z_ := w_lits; have zl_ := l_lits; omega)⟩⟩, rfl, hJ49⟩
      · have b24 : B v19 (-2147483648) (-1) := R_ltX (B.any v19) (by decide : B 0 0 0) (Int32.not_le.mp c21) (by decide)
        have z25 := w_lt (Int32.not_le.mp c21)
        rw [show (0 : Int32).toInt = 0 from by decide] at z25
        refine ev_iconst (v := 0) rfl rfl (by decide) ?_
        refine ev_goto rfl rfl ?_
        refine ev_putI rfl rfl fl_X10_7 rfl rfl rfl rfl rfl ?_
        obtain ⟨h50, k50⟩ : ∃ z_, z_ = ev_set h20 63 0 0 := ⟨_, rfl⟩
        rw [← k50]
        have hJ50 := JP.fix hP20 ((by decide : B 0 0 0).mono (by decide) (by decide)) k50
        refine ev_aload_n rfl rfl rfl ?_
        refine ev_getV (v := 0) rfl rfl fl_X10_7 rfl rfl rfl (rd_s k50) ?_
        refine ev_aload_n rfl rfl rfl ?_
        refine ev_getV (v := f2) rfl rfl fl_X10_19 rfl rfl rfl (rd_o k50 (rd_o k20 (rd_o k12 ef2 rfl) rfl) rfl) ?_
        refine ev_icmp_le rfl rfl (fun c51 => ?_) (fun c51 => absurd (D_le (by decide : B 0 0 0) bf2 (by decide)) c51)
        have z52 := w_le c51
        rw [show (0 : Int32).toInt = 0 from by decide] at z52
        refine ev_iload_n rfl rfl rfl ?_
        exact ev_iret rfl rfl rfl ⟨⟨_, rfl, ⟨(q10.mono (by decide) (by decide)), (by have z0_ := congrArg Int32.toInt (rd_s k50); have z1_ := congrArg Int32.toInt (rd_o k50 (rd_o k20 (rd_o k12 ef2 rfl) rfl) rfl); have z_ := w_lits; have zl_ := l_lits; omega)⟩⟩, rfl, hJ50⟩
    · have b16 : B v11 1 2147483647 := R_ltY (by decide : B 0 0 0) (B.any v11) (Int32.not_le.mp c13) (by decide)
      have z17 := w_lt (Int32.not_le.mp c13)
      rw [show (0 : Int32).toInt = 0 from by decide] at z17
      refine ev_iconst (v := 2) rfl rfl (by decide) ?_
      refine ev_aload_n rfl rfl rfl ?_
      refine ev_getW (l := (-2147483648)) (u := 2147483647) hJ12.1 rfl rfl rfl fl_X10_16 rfl rfl rfl (fun v53 b53 e53 => ?_)
      refine ev_imulA rfl rfl (fun v54 => ?_)
      refine ev_goto rfl rfl ?_
      refine ev_iload_n rfl rfl rfl ?_
      refine ev_isubA rfl rfl (fun v55 g55 => ?_)
      refine ev_iaddA rfl rfl (fun v56 g56 => ?_)
      refine ev_putI rfl rfl fl_X10_7 rfl rfl rfl rfl rfl ?_
      obtain ⟨h57, k57⟩ : ∃ z_, z_ = ev_set h12 63 0 v56 := ⟨_, rfl⟩
      rw [← k57]
      have hP57 := JP.start hJ12 rfl k57
      refine ev_aload_n rfl rfl rfl ?_
      refine ev_aload_n rfl rfl rfl ?_
      refine ev_getV (v := v56) rfl rfl fl_X10_7 rfl rfl rfl (rd_s k57) ?_
      refine ev_if_ge rfl rfl (fun c58 => ?_) (fun c58 => ?_)
      · have b59 : B v56 0 2147483647 := R_leY (by decide : B 0 0 0) (B.any v56) c58 (by decide)
        have z60 := w_le c58
        rw [show (0 : Int32).toInt = 0 from by decide] at z60
        refine ev_aload_n rfl rfl rfl ?_
        refine ev_getV (v := v56) rfl rfl fl_X10_7 rfl rfl rfl (rd_s k57) ?_
        refine ev_putI rfl rfl fl_X10_7 rfl rfl rfl rfl rfl ?_
        obtain ⟨h63, k63⟩ : ∃ z_, z_ = ev_set h57 63 0 v56 := ⟨_, rfl⟩
        rw [← k63]
        have hP63 := JP.again hP57 k63
        refine ev_aload_n rfl rfl rfl ?_
        refine ev_getV (v := v56) rfl rfl fl_X10_7 rfl rfl rfl (rd_s k63) ?_
        refine ev_aload_n rfl rfl rfl ?_
        refine ev_getV (v := f2) rfl rfl fl_X10_19 rfl rfl rfl (rd_o k63 (rd_o k57 (rd_o k12 ef2 rfl) rfl) rfl) ?_
        refine ev_icmp_le rfl rfl (fun c64 => ?_) (fun c64 => ?_)
        · have b65 : B v56 0 200 := R_leX b59 bf2 c64 (by decide)
          have z66 := w_le c64
          have hJ69 := JP.rest hP63 (rd_s k63) b65
          refine ev_iload_n rfl rfl rfl ?_
          exact ev_iret rfl rfl rfl ⟨⟨_, rfl, ⟨(q10.mono (by decide) (by decide)), (by have z0_ := congrArg Int32.toInt (rd_s k63); have z1_ := congrArg Int32.toInt (rd_o k63 (rd_o k57 (rd_o k12 ef2 rfl) rfl) rfl); have z_ := w_lits; have zl_ := l_lits; omega)⟩⟩, rfl, hJ69⟩
        · have b67 : B v56 1 2147483647 := R_ltY bf2 b59 (Int32.not_le.mp c64) (by decide)
          have z68 := w_lt (Int32.not_le.mp c64)
          refine ev_aload_n rfl rfl rfl ?_
          refine ev_aload_n rfl rfl rfl ?_
          refine ev_getV (v := v11) rfl rfl fl_X10_13 rfl rfl rfl (rd_o k63 (rd_o k57 (rd_s k12) rfl) rfl) ?_
          refine ev_aload_n rfl rfl rfl ?_
          refine ev_getV (v := v56) rfl rfl fl_X10_7 rfl rfl rfl (rd_s k63) ?_
          refine ev_aload_n rfl rfl rfl ?_
          refine ev_getV (v := f2) rfl rfl fl_X10_19 rfl rfl rfl (rd_o k63 (rd_o k57 (rd_o k12 ef2 rfl) rfl) rfl) ?_
          refine ev_isubB (l := -199) (u := 2147483647) rfl rfl b67 bf2 (by decide) (by decide) (by decide) (by decide) (fun v70 b70 e70 g70 => ?_)
          refine ev_icmp_ge rfl rfl (fun c71 => ?_) (fun c71 => ?_)
          · have z72 := w_le c71
            refine ev_aload_n rfl rfl rfl ?_
            refine ev_getV (v := v11) rfl rfl fl_X10_13 rfl rfl rfl (rd_o k63 (rd_o k57 (rd_s k12) rfl) rfl) ?_
            refine ev_aload_n rfl rfl rfl ?_
            refine ev_getV (v := v56) rfl rfl fl_X10_7 rfl rfl rfl (rd_s k63) ?_
            refine ev_aload_n rfl rfl rfl ?_
            refine ev_getV (v := f2) rfl rfl fl_X10_19 rfl rfl rfl (rd_o k63 (rd_o k57 (rd_o k12 ef2 rfl) rfl) rfl) ?_
            refine ev_isubV g70 rfl rfl ?_
            refine ev_isubA rfl rfl (fun v76 g76 => ?_)
            refine ev_putI rfl rfl fl_X10_13 rfl rfl rfl rfl rfl ?_
            obtain ⟨h77, k77⟩ : ∃ z_, z_ = ev_set h63 63 1 v76 := ⟨_, rfl⟩
            rw [← k77]
            have hP77 := JP.put hP63 rfl rfl (B.any v76) k77
            refine ev_aload_n rfl rfl rfl ?_
            refine ev_aload_n rfl rfl rfl ?_
            refine ev_getV (v := f2) rfl rfl fl_X10_19 rfl rfl rfl (rd_o k77 (rd_o k63 (rd_o k57 (rd_o k12 ef2 rfl) rfl) rfl) rfl) ?_
            refine ev_putI rfl rfl fl_X10_7 rfl rfl rfl rfl rfl ?_
            obtain ⟨h78, k78⟩ : ∃ z_, z_ = ev_set h77 63 0 f2 := ⟨_, rfl⟩
            rw [← k78]
            have hJ78 := JP.fix hP77 bf2 k78
            refine ev_aload_n rfl rfl rfl ?_
            refine ev_dup rfl rfl rfl ?_
            refine ev_getW (l := (-2147483648)) (u := 2147483647) hJ78.1 rfl rfl rfl fl_X10_131 rfl rfl rfl (fun v79 b79 e79 => ?_)
            refine ev_iconst (v := 1) rfl rfl (by decide) ?_
            refine ev_iaddA rfl rfl (fun v80 g80 => ?_)
            refine ev_putW (l := (-2147483648)) (u := 2147483647) hJ78 rfl (B.any v80) (by decide) (by decide) rfl rfl rfl fl_X10_131 rfl rfl rfl rfl rfl (fun h81 hJ81 k81 => ?_)
            refine ev_iload_n rfl rfl rfl ?_
            exact ev_iret rfl rfl rfl ⟨⟨_, rfl, ⟨(q10.mono (by decide) (by decide)), (by have z0_ := congrArg Int32.toInt (rd_o k81 (rd_s k78) rfl); have z1_ := congrArg Int32.toInt (rd_o k81 (rd_o k78 (rd_o k77 (rd_o k63 (rd_o k57 (rd_o k12 ef2 rfl) rfl) rfl) rfl) rfl) rfl); have z_ := w_lits; have zl_ := l_lits; omega)⟩⟩, rfl, hJ81⟩
          · have b73 : B v11 1 2147483646 := R_ltX b16 b70 (Int32.not_le.mp c71) (by decide)
            have b74 : B v70 2 2147483647 := R_ltY b16 b70 (Int32.not_le.mp c71) (by decide)
            have z75 := w_lt (Int32.not_le.mp c71)
            refine ev_iconst (v := 0) rfl rfl (by decide) ?_
            refine ev_goto rfl rfl ?_
            refine ev_putI rfl rfl fl_X10_13 rfl rfl rfl rfl rfl ?_
            obtain ⟨h82, k82⟩ : ∃ z_, z_ = ev_set h63 63 1 0 := ⟨_, rfl⟩
            rw [← k82]
            have hP82 := JP.put hP63 rfl rfl ((by decide : B 0 0 0).mono (by decide) (by decide)) k82
            refine ev_aload_n rfl rfl rfl ?_
            refine ev_aload_n rfl rfl rfl ?_
            refine ev_getV (v := f2) rfl rfl fl_X10_19 rfl rfl rfl (rd_o k82 (rd_o k63 (rd_o k57 (rd_o k12 ef2 rfl) rfl) rfl) rfl) ?_
            refine ev_putI rfl rfl fl_X10_7 rfl rfl rfl rfl rfl ?_
            obtain ⟨h83, k83⟩ : ∃ z_, z_ = ev_set h82 63 0 f2 := ⟨_, rfl⟩
            rw [← k83]
            have hJ83 := JP.fix hP82 bf2 k83
            refine ev_aload_n rfl rfl rfl ?_
            refine ev_dup rfl rfl rfl ?_
            refine ev_getW (l := (-2147483648)) (u := 2147483647) hJ83.1 rfl rfl rfl fl_X10_131 rfl rfl rfl (fun v84 b84 e84 => ?_)
            refine ev_iconst (v := 1) rfl rfl (by decide) ?_
            refine ev_iaddA rfl rfl (fun v85 g85 => ?_)
            refine ev_putW (l := (-2147483648)) (u := 2147483647) hJ83 rfl (B.any v85) (by decide) (by decide) rfl rfl rfl fl_X10_131 rfl rfl rfl rfl rfl (fun h86 hJ86 k86 => ?_)
            refine ev_iload_n rfl rfl rfl ?_
            exact ev_iret rfl rfl rfl ⟨⟨_, rfl, ⟨(q10.mono (by decide) (by decide)), (by have z0_ := congrArg Int32.toInt (rd_o k86 (rd_s k83) rfl); have z1_ := congrArg Int32.toInt (rd_o k86 (rd_o k83 (rd_o k82 (rd_o k63 (rd_o k57 (rd_o k12 ef2 rfl) rfl) rfl) rfl) rfl) rfl); have z_ := w_lits; have zl_ := l_lits; omega)⟩⟩, rfl, hJ86⟩
      · have b61 : B v56 (-2147483648) (-1) := R_ltX (B.any v56) (by decide : B 0 0 0) (Int32.not_le.mp c58) (by decide)
        have z62 := w_lt (Int32.not_le.mp c58)
        rw [show (0 : Int32).toInt = 0 from by decide] at z62
        refine ev_iconst (v := 0) rfl rfl (by decide) ?_
        refine ev_goto rfl rfl ?_
        refine ev_putI rfl rfl fl_X10_7 rfl rfl rfl rfl rfl ?_
        obtain ⟨h87, k87⟩ : ∃ z_, z_ = ev_set h57 63 0 0 := ⟨_, rfl⟩
        rw [← k87]
        have hJ87 := JP.fix hP57 ((by decide : B 0 0 0).mono (by decide) (by decide)) k87
        refine ev_aload_n rfl rfl rfl ?_
        refine ev_getV (v := 0) rfl rfl fl_X10_7 rfl rfl rfl (rd_s k87) ?_
        refine ev_aload_n rfl rfl rfl ?_
        refine ev_getV (v := f2) rfl rfl fl_X10_19 rfl rfl rfl (rd_o k87 (rd_o k57 (rd_o k12 ef2 rfl) rfl) rfl) ?_
        refine ev_icmp_le rfl rfl (fun c88 => ?_) (fun c88 => absurd (D_le (by decide : B 0 0 0) bf2 (by decide)) c88)
        have z89 := w_le c88
        rw [show (0 : Int32).toInt = 0 from by decide] at z89
        refine ev_iload_n rfl rfl rfl ?_
        exact ev_iret rfl rfl rfl ⟨⟨_, rfl, ⟨(q10.mono (by decide) (by decide)), (by have z0_ := congrArg Int32.toInt (rd_s k87); have z1_ := congrArg Int32.toInt (rd_o k87 (rd_o k57 (rd_o k12 ef2 rfl) rfl) rfl); have z_ := w_lits; have zl_ := l_lits; omega)⟩⟩, rfl, hJ87⟩
  · have b7 : B r3 (-2147483647) 2147483647 := R_ltY (B.any v4) (B.any r3) (Int32.not_le.mp c5) (by decide)
    have b8 : B v4 (-2147483648) 2147483646 := R_ltX (B.any v4) (B.any r3) (Int32.not_le.mp c5) (by decide)
    have z9 := w_lt (Int32.not_le.mp c5)
    refine ev_bipush (v := (-5)) rfl rfl (by decide) ?_
    exact ev_iret rfl rfl rfl ⟨⟨_, rfl, ⟨((by decide : B (-5) (-5) (-5)).mono (by decide) (by decide)), (by have z0_ := congrArg Int32.toInt ef1; have z1_ := congrArg Int32.toInt ef2; have z_ := w_lits; have zl_ := l_lits; omega)⟩⟩, rfl, hJ0⟩

set_option maxRecDepth 100000 in
set_option maxHeartbeats 4000000 in
theorem w_X10_scan_63 (L : Nat) (b : Bool) (h : Hp) (hB : Bx h) (a0 : Int32) (a1 : Int32) (a2 : Int32) (a3 : Int32) : EvJ mi_X10_scan [.ref 63, .int a0, .int a1, .int a2, .int a3] (G0 L b) h (fun r : Int32 => B r (-2147483648) 12) [(63, 5), (64, 999), (65, 999), (66, 999), (67, 999), (68, 999), (69, 999), (70, 999)] := by
  refine EvM.of2 (lo := [some (.ref 63), some (.int a0), some (.int a1), some (.int a2), some (.int a3), none, none, none, none, none, none, none]) pf_X10_scan ok_X10_scan rfl rfl ?_
  have hJ0 : JW [(63, 5), (64, 999), (65, 999), (66, 999), (67, 999), (68, 999), (69, 999), (70, 999)] h h := JW.refl hB
  obtain ⟨f1, ef1⟩ : ∃ f_, h 63 5 = f_ := ⟨_, rfl⟩
  have bf1 : B f1 0 12 := by have z_ := hJ0.1 63 5; rw [ef1] at z_; exact z_
  have zf1 := congrArg Int32.toInt ef1
  refine ev_iload_n rfl rfl rfl ?_
  refine ev_iload_n rfl rfl rfl ?_
  refine ev_S2P rfl rfl lk_X10_335 st_X10_isSheet rfl rfl (w_X10_isSheet L b h hJ0.1 a0 a1) (fun r2 q2 => ?_)
  obtain ⟨b2, p2_0, p2_1⟩ := q2
  refine ev_if_eq rfl rfl (fun c3 => ?_) (fun c3 => ?_)
  · have b4 : B r2 0 0 := R_eqX b2 (by decide : B 0 0 0) c3
    have z5 := congrArg Int32.toInt c3
    rw [show (0 : Int32).toInt = 0 from by decide] at z5
    refine ev_iconst (v := (-1)) rfl rfl (by decide) ?_
    exact ev_iret rfl rfl rfl ⟨⟨_, rfl, ((by decide : B (-1) (-1) (-1)).mono (by decide) (by decide))⟩, rfl, hJ0⟩
  · have b6 : B r2 1 1 := R_neL b2 (by decide : B 0 0 0) c3 (by decide)
    have b7 : B a0 0 3 := p2_0 c3
    have b8 : B a1 0 2 := p2_1 c3
    have z9 := w_ne c3
    rw [show (0 : Int32).toInt = 0 from by decide] at z9
    refine ev_iload rfl rfl rfl ?_
    refine ev_i2l rfl rfl ?_
    have z10 := Int32.toInt_toInt64 a3
    have z10b := B.any a3
    refine ev_lconst (v := 0) rfl rfl rfl ?_
    refine ev_ldc2 (v := 12) rfl rfl kc_X10_358 ?_
    refine ev_S3P rfl rfl lk_X10_124 st_X10_in rfl rfl (w_inR (G0 L b) h a3 0 12 (by decide : BL 0 0 0) (by decide : BL 12 12 12)) (fun r11 q11 => ?_)
    obtain ⟨b11, p11_0, pp11_0, pp11_1⟩ := q11
    refine ev_if_ne rfl rfl (fun c12 => ?_) (fun c12 => ?_)
    · have b13 : B r11 1 1 := R_neL b11 (by decide : B 0 0 0) c12 (by decide)
      have b14 : B a3 0 12 := p11_0 c12
      have z15 := w_ne c12
      rw [show (0 : Int32).toInt = 0 from by decide] at z15
      refine ev_aload_n rfl rfl rfl ?_
      refine ev_getR (y := 92) rfl rfl fl_X10_112 rfl rfl rfl rfl ?_
      refine ev_iload_n rfl rfl rfl ?_
      refine ev_ialW (n := 4) (l := (-2147483648)) (u := 2147483647) hJ0.1 b7 (by decide) (by decide) (fun _ => rfl) rfl rfl rfl (fun v18 b18 e18 => ?_)
      refine ev_iload_n rfl rfl rfl ?_
      refine ev_icmp_eq rfl rfl (fun c19 => ?_) (fun c19 => ?_)
      · have b20 : B v18 0 2 := R_eqX (B.any v18) b8 c19
        have z21 := congrArg Int32.toInt c19
        refine ev_aload_n rfl rfl rfl ?_
        refine ev_getV (v := f1) rfl rfl fl_X10_121 rfl rfl rfl ef1 ?_
        refine ev_istore rfl rfl rfl rfl ?_
        dsimp only [List.set]
        refine ev_iconst (v := 0) rfl rfl (by decide) ?_
        refine ev_istore rfl rfl rfl rfl ?_
        dsimp only [List.set]
        refine ev_iconst (v := 0) rfl rfl (by decide) ?_
        refine ev_istore rfl rfl rfl rfl ?_
        dsimp only [List.set]
        have lp64_513 : ∀ (n : Nat) (w514 : Int32) (w515 : Int32) (h518 : Hp), B w514 (-23) 0 → B w515 0 12 → JW [(63, 5), (64, 999), (65, 999), (66, 999), (67, 999), (68, 999), (69, 999), (70, 999)] h h518 → (h518 92 (Int32.toNatClampNeg a0) = v18) → 12 + 1 - w515.toInt ≤ (n : Int) → EvQ mi_X10_scan 64 [some (.ref 63), some (.int a0), some (.int a1), some (.int a2), some (.int a3), some (.int f1), some (.int w514), some (.int w515), none, none, none, none] [] (G0 L b) h518 0 0 (QJ (fun r : Int32 => B r (-2147483648) 12) [(63, 5), (64, 999), (65, 999), (66, 999), (67, 999), (68, 999), (69, 999), (70, 999)] (G0 L b) h) := by
          intro n
          induction n with
          | zero =>
            intro w514 w515 h518 b516 b517 hJ519 z520 hm64
            exact absurd hm64 (L_zero b517 (by decide))
          | succ n ih64 =>
            intro w514 w515 h518 b516 b517 hJ519 z520 hm64
            obtain ⟨f521, ef521⟩ : ∃ f_, h518 63 5 = f_ := ⟨_, rfl⟩
            have bf521 : B f521 0 12 := by have z_ := hJ519.1 63 5; rw [ef521] at z_; exact z_
            have zf521 := congrArg Int32.toInt ef521
            refine ev_iload rfl rfl rfl ?_
            refine ev_iload rfl rfl rfl ?_
            refine ev_icmp_ge rfl rfl (fun c522 => ?_) (fun c522 => ?_)
            · have z523 := w_le c522
              refine ev_aload_n rfl rfl rfl ?_
              refine ev_iload rfl rfl rfl ?_
              refine ev_if_ge rfl rfl (fun c527 => ?_) (fun c527 => ?_)
              · have b528 : B w514 0 0 := R_leY (by decide : B 0 0 0) b516 c527 (by decide)
                have z529 := w_le c527
                rw [show (0 : Int32).toInt = 0 from by decide] at z529
                refine ev_aload_n rfl rfl rfl ?_
                refine ev_getV (v := f521) rfl rfl fl_X10_121 rfl rfl rfl ef521 ?_
                refine ev_putW (l := 0) (u := 12) hJ519 rfl bf521 (by decide) (by decide) rfl rfl rfl fl_X10_121 rfl rfl rfl rfl rfl (fun h532 hJ532 k532 => ?_)
                refine ev_iload rfl rfl rfl ?_
                refine ev_if_ge rfl rfl (fun c533 => ?_) (fun c533 => absurd (D_le (by decide : B 0 0 0) b528 (by decide)) c533)
                have z534 := w_le c533
                rw [show (0 : Int32).toInt = 0 from by decide] at z534
                refine ev_aload_n rfl rfl rfl ?_
                refine ev_getV (v := f521) rfl rfl fl_X10_121 rfl rfl rfl (rd_s k532) ?_
                exact ev_iret rfl rfl rfl ⟨⟨_, rfl, (bf521.mono (by decide) (by decide))⟩, rfl, hJ532⟩
              · have b530 : B w514 (-23) (-1) := R_ltX b516 (by decide : B 0 0 0) (Int32.not_le.mp c527) (by decide)
                have z531 := w_lt (Int32.not_le.mp c527)
                rw [show (0 : Int32).toInt = 0 from by decide] at z531
                refine ev_iload rfl rfl rfl ?_
                refine ev_goto rfl rfl ?_
                refine ev_putW (l := 0) (u := 12) hJ519 rfl bf1 (by decide) (by decide) rfl rfl rfl fl_X10_121 rfl rfl rfl rfl rfl (fun h535 hJ535 k535 => ?_)
                refine ev_iload rfl rfl rfl ?_
                refine ev_if_ge rfl rfl (fun c536 => absurd c536 (D_nle (by decide : B 0 0 0) b530 (by decide))) (fun c536 => ?_)
                have z537 := w_lt (Int32.not_le.mp c536)
                rw [show (0 : Int32).toInt = 0 from by decide] at z537
                refine ev_iload rfl rfl rfl ?_
                refine ev_goto rfl rfl ?_
                exact ev_iret rfl rfl rfl ⟨⟨_, rfl, (b530.mono (by decide) (by decide))⟩, rfl, hJ535⟩
            · have b524 : B w515 0 11 := R_ltX b517 b14 (Int32.not_le.mp c522) (by decide)
              have b525 : B a3 1 12 := R_ltY b517 b14 (Int32.not_le.mp c522) (by decide)
              have z526 := w_lt (Int32.not_le.mp c522)
              refine ev_iload rfl rfl rfl ?_
              refine ev_if_ne rfl rfl (fun c538 => ?_) (fun c538 => ?_)
              · have b539 : B w514 (-23) (-1) := R_neU b516 (by decide : B 0 0 0) c538 (by decide)
                have z540 := w_ne c538
                rw [show (0 : Int32).toInt = 0 from by decide] at z540
                refine ev_aload_n rfl rfl rfl ?_
                refine ev_iload rfl rfl rfl ?_
                refine ev_if_ge rfl rfl (fun c543 => absurd c543 (D_nle (by decide : B 0 0 0) b539 (by decide))) (fun c543 => ?_)
                have z544 := w_lt (Int32.not_le.mp c543)
                rw [show (0 : Int32).toInt = 0 from by decide] at z544
                refine ev_iload rfl rfl rfl ?_
                refine ev_goto rfl rfl ?_
                refine ev_putW (l := 0) (u := 12) hJ519 rfl bf1 (by decide) (by decide) rfl rfl rfl fl_X10_121 rfl rfl rfl rfl rfl (fun h545 hJ545 k545 => ?_)
                refine ev_iload rfl rfl rfl ?_
                refine ev_if_ge rfl rfl (fun c546 => absurd c546 (D_nle (by decide : B 0 0 0) b539 (by decide))) (fun c546 => ?_)
                have z547 := w_lt (Int32.not_le.mp c546)
                rw [show (0 : Int32).toInt = 0 from by decide] at z547
                refine ev_iload rfl rfl rfl ?_
                refine ev_goto rfl rfl ?_
                exact ev_iret rfl rfl rfl ⟨⟨_, rfl, (b539.mono (by decide) (by decide))⟩, rfl, hJ545⟩
              · have b541 : B w514 0 0 := R_eqX b516 (by decide : B 0 0 0) c538
                have z542 := congrArg Int32.toInt c538
                rw [show (0 : Int32).toInt = 0 from by decide] at z542
                refine ev_iload_n rfl rfl rfl ?_
                refine ev_i2l rfl rfl ?_
                have z548 := Int32.toInt_toInt64 a2
                have z548b := B.any a2
                refine ev_iconst (v := 4) rfl rfl (by decide) ?_
                refine ev_iload rfl rfl rfl ?_
                refine ev_imulB (l := 0) (u := 44) rfl rfl (by decide : B 4 4 4) b524 (by decide) (by decide) (by decide) (by decide) (by decide) (fun v549 b549 e549 g549 => ?_)
                rw [show (4 : Int32).toInt = 4 from by decide] at e549
                refine ev_i2l rfl rfl ?_
                have z550 := Int32.toInt_toInt64 v549
                have z550b := B.any v549
                refine ev_ladd rfl rfl ?_
                have z551 := l_add (Int32.toInt64 a2) (Int32.toInt64 v549) (by have z_ := l_lits; omega) (by have z_ := l_lits; omega) (by have z_ := l_lits; omega) (by have z_ := l_lits; omega)
                refine ev_lstore rfl rfl rfl rfl ?_
                dsimp only [List.set]
                refine ev_lload rfl rfl rfl ?_
                refine ev_lconst (v := 0) rfl rfl rfl ?_
                refine ev_lcmp rfl rfl ?_
                have z552 := l_cmp ((Int32.toInt64 a2) + (Int32.toInt64 v549)) 0
                generalize lg_cmp ((Int32.toInt64 a2) + (Int32.toInt64 v549)) 0 = v552 at z552 ⊢
                refine ev_if_lt rfl rfl (fun c553 => ?_) (fun c553 => ?_)
                · have b554 : B v552 (-2147483648) (-1) := R_ltX (B.any v552) (by decide : B 0 0 0) c553 (by decide)
                  have z555 := w_lt c553
                  rw [show (0 : Int32).toInt = 0 from by decide] at z555
                  refine ev_bipush (v := (-12)) rfl rfl (by decide) ?_
                  refine ev_istore rfl rfl rfl rfl ?_
                  dsimp only [List.set]
                  refine ev_goto rfl rfl ?_
                  refine ev_iincB (y := 1) (l := 1) (u := 12) rfl rfl rfl (by decide) rfl rfl b524 (by decide : B 1 1 1) (by decide) (by decide) (by decide) (by decide) (fun v558 b558 e558 => ?_)
                  dsimp only [List.set]
                  have e558x := e558; rw [show (1 : Int32).toInt = 1 from by decide] at e558x
                  refine ev_goto rfl rfl ?_
                  exact (EvQ.drop 8 (ih64 (-12) v558 h518 ((by decide : B (-12) (-12) (-12)).mono (by decide) (by decide)) (b558.mono (by decide) (by decide)) hJ519 z520 (L_up hm64 (e_p1 e558 (by decide)))))
                · have b556 : B v552 0 2147483647 := R_leY (by decide : B 0 0 0) (B.any v552) (Int32.not_lt.mp c553) (by decide)
                  have z557 := w_le (Int32.not_lt.mp c553)
                  rw [show (0 : Int32).toInt = 0 from by decide] at z557
                  refine ev_lload rfl rfl rfl ?_
                  refine ev_ldc2 (v := 4) rfl rfl kc_X10_360 ?_
                  refine ev_ladd rfl rfl ?_
                  have z559 := l_add ((Int32.toInt64 a2) + (Int32.toInt64 v549)) 4 (by have z_ := l_lits; omega) (by have z_ := l_lits; omega) (by have z_ := l_lits; omega) (by have z_ := l_lits; omega)
                  refine ev_aload_n rfl rfl rfl ?_
                  refine ev_getR (y := 93) rfl rfl fl_X10_115 rfl rfl rfl rfl ?_
                  refine ev_iload_n rfl rfl rfl ?_
                  refine ev_ialW (n := 4) (l := 0) (u := 60) hJ519.1 b7 (by decide) (by decide) (fun _ => rfl) rfl rfl rfl (fun v560 b560 e560 => ?_)
                  refine ev_i2l rfl rfl ?_
                  have z561 := Int32.toInt_toInt64 v560
                  have z561b := B.any v560
                  refine ev_lcmp rfl rfl ?_
                  have z562 := l_cmp (((Int32.toInt64 a2) + (Int32.toInt64 v549)) + 4) (Int32.toInt64 v560)
                  generalize lg_cmp (((Int32.toInt64 a2) + (Int32.toInt64 v549)) + 4) (Int32.toInt64 v560) = v562 at z562 ⊢
                  refine ev_if_le rfl rfl (fun c563 => ?_) (fun c563 => ?_)
                  · have b564 : B v562 (-2147483648) 0 := R_leX (B.any v562) (by decide : B 0 0 0) c563 (by decide)
                    have z565 := w_le c563
                    rw [show (0 : Int32).toInt = 0 from by decide] at z565
                    refine ev_bipush (v := 60) rfl rfl (by decide) ?_
                    refine ev_iload_n rfl rfl rfl ?_
                    refine ev_imulB (l := 0) (u := 180) rfl rfl (by decide : B 60 60 60) b7 (by decide) (by decide) (by decide) (by decide) (by decide) (fun v568 b568 e568 g568 => ?_)
                    rw [show (60 : Int32).toInt = 60 from by decide] at e568
                    refine ev_lload rfl rfl rfl ?_
                    refine ev_l2i rfl rfl ?_
                    have z569 := l_2i ((Int32.toInt64 a2) + (Int32.toInt64 v549)) (by have z_ := l_lits; have z2_ := w_lits; omega) (by have z_ := l_lits; have z2_ := w_lits; omega)
                    generalize Int64.toInt32 ((Int32.toInt64 a2) + (Int32.toInt64 v549)) = v569 at z569 ⊢
                    have b570 : B v569 0 56 := ⟨(by have z0_ := congrArg Int32.toInt ef521; have z_ := w_lits; have zl_ := l_lits; omega), (by have z0_ := congrArg Int32.toInt ef521; have z_ := w_lits; have zl_ := l_lits; omega)⟩
                    refine ev_iaddB (l := 0) (u := 236) rfl rfl b568 b570 (by decide) (by decide) (by decide) (by decide) (fun v571 b571 e571 g571 => ?_)
                    refine ev_istore rfl rfl rfl rfl ?_
                    dsimp only [List.set]
                    refine ev_aload_n rfl rfl rfl ?_
                    refine ev_aload_n rfl rfl rfl ?_
                    refine ev_getR (y := 94) rfl rfl fl_X10_118 rfl rfl rfl rfl ?_
                    refine ev_iload rfl rfl rfl ?_
                    refine ev_ialW (n := 240) (l := (-2147483648)) (u := 2147483647) hJ519.1 b571 (by decide) (by decide) (fun _ => rfl) rfl rfl rfl (fun v572 b572 e572 => ?_)
                    refine ev_aload_n rfl rfl rfl ?_
                    refine ev_getR (y := 94) rfl rfl fl_X10_118 rfl rfl rfl rfl ?_
                    refine ev_iload rfl rfl rfl ?_
                    refine ev_iconst (v := 1) rfl rfl (by decide) ?_
                    refine ev_iaddB (l := 1) (u := 237) rfl rfl b571 (by decide : B 1 1 1) (by decide) (by decide) (by decide) (by decide) (fun v573 b573 e573 g573 => ?_)
                    have e573x := e573; rw [show (1 : Int32).toInt = 1 from by decide] at e573x
                    refine ev_ialW (n := 240) (l := (-2147483648)) (u := 2147483647) hJ519.1 b573 (by decide) (by decide) (fun _ => rfl) rfl rfl rfl (fun v574 b574 e574 => ?_)
                    refine ev_aload_n rfl rfl rfl ?_
                    refine ev_getR (y := 94) rfl rfl fl_X10_118 rfl rfl rfl rfl ?_
                    refine ev_iload rfl rfl rfl ?_
                    refine ev_iconst (v := 2) rfl rfl (by decide) ?_
                    refine ev_iaddB (l := 2) (u := 238) rfl rfl b571 (by decide : B 2 2 2) (by decide) (by decide) (by decide) (by decide) (fun v575 b575 e575 g575 => ?_)
                    have e575x := e575; rw [show (2 : Int32).toInt = 2 from by decide] at e575x
                    refine ev_ialW (n := 240) (l := (-2147483648)) (u := 2147483647) hJ519.1 b575 (by decide) (by decide) (fun _ => rfl) rfl rfl rfl (fun v576 b576 e576 => ?_)
                    refine ev_aload_n rfl rfl rfl ?_
                    refine ev_getR (y := 94) rfl rfl fl_X10_118 rfl rfl rfl rfl ?_
                    refine ev_iload rfl rfl rfl ?_
                    refine ev_iconst (v := 3) rfl rfl (by decide) ?_
                    refine ev_iaddB (l := 3) (u := 239) rfl rfl b571 (by decide : B 3 3 3) (by decide) (by decide) (by decide) (by decide) (fun v577 b577 e577 g577 => ?_)
                    have e577x := e577; rw [show (3 : Int32).toInt = 3 from by decide] at e577x
                    refine ev_ialW (n := 240) (l := (-2147483648)) (u := 2147483647) hJ519.1 b577 (by decide) (by decide) (fun _ => rfl) rfl rfl rfl (fun v578 b578 e578 => ?_)
                    refine ev_if_eq rfl rfl (fun c579 => ?_) (fun c579 => ?_)
                    · have b580 : B v578 0 0 := R_eqX (B.any v578) (by decide : B 0 0 0) c579
                      have z581 := congrArg Int32.toInt c579
                      rw [show (0 : Int32).toInt = 0 from by decide] at z581
                      refine ev_iconst (v := 0) rfl rfl (by decide) ?_
                      refine ev_V4J hJ519 rfl rfl rfl lk_X10_362 vt_X10_whistle rfl rfl rfl rfl rfl (w_X10_whistle_63 L b h518 hJ519.1 v572 v574 v576 0 ((by decide : B 0 0 0).mono (by decide) (by decide))) (fun r583 h583 q583 hJ583 k583 => ?_)
                      obtain ⟨f584, ef584⟩ : ∃ f_, h583 63 5 = f_ := ⟨_, rfl⟩
                      have bf584 : B f584 0 12 := by have z_ := hJ583.1 63 5; rw [ef584] at z_; exact z_
                      have zf584 := congrArg Int32.toInt ef584
                      refine ev_istore rfl rfl rfl rfl ?_
                      dsimp only [List.set]
                      refine ev_iload rfl rfl rfl ?_
                      refine ev_if_ge rfl rfl (fun c585 => ?_) (fun c585 => ?_)
                      · have b586 : B r583 0 11 := R_leY (by decide : B 0 0 0) q583 c585 (by decide)
                        have z587 := w_le c585
                        rw [show (0 : Int32).toInt = 0 from by decide] at z587
                        refine ev_iconst (v := 0) rfl rfl (by decide) ?_
                        refine ev_istore rfl rfl rfl rfl ?_
                        dsimp only [List.set]
                        refine ev_iincB (y := 1) (l := 1) (u := 12) rfl rfl rfl (by decide) rfl rfl b524 (by decide : B 1 1 1) (by decide) (by decide) (by decide) (by decide) (fun v590 b590 e590 => ?_)
                        dsimp only [List.set]
                        have e590x := e590; rw [show (1 : Int32).toInt = 1 from by decide] at e590x
                        refine ev_goto rfl rfl ?_
                        exact (EvQ.drop 11 (EvQ.drop 10 (EvQ.drop 8 (ih64 0 v590 h583 ((by decide : B 0 0 0).mono (by decide) (by decide)) (b590.mono (by decide) (by decide)) hJ583 (rd_w k583 z520 rfl) (L_up hm64 (e_p1 e590 (by decide)))))))
                      · have b588 : B r583 (-3) (-1) := R_ltX q583 (by decide : B 0 0 0) (Int32.not_le.mp c585) (by decide)
                        have z589 := w_lt (Int32.not_le.mp c585)
                        rw [show (0 : Int32).toInt = 0 from by decide] at z589
                        refine ev_bipush (v := (-20)) rfl rfl (by decide) ?_
                        refine ev_iload rfl rfl rfl ?_
                        refine ev_iaddB (l := -23) (u := -21) rfl rfl (by decide : B (-20) (-20) (-20)) b588 (by decide) (by decide) (by decide) (by decide) (fun v591 b591 e591 g591 => ?_)
                        have e591x := e591; rw [show ((-20) : Int32).toInt = (-20) from by decide] at e591x
                        refine ev_goto rfl rfl ?_
                        refine ev_istore rfl rfl rfl rfl ?_
                        dsimp only [List.set]
                        refine ev_iincB (y := 1) (l := 1) (u := 12) rfl rfl rfl (by decide) rfl rfl b524 (by decide : B 1 1 1) (by decide) (by decide) (by decide) (by decide) (fun v592 b592 e592 => ?_)
                        dsimp only [List.set]
                        have e592x := e592; rw [show (1 : Int32).toInt = 1 from by decide] at e592x
                        refine ev_goto rfl rfl ?_
                        exact (EvQ.drop 11 (EvQ.drop 10 (EvQ.drop 8 (ih64 v591 v592 h583 (b591.mono (by decide) (by decide)) (b592.mono (by decide) (by decide)) hJ583 (rd_w k583 z520 rfl) (L_up hm64 (e_p1 e592 (by decide)))))))
                    · have z582 := w_ne c579
                      rw [show (0 : Int32).toInt = 0 from by decide] at z582
                      refine ev_iconst (v := 1) rfl rfl (by decide) ?_
                      refine ev_goto rfl rfl ?_
                      refine ev_V4J hJ519 rfl rfl rfl lk_X10_362 vt_X10_whistle rfl rfl rfl rfl rfl (w_X10_whistle_63 L b h518 hJ519.1 v572 v574 v576 1 ((by decide : B 1 1 1).mono (by decide) (by decide))) (fun r593 h593 q593 hJ593 k593 => ?_)
                      obtain ⟨f594, ef594⟩ : ∃ f_, h593 63 5 = f_ := ⟨_, rfl⟩
                      have bf594 : B f594 0 12 := by have z_ := hJ593.1 63 5; rw [ef594] at z_; exact z_
                      have zf594 := congrArg Int32.toInt ef594
                      refine ev_istore rfl rfl rfl rfl ?_
                      dsimp only [List.set]
                      refine ev_iload rfl rfl rfl ?_
                      refine ev_if_ge rfl rfl (fun c595 => ?_) (fun c595 => ?_)
                      · have b596 : B r593 0 11 := R_leY (by decide : B 0 0 0) q593 c595 (by decide)
                        have z597 := w_le c595
                        rw [show (0 : Int32).toInt = 0 from by decide] at z597
                        refine ev_iconst (v := 0) rfl rfl (by decide) ?_
                        refine ev_istore rfl rfl rfl rfl ?_
                        dsimp only [List.set]
                        refine ev_iincB (y := 1) (l := 1) (u := 12) rfl rfl rfl (by decide) rfl rfl b524 (by decide : B 1 1 1) (by decide) (by decide) (by decide) (by decide) (fun v600 b600 e600 => ?_)
                        dsimp only [List.set]
                        have e600x := e600; rw [show (1 : Int32).toInt = 1 from by decide] at e600x
                        refine ev_goto rfl rfl ?_
                        exact (EvQ.drop 11 (EvQ.drop 10 (EvQ.drop 8 (ih64 0 v600 h593 ((by decide : B 0 0 0).mono (by decide) (by decide)) (b600.mono (by decide) (by decide)) hJ593 (rd_w k593 z520 rfl) (L_up hm64 (e_p1 e600 (by decide)))))))
                      · have b598 : B r593 (-3) (-1) := R_ltX q593 (by decide : B 0 0 0) (Int32.not_le.mp c595) (by decide)
                        have z599 := w_lt (Int32.not_le.mp c595)
                        rw [show (0 : Int32).toInt = 0 from by decide] at z599
                        refine ev_bipush (v := (-20)) rfl rfl (by decide) ?_
                        refine ev_iload rfl rfl rfl ?_
                        refine ev_iaddB (l := -23) (u := -21) rfl rfl (by decide : B (-20) (-20) (-20)) b598 (by decide) (by decide) (by decide) (by decide) (fun v601 b601 e601 g601 => ?_)
                        have e601x := e601; rw [show ((-20) : Int32).toInt = (-20) from by decide] at e601x
                        refine ev_goto rfl rfl ?_
                        refine ev_istore rfl rfl rfl rfl ?_
                        dsimp only [List.set]
                        refine ev_iincB (y := 1) (l := 1) (u := 12) rfl rfl rfl (by decide) rfl rfl b524 (by decide : B 1 1 1) (by decide) (by decide) (by decide) (by decide) (fun v602 b602 e602 => ?_)
                        dsimp only [List.set]
                        have e602x := e602; rw [show (1 : Int32).toInt = 1 from by decide] at e602x
                        refine ev_goto rfl rfl ?_
                        exact (EvQ.drop 11 (EvQ.drop 10 (EvQ.drop 8 (ih64 v601 v602 h593 (b601.mono (by decide) (by decide)) (b602.mono (by decide) (by decide)) hJ593 (rd_w k593 z520 rfl) (L_up hm64 (e_p1 e602 (by decide)))))))
                  · have b566 : B v562 1 2147483647 := R_ltY (by decide : B 0 0 0) (B.any v562) (Int32.not_le.mp c563) (by decide)
                    have z567 := w_lt (Int32.not_le.mp c563)
                    rw [show (0 : Int32).toInt = 0 from by decide] at z567
                    refine ev_bipush (v := (-12)) rfl rfl (by decide) ?_
                    refine ev_istore rfl rfl rfl rfl ?_
                    dsimp only [List.set]
                    refine ev_goto rfl rfl ?_
                    refine ev_iincB (y := 1) (l := 1) (u := 12) rfl rfl rfl (by decide) rfl rfl b524 (by decide : B 1 1 1) (by decide) (by decide) (by decide) (by decide) (fun v603 b603 e603 => ?_)
                    dsimp only [List.set]
                    have e603x := e603; rw [show (1 : Int32).toInt = 1 from by decide] at e603x
                    refine ev_goto rfl rfl ?_
                    exact (EvQ.drop 8 (ih64 (-12) v603 h518 ((by decide : B (-12) (-12) (-12)).mono (by decide) (by decide)) (b603.mono (by decide) (by decide)) hJ519 z520 (L_up hm64 (e_p1 e603 (by decide)))))
        exact (lp64_513 13 0 0 h ((by decide : B 0 0 0).mono (by decide) (by decide)) ((by decide : B 0 0 0).mono (by decide) (by decide)) hJ0 e18 (L_init (by decide : B 0 0 0) (by decide)))
      · have z22 := w_ne c19
        refine ev_aload_n rfl rfl rfl ?_
        refine ev_getR (y := 92) rfl rfl fl_X10_112 rfl rfl rfl rfl ?_
        refine ev_iload_n rfl rfl rfl ?_
        refine ev_iadV (v := v18) rfl rfl rfl (b7.vp (by decide) (by decide)) rfl e18 ?_
        refine ev_bipush (v := (-4)) rfl rfl (by decide) ?_
        refine ev_icmp_ne rfl rfl (fun c604 => ?_) (fun c604 => ?_)
        · have z605 := w_ne c604
          rw [show ((-4) : Int32).toInt = (-4) from by decide] at z605
          refine ev_bipush (v := (-13)) rfl rfl (by decide) ?_
          exact ev_iret rfl rfl rfl ⟨⟨_, rfl, ((by decide : B (-13) (-13) (-13)).mono (by decide) (by decide))⟩, rfl, hJ0⟩
        · have b606 : B v18 (-4) (-4) := R_eqX (B.any v18) (by decide : B (-4) (-4) (-4)) c604
          have z607 := congrArg Int32.toInt c604
          rw [show ((-4) : Int32).toInt = (-4) from by decide] at z607
          refine ev_bipush (v := (-11)) rfl rfl (by decide) ?_
          refine ev_goto rfl rfl ?_
          exact ev_iret rfl rfl rfl ⟨⟨_, rfl, ((by decide : B (-11) (-11) (-11)).mono (by decide) (by decide))⟩, rfl, hJ0⟩
    · have b16 : B r11 0 0 := R_eqX b11 (by decide : B 0 0 0) c12
      have z17 := congrArg Int32.toInt c12
      rw [show (0 : Int32).toInt = 0 from by decide] at z17
      refine ev_iconst (v := (-1)) rfl rfl (by decide) ?_
      exact ev_iret rfl rfl rfl ⟨⟨_, rfl, ((by decide : B (-1) (-1) (-1)).mono (by decide) (by decide))⟩, rfl, hJ0⟩

set_option maxRecDepth 100000 in
set_option maxHeartbeats 4000000 in
theorem w_X10_fire_63 (L : Nat) (b : Bool) (h : Hp) (hB : Bx h) (a0 : Int32) (rp0 : (h 63 0).toInt ≤ (h 63 3).toInt) (hKS : KS h) : EvI mi_X10_fire [.ref 63, .int a0] (G0 L b) h (fun (r : Int32) (z : Hp) => B r (-2147483648) 2147483647 ∧ ((z 63 0).toInt ≤ (z 63 3).toInt) ∧ (KS z)) [(63, 2), (63, 13), (71, 999)] := by
  refine EvM.of2 (lo := [some (.ref 63), some (.int a0), none]) pf_X10_fire ok_X10_fire rfl rfl ?_
  have hJ0 : JW [(63, 2), (63, 13), (71, 999)] h h := JW.refl hB
  obtain ⟨f1, ef1⟩ : ∃ f_, h 63 0 = f_ := ⟨_, rfl⟩
  have bf1 : B f1 0 200 := by have z_ := hJ0.1 63 0; rw [ef1] at z_; exact z_
  have zf1 := congrArg Int32.toInt ef1
  obtain ⟨f2, ef2⟩ : ∃ f_, h 63 3 = f_ := ⟨_, rfl⟩
  have bf2 : B f2 0 200 := by have z_ := hJ0.1 63 3; rw [ef2] at z_; exact z_
  have zf2 := congrArg Int32.toInt ef2
  refine ev_iload_n rfl rfl rfl ?_
  refine ev_i2l rfl rfl ?_
  have z3 := Int32.toInt_toInt64 a0
  have z3b := B.any a0
  refine ev_lconst (v := 0) rfl rfl rfl ?_
  refine ev_ldc2 (v := 9) rfl rfl kc_X10_134 ?_
  refine ev_S3P rfl rfl lk_X10_124 st_X10_in rfl rfl (w_inR (G0 L b) h a0 0 9 (by decide : BL 0 0 0) (by decide : BL 9 9 9)) (fun r4 q4 => ?_)
  obtain ⟨b4, p4_0, pp4_0, pp4_1⟩ := q4
  refine ev_if_ne rfl rfl (fun c5 => ?_) (fun c5 => ?_)
  · have b6 : B r4 1 1 := R_neL b4 (by decide : B 0 0 0) c5 (by decide)
    have b7 : B a0 0 9 := p4_0 c5
    have z8 := w_ne c5
    rw [show (0 : Int32).toInt = 0 from by decide] at z8
    refine ev_aload_n rfl rfl rfl ?_
    refine ev_V0K hJ0 rfl rfl rfl lk_X10_136 vt_X10_keeps rfl rfl rfl rfl rfl (w_X10_keeps_63 L b h hJ0.1 (by have z0_ := congrArg Int32.toInt ef1; have z1_ := congrArg Int32.toInt ef2; have z_ := w_lits; have zl_ := l_lits; omega) hKS) (fun h11 hJ11 k11 m11 => ?_)
    refine ev_aload_n rfl rfl rfl ?_
    refine ev_getW (l := (-2147483648)) (u := 2147483647) hJ11.1 rfl rfl rfl fl_X10_16 rfl rfl rfl (fun v12 b12 e12 => ?_)
    refine ev_istore_n rfl rfl rfl rfl ?_
    dsimp only [List.set]
    refine ev_aload_n rfl rfl rfl ?_
    refine ev_iload_n rfl rfl rfl ?_
    refine ev_putW (l := (-2147483648)) (u := 2147483647) hJ11 rfl b7 (by decide) (by decide) rfl rfl rfl fl_X10_16 rfl rfl rfl rfl rfl (fun h13 hJ13 k13 => ?_)
    refine ev_iload_n rfl rfl rfl ?_
    exact ev_iret rfl rfl rfl ⟨⟨_, rfl, ⟨(B.any v12), (by have z0_ := congrArg Int32.toInt (rd_o k13 (rd_w k11 ef1 rfl) rfl); have z1_ := congrArg Int32.toInt (rd_o k13 (rd_w k11 ef2 rfl) rfl); have z_ := w_lits; have zl_ := l_lits; omega), (KS.set m11 k13 rfl)⟩⟩, rfl, hJ13⟩
  · have b9 : B r4 0 0 := R_eqX b4 (by decide : B 0 0 0) c5
    have z10 := congrArg Int32.toInt c5
    rw [show (0 : Int32).toInt = 0 from by decide] at z10
    refine ev_iconst (v := (-1)) rfl rfl (by decide) ?_
    exact ev_iret rfl rfl rfl ⟨⟨_, rfl, ⟨((by decide : B (-1) (-1) (-1)).mono (by decide) (by decide)), (by have z0_ := congrArg Int32.toInt ef1; have z1_ := congrArg Int32.toInt ef2; have z_ := w_lits; have zl_ := l_lits; omega), hKS⟩⟩, rfl, hJ0⟩

set_option maxRecDepth 100000 in
set_option maxHeartbeats 4000000 in
theorem w_X10_water_63 (L : Nat) (b : Bool) (h : Hp) (hB : Bx h) (a0 : Int32) (rp0 : (h 63 0).toInt ≤ (h 63 3).toInt) (hKS : KS h) : EvI mi_X10_water [.ref 63, .int a0] (G0 L b) h (fun (r : Int32) (z : Hp) => B r (-2147483648) 9999 ∧ ((z 63 0).toInt ≤ (z 63 3).toInt) ∧ (KS z)) [(63, 1), (63, 13), (71, 999)] := by
  refine EvM.of2 (lo := [some (.ref 63), some (.int a0)]) pf_X10_water ok_X10_water rfl rfl ?_
  have hJ0 : JW [(63, 1), (63, 13), (71, 999)] h h := JW.refl hB
  obtain ⟨f1, ef1⟩ : ∃ f_, h 63 0 = f_ := ⟨_, rfl⟩
  have bf1 : B f1 0 200 := by have z_ := hJ0.1 63 0; rw [ef1] at z_; exact z_
  have zf1 := congrArg Int32.toInt ef1
  obtain ⟨f2, ef2⟩ : ∃ f_, h 63 3 = f_ := ⟨_, rfl⟩
  have bf2 : B f2 0 200 := by have z_ := hJ0.1 63 3; rw [ef2] at z_; exact z_
  have zf2 := congrArg Int32.toInt ef2
  refine ev_iload_n rfl rfl rfl ?_
  refine ev_i2l rfl rfl ?_
  have z3 := Int32.toInt_toInt64 a0
  have z3b := B.any a0
  refine ev_lconst (v := 1) rfl rfl rfl ?_
  refine ev_ldc2 (v := 9999) rfl rfl kc_X10_139 ?_
  refine ev_S3P rfl rfl lk_X10_124 st_X10_in rfl rfl (w_inR (G0 L b) h a0 1 9999 (by decide : BL 1 1 1) (by decide : BL 9999 9999 9999)) (fun r4 q4 => ?_)
  obtain ⟨b4, p4_0, pp4_0, pp4_1⟩ := q4
  refine ev_if_ne rfl rfl (fun c5 => ?_) (fun c5 => ?_)
  · have b6 : B r4 1 1 := R_neL b4 (by decide : B 0 0 0) c5 (by decide)
    have b7 : B a0 1 9999 := p4_0 c5
    have z8 := w_ne c5
    rw [show (0 : Int32).toInt = 0 from by decide] at z8
    refine ev_aload_n rfl rfl rfl ?_
    refine ev_V0K hJ0 rfl rfl rfl lk_X10_136 vt_X10_keeps rfl rfl rfl rfl rfl (w_X10_keeps_63 L b h hJ0.1 (by have z0_ := congrArg Int32.toInt ef1; have z1_ := congrArg Int32.toInt ef2; have z_ := w_lits; have zl_ := l_lits; omega) hKS) (fun h11 hJ11 k11 m11 => ?_)
    refine ev_aload_n rfl rfl rfl ?_
    refine ev_aload_n rfl rfl rfl ?_
    refine ev_getW (l := (-2147483648)) (u := 2147483647) hJ11.1 rfl rfl rfl fl_X10_13 rfl rfl rfl (fun v12 b12 e12 => ?_)
    refine ev_iload_n rfl rfl rfl ?_
    refine ev_iaddA rfl rfl (fun v13 g13 => ?_)
    refine ev_sipush (v := 9999) rfl rfl (by decide) ?_
    refine ev_icmp_le rfl rfl (fun c14 => ?_) (fun c14 => ?_)
    · have b15 : B v13 (-2147483648) 9999 := R_leX (B.any v13) (by decide : B 9999 9999 9999) c14 (by decide)
      have z16 := w_le c14
      rw [show (9999 : Int32).toInt = 9999 from by decide] at z16
      refine ev_aload_n rfl rfl rfl ?_
      refine ev_getV (v := v12) rfl rfl fl_X10_13 rfl rfl rfl e12 ?_
      refine ev_iload_n rfl rfl rfl ?_
      refine ev_iaddV g13 rfl rfl ?_
      refine ev_putW (l := (-2147483648)) (u := 2147483647) hJ11 rfl b15 (by decide) (by decide) rfl rfl rfl fl_X10_13 rfl rfl rfl rfl rfl (fun h19 hJ19 k19 => ?_)
      refine ev_aload_n rfl rfl rfl ?_
      refine ev_getV (v := v13) rfl rfl fl_X10_13 rfl rfl rfl (rd_s k19) ?_
      exact ev_iret rfl rfl rfl ⟨⟨_, rfl, ⟨b15, (by have z0_ := congrArg Int32.toInt (rd_o k19 (rd_w k11 ef1 rfl) rfl); have z1_ := congrArg Int32.toInt (rd_o k19 (rd_w k11 ef2 rfl) rfl); have z_ := w_lits; have zl_ := l_lits; omega), (KS.set m11 k19 rfl)⟩⟩, rfl, hJ19⟩
    · have b17 : B v13 10000 2147483647 := R_ltY (by decide : B 9999 9999 9999) (B.any v13) (Int32.not_le.mp c14) (by decide)
      have z18 := w_lt (Int32.not_le.mp c14)
      rw [show (9999 : Int32).toInt = 9999 from by decide] at z18
      refine ev_sipush (v := 9999) rfl rfl (by decide) ?_
      refine ev_goto rfl rfl ?_
      refine ev_putW (l := (-2147483648)) (u := 2147483647) hJ11 rfl (by decide : B 9999 9999 9999) (by decide) (by decide) rfl rfl rfl fl_X10_13 rfl rfl rfl rfl rfl (fun h20 hJ20 k20 => ?_)
      refine ev_aload_n rfl rfl rfl ?_
      refine ev_getV (v := 9999) rfl rfl fl_X10_13 rfl rfl rfl (rd_s k20) ?_
      exact ev_iret rfl rfl rfl ⟨⟨_, rfl, ⟨((by decide : B 9999 9999 9999).mono (by decide) (by decide)), (by have z0_ := congrArg Int32.toInt (rd_o k20 (rd_w k11 ef1 rfl) rfl); have z1_ := congrArg Int32.toInt (rd_o k20 (rd_w k11 ef2 rfl) rfl); have z_ := w_lits; have zl_ := l_lits; omega), (KS.set m11 k20 rfl)⟩⟩, rfl, hJ20⟩
  · have b9 : B r4 0 0 := R_eqX b4 (by decide : B 0 0 0) c5
    have z10 := congrArg Int32.toInt c5
    rw [show (0 : Int32).toInt = 0 from by decide] at z10
    refine ev_iconst (v := (-1)) rfl rfl (by decide) ?_
    exact ev_iret rfl rfl rfl ⟨⟨_, rfl, ⟨((by decide : B (-1) (-1) (-1)).mono (by decide) (by decide)), (by have z0_ := congrArg Int32.toInt ef1; have z1_ := congrArg Int32.toInt ef2; have z_ := w_lits; have zl_ := l_lits; omega), hKS⟩⟩, rfl, hJ0⟩

set_option maxRecDepth 100000 in
set_option maxHeartbeats 4000000 in
theorem w_X10_valve_63 (L : Nat) (b : Bool) (h : Hp) (hB : Bx h) (a0 : Int32) (rp0 : (h 63 0).toInt ≤ (h 63 3).toInt) (hKS : KS h) : EvI mi_X10_valve [.ref 63, .int a0] (G0 L b) h (fun (r : Int32) (z : Hp) => B r (-1) 200 ∧ ((z 63 0).toInt ≤ (z 63 3).toInt) ∧ (KS z)) [(63, 0), (63, 3), (63, 13), (71, 999)] := by
  refine EvM.of2 (lo := [some (.ref 63), some (.int a0), none]) pf_X10_valve ok_X10_valve rfl rfl ?_
  have hJ0 : JW [(63, 0), (63, 3), (63, 13), (71, 999)] h h := JW.refl hB
  obtain ⟨f1, ef1⟩ : ∃ f_, h 63 0 = f_ := ⟨_, rfl⟩
  have bf1 : B f1 0 200 := by have z_ := hJ0.1 63 0; rw [ef1] at z_; exact z_
  have zf1 := congrArg Int32.toInt ef1
  obtain ⟨f2, ef2⟩ : ∃ f_, h 63 3 = f_ := ⟨_, rfl⟩
  have bf2 : B f2 0 200 := by have z_ := hJ0.1 63 3; rw [ef2] at z_; exact z_
  have zf2 := congrArg Int32.toInt ef2
  refine ev_iload_n rfl rfl rfl ?_
  refine ev_i2l rfl rfl ?_
  have z3 := Int32.toInt_toInt64 a0
  have z3b := B.any a0
  refine ev_ldc2 (v := 50) rfl rfl kc_X10_141 ?_
  refine ev_ldc2 (v := 200) rfl rfl kc_X10_143 ?_
  refine ev_S3P rfl rfl lk_X10_124 st_X10_in rfl rfl (w_inR (G0 L b) h a0 50 200 (by decide : BL 50 50 50) (by decide : BL 200 200 200)) (fun r4 q4 => ?_)
  obtain ⟨b4, p4_0, pp4_0, pp4_1⟩ := q4
  refine ev_if_ne rfl rfl (fun c5 => ?_) (fun c5 => ?_)
  · have b6 : B r4 1 1 := R_neL b4 (by decide : B 0 0 0) c5 (by decide)
    have b7 : B a0 50 200 := p4_0 c5
    have z8 := w_ne c5
    rw [show (0 : Int32).toInt = 0 from by decide] at z8
    refine ev_aload_n rfl rfl rfl ?_
    refine ev_V0K hJ0 rfl rfl rfl lk_X10_136 vt_X10_keeps rfl rfl rfl rfl rfl (w_X10_keeps_63 L b h hJ0.1 (by have z0_ := congrArg Int32.toInt ef1; have z1_ := congrArg Int32.toInt ef2; have z_ := w_lits; have zl_ := l_lits; omega) hKS) (fun h11 hJ11 k11 m11 => ?_)
    refine ev_aload_n rfl rfl rfl ?_
    refine ev_getV (v := f2) rfl rfl fl_X10_19 rfl rfl rfl (rd_w k11 ef2 rfl) ?_
    refine ev_istore_n rfl rfl rfl rfl ?_
    dsimp only [List.set]
    refine ev_aload_n rfl rfl rfl ?_
    refine ev_iload_n rfl rfl rfl ?_
    refine ev_putW (l := 0) (u := 200) hJ11 rfl b7 (by decide) (by decide) rfl rfl rfl fl_X10_19 rfl rfl rfl rfl rfl (fun h12 hJ12 k12 => ?_)
    refine ev_aload_n rfl rfl rfl ?_
    refine ev_aload_n rfl rfl rfl ?_
    refine ev_getV (v := f1) rfl rfl fl_X10_7 rfl rfl rfl (rd_o k12 (rd_w k11 ef1 rfl) rfl) ?_
    refine ev_iload_n rfl rfl rfl ?_
    refine ev_icmp_le rfl rfl (fun c13 => ?_) (fun c13 => ?_)
    · have z14 := w_le c13
      refine ev_aload_n rfl rfl rfl ?_
      refine ev_getV (v := f1) rfl rfl fl_X10_7 rfl rfl rfl (rd_o k12 (rd_w k11 ef1 rfl) rfl) ?_
      refine ev_putW (l := 0) (u := 200) hJ12 rfl bf1 (by decide) (by decide) rfl rfl rfl fl_X10_7 rfl rfl rfl rfl rfl (fun h18 hJ18 k18 => ?_)
      refine ev_iload_n rfl rfl rfl ?_
      exact ev_iret rfl rfl rfl ⟨⟨_, rfl, ⟨(bf2.mono (by decide) (by decide)), (by have z0_ := congrArg Int32.toInt (rd_s k18); have z1_ := congrArg Int32.toInt (rd_o k18 (rd_s k12) rfl); have z_ := w_lits; have zl_ := l_lits; omega), (KS.set (KS.set m11 k12 rfl) k18 rfl)⟩⟩, rfl, hJ18⟩
    · have b15 : B f1 51 200 := R_ltY b7 bf1 (Int32.not_le.mp c13) (by decide)
      have b16 : B a0 50 199 := R_ltX b7 bf1 (Int32.not_le.mp c13) (by decide)
      have z17 := w_lt (Int32.not_le.mp c13)
      refine ev_iload_n rfl rfl rfl ?_
      refine ev_goto rfl rfl ?_
      refine ev_putW (l := 0) (u := 200) hJ12 rfl b16 (by decide) (by decide) rfl rfl rfl fl_X10_7 rfl rfl rfl rfl rfl (fun h19 hJ19 k19 => ?_)
      refine ev_iload_n rfl rfl rfl ?_
      exact ev_iret rfl rfl rfl ⟨⟨_, rfl, ⟨(bf2.mono (by decide) (by decide)), (by have z0_ := congrArg Int32.toInt (rd_s k19); have z1_ := congrArg Int32.toInt (rd_o k19 (rd_s k12) rfl); have z_ := w_lits; have zl_ := l_lits; omega), (KS.set (KS.set m11 k12 rfl) k19 rfl)⟩⟩, rfl, hJ19⟩
  · have b9 : B r4 0 0 := R_eqX b4 (by decide : B 0 0 0) c5
    have z10 := congrArg Int32.toInt c5
    rw [show (0 : Int32).toInt = 0 from by decide] at z10
    refine ev_iconst (v := (-1)) rfl rfl (by decide) ?_
    exact ev_iret rfl rfl rfl ⟨⟨_, rfl, ⟨((by decide : B (-1) (-1) (-1)).mono (by decide) (by decide)), (by have z0_ := congrArg Int32.toInt ef1; have z1_ := congrArg Int32.toInt ef2; have z_ := w_lits; have zl_ := l_lits; omega), hKS⟩⟩, rfl, hJ0⟩

set_option maxRecDepth 100000 in
set_option maxHeartbeats 4000000 in
theorem w_X10_pressure_63 (L : Nat) (b : Bool) (h : Hp) (hB : Bx h) (a0 : Int32) (rp0 : (h 63 0).toInt ≤ (h 63 3).toInt) (hKS : KS h) : EvI mi_X10_pressure [.ref 63, .int a0] (G0 L b) h (fun (r : Int32) (z : Hp) => B r (-1) 200 ∧ ((z 63 0).toInt ≤ (z 63 3).toInt) ∧ (KS z)) [(63, 0), (63, 13), (71, 999)] := by
  refine EvM.of2 (lo := [some (.ref 63), some (.int a0), none]) pf_X10_pressure ok_X10_pressure rfl rfl ?_
  have hJ0 : JW [(63, 0), (63, 13), (71, 999)] h h := JW.refl hB
  obtain ⟨f1, ef1⟩ : ∃ f_, h 63 0 = f_ := ⟨_, rfl⟩
  have bf1 : B f1 0 200 := by have z_ := hJ0.1 63 0; rw [ef1] at z_; exact z_
  have zf1 := congrArg Int32.toInt ef1
  obtain ⟨f2, ef2⟩ : ∃ f_, h 63 3 = f_ := ⟨_, rfl⟩
  have bf2 : B f2 0 200 := by have z_ := hJ0.1 63 3; rw [ef2] at z_; exact z_
  have zf2 := congrArg Int32.toInt ef2
  refine ev_iload_n rfl rfl rfl ?_
  refine ev_i2l rfl rfl ?_
  have z3 := Int32.toInt_toInt64 a0
  have z3b := B.any a0
  refine ev_lconst (v := 0) rfl rfl rfl ?_
  refine ev_aload_n rfl rfl rfl ?_
  refine ev_getV (v := f2) rfl rfl fl_X10_19 rfl rfl rfl ef2 ?_
  refine ev_i2l rfl rfl ?_
  have z4 := Int32.toInt_toInt64 f2
  have z4b := B.any f2
  refine ev_S3P rfl rfl lk_X10_124 st_X10_in rfl rfl (w_inV (G0 L b) h a0 0 f2 (by decide : BL 0 0 0) bf2) (fun r5 q5 => ?_)
  obtain ⟨b5, p5_0, pp5_0⟩ := q5
  refine ev_if_ne rfl rfl (fun c6 => ?_) (fun c6 => ?_)
  · have b7 : B r5 1 1 := R_neL b5 (by decide : B 0 0 0) c6 (by decide)
    have b8 : B a0 0 200 := p5_0 c6
    have z9 := w_ne c6
    rw [show (0 : Int32).toInt = 0 from by decide] at z9
    refine ev_aload_n rfl rfl rfl ?_
    refine ev_V0K hJ0 rfl rfl rfl lk_X10_136 vt_X10_keeps rfl rfl rfl rfl rfl (w_X10_keeps_63 L b h hJ0.1 (by have z0_ := congrArg Int32.toInt ef1; have z1_ := congrArg Int32.toInt ef2; have z_ := w_lits; have zl_ := l_lits; omega) hKS) (fun h12 hJ12 k12 m12 => ?_)
    refine ev_aload_n rfl rfl rfl ?_
    refine ev_getV (v := f1) rfl rfl fl_X10_7 rfl rfl rfl (rd_w k12 ef1 rfl) ?_
    refine ev_istore_n rfl rfl rfl rfl ?_
    dsimp only [List.set]
    refine ev_aload_n rfl rfl rfl ?_
    refine ev_iload_n rfl rfl rfl ?_
    refine ev_putW (l := 0) (u := 200) hJ12 rfl b8 (by decide) (by decide) rfl rfl rfl fl_X10_7 rfl rfl rfl rfl rfl (fun h13 hJ13 k13 => ?_)
    refine ev_iload_n rfl rfl rfl ?_
    exact ev_iret rfl rfl rfl ⟨⟨_, rfl, ⟨(bf1.mono (by decide) (by decide)), (by have z0_ := congrArg Int32.toInt (rd_s k13); have z1_ := congrArg Int32.toInt (rd_o k13 (rd_w k12 ef2 rfl) rfl); have z_ := w_lits; have zl_ := l_lits; omega), (KS.set m12 k13 rfl)⟩⟩, rfl, hJ13⟩
  · have b10 : B r5 0 0 := R_eqX b5 (by decide : B 0 0 0) c6
    have z11 := congrArg Int32.toInt c6
    rw [show (0 : Int32).toInt = 0 from by decide] at z11
    refine ev_iconst (v := (-1)) rfl rfl (by decide) ?_
    exact ev_iret rfl rfl rfl ⟨⟨_, rfl, ⟨((by decide : B (-1) (-1) (-1)).mono (by decide) (by decide)), (by have z0_ := congrArg Int32.toInt ef1; have z1_ := congrArg Int32.toInt ef2; have z_ := w_lits; have zl_ := l_lits; omega), hKS⟩⟩, rfl, hJ0⟩

set_option maxRecDepth 100000 in
set_option maxHeartbeats 4000000 in
theorem w_X10_beat_63 (L : Nat) (b : Bool) (h : Hp) (hB : Bx h) (a0 : Int32) (rp0 : (h 63 0).toInt ≤ (h 63 3).toInt) (hKS : KS h) : EvI mi_X10_beat [.ref 63, .int a0] (G0 L b) h (fun (r : Int32) (z : Hp) => B r (-5) 2147483647 ∧ ((z 63 0).toInt ≤ (z 63 3).toInt) ∧ (KS z)) [(63, 0), (63, 1), (63, 4), (63, 13), (71, 999)] := by
  refine EvM.of2 (lo := [some (.ref 63), some (.int a0)]) pf_X10_beat ok_X10_beat rfl rfl ?_
  have hJ0 : JW [(63, 0), (63, 1), (63, 4), (63, 13), (71, 999)] h h := JW.refl hB
  obtain ⟨f1, ef1⟩ : ∃ f_, h 63 0 = f_ := ⟨_, rfl⟩
  have bf1 : B f1 0 200 := by have z_ := hJ0.1 63 0; rw [ef1] at z_; exact z_
  have zf1 := congrArg Int32.toInt ef1
  obtain ⟨f2, ef2⟩ : ∃ f_, h 63 3 = f_ := ⟨_, rfl⟩
  have bf2 : B f2 0 200 := by have z_ := hJ0.1 63 3; rw [ef2] at z_; exact z_
  have zf2 := congrArg Int32.toInt ef2
  refine ev_iload_n rfl rfl rfl ?_
  refine ev_i2l rfl rfl ?_
  have z3 := Int32.toInt_toInt64 a0
  have z3b := B.any a0
  refine ev_lconst (v := 0) rfl rfl rfl ?_
  refine ev_iconst (v := 1) rfl rfl (by decide) ?_
  refine ev_aload_n rfl rfl rfl ?_
  refine ev_getW (l := 0) (u := 12) hJ0.1 rfl rfl rfl fl_X10_121 rfl rfl rfl (fun v4 b4 e4 => ?_)
  refine ev_ishlA rfl rfl (fun v5 => ?_)
  refine ev_iconst (v := 1) rfl rfl (by decide) ?_
  refine ev_isubA rfl rfl (fun v6 g6 => ?_)
  refine ev_i2l rfl rfl ?_
  have z7 := Int32.toInt_toInt64 v6
  have z7b := B.any v6
  refine ev_S3P rfl rfl lk_X10_124 st_X10_in rfl rfl (w_inV (G0 L b) h a0 0 v6 (by decide : BL 0 0 0) (B.any v6)) (fun r8 q8 => ?_)
  obtain ⟨b8, p8_0, pp8_0⟩ := q8
  refine ev_if_ne rfl rfl (fun c9 => ?_) (fun c9 => ?_)
  · have b10 : B r8 1 1 := R_neL b8 (by decide : B 0 0 0) c9 (by decide)
    have b11 : B a0 0 2147483647 := p8_0 c9
    have z12 := w_ne c9
    rw [show (0 : Int32).toInt = 0 from by decide] at z12
    refine ev_aload_n rfl rfl rfl ?_
    refine ev_iload_n rfl rfl rfl ?_
    refine ev_V1P rfl rfl lk_X10_145 vt_X10_drawn rfl rfl rfl rfl rfl (w_X10_drawn_63 L b h hJ0.1 a0) (fun r15 q15 => ?_)
    refine ev_aload_n rfl rfl rfl ?_
    refine ev_getW (l := (-2147483648)) (u := 2147483647) hJ0.1 rfl rfl rfl fl_X10_13 rfl rfl rfl (fun v16 b16 e16 => ?_)
    refine ev_icmp_le rfl rfl (fun c17 => ?_) (fun c17 => ?_)
    · have z18 := w_le c17
      refine ev_aload_n rfl rfl rfl ?_
      refine ev_V0K hJ0 rfl rfl rfl lk_X10_136 vt_X10_keeps rfl rfl rfl rfl rfl (w_X10_keeps_63 L b h hJ0.1 (by have z0_ := congrArg Int32.toInt ef1; have z1_ := congrArg Int32.toInt ef2; have z_ := w_lits; have zl_ := l_lits; omega) hKS) (fun h22 hJ22 k22 m22 => ?_)
      refine ev_aload_n rfl rfl rfl ?_
      refine ev_iload_n rfl rfl rfl ?_
      have z23 := congrArg Int32.toInt (rd_w k22 ef1 rfl)
      have z24 := congrArg Int32.toInt (rd_w k22 ef2 rfl)
      refine ev_V1I hJ22 rfl rfl rfl lk_X10_162 vt_X10_goes rfl rfl rfl rfl rfl (w_X10_goes_63 L b h22 hJ22.1 a0 (by have z0_ := congrArg Int32.toInt (rd_w k22 ef1 rfl); have z1_ := congrArg Int32.toInt (rd_w k22 ef2 rfl); have z_ := w_lits; have zl_ := l_lits; omega)) (fun r25 h25 q25 hJ25 k25 => ?_)
      obtain ⟨b25, m25_0⟩ := q25
      obtain ⟨f26, ef26⟩ : ∃ f_, h25 63 0 = f_ := ⟨_, rfl⟩
      have bf26 : B f26 0 200 := by have z_ := hJ25.1 63 0; rw [ef26] at z_; exact z_
      have zf26 := congrArg Int32.toInt ef26
      have z27 := congrArg Int32.toInt (rd_w k25 (rd_w k22 ef2 rfl) rfl)
      exact ev_iret rfl rfl rfl ⟨⟨_, rfl, ⟨b25, (by have z0_ := congrArg Int32.toInt ef26; have z1_ := congrArg Int32.toInt (rd_w k25 (rd_w k22 ef2 rfl) rfl); have z_ := w_lits; have zl_ := l_lits; omega), (KS.call m22 k25 (fun _ => rfl))⟩⟩, rfl, hJ25⟩
    · have b19 : B r15 (-2147483647) 2147483647 := R_ltY (B.any v16) (B.any r15) (Int32.not_le.mp c17) (by decide)
      have b20 : B v16 (-2147483648) 2147483646 := R_ltX (B.any v16) (B.any r15) (Int32.not_le.mp c17) (by decide)
      have z21 := w_lt (Int32.not_le.mp c17)
      refine ev_bipush (v := (-5)) rfl rfl (by decide) ?_
      exact ev_iret rfl rfl rfl ⟨⟨_, rfl, ⟨((by decide : B (-5) (-5) (-5)).mono (by decide) (by decide)), (by have z0_ := congrArg Int32.toInt ef1; have z1_ := congrArg Int32.toInt ef2; have z_ := w_lits; have zl_ := l_lits; omega), hKS⟩⟩, rfl, hJ0⟩
  · have b13 : B r8 0 0 := R_eqX b8 (by decide : B 0 0 0) c9
    have z14 := congrArg Int32.toInt c9
    rw [show (0 : Int32).toInt = 0 from by decide] at z14
    refine ev_iconst (v := (-1)) rfl rfl (by decide) ?_
    exact ev_iret rfl rfl rfl ⟨⟨_, rfl, ⟨((by decide : B (-1) (-1) (-1)).mono (by decide) (by decide)), (by have z0_ := congrArg Int32.toInt ef1; have z1_ := congrArg Int32.toInt ef2; have z_ := w_lits; have zl_ := l_lits; omega), hKS⟩⟩, rfl, hJ0⟩

set_option maxRecDepth 100000 in
set_option maxHeartbeats 4000000 in
theorem w_X10_stem_63 (L : Nat) (b : Bool) (h : Hp) (hB : Bx h) (a0 : Int32) (a1 : Int32) (rp0 : (h 63 0).toInt ≤ (h 63 3).toInt) (hKS : KS h) : EvI mi_X10_stem [.ref 63, .int a0, .int a1] (G0 L b) h (fun (r : Int32) (z : Hp) => B r (-2147483648) 2147483647 ∧ ((z 63 0).toInt ≤ (z 63 3).toInt) ∧ (KS z)) [(63, 13), (68, 999), (71, 999)] := by
  refine EvM.of2 (lo := [some (.ref 63), some (.int a0), some (.int a1), none]) pf_X10_stem ok_X10_stem rfl rfl ?_
  have hJ0 : JW [(63, 13), (68, 999), (71, 999)] h h := JW.refl hB
  obtain ⟨f1, ef1⟩ : ∃ f_, h 63 0 = f_ := ⟨_, rfl⟩
  have bf1 : B f1 0 200 := by have z_ := hJ0.1 63 0; rw [ef1] at z_; exact z_
  have zf1 := congrArg Int32.toInt ef1
  obtain ⟨f2, ef2⟩ : ∃ f_, h 63 3 = f_ := ⟨_, rfl⟩
  have bf2 : B f2 0 200 := by have z_ := hJ0.1 63 3; rw [ef2] at z_; exact z_
  have zf2 := congrArg Int32.toInt ef2
  refine ev_aload_n rfl rfl rfl ?_
  refine ev_iload_n rfl rfl rfl ?_
  refine ev_V1P rfl rfl lk_X10_169 vt_X10_isWhistle rfl rfl rfl rfl rfl (w_X10_isWhistle_63 L b h hJ0.1 a0) (fun r3 q3 => ?_)
  obtain ⟨b3, p3_0⟩ := q3
  refine ev_if_eq rfl rfl (fun c4 => ?_) (fun c4 => ?_)
  · have b5 : B r3 0 0 := R_eqX b3 (by decide : B 0 0 0) c4
    have z6 := congrArg Int32.toInt c4
    rw [show (0 : Int32).toInt = 0 from by decide] at z6
    refine ev_sipush (v := (-10000)) rfl rfl (by decide) ?_
    exact ev_iret rfl rfl rfl ⟨⟨_, rfl, ⟨((by decide : B (-10000) (-10000) (-10000)).mono (by decide) (by decide)), (by have z0_ := congrArg Int32.toInt ef1; have z1_ := congrArg Int32.toInt ef2; have z_ := w_lits; have zl_ := l_lits; omega), hKS⟩⟩, rfl, hJ0⟩
  · have b7 : B r3 1 1 := R_neL b3 (by decide : B 0 0 0) c4 (by decide)
    have b8 : B a0 0 11 := p3_0 c4
    have z9 := w_ne c4
    rw [show (0 : Int32).toInt = 0 from by decide] at z9
    refine ev_iload_n rfl rfl rfl ?_
    refine ev_i2l rfl rfl ?_
    have z10 := Int32.toInt_toInt64 a1
    have z10b := B.any a1
    refine ev_ldc2 (v := (-100)) rfl rfl kc_X10_175 ?_
    refine ev_ldc2 (v := 100) rfl rfl kc_X10_177 ?_
    refine ev_S3P rfl rfl lk_X10_124 st_X10_in rfl rfl (w_inR (G0 L b) h a1 (-100) 100 (by decide : BL (-100) (-100) (-100)) (by decide : BL 100 100 100)) (fun r11 q11 => ?_)
    obtain ⟨b11, p11_0, pp11_0, pp11_1⟩ := q11
    refine ev_if_ne rfl rfl (fun c12 => ?_) (fun c12 => ?_)
    · have b13 : B r11 1 1 := R_neL b11 (by decide : B 0 0 0) c12 (by decide)
      have b14 : B a1 (-100) 100 := p11_0 c12
      have z15 := w_ne c12
      rw [show (0 : Int32).toInt = 0 from by decide] at z15
      refine ev_aload_n rfl rfl rfl ?_
      refine ev_getR (y := 67) rfl rfl fl_X10_32 rfl rfl rfl rfl ?_
      refine ev_iload_n rfl rfl rfl ?_
      refine ev_zalW (n := 12) (l := (-2147483648)) (u := 2147483647) hJ0.1 b8 (by decide) (by decide) (fun _ => rfl) rfl rfl rfl (fun v18 b18 e18 => ?_)
      refine ev_if_eq rfl rfl (fun c19 => ?_) (fun c19 => ?_)
      · have b20 : B v18 0 0 := R_eqX (B.any v18) (by decide : B 0 0 0) c19
        have z21 := congrArg Int32.toInt c19
        rw [show (0 : Int32).toInt = 0 from by decide] at z21
        refine ev_aload_n rfl rfl rfl ?_
        refine ev_V0K hJ0 rfl rfl rfl lk_X10_136 vt_X10_keeps rfl rfl rfl rfl rfl (w_X10_keeps_63 L b h hJ0.1 (by have z0_ := congrArg Int32.toInt ef1; have z1_ := congrArg Int32.toInt ef2; have z_ := w_lits; have zl_ := l_lits; omega) hKS) (fun h23 hJ23 k23 m23 => ?_)
        refine ev_aload_n rfl rfl rfl ?_
        refine ev_getR (y := 68) rfl rfl fl_X10_36 rfl rfl rfl rfl ?_
        refine ev_iload_n rfl rfl rfl ?_
        refine ev_ialW (n := 12) (l := (-2147483648)) (u := 2147483647) hJ23.1 b8 (by decide) (by decide) (fun _ => rfl) rfl rfl rfl (fun v24 b24 e24 => ?_)
        refine ev_istore_n rfl rfl rfl rfl ?_
        dsimp only [List.set]
        refine ev_aload_n rfl rfl rfl ?_
        refine ev_getR (y := 68) rfl rfl fl_X10_36 rfl rfl rfl rfl ?_
        refine ev_iload_n rfl rfl rfl ?_
        refine ev_iload_n rfl rfl rfl ?_
        refine ev_iasW (n := 12) (l := (-2147483648)) (u := 2147483647) hJ23 b8 (by decide) (by decide) (fun _ => rfl) b14 (by decide) (by decide) (fun _ => rfl) rfl rfl rfl rfl (fun h25 hJ25 k25 => ?_)
        refine ev_iload_n rfl rfl rfl ?_
        exact ev_iret rfl rfl rfl ⟨⟨_, rfl, ⟨(B.any v24), (by have z0_ := congrArg Int32.toInt (rd_a k25 (rd_w k23 ef1 rfl) rfl); have z1_ := congrArg Int32.toInt (rd_a k25 (rd_w k23 ef2 rfl) rfl); have z_ := w_lits; have zl_ := l_lits; omega), (KS.set m23 k25 rfl)⟩⟩, rfl, hJ25⟩
      · have z22 := w_ne c19
        rw [show (0 : Int32).toInt = 0 from by decide] at z22
        refine ev_sipush (v := (-10002)) rfl rfl (by decide) ?_
        exact ev_iret rfl rfl rfl ⟨⟨_, rfl, ⟨((by decide : B (-10002) (-10002) (-10002)).mono (by decide) (by decide)), (by have z0_ := congrArg Int32.toInt ef1; have z1_ := congrArg Int32.toInt ef2; have z_ := w_lits; have zl_ := l_lits; omega), hKS⟩⟩, rfl, hJ0⟩
    · have b16 : B r11 0 0 := R_eqX b11 (by decide : B 0 0 0) c12
      have z17 := congrArg Int32.toInt c12
      rw [show (0 : Int32).toInt = 0 from by decide] at z17
      refine ev_sipush (v := (-10000)) rfl rfl (by decide) ?_
      exact ev_iret rfl rfl rfl ⟨⟨_, rfl, ⟨((by decide : B (-10000) (-10000) (-10000)).mono (by decide) (by decide)), (by have z0_ := congrArg Int32.toInt ef1; have z1_ := congrArg Int32.toInt ef2; have z_ := w_lits; have zl_ := l_lits; omega), hKS⟩⟩, rfl, hJ0⟩

set_option maxRecDepth 100000 in
set_option maxHeartbeats 4000000 in
theorem w_X10_crack_63 (L : Nat) (b : Bool) (h : Hp) (hB : Bx h) (a0 : Int32) (a1 : Int32) (rp0 : (h 63 0).toInt ≤ (h 63 3).toInt) (hKS : KS h) : EvI mi_X10_crack [.ref 63, .int a0, .int a1] (G0 L b) h (fun (r : Int32) (z : Hp) => B r (-2147483648) 2147483647 ∧ ((z 63 0).toInt ≤ (z 63 3).toInt) ∧ (KS z)) [(63, 13), (69, 999), (71, 999)] := by
  refine EvM.of2 (lo := [some (.ref 63), some (.int a0), some (.int a1), none]) pf_X10_crack ok_X10_crack rfl rfl ?_
  have hJ0 : JW [(63, 13), (69, 999), (71, 999)] h h := JW.refl hB
  obtain ⟨f1, ef1⟩ : ∃ f_, h 63 0 = f_ := ⟨_, rfl⟩
  have bf1 : B f1 0 200 := by have z_ := hJ0.1 63 0; rw [ef1] at z_; exact z_
  have zf1 := congrArg Int32.toInt ef1
  obtain ⟨f2, ef2⟩ : ∃ f_, h 63 3 = f_ := ⟨_, rfl⟩
  have bf2 : B f2 0 200 := by have z_ := hJ0.1 63 3; rw [ef2] at z_; exact z_
  have zf2 := congrArg Int32.toInt ef2
  refine ev_aload_n rfl rfl rfl ?_
  refine ev_iload_n rfl rfl rfl ?_
  refine ev_V1P rfl rfl lk_X10_169 vt_X10_isWhistle rfl rfl rfl rfl rfl (w_X10_isWhistle_63 L b h hJ0.1 a0) (fun r3 q3 => ?_)
  obtain ⟨b3, p3_0⟩ := q3
  refine ev_if_eq rfl rfl (fun c4 => ?_) (fun c4 => ?_)
  · have b5 : B r3 0 0 := R_eqX b3 (by decide : B 0 0 0) c4
    have z6 := congrArg Int32.toInt c4
    rw [show (0 : Int32).toInt = 0 from by decide] at z6
    refine ev_sipush (v := (-10000)) rfl rfl (by decide) ?_
    exact ev_iret rfl rfl rfl ⟨⟨_, rfl, ⟨((by decide : B (-10000) (-10000) (-10000)).mono (by decide) (by decide)), (by have z0_ := congrArg Int32.toInt ef1; have z1_ := congrArg Int32.toInt ef2; have z_ := w_lits; have zl_ := l_lits; omega), hKS⟩⟩, rfl, hJ0⟩
  · have b7 : B r3 1 1 := R_neL b3 (by decide : B 0 0 0) c4 (by decide)
    have b8 : B a0 0 11 := p3_0 c4
    have z9 := w_ne c4
    rw [show (0 : Int32).toInt = 0 from by decide] at z9
    refine ev_iload_n rfl rfl rfl ?_
    refine ev_i2l rfl rfl ?_
    have z10 := Int32.toInt_toInt64 a1
    have z10b := B.any a1
    refine ev_ldc2 (v := (-200)) rfl rfl kc_X10_179 ?_
    refine ev_ldc2 (v := 200) rfl rfl kc_X10_143 ?_
    refine ev_S3P rfl rfl lk_X10_124 st_X10_in rfl rfl (w_inR (G0 L b) h a1 (-200) 200 (by decide : BL (-200) (-200) (-200)) (by decide : BL 200 200 200)) (fun r11 q11 => ?_)
    obtain ⟨b11, p11_0, pp11_0, pp11_1⟩ := q11
    refine ev_if_ne rfl rfl (fun c12 => ?_) (fun c12 => ?_)
    · have b13 : B r11 1 1 := R_neL b11 (by decide : B 0 0 0) c12 (by decide)
      have b14 : B a1 (-200) 200 := p11_0 c12
      have z15 := w_ne c12
      rw [show (0 : Int32).toInt = 0 from by decide] at z15
      refine ev_aload_n rfl rfl rfl ?_
      refine ev_V0K hJ0 rfl rfl rfl lk_X10_136 vt_X10_keeps rfl rfl rfl rfl rfl (w_X10_keeps_63 L b h hJ0.1 (by have z0_ := congrArg Int32.toInt ef1; have z1_ := congrArg Int32.toInt ef2; have z_ := w_lits; have zl_ := l_lits; omega) hKS) (fun h18 hJ18 k18 m18 => ?_)
      refine ev_aload_n rfl rfl rfl ?_
      refine ev_getR (y := 69) rfl rfl fl_X10_39 rfl rfl rfl rfl ?_
      refine ev_iload_n rfl rfl rfl ?_
      refine ev_ialW (n := 12) (l := (-2147483648)) (u := 2147483647) hJ18.1 b8 (by decide) (by decide) (fun _ => rfl) rfl rfl rfl (fun v19 b19 e19 => ?_)
      refine ev_istore_n rfl rfl rfl rfl ?_
      dsimp only [List.set]
      refine ev_aload_n rfl rfl rfl ?_
      refine ev_getR (y := 69) rfl rfl fl_X10_39 rfl rfl rfl rfl ?_
      refine ev_iload_n rfl rfl rfl ?_
      refine ev_iload_n rfl rfl rfl ?_
      refine ev_iasW (n := 12) (l := (-2147483648)) (u := 2147483647) hJ18 b8 (by decide) (by decide) (fun _ => rfl) b14 (by decide) (by decide) (fun _ => rfl) rfl rfl rfl rfl (fun h20 hJ20 k20 => ?_)
      refine ev_iload_n rfl rfl rfl ?_
      exact ev_iret rfl rfl rfl ⟨⟨_, rfl, ⟨(B.any v19), (by have z0_ := congrArg Int32.toInt (rd_a k20 (rd_w k18 ef1 rfl) rfl); have z1_ := congrArg Int32.toInt (rd_a k20 (rd_w k18 ef2 rfl) rfl); have z_ := w_lits; have zl_ := l_lits; omega), (KS.set m18 k20 rfl)⟩⟩, rfl, hJ20⟩
    · have b16 : B r11 0 0 := R_eqX b11 (by decide : B 0 0 0) c12
      have z17 := congrArg Int32.toInt c12
      rw [show (0 : Int32).toInt = 0 from by decide] at z17
      refine ev_sipush (v := (-10000)) rfl rfl (by decide) ?_
      exact ev_iret rfl rfl rfl ⟨⟨_, rfl, ⟨((by decide : B (-10000) (-10000) (-10000)).mono (by decide) (by decide)), (by have z0_ := congrArg Int32.toInt ef1; have z1_ := congrArg Int32.toInt ef2; have z_ := w_lits; have zl_ := l_lits; omega), hKS⟩⟩, rfl, hJ0⟩

set_option maxRecDepth 100000 in
set_option maxHeartbeats 4000000 in
theorem w_X10_leak_63 (L : Nat) (b : Bool) (h : Hp) (hB : Bx h) (a0 : Int32) (a1 : Int32) (p1 : B a1 0 1) (rp0 : (h 63 0).toInt ≤ (h 63 3).toInt) (hKS : KS h) : EvI mi_X10_leak [.ref 63, .int a0, .int a1] (G0 L b) h (fun (r : Int32) (z : Hp) => B r (-1) 1 ∧ ((z 63 0).toInt ≤ (z 63 3).toInt) ∧ (KS z)) [(63, 13), (70, 999), (71, 999)] := by
  refine EvM.of2 (lo := [some (.ref 63), some (.int a0), some (.int a1), none]) pf_X10_leak ok_X10_leak rfl rfl ?_
  have hJ0 : JW [(63, 13), (70, 999), (71, 999)] h h := JW.refl hB
  obtain ⟨f1, ef1⟩ : ∃ f_, h 63 0 = f_ := ⟨_, rfl⟩
  have bf1 : B f1 0 200 := by have z_ := hJ0.1 63 0; rw [ef1] at z_; exact z_
  have zf1 := congrArg Int32.toInt ef1
  obtain ⟨f2, ef2⟩ : ∃ f_, h 63 3 = f_ := ⟨_, rfl⟩
  have bf2 : B f2 0 200 := by have z_ := hJ0.1 63 3; rw [ef2] at z_; exact z_
  have zf2 := congrArg Int32.toInt ef2
  refine ev_aload_n rfl rfl rfl ?_
  refine ev_iload_n rfl rfl rfl ?_
  refine ev_V1P rfl rfl lk_X10_169 vt_X10_isWhistle rfl rfl rfl rfl rfl (w_X10_isWhistle_63 L b h hJ0.1 a0) (fun r3 q3 => ?_)
  obtain ⟨b3, p3_0⟩ := q3
  refine ev_if_ne rfl rfl (fun c4 => ?_) (fun c4 => ?_)
  · have b5 : B r3 1 1 := R_neL b3 (by decide : B 0 0 0) c4 (by decide)
    have b6 : B a0 0 11 := p3_0 c4
    have z7 := w_ne c4
    rw [show (0 : Int32).toInt = 0 from by decide] at z7
    refine ev_aload_n rfl rfl rfl ?_
    refine ev_V0K hJ0 rfl rfl rfl lk_X10_136 vt_X10_keeps rfl rfl rfl rfl rfl (w_X10_keeps_63 L b h hJ0.1 (by have z0_ := congrArg Int32.toInt ef1; have z1_ := congrArg Int32.toInt ef2; have z_ := w_lits; have zl_ := l_lits; omega) hKS) (fun h10 hJ10 k10 m10 => ?_)
    refine ev_aload_n rfl rfl rfl ?_
    refine ev_getR (y := 70) rfl rfl fl_X10_42 rfl rfl rfl rfl ?_
    refine ev_iload_n rfl rfl rfl ?_
    refine ev_zalW (n := 12) (l := (-2147483648)) (u := 2147483647) hJ10.1 b6 (by decide) (by decide) (fun _ => rfl) rfl rfl rfl (fun v11 b11 e11 => ?_)
    refine ev_if_eq rfl rfl (fun c12 => ?_) (fun c12 => ?_)
    · have b13 : B v11 0 0 := R_eqX (B.any v11) (by decide : B 0 0 0) c12
      have z14 := congrArg Int32.toInt c12
      rw [show (0 : Int32).toInt = 0 from by decide] at z14
      refine ev_iconst (v := 0) rfl rfl (by decide) ?_
      refine ev_istore_n rfl rfl rfl rfl ?_
      dsimp only [List.set]
      refine ev_aload_n rfl rfl rfl ?_
      refine ev_getR (y := 70) rfl rfl fl_X10_42 rfl rfl rfl rfl ?_
      refine ev_iload_n rfl rfl rfl ?_
      refine ev_iload_n rfl rfl rfl ?_
      refine ev_zasW (n := 12) (l := (-2147483648)) (u := 2147483647) hJ10 b6 (by decide) (by decide) (fun _ => rfl) p1 (by decide) (by decide) (fun _ => rfl) rfl rfl rfl rfl (fun h16 hJ16 k16 => ?_)
      refine ev_iload_n rfl rfl rfl ?_
      exact ev_iret rfl rfl rfl ⟨⟨_, rfl, ⟨((by decide : B 0 0 0).mono (by decide) (by decide)), (by have z0_ := congrArg Int32.toInt (rd_a k16 (rd_w k10 ef1 rfl) rfl); have z1_ := congrArg Int32.toInt (rd_a k16 (rd_w k10 ef2 rfl) rfl); have z_ := w_lits; have zl_ := l_lits; omega), (KS.set m10 k16 rfl)⟩⟩, rfl, hJ16⟩
    · have z15 := w_ne c12
      rw [show (0 : Int32).toInt = 0 from by decide] at z15
      refine ev_iconst (v := 1) rfl rfl (by decide) ?_
      refine ev_goto rfl rfl ?_
      refine ev_istore_n rfl rfl rfl rfl ?_
      dsimp only [List.set]
      refine ev_aload_n rfl rfl rfl ?_
      refine ev_getR (y := 70) rfl rfl fl_X10_42 rfl rfl rfl rfl ?_
      refine ev_iload_n rfl rfl rfl ?_
      refine ev_iload_n rfl rfl rfl ?_
      refine ev_zasW (n := 12) (l := (-2147483648)) (u := 2147483647) hJ10 b6 (by decide) (by decide) (fun _ => rfl) p1 (by decide) (by decide) (fun _ => rfl) rfl rfl rfl rfl (fun h17 hJ17 k17 => ?_)
      refine ev_iload_n rfl rfl rfl ?_
      exact ev_iret rfl rfl rfl ⟨⟨_, rfl, ⟨((by decide : B 1 1 1).mono (by decide) (by decide)), (by have z0_ := congrArg Int32.toInt (rd_a k17 (rd_w k10 ef1 rfl) rfl); have z1_ := congrArg Int32.toInt (rd_a k17 (rd_w k10 ef2 rfl) rfl); have z_ := w_lits; have zl_ := l_lits; omega), (KS.set m10 k17 rfl)⟩⟩, rfl, hJ17⟩
  · have b8 : B r3 0 0 := R_eqX b3 (by decide : B 0 0 0) c4
    have z9 := congrArg Int32.toInt c4
    rw [show (0 : Int32).toInt = 0 from by decide] at z9
    refine ev_iconst (v := (-1)) rfl rfl (by decide) ?_
    exact ev_iret rfl rfl rfl ⟨⟨_, rfl, ⟨((by decide : B (-1) (-1) (-1)).mono (by decide) (by decide)), (by have z0_ := congrArg Int32.toInt ef1; have z1_ := congrArg Int32.toInt ef2; have z_ := w_lits; have zl_ := l_lits; omega), hKS⟩⟩, rfl, hJ0⟩

set_option maxRecDepth 100000 in
set_option maxHeartbeats 4000000 in
theorem w_X10_tuneAll_63 (L : Nat) (b : Bool) (h : Hp) (hB : Bx h) (a0 : Int32) (rp0 : (h 63 0).toInt ≤ (h 63 3).toInt) (hKS : KS h) : EvI mi_X10_tuneAll [.ref 63, .int a0] (G0 L b) h (fun (r : Int32) (z : Hp) => B r (-2147483648) 2147483647 ∧ ((z 63 0).toInt ≤ (z 63 3).toInt) ∧ (KS z)) [(63, 13), (68, 999), (71, 999)] := by
  refine EvM.of2 (lo := [some (.ref 63), some (.int a0), none, none, none]) pf_X10_tuneAll ok_X10_tuneAll rfl rfl ?_
  have hJ0 : JW [(63, 13), (68, 999), (71, 999)] h h := JW.refl hB
  obtain ⟨f1, ef1⟩ : ∃ f_, h 63 0 = f_ := ⟨_, rfl⟩
  have bf1 : B f1 0 200 := by have z_ := hJ0.1 63 0; rw [ef1] at z_; exact z_
  have zf1 := congrArg Int32.toInt ef1
  obtain ⟨f2, ef2⟩ : ∃ f_, h 63 3 = f_ := ⟨_, rfl⟩
  have bf2 : B f2 0 200 := by have z_ := hJ0.1 63 3; rw [ef2] at z_; exact z_
  have zf2 := congrArg Int32.toInt ef2
  refine ev_iload_n rfl rfl rfl ?_
  refine ev_i2l rfl rfl ?_
  have z3 := Int32.toInt_toInt64 a0
  have z3b := B.any a0
  refine ev_lconst (v := 0) rfl rfl rfl ?_
  refine ev_ldc2 (v := 200) rfl rfl kc_X10_143 ?_
  refine ev_S3P rfl rfl lk_X10_124 st_X10_in rfl rfl (w_inR (G0 L b) h a0 0 200 (by decide : BL 0 0 0) (by decide : BL 200 200 200)) (fun r4 q4 => ?_)
  obtain ⟨b4, p4_0, pp4_0, pp4_1⟩ := q4
  refine ev_if_ne rfl rfl (fun c5 => ?_) (fun c5 => ?_)
  · have b6 : B r4 1 1 := R_neL b4 (by decide : B 0 0 0) c5 (by decide)
    have b7 : B a0 0 200 := p4_0 c5
    have z8 := w_ne c5
    rw [show (0 : Int32).toInt = 0 from by decide] at z8
    refine ev_aload_n rfl rfl rfl ?_
    refine ev_V0K hJ0 rfl rfl rfl lk_X10_136 vt_X10_keeps rfl rfl rfl rfl rfl (w_X10_keeps_63 L b h hJ0.1 (by have z0_ := congrArg Int32.toInt ef1; have z1_ := congrArg Int32.toInt ef2; have z_ := w_lits; have zl_ := l_lits; omega) hKS) (fun h11 hJ11 k11 m11 => ?_)
    refine ev_iconst (v := 0) rfl rfl (by decide) ?_
    refine ev_istore_n rfl rfl rfl rfl ?_
    dsimp only [List.set]
    refine ev_iconst (v := 0) rfl rfl (by decide) ?_
    refine ev_istore_n rfl rfl rfl rfl ?_
    dsimp only [List.set]
    have lp22_664 : ∀ (n : Nat) (w665 : Int32) (w666 : Int32) (h668 : Hp), B w666 0 12 → JW [(63, 13), (68, 999), (71, 999)] h h668 → (h668 63 0 = f1) → (h668 63 3 = f2) → (KS h668) → 12 + 1 - w666.toInt ≤ (n : Int) → EvQ mi_X10_tuneAll 22 [some (.ref 63), some (.int a0), some (.int w665), some (.int w666), none] [] (G0 L b) h668 0 0 (QI (fun (r : Int32) (z : Hp) => B r (-2147483648) 2147483647 ∧ ((z 63 0).toInt ≤ (z 63 3).toInt) ∧ (KS z)) [(63, 13), (68, 999), (71, 999)] (G0 L b) h) := by
      intro n
      induction n with
      | zero =>
        intro w665 w666 h668 b667 hJ669 z670 z671 ks22 hm22
        exact absurd hm22 (L_zero b667 (by decide))
      | succ n ih22 =>
        intro w665 w666 h668 b667 hJ669 z670 z671 ks22 hm22
        have z672 := congrArg Int32.toInt z670
        have z673 := congrArg Int32.toInt z671
        refine ev_iload_n rfl rfl rfl ?_
        refine ev_aload_n rfl rfl rfl ?_
        refine ev_getW (l := 0) (u := 12) hJ669.1 rfl rfl rfl fl_X10_121 rfl rfl rfl (fun v674 b674 e674 => ?_)
        refine ev_icmp_ge rfl rfl (fun c675 => ?_) (fun c675 => ?_)
        · have z676 := w_le c675
          refine ev_iload_n rfl rfl rfl ?_
          exact ev_iret rfl rfl rfl ⟨⟨_, rfl, ⟨(B.any w665), (by have z0_ := congrArg Int32.toInt z670; have z1_ := congrArg Int32.toInt z671; have z_ := w_lits; have zl_ := l_lits; omega), ks22⟩⟩, rfl, hJ669⟩
        · have b677 : B w666 0 11 := R_ltX b667 b674 (Int32.not_le.mp c675) (by decide)
          have b678 : B v674 1 12 := R_ltY b667 b674 (Int32.not_le.mp c675) (by decide)
          have z679 := w_lt (Int32.not_le.mp c675)
          refine ev_aload_n rfl rfl rfl ?_
          refine ev_getR (y := 67) rfl rfl fl_X10_32 rfl rfl rfl rfl ?_
          refine ev_iload_n rfl rfl rfl ?_
          refine ev_zalW (n := 12) (l := (-2147483648)) (u := 2147483647) hJ669.1 b677 (by decide) (by decide) (fun _ => rfl) rfl rfl rfl (fun v680 b680 e680 => ?_)
          refine ev_if_ne rfl rfl (fun c681 => ?_) (fun c681 => ?_)
          · have z682 := w_ne c681
            rw [show (0 : Int32).toInt = 0 from by decide] at z682
            refine ev_iload_n rfl rfl rfl ?_
            refine ev_aload_n rfl rfl rfl ?_
            refine ev_iload_n rfl rfl rfl ?_
            refine ev_iload_n rfl rfl rfl ?_
            refine ev_V2P rfl rfl lk_X10_153 vt_X10_off rfl rfl rfl rfl rfl (w_X10_off_63 L b h668 hJ669.1 w666 b677 a0) (fun r685 q685 => ?_)
            refine ev_if_ne rfl rfl (fun c686 => ?_) (fun c686 => ?_)
            · have z687 := w_ne c686
              rw [show (0 : Int32).toInt = 0 from by decide] at z687
              refine ev_iconst (v := 1) rfl rfl (by decide) ?_
              refine ev_iaddA rfl rfl (fun v690 g690 => ?_)
              refine ev_istore_n rfl rfl rfl rfl ?_
              dsimp only [List.set]
              refine ev_iincB (y := 1) (l := 1) (u := 12) rfl rfl rfl (by decide) rfl rfl b677 (by decide : B 1 1 1) (by decide) (by decide) (by decide) (by decide) (fun v691 b691 e691 => ?_)
              dsimp only [List.set]
              have e691x := e691; rw [show (1 : Int32).toInt = 1 from by decide] at e691x
              refine ev_goto rfl rfl ?_
              exact (ih22 v690 v691 h668 (b691.mono (by decide) (by decide)) hJ669 z670 z671 ks22 (L_up hm22 (e_p1 e691 (by decide))))
            · have b688 : B r685 0 0 := R_eqX (B.any r685) (by decide : B 0 0 0) c686
              have z689 := congrArg Int32.toInt c686
              rw [show (0 : Int32).toInt = 0 from by decide] at z689
              refine ev_iconst (v := 0) rfl rfl (by decide) ?_
              refine ev_goto rfl rfl ?_
              refine ev_iaddB (l := -2147483648) (u := 2147483647) rfl rfl (B.any w665) (by decide : B 0 0 0) (by decide) (by decide) (by decide) (by decide) (fun v692 b692 e692 g692 => ?_)
              have e692x := e692; rw [show (0 : Int32).toInt = 0 from by decide] at e692x
              refine ev_istore_n rfl rfl rfl rfl ?_
              dsimp only [List.set]
              refine ev_iincB (y := 1) (l := 1) (u := 12) rfl rfl rfl (by decide) rfl rfl b677 (by decide : B 1 1 1) (by decide) (by decide) (by decide) (by decide) (fun v693 b693 e693 => ?_)
              dsimp only [List.set]
              have e693x := e693; rw [show (1 : Int32).toInt = 1 from by decide] at e693x
              refine ev_goto rfl rfl ?_
              exact (ih22 v692 v693 h668 (b693.mono (by decide) (by decide)) hJ669 z670 z671 ks22 (L_up hm22 (e_p1 e693 (by decide))))
          · have b683 : B v680 0 0 := R_eqX (B.any v680) (by decide : B 0 0 0) c681
            have z684 := congrArg Int32.toInt c681
            rw [show (0 : Int32).toInt = 0 from by decide] at z684
            refine ev_aload_n rfl rfl rfl ?_
            refine ev_getR (y := 68) rfl rfl fl_X10_36 rfl rfl rfl rfl ?_
            refine ev_iload_n rfl rfl rfl ?_
            refine ev_ialW (n := 12) (l := (-2147483648)) (u := 2147483647) hJ669.1 b677 (by decide) (by decide) (fun _ => rfl) rfl rfl rfl (fun v694 b694 e694 => ?_)
            refine ev_aload_n rfl rfl rfl ?_
            refine ev_iload_n rfl rfl rfl ?_
            refine ev_iload_n rfl rfl rfl ?_
            refine ev_V2P rfl rfl lk_X10_153 vt_X10_off rfl rfl rfl rfl rfl (w_X10_off_63 L b h668 hJ669.1 w666 b677 a0) (fun r695 q695 => ?_)
            refine ev_isubA rfl rfl (fun v696 g696 => ?_)
            refine ev_istore rfl rfl rfl rfl ?_
            dsimp only [List.set]
            refine ev_aload_n rfl rfl rfl ?_
            refine ev_getR (y := 68) rfl rfl fl_X10_36 rfl rfl rfl rfl ?_
            refine ev_iload_n rfl rfl rfl ?_
            refine ev_iload rfl rfl rfl ?_
            refine ev_bipush (v := 100) rfl rfl (by decide) ?_
            refine ev_icmp_le rfl rfl (fun c697 => ?_) (fun c697 => ?_)
            · have b698 : B v696 (-2147483648) 100 := R_leX (B.any v696) (by decide : B 100 100 100) c697 (by decide)
              have z699 := w_le c697
              rw [show (100 : Int32).toInt = 100 from by decide] at z699
              refine ev_iload rfl rfl rfl ?_
              refine ev_bipush (v := (-100)) rfl rfl (by decide) ?_
              refine ev_icmp_ge rfl rfl (fun c702 => ?_) (fun c702 => ?_)
              · have b703 : B v696 (-100) 100 := R_leY (by decide : B (-100) (-100) (-100)) b698 c702 (by decide)
                have z704 := w_le c702
                rw [show ((-100) : Int32).toInt = (-100) from by decide] at z704
                refine ev_iload rfl rfl rfl ?_
                refine ev_iasW (n := 12) (l := (-2147483648)) (u := 2147483647) hJ669 b677 (by decide) (by decide) (fun _ => rfl) b703 (by decide) (by decide) (fun _ => rfl) rfl rfl rfl rfl (fun h707 hJ707 k707 => ?_)
                refine ev_iload_n rfl rfl rfl ?_
                refine ev_aload_n rfl rfl rfl ?_
                refine ev_iload_n rfl rfl rfl ?_
                refine ev_iload_n rfl rfl rfl ?_
                refine ev_V2P rfl rfl lk_X10_153 vt_X10_off rfl rfl rfl rfl rfl (w_X10_off_63 L b h707 hJ707.1 w666 b677 a0) (fun r708 q708 => ?_)
                refine ev_if_ne rfl rfl (fun c709 => ?_) (fun c709 => ?_)
                · have z710 := w_ne c709
                  rw [show (0 : Int32).toInt = 0 from by decide] at z710
                  refine ev_iconst (v := 1) rfl rfl (by decide) ?_
                  refine ev_iaddA rfl rfl (fun v713 g713 => ?_)
                  refine ev_istore_n rfl rfl rfl rfl ?_
                  dsimp only [List.set]
                  refine ev_iincB (y := 1) (l := 1) (u := 12) rfl rfl rfl (by decide) rfl rfl b677 (by decide : B 1 1 1) (by decide) (by decide) (by decide) (by decide) (fun v714 b714 e714 => ?_)
                  dsimp only [List.set]
                  have e714x := e714; rw [show (1 : Int32).toInt = 1 from by decide] at e714x
                  refine ev_goto rfl rfl ?_
                  exact (EvQ.drop 4 (ih22 v713 v714 h707 (b714.mono (by decide) (by decide)) hJ707 (rd_a k707 z670 rfl) (rd_a k707 z671 rfl) (KS.set ks22 k707 rfl) (L_up hm22 (e_p1 e714 (by decide)))))
                · have b711 : B r708 0 0 := R_eqX (B.any r708) (by decide : B 0 0 0) c709
                  have z712 := congrArg Int32.toInt c709
                  rw [show (0 : Int32).toInt = 0 from by decide] at z712
                  refine ev_iconst (v := 0) rfl rfl (by decide) ?_
                  refine ev_goto rfl rfl ?_
                  refine ev_iaddB (l := -2147483648) (u := 2147483647) rfl rfl (B.any w665) (by decide : B 0 0 0) (by decide) (by decide) (by decide) (by decide) (fun v715 b715 e715 g715 => ?_)
                  have e715x := e715; rw [show (0 : Int32).toInt = 0 from by decide] at e715x
                  refine ev_istore_n rfl rfl rfl rfl ?_
                  dsimp only [List.set]
                  refine ev_iincB (y := 1) (l := 1) (u := 12) rfl rfl rfl (by decide) rfl rfl b677 (by decide : B 1 1 1) (by decide) (by decide) (by decide) (by decide) (fun v716 b716 e716 => ?_)
                  dsimp only [List.set]
                  have e716x := e716; rw [show (1 : Int32).toInt = 1 from by decide] at e716x
                  refine ev_goto rfl rfl ?_
                  exact (EvQ.drop 4 (ih22 v715 v716 h707 (b716.mono (by decide) (by decide)) hJ707 (rd_a k707 z670 rfl) (rd_a k707 z671 rfl) (KS.set ks22 k707 rfl) (L_up hm22 (e_p1 e716 (by decide)))))
              · have b705 : B v696 (-2147483648) (-101) := R_ltX b698 (by decide : B (-100) (-100) (-100)) (Int32.not_le.mp c702) (by decide)
                have z706 := w_lt (Int32.not_le.mp c702)
                rw [show ((-100) : Int32).toInt = (-100) from by decide] at z706
                refine ev_bipush (v := (-100)) rfl rfl (by decide) ?_
                refine ev_goto rfl rfl ?_
                refine ev_iasW (n := 12) (l := (-2147483648)) (u := 2147483647) hJ669 b677 (by decide) (by decide) (fun _ => rfl) (by decide : B (-100) (-100) (-100)) (by decide) (by decide) (fun _ => rfl) rfl rfl rfl rfl (fun h717 hJ717 k717 => ?_)
                refine ev_iload_n rfl rfl rfl ?_
                refine ev_aload_n rfl rfl rfl ?_
                refine ev_iload_n rfl rfl rfl ?_
                refine ev_iload_n rfl rfl rfl ?_
                refine ev_V2P rfl rfl lk_X10_153 vt_X10_off rfl rfl rfl rfl rfl (w_X10_off_63 L b h717 hJ717.1 w666 b677 a0) (fun r718 q718 => ?_)
                refine ev_if_ne rfl rfl (fun c719 => ?_) (fun c719 => ?_)
                · have z720 := w_ne c719
                  rw [show (0 : Int32).toInt = 0 from by decide] at z720
                  refine ev_iconst (v := 1) rfl rfl (by decide) ?_
                  refine ev_iaddA rfl rfl (fun v723 g723 => ?_)
                  refine ev_istore_n rfl rfl rfl rfl ?_
                  dsimp only [List.set]
                  refine ev_iincB (y := 1) (l := 1) (u := 12) rfl rfl rfl (by decide) rfl rfl b677 (by decide : B 1 1 1) (by decide) (by decide) (by decide) (by decide) (fun v724 b724 e724 => ?_)
                  dsimp only [List.set]
                  have e724x := e724; rw [show (1 : Int32).toInt = 1 from by decide] at e724x
                  refine ev_goto rfl rfl ?_
                  exact (EvQ.drop 4 (ih22 v723 v724 h717 (b724.mono (by decide) (by decide)) hJ717 (rd_a k717 z670 rfl) (rd_a k717 z671 rfl) (KS.set ks22 k717 rfl) (L_up hm22 (e_p1 e724 (by decide)))))
                · have b721 : B r718 0 0 := R_eqX (B.any r718) (by decide : B 0 0 0) c719
                  have z722 := congrArg Int32.toInt c719
                  rw [show (0 : Int32).toInt = 0 from by decide] at z722
                  refine ev_iconst (v := 0) rfl rfl (by decide) ?_
                  refine ev_goto rfl rfl ?_
                  refine ev_iaddB (l := -2147483648) (u := 2147483647) rfl rfl (B.any w665) (by decide : B 0 0 0) (by decide) (by decide) (by decide) (by decide) (fun v725 b725 e725 g725 => ?_)
                  have e725x := e725; rw [show (0 : Int32).toInt = 0 from by decide] at e725x
                  refine ev_istore_n rfl rfl rfl rfl ?_
                  dsimp only [List.set]
                  refine ev_iincB (y := 1) (l := 1) (u := 12) rfl rfl rfl (by decide) rfl rfl b677 (by decide : B 1 1 1) (by decide) (by decide) (by decide) (by decide) (fun v726 b726 e726 => ?_)
                  dsimp only [List.set]
                  have e726x := e726; rw [show (1 : Int32).toInt = 1 from by decide] at e726x
                  refine ev_goto rfl rfl ?_
                  exact (EvQ.drop 4 (ih22 v725 v726 h717 (b726.mono (by decide) (by decide)) hJ717 (rd_a k717 z670 rfl) (rd_a k717 z671 rfl) (KS.set ks22 k717 rfl) (L_up hm22 (e_p1 e726 (by decide)))))
            · have b700 : B v696 101 2147483647 := R_ltY (by decide : B 100 100 100) (B.any v696) (Int32.not_le.mp c697) (by decide)
              have z701 := w_lt (Int32.not_le.mp c697)
              rw [show (100 : Int32).toInt = 100 from by decide] at z701
              refine ev_bipush (v := 100) rfl rfl (by decide) ?_
              refine ev_goto rfl rfl ?_
              refine ev_iasW (n := 12) (l := (-2147483648)) (u := 2147483647) hJ669 b677 (by decide) (by decide) (fun _ => rfl) (by decide : B 100 100 100) (by decide) (by decide) (fun _ => rfl) rfl rfl rfl rfl (fun h727 hJ727 k727 => ?_)
              refine ev_iload_n rfl rfl rfl ?_
              refine ev_aload_n rfl rfl rfl ?_
              refine ev_iload_n rfl rfl rfl ?_
              refine ev_iload_n rfl rfl rfl ?_
              refine ev_V2P rfl rfl lk_X10_153 vt_X10_off rfl rfl rfl rfl rfl (w_X10_off_63 L b h727 hJ727.1 w666 b677 a0) (fun r728 q728 => ?_)
              refine ev_if_ne rfl rfl (fun c729 => ?_) (fun c729 => ?_)
              · have z730 := w_ne c729
                rw [show (0 : Int32).toInt = 0 from by decide] at z730
                refine ev_iconst (v := 1) rfl rfl (by decide) ?_
                refine ev_iaddA rfl rfl (fun v733 g733 => ?_)
                refine ev_istore_n rfl rfl rfl rfl ?_
                dsimp only [List.set]
                refine ev_iincB (y := 1) (l := 1) (u := 12) rfl rfl rfl (by decide) rfl rfl b677 (by decide : B 1 1 1) (by decide) (by decide) (by decide) (by decide) (fun v734 b734 e734 => ?_)
                dsimp only [List.set]
                have e734x := e734; rw [show (1 : Int32).toInt = 1 from by decide] at e734x
                refine ev_goto rfl rfl ?_
                exact (EvQ.drop 4 (ih22 v733 v734 h727 (b734.mono (by decide) (by decide)) hJ727 (rd_a k727 z670 rfl) (rd_a k727 z671 rfl) (KS.set ks22 k727 rfl) (L_up hm22 (e_p1 e734 (by decide)))))
              · have b731 : B r728 0 0 := R_eqX (B.any r728) (by decide : B 0 0 0) c729
                have z732 := congrArg Int32.toInt c729
                rw [show (0 : Int32).toInt = 0 from by decide] at z732
                refine ev_iconst (v := 0) rfl rfl (by decide) ?_
                refine ev_goto rfl rfl ?_
                refine ev_iaddB (l := -2147483648) (u := 2147483647) rfl rfl (B.any w665) (by decide : B 0 0 0) (by decide) (by decide) (by decide) (by decide) (fun v735 b735 e735 g735 => ?_)
                have e735x := e735; rw [show (0 : Int32).toInt = 0 from by decide] at e735x
                refine ev_istore_n rfl rfl rfl rfl ?_
                dsimp only [List.set]
                refine ev_iincB (y := 1) (l := 1) (u := 12) rfl rfl rfl (by decide) rfl rfl b677 (by decide : B 1 1 1) (by decide) (by decide) (by decide) (by decide) (fun v736 b736 e736 => ?_)
                dsimp only [List.set]
                have e736x := e736; rw [show (1 : Int32).toInt = 1 from by decide] at e736x
                refine ev_goto rfl rfl ?_
                exact (EvQ.drop 4 (ih22 v735 v736 h727 (b736.mono (by decide) (by decide)) hJ727 (rd_a k727 z670 rfl) (rd_a k727 z671 rfl) (KS.set ks22 k727 rfl) (L_up hm22 (e_p1 e736 (by decide)))))
    exact (lp22_664 13 0 0 h11 ((by decide : B 0 0 0).mono (by decide) (by decide)) hJ11 (rd_w k11 ef1 rfl) (rd_w k11 ef2 rfl) m11 (L_init (by decide : B 0 0 0) (by decide)))
  · have b9 : B r4 0 0 := R_eqX b4 (by decide : B 0 0 0) c5
    have z10 := congrArg Int32.toInt c5
    rw [show (0 : Int32).toInt = 0 from by decide] at z10
    refine ev_iconst (v := (-1)) rfl rfl (by decide) ?_
    exact ev_iret rfl rfl rfl ⟨⟨_, rfl, ⟨((by decide : B (-1) (-1) (-1)).mono (by decide) (by decide)), (by have z0_ := congrArg Int32.toInt ef1; have z1_ := congrArg Int32.toInt ef2; have z_ := w_lits; have zl_ := l_lits; omega), hKS⟩⟩, rfl, hJ0⟩

set_option maxRecDepth 100000 in
set_option maxHeartbeats 4000000 in
theorem w_X10_moved_63 (L : Nat) (b : Bool) (h : Hp) (hB : Bx h) (a0 : Int32) (a1 : Int32) : EvP mi_X10_moved [.ref 63, .int a0, .int a1] (G0 L b) h (fun r : Int32 => B r (-2147483648) 2147483647) := by
  refine EvM.of2 (lo := [some (.ref 63), some (.int a0), some (.int a1)]) pf_X10_moved ok_X10_moved rfl rfl ?_
  refine ev_iload_n rfl rfl rfl ?_
  refine ev_if_ge rfl rfl (fun c1 => ?_) (fun c1 => ?_)
  · have b2 : B a1 0 2147483647 := R_leY (by decide : B 0 0 0) (B.any a1) c1 (by decide)
    refine ev_iload_n rfl rfl rfl ?_
    refine ev_iload_n rfl rfl rfl ?_
    refine ev_ishlA rfl rfl (fun v4 => ?_)
    exact ev_iret rfl rfl rfl ⟨⟨_, rfl, (B.any v4)⟩, rfl, rfl⟩
  · have b3 : B a1 (-2147483648) (-1) := R_ltX (B.any a1) (by decide : B 0 0 0) (Int32.not_le.mp c1) (by decide)
    refine ev_iload_n rfl rfl rfl ?_
    refine ev_iload_n rfl rfl rfl ?_
    refine ev_inegA rfl rfl (fun v5 => ?_)
    refine ev_ishrA rfl rfl (fun v6 => ?_)
    refine ev_goto rfl rfl ?_
    exact ev_iret rfl rfl rfl ⟨⟨_, rfl, (B.any v6)⟩, rfl, rfl⟩

set_option maxRecDepth 100000 in
set_option maxHeartbeats 4000000 in
theorem w_X10_goesAll_63 (L : Nat) (b : Bool) (h : Hp) (hB : Bx h) (a0 : Int32) (p0 : B a0 0 5) (a1 : Int32) (rp0 : (h 63 0).toInt ≤ (h 63 3).toInt) : EvI mi_X10_goesAll [.ref 63, .int a0, .int a1] (G0 L b) h (fun (r : Int32) (z : Hp) => B r (-123) 2147483647 ∧ ((z 63 0).toInt ≤ (z 63 3).toInt)) [(63, 0), (63, 1), (63, 4)] := by
  refine EvM.of2 (lo := [some (.ref 63), some (.int a0), some (.int a1), none, none, none]) pf_X10_goesAll ok_X10_goesAll rfl rfl ?_
  have hJ0 : JW [(63, 0), (63, 1), (63, 4)] h h := JW.refl hB
  obtain ⟨f1, ef1⟩ : ∃ f_, h 63 0 = f_ := ⟨_, rfl⟩
  have bf1 : B f1 0 200 := by have z_ := hJ0.1 63 0; rw [ef1] at z_; exact z_
  have zf1 := congrArg Int32.toInt ef1
  obtain ⟨f2, ef2⟩ : ∃ f_, h 63 3 = f_ := ⟨_, rfl⟩
  have bf2 : B f2 0 200 := by have z_ := hJ0.1 63 3; rw [ef2] at z_; exact z_
  have zf2 := congrArg Int32.toInt ef2
  refine ev_iconst (v := 0) rfl rfl (by decide) ?_
  refine ev_istore_n rfl rfl rfl rfl ?_
  dsimp only [List.set]
  refine ev_iconst (v := 0) rfl rfl (by decide) ?_
  refine ev_istore rfl rfl rfl rfl ?_
  dsimp only [List.set]
  have lp5_160 : ∀ (n : Nat) (w161 : Int32) (w162 : Int32) (h165 : Hp), B w161 0 2147483647 → B w162 0 24 → JW [(63, 0), (63, 1), (63, 4)] h h165 → (h165 63 3 = f2) → ((h165 63 0).toInt ≤ (h165 63 3).toInt) → 24 + 1 - w162.toInt ≤ (n : Int) → EvQ mi_X10_goesAll 5 [some (.ref 63), some (.int a0), some (.int a1), some (.int w161), some (.int w162), none] [] (G0 L b) h165 0 0 (QI (fun (r : Int32) (z : Hp) => B r (-123) 2147483647 ∧ ((z 63 0).toInt ≤ (z 63 3).toInt)) [(63, 0), (63, 1), (63, 4)] (G0 L b) h) := by
    intro n
    induction n with
    | zero =>
      intro w161 w162 h165 b163 b164 hJ166 z167 y5_0 hm5
      exact absurd hm5 (L_zero b164 (by decide))
    | succ n ih5 =>
      intro w161 w162 h165 b163 b164 hJ166 z167 y5_0 hm5
      obtain ⟨f168, ef168⟩ : ∃ f_, h165 63 0 = f_ := ⟨_, rfl⟩
      have bf168 : B f168 0 200 := by have z_ := hJ166.1 63 0; rw [ef168] at z_; exact z_
      have zf168 := congrArg Int32.toInt ef168
      have z169 := congrArg Int32.toInt z167
      refine ev_iload rfl rfl rfl ?_
      refine ev_aload_n rfl rfl rfl ?_
      refine ev_getR (y := 73) rfl rfl fl_X10_51 rfl rfl rfl rfl ?_
      refine ev_iload_n rfl rfl rfl ?_
      refine ev_ialW (n := 6) (l := 0) (u := 24) hJ166.1 p0 (by decide) (by decide) (fun _ => rfl) rfl rfl rfl (fun v170 b170 e170 => ?_)
      refine ev_icmp_ge rfl rfl (fun c171 => ?_) (fun c171 => ?_)
      · have z172 := w_le c171
        refine ev_iload_n rfl rfl rfl ?_
        exact ev_iret rfl rfl rfl ⟨⟨_, rfl, ⟨(b163.mono (by decide) (by decide)), (by have z0_ := congrArg Int32.toInt ef168; have z1_ := congrArg Int32.toInt z167; have z_ := w_lits; have zl_ := l_lits; omega)⟩⟩, rfl, hJ166⟩
      · have b173 : B w162 0 23 := R_ltX b164 b170 (Int32.not_le.mp c171) (by decide)
        have b174 : B v170 1 24 := R_ltY b164 b170 (Int32.not_le.mp c171) (by decide)
        have z175 := w_lt (Int32.not_le.mp c171)
        refine ev_aload_n rfl rfl rfl ?_
        refine ev_aload_n rfl rfl rfl ?_
        refine ev_aload_n rfl rfl rfl ?_
        refine ev_iload_n rfl rfl rfl ?_
        refine ev_iload rfl rfl rfl ?_
        refine ev_V2P rfl rfl lk_X10_263 vt_X10_chordAt rfl rfl rfl rfl rfl (w_X10_chordAt_63 L b h165 hJ166.1 a0 p0 w162 b173) (fun r176 q176 => ?_)
        refine ev_iload_n rfl rfl rfl ?_
        refine ev_V2P rfl rfl lk_X10_276 vt_X10_moved rfl rfl rfl rfl rfl (w_X10_moved_63 L b h165 hJ166.1 r176 a1) (fun r177 q177 => ?_)
        refine ev_V1I hJ166 rfl rfl rfl lk_X10_162 vt_X10_goes rfl rfl rfl rfl rfl (w_X10_goes_63 L b h165 hJ166.1 r177 (by have z0_ := congrArg Int32.toInt ef168; have z1_ := congrArg Int32.toInt z167; have z_ := w_lits; have zl_ := l_lits; omega)) (fun r178 h178 q178 hJ178 k178 => ?_)
        obtain ⟨b178, m178_0⟩ := q178
        obtain ⟨f179, ef179⟩ : ∃ f_, h178 63 0 = f_ := ⟨_, rfl⟩
        have bf179 : B f179 0 200 := by have z_ := hJ178.1 63 0; rw [ef179] at z_; exact z_
        have zf179 := congrArg Int32.toInt ef179
        have z180 := congrArg Int32.toInt (rd_w k178 z167 rfl)
        refine ev_istore rfl rfl rfl rfl ?_
        dsimp only [List.set]
        refine ev_iload rfl rfl rfl ?_
        refine ev_bipush (v := (-5)) rfl rfl (by decide) ?_
        refine ev_icmp_ne rfl rfl (fun c181 => ?_) (fun c181 => ?_)
        · have b182 : B r178 (-4) 2147483647 := R_neL b178 (by decide : B (-5) (-5) (-5)) c181 (by decide)
          have z183 := w_ne c181
          rw [show ((-5) : Int32).toInt = (-5) from by decide] at z183
          refine ev_iload rfl rfl rfl ?_
          refine ev_iload_n rfl rfl rfl ?_
          refine ev_icmp_le rfl rfl (fun c186 => ?_) (fun c186 => ?_)
          · have z187 := w_le c186
            refine ev_iload_n rfl rfl rfl ?_
            refine ev_istore_n rfl rfl rfl rfl ?_
            dsimp only [List.set]
            refine ev_iincB (y := 1) (l := 1) (u := 24) rfl rfl rfl (by decide) rfl rfl b173 (by decide : B 1 1 1) (by decide) (by decide) (by decide) (by decide) (fun v191 b191 e191 => ?_)
            dsimp only [List.set]
            have e191x := e191; rw [show (1 : Int32).toInt = 1 from by decide] at e191x
            refine ev_goto rfl rfl ?_
            exact (EvQ.drop 5 (ih5 w161 v191 h178 b163 (b191.mono (by decide) (by decide)) hJ178 (rd_w k178 z167 rfl) (by have z0_ := congrArg Int32.toInt ef179; have z1_ := congrArg Int32.toInt (rd_w k178 z167 rfl); have z_ := w_lits; have zl_ := l_lits; omega) (L_up hm5 (e_p1 e191 (by decide)))))
          · have b188 : B r178 1 2147483647 := R_ltY b163 b182 (Int32.not_le.mp c186) (by decide)
            have b189 : B w161 0 2147483646 := R_ltX b163 b182 (Int32.not_le.mp c186) (by decide)
            have z190 := w_lt (Int32.not_le.mp c186)
            refine ev_iload rfl rfl rfl ?_
            refine ev_goto rfl rfl ?_
            refine ev_istore_n rfl rfl rfl rfl ?_
            dsimp only [List.set]
            refine ev_iincB (y := 1) (l := 1) (u := 24) rfl rfl rfl (by decide) rfl rfl b173 (by decide : B 1 1 1) (by decide) (by decide) (by decide) (by decide) (fun v192 b192 e192 => ?_)
            dsimp only [List.set]
            have e192x := e192; rw [show (1 : Int32).toInt = 1 from by decide] at e192x
            refine ev_goto rfl rfl ?_
            exact (EvQ.drop 5 (ih5 r178 v192 h178 (b188.mono (by decide) (by decide)) (b192.mono (by decide) (by decide)) hJ178 (rd_w k178 z167 rfl) (by have z0_ := congrArg Int32.toInt ef179; have z1_ := congrArg Int32.toInt (rd_w k178 z167 rfl); have z_ := w_lits; have zl_ := l_lits; omega) (L_up hm5 (e_p1 e192 (by decide)))))
        · have b184 : B r178 (-5) (-5) := R_eqX b178 (by decide : B (-5) (-5) (-5)) c181
          have z185 := congrArg Int32.toInt c181
          rw [show ((-5) : Int32).toInt = (-5) from by decide] at z185
          refine ev_bipush (v := (-100)) rfl rfl (by decide) ?_
          refine ev_iload rfl rfl rfl ?_
          refine ev_isubB (l := -123) (u := -100) rfl rfl (by decide : B (-100) (-100) (-100)) b173 (by decide) (by decide) (by decide) (by decide) (fun v193 b193 e193 g193 => ?_)
          have e193x := e193; rw [show ((-100) : Int32).toInt = (-100) from by decide] at e193x
          exact ev_iret rfl rfl rfl ⟨⟨_, rfl, ⟨(b193.mono (by decide) (by decide)), (by have z0_ := congrArg Int32.toInt ef179; have z1_ := congrArg Int32.toInt (rd_w k178 z167 rfl); have z_ := w_lits; have zl_ := l_lits; omega)⟩⟩, rfl, hJ178⟩
  exact (lp5_160 25 0 0 h ((by decide : B 0 0 0).mono (by decide) (by decide)) ((by decide : B 0 0 0).mono (by decide) (by decide)) hJ0 ef2 (by have z0_ := congrArg Int32.toInt ef1; have z1_ := congrArg Int32.toInt ef2; have z_ := w_lits; have zl_ := l_lits; omega) (L_init (by decide : B 0 0 0) (by decide)))

set_option maxRecDepth 100000 in
set_option maxHeartbeats 4000000 in
theorem w_X10_tried_63 (L : Nat) (b : Bool) (h : Hp) (hB : Bx h) (a0 : Int32) (p0 : B a0 0 5) (a1 : Int32) (rp0 : (h 63 0).toInt ≤ (h 63 3).toInt) : EvI mi_X10_tried [.ref 63, .int a0, .int a1] (G0 L b) h (fun (r : Int32) (z : Hp) => B r (-123) 2147483647 ∧ ((z 63 0).toInt ≤ (z 63 3).toInt)) [(63, 0), (63, 1), (63, 4)] := by
  refine EvM.of2 (lo := [some (.ref 63), some (.int a0), some (.int a1), none, none, none, none]) pf_X10_tried ok_X10_tried rfl rfl ?_
  have hJ0 : JW [(63, 0), (63, 1), (63, 4)] h h := JW.refl hB
  obtain ⟨f1, ef1⟩ : ∃ f_, h 63 0 = f_ := ⟨_, rfl⟩
  have bf1 : B f1 0 200 := by have z_ := hJ0.1 63 0; rw [ef1] at z_; exact z_
  have zf1 := congrArg Int32.toInt ef1
  obtain ⟨f2, ef2⟩ : ∃ f_, h 63 3 = f_ := ⟨_, rfl⟩
  have bf2 : B f2 0 200 := by have z_ := hJ0.1 63 3; rw [ef2] at z_; exact z_
  have zf2 := congrArg Int32.toInt ef2
  refine ev_aload_n rfl rfl rfl ?_
  refine ev_getV (v := f1) rfl rfl fl_X10_7 rfl rfl rfl ef1 ?_
  refine ev_istore_n rfl rfl rfl rfl ?_
  dsimp only [List.set]
  refine ev_aload_n rfl rfl rfl ?_
  refine ev_getW (l := (-2147483648)) (u := 2147483647) hJ0.1 rfl rfl rfl fl_X10_13 rfl rfl rfl (fun v3 b3 e3 => ?_)
  refine ev_istore rfl rfl rfl rfl ?_
  dsimp only [List.set]
  refine ev_aload_n rfl rfl rfl ?_
  refine ev_getW (l := (-2147483648)) (u := 2147483647) hJ0.1 rfl rfl rfl fl_X10_131 rfl rfl rfl (fun v4 b4 e4 => ?_)
  refine ev_istore rfl rfl rfl rfl ?_
  dsimp only [List.set]
  refine ev_aload_n rfl rfl rfl ?_
  refine ev_iload_n rfl rfl rfl ?_
  refine ev_iload_n rfl rfl rfl ?_
  refine ev_V2I hJ0 rfl rfl rfl lk_X10_279 vt_X10_goesAll rfl rfl rfl rfl rfl (w_X10_goesAll_63 L b h hJ0.1 a0 p0 a1 (by have z0_ := congrArg Int32.toInt ef1; have z1_ := congrArg Int32.toInt ef2; have z_ := w_lits; have zl_ := l_lits; omega)) (fun r5 h5 q5 hJ5 k5 => ?_)
  obtain ⟨b5, m5_0⟩ := q5
  obtain ⟨f6, ef6⟩ : ∃ f_, h5 63 0 = f_ := ⟨_, rfl⟩
  have bf6 : B f6 0 200 := by have z_ := hJ5.1 63 0; rw [ef6] at z_; exact z_
  have zf6 := congrArg Int32.toInt ef6
  have z7 := congrArg Int32.toInt (rd_w k5 ef2 rfl)
  refine ev_istore rfl rfl rfl rfl ?_
  dsimp only [List.set]
  refine ev_aload_n rfl rfl rfl ?_
  refine ev_iload_n rfl rfl rfl ?_
  refine ev_putW (l := 0) (u := 200) hJ5 rfl bf1 (by decide) (by decide) rfl rfl rfl fl_X10_7 rfl rfl rfl rfl rfl (fun h8 hJ8 k8 => ?_)
  refine ev_aload_n rfl rfl rfl ?_
  refine ev_iload rfl rfl rfl ?_
  refine ev_putW (l := (-2147483648)) (u := 2147483647) hJ8 rfl (B.any v3) (by decide) (by decide) rfl rfl rfl fl_X10_13 rfl rfl rfl rfl rfl (fun h9 hJ9 k9 => ?_)
  refine ev_aload_n rfl rfl rfl ?_
  refine ev_iload rfl rfl rfl ?_
  refine ev_putW (l := (-2147483648)) (u := 2147483647) hJ9 rfl (B.any v4) (by decide) (by decide) rfl rfl rfl fl_X10_131 rfl rfl rfl rfl rfl (fun h10 hJ10 k10 => ?_)
  refine ev_iload rfl rfl rfl ?_
  exact ev_iret rfl rfl rfl ⟨⟨_, rfl, ⟨b5, (by have z0_ := congrArg Int32.toInt (rd_o k10 (rd_o k9 (rd_s k8) rfl) rfl); have z1_ := congrArg Int32.toInt (rd_o k10 (rd_o k9 (rd_o k8 (rd_w k5 ef2 rfl) rfl) rfl) rfl); have z_ := w_lits; have zl_ := l_lits; omega)⟩⟩, rfl, hJ10⟩

set_option maxRecDepth 100000 in
set_option maxHeartbeats 4000000 in
theorem w_X10_isIn_63 (L : Nat) (b : Bool) (h : Hp) (hB : Bx h) (a0 : Int32) (p0 : B a0 0 5) (a1 : Int32) : EvP mi_X10_isIn [.ref 63, .int a0, .int a1] (G0 L b) h (fun r : Int32 => B r 0 1) := by
  refine EvM.of2 (lo := [some (.ref 63), some (.int a0), some (.int a1), none, none, none]) pf_X10_isIn ok_X10_isIn rfl rfl ?_
  refine ev_aload_n rfl rfl rfl ?_
  refine ev_iload_n rfl rfl rfl ?_
  refine ev_V1P rfl rfl lk_X10_273 vt_X10_allOf rfl rfl rfl rfl rfl (w_X10_allOf_63 L b h hB a0 p0) (fun r1 q1 => ?_)
  refine ev_istore_n rfl rfl rfl rfl ?_
  dsimp only [List.set]
  refine ev_iconst (v := 1) rfl rfl (by decide) ?_
  refine ev_istore rfl rfl rfl rfl ?_
  dsimp only [List.set]
  refine ev_iconst (v := 0) rfl rfl (by decide) ?_
  refine ev_istore rfl rfl rfl rfl ?_
  dsimp only [List.set]
  have lp12_110 : ∀ (n : Nat) (w111 : Int32) (w112 : Int32), B w111 0 1 → B w112 0 12 → 12 + 1 - w112.toInt ≤ (n : Int) → EvQ mi_X10_isIn 12 [some (.ref 63), some (.int a0), some (.int a1), some (.int r1), some (.int w111), some (.int w112)] [] (G0 L b) h 0 0 (QP (fun r : Int32 => B r 0 1) (G0 L b) h) := by
    intro n
    induction n with
    | zero =>
      intro w111 w112 b113 b114 hm12
      exact absurd hm12 (L_zero b114 (by decide))
    | succ n ih12 =>
      intro w111 w112 b113 b114 hm12
      refine ev_iload rfl rfl rfl ?_
      refine ev_bipush (v := 12) rfl rfl (by decide) ?_
      refine ev_icmp_ge rfl rfl (fun c115 => ?_) (fun c115 => ?_)
      · have b116 : B w112 12 12 := R_leY (by decide : B 12 12 12) b114 c115 (by decide)
        refine ev_iload rfl rfl rfl ?_
        exact ev_iret rfl rfl (ev_rtB b113) ⟨⟨_, rfl, b113⟩, rfl, rfl⟩
      · have b117 : B w112 0 11 := R_ltX b114 (by decide : B 12 12 12) (Int32.not_le.mp c115) (by decide)
        refine ev_iload rfl rfl rfl ?_
        refine ev_if_eq rfl rfl (fun c118 => ?_) (fun c118 => ?_)
        · have b119 : B w111 0 0 := R_eqX b113 (by decide : B 0 0 0) c118
          refine ev_iconst (v := 0) rfl rfl (by decide) ?_
          refine ev_istore rfl rfl rfl rfl ?_
          dsimp only [List.set]
          refine ev_iincB (y := 1) (l := 1) (u := 12) rfl rfl rfl (by decide) rfl rfl b117 (by decide : B 1 1 1) (by decide) (by decide) (by decide) (by decide) (fun v121 b121 e121 => ?_)
          dsimp only [List.set]
          refine ev_goto rfl rfl ?_
          exact (ih12 0 v121 ((by decide : B 0 0 0).mono (by decide) (by decide)) (b121.mono (by decide) (by decide)) (L_up hm12 (e_p1 e121 (by decide))))
        · have b120 : B w111 1 1 := R_neL b113 (by decide : B 0 0 0) c118 (by decide)
          refine ev_iload_n rfl rfl rfl ?_
          refine ev_iload rfl rfl rfl ?_
          refine ev_ishrA rfl rfl (fun v122 => ?_)
          refine ev_iconst (v := 1) rfl rfl (by decide) ?_
          refine ev_iandB rfl rfl (by decide : B 1 1 1) (by decide) (fun v123 b123 e123 => ?_)
          refine ev_if_eq rfl rfl (fun c124 => ?_) (fun c124 => ?_)
          · have b125 : B v123 0 0 := R_eqX b123 (by decide : B 0 0 0) c124
            refine ev_iconst (v := 1) rfl rfl (by decide) ?_
            refine ev_goto rfl rfl ?_
            refine ev_istore rfl rfl rfl rfl ?_
            dsimp only [List.set]
            refine ev_iincB (y := 1) (l := 1) (u := 12) rfl rfl rfl (by decide) rfl rfl b117 (by decide : B 1 1 1) (by decide) (by decide) (by decide) (by decide) (fun v127 b127 e127 => ?_)
            dsimp only [List.set]
            refine ev_goto rfl rfl ?_
            exact (ih12 1 v127 ((by decide : B 1 1 1).mono (by decide) (by decide)) (b127.mono (by decide) (by decide)) (L_up hm12 (e_p1 e127 (by decide))))
          · have b126 : B v123 1 1 := R_neL b123 (by decide : B 0 0 0) c124 (by decide)
            refine ev_aload_n rfl rfl rfl ?_
            refine ev_iload rfl rfl rfl ?_
            refine ev_iload_n rfl rfl rfl ?_
            refine ev_iaddA rfl rfl (fun v128 g128 => ?_)
            refine ev_V1P rfl rfl lk_X10_169 vt_X10_isWhistle rfl rfl rfl rfl rfl (w_X10_isWhistle_63 L b h hB v128) (fun r129 q129 => ?_)
            obtain ⟨b129, p129_0⟩ := q129
            refine ev_if_eq rfl rfl (fun c130 => ?_) (fun c130 => ?_)
            · have b131 : B r129 0 0 := R_eqX b129 (by decide : B 0 0 0) c130
              refine ev_iconst (v := 0) rfl rfl (by decide) ?_
              refine ev_istore rfl rfl rfl rfl ?_
              dsimp only [List.set]
              refine ev_iincB (y := 1) (l := 1) (u := 12) rfl rfl rfl (by decide) rfl rfl b117 (by decide : B 1 1 1) (by decide) (by decide) (by decide) (by decide) (fun v134 b134 e134 => ?_)
              dsimp only [List.set]
              refine ev_goto rfl rfl ?_
              exact (ih12 0 v134 ((by decide : B 0 0 0).mono (by decide) (by decide)) (b134.mono (by decide) (by decide)) (L_up hm12 (e_p1 e134 (by decide))))
            · have b132 : B r129 1 1 := R_neL b129 (by decide : B 0 0 0) c130 (by decide)
              have b133 : B v128 0 11 := p129_0 c130
              refine ev_iconst (v := 1) rfl rfl (by decide) ?_
              refine ev_goto rfl rfl ?_
              refine ev_istore rfl rfl rfl rfl ?_
              dsimp only [List.set]
              refine ev_iincB (y := 1) (l := 1) (u := 12) rfl rfl rfl (by decide) rfl rfl b117 (by decide : B 1 1 1) (by decide) (by decide) (by decide) (by decide) (fun v135 b135 e135 => ?_)
              dsimp only [List.set]
              refine ev_goto rfl rfl ?_
              exact (ih12 1 v135 ((by decide : B 1 1 1).mono (by decide) (by decide)) (b135.mono (by decide) (by decide)) (L_up hm12 (e_p1 e135 (by decide))))
  exact (lp12_110 13 1 0 ((by decide : B 1 1 1).mono (by decide) (by decide)) ((by decide : B 0 0 0).mono (by decide) (by decide)) (L_init (by decide : B 0 0 0) (by decide)))

set_option maxRecDepth 100000 in
set_option maxHeartbeats 4000000 in
theorem w_X10_play_63 (L : Nat) (b : Bool) (h : Hp) (hB : Bx h) (a0 : Int32) (a1 : Int32) (rp0 : (h 63 0).toInt ≤ (h 63 3).toInt) (hKS : KS h) : EvI mi_X10_play [.ref 63, .int a0, .int a1] (G0 L b) h (fun (r : Int32) (z : Hp) => B r (-123) 2147483647 ∧ ((z 63 0).toInt ≤ (z 63 3).toInt) ∧ (KS z)) [(63, 0), (63, 1), (63, 4), (63, 13), (71, 999)] := by
  refine EvM.of2 (lo := [some (.ref 63), some (.int a0), some (.int a1)]) pf_X10_play ok_X10_play rfl rfl ?_
  have hJ0 : JW [(63, 0), (63, 1), (63, 4), (63, 13), (71, 999)] h h := JW.refl hB
  obtain ⟨f1, ef1⟩ : ∃ f_, h 63 0 = f_ := ⟨_, rfl⟩
  have bf1 : B f1 0 200 := by have z_ := hJ0.1 63 0; rw [ef1] at z_; exact z_
  have zf1 := congrArg Int32.toInt ef1
  obtain ⟨f2, ef2⟩ : ∃ f_, h 63 3 = f_ := ⟨_, rfl⟩
  have bf2 : B f2 0 200 := by have z_ := hJ0.1 63 3; rw [ef2] at z_; exact z_
  have zf2 := congrArg Int32.toInt ef2
  refine ev_aload_n rfl rfl rfl ?_
  refine ev_iload_n rfl rfl rfl ?_
  refine ev_V1P rfl rfl lk_X10_266 vt_X10_isTune rfl rfl rfl rfl rfl (w_X10_isTune_63 L b h hJ0.1 a0) (fun r3 q3 => ?_)
  obtain ⟨b3, p3_0⟩ := q3
  refine ev_if_eq rfl rfl (fun c4 => ?_) (fun c4 => ?_)
  · have b5 : B r3 0 0 := R_eqX b3 (by decide : B 0 0 0) c4
    have z6 := congrArg Int32.toInt c4
    rw [show (0 : Int32).toInt = 0 from by decide] at z6
    refine ev_iconst (v := (-1)) rfl rfl (by decide) ?_
    exact ev_iret rfl rfl rfl ⟨⟨_, rfl, ⟨((by decide : B (-1) (-1) (-1)).mono (by decide) (by decide)), (by have z0_ := congrArg Int32.toInt ef1; have z1_ := congrArg Int32.toInt ef2; have z_ := w_lits; have zl_ := l_lits; omega), hKS⟩⟩, rfl, hJ0⟩
  · have b7 : B r3 1 1 := R_neL b3 (by decide : B 0 0 0) c4 (by decide)
    have b8 : B a0 0 5 := p3_0 c4
    have z9 := w_ne c4
    rw [show (0 : Int32).toInt = 0 from by decide] at z9
    refine ev_iload_n rfl rfl rfl ?_
    refine ev_i2l rfl rfl ?_
    have z10 := Int32.toInt_toInt64 a1
    have z10b := B.any a1
    refine ev_ldc2 (v := (-11)) rfl rfl kc_X10_282 ?_
    refine ev_ldc2 (v := 11) rfl rfl kc_X10_284 ?_
    refine ev_S3P rfl rfl lk_X10_124 st_X10_in rfl rfl (w_inR (G0 L b) h a1 (-11) 11 (by decide : BL (-11) (-11) (-11)) (by decide : BL 11 11 11)) (fun r11 q11 => ?_)
    obtain ⟨b11, p11_0, pp11_0, pp11_1⟩ := q11
    refine ev_if_ne rfl rfl (fun c12 => ?_) (fun c12 => ?_)
    · have b13 : B r11 1 1 := R_neL b11 (by decide : B 0 0 0) c12 (by decide)
      have b14 : B a1 (-11) 11 := p11_0 c12
      have z15 := w_ne c12
      rw [show (0 : Int32).toInt = 0 from by decide] at z15
      refine ev_aload_n rfl rfl rfl ?_
      refine ev_iload_n rfl rfl rfl ?_
      refine ev_iload_n rfl rfl rfl ?_
      refine ev_V2P rfl rfl lk_X10_286 vt_X10_isIn rfl rfl rfl rfl rfl (w_X10_isIn_63 L b h hJ0.1 a0 b8 a1) (fun r18 q18 => ?_)
      refine ev_if_ne rfl rfl (fun c19 => ?_) (fun c19 => ?_)
      · have b20 : B r18 1 1 := R_neL q18 (by decide : B 0 0 0) c19 (by decide)
        have z21 := w_ne c19
        rw [show (0 : Int32).toInt = 0 from by decide] at z21
        refine ev_aload_n rfl rfl rfl ?_
        refine ev_iload_n rfl rfl rfl ?_
        refine ev_iload_n rfl rfl rfl ?_
        refine ev_V2I hJ0 rfl rfl rfl lk_X10_290 vt_X10_tried rfl rfl rfl rfl rfl (w_X10_tried_63 L b h hJ0.1 a0 b8 a1 (by have z0_ := congrArg Int32.toInt ef1; have z1_ := congrArg Int32.toInt ef2; have z_ := w_lits; have zl_ := l_lits; omega)) (fun r24 h24 q24 hJ24 k24 => ?_)
        obtain ⟨b24, m24_0⟩ := q24
        obtain ⟨f25, ef25⟩ : ∃ f_, h24 63 0 = f_ := ⟨_, rfl⟩
        have bf25 : B f25 0 200 := by have z_ := hJ24.1 63 0; rw [ef25] at z_; exact z_
        have zf25 := congrArg Int32.toInt ef25
        have z26 := congrArg Int32.toInt (rd_w k24 ef2 rfl)
        refine ev_bipush (v := (-100)) rfl rfl (by decide) ?_
        refine ev_icmp_ne rfl rfl (fun c27 => ?_) (fun c27 => ?_)
        · have z28 := w_ne c27
          rw [show ((-100) : Int32).toInt = (-100) from by decide] at z28
          refine ev_aload_n rfl rfl rfl ?_
          refine ev_V0K hJ24 rfl rfl rfl lk_X10_136 vt_X10_keeps rfl rfl rfl rfl rfl (w_X10_keeps_63 L b h24 hJ24.1 (by have z0_ := congrArg Int32.toInt ef25; have z1_ := congrArg Int32.toInt (rd_w k24 ef2 rfl); have z_ := w_lits; have zl_ := l_lits; omega) (KS.call hKS k24 (fun _ => rfl))) (fun h31 hJ31 k31 m31 => ?_)
          refine ev_aload_n rfl rfl rfl ?_
          refine ev_iload_n rfl rfl rfl ?_
          refine ev_iload_n rfl rfl rfl ?_
          have z32 := congrArg Int32.toInt (rd_w k31 ef25 rfl)
          have z33 := congrArg Int32.toInt (rd_w k31 (rd_w k24 ef2 rfl) rfl)
          refine ev_V2I hJ31 rfl rfl rfl lk_X10_279 vt_X10_goesAll rfl rfl rfl rfl rfl (w_X10_goesAll_63 L b h31 hJ31.1 a0 b8 a1 (by have z0_ := congrArg Int32.toInt (rd_w k31 ef25 rfl); have z1_ := congrArg Int32.toInt (rd_w k31 (rd_w k24 ef2 rfl) rfl); have z_ := w_lits; have zl_ := l_lits; omega)) (fun r34 h34 q34 hJ34 k34 => ?_)
          obtain ⟨b34, m34_0⟩ := q34
          obtain ⟨f35, ef35⟩ : ∃ f_, h34 63 0 = f_ := ⟨_, rfl⟩
          have bf35 : B f35 0 200 := by have z_ := hJ34.1 63 0; rw [ef35] at z_; exact z_
          have zf35 := congrArg Int32.toInt ef35
          have z36 := congrArg Int32.toInt (rd_w k34 (rd_w k31 (rd_w k24 ef2 rfl) rfl) rfl)
          exact ev_iret rfl rfl rfl ⟨⟨_, rfl, ⟨b34, (by have z0_ := congrArg Int32.toInt ef35; have z1_ := congrArg Int32.toInt (rd_w k34 (rd_w k31 (rd_w k24 ef2 rfl) rfl) rfl); have z_ := w_lits; have zl_ := l_lits; omega), (KS.call m31 k34 (fun _ => rfl))⟩⟩, rfl, hJ34⟩
        · have b29 : B r24 (-100) (-100) := R_eqX b24 (by decide : B (-100) (-100) (-100)) c27
          have z30 := congrArg Int32.toInt c27
          rw [show ((-100) : Int32).toInt = (-100) from by decide] at z30
          refine ev_bipush (v := (-100)) rfl rfl (by decide) ?_
          exact ev_iret rfl rfl rfl ⟨⟨_, rfl, ⟨((by decide : B (-100) (-100) (-100)).mono (by decide) (by decide)), (by have z0_ := congrArg Int32.toInt ef25; have z1_ := congrArg Int32.toInt (rd_w k24 ef2 rfl); have z_ := w_lits; have zl_ := l_lits; omega), (KS.call hKS k24 (fun _ => rfl))⟩⟩, rfl, hJ24⟩
      · have b22 : B r18 0 0 := R_eqX q18 (by decide : B 0 0 0) c19
        have z23 := congrArg Int32.toInt c19
        rw [show (0 : Int32).toInt = 0 from by decide] at z23
        refine ev_bipush (v := (-2)) rfl rfl (by decide) ?_
        exact ev_iret rfl rfl rfl ⟨⟨_, rfl, ⟨((by decide : B (-2) (-2) (-2)).mono (by decide) (by decide)), (by have z0_ := congrArg Int32.toInt ef1; have z1_ := congrArg Int32.toInt ef2; have z_ := w_lits; have zl_ := l_lits; omega), hKS⟩⟩, rfl, hJ0⟩
    · have b16 : B r11 0 0 := R_eqX b11 (by decide : B 0 0 0) c12
      have z17 := congrArg Int32.toInt c12
      rw [show (0 : Int32).toInt = 0 from by decide] at z17
      refine ev_iconst (v := (-1)) rfl rfl (by decide) ?_
      exact ev_iret rfl rfl rfl ⟨⟨_, rfl, ⟨((by decide : B (-1) (-1) (-1)).mono (by decide) (by decide)), (by have z0_ := congrArg Int32.toInt ef1; have z1_ := congrArg Int32.toInt ef2; have z_ := w_lits; have zl_ := l_lits; omega), hKS⟩⟩, rfl, hJ0⟩

set_option maxRecDepth 100000 in
set_option maxHeartbeats 4000000 in
theorem w_X10_would_63 (L : Nat) (b : Bool) (h : Hp) (hB : Bx h) (a0 : Int32) (a1 : Int32) (rp0 : (h 63 0).toInt ≤ (h 63 3).toInt) : EvI mi_X10_would [.ref 63, .int a0, .int a1] (G0 L b) h (fun (r : Int32) (z : Hp) => B r (-123) 2147483647 ∧ ((z 63 0).toInt ≤ (z 63 3).toInt)) [(63, 0), (63, 1), (63, 4)] := by
  refine EvM.of2 (lo := [some (.ref 63), some (.int a0), some (.int a1)]) pf_X10_would ok_X10_would rfl rfl ?_
  have hJ0 : JW [(63, 0), (63, 1), (63, 4)] h h := JW.refl hB
  obtain ⟨f1, ef1⟩ : ∃ f_, h 63 0 = f_ := ⟨_, rfl⟩
  have bf1 : B f1 0 200 := by have z_ := hJ0.1 63 0; rw [ef1] at z_; exact z_
  have zf1 := congrArg Int32.toInt ef1
  obtain ⟨f2, ef2⟩ : ∃ f_, h 63 3 = f_ := ⟨_, rfl⟩
  have bf2 : B f2 0 200 := by have z_ := hJ0.1 63 3; rw [ef2] at z_; exact z_
  have zf2 := congrArg Int32.toInt ef2
  refine ev_aload_n rfl rfl rfl ?_
  refine ev_iload_n rfl rfl rfl ?_
  refine ev_V1P rfl rfl lk_X10_266 vt_X10_isTune rfl rfl rfl rfl rfl (w_X10_isTune_63 L b h hJ0.1 a0) (fun r3 q3 => ?_)
  obtain ⟨b3, p3_0⟩ := q3
  refine ev_if_eq rfl rfl (fun c4 => ?_) (fun c4 => ?_)
  · have b5 : B r3 0 0 := R_eqX b3 (by decide : B 0 0 0) c4
    have z6 := congrArg Int32.toInt c4
    rw [show (0 : Int32).toInt = 0 from by decide] at z6
    refine ev_iconst (v := (-1)) rfl rfl (by decide) ?_
    exact ev_iret rfl rfl rfl ⟨⟨_, rfl, ⟨((by decide : B (-1) (-1) (-1)).mono (by decide) (by decide)), (by have z0_ := congrArg Int32.toInt ef1; have z1_ := congrArg Int32.toInt ef2; have z_ := w_lits; have zl_ := l_lits; omega)⟩⟩, rfl, hJ0⟩
  · have b7 : B r3 1 1 := R_neL b3 (by decide : B 0 0 0) c4 (by decide)
    have b8 : B a0 0 5 := p3_0 c4
    have z9 := w_ne c4
    rw [show (0 : Int32).toInt = 0 from by decide] at z9
    refine ev_iload_n rfl rfl rfl ?_
    refine ev_i2l rfl rfl ?_
    have z10 := Int32.toInt_toInt64 a1
    have z10b := B.any a1
    refine ev_ldc2 (v := (-11)) rfl rfl kc_X10_282 ?_
    refine ev_ldc2 (v := 11) rfl rfl kc_X10_284 ?_
    refine ev_S3P rfl rfl lk_X10_124 st_X10_in rfl rfl (w_inR (G0 L b) h a1 (-11) 11 (by decide : BL (-11) (-11) (-11)) (by decide : BL 11 11 11)) (fun r11 q11 => ?_)
    obtain ⟨b11, p11_0, pp11_0, pp11_1⟩ := q11
    refine ev_if_ne rfl rfl (fun c12 => ?_) (fun c12 => ?_)
    · have b13 : B r11 1 1 := R_neL b11 (by decide : B 0 0 0) c12 (by decide)
      have b14 : B a1 (-11) 11 := p11_0 c12
      have z15 := w_ne c12
      rw [show (0 : Int32).toInt = 0 from by decide] at z15
      refine ev_aload_n rfl rfl rfl ?_
      refine ev_iload_n rfl rfl rfl ?_
      refine ev_iload_n rfl rfl rfl ?_
      refine ev_V2P rfl rfl lk_X10_286 vt_X10_isIn rfl rfl rfl rfl rfl (w_X10_isIn_63 L b h hJ0.1 a0 b8 a1) (fun r18 q18 => ?_)
      refine ev_if_eq rfl rfl (fun c19 => ?_) (fun c19 => ?_)
      · have b20 : B r18 0 0 := R_eqX q18 (by decide : B 0 0 0) c19
        have z21 := congrArg Int32.toInt c19
        rw [show (0 : Int32).toInt = 0 from by decide] at z21
        refine ev_bipush (v := (-2)) rfl rfl (by decide) ?_
        exact ev_iret rfl rfl rfl ⟨⟨_, rfl, ⟨((by decide : B (-2) (-2) (-2)).mono (by decide) (by decide)), (by have z0_ := congrArg Int32.toInt ef1; have z1_ := congrArg Int32.toInt ef2; have z_ := w_lits; have zl_ := l_lits; omega)⟩⟩, rfl, hJ0⟩
      · have b22 : B r18 1 1 := R_neL q18 (by decide : B 0 0 0) c19 (by decide)
        have z23 := w_ne c19
        rw [show (0 : Int32).toInt = 0 from by decide] at z23
        refine ev_aload_n rfl rfl rfl ?_
        refine ev_iload_n rfl rfl rfl ?_
        refine ev_iload_n rfl rfl rfl ?_
        refine ev_V2I hJ0 rfl rfl rfl lk_X10_290 vt_X10_tried rfl rfl rfl rfl rfl (w_X10_tried_63 L b h hJ0.1 a0 b8 a1 (by have z0_ := congrArg Int32.toInt ef1; have z1_ := congrArg Int32.toInt ef2; have z_ := w_lits; have zl_ := l_lits; omega)) (fun r24 h24 q24 hJ24 k24 => ?_)
        obtain ⟨b24, m24_0⟩ := q24
        obtain ⟨f25, ef25⟩ : ∃ f_, h24 63 0 = f_ := ⟨_, rfl⟩
        have bf25 : B f25 0 200 := by have z_ := hJ24.1 63 0; rw [ef25] at z_; exact z_
        have zf25 := congrArg Int32.toInt ef25
        have z26 := congrArg Int32.toInt (rd_w k24 ef2 rfl)
        refine ev_goto rfl rfl ?_
        exact ev_iret rfl rfl rfl ⟨⟨_, rfl, ⟨b24, (by have z0_ := congrArg Int32.toInt ef25; have z1_ := congrArg Int32.toInt (rd_w k24 ef2 rfl); have z_ := w_lits; have zl_ := l_lits; omega)⟩⟩, rfl, hJ24⟩
    · have b16 : B r11 0 0 := R_eqX b11 (by decide : B 0 0 0) c12
      have z17 := congrArg Int32.toInt c12
      rw [show (0 : Int32).toInt = 0 from by decide] at z17
      refine ev_iconst (v := (-1)) rfl rfl (by decide) ?_
      exact ev_iret rfl rfl rfl ⟨⟨_, rfl, ⟨((by decide : B (-1) (-1) (-1)).mono (by decide) (by decide)), (by have z0_ := congrArg Int32.toInt ef1; have z1_ := congrArg Int32.toInt ef2; have z_ := w_lits; have zl_ := l_lits; omega)⟩⟩, rfl, hJ0⟩

set_option maxRecDepth 100000 in
set_option maxHeartbeats 4000000 in
theorem w_X10_key_63 (L : Nat) (b : Bool) (h : Hp) (hB : Bx h) (a0 : Int32) (a1 : Int32) (rp0 : (h 63 0).toInt ≤ (h 63 3).toInt) : EvI mi_X10_key [.ref 63, .int a0, .int a1] (G0 L b) h (fun (r : Int32) (z : Hp) => B r (-2147483648) 2147483647 ∧ ((z 63 0).toInt ≤ (z 63 3).toInt)) [(63, 0), (63, 1), (63, 4)] := by
  refine EvM.of2 (lo := [some (.ref 63), some (.int a0), some (.int a1), none, none, none, none, none, none]) pf_X10_key ok_X10_key rfl rfl ?_
  have hJ0 : JW [(63, 0), (63, 1), (63, 4)] h h := JW.refl hB
  obtain ⟨f1, ef1⟩ : ∃ f_, h 63 0 = f_ := ⟨_, rfl⟩
  have bf1 : B f1 0 200 := by have z_ := hJ0.1 63 0; rw [ef1] at z_; exact z_
  have zf1 := congrArg Int32.toInt ef1
  obtain ⟨f2, ef2⟩ : ∃ f_, h 63 3 = f_ := ⟨_, rfl⟩
  have bf2 : B f2 0 200 := by have z_ := hJ0.1 63 3; rw [ef2] at z_; exact z_
  have zf2 := congrArg Int32.toInt ef2
  refine ev_aload_n rfl rfl rfl ?_
  refine ev_iload_n rfl rfl rfl ?_
  refine ev_V1P rfl rfl lk_X10_266 vt_X10_isTune rfl rfl rfl rfl rfl (w_X10_isTune_63 L b h hJ0.1 a0) (fun r3 q3 => ?_)
  obtain ⟨b3, p3_0⟩ := q3
  refine ev_if_eq rfl rfl (fun c4 => ?_) (fun c4 => ?_)
  · have b5 : B r3 0 0 := R_eqX b3 (by decide : B 0 0 0) c4
    have z6 := congrArg Int32.toInt c4
    rw [show (0 : Int32).toInt = 0 from by decide] at z6
    refine ev_bipush (v := (-100)) rfl rfl (by decide) ?_
    exact ev_iret rfl rfl rfl ⟨⟨_, rfl, ⟨((by decide : B (-100) (-100) (-100)).mono (by decide) (by decide)), (by have z0_ := congrArg Int32.toInt ef1; have z1_ := congrArg Int32.toInt ef2; have z_ := w_lits; have zl_ := l_lits; omega)⟩⟩, rfl, hJ0⟩
  · have b7 : B r3 1 1 := R_neL b3 (by decide : B 0 0 0) c4 (by decide)
    have b8 : B a0 0 5 := p3_0 c4
    have z9 := w_ne c4
    rw [show (0 : Int32).toInt = 0 from by decide] at z9
    refine ev_iload_n rfl rfl rfl ?_
    refine ev_i2l rfl rfl ?_
    have z10 := Int32.toInt_toInt64 a1
    have z10b := B.any a1
    refine ev_lconst (v := 0) rfl rfl rfl ?_
    refine ev_ldc2 (v := 2) rfl rfl kc_X10_183 ?_
    refine ev_S3P rfl rfl lk_X10_124 st_X10_in rfl rfl (w_inR (G0 L b) h a1 0 2 (by decide : BL 0 0 0) (by decide : BL 2 2 2)) (fun r11 q11 => ?_)
    obtain ⟨b11, p11_0, pp11_0, pp11_1⟩ := q11
    refine ev_if_ne rfl rfl (fun c12 => ?_) (fun c12 => ?_)
    · have b13 : B r11 1 1 := R_neL b11 (by decide : B 0 0 0) c12 (by decide)
      have b14 : B a1 0 2 := p11_0 c12
      have z15 := w_ne c12
      rw [show (0 : Int32).toInt = 0 from by decide] at z15
      refine ev_bipush (v := (-104)) rfl rfl (by decide) ?_
      refine ev_istore_n rfl rfl rfl rfl ?_
      dsimp only [List.set]
      refine ev_iconst (v := 0) rfl rfl (by decide) ?_
      refine ev_istore rfl rfl rfl rfl ?_
      dsimp only [List.set]
      refine ev_iconst (v := 0) rfl rfl (by decide) ?_
      refine ev_istore rfl rfl rfl rfl ?_
      dsimp only [List.set]
      refine ev_iconst (v := 0) rfl rfl (by decide) ?_
      refine ev_istore rfl rfl rfl rfl ?_
      dsimp only [List.set]
      have lp35_940 : ∀ (n : Nat) (w941 : Int32) (w942 : Int32) (w943 : Int32) (w944 : Int32) (h947 : Hp), B w942 0 2147483647 → B w944 0 23 → JW [(63, 0), (63, 1), (63, 4)] h h947 → (h947 63 3 = f2) → ((h947 63 0).toInt ≤ (h947 63 3).toInt) → 23 + 1 - w944.toInt ≤ (n : Int) → EvQ mi_X10_key 35 [some (.ref 63), some (.int a0), some (.int a1), some (.int w941), some (.int w942), some (.int w943), some (.int w944), none, none] [] (G0 L b) h947 0 0 (QI (fun (r : Int32) (z : Hp) => B r (-2147483648) 2147483647 ∧ ((z 63 0).toInt ≤ (z 63 3).toInt)) [(63, 0), (63, 1), (63, 4)] (G0 L b) h) := by
        intro n
        induction n with
        | zero =>
          intro w941 w942 w943 w944 h947 b945 b946 hJ948 z949 y35_0 hm35
          exact absurd hm35 (L_zero b946 (by decide))
        | succ n ih35 =>
          intro w941 w942 w943 w944 h947 b945 b946 hJ948 z949 y35_0 hm35
          obtain ⟨f950, ef950⟩ : ∃ f_, h947 63 0 = f_ := ⟨_, rfl⟩
          have bf950 : B f950 0 200 := by have z_ := hJ948.1 63 0; rw [ef950] at z_; exact z_
          have zf950 := congrArg Int32.toInt ef950
          have z951 := congrArg Int32.toInt z949
          refine ev_iload rfl rfl rfl ?_
          refine ev_bipush (v := 23) rfl rfl (by decide) ?_
          refine ev_icmp_ge rfl rfl (fun c952 => ?_) (fun c952 => ?_)
          · have b953 : B w944 23 23 := R_leY (by decide : B 23 23 23) b946 c952 (by decide)
            have z954 := w_le c952
            rw [show (23 : Int32).toInt = 23 from by decide] at z954
            refine ev_iload_n rfl rfl rfl ?_
            refine ev_iconst (v := 2) rfl rfl (by decide) ?_
            refine ev_icmp_ne rfl rfl (fun c957 => ?_) (fun c957 => ?_)
            · have b958 : B a1 0 1 := R_neU b14 (by decide : B 2 2 2) c957 (by decide)
              have z959 := w_ne c957
              rw [show (2 : Int32).toInt = 2 from by decide] at z959
              refine ev_iload_n rfl rfl rfl ?_
              refine ev_bipush (v := (-104)) rfl rfl (by decide) ?_
              refine ev_icmp_ne rfl rfl (fun c962 => ?_) (fun c962 => ?_)
              · have z963 := w_ne c962
                rw [show ((-104) : Int32).toInt = (-104) from by decide] at z963
                refine ev_iload_n rfl rfl rfl ?_
                refine ev_if_ne rfl rfl (fun c966 => ?_) (fun c966 => ?_)
                · have b967 : B a1 1 1 := R_neL b958 (by decide : B 0 0 0) c966 (by decide)
                  have z968 := w_ne c966
                  rw [show (0 : Int32).toInt = 0 from by decide] at z968
                  refine ev_iload rfl rfl rfl ?_
                  exact ev_iret rfl rfl rfl ⟨⟨_, rfl, ⟨(b945.mono (by decide) (by decide)), (by have z0_ := congrArg Int32.toInt ef950; have z1_ := congrArg Int32.toInt z949; have z_ := w_lits; have zl_ := l_lits; omega)⟩⟩, rfl, hJ948⟩
                · have b969 : B a1 0 0 := R_eqX b958 (by decide : B 0 0 0) c966
                  have z970 := congrArg Int32.toInt c966
                  rw [show (0 : Int32).toInt = 0 from by decide] at z970
                  refine ev_iload_n rfl rfl rfl ?_
                  refine ev_goto rfl rfl ?_
                  exact ev_iret rfl rfl rfl ⟨⟨_, rfl, ⟨(B.any w941), (by have z0_ := congrArg Int32.toInt ef950; have z1_ := congrArg Int32.toInt z949; have z_ := w_lits; have zl_ := l_lits; omega)⟩⟩, rfl, hJ948⟩
              · have b964 : B w941 (-104) (-104) := R_eqX (B.any w941) (by decide : B (-104) (-104) (-104)) c962
                have z965 := congrArg Int32.toInt c962
                rw [show ((-104) : Int32).toInt = (-104) from by decide] at z965
                refine ev_bipush (v := (-104)) rfl rfl (by decide) ?_
                refine ev_goto rfl rfl ?_
                exact ev_iret rfl rfl rfl ⟨⟨_, rfl, ⟨((by decide : B (-104) (-104) (-104)).mono (by decide) (by decide)), (by have z0_ := congrArg Int32.toInt ef950; have z1_ := congrArg Int32.toInt z949; have z_ := w_lits; have zl_ := l_lits; omega)⟩⟩, rfl, hJ948⟩
            · have b960 : B a1 2 2 := R_eqX b14 (by decide : B 2 2 2) c957
              have z961 := congrArg Int32.toInt c957
              rw [show (2 : Int32).toInt = 2 from by decide] at z961
              refine ev_iload rfl rfl rfl ?_
              refine ev_goto rfl rfl ?_
              exact ev_iret rfl rfl rfl ⟨⟨_, rfl, ⟨(B.any w943), (by have z0_ := congrArg Int32.toInt ef950; have z1_ := congrArg Int32.toInt z949; have z_ := w_lits; have zl_ := l_lits; omega)⟩⟩, rfl, hJ948⟩
          · have b955 : B w944 0 22 := R_ltX b946 (by decide : B 23 23 23) (Int32.not_le.mp c952) (by decide)
            have z956 := w_lt (Int32.not_le.mp c952)
            rw [show (23 : Int32).toInt = 23 from by decide] at z956
            refine ev_iload rfl rfl rfl ?_
            refine ev_iconst (v := 2) rfl rfl (by decide) ?_
            refine ev_iremB (u := 1) rfl rfl b955 (by decide : B 2 2 2) (by decide) (by decide) (by decide) (by decide) (fun v971 b971 => ?_)
            refine ev_iconst (v := 1) rfl rfl (by decide) ?_
            refine ev_icmp_ne rfl rfl (fun c972 => ?_) (fun c972 => ?_)
            · have b973 : B v971 0 0 := R_neU b971 (by decide : B 1 1 1) c972 (by decide)
              have z974 := w_ne c972
              rw [show (1 : Int32).toInt = 1 from by decide] at z974
              refine ev_iload rfl rfl rfl ?_
              refine ev_iconst (v := 2) rfl rfl (by decide) ?_
              refine ev_idivA (by decide : B 2 2 2) (by decide) rfl rfl (fun v977 => ?_)
              refine ev_istore rfl rfl rfl rfl ?_
              dsimp only [List.set]
              refine ev_aload_n rfl rfl rfl ?_
              refine ev_iload_n rfl rfl rfl ?_
              refine ev_iload rfl rfl rfl ?_
              refine ev_V2P rfl rfl lk_X10_286 vt_X10_isIn rfl rfl rfl rfl rfl (w_X10_isIn_63 L b h947 hJ948.1 a0 b8 v977) (fun r978 q978 => ?_)
              refine ev_if_eq rfl rfl (fun c979 => ?_) (fun c979 => ?_)
              · have b980 : B r978 0 0 := R_eqX q978 (by decide : B 0 0 0) c979
                have z981 := congrArg Int32.toInt c979
                rw [show (0 : Int32).toInt = 0 from by decide] at z981
                refine ev_iincB (y := 1) (l := 1) (u := 23) rfl rfl rfl (by decide) rfl rfl b955 (by decide : B 1 1 1) (by decide) (by decide) (by decide) (by decide) (fun v984 b984 e984 => ?_)
                dsimp only [List.set]
                have e984x := e984; rw [show (1 : Int32).toInt = 1 from by decide] at e984x
                refine ev_goto rfl rfl ?_
                exact (EvQ.drop 7 (ih35 w941 w942 w943 v984 h947 b945 (b984.mono (by decide) (by decide)) hJ948 z949 (by have z0_ := congrArg Int32.toInt ef950; have z1_ := congrArg Int32.toInt z949; have z_ := w_lits; have zl_ := l_lits; omega) (L_up hm35 (e_p1 e984 (by decide)))))
              · have b982 : B r978 1 1 := R_neL q978 (by decide : B 0 0 0) c979 (by decide)
                have z983 := w_ne c979
                rw [show (0 : Int32).toInt = 0 from by decide] at z983
                refine ev_iincA rfl rfl rfl rfl rfl (fun v985 => ?_)
                dsimp only [List.set]
                refine ev_aload_n rfl rfl rfl ?_
                refine ev_iload_n rfl rfl rfl ?_
                refine ev_iload rfl rfl rfl ?_
                refine ev_V2I hJ948 rfl rfl rfl lk_X10_290 vt_X10_tried rfl rfl rfl rfl rfl (w_X10_tried_63 L b h947 hJ948.1 a0 b8 v977 (by have z0_ := congrArg Int32.toInt ef950; have z1_ := congrArg Int32.toInt z949; have z_ := w_lits; have zl_ := l_lits; omega)) (fun r986 h986 q986 hJ986 k986 => ?_)
                obtain ⟨b986, m986_0⟩ := q986
                obtain ⟨f987, ef987⟩ : ∃ f_, h986 63 0 = f_ := ⟨_, rfl⟩
                have bf987 : B f987 0 200 := by have z_ := hJ986.1 63 0; rw [ef987] at z_; exact z_
                have zf987 := congrArg Int32.toInt ef987
                have z988 := congrArg Int32.toInt (rd_w k986 z949 rfl)
                refine ev_istore rfl rfl rfl rfl ?_
                dsimp only [List.set]
                refine ev_iload rfl rfl rfl ?_
                refine ev_if_lt rfl rfl (fun c989 => ?_) (fun c989 => ?_)
                · have b990 : B r986 (-123) (-1) := R_ltX b986 (by decide : B 0 0 0) c989 (by decide)
                  have z991 := w_lt c989
                  rw [show (0 : Int32).toInt = 0 from by decide] at z991
                  refine ev_iincB (y := 1) (l := 1) (u := 23) rfl rfl rfl (by decide) rfl rfl b955 (by decide : B 1 1 1) (by decide) (by decide) (by decide) (by decide) (fun v994 b994 e994 => ?_)
                  dsimp only [List.set]
                  have e994x := e994; rw [show (1 : Int32).toInt = 1 from by decide] at e994x
                  refine ev_goto rfl rfl ?_
                  exact (EvQ.drop 8 (EvQ.drop 7 (ih35 w941 w942 v985 v994 h986 b945 (b994.mono (by decide) (by decide)) hJ986 (rd_w k986 z949 rfl) (by have z0_ := congrArg Int32.toInt ef987; have z1_ := congrArg Int32.toInt (rd_w k986 z949 rfl); have z_ := w_lits; have zl_ := l_lits; omega) (L_up hm35 (e_p1 e994 (by decide))))))
                · have b992 : B r986 0 2147483647 := R_leY (by decide : B 0 0 0) b986 (Int32.not_lt.mp c989) (by decide)
                  have z993 := w_le (Int32.not_lt.mp c989)
                  rw [show (0 : Int32).toInt = 0 from by decide] at z993
                  refine ev_iload_n rfl rfl rfl ?_
                  refine ev_bipush (v := (-104)) rfl rfl (by decide) ?_
                  refine ev_icmp_eq rfl rfl (fun c995 => ?_) (fun c995 => ?_)
                  · have b996 : B w941 (-104) (-104) := R_eqX (B.any w941) (by decide : B (-104) (-104) (-104)) c995
                    have z997 := congrArg Int32.toInt c995
                    rw [show ((-104) : Int32).toInt = (-104) from by decide] at z997
                    refine ev_iload rfl rfl rfl ?_
                    refine ev_istore_n rfl rfl rfl rfl ?_
                    dsimp only [List.set]
                    refine ev_iload rfl rfl rfl ?_
                    refine ev_istore rfl rfl rfl rfl ?_
                    dsimp only [List.set]
                    refine ev_iincB (y := 1) (l := 1) (u := 23) rfl rfl rfl (by decide) rfl rfl b955 (by decide : B 1 1 1) (by decide) (by decide) (by decide) (by decide) (fun v999 b999 e999 => ?_)
                    dsimp only [List.set]
                    have e999x := e999; rw [show (1 : Int32).toInt = 1 from by decide] at e999x
                    refine ev_goto rfl rfl ?_
                    exact (EvQ.drop 8 (EvQ.drop 7 (ih35 v977 r986 v985 v999 h986 b992 (b999.mono (by decide) (by decide)) hJ986 (rd_w k986 z949 rfl) (by have z0_ := congrArg Int32.toInt ef987; have z1_ := congrArg Int32.toInt (rd_w k986 z949 rfl); have z_ := w_lits; have zl_ := l_lits; omega) (L_up hm35 (e_p1 e999 (by decide))))))
                  · have z998 := w_ne c995
                    rw [show ((-104) : Int32).toInt = (-104) from by decide] at z998
                    refine ev_iload rfl rfl rfl ?_
                    refine ev_iload rfl rfl rfl ?_
                    refine ev_icmp_ge rfl rfl (fun c1000 => ?_) (fun c1000 => ?_)
                    · have z1001 := w_le c1000
                      refine ev_iincB (y := 1) (l := 1) (u := 23) rfl rfl rfl (by decide) rfl rfl b955 (by decide : B 1 1 1) (by decide) (by decide) (by decide) (by decide) (fun v1005 b1005 e1005 => ?_)
                      dsimp only [List.set]
                      have e1005x := e1005; rw [show (1 : Int32).toInt = 1 from by decide] at e1005x
                      refine ev_goto rfl rfl ?_
                      exact (EvQ.drop 8 (EvQ.drop 7 (ih35 w941 w942 v985 v1005 h986 b945 (b1005.mono (by decide) (by decide)) hJ986 (rd_w k986 z949 rfl) (by have z0_ := congrArg Int32.toInt ef987; have z1_ := congrArg Int32.toInt (rd_w k986 z949 rfl); have z_ := w_lits; have zl_ := l_lits; omega) (L_up hm35 (e_p1 e1005 (by decide))))))
                    · have b1002 : B r986 0 2147483646 := R_ltX b992 b945 (Int32.not_le.mp c1000) (by decide)
                      have b1003 : B w942 1 2147483647 := R_ltY b992 b945 (Int32.not_le.mp c1000) (by decide)
                      have z1004 := w_lt (Int32.not_le.mp c1000)
                      refine ev_iload rfl rfl rfl ?_
                      refine ev_istore_n rfl rfl rfl rfl ?_
                      dsimp only [List.set]
                      refine ev_iload rfl rfl rfl ?_
                      refine ev_istore rfl rfl rfl rfl ?_
                      dsimp only [List.set]
                      refine ev_iincB (y := 1) (l := 1) (u := 23) rfl rfl rfl (by decide) rfl rfl b955 (by decide : B 1 1 1) (by decide) (by decide) (by decide) (by decide) (fun v1006 b1006 e1006 => ?_)
                      dsimp only [List.set]
                      have e1006x := e1006; rw [show (1 : Int32).toInt = 1 from by decide] at e1006x
                      refine ev_goto rfl rfl ?_
                      exact (EvQ.drop 8 (EvQ.drop 7 (ih35 v977 r986 v985 v1006 h986 (b1002.mono (by decide) (by decide)) (b1006.mono (by decide) (by decide)) hJ986 (rd_w k986 z949 rfl) (by have z0_ := congrArg Int32.toInt ef987; have z1_ := congrArg Int32.toInt (rd_w k986 z949 rfl); have z_ := w_lits; have zl_ := l_lits; omega) (L_up hm35 (e_p1 e1006 (by decide))))))
            · have b975 : B v971 1 1 := R_eqX b971 (by decide : B 1 1 1) c972
              have z976 := congrArg Int32.toInt c972
              rw [show (1 : Int32).toInt = 1 from by decide] at z976
              refine ev_iload rfl rfl rfl ?_
              refine ev_iconst (v := 1) rfl rfl (by decide) ?_
              refine ev_iaddB (l := 1) (u := 23) rfl rfl b955 (by decide : B 1 1 1) (by decide) (by decide) (by decide) (by decide) (fun v1007 b1007 e1007 g1007 => ?_)
              have e1007x := e1007; rw [show (1 : Int32).toInt = 1 from by decide] at e1007x
              refine ev_inegB (l := -23) (u := -1) rfl rfl b1007 (by decide) (by decide) (by decide) (fun v1008 b1008 => ?_)
              refine ev_iconst (v := 2) rfl rfl (by decide) ?_
              refine ev_idivA (by decide : B 2 2 2) (by decide) rfl rfl (fun v1009 => ?_)
              refine ev_goto rfl rfl ?_
              refine ev_istore rfl rfl rfl rfl ?_
              dsimp only [List.set]
              refine ev_aload_n rfl rfl rfl ?_
              refine ev_iload_n rfl rfl rfl ?_
              refine ev_iload rfl rfl rfl ?_
              refine ev_V2P rfl rfl lk_X10_286 vt_X10_isIn rfl rfl rfl rfl rfl (w_X10_isIn_63 L b h947 hJ948.1 a0 b8 v1009) (fun r1010 q1010 => ?_)
              refine ev_if_eq rfl rfl (fun c1011 => ?_) (fun c1011 => ?_)
              · have b1012 : B r1010 0 0 := R_eqX q1010 (by decide : B 0 0 0) c1011
                have z1013 := congrArg Int32.toInt c1011
                rw [show (0 : Int32).toInt = 0 from by decide] at z1013
                refine ev_iincB (y := 1) (l := 1) (u := 23) rfl rfl rfl (by decide) rfl rfl b955 (by decide : B 1 1 1) (by decide) (by decide) (by decide) (by decide) (fun v1016 b1016 e1016 => ?_)
                dsimp only [List.set]
                have e1016x := e1016; rw [show (1 : Int32).toInt = 1 from by decide] at e1016x
                refine ev_goto rfl rfl ?_
                exact (EvQ.drop 7 (ih35 w941 w942 w943 v1016 h947 b945 (b1016.mono (by decide) (by decide)) hJ948 z949 (by have z0_ := congrArg Int32.toInt ef950; have z1_ := congrArg Int32.toInt z949; have z_ := w_lits; have zl_ := l_lits; omega) (L_up hm35 (e_p1 e1016 (by decide)))))
              · have b1014 : B r1010 1 1 := R_neL q1010 (by decide : B 0 0 0) c1011 (by decide)
                have z1015 := w_ne c1011
                rw [show (0 : Int32).toInt = 0 from by decide] at z1015
                refine ev_iincA rfl rfl rfl rfl rfl (fun v1017 => ?_)
                dsimp only [List.set]
                refine ev_aload_n rfl rfl rfl ?_
                refine ev_iload_n rfl rfl rfl ?_
                refine ev_iload rfl rfl rfl ?_
                refine ev_V2I hJ948 rfl rfl rfl lk_X10_290 vt_X10_tried rfl rfl rfl rfl rfl (w_X10_tried_63 L b h947 hJ948.1 a0 b8 v1009 (by have z0_ := congrArg Int32.toInt ef950; have z1_ := congrArg Int32.toInt z949; have z_ := w_lits; have zl_ := l_lits; omega)) (fun r1018 h1018 q1018 hJ1018 k1018 => ?_)
                obtain ⟨b1018, m1018_0⟩ := q1018
                obtain ⟨f1019, ef1019⟩ : ∃ f_, h1018 63 0 = f_ := ⟨_, rfl⟩
                have bf1019 : B f1019 0 200 := by have z_ := hJ1018.1 63 0; rw [ef1019] at z_; exact z_
                have zf1019 := congrArg Int32.toInt ef1019
                have z1020 := congrArg Int32.toInt (rd_w k1018 z949 rfl)
                refine ev_istore rfl rfl rfl rfl ?_
                dsimp only [List.set]
                refine ev_iload rfl rfl rfl ?_
                refine ev_if_lt rfl rfl (fun c1021 => ?_) (fun c1021 => ?_)
                · have b1022 : B r1018 (-123) (-1) := R_ltX b1018 (by decide : B 0 0 0) c1021 (by decide)
                  have z1023 := w_lt c1021
                  rw [show (0 : Int32).toInt = 0 from by decide] at z1023
                  refine ev_iincB (y := 1) (l := 1) (u := 23) rfl rfl rfl (by decide) rfl rfl b955 (by decide : B 1 1 1) (by decide) (by decide) (by decide) (by decide) (fun v1026 b1026 e1026 => ?_)
                  dsimp only [List.set]
                  have e1026x := e1026; rw [show (1 : Int32).toInt = 1 from by decide] at e1026x
                  refine ev_goto rfl rfl ?_
                  exact (EvQ.drop 8 (EvQ.drop 7 (ih35 w941 w942 v1017 v1026 h1018 b945 (b1026.mono (by decide) (by decide)) hJ1018 (rd_w k1018 z949 rfl) (by have z0_ := congrArg Int32.toInt ef1019; have z1_ := congrArg Int32.toInt (rd_w k1018 z949 rfl); have z_ := w_lits; have zl_ := l_lits; omega) (L_up hm35 (e_p1 e1026 (by decide))))))
                · have b1024 : B r1018 0 2147483647 := R_leY (by decide : B 0 0 0) b1018 (Int32.not_lt.mp c1021) (by decide)
                  have z1025 := w_le (Int32.not_lt.mp c1021)
                  rw [show (0 : Int32).toInt = 0 from by decide] at z1025
                  refine ev_iload_n rfl rfl rfl ?_
                  refine ev_bipush (v := (-104)) rfl rfl (by decide) ?_
                  refine ev_icmp_eq rfl rfl (fun c1027 => ?_) (fun c1027 => ?_)
                  · have b1028 : B w941 (-104) (-104) := R_eqX (B.any w941) (by decide : B (-104) (-104) (-104)) c1027
                    have z1029 := congrArg Int32.toInt c1027
                    rw [show ((-104) : Int32).toInt = (-104) from by decide] at z1029
                    refine ev_iload rfl rfl rfl ?_
                    refine ev_istore_n rfl rfl rfl rfl ?_
                    dsimp only [List.set]
                    refine ev_iload rfl rfl rfl ?_
                    refine ev_istore rfl rfl rfl rfl ?_
                    dsimp only [List.set]
                    refine ev_iincB (y := 1) (l := 1) (u := 23) rfl rfl rfl (by decide) rfl rfl b955 (by decide : B 1 1 1) (by decide) (by decide) (by decide) (by decide) (fun v1031 b1031 e1031 => ?_)
                    dsimp only [List.set]
                    have e1031x := e1031; rw [show (1 : Int32).toInt = 1 from by decide] at e1031x
                    refine ev_goto rfl rfl ?_
                    exact (EvQ.drop 8 (EvQ.drop 7 (ih35 v1009 r1018 v1017 v1031 h1018 b1024 (b1031.mono (by decide) (by decide)) hJ1018 (rd_w k1018 z949 rfl) (by have z0_ := congrArg Int32.toInt ef1019; have z1_ := congrArg Int32.toInt (rd_w k1018 z949 rfl); have z_ := w_lits; have zl_ := l_lits; omega) (L_up hm35 (e_p1 e1031 (by decide))))))
                  · have z1030 := w_ne c1027
                    rw [show ((-104) : Int32).toInt = (-104) from by decide] at z1030
                    refine ev_iload rfl rfl rfl ?_
                    refine ev_iload rfl rfl rfl ?_
                    refine ev_icmp_ge rfl rfl (fun c1032 => ?_) (fun c1032 => ?_)
                    · have z1033 := w_le c1032
                      refine ev_iincB (y := 1) (l := 1) (u := 23) rfl rfl rfl (by decide) rfl rfl b955 (by decide : B 1 1 1) (by decide) (by decide) (by decide) (by decide) (fun v1037 b1037 e1037 => ?_)
                      dsimp only [List.set]
                      have e1037x := e1037; rw [show (1 : Int32).toInt = 1 from by decide] at e1037x
                      refine ev_goto rfl rfl ?_
                      exact (EvQ.drop 8 (EvQ.drop 7 (ih35 w941 w942 v1017 v1037 h1018 b945 (b1037.mono (by decide) (by decide)) hJ1018 (rd_w k1018 z949 rfl) (by have z0_ := congrArg Int32.toInt ef1019; have z1_ := congrArg Int32.toInt (rd_w k1018 z949 rfl); have z_ := w_lits; have zl_ := l_lits; omega) (L_up hm35 (e_p1 e1037 (by decide))))))
                    · have b1034 : B r1018 0 2147483646 := R_ltX b1024 b945 (Int32.not_le.mp c1032) (by decide)
                      have b1035 : B w942 1 2147483647 := R_ltY b1024 b945 (Int32.not_le.mp c1032) (by decide)
                      have z1036 := w_lt (Int32.not_le.mp c1032)
                      refine ev_iload rfl rfl rfl ?_
                      refine ev_istore_n rfl rfl rfl rfl ?_
                      dsimp only [List.set]
                      refine ev_iload rfl rfl rfl ?_
                      refine ev_istore rfl rfl rfl rfl ?_
                      dsimp only [List.set]
                      refine ev_iincB (y := 1) (l := 1) (u := 23) rfl rfl rfl (by decide) rfl rfl b955 (by decide : B 1 1 1) (by decide) (by decide) (by decide) (by decide) (fun v1038 b1038 e1038 => ?_)
                      dsimp only [List.set]
                      have e1038x := e1038; rw [show (1 : Int32).toInt = 1 from by decide] at e1038x
                      refine ev_goto rfl rfl ?_
                      exact (EvQ.drop 8 (EvQ.drop 7 (ih35 v1009 r1018 v1017 v1038 h1018 (b1034.mono (by decide) (by decide)) (b1038.mono (by decide) (by decide)) hJ1018 (rd_w k1018 z949 rfl) (by have z0_ := congrArg Int32.toInt ef1019; have z1_ := congrArg Int32.toInt (rd_w k1018 z949 rfl); have z_ := w_lits; have zl_ := l_lits; omega) (L_up hm35 (e_p1 e1038 (by decide))))))
      exact (lp35_940 24 (-104) 0 0 0 h ((by decide : B 0 0 0).mono (by decide) (by decide)) ((by decide : B 0 0 0).mono (by decide) (by decide)) hJ0 ef2 (by have z0_ := congrArg Int32.toInt ef1; have z1_ := congrArg Int32.toInt ef2; have z_ := w_lits; have zl_ := l_lits; omega) (L_init (by decide : B 0 0 0) (by decide)))
    · have b16 : B r11 0 0 := R_eqX b11 (by decide : B 0 0 0) c12
      have z17 := congrArg Int32.toInt c12
      rw [show (0 : Int32).toInt = 0 from by decide] at z17
      refine ev_bipush (v := (-100)) rfl rfl (by decide) ?_
      exact ev_iret rfl rfl rfl ⟨⟨_, rfl, ⟨((by decide : B (-100) (-100) (-100)).mono (by decide) (by decide)), (by have z0_ := congrArg Int32.toInt ef1; have z1_ := congrArg Int32.toInt ef2; have z_ := w_lits; have zl_ := l_lits; omega)⟩⟩, rfl, hJ0⟩

