set_option maxRecDepth 100000 in
set_option maxHeartbeats 4000000 in
theorem w_X10_keeps_63 (L : Nat) (b : Bool) (h : Hp) (hB : Bx h) (rp0 : (h 63 0).toInt ≤ (h 63 3).toInt) (hKS : KS h) : EvK mi_X10_keeps [.ref 63] (G0 L b) h (fun z : Hp => (KS z)) [(63, 13), (71, 999)] := by
  refine EvM.of2 (lo := [some (.ref 63), none, none]) pf_X10_keeps ok_X10_keeps rfl rfl ?_
  have hJ0 : JW [(63, 13), (71, 999)] h h := JW.refl hB
  obtain ⟨f1, ef1⟩ : ∃ f_, h 63 13 = f_ := ⟨_, rfl⟩
  have bf1 : B f1 0 10 := by have z_ := hJ0.1 63 13; rw [ef1] at z_; exact z_
  have zf1 := congrArg Int32.toInt ef1
  obtain ⟨f2, ef2⟩ : ∃ f_, h 63 0 = f_ := ⟨_, rfl⟩
  have bf2 : B f2 0 200 := by have z_ := hJ0.1 63 0; rw [ef2] at z_; exact z_
  have zf2 := congrArg Int32.toInt ef2
  obtain ⟨f3, ef3⟩ : ∃ f_, h 63 3 = f_ := ⟨_, rfl⟩
  have bf3 : B f3 0 200 := by have z_ := hJ0.1 63 3; rw [ef3] at z_; exact z_
  have zf3 := congrArg Int32.toInt ef3
  refine ev_aload_n rfl rfl rfl ?_
  refine ev_getV (v := f1) rfl rfl fl_X10_128 rfl rfl rfl ef1 ?_
  refine ev_bipush (v := 10) rfl rfl (by decide) ?_
  refine ev_icmp_ne rfl rfl (fun c4 => ?_) (fun c4 => ?_)
  · have b5 : B f1 0 9 := R_neU bf1 (by decide : B 10 10 10) c4 (by decide)
    have z6 := w_ne c4
    rw [show (10 : Int32).toInt = 10 from by decide] at z6
    refine ev_bipush (v := 42) rfl rfl (by decide) ?_
    refine ev_aload_n rfl rfl rfl ?_
    refine ev_getV (v := f1) rfl rfl fl_X10_128 rfl rfl rfl ef1 ?_
    refine ev_imulB (l := 0) (u := 378) rfl rfl (by decide : B 42 42 42) b5 (by decide) (by decide) (by decide) (by decide) (by decide) (fun v9 b9 e9 g9 => ?_)
    rw [show (42 : Int32).toInt = 42 from by decide] at e9
    refine ev_istore_n rfl rfl rfl rfl ?_
    dsimp only [List.set]
    refine ev_aload_n rfl rfl rfl ?_
    refine ev_getR (y := 71) rfl rfl fl_X10_45 rfl rfl rfl rfl ?_
    refine ev_iload_n rfl rfl rfl ?_
    refine ev_aload_n rfl rfl rfl ?_
    refine ev_getV (v := f2) rfl rfl fl_X10_7 rfl rfl rfl ef2 ?_
    refine ev_iasG (n := 420) hJ0 b9 (by decide) (by decide) (kb_put (c := 0) (by have z0_ := congrArg Int32.toInt ef1; have z1_ := congrArg Int32.toInt ef2; have z2_ := congrArg Int32.toInt ef3; have z_ := w_lits; have zl_ := l_lits; omega) bf2) (fun _ => rfl) rfl rfl rfl rfl (fun h10 hJ10 k10 => ?_)
    refine ev_aload_n rfl rfl rfl ?_
    refine ev_getR (y := 71) rfl rfl fl_X10_45 rfl rfl rfl rfl ?_
    refine ev_iload_n rfl rfl rfl ?_
    refine ev_iconst (v := 1) rfl rfl (by decide) ?_
    refine ev_iaddB (l := 1) (u := 379) rfl rfl b9 (by decide : B 1 1 1) (by decide) (by decide) (by decide) (by decide) (fun v11 b11 e11 g11 => ?_)
    have e11x := e11; rw [show (1 : Int32).toInt = 1 from by decide] at e11x
    refine ev_aload_n rfl rfl rfl ?_
    refine ev_getW (l := (-2147483648)) (u := 2147483647) hJ10.1 rfl rfl rfl fl_X10_13 rfl rfl rfl (fun v12 b12 e12 => ?_)
    refine ev_iasG (n := 420) hJ10 b11 (by decide) (by decide) (kb_put (c := 1) (by have z0_ := congrArg Int32.toInt (rd_a k10 ef1 rfl); have z1_ := congrArg Int32.toInt (rd_a k10 ef2 rfl); have z2_ := congrArg Int32.toInt (rd_a k10 ef3 rfl); have z_ := w_lits; have zl_ := l_lits; omega) (B.any v12)) (fun _ => rfl) rfl rfl rfl rfl (fun h13 hJ13 k13 => ?_)
    refine ev_aload_n rfl rfl rfl ?_
    refine ev_getR (y := 71) rfl rfl fl_X10_45 rfl rfl rfl rfl ?_
    refine ev_iload_n rfl rfl rfl ?_
    refine ev_iconst (v := 2) rfl rfl (by decide) ?_
    refine ev_iaddB (l := 2) (u := 380) rfl rfl b9 (by decide : B 2 2 2) (by decide) (by decide) (by decide) (by decide) (fun v14 b14 e14 g14 => ?_)
    have e14x := e14; rw [show (2 : Int32).toInt = 2 from by decide] at e14x
    refine ev_aload_n rfl rfl rfl ?_
    refine ev_getW (l := (-2147483648)) (u := 2147483647) hJ13.1 rfl rfl rfl fl_X10_16 rfl rfl rfl (fun v15 b15 e15 => ?_)
    refine ev_iasG (n := 420) hJ13 b14 (by decide) (by decide) (kb_put (c := 2) (by have z0_ := congrArg Int32.toInt (rd_a k13 (rd_a k10 ef1 rfl) rfl); have z1_ := congrArg Int32.toInt (rd_a k13 (rd_a k10 ef2 rfl) rfl); have z2_ := congrArg Int32.toInt (rd_a k13 (rd_a k10 ef3 rfl) rfl); have z_ := w_lits; have zl_ := l_lits; omega) (B.any v15)) (fun _ => rfl) rfl rfl rfl rfl (fun h16 hJ16 k16 => ?_)
    refine ev_aload_n rfl rfl rfl ?_
    refine ev_getR (y := 71) rfl rfl fl_X10_45 rfl rfl rfl rfl ?_
    refine ev_iload_n rfl rfl rfl ?_
    refine ev_iconst (v := 3) rfl rfl (by decide) ?_
    refine ev_iaddB (l := 3) (u := 381) rfl rfl b9 (by decide : B 3 3 3) (by decide) (by decide) (by decide) (by decide) (fun v17 b17 e17 g17 => ?_)
    have e17x := e17; rw [show (3 : Int32).toInt = 3 from by decide] at e17x
    refine ev_aload_n rfl rfl rfl ?_
    refine ev_getV (v := f3) rfl rfl fl_X10_19 rfl rfl rfl (rd_a k16 (rd_a k13 (rd_a k10 ef3 rfl) rfl) rfl) ?_
    refine ev_iasG (n := 420) hJ16 b17 (by decide) (by decide) (kb_put (c := 3) (by have z0_ := congrArg Int32.toInt (rd_a k16 (rd_a k13 (rd_a k10 ef1 rfl) rfl) rfl); have z1_ := congrArg Int32.toInt (rd_a k16 (rd_a k13 (rd_a k10 ef2 rfl) rfl) rfl); have z2_ := congrArg Int32.toInt (rd_a k16 (rd_a k13 (rd_a k10 ef3 rfl) rfl) rfl); have z_ := w_lits; have zl_ := l_lits; omega) bf3) (fun _ => rfl) rfl rfl rfl rfl (fun h18 hJ18 k18 => ?_)
    refine ev_aload_n rfl rfl rfl ?_
    refine ev_getR (y := 71) rfl rfl fl_X10_45 rfl rfl rfl rfl ?_
    refine ev_iload_n rfl rfl rfl ?_
    refine ev_iconst (v := 4) rfl rfl (by decide) ?_
    refine ev_iaddB (l := 4) (u := 382) rfl rfl b9 (by decide : B 4 4 4) (by decide) (by decide) (by decide) (by decide) (fun v19 b19 e19 g19 => ?_)
    have e19x := e19; rw [show (4 : Int32).toInt = 4 from by decide] at e19x
    refine ev_aload_n rfl rfl rfl ?_
    refine ev_getW (l := (-2147483648)) (u := 2147483647) hJ18.1 rfl rfl rfl fl_X10_131 rfl rfl rfl (fun v20 b20 e20 => ?_)
    refine ev_iasG (n := 420) hJ18 b19 (by decide) (by decide) (kb_put (c := 4) (by have z0_ := congrArg Int32.toInt (rd_a k18 (rd_a k16 (rd_a k13 (rd_a k10 ef1 rfl) rfl) rfl) rfl); have z1_ := congrArg Int32.toInt (rd_a k18 (rd_a k16 (rd_a k13 (rd_a k10 ef2 rfl) rfl) rfl) rfl); have z2_ := congrArg Int32.toInt (rd_a k18 (rd_a k16 (rd_a k13 (rd_a k10 ef3 rfl) rfl) rfl) rfl); have z_ := w_lits; have zl_ := l_lits; omega) (B.any v20)) (fun _ => rfl) rfl rfl rfl rfl (fun h21 hJ21 k21 => ?_)
    refine ev_aload_n rfl rfl rfl ?_
    refine ev_getR (y := 71) rfl rfl fl_X10_45 rfl rfl rfl rfl ?_
    refine ev_iload_n rfl rfl rfl ?_
    refine ev_iconst (v := 5) rfl rfl (by decide) ?_
    refine ev_iaddB (l := 5) (u := 383) rfl rfl b9 (by decide : B 5 5 5) (by decide) (by decide) (by decide) (by decide) (fun v22 b22 e22 g22 => ?_)
    have e22x := e22; rw [show (5 : Int32).toInt = 5 from by decide] at e22x
    refine ev_aload_n rfl rfl rfl ?_
    refine ev_getW (l := 0) (u := 12) hJ21.1 rfl rfl rfl fl_X10_121 rfl rfl rfl (fun v23 b23 e23 => ?_)
    refine ev_iasG (n := 420) hJ21 b22 (by decide) (by decide) (kb_put (c := 5) (by have z0_ := congrArg Int32.toInt (rd_a k21 (rd_a k18 (rd_a k16 (rd_a k13 (rd_a k10 ef1 rfl) rfl) rfl) rfl) rfl); have z1_ := congrArg Int32.toInt (rd_a k21 (rd_a k18 (rd_a k16 (rd_a k13 (rd_a k10 ef2 rfl) rfl) rfl) rfl) rfl); have z2_ := congrArg Int32.toInt (rd_a k21 (rd_a k18 (rd_a k16 (rd_a k13 (rd_a k10 ef3 rfl) rfl) rfl) rfl) rfl); have z_ := w_lits; have zl_ := l_lits; omega) b23) (fun _ => rfl) rfl rfl rfl rfl (fun h24 hJ24 k24 => ?_)
    have kp25 : KP h24 f1.toInt f2 f3 := KP.mk hKS (by have z0_ := congrArg Int32.toInt (rd_a k24 (rd_a k21 (rd_a k18 (rd_a k16 (rd_a k13 (rd_a k10 ef1 rfl) rfl) rfl) rfl) rfl) rfl); have z1_ := congrArg Int32.toInt (rd_a k24 (rd_a k21 (rd_a k18 (rd_a k16 (rd_a k13 (rd_a k10 ef2 rfl) rfl) rfl) rfl) rfl) rfl); have z2_ := congrArg Int32.toInt (rd_a k24 (rd_a k21 (rd_a k18 (rd_a k16 (rd_a k13 (rd_a k10 ef3 rfl) rfl) rfl) rfl) rfl) rfl); have z_ := w_lits; have zl_ := l_lits; omega) k10 k13 k16 k18 k21 k24 (by have z0_ := congrArg Int32.toInt (rd_a k24 (rd_a k21 (rd_a k18 (rd_a k16 (rd_a k13 (rd_a k10 ef1 rfl) rfl) rfl) rfl) rfl) rfl); have z1_ := congrArg Int32.toInt (rd_a k24 (rd_a k21 (rd_a k18 (rd_a k16 (rd_a k13 (rd_a k10 ef2 rfl) rfl) rfl) rfl) rfl) rfl); have z2_ := congrArg Int32.toInt (rd_a k24 (rd_a k21 (rd_a k18 (rd_a k16 (rd_a k13 (rd_a k10 ef3 rfl) rfl) rfl) rfl) rfl) rfl); have z_ := w_lits; have zl_ := l_lits; omega) (by have z0_ := congrArg Int32.toInt (rd_a k24 (rd_a k21 (rd_a k18 (rd_a k16 (rd_a k13 (rd_a k10 ef1 rfl) rfl) rfl) rfl) rfl) rfl); have z1_ := congrArg Int32.toInt (rd_a k24 (rd_a k21 (rd_a k18 (rd_a k16 (rd_a k13 (rd_a k10 ef2 rfl) rfl) rfl) rfl) rfl) rfl); have z2_ := congrArg Int32.toInt (rd_a k24 (rd_a k21 (rd_a k18 (rd_a k16 (rd_a k13 (rd_a k10 ef3 rfl) rfl) rfl) rfl) rfl) rfl); have z_ := w_lits; have zl_ := l_lits; omega) (by have z0_ := congrArg Int32.toInt (rd_a k24 (rd_a k21 (rd_a k18 (rd_a k16 (rd_a k13 (rd_a k10 ef1 rfl) rfl) rfl) rfl) rfl) rfl); have z1_ := congrArg Int32.toInt (rd_a k24 (rd_a k21 (rd_a k18 (rd_a k16 (rd_a k13 (rd_a k10 ef2 rfl) rfl) rfl) rfl) rfl) rfl); have z2_ := congrArg Int32.toInt (rd_a k24 (rd_a k21 (rd_a k18 (rd_a k16 (rd_a k13 (rd_a k10 ef3 rfl) rfl) rfl) rfl) rfl) rfl); have z_ := w_lits; have zl_ := l_lits; omega) (by have z0_ := congrArg Int32.toInt (rd_a k24 (rd_a k21 (rd_a k18 (rd_a k16 (rd_a k13 (rd_a k10 ef1 rfl) rfl) rfl) rfl) rfl) rfl); have z1_ := congrArg Int32.toInt (rd_a k24 (rd_a k21 (rd_a k18 (rd_a k16 (rd_a k13 (rd_a k10 ef2 rfl) rfl) rfl) rfl) rfl) rfl); have z2_ := congrArg Int32.toInt (rd_a k24 (rd_a k21 (rd_a k18 (rd_a k16 (rd_a k13 (rd_a k10 ef3 rfl) rfl) rfl) rfl) rfl) rfl); have z_ := w_lits; have zl_ := l_lits; omega) (by have z0_ := congrArg Int32.toInt (rd_a k24 (rd_a k21 (rd_a k18 (rd_a k16 (rd_a k13 (rd_a k10 ef1 rfl) rfl) rfl) rfl) rfl) rfl); have z1_ := congrArg Int32.toInt (rd_a k24 (rd_a k21 (rd_a k18 (rd_a k16 (rd_a k13 (rd_a k10 ef2 rfl) rfl) rfl) rfl) rfl) rfl); have z2_ := congrArg Int32.toInt (rd_a k24 (rd_a k21 (rd_a k18 (rd_a k16 (rd_a k13 (rd_a k10 ef3 rfl) rfl) rfl) rfl) rfl) rfl); have z_ := w_lits; have zl_ := l_lits; omega) (by have z0_ := congrArg Int32.toInt (rd_a k24 (rd_a k21 (rd_a k18 (rd_a k16 (rd_a k13 (rd_a k10 ef1 rfl) rfl) rfl) rfl) rfl) rfl); have z1_ := congrArg Int32.toInt (rd_a k24 (rd_a k21 (rd_a k18 (rd_a k16 (rd_a k13 (rd_a k10 ef2 rfl) rfl) rfl) rfl) rfl) rfl); have z2_ := congrArg Int32.toInt (rd_a k24 (rd_a k21 (rd_a k18 (rd_a k16 (rd_a k13 (rd_a k10 ef3 rfl) rfl) rfl) rfl) rfl) rfl); have z_ := w_lits; have zl_ := l_lits; omega)
    refine ev_iconst (v := 0) rfl rfl (by decide) ?_
    refine ev_istore_n rfl rfl rfl rfl ?_
    dsimp only [List.set]
    have lp130_154 : ∀ (n : Nat) (w155 : Int32) (h157 : Hp), B w155 0 12 → JW [(63, 13), (71, 999)] h h157 → (h157 63 13 = f1) → (h157 63 0 = f2) → (h157 63 3 = f3) → (h157 63 1 = v12) → (h157 63 2 = v15) → (h157 63 4 = v20) → (h157 63 5 = v23) → (KP h157 f1.toInt f2 f3) → 12 + 1 - w155.toInt ≤ (n : Int) → EvQ mi_X10_keeps 130 [some (.ref 63), some (.int v9), some (.int w155)] [] (G0 L b) h157 0 0 (QK (fun z : Hp => (KS z)) [(63, 13), (71, 999)] (G0 L b) h) := by
      intro n
      induction n with
      | zero =>
        intro w155 h157 b156 hJ158 z159 z160 z161 z162 z163 z164 z165 u130_0 hm130
        exact absurd hm130 (L_zero b156 (by decide))
      | succ n ih130 =>
        intro w155 h157 b156 hJ158 z159 z160 z161 z162 z163 z164 z165 u130_0 hm130
        have z166 := congrArg Int32.toInt z159
        have z167 := congrArg Int32.toInt z160
        have z168 := congrArg Int32.toInt z161
        refine ev_iload_n rfl rfl rfl ?_
        refine ev_bipush (v := 12) rfl rfl (by decide) ?_
        refine ev_icmp_ge rfl rfl (fun c169 => ?_) (fun c169 => ?_)
        · have b170 : B w155 12 12 := R_leY (by decide : B 12 12 12) b156 c169 (by decide)
          have z171 := w_le c169
          rw [show (12 : Int32).toInt = 12 from by decide] at z171
          refine ev_aload_n rfl rfl rfl ?_
          refine ev_dup rfl rfl rfl ?_
          refine ev_getV (v := f1) rfl rfl fl_X10_128 rfl rfl rfl z159 ?_
          refine ev_iconst (v := 1) rfl rfl (by decide) ?_
          refine ev_iaddB (l := 1) (u := 10) rfl rfl b5 (by decide : B 1 1 1) (by decide) (by decide) (by decide) (by decide) (fun v174 b174 e174 g174 => ?_)
          have e174x := e174; rw [show (1 : Int32).toInt = 1 from by decide] at e174x
          refine ev_putW (l := 0) (u := 10) hJ158 rfl b174 (by decide) (by decide) rfl rfl rfl fl_X10_128 rfl rfl rfl rfl rfl (fun h175 hJ175 k175 => ?_)
          exact ev_vret rfl rfl trivial ⟨rfl, rfl, hJ175, (KP.fin u130_0 (by have z0_ := congrArg Int32.toInt (rd_s k175); have z1_ := congrArg Int32.toInt (rd_o k175 z160 rfl); have z2_ := congrArg Int32.toInt (rd_o k175 z161 rfl); have z_ := w_lits; have zl_ := l_lits; omega) (by have z0_ := congrArg Int32.toInt (rd_s k175); have z1_ := congrArg Int32.toInt (rd_o k175 z160 rfl); have z2_ := congrArg Int32.toInt (rd_o k175 z161 rfl); have z_ := w_lits; have zl_ := l_lits; omega) k175 rfl)⟩
        · have b172 : B w155 0 11 := R_ltX b156 (by decide : B 12 12 12) (Int32.not_le.mp c169) (by decide)
          have z173 := w_lt (Int32.not_le.mp c169)
          rw [show (12 : Int32).toInt = 12 from by decide] at z173
          refine ev_aload_n rfl rfl rfl ?_
          refine ev_getR (y := 71) rfl rfl fl_X10_45 rfl rfl rfl rfl ?_
          refine ev_iload_n rfl rfl rfl ?_
          refine ev_bipush (v := 6) rfl rfl (by decide) ?_
          refine ev_iaddB (l := 6) (u := 384) rfl rfl b9 (by decide : B 6 6 6) (by decide) (by decide) (by decide) (by decide) (fun v176 b176 e176 g176 => ?_)
          have e176x := e176; rw [show (6 : Int32).toInt = 6 from by decide] at e176x
          refine ev_iload_n rfl rfl rfl ?_
          refine ev_iaddB (l := 6) (u := 395) rfl rfl b176 b172 (by decide) (by decide) (by decide) (by decide) (fun v177 b177 e177 g177 => ?_)
          refine ev_aload_n rfl rfl rfl ?_
          refine ev_getR (y := 68) rfl rfl fl_X10_36 rfl rfl rfl rfl ?_
          refine ev_iload_n rfl rfl rfl ?_
          refine ev_ialW (n := 12) (l := (-2147483648)) (u := 2147483647) hJ158.1 b172 (by decide) (by decide) (fun _ => rfl) rfl rfl rfl (fun v178 b178 e178 => ?_)
          refine ev_iasG (n := 420) hJ158 b177 (by decide) (by decide) (kb_putA (by have z0_ := congrArg Int32.toInt z159; have z1_ := congrArg Int32.toInt z160; have z2_ := congrArg Int32.toInt z161; have z_ := w_lits; have zl_ := l_lits; omega)) (fun _ => rfl) rfl rfl rfl rfl (fun h179 hJ179 k179 => ?_)
          have kp180 : KP h179 f1.toInt f2 f3 := KP.set u130_0 (by have z0_ := congrArg Int32.toInt (rd_a k179 z159 rfl); have z1_ := congrArg Int32.toInt (rd_a k179 z160 rfl); have z2_ := congrArg Int32.toInt (rd_a k179 z161 rfl); have z_ := w_lits; have zl_ := l_lits; omega) k179 (by have z0_ := congrArg Int32.toInt (rd_a k179 z159 rfl); have z1_ := congrArg Int32.toInt (rd_a k179 z160 rfl); have z2_ := congrArg Int32.toInt (rd_a k179 z161 rfl); have z_ := w_lits; have zl_ := l_lits; omega) (by have z0_ := congrArg Int32.toInt (rd_a k179 z159 rfl); have z1_ := congrArg Int32.toInt (rd_a k179 z160 rfl); have z2_ := congrArg Int32.toInt (rd_a k179 z161 rfl); have z_ := w_lits; have zl_ := l_lits; omega)
          refine ev_aload_n rfl rfl rfl ?_
          refine ev_getR (y := 71) rfl rfl fl_X10_45 rfl rfl rfl rfl ?_
          refine ev_iload_n rfl rfl rfl ?_
          refine ev_bipush (v := 18) rfl rfl (by decide) ?_
          refine ev_iaddB (l := 18) (u := 396) rfl rfl b9 (by decide : B 18 18 18) (by decide) (by decide) (by decide) (by decide) (fun v181 b181 e181 g181 => ?_)
          have e181x := e181; rw [show (18 : Int32).toInt = 18 from by decide] at e181x
          refine ev_iload_n rfl rfl rfl ?_
          refine ev_iaddB (l := 18) (u := 407) rfl rfl b181 b172 (by decide) (by decide) (by decide) (by decide) (fun v182 b182 e182 g182 => ?_)
          refine ev_aload_n rfl rfl rfl ?_
          refine ev_getR (y := 69) rfl rfl fl_X10_39 rfl rfl rfl rfl ?_
          refine ev_iload_n rfl rfl rfl ?_
          refine ev_ialW (n := 12) (l := (-2147483648)) (u := 2147483647) hJ179.1 b172 (by decide) (by decide) (fun _ => rfl) rfl rfl rfl (fun v183 b183 e183 => ?_)
          refine ev_iasG (n := 420) hJ179 b182 (by decide) (by decide) (kb_putA (by have z0_ := congrArg Int32.toInt (rd_a k179 z159 rfl); have z1_ := congrArg Int32.toInt (rd_a k179 z160 rfl); have z2_ := congrArg Int32.toInt (rd_a k179 z161 rfl); have z_ := w_lits; have zl_ := l_lits; omega)) (fun _ => rfl) rfl rfl rfl rfl (fun h184 hJ184 k184 => ?_)
          have kp185 : KP h184 f1.toInt f2 f3 := KP.set kp180 (by have z0_ := congrArg Int32.toInt (rd_a k184 (rd_a k179 z159 rfl) rfl); have z1_ := congrArg Int32.toInt (rd_a k184 (rd_a k179 z160 rfl) rfl); have z2_ := congrArg Int32.toInt (rd_a k184 (rd_a k179 z161 rfl) rfl); have z_ := w_lits; have zl_ := l_lits; omega) k184 (by have z0_ := congrArg Int32.toInt (rd_a k184 (rd_a k179 z159 rfl) rfl); have z1_ := congrArg Int32.toInt (rd_a k184 (rd_a k179 z160 rfl) rfl); have z2_ := congrArg Int32.toInt (rd_a k184 (rd_a k179 z161 rfl) rfl); have z_ := w_lits; have zl_ := l_lits; omega) (by have z0_ := congrArg Int32.toInt (rd_a k184 (rd_a k179 z159 rfl) rfl); have z1_ := congrArg Int32.toInt (rd_a k184 (rd_a k179 z160 rfl) rfl); have z2_ := congrArg Int32.toInt (rd_a k184 (rd_a k179 z161 rfl) rfl); have z_ := w_lits; have zl_ := l_lits; omega)
          refine ev_aload_n rfl rfl rfl ?_
          refine ev_getR (y := 71) rfl rfl fl_X10_45 rfl rfl rfl rfl ?_
          refine ev_iload_n rfl rfl rfl ?_
          refine ev_bipush (v := 30) rfl rfl (by decide) ?_
          refine ev_iaddB (l := 30) (u := 408) rfl rfl b9 (by decide : B 30 30 30) (by decide) (by decide) (by decide) (by decide) (fun v186 b186 e186 g186 => ?_)
          have e186x := e186; rw [show (30 : Int32).toInt = 30 from by decide] at e186x
          refine ev_iload_n rfl rfl rfl ?_
          refine ev_iaddB (l := 30) (u := 419) rfl rfl b186 b172 (by decide) (by decide) (by decide) (by decide) (fun v187 b187 e187 g187 => ?_)
          refine ev_aload_n rfl rfl rfl ?_
          refine ev_getR (y := 70) rfl rfl fl_X10_42 rfl rfl rfl rfl ?_
          refine ev_iload_n rfl rfl rfl ?_
          refine ev_zalW (n := 12) (l := (-2147483648)) (u := 2147483647) hJ184.1 b172 (by decide) (by decide) (fun _ => rfl) rfl rfl rfl (fun v188 b188 e188 => ?_)
          refine ev_if_eq rfl rfl (fun c189 => ?_) (fun c189 => ?_)
          · have b190 : B v188 0 0 := R_eqX (B.any v188) (by decide : B 0 0 0) c189
            have z191 := congrArg Int32.toInt c189
            rw [show (0 : Int32).toInt = 0 from by decide] at z191
            refine ev_iconst (v := 0) rfl rfl (by decide) ?_
            refine ev_iasG (n := 420) hJ184 b187 (by decide) (by decide) (kb_putA (by have z0_ := congrArg Int32.toInt (rd_a k184 (rd_a k179 z159 rfl) rfl); have z1_ := congrArg Int32.toInt (rd_a k184 (rd_a k179 z160 rfl) rfl); have z2_ := congrArg Int32.toInt (rd_a k184 (rd_a k179 z161 rfl) rfl); have z_ := w_lits; have zl_ := l_lits; omega)) (fun _ => rfl) rfl rfl rfl rfl (fun h193 hJ193 k193 => ?_)
            have kp194 : KP h193 f1.toInt f2 f3 := KP.set kp185 (by have z0_ := congrArg Int32.toInt (rd_a k193 (rd_a k184 (rd_a k179 z159 rfl) rfl) rfl); have z1_ := congrArg Int32.toInt (rd_a k193 (rd_a k184 (rd_a k179 z160 rfl) rfl) rfl); have z2_ := congrArg Int32.toInt (rd_a k193 (rd_a k184 (rd_a k179 z161 rfl) rfl) rfl); have z_ := w_lits; have zl_ := l_lits; omega) k193 (by have z0_ := congrArg Int32.toInt (rd_a k193 (rd_a k184 (rd_a k179 z159 rfl) rfl) rfl); have z1_ := congrArg Int32.toInt (rd_a k193 (rd_a k184 (rd_a k179 z160 rfl) rfl) rfl); have z2_ := congrArg Int32.toInt (rd_a k193 (rd_a k184 (rd_a k179 z161 rfl) rfl) rfl); have z_ := w_lits; have zl_ := l_lits; omega) (by have z0_ := congrArg Int32.toInt (rd_a k193 (rd_a k184 (rd_a k179 z159 rfl) rfl) rfl); have z1_ := congrArg Int32.toInt (rd_a k193 (rd_a k184 (rd_a k179 z160 rfl) rfl) rfl); have z2_ := congrArg Int32.toInt (rd_a k193 (rd_a k184 (rd_a k179 z161 rfl) rfl) rfl); have z_ := w_lits; have zl_ := l_lits; omega)
            refine ev_iincB (y := 1) (l := 1) (u := 12) rfl rfl rfl (by decide) rfl rfl b172 (by decide : B 1 1 1) (by decide) (by decide) (by decide) (by decide) (fun v195 b195 e195 => ?_)
            dsimp only [List.set]
            have e195x := e195; rw [show (1 : Int32).toInt = 1 from by decide] at e195x
            refine ev_goto rfl rfl ?_
            exact (ih130 v195 h193 (b195.mono (by decide) (by decide)) hJ193 (rd_a k193 (rd_a k184 (rd_a k179 z159 rfl) rfl) rfl) (rd_a k193 (rd_a k184 (rd_a k179 z160 rfl) rfl) rfl) (rd_a k193 (rd_a k184 (rd_a k179 z161 rfl) rfl) rfl) (rd_a k193 (rd_a k184 (rd_a k179 z162 rfl) rfl) rfl) (rd_a k193 (rd_a k184 (rd_a k179 z163 rfl) rfl) rfl) (rd_a k193 (rd_a k184 (rd_a k179 z164 rfl) rfl) rfl) (rd_a k193 (rd_a k184 (rd_a k179 z165 rfl) rfl) rfl) kp194 (L_up hm130 (e_p1 e195 (by decide))))
          · have z192 := w_ne c189
            rw [show (0 : Int32).toInt = 0 from by decide] at z192
            refine ev_iconst (v := 1) rfl rfl (by decide) ?_
            refine ev_goto rfl rfl ?_
            refine ev_iasG (n := 420) hJ184 b187 (by decide) (by decide) (kb_putA (by have z0_ := congrArg Int32.toInt (rd_a k184 (rd_a k179 z159 rfl) rfl); have z1_ := congrArg Int32.toInt (rd_a k184 (rd_a k179 z160 rfl) rfl); have z2_ := congrArg Int32.toInt (rd_a k184 (rd_a k179 z161 rfl) rfl); have z_ := w_lits; have zl_ := l_lits; omega)) (fun _ => rfl) rfl rfl rfl rfl (fun h196 hJ196 k196 => ?_)
            have kp197 : KP h196 f1.toInt f2 f3 := KP.set kp185 (by have z0_ := congrArg Int32.toInt (rd_a k196 (rd_a k184 (rd_a k179 z159 rfl) rfl) rfl); have z1_ := congrArg Int32.toInt (rd_a k196 (rd_a k184 (rd_a k179 z160 rfl) rfl) rfl); have z2_ := congrArg Int32.toInt (rd_a k196 (rd_a k184 (rd_a k179 z161 rfl) rfl) rfl); have z_ := w_lits; have zl_ := l_lits; omega) k196 (by have z0_ := congrArg Int32.toInt (rd_a k196 (rd_a k184 (rd_a k179 z159 rfl) rfl) rfl); have z1_ := congrArg Int32.toInt (rd_a k196 (rd_a k184 (rd_a k179 z160 rfl) rfl) rfl); have z2_ := congrArg Int32.toInt (rd_a k196 (rd_a k184 (rd_a k179 z161 rfl) rfl) rfl); have z_ := w_lits; have zl_ := l_lits; omega) (by have z0_ := congrArg Int32.toInt (rd_a k196 (rd_a k184 (rd_a k179 z159 rfl) rfl) rfl); have z1_ := congrArg Int32.toInt (rd_a k196 (rd_a k184 (rd_a k179 z160 rfl) rfl) rfl); have z2_ := congrArg Int32.toInt (rd_a k196 (rd_a k184 (rd_a k179 z161 rfl) rfl) rfl); have z_ := w_lits; have zl_ := l_lits; omega)
            refine ev_iincB (y := 1) (l := 1) (u := 12) rfl rfl rfl (by decide) rfl rfl b172 (by decide : B 1 1 1) (by decide) (by decide) (by decide) (by decide) (fun v198 b198 e198 => ?_)
            dsimp only [List.set]
            have e198x := e198; rw [show (1 : Int32).toInt = 1 from by decide] at e198x
            refine ev_goto rfl rfl ?_
            exact (ih130 v198 h196 (b198.mono (by decide) (by decide)) hJ196 (rd_a k196 (rd_a k184 (rd_a k179 z159 rfl) rfl) rfl) (rd_a k196 (rd_a k184 (rd_a k179 z160 rfl) rfl) rfl) (rd_a k196 (rd_a k184 (rd_a k179 z161 rfl) rfl) rfl) (rd_a k196 (rd_a k184 (rd_a k179 z162 rfl) rfl) rfl) (rd_a k196 (rd_a k184 (rd_a k179 z163 rfl) rfl) rfl) (rd_a k196 (rd_a k184 (rd_a k179 z164 rfl) rfl) rfl) (rd_a k196 (rd_a k184 (rd_a k179 z165 rfl) rfl) rfl) kp197 (L_up hm130 (e_p1 e198 (by decide))))
    exact (lp130_154 13 0 h24 ((by decide : B 0 0 0).mono (by decide) (by decide)) hJ24 (rd_a k24 (rd_a k21 (rd_a k18 (rd_a k16 (rd_a k13 (rd_a k10 ef1 rfl) rfl) rfl) rfl) rfl) rfl) (rd_a k24 (rd_a k21 (rd_a k18 (rd_a k16 (rd_a k13 (rd_a k10 ef2 rfl) rfl) rfl) rfl) rfl) rfl) (rd_a k24 (rd_a k21 (rd_a k18 (rd_a k16 (rd_a k13 (rd_a k10 ef3 rfl) rfl) rfl) rfl) rfl) rfl) (rd_a k24 (rd_a k21 (rd_a k18 (rd_a k16 (rd_a k13 e12 rfl) rfl) rfl) rfl) rfl) (rd_a k24 (rd_a k21 (rd_a k18 (rd_a k16 e15 rfl) rfl) rfl) rfl) (rd_a k24 (rd_a k21 e20 rfl) rfl) (rd_a k24 e23 rfl) kp25 (L_init (by decide : B 0 0 0) (by decide)))
  · have b7 : B f1 10 10 := R_eqX bf1 (by decide : B 10 10 10) c4
    have z8 := congrArg Int32.toInt c4
    rw [show (10 : Int32).toInt = 10 from by decide] at z8
    refine ev_bipush (v := 42) rfl rfl (by decide) ?_
    refine ev_istore_n rfl rfl rfl rfl ?_
    dsimp only [List.set]
    have lp12_840 : ∀ (n : Nat) (w841 : Int32) (h843 : Hp), B w841 42 420 → JW [(63, 13), (71, 999)] h h843 → (h843 63 13 = f1) → (h843 63 0 = f2) → (h843 63 3 = f3) → (SH h h843 w841.toInt) → 420 + 1 - w841.toInt ≤ (n : Int) → EvQ mi_X10_keeps 12 [some (.ref 63), some (.int w841), none] [] (G0 L b) h843 0 0 (QK (fun z : Hp => (KS z)) [(63, 13), (71, 999)] (G0 L b) h) := by
      intro n
      induction n with
      | zero =>
        intro w841 h843 b842 hJ844 z845 z846 z847 u12_0 hm12
        exact absurd hm12 (L_zero b842 (by decide))
      | succ n ih12 =>
        intro w841 h843 b842 hJ844 z845 z846 z847 u12_0 hm12
        have z848 := congrArg Int32.toInt z845
        have z849 := congrArg Int32.toInt z846
        have z850 := congrArg Int32.toInt z847
        refine ev_iload_n rfl rfl rfl ?_
        refine ev_sipush (v := 420) rfl rfl (by decide) ?_
        refine ev_icmp_ge rfl rfl (fun c851 => ?_) (fun c851 => ?_)
        · have b852 : B w841 420 420 := R_leY (by decide : B 420 420 420) b842 c851 (by decide)
          have z853 := w_le c851
          rw [show (420 : Int32).toInt = 420 from by decide] at z853
          have ks856 : KS h843 := SH.ks u12_0 (by have z0_ := congrArg Int32.toInt z845; have z1_ := congrArg Int32.toInt z846; have z2_ := congrArg Int32.toInt z847; have z_ := w_lits; have zl_ := l_lits; omega) (by have z0_ := congrArg Int32.toInt z845; have z1_ := congrArg Int32.toInt z846; have z2_ := congrArg Int32.toInt z847; have z_ := w_lits; have zl_ := l_lits; omega) hKS
          refine ev_aload_n rfl rfl rfl ?_
          refine ev_dup rfl rfl rfl ?_
          refine ev_getV (v := f1) rfl rfl fl_X10_128 rfl rfl rfl z845 ?_
          refine ev_iconst (v := 1) rfl rfl (by decide) ?_
          refine ev_isubB (l := 9) (u := 9) rfl rfl b7 (by decide : B 1 1 1) (by decide) (by decide) (by decide) (by decide) (fun v857 b857 e857 g857 => ?_)
          have e857x := e857; rw [show (1 : Int32).toInt = 1 from by decide] at e857x
          refine ev_putW (l := 0) (u := 10) hJ844 rfl b857 (by decide) (by decide) rfl rfl rfl fl_X10_128 rfl rfl rfl rfl rfl (fun h858 hJ858 k858 => ?_)
          refine ev_bipush (v := 42) rfl rfl (by decide) ?_
          refine ev_aload_n rfl rfl rfl ?_
          refine ev_getV (v := v857) rfl rfl fl_X10_128 rfl rfl rfl (rd_s k858) ?_
          refine ev_imulB (l := 378) (u := 378) rfl rfl (by decide : B 42 42 42) b857 (by decide) (by decide) (by decide) (by decide) (by decide) (fun v859 b859 e859 g859 => ?_)
          rw [show (42 : Int32).toInt = 42 from by decide] at e859
          refine ev_istore_n rfl rfl rfl rfl ?_
          dsimp only [List.set]
          refine ev_aload_n rfl rfl rfl ?_
          refine ev_getR (y := 71) rfl rfl fl_X10_45 rfl rfl rfl rfl ?_
          refine ev_iload_n rfl rfl rfl ?_
          refine ev_aload_n rfl rfl rfl ?_
          refine ev_getV (v := f2) rfl rfl fl_X10_7 rfl rfl rfl (rd_o k858 z846 rfl) ?_
          refine ev_iasG (n := 420) hJ858 b859 (by decide) (by decide) (kb_put (c := 0) (by have z0_ := congrArg Int32.toInt (rd_s k858); have z1_ := congrArg Int32.toInt (rd_o k858 z846 rfl); have z2_ := congrArg Int32.toInt (rd_o k858 z847 rfl); have z_ := w_lits; have zl_ := l_lits; omega) bf2) (fun _ => rfl) rfl rfl rfl rfl (fun h860 hJ860 k860 => ?_)
          refine ev_aload_n rfl rfl rfl ?_
          refine ev_getR (y := 71) rfl rfl fl_X10_45 rfl rfl rfl rfl ?_
          refine ev_iload_n rfl rfl rfl ?_
          refine ev_iconst (v := 1) rfl rfl (by decide) ?_
          refine ev_iaddB (l := 379) (u := 379) rfl rfl b859 (by decide : B 1 1 1) (by decide) (by decide) (by decide) (by decide) (fun v861 b861 e861 g861 => ?_)
          have e861x := e861; rw [show (1 : Int32).toInt = 1 from by decide] at e861x
          refine ev_aload_n rfl rfl rfl ?_
          refine ev_getW (l := (-2147483648)) (u := 2147483647) hJ860.1 rfl rfl rfl fl_X10_13 rfl rfl rfl (fun v862 b862 e862 => ?_)
          refine ev_iasG (n := 420) hJ860 b861 (by decide) (by decide) (kb_put (c := 1) (by have z0_ := congrArg Int32.toInt (rd_a k860 (rd_s k858) rfl); have z1_ := congrArg Int32.toInt (rd_a k860 (rd_o k858 z846 rfl) rfl); have z2_ := congrArg Int32.toInt (rd_a k860 (rd_o k858 z847 rfl) rfl); have z_ := w_lits; have zl_ := l_lits; omega) (B.any v862)) (fun _ => rfl) rfl rfl rfl rfl (fun h863 hJ863 k863 => ?_)
          refine ev_aload_n rfl rfl rfl ?_
          refine ev_getR (y := 71) rfl rfl fl_X10_45 rfl rfl rfl rfl ?_
          refine ev_iload_n rfl rfl rfl ?_
          refine ev_iconst (v := 2) rfl rfl (by decide) ?_
          refine ev_iaddB (l := 380) (u := 380) rfl rfl b859 (by decide : B 2 2 2) (by decide) (by decide) (by decide) (by decide) (fun v864 b864 e864 g864 => ?_)
          have e864x := e864; rw [show (2 : Int32).toInt = 2 from by decide] at e864x
          refine ev_aload_n rfl rfl rfl ?_
          refine ev_getW (l := (-2147483648)) (u := 2147483647) hJ863.1 rfl rfl rfl fl_X10_16 rfl rfl rfl (fun v865 b865 e865 => ?_)
          refine ev_iasG (n := 420) hJ863 b864 (by decide) (by decide) (kb_put (c := 2) (by have z0_ := congrArg Int32.toInt (rd_a k863 (rd_a k860 (rd_s k858) rfl) rfl); have z1_ := congrArg Int32.toInt (rd_a k863 (rd_a k860 (rd_o k858 z846 rfl) rfl) rfl); have z2_ := congrArg Int32.toInt (rd_a k863 (rd_a k860 (rd_o k858 z847 rfl) rfl) rfl); have z_ := w_lits; have zl_ := l_lits; omega) (B.any v865)) (fun _ => rfl) rfl rfl rfl rfl (fun h866 hJ866 k866 => ?_)
          refine ev_aload_n rfl rfl rfl ?_
          refine ev_getR (y := 71) rfl rfl fl_X10_45 rfl rfl rfl rfl ?_
          refine ev_iload_n rfl rfl rfl ?_
          refine ev_iconst (v := 3) rfl rfl (by decide) ?_
          refine ev_iaddB (l := 381) (u := 381) rfl rfl b859 (by decide : B 3 3 3) (by decide) (by decide) (by decide) (by decide) (fun v867 b867 e867 g867 => ?_)
          have e867x := e867; rw [show (3 : Int32).toInt = 3 from by decide] at e867x
          refine ev_aload_n rfl rfl rfl ?_
          refine ev_getV (v := f3) rfl rfl fl_X10_19 rfl rfl rfl (rd_a k866 (rd_a k863 (rd_a k860 (rd_o k858 z847 rfl) rfl) rfl) rfl) ?_
          refine ev_iasG (n := 420) hJ866 b867 (by decide) (by decide) (kb_put (c := 3) (by have z0_ := congrArg Int32.toInt (rd_a k866 (rd_a k863 (rd_a k860 (rd_s k858) rfl) rfl) rfl); have z1_ := congrArg Int32.toInt (rd_a k866 (rd_a k863 (rd_a k860 (rd_o k858 z846 rfl) rfl) rfl) rfl); have z2_ := congrArg Int32.toInt (rd_a k866 (rd_a k863 (rd_a k860 (rd_o k858 z847 rfl) rfl) rfl) rfl); have z_ := w_lits; have zl_ := l_lits; omega) bf3) (fun _ => rfl) rfl rfl rfl rfl (fun h868 hJ868 k868 => ?_)
          refine ev_aload_n rfl rfl rfl ?_
          refine ev_getR (y := 71) rfl rfl fl_X10_45 rfl rfl rfl rfl ?_
          refine ev_iload_n rfl rfl rfl ?_
          refine ev_iconst (v := 4) rfl rfl (by decide) ?_
          refine ev_iaddB (l := 382) (u := 382) rfl rfl b859 (by decide : B 4 4 4) (by decide) (by decide) (by decide) (by decide) (fun v869 b869 e869 g869 => ?_)
          have e869x := e869; rw [show (4 : Int32).toInt = 4 from by decide] at e869x
          refine ev_aload_n rfl rfl rfl ?_
          refine ev_getW (l := (-2147483648)) (u := 2147483647) hJ868.1 rfl rfl rfl fl_X10_131 rfl rfl rfl (fun v870 b870 e870 => ?_)
          refine ev_iasG (n := 420) hJ868 b869 (by decide) (by decide) (kb_put (c := 4) (by have z0_ := congrArg Int32.toInt (rd_a k868 (rd_a k866 (rd_a k863 (rd_a k860 (rd_s k858) rfl) rfl) rfl) rfl); have z1_ := congrArg Int32.toInt (rd_a k868 (rd_a k866 (rd_a k863 (rd_a k860 (rd_o k858 z846 rfl) rfl) rfl) rfl) rfl); have z2_ := congrArg Int32.toInt (rd_a k868 (rd_a k866 (rd_a k863 (rd_a k860 (rd_o k858 z847 rfl) rfl) rfl) rfl) rfl); have z_ := w_lits; have zl_ := l_lits; omega) (B.any v870)) (fun _ => rfl) rfl rfl rfl rfl (fun h871 hJ871 k871 => ?_)
          refine ev_aload_n rfl rfl rfl ?_
          refine ev_getR (y := 71) rfl rfl fl_X10_45 rfl rfl rfl rfl ?_
          refine ev_iload_n rfl rfl rfl ?_
          refine ev_iconst (v := 5) rfl rfl (by decide) ?_
          refine ev_iaddB (l := 383) (u := 383) rfl rfl b859 (by decide : B 5 5 5) (by decide) (by decide) (by decide) (by decide) (fun v872 b872 e872 g872 => ?_)
          have e872x := e872; rw [show (5 : Int32).toInt = 5 from by decide] at e872x
          refine ev_aload_n rfl rfl rfl ?_
          refine ev_getW (l := 0) (u := 12) hJ871.1 rfl rfl rfl fl_X10_121 rfl rfl rfl (fun v873 b873 e873 => ?_)
          refine ev_iasG (n := 420) hJ871 b872 (by decide) (by decide) (kb_put (c := 5) (by have z0_ := congrArg Int32.toInt (rd_a k871 (rd_a k868 (rd_a k866 (rd_a k863 (rd_a k860 (rd_s k858) rfl) rfl) rfl) rfl) rfl); have z1_ := congrArg Int32.toInt (rd_a k871 (rd_a k868 (rd_a k866 (rd_a k863 (rd_a k860 (rd_o k858 z846 rfl) rfl) rfl) rfl) rfl) rfl); have z2_ := congrArg Int32.toInt (rd_a k871 (rd_a k868 (rd_a k866 (rd_a k863 (rd_a k860 (rd_o k858 z847 rfl) rfl) rfl) rfl) rfl) rfl); have z_ := w_lits; have zl_ := l_lits; omega) b873) (fun _ => rfl) rfl rfl rfl rfl (fun h874 hJ874 k874 => ?_)
          have kp875 : KP h874 v857.toInt f2 f3 := KP.mk (KS.set ks856 k858 rfl) (by have z0_ := congrArg Int32.toInt (rd_a k874 (rd_a k871 (rd_a k868 (rd_a k866 (rd_a k863 (rd_a k860 (rd_s k858) rfl) rfl) rfl) rfl) rfl) rfl); have z1_ := congrArg Int32.toInt (rd_a k874 (rd_a k871 (rd_a k868 (rd_a k866 (rd_a k863 (rd_a k860 (rd_o k858 z846 rfl) rfl) rfl) rfl) rfl) rfl) rfl); have z2_ := congrArg Int32.toInt (rd_a k874 (rd_a k871 (rd_a k868 (rd_a k866 (rd_a k863 (rd_a k860 (rd_o k858 z847 rfl) rfl) rfl) rfl) rfl) rfl) rfl); have z_ := w_lits; have zl_ := l_lits; omega) k860 k863 k866 k868 k871 k874 (by have z0_ := congrArg Int32.toInt (rd_a k874 (rd_a k871 (rd_a k868 (rd_a k866 (rd_a k863 (rd_a k860 (rd_s k858) rfl) rfl) rfl) rfl) rfl) rfl); have z1_ := congrArg Int32.toInt (rd_a k874 (rd_a k871 (rd_a k868 (rd_a k866 (rd_a k863 (rd_a k860 (rd_o k858 z846 rfl) rfl) rfl) rfl) rfl) rfl) rfl); have z2_ := congrArg Int32.toInt (rd_a k874 (rd_a k871 (rd_a k868 (rd_a k866 (rd_a k863 (rd_a k860 (rd_o k858 z847 rfl) rfl) rfl) rfl) rfl) rfl) rfl); have z_ := w_lits; have zl_ := l_lits; omega) (by have z0_ := congrArg Int32.toInt (rd_a k874 (rd_a k871 (rd_a k868 (rd_a k866 (rd_a k863 (rd_a k860 (rd_s k858) rfl) rfl) rfl) rfl) rfl) rfl); have z1_ := congrArg Int32.toInt (rd_a k874 (rd_a k871 (rd_a k868 (rd_a k866 (rd_a k863 (rd_a k860 (rd_o k858 z846 rfl) rfl) rfl) rfl) rfl) rfl) rfl); have z2_ := congrArg Int32.toInt (rd_a k874 (rd_a k871 (rd_a k868 (rd_a k866 (rd_a k863 (rd_a k860 (rd_o k858 z847 rfl) rfl) rfl) rfl) rfl) rfl) rfl); have z_ := w_lits; have zl_ := l_lits; omega) (by have z0_ := congrArg Int32.toInt (rd_a k874 (rd_a k871 (rd_a k868 (rd_a k866 (rd_a k863 (rd_a k860 (rd_s k858) rfl) rfl) rfl) rfl) rfl) rfl); have z1_ := congrArg Int32.toInt (rd_a k874 (rd_a k871 (rd_a k868 (rd_a k866 (rd_a k863 (rd_a k860 (rd_o k858 z846 rfl) rfl) rfl) rfl) rfl) rfl) rfl); have z2_ := congrArg Int32.toInt (rd_a k874 (rd_a k871 (rd_a k868 (rd_a k866 (rd_a k863 (rd_a k860 (rd_o k858 z847 rfl) rfl) rfl) rfl) rfl) rfl) rfl); have z_ := w_lits; have zl_ := l_lits; omega) (by have z0_ := congrArg Int32.toInt (rd_a k874 (rd_a k871 (rd_a k868 (rd_a k866 (rd_a k863 (rd_a k860 (rd_s k858) rfl) rfl) rfl) rfl) rfl) rfl); have z1_ := congrArg Int32.toInt (rd_a k874 (rd_a k871 (rd_a k868 (rd_a k866 (rd_a k863 (rd_a k860 (rd_o k858 z846 rfl) rfl) rfl) rfl) rfl) rfl) rfl); have z2_ := congrArg Int32.toInt (rd_a k874 (rd_a k871 (rd_a k868 (rd_a k866 (rd_a k863 (rd_a k860 (rd_o k858 z847 rfl) rfl) rfl) rfl) rfl) rfl) rfl); have z_ := w_lits; have zl_ := l_lits; omega) (by have z0_ := congrArg Int32.toInt (rd_a k874 (rd_a k871 (rd_a k868 (rd_a k866 (rd_a k863 (rd_a k860 (rd_s k858) rfl) rfl) rfl) rfl) rfl) rfl); have z1_ := congrArg Int32.toInt (rd_a k874 (rd_a k871 (rd_a k868 (rd_a k866 (rd_a k863 (rd_a k860 (rd_o k858 z846 rfl) rfl) rfl) rfl) rfl) rfl) rfl); have z2_ := congrArg Int32.toInt (rd_a k874 (rd_a k871 (rd_a k868 (rd_a k866 (rd_a k863 (rd_a k860 (rd_o k858 z847 rfl) rfl) rfl) rfl) rfl) rfl) rfl); have z_ := w_lits; have zl_ := l_lits; omega) (by have z0_ := congrArg Int32.toInt (rd_a k874 (rd_a k871 (rd_a k868 (rd_a k866 (rd_a k863 (rd_a k860 (rd_s k858) rfl) rfl) rfl) rfl) rfl) rfl); have z1_ := congrArg Int32.toInt (rd_a k874 (rd_a k871 (rd_a k868 (rd_a k866 (rd_a k863 (rd_a k860 (rd_o k858 z846 rfl) rfl) rfl) rfl) rfl) rfl) rfl); have z2_ := congrArg Int32.toInt (rd_a k874 (rd_a k871 (rd_a k868 (rd_a k866 (rd_a k863 (rd_a k860 (rd_o k858 z847 rfl) rfl) rfl) rfl) rfl) rfl) rfl); have z_ := w_lits; have zl_ := l_lits; omega)
          refine ev_iconst (v := 0) rfl rfl (by decide) ?_
          refine ev_istore_n rfl rfl rfl rfl ?_
          dsimp only [List.set]
          have lp130_1004 : ∀ (n : Nat) (w1005 : Int32) (h1007 : Hp), B w1005 0 12 → JW [(63, 13), (71, 999)] h h1007 → (h1007 63 13 = v857) → (h1007 63 0 = f2) → (h1007 63 3 = f3) → (h1007 63 1 = v862) → (h1007 63 2 = v865) → (h1007 63 4 = v870) → (h1007 63 5 = v873) → (KP h1007 v857.toInt f2 f3) → 12 + 1 - w1005.toInt ≤ (n : Int) → EvQ mi_X10_keeps 130 [some (.ref 63), some (.int v859), some (.int w1005)] [] (G0 L b) h1007 0 0 (QK (fun z : Hp => (KS z)) [(63, 13), (71, 999)] (G0 L b) h) := by
            intro n
            induction n with
            | zero =>
              intro w1005 h1007 b1006 hJ1008 z1009 z1010 z1011 z1012 z1013 z1014 z1015 u130_0 hm130
              exact absurd hm130 (L_zero b1006 (by decide))
            | succ n ih130 =>
              intro w1005 h1007 b1006 hJ1008 z1009 z1010 z1011 z1012 z1013 z1014 z1015 u130_0 hm130
              have z1016 := congrArg Int32.toInt z1009
              have z1017 := congrArg Int32.toInt z1010
              have z1018 := congrArg Int32.toInt z1011
              refine ev_iload_n rfl rfl rfl ?_
              refine ev_bipush (v := 12) rfl rfl (by decide) ?_
              refine ev_icmp_ge rfl rfl (fun c1019 => ?_) (fun c1019 => ?_)
              · have b1020 : B w1005 12 12 := R_leY (by decide : B 12 12 12) b1006 c1019 (by decide)
                have z1021 := w_le c1019
                rw [show (12 : Int32).toInt = 12 from by decide] at z1021
                refine ev_aload_n rfl rfl rfl ?_
                refine ev_dup rfl rfl rfl ?_
                refine ev_getV (v := v857) rfl rfl fl_X10_128 rfl rfl rfl z1009 ?_
                refine ev_iconst (v := 1) rfl rfl (by decide) ?_
                refine ev_iaddB (l := 10) (u := 10) rfl rfl b857 (by decide : B 1 1 1) (by decide) (by decide) (by decide) (by decide) (fun v1024 b1024 e1024 g1024 => ?_)
                have e1024x := e1024; rw [show (1 : Int32).toInt = 1 from by decide] at e1024x
                refine ev_putW (l := 0) (u := 10) hJ1008 rfl b1024 (by decide) (by decide) rfl rfl rfl fl_X10_128 rfl rfl rfl rfl rfl (fun h1025 hJ1025 k1025 => ?_)
                exact ev_vret rfl rfl trivial ⟨rfl, rfl, hJ1025, (KP.fin u130_0 (by have z0_ := congrArg Int32.toInt (rd_s k1025); have z1_ := congrArg Int32.toInt (rd_o k1025 z1010 rfl); have z2_ := congrArg Int32.toInt (rd_o k1025 z1011 rfl); have z_ := w_lits; have zl_ := l_lits; omega) (by have z0_ := congrArg Int32.toInt (rd_s k1025); have z1_ := congrArg Int32.toInt (rd_o k1025 z1010 rfl); have z2_ := congrArg Int32.toInt (rd_o k1025 z1011 rfl); have z_ := w_lits; have zl_ := l_lits; omega) k1025 rfl)⟩
              · have b1022 : B w1005 0 11 := R_ltX b1006 (by decide : B 12 12 12) (Int32.not_le.mp c1019) (by decide)
                have z1023 := w_lt (Int32.not_le.mp c1019)
                rw [show (12 : Int32).toInt = 12 from by decide] at z1023
                refine ev_aload_n rfl rfl rfl ?_
                refine ev_getR (y := 71) rfl rfl fl_X10_45 rfl rfl rfl rfl ?_
                refine ev_iload_n rfl rfl rfl ?_
                refine ev_bipush (v := 6) rfl rfl (by decide) ?_
                refine ev_iaddB (l := 384) (u := 384) rfl rfl b859 (by decide : B 6 6 6) (by decide) (by decide) (by decide) (by decide) (fun v1026 b1026 e1026 g1026 => ?_)
                have e1026x := e1026; rw [show (6 : Int32).toInt = 6 from by decide] at e1026x
                refine ev_iload_n rfl rfl rfl ?_
                refine ev_iaddB (l := 384) (u := 395) rfl rfl b1026 b1022 (by decide) (by decide) (by decide) (by decide) (fun v1027 b1027 e1027 g1027 => ?_)
                refine ev_aload_n rfl rfl rfl ?_
                refine ev_getR (y := 68) rfl rfl fl_X10_36 rfl rfl rfl rfl ?_
                refine ev_iload_n rfl rfl rfl ?_
                refine ev_ialW (n := 12) (l := (-2147483648)) (u := 2147483647) hJ1008.1 b1022 (by decide) (by decide) (fun _ => rfl) rfl rfl rfl (fun v1028 b1028 e1028 => ?_)
                refine ev_iasG (n := 420) hJ1008 b1027 (by decide) (by decide) (kb_putA (by have z0_ := congrArg Int32.toInt z1009; have z1_ := congrArg Int32.toInt z1010; have z2_ := congrArg Int32.toInt z1011; have z_ := w_lits; have zl_ := l_lits; omega)) (fun _ => rfl) rfl rfl rfl rfl (fun h1029 hJ1029 k1029 => ?_)
                have kp1030 : KP h1029 v857.toInt f2 f3 := KP.set u130_0 (by have z0_ := congrArg Int32.toInt (rd_a k1029 z1009 rfl); have z1_ := congrArg Int32.toInt (rd_a k1029 z1010 rfl); have z2_ := congrArg Int32.toInt (rd_a k1029 z1011 rfl); have z_ := w_lits; have zl_ := l_lits; omega) k1029 (by have z0_ := congrArg Int32.toInt (rd_a k1029 z1009 rfl); have z1_ := congrArg Int32.toInt (rd_a k1029 z1010 rfl); have z2_ := congrArg Int32.toInt (rd_a k1029 z1011 rfl); have z_ := w_lits; have zl_ := l_lits; omega) (by have z0_ := congrArg Int32.toInt (rd_a k1029 z1009 rfl); have z1_ := congrArg Int32.toInt (rd_a k1029 z1010 rfl); have z2_ := congrArg Int32.toInt (rd_a k1029 z1011 rfl); have z_ := w_lits; have zl_ := l_lits; omega)
                refine ev_aload_n rfl rfl rfl ?_
                refine ev_getR (y := 71) rfl rfl fl_X10_45 rfl rfl rfl rfl ?_
                refine ev_iload_n rfl rfl rfl ?_
                refine ev_bipush (v := 18) rfl rfl (by decide) ?_
                refine ev_iaddB (l := 396) (u := 396) rfl rfl b859 (by decide : B 18 18 18) (by decide) (by decide) (by decide) (by decide) (fun v1031 b1031 e1031 g1031 => ?_)
                have e1031x := e1031; rw [show (18 : Int32).toInt = 18 from by decide] at e1031x
                refine ev_iload_n rfl rfl rfl ?_
                refine ev_iaddB (l := 396) (u := 407) rfl rfl b1031 b1022 (by decide) (by decide) (by decide) (by decide) (fun v1032 b1032 e1032 g1032 => ?_)
                refine ev_aload_n rfl rfl rfl ?_
                refine ev_getR (y := 69) rfl rfl fl_X10_39 rfl rfl rfl rfl ?_
                refine ev_iload_n rfl rfl rfl ?_
                refine ev_ialW (n := 12) (l := (-2147483648)) (u := 2147483647) hJ1029.1 b1022 (by decide) (by decide) (fun _ => rfl) rfl rfl rfl (fun v1033 b1033 e1033 => ?_)
                refine ev_iasG (n := 420) hJ1029 b1032 (by decide) (by decide) (kb_putA (by have z0_ := congrArg Int32.toInt (rd_a k1029 z1009 rfl); have z1_ := congrArg Int32.toInt (rd_a k1029 z1010 rfl); have z2_ := congrArg Int32.toInt (rd_a k1029 z1011 rfl); have z_ := w_lits; have zl_ := l_lits; omega)) (fun _ => rfl) rfl rfl rfl rfl (fun h1034 hJ1034 k1034 => ?_)
                have kp1035 : KP h1034 v857.toInt f2 f3 := KP.set kp1030 (by have z0_ := congrArg Int32.toInt (rd_a k1034 (rd_a k1029 z1009 rfl) rfl); have z1_ := congrArg Int32.toInt (rd_a k1034 (rd_a k1029 z1010 rfl) rfl); have z2_ := congrArg Int32.toInt (rd_a k1034 (rd_a k1029 z1011 rfl) rfl); have z_ := w_lits; have zl_ := l_lits; omega) k1034 (by have z0_ := congrArg Int32.toInt (rd_a k1034 (rd_a k1029 z1009 rfl) rfl); have z1_ := congrArg Int32.toInt (rd_a k1034 (rd_a k1029 z1010 rfl) rfl); have z2_ := congrArg Int32.toInt (rd_a k1034 (rd_a k1029 z1011 rfl) rfl); have z_ := w_lits; have zl_ := l_lits; omega) (by have z0_ := congrArg Int32.toInt (rd_a k1034 (rd_a k1029 z1009 rfl) rfl); have z1_ := congrArg Int32.toInt (rd_a k1034 (rd_a k1029 z1010 rfl) rfl); have z2_ := congrArg Int32.toInt (rd_a k1034 (rd_a k1029 z1011 rfl) rfl); have z_ := w_lits; have zl_ := l_lits; omega)
                refine ev_aload_n rfl rfl rfl ?_
                refine ev_getR (y := 71) rfl rfl fl_X10_45 rfl rfl rfl rfl ?_
                refine ev_iload_n rfl rfl rfl ?_
                refine ev_bipush (v := 30) rfl rfl (by decide) ?_
                refine ev_iaddB (l := 408) (u := 408) rfl rfl b859 (by decide : B 30 30 30) (by decide) (by decide) (by decide) (by decide) (fun v1036 b1036 e1036 g1036 => ?_)
                have e1036x := e1036; rw [show (30 : Int32).toInt = 30 from by decide] at e1036x
                refine ev_iload_n rfl rfl rfl ?_
                refine ev_iaddB (l := 408) (u := 419) rfl rfl b1036 b1022 (by decide) (by decide) (by decide) (by decide) (fun v1037 b1037 e1037 g1037 => ?_)
                refine ev_aload_n rfl rfl rfl ?_
                refine ev_getR (y := 70) rfl rfl fl_X10_42 rfl rfl rfl rfl ?_
                refine ev_iload_n rfl rfl rfl ?_
                refine ev_zalW (n := 12) (l := (-2147483648)) (u := 2147483647) hJ1034.1 b1022 (by decide) (by decide) (fun _ => rfl) rfl rfl rfl (fun v1038 b1038 e1038 => ?_)
                refine ev_if_eq rfl rfl (fun c1039 => ?_) (fun c1039 => ?_)
                · have b1040 : B v1038 0 0 := R_eqX (B.any v1038) (by decide : B 0 0 0) c1039
                  have z1041 := congrArg Int32.toInt c1039
                  rw [show (0 : Int32).toInt = 0 from by decide] at z1041
                  refine ev_iconst (v := 0) rfl rfl (by decide) ?_
                  refine ev_iasG (n := 420) hJ1034 b1037 (by decide) (by decide) (kb_putA (by have z0_ := congrArg Int32.toInt (rd_a k1034 (rd_a k1029 z1009 rfl) rfl); have z1_ := congrArg Int32.toInt (rd_a k1034 (rd_a k1029 z1010 rfl) rfl); have z2_ := congrArg Int32.toInt (rd_a k1034 (rd_a k1029 z1011 rfl) rfl); have z_ := w_lits; have zl_ := l_lits; omega)) (fun _ => rfl) rfl rfl rfl rfl (fun h1043 hJ1043 k1043 => ?_)
                  have kp1044 : KP h1043 v857.toInt f2 f3 := KP.set kp1035 (by have z0_ := congrArg Int32.toInt (rd_a k1043 (rd_a k1034 (rd_a k1029 z1009 rfl) rfl) rfl); have z1_ := congrArg Int32.toInt (rd_a k1043 (rd_a k1034 (rd_a k1029 z1010 rfl) rfl) rfl); have z2_ := congrArg Int32.toInt (rd_a k1043 (rd_a k1034 (rd_a k1029 z1011 rfl) rfl) rfl); have z_ := w_lits; have zl_ := l_lits; omega) k1043 (by have z0_ := congrArg Int32.toInt (rd_a k1043 (rd_a k1034 (rd_a k1029 z1009 rfl) rfl) rfl); have z1_ := congrArg Int32.toInt (rd_a k1043 (rd_a k1034 (rd_a k1029 z1010 rfl) rfl) rfl); have z2_ := congrArg Int32.toInt (rd_a k1043 (rd_a k1034 (rd_a k1029 z1011 rfl) rfl) rfl); have z_ := w_lits; have zl_ := l_lits; omega) (by have z0_ := congrArg Int32.toInt (rd_a k1043 (rd_a k1034 (rd_a k1029 z1009 rfl) rfl) rfl); have z1_ := congrArg Int32.toInt (rd_a k1043 (rd_a k1034 (rd_a k1029 z1010 rfl) rfl) rfl); have z2_ := congrArg Int32.toInt (rd_a k1043 (rd_a k1034 (rd_a k1029 z1011 rfl) rfl) rfl); have z_ := w_lits; have zl_ := l_lits; omega)
                  refine ev_iincB (y := 1) (l := 1) (u := 12) rfl rfl rfl (by decide) rfl rfl b1022 (by decide : B 1 1 1) (by decide) (by decide) (by decide) (by decide) (fun v1045 b1045 e1045 => ?_)
                  dsimp only [List.set]
                  have e1045x := e1045; rw [show (1 : Int32).toInt = 1 from by decide] at e1045x
                  refine ev_goto rfl rfl ?_
                  exact (ih130 v1045 h1043 (b1045.mono (by decide) (by decide)) hJ1043 (rd_a k1043 (rd_a k1034 (rd_a k1029 z1009 rfl) rfl) rfl) (rd_a k1043 (rd_a k1034 (rd_a k1029 z1010 rfl) rfl) rfl) (rd_a k1043 (rd_a k1034 (rd_a k1029 z1011 rfl) rfl) rfl) (rd_a k1043 (rd_a k1034 (rd_a k1029 z1012 rfl) rfl) rfl) (rd_a k1043 (rd_a k1034 (rd_a k1029 z1013 rfl) rfl) rfl) (rd_a k1043 (rd_a k1034 (rd_a k1029 z1014 rfl) rfl) rfl) (rd_a k1043 (rd_a k1034 (rd_a k1029 z1015 rfl) rfl) rfl) kp1044 (L_up hm130 (e_p1 e1045 (by decide))))
                · have z1042 := w_ne c1039
                  rw [show (0 : Int32).toInt = 0 from by decide] at z1042
                  refine ev_iconst (v := 1) rfl rfl (by decide) ?_
                  refine ev_goto rfl rfl ?_
                  refine ev_iasG (n := 420) hJ1034 b1037 (by decide) (by decide) (kb_putA (by have z0_ := congrArg Int32.toInt (rd_a k1034 (rd_a k1029 z1009 rfl) rfl); have z1_ := congrArg Int32.toInt (rd_a k1034 (rd_a k1029 z1010 rfl) rfl); have z2_ := congrArg Int32.toInt (rd_a k1034 (rd_a k1029 z1011 rfl) rfl); have z_ := w_lits; have zl_ := l_lits; omega)) (fun _ => rfl) rfl rfl rfl rfl (fun h1046 hJ1046 k1046 => ?_)
                  have kp1047 : KP h1046 v857.toInt f2 f3 := KP.set kp1035 (by have z0_ := congrArg Int32.toInt (rd_a k1046 (rd_a k1034 (rd_a k1029 z1009 rfl) rfl) rfl); have z1_ := congrArg Int32.toInt (rd_a k1046 (rd_a k1034 (rd_a k1029 z1010 rfl) rfl) rfl); have z2_ := congrArg Int32.toInt (rd_a k1046 (rd_a k1034 (rd_a k1029 z1011 rfl) rfl) rfl); have z_ := w_lits; have zl_ := l_lits; omega) k1046 (by have z0_ := congrArg Int32.toInt (rd_a k1046 (rd_a k1034 (rd_a k1029 z1009 rfl) rfl) rfl); have z1_ := congrArg Int32.toInt (rd_a k1046 (rd_a k1034 (rd_a k1029 z1010 rfl) rfl) rfl); have z2_ := congrArg Int32.toInt (rd_a k1046 (rd_a k1034 (rd_a k1029 z1011 rfl) rfl) rfl); have z_ := w_lits; have zl_ := l_lits; omega) (by have z0_ := congrArg Int32.toInt (rd_a k1046 (rd_a k1034 (rd_a k1029 z1009 rfl) rfl) rfl); have z1_ := congrArg Int32.toInt (rd_a k1046 (rd_a k1034 (rd_a k1029 z1010 rfl) rfl) rfl); have z2_ := congrArg Int32.toInt (rd_a k1046 (rd_a k1034 (rd_a k1029 z1011 rfl) rfl) rfl); have z_ := w_lits; have zl_ := l_lits; omega)
                  refine ev_iincB (y := 1) (l := 1) (u := 12) rfl rfl rfl (by decide) rfl rfl b1022 (by decide : B 1 1 1) (by decide) (by decide) (by decide) (by decide) (fun v1048 b1048 e1048 => ?_)
                  dsimp only [List.set]
                  have e1048x := e1048; rw [show (1 : Int32).toInt = 1 from by decide] at e1048x
                  refine ev_goto rfl rfl ?_
                  exact (ih130 v1048 h1046 (b1048.mono (by decide) (by decide)) hJ1046 (rd_a k1046 (rd_a k1034 (rd_a k1029 z1009 rfl) rfl) rfl) (rd_a k1046 (rd_a k1034 (rd_a k1029 z1010 rfl) rfl) rfl) (rd_a k1046 (rd_a k1034 (rd_a k1029 z1011 rfl) rfl) rfl) (rd_a k1046 (rd_a k1034 (rd_a k1029 z1012 rfl) rfl) rfl) (rd_a k1046 (rd_a k1034 (rd_a k1029 z1013 rfl) rfl) rfl) (rd_a k1046 (rd_a k1034 (rd_a k1029 z1014 rfl) rfl) rfl) (rd_a k1046 (rd_a k1034 (rd_a k1029 z1015 rfl) rfl) rfl) kp1047 (L_up hm130 (e_p1 e1048 (by decide))))
          exact (lp130_1004 13 0 h874 ((by decide : B 0 0 0).mono (by decide) (by decide)) hJ874 (rd_a k874 (rd_a k871 (rd_a k868 (rd_a k866 (rd_a k863 (rd_a k860 (rd_s k858) rfl) rfl) rfl) rfl) rfl) rfl) (rd_a k874 (rd_a k871 (rd_a k868 (rd_a k866 (rd_a k863 (rd_a k860 (rd_o k858 z846 rfl) rfl) rfl) rfl) rfl) rfl) rfl) (rd_a k874 (rd_a k871 (rd_a k868 (rd_a k866 (rd_a k863 (rd_a k860 (rd_o k858 z847 rfl) rfl) rfl) rfl) rfl) rfl) rfl) (rd_a k874 (rd_a k871 (rd_a k868 (rd_a k866 (rd_a k863 e862 rfl) rfl) rfl) rfl) rfl) (rd_a k874 (rd_a k871 (rd_a k868 (rd_a k866 e865 rfl) rfl) rfl) rfl) (rd_a k874 (rd_a k871 e870 rfl) rfl) (rd_a k874 e873 rfl) kp875 (L_init (by decide : B 0 0 0) (by decide)))
        · have b854 : B w841 42 419 := R_ltX b842 (by decide : B 420 420 420) (Int32.not_le.mp c851) (by decide)
          have z855 := w_lt (Int32.not_le.mp c851)
          rw [show (420 : Int32).toInt = 420 from by decide] at z855
          refine ev_aload_n rfl rfl rfl ?_
          refine ev_getR (y := 71) rfl rfl fl_X10_45 rfl rfl rfl rfl ?_
          refine ev_iload_n rfl rfl rfl ?_
          refine ev_bipush (v := 42) rfl rfl (by decide) ?_
          refine ev_isubB (l := 0) (u := 377) rfl rfl b854 (by decide : B 42 42 42) (by decide) (by decide) (by decide) (by decide) (fun v1049 b1049 e1049 g1049 => ?_)
          have e1049x := e1049; rw [show (42 : Int32).toInt = 42 from by decide] at e1049x
          refine ev_aload_n rfl rfl rfl ?_
          refine ev_getR (y := 71) rfl rfl fl_X10_45 rfl rfl rfl rfl ?_
          refine ev_iload_n rfl rfl rfl ?_
          refine ev_ialG (n := 420) hJ844.1 b854 (by decide) (by decide) rfl rfl rfl (fun v1050 b1050 e1050 => ?_)
          refine ev_iasG (n := 420) hJ844 b1049 (by decide) (by decide) (kb_same (by have z0_ := congrArg Int32.toInt z845; have z1_ := congrArg Int32.toInt z846; have z2_ := congrArg Int32.toInt z847; have z_ := w_lits; have zl_ := l_lits; omega) b1050) (fun _ => rfl) rfl rfl rfl rfl (fun h1051 hJ1051 k1051 => ?_)
          refine ev_iincB (y := 1) (l := 43) (u := 420) rfl rfl rfl (by decide) rfl rfl b854 (by decide : B 1 1 1) (by decide) (by decide) (by decide) (by decide) (fun v1052 b1052 e1052 => ?_)
          dsimp only [List.set]
          have e1052x := e1052; rw [show (1 : Int32).toInt = 1 from by decide] at e1052x
          refine ev_goto rfl rfl ?_
          exact (ih12 v1052 h1051 (b1052.mono (by decide) (by decide)) hJ1051 (rd_a k1051 z845 rfl) (rd_a k1051 z846 rfl) (rd_a k1051 z847 rfl) (SH.step u12_0 (by have z0_ := congrArg Int32.toInt (rd_a k1051 z845 rfl); have z1_ := congrArg Int32.toInt (rd_a k1051 z846 rfl); have z2_ := congrArg Int32.toInt (rd_a k1051 z847 rfl); have z_ := w_lits; have zl_ := l_lits; omega) (by have z0_ := congrArg Int32.toInt (rd_a k1051 z845 rfl); have z1_ := congrArg Int32.toInt (rd_a k1051 z846 rfl); have z2_ := congrArg Int32.toInt (rd_a k1051 z847 rfl); have z_ := w_lits; have zl_ := l_lits; omega) e1050 k1051 e1052x) (L_up hm12 (e_p1 e1052 (by decide))))
    exact (lp12_840 379 42 h ((by decide : B 42 42 42).mono (by decide) (by decide)) hJ0 ef1 ef2 ef3 (by rw [show (42 : Int32).toInt = 42 from by decide]; exact SH.start h) (L_init (by decide : B 42 42 42) (by decide)))

set_option maxRecDepth 100000 in
set_option maxHeartbeats 4000000 in
theorem w_X10_undo_63 (L : Nat) (b : Bool) (h : Hp) (hB : Bx h) (rp0 : (h 63 0).toInt ≤ (h 63 3).toInt) (hKS : KS h) : EvI mi_X10_undo [.ref 63] (G0 L b) h (fun (r : Int32) (z : Hp) => B r (-4) 10 ∧ ((z 63 0).toInt ≤ (z 63 3).toInt) ∧ (KS z)) [(63, 0), (63, 1), (63, 2), (63, 3), (63, 4), (63, 13), (68, 999), (69, 999), (70, 999)] := by
  refine EvM.of2 (lo := [some (.ref 63), none, none]) pf_X10_undo ok_X10_undo rfl rfl ?_
  have hJ0 : JW [(63, 0), (63, 1), (63, 2), (63, 3), (63, 4), (63, 13), (68, 999), (69, 999), (70, 999)] h h := JW.refl hB
  obtain ⟨f1, ef1⟩ : ∃ f_, h 63 13 = f_ := ⟨_, rfl⟩
  have bf1 : B f1 0 10 := by have z_ := hJ0.1 63 13; rw [ef1] at z_; exact z_
  have zf1 := congrArg Int32.toInt ef1
  obtain ⟨f2, ef2⟩ : ∃ f_, h 63 0 = f_ := ⟨_, rfl⟩
  have bf2 : B f2 0 200 := by have z_ := hJ0.1 63 0; rw [ef2] at z_; exact z_
  have zf2 := congrArg Int32.toInt ef2
  obtain ⟨f3, ef3⟩ : ∃ f_, h 63 3 = f_ := ⟨_, rfl⟩
  have bf3 : B f3 0 200 := by have z_ := hJ0.1 63 3; rw [ef3] at z_; exact z_
  have zf3 := congrArg Int32.toInt ef3
  refine ev_aload_n rfl rfl rfl ?_
  refine ev_getV (v := f1) rfl rfl fl_X10_128 rfl rfl rfl ef1 ?_
  refine ev_if_ne rfl rfl (fun c4 => ?_) (fun c4 => ?_)
  · have b5 : B f1 1 10 := R_neL bf1 (by decide : B 0 0 0) c4 (by decide)
    have z6 := w_ne c4
    rw [show (0 : Int32).toInt = 0 from by decide] at z6
    refine ev_aload_n rfl rfl rfl ?_
    refine ev_dup rfl rfl rfl ?_
    refine ev_getV (v := f1) rfl rfl fl_X10_128 rfl rfl rfl ef1 ?_
    refine ev_iconst (v := 1) rfl rfl (by decide) ?_
    refine ev_isubB (l := 0) (u := 9) rfl rfl b5 (by decide : B 1 1 1) (by decide) (by decide) (by decide) (by decide) (fun v9 b9 e9 g9 => ?_)
    have e9x := e9; rw [show (1 : Int32).toInt = 1 from by decide] at e9x
    refine ev_putW (l := 0) (u := 10) hJ0 rfl b9 (by decide) (by decide) rfl rfl rfl fl_X10_128 rfl rfl rfl rfl rfl (fun h10 hJ10 k10 => ?_)
    refine ev_bipush (v := 42) rfl rfl (by decide) ?_
    refine ev_aload_n rfl rfl rfl ?_
    refine ev_getV (v := v9) rfl rfl fl_X10_128 rfl rfl rfl (rd_s k10) ?_
    refine ev_imulB (l := 0) (u := 378) rfl rfl (by decide : B 42 42 42) b9 (by decide) (by decide) (by decide) (by decide) (by decide) (fun v11 b11 e11 g11 => ?_)
    rw [show (42 : Int32).toInt = 42 from by decide] at e11
    refine ev_istore_n rfl rfl rfl rfl ?_
    dsimp only [List.set]
    refine ev_aload_n rfl rfl rfl ?_
    refine ev_aload_n rfl rfl rfl ?_
    refine ev_getR (y := 71) rfl rfl fl_X10_45 rfl rfl rfl rfl ?_
    refine ev_iload_n rfl rfl rfl ?_
    refine ev_ialG (n := 420) hJ10.1 b11 (by decide) (by decide) rfl rfl rfl (fun v12 b12 e12 => ?_)
    have b12k : B v12 0 200 := kb_get (c := 0) (by have z0_ := congrArg Int32.toInt (rd_s k10); have z1_ := congrArg Int32.toInt (rd_o k10 ef2 rfl); have z2_ := congrArg Int32.toInt (rd_o k10 ef3 rfl); have z_ := w_lits; have zl_ := l_lits; omega) b12
    refine ev_putW (l := 0) (u := 200) hJ10 rfl b12k (by decide) (by decide) rfl rfl rfl fl_X10_7 rfl rfl rfl rfl rfl (fun h13 hJ13 k13 => ?_)
    refine ev_aload_n rfl rfl rfl ?_
    refine ev_aload_n rfl rfl rfl ?_
    refine ev_getR (y := 71) rfl rfl fl_X10_45 rfl rfl rfl rfl ?_
    refine ev_iload_n rfl rfl rfl ?_
    refine ev_iconst (v := 1) rfl rfl (by decide) ?_
    refine ev_iaddB (l := 1) (u := 379) rfl rfl b11 (by decide : B 1 1 1) (by decide) (by decide) (by decide) (by decide) (fun v14 b14 e14 g14 => ?_)
    have e14x := e14; rw [show (1 : Int32).toInt = 1 from by decide] at e14x
    refine ev_ialG (n := 420) hJ13.1 b14 (by decide) (by decide) rfl rfl rfl (fun v15 b15 e15 => ?_)
    have b15k : B v15 (-2147483648) 2147483647 := kb_get (c := 1) (by have z0_ := congrArg Int32.toInt (rd_o k13 (rd_s k10) rfl); have z1_ := congrArg Int32.toInt (rd_s k13); have z2_ := congrArg Int32.toInt (rd_o k13 (rd_o k10 ef3 rfl) rfl); have z_ := w_lits; have zl_ := l_lits; omega) b15
    refine ev_putW (l := (-2147483648)) (u := 2147483647) hJ13 rfl (B.any v15) (by decide) (by decide) rfl rfl rfl fl_X10_13 rfl rfl rfl rfl rfl (fun h16 hJ16 k16 => ?_)
    refine ev_aload_n rfl rfl rfl ?_
    refine ev_aload_n rfl rfl rfl ?_
    refine ev_getR (y := 71) rfl rfl fl_X10_45 rfl rfl rfl rfl ?_
    refine ev_iload_n rfl rfl rfl ?_
    refine ev_iconst (v := 2) rfl rfl (by decide) ?_
    refine ev_iaddB (l := 2) (u := 380) rfl rfl b11 (by decide : B 2 2 2) (by decide) (by decide) (by decide) (by decide) (fun v17 b17 e17 g17 => ?_)
    have e17x := e17; rw [show (2 : Int32).toInt = 2 from by decide] at e17x
    refine ev_ialG (n := 420) hJ16.1 b17 (by decide) (by decide) rfl rfl rfl (fun v18 b18 e18 => ?_)
    have b18k : B v18 (-2147483648) 2147483647 := kb_get (c := 2) (by have z0_ := congrArg Int32.toInt (rd_o k16 (rd_o k13 (rd_s k10) rfl) rfl); have z1_ := congrArg Int32.toInt (rd_o k16 (rd_s k13) rfl); have z2_ := congrArg Int32.toInt (rd_o k16 (rd_o k13 (rd_o k10 ef3 rfl) rfl) rfl); have z_ := w_lits; have zl_ := l_lits; omega) b18
    refine ev_putW (l := (-2147483648)) (u := 2147483647) hJ16 rfl (B.any v18) (by decide) (by decide) rfl rfl rfl fl_X10_16 rfl rfl rfl rfl rfl (fun h19 hJ19 k19 => ?_)
    refine ev_aload_n rfl rfl rfl ?_
    refine ev_aload_n rfl rfl rfl ?_
    refine ev_getR (y := 71) rfl rfl fl_X10_45 rfl rfl rfl rfl ?_
    refine ev_iload_n rfl rfl rfl ?_
    refine ev_iconst (v := 3) rfl rfl (by decide) ?_
    refine ev_iaddB (l := 3) (u := 381) rfl rfl b11 (by decide : B 3 3 3) (by decide) (by decide) (by decide) (by decide) (fun v20 b20 e20 g20 => ?_)
    have e20x := e20; rw [show (3 : Int32).toInt = 3 from by decide] at e20x
    refine ev_ialG (n := 420) hJ19.1 b20 (by decide) (by decide) rfl rfl rfl (fun v21 b21 e21 => ?_)
    have b21k : B v21 0 200 := kb_get (c := 3) (by have z0_ := congrArg Int32.toInt (rd_o k19 (rd_o k16 (rd_o k13 (rd_s k10) rfl) rfl) rfl); have z1_ := congrArg Int32.toInt (rd_o k19 (rd_o k16 (rd_s k13) rfl) rfl); have z2_ := congrArg Int32.toInt (rd_o k19 (rd_o k16 (rd_o k13 (rd_o k10 ef3 rfl) rfl) rfl) rfl); have z_ := w_lits; have zl_ := l_lits; omega) b21
    have z22 : v12.toInt ≤ v21.toInt := KS.two (n := v9) hKS (by have z0_ := congrArg Int32.toInt (rd_o k19 (rd_o k16 (rd_o k13 (rd_s k10) rfl) rfl) rfl); have z1_ := congrArg Int32.toInt (rd_o k19 (rd_o k16 (rd_s k13) rfl) rfl); have z2_ := congrArg Int32.toInt (rd_o k19 (rd_o k16 (rd_o k13 (rd_o k10 ef3 rfl) rfl) rfl) rfl); have z_ := w_lits; have zl_ := l_lits; omega) (by have z0_ := congrArg Int32.toInt (rd_o k19 (rd_o k16 (rd_o k13 (rd_s k10) rfl) rfl) rfl); have z1_ := congrArg Int32.toInt (rd_o k19 (rd_o k16 (rd_s k13) rfl) rfl); have z2_ := congrArg Int32.toInt (rd_o k19 (rd_o k16 (rd_o k13 (rd_o k10 ef3 rfl) rfl) rfl) rfl); have z_ := w_lits; have zl_ := l_lits; omega) (by have z0_ := congrArg Int32.toInt (rd_o k19 (rd_o k16 (rd_o k13 (rd_s k10) rfl) rfl) rfl); have z1_ := congrArg Int32.toInt (rd_o k19 (rd_o k16 (rd_s k13) rfl) rfl); have z2_ := congrArg Int32.toInt (rd_o k19 (rd_o k16 (rd_o k13 (rd_o k10 ef3 rfl) rfl) rfl) rfl); have z_ := w_lits; have zl_ := l_lits; omega) (by have z0_ := congrArg Int32.toInt (rd_o k19 (rd_o k16 (rd_o k13 (rd_s k10) rfl) rfl) rfl); have z1_ := congrArg Int32.toInt (rd_o k19 (rd_o k16 (rd_s k13) rfl) rfl); have z2_ := congrArg Int32.toInt (rd_o k19 (rd_o k16 (rd_o k13 (rd_o k10 ef3 rfl) rfl) rfl) rfl); have z_ := w_lits; have zl_ := l_lits; omega) e12 (hJ10.2 71 _ rfl) e21 (hJ19.2 71 _ rfl)
    refine ev_putW (l := 0) (u := 200) hJ19 rfl b21k (by decide) (by decide) rfl rfl rfl fl_X10_19 rfl rfl rfl rfl rfl (fun h23 hJ23 k23 => ?_)
    refine ev_aload_n rfl rfl rfl ?_
    refine ev_aload_n rfl rfl rfl ?_
    refine ev_getR (y := 71) rfl rfl fl_X10_45 rfl rfl rfl rfl ?_
    refine ev_iload_n rfl rfl rfl ?_
    refine ev_iconst (v := 4) rfl rfl (by decide) ?_
    refine ev_iaddB (l := 4) (u := 382) rfl rfl b11 (by decide : B 4 4 4) (by decide) (by decide) (by decide) (by decide) (fun v24 b24 e24 g24 => ?_)
    have e24x := e24; rw [show (4 : Int32).toInt = 4 from by decide] at e24x
    refine ev_ialG (n := 420) hJ23.1 b24 (by decide) (by decide) rfl rfl rfl (fun v25 b25 e25 => ?_)
    have b25k : B v25 (-2147483648) 2147483647 := kb_get (c := 4) (by have z0_ := congrArg Int32.toInt (rd_o k23 (rd_o k19 (rd_o k16 (rd_o k13 (rd_s k10) rfl) rfl) rfl) rfl); have z1_ := congrArg Int32.toInt (rd_o k23 (rd_o k19 (rd_o k16 (rd_s k13) rfl) rfl) rfl); have z2_ := congrArg Int32.toInt (rd_s k23); have z_ := w_lits; have zl_ := l_lits; omega) b25
    refine ev_putW (l := (-2147483648)) (u := 2147483647) hJ23 rfl (B.any v25) (by decide) (by decide) rfl rfl rfl fl_X10_131 rfl rfl rfl rfl rfl (fun h26 hJ26 k26 => ?_)
    refine ev_iconst (v := 0) rfl rfl (by decide) ?_
    refine ev_istore_n rfl rfl rfl rfl ?_
    dsimp only [List.set]
    have lp88_165 : ∀ (n : Nat) (w166 : Int32) (h168 : Hp), B w166 0 12 → JW [(63, 0), (63, 1), (63, 2), (63, 3), (63, 4), (63, 13), (68, 999), (69, 999), (70, 999)] h h168 → (h168 63 13 = v9) → (h168 63 0 = v12) → (h168 63 3 = v21) → (h168 63 1 = v15) → (h168 63 2 = v18) → (h168 63 4 = v25) → (KS h168) → 12 + 1 - w166.toInt ≤ (n : Int) → EvQ mi_X10_undo 88 [some (.ref 63), some (.int v11), some (.int w166)] [] (G0 L b) h168 0 0 (QI (fun (r : Int32) (z : Hp) => B r (-4) 10 ∧ ((z 63 0).toInt ≤ (z 63 3).toInt) ∧ (KS z)) [(63, 0), (63, 1), (63, 2), (63, 3), (63, 4), (63, 13), (68, 999), (69, 999), (70, 999)] (G0 L b) h) := by
      intro n
      induction n with
      | zero =>
        intro w166 h168 b167 hJ169 z170 z171 z172 z173 z174 z175 ks88 hm88
        exact absurd hm88 (L_zero b167 (by decide))
      | succ n ih88 =>
        intro w166 h168 b167 hJ169 z170 z171 z172 z173 z174 z175 ks88 hm88
        have z176 := congrArg Int32.toInt z170
        have z177 := congrArg Int32.toInt z171
        have z178 := congrArg Int32.toInt z172
        refine ev_iload_n rfl rfl rfl ?_
        refine ev_aload_n rfl rfl rfl ?_
        refine ev_getR (y := 71) rfl rfl fl_X10_45 rfl rfl rfl rfl ?_
        refine ev_iload_n rfl rfl rfl ?_
        refine ev_iconst (v := 5) rfl rfl (by decide) ?_
        refine ev_iaddB (l := 5) (u := 383) rfl rfl b11 (by decide : B 5 5 5) (by decide) (by decide) (by decide) (by decide) (fun v179 b179 e179 g179 => ?_)
        have e179x := e179; rw [show (5 : Int32).toInt = 5 from by decide] at e179x
        refine ev_ialG (n := 420) hJ169.1 b179 (by decide) (by decide) rfl rfl rfl (fun v180 b180 e180 => ?_)
        have b180k : B v180 0 12 := kb_get (c := 5) (by have z0_ := congrArg Int32.toInt z170; have z1_ := congrArg Int32.toInt z171; have z2_ := congrArg Int32.toInt z172; have z_ := w_lits; have zl_ := l_lits; omega) b180
        refine ev_icmp_ge rfl rfl (fun c181 => ?_) (fun c181 => ?_)
        · have z182 := w_le c181
          refine ev_aload_n rfl rfl rfl ?_
          refine ev_getV (v := v9) rfl rfl fl_X10_128 rfl rfl rfl z170 ?_
          exact ev_iret rfl rfl rfl ⟨⟨_, rfl, ⟨(b9.mono (by decide) (by decide)), (by have z0_ := congrArg Int32.toInt z170; have z1_ := congrArg Int32.toInt z171; have z2_ := congrArg Int32.toInt z172; have z_ := w_lits; have zl_ := l_lits; omega), ks88⟩⟩, rfl, hJ169⟩
        · have b183 : B w166 0 11 := R_ltX b167 b180k (Int32.not_le.mp c181) (by decide)
          have b184 : B v180 1 12 := R_ltY b167 b180k (Int32.not_le.mp c181) (by decide)
          have z185 := w_lt (Int32.not_le.mp c181)
          refine ev_aload_n rfl rfl rfl ?_
          refine ev_getR (y := 68) rfl rfl fl_X10_36 rfl rfl rfl rfl ?_
          refine ev_iload_n rfl rfl rfl ?_
          refine ev_aload_n rfl rfl rfl ?_
          refine ev_getR (y := 71) rfl rfl fl_X10_45 rfl rfl rfl rfl ?_
          refine ev_iload_n rfl rfl rfl ?_
          refine ev_bipush (v := 6) rfl rfl (by decide) ?_
          refine ev_iaddB (l := 6) (u := 384) rfl rfl b11 (by decide : B 6 6 6) (by decide) (by decide) (by decide) (by decide) (fun v186 b186 e186 g186 => ?_)
          have e186x := e186; rw [show (6 : Int32).toInt = 6 from by decide] at e186x
          refine ev_iload_n rfl rfl rfl ?_
          refine ev_iaddB (l := 6) (u := 395) rfl rfl b186 b183 (by decide) (by decide) (by decide) (by decide) (fun v187 b187 e187 g187 => ?_)
          refine ev_ialG (n := 420) hJ169.1 b187 (by decide) (by decide) rfl rfl rfl (fun v188 b188 e188 => ?_)
          refine ev_iasW (n := 12) (l := (-2147483648)) (u := 2147483647) hJ169 b183 (by decide) (by decide) (fun _ => rfl) (B.any v188) (by decide) (by decide) (fun _ => rfl) rfl rfl rfl rfl (fun h189 hJ189 k189 => ?_)
          refine ev_aload_n rfl rfl rfl ?_
          refine ev_getR (y := 69) rfl rfl fl_X10_39 rfl rfl rfl rfl ?_
          refine ev_iload_n rfl rfl rfl ?_
          refine ev_aload_n rfl rfl rfl ?_
          refine ev_getR (y := 71) rfl rfl fl_X10_45 rfl rfl rfl rfl ?_
          refine ev_iload_n rfl rfl rfl ?_
          refine ev_bipush (v := 18) rfl rfl (by decide) ?_
          refine ev_iaddB (l := 18) (u := 396) rfl rfl b11 (by decide : B 18 18 18) (by decide) (by decide) (by decide) (by decide) (fun v190 b190 e190 g190 => ?_)
          have e190x := e190; rw [show (18 : Int32).toInt = 18 from by decide] at e190x
          refine ev_iload_n rfl rfl rfl ?_
          refine ev_iaddB (l := 18) (u := 407) rfl rfl b190 b183 (by decide) (by decide) (by decide) (by decide) (fun v191 b191 e191 g191 => ?_)
          refine ev_ialG (n := 420) hJ189.1 b191 (by decide) (by decide) rfl rfl rfl (fun v192 b192 e192 => ?_)
          refine ev_iasW (n := 12) (l := (-2147483648)) (u := 2147483647) hJ189 b183 (by decide) (by decide) (fun _ => rfl) (B.any v192) (by decide) (by decide) (fun _ => rfl) rfl rfl rfl rfl (fun h193 hJ193 k193 => ?_)
          refine ev_aload_n rfl rfl rfl ?_
          refine ev_getR (y := 70) rfl rfl fl_X10_42 rfl rfl rfl rfl ?_
          refine ev_iload_n rfl rfl rfl ?_
          refine ev_aload_n rfl rfl rfl ?_
          refine ev_getR (y := 71) rfl rfl fl_X10_45 rfl rfl rfl rfl ?_
          refine ev_iload_n rfl rfl rfl ?_
          refine ev_bipush (v := 30) rfl rfl (by decide) ?_
          refine ev_iaddB (l := 30) (u := 408) rfl rfl b11 (by decide : B 30 30 30) (by decide) (by decide) (by decide) (by decide) (fun v194 b194 e194 g194 => ?_)
          have e194x := e194; rw [show (30 : Int32).toInt = 30 from by decide] at e194x
          refine ev_iload_n rfl rfl rfl ?_
          refine ev_iaddB (l := 30) (u := 419) rfl rfl b194 b183 (by decide) (by decide) (by decide) (by decide) (fun v195 b195 e195 g195 => ?_)
          refine ev_ialG (n := 420) hJ193.1 b195 (by decide) (by decide) rfl rfl rfl (fun v196 b196 e196 => ?_)
          refine ev_iconst (v := 1) rfl rfl (by decide) ?_
          refine ev_icmp_ne rfl rfl (fun c197 => ?_) (fun c197 => ?_)
          · have z198 := w_ne c197
            rw [show (1 : Int32).toInt = 1 from by decide] at z198
            refine ev_iconst (v := 0) rfl rfl (by decide) ?_
            refine ev_zasW (n := 12) (l := (-2147483648)) (u := 2147483647) hJ193 b183 (by decide) (by decide) (fun _ => rfl) ((by decide : B 0 0 0).mono (by decide) (by decide)) (by decide) (by decide) (fun _ => rfl) rfl rfl rfl rfl (fun h201 hJ201 k201 => ?_)
            refine ev_iincB (y := 1) (l := 1) (u := 12) rfl rfl rfl (by decide) rfl rfl b183 (by decide : B 1 1 1) (by decide) (by decide) (by decide) (by decide) (fun v202 b202 e202 => ?_)
            dsimp only [List.set]
            have e202x := e202; rw [show (1 : Int32).toInt = 1 from by decide] at e202x
            refine ev_goto rfl rfl ?_
            exact (ih88 v202 h201 (b202.mono (by decide) (by decide)) hJ201 (rd_a k201 (rd_a k193 (rd_a k189 z170 rfl) rfl) rfl) (rd_a k201 (rd_a k193 (rd_a k189 z171 rfl) rfl) rfl) (rd_a k201 (rd_a k193 (rd_a k189 z172 rfl) rfl) rfl) (rd_a k201 (rd_a k193 (rd_a k189 z173 rfl) rfl) rfl) (rd_a k201 (rd_a k193 (rd_a k189 z174 rfl) rfl) rfl) (rd_a k201 (rd_a k193 (rd_a k189 z175 rfl) rfl) rfl) (KS.set (KS.set (KS.set ks88 k189 rfl) k193 rfl) k201 rfl) (L_up hm88 (e_p1 e202 (by decide))))
          · have b199 : B v196 1 1 := R_eqX (B.any v196) (by decide : B 1 1 1) c197
            have z200 := congrArg Int32.toInt c197
            rw [show (1 : Int32).toInt = 1 from by decide] at z200
            refine ev_iconst (v := 1) rfl rfl (by decide) ?_
            refine ev_goto rfl rfl ?_
            refine ev_zasW (n := 12) (l := (-2147483648)) (u := 2147483647) hJ193 b183 (by decide) (by decide) (fun _ => rfl) ((by decide : B 1 1 1).mono (by decide) (by decide)) (by decide) (by decide) (fun _ => rfl) rfl rfl rfl rfl (fun h203 hJ203 k203 => ?_)
            refine ev_iincB (y := 1) (l := 1) (u := 12) rfl rfl rfl (by decide) rfl rfl b183 (by decide : B 1 1 1) (by decide) (by decide) (by decide) (by decide) (fun v204 b204 e204 => ?_)
            dsimp only [List.set]
            have e204x := e204; rw [show (1 : Int32).toInt = 1 from by decide] at e204x
            refine ev_goto rfl rfl ?_
            exact (ih88 v204 h203 (b204.mono (by decide) (by decide)) hJ203 (rd_a k203 (rd_a k193 (rd_a k189 z170 rfl) rfl) rfl) (rd_a k203 (rd_a k193 (rd_a k189 z171 rfl) rfl) rfl) (rd_a k203 (rd_a k193 (rd_a k189 z172 rfl) rfl) rfl) (rd_a k203 (rd_a k193 (rd_a k189 z173 rfl) rfl) rfl) (rd_a k203 (rd_a k193 (rd_a k189 z174 rfl) rfl) rfl) (rd_a k203 (rd_a k193 (rd_a k189 z175 rfl) rfl) rfl) (KS.set (KS.set (KS.set ks88 k189 rfl) k193 rfl) k203 rfl) (L_up hm88 (e_p1 e204 (by decide))))
    exact (lp88_165 13 0 h26 ((by decide : B 0 0 0).mono (by decide) (by decide)) hJ26 (rd_o k26 (rd_o k23 (rd_o k19 (rd_o k16 (rd_o k13 (rd_s k10) rfl) rfl) rfl) rfl) rfl) (rd_o k26 (rd_o k23 (rd_o k19 (rd_o k16 (rd_s k13) rfl) rfl) rfl) rfl) (rd_o k26 (rd_s k23) rfl) (rd_o k26 (rd_o k23 (rd_o k19 (rd_s k16) rfl) rfl) rfl) (rd_o k26 (rd_o k23 (rd_s k19) rfl) rfl) (rd_s k26) (KS.set (KS.set (KS.set (KS.set (KS.set (KS.set hKS k10 rfl) k13 rfl) k16 rfl) k19 rfl) k23 rfl) k26 rfl) (L_init (by decide : B 0 0 0) (by decide)))
  · have b7 : B f1 0 0 := R_eqX bf1 (by decide : B 0 0 0) c4
    have z8 := congrArg Int32.toInt c4
    rw [show (0 : Int32).toInt = 0 from by decide] at z8
    refine ev_bipush (v := (-4)) rfl rfl (by decide) ?_
    exact ev_iret rfl rfl rfl ⟨⟨_, rfl, ⟨((by decide : B (-4) (-4) (-4)).mono (by decide) (by decide)), (by have z0_ := congrArg Int32.toInt ef1; have z1_ := congrArg Int32.toInt ef2; have z2_ := congrArg Int32.toInt ef3; have z_ := w_lits; have zl_ := l_lits; omega), hKS⟩⟩, rfl, hJ0⟩

set_option maxRecDepth 100000 in
set_option maxHeartbeats 4000000 in
theorem w_X10_goes_63 (L : Nat) (b : Bool) (h : Hp) (hB : Bx h) (a0 : Int32) (rp0 : (h 63 0).toInt ≤ (h 63 3).toInt) : EvI mi_X10_goes [.ref 63, .int a0] (G0 L b) h (fun (r : Int32) (z : Hp) => B r (-5) 2147483647 ∧ ((z 63 0).toInt ≤ (z 63 3).toInt)) [(63, 0), (63, 1), (63, 4)] := by
  refine EvM.of2 (lo := [some (.ref 63), some (.int a0), none, none]) pf_X10_goes ok_X10_goes rfl rfl ?_
  have hJ0 : JW [(63, 0), (63, 1), (63, 4)] h h := JW.refl hB
  obtain ⟨f1, ef1⟩ : ∃ f_, h 63 0 = f_ := ⟨_, rfl⟩
  have bf1 : B f1 0 200 := by have z_ := hJ0.1 63 0; rw [ef1] at z_; exact z_
  have zf1 := congrArg Int32.toInt ef1
  obtain ⟨f2, ef2⟩ : ∃ f_, h 63 3 = f_ := ⟨_, rfl⟩
  have bf2 : B f2 0 200 := by have z_ := hJ0.1 63 3; rw [ef2] at z_; exact z_
  have zf2 := congrArg Int32.toInt ef2
  refine ev_aload_n rfl rfl rfl ?_
  refine ev_iload_n rfl rfl rfl ?_
  refine ev_V1P rfl rfl lk_X10_145 vt_X10_drawn rfl rfl rfl rfl rfl (w_X10_drawn_63 L b h hJ0.1 a0) (fun r3 q3 => ?_)
  refine ev_istore_n rfl rfl rfl rfl ?_
  dsimp only [List.set]
  refine ev_iload_n rfl rfl rfl ?_
  refine ev_aload_n rfl rfl rfl ?_
  refine ev_getW (l := (-2147483648)) (u := 2147483647) hJ0.1 rfl rfl rfl fl_X10_13 rfl rfl rfl (fun v4 b4 e4 => ?_)
  refine ev_icmp_le rfl rfl (fun c5 => ?_) (fun c5 => ?_)
  · have z6 := w_le c5
    refine ev_aload_n rfl rfl rfl ?_
    refine ev_iload_n rfl rfl rfl ?_
    refine ev_aload_n rfl rfl rfl ?_
    refine ev_getV (v := f1) rfl rfl fl_X10_7 rfl rfl rfl ef1 ?_
    refine ev_V2P rfl rfl lk_X10_159 vt_X10_strayOf rfl rfl rfl rfl rfl (w_X10_strayOf_63 L b h hJ0.1 a0 f1) (fun r10 q10 => ?_)
    refine ev_istore_n rfl rfl rfl rfl ?_
    dsimp only [List.set]
    refine ev_aload_n rfl rfl rfl ?_
    refine ev_dup rfl rfl rfl ?_
    refine ev_getV (v := v4) rfl rfl fl_X10_13 rfl rfl rfl e4 ?_
    refine ev_iload_n rfl rfl rfl ?_
    refine ev_isubA rfl rfl (fun v11 g11 => ?_)
    refine ev_putW (l := (-2147483648)) (u := 2147483647) hJ0 rfl (B.any v11) (by decide) (by decide) rfl rfl rfl fl_X10_13 rfl rfl rfl rfl rfl (fun h12 hJ12 k12 => ?_)
    refine ev_aload_n rfl rfl rfl ?_
    refine ev_dup rfl rfl rfl ?_
    refine ev_getV (v := f1) rfl rfl fl_X10_7 rfl rfl rfl (rd_o k12 ef1 rfl) ?_
    refine ev_aload_n rfl rfl rfl ?_
    refine ev_getV (v := v11) rfl rfl fl_X10_13 rfl rfl rfl (rd_s k12) ?_
    refine ev_if_le rfl rfl (fun c13 => ?_) (fun c13 => ?_)
    · have b14 : B v11 (-2147483648) 0 := R_leX (B.any v11) (by decide : B 0 0 0) c13 (by decide)
      have z15 := w_le c13
      rw [show (0 : Int32).toInt = 0 from by decide] at z15
      refine ev_iconst (v := 0) rfl rfl (by decide) ?_
      refine ev_iload_n rfl rfl rfl ?_
      refine ev_isubA rfl rfl (fun v18 g18 => ?_)
      refine ev_iaddA rfl rfl (fun v19 g19 => ?_)
      refine ev_putI rfl rfl fl_X10_7 rfl rfl rfl rfl rfl ?_
      obtain ⟨h20, k20⟩ : ∃ z_, z_ = ev_set h12 63 0 v19 := ⟨_, rfl⟩
      rw [← k20]
      have hP20 := JP.start hJ12 rfl k20
      refine ev_aload_n rfl rfl rfl ?_
      refine ev_aload_n rfl rfl rfl ?_
      refine ev_getV (v := v19) rfl rfl fl_X10_7 rfl rfl rfl (rd_s k20) ?_
      refine ev_if_ge rfl rfl (fun c21 => ?_) (fun c21 => ?_)
      · have b22 : B v19 0 2147483647 := R_leY (by decide : B 0 0 0) (B.any v19) c21 (by decide)
        have z23 := w_le c21
        rw [show (0 : Int32).toInt = 0 from by decide] at z23
        refine ev_aload_n rfl rfl rfl ?_
        refine ev_getV (v := v19) rfl rfl fl_X10_7 rfl rfl rfl (rd_s k20) ?_
        refine ev_putI rfl rfl fl_X10_7 rfl rfl rfl rfl rfl ?_
        obtain ⟨h26, k26⟩ : ∃ z_, z_ = ev_set h20 63 0 v19 := ⟨_, rfl⟩
        rw [← k26]
        have hP26 := JP.again hP20 k26
        refine ev_aload_n rfl rfl rfl ?_
        refine ev_getV (v := v19) rfl rfl fl_X10_7 rfl rfl rfl (rd_s k26) ?_
        refine ev_aload_n rfl rfl rfl ?_
        refine ev_getV (v := f2) rfl rfl fl_X10_19 rfl rfl rfl (rd_o k26 (rd_o k20 (rd_o k12 ef2 rfl) rfl) rfl) ?_
        refine ev_icmp_le rfl rfl (fun c27 => ?_) (fun c27 => ?_)
        · have b28 : B v19 0 200 := R_leX b22 bf2 c27 (by decide)
          have z29 := w_le c27
          have hJ32 := JP.rest hP26 (rd_s k26) b28
          refine ev_iload_n rfl rfl rfl ?_
          exact ev_iret rfl rfl rfl ⟨⟨_, rfl, ⟨(q10.mono (by decide) (by decide)), (by have z0_ := congrArg Int32.toInt (rd_s k26); have z1_ := congrArg Int32.toInt (rd_o k26 (rd_o k20 (rd_o k12 ef2 rfl) rfl) rfl); have z_ := w_lits; have zl_ := l_lits; omega)⟩⟩, rfl, hJ32⟩
        · have b30 : B v19 1 2147483647 := R_ltY bf2 b22 (Int32.not_le.mp c27) (by decide)
          have z31 := w_lt (Int32.not_le.mp c27)
          refine ev_aload_n rfl rfl rfl ?_
          refine ev_aload_n rfl rfl rfl ?_
          refine ev_getV (v := v11) rfl rfl fl_X10_13 rfl rfl rfl (rd_o k26 (rd_o k20 (rd_s k12) rfl) rfl) ?_
          refine ev_aload_n rfl rfl rfl ?_
          refine ev_getV (v := v19) rfl rfl fl_X10_7 rfl rfl rfl (rd_s k26) ?_
          refine ev_aload_n rfl rfl rfl ?_
          refine ev_getV (v := f2) rfl rfl fl_X10_19 rfl rfl rfl (rd_o k26 (rd_o k20 (rd_o k12 ef2 rfl) rfl) rfl) ?_
          refine ev_isubB (l := -199) (u := 2147483647) rfl rfl b30 bf2 (by decide) (by decide) (by decide) (by decide) (fun v33 b33 e33 g33 => ?_)
          refine ev_icmp_ge rfl rfl (fun c34 => ?_) (fun c34 => ?_)
          · have b35 : B v11 (-199) 0 := R_leY b33 b14 c34 (by decide)
            have b36 : B v33 (-199) 0 := R_leX b33 b14 c34 (by decide)
            have z37 := w_le c34
            refine ev_aload_n rfl rfl rfl ?_
            refine ev_getV (v := v11) rfl rfl fl_X10_13 rfl rfl rfl (rd_o k26 (rd_o k20 (rd_s k12) rfl) rfl) ?_
            refine ev_aload_n rfl rfl rfl ?_
            refine ev_getV (v := v19) rfl rfl fl_X10_7 rfl rfl rfl (rd_s k26) ?_
            refine ev_aload_n rfl rfl rfl ?_
            refine ev_getV (v := f2) rfl rfl fl_X10_19 rfl rfl rfl (rd_o k26 (rd_o k20 (rd_o k12 ef2 rfl) rfl) rfl) ?_
            refine ev_isubV g33 rfl rfl ?_
            refine ev_isubB (l := -199) (u := 199) rfl rfl b35 b36 (by decide) (by decide) (by decide) (by decide) (fun v39 b39 e39 g39 => ?_)
            refine ev_putI rfl rfl fl_X10_13 rfl rfl rfl rfl rfl ?_
            obtain ⟨h40, k40⟩ : ∃ z_, z_ = ev_set h26 63 1 v39 := ⟨_, rfl⟩
            rw [← k40]
            have hP40 := JP.put hP26 rfl rfl (b39.mono (by decide) (by decide)) k40
            refine ev_aload_n rfl rfl rfl ?_
            refine ev_aload_n rfl rfl rfl ?_
            refine ev_getV (v := f2) rfl rfl fl_X10_19 rfl rfl rfl (rd_o k40 (rd_o k26 (rd_o k20 (rd_o k12 ef2 rfl) rfl) rfl) rfl) ?_
            refine ev_putI rfl rfl fl_X10_7 rfl rfl rfl rfl rfl ?_
            obtain ⟨h41, k41⟩ : ∃ z_, z_ = ev_set h40 63 0 f2 := ⟨_, rfl⟩
            rw [← k41]
            have hJ41 := JP.fix hP40 bf2 k41
            refine ev_aload_n rfl rfl rfl ?_
            refine ev_dup rfl rfl rfl ?_
            refine ev_getW (l := (-2147483648)) (u := 2147483647) hJ41.1 rfl rfl rfl fl_X10_131 rfl rfl rfl (fun v42 b42 e42 => ?_)
            refine ev_iconst (v := 1) rfl rfl (by decide) ?_
            refine ev_iaddA rfl rfl (fun v43 g43 => ?_)
            refine ev_putW (l := (-2147483648)) (u := 2147483647) hJ41 rfl (B.any v43) (by decide) (by decide) rfl rfl rfl fl_X10_131 rfl rfl rfl rfl rfl (fun h44 hJ44 k44 => ?_)
            refine ev_iload_n rfl rfl rfl ?_
            exact ev_iret rfl rfl rfl ⟨⟨_, rfl, ⟨(q10.mono (by decide) (by decide)), (by have z0_ := congrArg Int32.toInt (rd_o k44 (rd_s k41) rfl); have z1_ := congrArg Int32.toInt (rd_o k44 (rd_o k41 (rd_o k40 (rd_o k26 (rd_o k20 (rd_o k12 ef2 rfl) rfl) rfl) rfl) rfl) rfl); have z_ := w_lits; have zl_ := l_lits; omega)⟩⟩, rfl, hJ44⟩
          · have z38 := w_lt (Int32.not_le.mp c34)
            refine ev_iconst (v := 0) rfl rfl (by decide) ?_
            refine ev_goto rfl rfl ?_
            refine ev_putI rfl rfl fl_X10_13 rfl rfl rfl rfl rfl ?_
            obtain ⟨h45, k45⟩ : ∃ z_, z_ = ev_set h26 63 1 0 := ⟨_, rfl⟩
            rw [← k45]
            have hP45 := JP.put hP26 rfl rfl ((by decide : B 0 0 0).mono (by decide) (by decide)) k45
            refine ev_aload_n rfl rfl rfl ?_
            refine ev_aload_n rfl rfl rfl ?_
            refine ev_getV (v := f2) rfl rfl fl_X10_19 rfl rfl rfl (rd_o k45 (rd_o k26 (rd_o k20 (rd_o k12 ef2 rfl) rfl) rfl) rfl) ?_
            refine ev_putI rfl rfl fl_X10_7 rfl rfl rfl rfl rfl ?_
            obtain ⟨h46, k46⟩ : ∃ z_, z_ = ev_set h45 63 0 f2 := ⟨_, rfl⟩
            rw [← k46]
            have hJ46 := JP.fix hP45 bf2 k46
            refine ev_aload_n rfl rfl rfl ?_
            refine ev_dup rfl rfl rfl ?_
            refine ev_getW (l := (-2147483648)) (u := 2147483647) hJ46.1 rfl rfl rfl fl_X10_131 rfl rfl rfl (fun v47 b47 e47 => ?_)
            refine ev_iconst (v := 1) rfl rfl (by decide) ?_
            refine ev_iaddA rfl rfl (fun v48 g48 => ?_)
            refine ev_putW (l := (-2147483648)) (u := 2147483647) hJ46 rfl (B.any v48) (by decide) (by decide) rfl rfl rfl fl_X10_131 rfl rfl rfl rfl rfl (fun h49 hJ49 k49 => ?_)
            refine ev_iload_n rfl rfl rfl ?_
            exact ev_iret rfl rfl rfl ⟨⟨_, rfl, ⟨(q10.mono (by decide) (by decide)), (by have z0_ := congrArg Int32.toInt (rd_o k49 (rd_s k46) rfl); have z1_ := congrArg Int32.toInt (rd_o k49 (rd_o k46 (rd_o k45 (rd_o k26 (rd_o k20 (rd_o k12 ef2 rfl) rfl) rfl) rfl) rfl) rfl); have z_ := w_lits; have zl_ := l_lits; omega)⟩⟩, rfl, hJ49⟩
      · have b24 : B v19 (-2147483648) (-1) := R_ltX (B.any v19) (by decide : B 0 0 0) (Int32.not_le.mp c21) (by decide)
        have z25 := w_lt (Int32.not_le.mp c21)
        rw [show (0 : Int32).toInt = 0 from by decide] at z25
        refine ev_iconst (v := 0) rfl rfl (by decide) ?_
        refine ev_goto rfl rfl ?_
        refine ev_putI rfl rfl fl_X10_7 rfl rfl rfl rfl rfl ?_
        obtain ⟨h50, k50⟩ : ∃ z_, z_ = ev_set h20 63 0 0 := ⟨_, rfl⟩
        rw [← k50]
        have hJ50 := JP.fix hP20 ((by decide : B 0 0 0).mono (by decide) (by decide)) k50
        refine ev_aload_n rfl rfl rfl ?_
        refine ev_getV (v := 0) rfl rfl fl_X10_7 rfl rfl rfl (rd_s k50) ?_
        refine ev_aload_n rfl rfl rfl ?_
        refine ev_getV (v := f2) rfl rfl fl_X10_19 rfl rfl rfl (rd_o k50 (rd_o k20 (rd_o k12 ef2 rfl) rfl) rfl) ?_
        refine ev_icmp_le rfl rfl (fun c51 => ?_) (fun c51 => absurd (D_le (by decide : B 0 0 0) bf2 (by decide)) c51)
        have z52 := w_le c51
        rw [show (0 : Int32).toInt = 0 from by decide] at z52
        refine ev_iload_n rfl rfl rfl ?_
        exact ev_iret rfl rfl rfl ⟨⟨_, rfl, ⟨(q10.mono (by decide) (by decide)), (by have z0_ := congrArg Int32.toInt (rd_s k50); have z1_ := congrArg Int32.toInt (rd_o k50 (rd_o k20 (rd_o k12 ef2 rfl) rfl) rfl); have z_ := w_lits; have zl_ := l_lits; omega)⟩⟩, rfl, hJ50⟩
    · have b16 : B v11 1 2147483647 := R_ltY (by decide : B 0 0 0) (B.any v11) (Int32.not_le.mp c13) (by decide)
      have z17 := w_lt (Int32.not_le.mp c13)
      rw [show (0 : Int32).toInt = 0 from by decide] at z17
      refine ev_iconst (v := 2) rfl rfl (by decide) ?_
      refine ev_aload_n rfl rfl rfl ?_
      refine ev_getW (l := (-2147483648)) (u := 2147483647) hJ12.1 rfl rfl rfl fl_X10_16 rfl rfl rfl (fun v53 b53 e53 => ?_)
      refine ev_imulA rfl rfl (fun v54 => ?_)
      refine ev_goto rfl rfl ?_
      refine ev_iload_n rfl rfl rfl ?_
      refine ev_isubA rfl rfl (fun v55 g55 => ?_)
      refine ev_iaddA rfl rfl (fun v56 g56 => ?_)
      refine ev_putI rfl rfl fl_X10_7 rfl rfl rfl rfl rfl ?_
      obtain ⟨h57, k57⟩ : ∃ z_, z_ = ev_set h12 63 0 v56 := ⟨_, rfl⟩
      rw [← k57]
      have hP57 := JP.start hJ12 rfl k57
      refine ev_aload_n rfl rfl rfl ?_
      refine ev_aload_n rfl rfl rfl ?_
      refine ev_getV (v := v56) rfl rfl fl_X10_7 rfl rfl rfl (rd_s k57) ?_
      refine ev_if_ge rfl rfl (fun c58 => ?_) (fun c58 => ?_)
      · have b59 : B v56 0 2147483647 := R_leY (by decide : B 0 0 0) (B.any v56) c58 (by decide)
        have z60 := w_le c58
        rw [show (0 : Int32).toInt = 0 from by decide] at z60
        refine ev_aload_n rfl rfl rfl ?_
        refine ev_getV (v := v56) rfl rfl fl_X10_7 rfl rfl rfl (rd_s k57) ?_
        refine ev_putI rfl rfl fl_X10_7 rfl rfl rfl rfl rfl ?_
        obtain ⟨h63, k63⟩ : ∃ z_, z_ = ev_set h57 63 0 v56 := ⟨_, rfl⟩
        rw [← k63]
        have hP63 := JP.again hP57 k63
        refine ev_aload_n rfl rfl rfl ?_
        refine ev_getV (v := v56) rfl rfl fl_X10_7 rfl rfl rfl (rd_s k63) ?_
        refine ev_aload_n rfl rfl rfl ?_
        refine ev_getV (v := f2) rfl rfl fl_X10_19 rfl rfl rfl (rd_o k63 (rd_o k57 (rd_o k12 ef2 rfl) rfl) rfl) ?_
        refine ev_icmp_le rfl rfl (fun c64 => ?_) (fun c64 => ?_)
        · have b65 : B v56 0 200 := R_leX b59 bf2 c64 (by decide)
          have z66 := w_le c64
          have hJ69 := JP.rest hP63 (rd_s k63) b65
          refine ev_iload_n rfl rfl rfl ?_
          exact ev_iret rfl rfl rfl ⟨⟨_, rfl, ⟨(q10.mono (by decide) (by decide)), (by have z0_ := congrArg Int32.toInt (rd_s k63); have z1_ := congrArg Int32.toInt (rd_o k63 (rd_o k57 (rd_o k12 ef2 rfl) rfl) rfl); have z_ := w_lits; have zl_ := l_lits; omega)⟩⟩, rfl, hJ69⟩
        · have b67 : B v56 1 2147483647 := R_ltY bf2 b59 (Int32.not_le.mp c64) (by decide)
          have z68 := w_lt (Int32.not_le.mp c64)
          refine ev_aload_n rfl rfl rfl ?_
          refine ev_aload_n rfl rfl rfl ?_
          refine ev_getV (v := v11) rfl rfl fl_X10_13 rfl rfl rfl (rd_o k63 (rd_o k57 (rd_s k12) rfl) rfl) ?_
          refine ev_aload_n rfl rfl rfl ?_
          refine ev_getV (v := v56) rfl rfl fl_X10_7 rfl rfl rfl (rd_s k63) ?_
          refine ev_aload_n rfl rfl rfl ?_
          refine ev_getV (v := f2) rfl rfl fl_X10_19 rfl rfl rfl (rd_o k63 (rd_o k57 (rd_o k12 ef2 rfl) rfl) rfl) ?_
          refine ev_isubB (l := -199) (u := 2147483647) rfl rfl b67 bf2 (by decide) (by decide) (by decide) (by decide) (fun v70 b70 e70 g70 => ?_)
          refine ev_icmp_ge rfl rfl (fun c71 => ?_) (fun c71 => ?_)
          · have z72 := w_le c71
            refine ev_aload_n rfl rfl rfl ?_
            refine ev_getV (v := v11) rfl rfl fl_X10_13 rfl rfl rfl (rd_o k63 (rd_o k57 (rd_s k12) rfl) rfl) ?_
            refine ev_aload_n rfl rfl rfl ?_
            refine ev_getV (v := v56) rfl rfl fl_X10_7 rfl rfl rfl (rd_s k63) ?_
            refine ev_aload_n rfl rfl rfl ?_
            refine ev_getV (v := f2) rfl rfl fl_X10_19 rfl rfl rfl (rd_o k63 (rd_o k57 (rd_o k12 ef2 rfl) rfl) rfl) ?_
            refine ev_isubV g70 rfl rfl ?_
            refine ev_isubA rfl rfl (fun v76 g76 => ?_)
            refine ev_putI rfl rfl fl_X10_13 rfl rfl rfl rfl rfl ?_
            obtain ⟨h77, k77⟩ : ∃ z_, z_ = ev_set h63 63 1 v76 := ⟨_, rfl⟩
            rw [← k77]
            have hP77 := JP.put hP63 rfl rfl (B.any v76) k77
            refine ev_aload_n rfl rfl rfl ?_
            refine ev_aload_n rfl rfl rfl ?_
            refine ev_getV (v := f2) rfl rfl fl_X10_19 rfl rfl rfl (rd_o k77 (rd_o k63 (rd_o k57 (rd_o k12 ef2 rfl) rfl) rfl) rfl) ?_
            refine ev_putI rfl rfl fl_X10_7 rfl rfl rfl rfl rfl ?_
            obtain ⟨h78, k78⟩ : ∃ z_, z_ = ev_set h77 63 0 f2 := ⟨_, rfl⟩
            rw [← k78]
            have hJ78 := JP.fix hP77 bf2 k78
            refine ev_aload_n rfl rfl rfl ?_
            refine ev_dup rfl rfl rfl ?_
            refine ev_getW (l := (-2147483648)) (u := 2147483647) hJ78.1 rfl rfl rfl fl_X10_131 rfl rfl rfl (fun v79 b79 e79 => ?_)
            refine ev_iconst (v := 1) rfl rfl (by decide) ?_
            refine ev_iaddA rfl rfl (fun v80 g80 => ?_)
            refine ev_putW (l := (-2147483648)) (u := 2147483647) hJ78 rfl (B.any v80) (by decide) (by decide) rfl rfl rfl fl_X10_131 rfl rfl rfl rfl rfl (fun h81 hJ81 k81 => ?_)
            refine ev_iload_n rfl rfl rfl ?_
            exact ev_iret rfl rfl rfl ⟨⟨_, rfl, ⟨(q10.mono (by decide) (by decide)), (by have z0_ := congrArg Int32.toInt (rd_o k81 (rd_s k78) rfl); have z1_ := congrArg Int32.toInt (rd_o k81 (rd_o k78 (rd_o k77 (rd_o k63 (rd_o k57 (rd_o k12 ef2 rfl) rfl) rfl) rfl) rfl) rfl); have z_ := w_lits; have zl_ := l_lits; omega)⟩⟩, rfl, hJ81⟩
          · have b73 : B v11 1 2147483646 := R_ltX b16 b70 (Int32.not_le.mp c71) (by decide)
            have b74 : B v70 2 2147483647 := R_ltY b16 b70 (Int32.not_le.mp c71) (by decide)
            have z75 := w_lt (Int32.not_le.mp c71)
            refine ev_iconst (v := 0) rfl rfl (by decide) ?_
            refine ev_goto rfl rfl ?_
            refine ev_putI rfl rfl fl_X10_13 rfl rfl rfl rfl rfl ?_
            obtain ⟨h82, k82⟩ : ∃ z_, z_ = ev_set h63 63 1 0 := ⟨_, rfl⟩
            rw [← k82]
            have hP82 := JP.put hP63 rfl rfl ((by decide : B 0 0 0).mono (by decide) (by decide)) k82
            refine ev_aload_n rfl rfl rfl ?_
            refine ev_aload_n rfl rfl rfl ?_
            refine ev_getV (v := f2) rfl rfl fl_X10_19 rfl rfl rfl (rd_o k82 (rd_o k63 (rd_o k57 (rd_o k12 ef2 rfl) rfl) rfl) rfl) ?_
            refine ev_putI rfl rfl fl_X10_7 rfl rfl rfl rfl rfl ?_
            obtain ⟨h83, k83⟩ : ∃ z_, z_ = ev_set h82 63 0 f2 := ⟨_, rfl⟩
            rw [← k83]
            have hJ83 := JP.fix hP82 bf2 k83
            refine ev_aload_n rfl rfl rfl ?_
            refine ev_dup rfl rfl rfl ?_
            refine ev_getW (l := (-2147483648)) (u := 2147483647) hJ83.1 rfl rfl rfl fl_X10_131 rfl rfl rfl (fun v84 b84 e84 => ?_)
            refine ev_iconst (v := 1) rfl rfl (by decide) ?_
            refine ev_iaddA rfl rfl (fun v85 g85 => ?_)
            refine ev_putW (l := (-2147483648)) (u := 2147483647) hJ83 rfl (B.any v85) (by decide) (by decide) rfl rfl rfl fl_X10_131 rfl rfl rfl rfl rfl (fun h86 hJ86 k86 => ?_)
            refine ev_iload_n rfl rfl rfl ?_
            exact ev_iret rfl rfl rfl ⟨⟨_, rfl, ⟨(q10.mono (by decide) (by decide)), (by have z0_ := congrArg Int32.toInt (rd_o k86 (rd_s k83) rfl); have z1_ := congrArg Int32.toInt (rd_o k86 (rd_o k83 (rd_o k82 (rd_o k63 (rd_o k57 (rd_o k12 ef2 rfl) rfl) rfl) rfl) rfl) rfl); have z_ := w_lits; have zl_ := l_lits; omega)⟩⟩, rfl, hJ86⟩
      · have b61 : B v56 (-2147483648) (-1) := R_ltX (B.any v56) (by decide : B 0 0 0) (Int32.not_le.mp c58) (by decide)
        have z62 := w_lt (Int32.not_le.mp c58)
        rw [show (0 : Int32).toInt = 0 from by decide] at z62
        refine ev_iconst (v := 0) rfl rfl (by decide) ?_
        refine ev_goto rfl rfl ?_
        refine ev_putI rfl rfl fl_X10_7 rfl rfl rfl rfl rfl ?_
        obtain ⟨h87, k87⟩ : ∃ z_, z_ = ev_set h57 63 0 0 := ⟨_, rfl⟩
        rw [← k87]
        have hJ87 := JP.fix hP57 ((by decide : B 0 0 0).mono (by decide) (by decide)) k87
        refine ev_aload_n rfl rfl rfl ?_
        refine ev_getV (v := 0) rfl rfl fl_X10_7 rfl rfl rfl (rd_s k87) ?_
        refine ev_aload_n rfl rfl rfl ?_
        refine ev_getV (v := f2) rfl rfl fl_X10_19 rfl rfl rfl (rd_o k87 (rd_o k57 (rd_o k12 ef2 rfl) rfl) rfl) ?_
        refine ev_icmp_le rfl rfl (fun c88 => ?_) (fun c88 => absurd (D_le (by decide : B 0 0 0) bf2 (by decide)) c88)
        have z89 := w_le c88
        rw [show (0 : Int32).toInt = 0 from by decide] at z89
        refine ev_iload_n rfl rfl rfl ?_
        exact ev_iret rfl rfl rfl ⟨⟨_, rfl, ⟨(q10.mono (by decide) (by decide)), (by have z0_ := congrArg Int32.toInt (rd_s k87); have z1_ := congrArg Int32.toInt (rd_o k87 (rd_o k57 (rd_o k12 ef2 rfl) rfl) rfl); have z_ := w_lits; have zl_ := l_lits; omega)⟩⟩, rfl, hJ87⟩
  · have b7 : B r3 (-2147483647) 2147483647 := R_ltY (B.any v4) (B.any r3) (Int32.not_le.mp c5) (by decide)
    have b8 : B v4 (-2147483648) 2147483646 := R_ltX (B.any v4) (B.any r3) (Int32.not_le.mp c5) (by decide)
    have z9 := w_lt (Int32.not_le.mp c5)
    refine ev_bipush (v := (-5)) rfl rfl (by decide) ?_
    exact ev_iret rfl rfl rfl ⟨⟨_, rfl, ⟨((by decide : B (-5) (-5) (-5)).mono (by decide) (by decide)), (by have z0_ := congrArg Int32.toInt ef1; have z1_ := congrArg Int32.toInt ef2; have z_ := w_lits; have zl_ := l_lits; omega)⟩⟩, rfl, hJ0⟩

set_option maxRecDepth 100000 in
set_option maxHeartbeats 4000000 in
theorem w_X10_feed_63 (L : Nat) (b : Bool) (h : Hp) (hB : Bx h) (a0 : Int64) : EvJ mi_X10_feed [.ref 63, .long a0] (G0 L b) h (fun r : Int32 => B r (-3) 160) [(63, 16), (72, 999)] := by
  refine EvM.of2 (lo := [some (.ref 63), some (.long a0), none, none]) pf_X10_feed ok_X10_feed rfl rfl ?_
  have hJ0 : JW [(63, 16), (72, 999)] h h := JW.refl hB
  obtain ⟨f1, ef1⟩ : ∃ f_, h 63 16 = f_ := ⟨_, rfl⟩
  have bf1 : B f1 0 160 := by have z_ := hJ0.1 63 16; rw [ef1] at z_; exact z_
  have zf1 := congrArg Int32.toInt ef1
  refine ev_aload_n rfl rfl rfl ?_
  refine ev_getV (v := f1) rfl rfl fl_X10_186 rfl rfl rfl ef1 ?_
  refine ev_bipush (v := 8) rfl rfl (by decide) ?_
  refine ev_iaddB (l := 8) (u := 168) rfl rfl bf1 (by decide : B 8 8 8) (by decide) (by decide) (by decide) (by decide) (fun v2 b2 e2 g2 => ?_)
  have e2x := e2; rw [show (8 : Int32).toInt = 8 from by decide] at e2x
  refine ev_sipush (v := 160) rfl rfl (by decide) ?_
  refine ev_icmp_le rfl rfl (fun c3 => ?_) (fun c3 => ?_)
  · have b4 : B v2 8 160 := R_leX b2 (by decide : B 160 160 160) c3 (by decide)
    have b5 : B f1 0 152 := (R_bk (l' := 0) (u' := 152) e2 b4 (by decide : B 8 8 8) (by decide) (by decide))
    have z6 := w_le c3
    rw [show (160 : Int32).toInt = 160 from by decide] at z6
    refine ev_bipush (v := 56) rfl rfl (by decide) ?_
    refine ev_istore_n rfl rfl rfl rfl ?_
    dsimp only [List.set]
    have lp19_76 : ∀ (n : Nat) (w77 : Int32) (h79 : Hp), B w77 (-8) 56 → JW [(63, 16), (72, 999)] h h79 → ((h79 63 16).toInt * 8 + w77.toInt = (h 63 16).toInt * 8 + 56) → w77.toInt + 1 - (-8) ≤ (n : Int) → EvQ mi_X10_feed 19 [some (.ref 63), some (.long a0), none, some (.int w77)] [] (G0 L b) h79 0 0 (QJ (fun r : Int32 => B r (-3) 160) [(63, 16), (72, 999)] (G0 L b) h) := by
      intro n
      induction n with
      | zero =>
        intro w77 h79 b78 hJ80 y19_0 hm19
        exact absurd hm19 (M_zero b78 (by decide))
      | succ n ih19 =>
        intro w77 h79 b78 hJ80 y19_0 hm19
        obtain ⟨f81, ef81⟩ : ∃ f_, h79 63 16 = f_ := ⟨_, rfl⟩
        have bf81 : B f81 0 160 := by have z_ := hJ80.1 63 16; rw [ef81] at z_; exact z_
        have zf81 := congrArg Int32.toInt ef81
        have z82 := congrArg Int32.toInt ef81
        refine ev_iload_n rfl rfl rfl ?_
        refine ev_if_lt rfl rfl (fun c83 => ?_) (fun c83 => ?_)
        · have b84 : B w77 (-8) (-1) := R_ltX b78 (by decide : B 0 0 0) c83 (by decide)
          have z85 := w_lt c83
          rw [show (0 : Int32).toInt = 0 from by decide] at z85
          refine ev_aload_n rfl rfl rfl ?_
          refine ev_getV (v := f81) rfl rfl fl_X10_186 rfl rfl rfl ef81 ?_
          exact ev_iret rfl rfl rfl ⟨⟨_, rfl, (bf81.mono (by decide) (by decide))⟩, rfl, hJ80⟩
        · have b86 : B w77 0 56 := R_leY (by decide : B 0 0 0) b78 (Int32.not_lt.mp c83) (by decide)
          have z87 := w_le (Int32.not_lt.mp c83)
          rw [show (0 : Int32).toInt = 0 from by decide] at z87
          refine ev_aload_n rfl rfl rfl ?_
          refine ev_getR (y := 72) rfl rfl fl_X10_48 rfl rfl rfl rfl ?_
          refine ev_aload_n rfl rfl rfl ?_
          refine ev_getV (v := f81) rfl rfl fl_X10_186 rfl rfl rfl ef81 ?_
          have b88 : B f81 0 159 := ⟨(by have z0_ := congrArg Int32.toInt ef81; have z_ := w_lits; have zl_ := l_lits; omega), (by have z0_ := congrArg Int32.toInt ef81; have z_ := w_lits; have zl_ := l_lits; omega)⟩
          refine ev_lload_n rfl rfl rfl ?_
          refine ev_iload_n rfl rfl rfl ?_
          refine ev_lshr rfl rfl ?_
          refine ev_ldc2 (v := 255) rfl rfl kc_X10_189 ?_
          refine ev_land rfl rfl ?_
          refine ev_l2i rfl rfl ?_
          have b89 := B.l255 (a0 >>> (Int32.toInt64 w77 &&& 63))
          generalize Int64.toInt32 ((a0 >>> (Int32.toInt64 w77 &&& 63)) &&& 255) = v89 at b89 ⊢
          refine ev_iasW (n := 160) (l := 0) (u := 255) hJ80 b88 (by decide) (by decide) (fun _ => rfl) b89 (by decide) (by decide) (fun _ => rfl) rfl rfl rfl rfl (fun h90 hJ90 k90 => ?_)
          refine ev_aload_n rfl rfl rfl ?_
          refine ev_dup rfl rfl rfl ?_
          refine ev_getV (v := f81) rfl rfl fl_X10_186 rfl rfl rfl (rd_a k90 ef81 rfl) ?_
          refine ev_iconst (v := 1) rfl rfl (by decide) ?_
          refine ev_iaddB (l := 1) (u := 160) rfl rfl b88 (by decide : B 1 1 1) (by decide) (by decide) (by decide) (by decide) (fun v91 b91 e91 g91 => ?_)
          have e91x := e91; rw [show (1 : Int32).toInt = 1 from by decide] at e91x
          have b92 : B v91 0 160 := ⟨(by have z0_ := congrArg Int32.toInt (rd_a k90 ef81 rfl); have z_ := w_lits; have zl_ := l_lits; omega), (by have z0_ := congrArg Int32.toInt (rd_a k90 ef81 rfl); have z_ := w_lits; have zl_ := l_lits; omega)⟩
          refine ev_putW (l := 0) (u := 160) hJ90 rfl b92 (by decide) (by decide) rfl rfl rfl fl_X10_186 rfl rfl rfl rfl rfl (fun h93 hJ93 k93 => ?_)
          refine ev_iincB (y := (-8)) (l := -8) (u := 48) rfl rfl rfl (by decide) rfl rfl b86 (by decide : B (-8) (-8) (-8)) (by decide) (by decide) (by decide) (by decide) (fun v94 b94 e94 => ?_)
          dsimp only [List.set]
          have e94x := e94; rw [show ((-8) : Int32).toInt = (-8) from by decide] at e94x
          refine ev_goto rfl rfl ?_
          exact (ih19 v94 h93 (b94.mono (by decide) (by decide)) hJ93 (by have z0_ := congrArg Int32.toInt (rd_s k93); have z_ := w_lits; have zl_ := l_lits; omega) (M_dn hm19 (e_m1 e94 (by decide))))
    exact (lp19_76 65 56 h ((by decide : B 56 56 56).mono (by decide) (by decide)) hJ0 (by have z0_ := congrArg Int32.toInt ef1; have z_ := w_lits; have zl_ := l_lits; omega) (M_init (by decide : B 56 56 56) (by decide)))
  · have b7 : B v2 161 168 := R_ltY (by decide : B 160 160 160) b2 (Int32.not_le.mp c3) (by decide)
    have b8 : B f1 153 160 := (R_bk (l' := 153) (u' := 160) e2 b7 (by decide : B 8 8 8) (by decide) (by decide))
    have z9 := w_lt (Int32.not_le.mp c3)
    rw [show (160 : Int32).toInt = 160 from by decide] at z9
    refine ev_bipush (v := (-3)) rfl rfl (by decide) ?_
    exact ev_iret rfl rfl rfl ⟨⟨_, rfl, ((by decide : B (-3) (-3) (-3)).mono (by decide) (by decide))⟩, rfl, hJ0⟩

set_option maxRecDepth 100000 in
set_option maxHeartbeats 4000000 in
theorem w_X10_scan_63 (L : Nat) (b : Bool) (h : Hp) (hB : Bx h) (a0 : Int32) (a1 : Int32) (a2 : Int32) (a3 : Int32) : EvJ mi_X10_scan [.ref 63, .int a0, .int a1, .int a2, .int a3] (G0 L b) h (fun r : Int32 => B r (-2147483648) 12) [(63, 5), (64, 999), (65, 999), (66, 999), (67, 999), (68, 999), (69, 999), (70, 999)] := by
  refine EvM.of2 (lo := [some (.ref 63), some (.int a0), some (.int a1), some (.int a2), some (.int a3), none, none, none, none, none, none, none]) pf_X10_scan ok_X10_scan rfl rfl ?_
  have hJ0 : JW [(63, 5), (64, 999), (65, 999), (66, 999), (67, 999), (68, 999), (69, 999), (70, 999)] h h := JW.refl hB
  obtain ⟨f1, ef1⟩ : ∃ f_, h 63 5 = f_ := ⟨_, rfl⟩
  have bf1 : B f1 0 12 := by have z_ := hJ0.1 63 5; rw [ef1] at z_; exact z_
  have zf1 := congrArg Int32.toInt ef1
  refine ev_iload_n rfl rfl rfl ?_
  refine ev_iload_n rfl rfl rfl ?_
  refine ev_S2P rfl rfl lk_X10_335 st_X10_isSheet rfl rfl (w_X10_isSheet L b h hJ0.1 a0 a1) (fun r2 q2 => ?_)
  obtain ⟨b2, p2_0, p2_1⟩ := q2
  refine ev_if_eq rfl rfl (fun c3 => ?_) (fun c3 => ?_)
  · have b4 : B r2 0 0 := R_eqX b2 (by decide : B 0 0 0) c3
    have z5 := congrArg Int32.toInt c3
    rw [show (0 : Int32).toInt = 0 from by decide] at z5
    refine ev_iconst (v := (-1)) rfl rfl (by decide) ?_
    exact ev_iret rfl rfl rfl ⟨⟨_, rfl, ((by decide : B (-1) (-1) (-1)).mono (by decide) (by decide))⟩, rfl, hJ0⟩
  · have b6 : B r2 1 1 := R_neL b2 (by decide : B 0 0 0) c3 (by decide)
    have b7 : B a0 0 3 := p2_0 c3
    have b8 : B a1 0 2 := p2_1 c3
    have z9 := w_ne c3
    rw [show (0 : Int32).toInt = 0 from by decide] at z9
    refine ev_iload rfl rfl rfl ?_
    refine ev_i2l rfl rfl ?_
    have z10 := Int32.toInt_toInt64 a3
    have z10b := B.any a3
    refine ev_lconst (v := 0) rfl rfl rfl ?_
    refine ev_ldc2 (v := 12) rfl rfl kc_X10_358 ?_
    have z11 := congrArg Int32.toInt ef1
    refine ev_S3P rfl rfl lk_X10_124 st_X10_in rfl rfl (w_inR (G0 L b) h a3 0 12 (by decide : BL 0 0 0) (by decide : BL 12 12 12)) (fun r12 q12 => ?_)
    obtain ⟨b12, p12_0, pp12_0, pp12_1⟩ := q12
    refine ev_if_ne rfl rfl (fun c13 => ?_) (fun c13 => ?_)
    · have b14 : B r12 1 1 := R_neL b12 (by decide : B 0 0 0) c13 (by decide)
      have b15 : B a3 0 12 := p12_0 c13
      have z16 := w_ne c13
      rw [show (0 : Int32).toInt = 0 from by decide] at z16
      refine ev_aload_n rfl rfl rfl ?_
      refine ev_getR (y := 92) rfl rfl fl_X10_112 rfl rfl rfl rfl ?_
      refine ev_iload_n rfl rfl rfl ?_
      refine ev_ialW (n := 4) (l := (-2147483648)) (u := 2147483647) hJ0.1 b7 (by decide) (by decide) (fun _ => rfl) rfl rfl rfl (fun v19 b19 e19 => ?_)
      refine ev_iload_n rfl rfl rfl ?_
      refine ev_icmp_eq rfl rfl (fun c20 => ?_) (fun c20 => ?_)
      · have b21 : B v19 0 2 := R_eqX (B.any v19) b8 c20
        have z22 := congrArg Int32.toInt c20
        refine ev_aload_n rfl rfl rfl ?_
        refine ev_getV (v := f1) rfl rfl fl_X10_121 rfl rfl rfl ef1 ?_
        refine ev_istore rfl rfl rfl rfl ?_
        dsimp only [List.set]
        refine ev_iconst (v := 0) rfl rfl (by decide) ?_
        refine ev_istore rfl rfl rfl rfl ?_
        dsimp only [List.set]
        refine ev_iconst (v := 0) rfl rfl (by decide) ?_
        refine ev_istore rfl rfl rfl rfl ?_
        dsimp only [List.set]
        have lp64_514 : ∀ (n : Nat) (w515 : Int32) (w516 : Int32) (h519 : Hp), B w515 (-23) 0 → B w516 0 12 → JW [(63, 5), (64, 999), (65, 999), (66, 999), (67, 999), (68, 999), (69, 999), (70, 999)] h h519 → (h519 92 (Int32.toNatClampNeg a0) = v19) → 12 + 1 - w516.toInt ≤ (n : Int) → EvQ mi_X10_scan 64 [some (.ref 63), some (.int a0), some (.int a1), some (.int a2), some (.int a3), some (.int f1), some (.int w515), some (.int w516), none, none, none, none] [] (G0 L b) h519 0 0 (QJ (fun r : Int32 => B r (-2147483648) 12) [(63, 5), (64, 999), (65, 999), (66, 999), (67, 999), (68, 999), (69, 999), (70, 999)] (G0 L b) h) := by
          intro n
          induction n with
          | zero =>
            intro w515 w516 h519 b517 b518 hJ520 z521 hm64
            exact absurd hm64 (L_zero b518 (by decide))
          | succ n ih64 =>
            intro w515 w516 h519 b517 b518 hJ520 z521 hm64
            obtain ⟨f522, ef522⟩ : ∃ f_, h519 63 5 = f_ := ⟨_, rfl⟩
            have bf522 : B f522 0 12 := by have z_ := hJ520.1 63 5; rw [ef522] at z_; exact z_
            have zf522 := congrArg Int32.toInt ef522
            have z523 := congrArg Int32.toInt ef522
            refine ev_iload rfl rfl rfl ?_
            refine ev_iload rfl rfl rfl ?_
            refine ev_icmp_ge rfl rfl (fun c524 => ?_) (fun c524 => ?_)
            · have z525 := w_le c524
              refine ev_aload_n rfl rfl rfl ?_
              refine ev_iload rfl rfl rfl ?_
              refine ev_if_ge rfl rfl (fun c529 => ?_) (fun c529 => ?_)
              · have b530 : B w515 0 0 := R_leY (by decide : B 0 0 0) b517 c529 (by decide)
                have z531 := w_le c529
                rw [show (0 : Int32).toInt = 0 from by decide] at z531
                refine ev_aload_n rfl rfl rfl ?_
                refine ev_getV (v := f522) rfl rfl fl_X10_121 rfl rfl rfl ef522 ?_
                refine ev_putW (l := 0) (u := 12) hJ520 rfl bf522 (by decide) (by decide) rfl rfl rfl fl_X10_121 rfl rfl rfl rfl rfl (fun h534 hJ534 k534 => ?_)
                refine ev_iload rfl rfl rfl ?_
                refine ev_if_ge rfl rfl (fun c535 => ?_) (fun c535 => absurd (D_le (by decide : B 0 0 0) b530 (by decide)) c535)
                have z536 := w_le c535
                rw [show (0 : Int32).toInt = 0 from by decide] at z536
                refine ev_aload_n rfl rfl rfl ?_
                refine ev_getV (v := f522) rfl rfl fl_X10_121 rfl rfl rfl (rd_s k534) ?_
                exact ev_iret rfl rfl rfl ⟨⟨_, rfl, (bf522.mono (by decide) (by decide))⟩, rfl, hJ534⟩
              · have b532 : B w515 (-23) (-1) := R_ltX b517 (by decide : B 0 0 0) (Int32.not_le.mp c529) (by decide)
                have z533 := w_lt (Int32.not_le.mp c529)
                rw [show (0 : Int32).toInt = 0 from by decide] at z533
                refine ev_iload rfl rfl rfl ?_
                refine ev_goto rfl rfl ?_
                refine ev_putW (l := 0) (u := 12) hJ520 rfl bf1 (by decide) (by decide) rfl rfl rfl fl_X10_121 rfl rfl rfl rfl rfl (fun h537 hJ537 k537 => ?_)
                refine ev_iload rfl rfl rfl ?_
                refine ev_if_ge rfl rfl (fun c538 => absurd c538 (D_nle (by decide : B 0 0 0) b532 (by decide))) (fun c538 => ?_)
                have z539 := w_lt (Int32.not_le.mp c538)
                rw [show (0 : Int32).toInt = 0 from by decide] at z539
                refine ev_iload rfl rfl rfl ?_
                refine ev_goto rfl rfl ?_
                exact ev_iret rfl rfl rfl ⟨⟨_, rfl, (b532.mono (by decide) (by decide))⟩, rfl, hJ537⟩
            · have b526 : B w516 0 11 := R_ltX b518 b15 (Int32.not_le.mp c524) (by decide)
              have b527 : B a3 1 12 := R_ltY b518 b15 (Int32.not_le.mp c524) (by decide)
              have z528 := w_lt (Int32.not_le.mp c524)
              refine ev_iload rfl rfl rfl ?_
              refine ev_if_ne rfl rfl (fun c540 => ?_) (fun c540 => ?_)
              · have b541 : B w515 (-23) (-1) := R_neU b517 (by decide : B 0 0 0) c540 (by decide)
                have z542 := w_ne c540
                rw [show (0 : Int32).toInt = 0 from by decide] at z542
                refine ev_aload_n rfl rfl rfl ?_
                refine ev_iload rfl rfl rfl ?_
                refine ev_if_ge rfl rfl (fun c545 => absurd c545 (D_nle (by decide : B 0 0 0) b541 (by decide))) (fun c545 => ?_)
                have z546 := w_lt (Int32.not_le.mp c545)
                rw [show (0 : Int32).toInt = 0 from by decide] at z546
                refine ev_iload rfl rfl rfl ?_
                refine ev_goto rfl rfl ?_
                refine ev_putW (l := 0) (u := 12) hJ520 rfl bf1 (by decide) (by decide) rfl rfl rfl fl_X10_121 rfl rfl rfl rfl rfl (fun h547 hJ547 k547 => ?_)
                refine ev_iload rfl rfl rfl ?_
                refine ev_if_ge rfl rfl (fun c548 => absurd c548 (D_nle (by decide : B 0 0 0) b541 (by decide))) (fun c548 => ?_)
                have z549 := w_lt (Int32.not_le.mp c548)
                rw [show (0 : Int32).toInt = 0 from by decide] at z549
                refine ev_iload rfl rfl rfl ?_
                refine ev_goto rfl rfl ?_
                exact ev_iret rfl rfl rfl ⟨⟨_, rfl, (b541.mono (by decide) (by decide))⟩, rfl, hJ547⟩
              · have b543 : B w515 0 0 := R_eqX b517 (by decide : B 0 0 0) c540
                have z544 := congrArg Int32.toInt c540
                rw [show (0 : Int32).toInt = 0 from by decide] at z544
                refine ev_iload_n rfl rfl rfl ?_
                refine ev_i2l rfl rfl ?_
                have z550 := Int32.toInt_toInt64 a2
                have z550b := B.any a2
                refine ev_iconst (v := 4) rfl rfl (by decide) ?_
                refine ev_iload rfl rfl rfl ?_
                refine ev_imulB (l := 0) (u := 44) rfl rfl (by decide : B 4 4 4) b526 (by decide) (by decide) (by decide) (by decide) (by decide) (fun v551 b551 e551 g551 => ?_)
                rw [show (4 : Int32).toInt = 4 from by decide] at e551
                refine ev_i2l rfl rfl ?_
                have z552 := Int32.toInt_toInt64 v551
                have z552b := B.any v551
                refine ev_ladd rfl rfl ?_
                have z553 := l_add (Int32.toInt64 a2) (Int32.toInt64 v551) (by have z_ := l_lits; omega) (by have z_ := l_lits; omega) (by have z_ := l_lits; omega) (by have z_ := l_lits; omega)
                refine ev_lstore rfl rfl rfl rfl ?_
                dsimp only [List.set]
                refine ev_lload rfl rfl rfl ?_
                refine ev_lconst (v := 0) rfl rfl rfl ?_
                refine ev_lcmp rfl rfl ?_
                have z554 := l_cmp ((Int32.toInt64 a2) + (Int32.toInt64 v551)) 0
                generalize lg_cmp ((Int32.toInt64 a2) + (Int32.toInt64 v551)) 0 = v554 at z554 ⊢
                refine ev_if_lt rfl rfl (fun c555 => ?_) (fun c555 => ?_)
                · have b556 : B v554 (-2147483648) (-1) := R_ltX (B.any v554) (by decide : B 0 0 0) c555 (by decide)
                  have z557 := w_lt c555
                  rw [show (0 : Int32).toInt = 0 from by decide] at z557
                  refine ev_bipush (v := (-12)) rfl rfl (by decide) ?_
                  refine ev_istore rfl rfl rfl rfl ?_
                  dsimp only [List.set]
                  refine ev_goto rfl rfl ?_
                  refine ev_iincB (y := 1) (l := 1) (u := 12) rfl rfl rfl (by decide) rfl rfl b526 (by decide : B 1 1 1) (by decide) (by decide) (by decide) (by decide) (fun v560 b560 e560 => ?_)
                  dsimp only [List.set]
                  have e560x := e560; rw [show (1 : Int32).toInt = 1 from by decide] at e560x
                  refine ev_goto rfl rfl ?_
                  exact (EvQ.drop 8 (ih64 (-12) v560 h519 ((by decide : B (-12) (-12) (-12)).mono (by decide) (by decide)) (b560.mono (by decide) (by decide)) hJ520 z521 (L_up hm64 (e_p1 e560 (by decide)))))
                · have b558 : B v554 0 2147483647 := R_leY (by decide : B 0 0 0) (B.any v554) (Int32.not_lt.mp c555) (by decide)
                  have z559 := w_le (Int32.not_lt.mp c555)
                  rw [show (0 : Int32).toInt = 0 from by decide] at z559
                  refine ev_lload rfl rfl rfl ?_
                  refine ev_ldc2 (v := 4) rfl rfl kc_X10_360 ?_
                  refine ev_ladd rfl rfl ?_
                  have z561 := l_add ((Int32.toInt64 a2) + (Int32.toInt64 v551)) 4 (by have z_ := l_lits; omega) (by have z_ := l_lits; omega) (by have z_ := l_lits; omega) (by have z_ := l_lits; omega)
                  refine ev_aload_n rfl rfl rfl ?_
                  refine ev_getR (y := 93) rfl rfl fl_X10_115 rfl rfl rfl rfl ?_
                  refine ev_iload_n rfl rfl rfl ?_
                  refine ev_ialW (n := 4) (l := 0) (u := 60) hJ520.1 b7 (by decide) (by decide) (fun _ => rfl) rfl rfl rfl (fun v562 b562 e562 => ?_)
                  refine ev_i2l rfl rfl ?_
                  have z563 := Int32.toInt_toInt64 v562
                  have z563b := B.any v562
                  refine ev_lcmp rfl rfl ?_
                  have z564 := l_cmp (((Int32.toInt64 a2) + (Int32.toInt64 v551)) + 4) (Int32.toInt64 v562)
                  generalize lg_cmp (((Int32.toInt64 a2) + (Int32.toInt64 v551)) + 4) (Int32.toInt64 v562) = v564 at z564 ⊢
                  refine ev_if_le rfl rfl (fun c565 => ?_) (fun c565 => ?_)
                  · have b566 : B v564 (-2147483648) 0 := R_leX (B.any v564) (by decide : B 0 0 0) c565 (by decide)
                    have z567 := w_le c565
                    rw [show (0 : Int32).toInt = 0 from by decide] at z567
                    refine ev_bipush (v := 60) rfl rfl (by decide) ?_
                    refine ev_iload_n rfl rfl rfl ?_
                    refine ev_imulB (l := 0) (u := 180) rfl rfl (by decide : B 60 60 60) b7 (by decide) (by decide) (by decide) (by decide) (by decide) (fun v570 b570 e570 g570 => ?_)
                    rw [show (60 : Int32).toInt = 60 from by decide] at e570
                    refine ev_lload rfl rfl rfl ?_
                    refine ev_l2i rfl rfl ?_
                    have z571 := l_2i ((Int32.toInt64 a2) + (Int32.toInt64 v551)) (by have z_ := l_lits; have z2_ := w_lits; omega) (by have z_ := l_lits; have z2_ := w_lits; omega)
                    generalize Int64.toInt32 ((Int32.toInt64 a2) + (Int32.toInt64 v551)) = v571 at z571 ⊢
                    have b572 : B v571 0 56 := ⟨(by have z0_ := congrArg Int32.toInt ef522; have z_ := w_lits; have zl_ := l_lits; omega), (by have z0_ := congrArg Int32.toInt ef522; have z_ := w_lits; have zl_ := l_lits; omega)⟩
                    refine ev_iaddB (l := 0) (u := 236) rfl rfl b570 b572 (by decide) (by decide) (by decide) (by decide) (fun v573 b573 e573 g573 => ?_)
                    refine ev_istore rfl rfl rfl rfl ?_
                    dsimp only [List.set]
                    refine ev_aload_n rfl rfl rfl ?_
                    refine ev_aload_n rfl rfl rfl ?_
                    refine ev_getR (y := 94) rfl rfl fl_X10_118 rfl rfl rfl rfl ?_
                    refine ev_iload rfl rfl rfl ?_
                    refine ev_ialW (n := 240) (l := (-2147483648)) (u := 2147483647) hJ520.1 b573 (by decide) (by decide) (fun _ => rfl) rfl rfl rfl (fun v574 b574 e574 => ?_)
                    refine ev_aload_n rfl rfl rfl ?_
                    refine ev_getR (y := 94) rfl rfl fl_X10_118 rfl rfl rfl rfl ?_
                    refine ev_iload rfl rfl rfl ?_
                    refine ev_iconst (v := 1) rfl rfl (by decide) ?_
                    refine ev_iaddB (l := 1) (u := 237) rfl rfl b573 (by decide : B 1 1 1) (by decide) (by decide) (by decide) (by decide) (fun v575 b575 e575 g575 => ?_)
                    have e575x := e575; rw [show (1 : Int32).toInt = 1 from by decide] at e575x
                    refine ev_ialW (n := 240) (l := (-2147483648)) (u := 2147483647) hJ520.1 b575 (by decide) (by decide) (fun _ => rfl) rfl rfl rfl (fun v576 b576 e576 => ?_)
                    refine ev_aload_n rfl rfl rfl ?_
                    refine ev_getR (y := 94) rfl rfl fl_X10_118 rfl rfl rfl rfl ?_
                    refine ev_iload rfl rfl rfl ?_
                    refine ev_iconst (v := 2) rfl rfl (by decide) ?_
                    refine ev_iaddB (l := 2) (u := 238) rfl rfl b573 (by decide : B 2 2 2) (by decide) (by decide) (by decide) (by decide) (fun v577 b577 e577 g577 => ?_)
                    have e577x := e577; rw [show (2 : Int32).toInt = 2 from by decide] at e577x
                    refine ev_ialW (n := 240) (l := (-2147483648)) (u := 2147483647) hJ520.1 b577 (by decide) (by decide) (fun _ => rfl) rfl rfl rfl (fun v578 b578 e578 => ?_)
                    refine ev_aload_n rfl rfl rfl ?_
                    refine ev_getR (y := 94) rfl rfl fl_X10_118 rfl rfl rfl rfl ?_
                    refine ev_iload rfl rfl rfl ?_
                    refine ev_iconst (v := 3) rfl rfl (by decide) ?_
                    refine ev_iaddB (l := 3) (u := 239) rfl rfl b573 (by decide : B 3 3 3) (by decide) (by decide) (by decide) (by decide) (fun v579 b579 e579 g579 => ?_)
                    have e579x := e579; rw [show (3 : Int32).toInt = 3 from by decide] at e579x
                    refine ev_ialW (n := 240) (l := (-2147483648)) (u := 2147483647) hJ520.1 b579 (by decide) (by decide) (fun _ => rfl) rfl rfl rfl (fun v580 b580 e580 => ?_)
                    refine ev_if_eq rfl rfl (fun c581 => ?_) (fun c581 => ?_)
                    · have b582 : B v580 0 0 := R_eqX (B.any v580) (by decide : B 0 0 0) c581
                      have z583 := congrArg Int32.toInt c581
                      rw [show (0 : Int32).toInt = 0 from by decide] at z583
                      refine ev_iconst (v := 0) rfl rfl (by decide) ?_
                      refine ev_V4J hJ520 rfl rfl rfl lk_X10_362 vt_X10_whistle rfl rfl rfl rfl rfl (w_X10_whistle_63 L b h519 hJ520.1 v574 v576 v578 0 ((by decide : B 0 0 0).mono (by decide) (by decide))) (fun r585 h585 q585 hJ585 k585 => ?_)
                      obtain ⟨f586, ef586⟩ : ∃ f_, h585 63 5 = f_ := ⟨_, rfl⟩
                      have bf586 : B f586 0 12 := by have z_ := hJ585.1 63 5; rw [ef586] at z_; exact z_
                      have zf586 := congrArg Int32.toInt ef586
                      refine ev_istore rfl rfl rfl rfl ?_
                      dsimp only [List.set]
                      refine ev_iload rfl rfl rfl ?_
                      refine ev_if_ge rfl rfl (fun c587 => ?_) (fun c587 => ?_)
                      · have b588 : B r585 0 11 := R_leY (by decide : B 0 0 0) q585 c587 (by decide)
                        have z589 := w_le c587
                        rw [show (0 : Int32).toInt = 0 from by decide] at z589
                        refine ev_iconst (v := 0) rfl rfl (by decide) ?_
                        refine ev_istore rfl rfl rfl rfl ?_
                        dsimp only [List.set]
                        refine ev_iincB (y := 1) (l := 1) (u := 12) rfl rfl rfl (by decide) rfl rfl b526 (by decide : B 1 1 1) (by decide) (by decide) (by decide) (by decide) (fun v592 b592 e592 => ?_)
                        dsimp only [List.set]
                        have e592x := e592; rw [show (1 : Int32).toInt = 1 from by decide] at e592x
                        refine ev_goto rfl rfl ?_
                        exact (EvQ.drop 11 (EvQ.drop 10 (EvQ.drop 8 (ih64 0 v592 h585 ((by decide : B 0 0 0).mono (by decide) (by decide)) (b592.mono (by decide) (by decide)) hJ585 (rd_w k585 z521 rfl) (L_up hm64 (e_p1 e592 (by decide)))))))
                      · have b590 : B r585 (-3) (-1) := R_ltX q585 (by decide : B 0 0 0) (Int32.not_le.mp c587) (by decide)
                        have z591 := w_lt (Int32.not_le.mp c587)
                        rw [show (0 : Int32).toInt = 0 from by decide] at z591
                        refine ev_bipush (v := (-20)) rfl rfl (by decide) ?_
                        refine ev_iload rfl rfl rfl ?_
                        refine ev_iaddB (l := -23) (u := -21) rfl rfl (by decide : B (-20) (-20) (-20)) b590 (by decide) (by decide) (by decide) (by decide) (fun v593 b593 e593 g593 => ?_)
                        have e593x := e593; rw [show ((-20) : Int32).toInt = (-20) from by decide] at e593x
                        refine ev_goto rfl rfl ?_
                        refine ev_istore rfl rfl rfl rfl ?_
                        dsimp only [List.set]
                        refine ev_iincB (y := 1) (l := 1) (u := 12) rfl rfl rfl (by decide) rfl rfl b526 (by decide : B 1 1 1) (by decide) (by decide) (by decide) (by decide) (fun v594 b594 e594 => ?_)
                        dsimp only [List.set]
                        have e594x := e594; rw [show (1 : Int32).toInt = 1 from by decide] at e594x
                        refine ev_goto rfl rfl ?_
                        exact (EvQ.drop 11 (EvQ.drop 10 (EvQ.drop 8 (ih64 v593 v594 h585 (b593.mono (by decide) (by decide)) (b594.mono (by decide) (by decide)) hJ585 (rd_w k585 z521 rfl) (L_up hm64 (e_p1 e594 (by decide)))))))
                    · have z584 := w_ne c581
                      rw [show (0 : Int32).toInt = 0 from by decide] at z584
                      refine ev_iconst (v := 1) rfl rfl (by decide) ?_
                      refine ev_goto rfl rfl ?_
                      refine ev_V4J hJ520 rfl rfl rfl lk_X10_362 vt_X10_whistle rfl rfl rfl rfl rfl (w_X10_whistle_63 L b h519 hJ520.1 v574 v576 v578 1 ((by decide : B 1 1 1).mono (by decide) (by decide))) (fun r595 h595 q595 hJ595 k595 => ?_)
                      obtain ⟨f596, ef596⟩ : ∃ f_, h595 63 5 = f_ := ⟨_, rfl⟩
                      have bf596 : B f596 0 12 := by have z_ := hJ595.1 63 5; rw [ef596] at z_; exact z_
                      have zf596 := congrArg Int32.toInt ef596
                      refine ev_istore rfl rfl rfl rfl ?_
                      dsimp only [List.set]
                      refine ev_iload rfl rfl rfl ?_
                      refine ev_if_ge rfl rfl (fun c597 => ?_) (fun c597 => ?_)
                      · have b598 : B r595 0 11 := R_leY (by decide : B 0 0 0) q595 c597 (by decide)
                        have z599 := w_le c597
                        rw [show (0 : Int32).toInt = 0 from by decide] at z599
                        refine ev_iconst (v := 0) rfl rfl (by decide) ?_
                        refine ev_istore rfl rfl rfl rfl ?_
                        dsimp only [List.set]
                        refine ev_iincB (y := 1) (l := 1) (u := 12) rfl rfl rfl (by decide) rfl rfl b526 (by decide : B 1 1 1) (by decide) (by decide) (by decide) (by decide) (fun v602 b602 e602 => ?_)
                        dsimp only [List.set]
                        have e602x := e602; rw [show (1 : Int32).toInt = 1 from by decide] at e602x
                        refine ev_goto rfl rfl ?_
                        exact (EvQ.drop 11 (EvQ.drop 10 (EvQ.drop 8 (ih64 0 v602 h595 ((by decide : B 0 0 0).mono (by decide) (by decide)) (b602.mono (by decide) (by decide)) hJ595 (rd_w k595 z521 rfl) (L_up hm64 (e_p1 e602 (by decide)))))))
                      · have b600 : B r595 (-3) (-1) := R_ltX q595 (by decide : B 0 0 0) (Int32.not_le.mp c597) (by decide)
                        have z601 := w_lt (Int32.not_le.mp c597)
                        rw [show (0 : Int32).toInt = 0 from by decide] at z601
                        refine ev_bipush (v := (-20)) rfl rfl (by decide) ?_
                        refine ev_iload rfl rfl rfl ?_
                        refine ev_iaddB (l := -23) (u := -21) rfl rfl (by decide : B (-20) (-20) (-20)) b600 (by decide) (by decide) (by decide) (by decide) (fun v603 b603 e603 g603 => ?_)
                        have e603x := e603; rw [show ((-20) : Int32).toInt = (-20) from by decide] at e603x
                        refine ev_goto rfl rfl ?_
                        refine ev_istore rfl rfl rfl rfl ?_
                        dsimp only [List.set]
                        refine ev_iincB (y := 1) (l := 1) (u := 12) rfl rfl rfl (by decide) rfl rfl b526 (by decide : B 1 1 1) (by decide) (by decide) (by decide) (by decide) (fun v604 b604 e604 => ?_)
                        dsimp only [List.set]
                        have e604x := e604; rw [show (1 : Int32).toInt = 1 from by decide] at e604x
                        refine ev_goto rfl rfl ?_
                        exact (EvQ.drop 11 (EvQ.drop 10 (EvQ.drop 8 (ih64 v603 v604 h595 (b603.mono (by decide) (by decide)) (b604.mono (by decide) (by decide)) hJ595 (rd_w k595 z521 rfl) (L_up hm64 (e_p1 e604 (by decide)))))))
                  · have b568 : B v564 1 2147483647 := R_ltY (by decide : B 0 0 0) (B.any v564) (Int32.not_le.mp c565) (by decide)
                    have z569 := w_lt (Int32.not_le.mp c565)
                    rw [show (0 : Int32).toInt = 0 from by decide] at z569
                    refine ev_bipush (v := (-12)) rfl rfl (by decide) ?_
                    refine ev_istore rfl rfl rfl rfl ?_
                    dsimp only [List.set]
                    refine ev_goto rfl rfl ?_
                    refine ev_iincB (y := 1) (l := 1) (u := 12) rfl rfl rfl (by decide) rfl rfl b526 (by decide : B 1 1 1) (by decide) (by decide) (by decide) (by decide) (fun v605 b605 e605 => ?_)
                    dsimp only [List.set]
                    have e605x := e605; rw [show (1 : Int32).toInt = 1 from by decide] at e605x
                    refine ev_goto rfl rfl ?_
                    exact (EvQ.drop 8 (ih64 (-12) v605 h519 ((by decide : B (-12) (-12) (-12)).mono (by decide) (by decide)) (b605.mono (by decide) (by decide)) hJ520 z521 (L_up hm64 (e_p1 e605 (by decide)))))
        exact (lp64_514 13 0 0 h ((by decide : B 0 0 0).mono (by decide) (by decide)) ((by decide : B 0 0 0).mono (by decide) (by decide)) hJ0 e19 (L_init (by decide : B 0 0 0) (by decide)))
      · have z23 := w_ne c20
        refine ev_aload_n rfl rfl rfl ?_
        refine ev_getR (y := 92) rfl rfl fl_X10_112 rfl rfl rfl rfl ?_
        refine ev_iload_n rfl rfl rfl ?_
        refine ev_iadV (v := v19) rfl rfl rfl (b7.vp (by decide) (by decide)) rfl e19 ?_
        refine ev_bipush (v := (-4)) rfl rfl (by decide) ?_
        refine ev_icmp_ne rfl rfl (fun c606 => ?_) (fun c606 => ?_)
        · have z607 := w_ne c606
          rw [show ((-4) : Int32).toInt = (-4) from by decide] at z607
          refine ev_bipush (v := (-13)) rfl rfl (by decide) ?_
          exact ev_iret rfl rfl rfl ⟨⟨_, rfl, ((by decide : B (-13) (-13) (-13)).mono (by decide) (by decide))⟩, rfl, hJ0⟩
        · have b608 : B v19 (-4) (-4) := R_eqX (B.any v19) (by decide : B (-4) (-4) (-4)) c606
          have z609 := congrArg Int32.toInt c606
          rw [show ((-4) : Int32).toInt = (-4) from by decide] at z609
          refine ev_bipush (v := (-11)) rfl rfl (by decide) ?_
          refine ev_goto rfl rfl ?_
          exact ev_iret rfl rfl rfl ⟨⟨_, rfl, ((by decide : B (-11) (-11) (-11)).mono (by decide) (by decide))⟩, rfl, hJ0⟩
    · have b17 : B r12 0 0 := R_eqX b12 (by decide : B 0 0 0) c13
      have z18 := congrArg Int32.toInt c13
      rw [show (0 : Int32).toInt = 0 from by decide] at z18
      refine ev_iconst (v := (-1)) rfl rfl (by decide) ?_
      exact ev_iret rfl rfl rfl ⟨⟨_, rfl, ((by decide : B (-1) (-1) (-1)).mono (by decide) (by decide))⟩, rfl, hJ0⟩

set_option maxRecDepth 100000 in
set_option maxHeartbeats 4000000 in
theorem w_X10_fire_63 (L : Nat) (b : Bool) (h : Hp) (hB : Bx h) (a0 : Int32) (rp0 : (h 63 0).toInt ≤ (h 63 3).toInt) (hKS : KS h) : EvI mi_X10_fire [.ref 63, .int a0] (G0 L b) h (fun (r : Int32) (z : Hp) => B r (-2147483648) 2147483647 ∧ ((z 63 0).toInt ≤ (z 63 3).toInt) ∧ (KS z)) [(63, 2), (63, 13), (71, 999)] := by
  refine EvM.of2 (lo := [some (.ref 63), some (.int a0), none]) pf_X10_fire ok_X10_fire rfl rfl ?_
  have hJ0 : JW [(63, 2), (63, 13), (71, 999)] h h := JW.refl hB
  obtain ⟨f1, ef1⟩ : ∃ f_, h 63 0 = f_ := ⟨_, rfl⟩
  have bf1 : B f1 0 200 := by have z_ := hJ0.1 63 0; rw [ef1] at z_; exact z_
  have zf1 := congrArg Int32.toInt ef1
  obtain ⟨f2, ef2⟩ : ∃ f_, h 63 3 = f_ := ⟨_, rfl⟩
  have bf2 : B f2 0 200 := by have z_ := hJ0.1 63 3; rw [ef2] at z_; exact z_
  have zf2 := congrArg Int32.toInt ef2
  refine ev_iload_n rfl rfl rfl ?_
  refine ev_i2l rfl rfl ?_
  have z3 := Int32.toInt_toInt64 a0
  have z3b := B.any a0
  refine ev_lconst (v := 0) rfl rfl rfl ?_
  refine ev_ldc2 (v := 9) rfl rfl kc_X10_134 ?_
  have z4 := congrArg Int32.toInt ef1
  have z5 := congrArg Int32.toInt ef2
  refine ev_S3P rfl rfl lk_X10_124 st_X10_in rfl rfl (w_inR (G0 L b) h a0 0 9 (by decide : BL 0 0 0) (by decide : BL 9 9 9)) (fun r6 q6 => ?_)
  obtain ⟨b6, p6_0, pp6_0, pp6_1⟩ := q6
  refine ev_if_ne rfl rfl (fun c7 => ?_) (fun c7 => ?_)
  · have b8 : B r6 1 1 := R_neL b6 (by decide : B 0 0 0) c7 (by decide)
    have b9 : B a0 0 9 := p6_0 c7
    have z10 := w_ne c7
    rw [show (0 : Int32).toInt = 0 from by decide] at z10
    refine ev_aload_n rfl rfl rfl ?_
    have z13 := congrArg Int32.toInt ef1
    have z14 := congrArg Int32.toInt ef2
    refine ev_V0K hJ0 rfl rfl rfl lk_X10_136 vt_X10_keeps rfl rfl rfl rfl rfl (w_X10_keeps_63 L b h hJ0.1 (by have z0_ := congrArg Int32.toInt ef1; have z1_ := congrArg Int32.toInt ef2; have z_ := w_lits; have zl_ := l_lits; omega) hKS) (fun h15 hJ15 k15 m15 => ?_)
    have z16 := congrArg Int32.toInt (rd_w k15 ef1 rfl)
    have z17 := congrArg Int32.toInt (rd_w k15 ef2 rfl)
    refine ev_aload_n rfl rfl rfl ?_
    refine ev_getW (l := (-2147483648)) (u := 2147483647) hJ15.1 rfl rfl rfl fl_X10_16 rfl rfl rfl (fun v18 b18 e18 => ?_)
    refine ev_istore_n rfl rfl rfl rfl ?_
    dsimp only [List.set]
    refine ev_aload_n rfl rfl rfl ?_
    refine ev_iload_n rfl rfl rfl ?_
    refine ev_putW (l := (-2147483648)) (u := 2147483647) hJ15 rfl b9 (by decide) (by decide) rfl rfl rfl fl_X10_16 rfl rfl rfl rfl rfl (fun h19 hJ19 k19 => ?_)
    refine ev_iload_n rfl rfl rfl ?_
    exact ev_iret rfl rfl rfl ⟨⟨_, rfl, ⟨(B.any v18), (by have z0_ := congrArg Int32.toInt (rd_o k19 (rd_w k15 ef1 rfl) rfl); have z1_ := congrArg Int32.toInt (rd_o k19 (rd_w k15 ef2 rfl) rfl); have z_ := w_lits; have zl_ := l_lits; omega), (KS.set m15 k19 rfl)⟩⟩, rfl, hJ19⟩
  · have b11 : B r6 0 0 := R_eqX b6 (by decide : B 0 0 0) c7
    have z12 := congrArg Int32.toInt c7
    rw [show (0 : Int32).toInt = 0 from by decide] at z12
    refine ev_iconst (v := (-1)) rfl rfl (by decide) ?_
    exact ev_iret rfl rfl rfl ⟨⟨_, rfl, ⟨((by decide : B (-1) (-1) (-1)).mono (by decide) (by decide)), (by have z0_ := congrArg Int32.toInt ef1; have z1_ := congrArg Int32.toInt ef2; have z_ := w_lits; have zl_ := l_lits; omega), hKS⟩⟩, rfl, hJ0⟩

set_option maxRecDepth 100000 in
set_option maxHeartbeats 4000000 in
theorem w_X10_water_63 (L : Nat) (b : Bool) (h : Hp) (hB : Bx h) (a0 : Int32) (rp0 : (h 63 0).toInt ≤ (h 63 3).toInt) (hKS : KS h) : EvI mi_X10_water [.ref 63, .int a0] (G0 L b) h (fun (r : Int32) (z : Hp) => B r (-2147483648) 9999 ∧ ((z 63 0).toInt ≤ (z 63 3).toInt) ∧ (KS z)) [(63, 1), (63, 13), (71, 999)] := by
  refine EvM.of2 (lo := [some (.ref 63), some (.int a0)]) pf_X10_water ok_X10_water rfl rfl ?_
  have hJ0 : JW [(63, 1), (63, 13), (71, 999)] h h := JW.refl hB
  obtain ⟨f1, ef1⟩ : ∃ f_, h 63 0 = f_ := ⟨_, rfl⟩
  have bf1 : B f1 0 200 := by have z_ := hJ0.1 63 0; rw [ef1] at z_; exact z_
  have zf1 := congrArg Int32.toInt ef1
  obtain ⟨f2, ef2⟩ : ∃ f_, h 63 3 = f_ := ⟨_, rfl⟩
  have bf2 : B f2 0 200 := by have z_ := hJ0.1 63 3; rw [ef2] at z_; exact z_
  have zf2 := congrArg Int32.toInt ef2
  refine ev_iload_n rfl rfl rfl ?_
  refine ev_i2l rfl rfl ?_
  have z3 := Int32.toInt_toInt64 a0
  have z3b := B.any a0
  refine ev_lconst (v := 1) rfl rfl rfl ?_
  refine ev_ldc2 (v := 9999) rfl rfl kc_X10_139 ?_
  have z4 := congrArg Int32.toInt ef1
  have z5 := congrArg Int32.toInt ef2
  refine ev_S3P rfl rfl lk_X10_124 st_X10_in rfl rfl (w_inR (G0 L b) h a0 1 9999 (by decide : BL 1 1 1) (by decide : BL 9999 9999 9999)) (fun r6 q6 => ?_)
  obtain ⟨b6, p6_0, pp6_0, pp6_1⟩ := q6
  refine ev_if_ne rfl rfl (fun c7 => ?_) (fun c7 => ?_)
  · have b8 : B r6 1 1 := R_neL b6 (by decide : B 0 0 0) c7 (by decide)
    have b9 : B a0 1 9999 := p6_0 c7
    have z10 := w_ne c7
    rw [show (0 : Int32).toInt = 0 from by decide] at z10
    refine ev_aload_n rfl rfl rfl ?_
    have z13 := congrArg Int32.toInt ef1
    have z14 := congrArg Int32.toInt ef2
    refine ev_V0K hJ0 rfl rfl rfl lk_X10_136 vt_X10_keeps rfl rfl rfl rfl rfl (w_X10_keeps_63 L b h hJ0.1 (by have z0_ := congrArg Int32.toInt ef1; have z1_ := congrArg Int32.toInt ef2; have z_ := w_lits; have zl_ := l_lits; omega) hKS) (fun h15 hJ15 k15 m15 => ?_)
    have z16 := congrArg Int32.toInt (rd_w k15 ef1 rfl)
    have z17 := congrArg Int32.toInt (rd_w k15 ef2 rfl)
    refine ev_aload_n rfl rfl rfl ?_
    refine ev_aload_n rfl rfl rfl ?_
    refine ev_getW (l := (-2147483648)) (u := 2147483647) hJ15.1 rfl rfl rfl fl_X10_13 rfl rfl rfl (fun v18 b18 e18 => ?_)
    refine ev_iload_n rfl rfl rfl ?_
    refine ev_iaddA rfl rfl (fun v19 g19 => ?_)
    refine ev_sipush (v := 9999) rfl rfl (by decide) ?_
    refine ev_icmp_le rfl rfl (fun c20 => ?_) (fun c20 => ?_)
    · have b21 : B v19 (-2147483648) 9999 := R_leX (B.any v19) (by decide : B 9999 9999 9999) c20 (by decide)
      have z22 := w_le c20
      rw [show (9999 : Int32).toInt = 9999 from by decide] at z22
      refine ev_aload_n rfl rfl rfl ?_
      refine ev_getV (v := v18) rfl rfl fl_X10_13 rfl rfl rfl e18 ?_
      refine ev_iload_n rfl rfl rfl ?_
      refine ev_iaddV g19 rfl rfl ?_
      refine ev_putW (l := (-2147483648)) (u := 2147483647) hJ15 rfl b21 (by decide) (by decide) rfl rfl rfl fl_X10_13 rfl rfl rfl rfl rfl (fun h25 hJ25 k25 => ?_)
      refine ev_aload_n rfl rfl rfl ?_
      refine ev_getV (v := v19) rfl rfl fl_X10_13 rfl rfl rfl (rd_s k25) ?_
      exact ev_iret rfl rfl rfl ⟨⟨_, rfl, ⟨b21, (by have z0_ := congrArg Int32.toInt (rd_o k25 (rd_w k15 ef1 rfl) rfl); have z1_ := congrArg Int32.toInt (rd_o k25 (rd_w k15 ef2 rfl) rfl); have z_ := w_lits; have zl_ := l_lits; omega), (KS.set m15 k25 rfl)⟩⟩, rfl, hJ25⟩
    · have b23 : B v19 10000 2147483647 := R_ltY (by decide : B 9999 9999 9999) (B.any v19) (Int32.not_le.mp c20) (by decide)
      have z24 := w_lt (Int32.not_le.mp c20)
      rw [show (9999 : Int32).toInt = 9999 from by decide] at z24
      refine ev_sipush (v := 9999) rfl rfl (by decide) ?_
      refine ev_goto rfl rfl ?_
      refine ev_putW (l := (-2147483648)) (u := 2147483647) hJ15 rfl (by decide : B 9999 9999 9999) (by decide) (by decide) rfl rfl rfl fl_X10_13 rfl rfl rfl rfl rfl (fun h26 hJ26 k26 => ?_)
      refine ev_aload_n rfl rfl rfl ?_
      refine ev_getV (v := 9999) rfl rfl fl_X10_13 rfl rfl rfl (rd_s k26) ?_
      exact ev_iret rfl rfl rfl ⟨⟨_, rfl, ⟨((by decide : B 9999 9999 9999).mono (by decide) (by decide)), (by have z0_ := congrArg Int32.toInt (rd_o k26 (rd_w k15 ef1 rfl) rfl); have z1_ := congrArg Int32.toInt (rd_o k26 (rd_w k15 ef2 rfl) rfl); have z_ := w_lits; have zl_ := l_lits; omega), (KS.set m15 k26 rfl)⟩⟩, rfl, hJ26⟩
  · have b11 : B r6 0 0 := R_eqX b6 (by decide : B 0 0 0) c7
    have z12 := congrArg Int32.toInt c7
    rw [show (0 : Int32).toInt = 0 from by decide] at z12
    refine ev_iconst (v := (-1)) rfl rfl (by decide) ?_
    exact ev_iret rfl rfl rfl ⟨⟨_, rfl, ⟨((by decide : B (-1) (-1) (-1)).mono (by decide) (by decide)), (by have z0_ := congrArg Int32.toInt ef1; have z1_ := congrArg Int32.toInt ef2; have z_ := w_lits; have zl_ := l_lits; omega), hKS⟩⟩, rfl, hJ0⟩

set_option maxRecDepth 100000 in
set_option maxHeartbeats 4000000 in
theorem w_X10_valve_63 (L : Nat) (b : Bool) (h : Hp) (hB : Bx h) (a0 : Int32) (rp0 : (h 63 0).toInt ≤ (h 63 3).toInt) (hKS : KS h) : EvI mi_X10_valve [.ref 63, .int a0] (G0 L b) h (fun (r : Int32) (z : Hp) => B r (-1) 200 ∧ ((z 63 0).toInt ≤ (z 63 3).toInt) ∧ (KS z)) [(63, 0), (63, 3), (63, 13), (71, 999)] := by
  refine EvM.of2 (lo := [some (.ref 63), some (.int a0), none]) pf_X10_valve ok_X10_valve rfl rfl ?_
  have hJ0 : JW [(63, 0), (63, 3), (63, 13), (71, 999)] h h := JW.refl hB
  obtain ⟨f1, ef1⟩ : ∃ f_, h 63 0 = f_ := ⟨_, rfl⟩
  have bf1 : B f1 0 200 := by have z_ := hJ0.1 63 0; rw [ef1] at z_; exact z_
  have zf1 := congrArg Int32.toInt ef1
  obtain ⟨f2, ef2⟩ : ∃ f_, h 63 3 = f_ := ⟨_, rfl⟩
  have bf2 : B f2 0 200 := by have z_ := hJ0.1 63 3; rw [ef2] at z_; exact z_
  have zf2 := congrArg Int32.toInt ef2
  refine ev_iload_n rfl rfl rfl ?_
  refine ev_i2l rfl rfl ?_
  have z3 := Int32.toInt_toInt64 a0
  have z3b := B.any a0
  refine ev_ldc2 (v := 50) rfl rfl kc_X10_141 ?_
  refine ev_ldc2 (v := 200) rfl rfl kc_X10_143 ?_
  have z4 := congrArg Int32.toInt ef1
  have z5 := congrArg Int32.toInt ef2
  refine ev_S3P rfl rfl lk_X10_124 st_X10_in rfl rfl (w_inR (G0 L b) h a0 50 200 (by decide : BL 50 50 50) (by decide : BL 200 200 200)) (fun r6 q6 => ?_)
  obtain ⟨b6, p6_0, pp6_0, pp6_1⟩ := q6
  refine ev_if_ne rfl rfl (fun c7 => ?_) (fun c7 => ?_)
  · have b8 : B r6 1 1 := R_neL b6 (by decide : B 0 0 0) c7 (by decide)
    have b9 : B a0 50 200 := p6_0 c7
    have z10 := w_ne c7
    rw [show (0 : Int32).toInt = 0 from by decide] at z10
    refine ev_aload_n rfl rfl rfl ?_
    have z13 := congrArg Int32.toInt ef1
    have z14 := congrArg Int32.toInt ef2
    refine ev_V0K hJ0 rfl rfl rfl lk_X10_136 vt_X10_keeps rfl rfl rfl rfl rfl (w_X10_keeps_63 L b h hJ0.1 (by have z0_ := congrArg Int32.toInt ef1; have z1_ := congrArg Int32.toInt ef2; have z_ := w_lits; have zl_ := l_lits; omega) hKS) (fun h15 hJ15 k15 m15 => ?_)
    have z16 := congrArg Int32.toInt (rd_w k15 ef1 rfl)
    have z17 := congrArg Int32.toInt (rd_w k15 ef2 rfl)
    refine ev_aload_n rfl rfl rfl ?_
    refine ev_getV (v := f2) rfl rfl fl_X10_19 rfl rfl rfl (rd_w k15 ef2 rfl) ?_
    refine ev_istore_n rfl rfl rfl rfl ?_
    dsimp only [List.set]
    refine ev_aload_n rfl rfl rfl ?_
    refine ev_iload_n rfl rfl rfl ?_
    refine ev_putW (l := 0) (u := 200) hJ15 rfl b9 (by decide) (by decide) rfl rfl rfl fl_X10_19 rfl rfl rfl rfl rfl (fun h18 hJ18 k18 => ?_)
    refine ev_aload_n rfl rfl rfl ?_
    refine ev_aload_n rfl rfl rfl ?_
    refine ev_getV (v := f1) rfl rfl fl_X10_7 rfl rfl rfl (rd_o k18 (rd_w k15 ef1 rfl) rfl) ?_
    refine ev_iload_n rfl rfl rfl ?_
    refine ev_icmp_le rfl rfl (fun c19 => ?_) (fun c19 => ?_)
    · have z20 := w_le c19
      refine ev_aload_n rfl rfl rfl ?_
      refine ev_getV (v := f1) rfl rfl fl_X10_7 rfl rfl rfl (rd_o k18 (rd_w k15 ef1 rfl) rfl) ?_
      refine ev_putW (l := 0) (u := 200) hJ18 rfl bf1 (by decide) (by decide) rfl rfl rfl fl_X10_7 rfl rfl rfl rfl rfl (fun h24 hJ24 k24 => ?_)
      refine ev_iload_n rfl rfl rfl ?_
      exact ev_iret rfl rfl rfl ⟨⟨_, rfl, ⟨(bf2.mono (by decide) (by decide)), (by have z0_ := congrArg Int32.toInt (rd_s k24); have z1_ := congrArg Int32.toInt (rd_o k24 (rd_s k18) rfl); have z_ := w_lits; have zl_ := l_lits; omega), (KS.set (KS.set m15 k18 rfl) k24 rfl)⟩⟩, rfl, hJ24⟩
    · have b21 : B f1 51 200 := R_ltY b9 bf1 (Int32.not_le.mp c19) (by decide)
      have b22 : B a0 50 199 := R_ltX b9 bf1 (Int32.not_le.mp c19) (by decide)
      have z23 := w_lt (Int32.not_le.mp c19)
      refine ev_iload_n rfl rfl rfl ?_
      refine ev_goto rfl rfl ?_
      refine ev_putW (l := 0) (u := 200) hJ18 rfl b22 (by decide) (by decide) rfl rfl rfl fl_X10_7 rfl rfl rfl rfl rfl (fun h25 hJ25 k25 => ?_)
      refine ev_iload_n rfl rfl rfl ?_
      exact ev_iret rfl rfl rfl ⟨⟨_, rfl, ⟨(bf2.mono (by decide) (by decide)), (by have z0_ := congrArg Int32.toInt (rd_s k25); have z1_ := congrArg Int32.toInt (rd_o k25 (rd_s k18) rfl); have z_ := w_lits; have zl_ := l_lits; omega), (KS.set (KS.set m15 k18 rfl) k25 rfl)⟩⟩, rfl, hJ25⟩
  · have b11 : B r6 0 0 := R_eqX b6 (by decide : B 0 0 0) c7
    have z12 := congrArg Int32.toInt c7
    rw [show (0 : Int32).toInt = 0 from by decide] at z12
    refine ev_iconst (v := (-1)) rfl rfl (by decide) ?_
    exact ev_iret rfl rfl rfl ⟨⟨_, rfl, ⟨((by decide : B (-1) (-1) (-1)).mono (by decide) (by decide)), (by have z0_ := congrArg Int32.toInt ef1; have z1_ := congrArg Int32.toInt ef2; have z_ := w_lits; have zl_ := l_lits; omega), hKS⟩⟩, rfl, hJ0⟩

set_option maxRecDepth 100000 in
set_option maxHeartbeats 4000000 in
theorem w_X10_pressure_63 (L : Nat) (b : Bool) (h : Hp) (hB : Bx h) (a0 : Int32) (rp0 : (h 63 0).toInt ≤ (h 63 3).toInt) (hKS : KS h) : EvI mi_X10_pressure [.ref 63, .int a0] (G0 L b) h (fun (r : Int32) (z : Hp) => B r (-1) 200 ∧ ((z 63 0).toInt ≤ (z 63 3).toInt) ∧ (KS z)) [(63, 0), (63, 13), (71, 999)] := by
  refine EvM.of2 (lo := [some (.ref 63), some (.int a0), none]) pf_X10_pressure ok_X10_pressure rfl rfl ?_
  have hJ0 : JW [(63, 0), (63, 13), (71, 999)] h h := JW.refl hB
  obtain ⟨f1, ef1⟩ : ∃ f_, h 63 0 = f_ := ⟨_, rfl⟩
  have bf1 : B f1 0 200 := by have z_ := hJ0.1 63 0; rw [ef1] at z_; exact z_
  have zf1 := congrArg Int32.toInt ef1
  obtain ⟨f2, ef2⟩ : ∃ f_, h 63 3 = f_ := ⟨_, rfl⟩
  have bf2 : B f2 0 200 := by have z_ := hJ0.1 63 3; rw [ef2] at z_; exact z_
  have zf2 := congrArg Int32.toInt ef2
  refine ev_iload_n rfl rfl rfl ?_
  refine ev_i2l rfl rfl ?_
  have z3 := Int32.toInt_toInt64 a0
  have z3b := B.any a0
  refine ev_lconst (v := 0) rfl rfl rfl ?_
  refine ev_aload_n rfl rfl rfl ?_
  refine ev_getV (v := f2) rfl rfl fl_X10_19 rfl rfl rfl ef2 ?_
  refine ev_i2l rfl rfl ?_
  have z4 := Int32.toInt_toInt64 f2
  have z4b := B.any f2
  have z5 := congrArg Int32.toInt ef1
  have z6 := congrArg Int32.toInt ef2
  refine ev_S3P rfl rfl lk_X10_124 st_X10_in rfl rfl (w_inV (G0 L b) h a0 0 f2 (by decide : BL 0 0 0) bf2) (fun r7 q7 => ?_)
  obtain ⟨b7, p7_0, pp7_0⟩ := q7
  refine ev_if_ne rfl rfl (fun c8 => ?_) (fun c8 => ?_)
  · have b9 : B r7 1 1 := R_neL b7 (by decide : B 0 0 0) c8 (by decide)
    have b10 : B a0 0 200 := p7_0 c8
    have z11 := w_ne c8
    rw [show (0 : Int32).toInt = 0 from by decide] at z11
    refine ev_aload_n rfl rfl rfl ?_
    have z14 := congrArg Int32.toInt ef1
    have z15 := congrArg Int32.toInt ef2
    refine ev_V0K hJ0 rfl rfl rfl lk_X10_136 vt_X10_keeps rfl rfl rfl rfl rfl (w_X10_keeps_63 L b h hJ0.1 (by have z0_ := congrArg Int32.toInt ef1; have z1_ := congrArg Int32.toInt ef2; have z_ := w_lits; have zl_ := l_lits; omega) hKS) (fun h16 hJ16 k16 m16 => ?_)
    have z17 := congrArg Int32.toInt (rd_w k16 ef1 rfl)
    have z18 := congrArg Int32.toInt (rd_w k16 ef2 rfl)
    refine ev_aload_n rfl rfl rfl ?_
    refine ev_getV (v := f1) rfl rfl fl_X10_7 rfl rfl rfl (rd_w k16 ef1 rfl) ?_
    refine ev_istore_n rfl rfl rfl rfl ?_
    dsimp only [List.set]
    refine ev_aload_n rfl rfl rfl ?_
    refine ev_iload_n rfl rfl rfl ?_
    refine ev_putW (l := 0) (u := 200) hJ16 rfl b10 (by decide) (by decide) rfl rfl rfl fl_X10_7 rfl rfl rfl rfl rfl (fun h19 hJ19 k19 => ?_)
    refine ev_iload_n rfl rfl rfl ?_
    exact ev_iret rfl rfl rfl ⟨⟨_, rfl, ⟨(bf1.mono (by decide) (by decide)), (by have z0_ := congrArg Int32.toInt (rd_s k19); have z1_ := congrArg Int32.toInt (rd_o k19 (rd_w k16 ef2 rfl) rfl); have z_ := w_lits; have zl_ := l_lits; omega), (KS.set m16 k19 rfl)⟩⟩, rfl, hJ19⟩
  · have b12 : B r7 0 0 := R_eqX b7 (by decide : B 0 0 0) c8
    have z13 := congrArg Int32.toInt c8
    rw [show (0 : Int32).toInt = 0 from by decide] at z13
    refine ev_iconst (v := (-1)) rfl rfl (by decide) ?_
    exact ev_iret rfl rfl rfl ⟨⟨_, rfl, ⟨((by decide : B (-1) (-1) (-1)).mono (by decide) (by decide)), (by have z0_ := congrArg Int32.toInt ef1; have z1_ := congrArg Int32.toInt ef2; have z_ := w_lits; have zl_ := l_lits; omega), hKS⟩⟩, rfl, hJ0⟩

set_option maxRecDepth 100000 in
set_option maxHeartbeats 4000000 in
theorem w_X10_beat_63 (L : Nat) (b : Bool) (h : Hp) (hB : Bx h) (a0 : Int32) (rp0 : (h 63 0).toInt ≤ (h 63 3).toInt) (hKS : KS h) : EvI mi_X10_beat [.ref 63, .int a0] (G0 L b) h (fun (r : Int32) (z : Hp) => B r (-5) 2147483647 ∧ ((z 63 0).toInt ≤ (z 63 3).toInt) ∧ (KS z)) [(63, 0), (63, 1), (63, 4), (63, 13), (71, 999)] := by
  refine EvM.of2 (lo := [some (.ref 63), some (.int a0)]) pf_X10_beat ok_X10_beat rfl rfl ?_
  have hJ0 : JW [(63, 0), (63, 1), (63, 4), (63, 13), (71, 999)] h h := JW.refl hB
  obtain ⟨f1, ef1⟩ : ∃ f_, h 63 0 = f_ := ⟨_, rfl⟩
  have bf1 : B f1 0 200 := by have z_ := hJ0.1 63 0; rw [ef1] at z_; exact z_
  have zf1 := congrArg Int32.toInt ef1
  obtain ⟨f2, ef2⟩ : ∃ f_, h 63 3 = f_ := ⟨_, rfl⟩
  have bf2 : B f2 0 200 := by have z_ := hJ0.1 63 3; rw [ef2] at z_; exact z_
  have zf2 := congrArg Int32.toInt ef2
  refine ev_iload_n rfl rfl rfl ?_
  refine ev_i2l rfl rfl ?_
  have z3 := Int32.toInt_toInt64 a0
  have z3b := B.any a0
  refine ev_lconst (v := 0) rfl rfl rfl ?_
  refine ev_iconst (v := 1) rfl rfl (by decide) ?_
  refine ev_aload_n rfl rfl rfl ?_
  refine ev_getW (l := 0) (u := 12) hJ0.1 rfl rfl rfl fl_X10_121 rfl rfl rfl (fun v4 b4 e4 => ?_)
  refine ev_ishlA rfl rfl (fun v5 => ?_)
  refine ev_iconst (v := 1) rfl rfl (by decide) ?_
  refine ev_isubA rfl rfl (fun v6 g6 => ?_)
  refine ev_i2l rfl rfl ?_
  have z7 := Int32.toInt_toInt64 v6
  have z7b := B.any v6
  have z8 := congrArg Int32.toInt ef1
  have z9 := congrArg Int32.toInt ef2
  refine ev_S3P rfl rfl lk_X10_124 st_X10_in rfl rfl (w_inV (G0 L b) h a0 0 v6 (by decide : BL 0 0 0) (B.any v6)) (fun r10 q10 => ?_)
  obtain ⟨b10, p10_0, pp10_0⟩ := q10
  refine ev_if_ne rfl rfl (fun c11 => ?_) (fun c11 => ?_)
  · have b12 : B r10 1 1 := R_neL b10 (by decide : B 0 0 0) c11 (by decide)
    have b13 : B a0 0 2147483647 := p10_0 c11
    have z14 := w_ne c11
    rw [show (0 : Int32).toInt = 0 from by decide] at z14
    refine ev_aload_n rfl rfl rfl ?_
    refine ev_iload_n rfl rfl rfl ?_
    refine ev_V1P rfl rfl lk_X10_145 vt_X10_drawn rfl rfl rfl rfl rfl (w_X10_drawn_63 L b h hJ0.1 a0) (fun r17 q17 => ?_)
    refine ev_aload_n rfl rfl rfl ?_
    refine ev_getW (l := (-2147483648)) (u := 2147483647) hJ0.1 rfl rfl rfl fl_X10_13 rfl rfl rfl (fun v18 b18 e18 => ?_)
    refine ev_icmp_le rfl rfl (fun c19 => ?_) (fun c19 => ?_)
    · have z20 := w_le c19
      refine ev_aload_n rfl rfl rfl ?_
      have z24 := congrArg Int32.toInt ef1
      have z25 := congrArg Int32.toInt ef2
      refine ev_V0K hJ0 rfl rfl rfl lk_X10_136 vt_X10_keeps rfl rfl rfl rfl rfl (w_X10_keeps_63 L b h hJ0.1 (by have z0_ := congrArg Int32.toInt ef1; have z1_ := congrArg Int32.toInt ef2; have z_ := w_lits; have zl_ := l_lits; omega) hKS) (fun h26 hJ26 k26 m26 => ?_)
      have z27 := congrArg Int32.toInt (rd_w k26 ef1 rfl)
      have z28 := congrArg Int32.toInt (rd_w k26 ef2 rfl)
      refine ev_aload_n rfl rfl rfl ?_
      refine ev_iload_n rfl rfl rfl ?_
      have z29 := congrArg Int32.toInt (rd_w k26 ef1 rfl)
      have z30 := congrArg Int32.toInt (rd_w k26 ef2 rfl)
      refine ev_V1I hJ26 rfl rfl rfl lk_X10_162 vt_X10_goes rfl rfl rfl rfl rfl (w_X10_goes_63 L b h26 hJ26.1 a0 (by have z0_ := congrArg Int32.toInt (rd_w k26 ef1 rfl); have z1_ := congrArg Int32.toInt (rd_w k26 ef2 rfl); have z_ := w_lits; have zl_ := l_lits; omega)) (fun r31 h31 q31 hJ31 k31 => ?_)
      obtain ⟨b31, m31_0⟩ := q31
      obtain ⟨f32, ef32⟩ : ∃ f_, h31 63 0 = f_ := ⟨_, rfl⟩
      have bf32 : B f32 0 200 := by have z_ := hJ31.1 63 0; rw [ef32] at z_; exact z_
      have zf32 := congrArg Int32.toInt ef32
      have z33 := congrArg Int32.toInt ef32
      have z34 := congrArg Int32.toInt (rd_w k31 (rd_w k26 ef2 rfl) rfl)
      exact ev_iret rfl rfl rfl ⟨⟨_, rfl, ⟨b31, (by have z0_ := congrArg Int32.toInt ef32; have z1_ := congrArg Int32.toInt (rd_w k31 (rd_w k26 ef2 rfl) rfl); have z_ := w_lits; have zl_ := l_lits; omega), (KS.call m26 k31 (fun _ => rfl))⟩⟩, rfl, hJ31⟩
    · have b21 : B r17 (-2147483647) 2147483647 := R_ltY (B.any v18) (B.any r17) (Int32.not_le.mp c19) (by decide)
      have b22 : B v18 (-2147483648) 2147483646 := R_ltX (B.any v18) (B.any r17) (Int32.not_le.mp c19) (by decide)
      have z23 := w_lt (Int32.not_le.mp c19)
      refine ev_bipush (v := (-5)) rfl rfl (by decide) ?_
      exact ev_iret rfl rfl rfl ⟨⟨_, rfl, ⟨((by decide : B (-5) (-5) (-5)).mono (by decide) (by decide)), (by have z0_ := congrArg Int32.toInt ef1; have z1_ := congrArg Int32.toInt ef2; have z_ := w_lits; have zl_ := l_lits; omega), hKS⟩⟩, rfl, hJ0⟩
  · have b15 : B r10 0 0 := R_eqX b10 (by decide : B 0 0 0) c11
    have z16 := congrArg Int32.toInt c11
    rw [show (0 : Int32).toInt = 0 from by decide] at z16
    refine ev_iconst (v := (-1)) rfl rfl (by decide) ?_
    exact ev_iret rfl rfl rfl ⟨⟨_, rfl, ⟨((by decide : B (-1) (-1) (-1)).mono (by decide) (by decide)), (by have z0_ := congrArg Int32.toInt ef1; have z1_ := congrArg Int32.toInt ef2; have z_ := w_lits; have zl_ := l_lits; omega), hKS⟩⟩, rfl, hJ0⟩

set_option maxRecDepth 100000 in
set_option maxHeartbeats 4000000 in
theorem w_X10_stem_63 (L : Nat) (b : Bool) (h : Hp) (hB : Bx h) (a0 : Int32) (a1 : Int32) (rp0 : (h 63 0).toInt ≤ (h 63 3).toInt) (hKS : KS h) : EvI mi_X10_stem [.ref 63, .int a0, .int a1] (G0 L b) h (fun (r : Int32) (z : Hp) => B r (-2147483648) 2147483647 ∧ ((z 63 0).toInt ≤ (z 63 3).toInt) ∧ (KS z)) [(63, 13), (68, 999), (71, 999)] := by
  refine EvM.of2 (lo := [some (.ref 63), some (.int a0), some (.int a1), none]) pf_X10_stem ok_X10_stem rfl rfl ?_
  have hJ0 : JW [(63, 13), (68, 999), (71, 999)] h h := JW.refl hB
  obtain ⟨f1, ef1⟩ : ∃ f_, h 63 0 = f_ := ⟨_, rfl⟩
  have bf1 : B f1 0 200 := by have z_ := hJ0.1 63 0; rw [ef1] at z_; exact z_
  have zf1 := congrArg Int32.toInt ef1
  obtain ⟨f2, ef2⟩ : ∃ f_, h 63 3 = f_ := ⟨_, rfl⟩
  have bf2 : B f2 0 200 := by have z_ := hJ0.1 63 3; rw [ef2] at z_; exact z_
  have zf2 := congrArg Int32.toInt ef2
  refine ev_aload_n rfl rfl rfl ?_
  refine ev_iload_n rfl rfl rfl ?_
  refine ev_V1P rfl rfl lk_X10_169 vt_X10_isWhistle rfl rfl rfl rfl rfl (w_X10_isWhistle_63 L b h hJ0.1 a0) (fun r3 q3 => ?_)
  obtain ⟨b3, p3_0⟩ := q3
  refine ev_if_eq rfl rfl (fun c4 => ?_) (fun c4 => ?_)
  · have b5 : B r3 0 0 := R_eqX b3 (by decide : B 0 0 0) c4
    have z6 := congrArg Int32.toInt c4
    rw [show (0 : Int32).toInt = 0 from by decide] at z6
    refine ev_sipush (v := (-10000)) rfl rfl (by decide) ?_
    exact ev_iret rfl rfl rfl ⟨⟨_, rfl, ⟨((by decide : B (-10000) (-10000) (-10000)).mono (by decide) (by decide)), (by have z0_ := congrArg Int32.toInt ef1; have z1_ := congrArg Int32.toInt ef2; have z_ := w_lits; have zl_ := l_lits; omega), hKS⟩⟩, rfl, hJ0⟩
  · have b7 : B r3 1 1 := R_neL b3 (by decide : B 0 0 0) c4 (by decide)
    have b8 : B a0 0 11 := p3_0 c4
    have z9 := w_ne c4
    rw [show (0 : Int32).toInt = 0 from by decide] at z9
    refine ev_iload_n rfl rfl rfl ?_
    refine ev_i2l rfl rfl ?_
    have z10 := Int32.toInt_toInt64 a1
    have z10b := B.any a1
    refine ev_ldc2 (v := (-100)) rfl rfl kc_X10_175 ?_
    refine ev_ldc2 (v := 100) rfl rfl kc_X10_177 ?_
    have z11 := congrArg Int32.toInt ef1
    have z12 := congrArg Int32.toInt ef2
    refine ev_S3P rfl rfl lk_X10_124 st_X10_in rfl rfl (w_inR (G0 L b) h a1 (-100) 100 (by decide : BL (-100) (-100) (-100)) (by decide : BL 100 100 100)) (fun r13 q13 => ?_)
    obtain ⟨b13, p13_0, pp13_0, pp13_1⟩ := q13
    refine ev_if_ne rfl rfl (fun c14 => ?_) (fun c14 => ?_)
    · have b15 : B r13 1 1 := R_neL b13 (by decide : B 0 0 0) c14 (by decide)
      have b16 : B a1 (-100) 100 := p13_0 c14
      have z17 := w_ne c14
      rw [show (0 : Int32).toInt = 0 from by decide] at z17
      refine ev_aload_n rfl rfl rfl ?_
      refine ev_getR (y := 67) rfl rfl fl_X10_32 rfl rfl rfl rfl ?_
      refine ev_iload_n rfl rfl rfl ?_
      refine ev_zalW (n := 12) (l := (-2147483648)) (u := 2147483647) hJ0.1 b8 (by decide) (by decide) (fun _ => rfl) rfl rfl rfl (fun v20 b20 e20 => ?_)
      refine ev_if_eq rfl rfl (fun c21 => ?_) (fun c21 => ?_)
      · have b22 : B v20 0 0 := R_eqX (B.any v20) (by decide : B 0 0 0) c21
        have z23 := congrArg Int32.toInt c21
        rw [show (0 : Int32).toInt = 0 from by decide] at z23
        refine ev_aload_n rfl rfl rfl ?_
        have z25 := congrArg Int32.toInt ef1
        have z26 := congrArg Int32.toInt ef2
        refine ev_V0K hJ0 rfl rfl rfl lk_X10_136 vt_X10_keeps rfl rfl rfl rfl rfl (w_X10_keeps_63 L b h hJ0.1 (by have z0_ := congrArg Int32.toInt ef1; have z1_ := congrArg Int32.toInt ef2; have z_ := w_lits; have zl_ := l_lits; omega) hKS) (fun h27 hJ27 k27 m27 => ?_)
        have z28 := congrArg Int32.toInt (rd_w k27 ef1 rfl)
        have z29 := congrArg Int32.toInt (rd_w k27 ef2 rfl)
        refine ev_aload_n rfl rfl rfl ?_
        refine ev_getR (y := 68) rfl rfl fl_X10_36 rfl rfl rfl rfl ?_
        refine ev_iload_n rfl rfl rfl ?_
        refine ev_ialW (n := 12) (l := (-2147483648)) (u := 2147483647) hJ27.1 b8 (by decide) (by decide) (fun _ => rfl) rfl rfl rfl (fun v30 b30 e30 => ?_)
        refine ev_istore_n rfl rfl rfl rfl ?_
        dsimp only [List.set]
        refine ev_aload_n rfl rfl rfl ?_
        refine ev_getR (y := 68) rfl rfl fl_X10_36 rfl rfl rfl rfl ?_
        refine ev_iload_n rfl rfl rfl ?_
        refine ev_iload_n rfl rfl rfl ?_
        refine ev_iasW (n := 12) (l := (-2147483648)) (u := 2147483647) hJ27 b8 (by decide) (by decide) (fun _ => rfl) b16 (by decide) (by decide) (fun _ => rfl) rfl rfl rfl rfl (fun h31 hJ31 k31 => ?_)
        refine ev_iload_n rfl rfl rfl ?_
        exact ev_iret rfl rfl rfl ⟨⟨_, rfl, ⟨(B.any v30), (by have z0_ := congrArg Int32.toInt (rd_a k31 (rd_w k27 ef1 rfl) rfl); have z1_ := congrArg Int32.toInt (rd_a k31 (rd_w k27 ef2 rfl) rfl); have z_ := w_lits; have zl_ := l_lits; omega), (KS.set m27 k31 rfl)⟩⟩, rfl, hJ31⟩
      · have z24 := w_ne c21
        rw [show (0 : Int32).toInt = 0 from by decide] at z24
        refine ev_sipush (v := (-10002)) rfl rfl (by decide) ?_
        exact ev_iret rfl rfl rfl ⟨⟨_, rfl, ⟨((by decide : B (-10002) (-10002) (-10002)).mono (by decide) (by decide)), (by have z0_ := congrArg Int32.toInt ef1; have z1_ := congrArg Int32.toInt ef2; have z_ := w_lits; have zl_ := l_lits; omega), hKS⟩⟩, rfl, hJ0⟩
    · have b18 : B r13 0 0 := R_eqX b13 (by decide : B 0 0 0) c14
      have z19 := congrArg Int32.toInt c14
      rw [show (0 : Int32).toInt = 0 from by decide] at z19
      refine ev_sipush (v := (-10000)) rfl rfl (by decide) ?_
      exact ev_iret rfl rfl rfl ⟨⟨_, rfl, ⟨((by decide : B (-10000) (-10000) (-10000)).mono (by decide) (by decide)), (by have z0_ := congrArg Int32.toInt ef1; have z1_ := congrArg Int32.toInt ef2; have z_ := w_lits; have zl_ := l_lits; omega), hKS⟩⟩, rfl, hJ0⟩

set_option maxRecDepth 100000 in
set_option maxHeartbeats 4000000 in
theorem w_X10_crack_63 (L : Nat) (b : Bool) (h : Hp) (hB : Bx h) (a0 : Int32) (a1 : Int32) (rp0 : (h 63 0).toInt ≤ (h 63 3).toInt) (hKS : KS h) : EvI mi_X10_crack [.ref 63, .int a0, .int a1] (G0 L b) h (fun (r : Int32) (z : Hp) => B r (-2147483648) 2147483647 ∧ ((z 63 0).toInt ≤ (z 63 3).toInt) ∧ (KS z)) [(63, 13), (69, 999), (71, 999)] := by
  refine EvM.of2 (lo := [some (.ref 63), some (.int a0), some (.int a1), none]) pf_X10_crack ok_X10_crack rfl rfl ?_
  have hJ0 : JW [(63, 13), (69, 999), (71, 999)] h h := JW.refl hB
  obtain ⟨f1, ef1⟩ : ∃ f_, h 63 0 = f_ := ⟨_, rfl⟩
  have bf1 : B f1 0 200 := by have z_ := hJ0.1 63 0; rw [ef1] at z_; exact z_
  have zf1 := congrArg Int32.toInt ef1
  obtain ⟨f2, ef2⟩ : ∃ f_, h 63 3 = f_ := ⟨_, rfl⟩
  have bf2 : B f2 0 200 := by have z_ := hJ0.1 63 3; rw [ef2] at z_; exact z_
  have zf2 := congrArg Int32.toInt ef2
  refine ev_aload_n rfl rfl rfl ?_
  refine ev_iload_n rfl rfl rfl ?_
  refine ev_V1P rfl rfl lk_X10_169 vt_X10_isWhistle rfl rfl rfl rfl rfl (w_X10_isWhistle_63 L b h hJ0.1 a0) (fun r3 q3 => ?_)
  obtain ⟨b3, p3_0⟩ := q3
  refine ev_if_eq rfl rfl (fun c4 => ?_) (fun c4 => ?_)
  · have b5 : B r3 0 0 := R_eqX b3 (by decide : B 0 0 0) c4
    have z6 := congrArg Int32.toInt c4
    rw [show (0 : Int32).toInt = 0 from by decide] at z6
    refine ev_sipush (v := (-10000)) rfl rfl (by decide) ?_
    exact ev_iret rfl rfl rfl ⟨⟨_, rfl, ⟨((by decide : B (-10000) (-10000) (-10000)).mono (by decide) (by decide)), (by have z0_ := congrArg Int32.toInt ef1; have z1_ := congrArg Int32.toInt ef2; have z_ := w_lits; have zl_ := l_lits; omega), hKS⟩⟩, rfl, hJ0⟩
  · have b7 : B r3 1 1 := R_neL b3 (by decide : B 0 0 0) c4 (by decide)
    have b8 : B a0 0 11 := p3_0 c4
    have z9 := w_ne c4
    rw [show (0 : Int32).toInt = 0 from by decide] at z9
    refine ev_iload_n rfl rfl rfl ?_
    refine ev_i2l rfl rfl ?_
    have z10 := Int32.toInt_toInt64 a1
    have z10b := B.any a1
    refine ev_ldc2 (v := (-200)) rfl rfl kc_X10_179 ?_
    refine ev_ldc2 (v := 200) rfl rfl kc_X10_143 ?_
    have z11 := congrArg Int32.toInt ef1
    have z12 := congrArg Int32.toInt ef2
    refine ev_S3P rfl rfl lk_X10_124 st_X10_in rfl rfl (w_inR (G0 L b) h a1 (-200) 200 (by decide : BL (-200) (-200) (-200)) (by decide : BL 200 200 200)) (fun r13 q13 => ?_)
    obtain ⟨b13, p13_0, pp13_0, pp13_1⟩ := q13
    refine ev_if_ne rfl rfl (fun c14 => ?_) (fun c14 => ?_)
    · have b15 : B r13 1 1 := R_neL b13 (by decide : B 0 0 0) c14 (by decide)
      have b16 : B a1 (-200) 200 := p13_0 c14
      have z17 := w_ne c14
      rw [show (0 : Int32).toInt = 0 from by decide] at z17
      refine ev_aload_n rfl rfl rfl ?_
      have z20 := congrArg Int32.toInt ef1
      have z21 := congrArg Int32.toInt ef2
      refine ev_V0K hJ0 rfl rfl rfl lk_X10_136 vt_X10_keeps rfl rfl rfl rfl rfl (w_X10_keeps_63 L b h hJ0.1 (by have z0_ := congrArg Int32.toInt ef1; have z1_ := congrArg Int32.toInt ef2; have z_ := w_lits; have zl_ := l_lits; omega) hKS) (fun h22 hJ22 k22 m22 => ?_)
      have z23 := congrArg Int32.toInt (rd_w k22 ef1 rfl)
      have z24 := congrArg Int32.toInt (rd_w k22 ef2 rfl)
      refine ev_aload_n rfl rfl rfl ?_
      refine ev_getR (y := 69) rfl rfl fl_X10_39 rfl rfl rfl rfl ?_
      refine ev_iload_n rfl rfl rfl ?_
      refine ev_ialW (n := 12) (l := (-2147483648)) (u := 2147483647) hJ22.1 b8 (by decide) (by decide) (fun _ => rfl) rfl rfl rfl (fun v25 b25 e25 => ?_)
      refine ev_istore_n rfl rfl rfl rfl ?_
      dsimp only [List.set]
      refine ev_aload_n rfl rfl rfl ?_
      refine ev_getR (y := 69) rfl rfl fl_X10_39 rfl rfl rfl rfl ?_
      refine ev_iload_n rfl rfl rfl ?_
      refine ev_iload_n rfl rfl rfl ?_
      refine ev_iasW (n := 12) (l := (-2147483648)) (u := 2147483647) hJ22 b8 (by decide) (by decide) (fun _ => rfl) b16 (by decide) (by decide) (fun _ => rfl) rfl rfl rfl rfl (fun h26 hJ26 k26 => ?_)
      refine ev_iload_n rfl rfl rfl ?_
      exact ev_iret rfl rfl rfl ⟨⟨_, rfl, ⟨(B.any v25), (by have z0_ := congrArg Int32.toInt (rd_a k26 (rd_w k22 ef1 rfl) rfl); have z1_ := congrArg Int32.toInt (rd_a k26 (rd_w k22 ef2 rfl) rfl); have z_ := w_lits; have zl_ := l_lits; omega), (KS.set m22 k26 rfl)⟩⟩, rfl, hJ26⟩
    · have b18 : B r13 0 0 := R_eqX b13 (by decide : B 0 0 0) c14
      have z19 := congrArg Int32.toInt c14
      rw [show (0 : Int32).toInt = 0 from by decide] at z19
      refine ev_sipush (v := (-10000)) rfl rfl (by decide) ?_
      exact ev_iret rfl rfl rfl ⟨⟨_, rfl, ⟨((by decide : B (-10000) (-10000) (-10000)).mono (by decide) (by decide)), (by have z0_ := congrArg Int32.toInt ef1; have z1_ := congrArg Int32.toInt ef2; have z_ := w_lits; have zl_ := l_lits; omega), hKS⟩⟩, rfl, hJ0⟩

set_option maxRecDepth 100000 in
set_option maxHeartbeats 4000000 in
theorem w_X10_leak_63 (L : Nat) (b : Bool) (h : Hp) (hB : Bx h) (a0 : Int32) (a1 : Int32) (p1 : B a1 0 1) (rp0 : (h 63 0).toInt ≤ (h 63 3).toInt) (hKS : KS h) : EvI mi_X10_leak [.ref 63, .int a0, .int a1] (G0 L b) h (fun (r : Int32) (z : Hp) => B r (-1) 1 ∧ ((z 63 0).toInt ≤ (z 63 3).toInt) ∧ (KS z)) [(63, 13), (70, 999), (71, 999)] := by
  refine EvM.of2 (lo := [some (.ref 63), some (.int a0), some (.int a1), none]) pf_X10_leak ok_X10_leak rfl rfl ?_
  have hJ0 : JW [(63, 13), (70, 999), (71, 999)] h h := JW.refl hB
  obtain ⟨f1, ef1⟩ : ∃ f_, h 63 0 = f_ := ⟨_, rfl⟩
  have bf1 : B f1 0 200 := by have z_ := hJ0.1 63 0; rw [ef1] at z_; exact z_
  have zf1 := congrArg Int32.toInt ef1
  obtain ⟨f2, ef2⟩ : ∃ f_, h 63 3 = f_ := ⟨_, rfl⟩
  have bf2 : B f2 0 200 := by have z_ := hJ0.1 63 3; rw [ef2] at z_; exact z_
  have zf2 := congrArg Int32.toInt ef2
  refine ev_aload_n rfl rfl rfl ?_
  refine ev_iload_n rfl rfl rfl ?_
  refine ev_V1P rfl rfl lk_X10_169 vt_X10_isWhistle rfl rfl rfl rfl rfl (w_X10_isWhistle_63 L b h hJ0.1 a0) (fun r3 q3 => ?_)
  obtain ⟨b3, p3_0⟩ := q3
  refine ev_if_ne rfl rfl (fun c4 => ?_) (fun c4 => ?_)
  · have b5 : B r3 1 1 := R_neL b3 (by decide : B 0 0 0) c4 (by decide)
    have b6 : B a0 0 11 := p3_0 c4
    have z7 := w_ne c4
    rw [show (0 : Int32).toInt = 0 from by decide] at z7
    refine ev_aload_n rfl rfl rfl ?_
    have z10 := congrArg Int32.toInt ef1
    have z11 := congrArg Int32.toInt ef2
    refine ev_V0K hJ0 rfl rfl rfl lk_X10_136 vt_X10_keeps rfl rfl rfl rfl rfl (w_X10_keeps_63 L b h hJ0.1 (by have z0_ := congrArg Int32.toInt ef1; have z1_ := congrArg Int32.toInt ef2; have z_ := w_lits; have zl_ := l_lits; omega) hKS) (fun h12 hJ12 k12 m12 => ?_)
    have z13 := congrArg Int32.toInt (rd_w k12 ef1 rfl)
    have z14 := congrArg Int32.toInt (rd_w k12 ef2 rfl)
    refine ev_aload_n rfl rfl rfl ?_
    refine ev_getR (y := 70) rfl rfl fl_X10_42 rfl rfl rfl rfl ?_
    refine ev_iload_n rfl rfl rfl ?_
    refine ev_zalW (n := 12) (l := (-2147483648)) (u := 2147483647) hJ12.1 b6 (by decide) (by decide) (fun _ => rfl) rfl rfl rfl (fun v15 b15 e15 => ?_)
    refine ev_if_eq rfl rfl (fun c16 => ?_) (fun c16 => ?_)
    · have b17 : B v15 0 0 := R_eqX (B.any v15) (by decide : B 0 0 0) c16
      have z18 := congrArg Int32.toInt c16
      rw [show (0 : Int32).toInt = 0 from by decide] at z18
      refine ev_iconst (v := 0) rfl rfl (by decide) ?_
      refine ev_istore_n rfl rfl rfl rfl ?_
      dsimp only [List.set]
      refine ev_aload_n rfl rfl rfl ?_
      refine ev_getR (y := 70) rfl rfl fl_X10_42 rfl rfl rfl rfl ?_
      refine ev_iload_n rfl rfl rfl ?_
      refine ev_iload_n rfl rfl rfl ?_
      refine ev_zasW (n := 12) (l := (-2147483648)) (u := 2147483647) hJ12 b6 (by decide) (by decide) (fun _ => rfl) p1 (by decide) (by decide) (fun _ => rfl) rfl rfl rfl rfl (fun h20 hJ20 k20 => ?_)
      refine ev_iload_n rfl rfl rfl ?_
      exact ev_iret rfl rfl rfl ⟨⟨_, rfl, ⟨((by decide : B 0 0 0).mono (by decide) (by decide)), (by have z0_ := congrArg Int32.toInt (rd_a k20 (rd_w k12 ef1 rfl) rfl); have z1_ := congrArg Int32.toInt (rd_a k20 (rd_w k12 ef2 rfl) rfl); have z_ := w_lits; have zl_ := l_lits; omega), (KS.set m12 k20 rfl)⟩⟩, rfl, hJ20⟩
    · have z19 := w_ne c16
      rw [show (0 : Int32).toInt = 0 from by decide] at z19
      refine ev_iconst (v := 1) rfl rfl (by decide) ?_
      refine ev_goto rfl rfl ?_
      refine ev_istore_n rfl rfl rfl rfl ?_
      dsimp only [List.set]
      refine ev_aload_n rfl rfl rfl ?_
      refine ev_getR (y := 70) rfl rfl fl_X10_42 rfl rfl rfl rfl ?_
      refine ev_iload_n rfl rfl rfl ?_
      refine ev_iload_n rfl rfl rfl ?_
      refine ev_zasW (n := 12) (l := (-2147483648)) (u := 2147483647) hJ12 b6 (by decide) (by decide) (fun _ => rfl) p1 (by decide) (by decide) (fun _ => rfl) rfl rfl rfl rfl (fun h21 hJ21 k21 => ?_)
      refine ev_iload_n rfl rfl rfl ?_
      exact ev_iret rfl rfl rfl ⟨⟨_, rfl, ⟨((by decide : B 1 1 1).mono (by decide) (by decide)), (by have z0_ := congrArg Int32.toInt (rd_a k21 (rd_w k12 ef1 rfl) rfl); have z1_ := congrArg Int32.toInt (rd_a k21 (rd_w k12 ef2 rfl) rfl); have z_ := w_lits; have zl_ := l_lits; omega), (KS.set m12 k21 rfl)⟩⟩, rfl, hJ21⟩
  · have b8 : B r3 0 0 := R_eqX b3 (by decide : B 0 0 0) c4
    have z9 := congrArg Int32.toInt c4
    rw [show (0 : Int32).toInt = 0 from by decide] at z9
    refine ev_iconst (v := (-1)) rfl rfl (by decide) ?_
    exact ev_iret rfl rfl rfl ⟨⟨_, rfl, ⟨((by decide : B (-1) (-1) (-1)).mono (by decide) (by decide)), (by have z0_ := congrArg Int32.toInt ef1; have z1_ := congrArg Int32.toInt ef2; have z_ := w_lits; have zl_ := l_lits; omega), hKS⟩⟩, rfl, hJ0⟩

set_option maxRecDepth 100000 in
set_option maxHeartbeats 4000000 in
theorem w_X10_tuneAll_63 (L : Nat) (b : Bool) (h : Hp) (hB : Bx h) (a0 : Int32) (rp0 : (h 63 0).toInt ≤ (h 63 3).toInt) (hKS : KS h) : EvI mi_X10_tuneAll [.ref 63, .int a0] (G0 L b) h (fun (r : Int32) (z : Hp) => B r (-2147483648) 2147483647 ∧ ((z 63 0).toInt ≤ (z 63 3).toInt) ∧ (KS z)) [(63, 13), (68, 999), (71, 999)] := by
  refine EvM.of2 (lo := [some (.ref 63), some (.int a0), none, none, none]) pf_X10_tuneAll ok_X10_tuneAll rfl rfl ?_
  have hJ0 : JW [(63, 13), (68, 999), (71, 999)] h h := JW.refl hB
  obtain ⟨f1, ef1⟩ : ∃ f_, h 63 0 = f_ := ⟨_, rfl⟩
  have bf1 : B f1 0 200 := by have z_ := hJ0.1 63 0; rw [ef1] at z_; exact z_
  have zf1 := congrArg Int32.toInt ef1
  obtain ⟨f2, ef2⟩ : ∃ f_, h 63 3 = f_ := ⟨_, rfl⟩
  have bf2 : B f2 0 200 := by have z_ := hJ0.1 63 3; rw [ef2] at z_; exact z_
  have zf2 := congrArg Int32.toInt ef2
  refine ev_iload_n rfl rfl rfl ?_
  refine ev_i2l rfl rfl ?_
  have z3 := Int32.toInt_toInt64 a0
  have z3b := B.any a0
  refine ev_lconst (v := 0) rfl rfl rfl ?_
  refine ev_ldc2 (v := 200) rfl rfl kc_X10_143 ?_
  have z4 := congrArg Int32.toInt ef1
  have z5 := congrArg Int32.toInt ef2
  refine ev_S3P rfl rfl lk_X10_124 st_X10_in rfl rfl (w_inR (G0 L b) h a0 0 200 (by decide : BL 0 0 0) (by decide : BL 200 200 200)) (fun r6 q6 => ?_)
  obtain ⟨b6, p6_0, pp6_0, pp6_1⟩ := q6
  refine ev_if_ne rfl rfl (fun c7 => ?_) (fun c7 => ?_)
  · have b8 : B r6 1 1 := R_neL b6 (by decide : B 0 0 0) c7 (by decide)
    have b9 : B a0 0 200 := p6_0 c7
    have z10 := w_ne c7
    rw [show (0 : Int32).toInt = 0 from by decide] at z10
    refine ev_aload_n rfl rfl rfl ?_
    have z13 := congrArg Int32.toInt ef1
    have z14 := congrArg Int32.toInt ef2
    refine ev_V0K hJ0 rfl rfl rfl lk_X10_136 vt_X10_keeps rfl rfl rfl rfl rfl (w_X10_keeps_63 L b h hJ0.1 (by have z0_ := congrArg Int32.toInt ef1; have z1_ := congrArg Int32.toInt ef2; have z_ := w_lits; have zl_ := l_lits; omega) hKS) (fun h15 hJ15 k15 m15 => ?_)
    have z16 := congrArg Int32.toInt (rd_w k15 ef1 rfl)
    have z17 := congrArg Int32.toInt (rd_w k15 ef2 rfl)
    refine ev_iconst (v := 0) rfl rfl (by decide) ?_
    refine ev_istore_n rfl rfl rfl rfl ?_
    dsimp only [List.set]
    refine ev_iconst (v := 0) rfl rfl (by decide) ?_
    refine ev_istore_n rfl rfl rfl rfl ?_
    dsimp only [List.set]
    have lp22_670 : ∀ (n : Nat) (w671 : Int32) (w672 : Int32) (h674 : Hp), B w672 0 12 → JW [(63, 13), (68, 999), (71, 999)] h h674 → (h674 63 0 = f1) → (h674 63 3 = f2) → (KS h674) → 12 + 1 - w672.toInt ≤ (n : Int) → EvQ mi_X10_tuneAll 22 [some (.ref 63), some (.int a0), some (.int w671), some (.int w672), none] [] (G0 L b) h674 0 0 (QI (fun (r : Int32) (z : Hp) => B r (-2147483648) 2147483647 ∧ ((z 63 0).toInt ≤ (z 63 3).toInt) ∧ (KS z)) [(63, 13), (68, 999), (71, 999)] (G0 L b) h) := by
      intro n
      induction n with
      | zero =>
        intro w671 w672 h674 b673 hJ675 z676 z677 ks22 hm22
        exact absurd hm22 (L_zero b673 (by decide))
      | succ n ih22 =>
        intro w671 w672 h674 b673 hJ675 z676 z677 ks22 hm22
        have z678 := congrArg Int32.toInt z676
        have z679 := congrArg Int32.toInt z677
        refine ev_iload_n rfl rfl rfl ?_
        refine ev_aload_n rfl rfl rfl ?_
        refine ev_getW (l := 0) (u := 12) hJ675.1 rfl rfl rfl fl_X10_121 rfl rfl rfl (fun v680 b680 e680 => ?_)
        refine ev_icmp_ge rfl rfl (fun c681 => ?_) (fun c681 => ?_)
        · have z682 := w_le c681
          refine ev_iload_n rfl rfl rfl ?_
          exact ev_iret rfl rfl rfl ⟨⟨_, rfl, ⟨(B.any w671), (by have z0_ := congrArg Int32.toInt z676; have z1_ := congrArg Int32.toInt z677; have z_ := w_lits; have zl_ := l_lits; omega), ks22⟩⟩, rfl, hJ675⟩
        · have b683 : B w672 0 11 := R_ltX b673 b680 (Int32.not_le.mp c681) (by decide)
          have b684 : B v680 1 12 := R_ltY b673 b680 (Int32.not_le.mp c681) (by decide)
          have z685 := w_lt (Int32.not_le.mp c681)
          refine ev_aload_n rfl rfl rfl ?_
          refine ev_getR (y := 67) rfl rfl fl_X10_32 rfl rfl rfl rfl ?_
          refine ev_iload_n rfl rfl rfl ?_
          refine ev_zalW (n := 12) (l := (-2147483648)) (u := 2147483647) hJ675.1 b683 (by decide) (by decide) (fun _ => rfl) rfl rfl rfl (fun v686 b686 e686 => ?_)
          refine ev_if_ne rfl rfl (fun c687 => ?_) (fun c687 => ?_)
          · have z688 := w_ne c687
            rw [show (0 : Int32).toInt = 0 from by decide] at z688
            refine ev_iload_n rfl rfl rfl ?_
            refine ev_aload_n rfl rfl rfl ?_
            refine ev_iload_n rfl rfl rfl ?_
            refine ev_iload_n rfl rfl rfl ?_
            refine ev_V2P rfl rfl lk_X10_153 vt_X10_off rfl rfl rfl rfl rfl (w_X10_off_63 L b h674 hJ675.1 w672 b683 a0) (fun r691 q691 => ?_)
            refine ev_if_ne rfl rfl (fun c692 => ?_) (fun c692 => ?_)
            · have z693 := w_ne c692
              rw [show (0 : Int32).toInt = 0 from by decide] at z693
              refine ev_iconst (v := 1) rfl rfl (by decide) ?_
              refine ev_iaddA rfl rfl (fun v696 g696 => ?_)
              refine ev_istore_n rfl rfl rfl rfl ?_
              dsimp only [List.set]
              refine ev_iincB (y := 1) (l := 1) (u := 12) rfl rfl rfl (by decide) rfl rfl b683 (by decide : B 1 1 1) (by decide) (by decide) (by decide) (by decide) (fun v697 b697 e697 => ?_)
              dsimp only [List.set]
              have e697x := e697; rw [show (1 : Int32).toInt = 1 from by decide] at e697x
              refine ev_goto rfl rfl ?_
              exact (ih22 v696 v697 h674 (b697.mono (by decide) (by decide)) hJ675 z676 z677 ks22 (L_up hm22 (e_p1 e697 (by decide))))
            · have b694 : B r691 0 0 := R_eqX (B.any r691) (by decide : B 0 0 0) c692
              have z695 := congrArg Int32.toInt c692
              rw [show (0 : Int32).toInt = 0 from by decide] at z695
              refine ev_iconst (v := 0) rfl rfl (by decide) ?_
              refine ev_goto rfl rfl ?_
              refine ev_iaddB (l := -2147483648) (u := 2147483647) rfl rfl (B.any w671) (by decide : B 0 0 0) (by decide) (by decide) (by decide) (by decide) (fun v698 b698 e698 g698 => ?_)
              have e698x := e698; rw [show (0 : Int32).toInt = 0 from by decide] at e698x
              refine ev_istore_n rfl rfl rfl rfl ?_
              dsimp only [List.set]
              refine ev_iincB (y := 1) (l := 1) (u := 12) rfl rfl rfl (by decide) rfl rfl b683 (by decide : B 1 1 1) (by decide) (by decide) (by decide) (by decide) (fun v699 b699 e699 => ?_)
              dsimp only [List.set]
              have e699x := e699; rw [show (1 : Int32).toInt = 1 from by decide] at e699x
              refine ev_goto rfl rfl ?_
              exact (ih22 v698 v699 h674 (b699.mono (by decide) (by decide)) hJ675 z676 z677 ks22 (L_up hm22 (e_p1 e699 (by decide))))
          · have b689 : B v686 0 0 := R_eqX (B.any v686) (by decide : B 0 0 0) c687
            have z690 := congrArg Int32.toInt c687
            rw [show (0 : Int32).toInt = 0 from by decide] at z690
            refine ev_aload_n rfl rfl rfl ?_
            refine ev_getR (y := 68) rfl rfl fl_X10_36 rfl rfl rfl rfl ?_
            refine ev_iload_n rfl rfl rfl ?_
            refine ev_ialW (n := 12) (l := (-2147483648)) (u := 2147483647) hJ675.1 b683 (by decide) (by decide) (fun _ => rfl) rfl rfl rfl (fun v700 b700 e700 => ?_)
            refine ev_aload_n rfl rfl rfl ?_
            refine ev_iload_n rfl rfl rfl ?_
            refine ev_iload_n rfl rfl rfl ?_
            refine ev_V2P rfl rfl lk_X10_153 vt_X10_off rfl rfl rfl rfl rfl (w_X10_off_63 L b h674 hJ675.1 w672 b683 a0) (fun r701 q701 => ?_)
            refine ev_isubA rfl rfl (fun v702 g702 => ?_)
            refine ev_istore rfl rfl rfl rfl ?_
            dsimp only [List.set]
            refine ev_aload_n rfl rfl rfl ?_
            refine ev_getR (y := 68) rfl rfl fl_X10_36 rfl rfl rfl rfl ?_
            refine ev_iload_n rfl rfl rfl ?_
            refine ev_iload rfl rfl rfl ?_
            refine ev_bipush (v := 100) rfl rfl (by decide) ?_
            refine ev_icmp_le rfl rfl (fun c703 => ?_) (fun c703 => ?_)
            · have b704 : B v702 (-2147483648) 100 := R_leX (B.any v702) (by decide : B 100 100 100) c703 (by decide)
              have z705 := w_le c703
              rw [show (100 : Int32).toInt = 100 from by decide] at z705
              refine ev_iload rfl rfl rfl ?_
              refine ev_bipush (v := (-100)) rfl rfl (by decide) ?_
              refine ev_icmp_ge rfl rfl (fun c708 => ?_) (fun c708 => ?_)
              · have b709 : B v702 (-100) 100 := R_leY (by decide : B (-100) (-100) (-100)) b704 c708 (by decide)
                have z710 := w_le c708
                rw [show ((-100) : Int32).toInt = (-100) from by decide] at z710
                refine ev_iload rfl rfl rfl ?_
                refine ev_iasW (n := 12) (l := (-2147483648)) (u := 2147483647) hJ675 b683 (by decide) (by decide) (fun _ => rfl) b709 (by decide) (by decide) (fun _ => rfl) rfl rfl rfl rfl (fun h713 hJ713 k713 => ?_)
                refine ev_iload_n rfl rfl rfl ?_
                refine ev_aload_n rfl rfl rfl ?_
                refine ev_iload_n rfl rfl rfl ?_
                refine ev_iload_n rfl rfl rfl ?_
                refine ev_V2P rfl rfl lk_X10_153 vt_X10_off rfl rfl rfl rfl rfl (w_X10_off_63 L b h713 hJ713.1 w672 b683 a0) (fun r714 q714 => ?_)
                refine ev_if_ne rfl rfl (fun c715 => ?_) (fun c715 => ?_)
                · have z716 := w_ne c715
                  rw [show (0 : Int32).toInt = 0 from by decide] at z716
                  refine ev_iconst (v := 1) rfl rfl (by decide) ?_
                  refine ev_iaddA rfl rfl (fun v719 g719 => ?_)
                  refine ev_istore_n rfl rfl rfl rfl ?_
                  dsimp only [List.set]
                  refine ev_iincB (y := 1) (l := 1) (u := 12) rfl rfl rfl (by decide) rfl rfl b683 (by decide : B 1 1 1) (by decide) (by decide) (by decide) (by decide) (fun v720 b720 e720 => ?_)
                  dsimp only [List.set]
                  have e720x := e720; rw [show (1 : Int32).toInt = 1 from by decide] at e720x
                  refine ev_goto rfl rfl ?_
                  exact (EvQ.drop 4 (ih22 v719 v720 h713 (b720.mono (by decide) (by decide)) hJ713 (rd_a k713 z676 rfl) (rd_a k713 z677 rfl) (KS.set ks22 k713 rfl) (L_up hm22 (e_p1 e720 (by decide)))))
                · have b717 : B r714 0 0 := R_eqX (B.any r714) (by decide : B 0 0 0) c715
                  have z718 := congrArg Int32.toInt c715
                  rw [show (0 : Int32).toInt = 0 from by decide] at z718
                  refine ev_iconst (v := 0) rfl rfl (by decide) ?_
                  refine ev_goto rfl rfl ?_
                  refine ev_iaddB (l := -2147483648) (u := 2147483647) rfl rfl (B.any w671) (by decide : B 0 0 0) (by decide) (by decide) (by decide) (by decide) (fun v721 b721 e721 g721 => ?_)
                  have e721x := e721; rw [show (0 : Int32).toInt = 0 from by decide] at e721x
                  refine ev_istore_n rfl rfl rfl rfl ?_
                  dsimp only [List.set]
                  refine ev_iincB (y := 1) (l := 1) (u := 12) rfl rfl rfl (by decide) rfl rfl b683 (by decide : B 1 1 1) (by decide) (by decide) (by decide) (by decide) (fun v722 b722 e722 => ?_)
                  dsimp only [List.set]
                  have e722x := e722; rw [show (1 : Int32).toInt = 1 from by decide] at e722x
                  refine ev_goto rfl rfl ?_
                  exact (EvQ.drop 4 (ih22 v721 v722 h713 (b722.mono (by decide) (by decide)) hJ713 (rd_a k713 z676 rfl) (rd_a k713 z677 rfl) (KS.set ks22 k713 rfl) (L_up hm22 (e_p1 e722 (by decide)))))
              · have b711 : B v702 (-2147483648) (-101) := R_ltX b704 (by decide : B (-100) (-100) (-100)) (Int32.not_le.mp c708) (by decide)
                have z712 := w_lt (Int32.not_le.mp c708)
                rw [show ((-100) : Int32).toInt = (-100) from by decide] at z712
                refine ev_bipush (v := (-100)) rfl rfl (by decide) ?_
                refine ev_goto rfl rfl ?_
                refine ev_iasW (n := 12) (l := (-2147483648)) (u := 2147483647) hJ675 b683 (by decide) (by decide) (fun _ => rfl) (by decide : B (-100) (-100) (-100)) (by decide) (by decide) (fun _ => rfl) rfl rfl rfl rfl (fun h723 hJ723 k723 => ?_)
                refine ev_iload_n rfl rfl rfl ?_
                refine ev_aload_n rfl rfl rfl ?_
                refine ev_iload_n rfl rfl rfl ?_
                refine ev_iload_n rfl rfl rfl ?_
                refine ev_V2P rfl rfl lk_X10_153 vt_X10_off rfl rfl rfl rfl rfl (w_X10_off_63 L b h723 hJ723.1 w672 b683 a0) (fun r724 q724 => ?_)
                refine ev_if_ne rfl rfl (fun c725 => ?_) (fun c725 => ?_)
                · have z726 := w_ne c725
                  rw [show (0 : Int32).toInt = 0 from by decide] at z726
                  refine ev_iconst (v := 1) rfl rfl (by decide) ?_
                  refine ev_iaddA rfl rfl (fun v729 g729 => ?_)
                  refine ev_istore_n rfl rfl rfl rfl ?_
                  dsimp only [List.set]
                  refine ev_iincB (y := 1) (l := 1) (u := 12) rfl rfl rfl (by decide) rfl rfl b683 (by decide : B 1 1 1) (by decide) (by decide) (by decide) (by decide) (fun v730 b730 e730 => ?_)
                  dsimp only [List.set]
                  have e730x := e730; rw [show (1 : Int32).toInt = 1 from by decide] at e730x
                  refine ev_goto rfl rfl ?_
                  exact (EvQ.drop 4 (ih22 v729 v730 h723 (b730.mono (by decide) (by decide)) hJ723 (rd_a k723 z676 rfl) (rd_a k723 z677 rfl) (KS.set ks22 k723 rfl) (L_up hm22 (e_p1 e730 (by decide)))))
                · have b727 : B r724 0 0 := R_eqX (B.any r724) (by decide : B 0 0 0) c725
                  have z728 := congrArg Int32.toInt c725
                  rw [show (0 : Int32).toInt = 0 from by decide] at z728
                  refine ev_iconst (v := 0) rfl rfl (by decide) ?_
                  refine ev_goto rfl rfl ?_
                  refine ev_iaddB (l := -2147483648) (u := 2147483647) rfl rfl (B.any w671) (by decide : B 0 0 0) (by decide) (by decide) (by decide) (by decide) (fun v731 b731 e731 g731 => ?_)
                  have e731x := e731; rw [show (0 : Int32).toInt = 0 from by decide] at e731x
                  refine ev_istore_n rfl rfl rfl rfl ?_
                  dsimp only [List.set]
                  refine ev_iincB (y := 1) (l := 1) (u := 12) rfl rfl rfl (by decide) rfl rfl b683 (by decide : B 1 1 1) (by decide) (by decide) (by decide) (by decide) (fun v732 b732 e732 => ?_)
                  dsimp only [List.set]
                  have e732x := e732; rw [show (1 : Int32).toInt = 1 from by decide] at e732x
                  refine ev_goto rfl rfl ?_
                  exact (EvQ.drop 4 (ih22 v731 v732 h723 (b732.mono (by decide) (by decide)) hJ723 (rd_a k723 z676 rfl) (rd_a k723 z677 rfl) (KS.set ks22 k723 rfl) (L_up hm22 (e_p1 e732 (by decide)))))
            · have b706 : B v702 101 2147483647 := R_ltY (by decide : B 100 100 100) (B.any v702) (Int32.not_le.mp c703) (by decide)
              have z707 := w_lt (Int32.not_le.mp c703)
              rw [show (100 : Int32).toInt = 100 from by decide] at z707
              refine ev_bipush (v := 100) rfl rfl (by decide) ?_
              refine ev_goto rfl rfl ?_
              refine ev_iasW (n := 12) (l := (-2147483648)) (u := 2147483647) hJ675 b683 (by decide) (by decide) (fun _ => rfl) (by decide : B 100 100 100) (by decide) (by decide) (fun _ => rfl) rfl rfl rfl rfl (fun h733 hJ733 k733 => ?_)
              refine ev_iload_n rfl rfl rfl ?_
              refine ev_aload_n rfl rfl rfl ?_
              refine ev_iload_n rfl rfl rfl ?_
              refine ev_iload_n rfl rfl rfl ?_
              refine ev_V2P rfl rfl lk_X10_153 vt_X10_off rfl rfl rfl rfl rfl (w_X10_off_63 L b h733 hJ733.1 w672 b683 a0) (fun r734 q734 => ?_)
              refine ev_if_ne rfl rfl (fun c735 => ?_) (fun c735 => ?_)
              · have z736 := w_ne c735
                rw [show (0 : Int32).toInt = 0 from by decide] at z736
                refine ev_iconst (v := 1) rfl rfl (by decide) ?_
                refine ev_iaddA rfl rfl (fun v739 g739 => ?_)
                refine ev_istore_n rfl rfl rfl rfl ?_
                dsimp only [List.set]
                refine ev_iincB (y := 1) (l := 1) (u := 12) rfl rfl rfl (by decide) rfl rfl b683 (by decide : B 1 1 1) (by decide) (by decide) (by decide) (by decide) (fun v740 b740 e740 => ?_)
                dsimp only [List.set]
                have e740x := e740; rw [show (1 : Int32).toInt = 1 from by decide] at e740x
                refine ev_goto rfl rfl ?_
                exact (EvQ.drop 4 (ih22 v739 v740 h733 (b740.mono (by decide) (by decide)) hJ733 (rd_a k733 z676 rfl) (rd_a k733 z677 rfl) (KS.set ks22 k733 rfl) (L_up hm22 (e_p1 e740 (by decide)))))
              · have b737 : B r734 0 0 := R_eqX (B.any r734) (by decide : B 0 0 0) c735
                have z738 := congrArg Int32.toInt c735
                rw [show (0 : Int32).toInt = 0 from by decide] at z738
                refine ev_iconst (v := 0) rfl rfl (by decide) ?_
                refine ev_goto rfl rfl ?_
                refine ev_iaddB (l := -2147483648) (u := 2147483647) rfl rfl (B.any w671) (by decide : B 0 0 0) (by decide) (by decide) (by decide) (by decide) (fun v741 b741 e741 g741 => ?_)
                have e741x := e741; rw [show (0 : Int32).toInt = 0 from by decide] at e741x
                refine ev_istore_n rfl rfl rfl rfl ?_
                dsimp only [List.set]
                refine ev_iincB (y := 1) (l := 1) (u := 12) rfl rfl rfl (by decide) rfl rfl b683 (by decide : B 1 1 1) (by decide) (by decide) (by decide) (by decide) (fun v742 b742 e742 => ?_)
                dsimp only [List.set]
                have e742x := e742; rw [show (1 : Int32).toInt = 1 from by decide] at e742x
                refine ev_goto rfl rfl ?_
                exact (EvQ.drop 4 (ih22 v741 v742 h733 (b742.mono (by decide) (by decide)) hJ733 (rd_a k733 z676 rfl) (rd_a k733 z677 rfl) (KS.set ks22 k733 rfl) (L_up hm22 (e_p1 e742 (by decide)))))
    exact (lp22_670 13 0 0 h15 ((by decide : B 0 0 0).mono (by decide) (by decide)) hJ15 (rd_w k15 ef1 rfl) (rd_w k15 ef2 rfl) m15 (L_init (by decide : B 0 0 0) (by decide)))
  · have b11 : B r6 0 0 := R_eqX b6 (by decide : B 0 0 0) c7
    have z12 := congrArg Int32.toInt c7
    rw [show (0 : Int32).toInt = 0 from by decide] at z12
    refine ev_iconst (v := (-1)) rfl rfl (by decide) ?_
    exact ev_iret rfl rfl rfl ⟨⟨_, rfl, ⟨((by decide : B (-1) (-1) (-1)).mono (by decide) (by decide)), (by have z0_ := congrArg Int32.toInt ef1; have z1_ := congrArg Int32.toInt ef2; have z_ := w_lits; have zl_ := l_lits; omega), hKS⟩⟩, rfl, hJ0⟩

set_option maxRecDepth 100000 in
set_option maxHeartbeats 4000000 in
theorem w_X10_moved_63 (L : Nat) (b : Bool) (h : Hp) (hB : Bx h) (a0 : Int32) (a1 : Int32) : EvP mi_X10_moved [.ref 63, .int a0, .int a1] (G0 L b) h (fun r : Int32 => B r (-2147483648) 2147483647) := by
  refine EvM.of2 (lo := [some (.ref 63), some (.int a0), some (.int a1)]) pf_X10_moved ok_X10_moved rfl rfl ?_
  refine ev_iload_n rfl rfl rfl ?_
  refine ev_if_ge rfl rfl (fun c1 => ?_) (fun c1 => ?_)
  · have b2 : B a1 0 2147483647 := R_leY (by decide : B 0 0 0) (B.any a1) c1 (by decide)
    refine ev_iload_n rfl rfl rfl ?_
    refine ev_iload_n rfl rfl rfl ?_
    refine ev_ishlA rfl rfl (fun v4 => ?_)
    exact ev_iret rfl rfl rfl ⟨⟨_, rfl, (B.any v4)⟩, rfl, rfl⟩
  · have b3 : B a1 (-2147483648) (-1) := R_ltX (B.any a1) (by decide : B 0 0 0) (Int32.not_le.mp c1) (by decide)
    refine ev_iload_n rfl rfl rfl ?_
    refine ev_iload_n rfl rfl rfl ?_
    refine ev_inegA rfl rfl (fun v5 => ?_)
    refine ev_ishrA rfl rfl (fun v6 => ?_)
    refine ev_goto rfl rfl ?_
    exact ev_iret rfl rfl rfl ⟨⟨_, rfl, (B.any v6)⟩, rfl, rfl⟩

set_option maxRecDepth 100000 in
set_option maxHeartbeats 4000000 in
theorem w_X10_goesAll_63 (L : Nat) (b : Bool) (h : Hp) (hB : Bx h) (a0 : Int32) (p0 : B a0 0 5) (a1 : Int32) (rp0 : (h 63 0).toInt ≤ (h 63 3).toInt) : EvI mi_X10_goesAll [.ref 63, .int a0, .int a1] (G0 L b) h (fun (r : Int32) (z : Hp) => B r (-123) 2147483647 ∧ ((z 63 0).toInt ≤ (z 63 3).toInt)) [(63, 0), (63, 1), (63, 4)] := by
  refine EvM.of2 (lo := [some (.ref 63), some (.int a0), some (.int a1), none, none, none]) pf_X10_goesAll ok_X10_goesAll rfl rfl ?_
  have hJ0 : JW [(63, 0), (63, 1), (63, 4)] h h := JW.refl hB
  obtain ⟨f1, ef1⟩ : ∃ f_, h 63 0 = f_ := ⟨_, rfl⟩
  have bf1 : B f1 0 200 := by have z_ := hJ0.1 63 0; rw [ef1] at z_; exact z_
  have zf1 := congrArg Int32.toInt ef1
  obtain ⟨f2, ef2⟩ : ∃ f_, h 63 3 = f_ := ⟨_, rfl⟩
  have bf2 : B f2 0 200 := by have z_ := hJ0.1 63 3; rw [ef2] at z_; exact z_
  have zf2 := congrArg Int32.toInt ef2
  refine ev_iconst (v := 0) rfl rfl (by decide) ?_
  refine ev_istore_n rfl rfl rfl rfl ?_
  dsimp only [List.set]
  refine ev_iconst (v := 0) rfl rfl (by decide) ?_
  refine ev_istore rfl rfl rfl rfl ?_
  dsimp only [List.set]
  have lp5_160 : ∀ (n : Nat) (w161 : Int32) (w162 : Int32) (h165 : Hp), B w161 0 2147483647 → B w162 0 24 → JW [(63, 0), (63, 1), (63, 4)] h h165 → (h165 63 3 = f2) → ((h165 63 0).toInt ≤ (h165 63 3).toInt) → 24 + 1 - w162.toInt ≤ (n : Int) → EvQ mi_X10_goesAll 5 [some (.ref 63), some (.int a0), some (.int a1), some (.int w161), some (.int w162), none] [] (G0 L b) h165 0 0 (QI (fun (r : Int32) (z : Hp) => B r (-123) 2147483647 ∧ ((z 63 0).toInt ≤ (z 63 3).toInt)) [(63, 0), (63, 1), (63, 4)] (G0 L b) h) := by
    intro n
    induction n with
    | zero =>
      intro w161 w162 h165 b163 b164 hJ166 z167 y5_0 hm5
      exact absurd hm5 (L_zero b164 (by decide))
    | succ n ih5 =>
      intro w161 w162 h165 b163 b164 hJ166 z167 y5_0 hm5
      obtain ⟨f168, ef168⟩ : ∃ f_, h165 63 0 = f_ := ⟨_, rfl⟩
      have bf168 : B f168 0 200 := by have z_ := hJ166.1 63 0; rw [ef168] at z_; exact z_
      have zf168 := congrArg Int32.toInt ef168
      have z169 := congrArg Int32.toInt ef168
      have z170 := congrArg Int32.toInt z167
      refine ev_iload rfl rfl rfl ?_
      refine ev_aload_n rfl rfl rfl ?_
      refine ev_getR (y := 73) rfl rfl fl_X10_51 rfl rfl rfl rfl ?_
      refine ev_iload_n rfl rfl rfl ?_
      refine ev_ialW (n := 6) (l := 0) (u := 24) hJ166.1 p0 (by decide) (by decide) (fun _ => rfl) rfl rfl rfl (fun v171 b171 e171 => ?_)
      refine ev_icmp_ge rfl rfl (fun c172 => ?_) (fun c172 => ?_)
      · have z173 := w_le c172
        refine ev_iload_n rfl rfl rfl ?_
        exact ev_iret rfl rfl rfl ⟨⟨_, rfl, ⟨(b163.mono (by decide) (by decide)), (by have z0_ := congrArg Int32.toInt ef168; have z1_ := congrArg Int32.toInt z167; have z_ := w_lits; have zl_ := l_lits; omega)⟩⟩, rfl, hJ166⟩
      · have b174 : B w162 0 23 := R_ltX b164 b171 (Int32.not_le.mp c172) (by decide)
        have b175 : B v171 1 24 := R_ltY b164 b171 (Int32.not_le.mp c172) (by decide)
        have z176 := w_lt (Int32.not_le.mp c172)
        refine ev_aload_n rfl rfl rfl ?_
        refine ev_aload_n rfl rfl rfl ?_
        refine ev_aload_n rfl rfl rfl ?_
        refine ev_iload_n rfl rfl rfl ?_
        refine ev_iload rfl rfl rfl ?_
        refine ev_V2P rfl rfl lk_X10_263 vt_X10_chordAt rfl rfl rfl rfl rfl (w_X10_chordAt_63 L b h165 hJ166.1 a0 p0 w162 b174) (fun r177 q177 => ?_)
        refine ev_iload_n rfl rfl rfl ?_
        refine ev_V2P rfl rfl lk_X10_276 vt_X10_moved rfl rfl rfl rfl rfl (w_X10_moved_63 L b h165 hJ166.1 r177 a1) (fun r178 q178 => ?_)
        have z179 := congrArg Int32.toInt ef168
        have z180 := congrArg Int32.toInt z167
        refine ev_V1I hJ166 rfl rfl rfl lk_X10_162 vt_X10_goes rfl rfl rfl rfl rfl (w_X10_goes_63 L b h165 hJ166.1 r178 (by have z0_ := congrArg Int32.toInt ef168; have z1_ := congrArg Int32.toInt z167; have z_ := w_lits; have zl_ := l_lits; omega)) (fun r181 h181 q181 hJ181 k181 => ?_)
        obtain ⟨b181, m181_0⟩ := q181
        obtain ⟨f182, ef182⟩ : ∃ f_, h181 63 0 = f_ := ⟨_, rfl⟩
        have bf182 : B f182 0 200 := by have z_ := hJ181.1 63 0; rw [ef182] at z_; exact z_
        have zf182 := congrArg Int32.toInt ef182
        have z183 := congrArg Int32.toInt ef182
        have z184 := congrArg Int32.toInt (rd_w k181 z167 rfl)
        refine ev_istore rfl rfl rfl rfl ?_
        dsimp only [List.set]
        refine ev_iload rfl rfl rfl ?_
        refine ev_bipush (v := (-5)) rfl rfl (by decide) ?_
        refine ev_icmp_ne rfl rfl (fun c185 => ?_) (fun c185 => ?_)
        · have b186 : B r181 (-4) 2147483647 := R_neL b181 (by decide : B (-5) (-5) (-5)) c185 (by decide)
          have z187 := w_ne c185
          rw [show ((-5) : Int32).toInt = (-5) from by decide] at z187
          refine ev_iload rfl rfl rfl ?_
          refine ev_iload_n rfl rfl rfl ?_
          refine ev_icmp_le rfl rfl (fun c190 => ?_) (fun c190 => ?_)
          · have z191 := w_le c190
            refine ev_iload_n rfl rfl rfl ?_
            refine ev_istore_n rfl rfl rfl rfl ?_
            dsimp only [List.set]
            refine ev_iincB (y := 1) (l := 1) (u := 24) rfl rfl rfl (by decide) rfl rfl b174 (by decide : B 1 1 1) (by decide) (by decide) (by decide) (by decide) (fun v195 b195 e195 => ?_)
            dsimp only [List.set]
            have e195x := e195; rw [show (1 : Int32).toInt = 1 from by decide] at e195x
            refine ev_goto rfl rfl ?_
            exact (EvQ.drop 5 (ih5 w161 v195 h181 b163 (b195.mono (by decide) (by decide)) hJ181 (rd_w k181 z167 rfl) (by have z0_ := congrArg Int32.toInt ef182; have z1_ := congrArg Int32.toInt (rd_w k181 z167 rfl); have z_ := w_lits; have zl_ := l_lits; omega) (L_up hm5 (e_p1 e195 (by decide)))))
          · have b192 : B r181 1 2147483647 := R_ltY b163 b186 (Int32.not_le.mp c190) (by decide)
            have b193 : B w161 0 2147483646 := R_ltX b163 b186 (Int32.not_le.mp c190) (by decide)
            have z194 := w_lt (Int32.not_le.mp c190)
            refine ev_iload rfl rfl rfl ?_
            refine ev_goto rfl rfl ?_
            refine ev_istore_n rfl rfl rfl rfl ?_
            dsimp only [List.set]
            refine ev_iincB (y := 1) (l := 1) (u := 24) rfl rfl rfl (by decide) rfl rfl b174 (by decide : B 1 1 1) (by decide) (by decide) (by decide) (by decide) (fun v196 b196 e196 => ?_)
            dsimp only [List.set]
            have e196x := e196; rw [show (1 : Int32).toInt = 1 from by decide] at e196x
            refine ev_goto rfl rfl ?_
            exact (EvQ.drop 5 (ih5 r181 v196 h181 (b192.mono (by decide) (by decide)) (b196.mono (by decide) (by decide)) hJ181 (rd_w k181 z167 rfl) (by have z0_ := congrArg Int32.toInt ef182; have z1_ := congrArg Int32.toInt (rd_w k181 z167 rfl); have z_ := w_lits; have zl_ := l_lits; omega) (L_up hm5 (e_p1 e196 (by decide)))))
        · have b188 : B r181 (-5) (-5) := R_eqX b181 (by decide : B (-5) (-5) (-5)) c185
          have z189 := congrArg Int32.toInt c185
          rw [show ((-5) : Int32).toInt = (-5) from by decide] at z189
          refine ev_bipush (v := (-100)) rfl rfl (by decide) ?_
          refine ev_iload rfl rfl rfl ?_
          refine ev_isubB (l := -123) (u := -100) rfl rfl (by decide : B (-100) (-100) (-100)) b174 (by decide) (by decide) (by decide) (by decide) (fun v197 b197 e197 g197 => ?_)
          have e197x := e197; rw [show ((-100) : Int32).toInt = (-100) from by decide] at e197x
          exact ev_iret rfl rfl rfl ⟨⟨_, rfl, ⟨(b197.mono (by decide) (by decide)), (by have z0_ := congrArg Int32.toInt ef182; have z1_ := congrArg Int32.toInt (rd_w k181 z167 rfl); have z_ := w_lits; have zl_ := l_lits; omega)⟩⟩, rfl, hJ181⟩
  exact (lp5_160 25 0 0 h ((by decide : B 0 0 0).mono (by decide) (by decide)) ((by decide : B 0 0 0).mono (by decide) (by decide)) hJ0 ef2 (by have z0_ := congrArg Int32.toInt ef1; have z1_ := congrArg Int32.toInt ef2; have z_ := w_lits; have zl_ := l_lits; omega) (L_init (by decide : B 0 0 0) (by decide)))

set_option maxRecDepth 100000 in
set_option maxHeartbeats 4000000 in
theorem w_X10_tried_63 (L : Nat) (b : Bool) (h : Hp) (hB : Bx h) (a0 : Int32) (p0 : B a0 0 5) (a1 : Int32) (rp0 : (h 63 0).toInt ≤ (h 63 3).toInt) : EvI mi_X10_tried [.ref 63, .int a0, .int a1] (G0 L b) h (fun (r : Int32) (z : Hp) => B r (-123) 2147483647 ∧ ((z 63 0).toInt ≤ (z 63 3).toInt)) [(63, 0), (63, 1), (63, 4)] := by
  refine EvM.of2 (lo := [some (.ref 63), some (.int a0), some (.int a1), none, none, none, none]) pf_X10_tried ok_X10_tried rfl rfl ?_
  have hJ0 : JW [(63, 0), (63, 1), (63, 4)] h h := JW.refl hB
  obtain ⟨f1, ef1⟩ : ∃ f_, h 63 0 = f_ := ⟨_, rfl⟩
  have bf1 : B f1 0 200 := by have z_ := hJ0.1 63 0; rw [ef1] at z_; exact z_
  have zf1 := congrArg Int32.toInt ef1
  obtain ⟨f2, ef2⟩ : ∃ f_, h 63 3 = f_ := ⟨_, rfl⟩
  have bf2 : B f2 0 200 := by have z_ := hJ0.1 63 3; rw [ef2] at z_; exact z_
  have zf2 := congrArg Int32.toInt ef2
  refine ev_aload_n rfl rfl rfl ?_
  refine ev_getV (v := f1) rfl rfl fl_X10_7 rfl rfl rfl ef1 ?_
  refine ev_istore_n rfl rfl rfl rfl ?_
  dsimp only [List.set]
  refine ev_aload_n rfl rfl rfl ?_
  refine ev_getW (l := (-2147483648)) (u := 2147483647) hJ0.1 rfl rfl rfl fl_X10_13 rfl rfl rfl (fun v3 b3 e3 => ?_)
  refine ev_istore rfl rfl rfl rfl ?_
  dsimp only [List.set]
  refine ev_aload_n rfl rfl rfl ?_
  refine ev_getW (l := (-2147483648)) (u := 2147483647) hJ0.1 rfl rfl rfl fl_X10_131 rfl rfl rfl (fun v4 b4 e4 => ?_)
  refine ev_istore rfl rfl rfl rfl ?_
  dsimp only [List.set]
  refine ev_aload_n rfl rfl rfl ?_
  refine ev_iload_n rfl rfl rfl ?_
  refine ev_iload_n rfl rfl rfl ?_
  have z5 := congrArg Int32.toInt ef1
  have z6 := congrArg Int32.toInt ef2
  refine ev_V2I hJ0 rfl rfl rfl lk_X10_279 vt_X10_goesAll rfl rfl rfl rfl rfl (w_X10_goesAll_63 L b h hJ0.1 a0 p0 a1 (by have z0_ := congrArg Int32.toInt ef1; have z1_ := congrArg Int32.toInt ef2; have z_ := w_lits; have zl_ := l_lits; omega)) (fun r7 h7 q7 hJ7 k7 => ?_)
  obtain ⟨b7, m7_0⟩ := q7
  obtain ⟨f8, ef8⟩ : ∃ f_, h7 63 0 = f_ := ⟨_, rfl⟩
  have bf8 : B f8 0 200 := by have z_ := hJ7.1 63 0; rw [ef8] at z_; exact z_
  have zf8 := congrArg Int32.toInt ef8
  have z9 := congrArg Int32.toInt ef8
  have z10 := congrArg Int32.toInt (rd_w k7 ef2 rfl)
  refine ev_istore rfl rfl rfl rfl ?_
  dsimp only [List.set]
  refine ev_aload_n rfl rfl rfl ?_
  refine ev_iload_n rfl rfl rfl ?_
  refine ev_putW (l := 0) (u := 200) hJ7 rfl bf1 (by decide) (by decide) rfl rfl rfl fl_X10_7 rfl rfl rfl rfl rfl (fun h11 hJ11 k11 => ?_)
  refine ev_aload_n rfl rfl rfl ?_
  refine ev_iload rfl rfl rfl ?_
  refine ev_putW (l := (-2147483648)) (u := 2147483647) hJ11 rfl (B.any v3) (by decide) (by decide) rfl rfl rfl fl_X10_13 rfl rfl rfl rfl rfl (fun h12 hJ12 k12 => ?_)
  refine ev_aload_n rfl rfl rfl ?_
  refine ev_iload rfl rfl rfl ?_
  refine ev_putW (l := (-2147483648)) (u := 2147483647) hJ12 rfl (B.any v4) (by decide) (by decide) rfl rfl rfl fl_X10_131 rfl rfl rfl rfl rfl (fun h13 hJ13 k13 => ?_)
  refine ev_iload rfl rfl rfl ?_
  exact ev_iret rfl rfl rfl ⟨⟨_, rfl, ⟨b7, (by have z0_ := congrArg Int32.toInt (rd_o k13 (rd_o k12 (rd_s k11) rfl) rfl); have z1_ := congrArg Int32.toInt (rd_o k13 (rd_o k12 (rd_o k11 (rd_w k7 ef2 rfl) rfl) rfl) rfl); have z_ := w_lits; have zl_ := l_lits; omega)⟩⟩, rfl, hJ13⟩

set_option maxRecDepth 100000 in
set_option maxHeartbeats 4000000 in
theorem w_X10_isIn_63 (L : Nat) (b : Bool) (h : Hp) (hB : Bx h) (a0 : Int32) (p0 : B a0 0 5) (a1 : Int32) : EvP mi_X10_isIn [.ref 63, .int a0, .int a1] (G0 L b) h (fun r : Int32 => B r 0 1) := by
  refine EvM.of2 (lo := [some (.ref 63), some (.int a0), some (.int a1), none, none, none]) pf_X10_isIn ok_X10_isIn rfl rfl ?_
  refine ev_aload_n rfl rfl rfl ?_
  refine ev_iload_n rfl rfl rfl ?_
  refine ev_V1P rfl rfl lk_X10_273 vt_X10_allOf rfl rfl rfl rfl rfl (w_X10_allOf_63 L b h hB a0 p0) (fun r1 q1 => ?_)
  refine ev_istore_n rfl rfl rfl rfl ?_
  dsimp only [List.set]
  refine ev_iconst (v := 1) rfl rfl (by decide) ?_
  refine ev_istore rfl rfl rfl rfl ?_
  dsimp only [List.set]
  refine ev_iconst (v := 0) rfl rfl (by decide) ?_
  refine ev_istore rfl rfl rfl rfl ?_
  dsimp only [List.set]
  have lp12_110 : ∀ (n : Nat) (w111 : Int32) (w112 : Int32), B w111 0 1 → B w112 0 12 → 12 + 1 - w112.toInt ≤ (n : Int) → EvQ mi_X10_isIn 12 [some (.ref 63), some (.int a0), some (.int a1), some (.int r1), some (.int w111), some (.int w112)] [] (G0 L b) h 0 0 (QP (fun r : Int32 => B r 0 1) (G0 L b) h) := by
    intro n
    induction n with
    | zero =>
      intro w111 w112 b113 b114 hm12
      exact absurd hm12 (L_zero b114 (by decide))
    | succ n ih12 =>
      intro w111 w112 b113 b114 hm12
      refine ev_iload rfl rfl rfl ?_
      refine ev_bipush (v := 12) rfl rfl (by decide) ?_
      refine ev_icmp_ge rfl rfl (fun c115 => ?_) (fun c115 => ?_)
      · have b116 : B w112 12 12 := R_leY (by decide : B 12 12 12) b114 c115 (by decide)
        refine ev_iload rfl rfl rfl ?_
        exact ev_iret rfl rfl (ev_rtB b113) ⟨⟨_, rfl, b113⟩, rfl, rfl⟩
      · have b117 : B w112 0 11 := R_ltX b114 (by decide : B 12 12 12) (Int32.not_le.mp c115) (by decide)
        refine ev_iload rfl rfl rfl ?_
        refine ev_if_eq rfl rfl (fun c118 => ?_) (fun c118 => ?_)
        · have b119 : B w111 0 0 := R_eqX b113 (by decide : B 0 0 0) c118
          refine ev_iconst (v := 0) rfl rfl (by decide) ?_
          refine ev_istore rfl rfl rfl rfl ?_
          dsimp only [List.set]
          refine ev_iincB (y := 1) (l := 1) (u := 12) rfl rfl rfl (by decide) rfl rfl b117 (by decide : B 1 1 1) (by decide) (by decide) (by decide) (by decide) (fun v121 b121 e121 => ?_)
          dsimp only [List.set]
          refine ev_goto rfl rfl ?_
          exact (ih12 0 v121 ((by decide : B 0 0 0).mono (by decide) (by decide)) (b121.mono (by decide) (by decide)) (L_up hm12 (e_p1 e121 (by decide))))
        · have b120 : B w111 1 1 := R_neL b113 (by decide : B 0 0 0) c118 (by decide)
          refine ev_iload_n rfl rfl rfl ?_
          refine ev_iload rfl rfl rfl ?_
          refine ev_ishrA rfl rfl (fun v122 => ?_)
          refine ev_iconst (v := 1) rfl rfl (by decide) ?_
          refine ev_iandB rfl rfl (by decide : B 1 1 1) (by decide) (fun v123 b123 e123 => ?_)
          refine ev_if_eq rfl rfl (fun c124 => ?_) (fun c124 => ?_)
          · have b125 : B v123 0 0 := R_eqX b123 (by decide : B 0 0 0) c124
            refine ev_iconst (v := 1) rfl rfl (by decide) ?_
            refine ev_goto rfl rfl ?_
            refine ev_istore rfl rfl rfl rfl ?_
            dsimp only [List.set]
            refine ev_iincB (y := 1) (l := 1) (u := 12) rfl rfl rfl (by decide) rfl rfl b117 (by decide : B 1 1 1) (by decide) (by decide) (by decide) (by decide) (fun v127 b127 e127 => ?_)
            dsimp only [List.set]
            refine ev_goto rfl rfl ?_
            exact (ih12 1 v127 ((by decide : B 1 1 1).mono (by decide) (by decide)) (b127.mono (by decide) (by decide)) (L_up hm12 (e_p1 e127 (by decide))))
          · have b126 : B v123 1 1 := R_neL b123 (by decide : B 0 0 0) c124 (by decide)
            refine ev_aload_n rfl rfl rfl ?_
            refine ev_iload rfl rfl rfl ?_
            refine ev_iload_n rfl rfl rfl ?_
            refine ev_iaddA rfl rfl (fun v128 g128 => ?_)
            refine ev_V1P rfl rfl lk_X10_169 vt_X10_isWhistle rfl rfl rfl rfl rfl (w_X10_isWhistle_63 L b h hB v128) (fun r129 q129 => ?_)
            obtain ⟨b129, p129_0⟩ := q129
            refine ev_if_eq rfl rfl (fun c130 => ?_) (fun c130 => ?_)
            · have b131 : B r129 0 0 := R_eqX b129 (by decide : B 0 0 0) c130
              refine ev_iconst (v := 0) rfl rfl (by decide) ?_
              refine ev_istore rfl rfl rfl rfl ?_
              dsimp only [List.set]
              refine ev_iincB (y := 1) (l := 1) (u := 12) rfl rfl rfl (by decide) rfl rfl b117 (by decide : B 1 1 1) (by decide) (by decide) (by decide) (by decide) (fun v134 b134 e134 => ?_)
              dsimp only [List.set]
              refine ev_goto rfl rfl ?_
              exact (ih12 0 v134 ((by decide : B 0 0 0).mono (by decide) (by decide)) (b134.mono (by decide) (by decide)) (L_up hm12 (e_p1 e134 (by decide))))
            · have b132 : B r129 1 1 := R_neL b129 (by decide : B 0 0 0) c130 (by decide)
              have b133 : B v128 0 11 := p129_0 c130
              refine ev_iconst (v := 1) rfl rfl (by decide) ?_
              refine ev_goto rfl rfl ?_
              refine ev_istore rfl rfl rfl rfl ?_
              dsimp only [List.set]
              refine ev_iincB (y := 1) (l := 1) (u := 12) rfl rfl rfl (by decide) rfl rfl b117 (by decide : B 1 1 1) (by decide) (by decide) (by decide) (by decide) (fun v135 b135 e135 => ?_)
              dsimp only [List.set]
              refine ev_goto rfl rfl ?_
              exact (ih12 1 v135 ((by decide : B 1 1 1).mono (by decide) (by decide)) (b135.mono (by decide) (by decide)) (L_up hm12 (e_p1 e135 (by decide))))
  exact (lp12_110 13 1 0 ((by decide : B 1 1 1).mono (by decide) (by decide)) ((by decide : B 0 0 0).mono (by decide) (by decide)) (L_init (by decide : B 0 0 0) (by decide)))

set_option maxRecDepth 100000 in
set_option maxHeartbeats 4000000 in
theorem w_X10_play_63 (L : Nat) (b : Bool) (h : Hp) (hB : Bx h) (a0 : Int32) (a1 : Int32) (rp0 : (h 63 0).toInt ≤ (h 63 3).toInt) (hKS : KS h) : EvI mi_X10_play [.ref 63, .int a0, .int a1] (G0 L b) h (fun (r : Int32) (z : Hp) => B r (-123) 2147483647 ∧ ((z 63 0).toInt ≤ (z 63 3).toInt) ∧ (KS z)) [(63, 0), (63, 1), (63, 4), (63, 13), (71, 999)] := by
  refine EvM.of2 (lo := [some (.ref 63), some (.int a0), some (.int a1)]) pf_X10_play ok_X10_play rfl rfl ?_
  have hJ0 : JW [(63, 0), (63, 1), (63, 4), (63, 13), (71, 999)] h h := JW.refl hB
  obtain ⟨f1, ef1⟩ : ∃ f_, h 63 0 = f_ := ⟨_, rfl⟩
  have bf1 : B f1 0 200 := by have z_ := hJ0.1 63 0; rw [ef1] at z_; exact z_
  have zf1 := congrArg Int32.toInt ef1
  obtain ⟨f2, ef2⟩ : ∃ f_, h 63 3 = f_ := ⟨_, rfl⟩
  have bf2 : B f2 0 200 := by have z_ := hJ0.1 63 3; rw [ef2] at z_; exact z_
  have zf2 := congrArg Int32.toInt ef2
  refine ev_aload_n rfl rfl rfl ?_
  refine ev_iload_n rfl rfl rfl ?_
  refine ev_V1P rfl rfl lk_X10_266 vt_X10_isTune rfl rfl rfl rfl rfl (w_X10_isTune_63 L b h hJ0.1 a0) (fun r3 q3 => ?_)
  obtain ⟨b3, p3_0⟩ := q3
  refine ev_if_eq rfl rfl (fun c4 => ?_) (fun c4 => ?_)
  · have b5 : B r3 0 0 := R_eqX b3 (by decide : B 0 0 0) c4
    have z6 := congrArg Int32.toInt c4
    rw [show (0 : Int32).toInt = 0 from by decide] at z6
    refine ev_iconst (v := (-1)) rfl rfl (by decide) ?_
    exact ev_iret rfl rfl rfl ⟨⟨_, rfl, ⟨((by decide : B (-1) (-1) (-1)).mono (by decide) (by decide)), (by have z0_ := congrArg Int32.toInt ef1; have z1_ := congrArg Int32.toInt ef2; have z_ := w_lits; have zl_ := l_lits; omega), hKS⟩⟩, rfl, hJ0⟩
  · have b7 : B r3 1 1 := R_neL b3 (by decide : B 0 0 0) c4 (by decide)
    have b8 : B a0 0 5 := p3_0 c4
    have z9 := w_ne c4
    rw [show (0 : Int32).toInt = 0 from by decide] at z9
    refine ev_iload_n rfl rfl rfl ?_
    refine ev_i2l rfl rfl ?_
    have z10 := Int32.toInt_toInt64 a1
    have z10b := B.any a1
    refine ev_ldc2 (v := (-11)) rfl rfl kc_X10_282 ?_
    refine ev_ldc2 (v := 11) rfl rfl kc_X10_284 ?_
    have z11 := congrArg Int32.toInt ef1
    have z12 := congrArg Int32.toInt ef2
    refine ev_S3P rfl rfl lk_X10_124 st_X10_in rfl rfl (w_inR (G0 L b) h a1 (-11) 11 (by decide : BL (-11) (-11) (-11)) (by decide : BL 11 11 11)) (fun r13 q13 => ?_)
    obtain ⟨b13, p13_0, pp13_0, pp13_1⟩ := q13
    refine ev_if_ne rfl rfl (fun c14 => ?_) (fun c14 => ?_)
    · have b15 : B r13 1 1 := R_neL b13 (by decide : B 0 0 0) c14 (by decide)
      have b16 : B a1 (-11) 11 := p13_0 c14
      have z17 := w_ne c14
      rw [show (0 : Int32).toInt = 0 from by decide] at z17
      refine ev_aload_n rfl rfl rfl ?_
      refine ev_iload_n rfl rfl rfl ?_
      refine ev_iload_n rfl rfl rfl ?_
      refine ev_V2P rfl rfl lk_X10_286 vt_X10_isIn rfl rfl rfl rfl rfl (w_X10_isIn_63 L b h hJ0.1 a0 b8 a1) (fun r20 q20 => ?_)
      refine ev_if_ne rfl rfl (fun c21 => ?_) (fun c21 => ?_)
      · have b22 : B r20 1 1 := R_neL q20 (by decide : B 0 0 0) c21 (by decide)
        have z23 := w_ne c21
        rw [show (0 : Int32).toInt = 0 from by decide] at z23
        refine ev_aload_n rfl rfl rfl ?_
        refine ev_iload_n rfl rfl rfl ?_
        refine ev_iload_n rfl rfl rfl ?_
        have z26 := congrArg Int32.toInt ef1
        have z27 := congrArg Int32.toInt ef2
        refine ev_V2I hJ0 rfl rfl rfl lk_X10_290 vt_X10_tried rfl rfl rfl rfl rfl (w_X10_tried_63 L b h hJ0.1 a0 b8 a1 (by have z0_ := congrArg Int32.toInt ef1; have z1_ := congrArg Int32.toInt ef2; have z_ := w_lits; have zl_ := l_lits; omega)) (fun r28 h28 q28 hJ28 k28 => ?_)
        obtain ⟨b28, m28_0⟩ := q28
        obtain ⟨f29, ef29⟩ : ∃ f_, h28 63 0 = f_ := ⟨_, rfl⟩
        have bf29 : B f29 0 200 := by have z_ := hJ28.1 63 0; rw [ef29] at z_; exact z_
        have zf29 := congrArg Int32.toInt ef29
        have z30 := congrArg Int32.toInt ef29
        have z31 := congrArg Int32.toInt (rd_w k28 ef2 rfl)
        refine ev_bipush (v := (-100)) rfl rfl (by decide) ?_
        refine ev_icmp_ne rfl rfl (fun c32 => ?_) (fun c32 => ?_)
        · have z33 := w_ne c32
          rw [show ((-100) : Int32).toInt = (-100) from by decide] at z33
          refine ev_aload_n rfl rfl rfl ?_
          have z36 := congrArg Int32.toInt ef29
          have z37 := congrArg Int32.toInt (rd_w k28 ef2 rfl)
          refine ev_V0K hJ28 rfl rfl rfl lk_X10_136 vt_X10_keeps rfl rfl rfl rfl rfl (w_X10_keeps_63 L b h28 hJ28.1 (by have z0_ := congrArg Int32.toInt ef29; have z1_ := congrArg Int32.toInt (rd_w k28 ef2 rfl); have z_ := w_lits; have zl_ := l_lits; omega) (KS.call hKS k28 (fun _ => rfl))) (fun h38 hJ38 k38 m38 => ?_)
          have z39 := congrArg Int32.toInt (rd_w k38 ef29 rfl)
          have z40 := congrArg Int32.toInt (rd_w k38 (rd_w k28 ef2 rfl) rfl)
          refine ev_aload_n rfl rfl rfl ?_
          refine ev_iload_n rfl rfl rfl ?_
          refine ev_iload_n rfl rfl rfl ?_
          have z41 := congrArg Int32.toInt (rd_w k38 ef29 rfl)
          have z42 := congrArg Int32.toInt (rd_w k38 (rd_w k28 ef2 rfl) rfl)
          refine ev_V2I hJ38 rfl rfl rfl lk_X10_279 vt_X10_goesAll rfl rfl rfl rfl rfl (w_X10_goesAll_63 L b h38 hJ38.1 a0 b8 a1 (by have z0_ := congrArg Int32.toInt (rd_w k38 ef29 rfl); have z1_ := congrArg Int32.toInt (rd_w k38 (rd_w k28 ef2 rfl) rfl); have z_ := w_lits; have zl_ := l_lits; omega)) (fun r43 h43 q43 hJ43 k43 => ?_)
          obtain ⟨b43, m43_0⟩ := q43
          obtain ⟨f44, ef44⟩ : ∃ f_, h43 63 0 = f_ := ⟨_, rfl⟩
          have bf44 : B f44 0 200 := by have z_ := hJ43.1 63 0; rw [ef44] at z_; exact z_
          have zf44 := congrArg Int32.toInt ef44
          have z45 := congrArg Int32.toInt ef44
          have z46 := congrArg Int32.toInt (rd_w k43 (rd_w k38 (rd_w k28 ef2 rfl) rfl) rfl)
          exact ev_iret rfl rfl rfl ⟨⟨_, rfl, ⟨b43, (by have z0_ := congrArg Int32.toInt ef44; have z1_ := congrArg Int32.toInt (rd_w k43 (rd_w k38 (rd_w k28 ef2 rfl) rfl) rfl); have z_ := w_lits; have zl_ := l_lits; omega), (KS.call m38 k43 (fun _ => rfl))⟩⟩, rfl, hJ43⟩
        · have b34 : B r28 (-100) (-100) := R_eqX b28 (by decide : B (-100) (-100) (-100)) c32
          have z35 := congrArg Int32.toInt c32
          rw [show ((-100) : Int32).toInt = (-100) from by decide] at z35
          refine ev_bipush (v := (-100)) rfl rfl (by decide) ?_
          exact ev_iret rfl rfl rfl ⟨⟨_, rfl, ⟨((by decide : B (-100) (-100) (-100)).mono (by decide) (by decide)), (by have z0_ := congrArg Int32.toInt ef29; have z1_ := congrArg Int32.toInt (rd_w k28 ef2 rfl); have z_ := w_lits; have zl_ := l_lits; omega), (KS.call hKS k28 (fun _ => rfl))⟩⟩, rfl, hJ28⟩
      · have b24 : B r20 0 0 := R_eqX q20 (by decide : B 0 0 0) c21
        have z25 := congrArg Int32.toInt c21
        rw [show (0 : Int32).toInt = 0 from by decide] at z25
        refine ev_bipush (v := (-2)) rfl rfl (by decide) ?_
        exact ev_iret rfl rfl rfl ⟨⟨_, rfl, ⟨((by decide : B (-2) (-2) (-2)).mono (by decide) (by decide)), (by have z0_ := congrArg Int32.toInt ef1; have z1_ := congrArg Int32.toInt ef2; have z_ := w_lits; have zl_ := l_lits; omega), hKS⟩⟩, rfl, hJ0⟩
    · have b18 : B r13 0 0 := R_eqX b13 (by decide : B 0 0 0) c14
      have z19 := congrArg Int32.toInt c14
      rw [show (0 : Int32).toInt = 0 from by decide] at z19
      refine ev_iconst (v := (-1)) rfl rfl (by decide) ?_
      exact ev_iret rfl rfl rfl ⟨⟨_, rfl, ⟨((by decide : B (-1) (-1) (-1)).mono (by decide) (by decide)), (by have z0_ := congrArg Int32.toInt ef1; have z1_ := congrArg Int32.toInt ef2; have z_ := w_lits; have zl_ := l_lits; omega), hKS⟩⟩, rfl, hJ0⟩

set_option maxRecDepth 100000 in
set_option maxHeartbeats 4000000 in
theorem w_X10_would_63 (L : Nat) (b : Bool) (h : Hp) (hB : Bx h) (a0 : Int32) (a1 : Int32) (rp0 : (h 63 0).toInt ≤ (h 63 3).toInt) : EvI mi_X10_would [.ref 63, .int a0, .int a1] (G0 L b) h (fun (r : Int32) (z : Hp) => B r (-123) 2147483647 ∧ ((z 63 0).toInt ≤ (z 63 3).toInt)) [(63, 0), (63, 1), (63, 4)] := by
  refine EvM.of2 (lo := [some (.ref 63), some (.int a0), some (.int a1)]) pf_X10_would ok_X10_would rfl rfl ?_
  have hJ0 : JW [(63, 0), (63, 1), (63, 4)] h h := JW.refl hB
  obtain ⟨f1, ef1⟩ : ∃ f_, h 63 0 = f_ := ⟨_, rfl⟩
  have bf1 : B f1 0 200 := by have z_ := hJ0.1 63 0; rw [ef1] at z_; exact z_
  have zf1 := congrArg Int32.toInt ef1
  obtain ⟨f2, ef2⟩ : ∃ f_, h 63 3 = f_ := ⟨_, rfl⟩
  have bf2 : B f2 0 200 := by have z_ := hJ0.1 63 3; rw [ef2] at z_; exact z_
  have zf2 := congrArg Int32.toInt ef2
  refine ev_aload_n rfl rfl rfl ?_
  refine ev_iload_n rfl rfl rfl ?_
  refine ev_V1P rfl rfl lk_X10_266 vt_X10_isTune rfl rfl rfl rfl rfl (w_X10_isTune_63 L b h hJ0.1 a0) (fun r3 q3 => ?_)
  obtain ⟨b3, p3_0⟩ := q3
  refine ev_if_eq rfl rfl (fun c4 => ?_) (fun c4 => ?_)
  · have b5 : B r3 0 0 := R_eqX b3 (by decide : B 0 0 0) c4
    have z6 := congrArg Int32.toInt c4
    rw [show (0 : Int32).toInt = 0 from by decide] at z6
    refine ev_iconst (v := (-1)) rfl rfl (by decide) ?_
    exact ev_iret rfl rfl rfl ⟨⟨_, rfl, ⟨((by decide : B (-1) (-1) (-1)).mono (by decide) (by decide)), (by have z0_ := congrArg Int32.toInt ef1; have z1_ := congrArg Int32.toInt ef2; have z_ := w_lits; have zl_ := l_lits; omega)⟩⟩, rfl, hJ0⟩
  · have b7 : B r3 1 1 := R_neL b3 (by decide : B 0 0 0) c4 (by decide)
    have b8 : B a0 0 5 := p3_0 c4
    have z9 := w_ne c4
    rw [show (0 : Int32).toInt = 0 from by decide] at z9
    refine ev_iload_n rfl rfl rfl ?_
    refine ev_i2l rfl rfl ?_
    have z10 := Int32.toInt_toInt64 a1
    have z10b := B.any a1
    refine ev_ldc2 (v := (-11)) rfl rfl kc_X10_282 ?_
    refine ev_ldc2 (v := 11) rfl rfl kc_X10_284 ?_
    have z11 := congrArg Int32.toInt ef1
    have z12 := congrArg Int32.toInt ef2
    refine ev_S3P rfl rfl lk_X10_124 st_X10_in rfl rfl (w_inR (G0 L b) h a1 (-11) 11 (by decide : BL (-11) (-11) (-11)) (by decide : BL 11 11 11)) (fun r13 q13 => ?_)
    obtain ⟨b13, p13_0, pp13_0, pp13_1⟩ := q13
    refine ev_if_ne rfl rfl (fun c14 => ?_) (fun c14 => ?_)
    · have b15 : B r13 1 1 := R_neL b13 (by decide : B 0 0 0) c14 (by decide)
      have b16 : B a1 (-11) 11 := p13_0 c14
      have z17 := w_ne c14
      rw [show (0 : Int32).toInt = 0 from by decide] at z17
      refine ev_aload_n rfl rfl rfl ?_
      refine ev_iload_n rfl rfl rfl ?_
      refine ev_iload_n rfl rfl rfl ?_
      refine ev_V2P rfl rfl lk_X10_286 vt_X10_isIn rfl rfl rfl rfl rfl (w_X10_isIn_63 L b h hJ0.1 a0 b8 a1) (fun r20 q20 => ?_)
      refine ev_if_eq rfl rfl (fun c21 => ?_) (fun c21 => ?_)
      · have b22 : B r20 0 0 := R_eqX q20 (by decide : B 0 0 0) c21
        have z23 := congrArg Int32.toInt c21
        rw [show (0 : Int32).toInt = 0 from by decide] at z23
        refine ev_bipush (v := (-2)) rfl rfl (by decide) ?_
        exact ev_iret rfl rfl rfl ⟨⟨_, rfl, ⟨((by decide : B (-2) (-2) (-2)).mono (by decide) (by decide)), (by have z0_ := congrArg Int32.toInt ef1; have z1_ := congrArg Int32.toInt ef2; have z_ := w_lits; have zl_ := l_lits; omega)⟩⟩, rfl, hJ0⟩
      · have b24 : B r20 1 1 := R_neL q20 (by decide : B 0 0 0) c21 (by decide)
        have z25 := w_ne c21
        rw [show (0 : Int32).toInt = 0 from by decide] at z25
        refine ev_aload_n rfl rfl rfl ?_
        refine ev_iload_n rfl rfl rfl ?_
        refine ev_iload_n rfl rfl rfl ?_
        have z26 := congrArg Int32.toInt ef1
        have z27 := congrArg Int32.toInt ef2
        refine ev_V2I hJ0 rfl rfl rfl lk_X10_290 vt_X10_tried rfl rfl rfl rfl rfl (w_X10_tried_63 L b h hJ0.1 a0 b8 a1 (by have z0_ := congrArg Int32.toInt ef1; have z1_ := congrArg Int32.toInt ef2; have z_ := w_lits; have zl_ := l_lits; omega)) (fun r28 h28 q28 hJ28 k28 => ?_)
        obtain ⟨b28, m28_0⟩ := q28
        obtain ⟨f29, ef29⟩ : ∃ f_, h28 63 0 = f_ := ⟨_, rfl⟩
        have bf29 : B f29 0 200 := by have z_ := hJ28.1 63 0; rw [ef29] at z_; exact z_
        have zf29 := congrArg Int32.toInt ef29
        have z30 := congrArg Int32.toInt ef29
        have z31 := congrArg Int32.toInt (rd_w k28 ef2 rfl)
        refine ev_goto rfl rfl ?_
        exact ev_iret rfl rfl rfl ⟨⟨_, rfl, ⟨b28, (by have z0_ := congrArg Int32.toInt ef29; have z1_ := congrArg Int32.toInt (rd_w k28 ef2 rfl); have z_ := w_lits; have zl_ := l_lits; omega)⟩⟩, rfl, hJ28⟩
    · have b18 : B r13 0 0 := R_eqX b13 (by decide : B 0 0 0) c14
      have z19 := congrArg Int32.toInt c14
      rw [show (0 : Int32).toInt = 0 from by decide] at z19
      refine ev_iconst (v := (-1)) rfl rfl (by decide) ?_
      exact ev_iret rfl rfl rfl ⟨⟨_, rfl, ⟨((by decide : B (-1) (-1) (-1)).mono (by decide) (by decide)), (by have z0_ := congrArg Int32.toInt ef1; have z1_ := congrArg Int32.toInt ef2; have z_ := w_lits; have zl_ := l_lits; omega)⟩⟩, rfl, hJ0⟩

set_option maxRecDepth 100000 in
set_option maxHeartbeats 4000000 in
theorem w_X10_key_63 (L : Nat) (b : Bool) (h : Hp) (hB : Bx h) (a0 : Int32) (a1 : Int32) (rp0 : (h 63 0).toInt ≤ (h 63 3).toInt) : EvI mi_X10_key [.ref 63, .int a0, .int a1] (G0 L b) h (fun (r : Int32) (z : Hp) => B r (-2147483648) 2147483647 ∧ ((z 63 0).toInt ≤ (z 63 3).toInt)) [(63, 0), (63, 1), (63, 4)] := by
  refine EvM.of2 (lo := [some (.ref 63), some (.int a0), some (.int a1), none, none, none, none, none, none]) pf_X10_key ok_X10_key rfl rfl ?_
  have hJ0 : JW [(63, 0), (63, 1), (63, 4)] h h := JW.refl hB
  obtain ⟨f1, ef1⟩ : ∃ f_, h 63 0 = f_ := ⟨_, rfl⟩
  have bf1 : B f1 0 200 := by have z_ := hJ0.1 63 0; rw [ef1] at z_; exact z_
  have zf1 := congrArg Int32.toInt ef1
  obtain ⟨f2, ef2⟩ : ∃ f_, h 63 3 = f_ := ⟨_, rfl⟩
  have bf2 : B f2 0 200 := by have z_ := hJ0.1 63 3; rw [ef2] at z_; exact z_
  have zf2 := congrArg Int32.toInt ef2
  refine ev_aload_n rfl rfl rfl ?_
  refine ev_iload_n rfl rfl rfl ?_
  refine ev_V1P rfl rfl lk_X10_266 vt_X10_isTune rfl rfl rfl rfl rfl (w_X10_isTune_63 L b h hJ0.1 a0) (fun r3 q3 => ?_)
  obtain ⟨b3, p3_0⟩ := q3
  refine ev_if_eq rfl rfl (fun c4 => ?_) (fun c4 => ?_)
  · have b5 : B r3 0 0 := R_eqX b3 (by decide : B 0 0 0) c4
    have z6 := congrArg Int32.toInt c4
    rw [show (0 : Int32).toInt = 0 from by decide] at z6
    refine ev_bipush (v := (-100)) rfl rfl (by decide) ?_
    exact ev_iret rfl rfl rfl ⟨⟨_, rfl, ⟨((by decide : B (-100) (-100) (-100)).mono (by decide) (by decide)), (by have z0_ := congrArg Int32.toInt ef1; have z1_ := congrArg Int32.toInt ef2; have z_ := w_lits; have zl_ := l_lits; omega)⟩⟩, rfl, hJ0⟩
  · have b7 : B r3 1 1 := R_neL b3 (by decide : B 0 0 0) c4 (by decide)
    have b8 : B a0 0 5 := p3_0 c4
    have z9 := w_ne c4
    rw [show (0 : Int32).toInt = 0 from by decide] at z9
    refine ev_iload_n rfl rfl rfl ?_
    refine ev_i2l rfl rfl ?_
    have z10 := Int32.toInt_toInt64 a1
    have z10b := B.any a1
    refine ev_lconst (v := 0) rfl rfl rfl ?_
    refine ev_ldc2 (v := 2) rfl rfl kc_X10_183 ?_
    have z11 := congrArg Int32.toInt ef1
    have z12 := congrArg Int32.toInt ef2
    refine ev_S3P rfl rfl lk_X10_124 st_X10_in rfl rfl (w_inR (G0 L b) h a1 0 2 (by decide : BL 0 0 0) (by decide : BL 2 2 2)) (fun r13 q13 => ?_)
    obtain ⟨b13, p13_0, pp13_0, pp13_1⟩ := q13
    refine ev_if_ne rfl rfl (fun c14 => ?_) (fun c14 => ?_)
    · have b15 : B r13 1 1 := R_neL b13 (by decide : B 0 0 0) c14 (by decide)
      have b16 : B a1 0 2 := p13_0 c14
      have z17 := w_ne c14
      rw [show (0 : Int32).toInt = 0 from by decide] at z17
      refine ev_bipush (v := (-104)) rfl rfl (by decide) ?_
      refine ev_istore_n rfl rfl rfl rfl ?_
      dsimp only [List.set]
      refine ev_iconst (v := 0) rfl rfl (by decide) ?_
      refine ev_istore rfl rfl rfl rfl ?_
      dsimp only [List.set]
      refine ev_iconst (v := 0) rfl rfl (by decide) ?_
      refine ev_istore rfl rfl rfl rfl ?_
      dsimp only [List.set]
      refine ev_iconst (v := 0) rfl rfl (by decide) ?_
      refine ev_istore rfl rfl rfl rfl ?_
      dsimp only [List.set]
      have lp35_942 : ∀ (n : Nat) (w943 : Int32) (w944 : Int32) (w945 : Int32) (w946 : Int32) (h949 : Hp), B w944 0 2147483647 → B w946 0 23 → JW [(63, 0), (63, 1), (63, 4)] h h949 → (h949 63 3 = f2) → ((h949 63 0).toInt ≤ (h949 63 3).toInt) → 23 + 1 - w946.toInt ≤ (n : Int) → EvQ mi_X10_key 35 [some (.ref 63), some (.int a0), some (.int a1), some (.int w943), some (.int w944), some (.int w945), some (.int w946), none, none] [] (G0 L b) h949 0 0 (QI (fun (r : Int32) (z : Hp) => B r (-2147483648) 2147483647 ∧ ((z 63 0).toInt ≤ (z 63 3).toInt)) [(63, 0), (63, 1), (63, 4)] (G0 L b) h) := by
        intro n
        induction n with
        | zero =>
          intro w943 w944 w945 w946 h949 b947 b948 hJ950 z951 y35_0 hm35
          exact absurd hm35 (L_zero b948 (by decide))
        | succ n ih35 =>
          intro w943 w944 w945 w946 h949 b947 b948 hJ950 z951 y35_0 hm35
          obtain ⟨f952, ef952⟩ : ∃ f_, h949 63 0 = f_ := ⟨_, rfl⟩
          have bf952 : B f952 0 200 := by have z_ := hJ950.1 63 0; rw [ef952] at z_; exact z_
          have zf952 := congrArg Int32.toInt ef952
          have z953 := congrArg Int32.toInt ef952
          have z954 := congrArg Int32.toInt z951
          refine ev_iload rfl rfl rfl ?_
          refine ev_bipush (v := 23) rfl rfl (by decide) ?_
          refine ev_icmp_ge rfl rfl (fun c955 => ?_) (fun c955 => ?_)
          · have b956 : B w946 23 23 := R_leY (by decide : B 23 23 23) b948 c955 (by decide)
            have z957 := w_le c955
            rw [show (23 : Int32).toInt = 23 from by decide] at z957
            refine ev_iload_n rfl rfl rfl ?_
            refine ev_iconst (v := 2) rfl rfl (by decide) ?_
            refine ev_icmp_ne rfl rfl (fun c960 => ?_) (fun c960 => ?_)
            · have b961 : B a1 0 1 := R_neU b16 (by decide : B 2 2 2) c960 (by decide)
              have z962 := w_ne c960
              rw [show (2 : Int32).toInt = 2 from by decide] at z962
              refine ev_iload_n rfl rfl rfl ?_
              refine ev_bipush (v := (-104)) rfl rfl (by decide) ?_
              refine ev_icmp_ne rfl rfl (fun c965 => ?_) (fun c965 => ?_)
              · have z966 := w_ne c965
                rw [show ((-104) : Int32).toInt = (-104) from by decide] at z966
                refine ev_iload_n rfl rfl rfl ?_
                refine ev_if_ne rfl rfl (fun c969 => ?_) (fun c969 => ?_)
                · have b970 : B a1 1 1 := R_neL b961 (by decide : B 0 0 0) c969 (by decide)
                  have z971 := w_ne c969
                  rw [show (0 : Int32).toInt = 0 from by decide] at z971
                  refine ev_iload rfl rfl rfl ?_
                  exact ev_iret rfl rfl rfl ⟨⟨_, rfl, ⟨(b947.mono (by decide) (by decide)), (by have z0_ := congrArg Int32.toInt ef952; have z1_ := congrArg Int32.toInt z951; have z_ := w_lits; have zl_ := l_lits; omega)⟩⟩, rfl, hJ950⟩
                · have b972 : B a1 0 0 := R_eqX b961 (by decide : B 0 0 0) c969
                  have z973 := congrArg Int32.toInt c969
                  rw [show (0 : Int32).toInt = 0 from by decide] at z973
                  refine ev_iload_n rfl rfl rfl ?_
                  refine ev_goto rfl rfl ?_
                  exact ev_iret rfl rfl rfl ⟨⟨_, rfl, ⟨(B.any w943), (by have z0_ := congrArg Int32.toInt ef952; have z1_ := congrArg Int32.toInt z951; have z_ := w_lits; have zl_ := l_lits; omega)⟩⟩, rfl, hJ950⟩
              · have b967 : B w943 (-104) (-104) := R_eqX (B.any w943) (by decide : B (-104) (-104) (-104)) c965
                have z968 := congrArg Int32.toInt c965
                rw [show ((-104) : Int32).toInt = (-104) from by decide] at z968
                refine ev_bipush (v := (-104)) rfl rfl (by decide) ?_
                refine ev_goto rfl rfl ?_
                exact ev_iret rfl rfl rfl ⟨⟨_, rfl, ⟨((by decide : B (-104) (-104) (-104)).mono (by decide) (by decide)), (by have z0_ := congrArg Int32.toInt ef952; have z1_ := congrArg Int32.toInt z951; have z_ := w_lits; have zl_ := l_lits; omega)⟩⟩, rfl, hJ950⟩
            · have b963 : B a1 2 2 := R_eqX b16 (by decide : B 2 2 2) c960
              have z964 := congrArg Int32.toInt c960
              rw [show (2 : Int32).toInt = 2 from by decide] at z964
              refine ev_iload rfl rfl rfl ?_
              refine ev_goto rfl rfl ?_
              exact ev_iret rfl rfl rfl ⟨⟨_, rfl, ⟨(B.any w945), (by have z0_ := congrArg Int32.toInt ef952; have z1_ := congrArg Int32.toInt z951; have z_ := w_lits; have zl_ := l_lits; omega)⟩⟩, rfl, hJ950⟩
          · have b958 : B w946 0 22 := R_ltX b948 (by decide : B 23 23 23) (Int32.not_le.mp c955) (by decide)
            have z959 := w_lt (Int32.not_le.mp c955)
            rw [show (23 : Int32).toInt = 23 from by decide] at z959
            refine ev_iload rfl rfl rfl ?_
            refine ev_iconst (v := 2) rfl rfl (by decide) ?_
            refine ev_iremB (u := 1) rfl rfl b958 (by decide : B 2 2 2) (by decide) (by decide) (by decide) (by decide) (fun v974 b974 => ?_)
            refine ev_iconst (v := 1) rfl rfl (by decide) ?_
            refine ev_icmp_ne rfl rfl (fun c975 => ?_) (fun c975 => ?_)
            · have b976 : B v974 0 0 := R_neU b974 (by decide : B 1 1 1) c975 (by decide)
              have z977 := w_ne c975
              rw [show (1 : Int32).toInt = 1 from by decide] at z977
              refine ev_iload rfl rfl rfl ?_
              refine ev_iconst (v := 2) rfl rfl (by decide) ?_
              refine ev_idivA (by decide : B 2 2 2) (by decide) rfl rfl (fun v980 => ?_)
              refine ev_istore rfl rfl rfl rfl ?_
              dsimp only [List.set]
              refine ev_aload_n rfl rfl rfl ?_
              refine ev_iload_n rfl rfl rfl ?_
              refine ev_iload rfl rfl rfl ?_
              refine ev_V2P rfl rfl lk_X10_286 vt_X10_isIn rfl rfl rfl rfl rfl (w_X10_isIn_63 L b h949 hJ950.1 a0 b8 v980) (fun r981 q981 => ?_)
              refine ev_if_eq rfl rfl (fun c982 => ?_) (fun c982 => ?_)
              · have b983 : B r981 0 0 := R_eqX q981 (by decide : B 0 0 0) c982
                have z984 := congrArg Int32.toInt c982
                rw [show (0 : Int32).toInt = 0 from by decide] at z984
                refine ev_iincB (y := 1) (l := 1) (u := 23) rfl rfl rfl (by decide) rfl rfl b958 (by decide : B 1 1 1) (by decide) (by decide) (by decide) (by decide) (fun v987 b987 e987 => ?_)
                dsimp only [List.set]
                have e987x := e987; rw [show (1 : Int32).toInt = 1 from by decide] at e987x
                refine ev_goto rfl rfl ?_
                exact (EvQ.drop 7 (ih35 w943 w944 w945 v987 h949 b947 (b987.mono (by decide) (by decide)) hJ950 z951 (by have z0_ := congrArg Int32.toInt ef952; have z1_ := congrArg Int32.toInt z951; have z_ := w_lits; have zl_ := l_lits; omega) (L_up hm35 (e_p1 e987 (by decide)))))
              · have b985 : B r981 1 1 := R_neL q981 (by decide : B 0 0 0) c982 (by decide)
                have z986 := w_ne c982
                rw [show (0 : Int32).toInt = 0 from by decide] at z986
                refine ev_iincA rfl rfl rfl rfl rfl (fun v988 => ?_)
                dsimp only [List.set]
                refine ev_aload_n rfl rfl rfl ?_
                refine ev_iload_n rfl rfl rfl ?_
                refine ev_iload rfl rfl rfl ?_
                have z989 := congrArg Int32.toInt ef952
                have z990 := congrArg Int32.toInt z951
                refine ev_V2I hJ950 rfl rfl rfl lk_X10_290 vt_X10_tried rfl rfl rfl rfl rfl (w_X10_tried_63 L b h949 hJ950.1 a0 b8 v980 (by have z0_ := congrArg Int32.toInt ef952; have z1_ := congrArg Int32.toInt z951; have z_ := w_lits; have zl_ := l_lits; omega)) (fun r991 h991 q991 hJ991 k991 => ?_)
                obtain ⟨b991, m991_0⟩ := q991
                obtain ⟨f992, ef992⟩ : ∃ f_, h991 63 0 = f_ := ⟨_, rfl⟩
                have bf992 : B f992 0 200 := by have z_ := hJ991.1 63 0; rw [ef992] at z_; exact z_
                have zf992 := congrArg Int32.toInt ef992
                have z993 := congrArg Int32.toInt ef992
                have z994 := congrArg Int32.toInt (rd_w k991 z951 rfl)
                refine ev_istore rfl rfl rfl rfl ?_
                dsimp only [List.set]
                refine ev_iload rfl rfl rfl ?_
                refine ev_if_lt rfl rfl (fun c995 => ?_) (fun c995 => ?_)
                · have b996 : B r991 (-123) (-1) := R_ltX b991 (by decide : B 0 0 0) c995 (by decide)
                  have z997 := w_lt c995
                  rw [show (0 : Int32).toInt = 0 from by decide] at z997
                  refine ev_iincB (y := 1) (l := 1) (u := 23) rfl rfl rfl (by decide) rfl rfl b958 (by decide : B 1 1 1) (by decide) (by decide) (by decide) (by decide) (fun v1000 b1000 e1000 => ?_)
                  dsimp only [List.set]
                  have e1000x := e1000; rw [show (1 : Int32).toInt = 1 from by decide] at e1000x
                  refine ev_goto rfl rfl ?_
                  exact (EvQ.drop 8 (EvQ.drop 7 (ih35 w943 w944 v988 v1000 h991 b947 (b1000.mono (by decide) (by decide)) hJ991 (rd_w k991 z951 rfl) (by have z0_ := congrArg Int32.toInt ef992; have z1_ := congrArg Int32.toInt (rd_w k991 z951 rfl); have z_ := w_lits; have zl_ := l_lits; omega) (L_up hm35 (e_p1 e1000 (by decide))))))
                · have b998 : B r991 0 2147483647 := R_leY (by decide : B 0 0 0) b991 (Int32.not_lt.mp c995) (by decide)
                  have z999 := w_le (Int32.not_lt.mp c995)
                  rw [show (0 : Int32).toInt = 0 from by decide] at z999
                  refine ev_iload_n rfl rfl rfl ?_
                  refine ev_bipush (v := (-104)) rfl rfl (by decide) ?_
                  refine ev_icmp_eq rfl rfl (fun c1001 => ?_) (fun c1001 => ?_)
                  · have b1002 : B w943 (-104) (-104) := R_eqX (B.any w943) (by decide : B (-104) (-104) (-104)) c1001
                    have z1003 := congrArg Int32.toInt c1001
                    rw [show ((-104) : Int32).toInt = (-104) from by decide] at z1003
                    refine ev_iload rfl rfl rfl ?_
                    refine ev_istore_n rfl rfl rfl rfl ?_
                    dsimp only [List.set]
                    refine ev_iload rfl rfl rfl ?_
                    refine ev_istore rfl rfl rfl rfl ?_
                    dsimp only [List.set]
                    refine ev_iincB (y := 1) (l := 1) (u := 23) rfl rfl rfl (by decide) rfl rfl b958 (by decide : B 1 1 1) (by decide) (by decide) (by decide) (by decide) (fun v1005 b1005 e1005 => ?_)
                    dsimp only [List.set]
                    have e1005x := e1005; rw [show (1 : Int32).toInt = 1 from by decide] at e1005x
                    refine ev_goto rfl rfl ?_
                    exact (EvQ.drop 8 (EvQ.drop 7 (ih35 v980 r991 v988 v1005 h991 b998 (b1005.mono (by decide) (by decide)) hJ991 (rd_w k991 z951 rfl) (by have z0_ := congrArg Int32.toInt ef992; have z1_ := congrArg Int32.toInt (rd_w k991 z951 rfl); have z_ := w_lits; have zl_ := l_lits; omega) (L_up hm35 (e_p1 e1005 (by decide))))))
                  · have z1004 := w_ne c1001
                    rw [show ((-104) : Int32).toInt = (-104) from by decide] at z1004
                    refine ev_iload rfl rfl rfl ?_
                    refine ev_iload rfl rfl rfl ?_
                    refine ev_icmp_ge rfl rfl (fun c1006 => ?_) (fun c1006 => ?_)
                    · have z1007 := w_le c1006
                      refine ev_iincB (y := 1) (l := 1) (u := 23) rfl rfl rfl (by decide) rfl rfl b958 (by decide : B 1 1 1) (by decide) (by decide) (by decide) (by decide) (fun v1011 b1011 e1011 => ?_)
                      dsimp only [List.set]
                      have e1011x := e1011; rw [show (1 : Int32).toInt = 1 from by decide] at e1011x
                      refine ev_goto rfl rfl ?_
                      exact (EvQ.drop 8 (EvQ.drop 7 (ih35 w943 w944 v988 v1011 h991 b947 (b1011.mono (by decide) (by decide)) hJ991 (rd_w k991 z951 rfl) (by have z0_ := congrArg Int32.toInt ef992; have z1_ := congrArg Int32.toInt (rd_w k991 z951 rfl); have z_ := w_lits; have zl_ := l_lits; omega) (L_up hm35 (e_p1 e1011 (by decide))))))
                    · have b1008 : B r991 0 2147483646 := R_ltX b998 b947 (Int32.not_le.mp c1006) (by decide)
                      have b1009 : B w944 1 2147483647 := R_ltY b998 b947 (Int32.not_le.mp c1006) (by decide)
                      have z1010 := w_lt (Int32.not_le.mp c1006)
                      refine ev_iload rfl rfl rfl ?_
                      refine ev_istore_n rfl rfl rfl rfl ?_
                      dsimp only [List.set]
                      refine ev_iload rfl rfl rfl ?_
                      refine ev_istore rfl rfl rfl rfl ?_
                      dsimp only [List.set]
                      refine ev_iincB (y := 1) (l := 1) (u := 23) rfl rfl rfl (by decide) rfl rfl b958 (by decide : B 1 1 1) (by decide) (by decide) (by decide) (by decide) (fun v1012 b1012 e1012 => ?_)
                      dsimp only [List.set]
                      have e1012x := e1012; rw [show (1 : Int32).toInt = 1 from by decide] at e1012x
                      refine ev_goto rfl rfl ?_
                      exact (EvQ.drop 8 (EvQ.drop 7 (ih35 v980 r991 v988 v1012 h991 (b1008.mono (by decide) (by decide)) (b1012.mono (by decide) (by decide)) hJ991 (rd_w k991 z951 rfl) (by have z0_ := congrArg Int32.toInt ef992; have z1_ := congrArg Int32.toInt (rd_w k991 z951 rfl); have z_ := w_lits; have zl_ := l_lits; omega) (L_up hm35 (e_p1 e1012 (by decide))))))
            · have b978 : B v974 1 1 := R_eqX b974 (by decide : B 1 1 1) c975
              have z979 := congrArg Int32.toInt c975
              rw [show (1 : Int32).toInt = 1 from by decide] at z979
              refine ev_iload rfl rfl rfl ?_
              refine ev_iconst (v := 1) rfl rfl (by decide) ?_
              refine ev_iaddB (l := 1) (u := 23) rfl rfl b958 (by decide : B 1 1 1) (by decide) (by decide) (by decide) (by decide) (fun v1013 b1013 e1013 g1013 => ?_)
              have e1013x := e1013; rw [show (1 : Int32).toInt = 1 from by decide] at e1013x
              refine ev_inegB (l := -23) (u := -1) rfl rfl b1013 (by decide) (by decide) (by decide) (fun v1014 b1014 => ?_)
              refine ev_iconst (v := 2) rfl rfl (by decide) ?_
              refine ev_idivA (by decide : B 2 2 2) (by decide) rfl rfl (fun v1015 => ?_)
              refine ev_goto rfl rfl ?_
              refine ev_istore rfl rfl rfl rfl ?_
              dsimp only [List.set]
              refine ev_aload_n rfl rfl rfl ?_
              refine ev_iload_n rfl rfl rfl ?_
              refine ev_iload rfl rfl rfl ?_
              refine ev_V2P rfl rfl lk_X10_286 vt_X10_isIn rfl rfl rfl rfl rfl (w_X10_isIn_63 L b h949 hJ950.1 a0 b8 v1015) (fun r1016 q1016 => ?_)
              refine ev_if_eq rfl rfl (fun c1017 => ?_) (fun c1017 => ?_)
              · have b1018 : B r1016 0 0 := R_eqX q1016 (by decide : B 0 0 0) c1017
                have z1019 := congrArg Int32.toInt c1017
                rw [show (0 : Int32).toInt = 0 from by decide] at z1019
                refine ev_iincB (y := 1) (l := 1) (u := 23) rfl rfl rfl (by decide) rfl rfl b958 (by decide : B 1 1 1) (by decide) (by decide) (by decide) (by decide) (fun v1022 b1022 e1022 => ?_)
                dsimp only [List.set]
                have e1022x := e1022; rw [show (1 : Int32).toInt = 1 from by decide] at e1022x
                refine ev_goto rfl rfl ?_
                exact (EvQ.drop 7 (ih35 w943 w944 w945 v1022 h949 b947 (b1022.mono (by decide) (by decide)) hJ950 z951 (by have z0_ := congrArg Int32.toInt ef952; have z1_ := congrArg Int32.toInt z951; have z_ := w_lits; have zl_ := l_lits; omega) (L_up hm35 (e_p1 e1022 (by decide)))))
              · have b1020 : B r1016 1 1 := R_neL q1016 (by decide : B 0 0 0) c1017 (by decide)
                have z1021 := w_ne c1017
                rw [show (0 : Int32).toInt = 0 from by decide] at z1021
                refine ev_iincA rfl rfl rfl rfl rfl (fun v1023 => ?_)
                dsimp only [List.set]
                refine ev_aload_n rfl rfl rfl ?_
                refine ev_iload_n rfl rfl rfl ?_
                refine ev_iload rfl rfl rfl ?_
                have z1024 := congrArg Int32.toInt ef952
                have z1025 := congrArg Int32.toInt z951
                refine ev_V2I hJ950 rfl rfl rfl lk_X10_290 vt_X10_tried rfl rfl rfl rfl rfl (w_X10_tried_63 L b h949 hJ950.1 a0 b8 v1015 (by have z0_ := congrArg Int32.toInt ef952; have z1_ := congrArg Int32.toInt z951; have z_ := w_lits; have zl_ := l_lits; omega)) (fun r1026 h1026 q1026 hJ1026 k1026 => ?_)
                obtain ⟨b1026, m1026_0⟩ := q1026
                obtain ⟨f1027, ef1027⟩ : ∃ f_, h1026 63 0 = f_ := ⟨_, rfl⟩
                have bf1027 : B f1027 0 200 := by have z_ := hJ1026.1 63 0; rw [ef1027] at z_; exact z_
                have zf1027 := congrArg Int32.toInt ef1027
                have z1028 := congrArg Int32.toInt ef1027
                have z1029 := congrArg Int32.toInt (rd_w k1026 z951 rfl)
                refine ev_istore rfl rfl rfl rfl ?_
                dsimp only [List.set]
                refine ev_iload rfl rfl rfl ?_
                refine ev_if_lt rfl rfl (fun c1030 => ?_) (fun c1030 => ?_)
                · have b1031 : B r1026 (-123) (-1) := R_ltX b1026 (by decide : B 0 0 0) c1030 (by decide)
                  have z1032 := w_lt c1030
                  rw [show (0 : Int32).toInt = 0 from by decide] at z1032
                  refine ev_iincB (y := 1) (l := 1) (u := 23) rfl rfl rfl (by decide) rfl rfl b958 (by decide : B 1 1 1) (by decide) (by decide) (by decide) (by decide) (fun v1035 b1035 e1035 => ?_)
                  dsimp only [List.set]
                  have e1035x := e1035; rw [show (1 : Int32).toInt = 1 from by decide] at e1035x
                  refine ev_goto rfl rfl ?_
                  exact (EvQ.drop 8 (EvQ.drop 7 (ih35 w943 w944 v1023 v1035 h1026 b947 (b1035.mono (by decide) (by decide)) hJ1026 (rd_w k1026 z951 rfl) (by have z0_ := congrArg Int32.toInt ef1027; have z1_ := congrArg Int32.toInt (rd_w k1026 z951 rfl); have z_ := w_lits; have zl_ := l_lits; omega) (L_up hm35 (e_p1 e1035 (by decide))))))
                · have b1033 : B r1026 0 2147483647 := R_leY (by decide : B 0 0 0) b1026 (Int32.not_lt.mp c1030) (by decide)
                  have z1034 := w_le (Int32.not_lt.mp c1030)
                  rw [show (0 : Int32).toInt = 0 from by decide] at z1034
                  refine ev_iload_n rfl rfl rfl ?_
                  refine ev_bipush (v := (-104)) rfl rfl (by decide) ?_
                  refine ev_icmp_eq rfl rfl (fun c1036 => ?_) (fun c1036 => ?_)
                  · have b1037 : B w943 (-104) (-104) := R_eqX (B.any w943) (by decide : B (-104) (-104) (-104)) c1036
                    have z1038 := congrArg Int32.toInt c1036
                    rw [show ((-104) : Int32).toInt = (-104) from by decide] at z1038
                    refine ev_iload rfl rfl rfl ?_
                    refine ev_istore_n rfl rfl rfl rfl ?_
                    dsimp only [List.set]
                    refine ev_iload rfl rfl rfl ?_
                    refine ev_istore rfl rfl rfl rfl ?_
                    dsimp only [List.set]
                    refine ev_iincB (y := 1) (l := 1) (u := 23) rfl rfl rfl (by decide) rfl rfl b958 (by decide : B 1 1 1) (by decide) (by decide) (by decide) (by decide) (fun v1040 b1040 e1040 => ?_)
                    dsimp only [List.set]
                    have e1040x := e1040; rw [show (1 : Int32).toInt = 1 from by decide] at e1040x
                    refine ev_goto rfl rfl ?_
                    exact (EvQ.drop 8 (EvQ.drop 7 (ih35 v1015 r1026 v1023 v1040 h1026 b1033 (b1040.mono (by decide) (by decide)) hJ1026 (rd_w k1026 z951 rfl) (by have z0_ := congrArg Int32.toInt ef1027; have z1_ := congrArg Int32.toInt (rd_w k1026 z951 rfl); have z_ := w_lits; have zl_ := l_lits; omega) (L_up hm35 (e_p1 e1040 (by decide))))))
                  · have z1039 := w_ne c1036
                    rw [show ((-104) : Int32).toInt = (-104) from by decide] at z1039
                    refine ev_iload rfl rfl rfl ?_
                    refine ev_iload rfl rfl rfl ?_
                    refine ev_icmp_ge rfl rfl (fun c1041 => ?_) (fun c1041 => ?_)
                    · have z1042 := w_le c1041
                      refine ev_iincB (y := 1) (l := 1) (u := 23) rfl rfl rfl (by decide) rfl rfl b958 (by decide : B 1 1 1) (by decide) (by decide) (by decide) (by decide) (fun v1046 b1046 e1046 => ?_)
                      dsimp only [List.set]
                      have e1046x := e1046; rw [show (1 : Int32).toInt = 1 from by decide] at e1046x
                      refine ev_goto rfl rfl ?_
                      exact (EvQ.drop 8 (EvQ.drop 7 (ih35 w943 w944 v1023 v1046 h1026 b947 (b1046.mono (by decide) (by decide)) hJ1026 (rd_w k1026 z951 rfl) (by have z0_ := congrArg Int32.toInt ef1027; have z1_ := congrArg Int32.toInt (rd_w k1026 z951 rfl); have z_ := w_lits; have zl_ := l_lits; omega) (L_up hm35 (e_p1 e1046 (by decide))))))
                    · have b1043 : B r1026 0 2147483646 := R_ltX b1033 b947 (Int32.not_le.mp c1041) (by decide)
                      have b1044 : B w944 1 2147483647 := R_ltY b1033 b947 (Int32.not_le.mp c1041) (by decide)
                      have z1045 := w_lt (Int32.not_le.mp c1041)
                      refine ev_iload rfl rfl rfl ?_
                      refine ev_istore_n rfl rfl rfl rfl ?_
                      dsimp only [List.set]
                      refine ev_iload rfl rfl rfl ?_
                      refine ev_istore rfl rfl rfl rfl ?_
                      dsimp only [List.set]
                      refine ev_iincB (y := 1) (l := 1) (u := 23) rfl rfl rfl (by decide) rfl rfl b958 (by decide : B 1 1 1) (by decide) (by decide) (by decide) (by decide) (fun v1047 b1047 e1047 => ?_)
                      dsimp only [List.set]
                      have e1047x := e1047; rw [show (1 : Int32).toInt = 1 from by decide] at e1047x
                      refine ev_goto rfl rfl ?_
                      exact (EvQ.drop 8 (EvQ.drop 7 (ih35 v1015 r1026 v1023 v1047 h1026 (b1043.mono (by decide) (by decide)) (b1047.mono (by decide) (by decide)) hJ1026 (rd_w k1026 z951 rfl) (by have z0_ := congrArg Int32.toInt ef1027; have z1_ := congrArg Int32.toInt (rd_w k1026 z951 rfl); have z_ := w_lits; have zl_ := l_lits; omega) (L_up hm35 (e_p1 e1047 (by decide))))))
      exact (lp35_942 24 (-104) 0 0 0 h ((by decide : B 0 0 0).mono (by decide) (by decide)) ((by decide : B 0 0 0).mono (by decide) (by decide)) hJ0 ef2 (by have z0_ := congrArg Int32.toInt ef1; have z1_ := congrArg Int32.toInt ef2; have z_ := w_lits; have zl_ := l_lits; omega) (L_init (by decide : B 0 0 0) (by decide)))
    · have b18 : B r13 0 0 := R_eqX b13 (by decide : B 0 0 0) c14
      have z19 := congrArg Int32.toInt c14
      rw [show (0 : Int32).toInt = 0 from by decide] at z19
      refine ev_bipush (v := (-100)) rfl rfl (by decide) ?_
      exact ev_iret rfl rfl rfl ⟨⟨_, rfl, ⟨((by decide : B (-100) (-100) (-100)).mono (by decide) (by decide)), (by have z0_ := congrArg Int32.toInt ef1; have z1_ := congrArg Int32.toInt ef2; have z_ := w_lits; have zl_ := l_lits; omega)⟩⟩, rfl, hJ0⟩
