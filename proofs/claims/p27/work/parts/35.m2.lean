set_option maxRecDepth 100000 in
set_option maxHeartbeats 4000000 in
theorem w_X10_keeps_63 (L : Nat) (b : Bool) (h : Hp) (hB : Bx h)  : EvN mi_X10_keeps [.ref 63] (G0 L b) h [(63, 13), (71, 999)] := by
  refine EvM.of2 (lo := [some (.ref 63), none, none]) pf_X10_keeps ok_X10_keeps rfl rfl ?_
  have hJ0 : JW [(63, 13), (71, 999)] h h := JW.refl hB
  obtain ⟨f1, ef1⟩ : ∃ f_, h 63 13 = f_ := ⟨_, rfl⟩
  have bf1 : B f1 0 10 := by have z_ := hJ0.1 63 13; rw [ef1] at z_; exact z_
  have zf1 := congrArg Int32.toInt ef1
  refine ev_aload_n rfl rfl rfl ?_
  refine ev_getV (v := f1) rfl rfl fl_X10_128 rfl rfl rfl ef1 ?_
  refine ev_bipush (v := 10) rfl rfl (by decide) ?_
  refine ev_icmp_ne rfl rfl (fun c2 => ?_) (fun c2 => ?_)
  · have b3 : B f1 0 9 := R_neU bf1 (by decide : B 10 10 10) c2 (by decide)
    have z4 := w_ne c2
    rw [show (10 : Int32).toInt = 10 from by decide] at z4
    refine ev_bipush (v := 42) rfl rfl (by decide) ?_
    refine ev_aload_n rfl rfl rfl ?_
    refine ev_getV (v := f1) rfl rfl fl_X10_128 rfl rfl rfl ef1 ?_
    refine ev_imulB (l := 0) (u := 378) rfl rfl (by decide : B 42 42 42) b3 (by decide) (by decide) (by decide) (by decide) (by decide) (fun v7 b7 e7 g7 => ?_)
    rw [show (42 : Int32).toInt = 42 from by decide] at e7
    refine ev_istore_n rfl rfl rfl rfl ?_
    dsimp only [List.set]
    refine ev_aload_n rfl rfl rfl ?_
    refine ev_getR (y := 71) rfl rfl fl_X10_45 rfl rfl rfl rfl ?_
    refine ev_iload_n rfl rfl rfl ?_
    refine ev_aload_n rfl rfl rfl ?_
    refine ev_getW (l := 0) (u := 200) hJ0.1 rfl rfl rfl fl_X10_7 rfl rfl rfl (fun v8 b8 e8 => ?_)
    refine ev_iasG (n := 420) hJ0 b7 (by decide) (by decide) (kb_put (c := 0) (by have z0_ := congrArg Int32.toInt ef1; have z_ := w_lits; have zl_ := l_lits; omega) b8) (fun _ => rfl) rfl rfl rfl rfl (fun h9 hJ9 k9 => ?_)
    refine ev_aload_n rfl rfl rfl ?_
    refine ev_getR (y := 71) rfl rfl fl_X10_45 rfl rfl rfl rfl ?_
    refine ev_iload_n rfl rfl rfl ?_
    refine ev_iconst (v := 1) rfl rfl (by decide) ?_
    refine ev_iaddB (l := 1) (u := 379) rfl rfl b7 (by decide : B 1 1 1) (by decide) (by decide) (by decide) (by decide) (fun v10 b10 e10 g10 => ?_)
    have e10x := e10; rw [show (1 : Int32).toInt = 1 from by decide] at e10x
    refine ev_aload_n rfl rfl rfl ?_
    refine ev_getW (l := (-2147483648)) (u := 2147483647) hJ9.1 rfl rfl rfl fl_X10_13 rfl rfl rfl (fun v11 b11 e11 => ?_)
    refine ev_iasG (n := 420) hJ9 b10 (by decide) (by decide) (kb_put (c := 1) (by have z0_ := congrArg Int32.toInt (rd_a k9 ef1 rfl); have z_ := w_lits; have zl_ := l_lits; omega) (B.any v11)) (fun _ => rfl) rfl rfl rfl rfl (fun h12 hJ12 k12 => ?_)
    refine ev_aload_n rfl rfl rfl ?_
    refine ev_getR (y := 71) rfl rfl fl_X10_45 rfl rfl rfl rfl ?_
    refine ev_iload_n rfl rfl rfl ?_
    refine ev_iconst (v := 2) rfl rfl (by decide) ?_
    refine ev_iaddB (l := 2) (u := 380) rfl rfl b7 (by decide : B 2 2 2) (by decide) (by decide) (by decide) (by decide) (fun v13 b13 e13 g13 => ?_)
    have e13x := e13; rw [show (2 : Int32).toInt = 2 from by decide] at e13x
    refine ev_aload_n rfl rfl rfl ?_
    refine ev_getW (l := (-2147483648)) (u := 2147483647) hJ12.1 rfl rfl rfl fl_X10_16 rfl rfl rfl (fun v14 b14 e14 => ?_)
    refine ev_iasG (n := 420) hJ12 b13 (by decide) (by decide) (kb_put (c := 2) (by have z0_ := congrArg Int32.toInt (rd_a k12 (rd_a k9 ef1 rfl) rfl); have z_ := w_lits; have zl_ := l_lits; omega) (B.any v14)) (fun _ => rfl) rfl rfl rfl rfl (fun h15 hJ15 k15 => ?_)
    refine ev_aload_n rfl rfl rfl ?_
    refine ev_getR (y := 71) rfl rfl fl_X10_45 rfl rfl rfl rfl ?_
    refine ev_iload_n rfl rfl rfl ?_
    refine ev_iconst (v := 3) rfl rfl (by decide) ?_
    refine ev_iaddB (l := 3) (u := 381) rfl rfl b7 (by decide : B 3 3 3) (by decide) (by decide) (by decide) (by decide) (fun v16 b16 e16 g16 => ?_)
    have e16x := e16; rw [show (3 : Int32).toInt = 3 from by decide] at e16x
    refine ev_aload_n rfl rfl rfl ?_
    refine ev_getW (l := 0) (u := 200) hJ15.1 rfl rfl rfl fl_X10_19 rfl rfl rfl (fun v17 b17 e17 => ?_)
    refine ev_iasG (n := 420) hJ15 b16 (by decide) (by decide) (kb_put (c := 3) (by have z0_ := congrArg Int32.toInt (rd_a k15 (rd_a k12 (rd_a k9 ef1 rfl) rfl) rfl); have z_ := w_lits; have zl_ := l_lits; omega) b17) (fun _ => rfl) rfl rfl rfl rfl (fun h18 hJ18 k18 => ?_)
    refine ev_aload_n rfl rfl rfl ?_
    refine ev_getR (y := 71) rfl rfl fl_X10_45 rfl rfl rfl rfl ?_
    refine ev_iload_n rfl rfl rfl ?_
    refine ev_iconst (v := 4) rfl rfl (by decide) ?_
    refine ev_iaddB (l := 4) (u := 382) rfl rfl b7 (by decide : B 4 4 4) (by decide) (by decide) (by decide) (by decide) (fun v19 b19 e19 g19 => ?_)
    have e19x := e19; rw [show (4 : Int32).toInt = 4 from by decide] at e19x
    refine ev_aload_n rfl rfl rfl ?_
    refine ev_getW (l := (-2147483648)) (u := 2147483647) hJ18.1 rfl rfl rfl fl_X10_131 rfl rfl rfl (fun v20 b20 e20 => ?_)
    refine ev_iasG (n := 420) hJ18 b19 (by decide) (by decide) (kb_put (c := 4) (by have z0_ := congrArg Int32.toInt (rd_a k18 (rd_a k15 (rd_a k12 (rd_a k9 ef1 rfl) rfl) rfl) rfl); have z_ := w_lits; have zl_ := l_lits; omega) (B.any v20)) (fun _ => rfl) rfl rfl rfl rfl (fun h21 hJ21 k21 => ?_)
    refine ev_aload_n rfl rfl rfl ?_
    refine ev_getR (y := 71) rfl rfl fl_X10_45 rfl rfl rfl rfl ?_
    refine ev_iload_n rfl rfl rfl ?_
    refine ev_iconst (v := 5) rfl rfl (by decide) ?_
    refine ev_iaddB (l := 5) (u := 383) rfl rfl b7 (by decide : B 5 5 5) (by decide) (by decide) (by decide) (by decide) (fun v22 b22 e22 g22 => ?_)
    have e22x := e22; rw [show (5 : Int32).toInt = 5 from by decide] at e22x
    refine ev_aload_n rfl rfl rfl ?_
    refine ev_getW (l := 0) (u := 12) hJ21.1 rfl rfl rfl fl_X10_121 rfl rfl rfl (fun v23 b23 e23 => ?_)
    refine ev_iasG (n := 420) hJ21 b22 (by decide) (by decide) (kb_put (c := 5) (by have z0_ := congrArg Int32.toInt (rd_a k21 (rd_a k18 (rd_a k15 (rd_a k12 (rd_a k9 ef1 rfl) rfl) rfl) rfl) rfl); have z_ := w_lits; have zl_ := l_lits; omega) b23) (fun _ => rfl) rfl rfl rfl rfl (fun h24 hJ24 k24 => ?_)
    refine ev_iconst (v := 0) rfl rfl (by decide) ?_
    refine ev_istore_n rfl rfl rfl rfl ?_
    dsimp only [List.set]
    have lp130_151 : ∀ (n : Nat) (w152 : Int32) (h154 : Hp), B w152 0 12 → JW [(63, 13), (71, 999)] h h154 → (h154 63 13 = f1) → (h154 63 0 = v8) → (h154 63 1 = v11) → (h154 63 2 = v14) → (h154 63 3 = v17) → (h154 63 4 = v20) → (h154 63 5 = v23) → 12 + 1 - w152.toInt ≤ (n : Int) → EvQ mi_X10_keeps 130 [some (.ref 63), some (.int v7), some (.int w152)] [] (G0 L b) h154 0 0 (QN [(63, 13), (71, 999)] (G0 L b) h) := by
      intro n
      induction n with
      | zero =>
        intro w152 h154 b153 hJ155 z156 z157 z158 z159 z160 z161 z162 hm130
        exact absurd hm130 (L_zero b153 (by decide))
      | succ n ih130 =>
        intro w152 h154 b153 hJ155 z156 z157 z158 z159 z160 z161 z162 hm130
        have z163 := congrArg Int32.toInt z156
        refine ev_iload_n rfl rfl rfl ?_
        refine ev_bipush (v := 12) rfl rfl (by decide) ?_
        refine ev_icmp_ge rfl rfl (fun c164 => ?_) (fun c164 => ?_)
        · have b165 : B w152 12 12 := R_leY (by decide : B 12 12 12) b153 c164 (by decide)
          have z166 := w_le c164
          rw [show (12 : Int32).toInt = 12 from by decide] at z166
          refine ev_aload_n rfl rfl rfl ?_
          refine ev_dup rfl rfl rfl ?_
          refine ev_getV (v := f1) rfl rfl fl_X10_128 rfl rfl rfl z156 ?_
          refine ev_iconst (v := 1) rfl rfl (by decide) ?_
          refine ev_iaddB (l := 1) (u := 10) rfl rfl b3 (by decide : B 1 1 1) (by decide) (by decide) (by decide) (by decide) (fun v169 b169 e169 g169 => ?_)
          have e169x := e169; rw [show (1 : Int32).toInt = 1 from by decide] at e169x
          refine ev_putW (l := 0) (u := 10) hJ155 rfl b169 (by decide) (by decide) rfl rfl rfl fl_X10_128 rfl rfl rfl rfl rfl (fun h170 hJ170 k170 => ?_)
          exact ev_vret rfl rfl trivial ⟨rfl, rfl, hJ170⟩
        · have b167 : B w152 0 11 := R_ltX b153 (by decide : B 12 12 12) (Int32.not_le.mp c164) (by decide)
          have z168 := w_lt (Int32.not_le.mp c164)
          rw [show (12 : Int32).toInt = 12 from by decide] at z168
          refine ev_aload_n rfl rfl rfl ?_
          refine ev_getR (y := 71) rfl rfl fl_X10_45 rfl rfl rfl rfl ?_
          refine ev_iload_n rfl rfl rfl ?_
          refine ev_bipush (v := 6) rfl rfl (by decide) ?_
          refine ev_iaddB (l := 6) (u := 384) rfl rfl b7 (by decide : B 6 6 6) (by decide) (by decide) (by decide) (by decide) (fun v171 b171 e171 g171 => ?_)
          have e171x := e171; rw [show (6 : Int32).toInt = 6 from by decide] at e171x
          refine ev_iload_n rfl rfl rfl ?_
          refine ev_iaddB (l := 6) (u := 395) rfl rfl b171 b167 (by decide) (by decide) (by decide) (by decide) (fun v172 b172 e172 g172 => ?_)
          refine ev_aload_n rfl rfl rfl ?_
          refine ev_getR (y := 68) rfl rfl fl_X10_36 rfl rfl rfl rfl ?_
          refine ev_iload_n rfl rfl rfl ?_
          refine ev_ialW (n := 12) (l := (-2147483648)) (u := 2147483647) hJ155.1 b167 (by decide) (by decide) (fun _ => rfl) rfl rfl rfl (fun v173 b173 e173 => ?_)
          refine ev_iasG (n := 420) hJ155 b172 (by decide) (by decide) (kb_putA (by have z0_ := congrArg Int32.toInt z156; have z_ := w_lits; have zl_ := l_lits; omega)) (fun _ => rfl) rfl rfl rfl rfl (fun h174 hJ174 k174 => ?_)
          refine ev_aload_n rfl rfl rfl ?_
          refine ev_getR (y := 71) rfl rfl fl_X10_45 rfl rfl rfl rfl ?_
          refine ev_iload_n rfl rfl rfl ?_
          refine ev_bipush (v := 18) rfl rfl (by decide) ?_
          refine ev_iaddB (l := 18) (u := 396) rfl rfl b7 (by decide : B 18 18 18) (by decide) (by decide) (by decide) (by decide) (fun v175 b175 e175 g175 => ?_)
          have e175x := e175; rw [show (18 : Int32).toInt = 18 from by decide] at e175x
          refine ev_iload_n rfl rfl rfl ?_
          refine ev_iaddB (l := 18) (u := 407) rfl rfl b175 b167 (by decide) (by decide) (by decide) (by decide) (fun v176 b176 e176 g176 => ?_)
          refine ev_aload_n rfl rfl rfl ?_
          refine ev_getR (y := 69) rfl rfl fl_X10_39 rfl rfl rfl rfl ?_
          refine ev_iload_n rfl rfl rfl ?_
          refine ev_ialW (n := 12) (l := (-2147483648)) (u := 2147483647) hJ174.1 b167 (by decide) (by decide) (fun _ => rfl) rfl rfl rfl (fun v177 b177 e177 => ?_)
          refine ev_iasG (n := 420) hJ174 b176 (by decide) (by decide) (kb_putA (by have z0_ := congrArg Int32.toInt (rd_a k174 z156 rfl); have z_ := w_lits; have zl_ := l_lits; omega)) (fun _ => rfl) rfl rfl rfl rfl (fun h178 hJ178 k178 => ?_)
          refine ev_aload_n rfl rfl rfl ?_
          refine ev_getR (y := 71) rfl rfl fl_X10_45 rfl rfl rfl rfl ?_
          refine ev_iload_n rfl rfl rfl ?_
          refine ev_bipush (v := 30) rfl rfl (by decide) ?_
          refine ev_iaddB (l := 30) (u := 408) rfl rfl b7 (by decide : B 30 30 30) (by decide) (by decide) (by decide) (by decide) (fun v179 b179 e179 g179 => ?_)
          have e179x := e179; rw [show (30 : Int32).toInt = 30 from by decide] at e179x
          refine ev_iload_n rfl rfl rfl ?_
          refine ev_iaddB (l := 30) (u := 419) rfl rfl b179 b167 (by decide) (by decide) (by decide) (by decide) (fun v180 b180 e180 g180 => ?_)
          refine ev_aload_n rfl rfl rfl ?_
          refine ev_getR (y := 70) rfl rfl fl_X10_42 rfl rfl rfl rfl ?_
          refine ev_iload_n rfl rfl rfl ?_
          refine ev_zalW (n := 12) (l := (-2147483648)) (u := 2147483647) hJ178.1 b167 (by decide) (by decide) (fun _ => rfl) rfl rfl rfl (fun v181 b181 e181 => ?_)
          refine ev_if_eq rfl rfl (fun c182 => ?_) (fun c182 => ?_)
          · have b183 : B v181 0 0 := R_eqX (B.any v181) (by decide : B 0 0 0) c182
            have z184 := congrArg Int32.toInt c182
            rw [show (0 : Int32).toInt = 0 from by decide] at z184
            refine ev_iconst (v := 0) rfl rfl (by decide) ?_
            refine ev_iasG (n := 420) hJ178 b180 (by decide) (by decide) (kb_putA (by have z0_ := congrArg Int32.toInt (rd_a k178 (rd_a k174 z156 rfl) rfl); have z_ := w_lits; have zl_ := l_lits; omega)) (fun _ => rfl) rfl rfl rfl rfl (fun h186 hJ186 k186 => ?_)
            refine ev_iincB (y := 1) (l := 1) (u := 12) rfl rfl rfl (by decide) rfl rfl b167 (by decide : B 1 1 1) (by decide) (by decide) (by decide) (by decide) (fun v187 b187 e187 => ?_)
            dsimp only [List.set]
            have e187x := e187; rw [show (1 : Int32).toInt = 1 from by decide] at e187x
            refine ev_goto rfl rfl ?_
            exact (ih130 v187 h186 (b187.mono (by decide) (by decide)) hJ186 (rd_a k186 (rd_a k178 (rd_a k174 z156 rfl) rfl) rfl) (rd_a k186 (rd_a k178 (rd_a k174 z157 rfl) rfl) rfl) (rd_a k186 (rd_a k178 (rd_a k174 z158 rfl) rfl) rfl) (rd_a k186 (rd_a k178 (rd_a k174 z159 rfl) rfl) rfl) (rd_a k186 (rd_a k178 (rd_a k174 z160 rfl) rfl) rfl) (rd_a k186 (rd_a k178 (rd_a k174 z161 rfl) rfl) rfl) (rd_a k186 (rd_a k178 (rd_a k174 z162 rfl) rfl) rfl) (L_up hm130 (e_p1 e187 (by decide))))
          · have z185 := w_ne c182
            rw [show (0 : Int32).toInt = 0 from by decide] at z185
            refine ev_iconst (v := 1) rfl rfl (by decide) ?_
            refine ev_goto rfl rfl ?_
            refine ev_iasG (n := 420) hJ178 b180 (by decide) (by decide) (kb_putA (by have z0_ := congrArg Int32.toInt (rd_a k178 (rd_a k174 z156 rfl) rfl); have z_ := w_lits; have zl_ := l_lits; omega)) (fun _ => rfl) rfl rfl rfl rfl (fun h188 hJ188 k188 => ?_)
            refine ev_iincB (y := 1) (l := 1) (u := 12) rfl rfl rfl (by decide) rfl rfl b167 (by decide : B 1 1 1) (by decide) (by decide) (by decide) (by decide) (fun v189 b189 e189 => ?_)
            dsimp only [List.set]
            have e189x := e189; rw [show (1 : Int32).toInt = 1 from by decide] at e189x
            refine ev_goto rfl rfl ?_
            exact (ih130 v189 h188 (b189.mono (by decide) (by decide)) hJ188 (rd_a k188 (rd_a k178 (rd_a k174 z156 rfl) rfl) rfl) (rd_a k188 (rd_a k178 (rd_a k174 z157 rfl) rfl) rfl) (rd_a k188 (rd_a k178 (rd_a k174 z158 rfl) rfl) rfl) (rd_a k188 (rd_a k178 (rd_a k174 z159 rfl) rfl) rfl) (rd_a k188 (rd_a k178 (rd_a k174 z160 rfl) rfl) rfl) (rd_a k188 (rd_a k178 (rd_a k174 z161 rfl) rfl) rfl) (rd_a k188 (rd_a k178 (rd_a k174 z162 rfl) rfl) rfl) (L_up hm130 (e_p1 e189 (by decide))))
    exact (lp130_151 13 0 h24 ((by decide : B 0 0 0).mono (by decide) (by decide)) hJ24 (rd_a k24 (rd_a k21 (rd_a k18 (rd_a k15 (rd_a k12 (rd_a k9 ef1 rfl) rfl) rfl) rfl) rfl) rfl) (rd_a k24 (rd_a k21 (rd_a k18 (rd_a k15 (rd_a k12 (rd_a k9 e8 rfl) rfl) rfl) rfl) rfl) rfl) (rd_a k24 (rd_a k21 (rd_a k18 (rd_a k15 (rd_a k12 e11 rfl) rfl) rfl) rfl) rfl) (rd_a k24 (rd_a k21 (rd_a k18 (rd_a k15 e14 rfl) rfl) rfl) rfl) (rd_a k24 (rd_a k21 (rd_a k18 e17 rfl) rfl) rfl) (rd_a k24 (rd_a k21 e20 rfl) rfl) (rd_a k24 e23 rfl) (L_init (by decide : B 0 0 0) (by decide)))
  · have b5 : B f1 10 10 := R_eqX bf1 (by decide : B 10 10 10) c2
    have z6 := congrArg Int32.toInt c2
    rw [show (10 : Int32).toInt = 10 from by decide] at z6
    refine ev_bipush (v := 42) rfl rfl (by decide) ?_
    refine ev_istore_n rfl rfl rfl rfl ?_
    dsimp only [List.set]
    have lp12_829 : ∀ (n : Nat) (w830 : Int32) (h832 : Hp), B w830 42 420 → JW [(63, 13), (71, 999)] h h832 → (h832 63 13 = f1) → 420 + 1 - w830.toInt ≤ (n : Int) → EvQ mi_X10_keeps 12 [some (.ref 63), some (.int w830), none] [] (G0 L b) h832 0 0 (QN [(63, 13), (71, 999)] (G0 L b) h) := by
      intro n
      induction n with
      | zero =>
        intro w830 h832 b831 hJ833 z834 hm12
        exact absurd hm12 (L_zero b831 (by decide))
      | succ n ih12 =>
        intro w830 h832 b831 hJ833 z834 hm12
        have z835 := congrArg Int32.toInt z834
        refine ev_iload_n rfl rfl rfl ?_
        refine ev_sipush (v := 420) rfl rfl (by decide) ?_
        refine ev_icmp_ge rfl rfl (fun c836 => ?_) (fun c836 => ?_)
        · have b837 : B w830 420 420 := R_leY (by decide : B 420 420 420) b831 c836 (by decide)
          have z838 := w_le c836
          rw [show (420 : Int32).toInt = 420 from by decide] at z838
          refine ev_aload_n rfl rfl rfl ?_
          refine ev_dup rfl rfl rfl ?_
          refine ev_getV (v := f1) rfl rfl fl_X10_128 rfl rfl rfl z834 ?_
          refine ev_iconst (v := 1) rfl rfl (by decide) ?_
          refine ev_isubB (l := 9) (u := 9) rfl rfl b5 (by decide : B 1 1 1) (by decide) (by decide) (by decide) (by decide) (fun v841 b841 e841 g841 => ?_)
          have e841x := e841; rw [show (1 : Int32).toInt = 1 from by decide] at e841x
          refine ev_putW (l := 0) (u := 10) hJ833 rfl b841 (by decide) (by decide) rfl rfl rfl fl_X10_128 rfl rfl rfl rfl rfl (fun h842 hJ842 k842 => ?_)
          refine ev_bipush (v := 42) rfl rfl (by decide) ?_
          refine ev_aload_n rfl rfl rfl ?_
          refine ev_getV (v := v841) rfl rfl fl_X10_128 rfl rfl rfl (rd_s k842) ?_
          refine ev_imulB (l := 378) (u := 378) rfl rfl (by decide : B 42 42 42) b841 (by decide) (by decide) (by decide) (by decide) (by decide) (fun v843 b843 e843 g843 => ?_)
          rw [show (42 : Int32).toInt = 42 from by decide] at e843
          refine ev_istore_n rfl rfl rfl rfl ?_
          dsimp only [List.set]
          refine ev_aload_n rfl rfl rfl ?_
          refine ev_getR (y := 71) rfl rfl fl_X10_45 rfl rfl rfl rfl ?_
          refine ev_iload_n rfl rfl rfl ?_
          refine ev_aload_n rfl rfl rfl ?_
          refine ev_getW (l := 0) (u := 200) hJ842.1 rfl rfl rfl fl_X10_7 rfl rfl rfl (fun v844 b844 e844 => ?_)
          refine ev_iasG (n := 420) hJ842 b843 (by decide) (by decide) (kb_put (c := 0) (by have z0_ := congrArg Int32.toInt (rd_s k842); have z_ := w_lits; have zl_ := l_lits; omega) b844) (fun _ => rfl) rfl rfl rfl rfl (fun h845 hJ845 k845 => ?_)
          refine ev_aload_n rfl rfl rfl ?_
          refine ev_getR (y := 71) rfl rfl fl_X10_45 rfl rfl rfl rfl ?_
          refine ev_iload_n rfl rfl rfl ?_
          refine ev_iconst (v := 1) rfl rfl (by decide) ?_
          refine ev_iaddB (l := 379) (u := 379) rfl rfl b843 (by decide : B 1 1 1) (by decide) (by decide) (by decide) (by decide) (fun v846 b846 e846 g846 => ?_)
          have e846x := e846; rw [show (1 : Int32).toInt = 1 from by decide] at e846x
          refine ev_aload_n rfl rfl rfl ?_
          refine ev_getW (l := (-2147483648)) (u := 2147483647) hJ845.1 rfl rfl rfl fl_X10_13 rfl rfl rfl (fun v847 b847 e847 => ?_)
          refine ev_iasG (n := 420) hJ845 b846 (by decide) (by decide) (kb_put (c := 1) (by have z0_ := congrArg Int32.toInt (rd_a k845 (rd_s k842) rfl); have z_ := w_lits; have zl_ := l_lits; omega) (B.any v847)) (fun _ => rfl) rfl rfl rfl rfl (fun h848 hJ848 k848 => ?_)
          refine ev_aload_n rfl rfl rfl ?_
          refine ev_getR (y := 71) rfl rfl fl_X10_45 rfl rfl rfl rfl ?_
          refine ev_iload_n rfl rfl rfl ?_
          refine ev_iconst (v := 2) rfl rfl (by decide) ?_
          refine ev_iaddB (l := 380) (u := 380) rfl rfl b843 (by decide : B 2 2 2) (by decide) (by decide) (by decide) (by decide) (fun v849 b849 e849 g849 => ?_)
          have e849x := e849; rw [show (2 : Int32).toInt = 2 from by decide] at e849x
          refine ev_aload_n rfl rfl rfl ?_
          refine ev_getW (l := (-2147483648)) (u := 2147483647) hJ848.1 rfl rfl rfl fl_X10_16 rfl rfl rfl (fun v850 b850 e850 => ?_)
          refine ev_iasG (n := 420) hJ848 b849 (by decide) (by decide) (kb_put (c := 2) (by have z0_ := congrArg Int32.toInt (rd_a k848 (rd_a k845 (rd_s k842) rfl) rfl); have z_ := w_lits; have zl_ := l_lits; omega) (B.any v850)) (fun _ => rfl) rfl rfl rfl rfl (fun h851 hJ851 k851 => ?_)
          refine ev_aload_n rfl rfl rfl ?_
          refine ev_getR (y := 71) rfl rfl fl_X10_45 rfl rfl rfl rfl ?_
          refine ev_iload_n rfl rfl rfl ?_
          refine ev_iconst (v := 3) rfl rfl (by decide) ?_
          refine ev_iaddB (l := 381) (u := 381) rfl rfl b843 (by decide : B 3 3 3) (by decide) (by decide) (by decide) (by decide) (fun v852 b852 e852 g852 => ?_)
          have e852x := e852; rw [show (3 : Int32).toInt = 3 from by decide] at e852x
          refine ev_aload_n rfl rfl rfl ?_
          refine ev_getW (l := 0) (u := 200) hJ851.1 rfl rfl rfl fl_X10_19 rfl rfl rfl (fun v853 b853 e853 => ?_)
          refine ev_iasG (n := 420) hJ851 b852 (by decide) (by decide) (kb_put (c := 3) (by have z0_ := congrArg Int32.toInt (rd_a k851 (rd_a k848 (rd_a k845 (rd_s k842) rfl) rfl) rfl); have z_ := w_lits; have zl_ := l_lits; omega) b853) (fun _ => rfl) rfl rfl rfl rfl (fun h854 hJ854 k854 => ?_)
          refine ev_aload_n rfl rfl rfl ?_
          refine ev_getR (y := 71) rfl rfl fl_X10_45 rfl rfl rfl rfl ?_
          refine ev_iload_n rfl rfl rfl ?_
          refine ev_iconst (v := 4) rfl rfl (by decide) ?_
          refine ev_iaddB (l := 382) (u := 382) rfl rfl b843 (by decide : B 4 4 4) (by decide) (by decide) (by decide) (by decide) (fun v855 b855 e855 g855 => ?_)
          have e855x := e855; rw [show (4 : Int32).toInt = 4 from by decide] at e855x
          refine ev_aload_n rfl rfl rfl ?_
          refine ev_getW (l := (-2147483648)) (u := 2147483647) hJ854.1 rfl rfl rfl fl_X10_131 rfl rfl rfl (fun v856 b856 e856 => ?_)
          refine ev_iasG (n := 420) hJ854 b855 (by decide) (by decide) (kb_put (c := 4) (by have z0_ := congrArg Int32.toInt (rd_a k854 (rd_a k851 (rd_a k848 (rd_a k845 (rd_s k842) rfl) rfl) rfl) rfl); have z_ := w_lits; have zl_ := l_lits; omega) (B.any v856)) (fun _ => rfl) rfl rfl rfl rfl (fun h857 hJ857 k857 => ?_)
          refine ev_aload_n rfl rfl rfl ?_
          refine ev_getR (y := 71) rfl rfl fl_X10_45 rfl rfl rfl rfl ?_
          refine ev_iload_n rfl rfl rfl ?_
          refine ev_iconst (v := 5) rfl rfl (by decide) ?_
          refine ev_iaddB (l := 383) (u := 383) rfl rfl b843 (by decide : B 5 5 5) (by decide) (by decide) (by decide) (by decide) (fun v858 b858 e858 g858 => ?_)
          have e858x := e858; rw [show (5 : Int32).toInt = 5 from by decide] at e858x
          refine ev_aload_n rfl rfl rfl ?_
          refine ev_getW (l := 0) (u := 12) hJ857.1 rfl rfl rfl fl_X10_121 rfl rfl rfl (fun v859 b859 e859 => ?_)
          refine ev_iasG (n := 420) hJ857 b858 (by decide) (by decide) (kb_put (c := 5) (by have z0_ := congrArg Int32.toInt (rd_a k857 (rd_a k854 (rd_a k851 (rd_a k848 (rd_a k845 (rd_s k842) rfl) rfl) rfl) rfl) rfl); have z_ := w_lits; have zl_ := l_lits; omega) b859) (fun _ => rfl) rfl rfl rfl rfl (fun h860 hJ860 k860 => ?_)
          refine ev_iconst (v := 0) rfl rfl (by decide) ?_
          refine ev_istore_n rfl rfl rfl rfl ?_
          dsimp only [List.set]
          have lp130_987 : ∀ (n : Nat) (w988 : Int32) (h990 : Hp), B w988 0 12 → JW [(63, 13), (71, 999)] h h990 → (h990 63 13 = v841) → (h990 63 0 = v844) → (h990 63 1 = v847) → (h990 63 2 = v850) → (h990 63 3 = v853) → (h990 63 4 = v856) → (h990 63 5 = v859) → 12 + 1 - w988.toInt ≤ (n : Int) → EvQ mi_X10_keeps 130 [some (.ref 63), some (.int v843), some (.int w988)] [] (G0 L b) h990 0 0 (QN [(63, 13), (71, 999)] (G0 L b) h) := by
            intro n
            induction n with
            | zero =>
              intro w988 h990 b989 hJ991 z992 z993 z994 z995 z996 z997 z998 hm130
              exact absurd hm130 (L_zero b989 (by decide))
            | succ n ih130 =>
              intro w988 h990 b989 hJ991 z992 z993 z994 z995 z996 z997 z998 hm130
              have z999 := congrArg Int32.toInt z992
              refine ev_iload_n rfl rfl rfl ?_
              refine ev_bipush (v := 12) rfl rfl (by decide) ?_
              refine ev_icmp_ge rfl rfl (fun c1000 => ?_) (fun c1000 => ?_)
              · have b1001 : B w988 12 12 := R_leY (by decide : B 12 12 12) b989 c1000 (by decide)
                have z1002 := w_le c1000
                rw [show (12 : Int32).toInt = 12 from by decide] at z1002
                refine ev_aload_n rfl rfl rfl ?_
                refine ev_dup rfl rfl rfl ?_
                refine ev_getV (v := v841) rfl rfl fl_X10_128 rfl rfl rfl z992 ?_
                refine ev_iconst (v := 1) rfl rfl (by decide) ?_
                refine ev_iaddB (l := 10) (u := 10) rfl rfl b841 (by decide : B 1 1 1) (by decide) (by decide) (by decide) (by decide) (fun v1005 b1005 e1005 g1005 => ?_)
                have e1005x := e1005; rw [show (1 : Int32).toInt = 1 from by decide] at e1005x
                refine ev_putW (l := 0) (u := 10) hJ991 rfl b1005 (by decide) (by decide) rfl rfl rfl fl_X10_128 rfl rfl rfl rfl rfl (fun h1006 hJ1006 k1006 => ?_)
                exact ev_vret rfl rfl trivial ⟨rfl, rfl, hJ1006⟩
              · have b1003 : B w988 0 11 := R_ltX b989 (by decide : B 12 12 12) (Int32.not_le.mp c1000) (by decide)
                have z1004 := w_lt (Int32.not_le.mp c1000)
                rw [show (12 : Int32).toInt = 12 from by decide] at z1004
                refine ev_aload_n rfl rfl rfl ?_
                refine ev_getR (y := 71) rfl rfl fl_X10_45 rfl rfl rfl rfl ?_
                refine ev_iload_n rfl rfl rfl ?_
                refine ev_bipush (v := 6) rfl rfl (by decide) ?_
                refine ev_iaddB (l := 384) (u := 384) rfl rfl b843 (by decide : B 6 6 6) (by decide) (by decide) (by decide) (by decide) (fun v1007 b1007 e1007 g1007 => ?_)
                have e1007x := e1007; rw [show (6 : Int32).toInt = 6 from by decide] at e1007x
                refine ev_iload_n rfl rfl rfl ?_
                refine ev_iaddB (l := 384) (u := 395) rfl rfl b1007 b1003 (by decide) (by decide) (by decide) (by decide) (fun v1008 b1008 e1008 g1008 => ?_)
                refine ev_aload_n rfl rfl rfl ?_
                refine ev_getR (y := 68) rfl rfl fl_X10_36 rfl rfl rfl rfl ?_
                refine ev_iload_n rfl rfl rfl ?_
                refine ev_ialW (n := 12) (l := (-2147483648)) (u := 2147483647) hJ991.1 b1003 (by decide) (by decide) (fun _ => rfl) rfl rfl rfl (fun v1009 b1009 e1009 => ?_)
                refine ev_iasG (n := 420) hJ991 b1008 (by decide) (by decide) (kb_putA (by have z0_ := congrArg Int32.toInt z992; have z_ := w_lits; have zl_ := l_lits; omega)) (fun _ => rfl) rfl rfl rfl rfl (fun h1010 hJ1010 k1010 => ?_)
                refine ev_aload_n rfl rfl rfl ?_
                refine ev_getR (y := 71) rfl rfl fl_X10_45 rfl rfl rfl rfl ?_
                refine ev_iload_n rfl rfl rfl ?_
                refine ev_bipush (v := 18) rfl rfl (by decide) ?_
                refine ev_iaddB (l := 396) (u := 396) rfl rfl b843 (by decide : B 18 18 18) (by decide) (by decide) (by decide) (by decide) (fun v1011 b1011 e1011 g1011 => ?_)
                have e1011x := e1011; rw [show (18 : Int32).toInt = 18 from by decide] at e1011x
                refine ev_iload_n rfl rfl rfl ?_
                refine ev_iaddB (l := 396) (u := 407) rfl rfl b1011 b1003 (by decide) (by decide) (by decide) (by decide) (fun v1012 b1012 e1012 g1012 => ?_)
                refine ev_aload_n rfl rfl rfl ?_
                refine ev_getR (y := 69) rfl rfl fl_X10_39 rfl rfl rfl rfl ?_
                refine ev_iload_n rfl rfl rfl ?_
                refine ev_ialW (n := 12) (l := (-2147483648)) (u := 2147483647) hJ1010.1 b1003 (by decide) (by decide) (fun _ => rfl) rfl rfl rfl (fun v1013 b1013 e1013 => ?_)
                refine ev_iasG (n := 420) hJ1010 b1012 (by decide) (by decide) (kb_putA (by have z0_ := congrArg Int32.toInt (rd_a k1010 z992 rfl); have z_ := w_lits; have zl_ := l_lits; omega)) (fun _ => rfl) rfl rfl rfl rfl (fun h1014 hJ1014 k1014 => ?_)
                refine ev_aload_n rfl rfl rfl ?_
                refine ev_getR (y := 71) rfl rfl fl_X10_45 rfl rfl rfl rfl ?_
                refine ev_iload_n rfl rfl rfl ?_
                refine ev_bipush (v := 30) rfl rfl (by decide) ?_
                refine ev_iaddB (l := 408) (u := 408) rfl rfl b843 (by decide : B 30 30 30) (by decide) (by decide) (by decide) (by decide) (fun v1015 b1015 e1015 g1015 => ?_)
                have e1015x := e1015; rw [show (30 : Int32).toInt = 30 from by decide] at e1015x
                refine ev_iload_n rfl rfl rfl ?_
                refine ev_iaddB (l := 408) (u := 419) rfl rfl b1015 b1003 (by decide) (by decide) (by decide) (by decide) (fun v1016 b1016 e1016 g1016 => ?_)
                refine ev_aload_n rfl rfl rfl ?_
                refine ev_getR (y := 70) rfl rfl fl_X10_42 rfl rfl rfl rfl ?_
                refine ev_iload_n rfl rfl rfl ?_
                refine ev_zalW (n := 12) (l := (-2147483648)) (u := 2147483647) hJ1014.1 b1003 (by decide) (by decide) (fun _ => rfl) rfl rfl rfl (fun v1017 b1017 e1017 => ?_)
                refine ev_if_eq rfl rfl (fun c1018 => ?_) (fun c1018 => ?_)
                · have b1019 : B v1017 0 0 := R_eqX (B.any v1017) (by decide : B 0 0 0) c1018
                  have z1020 := congrArg Int32.toInt c1018
                  rw [show (0 : Int32).toInt = 0 from by decide] at z1020
                  refine ev_iconst (v := 0) rfl rfl (by decide) ?_
                  refine ev_iasG (n := 420) hJ1014 b1016 (by decide) (by decide) (kb_putA (by have z0_ := congrArg Int32.toInt (rd_a k1014 (rd_a k1010 z992 rfl) rfl); have z_ := w_lits; have zl_ := l_lits; omega)) (fun _ => rfl) rfl rfl rfl rfl (fun h1022 hJ1022 k1022 => ?_)
                  refine ev_iincB (y := 1) (l := 1) (u := 12) rfl rfl rfl (by decide) rfl rfl b1003 (by decide : B 1 1 1) (by decide) (by decide) (by decide) (by decide) (fun v1023 b1023 e1023 => ?_)
                  dsimp only [List.set]
                  have e1023x := e1023; rw [show (1 : Int32).toInt = 1 from by decide] at e1023x
                  refine ev_goto rfl rfl ?_
                  exact (ih130 v1023 h1022 (b1023.mono (by decide) (by decide)) hJ1022 (rd_a k1022 (rd_a k1014 (rd_a k1010 z992 rfl) rfl) rfl) (rd_a k1022 (rd_a k1014 (rd_a k1010 z993 rfl) rfl) rfl) (rd_a k1022 (rd_a k1014 (rd_a k1010 z994 rfl) rfl) rfl) (rd_a k1022 (rd_a k1014 (rd_a k1010 z995 rfl) rfl) rfl) (rd_a k1022 (rd_a k1014 (rd_a k1010 z996 rfl) rfl) rfl) (rd_a k1022 (rd_a k1014 (rd_a k1010 z997 rfl) rfl) rfl) (rd_a k1022 (rd_a k1014 (rd_a k1010 z998 rfl) rfl) rfl) (L_up hm130 (e_p1 e1023 (by decide))))
                · have z1021 := w_ne c1018
                  rw [show (0 : Int32).toInt = 0 from by decide] at z1021
                  refine ev_iconst (v := 1) rfl rfl (by decide) ?_
                  refine ev_goto rfl rfl ?_
                  refine ev_iasG (n := 420) hJ1014 b1016 (by decide) (by decide) (kb_putA (by have z0_ := congrArg Int32.toInt (rd_a k1014 (rd_a k1010 z992 rfl) rfl); have z_ := w_lits; have zl_ := l_lits; omega)) (fun _ => rfl) rfl rfl rfl rfl (fun h1024 hJ1024 k1024 => ?_)
                  refine ev_iincB (y := 1) (l := 1) (u := 12) rfl rfl rfl (by decide) rfl rfl b1003 (by decide : B 1 1 1) (by decide) (by decide) (by decide) (by decide) (fun v1025 b1025 e1025 => ?_)
                  dsimp only [List.set]
                  have e1025x := e1025; rw [show (1 : Int32).toInt = 1 from by decide] at e1025x
                  refine ev_goto rfl rfl ?_
                  exact (ih130 v1025 h1024 (b1025.mono (by decide) (by decide)) hJ1024 (rd_a k1024 (rd_a k1014 (rd_a k1010 z992 rfl) rfl) rfl) (rd_a k1024 (rd_a k1014 (rd_a k1010 z993 rfl) rfl) rfl) (rd_a k1024 (rd_a k1014 (rd_a k1010 z994 rfl) rfl) rfl) (rd_a k1024 (rd_a k1014 (rd_a k1010 z995 rfl) rfl) rfl) (rd_a k1024 (rd_a k1014 (rd_a k1010 z996 rfl) rfl) rfl) (rd_a k1024 (rd_a k1014 (rd_a k1010 z997 rfl) rfl) rfl) (rd_a k1024 (rd_a k1014 (rd_a k1010 z998 rfl) rfl) rfl) (L_up hm130 (e_p1 e1025 (by decide))))
          exact (lp130_987 13 0 h860 ((by decide : B 0 0 0).mono (by decide) (by decide)) hJ860 (rd_a k860 (rd_a k857 (rd_a k854 (rd_a k851 (rd_a k848 (rd_a k845 (rd_s k842) rfl) rfl) rfl) rfl) rfl) rfl) (rd_a k860 (rd_a k857 (rd_a k854 (rd_a k851 (rd_a k848 (rd_a k845 e844 rfl) rfl) rfl) rfl) rfl) rfl) (rd_a k860 (rd_a k857 (rd_a k854 (rd_a k851 (rd_a k848 e847 rfl) rfl) rfl) rfl) rfl) (rd_a k860 (rd_a k857 (rd_a k854 (rd_a k851 e850 rfl) rfl) rfl) rfl) (rd_a k860 (rd_a k857 (rd_a k854 e853 rfl) rfl) rfl) (rd_a k860 (rd_a k857 e856 rfl) rfl) (rd_a k860 e859 rfl) (L_init (by decide : B 0 0 0) (by decide)))
        · have b839 : B w830 42 419 := R_ltX b831 (by decide : B 420 420 420) (Int32.not_le.mp c836) (by decide)
          have z840 := w_lt (Int32.not_le.mp c836)
          rw [show (420 : Int32).toInt = 420 from by decide] at z840
          refine ev_aload_n rfl rfl rfl ?_
          refine ev_getR (y := 71) rfl rfl fl_X10_45 rfl rfl rfl rfl ?_
          refine ev_iload_n rfl rfl rfl ?_
          refine ev_bipush (v := 42) rfl rfl (by decide) ?_
          refine ev_isubB (l := 0) (u := 377) rfl rfl b839 (by decide : B 42 42 42) (by decide) (by decide) (by decide) (by decide) (fun v1026 b1026 e1026 g1026 => ?_)
          have e1026x := e1026; rw [show (42 : Int32).toInt = 42 from by decide] at e1026x
          refine ev_aload_n rfl rfl rfl ?_
          refine ev_getR (y := 71) rfl rfl fl_X10_45 rfl rfl rfl rfl ?_
          refine ev_iload_n rfl rfl rfl ?_
          refine ev_ialG (n := 420) hJ833.1 b839 (by decide) (by decide) rfl rfl rfl (fun v1027 b1027 e1027 => ?_)
          clear e1027
          refine ev_iasG (n := 420) hJ833 b1026 (by decide) (by decide) (kb_same (by have z0_ := congrArg Int32.toInt z834; have z_ := w_lits; have zl_ := l_lits; omega) b1027) (fun _ => rfl) rfl rfl rfl rfl (fun h1028 hJ1028 k1028 => ?_)
          refine ev_iincB (y := 1) (l := 43) (u := 420) rfl rfl rfl (by decide) rfl rfl b839 (by decide : B 1 1 1) (by decide) (by decide) (by decide) (by decide) (fun v1029 b1029 e1029 => ?_)
          dsimp only [List.set]
          have e1029x := e1029; rw [show (1 : Int32).toInt = 1 from by decide] at e1029x
          refine ev_goto rfl rfl ?_
          exact (ih12 v1029 h1028 (b1029.mono (by decide) (by decide)) hJ1028 (rd_a k1028 z834 rfl) (L_up hm12 (e_p1 e1029 (by decide))))
    exact (lp12_829 379 42 h ((by decide : B 42 42 42).mono (by decide) (by decide)) hJ0 ef1 (L_init (by decide : B 42 42 42) (by decide)))

set_option maxRecDepth 100000 in
set_option maxHeartbeats 4000000 in
theorem w_X10_undo_63 (L : Nat) (b : Bool) (h : Hp) (hB : Bx h)  : EvJ mi_X10_undo [.ref 63] (G0 L b) h (fun r : Int32 => B r (-4) 10) [(63, 0), (63, 1), (63, 2), (63, 3), (63, 4), (63, 13), (68, 999), (69, 999), (70, 999)] := by
  refine EvM.of2 (lo := [some (.ref 63), none, none]) pf_X10_undo ok_X10_undo rfl rfl ?_
  have hJ0 : JW [(63, 0), (63, 1), (63, 2), (63, 3), (63, 4), (63, 13), (68, 999), (69, 999), (70, 999)] h h := JW.refl hB
  obtain ⟨f1, ef1⟩ : ∃ f_, h 63 13 = f_ := ⟨_, rfl⟩
  have bf1 : B f1 0 10 := by have z_ := hJ0.1 63 13; rw [ef1] at z_; exact z_
  have zf1 := congrArg Int32.toInt ef1
  refine ev_aload_n rfl rfl rfl ?_
  refine ev_getV (v := f1) rfl rfl fl_X10_128 rfl rfl rfl ef1 ?_
  refine ev_if_ne rfl rfl (fun c2 => ?_) (fun c2 => ?_)
  · have b3 : B f1 1 10 := R_neL bf1 (by decide : B 0 0 0) c2 (by decide)
    have z4 := w_ne c2
    rw [show (0 : Int32).toInt = 0 from by decide] at z4
    refine ev_aload_n rfl rfl rfl ?_
    refine ev_dup rfl rfl rfl ?_
    refine ev_getV (v := f1) rfl rfl fl_X10_128 rfl rfl rfl ef1 ?_
    refine ev_iconst (v := 1) rfl rfl (by decide) ?_
    refine ev_isubB (l := 0) (u := 9) rfl rfl b3 (by decide : B 1 1 1) (by decide) (by decide) (by decide) (by decide) (fun v7 b7 e7 g7 => ?_)
    have e7x := e7; rw [show (1 : Int32).toInt = 1 from by decide] at e7x
    refine ev_putW (l := 0) (u := 10) hJ0 rfl b7 (by decide) (by decide) rfl rfl rfl fl_X10_128 rfl rfl rfl rfl rfl (fun h8 hJ8 k8 => ?_)
    refine ev_bipush (v := 42) rfl rfl (by decide) ?_
    refine ev_aload_n rfl rfl rfl ?_
    refine ev_getV (v := v7) rfl rfl fl_X10_128 rfl rfl rfl (rd_s k8) ?_
    refine ev_imulB (l := 0) (u := 378) rfl rfl (by decide : B 42 42 42) b7 (by decide) (by decide) (by decide) (by decide) (by decide) (fun v9 b9 e9 g9 => ?_)
    rw [show (42 : Int32).toInt = 42 from by decide] at e9
    refine ev_istore_n rfl rfl rfl rfl ?_
    dsimp only [List.set]
    refine ev_aload_n rfl rfl rfl ?_
    refine ev_aload_n rfl rfl rfl ?_
    refine ev_getR (y := 71) rfl rfl fl_X10_45 rfl rfl rfl rfl ?_
    refine ev_iload_n rfl rfl rfl ?_
    refine ev_ialG (n := 420) hJ8.1 b9 (by decide) (by decide) rfl rfl rfl (fun v10 b10 e10 => ?_)
    have b10k : B v10 0 200 := kb_get (c := 0) (by have z0_ := congrArg Int32.toInt (rd_s k8); have z_ := w_lits; have zl_ := l_lits; omega) b10
    refine ev_putW (l := 0) (u := 200) hJ8 rfl b10k (by decide) (by decide) rfl rfl rfl fl_X10_7 rfl rfl rfl rfl rfl (fun h11 hJ11 k11 => ?_)
    refine ev_aload_n rfl rfl rfl ?_
    refine ev_aload_n rfl rfl rfl ?_
    refine ev_getR (y := 71) rfl rfl fl_X10_45 rfl rfl rfl rfl ?_
    refine ev_iload_n rfl rfl rfl ?_
    refine ev_iconst (v := 1) rfl rfl (by decide) ?_
    refine ev_iaddB (l := 1) (u := 379) rfl rfl b9 (by decide : B 1 1 1) (by decide) (by decide) (by decide) (by decide) (fun v12 b12 e12 g12 => ?_)
    have e12x := e12; rw [show (1 : Int32).toInt = 1 from by decide] at e12x
    refine ev_ialG (n := 420) hJ11.1 b12 (by decide) (by decide) rfl rfl rfl (fun v13 b13 e13 => ?_)
    have b13k : B v13 (-2147483648) 2147483647 := kb_get (c := 1) (by have z0_ := congrArg Int32.toInt (rd_o k11 (rd_s k8) rfl); have z_ := w_lits; have zl_ := l_lits; omega) b13
    refine ev_putW (l := (-2147483648)) (u := 2147483647) hJ11 rfl (B.any v13) (by decide) (by decide) rfl rfl rfl fl_X10_13 rfl rfl rfl rfl rfl (fun h14 hJ14 k14 => ?_)
    refine ev_aload_n rfl rfl rfl ?_
    refine ev_aload_n rfl rfl rfl ?_
    refine ev_getR (y := 71) rfl rfl fl_X10_45 rfl rfl rfl rfl ?_
    refine ev_iload_n rfl rfl rfl ?_
    refine ev_iconst (v := 2) rfl rfl (by decide) ?_
    refine ev_iaddB (l := 2) (u := 380) rfl rfl b9 (by decide : B 2 2 2) (by decide) (by decide) (by decide) (by decide) (fun v15 b15 e15 g15 => ?_)
    have e15x := e15; rw [show (2 : Int32).toInt = 2 from by decide] at e15x
    refine ev_ialG (n := 420) hJ14.1 b15 (by decide) (by decide) rfl rfl rfl (fun v16 b16 e16 => ?_)
    have b16k : B v16 (-2147483648) 2147483647 := kb_get (c := 2) (by have z0_ := congrArg Int32.toInt (rd_o k14 (rd_o k11 (rd_s k8) rfl) rfl); have z_ := w_lits; have zl_ := l_lits; omega) b16
    refine ev_putW (l := (-2147483648)) (u := 2147483647) hJ14 rfl (B.any v16) (by decide) (by decide) rfl rfl rfl fl_X10_16 rfl rfl rfl rfl rfl (fun h17 hJ17 k17 => ?_)
    refine ev_aload_n rfl rfl rfl ?_
    refine ev_aload_n rfl rfl rfl ?_
    refine ev_getR (y := 71) rfl rfl fl_X10_45 rfl rfl rfl rfl ?_
    refine ev_iload_n rfl rfl rfl ?_
    refine ev_iconst (v := 3) rfl rfl (by decide) ?_
    refine ev_iaddB (l := 3) (u := 381) rfl rfl b9 (by decide : B 3 3 3) (by decide) (by decide) (by decide) (by decide) (fun v18 b18 e18 g18 => ?_)
    have e18x := e18; rw [show (3 : Int32).toInt = 3 from by decide] at e18x
    refine ev_ialG (n := 420) hJ17.1 b18 (by decide) (by decide) rfl rfl rfl (fun v19 b19 e19 => ?_)
    have b19k : B v19 0 200 := kb_get (c := 3) (by have z0_ := congrArg Int32.toInt (rd_o k17 (rd_o k14 (rd_o k11 (rd_s k8) rfl) rfl) rfl); have z_ := w_lits; have zl_ := l_lits; omega) b19
    refine ev_putW (l := 0) (u := 200) hJ17 rfl b19k (by decide) (by decide) rfl rfl rfl fl_X10_19 rfl rfl rfl rfl rfl (fun h20 hJ20 k20 => ?_)
    refine ev_aload_n rfl rfl rfl ?_
    refine ev_aload_n rfl rfl rfl ?_
    refine ev_getR (y := 71) rfl rfl fl_X10_45 rfl rfl rfl rfl ?_
    refine ev_iload_n rfl rfl rfl ?_
    refine ev_iconst (v := 4) rfl rfl (by decide) ?_
    refine ev_iaddB (l := 4) (u := 382) rfl rfl b9 (by decide : B 4 4 4) (by decide) (by decide) (by decide) (by decide) (fun v21 b21 e21 g21 => ?_)
    have e21x := e21; rw [show (4 : Int32).toInt = 4 from by decide] at e21x
    refine ev_ialG (n := 420) hJ20.1 b21 (by decide) (by decide) rfl rfl rfl (fun v22 b22 e22 => ?_)
    have b22k : B v22 (-2147483648) 2147483647 := kb_get (c := 4) (by have z0_ := congrArg Int32.toInt (rd_o k20 (rd_o k17 (rd_o k14 (rd_o k11 (rd_s k8) rfl) rfl) rfl) rfl); have z_ := w_lits; have zl_ := l_lits; omega) b22
    refine ev_putW (l := (-2147483648)) (u := 2147483647) hJ20 rfl (B.any v22) (by decide) (by decide) rfl rfl rfl fl_X10_131 rfl rfl rfl rfl rfl (fun h23 hJ23 k23 => ?_)
    refine ev_iconst (v := 0) rfl rfl (by decide) ?_
    refine ev_istore_n rfl rfl rfl rfl ?_
    dsimp only [List.set]
    have lp88_160 : ∀ (n : Nat) (w161 : Int32) (h163 : Hp), B w161 0 12 → JW [(63, 0), (63, 1), (63, 2), (63, 3), (63, 4), (63, 13), (68, 999), (69, 999), (70, 999)] h h163 → (h163 63 13 = v7) → (h163 63 0 = v10) → (h163 63 1 = v13) → (h163 63 2 = v16) → (h163 63 3 = v19) → (h163 63 4 = v22) → 12 + 1 - w161.toInt ≤ (n : Int) → EvQ mi_X10_undo 88 [some (.ref 63), some (.int v9), some (.int w161)] [] (G0 L b) h163 0 0 (QJ (fun r : Int32 => B r (-4) 10) [(63, 0), (63, 1), (63, 2), (63, 3), (63, 4), (63, 13), (68, 999), (69, 999), (70, 999)] (G0 L b) h) := by
      intro n
      induction n with
      | zero =>
        intro w161 h163 b162 hJ164 z165 z166 z167 z168 z169 z170 hm88
        exact absurd hm88 (L_zero b162 (by decide))
      | succ n ih88 =>
        intro w161 h163 b162 hJ164 z165 z166 z167 z168 z169 z170 hm88
        have z171 := congrArg Int32.toInt z165
        refine ev_iload_n rfl rfl rfl ?_
        refine ev_aload_n rfl rfl rfl ?_
        refine ev_getR (y := 71) rfl rfl fl_X10_45 rfl rfl rfl rfl ?_
        refine ev_iload_n rfl rfl rfl ?_
        refine ev_iconst (v := 5) rfl rfl (by decide) ?_
        refine ev_iaddB (l := 5) (u := 383) rfl rfl b9 (by decide : B 5 5 5) (by decide) (by decide) (by decide) (by decide) (fun v172 b172 e172 g172 => ?_)
        have e172x := e172; rw [show (5 : Int32).toInt = 5 from by decide] at e172x
        refine ev_ialG (n := 420) hJ164.1 b172 (by decide) (by decide) rfl rfl rfl (fun v173 b173 e173 => ?_)
        have b173k : B v173 0 12 := kb_get (c := 5) (by have z0_ := congrArg Int32.toInt z165; have z_ := w_lits; have zl_ := l_lits; omega) b173
        refine ev_icmp_ge rfl rfl (fun c174 => ?_) (fun c174 => ?_)
        · have z175 := w_le c174
          refine ev_aload_n rfl rfl rfl ?_
          refine ev_getV (v := v7) rfl rfl fl_X10_128 rfl rfl rfl z165 ?_
          exact ev_iret rfl rfl rfl ⟨⟨_, rfl, (b7.mono (by decide) (by decide))⟩, rfl, hJ164⟩
        · have b176 : B w161 0 11 := R_ltX b162 b173k (Int32.not_le.mp c174) (by decide)
          have b177 : B v173 1 12 := R_ltY b162 b173k (Int32.not_le.mp c174) (by decide)
          have z178 := w_lt (Int32.not_le.mp c174)
          refine ev_aload_n rfl rfl rfl ?_
          refine ev_getR (y := 68) rfl rfl fl_X10_36 rfl rfl rfl rfl ?_
          refine ev_iload_n rfl rfl rfl ?_
          refine ev_aload_n rfl rfl rfl ?_
          refine ev_getR (y := 71) rfl rfl fl_X10_45 rfl rfl rfl rfl ?_
          refine ev_iload_n rfl rfl rfl ?_
          refine ev_bipush (v := 6) rfl rfl (by decide) ?_
          refine ev_iaddB (l := 6) (u := 384) rfl rfl b9 (by decide : B 6 6 6) (by decide) (by decide) (by decide) (by decide) (fun v179 b179 e179 g179 => ?_)
          have e179x := e179; rw [show (6 : Int32).toInt = 6 from by decide] at e179x
          refine ev_iload_n rfl rfl rfl ?_
          refine ev_iaddB (l := 6) (u := 395) rfl rfl b179 b176 (by decide) (by decide) (by decide) (by decide) (fun v180 b180 e180 g180 => ?_)
          refine ev_ialG (n := 420) hJ164.1 b180 (by decide) (by decide) rfl rfl rfl (fun v181 b181 e181 => ?_)
          clear e181
          refine ev_iasW (n := 12) (l := (-2147483648)) (u := 2147483647) hJ164 b176 (by decide) (by decide) (fun _ => rfl) (B.any v181) (by decide) (by decide) (fun _ => rfl) rfl rfl rfl rfl (fun h182 hJ182 k182 => ?_)
          refine ev_aload_n rfl rfl rfl ?_
          refine ev_getR (y := 69) rfl rfl fl_X10_39 rfl rfl rfl rfl ?_
          refine ev_iload_n rfl rfl rfl ?_
          refine ev_aload_n rfl rfl rfl ?_
          refine ev_getR (y := 71) rfl rfl fl_X10_45 rfl rfl rfl rfl ?_
          refine ev_iload_n rfl rfl rfl ?_
          refine ev_bipush (v := 18) rfl rfl (by decide) ?_
          refine ev_iaddB (l := 18) (u := 396) rfl rfl b9 (by decide : B 18 18 18) (by decide) (by decide) (by decide) (by decide) (fun v183 b183 e183 g183 => ?_)
          have e183x := e183; rw [show (18 : Int32).toInt = 18 from by decide] at e183x
          refine ev_iload_n rfl rfl rfl ?_
          refine ev_iaddB (l := 18) (u := 407) rfl rfl b183 b176 (by decide) (by decide) (by decide) (by decide) (fun v184 b184 e184 g184 => ?_)
          refine ev_ialG (n := 420) hJ182.1 b184 (by decide) (by decide) rfl rfl rfl (fun v185 b185 e185 => ?_)
          clear e185
          refine ev_iasW (n := 12) (l := (-2147483648)) (u := 2147483647) hJ182 b176 (by decide) (by decide) (fun _ => rfl) (B.any v185) (by decide) (by decide) (fun _ => rfl) rfl rfl rfl rfl (fun h186 hJ186 k186 => ?_)
          refine ev_aload_n rfl rfl rfl ?_
          refine ev_getR (y := 70) rfl rfl fl_X10_42 rfl rfl rfl rfl ?_
          refine ev_iload_n rfl rfl rfl ?_
          refine ev_aload_n rfl rfl rfl ?_
          refine ev_getR (y := 71) rfl rfl fl_X10_45 rfl rfl rfl rfl ?_
          refine ev_iload_n rfl rfl rfl ?_
          refine ev_bipush (v := 30) rfl rfl (by decide) ?_
          refine ev_iaddB (l := 30) (u := 408) rfl rfl b9 (by decide : B 30 30 30) (by decide) (by decide) (by decide) (by decide) (fun v187 b187 e187 g187 => ?_)
          have e187x := e187; rw [show (30 : Int32).toInt = 30 from by decide] at e187x
          refine ev_iload_n rfl rfl rfl ?_
          refine ev_iaddB (l := 30) (u := 419) rfl rfl b187 b176 (by decide) (by decide) (by decide) (by decide) (fun v188 b188 e188 g188 => ?_)
          refine ev_ialG (n := 420) hJ186.1 b188 (by decide) (by decide) rfl rfl rfl (fun v189 b189 e189 => ?_)
          clear e189
          refine ev_iconst (v := 1) rfl rfl (by decide) ?_
          refine ev_icmp_ne rfl rfl (fun c190 => ?_) (fun c190 => ?_)
          · have z191 := w_ne c190
            rw [show (1 : Int32).toInt = 1 from by decide] at z191
            refine ev_iconst (v := 0) rfl rfl (by decide) ?_
            refine ev_zasW (n := 12) (l := (-2147483648)) (u := 2147483647) hJ186 b176 (by decide) (by decide) (fun _ => rfl) ((by decide : B 0 0 0).mono (by decide) (by decide)) (by decide) (by decide) (fun _ => rfl) rfl rfl rfl rfl (fun h194 hJ194 k194 => ?_)
            refine ev_iincB (y := 1) (l := 1) (u := 12) rfl rfl rfl (by decide) rfl rfl b176 (by decide : B 1 1 1) (by decide) (by decide) (by decide) (by decide) (fun v195 b195 e195 => ?_)
            dsimp only [List.set]
            have e195x := e195; rw [show (1 : Int32).toInt = 1 from by decide] at e195x
            refine ev_goto rfl rfl ?_
            exact (ih88 v195 h194 (b195.mono (by decide) (by decide)) hJ194 (rd_a k194 (rd_a k186 (rd_a k182 z165 rfl) rfl) rfl) (rd_a k194 (rd_a k186 (rd_a k182 z166 rfl) rfl) rfl) (rd_a k194 (rd_a k186 (rd_a k182 z167 rfl) rfl) rfl) (rd_a k194 (rd_a k186 (rd_a k182 z168 rfl) rfl) rfl) (rd_a k194 (rd_a k186 (rd_a k182 z169 rfl) rfl) rfl) (rd_a k194 (rd_a k186 (rd_a k182 z170 rfl) rfl) rfl) (L_up hm88 (e_p1 e195 (by decide))))
          · have b192 : B v189 1 1 := R_eqX (B.any v189) (by decide : B 1 1 1) c190
            have z193 := congrArg Int32.toInt c190
            rw [show (1 : Int32).toInt = 1 from by decide] at z193
            refine ev_iconst (v := 1) rfl rfl (by decide) ?_
            refine ev_goto rfl rfl ?_
            refine ev_zasW (n := 12) (l := (-2147483648)) (u := 2147483647) hJ186 b176 (by decide) (by decide) (fun _ => rfl) ((by decide : B 1 1 1).mono (by decide) (by decide)) (by decide) (by decide) (fun _ => rfl) rfl rfl rfl rfl (fun h196 hJ196 k196 => ?_)
            refine ev_iincB (y := 1) (l := 1) (u := 12) rfl rfl rfl (by decide) rfl rfl b176 (by decide : B 1 1 1) (by decide) (by decide) (by decide) (by decide) (fun v197 b197 e197 => ?_)
            dsimp only [List.set]
            have e197x := e197; rw [show (1 : Int32).toInt = 1 from by decide] at e197x
            refine ev_goto rfl rfl ?_
            exact (ih88 v197 h196 (b197.mono (by decide) (by decide)) hJ196 (rd_a k196 (rd_a k186 (rd_a k182 z165 rfl) rfl) rfl) (rd_a k196 (rd_a k186 (rd_a k182 z166 rfl) rfl) rfl) (rd_a k196 (rd_a k186 (rd_a k182 z167 rfl) rfl) rfl) (rd_a k196 (rd_a k186 (rd_a k182 z168 rfl) rfl) rfl) (rd_a k196 (rd_a k186 (rd_a k182 z169 rfl) rfl) rfl) (rd_a k196 (rd_a k186 (rd_a k182 z170 rfl) rfl) rfl) (L_up hm88 (e_p1 e197 (by decide))))
    exact (lp88_160 13 0 h23 ((by decide : B 0 0 0).mono (by decide) (by decide)) hJ23 (rd_o k23 (rd_o k20 (rd_o k17 (rd_o k14 (rd_o k11 (rd_s k8) rfl) rfl) rfl) rfl) rfl) (rd_o k23 (rd_o k20 (rd_o k17 (rd_o k14 (rd_s k11) rfl) rfl) rfl) rfl) (rd_o k23 (rd_o k20 (rd_o k17 (rd_s k14) rfl) rfl) rfl) (rd_o k23 (rd_o k20 (rd_s k17) rfl) rfl) (rd_o k23 (rd_s k20) rfl) (rd_s k23) (L_init (by decide : B 0 0 0) (by decide)))
  · have b5 : B f1 0 0 := R_eqX bf1 (by decide : B 0 0 0) c2
    have z6 := congrArg Int32.toInt c2
    rw [show (0 : Int32).toInt = 0 from by decide] at z6
    refine ev_bipush (v := (-4)) rfl rfl (by decide) ?_
    exact ev_iret rfl rfl rfl ⟨⟨_, rfl, ((by decide : B (-4) (-4) (-4)).mono (by decide) (by decide))⟩, rfl, hJ0⟩

set_option maxRecDepth 100000 in
set_option maxHeartbeats 4000000 in
theorem w_X10_goes_63 (L : Nat) (b : Bool) (h : Hp) (hB : Bx h) (a0 : Int32) : EvJ mi_X10_goes [.ref 63, .int a0] (G0 L b) h (fun r : Int32 => B r (-5) 2147483647) [(63, 0), (63, 1), (63, 4)] := by
  refine EvM.of2 (lo := [some (.ref 63), some (.int a0), none, none]) pf_X10_goes ok_X10_goes rfl rfl ?_
  have hJ0 : JW [(63, 0), (63, 1), (63, 4)] h h := JW.refl hB
  refine ev_aload_n rfl rfl rfl ?_
  refine ev_iload_n rfl rfl rfl ?_
  refine ev_V1P rfl rfl lk_X10_145 vt_X10_drawn rfl rfl rfl rfl rfl (w_X10_drawn_63 L b h hJ0.1 a0) (fun r1 q1 => ?_)
  refine ev_istore_n rfl rfl rfl rfl ?_
  dsimp only [List.set]
  refine ev_iload_n rfl rfl rfl ?_
  refine ev_aload_n rfl rfl rfl ?_
  refine ev_getW (l := (-2147483648)) (u := 2147483647) hJ0.1 rfl rfl rfl fl_X10_13 rfl rfl rfl (fun v2 b2 e2 => ?_)
  refine ev_icmp_le rfl rfl (fun c3 => ?_) (fun c3 => ?_)
  · refine ev_aload_n rfl rfl rfl ?_
    refine ev_iload_n rfl rfl rfl ?_
    refine ev_aload_n rfl rfl rfl ?_
    refine ev_getW (l := 0) (u := 200) hJ0.1 rfl rfl rfl fl_X10_7 rfl rfl rfl (fun v6 b6 e6 => ?_)
    refine ev_V2P rfl rfl lk_X10_159 vt_X10_strayOf rfl rfl rfl rfl rfl (w_X10_strayOf_63 L b h hJ0.1 a0 v6) (fun r7 q7 => ?_)
    refine ev_istore_n rfl rfl rfl rfl ?_
    dsimp only [List.set]
    refine ev_aload_n rfl rfl rfl ?_
    refine ev_dup rfl rfl rfl ?_
    refine ev_getV (v := v2) rfl rfl fl_X10_13 rfl rfl rfl e2 ?_
    refine ev_iload_n rfl rfl rfl ?_
    refine ev_isubA rfl rfl (fun v8 g8 => ?_)
    refine ev_putW (l := (-2147483648)) (u := 2147483647) hJ0 rfl (B.any v8) (by decide) (by decide) rfl rfl rfl fl_X10_13 rfl rfl rfl rfl rfl (fun h9 hJ9 k9 => ?_)
    refine ev_aload_n rfl rfl rfl ?_
    refine ev_dup rfl rfl rfl ?_
    refine ev_getV (v := v6) rfl rfl fl_X10_7 rfl rfl rfl (rd_o k9 e6 rfl) ?_
    refine ev_aload_n rfl rfl rfl ?_
    refine ev_getV (v := v8) rfl rfl fl_X10_13 rfl rfl rfl (rd_s k9) ?_
    refine ev_if_le rfl rfl (fun c10 => ?_) (fun c10 => ?_)
    · have b11 : B v8 (-2147483648) 0 := R_leX (B.any v8) (by decide : B 0 0 0) c10 (by decide)
      refine ev_iconst (v := 0) rfl rfl (by decide) ?_
      refine ev_iload_n rfl rfl rfl ?_
      refine ev_isubA rfl rfl (fun v13 g13 => ?_)
      refine ev_iaddA rfl rfl (fun v14 g14 => ?_)
      refine ev_putI rfl rfl fl_X10_7 rfl rfl rfl rfl rfl ?_
      obtain ⟨h15, k15⟩ : ∃ z_, z_ = ev_set h9 63 0 v14 := ⟨_, rfl⟩
      rw [← k15]
      have hP15 := JP.start hJ9 rfl k15
      refine ev_aload_n rfl rfl rfl ?_
      refine ev_aload_n rfl rfl rfl ?_
      refine ev_getV (v := v14) rfl rfl fl_X10_7 rfl rfl rfl (rd_s k15) ?_
      refine ev_if_ge rfl rfl (fun c16 => ?_) (fun c16 => ?_)
      · have b17 : B v14 0 2147483647 := R_leY (by decide : B 0 0 0) (B.any v14) c16 (by decide)
        refine ev_aload_n rfl rfl rfl ?_
        refine ev_getV (v := v14) rfl rfl fl_X10_7 rfl rfl rfl (rd_s k15) ?_
        refine ev_putI rfl rfl fl_X10_7 rfl rfl rfl rfl rfl ?_
        obtain ⟨h19, k19⟩ : ∃ z_, z_ = ev_set h15 63 0 v14 := ⟨_, rfl⟩
        rw [← k19]
        have hP19 := JP.again hP15 k19
        refine ev_aload_n rfl rfl rfl ?_
        refine ev_getV (v := v14) rfl rfl fl_X10_7 rfl rfl rfl (rd_s k19) ?_
        refine ev_aload_n rfl rfl rfl ?_
        refine ev_getI rfl rfl fl_X10_19 rfl rfl rfl ?_
        obtain ⟨v20, e20⟩ : ∃ z_, h19 63 3 = z_ := ⟨_, rfl⟩
        rw [e20]
        have b20 : B v20 0 200 := JP.get hP19 (by decide) rfl e20
        refine ev_icmp_le rfl rfl (fun c21 => ?_) (fun c21 => ?_)
        · have b22 : B v14 0 200 := R_leX b17 b20 c21 (by decide)
          have hJ24 := JP.rest hP19 (rd_s k19) b22
          refine ev_iload_n rfl rfl rfl ?_
          exact ev_iret rfl rfl rfl ⟨⟨_, rfl, (q7.mono (by decide) (by decide))⟩, rfl, hJ24⟩
        · have b23 : B v14 1 2147483647 := R_ltY b20 b17 (Int32.not_le.mp c21) (by decide)
          refine ev_aload_n rfl rfl rfl ?_
          refine ev_aload_n rfl rfl rfl ?_
          refine ev_getV (v := v8) rfl rfl fl_X10_13 rfl rfl rfl (rd_o k19 (rd_o k15 (rd_s k9) rfl) rfl) ?_
          refine ev_aload_n rfl rfl rfl ?_
          refine ev_getV (v := v14) rfl rfl fl_X10_7 rfl rfl rfl (rd_s k19) ?_
          refine ev_aload_n rfl rfl rfl ?_
          refine ev_getV (v := v20) rfl rfl fl_X10_19 rfl rfl rfl e20 ?_
          refine ev_isubB (l := -199) (u := 2147483647) rfl rfl b23 b20 (by decide) (by decide) (by decide) (by decide) (fun v25 b25 e25 g25 => ?_)
          refine ev_icmp_ge rfl rfl (fun c26 => ?_) (fun c26 => ?_)
          · have b27 : B v8 (-199) 0 := R_leY b25 b11 c26 (by decide)
            have b28 : B v25 (-199) 0 := R_leX b25 b11 c26 (by decide)
            refine ev_aload_n rfl rfl rfl ?_
            refine ev_getV (v := v8) rfl rfl fl_X10_13 rfl rfl rfl (rd_o k19 (rd_o k15 (rd_s k9) rfl) rfl) ?_
            refine ev_aload_n rfl rfl rfl ?_
            refine ev_getV (v := v14) rfl rfl fl_X10_7 rfl rfl rfl (rd_s k19) ?_
            refine ev_aload_n rfl rfl rfl ?_
            refine ev_getV (v := v20) rfl rfl fl_X10_19 rfl rfl rfl e20 ?_
            refine ev_isubV g25 rfl rfl ?_
            refine ev_isubB (l := -199) (u := 199) rfl rfl b27 b28 (by decide) (by decide) (by decide) (by decide) (fun v29 b29 e29 g29 => ?_)
            refine ev_putI rfl rfl fl_X10_13 rfl rfl rfl rfl rfl ?_
            obtain ⟨h30, k30⟩ : ∃ z_, z_ = ev_set h19 63 1 v29 := ⟨_, rfl⟩
            rw [← k30]
            have hP30 := JP.put hP19 rfl rfl (b29.mono (by decide) (by decide)) k30
            refine ev_aload_n rfl rfl rfl ?_
            refine ev_aload_n rfl rfl rfl ?_
            refine ev_getV (v := v20) rfl rfl fl_X10_19 rfl rfl rfl (rd_o k30 e20 rfl) ?_
            refine ev_putI rfl rfl fl_X10_7 rfl rfl rfl rfl rfl ?_
            obtain ⟨h31, k31⟩ : ∃ z_, z_ = ev_set h30 63 0 v20 := ⟨_, rfl⟩
            rw [← k31]
            have hJ31 := JP.fix hP30 b20 k31
            refine ev_aload_n rfl rfl rfl ?_
            refine ev_dup rfl rfl rfl ?_
            refine ev_getW (l := (-2147483648)) (u := 2147483647) hJ31.1 rfl rfl rfl fl_X10_131 rfl rfl rfl (fun v32 b32 e32 => ?_)
            refine ev_iconst (v := 1) rfl rfl (by decide) ?_
            refine ev_iaddA rfl rfl (fun v33 g33 => ?_)
            refine ev_putW (l := (-2147483648)) (u := 2147483647) hJ31 rfl (B.any v33) (by decide) (by decide) rfl rfl rfl fl_X10_131 rfl rfl rfl rfl rfl (fun h34 hJ34 k34 => ?_)
            refine ev_iload_n rfl rfl rfl ?_
            exact ev_iret rfl rfl rfl ⟨⟨_, rfl, (q7.mono (by decide) (by decide))⟩, rfl, hJ34⟩
          · refine ev_iconst (v := 0) rfl rfl (by decide) ?_
            refine ev_goto rfl rfl ?_
            refine ev_putI rfl rfl fl_X10_13 rfl rfl rfl rfl rfl ?_
            obtain ⟨h35, k35⟩ : ∃ z_, z_ = ev_set h19 63 1 0 := ⟨_, rfl⟩
            rw [← k35]
            have hP35 := JP.put hP19 rfl rfl ((by decide : B 0 0 0).mono (by decide) (by decide)) k35
            refine ev_aload_n rfl rfl rfl ?_
            refine ev_aload_n rfl rfl rfl ?_
            refine ev_getV (v := v20) rfl rfl fl_X10_19 rfl rfl rfl (rd_o k35 e20 rfl) ?_
            refine ev_putI rfl rfl fl_X10_7 rfl rfl rfl rfl rfl ?_
            obtain ⟨h36, k36⟩ : ∃ z_, z_ = ev_set h35 63 0 v20 := ⟨_, rfl⟩
            rw [← k36]
            have hJ36 := JP.fix hP35 b20 k36
            refine ev_aload_n rfl rfl rfl ?_
            refine ev_dup rfl rfl rfl ?_
            refine ev_getW (l := (-2147483648)) (u := 2147483647) hJ36.1 rfl rfl rfl fl_X10_131 rfl rfl rfl (fun v37 b37 e37 => ?_)
            refine ev_iconst (v := 1) rfl rfl (by decide) ?_
            refine ev_iaddA rfl rfl (fun v38 g38 => ?_)
            refine ev_putW (l := (-2147483648)) (u := 2147483647) hJ36 rfl (B.any v38) (by decide) (by decide) rfl rfl rfl fl_X10_131 rfl rfl rfl rfl rfl (fun h39 hJ39 k39 => ?_)
            refine ev_iload_n rfl rfl rfl ?_
            exact ev_iret rfl rfl rfl ⟨⟨_, rfl, (q7.mono (by decide) (by decide))⟩, rfl, hJ39⟩
      · have b18 : B v14 (-2147483648) (-1) := R_ltX (B.any v14) (by decide : B 0 0 0) (Int32.not_le.mp c16) (by decide)
        refine ev_iconst (v := 0) rfl rfl (by decide) ?_
        refine ev_goto rfl rfl ?_
        refine ev_putI rfl rfl fl_X10_7 rfl rfl rfl rfl rfl ?_
        obtain ⟨h40, k40⟩ : ∃ z_, z_ = ev_set h15 63 0 0 := ⟨_, rfl⟩
        rw [← k40]
        have hJ40 := JP.fix hP15 ((by decide : B 0 0 0).mono (by decide) (by decide)) k40
        refine ev_aload_n rfl rfl rfl ?_
        refine ev_getV (v := 0) rfl rfl fl_X10_7 rfl rfl rfl (rd_s k40) ?_
        refine ev_aload_n rfl rfl rfl ?_
        refine ev_getW (l := 0) (u := 200) hJ40.1 rfl rfl rfl fl_X10_19 rfl rfl rfl (fun v41 b41 e41 => ?_)
        refine ev_icmp_le rfl rfl (fun c42 => ?_) (fun c42 => absurd (D_le (by decide : B 0 0 0) b41 (by decide)) c42)
        refine ev_iload_n rfl rfl rfl ?_
        exact ev_iret rfl rfl rfl ⟨⟨_, rfl, (q7.mono (by decide) (by decide))⟩, rfl, hJ40⟩
    · have b12 : B v8 1 2147483647 := R_ltY (by decide : B 0 0 0) (B.any v8) (Int32.not_le.mp c10) (by decide)
      refine ev_iconst (v := 2) rfl rfl (by decide) ?_
      refine ev_aload_n rfl rfl rfl ?_
      refine ev_getW (l := (-2147483648)) (u := 2147483647) hJ9.1 rfl rfl rfl fl_X10_16 rfl rfl rfl (fun v43 b43 e43 => ?_)
      refine ev_imulA rfl rfl (fun v44 => ?_)
      refine ev_goto rfl rfl ?_
      refine ev_iload_n rfl rfl rfl ?_
      refine ev_isubA rfl rfl (fun v45 g45 => ?_)
      refine ev_iaddA rfl rfl (fun v46 g46 => ?_)
      refine ev_putI rfl rfl fl_X10_7 rfl rfl rfl rfl rfl ?_
      obtain ⟨h47, k47⟩ : ∃ z_, z_ = ev_set h9 63 0 v46 := ⟨_, rfl⟩
      rw [← k47]
      have hP47 := JP.start hJ9 rfl k47
      refine ev_aload_n rfl rfl rfl ?_
      refine ev_aload_n rfl rfl rfl ?_
      refine ev_getV (v := v46) rfl rfl fl_X10_7 rfl rfl rfl (rd_s k47) ?_
      refine ev_if_ge rfl rfl (fun c48 => ?_) (fun c48 => ?_)
      · have b49 : B v46 0 2147483647 := R_leY (by decide : B 0 0 0) (B.any v46) c48 (by decide)
        refine ev_aload_n rfl rfl rfl ?_
        refine ev_getV (v := v46) rfl rfl fl_X10_7 rfl rfl rfl (rd_s k47) ?_
        refine ev_putI rfl rfl fl_X10_7 rfl rfl rfl rfl rfl ?_
        obtain ⟨h51, k51⟩ : ∃ z_, z_ = ev_set h47 63 0 v46 := ⟨_, rfl⟩
        rw [← k51]
        have hP51 := JP.again hP47 k51
        refine ev_aload_n rfl rfl rfl ?_
        refine ev_getV (v := v46) rfl rfl fl_X10_7 rfl rfl rfl (rd_s k51) ?_
        refine ev_aload_n rfl rfl rfl ?_
        refine ev_getI rfl rfl fl_X10_19 rfl rfl rfl ?_
        obtain ⟨v52, e52⟩ : ∃ z_, h51 63 3 = z_ := ⟨_, rfl⟩
        rw [e52]
        have b52 : B v52 0 200 := JP.get hP51 (by decide) rfl e52
        refine ev_icmp_le rfl rfl (fun c53 => ?_) (fun c53 => ?_)
        · have b54 : B v46 0 200 := R_leX b49 b52 c53 (by decide)
          have hJ56 := JP.rest hP51 (rd_s k51) b54
          refine ev_iload_n rfl rfl rfl ?_
          exact ev_iret rfl rfl rfl ⟨⟨_, rfl, (q7.mono (by decide) (by decide))⟩, rfl, hJ56⟩
        · have b55 : B v46 1 2147483647 := R_ltY b52 b49 (Int32.not_le.mp c53) (by decide)
          refine ev_aload_n rfl rfl rfl ?_
          refine ev_aload_n rfl rfl rfl ?_
          refine ev_getV (v := v8) rfl rfl fl_X10_13 rfl rfl rfl (rd_o k51 (rd_o k47 (rd_s k9) rfl) rfl) ?_
          refine ev_aload_n rfl rfl rfl ?_
          refine ev_getV (v := v46) rfl rfl fl_X10_7 rfl rfl rfl (rd_s k51) ?_
          refine ev_aload_n rfl rfl rfl ?_
          refine ev_getV (v := v52) rfl rfl fl_X10_19 rfl rfl rfl e52 ?_
          refine ev_isubB (l := -199) (u := 2147483647) rfl rfl b55 b52 (by decide) (by decide) (by decide) (by decide) (fun v57 b57 e57 g57 => ?_)
          refine ev_icmp_ge rfl rfl (fun c58 => ?_) (fun c58 => ?_)
          · refine ev_aload_n rfl rfl rfl ?_
            refine ev_getV (v := v8) rfl rfl fl_X10_13 rfl rfl rfl (rd_o k51 (rd_o k47 (rd_s k9) rfl) rfl) ?_
            refine ev_aload_n rfl rfl rfl ?_
            refine ev_getV (v := v46) rfl rfl fl_X10_7 rfl rfl rfl (rd_s k51) ?_
            refine ev_aload_n rfl rfl rfl ?_
            refine ev_getV (v := v52) rfl rfl fl_X10_19 rfl rfl rfl e52 ?_
            refine ev_isubV g57 rfl rfl ?_
            refine ev_isubA rfl rfl (fun v61 g61 => ?_)
            refine ev_putI rfl rfl fl_X10_13 rfl rfl rfl rfl rfl ?_
            obtain ⟨h62, k62⟩ : ∃ z_, z_ = ev_set h51 63 1 v61 := ⟨_, rfl⟩
            rw [← k62]
            have hP62 := JP.put hP51 rfl rfl (B.any v61) k62
            refine ev_aload_n rfl rfl rfl ?_
            refine ev_aload_n rfl rfl rfl ?_
            refine ev_getV (v := v52) rfl rfl fl_X10_19 rfl rfl rfl (rd_o k62 e52 rfl) ?_
            refine ev_putI rfl rfl fl_X10_7 rfl rfl rfl rfl rfl ?_
            obtain ⟨h63, k63⟩ : ∃ z_, z_ = ev_set h62 63 0 v52 := ⟨_, rfl⟩
            rw [← k63]
            have hJ63 := JP.fix hP62 b52 k63
            refine ev_aload_n rfl rfl rfl ?_
            refine ev_dup rfl rfl rfl ?_
            refine ev_getW (l := (-2147483648)) (u := 2147483647) hJ63.1 rfl rfl rfl fl_X10_131 rfl rfl rfl (fun v64 b64 e64 => ?_)
            refine ev_iconst (v := 1) rfl rfl (by decide) ?_
            refine ev_iaddA rfl rfl (fun v65 g65 => ?_)
            refine ev_putW (l := (-2147483648)) (u := 2147483647) hJ63 rfl (B.any v65) (by decide) (by decide) rfl rfl rfl fl_X10_131 rfl rfl rfl rfl rfl (fun h66 hJ66 k66 => ?_)
            refine ev_iload_n rfl rfl rfl ?_
            exact ev_iret rfl rfl rfl ⟨⟨_, rfl, (q7.mono (by decide) (by decide))⟩, rfl, hJ66⟩
          · have b59 : B v8 1 2147483646 := R_ltX b12 b57 (Int32.not_le.mp c58) (by decide)
            have b60 : B v57 2 2147483647 := R_ltY b12 b57 (Int32.not_le.mp c58) (by decide)
            refine ev_iconst (v := 0) rfl rfl (by decide) ?_
            refine ev_goto rfl rfl ?_
            refine ev_putI rfl rfl fl_X10_13 rfl rfl rfl rfl rfl ?_
            obtain ⟨h67, k67⟩ : ∃ z_, z_ = ev_set h51 63 1 0 := ⟨_, rfl⟩
            rw [← k67]
            have hP67 := JP.put hP51 rfl rfl ((by decide : B 0 0 0).mono (by decide) (by decide)) k67
            refine ev_aload_n rfl rfl rfl ?_
            refine ev_aload_n rfl rfl rfl ?_
            refine ev_getV (v := v52) rfl rfl fl_X10_19 rfl rfl rfl (rd_o k67 e52 rfl) ?_
            refine ev_putI rfl rfl fl_X10_7 rfl rfl rfl rfl rfl ?_
            obtain ⟨h68, k68⟩ : ∃ z_, z_ = ev_set h67 63 0 v52 := ⟨_, rfl⟩
            rw [← k68]
            have hJ68 := JP.fix hP67 b52 k68
            refine ev_aload_n rfl rfl rfl ?_
            refine ev_dup rfl rfl rfl ?_
            refine ev_getW (l := (-2147483648)) (u := 2147483647) hJ68.1 rfl rfl rfl fl_X10_131 rfl rfl rfl (fun v69 b69 e69 => ?_)
            refine ev_iconst (v := 1) rfl rfl (by decide) ?_
            refine ev_iaddA rfl rfl (fun v70 g70 => ?_)
            refine ev_putW (l := (-2147483648)) (u := 2147483647) hJ68 rfl (B.any v70) (by decide) (by decide) rfl rfl rfl fl_X10_131 rfl rfl rfl rfl rfl (fun h71 hJ71 k71 => ?_)
            refine ev_iload_n rfl rfl rfl ?_
            exact ev_iret rfl rfl rfl ⟨⟨_, rfl, (q7.mono (by decide) (by decide))⟩, rfl, hJ71⟩
      · have b50 : B v46 (-2147483648) (-1) := R_ltX (B.any v46) (by decide : B 0 0 0) (Int32.not_le.mp c48) (by decide)
        refine ev_iconst (v := 0) rfl rfl (by decide) ?_
        refine ev_goto rfl rfl ?_
        refine ev_putI rfl rfl fl_X10_7 rfl rfl rfl rfl rfl ?_
        obtain ⟨h72, k72⟩ : ∃ z_, z_ = ev_set h47 63 0 0 := ⟨_, rfl⟩
        rw [← k72]
        have hJ72 := JP.fix hP47 ((by decide : B 0 0 0).mono (by decide) (by decide)) k72
        refine ev_aload_n rfl rfl rfl ?_
        refine ev_getV (v := 0) rfl rfl fl_X10_7 rfl rfl rfl (rd_s k72) ?_
        refine ev_aload_n rfl rfl rfl ?_
        refine ev_getW (l := 0) (u := 200) hJ72.1 rfl rfl rfl fl_X10_19 rfl rfl rfl (fun v73 b73 e73 => ?_)
        refine ev_icmp_le rfl rfl (fun c74 => ?_) (fun c74 => absurd (D_le (by decide : B 0 0 0) b73 (by decide)) c74)
        refine ev_iload_n rfl rfl rfl ?_
        exact ev_iret rfl rfl rfl ⟨⟨_, rfl, (q7.mono (by decide) (by decide))⟩, rfl, hJ72⟩
  · have b4 : B r1 (-2147483647) 2147483647 := R_ltY (B.any v2) (B.any r1) (Int32.not_le.mp c3) (by decide)
    have b5 : B v2 (-2147483648) 2147483646 := R_ltX (B.any v2) (B.any r1) (Int32.not_le.mp c3) (by decide)
    refine ev_bipush (v := (-5)) rfl rfl (by decide) ?_
    exact ev_iret rfl rfl rfl ⟨⟨_, rfl, ((by decide : B (-5) (-5) (-5)).mono (by decide) (by decide))⟩, rfl, hJ0⟩

set_option maxRecDepth 100000 in
set_option maxHeartbeats 4000000 in
theorem w_X10_feed_63 (L : Nat) (b : Bool) (h : Hp) (hB : Bx h) (a0 : Int64) : EvJ mi_X10_feed [.ref 63, .long a0] (G0 L b) h (fun r : Int32 => B r (-3) 160) [(63, 16), (72, 999)] := by
  refine EvM.of2 (lo := [some (.ref 63), some (.long a0), none, none]) pf_X10_feed ok_X10_feed rfl rfl ?_
  have hJ0 : JW [(63, 16), (72, 999)] h h := JW.refl hB
  obtain ⟨f1, ef1⟩ : ∃ f_, h 63 16 = f_ := ⟨_, rfl⟩
  have bf1 : B f1 0 160 := by have z_ := hJ0.1 63 16; rw [ef1] at z_; exact z_
  have zf1 := congrArg Int32.toInt ef1
  refine ev_aload_n rfl rfl rfl ?_
  refine ev_getV (v := f1) rfl rfl fl_X10_186 rfl rfl rfl ef1 ?_
  refine ev_bipush (v := 8) rfl rfl (by decide) ?_
  refine ev_iaddB (l := 8) (u := 168) rfl rfl bf1 (by decide : B 8 8 8) (by decide) (by decide) (by decide) (by decide) (fun v2 b2 e2 g2 => ?_)
  have e2x := e2; rw [show (8 : Int32).toInt = 8 from by decide] at e2x
  refine ev_sipush (v := 160) rfl rfl (by decide) ?_
  refine ev_icmp_le rfl rfl (fun c3 => ?_) (fun c3 => ?_)
  · have b4 : B v2 8 160 := R_leX b2 (by decide : B 160 160 160) c3 (by decide)
    have b5 : B f1 0 152 := (R_bk (l' := 0) (u' := 152) e2 b4 (by decide : B 8 8 8) (by decide) (by decide))
    have z6 := w_le c3
    rw [show (160 : Int32).toInt = 160 from by decide] at z6
    refine ev_bipush (v := 56) rfl rfl (by decide) ?_
    refine ev_istore_n rfl rfl rfl rfl ?_
    dsimp only [List.set]
    have lp19_76 : ∀ (n : Nat) (w77 : Int32) (h79 : Hp), B w77 (-8) 56 → JW [(63, 16), (72, 999)] h h79 → ((h79 63 16).toInt * 8 + w77.toInt = (h 63 16).toInt * 8 + 56) → w77.toInt + 1 - (-8) ≤ (n : Int) → EvQ mi_X10_feed 19 [some (.ref 63), some (.long a0), none, some (.int w77)] [] (G0 L b) h79 0 0 (QJ (fun r : Int32 => B r (-3) 160) [(63, 16), (72, 999)] (G0 L b) h) := by
      intro n
      induction n with
      | zero =>
        intro w77 h79 b78 hJ80 y19_0 hm19
        exact absurd hm19 (M_zero b78 (by decide))
      | succ n ih19 =>
        intro w77 h79 b78 hJ80 y19_0 hm19
        obtain ⟨f81, ef81⟩ : ∃ f_, h79 63 16 = f_ := ⟨_, rfl⟩
        have bf81 : B f81 0 160 := by have z_ := hJ80.1 63 16; rw [ef81] at z_; exact z_
        have zf81 := congrArg Int32.toInt ef81
        have z82 := congrArg Int32.toInt ef81
        refine ev_iload_n rfl rfl rfl ?_
        refine ev_if_lt rfl rfl (fun c83 => ?_) (fun c83 => ?_)
        · have b84 : B w77 (-8) (-1) := R_ltX b78 (by decide : B 0 0 0) c83 (by decide)
          have z85 := w_lt c83
          rw [show (0 : Int32).toInt = 0 from by decide] at z85
          refine ev_aload_n rfl rfl rfl ?_
          refine ev_getV (v := f81) rfl rfl fl_X10_186 rfl rfl rfl ef81 ?_
          exact ev_iret rfl rfl rfl ⟨⟨_, rfl, (bf81.mono (by decide) (by decide))⟩, rfl, hJ80⟩
        · have b86 : B w77 0 56 := R_leY (by decide : B 0 0 0) b78 (Int32.not_lt.mp c83) (by decide)
          have z87 := w_le (Int32.not_lt.mp c83)
          rw [show (0 : Int32).toInt = 0 from by decide] at z87
          refine ev_aload_n rfl rfl rfl ?_
          refine ev_getR (y := 72) rfl rfl fl_X10_48 rfl rfl rfl rfl ?_
          refine ev_aload_n rfl rfl rfl ?_
          refine ev_getV (v := f81) rfl rfl fl_X10_186 rfl rfl rfl ef81 ?_
          have b88 : B f81 0 159 := ⟨(by have z0_ := congrArg Int32.toInt ef81; have z_ := w_lits; have zl_ := l_lits; omega), (by have z0_ := congrArg Int32.toInt ef81; have z_ := w_lits; have zl_ := l_lits; omega)⟩
          refine ev_lload_n rfl rfl rfl ?_
          refine ev_iload_n rfl rfl rfl ?_
          refine ev_lshr rfl rfl ?_
          refine ev_ldc2 (v := 255) rfl rfl kc_X10_189 ?_
          refine ev_land rfl rfl ?_
          refine ev_l2i rfl rfl ?_
          have b89 := B.l255 (a0 >>> (Int32.toInt64 w77 &&& 63))
          generalize Int64.toInt32 ((a0 >>> (Int32.toInt64 w77 &&& 63)) &&& 255) = v89 at b89 ⊢
          refine ev_iasW (n := 160) (l := 0) (u := 255) hJ80 b88 (by decide) (by decide) (fun _ => rfl) b89 (by decide) (by decide) (fun _ => rfl) rfl rfl rfl rfl (fun h90 hJ90 k90 => ?_)
          refine ev_aload_n rfl rfl rfl ?_
          refine ev_dup rfl rfl rfl ?_
          refine ev_getV (v := f81) rfl rfl fl_X10_186 rfl rfl rfl (rd_a k90 ef81 rfl) ?_
          refine ev_iconst (v := 1) rfl rfl (by decide) ?_
          refine ev_iaddB (l := 1) (u := 160) rfl rfl b88 (by decide : B 1 1 1) (by decide) (by decide) (by decide) (by decide) (fun v91 b91 e91 g91 => ?_)
          have e91x := e91; rw [show (1 : Int32).toInt = 1 from by decide] at e91x
          have b92 : B v91 0 160 := ⟨(by have z0_ := congrArg Int32.toInt (rd_a k90 ef81 rfl); have z_ := w_lits; have zl_ := l_lits; omega), (by have z0_ := congrArg Int32.toInt (rd_a k90 ef81 rfl); have z_ := w_lits; have zl_ := l_lits; omega)⟩
          refine ev_putW (l := 0) (u := 160) hJ90 rfl b92 (by decide) (by decide) rfl rfl rfl fl_X10_186 rfl rfl rfl rfl rfl (fun h93 hJ93 k93 => ?_)
          refine ev_iincB (y := (-8)) (l := -8) (u := 48) rfl rfl rfl (by decide) rfl rfl b86 (by decide : B (-8) (-8) (-8)) (by decide) (by decide) (by decide) (by decide) (fun v94 b94 e94 => ?_)
          dsimp only [List.set]
          have e94x := e94; rw [show ((-8) : Int32).toInt = (-8) from by decide] at e94x
          refine ev_goto rfl rfl ?_
          exact (ih19 v94 h93 (b94.mono (by decide) (by decide)) hJ93 (by have z0_ := congrArg Int32.toInt (rd_s k93); have z_ := w_lits; have zl_ := l_lits; omega) (M_dn hm19 (e_m1 e94 (by decide))))
    exact (lp19_76 65 56 h ((by decide : B 56 56 56).mono (by decide) (by decide)) hJ0 (by have z0_ := congrArg Int32.toInt ef1; have z_ := w_lits; have zl_ := l_lits; omega) (M_init (by decide : B 56 56 56) (by decide)))
  · have b7 : B v2 161 168 := R_ltY (by decide : B 160 160 160) b2 (Int32.not_le.mp c3) (by decide)
    have b8 : B f1 153 160 := (R_bk (l' := 153) (u' := 160) e2 b7 (by decide : B 8 8 8) (by decide) (by decide))
    have z9 := w_lt (Int32.not_le.mp c3)
    rw [show (160 : Int32).toInt = 160 from by decide] at z9
    refine ev_bipush (v := (-3)) rfl rfl (by decide) ?_
    exact ev_iret rfl rfl rfl ⟨⟨_, rfl, ((by decide : B (-3) (-3) (-3)).mono (by decide) (by decide))⟩, rfl, hJ0⟩

set_option maxRecDepth 100000 in
set_option maxHeartbeats 4000000 in
theorem w_X10_scan_63 (L : Nat) (b : Bool) (h : Hp) (hB : Bx h) (a0 : Int32) (a1 : Int32) (a2 : Int32) (a3 : Int32) : EvJ mi_X10_scan [.ref 63, .int a0, .int a1, .int a2, .int a3] (G0 L b) h (fun r : Int32 => B r (-2147483648) 12) [(63, 5), (64, 999), (65, 999), (66, 999), (67, 999), (68, 999), (69, 999), (70, 999)] := by
  refine EvM.of2 (lo := [some (.ref 63), some (.int a0), some (.int a1), some (.int a2), some (.int a3), none, none, none, none, none, none, none]) pf_X10_scan ok_X10_scan rfl rfl ?_
  have hJ0 : JW [(63, 5), (64, 999), (65, 999), (66, 999), (67, 999), (68, 999), (69, 999), (70, 999)] h h := JW.refl hB
  obtain ⟨f1, ef1⟩ : ∃ f_, h 63 5 = f_ := ⟨_, rfl⟩
  have bf1 : B f1 0 12 := by have z_ := hJ0.1 63 5; rw [ef1] at z_; exact z_
  have zf1 := congrArg Int32.toInt ef1
  refine ev_iload_n rfl rfl rfl ?_
  refine ev_iload_n rfl rfl rfl ?_
  refine ev_S2P rfl rfl lk_X10_335 st_X10_isSheet rfl rfl (w_X10_isSheet L b h hJ0.1 a0 a1) (fun r2 q2 => ?_)
  obtain ⟨b2, p2_0, p2_1⟩ := q2
  refine ev_if_eq rfl rfl (fun c3 => ?_) (fun c3 => ?_)
  · have b4 : B r2 0 0 := R_eqX b2 (by decide : B 0 0 0) c3
    have z5 := congrArg Int32.toInt c3
    rw [show (0 : Int32).toInt = 0 from by decide] at z5
    refine ev_iconst (v := (-1)) rfl rfl (by decide) ?_
    exact ev_iret rfl rfl rfl ⟨⟨_, rfl, ((by decide : B (-1) (-1) (-1)).mono (by decide) (by decide))⟩, rfl, hJ0⟩
  · have b6 : B r2 1 1 := R_neL b2 (by decide : B 0 0 0) c3 (by decide)
    have b7 : B a0 0 3 := p2_0 c3
    have b8 : B a1 0 2 := p2_1 c3
    have z9 := w_ne c3
    rw [show (0 : Int32).toInt = 0 from by decide] at z9
    refine ev_iload rfl rfl rfl ?_
    refine ev_i2l rfl rfl ?_
    have z10 := Int32.toInt_toInt64 a3
    have z10b := B.any a3
    refine ev_lconst (v := 0) rfl rfl rfl ?_
    refine ev_ldc2 (v := 12) rfl rfl kc_X10_358 ?_
    have z11 := congrArg Int32.toInt ef1
    refine ev_S3P rfl rfl lk_X10_124 st_X10_in rfl rfl (w_inR (G0 L b) h a3 0 12 (by decide : BL 0 0 0) (by decide : BL 12 12 12)) (fun r12 q12 => ?_)
    obtain ⟨b12, p12_0, pp12_0, pp12_1⟩ := q12
    refine ev_if_ne rfl rfl (fun c13 => ?_) (fun c13 => ?_)
    · have b14 : B r12 1 1 := R_neL b12 (by decide : B 0 0 0) c13 (by decide)
      have b15 : B a3 0 12 := p12_0 c13
      have z16 := w_ne c13
      rw [show (0 : Int32).toInt = 0 from by decide] at z16
      refine ev_aload_n rfl rfl rfl ?_
      refine ev_getR (y := 92) rfl rfl fl_X10_112 rfl rfl rfl rfl ?_
      refine ev_iload_n rfl rfl rfl ?_
      refine ev_ialW (n := 4) (l := (-2147483648)) (u := 2147483647) hJ0.1 b7 (by decide) (by decide) (fun _ => rfl) rfl rfl rfl (fun v19 b19 e19 => ?_)
      refine ev_iload_n rfl rfl rfl ?_
      refine ev_icmp_eq rfl rfl (fun c20 => ?_) (fun c20 => ?_)
      · have b21 : B v19 0 2 := R_eqX (B.any v19) b8 c20
        have z22 := congrArg Int32.toInt c20
        refine ev_aload_n rfl rfl rfl ?_
        refine ev_getV (v := f1) rfl rfl fl_X10_121 rfl rfl rfl ef1 ?_
        refine ev_istore rfl rfl rfl rfl ?_
        dsimp only [List.set]
        refine ev_iconst (v := 0) rfl rfl (by decide) ?_
        refine ev_istore rfl rfl rfl rfl ?_
        dsimp only [List.set]
        refine ev_iconst (v := 0) rfl rfl (by decide) ?_
        refine ev_istore rfl rfl rfl rfl ?_
        dsimp only [List.set]
        have lp64_514 : ∀ (n : Nat) (w515 : Int32) (w516 : Int32) (h519 : Hp), B w515 (-23) 0 → B w516 0 12 → JW [(63, 5), (64, 999), (65, 999), (66, 999), (67, 999), (68, 999), (69, 999), (70, 999)] h h519 → (h519 92 (Int32.toNatClampNeg a0) = v19) → 12 + 1 - w516.toInt ≤ (n : Int) → EvQ mi_X10_scan 64 [some (.ref 63), some (.int a0), some (.int a1), some (.int a2), some (.int a3), some (.int f1), some (.int w515), some (.int w516), none, none, none, none] [] (G0 L b) h519 0 0 (QJ (fun r : Int32 => B r (-2147483648) 12) [(63, 5), (64, 999), (65, 999), (66, 999), (67, 999), (68, 999), (69, 999), (70, 999)] (G0 L b) h) := by
          intro n
          induction n with
          | zero =>
            intro w515 w516 h519 b517 b518 hJ520 z521 hm64
            exact absurd hm64 (L_zero b518 (by decide))
          | succ n ih64 =>
            intro w515 w516 h519 b517 b518 hJ520 z521 hm64
            obtain ⟨f522, ef522⟩ : ∃ f_, h519 63 5 = f_ := ⟨_, rfl⟩
            have bf522 : B f522 0 12 := by have z_ := hJ520.1 63 5; rw [ef522] at z_; exact z_
            have zf522 := congrArg Int32.toInt ef522
            have z523 := congrArg Int32.toInt ef522
            refine ev_iload rfl rfl rfl ?_
            refine ev_iload rfl rfl rfl ?_
            refine ev_icmp_ge rfl rfl (fun c524 => ?_) (fun c524 => ?_)
            · have z525 := w_le c524
              refine ev_aload_n rfl rfl rfl ?_
              refine ev_iload rfl rfl rfl ?_
              refine ev_if_ge rfl rfl (fun c529 => ?_) (fun c529 => ?_)
              · have b530 : B w515 0 0 := R_leY (by decide : B 0 0 0) b517 c529 (by decide)
                have z531 := w_le c529
                rw [show (0 : Int32).toInt = 0 from by decide] at z531
                refine ev_aload_n rfl rfl rfl ?_
                refine ev_getV (v := f522) rfl rfl fl_X10_121 rfl rfl rfl ef522 ?_
                refine ev_putW (l := 0) (u := 12) hJ520 rfl bf522 (by decide) (by decide) rfl rfl rfl fl_X10_121 rfl rfl rfl rfl rfl (fun h534 hJ534 k534 => ?_)
                refine ev_iload rfl rfl rfl ?_
                refine ev_if_ge rfl rfl (fun c535 => ?_) (fun c535 => absurd (D_le (by decide : B 0 0 0) b530 (by decide)) c535)
                have z536 := w_le c535
                rw [show (0 : Int32).toInt = 0 from by decide] at z536
                refine ev_aload_n rfl rfl rfl ?_
                refine ev_getV (v := f522) rfl rfl fl_X10_121 rfl rfl rfl (rd_s k534) ?_
                exact ev_iret rfl rfl rfl ⟨⟨_, rfl, (bf522.mono (by decide) (by decide))⟩, rfl, hJ534⟩
              · have b532 : B w515 (-23) (-1) := R_ltX b517 (by decide : B 0 0 0) (Int32.not_le.mp c529) (by decide)
                have z533 := w_lt (Int32.not_le.mp c529)
                rw [show (0 : Int32).toInt = 0 from by decide] at z533
                refine ev_iload rfl rfl rfl ?_
                refine ev_goto rfl rfl ?_
                refine ev_putW (l := 0) (u := 12) hJ520 rfl bf1 (by decide) (by decide) rfl rfl rfl fl_X10_121 rfl rfl rfl rfl rfl (fun h537 hJ537 k537 => ?_)
                refine ev_iload rfl rfl rfl ?_
                refine ev_if_ge rfl rfl (fun c538 => absurd c538 (D_nle (by decide : B 0 0 0) b532 (by decide))) (fun c538 => ?_)
                have z539 := w_lt (Int32.not_le.mp c538)
                rw [show (0 : Int32).toInt = 0 from by decide] at z539
                refine ev_iload rfl rfl rfl ?_
                refine ev_goto rfl rfl ?_
                exact ev_iret rfl rfl rfl ⟨⟨_, rfl, (b532.mono (by decide) (by decide))⟩, rfl, hJ537⟩
            · have b526 : B w516 0 11 := R_ltX b518 b15 (Int32.not_le.mp c524) (by decide)
              have b527 : B a3 1 12 := R_ltY b518 b15 (Int32.not_le.mp c524) (by decide)
              have z528 := w_lt (Int32.not_le.mp c524)
              refine ev_iload rfl rfl rfl ?_
              refine ev_if_ne rfl rfl (fun c540 => ?_) (fun c540 => ?_)
              · have b541 : B w515 (-23) (-1) := R_neU b517 (by decide : B 0 0 0) c540 (by decide)
                have z542 := w_ne c540
                rw [show (0 : Int32).toInt = 0 from by decide] at z542
                refine ev_aload_n rfl rfl rfl ?_
                refine ev_iload rfl rfl rfl ?_
                refine ev_if_ge rfl rfl (fun c545 => absurd c545 (D_nle (by decide : B 0 0 0) b541 (by decide))) (fun c545 => ?_)
                have z546 := w_lt (Int32.not_le.mp c545)
                rw [show (0 : Int32).toInt = 0 from by decide] at z546
                refine ev_iload rfl rfl rfl ?_
                refine ev_goto rfl rfl ?_
                refine ev_putW (l := 0) (u := 12) hJ520 rfl bf1 (by decide) (by decide) rfl rfl rfl fl_X10_121 rfl rfl rfl rfl rfl (fun h547 hJ547 k547 => ?_)
                refine ev_iload rfl rfl rfl ?_
                refine ev_if_ge rfl rfl (fun c548 => absurd c548 (D_nle (by decide : B 0 0 0) b541 (by decide))) (fun c548 => ?_)
                have z549 := w_lt (Int32.not_le.mp c548)
                rw [show (0 : Int32).toInt = 0 from by decide] at z549
                refine ev_iload rfl rfl rfl ?_
                refine ev_goto rfl rfl ?_
                exact ev_iret rfl rfl rfl ⟨⟨_, rfl, (b541.mono (by decide) (by decide))⟩, rfl, hJ547⟩
              · have b543 : B w515 0 0 := R_eqX b517 (by decide : B 0 0 0) c540
                have z544 := congrArg Int32.toInt c540
                rw [show (0 : Int32).toInt = 0 from by decide] at z544
                refine ev_iload_n rfl rfl rfl ?_
                refine ev_i2l rfl rfl ?_
                have z550 := Int32.toInt_toInt64 a2
                have z550b := B.any a2
                refine ev_iconst (v := 4) rfl rfl (by decide) ?_
                refine ev_iload rfl rfl rfl ?_
                refine ev_imulB (l := 0) (u := 44) rfl rfl (by decide : B 4 4 4) b526 (by decide) (by decide) (by decide) (by decide) (by decide) (fun v551 b551 e551 g551 => ?_)
                rw [show (4 : Int32).toInt = 4 from by decide] at e551
                refine ev_i2l rfl rfl ?_
                have z552 := Int32.toInt_toInt64 v551
                have z552b := B.any v551
                refine ev_ladd rfl rfl ?_
                have z553 := l_add (Int32.toInt64 a2) (Int32.toInt64 v551) (by have z_ := l_lits; omega) (by have z_ := l_lits; omega) (by have z_ := l_lits; omega) (by have z_ := l_lits; omega)
                refine ev_lstore rfl rfl rfl rfl ?_
                dsimp only [List.set]
                refine ev_lload rfl rfl rfl ?_
                refine ev_lconst (v := 0) rfl rfl rfl ?_
                refine ev_lcmp rfl rfl ?_
                have z554 := l_cmp ((Int32.toInt64 a2) + (Int32.toInt64 v551)) 0
                generalize lg_cmp ((Int32.toInt64 a2) + (Int32.toInt64 v551)) 0 = v554 at z554 ⊢
                refine ev_if_lt rfl rfl (fun c555 => ?_) (fun c555 => ?_)
                · have b556 : B v554 (-2147483648) (-1) := R_ltX (B.any v554) (by decide : B 0 0 0) c555 (by decide)
                  have z557 := w_lt c555
                  rw [show (0 : Int32).toInt = 0 from by decide] at z557
                  refine ev_bipush (v := (-12)) rfl rfl (by decide) ?_
                  refine ev_istore rfl rfl rfl rfl ?_
                  dsimp only [List.set]
                  refine ev_goto rfl rfl ?_
                  refine ev_iincB (y := 1) (l := 1) (u := 12) rfl rfl rfl (by decide) rfl rfl b526 (by decide : B 1 1 1) (by decide) (by decide) (by decide) (by decide) (fun v560 b560 e560 => ?_)
                  dsimp only [List.set]
                  have e560x := e560; rw [show (1 : Int32).toInt = 1 from by decide] at e560x
                  refine ev_goto rfl rfl ?_
                  exact (EvQ.drop 8 (ih64 (-12) v560 h519 ((by decide : B (-12) (-12) (-12)).mono (by decide) (by decide)) (b560.mono (by decide) (by decide)) hJ520 z521 (L_up hm64 (e_p1 e560 (by decide)))))
                · have b558 : B v554 0 2147483647 := R_leY (by decide : B 0 0 0) (B.any v554) (Int32.not_lt.mp c555) (by decide)
                  have z559 := w_le (Int32.not_lt.mp c555)
                  rw [show (0 : Int32).toInt = 0 from by decide] at z559
                  refine ev_lload rfl rfl rfl ?_
                  refine ev_ldc2 (v := 4) rfl rfl kc_X10_360 ?_
                  refine ev_ladd rfl rfl ?_
                  have z561 := l_add ((Int32.toInt64 a2) + (Int32.toInt64 v551)) 4 (by have z_ := l_lits; omega) (by have z_ := l_lits; omega) (by have z_ := l_lits; omega) (by have z_ := l_lits; omega)
                  refine ev_aload_n rfl rfl rfl ?_
                  refine ev_getR (y := 93) rfl rfl fl_X10_115 rfl rfl rfl rfl ?_
                  refine ev_iload_n rfl rfl rfl ?_
                  refine ev_ialW (n := 4) (l := 0) (u := 60) hJ520.1 b7 (by decide) (by decide) (fun _ => rfl) rfl rfl rfl (fun v562 b562 e562 => ?_)
                  refine ev_i2l rfl rfl ?_
                  have z563 := Int32.toInt_toInt64 v562
                  have z563b := B.any v562
                  refine ev_lcmp rfl rfl ?_
                  have z564 := l_cmp (((Int32.toInt64 a2) + (Int32.toInt64 v551)) + 4) (Int32.toInt64 v562)
                  generalize lg_cmp (((Int32.toInt64 a2) + (Int32.toInt64 v551)) + 4) (Int32.toInt64 v562) = v564 at z564 ⊢
                  refine ev_if_le rfl rfl (fun c565 => ?_) (fun c565 => ?_)
                  · have b566 : B v564 (-2147483648) 0 := R_leX (B.any v564) (by decide : B 0 0 0) c565 (by decide)
                    have z567 := w_le c565
                    rw [show (0 : Int32).toInt = 0 from by decide] at z567
                    refine ev_bipush (v := 60) rfl rfl (by decide) ?_
                    refine ev_iload_n rfl rfl rfl ?_
                    refine ev_imulB (l := 0) (u := 180) rfl rfl (by decide : B 60 60 60) b7 (by decide) (by decide) (by decide) (by decide) (by decide) (fun v570 b570 e570 g570 => ?_)
                    rw [show (60 : Int32).toInt = 60 from by decide] at e570
                    refine ev_lload rfl rfl rfl ?_
                    refine ev_l2i rfl rfl ?_
                    have z571 := l_2i ((Int32.toInt64 a2) + (Int32.toInt64 v551)) (by have z_ := l_lits; have z2_ := w_lits; omega) (by have z_ := l_lits; have z2_ := w_lits; omega)
                    generalize Int64.toInt32 ((Int32.toInt64 a2) + (Int32.toInt64 v551)) = v571 at z571 ⊢
                    have b572 : B v571 0 56 := ⟨(by have z0_ := congrArg Int32.toInt ef522; have z_ := w_lits; have zl_ := l_lits; omega), (by have z0_ := congrArg Int32.toInt ef522; have z_ := w_lits; have zl_ := l_lits; omega)⟩
                    refine ev_iaddB (l := 0) (u := 236) rfl rfl b570 b572 (by decide) (by decide) (by decide) (by decide) (fun v573 b573 e573 g573 => ?_)
                    refine ev_istore rfl rfl rfl rfl ?_
                    dsimp only [List.set]
                    refine ev_aload_n rfl rfl rfl ?_
                    refine ev_aload_n rfl rfl rfl ?_
                    refine ev_getR (y := 94) rfl rfl fl_X10_118 rfl rfl rfl rfl ?_
                    refine ev_iload rfl rfl rfl ?_
                    refine ev_ialW (n := 240) (l := (-2147483648)) (u := 2147483647) hJ520.1 b573 (by decide) (by decide) (fun _ => rfl) rfl rfl rfl (fun v574 b574 e574 => ?_)
                    refine ev_aload_n rfl rfl rfl ?_
                    refine ev_getR (y := 94) rfl rfl fl_X10_118 rfl rfl rfl rfl ?_
                    refine ev_iload rfl rfl rfl ?_
                    refine ev_iconst (v := 1) rfl rfl (by decide) ?_
                    refine ev_iaddB (l := 1) (u := 237) rfl rfl b573 (by decide : B 1 1 1) (by decide) (by decide) (by decide) (by decide) (fun v575 b575 e575 g575 => ?_)
                    have e575x := e575; rw [show (1 : Int32).toInt = 1 from by decide] at e575x
                    refine ev_ialW (n := 240) (l := (-2147483648)) (u := 2147483647) hJ520.1 b575 (by decide) (by decide) (fun _ => rfl) rfl rfl rfl (fun v576 b576 e576 => ?_)
                    refine ev_aload_n rfl rfl rfl ?_
                    refine ev_getR (y := 94) rfl rfl fl_X10_118 rfl rfl rfl rfl ?_
                    refine ev_iload rfl rfl rfl ?_
                    refine ev_iconst (v := 2) rfl rfl (by decide) ?_
                    refine ev_iaddB (l := 2) (u := 238) rfl rfl b573 (by decide : B 2 2 2) (by decide) (by decide) (by decide) (by decide) (fun v577 b577 e577 g577 => ?_)
                    have e577x := e577; rw [show (2 : Int32).toInt = 2 from by decide] at e577x
                    refine ev_ialW (n := 240) (l := (-2147483648)) (u := 2147483647) hJ520.1 b577 (by decide) (by decide) (fun _ => rfl) rfl rfl rfl (fun v578 b578 e578 => ?_)
                    refine ev_aload_n rfl rfl rfl ?_
                    refine ev_getR (y := 94) rfl rfl fl_X10_118 rfl rfl rfl rfl ?_
                    refine ev_iload rfl rfl rfl ?_
                    refine ev_iconst (v := 3) rfl rfl (by decide) ?_
                    refine ev_iaddB (l := 3) (u := 239) rfl rfl b573 (by decide : B 3 3 3) (by decide) (by decide) (by decide) (by decide) (fun v579 b579 e579 g579 => ?_)
                    have e579x := e579; rw [show (3 : Int32).toInt = 3 from by decide] at e579x
                    refine ev_ialW (n := 240) (l := (-2147483648)) (u := 2147483647) hJ520.1 b579 (by decide) (by decide) (fun _ => rfl) rfl rfl rfl (fun v580 b580 e580 => ?_)
                    refine ev_if_eq rfl rfl (fun c581 => ?_) (fun c581 => ?_)
                    · have b582 : B v580 0 0 := R_eqX (B.any v580) (by decide : B 0 0 0) c581
                      have z583 := congrArg Int32.toInt c581
                      rw [show (0 : Int32).toInt = 0 from by decide] at z583
                      refine ev_iconst (v := 0) rfl rfl (by decide) ?_
                      refine ev_V4J hJ520 rfl rfl rfl lk_X10_362 vt_X10_whistle rfl rfl rfl rfl rfl (w_X10_whistle_63 L b h519 hJ520.1 v574 v576 v578 0 ((by decide : B 0 0 0).mono (by decide) (by decide))) (fun r585 h585 q585 hJ585 k585 => ?_)
                      obtain ⟨f586, ef586⟩ : ∃ f_, h585 63 5 = f_ := ⟨_, rfl⟩
                      have bf586 : B f586 0 12 := by have z_ := hJ585.1 63 5; rw [ef586] at z_; exact z_
                      have zf586 := congrArg Int32.toInt ef586
                      refine ev_istore rfl rfl rfl rfl ?_
                      dsimp only [List.set]
                      refine ev_iload rfl rfl rfl ?_
                      refine ev_if_ge rfl rfl (fun c587 => ?_) (fun c587 => ?_)
                      · have b588 : B r585 0 11 := R_leY (by decide : B 0 0 0) q585 c587 (by decide)
                        have z589 := w_le c587
                        rw [show (0 : Int32).toInt = 0 from by decide] at z589
                        refine ev_iconst (v := 0) rfl rfl (by decide) ?_
                        refine ev_istore rfl rfl rfl rfl ?_
                        dsimp only [List.set]
                        refine ev_iincB (y := 1) (l := 1) (u := 12) rfl rfl rfl (by decide) rfl rfl b526 (by decide : B 1 1 1) (by decide) (by decide) (by decide) (by decide) (fun v592 b592 e592 => ?_)
                        dsimp only [List.set]
                        have e592x := e592; rw [show (1 : Int32).toInt = 1 from by decide] at e592x
                        refine ev_goto rfl rfl ?_
                        exact (EvQ.drop 11 (EvQ.drop 10 (EvQ.drop 8 (ih64 0 v592 h585 ((by decide : B 0 0 0).mono (by decide) (by decide)) (b592.mono (by decide) (by decide)) hJ585 (rd_w k585 z521 rfl) (L_up hm64 (e_p1 e592 (by decide)))))))
                      · have b590 : B r585 (-3) (-1) := R_ltX q585 (by decide : B 0 0 0) (Int32.not_le.mp c587) (by decide)
                        have z591 := w_lt (Int32.not_le.mp c587)
                        rw [show (0 : Int32).toInt = 0 from by decide] at z591
                        refine ev_bipush (v := (-20)) rfl rfl (by decide) ?_
                        refine ev_iload rfl rfl rfl ?_
                        refine ev_iaddB (l := -23) (u := -21) rfl rfl (by decide : B (-20) (-20) (-20)) b590 (by decide) (by decide) (by decide) (by decide) (fun v593 b593 e593 g593 => ?_)
                        have e593x := e593; rw [show ((-20) : Int32).toInt = (-20) from by decide] at e593x
                        refine ev_goto rfl rfl ?_
                        refine ev_istore rfl rfl rfl rfl ?_
                        dsimp only [List.set]
                        refine ev_iincB (y := 1) (l := 1) (u := 12) rfl rfl rfl (by decide) rfl rfl b526 (by decide : B 1 1 1) (by decide) (by decide) (by decide) (by decide) (fun v594 b594 e594 => ?_)
                        dsimp only [List.set]
                        have e594x := e594; rw [show (1 : Int32).toInt = 1 from by decide] at e594x
                        refine ev_goto rfl rfl ?_
                        exact (EvQ.drop 11 (EvQ.drop 10 (EvQ.drop 8 (ih64 v593 v594 h585 (b593.mono (by decide) (by decide)) (b594.mono (by decide) (by decide)) hJ585 (rd_w k585 z521 rfl) (L_up hm64 (e_p1 e594 (by decide)))))))
                    · have z584 := w_ne c581
                      rw [show (0 : Int32).toInt = 0 from by decide] at z584
                      refine ev_iconst (v := 1) rfl rfl (by decide) ?_
                      refine ev_goto rfl rfl ?_
                      refine ev_V4J hJ520 rfl rfl rfl lk_X10_362 vt_X10_whistle rfl rfl rfl rfl rfl (w_X10_whistle_63 L b h519 hJ520.1 v574 v576 v578 1 ((by decide : B 1 1 1).mono (by decide) (by decide))) (fun r595 h595 q595 hJ595 k595 => ?_)
                      obtain ⟨f596, ef596⟩ : ∃ f_, h595 63 5 = f_ := ⟨_, rfl⟩
                      have bf596 : B f596 0 12 := by have z_ := hJ595.1 63 5; rw [ef596] at z_; exact z_
                      have zf596 := congrArg Int32.toInt ef596
                      refine ev_istore rfl rfl rfl rfl ?_
                      dsimp only [List.set]
                      refine ev_iload rfl rfl rfl ?_
                      refine ev_if_ge rfl rfl (fun c597 => ?_) (fun c597 => ?_)
                      · have b598 : B r595 0 11 := R_leY (by decide : B 0 0 0) q595 c597 (by decide)
                        have z599 := w_le c597
                        rw [show (0 : Int32).toInt = 0 from by decide] at z599
                        refine ev_iconst (v := 0) rfl rfl (by decide) ?_
                        refine ev_istore rfl rfl rfl rfl ?_
                        dsimp only [List.set]
                        refine ev_iincB (y := 1) (l := 1) (u := 12) rfl rfl rfl (by decide) rfl rfl b526 (by decide : B 1 1 1) (by decide) (by decide) (by decide) (by decide) (fun v602 b602 e602 => ?_)
                        dsimp only [List.set]
                        have e602x := e602; rw [show (1 : Int32).toInt = 1 from by decide] at e602x
                        refine ev_goto rfl rfl ?_
                        exact (EvQ.drop 11 (EvQ.drop 10 (EvQ.drop 8 (ih64 0 v602 h595 ((by decide : B 0 0 0).mono (by decide) (by decide)) (b602.mono (by decide) (by decide)) hJ595 (rd_w k595 z521 rfl) (L_up hm64 (e_p1 e602 (by decide)))))))
                      · have b600 : B r595 (-3) (-1) := R_ltX q595 (by decide : B 0 0 0) (Int32.not_le.mp c597) (by decide)
                        have z601 := w_lt (Int32.not_le.mp c597)
                        rw [show (0 : Int32).toInt = 0 from by decide] at z601
                        refine ev_bipush (v := (-20)) rfl rfl (by decide) ?_
                        refine ev_iload rfl rfl rfl ?_
                        refine ev_iaddB (l := -23) (u := -21) rfl rfl (by decide : B (-20) (-20) (-20)) b600 (by decide) (by decide) (by decide) (by decide) (fun v603 b603 e603 g603 => ?_)
                        have e603x := e603; rw [show ((-20) : Int32).toInt = (-20) from by decide] at e603x
                        refine ev_goto rfl rfl ?_
                        refine ev_istore rfl rfl rfl rfl ?_
                        dsimp only [List.set]
                        refine ev_iincB (y := 1) (l := 1) (u := 12) rfl rfl rfl (by decide) rfl rfl b526 (by decide : B 1 1 1) (by decide) (by decide) (by decide) (by decide) (fun v604 b604 e604 => ?_)
                        dsimp only [List.set]
                        have e604x := e604; rw [show (1 : Int32).toInt = 1 from by decide] at e604x
                        refine ev_goto rfl rfl ?_
                        exact (EvQ.drop 11 (EvQ.drop 10 (EvQ.drop 8 (ih64 v603 v604 h595 (b603.mono (by decide) (by decide)) (b604.mono (by decide) (by decide)) hJ595 (rd_w k595 z521 rfl) (L_up hm64 (e_p1 e604 (by decide)))))))
                  · have b568 : B v564 1 2147483647 := R_ltY (by decide : B 0 0 0) (B.any v564) (Int32.not_le.mp c565) (by decide)
                    have z569 := w_lt (Int32.not_le.mp c565)
                    rw [show (0 : Int32).toInt = 0 from by decide] at z569
                    refine ev_bipush (v := (-12)) rfl rfl (by decide) ?_
                    refine ev_istore rfl rfl rfl rfl ?_
                    dsimp only [List.set]
                    refine ev_goto rfl rfl ?_
                    refine ev_iincB (y := 1) (l := 1) (u := 12) rfl rfl rfl (by decide) rfl rfl b526 (by decide : B 1 1 1) (by decide) (by decide) (by decide) (by decide) (fun v605 b605 e605 => ?_)
                    dsimp only [List.set]
                    have e605x := e605; rw [show (1 : Int32).toInt = 1 from by decide] at e605x
                    refine ev_goto rfl rfl ?_
                    exact (EvQ.drop 8 (ih64 (-12) v605 h519 ((by decide : B (-12) (-12) (-12)).mono (by decide) (by decide)) (b605.mono (by decide) (by decide)) hJ520 z521 (L_up hm64 (e_p1 e605 (by decide)))))
        exact (lp64_514 13 0 0 h ((by decide : B 0 0 0).mono (by decide) (by decide)) ((by decide : B 0 0 0).mono (by decide) (by decide)) hJ0 e19 (L_init (by decide : B 0 0 0) (by decide)))
      · have z23 := w_ne c20
        refine ev_aload_n rfl rfl rfl ?_
        refine ev_getR (y := 92) rfl rfl fl_X10_112 rfl rfl rfl rfl ?_
        refine ev_iload_n rfl rfl rfl ?_
        refine ev_iadV (v := v19) rfl rfl rfl (b7.vp (by decide) (by decide)) rfl e19 ?_
        refine ev_bipush (v := (-4)) rfl rfl (by decide) ?_
        refine ev_icmp_ne rfl rfl (fun c606 => ?_) (fun c606 => ?_)
        · have z607 := w_ne c606
          rw [show ((-4) : Int32).toInt = (-4) from by decide] at z607
          refine ev_bipush (v := (-13)) rfl rfl (by decide) ?_
          exact ev_iret rfl rfl rfl ⟨⟨_, rfl, ((by decide : B (-13) (-13) (-13)).mono (by decide) (by decide))⟩, rfl, hJ0⟩
        · have b608 : B v19 (-4) (-4) := R_eqX (B.any v19) (by decide : B (-4) (-4) (-4)) c606
          have z609 := congrArg Int32.toInt c606
          rw [show ((-4) : Int32).toInt = (-4) from by decide] at z609
          refine ev_bipush (v := (-11)) rfl rfl (by decide) ?_
          refine ev_goto rfl rfl ?_
          exact ev_iret rfl rfl rfl ⟨⟨_, rfl, ((by decide : B (-11) (-11) (-11)).mono (by decide) (by decide))⟩, rfl, hJ0⟩
    · have b17 : B r12 0 0 := R_eqX b12 (by decide : B 0 0 0) c13
      have z18 := congrArg Int32.toInt c13
      rw [show (0 : Int32).toInt = 0 from by decide] at z18
      refine ev_iconst (v := (-1)) rfl rfl (by decide) ?_
      exact ev_iret rfl rfl rfl ⟨⟨_, rfl, ((by decide : B (-1) (-1) (-1)).mono (by decide) (by decide))⟩, rfl, hJ0⟩

set_option maxRecDepth 100000 in
set_option maxHeartbeats 4000000 in
theorem w_X10_fire_63 (L : Nat) (b : Bool) (h : Hp) (hB : Bx h) (a0 : Int32) : EvJ mi_X10_fire [.ref 63, .int a0] (G0 L b) h (fun r : Int32 => B r (-2147483648) 2147483647) [(63, 2), (63, 13), (71, 999)] := by
  refine EvM.of2 (lo := [some (.ref 63), some (.int a0), none]) pf_X10_fire ok_X10_fire rfl rfl ?_
  have hJ0 : JW [(63, 2), (63, 13), (71, 999)] h h := JW.refl hB
  refine ev_iload_n rfl rfl rfl ?_
  refine ev_i2l rfl rfl ?_
  refine ev_lconst (v := 0) rfl rfl rfl ?_
  refine ev_ldc2 (v := 9) rfl rfl kc_X10_134 ?_
  refine ev_S3P rfl rfl lk_X10_124 st_X10_in rfl rfl (w_in (G0 L b) h a0 0 9 (by decide : BL 0 0 0) (by decide : BL 9 9 9)) (fun r1 q1 => ?_)
  obtain ⟨b1, p1_0⟩ := q1
  refine ev_if_ne rfl rfl (fun c2 => ?_) (fun c2 => ?_)
  · have b3 : B r1 1 1 := R_neL b1 (by decide : B 0 0 0) c2 (by decide)
    have b4 : B a0 0 9 := p1_0 c2
    refine ev_aload_n rfl rfl rfl ?_
    refine ev_V0N hJ0 rfl rfl rfl lk_X10_136 vt_X10_keeps rfl rfl rfl rfl rfl (w_X10_keeps_63 L b h hJ0.1 ) (fun h6 hJ6 k6  => ?_)
    refine ev_aload_n rfl rfl rfl ?_
    refine ev_getW (l := (-2147483648)) (u := 2147483647) hJ6.1 rfl rfl rfl fl_X10_16 rfl rfl rfl (fun v7 b7 e7 => ?_)
    refine ev_istore_n rfl rfl rfl rfl ?_
    dsimp only [List.set]
    refine ev_aload_n rfl rfl rfl ?_
    refine ev_iload_n rfl rfl rfl ?_
    refine ev_putW (l := (-2147483648)) (u := 2147483647) hJ6 rfl b4 (by decide) (by decide) rfl rfl rfl fl_X10_16 rfl rfl rfl rfl rfl (fun h8 hJ8 k8 => ?_)
    refine ev_iload_n rfl rfl rfl ?_
    exact ev_iret rfl rfl rfl ⟨⟨_, rfl, (B.any v7)⟩, rfl, hJ8⟩
  · have b5 : B r1 0 0 := R_eqX b1 (by decide : B 0 0 0) c2
    refine ev_iconst (v := (-1)) rfl rfl (by decide) ?_
    exact ev_iret rfl rfl rfl ⟨⟨_, rfl, ((by decide : B (-1) (-1) (-1)).mono (by decide) (by decide))⟩, rfl, hJ0⟩

set_option maxRecDepth 100000 in
set_option maxHeartbeats 4000000 in
theorem w_X10_water_63 (L : Nat) (b : Bool) (h : Hp) (hB : Bx h) (a0 : Int32) : EvJ mi_X10_water [.ref 63, .int a0] (G0 L b) h (fun r : Int32 => B r (-2147483648) 9999) [(63, 1), (63, 13), (71, 999)] := by
  refine EvM.of2 (lo := [some (.ref 63), some (.int a0)]) pf_X10_water ok_X10_water rfl rfl ?_
  have hJ0 : JW [(63, 1), (63, 13), (71, 999)] h h := JW.refl hB
  refine ev_iload_n rfl rfl rfl ?_
  refine ev_i2l rfl rfl ?_
  refine ev_lconst (v := 1) rfl rfl rfl ?_
  refine ev_ldc2 (v := 9999) rfl rfl kc_X10_139 ?_
  refine ev_S3P rfl rfl lk_X10_124 st_X10_in rfl rfl (w_in (G0 L b) h a0 1 9999 (by decide : BL 1 1 1) (by decide : BL 9999 9999 9999)) (fun r1 q1 => ?_)
  obtain ⟨b1, p1_0⟩ := q1
  refine ev_if_ne rfl rfl (fun c2 => ?_) (fun c2 => ?_)
  · have b3 : B r1 1 1 := R_neL b1 (by decide : B 0 0 0) c2 (by decide)
    have b4 : B a0 1 9999 := p1_0 c2
    refine ev_aload_n rfl rfl rfl ?_
    refine ev_V0N hJ0 rfl rfl rfl lk_X10_136 vt_X10_keeps rfl rfl rfl rfl rfl (w_X10_keeps_63 L b h hJ0.1 ) (fun h6 hJ6 k6  => ?_)
    refine ev_aload_n rfl rfl rfl ?_
    refine ev_aload_n rfl rfl rfl ?_
    refine ev_getW (l := (-2147483648)) (u := 2147483647) hJ6.1 rfl rfl rfl fl_X10_13 rfl rfl rfl (fun v7 b7 e7 => ?_)
    refine ev_iload_n rfl rfl rfl ?_
    refine ev_iaddA rfl rfl (fun v8 g8 => ?_)
    refine ev_sipush (v := 9999) rfl rfl (by decide) ?_
    refine ev_icmp_le rfl rfl (fun c9 => ?_) (fun c9 => ?_)
    · have b10 : B v8 (-2147483648) 9999 := R_leX (B.any v8) (by decide : B 9999 9999 9999) c9 (by decide)
      refine ev_aload_n rfl rfl rfl ?_
      refine ev_getV (v := v7) rfl rfl fl_X10_13 rfl rfl rfl e7 ?_
      refine ev_iload_n rfl rfl rfl ?_
      refine ev_iaddV g8 rfl rfl ?_
      refine ev_putW (l := (-2147483648)) (u := 2147483647) hJ6 rfl b10 (by decide) (by decide) rfl rfl rfl fl_X10_13 rfl rfl rfl rfl rfl (fun h12 hJ12 k12 => ?_)
      refine ev_aload_n rfl rfl rfl ?_
      refine ev_getV (v := v8) rfl rfl fl_X10_13 rfl rfl rfl (rd_s k12) ?_
      exact ev_iret rfl rfl rfl ⟨⟨_, rfl, b10⟩, rfl, hJ12⟩
    · have b11 : B v8 10000 2147483647 := R_ltY (by decide : B 9999 9999 9999) (B.any v8) (Int32.not_le.mp c9) (by decide)
      refine ev_sipush (v := 9999) rfl rfl (by decide) ?_
      refine ev_goto rfl rfl ?_
      refine ev_putW (l := (-2147483648)) (u := 2147483647) hJ6 rfl (by decide : B 9999 9999 9999) (by decide) (by decide) rfl rfl rfl fl_X10_13 rfl rfl rfl rfl rfl (fun h13 hJ13 k13 => ?_)
      refine ev_aload_n rfl rfl rfl ?_
      refine ev_getV (v := 9999) rfl rfl fl_X10_13 rfl rfl rfl (rd_s k13) ?_
      exact ev_iret rfl rfl rfl ⟨⟨_, rfl, ((by decide : B 9999 9999 9999).mono (by decide) (by decide))⟩, rfl, hJ13⟩
  · have b5 : B r1 0 0 := R_eqX b1 (by decide : B 0 0 0) c2
    refine ev_iconst (v := (-1)) rfl rfl (by decide) ?_
    exact ev_iret rfl rfl rfl ⟨⟨_, rfl, ((by decide : B (-1) (-1) (-1)).mono (by decide) (by decide))⟩, rfl, hJ0⟩

set_option maxRecDepth 100000 in
set_option maxHeartbeats 4000000 in
theorem w_X10_valve_63 (L : Nat) (b : Bool) (h : Hp) (hB : Bx h) (a0 : Int32) : EvJ mi_X10_valve [.ref 63, .int a0] (G0 L b) h (fun r : Int32 => B r (-1) 200) [(63, 0), (63, 3), (63, 13), (71, 999)] := by
  refine EvM.of2 (lo := [some (.ref 63), some (.int a0), none]) pf_X10_valve ok_X10_valve rfl rfl ?_
  have hJ0 : JW [(63, 0), (63, 3), (63, 13), (71, 999)] h h := JW.refl hB
  refine ev_iload_n rfl rfl rfl ?_
  refine ev_i2l rfl rfl ?_
  refine ev_ldc2 (v := 50) rfl rfl kc_X10_141 ?_
  refine ev_ldc2 (v := 200) rfl rfl kc_X10_143 ?_
  refine ev_S3P rfl rfl lk_X10_124 st_X10_in rfl rfl (w_in (G0 L b) h a0 50 200 (by decide : BL 50 50 50) (by decide : BL 200 200 200)) (fun r1 q1 => ?_)
  obtain ⟨b1, p1_0⟩ := q1
  refine ev_if_ne rfl rfl (fun c2 => ?_) (fun c2 => ?_)
  · have b3 : B r1 1 1 := R_neL b1 (by decide : B 0 0 0) c2 (by decide)
    have b4 : B a0 50 200 := p1_0 c2
    refine ev_aload_n rfl rfl rfl ?_
    refine ev_V0N hJ0 rfl rfl rfl lk_X10_136 vt_X10_keeps rfl rfl rfl rfl rfl (w_X10_keeps_63 L b h hJ0.1 ) (fun h6 hJ6 k6  => ?_)
    refine ev_aload_n rfl rfl rfl ?_
    refine ev_getW (l := 0) (u := 200) hJ6.1 rfl rfl rfl fl_X10_19 rfl rfl rfl (fun v7 b7 e7 => ?_)
    refine ev_istore_n rfl rfl rfl rfl ?_
    dsimp only [List.set]
    refine ev_aload_n rfl rfl rfl ?_
    refine ev_iload_n rfl rfl rfl ?_
    refine ev_putW (l := 0) (u := 200) hJ6 rfl b4 (by decide) (by decide) rfl rfl rfl fl_X10_19 rfl rfl rfl rfl rfl (fun h8 hJ8 k8 => ?_)
    refine ev_aload_n rfl rfl rfl ?_
    refine ev_aload_n rfl rfl rfl ?_
    refine ev_getW (l := 0) (u := 200) hJ8.1 rfl rfl rfl fl_X10_7 rfl rfl rfl (fun v9 b9 e9 => ?_)
    refine ev_iload_n rfl rfl rfl ?_
    refine ev_icmp_le rfl rfl (fun c10 => ?_) (fun c10 => ?_)
    · refine ev_aload_n rfl rfl rfl ?_
      refine ev_getV (v := v9) rfl rfl fl_X10_7 rfl rfl rfl e9 ?_
      refine ev_putW (l := 0) (u := 200) hJ8 rfl b9 (by decide) (by decide) rfl rfl rfl fl_X10_7 rfl rfl rfl rfl rfl (fun h13 hJ13 k13 => ?_)
      refine ev_iload_n rfl rfl rfl ?_
      exact ev_iret rfl rfl rfl ⟨⟨_, rfl, (b7.mono (by decide) (by decide))⟩, rfl, hJ13⟩
    · have b11 : B v9 51 200 := R_ltY b4 b9 (Int32.not_le.mp c10) (by decide)
      have b12 : B a0 50 199 := R_ltX b4 b9 (Int32.not_le.mp c10) (by decide)
      refine ev_iload_n rfl rfl rfl ?_
      refine ev_goto rfl rfl ?_
      refine ev_putW (l := 0) (u := 200) hJ8 rfl b12 (by decide) (by decide) rfl rfl rfl fl_X10_7 rfl rfl rfl rfl rfl (fun h14 hJ14 k14 => ?_)
      refine ev_iload_n rfl rfl rfl ?_
      exact ev_iret rfl rfl rfl ⟨⟨_, rfl, (b7.mono (by decide) (by decide))⟩, rfl, hJ14⟩
  · have b5 : B r1 0 0 := R_eqX b1 (by decide : B 0 0 0) c2
    refine ev_iconst (v := (-1)) rfl rfl (by decide) ?_
    exact ev_iret rfl rfl rfl ⟨⟨_, rfl, ((by decide : B (-1) (-1) (-1)).mono (by decide) (by decide))⟩, rfl, hJ0⟩

set_option maxRecDepth 100000 in
set_option maxHeartbeats 4000000 in
theorem w_X10_pressure_63 (L : Nat) (b : Bool) (h : Hp) (hB : Bx h) (a0 : Int32) : EvJ mi_X10_pressure [.ref 63, .int a0] (G0 L b) h (fun r : Int32 => B r (-1) 200) [(63, 0), (63, 13), (71, 999)] := by
  refine EvM.of2 (lo := [some (.ref 63), some (.int a0), none]) pf_X10_pressure ok_X10_pressure rfl rfl ?_
  have hJ0 : JW [(63, 0), (63, 13), (71, 999)] h h := JW.refl hB
  refine ev_iload_n rfl rfl rfl ?_
  refine ev_i2l rfl rfl ?_
  refine ev_lconst (v := 0) rfl rfl rfl ?_
  refine ev_aload_n rfl rfl rfl ?_
  refine ev_getW (l := 0) (u := 200) hJ0.1 rfl rfl rfl fl_X10_19 rfl rfl rfl (fun v1 b1 e1 => ?_)
  refine ev_i2l rfl rfl ?_
  refine ev_S3P rfl rfl lk_X10_124 st_X10_in rfl rfl (w_in (G0 L b) h a0 0 (Int32.toInt64 v1) (by decide : BL 0 0 0) (B.long b1)) (fun r2 q2 => ?_)
  obtain ⟨b2, p2_0⟩ := q2
  refine ev_if_ne rfl rfl (fun c3 => ?_) (fun c3 => ?_)
  · have b4 : B r2 1 1 := R_neL b2 (by decide : B 0 0 0) c3 (by decide)
    have b5 : B a0 0 200 := p2_0 c3
    refine ev_aload_n rfl rfl rfl ?_
    refine ev_V0N hJ0 rfl rfl rfl lk_X10_136 vt_X10_keeps rfl rfl rfl rfl rfl (w_X10_keeps_63 L b h hJ0.1 ) (fun h7 hJ7 k7  => ?_)
    refine ev_aload_n rfl rfl rfl ?_
    refine ev_getW (l := 0) (u := 200) hJ7.1 rfl rfl rfl fl_X10_7 rfl rfl rfl (fun v8 b8 e8 => ?_)
    refine ev_istore_n rfl rfl rfl rfl ?_
    dsimp only [List.set]
    refine ev_aload_n rfl rfl rfl ?_
    refine ev_iload_n rfl rfl rfl ?_
    refine ev_putW (l := 0) (u := 200) hJ7 rfl b5 (by decide) (by decide) rfl rfl rfl fl_X10_7 rfl rfl rfl rfl rfl (fun h9 hJ9 k9 => ?_)
    refine ev_iload_n rfl rfl rfl ?_
    exact ev_iret rfl rfl rfl ⟨⟨_, rfl, (b8.mono (by decide) (by decide))⟩, rfl, hJ9⟩
  · have b6 : B r2 0 0 := R_eqX b2 (by decide : B 0 0 0) c3
    refine ev_iconst (v := (-1)) rfl rfl (by decide) ?_
    exact ev_iret rfl rfl rfl ⟨⟨_, rfl, ((by decide : B (-1) (-1) (-1)).mono (by decide) (by decide))⟩, rfl, hJ0⟩

set_option maxRecDepth 100000 in
set_option maxHeartbeats 4000000 in
theorem w_X10_beat_63 (L : Nat) (b : Bool) (h : Hp) (hB : Bx h) (a0 : Int32) : EvJ mi_X10_beat [.ref 63, .int a0] (G0 L b) h (fun r : Int32 => B r (-5) 2147483647) [(63, 0), (63, 1), (63, 4), (63, 13), (71, 999)] := by
  refine EvM.of2 (lo := [some (.ref 63), some (.int a0)]) pf_X10_beat ok_X10_beat rfl rfl ?_
  have hJ0 : JW [(63, 0), (63, 1), (63, 4), (63, 13), (71, 999)] h h := JW.refl hB
  refine ev_iload_n rfl rfl rfl ?_
  refine ev_i2l rfl rfl ?_
  refine ev_lconst (v := 0) rfl rfl rfl ?_
  refine ev_iconst (v := 1) rfl rfl (by decide) ?_
  refine ev_aload_n rfl rfl rfl ?_
  refine ev_getW (l := 0) (u := 12) hJ0.1 rfl rfl rfl fl_X10_121 rfl rfl rfl (fun v1 b1 e1 => ?_)
  refine ev_ishlA rfl rfl (fun v2 => ?_)
  refine ev_iconst (v := 1) rfl rfl (by decide) ?_
  refine ev_isubA rfl rfl (fun v3 g3 => ?_)
  refine ev_i2l rfl rfl ?_
  refine ev_S3P rfl rfl lk_X10_124 st_X10_in rfl rfl (w_in (G0 L b) h a0 0 (Int32.toInt64 v3) (by decide : BL 0 0 0) (B.long (B.any v3))) (fun r4 q4 => ?_)
  obtain ⟨b4, p4_0⟩ := q4
  refine ev_if_ne rfl rfl (fun c5 => ?_) (fun c5 => ?_)
  · have b6 : B r4 1 1 := R_neL b4 (by decide : B 0 0 0) c5 (by decide)
    have b7 : B a0 0 2147483647 := p4_0 c5
    refine ev_aload_n rfl rfl rfl ?_
    refine ev_iload_n rfl rfl rfl ?_
    refine ev_V1P rfl rfl lk_X10_145 vt_X10_drawn rfl rfl rfl rfl rfl (w_X10_drawn_63 L b h hJ0.1 a0) (fun r9 q9 => ?_)
    refine ev_aload_n rfl rfl rfl ?_
    refine ev_getW (l := (-2147483648)) (u := 2147483647) hJ0.1 rfl rfl rfl fl_X10_13 rfl rfl rfl (fun v10 b10 e10 => ?_)
    refine ev_icmp_le rfl rfl (fun c11 => ?_) (fun c11 => ?_)
    · refine ev_aload_n rfl rfl rfl ?_
      refine ev_V0N hJ0 rfl rfl rfl lk_X10_136 vt_X10_keeps rfl rfl rfl rfl rfl (w_X10_keeps_63 L b h hJ0.1 ) (fun h14 hJ14 k14  => ?_)
      refine ev_aload_n rfl rfl rfl ?_
      refine ev_iload_n rfl rfl rfl ?_
      refine ev_V1J hJ14 rfl rfl rfl lk_X10_162 vt_X10_goes rfl rfl rfl rfl rfl (w_X10_goes_63 L b h14 hJ14.1 a0) (fun r15 h15 q15 hJ15 k15 => ?_)
      exact ev_iret rfl rfl rfl ⟨⟨_, rfl, q15⟩, rfl, hJ15⟩
    · have b12 : B r9 (-2147483647) 2147483647 := R_ltY (B.any v10) (B.any r9) (Int32.not_le.mp c11) (by decide)
      have b13 : B v10 (-2147483648) 2147483646 := R_ltX (B.any v10) (B.any r9) (Int32.not_le.mp c11) (by decide)
      refine ev_bipush (v := (-5)) rfl rfl (by decide) ?_
      exact ev_iret rfl rfl rfl ⟨⟨_, rfl, ((by decide : B (-5) (-5) (-5)).mono (by decide) (by decide))⟩, rfl, hJ0⟩
  · have b8 : B r4 0 0 := R_eqX b4 (by decide : B 0 0 0) c5
    refine ev_iconst (v := (-1)) rfl rfl (by decide) ?_
    exact ev_iret rfl rfl rfl ⟨⟨_, rfl, ((by decide : B (-1) (-1) (-1)).mono (by decide) (by decide))⟩, rfl, hJ0⟩

set_option maxRecDepth 100000 in
set_option maxHeartbeats 4000000 in
theorem w_X10_stem_63 (L : Nat) (b : Bool) (h : Hp) (hB : Bx h) (a0 : Int32) (a1 : Int32) : EvJ mi_X10_stem [.ref 63, .int a0, .int a1] (G0 L b) h (fun r : Int32 => B r (-2147483648) 2147483647) [(63, 13), (68, 999), (71, 999)] := by
  refine EvM.of2 (lo := [some (.ref 63), some (.int a0), some (.int a1), none]) pf_X10_stem ok_X10_stem rfl rfl ?_
  have hJ0 : JW [(63, 13), (68, 999), (71, 999)] h h := JW.refl hB
  refine ev_aload_n rfl rfl rfl ?_
  refine ev_iload_n rfl rfl rfl ?_
  refine ev_V1P rfl rfl lk_X10_169 vt_X10_isWhistle rfl rfl rfl rfl rfl (w_X10_isWhistle_63 L b h hJ0.1 a0) (fun r1 q1 => ?_)
  obtain ⟨b1, p1_0⟩ := q1
  refine ev_if_eq rfl rfl (fun c2 => ?_) (fun c2 => ?_)
  · have b3 : B r1 0 0 := R_eqX b1 (by decide : B 0 0 0) c2
    refine ev_sipush (v := (-10000)) rfl rfl (by decide) ?_
    exact ev_iret rfl rfl rfl ⟨⟨_, rfl, ((by decide : B (-10000) (-10000) (-10000)).mono (by decide) (by decide))⟩, rfl, hJ0⟩
  · have b4 : B r1 1 1 := R_neL b1 (by decide : B 0 0 0) c2 (by decide)
    have b5 : B a0 0 11 := p1_0 c2
    refine ev_iload_n rfl rfl rfl ?_
    refine ev_i2l rfl rfl ?_
    refine ev_ldc2 (v := (-100)) rfl rfl kc_X10_175 ?_
    refine ev_ldc2 (v := 100) rfl rfl kc_X10_177 ?_
    refine ev_S3P rfl rfl lk_X10_124 st_X10_in rfl rfl (w_in (G0 L b) h a1 (-100) 100 (by decide : BL (-100) (-100) (-100)) (by decide : BL 100 100 100)) (fun r6 q6 => ?_)
    obtain ⟨b6, p6_0⟩ := q6
    refine ev_if_ne rfl rfl (fun c7 => ?_) (fun c7 => ?_)
    · have b8 : B r6 1 1 := R_neL b6 (by decide : B 0 0 0) c7 (by decide)
      have b9 : B a1 (-100) 100 := p6_0 c7
      refine ev_aload_n rfl rfl rfl ?_
      refine ev_getR (y := 67) rfl rfl fl_X10_32 rfl rfl rfl rfl ?_
      refine ev_iload_n rfl rfl rfl ?_
      refine ev_zalW (n := 12) (l := (-2147483648)) (u := 2147483647) hJ0.1 b5 (by decide) (by decide) (fun _ => rfl) rfl rfl rfl (fun v11 b11 e11 => ?_)
      refine ev_if_eq rfl rfl (fun c12 => ?_) (fun c12 => ?_)
      · have b13 : B v11 0 0 := R_eqX (B.any v11) (by decide : B 0 0 0) c12
        refine ev_aload_n rfl rfl rfl ?_
        refine ev_V0N hJ0 rfl rfl rfl lk_X10_136 vt_X10_keeps rfl rfl rfl rfl rfl (w_X10_keeps_63 L b h hJ0.1 ) (fun h14 hJ14 k14  => ?_)
        refine ev_aload_n rfl rfl rfl ?_
        refine ev_getR (y := 68) rfl rfl fl_X10_36 rfl rfl rfl rfl ?_
        refine ev_iload_n rfl rfl rfl ?_
        refine ev_ialW (n := 12) (l := (-2147483648)) (u := 2147483647) hJ14.1 b5 (by decide) (by decide) (fun _ => rfl) rfl rfl rfl (fun v15 b15 e15 => ?_)
        refine ev_istore_n rfl rfl rfl rfl ?_
        dsimp only [List.set]
        refine ev_aload_n rfl rfl rfl ?_
        refine ev_getR (y := 68) rfl rfl fl_X10_36 rfl rfl rfl rfl ?_
        refine ev_iload_n rfl rfl rfl ?_
        refine ev_iload_n rfl rfl rfl ?_
        refine ev_iasW (n := 12) (l := (-2147483648)) (u := 2147483647) hJ14 b5 (by decide) (by decide) (fun _ => rfl) b9 (by decide) (by decide) (fun _ => rfl) rfl rfl rfl rfl (fun h16 hJ16 k16 => ?_)
        refine ev_iload_n rfl rfl rfl ?_
        exact ev_iret rfl rfl rfl ⟨⟨_, rfl, (B.any v15)⟩, rfl, hJ16⟩
      · refine ev_sipush (v := (-10002)) rfl rfl (by decide) ?_
        exact ev_iret rfl rfl rfl ⟨⟨_, rfl, ((by decide : B (-10002) (-10002) (-10002)).mono (by decide) (by decide))⟩, rfl, hJ0⟩
    · have b10 : B r6 0 0 := R_eqX b6 (by decide : B 0 0 0) c7
      refine ev_sipush (v := (-10000)) rfl rfl (by decide) ?_
      exact ev_iret rfl rfl rfl ⟨⟨_, rfl, ((by decide : B (-10000) (-10000) (-10000)).mono (by decide) (by decide))⟩, rfl, hJ0⟩

set_option maxRecDepth 100000 in
set_option maxHeartbeats 4000000 in
theorem w_X10_crack_63 (L : Nat) (b : Bool) (h : Hp) (hB : Bx h) (a0 : Int32) (a1 : Int32) : EvJ mi_X10_crack [.ref 63, .int a0, .int a1] (G0 L b) h (fun r : Int32 => B r (-2147483648) 2147483647) [(63, 13), (69, 999), (71, 999)] := by
  refine EvM.of2 (lo := [some (.ref 63), some (.int a0), some (.int a1), none]) pf_X10_crack ok_X10_crack rfl rfl ?_
  have hJ0 : JW [(63, 13), (69, 999), (71, 999)] h h := JW.refl hB
  refine ev_aload_n rfl rfl rfl ?_
  refine ev_iload_n rfl rfl rfl ?_
  refine ev_V1P rfl rfl lk_X10_169 vt_X10_isWhistle rfl rfl rfl rfl rfl (w_X10_isWhistle_63 L b h hJ0.1 a0) (fun r1 q1 => ?_)
  obtain ⟨b1, p1_0⟩ := q1
  refine ev_if_eq rfl rfl (fun c2 => ?_) (fun c2 => ?_)
  · have b3 : B r1 0 0 := R_eqX b1 (by decide : B 0 0 0) c2
    refine ev_sipush (v := (-10000)) rfl rfl (by decide) ?_
    exact ev_iret rfl rfl rfl ⟨⟨_, rfl, ((by decide : B (-10000) (-10000) (-10000)).mono (by decide) (by decide))⟩, rfl, hJ0⟩
  · have b4 : B r1 1 1 := R_neL b1 (by decide : B 0 0 0) c2 (by decide)
    have b5 : B a0 0 11 := p1_0 c2
    refine ev_iload_n rfl rfl rfl ?_
    refine ev_i2l rfl rfl ?_
    refine ev_ldc2 (v := (-200)) rfl rfl kc_X10_179 ?_
    refine ev_ldc2 (v := 200) rfl rfl kc_X10_143 ?_
    refine ev_S3P rfl rfl lk_X10_124 st_X10_in rfl rfl (w_in (G0 L b) h a1 (-200) 200 (by decide : BL (-200) (-200) (-200)) (by decide : BL 200 200 200)) (fun r6 q6 => ?_)
    obtain ⟨b6, p6_0⟩ := q6
    refine ev_if_ne rfl rfl (fun c7 => ?_) (fun c7 => ?_)
    · have b8 : B r6 1 1 := R_neL b6 (by decide : B 0 0 0) c7 (by decide)
      have b9 : B a1 (-200) 200 := p6_0 c7
      refine ev_aload_n rfl rfl rfl ?_
      refine ev_V0N hJ0 rfl rfl rfl lk_X10_136 vt_X10_keeps rfl rfl rfl rfl rfl (w_X10_keeps_63 L b h hJ0.1 ) (fun h11 hJ11 k11  => ?_)
      refine ev_aload_n rfl rfl rfl ?_
      refine ev_getR (y := 69) rfl rfl fl_X10_39 rfl rfl rfl rfl ?_
      refine ev_iload_n rfl rfl rfl ?_
      refine ev_ialW (n := 12) (l := (-2147483648)) (u := 2147483647) hJ11.1 b5 (by decide) (by decide) (fun _ => rfl) rfl rfl rfl (fun v12 b12 e12 => ?_)
      refine ev_istore_n rfl rfl rfl rfl ?_
      dsimp only [List.set]
      refine ev_aload_n rfl rfl rfl ?_
      refine ev_getR (y := 69) rfl rfl fl_X10_39 rfl rfl rfl rfl ?_
      refine ev_iload_n rfl rfl rfl ?_
      refine ev_iload_n rfl rfl rfl ?_
      refine ev_iasW (n := 12) (l := (-2147483648)) (u := 2147483647) hJ11 b5 (by decide) (by decide) (fun _ => rfl) b9 (by decide) (by decide) (fun _ => rfl) rfl rfl rfl rfl (fun h13 hJ13 k13 => ?_)
      refine ev_iload_n rfl rfl rfl ?_
      exact ev_iret rfl rfl rfl ⟨⟨_, rfl, (B.any v12)⟩, rfl, hJ13⟩
    · have b10 : B r6 0 0 := R_eqX b6 (by decide : B 0 0 0) c7
      refine ev_sipush (v := (-10000)) rfl rfl (by decide) ?_
      exact ev_iret rfl rfl rfl ⟨⟨_, rfl, ((by decide : B (-10000) (-10000) (-10000)).mono (by decide) (by decide))⟩, rfl, hJ0⟩

set_option maxRecDepth 100000 in
set_option maxHeartbeats 4000000 in
theorem w_X10_leak_63 (L : Nat) (b : Bool) (h : Hp) (hB : Bx h) (a0 : Int32) (a1 : Int32) (p1 : B a1 0 1) : EvJ mi_X10_leak [.ref 63, .int a0, .int a1] (G0 L b) h (fun r : Int32 => B r (-1) 1) [(63, 13), (70, 999), (71, 999)] := by
  refine EvM.of2 (lo := [some (.ref 63), some (.int a0), some (.int a1), none]) pf_X10_leak ok_X10_leak rfl rfl ?_
  have hJ0 : JW [(63, 13), (70, 999), (71, 999)] h h := JW.refl hB
  refine ev_aload_n rfl rfl rfl ?_
  refine ev_iload_n rfl rfl rfl ?_
  refine ev_V1P rfl rfl lk_X10_169 vt_X10_isWhistle rfl rfl rfl rfl rfl (w_X10_isWhistle_63 L b h hJ0.1 a0) (fun r1 q1 => ?_)
  obtain ⟨b1, p1_0⟩ := q1
  refine ev_if_ne rfl rfl (fun c2 => ?_) (fun c2 => ?_)
  · have b3 : B r1 1 1 := R_neL b1 (by decide : B 0 0 0) c2 (by decide)
    have b4 : B a0 0 11 := p1_0 c2
    refine ev_aload_n rfl rfl rfl ?_
    refine ev_V0N hJ0 rfl rfl rfl lk_X10_136 vt_X10_keeps rfl rfl rfl rfl rfl (w_X10_keeps_63 L b h hJ0.1 ) (fun h6 hJ6 k6  => ?_)
    refine ev_aload_n rfl rfl rfl ?_
    refine ev_getR (y := 70) rfl rfl fl_X10_42 rfl rfl rfl rfl ?_
    refine ev_iload_n rfl rfl rfl ?_
    refine ev_zalW (n := 12) (l := (-2147483648)) (u := 2147483647) hJ6.1 b4 (by decide) (by decide) (fun _ => rfl) rfl rfl rfl (fun v7 b7 e7 => ?_)
    refine ev_if_eq rfl rfl (fun c8 => ?_) (fun c8 => ?_)
    · have b9 : B v7 0 0 := R_eqX (B.any v7) (by decide : B 0 0 0) c8
      refine ev_iconst (v := 0) rfl rfl (by decide) ?_
      refine ev_istore_n rfl rfl rfl rfl ?_
      dsimp only [List.set]
      refine ev_aload_n rfl rfl rfl ?_
      refine ev_getR (y := 70) rfl rfl fl_X10_42 rfl rfl rfl rfl ?_
      refine ev_iload_n rfl rfl rfl ?_
      refine ev_iload_n rfl rfl rfl ?_
      refine ev_zasW (n := 12) (l := (-2147483648)) (u := 2147483647) hJ6 b4 (by decide) (by decide) (fun _ => rfl) p1 (by decide) (by decide) (fun _ => rfl) rfl rfl rfl rfl (fun h10 hJ10 k10 => ?_)
      refine ev_iload_n rfl rfl rfl ?_
      exact ev_iret rfl rfl rfl ⟨⟨_, rfl, ((by decide : B 0 0 0).mono (by decide) (by decide))⟩, rfl, hJ10⟩
    · refine ev_iconst (v := 1) rfl rfl (by decide) ?_
      refine ev_goto rfl rfl ?_
      refine ev_istore_n rfl rfl rfl rfl ?_
      dsimp only [List.set]
      refine ev_aload_n rfl rfl rfl ?_
      refine ev_getR (y := 70) rfl rfl fl_X10_42 rfl rfl rfl rfl ?_
      refine ev_iload_n rfl rfl rfl ?_
      refine ev_iload_n rfl rfl rfl ?_
      refine ev_zasW (n := 12) (l := (-2147483648)) (u := 2147483647) hJ6 b4 (by decide) (by decide) (fun _ => rfl) p1 (by decide) (by decide) (fun _ => rfl) rfl rfl rfl rfl (fun h11 hJ11 k11 => ?_)
      refine ev_iload_n rfl rfl rfl ?_
      exact ev_iret rfl rfl rfl ⟨⟨_, rfl, ((by decide : B 1 1 1).mono (by decide) (by decide))⟩, rfl, hJ11⟩
  · have b5 : B r1 0 0 := R_eqX b1 (by decide : B 0 0 0) c2
    refine ev_iconst (v := (-1)) rfl rfl (by decide) ?_
    exact ev_iret rfl rfl rfl ⟨⟨_, rfl, ((by decide : B (-1) (-1) (-1)).mono (by decide) (by decide))⟩, rfl, hJ0⟩

set_option maxRecDepth 100000 in
set_option maxHeartbeats 4000000 in
theorem w_X10_tuneAll_63 (L : Nat) (b : Bool) (h : Hp) (hB : Bx h) (a0 : Int32) : EvJ mi_X10_tuneAll [.ref 63, .int a0] (G0 L b) h (fun r : Int32 => B r (-2147483648) 2147483647) [(63, 13), (68, 999), (71, 999)] := by
  refine EvM.of2 (lo := [some (.ref 63), some (.int a0), none, none, none]) pf_X10_tuneAll ok_X10_tuneAll rfl rfl ?_
  have hJ0 : JW [(63, 13), (68, 999), (71, 999)] h h := JW.refl hB
  refine ev_iload_n rfl rfl rfl ?_
  refine ev_i2l rfl rfl ?_
  refine ev_lconst (v := 0) rfl rfl rfl ?_
  refine ev_ldc2 (v := 200) rfl rfl kc_X10_143 ?_
  refine ev_S3P rfl rfl lk_X10_124 st_X10_in rfl rfl (w_in (G0 L b) h a0 0 200 (by decide : BL 0 0 0) (by decide : BL 200 200 200)) (fun r1 q1 => ?_)
  obtain ⟨b1, p1_0⟩ := q1
  refine ev_if_ne rfl rfl (fun c2 => ?_) (fun c2 => ?_)
  · have b3 : B r1 1 1 := R_neL b1 (by decide : B 0 0 0) c2 (by decide)
    have b4 : B a0 0 200 := p1_0 c2
    refine ev_aload_n rfl rfl rfl ?_
    refine ev_V0N hJ0 rfl rfl rfl lk_X10_136 vt_X10_keeps rfl rfl rfl rfl rfl (w_X10_keeps_63 L b h hJ0.1 ) (fun h6 hJ6 k6  => ?_)
    refine ev_iconst (v := 0) rfl rfl (by decide) ?_
    refine ev_istore_n rfl rfl rfl rfl ?_
    dsimp only [List.set]
    refine ev_iconst (v := 0) rfl rfl (by decide) ?_
    refine ev_istore_n rfl rfl rfl rfl ?_
    dsimp only [List.set]
    have lp22_497 : ∀ (n : Nat) (w498 : Int32) (w499 : Int32) (h501 : Hp), B w499 0 12 → JW [(63, 13), (68, 999), (71, 999)] h h501 → 12 + 1 - w499.toInt ≤ (n : Int) → EvQ mi_X10_tuneAll 22 [some (.ref 63), some (.int a0), some (.int w498), some (.int w499), none] [] (G0 L b) h501 0 0 (QJ (fun r : Int32 => B r (-2147483648) 2147483647) [(63, 13), (68, 999), (71, 999)] (G0 L b) h) := by
      intro n
      induction n with
      | zero =>
        intro w498 w499 h501 b500 hJ502 hm22
        exact absurd hm22 (L_zero b500 (by decide))
      | succ n ih22 =>
        intro w498 w499 h501 b500 hJ502 hm22
        refine ev_iload_n rfl rfl rfl ?_
        refine ev_aload_n rfl rfl rfl ?_
        refine ev_getW (l := 0) (u := 12) hJ502.1 rfl rfl rfl fl_X10_121 rfl rfl rfl (fun v503 b503 e503 => ?_)
        refine ev_icmp_ge rfl rfl (fun c504 => ?_) (fun c504 => ?_)
        · refine ev_iload_n rfl rfl rfl ?_
          exact ev_iret rfl rfl rfl ⟨⟨_, rfl, (B.any w498)⟩, rfl, hJ502⟩
        · have b505 : B w499 0 11 := R_ltX b500 b503 (Int32.not_le.mp c504) (by decide)
          have b506 : B v503 1 12 := R_ltY b500 b503 (Int32.not_le.mp c504) (by decide)
          refine ev_aload_n rfl rfl rfl ?_
          refine ev_getR (y := 67) rfl rfl fl_X10_32 rfl rfl rfl rfl ?_
          refine ev_iload_n rfl rfl rfl ?_
          refine ev_zalW (n := 12) (l := (-2147483648)) (u := 2147483647) hJ502.1 b505 (by decide) (by decide) (fun _ => rfl) rfl rfl rfl (fun v507 b507 e507 => ?_)
          refine ev_if_ne rfl rfl (fun c508 => ?_) (fun c508 => ?_)
          · refine ev_iload_n rfl rfl rfl ?_
            refine ev_aload_n rfl rfl rfl ?_
            refine ev_iload_n rfl rfl rfl ?_
            refine ev_iload_n rfl rfl rfl ?_
            refine ev_V2P rfl rfl lk_X10_153 vt_X10_off rfl rfl rfl rfl rfl (w_X10_off_63 L b h501 hJ502.1 w499 b505 a0) (fun r510 q510 => ?_)
            refine ev_if_ne rfl rfl (fun c511 => ?_) (fun c511 => ?_)
            · refine ev_iconst (v := 1) rfl rfl (by decide) ?_
              refine ev_iaddA rfl rfl (fun v513 g513 => ?_)
              refine ev_istore_n rfl rfl rfl rfl ?_
              dsimp only [List.set]
              refine ev_iincB (y := 1) (l := 1) (u := 12) rfl rfl rfl (by decide) rfl rfl b505 (by decide : B 1 1 1) (by decide) (by decide) (by decide) (by decide) (fun v514 b514 e514 => ?_)
              dsimp only [List.set]
              refine ev_goto rfl rfl ?_
              exact (ih22 v513 v514 h501 (b514.mono (by decide) (by decide)) hJ502 (L_up hm22 (e_p1 e514 (by decide))))
            · have b512 : B r510 0 0 := R_eqX (B.any r510) (by decide : B 0 0 0) c511
              refine ev_iconst (v := 0) rfl rfl (by decide) ?_
              refine ev_goto rfl rfl ?_
              refine ev_iaddB (l := -2147483648) (u := 2147483647) rfl rfl (B.any w498) (by decide : B 0 0 0) (by decide) (by decide) (by decide) (by decide) (fun v515 b515 e515 g515 => ?_)
              refine ev_istore_n rfl rfl rfl rfl ?_
              dsimp only [List.set]
              refine ev_iincB (y := 1) (l := 1) (u := 12) rfl rfl rfl (by decide) rfl rfl b505 (by decide : B 1 1 1) (by decide) (by decide) (by decide) (by decide) (fun v516 b516 e516 => ?_)
              dsimp only [List.set]
              refine ev_goto rfl rfl ?_
              exact (ih22 v515 v516 h501 (b516.mono (by decide) (by decide)) hJ502 (L_up hm22 (e_p1 e516 (by decide))))
          · have b509 : B v507 0 0 := R_eqX (B.any v507) (by decide : B 0 0 0) c508
            refine ev_aload_n rfl rfl rfl ?_
            refine ev_getR (y := 68) rfl rfl fl_X10_36 rfl rfl rfl rfl ?_
            refine ev_iload_n rfl rfl rfl ?_
            refine ev_ialW (n := 12) (l := (-2147483648)) (u := 2147483647) hJ502.1 b505 (by decide) (by decide) (fun _ => rfl) rfl rfl rfl (fun v517 b517 e517 => ?_)
            refine ev_aload_n rfl rfl rfl ?_
            refine ev_iload_n rfl rfl rfl ?_
            refine ev_iload_n rfl rfl rfl ?_
            refine ev_V2P rfl rfl lk_X10_153 vt_X10_off rfl rfl rfl rfl rfl (w_X10_off_63 L b h501 hJ502.1 w499 b505 a0) (fun r518 q518 => ?_)
            refine ev_isubA rfl rfl (fun v519 g519 => ?_)
            refine ev_istore rfl rfl rfl rfl ?_
            dsimp only [List.set]
            refine ev_aload_n rfl rfl rfl ?_
            refine ev_getR (y := 68) rfl rfl fl_X10_36 rfl rfl rfl rfl ?_
            refine ev_iload_n rfl rfl rfl ?_
            refine ev_iload rfl rfl rfl ?_
            refine ev_bipush (v := 100) rfl rfl (by decide) ?_
            refine ev_icmp_le rfl rfl (fun c520 => ?_) (fun c520 => ?_)
            · have b521 : B v519 (-2147483648) 100 := R_leX (B.any v519) (by decide : B 100 100 100) c520 (by decide)
              refine ev_iload rfl rfl rfl ?_
              refine ev_bipush (v := (-100)) rfl rfl (by decide) ?_
              refine ev_icmp_ge rfl rfl (fun c523 => ?_) (fun c523 => ?_)
              · have b524 : B v519 (-100) 100 := R_leY (by decide : B (-100) (-100) (-100)) b521 c523 (by decide)
                refine ev_iload rfl rfl rfl ?_
                refine ev_iasW (n := 12) (l := (-2147483648)) (u := 2147483647) hJ502 b505 (by decide) (by decide) (fun _ => rfl) b524 (by decide) (by decide) (fun _ => rfl) rfl rfl rfl rfl (fun h526 hJ526 k526 => ?_)
                refine ev_iload_n rfl rfl rfl ?_
                refine ev_aload_n rfl rfl rfl ?_
                refine ev_iload_n rfl rfl rfl ?_
                refine ev_iload_n rfl rfl rfl ?_
                refine ev_V2P rfl rfl lk_X10_153 vt_X10_off rfl rfl rfl rfl rfl (w_X10_off_63 L b h526 hJ526.1 w499 b505 a0) (fun r527 q527 => ?_)
                refine ev_if_ne rfl rfl (fun c528 => ?_) (fun c528 => ?_)
                · refine ev_iconst (v := 1) rfl rfl (by decide) ?_
                  refine ev_iaddA rfl rfl (fun v530 g530 => ?_)
                  refine ev_istore_n rfl rfl rfl rfl ?_
                  dsimp only [List.set]
                  refine ev_iincB (y := 1) (l := 1) (u := 12) rfl rfl rfl (by decide) rfl rfl b505 (by decide : B 1 1 1) (by decide) (by decide) (by decide) (by decide) (fun v531 b531 e531 => ?_)
                  dsimp only [List.set]
                  refine ev_goto rfl rfl ?_
                  exact (EvQ.drop 4 (ih22 v530 v531 h526 (b531.mono (by decide) (by decide)) hJ526 (L_up hm22 (e_p1 e531 (by decide)))))
                · have b529 : B r527 0 0 := R_eqX (B.any r527) (by decide : B 0 0 0) c528
                  refine ev_iconst (v := 0) rfl rfl (by decide) ?_
                  refine ev_goto rfl rfl ?_
                  refine ev_iaddB (l := -2147483648) (u := 2147483647) rfl rfl (B.any w498) (by decide : B 0 0 0) (by decide) (by decide) (by decide) (by decide) (fun v532 b532 e532 g532 => ?_)
                  refine ev_istore_n rfl rfl rfl rfl ?_
                  dsimp only [List.set]
                  refine ev_iincB (y := 1) (l := 1) (u := 12) rfl rfl rfl (by decide) rfl rfl b505 (by decide : B 1 1 1) (by decide) (by decide) (by decide) (by decide) (fun v533 b533 e533 => ?_)
                  dsimp only [List.set]
                  refine ev_goto rfl rfl ?_
                  exact (EvQ.drop 4 (ih22 v532 v533 h526 (b533.mono (by decide) (by decide)) hJ526 (L_up hm22 (e_p1 e533 (by decide)))))
              · have b525 : B v519 (-2147483648) (-101) := R_ltX b521 (by decide : B (-100) (-100) (-100)) (Int32.not_le.mp c523) (by decide)
                refine ev_bipush (v := (-100)) rfl rfl (by decide) ?_
                refine ev_goto rfl rfl ?_
                refine ev_iasW (n := 12) (l := (-2147483648)) (u := 2147483647) hJ502 b505 (by decide) (by decide) (fun _ => rfl) (by decide : B (-100) (-100) (-100)) (by decide) (by decide) (fun _ => rfl) rfl rfl rfl rfl (fun h534 hJ534 k534 => ?_)
                refine ev_iload_n rfl rfl rfl ?_
                refine ev_aload_n rfl rfl rfl ?_
                refine ev_iload_n rfl rfl rfl ?_
                refine ev_iload_n rfl rfl rfl ?_
                refine ev_V2P rfl rfl lk_X10_153 vt_X10_off rfl rfl rfl rfl rfl (w_X10_off_63 L b h534 hJ534.1 w499 b505 a0) (fun r535 q535 => ?_)
                refine ev_if_ne rfl rfl (fun c536 => ?_) (fun c536 => ?_)
                · refine ev_iconst (v := 1) rfl rfl (by decide) ?_
                  refine ev_iaddA rfl rfl (fun v538 g538 => ?_)
                  refine ev_istore_n rfl rfl rfl rfl ?_
                  dsimp only [List.set]
                  refine ev_iincB (y := 1) (l := 1) (u := 12) rfl rfl rfl (by decide) rfl rfl b505 (by decide : B 1 1 1) (by decide) (by decide) (by decide) (by decide) (fun v539 b539 e539 => ?_)
                  dsimp only [List.set]
                  refine ev_goto rfl rfl ?_
                  exact (EvQ.drop 4 (ih22 v538 v539 h534 (b539.mono (by decide) (by decide)) hJ534 (L_up hm22 (e_p1 e539 (by decide)))))
                · have b537 : B r535 0 0 := R_eqX (B.any r535) (by decide : B 0 0 0) c536
                  refine ev_iconst (v := 0) rfl rfl (by decide) ?_
                  refine ev_goto rfl rfl ?_
                  refine ev_iaddB (l := -2147483648) (u := 2147483647) rfl rfl (B.any w498) (by decide : B 0 0 0) (by decide) (by decide) (by decide) (by decide) (fun v540 b540 e540 g540 => ?_)
                  refine ev_istore_n rfl rfl rfl rfl ?_
                  dsimp only [List.set]
                  refine ev_iincB (y := 1) (l := 1) (u := 12) rfl rfl rfl (by decide) rfl rfl b505 (by decide : B 1 1 1) (by decide) (by decide) (by decide) (by decide) (fun v541 b541 e541 => ?_)
                  dsimp only [List.set]
                  refine ev_goto rfl rfl ?_
                  exact (EvQ.drop 4 (ih22 v540 v541 h534 (b541.mono (by decide) (by decide)) hJ534 (L_up hm22 (e_p1 e541 (by decide)))))
            · have b522 : B v519 101 2147483647 := R_ltY (by decide : B 100 100 100) (B.any v519) (Int32.not_le.mp c520) (by decide)
              refine ev_bipush (v := 100) rfl rfl (by decide) ?_
              refine ev_goto rfl rfl ?_
              refine ev_iasW (n := 12) (l := (-2147483648)) (u := 2147483647) hJ502 b505 (by decide) (by decide) (fun _ => rfl) (by decide : B 100 100 100) (by decide) (by decide) (fun _ => rfl) rfl rfl rfl rfl (fun h542 hJ542 k542 => ?_)
              refine ev_iload_n rfl rfl rfl ?_
              refine ev_aload_n rfl rfl rfl ?_
              refine ev_iload_n rfl rfl rfl ?_
              refine ev_iload_n rfl rfl rfl ?_
              refine ev_V2P rfl rfl lk_X10_153 vt_X10_off rfl rfl rfl rfl rfl (w_X10_off_63 L b h542 hJ542.1 w499 b505 a0) (fun r543 q543 => ?_)
              refine ev_if_ne rfl rfl (fun c544 => ?_) (fun c544 => ?_)
              · refine ev_iconst (v := 1) rfl rfl (by decide) ?_
                refine ev_iaddA rfl rfl (fun v546 g546 => ?_)
                refine ev_istore_n rfl rfl rfl rfl ?_
                dsimp only [List.set]
                refine ev_iincB (y := 1) (l := 1) (u := 12) rfl rfl rfl (by decide) rfl rfl b505 (by decide : B 1 1 1) (by decide) (by decide) (by decide) (by decide) (fun v547 b547 e547 => ?_)
                dsimp only [List.set]
                refine ev_goto rfl rfl ?_
                exact (EvQ.drop 4 (ih22 v546 v547 h542 (b547.mono (by decide) (by decide)) hJ542 (L_up hm22 (e_p1 e547 (by decide)))))
              · have b545 : B r543 0 0 := R_eqX (B.any r543) (by decide : B 0 0 0) c544
                refine ev_iconst (v := 0) rfl rfl (by decide) ?_
                refine ev_goto rfl rfl ?_
                refine ev_iaddB (l := -2147483648) (u := 2147483647) rfl rfl (B.any w498) (by decide : B 0 0 0) (by decide) (by decide) (by decide) (by decide) (fun v548 b548 e548 g548 => ?_)
                refine ev_istore_n rfl rfl rfl rfl ?_
                dsimp only [List.set]
                refine ev_iincB (y := 1) (l := 1) (u := 12) rfl rfl rfl (by decide) rfl rfl b505 (by decide : B 1 1 1) (by decide) (by decide) (by decide) (by decide) (fun v549 b549 e549 => ?_)
                dsimp only [List.set]
                refine ev_goto rfl rfl ?_
                exact (EvQ.drop 4 (ih22 v548 v549 h542 (b549.mono (by decide) (by decide)) hJ542 (L_up hm22 (e_p1 e549 (by decide)))))
    exact (lp22_497 13 0 0 h6 ((by decide : B 0 0 0).mono (by decide) (by decide)) hJ6 (L_init (by decide : B 0 0 0) (by decide)))
  · have b5 : B r1 0 0 := R_eqX b1 (by decide : B 0 0 0) c2
    refine ev_iconst (v := (-1)) rfl rfl (by decide) ?_
    exact ev_iret rfl rfl rfl ⟨⟨_, rfl, ((by decide : B (-1) (-1) (-1)).mono (by decide) (by decide))⟩, rfl, hJ0⟩

set_option maxRecDepth 100000 in
set_option maxHeartbeats 4000000 in
theorem w_X10_moved_63 (L : Nat) (b : Bool) (h : Hp) (hB : Bx h) (a0 : Int32) (a1 : Int32) : EvP mi_X10_moved [.ref 63, .int a0, .int a1] (G0 L b) h (fun r : Int32 => B r (-2147483648) 2147483647) := by
  refine EvM.of2 (lo := [some (.ref 63), some (.int a0), some (.int a1)]) pf_X10_moved ok_X10_moved rfl rfl ?_
  refine ev_iload_n rfl rfl rfl ?_
  refine ev_if_ge rfl rfl (fun c1 => ?_) (fun c1 => ?_)
  · have b2 : B a1 0 2147483647 := R_leY (by decide : B 0 0 0) (B.any a1) c1 (by decide)
    refine ev_iload_n rfl rfl rfl ?_
    refine ev_iload_n rfl rfl rfl ?_
    refine ev_ishlA rfl rfl (fun v4 => ?_)
    exact ev_iret rfl rfl rfl ⟨⟨_, rfl, (B.any v4)⟩, rfl, rfl⟩
  · have b3 : B a1 (-2147483648) (-1) := R_ltX (B.any a1) (by decide : B 0 0 0) (Int32.not_le.mp c1) (by decide)
    refine ev_iload_n rfl rfl rfl ?_
    refine ev_iload_n rfl rfl rfl ?_
    refine ev_inegA rfl rfl (fun v5 => ?_)
    refine ev_ishrA rfl rfl (fun v6 => ?_)
    refine ev_goto rfl rfl ?_
    exact ev_iret rfl rfl rfl ⟨⟨_, rfl, (B.any v6)⟩, rfl, rfl⟩

set_option maxRecDepth 100000 in
set_option maxHeartbeats 4000000 in
theorem w_X10_goesAll_63 (L : Nat) (b : Bool) (h : Hp) (hB : Bx h) (a0 : Int32) (p0 : B a0 0 5) (a1 : Int32) : EvJ mi_X10_goesAll [.ref 63, .int a0, .int a1] (G0 L b) h (fun r : Int32 => B r (-123) 2147483647) [(63, 0), (63, 1), (63, 4)] := by
  refine EvM.of2 (lo := [some (.ref 63), some (.int a0), some (.int a1), none, none, none]) pf_X10_goesAll ok_X10_goesAll rfl rfl ?_
  have hJ0 : JW [(63, 0), (63, 1), (63, 4)] h h := JW.refl hB
  refine ev_iconst (v := 0) rfl rfl (by decide) ?_
  refine ev_istore_n rfl rfl rfl rfl ?_
  dsimp only [List.set]
  refine ev_iconst (v := 0) rfl rfl (by decide) ?_
  refine ev_istore rfl rfl rfl rfl ?_
  dsimp only [List.set]
  have lp5_109 : ∀ (n : Nat) (w110 : Int32) (w111 : Int32) (h114 : Hp), B w110 0 2147483647 → B w111 0 24 → JW [(63, 0), (63, 1), (63, 4)] h h114 → 24 + 1 - w111.toInt ≤ (n : Int) → EvQ mi_X10_goesAll 5 [some (.ref 63), some (.int a0), some (.int a1), some (.int w110), some (.int w111), none] [] (G0 L b) h114 0 0 (QJ (fun r : Int32 => B r (-123) 2147483647) [(63, 0), (63, 1), (63, 4)] (G0 L b) h) := by
    intro n
    induction n with
    | zero =>
      intro w110 w111 h114 b112 b113 hJ115 hm5
      exact absurd hm5 (L_zero b113 (by decide))
    | succ n ih5 =>
      intro w110 w111 h114 b112 b113 hJ115 hm5
      refine ev_iload rfl rfl rfl ?_
      refine ev_aload_n rfl rfl rfl ?_
      refine ev_getR (y := 73) rfl rfl fl_X10_51 rfl rfl rfl rfl ?_
      refine ev_iload_n rfl rfl rfl ?_
      refine ev_ialW (n := 6) (l := 0) (u := 24) hJ115.1 p0 (by decide) (by decide) (fun _ => rfl) rfl rfl rfl (fun v116 b116 e116 => ?_)
      refine ev_icmp_ge rfl rfl (fun c117 => ?_) (fun c117 => ?_)
      · refine ev_iload_n rfl rfl rfl ?_
        exact ev_iret rfl rfl rfl ⟨⟨_, rfl, (b112.mono (by decide) (by decide))⟩, rfl, hJ115⟩
      · have b118 : B w111 0 23 := R_ltX b113 b116 (Int32.not_le.mp c117) (by decide)
        have b119 : B v116 1 24 := R_ltY b113 b116 (Int32.not_le.mp c117) (by decide)
        refine ev_aload_n rfl rfl rfl ?_
        refine ev_aload_n rfl rfl rfl ?_
        refine ev_aload_n rfl rfl rfl ?_
        refine ev_iload_n rfl rfl rfl ?_
        refine ev_iload rfl rfl rfl ?_
        refine ev_V2P rfl rfl lk_X10_263 vt_X10_chordAt rfl rfl rfl rfl rfl (w_X10_chordAt_63 L b h114 hJ115.1 a0 p0 w111 b118) (fun r120 q120 => ?_)
        refine ev_iload_n rfl rfl rfl ?_
        refine ev_V2P rfl rfl lk_X10_276 vt_X10_moved rfl rfl rfl rfl rfl (w_X10_moved_63 L b h114 hJ115.1 r120 a1) (fun r121 q121 => ?_)
        refine ev_V1J hJ115 rfl rfl rfl lk_X10_162 vt_X10_goes rfl rfl rfl rfl rfl (w_X10_goes_63 L b h114 hJ115.1 r121) (fun r122 h122 q122 hJ122 k122 => ?_)
        refine ev_istore rfl rfl rfl rfl ?_
        dsimp only [List.set]
        refine ev_iload rfl rfl rfl ?_
        refine ev_bipush (v := (-5)) rfl rfl (by decide) ?_
        refine ev_icmp_ne rfl rfl (fun c123 => ?_) (fun c123 => ?_)
        · have b124 : B r122 (-4) 2147483647 := R_neL q122 (by decide : B (-5) (-5) (-5)) c123 (by decide)
          refine ev_iload rfl rfl rfl ?_
          refine ev_iload_n rfl rfl rfl ?_
          refine ev_icmp_le rfl rfl (fun c126 => ?_) (fun c126 => ?_)
          · refine ev_iload_n rfl rfl rfl ?_
            refine ev_istore_n rfl rfl rfl rfl ?_
            dsimp only [List.set]
            refine ev_iincB (y := 1) (l := 1) (u := 24) rfl rfl rfl (by decide) rfl rfl b118 (by decide : B 1 1 1) (by decide) (by decide) (by decide) (by decide) (fun v129 b129 e129 => ?_)
            dsimp only [List.set]
            refine ev_goto rfl rfl ?_
            exact (EvQ.drop 5 (ih5 w110 v129 h122 b112 (b129.mono (by decide) (by decide)) hJ122 (L_up hm5 (e_p1 e129 (by decide)))))
          · have b127 : B r122 1 2147483647 := R_ltY b112 b124 (Int32.not_le.mp c126) (by decide)
            have b128 : B w110 0 2147483646 := R_ltX b112 b124 (Int32.not_le.mp c126) (by decide)
            refine ev_iload rfl rfl rfl ?_
            refine ev_goto rfl rfl ?_
            refine ev_istore_n rfl rfl rfl rfl ?_
            dsimp only [List.set]
            refine ev_iincB (y := 1) (l := 1) (u := 24) rfl rfl rfl (by decide) rfl rfl b118 (by decide : B 1 1 1) (by decide) (by decide) (by decide) (by decide) (fun v130 b130 e130 => ?_)
            dsimp only [List.set]
            refine ev_goto rfl rfl ?_
            exact (EvQ.drop 5 (ih5 r122 v130 h122 (b127.mono (by decide) (by decide)) (b130.mono (by decide) (by decide)) hJ122 (L_up hm5 (e_p1 e130 (by decide)))))
        · have b125 : B r122 (-5) (-5) := R_eqX q122 (by decide : B (-5) (-5) (-5)) c123
          refine ev_bipush (v := (-100)) rfl rfl (by decide) ?_
          refine ev_iload rfl rfl rfl ?_
          refine ev_isubB (l := -123) (u := -100) rfl rfl (by decide : B (-100) (-100) (-100)) b118 (by decide) (by decide) (by decide) (by decide) (fun v131 b131 e131 g131 => ?_)
          exact ev_iret rfl rfl rfl ⟨⟨_, rfl, (b131.mono (by decide) (by decide))⟩, rfl, hJ122⟩
  exact (lp5_109 25 0 0 h ((by decide : B 0 0 0).mono (by decide) (by decide)) ((by decide : B 0 0 0).mono (by decide) (by decide)) hJ0 (L_init (by decide : B 0 0 0) (by decide)))

set_option maxRecDepth 100000 in
set_option maxHeartbeats 4000000 in
theorem w_X10_tried_63 (L : Nat) (b : Bool) (h : Hp) (hB : Bx h) (a0 : Int32) (p0 : B a0 0 5) (a1 : Int32) : EvJ mi_X10_tried [.ref 63, .int a0, .int a1] (G0 L b) h (fun r : Int32 => B r (-123) 2147483647) [(63, 0), (63, 1), (63, 4)] := by
  refine EvM.of2 (lo := [some (.ref 63), some (.int a0), some (.int a1), none, none, none, none]) pf_X10_tried ok_X10_tried rfl rfl ?_
  have hJ0 : JW [(63, 0), (63, 1), (63, 4)] h h := JW.refl hB
  refine ev_aload_n rfl rfl rfl ?_
  refine ev_getW (l := 0) (u := 200) hJ0.1 rfl rfl rfl fl_X10_7 rfl rfl rfl (fun v1 b1 e1 => ?_)
  refine ev_istore_n rfl rfl rfl rfl ?_
  dsimp only [List.set]
  refine ev_aload_n rfl rfl rfl ?_
  refine ev_getW (l := (-2147483648)) (u := 2147483647) hJ0.1 rfl rfl rfl fl_X10_13 rfl rfl rfl (fun v2 b2 e2 => ?_)
  refine ev_istore rfl rfl rfl rfl ?_
  dsimp only [List.set]
  refine ev_aload_n rfl rfl rfl ?_
  refine ev_getW (l := (-2147483648)) (u := 2147483647) hJ0.1 rfl rfl rfl fl_X10_131 rfl rfl rfl (fun v3 b3 e3 => ?_)
  refine ev_istore rfl rfl rfl rfl ?_
  dsimp only [List.set]
  refine ev_aload_n rfl rfl rfl ?_
  refine ev_iload_n rfl rfl rfl ?_
  refine ev_iload_n rfl rfl rfl ?_
  refine ev_V2J hJ0 rfl rfl rfl lk_X10_279 vt_X10_goesAll rfl rfl rfl rfl rfl (w_X10_goesAll_63 L b h hJ0.1 a0 p0 a1) (fun r4 h4 q4 hJ4 k4 => ?_)
  refine ev_istore rfl rfl rfl rfl ?_
  dsimp only [List.set]
  refine ev_aload_n rfl rfl rfl ?_
  refine ev_iload_n rfl rfl rfl ?_
  refine ev_putW (l := 0) (u := 200) hJ4 rfl b1 (by decide) (by decide) rfl rfl rfl fl_X10_7 rfl rfl rfl rfl rfl (fun h5 hJ5 k5 => ?_)
  refine ev_aload_n rfl rfl rfl ?_
  refine ev_iload rfl rfl rfl ?_
  refine ev_putW (l := (-2147483648)) (u := 2147483647) hJ5 rfl (B.any v2) (by decide) (by decide) rfl rfl rfl fl_X10_13 rfl rfl rfl rfl rfl (fun h6 hJ6 k6 => ?_)
  refine ev_aload_n rfl rfl rfl ?_
  refine ev_iload rfl rfl rfl ?_
  refine ev_putW (l := (-2147483648)) (u := 2147483647) hJ6 rfl (B.any v3) (by decide) (by decide) rfl rfl rfl fl_X10_131 rfl rfl rfl rfl rfl (fun h7 hJ7 k7 => ?_)
  refine ev_iload rfl rfl rfl ?_
  exact ev_iret rfl rfl rfl ⟨⟨_, rfl, q4⟩, rfl, hJ7⟩
