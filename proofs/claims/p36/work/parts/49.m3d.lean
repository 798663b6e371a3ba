set_option maxRecDepth 100000 in
set_option maxHeartbeats 4000000 in
theorem w_X10_tune_63 (L : Nat) (b : Bool) (h : Hp) (hB : Bx h)  : EvJ mi_X10_tune [.ref 63] (G0 L b) h (fun r : Int32 => B r (-2147483648) 2147483647) [(63, 16), (63, 17), (63, 18), (63, 19), (63, 20), (63, 21), (63, 22), (63, 23), (63, 27), (63, 28), (63, 31), (73, 999), (74, 999), (75, 999), (76, 999), (77, 999)] := by
  refine EvM.of2 (lo := [some (.ref 63), none]) pf_X10_tune ok_X10_tune rfl rfl ?_
  have hJ0 : JW [(63, 16), (63, 17), (63, 18), (63, 19), (63, 20), (63, 21), (63, 22), (63, 23), (63, 27), (63, 28), (63, 31), (73, 999), (74, 999), (75, 999), (76, 999), (77, 999)] h h := JW.refl hB
  obtain ⟨f1, ef1⟩ : ∃ f_, h 63 16 = f_ := ⟨_, rfl⟩
  have bf1 : B f1 0 160 := by have z_ := hJ0.1 63 16; rw [ef1] at z_; exact z_
  have zf1 := congrArg Int32.toInt ef1
  obtain ⟨f2, ef2⟩ : ∃ f_, h 63 17 = f_ := ⟨_, rfl⟩
  have bf2 : B f2 0 160 := by have z_ := hJ0.1 63 17; rw [ef2] at z_; exact z_
  have zf2 := congrArg Int32.toInt ef2
  obtain ⟨f3, ef3⟩ : ∃ f_, h 63 21 = f_ := ⟨_, rfl⟩
  have bf3 : B f3 0 6 := by have z_ := hJ0.1 63 21; rw [ef3] at z_; exact z_
  have zf3 := congrArg Int32.toInt ef3
  obtain ⟨f4, ef4⟩ : ∃ f_, h 63 20 = f_ := ⟨_, rfl⟩
  have zf4 := congrArg Int32.toInt ef4
  obtain ⟨f5, ef5⟩ : ∃ f_, h 63 19 = f_ := ⟨_, rfl⟩
  have bf5 : B f5 0 3 := by have z_ := hJ0.1 63 19; rw [ef5] at z_; exact z_
  have zf5 := congrArg Int32.toInt ef5
  obtain ⟨f6, ef6⟩ : ∃ f_, h 63 27 = f_ := ⟨_, rfl⟩
  have bf6 : B f6 0 60 := by have z_ := hJ0.1 63 27; rw [ef6] at z_; exact z_
  have zf6 := congrArg Int32.toInt ef6
  refine ev_aload_n rfl rfl rfl ?_
  refine ev_getW (l := 0) (u := 6) hJ0.1 rfl rfl rfl fl_X10_257 rfl rfl rfl (fun v7 b7 e7 => ?_)
  refine ev_bipush (v := 6) rfl rfl (by decide) ?_
  refine ev_icmp_ne rfl rfl (fun c8 => ?_) (fun c8 => ?_)
  · have b9 : B v7 0 5 := R_neU b7 (by decide : B 6 6 6) c8 (by decide)
    have z10 := w_ne c8
    rw [show (6 : Int32).toInt = 6 from by decide] at z10
    refine ev_aload_n rfl rfl rfl ?_
    refine ev_iconst (v := 0) rfl rfl (by decide) ?_
    refine ev_putW (l := 0) (u := 6) hJ0 rfl (by decide : B 0 0 0) (by decide) (by decide) rfl rfl rfl fl_X10_191 rfl rfl rfl rfl rfl (fun h13 hJ13 k13 => ?_)
    refine ev_aload_n rfl rfl rfl ?_
    refine ev_iconst (v := 0) rfl rfl (by decide) ?_
    refine ev_putW (l := 0) (u := 160) hJ13 rfl (by decide : B 0 0 0) (by decide) (by decide) rfl rfl rfl fl_X10_210 rfl rfl rfl rfl rfl (fun h14 hJ14 k14 => ?_)
    refine ev_aload_n rfl rfl rfl ?_
    have z15 := congrArg Int32.toInt (rd_o k14 (rd_o k13 ef1 rfl) rfl)
    have z16 := congrArg Int32.toInt (rd_s k14)
    have z17 := congrArg Int32.toInt (rd_o k14 (rd_s k13) rfl)
    have z18 := congrArg Int32.toInt (rd_o k14 (rd_o k13 ef4 rfl) rfl)
    have z19 := congrArg Int32.toInt (rd_o k14 (rd_o k13 ef5 rfl) rfl)
    refine ev_V0K hJ14 rfl rfl rfl lk_X10_251 vt_X10_next rfl rfl rfl rfl rfl (w_X10_next_63 L b h14 hJ14.1 (by have z0_ := congrArg Int32.toInt (rd_o k14 (rd_o k13 ef1 rfl) rfl); have z1_ := congrArg Int32.toInt (rd_s k14); have z_ := w_lits; have zl_ := l_lits; omega)) (fun h20 hJ20 k20 m20 => ?_)
    obtain ⟨m20_0, m20_1, m20_2, m20_3, m20_4⟩ := m20
    obtain ⟨f21, ef21⟩ : ∃ f_, h20 63 17 = f_ := ⟨_, rfl⟩
    have bf21 : B f21 0 160 := by have z_ := hJ20.1 63 17; rw [ef21] at z_; exact z_
    have zf21 := congrArg Int32.toInt ef21
    obtain ⟨f22, ef22⟩ : ∃ f_, h20 63 21 = f_ := ⟨_, rfl⟩
    have bf22 : B f22 0 6 := by have z_ := hJ20.1 63 21; rw [ef22] at z_; exact z_
    have zf22 := congrArg Int32.toInt ef22
    obtain ⟨f23, ef23⟩ : ∃ f_, h20 63 20 = f_ := ⟨_, rfl⟩
    have zf23 := congrArg Int32.toInt ef23
    obtain ⟨f24, ef24⟩ : ∃ f_, h20 63 19 = f_ := ⟨_, rfl⟩
    have bf24 : B f24 0 3 := by have z_ := hJ20.1 63 19; rw [ef24] at z_; exact z_
    have zf24 := congrArg Int32.toInt ef24
    have z25 := congrArg Int32.toInt (rd_w k20 (rd_o k14 (rd_o k13 ef1 rfl) rfl) rfl)
    refine ev_aload_n rfl rfl rfl ?_
    have z26 := congrArg Int32.toInt (rd_w k20 (rd_o k14 (rd_o k13 ef6 rfl) rfl) rfl)
    refine ev_V0K hJ20 rfl rfl rfl lk_X10_260 vt_X10_readTune rfl rfl rfl rfl rfl (w_X10_readTune_63 L b h20 hJ20.1 (by have z0_ := congrArg Int32.toInt (rd_w k20 (rd_o k14 (rd_o k13 ef1 rfl) rfl) rfl); have z1_ := congrArg Int32.toInt ef21; have z_ := w_lits; have zl_ := l_lits; omega) (by have z0_ := congrArg Int32.toInt ef22; have z1_ := congrArg Int32.toInt ef23; have z2_ := congrArg Int32.toInt ef24; have z_ := w_lits; have zl_ := l_lits; omega)) (fun h27 hJ27 k27 m27 => ?_)
    obtain ⟨f28, ef28⟩ : ∃ f_, h27 63 17 = f_ := ⟨_, rfl⟩
    have bf28 : B f28 0 160 := by have z_ := hJ27.1 63 17; rw [ef28] at z_; exact z_
    have zf28 := congrArg Int32.toInt ef28
    obtain ⟨f29, ef29⟩ : ∃ f_, h27 63 21 = f_ := ⟨_, rfl⟩
    have bf29 : B f29 0 6 := by have z_ := hJ27.1 63 21; rw [ef29] at z_; exact z_
    have zf29 := congrArg Int32.toInt ef29
    obtain ⟨f30, ef30⟩ : ∃ f_, h27 63 20 = f_ := ⟨_, rfl⟩
    have zf30 := congrArg Int32.toInt ef30
    obtain ⟨f31, ef31⟩ : ∃ f_, h27 63 19 = f_ := ⟨_, rfl⟩
    have bf31 : B f31 0 3 := by have z_ := hJ27.1 63 19; rw [ef31] at z_; exact z_
    have zf31 := congrArg Int32.toInt ef31
    obtain ⟨f32, ef32⟩ : ∃ f_, h27 63 27 = f_ := ⟨_, rfl⟩
    have bf32 : B f32 0 60 := by have z_ := hJ27.1 63 27; rw [ef32] at z_; exact z_
    have zf32 := congrArg Int32.toInt ef32
    refine ev_aload_n rfl rfl rfl ?_
    refine ev_iconst (v := 0) rfl rfl (by decide) ?_
    refine ev_putW (l := 0) (u := 160) hJ27 rfl (by decide : B 0 0 0) (by decide) (by decide) rfl rfl rfl fl_X10_186 rfl rfl rfl rfl rfl (fun h33 hJ33 k33 => ?_)
    refine ev_aload_n rfl rfl rfl ?_
    refine ev_getV (v := f29) rfl rfl fl_X10_191 rfl rfl rfl (rd_o k33 ef29 rfl) ?_
    refine ev_if_le rfl rfl (fun c34 => ?_) (fun c34 => ?_)
    · have b35 : B f29 0 0 := R_leX bf29 (by decide : B 0 0 0) c34 (by decide)
      have z36 := w_le c34
      rw [show (0 : Int32).toInt = 0 from by decide] at z36
      refine ev_iconst (v := 0) rfl rfl (by decide) ?_
      refine ev_istore_n rfl rfl rfl rfl ?_
      dsimp only [List.set]
      have lp52_167 : ∀ (n : Nat) (w168 : Int32) (h170 : Hp), B w168 0 60 → JW [(63, 16), (63, 17), (63, 18), (63, 19), (63, 20), (63, 21), (63, 22), (63, 23), (63, 27), (63, 28), (63, 31), (73, 999), (74, 999), (75, 999), (76, 999), (77, 999)] h h170 → (h170 63 16 = 0) → (h170 63 23 = v7) → (h170 63 17 = f28) → (h170 63 21 = f29) → (h170 63 20 = f30) → (h170 63 19 = f31) → (h170 63 27 = f32) → 60 + 1 - w168.toInt ≤ (n : Int) → EvQ mi_X10_tune 52 [some (.ref 63), some (.int w168)] [] (G0 L b) h170 0 0 (QJ (fun r : Int32 => B r (-2147483648) 2147483647) [(63, 16), (63, 17), (63, 18), (63, 19), (63, 20), (63, 21), (63, 22), (63, 23), (63, 27), (63, 28), (63, 31), (73, 999), (74, 999), (75, 999), (76, 999), (77, 999)] (G0 L b) h) := by
        intro n
        induction n with
        | zero =>
          intro w168 h170 b169 hJ171 z172 z173 z174 z175 z176 z177 z178 hm52
          exact absurd hm52 (L_zero b169 (by decide))
        | succ n ih52 =>
          intro w168 h170 b169 hJ171 z172 z173 z174 z175 z176 z177 z178 hm52
          have z179 := congrArg Int32.toInt z172
          have z180 := congrArg Int32.toInt z174
          have z181 := congrArg Int32.toInt z175
          have z182 := congrArg Int32.toInt z176
          have z183 := congrArg Int32.toInt z177
          have z184 := congrArg Int32.toInt z178
          refine ev_iload_n rfl rfl rfl ?_
          refine ev_aload_n rfl rfl rfl ?_
          refine ev_getV (v := f32) rfl rfl fl_X10_234 rfl rfl rfl z178 ?_
          refine ev_icmp_ge rfl rfl (fun c185 => ?_) (fun c185 => ?_)
          · have z186 := w_le c185
            refine ev_aload_n rfl rfl rfl ?_
            refine ev_getR (y := 73) rfl rfl fl_X10_51 rfl rfl rfl rfl ?_
            refine ev_aload_n rfl rfl rfl ?_
            refine ev_getV (v := v7) rfl rfl fl_X10_257 rfl rfl rfl z173 ?_
            refine ev_aload_n rfl rfl rfl ?_
            refine ev_getV (v := f32) rfl rfl fl_X10_234 rfl rfl rfl z178 ?_
            have b190 : B f32 0 24 := ⟨(by have z0_ := congrArg Int32.toInt z172; have z1_ := congrArg Int32.toInt z174; have z2_ := congrArg Int32.toInt z175; have z3_ := congrArg Int32.toInt z176; have z4_ := congrArg Int32.toInt z177; have z5_ := congrArg Int32.toInt z178; have z_ := w_lits; have zl_ := l_lits; omega), (by have z0_ := congrArg Int32.toInt z172; have z1_ := congrArg Int32.toInt z174; have z2_ := congrArg Int32.toInt z175; have z3_ := congrArg Int32.toInt z176; have z4_ := congrArg Int32.toInt z177; have z5_ := congrArg Int32.toInt z178; have z_ := w_lits; have zl_ := l_lits; omega)⟩
            refine ev_iasW (n := 6) (l := 0) (u := 24) hJ171 b9 (by decide) (by decide) (fun _ => rfl) b190 (by decide) (by decide) (fun _ => rfl) rfl rfl rfl rfl (fun h191 hJ191 k191 => ?_)
            refine ev_aload_n rfl rfl rfl ?_
            refine ev_dup rfl rfl rfl ?_
            refine ev_getV (v := v7) rfl rfl fl_X10_257 rfl rfl rfl (rd_a k191 z173 rfl) ?_
            refine ev_iconst (v := 1) rfl rfl (by decide) ?_
            refine ev_iaddB (l := 1) (u := 6) rfl rfl b9 (by decide : B 1 1 1) (by decide) (by decide) (by decide) (by decide) (fun v192 b192 e192 g192 => ?_)
            have e192x := e192; rw [show (1 : Int32).toInt = 1 from by decide] at e192x
            refine ev_putW (l := 0) (u := 6) hJ191 rfl b192 (by decide) (by decide) rfl rfl rfl fl_X10_257 rfl rfl rfl rfl rfl (fun h193 hJ193 k193 => ?_)
            refine ev_aload_n rfl rfl rfl ?_
            refine ev_getV (v := v192) rfl rfl fl_X10_257 rfl rfl rfl (rd_s k193) ?_
            refine ev_iconst (v := 1) rfl rfl (by decide) ?_
            refine ev_isubB (l := 0) (u := 5) rfl rfl b192 (by decide : B 1 1 1) (by decide) (by decide) (by decide) (by decide) (fun v194 b194 e194 g194 => ?_)
            have e194x := e194; rw [show (1 : Int32).toInt = 1 from by decide] at e194x
            exact ev_iret rfl rfl rfl ⟨⟨_, rfl, (b194.mono (by decide) (by decide))⟩, rfl, hJ193⟩
          · have b187 : B w168 0 59 := R_ltX b169 bf32 (Int32.not_le.mp c185) (by decide)
            have b188 : B f32 1 60 := R_ltY b169 bf32 (Int32.not_le.mp c185) (by decide)
            have z189 := w_lt (Int32.not_le.mp c185)
            refine ev_aload_n rfl rfl rfl ?_
            refine ev_getR (y := 74) rfl rfl fl_X10_54 rfl rfl rfl rfl ?_
            refine ev_bipush (v := 24) rfl rfl (by decide) ?_
            refine ev_aload_n rfl rfl rfl ?_
            refine ev_getV (v := v7) rfl rfl fl_X10_257 rfl rfl rfl z173 ?_
            refine ev_imulB (l := 0) (u := 120) rfl rfl (by decide : B 24 24 24) b9 (by decide) (by decide) (by decide) (by decide) (by decide) (fun v195 b195 e195 g195 => ?_)
            rw [show (24 : Int32).toInt = 24 from by decide] at e195
            refine ev_iload_n rfl rfl rfl ?_
            refine ev_iaddB (l := 0) (u := 179) rfl rfl b195 b187 (by decide) (by decide) (by decide) (by decide) (fun v196 b196 e196 g196 => ?_)
            refine ev_aload_n rfl rfl rfl ?_
            refine ev_getR (y := 75) rfl rfl fl_X10_57 rfl rfl rfl rfl ?_
            refine ev_iload_n rfl rfl rfl ?_
            refine ev_ialW (n := 64) (l := 0) (u := 4095) hJ171.1 b187 (by decide) (by decide) (fun _ => rfl) rfl rfl rfl (fun v197 b197 e197 => ?_)
            have b198 : B v196 0 143 := ⟨(by have z0_ := congrArg Int32.toInt z172; have z1_ := congrArg Int32.toInt z174; have z2_ := congrArg Int32.toInt z175; have z3_ := congrArg Int32.toInt z176; have z4_ := congrArg Int32.toInt z177; have z5_ := congrArg Int32.toInt z178; have z_ := w_lits; have zl_ := l_lits; omega), (by have z0_ := congrArg Int32.toInt z172; have z1_ := congrArg Int32.toInt z174; have z2_ := congrArg Int32.toInt z175; have z3_ := congrArg Int32.toInt z176; have z4_ := congrArg Int32.toInt z177; have z5_ := congrArg Int32.toInt z178; have z_ := w_lits; have zl_ := l_lits; omega)⟩
            refine ev_iasW (n := 144) (l := 0) (u := 4095) hJ171 b198 (by decide) (by decide) (fun _ => rfl) b197 (by decide) (by decide) (fun _ => rfl) rfl rfl rfl rfl (fun h199 hJ199 k199 => ?_)
            refine ev_iincB (y := 1) (l := 1) (u := 60) rfl rfl rfl (by decide) rfl rfl b187 (by decide : B 1 1 1) (by decide) (by decide) (by decide) (by decide) (fun v200 b200 e200 => ?_)
            dsimp only [List.set]
            have e200x := e200; rw [show (1 : Int32).toInt = 1 from by decide] at e200x
            refine ev_goto rfl rfl ?_
            exact (ih52 v200 h199 (b200.mono (by decide) (by decide)) hJ199 (rd_a k199 z172 rfl) (rd_a k199 z173 rfl) (rd_a k199 z174 rfl) (rd_a k199 z175 rfl) (rd_a k199 z176 rfl) (rd_a k199 z177 rfl) (rd_a k199 z178 rfl) (L_up hm52 (e_p1 e200 (by decide))))
      exact (lp52_167 61 0 h33 ((by decide : B 0 0 0).mono (by decide) (by decide)) hJ33 (rd_s k33) (rd_o k33 (rd_w k27 (rd_w k20 (rd_o k14 (rd_o k13 e7 rfl) rfl) rfl) rfl) rfl) (rd_o k33 ef28 rfl) (rd_o k33 ef29 rfl) (rd_o k33 ef30 rfl) (rd_o k33 ef31 rfl) (rd_o k33 ef32 rfl) (L_init (by decide : B 0 0 0) (by decide)))
    · have b37 : B f29 1 6 := R_ltY (by decide : B 0 0 0) bf29 (Int32.not_le.mp c34) (by decide)
      have z38 := w_lt (Int32.not_le.mp c34)
      rw [show (0 : Int32).toInt = 0 from by decide] at z38
      refine ev_bipush (v := (-10)) rfl rfl (by decide) ?_
      refine ev_aload_n rfl rfl rfl ?_
      refine ev_getW (l := (-2147483648)) (u := 2147483647) hJ33.1 rfl rfl rfl fl_X10_194 rfl rfl rfl (fun v201 b201 e201 => ?_)
      refine ev_isubA rfl rfl (fun v202 g202 => ?_)
      exact ev_iret rfl rfl rfl ⟨⟨_, rfl, (B.any v202)⟩, rfl, hJ33⟩
  · have b11 : B v7 6 6 := R_eqX b7 (by decide : B 6 6 6) c8
    have z12 := congrArg Int32.toInt c8
    rw [show (6 : Int32).toInt = 6 from by decide] at z12
    refine ev_bipush (v := (-3)) rfl rfl (by decide) ?_
    exact ev_iret rfl rfl rfl ⟨⟨_, rfl, ((by decide : B (-3) (-3) (-3)).mono (by decide) (by decide))⟩, rfl, hJ0⟩

