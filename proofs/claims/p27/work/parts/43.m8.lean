set_option maxRecDepth 100000 in
set_option maxHeartbeats 4000000 in
theorem w_X10_meets_63 (L : Nat) (b : Bool) (h : Hp) (hB : Bx h) (a0 : Int32) (p0 : B a0 0 5) (a1 : Int32) (a2 : Int32) (p2 : B a2 0 8) : EvK mi_X10_meets [.ref 63, .int a0, .int a1, .int a2] (G0 L b) h (fun z : Hp => (GI h z a0 a1 a2.toInt (h 73 (Int32.toNatClampNeg a0)).toInt 9 0)) [(84, 999)] := by
  refine EvM.of2 (lo := [some (.ref 63), some (.int a0), some (.int a1), some (.int a2), none, none, none, none, none, none, none, none]) pf_X10_meets ok_X10_meets rfl rfl ?_
  have hJ0 : JW [(84, 999)] h h := JW.refl hB
  obtain ⟨f1, ef1⟩ : ∃ f_, h 63 3 = f_ := ⟨_, rfl⟩
  have bf1 : B f1 0 200 := by have z_ := hJ0.1 63 3; rw [ef1] at z_; exact z_
  have zf1 := congrArg Int32.toInt ef1
  refine ev_aload_n rfl rfl rfl ?_
  refine ev_getR (y := 73) rfl rfl fl_X10_51 rfl rfl rfl rfl ?_
  refine ev_iload_n rfl rfl rfl ?_
  refine ev_ialW (n := 6) (l := 0) (u := 24) hJ0.1 p0 (by decide) (by decide) (fun _ => rfl) rfl rfl rfl (fun v2 b2 e2 => ?_)
  refine ev_istore rfl rfl rfl rfl ?_
  dsimp only [List.set]
  refine ev_iconst (v := 0) rfl rfl (by decide) ?_
  refine ev_istore rfl rfl rfl rfl ?_
  dsimp only [List.set]
  have lp11_169219 : ∀ (n : Nat) (w169220 : Int32) (h169222 : Hp), B w169220 0 45225 → JW [(84, 999)] h h169222 → (h169222 63 3 = f1) → (h169222 73 (Int32.toNatClampNeg a0) = v2) → 45225 + 1 - w169220.toInt ≤ (n : Int) → EvQ mi_X10_meets 11 [some (.ref 63), some (.int a0), some (.int a1), some (.int a2), some (.int v2), some (.int w169220), none, none, none, none, none, none] [] (G0 L b) h169222 0 0 (QK (fun z : Hp => (GI h z a0 a1 a2.toInt (h 73 (Int32.toNatClampNeg a0)).toInt 9 0)) [(84, 999)] (G0 L b) h) := by
    intro n
    induction n with
    | zero =>
      intro w169220 h169222 b169221 hJ169223 z169224 z169225 hm11
      exact absurd hm11 (L_zero b169221 (by decide))
    | succ n ih11 =>
      intro w169220 h169222 b169221 hJ169223 z169224 z169225 hm11
      have z169226 := congrArg Int32.toInt z169224
      refine ev_iload rfl rfl rfl ?_
      refine ev_sipush (v := 1809) rfl rfl (by decide) ?_
      refine ev_iload rfl rfl rfl ?_
      refine ev_iconst (v := 1) rfl rfl (by decide) ?_
      refine ev_iaddB (l := 1) (u := 25) rfl rfl b2 (by decide : B 1 1 1) (by decide) (by decide) (by decide) (by decide) (fun v169227 b169227 e169227 g169227 => ?_)
      have e169227x := e169227; rw [show (1 : Int32).toInt = 1 from by decide] at e169227x
      refine ev_imulB (l := 1809) (u := 45225) rfl rfl (by decide : B 1809 1809 1809) b169227 (by decide) (by decide) (by decide) (by decide) (by decide) (fun v169228 b169228 e169228 g169228 => ?_)
      rw [show (1809 : Int32).toInt = 1809 from by decide] at e169228
      refine ev_icmp_ge rfl rfl (fun c169229 => ?_) (fun c169229 => ?_)
      · have b169230 : B w169220 1809 45225 := R_leY b169228 b169221 c169229 (by decide)
        have z169231 := w_le c169229
        refine ev_aload_n rfl rfl rfl ?_
        refine ev_getR (y := 84) rfl rfl fl_X10_85 rfl rfl rfl rfl ?_
        refine ev_aload_n rfl rfl rfl ?_
        refine ev_iconst (v := 0) rfl rfl (by decide) ?_
        refine ev_iload_n rfl rfl rfl ?_
        refine ev_aload_n rfl rfl rfl ?_
        refine ev_getW (l := 0) (u := 200) hJ169223.1 rfl rfl rfl fl_X10_7 rfl rfl rfl (fun v169234 b169234 e169234 => ?_)
        have z169235 := congrArg Int32.toInt z169224
        refine ev_V3P rfl rfl lk_X10_293 vt_X10_spot rfl rfl rfl rfl rfl (w_spotK L b h169222 hJ169223.1 0 a2 v169234 ((by decide : B 0 0 0).mono (by decide) (by decide)) p2 b169234) (fun r169236 q169236 => ?_)
        obtain ⟨b169236, pp169236_0⟩ := q169236
        refine ev_iconst (v := 1) rfl rfl (by decide) ?_
        refine ev_zasW (n := 45225) (l := (-2147483648)) (u := 2147483647) hJ169223 b169236 (by decide) (by decide) (fun _ => rfl) ((by decide : B 1 1 1).mono (by decide) (by decide)) (by decide) (by decide) (fun _ => rfl) rfl rfl rfl rfl (fun h169237 hJ169237 k169237 => ?_)
        have gi169238 : GI h h169237 a0 a1 a2.toInt 0 9 0 := GI.start (met.new k169237 (by have q_ := congrArg Int32.toInt (rd_a k169237 e169234 rfl); have q2_ := congrArg Int32.toInt (hJ169237.2 63 0 rfl); have z_ := w_lits; have q3_ := pp169236_0; omega)) p2.2
        refine ev_iconst (v := 0) rfl rfl (by decide) ?_
        refine ev_istore rfl rfl rfl rfl ?_
        dsimp only [List.set]
        have lp57_203062 : ∀ (n : Nat) (w203063 : Int32) (h203065 : Hp), B w203063 0 24 → JW [(84, 999)] h h203065 → (h203065 63 3 = f1) → (h203065 73 (Int32.toNatClampNeg a0) = v2) → (h203065 63 0 = v169234) → (GI h h203065 a0 a1 a2.toInt w203063.toInt 9 0) → 24 + 1 - w203063.toInt ≤ (n : Int) → EvQ mi_X10_meets 57 [some (.ref 63), some (.int a0), some (.int a1), some (.int a2), some (.int v2), some (.int w203063), none, none, none, none, none, none] [] (G0 L b) h203065 0 0 (QK (fun z : Hp => (GI h z a0 a1 a2.toInt (h 73 (Int32.toNatClampNeg a0)).toInt 9 0)) [(84, 999)] (G0 L b) h) := by
          intro n
          induction n with
          | zero =>
            intro w203063 h203065 b203064 hJ203066 z203067 z203068 z203069 u57_0 hm57
            exact absurd hm57 (L_zero b203064 (by decide))
          | succ n ih57 =>
            intro w203063 h203065 b203064 hJ203066 z203067 z203068 z203069 u57_0 hm57
            have z203070 := congrArg Int32.toInt z203067
            refine ev_iload rfl rfl rfl ?_
            refine ev_iload rfl rfl rfl ?_
            refine ev_icmp_ge rfl rfl (fun c203071 => ?_) (fun c203071 => ?_)
            · have z203072 := w_le c203071
              exact ev_vret rfl rfl trivial ⟨rfl, rfl, hJ203066, (GI.to u57_0 (fun i_ r_ p_ _ _ _ _ _ _ _ => by have q_ := congrArg Int32.toInt (e2); have z_ := w_lits; omega))⟩
            · have b203073 : B w203063 0 23 := R_ltX b203064 b2 (Int32.not_le.mp c203071) (by decide)
              have b203074 : B v2 1 24 := R_ltY b203064 b2 (Int32.not_le.mp c203071) (by decide)
              have z203075 := w_lt (Int32.not_le.mp c203071)
              refine ev_aload_n rfl rfl rfl ?_
              refine ev_aload_n rfl rfl rfl ?_
              refine ev_iload_n rfl rfl rfl ?_
              refine ev_iload rfl rfl rfl ?_
              have z203076 := congrArg Int32.toInt z203067
              refine ev_V2P rfl rfl lk_X10_263 vt_X10_chordAt rfl rfl rfl rfl rfl (w_chordAtK L b h203065 hJ203066.1 a0 w203063 p0 b203073) (fun r203077 q203077 => ?_)
              obtain ⟨b203077, pp203077_0⟩ := q203077
              refine ev_iload_n rfl rfl rfl ?_
              have z203078 := congrArg Int32.toInt z203067
              refine ev_V2P rfl rfl lk_X10_276 vt_X10_moved rfl rfl rfl rfl rfl (w_movedE L b h203065 r203077 a1) (fun r203079 q203079 => ?_)
              obtain ⟨b203079, pp203079_0⟩ := q203079
              refine ev_istore rfl rfl rfl rfl ?_
              dsimp only [List.set]
              refine ev_iload_n rfl rfl rfl ?_
              refine ev_istore rfl rfl rfl rfl ?_
              dsimp only [List.set]
              have lp81_208709 : ∀ (n : Nat) (w208710 : Int32) (h208712 : Hp), B w208710 (-1) 8 → JW [(84, 999)] h h208712 → (h208712 63 3 = f1) → (h208712 73 (Int32.toNatClampNeg a0) = v2) → (h208712 63 0 = v169234) → (GI h h208712 a0 a1 a2.toInt w203063.toInt w208710.toInt 0) → w208710.toInt + 1 - (-1) ≤ (n : Int) → EvQ mi_X10_meets 81 [some (.ref 63), some (.int a0), some (.int a1), some (.int a2), some (.int v2), some (.int w203063), some (.int r203079), some (.int w208710), none, none, none, none] [] (G0 L b) h208712 0 0 (QK (fun z : Hp => (GI h z a0 a1 a2.toInt (h 73 (Int32.toNatClampNeg a0)).toInt 9 0)) [(84, 999)] (G0 L b) h) := by
                intro n
                induction n with
                | zero =>
                  intro w208710 h208712 b208711 hJ208713 z208714 z208715 z208716 u81_0 hm81
                  exact absurd hm81 (M_zero b208711 (by decide))
                | succ n ih81 =>
                  intro w208710 h208712 b208711 hJ208713 z208714 z208715 z208716 u81_0 hm81
                  have z208717 := congrArg Int32.toInt z208714
                  refine ev_iload rfl rfl rfl ?_
                  refine ev_if_lt rfl rfl (fun c208718 => ?_) (fun c208718 => ?_)
                  · have b208719 : B w208710 (-1) (-1) := R_ltX b208711 (by decide : B 0 0 0) c208718 (by decide)
                    have z208720 := w_lt c208718
                    rw [show (0 : Int32).toInt = 0 from by decide] at z208720
                    refine ev_iincB (y := 1) (l := 1) (u := 24) rfl rfl rfl (by decide) rfl rfl b203073 (by decide : B 1 1 1) (by decide) (by decide) (by decide) (by decide) (fun v208723 b208723 e208723 => ?_)
                    dsimp only [List.set]
                    have e208723x := e208723; rw [show (1 : Int32).toInt = 1 from by decide] at e208723x
                    refine ev_goto rfl rfl ?_
                    exact (EvQ.drop 7 (EvQ.drop 6 (ih57 v208723 h208712 (b208723.mono (by decide) (by decide)) hJ208713 z208714 z208715 z208716 (GI.to u81_0 (fun i_ r_ p_ _ _ _ _ _ _ _ => by have z_ := w_lits; omega)) (L_up hm57 (e_p1 e208723 (by decide))))))
                  · have b208721 : B w208710 0 8 := R_leY (by decide : B 0 0 0) b208711 (Int32.not_lt.mp c208718) (by decide)
                    have z208722 := w_le (Int32.not_lt.mp c208718)
                    rw [show (0 : Int32).toInt = 0 from by decide] at z208722
                    refine ev_iconst (v := 0) rfl rfl (by decide) ?_
                    refine ev_istore rfl rfl rfl rfl ?_
                    dsimp only [List.set]
                    have lp89_210125 : ∀ (n : Nat) (w210126 : Int32) (h210128 : Hp), B w210126 0 201 → JW [(84, 999)] h h210128 → (h210128 63 3 = f1) → (h210128 73 (Int32.toNatClampNeg a0) = v2) → (h210128 63 0 = v169234) → (GI h h210128 a0 a1 a2.toInt w203063.toInt w208710.toInt w210126.toInt) → 201 + 1 - w210126.toInt ≤ (n : Int) → EvQ mi_X10_meets 89 [some (.ref 63), some (.int a0), some (.int a1), some (.int a2), some (.int v2), some (.int w203063), some (.int r203079), some (.int w208710), some (.int w210126), none, none, none] [] (G0 L b) h210128 0 0 (QK (fun z : Hp => (GI h z a0 a1 a2.toInt (h 73 (Int32.toNatClampNeg a0)).toInt 9 0)) [(84, 999)] (G0 L b) h) := by
                      intro n
                      induction n with
                      | zero =>
                        intro w210126 h210128 b210127 hJ210129 z210130 z210131 z210132 u89_0 hm89
                        exact absurd hm89 (L_zero b210127 (by decide))
                      | succ n ih89 =>
                        intro w210126 h210128 b210127 hJ210129 z210130 z210131 z210132 u89_0 hm89
                        have z210133 := congrArg Int32.toInt z210130
                        refine ev_iload rfl rfl rfl ?_
                        refine ev_aload_n rfl rfl rfl ?_
                        refine ev_getV (v := f1) rfl rfl fl_X10_19 rfl rfl rfl z210130 ?_
                        refine ev_icmp_gt rfl rfl (fun c210134 => ?_) (fun c210134 => ?_)
                        · have b210135 : B w210126 1 201 := R_ltY bf1 b210127 c210134 (by decide)
                          have z210136 := w_lt c210134
                          refine ev_iincB (y := (-1)) (l := -1) (u := 7) rfl rfl rfl (by decide) rfl rfl b208721 (by decide : B (-1) (-1) (-1)) (by decide) (by decide) (by decide) (by decide) (fun v210139 b210139 e210139 => ?_)
                          dsimp only [List.set]
                          have e210139x := e210139; rw [show ((-1) : Int32).toInt = (-1) from by decide] at e210139x
                          refine ev_goto rfl rfl ?_
                          exact (EvQ.drop 8 (ih81 v210139 h210128 (b210139.mono (by decide) (by decide)) hJ210129 z210130 z210131 z210132 (GI.to u89_0 (fun i_ r_ p_ _ _ _ _ _ _ _ => by have z_ := w_lits; omega)) (M_dn hm81 (e_m1 e210139 (by decide)))))
                        · have b210137 : B w210126 0 200 := R_leX b210127 bf1 (Int32.not_lt.mp c210134) (by decide)
                          have z210138 := w_le (Int32.not_lt.mp c210134)
                          refine ev_aload_n rfl rfl rfl ?_
                          refine ev_getR (y := 84) rfl rfl fl_X10_85 rfl rfl rfl rfl ?_
                          refine ev_aload_n rfl rfl rfl ?_
                          refine ev_iload rfl rfl rfl ?_
                          refine ev_iload rfl rfl rfl ?_
                          refine ev_iload rfl rfl rfl ?_
                          have z210140 := congrArg Int32.toInt z210130
                          refine ev_V3P rfl rfl lk_X10_293 vt_X10_spot rfl rfl rfl rfl rfl (w_spotK L b h210128 hJ210129.1 w203063 w208710 w210126 (b203073.mono (by decide) (by decide)) b208721 b210137) (fun r210141 q210141 => ?_)
                          obtain ⟨b210141, pp210141_0⟩ := q210141
                          refine ev_zalW (n := 45225) (l := (-2147483648)) (u := 2147483647) hJ210129.1 b210141 (by decide) (by decide) (fun _ => rfl) rfl rfl rfl (fun v210142 b210142 e210142 => ?_)
                          refine ev_if_eq rfl rfl (fun c210143 => ?_) (fun c210143 => ?_)
                          · have b210144 : B v210142 0 0 := R_eqX (B.any v210142) (by decide : B 0 0 0) c210143
                            have z210145 := congrArg Int32.toInt c210143
                            rw [show (0 : Int32).toInt = 0 from by decide] at z210145
                            refine ev_iincB (y := 1) (l := 1) (u := 201) rfl rfl rfl (by decide) rfl rfl b210137 (by decide : B 1 1 1) (by decide) (by decide) (by decide) (by decide) (fun v210147 b210147 e210147 => ?_)
                            dsimp only [List.set]
                            have e210147x := e210147; rw [show (1 : Int32).toInt = 1 from by decide] at e210147x
                            refine ev_goto rfl rfl ?_
                            exact (ih89 v210147 h210128 (b210147.mono (by decide) (by decide)) hJ210129 z210130 z210131 z210132 (GI.to (GI.add u89_0 (Cl.vac e210142 c210143 pp210141_0)) (fun i_ r_ p_ _ _ _ _ _ _ _ => by have z_ := w_lits; omega)) (L_up hm89 (e_p1 e210147 (by decide))))
                          · have z210146 := w_ne c210143
                            rw [show (0 : Int32).toInt = 0 from by decide] at z210146
                            refine ev_iload rfl rfl rfl ?_
                            refine ev_if_le rfl rfl (fun c210148 => ?_) (fun c210148 => ?_)
                            · have b210149 : B w208710 0 0 := R_leX b208721 (by decide : B 0 0 0) c210148 (by decide)
                              have z210150 := w_le c210148
                              rw [show (0 : Int32).toInt = 0 from by decide] at z210150
                              have rs210153 : RS h h210128 w203063.toInt w208710.toInt w210126.toInt := fun z_ => absurd z_ (by have z0_ := congrArg Int32.toInt z210130; have z_ := w_lits; have zl_ := l_lits; omega)
                              refine ev_iload rfl rfl rfl ?_
                              refine ev_aload_n rfl rfl rfl ?_
                              refine ev_getR (y := 81) rfl rfl fl_X10_76 rfl rfl rfl rfl ?_
                              refine ev_iload rfl rfl rfl ?_
                              refine ev_ialW (n := 201) (l := 0) (u := 4095) hJ210129.1 b210137 (by decide) (by decide) (fun _ => rfl) rfl rfl rfl (fun v210154 b210154 e210154 => ?_)
                              refine ev_iandB rfl rfl b210154 (by decide) (fun v210155 b210155 e210155 => ?_)
                              refine ev_istore rfl rfl rfl rfl ?_
                              dsimp only [List.set]
                              refine ev_iload rfl rfl rfl ?_
                              refine ev_istore rfl rfl rfl rfl ?_
                              dsimp only [List.set]
                              refine ev_iconst (v := 1) rfl rfl (by decide) ?_
                              refine ev_istore rfl rfl rfl rfl ?_
                              dsimp only [List.set]
                              have lp168_210220 : ∀ (n : Nat) (w210221 : Int32) (w210222 : Int32) (h210225 : Hp), B w210221 0 4095 → B w210222 1 1 → JW [(84, 999)] h h210225 → (h210225 63 3 = f1) → (h210225 73 (Int32.toNatClampNeg a0) = v2) → (h210225 63 0 = v169234) → (h210225 81 (Int32.toNatClampNeg w210126) = v210154) → (GI h h210225 a0 a1 a2.toInt w203063.toInt w208710.toInt w210126.toInt) → (RS h h210225 w203063.toInt w208710.toInt w210126.toInt) → (EN h h210225 v210155 w210221 w203063.toInt w208710.toInt w210126.toInt) → w210221.toInt + 1 ≤ (n : Int) → EvQ mi_X10_meets 168 [some (.ref 63), some (.int a0), some (.int a1), some (.int a2), some (.int v2), some (.int w203063), some (.int r203079), some (.int w208710), some (.int w210126), some (.int v210155), some (.int w210221), some (.int w210222)] [] (G0 L b) h210225 0 0 (QK (fun z : Hp => (GI h z a0 a1 a2.toInt (h 73 (Int32.toNatClampNeg a0)).toInt 9 0)) [(84, 999)] (G0 L b) h) := by
                                intro n
                                induction n with
                                | zero =>
                                  intro w210221 w210222 h210225 b210223 b210224 hJ210226 z210227 z210228 z210229 z210230 u168_0 u168_1 u168_2 hm168
                                  exact absurd hm168 (by have z_ := b210223.1; omega)
                                | succ n ih168 =>
                                  intro w210221 w210222 h210225 b210223 b210224 hJ210226 z210227 z210228 z210229 z210230 u168_0 u168_1 u168_2 hm168
                                  have z210231 := congrArg Int32.toInt z210227
                                  refine ev_iload rfl rfl rfl ?_
                                  refine ev_if_eq rfl rfl (fun c210232 => absurd c210232 (D_ne b210224 (by decide : B 0 0 0) (by decide))) (fun c210232 => ?_)
                                  have z210233 := w_ne c210232
                                  rw [show (0 : Int32).toInt = 0 from by decide] at z210233
                                  refine ev_aload_n rfl rfl rfl ?_
                                  refine ev_getR (y := 84) rfl rfl fl_X10_85 rfl rfl rfl rfl ?_
                                  refine ev_aload_n rfl rfl rfl ?_
                                  refine ev_iload rfl rfl rfl ?_
                                  refine ev_iconst (v := 1) rfl rfl (by decide) ?_
                                  refine ev_iaddB (l := 1) (u := 24) rfl rfl b203073 (by decide : B 1 1 1) (by decide) (by decide) (by decide) (by decide) (fun v210234 b210234 e210234 g210234 => ?_)
                                  have e210234x := e210234; rw [show (1 : Int32).toInt = 1 from by decide] at e210234x
                                  refine ev_iload rfl rfl rfl ?_
                                  refine ev_aload_n rfl rfl rfl ?_
                                  refine ev_iload rfl rfl rfl ?_
                                  refine ev_aload_n rfl rfl rfl ?_
                                  refine ev_getR (y := 82) rfl rfl fl_X10_79 rfl rfl rfl rfl ?_
                                  refine ev_iload rfl rfl rfl ?_
                                  refine ev_ialW (n := 4096) (l := (-2147483648)) (u := 2147483647) hJ210226.1 b210223 (by decide) (by decide) (fun _ => rfl) rfl rfl rfl (fun v210235 b210235 e210235 => ?_)
                                  have z210236 := congrArg Int32.toInt z210227
                                  refine ev_V2P rfl rfl lk_X10_297 vt_X10_then rfl rfl rfl rfl rfl (w_thenK L b h210225 h hB (hJ210226.2 63 2 rfl) (hJ210226.2 63 3 rfl) w210126 v210235) (fun r210237 q210237 => ?_)
                                  obtain ⟨b210237, pp210237_0, pp210237_1⟩ := q210237
                                  have z210238 := congrArg Int32.toInt z210227
                                  refine ev_V3P rfl rfl lk_X10_293 vt_X10_spot rfl rfl rfl rfl rfl (w_spotK L b h210225 hJ210226.1 v210234 w208710 r210237 (b210234.mono (by decide) (by decide)) (b210149.mono (by decide) (by decide)) b210237) (fun r210239 q210239 => ?_)
                                  obtain ⟨b210239, pp210239_0⟩ := q210239
                                  refine ev_iconst (v := 1) rfl rfl (by decide) ?_
                                  refine ev_zasW (n := 45225) (l := (-2147483648)) (u := 2147483647) hJ210226 b210239 (by decide) (by decide) (fun _ => rfl) ((by decide : B 1 1 1).mono (by decide) (by decide)) (by decide) (by decide) (fun _ => rfl) rfl rfl rfl rfl (fun h210240 hJ210240 k210240 => ?_)
                                  have hs210241d : v210235 = h 82 (Int32.toNatClampNeg w210221) := by rw [← (rd_a k210240 e210235 rfl)]; exact hJ210240.2 82 _ rfl
                                  have hs210241 : r210239.toInt = 1809 * (w203063.toInt + 1) + 201 * w208710.toInt + th h w210126.toInt v210235 := by have q_ := pp210239_0; have q2_ := pp210237_0; omega
                                  have hs210241b := (zth_B (hB 63 3) w210126 v210235).1
                                  have hs210241c := th_eq h w210126 v210235
                                  have gi210242 : GI h h210240 a0 a1 a2.toInt w203063.toInt w208710.toInt w210126.toInt := (GI.write u168_0 k210240 hs210241 p2.2 (hB 63 3) (by have z0_ := congrArg Int32.toInt (rd_a k210240 z210227 rfl); have z_ := w_lits; have zl_ := l_lits; omega) (by have z0_ := congrArg Int32.toInt (rd_a k210240 z210227 rfl); have z_ := w_lits; have zl_ := l_lits; omega) (by have z0_ := congrArg Int32.toInt (rd_a k210240 z210227 rfl); have z_ := w_lits; have zl_ := l_lits; omega) (by have z0_ := congrArg Int32.toInt (rd_a k210240 z210227 rfl); have z_ := w_lits; have zl_ := l_lits; omega) (by have z0_ := congrArg Int32.toInt (rd_a k210240 z210227 rfl); have z_ := w_lits; have zl_ := l_lits; omega) (by have z0_ := congrArg Int32.toInt (rd_a k210240 z210227 rfl); have z_ := w_lits; have zl_ := l_lits; omega))
                                  refine ev_iload rfl rfl rfl ?_
                                  refine ev_if_eq rfl rfl (fun c210243 => ?_) (fun c210243 => ?_)
                                  · have b210244 : B w210221 0 0 := R_eqX b210223 (by decide : B 0 0 0) c210243
                                    have z210245 := congrArg Int32.toInt c210243
                                    rw [show (0 : Int32).toInt = 0 from by decide] at z210245
                                    refine ev_iconst (v := 0) rfl rfl (by decide) ?_
                                    refine ev_istore rfl rfl rfl rfl ?_
                                    dsimp only [List.set]
                                    refine ev_iload rfl rfl rfl ?_
                                    refine ev_iconst (v := 1) rfl rfl (by decide) ?_
                                    refine ev_isubB (l := -1) (u := -1) rfl rfl b210244 (by decide : B 1 1 1) (by decide) (by decide) (by decide) (by decide) (fun v210248 b210248 e210248 g210248 => ?_)
                                    have e210248x := e210248; rw [show (1 : Int32).toInt = 1 from by decide] at e210248x
                                    refine ev_iload rfl rfl rfl ?_
                                    refine ev_iandB rfl rfl b210155 (by decide) (fun v210249 b210249 e210249 => ?_)
                                    refine ev_istore rfl rfl rfl rfl ?_
                                    dsimp only [List.set]
                                    refine ev_goto rfl rfl ?_
                                    refine ev_iload rfl rfl rfl ?_
                                    refine ev_if_eq rfl rfl (fun c210250 => ?_) (fun c210250 => absurd (D_eq (by decide : B 0 0 0) (by decide : B 0 0 0)) c210250)
                                    have z210251 := congrArg Int32.toInt c210250
                                    rw [show (0 : Int32).toInt = 0 from by decide] at z210251
                                    refine ev_iincB (y := 1) (l := 1) (u := 201) rfl rfl rfl (by decide) rfl rfl b210137 (by decide : B 1 1 1) (by decide) (by decide) (by decide) (by decide) (fun v210252 b210252 e210252 => ?_)
                                    dsimp only [List.set]
                                    have e210252x := e210252; rw [show (1 : Int32).toInt = 1 from by decide] at e210252x
                                    refine ev_goto rfl rfl ?_
                                    exact (EvQ.drop 11 (EvQ.drop 10 (EvQ.drop 9 (ih89 v210252 h210240 (b210252.mono (by decide) (by decide)) hJ210240 (rd_a k210240 z210227 rfl) (rd_a k210240 z210228 rfl) (rd_a k210240 z210229 rfl) (GI.to (GI.add gi210242 (Cl.mk (alp_of e210155 pp203079_0 pp203077_0 (hJ203066.2 74 _ rfl) (rd_a k210240 z210230 rfl) (hJ210240.2 81 _ rfl)) (RS.mono u168_1 k210240) (EN.last u168_2 c210243 k210240 hs210241d hs210241))) (fun i_ r_ p_ _ _ _ _ _ _ _ => by have z_ := w_lits; omega)) (L_up hm89 (e_p1 e210252 (by decide)))))))
                                  · have b210246 : B w210221 1 4095 := R_neL b210223 (by decide : B 0 0 0) c210243 (by decide)
                                    have z210247 := w_ne c210243
                                    rw [show (0 : Int32).toInt = 0 from by decide] at z210247
                                    refine ev_iconst (v := 1) rfl rfl (by decide) ?_
                                    refine ev_goto rfl rfl ?_
                                    refine ev_istore rfl rfl rfl rfl ?_
                                    dsimp only [List.set]
                                    refine ev_iload rfl rfl rfl ?_
                                    refine ev_iconst (v := 1) rfl rfl (by decide) ?_
                                    refine ev_isubB (l := 0) (u := 4094) rfl rfl b210246 (by decide : B 1 1 1) (by decide) (by decide) (by decide) (by decide) (fun v210253 b210253 e210253 g210253 => ?_)
                                    have e210253x := e210253; rw [show (1 : Int32).toInt = 1 from by decide] at e210253x
                                    refine ev_iload rfl rfl rfl ?_
                                    refine ev_iandC rfl rfl b210253 (by decide) (fun v210254 b210254 e210254 => ?_)
                                    refine ev_istore rfl rfl rfl rfl ?_
                                    dsimp only [List.set]
                                    refine ev_goto rfl rfl ?_
                                    exact (ih168 v210254 1 h210240 (b210254.mono (by decide) (by decide)) (by decide : B 1 1 1) hJ210240 (rd_a k210240 z210227 rfl) (rd_a k210240 z210228 rfl) (rd_a k210240 z210229 rfl) (rd_a k210240 z210230 rfl) gi210242 (RS.mono u168_1 k210240) (EN.nx u168_2 k210240 hs210241d hs210241 e210254 g210253) (bs_dec (b210246.mono (by decide) (by decide)) c210243 e210254 g210253 hm168))
                              exact (lp168_210220 4096 v210155 1 h210128 b210155 (by decide : B 1 1 1) hJ210129 z210130 z210131 z210132 e210154 u89_0 rs210153 (EN.start h h210128 v210155 _ _ _) (by have z_ := w_lits; omega))
                            · have b210151 : B w208710 1 8 := R_ltY (by decide : B 0 0 0) b208721 (Int32.not_le.mp c210148) (by decide)
                              have z210152 := w_lt (Int32.not_le.mp c210148)
                              rw [show (0 : Int32).toInt = 0 from by decide] at z210152
                              refine ev_aload_n rfl rfl rfl ?_
                              refine ev_getR (y := 84) rfl rfl fl_X10_85 rfl rfl rfl rfl ?_
                              refine ev_aload_n rfl rfl rfl ?_
                              refine ev_iload rfl rfl rfl ?_
                              refine ev_iload rfl rfl rfl ?_
                              refine ev_iconst (v := 1) rfl rfl (by decide) ?_
                              refine ev_isubB (l := 0) (u := 7) rfl rfl b210151 (by decide : B 1 1 1) (by decide) (by decide) (by decide) (by decide) (fun v210255 b210255 e210255 g210255 => ?_)
                              have e210255x := e210255; rw [show (1 : Int32).toInt = 1 from by decide] at e210255x
                              refine ev_aload_n rfl rfl rfl ?_
                              refine ev_iload rfl rfl rfl ?_
                              refine ev_aload_n rfl rfl rfl ?_
                              refine ev_getR (y := 82) rfl rfl fl_X10_79 rfl rfl rfl rfl ?_
                              refine ev_iconst (v := 0) rfl rfl (by decide) ?_
                              refine ev_ialK (j := 0) (n := 4096) (l := (-2147483648)) (u := 2147483647) hJ210129.1 (by decide : B 0 0 0) (by decide) (by decide) (by decide) rfl rfl rfl rfl (fun v210256 b210256 e210256 => ?_)
                              have z210257 := congrArg Int32.toInt z210130
                              refine ev_V2P rfl rfl lk_X10_297 vt_X10_then rfl rfl rfl rfl rfl (w_thenK L b h210128 h hB (hJ210129.2 63 2 rfl) (hJ210129.2 63 3 rfl) w210126 v210256) (fun r210258 q210258 => ?_)
                              obtain ⟨b210258, pp210258_0, pp210258_1⟩ := q210258
                              have z210259 := congrArg Int32.toInt z210130
                              refine ev_V3P rfl rfl lk_X10_293 vt_X10_spot rfl rfl rfl rfl rfl (w_spotK L b h210128 hJ210129.1 w203063 v210255 r210258 (b203073.mono (by decide) (by decide)) (b210255.mono (by decide) (by decide)) b210258) (fun r210260 q210260 => ?_)
                              obtain ⟨b210260, pp210260_0⟩ := q210260
                              refine ev_iconst (v := 1) rfl rfl (by decide) ?_
                              refine ev_zasW (n := 45225) (l := (-2147483648)) (u := 2147483647) hJ210129 b210260 (by decide) (by decide) (fun _ => rfl) ((by decide : B 1 1 1).mono (by decide) (by decide)) (by decide) (by decide) (fun _ => rfl) rfl rfl rfl rfl (fun h210261 hJ210261 k210261 => ?_)
                              have hs210262 : r210260.toInt = 1809 * w203063.toInt + 201 * (w208710.toInt - 1) + th h w210126.toInt (h 82 0) := by rw [← hJ210261.2 82 0 rfl, (rd_a k210261 e210256 rfl), ← pp210258_0]; have q_ := pp210260_0; omega
                              have hs210262b := (zth_B (hB 63 3) w210126 (h 82 0)).1
                              rw [show (zth h w210126 (h 82 0)) = zth h w210126 (h 82 0) from rfl] at hs210262b
                              have hs210262c := th_eq h w210126 (h 82 0)
                              have gi210263 : GI h h210261 a0 a1 a2.toInt w203063.toInt w208710.toInt w210126.toInt := (GI.write u89_0 k210261 hs210262 p2.2 (hB 63 3) (by have z0_ := congrArg Int32.toInt (rd_a k210261 z210130 rfl); have z_ := w_lits; have zl_ := l_lits; omega) (by have z0_ := congrArg Int32.toInt (rd_a k210261 z210130 rfl); have z_ := w_lits; have zl_ := l_lits; omega) (by have z0_ := congrArg Int32.toInt (rd_a k210261 z210130 rfl); have z_ := w_lits; have zl_ := l_lits; omega) (by have z0_ := congrArg Int32.toInt (rd_a k210261 z210130 rfl); have z_ := w_lits; have zl_ := l_lits; omega) (by have z0_ := congrArg Int32.toInt (rd_a k210261 z210130 rfl); have z_ := w_lits; have zl_ := l_lits; omega) (by have z0_ := congrArg Int32.toInt (rd_a k210261 z210130 rfl); have z_ := w_lits; have zl_ := l_lits; omega))
                              have rs210264 : RS h h210261 w203063.toInt w208710.toInt w210126.toInt := fun _ => met.new k210261 hs210262
                              refine ev_iload rfl rfl rfl ?_
                              refine ev_aload_n rfl rfl rfl ?_
                              refine ev_getR (y := 81) rfl rfl fl_X10_76 rfl rfl rfl rfl ?_
                              refine ev_iload rfl rfl rfl ?_
                              refine ev_ialW (n := 201) (l := 0) (u := 4095) hJ210261.1 b210137 (by decide) (by decide) (fun _ => rfl) rfl rfl rfl (fun v210265 b210265 e210265 => ?_)
                              refine ev_iandB rfl rfl b210265 (by decide) (fun v210266 b210266 e210266 => ?_)
                              refine ev_istore rfl rfl rfl rfl ?_
                              dsimp only [List.set]
                              refine ev_iload rfl rfl rfl ?_
                              refine ev_istore rfl rfl rfl rfl ?_
                              dsimp only [List.set]
                              refine ev_iconst (v := 1) rfl rfl (by decide) ?_
                              refine ev_istore rfl rfl rfl rfl ?_
                              dsimp only [List.set]
                              have lp168_210331 : ∀ (n : Nat) (w210332 : Int32) (w210333 : Int32) (h210336 : Hp), B w210332 0 4095 → B w210333 1 1 → JW [(84, 999)] h h210336 → (h210336 63 3 = f1) → (h210336 73 (Int32.toNatClampNeg a0) = v2) → (h210336 63 0 = v169234) → (h210336 82 0 = v210256) → (h210336 81 (Int32.toNatClampNeg w210126) = v210265) → (GI h h210336 a0 a1 a2.toInt w203063.toInt w208710.toInt w210126.toInt) → (RS h h210336 w203063.toInt w208710.toInt w210126.toInt) → (EN h h210336 v210266 w210332 w203063.toInt w208710.toInt w210126.toInt) → w210332.toInt + 1 ≤ (n : Int) → EvQ mi_X10_meets 168 [some (.ref 63), some (.int a0), some (.int a1), some (.int a2), some (.int v2), some (.int w203063), some (.int r203079), some (.int w208710), some (.int w210126), some (.int v210266), some (.int w210332), some (.int w210333)] [] (G0 L b) h210336 0 0 (QK (fun z : Hp => (GI h z a0 a1 a2.toInt (h 73 (Int32.toNatClampNeg a0)).toInt 9 0)) [(84, 999)] (G0 L b) h) := by
                                intro n
                                induction n with
                                | zero =>
                                  intro w210332 w210333 h210336 b210334 b210335 hJ210337 z210338 z210339 z210340 z210341 z210342 u168_0 u168_1 u168_2 hm168
                                  exact absurd hm168 (by have z_ := b210334.1; omega)
                                | succ n ih168 =>
                                  intro w210332 w210333 h210336 b210334 b210335 hJ210337 z210338 z210339 z210340 z210341 z210342 u168_0 u168_1 u168_2 hm168
                                  have z210343 := congrArg Int32.toInt z210338
                                  refine ev_iload rfl rfl rfl ?_
                                  refine ev_if_eq rfl rfl (fun c210344 => absurd c210344 (D_ne b210335 (by decide : B 0 0 0) (by decide))) (fun c210344 => ?_)
                                  have z210345 := w_ne c210344
                                  rw [show (0 : Int32).toInt = 0 from by decide] at z210345
                                  refine ev_aload_n rfl rfl rfl ?_
                                  refine ev_getR (y := 84) rfl rfl fl_X10_85 rfl rfl rfl rfl ?_
                                  refine ev_aload_n rfl rfl rfl ?_
                                  refine ev_iload rfl rfl rfl ?_
                                  refine ev_iconst (v := 1) rfl rfl (by decide) ?_
                                  refine ev_iaddB (l := 1) (u := 24) rfl rfl b203073 (by decide : B 1 1 1) (by decide) (by decide) (by decide) (by decide) (fun v210346 b210346 e210346 g210346 => ?_)
                                  have e210346x := e210346; rw [show (1 : Int32).toInt = 1 from by decide] at e210346x
                                  refine ev_iload rfl rfl rfl ?_
                                  refine ev_aload_n rfl rfl rfl ?_
                                  refine ev_iload rfl rfl rfl ?_
                                  refine ev_aload_n rfl rfl rfl ?_
                                  refine ev_getR (y := 82) rfl rfl fl_X10_79 rfl rfl rfl rfl ?_
                                  refine ev_iload rfl rfl rfl ?_
                                  refine ev_ialW (n := 4096) (l := (-2147483648)) (u := 2147483647) hJ210337.1 b210334 (by decide) (by decide) (fun _ => rfl) rfl rfl rfl (fun v210347 b210347 e210347 => ?_)
                                  have z210348 := congrArg Int32.toInt z210338
                                  refine ev_V2P rfl rfl lk_X10_297 vt_X10_then rfl rfl rfl rfl rfl (w_thenK L b h210336 h hB (hJ210337.2 63 2 rfl) (hJ210337.2 63 3 rfl) w210126 v210347) (fun r210349 q210349 => ?_)
                                  obtain ⟨b210349, pp210349_0, pp210349_1⟩ := q210349
                                  have z210350 := congrArg Int32.toInt z210338
                                  refine ev_V3P rfl rfl lk_X10_293 vt_X10_spot rfl rfl rfl rfl rfl (w_spotK L b h210336 hJ210337.1 v210346 w208710 r210349 (b210346.mono (by decide) (by decide)) (b210151.mono (by decide) (by decide)) b210349) (fun r210351 q210351 => ?_)
                                  obtain ⟨b210351, pp210351_0⟩ := q210351
                                  refine ev_iconst (v := 1) rfl rfl (by decide) ?_
                                  refine ev_zasW (n := 45225) (l := (-2147483648)) (u := 2147483647) hJ210337 b210351 (by decide) (by decide) (fun _ => rfl) ((by decide : B 1 1 1).mono (by decide) (by decide)) (by decide) (by decide) (fun _ => rfl) rfl rfl rfl rfl (fun h210352 hJ210352 k210352 => ?_)
                                  have hs210353d : v210347 = h 82 (Int32.toNatClampNeg w210332) := by rw [← (rd_a k210352 e210347 rfl)]; exact hJ210352.2 82 _ rfl
                                  have hs210353 : r210351.toInt = 1809 * (w203063.toInt + 1) + 201 * w208710.toInt + th h w210126.toInt v210347 := by have q_ := pp210351_0; have q2_ := pp210349_0; omega
                                  have hs210353b := (zth_B (hB 63 3) w210126 v210347).1
                                  have hs210353c := th_eq h w210126 v210347
                                  have gi210354 : GI h h210352 a0 a1 a2.toInt w203063.toInt w208710.toInt w210126.toInt := (GI.write u168_0 k210352 hs210353 p2.2 (hB 63 3) (by have z0_ := congrArg Int32.toInt (rd_a k210352 z210338 rfl); have z_ := w_lits; have zl_ := l_lits; omega) (by have z0_ := congrArg Int32.toInt (rd_a k210352 z210338 rfl); have z_ := w_lits; have zl_ := l_lits; omega) (by have z0_ := congrArg Int32.toInt (rd_a k210352 z210338 rfl); have z_ := w_lits; have zl_ := l_lits; omega) (by have z0_ := congrArg Int32.toInt (rd_a k210352 z210338 rfl); have z_ := w_lits; have zl_ := l_lits; omega) (by have z0_ := congrArg Int32.toInt (rd_a k210352 z210338 rfl); have z_ := w_lits; have zl_ := l_lits; omega) (by have z0_ := congrArg Int32.toInt (rd_a k210352 z210338 rfl); have z_ := w_lits; have zl_ := l_lits; omega))
                                  refine ev_iload rfl rfl rfl ?_
                                  refine ev_if_eq rfl rfl (fun c210355 => ?_) (fun c210355 => ?_)
                                  · have b210356 : B w210332 0 0 := R_eqX b210334 (by decide : B 0 0 0) c210355
                                    have z210357 := congrArg Int32.toInt c210355
                                    rw [show (0 : Int32).toInt = 0 from by decide] at z210357
                                    refine ev_iconst (v := 0) rfl rfl (by decide) ?_
                                    refine ev_istore rfl rfl rfl rfl ?_
                                    dsimp only [List.set]
                                    refine ev_iload rfl rfl rfl ?_
                                    refine ev_iconst (v := 1) rfl rfl (by decide) ?_
                                    refine ev_isubB (l := -1) (u := -1) rfl rfl b210356 (by decide : B 1 1 1) (by decide) (by decide) (by decide) (by decide) (fun v210360 b210360 e210360 g210360 => ?_)
                                    have e210360x := e210360; rw [show (1 : Int32).toInt = 1 from by decide] at e210360x
                                    refine ev_iload rfl rfl rfl ?_
                                    refine ev_iandB rfl rfl b210266 (by decide) (fun v210361 b210361 e210361 => ?_)
                                    refine ev_istore rfl rfl rfl rfl ?_
                                    dsimp only [List.set]
                                    refine ev_goto rfl rfl ?_
                                    refine ev_iload rfl rfl rfl ?_
                                    refine ev_if_eq rfl rfl (fun c210362 => ?_) (fun c210362 => absurd (D_eq (by decide : B 0 0 0) (by decide : B 0 0 0)) c210362)
                                    have z210363 := congrArg Int32.toInt c210362
                                    rw [show (0 : Int32).toInt = 0 from by decide] at z210363
                                    refine ev_iincB (y := 1) (l := 1) (u := 201) rfl rfl rfl (by decide) rfl rfl b210137 (by decide : B 1 1 1) (by decide) (by decide) (by decide) (by decide) (fun v210364 b210364 e210364 => ?_)
                                    dsimp only [List.set]
                                    have e210364x := e210364; rw [show (1 : Int32).toInt = 1 from by decide] at e210364x
                                    refine ev_goto rfl rfl ?_
                                    exact (EvQ.drop 11 (EvQ.drop 10 (EvQ.drop 9 (ih89 v210364 h210352 (b210364.mono (by decide) (by decide)) hJ210352 (rd_a k210352 z210338 rfl) (rd_a k210352 z210339 rfl) (rd_a k210352 z210340 rfl) (GI.to (GI.add gi210354 (Cl.mk (alp_of e210266 pp203079_0 pp203077_0 (hJ203066.2 74 _ rfl) (rd_a k210352 z210342 rfl) (hJ210352.2 81 _ rfl)) (RS.mono u168_1 k210352) (EN.last u168_2 c210355 k210352 hs210353d hs210353))) (fun i_ r_ p_ _ _ _ _ _ _ _ => by have z_ := w_lits; omega)) (L_up hm89 (e_p1 e210364 (by decide)))))))
                                  · have b210358 : B w210332 1 4095 := R_neL b210334 (by decide : B 0 0 0) c210355 (by decide)
                                    have z210359 := w_ne c210355
                                    rw [show (0 : Int32).toInt = 0 from by decide] at z210359
                                    refine ev_iconst (v := 1) rfl rfl (by decide) ?_
                                    refine ev_goto rfl rfl ?_
                                    refine ev_istore rfl rfl rfl rfl ?_
                                    dsimp only [List.set]
                                    refine ev_iload rfl rfl rfl ?_
                                    refine ev_iconst (v := 1) rfl rfl (by decide) ?_
                                    refine ev_isubB (l := 0) (u := 4094) rfl rfl b210358 (by decide : B 1 1 1) (by decide) (by decide) (by decide) (by decide) (fun v210365 b210365 e210365 g210365 => ?_)
                                    have e210365x := e210365; rw [show (1 : Int32).toInt = 1 from by decide] at e210365x
                                    refine ev_iload rfl rfl rfl ?_
                                    refine ev_iandC rfl rfl b210365 (by decide) (fun v210366 b210366 e210366 => ?_)
                                    refine ev_istore rfl rfl rfl rfl ?_
                                    dsimp only [List.set]
                                    refine ev_goto rfl rfl ?_
                                    exact (ih168 v210366 1 h210352 (b210366.mono (by decide) (by decide)) (by decide : B 1 1 1) hJ210352 (rd_a k210352 z210338 rfl) (rd_a k210352 z210339 rfl) (rd_a k210352 z210340 rfl) (rd_a k210352 z210341 rfl) (rd_a k210352 z210342 rfl) gi210354 (RS.mono u168_1 k210352) (EN.nx u168_2 k210352 hs210353d hs210353 e210366 g210365) (bs_dec (b210358.mono (by decide) (by decide)) c210355 e210366 g210365 hm168))
                              exact (lp168_210331 4096 v210266 1 h210261 b210266 (by decide : B 1 1 1) hJ210261 (rd_a k210261 z210130 rfl) (rd_a k210261 z210131 rfl) (rd_a k210261 z210132 rfl) (rd_a k210261 e210256 rfl) e210265 gi210263 rs210264 (EN.start h h210261 v210266 _ _ _) (by have z_ := w_lits; omega))
                    exact (lp89_210125 202 0 h208712 ((by decide : B 0 0 0).mono (by decide) (by decide)) hJ208713 z208714 z208715 z208716 (GI.to u81_0 (fun i_ r_ p_ _ _ _ _ _ _ _ => by have z_ := w_lits; omega)) (L_init (by decide : B 0 0 0) (by decide)))
              exact (lp81_208709 10 a2 h203065 (p2.mono (by decide) (by decide)) hJ203066 z203067 z203068 z203069 (GI.to u57_0 (fun i_ r_ p_ _ _ _ _ _ _ _ => by have z_ := w_lits; omega)) (M_init p2 (by decide)))
        exact (lp57_203062 25 0 h169237 ((by decide : B 0 0 0).mono (by decide) (by decide)) hJ169237 (rd_a k169237 z169224 rfl) (rd_a k169237 z169225 rfl) (rd_a k169237 e169234 rfl) (by rw [show (0 : Int32).toInt = 0 from by decide]; exact gi169238) (L_init (by decide : B 0 0 0) (by decide)))
      · have b169232 : B w169220 0 45224 := R_ltX b169221 b169228 (Int32.not_le.mp c169229) (by decide)
        have z169233 := w_lt (Int32.not_le.mp c169229)
        refine ev_aload_n rfl rfl rfl ?_
        refine ev_getR (y := 84) rfl rfl fl_X10_85 rfl rfl rfl rfl ?_
        refine ev_iload rfl rfl rfl ?_
        refine ev_iconst (v := 0) rfl rfl (by decide) ?_
        refine ev_zasW (n := 45225) (l := (-2147483648)) (u := 2147483647) hJ169223 b169232 (by decide) (by decide) (fun _ => rfl) ((by decide : B 0 0 0).mono (by decide) (by decide)) (by decide) (by decide) (fun _ => rfl) rfl rfl rfl rfl (fun h210367 hJ210367 k210367 => ?_)
        refine ev_iincB (y := 1) (l := 1) (u := 45225) rfl rfl rfl (by decide) rfl rfl b169232 (by decide : B 1 1 1) (by decide) (by decide) (by decide) (by decide) (fun v210368 b210368 e210368 => ?_)
        dsimp only [List.set]
        have e210368x := e210368; rw [show (1 : Int32).toInt = 1 from by decide] at e210368x
        refine ev_goto rfl rfl ?_
        exact (ih11 v210368 h210367 (b210368.mono (by decide) (by decide)) hJ210367 (rd_a k210367 z169224 rfl) (rd_a k210367 z169225 rfl) (L_up hm11 (e_p1 e210368 (by decide))))
  exact (lp11_169219 45226 0 h ((by decide : B 0 0 0).mono (by decide) (by decide)) hJ0 ef1 e2 (L_init (by decide : B 0 0 0) (by decide)))
