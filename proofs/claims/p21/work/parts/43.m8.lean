set_option maxRecDepth 100000 in
set_option maxHeartbeats 4000000 in
theorem w_X10_meets_63 (L : Nat) (b : Bool) (h : Hp) (hB : Bx h) (a0 : Int32) (p0 : B a0 0 5) (a1 : Int32) (a2 : Int32) (p2 : B a2 0 8) : EvK mi_X10_meets [.ref 63, .int a0, .int a1, .int a2] (G0 L b) h (fun z : Hp => (GI h z a0 a1 a2.toInt (h 73 (Int32.toNatClampNeg a0)).toInt 9 0)) [(84, 999)] := by
  refine EvM.of2 (lo := [some (.ref 63), some (.int a0), some (.int a1), some (.int a2), none, none, none, none, none, none, none, none]) pf_X10_meets ok_X10_meets rfl rfl ?_
  have hJ0 : JW [(84, 999)] h h := JW.refl hB
  obtain ⟨f1, ef1⟩ : ∃ f_, h 63 3 = f_ := ⟨_, rfl⟩
  have bf1 : B f1 0 200 := by have z_ := hJ0.1 63 3; rw [ef1] at z_; exact z_
  have zf1 := congrArg Int32.toInt ef1
  refine ev_aload_n rfl rfl rfl ?_
  refine ev_getR (y := 73) rfl rfl fl_X10_51 rfl rfl rfl rfl ?_
  refine ev_iload_n rfl rfl rfl ?_
  refine ev_ialW (n := 6) (l := 0) (u := 24) hJ0.1 p0 (by decide) (by decide) (fun _ => rfl) rfl rfl rfl (fun v2 b2 e2 => ?_)
  refine ev_istore rfl rfl rfl rfl ?_
  dsimp only [List.set]
  refine ev_iconst (v := 0) rfl rfl (by decide) ?_
  refine ev_istore rfl rfl rfl rfl ?_
  dsimp only [List.set]
  have lp11_169219 : ∀ (n : Nat) (w169220 : Int32) (h169222 : Hp), B w169220 0 45225 → JW [(84, 999)] h h169222 → (h169222 63 3 = f1) → (h169222 73 (Int32.toNatClampNeg a0) = v2) → 45225 + 1 - w169220.toInt ≤ (n : Int) → EvQ mi_X10_meets 11 [some (.ref 63), some (.int a0), some (.int a1), some (.int a2), some (.int v2), some (.int w169220), none, none, none, none, none, none] [] (G0 L b) h169222 0 0 (QK (fun z : Hp => (GI h z a0 a1 a2.toInt (h 73 (Int32.toNatClampNeg a0)).toInt 9 0)) [(84, 999)] (G0 L b) h) := by
    intro n
    induction n with
    | zero =>
      intro w169220 h169222 b169221 hJ169223 z169224 z169225 hm11
      exact absurd hm11 (L_zero b169221 (by decide))
    | succ n ih11 =>
      intro w169220 h169222 b169221 hJ169223 z169224 z169225 hm11
      have z169226 := congrArg Int32.toInt z169224
      refine ev_iload rfl rfl rfl ?_
      refine ev_sipush (v := 1809) rfl rfl (by decide) ?_
      refine ev_iload rfl rfl rfl ?_
      refine ev_iconst (v := 1) rfl rfl (by decide) ?_
      refine ev_iaddB (l := 1) (u := 25) rfl rfl b2 (by decide : B 1 1 1) (by decide) (by decide) (by decide) (by decide) (fun v169227 b169227 e169227 g169227 => ?_)
      have e169227x := e169227; rw [show (1 : Int32).toInt = 1 from by decide] at e169227x
      refine ev_imulB (l := 1809) (u := 45225) rfl rfl (by decide : B 1809 1809 1809) b169227 (by decide) (by decide) (by decide) (by decide) (by decide) (fun v169228 b169228 e169228 g169228 => ?_)
      rw [show (1809 : Int32).toInt = 1809 from by decide] at e169228
      refine ev_icmp_ge rfl rfl (fun c169229 => ?_) (fun c169229 => ?_)
      · have b169230 : B w169220 1809 45225 := R_leY b169228 b169221 c169229 (by decide)
        have z169231 := w_le c169229
        refine ev_aload_n rfl rfl rfl ?_
        refine ev_getR (y := 84) rfl rfl fl_X10_85 rfl rfl rfl rfl ?_
        refine ev_aload_n rfl rfl rfl ?_
        refine ev_iconst (v := 0) rfl rfl (by decide) ?_
        refine ev_iload_n rfl rfl rfl ?_
        refine ev_aload_n rfl rfl rfl ?_
        refine ev_getW (l := 0) (u := 200) hJ169223.1 rfl rfl rfl fl_X10_7 rfl rfl rfl (fun v169234 b169234 e169234 => ?_)
        refine ev_V3P rfl rfl lk_X10_293 vt_X10_spot rfl rfl rfl rfl rfl (w_spotK L b h169222 hJ169223.1 0 a2 v169234 ((by decide : B 0 0 0).mono (by decide) (by decide)) p2 b169234) (fun r169235 q169235 => ?_)
        obtain ⟨b169235, pp169235_0⟩ := q169235
        refine ev_iconst (v := 1) rfl rfl (by decide) ?_
        refine ev_zasW (n := 45225) (l := (-2147483648)) (u := 2147483647) hJ169223 b169235 (by decide) (by decide) (fun _ => rfl) ((by decide : B 1 1 1).mono (by decide) (by decide)) (by decide) (by decide) (fun _ => rfl) rfl rfl rfl rfl (fun h169236 hJ169236 k169236 => ?_)
        have gi169237 : GI h h169236 a0 a1 a2.toInt 0 9 0 := GI.start (met.new k169236 (by have q_ := congrArg Int32.toInt (rd_a k169236 e169234 rfl); have q2_ := congrArg Int32.toInt (hJ169236.2 63 0 rfl); have z_ := w_lits; have q3_ := pp169235_0; omega)) p2.2
        refine ev_iconst (v := 0) rfl rfl (by decide) ?_
        refine ev_istore rfl rfl rfl rfl ?_
        dsimp only [List.set]
        have lp57_203061 : ∀ (n : Nat) (w203062 : Int32) (h203064 : Hp), B w203062 0 24 → JW [(84, 999)] h h203064 → (h203064 63 3 = f1) → (h203064 73 (Int32.toNatClampNeg a0) = v2) → (h203064 63 0 = v169234) → (GI h h203064 a0 a1 a2.toInt w203062.toInt 9 0) → 24 + 1 - w203062.toInt ≤ (n : Int) → EvQ mi_X10_meets 57 [some (.ref 63), some (.int a0), some (.int a1), some (.int a2), some (.int v2), some (.int w203062), none, none, none, none, none, none] [] (G0 L b) h203064 0 0 (QK (fun z : Hp => (GI h z a0 a1 a2.toInt (h 73 (Int32.toNatClampNeg a0)).toInt 9 0)) [(84, 999)] (G0 L b) h) := by
          intro n
          induction n with
          | zero =>
            intro w203062 h203064 b203063 hJ203065 z203066 z203067 z203068 u57_0 hm57
            exact absurd hm57 (L_zero b203063 (by decide))
          | succ n ih57 =>
            intro w203062 h203064 b203063 hJ203065 z203066 z203067 z203068 u57_0 hm57
            have z203069 := congrArg Int32.toInt z203066
            refine ev_iload rfl rfl rfl ?_
            refine ev_iload rfl rfl rfl ?_
            refine ev_icmp_ge rfl rfl (fun c203070 => ?_) (fun c203070 => ?_)
            · have z203071 := w_le c203070
              exact ev_vret rfl rfl trivial ⟨rfl, rfl, hJ203065, (GI.to u57_0 (fun i_ r_ p_ _ _ _ _ _ _ _ => by have q_ := congrArg Int32.toInt (e2); have z_ := w_lits; omega))⟩
            · have b203072 : B w203062 0 23 := R_ltX b203063 b2 (Int32.not_le.mp c203070) (by decide)
              have b203073 : B v2 1 24 := R_ltY b203063 b2 (Int32.not_le.mp c203070) (by decide)
              have z203074 := w_lt (Int32.not_le.mp c203070)
              refine ev_aload_n rfl rfl rfl ?_
              refine ev_aload_n rfl rfl rfl ?_
              refine ev_iload_n rfl rfl rfl ?_
              refine ev_iload rfl rfl rfl ?_
              refine ev_V2P rfl rfl lk_X10_263 vt_X10_chordAt rfl rfl rfl rfl rfl (w_chordAtK L b h203064 hJ203065.1 a0 w203062 p0 b203072) (fun r203075 q203075 => ?_)
              obtain ⟨b203075, pp203075_0⟩ := q203075
              refine ev_iload_n rfl rfl rfl ?_
              refine ev_V2P rfl rfl lk_X10_276 vt_X10_moved rfl rfl rfl rfl rfl (w_movedE L b h203064 r203075 a1) (fun r203076 q203076 => ?_)
              obtain ⟨b203076, pp203076_0⟩ := q203076
              refine ev_istore rfl rfl rfl rfl ?_
              dsimp only [List.set]
              refine ev_iload_n rfl rfl rfl ?_
              refine ev_istore rfl rfl rfl rfl ?_
              dsimp only [List.set]
              have lp81_208706 : ∀ (n : Nat) (w208707 : Int32) (h208709 : Hp), B w208707 (-1) 8 → JW [(84, 999)] h h208709 → (h208709 63 3 = f1) → (h208709 73 (Int32.toNatClampNeg a0) = v2) → (h208709 63 0 = v169234) → (GI h h208709 a0 a1 a2.toInt w203062.toInt w208707.toInt 0) → w208707.toInt + 1 - (-1) ≤ (n : Int) → EvQ mi_X10_meets 81 [some (.ref 63), some (.int a0), some (.int a1), some (.int a2), some (.int v2), some (.int w203062), some (.int r203076), some (.int w208707), none, none, none, none] [] (G0 L b) h208709 0 0 (QK (fun z : Hp => (GI h z a0 a1 a2.toInt (h 73 (Int32.toNatClampNeg a0)).toInt 9 0)) [(84, 999)] (G0 L b) h) := by
                intro n
                induction n with
                | zero =>
                  intro w208707 h208709 b208708 hJ208710 z208711 z208712 z208713 u81_0 hm81
                  exact absurd hm81 (M_zero b208708 (by decide))
                | succ n ih81 =>
                  intro w208707 h208709 b208708 hJ208710 z208711 z208712 z208713 u81_0 hm81
                  have z208714 := congrArg Int32.toInt z208711
                  refine ev_iload rfl rfl rfl ?_
                  refine ev_if_lt rfl rfl (fun c208715 => ?_) (fun c208715 => ?_)
                  · have b208716 : B w208707 (-1) (-1) := R_ltX b208708 (by decide : B 0 0 0) c208715 (by decide)
                    have z208717 := w_lt c208715
                    rw [show (0 : Int32).toInt = 0 from by decide] at z208717
                    refine ev_iincB (y := 1) (l := 1) (u := 24) rfl rfl rfl (by decide) rfl rfl b203072 (by decide : B 1 1 1) (by decide) (by decide) (by decide) (by decide) (fun v208720 b208720 e208720 => ?_)
                    dsimp only [List.set]
                    have e208720x := e208720; rw [show (1 : Int32).toInt = 1 from by decide] at e208720x
                    refine ev_goto rfl rfl ?_
                    exact (EvQ.drop 7 (EvQ.drop 6 (ih57 v208720 h208709 (b208720.mono (by decide) (by decide)) hJ208710 z208711 z208712 z208713 (GI.to u81_0 (fun i_ r_ p_ _ _ _ _ _ _ _ => by have z_ := w_lits; omega)) (L_up hm57 (e_p1 e208720 (by decide))))))
                  · have b208718 : B w208707 0 8 := R_leY (by decide : B 0 0 0) b208708 (Int32.not_lt.mp c208715) (by decide)
                    have z208719 := w_le (Int32.not_lt.mp c208715)
                    rw [show (0 : Int32).toInt = 0 from by decide] at z208719
                    refine ev_iconst (v := 0) rfl rfl (by decide) ?_
                    refine ev_istore rfl rfl rfl rfl ?_
                    dsimp only [List.set]
                    have lp89_210122 : ∀ (n : Nat) (w210123 : Int32) (h210125 : Hp), B w210123 0 201 → JW [(84, 999)] h h210125 → (h210125 63 3 = f1) → (h210125 73 (Int32.toNatClampNeg a0) = v2) → (h210125 63 0 = v169234) → (GI h h210125 a0 a1 a2.toInt w203062.toInt w208707.toInt w210123.toInt) → 201 + 1 - w210123.toInt ≤ (n : Int) → EvQ mi_X10_meets 89 [some (.ref 63), some (.int a0), some (.int a1), some (.int a2), some (.int v2), some (.int w203062), some (.int r203076), some (.int w208707), some (.int w210123), none, none, none] [] (G0 L b) h210125 0 0 (QK (fun z : Hp => (GI h z a0 a1 a2.toInt (h 73 (Int32.toNatClampNeg a0)).toInt 9 0)) [(84, 999)] (G0 L b) h) := by
                      intro n
                      induction n with
                      | zero =>
                        intro w210123 h210125 b210124 hJ210126 z210127 z210128 z210129 u89_0 hm89
                        exact absurd hm89 (L_zero b210124 (by decide))
                      | succ n ih89 =>
                        intro w210123 h210125 b210124 hJ210126 z210127 z210128 z210129 u89_0 hm89
                        have z210130 := congrArg Int32.toInt z210127
                        refine ev_iload rfl rfl rfl ?_
                        refine ev_aload_n rfl rfl rfl ?_
                        refine ev_getV (v := f1) rfl rfl fl_X10_19 rfl rfl rfl z210127 ?_
                        refine ev_icmp_gt rfl rfl (fun c210131 => ?_) (fun c210131 => ?_)
                        · have b210132 : B w210123 1 201 := R_ltY bf1 b210124 c210131 (by decide)
                          have z210133 := w_lt c210131
                          refine ev_iincB (y := (-1)) (l := -1) (u := 7) rfl rfl rfl (by decide) rfl rfl b208718 (by decide : B (-1) (-1) (-1)) (by decide) (by decide) (by decide) (by decide) (fun v210136 b210136 e210136 => ?_)
                          dsimp only [List.set]
                          have e210136x := e210136; rw [show ((-1) : Int32).toInt = (-1) from by decide] at e210136x
                          refine ev_goto rfl rfl ?_
                          exact (EvQ.drop 8 (ih81 v210136 h210125 (b210136.mono (by decide) (by decide)) hJ210126 z210127 z210128 z210129 (GI.to u89_0 (fun i_ r_ p_ _ _ _ _ _ _ _ => by have z_ := w_lits; omega)) (M_dn hm81 (e_m1 e210136 (by decide)))))
                        · have b210134 : B w210123 0 200 := R_leX b210124 bf1 (Int32.not_lt.mp c210131) (by decide)
                          have z210135 := w_le (Int32.not_lt.mp c210131)
                          refine ev_aload_n rfl rfl rfl ?_
                          refine ev_getR (y := 84) rfl rfl fl_X10_85 rfl rfl rfl rfl ?_
                          refine ev_aload_n rfl rfl rfl ?_
                          refine ev_iload rfl rfl rfl ?_
                          refine ev_iload rfl rfl rfl ?_
                          refine ev_iload rfl rfl rfl ?_
                          refine ev_V3P rfl rfl lk_X10_293 vt_X10_spot rfl rfl rfl rfl rfl (w_spotK L b h210125 hJ210126.1 w203062 w208707 w210123 (b203072.mono (by decide) (by decide)) b208718 b210134) (fun r210137 q210137 => ?_)
                          obtain ⟨b210137, pp210137_0⟩ := q210137
                          refine ev_zalW (n := 45225) (l := (-2147483648)) (u := 2147483647) hJ210126.1 b210137 (by decide) (by decide) (fun _ => rfl) rfl rfl rfl (fun v210138 b210138 e210138 => ?_)
                          refine ev_if_eq rfl rfl (fun c210139 => ?_) (fun c210139 => ?_)
                          · have b210140 : B v210138 0 0 := R_eqX (B.any v210138) (by decide : B 0 0 0) c210139
                            have z210141 := congrArg Int32.toInt c210139
                            rw [show (0 : Int32).toInt = 0 from by decide] at z210141
                            refine ev_iincB (y := 1) (l := 1) (u := 201) rfl rfl rfl (by decide) rfl rfl b210134 (by decide : B 1 1 1) (by decide) (by decide) (by decide) (by decide) (fun v210143 b210143 e210143 => ?_)
                            dsimp only [List.set]
                            have e210143x := e210143; rw [show (1 : Int32).toInt = 1 from by decide] at e210143x
                            refine ev_goto rfl rfl ?_
                            exact (ih89 v210143 h210125 (b210143.mono (by decide) (by decide)) hJ210126 z210127 z210128 z210129 (GI.to (GI.add u89_0 (Cl.vac e210138 c210139 pp210137_0)) (fun i_ r_ p_ _ _ _ _ _ _ _ => by have z_ := w_lits; omega)) (L_up hm89 (e_p1 e210143 (by decide))))
                          · have z210142 := w_ne c210139
                            rw [show (0 : Int32).toInt = 0 from by decide] at z210142
                            refine ev_iload rfl rfl rfl ?_
                            refine ev_if_le rfl rfl (fun c210144 => ?_) (fun c210144 => ?_)
                            · have b210145 : B w208707 0 0 := R_leX b208718 (by decide : B 0 0 0) c210144 (by decide)
                              have z210146 := w_le c210144
                              rw [show (0 : Int32).toInt = 0 from by decide] at z210146
                              have rs210149 : RS h h210125 w203062.toInt w208707.toInt w210123.toInt := fun z_ => absurd z_ (by have z0_ := congrArg Int32.toInt z210127; have z_ := w_lits; have zl_ := l_lits; omega)
                              refine ev_iload rfl rfl rfl ?_
                              refine ev_aload_n rfl rfl rfl ?_
                              refine ev_getR (y := 81) rfl rfl fl_X10_76 rfl rfl rfl rfl ?_
                              refine ev_iload rfl rfl rfl ?_
                              refine ev_ialW (n := 201) (l := 0) (u := 4095) hJ210126.1 b210134 (by decide) (by decide) (fun _ => rfl) rfl rfl rfl (fun v210150 b210150 e210150 => ?_)
                              refine ev_iandB rfl rfl b210150 (by decide) (fun v210151 b210151 e210151 => ?_)
                              refine ev_istore rfl rfl rfl rfl ?_
                              dsimp only [List.set]
                              refine ev_iload rfl rfl rfl ?_
                              refine ev_istore rfl rfl rfl rfl ?_
                              dsimp only [List.set]
                              refine ev_iconst (v := 1) rfl rfl (by decide) ?_
                              refine ev_istore rfl rfl rfl rfl ?_
                              dsimp only [List.set]
                              have lp168_210216 : ∀ (n : Nat) (w210217 : Int32) (w210218 : Int32) (h210221 : Hp), B w210217 0 4095 → B w210218 1 1 → JW [(84, 999)] h h210221 → (h210221 63 3 = f1) → (h210221 73 (Int32.toNatClampNeg a0) = v2) → (h210221 63 0 = v169234) → (h210221 81 (Int32.toNatClampNeg w210123) = v210150) → (GI h h210221 a0 a1 a2.toInt w203062.toInt w208707.toInt w210123.toInt) → (RS h h210221 w203062.toInt w208707.toInt w210123.toInt) → (EN h h210221 v210151 w210217 w203062.toInt w208707.toInt w210123.toInt) → w210217.toInt + 1 ≤ (n : Int) → EvQ mi_X10_meets 168 [some (.ref 63), some (.int a0), some (.int a1), some (.int a2), some (.int v2), some (.int w203062), some (.int r203076), some (.int w208707), some (.int w210123), some (.int v210151), some (.int w210217), some (.int w210218)] [] (G0 L b) h210221 0 0 (QK (fun z : Hp => (GI h z a0 a1 a2.toInt (h 73 (Int32.toNatClampNeg a0)).toInt 9 0)) [(84, 999)] (G0 L b) h) := by
                                intro n
                                induction n with
                                | zero =>
                                  intro w210217 w210218 h210221 b210219 b210220 hJ210222 z210223 z210224 z210225 z210226 u168_0 u168_1 u168_2 hm168
                                  exact absurd hm168 (by have z_ := b210219.1; omega)
                                | succ n ih168 =>
                                  intro w210217 w210218 h210221 b210219 b210220 hJ210222 z210223 z210224 z210225 z210226 u168_0 u168_1 u168_2 hm168
                                  have z210227 := congrArg Int32.toInt z210223
                                  refine ev_iload rfl rfl rfl ?_
                                  refine ev_if_eq rfl rfl (fun c210228 => absurd c210228 (D_ne b210220 (by decide : B 0 0 0) (by decide))) (fun c210228 => ?_)
                                  have z210229 := w_ne c210228
                                  rw [show (0 : Int32).toInt = 0 from by decide] at z210229
                                  refine ev_aload_n rfl rfl rfl ?_
                                  refine ev_getR (y := 84) rfl rfl fl_X10_85 rfl rfl rfl rfl ?_
                                  refine ev_aload_n rfl rfl rfl ?_
                                  refine ev_iload rfl rfl rfl ?_
                                  refine ev_iconst (v := 1) rfl rfl (by decide) ?_
                                  refine ev_iaddB (l := 1) (u := 24) rfl rfl b203072 (by decide : B 1 1 1) (by decide) (by decide) (by decide) (by decide) (fun v210230 b210230 e210230 g210230 => ?_)
                                  have e210230x := e210230; rw [show (1 : Int32).toInt = 1 from by decide] at e210230x
                                  refine ev_iload rfl rfl rfl ?_
                                  refine ev_aload_n rfl rfl rfl ?_
                                  refine ev_iload rfl rfl rfl ?_
                                  refine ev_aload_n rfl rfl rfl ?_
                                  refine ev_getR (y := 82) rfl rfl fl_X10_79 rfl rfl rfl rfl ?_
                                  refine ev_iload rfl rfl rfl ?_
                                  refine ev_ialW (n := 4096) (l := (-2147483648)) (u := 2147483647) hJ210222.1 b210219 (by decide) (by decide) (fun _ => rfl) rfl rfl rfl (fun v210231 b210231 e210231 => ?_)
                                  refine ev_V2P rfl rfl lk_X10_297 vt_X10_then rfl rfl rfl rfl rfl (w_thenK L b h210221 h hB (hJ210222.2 63 2 rfl) (hJ210222.2 63 3 rfl) w210123 v210231) (fun r210232 q210232 => ?_)
                                  obtain ⟨b210232, pp210232_0, pp210232_1⟩ := q210232
                                  refine ev_V3P rfl rfl lk_X10_293 vt_X10_spot rfl rfl rfl rfl rfl (w_spotK L b h210221 hJ210222.1 v210230 w208707 r210232 (b210230.mono (by decide) (by decide)) (b210145.mono (by decide) (by decide)) b210232) (fun r210233 q210233 => ?_)
                                  obtain ⟨b210233, pp210233_0⟩ := q210233
                                  refine ev_iconst (v := 1) rfl rfl (by decide) ?_
                                  refine ev_zasW (n := 45225) (l := (-2147483648)) (u := 2147483647) hJ210222 b210233 (by decide) (by decide) (fun _ => rfl) ((by decide : B 1 1 1).mono (by decide) (by decide)) (by decide) (by decide) (fun _ => rfl) rfl rfl rfl rfl (fun h210234 hJ210234 k210234 => ?_)
                                  have hs210235d : v210231 = h 82 (Int32.toNatClampNeg w210217) := by rw [← (rd_a k210234 e210231 rfl)]; exact hJ210234.2 82 _ rfl
                                  have hs210235 : r210233.toInt = 1809 * (w203062.toInt + 1) + 201 * w208707.toInt + th h w210123.toInt v210231 := by have q_ := pp210233_0; have q2_ := pp210232_0; omega
                                  have hs210235b := (zth_B (hB 63 3) w210123 v210231).1
                                  have hs210235c := th_eq h w210123 v210231
                                  have gi210236 : GI h h210234 a0 a1 a2.toInt w203062.toInt w208707.toInt w210123.toInt := (GI.write u168_0 k210234 hs210235 p2.2 (hB 63 3) (by have z0_ := congrArg Int32.toInt (rd_a k210234 z210223 rfl); have z_ := w_lits; have zl_ := l_lits; omega) (by have z0_ := congrArg Int32.toInt (rd_a k210234 z210223 rfl); have z_ := w_lits; have zl_ := l_lits; omega) (by have z0_ := congrArg Int32.toInt (rd_a k210234 z210223 rfl); have z_ := w_lits; have zl_ := l_lits; omega) (by have z0_ := congrArg Int32.toInt (rd_a k210234 z210223 rfl); have z_ := w_lits; have zl_ := l_lits; omega) (by have z0_ := congrArg Int32.toInt (rd_a k210234 z210223 rfl); have z_ := w_lits; have zl_ := l_lits; omega) (by have z0_ := congrArg Int32.toInt (rd_a k210234 z210223 rfl); have z_ := w_lits; have zl_ := l_lits; omega))
                                  refine ev_iload rfl rfl rfl ?_
                                  refine ev_if_eq rfl rfl (fun c210237 => ?_) (fun c210237 => ?_)
                                  · have b210238 : B w210217 0 0 := R_eqX b210219 (by decide : B 0 0 0) c210237
                                    have z210239 := congrArg Int32.toInt c210237
                                    rw [show (0 : Int32).toInt = 0 from by decide] at z210239
                                    refine ev_iconst (v := 0) rfl rfl (by decide) ?_
                                    refine ev_istore rfl rfl rfl rfl ?_
                                    dsimp only [List.set]
                                    refine ev_iload rfl rfl rfl ?_
                                    refine ev_iconst (v := 1) rfl rfl (by decide) ?_
                                    refine ev_isubB (l := -1) (u := -1) rfl rfl b210238 (by decide : B 1 1 1) (by decide) (by decide) (by decide) (by decide) (fun v210242 b210242 e210242 g210242 => ?_)
                                    have e210242x := e210242; rw [show (1 : Int32).toInt = 1 from by decide] at e210242x
                                    refine ev_iload rfl rfl rfl ?_
                                    refine ev_iandB rfl rfl b210151 (by decide) (fun v210243 b210243 e210243 => ?_)
                                    refine ev_istore rfl rfl rfl rfl ?_
                                    dsimp only [List.set]
                                    refine ev_goto rfl rfl ?_
                                    refine ev_iload rfl rfl rfl ?_
                                    refine ev_if_eq rfl rfl (fun c210244 => ?_) (fun c210244 => absurd (D_eq (by decide : B 0 0 0) (by decide : B 0 0 0)) c210244)
                                    have z210245 := congrArg Int32.toInt c210244
                                    rw [show (0 : Int32).toInt = 0 from by decide] at z210245
                                    refine ev_iincB (y := 1) (l := 1) (u := 201) rfl rfl rfl (by decide) rfl rfl b210134 (by decide : B 1 1 1) (by decide) (by decide) (by decide) (by decide) (fun v210246 b210246 e210246 => ?_)
                                    dsimp only [List.set]
                                    have e210246x := e210246; rw [show (1 : Int32).toInt = 1 from by decide] at e210246x
                                    refine ev_goto rfl rfl ?_
                                    exact (EvQ.drop 11 (EvQ.drop 10 (EvQ.drop 9 (ih89 v210246 h210234 (b210246.mono (by decide) (by decide)) hJ210234 (rd_a k210234 z210223 rfl) (rd_a k210234 z210224 rfl) (rd_a k210234 z210225 rfl) (GI.to (GI.add gi210236 (Cl.mk (alp_of e210151 pp203076_0 pp203075_0 (hJ203065.2 74 _ rfl) (rd_a k210234 z210226 rfl) (hJ210234.2 81 _ rfl)) (RS.mono u168_1 k210234) (EN.last u168_2 c210237 k210234 hs210235d hs210235))) (fun i_ r_ p_ _ _ _ _ _ _ _ => by have z_ := w_lits; omega)) (L_up hm89 (e_p1 e210246 (by decide)))))))
                                  · have b210240 : B w210217 1 4095 := R_neL b210219 (by decide : B 0 0 0) c210237 (by decide)
                                    have z210241 := w_ne c210237
                                    rw [show (0 : Int32).toInt = 0 from by decide] at z210241
                                    refine ev_iconst (v := 1) rfl rfl (by decide) ?_
                                    refine ev_goto rfl rfl ?_
                                    refine ev_istore rfl rfl rfl rfl ?_
                                    dsimp only [List.set]
                                    refine ev_iload rfl rfl rfl ?_
                                    refine ev_iconst (v := 1) rfl rfl (by decide) ?_
                                    refine ev_isubB (l := 0) (u := 4094) rfl rfl b210240 (by decide : B 1 1 1) (by decide) (by decide) (by decide) (by decide) (fun v210247 b210247 e210247 g210247 => ?_)
                                    have e210247x := e210247; rw [show (1 : Int32).toInt = 1 from by decide] at e210247x
                                    refine ev_iload rfl rfl rfl ?_
                                    refine ev_iandC rfl rfl b210247 (by decide) (fun v210248 b210248 e210248 => ?_)
                                    refine ev_istore rfl rfl rfl rfl ?_
                                    dsimp only [List.set]
                                    refine ev_goto rfl rfl ?_
                                    exact (ih168 v210248 1 h210234 (b210248.mono (by decide) (by decide)) (by decide : B 1 1 1) hJ210234 (rd_a k210234 z210223 rfl) (rd_a k210234 z210224 rfl) (rd_a k210234 z210225 rfl) (rd_a k210234 z210226 rfl) gi210236 (RS.mono u168_1 k210234) (EN.nx u168_2 k210234 hs210235d hs210235 e210248 g210247) (bs_dec (b210240.mono (by decide) (by decide)) c210237 e210248 g210247 hm168))
                              exact (lp168_210216 4096 v210151 1 h210125 b210151 (by decide : B 1 1 1) hJ210126 z210127 z210128 z210129 e210150 u89_0 rs210149 (EN.start h h210125 v210151 _ _ _) (by have z_ := w_lits; omega))
                            · have b210147 : B w208707 1 8 := R_ltY (by decide : B 0 0 0) b208718 (Int32.not_le.mp c210144) (by decide)
                              have z210148 := w_lt (Int32.not_le.mp c210144)
                              rw [show (0 : Int32).toInt = 0 from by decide] at z210148
                              refine ev_aload_n rfl rfl rfl ?_
                              refine ev_getR (y := 84) rfl rfl fl_X10_85 rfl rfl rfl rfl ?_
                              refine ev_aload_n rfl rfl rfl ?_
                              refine ev_iload rfl rfl rfl ?_
                              refine ev_iload rfl rfl rfl ?_
                              refine ev_iconst (v := 1) rfl rfl (by decide) ?_
                              refine ev_isubB (l := 0) (u := 7) rfl rfl b210147 (by decide : B 1 1 1) (by decide) (by decide) (by decide) (by decide) (fun v210249 b210249 e210249 g210249 => ?_)
                              have e210249x := e210249; rw [show (1 : Int32).toInt = 1 from by decide] at e210249x
                              refine ev_aload_n rfl rfl rfl ?_
                              refine ev_iload rfl rfl rfl ?_
                              refine ev_aload_n rfl rfl rfl ?_
                              refine ev_getR (y := 82) rfl rfl fl_X10_79 rfl rfl rfl rfl ?_
                              refine ev_iconst (v := 0) rfl rfl (by decide) ?_
                              refine ev_ialK (j := 0) (n := 4096) (l := (-2147483648)) (u := 2147483647) hJ210126.1 (by decide : B 0 0 0) (by decide) (by decide) (by decide) rfl rfl rfl rfl (fun v210250 b210250 e210250 => ?_)
                              refine ev_V2P rfl rfl lk_X10_297 vt_X10_then rfl rfl rfl rfl rfl (w_thenK L b h210125 h hB (hJ210126.2 63 2 rfl) (hJ210126.2 63 3 rfl) w210123 v210250) (fun r210251 q210251 => ?_)
                              obtain ⟨b210251, pp210251_0, pp210251_1⟩ := q210251
                              refine ev_V3P rfl rfl lk_X10_293 vt_X10_spot rfl rfl rfl rfl rfl (w_spotK L b h210125 hJ210126.1 w203062 v210249 r210251 (b203072.mono (by decide) (by decide)) (b210249.mono (by decide) (by decide)) b210251) (fun r210252 q210252 => ?_)
                              obtain ⟨b210252, pp210252_0⟩ := q210252
                              refine ev_iconst (v := 1) rfl rfl (by decide) ?_
                              refine ev_zasW (n := 45225) (l := (-2147483648)) (u := 2147483647) hJ210126 b210252 (by decide) (by decide) (fun _ => rfl) ((by decide : B 1 1 1).mono (by decide) (by decide)) (by decide) (by decide) (fun _ => rfl) rfl rfl rfl rfl (fun h210253 hJ210253 k210253 => ?_)
                              have hs210254 : r210252.toInt = 1809 * w203062.toInt + 201 * (w208707.toInt - 1) + th h w210123.toInt (h 82 0) := by rw [← hJ210253.2 82 0 rfl, (rd_a k210253 e210250 rfl), ← pp210251_0]; have q_ := pp210252_0; omega
                              have hs210254b := (zth_B (hB 63 3) w210123 (h 82 0)).1
                              rw [show (zth h w210123 (h 82 0)) = zth h w210123 (h 82 0) from rfl] at hs210254b
                              have hs210254c := th_eq h w210123 (h 82 0)
                              have gi210255 : GI h h210253 a0 a1 a2.toInt w203062.toInt w208707.toInt w210123.toInt := (GI.write u89_0 k210253 hs210254 p2.2 (hB 63 3) (by have z0_ := congrArg Int32.toInt (rd_a k210253 z210127 rfl); have z_ := w_lits; have zl_ := l_lits; omega) (by have z0_ := congrArg Int32.toInt (rd_a k210253 z210127 rfl); have z_ := w_lits; have zl_ := l_lits; omega) (by have z0_ := congrArg Int32.toInt (rd_a k210253 z210127 rfl); have z_ := w_lits; have zl_ := l_lits; omega) (by have z0_ := congrArg Int32.toInt (rd_a k210253 z210127 rfl); have z_ := w_lits; have zl_ := l_lits; omega) (by have z0_ := congrArg Int32.toInt (rd_a k210253 z210127 rfl); have z_ := w_lits; have zl_ := l_lits; omega) (by have z0_ := congrArg Int32.toInt (rd_a k210253 z210127 rfl); have z_ := w_lits; have zl_ := l_lits; omega))
                              have rs210256 : RS h h210253 w203062.toInt w208707.toInt w210123.toInt := fun _ => met.new k210253 hs210254
                              refine ev_iload rfl rfl rfl ?_
                              refine ev_aload_n rfl rfl rfl ?_
                              refine ev_getR (y := 81) rfl rfl fl_X10_76 rfl rfl rfl rfl ?_
                              refine ev_iload rfl rfl rfl ?_
                              refine ev_ialW (n := 201) (l := 0) (u := 4095) hJ210253.1 b210134 (by decide) (by decide) (fun _ => rfl) rfl rfl rfl (fun v210257 b210257 e210257 => ?_)
                              refine ev_iandB rfl rfl b210257 (by decide) (fun v210258 b210258 e210258 => ?_)
                              refine ev_istore rfl rfl rfl rfl ?_
                              dsimp only [List.set]
                              refine ev_iload rfl rfl rfl ?_
                              refine ev_istore rfl rfl rfl rfl ?_
                              dsimp only [List.set]
                              refine ev_iconst (v := 1) rfl rfl (by decide) ?_
                              refine ev_istore rfl rfl rfl rfl ?_
                              dsimp only [List.set]
                              have lp168_210323 : ∀ (n : Nat) (w210324 : Int32) (w210325 : Int32) (h210328 : Hp), B w210324 0 4095 → B w210325 1 1 → JW [(84, 999)] h h210328 → (h210328 63 3 = f1) → (h210328 73 (Int32.toNatClampNeg a0) = v2) → (h210328 63 0 = v169234) → (h210328 82 0 = v210250) → (h210328 81 (Int32.toNatClampNeg w210123) = v210257) → (GI h h210328 a0 a1 a2.toInt w203062.toInt w208707.toInt w210123.toInt) → (RS h h210328 w203062.toInt w208707.toInt w210123.toInt) → (EN h h210328 v210258 w210324 w203062.toInt w208707.toInt w210123.toInt) → w210324.toInt + 1 ≤ (n : Int) → EvQ mi_X10_meets 168 [some (.ref 63), some (.int a0), some (.int a1), some (.int a2), some (.int v2), some (.int w203062), some (.int r203076), some (.int w208707), some (.int w210123), some (.int v210258), some (.int w210324), some (.int w210325)] [] (G0 L b) h210328 0 0 (QK (fun z : Hp => (GI h z a0 a1 a2.toInt (h 73 (Int32.toNatClampNeg a0)).toInt 9 0)) [(84, 999)] (G0 L b) h) := by
                                intro n
                                induction n with
                                | zero =>
                                  intro w210324 w210325 h210328 b210326 b210327 hJ210329 z210330 z210331 z210332 z210333 z210334 u168_0 u168_1 u168_2 hm168
                                  exact absurd hm168 (by have z_ := b210326.1; omega)
                                | succ n ih168 =>
                                  intro w210324 w210325 h210328 b210326 b210327 hJ210329 z210330 z210331 z210332 z210333 z210334 u168_0 u168_1 u168_2 hm168
                                  have z210335 := congrArg Int32.toInt z210330
                                  refine ev_iload rfl rfl rfl ?_
                                  refine ev_if_eq rfl rfl (fun c210336 => absurd c210336 (D_ne b210327 (by decide : B 0 0 0) (by decide))) (fun c210336 => ?_)
                                  have z210337 := w_ne c210336
                                  rw [show (0 : Int32).toInt = 0 from by decide] at z210337
                                  refine ev_aload_n rfl rfl rfl ?_
                                  refine ev_getR (y := 84) rfl rfl fl_X10_85 rfl rfl rfl rfl ?_
                                  refine ev_aload_n rfl rfl rfl ?_
                                  refine ev_iload rfl rfl rfl ?_
                                  refine ev_iconst (v := 1) rfl rfl (by decide) ?_
                                  refine ev_iaddB (l := 1) (u := 24) rfl rfl b203072 (by decide : B 1 1 1) (by decide) (by decide) (by decide) (by decide) (fun v210338 b210338 e210338 g210338 => ?_)
                                  have e210338x := e210338; rw [show (1 : Int32).toInt = 1 from by decide] at e210338x
                                  refine ev_iload rfl rfl rfl ?_
                                  refine ev_aload_n rfl rfl rfl ?_
                                  refine ev_iload rfl rfl rfl ?_
                                  refine ev_aload_n rfl rfl rfl ?_
                                  refine ev_getR (y := 82) rfl rfl fl_X10_79 rfl rfl rfl rfl ?_
                                  refine ev_iload rfl rfl rfl ?_
                                  refine ev_ialW (n := 4096) (l := (-2147483648)) (u := 2147483647) hJ210329.1 b210326 (by decide) (by decide) (fun _ => rfl) rfl rfl rfl (fun v210339 b210339 e210339 => ?_)
                                  refine ev_V2P rfl rfl lk_X10_297 vt_X10_then rfl rfl rfl rfl rfl (w_thenK L b h210328 h hB (hJ210329.2 63 2 rfl) (hJ210329.2 63 3 rfl) w210123 v210339) (fun r210340 q210340 => ?_)
                                  obtain ⟨b210340, pp210340_0, pp210340_1⟩ := q210340
                                  refine ev_V3P rfl rfl lk_X10_293 vt_X10_spot rfl rfl rfl rfl rfl (w_spotK L b h210328 hJ210329.1 v210338 w208707 r210340 (b210338.mono (by decide) (by decide)) (b210147.mono (by decide) (by decide)) b210340) (fun r210341 q210341 => ?_)
                                  obtain ⟨b210341, pp210341_0⟩ := q210341
                                  refine ev_iconst (v := 1) rfl rfl (by decide) ?_
                                  refine ev_zasW (n := 45225) (l := (-2147483648)) (u := 2147483647) hJ210329 b210341 (by decide) (by decide) (fun _ => rfl) ((by decide : B 1 1 1).mono (by decide) (by decide)) (by decide) (by decide) (fun _ => rfl) rfl rfl rfl rfl (fun h210342 hJ210342 k210342 => ?_)
                                  have hs210343d : v210339 = h 82 (Int32.toNatClampNeg w210324) := by rw [← (rd_a k210342 e210339 rfl)]; exact hJ210342.2 82 _ rfl
                                  have hs210343 : r210341.toInt = 1809 * (w203062.toInt + 1) + 201 * w208707.toInt + th h w210123.toInt v210339 := by have q_ := pp210341_0; have q2_ := pp210340_0; omega
                                  have hs210343b := (zth_B (hB 63 3) w210123 v210339).1
                                  have hs210343c := th_eq h w210123 v210339
                                  have gi210344 : GI h h210342 a0 a1 a2.toInt w203062.toInt w208707.toInt w210123.toInt := (GI.write u168_0 k210342 hs210343 p2.2 (hB 63 3) (by have z0_ := congrArg Int32.toInt (rd_a k210342 z210330 rfl); have z_ := w_lits; have zl_ := l_lits; omega) (by have z0_ := congrArg Int32.toInt (rd_a k210342 z210330 rfl); have z_ := w_lits; have zl_ := l_lits; omega) (by have z0_ := congrArg Int32.toInt (rd_a k210342 z210330 rfl); have z_ := w_lits; have zl_ := l_lits; omega) (by have z0_ := congrArg Int32.toInt (rd_a k210342 z210330 rfl); have z_ := w_lits; have zl_ := l_lits; omega) (by have z0_ := congrArg Int32.toInt (rd_a k210342 z210330 rfl); have z_ := w_lits; have zl_ := l_lits; omega) (by have z0_ := congrArg Int32.toInt (rd_a k210342 z210330 rfl); have z_ := w_lits; have zl_ := l_lits; omega))
                                  refine ev_iload rfl rfl rfl ?_
                                  refine ev_if_eq rfl rfl (fun c210345 => ?_) (fun c210345 => ?_)
                                  · have b210346 : B w210324 0 0 := R_eqX b210326 (by decide : B 0 0 0) c210345
                                    have z210347 := congrArg Int32.toInt c210345
                                    rw [show (0 : Int32).toInt = 0 from by decide] at z210347
                                    refine ev_iconst (v := 0) rfl rfl (by decide) ?_
                                    refine ev_istore rfl rfl rfl rfl ?_
                                    dsimp only [List.set]
                                    refine ev_iload rfl rfl rfl ?_
                                    refine ev_iconst (v := 1) rfl rfl (by decide) ?_
                                    refine ev_isubB (l := -1) (u := -1) rfl rfl b210346 (by decide : B 1 1 1) (by decide) (by decide) (by decide) (by decide) (fun v210350 b210350 e210350 g210350 => ?_)
                                    have e210350x := e210350; rw [show (1 : Int32).toInt = 1 from by decide] at e210350x
                                    refine ev_iload rfl rfl rfl ?_
                                    refine ev_iandB rfl rfl b210258 (by decide) (fun v210351 b210351 e210351 => ?_)
                                    refine ev_istore rfl rfl rfl rfl ?_
                                    dsimp only [List.set]
                                    refine ev_goto rfl rfl ?_
                                    refine ev_iload rfl rfl rfl ?_
                                    refine ev_if_eq rfl rfl (fun c210352 => ?_) (fun c210352 => absurd (D_eq (by decide : B 0 0 0) (by decide : B 0 0 0)) c210352)
                                    have z210353 := congrArg Int32.toInt c210352
                                    rw [show (0 : Int32).toInt = 0 from by decide] at z210353
                                    refine ev_iincB (y := 1) (l := 1) (u := 201) rfl rfl rfl (by decide) rfl rfl b210134 (by decide : B 1 1 1) (by decide) (by decide) (by decide) (by decide) (fun v210354 b210354 e210354 => ?_)
                                    dsimp only [List.set]
                                    have e210354x := e210354; rw [show (1 : Int32).toInt = 1 from by decide] at e210354x
                                    refine ev_goto rfl rfl ?_
                                    exact (EvQ.drop 11 (EvQ.drop 10 (EvQ.drop 9 (ih89 v210354 h210342 (b210354.mono (by decide) (by decide)) hJ210342 (rd_a k210342 z210330 rfl) (rd_a k210342 z210331 rfl) (rd_a k210342 z210332 rfl) (GI.to (GI.add gi210344 (Cl.mk (alp_of e210258 pp203076_0 pp203075_0 (hJ203065.2 74 _ rfl) (rd_a k210342 z210334 rfl) (hJ210342.2 81 _ rfl)) (RS.mono u168_1 k210342) (EN.last u168_2 c210345 k210342 hs210343d hs210343))) (fun i_ r_ p_ _ _ _ _ _ _ _ => by have z_ := w_lits; omega)) (L_up hm89 (e_p1 e210354 (by decide)))))))
                                  · have b210348 : B w210324 1 4095 := R_neL b210326 (by decide : B 0 0 0) c210345 (by decide)
                                    have z210349 := w_ne c210345
                                    rw [show (0 : Int32).toInt = 0 from by decide] at z210349
                                    refine ev_iconst (v := 1) rfl rfl (by decide) ?_
                                    refine ev_goto rfl rfl ?_
                                    refine ev_istore rfl rfl rfl rfl ?_
                                    dsimp only [List.set]
                                    refine ev_iload rfl rfl rfl ?_
                                    refine ev_iconst (v := 1) rfl rfl (by decide) ?_
                                    refine ev_isubB (l := 0) (u := 4094) rfl rfl b210348 (by decide : B 1 1 1) (by decide) (by decide) (by decide) (by decide) (fun v210355 b210355 e210355 g210355 => ?_)
                                    have e210355x := e210355; rw [show (1 : Int32).toInt = 1 from by decide] at e210355x
                                    refine ev_iload rfl rfl rfl ?_
                                    refine ev_iandC rfl rfl b210355 (by decide) (fun v210356 b210356 e210356 => ?_)
                                    refine ev_istore rfl rfl rfl rfl ?_
                                    dsimp only [List.set]
                                    refine ev_goto rfl rfl ?_
                                    exact (ih168 v210356 1 h210342 (b210356.mono (by decide) (by decide)) (by decide : B 1 1 1) hJ210342 (rd_a k210342 z210330 rfl) (rd_a k210342 z210331 rfl) (rd_a k210342 z210332 rfl) (rd_a k210342 z210333 rfl) (rd_a k210342 z210334 rfl) gi210344 (RS.mono u168_1 k210342) (EN.nx u168_2 k210342 hs210343d hs210343 e210356 g210355) (bs_dec (b210348.mono (by decide) (by decide)) c210345 e210356 g210355 hm168))
                              exact (lp168_210323 4096 v210258 1 h210253 b210258 (by decide : B 1 1 1) hJ210253 (rd_a k210253 z210127 rfl) (rd_a k210253 z210128 rfl) (rd_a k210253 z210129 rfl) (rd_a k210253 e210250 rfl) e210257 gi210255 rs210256 (EN.start h h210253 v210258 _ _ _) (by have z_ := w_lits; omega))
                    exact (lp89_210122 202 0 h208709 ((by decide : B 0 0 0).mono (by decide) (by decide)) hJ208710 z208711 z208712 z208713 (GI.to u81_0 (fun i_ r_ p_ _ _ _ _ _ _ _ => by have z_ := w_lits; omega)) (L_init (by decide : B 0 0 0) (by decide)))
              exact (lp81_208706 10 a2 h203064 (p2.mono (by decide) (by decide)) hJ203065 z203066 z203067 z203068 (GI.to u57_0 (fun i_ r_ p_ _ _ _ _ _ _ _ => by have z_ := w_lits; omega)) (M_init p2 (by decide)))
        exact (lp57_203061 25 0 h169236 ((by decide : B 0 0 0).mono (by decide) (by decide)) hJ169236 (rd_a k169236 z169224 rfl) (rd_a k169236 z169225 rfl) (rd_a k169236 e169234 rfl) (by rw [show (0 : Int32).toInt = 0 from by decide]; exact gi169237) (L_init (by decide : B 0 0 0) (by decide)))
      · have b169232 : B w169220 0 45224 := R_ltX b169221 b169228 (Int32.not_le.mp c169229) (by decide)
        have z169233 := w_lt (Int32.not_le.mp c169229)
        refine ev_aload_n rfl rfl rfl ?_
        refine ev_getR (y := 84) rfl rfl fl_X10_85 rfl rfl rfl rfl ?_
        refine ev_iload rfl rfl rfl ?_
        refine ev_iconst (v := 0) rfl rfl (by decide) ?_
        refine ev_zasW (n := 45225) (l := (-2147483648)) (u := 2147483647) hJ169223 b169232 (by decide) (by decide) (fun _ => rfl) ((by decide : B 0 0 0).mono (by decide) (by decide)) (by decide) (by decide) (fun _ => rfl) rfl rfl rfl rfl (fun h210357 hJ210357 k210357 => ?_)
        refine ev_iincB (y := 1) (l := 1) (u := 45225) rfl rfl rfl (by decide) rfl rfl b169232 (by decide : B 1 1 1) (by decide) (by decide) (by decide) (by decide) (fun v210358 b210358 e210358 => ?_)
        dsimp only [List.set]
        have e210358x := e210358; rw [show (1 : Int32).toInt = 1 from by decide] at e210358x
        refine ev_goto rfl rfl ?_
        exact (ih11 v210358 h210357 (b210358.mono (by decide) (by decide)) hJ210357 (rd_a k210357 z169224 rfl) (rd_a k210357 z169225 rfl) (L_up hm11 (e_p1 e210358 (by decide))))
  exact (lp11_169219 45226 0 h ((by decide : B 0 0 0).mono (by decide) (by decide)) hJ0 ef1 e2 (L_init (by decide : B 0 0 0) (by decide)))

