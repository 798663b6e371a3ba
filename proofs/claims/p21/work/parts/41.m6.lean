set_option maxRecDepth 100000 in
set_option maxHeartbeats 4000000 in
theorem w_X10_bestSound_63 (L : Nat) (b : Bool) (h : Hp) (hB : Bx h) (a0 : Int32) (a1 : Int32) (p1 : B a1 0 23) (a2 : Int32) (p2 : B a2 0 8) (a3 : Int32) (p3 : B a3 0 200) : EvI mi_X10_bestSound [.ref 63, .int a0, .int a1, .int a2, .int a3] (G0 L b) h (fun (r : Int32) (z : Hp) => B r 0 4800 ∧ (0 ≤ r.toInt) ∧ (r.toInt ≤ 192 * (24 - a1.toInt)) ∧ (r = BS h h a1.toInt a2.toInt a3 (a0 &&& h 81 (Int32.toNatClampNeg a3))) ∧ (EnF (a0 &&& h 81 (Int32.toNatClampNeg a3)) (a0 &&& h 81 (Int32.toNatClampNeg a3)) (z 63 35))) [(63, 35)] := by
  refine EvM.of2 (lo := [some (.ref 63), some (.int a0), some (.int a1), some (.int a2), some (.int a3), none, none, none, none, none]) pf_X10_bestSound ok_X10_bestSound rfl rfl ?_
  have hJ0 : JW [(63, 35)] h h := JW.refl hB
  obtain ⟨f1, ef1⟩ : ∃ f_, h 63 3 = f_ := ⟨_, rfl⟩
  have bf1 : B f1 0 200 := by have z_ := hJ0.1 63 3; rw [ef1] at z_; exact z_
  have zf1 := congrArg Int32.toInt ef1
  obtain ⟨f2, ef2⟩ : ∃ f_, h 63 35 = f_ := ⟨_, rfl⟩
  have bf2 : B f2 0 4095 := by have z_ := hJ0.1 63 35; rw [ef2] at z_; exact z_
  have zf2 := congrArg Int32.toInt ef2
  refine ev_ldcw (v := (-1000000)) rfl rfl kc_X10_300 ?_
  refine ev_istore rfl rfl rfl rfl ?_
  dsimp only [List.set]
  refine ev_iload_n rfl rfl rfl ?_
  refine ev_aload_n rfl rfl rfl ?_
  refine ev_getR (y := 81) rfl rfl fl_X10_76 rfl rfl rfl rfl ?_
  refine ev_iload rfl rfl rfl ?_
  refine ev_ialW (n := 201) (l := 0) (u := 4095) hJ0.1 p3 (by decide) (by decide) (fun _ => rfl) rfl rfl rfl (fun v3 b3 e3 => ?_)
  refine ev_iandB rfl rfl b3 (by decide) (fun v4 b4 e4 => ?_)
  refine ev_istore rfl rfl rfl rfl ?_
  dsimp only [List.set]
  refine ev_iload rfl rfl rfl ?_
  refine ev_istore rfl rfl rfl rfl ?_
  dsimp only [List.set]
  refine ev_iconst (v := 1) rfl rfl (by decide) ?_
  refine ev_istore rfl rfl rfl rfl ?_
  dsimp only [List.set]
  have c5 : bsl h h a1.toInt a2.toInt a3 v4 4097 v4 (-1000000) = BS h h a1.toInt a2.toInt a3 v4 := rfl
  refine ev_iload rfl rfl rfl ?_
  refine ev_if_eq rfl rfl (fun c6 => absurd c6 (D_ne (by decide : B 1 1 1) (by decide : B 0 0 0) (by decide))) (fun c6 => ?_)
  have z7 := w_ne c6
  rw [show (1 : Int32).toInt = 1 from by decide] at z7
  rw [show (0 : Int32).toInt = 0 from by decide] at z7
  refine ev_bipush (v := 16) rfl rfl (by decide) ?_
  refine ev_aload_n rfl rfl rfl ?_
  refine ev_getR (y := 83) rfl rfl fl_X10_82 rfl rfl rfl rfl ?_
  refine ev_iload rfl rfl rfl ?_
  refine ev_ialG (n := 4096) hJ0.1 b4 (by decide) (by decide) rfl rfl rfl (fun v8 b8 e8 => ?_)
  have b8k : B v8 0 12 := mb_get b8
  refine ev_imulB (l := 0) (u := 192) rfl rfl (by decide : B 16 16 16) b8k (by decide) (by decide) (by decide) (by decide) (by decide) (fun v9 b9 e9 g9 => ?_)
  rw [show (16 : Int32).toInt = 16 from by decide] at e9
  refine ev_aload_n rfl rfl rfl ?_
  refine ev_getR (y := 78) rfl rfl fl_X10_67 rfl rfl rfl rfl ?_
  refine ev_aload_n rfl rfl rfl ?_
  refine ev_iload_n rfl rfl rfl ?_
  refine ev_iconst (v := 1) rfl rfl (by decide) ?_
  refine ev_iaddB (l := 1) (u := 24) rfl rfl p1 (by decide : B 1 1 1) (by decide) (by decide) (by decide) (by decide) (fun v10 b10 e10 g10 => ?_)
  have e10x := e10; rw [show (1 : Int32).toInt = 1 from by decide] at e10x
  refine ev_iload_n rfl rfl rfl ?_
  refine ev_aload_n rfl rfl rfl ?_
  refine ev_iload rfl rfl rfl ?_
  refine ev_aload_n rfl rfl rfl ?_
  refine ev_getR (y := 82) rfl rfl fl_X10_79 rfl rfl rfl rfl ?_
  refine ev_iload rfl rfl rfl ?_
  refine ev_ialW (n := 4096) (l := (-2147483648)) (u := 2147483647) hJ0.1 b4 (by decide) (by decide) (fun _ => rfl) rfl rfl rfl (fun v11 b11 e11 => ?_)
  refine ev_V2P rfl rfl lk_X10_297 vt_X10_then rfl rfl rfl rfl rfl (w_thenK L b h h hB (hJ0.2 63 2 rfl) (hJ0.2 63 3 rfl) a3 v11) (fun r12 q12 => ?_)
  obtain ⟨b12, pp12_0, pp12_1⟩ := q12
  refine ev_V3P rfl rfl lk_X10_293 vt_X10_spot rfl rfl rfl rfl rfl (w_spotK L b h hJ0.1 v10 a2 r12 (b10.mono (by decide) (by decide)) p2 b12) (fun r13 q13 => ?_)
  obtain ⟨b13, pp13_0⟩ := q13
  refine ev_ialG (n := 45225) hJ0.1 b13 (by decide) (by decide) rfl rfl rfl (fun v14 b14 e14 => ?_)
  have b14z := tb_get b14 (by have z0_ := congrArg Int32.toInt ef1; have z1_ := congrArg Int32.toInt ef2; have z_ := w_lits; have zl_ := l_lits; omega)
  have b14k : B v14 0 4608 := ⟨b14z.1, (by have z0_ := congrArg Int32.toInt ef1; have z1_ := congrArg Int32.toInt ef2; have z_ := w_lits; have zl_ := l_lits; omega)⟩
  refine ev_iaddB (l := 0) (u := 4800) rfl rfl b9 b14k (by decide) (by decide) (by decide) (by decide) (fun v15 b15 e15 g15 => ?_)
  have ev16 : v15 = bsv h h a1.toInt a2.toInt a3 v4 := bsv_of g15 g9 e8 (hJ0.2 83 _ rfl) e14 (hJ0.2 78 _ rfl) pp13_0 e10x rfl pp12_0 e11 (hJ0.2 82 _ rfl)
  refine ev_istore rfl rfl rfl rfl ?_
  dsimp only [List.set]
  refine ev_iload rfl rfl rfl ?_
  refine ev_iload rfl rfl rfl ?_
  refine ev_icmp_le rfl rfl (fun c17 => absurd c17 (D_nle b15 (by decide : B (-1000000) (-1000000) (-1000000)) (by decide))) (fun c17 => ?_)
  have z18 := w_lt (Int32.not_le.mp c17)
  rw [show ((-1000000) : Int32).toInt = (-1000000) from by decide] at z18
  refine ev_iload rfl rfl rfl ?_
  refine ev_istore rfl rfl rfl rfl ?_
  dsimp only [List.set]
  refine ev_aload_n rfl rfl rfl ?_
  refine ev_iload rfl rfl rfl ?_
  refine ev_putW (l := 0) (u := 4095) hJ0 rfl b4 (by decide) (by decide) rfl rfl rfl fl_X10_301 rfl rfl rfl rfl rfl (fun h19 hJ19 k19 => ?_)
  refine ev_iload rfl rfl rfl ?_
  refine ev_if_eq rfl rfl (fun c20 => ?_) (fun c20 => ?_)
  · have b21 : B v4 0 0 := R_eqX b4 (by decide : B 0 0 0) c20
    have z22 := congrArg Int32.toInt c20
    rw [show (0 : Int32).toInt = 0 from by decide] at z22
    refine ev_iconst (v := 0) rfl rfl (by decide) ?_
    refine ev_istore rfl rfl rfl rfl ?_
    dsimp only [List.set]
    refine ev_iload rfl rfl rfl ?_
    refine ev_iconst (v := 1) rfl rfl (by decide) ?_
    refine ev_isubB (l := -1) (u := -1) rfl rfl b21 (by decide : B 1 1 1) (by decide) (by decide) (by decide) (by decide) (fun v25 b25 e25 g25 => ?_)
    have e25x := e25; rw [show (1 : Int32).toInt = 1 from by decide] at e25x
    refine ev_iload rfl rfl rfl ?_
    refine ev_iandB rfl rfl b21 (by decide) (fun v26 b26 e26 => ?_)
    refine ev_istore rfl rfl rfl rfl ?_
    dsimp only [List.set]
    refine ev_goto rfl rfl ?_
    refine ev_iload rfl rfl rfl ?_
    refine ev_if_eq rfl rfl (fun c27 => ?_) (fun c27 => absurd (D_eq (by decide : B 0 0 0) (by decide : B 0 0 0)) c27)
    have z28 := congrArg Int32.toInt c27
    rw [show (0 : Int32).toInt = 0 from by decide] at z28
    refine ev_iload rfl rfl rfl ?_
    exact ev_iret rfl rfl rfl ⟨⟨_, rfl, ⟨b15, (by have z_ := w_lits; have zl_ := l_lits; omega), (by have z_ := w_lits; have zl_ := l_lits; omega), (by rw [← hJ19.2 81 _ rfl, (rd_o k19 e3 rfl), ← e4]; exact bs_last c5 c20 ev16 (if_neg c17).symm), (by rw [← hJ19.2 81 _ rfl, (rd_o k19 e3 rfl), ← e4]; exact (by rw [(rd_s k19)]; exact (EnF.refl v4 v4)))⟩⟩, rfl, hJ19⟩
  · have b23 : B v4 1 4095 := R_neL b4 (by decide : B 0 0 0) c20 (by decide)
    have z24 := w_ne c20
    rw [show (0 : Int32).toInt = 0 from by decide] at z24
    refine ev_iconst (v := 1) rfl rfl (by decide) ?_
    refine ev_goto rfl rfl ?_
    refine ev_istore rfl rfl rfl rfl ?_
    dsimp only [List.set]
    refine ev_iload rfl rfl rfl ?_
    refine ev_iconst (v := 1) rfl rfl (by decide) ?_
    refine ev_isubB (l := 0) (u := 4094) rfl rfl b23 (by decide : B 1 1 1) (by decide) (by decide) (by decide) (by decide) (fun v29 b29 e29 g29 => ?_)
    have e29x := e29; rw [show (1 : Int32).toInt = 1 from by decide] at e29x
    refine ev_iload rfl rfl rfl ?_
    refine ev_iandC rfl rfl b29 (by decide) (fun v30 b30 e30 => ?_)
    refine ev_istore rfl rfl rfl rfl ?_
    dsimp only [List.set]
    refine ev_goto rfl rfl ?_
    have lp23_158 : ∀ (n : Nat) (w159 : Int32) (w160 : Int32) (w161 : Int32) (w162 : Int32) (h167 : Hp), B w159 0 4800 → B w160 0 4095 → B w161 1 1 → B w162 0 4800 → JW [(63, 35)] h h167 → (h167 63 3 = f1) → (h167 81 (Int32.toNatClampNeg a3) = v3) → (h167 82 (Int32.toNatClampNeg v4) = v11) → (0 ≤ w159.toInt) → (w159.toInt ≤ 192 * (24 - a1.toInt)) → (bsl h h a1.toInt a2.toInt a3 v4 4097 w160 w159 = BS h h a1.toInt a2.toInt a3 v4) → (EnF v4 v4 w160) → (EnF v4 v4 (h167 63 35)) → w160.toInt + 1 ≤ (n : Int) → EvQ mi_X10_bestSound 23 [some (.ref 63), some (.int a0), some (.int a1), some (.int a2), some (.int a3), some (.int w159), some (.int v4), some (.int w160), some (.int w161), some (.int w162)] [] (G0 L b) h167 0 0 (QI (fun (r : Int32) (z : Hp) => B r 0 4800 ∧ (0 ≤ r.toInt) ∧ (r.toInt ≤ 192 * (24 - a1.toInt)) ∧ (r = BS h h a1.toInt a2.toInt a3 (a0 &&& h 81 (Int32.toNatClampNeg a3))) ∧ (EnF (a0 &&& h 81 (Int32.toNatClampNeg a3)) (a0 &&& h 81 (Int32.toNatClampNeg a3)) (z 63 35))) [(63, 35)] (G0 L b) h) := by
      intro n
      induction n with
      | zero =>
        intro w159 w160 w161 w162 h167 b163 b164 b165 b166 hJ168 z169 z170 z171 y23_0 y23_1 u23_0 u23_1 u23_2 hm23
        exact absurd hm23 (by have z_ := b164.1; omega)
      | succ n ih23 =>
        intro w159 w160 w161 w162 h167 b163 b164 b165 b166 hJ168 z169 z170 z171 y23_0 y23_1 u23_0 u23_1 u23_2 hm23
        obtain ⟨f172, ef172⟩ : ∃ f_, h167 63 35 = f_ := ⟨_, rfl⟩
        have bf172 : B f172 0 4095 := by have z_ := hJ168.1 63 35; rw [ef172] at z_; exact z_
        have zf172 := congrArg Int32.toInt ef172
        have z173 := congrArg Int32.toInt z169
        have c174 : EnF v4 v4 f172 := by have z_ := u23_2; rw [ef172] at z_; exact z_
        refine ev_iload rfl rfl rfl ?_
        refine ev_if_eq rfl rfl (fun c175 => absurd c175 (D_ne b165 (by decide : B 0 0 0) (by decide))) (fun c175 => ?_)
        have z176 := w_ne c175
        rw [show (0 : Int32).toInt = 0 from by decide] at z176
        refine ev_bipush (v := 16) rfl rfl (by decide) ?_
        refine ev_aload_n rfl rfl rfl ?_
        refine ev_getR (y := 83) rfl rfl fl_X10_82 rfl rfl rfl rfl ?_
        refine ev_iload rfl rfl rfl ?_
        refine ev_ialG (n := 4096) hJ168.1 b164 (by decide) (by decide) rfl rfl rfl (fun v177 b177 e177 => ?_)
        have b177k : B v177 0 12 := mb_get b177
        refine ev_imulB (l := 0) (u := 192) rfl rfl (by decide : B 16 16 16) b177k (by decide) (by decide) (by decide) (by decide) (by decide) (fun v178 b178 e178 g178 => ?_)
        rw [show (16 : Int32).toInt = 16 from by decide] at e178
        refine ev_aload_n rfl rfl rfl ?_
        refine ev_getR (y := 78) rfl rfl fl_X10_67 rfl rfl rfl rfl ?_
        refine ev_aload_n rfl rfl rfl ?_
        refine ev_iload_n rfl rfl rfl ?_
        refine ev_iconst (v := 1) rfl rfl (by decide) ?_
        refine ev_iaddV g10 rfl rfl ?_
        refine ev_iload_n rfl rfl rfl ?_
        refine ev_aload_n rfl rfl rfl ?_
        refine ev_iload rfl rfl rfl ?_
        refine ev_aload_n rfl rfl rfl ?_
        refine ev_getR (y := 82) rfl rfl fl_X10_79 rfl rfl rfl rfl ?_
        refine ev_iload rfl rfl rfl ?_
        refine ev_ialW (n := 4096) (l := (-2147483648)) (u := 2147483647) hJ168.1 b164 (by decide) (by decide) (fun _ => rfl) rfl rfl rfl (fun v179 b179 e179 => ?_)
        refine ev_V2P rfl rfl lk_X10_297 vt_X10_then rfl rfl rfl rfl rfl (w_thenK L b h167 h hB (hJ168.2 63 2 rfl) (hJ168.2 63 3 rfl) a3 v179) (fun r180 q180 => ?_)
        obtain ⟨b180, pp180_0, pp180_1⟩ := q180
        refine ev_V3P rfl rfl lk_X10_293 vt_X10_spot rfl rfl rfl rfl rfl (w_spotK L b h167 hJ168.1 v10 a2 r180 (b10.mono (by decide) (by decide)) p2 b180) (fun r181 q181 => ?_)
        obtain ⟨b181, pp181_0⟩ := q181
        refine ev_ialG (n := 45225) hJ168.1 b181 (by decide) (by decide) rfl rfl rfl (fun v182 b182 e182 => ?_)
        have b182z := tb_get b182 (by have z0_ := congrArg Int32.toInt z169; have z1_ := congrArg Int32.toInt ef172; have z_ := w_lits; have zl_ := l_lits; omega)
        have b182k : B v182 0 4608 := ⟨b182z.1, (by have z0_ := congrArg Int32.toInt z169; have z1_ := congrArg Int32.toInt ef172; have z_ := w_lits; have zl_ := l_lits; omega)⟩
        refine ev_iaddB (l := 0) (u := 4800) rfl rfl b178 b182k (by decide) (by decide) (by decide) (by decide) (fun v183 b183 e183 g183 => ?_)
        have ev184 : v183 = bsv h h a1.toInt a2.toInt a3 w160 := bsv_of g183 g178 e177 (hJ168.2 83 _ rfl) e182 (hJ168.2 78 _ rfl) pp181_0 e10x rfl pp180_0 e179 (hJ168.2 82 _ rfl)
        refine ev_istore rfl rfl rfl rfl ?_
        dsimp only [List.set]
        refine ev_iload rfl rfl rfl ?_
        refine ev_iload rfl rfl rfl ?_
        refine ev_icmp_le rfl rfl (fun c185 => ?_) (fun c185 => ?_)
        · have z186 := w_le c185
          refine ev_iload rfl rfl rfl ?_
          refine ev_if_eq rfl rfl (fun c190 => ?_) (fun c190 => ?_)
          · have b191 : B w160 0 0 := R_eqX b164 (by decide : B 0 0 0) c190
            have z192 := congrArg Int32.toInt c190
            rw [show (0 : Int32).toInt = 0 from by decide] at z192
            refine ev_iconst (v := 0) rfl rfl (by decide) ?_
            refine ev_istore rfl rfl rfl rfl ?_
            dsimp only [List.set]
            refine ev_iload rfl rfl rfl ?_
            refine ev_iconst (v := 1) rfl rfl (by decide) ?_
            refine ev_isubB (l := -1) (u := -1) rfl rfl b191 (by decide : B 1 1 1) (by decide) (by decide) (by decide) (by decide) (fun v195 b195 e195 g195 => ?_)
            have e195x := e195; rw [show (1 : Int32).toInt = 1 from by decide] at e195x
            refine ev_iload rfl rfl rfl ?_
            refine ev_iandB rfl rfl b23 (by decide) (fun v196 b196 e196 => ?_)
            refine ev_istore rfl rfl rfl rfl ?_
            dsimp only [List.set]
            refine ev_goto rfl rfl ?_
            refine ev_iload rfl rfl rfl ?_
            refine ev_if_eq rfl rfl (fun c197 => ?_) (fun c197 => absurd (D_eq (by decide : B 0 0 0) (by decide : B 0 0 0)) c197)
            have z198 := congrArg Int32.toInt c197
            rw [show (0 : Int32).toInt = 0 from by decide] at z198
            refine ev_iload rfl rfl rfl ?_
            exact ev_iret rfl rfl rfl ⟨⟨_, rfl, ⟨b163, (by have z_ := w_lits; have zl_ := l_lits; omega), (by have z_ := w_lits; have zl_ := l_lits; omega), (by rw [← hJ168.2 81 _ rfl, z170, ← e4]; exact bs_last u23_0 c190 ev184 (if_pos c185).symm), (by rw [← hJ168.2 81 _ rfl, z170, ← e4]; exact (by rw [ef172]; exact c174))⟩⟩, rfl, hJ168⟩
          · have b193 : B w160 1 4095 := R_neL b164 (by decide : B 0 0 0) c190 (by decide)
            have z194 := w_ne c190
            rw [show (0 : Int32).toInt = 0 from by decide] at z194
            refine ev_iconst (v := 1) rfl rfl (by decide) ?_
            refine ev_goto rfl rfl ?_
            refine ev_istore rfl rfl rfl rfl ?_
            dsimp only [List.set]
            refine ev_iload rfl rfl rfl ?_
            refine ev_iconst (v := 1) rfl rfl (by decide) ?_
            refine ev_isubB (l := 0) (u := 4094) rfl rfl b193 (by decide : B 1 1 1) (by decide) (by decide) (by decide) (by decide) (fun v199 b199 e199 g199 => ?_)
            have e199x := e199; rw [show (1 : Int32).toInt = 1 from by decide] at e199x
            refine ev_iload rfl rfl rfl ?_
            refine ev_iandC rfl rfl b199 (by decide) (fun v200 b200 e200 => ?_)
            refine ev_istore rfl rfl rfl rfl ?_
            dsimp only [List.set]
            refine ev_goto rfl rfl ?_
            exact (ih23 w159 v200 1 v183 h167 b163 (b200.mono (by decide) (by decide)) (by decide : B 1 1 1) b183 hJ168 z169 z170 z171 (by have z_ := w_lits; have zl_ := l_lits; omega) (by have z_ := w_lits; have zl_ := l_lits; omega) (bs_next (b193.mono (by decide) (by decide)) u23_0 c190 ev184 (if_pos c185).symm e200 g199) (EnF.sn2 u23_1 c190 e200 g199) (by rw [ef172]; exact c174) (bs_dec (b193.mono (by decide) (by decide)) c190 e200 g199 hm23))
        · have b187 : B v183 1 4800 := R_ltY b163 b183 (Int32.not_le.mp c185) (by decide)
          have b188 : B w159 0 4799 := R_ltX b163 b183 (Int32.not_le.mp c185) (by decide)
          have z189 := w_lt (Int32.not_le.mp c185)
          refine ev_iload rfl rfl rfl ?_
          refine ev_istore rfl rfl rfl rfl ?_
          dsimp only [List.set]
          refine ev_aload_n rfl rfl rfl ?_
          refine ev_iload rfl rfl rfl ?_
          refine ev_putW (l := 0) (u := 4095) hJ168 rfl b164 (by decide) (by decide) rfl rfl rfl fl_X10_301 rfl rfl rfl rfl rfl (fun h201 hJ201 k201 => ?_)
          refine ev_iload rfl rfl rfl ?_
          refine ev_if_eq rfl rfl (fun c202 => ?_) (fun c202 => ?_)
          · have b203 : B w160 0 0 := R_eqX b164 (by decide : B 0 0 0) c202
            have z204 := congrArg Int32.toInt c202
            rw [show (0 : Int32).toInt = 0 from by decide] at z204
            refine ev_iconst (v := 0) rfl rfl (by decide) ?_
            refine ev_istore rfl rfl rfl rfl ?_
            dsimp only [List.set]
            refine ev_iload rfl rfl rfl ?_
            refine ev_iconst (v := 1) rfl rfl (by decide) ?_
            refine ev_isubB (l := -1) (u := -1) rfl rfl b203 (by decide : B 1 1 1) (by decide) (by decide) (by decide) (by decide) (fun v207 b207 e207 g207 => ?_)
            have e207x := e207; rw [show (1 : Int32).toInt = 1 from by decide] at e207x
            refine ev_iload rfl rfl rfl ?_
            refine ev_iandB rfl rfl b23 (by decide) (fun v208 b208 e208 => ?_)
            refine ev_istore rfl rfl rfl rfl ?_
            dsimp only [List.set]
            refine ev_goto rfl rfl ?_
            refine ev_iload rfl rfl rfl ?_
            refine ev_if_eq rfl rfl (fun c209 => ?_) (fun c209 => absurd (D_eq (by decide : B 0 0 0) (by decide : B 0 0 0)) c209)
            have z210 := congrArg Int32.toInt c209
            rw [show (0 : Int32).toInt = 0 from by decide] at z210
            refine ev_iload rfl rfl rfl ?_
            exact ev_iret rfl rfl rfl ⟨⟨_, rfl, ⟨(b187.mono (by decide) (by decide)), (by have z_ := w_lits; have zl_ := l_lits; omega), (by have z_ := w_lits; have zl_ := l_lits; omega), (by rw [← hJ201.2 81 _ rfl, (rd_o k201 z170 rfl), ← e4]; exact bs_last u23_0 c202 ev184 (if_neg c185).symm), (by rw [← hJ201.2 81 _ rfl, (rd_o k201 z170 rfl), ← e4]; exact (by rw [(rd_s k201)]; exact u23_1))⟩⟩, rfl, hJ201⟩
          · have b205 : B w160 1 4095 := R_neL b164 (by decide : B 0 0 0) c202 (by decide)
            have z206 := w_ne c202
            rw [show (0 : Int32).toInt = 0 from by decide] at z206
            refine ev_iconst (v := 1) rfl rfl (by decide) ?_
            refine ev_goto rfl rfl ?_
            refine ev_istore rfl rfl rfl rfl ?_
            dsimp only [List.set]
            refine ev_iload rfl rfl rfl ?_
            refine ev_iconst (v := 1) rfl rfl (by decide) ?_
            refine ev_isubB (l := 0) (u := 4094) rfl rfl b205 (by decide : B 1 1 1) (by decide) (by decide) (by decide) (by decide) (fun v211 b211 e211 g211 => ?_)
            have e211x := e211; rw [show (1 : Int32).toInt = 1 from by decide] at e211x
            refine ev_iload rfl rfl rfl ?_
            refine ev_iandC rfl rfl b211 (by decide) (fun v212 b212 e212 => ?_)
            refine ev_istore rfl rfl rfl rfl ?_
            dsimp only [List.set]
            refine ev_goto rfl rfl ?_
            exact (ih23 v183 v212 1 v183 h201 (b187.mono (by decide) (by decide)) (b212.mono (by decide) (by decide)) (by decide : B 1 1 1) (b187.mono (by decide) (by decide)) hJ201 (rd_o k201 z169 rfl) (rd_o k201 z170 rfl) (rd_o k201 z171 rfl) (by have z_ := w_lits; have zl_ := l_lits; omega) (by have z_ := w_lits; have zl_ := l_lits; omega) (bs_next (b205.mono (by decide) (by decide)) u23_0 c202 ev184 (if_neg c185).symm e212 g211) (EnF.sn2 u23_1 c202 e212 g211) (by rw [(rd_s k201)]; exact u23_1) (bs_dec (b205.mono (by decide) (by decide)) c202 e212 g211 hm23))
    exact (lp23_158 4096 v15 v30 1 v15 h19 b15 (b30.mono (by decide) (by decide)) (by decide : B 1 1 1) b15 hJ19 (rd_o k19 ef1 rfl) (rd_o k19 e3 rfl) (rd_o k19 e11 rfl) (by have z_ := w_lits; have zl_ := l_lits; omega) (by have z_ := w_lits; have zl_ := l_lits; omega) (bs_next (b23.mono (by decide) (by decide)) c5 c20 ev16 (if_neg c17).symm e30 g29) (EnF.sn2 (EnF.refl v4 v4) c20 e30 g29) (by rw [(rd_s k19)]; exact (EnF.refl v4 v4)) (by have z_ := w_lits; omega))

