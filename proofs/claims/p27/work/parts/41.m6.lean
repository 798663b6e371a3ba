set_option maxRecDepth 100000 in
set_option maxHeartbeats 4000000 in
theorem w_X10_bestSound_63 (L : Nat) (b : Bool) (h : Hp) (hB : Bx h) (a0 : Int32) (a1 : Int32) (p1 : B a1 0 23) (a2 : Int32) (p2 : B a2 0 8) (a3 : Int32) (p3 : B a3 0 200) : EvI mi_X10_bestSound [.ref 63, .int a0, .int a1, .int a2, .int a3] (G0 L b) h (fun (r : Int32) (z : Hp) => B r 0 4800 ∧ (0 ≤ r.toInt) ∧ (r.toInt ≤ 192 * (24 - a1.toInt)) ∧ (r = BS h h a1.toInt a2.toInt a3 (a0 &&& h 81 (Int32.toNatClampNeg a3))) ∧ (EnF (a0 &&& h 81 (Int32.toNatClampNeg a3)) (a0 &&& h 81 (Int32.toNatClampNeg a3)) (z 63 35))) [(63, 35)] := by
  refine EvM.of2 (lo := [some (.ref 63), some (.int a0), some (.int a1), some (.int a2), some (.int a3), none, none, none, none, none]) pf_X10_bestSound ok_X10_bestSound rfl rfl ?_
  have hJ0 : JW [(63, 35)] h h := JW.refl hB
  obtain ⟨f1, ef1⟩ : ∃ f_, h 63 3 = f_ := ⟨_, rfl⟩
  have bf1 : B f1 0 200 := by have z_ := hJ0.1 63 3; rw [ef1] at z_; exact z_
  have zf1 := congrArg Int32.toInt ef1
  obtain ⟨f2, ef2⟩ : ∃ f_, h 63 35 = f_ := ⟨_, rfl⟩
  have bf2 : B f2 0 4095 := by have z_ := hJ0.1 63 35; rw [ef2] at z_; exact z_
  have zf2 := congrArg Int32.toInt ef2
  refine ev_ldcw (v := (-1000000)) rfl rfl kc_X10_300 ?_
  refine ev_istore rfl rfl rfl rfl ?_
  dsimp only [List.set]
  refine ev_iload_n rfl rfl rfl ?_
  refine ev_aload_n rfl rfl rfl ?_
  refine ev_getR (y := 81) rfl rfl fl_X10_76 rfl rfl rfl rfl ?_
  refine ev_iload rfl rfl rfl ?_
  refine ev_ialW (n := 201) (l := 0) (u := 4095) hJ0.1 p3 (by decide) (by decide) (fun _ => rfl) rfl rfl rfl (fun v3 b3 e3 => ?_)
  refine ev_iandB rfl rfl b3 (by decide) (fun v4 b4 e4 => ?_)
  refine ev_istore rfl rfl rfl rfl ?_
  dsimp only [List.set]
  refine ev_iload rfl rfl rfl ?_
  refine ev_istore rfl rfl rfl rfl ?_
  dsimp only [List.set]
  refine ev_iconst (v := 1) rfl rfl (by decide) ?_
  refine ev_istore rfl rfl rfl rfl ?_
  dsimp only [List.set]
  have c5 : bsl h h a1.toInt a2.toInt a3 v4 4097 v4 (-1000000) = BS h h a1.toInt a2.toInt a3 v4 := rfl
  refine ev_iload rfl rfl rfl ?_
  refine ev_if_eq rfl rfl (fun c6 => absurd c6 (D_ne (by decide : B 1 1 1) (by decide : B 0 0 0) (by decide))) (fun c6 => ?_)
  have z7 := w_ne c6
  rw [show (1 : Int32).toInt = 1 from by decide] at z7
  rw [show (0 : Int32).toInt = 0 from by decide] at z7
  refine ev_bipush (v := 16) rfl rfl (by decide) ?_
  refine ev_aload_n rfl rfl rfl ?_
  refine ev_getR (y := 83) rfl rfl fl_X10_82 rfl rfl rfl rfl ?_
  refine ev_iload rfl rfl rfl ?_
  refine ev_ialG (n := 4096) hJ0.1 b4 (by decide) (by decide) rfl rfl rfl (fun v8 b8 e8 => ?_)
  have b8k : B v8 0 12 := mb_get b8
  refine ev_imulB (l := 0) (u := 192) rfl rfl (by decide : B 16 16 16) b8k (by decide) (by decide) (by decide) (by decide) (by decide) (fun v9 b9 e9 g9 => ?_)
  rw [show (16 : Int32).toInt = 16 from by decide] at e9
  refine ev_aload_n rfl rfl rfl ?_
  refine ev_getR (y := 78) rfl rfl fl_X10_67 rfl rfl rfl rfl ?_
  refine ev_aload_n rfl rfl rfl ?_
  refine ev_iload_n rfl rfl rfl ?_
  refine ev_iconst (v := 1) rfl rfl (by decide) ?_
  refine ev_iaddB (l := 1) (u := 24) rfl rfl p1 (by decide : B 1 1 1) (by decide) (by decide) (by decide) (by decide) (fun v10 b10 e10 g10 => ?_)
  have e10x := e10; rw [show (1 : Int32).toInt = 1 from by decide] at e10x
  refine ev_iload_n rfl rfl rfl ?_
  refine ev_aload_n rfl rfl rfl ?_
  refine ev_iload rfl rfl rfl ?_
  refine ev_aload_n rfl rfl rfl ?_
  refine ev_getR (y := 82) rfl rfl fl_X10_79 rfl rfl rfl rfl ?_
  refine ev_iload rfl rfl rfl ?_
  refine ev_ialW (n := 4096) (l := (-2147483648)) (u := 2147483647) hJ0.1 b4 (by decide) (by decide) (fun _ => rfl) rfl rfl rfl (fun v11 b11 e11 => ?_)
  have z12 := congrArg Int32.toInt ef1
  have z13 := congrArg Int32.toInt ef2
  refine ev_V2P rfl rfl lk_X10_297 vt_X10_then rfl rfl rfl rfl rfl (w_thenK L b h h hB (hJ0.2 63 2 rfl) (hJ0.2 63 3 rfl) a3 v11) (fun r14 q14 => ?_)
  obtain ⟨b14, pp14_0, pp14_1⟩ := q14
  have z15 := congrArg Int32.toInt ef1
  have z16 := congrArg Int32.toInt ef2
  refine ev_V3P rfl rfl lk_X10_293 vt_X10_spot rfl rfl rfl rfl rfl (w_spotK L b h hJ0.1 v10 a2 r14 (b10.mono (by decide) (by decide)) p2 b14) (fun r17 q17 => ?_)
  obtain ⟨b17, pp17_0⟩ := q17
  refine ev_ialG (n := 45225) hJ0.1 b17 (by decide) (by decide) rfl rfl rfl (fun v18 b18 e18 => ?_)
  have b18z := tb_get b18 (by have z0_ := congrArg Int32.toInt ef1; have z1_ := congrArg Int32.toInt ef2; have z_ := w_lits; have zl_ := l_lits; omega)
  have b18k : B v18 0 4608 := ⟨b18z.1, (by have z0_ := congrArg Int32.toInt ef1; have z1_ := congrArg Int32.toInt ef2; have z_ := w_lits; have zl_ := l_lits; omega)⟩
  refine ev_iaddB (l := 0) (u := 4800) rfl rfl b9 b18k (by decide) (by decide) (by decide) (by decide) (fun v19 b19 e19 g19 => ?_)
  have ev20 : v19 = bsv h h a1.toInt a2.toInt a3 v4 := bsv_of g19 g9 e8 (hJ0.2 83 _ rfl) e18 (hJ0.2 78 _ rfl) pp17_0 e10x rfl pp14_0 e11 (hJ0.2 82 _ rfl)
  refine ev_istore rfl rfl rfl rfl ?_
  dsimp only [List.set]
  refine ev_iload rfl rfl rfl ?_
  refine ev_iload rfl rfl rfl ?_
  refine ev_icmp_le rfl rfl (fun c21 => absurd c21 (D_nle b19 (by decide : B (-1000000) (-1000000) (-1000000)) (by decide))) (fun c21 => ?_)
  have z22 := w_lt (Int32.not_le.mp c21)
  rw [show ((-1000000) : Int32).toInt = (-1000000) from by decide] at z22
  refine ev_iload rfl rfl rfl ?_
  refine ev_istore rfl rfl rfl rfl ?_
  dsimp only [List.set]
  refine ev_aload_n rfl rfl rfl ?_
  refine ev_iload rfl rfl rfl ?_
  refine ev_putW (l := 0) (u := 4095) hJ0 rfl b4 (by decide) (by decide) rfl rfl rfl fl_X10_301 rfl rfl rfl rfl rfl (fun h23 hJ23 k23 => ?_)
  refine ev_iload rfl rfl rfl ?_
  refine ev_if_eq rfl rfl (fun c24 => ?_) (fun c24 => ?_)
  · have b25 : B v4 0 0 := R_eqX b4 (by decide : B 0 0 0) c24
    have z26 := congrArg Int32.toInt c24
    rw [show (0 : Int32).toInt = 0 from by decide] at z26
    refine ev_iconst (v := 0) rfl rfl (by decide) ?_
    refine ev_istore rfl rfl rfl rfl ?_
    dsimp only [List.set]
    refine ev_iload rfl rfl rfl ?_
    refine ev_iconst (v := 1) rfl rfl (by decide) ?_
    refine ev_isubB (l := -1) (u := -1) rfl rfl b25 (by decide : B 1 1 1) (by decide) (by decide) (by decide) (by decide) (fun v29 b29 e29 g29 => ?_)
    have e29x := e29; rw [show (1 : Int32).toInt = 1 from by decide] at e29x
    refine ev_iload rfl rfl rfl ?_
    refine ev_iandB rfl rfl b25 (by decide) (fun v30 b30 e30 => ?_)
    refine ev_istore rfl rfl rfl rfl ?_
    dsimp only [List.set]
    refine ev_goto rfl rfl ?_
    refine ev_iload rfl rfl rfl ?_
    refine ev_if_eq rfl rfl (fun c31 => ?_) (fun c31 => absurd (D_eq (by decide : B 0 0 0) (by decide : B 0 0 0)) c31)
    have z32 := congrArg Int32.toInt c31
    rw [show (0 : Int32).toInt = 0 from by decide] at z32
    refine ev_iload rfl rfl rfl ?_
    exact ev_iret rfl rfl rfl ⟨⟨_, rfl, ⟨b19, (by have z0_ := congrArg Int32.toInt (rd_o k23 ef1 rfl); have z1_ := congrArg Int32.toInt (rd_s k23); have z_ := w_lits; have zl_ := l_lits; omega), (by have z0_ := congrArg Int32.toInt (rd_o k23 ef1 rfl); have z1_ := congrArg Int32.toInt (rd_s k23); have z_ := w_lits; have zl_ := l_lits; omega), (by rw [← hJ23.2 81 _ rfl, (rd_o k23 e3 rfl), ← e4]; exact bs_last c5 c24 ev20 (if_neg c21).symm), (by rw [← hJ23.2 81 _ rfl, (rd_o k23 e3 rfl), ← e4]; exact (by rw [(rd_s k23)]; exact (EnF.refl v4 v4)))⟩⟩, rfl, hJ23⟩
  · have b27 : B v4 1 4095 := R_neL b4 (by decide : B 0 0 0) c24 (by decide)
    have z28 := w_ne c24
    rw [show (0 : Int32).toInt = 0 from by decide] at z28
    refine ev_iconst (v := 1) rfl rfl (by decide) ?_
    refine ev_goto rfl rfl ?_
    refine ev_istore rfl rfl rfl rfl ?_
    dsimp only [List.set]
    refine ev_iload rfl rfl rfl ?_
    refine ev_iconst (v := 1) rfl rfl (by decide) ?_
    refine ev_isubB (l := 0) (u := 4094) rfl rfl b27 (by decide : B 1 1 1) (by decide) (by decide) (by decide) (by decide) (fun v33 b33 e33 g33 => ?_)
    have e33x := e33; rw [show (1 : Int32).toInt = 1 from by decide] at e33x
    refine ev_iload rfl rfl rfl ?_
    refine ev_iandC rfl rfl b33 (by decide) (fun v34 b34 e34 => ?_)
    refine ev_istore rfl rfl rfl rfl ?_
    dsimp only [List.set]
    refine ev_goto rfl rfl ?_
    have lp23_162 : ∀ (n : Nat) (w163 : Int32) (w164 : Int32) (w165 : Int32) (w166 : Int32) (h171 : Hp), B w163 0 4800 → B w164 0 4095 → B w165 1 1 → B w166 0 4800 → JW [(63, 35)] h h171 → (h171 63 3 = f1) → (h171 81 (Int32.toNatClampNeg a3) = v3) → (h171 82 (Int32.toNatClampNeg v4) = v11) → (0 ≤ w163.toInt) → (w163.toInt ≤ 192 * (24 - a1.toInt)) → (bsl h h a1.toInt a2.toInt a3 v4 4097 w164 w163 = BS h h a1.toInt a2.toInt a3 v4) → (EnF v4 v4 w164) → (EnF v4 v4 (h171 63 35)) → w164.toInt + 1 ≤ (n : Int) → EvQ mi_X10_bestSound 23 [some (.ref 63), some (.int a0), some (.int a1), some (.int a2), some (.int a3), some (.int w163), some (.int v4), some (.int w164), some (.int w165), some (.int w166)] [] (G0 L b) h171 0 0 (QI (fun (r : Int32) (z : Hp) => B r 0 4800 ∧ (0 ≤ r.toInt) ∧ (r.toInt ≤ 192 * (24 - a1.toInt)) ∧ (r = BS h h a1.toInt a2.toInt a3 (a0 &&& h 81 (Int32.toNatClampNeg a3))) ∧ (EnF (a0 &&& h 81 (Int32.toNatClampNeg a3)) (a0 &&& h 81 (Int32.toNatClampNeg a3)) (z 63 35))) [(63, 35)] (G0 L b) h) := by
      intro n
      induction n with
      | zero =>
        intro w163 w164 w165 w166 h171 b167 b168 b169 b170 hJ172 z173 z174 z175 y23_0 y23_1 u23_0 u23_1 u23_2 hm23
        exact absurd hm23 (by have z_ := b168.1; omega)
      | succ n ih23 =>
        intro w163 w164 w165 w166 h171 b167 b168 b169 b170 hJ172 z173 z174 z175 y23_0 y23_1 u23_0 u23_1 u23_2 hm23
        obtain ⟨f176, ef176⟩ : ∃ f_, h171 63 35 = f_ := ⟨_, rfl⟩
        have bf176 : B f176 0 4095 := by have z_ := hJ172.1 63 35; rw [ef176] at z_; exact z_
        have zf176 := congrArg Int32.toInt ef176
        have z177 := congrArg Int32.toInt z173
        have z178 := congrArg Int32.toInt ef176
        have c179 : EnF v4 v4 f176 := by have z_ := u23_2; rw [ef176] at z_; exact z_
        refine ev_iload rfl rfl rfl ?_
        refine ev_if_eq rfl rfl (fun c180 => absurd c180 (D_ne b169 (by decide : B 0 0 0) (by decide))) (fun c180 => ?_)
        have z181 := w_ne c180
        rw [show (0 : Int32).toInt = 0 from by decide] at z181
        refine ev_bipush (v := 16) rfl rfl (by decide) ?_
        refine ev_aload_n rfl rfl rfl ?_
        refine ev_getR (y := 83) rfl rfl fl_X10_82 rfl rfl rfl rfl ?_
        refine ev_iload rfl rfl rfl ?_
        refine ev_ialG (n := 4096) hJ172.1 b168 (by decide) (by decide) rfl rfl rfl (fun v182 b182 e182 => ?_)
        have b182k : B v182 0 12 := mb_get b182
        refine ev_imulB (l := 0) (u := 192) rfl rfl (by decide : B 16 16 16) b182k (by decide) (by decide) (by decide) (by decide) (by decide) (fun v183 b183 e183 g183 => ?_)
        rw [show (16 : Int32).toInt = 16 from by decide] at e183
        refine ev_aload_n rfl rfl rfl ?_
        refine ev_getR (y := 78) rfl rfl fl_X10_67 rfl rfl rfl rfl ?_
        refine ev_aload_n rfl rfl rfl ?_
        refine ev_iload_n rfl rfl rfl ?_
        refine ev_iconst (v := 1) rfl rfl (by decide) ?_
        refine ev_iaddV g10 rfl rfl ?_
        refine ev_iload_n rfl rfl rfl ?_
        refine ev_aload_n rfl rfl rfl ?_
        refine ev_iload rfl rfl rfl ?_
        refine ev_aload_n rfl rfl rfl ?_
        refine ev_getR (y := 82) rfl rfl fl_X10_79 rfl rfl rfl rfl ?_
        refine ev_iload rfl rfl rfl ?_
        refine ev_ialW (n := 4096) (l := (-2147483648)) (u := 2147483647) hJ172.1 b168 (by decide) (by decide) (fun _ => rfl) rfl rfl rfl (fun v184 b184 e184 => ?_)
        have z185 := congrArg Int32.toInt z173
        have z186 := congrArg Int32.toInt ef176
        refine ev_V2P rfl rfl lk_X10_297 vt_X10_then rfl rfl rfl rfl rfl (w_thenK L b h171 h hB (hJ172.2 63 2 rfl) (hJ172.2 63 3 rfl) a3 v184) (fun r187 q187 => ?_)
        obtain ⟨b187, pp187_0, pp187_1⟩ := q187
        have z188 := congrArg Int32.toInt z173
        have z189 := congrArg Int32.toInt ef176
        refine ev_V3P rfl rfl lk_X10_293 vt_X10_spot rfl rfl rfl rfl rfl (w_spotK L b h171 hJ172.1 v10 a2 r187 (b10.mono (by decide) (by decide)) p2 b187) (fun r190 q190 => ?_)
        obtain ⟨b190, pp190_0⟩ := q190
        refine ev_ialG (n := 45225) hJ172.1 b190 (by decide) (by decide) rfl rfl rfl (fun v191 b191 e191 => ?_)
        have b191z := tb_get b191 (by have z0_ := congrArg Int32.toInt z173; have z1_ := congrArg Int32.toInt ef176; have z_ := w_lits; have zl_ := l_lits; omega)
        have b191k : B v191 0 4608 := ⟨b191z.1, (by have z0_ := congrArg Int32.toInt z173; have z1_ := congrArg Int32.toInt ef176; have z_ := w_lits; have zl_ := l_lits; omega)⟩
        refine ev_iaddB (l := 0) (u := 4800) rfl rfl b183 b191k (by decide) (by decide) (by decide) (by decide) (fun v192 b192 e192 g192 => ?_)
        have ev193 : v192 = bsv h h a1.toInt a2.toInt a3 w164 := bsv_of g192 g183 e182 (hJ172.2 83 _ rfl) e191 (hJ172.2 78 _ rfl) pp190_0 e10x rfl pp187_0 e184 (hJ172.2 82 _ rfl)
        refine ev_istore rfl rfl rfl rfl ?_
        dsimp only [List.set]
        refine ev_iload rfl rfl rfl ?_
        refine ev_iload rfl rfl rfl ?_
        refine ev_icmp_le rfl rfl (fun c194 => ?_) (fun c194 => ?_)
        · have z195 := w_le c194
          refine ev_iload rfl rfl rfl ?_
          refine ev_if_eq rfl rfl (fun c199 => ?_) (fun c199 => ?_)
          · have b200 : B w164 0 0 := R_eqX b168 (by decide : B 0 0 0) c199
            have z201 := congrArg Int32.toInt c199
            rw [show (0 : Int32).toInt = 0 from by decide] at z201
            refine ev_iconst (v := 0) rfl rfl (by decide) ?_
            refine ev_istore rfl rfl rfl rfl ?_
            dsimp only [List.set]
            refine ev_iload rfl rfl rfl ?_
            refine ev_iconst (v := 1) rfl rfl (by decide) ?_
            refine ev_isubB (l := -1) (u := -1) rfl rfl b200 (by decide : B 1 1 1) (by decide) (by decide) (by decide) (by decide) (fun v204 b204 e204 g204 => ?_)
            have e204x := e204; rw [show (1 : Int32).toInt = 1 from by decide] at e204x
            refine ev_iload rfl rfl rfl ?_
            refine ev_iandB rfl rfl b27 (by decide) (fun v205 b205 e205 => ?_)
            refine ev_istore rfl rfl rfl rfl ?_
            dsimp only [List.set]
            refine ev_goto rfl rfl ?_
            refine ev_iload rfl rfl rfl ?_
            refine ev_if_eq rfl rfl (fun c206 => ?_) (fun c206 => absurd (D_eq (by decide : B 0 0 0) (by decide : B 0 0 0)) c206)
            have z207 := congrArg Int32.toInt c206
            rw [show (0 : Int32).toInt = 0 from by decide] at z207
            refine ev_iload rfl rfl rfl ?_
            exact ev_iret rfl rfl rfl ⟨⟨_, rfl, ⟨b167, (by have z0_ := congrArg Int32.toInt z173; have z1_ := congrArg Int32.toInt ef176; have z_ := w_lits; have zl_ := l_lits; omega), (by have z0_ := congrArg Int32.toInt z173; have z1_ := congrArg Int32.toInt ef176; have z_ := w_lits; have zl_ := l_lits; omega), (by rw [← hJ172.2 81 _ rfl, z174, ← e4]; exact bs_last u23_0 c199 ev193 (if_pos c194).symm), (by rw [← hJ172.2 81 _ rfl, z174, ← e4]; exact (by rw [ef176]; exact c179))⟩⟩, rfl, hJ172⟩
          · have b202 : B w164 1 4095 := R_neL b168 (by decide : B 0 0 0) c199 (by decide)
            have z203 := w_ne c199
            rw [show (0 : Int32).toInt = 0 from by decide] at z203
            refine ev_iconst (v := 1) rfl rfl (by decide) ?_
            refine ev_goto rfl rfl ?_
            refine ev_istore rfl rfl rfl rfl ?_
            dsimp only [List.set]
            refine ev_iload rfl rfl rfl ?_
            refine ev_iconst (v := 1) rfl rfl (by decide) ?_
            refine ev_isubB (l := 0) (u := 4094) rfl rfl b202 (by decide : B 1 1 1) (by decide) (by decide) (by decide) (by decide) (fun v208 b208 e208 g208 => ?_)
            have e208x := e208; rw [show (1 : Int32).toInt = 1 from by decide] at e208x
            refine ev_iload rfl rfl rfl ?_
            refine ev_iandC rfl rfl b208 (by decide) (fun v209 b209 e209 => ?_)
            refine ev_istore rfl rfl rfl rfl ?_
            dsimp only [List.set]
            refine ev_goto rfl rfl ?_
            exact (ih23 w163 v209 1 v192 h171 b167 (b209.mono (by decide) (by decide)) (by decide : B 1 1 1) b192 hJ172 z173 z174 z175 (by have z0_ := congrArg Int32.toInt z173; have z1_ := congrArg Int32.toInt ef176; have z_ := w_lits; have zl_ := l_lits; omega) (by have z0_ := congrArg Int32.toInt z173; have z1_ := congrArg Int32.toInt ef176; have z_ := w_lits; have zl_ := l_lits; omega) (bs_next (b202.mono (by decide) (by decide)) u23_0 c199 ev193 (if_pos c194).symm e209 g208) (EnF.sn2 u23_1 c199 e209 g208) (by rw [ef176]; exact c179) (bs_dec (b202.mono (by decide) (by decide)) c199 e209 g208 hm23))
        · have b196 : B v192 1 4800 := R_ltY b167 b192 (Int32.not_le.mp c194) (by decide)
          have b197 : B w163 0 4799 := R_ltX b167 b192 (Int32.not_le.mp c194) (by decide)
          have z198 := w_lt (Int32.not_le.mp c194)
          refine ev_iload rfl rfl rfl ?_
          refine ev_istore rfl rfl rfl rfl ?_
          dsimp only [List.set]
          refine ev_aload_n rfl rfl rfl ?_
          refine ev_iload rfl rfl rfl ?_
          refine ev_putW (l := 0) (u := 4095) hJ172 rfl b168 (by decide) (by decide) rfl rfl rfl fl_X10_301 rfl rfl rfl rfl rfl (fun h210 hJ210 k210 => ?_)
          refine ev_iload rfl rfl rfl ?_
          refine ev_if_eq rfl rfl (fun c211 => ?_) (fun c211 => ?_)
          · have b212 : B w164 0 0 := R_eqX b168 (by decide : B 0 0 0) c211
            have z213 := congrArg Int32.toInt c211
            rw [show (0 : Int32).toInt = 0 from by decide] at z213
            refine ev_iconst (v := 0) rfl rfl (by decide) ?_
            refine ev_istore rfl rfl rfl rfl ?_
            dsimp only [List.set]
            refine ev_iload rfl rfl rfl ?_
            refine ev_iconst (v := 1) rfl rfl (by decide) ?_
            refine ev_isubB (l := -1) (u := -1) rfl rfl b212 (by decide : B 1 1 1) (by decide) (by decide) (by decide) (by decide) (fun v216 b216 e216 g216 => ?_)
            have e216x := e216; rw [show (1 : Int32).toInt = 1 from by decide] at e216x
            refine ev_iload rfl rfl rfl ?_
            refine ev_iandB rfl rfl b27 (by decide) (fun v217 b217 e217 => ?_)
            refine ev_istore rfl rfl rfl rfl ?_
            dsimp only [List.set]
            refine ev_goto rfl rfl ?_
            refine ev_iload rfl rfl rfl ?_
            refine ev_if_eq rfl rfl (fun c218 => ?_) (fun c218 => absurd (D_eq (by decide : B 0 0 0) (by decide : B 0 0 0)) c218)
            have z219 := congrArg Int32.toInt c218
            rw [show (0 : Int32).toInt = 0 from by decide] at z219
            refine ev_iload rfl rfl rfl ?_
            exact ev_iret rfl rfl rfl ⟨⟨_, rfl, ⟨(b196.mono (by decide) (by decide)), (by have z0_ := congrArg Int32.toInt (rd_o k210 z173 rfl); have z1_ := congrArg Int32.toInt (rd_s k210); have z_ := w_lits; have zl_ := l_lits; omega), (by have z0_ := congrArg Int32.toInt (rd_o k210 z173 rfl); have z1_ := congrArg Int32.toInt (rd_s k210); have z_ := w_lits; have zl_ := l_lits; omega), (by rw [← hJ210.2 81 _ rfl, (rd_o k210 z174 rfl), ← e4]; exact bs_last u23_0 c211 ev193 (if_neg c194).symm), (by rw [← hJ210.2 81 _ rfl, (rd_o k210 z174 rfl), ← e4]; exact (by rw [(rd_s k210)]; exact u23_1))⟩⟩, rfl, hJ210⟩
          · have b214 : B w164 1 4095 := R_neL b168 (by decide : B 0 0 0) c211 (by decide)
            have z215 := w_ne c211
            rw [show (0 : Int32).toInt = 0 from by decide] at z215
            refine ev_iconst (v := 1) rfl rfl (by decide) ?_
            refine ev_goto rfl rfl ?_
            refine ev_istore rfl rfl rfl rfl ?_
            dsimp only [List.set]
            refine ev_iload rfl rfl rfl ?_
            refine ev_iconst (v := 1) rfl rfl (by decide) ?_
            refine ev_isubB (l := 0) (u := 4094) rfl rfl b214 (by decide : B 1 1 1) (by decide) (by decide) (by decide) (by decide) (fun v220 b220 e220 g220 => ?_)
            have e220x := e220; rw [show (1 : Int32).toInt = 1 from by decide] at e220x
            refine ev_iload rfl rfl rfl ?_
            refine ev_iandC rfl rfl b220 (by decide) (fun v221 b221 e221 => ?_)
            refine ev_istore rfl rfl rfl rfl ?_
            dsimp only [List.set]
            refine ev_goto rfl rfl ?_
            exact (ih23 v192 v221 1 v192 h210 (b196.mono (by decide) (by decide)) (b221.mono (by decide) (by decide)) (by decide : B 1 1 1) (b196.mono (by decide) (by decide)) hJ210 (rd_o k210 z173 rfl) (rd_o k210 z174 rfl) (rd_o k210 z175 rfl) (by have z0_ := congrArg Int32.toInt (rd_o k210 z173 rfl); have z1_ := congrArg Int32.toInt (rd_s k210); have z_ := w_lits; have zl_ := l_lits; omega) (by have z0_ := congrArg Int32.toInt (rd_o k210 z173 rfl); have z1_ := congrArg Int32.toInt (rd_s k210); have z_ := w_lits; have zl_ := l_lits; omega) (bs_next (b214.mono (by decide) (by decide)) u23_0 c211 ev193 (if_neg c194).symm e221 g220) (EnF.sn2 u23_1 c211 e221 g220) (by rw [(rd_s k210)]; exact u23_1) (bs_dec (b214.mono (by decide) (by decide)) c211 e221 g220 hm23))
    exact (lp23_162 4096 v19 v34 1 v19 h23 b19 (b34.mono (by decide) (by decide)) (by decide : B 1 1 1) b19 hJ23 (rd_o k23 ef1 rfl) (rd_o k23 e3 rfl) (rd_o k23 e11 rfl) (by have z0_ := congrArg Int32.toInt (rd_o k23 ef1 rfl); have z1_ := congrArg Int32.toInt (rd_s k23); have z_ := w_lits; have zl_ := l_lits; omega) (by have z0_ := congrArg Int32.toInt (rd_o k23 ef1 rfl); have z1_ := congrArg Int32.toInt (rd_s k23); have z_ := w_lits; have zl_ := l_lits; omega) (bs_next (b27.mono (by decide) (by decide)) c5 c24 ev20 (if_neg c21).symm e34 g33) (EnF.sn2 (EnF.refl v4 v4) c24 e34 g33) (by rw [(rd_s k23)]; exact (EnF.refl v4 v4)) (by have z_ := w_lits; omega))
