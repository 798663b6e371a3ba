set_option maxRecDepth 100000 in
set_option maxHeartbeats 4000000 in
theorem w_X8_bentAt_4 (L : Nat) (b : Bool) (h : Hp) (hB : Bx h) (a0 : Int32) (p0 : B a0 0 11) (a1 : Int32) : EvP mi_X8_bentAt [.ref 4, .int a0, .int a1] (G0 L b) h (fun r : Int32 => B r (-2147483648) 2147483647) := by
  refine EvM.of2 (lo := [some (.ref 4), some (.int a0), some (.int a1)]) pf_X8_bentAt ok_X8_bentAt rfl rfl ?_
  refine ev_aload_n rfl rfl rfl ?_
  refine ev_getR (y := 7) rfl rfl fl_X8_18 rfl rfl rfl rfl ?_
  refine ev_iload_n rfl rfl rfl ?_
  refine ev_ialW (n := 12) (l := (-2147483648)) (u := 2147483647) hB p0 (by decide) (by decide) (fun _ => rfl) rfl rfl rfl (fun v1 b1 e1 => ?_)
  refine ev_iload_n rfl rfl rfl ?_
  refine ev_bipush (v := 100) rfl rfl (by decide) ?_
  refine ev_isubA rfl rfl (fun v2 g2 => ?_)
  refine ev_imulA rfl rfl (fun v3 => ?_)
  refine ev_bipush (v := 10) rfl rfl (by decide) ?_
  refine ev_S2P rfl rfl lk_X8_46 st_J9_floorDiv_7cf53 rfl rfl (w_any (c_floorDiv (G0 L b) h v3 10 ((by decide : B 10 10 10).ne0 (by decide)))) (fun r4 q4 => ?_)
  exact ev_iret rfl rfl rfl ⟨⟨_, rfl, (B.any r4)⟩, rfl, rfl⟩

set_option maxRecDepth 100000 in
set_option maxHeartbeats 4000000 in
theorem w_X8_offAt_4 (L : Nat) (b : Bool) (h : Hp) (hB : Bx h) (a0 : Int32) (p0 : B a0 0 11) (a1 : Int32) : EvP mi_X8_offAt [.ref 4, .int a0, .int a1] (G0 L b) h (fun r : Int32 => B r (-2147483648) 2147483647) := by
  refine EvM.of2 (lo := [some (.ref 4), some (.int a0), some (.int a1)]) pf_X8_offAt ok_X8_offAt rfl rfl ?_
  refine ev_aload_n rfl rfl rfl ?_
  refine ev_getR (y := 9) rfl rfl fl_X8_25 rfl rfl rfl rfl ?_
  refine ev_iload_n rfl rfl rfl ?_
  refine ev_ialW (n := 12) (l := (-2147483648)) (u := 2147483647) hB p0 (by decide) (by decide) (fun _ => rfl) rfl rfl rfl (fun v1 b1 e1 => ?_)
  refine ev_aload_n rfl rfl rfl ?_
  refine ev_getR (y := 10) rfl rfl fl_X8_28 rfl rfl rfl rfl ?_
  refine ev_iload_n rfl rfl rfl ?_
  refine ev_ialW (n := 12) (l := (-2147483648)) (u := 2147483647) hB p0 (by decide) (by decide) (fun _ => rfl) rfl rfl rfl (fun v2 b2 e2 => ?_)
  refine ev_iaddA rfl rfl (fun v3 g3 => ?_)
  refine ev_aload_n rfl rfl rfl ?_
  refine ev_iload_n rfl rfl rfl ?_
  refine ev_iload_n rfl rfl rfl ?_
  refine ev_V2P rfl rfl lk_X8_52 vt_X8_bentAt rfl rfl rfl rfl rfl (w_X8_bentAt_4 L b h hB a0 p0 a1) (fun r4 q4 => ?_)
  refine ev_iaddA rfl rfl (fun v5 g5 => ?_)
  exact ev_iret rfl rfl rfl ⟨⟨_, rfl, (B.any v5)⟩, rfl, rfl⟩

set_option maxRecDepth 100000 in
set_option maxHeartbeats 4000000 in
theorem w_X8_strayOf_4 (L : Nat) (b : Bool) (h : Hp) (hB : Bx h) (a0 : Int32) (a1 : Int32) : EvP mi_X8_strayOf [.ref 4, .int a0, .int a1] (G0 L b) h (fun r : Int32 => B r 0 2147483647) := by
  refine EvM.of2 (lo := [some (.ref 4), some (.int a0), some (.int a1), none, none]) pf_X8_strayOf ok_X8_strayOf rfl rfl ?_
  refine ev_iconst (v := 0) rfl rfl (by decide) ?_
  refine ev_istore_n rfl rfl rfl rfl ?_
  dsimp only [List.set]
  refine ev_iconst (v := 0) rfl rfl (by decide) ?_
  refine ev_istore rfl rfl rfl rfl ?_
  dsimp only [List.set]
  have lp5_81 : ∀ (n : Nat) (w82 : Int32) (w83 : Int32), B w82 0 2147483647 → B w83 0 12 → 12 + 1 - w83.toInt ≤ (n : Int) → EvQ mi_X8_strayOf 5 [some (.ref 4), some (.int a0), some (.int a1), some (.int w82), some (.int w83)] [] (G0 L b) h 0 0 (QP (fun r : Int32 => B r 0 2147483647) (G0 L b) h) := by
    intro n
    induction n with
    | zero =>
      intro w82 w83 b84 b85 hm5
      exact absurd hm5 (L_zero b85 (by decide))
    | succ n ih5 =>
      intro w82 w83 b84 b85 hm5
      refine ev_iload rfl rfl rfl ?_
      refine ev_aload_n rfl rfl rfl ?_
      refine ev_getW (l := 0) (u := 12) hB rfl rfl rfl fl_X8_35 rfl rfl rfl (fun v86 b86 e86 => ?_)
      refine ev_icmp_ge rfl rfl (fun c87 => ?_) (fun c87 => ?_)
      · refine ev_iload_n rfl rfl rfl ?_
        exact ev_iret rfl rfl rfl ⟨⟨_, rfl, b84⟩, rfl, rfl⟩
      · have b88 : B w83 0 11 := R_ltX b85 b86 (Int32.not_le.mp c87) (by decide)
        have b89 : B v86 1 12 := R_ltY b85 b86 (Int32.not_le.mp c87) (by decide)
        refine ev_iload_n rfl rfl rfl ?_
        refine ev_iload rfl rfl rfl ?_
        refine ev_ishrA rfl rfl (fun v90 => ?_)
        refine ev_iconst (v := 1) rfl rfl (by decide) ?_
        refine ev_iandB rfl rfl (by decide : B 1 1 1) (by decide) (fun v91 b91 e91 => ?_)
        refine ev_if_eq rfl rfl (fun c92 => ?_) (fun c92 => ?_)
        · have b93 : B v91 0 0 := R_eqX b91 (by decide : B 0 0 0) c92
          refine ev_iincB (y := 1) (l := 1) (u := 12) rfl rfl rfl (by decide) rfl rfl b88 (by decide : B 1 1 1) (by decide) (by decide) (by decide) (by decide) (fun v95 b95 e95 => ?_)
          dsimp only [List.set]
          refine ev_goto rfl rfl ?_
          exact (ih5 w82 v95 b84 (b95.mono (by decide) (by decide)) (L_up hm5 (e_p1 e95 (by decide))))
        · have b94 : B v91 1 1 := R_neL b91 (by decide : B 0 0 0) c92 (by decide)
          refine ev_iload_n rfl rfl rfl ?_
          refine ev_aload_n rfl rfl rfl ?_
          refine ev_iload rfl rfl rfl ?_
          refine ev_iload_n rfl rfl rfl ?_
          refine ev_V2P rfl rfl lk_X8_55 vt_X8_offAt rfl rfl rfl rfl rfl (w_X8_offAt_4 L b h hB w83 b88 a1) (fun r96 q96 => ?_)
          refine ev_S1P rfl rfl lk_X8_58 st_J9_abs_0f7a4 rfl rfl (w_any (c_abs (G0 L b) h r96)) (fun r97 q97 => ?_)
          refine ev_S2P rfl rfl lk_X8_62 st_J9_max_7cf53 rfl rfl (w_max (l := 0) (u := 2147483647) (G0 L b) h w82 r97 b84 (B.any r97) (Or.inl (by decide)) (by decide) (by decide)) (fun r98 q98 => ?_)
          refine ev_istore_n rfl rfl rfl rfl ?_
          dsimp only [List.set]
          refine ev_iincB (y := 1) (l := 1) (u := 12) rfl rfl rfl (by decide) rfl rfl b88 (by decide : B 1 1 1) (by decide) (by decide) (by decide) (by decide) (fun v99 b99 e99 => ?_)
          dsimp only [List.set]
          refine ev_goto rfl rfl ?_
          exact (ih5 r98 v99 q98 (b99.mono (by decide) (by decide)) (L_up hm5 (e_p1 e99 (by decide))))
  exact (lp5_81 13 0 0 ((by decide : B 0 0 0).mono (by decide) (by decide)) ((by decide : B 0 0 0).mono (by decide) (by decide)) (L_init (by decide : B 0 0 0) (by decide)))

set_option maxRecDepth 100000 in
set_option maxHeartbeats 4000000 in
theorem w_X8_drawnBy_4 (L : Nat) (b : Bool) (h : Hp) (hB : Bx h) (a0 : Int32) (a1 : Int32) : EvP mi_X8_drawnBy [.ref 4, .int a0, .int a1] (G0 L b) h (fun r : Int32 => B r (-2147483648) 2147483647) := by
  refine EvM.of2 (lo := [some (.ref 4), some (.int a0), some (.int a1), none, none]) pf_X8_drawnBy ok_X8_drawnBy rfl rfl ?_
  refine ev_iconst (v := 0) rfl rfl (by decide) ?_
  refine ev_istore_n rfl rfl rfl rfl ?_
  dsimp only [List.set]
  refine ev_iconst (v := 0) rfl rfl (by decide) ?_
  refine ev_istore rfl rfl rfl rfl ?_
  dsimp only [List.set]
  have lp5_121 : ∀ (n : Nat) (w122 : Int32) (w123 : Int32), B w123 0 12 → 12 + 1 - w123.toInt ≤ (n : Int) → EvQ mi_X8_drawnBy 5 [some (.ref 4), some (.int a0), some (.int a1), some (.int w122), some (.int w123)] [] (G0 L b) h 0 0 (QP (fun r : Int32 => B r (-2147483648) 2147483647) (G0 L b) h) := by
    intro n
    induction n with
    | zero =>
      intro w122 w123 b124 hm5
      exact absurd hm5 (L_zero b124 (by decide))
    | succ n ih5 =>
      intro w122 w123 b124 hm5
      refine ev_iload rfl rfl rfl ?_
      refine ev_aload_n rfl rfl rfl ?_
      refine ev_getW (l := 0) (u := 12) hB rfl rfl rfl fl_X8_35 rfl rfl rfl (fun v125 b125 e125 => ?_)
      refine ev_icmp_ge rfl rfl (fun c126 => ?_) (fun c126 => ?_)
      · refine ev_iload_n rfl rfl rfl ?_
        exact ev_iret rfl rfl rfl ⟨⟨_, rfl, (B.any w122)⟩, rfl, rfl⟩
      · have b127 : B w123 0 11 := R_ltX b124 b125 (Int32.not_le.mp c126) (by decide)
        have b128 : B v125 1 12 := R_ltY b124 b125 (Int32.not_le.mp c126) (by decide)
        refine ev_iload_n rfl rfl rfl ?_
        refine ev_iload rfl rfl rfl ?_
        refine ev_ishrA rfl rfl (fun v129 => ?_)
        refine ev_iconst (v := 1) rfl rfl (by decide) ?_
        refine ev_iandB rfl rfl (by decide : B 1 1 1) (by decide) (fun v130 b130 e130 => ?_)
        refine ev_if_eq rfl rfl (fun c131 => ?_) (fun c131 => ?_)
        · have b132 : B v130 0 0 := R_eqX b130 (by decide : B 0 0 0) c131
          refine ev_iload_n rfl rfl rfl ?_
          refine ev_iload rfl rfl rfl ?_
          refine ev_ishrA rfl rfl (fun v134 => ?_)
          refine ev_iconst (v := 1) rfl rfl (by decide) ?_
          refine ev_iandB rfl rfl (by decide : B 1 1 1) (by decide) (fun v135 b135 e135 => ?_)
          refine ev_if_eq rfl rfl (fun c136 => ?_) (fun c136 => ?_)
          · have b137 : B v135 0 0 := R_eqX b135 (by decide : B 0 0 0) c136
            refine ev_iincB (y := 1) (l := 1) (u := 12) rfl rfl rfl (by decide) rfl rfl b127 (by decide : B 1 1 1) (by decide) (by decide) (by decide) (by decide) (fun v139 b139 e139 => ?_)
            dsimp only [List.set]
            refine ev_goto rfl rfl ?_
            exact (ih5 w122 v139 (b139.mono (by decide) (by decide)) (L_up hm5 (e_p1 e139 (by decide))))
          · have b138 : B v135 1 1 := R_neL b135 (by decide : B 0 0 0) c136 (by decide)
            refine ev_iload_n rfl rfl rfl ?_
            refine ev_aload_n rfl rfl rfl ?_
            refine ev_getR (y := 6) rfl rfl fl_X8_15 rfl rfl rfl rfl ?_
            refine ev_iload rfl rfl rfl ?_
            refine ev_ialW (n := 12) (l := (-2147483648)) (u := 2147483647) hB b127 (by decide) (by decide) (fun _ => rfl) rfl rfl rfl (fun v140 b140 e140 => ?_)
            refine ev_iconst (v := 2) rfl rfl (by decide) ?_
            refine ev_idivA (by decide : B 2 2 2) (by decide) rfl rfl (fun v141 => ?_)
            refine ev_iaddA rfl rfl (fun v142 g142 => ?_)
            refine ev_istore_n rfl rfl rfl rfl ?_
            dsimp only [List.set]
            refine ev_iincB (y := 1) (l := 1) (u := 12) rfl rfl rfl (by decide) rfl rfl b127 (by decide : B 1 1 1) (by decide) (by decide) (by decide) (by decide) (fun v143 b143 e143 => ?_)
            dsimp only [List.set]
            refine ev_goto rfl rfl ?_
            exact (ih5 v142 v143 (b143.mono (by decide) (by decide)) (L_up hm5 (e_p1 e143 (by decide))))
        · have b133 : B v130 1 1 := R_neL b130 (by decide : B 0 0 0) c131 (by decide)
          refine ev_iload_n rfl rfl rfl ?_
          refine ev_aload_n rfl rfl rfl ?_
          refine ev_getR (y := 6) rfl rfl fl_X8_15 rfl rfl rfl rfl ?_
          refine ev_iload rfl rfl rfl ?_
          refine ev_ialW (n := 12) (l := (-2147483648)) (u := 2147483647) hB b127 (by decide) (by decide) (fun _ => rfl) rfl rfl rfl (fun v144 b144 e144 => ?_)
          refine ev_iaddA rfl rfl (fun v145 g145 => ?_)
          refine ev_istore_n rfl rfl rfl rfl ?_
          dsimp only [List.set]
          refine ev_goto rfl rfl ?_
          refine ev_iincB (y := 1) (l := 1) (u := 12) rfl rfl rfl (by decide) rfl rfl b127 (by decide : B 1 1 1) (by decide) (by decide) (by decide) (by decide) (fun v146 b146 e146 => ?_)
          dsimp only [List.set]
          refine ev_goto rfl rfl ?_
          exact (ih5 v145 v146 (b146.mono (by decide) (by decide)) (L_up hm5 (e_p1 e146 (by decide))))
  exact (lp5_121 13 0 0 ((by decide : B 0 0 0).mono (by decide) (by decide)) (L_init (by decide : B 0 0 0) (by decide)))

set_option maxRecDepth 100000 in
set_option maxHeartbeats 4000000 in
theorem w_X8_exactAt_4 (L : Nat) (b : Bool) (h : Hp) (hB : Bx h) (a0 : Int32) : EvP mi_X8_exactAt [.ref 4, .int a0] (G0 L b) h (fun r : Int32 => B r (-2147483648) 2147483647) := by
  refine EvM.of2 (lo := [some (.ref 4), some (.int a0), none, none]) pf_X8_exactAt ok_X8_exactAt rfl rfl ?_
  refine ev_iconst (v := 0) rfl rfl (by decide) ?_
  refine ev_istore_n rfl rfl rfl rfl ?_
  dsimp only [List.set]
  refine ev_iconst (v := 0) rfl rfl (by decide) ?_
  refine ev_istore_n rfl rfl rfl rfl ?_
  dsimp only [List.set]
  have lp4_131 : ∀ (n : Nat) (w132 : Int32) (w133 : Int32), B w133 0 12 → 12 + 1 - w133.toInt ≤ (n : Int) → EvQ mi_X8_exactAt 4 [some (.ref 4), some (.int a0), some (.int w132), some (.int w133)] [] (G0 L b) h 0 0 (QP (fun r : Int32 => B r (-2147483648) 2147483647) (G0 L b) h) := by
    intro n
    induction n with
    | zero =>
      intro w132 w133 b134 hm4
      exact absurd hm4 (L_zero b134 (by decide))
    | succ n ih4 =>
      intro w132 w133 b134 hm4
      refine ev_iload_n rfl rfl rfl ?_
      refine ev_aload_n rfl rfl rfl ?_
      refine ev_getW (l := 0) (u := 12) hB rfl rfl rfl fl_X8_35 rfl rfl rfl (fun v135 b135 e135 => ?_)
      refine ev_icmp_ge rfl rfl (fun c136 => ?_) (fun c136 => ?_)
      · refine ev_iload_n rfl rfl rfl ?_
        exact ev_iret rfl rfl rfl ⟨⟨_, rfl, (B.any w132)⟩, rfl, rfl⟩
      · have b137 : B w133 0 11 := R_ltX b134 b135 (Int32.not_le.mp c136) (by decide)
        have b138 : B v135 1 12 := R_ltY b134 b135 (Int32.not_le.mp c136) (by decide)
        refine ev_iload_n rfl rfl rfl ?_
        refine ev_aload_n rfl rfl rfl ?_
        refine ev_iload_n rfl rfl rfl ?_
        refine ev_iload_n rfl rfl rfl ?_
        refine ev_V2P rfl rfl lk_X8_55 vt_X8_offAt rfl rfl rfl rfl rfl (w_X8_offAt_4 L b h hB w133 b137 a0) (fun r139 q139 => ?_)
        refine ev_if_ne rfl rfl (fun c140 => ?_) (fun c140 => ?_)
        · refine ev_iconst (v := 0) rfl rfl (by decide) ?_
          refine ev_iaddB (l := -2147483648) (u := 2147483647) rfl rfl (B.any w132) (by decide : B 0 0 0) (by decide) (by decide) (by decide) (by decide) (fun v142 b142 e142 g142 => ?_)
          refine ev_istore_n rfl rfl rfl rfl ?_
          dsimp only [List.set]
          refine ev_iincB (y := 1) (l := 1) (u := 12) rfl rfl rfl (by decide) rfl rfl b137 (by decide : B 1 1 1) (by decide) (by decide) (by decide) (by decide) (fun v143 b143 e143 => ?_)
          dsimp only [List.set]
          refine ev_goto rfl rfl ?_
          exact (ih4 v142 v143 (b143.mono (by decide) (by decide)) (L_up hm4 (e_p1 e143 (by decide))))
        · have b141 : B r139 0 0 := R_eqX (B.any r139) (by decide : B 0 0 0) c140
          refine ev_iconst (v := 1) rfl rfl (by decide) ?_
          refine ev_goto rfl rfl ?_
          refine ev_iaddA rfl rfl (fun v144 g144 => ?_)
          refine ev_istore_n rfl rfl rfl rfl ?_
          dsimp only [List.set]
          refine ev_iincB (y := 1) (l := 1) (u := 12) rfl rfl rfl (by decide) rfl rfl b137 (by decide : B 1 1 1) (by decide) (by decide) (by decide) (by decide) (fun v145 b145 e145 => ?_)
          dsimp only [List.set]
          refine ev_goto rfl rfl ?_
          exact (ih4 v144 v145 (b145.mono (by decide) (by decide)) (L_up hm4 (e_p1 e145 (by decide))))
  exact (lp4_131 13 0 0 ((by decide : B 0 0 0).mono (by decide) (by decide)) (L_init (by decide : B 0 0 0) (by decide)))

set_option maxRecDepth 100000 in
set_option maxHeartbeats 4000000 in
theorem w_X8_cracked_4 (L : Nat) (b : Bool) (h : Hp) (hB : Bx h)  : EvP mi_X8_cracked [.ref 4] (G0 L b) h (fun r : Int32 => B r (-2147483648) 2147483647) := by
  refine EvM.of2 (lo := [some (.ref 4), none, none]) pf_X8_cracked ok_X8_cracked rfl rfl ?_
  refine ev_iconst (v := 0) rfl rfl (by decide) ?_
  refine ev_istore_n rfl rfl rfl rfl ?_
  dsimp only [List.set]
  refine ev_iconst (v := 0) rfl rfl (by decide) ?_
  refine ev_istore_n rfl rfl rfl rfl ?_
  dsimp only [List.set]
  have lp4_131 : ∀ (n : Nat) (w132 : Int32) (w133 : Int32), B w133 0 12 → 12 + 1 - w133.toInt ≤ (n : Int) → EvQ mi_X8_cracked 4 [some (.ref 4), some (.int w132), some (.int w133)] [] (G0 L b) h 0 0 (QP (fun r : Int32 => B r (-2147483648) 2147483647) (G0 L b) h) := by
    intro n
    induction n with
    | zero =>
      intro w132 w133 b134 hm4
      exact absurd hm4 (L_zero b134 (by decide))
    | succ n ih4 =>
      intro w132 w133 b134 hm4
      refine ev_iload_n rfl rfl rfl ?_
      refine ev_aload_n rfl rfl rfl ?_
      refine ev_getW (l := 0) (u := 12) hB rfl rfl rfl fl_X8_35 rfl rfl rfl (fun v135 b135 e135 => ?_)
      refine ev_icmp_ge rfl rfl (fun c136 => ?_) (fun c136 => ?_)
      · refine ev_iload_n rfl rfl rfl ?_
        exact ev_iret rfl rfl rfl ⟨⟨_, rfl, (B.any w132)⟩, rfl, rfl⟩
      · have b137 : B w133 0 11 := R_ltX b134 b135 (Int32.not_le.mp c136) (by decide)
        have b138 : B v135 1 12 := R_ltY b134 b135 (Int32.not_le.mp c136) (by decide)
        refine ev_iload_n rfl rfl rfl ?_
        refine ev_aload_n rfl rfl rfl ?_
        refine ev_getR (y := 10) rfl rfl fl_X8_28 rfl rfl rfl rfl ?_
        refine ev_iload_n rfl rfl rfl ?_
        refine ev_ialW (n := 12) (l := (-2147483648)) (u := 2147483647) hB b137 (by decide) (by decide) (fun _ => rfl) rfl rfl rfl (fun v139 b139 e139 => ?_)
        refine ev_if_eq rfl rfl (fun c140 => ?_) (fun c140 => ?_)
        · have b141 : B v139 0 0 := R_eqX (B.any v139) (by decide : B 0 0 0) c140
          refine ev_iconst (v := 0) rfl rfl (by decide) ?_
          refine ev_iaddB (l := -2147483648) (u := 2147483647) rfl rfl (B.any w132) (by decide : B 0 0 0) (by decide) (by decide) (by decide) (by decide) (fun v142 b142 e142 g142 => ?_)
          refine ev_istore_n rfl rfl rfl rfl ?_
          dsimp only [List.set]
          refine ev_iincB (y := 1) (l := 1) (u := 12) rfl rfl rfl (by decide) rfl rfl b137 (by decide : B 1 1 1) (by decide) (by decide) (by decide) (by decide) (fun v143 b143 e143 => ?_)
          dsimp only [List.set]
          refine ev_goto rfl rfl ?_
          exact (ih4 v142 v143 (b143.mono (by decide) (by decide)) (L_up hm4 (e_p1 e143 (by decide))))
        · refine ev_iconst (v := 1) rfl rfl (by decide) ?_
          refine ev_goto rfl rfl ?_
          refine ev_iaddA rfl rfl (fun v144 g144 => ?_)
          refine ev_istore_n rfl rfl rfl rfl ?_
          dsimp only [List.set]
          refine ev_iincB (y := 1) (l := 1) (u := 12) rfl rfl rfl (by decide) rfl rfl b137 (by decide : B 1 1 1) (by decide) (by decide) (by decide) (by decide) (fun v145 b145 e145 => ?_)
          dsimp only [List.set]
          refine ev_goto rfl rfl ?_
          exact (ih4 v144 v145 (b145.mono (by decide) (by decide)) (L_up hm4 (e_p1 e145 (by decide))))
  exact (lp4_131 13 0 0 ((by decide : B 0 0 0).mono (by decide) (by decide)) (L_init (by decide : B 0 0 0) (by decide)))

set_option maxRecDepth 100000 in
set_option maxHeartbeats 4000000 in
theorem w_X8_bringNear_4 (L : Nat) (b : Bool) (h : Hp) (hB : Bx h) (a0 : Int32) : EvN mi_X8_bringNear [.ref 4, .int a0] (G0 L b) h [(9, 999)] := by
  refine EvM.of2 (lo := [some (.ref 4), some (.int a0), none, none]) pf_X8_bringNear ok_X8_bringNear rfl rfl ?_
  have hJ0 : JW [(9, 999)] h h := JW.refl hB
  refine ev_iconst (v := 0) rfl rfl (by decide) ?_
  refine ev_istore_n rfl rfl rfl rfl ?_
  dsimp only [List.set]
  have lp2_86 : ∀ (n : Nat) (w87 : Int32) (h89 : Hp), B w87 0 12 → JW [(9, 999)] h h89 → 12 + 1 - w87.toInt ≤ (n : Int) → EvQ mi_X8_bringNear 2 [some (.ref 4), some (.int a0), some (.int w87), none] [] (G0 L b) h89 0 0 (QN [(9, 999)] (G0 L b) h) := by
    intro n
    induction n with
    | zero =>
      intro w87 h89 b88 hJ90 hm2
      exact absurd hm2 (L_zero b88 (by decide))
    | succ n ih2 =>
      intro w87 h89 b88 hJ90 hm2
      refine ev_iload_n rfl rfl rfl ?_
      refine ev_aload_n rfl rfl rfl ?_
      refine ev_getW (l := 0) (u := 12) hJ90.1 rfl rfl rfl fl_X8_35 rfl rfl rfl (fun v91 b91 e91 => ?_)
      refine ev_icmp_ge rfl rfl (fun c92 => ?_) (fun c92 => ?_)
      · exact ev_vret rfl rfl trivial ⟨rfl, rfl, hJ90⟩
      · have b93 : B w87 0 11 := R_ltX b88 b91 (Int32.not_le.mp c92) (by decide)
        have b94 : B v91 1 12 := R_ltY b88 b91 (Int32.not_le.mp c92) (by decide)
        refine ev_aload_n rfl rfl rfl ?_
        refine ev_getR (y := 8) rfl rfl fl_X8_21 rfl rfl rfl rfl ?_
        refine ev_iload_n rfl rfl rfl ?_
        refine ev_zalW (n := 12) (l := (-2147483648)) (u := 2147483647) hJ90.1 b93 (by decide) (by decide) (fun _ => rfl) rfl rfl rfl (fun v95 b95 e95 => ?_)
        refine ev_if_ne rfl rfl (fun c96 => ?_) (fun c96 => ?_)
        · refine ev_iincB (y := 1) (l := 1) (u := 12) rfl rfl rfl (by decide) rfl rfl b93 (by decide : B 1 1 1) (by decide) (by decide) (by decide) (by decide) (fun v98 b98 e98 => ?_)
          dsimp only [List.set]
          refine ev_goto rfl rfl ?_
          exact (ih2 v98 h89 (b98.mono (by decide) (by decide)) hJ90 (L_up hm2 (e_p1 e98 (by decide))))
        · have b97 : B v95 0 0 := R_eqX (B.any v95) (by decide : B 0 0 0) c96
          refine ev_aload_n rfl rfl rfl ?_
          refine ev_getR (y := 10) rfl rfl fl_X8_28 rfl rfl rfl rfl ?_
          refine ev_iload_n rfl rfl rfl ?_
          refine ev_ialW (n := 12) (l := (-2147483648)) (u := 2147483647) hJ90.1 b93 (by decide) (by decide) (fun _ => rfl) rfl rfl rfl (fun v99 b99 e99 => ?_)
          refine ev_aload_n rfl rfl rfl ?_
          refine ev_iload_n rfl rfl rfl ?_
          refine ev_iload_n rfl rfl rfl ?_
          refine ev_V2P rfl rfl lk_X8_52 vt_X8_bentAt rfl rfl rfl rfl rfl (w_X8_bentAt_4 L b h89 hJ90.1 w87 b93 a0) (fun r100 q100 => ?_)
          refine ev_iaddA rfl rfl (fun v101 g101 => ?_)
          refine ev_inegA rfl rfl (fun v102 => ?_)
          refine ev_istore_n rfl rfl rfl rfl ?_
          dsimp only [List.set]
          refine ev_aload_n rfl rfl rfl ?_
          refine ev_getR (y := 9) rfl rfl fl_X8_25 rfl rfl rfl rfl ?_
          refine ev_iload_n rfl rfl rfl ?_
          refine ev_bipush (v := (-100)) rfl rfl (by decide) ?_
          refine ev_bipush (v := 100) rfl rfl (by decide) ?_
          refine ev_iload_n rfl rfl rfl ?_
          refine ev_S2P rfl rfl lk_X8_65 st_J9_min_7cf53 rfl rfl (w_min (l := (-2147483648)) (u := 100) (G0 L b) h89 100 v102 (by decide : B 100 100 100) (B.any v102) (by decide) (by decide) (Or.inl (by decide))) (fun r103 q103 => ?_)
          refine ev_S2P rfl rfl lk_X8_62 st_J9_max_7cf53 rfl rfl (w_max (l := (-100)) (u := 100) (G0 L b) h89 (-100) r103 (by decide : B (-100) (-100) (-100)) q103 (Or.inl (by decide)) (by decide) (by decide)) (fun r104 q104 => ?_)
          refine ev_iasW (n := 12) (l := (-2147483648)) (u := 2147483647) hJ90 b93 (by decide) (by decide) (fun _ => rfl) q104 (by decide) (by decide) (fun _ => rfl) rfl rfl rfl rfl (fun h105 hJ105 k105 => ?_)
          refine ev_iincB (y := 1) (l := 1) (u := 12) rfl rfl rfl (by decide) rfl rfl b93 (by decide : B 1 1 1) (by decide) (by decide) (by decide) (by decide) (fun v106 b106 e106 => ?_)
          dsimp only [List.set]
          refine ev_goto rfl rfl ?_
          exact (EvQ.drop 3 (ih2 v106 h105 (b106.mono (by decide) (by decide)) hJ105 (L_up hm2 (e_p1 e106 (by decide)))))
  exact (lp2_86 13 0 h ((by decide : B 0 0 0).mono (by decide) (by decide)) hJ0 (L_init (by decide : B 0 0 0) (by decide)))

set_option maxRecDepth 100000 in
set_option maxHeartbeats 4000000 in
theorem w_X8_all_4 (L : Nat) (b : Bool) (h : Hp) (hB : Bx h)  : EvP mi_X8_all [.ref 4] (G0 L b) h (fun r : Int32 => B r (-2147483648) 2147483647) := by
  refine EvM.of2 (lo := [some (.ref 4)]) pf_X8_all ok_X8_all rfl rfl ?_
  refine ev_iconst (v := 1) rfl rfl (by decide) ?_
  refine ev_aload_n rfl rfl rfl ?_
  refine ev_getW (l := 0) (u := 12) hB rfl rfl rfl fl_X8_35 rfl rfl rfl (fun v1 b1 e1 => ?_)
  refine ev_ishlA rfl rfl (fun v2 => ?_)
  refine ev_iconst (v := 1) rfl rfl (by decide) ?_
  refine ev_isubA rfl rfl (fun v3 g3 => ?_)
  exact ev_iret rfl rfl rfl ⟨⟨_, rfl, (B.any v3)⟩, rfl, rfl⟩

set_option maxRecDepth 100000 in
set_option maxHeartbeats 4000000 in
theorem w_X8_hasAll_4 (L : Nat) (b : Bool) (h : Hp) (hB : Bx h) (a0 : Int32) : EvP mi_X8_hasAll [.ref 4, .int a0] (G0 L b) h (fun r : Int32 => B r 0 1) := by
  refine EvM.of2 (lo := [some (.ref 4), some (.int a0)]) pf_X8_hasAll ok_X8_hasAll rfl rfl ?_
  refine ev_iload_n rfl rfl rfl ?_
  refine ev_aload_n rfl rfl rfl ?_
  refine ev_V0P rfl rfl lk_X8_42 vt_X8_all rfl rfl rfl rfl rfl (w_X8_all_4 L b h hB ) (fun r1 q1 => ?_)
  refine ev_iconst (v := (-1)) rfl rfl (by decide) ?_
  refine ev_ixorA rfl rfl (fun v2 => ?_)
  refine ev_iandA rfl rfl (fun v3 => ?_)
  refine ev_if_ne rfl rfl (fun c4 => ?_) (fun c4 => ?_)
  · refine ev_iconst (v := 0) rfl rfl (by decide) ?_
    exact ev_iret rfl rfl rfl ⟨⟨_, rfl, ((by decide : B 0 0 0).mono (by decide) (by decide))⟩, rfl, rfl⟩
  · have b5 : B v3 0 0 := R_eqX (B.any v3) (by decide : B 0 0 0) c4
    refine ev_iconst (v := 1) rfl rfl (by decide) ?_
    refine ev_goto rfl rfl ?_
    exact ev_iret rfl rfl rfl ⟨⟨_, rfl, ((by decide : B 1 1 1).mono (by decide) (by decide))⟩, rfl, rfl⟩

set_option maxRecDepth 100000 in
set_option maxHeartbeats 4000000 in
theorem w_X8_add_4 (L : Nat) (b : Bool) (h : Hp) (hB : Bx h) (a0 : Int32) (a1 : Int32) (a2 : Int32) (a3 : Int32) (p3 : B a3 0 1) : EvJ mi_X8_add [.ref 4, .int a0, .int a1, .int a2, .int a3] (G0 L b) h (fun r : Int32 => B r (-3) 11) [(4, 7), (5, 999), (6, 999), (7, 999), (8, 999)] := by
  refine EvM.of2 (lo := [some (.ref 4), some (.int a0), some (.int a1), some (.int a2), some (.int a3)]) pf_X8_add ok_X8_add rfl rfl ?_
  have hJ0 : JW [(4, 7), (5, 999), (6, 999), (7, 999), (8, 999)] h h := JW.refl hB
  refine ev_iload_n rfl rfl rfl ?_
  refine ev_iconst (v := 0) rfl rfl (by decide) ?_
  refine ev_sipush (v := 3600) rfl rfl (by decide) ?_
  refine ev_SN3P rfl rfl lk_X8_38 st_X9_isWithin rfl rfl (w_isWithin (G0 L b) h a0 0 3600 (by decide : B 0 0 0) (by decide : B 3600 3600 3600)) (fun r1 q1 => ?_)
  obtain ⟨b1, p1_0⟩ := q1
  refine ev_if_eq rfl rfl (fun c2 => ?_) (fun c2 => ?_)
  · have b3 : B r1 0 0 := R_eqX b1 (by decide : B 0 0 0) c2
    refine ev_iconst (v := (-1)) rfl rfl (by decide) ?_
    exact ev_iret rfl rfl rfl ⟨⟨_, rfl, ((by decide : B (-1) (-1) (-1)).mono (by decide) (by decide))⟩, rfl, hJ0⟩
  · have b4 : B r1 1 1 := R_neL b1 (by decide : B 0 0 0) c2 (by decide)
    have b5 : B a0 0 3600 := p1_0 c2
    refine ev_iload_n rfl rfl rfl ?_
    refine ev_iconst (v := 1) rfl rfl (by decide) ?_
    refine ev_bipush (v := 9) rfl rfl (by decide) ?_
    refine ev_SN3P rfl rfl lk_X8_38 st_X9_isWithin rfl rfl (w_isWithin (G0 L b) h a1 1 9 (by decide : B 1 1 1) (by decide : B 9 9 9)) (fun r6 q6 => ?_)
    obtain ⟨b6, p6_0⟩ := q6
    refine ev_if_eq rfl rfl (fun c7 => ?_) (fun c7 => ?_)
    · have b8 : B r6 0 0 := R_eqX b6 (by decide : B 0 0 0) c7
      refine ev_iconst (v := (-1)) rfl rfl (by decide) ?_
      exact ev_iret rfl rfl rfl ⟨⟨_, rfl, ((by decide : B (-1) (-1) (-1)).mono (by decide) (by decide))⟩, rfl, hJ0⟩
    · have b9 : B r6 1 1 := R_neL b6 (by decide : B 0 0 0) c7 (by decide)
      have b10 : B a1 1 9 := p6_0 c7
      refine ev_iload_n rfl rfl rfl ?_
      refine ev_iconst (v := 0) rfl rfl (by decide) ?_
      refine ev_bipush (v := 20) rfl rfl (by decide) ?_
      refine ev_SN3P rfl rfl lk_X8_38 st_X9_isWithin rfl rfl (w_isWithin (G0 L b) h a2 0 20 (by decide : B 0 0 0) (by decide : B 20 20 20)) (fun r11 q11 => ?_)
      obtain ⟨b11, p11_0⟩ := q11
      refine ev_if_ne rfl rfl (fun c12 => ?_) (fun c12 => ?_)
      · have b13 : B r11 1 1 := R_neL b11 (by decide : B 0 0 0) c12 (by decide)
        have b14 : B a2 0 20 := p11_0 c12
        refine ev_aload_n rfl rfl rfl ?_
        refine ev_getW (l := 0) (u := 12) hJ0.1 rfl rfl rfl fl_X8_35 rfl rfl rfl (fun v16 b16 e16 => ?_)
        refine ev_bipush (v := 12) rfl rfl (by decide) ?_
        refine ev_icmp_lt rfl rfl (fun c17 => ?_) (fun c17 => ?_)
        · have b18 : B v16 0 11 := R_ltX b16 (by decide : B 12 12 12) c17 (by decide)
          refine ev_aload_n rfl rfl rfl ?_
          refine ev_getR (y := 5) rfl rfl fl_X8_9 rfl rfl rfl rfl ?_
          refine ev_aload_n rfl rfl rfl ?_
          refine ev_getV (v := v16) rfl rfl fl_X8_35 rfl rfl rfl e16 ?_
          refine ev_iload_n rfl rfl rfl ?_
          refine ev_iasW (n := 12) (l := (-2147483648)) (u := 2147483647) hJ0 b18 (by decide) (by decide) (fun _ => rfl) b5 (by decide) (by decide) (fun _ => rfl) rfl rfl rfl rfl (fun h20 hJ20 k20 => ?_)
          refine ev_aload_n rfl rfl rfl ?_
          refine ev_getR (y := 6) rfl rfl fl_X8_15 rfl rfl rfl rfl ?_
          refine ev_aload_n rfl rfl rfl ?_
          refine ev_getV (v := v16) rfl rfl fl_X8_35 rfl rfl rfl (rd_a k20 e16 rfl) ?_
          refine ev_iload_n rfl rfl rfl ?_
          refine ev_iasW (n := 12) (l := (-2147483648)) (u := 2147483647) hJ20 b18 (by decide) (by decide) (fun _ => rfl) b10 (by decide) (by decide) (fun _ => rfl) rfl rfl rfl rfl (fun h21 hJ21 k21 => ?_)
          refine ev_aload_n rfl rfl rfl ?_
          refine ev_getR (y := 7) rfl rfl fl_X8_18 rfl rfl rfl rfl ?_
          refine ev_aload_n rfl rfl rfl ?_
          refine ev_getV (v := v16) rfl rfl fl_X8_35 rfl rfl rfl (rd_a k21 (rd_a k20 e16 rfl) rfl) ?_
          refine ev_iload_n rfl rfl rfl ?_
          refine ev_iasW (n := 12) (l := (-2147483648)) (u := 2147483647) hJ21 b18 (by decide) (by decide) (fun _ => rfl) b14 (by decide) (by decide) (fun _ => rfl) rfl rfl rfl rfl (fun h22 hJ22 k22 => ?_)
          refine ev_aload_n rfl rfl rfl ?_
          refine ev_getR (y := 8) rfl rfl fl_X8_21 rfl rfl rfl rfl ?_
          refine ev_aload_n rfl rfl rfl ?_
          refine ev_getV (v := v16) rfl rfl fl_X8_35 rfl rfl rfl (rd_a k22 (rd_a k21 (rd_a k20 e16 rfl) rfl) rfl) ?_
          refine ev_iload rfl rfl rfl ?_
          refine ev_zasW (n := 12) (l := (-2147483648)) (u := 2147483647) hJ22 b18 (by decide) (by decide) (fun _ => rfl) p3 (by decide) (by decide) (fun _ => rfl) rfl rfl rfl rfl (fun h23 hJ23 k23 => ?_)
          refine ev_aload_n rfl rfl rfl ?_
          refine ev_dup rfl rfl rfl ?_
          refine ev_getV (v := v16) rfl rfl fl_X8_35 rfl rfl rfl (rd_a k23 (rd_a k22 (rd_a k21 (rd_a k20 e16 rfl) rfl) rfl) rfl) ?_
          refine ev_iconst (v := 1) rfl rfl (by decide) ?_
          refine ev_iaddB (l := 1) (u := 12) rfl rfl b18 (by decide : B 1 1 1) (by decide) (by decide) (by decide) (by decide) (fun v24 b24 e24 g24 => ?_)
          refine ev_putW (l := 0) (u := 12) hJ23 rfl b24 (by decide) (by decide) rfl rfl rfl fl_X8_35 rfl rfl rfl rfl rfl (fun h25 hJ25 k25 => ?_)
          refine ev_aload_n rfl rfl rfl ?_
          refine ev_getV (v := v24) rfl rfl fl_X8_35 rfl rfl rfl (rd_s k25) ?_
          refine ev_iconst (v := 1) rfl rfl (by decide) ?_
          refine ev_isubB (l := 0) (u := 11) rfl rfl b24 (by decide : B 1 1 1) (by decide) (by decide) (by decide) (by decide) (fun v26 b26 e26 g26 => ?_)
          exact ev_iret rfl rfl rfl ⟨⟨_, rfl, (b26.mono (by decide) (by decide))⟩, rfl, hJ25⟩
        · have b19 : B v16 12 12 := R_leY (by decide : B 12 12 12) b16 (Int32.not_lt.mp c17) (by decide)
          refine ev_bipush (v := (-3)) rfl rfl (by decide) ?_
          exact ev_iret rfl rfl rfl ⟨⟨_, rfl, ((by decide : B (-3) (-3) (-3)).mono (by decide) (by decide))⟩, rfl, hJ0⟩
      · have b15 : B r11 0 0 := R_eqX b11 (by decide : B 0 0 0) c12
        refine ev_iconst (v := (-1)) rfl rfl (by decide) ?_
        exact ev_iret rfl rfl rfl ⟨⟨_, rfl, ((by decide : B (-1) (-1) (-1)).mono (by decide) (by decide))⟩, rfl, hJ0⟩

set_option maxRecDepth 100000 in
set_option maxHeartbeats 4000000 in
theorem w_X3_way_50 (L : Nat) (b : Bool) (h : Hp) (hB : Bx h) (a0 : Int32) (a1 : Int32) : EvP mi_X3_way [.ref 50, .int a0, .int a1] (G0 L b) h (fun r : Int32 => B r (-2147483648) 2147483647) := by
  refine EvM.of2 (lo := [some (.ref 50), some (.int a0), some (.int a1), none, none, none, none]) pf_X3_way ok_X3_way rfl rfl ?_
  refine ev_iload_n rfl rfl rfl ?_
  refine ev_iload_n rfl rfl rfl ?_
  refine ev_S2P rfl rfl lk_X3_46 st_J9_min_7cf53 rfl rfl (w_min (l := (-2147483648)) (u := 2147483647) (G0 L b) h a0 a1 (B.any a0) (B.any a1) (by decide) (by decide) (Or.inl (by decide))) (fun r1 q1 => ?_)
  refine ev_istore_n rfl rfl rfl rfl ?_
  dsimp only [List.set]
  refine ev_iload_n rfl rfl rfl ?_
  refine ev_iload_n rfl rfl rfl ?_
  refine ev_S2P rfl rfl lk_X3_52 st_J9_max_7cf53 rfl rfl (w_max (l := (-2147483648)) (u := 2147483647) (G0 L b) h a0 a1 (B.any a0) (B.any a1) (Or.inl (by decide)) (by decide) (by decide)) (fun r2 q2 => ?_)
  refine ev_istore rfl rfl rfl rfl ?_
  dsimp only [List.set]
  refine ev_iload rfl rfl rfl ?_
  refine ev_iload_n rfl rfl rfl ?_
  refine ev_isubA rfl rfl (fun v3 g3 => ?_)
  refine ev_istore rfl rfl rfl rfl ?_
  dsimp only [List.set]
  refine ev_iconst (v := 0) rfl rfl (by decide) ?_
  refine ev_istore rfl rfl rfl rfl ?_
  dsimp only [List.set]
  have lp22_112 : ∀ (n : Nat) (w113 : Int32) (w114 : Int32), B w114 0 6 → 6 + 1 - w114.toInt ≤ (n : Int) → EvQ mi_X3_way 22 [some (.ref 50), some (.int a0), some (.int a1), some (.int r1), some (.int r2), some (.int w113), some (.int w114)] [] (G0 L b) h 0 0 (QP (fun r : Int32 => B r (-2147483648) 2147483647) (G0 L b) h) := by
    intro n
    induction n with
    | zero =>
      intro w113 w114 b115 hm22
      exact absurd hm22 (L_zero b115 (by decide))
    | succ n ih22 =>
      intro w113 w114 b115 hm22
      refine ev_iload rfl rfl rfl ?_
      refine ev_aload_n rfl rfl rfl ?_
      refine ev_getW (l := 0) (u := 6) hB rfl rfl rfl fl_X3_28 rfl rfl rfl (fun v116 b116 e116 => ?_)
      refine ev_icmp_ge rfl rfl (fun c117 => ?_) (fun c117 => ?_)
      · refine ev_iload rfl rfl rfl ?_
        exact ev_iret rfl rfl rfl ⟨⟨_, rfl, (B.any w113)⟩, rfl, rfl⟩
      · have b118 : B w114 0 5 := R_ltX b115 b116 (Int32.not_le.mp c117) (by decide)
        have b119 : B v116 1 6 := R_ltY b115 b116 (Int32.not_le.mp c117) (by decide)
        refine ev_iload_n rfl rfl rfl ?_
        refine ev_aload_n rfl rfl rfl ?_
        refine ev_getR (y := 53) rfl rfl fl_X3_22 rfl rfl rfl rfl ?_
        refine ev_iload rfl rfl rfl ?_
        refine ev_ialW (n := 6) (l := (-2147483648)) (u := 2147483647) hB b118 (by decide) (by decide) (fun _ => rfl) rfl rfl rfl (fun v120 b120 e120 => ?_)
        refine ev_icmp_ge rfl rfl (fun c121 => ?_) (fun c121 => ?_)
        · refine ev_iincB (y := 1) (l := 1) (u := 6) rfl rfl rfl (by decide) rfl rfl b118 (by decide : B 1 1 1) (by decide) (by decide) (by decide) (by decide) (fun v124 b124 e124 => ?_)
          dsimp only [List.set]
          refine ev_goto rfl rfl ?_
          exact (ih22 w113 v124 (b124.mono (by decide) (by decide)) (L_up hm22 (e_p1 e124 (by decide))))
        · have b122 : B r1 (-2147483648) 2147483646 := R_ltX (B.any r1) (B.any v120) (Int32.not_le.mp c121) (by decide)
          have b123 : B v120 (-2147483647) 2147483647 := R_ltY (B.any r1) (B.any v120) (Int32.not_le.mp c121) (by decide)
          refine ev_aload_n rfl rfl rfl ?_
          refine ev_getR (y := 53) rfl rfl fl_X3_22 rfl rfl rfl rfl ?_
          refine ev_iload rfl rfl rfl ?_
          refine ev_iadV (v := v120) rfl rfl rfl (b118.vp (by decide) (by decide)) rfl e120 ?_
          refine ev_iload rfl rfl rfl ?_
          refine ev_icmp_gt rfl rfl (fun c125 => ?_) (fun c125 => ?_)
          · have b126 : B r2 (-2147483648) 2147483646 := R_ltX (B.any r2) b123 c125 (by decide)
            refine ev_iincB (y := 1) (l := 1) (u := 6) rfl rfl rfl (by decide) rfl rfl b118 (by decide : B 1 1 1) (by decide) (by decide) (by decide) (by decide) (fun v128 b128 e128 => ?_)
            dsimp only [List.set]
            refine ev_goto rfl rfl ?_
            exact (ih22 w113 v128 (b128.mono (by decide) (by decide)) (L_up hm22 (e_p1 e128 (by decide))))
          · have b127 : B r2 (-2147483647) 2147483647 := R_leY b123 (B.any r2) (Int32.not_lt.mp c125) (by decide)
            refine ev_iload rfl rfl rfl ?_
            refine ev_aload_n rfl rfl rfl ?_
            refine ev_getR (y := 54) rfl rfl fl_X3_25 rfl rfl rfl rfl ?_
            refine ev_iload rfl rfl rfl ?_
            refine ev_ialW (n := 6) (l := (-2147483648)) (u := 2147483647) hB b118 (by decide) (by decide) (fun _ => rfl) rfl rfl rfl (fun v129 b129 e129 => ?_)
            refine ev_iaddA rfl rfl (fun v130 g130 => ?_)
            refine ev_istore rfl rfl rfl rfl ?_
            dsimp only [List.set]
            refine ev_iincB (y := 1) (l := 1) (u := 6) rfl rfl rfl (by decide) rfl rfl b118 (by decide : B 1 1 1) (by decide) (by decide) (by decide) (by decide) (fun v131 b131 e131 => ?_)
            dsimp only [List.set]
            refine ev_goto rfl rfl ?_
            exact (ih22 v130 v131 (b131.mono (by decide) (by decide)) (L_up hm22 (e_p1 e131 (by decide))))
  exact (lp22_112 7 v3 0 ((by decide : B 0 0 0).mono (by decide) (by decide)) (L_init (by decide : B 0 0 0) (by decide)))

set_option maxRecDepth 100000 in
set_option maxHeartbeats 4000000 in
theorem w_X3_firstHeard_50 (L : Nat) (b : Bool) (h : Hp) (hB : Bx h) (a0 : Int32) (p0 : B a0 0 3) (a1 : Int32) : EvP mi_X3_firstHeard [.ref 50, .int a0, .int a1] (G0 L b) h (fun r : Int32 => B r (-2147483648) 2147483647) := by
  refine EvM.of2 (lo := [some (.ref 50), some (.int a0), some (.int a1)]) pf_X3_firstHeard ok_X3_firstHeard rfl rfl ?_
  refine ev_aload_n rfl rfl rfl ?_
  refine ev_getR (y := 52) rfl rfl fl_X3_15 rfl rfl rfl rfl ?_
  refine ev_iload_n rfl rfl rfl ?_
  refine ev_ialW (n := 4) (l := (-2147483648)) (u := 2147483647) hB p0 (by decide) (by decide) (fun _ => rfl) rfl rfl rfl (fun v1 b1 e1 => ?_)
  refine ev_aload_n rfl rfl rfl ?_
  refine ev_aload_n rfl rfl rfl ?_
  refine ev_getR (y := 51) rfl rfl fl_X3_11 rfl rfl rfl rfl ?_
  refine ev_iload_n rfl rfl rfl ?_
  refine ev_ialW (n := 4) (l := (-2147483648)) (u := 2147483647) hB p0 (by decide) (by decide) (fun _ => rfl) rfl rfl rfl (fun v2 b2 e2 => ?_)
  refine ev_iload_n rfl rfl rfl ?_
  refine ev_V2P rfl rfl lk_X3_55 vt_X3_way rfl rfl rfl rfl rfl (w_X3_way_50 L b h hB v2 a1) (fun r3 q3 => ?_)
  refine ev_iconst (v := 1) rfl rfl (by decide) ?_
  refine ev_aload_n rfl rfl rfl ?_
  refine ev_getW (l := (-2147483648)) (u := 2147483647) hB rfl rfl rfl fl_X3_31 rfl rfl rfl (fun v4 b4 e4 => ?_)
  refine ev_S2P rfl rfl lk_X3_52 st_J9_max_7cf53 rfl rfl (w_max (l := 1) (u := 2147483647) (G0 L b) h 1 v4 (by decide : B 1 1 1) (B.any v4) (Or.inl (by decide)) (by decide) (by decide)) (fun r5 q5 => ?_)
  refine ev_idivA q5 (by decide) rfl rfl (fun v6 => ?_)
  refine ev_iaddA rfl rfl (fun v7 g7 => ?_)
  exact ev_iret rfl rfl rfl ⟨⟨_, rfl, (B.any v7)⟩, rfl, rfl⟩

set_option maxRecDepth 100000 in
set_option maxHeartbeats 4000000 in
theorem w_X3_walk_50 (L : Nat) (b : Bool) (h : Hp) (hB : Bx h) (a0 : Int32) (p0 : B a0 0 3) (a1 : Int32) (p1 : B a1 0 3) : EvN mi_X3_walk [.ref 50, .int a0, .int a1] (G0 L b) h [(50, 7), (50, 8), (50, 9), (50, 10)] := by
  refine EvM.of2 (lo := [some (.ref 50), some (.int a0), some (.int a1), none, none]) pf_X3_walk ok_X3_walk rfl rfl ?_
  have hJ0 : JW [(50, 7), (50, 8), (50, 9), (50, 10)] h h := JW.refl hB
  refine ev_aload_n rfl rfl rfl ?_
  refine ev_iconst (v := 0) rfl rfl (by decide) ?_
  refine ev_putW (l := (-2147483648)) (u := 2147483647) hJ0 rfl (by decide : B 0 0 0) (by decide) (by decide) rfl rfl rfl fl_X3_34 rfl rfl rfl rfl rfl (fun h1 hJ1 k1 => ?_)
  refine ev_aload_n rfl rfl rfl ?_
  refine ev_bipush (v := (-4)) rfl rfl (by decide) ?_
  refine ev_putW (l := (-2147483648)) (u := 2147483647) hJ1 rfl (by decide : B (-4) (-4) (-4)) (by decide) (by decide) rfl rfl rfl fl_X3_37 rfl rfl rfl rfl rfl (fun h2 hJ2 k2 => ?_)
  refine ev_aload_n rfl rfl rfl ?_
  refine ev_bipush (v := (-4)) rfl rfl (by decide) ?_
  refine ev_putW (l := (-2147483648)) (u := 2147483647) hJ2 rfl (by decide : B (-4) (-4) (-4)) (by decide) (by decide) rfl rfl rfl fl_X3_40 rfl rfl rfl rfl rfl (fun h3 hJ3 k3 => ?_)
  refine ev_aload_n rfl rfl rfl ?_
  refine ev_iconst (v := 0) rfl rfl (by decide) ?_
  refine ev_putW (l := (-2147483648)) (u := 2147483647) hJ3 rfl (by decide : B 0 0 0) (by decide) (by decide) rfl rfl rfl fl_X3_43 rfl rfl rfl rfl rfl (fun h4 hJ4 k4 => ?_)
  refine ev_iconst (v := 0) rfl rfl (by decide) ?_
  refine ev_istore_n rfl rfl rfl rfl ?_
  dsimp only [List.set]
  refine ev_iconst (v := 0) rfl rfl (by decide) ?_
  refine ev_istore rfl rfl rfl rfl ?_
  dsimp only [List.set]
  have lp27_303 : ∀ (n : Nat) (w304 : Int32) (w305 : Int32) (h307 : Hp), B w305 0 1000 → JW [(50, 7), (50, 8), (50, 9), (50, 10)] h h307 → 1000 + 1 - w305.toInt ≤ (n : Int) → EvQ mi_X3_walk 27 [some (.ref 50), some (.int a0), some (.int a1), some (.int w304), some (.int w305)] [] (G0 L b) h307 0 0 (QN [(50, 7), (50, 8), (50, 9), (50, 10)] (G0 L b) h) := by
    intro n
    induction n with
    | zero =>
      intro w304 w305 h307 b306 hJ308 hm27
      exact absurd hm27 (L_zero b306 (by decide))
    | succ n ih27 =>
      intro w304 w305 h307 b306 hJ308 hm27
      refine ev_iload rfl rfl rfl ?_
      refine ev_sipush (v := 999) rfl rfl (by decide) ?_
      refine ev_icmp_gt rfl rfl (fun c309 => ?_) (fun c309 => ?_)
      · have b310 : B w305 1000 1000 := R_ltY (by decide : B 999 999 999) b306 c309 (by decide)
        exact ev_vret rfl rfl trivial ⟨rfl, rfl, hJ308⟩
      · have b311 : B w305 0 999 := R_leX b306 (by decide : B 999 999 999) (Int32.not_lt.mp c309) (by decide)
        refine ev_aload_n rfl rfl rfl ?_
        refine ev_iload_n rfl rfl rfl ?_
        refine ev_iload rfl rfl rfl ?_
        refine ev_V2P rfl rfl lk_X3_58 vt_X3_firstHeard rfl rfl rfl rfl rfl (w_X3_firstHeard_50 L b h307 hJ308.1 a0 p0 w305) (fun r312 q312 => ?_)
        refine ev_aload_n rfl rfl rfl ?_
        refine ev_iload_n rfl rfl rfl ?_
        refine ev_iload rfl rfl rfl ?_
        refine ev_V2P rfl rfl lk_X3_58 vt_X3_firstHeard rfl rfl rfl rfl rfl (w_X3_firstHeard_50 L b h307 hJ308.1 a1 p1 w305) (fun r313 q313 => ?_)
        refine ev_icmp_eq rfl rfl (fun c314 => ?_) (fun c314 => ?_)
        · refine ev_aload_n rfl rfl rfl ?_
          refine ev_dup rfl rfl rfl ?_
          refine ev_getW (l := (-2147483648)) (u := 2147483647) hJ308.1 rfl rfl rfl fl_X3_34 rfl rfl rfl (fun v315 b315 e315 => ?_)
          refine ev_iconst (v := 1) rfl rfl (by decide) ?_
          refine ev_iaddA rfl rfl (fun v316 g316 => ?_)
          refine ev_putW (l := (-2147483648)) (u := 2147483647) hJ308 rfl (B.any v316) (by decide) (by decide) rfl rfl rfl fl_X3_34 rfl rfl rfl rfl rfl (fun h317 hJ317 k317 => ?_)
          refine ev_iincA rfl rfl rfl rfl rfl (fun v318 => ?_)
          dsimp only [List.set]
          refine ev_aload_n rfl rfl rfl ?_
          refine ev_aload_n rfl rfl rfl ?_
          refine ev_getW (l := (-2147483648)) (u := 2147483647) hJ317.1 rfl rfl rfl fl_X3_37 rfl rfl rfl (fun v319 b319 e319 => ?_)
          refine ev_bipush (v := (-4)) rfl rfl (by decide) ?_
          refine ev_icmp_ne rfl rfl (fun c320 => ?_) (fun c320 => ?_)
          · refine ev_aload_n rfl rfl rfl ?_
            refine ev_getV (v := v319) rfl rfl fl_X3_37 rfl rfl rfl e319 ?_
            refine ev_putW (l := (-2147483648)) (u := 2147483647) hJ317 rfl (B.any v319) (by decide) (by decide) rfl rfl rfl fl_X3_37 rfl rfl rfl rfl rfl (fun h322 hJ322 k322 => ?_)
            refine ev_aload_n rfl rfl rfl ?_
            refine ev_iload rfl rfl rfl ?_
            refine ev_putW (l := (-2147483648)) (u := 2147483647) hJ322 rfl b311 (by decide) (by decide) rfl rfl rfl fl_X3_40 rfl rfl rfl rfl rfl (fun h323 hJ323 k323 => ?_)
            refine ev_aload_n rfl rfl rfl ?_
            refine ev_aload_n rfl rfl rfl ?_
            refine ev_getW (l := (-2147483648)) (u := 2147483647) hJ323.1 rfl rfl rfl fl_X3_43 rfl rfl rfl (fun v324 b324 e324 => ?_)
            refine ev_iload_n rfl rfl rfl ?_
            refine ev_S2P rfl rfl lk_X3_52 st_J9_max_7cf53 rfl rfl (w_max (l := (-2147483648)) (u := 2147483647) (G0 L b) h323 v324 v318 (B.any v324) (B.any v318) (Or.inl (by decide)) (by decide) (by decide)) (fun r325 q325 => ?_)
            refine ev_putW (l := (-2147483648)) (u := 2147483647) hJ323 rfl (B.any r325) (by decide) (by decide) rfl rfl rfl fl_X3_43 rfl rfl rfl rfl rfl (fun h326 hJ326 k326 => ?_)
            refine ev_iincB (y := 1) (l := 1) (u := 1000) rfl rfl rfl (by decide) rfl rfl b311 (by decide : B 1 1 1) (by decide) (by decide) (by decide) (by decide) (fun v327 b327 e327 => ?_)
            dsimp only [List.set]
            refine ev_goto rfl rfl ?_
            exact (ih27 v318 v327 h326 (b327.mono (by decide) (by decide)) hJ326 (L_up hm27 (e_p1 e327 (by decide))))
          · have b321 : B v319 (-4) (-4) := R_eqX (B.any v319) (by decide : B (-4) (-4) (-4)) c320
            refine ev_iload rfl rfl rfl ?_
            refine ev_goto rfl rfl ?_
            refine ev_putW (l := (-2147483648)) (u := 2147483647) hJ317 rfl b311 (by decide) (by decide) rfl rfl rfl fl_X3_37 rfl rfl rfl rfl rfl (fun h328 hJ328 k328 => ?_)
            refine ev_aload_n rfl rfl rfl ?_
            refine ev_iload rfl rfl rfl ?_
            refine ev_putW (l := (-2147483648)) (u := 2147483647) hJ328 rfl b311 (by decide) (by decide) rfl rfl rfl fl_X3_40 rfl rfl rfl rfl rfl (fun h329 hJ329 k329 => ?_)
            refine ev_aload_n rfl rfl rfl ?_
            refine ev_aload_n rfl rfl rfl ?_
            refine ev_getW (l := (-2147483648)) (u := 2147483647) hJ329.1 rfl rfl rfl fl_X3_43 rfl rfl rfl (fun v330 b330 e330 => ?_)
            refine ev_iload_n rfl rfl rfl ?_
            refine ev_S2P rfl rfl lk_X3_52 st_J9_max_7cf53 rfl rfl (w_max (l := (-2147483648)) (u := 2147483647) (G0 L b) h329 v330 v318 (B.any v330) (B.any v318) (Or.inl (by decide)) (by decide) (by decide)) (fun r331 q331 => ?_)
            refine ev_putW (l := (-2147483648)) (u := 2147483647) hJ329 rfl (B.any r331) (by decide) (by decide) rfl rfl rfl fl_X3_43 rfl rfl rfl rfl rfl (fun h332 hJ332 k332 => ?_)
            refine ev_iincB (y := 1) (l := 1) (u := 1000) rfl rfl rfl (by decide) rfl rfl b311 (by decide : B 1 1 1) (by decide) (by decide) (by decide) (by decide) (fun v333 b333 e333 => ?_)
            dsimp only [List.set]
            refine ev_goto rfl rfl ?_
            exact (ih27 v318 v333 h332 (b333.mono (by decide) (by decide)) hJ332 (L_up hm27 (e_p1 e333 (by decide))))
        · refine ev_iconst (v := 0) rfl rfl (by decide) ?_
          refine ev_istore_n rfl rfl rfl rfl ?_
          dsimp only [List.set]
          refine ev_goto rfl rfl ?_
          refine ev_iincB (y := 1) (l := 1) (u := 1000) rfl rfl rfl (by decide) rfl rfl b311 (by decide : B 1 1 1) (by decide) (by decide) (by decide) (by decide) (fun v334 b334 e334 => ?_)
          dsimp only [List.set]
          refine ev_goto rfl rfl ?_
          exact (ih27 0 v334 h307 (b334.mono (by decide) (by decide)) hJ308 (L_up hm27 (e_p1 e334 (by decide))))
  exact (lp27_303 1001 0 0 h4 ((by decide : B 0 0 0).mono (by decide) (by decide)) hJ4 (L_init (by decide : B 0 0 0) (by decide)))

set_option maxRecDepth 100000 in
set_option maxHeartbeats 4000000 in
theorem w_X3_bendsAt_50 (L : Nat) (b : Bool) (h : Hp) (hB : Bx h) (a0 : Int32) : EvP mi_X3_bendsAt [.ref 50, .int a0] (G0 L b) h (fun r : Int32 => B r 0 1) := by
  refine EvM.of2 (lo := [some (.ref 50), some (.int a0), none]) pf_X3_bendsAt ok_X3_bendsAt rfl rfl ?_
  refine ev_iconst (v := 0) rfl rfl (by decide) ?_
  refine ev_istore_n rfl rfl rfl rfl ?_
  dsimp only [List.set]
  have lp2_49 : ∀ (n : Nat) (w50 : Int32), B w50 0 6 → 6 + 1 - w50.toInt ≤ (n : Int) → EvQ mi_X3_bendsAt 2 [some (.ref 50), some (.int a0), some (.int w50)] [] (G0 L b) h 0 0 (QP (fun r : Int32 => B r 0 1) (G0 L b) h) := by
    intro n
    induction n with
    | zero =>
      intro w50 b51 hm2
      exact absurd hm2 (L_zero b51 (by decide))
    | succ n ih2 =>
      intro w50 b51 hm2
      refine ev_iload_n rfl rfl rfl ?_
      refine ev_aload_n rfl rfl rfl ?_
      refine ev_getW (l := 0) (u := 6) hB rfl rfl rfl fl_X3_28 rfl rfl rfl (fun v52 b52 e52 => ?_)
      refine ev_icmp_ge rfl rfl (fun c53 => ?_) (fun c53 => ?_)
      · refine ev_iconst (v := 0) rfl rfl (by decide) ?_
        exact ev_iret rfl rfl rfl ⟨⟨_, rfl, ((by decide : B 0 0 0).mono (by decide) (by decide))⟩, rfl, rfl⟩
      · have b54 : B w50 0 5 := R_ltX b51 b52 (Int32.not_le.mp c53) (by decide)
        have b55 : B v52 1 6 := R_ltY b51 b52 (Int32.not_le.mp c53) (by decide)
        refine ev_aload_n rfl rfl rfl ?_
        refine ev_getR (y := 53) rfl rfl fl_X3_22 rfl rfl rfl rfl ?_
        refine ev_iload_n rfl rfl rfl ?_
        refine ev_ialW (n := 6) (l := (-2147483648)) (u := 2147483647) hB b54 (by decide) (by decide) (fun _ => rfl) rfl rfl rfl (fun v56 b56 e56 => ?_)
        refine ev_iload_n rfl rfl rfl ?_
        refine ev_icmp_ne rfl rfl (fun c57 => ?_) (fun c57 => ?_)
        · refine ev_iincB (y := 1) (l := 1) (u := 6) rfl rfl rfl (by decide) rfl rfl b54 (by decide : B 1 1 1) (by decide) (by decide) (by decide) (by decide) (fun v58 b58 e58 => ?_)
          dsimp only [List.set]
          refine ev_goto rfl rfl ?_
          exact (ih2 v58 (b58.mono (by decide) (by decide)) (L_up hm2 (e_p1 e58 (by decide))))
        · refine ev_iconst (v := 1) rfl rfl (by decide) ?_
          exact ev_iret rfl rfl rfl ⟨⟨_, rfl, ((by decide : B 1 1 1).mono (by decide) (by decide))⟩, rfl, rfl⟩
  exact (lp2_49 7 0 ((by decide : B 0 0 0).mono (by decide) (by decide)) (L_init (by decide : B 0 0 0) (by decide)))

set_option maxRecDepth 100000 in
set_option maxHeartbeats 4000000 in
theorem w_X3_addBoat_50 (L : Nat) (b : Bool) (h : Hp) (hB : Bx h) (a0 : Int32) (a1 : Int32) : EvJ mi_X3_addBoat [.ref 50, .int a0, .int a1] (G0 L b) h (fun r : Int32 => B r (-3) 3) [(50, 2), (51, 999), (52, 999)] := by
  refine EvM.of2 (lo := [some (.ref 50), some (.int a0), some (.int a1)]) pf_X3_addBoat ok_X3_addBoat rfl rfl ?_
  have hJ0 : JW [(50, 2), (51, 999), (52, 999)] h h := JW.refl hB
  refine ev_aload_n rfl rfl rfl ?_
  refine ev_getW (l := 0) (u := 4) hJ0.1 rfl rfl rfl fl_X3_18 rfl rfl rfl (fun v1 b1 e1 => ?_)
  refine ev_iconst (v := 4) rfl rfl (by decide) ?_
  refine ev_icmp_lt rfl rfl (fun c2 => ?_) (fun c2 => ?_)
  · have b3 : B v1 0 3 := R_ltX b1 (by decide : B 4 4 4) c2 (by decide)
    refine ev_aload_n rfl rfl rfl ?_
    refine ev_getR (y := 51) rfl rfl fl_X3_11 rfl rfl rfl rfl ?_
    refine ev_aload_n rfl rfl rfl ?_
    refine ev_getV (v := v1) rfl rfl fl_X3_18 rfl rfl rfl e1 ?_
    refine ev_iload_n rfl rfl rfl ?_
    refine ev_iasW (n := 4) (l := (-2147483648)) (u := 2147483647) hJ0 b3 (by decide) (by decide) (fun _ => rfl) (B.any a0) (by decide) (by decide) (fun _ => rfl) rfl rfl rfl rfl (fun h5 hJ5 k5 => ?_)
    refine ev_aload_n rfl rfl rfl ?_
    refine ev_getR (y := 52) rfl rfl fl_X3_15 rfl rfl rfl rfl ?_
    refine ev_aload_n rfl rfl rfl ?_
    refine ev_getV (v := v1) rfl rfl fl_X3_18 rfl rfl rfl (rd_a k5 e1 rfl) ?_
    refine ev_iload_n rfl rfl rfl ?_
    refine ev_iasW (n := 4) (l := (-2147483648)) (u := 2147483647) hJ5 b3 (by decide) (by decide) (fun _ => rfl) (B.any a1) (by decide) (by decide) (fun _ => rfl) rfl rfl rfl rfl (fun h6 hJ6 k6 => ?_)
    refine ev_aload_n rfl rfl rfl ?_
    refine ev_dup rfl rfl rfl ?_
    refine ev_getV (v := v1) rfl rfl fl_X3_18 rfl rfl rfl (rd_a k6 (rd_a k5 e1 rfl) rfl) ?_
    refine ev_iconst (v := 1) rfl rfl (by decide) ?_
    refine ev_iaddB (l := 1) (u := 4) rfl rfl b3 (by decide : B 1 1 1) (by decide) (by decide) (by decide) (by decide) (fun v7 b7 e7 g7 => ?_)
    refine ev_putW (l := 0) (u := 4) hJ6 rfl b7 (by decide) (by decide) rfl rfl rfl fl_X3_18 rfl rfl rfl rfl rfl (fun h8 hJ8 k8 => ?_)
    refine ev_aload_n rfl rfl rfl ?_
    refine ev_getV (v := v7) rfl rfl fl_X3_18 rfl rfl rfl (rd_s k8) ?_
    refine ev_iconst (v := 1) rfl rfl (by decide) ?_
    refine ev_isubB (l := 0) (u := 3) rfl rfl b7 (by decide : B 1 1 1) (by decide) (by decide) (by decide) (by decide) (fun v9 b9 e9 g9 => ?_)
    exact ev_iret rfl rfl rfl ⟨⟨_, rfl, (b9.mono (by decide) (by decide))⟩, rfl, hJ8⟩
  · have b4 : B v1 4 4 := R_leY (by decide : B 4 4 4) b1 (Int32.not_lt.mp c2) (by decide)
    refine ev_bipush (v := (-3)) rfl rfl (by decide) ?_
    exact ev_iret rfl rfl rfl ⟨⟨_, rfl, ((by decide : B (-3) (-3) (-3)).mono (by decide) (by decide))⟩, rfl, hJ0⟩

set_option maxRecDepth 100000 in
set_option maxHeartbeats 4000000 in
theorem w_X3_addBend_50 (L : Nat) (b : Bool) (h : Hp) (hB : Bx h) (a0 : Int32) (a1 : Int32) : EvJ mi_X3_addBend [.ref 50, .int a0, .int a1] (G0 L b) h (fun r : Int32 => B r (-3) 6) [(50, 5), (53, 999), (54, 999)] := by
  refine EvM.of2 (lo := [some (.ref 50), some (.int a0), some (.int a1)]) pf_X3_addBend ok_X3_addBend rfl rfl ?_
  have hJ0 : JW [(50, 5), (53, 999), (54, 999)] h h := JW.refl hB
  refine ev_aload_n rfl rfl rfl ?_
  refine ev_getW (l := 0) (u := 6) hJ0.1 rfl rfl rfl fl_X3_28 rfl rfl rfl (fun v1 b1 e1 => ?_)
  refine ev_bipush (v := 6) rfl rfl (by decide) ?_
  refine ev_icmp_lt rfl rfl (fun c2 => ?_) (fun c2 => ?_)
  · have b3 : B v1 0 5 := R_ltX b1 (by decide : B 6 6 6) c2 (by decide)
    refine ev_aload_n rfl rfl rfl ?_
    refine ev_getR (y := 53) rfl rfl fl_X3_22 rfl rfl rfl rfl ?_
    refine ev_aload_n rfl rfl rfl ?_
    refine ev_getV (v := v1) rfl rfl fl_X3_28 rfl rfl rfl e1 ?_
    refine ev_iload_n rfl rfl rfl ?_
    refine ev_iasW (n := 6) (l := (-2147483648)) (u := 2147483647) hJ0 b3 (by decide) (by decide) (fun _ => rfl) (B.any a0) (by decide) (by decide) (fun _ => rfl) rfl rfl rfl rfl (fun h5 hJ5 k5 => ?_)
    refine ev_aload_n rfl rfl rfl ?_
    refine ev_getR (y := 54) rfl rfl fl_X3_25 rfl rfl rfl rfl ?_
    refine ev_aload_n rfl rfl rfl ?_
    refine ev_getV (v := v1) rfl rfl fl_X3_28 rfl rfl rfl (rd_a k5 e1 rfl) ?_
    refine ev_iload_n rfl rfl rfl ?_
    refine ev_iasW (n := 6) (l := (-2147483648)) (u := 2147483647) hJ5 b3 (by decide) (by decide) (fun _ => rfl) (B.any a1) (by decide) (by decide) (fun _ => rfl) rfl rfl rfl rfl (fun h6 hJ6 k6 => ?_)
    refine ev_aload_n rfl rfl rfl ?_
    refine ev_dup rfl rfl rfl ?_
    refine ev_getV (v := v1) rfl rfl fl_X3_28 rfl rfl rfl (rd_a k6 (rd_a k5 e1 rfl) rfl) ?_
    refine ev_iconst (v := 1) rfl rfl (by decide) ?_
    refine ev_iaddB (l := 1) (u := 6) rfl rfl b3 (by decide : B 1 1 1) (by decide) (by decide) (by decide) (by decide) (fun v7 b7 e7 g7 => ?_)
    refine ev_putW (l := 0) (u := 6) hJ6 rfl b7 (by decide) (by decide) rfl rfl rfl fl_X3_28 rfl rfl rfl rfl rfl (fun h8 hJ8 k8 => ?_)
    refine ev_aload_n rfl rfl rfl ?_
    refine ev_getV (v := v7) rfl rfl fl_X3_28 rfl rfl rfl (rd_s k8) ?_
    exact ev_iret rfl rfl rfl ⟨⟨_, rfl, (b7.mono (by decide) (by decide))⟩, rfl, hJ8⟩
  · have b4 : B v1 6 6 := R_leY (by decide : B 6 6 6) b1 (Int32.not_lt.mp c2) (by decide)
    refine ev_bipush (v := (-3)) rfl rfl (by decide) ?_
    exact ev_iret rfl rfl rfl ⟨⟨_, rfl, ((by decide : B (-3) (-3) (-3)).mono (by decide) (by decide))⟩, rfl, hJ0⟩

set_option maxRecDepth 100000 in
set_option maxHeartbeats 4000000 in
theorem w_X8_has_4 (L : Nat) (b : Bool) (h : Hp) (hB : Bx h) (a0 : Int32) : EvP mi_X8_has [.ref 4, .int a0] (G0 L b) h (fun r : Int32 => B r 0 1 ∧ (¬ r = 0 → B a0 0 11)) := by
  refine EvM.of2 (lo := [some (.ref 4), some (.int a0)]) pf_X8_has ok_X8_has rfl rfl ?_
  refine ev_iconst (v := 0) rfl rfl (by decide) ?_
  refine ev_iload_n rfl rfl rfl ?_
  refine ev_icmp_gt rfl rfl (fun c1 => ?_) (fun c1 => ?_)
  · have b2 : B a0 (-2147483648) (-1) := R_ltX (B.any a0) (by decide : B 0 0 0) c1 (by decide)
    refine ev_iconst (v := 0) rfl rfl (by decide) ?_
    exact ev_iret rfl rfl rfl ⟨⟨_, rfl, ⟨((by decide : B 0 0 0).mono (by decide) (by decide)), (fun e_ => absurd rfl e_)⟩⟩, rfl, rfl⟩
  · have b3 : B a0 0 2147483647 := R_leY (by decide : B 0 0 0) (B.any a0) (Int32.not_lt.mp c1) (by decide)
    refine ev_iload_n rfl rfl rfl ?_
    refine ev_aload_n rfl rfl rfl ?_
    refine ev_getW (l := 0) (u := 12) hB rfl rfl rfl fl_X8_35 rfl rfl rfl (fun v4 b4 e4 => ?_)
    refine ev_icmp_ge rfl rfl (fun c5 => ?_) (fun c5 => ?_)
    · refine ev_iconst (v := 0) rfl rfl (by decide) ?_
      exact ev_iret rfl rfl rfl ⟨⟨_, rfl, ⟨((by decide : B 0 0 0).mono (by decide) (by decide)), (fun e_ => absurd rfl e_)⟩⟩, rfl, rfl⟩
    · have b6 : B a0 0 11 := R_ltX b3 b4 (Int32.not_le.mp c5) (by decide)
      have b7 : B v4 1 12 := R_ltY b3 b4 (Int32.not_le.mp c5) (by decide)
      refine ev_iconst (v := 1) rfl rfl (by decide) ?_
      refine ev_goto rfl rfl ?_
      exact ev_iret rfl rfl rfl ⟨⟨_, rfl, ⟨((by decide : B 1 1 1).mono (by decide) (by decide)), (fun _ => b6)⟩⟩, rfl, rfl⟩

set_option maxRecDepth 100000 in
set_option maxHeartbeats 4000000 in
theorem w_X9_pitch_1 (L : Nat) (b : Bool) (h : Hp) (hB : Bx h) (a0 : Int32) (a1 : Int32) : EvP mi_X9_pitch [.ref 1, .int a0, .int a1] (G0 L b) h (fun r : Int32 => B r (-2147483648) 2147483647) := by
  refine EvM.of2 (lo := [some (.ref 1), some (.int a0), some (.int a1)]) pf_X9_pitch ok_X9_pitch rfl rfl ?_
  refine ev_aload_n rfl rfl rfl ?_
  refine ev_getR (y := 4) rfl rfl fl_X9_22 rfl rfl rfl rfl ?_
  refine ev_iload_n rfl rfl rfl ?_
  refine ev_V1P rfl rfl lk_X9_126 vt_X8_has rfl rfl rfl rfl rfl (w_X8_has_4 L b h hB a0) (fun r1 q1 => ?_)
  obtain ⟨b1, p1_0⟩ := q1
  refine ev_if_eq rfl rfl (fun c2 => ?_) (fun c2 => ?_)
  · have b3 : B r1 0 0 := R_eqX b1 (by decide : B 0 0 0) c2
    refine ev_sipush (v := (-10000)) rfl rfl (by decide) ?_
    exact ev_iret rfl rfl rfl ⟨⟨_, rfl, ((by decide : B (-10000) (-10000) (-10000)).mono (by decide) (by decide))⟩, rfl, rfl⟩
  · have b4 : B r1 1 1 := R_neL b1 (by decide : B 0 0 0) c2 (by decide)
    have b5 : B a0 0 11 := p1_0 c2
    refine ev_iload_n rfl rfl rfl ?_
    refine ev_iconst (v := 0) rfl rfl (by decide) ?_
    refine ev_sipush (v := 200) rfl rfl (by decide) ?_
    refine ev_S3P rfl rfl lk_X9_75 st_X9_isWithin rfl rfl (w_isWithin (G0 L b) h a1 0 200 (by decide : B 0 0 0) (by decide : B 200 200 200)) (fun r6 q6 => ?_)
    obtain ⟨b6, p6_0⟩ := q6
    refine ev_if_ne rfl rfl (fun c7 => ?_) (fun c7 => ?_)
    · have b8 : B r6 1 1 := R_neL b6 (by decide : B 0 0 0) c7 (by decide)
      have b9 : B a1 0 200 := p6_0 c7
      refine ev_aload_n rfl rfl rfl ?_
      refine ev_getR (y := 4) rfl rfl fl_X9_22 rfl rfl rfl rfl ?_
      refine ev_getR (y := 5) rfl rfl fl_X9_129 rfl rfl rfl rfl ?_
      refine ev_iload_n rfl rfl rfl ?_
      refine ev_ialW (n := 12) (l := (-2147483648)) (u := 2147483647) hB b5 (by decide) (by decide) (fun _ => rfl) rfl rfl rfl (fun v11 b11 e11 => ?_)
      refine ev_aload_n rfl rfl rfl ?_
      refine ev_getR (y := 4) rfl rfl fl_X9_22 rfl rfl rfl rfl ?_
      refine ev_iload_n rfl rfl rfl ?_
      refine ev_iload_n rfl rfl rfl ?_
      refine ev_V2P rfl rfl lk_X9_149 vt_X8_offAt rfl rfl rfl rfl rfl (w_X8_offAt_4 L b h hB a0 b5 a1) (fun r12 q12 => ?_)
      refine ev_iaddA rfl rfl (fun v13 g13 => ?_)
      exact ev_iret rfl rfl rfl ⟨⟨_, rfl, (B.any v13)⟩, rfl, rfl⟩
    · have b10 : B r6 0 0 := R_eqX b6 (by decide : B 0 0 0) c7
      refine ev_sipush (v := (-10000)) rfl rfl (by decide) ?_
      exact ev_iret rfl rfl rfl ⟨⟨_, rfl, ((by decide : B (-10000) (-10000) (-10000)).mono (by decide) (by decide))⟩, rfl, rfl⟩

set_option maxRecDepth 100000 in
set_option maxHeartbeats 4000000 in
theorem w_X8_isNear_4 (L : Nat) (b : Bool) (h : Hp) (hB : Bx h) (a0 : Int32) (p0 : B a0 0 11) (a1 : Int32) (a2 : Int32) : EvP mi_X8_isNear [.ref 4, .int a0, .int a1, .int a2] (G0 L b) h (fun r : Int32 => B r 0 1) := by
  refine EvM.of2 (lo := [some (.ref 4), some (.int a0), some (.int a1), some (.int a2)]) pf_X8_isNear ok_X8_isNear rfl rfl ?_
  refine ev_aload_n rfl rfl rfl ?_
  refine ev_iload_n rfl rfl rfl ?_
  refine ev_iload_n rfl rfl rfl ?_
  refine ev_V2P rfl rfl lk_X8_55 vt_X8_offAt rfl rfl rfl rfl rfl (w_X8_offAt_4 L b h hB a0 p0 a1) (fun r1 q1 => ?_)
  refine ev_S1P rfl rfl lk_X8_58 st_J9_abs_0f7a4 rfl rfl (w_any (c_abs (G0 L b) h r1)) (fun r2 q2 => ?_)
  refine ev_iload_n rfl rfl rfl ?_
  refine ev_icmp_gt rfl rfl (fun c3 => ?_) (fun c3 => ?_)
  · have b4 : B r2 (-2147483647) 2147483647 := R_ltY (B.any a2) (B.any r2) c3 (by decide)
    have b5 : B a2 (-2147483648) 2147483646 := R_ltX (B.any a2) (B.any r2) c3 (by decide)
    refine ev_iconst (v := 0) rfl rfl (by decide) ?_
    exact ev_iret rfl rfl rfl ⟨⟨_, rfl, ((by decide : B 0 0 0).mono (by decide) (by decide))⟩, rfl, rfl⟩
  · refine ev_iconst (v := 1) rfl rfl (by decide) ?_
    refine ev_goto rfl rfl ?_
    exact ev_iret rfl rfl rfl ⟨⟨_, rfl, ((by decide : B 1 1 1).mono (by decide) (by decide))⟩, rfl, rfl⟩

set_option maxRecDepth 100000 in
set_option maxHeartbeats 4000000 in
theorem w_X9_holds_1 (L : Nat) (b : Bool) (h : Hp) (hB : Bx h) (a0 : Int32) (a1 : Int32) : EvP mi_X9_holds [.ref 1, .int a0, .int a1] (G0 L b) h (fun r : Int32 => B r (-4) 200) := by
  refine EvM.of2 (lo := [some (.ref 1), some (.int a0), some (.int a1), none, none]) pf_X9_holds ok_X9_holds rfl rfl ?_
  refine ev_aload_n rfl rfl rfl ?_
  refine ev_getR (y := 4) rfl rfl fl_X9_22 rfl rfl rfl rfl ?_
  refine ev_iload_n rfl rfl rfl ?_
  refine ev_V1P rfl rfl lk_X9_126 vt_X8_has rfl rfl rfl rfl rfl (w_X8_has_4 L b h hB a0) (fun r1 q1 => ?_)
  obtain ⟨b1, p1_0⟩ := q1
  refine ev_if_eq rfl rfl (fun c2 => ?_) (fun c2 => ?_)
  · have b3 : B r1 0 0 := R_eqX b1 (by decide : B 0 0 0) c2
    refine ev_iconst (v := (-1)) rfl rfl (by decide) ?_
    exact ev_iret rfl rfl rfl ⟨⟨_, rfl, ((by decide : B (-1) (-1) (-1)).mono (by decide) (by decide))⟩, rfl, rfl⟩
  · have b4 : B r1 1 1 := R_neL b1 (by decide : B 0 0 0) c2 (by decide)
    have b5 : B a0 0 11 := p1_0 c2
    refine ev_iload_n rfl rfl rfl ?_
    refine ev_iconst (v := 0) rfl rfl (by decide) ?_
    refine ev_sipush (v := 400) rfl rfl (by decide) ?_
    refine ev_S3P rfl rfl lk_X9_75 st_X9_isWithin rfl rfl (w_isWithin (G0 L b) h a1 0 400 (by decide : B 0 0 0) (by decide : B 400 400 400)) (fun r6 q6 => ?_)
    obtain ⟨b6, p6_0⟩ := q6
    refine ev_if_ne rfl rfl (fun c7 => ?_) (fun c7 => ?_)
    · have b8 : B r6 1 1 := R_neL b6 (by decide : B 0 0 0) c7 (by decide)
      have b9 : B a1 0 400 := p6_0 c7
      refine ev_bipush (v := (-4)) rfl rfl (by decide) ?_
      refine ev_istore_n rfl rfl rfl rfl ?_
      dsimp only [List.set]
      refine ev_aload_n rfl rfl rfl ?_
      refine ev_getR (y := 2) rfl rfl fl_X9_10 rfl rfl rfl rfl ?_
      refine ev_getW (l := 0) (u := 200) hB rfl rfl rfl fl_X9_96 rfl rfl rfl (fun v11 b11 e11 => ?_)
      refine ev_istore rfl rfl rfl rfl ?_
      dsimp only [List.set]
      have lp36_50 : ∀ (n : Nat) (w51 : Int32) (w52 : Int32), B w51 (-4) 200 → B w52 (-1) 200 → w52.toInt + 1 - (-1) ≤ (n : Int) → EvQ mi_X9_holds 36 [some (.ref 1), some (.int a0), some (.int a1), some (.int w51), some (.int w52)] [] (G0 L b) h 0 0 (QP (fun r : Int32 => B r (-4) 200) (G0 L b) h) := by
        intro n
        induction n with
        | zero =>
          intro w51 w52 b53 b54 hm36
          exact absurd hm36 (M_zero b54 (by decide))
        | succ n ih36 =>
          intro w51 w52 b53 b54 hm36
          refine ev_iload rfl rfl rfl ?_
          refine ev_if_lt rfl rfl (fun c55 => ?_) (fun c55 => ?_)
          · have b56 : B w52 (-1) (-1) := R_ltX b54 (by decide : B 0 0 0) c55 (by decide)
            refine ev_iload_n rfl rfl rfl ?_
            exact ev_iret rfl rfl rfl ⟨⟨_, rfl, b53⟩, rfl, rfl⟩
          · have b57 : B w52 0 200 := R_leY (by decide : B 0 0 0) b54 (Int32.not_lt.mp c55) (by decide)
            refine ev_aload_n rfl rfl rfl ?_
            refine ev_getR (y := 4) rfl rfl fl_X9_22 rfl rfl rfl rfl ?_
            refine ev_iload_n rfl rfl rfl ?_
            refine ev_iload rfl rfl rfl ?_
            refine ev_iload_n rfl rfl rfl ?_
            refine ev_V3P rfl rfl lk_X9_152 vt_X8_isNear rfl rfl rfl rfl rfl (w_X8_isNear_4 L b h hB a0 b5 w52 a1) (fun r58 q58 => ?_)
            refine ev_if_eq rfl rfl (fun c59 => ?_) (fun c59 => ?_)
            · have b60 : B r58 0 0 := R_eqX q58 (by decide : B 0 0 0) c59
              refine ev_iload_n rfl rfl rfl ?_
              exact ev_iret rfl rfl rfl ⟨⟨_, rfl, b53⟩, rfl, rfl⟩
            · have b61 : B r58 1 1 := R_neL q58 (by decide : B 0 0 0) c59 (by decide)
              refine ev_iload rfl rfl rfl ?_
              refine ev_istore_n rfl rfl rfl rfl ?_
              dsimp only [List.set]
              refine ev_iincB (y := (-1)) (l := -1) (u := 199) rfl rfl rfl (by decide) rfl rfl b57 (by decide : B (-1) (-1) (-1)) (by decide) (by decide) (by decide) (by decide) (fun v62 b62 e62 => ?_)
              dsimp only [List.set]
              refine ev_goto rfl rfl ?_
              exact (ih36 w52 v62 (b57.mono (by decide) (by decide)) (b62.mono (by decide) (by decide)) (M_dn hm36 (e_m1 e62 (by decide))))
      exact (lp36_50 202 (-4) v11 ((by decide : B (-4) (-4) (-4)).mono (by decide) (by decide)) (b11.mono (by decide) (by decide)) (M_init b11 (by decide)))
    · have b10 : B r6 0 0 := R_eqX b6 (by decide : B 0 0 0) c7
      refine ev_iconst (v := (-1)) rfl rfl (by decide) ?_
      exact ev_iret rfl rfl rfl ⟨⟨_, rfl, ((by decide : B (-1) (-1) (-1)).mono (by decide) (by decide))⟩, rfl, rfl⟩

set_option maxRecDepth 100000 in
set_option maxHeartbeats 4000000 in
theorem w_X9_agree_1 (L : Nat) (b : Bool) (h : Hp) (hB : Bx h) (a0 : Int32) : EvP mi_X9_agree [.ref 1, .int a0] (G0 L b) h (fun r : Int32 => B r (-2147483648) 2147483647) := by
  refine EvM.of2 (lo := [some (.ref 1), some (.int a0), none, none, none, none]) pf_X9_agree ok_X9_agree rfl rfl ?_
  refine ev_iload_n rfl rfl rfl ?_
  refine ev_iconst (v := 0) rfl rfl (by decide) ?_
  refine ev_iconst (v := 2) rfl rfl (by decide) ?_
  refine ev_S3P rfl rfl lk_X9_75 st_X9_isWithin rfl rfl (w_isWithin (G0 L b) h a0 0 2 (by decide : B 0 0 0) (by decide : B 2 2 2)) (fun r1 q1 => ?_)
  obtain ⟨b1, p1_0⟩ := q1
  refine ev_if_ne rfl rfl (fun c2 => ?_) (fun c2 => ?_)
  · have b3 : B r1 1 1 := R_neL b1 (by decide : B 0 0 0) c2 (by decide)
    have b4 : B a0 0 2 := p1_0 c2
    refine ev_aload_n rfl rfl rfl ?_
    refine ev_getR (y := 4) rfl rfl fl_X9_22 rfl rfl rfl rfl ?_
    refine ev_getW (l := 0) (u := 12) hB rfl rfl rfl fl_X9_158 rfl rfl rfl (fun v6 b6 e6 => ?_)
    refine ev_if_ne rfl rfl (fun c7 => ?_) (fun c7 => ?_)
    · have b8 : B v6 1 12 := R_neL b6 (by decide : B 0 0 0) c7 (by decide)
      refine ev_aload_n rfl rfl rfl ?_
      refine ev_getR (y := 2) rfl rfl fl_X9_10 rfl rfl rfl rfl ?_
      refine ev_getW (l := 0) (u := 200) hB rfl rfl rfl fl_X9_96 rfl rfl rfl (fun v10 b10 e10 => ?_)
      refine ev_istore_n rfl rfl rfl rfl ?_
      dsimp only [List.set]
      refine ev_aload_n rfl rfl rfl ?_
      refine ev_getR (y := 4) rfl rfl fl_X9_22 rfl rfl rfl rfl ?_
      refine ev_aload_n rfl rfl rfl ?_
      refine ev_getR (y := 4) rfl rfl fl_X9_22 rfl rfl rfl rfl ?_
      refine ev_V0P rfl rfl lk_X9_165 vt_X8_all rfl rfl rfl rfl rfl (w_X8_all_4 L b h hB ) (fun r11 q11 => ?_)
      refine ev_iload_n rfl rfl rfl ?_
      refine ev_V2P rfl rfl lk_X9_115 vt_X8_strayOf rfl rfl rfl rfl rfl (w_X8_strayOf_4 L b h hB r11 v10) (fun r12 q12 => ?_)
      refine ev_istore_n rfl rfl rfl rfl ?_
      dsimp only [List.set]
      refine ev_aload_n rfl rfl rfl ?_
      refine ev_getR (y := 2) rfl rfl fl_X9_10 rfl rfl rfl rfl ?_
      refine ev_getV (v := v10) rfl rfl fl_X9_96 rfl rfl rfl e10 ?_
      refine ev_iconst (v := 1) rfl rfl (by decide) ?_
      refine ev_isubB (l := -1) (u := 199) rfl rfl b10 (by decide : B 1 1 1) (by decide) (by decide) (by decide) (by decide) (fun v13 b13 e13 g13 => ?_)
      refine ev_istore rfl rfl rfl rfl ?_
      dsimp only [List.set]
      have lp59_74 : ∀ (n : Nat) (w75 : Int32) (w76 : Int32) (w77 : Int32), B w75 0 200 → B w76 0 2147483647 → B w77 (-1) 199 → w77.toInt + 1 - (-1) ≤ (n : Int) → EvQ mi_X9_agree 59 [some (.ref 1), some (.int a0), some (.int w75), some (.int w76), some (.int w77), none] [] (G0 L b) h 0 0 (QP (fun r : Int32 => B r (-2147483648) 2147483647) (G0 L b) h) := by
        intro n
        induction n with
        | zero =>
          intro w75 w76 w77 b78 b79 b80 hm59
          exact absurd hm59 (M_zero b80 (by decide))
        | succ n ih59 =>
          intro w75 w76 w77 b78 b79 b80 hm59
          refine ev_iload rfl rfl rfl ?_
          refine ev_if_lt rfl rfl (fun c81 => ?_) (fun c81 => ?_)
          · have b82 : B w77 (-1) (-1) := R_ltX b80 (by decide : B 0 0 0) c81 (by decide)
            refine ev_iload_n rfl rfl rfl ?_
            refine ev_if_ne rfl rfl (fun c84 => ?_) (fun c84 => ?_)
            · have b85 : B a0 1 2 := R_neL b4 (by decide : B 0 0 0) c84 (by decide)
              refine ev_iload_n rfl rfl rfl ?_
              refine ev_iconst (v := 1) rfl rfl (by decide) ?_
              refine ev_icmp_ne rfl rfl (fun c87 => ?_) (fun c87 => ?_)
              · have b88 : B a0 2 2 := R_neL b85 (by decide : B 1 1 1) c87 (by decide)
                refine ev_aload_n rfl rfl rfl ?_
                refine ev_getR (y := 4) rfl rfl fl_X9_22 rfl rfl rfl rfl ?_
                refine ev_iload_n rfl rfl rfl ?_
                refine ev_V1P rfl rfl lk_X9_161 vt_X8_exactAt rfl rfl rfl rfl rfl (w_X8_exactAt_4 L b h hB w75) (fun r90 q90 => ?_)
                exact ev_iret rfl rfl rfl ⟨⟨_, rfl, (B.any r90)⟩, rfl, rfl⟩
              · have b89 : B a0 1 1 := R_eqX b85 (by decide : B 1 1 1) c87
                refine ev_iload_n rfl rfl rfl ?_
                refine ev_goto rfl rfl ?_
                exact ev_iret rfl rfl rfl ⟨⟨_, rfl, (b79.mono (by decide) (by decide))⟩, rfl, rfl⟩
            · have b86 : B a0 0 0 := R_eqX b4 (by decide : B 0 0 0) c84
              refine ev_iload_n rfl rfl rfl ?_
              exact ev_iret rfl rfl rfl ⟨⟨_, rfl, (b78.mono (by decide) (by decide))⟩, rfl, rfl⟩
          · have b83 : B w77 0 199 := R_leY (by decide : B 0 0 0) b80 (Int32.not_lt.mp c81) (by decide)
            refine ev_aload_n rfl rfl rfl ?_
            refine ev_getR (y := 4) rfl rfl fl_X9_22 rfl rfl rfl rfl ?_
            refine ev_aload_n rfl rfl rfl ?_
            refine ev_getR (y := 4) rfl rfl fl_X9_22 rfl rfl rfl rfl ?_
            refine ev_V0P rfl rfl lk_X9_165 vt_X8_all rfl rfl rfl rfl rfl (w_X8_all_4 L b h hB ) (fun r91 q91 => ?_)
            refine ev_iload rfl rfl rfl ?_
            refine ev_V2P rfl rfl lk_X9_115 vt_X8_strayOf rfl rfl rfl rfl rfl (w_X8_strayOf_4 L b h hB r91 w77) (fun r92 q92 => ?_)
            refine ev_istore rfl rfl rfl rfl ?_
            dsimp only [List.set]
            refine ev_iload rfl rfl rfl ?_
            refine ev_iload_n rfl rfl rfl ?_
            refine ev_icmp_ge rfl rfl (fun c93 => ?_) (fun c93 => ?_)
            · refine ev_iincB (y := (-1)) (l := -1) (u := 198) rfl rfl rfl (by decide) rfl rfl b83 (by decide : B (-1) (-1) (-1)) (by decide) (by decide) (by decide) (by decide) (fun v96 b96 e96 => ?_)
              dsimp only [List.set]
              refine ev_goto rfl rfl ?_
              exact (EvQ.drop 5 (ih59 w75 w76 v96 b78 b79 (b96.mono (by decide) (by decide)) (M_dn hm59 (e_m1 e96 (by decide)))))
            · have b94 : B r92 0 2147483646 := R_ltX q92 b79 (Int32.not_le.mp c93) (by decide)
              have b95 : B w76 1 2147483647 := R_ltY q92 b79 (Int32.not_le.mp c93) (by decide)
              refine ev_iload rfl rfl rfl ?_
              refine ev_istore_n rfl rfl rfl rfl ?_
              dsimp only [List.set]
              refine ev_iload rfl rfl rfl ?_
              refine ev_istore_n rfl rfl rfl rfl ?_
              dsimp only [List.set]
              refine ev_iincB (y := (-1)) (l := -1) (u := 198) rfl rfl rfl (by decide) rfl rfl b83 (by decide : B (-1) (-1) (-1)) (by decide) (by decide) (by decide) (by decide) (fun v97 b97 e97 => ?_)
              dsimp only [List.set]
              refine ev_goto rfl rfl ?_
              exact (EvQ.drop 5 (ih59 w77 r92 v97 (b83.mono (by decide) (by decide)) (b94.mono (by decide) (by decide)) (b97.mono (by decide) (by decide)) (M_dn hm59 (e_m1 e97 (by decide)))))
      exact (lp59_74 201 v10 r12 v13 b10 q12 b13 (M_init b13 (by decide)))
    · have b9 : B v6 0 0 := R_eqX b6 (by decide : B 0 0 0) c7
      refine ev_bipush (v := (-4)) rfl rfl (by decide) ?_
      exact ev_iret rfl rfl rfl ⟨⟨_, rfl, ((by decide : B (-4) (-4) (-4)).mono (by decide) (by decide))⟩, rfl, rfl⟩
  · have b5 : B r1 0 0 := R_eqX b1 (by decide : B 0 0 0) c2
    refine ev_iconst (v := (-1)) rfl rfl (by decide) ?_
    exact ev_iret rfl rfl rfl ⟨⟨_, rfl, ((by decide : B (-1) (-1) (-1)).mono (by decide) (by decide))⟩, rfl, rfl⟩

set_option maxRecDepth 100000 in
set_option maxHeartbeats 4000000 in
theorem w_X9_told_1 (L : Nat) (b : Bool) (h : Hp) (hB : Bx h) (a0 : Int32) (a1 : Int32) : EvP mi_X9_told [.ref 1, .int a0, .int a1] (G0 L b) h (fun r : Int32 => B r (-2147483648) 2147483647) := by
  refine EvM.of2 (lo := [some (.ref 1), some (.int a0), some (.int a1)]) pf_X9_told ok_X9_told rfl rfl ?_
  refine ev_aload_n rfl rfl rfl ?_
  refine ev_getR (y := 4) rfl rfl fl_X9_22 rfl rfl rfl rfl ?_
  refine ev_iload_n rfl rfl rfl ?_
  refine ev_V1P rfl rfl lk_X9_126 vt_X8_has rfl rfl rfl rfl rfl (w_X8_has_4 L b h hB a0) (fun r1 q1 => ?_)
  obtain ⟨b1, p1_0⟩ := q1
  refine ev_if_ne rfl rfl (fun c2 => ?_) (fun c2 => ?_)
  · have b3 : B r1 1 1 := R_neL b1 (by decide : B 0 0 0) c2 (by decide)
    have b4 : B a0 0 11 := p1_0 c2
    refine ev_iload_n rfl rfl rfl ?_
    rcases ev_sw a1 0 6 with w6 | w6
    · refine ev_tabOut 140 rfl w6 (by decide) ?_
      refine ev_sipush (v := (-10000)) rfl rfl (by decide) ?_
      exact ev_iret rfl rfl rfl ⟨⟨_, rfl, ((by decide : B (-10000) (-10000) (-10000)).mono (by decide) (by decide))⟩, rfl, rfl⟩
    · have w6b : a1 = 0 ∨ a1 = 1 ∨ a1 = 2 ∨ a1 = 3 ∨ a1 = 4 ∨ a1 = 5 ∨ a1 = 6 := sw_or7_0 w6
      rcases w6b with rfl | rfl | rfl | rfl | rfl | rfl | rfl
      · refine ev_tabIn 60 rfl (by decide) (by decide) rfl (by decide) ?_
        refine ev_aload_n rfl rfl rfl ?_
        refine ev_getR (y := 4) rfl rfl fl_X9_22 rfl rfl rfl rfl ?_
        refine ev_getR (y := 5) rfl rfl fl_X9_129 rfl rfl rfl rfl ?_
        refine ev_iload_n rfl rfl rfl ?_
        refine ev_ialW (n := 12) (l := (-2147483648)) (u := 2147483647) hB b4 (by decide) (by decide) (fun _ => rfl) rfl rfl rfl (fun v7 b7 e7 => ?_)
        exact ev_iret rfl rfl rfl ⟨⟨_, rfl, (B.any v7)⟩, rfl, rfl⟩
      · refine ev_tabIn 70 rfl (by decide) (by decide) rfl (by decide) ?_
        refine ev_aload_n rfl rfl rfl ?_
        refine ev_getR (y := 4) rfl rfl fl_X9_22 rfl rfl rfl rfl ?_
        refine ev_getR (y := 6) rfl rfl fl_X9_133 rfl rfl rfl rfl ?_
        refine ev_iload_n rfl rfl rfl ?_
        refine ev_ialW (n := 12) (l := (-2147483648)) (u := 2147483647) hB b4 (by decide) (by decide) (fun _ => rfl) rfl rfl rfl (fun v8 b8 e8 => ?_)
        exact ev_iret rfl rfl rfl ⟨⟨_, rfl, (B.any v8)⟩, rfl, rfl⟩
      · refine ev_tabIn 80 rfl (by decide) (by decide) rfl (by decide) ?_
        refine ev_aload_n rfl rfl rfl ?_
        refine ev_getR (y := 4) rfl rfl fl_X9_22 rfl rfl rfl rfl ?_
        refine ev_getR (y := 7) rfl rfl fl_X9_136 rfl rfl rfl rfl ?_
        refine ev_iload_n rfl rfl rfl ?_
        refine ev_ialW (n := 12) (l := (-2147483648)) (u := 2147483647) hB b4 (by decide) (by decide) (fun _ => rfl) rfl rfl rfl (fun v9 b9 e9 => ?_)
        exact ev_iret rfl rfl rfl ⟨⟨_, rfl, (B.any v9)⟩, rfl, rfl⟩
      · refine ev_tabIn 90 rfl (by decide) (by decide) rfl (by decide) ?_
        refine ev_aload_n rfl rfl rfl ?_
        refine ev_getR (y := 4) rfl rfl fl_X9_22 rfl rfl rfl rfl ?_
        refine ev_getR (y := 8) rfl rfl fl_X9_139 rfl rfl rfl rfl ?_
        refine ev_iload_n rfl rfl rfl ?_
        refine ev_zalW (n := 12) (l := (-2147483648)) (u := 2147483647) hB b4 (by decide) (by decide) (fun _ => rfl) rfl rfl rfl (fun v10 b10 e10 => ?_)
        refine ev_if_eq rfl rfl (fun c11 => ?_) (fun c11 => ?_)
        · have b12 : B v10 0 0 := R_eqX (B.any v10) (by decide : B 0 0 0) c11
          refine ev_iconst (v := 0) rfl rfl (by decide) ?_
          exact ev_iret rfl rfl rfl ⟨⟨_, rfl, ((by decide : B 0 0 0).mono (by decide) (by decide))⟩, rfl, rfl⟩
        · refine ev_iconst (v := 1) rfl rfl (by decide) ?_
          refine ev_goto rfl rfl ?_
          exact ev_iret rfl rfl rfl ⟨⟨_, rfl, ((by decide : B 1 1 1).mono (by decide) (by decide))⟩, rfl, rfl⟩
      · refine ev_tabIn 108 rfl (by decide) (by decide) rfl (by decide) ?_
        refine ev_aload_n rfl rfl rfl ?_
        refine ev_getR (y := 4) rfl rfl fl_X9_22 rfl rfl rfl rfl ?_
        refine ev_getR (y := 9) rfl rfl fl_X9_143 rfl rfl rfl rfl ?_
        refine ev_iload_n rfl rfl rfl ?_
        refine ev_ialW (n := 12) (l := (-2147483648)) (u := 2147483647) hB b4 (by decide) (by decide) (fun _ => rfl) rfl rfl rfl (fun v13 b13 e13 => ?_)
        exact ev_iret rfl rfl rfl ⟨⟨_, rfl, (B.any v13)⟩, rfl, rfl⟩
      · refine ev_tabIn 118 rfl (by decide) (by decide) rfl (by decide) ?_
        refine ev_aload_n rfl rfl rfl ?_
        refine ev_getR (y := 4) rfl rfl fl_X9_22 rfl rfl rfl rfl ?_
        refine ev_getR (y := 10) rfl rfl fl_X9_146 rfl rfl rfl rfl ?_
        refine ev_iload_n rfl rfl rfl ?_
        refine ev_ialW (n := 12) (l := (-2147483648)) (u := 2147483647) hB b4 (by decide) (by decide) (fun _ => rfl) rfl rfl rfl (fun v14 b14 e14 => ?_)
        exact ev_iret rfl rfl rfl ⟨⟨_, rfl, (B.any v14)⟩, rfl, rfl⟩
      · refine ev_tabIn 128 rfl (by decide) (by decide) rfl (by decide) ?_
        refine ev_aload_n rfl rfl rfl ?_
        refine ev_getR (y := 4) rfl rfl fl_X9_22 rfl rfl rfl rfl ?_
        refine ev_getW (l := (-2147483648)) (u := 2147483647) hB rfl rfl rfl fl_X9_105 rfl rfl rfl (fun v15 b15 e15 => ?_)
        refine ev_iload_n rfl rfl rfl ?_
        refine ev_ishrA rfl rfl (fun v16 => ?_)
        refine ev_iconst (v := 1) rfl rfl (by decide) ?_
        refine ev_iandB rfl rfl (by decide : B 1 1 1) (by decide) (fun v17 b17 e17 => ?_)
        exact ev_iret rfl rfl rfl ⟨⟨_, rfl, (b17.mono (by decide) (by decide))⟩, rfl, rfl⟩
  · have b5 : B r1 0 0 := R_eqX b1 (by decide : B 0 0 0) c2
    refine ev_sipush (v := (-10000)) rfl rfl (by decide) ?_
    exact ev_iret rfl rfl rfl ⟨⟨_, rfl, ((by decide : B (-10000) (-10000) (-10000)).mono (by decide) (by decide))⟩, rfl, rfl⟩

