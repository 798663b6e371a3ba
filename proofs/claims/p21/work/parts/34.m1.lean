set_option maxRecDepth 100000 in
set_option maxHeartbeats 4000000 in
theorem w_X10_isWhistle_63 (L : Nat) (b : Bool) (h : Hp) (hB : Bx h) (a0 : Int32) : EvP mi_X10_isWhistle [.ref 63, .int a0] (G0 L b) h (fun r : Int32 => B r 0 1 ∧ (¬ r = 0 → B a0 0 11)) := by
  refine EvM.of2 (lo := [some (.ref 63), some (.int a0)]) pf_X10_isWhistle ok_X10_isWhistle rfl rfl ?_
  refine ev_iload_n rfl rfl rfl ?_
  refine ev_i2l rfl rfl ?_
  refine ev_lconst (v := 0) rfl rfl rfl ?_
  refine ev_aload_n rfl rfl rfl ?_
  refine ev_getW (l := 0) (u := 12) hB rfl rfl rfl fl_X10_121 rfl rfl rfl (fun v1 b1 e1 => ?_)
  refine ev_iconst (v := 1) rfl rfl (by decide) ?_
  refine ev_isubB (l := -1) (u := 11) rfl rfl b1 (by decide : B 1 1 1) (by decide) (by decide) (by decide) (by decide) (fun v2 b2 e2 g2 => ?_)
  refine ev_i2l rfl rfl ?_
  refine ev_S3P rfl rfl lk_X10_124 st_X10_in rfl rfl (w_in (G0 L b) h a0 0 (Int32.toInt64 v2) (by decide : BL 0 0 0) (B.long b2)) (fun r3 q3 => ?_)
  obtain ⟨b3, p3_0⟩ := q3
  exact ev_iret rfl rfl (ev_rtB b3) ⟨⟨_, rfl, ⟨b3, (fun e_ => (p3_0 e_).mono (by decide) (by decide))⟩⟩, rfl, rfl⟩

set_option maxRecDepth 100000 in
set_option maxHeartbeats 4000000 in
theorem w_X10_drawn_63 (L : Nat) (b : Bool) (h : Hp) (hB : Bx h) (a0 : Int32) : EvP mi_X10_drawn [.ref 63, .int a0] (G0 L b) h (fun r : Int32 => B r (-2147483648) 2147483647) := by
  refine EvM.of2 (lo := [some (.ref 63), some (.int a0), none, none]) pf_X10_drawn ok_X10_drawn rfl rfl ?_
  refine ev_iconst (v := 0) rfl rfl (by decide) ?_
  refine ev_istore_n rfl rfl rfl rfl ?_
  dsimp only [List.set]
  refine ev_iconst (v := 0) rfl rfl (by decide) ?_
  refine ev_istore_n rfl rfl rfl rfl ?_
  dsimp only [List.set]
  have lp4_116 : ∀ (n : Nat) (w117 : Int32) (w118 : Int32), B w118 0 12 → 12 + 1 - w118.toInt ≤ (n : Int) → EvQ mi_X10_drawn 4 [some (.ref 63), some (.int a0), some (.int w117), some (.int w118)] [] (G0 L b) h 0 0 (QP (fun r : Int32 => B r (-2147483648) 2147483647) (G0 L b) h) := by
    intro n
    induction n with
    | zero =>
      intro w117 w118 b119 hm4
      exact absurd hm4 (L_zero b119 (by decide))
    | succ n ih4 =>
      intro w117 w118 b119 hm4
      refine ev_iload_n rfl rfl rfl ?_
      refine ev_aload_n rfl rfl rfl ?_
      refine ev_getW (l := 0) (u := 12) hB rfl rfl rfl fl_X10_121 rfl rfl rfl (fun v120 b120 e120 => ?_)
      refine ev_icmp_ge rfl rfl (fun c121 => ?_) (fun c121 => ?_)
      · refine ev_iload_n rfl rfl rfl ?_
        exact ev_iret rfl rfl rfl ⟨⟨_, rfl, (B.any w117)⟩, rfl, rfl⟩
      · have b122 : B w118 0 11 := R_ltX b119 b120 (Int32.not_le.mp c121) (by decide)
        have b123 : B v120 1 12 := R_ltY b119 b120 (Int32.not_le.mp c121) (by decide)
        refine ev_iload_n rfl rfl rfl ?_
        refine ev_iload_n rfl rfl rfl ?_
        refine ev_iload_n rfl rfl rfl ?_
        refine ev_ishrA rfl rfl (fun v124 => ?_)
        refine ev_iconst (v := 1) rfl rfl (by decide) ?_
        refine ev_iandB rfl rfl (by decide : B 1 1 1) (by decide) (fun v125 b125 e125 => ?_)
        refine ev_iconst (v := 1) rfl rfl (by decide) ?_
        refine ev_icmp_ne rfl rfl (fun c126 => ?_) (fun c126 => ?_)
        · have b127 : B v125 0 0 := R_neU b125 (by decide : B 1 1 1) c126 (by decide)
          refine ev_aload_n rfl rfl rfl ?_
          refine ev_getR (y := 70) rfl rfl fl_X10_42 rfl rfl rfl rfl ?_
          refine ev_iload_n rfl rfl rfl ?_
          refine ev_zalW (n := 12) (l := (-2147483648)) (u := 2147483647) hB b122 (by decide) (by decide) (fun _ => rfl) rfl rfl rfl (fun v129 b129 e129 => ?_)
          refine ev_if_eq rfl rfl (fun c130 => ?_) (fun c130 => ?_)
          · have b131 : B v129 0 0 := R_eqX (B.any v129) (by decide : B 0 0 0) c130
            refine ev_iconst (v := 0) rfl rfl (by decide) ?_
            refine ev_iaddB (l := -2147483648) (u := 2147483647) rfl rfl (B.any w117) (by decide : B 0 0 0) (by decide) (by decide) (by decide) (by decide) (fun v132 b132 e132 g132 => ?_)
            refine ev_istore_n rfl rfl rfl rfl ?_
            dsimp only [List.set]
            refine ev_iincB (y := 1) (l := 1) (u := 12) rfl rfl rfl (by decide) rfl rfl b122 (by decide : B 1 1 1) (by decide) (by decide) (by decide) (by decide) (fun v133 b133 e133 => ?_)
            dsimp only [List.set]
            refine ev_goto rfl rfl ?_
            exact (ih4 v132 v133 (b133.mono (by decide) (by decide)) (L_up hm4 (e_p1 e133 (by decide))))
          · refine ev_aload_n rfl rfl rfl ?_
            refine ev_getR (y := 65) rfl rfl fl_X10_26 rfl rfl rfl rfl ?_
            refine ev_iload_n rfl rfl rfl ?_
            refine ev_ialW (n := 12) (l := (-2147483648)) (u := 2147483647) hB b122 (by decide) (by decide) (fun _ => rfl) rfl rfl rfl (fun v134 b134 e134 => ?_)
            refine ev_iconst (v := 2) rfl rfl (by decide) ?_
            refine ev_idivA (by decide : B 2 2 2) (by decide) rfl rfl (fun v135 => ?_)
            refine ev_goto rfl rfl ?_
            refine ev_iaddA rfl rfl (fun v136 g136 => ?_)
            refine ev_istore_n rfl rfl rfl rfl ?_
            dsimp only [List.set]
            refine ev_iincB (y := 1) (l := 1) (u := 12) rfl rfl rfl (by decide) rfl rfl b122 (by decide : B 1 1 1) (by decide) (by decide) (by decide) (by decide) (fun v137 b137 e137 => ?_)
            dsimp only [List.set]
            refine ev_goto rfl rfl ?_
            exact (ih4 v136 v137 (b137.mono (by decide) (by decide)) (L_up hm4 (e_p1 e137 (by decide))))
        · have b128 : B v125 1 1 := R_eqX b125 (by decide : B 1 1 1) c126
          refine ev_aload_n rfl rfl rfl ?_
          refine ev_getR (y := 65) rfl rfl fl_X10_26 rfl rfl rfl rfl ?_
          refine ev_iload_n rfl rfl rfl ?_
          refine ev_ialW (n := 12) (l := (-2147483648)) (u := 2147483647) hB b122 (by decide) (by decide) (fun _ => rfl) rfl rfl rfl (fun v138 b138 e138 => ?_)
          refine ev_goto rfl rfl ?_
          refine ev_iaddA rfl rfl (fun v139 g139 => ?_)
          refine ev_istore_n rfl rfl rfl rfl ?_
          dsimp only [List.set]
          refine ev_iincB (y := 1) (l := 1) (u := 12) rfl rfl rfl (by decide) rfl rfl b122 (by decide : B 1 1 1) (by decide) (by decide) (by decide) (by decide) (fun v140 b140 e140 => ?_)
          dsimp only [List.set]
          refine ev_goto rfl rfl ?_
          exact (ih4 v139 v140 (b140.mono (by decide) (by decide)) (L_up hm4 (e_p1 e140 (by decide))))
  exact (lp4_116 13 0 0 ((by decide : B 0 0 0).mono (by decide) (by decide)) (L_init (by decide : B 0 0 0) (by decide)))

set_option maxRecDepth 100000 in
set_option maxHeartbeats 4000000 in
theorem w_X10_off_63 (L : Nat) (b : Bool) (h : Hp) (hB : Bx h) (a0 : Int32) (p0 : B a0 0 11) (a1 : Int32) : EvP mi_X10_off [.ref 63, .int a0, .int a1] (G0 L b) h (fun r : Int32 => B r (-2147483648) 2147483647) := by
  refine EvM.of2 (lo := [some (.ref 63), some (.int a0), some (.int a1)]) pf_X10_off ok_X10_off rfl rfl ?_
  refine ev_aload_n rfl rfl rfl ?_
  refine ev_getR (y := 68) rfl rfl fl_X10_36 rfl rfl rfl rfl ?_
  refine ev_iload_n rfl rfl rfl ?_
  refine ev_ialW (n := 12) (l := (-2147483648)) (u := 2147483647) hB p0 (by decide) (by decide) (fun _ => rfl) rfl rfl rfl (fun v1 b1 e1 => ?_)
  refine ev_aload_n rfl rfl rfl ?_
  refine ev_getR (y := 69) rfl rfl fl_X10_39 rfl rfl rfl rfl ?_
  refine ev_iload_n rfl rfl rfl ?_
  refine ev_ialW (n := 12) (l := (-2147483648)) (u := 2147483647) hB p0 (by decide) (by decide) (fun _ => rfl) rfl rfl rfl (fun v2 b2 e2 => ?_)
  refine ev_iaddA rfl rfl (fun v3 g3 => ?_)
  refine ev_aload_n rfl rfl rfl ?_
  refine ev_getR (y := 66) rfl rfl fl_X10_29 rfl rfl rfl rfl ?_
  refine ev_iload_n rfl rfl rfl ?_
  refine ev_ialW (n := 12) (l := (-2147483648)) (u := 2147483647) hB p0 (by decide) (by decide) (fun _ => rfl) rfl rfl rfl (fun v4 b4 e4 => ?_)
  refine ev_iload_n rfl rfl rfl ?_
  refine ev_bipush (v := 100) rfl rfl (by decide) ?_
  refine ev_isubA rfl rfl (fun v5 g5 => ?_)
  refine ev_imulA rfl rfl (fun v6 => ?_)
  refine ev_bipush (v := 10) rfl rfl (by decide) ?_
  refine ev_S2P rfl rfl lk_X10_149 st_X10_down rfl rfl (w_any (c_down (G0 L b) h v6 10 ((by decide : B 10 10 10).ne0 (by decide)))) (fun r7 q7 => ?_)
  refine ev_iaddA rfl rfl (fun v8 g8 => ?_)
  exact ev_iret rfl rfl rfl ⟨⟨_, rfl, (B.any v8)⟩, rfl, rfl⟩

set_option maxRecDepth 100000 in
set_option maxHeartbeats 4000000 in
theorem w_X10_strayOf_63 (L : Nat) (b : Bool) (h : Hp) (hB : Bx h) (a0 : Int32) (a1 : Int32) : EvP mi_X10_strayOf [.ref 63, .int a0, .int a1] (G0 L b) h (fun r : Int32 => B r 0 2147483647) := by
  refine EvM.of2 (lo := [some (.ref 63), some (.int a0), some (.int a1), none, none, none]) pf_X10_strayOf ok_X10_strayOf rfl rfl ?_
  refine ev_iconst (v := 0) rfl rfl (by decide) ?_
  refine ev_istore_n rfl rfl rfl rfl ?_
  dsimp only [List.set]
  refine ev_iconst (v := 0) rfl rfl (by decide) ?_
  refine ev_istore rfl rfl rfl rfl ?_
  dsimp only [List.set]
  have lp5_101 : ∀ (n : Nat) (w102 : Int32) (w103 : Int32), B w102 0 2147483647 → B w103 0 12 → 12 + 1 - w103.toInt ≤ (n : Int) → EvQ mi_X10_strayOf 5 [some (.ref 63), some (.int a0), some (.int a1), some (.int w102), some (.int w103), none] [] (G0 L b) h 0 0 (QP (fun r : Int32 => B r 0 2147483647) (G0 L b) h) := by
    intro n
    induction n with
    | zero =>
      intro w102 w103 b104 b105 hm5
      exact absurd hm5 (L_zero b105 (by decide))
    | succ n ih5 =>
      intro w102 w103 b104 b105 hm5
      refine ev_iload rfl rfl rfl ?_
      refine ev_aload_n rfl rfl rfl ?_
      refine ev_getW (l := 0) (u := 12) hB rfl rfl rfl fl_X10_121 rfl rfl rfl (fun v106 b106 e106 => ?_)
      refine ev_icmp_ge rfl rfl (fun c107 => ?_) (fun c107 => ?_)
      · refine ev_iload_n rfl rfl rfl ?_
        exact ev_iret rfl rfl rfl ⟨⟨_, rfl, b104⟩, rfl, rfl⟩
      · have b108 : B w103 0 11 := R_ltX b105 b106 (Int32.not_le.mp c107) (by decide)
        have b109 : B v106 1 12 := R_ltY b105 b106 (Int32.not_le.mp c107) (by decide)
        refine ev_iload_n rfl rfl rfl ?_
        refine ev_iload rfl rfl rfl ?_
        refine ev_ishrA rfl rfl (fun v110 => ?_)
        refine ev_iconst (v := 1) rfl rfl (by decide) ?_
        refine ev_iandB rfl rfl (by decide : B 1 1 1) (by decide) (fun v111 b111 e111 => ?_)
        refine ev_iconst (v := 1) rfl rfl (by decide) ?_
        refine ev_icmp_ne rfl rfl (fun c112 => ?_) (fun c112 => ?_)
        · have b113 : B v111 0 0 := R_neU b111 (by decide : B 1 1 1) c112 (by decide)
          refine ev_iconst (v := 0) rfl rfl (by decide) ?_
          refine ev_istore rfl rfl rfl rfl ?_
          dsimp only [List.set]
          refine ev_iload rfl rfl rfl ?_
          refine ev_iload_n rfl rfl rfl ?_
          refine ev_icmp_le rfl rfl (fun c115 => ?_) (fun c115 => absurd (D_le (by decide : B 0 0 0) b104 (by decide)) c115)
          refine ev_iload_n rfl rfl rfl ?_
          refine ev_istore_n rfl rfl rfl rfl ?_
          dsimp only [List.set]
          refine ev_iincB (y := 1) (l := 1) (u := 12) rfl rfl rfl (by decide) rfl rfl b108 (by decide : B 1 1 1) (by decide) (by decide) (by decide) (by decide) (fun v116 b116 e116 => ?_)
          dsimp only [List.set]
          refine ev_goto rfl rfl ?_
          exact (EvQ.drop 5 (ih5 w102 v116 b104 (b116.mono (by decide) (by decide)) (L_up hm5 (e_p1 e116 (by decide)))))
        · have b114 : B v111 1 1 := R_eqX b111 (by decide : B 1 1 1) c112
          refine ev_aload_n rfl rfl rfl ?_
          refine ev_iload rfl rfl rfl ?_
          refine ev_iload_n rfl rfl rfl ?_
          refine ev_V2P rfl rfl lk_X10_153 vt_X10_off rfl rfl rfl rfl rfl (w_X10_off_63 L b h hB w103 b108 a1) (fun r117 q117 => ?_)
          refine ev_S1P rfl rfl lk_X10_156 st_X10_size rfl rfl (w_any (c_size (G0 L b) h r117)) (fun r118 q118 => ?_)
          refine ev_goto rfl rfl ?_
          refine ev_istore rfl rfl rfl rfl ?_
          dsimp only [List.set]
          refine ev_iload rfl rfl rfl ?_
          refine ev_iload_n rfl rfl rfl ?_
          refine ev_icmp_le rfl rfl (fun c119 => ?_) (fun c119 => ?_)
          · refine ev_iload_n rfl rfl rfl ?_
            refine ev_istore_n rfl rfl rfl rfl ?_
            dsimp only [List.set]
            refine ev_iincB (y := 1) (l := 1) (u := 12) rfl rfl rfl (by decide) rfl rfl b108 (by decide : B 1 1 1) (by decide) (by decide) (by decide) (by decide) (fun v122 b122 e122 => ?_)
            dsimp only [List.set]
            refine ev_goto rfl rfl ?_
            exact (EvQ.drop 5 (ih5 w102 v122 b104 (b122.mono (by decide) (by decide)) (L_up hm5 (e_p1 e122 (by decide)))))
          · have b120 : B r118 1 2147483647 := R_ltY b104 (B.any r118) (Int32.not_le.mp c119) (by decide)
            have b121 : B w102 0 2147483646 := R_ltX b104 (B.any r118) (Int32.not_le.mp c119) (by decide)
            refine ev_iload rfl rfl rfl ?_
            refine ev_goto rfl rfl ?_
            refine ev_istore_n rfl rfl rfl rfl ?_
            dsimp only [List.set]
            refine ev_iincB (y := 1) (l := 1) (u := 12) rfl rfl rfl (by decide) rfl rfl b108 (by decide : B 1 1 1) (by decide) (by decide) (by decide) (by decide) (fun v123 b123 e123 => ?_)
            dsimp only [List.set]
            refine ev_goto rfl rfl ?_
            exact (EvQ.drop 5 (ih5 r118 v123 (b120.mono (by decide) (by decide)) (b123.mono (by decide) (by decide)) (L_up hm5 (e_p1 e123 (by decide)))))
  exact (lp5_101 13 0 0 ((by decide : B 0 0 0).mono (by decide) (by decide)) ((by decide : B 0 0 0).mono (by decide) (by decide)) (L_init (by decide : B 0 0 0) (by decide)))

set_option maxRecDepth 100000 in
set_option maxHeartbeats 4000000 in
theorem w_X10_whistle_63 (L : Nat) (b : Bool) (h : Hp) (hB : Bx h) (a0 : Int32) (a1 : Int32) (a2 : Int32) (a3 : Int32) (p3 : B a3 0 1) : EvJ mi_X10_whistle [.ref 63, .int a0, .int a1, .int a2, .int a3] (G0 L b) h (fun r : Int32 => B r (-3) 11) [(63, 5), (64, 999), (65, 999), (66, 999), (67, 999), (68, 999), (69, 999), (70, 999)] := by
  refine EvM.of2 (lo := [some (.ref 63), some (.int a0), some (.int a1), some (.int a2), some (.int a3)]) pf_X10_whistle ok_X10_whistle rfl rfl ?_
  have hJ0 : JW [(63, 5), (64, 999), (65, 999), (66, 999), (67, 999), (68, 999), (69, 999), (70, 999)] h h := JW.refl hB
  refine ev_iload_n rfl rfl rfl ?_
  refine ev_i2l rfl rfl ?_
  refine ev_lconst (v := 0) rfl rfl rfl ?_
  refine ev_ldc2 (v := 3600) rfl rfl kc_X10_165 ?_
  refine ev_S3P rfl rfl lk_X10_124 st_X10_in rfl rfl (w_in (G0 L b) h a0 0 3600 (by decide : BL 0 0 0) (by decide : BL 3600 3600 3600)) (fun r1 q1 => ?_)
  obtain ⟨b1, p1_0⟩ := q1
  refine ev_if_eq rfl rfl (fun c2 => ?_) (fun c2 => ?_)
  · have b3 : B r1 0 0 := R_eqX b1 (by decide : B 0 0 0) c2
    refine ev_iconst (v := (-1)) rfl rfl (by decide) ?_
    exact ev_iret rfl rfl rfl ⟨⟨_, rfl, ((by decide : B (-1) (-1) (-1)).mono (by decide) (by decide))⟩, rfl, hJ0⟩
  · have b4 : B r1 1 1 := R_neL b1 (by decide : B 0 0 0) c2 (by decide)
    have b5 : B a0 0 3600 := p1_0 c2
    refine ev_iload_n rfl rfl rfl ?_
    refine ev_i2l rfl rfl ?_
    refine ev_lconst (v := 1) rfl rfl rfl ?_
    refine ev_ldc2 (v := 9) rfl rfl kc_X10_134 ?_
    refine ev_S3P rfl rfl lk_X10_124 st_X10_in rfl rfl (w_in (G0 L b) h a1 1 9 (by decide : BL 1 1 1) (by decide : BL 9 9 9)) (fun r6 q6 => ?_)
    obtain ⟨b6, p6_0⟩ := q6
    refine ev_if_eq rfl rfl (fun c7 => ?_) (fun c7 => ?_)
    · have b8 : B r6 0 0 := R_eqX b6 (by decide : B 0 0 0) c7
      refine ev_iconst (v := (-1)) rfl rfl (by decide) ?_
      exact ev_iret rfl rfl rfl ⟨⟨_, rfl, ((by decide : B (-1) (-1) (-1)).mono (by decide) (by decide))⟩, rfl, hJ0⟩
    · have b9 : B r6 1 1 := R_neL b6 (by decide : B 0 0 0) c7 (by decide)
      have b10 : B a1 1 9 := p6_0 c7
      refine ev_iload_n rfl rfl rfl ?_
      refine ev_i2l rfl rfl ?_
      refine ev_lconst (v := 0) rfl rfl rfl ?_
      refine ev_ldc2 (v := 20) rfl rfl kc_X10_167 ?_
      refine ev_S3P rfl rfl lk_X10_124 st_X10_in rfl rfl (w_in (G0 L b) h a2 0 20 (by decide : BL 0 0 0) (by decide : BL 20 20 20)) (fun r11 q11 => ?_)
      obtain ⟨b11, p11_0⟩ := q11
      refine ev_if_ne rfl rfl (fun c12 => ?_) (fun c12 => ?_)
      · have b13 : B r11 1 1 := R_neL b11 (by decide : B 0 0 0) c12 (by decide)
        have b14 : B a2 0 20 := p11_0 c12
        refine ev_aload_n rfl rfl rfl ?_
        refine ev_getW (l := 0) (u := 12) hJ0.1 rfl rfl rfl fl_X10_121 rfl rfl rfl (fun v16 b16 e16 => ?_)
        refine ev_bipush (v := 12) rfl rfl (by decide) ?_
        refine ev_icmp_ne rfl rfl (fun c17 => ?_) (fun c17 => ?_)
        · have b18 : B v16 0 11 := R_neU b16 (by decide : B 12 12 12) c17 (by decide)
          refine ev_aload_n rfl rfl rfl ?_
          refine ev_getR (y := 64) rfl rfl fl_X10_22 rfl rfl rfl rfl ?_
          refine ev_aload_n rfl rfl rfl ?_
          refine ev_getV (v := v16) rfl rfl fl_X10_121 rfl rfl rfl e16 ?_
          refine ev_iload_n rfl rfl rfl ?_
          refine ev_iasW (n := 12) (l := (-2147483648)) (u := 2147483647) hJ0 b18 (by decide) (by decide) (fun _ => rfl) b5 (by decide) (by decide) (fun _ => rfl) rfl rfl rfl rfl (fun h20 hJ20 k20 => ?_)
          refine ev_aload_n rfl rfl rfl ?_
          refine ev_getR (y := 65) rfl rfl fl_X10_26 rfl rfl rfl rfl ?_
          refine ev_aload_n rfl rfl rfl ?_
          refine ev_getV (v := v16) rfl rfl fl_X10_121 rfl rfl rfl (rd_a k20 e16 rfl) ?_
          refine ev_iload_n rfl rfl rfl ?_
          refine ev_iasW (n := 12) (l := (-2147483648)) (u := 2147483647) hJ20 b18 (by decide) (by decide) (fun _ => rfl) b10 (by decide) (by decide) (fun _ => rfl) rfl rfl rfl rfl (fun h21 hJ21 k21 => ?_)
          refine ev_aload_n rfl rfl rfl ?_
          refine ev_getR (y := 66) rfl rfl fl_X10_29 rfl rfl rfl rfl ?_
          refine ev_aload_n rfl rfl rfl ?_
          refine ev_getV (v := v16) rfl rfl fl_X10_121 rfl rfl rfl (rd_a k21 (rd_a k20 e16 rfl) rfl) ?_
          refine ev_iload_n rfl rfl rfl ?_
          refine ev_iasW (n := 12) (l := (-2147483648)) (u := 2147483647) hJ21 b18 (by decide) (by decide) (fun _ => rfl) b14 (by decide) (by decide) (fun _ => rfl) rfl rfl rfl rfl (fun h22 hJ22 k22 => ?_)
          refine ev_aload_n rfl rfl rfl ?_
          refine ev_getR (y := 67) rfl rfl fl_X10_32 rfl rfl rfl rfl ?_
          refine ev_aload_n rfl rfl rfl ?_
          refine ev_getV (v := v16) rfl rfl fl_X10_121 rfl rfl rfl (rd_a k22 (rd_a k21 (rd_a k20 e16 rfl) rfl) rfl) ?_
          refine ev_iload rfl rfl rfl ?_
          refine ev_zasW (n := 12) (l := (-2147483648)) (u := 2147483647) hJ22 b18 (by decide) (by decide) (fun _ => rfl) p3 (by decide) (by decide) (fun _ => rfl) rfl rfl rfl rfl (fun h23 hJ23 k23 => ?_)
          refine ev_aload_n rfl rfl rfl ?_
          refine ev_getR (y := 68) rfl rfl fl_X10_36 rfl rfl rfl rfl ?_
          refine ev_aload_n rfl rfl rfl ?_
          refine ev_getV (v := v16) rfl rfl fl_X10_121 rfl rfl rfl (rd_a k23 (rd_a k22 (rd_a k21 (rd_a k20 e16 rfl) rfl) rfl) rfl) ?_
          refine ev_iconst (v := 0) rfl rfl (by decide) ?_
          refine ev_iasW (n := 12) (l := (-2147483648)) (u := 2147483647) hJ23 b18 (by decide) (by decide) (fun _ => rfl) (by decide : B 0 0 0) (by decide) (by decide) (fun _ => rfl) rfl rfl rfl rfl (fun h24 hJ24 k24 => ?_)
          refine ev_aload_n rfl rfl rfl ?_
          refine ev_getR (y := 69) rfl rfl fl_X10_39 rfl rfl rfl rfl ?_
          refine ev_aload_n rfl rfl rfl ?_
          refine ev_getV (v := v16) rfl rfl fl_X10_121 rfl rfl rfl (rd_a k24 (rd_a k23 (rd_a k22 (rd_a k21 (rd_a k20 e16 rfl) rfl) rfl) rfl) rfl) ?_
          refine ev_iconst (v := 0) rfl rfl (by decide) ?_
          refine ev_iasW (n := 12) (l := (-2147483648)) (u := 2147483647) hJ24 b18 (by decide) (by decide) (fun _ => rfl) (by decide : B 0 0 0) (by decide) (by decide) (fun _ => rfl) rfl rfl rfl rfl (fun h25 hJ25 k25 => ?_)
          refine ev_aload_n rfl rfl rfl ?_
          refine ev_getR (y := 70) rfl rfl fl_X10_42 rfl rfl rfl rfl ?_
          refine ev_aload_n rfl rfl rfl ?_
          refine ev_getV (v := v16) rfl rfl fl_X10_121 rfl rfl rfl (rd_a k25 (rd_a k24 (rd_a k23 (rd_a k22 (rd_a k21 (rd_a k20 e16 rfl) rfl) rfl) rfl) rfl) rfl) ?_
          refine ev_iconst (v := 0) rfl rfl (by decide) ?_
          refine ev_zasW (n := 12) (l := (-2147483648)) (u := 2147483647) hJ25 b18 (by decide) (by decide) (fun _ => rfl) ((by decide : B 0 0 0).mono (by decide) (by decide)) (by decide) (by decide) (fun _ => rfl) rfl rfl rfl rfl (fun h26 hJ26 k26 => ?_)
          refine ev_aload_n rfl rfl rfl ?_
          refine ev_dup rfl rfl rfl ?_
          refine ev_getV (v := v16) rfl rfl fl_X10_121 rfl rfl rfl (rd_a k26 (rd_a k25 (rd_a k24 (rd_a k23 (rd_a k22 (rd_a k21 (rd_a k20 e16 rfl) rfl) rfl) rfl) rfl) rfl) rfl) ?_
          refine ev_iconst (v := 1) rfl rfl (by decide) ?_
          refine ev_iaddB (l := 1) (u := 12) rfl rfl b18 (by decide : B 1 1 1) (by decide) (by decide) (by decide) (by decide) (fun v27 b27 e27 g27 => ?_)
          refine ev_putW (l := 0) (u := 12) hJ26 rfl b27 (by decide) (by decide) rfl rfl rfl fl_X10_121 rfl rfl rfl rfl rfl (fun h28 hJ28 k28 => ?_)
          refine ev_aload_n rfl rfl rfl ?_
          refine ev_getV (v := v27) rfl rfl fl_X10_121 rfl rfl rfl (rd_s k28) ?_
          refine ev_iconst (v := 1) rfl rfl (by decide) ?_
          refine ev_isubB (l := 0) (u := 11) rfl rfl b27 (by decide : B 1 1 1) (by decide) (by decide) (by decide) (by decide) (fun v29 b29 e29 g29 => ?_)
          exact ev_iret rfl rfl rfl ⟨⟨_, rfl, (b29.mono (by decide) (by decide))⟩, rfl, hJ28⟩
        · have b19 : B v16 12 12 := R_eqX b16 (by decide : B 12 12 12) c17
          refine ev_bipush (v := (-3)) rfl rfl (by decide) ?_
          exact ev_iret rfl rfl rfl ⟨⟨_, rfl, ((by decide : B (-3) (-3) (-3)).mono (by decide) (by decide))⟩, rfl, hJ0⟩
      · have b15 : B r11 0 0 := R_eqX b11 (by decide : B 0 0 0) c12
        refine ev_iconst (v := (-1)) rfl rfl (by decide) ?_
        exact ev_iret rfl rfl rfl ⟨⟨_, rfl, ((by decide : B (-1) (-1) (-1)).mono (by decide) (by decide))⟩, rfl, hJ0⟩

set_option maxRecDepth 100000 in
set_option maxHeartbeats 4000000 in
theorem w_X10_told_63 (L : Nat) (b : Bool) (h : Hp) (hB : Bx h) (a0 : Int32) (a1 : Int32) : EvP mi_X10_told [.ref 63, .int a0, .int a1] (G0 L b) h (fun r : Int32 => B r (-2147483648) 2147483647) := by
  refine EvM.of2 (lo := [some (.ref 63), some (.int a0), some (.int a1)]) pf_X10_told ok_X10_told rfl rfl ?_
  refine ev_aload_n rfl rfl rfl ?_
  refine ev_iload_n rfl rfl rfl ?_
  refine ev_V1P rfl rfl lk_X10_169 vt_X10_isWhistle rfl rfl rfl rfl rfl (w_X10_isWhistle_63 L b h hB a0) (fun r1 q1 => ?_)
  obtain ⟨b1, p1_0⟩ := q1
  refine ev_if_eq rfl rfl (fun c2 => ?_) (fun c2 => ?_)
  · have b3 : B r1 0 0 := R_eqX b1 (by decide : B 0 0 0) c2
    refine ev_sipush (v := (-10000)) rfl rfl (by decide) ?_
    exact ev_iret rfl rfl rfl ⟨⟨_, rfl, ((by decide : B (-10000) (-10000) (-10000)).mono (by decide) (by decide))⟩, rfl, rfl⟩
  · have b4 : B r1 1 1 := R_neL b1 (by decide : B 0 0 0) c2 (by decide)
    have b5 : B a0 0 11 := p1_0 c2
    refine ev_iload_n rfl rfl rfl ?_
    refine ev_i2l rfl rfl ?_
    refine ev_lconst (v := 0) rfl rfl rfl ?_
    refine ev_ldc2 (v := 6) rfl rfl kc_X10_173 ?_
    refine ev_S3P rfl rfl lk_X10_124 st_X10_in rfl rfl (w_in (G0 L b) h a1 0 6 (by decide : BL 0 0 0) (by decide : BL 6 6 6)) (fun r6 q6 => ?_)
    obtain ⟨b6, p6_0⟩ := q6
    refine ev_if_ne rfl rfl (fun c7 => ?_) (fun c7 => ?_)
    · have b8 : B r6 1 1 := R_neL b6 (by decide : B 0 0 0) c7 (by decide)
      have b9 : B a1 0 6 := p6_0 c7
      refine ev_iload_n rfl rfl rfl ?_
      rcases ev_sw a1 0 5 with w11 | w11
      · refine ev_tabOut 114 rfl w11 (by decide) ?_
        refine ev_aload_n rfl rfl rfl ?_
        refine ev_getR (y := 70) rfl rfl fl_X10_42 rfl rfl rfl rfl ?_
        refine ev_iload_n rfl rfl rfl ?_
        refine ev_zalW (n := 12) (l := (-2147483648)) (u := 2147483647) hB b5 (by decide) (by decide) (fun _ => rfl) rfl rfl rfl (fun v12 b12 e12 => ?_)
        refine ev_if_eq rfl rfl (fun c13 => ?_) (fun c13 => ?_)
        · have b14 : B v12 0 0 := R_eqX (B.any v12) (by decide : B 0 0 0) c13
          refine ev_iconst (v := 0) rfl rfl (by decide) ?_
          exact ev_iret rfl rfl rfl ⟨⟨_, rfl, ((by decide : B 0 0 0).mono (by decide) (by decide))⟩, rfl, rfl⟩
        · refine ev_iconst (v := 1) rfl rfl (by decide) ?_
          refine ev_goto rfl rfl ?_
          exact ev_iret rfl rfl rfl ⟨⟨_, rfl, ((by decide : B 1 1 1).mono (by decide) (by decide))⟩, rfl, rfl⟩
      · have w11b : a1 = 0 ∨ a1 = 1 ∨ a1 = 2 ∨ a1 = 3 ∨ a1 = 4 ∨ a1 = 5 := sw_or6_0 w11
        rcases w11b with rfl | rfl | rfl | rfl | rfl | rfl
        · refine ev_tabIn 64 rfl (by decide) (by decide) rfl (by decide) ?_
          refine ev_aload_n rfl rfl rfl ?_
          refine ev_getR (y := 64) rfl rfl fl_X10_22 rfl rfl rfl rfl ?_
          refine ev_iload_n rfl rfl rfl ?_
          refine ev_ialW (n := 12) (l := (-2147483648)) (u := 2147483647) hB b5 (by decide) (by decide) (fun _ => rfl) rfl rfl rfl (fun v15 b15 e15 => ?_)
          exact ev_iret rfl rfl rfl ⟨⟨_, rfl, (B.any v15)⟩, rfl, rfl⟩
        · refine ev_tabIn 71 rfl (by decide) (by decide) rfl (by decide) ?_
          refine ev_aload_n rfl rfl rfl ?_
          refine ev_getR (y := 65) rfl rfl fl_X10_26 rfl rfl rfl rfl ?_
          refine ev_iload_n rfl rfl rfl ?_
          refine ev_ialW (n := 12) (l := (-2147483648)) (u := 2147483647) hB b5 (by decide) (by decide) (fun _ => rfl) rfl rfl rfl (fun v16 b16 e16 => ?_)
          exact ev_iret rfl rfl rfl ⟨⟨_, rfl, (B.any v16)⟩, rfl, rfl⟩
        · refine ev_tabIn 78 rfl (by decide) (by decide) rfl (by decide) ?_
          refine ev_aload_n rfl rfl rfl ?_
          refine ev_getR (y := 66) rfl rfl fl_X10_29 rfl rfl rfl rfl ?_
          refine ev_iload_n rfl rfl rfl ?_
          refine ev_ialW (n := 12) (l := (-2147483648)) (u := 2147483647) hB b5 (by decide) (by decide) (fun _ => rfl) rfl rfl rfl (fun v17 b17 e17 => ?_)
          exact ev_iret rfl rfl rfl ⟨⟨_, rfl, (B.any v17)⟩, rfl, rfl⟩
        · refine ev_tabIn 85 rfl (by decide) (by decide) rfl (by decide) ?_
          refine ev_aload_n rfl rfl rfl ?_
          refine ev_getR (y := 67) rfl rfl fl_X10_32 rfl rfl rfl rfl ?_
          refine ev_iload_n rfl rfl rfl ?_
          refine ev_zalW (n := 12) (l := (-2147483648)) (u := 2147483647) hB b5 (by decide) (by decide) (fun _ => rfl) rfl rfl rfl (fun v18 b18 e18 => ?_)
          refine ev_if_eq rfl rfl (fun c19 => ?_) (fun c19 => ?_)
          · have b20 : B v18 0 0 := R_eqX (B.any v18) (by decide : B 0 0 0) c19
            refine ev_iconst (v := 0) rfl rfl (by decide) ?_
            exact ev_iret rfl rfl rfl ⟨⟨_, rfl, ((by decide : B 0 0 0).mono (by decide) (by decide))⟩, rfl, rfl⟩
          · refine ev_iconst (v := 1) rfl rfl (by decide) ?_
            refine ev_goto rfl rfl ?_
            exact ev_iret rfl rfl rfl ⟨⟨_, rfl, ((by decide : B 1 1 1).mono (by decide) (by decide))⟩, rfl, rfl⟩
        · refine ev_tabIn 100 rfl (by decide) (by decide) rfl (by decide) ?_
          refine ev_aload_n rfl rfl rfl ?_
          refine ev_getR (y := 68) rfl rfl fl_X10_36 rfl rfl rfl rfl ?_
          refine ev_iload_n rfl rfl rfl ?_
          refine ev_ialW (n := 12) (l := (-2147483648)) (u := 2147483647) hB b5 (by decide) (by decide) (fun _ => rfl) rfl rfl rfl (fun v21 b21 e21 => ?_)
          exact ev_iret rfl rfl rfl ⟨⟨_, rfl, (B.any v21)⟩, rfl, rfl⟩
        · refine ev_tabIn 107 rfl (by decide) (by decide) rfl (by decide) ?_
          refine ev_aload_n rfl rfl rfl ?_
          refine ev_getR (y := 69) rfl rfl fl_X10_39 rfl rfl rfl rfl ?_
          refine ev_iload_n rfl rfl rfl ?_
          refine ev_ialW (n := 12) (l := (-2147483648)) (u := 2147483647) hB b5 (by decide) (by decide) (fun _ => rfl) rfl rfl rfl (fun v22 b22 e22 => ?_)
          exact ev_iret rfl rfl rfl ⟨⟨_, rfl, (B.any v22)⟩, rfl, rfl⟩
    · have b10 : B r6 0 0 := R_eqX b6 (by decide : B 0 0 0) c7
      refine ev_sipush (v := (-10000)) rfl rfl (by decide) ?_
      exact ev_iret rfl rfl rfl ⟨⟨_, rfl, ((by decide : B (-10000) (-10000) (-10000)).mono (by decide) (by decide))⟩, rfl, rfl⟩

set_option maxRecDepth 100000 in
set_option maxHeartbeats 4000000 in
theorem w_X10_pitch_63 (L : Nat) (b : Bool) (h : Hp) (hB : Bx h) (a0 : Int32) (a1 : Int32) : EvP mi_X10_pitch [.ref 63, .int a0, .int a1] (G0 L b) h (fun r : Int32 => B r (-2147483648) 2147483647) := by
  refine EvM.of2 (lo := [some (.ref 63), some (.int a0), some (.int a1)]) pf_X10_pitch ok_X10_pitch rfl rfl ?_
  refine ev_aload_n rfl rfl rfl ?_
  refine ev_iload_n rfl rfl rfl ?_
  refine ev_V1P rfl rfl lk_X10_169 vt_X10_isWhistle rfl rfl rfl rfl rfl (w_X10_isWhistle_63 L b h hB a0) (fun r1 q1 => ?_)
  obtain ⟨b1, p1_0⟩ := q1
  refine ev_if_eq rfl rfl (fun c2 => ?_) (fun c2 => ?_)
  · have b3 : B r1 0 0 := R_eqX b1 (by decide : B 0 0 0) c2
    refine ev_sipush (v := (-10000)) rfl rfl (by decide) ?_
    exact ev_iret rfl rfl rfl ⟨⟨_, rfl, ((by decide : B (-10000) (-10000) (-10000)).mono (by decide) (by decide))⟩, rfl, rfl⟩
  · have b4 : B r1 1 1 := R_neL b1 (by decide : B 0 0 0) c2 (by decide)
    have b5 : B a0 0 11 := p1_0 c2
    refine ev_iload_n rfl rfl rfl ?_
    refine ev_i2l rfl rfl ?_
    refine ev_lconst (v := 0) rfl rfl rfl ?_
    refine ev_ldc2 (v := 200) rfl rfl kc_X10_143 ?_
    refine ev_S3P rfl rfl lk_X10_124 st_X10_in rfl rfl (w_in (G0 L b) h a1 0 200 (by decide : BL 0 0 0) (by decide : BL 200 200 200)) (fun r6 q6 => ?_)
    obtain ⟨b6, p6_0⟩ := q6
    refine ev_if_eq rfl rfl (fun c7 => ?_) (fun c7 => ?_)
    · have b8 : B r6 0 0 := R_eqX b6 (by decide : B 0 0 0) c7
      refine ev_sipush (v := (-10000)) rfl rfl (by decide) ?_
      exact ev_iret rfl rfl rfl ⟨⟨_, rfl, ((by decide : B (-10000) (-10000) (-10000)).mono (by decide) (by decide))⟩, rfl, rfl⟩
    · have b9 : B r6 1 1 := R_neL b6 (by decide : B 0 0 0) c7 (by decide)
      have b10 : B a1 0 200 := p6_0 c7
      refine ev_aload_n rfl rfl rfl ?_
      refine ev_getR (y := 64) rfl rfl fl_X10_22 rfl rfl rfl rfl ?_
      refine ev_iload_n rfl rfl rfl ?_
      refine ev_ialW (n := 12) (l := (-2147483648)) (u := 2147483647) hB b5 (by decide) (by decide) (fun _ => rfl) rfl rfl rfl (fun v11 b11 e11 => ?_)
      refine ev_aload_n rfl rfl rfl ?_
      refine ev_iload_n rfl rfl rfl ?_
      refine ev_iload_n rfl rfl rfl ?_
      refine ev_V2P rfl rfl lk_X10_153 vt_X10_off rfl rfl rfl rfl rfl (w_X10_off_63 L b h hB a0 b5 a1) (fun r12 q12 => ?_)
      refine ev_iaddA rfl rfl (fun v13 g13 => ?_)
      refine ev_goto rfl rfl ?_
      exact ev_iret rfl rfl rfl ⟨⟨_, rfl, (B.any v13)⟩, rfl, rfl⟩

set_option maxRecDepth 100000 in
set_option maxHeartbeats 4000000 in
theorem w_X10_holds_63 (L : Nat) (b : Bool) (h : Hp) (hB : Bx h) (a0 : Int32) (a1 : Int32) : EvP mi_X10_holds [.ref 63, .int a0, .int a1] (G0 L b) h (fun r : Int32 => B r (-4) 200) := by
  refine EvM.of2 (lo := [some (.ref 63), some (.int a0), some (.int a1), none]) pf_X10_holds ok_X10_holds rfl rfl ?_
  refine ev_aload_n rfl rfl rfl ?_
  refine ev_iload_n rfl rfl rfl ?_
  refine ev_V1P rfl rfl lk_X10_169 vt_X10_isWhistle rfl rfl rfl rfl rfl (w_X10_isWhistle_63 L b h hB a0) (fun r1 q1 => ?_)
  obtain ⟨b1, p1_0⟩ := q1
  refine ev_if_eq rfl rfl (fun c2 => ?_) (fun c2 => ?_)
  · have b3 : B r1 0 0 := R_eqX b1 (by decide : B 0 0 0) c2
    refine ev_iconst (v := (-1)) rfl rfl (by decide) ?_
    exact ev_iret rfl rfl rfl ⟨⟨_, rfl, ((by decide : B (-1) (-1) (-1)).mono (by decide) (by decide))⟩, rfl, rfl⟩
  · have b4 : B r1 1 1 := R_neL b1 (by decide : B 0 0 0) c2 (by decide)
    have b5 : B a0 0 11 := p1_0 c2
    refine ev_iload_n rfl rfl rfl ?_
    refine ev_i2l rfl rfl ?_
    refine ev_lconst (v := 0) rfl rfl rfl ?_
    refine ev_ldc2 (v := 400) rfl rfl kc_X10_181 ?_
    refine ev_S3P rfl rfl lk_X10_124 st_X10_in rfl rfl (w_in (G0 L b) h a1 0 400 (by decide : BL 0 0 0) (by decide : BL 400 400 400)) (fun r6 q6 => ?_)
    obtain ⟨b6, p6_0⟩ := q6
    refine ev_if_ne rfl rfl (fun c7 => ?_) (fun c7 => ?_)
    · have b8 : B r6 1 1 := R_neL b6 (by decide : B 0 0 0) c7 (by decide)
      have b9 : B a1 0 400 := p6_0 c7
      refine ev_aload_n rfl rfl rfl ?_
      refine ev_getW (l := 0) (u := 200) hB rfl rfl rfl fl_X10_19 rfl rfl rfl (fun v11 b11 e11 => ?_)
      refine ev_iconst (v := 1) rfl rfl (by decide) ?_
      refine ev_iaddB (l := 1) (u := 201) rfl rfl b11 (by decide : B 1 1 1) (by decide) (by decide) (by decide) (by decide) (fun v12 b12 e12 g12 => ?_)
      refine ev_istore_n rfl rfl rfl rfl ?_
      dsimp only [List.set]
      have lp29_71 : ∀ (n : Nat) (w72 : Int32), B w72 0 201 → w72.toInt + 1 - 0 ≤ (n : Int) → EvQ mi_X10_holds 29 [some (.ref 63), some (.int a0), some (.int a1), some (.int w72)] [] (G0 L b) h 0 0 (QP (fun r : Int32 => B r (-4) 200) (G0 L b) h) := by
        intro n
        induction n with
        | zero =>
          intro w72 b73 hm29
          exact absurd hm29 (M_zero b73 (by decide))
        | succ n ih29 =>
          intro w72 b73 hm29
          refine ev_iload_n rfl rfl rfl ?_
          refine ev_if_le rfl rfl (fun c74 => ?_) (fun c74 => ?_)
          · have b75 : B w72 0 0 := R_leX b73 (by decide : B 0 0 0) c74 (by decide)
            refine ev_iload_n rfl rfl rfl ?_
            refine ev_aload_n rfl rfl rfl ?_
            refine ev_getV (v := v11) rfl rfl fl_X10_19 rfl rfl rfl e11 ?_
            refine ev_icmp_le rfl rfl (fun c77 => ?_) (fun c77 => absurd (D_le b75 b11 (by decide)) c77)
            refine ev_iload_n rfl rfl rfl ?_
            exact ev_iret rfl rfl rfl ⟨⟨_, rfl, (b75.mono (by decide) (by decide))⟩, rfl, rfl⟩
          · have b76 : B w72 1 201 := R_ltY (by decide : B 0 0 0) b73 (Int32.not_le.mp c74) (by decide)
            refine ev_aload_n rfl rfl rfl ?_
            refine ev_iload_n rfl rfl rfl ?_
            refine ev_iload_n rfl rfl rfl ?_
            refine ev_iconst (v := 1) rfl rfl (by decide) ?_
            refine ev_isubB (l := 0) (u := 200) rfl rfl b76 (by decide : B 1 1 1) (by decide) (by decide) (by decide) (by decide) (fun v78 b78 e78 g78 => ?_)
            refine ev_V2P rfl rfl lk_X10_153 vt_X10_off rfl rfl rfl rfl rfl (w_X10_off_63 L b h hB a0 b5 v78) (fun r79 q79 => ?_)
            refine ev_S1P rfl rfl lk_X10_156 st_X10_size rfl rfl (w_any (c_size (G0 L b) h r79)) (fun r80 q80 => ?_)
            refine ev_iload_n rfl rfl rfl ?_
            refine ev_icmp_gt rfl rfl (fun c81 => ?_) (fun c81 => ?_)
            · have b82 : B r80 1 2147483647 := R_ltY b9 (B.any r80) c81 (by decide)
              refine ev_iload_n rfl rfl rfl ?_
              refine ev_aload_n rfl rfl rfl ?_
              refine ev_getV (v := v11) rfl rfl fl_X10_19 rfl rfl rfl e11 ?_
              refine ev_icmp_le rfl rfl (fun c84 => ?_) (fun c84 => ?_)
              · have b85 : B w72 1 200 := R_leX b76 b11 c84 (by decide)
                have b86 : B v11 1 200 := R_leY b76 b11 c84 (by decide)
                refine ev_iload_n rfl rfl rfl ?_
                exact ev_iret rfl rfl rfl ⟨⟨_, rfl, (b85.mono (by decide) (by decide))⟩, rfl, rfl⟩
              · refine ev_bipush (v := (-4)) rfl rfl (by decide) ?_
                refine ev_goto rfl rfl ?_
                exact ev_iret rfl rfl rfl ⟨⟨_, rfl, ((by decide : B (-4) (-4) (-4)).mono (by decide) (by decide))⟩, rfl, rfl⟩
            · have b83 : B r80 (-2147483648) 400 := R_leX (B.any r80) b9 (Int32.not_lt.mp c81) (by decide)
              refine ev_iincB (y := (-1)) (l := 0) (u := 200) rfl rfl rfl (by decide) rfl rfl b76 (by decide : B (-1) (-1) (-1)) (by decide) (by decide) (by decide) (by decide) (fun v87 b87 e87 => ?_)
              dsimp only [List.set]
              refine ev_goto rfl rfl ?_
              exact (ih29 v87 (b87.mono (by decide) (by decide)) (M_dn hm29 (e_m1 e87 (by decide))))
      exact (lp29_71 202 v12 (b12.mono (by decide) (by decide)) (M_init b12 (by decide)))
    · have b10 : B r6 0 0 := R_eqX b6 (by decide : B 0 0 0) c7
      refine ev_iconst (v := (-1)) rfl rfl (by decide) ?_
      exact ev_iret rfl rfl rfl ⟨⟨_, rfl, ((by decide : B (-1) (-1) (-1)).mono (by decide) (by decide))⟩, rfl, rfl⟩

set_option maxRecDepth 100000 in
set_option maxHeartbeats 4000000 in
theorem w_X10_agree_63 (L : Nat) (b : Bool) (h : Hp) (hB : Bx h) (a0 : Int32) : EvP mi_X10_agree [.ref 63, .int a0] (G0 L b) h (fun r : Int32 => B r (-2147483648) 2147483647) := by
  refine EvM.of2 (lo := [some (.ref 63), some (.int a0), none, none, none, none]) pf_X10_agree ok_X10_agree rfl rfl ?_
  refine ev_iload_n rfl rfl rfl ?_
  refine ev_i2l rfl rfl ?_
  refine ev_lconst (v := 0) rfl rfl rfl ?_
  refine ev_ldc2 (v := 2) rfl rfl kc_X10_183 ?_
  refine ev_S3P rfl rfl lk_X10_124 st_X10_in rfl rfl (w_in (G0 L b) h a0 0 2 (by decide : BL 0 0 0) (by decide : BL 2 2 2)) (fun r1 q1 => ?_)
  obtain ⟨b1, p1_0⟩ := q1
  refine ev_if_ne rfl rfl (fun c2 => ?_) (fun c2 => ?_)
  · have b3 : B r1 1 1 := R_neL b1 (by decide : B 0 0 0) c2 (by decide)
    have b4 : B a0 0 2 := p1_0 c2
    refine ev_aload_n rfl rfl rfl ?_
    refine ev_getW (l := 0) (u := 12) hB rfl rfl rfl fl_X10_121 rfl rfl rfl (fun v6 b6 e6 => ?_)
    refine ev_if_ne rfl rfl (fun c7 => ?_) (fun c7 => ?_)
    · have b8 : B v6 1 12 := R_neL b6 (by decide : B 0 0 0) c7 (by decide)
      refine ev_iconst (v := 0) rfl rfl (by decide) ?_
      refine ev_istore_n rfl rfl rfl rfl ?_
      dsimp only [List.set]
      refine ev_ldc (v := 1000000) rfl rfl kc_X10_185 ?_
      refine ev_istore_n rfl rfl rfl rfl ?_
      dsimp only [List.set]
      refine ev_iconst (v := 0) rfl rfl (by decide) ?_
      refine ev_istore rfl rfl rfl rfl ?_
      dsimp only [List.set]
      have lp32_1592 : ∀ (n : Nat) (w1593 : Int32) (w1594 : Int32) (w1595 : Int32), B w1593 0 200 → B w1594 0 1000000 → B w1595 0 201 → 201 + 1 - w1595.toInt ≤ (n : Int) → EvQ mi_X10_agree 32 [some (.ref 63), some (.int a0), some (.int w1593), some (.int w1594), some (.int w1595), none] [] (G0 L b) h 0 0 (QP (fun r : Int32 => B r (-2147483648) 2147483647) (G0 L b) h) := by
        intro n
        induction n with
        | zero =>
          intro w1593 w1594 w1595 b1596 b1597 b1598 hm32
          exact absurd hm32 (L_zero b1598 (by decide))
        | succ n ih32 =>
          intro w1593 w1594 w1595 b1596 b1597 b1598 hm32
          refine ev_iload rfl rfl rfl ?_
          refine ev_aload_n rfl rfl rfl ?_
          refine ev_getW (l := 0) (u := 200) hB rfl rfl rfl fl_X10_19 rfl rfl rfl (fun v1599 b1599 e1599 => ?_)
          refine ev_icmp_gt rfl rfl (fun c1600 => ?_) (fun c1600 => ?_)
          · have b1601 : B w1595 1 201 := R_ltY b1599 b1598 c1600 (by decide)
            refine ev_iconst (v := 0) rfl rfl (by decide) ?_
            refine ev_istore rfl rfl rfl rfl ?_
            dsimp only [List.set]
            refine ev_iconst (v := 0) rfl rfl (by decide) ?_
            refine ev_istore rfl rfl rfl rfl ?_
            dsimp only [List.set]
            have lp81_1784 : ∀ (n : Nat) (w1785 : Int32) (w1786 : Int32), B w1786 0 12 → 12 + 1 - w1786.toInt ≤ (n : Int) → EvQ mi_X10_agree 81 [some (.ref 63), some (.int a0), some (.int w1593), some (.int w1594), some (.int w1785), some (.int w1786)] [] (G0 L b) h 0 0 (QP (fun r : Int32 => B r (-2147483648) 2147483647) (G0 L b) h) := by
              intro n
              induction n with
              | zero =>
                intro w1785 w1786 b1787 hm81
                exact absurd hm81 (L_zero b1787 (by decide))
              | succ n ih81 =>
                intro w1785 w1786 b1787 hm81
                refine ev_iload rfl rfl rfl ?_
                refine ev_aload_n rfl rfl rfl ?_
                refine ev_getV (v := v6) rfl rfl fl_X10_121 rfl rfl rfl e6 ?_
                refine ev_icmp_ge rfl rfl (fun c1788 => ?_) (fun c1788 => ?_)
                · have b1789 : B w1786 1 12 := R_leY b8 b1787 c1788 (by decide)
                  refine ev_iload_n rfl rfl rfl ?_
                  refine ev_if_ne rfl rfl (fun c1791 => ?_) (fun c1791 => ?_)
                  · have b1792 : B a0 1 2 := R_neL b4 (by decide : B 0 0 0) c1791 (by decide)
                    refine ev_iload_n rfl rfl rfl ?_
                    refine ev_iconst (v := 1) rfl rfl (by decide) ?_
                    refine ev_icmp_ne rfl rfl (fun c1794 => ?_) (fun c1794 => ?_)
                    · have b1795 : B a0 2 2 := R_neL b1792 (by decide : B 1 1 1) c1794 (by decide)
                      refine ev_iload rfl rfl rfl ?_
                      exact ev_iret rfl rfl rfl ⟨⟨_, rfl, (B.any w1785)⟩, rfl, rfl⟩
                    · have b1796 : B a0 1 1 := R_eqX b1792 (by decide : B 1 1 1) c1794
                      refine ev_iload_n rfl rfl rfl ?_
                      refine ev_goto rfl rfl ?_
                      exact ev_iret rfl rfl rfl ⟨⟨_, rfl, (b1597.mono (by decide) (by decide))⟩, rfl, rfl⟩
                  · have b1793 : B a0 0 0 := R_eqX b4 (by decide : B 0 0 0) c1791
                    refine ev_iload_n rfl rfl rfl ?_
                    refine ev_goto rfl rfl ?_
                    exact ev_iret rfl rfl rfl ⟨⟨_, rfl, (b1596.mono (by decide) (by decide))⟩, rfl, rfl⟩
                · have b1790 : B w1786 0 11 := R_ltX b1787 b8 (Int32.not_le.mp c1788) (by decide)
                  refine ev_iload rfl rfl rfl ?_
                  refine ev_aload_n rfl rfl rfl ?_
                  refine ev_iload rfl rfl rfl ?_
                  refine ev_iload_n rfl rfl rfl ?_
                  refine ev_V2P rfl rfl lk_X10_153 vt_X10_off rfl rfl rfl rfl rfl (w_X10_off_63 L b h hB w1786 b1790 w1593) (fun r1797 q1797 => ?_)
                  refine ev_if_ne rfl rfl (fun c1798 => ?_) (fun c1798 => ?_)
                  · refine ev_iconst (v := 0) rfl rfl (by decide) ?_
                    refine ev_iaddB (l := -2147483648) (u := 2147483647) rfl rfl (B.any w1785) (by decide : B 0 0 0) (by decide) (by decide) (by decide) (by decide) (fun v1800 b1800 e1800 g1800 => ?_)
                    refine ev_istore rfl rfl rfl rfl ?_
                    dsimp only [List.set]
                    refine ev_iincB (y := 1) (l := 1) (u := 12) rfl rfl rfl (by decide) rfl rfl b1790 (by decide : B 1 1 1) (by decide) (by decide) (by decide) (by decide) (fun v1801 b1801 e1801 => ?_)
                    dsimp only [List.set]
                    refine ev_goto rfl rfl ?_
                    exact (ih81 v1800 v1801 (b1801.mono (by decide) (by decide)) (L_up hm81 (e_p1 e1801 (by decide))))
                  · have b1799 : B r1797 0 0 := R_eqX (B.any r1797) (by decide : B 0 0 0) c1798
                    refine ev_iconst (v := 1) rfl rfl (by decide) ?_
                    refine ev_goto rfl rfl ?_
                    refine ev_iaddA rfl rfl (fun v1802 g1802 => ?_)
                    refine ev_istore rfl rfl rfl rfl ?_
                    dsimp only [List.set]
                    refine ev_iincB (y := 1) (l := 1) (u := 12) rfl rfl rfl (by decide) rfl rfl b1790 (by decide : B 1 1 1) (by decide) (by decide) (by decide) (by decide) (fun v1803 b1803 e1803 => ?_)
                    dsimp only [List.set]
                    refine ev_goto rfl rfl ?_
                    exact (ih81 v1802 v1803 (b1803.mono (by decide) (by decide)) (L_up hm81 (e_p1 e1803 (by decide))))
            exact (lp81_1784 13 0 0 ((by decide : B 0 0 0).mono (by decide) (by decide)) (L_init (by decide : B 0 0 0) (by decide)))
          · have b1602 : B w1595 0 200 := R_leX b1598 b1599 (Int32.not_lt.mp c1600) (by decide)
            refine ev_aload_n rfl rfl rfl ?_
            refine ev_iconst (v := 1) rfl rfl (by decide) ?_
            refine ev_aload_n rfl rfl rfl ?_
            refine ev_getV (v := v6) rfl rfl fl_X10_121 rfl rfl rfl e6 ?_
            refine ev_ishlA rfl rfl (fun v1804 => ?_)
            refine ev_iconst (v := 1) rfl rfl (by decide) ?_
            refine ev_isubA rfl rfl (fun v1805 g1805 => ?_)
            refine ev_iload rfl rfl rfl ?_
            refine ev_V2P rfl rfl lk_X10_159 vt_X10_strayOf rfl rfl rfl rfl rfl (w_X10_strayOf_63 L b h hB v1805 w1595) (fun r1806 q1806 => ?_)
            refine ev_istore rfl rfl rfl rfl ?_
            dsimp only [List.set]
            refine ev_iload rfl rfl rfl ?_
            refine ev_iload_n rfl rfl rfl ?_
            refine ev_icmp_gt rfl rfl (fun c1807 => ?_) (fun c1807 => ?_)
            · have b1808 : B r1806 1 2147483647 := R_ltY b1597 q1806 c1807 (by decide)
              refine ev_iincB (y := 1) (l := 1) (u := 201) rfl rfl rfl (by decide) rfl rfl b1602 (by decide : B 1 1 1) (by decide) (by decide) (by decide) (by decide) (fun v1810 b1810 e1810 => ?_)
              dsimp only [List.set]
              refine ev_goto rfl rfl ?_
              exact (EvQ.drop 5 (ih32 w1593 w1594 v1810 b1596 b1597 (b1810.mono (by decide) (by decide)) (L_up hm32 (e_p1 e1810 (by decide)))))
            · have b1809 : B r1806 0 1000000 := R_leX q1806 b1597 (Int32.not_lt.mp c1807) (by decide)
              refine ev_iload rfl rfl rfl ?_
              refine ev_istore_n rfl rfl rfl rfl ?_
              dsimp only [List.set]
              refine ev_iload rfl rfl rfl ?_
              refine ev_istore_n rfl rfl rfl rfl ?_
              dsimp only [List.set]
              refine ev_iincB (y := 1) (l := 1) (u := 201) rfl rfl rfl (by decide) rfl rfl b1602 (by decide : B 1 1 1) (by decide) (by decide) (by decide) (by decide) (fun v1811 b1811 e1811 => ?_)
              dsimp only [List.set]
              refine ev_goto rfl rfl ?_
              exact (EvQ.drop 5 (ih32 w1595 r1806 v1811 b1602 b1809 (b1811.mono (by decide) (by decide)) (L_up hm32 (e_p1 e1811 (by decide)))))
      exact (lp32_1592 202 0 1000000 0 ((by decide : B 0 0 0).mono (by decide) (by decide)) ((by decide : B 1000000 1000000 1000000).mono (by decide) (by decide)) ((by decide : B 0 0 0).mono (by decide) (by decide)) (L_init (by decide : B 0 0 0) (by decide)))
    · have b9 : B v6 0 0 := R_eqX b6 (by decide : B 0 0 0) c7
      refine ev_bipush (v := (-4)) rfl rfl (by decide) ?_
      exact ev_iret rfl rfl rfl ⟨⟨_, rfl, ((by decide : B (-4) (-4) (-4)).mono (by decide) (by decide))⟩, rfl, rfl⟩
  · have b5 : B r1 0 0 := R_eqX b1 (by decide : B 0 0 0) c2
    refine ev_iconst (v := (-1)) rfl rfl (by decide) ?_
    exact ev_iret rfl rfl rfl ⟨⟨_, rfl, ((by decide : B (-1) (-1) (-1)).mono (by decide) (by decide))⟩, rfl, rfl⟩

set_option maxRecDepth 100000 in
set_option maxHeartbeats 4000000 in
theorem w_X10_boiler_63 (L : Nat) (b : Bool) (h : Hp) (hB : Bx h) (a0 : Int32) : EvP mi_X10_boiler [.ref 63, .int a0] (G0 L b) h (fun r : Int32 => B r (-2147483648) 2147483647) := by
  refine EvM.of2 (lo := [some (.ref 63), some (.int a0)]) pf_X10_boiler ok_X10_boiler rfl rfl ?_
  refine ev_iload_n rfl rfl rfl ?_
  refine ev_if_ne rfl rfl (fun c1 => ?_) (fun c1 => ?_)
  · refine ev_iload_n rfl rfl rfl ?_
    refine ev_iconst (v := 1) rfl rfl (by decide) ?_
    refine ev_icmp_ne rfl rfl (fun c3 => ?_) (fun c3 => ?_)
    · refine ev_iload_n rfl rfl rfl ?_
      refine ev_iconst (v := 2) rfl rfl (by decide) ?_
      refine ev_icmp_ne rfl rfl (fun c5 => ?_) (fun c5 => ?_)
      · refine ev_iload_n rfl rfl rfl ?_
        refine ev_iconst (v := 3) rfl rfl (by decide) ?_
        refine ev_icmp_ne rfl rfl (fun c7 => ?_) (fun c7 => ?_)
        · refine ev_iload_n rfl rfl rfl ?_
          refine ev_iconst (v := 4) rfl rfl (by decide) ?_
          refine ev_icmp_ne rfl rfl (fun c9 => ?_) (fun c9 => ?_)
          · refine ev_iload_n rfl rfl rfl ?_
            refine ev_iconst (v := 5) rfl rfl (by decide) ?_
            refine ev_icmp_ne rfl rfl (fun c11 => ?_) (fun c11 => ?_)
            · refine ev_iconst (v := (-1)) rfl rfl (by decide) ?_
              exact ev_iret rfl rfl rfl ⟨⟨_, rfl, ((by decide : B (-1) (-1) (-1)).mono (by decide) (by decide))⟩, rfl, rfl⟩
            · have b12 : B a0 5 5 := R_eqX (B.any a0) (by decide : B 5 5 5) c11
              refine ev_aload_n rfl rfl rfl ?_
              refine ev_iconst (v := 0) rfl rfl (by decide) ?_
              refine ev_V1P rfl rfl lk_X10_145 vt_X10_drawn rfl rfl rfl rfl rfl (w_X10_drawn_63 L b h hB 0) (fun r13 q13 => ?_)
              refine ev_goto rfl rfl ?_
              exact ev_iret rfl rfl rfl ⟨⟨_, rfl, (B.any r13)⟩, rfl, rfl⟩
          · have b10 : B a0 4 4 := R_eqX (B.any a0) (by decide : B 4 4 4) c9
            refine ev_aload_n rfl rfl rfl ?_
            refine ev_getW (l := (-2147483648)) (u := 2147483647) hB rfl rfl rfl fl_X10_131 rfl rfl rfl (fun v14 b14 e14 => ?_)
            refine ev_goto rfl rfl ?_
            exact ev_iret rfl rfl rfl ⟨⟨_, rfl, (B.any v14)⟩, rfl, rfl⟩
        · have b8 : B a0 3 3 := R_eqX (B.any a0) (by decide : B 3 3 3) c7
          refine ev_aload_n rfl rfl rfl ?_
          refine ev_getW (l := 0) (u := 200) hB rfl rfl rfl fl_X10_19 rfl rfl rfl (fun v15 b15 e15 => ?_)
          refine ev_goto rfl rfl ?_
          exact ev_iret rfl rfl rfl ⟨⟨_, rfl, (b15.mono (by decide) (by decide))⟩, rfl, rfl⟩
      · have b6 : B a0 2 2 := R_eqX (B.any a0) (by decide : B 2 2 2) c5
        refine ev_aload_n rfl rfl rfl ?_
        refine ev_getW (l := (-2147483648)) (u := 2147483647) hB rfl rfl rfl fl_X10_16 rfl rfl rfl (fun v16 b16 e16 => ?_)
        refine ev_goto rfl rfl ?_
        exact ev_iret rfl rfl rfl ⟨⟨_, rfl, (B.any v16)⟩, rfl, rfl⟩
    · have b4 : B a0 1 1 := R_eqX (B.any a0) (by decide : B 1 1 1) c3
      refine ev_aload_n rfl rfl rfl ?_
      refine ev_getW (l := (-2147483648)) (u := 2147483647) hB rfl rfl rfl fl_X10_13 rfl rfl rfl (fun v17 b17 e17 => ?_)
      refine ev_goto rfl rfl ?_
      exact ev_iret rfl rfl rfl ⟨⟨_, rfl, (B.any v17)⟩, rfl, rfl⟩
  · have b2 : B a0 0 0 := R_eqX (B.any a0) (by decide : B 0 0 0) c1
    refine ev_aload_n rfl rfl rfl ?_
    refine ev_getW (l := 0) (u := 200) hB rfl rfl rfl fl_X10_7 rfl rfl rfl (fun v18 b18 e18 => ?_)
    refine ev_goto rfl rfl ?_
    exact ev_iret rfl rfl rfl ⟨⟨_, rfl, (b18.mono (by decide) (by decide))⟩, rfl, rfl⟩

set_option maxRecDepth 100000 in
set_option maxHeartbeats 4000000 in
theorem w_X10_fault_63 (L : Nat) (b : Bool) (h : Hp) (hB : Bx h)  : EvP mi_X10_fault [.ref 63] (G0 L b) h (fun r : Int32 => B r 0 6) := by
  refine EvM.of2 (lo := [some (.ref 63)]) pf_X10_fault ok_X10_fault rfl rfl ?_
  refine ev_aload_n rfl rfl rfl ?_
  refine ev_getW (l := 0) (u := 6) hB rfl rfl rfl fl_X10_191 rfl rfl rfl (fun v1 b1 e1 => ?_)
  exact ev_iret rfl rfl rfl ⟨⟨_, rfl, b1⟩, rfl, rfl⟩

set_option maxRecDepth 100000 in
set_option maxHeartbeats 4000000 in
theorem w_X10_isTune_63 (L : Nat) (b : Bool) (h : Hp) (hB : Bx h) (a0 : Int32) : EvP mi_X10_isTune [.ref 63, .int a0] (G0 L b) h (fun r : Int32 => B r 0 1 ∧ (¬ r = 0 → B a0 0 5)) := by
  refine EvM.of2 (lo := [some (.ref 63), some (.int a0)]) pf_X10_isTune ok_X10_isTune rfl rfl ?_
  refine ev_iload_n rfl rfl rfl ?_
  refine ev_i2l rfl rfl ?_
  refine ev_lconst (v := 0) rfl rfl rfl ?_
  refine ev_aload_n rfl rfl rfl ?_
  refine ev_getW (l := 0) (u := 6) hB rfl rfl rfl fl_X10_257 rfl rfl rfl (fun v1 b1 e1 => ?_)
  refine ev_iconst (v := 1) rfl rfl (by decide) ?_
  refine ev_isubB (l := -1) (u := 5) rfl rfl b1 (by decide : B 1 1 1) (by decide) (by decide) (by decide) (by decide) (fun v2 b2 e2 g2 => ?_)
  refine ev_i2l rfl rfl ?_
  refine ev_S3P rfl rfl lk_X10_124 st_X10_in rfl rfl (w_in (G0 L b) h a0 0 (Int32.toInt64 v2) (by decide : BL 0 0 0) (B.long b2)) (fun r3 q3 => ?_)
  obtain ⟨b3, p3_0⟩ := q3
  exact ev_iret rfl rfl (ev_rtB b3) ⟨⟨_, rfl, ⟨b3, (fun e_ => (p3_0 e_).mono (by decide) (by decide))⟩⟩, rfl, rfl⟩

set_option maxRecDepth 100000 in
set_option maxHeartbeats 4000000 in
theorem w_X10_chordAt_63 (L : Nat) (b : Bool) (h : Hp) (hB : Bx h) (a0 : Int32) (p0 : B a0 0 5) (a1 : Int32) (p1 : B a1 0 23) : EvP mi_X10_chordAt [.ref 63, .int a0, .int a1] (G0 L b) h (fun r : Int32 => B r 0 4095) := by
  refine EvM.of2 (lo := [some (.ref 63), some (.int a0), some (.int a1)]) pf_X10_chordAt ok_X10_chordAt rfl rfl ?_
  refine ev_aload_n rfl rfl rfl ?_
  refine ev_getR (y := 74) rfl rfl fl_X10_54 rfl rfl rfl rfl ?_
  refine ev_bipush (v := 24) rfl rfl (by decide) ?_
  refine ev_iload_n rfl rfl rfl ?_
  refine ev_imulB (l := 0) (u := 120) rfl rfl (by decide : B 24 24 24) p0 (by decide) (by decide) (by decide) (by decide) (by decide) (fun v1 b1 e1 g1 => ?_)
  refine ev_iload_n rfl rfl rfl ?_
  refine ev_iaddB (l := 0) (u := 143) rfl rfl b1 p1 (by decide) (by decide) (by decide) (by decide) (fun v2 b2 e2 g2 => ?_)
  refine ev_ialW (n := 144) (l := 0) (u := 4095) hB b2 (by decide) (by decide) (fun _ => rfl) rfl rfl rfl (fun v3 b3 e3 => ?_)
  exact ev_iret rfl rfl rfl ⟨⟨_, rfl, b3⟩, rfl, rfl⟩

set_option maxRecDepth 100000 in
set_option maxHeartbeats 4000000 in
theorem w_X10_allOf_63 (L : Nat) (b : Bool) (h : Hp) (hB : Bx h) (a0 : Int32) (p0 : B a0 0 5) : EvP mi_X10_allOf [.ref 63, .int a0] (G0 L b) h (fun r : Int32 => B r 0 4095) := by
  refine EvM.of2 (lo := [some (.ref 63), some (.int a0), none, none]) pf_X10_allOf ok_X10_allOf rfl rfl ?_
  refine ev_iconst (v := 0) rfl rfl (by decide) ?_
  refine ev_istore_n rfl rfl rfl rfl ?_
  dsimp only [List.set]
  refine ev_iconst (v := 0) rfl rfl (by decide) ?_
  refine ev_istore_n rfl rfl rfl rfl ?_
  dsimp only [List.set]
  have lp4_55 : ∀ (n : Nat) (w56 : Int32) (w57 : Int32), B w56 0 4095 → B w57 0 24 → 24 + 1 - w57.toInt ≤ (n : Int) → EvQ mi_X10_allOf 4 [some (.ref 63), some (.int a0), some (.int w56), some (.int w57)] [] (G0 L b) h 0 0 (QP (fun r : Int32 => B r 0 4095) (G0 L b) h) := by
    intro n
    induction n with
    | zero =>
      intro w56 w57 b58 b59 hm4
      exact absurd hm4 (L_zero b59 (by decide))
    | succ n ih4 =>
      intro w56 w57 b58 b59 hm4
      refine ev_iload_n rfl rfl rfl ?_
      refine ev_aload_n rfl rfl rfl ?_
      refine ev_getR (y := 73) rfl rfl fl_X10_51 rfl rfl rfl rfl ?_
      refine ev_iload_n rfl rfl rfl ?_
      refine ev_ialW (n := 6) (l := 0) (u := 24) hB p0 (by decide) (by decide) (fun _ => rfl) rfl rfl rfl (fun v60 b60 e60 => ?_)
      refine ev_icmp_ge rfl rfl (fun c61 => ?_) (fun c61 => ?_)
      · refine ev_iload_n rfl rfl rfl ?_
        exact ev_iret rfl rfl rfl ⟨⟨_, rfl, b58⟩, rfl, rfl⟩
      · have b62 : B w57 0 23 := R_ltX b59 b60 (Int32.not_le.mp c61) (by decide)
        have b63 : B v60 1 24 := R_ltY b59 b60 (Int32.not_le.mp c61) (by decide)
        refine ev_iload_n rfl rfl rfl ?_
        refine ev_aload_n rfl rfl rfl ?_
        refine ev_iload_n rfl rfl rfl ?_
        refine ev_iload_n rfl rfl rfl ?_
        refine ev_V2P rfl rfl lk_X10_263 vt_X10_chordAt rfl rfl rfl rfl rfl (w_X10_chordAt_63 L b h hB a0 p0 w57 b62) (fun r64 q64 => ?_)
        refine ev_iorB 12 (u := 4095) rfl rfl b58 q64 (by decide) (by decide) (by decide) (by decide) (by decide) (by decide) (fun v65 b65 e65 => ?_)
        refine ev_istore_n rfl rfl rfl rfl ?_
        dsimp only [List.set]
        refine ev_iincB (y := 1) (l := 1) (u := 24) rfl rfl rfl (by decide) rfl rfl b62 (by decide : B 1 1 1) (by decide) (by decide) (by decide) (by decide) (fun v66 b66 e66 => ?_)
        dsimp only [List.set]
        refine ev_goto rfl rfl ?_
        exact (ih4 v65 v66 b65 (b66.mono (by decide) (by decide)) (L_up hm4 (e_p1 e66 (by decide))))
  exact (lp4_55 25 0 0 ((by decide : B 0 0 0).mono (by decide) (by decide)) ((by decide : B 0 0 0).mono (by decide) (by decide)) (L_init (by decide : B 0 0 0) (by decide)))

set_option maxRecDepth 100000 in
set_option maxHeartbeats 4000000 in
theorem w_X10_boat_63 (L : Nat) (b : Bool) (h : Hp) (hB : Bx h) (a0 : Int32) (a1 : Int32) : EvJ mi_X10_boat [.ref 63, .int a0, .int a1] (G0 L b) h (fun r : Int32 => B r (-3) 3) [(63, 45), (88, 999), (89, 999)] := by
  refine EvM.of2 (lo := [some (.ref 63), some (.int a0), some (.int a1)]) pf_X10_boat ok_X10_boat rfl rfl ?_
  have hJ0 : JW [(63, 45), (88, 999), (89, 999)] h h := JW.refl hB
  refine ev_iload_n rfl rfl rfl ?_
  refine ev_i2l rfl rfl ?_
  refine ev_lconst (v := 0) rfl rfl rfl ?_
  refine ev_ldc2 (v := 999) rfl rfl kc_X10_342 ?_
  refine ev_S3P rfl rfl lk_X10_124 st_X10_in rfl rfl (w_in (G0 L b) h a0 0 999 (by decide : BL 0 0 0) (by decide : BL 999 999 999)) (fun r1 q1 => ?_)
  obtain ⟨b1, p1_0⟩ := q1
  refine ev_if_eq rfl rfl (fun c2 => ?_) (fun c2 => ?_)
  · have b3 : B r1 0 0 := R_eqX b1 (by decide : B 0 0 0) c2
    refine ev_iconst (v := (-1)) rfl rfl (by decide) ?_
    exact ev_iret rfl rfl rfl ⟨⟨_, rfl, ((by decide : B (-1) (-1) (-1)).mono (by decide) (by decide))⟩, rfl, hJ0⟩
  · have b4 : B r1 1 1 := R_neL b1 (by decide : B 0 0 0) c2 (by decide)
    have b5 : B a0 0 999 := p1_0 c2
    refine ev_iload_n rfl rfl rfl ?_
    refine ev_i2l rfl rfl ?_
    refine ev_lconst (v := 0) rfl rfl rfl ?_
    refine ev_ldc2 (v := 99) rfl rfl kc_X10_344 ?_
    refine ev_S3P rfl rfl lk_X10_124 st_X10_in rfl rfl (w_in (G0 L b) h a1 0 99 (by decide : BL 0 0 0) (by decide : BL 99 99 99)) (fun r6 q6 => ?_)
    obtain ⟨b6, p6_0⟩ := q6
    refine ev_if_ne rfl rfl (fun c7 => ?_) (fun c7 => ?_)
    · have b8 : B r6 1 1 := R_neL b6 (by decide : B 0 0 0) c7 (by decide)
      have b9 : B a1 0 99 := p6_0 c7
      refine ev_aload_n rfl rfl rfl ?_
      refine ev_getW (l := 0) (u := 4) hJ0.1 rfl rfl rfl fl_X10_346 rfl rfl rfl (fun v11 b11 e11 => ?_)
      refine ev_iconst (v := 4) rfl rfl (by decide) ?_
      refine ev_icmp_ne rfl rfl (fun c12 => ?_) (fun c12 => ?_)
      · have b13 : B v11 0 3 := R_neU b11 (by decide : B 4 4 4) c12 (by decide)
        refine ev_aload_n rfl rfl rfl ?_
        refine ev_getR (y := 88) rfl rfl fl_X10_97 rfl rfl rfl rfl ?_
        refine ev_aload_n rfl rfl rfl ?_
        refine ev_getV (v := v11) rfl rfl fl_X10_346 rfl rfl rfl e11 ?_
        refine ev_iload_n rfl rfl rfl ?_
        refine ev_iasW (n := 4) (l := (-2147483648)) (u := 2147483647) hJ0 b13 (by decide) (by decide) (fun _ => rfl) b5 (by decide) (by decide) (fun _ => rfl) rfl rfl rfl rfl (fun h15 hJ15 k15 => ?_)
        refine ev_aload_n rfl rfl rfl ?_
        refine ev_getR (y := 89) rfl rfl fl_X10_100 rfl rfl rfl rfl ?_
        refine ev_aload_n rfl rfl rfl ?_
        refine ev_getV (v := v11) rfl rfl fl_X10_346 rfl rfl rfl (rd_a k15 e11 rfl) ?_
        refine ev_iload_n rfl rfl rfl ?_
        refine ev_iasW (n := 4) (l := (-2147483648)) (u := 2147483647) hJ15 b13 (by decide) (by decide) (fun _ => rfl) b9 (by decide) (by decide) (fun _ => rfl) rfl rfl rfl rfl (fun h16 hJ16 k16 => ?_)
        refine ev_aload_n rfl rfl rfl ?_
        refine ev_dup rfl rfl rfl ?_
        refine ev_getV (v := v11) rfl rfl fl_X10_346 rfl rfl rfl (rd_a k16 (rd_a k15 e11 rfl) rfl) ?_
        refine ev_iconst (v := 1) rfl rfl (by decide) ?_
        refine ev_iaddB (l := 1) (u := 4) rfl rfl b13 (by decide : B 1 1 1) (by decide) (by decide) (by decide) (by decide) (fun v17 b17 e17 g17 => ?_)
        refine ev_putW (l := 0) (u := 4) hJ16 rfl b17 (by decide) (by decide) rfl rfl rfl fl_X10_346 rfl rfl rfl rfl rfl (fun h18 hJ18 k18 => ?_)
        refine ev_aload_n rfl rfl rfl ?_
        refine ev_getV (v := v17) rfl rfl fl_X10_346 rfl rfl rfl (rd_s k18) ?_
        refine ev_iconst (v := 1) rfl rfl (by decide) ?_
        refine ev_isubB (l := 0) (u := 3) rfl rfl b17 (by decide : B 1 1 1) (by decide) (by decide) (by decide) (by decide) (fun v19 b19 e19 g19 => ?_)
        exact ev_iret rfl rfl rfl ⟨⟨_, rfl, (b19.mono (by decide) (by decide))⟩, rfl, hJ18⟩
      · have b14 : B v11 4 4 := R_eqX b11 (by decide : B 4 4 4) c12
        refine ev_bipush (v := (-3)) rfl rfl (by decide) ?_
        exact ev_iret rfl rfl rfl ⟨⟨_, rfl, ((by decide : B (-3) (-3) (-3)).mono (by decide) (by decide))⟩, rfl, hJ0⟩
    · have b10 : B r6 0 0 := R_eqX b6 (by decide : B 0 0 0) c7
      refine ev_iconst (v := (-1)) rfl rfl (by decide) ?_
      exact ev_iret rfl rfl rfl ⟨⟨_, rfl, ((by decide : B (-1) (-1) (-1)).mono (by decide) (by decide))⟩, rfl, hJ0⟩

set_option maxRecDepth 100000 in
set_option maxHeartbeats 4000000 in
theorem w_X10_bend_63 (L : Nat) (b : Bool) (h : Hp) (hB : Bx h) (a0 : Int32) (a1 : Int32) : EvJ mi_X10_bend [.ref 63, .int a0, .int a1] (G0 L b) h (fun r : Int32 => B r (-3) 6) [(63, 48), (90, 999), (91, 999)] := by
  refine EvM.of2 (lo := [some (.ref 63), some (.int a0), some (.int a1), none, none]) pf_X10_bend ok_X10_bend rfl rfl ?_
  have hJ0 : JW [(63, 48), (90, 999), (91, 999)] h h := JW.refl hB
  refine ev_iload_n rfl rfl rfl ?_
  refine ev_i2l rfl rfl ?_
  refine ev_lconst (v := 0) rfl rfl rfl ?_
  refine ev_ldc2 (v := 999) rfl rfl kc_X10_342 ?_
  refine ev_S3P rfl rfl lk_X10_124 st_X10_in rfl rfl (w_in (G0 L b) h a0 0 999 (by decide : BL 0 0 0) (by decide : BL 999 999 999)) (fun r1 q1 => ?_)
  obtain ⟨b1, p1_0⟩ := q1
  refine ev_if_eq rfl rfl (fun c2 => ?_) (fun c2 => ?_)
  · have b3 : B r1 0 0 := R_eqX b1 (by decide : B 0 0 0) c2
    refine ev_iconst (v := 0) rfl rfl (by decide) ?_
    refine ev_istore_n rfl rfl rfl rfl ?_
    dsimp only [List.set]
    refine ev_iconst (v := 0) rfl rfl (by decide) ?_
    refine ev_istore rfl rfl rfl rfl ?_
    dsimp only [List.set]
    have lp33_60 : ∀ (n : Nat) (w61 : Int32) (w62 : Int32) (h65 : Hp), B w61 0 0 → B w62 0 6 → JW [(63, 48), (90, 999), (91, 999)] h h65 → 6 + 1 - w62.toInt ≤ (n : Int) → EvQ mi_X10_bend 33 [some (.ref 63), some (.int a0), some (.int a1), some (.int w61), some (.int w62)] [] (G0 L b) h65 0 0 (QJ (fun r : Int32 => B r (-3) 6) [(63, 48), (90, 999), (91, 999)] (G0 L b) h) := by
      intro n
      induction n with
      | zero =>
        intro w61 w62 h65 b63 b64 hJ66 hm33
        exact absurd hm33 (L_zero b64 (by decide))
      | succ n ih33 =>
        intro w61 w62 h65 b63 b64 hJ66 hm33
        refine ev_iload rfl rfl rfl ?_
        refine ev_aload_n rfl rfl rfl ?_
        refine ev_getW (l := 0) (u := 6) hJ66.1 rfl rfl rfl fl_X10_349 rfl rfl rfl (fun v67 b67 e67 => ?_)
        refine ev_icmp_ge rfl rfl (fun c68 => ?_) (fun c68 => ?_)
        · refine ev_iload_n rfl rfl rfl ?_
          refine ev_if_ne rfl rfl (fun c71 => absurd (D_eq b63 (by decide : B 0 0 0)) c71) (fun c71 => ?_)
          refine ev_iconst (v := (-1)) rfl rfl (by decide) ?_
          exact ev_iret rfl rfl rfl ⟨⟨_, rfl, ((by decide : B (-1) (-1) (-1)).mono (by decide) (by decide))⟩, rfl, hJ66⟩
        · have b69 : B w62 0 5 := R_ltX b64 b67 (Int32.not_le.mp c68) (by decide)
          have b70 : B v67 1 6 := R_ltY b64 b67 (Int32.not_le.mp c68) (by decide)
          refine ev_iload_n rfl rfl rfl ?_
          refine ev_if_eq rfl rfl (fun c72 => ?_) (fun c72 => absurd (D_eq b63 (by decide : B 0 0 0)) c72)
          refine ev_iconst (v := 0) rfl rfl (by decide) ?_
          refine ev_istore_n rfl rfl rfl rfl ?_
          dsimp only [List.set]
          refine ev_iincB (y := 1) (l := 1) (u := 6) rfl rfl rfl (by decide) rfl rfl b69 (by decide : B 1 1 1) (by decide) (by decide) (by decide) (by decide) (fun v73 b73 e73 => ?_)
          dsimp only [List.set]
          refine ev_goto rfl rfl ?_
          exact (ih33 0 v73 h65 (by decide : B 0 0 0) (b73.mono (by decide) (by decide)) hJ66 (L_up hm33 (e_p1 e73 (by decide))))
    exact (lp33_60 7 0 0 h (by decide : B 0 0 0) ((by decide : B 0 0 0).mono (by decide) (by decide)) hJ0 (L_init (by decide : B 0 0 0) (by decide)))
  · have b4 : B r1 1 1 := R_neL b1 (by decide : B 0 0 0) c2 (by decide)
    have b5 : B a0 0 999 := p1_0 c2
    refine ev_iload_n rfl rfl rfl ?_
    refine ev_i2l rfl rfl ?_
    refine ev_lconst (v := 1) rfl rfl rfl ?_
    refine ev_ldc2 (v := 99) rfl rfl kc_X10_344 ?_
    refine ev_S3P rfl rfl lk_X10_124 st_X10_in rfl rfl (w_in (G0 L b) h a1 1 99 (by decide : BL 1 1 1) (by decide : BL 99 99 99)) (fun r74 q74 => ?_)
    obtain ⟨b74, p74_0⟩ := q74
    refine ev_if_eq rfl rfl (fun c75 => ?_) (fun c75 => ?_)
    · have b76 : B r74 0 0 := R_eqX b74 (by decide : B 0 0 0) c75
      refine ev_iconst (v := 0) rfl rfl (by decide) ?_
      refine ev_istore_n rfl rfl rfl rfl ?_
      dsimp only [List.set]
      refine ev_iconst (v := 0) rfl rfl (by decide) ?_
      refine ev_istore rfl rfl rfl rfl ?_
      dsimp only [List.set]
      have lp33_133 : ∀ (n : Nat) (w134 : Int32) (w135 : Int32) (h138 : Hp), B w134 0 0 → B w135 0 6 → JW [(63, 48), (90, 999), (91, 999)] h h138 → 6 + 1 - w135.toInt ≤ (n : Int) → EvQ mi_X10_bend 33 [some (.ref 63), some (.int a0), some (.int a1), some (.int w134), some (.int w135)] [] (G0 L b) h138 0 0 (QJ (fun r : Int32 => B r (-3) 6) [(63, 48), (90, 999), (91, 999)] (G0 L b) h) := by
        intro n
        induction n with
        | zero =>
          intro w134 w135 h138 b136 b137 hJ139 hm33
          exact absurd hm33 (L_zero b137 (by decide))
        | succ n ih33 =>
          intro w134 w135 h138 b136 b137 hJ139 hm33
          refine ev_iload rfl rfl rfl ?_
          refine ev_aload_n rfl rfl rfl ?_
          refine ev_getW (l := 0) (u := 6) hJ139.1 rfl rfl rfl fl_X10_349 rfl rfl rfl (fun v140 b140 e140 => ?_)
          refine ev_icmp_ge rfl rfl (fun c141 => ?_) (fun c141 => ?_)
          · refine ev_iload_n rfl rfl rfl ?_
            refine ev_if_ne rfl rfl (fun c144 => absurd (D_eq b136 (by decide : B 0 0 0)) c144) (fun c144 => ?_)
            refine ev_iconst (v := (-1)) rfl rfl (by decide) ?_
            exact ev_iret rfl rfl rfl ⟨⟨_, rfl, ((by decide : B (-1) (-1) (-1)).mono (by decide) (by decide))⟩, rfl, hJ139⟩
          · have b142 : B w135 0 5 := R_ltX b137 b140 (Int32.not_le.mp c141) (by decide)
            have b143 : B v140 1 6 := R_ltY b137 b140 (Int32.not_le.mp c141) (by decide)
            refine ev_iload_n rfl rfl rfl ?_
            refine ev_if_eq rfl rfl (fun c145 => ?_) (fun c145 => absurd (D_eq b136 (by decide : B 0 0 0)) c145)
            refine ev_iconst (v := 0) rfl rfl (by decide) ?_
            refine ev_istore_n rfl rfl rfl rfl ?_
            dsimp only [List.set]
            refine ev_iincB (y := 1) (l := 1) (u := 6) rfl rfl rfl (by decide) rfl rfl b142 (by decide : B 1 1 1) (by decide) (by decide) (by decide) (by decide) (fun v146 b146 e146 => ?_)
            dsimp only [List.set]
            refine ev_goto rfl rfl ?_
            exact (ih33 0 v146 h138 (by decide : B 0 0 0) (b146.mono (by decide) (by decide)) hJ139 (L_up hm33 (e_p1 e146 (by decide))))
      exact (lp33_133 7 0 0 h (by decide : B 0 0 0) ((by decide : B 0 0 0).mono (by decide) (by decide)) hJ0 (L_init (by decide : B 0 0 0) (by decide)))
    · have b77 : B r74 1 1 := R_neL b74 (by decide : B 0 0 0) c75 (by decide)
      have b78 : B a1 1 99 := p74_0 c75
      refine ev_iconst (v := 1) rfl rfl (by decide) ?_
      refine ev_goto rfl rfl ?_
      refine ev_istore_n rfl rfl rfl rfl ?_
      dsimp only [List.set]
      refine ev_iconst (v := 0) rfl rfl (by decide) ?_
      refine ev_istore rfl rfl rfl rfl ?_
      dsimp only [List.set]
      have lp33_288 : ∀ (n : Nat) (w289 : Int32) (w290 : Int32) (h293 : Hp), B w289 0 1 → B w290 0 6 → JW [(63, 48), (90, 999), (91, 999)] h h293 → 6 + 1 - w290.toInt ≤ (n : Int) → EvQ mi_X10_bend 33 [some (.ref 63), some (.int a0), some (.int a1), some (.int w289), some (.int w290)] [] (G0 L b) h293 0 0 (QJ (fun r : Int32 => B r (-3) 6) [(63, 48), (90, 999), (91, 999)] (G0 L b) h) := by
        intro n
        induction n with
        | zero =>
          intro w289 w290 h293 b291 b292 hJ294 hm33
          exact absurd hm33 (L_zero b292 (by decide))
        | succ n ih33 =>
          intro w289 w290 h293 b291 b292 hJ294 hm33
          refine ev_iload rfl rfl rfl ?_
          refine ev_aload_n rfl rfl rfl ?_
          refine ev_getW (l := 0) (u := 6) hJ294.1 rfl rfl rfl fl_X10_349 rfl rfl rfl (fun v295 b295 e295 => ?_)
          refine ev_icmp_ge rfl rfl (fun c296 => ?_) (fun c296 => ?_)
          · refine ev_iload_n rfl rfl rfl ?_
            refine ev_if_ne rfl rfl (fun c299 => ?_) (fun c299 => ?_)
            · have b300 : B w289 1 1 := R_neL b291 (by decide : B 0 0 0) c299 (by decide)
              refine ev_aload_n rfl rfl rfl ?_
              refine ev_getV (v := v295) rfl rfl fl_X10_349 rfl rfl rfl e295 ?_
              refine ev_bipush (v := 6) rfl rfl (by decide) ?_
              refine ev_icmp_ne rfl rfl (fun c302 => ?_) (fun c302 => ?_)
              · have b303 : B v295 0 5 := R_neU b295 (by decide : B 6 6 6) c302 (by decide)
                refine ev_aload_n rfl rfl rfl ?_
                refine ev_getR (y := 90) rfl rfl fl_X10_103 rfl rfl rfl rfl ?_
                refine ev_aload_n rfl rfl rfl ?_
                refine ev_getV (v := v295) rfl rfl fl_X10_349 rfl rfl rfl e295 ?_
                refine ev_iload_n rfl rfl rfl ?_
                refine ev_iasW (n := 6) (l := (-2147483648)) (u := 2147483647) hJ294 b303 (by decide) (by decide) (fun _ => rfl) b5 (by decide) (by decide) (fun _ => rfl) rfl rfl rfl rfl (fun h305 hJ305 k305 => ?_)
                refine ev_aload_n rfl rfl rfl ?_
                refine ev_getR (y := 91) rfl rfl fl_X10_106 rfl rfl rfl rfl ?_
                refine ev_aload_n rfl rfl rfl ?_
                refine ev_getV (v := v295) rfl rfl fl_X10_349 rfl rfl rfl (rd_a k305 e295 rfl) ?_
                refine ev_iload_n rfl rfl rfl ?_
                refine ev_iasW (n := 6) (l := (-2147483648)) (u := 2147483647) hJ305 b303 (by decide) (by decide) (fun _ => rfl) b78 (by decide) (by decide) (fun _ => rfl) rfl rfl rfl rfl (fun h306 hJ306 k306 => ?_)
                refine ev_aload_n rfl rfl rfl ?_
                refine ev_dup rfl rfl rfl ?_
                refine ev_getV (v := v295) rfl rfl fl_X10_349 rfl rfl rfl (rd_a k306 (rd_a k305 e295 rfl) rfl) ?_
                refine ev_iconst (v := 1) rfl rfl (by decide) ?_
                refine ev_iaddB (l := 1) (u := 6) rfl rfl b303 (by decide : B 1 1 1) (by decide) (by decide) (by decide) (by decide) (fun v307 b307 e307 g307 => ?_)
                refine ev_putW (l := 0) (u := 6) hJ306 rfl b307 (by decide) (by decide) rfl rfl rfl fl_X10_349 rfl rfl rfl rfl rfl (fun h308 hJ308 k308 => ?_)
                refine ev_aload_n rfl rfl rfl ?_
                refine ev_getV (v := v307) rfl rfl fl_X10_349 rfl rfl rfl (rd_s k308) ?_
                exact ev_iret rfl rfl rfl ⟨⟨_, rfl, (b307.mono (by decide) (by decide))⟩, rfl, hJ308⟩
              · have b304 : B v295 6 6 := R_eqX b295 (by decide : B 6 6 6) c302
                refine ev_bipush (v := (-3)) rfl rfl (by decide) ?_
                exact ev_iret rfl rfl rfl ⟨⟨_, rfl, ((by decide : B (-3) (-3) (-3)).mono (by decide) (by decide))⟩, rfl, hJ294⟩
            · have b301 : B w289 0 0 := R_eqX b291 (by decide : B 0 0 0) c299
              refine ev_iconst (v := (-1)) rfl rfl (by decide) ?_
              exact ev_iret rfl rfl rfl ⟨⟨_, rfl, ((by decide : B (-1) (-1) (-1)).mono (by decide) (by decide))⟩, rfl, hJ294⟩
          · have b297 : B w290 0 5 := R_ltX b292 b295 (Int32.not_le.mp c296) (by decide)
            have b298 : B v295 1 6 := R_ltY b292 b295 (Int32.not_le.mp c296) (by decide)
            refine ev_iload_n rfl rfl rfl ?_
            refine ev_if_eq rfl rfl (fun c309 => ?_) (fun c309 => ?_)
            · have b310 : B w289 0 0 := R_eqX b291 (by decide : B 0 0 0) c309
              refine ev_iconst (v := 0) rfl rfl (by decide) ?_
              refine ev_istore_n rfl rfl rfl rfl ?_
              dsimp only [List.set]
              refine ev_iincB (y := 1) (l := 1) (u := 6) rfl rfl rfl (by decide) rfl rfl b297 (by decide : B 1 1 1) (by decide) (by decide) (by decide) (by decide) (fun v312 b312 e312 => ?_)
              dsimp only [List.set]
              refine ev_goto rfl rfl ?_
              exact (ih33 0 v312 h293 ((by decide : B 0 0 0).mono (by decide) (by decide)) (b312.mono (by decide) (by decide)) hJ294 (L_up hm33 (e_p1 e312 (by decide))))
            · have b311 : B w289 1 1 := R_neL b291 (by decide : B 0 0 0) c309 (by decide)
              refine ev_aload_n rfl rfl rfl ?_
              refine ev_getR (y := 90) rfl rfl fl_X10_103 rfl rfl rfl rfl ?_
              refine ev_iload rfl rfl rfl ?_
              refine ev_ialW (n := 6) (l := (-2147483648)) (u := 2147483647) hJ294.1 b297 (by decide) (by decide) (fun _ => rfl) rfl rfl rfl (fun v313 b313 e313 => ?_)
              refine ev_iload_n rfl rfl rfl ?_
              refine ev_icmp_eq rfl rfl (fun c314 => ?_) (fun c314 => ?_)
              · have b315 : B v313 0 999 := R_eqX (B.any v313) b5 c314
                refine ev_iconst (v := 0) rfl rfl (by decide) ?_
                refine ev_istore_n rfl rfl rfl rfl ?_
                dsimp only [List.set]
                refine ev_iincB (y := 1) (l := 1) (u := 6) rfl rfl rfl (by decide) rfl rfl b297 (by decide : B 1 1 1) (by decide) (by decide) (by decide) (by decide) (fun v316 b316 e316 => ?_)
                dsimp only [List.set]
                refine ev_goto rfl rfl ?_
                exact (ih33 0 v316 h293 ((by decide : B 0 0 0).mono (by decide) (by decide)) (b316.mono (by decide) (by decide)) hJ294 (L_up hm33 (e_p1 e316 (by decide))))
              · refine ev_iconst (v := 1) rfl rfl (by decide) ?_
                refine ev_goto rfl rfl ?_
                refine ev_istore_n rfl rfl rfl rfl ?_
                dsimp only [List.set]
                refine ev_iincB (y := 1) (l := 1) (u := 6) rfl rfl rfl (by decide) rfl rfl b297 (by decide : B 1 1 1) (by decide) (by decide) (by decide) (by decide) (fun v317 b317 e317 => ?_)
                dsimp only [List.set]
                refine ev_goto rfl rfl ?_
                exact (ih33 1 v317 h293 ((by decide : B 1 1 1).mono (by decide) (by decide)) (b317.mono (by decide) (by decide)) hJ294 (L_up hm33 (e_p1 e317 (by decide))))
      exact (lp33_288 7 1 0 h ((by decide : B 1 1 1).mono (by decide) (by decide)) ((by decide : B 0 0 0).mono (by decide) (by decide)) hJ0 (L_init (by decide : B 0 0 0) (by decide)))

set_option maxRecDepth 100000 in
set_option maxHeartbeats 4000000 in
theorem w_X10_speed_63 (L : Nat) (b : Bool) (h : Hp) (hB : Bx h) (a0 : Int32) : EvJ mi_X10_speed [.ref 63, .int a0] (G0 L b) h (fun r : Int32 => B r (-1) 99) [(63, 51)] := by
  refine EvM.of2 (lo := [some (.ref 63), some (.int a0), none]) pf_X10_speed ok_X10_speed rfl rfl ?_
  have hJ0 : JW [(63, 51)] h h := JW.refl hB
  refine ev_iload_n rfl rfl rfl ?_
  refine ev_i2l rfl rfl ?_
  refine ev_lconst (v := 1) rfl rfl rfl ?_
  refine ev_ldc2 (v := 99) rfl rfl kc_X10_344 ?_
  refine ev_S3P rfl rfl lk_X10_124 st_X10_in rfl rfl (w_in (G0 L b) h a0 1 99 (by decide : BL 1 1 1) (by decide : BL 99 99 99)) (fun r1 q1 => ?_)
  obtain ⟨b1, p1_0⟩ := q1
  refine ev_if_ne rfl rfl (fun c2 => ?_) (fun c2 => ?_)
  · have b3 : B r1 1 1 := R_neL b1 (by decide : B 0 0 0) c2 (by decide)
    have b4 : B a0 1 99 := p1_0 c2
    refine ev_aload_n rfl rfl rfl ?_
    refine ev_getW (l := 1) (u := 99) hJ0.1 rfl rfl rfl fl_X10_109 rfl rfl rfl (fun v6 b6 e6 => ?_)
    refine ev_istore_n rfl rfl rfl rfl ?_
    dsimp only [List.set]
    refine ev_aload_n rfl rfl rfl ?_
    refine ev_iload_n rfl rfl rfl ?_
    refine ev_putW (l := 1) (u := 99) hJ0 rfl b4 (by decide) (by decide) rfl rfl rfl fl_X10_109 rfl rfl rfl rfl rfl (fun h7 hJ7 k7 => ?_)
    refine ev_iload_n rfl rfl rfl ?_
    exact ev_iret rfl rfl rfl ⟨⟨_, rfl, (b6.mono (by decide) (by decide))⟩, rfl, hJ7⟩
  · have b5 : B r1 0 0 := R_eqX b1 (by decide : B 0 0 0) c2
    refine ev_iconst (v := (-1)) rfl rfl (by decide) ?_
    exact ev_iret rfl rfl rfl ⟨⟨_, rfl, ((by decide : B (-1) (-1) (-1)).mono (by decide) (by decide))⟩, rfl, hJ0⟩

set_option maxRecDepth 100000 in
set_option maxHeartbeats 4000000 in
theorem w_X10_farOf_63 (L : Nat) (b : Bool) (h : Hp) (hB : Bx h) (a0 : Int32) (a1 : Int32) : EvP mi_X10_farOf [.ref 63, .int a0, .int a1] (G0 L b) h (fun r : Int32 => B r (-2147483648) 2147483647) := by
  refine EvM.of2 (lo := [some (.ref 63), some (.int a0), some (.int a1), none, none, none, none]) pf_X10_farOf ok_X10_farOf rfl rfl ?_
  refine ev_iload_n rfl rfl rfl ?_
  refine ev_iload_n rfl rfl rfl ?_
  refine ev_icmp_ge rfl rfl (fun c1 => ?_) (fun c1 => ?_)
  · refine ev_iload_n rfl rfl rfl ?_
    refine ev_istore_n rfl rfl rfl rfl ?_
    dsimp only [List.set]
    refine ev_iload_n rfl rfl rfl ?_
    refine ev_iload_n rfl rfl rfl ?_
    refine ev_icmp_ge rfl rfl (fun c4 => ?_) (fun c4 => ?_)
    · refine ev_iload_n rfl rfl rfl ?_
      refine ev_istore rfl rfl rfl rfl ?_
      dsimp only [List.set]
      refine ev_iload rfl rfl rfl ?_
      refine ev_iload_n rfl rfl rfl ?_
      refine ev_isubA rfl rfl (fun v7 g7 => ?_)
      refine ev_istore rfl rfl rfl rfl ?_
      dsimp only [List.set]
      refine ev_iconst (v := 0) rfl rfl (by decide) ?_
      refine ev_istore rfl rfl rfl rfl ?_
      dsimp only [List.set]
      have lp32_128 : ∀ (n : Nat) (w129 : Int32) (w130 : Int32), B w130 0 6 → 6 + 1 - w130.toInt ≤ (n : Int) → EvQ mi_X10_farOf 32 [some (.ref 63), some (.int a0), some (.int a1), some (.int a1), some (.int a0), some (.int w129), some (.int w130)] [] (G0 L b) h 0 0 (QP (fun r : Int32 => B r (-2147483648) 2147483647) (G0 L b) h) := by
        intro n
        induction n with
        | zero =>
          intro w129 w130 b131 hm32
          exact absurd hm32 (L_zero b131 (by decide))
        | succ n ih32 =>
          intro w129 w130 b131 hm32
          refine ev_iload rfl rfl rfl ?_
          refine ev_aload_n rfl rfl rfl ?_
          refine ev_getW (l := 0) (u := 6) hB rfl rfl rfl fl_X10_349 rfl rfl rfl (fun v132 b132 e132 => ?_)
          refine ev_icmp_ge rfl rfl (fun c133 => ?_) (fun c133 => ?_)
          · refine ev_iload rfl rfl rfl ?_
            exact ev_iret rfl rfl rfl ⟨⟨_, rfl, (B.any w129)⟩, rfl, rfl⟩
          · have b134 : B w130 0 5 := R_ltX b131 b132 (Int32.not_le.mp c133) (by decide)
            have b135 : B v132 1 6 := R_ltY b131 b132 (Int32.not_le.mp c133) (by decide)
            refine ev_iload rfl rfl rfl ?_
            refine ev_aload_n rfl rfl rfl ?_
            refine ev_getR (y := 90) rfl rfl fl_X10_103 rfl rfl rfl rfl ?_
            refine ev_iload rfl rfl rfl ?_
            refine ev_ialW (n := 6) (l := (-2147483648)) (u := 2147483647) hB b134 (by decide) (by decide) (fun _ => rfl) rfl rfl rfl (fun v136 b136 e136 => ?_)
            refine ev_iload_n rfl rfl rfl ?_
            refine ev_icmp_le rfl rfl (fun c137 => ?_) (fun c137 => ?_)
            · refine ev_iconst (v := 0) rfl rfl (by decide) ?_
              refine ev_iaddB (l := -2147483648) (u := 2147483647) rfl rfl (B.any w129) (by decide : B 0 0 0) (by decide) (by decide) (by decide) (by decide) (fun v140 b140 e140 g140 => ?_)
              refine ev_istore rfl rfl rfl rfl ?_
              dsimp only [List.set]
              refine ev_iincB (y := 1) (l := 1) (u := 6) rfl rfl rfl (by decide) rfl rfl b134 (by decide : B 1 1 1) (by decide) (by decide) (by decide) (by decide) (fun v141 b141 e141 => ?_)
              dsimp only [List.set]
              refine ev_goto rfl rfl ?_
              exact (ih32 v140 v141 (b141.mono (by decide) (by decide)) (L_up hm32 (e_p1 e141 (by decide))))
            · have b138 : B v136 (-2147483647) 2147483647 := R_ltY (B.any a1) (B.any v136) (Int32.not_le.mp c137) (by decide)
              have b139 : B a1 (-2147483648) 2147483646 := R_ltX (B.any a1) (B.any v136) (Int32.not_le.mp c137) (by decide)
              refine ev_aload_n rfl rfl rfl ?_
              refine ev_getR (y := 90) rfl rfl fl_X10_103 rfl rfl rfl rfl ?_
              refine ev_iload rfl rfl rfl ?_
              refine ev_iadV (v := v136) rfl rfl rfl (b134.vp (by decide) (by decide)) rfl e136 ?_
              refine ev_iload rfl rfl rfl ?_
              refine ev_icmp_gt rfl rfl (fun c142 => ?_) (fun c142 => ?_)
              · have b143 : B a0 (-2147483648) 2147483646 := R_ltX (B.any a0) b138 c142 (by decide)
                refine ev_iconst (v := 0) rfl rfl (by decide) ?_
                refine ev_iaddB (l := -2147483648) (u := 2147483647) rfl rfl (B.any w129) (by decide : B 0 0 0) (by decide) (by decide) (by decide) (by decide) (fun v145 b145 e145 g145 => ?_)
                refine ev_istore rfl rfl rfl rfl ?_
                dsimp only [List.set]
                refine ev_iincB (y := 1) (l := 1) (u := 6) rfl rfl rfl (by decide) rfl rfl b134 (by decide : B 1 1 1) (by decide) (by decide) (by decide) (by decide) (fun v146 b146 e146 => ?_)
                dsimp only [List.set]
                refine ev_goto rfl rfl ?_
                exact (ih32 v145 v146 (b146.mono (by decide) (by decide)) (L_up hm32 (e_p1 e146 (by decide))))
              · have b144 : B a0 (-2147483647) 2147483647 := R_leY b138 (B.any a0) (Int32.not_lt.mp c142) (by decide)
                refine ev_aload_n rfl rfl rfl ?_
                refine ev_getR (y := 91) rfl rfl fl_X10_106 rfl rfl rfl rfl ?_
                refine ev_iload rfl rfl rfl ?_
                refine ev_ialW (n := 6) (l := (-2147483648)) (u := 2147483647) hB b134 (by decide) (by decide) (fun _ => rfl) rfl rfl rfl (fun v147 b147 e147 => ?_)
                refine ev_goto rfl rfl ?_
                refine ev_iaddA rfl rfl (fun v148 g148 => ?_)
                refine ev_istore rfl rfl rfl rfl ?_
                dsimp only [List.set]
                refine ev_iincB (y := 1) (l := 1) (u := 6) rfl rfl rfl (by decide) rfl rfl b134 (by decide : B 1 1 1) (by decide) (by decide) (by decide) (by decide) (fun v149 b149 e149 => ?_)
                dsimp only [List.set]
                refine ev_goto rfl rfl ?_
                exact (ih32 v148 v149 (b149.mono (by decide) (by decide)) (L_up hm32 (e_p1 e149 (by decide))))
      exact (lp32_128 7 v7 0 ((by decide : B 0 0 0).mono (by decide) (by decide)) (L_init (by decide : B 0 0 0) (by decide)))
    · have b5 : B a0 (-2147483648) 2147483646 := R_ltX (B.any a0) (B.any a1) (Int32.not_le.mp c4) (by decide)
      have b6 : B a1 (-2147483647) 2147483647 := R_ltY (B.any a0) (B.any a1) (Int32.not_le.mp c4) (by decide)
      refine ev_iload_n rfl rfl rfl ?_
      refine ev_goto rfl rfl ?_
      refine ev_istore rfl rfl rfl rfl ?_
      dsimp only [List.set]
      refine ev_iload rfl rfl rfl ?_
      refine ev_iload_n rfl rfl rfl ?_
      refine ev_isubA rfl rfl (fun v150 g150 => ?_)
      refine ev_istore rfl rfl rfl rfl ?_
      dsimp only [List.set]
      refine ev_iconst (v := 0) rfl rfl (by decide) ?_
      refine ev_istore rfl rfl rfl rfl ?_
      dsimp only [List.set]
      have lp32_271 : ∀ (n : Nat) (w272 : Int32) (w273 : Int32), B w273 0 6 → 6 + 1 - w273.toInt ≤ (n : Int) → EvQ mi_X10_farOf 32 [some (.ref 63), some (.int a0), some (.int a1), some (.int a1), some (.int a1), some (.int w272), some (.int w273)] [] (G0 L b) h 0 0 (QP (fun r : Int32 => B r (-2147483648) 2147483647) (G0 L b) h) := by
        intro n
        induction n with
        | zero =>
          intro w272 w273 b274 hm32
          exact absurd hm32 (L_zero b274 (by decide))
        | succ n ih32 =>
          intro w272 w273 b274 hm32
          refine ev_iload rfl rfl rfl ?_
          refine ev_aload_n rfl rfl rfl ?_
          refine ev_getW (l := 0) (u := 6) hB rfl rfl rfl fl_X10_349 rfl rfl rfl (fun v275 b275 e275 => ?_)
          refine ev_icmp_ge rfl rfl (fun c276 => ?_) (fun c276 => ?_)
          · refine ev_iload rfl rfl rfl ?_
            exact ev_iret rfl rfl rfl ⟨⟨_, rfl, (B.any w272)⟩, rfl, rfl⟩
          · have b277 : B w273 0 5 := R_ltX b274 b275 (Int32.not_le.mp c276) (by decide)
            have b278 : B v275 1 6 := R_ltY b274 b275 (Int32.not_le.mp c276) (by decide)
            refine ev_iload rfl rfl rfl ?_
            refine ev_aload_n rfl rfl rfl ?_
            refine ev_getR (y := 90) rfl rfl fl_X10_103 rfl rfl rfl rfl ?_
            refine ev_iload rfl rfl rfl ?_
            refine ev_ialW (n := 6) (l := (-2147483648)) (u := 2147483647) hB b277 (by decide) (by decide) (fun _ => rfl) rfl rfl rfl (fun v279 b279 e279 => ?_)
            refine ev_iload_n rfl rfl rfl ?_
            refine ev_icmp_le rfl rfl (fun c280 => ?_) (fun c280 => ?_)
            · refine ev_iconst (v := 0) rfl rfl (by decide) ?_
              refine ev_iaddB (l := -2147483648) (u := 2147483647) rfl rfl (B.any w272) (by decide : B 0 0 0) (by decide) (by decide) (by decide) (by decide) (fun v283 b283 e283 g283 => ?_)
              refine ev_istore rfl rfl rfl rfl ?_
              dsimp only [List.set]
              refine ev_iincB (y := 1) (l := 1) (u := 6) rfl rfl rfl (by decide) rfl rfl b277 (by decide : B 1 1 1) (by decide) (by decide) (by decide) (by decide) (fun v284 b284 e284 => ?_)
              dsimp only [List.set]
              refine ev_goto rfl rfl ?_
              exact (ih32 v283 v284 (b284.mono (by decide) (by decide)) (L_up hm32 (e_p1 e284 (by decide))))
            · have b281 : B v279 (-2147483646) 2147483647 := R_ltY b6 (B.any v279) (Int32.not_le.mp c280) (by decide)
              have b282 : B a1 (-2147483647) 2147483646 := R_ltX b6 (B.any v279) (Int32.not_le.mp c280) (by decide)
              refine ev_aload_n rfl rfl rfl ?_
              refine ev_getR (y := 90) rfl rfl fl_X10_103 rfl rfl rfl rfl ?_
              refine ev_iload rfl rfl rfl ?_
              refine ev_iadV (v := v279) rfl rfl rfl (b277.vp (by decide) (by decide)) rfl e279 ?_
              refine ev_iload rfl rfl rfl ?_
              refine ev_icmp_gt rfl rfl (fun c285 => ?_) (fun c285 => ?_)
              · refine ev_iconst (v := 0) rfl rfl (by decide) ?_
                refine ev_iaddB (l := -2147483648) (u := 2147483647) rfl rfl (B.any w272) (by decide : B 0 0 0) (by decide) (by decide) (by decide) (by decide) (fun v288 b288 e288 g288 => ?_)
                refine ev_istore rfl rfl rfl rfl ?_
                dsimp only [List.set]
                refine ev_iincB (y := 1) (l := 1) (u := 6) rfl rfl rfl (by decide) rfl rfl b277 (by decide : B 1 1 1) (by decide) (by decide) (by decide) (by decide) (fun v289 b289 e289 => ?_)
                dsimp only [List.set]
                refine ev_goto rfl rfl ?_
                exact (ih32 v288 v289 (b289.mono (by decide) (by decide)) (L_up hm32 (e_p1 e289 (by decide))))
              · have b286 : B v279 (-2147483646) 2147483646 := R_leX b281 b282 (Int32.not_lt.mp c285) (by decide)
                have b287 : B a1 (-2147483646) 2147483646 := R_leY b281 b282 (Int32.not_lt.mp c285) (by decide)
                refine ev_aload_n rfl rfl rfl ?_
                refine ev_getR (y := 91) rfl rfl fl_X10_106 rfl rfl rfl rfl ?_
                refine ev_iload rfl rfl rfl ?_
                refine ev_ialW (n := 6) (l := (-2147483648)) (u := 2147483647) hB b277 (by decide) (by decide) (fun _ => rfl) rfl rfl rfl (fun v290 b290 e290 => ?_)
                refine ev_goto rfl rfl ?_
                refine ev_iaddA rfl rfl (fun v291 g291 => ?_)
                refine ev_istore rfl rfl rfl rfl ?_
                dsimp only [List.set]
                refine ev_iincB (y := 1) (l := 1) (u := 6) rfl rfl rfl (by decide) rfl rfl b277 (by decide : B 1 1 1) (by decide) (by decide) (by decide) (by decide) (fun v292 b292 e292 => ?_)
                dsimp only [List.set]
                refine ev_goto rfl rfl ?_
                exact (ih32 v291 v292 (b292.mono (by decide) (by decide)) (L_up hm32 (e_p1 e292 (by decide))))
      exact (lp32_271 7 v150 0 ((by decide : B 0 0 0).mono (by decide) (by decide)) (L_init (by decide : B 0 0 0) (by decide)))
  · have b2 : B a0 (-2147483648) 2147483646 := R_ltX (B.any a0) (B.any a1) (Int32.not_le.mp c1) (by decide)
    have b3 : B a1 (-2147483647) 2147483647 := R_ltY (B.any a0) (B.any a1) (Int32.not_le.mp c1) (by decide)
    refine ev_iload_n rfl rfl rfl ?_
    refine ev_goto rfl rfl ?_
    refine ev_istore_n rfl rfl rfl rfl ?_
    dsimp only [List.set]
    refine ev_iload_n rfl rfl rfl ?_
    refine ev_iload_n rfl rfl rfl ?_
    refine ev_icmp_ge rfl rfl (fun c293 => ?_) (fun c293 => ?_)
    · have b294 : B a0 (-2147483647) 2147483646 := R_leY b3 b2 c293 (by decide)
      have b295 : B a1 (-2147483647) 2147483646 := R_leX b3 b2 c293 (by decide)
      refine ev_iload_n rfl rfl rfl ?_
      refine ev_istore rfl rfl rfl rfl ?_
      dsimp only [List.set]
      refine ev_iload rfl rfl rfl ?_
      refine ev_iload_n rfl rfl rfl ?_
      refine ev_isubA rfl rfl (fun v296 g296 => ?_)
      refine ev_istore rfl rfl rfl rfl ?_
      dsimp only [List.set]
      refine ev_iconst (v := 0) rfl rfl (by decide) ?_
      refine ev_istore rfl rfl rfl rfl ?_
      dsimp only [List.set]
      have lp32_417 : ∀ (n : Nat) (w418 : Int32) (w419 : Int32), B w419 0 6 → 6 + 1 - w419.toInt ≤ (n : Int) → EvQ mi_X10_farOf 32 [some (.ref 63), some (.int a0), some (.int a1), some (.int a0), some (.int a0), some (.int w418), some (.int w419)] [] (G0 L b) h 0 0 (QP (fun r : Int32 => B r (-2147483648) 2147483647) (G0 L b) h) := by
        intro n
        induction n with
        | zero =>
          intro w418 w419 b420 hm32
          exact absurd hm32 (L_zero b420 (by decide))
        | succ n ih32 =>
          intro w418 w419 b420 hm32
          refine ev_iload rfl rfl rfl ?_
          refine ev_aload_n rfl rfl rfl ?_
          refine ev_getW (l := 0) (u := 6) hB rfl rfl rfl fl_X10_349 rfl rfl rfl (fun v421 b421 e421 => ?_)
          refine ev_icmp_ge rfl rfl (fun c422 => ?_) (fun c422 => ?_)
          · refine ev_iload rfl rfl rfl ?_
            exact ev_iret rfl rfl rfl ⟨⟨_, rfl, (B.any w418)⟩, rfl, rfl⟩
          · have b423 : B w419 0 5 := R_ltX b420 b421 (Int32.not_le.mp c422) (by decide)
            have b424 : B v421 1 6 := R_ltY b420 b421 (Int32.not_le.mp c422) (by decide)
            refine ev_iload rfl rfl rfl ?_
            refine ev_aload_n rfl rfl rfl ?_
            refine ev_getR (y := 90) rfl rfl fl_X10_103 rfl rfl rfl rfl ?_
            refine ev_iload rfl rfl rfl ?_
            refine ev_ialW (n := 6) (l := (-2147483648)) (u := 2147483647) hB b423 (by decide) (by decide) (fun _ => rfl) rfl rfl rfl (fun v425 b425 e425 => ?_)
            refine ev_iload_n rfl rfl rfl ?_
            refine ev_icmp_le rfl rfl (fun c426 => ?_) (fun c426 => ?_)
            · have b427 : B v425 (-2147483648) 2147483646 := R_leX (B.any v425) b294 c426 (by decide)
              refine ev_iconst (v := 0) rfl rfl (by decide) ?_
              refine ev_iaddB (l := -2147483648) (u := 2147483647) rfl rfl (B.any w418) (by decide : B 0 0 0) (by decide) (by decide) (by decide) (by decide) (fun v429 b429 e429 g429 => ?_)
              refine ev_istore rfl rfl rfl rfl ?_
              dsimp only [List.set]
              refine ev_iincB (y := 1) (l := 1) (u := 6) rfl rfl rfl (by decide) rfl rfl b423 (by decide : B 1 1 1) (by decide) (by decide) (by decide) (by decide) (fun v430 b430 e430 => ?_)
              dsimp only [List.set]
              refine ev_goto rfl rfl ?_
              exact (ih32 v429 v430 (b430.mono (by decide) (by decide)) (L_up hm32 (e_p1 e430 (by decide))))
            · have b428 : B v425 (-2147483646) 2147483647 := R_ltY b294 (B.any v425) (Int32.not_le.mp c426) (by decide)
              refine ev_aload_n rfl rfl rfl ?_
              refine ev_getR (y := 90) rfl rfl fl_X10_103 rfl rfl rfl rfl ?_
              refine ev_iload rfl rfl rfl ?_
              refine ev_iadV (v := v425) rfl rfl rfl (b423.vp (by decide) (by decide)) rfl e425 ?_
              refine ev_iload rfl rfl rfl ?_
              refine ev_icmp_gt rfl rfl (fun c431 => ?_) (fun c431 => ?_)
              · refine ev_iconst (v := 0) rfl rfl (by decide) ?_
                refine ev_iaddB (l := -2147483648) (u := 2147483647) rfl rfl (B.any w418) (by decide : B 0 0 0) (by decide) (by decide) (by decide) (by decide) (fun v434 b434 e434 g434 => ?_)
                refine ev_istore rfl rfl rfl rfl ?_
                dsimp only [List.set]
                refine ev_iincB (y := 1) (l := 1) (u := 6) rfl rfl rfl (by decide) rfl rfl b423 (by decide : B 1 1 1) (by decide) (by decide) (by decide) (by decide) (fun v435 b435 e435 => ?_)
                dsimp only [List.set]
                refine ev_goto rfl rfl ?_
                exact (ih32 v434 v435 (b435.mono (by decide) (by decide)) (L_up hm32 (e_p1 e435 (by decide))))
              · have b432 : B v425 (-2147483646) 2147483646 := R_leX b428 b294 (Int32.not_lt.mp c431) (by decide)
                have b433 : B a0 (-2147483646) 2147483646 := R_leY b428 b294 (Int32.not_lt.mp c431) (by decide)
                refine ev_aload_n rfl rfl rfl ?_
                refine ev_getR (y := 91) rfl rfl fl_X10_106 rfl rfl rfl rfl ?_
                refine ev_iload rfl rfl rfl ?_
                refine ev_ialW (n := 6) (l := (-2147483648)) (u := 2147483647) hB b423 (by decide) (by decide) (fun _ => rfl) rfl rfl rfl (fun v436 b436 e436 => ?_)
                refine ev_goto rfl rfl ?_
                refine ev_iaddA rfl rfl (fun v437 g437 => ?_)
                refine ev_istore rfl rfl rfl rfl ?_
                dsimp only [List.set]
                refine ev_iincB (y := 1) (l := 1) (u := 6) rfl rfl rfl (by decide) rfl rfl b423 (by decide : B 1 1 1) (by decide) (by decide) (by decide) (by decide) (fun v438 b438 e438 => ?_)
                dsimp only [List.set]
                refine ev_goto rfl rfl ?_
                exact (ih32 v437 v438 (b438.mono (by decide) (by decide)) (L_up hm32 (e_p1 e438 (by decide))))
      exact (lp32_417 7 v296 0 ((by decide : B 0 0 0).mono (by decide) (by decide)) (L_init (by decide : B 0 0 0) (by decide)))
    · refine ev_iload_n rfl rfl rfl ?_
      refine ev_goto rfl rfl ?_
      refine ev_istore rfl rfl rfl rfl ?_
      dsimp only [List.set]
      refine ev_iload rfl rfl rfl ?_
      refine ev_iload_n rfl rfl rfl ?_
      refine ev_isubA rfl rfl (fun v439 g439 => ?_)
      refine ev_istore rfl rfl rfl rfl ?_
      dsimp only [List.set]
      refine ev_iconst (v := 0) rfl rfl (by decide) ?_
      refine ev_istore rfl rfl rfl rfl ?_
      dsimp only [List.set]
      have lp32_560 : ∀ (n : Nat) (w561 : Int32) (w562 : Int32), B w562 0 6 → 6 + 1 - w562.toInt ≤ (n : Int) → EvQ mi_X10_farOf 32 [some (.ref 63), some (.int a0), some (.int a1), some (.int a0), some (.int a1), some (.int w561), some (.int w562)] [] (G0 L b) h 0 0 (QP (fun r : Int32 => B r (-2147483648) 2147483647) (G0 L b) h) := by
        intro n
        induction n with
        | zero =>
          intro w561 w562 b563 hm32
          exact absurd hm32 (L_zero b563 (by decide))
        | succ n ih32 =>
          intro w561 w562 b563 hm32
          refine ev_iload rfl rfl rfl ?_
          refine ev_aload_n rfl rfl rfl ?_
          refine ev_getW (l := 0) (u := 6) hB rfl rfl rfl fl_X10_349 rfl rfl rfl (fun v564 b564 e564 => ?_)
          refine ev_icmp_ge rfl rfl (fun c565 => ?_) (fun c565 => ?_)
          · refine ev_iload rfl rfl rfl ?_
            exact ev_iret rfl rfl rfl ⟨⟨_, rfl, (B.any w561)⟩, rfl, rfl⟩
          · have b566 : B w562 0 5 := R_ltX b563 b564 (Int32.not_le.mp c565) (by decide)
            have b567 : B v564 1 6 := R_ltY b563 b564 (Int32.not_le.mp c565) (by decide)
            refine ev_iload rfl rfl rfl ?_
            refine ev_aload_n rfl rfl rfl ?_
            refine ev_getR (y := 90) rfl rfl fl_X10_103 rfl rfl rfl rfl ?_
            refine ev_iload rfl rfl rfl ?_
            refine ev_ialW (n := 6) (l := (-2147483648)) (u := 2147483647) hB b566 (by decide) (by decide) (fun _ => rfl) rfl rfl rfl (fun v568 b568 e568 => ?_)
            refine ev_iload_n rfl rfl rfl ?_
            refine ev_icmp_le rfl rfl (fun c569 => ?_) (fun c569 => ?_)
            · have b570 : B v568 (-2147483648) 2147483646 := R_leX (B.any v568) b2 c569 (by decide)
              refine ev_iconst (v := 0) rfl rfl (by decide) ?_
              refine ev_iaddB (l := -2147483648) (u := 2147483647) rfl rfl (B.any w561) (by decide : B 0 0 0) (by decide) (by decide) (by decide) (by decide) (fun v572 b572 e572 g572 => ?_)
              refine ev_istore rfl rfl rfl rfl ?_
              dsimp only [List.set]
              refine ev_iincB (y := 1) (l := 1) (u := 6) rfl rfl rfl (by decide) rfl rfl b566 (by decide : B 1 1 1) (by decide) (by decide) (by decide) (by decide) (fun v573 b573 e573 => ?_)
              dsimp only [List.set]
              refine ev_goto rfl rfl ?_
              exact (ih32 v572 v573 (b573.mono (by decide) (by decide)) (L_up hm32 (e_p1 e573 (by decide))))
            · have b571 : B v568 (-2147483647) 2147483647 := R_ltY b2 (B.any v568) (Int32.not_le.mp c569) (by decide)
              refine ev_aload_n rfl rfl rfl ?_
              refine ev_getR (y := 90) rfl rfl fl_X10_103 rfl rfl rfl rfl ?_
              refine ev_iload rfl rfl rfl ?_
              refine ev_iadV (v := v568) rfl rfl rfl (b566.vp (by decide) (by decide)) rfl e568 ?_
              refine ev_iload rfl rfl rfl ?_
              refine ev_icmp_gt rfl rfl (fun c574 => ?_) (fun c574 => ?_)
              · have b575 : B v568 (-2147483646) 2147483647 := R_ltY b3 b571 c574 (by decide)
                have b576 : B a1 (-2147483647) 2147483646 := R_ltX b3 b571 c574 (by decide)
                refine ev_iconst (v := 0) rfl rfl (by decide) ?_
                refine ev_iaddB (l := -2147483648) (u := 2147483647) rfl rfl (B.any w561) (by decide : B 0 0 0) (by decide) (by decide) (by decide) (by decide) (fun v577 b577 e577 g577 => ?_)
                refine ev_istore rfl rfl rfl rfl ?_
                dsimp only [List.set]
                refine ev_iincB (y := 1) (l := 1) (u := 6) rfl rfl rfl (by decide) rfl rfl b566 (by decide : B 1 1 1) (by decide) (by decide) (by decide) (by decide) (fun v578 b578 e578 => ?_)
                dsimp only [List.set]
                refine ev_goto rfl rfl ?_
                exact (ih32 v577 v578 (b578.mono (by decide) (by decide)) (L_up hm32 (e_p1 e578 (by decide))))
              · refine ev_aload_n rfl rfl rfl ?_
                refine ev_getR (y := 91) rfl rfl fl_X10_106 rfl rfl rfl rfl ?_
                refine ev_iload rfl rfl rfl ?_
                refine ev_ialW (n := 6) (l := (-2147483648)) (u := 2147483647) hB b566 (by decide) (by decide) (fun _ => rfl) rfl rfl rfl (fun v579 b579 e579 => ?_)
                refine ev_goto rfl rfl ?_
                refine ev_iaddA rfl rfl (fun v580 g580 => ?_)
                refine ev_istore rfl rfl rfl rfl ?_
                dsimp only [List.set]
                refine ev_iincB (y := 1) (l := 1) (u := 6) rfl rfl rfl (by decide) rfl rfl b566 (by decide : B 1 1 1) (by decide) (by decide) (by decide) (by decide) (fun v581 b581 e581 => ?_)
                dsimp only [List.set]
                refine ev_goto rfl rfl ?_
                exact (ih32 v580 v581 (b581.mono (by decide) (by decide)) (L_up hm32 (e_p1 e581 (by decide))))
      exact (lp32_560 7 v439 0 ((by decide : B 0 0 0).mono (by decide) (by decide)) (L_init (by decide : B 0 0 0) (by decide)))

set_option maxRecDepth 100000 in
set_option maxHeartbeats 4000000 in
theorem w_X10_far_63 (L : Nat) (b : Bool) (h : Hp) (hB : Bx h) (a0 : Int32) (a1 : Int32) : EvP mi_X10_far [.ref 63, .int a0, .int a1] (G0 L b) h (fun r : Int32 => B r (-2147483648) 2147483647) := by
  refine EvM.of2 (lo := [some (.ref 63), some (.int a0), some (.int a1)]) pf_X10_far ok_X10_far rfl rfl ?_
  refine ev_iload_n rfl rfl rfl ?_
  refine ev_i2l rfl rfl ?_
  refine ev_lconst (v := 0) rfl rfl rfl ?_
  refine ev_ldc2 (v := 999) rfl rfl kc_X10_342 ?_
  refine ev_S3P rfl rfl lk_X10_124 st_X10_in rfl rfl (w_in (G0 L b) h a0 0 999 (by decide : BL 0 0 0) (by decide : BL 999 999 999)) (fun r1 q1 => ?_)
  obtain ⟨b1, p1_0⟩ := q1
  refine ev_if_eq rfl rfl (fun c2 => ?_) (fun c2 => ?_)
  · have b3 : B r1 0 0 := R_eqX b1 (by decide : B 0 0 0) c2
    refine ev_iconst (v := (-1)) rfl rfl (by decide) ?_
    exact ev_iret rfl rfl rfl ⟨⟨_, rfl, ((by decide : B (-1) (-1) (-1)).mono (by decide) (by decide))⟩, rfl, rfl⟩
  · have b4 : B r1 1 1 := R_neL b1 (by decide : B 0 0 0) c2 (by decide)
    have b5 : B a0 0 999 := p1_0 c2
    refine ev_iload_n rfl rfl rfl ?_
    refine ev_i2l rfl rfl ?_
    refine ev_lconst (v := 0) rfl rfl rfl ?_
    refine ev_ldc2 (v := 999) rfl rfl kc_X10_342 ?_
    refine ev_S3P rfl rfl lk_X10_124 st_X10_in rfl rfl (w_in (G0 L b) h a1 0 999 (by decide : BL 0 0 0) (by decide : BL 999 999 999)) (fun r6 q6 => ?_)
    obtain ⟨b6, p6_0⟩ := q6
    refine ev_if_eq rfl rfl (fun c7 => ?_) (fun c7 => ?_)
    · have b8 : B r6 0 0 := R_eqX b6 (by decide : B 0 0 0) c7
      refine ev_iconst (v := (-1)) rfl rfl (by decide) ?_
      exact ev_iret rfl rfl rfl ⟨⟨_, rfl, ((by decide : B (-1) (-1) (-1)).mono (by decide) (by decide))⟩, rfl, rfl⟩
    · have b9 : B r6 1 1 := R_neL b6 (by decide : B 0 0 0) c7 (by decide)
      have b10 : B a1 0 999 := p6_0 c7
      refine ev_aload_n rfl rfl rfl ?_
      refine ev_iload_n rfl rfl rfl ?_
      refine ev_iload_n rfl rfl rfl ?_
      refine ev_V2P rfl rfl lk_X10_352 vt_X10_farOf rfl rfl rfl rfl rfl (w_X10_farOf_63 L b h hB a0 a1) (fun r11 q11 => ?_)
      refine ev_goto rfl rfl ?_
      exact ev_iret rfl rfl rfl ⟨⟨_, rfl, (B.any r11)⟩, rfl, rfl⟩

set_option maxRecDepth 100000 in
set_option maxHeartbeats 4000000 in
theorem w_X10_heardAt_63 (L : Nat) (b : Bool) (h : Hp) (hB : Bx h) (a0 : Int32) (p0 : B a0 0 3) (a1 : Int32) : EvP mi_X10_heardAt [.ref 63, .int a0, .int a1] (G0 L b) h (fun r : Int32 => B r (-2147483648) 2147483647) := by
  refine EvM.of2 (lo := [some (.ref 63), some (.int a0), some (.int a1)]) pf_X10_heardAt ok_X10_heardAt rfl rfl ?_
  refine ev_aload_n rfl rfl rfl ?_
  refine ev_getR (y := 89) rfl rfl fl_X10_100 rfl rfl rfl rfl ?_
  refine ev_iload_n rfl rfl rfl ?_
  refine ev_ialW (n := 4) (l := (-2147483648)) (u := 2147483647) hB p0 (by decide) (by decide) (fun _ => rfl) rfl rfl rfl (fun v1 b1 e1 => ?_)
  refine ev_aload_n rfl rfl rfl ?_
  refine ev_aload_n rfl rfl rfl ?_
  refine ev_getR (y := 88) rfl rfl fl_X10_97 rfl rfl rfl rfl ?_
  refine ev_iload_n rfl rfl rfl ?_
  refine ev_ialW (n := 4) (l := (-2147483648)) (u := 2147483647) hB p0 (by decide) (by decide) (fun _ => rfl) rfl rfl rfl (fun v2 b2 e2 => ?_)
  refine ev_iload_n rfl rfl rfl ?_
  refine ev_V2P rfl rfl lk_X10_352 vt_X10_farOf rfl rfl rfl rfl rfl (w_X10_farOf_63 L b h hB v2 a1) (fun r3 q3 => ?_)
  refine ev_aload_n rfl rfl rfl ?_
  refine ev_getW (l := 1) (u := 99) hB rfl rfl rfl fl_X10_109 rfl rfl rfl (fun v4 b4 e4 => ?_)
  refine ev_idivA b4 (by decide) rfl rfl (fun v5 => ?_)
  refine ev_iaddA rfl rfl (fun v6 g6 => ?_)
  exact ev_iret rfl rfl rfl ⟨⟨_, rfl, (B.any v6)⟩, rfl, rfl⟩

set_option maxRecDepth 100000 in
set_option maxHeartbeats 4000000 in
theorem w_X10_heard_63 (L : Nat) (b : Bool) (h : Hp) (hB : Bx h) (a0 : Int32) (a1 : Int32) (a2 : Int32) : EvP mi_X10_heard [.ref 63, .int a0, .int a1, .int a2] (G0 L b) h (fun r : Int32 => B r (-2147483648) 2147483647) := by
  refine EvM.of2 (lo := [some (.ref 63), some (.int a0), some (.int a1), some (.int a2)]) pf_X10_heard ok_X10_heard rfl rfl ?_
  refine ev_iload_n rfl rfl rfl ?_
  refine ev_i2l rfl rfl ?_
  refine ev_lconst (v := 0) rfl rfl rfl ?_
  refine ev_aload_n rfl rfl rfl ?_
  refine ev_getW (l := 0) (u := 4) hB rfl rfl rfl fl_X10_346 rfl rfl rfl (fun v1 b1 e1 => ?_)
  refine ev_iconst (v := 1) rfl rfl (by decide) ?_
  refine ev_isubB (l := -1) (u := 3) rfl rfl b1 (by decide : B 1 1 1) (by decide) (by decide) (by decide) (by decide) (fun v2 b2 e2 g2 => ?_)
  refine ev_i2l rfl rfl ?_
  refine ev_S3P rfl rfl lk_X10_124 st_X10_in rfl rfl (w_in (G0 L b) h a0 0 (Int32.toInt64 v2) (by decide : BL 0 0 0) (B.long b2)) (fun r3 q3 => ?_)
  obtain ⟨b3, p3_0⟩ := q3
  refine ev_if_eq rfl rfl (fun c4 => ?_) (fun c4 => ?_)
  · have b5 : B r3 0 0 := R_eqX b3 (by decide : B 0 0 0) c4
    refine ev_iconst (v := (-1)) rfl rfl (by decide) ?_
    exact ev_iret rfl rfl rfl ⟨⟨_, rfl, ((by decide : B (-1) (-1) (-1)).mono (by decide) (by decide))⟩, rfl, rfl⟩
  · have b6 : B r3 1 1 := R_neL b3 (by decide : B 0 0 0) c4 (by decide)
    have b7 : B a0 0 3 := p3_0 c4
    refine ev_iload_n rfl rfl rfl ?_
    refine ev_i2l rfl rfl ?_
    refine ev_lconst (v := 0) rfl rfl rfl ?_
    refine ev_ldc2 (v := 99) rfl rfl kc_X10_344 ?_
    refine ev_S3P rfl rfl lk_X10_124 st_X10_in rfl rfl (w_in (G0 L b) h a1 0 99 (by decide : BL 0 0 0) (by decide : BL 99 99 99)) (fun r8 q8 => ?_)
    obtain ⟨b8, p8_0⟩ := q8
    refine ev_if_eq rfl rfl (fun c9 => ?_) (fun c9 => ?_)
    · have b10 : B r8 0 0 := R_eqX b8 (by decide : B 0 0 0) c9
      refine ev_iconst (v := (-1)) rfl rfl (by decide) ?_
      exact ev_iret rfl rfl rfl ⟨⟨_, rfl, ((by decide : B (-1) (-1) (-1)).mono (by decide) (by decide))⟩, rfl, rfl⟩
    · have b11 : B r8 1 1 := R_neL b8 (by decide : B 0 0 0) c9 (by decide)
      have b12 : B a1 0 99 := p8_0 c9
      refine ev_iload_n rfl rfl rfl ?_
      refine ev_i2l rfl rfl ?_
      refine ev_lconst (v := 0) rfl rfl rfl ?_
      refine ev_ldc2 (v := 999) rfl rfl kc_X10_342 ?_
      refine ev_S3P rfl rfl lk_X10_124 st_X10_in rfl rfl (w_in (G0 L b) h a2 0 999 (by decide : BL 0 0 0) (by decide : BL 999 999 999)) (fun r13 q13 => ?_)
      obtain ⟨b13, p13_0⟩ := q13
      refine ev_if_eq rfl rfl (fun c14 => ?_) (fun c14 => ?_)
      · have b15 : B r13 0 0 := R_eqX b13 (by decide : B 0 0 0) c14
        refine ev_iconst (v := (-1)) rfl rfl (by decide) ?_
        exact ev_iret rfl rfl rfl ⟨⟨_, rfl, ((by decide : B (-1) (-1) (-1)).mono (by decide) (by decide))⟩, rfl, rfl⟩
      · have b16 : B r13 1 1 := R_neL b13 (by decide : B 0 0 0) c14 (by decide)
        have b17 : B a2 0 999 := p13_0 c14
        refine ev_iload_n rfl rfl rfl ?_
        refine ev_aload_n rfl rfl rfl ?_
        refine ev_iload_n rfl rfl rfl ?_
        refine ev_iload_n rfl rfl rfl ?_
        refine ev_V2P rfl rfl lk_X10_355 vt_X10_heardAt rfl rfl rfl rfl rfl (w_X10_heardAt_63 L b h hB a0 b7 a2) (fun r18 q18 => ?_)
        refine ev_iaddA rfl rfl (fun v19 g19 => ?_)
        refine ev_goto rfl rfl ?_
        exact ev_iret rfl rfl rfl ⟨⟨_, rfl, (B.any v19)⟩, rfl, rfl⟩

set_option maxRecDepth 100000 in
set_option maxHeartbeats 4000000 in
theorem w_X10_step_63 (L : Nat) (b : Bool) (h : Hp) (hB : Bx h) (a0 : Int32) (a1 : Int32) (a2 : Int32) : EvP mi_X10_step [.ref 63, .int a0, .int a1, .int a2] (G0 L b) h (fun r : Int32 => B r (-2147483648) 2147483647) := by
  refine EvM.of2 (lo := [some (.ref 63), some (.int a0), some (.int a1), some (.int a2), none, none, none, none, none, none, none]) pf_X10_step ok_X10_step rfl rfl ?_
  refine ev_iload_n rfl rfl rfl ?_
  refine ev_i2l rfl rfl ?_
  refine ev_lconst (v := 0) rfl rfl rfl ?_
  refine ev_aload_n rfl rfl rfl ?_
  refine ev_getW (l := 0) (u := 4) hB rfl rfl rfl fl_X10_346 rfl rfl rfl (fun v1 b1 e1 => ?_)
  refine ev_iconst (v := 1) rfl rfl (by decide) ?_
  refine ev_isubB (l := -1) (u := 3) rfl rfl b1 (by decide : B 1 1 1) (by decide) (by decide) (by decide) (by decide) (fun v2 b2 e2 g2 => ?_)
  refine ev_i2l rfl rfl ?_
  refine ev_S3P rfl rfl lk_X10_124 st_X10_in rfl rfl (w_in (G0 L b) h a0 0 (Int32.toInt64 v2) (by decide : BL 0 0 0) (B.long b2)) (fun r3 q3 => ?_)
  obtain ⟨b3, p3_0⟩ := q3
  refine ev_if_eq rfl rfl (fun c4 => ?_) (fun c4 => ?_)
  · have b5 : B r3 0 0 := R_eqX b3 (by decide : B 0 0 0) c4
    refine ev_iconst (v := (-1)) rfl rfl (by decide) ?_
    exact ev_iret rfl rfl rfl ⟨⟨_, rfl, ((by decide : B (-1) (-1) (-1)).mono (by decide) (by decide))⟩, rfl, rfl⟩
  · have b6 : B r3 1 1 := R_neL b3 (by decide : B 0 0 0) c4 (by decide)
    have b7 : B a0 0 3 := p3_0 c4
    refine ev_iload_n rfl rfl rfl ?_
    refine ev_i2l rfl rfl ?_
    refine ev_lconst (v := 0) rfl rfl rfl ?_
    refine ev_aload_n rfl rfl rfl ?_
    refine ev_getV (v := v1) rfl rfl fl_X10_346 rfl rfl rfl e1 ?_
    refine ev_iconst (v := 1) rfl rfl (by decide) ?_
    refine ev_isubV g2 rfl rfl ?_
    refine ev_i2l rfl rfl ?_
    refine ev_S3P rfl rfl lk_X10_124 st_X10_in rfl rfl (w_in (G0 L b) h a1 0 (Int32.toInt64 v2) (by decide : BL 0 0 0) (B.long b2)) (fun r8 q8 => ?_)
    obtain ⟨b8, p8_0⟩ := q8
    refine ev_if_eq rfl rfl (fun c9 => ?_) (fun c9 => ?_)
    · have b10 : B r8 0 0 := R_eqX b8 (by decide : B 0 0 0) c9
      refine ev_iconst (v := (-1)) rfl rfl (by decide) ?_
      exact ev_iret rfl rfl rfl ⟨⟨_, rfl, ((by decide : B (-1) (-1) (-1)).mono (by decide) (by decide))⟩, rfl, rfl⟩
    · have b11 : B r8 1 1 := R_neL b8 (by decide : B 0 0 0) c9 (by decide)
      have b12 : B a1 0 3 := p8_0 c9
      refine ev_iload_n rfl rfl rfl ?_
      refine ev_iload_n rfl rfl rfl ?_
      refine ev_icmp_eq rfl rfl (fun c13 => ?_) (fun c13 => ?_)
      · refine ev_iconst (v := (-1)) rfl rfl (by decide) ?_
        exact ev_iret rfl rfl rfl ⟨⟨_, rfl, ((by decide : B (-1) (-1) (-1)).mono (by decide) (by decide))⟩, rfl, rfl⟩
      · refine ev_iload_n rfl rfl rfl ?_
        refine ev_i2l rfl rfl ?_
        refine ev_lconst (v := 0) rfl rfl rfl ?_
        refine ev_ldc2 (v := 3) rfl rfl kc_X10_269 ?_
        refine ev_S3P rfl rfl lk_X10_124 st_X10_in rfl rfl (w_in (G0 L b) h a2 0 3 (by decide : BL 0 0 0) (by decide : BL 3 3 3)) (fun r14 q14 => ?_)
        obtain ⟨b14, p14_0⟩ := q14
        refine ev_if_ne rfl rfl (fun c15 => ?_) (fun c15 => ?_)
        · have b16 : B r14 1 1 := R_neL b14 (by decide : B 0 0 0) c15 (by decide)
          have b17 : B a2 0 3 := p14_0 c15
          refine ev_iconst (v := 0) rfl rfl (by decide) ?_
          refine ev_istore rfl rfl rfl rfl ?_
          dsimp only [List.set]
          refine ev_bipush (v := (-4)) rfl rfl (by decide) ?_
          refine ev_istore rfl rfl rfl rfl ?_
          dsimp only [List.set]
          refine ev_bipush (v := (-4)) rfl rfl (by decide) ?_
          refine ev_istore rfl rfl rfl rfl ?_
          dsimp only [List.set]
          refine ev_iconst (v := 0) rfl rfl (by decide) ?_
          refine ev_istore rfl rfl rfl rfl ?_
          dsimp only [List.set]
          refine ev_iconst (v := 0) rfl rfl (by decide) ?_
          refine ev_istore rfl rfl rfl rfl ?_
          dsimp only [List.set]
          refine ev_iconst (v := 0) rfl rfl (by decide) ?_
          refine ev_istore rfl rfl rfl rfl ?_
          dsimp only [List.set]
          have lp71_536 : ∀ (n : Nat) (w537 : Int32) (w538 : Int32) (w539 : Int32) (w540 : Int32) (w541 : Int32) (w542 : Int32), B w538 (-4) 4095 → B w539 (-4) 4095 → B w541 0 2147483647 → B w542 0 1000 → 1000 + 1 - w542.toInt ≤ (n : Int) → EvQ mi_X10_step 71 [some (.ref 63), some (.int a0), some (.int a1), some (.int a2), some (.int w537), some (.int w538), some (.int w539), some (.int w540), some (.int w541), some (.int w542), none] [] (G0 L b) h 0 0 (QP (fun r : Int32 => B r (-2147483648) 2147483647) (G0 L b) h) := by
            intro n
            induction n with
            | zero =>
              intro w537 w538 w539 w540 w541 w542 b543 b544 b545 b546 hm71
              exact absurd hm71 (L_zero b546 (by decide))
            | succ n ih71 =>
              intro w537 w538 w539 w540 w541 w542 b543 b544 b545 b546 hm71
              refine ev_iload rfl rfl rfl ?_
              refine ev_sipush (v := 1000) rfl rfl (by decide) ?_
              refine ev_icmp_ge rfl rfl (fun c547 => ?_) (fun c547 => ?_)
              · have b548 : B w542 1000 1000 := R_leY (by decide : B 1000 1000 1000) b546 c547 (by decide)
                refine ev_iload_n rfl rfl rfl ?_
                refine ev_if_ne rfl rfl (fun c550 => ?_) (fun c550 => ?_)
                · have b551 : B a2 1 3 := R_neL b17 (by decide : B 0 0 0) c550 (by decide)
                  refine ev_iload_n rfl rfl rfl ?_
                  refine ev_iconst (v := 1) rfl rfl (by decide) ?_
                  refine ev_icmp_ne rfl rfl (fun c553 => ?_) (fun c553 => ?_)
                  · have b554 : B a2 2 3 := R_neL b551 (by decide : B 1 1 1) c553 (by decide)
                    refine ev_iload_n rfl rfl rfl ?_
                    refine ev_iconst (v := 2) rfl rfl (by decide) ?_
                    refine ev_icmp_ne rfl rfl (fun c556 => ?_) (fun c556 => ?_)
                    · have b557 : B a2 3 3 := R_neL b554 (by decide : B 2 2 2) c556 (by decide)
                      refine ev_iload rfl rfl rfl ?_
                      exact ev_iret rfl rfl rfl ⟨⟨_, rfl, (b545.mono (by decide) (by decide))⟩, rfl, rfl⟩
                    · have b558 : B a2 2 2 := R_eqX b554 (by decide : B 2 2 2) c556
                      refine ev_iload rfl rfl rfl ?_
                      refine ev_goto rfl rfl ?_
                      exact ev_iret rfl rfl rfl ⟨⟨_, rfl, (b544.mono (by decide) (by decide))⟩, rfl, rfl⟩
                  · have b555 : B a2 1 1 := R_eqX b551 (by decide : B 1 1 1) c553
                    refine ev_iload rfl rfl rfl ?_
                    refine ev_goto rfl rfl ?_
                    exact ev_iret rfl rfl rfl ⟨⟨_, rfl, (b543.mono (by decide) (by decide))⟩, rfl, rfl⟩
                · have b552 : B a2 0 0 := R_eqX b17 (by decide : B 0 0 0) c550
                  refine ev_iload rfl rfl rfl ?_
                  refine ev_goto rfl rfl ?_
                  exact ev_iret rfl rfl rfl ⟨⟨_, rfl, (B.any w537)⟩, rfl, rfl⟩
              · have b549 : B w542 0 999 := R_ltX b546 (by decide : B 1000 1000 1000) (Int32.not_le.mp c547) (by decide)
                refine ev_aload_n rfl rfl rfl ?_
                refine ev_iload_n rfl rfl rfl ?_
                refine ev_iload rfl rfl rfl ?_
                refine ev_V2P rfl rfl lk_X10_355 vt_X10_heardAt rfl rfl rfl rfl rfl (w_X10_heardAt_63 L b h hB a0 b7 w542) (fun r559 q559 => ?_)
                refine ev_aload_n rfl rfl rfl ?_
                refine ev_iload_n rfl rfl rfl ?_
                refine ev_iload rfl rfl rfl ?_
                refine ev_V2P rfl rfl lk_X10_355 vt_X10_heardAt rfl rfl rfl rfl rfl (w_X10_heardAt_63 L b h hB a1 b12 w542) (fun r560 q560 => ?_)
                refine ev_icmp_ne rfl rfl (fun c561 => ?_) (fun c561 => ?_)
                · refine ev_iconst (v := 0) rfl rfl (by decide) ?_
                  refine ev_istore rfl rfl rfl rfl ?_
                  dsimp only [List.set]
                  refine ev_iload rfl rfl rfl ?_
                  refine ev_if_eq rfl rfl (fun c562 => ?_) (fun c562 => absurd (D_eq (by decide : B 0 0 0) (by decide : B 0 0 0)) c562)
                  refine ev_iconst (v := 0) rfl rfl (by decide) ?_
                  refine ev_istore rfl rfl rfl rfl ?_
                  dsimp only [List.set]
                  refine ev_iload rfl rfl rfl ?_
                  refine ev_iload rfl rfl rfl ?_
                  refine ev_icmp_le rfl rfl (fun c563 => ?_) (fun c563 => absurd (D_le (by decide : B 0 0 0) b545 (by decide)) c563)
                  refine ev_iload rfl rfl rfl ?_
                  refine ev_istore rfl rfl rfl rfl ?_
                  dsimp only [List.set]
                  refine ev_iload rfl rfl rfl ?_
                  refine ev_iload rfl rfl rfl ?_
                  refine ev_if_eq rfl rfl (fun c564 => ?_) (fun c564 => absurd (D_eq (by decide : B 0 0 0) (by decide : B 0 0 0)) c564)
                  refine ev_iconst (v := 0) rfl rfl (by decide) ?_
                  refine ev_iaddB (l := -2147483648) (u := 2147483647) rfl rfl (B.any w537) (by decide : B 0 0 0) (by decide) (by decide) (by decide) (by decide) (fun v565 b565 e565 g565 => ?_)
                  refine ev_istore rfl rfl rfl rfl ?_
                  dsimp only [List.set]
                  refine ev_iload rfl rfl rfl ?_
                  refine ev_if_eq rfl rfl (fun c566 => ?_) (fun c566 => absurd (D_eq (by decide : B 0 0 0) (by decide : B 0 0 0)) c566)
                  refine ev_iload rfl rfl rfl ?_
                  refine ev_istore rfl rfl rfl rfl ?_
                  dsimp only [List.set]
                  refine ev_iload rfl rfl rfl ?_
                  refine ev_if_eq rfl rfl (fun c567 => ?_) (fun c567 => absurd (D_eq (by decide : B 0 0 0) (by decide : B 0 0 0)) c567)
                  refine ev_iload rfl rfl rfl ?_
                  refine ev_istore rfl rfl rfl rfl ?_
                  dsimp only [List.set]
                  refine ev_iincB (y := 1) (l := 1) (u := 1000) rfl rfl rfl (by decide) rfl rfl b549 (by decide : B 1 1 1) (by decide) (by decide) (by decide) (by decide) (fun v568 b568 e568 => ?_)
                  dsimp only [List.set]
                  refine ev_goto rfl rfl ?_
                  exact (EvQ.drop 10 (ih71 v565 w538 w539 0 w541 v568 b543 b544 b545 (b568.mono (by decide) (by decide)) (L_up hm71 (e_p1 e568 (by decide)))))
                · refine ev_iconst (v := 1) rfl rfl (by decide) ?_
                  refine ev_goto rfl rfl ?_
                  refine ev_istore rfl rfl rfl rfl ?_
                  dsimp only [List.set]
                  refine ev_iload rfl rfl rfl ?_
                  refine ev_if_eq rfl rfl (fun c569 => absurd c569 (D_ne (by decide : B 1 1 1) (by decide : B 0 0 0) (by decide))) (fun c569 => ?_)
                  refine ev_iload rfl rfl rfl ?_
                  refine ev_iconst (v := 1) rfl rfl (by decide) ?_
                  refine ev_iaddA rfl rfl (fun v570 g570 => ?_)
                  refine ev_goto rfl rfl ?_
                  refine ev_istore rfl rfl rfl rfl ?_
                  dsimp only [List.set]
                  refine ev_iload rfl rfl rfl ?_
                  refine ev_iload rfl rfl rfl ?_
                  refine ev_icmp_le rfl rfl (fun c571 => ?_) (fun c571 => ?_)
                  · refine ev_iload rfl rfl rfl ?_
                    refine ev_istore rfl rfl rfl rfl ?_
                    dsimp only [List.set]
                    refine ev_iload rfl rfl rfl ?_
                    refine ev_iload rfl rfl rfl ?_
                    refine ev_if_eq rfl rfl (fun c574 => absurd c574 (D_ne (by decide : B 1 1 1) (by decide : B 0 0 0) (by decide))) (fun c574 => ?_)
                    refine ev_iconst (v := 1) rfl rfl (by decide) ?_
                    refine ev_goto rfl rfl ?_
                    refine ev_iaddA rfl rfl (fun v575 g575 => ?_)
                    refine ev_istore rfl rfl rfl rfl ?_
                    dsimp only [List.set]
                    refine ev_iload rfl rfl rfl ?_
                    refine ev_if_eq rfl rfl (fun c576 => absurd c576 (D_ne (by decide : B 1 1 1) (by decide : B 0 0 0) (by decide))) (fun c576 => ?_)
                    refine ev_iload rfl rfl rfl ?_
                    refine ev_bipush (v := (-4)) rfl rfl (by decide) ?_
                    refine ev_icmp_ne rfl rfl (fun c577 => ?_) (fun c577 => ?_)
                    · have b578 : B w538 (-3) 4095 := R_neL b543 (by decide : B (-4) (-4) (-4)) c577 (by decide)
                      refine ev_iload rfl rfl rfl ?_
                      refine ev_istore rfl rfl rfl rfl ?_
                      dsimp only [List.set]
                      refine ev_iload rfl rfl rfl ?_
                      refine ev_if_eq rfl rfl (fun c580 => absurd c580 (D_ne (by decide : B 1 1 1) (by decide : B 0 0 0) (by decide))) (fun c580 => ?_)
                      refine ev_iload rfl rfl rfl ?_
                      refine ev_goto rfl rfl ?_
                      refine ev_istore rfl rfl rfl rfl ?_
                      dsimp only [List.set]
                      refine ev_iincB (y := 1) (l := 1) (u := 1000) rfl rfl rfl (by decide) rfl rfl b549 (by decide : B 1 1 1) (by decide) (by decide) (by decide) (by decide) (fun v581 b581 e581 => ?_)
                      dsimp only [List.set]
                      refine ev_goto rfl rfl ?_
                      exact (EvQ.drop 10 (ih71 v575 w538 w542 v570 w541 v581 (b578.mono (by decide) (by decide)) (b549.mono (by decide) (by decide)) b545 (b581.mono (by decide) (by decide)) (L_up hm71 (e_p1 e581 (by decide)))))
                    · have b579 : B w538 (-4) (-4) := R_eqX b543 (by decide : B (-4) (-4) (-4)) c577
                      refine ev_iload rfl rfl rfl ?_
                      refine ev_goto rfl rfl ?_
                      refine ev_istore rfl rfl rfl rfl ?_
                      dsimp only [List.set]
                      refine ev_iload rfl rfl rfl ?_
                      refine ev_if_eq rfl rfl (fun c582 => absurd c582 (D_ne (by decide : B 1 1 1) (by decide : B 0 0 0) (by decide))) (fun c582 => ?_)
                      refine ev_iload rfl rfl rfl ?_
                      refine ev_goto rfl rfl ?_
                      refine ev_istore rfl rfl rfl rfl ?_
                      dsimp only [List.set]
                      refine ev_iincB (y := 1) (l := 1) (u := 1000) rfl rfl rfl (by decide) rfl rfl b549 (by decide : B 1 1 1) (by decide) (by decide) (by decide) (by decide) (fun v583 b583 e583 => ?_)
                      dsimp only [List.set]
                      refine ev_goto rfl rfl ?_
                      exact (EvQ.drop 10 (ih71 v575 w542 w542 v570 w541 v583 (b549.mono (by decide) (by decide)) (b549.mono (by decide) (by decide)) b545 (b583.mono (by decide) (by decide)) (L_up hm71 (e_p1 e583 (by decide)))))
                  · have b572 : B v570 1 2147483647 := R_ltY b545 (B.any v570) (Int32.not_le.mp c571) (by decide)
                    have b573 : B w541 0 2147483646 := R_ltX b545 (B.any v570) (Int32.not_le.mp c571) (by decide)
                    refine ev_iload rfl rfl rfl ?_
                    refine ev_goto rfl rfl ?_
                    refine ev_istore rfl rfl rfl rfl ?_
                    dsimp only [List.set]
                    refine ev_iload rfl rfl rfl ?_
                    refine ev_iload rfl rfl rfl ?_
                    refine ev_if_eq rfl rfl (fun c584 => absurd c584 (D_ne (by decide : B 1 1 1) (by decide : B 0 0 0) (by decide))) (fun c584 => ?_)
                    refine ev_iconst (v := 1) rfl rfl (by decide) ?_
                    refine ev_goto rfl rfl ?_
                    refine ev_iaddA rfl rfl (fun v585 g585 => ?_)
                    refine ev_istore rfl rfl rfl rfl ?_
                    dsimp only [List.set]
                    refine ev_iload rfl rfl rfl ?_
                    refine ev_if_eq rfl rfl (fun c586 => absurd c586 (D_ne (by decide : B 1 1 1) (by decide : B 0 0 0) (by decide))) (fun c586 => ?_)
                    refine ev_iload rfl rfl rfl ?_
                    refine ev_bipush (v := (-4)) rfl rfl (by decide) ?_
                    refine ev_icmp_ne rfl rfl (fun c587 => ?_) (fun c587 => ?_)
                    · have b588 : B w538 (-3) 4095 := R_neL b543 (by decide : B (-4) (-4) (-4)) c587 (by decide)
                      refine ev_iload rfl rfl rfl ?_
                      refine ev_istore rfl rfl rfl rfl ?_
                      dsimp only [List.set]
                      refine ev_iload rfl rfl rfl ?_
                      refine ev_if_eq rfl rfl (fun c590 => absurd c590 (D_ne (by decide : B 1 1 1) (by decide : B 0 0 0) (by decide))) (fun c590 => ?_)
                      refine ev_iload rfl rfl rfl ?_
                      refine ev_goto rfl rfl ?_
                      refine ev_istore rfl rfl rfl rfl ?_
                      dsimp only [List.set]
                      refine ev_iincB (y := 1) (l := 1) (u := 1000) rfl rfl rfl (by decide) rfl rfl b549 (by decide : B 1 1 1) (by decide) (by decide) (by decide) (by decide) (fun v591 b591 e591 => ?_)
                      dsimp only [List.set]
                      refine ev_goto rfl rfl ?_
                      exact (EvQ.drop 10 (ih71 v585 w538 w542 v570 v570 v591 (b588.mono (by decide) (by decide)) (b549.mono (by decide) (by decide)) (b572.mono (by decide) (by decide)) (b591.mono (by decide) (by decide)) (L_up hm71 (e_p1 e591 (by decide)))))
                    · have b589 : B w538 (-4) (-4) := R_eqX b543 (by decide : B (-4) (-4) (-4)) c587
                      refine ev_iload rfl rfl rfl ?_
                      refine ev_goto rfl rfl ?_
                      refine ev_istore rfl rfl rfl rfl ?_
                      dsimp only [List.set]
                      refine ev_iload rfl rfl rfl ?_
                      refine ev_if_eq rfl rfl (fun c592 => absurd c592 (D_ne (by decide : B 1 1 1) (by decide : B 0 0 0) (by decide))) (fun c592 => ?_)
                      refine ev_iload rfl rfl rfl ?_
                      refine ev_goto rfl rfl ?_
                      refine ev_istore rfl rfl rfl rfl ?_
                      dsimp only [List.set]
                      refine ev_iincB (y := 1) (l := 1) (u := 1000) rfl rfl rfl (by decide) rfl rfl b549 (by decide : B 1 1 1) (by decide) (by decide) (by decide) (by decide) (fun v593 b593 e593 => ?_)
                      dsimp only [List.set]
                      refine ev_goto rfl rfl ?_
                      exact (EvQ.drop 10 (ih71 v585 w542 w542 v570 v570 v593 (b549.mono (by decide) (by decide)) (b549.mono (by decide) (by decide)) (b572.mono (by decide) (by decide)) (b593.mono (by decide) (by decide)) (L_up hm71 (e_p1 e593 (by decide)))))
          exact (lp71_536 1001 0 (-4) (-4) 0 0 0 ((by decide : B (-4) (-4) (-4)).mono (by decide) (by decide)) ((by decide : B (-4) (-4) (-4)).mono (by decide) (by decide)) ((by decide : B 0 0 0).mono (by decide) (by decide)) ((by decide : B 0 0 0).mono (by decide) (by decide)) (L_init (by decide : B 0 0 0) (by decide)))
        · have b18 : B r14 0 0 := R_eqX b14 (by decide : B 0 0 0) c15
          refine ev_iconst (v := (-1)) rfl rfl (by decide) ?_
          exact ev_iret rfl rfl rfl ⟨⟨_, rfl, ((by decide : B (-1) (-1) (-1)).mono (by decide) (by decide))⟩, rfl, rfl⟩

set_option maxRecDepth 100000 in
set_option maxHeartbeats 4000000 in
theorem w_X10_isSheet (L : Nat) (b : Bool) (h : Hp) (hB : Bx h) (a0 : Int32) (a1 : Int32) : EvP mi_X10_isSheet [.int a0, .int a1] (G0 L b) h (fun r : Int32 => B r 0 1 ∧ (¬ r = 0 → B a0 0 3) ∧ (¬ r = 0 → B a1 0 2)) := by
  refine EvM.of2 (lo := [some (.int a0), some (.int a1)]) pf_X10_isSheet ok_X10_isSheet rfl rfl ?_
  refine ev_iload_n rfl rfl rfl ?_
  refine ev_i2l rfl rfl ?_
  refine ev_lconst (v := 0) rfl rfl rfl ?_
  refine ev_ldc2 (v := 3) rfl rfl kc_X10_269 ?_
  refine ev_S3P rfl rfl lk_X10_124 st_X10_in rfl rfl (w_in (G0 L b) h a0 0 3 (by decide : BL 0 0 0) (by decide : BL 3 3 3)) (fun r1 q1 => ?_)
  obtain ⟨b1, p1_0⟩ := q1
  refine ev_if_eq rfl rfl (fun c2 => ?_) (fun c2 => ?_)
  · have b3 : B r1 0 0 := R_eqX b1 (by decide : B 0 0 0) c2
    refine ev_iconst (v := 0) rfl rfl (by decide) ?_
    exact ev_iret rfl rfl rfl ⟨⟨_, rfl, ⟨((by decide : B 0 0 0).mono (by decide) (by decide)), (fun e_ => absurd rfl e_), (fun e_ => absurd rfl e_)⟩⟩, rfl, rfl⟩
  · have b4 : B r1 1 1 := R_neL b1 (by decide : B 0 0 0) c2 (by decide)
    have b5 : B a0 0 3 := p1_0 c2
    refine ev_iload_n rfl rfl rfl ?_
    refine ev_i2l rfl rfl ?_
    refine ev_lconst (v := 0) rfl rfl rfl ?_
    refine ev_ldc2 (v := 2) rfl rfl kc_X10_183 ?_
    refine ev_S3P rfl rfl lk_X10_124 st_X10_in rfl rfl (w_in (G0 L b) h a1 0 2 (by decide : BL 0 0 0) (by decide : BL 2 2 2)) (fun r6 q6 => ?_)
    obtain ⟨b6, p6_0⟩ := q6
    refine ev_if_eq rfl rfl (fun c7 => ?_) (fun c7 => ?_)
    · have b8 : B r6 0 0 := R_eqX b6 (by decide : B 0 0 0) c7
      refine ev_iconst (v := 0) rfl rfl (by decide) ?_
      exact ev_iret rfl rfl rfl ⟨⟨_, rfl, ⟨((by decide : B 0 0 0).mono (by decide) (by decide)), (fun e_ => absurd rfl e_), (fun e_ => absurd rfl e_)⟩⟩, rfl, rfl⟩
    · have b9 : B r6 1 1 := R_neL b6 (by decide : B 0 0 0) c7 (by decide)
      have b10 : B a1 0 2 := p6_0 c7
      refine ev_iconst (v := 1) rfl rfl (by decide) ?_
      refine ev_goto rfl rfl ?_
      exact ev_iret rfl rfl rfl ⟨⟨_, rfl, ⟨((by decide : B 1 1 1).mono (by decide) (by decide)), (fun _ => b5), (fun _ => b10)⟩⟩, rfl, rfl⟩

set_option maxRecDepth 100000 in
set_option maxHeartbeats 4000000 in
theorem w_X10_sheet_63 (L : Nat) (b : Bool) (h : Hp) (hB : Bx h) (a0 : Int32) (a1 : Int32) (a2 : Int32) : EvJ mi_X10_sheet [.ref 63, .int a0, .int a1, .int a2] (G0 L b) h (fun r : Int32 => B r (-14) 1) [(92, 999), (93, 999), (94, 999)] := by
  refine EvM.of2 (lo := [some (.ref 63), some (.int a0), some (.int a1), some (.int a2), none]) pf_X10_sheet ok_X10_sheet rfl rfl ?_
  have hJ0 : JW [(92, 999), (93, 999), (94, 999)] h h := JW.refl hB
  refine ev_iload_n rfl rfl rfl ?_
  refine ev_iload_n rfl rfl rfl ?_
  refine ev_S2P rfl rfl lk_X10_335 st_X10_isSheet rfl rfl (w_X10_isSheet L b h hJ0.1 a0 a1) (fun r1 q1 => ?_)
  obtain ⟨b1, p1_0, p1_1⟩ := q1
  refine ev_if_eq rfl rfl (fun c2 => ?_) (fun c2 => ?_)
  · have b3 : B r1 0 0 := R_eqX b1 (by decide : B 0 0 0) c2
    refine ev_iconst (v := (-1)) rfl rfl (by decide) ?_
    exact ev_iret rfl rfl rfl ⟨⟨_, rfl, ((by decide : B (-1) (-1) (-1)).mono (by decide) (by decide))⟩, rfl, hJ0⟩
  · have b4 : B r1 1 1 := R_neL b1 (by decide : B 0 0 0) c2 (by decide)
    have b5 : B a0 0 3 := p1_0 c2
    have b6 : B a1 0 2 := p1_1 c2
    refine ev_iload_n rfl rfl rfl ?_
    refine ev_bipush (v := 60) rfl rfl (by decide) ?_
    refine ev_icmp_le rfl rfl (fun c7 => ?_) (fun c7 => ?_)
    · have b8 : B a2 (-2147483648) 60 := R_leX (B.any a2) (by decide : B 60 60 60) c7 (by decide)
      refine ev_iload_n rfl rfl rfl ?_
      refine ev_if_ge rfl rfl (fun c10 => ?_) (fun c10 => ?_)
      · have b11 : B a2 0 60 := R_leY (by decide : B 0 0 0) b8 c10 (by decide)
        refine ev_aload_n rfl rfl rfl ?_
        refine ev_getR (y := 92) rfl rfl fl_X10_112 rfl rfl rfl rfl ?_
        refine ev_iload_n rfl rfl rfl ?_
        refine ev_iload_n rfl rfl rfl ?_
        refine ev_iasW (n := 4) (l := (-2147483648)) (u := 2147483647) hJ0 b5 (by decide) (by decide) (fun _ => rfl) b6 (by decide) (by decide) (fun _ => rfl) rfl rfl rfl rfl (fun h13 hJ13 k13 => ?_)
        refine ev_aload_n rfl rfl rfl ?_
        refine ev_getR (y := 93) rfl rfl fl_X10_115 rfl rfl rfl rfl ?_
        refine ev_iload_n rfl rfl rfl ?_
        refine ev_iload_n rfl rfl rfl ?_
        refine ev_iasW (n := 4) (l := 0) (u := 60) hJ13 b5 (by decide) (by decide) (fun _ => rfl) b11 (by decide) (by decide) (fun _ => rfl) rfl rfl rfl rfl (fun h14 hJ14 k14 => ?_)
        refine ev_iconst (v := 0) rfl rfl (by decide) ?_
        refine ev_istore rfl rfl rfl rfl ?_
        dsimp only [List.set]
        have lp40_71 : ∀ (n : Nat) (w72 : Int32) (h74 : Hp), B w72 0 60 → JW [(92, 999), (93, 999), (94, 999)] h h74 → 60 + 1 - w72.toInt ≤ (n : Int) → EvQ mi_X10_sheet 40 [some (.ref 63), some (.int a0), some (.int a1), some (.int a2), some (.int w72)] [] (G0 L b) h74 0 0 (QJ (fun r : Int32 => B r (-14) 1) [(92, 999), (93, 999), (94, 999)] (G0 L b) h) := by
          intro n
          induction n with
          | zero =>
            intro w72 h74 b73 hJ75 hm40
            exact absurd hm40 (L_zero b73 (by decide))
          | succ n ih40 =>
            intro w72 h74 b73 hJ75 hm40
            refine ev_iload rfl rfl rfl ?_
            refine ev_bipush (v := 60) rfl rfl (by decide) ?_
            refine ev_icmp_ge rfl rfl (fun c76 => ?_) (fun c76 => ?_)
            · have b77 : B w72 60 60 := R_leY (by decide : B 60 60 60) b73 c76 (by decide)
              refine ev_iconst (v := 1) rfl rfl (by decide) ?_
              exact ev_iret rfl rfl rfl ⟨⟨_, rfl, ((by decide : B 1 1 1).mono (by decide) (by decide))⟩, rfl, hJ75⟩
            · have b78 : B w72 0 59 := R_ltX b73 (by decide : B 60 60 60) (Int32.not_le.mp c76) (by decide)
              refine ev_aload_n rfl rfl rfl ?_
              refine ev_getR (y := 94) rfl rfl fl_X10_118 rfl rfl rfl rfl ?_
              refine ev_bipush (v := 60) rfl rfl (by decide) ?_
              refine ev_iload_n rfl rfl rfl ?_
              refine ev_imulB (l := 0) (u := 180) rfl rfl (by decide : B 60 60 60) b5 (by decide) (by decide) (by decide) (by decide) (by decide) (fun v79 b79 e79 g79 => ?_)
              refine ev_iload rfl rfl rfl ?_
              refine ev_iaddB (l := 0) (u := 239) rfl rfl b79 b78 (by decide) (by decide) (by decide) (by decide) (fun v80 b80 e80 g80 => ?_)
              refine ev_iconst (v := 0) rfl rfl (by decide) ?_
              refine ev_iasW (n := 240) (l := (-2147483648)) (u := 2147483647) hJ75 b80 (by decide) (by decide) (fun _ => rfl) (by decide : B 0 0 0) (by decide) (by decide) (fun _ => rfl) rfl rfl rfl rfl (fun h81 hJ81 k81 => ?_)
              refine ev_iincB (y := 1) (l := 1) (u := 60) rfl rfl rfl (by decide) rfl rfl b78 (by decide : B 1 1 1) (by decide) (by decide) (by decide) (by decide) (fun v82 b82 e82 => ?_)
              dsimp only [List.set]
              refine ev_goto rfl rfl ?_
              exact (ih40 v82 h81 (b82.mono (by decide) (by decide)) hJ81 (L_up hm40 (e_p1 e82 (by decide))))
        exact (lp40_71 61 0 h14 ((by decide : B 0 0 0).mono (by decide) (by decide)) hJ14 (L_init (by decide : B 0 0 0) (by decide)))
      · have b12 : B a2 (-2147483648) (-1) := R_ltX b8 (by decide : B 0 0 0) (Int32.not_le.mp c10) (by decide)
        refine ev_bipush (v := (-14)) rfl rfl (by decide) ?_
        exact ev_iret rfl rfl rfl ⟨⟨_, rfl, ((by decide : B (-14) (-14) (-14)).mono (by decide) (by decide))⟩, rfl, hJ0⟩
    · have b9 : B a2 61 2147483647 := R_ltY (by decide : B 60 60 60) (B.any a2) (Int32.not_le.mp c7) (by decide)
      refine ev_iconst (v := (-1)) rfl rfl (by decide) ?_
      exact ev_iret rfl rfl rfl ⟨⟨_, rfl, ((by decide : B (-1) (-1) (-1)).mono (by decide) (by decide))⟩, rfl, hJ0⟩

set_option maxRecDepth 100000 in
set_option maxHeartbeats 4000000 in
theorem w_X10_lay_63 (L : Nat) (b : Bool) (h : Hp) (hB : Bx h) (a0 : Int32) (a1 : Int32) (a2 : Int32) : EvJ mi_X10_lay [.ref 63, .int a0, .int a1, .int a2] (G0 L b) h (fun r : Int32 => B r (-12) 1) [(94, 999)] := by
  refine EvM.of2 (lo := [some (.ref 63), some (.int a0), some (.int a1), some (.int a2)]) pf_X10_lay ok_X10_lay rfl rfl ?_
  have hJ0 : JW [(94, 999)] h h := JW.refl hB
  refine ev_iload_n rfl rfl rfl ?_
  refine ev_iconst (v := 0) rfl rfl (by decide) ?_
  refine ev_S2P rfl rfl lk_X10_335 st_X10_isSheet rfl rfl (w_X10_isSheet L b h hJ0.1 a0 0) (fun r1 q1 => ?_)
  obtain ⟨b1, p1_0, p1_1⟩ := q1
  refine ev_if_ne rfl rfl (fun c2 => ?_) (fun c2 => ?_)
  · have b3 : B r1 1 1 := R_neL b1 (by decide : B 0 0 0) c2 (by decide)
    have b4 : B a0 0 3 := p1_0 c2
    refine ev_aload_n rfl rfl rfl ?_
    refine ev_getR (y := 92) rfl rfl fl_X10_112 rfl rfl rfl rfl ?_
    refine ev_iload_n rfl rfl rfl ?_
    refine ev_ialW (n := 4) (l := (-2147483648)) (u := 2147483647) hJ0.1 b4 (by decide) (by decide) (fun _ => rfl) rfl rfl rfl (fun v6 b6 e6 => ?_)
    refine ev_bipush (v := (-4)) rfl rfl (by decide) ?_
    refine ev_icmp_ne rfl rfl (fun c7 => ?_) (fun c7 => ?_)
    · refine ev_iload_n rfl rfl rfl ?_
      refine ev_i2l rfl rfl ?_
      refine ev_lconst (v := 0) rfl rfl rfl ?_
      refine ev_aload_n rfl rfl rfl ?_
      refine ev_getR (y := 93) rfl rfl fl_X10_115 rfl rfl rfl rfl ?_
      refine ev_iload_n rfl rfl rfl ?_
      refine ev_ialW (n := 4) (l := 0) (u := 60) hJ0.1 b4 (by decide) (by decide) (fun _ => rfl) rfl rfl rfl (fun v9 b9 e9 => ?_)
      refine ev_iconst (v := 1) rfl rfl (by decide) ?_
      refine ev_isubB (l := -1) (u := 59) rfl rfl b9 (by decide : B 1 1 1) (by decide) (by decide) (by decide) (by decide) (fun v10 b10 e10 g10 => ?_)
      refine ev_i2l rfl rfl ?_
      refine ev_S3P rfl rfl lk_X10_124 st_X10_in rfl rfl (w_in (G0 L b) h a1 0 (Int32.toInt64 v10) (by decide : BL 0 0 0) (B.long b10)) (fun r11 q11 => ?_)
      obtain ⟨b11, p11_0⟩ := q11
      refine ev_if_ne rfl rfl (fun c12 => ?_) (fun c12 => ?_)
      · have b13 : B r11 1 1 := R_neL b11 (by decide : B 0 0 0) c12 (by decide)
        have b14 : B a1 0 59 := p11_0 c12
        refine ev_aload_n rfl rfl rfl ?_
        refine ev_getR (y := 94) rfl rfl fl_X10_118 rfl rfl rfl rfl ?_
        refine ev_bipush (v := 60) rfl rfl (by decide) ?_
        refine ev_iload_n rfl rfl rfl ?_
        refine ev_imulB (l := 0) (u := 180) rfl rfl (by decide : B 60 60 60) b4 (by decide) (by decide) (by decide) (by decide) (by decide) (fun v16 b16 e16 g16 => ?_)
        refine ev_iload_n rfl rfl rfl ?_
        refine ev_iaddB (l := 0) (u := 239) rfl rfl b16 b14 (by decide) (by decide) (by decide) (by decide) (fun v17 b17 e17 g17 => ?_)
        refine ev_aload_n rfl rfl rfl ?_
        refine ev_getR (y := 92) rfl rfl fl_X10_112 rfl rfl rfl rfl ?_
        refine ev_iload_n rfl rfl rfl ?_
        refine ev_iadV (v := v6) rfl rfl rfl (b4.vp (by decide) (by decide)) rfl e6 ?_
        refine ev_if_ne rfl rfl (fun c18 => ?_) (fun c18 => ?_)
        · refine ev_aload_n rfl rfl rfl ?_
          refine ev_getR (y := 92) rfl rfl fl_X10_112 rfl rfl rfl rfl ?_
          refine ev_iload_n rfl rfl rfl ?_
          refine ev_iadV (v := v6) rfl rfl rfl (b4.vp (by decide) (by decide)) rfl e6 ?_
          refine ev_iconst (v := 1) rfl rfl (by decide) ?_
          refine ev_icmp_ne rfl rfl (fun c20 => ?_) (fun c20 => ?_)
          · refine ev_iload_n rfl rfl rfl ?_
            refine ev_iasW (n := 240) (l := (-2147483648)) (u := 2147483647) hJ0 b17 (by decide) (by decide) (fun _ => rfl) (B.any a2) (by decide) (by decide) (fun _ => rfl) rfl rfl rfl rfl (fun h22 hJ22 k22 => ?_)
            refine ev_iconst (v := 1) rfl rfl (by decide) ?_
            exact ev_iret rfl rfl rfl ⟨⟨_, rfl, ((by decide : B 1 1 1).mono (by decide) (by decide))⟩, rfl, hJ22⟩
          · have b21 : B v6 1 1 := R_eqX (B.any v6) (by decide : B 1 1 1) c20
            refine ev_iload_n rfl rfl rfl ?_
            refine ev_i2sA rfl rfl (fun v23 => ?_)
            refine ev_goto rfl rfl ?_
            refine ev_iasW (n := 240) (l := (-2147483648)) (u := 2147483647) hJ0 b17 (by decide) (by decide) (fun _ => rfl) (B.any v23) (by decide) (by decide) (fun _ => rfl) rfl rfl rfl rfl (fun h24 hJ24 k24 => ?_)
            refine ev_iconst (v := 1) rfl rfl (by decide) ?_
            exact ev_iret rfl rfl rfl ⟨⟨_, rfl, ((by decide : B 1 1 1).mono (by decide) (by decide))⟩, rfl, hJ24⟩
        · have b19 : B v6 0 0 := R_eqX (B.any v6) (by decide : B 0 0 0) c18
          refine ev_iload_n rfl rfl rfl ?_
          refine ev_i2bA rfl rfl (fun v25 => ?_)
          refine ev_goto rfl rfl ?_
          refine ev_iasW (n := 240) (l := (-2147483648)) (u := 2147483647) hJ0 b17 (by decide) (by decide) (fun _ => rfl) (B.any v25) (by decide) (by decide) (fun _ => rfl) rfl rfl rfl rfl (fun h26 hJ26 k26 => ?_)
          refine ev_iconst (v := 1) rfl rfl (by decide) ?_
          exact ev_iret rfl rfl rfl ⟨⟨_, rfl, ((by decide : B 1 1 1).mono (by decide) (by decide))⟩, rfl, hJ26⟩
      · have b15 : B r11 0 0 := R_eqX b11 (by decide : B 0 0 0) c12
        refine ev_bipush (v := (-12)) rfl rfl (by decide) ?_
        exact ev_iret rfl rfl rfl ⟨⟨_, rfl, ((by decide : B (-12) (-12) (-12)).mono (by decide) (by decide))⟩, rfl, hJ0⟩
    · have b8 : B v6 (-4) (-4) := R_eqX (B.any v6) (by decide : B (-4) (-4) (-4)) c7
      refine ev_bipush (v := (-11)) rfl rfl (by decide) ?_
      exact ev_iret rfl rfl rfl ⟨⟨_, rfl, ((by decide : B (-11) (-11) (-11)).mono (by decide) (by decide))⟩, rfl, hJ0⟩
  · have b5 : B r1 0 0 := R_eqX b1 (by decide : B 0 0 0) c2
    refine ev_iconst (v := (-1)) rfl rfl (by decide) ?_
    exact ev_iret rfl rfl rfl ⟨⟨_, rfl, ((by decide : B (-1) (-1) (-1)).mono (by decide) (by decide))⟩, rfl, hJ0⟩

set_option maxRecDepth 100000 in
set_option maxHeartbeats 4000000 in
theorem w_X10_count_63 (L : Nat) (b : Bool) (h : Hp) (hB : Bx h) (a0 : Int32) : EvP mi_X10_count [.ref 63, .int a0] (G0 L b) h (fun r : Int32 => B r (-2147483648) 2147483647) := by
  refine EvM.of2 (lo := [some (.ref 63), some (.int a0), none, none, none]) pf_X10_count ok_X10_count rfl rfl ?_
  refine ev_iconst (v := 0) rfl rfl (by decide) ?_
  refine ev_istore_n rfl rfl rfl rfl ?_
  dsimp only [List.set]
  refine ev_iconst (v := 0) rfl rfl (by decide) ?_
  refine ev_istore_n rfl rfl rfl rfl ?_
  dsimp only [List.set]
  refine ev_iconst (v := 0) rfl rfl (by decide) ?_
  refine ev_istore rfl rfl rfl rfl ?_
  dsimp only [List.set]
  have lp7_361 : ∀ (n : Nat) (w362 : Int32) (w363 : Int32) (w364 : Int32), B w364 0 12 → 12 + 1 - w364.toInt ≤ (n : Int) → EvQ mi_X10_count 7 [some (.ref 63), some (.int a0), some (.int w362), some (.int w363), some (.int w364)] [] (G0 L b) h 0 0 (QP (fun r : Int32 => B r (-2147483648) 2147483647) (G0 L b) h) := by
    intro n
    induction n with
    | zero =>
      intro w362 w363 w364 b365 hm7
      exact absurd hm7 (L_zero b365 (by decide))
    | succ n ih7 =>
      intro w362 w363 w364 b365 hm7
      refine ev_iload rfl rfl rfl ?_
      refine ev_aload_n rfl rfl rfl ?_
      refine ev_getW (l := 0) (u := 12) hB rfl rfl rfl fl_X10_121 rfl rfl rfl (fun v366 b366 e366 => ?_)
      refine ev_icmp_ge rfl rfl (fun c367 => ?_) (fun c367 => ?_)
      · refine ev_iload_n rfl rfl rfl ?_
        rcases ev_sw a0 0 8 with w370 | w370
        · refine ev_tabOut 165 rfl w370 (by decide) ?_
          refine ev_iconst (v := (-1)) rfl rfl (by decide) ?_
          exact ev_iret rfl rfl rfl ⟨⟨_, rfl, ((by decide : B (-1) (-1) (-1)).mono (by decide) (by decide))⟩, rfl, rfl⟩
        · have w370b : a0 = 0 ∨ a0 = 1 ∨ a0 = 2 ∨ a0 = 3 ∨ a0 = 4 ∨ a0 = 5 ∨ a0 = 6 ∨ a0 = 7 ∨ a0 = 8 := sw_or9_0 w370
          rcases w370b with rfl | rfl | rfl | rfl | rfl | rfl | rfl | rfl | rfl
          · refine ev_tabIn 108 rfl (by decide) (by decide) rfl (by decide) ?_
            refine ev_aload_n rfl rfl rfl ?_
            refine ev_getV (v := v366) rfl rfl fl_X10_121 rfl rfl rfl e366 ?_
            exact ev_iret rfl rfl rfl ⟨⟨_, rfl, (b366.mono (by decide) (by decide))⟩, rfl, rfl⟩
          · refine ev_tabIn 113 rfl (by decide) (by decide) rfl (by decide) ?_
            refine ev_aload_n rfl rfl rfl ?_
            refine ev_getW (l := 0) (u := 6) hB rfl rfl rfl fl_X10_257 rfl rfl rfl (fun v371 b371 e371 => ?_)
            exact ev_iret rfl rfl rfl ⟨⟨_, rfl, (b371.mono (by decide) (by decide))⟩, rfl, rfl⟩
          · refine ev_tabIn 118 rfl (by decide) (by decide) rfl (by decide) ?_
            refine ev_aload_n rfl rfl rfl ?_
            refine ev_getW (l := 0) (u := 4) hB rfl rfl rfl fl_X10_346 rfl rfl rfl (fun v372 b372 e372 => ?_)
            exact ev_iret rfl rfl rfl ⟨⟨_, rfl, (b372.mono (by decide) (by decide))⟩, rfl, rfl⟩
          · refine ev_tabIn 123 rfl (by decide) (by decide) rfl (by decide) ?_
            refine ev_aload_n rfl rfl rfl ?_
            refine ev_getW (l := 0) (u := 6) hB rfl rfl rfl fl_X10_349 rfl rfl rfl (fun v373 b373 e373 => ?_)
            exact ev_iret rfl rfl rfl ⟨⟨_, rfl, (b373.mono (by decide) (by decide))⟩, rfl, rfl⟩
          · refine ev_tabIn 128 rfl (by decide) (by decide) rfl (by decide) ?_
            refine ev_iload_n rfl rfl rfl ?_
            exact ev_iret rfl rfl rfl ⟨⟨_, rfl, (B.any w362)⟩, rfl, rfl⟩
          · refine ev_tabIn 130 rfl (by decide) (by decide) rfl (by decide) ?_
            refine ev_iload_n rfl rfl rfl ?_
            exact ev_iret rfl rfl rfl ⟨⟨_, rfl, (B.any w363)⟩, rfl, rfl⟩
          · refine ev_tabIn 132 rfl (by decide) (by decide) rfl (by decide) ?_
            refine ev_aload_n rfl rfl rfl ?_
            refine ev_getW (l := 0) (u := 10) hB rfl rfl rfl fl_X10_128 rfl rfl rfl (fun v374 b374 e374 => ?_)
            exact ev_iret rfl rfl rfl ⟨⟨_, rfl, (b374.mono (by decide) (by decide))⟩, rfl, rfl⟩
          · refine ev_tabIn 137 rfl (by decide) (by decide) rfl (by decide) ?_
            refine ev_aload_n rfl rfl rfl ?_
            refine ev_getW (l := 0) (u := 160) hB rfl rfl rfl fl_X10_186 rfl rfl rfl (fun v375 b375 e375 => ?_)
            exact ev_iret rfl rfl rfl ⟨⟨_, rfl, (b375.mono (by decide) (by decide))⟩, rfl, rfl⟩
          · refine ev_tabIn 142 rfl (by decide) (by decide) rfl (by decide) ?_
            refine ev_aload_n rfl rfl rfl ?_
            refine ev_getR (y := 92) rfl rfl fl_X10_112 rfl rfl rfl rfl ?_
            refine ev_iconst (v := 0) rfl rfl (by decide) ?_
            refine ev_ialK (j := 0) (n := 4) (l := (-2147483648)) (u := 2147483647) hB (by decide : B 0 0 0) (by decide) (by decide) (by decide) rfl rfl rfl rfl (fun v376 b376 e376 => ?_)
            refine ev_bipush (v := (-4)) rfl rfl (by decide) ?_
            refine ev_icmp_ne rfl rfl (fun c377 => ?_) (fun c377 => ?_)
            · refine ev_aload_n rfl rfl rfl ?_
              refine ev_getR (y := 93) rfl rfl fl_X10_115 rfl rfl rfl rfl ?_
              refine ev_iconst (v := 0) rfl rfl (by decide) ?_
              refine ev_ialK (j := 0) (n := 4) (l := 0) (u := 60) hB (by decide : B 0 0 0) (by decide) (by decide) (by decide) rfl rfl rfl rfl (fun v379 b379 e379 => ?_)
              exact ev_iret rfl rfl rfl ⟨⟨_, rfl, (b379.mono (by decide) (by decide))⟩, rfl, rfl⟩
            · have b378 : B v376 (-4) (-4) := R_eqX (B.any v376) (by decide : B (-4) (-4) (-4)) c377
              refine ev_bipush (v := (-4)) rfl rfl (by decide) ?_
              refine ev_goto rfl rfl ?_
              exact ev_iret rfl rfl rfl ⟨⟨_, rfl, ((by decide : B (-4) (-4) (-4)).mono (by decide) (by decide))⟩, rfl, rfl⟩
      · have b368 : B w364 0 11 := R_ltX b365 b366 (Int32.not_le.mp c367) (by decide)
        have b369 : B v366 1 12 := R_ltY b365 b366 (Int32.not_le.mp c367) (by decide)
        refine ev_iload_n rfl rfl rfl ?_
        refine ev_aload_n rfl rfl rfl ?_
        refine ev_getR (y := 70) rfl rfl fl_X10_42 rfl rfl rfl rfl ?_
        refine ev_iload rfl rfl rfl ?_
        refine ev_zalW (n := 12) (l := (-2147483648)) (u := 2147483647) hB b368 (by decide) (by decide) (fun _ => rfl) rfl rfl rfl (fun v380 b380 e380 => ?_)
        refine ev_if_eq rfl rfl (fun c381 => ?_) (fun c381 => ?_)
        · have b382 : B v380 0 0 := R_eqX (B.any v380) (by decide : B 0 0 0) c381
          refine ev_iconst (v := 0) rfl rfl (by decide) ?_
          refine ev_iaddB (l := -2147483648) (u := 2147483647) rfl rfl (B.any w362) (by decide : B 0 0 0) (by decide) (by decide) (by decide) (by decide) (fun v383 b383 e383 g383 => ?_)
          refine ev_istore_n rfl rfl rfl rfl ?_
          dsimp only [List.set]
          refine ev_iload_n rfl rfl rfl ?_
          refine ev_aload_n rfl rfl rfl ?_
          refine ev_getR (y := 69) rfl rfl fl_X10_39 rfl rfl rfl rfl ?_
          refine ev_iload rfl rfl rfl ?_
          refine ev_ialW (n := 12) (l := (-2147483648)) (u := 2147483647) hB b368 (by decide) (by decide) (fun _ => rfl) rfl rfl rfl (fun v384 b384 e384 => ?_)
          refine ev_if_ne rfl rfl (fun c385 => ?_) (fun c385 => ?_)
          · refine ev_iconst (v := 1) rfl rfl (by decide) ?_
            refine ev_iaddA rfl rfl (fun v387 g387 => ?_)
            refine ev_istore_n rfl rfl rfl rfl ?_
            dsimp only [List.set]
            refine ev_iincB (y := 1) (l := 1) (u := 12) rfl rfl rfl (by decide) rfl rfl b368 (by decide : B 1 1 1) (by decide) (by decide) (by decide) (by decide) (fun v388 b388 e388 => ?_)
            dsimp only [List.set]
            refine ev_goto rfl rfl ?_
            exact (ih7 v383 v387 v388 (b388.mono (by decide) (by decide)) (L_up hm7 (e_p1 e388 (by decide))))
          · have b386 : B v384 0 0 := R_eqX (B.any v384) (by decide : B 0 0 0) c385
            refine ev_iconst (v := 0) rfl rfl (by decide) ?_
            refine ev_goto rfl rfl ?_
            refine ev_iaddB (l := -2147483648) (u := 2147483647) rfl rfl (B.any w363) (by decide : B 0 0 0) (by decide) (by decide) (by decide) (by decide) (fun v389 b389 e389 g389 => ?_)
            refine ev_istore_n rfl rfl rfl rfl ?_
            dsimp only [List.set]
            refine ev_iincB (y := 1) (l := 1) (u := 12) rfl rfl rfl (by decide) rfl rfl b368 (by decide : B 1 1 1) (by decide) (by decide) (by decide) (by decide) (fun v390 b390 e390 => ?_)
            dsimp only [List.set]
            refine ev_goto rfl rfl ?_
            exact (ih7 v383 v389 v390 (b390.mono (by decide) (by decide)) (L_up hm7 (e_p1 e390 (by decide))))
        · refine ev_iconst (v := 1) rfl rfl (by decide) ?_
          refine ev_goto rfl rfl ?_
          refine ev_iaddA rfl rfl (fun v391 g391 => ?_)
          refine ev_istore_n rfl rfl rfl rfl ?_
          dsimp only [List.set]
          refine ev_iload_n rfl rfl rfl ?_
          refine ev_aload_n rfl rfl rfl ?_
          refine ev_getR (y := 69) rfl rfl fl_X10_39 rfl rfl rfl rfl ?_
          refine ev_iload rfl rfl rfl ?_
          refine ev_ialW (n := 12) (l := (-2147483648)) (u := 2147483647) hB b368 (by decide) (by decide) (fun _ => rfl) rfl rfl rfl (fun v392 b392 e392 => ?_)
          refine ev_if_ne rfl rfl (fun c393 => ?_) (fun c393 => ?_)
          · refine ev_iconst (v := 1) rfl rfl (by decide) ?_
            refine ev_iaddA rfl rfl (fun v395 g395 => ?_)
            refine ev_istore_n rfl rfl rfl rfl ?_
            dsimp only [List.set]
            refine ev_iincB (y := 1) (l := 1) (u := 12) rfl rfl rfl (by decide) rfl rfl b368 (by decide : B 1 1 1) (by decide) (by decide) (by decide) (by decide) (fun v396 b396 e396 => ?_)
            dsimp only [List.set]
            refine ev_goto rfl rfl ?_
            exact (ih7 v391 v395 v396 (b396.mono (by decide) (by decide)) (L_up hm7 (e_p1 e396 (by decide))))
          · have b394 : B v392 0 0 := R_eqX (B.any v392) (by decide : B 0 0 0) c393
            refine ev_iconst (v := 0) rfl rfl (by decide) ?_
            refine ev_goto rfl rfl ?_
            refine ev_iaddB (l := -2147483648) (u := 2147483647) rfl rfl (B.any w363) (by decide : B 0 0 0) (by decide) (by decide) (by decide) (by decide) (fun v397 b397 e397 g397 => ?_)
            refine ev_istore_n rfl rfl rfl rfl ?_
            dsimp only [List.set]
            refine ev_iincB (y := 1) (l := 1) (u := 12) rfl rfl rfl (by decide) rfl rfl b368 (by decide : B 1 1 1) (by decide) (by decide) (by decide) (by decide) (fun v398 b398 e398 => ?_)
            dsimp only [List.set]
            refine ev_goto rfl rfl ?_
            exact (ih7 v391 v397 v398 (b398.mono (by decide) (by decide)) (L_up hm7 (e_p1 e398 (by decide))))
  exact (lp7_361 13 0 0 0 ((by decide : B 0 0 0).mono (by decide) (by decide)) (L_init (by decide : B 0 0 0) (by decide)))

set_option maxRecDepth 100000 in
set_option maxHeartbeats 4000000 in
theorem w_X10_then_63 (L : Nat) (b : Bool) (h : Hp) (hB : Bx h) (a0 : Int32) (a1 : Int32) : EvP mi_X10_then [.ref 63, .int a0, .int a1] (G0 L b) h (fun r : Int32 => B r 0 200) := by
  refine EvM.of2 (lo := [some (.ref 63), some (.int a0), some (.int a1), none]) pf_X10_then ok_X10_then rfl rfl ?_
  refine ev_iload_n rfl rfl rfl ?_
  refine ev_iconst (v := 2) rfl rfl (by decide) ?_
  refine ev_aload_n rfl rfl rfl ?_
  refine ev_getW (l := (-2147483648)) (u := 2147483647) hB rfl rfl rfl fl_X10_16 rfl rfl rfl (fun v1 b1 e1 => ?_)
  refine ev_imulA rfl rfl (fun v2 => ?_)
  refine ev_iaddA rfl rfl (fun v3 g3 => ?_)
  refine ev_iload_n rfl rfl rfl ?_
  refine ev_isubA rfl rfl (fun v4 g4 => ?_)
  refine ev_istore_n rfl rfl rfl rfl ?_
  dsimp only [List.set]
  refine ev_iload_n rfl rfl rfl ?_
  refine ev_if_ge rfl rfl (fun c5 => ?_) (fun c5 => ?_)
  · have b6 : B v4 0 2147483647 := R_leY (by decide : B 0 0 0) (B.any v4) c5 (by decide)
    refine ev_iload_n rfl rfl rfl ?_
    refine ev_aload_n rfl rfl rfl ?_
    refine ev_getW (l := 0) (u := 200) hB rfl rfl rfl fl_X10_19 rfl rfl rfl (fun v8 b8 e8 => ?_)
    refine ev_icmp_le rfl rfl (fun c9 => ?_) (fun c9 => ?_)
    · have b10 : B v4 0 200 := R_leX b6 b8 c9 (by decide)
      refine ev_iload_n rfl rfl rfl ?_
      exact ev_iret rfl rfl rfl ⟨⟨_, rfl, b10⟩, rfl, rfl⟩
    · have b11 : B v4 1 2147483647 := R_ltY b8 b6 (Int32.not_le.mp c9) (by decide)
      refine ev_aload_n rfl rfl rfl ?_
      refine ev_getV (v := v8) rfl rfl fl_X10_19 rfl rfl rfl e8 ?_
      refine ev_goto rfl rfl ?_
      exact ev_iret rfl rfl rfl ⟨⟨_, rfl, b8⟩, rfl, rfl⟩
  · have b7 : B v4 (-2147483648) (-1) := R_ltX (B.any v4) (by decide : B 0 0 0) (Int32.not_le.mp c5) (by decide)
    refine ev_iconst (v := 0) rfl rfl (by decide) ?_
    refine ev_goto rfl rfl ?_
    exact ev_iret rfl rfl rfl ⟨⟨_, rfl, ((by decide : B 0 0 0).mono (by decide) (by decide))⟩, rfl, rfl⟩

set_option maxRecDepth 100000 in
set_option maxHeartbeats 4000000 in
theorem w_X10_drawnWith_63 (L : Nat) (b : Bool) (h : Hp) (hB : Bx h) (a0 : Int32) (a1 : Int32) : EvP mi_X10_drawnWith [.ref 63, .int a0, .int a1] (G0 L b) h (fun r : Int32 => B r (-2147483648) 2147483647) := by
  refine EvM.of2 (lo := [some (.ref 63), some (.int a0), some (.int a1), none, none]) pf_X10_drawnWith ok_X10_drawnWith rfl rfl ?_
  refine ev_iconst (v := 0) rfl rfl (by decide) ?_
  refine ev_istore_n rfl rfl rfl rfl ?_
  dsimp only [List.set]
  refine ev_iconst (v := 0) rfl rfl (by decide) ?_
  refine ev_istore rfl rfl rfl rfl ?_
  dsimp only [List.set]
  have lp5_111 : ∀ (n : Nat) (w112 : Int32) (w113 : Int32), B w113 0 12 → 12 + 1 - w113.toInt ≤ (n : Int) → EvQ mi_X10_drawnWith 5 [some (.ref 63), some (.int a0), some (.int a1), some (.int w112), some (.int w113)] [] (G0 L b) h 0 0 (QP (fun r : Int32 => B r (-2147483648) 2147483647) (G0 L b) h) := by
    intro n
    induction n with
    | zero =>
      intro w112 w113 b114 hm5
      exact absurd hm5 (L_zero b114 (by decide))
    | succ n ih5 =>
      intro w112 w113 b114 hm5
      refine ev_iload rfl rfl rfl ?_
      refine ev_aload_n rfl rfl rfl ?_
      refine ev_getW (l := 0) (u := 12) hB rfl rfl rfl fl_X10_121 rfl rfl rfl (fun v115 b115 e115 => ?_)
      refine ev_icmp_ge rfl rfl (fun c116 => ?_) (fun c116 => ?_)
      · refine ev_iload_n rfl rfl rfl ?_
        exact ev_iret rfl rfl rfl ⟨⟨_, rfl, (B.any w112)⟩, rfl, rfl⟩
      · have b117 : B w113 0 11 := R_ltX b114 b115 (Int32.not_le.mp c116) (by decide)
        have b118 : B v115 1 12 := R_ltY b114 b115 (Int32.not_le.mp c116) (by decide)
        refine ev_iload_n rfl rfl rfl ?_
        refine ev_iload_n rfl rfl rfl ?_
        refine ev_iload rfl rfl rfl ?_
        refine ev_ishrA rfl rfl (fun v119 => ?_)
        refine ev_iconst (v := 1) rfl rfl (by decide) ?_
        refine ev_iandB rfl rfl (by decide : B 1 1 1) (by decide) (fun v120 b120 e120 => ?_)
        refine ev_iconst (v := 1) rfl rfl (by decide) ?_
        refine ev_icmp_ne rfl rfl (fun c121 => ?_) (fun c121 => ?_)
        · have b122 : B v120 0 0 := R_neU b120 (by decide : B 1 1 1) c121 (by decide)
          refine ev_iload rfl rfl rfl ?_
          refine ev_iload_n rfl rfl rfl ?_
          refine ev_icmp_ne rfl rfl (fun c124 => ?_) (fun c124 => ?_)
          · refine ev_iconst (v := 0) rfl rfl (by decide) ?_
            refine ev_iaddB (l := -2147483648) (u := 2147483647) rfl rfl (B.any w112) (by decide : B 0 0 0) (by decide) (by decide) (by decide) (by decide) (fun v126 b126 e126 g126 => ?_)
            refine ev_istore_n rfl rfl rfl rfl ?_
            dsimp only [List.set]
            refine ev_iincB (y := 1) (l := 1) (u := 12) rfl rfl rfl (by decide) rfl rfl b117 (by decide : B 1 1 1) (by decide) (by decide) (by decide) (by decide) (fun v127 b127 e127 => ?_)
            dsimp only [List.set]
            refine ev_goto rfl rfl ?_
            exact (ih5 v126 v127 (b127.mono (by decide) (by decide)) (L_up hm5 (e_p1 e127 (by decide))))
          · have b125 : B a1 0 11 := R_eqY b117 (B.any a1) c124
            refine ev_aload_n rfl rfl rfl ?_
            refine ev_getR (y := 65) rfl rfl fl_X10_26 rfl rfl rfl rfl ?_
            refine ev_iload rfl rfl rfl ?_
            refine ev_ialW (n := 12) (l := (-2147483648)) (u := 2147483647) hB b117 (by decide) (by decide) (fun _ => rfl) rfl rfl rfl (fun v128 b128 e128 => ?_)
            refine ev_iconst (v := 2) rfl rfl (by decide) ?_
            refine ev_idivA (by decide : B 2 2 2) (by decide) rfl rfl (fun v129 => ?_)
            refine ev_goto rfl rfl ?_
            refine ev_iaddA rfl rfl (fun v130 g130 => ?_)
            refine ev_istore_n rfl rfl rfl rfl ?_
            dsimp only [List.set]
            refine ev_iincB (y := 1) (l := 1) (u := 12) rfl rfl rfl (by decide) rfl rfl b117 (by decide : B 1 1 1) (by decide) (by decide) (by decide) (by decide) (fun v131 b131 e131 => ?_)
            dsimp only [List.set]
            refine ev_goto rfl rfl ?_
            exact (ih5 v130 v131 (b131.mono (by decide) (by decide)) (L_up hm5 (e_p1 e131 (by decide))))
        · have b123 : B v120 1 1 := R_eqX b120 (by decide : B 1 1 1) c121
          refine ev_aload_n rfl rfl rfl ?_
          refine ev_getR (y := 65) rfl rfl fl_X10_26 rfl rfl rfl rfl ?_
          refine ev_iload rfl rfl rfl ?_
          refine ev_ialW (n := 12) (l := (-2147483648)) (u := 2147483647) hB b117 (by decide) (by decide) (fun _ => rfl) rfl rfl rfl (fun v132 b132 e132 => ?_)
          refine ev_goto rfl rfl ?_
          refine ev_iaddA rfl rfl (fun v133 g133 => ?_)
          refine ev_istore_n rfl rfl rfl rfl ?_
          dsimp only [List.set]
          refine ev_iincB (y := 1) (l := 1) (u := 12) rfl rfl rfl (by decide) rfl rfl b117 (by decide : B 1 1 1) (by decide) (by decide) (by decide) (by decide) (fun v134 b134 e134 => ?_)
          dsimp only [List.set]
          refine ev_goto rfl rfl ?_
          exact (ih5 v133 v134 (b134.mono (by decide) (by decide)) (L_up hm5 (e_p1 e134 (by decide))))
  exact (lp5_111 13 0 0 ((by decide : B 0 0 0).mono (by decide) (by decide)) (L_init (by decide : B 0 0 0) (by decide)))

