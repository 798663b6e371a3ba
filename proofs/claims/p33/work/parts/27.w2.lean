set_option maxRecDepth 100000 in
set_option maxHeartbeats 4000000 in
theorem w_X1_after_2 (L : Nat) (b : Bool) (h : Hp) (hB : Bx h) (a0 : Int32) (a1 : Int32) : EvP mi_X1_after [.ref 2, .int a0, .int a1] (G0 L b) h (fun r : Int32 => B r 0 200) := by
  refine EvM.of2 (lo := [some (.ref 2), some (.int a0), some (.int a1)]) pf_X1_after ok_X1_after rfl rfl ?_
  refine ev_aload_n rfl rfl rfl ?_
  refine ev_getW (l := 0) (u := 200) hB rfl rfl rfl fl_X1_19 rfl rfl rfl (fun v1 b1 e1 => ?_)
  refine ev_iconst (v := 0) rfl rfl (by decide) ?_
  refine ev_iload_n rfl rfl rfl ?_
  refine ev_iconst (v := 2) rfl rfl (by decide) ?_
  refine ev_aload_n rfl rfl rfl ?_
  refine ev_getW (l := (-2147483648)) (u := 2147483647) hB rfl rfl rfl fl_X1_16 rfl rfl rfl (fun v2 b2 e2 => ?_)
  refine ev_imulA rfl rfl (fun v3 => ?_)
  refine ev_iaddA rfl rfl (fun v4 g4 => ?_)
  refine ev_iload_n rfl rfl rfl ?_
  refine ev_isubA rfl rfl (fun v5 g5 => ?_)
  refine ev_S2P rfl rfl lk_X1_25 st_J9_max_7cf53 rfl rfl (w_max (l := 0) (u := 2147483647) (G0 L b) h 0 v5 (by decide : B 0 0 0) (B.any v5) (Or.inl (by decide)) (by decide) (by decide)) (fun r6 q6 => ?_)
  refine ev_S2P rfl rfl lk_X1_31 st_J9_min_7cf53 rfl rfl (w_min (l := 0) (u := 200) (G0 L b) h v1 r6 b1 q6 (by decide) (by decide) (Or.inl (by decide))) (fun r7 q7 => ?_)
  exact ev_iret rfl rfl rfl ⟨⟨_, rfl, q7⟩, rfl, rfl⟩

set_option maxRecDepth 100000 in
set_option maxHeartbeats 4000000 in
theorem w_X9_boiler_1 (L : Nat) (b : Bool) (h : Hp) (hB : Bx h) (a0 : Int32) : EvP mi_X9_boiler [.ref 1, .int a0] (G0 L b) h (fun r : Int32 => B r (-2147483648) 2147483647) := by
  refine EvM.of2 (lo := [some (.ref 1), some (.int a0)]) pf_X9_boiler ok_X9_boiler rfl rfl ?_
  refine ev_iload_n rfl rfl rfl ?_
  rcases ev_sw a0 0 5 with w1 | w1
  · refine ev_tabOut 96 rfl w1 (by decide) ?_
    refine ev_iconst (v := (-1)) rfl rfl (by decide) ?_
    exact ev_iret rfl rfl rfl ⟨⟨_, rfl, ((by decide : B (-1) (-1) (-1)).mono (by decide) (by decide))⟩, rfl, rfl⟩
  · have w1b : a0 = 0 ∨ a0 = 1 ∨ a0 = 2 ∨ a0 = 3 ∨ a0 = 4 ∨ a0 = 5 := sw_or6_0 w1
    rcases w1b with rfl | rfl | rfl | rfl | rfl | rfl
    · refine ev_tabIn 40 rfl (by decide) (by decide) rfl (by decide) ?_
      refine ev_aload_n rfl rfl rfl ?_
      refine ev_getR (y := 2) rfl rfl fl_X9_10 rfl rfl rfl rfl ?_
      refine ev_getW (l := 0) (u := 200) hB rfl rfl rfl fl_X9_99 rfl rfl rfl (fun v2 b2 e2 => ?_)
      exact ev_iret rfl rfl rfl ⟨⟨_, rfl, (b2.mono (by decide) (by decide))⟩, rfl, rfl⟩
    · refine ev_tabIn 48 rfl (by decide) (by decide) rfl (by decide) ?_
      refine ev_aload_n rfl rfl rfl ?_
      refine ev_getR (y := 2) rfl rfl fl_X9_10 rfl rfl rfl rfl ?_
      refine ev_getW (l := (-2147483648)) (u := 2147483647) hB rfl rfl rfl fl_X9_87 rfl rfl rfl (fun v3 b3 e3 => ?_)
      exact ev_iret rfl rfl rfl ⟨⟨_, rfl, (B.any v3)⟩, rfl, rfl⟩
    · refine ev_tabIn 56 rfl (by decide) (by decide) rfl (by decide) ?_
      refine ev_aload_n rfl rfl rfl ?_
      refine ev_getR (y := 2) rfl rfl fl_X9_10 rfl rfl rfl rfl ?_
      refine ev_getW (l := (-2147483648)) (u := 2147483647) hB rfl rfl rfl fl_X9_83 rfl rfl rfl (fun v4 b4 e4 => ?_)
      exact ev_iret rfl rfl rfl ⟨⟨_, rfl, (B.any v4)⟩, rfl, rfl⟩
    · refine ev_tabIn 64 rfl (by decide) (by decide) rfl (by decide) ?_
      refine ev_aload_n rfl rfl rfl ?_
      refine ev_getR (y := 2) rfl rfl fl_X9_10 rfl rfl rfl rfl ?_
      refine ev_getW (l := 0) (u := 200) hB rfl rfl rfl fl_X9_96 rfl rfl rfl (fun v5 b5 e5 => ?_)
      exact ev_iret rfl rfl rfl ⟨⟨_, rfl, (b5.mono (by decide) (by decide))⟩, rfl, rfl⟩
    · refine ev_tabIn 72 rfl (by decide) (by decide) rfl (by decide) ?_
      refine ev_aload_n rfl rfl rfl ?_
      refine ev_getR (y := 2) rfl rfl fl_X9_10 rfl rfl rfl rfl ?_
      refine ev_getW (l := (-2147483648)) (u := 2147483647) hB rfl rfl rfl fl_X9_102 rfl rfl rfl (fun v6 b6 e6 => ?_)
      exact ev_iret rfl rfl rfl ⟨⟨_, rfl, (B.any v6)⟩, rfl, rfl⟩
    · refine ev_tabIn 80 rfl (by decide) (by decide) rfl (by decide) ?_
      refine ev_aload_n rfl rfl rfl ?_
      refine ev_getR (y := 4) rfl rfl fl_X9_22 rfl rfl rfl rfl ?_
      refine ev_iconst (v := 0) rfl rfl (by decide) ?_
      refine ev_aload_n rfl rfl rfl ?_
      refine ev_getR (y := 4) rfl rfl fl_X9_22 rfl rfl rfl rfl ?_
      refine ev_getW (l := (-2147483648)) (u := 2147483647) hB rfl rfl rfl fl_X9_105 rfl rfl rfl (fun v7 b7 e7 => ?_)
      refine ev_V2P rfl rfl lk_X9_108 vt_X8_drawnBy rfl rfl rfl rfl rfl (w_X8_drawnBy_4 L b h hB 0 v7) (fun r8 q8 => ?_)
      exact ev_iret rfl rfl rfl ⟨⟨_, rfl, (B.any r8)⟩, rfl, rfl⟩

set_option maxRecDepth 100000 in
set_option maxHeartbeats 4000000 in
theorem w_X5_isNothing_55 (L : Nat) (b : Bool) (h : Hp) (hB : Bx h) (a0 : Int32) (p0 : B a0 0 3) : EvP mi_X5_isNothing [.ref 55, .int a0] (G0 L b) h (fun r : Int32 => B r 0 1) := by
  refine EvM.of2 (lo := [some (.ref 55), some (.int a0)]) pf_X5_isNothing ok_X5_isNothing rfl rfl ?_
  refine ev_aload_n rfl rfl rfl ?_
  refine ev_getR (y := 62) rfl rfl fl_X5_18 rfl rfl rfl rfl ?_
  refine ev_iload_n rfl rfl rfl ?_
  refine ev_ialW (n := 4) (l := (-1)) (u := 60) hB p0 (by decide) (by decide) (fun _ => rfl) rfl rfl rfl (fun v1 b1 e1 => ?_)
  refine ev_iconst (v := (-1)) rfl rfl (by decide) ?_
  refine ev_icmp_ne rfl rfl (fun c2 => ?_) (fun c2 => ?_)
  · have b3 : B v1 0 60 := R_neL b1 (by decide : B (-1) (-1) (-1)) c2 (by decide)
    refine ev_iconst (v := 0) rfl rfl (by decide) ?_
    exact ev_iret rfl rfl rfl ⟨⟨_, rfl, ((by decide : B 0 0 0).mono (by decide) (by decide))⟩, rfl, rfl⟩
  · have b4 : B v1 (-1) (-1) := R_eqX b1 (by decide : B (-1) (-1) (-1)) c2
    refine ev_iconst (v := 1) rfl rfl (by decide) ?_
    refine ev_goto rfl rfl ?_
    exact ev_iret rfl rfl rfl ⟨⟨_, rfl, ((by decide : B 1 1 1).mono (by decide) (by decide))⟩, rfl, rfl⟩

set_option maxRecDepth 100000 in
set_option maxHeartbeats 4000000 in
theorem w_X9_count_1 (L : Nat) (b : Bool) (h : Hp) (hB : Bx h) (a0 : Int32) : EvP mi_X9_count [.ref 1, .int a0] (G0 L b) h (fun r : Int32 => B r (-2147483648) 2147483647) := by
  refine EvM.of2 (lo := [some (.ref 1), some (.int a0)]) pf_X9_count ok_X9_count rfl rfl ?_
  refine ev_iload_n rfl rfl rfl ?_
  rcases ev_sw a0 0 8 with w1 | w1
  · refine ev_tabOut 145 rfl w1 (by decide) ?_
    refine ev_iconst (v := (-1)) rfl rfl (by decide) ?_
    exact ev_iret rfl rfl rfl ⟨⟨_, rfl, ((by decide : B (-1) (-1) (-1)).mono (by decide) (by decide))⟩, rfl, rfl⟩
  · have w1b : a0 = 0 ∨ a0 = 1 ∨ a0 = 2 ∨ a0 = 3 ∨ a0 = 4 ∨ a0 = 5 ∨ a0 = 6 ∨ a0 = 7 ∨ a0 = 8 := sw_or9_0 w1
    rcases w1b with rfl | rfl | rfl | rfl | rfl | rfl | rfl | rfl | rfl
    · refine ev_tabIn 52 rfl (by decide) (by decide) rfl (by decide) ?_
      refine ev_aload_n rfl rfl rfl ?_
      refine ev_getR (y := 4) rfl rfl fl_X9_22 rfl rfl rfl rfl ?_
      refine ev_getW (l := 0) (u := 12) hB rfl rfl rfl fl_X9_158 rfl rfl rfl (fun v2 b2 e2 => ?_)
      exact ev_iret rfl rfl rfl ⟨⟨_, rfl, (b2.mono (by decide) (by decide))⟩, rfl, rfl⟩
    · refine ev_tabIn 60 rfl (by decide) (by decide) rfl (by decide) ?_
      refine ev_aload_n rfl rfl rfl ?_
      refine ev_getR (y := 28) rfl rfl fl_X9_43 rfl rfl rfl rfl ?_
      refine ev_getW (l := 0) (u := 6) hB rfl rfl rfl fl_X9_176 rfl rfl rfl (fun v3 b3 e3 => ?_)
      exact ev_iret rfl rfl rfl ⟨⟨_, rfl, (b3.mono (by decide) (by decide))⟩, rfl, rfl⟩
    · refine ev_tabIn 68 rfl (by decide) (by decide) rfl (by decide) ?_
      refine ev_aload_n rfl rfl rfl ?_
      refine ev_getR (y := 50) rfl rfl fl_X9_64 rfl rfl rfl rfl ?_
      refine ev_getW (l := 0) (u := 4) hB rfl rfl rfl fl_X9_335 rfl rfl rfl (fun v4 b4 e4 => ?_)
      exact ev_iret rfl rfl rfl ⟨⟨_, rfl, (b4.mono (by decide) (by decide))⟩, rfl, rfl⟩
    · refine ev_tabIn 76 rfl (by decide) (by decide) rfl (by decide) ?_
      refine ev_aload_n rfl rfl rfl ?_
      refine ev_getR (y := 50) rfl rfl fl_X9_64 rfl rfl rfl rfl ?_
      refine ev_getW (l := 0) (u := 6) hB rfl rfl rfl fl_X9_338 rfl rfl rfl (fun v5 b5 e5 => ?_)
      exact ev_iret rfl rfl rfl ⟨⟨_, rfl, (b5.mono (by decide) (by decide))⟩, rfl, rfl⟩
    · refine ev_tabIn 84 rfl (by decide) (by decide) rfl (by decide) ?_
      refine ev_aload_n rfl rfl rfl ?_
      refine ev_getR (y := 4) rfl rfl fl_X9_22 rfl rfl rfl rfl ?_
      refine ev_getW (l := (-2147483648)) (u := 2147483647) hB rfl rfl rfl fl_X9_105 rfl rfl rfl (fun v6 b6 e6 => ?_)
      refine ev_S1P rfl rfl lk_X9_341 st_J6_bitCount_0f7a4 rfl rfl (w_any (c_bitCount (G0 L b) h v6)) (fun r7 q7 => ?_)
      exact ev_iret rfl rfl rfl ⟨⟨_, rfl, (B.any r7)⟩, rfl, rfl⟩
    · refine ev_tabIn 95 rfl (by decide) (by decide) rfl (by decide) ?_
      refine ev_aload_n rfl rfl rfl ?_
      refine ev_getR (y := 4) rfl rfl fl_X9_22 rfl rfl rfl rfl ?_
      refine ev_V0P rfl rfl lk_X9_346 vt_X8_cracked rfl rfl rfl rfl rfl (w_X8_cracked_4 L b h hB ) (fun r8 q8 => ?_)
      exact ev_iret rfl rfl rfl ⟨⟨_, rfl, (B.any r8)⟩, rfl, rfl⟩
    · refine ev_tabIn 103 rfl (by decide) (by decide) rfl (by decide) ?_
      refine ev_aload_n rfl rfl rfl ?_
      refine ev_getR (y := 11) rfl rfl fl_X9_29 rfl rfl rfl rfl ?_
      refine ev_getW (l := (-2147483648)) (u := 2147483647) hB rfl rfl rfl fl_X9_315 rfl rfl rfl (fun v9 b9 e9 => ?_)
      exact ev_iret rfl rfl rfl ⟨⟨_, rfl, (B.any v9)⟩, rfl, rfl⟩
    · refine ev_tabIn 111 rfl (by decide) (by decide) rfl (by decide) ?_
      refine ev_aload_n rfl rfl rfl ?_
      refine ev_getR (y := 23) rfl rfl fl_X9_36 rfl rfl rfl rfl ?_
      refine ev_getW (l := 0) (u := 160) hB rfl rfl rfl fl_X9_173 rfl rfl rfl (fun v10 b10 e10 => ?_)
      exact ev_iret rfl rfl rfl ⟨⟨_, rfl, (b10.mono (by decide) (by decide))⟩, rfl, rfl⟩
    · refine ev_tabIn 119 rfl (by decide) (by decide) rfl (by decide) ?_
      refine ev_aload_n rfl rfl rfl ?_
      refine ev_getR (y := 55) rfl rfl fl_X9_71 rfl rfl rfl rfl ?_
      refine ev_iconst (v := 0) rfl rfl (by decide) ?_
      refine ev_V1P rfl rfl lk_X9_322 vt_X5_isNothing rfl rfl rfl rfl rfl (w_X5_isNothing_55 L b h hB 0 ((by decide : B 0 0 0).mono (by decide) (by decide))) (fun r11 q11 => ?_)
      refine ev_if_eq rfl rfl (fun c12 => ?_) (fun c12 => ?_)
      · have b13 : B r11 0 0 := R_eqX q11 (by decide : B 0 0 0) c12
        refine ev_aload_n rfl rfl rfl ?_
        refine ev_getR (y := 55) rfl rfl fl_X9_71 rfl rfl rfl rfl ?_
        refine ev_getR (y := 62) rfl rfl fl_X9_349 rfl rfl rfl rfl ?_
        refine ev_iconst (v := 0) rfl rfl (by decide) ?_
        refine ev_ialK (j := 0) (n := 4) (l := (-1)) (u := 60) hB (by decide : B 0 0 0) (by decide) (by decide) (by decide) rfl rfl rfl rfl (fun v15 b15 e15 => ?_)
        exact ev_iret rfl rfl rfl ⟨⟨_, rfl, (b15.mono (by decide) (by decide))⟩, rfl, rfl⟩
      · have b14 : B r11 1 1 := R_neL q11 (by decide : B 0 0 0) c12 (by decide)
        refine ev_bipush (v := (-4)) rfl rfl (by decide) ?_
        refine ev_goto rfl rfl ?_
        exact ev_iret rfl rfl rfl ⟨⟨_, rfl, ((by decide : B (-4) (-4) (-4)).mono (by decide) (by decide))⟩, rfl, rfl⟩

set_option maxRecDepth 100000 in
set_option maxHeartbeats 4000000 in
theorem w_X9_isPlace (L : Nat) (b : Bool) (h : Hp) (hB : Bx h) (a0 : Int32) : EvP mi_X9_isPlace [.int a0] (G0 L b) h (fun r : Int32 => B r 0 1 ∧ (¬ r = 0 → B a0 0 999)) := by
  refine EvM.of2 (lo := [some (.int a0)]) pf_X9_isPlace ok_X9_isPlace rfl rfl ?_
  refine ev_iload_n rfl rfl rfl ?_
  refine ev_iconst (v := 0) rfl rfl (by decide) ?_
  refine ev_sipush (v := 999) rfl rfl (by decide) ?_
  refine ev_S3P rfl rfl lk_X9_75 st_X9_isWithin rfl rfl (w_isWithin (G0 L b) h a0 0 999 (by decide : B 0 0 0) (by decide : B 999 999 999)) (fun r1 q1 => ?_)
  obtain ⟨b1, p1_0⟩ := q1
  exact ev_iret rfl rfl (ev_rtB b1) ⟨⟨_, rfl, ⟨b1, (fun e_ => (p1_0 e_).mono (by decide) (by decide))⟩⟩, rfl, rfl⟩

set_option maxRecDepth 100000 in
set_option maxHeartbeats 4000000 in
theorem w_X9_far_1 (L : Nat) (b : Bool) (h : Hp) (hB : Bx h) (a0 : Int32) (a1 : Int32) : EvP mi_X9_far [.ref 1, .int a0, .int a1] (G0 L b) h (fun r : Int32 => B r (-2147483648) 2147483647) := by
  refine EvM.of2 (lo := [some (.ref 1), some (.int a0), some (.int a1)]) pf_X9_far ok_X9_far rfl rfl ?_
  refine ev_iload_n rfl rfl rfl ?_
  refine ev_S1P rfl rfl lk_X9_271 st_X9_isPlace rfl rfl (w_X9_isPlace L b h hB a0) (fun r1 q1 => ?_)
  obtain ⟨b1, p1_0⟩ := q1
  refine ev_if_eq rfl rfl (fun c2 => ?_) (fun c2 => ?_)
  · have b3 : B r1 0 0 := R_eqX b1 (by decide : B 0 0 0) c2
    refine ev_iconst (v := (-1)) rfl rfl (by decide) ?_
    exact ev_iret rfl rfl rfl ⟨⟨_, rfl, ((by decide : B (-1) (-1) (-1)).mono (by decide) (by decide))⟩, rfl, rfl⟩
  · have b4 : B r1 1 1 := R_neL b1 (by decide : B 0 0 0) c2 (by decide)
    have b5 : B a0 0 999 := p1_0 c2
    refine ev_iload_n rfl rfl rfl ?_
    refine ev_S1P rfl rfl lk_X9_271 st_X9_isPlace rfl rfl (w_X9_isPlace L b h hB a1) (fun r6 q6 => ?_)
    obtain ⟨b6, p6_0⟩ := q6
    refine ev_if_eq rfl rfl (fun c7 => ?_) (fun c7 => ?_)
    · have b8 : B r6 0 0 := R_eqX b6 (by decide : B 0 0 0) c7
      refine ev_iconst (v := (-1)) rfl rfl (by decide) ?_
      exact ev_iret rfl rfl rfl ⟨⟨_, rfl, ((by decide : B (-1) (-1) (-1)).mono (by decide) (by decide))⟩, rfl, rfl⟩
    · have b9 : B r6 1 1 := R_neL b6 (by decide : B 0 0 0) c7 (by decide)
      have b10 : B a1 0 999 := p6_0 c7
      refine ev_aload_n rfl rfl rfl ?_
      refine ev_getR (y := 50) rfl rfl fl_X9_64 rfl rfl rfl rfl ?_
      refine ev_iload_n rfl rfl rfl ?_
      refine ev_iload_n rfl rfl rfl ?_
      refine ev_V2P rfl rfl lk_X9_286 vt_X3_way rfl rfl rfl rfl rfl (w_X3_way_50 L b h hB a0 a1) (fun r11 q11 => ?_)
      refine ev_goto rfl rfl ?_
      exact ev_iret rfl rfl rfl ⟨⟨_, rfl, (B.any r11)⟩, rfl, rfl⟩

set_option maxRecDepth 100000 in
set_option maxHeartbeats 4000000 in
theorem w_X3_hasBoat_50 (L : Nat) (b : Bool) (h : Hp) (hB : Bx h) (a0 : Int32) : EvP mi_X3_hasBoat [.ref 50, .int a0] (G0 L b) h (fun r : Int32 => B r 0 1 ∧ (¬ r = 0 → B a0 0 3)) := by
  refine EvM.of2 (lo := [some (.ref 50), some (.int a0)]) pf_X3_hasBoat ok_X3_hasBoat rfl rfl ?_
  refine ev_iconst (v := 0) rfl rfl (by decide) ?_
  refine ev_iload_n rfl rfl rfl ?_
  refine ev_icmp_gt rfl rfl (fun c1 => ?_) (fun c1 => ?_)
  · have b2 : B a0 (-2147483648) (-1) := R_ltX (B.any a0) (by decide : B 0 0 0) c1 (by decide)
    refine ev_iconst (v := 0) rfl rfl (by decide) ?_
    exact ev_iret rfl rfl rfl ⟨⟨_, rfl, ⟨((by decide : B 0 0 0).mono (by decide) (by decide)), (fun e_ => absurd rfl e_)⟩⟩, rfl, rfl⟩
  · have b3 : B a0 0 2147483647 := R_leY (by decide : B 0 0 0) (B.any a0) (Int32.not_lt.mp c1) (by decide)
    refine ev_iload_n rfl rfl rfl ?_
    refine ev_aload_n rfl rfl rfl ?_
    refine ev_getW (l := 0) (u := 4) hB rfl rfl rfl fl_X3_18 rfl rfl rfl (fun v4 b4 e4 => ?_)
    refine ev_icmp_ge rfl rfl (fun c5 => ?_) (fun c5 => ?_)
    · refine ev_iconst (v := 0) rfl rfl (by decide) ?_
      exact ev_iret rfl rfl rfl ⟨⟨_, rfl, ⟨((by decide : B 0 0 0).mono (by decide) (by decide)), (fun e_ => absurd rfl e_)⟩⟩, rfl, rfl⟩
    · have b6 : B a0 0 3 := R_ltX b3 b4 (Int32.not_le.mp c5) (by decide)
      have b7 : B v4 1 4 := R_ltY b3 b4 (Int32.not_le.mp c5) (by decide)
      refine ev_iconst (v := 1) rfl rfl (by decide) ?_
      refine ev_goto rfl rfl ?_
      exact ev_iret rfl rfl rfl ⟨⟨_, rfl, ⟨((by decide : B 1 1 1).mono (by decide) (by decide)), (fun _ => b6)⟩⟩, rfl, rfl⟩

set_option maxRecDepth 100000 in
set_option maxHeartbeats 4000000 in
theorem w_X9_heard_1 (L : Nat) (b : Bool) (h : Hp) (hB : Bx h) (a0 : Int32) (a1 : Int32) (a2 : Int32) : EvP mi_X9_heard [.ref 1, .int a0, .int a1, .int a2] (G0 L b) h (fun r : Int32 => B r (-2147483648) 2147483647) := by
  refine EvM.of2 (lo := [some (.ref 1), some (.int a0), some (.int a1), some (.int a2)]) pf_X9_heard ok_X9_heard rfl rfl ?_
  refine ev_aload_n rfl rfl rfl ?_
  refine ev_getR (y := 50) rfl rfl fl_X9_64 rfl rfl rfl rfl ?_
  refine ev_iload_n rfl rfl rfl ?_
  refine ev_V1P rfl rfl lk_X9_289 vt_X3_hasBoat rfl rfl rfl rfl rfl (w_X3_hasBoat_50 L b h hB a0) (fun r1 q1 => ?_)
  obtain ⟨b1, p1_0⟩ := q1
  refine ev_if_eq rfl rfl (fun c2 => ?_) (fun c2 => ?_)
  · have b3 : B r1 0 0 := R_eqX b1 (by decide : B 0 0 0) c2
    refine ev_iconst (v := (-1)) rfl rfl (by decide) ?_
    exact ev_iret rfl rfl rfl ⟨⟨_, rfl, ((by decide : B (-1) (-1) (-1)).mono (by decide) (by decide))⟩, rfl, rfl⟩
  · have b4 : B r1 1 1 := R_neL b1 (by decide : B 0 0 0) c2 (by decide)
    have b5 : B a0 0 3 := p1_0 c2
    refine ev_iload_n rfl rfl rfl ?_
    refine ev_iconst (v := 0) rfl rfl (by decide) ?_
    refine ev_bipush (v := 99) rfl rfl (by decide) ?_
    refine ev_S3P rfl rfl lk_X9_75 st_X9_isWithin rfl rfl (w_isWithin (G0 L b) h a1 0 99 (by decide : B 0 0 0) (by decide : B 99 99 99)) (fun r6 q6 => ?_)
    obtain ⟨b6, p6_0⟩ := q6
    refine ev_if_eq rfl rfl (fun c7 => ?_) (fun c7 => ?_)
    · have b8 : B r6 0 0 := R_eqX b6 (by decide : B 0 0 0) c7
      refine ev_iconst (v := (-1)) rfl rfl (by decide) ?_
      exact ev_iret rfl rfl rfl ⟨⟨_, rfl, ((by decide : B (-1) (-1) (-1)).mono (by decide) (by decide))⟩, rfl, rfl⟩
    · have b9 : B r6 1 1 := R_neL b6 (by decide : B 0 0 0) c7 (by decide)
      have b10 : B a1 0 99 := p6_0 c7
      refine ev_iload_n rfl rfl rfl ?_
      refine ev_S1P rfl rfl lk_X9_271 st_X9_isPlace rfl rfl (w_X9_isPlace L b h hB a2) (fun r11 q11 => ?_)
      obtain ⟨b11, p11_0⟩ := q11
      refine ev_if_ne rfl rfl (fun c12 => ?_) (fun c12 => ?_)
      · have b13 : B r11 1 1 := R_neL b11 (by decide : B 0 0 0) c12 (by decide)
        have b14 : B a2 0 999 := p11_0 c12
        refine ev_iload_n rfl rfl rfl ?_
        refine ev_aload_n rfl rfl rfl ?_
        refine ev_getR (y := 50) rfl rfl fl_X9_64 rfl rfl rfl rfl ?_
        refine ev_iload_n rfl rfl rfl ?_
        refine ev_iload_n rfl rfl rfl ?_
        refine ev_V2P rfl rfl lk_X9_292 vt_X3_firstHeard rfl rfl rfl rfl rfl (w_X3_firstHeard_50 L b h hB a0 b5 a2) (fun r16 q16 => ?_)
        refine ev_iaddA rfl rfl (fun v17 g17 => ?_)
        exact ev_iret rfl rfl rfl ⟨⟨_, rfl, (B.any v17)⟩, rfl, rfl⟩
      · have b15 : B r11 0 0 := R_eqX b11 (by decide : B 0 0 0) c12
        refine ev_iconst (v := (-1)) rfl rfl (by decide) ?_
        exact ev_iret rfl rfl rfl ⟨⟨_, rfl, ((by decide : B (-1) (-1) (-1)).mono (by decide) (by decide))⟩, rfl, rfl⟩

set_option maxRecDepth 100000 in
set_option maxHeartbeats 4000000 in
theorem w_X9_step_1 (L : Nat) (b : Bool) (h : Hp) (hB : Bx h) (a0 : Int32) (a1 : Int32) (a2 : Int32) : EvJ mi_X9_step [.ref 1, .int a0, .int a1, .int a2] (G0 L b) h (fun r : Int32 => B r (-2147483648) 2147483647) [(50, 7), (50, 8), (50, 9), (50, 10)] := by
  refine EvM.of2 (lo := [some (.ref 1), some (.int a0), some (.int a1), some (.int a2)]) pf_X9_step ok_X9_step rfl rfl ?_
  have hJ0 : JW [(50, 7), (50, 8), (50, 9), (50, 10)] h h := JW.refl hB
  refine ev_aload_n rfl rfl rfl ?_
  refine ev_getR (y := 50) rfl rfl fl_X9_64 rfl rfl rfl rfl ?_
  refine ev_iload_n rfl rfl rfl ?_
  refine ev_V1P rfl rfl lk_X9_289 vt_X3_hasBoat rfl rfl rfl rfl rfl (w_X3_hasBoat_50 L b h hJ0.1 a0) (fun r1 q1 => ?_)
  obtain ⟨b1, p1_0⟩ := q1
  refine ev_if_eq rfl rfl (fun c2 => ?_) (fun c2 => ?_)
  · have b3 : B r1 0 0 := R_eqX b1 (by decide : B 0 0 0) c2
    refine ev_iconst (v := (-1)) rfl rfl (by decide) ?_
    exact ev_iret rfl rfl rfl ⟨⟨_, rfl, ((by decide : B (-1) (-1) (-1)).mono (by decide) (by decide))⟩, rfl, hJ0⟩
  · have b4 : B r1 1 1 := R_neL b1 (by decide : B 0 0 0) c2 (by decide)
    have b5 : B a0 0 3 := p1_0 c2
    refine ev_aload_n rfl rfl rfl ?_
    refine ev_getR (y := 50) rfl rfl fl_X9_64 rfl rfl rfl rfl ?_
    refine ev_iload_n rfl rfl rfl ?_
    refine ev_V1P rfl rfl lk_X9_289 vt_X3_hasBoat rfl rfl rfl rfl rfl (w_X3_hasBoat_50 L b h hJ0.1 a1) (fun r6 q6 => ?_)
    obtain ⟨b6, p6_0⟩ := q6
    refine ev_if_eq rfl rfl (fun c7 => ?_) (fun c7 => ?_)
    · have b8 : B r6 0 0 := R_eqX b6 (by decide : B 0 0 0) c7
      refine ev_iconst (v := (-1)) rfl rfl (by decide) ?_
      exact ev_iret rfl rfl rfl ⟨⟨_, rfl, ((by decide : B (-1) (-1) (-1)).mono (by decide) (by decide))⟩, rfl, hJ0⟩
    · have b9 : B r6 1 1 := R_neL b6 (by decide : B 0 0 0) c7 (by decide)
      have b10 : B a1 0 3 := p6_0 c7
      refine ev_iload_n rfl rfl rfl ?_
      refine ev_iload_n rfl rfl rfl ?_
      refine ev_icmp_eq rfl rfl (fun c11 => ?_) (fun c11 => ?_)
      · refine ev_iconst (v := (-1)) rfl rfl (by decide) ?_
        exact ev_iret rfl rfl rfl ⟨⟨_, rfl, ((by decide : B (-1) (-1) (-1)).mono (by decide) (by decide))⟩, rfl, hJ0⟩
      · refine ev_iload_n rfl rfl rfl ?_
        refine ev_iconst (v := 0) rfl rfl (by decide) ?_
        refine ev_iconst (v := 3) rfl rfl (by decide) ?_
        refine ev_S3P rfl rfl lk_X9_75 st_X9_isWithin rfl rfl (w_isWithin (G0 L b) h a2 0 3 (by decide : B 0 0 0) (by decide : B 3 3 3)) (fun r12 q12 => ?_)
        obtain ⟨b12, p12_0⟩ := q12
        refine ev_if_ne rfl rfl (fun c13 => ?_) (fun c13 => ?_)
        · have b14 : B r12 1 1 := R_neL b12 (by decide : B 0 0 0) c13 (by decide)
          have b15 : B a2 0 3 := p12_0 c13
          refine ev_aload_n rfl rfl rfl ?_
          refine ev_getR (y := 50) rfl rfl fl_X9_64 rfl rfl rfl rfl ?_
          refine ev_iload_n rfl rfl rfl ?_
          refine ev_iload_n rfl rfl rfl ?_
          refine ev_V2N hJ0 rfl rfl rfl lk_X9_295 vt_X3_walk rfl rfl rfl rfl rfl (w_X3_walk_50 L b h hJ0.1 a0 b5 a1 b10) (fun h17 hJ17 k17  => ?_)
          refine ev_iload_n rfl rfl rfl ?_
          rcases ev_sw a2 0 2 with w18 | w18
          · refine ev_tabOut 100 rfl w18 (by decide) ?_
            refine ev_aload_n rfl rfl rfl ?_
            refine ev_getR (y := 50) rfl rfl fl_X9_64 rfl rfl rfl rfl ?_
            refine ev_getW (l := (-2147483648)) (u := 2147483647) hJ17.1 rfl rfl rfl fl_X9_308 rfl rfl rfl (fun v19 b19 e19 => ?_)
            exact ev_iret rfl rfl rfl ⟨⟨_, rfl, (B.any v19)⟩, rfl, hJ17⟩
          · have w18b : a2 = 0 ∨ a2 = 1 ∨ a2 = 2 := sw_or3_0 w18
            rcases w18b with rfl | rfl | rfl
            · refine ev_tabIn 76 rfl (by decide) (by decide) rfl (by decide) ?_
              refine ev_aload_n rfl rfl rfl ?_
              refine ev_getR (y := 50) rfl rfl fl_X9_64 rfl rfl rfl rfl ?_
              refine ev_getW (l := (-2147483648)) (u := 2147483647) hJ17.1 rfl rfl rfl fl_X9_299 rfl rfl rfl (fun v20 b20 e20 => ?_)
              exact ev_iret rfl rfl rfl ⟨⟨_, rfl, (B.any v20)⟩, rfl, hJ17⟩
            · refine ev_tabIn 84 rfl (by decide) (by decide) rfl (by decide) ?_
              refine ev_aload_n rfl rfl rfl ?_
              refine ev_getR (y := 50) rfl rfl fl_X9_64 rfl rfl rfl rfl ?_
              refine ev_getW (l := (-2147483648)) (u := 2147483647) hJ17.1 rfl rfl rfl fl_X9_302 rfl rfl rfl (fun v21 b21 e21 => ?_)
              exact ev_iret rfl rfl rfl ⟨⟨_, rfl, (B.any v21)⟩, rfl, hJ17⟩
            · refine ev_tabIn 92 rfl (by decide) (by decide) rfl (by decide) ?_
              refine ev_aload_n rfl rfl rfl ?_
              refine ev_getR (y := 50) rfl rfl fl_X9_64 rfl rfl rfl rfl ?_
              refine ev_getW (l := (-2147483648)) (u := 2147483647) hJ17.1 rfl rfl rfl fl_X9_305 rfl rfl rfl (fun v22 b22 e22 => ?_)
              exact ev_iret rfl rfl rfl ⟨⟨_, rfl, (B.any v22)⟩, rfl, hJ17⟩
        · have b16 : B r12 0 0 := R_eqX b12 (by decide : B 0 0 0) c13
          refine ev_iconst (v := (-1)) rfl rfl (by decide) ?_
          exact ev_iret rfl rfl rfl ⟨⟨_, rfl, ((by decide : B (-1) (-1) (-1)).mono (by decide) (by decide))⟩, rfl, hJ0⟩

set_option maxRecDepth 100000 in
set_option maxHeartbeats 4000000 in
theorem w_X9_boat_1 (L : Nat) (b : Bool) (h : Hp) (hB : Bx h) (a0 : Int32) (a1 : Int32) : EvJ mi_X9_boat [.ref 1, .int a0, .int a1] (G0 L b) h (fun r : Int32 => B r (-3) 3) [(50, 2), (51, 999), (52, 999)] := by
  refine EvM.of2 (lo := [some (.ref 1), some (.int a0), some (.int a1)]) pf_X9_boat ok_X9_boat rfl rfl ?_
  have hJ0 : JW [(50, 2), (51, 999), (52, 999)] h h := JW.refl hB
  refine ev_iload_n rfl rfl rfl ?_
  refine ev_S1P rfl rfl lk_X9_271 st_X9_isPlace rfl rfl (w_X9_isPlace L b h hJ0.1 a0) (fun r1 q1 => ?_)
  obtain ⟨b1, p1_0⟩ := q1
  refine ev_if_eq rfl rfl (fun c2 => ?_) (fun c2 => ?_)
  · have b3 : B r1 0 0 := R_eqX b1 (by decide : B 0 0 0) c2
    refine ev_iconst (v := (-1)) rfl rfl (by decide) ?_
    exact ev_iret rfl rfl rfl ⟨⟨_, rfl, ((by decide : B (-1) (-1) (-1)).mono (by decide) (by decide))⟩, rfl, hJ0⟩
  · have b4 : B r1 1 1 := R_neL b1 (by decide : B 0 0 0) c2 (by decide)
    have b5 : B a0 0 999 := p1_0 c2
    refine ev_iload_n rfl rfl rfl ?_
    refine ev_iconst (v := 0) rfl rfl (by decide) ?_
    refine ev_bipush (v := 99) rfl rfl (by decide) ?_
    refine ev_S3P rfl rfl lk_X9_75 st_X9_isWithin rfl rfl (w_isWithin (G0 L b) h a1 0 99 (by decide : B 0 0 0) (by decide : B 99 99 99)) (fun r6 q6 => ?_)
    obtain ⟨b6, p6_0⟩ := q6
    refine ev_if_ne rfl rfl (fun c7 => ?_) (fun c7 => ?_)
    · have b8 : B r6 1 1 := R_neL b6 (by decide : B 0 0 0) c7 (by decide)
      have b9 : B a1 0 99 := p6_0 c7
      refine ev_aload_n rfl rfl rfl ?_
      refine ev_getR (y := 50) rfl rfl fl_X9_64 rfl rfl rfl rfl ?_
      refine ev_iload_n rfl rfl rfl ?_
      refine ev_iload_n rfl rfl rfl ?_
      refine ev_V2J hJ0 rfl rfl rfl lk_X9_274 vt_X3_addBoat rfl rfl rfl rfl rfl (w_X3_addBoat_50 L b h hJ0.1 a0 a1) (fun r11 h11 q11 hJ11 k11 => ?_)
      exact ev_iret rfl rfl rfl ⟨⟨_, rfl, q11⟩, rfl, hJ11⟩
    · have b10 : B r6 0 0 := R_eqX b6 (by decide : B 0 0 0) c7
      refine ev_iconst (v := (-1)) rfl rfl (by decide) ?_
      exact ev_iret rfl rfl rfl ⟨⟨_, rfl, ((by decide : B (-1) (-1) (-1)).mono (by decide) (by decide))⟩, rfl, hJ0⟩

set_option maxRecDepth 100000 in
set_option maxHeartbeats 4000000 in
theorem w_X9_bend_1 (L : Nat) (b : Bool) (h : Hp) (hB : Bx h) (a0 : Int32) (a1 : Int32) : EvJ mi_X9_bend [.ref 1, .int a0, .int a1] (G0 L b) h (fun r : Int32 => B r (-3) 6) [(50, 5), (53, 999), (54, 999)] := by
  refine EvM.of2 (lo := [some (.ref 1), some (.int a0), some (.int a1)]) pf_X9_bend ok_X9_bend rfl rfl ?_
  have hJ0 : JW [(50, 5), (53, 999), (54, 999)] h h := JW.refl hB
  refine ev_iload_n rfl rfl rfl ?_
  refine ev_S1P rfl rfl lk_X9_271 st_X9_isPlace rfl rfl (w_X9_isPlace L b h hJ0.1 a0) (fun r1 q1 => ?_)
  obtain ⟨b1, p1_0⟩ := q1
  refine ev_if_eq rfl rfl (fun c2 => ?_) (fun c2 => ?_)
  · have b3 : B r1 0 0 := R_eqX b1 (by decide : B 0 0 0) c2
    refine ev_iconst (v := (-1)) rfl rfl (by decide) ?_
    exact ev_iret rfl rfl rfl ⟨⟨_, rfl, ((by decide : B (-1) (-1) (-1)).mono (by decide) (by decide))⟩, rfl, hJ0⟩
  · have b4 : B r1 1 1 := R_neL b1 (by decide : B 0 0 0) c2 (by decide)
    have b5 : B a0 0 999 := p1_0 c2
    refine ev_iload_n rfl rfl rfl ?_
    refine ev_iconst (v := 1) rfl rfl (by decide) ?_
    refine ev_bipush (v := 99) rfl rfl (by decide) ?_
    refine ev_S3P rfl rfl lk_X9_75 st_X9_isWithin rfl rfl (w_isWithin (G0 L b) h a1 1 99 (by decide : B 1 1 1) (by decide : B 99 99 99)) (fun r6 q6 => ?_)
    obtain ⟨b6, p6_0⟩ := q6
    refine ev_if_eq rfl rfl (fun c7 => ?_) (fun c7 => ?_)
    · have b8 : B r6 0 0 := R_eqX b6 (by decide : B 0 0 0) c7
      refine ev_iconst (v := (-1)) rfl rfl (by decide) ?_
      exact ev_iret rfl rfl rfl ⟨⟨_, rfl, ((by decide : B (-1) (-1) (-1)).mono (by decide) (by decide))⟩, rfl, hJ0⟩
    · have b9 : B r6 1 1 := R_neL b6 (by decide : B 0 0 0) c7 (by decide)
      have b10 : B a1 1 99 := p6_0 c7
      refine ev_aload_n rfl rfl rfl ?_
      refine ev_getR (y := 50) rfl rfl fl_X9_64 rfl rfl rfl rfl ?_
      refine ev_iload_n rfl rfl rfl ?_
      refine ev_V1P rfl rfl lk_X9_277 vt_X3_bendsAt rfl rfl rfl rfl rfl (w_X3_bendsAt_50 L b h hJ0.1 a0) (fun r11 q11 => ?_)
      refine ev_if_eq rfl rfl (fun c12 => ?_) (fun c12 => ?_)
      · have b13 : B r11 0 0 := R_eqX q11 (by decide : B 0 0 0) c12
        refine ev_aload_n rfl rfl rfl ?_
        refine ev_getR (y := 50) rfl rfl fl_X9_64 rfl rfl rfl rfl ?_
        refine ev_iload_n rfl rfl rfl ?_
        refine ev_iload_n rfl rfl rfl ?_
        refine ev_V2J hJ0 rfl rfl rfl lk_X9_280 vt_X3_addBend rfl rfl rfl rfl rfl (w_X3_addBend_50 L b h hJ0.1 a0 a1) (fun r15 h15 q15 hJ15 k15 => ?_)
        exact ev_iret rfl rfl rfl ⟨⟨_, rfl, q15⟩, rfl, hJ15⟩
      · have b14 : B r11 1 1 := R_neL q11 (by decide : B 0 0 0) c12 (by decide)
        refine ev_iconst (v := (-1)) rfl rfl (by decide) ?_
        exact ev_iret rfl rfl rfl ⟨⟨_, rfl, ((by decide : B (-1) (-1) (-1)).mono (by decide) (by decide))⟩, rfl, hJ0⟩

set_option maxRecDepth 100000 in
set_option maxHeartbeats 4000000 in
theorem w_X9_speed_1 (L : Nat) (b : Bool) (h : Hp) (hB : Bx h) (a0 : Int32) : EvJ mi_X9_speed [.ref 1, .int a0] (G0 L b) h (fun r : Int32 => B r (-2147483648) 2147483647) [(50, 6)] := by
  refine EvM.of2 (lo := [some (.ref 1), some (.int a0), none]) pf_X9_speed ok_X9_speed rfl rfl ?_
  have hJ0 : JW [(50, 6)] h h := JW.refl hB
  refine ev_iload_n rfl rfl rfl ?_
  refine ev_iconst (v := 1) rfl rfl (by decide) ?_
  refine ev_bipush (v := 99) rfl rfl (by decide) ?_
  refine ev_S3P rfl rfl lk_X9_75 st_X9_isWithin rfl rfl (w_isWithin (G0 L b) h a0 1 99 (by decide : B 1 1 1) (by decide : B 99 99 99)) (fun r1 q1 => ?_)
  obtain ⟨b1, p1_0⟩ := q1
  refine ev_if_ne rfl rfl (fun c2 => ?_) (fun c2 => ?_)
  · have b3 : B r1 1 1 := R_neL b1 (by decide : B 0 0 0) c2 (by decide)
    have b4 : B a0 1 99 := p1_0 c2
    refine ev_aload_n rfl rfl rfl ?_
    refine ev_getR (y := 50) rfl rfl fl_X9_64 rfl rfl rfl rfl ?_
    refine ev_getW (l := (-2147483648)) (u := 2147483647) hJ0.1 rfl rfl rfl fl_X9_283 rfl rfl rfl (fun v6 b6 e6 => ?_)
    refine ev_istore_n rfl rfl rfl rfl ?_
    dsimp only [List.set]
    refine ev_aload_n rfl rfl rfl ?_
    refine ev_getR (y := 50) rfl rfl fl_X9_64 rfl rfl rfl rfl ?_
    refine ev_iload_n rfl rfl rfl ?_
    refine ev_putW (l := (-2147483648)) (u := 2147483647) hJ0 rfl b4 (by decide) (by decide) rfl rfl rfl fl_X9_283 rfl rfl rfl rfl rfl (fun h7 hJ7 k7 => ?_)
    refine ev_iload_n rfl rfl rfl ?_
    exact ev_iret rfl rfl rfl ⟨⟨_, rfl, (B.any v6)⟩, rfl, hJ7⟩
  · have b5 : B r1 0 0 := R_eqX b1 (by decide : B 0 0 0) c2
    refine ev_iconst (v := (-1)) rfl rfl (by decide) ?_
    exact ev_iret rfl rfl rfl ⟨⟨_, rfl, ((by decide : B (-1) (-1) (-1)).mono (by decide) (by decide))⟩, rfl, hJ0⟩

set_option maxRecDepth 100000 in
set_option maxHeartbeats 4000000 in
theorem w_X5_has_55 (L : Nat) (b : Bool) (h : Hp) (hB : Bx h) (a0 : Int32) : EvP mi_X5_has [.ref 55, .int a0] (G0 L b) h (fun r : Int32 => B r 0 1 ∧ (¬ r = 0 → B a0 0 3)) := by
  refine EvM.of2 (lo := [some (.ref 55), some (.int a0)]) pf_X5_has ok_X5_has rfl rfl ?_
  refine ev_iconst (v := 0) rfl rfl (by decide) ?_
  refine ev_iload_n rfl rfl rfl ?_
  refine ev_icmp_gt rfl rfl (fun c1 => ?_) (fun c1 => ?_)
  · have b2 : B a0 (-2147483648) (-1) := R_ltX (B.any a0) (by decide : B 0 0 0) c1 (by decide)
    refine ev_iconst (v := 0) rfl rfl (by decide) ?_
    exact ev_iret rfl rfl rfl ⟨⟨_, rfl, ⟨((by decide : B 0 0 0).mono (by decide) (by decide)), (fun e_ => absurd rfl e_)⟩⟩, rfl, rfl⟩
  · have b3 : B a0 0 2147483647 := R_leY (by decide : B 0 0 0) (B.any a0) (Int32.not_lt.mp c1) (by decide)
    refine ev_iload_n rfl rfl rfl ?_
    refine ev_iconst (v := 4) rfl rfl (by decide) ?_
    refine ev_icmp_ge rfl rfl (fun c4 => ?_) (fun c4 => ?_)
    · have b5 : B a0 4 2147483647 := R_leY (by decide : B 4 4 4) b3 c4 (by decide)
      refine ev_iconst (v := 0) rfl rfl (by decide) ?_
      exact ev_iret rfl rfl rfl ⟨⟨_, rfl, ⟨((by decide : B 0 0 0).mono (by decide) (by decide)), (fun e_ => absurd rfl e_)⟩⟩, rfl, rfl⟩
    · have b6 : B a0 0 3 := R_ltX b3 (by decide : B 4 4 4) (Int32.not_le.mp c4) (by decide)
      refine ev_iconst (v := 1) rfl rfl (by decide) ?_
      refine ev_goto rfl rfl ?_
      exact ev_iret rfl rfl rfl ⟨⟨_, rfl, ⟨((by decide : B 1 1 1).mono (by decide) (by decide)), (fun _ => b6)⟩⟩, rfl, rfl⟩

set_option maxRecDepth 100000 in
set_option maxHeartbeats 4000000 in
theorem w_X5_isLane_55 (L : Nat) (b : Bool) (h : Hp) (hB : Bx h) (a0 : Int32) : EvP mi_X5_isLane [.ref 55, .int a0] (G0 L b) h (fun r : Int32 => B r 0 1 ∧ (¬ r = 0 → B a0 0 2)) := by
  refine EvM.of2 (lo := [some (.ref 55), some (.int a0)]) pf_X5_isLane ok_X5_isLane rfl rfl ?_
  refine ev_iconst (v := 0) rfl rfl (by decide) ?_
  refine ev_iload_n rfl rfl rfl ?_
  refine ev_icmp_gt rfl rfl (fun c1 => ?_) (fun c1 => ?_)
  · have b2 : B a0 (-2147483648) (-1) := R_ltX (B.any a0) (by decide : B 0 0 0) c1 (by decide)
    refine ev_iconst (v := 0) rfl rfl (by decide) ?_
    exact ev_iret rfl rfl rfl ⟨⟨_, rfl, ⟨((by decide : B 0 0 0).mono (by decide) (by decide)), (fun e_ => absurd rfl e_)⟩⟩, rfl, rfl⟩
  · have b3 : B a0 0 2147483647 := R_leY (by decide : B 0 0 0) (B.any a0) (Int32.not_lt.mp c1) (by decide)
    refine ev_iload_n rfl rfl rfl ?_
    refine ev_iconst (v := 2) rfl rfl (by decide) ?_
    refine ev_icmp_gt rfl rfl (fun c4 => ?_) (fun c4 => ?_)
    · have b5 : B a0 3 2147483647 := R_ltY (by decide : B 2 2 2) b3 c4 (by decide)
      refine ev_iconst (v := 0) rfl rfl (by decide) ?_
      exact ev_iret rfl rfl rfl ⟨⟨_, rfl, ⟨((by decide : B 0 0 0).mono (by decide) (by decide)), (fun e_ => absurd rfl e_)⟩⟩, rfl, rfl⟩
    · have b6 : B a0 0 2 := R_leX b3 (by decide : B 2 2 2) (Int32.not_lt.mp c4) (by decide)
      refine ev_iconst (v := 1) rfl rfl (by decide) ?_
      refine ev_goto rfl rfl ?_
      exact ev_iret rfl rfl rfl ⟨⟨_, rfl, ⟨((by decide : B 1 1 1).mono (by decide) (by decide)), (fun _ => b6)⟩⟩, rfl, rfl⟩

set_option maxRecDepth 100000 in
set_option maxHeartbeats 4000000 in
theorem w_X5_hasCell_55 (L : Nat) (b : Bool) (h : Hp) (hB : Bx h) (a0 : Int32) (p0 : B a0 0 3) (a1 : Int32) : EvP mi_X5_hasCell [.ref 55, .int a0, .int a1] (G0 L b) h (fun r : Int32 => B r 0 1 ∧ (¬ r = 0 → B a1 0 59)) := by
  refine EvM.of2 (lo := [some (.ref 55), some (.int a0), some (.int a1)]) pf_X5_hasCell ok_X5_hasCell rfl rfl ?_
  refine ev_iconst (v := 0) rfl rfl (by decide) ?_
  refine ev_iload_n rfl rfl rfl ?_
  refine ev_icmp_gt rfl rfl (fun c1 => ?_) (fun c1 => ?_)
  · have b2 : B a1 (-2147483648) (-1) := R_ltX (B.any a1) (by decide : B 0 0 0) c1 (by decide)
    refine ev_iconst (v := 0) rfl rfl (by decide) ?_
    exact ev_iret rfl rfl rfl ⟨⟨_, rfl, ⟨((by decide : B 0 0 0).mono (by decide) (by decide)), (fun e_ => absurd rfl e_)⟩⟩, rfl, rfl⟩
  · have b3 : B a1 0 2147483647 := R_leY (by decide : B 0 0 0) (B.any a1) (Int32.not_lt.mp c1) (by decide)
    refine ev_iload_n rfl rfl rfl ?_
    refine ev_aload_n rfl rfl rfl ?_
    refine ev_getR (y := 62) rfl rfl fl_X5_18 rfl rfl rfl rfl ?_
    refine ev_iload_n rfl rfl rfl ?_
    refine ev_ialW (n := 4) (l := (-1)) (u := 60) hB p0 (by decide) (by decide) (fun _ => rfl) rfl rfl rfl (fun v4 b4 e4 => ?_)
    refine ev_icmp_ge rfl rfl (fun c5 => ?_) (fun c5 => ?_)
    · refine ev_iconst (v := 0) rfl rfl (by decide) ?_
      exact ev_iret rfl rfl rfl ⟨⟨_, rfl, ⟨((by decide : B 0 0 0).mono (by decide) (by decide)), (fun e_ => absurd rfl e_)⟩⟩, rfl, rfl⟩
    · have b6 : B a1 0 59 := R_ltX b3 b4 (Int32.not_le.mp c5) (by decide)
      have b7 : B v4 1 60 := R_ltY b3 b4 (Int32.not_le.mp c5) (by decide)
      refine ev_iconst (v := 1) rfl rfl (by decide) ?_
      refine ev_goto rfl rfl ?_
      exact ev_iret rfl rfl rfl ⟨⟨_, rfl, ⟨((by decide : B 1 1 1).mono (by decide) (by decide)), (fun _ => b6)⟩⟩, rfl, rfl⟩

set_option maxRecDepth 100000 in
set_option maxHeartbeats 4000000 in
theorem w_X9_fault_1 (L : Nat) (b : Bool) (h : Hp) (hB : Bx h)  : EvP mi_X9_fault [.ref 1] (G0 L b) h (fun r : Int32 => B r (-2147483648) 2147483647) := by
  refine EvM.of2 (lo := [some (.ref 1)]) pf_X9_fault ok_X9_fault rfl rfl ?_
  refine ev_aload_n rfl rfl rfl ?_
  refine ev_getR (y := 23) rfl rfl fl_X9_36 rfl rfl rfl rfl ?_
  refine ev_getW (l := (-2147483648)) (u := 2147483647) hB rfl rfl rfl fl_X9_180 rfl rfl rfl (fun v1 b1 e1 => ?_)
  exact ev_iret rfl rfl rfl ⟨⟨_, rfl, (B.any v1)⟩, rfl, rfl⟩

