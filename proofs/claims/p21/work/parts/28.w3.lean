set_option maxRecDepth 100000 in
set_option maxHeartbeats 4000000 in
theorem w_X7_chordIn_28 (L : Nat) (b : Bool) (h : Hp) (hB : Bx h) (a0 : Int32) (p0 : B a0 0 5) (a1 : Int32) (p1 : B a1 0 23) (a2 : Int32) : EvP mi_X7_chordIn [.ref 28, .int a0, .int a1, .int a2] (G0 L b) h (fun r : Int32 => B r (-2147483648) 2147483647) := by
  refine EvM.of2 (lo := [some (.ref 28), some (.int a0), some (.int a1), some (.int a2), none]) pf_X7_chordIn ok_X7_chordIn rfl rfl ?_
  refine ev_aload_n rfl rfl rfl ?_
  refine ev_getR (y := 29) rfl rfl fl_X7_11 rfl rfl rfl rfl ?_
  refine ev_iload_n rfl rfl rfl ?_
  rcases B.c6 p0 with rfl | rfl | rfl | rfl | rfl | rfl
  · refine ev_aald (y := 30) (j := 0) rfl rfl rfl rfl (by unfold vp_in; decide) (by decide) rfl ?_
    refine ev_iload_n rfl rfl rfl ?_
    refine ev_ialW (n := 24) (l := 0) (u := 4095) hB p1 (by decide) (by decide) (fun _ => rfl) rfl rfl rfl (fun v1 b1 e1 => ?_)
    refine ev_istore rfl rfl rfl rfl ?_
    dsimp only [List.set]
    refine ev_iload_n rfl rfl rfl ?_
    refine ev_if_lt rfl rfl (fun c2 => ?_) (fun c2 => ?_)
    · have b3 : B a2 (-2147483648) (-1) := R_ltX (B.any a2) (by decide : B 0 0 0) c2 (by decide)
      refine ev_iload rfl rfl rfl ?_
      refine ev_iload_n rfl rfl rfl ?_
      refine ev_inegA rfl rfl (fun v5 => ?_)
      refine ev_ishrA rfl rfl (fun v6 => ?_)
      exact ev_iret rfl rfl rfl ⟨⟨_, rfl, (B.any v6)⟩, rfl, rfl⟩
    · have b4 : B a2 0 2147483647 := R_leY (by decide : B 0 0 0) (B.any a2) (Int32.not_lt.mp c2) (by decide)
      refine ev_iload rfl rfl rfl ?_
      refine ev_iload_n rfl rfl rfl ?_
      refine ev_ishlA rfl rfl (fun v7 => ?_)
      refine ev_goto rfl rfl ?_
      exact ev_iret rfl rfl rfl ⟨⟨_, rfl, (B.any v7)⟩, rfl, rfl⟩
  · refine ev_aald (y := 31) (j := 1) rfl rfl rfl rfl (by unfold vp_in; decide) (by decide) rfl ?_
    refine ev_iload_n rfl rfl rfl ?_
    refine ev_ialW (n := 24) (l := 0) (u := 4095) hB p1 (by decide) (by decide) (fun _ => rfl) rfl rfl rfl (fun v8 b8 e8 => ?_)
    refine ev_istore rfl rfl rfl rfl ?_
    dsimp only [List.set]
    refine ev_iload_n rfl rfl rfl ?_
    refine ev_if_lt rfl rfl (fun c9 => ?_) (fun c9 => ?_)
    · have b10 : B a2 (-2147483648) (-1) := R_ltX (B.any a2) (by decide : B 0 0 0) c9 (by decide)
      refine ev_iload rfl rfl rfl ?_
      refine ev_iload_n rfl rfl rfl ?_
      refine ev_inegA rfl rfl (fun v12 => ?_)
      refine ev_ishrA rfl rfl (fun v13 => ?_)
      exact ev_iret rfl rfl rfl ⟨⟨_, rfl, (B.any v13)⟩, rfl, rfl⟩
    · have b11 : B a2 0 2147483647 := R_leY (by decide : B 0 0 0) (B.any a2) (Int32.not_lt.mp c9) (by decide)
      refine ev_iload rfl rfl rfl ?_
      refine ev_iload_n rfl rfl rfl ?_
      refine ev_ishlA rfl rfl (fun v14 => ?_)
      refine ev_goto rfl rfl ?_
      exact ev_iret rfl rfl rfl ⟨⟨_, rfl, (B.any v14)⟩, rfl, rfl⟩
  · refine ev_aald (y := 32) (j := 2) rfl rfl rfl rfl (by unfold vp_in; decide) (by decide) rfl ?_
    refine ev_iload_n rfl rfl rfl ?_
    refine ev_ialW (n := 24) (l := 0) (u := 4095) hB p1 (by decide) (by decide) (fun _ => rfl) rfl rfl rfl (fun v15 b15 e15 => ?_)
    refine ev_istore rfl rfl rfl rfl ?_
    dsimp only [List.set]
    refine ev_iload_n rfl rfl rfl ?_
    refine ev_if_lt rfl rfl (fun c16 => ?_) (fun c16 => ?_)
    · have b17 : B a2 (-2147483648) (-1) := R_ltX (B.any a2) (by decide : B 0 0 0) c16 (by decide)
      refine ev_iload rfl rfl rfl ?_
      refine ev_iload_n rfl rfl rfl ?_
      refine ev_inegA rfl rfl (fun v19 => ?_)
      refine ev_ishrA rfl rfl (fun v20 => ?_)
      exact ev_iret rfl rfl rfl ⟨⟨_, rfl, (B.any v20)⟩, rfl, rfl⟩
    · have b18 : B a2 0 2147483647 := R_leY (by decide : B 0 0 0) (B.any a2) (Int32.not_lt.mp c16) (by decide)
      refine ev_iload rfl rfl rfl ?_
      refine ev_iload_n rfl rfl rfl ?_
      refine ev_ishlA rfl rfl (fun v21 => ?_)
      refine ev_goto rfl rfl ?_
      exact ev_iret rfl rfl rfl ⟨⟨_, rfl, (B.any v21)⟩, rfl, rfl⟩
  · refine ev_aald (y := 33) (j := 3) rfl rfl rfl rfl (by unfold vp_in; decide) (by decide) rfl ?_
    refine ev_iload_n rfl rfl rfl ?_
    refine ev_ialW (n := 24) (l := 0) (u := 4095) hB p1 (by decide) (by decide) (fun _ => rfl) rfl rfl rfl (fun v22 b22 e22 => ?_)
    refine ev_istore rfl rfl rfl rfl ?_
    dsimp only [List.set]
    refine ev_iload_n rfl rfl rfl ?_
    refine ev_if_lt rfl rfl (fun c23 => ?_) (fun c23 => ?_)
    · have b24 : B a2 (-2147483648) (-1) := R_ltX (B.any a2) (by decide : B 0 0 0) c23 (by decide)
      refine ev_iload rfl rfl rfl ?_
      refine ev_iload_n rfl rfl rfl ?_
      refine ev_inegA rfl rfl (fun v26 => ?_)
      refine ev_ishrA rfl rfl (fun v27 => ?_)
      exact ev_iret rfl rfl rfl ⟨⟨_, rfl, (B.any v27)⟩, rfl, rfl⟩
    · have b25 : B a2 0 2147483647 := R_leY (by decide : B 0 0 0) (B.any a2) (Int32.not_lt.mp c23) (by decide)
      refine ev_iload rfl rfl rfl ?_
      refine ev_iload_n rfl rfl rfl ?_
      refine ev_ishlA rfl rfl (fun v28 => ?_)
      refine ev_goto rfl rfl ?_
      exact ev_iret rfl rfl rfl ⟨⟨_, rfl, (B.any v28)⟩, rfl, rfl⟩
  · refine ev_aald (y := 34) (j := 4) rfl rfl rfl rfl (by unfold vp_in; decide) (by decide) rfl ?_
    refine ev_iload_n rfl rfl rfl ?_
    refine ev_ialW (n := 24) (l := 0) (u := 4095) hB p1 (by decide) (by decide) (fun _ => rfl) rfl rfl rfl (fun v29 b29 e29 => ?_)
    refine ev_istore rfl rfl rfl rfl ?_
    dsimp only [List.set]
    refine ev_iload_n rfl rfl rfl ?_
    refine ev_if_lt rfl rfl (fun c30 => ?_) (fun c30 => ?_)
    · have b31 : B a2 (-2147483648) (-1) := R_ltX (B.any a2) (by decide : B 0 0 0) c30 (by decide)
      refine ev_iload rfl rfl rfl ?_
      refine ev_iload_n rfl rfl rfl ?_
      refine ev_inegA rfl rfl (fun v33 => ?_)
      refine ev_ishrA rfl rfl (fun v34 => ?_)
      exact ev_iret rfl rfl rfl ⟨⟨_, rfl, (B.any v34)⟩, rfl, rfl⟩
    · have b32 : B a2 0 2147483647 := R_leY (by decide : B 0 0 0) (B.any a2) (Int32.not_lt.mp c30) (by decide)
      refine ev_iload rfl rfl rfl ?_
      refine ev_iload_n rfl rfl rfl ?_
      refine ev_ishlA rfl rfl (fun v35 => ?_)
      refine ev_goto rfl rfl ?_
      exact ev_iret rfl rfl rfl ⟨⟨_, rfl, (B.any v35)⟩, rfl, rfl⟩
  · refine ev_aald (y := 35) (j := 5) rfl rfl rfl rfl (by unfold vp_in; decide) (by decide) rfl ?_
    refine ev_iload_n rfl rfl rfl ?_
    refine ev_ialW (n := 24) (l := 0) (u := 4095) hB p1 (by decide) (by decide) (fun _ => rfl) rfl rfl rfl (fun v36 b36 e36 => ?_)
    refine ev_istore rfl rfl rfl rfl ?_
    dsimp only [List.set]
    refine ev_iload_n rfl rfl rfl ?_
    refine ev_if_lt rfl rfl (fun c37 => ?_) (fun c37 => ?_)
    · have b38 : B a2 (-2147483648) (-1) := R_ltX (B.any a2) (by decide : B 0 0 0) c37 (by decide)
      refine ev_iload rfl rfl rfl ?_
      refine ev_iload_n rfl rfl rfl ?_
      refine ev_inegA rfl rfl (fun v40 => ?_)
      refine ev_ishrA rfl rfl (fun v41 => ?_)
      exact ev_iret rfl rfl rfl ⟨⟨_, rfl, (B.any v41)⟩, rfl, rfl⟩
    · have b39 : B a2 0 2147483647 := R_leY (by decide : B 0 0 0) (B.any a2) (Int32.not_lt.mp c37) (by decide)
      refine ev_iload rfl rfl rfl ?_
      refine ev_iload_n rfl rfl rfl ?_
      refine ev_ishlA rfl rfl (fun v42 => ?_)
      refine ev_goto rfl rfl ?_
      exact ev_iret rfl rfl rfl ⟨⟨_, rfl, (B.any v42)⟩, rfl, rfl⟩

set_option maxRecDepth 100000 in
set_option maxHeartbeats 4000000 in
theorem w_X7_whistlesOf_28 (L : Nat) (b : Bool) (h : Hp) (hB : Bx h) (a0 : Int32) (p0 : B a0 0 5) : EvP mi_X7_whistlesOf [.ref 28, .int a0] (G0 L b) h (fun r : Int32 => B r 0 4095) := by
  refine EvM.of2 (lo := [some (.ref 28), some (.int a0), none, none]) pf_X7_whistlesOf ok_X7_whistlesOf rfl rfl ?_
  refine ev_iconst (v := 0) rfl rfl (by decide) ?_
  refine ev_istore_n rfl rfl rfl rfl ?_
  dsimp only [List.set]
  refine ev_iconst (v := 0) rfl rfl (by decide) ?_
  refine ev_istore_n rfl rfl rfl rfl ?_
  dsimp only [List.set]
  have lp4_145 : ∀ (n : Nat) (w146 : Int32) (w147 : Int32), B w146 0 4095 → B w147 0 24 → 24 + 1 - w147.toInt ≤ (n : Int) → EvQ mi_X7_whistlesOf 4 [some (.ref 28), some (.int a0), some (.int w146), some (.int w147)] [] (G0 L b) h 0 0 (QP (fun r : Int32 => B r 0 4095) (G0 L b) h) := by
    intro n
    induction n with
    | zero =>
      intro w146 w147 b148 b149 hm4
      exact absurd hm4 (L_zero b149 (by decide))
    | succ n ih4 =>
      intro w146 w147 b148 b149 hm4
      refine ev_iload_n rfl rfl rfl ?_
      refine ev_aload_n rfl rfl rfl ?_
      refine ev_getR (y := 36) rfl rfl fl_X7_16 rfl rfl rfl rfl ?_
      refine ev_iload_n rfl rfl rfl ?_
      refine ev_ialW (n := 6) (l := 0) (u := 24) hB p0 (by decide) (by decide) (fun _ => rfl) rfl rfl rfl (fun v150 b150 e150 => ?_)
      refine ev_icmp_ge rfl rfl (fun c151 => ?_) (fun c151 => ?_)
      · refine ev_iload_n rfl rfl rfl ?_
        exact ev_iret rfl rfl rfl ⟨⟨_, rfl, b148⟩, rfl, rfl⟩
      · have b152 : B w147 0 23 := R_ltX b149 b150 (Int32.not_le.mp c151) (by decide)
        have b153 : B v150 1 24 := R_ltY b149 b150 (Int32.not_le.mp c151) (by decide)
        refine ev_iload_n rfl rfl rfl ?_
        refine ev_aload_n rfl rfl rfl ?_
        refine ev_getR (y := 29) rfl rfl fl_X7_11 rfl rfl rfl rfl ?_
        refine ev_iload_n rfl rfl rfl ?_
        rcases B.c6 p0 with rfl | rfl | rfl | rfl | rfl | rfl
        · refine ev_aald (y := 30) (j := 0) rfl rfl rfl rfl (by unfold vp_in; decide) (by decide) rfl ?_
          refine ev_iload_n rfl rfl rfl ?_
          refine ev_ialW (n := 24) (l := 0) (u := 4095) hB b152 (by decide) (by decide) (fun _ => rfl) rfl rfl rfl (fun v154 b154 e154 => ?_)
          refine ev_iorB 12 (u := 4095) rfl rfl b148 b154 (by decide) (by decide) (by decide) (by decide) (by decide) (by decide) (fun v155 b155 e155 => ?_)
          refine ev_istore_n rfl rfl rfl rfl ?_
          dsimp only [List.set]
          refine ev_iincB (y := 1) (l := 1) (u := 24) rfl rfl rfl (by decide) rfl rfl b152 (by decide : B 1 1 1) (by decide) (by decide) (by decide) (by decide) (fun v156 b156 e156 => ?_)
          dsimp only [List.set]
          refine ev_goto rfl rfl ?_
          exact (ih4 v155 v156 b155 (b156.mono (by decide) (by decide)) (L_up hm4 (e_p1 e156 (by decide))))
        · refine ev_aald (y := 31) (j := 1) rfl rfl rfl rfl (by unfold vp_in; decide) (by decide) rfl ?_
          refine ev_iload_n rfl rfl rfl ?_
          refine ev_ialW (n := 24) (l := 0) (u := 4095) hB b152 (by decide) (by decide) (fun _ => rfl) rfl rfl rfl (fun v157 b157 e157 => ?_)
          refine ev_iorB 12 (u := 4095) rfl rfl b148 b157 (by decide) (by decide) (by decide) (by decide) (by decide) (by decide) (fun v158 b158 e158 => ?_)
          refine ev_istore_n rfl rfl rfl rfl ?_
          dsimp only [List.set]
          refine ev_iincB (y := 1) (l := 1) (u := 24) rfl rfl rfl (by decide) rfl rfl b152 (by decide : B 1 1 1) (by decide) (by decide) (by decide) (by decide) (fun v159 b159 e159 => ?_)
          dsimp only [List.set]
          refine ev_goto rfl rfl ?_
          exact (ih4 v158 v159 b158 (b159.mono (by decide) (by decide)) (L_up hm4 (e_p1 e159 (by decide))))
        · refine ev_aald (y := 32) (j := 2) rfl rfl rfl rfl (by unfold vp_in; decide) (by decide) rfl ?_
          refine ev_iload_n rfl rfl rfl ?_
          refine ev_ialW (n := 24) (l := 0) (u := 4095) hB b152 (by decide) (by decide) (fun _ => rfl) rfl rfl rfl (fun v160 b160 e160 => ?_)
          refine ev_iorB 12 (u := 4095) rfl rfl b148 b160 (by decide) (by decide) (by decide) (by decide) (by decide) (by decide) (fun v161 b161 e161 => ?_)
          refine ev_istore_n rfl rfl rfl rfl ?_
          dsimp only [List.set]
          refine ev_iincB (y := 1) (l := 1) (u := 24) rfl rfl rfl (by decide) rfl rfl b152 (by decide : B 1 1 1) (by decide) (by decide) (by decide) (by decide) (fun v162 b162 e162 => ?_)
          dsimp only [List.set]
          refine ev_goto rfl rfl ?_
          exact (ih4 v161 v162 b161 (b162.mono (by decide) (by decide)) (L_up hm4 (e_p1 e162 (by decide))))
        · refine ev_aald (y := 33) (j := 3) rfl rfl rfl rfl (by unfold vp_in; decide) (by decide) rfl ?_
          refine ev_iload_n rfl rfl rfl ?_
          refine ev_ialW (n := 24) (l := 0) (u := 4095) hB b152 (by decide) (by decide) (fun _ => rfl) rfl rfl rfl (fun v163 b163 e163 => ?_)
          refine ev_iorB 12 (u := 4095) rfl rfl b148 b163 (by decide) (by decide) (by decide) (by decide) (by decide) (by decide) (fun v164 b164 e164 => ?_)
          refine ev_istore_n rfl rfl rfl rfl ?_
          dsimp only [List.set]
          refine ev_iincB (y := 1) (l := 1) (u := 24) rfl rfl rfl (by decide) rfl rfl b152 (by decide : B 1 1 1) (by decide) (by decide) (by decide) (by decide) (fun v165 b165 e165 => ?_)
          dsimp only [List.set]
          refine ev_goto rfl rfl ?_
          exact (ih4 v164 v165 b164 (b165.mono (by decide) (by decide)) (L_up hm4 (e_p1 e165 (by decide))))
        · refine ev_aald (y := 34) (j := 4) rfl rfl rfl rfl (by unfold vp_in; decide) (by decide) rfl ?_
          refine ev_iload_n rfl rfl rfl ?_
          refine ev_ialW (n := 24) (l := 0) (u := 4095) hB b152 (by decide) (by decide) (fun _ => rfl) rfl rfl rfl (fun v166 b166 e166 => ?_)
          refine ev_iorB 12 (u := 4095) rfl rfl b148 b166 (by decide) (by decide) (by decide) (by decide) (by decide) (by decide) (fun v167 b167 e167 => ?_)
          refine ev_istore_n rfl rfl rfl rfl ?_
          dsimp only [List.set]
          refine ev_iincB (y := 1) (l := 1) (u := 24) rfl rfl rfl (by decide) rfl rfl b152 (by decide : B 1 1 1) (by decide) (by decide) (by decide) (by decide) (fun v168 b168 e168 => ?_)
          dsimp only [List.set]
          refine ev_goto rfl rfl ?_
          exact (ih4 v167 v168 b167 (b168.mono (by decide) (by decide)) (L_up hm4 (e_p1 e168 (by decide))))
        · refine ev_aald (y := 35) (j := 5) rfl rfl rfl rfl (by unfold vp_in; decide) (by decide) rfl ?_
          refine ev_iload_n rfl rfl rfl ?_
          refine ev_ialW (n := 24) (l := 0) (u := 4095) hB b152 (by decide) (by decide) (fun _ => rfl) rfl rfl rfl (fun v169 b169 e169 => ?_)
          refine ev_iorB 12 (u := 4095) rfl rfl b148 b169 (by decide) (by decide) (by decide) (by decide) (by decide) (by decide) (fun v170 b170 e170 => ?_)
          refine ev_istore_n rfl rfl rfl rfl ?_
          dsimp only [List.set]
          refine ev_iincB (y := 1) (l := 1) (u := 24) rfl rfl rfl (by decide) rfl rfl b152 (by decide : B 1 1 1) (by decide) (by decide) (by decide) (by decide) (fun v171 b171 e171 => ?_)
          dsimp only [List.set]
          refine ev_goto rfl rfl ?_
          exact (ih4 v170 v171 b170 (b171.mono (by decide) (by decide)) (L_up hm4 (e_p1 e171 (by decide))))
  exact (lp4_145 25 0 0 ((by decide : B 0 0 0).mono (by decide) (by decide)) ((by decide : B 0 0 0).mono (by decide) (by decide)) (L_init (by decide : B 0 0 0) (by decide)))

set_option maxRecDepth 100000 in
set_option maxHeartbeats 4000000 in
theorem w_X9_leastOf (L : Nat) (b : Bool) (h : Hp) (hB : Bx h) (a0 : Int32) : EvP mi_X9_leastOf [.int a0] (G0 L b) h (fun r : Int32 => B r (-2147483648) 2147483647) := by
  refine EvM.of2 (lo := [some (.int a0)]) pf_X9_leastOf ok_X9_leastOf rfl rfl ?_
  refine ev_iload_n rfl rfl rfl ?_
  refine ev_if_ne rfl rfl (fun c1 => ?_) (fun c1 => ?_)
  · refine ev_iload_n rfl rfl rfl ?_
    refine ev_iload_n rfl rfl rfl ?_
    refine ev_inegA rfl rfl (fun v3 => ?_)
    refine ev_iandA rfl rfl (fun v4 => ?_)
    refine ev_iconst (v := 1) rfl rfl (by decide) ?_
    refine ev_isubA rfl rfl (fun v5 g5 => ?_)
    refine ev_S1P rfl rfl lk_X9_341 st_J6_bitCount_0f7a4 rfl rfl (w_any (c_bitCount (G0 L b) h v5)) (fun r6 q6 => ?_)
    exact ev_iret rfl rfl rfl ⟨⟨_, rfl, (B.any r6)⟩, rfl, rfl⟩
  · have b2 : B a0 0 0 := R_eqX (B.any a0) (by decide : B 0 0 0) c1
    refine ev_bipush (v := (-4)) rfl rfl (by decide) ?_
    refine ev_goto rfl rfl ?_
    exact ev_iret rfl rfl rfl ⟨⟨_, rfl, ((by decide : B (-4) (-4) (-4)).mono (by decide) (by decide))⟩, rfl, rfl⟩

set_option maxRecDepth 100000 in
set_option maxHeartbeats 4000000 in
theorem w_X9_greatestOf (L : Nat) (b : Bool) (h : Hp) (hB : Bx h) (a0 : Int32) : EvP mi_X9_greatestOf [.int a0] (G0 L b) h (fun r : Int32 => B r (-4) 11) := by
  refine EvM.of2 (lo := [some (.int a0), none]) pf_X9_greatestOf ok_X9_greatestOf rfl rfl ?_
  refine ev_bipush (v := 11) rfl rfl (by decide) ?_
  refine ev_istore_n rfl rfl rfl rfl ?_
  dsimp only [List.set]
  have lp3_47 : ∀ (n : Nat) (w48 : Int32), B w48 (-1) 11 → w48.toInt + 1 - (-1) ≤ (n : Int) → EvQ mi_X9_greatestOf 3 [some (.int a0), some (.int w48)] [] (G0 L b) h 0 0 (QP (fun r : Int32 => B r (-4) 11) (G0 L b) h) := by
    intro n
    induction n with
    | zero =>
      intro w48 b49 hm3
      exact absurd hm3 (M_zero b49 (by decide))
    | succ n ih3 =>
      intro w48 b49 hm3
      refine ev_iload_n rfl rfl rfl ?_
      refine ev_if_lt rfl rfl (fun c50 => ?_) (fun c50 => ?_)
      · have b51 : B w48 (-1) (-1) := R_ltX b49 (by decide : B 0 0 0) c50 (by decide)
        refine ev_bipush (v := (-4)) rfl rfl (by decide) ?_
        exact ev_iret rfl rfl rfl ⟨⟨_, rfl, ((by decide : B (-4) (-4) (-4)).mono (by decide) (by decide))⟩, rfl, rfl⟩
      · have b52 : B w48 0 11 := R_leY (by decide : B 0 0 0) b49 (Int32.not_lt.mp c50) (by decide)
        refine ev_iload_n rfl rfl rfl ?_
        refine ev_iload_n rfl rfl rfl ?_
        refine ev_ishrA rfl rfl (fun v53 => ?_)
        refine ev_iconst (v := 1) rfl rfl (by decide) ?_
        refine ev_iandB rfl rfl (by decide : B 1 1 1) (by decide) (fun v54 b54 e54 => ?_)
        refine ev_if_eq rfl rfl (fun c55 => ?_) (fun c55 => ?_)
        · have b56 : B v54 0 0 := R_eqX b54 (by decide : B 0 0 0) c55
          refine ev_iincB (y := (-1)) (l := -1) (u := 10) rfl rfl rfl (by decide) rfl rfl b52 (by decide : B (-1) (-1) (-1)) (by decide) (by decide) (by decide) (by decide) (fun v58 b58 e58 => ?_)
          dsimp only [List.set]
          refine ev_goto rfl rfl ?_
          exact (ih3 v58 (b58.mono (by decide) (by decide)) (M_dn hm3 (e_m1 e58 (by decide))))
        · have b57 : B v54 1 1 := R_neL b54 (by decide : B 0 0 0) c55 (by decide)
          refine ev_iload_n rfl rfl rfl ?_
          exact ev_iret rfl rfl rfl ⟨⟨_, rfl, (b52.mono (by decide) (by decide))⟩, rfl, rfl⟩
  exact (lp3_47 13 11 ((by decide : B 11 11 11).mono (by decide) (by decide)) (M_init (by decide : B 11 11 11) (by decide)))

set_option maxRecDepth 100000 in
set_option maxHeartbeats 4000000 in
theorem w_X7_goes_28 (L : Nat) (b : Bool) (h : Hp) (hB : Bx h) (a0 : Int32) (p0 : B a0 0 5) (a1 : Int32) (a2 : Int32) : EvP mi_X7_goes [.ref 28, .int a0, .int a1, .int a2] (G0 L b) h (fun r : Int32 => B r 0 1) := by
  refine EvM.of2 (lo := [some (.ref 28), some (.int a0), some (.int a1), some (.int a2), none]) pf_X7_goes ok_X7_goes rfl rfl ?_
  refine ev_aload_n rfl rfl rfl ?_
  refine ev_iload_n rfl rfl rfl ?_
  refine ev_V1P rfl rfl lk_X7_36 vt_X7_whistlesOf rfl rfl rfl rfl rfl (w_X7_whistlesOf_28 L b h hB a0 p0) (fun r1 q1 => ?_)
  refine ev_istore rfl rfl rfl rfl ?_
  dsimp only [List.set]
  refine ev_iload rfl rfl rfl ?_
  refine ev_if_eq rfl rfl (fun c2 => ?_) (fun c2 => ?_)
  · have b3 : B r1 0 0 := R_eqX q1 (by decide : B 0 0 0) c2
    refine ev_iconst (v := 1) rfl rfl (by decide) ?_
    refine ev_goto rfl rfl ?_
    exact ev_iret rfl rfl rfl ⟨⟨_, rfl, ((by decide : B 1 1 1).mono (by decide) (by decide))⟩, rfl, rfl⟩
  · have b4 : B r1 1 4095 := R_neL q1 (by decide : B 0 0 0) c2 (by decide)
    refine ev_iload rfl rfl rfl ?_
    refine ev_SN1P rfl rfl lk_X7_39 st_X9_leastOf rfl rfl (w_X9_leastOf L b h hB r1) (fun r5 q5 => ?_)
    refine ev_iload_n rfl rfl rfl ?_
    refine ev_iaddA rfl rfl (fun v6 g6 => ?_)
    refine ev_if_lt rfl rfl (fun c7 => ?_) (fun c7 => ?_)
    · have b8 : B v6 (-2147483648) (-1) := R_ltX (B.any v6) (by decide : B 0 0 0) c7 (by decide)
      refine ev_iconst (v := 0) rfl rfl (by decide) ?_
      exact ev_iret rfl rfl rfl ⟨⟨_, rfl, ((by decide : B 0 0 0).mono (by decide) (by decide))⟩, rfl, rfl⟩
    · have b9 : B v6 0 2147483647 := R_leY (by decide : B 0 0 0) (B.any v6) (Int32.not_lt.mp c7) (by decide)
      refine ev_iload rfl rfl rfl ?_
      refine ev_SN1P rfl rfl lk_X7_42 st_X9_greatestOf rfl rfl (w_X9_greatestOf L b h hB r1) (fun r10 q10 => ?_)
      refine ev_iload_n rfl rfl rfl ?_
      refine ev_iaddA rfl rfl (fun v11 g11 => ?_)
      refine ev_iload_n rfl rfl rfl ?_
      refine ev_icmp_ge rfl rfl (fun c12 => ?_) (fun c12 => ?_)
      · refine ev_iconst (v := 0) rfl rfl (by decide) ?_
        exact ev_iret rfl rfl rfl ⟨⟨_, rfl, ((by decide : B 0 0 0).mono (by decide) (by decide))⟩, rfl, rfl⟩
      · have b13 : B v11 (-2147483648) 2147483646 := R_ltX (B.any v11) (B.any a2) (Int32.not_le.mp c12) (by decide)
        have b14 : B a2 (-2147483647) 2147483647 := R_ltY (B.any v11) (B.any a2) (Int32.not_le.mp c12) (by decide)
        refine ev_iconst (v := 1) rfl rfl (by decide) ?_
        refine ev_goto rfl rfl ?_
        exact ev_iret rfl rfl rfl ⟨⟨_, rfl, ((by decide : B 1 1 1).mono (by decide) (by decide))⟩, rfl, rfl⟩

set_option maxRecDepth 100000 in
set_option maxHeartbeats 4000000 in
theorem w_X7_has_28 (L : Nat) (b : Bool) (h : Hp) (hB : Bx h) (a0 : Int32) : EvP mi_X7_has [.ref 28, .int a0] (G0 L b) h (fun r : Int32 => B r 0 1 ∧ (¬ r = 0 → B a0 0 5)) := by
  refine EvM.of2 (lo := [some (.ref 28), some (.int a0)]) pf_X7_has ok_X7_has rfl rfl ?_
  refine ev_iconst (v := 0) rfl rfl (by decide) ?_
  refine ev_iload_n rfl rfl rfl ?_
  refine ev_icmp_gt rfl rfl (fun c1 => ?_) (fun c1 => ?_)
  · have b2 : B a0 (-2147483648) (-1) := R_ltX (B.any a0) (by decide : B 0 0 0) c1 (by decide)
    refine ev_iconst (v := 0) rfl rfl (by decide) ?_
    exact ev_iret rfl rfl rfl ⟨⟨_, rfl, ⟨((by decide : B 0 0 0).mono (by decide) (by decide)), (fun e_ => absurd rfl e_)⟩⟩, rfl, rfl⟩
  · have b3 : B a0 0 2147483647 := R_leY (by decide : B 0 0 0) (B.any a0) (Int32.not_lt.mp c1) (by decide)
    refine ev_iload_n rfl rfl rfl ?_
    refine ev_aload_n rfl rfl rfl ?_
    refine ev_getW (l := 0) (u := 6) hB rfl rfl rfl fl_X7_20 rfl rfl rfl (fun v4 b4 e4 => ?_)
    refine ev_icmp_ge rfl rfl (fun c5 => ?_) (fun c5 => ?_)
    · refine ev_iconst (v := 0) rfl rfl (by decide) ?_
      exact ev_iret rfl rfl rfl ⟨⟨_, rfl, ⟨((by decide : B 0 0 0).mono (by decide) (by decide)), (fun e_ => absurd rfl e_)⟩⟩, rfl, rfl⟩
    · have b6 : B a0 0 5 := R_ltX b3 b4 (Int32.not_le.mp c5) (by decide)
      have b7 : B v4 1 6 := R_ltY b3 b4 (Int32.not_le.mp c5) (by decide)
      refine ev_iconst (v := 1) rfl rfl (by decide) ?_
      refine ev_goto rfl rfl ?_
      exact ev_iret rfl rfl rfl ⟨⟨_, rfl, ⟨((by decide : B 1 1 1).mono (by decide) (by decide)), (fun _ => b6)⟩⟩, rfl, rfl⟩

set_option maxRecDepth 100000 in
set_option maxHeartbeats 4000000 in
theorem w_X9_isBeat_1_l10 (L : Nat) (b : Bool) (h : Hp) (hB : Bx h) (a0 : Int32) (a1 : Int32) : EvP mi_X9_isBeat [.ref 1, .int a0, .int a1, .int 10] (G0 L b) h (fun r : Int32 => B r 0 1 ∧ (¬ r = 0 → B a0 0 5) ∧ (¬ r = 0 → B a1 10 33)) := by
  refine EvM.of2 (lo := [some (.ref 1), some (.int a0), some (.int a1), some (.int 10)]) pf_X9_isBeat ok_X9_isBeat rfl rfl ?_
  refine ev_aload_n rfl rfl rfl ?_
  refine ev_getR (y := 28) rfl rfl fl_X9_43 rfl rfl rfl rfl ?_
  refine ev_iload_n rfl rfl rfl ?_
  refine ev_V1P rfl rfl lk_X9_195 vt_X7_has rfl rfl rfl rfl rfl (w_X7_has_28 L b h hB a0) (fun r1 q1 => ?_)
  obtain ⟨b1, p1_0⟩ := q1
  refine ev_if_eq rfl rfl (fun c2 => ?_) (fun c2 => ?_)
  · have b3 : B r1 0 0 := R_eqX b1 (by decide : B 0 0 0) c2
    refine ev_iconst (v := 0) rfl rfl (by decide) ?_
    exact ev_iret rfl rfl rfl ⟨⟨_, rfl, ⟨((by decide : B 0 0 0).mono (by decide) (by decide)), (fun e_ => absurd rfl e_), (fun e_ => absurd rfl e_)⟩⟩, rfl, rfl⟩
  · have b4 : B r1 1 1 := R_neL b1 (by decide : B 0 0 0) c2 (by decide)
    have b5 : B a0 0 5 := p1_0 c2
    refine ev_iload_n rfl rfl rfl ?_
    refine ev_iload_n rfl rfl rfl ?_
    refine ev_icmp_lt rfl rfl (fun c6 => ?_) (fun c6 => ?_)
    · have b7 : B a1 (-2147483648) 9 := R_ltX (B.any a1) (by decide : B 10 10 10) c6 (by decide)
      refine ev_iconst (v := 0) rfl rfl (by decide) ?_
      exact ev_iret rfl rfl rfl ⟨⟨_, rfl, ⟨((by decide : B 0 0 0).mono (by decide) (by decide)), (fun e_ => absurd rfl e_), (fun e_ => absurd rfl e_)⟩⟩, rfl, rfl⟩
    · have b8 : B a1 10 2147483647 := R_leY (by decide : B 10 10 10) (B.any a1) (Int32.not_lt.mp c6) (by decide)
      refine ev_iload_n rfl rfl rfl ?_
      refine ev_iload_n rfl rfl rfl ?_
      refine ev_isubB (l := 0) (u := 2147483637) rfl rfl b8 (by decide : B 10 10 10) (by decide) (by decide) (by decide) (by decide) (fun v9 b9 e9 g9 => ?_)
      refine ev_aload_n rfl rfl rfl ?_
      refine ev_getR (y := 28) rfl rfl fl_X9_43 rfl rfl rfl rfl ?_
      refine ev_getR (y := 36) rfl rfl fl_X9_196 rfl rfl rfl rfl ?_
      refine ev_iload_n rfl rfl rfl ?_
      refine ev_ialW (n := 6) (l := 0) (u := 24) hB b5 (by decide) (by decide) (fun _ => rfl) rfl rfl rfl (fun v10 b10 e10 => ?_)
      refine ev_icmp_ge rfl rfl (fun c11 => ?_) (fun c11 => ?_)
      · refine ev_iconst (v := 0) rfl rfl (by decide) ?_
        exact ev_iret rfl rfl rfl ⟨⟨_, rfl, ⟨((by decide : B 0 0 0).mono (by decide) (by decide)), (fun e_ => absurd rfl e_), (fun e_ => absurd rfl e_)⟩⟩, rfl, rfl⟩
      · have b12 : B v9 0 23 := R_ltX b9 b10 (Int32.not_le.mp c11) (by decide)
        have b13 : B a1 10 33 := (R_bks (l' := 10) (u' := 33) e9 b12 (by decide : B 10 10 10) (by decide) (by decide))
        have b14 : B v10 1 24 := R_ltY b9 b10 (Int32.not_le.mp c11) (by decide)
        refine ev_iconst (v := 1) rfl rfl (by decide) ?_
        refine ev_goto rfl rfl ?_
        exact ev_iret rfl rfl rfl ⟨⟨_, rfl, ⟨((by decide : B 1 1 1).mono (by decide) (by decide)), (fun _ => b5), (fun _ => b13)⟩⟩, rfl, rfl⟩

set_option maxRecDepth 100000 in
set_option maxHeartbeats 4000000 in
theorem w_X9_isKey (L : Nat) (b : Bool) (h : Hp) (hB : Bx h) (a0 : Int32) : EvP mi_X9_isKey [.int a0] (G0 L b) h (fun r : Int32 => B r 0 1 ∧ (¬ r = 0 → B a0 (-11) 11)) := by
  refine EvM.of2 (lo := [some (.int a0)]) pf_X9_isKey ok_X9_isKey rfl rfl ?_
  refine ev_iload_n rfl rfl rfl ?_
  refine ev_bipush (v := (-11)) rfl rfl (by decide) ?_
  refine ev_bipush (v := 11) rfl rfl (by decide) ?_
  refine ev_S3P rfl rfl lk_X9_75 st_X9_isWithin rfl rfl (w_isWithin (G0 L b) h a0 (-11) 11 (by decide : B (-11) (-11) (-11)) (by decide : B 11 11 11)) (fun r1 q1 => ?_)
  obtain ⟨b1, p1_0⟩ := q1
  exact ev_iret rfl rfl (ev_rtB b1) ⟨⟨_, rfl, ⟨b1, (fun e_ => (p1_0 e_).mono (by decide) (by decide))⟩⟩, rfl, rfl⟩

set_option maxRecDepth 100000 in
set_option maxHeartbeats 4000000 in
theorem w_X9_tryOut_1 (L : Nat) (b : Bool) (h : Hp) (hB : Bx h) (a0 : Int32) (a1 : Int32) : EvJ mi_X9_tryOut [.ref 1, .int a0, .int a1] (G0 L b) h (fun r : Int32 => B r (-123) 2147483647) [(3, 0), (3, 1), (3, 2), (3, 3), (3, 4)] := by
  refine EvM.of2 (lo := [some (.ref 1), some (.int a0), some (.int a1), none, none, none, none]) pf_X9_tryOut ok_X9_tryOut rfl rfl ?_
  have hJ0 : JW [(3, 0), (3, 1), (3, 2), (3, 3), (3, 4)] h h := JW.refl hB
  refine ev_aload_n rfl rfl rfl ?_
  refine ev_getR (y := 28) rfl rfl fl_X9_43 rfl rfl rfl rfl ?_
  refine ev_iload_n rfl rfl rfl ?_
  refine ev_V1P rfl rfl lk_X9_195 vt_X7_has rfl rfl rfl rfl rfl (w_X7_has_28 L b h hJ0.1 a0) (fun r1 q1 => ?_)
  obtain ⟨b1, p1_0⟩ := q1
  refine ev_if_eq rfl rfl (fun c2 => ?_) (fun c2 => ?_)
  · have b3 : B r1 0 0 := R_eqX b1 (by decide : B 0 0 0) c2
    refine ev_iconst (v := (-1)) rfl rfl (by decide) ?_
    exact ev_iret rfl rfl rfl ⟨⟨_, rfl, ((by decide : B (-1) (-1) (-1)).mono (by decide) (by decide))⟩, rfl, hJ0⟩
  · have b4 : B r1 1 1 := R_neL b1 (by decide : B 0 0 0) c2 (by decide)
    have b5 : B a0 0 5 := p1_0 c2
    refine ev_iload_n rfl rfl rfl ?_
    refine ev_S1P rfl rfl lk_X9_227 st_X9_isKey rfl rfl (w_X9_isKey L b h hJ0.1 a1) (fun r6 q6 => ?_)
    obtain ⟨b6, p6_0⟩ := q6
    refine ev_if_ne rfl rfl (fun c7 => ?_) (fun c7 => ?_)
    · have b8 : B r6 1 1 := R_neL b6 (by decide : B 0 0 0) c7 (by decide)
      have b9 : B a1 (-11) 11 := p6_0 c7
      refine ev_aload_n rfl rfl rfl ?_
      refine ev_getR (y := 28) rfl rfl fl_X9_43 rfl rfl rfl rfl ?_
      refine ev_iload_n rfl rfl rfl ?_
      refine ev_iload_n rfl rfl rfl ?_
      refine ev_aload_n rfl rfl rfl ?_
      refine ev_getR (y := 4) rfl rfl fl_X9_22 rfl rfl rfl rfl ?_
      refine ev_getW (l := 0) (u := 12) hJ0.1 rfl rfl rfl fl_X9_158 rfl rfl rfl (fun v11 b11 e11 => ?_)
      refine ev_V3P rfl rfl lk_X9_230 vt_X7_goes rfl rfl rfl rfl rfl (w_X7_goes_28 L b h hJ0.1 a0 b5 a1 v11) (fun r12 q12 => ?_)
      refine ev_if_ne rfl rfl (fun c13 => ?_) (fun c13 => ?_)
      · have b14 : B r12 1 1 := R_neL q12 (by decide : B 0 0 0) c13 (by decide)
        refine ev_aload_n rfl rfl rfl ?_
        refine ev_getR (y := 3) rfl rfl fl_X9_16 rfl rfl rfl rfl ?_
        refine ev_aload_n rfl rfl rfl ?_
        refine ev_getR (y := 2) rfl rfl fl_X9_10 rfl rfl rfl rfl ?_
        refine ev_V1N hJ0 rfl rfl rfl lk_X9_220 vt_X1_copyFrom rfl rfl rfl rfl rfl (w_X1_copyFrom_3_2 L b h hJ0.1 ) (fun h16 hJ16 k16  => ?_)
        refine ev_iconst (v := 0) rfl rfl (by decide) ?_
        refine ev_istore_n rfl rfl rfl rfl ?_
        dsimp only [List.set]
        refine ev_iconst (v := 0) rfl rfl (by decide) ?_
        refine ev_istore rfl rfl rfl rfl ?_
        dsimp only [List.set]
        have lp58_131 : ∀ (n : Nat) (w132 : Int32) (w133 : Int32) (h136 : Hp), B w132 0 2147483647 → B w133 0 24 → JW [(3, 0), (3, 1), (3, 2), (3, 3), (3, 4)] h h136 → (h136 4 7 = v11) → 24 + 1 - w133.toInt ≤ (n : Int) → EvQ mi_X9_tryOut 58 [some (.ref 1), some (.int a0), some (.int a1), some (.int w132), some (.int w133), none, none] [] (G0 L b) h136 0 0 (QJ (fun r : Int32 => B r (-123) 2147483647) [(3, 0), (3, 1), (3, 2), (3, 3), (3, 4)] (G0 L b) h) := by
          intro n
          induction n with
          | zero =>
            intro w132 w133 h136 b134 b135 hJ137 z138 hm58
            exact absurd hm58 (L_zero b135 (by decide))
          | succ n ih58 =>
            intro w132 w133 h136 b134 b135 hJ137 z138 hm58
            refine ev_iload rfl rfl rfl ?_
            refine ev_aload_n rfl rfl rfl ?_
            refine ev_getR (y := 28) rfl rfl fl_X9_43 rfl rfl rfl rfl ?_
            refine ev_getR (y := 36) rfl rfl fl_X9_196 rfl rfl rfl rfl ?_
            refine ev_iload_n rfl rfl rfl ?_
            refine ev_ialW (n := 6) (l := 0) (u := 24) hJ137.1 b5 (by decide) (by decide) (fun _ => rfl) rfl rfl rfl (fun v139 b139 e139 => ?_)
            refine ev_icmp_ge rfl rfl (fun c140 => ?_) (fun c140 => ?_)
            · refine ev_iload_n rfl rfl rfl ?_
              exact ev_iret rfl rfl rfl ⟨⟨_, rfl, (b134.mono (by decide) (by decide))⟩, rfl, hJ137⟩
            · have b141 : B w133 0 23 := R_ltX b135 b139 (Int32.not_le.mp c140) (by decide)
              have b142 : B v139 1 24 := R_ltY b135 b139 (Int32.not_le.mp c140) (by decide)
              refine ev_aload_n rfl rfl rfl ?_
              refine ev_getR (y := 28) rfl rfl fl_X9_43 rfl rfl rfl rfl ?_
              refine ev_iload_n rfl rfl rfl ?_
              refine ev_iload rfl rfl rfl ?_
              refine ev_iload_n rfl rfl rfl ?_
              refine ev_V3P rfl rfl lk_X9_352 vt_X7_chordIn rfl rfl rfl rfl rfl (w_X7_chordIn_28 L b h136 hJ137.1 a0 b5 w133 b141 a1) (fun r143 q143 => ?_)
              refine ev_istore rfl rfl rfl rfl ?_
              dsimp only [List.set]
              refine ev_aload_n rfl rfl rfl ?_
              refine ev_getR (y := 4) rfl rfl fl_X9_22 rfl rfl rfl rfl ?_
              refine ev_iload rfl rfl rfl ?_
              refine ev_aload_n rfl rfl rfl ?_
              refine ev_getR (y := 4) rfl rfl fl_X9_22 rfl rfl rfl rfl ?_
              refine ev_getW (l := (-2147483648)) (u := 2147483647) hJ137.1 rfl rfl rfl fl_X9_105 rfl rfl rfl (fun v144 b144 e144 => ?_)
              refine ev_V2P rfl rfl lk_X9_108 vt_X8_drawnBy rfl rfl rfl rfl rfl (w_X8_drawnBy_4 L b h136 hJ137.1 r143 v144) (fun r145 q145 => ?_)
              refine ev_istore rfl rfl rfl rfl ?_
              dsimp only [List.set]
              refine ev_iload rfl rfl rfl ?_
              refine ev_aload_n rfl rfl rfl ?_
              refine ev_getR (y := 3) rfl rfl fl_X9_16 rfl rfl rfl rfl ?_
              refine ev_getW (l := (-2147483648)) (u := 2147483647) hJ137.1 rfl rfl rfl fl_X9_87 rfl rfl rfl (fun v146 b146 e146 => ?_)
              refine ev_icmp_le rfl rfl (fun c147 => ?_) (fun c147 => ?_)
              · refine ev_iload_n rfl rfl rfl ?_
                refine ev_aload_n rfl rfl rfl ?_
                refine ev_getR (y := 4) rfl rfl fl_X9_22 rfl rfl rfl rfl ?_
                refine ev_iload rfl rfl rfl ?_
                refine ev_aload_n rfl rfl rfl ?_
                refine ev_getR (y := 3) rfl rfl fl_X9_16 rfl rfl rfl rfl ?_
                refine ev_getW (l := 0) (u := 200) hJ137.1 rfl rfl rfl fl_X9_99 rfl rfl rfl (fun v150 b150 e150 => ?_)
                refine ev_V2P rfl rfl lk_X9_115 vt_X8_strayOf rfl rfl rfl rfl rfl (w_X8_strayOf_4 L b h136 hJ137.1 r143 v150) (fun r151 q151 => ?_)
                refine ev_S2P rfl rfl lk_X9_356 st_J9_max_7cf53 rfl rfl (w_max (l := 0) (u := 2147483647) (G0 L b) h136 w132 r151 b134 q151 (Or.inl (by decide)) (by decide) (by decide)) (fun r152 q152 => ?_)
                refine ev_istore_n rfl rfl rfl rfl ?_
                dsimp only [List.set]
                refine ev_aload_n rfl rfl rfl ?_
                refine ev_getR (y := 3) rfl rfl fl_X9_16 rfl rfl rfl rfl ?_
                refine ev_iload rfl rfl rfl ?_
                refine ev_V1N hJ137 rfl rfl rfl lk_X9_118 vt_X1_pass rfl rfl rfl rfl rfl (w_X1_pass_3 L b h136 hJ137.1 r145) (fun h153 hJ153 k153  => ?_)
                refine ev_iincB (y := 1) (l := 1) (u := 24) rfl rfl rfl (by decide) rfl rfl b141 (by decide : B 1 1 1) (by decide) (by decide) (by decide) (by decide) (fun v154 b154 e154 => ?_)
                dsimp only [List.set]
                refine ev_goto rfl rfl ?_
                exact (EvQ.drop 6 (EvQ.drop 5 (ih58 r152 v154 h153 q152 (b154.mono (by decide) (by decide)) hJ153 (rd_w k153 z138 rfl) (L_up hm58 (e_p1 e154 (by decide))))))
              · have b148 : B r145 (-2147483647) 2147483647 := R_ltY (B.any v146) (B.any r145) (Int32.not_le.mp c147) (by decide)
                have b149 : B v146 (-2147483648) 2147483646 := R_ltX (B.any v146) (B.any r145) (Int32.not_le.mp c147) (by decide)
                refine ev_bipush (v := (-100)) rfl rfl (by decide) ?_
                refine ev_iload rfl rfl rfl ?_
                refine ev_isubB (l := -123) (u := -100) rfl rfl (by decide : B (-100) (-100) (-100)) b141 (by decide) (by decide) (by decide) (by decide) (fun v155 b155 e155 g155 => ?_)
                exact ev_iret rfl rfl rfl ⟨⟨_, rfl, (b155.mono (by decide) (by decide))⟩, rfl, hJ137⟩
        exact (lp58_131 25 0 0 h16 ((by decide : B 0 0 0).mono (by decide) (by decide)) ((by decide : B 0 0 0).mono (by decide) (by decide)) hJ16 (rd_w k16 e11 rfl) (L_init (by decide : B 0 0 0) (by decide)))
      · have b15 : B r12 0 0 := R_eqX q12 (by decide : B 0 0 0) c13
        refine ev_bipush (v := (-2)) rfl rfl (by decide) ?_
        exact ev_iret rfl rfl rfl ⟨⟨_, rfl, ((by decide : B (-2) (-2) (-2)).mono (by decide) (by decide))⟩, rfl, hJ0⟩
    · have b10 : B r6 0 0 := R_eqX b6 (by decide : B 0 0 0) c7
      refine ev_iconst (v := (-1)) rfl rfl (by decide) ?_
      exact ev_iret rfl rfl rfl ⟨⟨_, rfl, ((by decide : B (-1) (-1) (-1)).mono (by decide) (by decide))⟩, rfl, hJ0⟩

set_option maxRecDepth 100000 in
set_option maxHeartbeats 4000000 in
theorem w_X9_play_1 (L : Nat) (b : Bool) (h : Hp) (hB : Bx h) (a0 : Int32) (a1 : Int32) : EvJ mi_X9_play [.ref 1, .int a0, .int a1] (G0 L b) h (fun r : Int32 => B r (-123) 2147483647) [(2, 0), (2, 1), (2, 2), (2, 3), (2, 4), (3, 0), (3, 1), (3, 2), (3, 3), (3, 4), (11, 1), (11, 2), (11, 3), (13, 999), (14, 999), (15, 999), (16, 999), (17, 999), (18, 999), (19, 999), (20, 999), (21, 999), (22, 999)] := by
  refine EvM.of2 (lo := [some (.ref 1), some (.int a0), some (.int a1), none, none]) pf_X9_play ok_X9_play rfl rfl ?_
  have hJ0 : JW [(2, 0), (2, 1), (2, 2), (2, 3), (2, 4), (3, 0), (3, 1), (3, 2), (3, 3), (3, 4), (11, 1), (11, 2), (11, 3), (13, 999), (14, 999), (15, 999), (16, 999), (17, 999), (18, 999), (19, 999), (20, 999), (21, 999), (22, 999)] h h := JW.refl hB
  refine ev_aload_n rfl rfl rfl ?_
  refine ev_iload_n rfl rfl rfl ?_
  refine ev_iload_n rfl rfl rfl ?_
  refine ev_V2J hJ0 rfl rfl rfl lk_X9_217 vt_X9_tryOut rfl rfl rfl rfl rfl (w_X9_tryOut_1 L b h hJ0.1 a0 a1) (fun r1 h1 q1 hJ1 k1 => ?_)
  refine ev_istore_n rfl rfl rfl rfl ?_
  dsimp only [List.set]
  refine ev_iload_n rfl rfl rfl ?_
  refine ev_if_ge rfl rfl (fun c2 => ?_) (fun c2 => ?_)
  · have b3 : B r1 0 2147483647 := R_leY (by decide : B 0 0 0) q1 c2 (by decide)
    refine ev_iconst (v := 1) rfl rfl (by decide) ?_
    refine ev_goto rfl rfl ?_
    refine ev_istore rfl rfl rfl rfl ?_
    dsimp only [List.set]
    refine ev_iload rfl rfl rfl ?_
    refine ev_if_eq rfl rfl (fun c5 => absurd c5 (D_ne (by decide : B 1 1 1) (by decide : B 0 0 0) (by decide))) (fun c5 => ?_)
    refine ev_aload_n rfl rfl rfl ?_
    refine ev_getR (y := 11) rfl rfl fl_X9_29 rfl rfl rfl rfl ?_
    refine ev_aload_n rfl rfl rfl ?_
    refine ev_getR (y := 2) rfl rfl fl_X9_10 rfl rfl rfl rfl ?_
    refine ev_aload_n rfl rfl rfl ?_
    refine ev_getR (y := 4) rfl rfl fl_X9_22 rfl rfl rfl rfl ?_
    refine ev_V2N hJ1 rfl rfl rfl lk_X9_79 vt_X0_keep rfl rfl rfl rfl rfl (w_X0_keep_11_2_4 L b h1 hJ1.1 ) (fun h6 hJ6 k6  => ?_)
    refine ev_aload_n rfl rfl rfl ?_
    refine ev_getR (y := 2) rfl rfl fl_X9_10 rfl rfl rfl rfl ?_
    refine ev_aload_n rfl rfl rfl ?_
    refine ev_getR (y := 3) rfl rfl fl_X9_16 rfl rfl rfl rfl ?_
    refine ev_V1N hJ6 rfl rfl rfl lk_X9_220 vt_X1_copyFrom rfl rfl rfl rfl rfl (w_X1_copyFrom_2_3 L b h6 hJ6.1 ) (fun h7 hJ7 k7  => ?_)
    refine ev_iload_n rfl rfl rfl ?_
    exact ev_iret rfl rfl rfl ⟨⟨_, rfl, (b3.mono (by decide) (by decide))⟩, rfl, hJ7⟩
  · have b4 : B r1 (-123) (-1) := R_ltX q1 (by decide : B 0 0 0) (Int32.not_le.mp c2) (by decide)
    refine ev_iload_n rfl rfl rfl ?_
    refine ev_bipush (v := (-100)) rfl rfl (by decide) ?_
    refine ev_icmp_ge rfl rfl (fun c8 => ?_) (fun c8 => ?_)
    · have b9 : B r1 (-100) (-1) := R_leY (by decide : B (-100) (-100) (-100)) b4 c8 (by decide)
      refine ev_iconst (v := 0) rfl rfl (by decide) ?_
      refine ev_istore rfl rfl rfl rfl ?_
      dsimp only [List.set]
      refine ev_iload rfl rfl rfl ?_
      refine ev_if_eq rfl rfl (fun c11 => ?_) (fun c11 => absurd (D_eq (by decide : B 0 0 0) (by decide : B 0 0 0)) c11)
      refine ev_iload_n rfl rfl rfl ?_
      exact ev_iret rfl rfl rfl ⟨⟨_, rfl, (b9.mono (by decide) (by decide))⟩, rfl, hJ1⟩
    · have b10 : B r1 (-123) (-101) := R_ltX b4 (by decide : B (-100) (-100) (-100)) (Int32.not_le.mp c8) (by decide)
      refine ev_iconst (v := 1) rfl rfl (by decide) ?_
      refine ev_goto rfl rfl ?_
      refine ev_istore rfl rfl rfl rfl ?_
      dsimp only [List.set]
      refine ev_iload rfl rfl rfl ?_
      refine ev_if_eq rfl rfl (fun c12 => absurd c12 (D_ne (by decide : B 1 1 1) (by decide : B 0 0 0) (by decide))) (fun c12 => ?_)
      refine ev_aload_n rfl rfl rfl ?_
      refine ev_getR (y := 11) rfl rfl fl_X9_29 rfl rfl rfl rfl ?_
      refine ev_aload_n rfl rfl rfl ?_
      refine ev_getR (y := 2) rfl rfl fl_X9_10 rfl rfl rfl rfl ?_
      refine ev_aload_n rfl rfl rfl ?_
      refine ev_getR (y := 4) rfl rfl fl_X9_22 rfl rfl rfl rfl ?_
      refine ev_V2N hJ1 rfl rfl rfl lk_X9_79 vt_X0_keep rfl rfl rfl rfl rfl (w_X0_keep_11_2_4 L b h1 hJ1.1 ) (fun h13 hJ13 k13  => ?_)
      refine ev_aload_n rfl rfl rfl ?_
      refine ev_getR (y := 2) rfl rfl fl_X9_10 rfl rfl rfl rfl ?_
      refine ev_aload_n rfl rfl rfl ?_
      refine ev_getR (y := 3) rfl rfl fl_X9_16 rfl rfl rfl rfl ?_
      refine ev_V1N hJ13 rfl rfl rfl lk_X9_220 vt_X1_copyFrom rfl rfl rfl rfl rfl (w_X1_copyFrom_2_3 L b h13 hJ13.1 ) (fun h14 hJ14 k14  => ?_)
      refine ev_iload_n rfl rfl rfl ?_
      exact ev_iret rfl rfl rfl ⟨⟨_, rfl, (b10.mono (by decide) (by decide))⟩, rfl, hJ14⟩

set_option maxRecDepth 100000 in
set_option maxHeartbeats 4000000 in
theorem w_X9_would_1 (L : Nat) (b : Bool) (h : Hp) (hB : Bx h) (a0 : Int32) (a1 : Int32) : EvJ mi_X9_would [.ref 1, .int a0, .int a1] (G0 L b) h (fun r : Int32 => B r (-123) 2147483647) [(3, 0), (3, 1), (3, 2), (3, 3), (3, 4)] := by
  refine EvM.of2 (lo := [some (.ref 1), some (.int a0), some (.int a1)]) pf_X9_would ok_X9_would rfl rfl ?_
  have hJ0 : JW [(3, 0), (3, 1), (3, 2), (3, 3), (3, 4)] h h := JW.refl hB
  refine ev_aload_n rfl rfl rfl ?_
  refine ev_iload_n rfl rfl rfl ?_
  refine ev_iload_n rfl rfl rfl ?_
  refine ev_V2J hJ0 rfl rfl rfl lk_X9_217 vt_X9_tryOut rfl rfl rfl rfl rfl (w_X9_tryOut_1 L b h hJ0.1 a0 a1) (fun r1 h1 q1 hJ1 k1 => ?_)
  exact ev_iret rfl rfl rfl ⟨⟨_, rfl, q1⟩, rfl, hJ1⟩

set_option maxRecDepth 100000 in
set_option maxHeartbeats 4000000 in
theorem w_X9_key_1 (L : Nat) (b : Bool) (h : Hp) (hB : Bx h) (a0 : Int32) (a1 : Int32) : EvJ mi_X9_key [.ref 1, .int a0, .int a1] (G0 L b) h (fun r : Int32 => B r (-2147483648) 2147483647) [(3, 0), (3, 1), (3, 2), (3, 3), (3, 4)] := by
  refine EvM.of2 (lo := [some (.ref 1), some (.int a0), some (.int a1), none, none, none, none, none, none, none]) pf_X9_key ok_X9_key rfl rfl ?_
  have hJ0 : JW [(3, 0), (3, 1), (3, 2), (3, 3), (3, 4)] h h := JW.refl hB
  refine ev_aload_n rfl rfl rfl ?_
  refine ev_getR (y := 28) rfl rfl fl_X9_43 rfl rfl rfl rfl ?_
  refine ev_iload_n rfl rfl rfl ?_
  refine ev_V1P rfl rfl lk_X9_195 vt_X7_has rfl rfl rfl rfl rfl (w_X7_has_28 L b h hJ0.1 a0) (fun r1 q1 => ?_)
  obtain ⟨b1, p1_0⟩ := q1
  refine ev_if_eq rfl rfl (fun c2 => ?_) (fun c2 => ?_)
  · have b3 : B r1 0 0 := R_eqX b1 (by decide : B 0 0 0) c2
    refine ev_bipush (v := (-100)) rfl rfl (by decide) ?_
    exact ev_iret rfl rfl rfl ⟨⟨_, rfl, ((by decide : B (-100) (-100) (-100)).mono (by decide) (by decide))⟩, rfl, hJ0⟩
  · have b4 : B r1 1 1 := R_neL b1 (by decide : B 0 0 0) c2 (by decide)
    have b5 : B a0 0 5 := p1_0 c2
    refine ev_iload_n rfl rfl rfl ?_
    refine ev_iconst (v := 0) rfl rfl (by decide) ?_
    refine ev_iconst (v := 2) rfl rfl (by decide) ?_
    refine ev_S3P rfl rfl lk_X9_75 st_X9_isWithin rfl rfl (w_isWithin (G0 L b) h a1 0 2 (by decide : B 0 0 0) (by decide : B 2 2 2)) (fun r6 q6 => ?_)
    obtain ⟨b6, p6_0⟩ := q6
    refine ev_if_ne rfl rfl (fun c7 => ?_) (fun c7 => ?_)
    · have b8 : B r6 1 1 := R_neL b6 (by decide : B 0 0 0) c7 (by decide)
      have b9 : B a1 0 2 := p6_0 c7
      refine ev_iconst (v := 0) rfl rfl (by decide) ?_
      refine ev_istore_n rfl rfl rfl rfl ?_
      dsimp only [List.set]
      refine ev_bipush (v := (-104)) rfl rfl (by decide) ?_
      refine ev_istore rfl rfl rfl rfl ?_
      dsimp only [List.set]
      refine ev_bipush (v := (-104)) rfl rfl (by decide) ?_
      refine ev_istore rfl rfl rfl rfl ?_
      dsimp only [List.set]
      refine ev_bipush (v := (-11)) rfl rfl (by decide) ?_
      refine ev_istore rfl rfl rfl rfl ?_
      dsimp only [List.set]
      have lp37_1062 : ∀ (n : Nat) (w1063 : Int32) (w1064 : Int32) (w1065 : Int32) (w1066 : Int32) (h1070 : Hp), B w1064 (-104) 12 → B w1065 (-104) 2147483647 → B w1066 (-11) 12 → JW [(3, 0), (3, 1), (3, 2), (3, 3), (3, 4)] h h1070 → 12 + 1 - w1066.toInt ≤ (n : Int) → EvQ mi_X9_key 37 [some (.ref 1), some (.int a0), some (.int a1), some (.int w1063), some (.int w1064), some (.int w1065), some (.int w1066), none, none, none] [] (G0 L b) h1070 0 0 (QJ (fun r : Int32 => B r (-2147483648) 2147483647) [(3, 0), (3, 1), (3, 2), (3, 3), (3, 4)] (G0 L b) h) := by
        intro n
        induction n with
        | zero =>
          intro w1063 w1064 w1065 w1066 h1070 b1067 b1068 b1069 hJ1071 hm37
          exact absurd hm37 (L_zero b1069 (by decide))
        | succ n ih37 =>
          intro w1063 w1064 w1065 w1066 h1070 b1067 b1068 b1069 hJ1071 hm37
          refine ev_iload rfl rfl rfl ?_
          refine ev_bipush (v := 11) rfl rfl (by decide) ?_
          refine ev_icmp_gt rfl rfl (fun c1072 => ?_) (fun c1072 => ?_)
          · have b1073 : B w1066 12 12 := R_ltY (by decide : B 11 11 11) b1069 c1072 (by decide)
            refine ev_iload_n rfl rfl rfl ?_
            refine ev_iconst (v := 2) rfl rfl (by decide) ?_
            refine ev_icmp_ne rfl rfl (fun c1075 => ?_) (fun c1075 => ?_)
            · have b1076 : B a1 0 1 := R_neU b9 (by decide : B 2 2 2) c1075 (by decide)
              refine ev_iload_n rfl rfl rfl ?_
              refine ev_if_ne rfl rfl (fun c1078 => ?_) (fun c1078 => ?_)
              · have b1079 : B a1 1 1 := R_neL b1076 (by decide : B 0 0 0) c1078 (by decide)
                refine ev_iload rfl rfl rfl ?_
                exact ev_iret rfl rfl rfl ⟨⟨_, rfl, (b1068.mono (by decide) (by decide))⟩, rfl, hJ1071⟩
              · have b1080 : B a1 0 0 := R_eqX b1076 (by decide : B 0 0 0) c1078
                refine ev_iload rfl rfl rfl ?_
                refine ev_goto rfl rfl ?_
                exact ev_iret rfl rfl rfl ⟨⟨_, rfl, (b1067.mono (by decide) (by decide))⟩, rfl, hJ1071⟩
            · have b1077 : B a1 2 2 := R_eqX b9 (by decide : B 2 2 2) c1075
              refine ev_iload_n rfl rfl rfl ?_
              exact ev_iret rfl rfl rfl ⟨⟨_, rfl, (B.any w1063)⟩, rfl, hJ1071⟩
          · have b1074 : B w1066 (-11) 11 := R_leX b1069 (by decide : B 11 11 11) (Int32.not_lt.mp c1072) (by decide)
            refine ev_aload_n rfl rfl rfl ?_
            refine ev_iload_n rfl rfl rfl ?_
            refine ev_iload rfl rfl rfl ?_
            refine ev_V2J hJ1071 rfl rfl rfl lk_X9_217 vt_X9_tryOut rfl rfl rfl rfl rfl (w_X9_tryOut_1 L b h1070 hJ1071.1 a0 w1066) (fun r1081 h1081 q1081 hJ1081 k1081 => ?_)
            refine ev_istore rfl rfl rfl rfl ?_
            dsimp only [List.set]
            refine ev_iload_n rfl rfl rfl ?_
            refine ev_iload rfl rfl rfl ?_
            refine ev_bipush (v := (-2)) rfl rfl (by decide) ?_
            refine ev_icmp_ne rfl rfl (fun c1082 => ?_) (fun c1082 => ?_)
            · refine ev_iconst (v := 1) rfl rfl (by decide) ?_
              refine ev_iaddA rfl rfl (fun v1084 g1084 => ?_)
              refine ev_istore_n rfl rfl rfl rfl ?_
              dsimp only [List.set]
              refine ev_iload rfl rfl rfl ?_
              refine ev_bipush (v := (-104)) rfl rfl (by decide) ?_
              refine ev_icmp_ne rfl rfl (fun c1085 => ?_) (fun c1085 => ?_)
              · have b1086 : B w1064 (-103) 12 := R_neL b1067 (by decide : B (-104) (-104) (-104)) c1085 (by decide)
                refine ev_iconst (v := 0) rfl rfl (by decide) ?_
                refine ev_istore rfl rfl rfl rfl ?_
                dsimp only [List.set]
                refine ev_iload rfl rfl rfl ?_
                refine ev_iload rfl rfl rfl ?_
                refine ev_icmp_ne rfl rfl (fun c1088 => ?_) (fun c1088 => ?_)
                · refine ev_iconst (v := 0) rfl rfl (by decide) ?_
                  refine ev_istore rfl rfl rfl rfl ?_
                  dsimp only [List.set]
                  refine ev_iload rfl rfl rfl ?_
                  refine ev_if_lt rfl rfl (fun c1090 => ?_) (fun c1090 => ?_)
                  · have b1091 : B r1081 (-123) (-1) := R_ltX q1081 (by decide : B 0 0 0) c1090 (by decide)
                    refine ev_iincB (y := 1) (l := -10) (u := 12) rfl rfl rfl (by decide) rfl rfl b1074 (by decide : B 1 1 1) (by decide) (by decide) (by decide) (by decide) (fun v1093 b1093 e1093 => ?_)
                    dsimp only [List.set]
                    refine ev_goto rfl rfl ?_
                    exact (EvQ.drop 9 (EvQ.drop 8 (EvQ.drop 7 (ih37 v1084 w1064 w1065 v1093 h1081 (b1086.mono (by decide) (by decide)) b1068 (b1093.mono (by decide) (by decide)) hJ1081 (L_up hm37 (e_p1 e1093 (by decide)))))))
                  · have b1092 : B r1081 0 2147483647 := R_leY (by decide : B 0 0 0) q1081 (Int32.not_lt.mp c1090) (by decide)
                    refine ev_iload rfl rfl rfl ?_
                    refine ev_if_ne rfl rfl (fun c1094 => absurd (D_eq (by decide : B 0 0 0) (by decide : B 0 0 0)) c1094) (fun c1094 => ?_)
                    refine ev_iload rfl rfl rfl ?_
                    refine ev_iload rfl rfl rfl ?_
                    refine ev_icmp_lt rfl rfl (fun c1095 => ?_) (fun c1095 => ?_)
                    · have b1096 : B r1081 0 2147483646 := R_ltX b1092 b1068 c1095 (by decide)
                      have b1097 : B w1065 1 2147483647 := R_ltY b1092 b1068 c1095 (by decide)
                      refine ev_iload rfl rfl rfl ?_
                      refine ev_istore rfl rfl rfl rfl ?_
                      dsimp only [List.set]
                      refine ev_iload rfl rfl rfl ?_
                      refine ev_istore rfl rfl rfl rfl ?_
                      dsimp only [List.set]
                      refine ev_iincB (y := 1) (l := -10) (u := 12) rfl rfl rfl (by decide) rfl rfl b1074 (by decide : B 1 1 1) (by decide) (by decide) (by decide) (by decide) (fun v1098 b1098 e1098 => ?_)
                      dsimp only [List.set]
                      refine ev_goto rfl rfl ?_
                      exact (EvQ.drop 9 (EvQ.drop 8 (EvQ.drop 7 (ih37 v1084 w1066 r1081 v1098 h1081 (b1074.mono (by decide) (by decide)) (b1096.mono (by decide) (by decide)) (b1098.mono (by decide) (by decide)) hJ1081 (L_up hm37 (e_p1 e1098 (by decide)))))))
                    · refine ev_iload rfl rfl rfl ?_
                      refine ev_if_eq rfl rfl (fun c1099 => ?_) (fun c1099 => absurd (D_eq (by decide : B 0 0 0) (by decide : B 0 0 0)) c1099)
                      refine ev_iincB (y := 1) (l := -10) (u := 12) rfl rfl rfl (by decide) rfl rfl b1074 (by decide : B 1 1 1) (by decide) (by decide) (by decide) (by decide) (fun v1100 b1100 e1100 => ?_)
                      dsimp only [List.set]
                      refine ev_goto rfl rfl ?_
                      exact (EvQ.drop 9 (EvQ.drop 8 (EvQ.drop 7 (ih37 v1084 w1064 w1065 v1100 h1081 (b1086.mono (by decide) (by decide)) b1068 (b1100.mono (by decide) (by decide)) hJ1081 (L_up hm37 (e_p1 e1100 (by decide)))))))
                · have b1089 : B r1081 (-104) 2147483647 := R_eqX q1081 b1068 c1088
                  refine ev_iload rfl rfl rfl ?_
                  refine ev_S1P rfl rfl lk_X9_224 st_J9_abs_0f7a4 rfl rfl (w_any (c_abs (G0 L b) h1081 w1066)) (fun r1101 q1101 => ?_)
                  refine ev_iload rfl rfl rfl ?_
                  refine ev_S1P rfl rfl lk_X9_224 st_J9_abs_0f7a4 rfl rfl (w_any (c_abs (G0 L b) h1081 w1064)) (fun r1102 q1102 => ?_)
                  refine ev_icmp_ge rfl rfl (fun c1103 => ?_) (fun c1103 => ?_)
                  · refine ev_iconst (v := 0) rfl rfl (by decide) ?_
                    refine ev_istore rfl rfl rfl rfl ?_
                    dsimp only [List.set]
                    refine ev_iload rfl rfl rfl ?_
                    refine ev_if_lt rfl rfl (fun c1106 => ?_) (fun c1106 => ?_)
                    · have b1107 : B r1081 (-104) (-1) := R_ltX b1089 (by decide : B 0 0 0) c1106 (by decide)
                      refine ev_iincB (y := 1) (l := -10) (u := 12) rfl rfl rfl (by decide) rfl rfl b1074 (by decide : B 1 1 1) (by decide) (by decide) (by decide) (by decide) (fun v1109 b1109 e1109 => ?_)
                      dsimp only [List.set]
                      refine ev_goto rfl rfl ?_
                      exact (EvQ.drop 9 (EvQ.drop 8 (EvQ.drop 7 (ih37 v1084 w1064 w1065 v1109 h1081 (b1086.mono (by decide) (by decide)) b1068 (b1109.mono (by decide) (by decide)) hJ1081 (L_up hm37 (e_p1 e1109 (by decide)))))))
                    · have b1108 : B r1081 0 2147483647 := R_leY (by decide : B 0 0 0) b1089 (Int32.not_lt.mp c1106) (by decide)
                      refine ev_iload rfl rfl rfl ?_
                      refine ev_if_ne rfl rfl (fun c1110 => absurd (D_eq (by decide : B 0 0 0) (by decide : B 0 0 0)) c1110) (fun c1110 => ?_)
                      refine ev_iload rfl rfl rfl ?_
                      refine ev_iload rfl rfl rfl ?_
                      refine ev_icmp_lt rfl rfl (fun c1111 => ?_) (fun c1111 => ?_)
                      · have b1112 : B r1081 0 2147483646 := R_ltX b1108 b1068 c1111 (by decide)
                        have b1113 : B w1065 1 2147483647 := R_ltY b1108 b1068 c1111 (by decide)
                        refine ev_iload rfl rfl rfl ?_
                        refine ev_istore rfl rfl rfl rfl ?_
                        dsimp only [List.set]
                        refine ev_iload rfl rfl rfl ?_
                        refine ev_istore rfl rfl rfl rfl ?_
                        dsimp only [List.set]
                        refine ev_iincB (y := 1) (l := -10) (u := 12) rfl rfl rfl (by decide) rfl rfl b1074 (by decide : B 1 1 1) (by decide) (by decide) (by decide) (by decide) (fun v1114 b1114 e1114 => ?_)
                        dsimp only [List.set]
                        refine ev_goto rfl rfl ?_
                        exact (EvQ.drop 9 (EvQ.drop 8 (EvQ.drop 7 (ih37 v1084 w1066 r1081 v1114 h1081 (b1074.mono (by decide) (by decide)) (b1112.mono (by decide) (by decide)) (b1114.mono (by decide) (by decide)) hJ1081 (L_up hm37 (e_p1 e1114 (by decide)))))))
                      · refine ev_iload rfl rfl rfl ?_
                        refine ev_if_eq rfl rfl (fun c1115 => ?_) (fun c1115 => absurd (D_eq (by decide : B 0 0 0) (by decide : B 0 0 0)) c1115)
                        refine ev_iincB (y := 1) (l := -10) (u := 12) rfl rfl rfl (by decide) rfl rfl b1074 (by decide : B 1 1 1) (by decide) (by decide) (by decide) (by decide) (fun v1116 b1116 e1116 => ?_)
                        dsimp only [List.set]
                        refine ev_goto rfl rfl ?_
                        exact (EvQ.drop 9 (EvQ.drop 8 (EvQ.drop 7 (ih37 v1084 w1064 w1065 v1116 h1081 (b1086.mono (by decide) (by decide)) b1068 (b1116.mono (by decide) (by decide)) hJ1081 (L_up hm37 (e_p1 e1116 (by decide)))))))
                  · have b1104 : B r1101 (-2147483648) 2147483646 := R_ltX (B.any r1101) (B.any r1102) (Int32.not_le.mp c1103) (by decide)
                    have b1105 : B r1102 (-2147483647) 2147483647 := R_ltY (B.any r1101) (B.any r1102) (Int32.not_le.mp c1103) (by decide)
                    refine ev_iconst (v := 1) rfl rfl (by decide) ?_
                    refine ev_goto rfl rfl ?_
                    refine ev_istore rfl rfl rfl rfl ?_
                    dsimp only [List.set]
                    refine ev_iload rfl rfl rfl ?_
                    refine ev_if_lt rfl rfl (fun c1117 => ?_) (fun c1117 => ?_)
                    · have b1118 : B r1081 (-104) (-1) := R_ltX b1089 (by decide : B 0 0 0) c1117 (by decide)
                      refine ev_iincB (y := 1) (l := -10) (u := 12) rfl rfl rfl (by decide) rfl rfl b1074 (by decide : B 1 1 1) (by decide) (by decide) (by decide) (by decide) (fun v1120 b1120 e1120 => ?_)
                      dsimp only [List.set]
                      refine ev_goto rfl rfl ?_
                      exact (EvQ.drop 9 (EvQ.drop 8 (EvQ.drop 7 (ih37 v1084 w1064 w1065 v1120 h1081 (b1086.mono (by decide) (by decide)) b1068 (b1120.mono (by decide) (by decide)) hJ1081 (L_up hm37 (e_p1 e1120 (by decide)))))))
                    · have b1119 : B r1081 0 2147483647 := R_leY (by decide : B 0 0 0) b1089 (Int32.not_lt.mp c1117) (by decide)
                      refine ev_iload rfl rfl rfl ?_
                      refine ev_if_ne rfl rfl (fun c1121 => absurd (D_eq (by decide : B 0 0 0) (by decide : B 0 0 0)) c1121) (fun c1121 => ?_)
                      refine ev_iload rfl rfl rfl ?_
                      refine ev_iload rfl rfl rfl ?_
                      refine ev_icmp_lt rfl rfl (fun c1122 => ?_) (fun c1122 => ?_)
                      · have b1123 : B r1081 0 2147483646 := R_ltX b1119 b1068 c1122 (by decide)
                        have b1124 : B w1065 1 2147483647 := R_ltY b1119 b1068 c1122 (by decide)
                        refine ev_iload rfl rfl rfl ?_
                        refine ev_istore rfl rfl rfl rfl ?_
                        dsimp only [List.set]
                        refine ev_iload rfl rfl rfl ?_
                        refine ev_istore rfl rfl rfl rfl ?_
                        dsimp only [List.set]
                        refine ev_iincB (y := 1) (l := -10) (u := 12) rfl rfl rfl (by decide) rfl rfl b1074 (by decide : B 1 1 1) (by decide) (by decide) (by decide) (by decide) (fun v1125 b1125 e1125 => ?_)
                        dsimp only [List.set]
                        refine ev_goto rfl rfl ?_
                        exact (EvQ.drop 9 (EvQ.drop 8 (EvQ.drop 7 (ih37 v1084 w1066 r1081 v1125 h1081 (b1074.mono (by decide) (by decide)) (b1123.mono (by decide) (by decide)) (b1125.mono (by decide) (by decide)) hJ1081 (L_up hm37 (e_p1 e1125 (by decide)))))))
                      · refine ev_iload rfl rfl rfl ?_
                        refine ev_if_eq rfl rfl (fun c1126 => absurd c1126 (D_ne (by decide : B 1 1 1) (by decide : B 0 0 0) (by decide))) (fun c1126 => ?_)
                        refine ev_iload rfl rfl rfl ?_
                        refine ev_istore rfl rfl rfl rfl ?_
                        dsimp only [List.set]
                        refine ev_iload rfl rfl rfl ?_
                        refine ev_istore rfl rfl rfl rfl ?_
                        dsimp only [List.set]
                        refine ev_iincB (y := 1) (l := -10) (u := 12) rfl rfl rfl (by decide) rfl rfl b1074 (by decide : B 1 1 1) (by decide) (by decide) (by decide) (by decide) (fun v1127 b1127 e1127 => ?_)
                        dsimp only [List.set]
                        refine ev_goto rfl rfl ?_
                        exact (EvQ.drop 9 (EvQ.drop 8 (EvQ.drop 7 (ih37 v1084 w1066 r1081 v1127 h1081 (b1074.mono (by decide) (by decide)) (b1119.mono (by decide) (by decide)) (b1127.mono (by decide) (by decide)) hJ1081 (L_up hm37 (e_p1 e1127 (by decide)))))))
              · have b1087 : B w1064 (-104) (-104) := R_eqX b1067 (by decide : B (-104) (-104) (-104)) c1085
                refine ev_iconst (v := 1) rfl rfl (by decide) ?_
                refine ev_goto rfl rfl ?_
                refine ev_istore rfl rfl rfl rfl ?_
                dsimp only [List.set]
                refine ev_iload rfl rfl rfl ?_
                refine ev_iload rfl rfl rfl ?_
                refine ev_icmp_ne rfl rfl (fun c1128 => ?_) (fun c1128 => ?_)
                · refine ev_iconst (v := 0) rfl rfl (by decide) ?_
                  refine ev_istore rfl rfl rfl rfl ?_
                  dsimp only [List.set]
                  refine ev_iload rfl rfl rfl ?_
                  refine ev_if_lt rfl rfl (fun c1130 => ?_) (fun c1130 => ?_)
                  · have b1131 : B r1081 (-123) (-1) := R_ltX q1081 (by decide : B 0 0 0) c1130 (by decide)
                    refine ev_iincB (y := 1) (l := -10) (u := 12) rfl rfl rfl (by decide) rfl rfl b1074 (by decide : B 1 1 1) (by decide) (by decide) (by decide) (by decide) (fun v1133 b1133 e1133 => ?_)
                    dsimp only [List.set]
                    refine ev_goto rfl rfl ?_
                    exact (EvQ.drop 9 (EvQ.drop 8 (EvQ.drop 7 (ih37 v1084 w1064 w1065 v1133 h1081 (b1087.mono (by decide) (by decide)) b1068 (b1133.mono (by decide) (by decide)) hJ1081 (L_up hm37 (e_p1 e1133 (by decide)))))))
                  · have b1132 : B r1081 0 2147483647 := R_leY (by decide : B 0 0 0) q1081 (Int32.not_lt.mp c1130) (by decide)
                    refine ev_iload rfl rfl rfl ?_
                    refine ev_if_ne rfl rfl (fun c1134 => ?_) (fun c1134 => absurd c1134 (D_ne (by decide : B 1 1 1) (by decide : B 0 0 0) (by decide)))
                    refine ev_iload rfl rfl rfl ?_
                    refine ev_istore rfl rfl rfl rfl ?_
                    dsimp only [List.set]
                    refine ev_iload rfl rfl rfl ?_
                    refine ev_istore rfl rfl rfl rfl ?_
                    dsimp only [List.set]
                    refine ev_iincB (y := 1) (l := -10) (u := 12) rfl rfl rfl (by decide) rfl rfl b1074 (by decide : B 1 1 1) (by decide) (by decide) (by decide) (by decide) (fun v1135 b1135 e1135 => ?_)
                    dsimp only [List.set]
                    refine ev_goto rfl rfl ?_
                    exact (EvQ.drop 9 (EvQ.drop 8 (EvQ.drop 7 (ih37 v1084 w1066 r1081 v1135 h1081 (b1074.mono (by decide) (by decide)) (b1132.mono (by decide) (by decide)) (b1135.mono (by decide) (by decide)) hJ1081 (L_up hm37 (e_p1 e1135 (by decide)))))))
                · have b1129 : B r1081 (-104) 2147483647 := R_eqX q1081 b1068 c1128
                  refine ev_iload rfl rfl rfl ?_
                  refine ev_S1P rfl rfl lk_X9_224 st_J9_abs_0f7a4 rfl rfl (w_any (c_abs (G0 L b) h1081 w1066)) (fun r1136 q1136 => ?_)
                  refine ev_iload rfl rfl rfl ?_
                  refine ev_S1P rfl rfl lk_X9_224 st_J9_abs_0f7a4 rfl rfl (w_any (c_abs (G0 L b) h1081 w1064)) (fun r1137 q1137 => ?_)
                  refine ev_icmp_ge rfl rfl (fun c1138 => ?_) (fun c1138 => ?_)
                  · refine ev_iconst (v := 0) rfl rfl (by decide) ?_
                    refine ev_istore rfl rfl rfl rfl ?_
                    dsimp only [List.set]
                    refine ev_iload rfl rfl rfl ?_
                    refine ev_if_lt rfl rfl (fun c1141 => ?_) (fun c1141 => ?_)
                    · have b1142 : B r1081 (-104) (-1) := R_ltX b1129 (by decide : B 0 0 0) c1141 (by decide)
                      refine ev_iincB (y := 1) (l := -10) (u := 12) rfl rfl rfl (by decide) rfl rfl b1074 (by decide : B 1 1 1) (by decide) (by decide) (by decide) (by decide) (fun v1144 b1144 e1144 => ?_)
                      dsimp only [List.set]
                      refine ev_goto rfl rfl ?_
                      exact (EvQ.drop 9 (EvQ.drop 8 (EvQ.drop 7 (ih37 v1084 w1064 w1065 v1144 h1081 (b1087.mono (by decide) (by decide)) b1068 (b1144.mono (by decide) (by decide)) hJ1081 (L_up hm37 (e_p1 e1144 (by decide)))))))
                    · have b1143 : B r1081 0 2147483647 := R_leY (by decide : B 0 0 0) b1129 (Int32.not_lt.mp c1141) (by decide)
                      refine ev_iload rfl rfl rfl ?_
                      refine ev_if_ne rfl rfl (fun c1145 => ?_) (fun c1145 => absurd c1145 (D_ne (by decide : B 1 1 1) (by decide : B 0 0 0) (by decide)))
                      refine ev_iload rfl rfl rfl ?_
                      refine ev_istore rfl rfl rfl rfl ?_
                      dsimp only [List.set]
                      refine ev_iload rfl rfl rfl ?_
                      refine ev_istore rfl rfl rfl rfl ?_
                      dsimp only [List.set]
                      refine ev_iincB (y := 1) (l := -10) (u := 12) rfl rfl rfl (by decide) rfl rfl b1074 (by decide : B 1 1 1) (by decide) (by decide) (by decide) (by decide) (fun v1146 b1146 e1146 => ?_)
                      dsimp only [List.set]
                      refine ev_goto rfl rfl ?_
                      exact (EvQ.drop 9 (EvQ.drop 8 (EvQ.drop 7 (ih37 v1084 w1066 r1081 v1146 h1081 (b1074.mono (by decide) (by decide)) (b1143.mono (by decide) (by decide)) (b1146.mono (by decide) (by decide)) hJ1081 (L_up hm37 (e_p1 e1146 (by decide)))))))
                  · have b1139 : B r1136 (-2147483648) 2147483646 := R_ltX (B.any r1136) (B.any r1137) (Int32.not_le.mp c1138) (by decide)
                    have b1140 : B r1137 (-2147483647) 2147483647 := R_ltY (B.any r1136) (B.any r1137) (Int32.not_le.mp c1138) (by decide)
                    refine ev_iconst (v := 1) rfl rfl (by decide) ?_
                    refine ev_goto rfl rfl ?_
                    refine ev_istore rfl rfl rfl rfl ?_
                    dsimp only [List.set]
                    refine ev_iload rfl rfl rfl ?_
                    refine ev_if_lt rfl rfl (fun c1147 => ?_) (fun c1147 => ?_)
                    · have b1148 : B r1081 (-104) (-1) := R_ltX b1129 (by decide : B 0 0 0) c1147 (by decide)
                      refine ev_iincB (y := 1) (l := -10) (u := 12) rfl rfl rfl (by decide) rfl rfl b1074 (by decide : B 1 1 1) (by decide) (by decide) (by decide) (by decide) (fun v1150 b1150 e1150 => ?_)
                      dsimp only [List.set]
                      refine ev_goto rfl rfl ?_
                      exact (EvQ.drop 9 (EvQ.drop 8 (EvQ.drop 7 (ih37 v1084 w1064 w1065 v1150 h1081 (b1087.mono (by decide) (by decide)) b1068 (b1150.mono (by decide) (by decide)) hJ1081 (L_up hm37 (e_p1 e1150 (by decide)))))))
                    · have b1149 : B r1081 0 2147483647 := R_leY (by decide : B 0 0 0) b1129 (Int32.not_lt.mp c1147) (by decide)
                      refine ev_iload rfl rfl rfl ?_
                      refine ev_if_ne rfl rfl (fun c1151 => ?_) (fun c1151 => absurd c1151 (D_ne (by decide : B 1 1 1) (by decide : B 0 0 0) (by decide)))
                      refine ev_iload rfl rfl rfl ?_
                      refine ev_istore rfl rfl rfl rfl ?_
                      dsimp only [List.set]
                      refine ev_iload rfl rfl rfl ?_
                      refine ev_istore rfl rfl rfl rfl ?_
                      dsimp only [List.set]
                      refine ev_iincB (y := 1) (l := -10) (u := 12) rfl rfl rfl (by decide) rfl rfl b1074 (by decide : B 1 1 1) (by decide) (by decide) (by decide) (by decide) (fun v1152 b1152 e1152 => ?_)
                      dsimp only [List.set]
                      refine ev_goto rfl rfl ?_
                      exact (EvQ.drop 9 (EvQ.drop 8 (EvQ.drop 7 (ih37 v1084 w1066 r1081 v1152 h1081 (b1074.mono (by decide) (by decide)) (b1149.mono (by decide) (by decide)) (b1152.mono (by decide) (by decide)) hJ1081 (L_up hm37 (e_p1 e1152 (by decide)))))))
            · have b1083 : B r1081 (-2) (-2) := R_eqX q1081 (by decide : B (-2) (-2) (-2)) c1082
              refine ev_iconst (v := 0) rfl rfl (by decide) ?_
              refine ev_goto rfl rfl ?_
              refine ev_iaddB (l := -2147483648) (u := 2147483647) rfl rfl (B.any w1063) (by decide : B 0 0 0) (by decide) (by decide) (by decide) (by decide) (fun v1153 b1153 e1153 g1153 => ?_)
              refine ev_istore_n rfl rfl rfl rfl ?_
              dsimp only [List.set]
              refine ev_iload rfl rfl rfl ?_
              refine ev_bipush (v := (-104)) rfl rfl (by decide) ?_
              refine ev_icmp_ne rfl rfl (fun c1154 => ?_) (fun c1154 => ?_)
              · have b1155 : B w1064 (-103) 12 := R_neL b1067 (by decide : B (-104) (-104) (-104)) c1154 (by decide)
                refine ev_iconst (v := 0) rfl rfl (by decide) ?_
                refine ev_istore rfl rfl rfl rfl ?_
                dsimp only [List.set]
                refine ev_iload rfl rfl rfl ?_
                refine ev_iload rfl rfl rfl ?_
                refine ev_icmp_ne rfl rfl (fun c1157 => ?_) (fun c1157 => ?_)
                · refine ev_iconst (v := 0) rfl rfl (by decide) ?_
                  refine ev_istore rfl rfl rfl rfl ?_
                  dsimp only [List.set]
                  refine ev_iload rfl rfl rfl ?_
                  refine ev_if_lt rfl rfl (fun c1159 => ?_) (fun c1159 => absurd (D_lt b1083 (by decide : B 0 0 0) (by decide)) c1159)
                  refine ev_iincB (y := 1) (l := -10) (u := 12) rfl rfl rfl (by decide) rfl rfl b1074 (by decide : B 1 1 1) (by decide) (by decide) (by decide) (by decide) (fun v1160 b1160 e1160 => ?_)
                  dsimp only [List.set]
                  refine ev_goto rfl rfl ?_
                  exact (EvQ.drop 9 (EvQ.drop 8 (EvQ.drop 7 (ih37 v1153 w1064 w1065 v1160 h1081 (b1155.mono (by decide) (by decide)) b1068 (b1160.mono (by decide) (by decide)) hJ1081 (L_up hm37 (e_p1 e1160 (by decide)))))))
                · have b1158 : B w1065 (-2) (-2) := R_eqY b1083 b1068 c1157
                  refine ev_iload rfl rfl rfl ?_
                  refine ev_S1P rfl rfl lk_X9_224 st_J9_abs_0f7a4 rfl rfl (w_any (c_abs (G0 L b) h1081 w1066)) (fun r1161 q1161 => ?_)
                  refine ev_iload rfl rfl rfl ?_
                  refine ev_S1P rfl rfl lk_X9_224 st_J9_abs_0f7a4 rfl rfl (w_any (c_abs (G0 L b) h1081 w1064)) (fun r1162 q1162 => ?_)
                  refine ev_icmp_ge rfl rfl (fun c1163 => ?_) (fun c1163 => ?_)
                  · refine ev_iconst (v := 0) rfl rfl (by decide) ?_
                    refine ev_istore rfl rfl rfl rfl ?_
                    dsimp only [List.set]
                    refine ev_iload rfl rfl rfl ?_
                    refine ev_if_lt rfl rfl (fun c1166 => ?_) (fun c1166 => absurd (D_lt b1083 (by decide : B 0 0 0) (by decide)) c1166)
                    refine ev_iincB (y := 1) (l := -10) (u := 12) rfl rfl rfl (by decide) rfl rfl b1074 (by decide : B 1 1 1) (by decide) (by decide) (by decide) (by decide) (fun v1167 b1167 e1167 => ?_)
                    dsimp only [List.set]
                    refine ev_goto rfl rfl ?_
                    exact (EvQ.drop 9 (EvQ.drop 8 (EvQ.drop 7 (ih37 v1153 w1064 w1065 v1167 h1081 (b1155.mono (by decide) (by decide)) (b1158.mono (by decide) (by decide)) (b1167.mono (by decide) (by decide)) hJ1081 (L_up hm37 (e_p1 e1167 (by decide)))))))
                  · have b1164 : B r1161 (-2147483648) 2147483646 := R_ltX (B.any r1161) (B.any r1162) (Int32.not_le.mp c1163) (by decide)
                    have b1165 : B r1162 (-2147483647) 2147483647 := R_ltY (B.any r1161) (B.any r1162) (Int32.not_le.mp c1163) (by decide)
                    refine ev_iconst (v := 1) rfl rfl (by decide) ?_
                    refine ev_goto rfl rfl ?_
                    refine ev_istore rfl rfl rfl rfl ?_
                    dsimp only [List.set]
                    refine ev_iload rfl rfl rfl ?_
                    refine ev_if_lt rfl rfl (fun c1168 => ?_) (fun c1168 => absurd (D_lt b1083 (by decide : B 0 0 0) (by decide)) c1168)
                    refine ev_iincB (y := 1) (l := -10) (u := 12) rfl rfl rfl (by decide) rfl rfl b1074 (by decide : B 1 1 1) (by decide) (by decide) (by decide) (by decide) (fun v1169 b1169 e1169 => ?_)
                    dsimp only [List.set]
                    refine ev_goto rfl rfl ?_
                    exact (EvQ.drop 9 (EvQ.drop 8 (EvQ.drop 7 (ih37 v1153 w1064 w1065 v1169 h1081 (b1155.mono (by decide) (by decide)) (b1158.mono (by decide) (by decide)) (b1169.mono (by decide) (by decide)) hJ1081 (L_up hm37 (e_p1 e1169 (by decide)))))))
              · have b1156 : B w1064 (-104) (-104) := R_eqX b1067 (by decide : B (-104) (-104) (-104)) c1154
                refine ev_iconst (v := 1) rfl rfl (by decide) ?_
                refine ev_goto rfl rfl ?_
                refine ev_istore rfl rfl rfl rfl ?_
                dsimp only [List.set]
                refine ev_iload rfl rfl rfl ?_
                refine ev_iload rfl rfl rfl ?_
                refine ev_icmp_ne rfl rfl (fun c1170 => ?_) (fun c1170 => ?_)
                · refine ev_iconst (v := 0) rfl rfl (by decide) ?_
                  refine ev_istore rfl rfl rfl rfl ?_
                  dsimp only [List.set]
                  refine ev_iload rfl rfl rfl ?_
                  refine ev_if_lt rfl rfl (fun c1172 => ?_) (fun c1172 => absurd (D_lt b1083 (by decide : B 0 0 0) (by decide)) c1172)
                  refine ev_iincB (y := 1) (l := -10) (u := 12) rfl rfl rfl (by decide) rfl rfl b1074 (by decide : B 1 1 1) (by decide) (by decide) (by decide) (by decide) (fun v1173 b1173 e1173 => ?_)
                  dsimp only [List.set]
                  refine ev_goto rfl rfl ?_
                  exact (EvQ.drop 9 (EvQ.drop 8 (EvQ.drop 7 (ih37 v1153 w1064 w1065 v1173 h1081 (b1156.mono (by decide) (by decide)) b1068 (b1173.mono (by decide) (by decide)) hJ1081 (L_up hm37 (e_p1 e1173 (by decide)))))))
                · have b1171 : B w1065 (-2) (-2) := R_eqY b1083 b1068 c1170
                  refine ev_iload rfl rfl rfl ?_
                  refine ev_S1P rfl rfl lk_X9_224 st_J9_abs_0f7a4 rfl rfl (w_any (c_abs (G0 L b) h1081 w1066)) (fun r1174 q1174 => ?_)
                  refine ev_iload rfl rfl rfl ?_
                  refine ev_S1P rfl rfl lk_X9_224 st_J9_abs_0f7a4 rfl rfl (w_any (c_abs (G0 L b) h1081 w1064)) (fun r1175 q1175 => ?_)
                  refine ev_icmp_ge rfl rfl (fun c1176 => ?_) (fun c1176 => ?_)
                  · refine ev_iconst (v := 0) rfl rfl (by decide) ?_
                    refine ev_istore rfl rfl rfl rfl ?_
                    dsimp only [List.set]
                    refine ev_iload rfl rfl rfl ?_
                    refine ev_if_lt rfl rfl (fun c1179 => ?_) (fun c1179 => absurd (D_lt b1083 (by decide : B 0 0 0) (by decide)) c1179)
                    refine ev_iincB (y := 1) (l := -10) (u := 12) rfl rfl rfl (by decide) rfl rfl b1074 (by decide : B 1 1 1) (by decide) (by decide) (by decide) (by decide) (fun v1180 b1180 e1180 => ?_)
                    dsimp only [List.set]
                    refine ev_goto rfl rfl ?_
                    exact (EvQ.drop 9 (EvQ.drop 8 (EvQ.drop 7 (ih37 v1153 w1064 w1065 v1180 h1081 (b1156.mono (by decide) (by decide)) (b1171.mono (by decide) (by decide)) (b1180.mono (by decide) (by decide)) hJ1081 (L_up hm37 (e_p1 e1180 (by decide)))))))
                  · have b1177 : B r1174 (-2147483648) 2147483646 := R_ltX (B.any r1174) (B.any r1175) (Int32.not_le.mp c1176) (by decide)
                    have b1178 : B r1175 (-2147483647) 2147483647 := R_ltY (B.any r1174) (B.any r1175) (Int32.not_le.mp c1176) (by decide)
                    refine ev_iconst (v := 1) rfl rfl (by decide) ?_
                    refine ev_goto rfl rfl ?_
                    refine ev_istore rfl rfl rfl rfl ?_
                    dsimp only [List.set]
                    refine ev_iload rfl rfl rfl ?_
                    refine ev_if_lt rfl rfl (fun c1181 => ?_) (fun c1181 => absurd (D_lt b1083 (by decide : B 0 0 0) (by decide)) c1181)
                    refine ev_iincB (y := 1) (l := -10) (u := 12) rfl rfl rfl (by decide) rfl rfl b1074 (by decide : B 1 1 1) (by decide) (by decide) (by decide) (by decide) (fun v1182 b1182 e1182 => ?_)
                    dsimp only [List.set]
                    refine ev_goto rfl rfl ?_
                    exact (EvQ.drop 9 (EvQ.drop 8 (EvQ.drop 7 (ih37 v1153 w1064 w1065 v1182 h1081 (b1156.mono (by decide) (by decide)) (b1171.mono (by decide) (by decide)) (b1182.mono (by decide) (by decide)) hJ1081 (L_up hm37 (e_p1 e1182 (by decide)))))))
      exact (lp37_1062 24 0 (-104) (-104) (-11) h ((by decide : B (-104) (-104) (-104)).mono (by decide) (by decide)) ((by decide : B (-104) (-104) (-104)).mono (by decide) (by decide)) ((by decide : B (-11) (-11) (-11)).mono (by decide) (by decide)) hJ0 (L_init (by decide : B (-11) (-11) (-11)) (by decide)))
    · have b10 : B r6 0 0 := R_eqX b6 (by decide : B 0 0 0) c7
      refine ev_bipush (v := (-100)) rfl rfl (by decide) ?_
      exact ev_iret rfl rfl rfl ⟨⟨_, rfl, ((by decide : B (-100) (-100) (-100)).mono (by decide) (by decide))⟩, rfl, hJ0⟩

