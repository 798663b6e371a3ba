set_option maxRecDepth 100000 in
set_option maxHeartbeats 4000000 in
theorem w_X7_chordIn_28 (L : Nat) (b : Bool) (h : Hp) (hB : Bx h) (a0 : Int32) (p0 : B a0 0 5) (a1 : Int32) (p1 : B a1 0 23) (a2 : Int32) : EvP mi_X7_chordIn [.ref 28, .int a0, .int a1, .int a2] (G0 L b) h (fun r : Int32 => B r (-2147483648) 2147483647) := by
  refine EvM.of2 (lo := [some (.ref 28), some (.int a0), some (.int a1), some (.int a2), none]) pf_X7_chordIn ok_X7_chordIn rfl rfl ?_
  refine ev_aload_n rfl rfl rfl ?_
  refine ev_getR (y := 29) rfl rfl fl_X7_11 rfl rfl rfl rfl ?_
  refine ev_iload_n rfl rfl rfl ?_
  rcases B.c6 p0 with rfl | rfl | rfl | rfl | rfl | rfl
  · refine ev_aald (y := 30) (j := 0) rfl rfl rfl rfl (by unfold vp_in; decide) (by decide) rfl ?_
    refine ev_iload_n rfl rfl rfl ?_
    refine ev_ialW (n := 24) (l := 0) (u := 4095) hB p1 (by decide) (by decide) (fun _ => rfl) rfl rfl rfl (fun v1 b1 e1 => ?_)
    refine ev_istore rfl rfl rfl rfl ?_
    dsimp only [List.set]
    refine ev_iload_n rfl rfl rfl ?_
    refine ev_if_lt rfl rfl (fun c2 => ?_) (fun c2 => ?_)
    · have b3 : B a2 (-2147483648) (-1) := R_ltX (B.any a2) (by decide : B 0 0 0) c2 (by decide)
      refine ev_iload rfl rfl rfl ?_
      refine ev_iload_n rfl rfl rfl ?_
      refine ev_inegA rfl rfl (fun v5 => ?_)
      refine ev_ishrA rfl rfl (fun v6 => ?_)
      exact ev_iret rfl rfl rfl ⟨⟨_, rfl, (B.any v6)⟩, rfl, rfl⟩
    · have b4 : B a2 0 2147483647 := R_leY (by decide : B 0 0 0) (B.any a2) (Int32.not_lt.mp c2) (by decide)
      refine ev_iload rfl rfl rfl ?_
      refine ev_iload_n rfl rfl rfl ?_
      refine ev_ishlA rfl rfl (fun v7 => ?_)
      refine ev_goto rfl rfl ?_
      exact ev_iret rfl rfl rfl ⟨⟨_, rfl, (B.any v7)⟩, rfl, rfl⟩
  · refine ev_aald (y := 31) (j := 1) rfl rfl rfl rfl (by unfold vp_in; decide) (by decide) rfl ?_
    refine ev_iload_n rfl rfl rfl ?_
    refine ev_ialW (n := 24) (l := 0) (u := 4095) hB p1 (by decide) (by decide) (fun _ => rfl) rfl rfl rfl (fun v8 b8 e8 => ?_)
    refine ev_istore rfl rfl rfl rfl ?_
    dsimp only [List.set]
    refine ev_iload_n rfl rfl rfl ?_
    refine ev_if_lt rfl rfl (fun c9 => ?_) (fun c9 => ?_)
    · have b10 : B a2 (-2147483648) (-1) := R_ltX (B.any a2) (by decide : B 0 0 0) c9 (by decide)
      refine ev_iload rfl rfl rfl ?_
      refine ev_iload_n rfl rfl rfl ?_
      refine ev_inegA rfl rfl (fun v12 => ?_)
      refine ev_ishrA rfl rfl (fun v13 => ?_)
      exact ev_iret rfl rfl rfl ⟨⟨_, rfl, (B.any v13)⟩, rfl, rfl⟩
    · have b11 : B a2 0 2147483647 := R_leY (by decide : B 0 0 0) (B.any a2) (Int32.not_lt.mp c9) (by decide)
      refine ev_iload rfl rfl rfl ?_
      refine ev_iload_n rfl rfl rfl ?_
      refine ev_ishlA rfl rfl (fun v14 => ?_)
      refine ev_goto rfl rfl ?_
      exact ev_iret rfl rfl rfl ⟨⟨_, rfl, (B.any v14)⟩, rfl, rfl⟩
  · refine ev_aald (y := 32) (j := 2) rfl rfl rfl rfl (by unfold vp_in; decide) (by decide) rfl ?_
    refine ev_iload_n rfl rfl rfl ?_
    refine ev_ialW (n := 24) (l := 0) (u := 4095) hB p1 (by decide) (by decide) (fun _ => rfl) rfl rfl rfl (fun v15 b15 e15 => ?_)
    refine ev_istore rfl rfl rfl rfl ?_
    dsimp only [List.set]
    refine ev_iload_n rfl rfl rfl ?_
    refine ev_if_lt rfl rfl (fun c16 => ?_) (fun c16 => ?_)
    · have b17 : B a2 (-2147483648) (-1) := R_ltX (B.any a2) (by decide : B 0 0 0) c16 (by decide)
      refine ev_iload rfl rfl rfl ?_
      refine ev_iload_n rfl rfl rfl ?_
      refine ev_inegA rfl rfl (fun v19 => ?_)
      refine ev_ishrA rfl rfl (fun v20 => ?_)
      exact ev_iret rfl rfl rfl ⟨⟨_, rfl, (B.any v20)⟩, rfl, rfl⟩
    · have b18 : B a2 0 2147483647 := R_leY (by decide : B 0 0 0) (B.any a2) (Int32.not_lt.mp c16) (by decide)
      refine ev_iload rfl rfl rfl ?_
      refine ev_iload_n rfl rfl rfl ?_
      refine ev_ishlA rfl rfl (fun v21 => ?_)
      refine ev_goto rfl rfl ?_
      exact ev_iret rfl rfl rfl ⟨⟨_, rfl, (B.any v21)⟩, rfl, rfl⟩
  · refine ev_aald (y := 33) (j := 3) rfl rfl rfl rfl (by unfold vp_in; decide) (by decide) rfl ?_
    refine ev_iload_n rfl rfl rfl ?_
    refine ev_ialW (n := 24) (l := 0) (u := 4095) hB p1 (by decide) (by decide) (fun _ => rfl) rfl rfl rfl (fun v22 b22 e22 => ?_)
    refine ev_istore rfl rfl rfl rfl ?_
    dsimp only [List.set]
    refine ev_iload_n rfl rfl rfl ?_
    refine ev_if_lt rfl rfl (fun c23 => ?_) (fun c23 => ?_)
    · have b24 : B a2 (-2147483648) (-1) := R_ltX (B.any a2) (by decide : B 0 0 0) c23 (by decide)
      refine ev_iload rfl rfl rfl ?_
      refine ev_iload_n rfl rfl rfl ?_
      refine ev_inegA rfl rfl (fun v26 => ?_)
      refine ev_ishrA rfl rfl (fun v27 => ?_)
      exact ev_iret rfl rfl rfl ⟨⟨_, rfl, (B.any v27)⟩, rfl, rfl⟩
    · have b25 : B a2 0 2147483647 := R_leY (by decide : B 0 0 0) (B.any a2) (Int32.not_lt.mp c23) (by decide)
      refine ev_iload rfl rfl rfl ?_
      refine ev_iload_n rfl rfl rfl ?_
      refine ev_ishlA rfl rfl (fun v28 => ?_)
      refine ev_goto rfl rfl ?_
      exact ev_iret rfl rfl rfl ⟨⟨_, rfl, (B.any v28)⟩, rfl, rfl⟩
  · refine ev_aald (y := 34) (j := 4) rfl rfl rfl rfl (by unfold vp_in; decide) (by decide) rfl ?_
    refine ev_iload_n rfl rfl rfl ?_
    refine ev_ialW (n := 24) (l := 0) (u := 4095) hB p1 (by decide) (by decide) (fun _ => rfl) rfl rfl rfl (fun v29 b29 e29 => ?_)
    refine ev_istore rfl rfl rfl rfl ?_
    dsimp only [List.set]
    refine ev_iload_n rfl rfl rfl ?_
    refine ev_if_lt rfl rfl (fun c30 => ?_) (fun c30 => ?_)
    · have b31 : B a2 (-2147483648) (-1) := R_ltX (B.any a2) (by decide : B 0 0 0) c30 (by decide)
      refine ev_iload rfl rfl rfl ?_
      refine ev_iload_n rfl rfl rfl ?_
      refine ev_inegA rfl rfl (fun v33 => ?_)
      refine ev_ishrA rfl rfl (fun v34 => ?_)
      exact ev_iret rfl rfl rfl ⟨⟨_, rfl, (B.any v34)⟩, rfl, rfl⟩
    · have b32 : B a2 0 2147483647 := R_leY (by decide : B 0 0 0) (B.any a2) (Int32.not_lt.mp c30) (by decide)
      refine ev_iload rfl rfl rfl ?_
      refine ev_iload_n rfl rfl rfl ?_
      refine ev_ishlA rfl rfl (fun v35 => ?_)
      refine ev_goto rfl rfl ?_
      exact ev_iret rfl rfl rfl ⟨⟨_, rfl, (B.any v35)⟩, rfl, rfl⟩
  · refine ev_aald (y := 35) (j := 5) rfl rfl rfl rfl (by unfold vp_in; decide) (by decide) rfl ?_
    refine ev_iload_n rfl rfl rfl ?_
    refine ev_ialW (n := 24) (l := 0) (u := 4095) hB p1 (by decide) (by decide) (fun _ => rfl) rfl rfl rfl (fun v36 b36 e36 => ?_)
    refine ev_istore rfl rfl rfl rfl ?_
    dsimp only [List.set]
    refine ev_iload_n rfl rfl rfl ?_
    refine ev_if_lt rfl rfl (fun c37 => ?_) (fun c37 => ?_)
    · have b38 : B a2 (-2147483648) (-1) := R_ltX (B.any a2) (by decide : B 0 0 0) c37 (by decide)
      refine ev_iload rfl rfl rfl ?_
      refine ev_iload_n rfl rfl rfl ?_
      refine ev_inegA rfl rfl (fun v40 => ?_)
      refine ev_ishrA rfl rfl (fun v41 => ?_)
      exact ev_iret rfl rfl rfl ⟨⟨_, rfl, (B.any v41)⟩, rfl, rfl⟩
    · have b39 : B a2 0 2147483647 := R_leY (by decide : B 0 0 0) (B.any a2) (Int32.not_lt.mp c37) (by decide)
      refine ev_iload rfl rfl rfl ?_
      refine ev_iload_n rfl rfl rfl ?_
      refine ev_ishlA rfl rfl (fun v42 => ?_)
      refine ev_goto rfl rfl ?_
      exact ev_iret rfl rfl rfl ⟨⟨_, rfl, (B.any v42)⟩, rfl, rfl⟩

set_option maxRecDepth 100000 in
set_option maxHeartbeats 4000000 in
theorem w_X7_whistlesOf_28 (L : Nat) (b : Bool) (h : Hp) (hB : Bx h) (a0 : Int32) (p0 : B a0 0 5) : EvP mi_X7_whistlesOf [.ref 28, .int a0] (G0 L b) h (fun r : Int32 => B r 0 4095) := by
  refine EvM.of2 (lo := [some (.ref 28), some (.int a0), none, none]) pf_X7_whistlesOf ok_X7_whistlesOf rfl rfl ?_
  refine ev_iconst (v := 0) rfl rfl (by decide) ?_
  refine ev_istore_n rfl rfl rfl rfl ?_
  dsimp only [List.set]
  refine ev_iconst (v := 0) rfl rfl (by decide) ?_
  refine ev_istore_n rfl rfl rfl rfl ?_
  dsimp only [List.set]
  have lp4_145 : ∀ (n : Nat) (w146 : Int32) (w147 : Int32), B w146 0 4095 → B w147 0 24 → 24 + 1 - w147.toInt ≤ (n : Int) → EvQ mi_X7_whistlesOf 4 [some (.ref 28), some (.int a0), some (.int w146), some (.int w147)] [] (G0 L b) h 0 0 (QP (fun r : Int32 => B r 0 4095) (G0 L b) h) := by
    intro n
    induction n with
    | zero =>
      intro w146 w147 b148 b149 hm4
      exact absurd hm4 (L_zero b149 (by decide))
    | succ n ih4 =>
      intro w146 w147 b148 b149 hm4
      refine ev_iload_n rfl rfl rfl ?_
      refine ev_aload_n rfl rfl rfl ?_
      refine ev_getR (y := 36) rfl rfl fl_X7_16 rfl rfl rfl rfl ?_
      refine ev_iload_n rfl rfl rfl ?_
      refine ev_ialW (n := 6) (l := 0) (u := 24) hB p0 (by decide) (by decide) (fun _ => rfl) rfl rfl rfl (fun v150 b150 e150 => ?_)
      refine ev_icmp_ge rfl rfl (fun c151 => ?_) (fun c151 => ?_)
      · refine ev_iload_n rfl rfl rfl ?_
        exact ev_iret rfl rfl rfl ⟨⟨_, rfl, b148⟩, rfl, rfl⟩
      · have b152 : B w147 0 23 := R_ltX b149 b150 (Int32.not_le.mp c151) (by decide)
        have b153 : B v150 1 24 := R_ltY b149 b150 (Int32.not_le.mp c151) (by decide)
        refine ev_iload_n rfl rfl rfl ?_
        refine ev_aload_n rfl rfl rfl ?_
        refine ev_getR (y := 29) rfl rfl fl_X7_11 rfl rfl rfl rfl ?_
        refine ev_iload_n rfl rfl rfl ?_
        rcases B.c6 p0 with rfl | rfl | rfl | rfl | rfl | rfl
        · refine ev_aald (y := 30) (j := 0) rfl rfl rfl rfl (by unfold vp_in; decide) (by decide) rfl ?_
          refine ev_iload_n rfl rfl rfl ?_
          refine ev_ialW (n := 24) (l := 0) (u := 4095) hB b152 (by decide) (by decide) (fun _ => rfl) rfl rfl rfl (fun v154 b154 e154 => ?_)
          refine ev_iorB 12 (u := 4095) rfl rfl b148 b154 (by decide) (by decide) (by decide) (by decide) (by decide) (by decide) (fun v155 b155 e155 => ?_)
          refine ev_istore_n rfl rfl rfl rfl ?_
          dsimp only [List.set]
          refine ev_iincB (y := 1) (l := 1) (u := 24) rfl rfl rfl (by decide) rfl rfl b152 (by decide : B 1 1 1) (by decide) (by decide) (by decide) (by decide) (fun v156 b156 e156 => ?_)
          dsimp only [List.set]
          refine ev_goto rfl rfl ?_
          exact (ih4 v155 v156 b155 (b156.mono (by decide) (by decide)) (L_up hm4 (e_p1 e156 (by decide))))
        · refine ev_aald (y := 31) (j := 1) rfl rfl rfl rfl (by unfold vp_in; decide) (by decide) rfl ?_
          refine ev_iload_n rfl rfl rfl ?_
          refine ev_ialW (n := 24) (l := 0) (u := 4095) hB b152 (by decide) (by decide) (fun _ => rfl) rfl rfl rfl (fun v157 b157 e157 => ?_)
          refine ev_iorB 12 (u := 4095) rfl rfl b148 b157 (by decide) (by decide) (by decide) (by decide) (by decide) (by decide) (fun v158 b158 e158 => ?_)
          refine ev_istore_n rfl rfl rfl rfl ?_
          dsimp only [List.set]
          refine ev_iincB (y := 1) (l := 1) (u := 24) rfl rfl rfl (by decide) rfl rfl b152 (by decide : B 1 1 1) (by decide) (by decide) (by decide) (by decide) (fun v159 b159 e159 => ?_)
          dsimp only [List.set]
          refine ev_goto rfl rfl ?_
          exact (ih4 v158 v159 b158 (b159.mono (by decide) (by decide)) (L_up hm4 (e_p1 e159 (by decide))))
        · refine ev_aald (y := 32) (j := 2) rfl rfl rfl rfl (by unfold vp_in; decide) (by decide) rfl ?_
          refine ev_iload_n rfl rfl rfl ?_
          refine ev_ialW (n := 24) (l := 0) (u := 4095) hB b152 (by decide) (by decide) (fun _ => rfl) rfl rfl rfl (fun v160 b160 e160 => ?_)
          refine ev_iorB 12 (u := 4095) rfl rfl b148 b160 (by decide) (by decide) (by decide) (by decide) (by decide) (by decide) (fun v161 b161 e161 => ?_)
          refine ev_istore_n rfl rfl rfl rfl ?_
          dsimp only [List.set]
          refine ev_iincB (y := 1) (l := 1) (u := 24) rfl rfl rfl (by decide) rfl rfl b152 (by decide : B 1 1 1) (by decide) (by decide) (by decide) (by decide) (fun v162 b162 e162 => ?_)
          dsimp only [List.set]
          refine ev_goto rfl rfl ?_
          exact (ih4 v161 v162 b161 (b162.mono (by decide) (by decide)) (L_up hm4 (e_p1 e162 (by decide))))
        · refine ev_aald (y := 33) (j := 3) rfl rfl rfl rfl (by unfold vp_in; decide) (by decide) rfl ?_
          refine ev_iload_n rfl rfl rfl ?_
          refine ev_ialW (n := 24) (l := 0) (u := 4095) hB b152 (by decide) (by decide) (fun _ => rfl) rfl rfl rfl (fun v163 b163 e163 => ?_)
          refine ev_iorB 12 (u := 4095) rfl rfl b148 b163 (by decide) (by decide) (by decide) (by decide) (by decide) (by decide) (fun v164 b164 e164 => ?_)
          refine ev_istore_n rfl rfl rfl rfl ?_
          dsimp only [List.set]
          refine ev_iincB (y := 1) (l := 1) (u := 24) rfl rfl rfl (by decide) rfl rfl b152 (by decide : B 1 1 1) (by decide) (by decide) (by decide) (by decide) (fun v165 b165 e165 => ?_)
          dsimp only [List.set]
          refine ev_goto rfl rfl ?_
          exact (ih4 v164 v165 b164 (b165.mono (by decide) (by decide)) (L_up hm4 (e_p1 e165 (by decide))))
        · refine ev_aald (y := 34) (j := 4) rfl rfl rfl rfl (by unfold vp_in; decide) (by decide) rfl ?_
          refine ev_iload_n rfl rfl rfl ?_
          refine ev_ialW (n := 24) (l := 0) (u := 4095) hB b152 (by decide) (by decide) (fun _ => rfl) rfl rfl rfl (fun v166 b166 e166 => ?_)
          refine ev_iorB 12 (u := 4095) rfl rfl b148 b166 (by decide) (by decide) (by decide) (by decide) (by decide) (by decide) (fun v167 b167 e167 => ?_)
          refine ev_istore_n rfl rfl rfl rfl ?_
          dsimp only [List.set]
          refine ev_iincB (y := 1) (l := 1) (u := 24) rfl rfl rfl (by decide) rfl rfl b152 (by decide : B 1 1 1) (by decide) (by decide) (by decide) (by decide) (fun v168 b168 e168 => ?_)
          dsimp only [List.set]
          refine ev_goto rfl rfl ?_
          exact (ih4 v167 v168 b167 (b168.mono (by decide) (by decide)) (L_up hm4 (e_p1 e168 (by decide))))
        · refine ev_aald (y := 35) (j := 5) rfl rfl rfl rfl (by unfold vp_in; decide) (by decide) rfl ?_
          refine ev_iload_n rfl rfl rfl ?_
          refine ev_ialW (n := 24) (l := 0) (u := 4095) hB b152 (by decide) (by decide) (fun _ => rfl) rfl rfl rfl (fun v169 b169 e169 => ?_)
          refine ev_iorB 12 (u := 4095) rfl rfl b148 b169 (by decide) (by decide) (by decide) (by decide) (by decide) (by decide) (fun v170 b170 e170 => ?_)
          refine ev_istore_n rfl rfl rfl rfl ?_
          dsimp only [List.set]
          refine ev_iincB (y := 1) (l := 1) (u := 24) rfl rfl rfl (by decide) rfl rfl b152 (by decide : B 1 1 1) (by decide) (by decide) (by decide) (by decide) (fun v171 b171 e171 => ?_)
          dsimp only [List.set]
          refine ev_goto rfl rfl ?_
          exact (ih4 v170 v171 b170 (b171.mono (by decide) (by decide)) (L_up hm4 (e_p1 e171 (by decide))))
  exact (lp4_145 25 0 0 ((by decide : B 0 0 0).mono (by decide) (by decide)) ((by decide : B 0 0 0).mono (by decide) (by decide)) (L_init (by decide : B 0 0 0) (by decide)))

set_option maxRecDepth 100000 in
set_option maxHeartbeats 4000000 in
theorem w_X9_leastOf (L : Nat) (b : Bool) (h : Hp) (hB : Bx h) (a0 : Int32) : EvP mi_X9_leastOf [.int a0] (G0 L b) h (fun r : Int32 => B r (-2147483648) 2147483647) := by
  refine EvM.of2 (lo := [some (.int a0)]) pf_X9_leastOf ok_X9_leastOf rfl rfl ?_
  refine ev_iload_n rfl rfl rfl ?_
  refine ev_if_ne rfl rfl (fun c1 => ?_) (fun c1 => ?_)
  · refine ev_iload_n rfl rfl rfl ?_
    refine ev_iload_n rfl rfl rfl ?_
    refine ev_inegA rfl rfl (fun v3 => ?_)
    refine ev_iandA rfl rfl (fun v4 => ?_)
    refine ev_iconst (v := 1) rfl rfl (by decide) ?_
    refine ev_isubA rfl rfl (fun v5 g5 => ?_)
    refine ev_S1P rfl rfl lk_X9_341 st_J6_bitCount_0f7a4 rfl rfl (w_any (c_bitCount (G0 L b) h v5)) (fun r6 q6 => ?_)
    exact ev_iret rfl rfl rfl ⟨⟨_, rfl, (B.any r6)⟩, rfl, rfl⟩
  · have b2 : B a0 0 0 := R_eqX (B.any a0) (by decide : B 0 0 0) c1
    refine ev_bipush (v := (-4)) rfl rfl (by decide) ?_
    refine ev_goto rfl rfl ?_
    exact ev_iret rfl rfl rfl ⟨⟨_, rfl, ((by decide : B (-4) (-4) (-4)).mono (by decide) (by decide))⟩, rfl, rfl⟩

set_option maxRecDepth 100000 in
set_option maxHeartbeats 4000000 in
theorem w_X9_greatestOf (L : Nat) (b : Bool) (h : Hp) (hB : Bx h) (a0 : Int32) : EvP mi_X9_greatestOf [.int a0] (G0 L b) h (fun r : Int32 => B r (-4) 11) := by
  refine EvM.of2 (lo := [some (.int a0), none]) pf_X9_greatestOf ok_X9_greatestOf rfl rfl ?_
  refine ev_bipush (v := 11) rfl rfl (by decide) ?_
  refine ev_istore_n rfl rfl rfl rfl ?_
  dsimp only [List.set]
  have lp3_47 : ∀ (n : Nat) (w48 : Int32), B w48 (-1) 11 → w48.toInt + 1 - (-1) ≤ (n : Int) → EvQ mi_X9_greatestOf 3 [some (.int a0), some (.int w48)] [] (G0 L b) h 0 0 (QP (fun r : Int32 => B r (-4) 11) (G0 L b) h) := by
    intro n
    induction n with
    | zero =>
      intro w48 b49 hm3
      exact absurd hm3 (M_zero b49 (by decide))
    | succ n ih3 =>
      intro w48 b49 hm3
      refine ev_iload_n rfl rfl rfl ?_
      refine ev_if_lt rfl rfl (fun c50 => ?_) (fun c50 => ?_)
      · have b51 : B w48 (-1) (-1) := R_ltX b49 (by decide : B 0 0 0) c50 (by decide)
        refine ev_bipush (v := (-4)) rfl rfl (by decide) ?_
        exact ev_iret rfl rfl rfl ⟨⟨_, rfl, ((by decide : B (-4) (-4) (-4)).mono (by decide) (by decide))⟩, rfl, rfl⟩
      · have b52 : B w48 0 11 := R_leY (by decide : B 0 0 0) b49 (Int32.not_lt.mp c50) (by decide)
        refine ev_iload_n rfl rfl rfl ?_
        refine ev_iload_n rfl rfl rfl ?_
        refine ev_ishrA rfl rfl (fun v53 => ?_)
        refine ev_iconst (v := 1) rfl rfl (by decide) ?_
        refine ev_iandB rfl rfl (by decide : B 1 1 1) (by decide) (fun v54 b54 e54 => ?_)
        refine ev_if_eq rfl rfl (fun c55 => ?_) (fun c55 => ?_)
        · have b56 : B v54 0 0 := R_eqX b54 (by decide : B 0 0 0) c55
          refine ev_iincB (y := (-1)) (l := -1) (u := 10) rfl rfl rfl (by decide) rfl rfl b52 (by decide : B (-1) (-1) (-1)) (by decide) (by decide) (by decide) (by decide) (fun v58 b58 e58 => ?_)
          dsimp only [List.set]
          refine ev_goto rfl rfl ?_
          exact (ih3 v58 (b58.mono (by decide) (by decide)) (M_dn hm3 (e_m1 e58 (by decide))))
        · have b57 : B v54 1 1 := R_neL b54 (by decide : B 0 0 0) c55 (by decide)
          refine ev_iload_n rfl rfl rfl ?_
          exact ev_iret rfl rfl rfl ⟨⟨_, rfl, (b52.mono (by decide) (by decide))⟩, rfl, rfl⟩
  exact (lp3_47 13 11 ((by decide : B 11 11 11).mono (by decide) (by decide)) (M_init (by decide : B 11 11 11) (by decide)))

set_option maxRecDepth 100000 in
set_option maxHeartbeats 4000000 in
theorem w_X7_goes_28 (L : Nat) (b : Bool) (h : Hp) (hB : Bx h) (a0 : Int32) (p0 : B a0 0 5) (a1 : Int32) (a2 : Int32) : EvP mi_X7_goes [.ref 28, .int a0, .int a1, .int a2] (G0 L b) h (fun r : Int32 => B r 0 1) := by
  refine EvM.of2 (lo := [some (.ref 28), some (.int a0), some (.int a1), some (.int a2), none]) pf_X7_goes ok_X7_goes rfl rfl ?_
  refine ev_aload_n rfl rfl rfl ?_
  refine ev_iload_n rfl rfl rfl ?_
  refine ev_V1P rfl rfl lk_X7_36 vt_X7_whistlesOf rfl rfl rfl rfl rfl (w_X7_whistlesOf_28 L b h hB a0 p0) (fun r1 q1 => ?_)
  refine ev_istore rfl rfl rfl rfl ?_
  dsimp only [List.set]
  refine ev_iload rfl rfl rfl ?_
  refine ev_if_eq rfl rfl (fun c2 => ?_) (fun c2 => ?_)
  · have b3 : B r1 0 0 := R_eqX q1 (by decide : B 0 0 0) c2
    refine ev_iconst (v := 1) rfl rfl (by decide) ?_
    refine ev_goto rfl rfl ?_
    exact ev_iret rfl rfl rfl ⟨⟨_, rfl, ((by decide : B 1 1 1).mono (by decide) (by decide))⟩, rfl, rfl⟩
  · have b4 : B r1 1 4095 := R_neL q1 (by decide : B 0 0 0) c2 (by decide)
    refine ev_iload rfl rfl rfl ?_
    refine ev_SN1P rfl rfl lk_X7_39 st_X9_leastOf rfl rfl (w_X9_leastOf L b h hB r1) (fun r5 q5 => ?_)
    refine ev_iload_n rfl rfl rfl ?_
    refine ev_iaddA rfl rfl (fun v6 g6 => ?_)
    refine ev_if_lt rfl rfl (fun c7 => ?_) (fun c7 => ?_)
    · have b8 : B v6 (-2147483648) (-1) := R_ltX (B.any v6) (by decide : B 0 0 0) c7 (by decide)
      refine ev_iconst (v := 0) rfl rfl (by decide) ?_
      exact ev_iret rfl rfl rfl ⟨⟨_, rfl, ((by decide : B 0 0 0).mono (by decide) (by decide))⟩, rfl, rfl⟩
    · have b9 : B v6 0 2147483647 := R_leY (by decide : B 0 0 0) (B.any v6) (Int32.not_lt.mp c7) (by decide)
      refine ev_iload rfl rfl rfl ?_
      refine ev_SN1P rfl rfl lk_X7_42 st_X9_greatestOf rfl rfl (w_X9_greatestOf L b h hB r1) (fun r10 q10 => ?_)
      refine ev_iload_n rfl rfl rfl ?_
      refine ev_iaddA rfl rfl (fun v11 g11 => ?_)
      refine ev_iload_n rfl rfl rfl ?_
      refine ev_icmp_ge rfl rfl (fun c12 => ?_) (fun c12 => ?_)
      · refine ev_iconst (v := 0) rfl rfl (by decide) ?_
        exact ev_iret rfl rfl rfl ⟨⟨_, rfl, ((by decide : B 0 0 0).mono (by decide) (by decide))⟩, rfl, rfl⟩
      · have b13 : B v11 (-2147483648) 2147483646 := R_ltX (B.any v11) (B.any a2) (Int32.not_le.mp c12) (by decide)
        have b14 : B a2 (-2147483647) 2147483647 := R_ltY (B.any v11) (B.any a2) (Int32.not_le.mp c12) (by decide)
        refine ev_iconst (v := 1) rfl rfl (by decide) ?_
        refine ev_goto rfl rfl ?_
        exact ev_iret rfl rfl rfl ⟨⟨_, rfl, ((by decide : B 1 1 1).mono (by decide) (by decide))⟩, rfl, rfl⟩

set_option maxRecDepth 100000 in
set_option maxHeartbeats 4000000 in
theorem w_X7_sounding_28 (L : Nat) (b : Bool) (h : Hp) (hB : Bx h) (a0 : Int32) (p0 : B a0 0 5) : EvP mi_X7_sounding [.ref 28, .int a0] (G0 L b) h (fun r : Int32 => B r (-2147483648) 2147483647) := by
  refine EvM.of2 (lo := [some (.ref 28), some (.int a0), none, none]) pf_X7_sounding ok_X7_sounding rfl rfl ?_
  refine ev_iconst (v := 0) rfl rfl (by decide) ?_
  refine ev_istore_n rfl rfl rfl rfl ?_
  dsimp only [List.set]
  refine ev_iconst (v := 0) rfl rfl (by decide) ?_
  refine ev_istore_n rfl rfl rfl rfl ?_
  dsimp only [List.set]
  have lp4_181 : ∀ (n : Nat) (w182 : Int32) (w183 : Int32), B w183 0 24 → 24 + 1 - w183.toInt ≤ (n : Int) → EvQ mi_X7_sounding 4 [some (.ref 28), some (.int a0), some (.int w182), some (.int w183)] [] (G0 L b) h 0 0 (QP (fun r : Int32 => B r (-2147483648) 2147483647) (G0 L b) h) := by
    intro n
    induction n with
    | zero =>
      intro w182 w183 b184 hm4
      exact absurd hm4 (L_zero b184 (by decide))
    | succ n ih4 =>
      intro w182 w183 b184 hm4
      refine ev_iload_n rfl rfl rfl ?_
      refine ev_aload_n rfl rfl rfl ?_
      refine ev_getR (y := 36) rfl rfl fl_X7_16 rfl rfl rfl rfl ?_
      refine ev_iload_n rfl rfl rfl ?_
      refine ev_ialW (n := 6) (l := 0) (u := 24) hB p0 (by decide) (by decide) (fun _ => rfl) rfl rfl rfl (fun v185 b185 e185 => ?_)
      refine ev_icmp_ge rfl rfl (fun c186 => ?_) (fun c186 => ?_)
      · refine ev_iload_n rfl rfl rfl ?_
        exact ev_iret rfl rfl rfl ⟨⟨_, rfl, (B.any w182)⟩, rfl, rfl⟩
      · have b187 : B w183 0 23 := R_ltX b184 b185 (Int32.not_le.mp c186) (by decide)
        have b188 : B v185 1 24 := R_ltY b184 b185 (Int32.not_le.mp c186) (by decide)
        refine ev_iload_n rfl rfl rfl ?_
        refine ev_aload_n rfl rfl rfl ?_
        refine ev_getR (y := 29) rfl rfl fl_X7_11 rfl rfl rfl rfl ?_
        refine ev_iload_n rfl rfl rfl ?_
        rcases B.c6 p0 with rfl | rfl | rfl | rfl | rfl | rfl
        · refine ev_aald (y := 30) (j := 0) rfl rfl rfl rfl (by unfold vp_in; decide) (by decide) rfl ?_
          refine ev_iload_n rfl rfl rfl ?_
          refine ev_ialW (n := 24) (l := 0) (u := 4095) hB b187 (by decide) (by decide) (fun _ => rfl) rfl rfl rfl (fun v189 b189 e189 => ?_)
          refine ev_S1P rfl rfl lk_X7_30 st_J6_bitCount_0f7a4 rfl rfl (w_any (c_bitCount (G0 L b) h v189)) (fun r190 q190 => ?_)
          refine ev_iaddA rfl rfl (fun v191 g191 => ?_)
          refine ev_istore_n rfl rfl rfl rfl ?_
          dsimp only [List.set]
          refine ev_iincB (y := 1) (l := 1) (u := 24) rfl rfl rfl (by decide) rfl rfl b187 (by decide : B 1 1 1) (by decide) (by decide) (by decide) (by decide) (fun v192 b192 e192 => ?_)
          dsimp only [List.set]
          refine ev_goto rfl rfl ?_
          exact (ih4 v191 v192 (b192.mono (by decide) (by decide)) (L_up hm4 (e_p1 e192 (by decide))))
        · refine ev_aald (y := 31) (j := 1) rfl rfl rfl rfl (by unfold vp_in; decide) (by decide) rfl ?_
          refine ev_iload_n rfl rfl rfl ?_
          refine ev_ialW (n := 24) (l := 0) (u := 4095) hB b187 (by decide) (by decide) (fun _ => rfl) rfl rfl rfl (fun v193 b193 e193 => ?_)
          refine ev_S1P rfl rfl lk_X7_30 st_J6_bitCount_0f7a4 rfl rfl (w_any (c_bitCount (G0 L b) h v193)) (fun r194 q194 => ?_)
          refine ev_iaddA rfl rfl (fun v195 g195 => ?_)
          refine ev_istore_n rfl rfl rfl rfl ?_
          dsimp only [List.set]
          refine ev_iincB (y := 1) (l := 1) (u := 24) rfl rfl rfl (by decide) rfl rfl b187 (by decide : B 1 1 1) (by decide) (by decide) (by decide) (by decide) (fun v196 b196 e196 => ?_)
          dsimp only [List.set]
          refine ev_goto rfl rfl ?_
          exact (ih4 v195 v196 (b196.mono (by decide) (by decide)) (L_up hm4 (e_p1 e196 (by decide))))
        · refine ev_aald (y := 32) (j := 2) rfl rfl rfl rfl (by unfold vp_in; decide) (by decide) rfl ?_
          refine ev_iload_n rfl rfl rfl ?_
          refine ev_ialW (n := 24) (l := 0) (u := 4095) hB b187 (by decide) (by decide) (fun _ => rfl) rfl rfl rfl (fun v197 b197 e197 => ?_)
          refine ev_S1P rfl rfl lk_X7_30 st_J6_bitCount_0f7a4 rfl rfl (w_any (c_bitCount (G0 L b) h v197)) (fun r198 q198 => ?_)
          refine ev_iaddA rfl rfl (fun v199 g199 => ?_)
          refine ev_istore_n rfl rfl rfl rfl ?_
          dsimp only [List.set]
          refine ev_iincB (y := 1) (l := 1) (u := 24) rfl rfl rfl (by decide) rfl rfl b187 (by decide : B 1 1 1) (by decide) (by decide) (by decide) (by decide) (fun v200 b200 e200 => ?_)
          dsimp only [List.set]
          refine ev_goto rfl rfl ?_
          exact (ih4 v199 v200 (b200.mono (by decide) (by decide)) (L_up hm4 (e_p1 e200 (by decide))))
        · refine ev_aald (y := 33) (j := 3) rfl rfl rfl rfl (by unfold vp_in; decide) (by decide) rfl ?_
          refine ev_iload_n rfl rfl rfl ?_
          refine ev_ialW (n := 24) (l := 0) (u := 4095) hB b187 (by decide) (by decide) (fun _ => rfl) rfl rfl rfl (fun v201 b201 e201 => ?_)
          refine ev_S1P rfl rfl lk_X7_30 st_J6_bitCount_0f7a4 rfl rfl (w_any (c_bitCount (G0 L b) h v201)) (fun r202 q202 => ?_)
          refine ev_iaddA rfl rfl (fun v203 g203 => ?_)
          refine ev_istore_n rfl rfl rfl rfl ?_
          dsimp only [List.set]
          refine ev_iincB (y := 1) (l := 1) (u := 24) rfl rfl rfl (by decide) rfl rfl b187 (by decide : B 1 1 1) (by decide) (by decide) (by decide) (by decide) (fun v204 b204 e204 => ?_)
          dsimp only [List.set]
          refine ev_goto rfl rfl ?_
          exact (ih4 v203 v204 (b204.mono (by decide) (by decide)) (L_up hm4 (e_p1 e204 (by decide))))
        · refine ev_aald (y := 34) (j := 4) rfl rfl rfl rfl (by unfold vp_in; decide) (by decide) rfl ?_
          refine ev_iload_n rfl rfl rfl ?_
          refine ev_ialW (n := 24) (l := 0) (u := 4095) hB b187 (by decide) (by decide) (fun _ => rfl) rfl rfl rfl (fun v205 b205 e205 => ?_)
          refine ev_S1P rfl rfl lk_X7_30 st_J6_bitCount_0f7a4 rfl rfl (w_any (c_bitCount (G0 L b) h v205)) (fun r206 q206 => ?_)
          refine ev_iaddA rfl rfl (fun v207 g207 => ?_)
          refine ev_istore_n rfl rfl rfl rfl ?_
          dsimp only [List.set]
          refine ev_iincB (y := 1) (l := 1) (u := 24) rfl rfl rfl (by decide) rfl rfl b187 (by decide : B 1 1 1) (by decide) (by decide) (by decide) (by decide) (fun v208 b208 e208 => ?_)
          dsimp only [List.set]
          refine ev_goto rfl rfl ?_
          exact (ih4 v207 v208 (b208.mono (by decide) (by decide)) (L_up hm4 (e_p1 e208 (by decide))))
        · refine ev_aald (y := 35) (j := 5) rfl rfl rfl rfl (by unfold vp_in; decide) (by decide) rfl ?_
          refine ev_iload_n rfl rfl rfl ?_
          refine ev_ialW (n := 24) (l := 0) (u := 4095) hB b187 (by decide) (by decide) (fun _ => rfl) rfl rfl rfl (fun v209 b209 e209 => ?_)
          refine ev_S1P rfl rfl lk_X7_30 st_J6_bitCount_0f7a4 rfl rfl (w_any (c_bitCount (G0 L b) h v209)) (fun r210 q210 => ?_)
          refine ev_iaddA rfl rfl (fun v211 g211 => ?_)
          refine ev_istore_n rfl rfl rfl rfl ?_
          dsimp only [List.set]
          refine ev_iincB (y := 1) (l := 1) (u := 24) rfl rfl rfl (by decide) rfl rfl b187 (by decide : B 1 1 1) (by decide) (by decide) (by decide) (by decide) (fun v212 b212 e212 => ?_)
          dsimp only [List.set]
          refine ev_goto rfl rfl ?_
          exact (ih4 v211 v212 (b212.mono (by decide) (by decide)) (L_up hm4 (e_p1 e212 (by decide))))
  exact (lp4_181 25 0 0 ((by decide : B 0 0 0).mono (by decide) (by decide)) (L_init (by decide : B 0 0 0) (by decide)))

set_option maxRecDepth 100000 in
set_option maxHeartbeats 4000000 in
theorem w_X7_has_28 (L : Nat) (b : Bool) (h : Hp) (hB : Bx h) (a0 : Int32) : EvP mi_X7_has [.ref 28, .int a0] (G0 L b) h (fun r : Int32 => B r 0 1 ∧ (¬ r = 0 → B a0 0 5)) := by
  refine EvM.of2 (lo := [some (.ref 28), some (.int a0)]) pf_X7_has ok_X7_has rfl rfl ?_
  refine ev_iconst (v := 0) rfl rfl (by decide) ?_
  refine ev_iload_n rfl rfl rfl ?_
  refine ev_icmp_gt rfl rfl (fun c1 => ?_) (fun c1 => ?_)
  · have b2 : B a0 (-2147483648) (-1) := R_ltX (B.any a0) (by decide : B 0 0 0) c1 (by decide)
    refine ev_iconst (v := 0) rfl rfl (by decide) ?_
    exact ev_iret rfl rfl rfl ⟨⟨_, rfl, ⟨((by decide : B 0 0 0).mono (by decide) (by decide)), (fun e_ => absurd rfl e_)⟩⟩, rfl, rfl⟩
  · have b3 : B a0 0 2147483647 := R_leY (by decide : B 0 0 0) (B.any a0) (Int32.not_lt.mp c1) (by decide)
    refine ev_iload_n rfl rfl rfl ?_
    refine ev_aload_n rfl rfl rfl ?_
    refine ev_getW (l := 0) (u := 6) hB rfl rfl rfl fl_X7_20 rfl rfl rfl (fun v4 b4 e4 => ?_)
    refine ev_icmp_ge rfl rfl (fun c5 => ?_) (fun c5 => ?_)
    · refine ev_iconst (v := 0) rfl rfl (by decide) ?_
      exact ev_iret rfl rfl rfl ⟨⟨_, rfl, ⟨((by decide : B 0 0 0).mono (by decide) (by decide)), (fun e_ => absurd rfl e_)⟩⟩, rfl, rfl⟩
    · have b6 : B a0 0 5 := R_ltX b3 b4 (Int32.not_le.mp c5) (by decide)
      have b7 : B v4 1 6 := R_ltY b3 b4 (Int32.not_le.mp c5) (by decide)
      refine ev_iconst (v := 1) rfl rfl (by decide) ?_
      refine ev_goto rfl rfl ?_
      exact ev_iret rfl rfl rfl ⟨⟨_, rfl, ⟨((by decide : B 1 1 1).mono (by decide) (by decide)), (fun _ => b6)⟩⟩, rfl, rfl⟩

set_option maxRecDepth 100000 in
set_option maxHeartbeats 4000000 in
theorem w_X9_isBeat_1_l10 (L : Nat) (b : Bool) (h : Hp) (hB : Bx h) (a0 : Int32) (a1 : Int32) : EvP mi_X9_isBeat [.ref 1, .int a0, .int a1, .int 10] (G0 L b) h (fun r : Int32 => B r 0 1 ∧ (¬ r = 0 → B a0 0 5) ∧ (¬ r = 0 → B a1 10 33)) := by
  refine EvM.of2 (lo := [some (.ref 1), some (.int a0), some (.int a1), some (.int 10)]) pf_X9_isBeat ok_X9_isBeat rfl rfl ?_
  refine ev_aload_n rfl rfl rfl ?_
  refine ev_getR (y := 28) rfl rfl fl_X9_43 rfl rfl rfl rfl ?_
  refine ev_iload_n rfl rfl rfl ?_
  refine ev_V1P rfl rfl lk_X9_195 vt_X7_has rfl rfl rfl rfl rfl (w_X7_has_28 L b h hB a0) (fun r1 q1 => ?_)
  obtain ⟨b1, p1_0⟩ := q1
  refine ev_if_eq rfl rfl (fun c2 => ?_) (fun c2 => ?_)
  · have b3 : B r1 0 0 := R_eqX b1 (by decide : B 0 0 0) c2
    refine ev_iconst (v := 0) rfl rfl (by decide) ?_
    exact ev_iret rfl rfl rfl ⟨⟨_, rfl, ⟨((by decide : B 0 0 0).mono (by decide) (by decide)), (fun e_ => absurd rfl e_), (fun e_ => absurd rfl e_)⟩⟩, rfl, rfl⟩
  · have b4 : B r1 1 1 := R_neL b1 (by decide : B 0 0 0) c2 (by decide)
    have b5 : B a0 0 5 := p1_0 c2
    refine ev_iload_n rfl rfl rfl ?_
    refine ev_iload_n rfl rfl rfl ?_
    refine ev_icmp_lt rfl rfl (fun c6 => ?_) (fun c6 => ?_)
    · have b7 : B a1 (-2147483648) 9 := R_ltX (B.any a1) (by decide : B 10 10 10) c6 (by decide)
      refine ev_iconst (v := 0) rfl rfl (by decide) ?_
      exact ev_iret rfl rfl rfl ⟨⟨_, rfl, ⟨((by decide : B 0 0 0).mono (by decide) (by decide)), (fun e_ => absurd rfl e_), (fun e_ => absurd rfl e_)⟩⟩, rfl, rfl⟩
    · have b8 : B a1 10 2147483647 := R_leY (by decide : B 10 10 10) (B.any a1) (Int32.not_lt.mp c6) (by decide)
      refine ev_iload_n rfl rfl rfl ?_
      refine ev_iload_n rfl rfl rfl ?_
      refine ev_isubB (l := 0) (u := 2147483637) rfl rfl b8 (by decide : B 10 10 10) (by decide) (by decide) (by decide) (by decide) (fun v9 b9 e9 g9 => ?_)
      refine ev_aload_n rfl rfl rfl ?_
      refine ev_getR (y := 28) rfl rfl fl_X9_43 rfl rfl rfl rfl ?_
      refine ev_getR (y := 36) rfl rfl fl_X9_196 rfl rfl rfl rfl ?_
      refine ev_iload_n rfl rfl rfl ?_
      refine ev_ialW (n := 6) (l := 0) (u := 24) hB b5 (by decide) (by decide) (fun _ => rfl) rfl rfl rfl (fun v10 b10 e10 => ?_)
      refine ev_icmp_ge rfl rfl (fun c11 => ?_) (fun c11 => ?_)
      · refine ev_iconst (v := 0) rfl rfl (by decide) ?_
        exact ev_iret rfl rfl rfl ⟨⟨_, rfl, ⟨((by decide : B 0 0 0).mono (by decide) (by decide)), (fun e_ => absurd rfl e_), (fun e_ => absurd rfl e_)⟩⟩, rfl, rfl⟩
      · have b12 : B v9 0 23 := R_ltX b9 b10 (Int32.not_le.mp c11) (by decide)
        have b13 : B a1 10 33 := (R_bks (l' := 10) (u' := 33) e9 b12 (by decide : B 10 10 10) (by decide) (by decide))
        have b14 : B v10 1 24 := R_ltY b9 b10 (Int32.not_le.mp c11) (by decide)
        refine ev_iconst (v := 1) rfl rfl (by decide) ?_
        refine ev_goto rfl rfl ?_
        exact ev_iret rfl rfl rfl ⟨⟨_, rfl, ⟨((by decide : B 1 1 1).mono (by decide) (by decide)), (fun _ => b5), (fun _ => b13)⟩⟩, rfl, rfl⟩

set_option maxRecDepth 100000 in
set_option maxHeartbeats 4000000 in
theorem w_X9_tuneOf_1 (L : Nat) (b : Bool) (h : Hp) (hB : Bx h) (a0 : Int32) (a1 : Int32) : EvP mi_X9_tuneOf [.ref 1, .int a0, .int a1] (G0 L b) h (fun r : Int32 => B r (-2147483648) 2147483647) := by
  refine EvM.of2 (lo := [some (.ref 1), some (.int a0), some (.int a1)]) pf_X9_tuneOf ok_X9_tuneOf rfl rfl ?_
  refine ev_aload_n rfl rfl rfl ?_
  refine ev_getR (y := 28) rfl rfl fl_X9_43 rfl rfl rfl rfl ?_
  refine ev_iload_n rfl rfl rfl ?_
  refine ev_V1P rfl rfl lk_X9_195 vt_X7_has rfl rfl rfl rfl rfl (w_X7_has_28 L b h hB a0) (fun r1 q1 => ?_)
  obtain ⟨b1, p1_0⟩ := q1
  refine ev_if_ne rfl rfl (fun c2 => ?_) (fun c2 => ?_)
  · have b3 : B r1 1 1 := R_neL b1 (by decide : B 0 0 0) c2 (by decide)
    have b4 : B a0 0 5 := p1_0 c2
    refine ev_iload_n rfl rfl rfl ?_
    rcases ev_sw a1 0 3 with w6 | w6
    · refine ev_tabOut 87 rfl w6 (by decide) ?_
      refine ev_aload_n rfl rfl rfl ?_
      refine ev_iload_n rfl rfl rfl ?_
      refine ev_iload_n rfl rfl rfl ?_
      refine ev_bipush (v := 10) rfl rfl (by decide) ?_
      refine ev_V3P rfl rfl lk_X9_210 vt_X9_isBeat rfl rfl rfl rfl rfl (w_X9_isBeat_1_l10 L b h hB a0 a1) (fun r7 q7 => ?_)
      obtain ⟨b7, p7_0, p7_1⟩ := q7
      refine ev_if_eq rfl rfl (fun c8 => ?_) (fun c8 => ?_)
      · have b9 : B r7 0 0 := R_eqX b7 (by decide : B 0 0 0) c8
        refine ev_iconst (v := (-1)) rfl rfl (by decide) ?_
        exact ev_iret rfl rfl rfl ⟨⟨_, rfl, ((by decide : B (-1) (-1) (-1)).mono (by decide) (by decide))⟩, rfl, rfl⟩
      · have b10 : B r7 1 1 := R_neL b7 (by decide : B 0 0 0) c8 (by decide)
        have b11 : B a1 10 33 := p7_1 c8
        refine ev_aload_n rfl rfl rfl ?_
        refine ev_getR (y := 28) rfl rfl fl_X9_43 rfl rfl rfl rfl ?_
        refine ev_getR (y := 29) rfl rfl fl_X9_213 rfl rfl rfl rfl ?_
        refine ev_iload_n rfl rfl rfl ?_
        rcases B.c6 b4 with rfl | rfl | rfl | rfl | rfl | rfl
        · refine ev_aald (y := 30) (j := 0) rfl rfl rfl rfl (by unfold vp_in; decide) (by decide) rfl ?_
          refine ev_iload_n rfl rfl rfl ?_
          refine ev_bipush (v := 10) rfl rfl (by decide) ?_
          refine ev_isubB (l := 0) (u := 23) rfl rfl b11 (by decide : B 10 10 10) (by decide) (by decide) (by decide) (by decide) (fun v12 b12 e12 g12 => ?_)
          refine ev_ialW (n := 24) (l := 0) (u := 4095) hB b12 (by decide) (by decide) (fun _ => rfl) rfl rfl rfl (fun v13 b13 e13 => ?_)
          refine ev_goto rfl rfl ?_
          exact ev_iret rfl rfl rfl ⟨⟨_, rfl, (b13.mono (by decide) (by decide))⟩, rfl, rfl⟩
        · refine ev_aald (y := 31) (j := 1) rfl rfl rfl rfl (by unfold vp_in; decide) (by decide) rfl ?_
          refine ev_iload_n rfl rfl rfl ?_
          refine ev_bipush (v := 10) rfl rfl (by decide) ?_
          refine ev_isubB (l := 0) (u := 23) rfl rfl b11 (by decide : B 10 10 10) (by decide) (by decide) (by decide) (by decide) (fun v14 b14 e14 g14 => ?_)
          refine ev_ialW (n := 24) (l := 0) (u := 4095) hB b14 (by decide) (by decide) (fun _ => rfl) rfl rfl rfl (fun v15 b15 e15 => ?_)
          refine ev_goto rfl rfl ?_
          exact ev_iret rfl rfl rfl ⟨⟨_, rfl, (b15.mono (by decide) (by decide))⟩, rfl, rfl⟩
        · refine ev_aald (y := 32) (j := 2) rfl rfl rfl rfl (by unfold vp_in; decide) (by decide) rfl ?_
          refine ev_iload_n rfl rfl rfl ?_
          refine ev_bipush (v := 10) rfl rfl (by decide) ?_
          refine ev_isubB (l := 0) (u := 23) rfl rfl b11 (by decide : B 10 10 10) (by decide) (by decide) (by decide) (by decide) (fun v16 b16 e16 g16 => ?_)
          refine ev_ialW (n := 24) (l := 0) (u := 4095) hB b16 (by decide) (by decide) (fun _ => rfl) rfl rfl rfl (fun v17 b17 e17 => ?_)
          refine ev_goto rfl rfl ?_
          exact ev_iret rfl rfl rfl ⟨⟨_, rfl, (b17.mono (by decide) (by decide))⟩, rfl, rfl⟩
        · refine ev_aald (y := 33) (j := 3) rfl rfl rfl rfl (by unfold vp_in; decide) (by decide) rfl ?_
          refine ev_iload_n rfl rfl rfl ?_
          refine ev_bipush (v := 10) rfl rfl (by decide) ?_
          refine ev_isubB (l := 0) (u := 23) rfl rfl b11 (by decide : B 10 10 10) (by decide) (by decide) (by decide) (by decide) (fun v18 b18 e18 g18 => ?_)
          refine ev_ialW (n := 24) (l := 0) (u := 4095) hB b18 (by decide) (by decide) (fun _ => rfl) rfl rfl rfl (fun v19 b19 e19 => ?_)
          refine ev_goto rfl rfl ?_
          exact ev_iret rfl rfl rfl ⟨⟨_, rfl, (b19.mono (by decide) (by decide))⟩, rfl, rfl⟩
        · refine ev_aald (y := 34) (j := 4) rfl rfl rfl rfl (by unfold vp_in; decide) (by decide) rfl ?_
          refine ev_iload_n rfl rfl rfl ?_
          refine ev_bipush (v := 10) rfl rfl (by decide) ?_
          refine ev_isubB (l := 0) (u := 23) rfl rfl b11 (by decide : B 10 10 10) (by decide) (by decide) (by decide) (by decide) (fun v20 b20 e20 g20 => ?_)
          refine ev_ialW (n := 24) (l := 0) (u := 4095) hB b20 (by decide) (by decide) (fun _ => rfl) rfl rfl rfl (fun v21 b21 e21 => ?_)
          refine ev_goto rfl rfl ?_
          exact ev_iret rfl rfl rfl ⟨⟨_, rfl, (b21.mono (by decide) (by decide))⟩, rfl, rfl⟩
        · refine ev_aald (y := 35) (j := 5) rfl rfl rfl rfl (by unfold vp_in; decide) (by decide) rfl ?_
          refine ev_iload_n rfl rfl rfl ?_
          refine ev_bipush (v := 10) rfl rfl (by decide) ?_
          refine ev_isubB (l := 0) (u := 23) rfl rfl b11 (by decide : B 10 10 10) (by decide) (by decide) (by decide) (by decide) (fun v22 b22 e22 g22 => ?_)
          refine ev_ialW (n := 24) (l := 0) (u := 4095) hB b22 (by decide) (by decide) (fun _ => rfl) rfl rfl rfl (fun v23 b23 e23 => ?_)
          refine ev_goto rfl rfl ?_
          exact ev_iret rfl rfl rfl ⟨⟨_, rfl, (b23.mono (by decide) (by decide))⟩, rfl, rfl⟩
    · have w6b : a1 = 0 ∨ a1 = 1 ∨ a1 = 2 ∨ a1 = 3 := sw_or4_0 w6
      rcases w6b with rfl | rfl | rfl | rfl
      · refine ev_tabIn 44 rfl (by decide) (by decide) rfl (by decide) ?_
        refine ev_aload_n rfl rfl rfl ?_
        refine ev_getR (y := 28) rfl rfl fl_X9_43 rfl rfl rfl rfl ?_
        refine ev_getR (y := 36) rfl rfl fl_X9_196 rfl rfl rfl rfl ?_
        refine ev_iload_n rfl rfl rfl ?_
        refine ev_ialW (n := 6) (l := 0) (u := 24) hB b4 (by decide) (by decide) (fun _ => rfl) rfl rfl rfl (fun v24 b24 e24 => ?_)
        exact ev_iret rfl rfl rfl ⟨⟨_, rfl, (b24.mono (by decide) (by decide))⟩, rfl, rfl⟩
      · refine ev_tabIn 54 rfl (by decide) (by decide) rfl (by decide) ?_
        refine ev_aload_n rfl rfl rfl ?_
        refine ev_getR (y := 28) rfl rfl fl_X9_43 rfl rfl rfl rfl ?_
        refine ev_iload_n rfl rfl rfl ?_
        refine ev_V1P rfl rfl lk_X9_198 vt_X7_sounding rfl rfl rfl rfl rfl (w_X7_sounding_28 L b h hB a0 b4) (fun r25 q25 => ?_)
        exact ev_iret rfl rfl rfl ⟨⟨_, rfl, (B.any r25)⟩, rfl, rfl⟩
      · refine ev_tabIn 63 rfl (by decide) (by decide) rfl (by decide) ?_
        refine ev_aload_n rfl rfl rfl ?_
        refine ev_getR (y := 28) rfl rfl fl_X9_43 rfl rfl rfl rfl ?_
        refine ev_iload_n rfl rfl rfl ?_
        refine ev_V1P rfl rfl lk_X9_201 vt_X7_whistlesOf rfl rfl rfl rfl rfl (w_X7_whistlesOf_28 L b h hB a0 b4) (fun r26 q26 => ?_)
        refine ev_S1P rfl rfl lk_X9_204 st_X9_leastOf rfl rfl (w_X9_leastOf L b h hB r26) (fun r27 q27 => ?_)
        exact ev_iret rfl rfl rfl ⟨⟨_, rfl, (B.any r27)⟩, rfl, rfl⟩
      · refine ev_tabIn 75 rfl (by decide) (by decide) rfl (by decide) ?_
        refine ev_aload_n rfl rfl rfl ?_
        refine ev_getR (y := 28) rfl rfl fl_X9_43 rfl rfl rfl rfl ?_
        refine ev_iload_n rfl rfl rfl ?_
        refine ev_V1P rfl rfl lk_X9_201 vt_X7_whistlesOf rfl rfl rfl rfl rfl (w_X7_whistlesOf_28 L b h hB a0 b4) (fun r28 q28 => ?_)
        refine ev_S1P rfl rfl lk_X9_207 st_X9_greatestOf rfl rfl (w_X9_greatestOf L b h hB r28) (fun r29 q29 => ?_)
        exact ev_iret rfl rfl rfl ⟨⟨_, rfl, (q29.mono (by decide) (by decide))⟩, rfl, rfl⟩
  · have b5 : B r1 0 0 := R_eqX b1 (by decide : B 0 0 0) c2
    refine ev_iconst (v := (-1)) rfl rfl (by decide) ?_
    exact ev_iret rfl rfl rfl ⟨⟨_, rfl, ((by decide : B (-1) (-1) (-1)).mono (by decide) (by decide))⟩, rfl, rfl⟩

set_option maxRecDepth 100000 in
set_option maxHeartbeats 4000000 in
theorem w_X9_isKey (L : Nat) (b : Bool) (h : Hp) (hB : Bx h) (a0 : Int32) : EvP mi_X9_isKey [.int a0] (G0 L b) h (fun r : Int32 => B r 0 1 ∧ (¬ r = 0 → B a0 (-11) 11)) := by
  refine EvM.of2 (lo := [some (.int a0)]) pf_X9_isKey ok_X9_isKey rfl rfl ?_
  refine ev_iload_n rfl rfl rfl ?_
  refine ev_bipush (v := (-11)) rfl rfl (by decide) ?_
  refine ev_bipush (v := 11) rfl rfl (by decide) ?_
  refine ev_S3P rfl rfl lk_X9_75 st_X9_isWithin rfl rfl (w_isWithin (G0 L b) h a0 (-11) 11 (by decide : B (-11) (-11) (-11)) (by decide : B 11 11 11)) (fun r1 q1 => ?_)
  obtain ⟨b1, p1_0⟩ := q1
  exact ev_iret rfl rfl (ev_rtB b1) ⟨⟨_, rfl, ⟨b1, (fun e_ => (p1_0 e_).mono (by decide) (by decide))⟩⟩, rfl, rfl⟩

