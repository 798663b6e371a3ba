set_option maxRecDepth 100000 in
set_option maxHeartbeats 4000000 in
theorem w_X7_chordIn_28 (L : Nat) (b : Bool) (h : Hp) (hB : Bx h) (a0 : Int32) (p0 : B a0 0 5) (a1 : Int32) (p1 : B a1 0 23) (a2 : Int32) : EvP mi_X7_chordIn [.ref 28, .int a0, .int a1, .int a2] (G0 L b) h (fun r : Int32 => B r (-2147483648) 2147483647) := by
  refine EvM.of2 (lo := [some (.ref 28), some (.int a0), some (.int a1), some (.int a2), none]) pf_X7_chordIn ok_X7_chordIn rfl rfl ?_
  refine ev_aload_n rfl rfl rfl ?_
  refine ev_getR (y := 29) rfl rfl fl_X7_11 rfl rfl rfl rfl ?_
  refine ev_iload_n rfl rfl rfl ?_
  rcases B.c6 p0 with rfl | rfl | rfl | rfl | rfl | rfl
  · refine ev_aald (y := 30) (j := 0) rfl rfl rfl rfl (by unfold vp_in; decide) (by decide) rfl ?_
    refine ev_iload_n rfl rfl rfl ?_
    refine ev_ialW (n := 24) (l := 0) (u := 4095) hB p1 (by decide) (by decide) (fun _ => rfl) rfl rfl rfl (fun v1 b1 e1 => ?_)
    refine ev_istore rfl rfl rfl rfl ?_
    dsimp only [List.set]
    refine ev_iload_n rfl rfl rfl ?_
    refine ev_if_lt rfl rfl (fun c2 => ?_) (fun c2 => ?_)
    · have b3 : B a2 (-2147483648) (-1) := R_ltX (B.any a2) (by decide : B 0 0 0) c2 (by decide)
      refine ev_iload rfl rfl rfl ?_
      refine ev_iload_n rfl rfl rfl ?_
      refine ev_inegA rfl rfl (fun v5 => ?_)
      refine ev_ishrA rfl rfl (fun v6 => ?_)
      exact ev_iret rfl rfl rfl ⟨⟨_, rfl, (B.any v6)⟩, rfl, rfl⟩
    · have b4 : B a2 0 2147483647 := R_leY (by decide : B 0 0 0) (B.any a2) (Int32.not_lt.mp c2) (by decide)
      refine ev_iload rfl rfl rfl ?_
      refine ev_iload_n rfl rfl rfl ?_
      refine ev_ishlA rfl rfl (fun v7 => ?_)
      refine ev_goto rfl rfl ?_
      exact ev_iret rfl rfl rfl ⟨⟨_, rfl, (B.any v7)⟩, rfl, rfl⟩
  · refine ev_aald (y := 31) (j := 1) rfl rfl rfl rfl (by unfold vp_in; decide) (by decide) rfl ?_
    refine ev_iload_n rfl rfl rfl ?_
    refine ev_ialW (n := 24) (l := 0) (u := 4095) hB p1 (by decide) (by decide) (fun _ => rfl) rfl rfl rfl (fun v8 b8 e8 => ?_)
    refine ev_istore rfl rfl rfl rfl ?_
    dsimp only [List.set]
    refine ev_iload_n rfl rfl rfl ?_
    refine ev_if_lt rfl rfl (fun c9 => ?_) (fun c9 => ?_)
    · have b10 : B a2 (-2147483648) (-1) := R_ltX (B.any a2) (by decide : B 0 0 0) c9 (by decide)
      refine ev_iload rfl rfl rfl ?_
      refine ev_iload_n rfl rfl rfl ?_
      refine ev_inegA rfl rfl (fun v12 => ?_)
      refine ev_ishrA rfl rfl (fun v13 => ?_)
      exact ev_iret rfl rfl rfl ⟨⟨_, rfl, (B.any v13)⟩, rfl, rfl⟩
    · have b11 : B a2 0 2147483647 := R_leY (by decide : B 0 0 0) (B.any a2) (Int32.not_lt.mp c9) (by decide)
      refine ev_iload rfl rfl rfl ?_
      refine ev_iload_n rfl rfl rfl ?_
      refine ev_ishlA rfl rfl (fun v14 => ?_)
      refine ev_goto rfl rfl ?_
      exact ev_iret rfl rfl rfl ⟨⟨_, rfl, (B.any v14)⟩, rfl, rfl⟩
  · refine ev_aald (y := 32) (j := 2) rfl rfl rfl rfl (by unfold vp_in; decide) (by decide) rfl ?_
    refine ev_iload_n rfl rfl rfl ?_
    refine ev_ialW (n := 24) (l := 0) (u := 4095) hB p1 (by decide) (by decide) (fun _ => rfl) rfl rfl rfl (fun v15 b15 e15 => ?_)
    refine ev_istore rfl rfl rfl rfl ?_
    dsimp only [List.set]
    refine ev_iload_n rfl rfl rfl ?_
    refine ev_if_lt rfl rfl (fun c16 => ?_) (fun c16 => ?_)
    · have b17 : B a2 (-2147483648) (-1) := R_ltX (B.any a2) (by decide : B 0 0 0) c16 (by decide)
      refine ev_iload rfl rfl rfl ?_
      refine ev_iload_n rfl rfl rfl ?_
      refine ev_inegA rfl rfl (fun v19 => ?_)
      refine ev_ishrA rfl rfl (fun v20 => ?_)
      exact ev_iret rfl rfl rfl ⟨⟨_, rfl, (B.any v20)⟩, rfl, rfl⟩
    · have b18 : B a2 0 2147483647 := R_leY (by decide : B 0 0 0) (B.any a2) (Int32.not_lt.mp c16) (by decide)
      refine ev_iload rfl rfl rfl ?_
      refine ev_iload_n rfl rfl rfl ?_
      refine ev_ishlA rfl rfl (fun v21 => ?_)
      refine ev_goto rfl rfl ?_
      exact ev_iret rfl rfl rfl ⟨⟨_, rfl, (B.any v21)⟩, rfl, rfl⟩
  · refine ev_aald (y := 33) (j := 3) rfl rfl rfl rfl (by unfold vp_in; decide) (by decide) rfl ?_
    refine ev_iload_n rfl rfl rfl ?_
    refine ev_ialW (n := 24) (l := 0) (u := 4095) hB p1 (by decide) (by decide) (fun _ => rfl) rfl rfl rfl (fun v22 b22 e22 => ?_)
    refine ev_istore rfl rfl rfl rfl ?_
    dsimp only [List.set]
    refine ev_iload_n rfl rfl rfl ?_
    refine ev_if_lt rfl rfl (fun c23 => ?_) (fun c23 => ?_)
    · have b24 : B a2 (-2147483648) (-1) := R_ltX (B.any a2) (by decide : B 0 0 0) c23 (by decide)
      refine ev_iload rfl rfl rfl ?_
      refine ev_iload_n rfl rfl rfl ?_
      refine ev_inegA rfl rfl (fun v26 => ?_)
      refine ev_ishrA rfl rfl (fun v27 => ?_)
      exact ev_iret rfl rfl rfl ⟨⟨_, rfl, (B.any v27)⟩, rfl, rfl⟩
    · have b25 : B a2 0 2147483647 := R_leY (by decide : B 0 0 0) (B.any a2) (Int32.not_lt.mp c23) (by decide)
      refine ev_iload rfl rfl rfl ?_
      refine ev_iload_n rfl rfl rfl ?_
      refine ev_ishlA rfl rfl (fun v28 => ?_)
      refine ev_goto rfl rfl ?_
      exact ev_iret rfl rfl rfl ⟨⟨_, rfl, (B.any v28)⟩, rfl, rfl⟩
  · refine ev_aald (y := 34) (j := 4) rfl rfl rfl rfl (by unfold vp_in; decide) (by decide) rfl ?_
    refine ev_iload_n rfl rfl rfl ?_
    refine ev_ialW (n := 24) (l := 0) (u := 4095) hB p1 (by decide) (by decide) (fun _ => rfl) rfl rfl rfl (fun v29 b29 e29 => ?_)
    refine ev_istore rfl rfl rfl rfl ?_
    dsimp only [List.set]
    refine ev_iload_n rfl rfl rfl ?_
    refine ev_if_lt rfl rfl (fun c30 => ?_) (fun c30 => ?_)
    · have b31 : B a2 (-2147483648) (-1) := R_ltX (B.any a2) (by decide : B 0 0 0) c30 (by decide)
      refine ev_iload rfl rfl rfl ?_
      refine ev_iload_n rfl rfl rfl ?_
      refine ev_inegA rfl rfl (fun v33 => ?_)
      refine ev_ishrA rfl rfl (fun v34 => ?_)
      exact ev_iret rfl rfl rfl ⟨⟨_, rfl, (B.any v34)⟩, rfl, rfl⟩
    · have b32 : B a2 0 2147483647 := R_leY (by decide : B 0 0 0) (B.any a2) (Int32.not_lt.mp c30) (by decide)
      refine ev_iload rfl rfl rfl ?_
      refine ev_iload_n rfl rfl rfl ?_
      refine ev_ishlA rfl rfl (fun v35 => ?_)
      refine ev_goto rfl rfl ?_
      exact ev_iret rfl rfl rfl ⟨⟨_, rfl, (B.any v35)⟩, rfl, rfl⟩
  · refine ev_aald (y := 35) (j := 5) rfl rfl rfl rfl (by unfold vp_in; decide) (by decide) rfl ?_
    refine ev_iload_n rfl rfl rfl ?_
    refine ev_ialW (n := 24) (l := 0) (u := 4095) hB p1 (by decide) (by decide) (fun _ => rfl) rfl rfl rfl (fun v36 b36 e36 => ?_)
    refine ev_istore rfl rfl rfl rfl ?_
    dsimp only [List.set]
    refine ev_iload_n rfl rfl rfl ?_
    refine ev_if_lt rfl rfl (fun c37 => ?_) (fun c37 => ?_)
    · have b38 : B a2 (-2147483648) (-1) := R_ltX (B.any a2) (by decide : B 0 0 0) c37 (by decide)
      refine ev_iload rfl rfl rfl ?_
      refine ev_iload_n rfl rfl rfl ?_
      refine ev_inegA rfl rfl (fun v40 => ?_)
      refine ev_ishrA rfl rfl (fun v41 => ?_)
      exact ev_iret rfl rfl rfl ⟨⟨_, rfl, (B.any v41)⟩, rfl, rfl⟩
    · have b39 : B a2 0 2147483647 := R_leY (by decide : B 0 0 0) (B.any a2) (Int32.not_lt.mp c37) (by decide)
      refine ev_iload rfl rfl rfl ?_
      refine ev_iload_n rfl rfl rfl ?_
      refine ev_ishlA rfl rfl (fun v42 => ?_)
      refine ev_goto rfl rfl ?_
      exact ev_iret rfl rfl rfl ⟨⟨_, rfl, (B.any v42)⟩, rfl, rfl⟩

set_option maxRecDepth 100000 in
set_option maxHeartbeats 4000000 in
theorem w_X7_whistlesOf_28 (L : Nat) (b : Bool) (h : Hp) (hB : Bx h) (a0 : Int32) (p0 : B a0 0 5) : EvP mi_X7_whistlesOf [.ref 28, .int a0] (G0 L b) h (fun r : Int32 => B r (-2147483648) 2147483647) := by
  refine EvM.of2 (lo := [some (.ref 28), some (.int a0), none, none]) pf_X7_whistlesOf ok_X7_whistlesOf rfl rfl ?_
  refine ev_iconst (v := 0) rfl rfl (by decide) ?_
  refine ev_istore_n rfl rfl rfl rfl ?_
  dsimp only [List.set]
  refine ev_iconst (v := 0) rfl rfl (by decide) ?_
  refine ev_istore_n rfl rfl rfl rfl ?_
  dsimp only [List.set]
  have lp4_145 : ∀ (n : Nat) (w146 : Int32) (w147 : Int32), B w147 0 24 → 24 + 1 - w147.toInt ≤ (n : Int) → EvQ mi_X7_whistlesOf 4 [some (.ref 28), some (.int a0), some (.int w146), some (.int w147)] [] (G0 L b) h 0 0 (QP (fun r : Int32 => B r (-2147483648) 2147483647) (G0 L b) h) := by
    intro n
    induction n with
    | zero =>
      intro w146 w147 b148 hm4
      exact absurd hm4 (L_zero b148 (by decide))
    | succ n ih4 =>
      intro w146 w147 b148 hm4
      refine ev_iload_n rfl rfl rfl ?_
      refine ev_aload_n rfl rfl rfl ?_
      refine ev_getR (y := 36) rfl rfl fl_X7_16 rfl rfl rfl rfl ?_
      refine ev_iload_n rfl rfl rfl ?_
      refine ev_ialW (n := 6) (l := 0) (u := 24) hB p0 (by decide) (by decide) (fun _ => rfl) rfl rfl rfl (fun v149 b149 e149 => ?_)
      refine ev_icmp_ge rfl rfl (fun c150 => ?_) (fun c150 => ?_)
      · refine ev_iload_n rfl rfl rfl ?_
        exact ev_iret rfl rfl rfl ⟨⟨_, rfl, (B.any w146)⟩, rfl, rfl⟩
      · have b151 : B w147 0 23 := R_ltX b148 b149 (Int32.not_le.mp c150) (by decide)
        have b152 : B v149 1 24 := R_ltY b148 b149 (Int32.not_le.mp c150) (by decide)
        refine ev_iload_n rfl rfl rfl ?_
        refine ev_aload_n rfl rfl rfl ?_
        refine ev_getR (y := 29) rfl rfl fl_X7_11 rfl rfl rfl rfl ?_
        refine ev_iload_n rfl rfl rfl ?_
        rcases B.c6 p0 with rfl | rfl | rfl | rfl | rfl | rfl
        · refine ev_aald (y := 30) (j := 0) rfl rfl rfl rfl (by unfold vp_in; decide) (by decide) rfl ?_
          refine ev_iload_n rfl rfl rfl ?_
          refine ev_ialW (n := 24) (l := 0) (u := 4095) hB b151 (by decide) (by decide) (fun _ => rfl) rfl rfl rfl (fun v153 b153 e153 => ?_)
          refine ev_iorA rfl rfl (fun v154 => ?_)
          refine ev_istore_n rfl rfl rfl rfl ?_
          dsimp only [List.set]
          refine ev_iincB (y := 1) (l := 1) (u := 24) rfl rfl rfl (by decide) rfl rfl b151 (by decide : B 1 1 1) (by decide) (by decide) (by decide) (by decide) (fun v155 b155 e155 => ?_)
          dsimp only [List.set]
          refine ev_goto rfl rfl ?_
          exact (ih4 v154 v155 (b155.mono (by decide) (by decide)) (L_up hm4 (e_p1 e155 (by decide))))
        · refine ev_aald (y := 31) (j := 1) rfl rfl rfl rfl (by unfold vp_in; decide) (by decide) rfl ?_
          refine ev_iload_n rfl rfl rfl ?_
          refine ev_ialW (n := 24) (l := 0) (u := 4095) hB b151 (by decide) (by decide) (fun _ => rfl) rfl rfl rfl (fun v156 b156 e156 => ?_)
          refine ev_iorA rfl rfl (fun v157 => ?_)
          refine ev_istore_n rfl rfl rfl rfl ?_
          dsimp only [List.set]
          refine ev_iincB (y := 1) (l := 1) (u := 24) rfl rfl rfl (by decide) rfl rfl b151 (by decide : B 1 1 1) (by decide) (by decide) (by decide) (by decide) (fun v158 b158 e158 => ?_)
          dsimp only [List.set]
          refine ev_goto rfl rfl ?_
          exact (ih4 v157 v158 (b158.mono (by decide) (by decide)) (L_up hm4 (e_p1 e158 (by decide))))
        · refine ev_aald (y := 32) (j := 2) rfl rfl rfl rfl (by unfold vp_in; decide) (by decide) rfl ?_
          refine ev_iload_n rfl rfl rfl ?_
          refine ev_ialW (n := 24) (l := 0) (u := 4095) hB b151 (by decide) (by decide) (fun _ => rfl) rfl rfl rfl (fun v159 b159 e159 => ?_)
          refine ev_iorA rfl rfl (fun v160 => ?_)
          refine ev_istore_n rfl rfl rfl rfl ?_
          dsimp only [List.set]
          refine ev_iincB (y := 1) (l := 1) (u := 24) rfl rfl rfl (by decide) rfl rfl b151 (by decide : B 1 1 1) (by decide) (by decide) (by decide) (by decide) (fun v161 b161 e161 => ?_)
          dsimp only [List.set]
          refine ev_goto rfl rfl ?_
          exact (ih4 v160 v161 (b161.mono (by decide) (by decide)) (L_up hm4 (e_p1 e161 (by decide))))
        · refine ev_aald (y := 33) (j := 3) rfl rfl rfl rfl (by unfold vp_in; decide) (by decide) rfl ?_
          refine ev_iload_n rfl rfl rfl ?_
          refine ev_ialW (n := 24) (l := 0) (u := 4095) hB b151 (by decide) (by decide) (fun _ => rfl) rfl rfl rfl (fun v162 b162 e162 => ?_)
          refine ev_iorA rfl rfl (fun v163 => ?_)
          refine ev_istore_n rfl rfl rfl rfl ?_
          dsimp only [List.set]
          refine ev_iincB (y := 1) (l := 1) (u := 24) rfl rfl rfl (by decide) rfl rfl b151 (by decide : B 1 1 1) (by decide) (by decide) (by decide) (by decide) (fun v164 b164 e164 => ?_)
          dsimp only [List.set]
          refine ev_goto rfl rfl ?_
          exact (ih4 v163 v164 (b164.mono (by decide) (by decide)) (L_up hm4 (e_p1 e164 (by decide))))
        · refine ev_aald (y := 34) (j := 4) rfl rfl rfl rfl (by unfold vp_in; decide) (by decide) rfl ?_
          refine ev_iload_n rfl rfl rfl ?_
          refine ev_ialW (n := 24) (l := 0) (u := 4095) hB b151 (by decide) (by decide) (fun _ => rfl) rfl rfl rfl (fun v165 b165 e165 => ?_)
          refine ev_iorA rfl rfl (fun v166 => ?_)
          refine ev_istore_n rfl rfl rfl rfl ?_
          dsimp only [List.set]
          refine ev_iincB (y := 1) (l := 1) (u := 24) rfl rfl rfl (by decide) rfl rfl b151 (by decide : B 1 1 1) (by decide) (by decide) (by decide) (by decide) (fun v167 b167 e167 => ?_)
          dsimp only [List.set]
          refine ev_goto rfl rfl ?_
          exact (ih4 v166 v167 (b167.mono (by decide) (by decide)) (L_up hm4 (e_p1 e167 (by decide))))
        · refine ev_aald (y := 35) (j := 5) rfl rfl rfl rfl (by unfold vp_in; decide) (by decide) rfl ?_
          refine ev_iload_n rfl rfl rfl ?_
          refine ev_ialW (n := 24) (l := 0) (u := 4095) hB b151 (by decide) (by decide) (fun _ => rfl) rfl rfl rfl (fun v168 b168 e168 => ?_)
          refine ev_iorA rfl rfl (fun v169 => ?_)
          refine ev_istore_n rfl rfl rfl rfl ?_
          dsimp only [List.set]
          refine ev_iincB (y := 1) (l := 1) (u := 24) rfl rfl rfl (by decide) rfl rfl b151 (by decide : B 1 1 1) (by decide) (by decide) (by decide) (by decide) (fun v170 b170 e170 => ?_)
          dsimp only [List.set]
          refine ev_goto rfl rfl ?_
          exact (ih4 v169 v170 (b170.mono (by decide) (by decide)) (L_up hm4 (e_p1 e170 (by decide))))
  exact (lp4_145 25 0 0 ((by decide : B 0 0 0).mono (by decide) (by decide)) (L_init (by decide : B 0 0 0) (by decide)))

set_option maxRecDepth 100000 in
set_option maxHeartbeats 4000000 in
theorem w_X9_leastOf (L : Nat) (b : Bool) (h : Hp) (hB : Bx h) (a0 : Int32) : EvP mi_X9_leastOf [.int a0] (G0 L b) h (fun r : Int32 => B r (-2147483648) 2147483647) := by
  refine EvM.of2 (lo := [some (.int a0)]) pf_X9_leastOf ok_X9_leastOf rfl rfl ?_
  refine ev_iload_n rfl rfl rfl ?_
  refine ev_if_ne rfl rfl (fun c1 => ?_) (fun c1 => ?_)
  · refine ev_iload_n rfl rfl rfl ?_
    refine ev_iload_n rfl rfl rfl ?_
    refine ev_inegA rfl rfl (fun v3 => ?_)
    refine ev_iandA rfl rfl (fun v4 => ?_)
    refine ev_iconst (v := 1) rfl rfl (by decide) ?_
    refine ev_isubA rfl rfl (fun v5 g5 => ?_)
    refine ev_S1P rfl rfl lk_X9_341 st_J6_bitCount_0f7a4 rfl rfl (w_any (c_bitCount (G0 L b) h v5)) (fun r6 q6 => ?_)
    exact ev_iret rfl rfl rfl ⟨⟨_, rfl, (B.any r6)⟩, rfl, rfl⟩
  · have b2 : B a0 0 0 := R_eqX (B.any a0) (by decide : B 0 0 0) c1
    refine ev_bipush (v := (-4)) rfl rfl (by decide) ?_
    refine ev_goto rfl rfl ?_
    exact ev_iret rfl rfl rfl ⟨⟨_, rfl, ((by decide : B (-4) (-4) (-4)).mono (by decide) (by decide))⟩, rfl, rfl⟩

set_option maxRecDepth 100000 in
set_option maxHeartbeats 4000000 in
theorem w_X9_greatestOf (L : Nat) (b : Bool) (h : Hp) (hB : Bx h) (a0 : Int32) : EvP mi_X9_greatestOf [.int a0] (G0 L b) h (fun r : Int32 => B r (-4) 11) := by
  refine EvM.of2 (lo := [some (.int a0), none]) pf_X9_greatestOf ok_X9_greatestOf rfl rfl ?_
  refine ev_bipush (v := 11) rfl rfl (by decide) ?_
  refine ev_istore_n rfl rfl rfl rfl ?_
  dsimp only [List.set]
  have lp3_49 : ∀ (n : Nat) (w50 : Int32), B w50 (-1) 11 → w50.toInt + 1 - (-1) ≤ (n : Int) → EvQ mi_X9_greatestOf 3 [some (.int a0), some (.int w50)] [] (G0 L b) h 0 0 (QP (fun r : Int32 => B r (-4) 11) (G0 L b) h) := by
    intro n
    induction n with
    | zero =>
      intro w50 b51 hm3
      exact absurd hm3 (M_zero b51 (by decide))
    | succ n ih3 =>
      intro w50 b51 hm3
      refine ev_iload_n rfl rfl rfl ?_
      refine ev_if_lt rfl rfl (fun c52 => ?_) (fun c52 => ?_)
      · have b53 : B w50 (-1) (-1) := R_ltX b51 (by decide : B 0 0 0) c52 (by decide)
        refine ev_bipush (v := (-4)) rfl rfl (by decide) ?_
        exact ev_iret rfl rfl rfl ⟨⟨_, rfl, ((by decide : B (-4) (-4) (-4)).mono (by decide) (by decide))⟩, rfl, rfl⟩
      · have b54 : B w50 0 11 := R_leY (by decide : B 0 0 0) b51 (Int32.not_lt.mp c52) (by decide)
        refine ev_iload_n rfl rfl rfl ?_
        refine ev_iload_n rfl rfl rfl ?_
        refine ev_ishrA rfl rfl (fun v55 => ?_)
        refine ev_iconst (v := 1) rfl rfl (by decide) ?_
        refine ev_iandB rfl rfl (by decide : B 1 1 1) (by decide) (fun v56 b56 e56 => ?_)
        refine ev_if_eq rfl rfl (fun c57 => ?_) (fun c57 => ?_)
        · have b58 : B v56 0 0 := R_eqX b56 (by decide : B 0 0 0) c57
          refine ev_iincB (y := (-1)) (l := -1) (u := 10) rfl rfl rfl (by decide) rfl rfl b54 (by decide : B (-1) (-1) (-1)) (by decide) (by decide) (by decide) (by decide) (fun v60 b60 e60 => ?_)
          dsimp only [List.set]
          refine ev_goto rfl rfl ?_
          exact (ih3 v60 (b60.mono (by decide) (by decide)) (M_dn hm3 (e_m1 e60 (by decide))))
        · have b59 : B v56 1 1 := R_neL b56 (by decide : B 0 0 0) c57 (by decide)
          refine ev_iload_n rfl rfl rfl ?_
          exact ev_iret rfl rfl rfl ⟨⟨_, rfl, (b54.mono (by decide) (by decide))⟩, rfl, rfl⟩
  exact (lp3_49 13 11 ((by decide : B 11 11 11).mono (by decide) (by decide)) (M_init (by decide : B 11 11 11) (by decide)))

set_option maxRecDepth 100000 in
set_option maxHeartbeats 4000000 in
theorem w_X7_goes_28 (L : Nat) (b : Bool) (h : Hp) (hB : Bx h) (a0 : Int32) (p0 : B a0 0 5) (a1 : Int32) (a2 : Int32) : EvP mi_X7_goes [.ref 28, .int a0, .int a1, .int a2] (G0 L b) h (fun r : Int32 => B r 0 1) := by
  refine EvM.of2 (lo := [some (.ref 28), some (.int a0), some (.int a1), some (.int a2), none]) pf_X7_goes ok_X7_goes rfl rfl ?_
  refine ev_aload_n rfl rfl rfl ?_
  refine ev_iload_n rfl rfl rfl ?_
  refine ev_V1P rfl rfl lk_X7_36 vt_X7_whistlesOf rfl rfl rfl rfl rfl (w_X7_whistlesOf_28 L b h hB a0 p0) (fun r1 q1 => ?_)
  refine ev_istore rfl rfl rfl rfl ?_
  dsimp only [List.set]
  refine ev_iload rfl rfl rfl ?_
  refine ev_if_eq rfl rfl (fun c2 => ?_) (fun c2 => ?_)
  · have b3 : B r1 0 0 := R_eqX (B.any r1) (by decide : B 0 0 0) c2
    refine ev_iconst (v := 1) rfl rfl (by decide) ?_
    refine ev_goto rfl rfl ?_
    exact ev_iret rfl rfl rfl ⟨⟨_, rfl, ((by decide : B 1 1 1).mono (by decide) (by decide))⟩, rfl, rfl⟩
  · refine ev_iload rfl rfl rfl ?_
    refine ev_SN1P rfl rfl lk_X7_39 st_X9_leastOf rfl rfl (w_X9_leastOf L b h hB r1) (fun r4 q4 => ?_)
    refine ev_iload_n rfl rfl rfl ?_
    refine ev_iaddA rfl rfl (fun v5 g5 => ?_)
    refine ev_if_lt rfl rfl (fun c6 => ?_) (fun c6 => ?_)
    · have b7 : B v5 (-2147483648) (-1) := R_ltX (B.any v5) (by decide : B 0 0 0) c6 (by decide)
      refine ev_iconst (v := 0) rfl rfl (by decide) ?_
      exact ev_iret rfl rfl rfl ⟨⟨_, rfl, ((by decide : B 0 0 0).mono (by decide) (by decide))⟩, rfl, rfl⟩
    · have b8 : B v5 0 2147483647 := R_leY (by decide : B 0 0 0) (B.any v5) (Int32.not_lt.mp c6) (by decide)
      refine ev_iload rfl rfl rfl ?_
      refine ev_SN1P rfl rfl lk_X7_42 st_X9_greatestOf rfl rfl (w_X9_greatestOf L b h hB r1) (fun r9 q9 => ?_)
      refine ev_iload_n rfl rfl rfl ?_
      refine ev_iaddA rfl rfl (fun v10 g10 => ?_)
      refine ev_iload_n rfl rfl rfl ?_
      refine ev_icmp_ge rfl rfl (fun c11 => ?_) (fun c11 => ?_)
      · refine ev_iconst (v := 0) rfl rfl (by decide) ?_
        exact ev_iret rfl rfl rfl ⟨⟨_, rfl, ((by decide : B 0 0 0).mono (by decide) (by decide))⟩, rfl, rfl⟩
      · have b12 : B v10 (-2147483648) 2147483646 := R_ltX (B.any v10) (B.any a2) (Int32.not_le.mp c11) (by decide)
        have b13 : B a2 (-2147483647) 2147483647 := R_ltY (B.any v10) (B.any a2) (Int32.not_le.mp c11) (by decide)
        refine ev_iconst (v := 1) rfl rfl (by decide) ?_
        refine ev_goto rfl rfl ?_
        exact ev_iret rfl rfl rfl ⟨⟨_, rfl, ((by decide : B 1 1 1).mono (by decide) (by decide))⟩, rfl, rfl⟩

set_option maxRecDepth 100000 in
set_option maxHeartbeats 4000000 in
theorem w_X7_sounding_28 (L : Nat) (b : Bool) (h : Hp) (hB : Bx h) (a0 : Int32) (p0 : B a0 0 5) : EvP mi_X7_sounding [.ref 28, .int a0] (G0 L b) h (fun r : Int32 => B r (-2147483648) 2147483647) := by
  refine EvM.of2 (lo := [some (.ref 28), some (.int a0), none, none]) pf_X7_sounding ok_X7_sounding rfl rfl ?_
  refine ev_iconst (v := 0) rfl rfl (by decide) ?_
  refine ev_istore_n rfl rfl rfl rfl ?_
  dsimp only [List.set]
  refine ev_iconst (v := 0) rfl rfl (by decide) ?_
  refine ev_istore_n rfl rfl rfl rfl ?_
  dsimp only [List.set]
  have lp4_151 : ∀ (n : Nat) (w152 : Int32) (w153 : Int32), B w153 0 24 → 24 + 1 - w153.toInt ≤ (n : Int) → EvQ mi_X7_sounding 4 [some (.ref 28), some (.int a0), some (.int w152), some (.int w153)] [] (G0 L b) h 0 0 (QP (fun r : Int32 => B r (-2147483648) 2147483647) (G0 L b) h) := by
    intro n
    induction n with
    | zero =>
      intro w152 w153 b154 hm4
      exact absurd hm4 (L_zero b154 (by decide))
    | succ n ih4 =>
      intro w152 w153 b154 hm4
      refine ev_iload_n rfl rfl rfl ?_
      refine ev_aload_n rfl rfl rfl ?_
      refine ev_getR (y := 36) rfl rfl fl_X7_16 rfl rfl rfl rfl ?_
      refine ev_iload_n rfl rfl rfl ?_
      refine ev_ialW (n := 6) (l := 0) (u := 24) hB p0 (by decide) (by decide) (fun _ => rfl) rfl rfl rfl (fun v155 b155 e155 => ?_)
      refine ev_icmp_ge rfl rfl (fun c156 => ?_) (fun c156 => ?_)
      · refine ev_iload_n rfl rfl rfl ?_
        exact ev_iret rfl rfl rfl ⟨⟨_, rfl, (B.any w152)⟩, rfl, rfl⟩
      · have b157 : B w153 0 23 := R_ltX b154 b155 (Int32.not_le.mp c156) (by decide)
        have b158 : B v155 1 24 := R_ltY b154 b155 (Int32.not_le.mp c156) (by decide)
        refine ev_iload_n rfl rfl rfl ?_
        refine ev_aload_n rfl rfl rfl ?_
        refine ev_getR (y := 29) rfl rfl fl_X7_11 rfl rfl rfl rfl ?_
        refine ev_iload_n rfl rfl rfl ?_
        rcases B.c6 p0 with rfl | rfl | rfl | rfl | rfl | rfl
        · refine ev_aald (y := 30) (j := 0) rfl rfl rfl rfl (by unfold vp_in; decide) (by decide) rfl ?_
          refine ev_iload_n rfl rfl rfl ?_
          refine ev_ialW (n := 24) (l := 0) (u := 4095) hB b157 (by decide) (by decide) (fun _ => rfl) rfl rfl rfl (fun v159 b159 e159 => ?_)
          refine ev_S1P rfl rfl lk_X7_30 st_J6_bitCount_0f7a4 rfl rfl (w_any (c_bitCount (G0 L b) h v159)) (fun r160 q160 => ?_)
          refine ev_iaddA rfl rfl (fun v161 g161 => ?_)
          refine ev_istore_n rfl rfl rfl rfl ?_
          dsimp only [List.set]
          refine ev_iincB (y := 1) (l := 1) (u := 24) rfl rfl rfl (by decide) rfl rfl b157 (by decide : B 1 1 1) (by decide) (by decide) (by decide) (by decide) (fun v162 b162 e162 => ?_)
          dsimp only [List.set]
          refine ev_goto rfl rfl ?_
          exact (ih4 v161 v162 (b162.mono (by decide) (by decide)) (L_up hm4 (e_p1 e162 (by decide))))
        · refine ev_aald (y := 31) (j := 1) rfl rfl rfl rfl (by unfold vp_in; decide) (by decide) rfl ?_
          refine ev_iload_n rfl rfl rfl ?_
          refine ev_ialW (n := 24) (l := 0) (u := 4095) hB b157 (by decide) (by decide) (fun _ => rfl) rfl rfl rfl (fun v163 b163 e163 => ?_)
          refine ev_S1P rfl rfl lk_X7_30 st_J6_bitCount_0f7a4 rfl rfl (w_any (c_bitCount (G0 L b) h v163)) (fun r164 q164 => ?_)
          refine ev_iaddA rfl rfl (fun v165 g165 => ?_)
          refine ev_istore_n rfl rfl rfl rfl ?_
          dsimp only [List.set]
          refine ev_iincB (y := 1) (l := 1) (u := 24) rfl rfl rfl (by decide) rfl rfl b157 (by decide : B 1 1 1) (by decide) (by decide) (by decide) (by decide) (fun v166 b166 e166 => ?_)
          dsimp only [List.set]
          refine ev_goto rfl rfl ?_
          exact (ih4 v165 v166 (b166.mono (by decide) (by decide)) (L_up hm4 (e_p1 e166 (by decide))))
        · refine ev_aald (y := 32) (j := 2) rfl rfl rfl rfl (by unfold vp_in; decide) (by decide) rfl ?_
          refine ev_iload_n rfl rfl rfl ?_
          refine ev_ialW (n := 24) (l := 0) (u := 4095) hB b157 (by decide) (by decide) (fun _ => rfl) rfl rfl rfl (fun v167 b167 e167 => ?_)
          refine ev_S1P rfl rfl lk_X7_30 st_J6_bitCount_0f7a4 rfl rfl (w_any (c_bitCount (G0 L b) h v167)) (fun r168 q168 => ?_)
          refine ev_iaddA rfl rfl (fun v169 g169 => ?_)
          refine ev_istore_n rfl rfl rfl rfl ?_
          dsimp only [List.set]
          refine ev_iincB (y := 1) (l := 1) (u := 24) rfl rfl rfl (by decide) rfl rfl b157 (by decide : B 1 1 1) (by decide) (by decide) (by decide) (by decide) (fun v170 b170 e170 => ?_)
          dsimp only [List.set]
          refine ev_goto rfl rfl ?_
          exact (ih4 v169 v170 (b170.mono (by decide) (by decide)) (L_up hm4 (e_p1 e170 (by decide))))
        · refine ev_aald (y := 33) (j := 3) rfl rfl rfl rfl (by unfold vp_in; decide) (by decide) rfl ?_
          refine ev_iload_n rfl rfl rfl ?_
          refine ev_ialW (n := 24) (l := 0) (u := 4095) hB b157 (by decide) (by decide) (fun _ => rfl) rfl rfl rfl (fun v171 b171 e171 => ?_)
          refine ev_S1P rfl rfl lk_X7_30 st_J6_bitCount_0f7a4 rfl rfl (w_any (c_bitCount (G0 L b) h v171)) (fun r172 q172 => ?_)
          refine ev_iaddA rfl rfl (fun v173 g173 => ?_)
          refine ev_istore_n rfl rfl rfl rfl ?_
          dsimp only [List.set]
          refine ev_iincB (y := 1) (l := 1) (u := 24) rfl rfl rfl (by decide) rfl rfl b157 (by decide : B 1 1 1) (by decide) (by decide) (by decide) (by decide) (fun v174 b174 e174 => ?_)
          dsimp only [List.set]
          refine ev_goto rfl rfl ?_
          exact (ih4 v173 v174 (b174.mono (by decide) (by decide)) (L_up hm4 (e_p1 e174 (by decide))))
        · refine ev_aald (y := 34) (j := 4) rfl rfl rfl rfl (by unfold vp_in; decide) (by decide) rfl ?_
          refine ev_iload_n rfl rfl rfl ?_
          refine ev_ialW (n := 24) (l := 0) (u := 4095) hB b157 (by decide) (by decide) (fun _ => rfl) rfl rfl rfl (fun v175 b175 e175 => ?_)
          refine ev_S1P rfl rfl lk_X7_30 st_J6_bitCount_0f7a4 rfl rfl (w_any (c_bitCount (G0 L b) h v175)) (fun r176 q176 => ?_)
          refine ev_iaddA rfl rfl (fun v177 g177 => ?_)
          refine ev_istore_n rfl rfl rfl rfl ?_
          dsimp only [List.set]
          refine ev_iincB (y := 1) (l := 1) (u := 24) rfl rfl rfl (by decide) rfl rfl b157 (by decide : B 1 1 1) (by decide) (by decide) (by decide) (by decide) (fun v178 b178 e178 => ?_)
          dsimp only [List.set]
          refine ev_goto rfl rfl ?_
          exact (ih4 v177 v178 (b178.mono (by decide) (by decide)) (L_up hm4 (e_p1 e178 (by decide))))
        · refine ev_aald (y := 35) (j := 5) rfl rfl rfl rfl (by unfold vp_in; decide) (by decide) rfl ?_
          refine ev_iload_n rfl rfl rfl ?_
          refine ev_ialW (n := 24) (l := 0) (u := 4095) hB b157 (by decide) (by decide) (fun _ => rfl) rfl rfl rfl (fun v179 b179 e179 => ?_)
          refine ev_S1P rfl rfl lk_X7_30 st_J6_bitCount_0f7a4 rfl rfl (w_any (c_bitCount (G0 L b) h v179)) (fun r180 q180 => ?_)
          refine ev_iaddA rfl rfl (fun v181 g181 => ?_)
          refine ev_istore_n rfl rfl rfl rfl ?_
          dsimp only [List.set]
          refine ev_iincB (y := 1) (l := 1) (u := 24) rfl rfl rfl (by decide) rfl rfl b157 (by decide : B 1 1 1) (by decide) (by decide) (by decide) (by decide) (fun v182 b182 e182 => ?_)
          dsimp only [List.set]
          refine ev_goto rfl rfl ?_
          exact (ih4 v181 v182 (b182.mono (by decide) (by decide)) (L_up hm4 (e_p1 e182 (by decide))))
  exact (lp4_151 25 0 0 ((by decide : B 0 0 0).mono (by decide) (by decide)) (L_init (by decide : B 0 0 0) (by decide)))

set_option maxRecDepth 100000 in
set_option maxHeartbeats 4000000 in
theorem w_X7_add_28_25 (L : Nat) (b : Bool) (h : Hp) (hB : Bx h) (a0 : Int32) (p0 : B a0 0 24) (q0 : B (h 28 2) 0 5) : EvJ mi_X7_add [.ref 28, .ref 25, .int a0] (G0 L b) h (fun r : Int32 => B r 0 5) [(28, 2), (30, 999), (31, 999), (32, 999), (33, 999), (34, 999), (35, 999), (36, 999)] := by
  refine EvM.of2 (lo := [some (.ref 28), some (.ref 25), some (.int a0)]) pf_X7_add ok_X7_add rfl rfl ?_
  have hJ0 : JW [(28, 2), (30, 999), (31, 999), (32, 999), (33, 999), (34, 999), (35, 999), (36, 999)] h h := JW.refl hB
  obtain ⟨f0, ef0⟩ : ∃ f_, h 28 2 = f_ := ⟨_, rfl⟩
  rw [ef0] at q0
  refine ev_aload_n rfl rfl rfl ?_
  refine ev_iconst (v := 0) rfl rfl (by decide) ?_
  refine ev_aload_n rfl rfl rfl ?_
  refine ev_getR (y := 29) rfl rfl fl_X7_11 rfl rfl rfl rfl ?_
  refine ev_aload_n rfl rfl rfl ?_
  refine ev_getV (v := f0) rfl rfl fl_X7_20 rfl rfl rfl ef0 ?_
  rcases B.c6 q0 with rfl | rfl | rfl | rfl | rfl | rfl
  · refine ev_aald (y := 30) (j := 0) rfl rfl rfl rfl (by unfold vp_in; decide) (by decide) rfl ?_
    refine ev_iconst (v := 0) rfl rfl (by decide) ?_
    refine ev_iload_n rfl rfl rfl ?_
    refine ev_cpyW (sN := 0) (dN := 0) (n0 := 24) (n1 := 24) (l := 0) (u := 4095) (l' := 0) (u' := 4095) hJ0 (fun _ => rfl) (fun _ => rfl) (by decide) (by decide) (fun _ => rfl) p0 (by decide) (by decide) (by decide) (by decide) (by decide) (by decide) (by decide) rfl rfl cp_X7_24 rfl rfl rfl rfl rfl rfl (by decide) (fun h1 hJ1 k1 => ?_)
    refine ev_aload_n rfl rfl rfl ?_
    refine ev_getR (y := 36) rfl rfl fl_X7_16 rfl rfl rfl rfl ?_
    refine ev_aload_n rfl rfl rfl ?_
    refine ev_getV (v := 0) rfl rfl fl_X7_20 rfl rfl rfl (rd_c k1 ef0 rfl) ?_
    refine ev_iload_n rfl rfl rfl ?_
    refine ev_iasW (n := 6) (l := 0) (u := 24) hJ1 (by decide : B 0 0 0) (by decide) (by decide) (fun _ => rfl) p0 (by decide) (by decide) (fun _ => rfl) rfl rfl rfl rfl (fun h2 hJ2 k2 => ?_)
    refine ev_aload_n rfl rfl rfl ?_
    refine ev_dup rfl rfl rfl ?_
    refine ev_getV (v := 0) rfl rfl fl_X7_20 rfl rfl rfl (rd_a k2 (rd_c k1 ef0 rfl) rfl) ?_
    refine ev_iconst (v := 1) rfl rfl (by decide) ?_
    refine ev_iaddB (l := 1) (u := 1) rfl rfl (by decide : B 0 0 0) (by decide : B 1 1 1) (by decide) (by decide) (by decide) (by decide) (fun v3 b3 e3 g3 => ?_)
    refine ev_putW (l := 0) (u := 6) hJ2 rfl b3 (by decide) (by decide) rfl rfl rfl fl_X7_20 rfl rfl rfl rfl rfl (fun h4 hJ4 k4 => ?_)
    refine ev_aload_n rfl rfl rfl ?_
    refine ev_getV (v := v3) rfl rfl fl_X7_20 rfl rfl rfl (rd_s k4) ?_
    refine ev_iconst (v := 1) rfl rfl (by decide) ?_
    refine ev_isubB (l := 0) (u := 0) rfl rfl b3 (by decide : B 1 1 1) (by decide) (by decide) (by decide) (by decide) (fun v5 b5 e5 g5 => ?_)
    exact ev_iret rfl rfl rfl ⟨⟨_, rfl, (b5.mono (by decide) (by decide))⟩, rfl, hJ4⟩
  · refine ev_aald (y := 31) (j := 1) rfl rfl rfl rfl (by unfold vp_in; decide) (by decide) rfl ?_
    refine ev_iconst (v := 0) rfl rfl (by decide) ?_
    refine ev_iload_n rfl rfl rfl ?_
    refine ev_cpyW (sN := 0) (dN := 0) (n0 := 24) (n1 := 24) (l := 0) (u := 4095) (l' := 0) (u' := 4095) hJ0 (fun _ => rfl) (fun _ => rfl) (by decide) (by decide) (fun _ => rfl) p0 (by decide) (by decide) (by decide) (by decide) (by decide) (by decide) (by decide) rfl rfl cp_X7_24 rfl rfl rfl rfl rfl rfl (by decide) (fun h6 hJ6 k6 => ?_)
    refine ev_aload_n rfl rfl rfl ?_
    refine ev_getR (y := 36) rfl rfl fl_X7_16 rfl rfl rfl rfl ?_
    refine ev_aload_n rfl rfl rfl ?_
    refine ev_getV (v := 1) rfl rfl fl_X7_20 rfl rfl rfl (rd_c k6 ef0 rfl) ?_
    refine ev_iload_n rfl rfl rfl ?_
    refine ev_iasW (n := 6) (l := 0) (u := 24) hJ6 (by decide : B 1 1 1) (by decide) (by decide) (fun _ => rfl) p0 (by decide) (by decide) (fun _ => rfl) rfl rfl rfl rfl (fun h7 hJ7 k7 => ?_)
    refine ev_aload_n rfl rfl rfl ?_
    refine ev_dup rfl rfl rfl ?_
    refine ev_getV (v := 1) rfl rfl fl_X7_20 rfl rfl rfl (rd_a k7 (rd_c k6 ef0 rfl) rfl) ?_
    refine ev_iconst (v := 1) rfl rfl (by decide) ?_
    refine ev_iaddB (l := 2) (u := 2) rfl rfl (by decide : B 1 1 1) (by decide : B 1 1 1) (by decide) (by decide) (by decide) (by decide) (fun v8 b8 e8 g8 => ?_)
    refine ev_putW (l := 0) (u := 6) hJ7 rfl b8 (by decide) (by decide) rfl rfl rfl fl_X7_20 rfl rfl rfl rfl rfl (fun h9 hJ9 k9 => ?_)
    refine ev_aload_n rfl rfl rfl ?_
    refine ev_getV (v := v8) rfl rfl fl_X7_20 rfl rfl rfl (rd_s k9) ?_
    refine ev_iconst (v := 1) rfl rfl (by decide) ?_
    refine ev_isubB (l := 1) (u := 1) rfl rfl b8 (by decide : B 1 1 1) (by decide) (by decide) (by decide) (by decide) (fun v10 b10 e10 g10 => ?_)
    exact ev_iret rfl rfl rfl ⟨⟨_, rfl, (b10.mono (by decide) (by decide))⟩, rfl, hJ9⟩
  · refine ev_aald (y := 32) (j := 2) rfl rfl rfl rfl (by unfold vp_in; decide) (by decide) rfl ?_
    refine ev_iconst (v := 0) rfl rfl (by decide) ?_
    refine ev_iload_n rfl rfl rfl ?_
    refine ev_cpyW (sN := 0) (dN := 0) (n0 := 24) (n1 := 24) (l := 0) (u := 4095) (l' := 0) (u' := 4095) hJ0 (fun _ => rfl) (fun _ => rfl) (by decide) (by decide) (fun _ => rfl) p0 (by decide) (by decide) (by decide) (by decide) (by decide) (by decide) (by decide) rfl rfl cp_X7_24 rfl rfl rfl rfl rfl rfl (by decide) (fun h11 hJ11 k11 => ?_)
    refine ev_aload_n rfl rfl rfl ?_
    refine ev_getR (y := 36) rfl rfl fl_X7_16 rfl rfl rfl rfl ?_
    refine ev_aload_n rfl rfl rfl ?_
    refine ev_getV (v := 2) rfl rfl fl_X7_20 rfl rfl rfl (rd_c k11 ef0 rfl) ?_
    refine ev_iload_n rfl rfl rfl ?_
    refine ev_iasW (n := 6) (l := 0) (u := 24) hJ11 (by decide : B 2 2 2) (by decide) (by decide) (fun _ => rfl) p0 (by decide) (by decide) (fun _ => rfl) rfl rfl rfl rfl (fun h12 hJ12 k12 => ?_)
    refine ev_aload_n rfl rfl rfl ?_
    refine ev_dup rfl rfl rfl ?_
    refine ev_getV (v := 2) rfl rfl fl_X7_20 rfl rfl rfl (rd_a k12 (rd_c k11 ef0 rfl) rfl) ?_
    refine ev_iconst (v := 1) rfl rfl (by decide) ?_
    refine ev_iaddB (l := 3) (u := 3) rfl rfl (by decide : B 2 2 2) (by decide : B 1 1 1) (by decide) (by decide) (by decide) (by decide) (fun v13 b13 e13 g13 => ?_)
    refine ev_putW (l := 0) (u := 6) hJ12 rfl b13 (by decide) (by decide) rfl rfl rfl fl_X7_20 rfl rfl rfl rfl rfl (fun h14 hJ14 k14 => ?_)
    refine ev_aload_n rfl rfl rfl ?_
    refine ev_getV (v := v13) rfl rfl fl_X7_20 rfl rfl rfl (rd_s k14) ?_
    refine ev_iconst (v := 1) rfl rfl (by decide) ?_
    refine ev_isubB (l := 2) (u := 2) rfl rfl b13 (by decide : B 1 1 1) (by decide) (by decide) (by decide) (by decide) (fun v15 b15 e15 g15 => ?_)
    exact ev_iret rfl rfl rfl ⟨⟨_, rfl, (b15.mono (by decide) (by decide))⟩, rfl, hJ14⟩
  · refine ev_aald (y := 33) (j := 3) rfl rfl rfl rfl (by unfold vp_in; decide) (by decide) rfl ?_
    refine ev_iconst (v := 0) rfl rfl (by decide) ?_
    refine ev_iload_n rfl rfl rfl ?_
    refine ev_cpyW (sN := 0) (dN := 0) (n0 := 24) (n1 := 24) (l := 0) (u := 4095) (l' := 0) (u' := 4095) hJ0 (fun _ => rfl) (fun _ => rfl) (by decide) (by decide) (fun _ => rfl) p0 (by decide) (by decide) (by decide) (by decide) (by decide) (by decide) (by decide) rfl rfl cp_X7_24 rfl rfl rfl rfl rfl rfl (by decide) (fun h16 hJ16 k16 => ?_)
    refine ev_aload_n rfl rfl rfl ?_
    refine ev_getR (y := 36) rfl rfl fl_X7_16 rfl rfl rfl rfl ?_
    refine ev_aload_n rfl rfl rfl ?_
    refine ev_getV (v := 3) rfl rfl fl_X7_20 rfl rfl rfl (rd_c k16 ef0 rfl) ?_
    refine ev_iload_n rfl rfl rfl ?_
    refine ev_iasW (n := 6) (l := 0) (u := 24) hJ16 (by decide : B 3 3 3) (by decide) (by decide) (fun _ => rfl) p0 (by decide) (by decide) (fun _ => rfl) rfl rfl rfl rfl (fun h17 hJ17 k17 => ?_)
    refine ev_aload_n rfl rfl rfl ?_
    refine ev_dup rfl rfl rfl ?_
    refine ev_getV (v := 3) rfl rfl fl_X7_20 rfl rfl rfl (rd_a k17 (rd_c k16 ef0 rfl) rfl) ?_
    refine ev_iconst (v := 1) rfl rfl (by decide) ?_
    refine ev_iaddB (l := 4) (u := 4) rfl rfl (by decide : B 3 3 3) (by decide : B 1 1 1) (by decide) (by decide) (by decide) (by decide) (fun v18 b18 e18 g18 => ?_)
    refine ev_putW (l := 0) (u := 6) hJ17 rfl b18 (by decide) (by decide) rfl rfl rfl fl_X7_20 rfl rfl rfl rfl rfl (fun h19 hJ19 k19 => ?_)
    refine ev_aload_n rfl rfl rfl ?_
    refine ev_getV (v := v18) rfl rfl fl_X7_20 rfl rfl rfl (rd_s k19) ?_
    refine ev_iconst (v := 1) rfl rfl (by decide) ?_
    refine ev_isubB (l := 3) (u := 3) rfl rfl b18 (by decide : B 1 1 1) (by decide) (by decide) (by decide) (by decide) (fun v20 b20 e20 g20 => ?_)
    exact ev_iret rfl rfl rfl ⟨⟨_, rfl, (b20.mono (by decide) (by decide))⟩, rfl, hJ19⟩
  · refine ev_aald (y := 34) (j := 4) rfl rfl rfl rfl (by unfold vp_in; decide) (by decide) rfl ?_
    refine ev_iconst (v := 0) rfl rfl (by decide) ?_
    refine ev_iload_n rfl rfl rfl ?_
    refine ev_cpyW (sN := 0) (dN := 0) (n0 := 24) (n1 := 24) (l := 0) (u := 4095) (l' := 0) (u' := 4095) hJ0 (fun _ => rfl) (fun _ => rfl) (by decide) (by decide) (fun _ => rfl) p0 (by decide) (by decide) (by decide) (by decide) (by decide) (by decide) (by decide) rfl rfl cp_X7_24 rfl rfl rfl rfl rfl rfl (by decide) (fun h21 hJ21 k21 => ?_)
    refine ev_aload_n rfl rfl rfl ?_
    refine ev_getR (y := 36) rfl rfl fl_X7_16 rfl rfl rfl rfl ?_
    refine ev_aload_n rfl rfl rfl ?_
    refine ev_getV (v := 4) rfl rfl fl_X7_20 rfl rfl rfl (rd_c k21 ef0 rfl) ?_
    refine ev_iload_n rfl rfl rfl ?_
    refine ev_iasW (n := 6) (l := 0) (u := 24) hJ21 (by decide : B 4 4 4) (by decide) (by decide) (fun _ => rfl) p0 (by decide) (by decide) (fun _ => rfl) rfl rfl rfl rfl (fun h22 hJ22 k22 => ?_)
    refine ev_aload_n rfl rfl rfl ?_
    refine ev_dup rfl rfl rfl ?_
    refine ev_getV (v := 4) rfl rfl fl_X7_20 rfl rfl rfl (rd_a k22 (rd_c k21 ef0 rfl) rfl) ?_
    refine ev_iconst (v := 1) rfl rfl (by decide) ?_
    refine ev_iaddB (l := 5) (u := 5) rfl rfl (by decide : B 4 4 4) (by decide : B 1 1 1) (by decide) (by decide) (by decide) (by decide) (fun v23 b23 e23 g23 => ?_)
    refine ev_putW (l := 0) (u := 6) hJ22 rfl b23 (by decide) (by decide) rfl rfl rfl fl_X7_20 rfl rfl rfl rfl rfl (fun h24 hJ24 k24 => ?_)
    refine ev_aload_n rfl rfl rfl ?_
    refine ev_getV (v := v23) rfl rfl fl_X7_20 rfl rfl rfl (rd_s k24) ?_
    refine ev_iconst (v := 1) rfl rfl (by decide) ?_
    refine ev_isubB (l := 4) (u := 4) rfl rfl b23 (by decide : B 1 1 1) (by decide) (by decide) (by decide) (by decide) (fun v25 b25 e25 g25 => ?_)
    exact ev_iret rfl rfl rfl ⟨⟨_, rfl, (b25.mono (by decide) (by decide))⟩, rfl, hJ24⟩
  · refine ev_aald (y := 35) (j := 5) rfl rfl rfl rfl (by unfold vp_in; decide) (by decide) rfl ?_
    refine ev_iconst (v := 0) rfl rfl (by decide) ?_
    refine ev_iload_n rfl rfl rfl ?_
    refine ev_cpyW (sN := 0) (dN := 0) (n0 := 24) (n1 := 24) (l := 0) (u := 4095) (l' := 0) (u' := 4095) hJ0 (fun _ => rfl) (fun _ => rfl) (by decide) (by decide) (fun _ => rfl) p0 (by decide) (by decide) (by decide) (by decide) (by decide) (by decide) (by decide) rfl rfl cp_X7_24 rfl rfl rfl rfl rfl rfl (by decide) (fun h26 hJ26 k26 => ?_)
    refine ev_aload_n rfl rfl rfl ?_
    refine ev_getR (y := 36) rfl rfl fl_X7_16 rfl rfl rfl rfl ?_
    refine ev_aload_n rfl rfl rfl ?_
    refine ev_getV (v := 5) rfl rfl fl_X7_20 rfl rfl rfl (rd_c k26 ef0 rfl) ?_
    refine ev_iload_n rfl rfl rfl ?_
    refine ev_iasW (n := 6) (l := 0) (u := 24) hJ26 (by decide : B 5 5 5) (by decide) (by decide) (fun _ => rfl) p0 (by decide) (by decide) (fun _ => rfl) rfl rfl rfl rfl (fun h27 hJ27 k27 => ?_)
    refine ev_aload_n rfl rfl rfl ?_
    refine ev_dup rfl rfl rfl ?_
    refine ev_getV (v := 5) rfl rfl fl_X7_20 rfl rfl rfl (rd_a k27 (rd_c k26 ef0 rfl) rfl) ?_
    refine ev_iconst (v := 1) rfl rfl (by decide) ?_
    refine ev_iaddB (l := 6) (u := 6) rfl rfl (by decide : B 5 5 5) (by decide : B 1 1 1) (by decide) (by decide) (by decide) (by decide) (fun v28 b28 e28 g28 => ?_)
    refine ev_putW (l := 0) (u := 6) hJ27 rfl b28 (by decide) (by decide) rfl rfl rfl fl_X7_20 rfl rfl rfl rfl rfl (fun h29 hJ29 k29 => ?_)
    refine ev_aload_n rfl rfl rfl ?_
    refine ev_getV (v := v28) rfl rfl fl_X7_20 rfl rfl rfl (rd_s k29) ?_
    refine ev_iconst (v := 1) rfl rfl (by decide) ?_
    refine ev_isubB (l := 5) (u := 5) rfl rfl b28 (by decide : B 1 1 1) (by decide) (by decide) (by decide) (by decide) (fun v30 b30 e30 g30 => ?_)
    exact ev_iret rfl rfl rfl ⟨⟨_, rfl, (b30.mono (by decide) (by decide))⟩, rfl, hJ29⟩

set_option maxRecDepth 100000 in
set_option maxHeartbeats 4000000 in
theorem w_X7_has_28 (L : Nat) (b : Bool) (h : Hp) (hB : Bx h) (a0 : Int32) : EvP mi_X7_has [.ref 28, .int a0] (G0 L b) h (fun r : Int32 => B r 0 1 ∧ (¬ r = 0 → B a0 0 5)) := by
  refine EvM.of2 (lo := [some (.ref 28), some (.int a0)]) pf_X7_has ok_X7_has rfl rfl ?_
  refine ev_iconst (v := 0) rfl rfl (by decide) ?_
  refine ev_iload_n rfl rfl rfl ?_
  refine ev_icmp_gt rfl rfl (fun c1 => ?_) (fun c1 => ?_)
  · have b2 : B a0 (-2147483648) (-1) := R_ltX (B.any a0) (by decide : B 0 0 0) c1 (by decide)
    refine ev_iconst (v := 0) rfl rfl (by decide) ?_
    exact ev_iret rfl rfl rfl ⟨⟨_, rfl, ⟨((by decide : B 0 0 0).mono (by decide) (by decide)), (fun e_ => absurd rfl e_)⟩⟩, rfl, rfl⟩
  · have b3 : B a0 0 2147483647 := R_leY (by decide : B 0 0 0) (B.any a0) (Int32.not_lt.mp c1) (by decide)
    refine ev_iload_n rfl rfl rfl ?_
    refine ev_aload_n rfl rfl rfl ?_
    refine ev_getW (l := 0) (u := 6) hB rfl rfl rfl fl_X7_20 rfl rfl rfl (fun v4 b4 e4 => ?_)
    refine ev_icmp_ge rfl rfl (fun c5 => ?_) (fun c5 => ?_)
    · refine ev_iconst (v := 0) rfl rfl (by decide) ?_
      exact ev_iret rfl rfl rfl ⟨⟨_, rfl, ⟨((by decide : B 0 0 0).mono (by decide) (by decide)), (fun e_ => absurd rfl e_)⟩⟩, rfl, rfl⟩
    · have b6 : B a0 0 5 := R_ltX b3 b4 (Int32.not_le.mp c5) (by decide)
      have b7 : B v4 1 6 := R_ltY b3 b4 (Int32.not_le.mp c5) (by decide)
      refine ev_iconst (v := 1) rfl rfl (by decide) ?_
      refine ev_goto rfl rfl ?_
      exact ev_iret rfl rfl rfl ⟨⟨_, rfl, ⟨((by decide : B 1 1 1).mono (by decide) (by decide)), (fun _ => b6)⟩⟩, rfl, rfl⟩

set_option maxRecDepth 100000 in
set_option maxHeartbeats 4000000 in
theorem w_X9_isBeat_1_l10 (L : Nat) (b : Bool) (h : Hp) (hB : Bx h) (a0 : Int32) (a1 : Int32) : EvP mi_X9_isBeat [.ref 1, .int a0, .int a1, .int 10] (G0 L b) h (fun r : Int32 => B r 0 1 ∧ (¬ r = 0 → B a0 0 5) ∧ (¬ r = 0 → B a1 10 33)) := by
  refine EvM.of2 (lo := [some (.ref 1), some (.int a0), some (.int a1), some (.int 10)]) pf_X9_isBeat ok_X9_isBeat rfl rfl ?_
  refine ev_aload_n rfl rfl rfl ?_
  refine ev_getR (y := 28) rfl rfl fl_X9_43 rfl rfl rfl rfl ?_
  refine ev_iload_n rfl rfl rfl ?_
  refine ev_V1P rfl rfl lk_X9_195 vt_X7_has rfl rfl rfl rfl rfl (w_X7_has_28 L b h hB a0) (fun r1 q1 => ?_)
  obtain ⟨b1, p1_0⟩ := q1
  refine ev_if_eq rfl rfl (fun c2 => ?_) (fun c2 => ?_)
  · have b3 : B r1 0 0 := R_eqX b1 (by decide : B 0 0 0) c2
    refine ev_iconst (v := 0) rfl rfl (by decide) ?_
    exact ev_iret rfl rfl rfl ⟨⟨_, rfl, ⟨((by decide : B 0 0 0).mono (by decide) (by decide)), (fun e_ => absurd rfl e_), (fun e_ => absurd rfl e_)⟩⟩, rfl, rfl⟩
  · have b4 : B r1 1 1 := R_neL b1 (by decide : B 0 0 0) c2 (by decide)
    have b5 : B a0 0 5 := p1_0 c2
    refine ev_iload_n rfl rfl rfl ?_
    refine ev_iload_n rfl rfl rfl ?_
    refine ev_icmp_lt rfl rfl (fun c6 => ?_) (fun c6 => ?_)
    · have b7 : B a1 (-2147483648) 9 := R_ltX (B.any a1) (by decide : B 10 10 10) c6 (by decide)
      refine ev_iconst (v := 0) rfl rfl (by decide) ?_
      exact ev_iret rfl rfl rfl ⟨⟨_, rfl, ⟨((by decide : B 0 0 0).mono (by decide) (by decide)), (fun e_ => absurd rfl e_), (fun e_ => absurd rfl e_)⟩⟩, rfl, rfl⟩
    · have b8 : B a1 10 2147483647 := R_leY (by decide : B 10 10 10) (B.any a1) (Int32.not_lt.mp c6) (by decide)
      refine ev_iload_n rfl rfl rfl ?_
      refine ev_iload_n rfl rfl rfl ?_
      refine ev_isubB (l := 0) (u := 2147483637) rfl rfl b8 (by decide : B 10 10 10) (by decide) (by decide) (by decide) (by decide) (fun v9 b9 e9 g9 => ?_)
      refine ev_aload_n rfl rfl rfl ?_
      refine ev_getR (y := 28) rfl rfl fl_X9_43 rfl rfl rfl rfl ?_
      refine ev_getR (y := 36) rfl rfl fl_X9_196 rfl rfl rfl rfl ?_
      refine ev_iload_n rfl rfl rfl ?_
      refine ev_ialW (n := 6) (l := 0) (u := 24) hB b5 (by decide) (by decide) (fun _ => rfl) rfl rfl rfl (fun v10 b10 e10 => ?_)
      refine ev_icmp_ge rfl rfl (fun c11 => ?_) (fun c11 => ?_)
      · refine ev_iconst (v := 0) rfl rfl (by decide) ?_
        exact ev_iret rfl rfl rfl ⟨⟨_, rfl, ⟨((by decide : B 0 0 0).mono (by decide) (by decide)), (fun e_ => absurd rfl e_), (fun e_ => absurd rfl e_)⟩⟩, rfl, rfl⟩
      · have b12 : B v9 0 23 := R_ltX b9 b10 (Int32.not_le.mp c11) (by decide)
        have b13 : B a1 10 33 := (R_bks (l' := 10) (u' := 33) e9 b12 (by decide : B 10 10 10) (by decide) (by decide))
        have b14 : B v10 1 24 := R_ltY b9 b10 (Int32.not_le.mp c11) (by decide)
        refine ev_iconst (v := 1) rfl rfl (by decide) ?_
        refine ev_goto rfl rfl ?_
        exact ev_iret rfl rfl rfl ⟨⟨_, rfl, ⟨((by decide : B 1 1 1).mono (by decide) (by decide)), (fun _ => b5), (fun _ => b13)⟩⟩, rfl, rfl⟩

set_option maxRecDepth 100000 in
set_option maxHeartbeats 4000000 in
theorem w_X9_tuneOf_1 (L : Nat) (b : Bool) (h : Hp) (hB : Bx h) (a0 : Int32) (a1 : Int32) : EvP mi_X9_tuneOf [.ref 1, .int a0, .int a1] (G0 L b) h (fun r : Int32 => B r (-2147483648) 2147483647) := by
  refine EvM.of2 (lo := [some (.ref 1), some (.int a0), some (.int a1)]) pf_X9_tuneOf ok_X9_tuneOf rfl rfl ?_
  refine ev_aload_n rfl rfl rfl ?_
  refine ev_getR (y := 28) rfl rfl fl_X9_43 rfl rfl rfl rfl ?_
  refine ev_iload_n rfl rfl rfl ?_
  refine ev_V1P rfl rfl lk_X9_195 vt_X7_has rfl rfl rfl rfl rfl (w_X7_has_28 L b h hB a0) (fun r1 q1 => ?_)
  obtain ⟨b1, p1_0⟩ := q1
  refine ev_if_ne rfl rfl (fun c2 => ?_) (fun c2 => ?_)
  · have b3 : B r1 1 1 := R_neL b1 (by decide : B 0 0 0) c2 (by decide)
    have b4 : B a0 0 5 := p1_0 c2
    refine ev_iload_n rfl rfl rfl ?_
    rcases ev_sw a1 0 3 with w6 | w6
    · refine ev_tabOut 87 rfl w6 (by decide) ?_
      refine ev_aload_n rfl rfl rfl ?_
      refine ev_iload_n rfl rfl rfl ?_
      refine ev_iload_n rfl rfl rfl ?_
      refine ev_bipush (v := 10) rfl rfl (by decide) ?_
      refine ev_V3P rfl rfl lk_X9_210 vt_X9_isBeat rfl rfl rfl rfl rfl (w_X9_isBeat_1_l10 L b h hB a0 a1) (fun r7 q7 => ?_)
      obtain ⟨b7, p7_0, p7_1⟩ := q7
      refine ev_if_eq rfl rfl (fun c8 => ?_) (fun c8 => ?_)
      · have b9 : B r7 0 0 := R_eqX b7 (by decide : B 0 0 0) c8
        refine ev_iconst (v := (-1)) rfl rfl (by decide) ?_
        exact ev_iret rfl rfl rfl ⟨⟨_, rfl, ((by decide : B (-1) (-1) (-1)).mono (by decide) (by decide))⟩, rfl, rfl⟩
      · have b10 : B r7 1 1 := R_neL b7 (by decide : B 0 0 0) c8 (by decide)
        have b11 : B a1 10 33 := p7_1 c8
        refine ev_aload_n rfl rfl rfl ?_
        refine ev_getR (y := 28) rfl rfl fl_X9_43 rfl rfl rfl rfl ?_
        refine ev_getR (y := 29) rfl rfl fl_X9_213 rfl rfl rfl rfl ?_
        refine ev_iload_n rfl rfl rfl ?_
        rcases B.c6 b4 with rfl | rfl | rfl | rfl | rfl | rfl
        · refine ev_aald (y := 30) (j := 0) rfl rfl rfl rfl (by unfold vp_in; decide) (by decide) rfl ?_
          refine ev_iload_n rfl rfl rfl ?_
          refine ev_bipush (v := 10) rfl rfl (by decide) ?_
          refine ev_isubB (l := 0) (u := 23) rfl rfl b11 (by decide : B 10 10 10) (by decide) (by decide) (by decide) (by decide) (fun v12 b12 e12 g12 => ?_)
          refine ev_ialW (n := 24) (l := 0) (u := 4095) hB b12 (by decide) (by decide) (fun _ => rfl) rfl rfl rfl (fun v13 b13 e13 => ?_)
          refine ev_goto rfl rfl ?_
          exact ev_iret rfl rfl rfl ⟨⟨_, rfl, (b13.mono (by decide) (by decide))⟩, rfl, rfl⟩
        · refine ev_aald (y := 31) (j := 1) rfl rfl rfl rfl (by unfold vp_in; decide) (by decide) rfl ?_
          refine ev_iload_n rfl rfl rfl ?_
          refine ev_bipush (v := 10) rfl rfl (by decide) ?_
          refine ev_isubB (l := 0) (u := 23) rfl rfl b11 (by decide : B 10 10 10) (by decide) (by decide) (by decide) (by decide) (fun v14 b14 e14 g14 => ?_)
          refine ev_ialW (n := 24) (l := 0) (u := 4095) hB b14 (by decide) (by decide) (fun _ => rfl) rfl rfl rfl (fun v15 b15 e15 => ?_)
          refine ev_goto rfl rfl ?_
          exact ev_iret rfl rfl rfl ⟨⟨_, rfl, (b15.mono (by decide) (by decide))⟩, rfl, rfl⟩
        · refine ev_aald (y := 32) (j := 2) rfl rfl rfl rfl (by unfold vp_in; decide) (by decide) rfl ?_
          refine ev_iload_n rfl rfl rfl ?_
          refine ev_bipush (v := 10) rfl rfl (by decide) ?_
          refine ev_isubB (l := 0) (u := 23) rfl rfl b11 (by decide : B 10 10 10) (by decide) (by decide) (by decide) (by decide) (fun v16 b16 e16 g16 => ?_)
          refine ev_ialW (n := 24) (l := 0) (u := 4095) hB b16 (by decide) (by decide) (fun _ => rfl) rfl rfl rfl (fun v17 b17 e17 => ?_)
          refine ev_goto rfl rfl ?_
          exact ev_iret rfl rfl rfl ⟨⟨_, rfl, (b17.mono (by decide) (by decide))⟩, rfl, rfl⟩
        · refine ev_aald (y := 33) (j := 3) rfl rfl rfl rfl (by unfold vp_in; decide) (by decide) rfl ?_
          refine ev_iload_n rfl rfl rfl ?_
          refine ev_bipush (v := 10) rfl rfl (by decide) ?_
          refine ev_isubB (l := 0) (u := 23) rfl rfl b11 (by decide : B 10 10 10) (by decide) (by decide) (by decide) (by decide) (fun v18 b18 e18 g18 => ?_)
          refine ev_ialW (n := 24) (l := 0) (u := 4095) hB b18 (by decide) (by decide) (fun _ => rfl) rfl rfl rfl (fun v19 b19 e19 => ?_)
          refine ev_goto rfl rfl ?_
          exact ev_iret rfl rfl rfl ⟨⟨_, rfl, (b19.mono (by decide) (by decide))⟩, rfl, rfl⟩
        · refine ev_aald (y := 34) (j := 4) rfl rfl rfl rfl (by unfold vp_in; decide) (by decide) rfl ?_
          refine ev_iload_n rfl rfl rfl ?_
          refine ev_bipush (v := 10) rfl rfl (by decide) ?_
          refine ev_isubB (l := 0) (u := 23) rfl rfl b11 (by decide : B 10 10 10) (by decide) (by decide) (by decide) (by decide) (fun v20 b20 e20 g20 => ?_)
          refine ev_ialW (n := 24) (l := 0) (u := 4095) hB b20 (by decide) (by decide) (fun _ => rfl) rfl rfl rfl (fun v21 b21 e21 => ?_)
          refine ev_goto rfl rfl ?_
          exact ev_iret rfl rfl rfl ⟨⟨_, rfl, (b21.mono (by decide) (by decide))⟩, rfl, rfl⟩
        · refine ev_aald (y := 35) (j := 5) rfl rfl rfl rfl (by unfold vp_in; decide) (by decide) rfl ?_
          refine ev_iload_n rfl rfl rfl ?_
          refine ev_bipush (v := 10) rfl rfl (by decide) ?_
          refine ev_isubB (l := 0) (u := 23) rfl rfl b11 (by decide : B 10 10 10) (by decide) (by decide) (by decide) (by decide) (fun v22 b22 e22 g22 => ?_)
          refine ev_ialW (n := 24) (l := 0) (u := 4095) hB b22 (by decide) (by decide) (fun _ => rfl) rfl rfl rfl (fun v23 b23 e23 => ?_)
          refine ev_goto rfl rfl ?_
          exact ev_iret rfl rfl rfl ⟨⟨_, rfl, (b23.mono (by decide) (by decide))⟩, rfl, rfl⟩
    · have w6b : a1 = 0 ∨ a1 = 1 ∨ a1 = 2 ∨ a1 = 3 := sw_or4_0 w6
      rcases w6b with rfl | rfl | rfl | rfl
      · refine ev_tabIn 44 rfl (by decide) (by decide) rfl (by decide) ?_
        refine ev_aload_n rfl rfl rfl ?_
        refine ev_getR (y := 28) rfl rfl fl_X9_43 rfl rfl rfl rfl ?_
        refine ev_getR (y := 36) rfl rfl fl_X9_196 rfl rfl rfl rfl ?_
        refine ev_iload_n rfl rfl rfl ?_
        refine ev_ialW (n := 6) (l := 0) (u := 24) hB b4 (by decide) (by decide) (fun _ => rfl) rfl rfl rfl (fun v24 b24 e24 => ?_)
        exact ev_iret rfl rfl rfl ⟨⟨_, rfl, (b24.mono (by decide) (by decide))⟩, rfl, rfl⟩
      · refine ev_tabIn 54 rfl (by decide) (by decide) rfl (by decide) ?_
        refine ev_aload_n rfl rfl rfl ?_
        refine ev_getR (y := 28) rfl rfl fl_X9_43 rfl rfl rfl rfl ?_
        refine ev_iload_n rfl rfl rfl ?_
        refine ev_V1P rfl rfl lk_X9_198 vt_X7_sounding rfl rfl rfl rfl rfl (w_X7_sounding_28 L b h hB a0 b4) (fun r25 q25 => ?_)
        exact ev_iret rfl rfl rfl ⟨⟨_, rfl, (B.any r25)⟩, rfl, rfl⟩
      · refine ev_tabIn 63 rfl (by decide) (by decide) rfl (by decide) ?_
        refine ev_aload_n rfl rfl rfl ?_
        refine ev_getR (y := 28) rfl rfl fl_X9_43 rfl rfl rfl rfl ?_
        refine ev_iload_n rfl rfl rfl ?_
        refine ev_V1P rfl rfl lk_X9_201 vt_X7_whistlesOf rfl rfl rfl rfl rfl (w_X7_whistlesOf_28 L b h hB a0 b4) (fun r26 q26 => ?_)
        refine ev_S1P rfl rfl lk_X9_204 st_X9_leastOf rfl rfl (w_X9_leastOf L b h hB r26) (fun r27 q27 => ?_)
        exact ev_iret rfl rfl rfl ⟨⟨_, rfl, (B.any r27)⟩, rfl, rfl⟩
      · refine ev_tabIn 75 rfl (by decide) (by decide) rfl (by decide) ?_
        refine ev_aload_n rfl rfl rfl ?_
        refine ev_getR (y := 28) rfl rfl fl_X9_43 rfl rfl rfl rfl ?_
        refine ev_iload_n rfl rfl rfl ?_
        refine ev_V1P rfl rfl lk_X9_201 vt_X7_whistlesOf rfl rfl rfl rfl rfl (w_X7_whistlesOf_28 L b h hB a0 b4) (fun r28 q28 => ?_)
        refine ev_S1P rfl rfl lk_X9_207 st_X9_greatestOf rfl rfl (w_X9_greatestOf L b h hB r28) (fun r29 q29 => ?_)
        exact ev_iret rfl rfl rfl ⟨⟨_, rfl, (q29.mono (by decide) (by decide))⟩, rfl, rfl⟩
  · have b5 : B r1 0 0 := R_eqX b1 (by decide : B 0 0 0) c2
    refine ev_iconst (v := (-1)) rfl rfl (by decide) ?_
    exact ev_iret rfl rfl rfl ⟨⟨_, rfl, ((by decide : B (-1) (-1) (-1)).mono (by decide) (by decide))⟩, rfl, rfl⟩

set_option maxRecDepth 100000 in
set_option maxHeartbeats 4000000 in
theorem w_X9_isKey (L : Nat) (b : Bool) (h : Hp) (hB : Bx h) (a0 : Int32) : EvP mi_X9_isKey [.int a0] (G0 L b) h (fun r : Int32 => B r 0 1 ∧ (¬ r = 0 → B a0 (-11) 11)) := by
  refine EvM.of2 (lo := [some (.int a0)]) pf_X9_isKey ok_X9_isKey rfl rfl ?_
  refine ev_iload_n rfl rfl rfl ?_
  refine ev_bipush (v := (-11)) rfl rfl (by decide) ?_
  refine ev_bipush (v := 11) rfl rfl (by decide) ?_
  refine ev_S3P rfl rfl lk_X9_75 st_X9_isWithin rfl rfl (w_isWithin (G0 L b) h a0 (-11) 11 (by decide : B (-11) (-11) (-11)) (by decide : B 11 11 11)) (fun r1 q1 => ?_)
  obtain ⟨b1, p1_0⟩ := q1
  exact ev_iret rfl rfl (ev_rtB b1) ⟨⟨_, rfl, ⟨b1, (fun e_ => (p1_0 e_).mono (by decide) (by decide))⟩⟩, rfl, rfl⟩

set_option maxRecDepth 100000 in
set_option maxHeartbeats 4000000 in
theorem w_X9_tryOut_1 (L : Nat) (b : Bool) (h : Hp) (hB : Bx h) (a0 : Int32) (a1 : Int32) : EvJ mi_X9_tryOut [.ref 1, .int a0, .int a1] (G0 L b) h (fun r : Int32 => B r (-123) 2147483647) [(3, 0), (3, 1), (3, 2), (3, 3), (3, 4)] := by
  refine EvM.of2 (lo := [some (.ref 1), some (.int a0), some (.int a1), none, none, none, none]) pf_X9_tryOut ok_X9_tryOut rfl rfl ?_
  have hJ0 : JW [(3, 0), (3, 1), (3, 2), (3, 3), (3, 4)] h h := JW.refl hB
  refine ev_aload_n rfl rfl rfl ?_
  refine ev_getR (y := 28) rfl rfl fl_X9_43 rfl rfl rfl rfl ?_
  refine ev_iload_n rfl rfl rfl ?_
  refine ev_V1P rfl rfl lk_X9_195 vt_X7_has rfl rfl rfl rfl rfl (w_X7_has_28 L b h hJ0.1 a0) (fun r1 q1 => ?_)
  obtain ⟨b1, p1_0⟩ := q1
  refine ev_if_eq rfl rfl (fun c2 => ?_) (fun c2 => ?_)
  · have b3 : B r1 0 0 := R_eqX b1 (by decide : B 0 0 0) c2
    refine ev_iconst (v := (-1)) rfl rfl (by decide) ?_
    exact ev_iret rfl rfl rfl ⟨⟨_, rfl, ((by decide : B (-1) (-1) (-1)).mono (by decide) (by decide))⟩, rfl, hJ0⟩
  · have b4 : B r1 1 1 := R_neL b1 (by decide : B 0 0 0) c2 (by decide)
    have b5 : B a0 0 5 := p1_0 c2
    refine ev_iload_n rfl rfl rfl ?_
    refine ev_S1P rfl rfl lk_X9_227 st_X9_isKey rfl rfl (w_X9_isKey L b h hJ0.1 a1) (fun r6 q6 => ?_)
    obtain ⟨b6, p6_0⟩ := q6
    refine ev_if_ne rfl rfl (fun c7 => ?_) (fun c7 => ?_)
    · have b8 : B r6 1 1 := R_neL b6 (by decide : B 0 0 0) c7 (by decide)
      have b9 : B a1 (-11) 11 := p6_0 c7
      refine ev_aload_n rfl rfl rfl ?_
      refine ev_getR (y := 28) rfl rfl fl_X9_43 rfl rfl rfl rfl ?_
      refine ev_iload_n rfl rfl rfl ?_
      refine ev_iload_n rfl rfl rfl ?_
      refine ev_aload_n rfl rfl rfl ?_
      refine ev_getR (y := 4) rfl rfl fl_X9_22 rfl rfl rfl rfl ?_
      refine ev_getW (l := 0) (u := 12) hJ0.1 rfl rfl rfl fl_X9_158 rfl rfl rfl (fun v11 b11 e11 => ?_)
      refine ev_V3P rfl rfl lk_X9_230 vt_X7_goes rfl rfl rfl rfl rfl (w_X7_goes_28 L b h hJ0.1 a0 b5 a1 v11) (fun r12 q12 => ?_)
      refine ev_if_ne rfl rfl (fun c13 => ?_) (fun c13 => ?_)
      · have b14 : B r12 1 1 := R_neL q12 (by decide : B 0 0 0) c13 (by decide)
        refine ev_aload_n rfl rfl rfl ?_
        refine ev_getR (y := 3) rfl rfl fl_X9_16 rfl rfl rfl rfl ?_
        refine ev_aload_n rfl rfl rfl ?_
        refine ev_getR (y := 2) rfl rfl fl_X9_10 rfl rfl rfl rfl ?_
        refine ev_V1N hJ0 rfl rfl rfl lk_X9_220 vt_X1_copyFrom rfl rfl rfl rfl rfl (w_X1_copyFrom_3_2 L b h hJ0.1 ) (fun h16 hJ16 k16  => ?_)
        refine ev_iconst (v := 0) rfl rfl (by decide) ?_
        refine ev_istore_n rfl rfl rfl rfl ?_
        dsimp only [List.set]
        refine ev_iconst (v := 0) rfl rfl (by decide) ?_
        refine ev_istore rfl rfl rfl rfl ?_
        dsimp only [List.set]
        have lp58_112 : ∀ (n : Nat) (w113 : Int32) (w114 : Int32) (h117 : Hp), B w113 0 2147483647 → B w114 0 24 → JW [(3, 0), (3, 1), (3, 2), (3, 3), (3, 4)] h h117 → (h117 4 7 = v11) → 24 + 1 - w114.toInt ≤ (n : Int) → EvQ mi_X9_tryOut 58 [some (.ref 1), some (.int a0), some (.int a1), some (.int w113), some (.int w114), none, none] [] (G0 L b) h117 0 0 (QJ (fun r : Int32 => B r (-123) 2147483647) [(3, 0), (3, 1), (3, 2), (3, 3), (3, 4)] (G0 L b) h) := by
          intro n
          induction n with
          | zero =>
            intro w113 w114 h117 b115 b116 hJ118 z119 hm58
            exact absurd hm58 (L_zero b116 (by decide))
          | succ n ih58 =>
            intro w113 w114 h117 b115 b116 hJ118 z119 hm58
            refine ev_iload rfl rfl rfl ?_
            refine ev_aload_n rfl rfl rfl ?_
            refine ev_getR (y := 28) rfl rfl fl_X9_43 rfl rfl rfl rfl ?_
            refine ev_getR (y := 36) rfl rfl fl_X9_196 rfl rfl rfl rfl ?_
            refine ev_iload_n rfl rfl rfl ?_
            refine ev_ialW (n := 6) (l := 0) (u := 24) hJ118.1 b5 (by decide) (by decide) (fun _ => rfl) rfl rfl rfl (fun v120 b120 e120 => ?_)
            refine ev_icmp_ge rfl rfl (fun c121 => ?_) (fun c121 => ?_)
            · refine ev_iload_n rfl rfl rfl ?_
              exact ev_iret rfl rfl rfl ⟨⟨_, rfl, (b115.mono (by decide) (by decide))⟩, rfl, hJ118⟩
            · have b122 : B w114 0 23 := R_ltX b116 b120 (Int32.not_le.mp c121) (by decide)
              have b123 : B v120 1 24 := R_ltY b116 b120 (Int32.not_le.mp c121) (by decide)
              refine ev_aload_n rfl rfl rfl ?_
              refine ev_getR (y := 28) rfl rfl fl_X9_43 rfl rfl rfl rfl ?_
              refine ev_iload_n rfl rfl rfl ?_
              refine ev_iload rfl rfl rfl ?_
              refine ev_iload_n rfl rfl rfl ?_
              refine ev_V3P rfl rfl lk_X9_352 vt_X7_chordIn rfl rfl rfl rfl rfl (w_X7_chordIn_28 L b h117 hJ118.1 a0 b5 w114 b122 a1) (fun r124 q124 => ?_)
              refine ev_istore rfl rfl rfl rfl ?_
              dsimp only [List.set]
              refine ev_aload_n rfl rfl rfl ?_
              refine ev_getR (y := 4) rfl rfl fl_X9_22 rfl rfl rfl rfl ?_
              refine ev_iload rfl rfl rfl ?_
              refine ev_aload_n rfl rfl rfl ?_
              refine ev_getR (y := 4) rfl rfl fl_X9_22 rfl rfl rfl rfl ?_
              refine ev_getW (l := (-2147483648)) (u := 2147483647) hJ118.1 rfl rfl rfl fl_X9_105 rfl rfl rfl (fun v125 b125 e125 => ?_)
              refine ev_V2P rfl rfl lk_X9_108 vt_X8_drawnBy rfl rfl rfl rfl rfl (w_X8_drawnBy_4 L b h117 hJ118.1 r124 v125) (fun r126 q126 => ?_)
              refine ev_istore rfl rfl rfl rfl ?_
              dsimp only [List.set]
              refine ev_iload rfl rfl rfl ?_
              refine ev_aload_n rfl rfl rfl ?_
              refine ev_getR (y := 3) rfl rfl fl_X9_16 rfl rfl rfl rfl ?_
              refine ev_getW (l := (-2147483648)) (u := 2147483647) hJ118.1 rfl rfl rfl fl_X9_87 rfl rfl rfl (fun v127 b127 e127 => ?_)
              refine ev_icmp_le rfl rfl (fun c128 => ?_) (fun c128 => ?_)
              · refine ev_iload_n rfl rfl rfl ?_
                refine ev_aload_n rfl rfl rfl ?_
                refine ev_getR (y := 4) rfl rfl fl_X9_22 rfl rfl rfl rfl ?_
                refine ev_iload rfl rfl rfl ?_
                refine ev_aload_n rfl rfl rfl ?_
                refine ev_getR (y := 3) rfl rfl fl_X9_16 rfl rfl rfl rfl ?_
                refine ev_getW (l := 0) (u := 200) hJ118.1 rfl rfl rfl fl_X9_99 rfl rfl rfl (fun v131 b131 e131 => ?_)
                refine ev_V2P rfl rfl lk_X9_115 vt_X8_strayOf rfl rfl rfl rfl rfl (w_X8_strayOf_4 L b h117 hJ118.1 r124 v131) (fun r132 q132 => ?_)
                refine ev_S2P rfl rfl lk_X9_356 st_J9_max_7cf53 rfl rfl (w_max (l := 0) (u := 2147483647) (G0 L b) h117 w113 r132 b115 q132 (Or.inl (by decide)) (by decide) (by decide)) (fun r133 q133 => ?_)
                refine ev_istore_n rfl rfl rfl rfl ?_
                dsimp only [List.set]
                refine ev_aload_n rfl rfl rfl ?_
                refine ev_getR (y := 3) rfl rfl fl_X9_16 rfl rfl rfl rfl ?_
                refine ev_iload rfl rfl rfl ?_
                refine ev_V1N hJ118 rfl rfl rfl lk_X9_118 vt_X1_pass rfl rfl rfl rfl rfl (w_X1_pass_3 L b h117 hJ118.1 r126) (fun h134 hJ134 k134  => ?_)
                refine ev_iincB (y := 1) (l := 1) (u := 24) rfl rfl rfl (by decide) rfl rfl b122 (by decide : B 1 1 1) (by decide) (by decide) (by decide) (by decide) (fun v135 b135 e135 => ?_)
                dsimp only [List.set]
                refine ev_goto rfl rfl ?_
                exact (EvQ.drop 6 (EvQ.drop 5 (ih58 r133 v135 h134 q133 (b135.mono (by decide) (by decide)) hJ134 (rd_w k134 z119 rfl) (L_up hm58 (e_p1 e135 (by decide))))))
              · have b129 : B r126 (-2147483647) 2147483647 := R_ltY (B.any v127) (B.any r126) (Int32.not_le.mp c128) (by decide)
                have b130 : B v127 (-2147483648) 2147483646 := R_ltX (B.any v127) (B.any r126) (Int32.not_le.mp c128) (by decide)
                refine ev_bipush (v := (-100)) rfl rfl (by decide) ?_
                refine ev_iload rfl rfl rfl ?_
                refine ev_isubB (l := -123) (u := -100) rfl rfl (by decide : B (-100) (-100) (-100)) b122 (by decide) (by decide) (by decide) (by decide) (fun v136 b136 e136 g136 => ?_)
                exact ev_iret rfl rfl rfl ⟨⟨_, rfl, (b136.mono (by decide) (by decide))⟩, rfl, hJ118⟩
        exact (lp58_112 25 0 0 h16 ((by decide : B 0 0 0).mono (by decide) (by decide)) ((by decide : B 0 0 0).mono (by decide) (by decide)) hJ16 (rd_w k16 e11 rfl) (L_init (by decide : B 0 0 0) (by decide)))
      · have b15 : B r12 0 0 := R_eqX q12 (by decide : B 0 0 0) c13
        refine ev_bipush (v := (-2)) rfl rfl (by decide) ?_
        exact ev_iret rfl rfl rfl ⟨⟨_, rfl, ((by decide : B (-2) (-2) (-2)).mono (by decide) (by decide))⟩, rfl, hJ0⟩
    · have b10 : B r6 0 0 := R_eqX b6 (by decide : B 0 0 0) c7
      refine ev_iconst (v := (-1)) rfl rfl (by decide) ?_
      exact ev_iret rfl rfl rfl ⟨⟨_, rfl, ((by decide : B (-1) (-1) (-1)).mono (by decide) (by decide))⟩, rfl, hJ0⟩

set_option maxRecDepth 100000 in
set_option maxHeartbeats 4000000 in
theorem w_X9_play_1 (L : Nat) (b : Bool) (h : Hp) (hB : Bx h) (a0 : Int32) (a1 : Int32) : EvJ mi_X9_play [.ref 1, .int a0, .int a1] (G0 L b) h (fun r : Int32 => B r (-123) 2147483647) [(2, 0), (2, 1), (2, 2), (2, 3), (2, 4), (3, 0), (3, 1), (3, 2), (3, 3), (3, 4), (11, 1), (11, 2), (11, 3), (13, 999), (14, 999), (15, 999), (16, 999), (17, 999), (18, 999), (19, 999), (20, 999), (21, 999), (22, 999)] := by
  refine EvM.of2 (lo := [some (.ref 1), some (.int a0), some (.int a1), none, none]) pf_X9_play ok_X9_play rfl rfl ?_
  have hJ0 : JW [(2, 0), (2, 1), (2, 2), (2, 3), (2, 4), (3, 0), (3, 1), (3, 2), (3, 3), (3, 4), (11, 1), (11, 2), (11, 3), (13, 999), (14, 999), (15, 999), (16, 999), (17, 999), (18, 999), (19, 999), (20, 999), (21, 999), (22, 999)] h h := JW.refl hB
  refine ev_aload_n rfl rfl rfl ?_
  refine ev_iload_n rfl rfl rfl ?_
  refine ev_iload_n rfl rfl rfl ?_
  refine ev_V2J hJ0 rfl rfl rfl lk_X9_217 vt_X9_tryOut rfl rfl rfl rfl rfl (w_X9_tryOut_1 L b h hJ0.1 a0 a1) (fun r1 h1 q1 hJ1 k1 => ?_)
  refine ev_istore_n rfl rfl rfl rfl ?_
  dsimp only [List.set]
  refine ev_iload_n rfl rfl rfl ?_
  refine ev_if_ge rfl rfl (fun c2 => ?_) (fun c2 => ?_)
  · have b3 : B r1 0 2147483647 := R_leY (by decide : B 0 0 0) q1 c2 (by decide)
    refine ev_iconst (v := 1) rfl rfl (by decide) ?_
    refine ev_goto rfl rfl ?_
    refine ev_istore rfl rfl rfl rfl ?_
    dsimp only [List.set]
    refine ev_iload rfl rfl rfl ?_
    refine ev_if_eq rfl rfl (fun c5 => absurd c5 (D_ne (by decide : B 1 1 1) (by decide : B 0 0 0) (by decide))) (fun c5 => ?_)
    refine ev_aload_n rfl rfl rfl ?_
    refine ev_getR (y := 11) rfl rfl fl_X9_29 rfl rfl rfl rfl ?_
    refine ev_aload_n rfl rfl rfl ?_
    refine ev_getR (y := 2) rfl rfl fl_X9_10 rfl rfl rfl rfl ?_
    refine ev_aload_n rfl rfl rfl ?_
    refine ev_getR (y := 4) rfl rfl fl_X9_22 rfl rfl rfl rfl ?_
    refine ev_V2N hJ1 rfl rfl rfl lk_X9_79 vt_X0_keep rfl rfl rfl rfl rfl (w_X0_keep_11_2_4 L b h1 hJ1.1 ) (fun h6 hJ6 k6  => ?_)
    refine ev_aload_n rfl rfl rfl ?_
    refine ev_getR (y := 2) rfl rfl fl_X9_10 rfl rfl rfl rfl ?_
    refine ev_aload_n rfl rfl rfl ?_
    refine ev_getR (y := 3) rfl rfl fl_X9_16 rfl rfl rfl rfl ?_
    refine ev_V1N hJ6 rfl rfl rfl lk_X9_220 vt_X1_copyFrom rfl rfl rfl rfl rfl (w_X1_copyFrom_2_3 L b h6 hJ6.1 ) (fun h7 hJ7 k7  => ?_)
    refine ev_iload_n rfl rfl rfl ?_
    exact ev_iret rfl rfl rfl ⟨⟨_, rfl, (b3.mono (by decide) (by decide))⟩, rfl, hJ7⟩
  · have b4 : B r1 (-123) (-1) := R_ltX q1 (by decide : B 0 0 0) (Int32.not_le.mp c2) (by decide)
    refine ev_iload_n rfl rfl rfl ?_
    refine ev_bipush (v := (-100)) rfl rfl (by decide) ?_
    refine ev_icmp_ge rfl rfl (fun c8 => ?_) (fun c8 => ?_)
    · have b9 : B r1 (-100) (-1) := R_leY (by decide : B (-100) (-100) (-100)) b4 c8 (by decide)
      refine ev_iconst (v := 0) rfl rfl (by decide) ?_
      refine ev_istore rfl rfl rfl rfl ?_
      dsimp only [List.set]
      refine ev_iload rfl rfl rfl ?_
      refine ev_if_eq rfl rfl (fun c11 => ?_) (fun c11 => absurd (D_eq (by decide : B 0 0 0) (by decide : B 0 0 0)) c11)
      refine ev_iload_n rfl rfl rfl ?_
      exact ev_iret rfl rfl rfl ⟨⟨_, rfl, (b9.mono (by decide) (by decide))⟩, rfl, hJ1⟩
    · have b10 : B r1 (-123) (-101) := R_ltX b4 (by decide : B (-100) (-100) (-100)) (Int32.not_le.mp c8) (by decide)
      refine ev_iconst (v := 1) rfl rfl (by decide) ?_
      refine ev_goto rfl rfl ?_
      refine ev_istore rfl rfl rfl rfl ?_
      dsimp only [List.set]
      refine ev_iload rfl rfl rfl ?_
      refine ev_if_eq rfl rfl (fun c12 => absurd c12 (D_ne (by decide : B 1 1 1) (by decide : B 0 0 0) (by decide))) (fun c12 => ?_)
      refine ev_aload_n rfl rfl rfl ?_
      refine ev_getR (y := 11) rfl rfl fl_X9_29 rfl rfl rfl rfl ?_
      refine ev_aload_n rfl rfl rfl ?_
      refine ev_getR (y := 2) rfl rfl fl_X9_10 rfl rfl rfl rfl ?_
      refine ev_aload_n rfl rfl rfl ?_
      refine ev_getR (y := 4) rfl rfl fl_X9_22 rfl rfl rfl rfl ?_
      refine ev_V2N hJ1 rfl rfl rfl lk_X9_79 vt_X0_keep rfl rfl rfl rfl rfl (w_X0_keep_11_2_4 L b h1 hJ1.1 ) (fun h13 hJ13 k13  => ?_)
      refine ev_aload_n rfl rfl rfl ?_
      refine ev_getR (y := 2) rfl rfl fl_X9_10 rfl rfl rfl rfl ?_
      refine ev_aload_n rfl rfl rfl ?_
      refine ev_getR (y := 3) rfl rfl fl_X9_16 rfl rfl rfl rfl ?_
      refine ev_V1N hJ13 rfl rfl rfl lk_X9_220 vt_X1_copyFrom rfl rfl rfl rfl rfl (w_X1_copyFrom_2_3 L b h13 hJ13.1 ) (fun h14 hJ14 k14  => ?_)
      refine ev_iload_n rfl rfl rfl ?_
      exact ev_iret rfl rfl rfl ⟨⟨_, rfl, (b10.mono (by decide) (by decide))⟩, rfl, hJ14⟩

set_option maxRecDepth 100000 in
set_option maxHeartbeats 4000000 in
theorem w_X9_would_1 (L : Nat) (b : Bool) (h : Hp) (hB : Bx h) (a0 : Int32) (a1 : Int32) : EvJ mi_X9_would [.ref 1, .int a0, .int a1] (G0 L b) h (fun r : Int32 => B r (-123) 2147483647) [(3, 0), (3, 1), (3, 2), (3, 3), (3, 4)] := by
  refine EvM.of2 (lo := [some (.ref 1), some (.int a0), some (.int a1)]) pf_X9_would ok_X9_would rfl rfl ?_
  have hJ0 : JW [(3, 0), (3, 1), (3, 2), (3, 3), (3, 4)] h h := JW.refl hB
  refine ev_aload_n rfl rfl rfl ?_
  refine ev_iload_n rfl rfl rfl ?_
  refine ev_iload_n rfl rfl rfl ?_
  refine ev_V2J hJ0 rfl rfl rfl lk_X9_217 vt_X9_tryOut rfl rfl rfl rfl rfl (w_X9_tryOut_1 L b h hJ0.1 a0 a1) (fun r1 h1 q1 hJ1 k1 => ?_)
  exact ev_iret rfl rfl rfl ⟨⟨_, rfl, q1⟩, rfl, hJ1⟩

set_option maxRecDepth 100000 in
set_option maxHeartbeats 4000000 in
theorem w_X9_key_1 (L : Nat) (b : Bool) (h : Hp) (hB : Bx h) (a0 : Int32) (a1 : Int32) : EvJ mi_X9_key [.ref 1, .int a0, .int a1] (G0 L b) h (fun r : Int32 => B r (-2147483648) 2147483647) [(3, 0), (3, 1), (3, 2), (3, 3), (3, 4)] := by
  refine EvM.of2 (lo := [some (.ref 1), some (.int a0), some (.int a1), none, none, none, none, none, none, none]) pf_X9_key ok_X9_key rfl rfl ?_
  have hJ0 : JW [(3, 0), (3, 1), (3, 2), (3, 3), (3, 4)] h h := JW.refl hB
  refine ev_aload_n rfl rfl rfl ?_
  refine ev_getR (y := 28) rfl rfl fl_X9_43 rfl rfl rfl rfl ?_
  refine ev_iload_n rfl rfl rfl ?_
  refine ev_V1P rfl rfl lk_X9_195 vt_X7_has rfl rfl rfl rfl rfl (w_X7_has_28 L b h hJ0.1 a0) (fun r1 q1 => ?_)
  obtain ⟨b1, p1_0⟩ := q1
  refine ev_if_eq rfl rfl (fun c2 => ?_) (fun c2 => ?_)
  · have b3 : B r1 0 0 := R_eqX b1 (by decide : B 0 0 0) c2
    refine ev_bipush (v := (-100)) rfl rfl (by decide) ?_
    exact ev_iret rfl rfl rfl ⟨⟨_, rfl, ((by decide : B (-100) (-100) (-100)).mono (by decide) (by decide))⟩, rfl, hJ0⟩
  · have b4 : B r1 1 1 := R_neL b1 (by decide : B 0 0 0) c2 (by decide)
    have b5 : B a0 0 5 := p1_0 c2
    refine ev_iload_n rfl rfl rfl ?_
    refine ev_iconst (v := 0) rfl rfl (by decide) ?_
    refine ev_iconst (v := 2) rfl rfl (by decide) ?_
    refine ev_S3P rfl rfl lk_X9_75 st_X9_isWithin rfl rfl (w_isWithin (G0 L b) h a1 0 2 (by decide : B 0 0 0) (by decide : B 2 2 2)) (fun r6 q6 => ?_)
    obtain ⟨b6, p6_0⟩ := q6
    refine ev_if_ne rfl rfl (fun c7 => ?_) (fun c7 => ?_)
    · have b8 : B r6 1 1 := R_neL b6 (by decide : B 0 0 0) c7 (by decide)
      have b9 : B a1 0 2 := p6_0 c7
      refine ev_iconst (v := 0) rfl rfl (by decide) ?_
      refine ev_istore_n rfl rfl rfl rfl ?_
      dsimp only [List.set]
      refine ev_bipush (v := (-104)) rfl rfl (by decide) ?_
      refine ev_istore rfl rfl rfl rfl ?_
      dsimp only [List.set]
      refine ev_bipush (v := (-104)) rfl rfl (by decide) ?_
      refine ev_istore rfl rfl rfl rfl ?_
      dsimp only [List.set]
      refine ev_bipush (v := (-11)) rfl rfl (by decide) ?_
      refine ev_istore rfl rfl rfl rfl ?_
      dsimp only [List.set]
      have lp37_618 : ∀ (n : Nat) (w619 : Int32) (w620 : Int32) (w621 : Int32) (w622 : Int32) (h626 : Hp), B w620 (-104) 2147483647 → B w621 (-104) 2147483647 → B w622 (-11) 12 → JW [(3, 0), (3, 1), (3, 2), (3, 3), (3, 4)] h h626 → 12 + 1 - w622.toInt ≤ (n : Int) → EvQ mi_X9_key 37 [some (.ref 1), some (.int a0), some (.int a1), some (.int w619), some (.int w620), some (.int w621), some (.int w622), none, none, none] [] (G0 L b) h626 0 0 (QJ (fun r : Int32 => B r (-2147483648) 2147483647) [(3, 0), (3, 1), (3, 2), (3, 3), (3, 4)] (G0 L b) h) := by
        intro n
        induction n with
        | zero =>
          intro w619 w620 w621 w622 h626 b623 b624 b625 hJ627 hm37
          exact absurd hm37 (L_zero b625 (by decide))
        | succ n ih37 =>
          intro w619 w620 w621 w622 h626 b623 b624 b625 hJ627 hm37
          refine ev_iload rfl rfl rfl ?_
          refine ev_bipush (v := 11) rfl rfl (by decide) ?_
          refine ev_icmp_gt rfl rfl (fun c628 => ?_) (fun c628 => ?_)
          · have b629 : B w622 12 12 := R_ltY (by decide : B 11 11 11) b625 c628 (by decide)
            refine ev_iload_n rfl rfl rfl ?_
            refine ev_iconst (v := 2) rfl rfl (by decide) ?_
            refine ev_icmp_ne rfl rfl (fun c631 => ?_) (fun c631 => ?_)
            · have b632 : B a1 0 1 := R_neU b9 (by decide : B 2 2 2) c631 (by decide)
              refine ev_iload_n rfl rfl rfl ?_
              refine ev_if_ne rfl rfl (fun c634 => ?_) (fun c634 => ?_)
              · have b635 : B a1 1 1 := R_neL b632 (by decide : B 0 0 0) c634 (by decide)
                refine ev_iload rfl rfl rfl ?_
                exact ev_iret rfl rfl rfl ⟨⟨_, rfl, (b624.mono (by decide) (by decide))⟩, rfl, hJ627⟩
              · have b636 : B a1 0 0 := R_eqX b632 (by decide : B 0 0 0) c634
                refine ev_iload rfl rfl rfl ?_
                refine ev_goto rfl rfl ?_
                exact ev_iret rfl rfl rfl ⟨⟨_, rfl, (b623.mono (by decide) (by decide))⟩, rfl, hJ627⟩
            · have b633 : B a1 2 2 := R_eqX b9 (by decide : B 2 2 2) c631
              refine ev_iload_n rfl rfl rfl ?_
              exact ev_iret rfl rfl rfl ⟨⟨_, rfl, (B.any w619)⟩, rfl, hJ627⟩
          · have b630 : B w622 (-11) 11 := R_leX b625 (by decide : B 11 11 11) (Int32.not_lt.mp c628) (by decide)
            refine ev_aload_n rfl rfl rfl ?_
            refine ev_iload_n rfl rfl rfl ?_
            refine ev_iload rfl rfl rfl ?_
            refine ev_V2J hJ627 rfl rfl rfl lk_X9_217 vt_X9_tryOut rfl rfl rfl rfl rfl (w_X9_tryOut_1 L b h626 hJ627.1 a0 w622) (fun r637 h637 q637 hJ637 k637 => ?_)
            refine ev_istore rfl rfl rfl rfl ?_
            dsimp only [List.set]
            refine ev_iload_n rfl rfl rfl ?_
            refine ev_iload rfl rfl rfl ?_
            refine ev_bipush (v := (-2)) rfl rfl (by decide) ?_
            refine ev_icmp_ne rfl rfl (fun c638 => ?_) (fun c638 => ?_)
            · refine ev_iconst (v := 1) rfl rfl (by decide) ?_
              refine ev_iaddA rfl rfl (fun v640 g640 => ?_)
              refine ev_istore_n rfl rfl rfl rfl ?_
              dsimp only [List.set]
              refine ev_iload rfl rfl rfl ?_
              refine ev_bipush (v := (-104)) rfl rfl (by decide) ?_
              refine ev_icmp_ne rfl rfl (fun c641 => ?_) (fun c641 => ?_)
              · have b642 : B w620 (-103) 2147483647 := R_neL b623 (by decide : B (-104) (-104) (-104)) c641 (by decide)
                refine ev_iconst (v := 0) rfl rfl (by decide) ?_
                refine ev_istore rfl rfl rfl rfl ?_
                dsimp only [List.set]
                refine ev_iload rfl rfl rfl ?_
                refine ev_iload rfl rfl rfl ?_
                refine ev_icmp_ne rfl rfl (fun c644 => ?_) (fun c644 => ?_)
                · refine ev_iconst (v := 0) rfl rfl (by decide) ?_
                  refine ev_istore rfl rfl rfl rfl ?_
                  dsimp only [List.set]
                  refine ev_iload rfl rfl rfl ?_
                  refine ev_if_lt rfl rfl (fun c646 => ?_) (fun c646 => ?_)
                  · have b647 : B r637 (-123) (-1) := R_ltX q637 (by decide : B 0 0 0) c646 (by decide)
                    refine ev_iincB (y := 1) (l := -10) (u := 12) rfl rfl rfl (by decide) rfl rfl b630 (by decide : B 1 1 1) (by decide) (by decide) (by decide) (by decide) (fun v649 b649 e649 => ?_)
                    dsimp only [List.set]
                    refine ev_goto rfl rfl ?_
                    exact (EvQ.drop 9 (EvQ.drop 8 (EvQ.drop 7 (ih37 v640 w620 w621 v649 h637 (b642.mono (by decide) (by decide)) b624 (b649.mono (by decide) (by decide)) hJ637 (L_up hm37 (e_p1 e649 (by decide)))))))
                  · have b648 : B r637 0 2147483647 := R_leY (by decide : B 0 0 0) q637 (Int32.not_lt.mp c646) (by decide)
                    refine ev_iload rfl rfl rfl ?_
                    refine ev_if_ne rfl rfl (fun c650 => absurd (D_eq (by decide : B 0 0 0) (by decide : B 0 0 0)) c650) (fun c650 => ?_)
                    refine ev_iload rfl rfl rfl ?_
                    refine ev_iload rfl rfl rfl ?_
                    refine ev_icmp_lt rfl rfl (fun c651 => ?_) (fun c651 => ?_)
                    · have b652 : B r637 0 2147483646 := R_ltX b648 b624 c651 (by decide)
                      have b653 : B w621 1 2147483647 := R_ltY b648 b624 c651 (by decide)
                      refine ev_iload rfl rfl rfl ?_
                      refine ev_istore rfl rfl rfl rfl ?_
                      dsimp only [List.set]
                      refine ev_iload rfl rfl rfl ?_
                      refine ev_istore rfl rfl rfl rfl ?_
                      dsimp only [List.set]
                      refine ev_iincB (y := 1) (l := -10) (u := 12) rfl rfl rfl (by decide) rfl rfl b630 (by decide : B 1 1 1) (by decide) (by decide) (by decide) (by decide) (fun v654 b654 e654 => ?_)
                      dsimp only [List.set]
                      refine ev_goto rfl rfl ?_
                      exact (EvQ.drop 9 (EvQ.drop 8 (EvQ.drop 7 (ih37 v640 w622 r637 v654 h637 (b630.mono (by decide) (by decide)) (b652.mono (by decide) (by decide)) (b654.mono (by decide) (by decide)) hJ637 (L_up hm37 (e_p1 e654 (by decide)))))))
                    · refine ev_iload rfl rfl rfl ?_
                      refine ev_if_eq rfl rfl (fun c655 => ?_) (fun c655 => absurd (D_eq (by decide : B 0 0 0) (by decide : B 0 0 0)) c655)
                      refine ev_iincB (y := 1) (l := -10) (u := 12) rfl rfl rfl (by decide) rfl rfl b630 (by decide : B 1 1 1) (by decide) (by decide) (by decide) (by decide) (fun v656 b656 e656 => ?_)
                      dsimp only [List.set]
                      refine ev_goto rfl rfl ?_
                      exact (EvQ.drop 9 (EvQ.drop 8 (EvQ.drop 7 (ih37 v640 w620 w621 v656 h637 (b642.mono (by decide) (by decide)) b624 (b656.mono (by decide) (by decide)) hJ637 (L_up hm37 (e_p1 e656 (by decide)))))))
                · have b645 : B r637 (-104) 2147483647 := R_eqX q637 b624 c644
                  refine ev_iload rfl rfl rfl ?_
                  refine ev_S1P rfl rfl lk_X9_224 st_J9_abs_0f7a4 rfl rfl (w_any (c_abs (G0 L b) h637 w622)) (fun r657 q657 => ?_)
                  refine ev_iload rfl rfl rfl ?_
                  refine ev_S1P rfl rfl lk_X9_224 st_J9_abs_0f7a4 rfl rfl (w_any (c_abs (G0 L b) h637 w620)) (fun r658 q658 => ?_)
                  refine ev_icmp_ge rfl rfl (fun c659 => ?_) (fun c659 => ?_)
                  · refine ev_iconst (v := 0) rfl rfl (by decide) ?_
                    refine ev_istore rfl rfl rfl rfl ?_
                    dsimp only [List.set]
                    refine ev_iload rfl rfl rfl ?_
                    refine ev_if_lt rfl rfl (fun c662 => ?_) (fun c662 => ?_)
                    · have b663 : B r637 (-104) (-1) := R_ltX b645 (by decide : B 0 0 0) c662 (by decide)
                      refine ev_iincB (y := 1) (l := -10) (u := 12) rfl rfl rfl (by decide) rfl rfl b630 (by decide : B 1 1 1) (by decide) (by decide) (by decide) (by decide) (fun v665 b665 e665 => ?_)
                      dsimp only [List.set]
                      refine ev_goto rfl rfl ?_
                      exact (EvQ.drop 9 (EvQ.drop 8 (EvQ.drop 7 (ih37 v640 w620 w621 v665 h637 (b642.mono (by decide) (by decide)) b624 (b665.mono (by decide) (by decide)) hJ637 (L_up hm37 (e_p1 e665 (by decide)))))))
                    · have b664 : B r637 0 2147483647 := R_leY (by decide : B 0 0 0) b645 (Int32.not_lt.mp c662) (by decide)
                      refine ev_iload rfl rfl rfl ?_
                      refine ev_if_ne rfl rfl (fun c666 => absurd (D_eq (by decide : B 0 0 0) (by decide : B 0 0 0)) c666) (fun c666 => ?_)
                      refine ev_iload rfl rfl rfl ?_
                      refine ev_iload rfl rfl rfl ?_
                      refine ev_icmp_lt rfl rfl (fun c667 => ?_) (fun c667 => ?_)
                      · have b668 : B r637 0 2147483646 := R_ltX b664 b624 c667 (by decide)
                        have b669 : B w621 1 2147483647 := R_ltY b664 b624 c667 (by decide)
                        refine ev_iload rfl rfl rfl ?_
                        refine ev_istore rfl rfl rfl rfl ?_
                        dsimp only [List.set]
                        refine ev_iload rfl rfl rfl ?_
                        refine ev_istore rfl rfl rfl rfl ?_
                        dsimp only [List.set]
                        refine ev_iincB (y := 1) (l := -10) (u := 12) rfl rfl rfl (by decide) rfl rfl b630 (by decide : B 1 1 1) (by decide) (by decide) (by decide) (by decide) (fun v670 b670 e670 => ?_)
                        dsimp only [List.set]
                        refine ev_goto rfl rfl ?_
                        exact (EvQ.drop 9 (EvQ.drop 8 (EvQ.drop 7 (ih37 v640 w622 r637 v670 h637 (b630.mono (by decide) (by decide)) (b668.mono (by decide) (by decide)) (b670.mono (by decide) (by decide)) hJ637 (L_up hm37 (e_p1 e670 (by decide)))))))
                      · refine ev_iload rfl rfl rfl ?_
                        refine ev_if_eq rfl rfl (fun c671 => ?_) (fun c671 => absurd (D_eq (by decide : B 0 0 0) (by decide : B 0 0 0)) c671)
                        refine ev_iincB (y := 1) (l := -10) (u := 12) rfl rfl rfl (by decide) rfl rfl b630 (by decide : B 1 1 1) (by decide) (by decide) (by decide) (by decide) (fun v672 b672 e672 => ?_)
                        dsimp only [List.set]
                        refine ev_goto rfl rfl ?_
                        exact (EvQ.drop 9 (EvQ.drop 8 (EvQ.drop 7 (ih37 v640 w620 w621 v672 h637 (b642.mono (by decide) (by decide)) b624 (b672.mono (by decide) (by decide)) hJ637 (L_up hm37 (e_p1 e672 (by decide)))))))
                  · have b660 : B r657 (-2147483648) 2147483646 := R_ltX (B.any r657) (B.any r658) (Int32.not_le.mp c659) (by decide)
                    have b661 : B r658 (-2147483647) 2147483647 := R_ltY (B.any r657) (B.any r658) (Int32.not_le.mp c659) (by decide)
                    refine ev_iconst (v := 1) rfl rfl (by decide) ?_
                    refine ev_goto rfl rfl ?_
                    refine ev_istore rfl rfl rfl rfl ?_
                    dsimp only [List.set]
                    refine ev_iload rfl rfl rfl ?_
                    refine ev_if_lt rfl rfl (fun c673 => ?_) (fun c673 => ?_)
                    · have b674 : B r637 (-104) (-1) := R_ltX b645 (by decide : B 0 0 0) c673 (by decide)
                      refine ev_iincB (y := 1) (l := -10) (u := 12) rfl rfl rfl (by decide) rfl rfl b630 (by decide : B 1 1 1) (by decide) (by decide) (by decide) (by decide) (fun v676 b676 e676 => ?_)
                      dsimp only [List.set]
                      refine ev_goto rfl rfl ?_
                      exact (EvQ.drop 9 (EvQ.drop 8 (EvQ.drop 7 (ih37 v640 w620 w621 v676 h637 (b642.mono (by decide) (by decide)) b624 (b676.mono (by decide) (by decide)) hJ637 (L_up hm37 (e_p1 e676 (by decide)))))))
                    · have b675 : B r637 0 2147483647 := R_leY (by decide : B 0 0 0) b645 (Int32.not_lt.mp c673) (by decide)
                      refine ev_iload rfl rfl rfl ?_
                      refine ev_if_ne rfl rfl (fun c677 => absurd (D_eq (by decide : B 0 0 0) (by decide : B 0 0 0)) c677) (fun c677 => ?_)
                      refine ev_iload rfl rfl rfl ?_
                      refine ev_iload rfl rfl rfl ?_
                      refine ev_icmp_lt rfl rfl (fun c678 => ?_) (fun c678 => ?_)
                      · have b679 : B r637 0 2147483646 := R_ltX b675 b624 c678 (by decide)
                        have b680 : B w621 1 2147483647 := R_ltY b675 b624 c678 (by decide)
                        refine ev_iload rfl rfl rfl ?_
                        refine ev_istore rfl rfl rfl rfl ?_
                        dsimp only [List.set]
                        refine ev_iload rfl rfl rfl ?_
                        refine ev_istore rfl rfl rfl rfl ?_
                        dsimp only [List.set]
                        refine ev_iincB (y := 1) (l := -10) (u := 12) rfl rfl rfl (by decide) rfl rfl b630 (by decide : B 1 1 1) (by decide) (by decide) (by decide) (by decide) (fun v681 b681 e681 => ?_)
                        dsimp only [List.set]
                        refine ev_goto rfl rfl ?_
                        exact (EvQ.drop 9 (EvQ.drop 8 (EvQ.drop 7 (ih37 v640 w622 r637 v681 h637 (b630.mono (by decide) (by decide)) (b679.mono (by decide) (by decide)) (b681.mono (by decide) (by decide)) hJ637 (L_up hm37 (e_p1 e681 (by decide)))))))
                      · refine ev_iload rfl rfl rfl ?_
                        refine ev_if_eq rfl rfl (fun c682 => absurd c682 (D_ne (by decide : B 1 1 1) (by decide : B 0 0 0) (by decide))) (fun c682 => ?_)
                        refine ev_iload rfl rfl rfl ?_
                        refine ev_istore rfl rfl rfl rfl ?_
                        dsimp only [List.set]
                        refine ev_iload rfl rfl rfl ?_
                        refine ev_istore rfl rfl rfl rfl ?_
                        dsimp only [List.set]
                        refine ev_iincB (y := 1) (l := -10) (u := 12) rfl rfl rfl (by decide) rfl rfl b630 (by decide : B 1 1 1) (by decide) (by decide) (by decide) (by decide) (fun v683 b683 e683 => ?_)
                        dsimp only [List.set]
                        refine ev_goto rfl rfl ?_
                        exact (EvQ.drop 9 (EvQ.drop 8 (EvQ.drop 7 (ih37 v640 w622 r637 v683 h637 (b630.mono (by decide) (by decide)) (b675.mono (by decide) (by decide)) (b683.mono (by decide) (by decide)) hJ637 (L_up hm37 (e_p1 e683 (by decide)))))))
              · have b643 : B w620 (-104) (-104) := R_eqX b623 (by decide : B (-104) (-104) (-104)) c641
                refine ev_iconst (v := 1) rfl rfl (by decide) ?_
                refine ev_goto rfl rfl ?_
                refine ev_istore rfl rfl rfl rfl ?_
                dsimp only [List.set]
                refine ev_iload rfl rfl rfl ?_
                refine ev_iload rfl rfl rfl ?_
                refine ev_icmp_ne rfl rfl (fun c684 => ?_) (fun c684 => ?_)
                · refine ev_iconst (v := 0) rfl rfl (by decide) ?_
                  refine ev_istore rfl rfl rfl rfl ?_
                  dsimp only [List.set]
                  refine ev_iload rfl rfl rfl ?_
                  refine ev_if_lt rfl rfl (fun c686 => ?_) (fun c686 => ?_)
                  · have b687 : B r637 (-123) (-1) := R_ltX q637 (by decide : B 0 0 0) c686 (by decide)
                    refine ev_iincB (y := 1) (l := -10) (u := 12) rfl rfl rfl (by decide) rfl rfl b630 (by decide : B 1 1 1) (by decide) (by decide) (by decide) (by decide) (fun v689 b689 e689 => ?_)
                    dsimp only [List.set]
                    refine ev_goto rfl rfl ?_
                    exact (EvQ.drop 9 (EvQ.drop 8 (EvQ.drop 7 (ih37 v640 w620 w621 v689 h637 (b643.mono (by decide) (by decide)) b624 (b689.mono (by decide) (by decide)) hJ637 (L_up hm37 (e_p1 e689 (by decide)))))))
                  · have b688 : B r637 0 2147483647 := R_leY (by decide : B 0 0 0) q637 (Int32.not_lt.mp c686) (by decide)
                    refine ev_iload rfl rfl rfl ?_
                    refine ev_if_ne rfl rfl (fun c690 => ?_) (fun c690 => absurd c690 (D_ne (by decide : B 1 1 1) (by decide : B 0 0 0) (by decide)))
                    refine ev_iload rfl rfl rfl ?_
                    refine ev_istore rfl rfl rfl rfl ?_
                    dsimp only [List.set]
                    refine ev_iload rfl rfl rfl ?_
                    refine ev_istore rfl rfl rfl rfl ?_
                    dsimp only [List.set]
                    refine ev_iincB (y := 1) (l := -10) (u := 12) rfl rfl rfl (by decide) rfl rfl b630 (by decide : B 1 1 1) (by decide) (by decide) (by decide) (by decide) (fun v691 b691 e691 => ?_)
                    dsimp only [List.set]
                    refine ev_goto rfl rfl ?_
                    exact (EvQ.drop 9 (EvQ.drop 8 (EvQ.drop 7 (ih37 v640 w622 r637 v691 h637 (b630.mono (by decide) (by decide)) (b688.mono (by decide) (by decide)) (b691.mono (by decide) (by decide)) hJ637 (L_up hm37 (e_p1 e691 (by decide)))))))
                · have b685 : B r637 (-104) 2147483647 := R_eqX q637 b624 c684
                  refine ev_iload rfl rfl rfl ?_
                  refine ev_S1P rfl rfl lk_X9_224 st_J9_abs_0f7a4 rfl rfl (w_any (c_abs (G0 L b) h637 w622)) (fun r692 q692 => ?_)
                  refine ev_iload rfl rfl rfl ?_
                  refine ev_S1P rfl rfl lk_X9_224 st_J9_abs_0f7a4 rfl rfl (w_any (c_abs (G0 L b) h637 w620)) (fun r693 q693 => ?_)
                  refine ev_icmp_ge rfl rfl (fun c694 => ?_) (fun c694 => ?_)
                  · refine ev_iconst (v := 0) rfl rfl (by decide) ?_
                    refine ev_istore rfl rfl rfl rfl ?_
                    dsimp only [List.set]
                    refine ev_iload rfl rfl rfl ?_
                    refine ev_if_lt rfl rfl (fun c697 => ?_) (fun c697 => ?_)
                    · have b698 : B r637 (-104) (-1) := R_ltX b685 (by decide : B 0 0 0) c697 (by decide)
                      refine ev_iincB (y := 1) (l := -10) (u := 12) rfl rfl rfl (by decide) rfl rfl b630 (by decide : B 1 1 1) (by decide) (by decide) (by decide) (by decide) (fun v700 b700 e700 => ?_)
                      dsimp only [List.set]
                      refine ev_goto rfl rfl ?_
                      exact (EvQ.drop 9 (EvQ.drop 8 (EvQ.drop 7 (ih37 v640 w620 w621 v700 h637 (b643.mono (by decide) (by decide)) b624 (b700.mono (by decide) (by decide)) hJ637 (L_up hm37 (e_p1 e700 (by decide)))))))
                    · have b699 : B r637 0 2147483647 := R_leY (by decide : B 0 0 0) b685 (Int32.not_lt.mp c697) (by decide)
                      refine ev_iload rfl rfl rfl ?_
                      refine ev_if_ne rfl rfl (fun c701 => ?_) (fun c701 => absurd c701 (D_ne (by decide : B 1 1 1) (by decide : B 0 0 0) (by decide)))
                      refine ev_iload rfl rfl rfl ?_
                      refine ev_istore rfl rfl rfl rfl ?_
                      dsimp only [List.set]
                      refine ev_iload rfl rfl rfl ?_
                      refine ev_istore rfl rfl rfl rfl ?_
                      dsimp only [List.set]
                      refine ev_iincB (y := 1) (l := -10) (u := 12) rfl rfl rfl (by decide) rfl rfl b630 (by decide : B 1 1 1) (by decide) (by decide) (by decide) (by decide) (fun v702 b702 e702 => ?_)
                      dsimp only [List.set]
                      refine ev_goto rfl rfl ?_
                      exact (EvQ.drop 9 (EvQ.drop 8 (EvQ.drop 7 (ih37 v640 w622 r637 v702 h637 (b630.mono (by decide) (by decide)) (b699.mono (by decide) (by decide)) (b702.mono (by decide) (by decide)) hJ637 (L_up hm37 (e_p1 e702 (by decide)))))))
                  · have b695 : B r692 (-2147483648) 2147483646 := R_ltX (B.any r692) (B.any r693) (Int32.not_le.mp c694) (by decide)
                    have b696 : B r693 (-2147483647) 2147483647 := R_ltY (B.any r692) (B.any r693) (Int32.not_le.mp c694) (by decide)
                    refine ev_iconst (v := 1) rfl rfl (by decide) ?_
                    refine ev_goto rfl rfl ?_
                    refine ev_istore rfl rfl rfl rfl ?_
                    dsimp only [List.set]
                    refine ev_iload rfl rfl rfl ?_
                    refine ev_if_lt rfl rfl (fun c703 => ?_) (fun c703 => ?_)
                    · have b704 : B r637 (-104) (-1) := R_ltX b685 (by decide : B 0 0 0) c703 (by decide)
                      refine ev_iincB (y := 1) (l := -10) (u := 12) rfl rfl rfl (by decide) rfl rfl b630 (by decide : B 1 1 1) (by decide) (by decide) (by decide) (by decide) (fun v706 b706 e706 => ?_)
                      dsimp only [List.set]
                      refine ev_goto rfl rfl ?_
                      exact (EvQ.drop 9 (EvQ.drop 8 (EvQ.drop 7 (ih37 v640 w620 w621 v706 h637 (b643.mono (by decide) (by decide)) b624 (b706.mono (by decide) (by decide)) hJ637 (L_up hm37 (e_p1 e706 (by decide)))))))
                    · have b705 : B r637 0 2147483647 := R_leY (by decide : B 0 0 0) b685 (Int32.not_lt.mp c703) (by decide)
                      refine ev_iload rfl rfl rfl ?_
                      refine ev_if_ne rfl rfl (fun c707 => ?_) (fun c707 => absurd c707 (D_ne (by decide : B 1 1 1) (by decide : B 0 0 0) (by decide)))
                      refine ev_iload rfl rfl rfl ?_
                      refine ev_istore rfl rfl rfl rfl ?_
                      dsimp only [List.set]
                      refine ev_iload rfl rfl rfl ?_
                      refine ev_istore rfl rfl rfl rfl ?_
                      dsimp only [List.set]
                      refine ev_iincB (y := 1) (l := -10) (u := 12) rfl rfl rfl (by decide) rfl rfl b630 (by decide : B 1 1 1) (by decide) (by decide) (by decide) (by decide) (fun v708 b708 e708 => ?_)
                      dsimp only [List.set]
                      refine ev_goto rfl rfl ?_
                      exact (EvQ.drop 9 (EvQ.drop 8 (EvQ.drop 7 (ih37 v640 w622 r637 v708 h637 (b630.mono (by decide) (by decide)) (b705.mono (by decide) (by decide)) (b708.mono (by decide) (by decide)) hJ637 (L_up hm37 (e_p1 e708 (by decide)))))))
            · have b639 : B r637 (-2) (-2) := R_eqX q637 (by decide : B (-2) (-2) (-2)) c638
              refine ev_iconst (v := 0) rfl rfl (by decide) ?_
              refine ev_goto rfl rfl ?_
              refine ev_iaddB (l := -2147483648) (u := 2147483647) rfl rfl (B.any w619) (by decide : B 0 0 0) (by decide) (by decide) (by decide) (by decide) (fun v709 b709 e709 g709 => ?_)
              refine ev_istore_n rfl rfl rfl rfl ?_
              dsimp only [List.set]
              refine ev_iload rfl rfl rfl ?_
              refine ev_bipush (v := (-104)) rfl rfl (by decide) ?_
              refine ev_icmp_ne rfl rfl (fun c710 => ?_) (fun c710 => ?_)
              · have b711 : B w620 (-103) 2147483647 := R_neL b623 (by decide : B (-104) (-104) (-104)) c710 (by decide)
                refine ev_iconst (v := 0) rfl rfl (by decide) ?_
                refine ev_istore rfl rfl rfl rfl ?_
                dsimp only [List.set]
                refine ev_iload rfl rfl rfl ?_
                refine ev_iload rfl rfl rfl ?_
                refine ev_icmp_ne rfl rfl (fun c713 => ?_) (fun c713 => ?_)
                · refine ev_iconst (v := 0) rfl rfl (by decide) ?_
                  refine ev_istore rfl rfl rfl rfl ?_
                  dsimp only [List.set]
                  refine ev_iload rfl rfl rfl ?_
                  refine ev_if_lt rfl rfl (fun c715 => ?_) (fun c715 => absurd (D_lt b639 (by decide : B 0 0 0) (by decide)) c715)
                  refine ev_iincB (y := 1) (l := -10) (u := 12) rfl rfl rfl (by decide) rfl rfl b630 (by decide : B 1 1 1) (by decide) (by decide) (by decide) (by decide) (fun v716 b716 e716 => ?_)
                  dsimp only [List.set]
                  refine ev_goto rfl rfl ?_
                  exact (EvQ.drop 9 (EvQ.drop 8 (EvQ.drop 7 (ih37 v709 w620 w621 v716 h637 (b711.mono (by decide) (by decide)) b624 (b716.mono (by decide) (by decide)) hJ637 (L_up hm37 (e_p1 e716 (by decide)))))))
                · have b714 : B w621 (-2) (-2) := R_eqY b639 b624 c713
                  refine ev_iload rfl rfl rfl ?_
                  refine ev_S1P rfl rfl lk_X9_224 st_J9_abs_0f7a4 rfl rfl (w_any (c_abs (G0 L b) h637 w622)) (fun r717 q717 => ?_)
                  refine ev_iload rfl rfl rfl ?_
                  refine ev_S1P rfl rfl lk_X9_224 st_J9_abs_0f7a4 rfl rfl (w_any (c_abs (G0 L b) h637 w620)) (fun r718 q718 => ?_)
                  refine ev_icmp_ge rfl rfl (fun c719 => ?_) (fun c719 => ?_)
                  · refine ev_iconst (v := 0) rfl rfl (by decide) ?_
                    refine ev_istore rfl rfl rfl rfl ?_
                    dsimp only [List.set]
                    refine ev_iload rfl rfl rfl ?_
                    refine ev_if_lt rfl rfl (fun c722 => ?_) (fun c722 => absurd (D_lt b639 (by decide : B 0 0 0) (by decide)) c722)
                    refine ev_iincB (y := 1) (l := -10) (u := 12) rfl rfl rfl (by decide) rfl rfl b630 (by decide : B 1 1 1) (by decide) (by decide) (by decide) (by decide) (fun v723 b723 e723 => ?_)
                    dsimp only [List.set]
                    refine ev_goto rfl rfl ?_
                    exact (EvQ.drop 9 (EvQ.drop 8 (EvQ.drop 7 (ih37 v709 w620 w621 v723 h637 (b711.mono (by decide) (by decide)) (b714.mono (by decide) (by decide)) (b723.mono (by decide) (by decide)) hJ637 (L_up hm37 (e_p1 e723 (by decide)))))))
                  · have b720 : B r717 (-2147483648) 2147483646 := R_ltX (B.any r717) (B.any r718) (Int32.not_le.mp c719) (by decide)
                    have b721 : B r718 (-2147483647) 2147483647 := R_ltY (B.any r717) (B.any r718) (Int32.not_le.mp c719) (by decide)
                    refine ev_iconst (v := 1) rfl rfl (by decide) ?_
                    refine ev_goto rfl rfl ?_
                    refine ev_istore rfl rfl rfl rfl ?_
                    dsimp only [List.set]
                    refine ev_iload rfl rfl rfl ?_
                    refine ev_if_lt rfl rfl (fun c724 => ?_) (fun c724 => absurd (D_lt b639 (by decide : B 0 0 0) (by decide)) c724)
                    refine ev_iincB (y := 1) (l := -10) (u := 12) rfl rfl rfl (by decide) rfl rfl b630 (by decide : B 1 1 1) (by decide) (by decide) (by decide) (by decide) (fun v725 b725 e725 => ?_)
                    dsimp only [List.set]
                    refine ev_goto rfl rfl ?_
                    exact (EvQ.drop 9 (EvQ.drop 8 (EvQ.drop 7 (ih37 v709 w620 w621 v725 h637 (b711.mono (by decide) (by decide)) (b714.mono (by decide) (by decide)) (b725.mono (by decide) (by decide)) hJ637 (L_up hm37 (e_p1 e725 (by decide)))))))
              · have b712 : B w620 (-104) (-104) := R_eqX b623 (by decide : B (-104) (-104) (-104)) c710
                refine ev_iconst (v := 1) rfl rfl (by decide) ?_
                refine ev_goto rfl rfl ?_
                refine ev_istore rfl rfl rfl rfl ?_
                dsimp only [List.set]
                refine ev_iload rfl rfl rfl ?_
                refine ev_iload rfl rfl rfl ?_
                refine ev_icmp_ne rfl rfl (fun c726 => ?_) (fun c726 => ?_)
                · refine ev_iconst (v := 0) rfl rfl (by decide) ?_
                  refine ev_istore rfl rfl rfl rfl ?_
                  dsimp only [List.set]
                  refine ev_iload rfl rfl rfl ?_
                  refine ev_if_lt rfl rfl (fun c728 => ?_) (fun c728 => absurd (D_lt b639 (by decide : B 0 0 0) (by decide)) c728)
                  refine ev_iincB (y := 1) (l := -10) (u := 12) rfl rfl rfl (by decide) rfl rfl b630 (by decide : B 1 1 1) (by decide) (by decide) (by decide) (by decide) (fun v729 b729 e729 => ?_)
                  dsimp only [List.set]
                  refine ev_goto rfl rfl ?_
                  exact (EvQ.drop 9 (EvQ.drop 8 (EvQ.drop 7 (ih37 v709 w620 w621 v729 h637 (b712.mono (by decide) (by decide)) b624 (b729.mono (by decide) (by decide)) hJ637 (L_up hm37 (e_p1 e729 (by decide)))))))
                · have b727 : B w621 (-2) (-2) := R_eqY b639 b624 c726
                  refine ev_iload rfl rfl rfl ?_
                  refine ev_S1P rfl rfl lk_X9_224 st_J9_abs_0f7a4 rfl rfl (w_any (c_abs (G0 L b) h637 w622)) (fun r730 q730 => ?_)
                  refine ev_iload rfl rfl rfl ?_
                  refine ev_S1P rfl rfl lk_X9_224 st_J9_abs_0f7a4 rfl rfl (w_any (c_abs (G0 L b) h637 w620)) (fun r731 q731 => ?_)
                  refine ev_icmp_ge rfl rfl (fun c732 => ?_) (fun c732 => ?_)
                  · refine ev_iconst (v := 0) rfl rfl (by decide) ?_
                    refine ev_istore rfl rfl rfl rfl ?_
                    dsimp only [List.set]
                    refine ev_iload rfl rfl rfl ?_
                    refine ev_if_lt rfl rfl (fun c735 => ?_) (fun c735 => absurd (D_lt b639 (by decide : B 0 0 0) (by decide)) c735)
                    refine ev_iincB (y := 1) (l := -10) (u := 12) rfl rfl rfl (by decide) rfl rfl b630 (by decide : B 1 1 1) (by decide) (by decide) (by decide) (by decide) (fun v736 b736 e736 => ?_)
                    dsimp only [List.set]
                    refine ev_goto rfl rfl ?_
                    exact (EvQ.drop 9 (EvQ.drop 8 (EvQ.drop 7 (ih37 v709 w620 w621 v736 h637 (b712.mono (by decide) (by decide)) (b727.mono (by decide) (by decide)) (b736.mono (by decide) (by decide)) hJ637 (L_up hm37 (e_p1 e736 (by decide)))))))
                  · have b733 : B r730 (-2147483648) 2147483646 := R_ltX (B.any r730) (B.any r731) (Int32.not_le.mp c732) (by decide)
                    have b734 : B r731 (-2147483647) 2147483647 := R_ltY (B.any r730) (B.any r731) (Int32.not_le.mp c732) (by decide)
                    refine ev_iconst (v := 1) rfl rfl (by decide) ?_
                    refine ev_goto rfl rfl ?_
                    refine ev_istore rfl rfl rfl rfl ?_
                    dsimp only [List.set]
                    refine ev_iload rfl rfl rfl ?_
                    refine ev_if_lt rfl rfl (fun c737 => ?_) (fun c737 => absurd (D_lt b639 (by decide : B 0 0 0) (by decide)) c737)
                    refine ev_iincB (y := 1) (l := -10) (u := 12) rfl rfl rfl (by decide) rfl rfl b630 (by decide : B 1 1 1) (by decide) (by decide) (by decide) (by decide) (fun v738 b738 e738 => ?_)
                    dsimp only [List.set]
                    refine ev_goto rfl rfl ?_
                    exact (EvQ.drop 9 (EvQ.drop 8 (EvQ.drop 7 (ih37 v709 w620 w621 v738 h637 (b712.mono (by decide) (by decide)) (b727.mono (by decide) (by decide)) (b738.mono (by decide) (by decide)) hJ637 (L_up hm37 (e_p1 e738 (by decide)))))))
      exact (lp37_618 24 0 (-104) (-104) (-11) h ((by decide : B (-104) (-104) (-104)).mono (by decide) (by decide)) ((by decide : B (-104) (-104) (-104)).mono (by decide) (by decide)) ((by decide : B (-11) (-11) (-11)).mono (by decide) (by decide)) hJ0 (L_init (by decide : B (-11) (-11) (-11)) (by decide)))
    · have b10 : B r6 0 0 := R_eqX b6 (by decide : B 0 0 0) c7
      refine ev_bipush (v := (-100)) rfl rfl (by decide) ?_
      exact ev_iret rfl rfl rfl ⟨⟨_, rfl, ((by decide : B (-100) (-100) (-100)).mono (by decide) (by decide))⟩, rfl, hJ0⟩
