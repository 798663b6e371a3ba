set_option maxRecDepth 100000 in
set_option maxHeartbeats 4000000 in
theorem w_X5_faultAs_55 (L : Nat) (b : Bool) (h : Hp) (hB : Bx h) (a0 : Int32) (p0 : B a0 0 3) (a1 : Int32) : EvP mi_X5_faultAs [.ref 55, .int a0, .int a1] (G0 L b) h (fun r : Int32 => B r 0 3) := by
  refine EvM.of2 (lo := [some (.ref 55), some (.int a0), some (.int a1)]) pf_X5_faultAs ok_X5_faultAs rfl rfl ?_
  refine ev_aload_n rfl rfl rfl ?_
  refine ev_iload_n rfl rfl rfl ?_
  refine ev_V1P rfl rfl lk_X5_21 vt_X5_isNothing rfl rfl rfl rfl rfl (w_X5_isNothing_55 L b h hB a0 p0) (fun r1 q1 => ?_)
  refine ev_if_eq rfl rfl (fun c2 => ?_) (fun c2 => ?_)
  · have b3 : B r1 0 0 := R_eqX q1 (by decide : B 0 0 0) c2
    refine ev_aload_n rfl rfl rfl ?_
    refine ev_getR (y := 61) rfl rfl fl_X5_14 rfl rfl rfl rfl ?_
    refine ev_iload_n rfl rfl rfl ?_
    refine ev_ialW (n := 4) (l := (-2147483648)) (u := 2147483647) hB p0 (by decide) (by decide) (fun _ => rfl) rfl rfl rfl (fun v5 b5 e5 => ?_)
    refine ev_iload_n rfl rfl rfl ?_
    refine ev_icmp_ne rfl rfl (fun c6 => ?_) (fun c6 => ?_)
    · refine ev_iconst (v := 3) rfl rfl (by decide) ?_
      exact ev_iret rfl rfl rfl ⟨⟨_, rfl, ((by decide : B 3 3 3).mono (by decide) (by decide))⟩, rfl, rfl⟩
    · refine ev_iconst (v := 0) rfl rfl (by decide) ?_
      refine ev_goto rfl rfl ?_
      exact ev_iret rfl rfl rfl ⟨⟨_, rfl, ((by decide : B 0 0 0).mono (by decide) (by decide))⟩, rfl, rfl⟩
  · have b4 : B r1 1 1 := R_neL q1 (by decide : B 0 0 0) c2 (by decide)
    refine ev_iconst (v := 1) rfl rfl (by decide) ?_
    exact ev_iret rfl rfl rfl ⟨⟨_, rfl, ((by decide : B 1 1 1).mono (by decide) (by decide))⟩, rfl, rfl⟩

set_option maxRecDepth 100000 in
set_option maxHeartbeats 4000000 in
theorem w_X9_scanOne_1 (L : Nat) (b : Bool) (h : Hp) (hB : Bx h) (a0 : Int32) (p0 : B a0 0 3) (a1 : Int32) : EvJ mi_X9_scanOne [.ref 1, .int a0, .int a1] (G0 L b) h (fun r : Int32 => B r (-23) 12) [(4, 7), (5, 999), (6, 999), (7, 999), (8, 999)] := by
  refine EvM.of2 (lo := [some (.ref 1), some (.int a0), some (.int a1), none, none]) pf_X9_scanOne ok_X9_scanOne rfl rfl ?_
  have hJ0 : JW [(4, 7), (5, 999), (6, 999), (7, 999), (8, 999)] h h := JW.refl hB
  refine ev_iconst (v := 0) rfl rfl (by decide) ?_
  refine ev_istore_n rfl rfl rfl rfl ?_
  dsimp only [List.set]
  refine ev_iload_n rfl rfl rfl ?_
  refine ev_iconst (v := 4) rfl rfl (by decide) ?_
  refine ev_icmp_ge rfl rfl (fun c1 => absurd c1 (D_nle (by decide : B 4 4 4) (by decide : B 0 0 0) (by decide))) (fun c1 => ?_)
  refine ev_aload_n rfl rfl rfl ?_
  refine ev_getR (y := 55) rfl rfl fl_X9_71 rfl rfl rfl rfl ?_
  refine ev_iload_n rfl rfl rfl ?_
  refine ev_iload_n rfl rfl rfl ?_
  refine ev_iload_n rfl rfl rfl ?_
  refine ev_iaddB (l := -2147483648) (u := 2147483647) rfl rfl (B.any a1) (by decide : B 0 0 0) (by decide) (by decide) (by decide) (by decide) (fun v2 b2 e2 g2 => ?_)
  refine ev_V2P rfl rfl lk_X9_325 vt_X5_hasCell rfl rfl rfl rfl rfl (w_X5_hasCell_55 L b h hJ0.1 a0 p0 v2) (fun r3 q3 => ?_)
  obtain ⟨b3, p3_0⟩ := q3
  refine ev_if_ne rfl rfl (fun c4 => ?_) (fun c4 => ?_)
  · have b5 : B r3 1 1 := R_neL b3 (by decide : B 0 0 0) c4 (by decide)
    have b6 : B v2 0 59 := p3_0 c4
    have b7 : B a1 0 59 := (R_bk (l' := 0) (u' := 59) e2 b6 (by decide : B 0 0 0) (by decide) (by decide))
    refine ev_iincL (v := 1) (y := 1) rfl rfl rfl (by decide) rfl rfl (by decide) ?_
    dsimp only [List.set]
    refine ev_goto rfl rfl ?_
    refine ev_iload_n rfl rfl rfl ?_
    refine ev_iconst (v := 4) rfl rfl (by decide) ?_
    refine ev_icmp_ge rfl rfl (fun c9 => absurd c9 (D_nle (by decide : B 4 4 4) (by decide : B 1 1 1) (by decide))) (fun c9 => ?_)
    refine ev_aload_n rfl rfl rfl ?_
    refine ev_getR (y := 55) rfl rfl fl_X9_71 rfl rfl rfl rfl ?_
    refine ev_iload_n rfl rfl rfl ?_
    refine ev_iload_n rfl rfl rfl ?_
    refine ev_iload_n rfl rfl rfl ?_
    refine ev_iaddB (l := 1) (u := 60) rfl rfl b7 (by decide : B 1 1 1) (by decide) (by decide) (by decide) (by decide) (fun v10 b10 e10 g10 => ?_)
    refine ev_V2P rfl rfl lk_X9_325 vt_X5_hasCell rfl rfl rfl rfl rfl (w_X5_hasCell_55 L b h hJ0.1 a0 p0 v10) (fun r11 q11 => ?_)
    obtain ⟨b11, p11_0⟩ := q11
    refine ev_if_ne rfl rfl (fun c12 => ?_) (fun c12 => ?_)
    · have b13 : B r11 1 1 := R_neL b11 (by decide : B 0 0 0) c12 (by decide)
      have b14 : B v10 1 59 := ⟨b10.1, (p11_0 c12).2⟩
      have b15 : B a1 0 58 := (R_bk (l' := 0) (u' := 58) e10 b14 (by decide : B 1 1 1) (by decide) (by decide))
      refine ev_iincL (v := 2) (y := 1) rfl rfl rfl (by decide) rfl rfl (by decide) ?_
      dsimp only [List.set]
      refine ev_goto rfl rfl ?_
      refine ev_iload_n rfl rfl rfl ?_
      refine ev_iconst (v := 4) rfl rfl (by decide) ?_
      refine ev_icmp_ge rfl rfl (fun c17 => absurd c17 (D_nle (by decide : B 4 4 4) (by decide : B 2 2 2) (by decide))) (fun c17 => ?_)
      refine ev_aload_n rfl rfl rfl ?_
      refine ev_getR (y := 55) rfl rfl fl_X9_71 rfl rfl rfl rfl ?_
      refine ev_iload_n rfl rfl rfl ?_
      refine ev_iload_n rfl rfl rfl ?_
      refine ev_iload_n rfl rfl rfl ?_
      refine ev_iaddB (l := 2) (u := 60) rfl rfl b15 (by decide : B 2 2 2) (by decide) (by decide) (by decide) (by decide) (fun v18 b18 e18 g18 => ?_)
      refine ev_V2P rfl rfl lk_X9_325 vt_X5_hasCell rfl rfl rfl rfl rfl (w_X5_hasCell_55 L b h hJ0.1 a0 p0 v18) (fun r19 q19 => ?_)
      obtain ⟨b19, p19_0⟩ := q19
      refine ev_if_ne rfl rfl (fun c20 => ?_) (fun c20 => ?_)
      · have b21 : B r19 1 1 := R_neL b19 (by decide : B 0 0 0) c20 (by decide)
        have b22 : B v18 2 59 := ⟨b18.1, (p19_0 c20).2⟩
        have b23 : B a1 0 57 := (R_bk (l' := 0) (u' := 57) e18 b22 (by decide : B 2 2 2) (by decide) (by decide))
        refine ev_iincL (v := 3) (y := 1) rfl rfl rfl (by decide) rfl rfl (by decide) ?_
        dsimp only [List.set]
        refine ev_goto rfl rfl ?_
        refine ev_iload_n rfl rfl rfl ?_
        refine ev_iconst (v := 4) rfl rfl (by decide) ?_
        refine ev_icmp_ge rfl rfl (fun c25 => absurd c25 (D_nle (by decide : B 4 4 4) (by decide : B 3 3 3) (by decide))) (fun c25 => ?_)
        refine ev_aload_n rfl rfl rfl ?_
        refine ev_getR (y := 55) rfl rfl fl_X9_71 rfl rfl rfl rfl ?_
        refine ev_iload_n rfl rfl rfl ?_
        refine ev_iload_n rfl rfl rfl ?_
        refine ev_iload_n rfl rfl rfl ?_
        refine ev_iaddB (l := 3) (u := 60) rfl rfl b23 (by decide : B 3 3 3) (by decide) (by decide) (by decide) (by decide) (fun v26 b26 e26 g26 => ?_)
        refine ev_V2P rfl rfl lk_X9_325 vt_X5_hasCell rfl rfl rfl rfl rfl (w_X5_hasCell_55 L b h hJ0.1 a0 p0 v26) (fun r27 q27 => ?_)
        obtain ⟨b27, p27_0⟩ := q27
        refine ev_if_ne rfl rfl (fun c28 => ?_) (fun c28 => ?_)
        · have b29 : B r27 1 1 := R_neL b27 (by decide : B 0 0 0) c28 (by decide)
          have b30 : B v26 3 59 := ⟨b26.1, (p27_0 c28).2⟩
          have b31 : B a1 0 56 := (R_bk (l' := 0) (u' := 56) e26 b30 (by decide : B 3 3 3) (by decide) (by decide))
          refine ev_iincL (v := 4) (y := 1) rfl rfl rfl (by decide) rfl rfl (by decide) ?_
          dsimp only [List.set]
          refine ev_goto rfl rfl ?_
          refine ev_iload_n rfl rfl rfl ?_
          refine ev_iconst (v := 4) rfl rfl (by decide) ?_
          refine ev_icmp_ge rfl rfl (fun c33 => ?_) (fun c33 => absurd (D_le (by decide : B 4 4 4) (by decide : B 4 4 4) (by decide)) c33)
          refine ev_aload_n rfl rfl rfl ?_
          have b34 : B a1 0 59 := B.add0 g2 b6
          refine ev_getR (y := 55) rfl rfl fl_X9_71 rfl rfl rfl rfl ?_
          refine ev_getR (y := 56) rfl rfl fl_X9_362 rfl rfl rfl rfl ?_
          refine ev_iload_n rfl rfl rfl ?_
          rcases B.c4 p0 with rfl | rfl | rfl | rfl
          · refine ev_aald (y := 57) (j := 0) rfl rfl rfl rfl (by unfold vp_in; decide) (by decide) rfl ?_
            refine ev_astore_n rfl rfl rfl rfl ?_
            dsimp only [List.set]
            refine ev_aload_n rfl rfl rfl ?_
            refine ev_getR (y := 4) rfl rfl fl_X9_22 rfl rfl rfl rfl ?_
            refine ev_aload_n rfl rfl rfl ?_
            refine ev_iload_n rfl rfl rfl ?_
            refine ev_ialW (n := 60) (l := (-2147483648)) (u := 2147483647) hJ0.1 b34 (by decide) (by decide) (fun _ => rfl) rfl rfl rfl (fun v35 b35 e35 => ?_)
            refine ev_aload_n rfl rfl rfl ?_
            refine ev_iload_n rfl rfl rfl ?_
            refine ev_iconst (v := 1) rfl rfl (by decide) ?_
            refine ev_iaddV g10 rfl rfl ?_
            refine ev_ialW (n := 60) (l := (-2147483648)) (u := 2147483647) hJ0.1 b14 (by decide) (by decide) (fun _ => rfl) rfl rfl rfl (fun v36 b36 e36 => ?_)
            refine ev_aload_n rfl rfl rfl ?_
            refine ev_iload_n rfl rfl rfl ?_
            refine ev_iconst (v := 2) rfl rfl (by decide) ?_
            refine ev_iaddV g18 rfl rfl ?_
            refine ev_ialW (n := 60) (l := (-2147483648)) (u := 2147483647) hJ0.1 b22 (by decide) (by decide) (fun _ => rfl) rfl rfl rfl (fun v37 b37 e37 => ?_)
            refine ev_aload_n rfl rfl rfl ?_
            refine ev_iload_n rfl rfl rfl ?_
            refine ev_iconst (v := 3) rfl rfl (by decide) ?_
            refine ev_iaddV g26 rfl rfl ?_
            refine ev_ialW (n := 60) (l := (-2147483648)) (u := 2147483647) hJ0.1 b30 (by decide) (by decide) (fun _ => rfl) rfl rfl rfl (fun v38 b38 e38 => ?_)
            refine ev_if_eq rfl rfl (fun c39 => ?_) (fun c39 => ?_)
            · have b40 : B v38 0 0 := R_eqX (B.any v38) (by decide : B 0 0 0) c39
              refine ev_iconst (v := 0) rfl rfl (by decide) ?_
              refine ev_V4J hJ0 rfl rfl rfl lk_X9_122 vt_X8_add rfl rfl rfl rfl rfl (w_X8_add_4 L b h hJ0.1 v35 v36 v37 0 ((by decide : B 0 0 0).mono (by decide) (by decide))) (fun r41 h41 q41 hJ41 k41 => ?_)
              refine ev_istore rfl rfl rfl rfl ?_
              dsimp only [List.set]
              refine ev_iload rfl rfl rfl ?_
              refine ev_if_ge rfl rfl (fun c42 => ?_) (fun c42 => ?_)
              · have b43 : B r41 0 11 := R_leY (by decide : B 0 0 0) q41 c42 (by decide)
                refine ev_aload_n rfl rfl rfl ?_
                refine ev_getR (y := 4) rfl rfl fl_X9_22 rfl rfl rfl rfl ?_
                refine ev_getW (l := 0) (u := 12) hJ41.1 rfl rfl rfl fl_X9_158 rfl rfl rfl (fun v45 b45 e45 => ?_)
                exact ev_iret rfl rfl rfl ⟨⟨_, rfl, (b45.mono (by decide) (by decide))⟩, rfl, hJ41⟩
              · have b44 : B r41 (-3) (-1) := R_ltX q41 (by decide : B 0 0 0) (Int32.not_le.mp c42) (by decide)
                refine ev_bipush (v := (-20)) rfl rfl (by decide) ?_
                refine ev_iload rfl rfl rfl ?_
                refine ev_iaddB (l := -23) (u := -21) rfl rfl (by decide : B (-20) (-20) (-20)) b44 (by decide) (by decide) (by decide) (by decide) (fun v46 b46 e46 g46 => ?_)
                refine ev_goto rfl rfl ?_
                exact ev_iret rfl rfl rfl ⟨⟨_, rfl, (b46.mono (by decide) (by decide))⟩, rfl, hJ41⟩
            · refine ev_iconst (v := 1) rfl rfl (by decide) ?_
              refine ev_goto rfl rfl ?_
              refine ev_V4J hJ0 rfl rfl rfl lk_X9_122 vt_X8_add rfl rfl rfl rfl rfl (w_X8_add_4 L b h hJ0.1 v35 v36 v37 1 ((by decide : B 1 1 1).mono (by decide) (by decide))) (fun r47 h47 q47 hJ47 k47 => ?_)
              refine ev_istore rfl rfl rfl rfl ?_
              dsimp only [List.set]
              refine ev_iload rfl rfl rfl ?_
              refine ev_if_ge rfl rfl (fun c48 => ?_) (fun c48 => ?_)
              · have b49 : B r47 0 11 := R_leY (by decide : B 0 0 0) q47 c48 (by decide)
                refine ev_aload_n rfl rfl rfl ?_
                refine ev_getR (y := 4) rfl rfl fl_X9_22 rfl rfl rfl rfl ?_
                refine ev_getW (l := 0) (u := 12) hJ47.1 rfl rfl rfl fl_X9_158 rfl rfl rfl (fun v51 b51 e51 => ?_)
                exact ev_iret rfl rfl rfl ⟨⟨_, rfl, (b51.mono (by decide) (by decide))⟩, rfl, hJ47⟩
              · have b50 : B r47 (-3) (-1) := R_ltX q47 (by decide : B 0 0 0) (Int32.not_le.mp c48) (by decide)
                refine ev_bipush (v := (-20)) rfl rfl (by decide) ?_
                refine ev_iload rfl rfl rfl ?_
                refine ev_iaddB (l := -23) (u := -21) rfl rfl (by decide : B (-20) (-20) (-20)) b50 (by decide) (by decide) (by decide) (by decide) (fun v52 b52 e52 g52 => ?_)
                refine ev_goto rfl rfl ?_
                exact ev_iret rfl rfl rfl ⟨⟨_, rfl, (b52.mono (by decide) (by decide))⟩, rfl, hJ47⟩
          · refine ev_aald (y := 58) (j := 1) rfl rfl rfl rfl (by unfold vp_in; decide) (by decide) rfl ?_
            refine ev_astore_n rfl rfl rfl rfl ?_
            dsimp only [List.set]
            refine ev_aload_n rfl rfl rfl ?_
            refine ev_getR (y := 4) rfl rfl fl_X9_22 rfl rfl rfl rfl ?_
            refine ev_aload_n rfl rfl rfl ?_
            refine ev_iload_n rfl rfl rfl ?_
            refine ev_ialW (n := 60) (l := (-2147483648)) (u := 2147483647) hJ0.1 b34 (by decide) (by decide) (fun _ => rfl) rfl rfl rfl (fun v53 b53 e53 => ?_)
            refine ev_aload_n rfl rfl rfl ?_
            refine ev_iload_n rfl rfl rfl ?_
            refine ev_iconst (v := 1) rfl rfl (by decide) ?_
            refine ev_iaddV g10 rfl rfl ?_
            refine ev_ialW (n := 60) (l := (-2147483648)) (u := 2147483647) hJ0.1 b14 (by decide) (by decide) (fun _ => rfl) rfl rfl rfl (fun v54 b54 e54 => ?_)
            refine ev_aload_n rfl rfl rfl ?_
            refine ev_iload_n rfl rfl rfl ?_
            refine ev_iconst (v := 2) rfl rfl (by decide) ?_
            refine ev_iaddV g18 rfl rfl ?_
            refine ev_ialW (n := 60) (l := (-2147483648)) (u := 2147483647) hJ0.1 b22 (by decide) (by decide) (fun _ => rfl) rfl rfl rfl (fun v55 b55 e55 => ?_)
            refine ev_aload_n rfl rfl rfl ?_
            refine ev_iload_n rfl rfl rfl ?_
            refine ev_iconst (v := 3) rfl rfl (by decide) ?_
            refine ev_iaddV g26 rfl rfl ?_
            refine ev_ialW (n := 60) (l := (-2147483648)) (u := 2147483647) hJ0.1 b30 (by decide) (by decide) (fun _ => rfl) rfl rfl rfl (fun v56 b56 e56 => ?_)
            refine ev_if_eq rfl rfl (fun c57 => ?_) (fun c57 => ?_)
            · have b58 : B v56 0 0 := R_eqX (B.any v56) (by decide : B 0 0 0) c57
              refine ev_iconst (v := 0) rfl rfl (by decide) ?_
              refine ev_V4J hJ0 rfl rfl rfl lk_X9_122 vt_X8_add rfl rfl rfl rfl rfl (w_X8_add_4 L b h hJ0.1 v53 v54 v55 0 ((by decide : B 0 0 0).mono (by decide) (by decide))) (fun r59 h59 q59 hJ59 k59 => ?_)
              refine ev_istore rfl rfl rfl rfl ?_
              dsimp only [List.set]
              refine ev_iload rfl rfl rfl ?_
              refine ev_if_ge rfl rfl (fun c60 => ?_) (fun c60 => ?_)
              · have b61 : B r59 0 11 := R_leY (by decide : B 0 0 0) q59 c60 (by decide)
                refine ev_aload_n rfl rfl rfl ?_
                refine ev_getR (y := 4) rfl rfl fl_X9_22 rfl rfl rfl rfl ?_
                refine ev_getW (l := 0) (u := 12) hJ59.1 rfl rfl rfl fl_X9_158 rfl rfl rfl (fun v63 b63 e63 => ?_)
                exact ev_iret rfl rfl rfl ⟨⟨_, rfl, (b63.mono (by decide) (by decide))⟩, rfl, hJ59⟩
              · have b62 : B r59 (-3) (-1) := R_ltX q59 (by decide : B 0 0 0) (Int32.not_le.mp c60) (by decide)
                refine ev_bipush (v := (-20)) rfl rfl (by decide) ?_
                refine ev_iload rfl rfl rfl ?_
                refine ev_iaddB (l := -23) (u := -21) rfl rfl (by decide : B (-20) (-20) (-20)) b62 (by decide) (by decide) (by decide) (by decide) (fun v64 b64 e64 g64 => ?_)
                refine ev_goto rfl rfl ?_
                exact ev_iret rfl rfl rfl ⟨⟨_, rfl, (b64.mono (by decide) (by decide))⟩, rfl, hJ59⟩
            · refine ev_iconst (v := 1) rfl rfl (by decide) ?_
              refine ev_goto rfl rfl ?_
              refine ev_V4J hJ0 rfl rfl rfl lk_X9_122 vt_X8_add rfl rfl rfl rfl rfl (w_X8_add_4 L b h hJ0.1 v53 v54 v55 1 ((by decide : B 1 1 1).mono (by decide) (by decide))) (fun r65 h65 q65 hJ65 k65 => ?_)
              refine ev_istore rfl rfl rfl rfl ?_
              dsimp only [List.set]
              refine ev_iload rfl rfl rfl ?_
              refine ev_if_ge rfl rfl (fun c66 => ?_) (fun c66 => ?_)
              · have b67 : B r65 0 11 := R_leY (by decide : B 0 0 0) q65 c66 (by decide)
                refine ev_aload_n rfl rfl rfl ?_
                refine ev_getR (y := 4) rfl rfl fl_X9_22 rfl rfl rfl rfl ?_
                refine ev_getW (l := 0) (u := 12) hJ65.1 rfl rfl rfl fl_X9_158 rfl rfl rfl (fun v69 b69 e69 => ?_)
                exact ev_iret rfl rfl rfl ⟨⟨_, rfl, (b69.mono (by decide) (by decide))⟩, rfl, hJ65⟩
              · have b68 : B r65 (-3) (-1) := R_ltX q65 (by decide : B 0 0 0) (Int32.not_le.mp c66) (by decide)
                refine ev_bipush (v := (-20)) rfl rfl (by decide) ?_
                refine ev_iload rfl rfl rfl ?_
                refine ev_iaddB (l := -23) (u := -21) rfl rfl (by decide : B (-20) (-20) (-20)) b68 (by decide) (by decide) (by decide) (by decide) (fun v70 b70 e70 g70 => ?_)
                refine ev_goto rfl rfl ?_
                exact ev_iret rfl rfl rfl ⟨⟨_, rfl, (b70.mono (by decide) (by decide))⟩, rfl, hJ65⟩
          · refine ev_aald (y := 59) (j := 2) rfl rfl rfl rfl (by unfold vp_in; decide) (by decide) rfl ?_
            refine ev_astore_n rfl rfl rfl rfl ?_
            dsimp only [List.set]
            refine ev_aload_n rfl rfl rfl ?_
            refine ev_getR (y := 4) rfl rfl fl_X9_22 rfl rfl rfl rfl ?_
            refine ev_aload_n rfl rfl rfl ?_
            refine ev_iload_n rfl rfl rfl ?_
            refine ev_ialW (n := 60) (l := (-2147483648)) (u := 2147483647) hJ0.1 b34 (by decide) (by decide) (fun _ => rfl) rfl rfl rfl (fun v71 b71 e71 => ?_)
            refine ev_aload_n rfl rfl rfl ?_
            refine ev_iload_n rfl rfl rfl ?_
            refine ev_iconst (v := 1) rfl rfl (by decide) ?_
            refine ev_iaddV g10 rfl rfl ?_
            refine ev_ialW (n := 60) (l := (-2147483648)) (u := 2147483647) hJ0.1 b14 (by decide) (by decide) (fun _ => rfl) rfl rfl rfl (fun v72 b72 e72 => ?_)
            refine ev_aload_n rfl rfl rfl ?_
            refine ev_iload_n rfl rfl rfl ?_
            refine ev_iconst (v := 2) rfl rfl (by decide) ?_
            refine ev_iaddV g18 rfl rfl ?_
            refine ev_ialW (n := 60) (l := (-2147483648)) (u := 2147483647) hJ0.1 b22 (by decide) (by decide) (fun _ => rfl) rfl rfl rfl (fun v73 b73 e73 => ?_)
            refine ev_aload_n rfl rfl rfl ?_
            refine ev_iload_n rfl rfl rfl ?_
            refine ev_iconst (v := 3) rfl rfl (by decide) ?_
            refine ev_iaddV g26 rfl rfl ?_
            refine ev_ialW (n := 60) (l := (-2147483648)) (u := 2147483647) hJ0.1 b30 (by decide) (by decide) (fun _ => rfl) rfl rfl rfl (fun v74 b74 e74 => ?_)
            refine ev_if_eq rfl rfl (fun c75 => ?_) (fun c75 => ?_)
            · have b76 : B v74 0 0 := R_eqX (B.any v74) (by decide : B 0 0 0) c75
              refine ev_iconst (v := 0) rfl rfl (by decide) ?_
              refine ev_V4J hJ0 rfl rfl rfl lk_X9_122 vt_X8_add rfl rfl rfl rfl rfl (w_X8_add_4 L b h hJ0.1 v71 v72 v73 0 ((by decide : B 0 0 0).mono (by decide) (by decide))) (fun r77 h77 q77 hJ77 k77 => ?_)
              refine ev_istore rfl rfl rfl rfl ?_
              dsimp only [List.set]
              refine ev_iload rfl rfl rfl ?_
              refine ev_if_ge rfl rfl (fun c78 => ?_) (fun c78 => ?_)
              · have b79 : B r77 0 11 := R_leY (by decide : B 0 0 0) q77 c78 (by decide)
                refine ev_aload_n rfl rfl rfl ?_
                refine ev_getR (y := 4) rfl rfl fl_X9_22 rfl rfl rfl rfl ?_
                refine ev_getW (l := 0) (u := 12) hJ77.1 rfl rfl rfl fl_X9_158 rfl rfl rfl (fun v81 b81 e81 => ?_)
                exact ev_iret rfl rfl rfl ⟨⟨_, rfl, (b81.mono (by decide) (by decide))⟩, rfl, hJ77⟩
              · have b80 : B r77 (-3) (-1) := R_ltX q77 (by decide : B 0 0 0) (Int32.not_le.mp c78) (by decide)
                refine ev_bipush (v := (-20)) rfl rfl (by decide) ?_
                refine ev_iload rfl rfl rfl ?_
                refine ev_iaddB (l := -23) (u := -21) rfl rfl (by decide : B (-20) (-20) (-20)) b80 (by decide) (by decide) (by decide) (by decide) (fun v82 b82 e82 g82 => ?_)
                refine ev_goto rfl rfl ?_
                exact ev_iret rfl rfl rfl ⟨⟨_, rfl, (b82.mono (by decide) (by decide))⟩, rfl, hJ77⟩
            · refine ev_iconst (v := 1) rfl rfl (by decide) ?_
              refine ev_goto rfl rfl ?_
              refine ev_V4J hJ0 rfl rfl rfl lk_X9_122 vt_X8_add rfl rfl rfl rfl rfl (w_X8_add_4 L b h hJ0.1 v71 v72 v73 1 ((by decide : B 1 1 1).mono (by decide) (by decide))) (fun r83 h83 q83 hJ83 k83 => ?_)
              refine ev_istore rfl rfl rfl rfl ?_
              dsimp only [List.set]
              refine ev_iload rfl rfl rfl ?_
              refine ev_if_ge rfl rfl (fun c84 => ?_) (fun c84 => ?_)
              · have b85 : B r83 0 11 := R_leY (by decide : B 0 0 0) q83 c84 (by decide)
                refine ev_aload_n rfl rfl rfl ?_
                refine ev_getR (y := 4) rfl rfl fl_X9_22 rfl rfl rfl rfl ?_
                refine ev_getW (l := 0) (u := 12) hJ83.1 rfl rfl rfl fl_X9_158 rfl rfl rfl (fun v87 b87 e87 => ?_)
                exact ev_iret rfl rfl rfl ⟨⟨_, rfl, (b87.mono (by decide) (by decide))⟩, rfl, hJ83⟩
              · have b86 : B r83 (-3) (-1) := R_ltX q83 (by decide : B 0 0 0) (Int32.not_le.mp c84) (by decide)
                refine ev_bipush (v := (-20)) rfl rfl (by decide) ?_
                refine ev_iload rfl rfl rfl ?_
                refine ev_iaddB (l := -23) (u := -21) rfl rfl (by decide : B (-20) (-20) (-20)) b86 (by decide) (by decide) (by decide) (by decide) (fun v88 b88 e88 g88 => ?_)
                refine ev_goto rfl rfl ?_
                exact ev_iret rfl rfl rfl ⟨⟨_, rfl, (b88.mono (by decide) (by decide))⟩, rfl, hJ83⟩
          · refine ev_aald (y := 60) (j := 3) rfl rfl rfl rfl (by unfold vp_in; decide) (by decide) rfl ?_
            refine ev_astore_n rfl rfl rfl rfl ?_
            dsimp only [List.set]
            refine ev_aload_n rfl rfl rfl ?_
            refine ev_getR (y := 4) rfl rfl fl_X9_22 rfl rfl rfl rfl ?_
            refine ev_aload_n rfl rfl rfl ?_
            refine ev_iload_n rfl rfl rfl ?_
            refine ev_ialW (n := 60) (l := (-2147483648)) (u := 2147483647) hJ0.1 b34 (by decide) (by decide) (fun _ => rfl) rfl rfl rfl (fun v89 b89 e89 => ?_)
            refine ev_aload_n rfl rfl rfl ?_
            refine ev_iload_n rfl rfl rfl ?_
            refine ev_iconst (v := 1) rfl rfl (by decide) ?_
            refine ev_iaddV g10 rfl rfl ?_
            refine ev_ialW (n := 60) (l := (-2147483648)) (u := 2147483647) hJ0.1 b14 (by decide) (by decide) (fun _ => rfl) rfl rfl rfl (fun v90 b90 e90 => ?_)
            refine ev_aload_n rfl rfl rfl ?_
            refine ev_iload_n rfl rfl rfl ?_
            refine ev_iconst (v := 2) rfl rfl (by decide) ?_
            refine ev_iaddV g18 rfl rfl ?_
            refine ev_ialW (n := 60) (l := (-2147483648)) (u := 2147483647) hJ0.1 b22 (by decide) (by decide) (fun _ => rfl) rfl rfl rfl (fun v91 b91 e91 => ?_)
            refine ev_aload_n rfl rfl rfl ?_
            refine ev_iload_n rfl rfl rfl ?_
            refine ev_iconst (v := 3) rfl rfl (by decide) ?_
            refine ev_iaddV g26 rfl rfl ?_
            refine ev_ialW (n := 60) (l := (-2147483648)) (u := 2147483647) hJ0.1 b30 (by decide) (by decide) (fun _ => rfl) rfl rfl rfl (fun v92 b92 e92 => ?_)
            refine ev_if_eq rfl rfl (fun c93 => ?_) (fun c93 => ?_)
            · have b94 : B v92 0 0 := R_eqX (B.any v92) (by decide : B 0 0 0) c93
              refine ev_iconst (v := 0) rfl rfl (by decide) ?_
              refine ev_V4J hJ0 rfl rfl rfl lk_X9_122 vt_X8_add rfl rfl rfl rfl rfl (w_X8_add_4 L b h hJ0.1 v89 v90 v91 0 ((by decide : B 0 0 0).mono (by decide) (by decide))) (fun r95 h95 q95 hJ95 k95 => ?_)
              refine ev_istore rfl rfl rfl rfl ?_
              dsimp only [List.set]
              refine ev_iload rfl rfl rfl ?_
              refine ev_if_ge rfl rfl (fun c96 => ?_) (fun c96 => ?_)
              · have b97 : B r95 0 11 := R_leY (by decide : B 0 0 0) q95 c96 (by decide)
                refine ev_aload_n rfl rfl rfl ?_
                refine ev_getR (y := 4) rfl rfl fl_X9_22 rfl rfl rfl rfl ?_
                refine ev_getW (l := 0) (u := 12) hJ95.1 rfl rfl rfl fl_X9_158 rfl rfl rfl (fun v99 b99 e99 => ?_)
                exact ev_iret rfl rfl rfl ⟨⟨_, rfl, (b99.mono (by decide) (by decide))⟩, rfl, hJ95⟩
              · have b98 : B r95 (-3) (-1) := R_ltX q95 (by decide : B 0 0 0) (Int32.not_le.mp c96) (by decide)
                refine ev_bipush (v := (-20)) rfl rfl (by decide) ?_
                refine ev_iload rfl rfl rfl ?_
                refine ev_iaddB (l := -23) (u := -21) rfl rfl (by decide : B (-20) (-20) (-20)) b98 (by decide) (by decide) (by decide) (by decide) (fun v100 b100 e100 g100 => ?_)
                refine ev_goto rfl rfl ?_
                exact ev_iret rfl rfl rfl ⟨⟨_, rfl, (b100.mono (by decide) (by decide))⟩, rfl, hJ95⟩
            · refine ev_iconst (v := 1) rfl rfl (by decide) ?_
              refine ev_goto rfl rfl ?_
              refine ev_V4J hJ0 rfl rfl rfl lk_X9_122 vt_X8_add rfl rfl rfl rfl rfl (w_X8_add_4 L b h hJ0.1 v89 v90 v91 1 ((by decide : B 1 1 1).mono (by decide) (by decide))) (fun r101 h101 q101 hJ101 k101 => ?_)
              refine ev_istore rfl rfl rfl rfl ?_
              dsimp only [List.set]
              refine ev_iload rfl rfl rfl ?_
              refine ev_if_ge rfl rfl (fun c102 => ?_) (fun c102 => ?_)
              · have b103 : B r101 0 11 := R_leY (by decide : B 0 0 0) q101 c102 (by decide)
                refine ev_aload_n rfl rfl rfl ?_
                refine ev_getR (y := 4) rfl rfl fl_X9_22 rfl rfl rfl rfl ?_
                refine ev_getW (l := 0) (u := 12) hJ101.1 rfl rfl rfl fl_X9_158 rfl rfl rfl (fun v105 b105 e105 => ?_)
                exact ev_iret rfl rfl rfl ⟨⟨_, rfl, (b105.mono (by decide) (by decide))⟩, rfl, hJ101⟩
              · have b104 : B r101 (-3) (-1) := R_ltX q101 (by decide : B 0 0 0) (Int32.not_le.mp c102) (by decide)
                refine ev_bipush (v := (-20)) rfl rfl (by decide) ?_
                refine ev_iload rfl rfl rfl ?_
                refine ev_iaddB (l := -23) (u := -21) rfl rfl (by decide : B (-20) (-20) (-20)) b104 (by decide) (by decide) (by decide) (by decide) (fun v106 b106 e106 g106 => ?_)
                refine ev_goto rfl rfl ?_
                exact ev_iret rfl rfl rfl ⟨⟨_, rfl, (b106.mono (by decide) (by decide))⟩, rfl, hJ101⟩
        · have b32 : B r27 0 0 := R_eqX b27 (by decide : B 0 0 0) c28
          refine ev_bipush (v := (-12)) rfl rfl (by decide) ?_
          exact ev_iret rfl rfl rfl ⟨⟨_, rfl, ((by decide : B (-12) (-12) (-12)).mono (by decide) (by decide))⟩, rfl, hJ0⟩
      · have b24 : B r19 0 0 := R_eqX b19 (by decide : B 0 0 0) c20
        refine ev_bipush (v := (-12)) rfl rfl (by decide) ?_
        exact ev_iret rfl rfl rfl ⟨⟨_, rfl, ((by decide : B (-12) (-12) (-12)).mono (by decide) (by decide))⟩, rfl, hJ0⟩
    · have b16 : B r11 0 0 := R_eqX b11 (by decide : B 0 0 0) c12
      refine ev_bipush (v := (-12)) rfl rfl (by decide) ?_
      exact ev_iret rfl rfl rfl ⟨⟨_, rfl, ((by decide : B (-12) (-12) (-12)).mono (by decide) (by decide))⟩, rfl, hJ0⟩
  · have b8 : B r3 0 0 := R_eqX b3 (by decide : B 0 0 0) c4
    refine ev_bipush (v := (-12)) rfl rfl (by decide) ?_
    exact ev_iret rfl rfl rfl ⟨⟨_, rfl, ((by decide : B (-12) (-12) (-12)).mono (by decide) (by decide))⟩, rfl, hJ0⟩

set_option maxRecDepth 100000 in
set_option maxHeartbeats 4000000 in
theorem w_X9_scan_1 (L : Nat) (b : Bool) (h : Hp) (hB : Bx h) (a0 : Int32) (a1 : Int32) (a2 : Int32) (a3 : Int32) : EvJ mi_X9_scan [.ref 1, .int a0, .int a1, .int a2, .int a3] (G0 L b) h (fun r : Int32 => B r (-2147483648) 12) [(4, 7), (5, 999), (6, 999), (7, 999), (8, 999)] := by
  refine EvM.of2 (lo := [some (.ref 1), some (.int a0), some (.int a1), some (.int a2), some (.int a3), none, none, none, none]) pf_X9_scan ok_X9_scan rfl rfl ?_
  have hJ0 : JW [(4, 7), (5, 999), (6, 999), (7, 999), (8, 999)] h h := JW.refl hB
  refine ev_aload_n rfl rfl rfl ?_
  refine ev_getR (y := 55) rfl rfl fl_X9_71 rfl rfl rfl rfl ?_
  refine ev_iload_n rfl rfl rfl ?_
  refine ev_V1P rfl rfl lk_X9_255 vt_X5_has rfl rfl rfl rfl rfl (w_X5_has_55 L b h hJ0.1 a0) (fun r1 q1 => ?_)
  obtain ⟨b1, p1_0⟩ := q1
  refine ev_if_eq rfl rfl (fun c2 => ?_) (fun c2 => ?_)
  · have b3 : B r1 0 0 := R_eqX b1 (by decide : B 0 0 0) c2
    refine ev_iconst (v := (-1)) rfl rfl (by decide) ?_
    exact ev_iret rfl rfl rfl ⟨⟨_, rfl, ((by decide : B (-1) (-1) (-1)).mono (by decide) (by decide))⟩, rfl, hJ0⟩
  · have b4 : B r1 1 1 := R_neL b1 (by decide : B 0 0 0) c2 (by decide)
    have b5 : B a0 0 3 := p1_0 c2
    refine ev_aload_n rfl rfl rfl ?_
    refine ev_getR (y := 55) rfl rfl fl_X9_71 rfl rfl rfl rfl ?_
    refine ev_iload_n rfl rfl rfl ?_
    refine ev_V1P rfl rfl lk_X9_256 vt_X5_isLane rfl rfl rfl rfl rfl (w_X5_isLane_55 L b h hJ0.1 a1) (fun r6 q6 => ?_)
    obtain ⟨b6, p6_0⟩ := q6
    refine ev_if_eq rfl rfl (fun c7 => ?_) (fun c7 => ?_)
    · have b8 : B r6 0 0 := R_eqX b6 (by decide : B 0 0 0) c7
      refine ev_iconst (v := (-1)) rfl rfl (by decide) ?_
      exact ev_iret rfl rfl rfl ⟨⟨_, rfl, ((by decide : B (-1) (-1) (-1)).mono (by decide) (by decide))⟩, rfl, hJ0⟩
    · have b9 : B r6 1 1 := R_neL b6 (by decide : B 0 0 0) c7 (by decide)
      have b10 : B a1 0 2 := p6_0 c7
      refine ev_iload rfl rfl rfl ?_
      refine ev_iconst (v := 0) rfl rfl (by decide) ?_
      refine ev_bipush (v := 12) rfl rfl (by decide) ?_
      refine ev_S3P rfl rfl lk_X9_75 st_X9_isWithin rfl rfl (w_isWithin (G0 L b) h a3 0 12 (by decide : B 0 0 0) (by decide : B 12 12 12)) (fun r11 q11 => ?_)
      obtain ⟨b11, p11_0⟩ := q11
      refine ev_if_ne rfl rfl (fun c12 => ?_) (fun c12 => ?_)
      · have b13 : B r11 1 1 := R_neL b11 (by decide : B 0 0 0) c12 (by decide)
        have b14 : B a3 0 12 := p11_0 c12
        refine ev_aload_n rfl rfl rfl ?_
        refine ev_getR (y := 55) rfl rfl fl_X9_71 rfl rfl rfl rfl ?_
        refine ev_iload_n rfl rfl rfl ?_
        refine ev_iload_n rfl rfl rfl ?_
        refine ev_V2P rfl rfl lk_X9_259 vt_X5_faultAs rfl rfl rfl rfl rfl (w_X5_faultAs_55 L b h hJ0.1 a0 b5 a1) (fun r16 q16 => ?_)
        refine ev_istore rfl rfl rfl rfl ?_
        dsimp only [List.set]
        refine ev_iload rfl rfl rfl ?_
        refine ev_if_eq rfl rfl (fun c17 => ?_) (fun c17 => ?_)
        · have b18 : B r16 0 0 := R_eqX q16 (by decide : B 0 0 0) c17
          refine ev_aload_n rfl rfl rfl ?_
          refine ev_getR (y := 4) rfl rfl fl_X9_22 rfl rfl rfl rfl ?_
          refine ev_getW (l := 0) (u := 12) hJ0.1 rfl rfl rfl fl_X9_158 rfl rfl rfl (fun v20 b20 e20 => ?_)
          refine ev_istore rfl rfl rfl rfl ?_
          dsimp only [List.set]
          refine ev_iload rfl rfl rfl ?_
          refine ev_istore rfl rfl rfl rfl ?_
          dsimp only [List.set]
          refine ev_iconst (v := 0) rfl rfl (by decide) ?_
          refine ev_istore rfl rfl rfl rfl ?_
          dsimp only [List.set]
          have lp73_122 : ∀ (n : Nat) (w123 : Int32) (w124 : Int32) (h127 : Hp), B w123 (-23) 12 → B w124 0 12 → JW [(4, 7), (5, 999), (6, 999), (7, 999), (8, 999)] h h127 → 12 + 1 - w124.toInt ≤ (n : Int) → EvQ mi_X9_scan 73 [some (.ref 1), some (.int a0), some (.int a1), some (.int a2), some (.int a3), some (.int r16), some (.int v20), some (.int w123), some (.int w124)] [] (G0 L b) h127 0 0 (QJ (fun r : Int32 => B r (-2147483648) 12) [(4, 7), (5, 999), (6, 999), (7, 999), (8, 999)] (G0 L b) h) := by
            intro n
            induction n with
            | zero =>
              intro w123 w124 h127 b125 b126 hJ128 hm73
              exact absurd hm73 (L_zero b126 (by decide))
            | succ n ih73 =>
              intro w123 w124 h127 b125 b126 hJ128 hm73
              refine ev_iload rfl rfl rfl ?_
              refine ev_iload rfl rfl rfl ?_
              refine ev_icmp_ge rfl rfl (fun c129 => ?_) (fun c129 => ?_)
              · refine ev_iload rfl rfl rfl ?_
                refine ev_if_ge rfl rfl (fun c132 => ?_) (fun c132 => ?_)
                · have b133 : B w123 0 12 := R_leY (by decide : B 0 0 0) b125 c132 (by decide)
                  refine ev_iload rfl rfl rfl ?_
                  exact ev_iret rfl rfl rfl ⟨⟨_, rfl, (b133.mono (by decide) (by decide))⟩, rfl, hJ128⟩
                · have b134 : B w123 (-23) (-1) := R_ltX b125 (by decide : B 0 0 0) (Int32.not_le.mp c132) (by decide)
                  refine ev_aload_n rfl rfl rfl ?_
                  refine ev_getR (y := 4) rfl rfl fl_X9_22 rfl rfl rfl rfl ?_
                  refine ev_iload rfl rfl rfl ?_
                  refine ev_putW (l := 0) (u := 12) hJ128 rfl b20 (by decide) (by decide) rfl rfl rfl fl_X9_158 rfl rfl rfl rfl rfl (fun h135 hJ135 k135 => ?_)
                  refine ev_iload rfl rfl rfl ?_
                  exact ev_iret rfl rfl rfl ⟨⟨_, rfl, (b134.mono (by decide) (by decide))⟩, rfl, hJ135⟩
              · have b130 : B w124 0 11 := R_ltX b126 b14 (Int32.not_le.mp c129) (by decide)
                have b131 : B a3 1 12 := R_ltY b126 b14 (Int32.not_le.mp c129) (by decide)
                refine ev_iload rfl rfl rfl ?_
                refine ev_if_lt rfl rfl (fun c136 => ?_) (fun c136 => ?_)
                · have b137 : B w123 (-23) (-1) := R_ltX b125 (by decide : B 0 0 0) c136 (by decide)
                  refine ev_iload rfl rfl rfl ?_
                  refine ev_if_ge rfl rfl (fun c139 => absurd c139 (D_nle (by decide : B 0 0 0) b137 (by decide))) (fun c139 => ?_)
                  refine ev_aload_n rfl rfl rfl ?_
                  refine ev_getR (y := 4) rfl rfl fl_X9_22 rfl rfl rfl rfl ?_
                  refine ev_iload rfl rfl rfl ?_
                  refine ev_putW (l := 0) (u := 12) hJ128 rfl b20 (by decide) (by decide) rfl rfl rfl fl_X9_158 rfl rfl rfl rfl rfl (fun h140 hJ140 k140 => ?_)
                  refine ev_iload rfl rfl rfl ?_
                  exact ev_iret rfl rfl rfl ⟨⟨_, rfl, (b137.mono (by decide) (by decide))⟩, rfl, hJ140⟩
                · have b138 : B w123 0 12 := R_leY (by decide : B 0 0 0) b125 (Int32.not_lt.mp c136) (by decide)
                  refine ev_aload_n rfl rfl rfl ?_
                  refine ev_iload_n rfl rfl rfl ?_
                  refine ev_iload_n rfl rfl rfl ?_
                  refine ev_iconst (v := 4) rfl rfl (by decide) ?_
                  refine ev_iload rfl rfl rfl ?_
                  refine ev_imulB (l := 0) (u := 44) rfl rfl (by decide : B 4 4 4) b130 (by decide) (by decide) (by decide) (by decide) (by decide) (fun v141 b141 e141 g141 => ?_)
                  refine ev_iaddA rfl rfl (fun v142 g142 => ?_)
                  refine ev_V2J hJ128 rfl rfl rfl lk_X9_332 vt_X9_scanOne rfl rfl rfl rfl rfl (w_X9_scanOne_1 L b h127 hJ128.1 a0 b5 v142) (fun r143 h143 q143 hJ143 k143 => ?_)
                  refine ev_istore rfl rfl rfl rfl ?_
                  dsimp only [List.set]
                  refine ev_iincB (y := 1) (l := 1) (u := 12) rfl rfl rfl (by decide) rfl rfl b130 (by decide : B 1 1 1) (by decide) (by decide) (by decide) (by decide) (fun v144 b144 e144 => ?_)
                  dsimp only [List.set]
                  refine ev_goto rfl rfl ?_
                  exact (ih73 r143 v144 h143 q143 (b144.mono (by decide) (by decide)) hJ143 (L_up hm73 (e_p1 e144 (by decide))))
          exact (lp73_122 13 v20 0 h (b20.mono (by decide) (by decide)) ((by decide : B 0 0 0).mono (by decide) (by decide)) hJ0 (L_init (by decide : B 0 0 0) (by decide)))
        · have b19 : B r16 1 3 := R_neL q16 (by decide : B 0 0 0) c17 (by decide)
          refine ev_bipush (v := (-10)) rfl rfl (by decide) ?_
          refine ev_iload rfl rfl rfl ?_
          refine ev_isubB (l := -13) (u := -11) rfl rfl (by decide : B (-10) (-10) (-10)) b19 (by decide) (by decide) (by decide) (by decide) (fun v145 b145 e145 g145 => ?_)
          exact ev_iret rfl rfl rfl ⟨⟨_, rfl, (b145.mono (by decide) (by decide))⟩, rfl, hJ0⟩
      · have b15 : B r11 0 0 := R_eqX b11 (by decide : B 0 0 0) c12
        refine ev_iconst (v := (-1)) rfl rfl (by decide) ?_
        exact ev_iret rfl rfl rfl ⟨⟨_, rfl, ((by decide : B (-1) (-1) (-1)).mono (by decide) (by decide))⟩, rfl, hJ0⟩

set_option maxRecDepth 100000 in
set_option maxHeartbeats 4000000 in
theorem w_X4_cell_v0_25_v0_0 (L : Nat) (b : Bool) (h : Hp) (hB : Bx h) (a0 : Int32) (p0 : B a0 0 25) (a1 : Int32) (p1 : B a1 0 0) : EvP mi_X4_cell [.int a0, .int a1] (G0 L b) h (fun r : Int32 => B r 0 45225 ∧ (r.toInt = (a0.toInt * 201 + a1.toInt) * 9)) := by
  refine EvM.of2 (lo := [some (.int a0), some (.int a1)]) pf_X4_cell ok_X4_cell rfl rfl ?_
  obtain ⟨f1, ef1⟩ : ∃ f_, h 2 3 = f_ := ⟨_, rfl⟩
  have bf1 : B f1 0 200 := by have z_ := hB 2 3; rw [ef1] at z_; exact z_
  have zf1 := congrArg Int32.toInt ef1
  refine ev_iload_n rfl rfl rfl ?_
  refine ev_sipush (v := 201) rfl rfl (by decide) ?_
  refine ev_imulB (l := 0) (u := 5025) rfl rfl p0 (by decide : B 201 201 201) (by decide) (by decide) (by decide) (by decide) (by decide) (fun v2 b2 e2 g2 => ?_)
  rw [show (201 : Int32).toInt = 201 from by decide] at e2
  refine ev_iload_n rfl rfl rfl ?_
  refine ev_iaddB (l := 0) (u := 5025) rfl rfl b2 p1 (by decide) (by decide) (by decide) (by decide) (fun v3 b3 e3 g3 => ?_)
  refine ev_bipush (v := 9) rfl rfl (by decide) ?_
  refine ev_imulB (l := 0) (u := 45225) rfl rfl b3 (by decide : B 9 9 9) (by decide) (by decide) (by decide) (by decide) (by decide) (fun v4 b4 e4 g4 => ?_)
  rw [show (9 : Int32).toInt = 9 from by decide] at e4
  exact ev_iret rfl rfl rfl ⟨⟨_, rfl, ⟨b4, (by have z0_ := congrArg Int32.toInt ef1; have z_ := w_lits; have zl_ := l_lits; omega)⟩⟩, rfl, rfl⟩

set_option maxRecDepth 100000 in
set_option maxHeartbeats 4000000 in
theorem w_J7_rangeCheck_23922 (L : Nat) (b : Bool) (h : Hp) (hB : Bx h) (a0 : Int32) (p0 : B a0 45225 45225) (a1 : Int32) (p1 : B a1 0 45225) (a2 : Int32) (p2 : B a2 0 45225) (rp0 : a1.toInt ≤ a2.toInt) : EvN mi_J7_rangeCheck_23922 [.int a0, .int a1, .int a2] (G0 L b) h [] := by
  refine EvM.of2 (lo := [some (.int a0), some (.int a1), some (.int a2)]) pf_J7_rangeCheck_23922 ok_J7_rangeCheck_23922 rfl rfl ?_
  have hJ0 : JW [] h h := JW.refl hB
  obtain ⟨f1, ef1⟩ : ∃ f_, h 2 3 = f_ := ⟨_, rfl⟩
  have bf1 : B f1 0 200 := by have z_ := hJ0.1 2 3; rw [ef1] at z_; exact z_
  have zf1 := congrArg Int32.toInt ef1
  refine ev_iload_n rfl rfl rfl ?_
  refine ev_iload_n rfl rfl rfl ?_
  refine ev_icmp_le rfl rfl (fun c2 => ?_) (fun c2 => False.elim (by have z0_ := congrArg Int32.toInt ef1; have z1_ := w_lt (Int32.not_le.mp c2); have z_ := w_lits; have zl_ := l_lits; omega))
  have z3 := w_le c2
  refine ev_iload_n rfl rfl rfl ?_
  refine ev_if_ge rfl rfl (fun c7 => ?_) (fun c7 => absurd (D_le (by decide : B 0 0 0) p1 (by decide)) c7)
  have z8 := w_le c7
  rw [show (0 : Int32).toInt = 0 from by decide] at z8
  refine ev_iload_n rfl rfl rfl ?_
  refine ev_iload_n rfl rfl rfl ?_
  refine ev_icmp_le rfl rfl (fun c9 => ?_) (fun c9 => absurd (D_le p2 p0 (by decide)) c9)
  have z10 := w_le c9
  exact ev_vret rfl rfl trivial ⟨rfl, rfl, hJ0⟩

set_option maxRecDepth 100000 in
set_option maxHeartbeats 4000000 in
theorem w_J7_fill_fda19_95 (L : Nat) (h : Hp) (hB : Bx h) (a0 : Int32) (p0 : B a0 0 45225) (a1 : Int32) (p1 : B a1 0 45225) (a2 : Int32) (rp0 : a0.toInt ≤ a1.toInt) : EvN mi_J7_fill_fda19 [.ref 95, .int a0, .int a1, .int a2] (G0 L true) h [(95, 999)] := by
  refine EvM.of2 (lo := [some (.ref 95), some (.int a0), some (.int a1), some (.int a2), none]) pf_J7_fill_fda19 ok_J7_fill_fda19 rfl rfl ?_
  have hJ0 : JW [(95, 999)] h h := JW.refl hB
  obtain ⟨f1, ef1⟩ : ∃ f_, h 2 3 = f_ := ⟨_, rfl⟩
  have bf1 : B f1 0 200 := by have z_ := hJ0.1 2 3; rw [ef1] at z_; exact z_
  have zf1 := congrArg Int32.toInt ef1
  refine ev_aload_n rfl rfl rfl ?_
  refine ev_alen (n := 45225) rfl rfl rfl ?_
  rw [show nI 45225 = 45225 from rfl]
  refine ev_iload_n rfl rfl rfl ?_
  refine ev_iload_n rfl rfl rfl ?_
  refine ev_S3N hJ0 rfl rfl rfl lk_J7_13 st_J7_rangeCheck_23922 rfl rfl (w_J7_rangeCheck_23922 L true h hJ0.1 45225 (by decide : B 45225 45225 45225) a0 p0 a1 p1 (by have z_ := w_lits; have zl_ := l_lits; omega)) (fun h2 hJ2 k2  => ?_)
  refine ev_iload_n rfl rfl rfl ?_
  refine ev_istore rfl rfl rfl rfl ?_
  dsimp only [List.set]
  have lp10_28 : ∀ (n : Nat) (w29 : Int32) (h31 : Hp), B w29 0 45225 → JW [(95, 999)] h h31 → (h31 2 3 = f1) → 45225 + 1 - w29.toInt ≤ (n : Int) → EvQ mi_J7_fill_fda19 10 [some (.ref 95), some (.int a0), some (.int a1), some (.int a2), some (.int w29)] [] (G0 L true) h31 0 0 (QN [(95, 999)] (G0 L true) h) := by
    intro n
    induction n with
    | zero =>
      intro w29 h31 b30 hJ32 z33 hm10
      exact absurd hm10 (L_zero b30 (by decide))
    | succ n ih10 =>
      intro w29 h31 b30 hJ32 z33 hm10
      have z34 := congrArg Int32.toInt z33
      refine ev_iload rfl rfl rfl ?_
      refine ev_iload_n rfl rfl rfl ?_
      refine ev_icmp_ge rfl rfl (fun c35 => ?_) (fun c35 => ?_)
      · have z36 := w_le c35
        exact ev_vret rfl rfl trivial ⟨rfl, rfl, hJ32⟩
      · have b37 : B w29 0 45224 := R_ltX b30 p1 (Int32.not_le.mp c35) (by decide)
        have b38 : B a1 1 45225 := R_ltY b30 p1 (Int32.not_le.mp c35) (by decide)
        have z39 := w_lt (Int32.not_le.mp c35)
        refine ev_aload_n rfl rfl rfl ?_
        refine ev_iload rfl rfl rfl ?_
        refine ev_iload_n rfl rfl rfl ?_
        refine ev_iasW (n := 45225) (l := (-2147483648)) (u := 2147483647) hJ32 b37 (by decide) (by decide) (fun _ => rfl) (B.any a2) (by decide) (by decide) (fun _ => rfl) rfl rfl rfl rfl (fun h40 hJ40 k40 => ?_)
        refine ev_iincB (y := 1) (l := 1) (u := 45225) rfl rfl rfl (by decide) rfl rfl b37 (by decide : B 1 1 1) (by decide) (by decide) (by decide) (by decide) (fun v41 b41 e41 => ?_)
        dsimp only [List.set]
        have e41x := e41; rw [show (1 : Int32).toInt = 1 from by decide] at e41x
        refine ev_goto rfl rfl ?_
        exact (ih10 v41 h40 (b41.mono (by decide) (by decide)) hJ40 (rd_a k40 z33 rfl) (L_up hm10 (e_p1 e41 (by decide))))
  exact (lp10_28 45226 a0 h2 p0 hJ2 (rd_w k2 ef1 rfl) (L_init p0 (by decide)))

set_option maxRecDepth 100000 in
set_option maxHeartbeats 4000000 in
theorem w_X4_solve_37_2_4_s15 (L : Nat) (h : Hp) (hB : Bx h) (a0 : Int32) (a1 : Int32) (p1 : B a1 0 8) : EvQ mi_X4_solve 15 [some (.ref 37), some (.ref 2), some (.ref 4), some (.int a0), some (.int a1), none] [] (G0 L true) h 0 0 (QN [(37, 4), (37, 7), (37, 8), (37, 11), (37, 12), (37, 13), (38, 999), (40, 999), (41, 999), (42, 999), (43, 999), (95, 999)] (G0 L true) h) := by
  have hJ0 : JW [(37, 4), (37, 7), (37, 8), (37, 11), (37, 12), (37, 13), (38, 999), (40, 999), (41, 999), (42, 999), (43, 999), (95, 999)] h h := JW.refl hB
  obtain ⟨f1, ef1⟩ : ∃ f_, h 37 3 = f_ := ⟨_, rfl⟩
  have bf1 : B f1 0 24 := by have z_ := hJ0.1 37 3; rw [ef1] at z_; exact z_
  have zf1 := congrArg Int32.toInt ef1
  refine ev_aload_n rfl rfl rfl ?_
  refine ev_iload rfl rfl rfl ?_
  refine ev_iconst (v := 1) rfl rfl (by decide) ?_
  refine ev_iaddB (l := 1) (u := 9) rfl rfl p1 (by decide : B 1 1 1) (by decide) (by decide) (by decide) (by decide) (fun v2 b2 e2 g2 => ?_)
  have e2x := e2; rw [show (1 : Int32).toInt = 1 from by decide] at e2x
  refine ev_putW (l := 0) (u := 9) hJ0 rfl b2 (by decide) (by decide) rfl rfl rfl fl_X4_25 rfl rfl rfl rfl rfl (fun h3 hJ3 k3 => ?_)
  refine ev_aload_n rfl rfl rfl ?_
  refine ev_aload_n rfl rfl rfl ?_
  refine ev_iconst (v := 0) rfl rfl (by decide) ?_
  refine ev_aload_n rfl rfl rfl ?_
  refine ev_getW (l := (-2147483648)) (u := 2147483647) hJ3.1 rfl rfl rfl fl_X4_71 rfl rfl rfl (fun v4 b4 e4 => ?_)
  refine ev_V2P rfl rfl lk_X4_76 vt_X8_drawnBy rfl rfl rfl rfl rfl (w_X8_drawnBy_4 L true h3 hJ3.1 0 v4) (fun r5 q5 => ?_)
  refine ev_putW (l := (-2147483648)) (u := 2147483647) hJ3 rfl (B.any r5) (by decide) (by decide) rfl rfl rfl fl_X4_37 rfl rfl rfl rfl rfl (fun h6 hJ6 k6 => ?_)
  refine ev_aload_n rfl rfl rfl ?_
  refine ev_aload_n rfl rfl rfl ?_
  refine ev_iload_n rfl rfl rfl ?_
  refine ev_V2N hJ6 rfl rfl rfl lk_X4_80 vt_X4_markNear rfl rfl rfl rfl rfl (w_X4_markNear_37_4 L true h6 hJ6.1 a0) (fun h7 hJ7 k7  => ?_)
  refine ev_aload_n rfl rfl rfl ?_
  refine ev_getR (y := 95) rfl rfl fl_X4_9 rfl rfl rfl rfl ?_
  refine ev_aload_n rfl rfl rfl ?_
  refine ev_getV (v := f1) rfl rfl fl_X4_21 rfl rfl rfl (rd_w k7 (rd_o k6 (rd_o k3 ef1 rfl) rfl) rfl) ?_
  refine ev_iconst (v := 0) rfl rfl (by decide) ?_
  refine ev_S2P rfl rfl lk_X4_84 st_X4_cell rfl rfl (w_X4_cell_v0_24_v0_0 L true h7 hJ7.1 f1 bf1 0 (by decide : B 0 0 0)) (fun r8 q8 => ?_)
  obtain ⟨b8, pp8_0⟩ := q8
  refine ev_aload_n rfl rfl rfl ?_
  refine ev_getV (v := f1) rfl rfl fl_X4_21 rfl rfl rfl (rd_w k7 (rd_o k6 (rd_o k3 ef1 rfl) rfl) rfl) ?_
  refine ev_iconst (v := 1) rfl rfl (by decide) ?_
  refine ev_iaddB (l := 1) (u := 25) rfl rfl bf1 (by decide : B 1 1 1) (by decide) (by decide) (by decide) (by decide) (fun v9 b9 e9 g9 => ?_)
  have e9x := e9; rw [show (1 : Int32).toInt = 1 from by decide] at e9x
  refine ev_iconst (v := 0) rfl rfl (by decide) ?_
  refine ev_S2P rfl rfl lk_X4_84 st_X4_cell rfl rfl (w_X4_cell_v0_25_v0_0 L true h7 hJ7.1 v9 (b9.mono (by decide) (by decide)) 0 (by decide : B 0 0 0)) (fun r10 q10 => ?_)
  obtain ⟨b10, pp10_0⟩ := q10
  refine ev_iconst (v := 0) rfl rfl (by decide) ?_
  refine ev_S4N hJ7 rfl rfl rfl lk_X4_87 st_J7_fill_fda19 rfl rfl (w_J7_fill_fda19_95 L h7 hJ7.1 r8 (b8.mono (by decide) (by decide)) r10 b10 0 (by have z_ := w_lits; have zl_ := l_lits; omega)) (fun h11 hJ11 k11  => ?_)
  refine ev_aload_n rfl rfl rfl ?_
  refine ev_getV (v := f1) rfl rfl fl_X4_21 rfl rfl rfl (rd_w k11 (rd_w k7 (rd_o k6 (rd_o k3 ef1 rfl) rfl) rfl) rfl) ?_
  refine ev_iconst (v := 1) rfl rfl (by decide) ?_
  refine ev_isubB (l := -1) (u := 23) rfl rfl bf1 (by decide : B 1 1 1) (by decide) (by decide) (by decide) (by decide) (fun v12 b12 e12 g12 => ?_)
  have e12x := e12; rw [show (1 : Int32).toInt = 1 from by decide] at e12x
  refine ev_istore rfl rfl rfl rfl ?_
  dsimp only [List.set]
  have lp76_53 : ∀ (n : Nat) (w54 : Int32) (h56 : Hp), B w54 (-1) 23 → JW [(37, 4), (37, 7), (37, 8), (37, 11), (37, 12), (37, 13), (38, 999), (40, 999), (41, 999), (42, 999), (43, 999), (95, 999)] h h56 → (h56 37 3 = f1) → (h56 37 4 = v2) → (h56 4 6 = v4) → (h56 37 8 = r5) → w54.toInt + 1 - (-1) ≤ (n : Int) → EvQ mi_X4_solve 76 [some (.ref 37), some (.ref 2), some (.ref 4), some (.int a0), some (.int a1), some (.int w54)] [] (G0 L true) h56 0 0 (QN [(37, 4), (37, 7), (37, 8), (37, 11), (37, 12), (37, 13), (38, 999), (40, 999), (41, 999), (42, 999), (43, 999), (95, 999)] (G0 L true) h) := by
    intro n
    induction n with
    | zero =>
      intro w54 h56 b55 hJ57 z58 z59 z60 z61 hm76
      exact absurd hm76 (M_zero b55 (by decide))
    | succ n ih76 =>
      intro w54 h56 b55 hJ57 z58 z59 z60 z61 hm76
      have z62 := congrArg Int32.toInt z58
      refine ev_iload rfl rfl rfl ?_
      refine ev_if_lt rfl rfl (fun c63 => ?_) (fun c63 => ?_)
      · have b64 : B w54 (-1) (-1) := R_ltX b55 (by decide : B 0 0 0) c63 (by decide)
        have z65 := w_lt c63
        rw [show (0 : Int32).toInt = 0 from by decide] at z65
        refine ev_aload_n rfl rfl rfl ?_
        refine ev_aload_n rfl rfl rfl ?_
        refine ev_aload_n rfl rfl rfl ?_
        refine ev_iload rfl rfl rfl ?_
        refine ev_V3N hJ57 rfl rfl rfl lk_X4_103 vt_X4_follow rfl rfl rfl rfl rfl (w_X4_follow_37_2_4 L h56 hJ57.1 a1 p1) (fun h68 hJ68 k68  => ?_)
        exact ev_vret rfl rfl trivial ⟨rfl, rfl, hJ68⟩
      · have b66 : B w54 0 23 := R_leY (by decide : B 0 0 0) b55 (Int32.not_lt.mp c63) (by decide)
        have z67 := w_le (Int32.not_lt.mp c63)
        rw [show (0 : Int32).toInt = 0 from by decide] at z67
        refine ev_aload_n rfl rfl rfl ?_
        refine ev_aload_n rfl rfl rfl ?_
        refine ev_aload_n rfl rfl rfl ?_
        refine ev_getR (y := 39) rfl rfl fl_X4_18 rfl rfl rfl rfl ?_
        refine ev_iload rfl rfl rfl ?_
        refine ev_ialW (n := 24) (l := (-2147483648)) (u := 2147483647) hJ57.1 b66 (by decide) (by decide) (fun _ => rfl) rfl rfl rfl (fun v69 b69 e69 => ?_)
        refine ev_V2K hJ57 rfl rfl rfl lk_X4_93 vt_X4_listOptions rfl rfl rfl rfl rfl (w_X4_listOptions_37_4 L true h56 hJ57.1 v69) (fun h70 hJ70 k70 m70 => ?_)
        obtain ⟨f71, ef71⟩ : ∃ f_, h70 37 7 = f_ := ⟨_, rfl⟩
        rw [ef71] at m70
        refine ev_aload_n rfl rfl rfl ?_
        refine ev_aload_n rfl rfl rfl ?_
        refine ev_iload rfl rfl rfl ?_
        refine ev_V2N hJ70 rfl rfl rfl lk_X4_96 vt_X4_fillSounding rfl rfl rfl rfl rfl (w_X4_fillSounding_37_2 L h70 hJ70.1 w54 b66) (fun h72 hJ72 k72  => ?_)
        refine ev_aload_n rfl rfl rfl ?_
        refine ev_aload_n rfl rfl rfl ?_
        refine ev_iload rfl rfl rfl ?_
        refine ev_V2N hJ72 rfl rfl rfl lk_X4_100 vt_X4_fillResting rfl rfl rfl rfl rfl (w_X4_fillResting_37_2 L h72 hJ72.1 w54 b66) (fun h73 hJ73 k73  => ?_)
        refine ev_iincB (y := (-1)) (l := -1) (u := 22) rfl rfl rfl (by decide) rfl rfl b66 (by decide : B (-1) (-1) (-1)) (by decide) (by decide) (by decide) (by decide) (fun v74 b74 e74 => ?_)
        dsimp only [List.set]
        have e74x := e74; rw [show ((-1) : Int32).toInt = (-1) from by decide] at e74x
        refine ev_goto rfl rfl ?_
        exact (ih76 v74 h73 (b74.mono (by decide) (by decide)) hJ73 (rd_w k73 (rd_w k72 (rd_w k70 z58 rfl) rfl) rfl) (rd_w k73 (rd_w k72 (rd_w k70 z59 rfl) rfl) rfl) (rd_w k73 (rd_w k72 (rd_w k70 z60 rfl) rfl) rfl) (rd_w k73 (rd_w k72 (rd_w k70 z61 rfl) rfl) rfl) (M_dn hm76 (e_m1 e74 (by decide))))
  exact (lp76_53 25 v12 h11 b12 hJ11 (rd_w k11 (rd_w k7 (rd_o k6 (rd_o k3 ef1 rfl) rfl) rfl) rfl) (rd_w k11 (rd_w k7 (rd_o k6 (rd_s k3) rfl) rfl) rfl) (rd_w k11 (rd_w k7 (rd_o k6 e4 rfl) rfl) rfl) (rd_w k11 (rd_w k7 (rd_s k6) rfl) rfl) (M_init b12 (by decide)))

set_option maxRecDepth 100000 in
set_option maxHeartbeats 4000000 in
theorem w_X4_solve_t (L : Nat) (h : Hp) (hB : Bx h) (a0 a1 : Int32) (p1 : B a1 0 8) : EvN mi_X4_solve [.ref 37, .ref 2, .ref 4, .int a0, .int a1] (G0 L true) h [(37, 4), (37, 7), (37, 8), (37, 11), (37, 12), (37, 13), (38, 999), (40, 999), (41, 999), (42, 999), (43, 999), (95, 999)] := by
  refine EvM.of2 (lo := [some (.ref 37), some (.ref 2), some (.ref 4), some (.int a0), some (.int a1), none]) pf_X4_solve ok_X4_solve rfl rfl ?_
  refine ev_aload_n rfl rfl rfl ?_
  refine ev_getR (y := 95) rfl rfl fl_X4_9 rfl rfl rfl rfl ?_
  refine ev_ifnn rfl rfl ?_
  exact w_X4_solve_37_2_4_s15 L h hB a0 a1 p1
set_option maxRecDepth 100000 in
set_option maxHeartbeats 4000000 in
theorem w_X4_solve_f (L : Nat) (h : Hp) (hB : Bx h) (hz : ∀ j, h 95 j = 0) (a0 a1 : Int32) (p1 : B a1 0 8) : EvM mi_X4_solve [.ref 37, .ref 2, .ref 4, .int a0, .int a1] (G0 L false) h 1 45225 (QN [(37, 4), (37, 7), (37, 8), (37, 11), (37, 12), (37, 13), (38, 999), (40, 999), (41, 999), (42, 999), (43, 999), (95, 999)] (G0 L true) h) := by
  refine EvM.of2 (lo := [some (.ref 37), some (.ref 2), some (.ref 4), some (.int a0), some (.int a1), none]) pf_X4_solve ok_X4_solve rfl rfl ?_
  refine ev_aload_n rfl rfl rfl ?_
  refine ev_getN rfl rfl fl_X4_9 rfl rfl rfl rfl ?_
  refine ev_ifnnN rfl rfl ?_
  refine ev_aload_n rfl rfl rfl ?_
  refine ev_ldc (v := 45225) rfl rfl kc_X4_70 ?_
  refine EvQ.cs (1 + 0) (45225 + 0) rfl rfl ?_
  refine ev_newa (N := 45225) (kc := 0) (ks := 0) rfl rfl rfl ac_int ⟨rfl, rfl⟩ (by decide) (by decide) (by decide) rfl (fun j => hz j) ?_
  refine ev_putR rfl rfl fl_X4_9 (Or.inl ⟨_, rfl, rfl⟩) rfl rfl rfl rfl ?_
  refine EvQ.geo (G0 L true) rfl ?_
  exact w_X4_solve_37_2_4_s15 L h hB a0 a1 p1

set_option maxRecDepth 100000 in
set_option maxHeartbeats 4000000 in
theorem w_X4_answer_37_v0_2 (L : Nat) (b : Bool) (h : Hp) (hB : Bx h) (a0 : Int32) (p0 : B a0 0 2) : EvP mi_X4_answer [.ref 37, .int a0] (G0 L b) h (fun r : Int32 => B r (-2147483648) 2147483647) := by
  refine EvM.of2 (lo := [some (.ref 37), some (.int a0)]) pf_X4_answer ok_X4_answer rfl rfl ?_
  refine ev_iload_n rfl rfl rfl ?_
  refine ev_if_ne rfl rfl (fun c1 => ?_) (fun c1 => ?_)
  · have b2 : B a0 1 2 := R_neL p0 (by decide : B 0 0 0) c1 (by decide)
    refine ev_iload_n rfl rfl rfl ?_
    refine ev_iconst (v := 1) rfl rfl (by decide) ?_
    refine ev_icmp_ne rfl rfl (fun c4 => ?_) (fun c4 => ?_)
    · have b5 : B a0 2 2 := R_neL b2 (by decide : B 1 1 1) c4 (by decide)
      refine ev_iload_n rfl rfl rfl ?_
      refine ev_iconst (v := 2) rfl rfl (by decide) ?_
      refine ev_icmp_ne rfl rfl (fun c7 => absurd (D_eq b5 (by decide : B 2 2 2)) c7) (fun c7 => ?_)
      refine ev_aload_n rfl rfl rfl ?_
      refine ev_getW (l := (-2147483648)) (u := 2147483647) hB rfl rfl rfl fl_X4_52 rfl rfl rfl (fun v8 b8 e8 => ?_)
      exact ev_iret rfl rfl rfl ⟨⟨_, rfl, (B.any v8)⟩, rfl, rfl⟩
    · have b6 : B a0 1 1 := R_eqX b2 (by decide : B 1 1 1) c4
      refine ev_aload_n rfl rfl rfl ?_
      refine ev_getW (l := (-2147483648)) (u := 2147483647) hB rfl rfl rfl fl_X4_49 rfl rfl rfl (fun v9 b9 e9 => ?_)
      exact ev_iret rfl rfl rfl ⟨⟨_, rfl, (B.any v9)⟩, rfl, rfl⟩
  · have b3 : B a0 0 0 := R_eqX p0 (by decide : B 0 0 0) c1
    refine ev_aload_n rfl rfl rfl ?_
    refine ev_getW (l := (-2147483648)) (u := 2147483647) hB rfl rfl rfl fl_X4_46 rfl rfl rfl (fun v10 b10 e10 => ?_)
    exact ev_iret rfl rfl rfl ⟨⟨_, rfl, (B.any v10)⟩, rfl, rfl⟩

set_option maxRecDepth 100000 in
set_option maxHeartbeats 4000000 in
theorem w_X4_answer_37_v10_33 (L : Nat) (b : Bool) (h : Hp) (hB : Bx h) (a0 : Int32) (p0 : B a0 10 33) : EvP mi_X4_answer [.ref 37, .int a0] (G0 L b) h (fun r : Int32 => B r (-2147483648) 2147483647) := by
  refine EvM.of2 (lo := [some (.ref 37), some (.int a0)]) pf_X4_answer ok_X4_answer rfl rfl ?_
  refine ev_iload_n rfl rfl rfl ?_
  refine ev_if_ne rfl rfl (fun c1 => ?_) (fun c1 => absurd c1 (D_ne p0 (by decide : B 0 0 0) (by decide)))
  refine ev_iload_n rfl rfl rfl ?_
  refine ev_iconst (v := 1) rfl rfl (by decide) ?_
  refine ev_icmp_ne rfl rfl (fun c2 => ?_) (fun c2 => absurd c2 (D_ne p0 (by decide : B 1 1 1) (by decide)))
  refine ev_iload_n rfl rfl rfl ?_
  refine ev_iconst (v := 2) rfl rfl (by decide) ?_
  refine ev_icmp_ne rfl rfl (fun c3 => ?_) (fun c3 => absurd c3 (D_ne p0 (by decide : B 2 2 2) (by decide)))
  refine ev_iload_n rfl rfl rfl ?_
  refine ev_bipush (v := 40) rfl rfl (by decide) ?_
  refine ev_icmp_ge rfl rfl (fun c4 => absurd c4 (D_nle (by decide : B 40 40 40) p0 (by decide))) (fun c4 => ?_)
  refine ev_aload_n rfl rfl rfl ?_
  refine ev_getR (y := 42) rfl rfl fl_X4_40 rfl rfl rfl rfl ?_
  refine ev_iload_n rfl rfl rfl ?_
  refine ev_bipush (v := 10) rfl rfl (by decide) ?_
  refine ev_isubB (l := 0) (u := 23) rfl rfl p0 (by decide : B 10 10 10) (by decide) (by decide) (by decide) (by decide) (fun v5 b5 e5 g5 => ?_)
  refine ev_ialW (n := 24) (l := (-2147483648)) (u := 2147483647) hB b5 (by decide) (by decide) (fun _ => rfl) rfl rfl rfl (fun v6 b6 e6 => ?_)
  refine ev_goto rfl rfl ?_
  exact ev_iret rfl rfl rfl ⟨⟨_, rfl, (B.any v6)⟩, rfl, rfl⟩

set_option maxRecDepth 100000 in
set_option maxHeartbeats 4000000 in
theorem w_X9_isBeat_1_l40 (L : Nat) (b : Bool) (h : Hp) (hB : Bx h) (a0 : Int32) (a1 : Int32) : EvP mi_X9_isBeat [.ref 1, .int a0, .int a1, .int 40] (G0 L b) h (fun r : Int32 => B r 0 1 ∧ (¬ r = 0 → B a0 0 5) ∧ (¬ r = 0 → B a1 40 63)) := by
  refine EvM.of2 (lo := [some (.ref 1), some (.int a0), some (.int a1), some (.int 40)]) pf_X9_isBeat ok_X9_isBeat rfl rfl ?_
  refine ev_aload_n rfl rfl rfl ?_
  refine ev_getR (y := 28) rfl rfl fl_X9_43 rfl rfl rfl rfl ?_
  refine ev_iload_n rfl rfl rfl ?_
  refine ev_V1P rfl rfl lk_X9_195 vt_X7_has rfl rfl rfl rfl rfl (w_X7_has_28 L b h hB a0) (fun r1 q1 => ?_)
  obtain ⟨b1, p1_0⟩ := q1
  refine ev_if_eq rfl rfl (fun c2 => ?_) (fun c2 => ?_)
  · have b3 : B r1 0 0 := R_eqX b1 (by decide : B 0 0 0) c2
    refine ev_iconst (v := 0) rfl rfl (by decide) ?_
    exact ev_iret rfl rfl rfl ⟨⟨_, rfl, ⟨((by decide : B 0 0 0).mono (by decide) (by decide)), (fun e_ => absurd rfl e_), (fun e_ => absurd rfl e_)⟩⟩, rfl, rfl⟩
  · have b4 : B r1 1 1 := R_neL b1 (by decide : B 0 0 0) c2 (by decide)
    have b5 : B a0 0 5 := p1_0 c2
    refine ev_iload_n rfl rfl rfl ?_
    refine ev_iload_n rfl rfl rfl ?_
    refine ev_icmp_lt rfl rfl (fun c6 => ?_) (fun c6 => ?_)
    · have b7 : B a1 (-2147483648) 39 := R_ltX (B.any a1) (by decide : B 40 40 40) c6 (by decide)
      refine ev_iconst (v := 0) rfl rfl (by decide) ?_
      exact ev_iret rfl rfl rfl ⟨⟨_, rfl, ⟨((by decide : B 0 0 0).mono (by decide) (by decide)), (fun e_ => absurd rfl e_), (fun e_ => absurd rfl e_)⟩⟩, rfl, rfl⟩
    · have b8 : B a1 40 2147483647 := R_leY (by decide : B 40 40 40) (B.any a1) (Int32.not_lt.mp c6) (by decide)
      refine ev_iload_n rfl rfl rfl ?_
      refine ev_iload_n rfl rfl rfl ?_
      refine ev_isubB (l := 0) (u := 2147483607) rfl rfl b8 (by decide : B 40 40 40) (by decide) (by decide) (by decide) (by decide) (fun v9 b9 e9 g9 => ?_)
      refine ev_aload_n rfl rfl rfl ?_
      refine ev_getR (y := 28) rfl rfl fl_X9_43 rfl rfl rfl rfl ?_
      refine ev_getR (y := 36) rfl rfl fl_X9_196 rfl rfl rfl rfl ?_
      refine ev_iload_n rfl rfl rfl ?_
      refine ev_ialW (n := 6) (l := 0) (u := 24) hB b5 (by decide) (by decide) (fun _ => rfl) rfl rfl rfl (fun v10 b10 e10 => ?_)
      refine ev_icmp_ge rfl rfl (fun c11 => ?_) (fun c11 => ?_)
      · refine ev_iconst (v := 0) rfl rfl (by decide) ?_
        exact ev_iret rfl rfl rfl ⟨⟨_, rfl, ⟨((by decide : B 0 0 0).mono (by decide) (by decide)), (fun e_ => absurd rfl e_), (fun e_ => absurd rfl e_)⟩⟩, rfl, rfl⟩
      · have b12 : B v9 0 23 := R_ltX b9 b10 (Int32.not_le.mp c11) (by decide)
        have b13 : B a1 40 63 := (R_bks (l' := 40) (u' := 63) e9 b12 (by decide : B 40 40 40) (by decide) (by decide))
        have b14 : B v10 1 24 := R_ltY b9 b10 (Int32.not_le.mp c11) (by decide)
        refine ev_iconst (v := 1) rfl rfl (by decide) ?_
        refine ev_goto rfl rfl ?_
        exact ev_iret rfl rfl rfl ⟨⟨_, rfl, ⟨((by decide : B 1 1 1).mono (by decide) (by decide)), (fun _ => b5), (fun _ => b13)⟩⟩, rfl, rfl⟩

set_option maxRecDepth 100000 in
set_option maxHeartbeats 4000000 in
theorem w_X4_answer_37_v40_63 (L : Nat) (b : Bool) (h : Hp) (hB : Bx h) (a0 : Int32) (p0 : B a0 40 63) : EvP mi_X4_answer [.ref 37, .int a0] (G0 L b) h (fun r : Int32 => B r (-2147483648) 2147483647) := by
  refine EvM.of2 (lo := [some (.ref 37), some (.int a0)]) pf_X4_answer ok_X4_answer rfl rfl ?_
  refine ev_iload_n rfl rfl rfl ?_
  refine ev_if_ne rfl rfl (fun c1 => ?_) (fun c1 => absurd c1 (D_ne p0 (by decide : B 0 0 0) (by decide)))
  refine ev_iload_n rfl rfl rfl ?_
  refine ev_iconst (v := 1) rfl rfl (by decide) ?_
  refine ev_icmp_ne rfl rfl (fun c2 => ?_) (fun c2 => absurd c2 (D_ne p0 (by decide : B 1 1 1) (by decide)))
  refine ev_iload_n rfl rfl rfl ?_
  refine ev_iconst (v := 2) rfl rfl (by decide) ?_
  refine ev_icmp_ne rfl rfl (fun c3 => ?_) (fun c3 => absurd c3 (D_ne p0 (by decide : B 2 2 2) (by decide)))
  refine ev_iload_n rfl rfl rfl ?_
  refine ev_bipush (v := 40) rfl rfl (by decide) ?_
  refine ev_icmp_ge rfl rfl (fun c4 => ?_) (fun c4 => absurd (D_le (by decide : B 40 40 40) p0 (by decide)) c4)
  refine ev_aload_n rfl rfl rfl ?_
  refine ev_getR (y := 43) rfl rfl fl_X4_43 rfl rfl rfl rfl ?_
  refine ev_iload_n rfl rfl rfl ?_
  refine ev_bipush (v := 40) rfl rfl (by decide) ?_
  refine ev_isubB (l := 0) (u := 23) rfl rfl p0 (by decide : B 40 40 40) (by decide) (by decide) (by decide) (by decide) (fun v5 b5 e5 g5 => ?_)
  refine ev_ialW (n := 24) (l := (-2147483648)) (u := 2147483647) hB b5 (by decide) (by decide) (fun _ => rfl) rfl rfl rfl (fun v6 b6 e6 => ?_)
  exact ev_iret rfl rfl rfl ⟨⟨_, rfl, (B.any v6)⟩, rfl, rfl⟩

set_option maxRecDepth 100000 in
set_option maxHeartbeats 4000000 in
theorem w_X9_set_1 (L : Nat) (h : Hp) (hB : Bx h) (a0 : Int32) (a1 : Int32) (a2 : Int32) (a3 : Int32) (a4 : Int32) : EvJ mi_X9_set [.ref 1, .int a0, .int a1, .int a2, .int a3, .int a4] (G0 L true) h (fun r : Int32 => B r (-2147483648) 2147483647) [(37, 3), (37, 4), (37, 7), (37, 8), (37, 11), (37, 12), (37, 13), (37, 15), (38, 999), (39, 999), (40, 999), (41, 999), (42, 999), (43, 999), (44, 999), (95, 999)] := by
  refine EvM.of2 (lo := [some (.ref 1), some (.int a0), some (.int a1), some (.int a2), some (.int a3), some (.int a4), none]) pf_X9_set ok_X9_set rfl rfl ?_
  have hJ0 : JW [(37, 3), (37, 4), (37, 7), (37, 8), (37, 11), (37, 12), (37, 13), (37, 15), (38, 999), (39, 999), (40, 999), (41, 999), (42, 999), (43, 999), (44, 999), (95, 999)] h h := JW.refl hB
  refine ev_iload rfl rfl rfl ?_
  refine ev_iconst (v := 0) rfl rfl (by decide) ?_
  refine ev_iconst (v := 2) rfl rfl (by decide) ?_
  refine ev_S3P rfl rfl lk_X9_75 st_X9_isWithin rfl rfl (w_isWithin (G0 L true) h a4 0 2 (by decide : B 0 0 0) (by decide : B 2 2 2)) (fun r1 q1 => ?_)
  obtain ⟨b1, p1_0⟩ := q1
  refine ev_if_ne rfl rfl (fun c2 => ?_) (fun c2 => ?_)
  · have b3 : B r1 1 1 := R_neL b1 (by decide : B 0 0 0) c2 (by decide)
    have b4 : B a4 0 2 := p1_0 c2
    refine ev_iconst (v := 1) rfl rfl (by decide) ?_
    refine ev_goto rfl rfl ?_
    refine ev_istore rfl rfl rfl rfl ?_
    dsimp only [List.set]
    refine ev_aload_n rfl rfl rfl ?_
    refine ev_getR (y := 28) rfl rfl fl_X9_43 rfl rfl rfl rfl ?_
    refine ev_iload_n rfl rfl rfl ?_
    refine ev_V1P rfl rfl lk_X9_195 vt_X7_has rfl rfl rfl rfl rfl (w_X7_has_28 L true h hJ0.1 a0) (fun r6 q6 => ?_)
    obtain ⟨b6, p6_0⟩ := q6
    refine ev_if_eq rfl rfl (fun c7 => ?_) (fun c7 => ?_)
    · have b8 : B r6 0 0 := R_eqX b6 (by decide : B 0 0 0) c7
      refine ev_iconst (v := (-1)) rfl rfl (by decide) ?_
      exact ev_iret rfl rfl rfl ⟨⟨_, rfl, ((by decide : B (-1) (-1) (-1)).mono (by decide) (by decide))⟩, rfl, hJ0⟩
    · have b9 : B r6 1 1 := R_neL b6 (by decide : B 0 0 0) c7 (by decide)
      have b10 : B a0 0 5 := p6_0 c7
      refine ev_iload_n rfl rfl rfl ?_
      refine ev_S1P rfl rfl lk_X9_227 st_X9_isKey rfl rfl (w_X9_isKey L true h hJ0.1 a1) (fun r11 q11 => ?_)
      obtain ⟨b11, p11_0⟩ := q11
      refine ev_if_eq rfl rfl (fun c12 => ?_) (fun c12 => ?_)
      · have b13 : B r11 0 0 := R_eqX b11 (by decide : B 0 0 0) c12
        refine ev_iconst (v := (-1)) rfl rfl (by decide) ?_
        exact ev_iret rfl rfl rfl ⟨⟨_, rfl, ((by decide : B (-1) (-1) (-1)).mono (by decide) (by decide))⟩, rfl, hJ0⟩
      · have b14 : B r11 1 1 := R_neL b11 (by decide : B 0 0 0) c12 (by decide)
        have b15 : B a1 (-11) 11 := p11_0 c12
        refine ev_iload rfl rfl rfl ?_
        refine ev_if_ne rfl rfl (fun c16 => ?_) (fun c16 => absurd c16 (D_ne (by decide : B 1 1 1) (by decide : B 0 0 0) (by decide)))
        refine ev_iload_n rfl rfl rfl ?_
        refine ev_iconst (v := 0) rfl rfl (by decide) ?_
        refine ev_sipush (v := 400) rfl rfl (by decide) ?_
        refine ev_S3P rfl rfl lk_X9_75 st_X9_isWithin rfl rfl (w_isWithin (G0 L true) h a2 0 400 (by decide : B 0 0 0) (by decide : B 400 400 400)) (fun r17 q17 => ?_)
        obtain ⟨b17, p17_0⟩ := q17
        refine ev_if_eq rfl rfl (fun c18 => ?_) (fun c18 => ?_)
        · have b19 : B r17 0 0 := R_eqX b17 (by decide : B 0 0 0) c18
          refine ev_iconst (v := (-1)) rfl rfl (by decide) ?_
          exact ev_iret rfl rfl rfl ⟨⟨_, rfl, ((by decide : B (-1) (-1) (-1)).mono (by decide) (by decide))⟩, rfl, hJ0⟩
        · have b20 : B r17 1 1 := R_neL b17 (by decide : B 0 0 0) c18 (by decide)
          have b21 : B a2 0 400 := p17_0 c18
          refine ev_iload rfl rfl rfl ?_
          refine ev_iconst (v := 0) rfl rfl (by decide) ?_
          refine ev_bipush (v := 8) rfl rfl (by decide) ?_
          refine ev_S3P rfl rfl lk_X9_75 st_X9_isWithin rfl rfl (w_isWithin (G0 L true) h a3 0 8 (by decide : B 0 0 0) (by decide : B 8 8 8)) (fun r22 q22 => ?_)
          obtain ⟨b22, p22_0⟩ := q22
          refine ev_if_ne rfl rfl (fun c23 => ?_) (fun c23 => ?_)
          · have b24 : B r22 1 1 := R_neL b22 (by decide : B 0 0 0) c23 (by decide)
            have b25 : B a3 0 8 := p22_0 c23
            refine ev_aload_n rfl rfl rfl ?_
            refine ev_getR (y := 28) rfl rfl fl_X9_43 rfl rfl rfl rfl ?_
            refine ev_iload_n rfl rfl rfl ?_
            refine ev_iload_n rfl rfl rfl ?_
            refine ev_aload_n rfl rfl rfl ?_
            refine ev_getR (y := 4) rfl rfl fl_X9_22 rfl rfl rfl rfl ?_
            refine ev_getW (l := 0) (u := 12) hJ0.1 rfl rfl rfl fl_X9_158 rfl rfl rfl (fun v27 b27 e27 => ?_)
            refine ev_V3P rfl rfl lk_X9_230 vt_X7_goes rfl rfl rfl rfl rfl (w_X7_goes_28 L true h hJ0.1 a0 b10 a1 v27) (fun r28 q28 => ?_)
            refine ev_if_ne rfl rfl (fun c29 => ?_) (fun c29 => ?_)
            · have b30 : B r28 1 1 := R_neL q28 (by decide : B 0 0 0) c29 (by decide)
              refine ev_aload_n rfl rfl rfl ?_
              refine ev_getR (y := 37) rfl rfl fl_X9_50 rfl rfl rfl rfl ?_
              refine ev_iload_n rfl rfl rfl ?_
              refine ev_iload_n rfl rfl rfl ?_
              refine ev_iload_n rfl rfl rfl ?_
              refine ev_iload rfl rfl rfl ?_
              refine ev_aload_n rfl rfl rfl ?_
              refine ev_getR (y := 11) rfl rfl fl_X9_29 rfl rfl rfl rfl ?_
              refine ev_getW (l := (-2147483648)) (u := 2147483647) hJ0.1 rfl rfl rfl fl_X9_233 rfl rfl rfl (fun v32 b32 e32 => ?_)
              refine ev_V5P rfl rfl lk_X9_236 vt_X4_isFor rfl rfl rfl rfl rfl (w_X4_isFor_37 L true h hJ0.1 a0 a1 a2 a3 v32) (fun r33 q33 => ?_)
              refine ev_if_ne rfl rfl (fun c34 => ?_) (fun c34 => ?_)
              · have b35 : B r33 1 1 := R_neL q33 (by decide : B 0 0 0) c34 (by decide)
                refine ev_aload_n rfl rfl rfl ?_
                refine ev_getR (y := 37) rfl rfl fl_X9_50 rfl rfl rfl rfl ?_
                refine ev_iload rfl rfl rfl ?_
                refine ev_V1P rfl rfl lk_X9_252 vt_X4_answer rfl rfl rfl rfl rfl (w_X4_answer_37_v0_2 L true h hJ0.1 a4 b4) (fun r37 q37 => ?_)
                exact ev_iret rfl rfl rfl ⟨⟨_, rfl, (B.any r37)⟩, rfl, hJ0⟩
              · have b36 : B r33 0 0 := R_eqX q33 (by decide : B 0 0 0) c34
                refine ev_aload_n rfl rfl rfl ?_
                refine ev_getR (y := 37) rfl rfl fl_X9_50 rfl rfl rfl rfl ?_
                refine ev_aload_n rfl rfl rfl ?_
                refine ev_getR (y := 28) rfl rfl fl_X9_43 rfl rfl rfl rfl ?_
                refine ev_iload_n rfl rfl rfl ?_
                refine ev_iload_n rfl rfl rfl ?_
                refine ev_V3N hJ0 rfl rfl rfl lk_X9_240 vt_X4_takeTune rfl rfl rfl rfl rfl (w_X4_takeTune_37_28 L true h hJ0.1 a0 b10 a1) (fun h38 hJ38 k38  => ?_)
                refine ev_aload_n rfl rfl rfl ?_
                refine ev_getR (y := 37) rfl rfl fl_X9_50 rfl rfl rfl rfl ?_
                refine ev_aload_n rfl rfl rfl ?_
                refine ev_getR (y := 2) rfl rfl fl_X9_10 rfl rfl rfl rfl ?_
                refine ev_aload_n rfl rfl rfl ?_
                refine ev_getR (y := 4) rfl rfl fl_X9_22 rfl rfl rfl rfl ?_
                refine ev_iload_n rfl rfl rfl ?_
                refine ev_iload rfl rfl rfl ?_
                refine ev_V4N hJ38 rfl rfl rfl lk_X9_244 vt_X4_solve rfl rfl rfl rfl rfl (w_X4_solve_t L h38 hJ38.1 a2 a3 b25) (fun h39 hJ39 k39  => ?_)
                refine ev_aload_n rfl rfl rfl ?_
                refine ev_getR (y := 37) rfl rfl fl_X9_50 rfl rfl rfl rfl ?_
                refine ev_iload_n rfl rfl rfl ?_
                refine ev_iload_n rfl rfl rfl ?_
                refine ev_iload_n rfl rfl rfl ?_
                refine ev_iload rfl rfl rfl ?_
                refine ev_aload_n rfl rfl rfl ?_
                refine ev_getR (y := 11) rfl rfl fl_X9_29 rfl rfl rfl rfl ?_
                refine ev_getV (v := v32) rfl rfl fl_X9_233 rfl rfl rfl (rd_w k39 (rd_w k38 e32 rfl) rfl) ?_
                refine ev_V5N hJ39 rfl rfl rfl lk_X9_248 vt_X4_remember rfl rfl rfl rfl rfl (w_X4_remember_37 L true h39 hJ39.1 a0 a1 a2 a3 v32) (fun h40 hJ40 k40  => ?_)
                refine ev_aload_n rfl rfl rfl ?_
                refine ev_getR (y := 37) rfl rfl fl_X9_50 rfl rfl rfl rfl ?_
                refine ev_iload rfl rfl rfl ?_
                refine ev_V1P rfl rfl lk_X9_252 vt_X4_answer rfl rfl rfl rfl rfl (w_X4_answer_37_v0_2 L true h40 hJ40.1 a4 b4) (fun r41 q41 => ?_)
                exact ev_iret rfl rfl rfl ⟨⟨_, rfl, (B.any r41)⟩, rfl, hJ40⟩
            · have b31 : B r28 0 0 := R_eqX q28 (by decide : B 0 0 0) c29
              refine ev_bipush (v := (-2)) rfl rfl (by decide) ?_
              exact ev_iret rfl rfl rfl ⟨⟨_, rfl, ((by decide : B (-2) (-2) (-2)).mono (by decide) (by decide))⟩, rfl, hJ0⟩
          · have b26 : B r22 0 0 := R_eqX b22 (by decide : B 0 0 0) c23
            refine ev_iconst (v := (-1)) rfl rfl (by decide) ?_
            exact ev_iret rfl rfl rfl ⟨⟨_, rfl, ((by decide : B (-1) (-1) (-1)).mono (by decide) (by decide))⟩, rfl, hJ0⟩
  · have b5 : B r1 0 0 := R_eqX b1 (by decide : B 0 0 0) c2
    refine ev_aload_n rfl rfl rfl ?_
    refine ev_iload_n rfl rfl rfl ?_
    refine ev_iload rfl rfl rfl ?_
    refine ev_bipush (v := 10) rfl rfl (by decide) ?_
    refine ev_V3P rfl rfl lk_X9_210 vt_X9_isBeat rfl rfl rfl rfl rfl (w_X9_isBeat_1_l10 L true h hJ0.1 a0 a4) (fun r42 q42 => ?_)
    obtain ⟨b42, p42_0, p42_1⟩ := q42
    refine ev_if_ne rfl rfl (fun c43 => ?_) (fun c43 => ?_)
    · have b44 : B r42 1 1 := R_neL b42 (by decide : B 0 0 0) c43 (by decide)
      have b45 : B a0 0 5 := p42_0 c43
      have b46 : B a4 10 33 := p42_1 c43
      refine ev_iconst (v := 1) rfl rfl (by decide) ?_
      refine ev_goto rfl rfl ?_
      refine ev_istore rfl rfl rfl rfl ?_
      dsimp only [List.set]
      refine ev_aload_n rfl rfl rfl ?_
      refine ev_getR (y := 28) rfl rfl fl_X9_43 rfl rfl rfl rfl ?_
      refine ev_iload_n rfl rfl rfl ?_
      refine ev_V1P rfl rfl lk_X9_195 vt_X7_has rfl rfl rfl rfl rfl (w_X7_has_28 L true h hJ0.1 a0) (fun r48 q48 => ?_)
      obtain ⟨b48, p48_0⟩ := q48
      refine ev_if_eq rfl rfl (fun c49 => ?_) (fun c49 => ?_)
      · have b50 : B r48 0 0 := R_eqX b48 (by decide : B 0 0 0) c49
        refine ev_iconst (v := (-1)) rfl rfl (by decide) ?_
        exact ev_iret rfl rfl rfl ⟨⟨_, rfl, ((by decide : B (-1) (-1) (-1)).mono (by decide) (by decide))⟩, rfl, hJ0⟩
      · have b51 : B r48 1 1 := R_neL b48 (by decide : B 0 0 0) c49 (by decide)
        refine ev_iload_n rfl rfl rfl ?_
        refine ev_S1P rfl rfl lk_X9_227 st_X9_isKey rfl rfl (w_X9_isKey L true h hJ0.1 a1) (fun r52 q52 => ?_)
        obtain ⟨b52, p52_0⟩ := q52
        refine ev_if_eq rfl rfl (fun c53 => ?_) (fun c53 => ?_)
        · have b54 : B r52 0 0 := R_eqX b52 (by decide : B 0 0 0) c53
          refine ev_iconst (v := (-1)) rfl rfl (by decide) ?_
          exact ev_iret rfl rfl rfl ⟨⟨_, rfl, ((by decide : B (-1) (-1) (-1)).mono (by decide) (by decide))⟩, rfl, hJ0⟩
        · have b55 : B r52 1 1 := R_neL b52 (by decide : B 0 0 0) c53 (by decide)
          have b56 : B a1 (-11) 11 := p52_0 c53
          refine ev_iload rfl rfl rfl ?_
          refine ev_if_ne rfl rfl (fun c57 => ?_) (fun c57 => absurd c57 (D_ne (by decide : B 1 1 1) (by decide : B 0 0 0) (by decide)))
          refine ev_iload_n rfl rfl rfl ?_
          refine ev_iconst (v := 0) rfl rfl (by decide) ?_
          refine ev_sipush (v := 400) rfl rfl (by decide) ?_
          refine ev_S3P rfl rfl lk_X9_75 st_X9_isWithin rfl rfl (w_isWithin (G0 L true) h a2 0 400 (by decide : B 0 0 0) (by decide : B 400 400 400)) (fun r58 q58 => ?_)
          obtain ⟨b58, p58_0⟩ := q58
          refine ev_if_eq rfl rfl (fun c59 => ?_) (fun c59 => ?_)
          · have b60 : B r58 0 0 := R_eqX b58 (by decide : B 0 0 0) c59
            refine ev_iconst (v := (-1)) rfl rfl (by decide) ?_
            exact ev_iret rfl rfl rfl ⟨⟨_, rfl, ((by decide : B (-1) (-1) (-1)).mono (by decide) (by decide))⟩, rfl, hJ0⟩
          · have b61 : B r58 1 1 := R_neL b58 (by decide : B 0 0 0) c59 (by decide)
            have b62 : B a2 0 400 := p58_0 c59
            refine ev_iload rfl rfl rfl ?_
            refine ev_iconst (v := 0) rfl rfl (by decide) ?_
            refine ev_bipush (v := 8) rfl rfl (by decide) ?_
            refine ev_S3P rfl rfl lk_X9_75 st_X9_isWithin rfl rfl (w_isWithin (G0 L true) h a3 0 8 (by decide : B 0 0 0) (by decide : B 8 8 8)) (fun r63 q63 => ?_)
            obtain ⟨b63, p63_0⟩ := q63
            refine ev_if_ne rfl rfl (fun c64 => ?_) (fun c64 => ?_)
            · have b65 : B r63 1 1 := R_neL b63 (by decide : B 0 0 0) c64 (by decide)
              have b66 : B a3 0 8 := p63_0 c64
              refine ev_aload_n rfl rfl rfl ?_
              refine ev_getR (y := 28) rfl rfl fl_X9_43 rfl rfl rfl rfl ?_
              refine ev_iload_n rfl rfl rfl ?_
              refine ev_iload_n rfl rfl rfl ?_
              refine ev_aload_n rfl rfl rfl ?_
              refine ev_getR (y := 4) rfl rfl fl_X9_22 rfl rfl rfl rfl ?_
              refine ev_getW (l := 0) (u := 12) hJ0.1 rfl rfl rfl fl_X9_158 rfl rfl rfl (fun v68 b68 e68 => ?_)
              refine ev_V3P rfl rfl lk_X9_230 vt_X7_goes rfl rfl rfl rfl rfl (w_X7_goes_28 L true h hJ0.1 a0 b45 a1 v68) (fun r69 q69 => ?_)
              refine ev_if_ne rfl rfl (fun c70 => ?_) (fun c70 => ?_)
              · have b71 : B r69 1 1 := R_neL q69 (by decide : B 0 0 0) c70 (by decide)
                refine ev_aload_n rfl rfl rfl ?_
                refine ev_getR (y := 37) rfl rfl fl_X9_50 rfl rfl rfl rfl ?_
                refine ev_iload_n rfl rfl rfl ?_
                refine ev_iload_n rfl rfl rfl ?_
                refine ev_iload_n rfl rfl rfl ?_
                refine ev_iload rfl rfl rfl ?_
                refine ev_aload_n rfl rfl rfl ?_
                refine ev_getR (y := 11) rfl rfl fl_X9_29 rfl rfl rfl rfl ?_
                refine ev_getW (l := (-2147483648)) (u := 2147483647) hJ0.1 rfl rfl rfl fl_X9_233 rfl rfl rfl (fun v73 b73 e73 => ?_)
                refine ev_V5P rfl rfl lk_X9_236 vt_X4_isFor rfl rfl rfl rfl rfl (w_X4_isFor_37 L true h hJ0.1 a0 a1 a2 a3 v73) (fun r74 q74 => ?_)
                refine ev_if_ne rfl rfl (fun c75 => ?_) (fun c75 => ?_)
                · have b76 : B r74 1 1 := R_neL q74 (by decide : B 0 0 0) c75 (by decide)
                  refine ev_aload_n rfl rfl rfl ?_
                  refine ev_getR (y := 37) rfl rfl fl_X9_50 rfl rfl rfl rfl ?_
                  refine ev_iload rfl rfl rfl ?_
                  refine ev_V1P rfl rfl lk_X9_252 vt_X4_answer rfl rfl rfl rfl rfl (w_X4_answer_37_v10_33 L true h hJ0.1 a4 b46) (fun r78 q78 => ?_)
                  exact ev_iret rfl rfl rfl ⟨⟨_, rfl, (B.any r78)⟩, rfl, hJ0⟩
                · have b77 : B r74 0 0 := R_eqX q74 (by decide : B 0 0 0) c75
                  refine ev_aload_n rfl rfl rfl ?_
                  refine ev_getR (y := 37) rfl rfl fl_X9_50 rfl rfl rfl rfl ?_
                  refine ev_aload_n rfl rfl rfl ?_
                  refine ev_getR (y := 28) rfl rfl fl_X9_43 rfl rfl rfl rfl ?_
                  refine ev_iload_n rfl rfl rfl ?_
                  refine ev_iload_n rfl rfl rfl ?_
                  refine ev_V3N hJ0 rfl rfl rfl lk_X9_240 vt_X4_takeTune rfl rfl rfl rfl rfl (w_X4_takeTune_37_28 L true h hJ0.1 a0 b45 a1) (fun h79 hJ79 k79  => ?_)
                  refine ev_aload_n rfl rfl rfl ?_
                  refine ev_getR (y := 37) rfl rfl fl_X9_50 rfl rfl rfl rfl ?_
                  refine ev_aload_n rfl rfl rfl ?_
                  refine ev_getR (y := 2) rfl rfl fl_X9_10 rfl rfl rfl rfl ?_
                  refine ev_aload_n rfl rfl rfl ?_
                  refine ev_getR (y := 4) rfl rfl fl_X9_22 rfl rfl rfl rfl ?_
                  refine ev_iload_n rfl rfl rfl ?_
                  refine ev_iload rfl rfl rfl ?_
                  refine ev_V4N hJ79 rfl rfl rfl lk_X9_244 vt_X4_solve rfl rfl rfl rfl rfl (w_X4_solve_t L h79 hJ79.1 a2 a3 b66) (fun h80 hJ80 k80  => ?_)
                  refine ev_aload_n rfl rfl rfl ?_
                  refine ev_getR (y := 37) rfl rfl fl_X9_50 rfl rfl rfl rfl ?_
                  refine ev_iload_n rfl rfl rfl ?_
                  refine ev_iload_n rfl rfl rfl ?_
                  refine ev_iload_n rfl rfl rfl ?_
                  refine ev_iload rfl rfl rfl ?_
                  refine ev_aload_n rfl rfl rfl ?_
                  refine ev_getR (y := 11) rfl rfl fl_X9_29 rfl rfl rfl rfl ?_
                  refine ev_getV (v := v73) rfl rfl fl_X9_233 rfl rfl rfl (rd_w k80 (rd_w k79 e73 rfl) rfl) ?_
                  refine ev_V5N hJ80 rfl rfl rfl lk_X9_248 vt_X4_remember rfl rfl rfl rfl rfl (w_X4_remember_37 L true h80 hJ80.1 a0 a1 a2 a3 v73) (fun h81 hJ81 k81  => ?_)
                  refine ev_aload_n rfl rfl rfl ?_
                  refine ev_getR (y := 37) rfl rfl fl_X9_50 rfl rfl rfl rfl ?_
                  refine ev_iload rfl rfl rfl ?_
                  refine ev_V1P rfl rfl lk_X9_252 vt_X4_answer rfl rfl rfl rfl rfl (w_X4_answer_37_v10_33 L true h81 hJ81.1 a4 b46) (fun r82 q82 => ?_)
                  exact ev_iret rfl rfl rfl ⟨⟨_, rfl, (B.any r82)⟩, rfl, hJ81⟩
              · have b72 : B r69 0 0 := R_eqX q69 (by decide : B 0 0 0) c70
                refine ev_bipush (v := (-2)) rfl rfl (by decide) ?_
                exact ev_iret rfl rfl rfl ⟨⟨_, rfl, ((by decide : B (-2) (-2) (-2)).mono (by decide) (by decide))⟩, rfl, hJ0⟩
            · have b67 : B r63 0 0 := R_eqX b63 (by decide : B 0 0 0) c64
              refine ev_iconst (v := (-1)) rfl rfl (by decide) ?_
              exact ev_iret rfl rfl rfl ⟨⟨_, rfl, ((by decide : B (-1) (-1) (-1)).mono (by decide) (by decide))⟩, rfl, hJ0⟩
    · have b47 : B r42 0 0 := R_eqX b42 (by decide : B 0 0 0) c43
      refine ev_aload_n rfl rfl rfl ?_
      refine ev_iload_n rfl rfl rfl ?_
      refine ev_iload rfl rfl rfl ?_
      refine ev_bipush (v := 40) rfl rfl (by decide) ?_
      refine ev_V3P rfl rfl lk_X9_210 vt_X9_isBeat rfl rfl rfl rfl rfl (w_X9_isBeat_1_l40 L true h hJ0.1 a0 a4) (fun r83 q83 => ?_)
      obtain ⟨b83, p83_0, p83_1⟩ := q83
      refine ev_if_eq rfl rfl (fun c84 => ?_) (fun c84 => ?_)
      · have b85 : B r83 0 0 := R_eqX b83 (by decide : B 0 0 0) c84
        refine ev_iconst (v := 0) rfl rfl (by decide) ?_
        refine ev_istore rfl rfl rfl rfl ?_
        dsimp only [List.set]
        refine ev_aload_n rfl rfl rfl ?_
        refine ev_getR (y := 28) rfl rfl fl_X9_43 rfl rfl rfl rfl ?_
        refine ev_iload_n rfl rfl rfl ?_
        refine ev_V1P rfl rfl lk_X9_195 vt_X7_has rfl rfl rfl rfl rfl (w_X7_has_28 L true h hJ0.1 a0) (fun r89 q89 => ?_)
        obtain ⟨b89, p89_0⟩ := q89
        refine ev_if_eq rfl rfl (fun c90 => ?_) (fun c90 => ?_)
        · have b91 : B r89 0 0 := R_eqX b89 (by decide : B 0 0 0) c90
          refine ev_iconst (v := (-1)) rfl rfl (by decide) ?_
          exact ev_iret rfl rfl rfl ⟨⟨_, rfl, ((by decide : B (-1) (-1) (-1)).mono (by decide) (by decide))⟩, rfl, hJ0⟩
        · have b92 : B r89 1 1 := R_neL b89 (by decide : B 0 0 0) c90 (by decide)
          have b93 : B a0 0 5 := p89_0 c90
          refine ev_iload_n rfl rfl rfl ?_
          refine ev_S1P rfl rfl lk_X9_227 st_X9_isKey rfl rfl (w_X9_isKey L true h hJ0.1 a1) (fun r94 q94 => ?_)
          obtain ⟨b94, p94_0⟩ := q94
          refine ev_if_eq rfl rfl (fun c95 => ?_) (fun c95 => ?_)
          · have b96 : B r94 0 0 := R_eqX b94 (by decide : B 0 0 0) c95
            refine ev_iconst (v := (-1)) rfl rfl (by decide) ?_
            exact ev_iret rfl rfl rfl ⟨⟨_, rfl, ((by decide : B (-1) (-1) (-1)).mono (by decide) (by decide))⟩, rfl, hJ0⟩
          · have b97 : B r94 1 1 := R_neL b94 (by decide : B 0 0 0) c95 (by decide)
            have b98 : B a1 (-11) 11 := p94_0 c95
            refine ev_iload rfl rfl rfl ?_
            refine ev_if_ne rfl rfl (fun c99 => absurd (D_eq (by decide : B 0 0 0) (by decide : B 0 0 0)) c99) (fun c99 => ?_)
            refine ev_iconst (v := (-1)) rfl rfl (by decide) ?_
            exact ev_iret rfl rfl rfl ⟨⟨_, rfl, ((by decide : B (-1) (-1) (-1)).mono (by decide) (by decide))⟩, rfl, hJ0⟩
      · have b86 : B r83 1 1 := R_neL b83 (by decide : B 0 0 0) c84 (by decide)
        have b87 : B a0 0 5 := p83_0 c84
        have b88 : B a4 40 63 := p83_1 c84
        refine ev_iconst (v := 1) rfl rfl (by decide) ?_
        refine ev_goto rfl rfl ?_
        refine ev_istore rfl rfl rfl rfl ?_
        dsimp only [List.set]
        refine ev_aload_n rfl rfl rfl ?_
        refine ev_getR (y := 28) rfl rfl fl_X9_43 rfl rfl rfl rfl ?_
        refine ev_iload_n rfl rfl rfl ?_
        refine ev_V1P rfl rfl lk_X9_195 vt_X7_has rfl rfl rfl rfl rfl (w_X7_has_28 L true h hJ0.1 a0) (fun r100 q100 => ?_)
        obtain ⟨b100, p100_0⟩ := q100
        refine ev_if_eq rfl rfl (fun c101 => ?_) (fun c101 => ?_)
        · have b102 : B r100 0 0 := R_eqX b100 (by decide : B 0 0 0) c101
          refine ev_iconst (v := (-1)) rfl rfl (by decide) ?_
          exact ev_iret rfl rfl rfl ⟨⟨_, rfl, ((by decide : B (-1) (-1) (-1)).mono (by decide) (by decide))⟩, rfl, hJ0⟩
        · have b103 : B r100 1 1 := R_neL b100 (by decide : B 0 0 0) c101 (by decide)
          refine ev_iload_n rfl rfl rfl ?_
          refine ev_S1P rfl rfl lk_X9_227 st_X9_isKey rfl rfl (w_X9_isKey L true h hJ0.1 a1) (fun r104 q104 => ?_)
          obtain ⟨b104, p104_0⟩ := q104
          refine ev_if_eq rfl rfl (fun c105 => ?_) (fun c105 => ?_)
          · have b106 : B r104 0 0 := R_eqX b104 (by decide : B 0 0 0) c105
            refine ev_iconst (v := (-1)) rfl rfl (by decide) ?_
            exact ev_iret rfl rfl rfl ⟨⟨_, rfl, ((by decide : B (-1) (-1) (-1)).mono (by decide) (by decide))⟩, rfl, hJ0⟩
          · have b107 : B r104 1 1 := R_neL b104 (by decide : B 0 0 0) c105 (by decide)
            have b108 : B a1 (-11) 11 := p104_0 c105
            refine ev_iload rfl rfl rfl ?_
            refine ev_if_ne rfl rfl (fun c109 => ?_) (fun c109 => absurd c109 (D_ne (by decide : B 1 1 1) (by decide : B 0 0 0) (by decide)))
            refine ev_iload_n rfl rfl rfl ?_
            refine ev_iconst (v := 0) rfl rfl (by decide) ?_
            refine ev_sipush (v := 400) rfl rfl (by decide) ?_
            refine ev_S3P rfl rfl lk_X9_75 st_X9_isWithin rfl rfl (w_isWithin (G0 L true) h a2 0 400 (by decide : B 0 0 0) (by decide : B 400 400 400)) (fun r110 q110 => ?_)
            obtain ⟨b110, p110_0⟩ := q110
            refine ev_if_eq rfl rfl (fun c111 => ?_) (fun c111 => ?_)
            · have b112 : B r110 0 0 := R_eqX b110 (by decide : B 0 0 0) c111
              refine ev_iconst (v := (-1)) rfl rfl (by decide) ?_
              exact ev_iret rfl rfl rfl ⟨⟨_, rfl, ((by decide : B (-1) (-1) (-1)).mono (by decide) (by decide))⟩, rfl, hJ0⟩
            · have b113 : B r110 1 1 := R_neL b110 (by decide : B 0 0 0) c111 (by decide)
              have b114 : B a2 0 400 := p110_0 c111
              refine ev_iload rfl rfl rfl ?_
              refine ev_iconst (v := 0) rfl rfl (by decide) ?_
              refine ev_bipush (v := 8) rfl rfl (by decide) ?_
              refine ev_S3P rfl rfl lk_X9_75 st_X9_isWithin rfl rfl (w_isWithin (G0 L true) h a3 0 8 (by decide : B 0 0 0) (by decide : B 8 8 8)) (fun r115 q115 => ?_)
              obtain ⟨b115, p115_0⟩ := q115
              refine ev_if_ne rfl rfl (fun c116 => ?_) (fun c116 => ?_)
              · have b117 : B r115 1 1 := R_neL b115 (by decide : B 0 0 0) c116 (by decide)
                have b118 : B a3 0 8 := p115_0 c116
                refine ev_aload_n rfl rfl rfl ?_
                refine ev_getR (y := 28) rfl rfl fl_X9_43 rfl rfl rfl rfl ?_
                refine ev_iload_n rfl rfl rfl ?_
                refine ev_iload_n rfl rfl rfl ?_
                refine ev_aload_n rfl rfl rfl ?_
                refine ev_getR (y := 4) rfl rfl fl_X9_22 rfl rfl rfl rfl ?_
                refine ev_getW (l := 0) (u := 12) hJ0.1 rfl rfl rfl fl_X9_158 rfl rfl rfl (fun v120 b120 e120 => ?_)
                refine ev_V3P rfl rfl lk_X9_230 vt_X7_goes rfl rfl rfl rfl rfl (w_X7_goes_28 L true h hJ0.1 a0 b87 a1 v120) (fun r121 q121 => ?_)
                refine ev_if_ne rfl rfl (fun c122 => ?_) (fun c122 => ?_)
                · have b123 : B r121 1 1 := R_neL q121 (by decide : B 0 0 0) c122 (by decide)
                  refine ev_aload_n rfl rfl rfl ?_
                  refine ev_getR (y := 37) rfl rfl fl_X9_50 rfl rfl rfl rfl ?_
                  refine ev_iload_n rfl rfl rfl ?_
                  refine ev_iload_n rfl rfl rfl ?_
                  refine ev_iload_n rfl rfl rfl ?_
                  refine ev_iload rfl rfl rfl ?_
                  refine ev_aload_n rfl rfl rfl ?_
                  refine ev_getR (y := 11) rfl rfl fl_X9_29 rfl rfl rfl rfl ?_
                  refine ev_getW (l := (-2147483648)) (u := 2147483647) hJ0.1 rfl rfl rfl fl_X9_233 rfl rfl rfl (fun v125 b125 e125 => ?_)
                  refine ev_V5P rfl rfl lk_X9_236 vt_X4_isFor rfl rfl rfl rfl rfl (w_X4_isFor_37 L true h hJ0.1 a0 a1 a2 a3 v125) (fun r126 q126 => ?_)
                  refine ev_if_ne rfl rfl (fun c127 => ?_) (fun c127 => ?_)
                  · have b128 : B r126 1 1 := R_neL q126 (by decide : B 0 0 0) c127 (by decide)
                    refine ev_aload_n rfl rfl rfl ?_
                    refine ev_getR (y := 37) rfl rfl fl_X9_50 rfl rfl rfl rfl ?_
                    refine ev_iload rfl rfl rfl ?_
                    refine ev_V1P rfl rfl lk_X9_252 vt_X4_answer rfl rfl rfl rfl rfl (w_X4_answer_37_v40_63 L true h hJ0.1 a4 b88) (fun r130 q130 => ?_)
                    exact ev_iret rfl rfl rfl ⟨⟨_, rfl, (B.any r130)⟩, rfl, hJ0⟩
                  · have b129 : B r126 0 0 := R_eqX q126 (by decide : B 0 0 0) c127
                    refine ev_aload_n rfl rfl rfl ?_
                    refine ev_getR (y := 37) rfl rfl fl_X9_50 rfl rfl rfl rfl ?_
                    refine ev_aload_n rfl rfl rfl ?_
                    refine ev_getR (y := 28) rfl rfl fl_X9_43 rfl rfl rfl rfl ?_
                    refine ev_iload_n rfl rfl rfl ?_
                    refine ev_iload_n rfl rfl rfl ?_
                    refine ev_V3N hJ0 rfl rfl rfl lk_X9_240 vt_X4_takeTune rfl rfl rfl rfl rfl (w_X4_takeTune_37_28 L true h hJ0.1 a0 b87 a1) (fun h131 hJ131 k131  => ?_)
                    refine ev_aload_n rfl rfl rfl ?_
                    refine ev_getR (y := 37) rfl rfl fl_X9_50 rfl rfl rfl rfl ?_
                    refine ev_aload_n rfl rfl rfl ?_
                    refine ev_getR (y := 2) rfl rfl fl_X9_10 rfl rfl rfl rfl ?_
                    refine ev_aload_n rfl rfl rfl ?_
                    refine ev_getR (y := 4) rfl rfl fl_X9_22 rfl rfl rfl rfl ?_
                    refine ev_iload_n rfl rfl rfl ?_
                    refine ev_iload rfl rfl rfl ?_
                    refine ev_V4N hJ131 rfl rfl rfl lk_X9_244 vt_X4_solve rfl rfl rfl rfl rfl (w_X4_solve_t L h131 hJ131.1 a2 a3 b118) (fun h132 hJ132 k132  => ?_)
                    refine ev_aload_n rfl rfl rfl ?_
                    refine ev_getR (y := 37) rfl rfl fl_X9_50 rfl rfl rfl rfl ?_
                    refine ev_iload_n rfl rfl rfl ?_
                    refine ev_iload_n rfl rfl rfl ?_
                    refine ev_iload_n rfl rfl rfl ?_
                    refine ev_iload rfl rfl rfl ?_
                    refine ev_aload_n rfl rfl rfl ?_
                    refine ev_getR (y := 11) rfl rfl fl_X9_29 rfl rfl rfl rfl ?_
                    refine ev_getV (v := v125) rfl rfl fl_X9_233 rfl rfl rfl (rd_w k132 (rd_w k131 e125 rfl) rfl) ?_
                    refine ev_V5N hJ132 rfl rfl rfl lk_X9_248 vt_X4_remember rfl rfl rfl rfl rfl (w_X4_remember_37 L true h132 hJ132.1 a0 a1 a2 a3 v125) (fun h133 hJ133 k133  => ?_)
                    refine ev_aload_n rfl rfl rfl ?_
                    refine ev_getR (y := 37) rfl rfl fl_X9_50 rfl rfl rfl rfl ?_
                    refine ev_iload rfl rfl rfl ?_
                    refine ev_V1P rfl rfl lk_X9_252 vt_X4_answer rfl rfl rfl rfl rfl (w_X4_answer_37_v40_63 L true h133 hJ133.1 a4 b88) (fun r134 q134 => ?_)
                    exact ev_iret rfl rfl rfl ⟨⟨_, rfl, (B.any r134)⟩, rfl, hJ133⟩
                · have b124 : B r121 0 0 := R_eqX q121 (by decide : B 0 0 0) c122
                  refine ev_bipush (v := (-2)) rfl rfl (by decide) ?_
                  exact ev_iret rfl rfl rfl ⟨⟨_, rfl, ((by decide : B (-2) (-2) (-2)).mono (by decide) (by decide))⟩, rfl, hJ0⟩
              · have b119 : B r115 0 0 := R_eqX b115 (by decide : B 0 0 0) c116
                refine ev_iconst (v := (-1)) rfl rfl (by decide) ?_
                exact ev_iret rfl rfl rfl ⟨⟨_, rfl, ((by decide : B (-1) (-1) (-1)).mono (by decide) (by decide))⟩, rfl, hJ0⟩

