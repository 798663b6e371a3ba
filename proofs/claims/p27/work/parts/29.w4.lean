set_option maxRecDepth 100000 in
set_option maxHeartbeats 4000000 in
theorem w_X4_takeTune_37_28 (L : Nat) (b : Bool) (h : Hp) (hB : Bx h) (a0 : Int32) (p0 : B a0 0 5) (a1 : Int32) : EvN mi_X4_takeTune [.ref 37, .ref 28, .int a0, .int a1] (G0 L b) h [(37, 3), (39, 999)] := by
  refine EvM.of2 (lo := [some (.ref 37), some (.ref 28), some (.int a0), some (.int a1), none]) pf_X4_takeTune ok_X4_takeTune rfl rfl ?_
  have hJ0 : JW [(37, 3), (39, 999)] h h := JW.refl hB
  refine ev_aload_n rfl rfl rfl ?_
  refine ev_aload_n rfl rfl rfl ?_
  refine ev_getR (y := 36) rfl rfl fl_X4_62 rfl rfl rfl rfl ?_
  refine ev_iload_n rfl rfl rfl ?_
  refine ev_ialW (n := 6) (l := 0) (u := 24) hJ0.1 p0 (by decide) (by decide) (fun _ => rfl) rfl rfl rfl (fun v1 b1 e1 => ?_)
  refine ev_putW (l := 0) (u := 24) hJ0 rfl b1 (by decide) (by decide) rfl rfl rfl fl_X4_21 rfl rfl rfl rfl rfl (fun h2 hJ2 k2 => ?_)
  refine ev_iconst (v := 0) rfl rfl (by decide) ?_
  refine ev_istore rfl rfl rfl rfl ?_
  dsimp only [List.set]
  have lp13_39 : ∀ (n : Nat) (w40 : Int32) (h42 : Hp), B w40 0 24 → JW [(37, 3), (39, 999)] h h42 → (h42 37 3 = v1) → 24 + 1 - w40.toInt ≤ (n : Int) → EvQ mi_X4_takeTune 13 [some (.ref 37), some (.ref 28), some (.int a0), some (.int a1), some (.int w40)] [] (G0 L b) h42 0 0 (QN [(37, 3), (39, 999)] (G0 L b) h) := by
    intro n
    induction n with
    | zero =>
      intro w40 h42 b41 hJ43 z44 hm13
      exact absurd hm13 (L_zero b41 (by decide))
    | succ n ih13 =>
      intro w40 h42 b41 hJ43 z44 hm13
      refine ev_iload rfl rfl rfl ?_
      refine ev_aload_n rfl rfl rfl ?_
      refine ev_getV (v := v1) rfl rfl fl_X4_21 rfl rfl rfl z44 ?_
      refine ev_icmp_ge rfl rfl (fun c45 => ?_) (fun c45 => ?_)
      · exact ev_vret rfl rfl trivial ⟨rfl, rfl, hJ43⟩
      · have b46 : B w40 0 23 := R_ltX b41 b1 (Int32.not_le.mp c45) (by decide)
        have b47 : B v1 1 24 := R_ltY b41 b1 (Int32.not_le.mp c45) (by decide)
        refine ev_aload_n rfl rfl rfl ?_
        refine ev_getR (y := 39) rfl rfl fl_X4_18 rfl rfl rfl rfl ?_
        refine ev_iload rfl rfl rfl ?_
        refine ev_aload_n rfl rfl rfl ?_
        refine ev_iload_n rfl rfl rfl ?_
        refine ev_iload rfl rfl rfl ?_
        refine ev_iload_n rfl rfl rfl ?_
        refine ev_V3P rfl rfl lk_X4_66 vt_X7_chordIn rfl rfl rfl rfl rfl (w_X7_chordIn_28 L b h42 hJ43.1 a0 p0 w40 b46 a1) (fun r48 q48 => ?_)
        refine ev_iasW (n := 24) (l := (-2147483648)) (u := 2147483647) hJ43 b46 (by decide) (by decide) (fun _ => rfl) (B.any r48) (by decide) (by decide) (fun _ => rfl) rfl rfl rfl rfl (fun h49 hJ49 k49 => ?_)
        refine ev_iincB (y := 1) (l := 1) (u := 24) rfl rfl rfl (by decide) rfl rfl b46 (by decide : B 1 1 1) (by decide) (by decide) (by decide) (by decide) (fun v50 b50 e50 => ?_)
        dsimp only [List.set]
        refine ev_goto rfl rfl ?_
        exact (ih13 v50 h49 (b50.mono (by decide) (by decide)) hJ49 (rd_a k49 z44 rfl) (L_up hm13 (e_p1 e50 (by decide))))
  exact (lp13_39 25 0 h2 ((by decide : B 0 0 0).mono (by decide) (by decide)) hJ2 (rd_s k2) (L_init (by decide : B 0 0 0) (by decide)))

set_option maxRecDepth 100000 in
set_option maxHeartbeats 4000000 in
theorem w_X4_isFor_37 (L : Nat) (b : Bool) (h : Hp) (hB : Bx h) (a0 : Int32) (a1 : Int32) (a2 : Int32) (a3 : Int32) (a4 : Int32) : EvP mi_X4_isFor [.ref 37, .int a0, .int a1, .int a2, .int a3, .int a4] (G0 L b) h (fun r : Int32 => B r 0 1) := by
  refine EvM.of2 (lo := [some (.ref 37), some (.int a0), some (.int a1), some (.int a2), some (.int a3), some (.int a4)]) pf_X4_isFor ok_X4_isFor rfl rfl ?_
  refine ev_aload_n rfl rfl rfl ?_
  refine ev_getW (l := (-2147483648)) (u := 2147483647) hB rfl rfl rfl fl_X4_58 rfl rfl rfl (fun v1 b1 e1 => ?_)
  refine ev_if_eq rfl rfl (fun c2 => ?_) (fun c2 => ?_)
  · have b3 : B v1 0 0 := R_eqX (B.any v1) (by decide : B 0 0 0) c2
    refine ev_iconst (v := 0) rfl rfl (by decide) ?_
    exact ev_iret rfl rfl rfl ⟨⟨_, rfl, ((by decide : B 0 0 0).mono (by decide) (by decide))⟩, rfl, rfl⟩
  · refine ev_aload_n rfl rfl rfl ?_
    refine ev_getR (y := 44) rfl rfl fl_X4_55 rfl rfl rfl rfl ?_
    refine ev_iconst (v := 0) rfl rfl (by decide) ?_
    refine ev_ialW (n := 5) (l := (-2147483648)) (u := 2147483647) hB (by decide : B 0 0 0) (by decide) (by decide) (fun _ => rfl) rfl rfl rfl (fun v4 b4 e4 => ?_)
    refine ev_iload_n rfl rfl rfl ?_
    refine ev_icmp_ne rfl rfl (fun c5 => ?_) (fun c5 => ?_)
    · refine ev_iconst (v := 0) rfl rfl (by decide) ?_
      exact ev_iret rfl rfl rfl ⟨⟨_, rfl, ((by decide : B 0 0 0).mono (by decide) (by decide))⟩, rfl, rfl⟩
    · refine ev_aload_n rfl rfl rfl ?_
      refine ev_getR (y := 44) rfl rfl fl_X4_55 rfl rfl rfl rfl ?_
      refine ev_iconst (v := 1) rfl rfl (by decide) ?_
      refine ev_ialW (n := 5) (l := (-2147483648)) (u := 2147483647) hB (by decide : B 1 1 1) (by decide) (by decide) (fun _ => rfl) rfl rfl rfl (fun v6 b6 e6 => ?_)
      refine ev_iload_n rfl rfl rfl ?_
      refine ev_icmp_ne rfl rfl (fun c7 => ?_) (fun c7 => ?_)
      · refine ev_iconst (v := 0) rfl rfl (by decide) ?_
        exact ev_iret rfl rfl rfl ⟨⟨_, rfl, ((by decide : B 0 0 0).mono (by decide) (by decide))⟩, rfl, rfl⟩
      · refine ev_aload_n rfl rfl rfl ?_
        refine ev_getR (y := 44) rfl rfl fl_X4_55 rfl rfl rfl rfl ?_
        refine ev_iconst (v := 2) rfl rfl (by decide) ?_
        refine ev_ialW (n := 5) (l := (-2147483648)) (u := 2147483647) hB (by decide : B 2 2 2) (by decide) (by decide) (fun _ => rfl) rfl rfl rfl (fun v8 b8 e8 => ?_)
        refine ev_iload_n rfl rfl rfl ?_
        refine ev_icmp_ne rfl rfl (fun c9 => ?_) (fun c9 => ?_)
        · refine ev_iconst (v := 0) rfl rfl (by decide) ?_
          exact ev_iret rfl rfl rfl ⟨⟨_, rfl, ((by decide : B 0 0 0).mono (by decide) (by decide))⟩, rfl, rfl⟩
        · refine ev_aload_n rfl rfl rfl ?_
          refine ev_getR (y := 44) rfl rfl fl_X4_55 rfl rfl rfl rfl ?_
          refine ev_iconst (v := 3) rfl rfl (by decide) ?_
          refine ev_ialW (n := 5) (l := (-2147483648)) (u := 2147483647) hB (by decide : B 3 3 3) (by decide) (by decide) (fun _ => rfl) rfl rfl rfl (fun v10 b10 e10 => ?_)
          refine ev_iload rfl rfl rfl ?_
          refine ev_icmp_ne rfl rfl (fun c11 => ?_) (fun c11 => ?_)
          · refine ev_iconst (v := 0) rfl rfl (by decide) ?_
            exact ev_iret rfl rfl rfl ⟨⟨_, rfl, ((by decide : B 0 0 0).mono (by decide) (by decide))⟩, rfl, rfl⟩
          · refine ev_aload_n rfl rfl rfl ?_
            refine ev_getR (y := 44) rfl rfl fl_X4_55 rfl rfl rfl rfl ?_
            refine ev_iconst (v := 4) rfl rfl (by decide) ?_
            refine ev_ialW (n := 5) (l := (-2147483648)) (u := 2147483647) hB (by decide : B 4 4 4) (by decide) (by decide) (fun _ => rfl) rfl rfl rfl (fun v12 b12 e12 => ?_)
            refine ev_iload rfl rfl rfl ?_
            refine ev_icmp_ne rfl rfl (fun c13 => ?_) (fun c13 => ?_)
            · refine ev_iconst (v := 0) rfl rfl (by decide) ?_
              exact ev_iret rfl rfl rfl ⟨⟨_, rfl, ((by decide : B 0 0 0).mono (by decide) (by decide))⟩, rfl, rfl⟩
            · refine ev_iconst (v := 1) rfl rfl (by decide) ?_
              refine ev_goto rfl rfl ?_
              exact ev_iret rfl rfl rfl ⟨⟨_, rfl, ((by decide : B 1 1 1).mono (by decide) (by decide))⟩, rfl, rfl⟩

set_option maxRecDepth 100000 in
set_option maxHeartbeats 4000000 in
theorem w_X4_remember_37 (L : Nat) (b : Bool) (h : Hp) (hB : Bx h) (a0 : Int32) (a1 : Int32) (a2 : Int32) (a3 : Int32) (a4 : Int32) : EvN mi_X4_remember [.ref 37, .int a0, .int a1, .int a2, .int a3, .int a4] (G0 L b) h [(37, 15), (44, 999)] := by
  refine EvM.of2 (lo := [some (.ref 37), some (.int a0), some (.int a1), some (.int a2), some (.int a3), some (.int a4)]) pf_X4_remember ok_X4_remember rfl rfl ?_
  have hJ0 : JW [(37, 15), (44, 999)] h h := JW.refl hB
  refine ev_aload_n rfl rfl rfl ?_
  refine ev_getR (y := 44) rfl rfl fl_X4_55 rfl rfl rfl rfl ?_
  refine ev_iconst (v := 0) rfl rfl (by decide) ?_
  refine ev_iload_n rfl rfl rfl ?_
  refine ev_iasW (n := 5) (l := (-2147483648)) (u := 2147483647) hJ0 (by decide : B 0 0 0) (by decide) (by decide) (fun _ => rfl) (B.any a0) (by decide) (by decide) (fun _ => rfl) rfl rfl rfl rfl (fun h1 hJ1 k1 => ?_)
  refine ev_aload_n rfl rfl rfl ?_
  refine ev_getR (y := 44) rfl rfl fl_X4_55 rfl rfl rfl rfl ?_
  refine ev_iconst (v := 1) rfl rfl (by decide) ?_
  refine ev_iload_n rfl rfl rfl ?_
  refine ev_iasW (n := 5) (l := (-2147483648)) (u := 2147483647) hJ1 (by decide : B 1 1 1) (by decide) (by decide) (fun _ => rfl) (B.any a1) (by decide) (by decide) (fun _ => rfl) rfl rfl rfl rfl (fun h2 hJ2 k2 => ?_)
  refine ev_aload_n rfl rfl rfl ?_
  refine ev_getR (y := 44) rfl rfl fl_X4_55 rfl rfl rfl rfl ?_
  refine ev_iconst (v := 2) rfl rfl (by decide) ?_
  refine ev_iload_n rfl rfl rfl ?_
  refine ev_iasW (n := 5) (l := (-2147483648)) (u := 2147483647) hJ2 (by decide : B 2 2 2) (by decide) (by decide) (fun _ => rfl) (B.any a2) (by decide) (by decide) (fun _ => rfl) rfl rfl rfl rfl (fun h3 hJ3 k3 => ?_)
  refine ev_aload_n rfl rfl rfl ?_
  refine ev_getR (y := 44) rfl rfl fl_X4_55 rfl rfl rfl rfl ?_
  refine ev_iconst (v := 3) rfl rfl (by decide) ?_
  refine ev_iload rfl rfl rfl ?_
  refine ev_iasW (n := 5) (l := (-2147483648)) (u := 2147483647) hJ3 (by decide : B 3 3 3) (by decide) (by decide) (fun _ => rfl) (B.any a3) (by decide) (by decide) (fun _ => rfl) rfl rfl rfl rfl (fun h4 hJ4 k4 => ?_)
  refine ev_aload_n rfl rfl rfl ?_
  refine ev_getR (y := 44) rfl rfl fl_X4_55 rfl rfl rfl rfl ?_
  refine ev_iconst (v := 4) rfl rfl (by decide) ?_
  refine ev_iload rfl rfl rfl ?_
  refine ev_iasW (n := 5) (l := (-2147483648)) (u := 2147483647) hJ4 (by decide : B 4 4 4) (by decide) (by decide) (fun _ => rfl) (B.any a4) (by decide) (by decide) (fun _ => rfl) rfl rfl rfl rfl (fun h5 hJ5 k5 => ?_)
  refine ev_aload_n rfl rfl rfl ?_
  refine ev_iconst (v := 1) rfl rfl (by decide) ?_
  refine ev_puzW (l := (-2147483648)) (u := 2147483647) hJ5 rfl ((by decide : B 1 1 1).mono (by decide) (by decide)) (by decide) (by decide) rfl rfl rfl fl_X4_58 rfl rfl rfl rfl rfl (fun h6 hJ6 k6 => ?_)
  exact ev_vret rfl rfl trivial ⟨rfl, rfl, hJ6⟩

set_option maxRecDepth 100000 in
set_option maxHeartbeats 4000000 in
theorem w_X4_markNear_37_4 (L : Nat) (b : Bool) (h : Hp) (hB : Bx h) (a0 : Int32) : EvN mi_X4_markNear [.ref 37, .ref 4, .int a0] (G0 L b) h [(38, 999)] := by
  refine EvM.of2 (lo := [some (.ref 37), some (.ref 4), some (.int a0), none, none]) pf_X4_markNear ok_X4_markNear rfl rfl ?_
  have hJ0 : JW [(38, 999)] h h := JW.refl hB
  refine ev_iconst (v := 0) rfl rfl (by decide) ?_
  refine ev_istore_n rfl rfl rfl rfl ?_
  dsimp only [List.set]
  have lp2_474 : ∀ (n : Nat) (w475 : Int32) (h477 : Hp), B w475 0 201 → JW [(38, 999)] h h477 → 201 + 1 - w475.toInt ≤ (n : Int) → EvQ mi_X4_markNear 2 [some (.ref 37), some (.ref 4), some (.int a0), some (.int w475), none] [] (G0 L b) h477 0 0 (QN [(38, 999)] (G0 L b) h) := by
    intro n
    induction n with
    | zero =>
      intro w475 h477 b476 hJ478 hm2
      exact absurd hm2 (L_zero b476 (by decide))
    | succ n ih2 =>
      intro w475 h477 b476 hJ478 hm2
      refine ev_iload_n rfl rfl rfl ?_
      refine ev_sipush (v := 201) rfl rfl (by decide) ?_
      refine ev_icmp_ge rfl rfl (fun c479 => ?_) (fun c479 => ?_)
      · have b480 : B w475 201 201 := R_leY (by decide : B 201 201 201) b476 c479 (by decide)
        exact ev_vret rfl rfl trivial ⟨rfl, rfl, hJ478⟩
      · have b481 : B w475 0 200 := R_ltX b476 (by decide : B 201 201 201) (Int32.not_le.mp c479) (by decide)
        refine ev_aload_n rfl rfl rfl ?_
        refine ev_getR (y := 38) rfl rfl fl_X4_15 rfl rfl rfl rfl ?_
        refine ev_iload_n rfl rfl rfl ?_
        refine ev_iconst (v := 0) rfl rfl (by decide) ?_
        refine ev_iasW (n := 201) (l := (-2147483648)) (u := 2147483647) hJ478 b481 (by decide) (by decide) (fun _ => rfl) (by decide : B 0 0 0) (by decide) (by decide) (fun _ => rfl) rfl rfl rfl rfl (fun h482 hJ482 k482 => ?_)
        refine ev_iconst (v := 0) rfl rfl (by decide) ?_
        refine ev_istore rfl rfl rfl rfl ?_
        dsimp only [List.set]
        have lp19_573 : ∀ (n : Nat) (w574 : Int32) (h576 : Hp), B w574 0 12 → JW [(38, 999)] h h576 → 12 + 1 - w574.toInt ≤ (n : Int) → EvQ mi_X4_markNear 19 [some (.ref 37), some (.ref 4), some (.int a0), some (.int w475), some (.int w574)] [] (G0 L b) h576 0 0 (QN [(38, 999)] (G0 L b) h) := by
          intro n
          induction n with
          | zero =>
            intro w574 h576 b575 hJ577 hm19
            exact absurd hm19 (L_zero b575 (by decide))
          | succ n ih19 =>
            intro w574 h576 b575 hJ577 hm19
            refine ev_iload rfl rfl rfl ?_
            refine ev_aload_n rfl rfl rfl ?_
            refine ev_getW (l := 0) (u := 12) hJ577.1 rfl rfl rfl fl_X4_107 rfl rfl rfl (fun v578 b578 e578 => ?_)
            refine ev_icmp_ge rfl rfl (fun c579 => ?_) (fun c579 => ?_)
            · refine ev_iincB (y := 1) (l := 1) (u := 201) rfl rfl rfl (by decide) rfl rfl b481 (by decide : B 1 1 1) (by decide) (by decide) (by decide) (by decide) (fun v582 b582 e582 => ?_)
              dsimp only [List.set]
              refine ev_goto rfl rfl ?_
              exact (EvQ.drop 4 (ih2 v582 h576 (b582.mono (by decide) (by decide)) hJ577 (L_up hm2 (e_p1 e582 (by decide)))))
            · have b580 : B w574 0 11 := R_ltX b575 b578 (Int32.not_le.mp c579) (by decide)
              have b581 : B v578 1 12 := R_ltY b575 b578 (Int32.not_le.mp c579) (by decide)
              refine ev_aload_n rfl rfl rfl ?_
              refine ev_getR (y := 38) rfl rfl fl_X4_15 rfl rfl rfl rfl ?_
              refine ev_iload_n rfl rfl rfl ?_
              refine ev_dup2 rfl rfl rfl rfl ?_
              refine ev_ialW (n := 201) (l := (-2147483648)) (u := 2147483647) hJ577.1 b481 (by decide) (by decide) (fun _ => rfl) rfl rfl rfl (fun v583 b583 e583 => ?_)
              refine ev_aload_n rfl rfl rfl ?_
              refine ev_iload rfl rfl rfl ?_
              refine ev_iload_n rfl rfl rfl ?_
              refine ev_iload_n rfl rfl rfl ?_
              refine ev_V3P rfl rfl lk_X4_110 vt_X8_isNear rfl rfl rfl rfl rfl (w_X8_isNear_4 L b h576 hJ577.1 w574 b580 w475 a0) (fun r584 q584 => ?_)
              refine ev_if_eq rfl rfl (fun c585 => ?_) (fun c585 => ?_)
              · have b586 : B r584 0 0 := R_eqX q584 (by decide : B 0 0 0) c585
                refine ev_iconst (v := 0) rfl rfl (by decide) ?_
                refine ev_iorA rfl rfl (fun v588 => ?_)
                refine ev_iasW (n := 201) (l := (-2147483648)) (u := 2147483647) hJ577 b481 (by decide) (by decide) (fun _ => rfl) (B.any v588) (by decide) (by decide) (fun _ => rfl) rfl rfl rfl rfl (fun h589 hJ589 k589 => ?_)
                refine ev_iincB (y := 1) (l := 1) (u := 12) rfl rfl rfl (by decide) rfl rfl b580 (by decide : B 1 1 1) (by decide) (by decide) (by decide) (by decide) (fun v590 b590 e590 => ?_)
                dsimp only [List.set]
                refine ev_goto rfl rfl ?_
                exact (ih19 v590 h589 (b590.mono (by decide) (by decide)) hJ589 (L_up hm19 (e_p1 e590 (by decide))))
              · have b587 : B r584 1 1 := R_neL q584 (by decide : B 0 0 0) c585 (by decide)
                refine ev_iconst (v := 1) rfl rfl (by decide) ?_
                refine ev_iload rfl rfl rfl ?_
                refine ev_ishlB rfl rfl b580 (by decide) (by decide) (fun v591 b591 => ?_)
                refine ev_goto rfl rfl ?_
                refine ev_iorA rfl rfl (fun v592 => ?_)
                refine ev_iasW (n := 201) (l := (-2147483648)) (u := 2147483647) hJ577 b481 (by decide) (by decide) (fun _ => rfl) (B.any v592) (by decide) (by decide) (fun _ => rfl) rfl rfl rfl rfl (fun h593 hJ593 k593 => ?_)
                refine ev_iincB (y := 1) (l := 1) (u := 12) rfl rfl rfl (by decide) rfl rfl b580 (by decide : B 1 1 1) (by decide) (by decide) (by decide) (by decide) (fun v594 b594 e594 => ?_)
                dsimp only [List.set]
                refine ev_goto rfl rfl ?_
                exact (ih19 v594 h593 (b594.mono (by decide) (by decide)) hJ593 (L_up hm19 (e_p1 e594 (by decide))))
        exact (lp19_573 13 0 h482 ((by decide : B 0 0 0).mono (by decide) (by decide)) hJ482 (L_init (by decide : B 0 0 0) (by decide)))
  exact (lp2_474 202 0 h ((by decide : B 0 0 0).mono (by decide) (by decide)) hJ0 (L_init (by decide : B 0 0 0) (by decide)))

set_option maxRecDepth 100000 in
set_option maxHeartbeats 4000000 in
theorem w_X4_listOptions_37_4 (L : Nat) (b : Bool) (h : Hp) (hB : Bx h) (a0 : Int32) : EvK mi_X4_listOptions [.ref 37, .ref 4, .int a0] (G0 L b) h (fun z : Hp => B (z 37 7) 1 32) [(37, 7), (40, 999), (41, 999)] := by
  refine EvM.of2 (lo := [some (.ref 37), some (.ref 4), some (.int a0), none, none]) pf_X4_listOptions ok_X4_listOptions rfl rfl ?_
  have hJ0 : JW [(37, 7), (40, 999), (41, 999)] h h := JW.refl hB
  refine ev_aload_n rfl rfl rfl ?_
  refine ev_iconst (v := 0) rfl rfl (by decide) ?_
  refine ev_putW (l := 0) (u := 32) hJ0 rfl (by decide : B 0 0 0) (by decide) (by decide) rfl rfl rfl fl_X4_34 rfl rfl rfl rfl rfl (fun h1 hJ1 k1 => ?_)
  refine ev_iload_n rfl rfl rfl ?_
  refine ev_istore_n rfl rfl rfl rfl ?_
  dsimp only [List.set]
  refine ev_iconst (v := 0) rfl rfl (by decide) ?_
  refine ev_istore rfl rfl rfl rfl ?_
  dsimp only [List.set]
  refine ev_aload_n rfl rfl rfl ?_
  refine ev_getV (v := 0) rfl rfl fl_X4_34 rfl rfl rfl (rd_s k1) ?_
  refine ev_bipush (v := 32) rfl rfl (by decide) ?_
  refine ev_icmp_ge rfl rfl (fun c2 => absurd c2 (D_nle (by decide : B 32 32 32) (by decide : B 0 0 0) (by decide))) (fun c2 => ?_)
  refine ev_iload rfl rfl rfl ?_
  refine ev_if_ne rfl rfl (fun c3 => absurd (D_eq (by decide : B 0 0 0) (by decide : B 0 0 0)) c3) (fun c3 => ?_)
  refine ev_aload_n rfl rfl rfl ?_
  refine ev_getR (y := 40) rfl rfl fl_X4_28 rfl rfl rfl rfl ?_
  refine ev_aload_n rfl rfl rfl ?_
  refine ev_getV (v := 0) rfl rfl fl_X4_34 rfl rfl rfl (rd_s k1) ?_
  refine ev_iload_n rfl rfl rfl ?_
  refine ev_iasW (n := 32) (l := (-2147483648)) (u := 2147483647) hJ1 (by decide : B 0 0 0) (by decide) (by decide) (fun _ => rfl) (B.any a0) (by decide) (by decide) (fun _ => rfl) rfl rfl rfl rfl (fun h4 hJ4 k4 => ?_)
  refine ev_aload_n rfl rfl rfl ?_
  refine ev_getR (y := 41) rfl rfl fl_X4_31 rfl rfl rfl rfl ?_
  refine ev_aload_n rfl rfl rfl ?_
  refine ev_getV (v := 0) rfl rfl fl_X4_34 rfl rfl rfl (rd_a k4 (rd_s k1) rfl) ?_
  refine ev_aload_n rfl rfl rfl ?_
  refine ev_iload_n rfl rfl rfl ?_
  refine ev_aload_n rfl rfl rfl ?_
  refine ev_getW (l := (-2147483648)) (u := 2147483647) hJ4.1 rfl rfl rfl fl_X4_71 rfl rfl rfl (fun v5 b5 e5 => ?_)
  refine ev_V2P rfl rfl lk_X4_76 vt_X8_drawnBy rfl rfl rfl rfl rfl (w_X8_drawnBy_4 L b h4 hJ4.1 a0 v5) (fun r6 q6 => ?_)
  refine ev_iasW (n := 32) (l := (-2147483648)) (u := 2147483647) hJ4 (by decide : B 0 0 0) (by decide) (by decide) (fun _ => rfl) (B.any r6) (by decide) (by decide) (fun _ => rfl) rfl rfl rfl rfl (fun h7 hJ7 k7 => ?_)
  refine ev_aload_n rfl rfl rfl ?_
  refine ev_dup rfl rfl rfl ?_
  refine ev_getV (v := 0) rfl rfl fl_X4_34 rfl rfl rfl (rd_a k7 (rd_a k4 (rd_s k1) rfl) rfl) ?_
  refine ev_iconst (v := 1) rfl rfl (by decide) ?_
  refine ev_iaddB (l := 1) (u := 1) rfl rfl (by decide : B 0 0 0) (by decide : B 1 1 1) (by decide) (by decide) (by decide) (by decide) (fun v8 b8 e8 g8 => ?_)
  refine ev_putW (l := 0) (u := 32) hJ7 rfl b8 (by decide) (by decide) rfl rfl rfl fl_X4_34 rfl rfl rfl rfl rfl (fun h9 hJ9 k9 => ?_)
  refine ev_iload_n rfl rfl rfl ?_
  refine ev_if_ne rfl rfl (fun c10 => ?_) (fun c10 => ?_)
  · refine ev_iconst (v := 0) rfl rfl (by decide) ?_
    refine ev_istore rfl rfl rfl rfl ?_
    dsimp only [List.set]
    refine ev_iload_n rfl rfl rfl ?_
    refine ev_iconst (v := 1) rfl rfl (by decide) ?_
    refine ev_isubA rfl rfl (fun v12 g12 => ?_)
    refine ev_iload_n rfl rfl rfl ?_
    refine ev_iandA rfl rfl (fun v13 => ?_)
    refine ev_istore_n rfl rfl rfl rfl ?_
    dsimp only [List.set]
    refine ev_goto rfl rfl ?_
    have lp10_113 : ∀ (n : Nat) (w114 : Int32) (w115 : Int32) (h117 : Hp), B w115 0 1 → JW [(37, 7), (40, 999), (41, 999)] h h117 → (h117 4 6 = v5) → (B (h117 37 7) 1 32) → 32 + 1 - (h117 37 7).toInt ≤ (n : Int) → EvQ mi_X4_listOptions 10 [some (.ref 37), some (.ref 4), some (.int a0), some (.int w114), some (.int w115)] [] (G0 L b) h117 0 0 (QK (fun z : Hp => B (z 37 7) 1 32) [(37, 7), (40, 999), (41, 999)] (G0 L b) h) := by
      intro n
      induction n with
      | zero =>
        intro w114 w115 h117 b116 hJ118 z119 x10_f hm10
        obtain ⟨f120, ef120⟩ : ∃ f_, h117 37 7 = f_ := ⟨_, rfl⟩
        have bf120 : B f120 1 32 := by
          have z_ := x10_f
          rw [ef120] at z_
          exact z_
        rw [ef120] at hm10
        exact absurd hm10 (L_zero bf120 (by decide))
      | succ n ih10 =>
        intro w114 w115 h117 b116 hJ118 z119 x10_f hm10
        obtain ⟨f120, ef120⟩ : ∃ f_, h117 37 7 = f_ := ⟨_, rfl⟩
        have bf120 : B f120 1 32 := by
          have z_ := x10_f
          rw [ef120] at z_
          exact z_
        rw [ef120] at hm10
        refine ev_aload_n rfl rfl rfl ?_
        refine ev_getV (v := f120) rfl rfl fl_X4_34 rfl rfl rfl ef120 ?_
        refine ev_bipush (v := 32) rfl rfl (by decide) ?_
        refine ev_icmp_ge rfl rfl (fun c121 => ?_) (fun c121 => ?_)
        · have b122 : B f120 32 32 := R_leY (by decide : B 32 32 32) bf120 c121 (by decide)
          exact ev_vret rfl rfl trivial ⟨rfl, rfl, hJ118, B.at ef120 (b122.mono (by decide) (by decide))⟩
        · have b123 : B f120 1 31 := R_ltX bf120 (by decide : B 32 32 32) (Int32.not_le.mp c121) (by decide)
          refine ev_iload rfl rfl rfl ?_
          refine ev_if_ne rfl rfl (fun c124 => ?_) (fun c124 => ?_)
          · have b125 : B w115 1 1 := R_neL b116 (by decide : B 0 0 0) c124 (by decide)
            exact ev_vret rfl rfl trivial ⟨rfl, rfl, hJ118, B.at ef120 (b123.mono (by decide) (by decide))⟩
          · have b126 : B w115 0 0 := R_eqX b116 (by decide : B 0 0 0) c124
            refine ev_aload_n rfl rfl rfl ?_
            refine ev_getR (y := 40) rfl rfl fl_X4_28 rfl rfl rfl rfl ?_
            refine ev_aload_n rfl rfl rfl ?_
            refine ev_getV (v := f120) rfl rfl fl_X4_34 rfl rfl rfl ef120 ?_
            refine ev_iload_n rfl rfl rfl ?_
            refine ev_iasW (n := 32) (l := (-2147483648)) (u := 2147483647) hJ118 b123 (by decide) (by decide) (fun _ => rfl) (B.any w114) (by decide) (by decide) (fun _ => rfl) rfl rfl rfl rfl (fun h127 hJ127 k127 => ?_)
            refine ev_aload_n rfl rfl rfl ?_
            refine ev_getR (y := 41) rfl rfl fl_X4_31 rfl rfl rfl rfl ?_
            refine ev_aload_n rfl rfl rfl ?_
            refine ev_getV (v := f120) rfl rfl fl_X4_34 rfl rfl rfl (rd_a k127 ef120 rfl) ?_
            refine ev_aload_n rfl rfl rfl ?_
            refine ev_iload_n rfl rfl rfl ?_
            refine ev_aload_n rfl rfl rfl ?_
            refine ev_getV (v := v5) rfl rfl fl_X4_71 rfl rfl rfl (rd_a k127 z119 rfl) ?_
            refine ev_V2P rfl rfl lk_X4_76 vt_X8_drawnBy rfl rfl rfl rfl rfl (w_X8_drawnBy_4 L b h127 hJ127.1 w114 v5) (fun r128 q128 => ?_)
            refine ev_iasW (n := 32) (l := (-2147483648)) (u := 2147483647) hJ127 b123 (by decide) (by decide) (fun _ => rfl) (B.any r128) (by decide) (by decide) (fun _ => rfl) rfl rfl rfl rfl (fun h129 hJ129 k129 => ?_)
            refine ev_aload_n rfl rfl rfl ?_
            refine ev_dup rfl rfl rfl ?_
            refine ev_getV (v := f120) rfl rfl fl_X4_34 rfl rfl rfl (rd_a k129 (rd_a k127 ef120 rfl) rfl) ?_
            refine ev_iconst (v := 1) rfl rfl (by decide) ?_
            refine ev_iaddB (l := 2) (u := 32) rfl rfl b123 (by decide : B 1 1 1) (by decide) (by decide) (by decide) (by decide) (fun v130 b130 e130 g130 => ?_)
            refine ev_putW (l := 0) (u := 32) hJ129 rfl b130 (by decide) (by decide) rfl rfl rfl fl_X4_34 rfl rfl rfl rfl rfl (fun h131 hJ131 k131 => ?_)
            refine ev_iload_n rfl rfl rfl ?_
            refine ev_if_ne rfl rfl (fun c132 => ?_) (fun c132 => ?_)
            · refine ev_iconst (v := 0) rfl rfl (by decide) ?_
              refine ev_istore rfl rfl rfl rfl ?_
              dsimp only [List.set]
              refine ev_iload_n rfl rfl rfl ?_
              refine ev_iconst (v := 1) rfl rfl (by decide) ?_
              refine ev_isubA rfl rfl (fun v134 g134 => ?_)
              refine ev_iload_n rfl rfl rfl ?_
              refine ev_iandA rfl rfl (fun v135 => ?_)
              refine ev_istore_n rfl rfl rfl rfl ?_
              dsimp only [List.set]
              refine ev_goto rfl rfl ?_
              exact (ih10 v135 0 h131 ((by decide : B 0 0 0).mono (by decide) (by decide)) hJ131 (rd_o k131 (rd_a k129 (rd_a k127 z119 rfl) rfl) rfl) (B.at (rd_s k131) (b130.mono (by decide) (by decide))) (by rw [(rd_s k131)]; exact L_up hm10 (e_p1 e130 (by decide))))
            · have b133 : B w114 0 0 := R_eqX (B.any w114) (by decide : B 0 0 0) c132
              refine ev_iconst (v := 1) rfl rfl (by decide) ?_
              refine ev_goto rfl rfl ?_
              refine ev_istore rfl rfl rfl rfl ?_
              dsimp only [List.set]
              refine ev_iload_n rfl rfl rfl ?_
              refine ev_iconst (v := 1) rfl rfl (by decide) ?_
              refine ev_isubB (l := -1) (u := -1) rfl rfl b133 (by decide : B 1 1 1) (by decide) (by decide) (by decide) (by decide) (fun v136 b136 e136 g136 => ?_)
              refine ev_iload_n rfl rfl rfl ?_
              refine ev_iandA rfl rfl (fun v137 => ?_)
              refine ev_istore_n rfl rfl rfl rfl ?_
              dsimp only [List.set]
              refine ev_goto rfl rfl ?_
              exact (ih10 v137 1 h131 ((by decide : B 1 1 1).mono (by decide) (by decide)) hJ131 (rd_o k131 (rd_a k129 (rd_a k127 z119 rfl) rfl) rfl) (B.at (rd_s k131) (b130.mono (by decide) (by decide))) (by rw [(rd_s k131)]; exact L_up hm10 (e_p1 e130 (by decide))))
    exact (lp10_113 32 v13 0 h9 ((by decide : B 0 0 0).mono (by decide) (by decide)) hJ9 (rd_o k9 (rd_a k7 e5 rfl) rfl) (B.at (rd_s k9) (b8.mono (by decide) (by decide))) (by rw [(rd_s k9)]; exact L_init b8 (by decide)))
  · have b11 : B a0 0 0 := R_eqX (B.any a0) (by decide : B 0 0 0) c10
    refine ev_iconst (v := 1) rfl rfl (by decide) ?_
    refine ev_goto rfl rfl ?_
    refine ev_istore rfl rfl rfl rfl ?_
    dsimp only [List.set]
    refine ev_iload_n rfl rfl rfl ?_
    refine ev_iconst (v := 1) rfl rfl (by decide) ?_
    refine ev_isubB (l := -1) (u := -1) rfl rfl b11 (by decide : B 1 1 1) (by decide) (by decide) (by decide) (by decide) (fun v138 b138 e138 g138 => ?_)
    refine ev_iload_n rfl rfl rfl ?_
    refine ev_iandB rfl rfl b11 (by decide) (fun v139 b139 e139 => ?_)
    refine ev_istore_n rfl rfl rfl rfl ?_
    dsimp only [List.set]
    refine ev_goto rfl rfl ?_
    have lp10_161 : ∀ (n : Nat) (w162 : Int32) (w163 : Int32) (h166 : Hp), B w162 0 0 → B w163 1 1 → JW [(37, 7), (40, 999), (41, 999)] h h166 → (h166 4 6 = v5) → (B (h166 37 7) 1 32) → 32 + 1 - (h166 37 7).toInt ≤ (n : Int) → EvQ mi_X4_listOptions 10 [some (.ref 37), some (.ref 4), some (.int a0), some (.int w162), some (.int w163)] [] (G0 L b) h166 0 0 (QK (fun z : Hp => B (z 37 7) 1 32) [(37, 7), (40, 999), (41, 999)] (G0 L b) h) := by
      intro n
      induction n with
      | zero =>
        intro w162 w163 h166 b164 b165 hJ167 z168 x10_f hm10
        obtain ⟨f169, ef169⟩ : ∃ f_, h166 37 7 = f_ := ⟨_, rfl⟩
        have bf169 : B f169 1 32 := by
          have z_ := x10_f
          rw [ef169] at z_
          exact z_
        rw [ef169] at hm10
        exact absurd hm10 (L_zero bf169 (by decide))
      | succ n ih10 =>
        intro w162 w163 h166 b164 b165 hJ167 z168 x10_f hm10
        obtain ⟨f169, ef169⟩ : ∃ f_, h166 37 7 = f_ := ⟨_, rfl⟩
        have bf169 : B f169 1 32 := by
          have z_ := x10_f
          rw [ef169] at z_
          exact z_
        rw [ef169] at hm10
        refine ev_aload_n rfl rfl rfl ?_
        refine ev_getV (v := f169) rfl rfl fl_X4_34 rfl rfl rfl ef169 ?_
        refine ev_bipush (v := 32) rfl rfl (by decide) ?_
        refine ev_icmp_ge rfl rfl (fun c170 => ?_) (fun c170 => ?_)
        · have b171 : B f169 32 32 := R_leY (by decide : B 32 32 32) bf169 c170 (by decide)
          exact ev_vret rfl rfl trivial ⟨rfl, rfl, hJ167, B.at ef169 (b171.mono (by decide) (by decide))⟩
        · have b172 : B f169 1 31 := R_ltX bf169 (by decide : B 32 32 32) (Int32.not_le.mp c170) (by decide)
          refine ev_iload rfl rfl rfl ?_
          refine ev_if_ne rfl rfl (fun c173 => ?_) (fun c173 => absurd c173 (D_ne b165 (by decide : B 0 0 0) (by decide)))
          exact ev_vret rfl rfl trivial ⟨rfl, rfl, hJ167, B.at ef169 (b172.mono (by decide) (by decide))⟩
    exact (lp10_161 32 v139 1 h9 b139 (by decide : B 1 1 1) hJ9 (rd_o k9 (rd_a k7 e5 rfl) rfl) (B.at (rd_s k9) (b8.mono (by decide) (by decide))) (by rw [(rd_s k9)]; exact L_init b8 (by decide)))

set_option maxRecDepth 100000 in
set_option maxHeartbeats 4000000 in
theorem w_X4_isOpen_37 (L : Nat) (b : Bool) (h : Hp) (hB : Bx h) (a0 : Int32) (p0 : B a0 0 31) (a1 : Int32) (p1 : B a1 0 200) : EvP mi_X4_isOpen [.ref 37, .int a0, .int a1] (G0 L b) h (fun r : Int32 => B r 0 1) := by
  refine EvM.of2 (lo := [some (.ref 37), some (.int a0), some (.int a1)]) pf_X4_isOpen ok_X4_isOpen rfl rfl ?_
  refine ev_aload_n rfl rfl rfl ?_
  refine ev_getR (y := 40) rfl rfl fl_X4_28 rfl rfl rfl rfl ?_
  refine ev_iload_n rfl rfl rfl ?_
  refine ev_ialW (n := 32) (l := (-2147483648)) (u := 2147483647) hB p0 (by decide) (by decide) (fun _ => rfl) rfl rfl rfl (fun v1 b1 e1 => ?_)
  refine ev_aload_n rfl rfl rfl ?_
  refine ev_getR (y := 38) rfl rfl fl_X4_15 rfl rfl rfl rfl ?_
  refine ev_iload_n rfl rfl rfl ?_
  refine ev_ialW (n := 201) (l := (-2147483648)) (u := 2147483647) hB p1 (by decide) (by decide) (fun _ => rfl) rfl rfl rfl (fun v2 b2 e2 => ?_)
  refine ev_iconst (v := (-1)) rfl rfl (by decide) ?_
  refine ev_ixorA rfl rfl (fun v3 => ?_)
  refine ev_iandA rfl rfl (fun v4 => ?_)
  refine ev_if_ne rfl rfl (fun c5 => ?_) (fun c5 => ?_)
  · refine ev_iconst (v := 0) rfl rfl (by decide) ?_
    exact ev_iret rfl rfl rfl ⟨⟨_, rfl, ((by decide : B 0 0 0).mono (by decide) (by decide))⟩, rfl, rfl⟩
  · have b6 : B v4 0 0 := R_eqX (B.any v4) (by decide : B 0 0 0) c5
    refine ev_iconst (v := 1) rfl rfl (by decide) ?_
    refine ev_goto rfl rfl ?_
    exact ev_iret rfl rfl rfl ⟨⟨_, rfl, ((by decide : B 1 1 1).mono (by decide) (by decide))⟩, rfl, rfl⟩

set_option maxRecDepth 100000 in
set_option maxHeartbeats 4000000 in
theorem w_X4_raise_37 (L : Nat) (h : Hp) (hB : Bx h) (a0 : Int32) (p0 : B a0 0 45216) (a1 : Int32) (p1 : B a1 0 45216) (a2 : Int32) : EvN mi_X4_raise [.ref 37, .int a0, .int a1, .int a2] (G0 L true) h [(95, 999)] := by
  refine EvM.of2 (lo := [some (.ref 37), some (.int a0), some (.int a1), some (.int a2), none, none]) pf_X4_raise ok_X4_raise rfl rfl ?_
  have hJ0 : JW [(95, 999)] h h := JW.refl hB
  refine ev_iconst (v := 0) rfl rfl (by decide) ?_
  refine ev_istore rfl rfl rfl rfl ?_
  dsimp only [List.set]
  have lp3_81 : ∀ (n : Nat) (w82 : Int32) (h84 : Hp), B w82 0 9 → JW [(95, 999)] h h84 → 9 + 1 - w82.toInt ≤ (n : Int) → EvQ mi_X4_raise 3 [some (.ref 37), some (.int a0), some (.int a1), some (.int a2), some (.int w82), none] [] (G0 L true) h84 0 0 (QN [(95, 999)] (G0 L true) h) := by
    intro n
    induction n with
    | zero =>
      intro w82 h84 b83 hJ85 hm3
      exact absurd hm3 (L_zero b83 (by decide))
    | succ n ih3 =>
      intro w82 h84 b83 hJ85 hm3
      refine ev_iload rfl rfl rfl ?_
      refine ev_aload_n rfl rfl rfl ?_
      refine ev_getW (l := 0) (u := 9) hJ85.1 rfl rfl rfl fl_X4_25 rfl rfl rfl (fun v86 b86 e86 => ?_)
      refine ev_icmp_ge rfl rfl (fun c87 => ?_) (fun c87 => ?_)
      · exact ev_vret rfl rfl trivial ⟨rfl, rfl, hJ85⟩
      · have b88 : B w82 0 8 := R_ltX b83 b86 (Int32.not_le.mp c87) (by decide)
        have b89 : B v86 1 9 := R_ltY b83 b86 (Int32.not_le.mp c87) (by decide)
        refine ev_iload_n rfl rfl rfl ?_
        refine ev_aload_n rfl rfl rfl ?_
        refine ev_getR (y := 95) rfl rfl fl_X4_9 rfl rfl rfl rfl ?_
        refine ev_iload_n rfl rfl rfl ?_
        refine ev_iload rfl rfl rfl ?_
        refine ev_iaddB (l := 0) (u := 45224) rfl rfl p1 b88 (by decide) (by decide) (by decide) (by decide) (fun v90 b90 e90 g90 => ?_)
        refine ev_ialW (n := 45225) (l := (-2147483648)) (u := 2147483647) hJ85.1 b90 (by decide) (by decide) (fun _ => rfl) rfl rfl rfl (fun v91 b91 e91 => ?_)
        refine ev_iaddA rfl rfl (fun v92 g92 => ?_)
        refine ev_istore rfl rfl rfl rfl ?_
        dsimp only [List.set]
        refine ev_iload rfl rfl rfl ?_
        refine ev_aload_n rfl rfl rfl ?_
        refine ev_getR (y := 95) rfl rfl fl_X4_9 rfl rfl rfl rfl ?_
        refine ev_iload_n rfl rfl rfl ?_
        refine ev_iload rfl rfl rfl ?_
        refine ev_iaddB (l := 0) (u := 45224) rfl rfl p0 b88 (by decide) (by decide) (by decide) (by decide) (fun v93 b93 e93 g93 => ?_)
        refine ev_ialW (n := 45225) (l := (-2147483648)) (u := 2147483647) hJ85.1 b93 (by decide) (by decide) (fun _ => rfl) rfl rfl rfl (fun v94 b94 e94 => ?_)
        refine ev_icmp_le rfl rfl (fun c95 => ?_) (fun c95 => ?_)
        · refine ev_iincB (y := 1) (l := 1) (u := 9) rfl rfl rfl (by decide) rfl rfl b88 (by decide : B 1 1 1) (by decide) (by decide) (by decide) (by decide) (fun v98 b98 e98 => ?_)
          dsimp only [List.set]
          refine ev_goto rfl rfl ?_
          exact (EvQ.drop 5 (ih3 v98 h84 (b98.mono (by decide) (by decide)) hJ85 (L_up hm3 (e_p1 e98 (by decide)))))
        · have b96 : B v92 (-2147483647) 2147483647 := R_ltY (B.any v94) (B.any v92) (Int32.not_le.mp c95) (by decide)
          have b97 : B v94 (-2147483648) 2147483646 := R_ltX (B.any v94) (B.any v92) (Int32.not_le.mp c95) (by decide)
          refine ev_aload_n rfl rfl rfl ?_
          refine ev_getR (y := 95) rfl rfl fl_X4_9 rfl rfl rfl rfl ?_
          refine ev_iload_n rfl rfl rfl ?_
          refine ev_iload rfl rfl rfl ?_
          refine ev_iaddV g93 rfl rfl ?_
          refine ev_iload rfl rfl rfl ?_
          refine ev_iasW (n := 45225) (l := (-2147483648)) (u := 2147483647) hJ85 b93 (by decide) (by decide) (fun _ => rfl) b96 (by decide) (by decide) (fun _ => rfl) rfl rfl rfl rfl (fun h99 hJ99 k99 => ?_)
          refine ev_iincB (y := 1) (l := 1) (u := 9) rfl rfl rfl (by decide) rfl rfl b88 (by decide : B 1 1 1) (by decide) (by decide) (by decide) (by decide) (fun v100 b100 e100 => ?_)
          dsimp only [List.set]
          refine ev_goto rfl rfl ?_
          exact (EvQ.drop 5 (ih3 v100 h99 (b100.mono (by decide) (by decide)) hJ99 (L_up hm3 (e_p1 e100 (by decide)))))
  exact (lp3_81 10 0 h ((by decide : B 0 0 0).mono (by decide) (by decide)) hJ0 (L_init (by decide : B 0 0 0) (by decide)))

set_option maxRecDepth 100000 in
set_option maxHeartbeats 4000000 in
theorem w_X4_cell_v0_24_v0_200 (L : Nat) (b : Bool) (h : Hp) (hB : Bx h) (a0 : Int32) (p0 : B a0 0 24) (a1 : Int32) (p1 : B a1 0 200) : EvP mi_X4_cell [.int a0, .int a1] (G0 L b) h (fun r : Int32 => B r 0 45216 ∧ (r.toInt = (a0.toInt * 201 + a1.toInt) * 9)) := by
  refine EvM.of2 (lo := [some (.int a0), some (.int a1)]) pf_X4_cell ok_X4_cell rfl rfl ?_
  obtain ⟨f1, ef1⟩ : ∃ f_, h 2 3 = f_ := ⟨_, rfl⟩
  have bf1 : B f1 0 200 := by have z_ := hB 2 3; rw [ef1] at z_; exact z_
  have zf1 := congrArg Int32.toInt ef1
  refine ev_iload_n rfl rfl rfl ?_
  refine ev_sipush (v := 201) rfl rfl (by decide) ?_
  refine ev_imulB (l := 0) (u := 4824) rfl rfl p0 (by decide : B 201 201 201) (by decide) (by decide) (by decide) (by decide) (by decide) (fun v2 b2 e2 => ?_)
  rw [show (201 : Int32).toInt = 201 from by decide] at e2
  refine ev_iload_n rfl rfl rfl ?_
  refine ev_iaddB (l := 0) (u := 5024) rfl rfl b2 p1 (by decide) (by decide) (by decide) (by decide) (fun v3 b3 e3 g3 => ?_)
  refine ev_bipush (v := 9) rfl rfl (by decide) ?_
  refine ev_imulB (l := 0) (u := 45216) rfl rfl b3 (by decide : B 9 9 9) (by decide) (by decide) (by decide) (by decide) (by decide) (fun v4 b4 e4 => ?_)
  rw [show (9 : Int32).toInt = 9 from by decide] at e4
  exact ev_iret rfl rfl rfl ⟨⟨_, rfl, ⟨b4, (by have z0_ := congrArg Int32.toInt ef1; have z_ := w_lits; omega)⟩⟩, rfl, rfl⟩

set_option maxRecDepth 100000 in
set_option maxHeartbeats 4000000 in
theorem w_X4_worthOf_37_2 (L : Nat) (h : Hp) (hB : Bx h) (a0 : Int32) (p0 : B a0 0 23) (a1 : Int32) (p1 : B a1 0 200) (a2 : Int32) (p2 : B a2 0 8) (a3 : Int32) (p3 : B a3 0 31) : EvP mi_X4_worthOf [.ref 37, .ref 2, .int a0, .int a1, .int a2, .int a3] (G0 L true) h (fun r : Int32 => B r (-2147483648) 2147483647) := by
  refine EvM.of2 (lo := [some (.ref 37), some (.ref 2), some (.int a0), some (.int a1), some (.int a2), some (.int a3)]) pf_X4_worthOf ok_X4_worthOf rfl rfl ?_
  refine ev_bipush (v := 9) rfl rfl (by decide) ?_
  refine ev_aload_n rfl rfl rfl ?_
  refine ev_getR (y := 40) rfl rfl fl_X4_28 rfl rfl rfl rfl ?_
  refine ev_iload rfl rfl rfl ?_
  refine ev_ialW (n := 32) (l := (-2147483648)) (u := 2147483647) hB p3 (by decide) (by decide) (fun _ => rfl) rfl rfl rfl (fun v1 b1 e1 => ?_)
  refine ev_S1P rfl rfl lk_X4_123 st_J6_bitCount_0f7a4 rfl rfl (w_any (c_bitCount (G0 L true) h v1)) (fun r2 q2 => ?_)
  refine ev_imulA rfl rfl (fun v3 => ?_)
  refine ev_aload_n rfl rfl rfl ?_
  refine ev_getR (y := 95) rfl rfl fl_X4_9 rfl rfl rfl rfl ?_
  refine ev_iload_n rfl rfl rfl ?_
  refine ev_iconst (v := 1) rfl rfl (by decide) ?_
  refine ev_iaddB (l := 1) (u := 24) rfl rfl p0 (by decide : B 1 1 1) (by decide) (by decide) (by decide) (by decide) (fun v4 b4 e4 g4 => ?_)
  refine ev_aload_n rfl rfl rfl ?_
  refine ev_iload_n rfl rfl rfl ?_
  refine ev_aload_n rfl rfl rfl ?_
  refine ev_getR (y := 41) rfl rfl fl_X4_31 rfl rfl rfl rfl ?_
  refine ev_iload rfl rfl rfl ?_
  refine ev_ialW (n := 32) (l := (-2147483648)) (u := 2147483647) hB p3 (by decide) (by decide) (fun _ => rfl) rfl rfl rfl (fun v5 b5 e5 => ?_)
  refine ev_V2P rfl rfl lk_X4_129 vt_X1_after rfl rfl rfl rfl rfl (w_X1_after_2 L true h hB a1 v5) (fun r6 q6 => ?_)
  refine ev_S2P rfl rfl lk_X4_84 st_X4_cell rfl rfl (w_X4_cell_v0_24_v0_200 L true h hB v4 (b4.mono (by decide) (by decide)) r6 q6) (fun r7 q7 => ?_)
  obtain ⟨b7, pp7_0⟩ := q7
  refine ev_iload rfl rfl rfl ?_
  refine ev_iaddB (l := 0) (u := 45224) rfl rfl b7 p2 (by decide) (by decide) (by decide) (by decide) (fun v8 b8 e8 g8 => ?_)
  refine ev_ialW (n := 45225) (l := (-2147483648)) (u := 2147483647) hB b8 (by decide) (by decide) (fun _ => rfl) rfl rfl rfl (fun v9 b9 e9 => ?_)
  refine ev_iaddA rfl rfl (fun v10 g10 => ?_)
  exact ev_iret rfl rfl rfl ⟨⟨_, rfl, (B.any v10)⟩, rfl, rfl⟩

set_option maxRecDepth 100000 in
set_option maxHeartbeats 4000000 in
theorem w_X4_bestOption_37_2 (L : Nat) (h : Hp) (hB : Bx h) (a0 : Int32) (p0 : B a0 0 23) (a1 : Int32) (p1 : B a1 0 200) (a2 : Int32) (p2 : B a2 0 8) (q0 : B (h 37 7) 1 32) : EvP mi_X4_bestOption [.ref 37, .ref 2, .int a0, .int a1, .int a2] (G0 L true) h (fun r : Int32 => B r 0 31) := by
  refine EvM.of2 (lo := [some (.ref 37), some (.ref 2), some (.int a0), some (.int a1), some (.int a2), none, none, none, none]) pf_X4_bestOption ok_X4_bestOption rfl rfl ?_
  obtain ⟨f0, ef0⟩ : ∃ f_, h 37 7 = f_ := ⟨_, rfl⟩
  rw [ef0] at q0
  refine ev_aload_n rfl rfl rfl ?_
  refine ev_getV (v := f0) rfl rfl fl_X4_34 rfl rfl rfl ef0 ?_
  refine ev_iconst (v := 1) rfl rfl (by decide) ?_
  refine ev_isubB (l := 0) (u := 31) rfl rfl q0 (by decide : B 1 1 1) (by decide) (by decide) (by decide) (by decide) (fun v1 b1 e1 g1 => ?_)
  refine ev_istore rfl rfl rfl rfl ?_
  dsimp only [List.set]
  refine ev_iconst (v := (-1)) rfl rfl (by decide) ?_
  refine ev_istore rfl rfl rfl rfl ?_
  dsimp only [List.set]
  refine ev_iconst (v := 0) rfl rfl (by decide) ?_
  refine ev_istore rfl rfl rfl rfl ?_
  dsimp only [List.set]
  have lp14_88 : ∀ (n : Nat) (w89 : Int32) (w90 : Int32) (w91 : Int32), B w89 0 31 → B w90 (-1) 2147483647 → B w91 0 32 → 32 + 1 - w91.toInt ≤ (n : Int) → EvQ mi_X4_bestOption 14 [some (.ref 37), some (.ref 2), some (.int a0), some (.int a1), some (.int a2), some (.int w89), some (.int w90), some (.int w91), none] [] (G0 L true) h 0 0 (QP (fun r : Int32 => B r 0 31) (G0 L true) h) := by
    intro n
    induction n with
    | zero =>
      intro w89 w90 w91 b92 b93 b94 hm14
      exact absurd hm14 (L_zero b94 (by decide))
    | succ n ih14 =>
      intro w89 w90 w91 b92 b93 b94 hm14
      refine ev_iload rfl rfl rfl ?_
      refine ev_aload_n rfl rfl rfl ?_
      refine ev_getV (v := f0) rfl rfl fl_X4_34 rfl rfl rfl ef0 ?_
      refine ev_icmp_ge rfl rfl (fun c95 => ?_) (fun c95 => ?_)
      · have b96 : B w91 1 32 := R_leY q0 b94 c95 (by decide)
        refine ev_iload rfl rfl rfl ?_
        exact ev_iret rfl rfl rfl ⟨⟨_, rfl, b92⟩, rfl, rfl⟩
      · have b97 : B w91 0 31 := R_ltX b94 q0 (Int32.not_le.mp c95) (by decide)
        refine ev_aload_n rfl rfl rfl ?_
        refine ev_iload rfl rfl rfl ?_
        refine ev_iload_n rfl rfl rfl ?_
        refine ev_V2P rfl rfl lk_X4_119 vt_X4_isOpen rfl rfl rfl rfl rfl (w_X4_isOpen_37 L true h hB w91 b97 a1 p1) (fun r98 q98 => ?_)
        refine ev_if_eq rfl rfl (fun c99 => ?_) (fun c99 => ?_)
        · have b100 : B r98 0 0 := R_eqX q98 (by decide : B 0 0 0) c99
          refine ev_iincB (y := 1) (l := 1) (u := 32) rfl rfl rfl (by decide) rfl rfl b97 (by decide : B 1 1 1) (by decide) (by decide) (by decide) (by decide) (fun v102 b102 e102 => ?_)
          dsimp only [List.set]
          refine ev_goto rfl rfl ?_
          exact (ih14 w89 w90 v102 b92 b93 (b102.mono (by decide) (by decide)) (L_up hm14 (e_p1 e102 (by decide))))
        · have b101 : B r98 1 1 := R_neL q98 (by decide : B 0 0 0) c99 (by decide)
          refine ev_aload_n rfl rfl rfl ?_
          refine ev_aload_n rfl rfl rfl ?_
          refine ev_iload_n rfl rfl rfl ?_
          refine ev_iload_n rfl rfl rfl ?_
          refine ev_iload rfl rfl rfl ?_
          refine ev_iload rfl rfl rfl ?_
          refine ev_V5P rfl rfl lk_X4_148 vt_X4_worthOf rfl rfl rfl rfl rfl (w_X4_worthOf_37_2 L h hB a0 p0 a1 p1 a2 p2 w91 b97) (fun r103 q103 => ?_)
          refine ev_istore rfl rfl rfl rfl ?_
          dsimp only [List.set]
          refine ev_iload rfl rfl rfl ?_
          refine ev_iload rfl rfl rfl ?_
          refine ev_icmp_le rfl rfl (fun c104 => ?_) (fun c104 => ?_)
          · refine ev_iincB (y := 1) (l := 1) (u := 32) rfl rfl rfl (by decide) rfl rfl b97 (by decide : B 1 1 1) (by decide) (by decide) (by decide) (by decide) (fun v107 b107 e107 => ?_)
            dsimp only [List.set]
            refine ev_goto rfl rfl ?_
            exact (EvQ.drop 8 (ih14 w89 w90 v107 b92 b93 (b107.mono (by decide) (by decide)) (L_up hm14 (e_p1 e107 (by decide)))))
          · have b105 : B r103 0 2147483647 := R_ltY b93 (B.any r103) (Int32.not_le.mp c104) (by decide)
            have b106 : B w90 (-1) 2147483646 := R_ltX b93 (B.any r103) (Int32.not_le.mp c104) (by decide)
            refine ev_iload rfl rfl rfl ?_
            refine ev_istore rfl rfl rfl rfl ?_
            dsimp only [List.set]
            refine ev_iload rfl rfl rfl ?_
            refine ev_istore rfl rfl rfl rfl ?_
            dsimp only [List.set]
            refine ev_iincB (y := 1) (l := 1) (u := 32) rfl rfl rfl (by decide) rfl rfl b97 (by decide : B 1 1 1) (by decide) (by decide) (by decide) (by decide) (fun v108 b108 e108 => ?_)
            dsimp only [List.set]
            refine ev_goto rfl rfl ?_
            exact (EvQ.drop 8 (ih14 w91 r103 v108 b97 (b105.mono (by decide) (by decide)) (b108.mono (by decide) (by decide)) (L_up hm14 (e_p1 e108 (by decide)))))
  exact (lp14_88 33 v1 (-1) 0 b1 ((by decide : B (-1) (-1) (-1)).mono (by decide) (by decide)) ((by decide : B 0 0 0).mono (by decide) (by decide)) (L_init (by decide : B 0 0 0) (by decide)))

set_option maxRecDepth 100000 in
set_option maxHeartbeats 4000000 in
theorem w_X4_cell_v0_24_v0_0 (L : Nat) (b : Bool) (h : Hp) (hB : Bx h) (a0 : Int32) (p0 : B a0 0 24) (a1 : Int32) (p1 : B a1 0 0) : EvP mi_X4_cell [.int a0, .int a1] (G0 L b) h (fun r : Int32 => B r 0 43416 ∧ (r.toInt = (a0.toInt * 201 + a1.toInt) * 9)) := by
  refine EvM.of2 (lo := [some (.int a0), some (.int a1)]) pf_X4_cell ok_X4_cell rfl rfl ?_
  obtain ⟨f1, ef1⟩ : ∃ f_, h 2 3 = f_ := ⟨_, rfl⟩
  have bf1 : B f1 0 200 := by have z_ := hB 2 3; rw [ef1] at z_; exact z_
  have zf1 := congrArg Int32.toInt ef1
  refine ev_iload_n rfl rfl rfl ?_
  refine ev_sipush (v := 201) rfl rfl (by decide) ?_
  refine ev_imulB (l := 0) (u := 4824) rfl rfl p0 (by decide : B 201 201 201) (by decide) (by decide) (by decide) (by decide) (by decide) (fun v2 b2 e2 => ?_)
  rw [show (201 : Int32).toInt = 201 from by decide] at e2
  refine ev_iload_n rfl rfl rfl ?_
  refine ev_iaddB (l := 0) (u := 4824) rfl rfl b2 p1 (by decide) (by decide) (by decide) (by decide) (fun v3 b3 e3 g3 => ?_)
  refine ev_bipush (v := 9) rfl rfl (by decide) ?_
  refine ev_imulB (l := 0) (u := 43416) rfl rfl b3 (by decide : B 9 9 9) (by decide) (by decide) (by decide) (by decide) (by decide) (fun v4 b4 e4 => ?_)
  rw [show (9 : Int32).toInt = 9 from by decide] at e4
  exact ev_iret rfl rfl rfl ⟨⟨_, rfl, ⟨b4, (by have z0_ := congrArg Int32.toInt ef1; have z_ := w_lits; omega)⟩⟩, rfl, rfl⟩

set_option maxRecDepth 100000 in
set_option maxHeartbeats 4000000 in
theorem w_X4_fillSounding_37_2 (L : Nat) (h : Hp) (hB : Bx h) (a0 : Int32) (p0 : B a0 0 23) : EvN mi_X4_fillSounding [.ref 37, .ref 2, .int a0] (G0 L true) h [(95, 999)] := by
  refine EvM.of2 (lo := [some (.ref 37), some (.ref 2), some (.int a0), none, none, none, none]) pf_X4_fillSounding ok_X4_fillSounding rfl rfl ?_
  have hJ0 : JW [(95, 999)] h h := JW.refl hB
  refine ev_iconst (v := 0) rfl rfl (by decide) ?_
  refine ev_istore_n rfl rfl rfl rfl ?_
  dsimp only [List.set]
  have lp2_2729 : ∀ (n : Nat) (w2730 : Int32) (h2732 : Hp), B w2730 0 201 → JW [(95, 999)] h h2732 → 201 + 1 - w2730.toInt ≤ (n : Int) → EvQ mi_X4_fillSounding 2 [some (.ref 37), some (.ref 2), some (.int a0), some (.int w2730), none, none, none] [] (G0 L true) h2732 0 0 (QN [(95, 999)] (G0 L true) h) := by
    intro n
    induction n with
    | zero =>
      intro w2730 h2732 b2731 hJ2733 hm2
      exact absurd hm2 (L_zero b2731 (by decide))
    | succ n ih2 =>
      intro w2730 h2732 b2731 hJ2733 hm2
      refine ev_iload_n rfl rfl rfl ?_
      refine ev_aload_n rfl rfl rfl ?_
      refine ev_getW (l := 0) (u := 200) hJ2733.1 rfl rfl rfl fl_X4_114 rfl rfl rfl (fun v2734 b2734 e2734 => ?_)
      refine ev_icmp_gt rfl rfl (fun c2735 => ?_) (fun c2735 => ?_)
      · have b2736 : B w2730 1 201 := R_ltY b2734 b2731 c2735 (by decide)
        exact ev_vret rfl rfl trivial ⟨rfl, rfl, hJ2733⟩
      · have b2737 : B w2730 0 200 := R_leX b2731 b2734 (Int32.not_lt.mp c2735) (by decide)
        refine ev_iload_n rfl rfl rfl ?_
        refine ev_iload_n rfl rfl rfl ?_
        refine ev_S2P rfl rfl lk_X4_84 st_X4_cell rfl rfl (w_X4_cell_v0_24_v0_200 L true h2732 hJ2733.1 a0 (p0.mono (by decide) (by decide)) w2730 b2737) (fun r2738 q2738 => ?_)
        obtain ⟨b2738, pp2738_0⟩ := q2738
        refine ev_istore rfl rfl rfl rfl ?_
        dsimp only [List.set]
        refine ev_iconst (v := 0) rfl rfl (by decide) ?_
        refine ev_istore rfl rfl rfl rfl ?_
        dsimp only [List.set]
        have lp20_3279 : ∀ (n : Nat) (w3280 : Int32) (h3282 : Hp), B w3280 0 9 → JW [(95, 999)] h h3282 → (h3282 2 3 = v2734) → 9 + 1 - w3280.toInt ≤ (n : Int) → EvQ mi_X4_fillSounding 20 [some (.ref 37), some (.ref 2), some (.int a0), some (.int w2730), some (.int r2738), some (.int w3280), none] [] (G0 L true) h3282 0 0 (QN [(95, 999)] (G0 L true) h) := by
          intro n
          induction n with
          | zero =>
            intro w3280 h3282 b3281 hJ3283 z3284 hm20
            exact absurd hm20 (L_zero b3281 (by decide))
          | succ n ih20 =>
            intro w3280 h3282 b3281 hJ3283 z3284 hm20
            refine ev_iload rfl rfl rfl ?_
            refine ev_aload_n rfl rfl rfl ?_
            refine ev_getW (l := 0) (u := 9) hJ3283.1 rfl rfl rfl fl_X4_25 rfl rfl rfl (fun v3285 b3285 e3285 => ?_)
            refine ev_icmp_ge rfl rfl (fun c3286 => ?_) (fun c3286 => ?_)
            · refine ev_iconst (v := 0) rfl rfl (by decide) ?_
              refine ev_istore rfl rfl rfl rfl ?_
              dsimp only [List.set]
              have lp49_3389 : ∀ (n : Nat) (w3390 : Int32) (h3392 : Hp), B w3390 0 32 → JW [(95, 999)] h h3392 → (h3392 2 3 = v2734) → (h3392 37 4 = v3285) → 32 + 1 - w3390.toInt ≤ (n : Int) → EvQ mi_X4_fillSounding 49 [some (.ref 37), some (.ref 2), some (.int a0), some (.int w2730), some (.int r2738), some (.int w3390), none] [] (G0 L true) h3392 0 0 (QN [(95, 999)] (G0 L true) h) := by
                intro n
                induction n with
                | zero =>
                  intro w3390 h3392 b3391 hJ3393 z3394 z3395 hm49
                  exact absurd hm49 (L_zero b3391 (by decide))
                | succ n ih49 =>
                  intro w3390 h3392 b3391 hJ3393 z3394 z3395 hm49
                  refine ev_iload rfl rfl rfl ?_
                  refine ev_aload_n rfl rfl rfl ?_
                  refine ev_getW (l := 0) (u := 32) hJ3393.1 rfl rfl rfl fl_X4_34 rfl rfl rfl (fun v3396 b3396 e3396 => ?_)
                  refine ev_icmp_ge rfl rfl (fun c3397 => ?_) (fun c3397 => ?_)
                  · refine ev_iincB (y := 1) (l := 1) (u := 201) rfl rfl rfl (by decide) rfl rfl b2737 (by decide : B 1 1 1) (by decide) (by decide) (by decide) (by decide) (fun v3400 b3400 e3400 => ?_)
                    dsimp only [List.set]
                    refine ev_goto rfl rfl ?_
                    exact (EvQ.drop 5 (EvQ.drop 4 (ih2 v3400 h3392 (b3400.mono (by decide) (by decide)) hJ3393 (L_up hm2 (e_p1 e3400 (by decide))))))
                  · have b3398 : B w3390 0 31 := R_ltX b3391 b3396 (Int32.not_le.mp c3397) (by decide)
                    have b3399 : B v3396 1 32 := R_ltY b3391 b3396 (Int32.not_le.mp c3397) (by decide)
                    refine ev_aload_n rfl rfl rfl ?_
                    refine ev_iload rfl rfl rfl ?_
                    refine ev_iload_n rfl rfl rfl ?_
                    refine ev_V2P rfl rfl lk_X4_119 vt_X4_isOpen rfl rfl rfl rfl rfl (w_X4_isOpen_37 L true h3392 hJ3393.1 w3390 b3398 w2730 b2737) (fun r3401 q3401 => ?_)
                    refine ev_if_eq rfl rfl (fun c3402 => ?_) (fun c3402 => ?_)
                    · have b3403 : B r3401 0 0 := R_eqX q3401 (by decide : B 0 0 0) c3402
                      refine ev_iincB (y := 1) (l := 1) (u := 32) rfl rfl rfl (by decide) rfl rfl b3398 (by decide : B 1 1 1) (by decide) (by decide) (by decide) (by decide) (fun v3405 b3405 e3405 => ?_)
                      dsimp only [List.set]
                      refine ev_goto rfl rfl ?_
                      exact (ih49 v3405 h3392 (b3405.mono (by decide) (by decide)) hJ3393 z3394 z3395 (L_up hm49 (e_p1 e3405 (by decide))))
                    · have b3404 : B r3401 1 1 := R_neL q3401 (by decide : B 0 0 0) c3402 (by decide)
                      refine ev_bipush (v := 9) rfl rfl (by decide) ?_
                      refine ev_aload_n rfl rfl rfl ?_
                      refine ev_getR (y := 40) rfl rfl fl_X4_28 rfl rfl rfl rfl ?_
                      refine ev_iload rfl rfl rfl ?_
                      refine ev_ialW (n := 32) (l := (-2147483648)) (u := 2147483647) hJ3393.1 b3398 (by decide) (by decide) (fun _ => rfl) rfl rfl rfl (fun v3406 b3406 e3406 => ?_)
                      refine ev_S1P rfl rfl lk_X4_123 st_J6_bitCount_0f7a4 rfl rfl (w_any (c_bitCount (G0 L true) h3392 v3406)) (fun r3407 q3407 => ?_)
                      refine ev_imulA rfl rfl (fun v3408 => ?_)
                      refine ev_istore rfl rfl rfl rfl ?_
                      dsimp only [List.set]
                      refine ev_aload_n rfl rfl rfl ?_
                      refine ev_iload rfl rfl rfl ?_
                      refine ev_iload_n rfl rfl rfl ?_
                      refine ev_iconst (v := 1) rfl rfl (by decide) ?_
                      refine ev_iaddB (l := 1) (u := 24) rfl rfl p0 (by decide : B 1 1 1) (by decide) (by decide) (by decide) (by decide) (fun v3409 b3409 e3409 g3409 => ?_)
                      refine ev_aload_n rfl rfl rfl ?_
                      refine ev_iload_n rfl rfl rfl ?_
                      refine ev_aload_n rfl rfl rfl ?_
                      refine ev_getR (y := 41) rfl rfl fl_X4_31 rfl rfl rfl rfl ?_
                      refine ev_iload rfl rfl rfl ?_
                      refine ev_ialW (n := 32) (l := (-2147483648)) (u := 2147483647) hJ3393.1 b3398 (by decide) (by decide) (fun _ => rfl) rfl rfl rfl (fun v3410 b3410 e3410 => ?_)
                      refine ev_V2P rfl rfl lk_X4_129 vt_X1_after rfl rfl rfl rfl rfl (w_X1_after_2 L true h3392 hJ3393.1 w2730 v3410) (fun r3411 q3411 => ?_)
                      refine ev_S2P rfl rfl lk_X4_84 st_X4_cell rfl rfl (w_X4_cell_v0_24_v0_200 L true h3392 hJ3393.1 v3409 (b3409.mono (by decide) (by decide)) r3411 q3411) (fun r3412 q3412 => ?_)
                      obtain ⟨b3412, pp3412_0⟩ := q3412
                      refine ev_iload rfl rfl rfl ?_
                      refine ev_V3N hJ3393 rfl rfl rfl lk_X4_132 vt_X4_raise rfl rfl rfl rfl rfl (w_X4_raise_37 L h3392 hJ3393.1 r2738 b2738 r3412 b3412 v3408) (fun h3413 hJ3413 k3413  => ?_)
                      refine ev_iincB (y := 1) (l := 1) (u := 32) rfl rfl rfl (by decide) rfl rfl b3398 (by decide : B 1 1 1) (by decide) (by decide) (by decide) (by decide) (fun v3414 b3414 e3414 => ?_)
                      dsimp only [List.set]
                      refine ev_goto rfl rfl ?_
                      exact (EvQ.drop 6 (ih49 v3414 h3413 (b3414.mono (by decide) (by decide)) hJ3413 (rd_w k3413 z3394 rfl) (rd_w k3413 z3395 rfl) (L_up hm49 (e_p1 e3414 (by decide)))))
              exact (lp49_3389 33 0 h3282 ((by decide : B 0 0 0).mono (by decide) (by decide)) hJ3283 z3284 e3285 (L_init (by decide : B 0 0 0) (by decide)))
            · have b3287 : B w3280 0 8 := R_ltX b3281 b3285 (Int32.not_le.mp c3286) (by decide)
              have b3288 : B v3285 1 9 := R_ltY b3281 b3285 (Int32.not_le.mp c3286) (by decide)
              refine ev_aload_n rfl rfl rfl ?_
              refine ev_getR (y := 95) rfl rfl fl_X4_9 rfl rfl rfl rfl ?_
              refine ev_iload rfl rfl rfl ?_
              refine ev_iload rfl rfl rfl ?_
              refine ev_iaddB (l := 0) (u := 45224) rfl rfl b2738 b3287 (by decide) (by decide) (by decide) (by decide) (fun v3415 b3415 e3415 g3415 => ?_)
              refine ev_iconst (v := 0) rfl rfl (by decide) ?_
              refine ev_iasW (n := 45225) (l := (-2147483648)) (u := 2147483647) hJ3283 b3415 (by decide) (by decide) (fun _ => rfl) (by decide : B 0 0 0) (by decide) (by decide) (fun _ => rfl) rfl rfl rfl rfl (fun h3416 hJ3416 k3416 => ?_)
              refine ev_iincB (y := 1) (l := 1) (u := 9) rfl rfl rfl (by decide) rfl rfl b3287 (by decide : B 1 1 1) (by decide) (by decide) (by decide) (by decide) (fun v3417 b3417 e3417 => ?_)
              dsimp only [List.set]
              refine ev_goto rfl rfl ?_
              exact (ih20 v3417 h3416 (b3417.mono (by decide) (by decide)) hJ3416 (rd_a k3416 z3284 rfl) (L_up hm20 (e_p1 e3417 (by decide))))
        exact (lp20_3279 10 0 h2732 ((by decide : B 0 0 0).mono (by decide) (by decide)) hJ2733 e2734 (L_init (by decide : B 0 0 0) (by decide)))
  exact (lp2_2729 202 0 h ((by decide : B 0 0 0).mono (by decide) (by decide)) hJ0 (L_init (by decide : B 0 0 0) (by decide)))

set_option maxRecDepth 100000 in
set_option maxHeartbeats 4000000 in
theorem w_X4_fillResting_37_2 (L : Nat) (h : Hp) (hB : Bx h) (a0 : Int32) (p0 : B a0 0 23) : EvN mi_X4_fillResting [.ref 37, .ref 2, .int a0] (G0 L true) h [(95, 999)] := by
  refine EvM.of2 (lo := [some (.ref 37), some (.ref 2), some (.int a0), none, none, none, none]) pf_X4_fillResting ok_X4_fillResting rfl rfl ?_
  have hJ0 : JW [(95, 999)] h h := JW.refl hB
  refine ev_iconst (v := 1) rfl rfl (by decide) ?_
  refine ev_istore_n rfl rfl rfl rfl ?_
  dsimp only [List.set]
  have lp2_486 : ∀ (n : Nat) (w487 : Int32) (h489 : Hp), B w487 1 9 → JW [(95, 999)] h h489 → 9 + 1 - w487.toInt ≤ (n : Int) → EvQ mi_X4_fillResting 2 [some (.ref 37), some (.ref 2), some (.int a0), some (.int w487), none, none, none] [] (G0 L true) h489 0 0 (QN [(95, 999)] (G0 L true) h) := by
    intro n
    induction n with
    | zero =>
      intro w487 h489 b488 hJ490 hm2
      exact absurd hm2 (L_zero b488 (by decide))
    | succ n ih2 =>
      intro w487 h489 b488 hJ490 hm2
      refine ev_iload_n rfl rfl rfl ?_
      refine ev_aload_n rfl rfl rfl ?_
      refine ev_getW (l := 0) (u := 9) hJ490.1 rfl rfl rfl fl_X4_25 rfl rfl rfl (fun v491 b491 e491 => ?_)
      refine ev_icmp_ge rfl rfl (fun c492 => ?_) (fun c492 => ?_)
      · exact ev_vret rfl rfl trivial ⟨rfl, rfl, hJ490⟩
      · have b493 : B w487 1 8 := R_ltX b488 b491 (Int32.not_le.mp c492) (by decide)
        have b494 : B v491 2 9 := R_ltY b488 b491 (Int32.not_le.mp c492) (by decide)
        refine ev_iconst (v := 0) rfl rfl (by decide) ?_
        refine ev_istore rfl rfl rfl rfl ?_
        dsimp only [List.set]
        have lp13_587 : ∀ (n : Nat) (w588 : Int32) (h590 : Hp), B w588 0 201 → JW [(95, 999)] h h590 → (h590 37 4 = v491) → 201 + 1 - w588.toInt ≤ (n : Int) → EvQ mi_X4_fillResting 13 [some (.ref 37), some (.ref 2), some (.int a0), some (.int w487), some (.int w588), none, none] [] (G0 L true) h590 0 0 (QN [(95, 999)] (G0 L true) h) := by
          intro n
          induction n with
          | zero =>
            intro w588 h590 b589 hJ591 z592 hm13
            exact absurd hm13 (L_zero b589 (by decide))
          | succ n ih13 =>
            intro w588 h590 b589 hJ591 z592 hm13
            refine ev_iload rfl rfl rfl ?_
            refine ev_aload_n rfl rfl rfl ?_
            refine ev_getW (l := 0) (u := 200) hJ591.1 rfl rfl rfl fl_X4_114 rfl rfl rfl (fun v593 b593 e593 => ?_)
            refine ev_icmp_gt rfl rfl (fun c594 => ?_) (fun c594 => ?_)
            · have b595 : B w588 1 201 := R_ltY b593 b589 c594 (by decide)
              refine ev_iincB (y := 1) (l := 2) (u := 9) rfl rfl rfl (by decide) rfl rfl b493 (by decide : B 1 1 1) (by decide) (by decide) (by decide) (by decide) (fun v597 b597 e597 => ?_)
              dsimp only [List.set]
              refine ev_goto rfl rfl ?_
              exact (EvQ.drop 4 (ih2 v597 h590 (b597.mono (by decide) (by decide)) hJ591 (L_up hm2 (e_p1 e597 (by decide)))))
            · have b596 : B w588 0 200 := R_leX b589 b593 (Int32.not_lt.mp c594) (by decide)
              refine ev_aload_n rfl rfl rfl ?_
              refine ev_getR (y := 95) rfl rfl fl_X4_9 rfl rfl rfl rfl ?_
              refine ev_iload_n rfl rfl rfl ?_
              refine ev_aload_n rfl rfl rfl ?_
              refine ev_iload rfl rfl rfl ?_
              refine ev_aload_n rfl rfl rfl ?_
              refine ev_getW (l := (-2147483648)) (u := 2147483647) hJ591.1 rfl rfl rfl fl_X4_37 rfl rfl rfl (fun v598 b598 e598 => ?_)
              refine ev_V2P rfl rfl lk_X4_129 vt_X1_after rfl rfl rfl rfl rfl (w_X1_after_2 L true h590 hJ591.1 w588 v598) (fun r599 q599 => ?_)
              refine ev_S2P rfl rfl lk_X4_84 st_X4_cell rfl rfl (w_X4_cell_v0_24_v0_200 L true h590 hJ591.1 a0 (p0.mono (by decide) (by decide)) r599 q599) (fun r600 q600 => ?_)
              obtain ⟨b600, pp600_0⟩ := q600
              refine ev_iload_n rfl rfl rfl ?_
              refine ev_iaddB (l := 1) (u := 45224) rfl rfl b600 b493 (by decide) (by decide) (by decide) (by decide) (fun v601 b601 e601 g601 => ?_)
              refine ev_iconst (v := 1) rfl rfl (by decide) ?_
              refine ev_isubB (l := 0) (u := 45223) rfl rfl b601 (by decide : B 1 1 1) (by decide) (by decide) (by decide) (by decide) (fun v602 b602 e602 g602 => ?_)
              refine ev_ialW (n := 45225) (l := (-2147483648)) (u := 2147483647) hJ591.1 b602 (by decide) (by decide) (fun _ => rfl) rfl rfl rfl (fun v603 b603 e603 => ?_)
              refine ev_iconst (v := 1) rfl rfl (by decide) ?_
              refine ev_isubA rfl rfl (fun v604 g604 => ?_)
              refine ev_istore rfl rfl rfl rfl ?_
              dsimp only [List.set]
              refine ev_iload_n rfl rfl rfl ?_
              refine ev_iload rfl rfl rfl ?_
              refine ev_S2P rfl rfl lk_X4_84 st_X4_cell rfl rfl (w_X4_cell_v0_24_v0_200 L true h590 hJ591.1 a0 (p0.mono (by decide) (by decide)) w588 b596) (fun r605 q605 => ?_)
              obtain ⟨b605, pp605_0⟩ := q605
              refine ev_iload_n rfl rfl rfl ?_
              refine ev_iaddB (l := 1) (u := 45224) rfl rfl b605 b493 (by decide) (by decide) (by decide) (by decide) (fun v606 b606 e606 g606 => ?_)
              refine ev_istore rfl rfl rfl rfl ?_
              dsimp only [List.set]
              refine ev_aload_n rfl rfl rfl ?_
              refine ev_getR (y := 95) rfl rfl fl_X4_9 rfl rfl rfl rfl ?_
              refine ev_iload rfl rfl rfl ?_
              refine ev_aload_n rfl rfl rfl ?_
              refine ev_getR (y := 95) rfl rfl fl_X4_9 rfl rfl rfl rfl ?_
              refine ev_iload rfl rfl rfl ?_
              refine ev_ialW (n := 45225) (l := (-2147483648)) (u := 2147483647) hJ591.1 b606 (by decide) (by decide) (fun _ => rfl) rfl rfl rfl (fun v607 b607 e607 => ?_)
              refine ev_iload rfl rfl rfl ?_
              refine ev_S2P rfl rfl lk_X4_136 st_J9_max_7cf53 rfl rfl (w_max (l := (-2147483648)) (u := 2147483647) (G0 L true) h590 v607 v604 (B.any v607) (B.any v604) (Or.inl (by decide)) (by decide) (by decide)) (fun r608 q608 => ?_)
              refine ev_iasW (n := 45225) (l := (-2147483648)) (u := 2147483647) hJ591 b606 (by decide) (by decide) (fun _ => rfl) (B.any r608) (by decide) (by decide) (fun _ => rfl) rfl rfl rfl rfl (fun h609 hJ609 k609 => ?_)
              refine ev_iincB (y := 1) (l := 1) (u := 201) rfl rfl rfl (by decide) rfl rfl b596 (by decide : B 1 1 1) (by decide) (by decide) (by decide) (by decide) (fun v610 b610 e610 => ?_)
              dsimp only [List.set]
              refine ev_goto rfl rfl ?_
              exact (EvQ.drop 6 (EvQ.drop 5 (ih13 v610 h609 (b610.mono (by decide) (by decide)) hJ609 (rd_a k609 z592 rfl) (L_up hm13 (e_p1 e610 (by decide))))))
        exact (lp13_587 202 0 h489 ((by decide : B 0 0 0).mono (by decide) (by decide)) hJ490 e491 (L_init (by decide : B 0 0 0) (by decide)))
  exact (lp2_486 9 1 h ((by decide : B 1 1 1).mono (by decide) (by decide)) hJ0 (L_init (by decide : B 1 1 1) (by decide)))

set_option maxRecDepth 100000 in
set_option maxHeartbeats 4000000 in
theorem w_X4_follow_37_2_4 (L : Nat) (h : Hp) (hB : Bx h) (a0 : Int32) (p0 : B a0 0 8) : EvN mi_X4_follow [.ref 37, .ref 2, .ref 4, .int a0] (G0 L true) h [(37, 7), (37, 11), (37, 12), (37, 13), (40, 999), (41, 999), (42, 999), (43, 999)] := by
  refine EvM.of2 (lo := [some (.ref 37), some (.ref 2), some (.ref 4), some (.int a0), none, none, none, none]) pf_X4_follow ok_X4_follow rfl rfl ?_
  have hJ0 : JW [(37, 7), (37, 11), (37, 12), (37, 13), (40, 999), (41, 999), (42, 999), (43, 999)] h h := JW.refl hB
  refine ev_aload_n rfl rfl rfl ?_
  refine ev_getW (l := 0) (u := 200) hJ0.1 rfl rfl rfl fl_X4_141 rfl rfl rfl (fun v1 b1 e1 => ?_)
  refine ev_istore rfl rfl rfl rfl ?_
  dsimp only [List.set]
  refine ev_iload_n rfl rfl rfl ?_
  refine ev_istore rfl rfl rfl rfl ?_
  dsimp only [List.set]
  refine ev_aload_n rfl rfl rfl ?_
  refine ev_iconst (v := 0) rfl rfl (by decide) ?_
  refine ev_putW (l := (-2147483648)) (u := 2147483647) hJ0 rfl (by decide : B 0 0 0) (by decide) (by decide) rfl rfl rfl fl_X4_46 rfl rfl rfl rfl rfl (fun h2 hJ2 k2 => ?_)
  refine ev_iconst (v := 0) rfl rfl (by decide) ?_
  refine ev_istore rfl rfl rfl rfl ?_
  dsimp only [List.set]
  have lp17_678 : ∀ (n : Nat) (w679 : Int32) (w680 : Int32) (w681 : Int32) (h685 : Hp), B w679 0 200 → B w680 0 8 → B w681 0 24 → JW [(37, 7), (37, 11), (37, 12), (37, 13), (40, 999), (41, 999), (42, 999), (43, 999)] h h685 → (h685 2 0 = v1) → 24 + 1 - w681.toInt ≤ (n : Int) → EvQ mi_X4_follow 17 [some (.ref 37), some (.ref 2), some (.ref 4), some (.int a0), some (.int w679), some (.int w680), some (.int w681), none] [] (G0 L true) h685 0 0 (QN [(37, 7), (37, 11), (37, 12), (37, 13), (40, 999), (41, 999), (42, 999), (43, 999)] (G0 L true) h) := by
    intro n
    induction n with
    | zero =>
      intro w679 w680 w681 h685 b682 b683 b684 hJ686 z687 hm17
      exact absurd hm17 (L_zero b684 (by decide))
    | succ n ih17 =>
      intro w679 w680 w681 h685 b682 b683 b684 hJ686 z687 hm17
      refine ev_iload rfl rfl rfl ?_
      refine ev_aload_n rfl rfl rfl ?_
      refine ev_getW (l := 0) (u := 24) hJ686.1 rfl rfl rfl fl_X4_21 rfl rfl rfl (fun v688 b688 e688 => ?_)
      refine ev_icmp_ge rfl rfl (fun c689 => ?_) (fun c689 => ?_)
      · refine ev_aload_n rfl rfl rfl ?_
        refine ev_iload_n rfl rfl rfl ?_
        refine ev_iload rfl rfl rfl ?_
        refine ev_isubB (l := -8) (u := 8) rfl rfl p0 b683 (by decide) (by decide) (by decide) (by decide) (fun v692 b692 e692 g692 => ?_)
        refine ev_putW (l := (-2147483648)) (u := 2147483647) hJ686 rfl b692 (by decide) (by decide) rfl rfl rfl fl_X4_49 rfl rfl rfl rfl rfl (fun h693 hJ693 k693 => ?_)
        refine ev_aload_n rfl rfl rfl ?_
        refine ev_iload rfl rfl rfl ?_
        refine ev_putW (l := (-2147483648)) (u := 2147483647) hJ693 rfl b682 (by decide) (by decide) rfl rfl rfl fl_X4_52 rfl rfl rfl rfl rfl (fun h694 hJ694 k694 => ?_)
        exact ev_vret rfl rfl trivial ⟨rfl, rfl, hJ694⟩
      · have b690 : B w681 0 23 := R_ltX b684 b688 (Int32.not_le.mp c689) (by decide)
        have b691 : B v688 1 24 := R_ltY b684 b688 (Int32.not_le.mp c689) (by decide)
        refine ev_aload_n rfl rfl rfl ?_
        refine ev_aload_n rfl rfl rfl ?_
        refine ev_aload_n rfl rfl rfl ?_
        refine ev_getR (y := 39) rfl rfl fl_X4_18 rfl rfl rfl rfl ?_
        refine ev_iload rfl rfl rfl ?_
        refine ev_ialW (n := 24) (l := (-2147483648)) (u := 2147483647) hJ686.1 b690 (by decide) (by decide) (fun _ => rfl) rfl rfl rfl (fun v695 b695 e695 => ?_)
        refine ev_V2K hJ686 rfl rfl rfl lk_X4_93 vt_X4_listOptions rfl rfl rfl rfl rfl (w_X4_listOptions_37_4 L true h685 hJ686.1 v695) (fun h696 hJ696 k696 m696 => ?_)
        obtain ⟨f697, ef697⟩ : ∃ f_, h696 37 7 = f_ := ⟨_, rfl⟩
        rw [ef697] at m696
        refine ev_aload_n rfl rfl rfl ?_
        refine ev_getR (y := 43) rfl rfl fl_X4_43 rfl rfl rfl rfl ?_
        refine ev_iload rfl rfl rfl ?_
        refine ev_iconst (v := 0) rfl rfl (by decide) ?_
        refine ev_iasW (n := 24) (l := (-2147483648)) (u := 2147483647) hJ696 b690 (by decide) (by decide) (fun _ => rfl) (by decide : B 0 0 0) (by decide) (by decide) (fun _ => rfl) rfl rfl rfl rfl (fun h698 hJ698 k698 => ?_)
        refine ev_aload_n rfl rfl rfl ?_
        refine ev_aload_n rfl rfl rfl ?_
        refine ev_iload rfl rfl rfl ?_
        refine ev_iload rfl rfl rfl ?_
        refine ev_iload rfl rfl rfl ?_
        refine ev_V4P rfl rfl lk_X4_144 vt_X4_bestOption rfl rfl rfl rfl rfl (w_X4_bestOption_37_2 L h698 hJ698.1 w681 b690 w679 b682 w680 b683 (B.at (rd_a k698 ef697 rfl) m696)) (fun r699 q699 => ?_)
        refine ev_istore rfl rfl rfl rfl ?_
        dsimp only [List.set]
        have lp59_820 : ∀ (n : Nat) (w821 : Int32) (w822 : Int32) (w823 : Int32) (h827 : Hp), B w821 0 200 → B w822 0 8 → B w823 0 31 → JW [(37, 7), (37, 11), (37, 12), (37, 13), (40, 999), (41, 999), (42, 999), (43, 999)] h h827 → (h827 2 0 = v1) → (h827 37 3 = v688) → (h827 37 7 = f697) → w822.toInt + 1 - 0 ≤ (n : Int) → EvQ mi_X4_follow 59 [some (.ref 37), some (.ref 2), some (.ref 4), some (.int a0), some (.int w821), some (.int w822), some (.int w681), some (.int w823)] [] (G0 L true) h827 0 0 (QN [(37, 7), (37, 11), (37, 12), (37, 13), (40, 999), (41, 999), (42, 999), (43, 999)] (G0 L true) h) := by
          intro n
          induction n with
          | zero =>
            intro w821 w822 w823 h827 b824 b825 b826 hJ828 z829 z830 z831 hm59
            exact absurd hm59 (M_zero b825 (by decide))
          | succ n ih59 =>
            intro w821 w822 w823 h827 b824 b825 b826 hJ828 z829 z830 z831 hm59
            refine ev_iload rfl rfl rfl ?_
            refine ev_if_le rfl rfl (fun c832 => ?_) (fun c832 => ?_)
            · have b833 : B w822 0 0 := R_leX b825 (by decide : B 0 0 0) c832 (by decide)
              refine ev_aload_n rfl rfl rfl ?_
              refine ev_getR (y := 42) rfl rfl fl_X4_40 rfl rfl rfl rfl ?_
              refine ev_iload rfl rfl rfl ?_
              refine ev_aload_n rfl rfl rfl ?_
              refine ev_getR (y := 40) rfl rfl fl_X4_28 rfl rfl rfl rfl ?_
              refine ev_iload rfl rfl rfl ?_
              refine ev_ialW (n := 32) (l := (-2147483648)) (u := 2147483647) hJ828.1 b826 (by decide) (by decide) (fun _ => rfl) rfl rfl rfl (fun v835 b835 e835 => ?_)
              refine ev_iasW (n := 24) (l := (-2147483648)) (u := 2147483647) hJ828 b690 (by decide) (by decide) (fun _ => rfl) (B.any v835) (by decide) (by decide) (fun _ => rfl) rfl rfl rfl rfl (fun h836 hJ836 k836 => ?_)
              refine ev_aload_n rfl rfl rfl ?_
              refine ev_dup rfl rfl rfl ?_
              refine ev_getW (l := (-2147483648)) (u := 2147483647) hJ836.1 rfl rfl rfl fl_X4_46 rfl rfl rfl (fun v837 b837 e837 => ?_)
              refine ev_aload_n rfl rfl rfl ?_
              refine ev_getR (y := 40) rfl rfl fl_X4_28 rfl rfl rfl rfl ?_
              refine ev_iload rfl rfl rfl ?_
              refine ev_ialW (n := 32) (l := (-2147483648)) (u := 2147483647) hJ836.1 b826 (by decide) (by decide) (fun _ => rfl) rfl rfl rfl (fun v838 b838 e838 => ?_)
              refine ev_S1P rfl rfl lk_X4_123 st_J6_bitCount_0f7a4 rfl rfl (w_any (c_bitCount (G0 L true) h836 v838)) (fun r839 q839 => ?_)
              refine ev_iaddA rfl rfl (fun v840 g840 => ?_)
              refine ev_putW (l := (-2147483648)) (u := 2147483647) hJ836 rfl (B.any v840) (by decide) (by decide) rfl rfl rfl fl_X4_46 rfl rfl rfl rfl rfl (fun h841 hJ841 k841 => ?_)
              refine ev_aload_n rfl rfl rfl ?_
              refine ev_iload rfl rfl rfl ?_
              refine ev_aload_n rfl rfl rfl ?_
              refine ev_getR (y := 41) rfl rfl fl_X4_31 rfl rfl rfl rfl ?_
              refine ev_iload rfl rfl rfl ?_
              refine ev_ialW (n := 32) (l := (-2147483648)) (u := 2147483647) hJ841.1 b826 (by decide) (by decide) (fun _ => rfl) rfl rfl rfl (fun v842 b842 e842 => ?_)
              refine ev_V2P rfl rfl lk_X4_129 vt_X1_after rfl rfl rfl rfl rfl (w_X1_after_2 L true h841 hJ841.1 w821 v842) (fun r843 q843 => ?_)
              refine ev_istore rfl rfl rfl rfl ?_
              dsimp only [List.set]
              refine ev_iincB (y := 1) (l := 1) (u := 24) rfl rfl rfl (by decide) rfl rfl b690 (by decide : B 1 1 1) (by decide) (by decide) (by decide) (by decide) (fun v844 b844 e844 => ?_)
              dsimp only [List.set]
              refine ev_goto rfl rfl ?_
              exact (EvQ.drop 7 (ih17 r843 w822 v844 h841 q843 (b833.mono (by decide) (by decide)) (b844.mono (by decide) (by decide)) hJ841 (rd_o k841 (rd_a k836 z829 rfl) rfl) (L_up hm17 (e_p1 e844 (by decide)))))
            · have b834 : B w822 1 8 := R_ltY (by decide : B 0 0 0) b825 (Int32.not_le.mp c832) (by decide)
              refine ev_aload_n rfl rfl rfl ?_
              refine ev_aload_n rfl rfl rfl ?_
              refine ev_iload rfl rfl rfl ?_
              refine ev_iload rfl rfl rfl ?_
              refine ev_iload rfl rfl rfl ?_
              refine ev_iload rfl rfl rfl ?_
              refine ev_V5P rfl rfl lk_X4_148 vt_X4_worthOf rfl rfl rfl rfl rfl (w_X4_worthOf_37_2 L h827 hJ828.1 w681 b690 w821 b824 w822 (b834.mono (by decide) (by decide)) w823 b826) (fun r845 q845 => ?_)
              refine ev_aload_n rfl rfl rfl ?_
              refine ev_getR (y := 95) rfl rfl fl_X4_9 rfl rfl rfl rfl ?_
              refine ev_iload rfl rfl rfl ?_
              refine ev_iload rfl rfl rfl ?_
              refine ev_S2P rfl rfl lk_X4_84 st_X4_cell rfl rfl (w_X4_cell_v0_24_v0_200 L true h827 hJ828.1 w681 (b690.mono (by decide) (by decide)) w821 b824) (fun r846 q846 => ?_)
              obtain ⟨b846, pp846_0⟩ := q846
              refine ev_iload rfl rfl rfl ?_
              refine ev_iaddB (l := 1) (u := 45224) rfl rfl b846 b834 (by decide) (by decide) (by decide) (by decide) (fun v847 b847 e847 g847 => ?_)
              refine ev_ialW (n := 45225) (l := (-2147483648)) (u := 2147483647) hJ828.1 b847 (by decide) (by decide) (fun _ => rfl) rfl rfl rfl (fun v848 b848 e848 => ?_)
              refine ev_icmp_ge rfl rfl (fun c849 => ?_) (fun c849 => ?_)
              · refine ev_aload_n rfl rfl rfl ?_
                refine ev_getR (y := 42) rfl rfl fl_X4_40 rfl rfl rfl rfl ?_
                refine ev_iload rfl rfl rfl ?_
                refine ev_aload_n rfl rfl rfl ?_
                refine ev_getR (y := 40) rfl rfl fl_X4_28 rfl rfl rfl rfl ?_
                refine ev_iload rfl rfl rfl ?_
                refine ev_ialW (n := 32) (l := (-2147483648)) (u := 2147483647) hJ828.1 b826 (by decide) (by decide) (fun _ => rfl) rfl rfl rfl (fun v852 b852 e852 => ?_)
                refine ev_iasW (n := 24) (l := (-2147483648)) (u := 2147483647) hJ828 b690 (by decide) (by decide) (fun _ => rfl) (B.any v852) (by decide) (by decide) (fun _ => rfl) rfl rfl rfl rfl (fun h853 hJ853 k853 => ?_)
                refine ev_aload_n rfl rfl rfl ?_
                refine ev_dup rfl rfl rfl ?_
                refine ev_getW (l := (-2147483648)) (u := 2147483647) hJ853.1 rfl rfl rfl fl_X4_46 rfl rfl rfl (fun v854 b854 e854 => ?_)
                refine ev_aload_n rfl rfl rfl ?_
                refine ev_getR (y := 40) rfl rfl fl_X4_28 rfl rfl rfl rfl ?_
                refine ev_iload rfl rfl rfl ?_
                refine ev_ialW (n := 32) (l := (-2147483648)) (u := 2147483647) hJ853.1 b826 (by decide) (by decide) (fun _ => rfl) rfl rfl rfl (fun v855 b855 e855 => ?_)
                refine ev_S1P rfl rfl lk_X4_123 st_J6_bitCount_0f7a4 rfl rfl (w_any (c_bitCount (G0 L true) h853 v855)) (fun r856 q856 => ?_)
                refine ev_iaddA rfl rfl (fun v857 g857 => ?_)
                refine ev_putW (l := (-2147483648)) (u := 2147483647) hJ853 rfl (B.any v857) (by decide) (by decide) rfl rfl rfl fl_X4_46 rfl rfl rfl rfl rfl (fun h858 hJ858 k858 => ?_)
                refine ev_aload_n rfl rfl rfl ?_
                refine ev_iload rfl rfl rfl ?_
                refine ev_aload_n rfl rfl rfl ?_
                refine ev_getR (y := 41) rfl rfl fl_X4_31 rfl rfl rfl rfl ?_
                refine ev_iload rfl rfl rfl ?_
                refine ev_ialW (n := 32) (l := (-2147483648)) (u := 2147483647) hJ858.1 b826 (by decide) (by decide) (fun _ => rfl) rfl rfl rfl (fun v859 b859 e859 => ?_)
                refine ev_V2P rfl rfl lk_X4_129 vt_X1_after rfl rfl rfl rfl rfl (w_X1_after_2 L true h858 hJ858.1 w821 v859) (fun r860 q860 => ?_)
                refine ev_istore rfl rfl rfl rfl ?_
                dsimp only [List.set]
                refine ev_iincB (y := 1) (l := 1) (u := 24) rfl rfl rfl (by decide) rfl rfl b690 (by decide : B 1 1 1) (by decide) (by decide) (by decide) (by decide) (fun v861 b861 e861 => ?_)
                dsimp only [List.set]
                refine ev_goto rfl rfl ?_
                exact (EvQ.drop 7 (ih17 r860 w822 v861 h858 q860 (b834.mono (by decide) (by decide)) (b861.mono (by decide) (by decide)) hJ858 (rd_o k858 (rd_a k853 z829 rfl) rfl) (L_up hm17 (e_p1 e861 (by decide)))))
              · have b850 : B r845 (-2147483648) 2147483646 := R_ltX (B.any r845) (B.any v848) (Int32.not_le.mp c849) (by decide)
                have b851 : B v848 (-2147483647) 2147483647 := R_ltY (B.any r845) (B.any v848) (Int32.not_le.mp c849) (by decide)
                refine ev_aload_n rfl rfl rfl ?_
                refine ev_iload rfl rfl rfl ?_
                refine ev_aload_n rfl rfl rfl ?_
                refine ev_getW (l := (-2147483648)) (u := 2147483647) hJ828.1 rfl rfl rfl fl_X4_37 rfl rfl rfl (fun v862 b862 e862 => ?_)
                refine ev_V2P rfl rfl lk_X4_129 vt_X1_after rfl rfl rfl rfl rfl (w_X1_after_2 L true h827 hJ828.1 w821 v862) (fun r863 q863 => ?_)
                refine ev_istore rfl rfl rfl rfl ?_
                dsimp only [List.set]
                refine ev_iincB (y := (-1)) (l := 0) (u := 7) rfl rfl rfl (by decide) rfl rfl b834 (by decide : B (-1) (-1) (-1)) (by decide) (by decide) (by decide) (by decide) (fun v864 b864 e864 => ?_)
                dsimp only [List.set]
                refine ev_aload_n rfl rfl rfl ?_
                refine ev_getR (y := 43) rfl rfl fl_X4_43 rfl rfl rfl rfl ?_
                refine ev_iload rfl rfl rfl ?_
                refine ev_dup2 rfl rfl rfl rfl ?_
                refine ev_ialW (n := 24) (l := (-2147483648)) (u := 2147483647) hJ828.1 b690 (by decide) (by decide) (fun _ => rfl) rfl rfl rfl (fun v865 b865 e865 => ?_)
                refine ev_iconst (v := 1) rfl rfl (by decide) ?_
                refine ev_iaddA rfl rfl (fun v866 g866 => ?_)
                refine ev_iasW (n := 24) (l := (-2147483648)) (u := 2147483647) hJ828 b690 (by decide) (by decide) (fun _ => rfl) (B.any v866) (by decide) (by decide) (fun _ => rfl) rfl rfl rfl rfl (fun h867 hJ867 k867 => ?_)
                refine ev_aload_n rfl rfl rfl ?_
                refine ev_aload_n rfl rfl rfl ?_
                refine ev_iload rfl rfl rfl ?_
                refine ev_iload rfl rfl rfl ?_
                refine ev_iload rfl rfl rfl ?_
                refine ev_V4P rfl rfl lk_X4_144 vt_X4_bestOption rfl rfl rfl rfl rfl (w_X4_bestOption_37_2 L h867 hJ867.1 w681 b690 r863 q863 v864 (b864.mono (by decide) (by decide)) (B.at (rd_a k867 z831 rfl) m696)) (fun r868 q868 => ?_)
                refine ev_istore rfl rfl rfl rfl ?_
                dsimp only [List.set]
                refine ev_goto rfl rfl ?_
                exact (ih59 r863 v864 r868 h867 q863 (b864.mono (by decide) (by decide)) q868 hJ867 (rd_a k867 z829 rfl) (rd_a k867 z830 rfl) (rd_a k867 z831 rfl) (M_dn hm59 (e_m1 e864 (by decide))))
        exact (lp59_820 9 w679 w680 r699 h698 b682 b683 q699 hJ698 (rd_a k698 (rd_w k696 z687 rfl) rfl) (rd_a k698 (rd_w k696 e688 rfl) rfl) (rd_a k698 ef697 rfl) (M_init b683 (by decide)))
  exact (lp17_678 25 v1 a0 0 h2 b1 p0 ((by decide : B 0 0 0).mono (by decide) (by decide)) hJ2 (rd_o k2 e1 rfl) (L_init (by decide : B 0 0 0) (by decide)))
