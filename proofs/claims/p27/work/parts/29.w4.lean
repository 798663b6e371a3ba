set_option maxRecDepth 100000 in
set_option maxHeartbeats 4000000 in
theorem w_X4_takeTune_37_28 (L : Nat) (b : Bool) (h : Hp) (hB : Bx h) (a0 : Int32) (p0 : B a0 0 5) (a1 : Int32) : EvN mi_X4_takeTune [.ref 37, .ref 28, .int a0, .int a1] (G0 L b) h [(37, 3), (39, 999)] := by
  refine EvM.of2 (lo := [some (.ref 37), some (.ref 28), some (.int a0), some (.int a1), none]) pf_X4_takeTune ok_X4_takeTune rfl rfl ?_
  have hJ0 : JW [(37, 3), (39, 999)] h h := JW.refl hB
  refine ev_aload_n rfl rfl rfl ?_
  refine ev_aload_n rfl rfl rfl ?_
  refine ev_getR (y := 36) rfl rfl fl_X4_62 rfl rfl rfl rfl ?_
  refine ev_iload_n rfl rfl rfl ?_
  refine ev_ialW (n := 6) (l := 0) (u := 24) hJ0.1 p0 (by decide) (by decide) (fun _ => rfl) rfl rfl rfl (fun v1 b1 e1 => ?_)
  refine ev_putW (l := 0) (u := 24) hJ0 rfl b1 (by decide) (by decide) rfl rfl rfl fl_X4_21 rfl rfl rfl rfl rfl (fun h2 hJ2 k2 => ?_)
  refine ev_iconst (v := 0) rfl rfl (by decide) ?_
  refine ev_istore rfl rfl rfl rfl ?_
  dsimp only [List.set]
  have lp13_39 : ∀ (n : Nat) (w40 : Int32) (h42 : Hp), B w40 0 24 → JW [(37, 3), (39, 999)] h h42 → (h42 37 3 = v1) → 24 + 1 - w40.toInt ≤ (n : Int) → EvQ mi_X4_takeTune 13 [some (.ref 37), some (.ref 28), some (.int a0), some (.int a1), some (.int w40)] [] (G0 L b) h42 0 0 (QN [(37, 3), (39, 999)] (G0 L b) h) := by
    intro n
    induction n with
    | zero =>
      intro w40 h42 b41 hJ43 z44 hm
      exact absurd hm (L_zero b41 (by decide))
    | succ n ih =>
      intro w40 h42 b41 hJ43 z44 hm
      refine ev_iload rfl rfl rfl ?_
      refine ev_aload_n rfl rfl rfl ?_
      refine ev_getV (v := v1) rfl rfl fl_X4_21 rfl rfl rfl z44 ?_
      refine ev_icmp_ge rfl rfl (fun c45 => ?_) (fun c45 => ?_)
      · exact ev_vret rfl rfl trivial ⟨rfl, rfl, hJ43⟩
      · have b46 : B w40 0 23 := R_ltX b41 b1 (Int32.not_le.mp c45) (by decide)
        have b47 : B v1 1 24 := R_ltY b41 b1 (Int32.not_le.mp c45) (by decide)
        refine ev_aload_n rfl rfl rfl ?_
        refine ev_getR (y := 39) rfl rfl fl_X4_18 rfl rfl rfl rfl ?_
        refine ev_iload rfl rfl rfl ?_
        refine ev_aload_n rfl rfl rfl ?_
        refine ev_iload_n rfl rfl rfl ?_
        refine ev_iload rfl rfl rfl ?_
        refine ev_iload_n rfl rfl rfl ?_
        refine ev_V3P rfl rfl lk_X4_66 vt_X7_chordIn rfl rfl rfl rfl rfl (w_X7_chordIn_28 L b h42 hJ43.1 a0 p0 w40 b46 a1) (fun r48 q48 => ?_)
        refine ev_iasW (n := 24) (l := (-2147483648)) (u := 2147483647) hJ43 b46 (by decide) (by decide) (fun _ => rfl) (B.any r48) (by decide) (by decide) (fun _ => rfl) rfl rfl rfl rfl (fun h49 hJ49 k49 => ?_)
        refine ev_iincB (y := 1) (l := 1) (u := 24) rfl rfl rfl (by decide) rfl rfl b46 (by decide : B 1 1 1) (by decide) (by decide) (by decide) (by decide) (fun v50 b50 e50 => ?_)
        dsimp only [List.set]
        refine ev_goto rfl rfl ?_
        exact (ih v50 h49 (b50.mono (by decide) (by decide)) hJ49 (rd_a k49 z44 rfl) (L_up hm (e_p1 e50 (by decide))))
  exact (lp13_39 25 0 h2 ((by decide : B 0 0 0).mono (by decide) (by decide)) hJ2 (rd_s k2) (L_init (by decide : B 0 0 0) (by decide)))

set_option maxRecDepth 100000 in
set_option maxHeartbeats 4000000 in
theorem w_X4_isFor_37 (L : Nat) (b : Bool) (h : Hp) (hB : Bx h) (a0 : Int32) (a1 : Int32) (a2 : Int32) (a3 : Int32) (a4 : Int32) : EvP mi_X4_isFor [.ref 37, .int a0, .int a1, .int a2, .int a3, .int a4] (G0 L b) h (fun r : Int32 => B r 0 1) := by
  refine EvM.of2 (lo := [some (.ref 37), some (.int a0), some (.int a1), some (.int a2), some (.int a3), some (.int a4)]) pf_X4_isFor ok_X4_isFor rfl rfl ?_
  refine ev_aload_n rfl rfl rfl ?_
  refine ev_getW (l := (-2147483648)) (u := 2147483647) hB rfl rfl rfl fl_X4_58 rfl rfl rfl (fun v1 b1 e1 => ?_)
  refine ev_if_eq rfl rfl (fun c2 => ?_) (fun c2 => ?_)
  · have b3 : B v1 0 0 := R_eqX (B.any v1) (by decide : B 0 0 0) c2
    refine ev_iconst (v := 0) rfl rfl (by decide) ?_
    exact ev_iret rfl rfl rfl ⟨⟨_, rfl, ((by decide : B 0 0 0).mono (by decide) (by decide))⟩, rfl, rfl⟩
  · refine ev_aload_n rfl rfl rfl ?_
    refine ev_getR (y := 44) rfl rfl fl_X4_55 rfl rfl rfl rfl ?_
    refine ev_iconst (v := 0) rfl rfl (by decide) ?_
    refine ev_ialW (n := 5) (l := (-2147483648)) (u := 2147483647) hB (by decide : B 0 0 0) (by decide) (by decide) (fun _ => rfl) rfl rfl rfl (fun v4 b4 e4 => ?_)
    refine ev_iload_n rfl rfl rfl ?_
    refine ev_icmp_ne rfl rfl (fun c5 => ?_) (fun c5 => ?_)
    · refine ev_iconst (v := 0) rfl rfl (by decide) ?_
      exact ev_iret rfl rfl rfl ⟨⟨_, rfl, ((by decide : B 0 0 0).mono (by decide) (by decide))⟩, rfl, rfl⟩
    · refine ev_aload_n rfl rfl rfl ?_
      refine ev_getR (y := 44) rfl rfl fl_X4_55 rfl rfl rfl rfl ?_
      refine ev_iconst (v := 1) rfl rfl (by decide) ?_
      refine ev_ialW (n := 5) (l := (-2147483648)) (u := 2147483647) hB (by decide : B 1 1 1) (by decide) (by decide) (fun _ => rfl) rfl rfl rfl (fun v6 b6 e6 => ?_)
      refine ev_iload_n rfl rfl rfl ?_
      refine ev_icmp_ne rfl rfl (fun c7 => ?_) (fun c7 => ?_)
      · refine ev_iconst (v := 0) rfl rfl (by decide) ?_
        exact ev_iret rfl rfl rfl ⟨⟨_, rfl, ((by decide : B 0 0 0).mono (by decide) (by decide))⟩, rfl, rfl⟩
      · refine ev_aload_n rfl rfl rfl ?_
        refine ev_getR (y := 44) rfl rfl fl_X4_55 rfl rfl rfl rfl ?_
        refine ev_iconst (v := 2) rfl rfl (by decide) ?_
        refine ev_ialW (n := 5) (l := (-2147483648)) (u := 2147483647) hB (by decide : B 2 2 2) (by decide) (by decide) (fun _ => rfl) rfl rfl rfl (fun v8 b8 e8 => ?_)
        refine ev_iload_n rfl rfl rfl ?_
        refine ev_icmp_ne rfl rfl (fun c9 => ?_) (fun c9 => ?_)
        · refine ev_iconst (v := 0) rfl rfl (by decide) ?_
          exact ev_iret rfl rfl rfl ⟨⟨_, rfl, ((by decide : B 0 0 0).mono (by decide) (by decide))⟩, rfl, rfl⟩
        · refine ev_aload_n rfl rfl rfl ?_
          refine ev_getR (y := 44) rfl rfl fl_X4_55 rfl rfl rfl rfl ?_
          refine ev_iconst (v := 3) rfl rfl (by decide) ?_
          refine ev_ialW (n := 5) (l := (-2147483648)) (u := 2147483647) hB (by decide : B 3 3 3) (by decide) (by decide) (fun _ => rfl) rfl rfl rfl (fun v10 b10 e10 => ?_)
          refine ev_iload rfl rfl rfl ?_
          refine ev_icmp_ne rfl rfl (fun c11 => ?_) (fun c11 => ?_)
          · refine ev_iconst (v := 0) rfl rfl (by decide) ?_
            exact ev_iret rfl rfl rfl ⟨⟨_, rfl, ((by decide : B 0 0 0).mono (by decide) (by decide))⟩, rfl, rfl⟩
          · refine ev_aload_n rfl rfl rfl ?_
            refine ev_getR (y := 44) rfl rfl fl_X4_55 rfl rfl rfl rfl ?_
            refine ev_iconst (v := 4) rfl rfl (by decide) ?_
            refine ev_ialW (n := 5) (l := (-2147483648)) (u := 2147483647) hB (by decide : B 4 4 4) (by decide) (by decide) (fun _ => rfl) rfl rfl rfl (fun v12 b12 e12 => ?_)
            refine ev_iload rfl rfl rfl ?_
            refine ev_icmp_ne rfl rfl (fun c13 => ?_) (fun c13 => ?_)
            · refine ev_iconst (v := 0) rfl rfl (by decide) ?_
              exact ev_iret rfl rfl rfl ⟨⟨_, rfl, ((by decide : B 0 0 0).mono (by decide) (by decide))⟩, rfl, rfl⟩
            · refine ev_iconst (v := 1) rfl rfl (by decide) ?_
              refine ev_goto rfl rfl ?_
              exact ev_iret rfl rfl rfl ⟨⟨_, rfl, ((by decide : B 1 1 1).mono (by decide) (by decide))⟩, rfl, rfl⟩

set_option maxRecDepth 100000 in
set_option maxHeartbeats 4000000 in
theorem w_X4_remember_37 (L : Nat) (b : Bool) (h : Hp) (hB : Bx h) (a0 : Int32) (a1 : Int32) (a2 : Int32) (a3 : Int32) (a4 : Int32) : EvN mi_X4_remember [.ref 37, .int a0, .int a1, .int a2, .int a3, .int a4] (G0 L b) h [(37, 15), (44, 999)] := by
  refine EvM.of2 (lo := [some (.ref 37), some (.int a0), some (.int a1), some (.int a2), some (.int a3), some (.int a4)]) pf_X4_remember ok_X4_remember rfl rfl ?_
  have hJ0 : JW [(37, 15), (44, 999)] h h := JW.refl hB
  refine ev_aload_n rfl rfl rfl ?_
  refine ev_getR (y := 44) rfl rfl fl_X4_55 rfl rfl rfl rfl ?_
  refine ev_iconst (v := 0) rfl rfl (by decide) ?_
  refine ev_iload_n rfl rfl rfl ?_
  refine ev_iasW (n := 5) (l := (-2147483648)) (u := 2147483647) hJ0 (by decide : B 0 0 0) (by decide) (by decide) (fun _ => rfl) (B.any a0) (by decide) (by decide) (fun _ => rfl) rfl rfl rfl rfl (fun h1 hJ1 k1 => ?_)
  refine ev_aload_n rfl rfl rfl ?_
  refine ev_getR (y := 44) rfl rfl fl_X4_55 rfl rfl rfl rfl ?_
  refine ev_iconst (v := 1) rfl rfl (by decide) ?_
  refine ev_iload_n rfl rfl rfl ?_
  refine ev_iasW (n := 5) (l := (-2147483648)) (u := 2147483647) hJ1 (by decide : B 1 1 1) (by decide) (by decide) (fun _ => rfl) (B.any a1) (by decide) (by decide) (fun _ => rfl) rfl rfl rfl rfl (fun h2 hJ2 k2 => ?_)
  refine ev_aload_n rfl rfl rfl ?_
  refine ev_getR (y := 44) rfl rfl fl_X4_55 rfl rfl rfl rfl ?_
  refine ev_iconst (v := 2) rfl rfl (by decide) ?_
  refine ev_iload_n rfl rfl rfl ?_
  refine ev_iasW (n := 5) (l := (-2147483648)) (u := 2147483647) hJ2 (by decide : B 2 2 2) (by decide) (by decide) (fun _ => rfl) (B.any a2) (by decide) (by decide) (fun _ => rfl) rfl rfl rfl rfl (fun h3 hJ3 k3 => ?_)
  refine ev_aload_n rfl rfl rfl ?_
  refine ev_getR (y := 44) rfl rfl fl_X4_55 rfl rfl rfl rfl ?_
  refine ev_iconst (v := 3) rfl rfl (by decide) ?_
  refine ev_iload rfl rfl rfl ?_
  refine ev_iasW (n := 5) (l := (-2147483648)) (u := 2147483647) hJ3 (by decide : B 3 3 3) (by decide) (by decide) (fun _ => rfl) (B.any a3) (by decide) (by decide) (fun _ => rfl) rfl rfl rfl rfl (fun h4 hJ4 k4 => ?_)
  refine ev_aload_n rfl rfl rfl ?_
  refine ev_getR (y := 44) rfl rfl fl_X4_55 rfl rfl rfl rfl ?_
  refine ev_iconst (v := 4) rfl rfl (by decide) ?_
  refine ev_iload rfl rfl rfl ?_
  refine ev_iasW (n := 5) (l := (-2147483648)) (u := 2147483647) hJ4 (by decide : B 4 4 4) (by decide) (by decide) (fun _ => rfl) (B.any a4) (by decide) (by decide) (fun _ => rfl) rfl rfl rfl rfl (fun h5 hJ5 k5 => ?_)
  refine ev_aload_n rfl rfl rfl ?_
  refine ev_iconst (v := 1) rfl rfl (by decide) ?_
  refine ev_puzW (l := (-2147483648)) (u := 2147483647) hJ5 rfl ((by decide : B 1 1 1).mono (by decide) (by decide)) (by decide) (by decide) rfl rfl rfl fl_X4_58 rfl rfl rfl rfl rfl (fun h6 hJ6 k6 => ?_)
  exact ev_vret rfl rfl trivial ⟨rfl, rfl, hJ6⟩

set_option maxRecDepth 100000 in
set_option maxHeartbeats 4000000 in
theorem w_X4_markNear_37_4 (L : Nat) (b : Bool) (h : Hp) (hB : Bx h) (a0 : Int32) : EvN mi_X4_markNear [.ref 37, .ref 4, .int a0] (G0 L b) h [(38, 999)] := by
  refine EvM.of2 (lo := [some (.ref 37), some (.ref 4), some (.int a0), none, none]) pf_X4_markNear ok_X4_markNear rfl rfl ?_
  have hJ0 : JW [(38, 999)] h h := JW.refl hB
  refine ev_iconst (v := 0) rfl rfl (by decide) ?_
  refine ev_istore_n rfl rfl rfl rfl ?_
  dsimp only [List.set]
  have lp2_474 : ∀ (n : Nat) (w475 : Int32) (h477 : Hp), B w475 0 201 → JW [(38, 999)] h h477 → 201 + 1 - w475.toInt ≤ (n : Int) → EvQ mi_X4_markNear 2 [some (.ref 37), some (.ref 4), some (.int a0), some (.int w475), none] [] (G0 L b) h477 0 0 (QN [(38, 999)] (G0 L b) h) := by
    intro n
    induction n with
    | zero =>
      intro w475 h477 b476 hJ478 hm
      exact absurd hm (L_zero b476 (by decide))
    | succ n ih =>
      intro w475 h477 b476 hJ478 hm
      refine ev_iload_n rfl rfl rfl ?_
      refine ev_sipush (v := 201) rfl rfl (by decide) ?_
      refine ev_icmp_ge rfl rfl (fun c479 => ?_) (fun c479 => ?_)
      · have b480 : B w475 201 201 := R_leY (by decide : B 201 201 201) b476 c479 (by decide)
        exact ev_vret rfl rfl trivial ⟨rfl, rfl, hJ478⟩
      · have b481 : B w475 0 200 := R_ltX b476 (by decide : B 201 201 201) (Int32.not_le.mp c479) (by decide)
        refine ev_aload_n rfl rfl rfl ?_
        refine ev_getR (y := 38) rfl rfl fl_X4_15 rfl rfl rfl rfl ?_
        refine ev_iload_n rfl rfl rfl ?_
        refine ev_iconst (v := 0) rfl rfl (by decide) ?_
        refine ev_iasW (n := 201) (l := (-2147483648)) (u := 2147483647) hJ478 b481 (by decide) (by decide) (fun _ => rfl) (by decide : B 0 0 0) (by decide) (by decide) (fun _ => rfl) rfl rfl rfl rfl (fun h482 hJ482 k482 => ?_)
        refine ev_iconst (v := 0) rfl rfl (by decide) ?_
        refine ev_istore rfl rfl rfl rfl ?_
        dsimp only [List.set]
        have lp19_573 : ∀ (n : Nat) (w574 : Int32) (h576 : Hp), B w574 0 12 → JW [(38, 999)] h h576 → 12 + 1 - w574.toInt ≤ (n : Int) → EvQ mi_X4_markNear 19 [some (.ref 37), some (.ref 4), some (.int a0), some (.int w475), some (.int w574)] [] (G0 L b) h576 0 0 (QN [(38, 999)] (G0 L b) h) := by
          intro n
          induction n with
          | zero =>
            intro w574 h576 b575 hJ577 hm
            exact absurd hm (L_zero b575 (by decide))
          | succ n ih =>
            intro w574 h576 b575 hJ577 hm
            refine ev_iload rfl rfl rfl ?_
            refine ev_aload_n rfl rfl rfl ?_
            refine ev_getW (l := 0) (u := 12) hJ577.1 rfl rfl rfl fl_X4_107 rfl rfl rfl (fun v578 b578 e578 => ?_)
            refine ev_icmp_ge rfl rfl (fun c579 => ?_) (fun c579 => ?_)
            · refine ev_iincB (y := 1) (l := 1) (u := 201) rfl rfl rfl (by decide) rfl rfl b481 (by decide : B 1 1 1) (by decide) (by decide) (by decide) (by decide) (fun v582 b582 e582 => ?_)
              dsimp only [List.set]
              refine ev_goto rfl rfl ?_
              exact (EvQ.drop 4 (ih v582 h576 (b582.mono (by decide) (by decide)) hJ577 (L_up hm (e_p1 e582 (by decide)))))
            · have b580 : B w574 0 11 := R_ltX b575 b578 (Int32.not_le.mp c579) (by decide)
              have b581 : B v578 1 12 := R_ltY b575 b578 (Int32.not_le.mp c579) (by decide)
              refine ev_aload_n rfl rfl rfl ?_
              refine ev_getR (y := 38) rfl rfl fl_X4_15 rfl rfl rfl rfl ?_
              refine ev_iload_n rfl rfl rfl ?_
              refine ev_dup2 rfl rfl rfl rfl ?_
              refine ev_ialW (n := 201) (l := (-2147483648)) (u := 2147483647) hJ577.1 b481 (by decide) (by decide) (fun _ => rfl) rfl rfl rfl (fun v583 b583 e583 => ?_)
              refine ev_aload_n rfl rfl rfl ?_
              refine ev_iload rfl rfl rfl ?_
              refine ev_iload_n rfl rfl rfl ?_
              refine ev_iload_n rfl rfl rfl ?_
              refine ev_V3P rfl rfl lk_X4_110 vt_X8_isNear rfl rfl rfl rfl rfl (w_X8_isNear_4 L b h576 hJ577.1 w574 b580 w475 a0) (fun r584 q584 => ?_)
              refine ev_if_eq rfl rfl (fun c585 => ?_) (fun c585 => ?_)
              · have b586 : B r584 0 0 := R_eqX q584 (by decide : B 0 0 0) c585
                refine ev_iconst (v := 0) rfl rfl (by decide) ?_
                refine ev_iorA rfl rfl (fun v588 => ?_)
                refine ev_iasW (n := 201) (l := (-2147483648)) (u := 2147483647) hJ577 b481 (by decide) (by decide) (fun _ => rfl) (B.any v588) (by decide) (by decide) (fun _ => rfl) rfl rfl rfl rfl (fun h589 hJ589 k589 => ?_)
                refine ev_iincB (y := 1) (l := 1) (u := 12) rfl rfl rfl (by decide) rfl rfl b580 (by decide : B 1 1 1) (by decide) (by decide) (by decide) (by decide) (fun v590 b590 e590 => ?_)
                dsimp only [List.set]
                refine ev_goto rfl rfl ?_
                exact (ih v590 h589 (b590.mono (by decide) (by decide)) hJ589 (L_up hm (e_p1 e590 (by decide))))
              · have b587 : B r584 1 1 := R_neL q584 (by decide : B 0 0 0) c585 (by decide)
                refine ev_iconst (v := 1) rfl rfl (by decide) ?_
                refine ev_iload rfl rfl rfl ?_
                refine ev_ishlB rfl rfl b580 (by decide) (by decide) (fun v591 b591 => ?_)
                refine ev_goto rfl rfl ?_
                refine ev_iorA rfl rfl (fun v592 => ?_)
                refine ev_iasW (n := 201) (l := (-2147483648)) (u := 2147483647) hJ577 b481 (by decide) (by decide) (fun _ => rfl) (B.any v592) (by decide) (by decide) (fun _ => rfl) rfl rfl rfl rfl (fun h593 hJ593 k593 => ?_)
                refine ev_iincB (y := 1) (l := 1) (u := 12) rfl rfl rfl (by decide) rfl rfl b580 (by decide : B 1 1 1) (by decide) (by decide) (by decide) (by decide) (fun v594 b594 e594 => ?_)
                dsimp only [List.set]
                refine ev_goto rfl rfl ?_
                exact (ih v594 h593 (b594.mono (by decide) (by decide)) hJ593 (L_up hm (e_p1 e594 (by decide))))
        exact (lp19_573 13 0 h482 ((by decide : B 0 0 0).mono (by decide) (by decide)) hJ482 (L_init (by decide : B 0 0 0) (by decide)))
  exact (lp2_474 202 0 h ((by decide : B 0 0 0).mono (by decide) (by decide)) hJ0 (L_init (by decide : B 0 0 0) (by decide)))

set_option maxRecDepth 100000 in
set_option maxHeartbeats 4000000 in
theorem w_X4_listOptions_37_4 (L : Nat) (b : Bool) (h : Hp) (hB : Bx h) (a0 : Int32) : EvN mi_X4_listOptions [.ref 37, .ref 4, .int a0] (G0 L b) h [(37, 7), (40, 999), (41, 999)] := by
  refine EvM.of2 (lo := [some (.ref 37), some (.ref 4), some (.int a0), none, none]) pf_X4_listOptions ok_X4_listOptions rfl rfl ?_
  have hJ0 : JW [(37, 7), (40, 999), (41, 999)] h h := JW.refl hB
  refine ev_aload_n rfl rfl rfl ?_
  refine ev_iconst (v := 0) rfl rfl (by decide) ?_
  refine ev_putW (l := 0) (u := 32) hJ0 rfl (by decide : B 0 0 0) (by decide) (by decide) rfl rfl rfl fl_X4_34 rfl rfl rfl rfl rfl (fun h1 hJ1 k1 => ?_)
  refine ev_iload_n rfl rfl rfl ?_
  refine ev_istore_n rfl rfl rfl rfl ?_
  dsimp only [List.set]
  refine ev_iconst (v := 0) rfl rfl (by decide) ?_
  refine ev_istore rfl rfl rfl rfl ?_
  dsimp only [List.set]
  have lp10_105 : ∀ (n : Nat) (w106 : Int32) (w107 : Int32) (h109 : Hp), B w107 0 1 → JW [(37, 7), (40, 999), (41, 999)] h h109 → 32 + 1 - (h109 37 7).toInt ≤ (n : Int) → EvQ mi_X4_listOptions 10 [some (.ref 37), some (.ref 4), some (.int a0), some (.int w106), some (.int w107)] [] (G0 L b) h109 0 0 (QN [(37, 7), (40, 999), (41, 999)] (G0 L b) h) := by
    intro n
    induction n with
    | zero =>
      intro w106 w107 h109 b108 hJ110 hm
      obtain ⟨f111, ef111⟩ : ∃ f_, h109 37 7 = f_ := ⟨_, rfl⟩
      have bf111 : B f111 0 32 := by
        have z_ := hJ110.1 37 7
        rw [ef111] at z_
        exact z_
      rw [ef111] at hm
      exact absurd hm (L_zero bf111 (by decide))
    | succ n ih =>
      intro w106 w107 h109 b108 hJ110 hm
      obtain ⟨f111, ef111⟩ : ∃ f_, h109 37 7 = f_ := ⟨_, rfl⟩
      have bf111 : B f111 0 32 := by
        have z_ := hJ110.1 37 7
        rw [ef111] at z_
        exact z_
      rw [ef111] at hm
      refine ev_aload_n rfl rfl rfl ?_
      refine ev_getV (v := f111) rfl rfl fl_X4_34 rfl rfl rfl ef111 ?_
      refine ev_bipush (v := 32) rfl rfl (by decide) ?_
      refine ev_icmp_ge rfl rfl (fun c112 => ?_) (fun c112 => ?_)
      · have b113 : B f111 32 32 := R_leY (by decide : B 32 32 32) bf111 c112 (by decide)
        exact ev_vret rfl rfl trivial ⟨rfl, rfl, hJ110⟩
      · have b114 : B f111 0 31 := R_ltX bf111 (by decide : B 32 32 32) (Int32.not_le.mp c112) (by decide)
        refine ev_iload rfl rfl rfl ?_
        refine ev_if_ne rfl rfl (fun c115 => ?_) (fun c115 => ?_)
        · have b116 : B w107 1 1 := R_neL b108 (by decide : B 0 0 0) c115 (by decide)
          exact ev_vret rfl rfl trivial ⟨rfl, rfl, hJ110⟩
        · have b117 : B w107 0 0 := R_eqX b108 (by decide : B 0 0 0) c115
          refine ev_aload_n rfl rfl rfl ?_
          refine ev_getR (y := 40) rfl rfl fl_X4_28 rfl rfl rfl rfl ?_
          refine ev_aload_n rfl rfl rfl ?_
          refine ev_getV (v := f111) rfl rfl fl_X4_34 rfl rfl rfl ef111 ?_
          refine ev_iload_n rfl rfl rfl ?_
          refine ev_iasW (n := 32) (l := (-2147483648)) (u := 2147483647) hJ110 b114 (by decide) (by decide) (fun _ => rfl) (B.any w106) (by decide) (by decide) (fun _ => rfl) rfl rfl rfl rfl (fun h118 hJ118 k118 => ?_)
          refine ev_aload_n rfl rfl rfl ?_
          refine ev_getR (y := 41) rfl rfl fl_X4_31 rfl rfl rfl rfl ?_
          refine ev_aload_n rfl rfl rfl ?_
          refine ev_getV (v := f111) rfl rfl fl_X4_34 rfl rfl rfl (rd_a k118 ef111 rfl) ?_
          refine ev_aload_n rfl rfl rfl ?_
          refine ev_iload_n rfl rfl rfl ?_
          refine ev_aload_n rfl rfl rfl ?_
          refine ev_getW (l := (-2147483648)) (u := 2147483647) hJ118.1 rfl rfl rfl fl_X4_71 rfl rfl rfl (fun v119 b119 e119 => ?_)
          refine ev_V2P rfl rfl lk_X4_76 vt_X8_drawnBy rfl rfl rfl rfl rfl (w_X8_drawnBy_4 L b h118 hJ118.1 w106 v119) (fun r120 q120 => ?_)
          refine ev_iasW (n := 32) (l := (-2147483648)) (u := 2147483647) hJ118 b114 (by decide) (by decide) (fun _ => rfl) (B.any r120) (by decide) (by decide) (fun _ => rfl) rfl rfl rfl rfl (fun h121 hJ121 k121 => ?_)
          refine ev_aload_n rfl rfl rfl ?_
          refine ev_dup rfl rfl rfl ?_
          refine ev_getV (v := f111) rfl rfl fl_X4_34 rfl rfl rfl (rd_a k121 (rd_a k118 ef111 rfl) rfl) ?_
          refine ev_iconst (v := 1) rfl rfl (by decide) ?_
          refine ev_iaddB (l := 1) (u := 32) rfl rfl b114 (by decide : B 1 1 1) (by decide) (by decide) (by decide) (by decide) (fun v122 b122 e122 g122 => ?_)
          refine ev_putW (l := 0) (u := 32) hJ121 rfl b122 (by decide) (by decide) rfl rfl rfl fl_X4_34 rfl rfl rfl rfl rfl (fun h123 hJ123 k123 => ?_)
          refine ev_iload_n rfl rfl rfl ?_
          refine ev_if_ne rfl rfl (fun c124 => ?_) (fun c124 => ?_)
          · refine ev_iconst (v := 0) rfl rfl (by decide) ?_
            refine ev_istore rfl rfl rfl rfl ?_
            dsimp only [List.set]
            refine ev_iload_n rfl rfl rfl ?_
            refine ev_iconst (v := 1) rfl rfl (by decide) ?_
            refine ev_isubA rfl rfl (fun v126 g126 => ?_)
            refine ev_iload_n rfl rfl rfl ?_
            refine ev_iandA rfl rfl (fun v127 => ?_)
            refine ev_istore_n rfl rfl rfl rfl ?_
            dsimp only [List.set]
            refine ev_goto rfl rfl ?_
            exact (ih v127 0 h123 ((by decide : B 0 0 0).mono (by decide) (by decide)) hJ123 (by rw [(rd_s k123)]; exact L_up hm (e_p1 e122 (by decide))))
          · have b125 : B w106 0 0 := R_eqX (B.any w106) (by decide : B 0 0 0) c124
            refine ev_iconst (v := 1) rfl rfl (by decide) ?_
            refine ev_goto rfl rfl ?_
            refine ev_istore rfl rfl rfl rfl ?_
            dsimp only [List.set]
            refine ev_iload_n rfl rfl rfl ?_
            refine ev_iconst (v := 1) rfl rfl (by decide) ?_
            refine ev_isubB (l := -1) (u := -1) rfl rfl b125 (by decide : B 1 1 1) (by decide) (by decide) (by decide) (by decide) (fun v128 b128 e128 g128 => ?_)
            refine ev_iload_n rfl rfl rfl ?_
            refine ev_iandA rfl rfl (fun v129 => ?_)
            refine ev_istore_n rfl rfl rfl rfl ?_
            dsimp only [List.set]
            refine ev_goto rfl rfl ?_
            exact (ih v129 1 h123 ((by decide : B 1 1 1).mono (by decide) (by decide)) hJ123 (by rw [(rd_s k123)]; exact L_up hm (e_p1 e122 (by decide))))
  exact (lp10_105 33 a0 0 h1 ((by decide : B 0 0 0).mono (by decide) (by decide)) hJ1 (by rw [(rd_s k1)]; exact L_init (by decide : B 0 0 0) (by decide)))
