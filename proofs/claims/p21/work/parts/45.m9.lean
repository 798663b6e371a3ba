set_option maxRecDepth 100000 in
set_option maxHeartbeats 4000000 in
theorem w_X10_fills_63 (L : Nat) (b : Bool) (h : Hp) (hB : Bx h) (a0 : Int32) (p0 : B a0 0 5) (a1 : Int32) (a2 : Int32) (a3 : Int32) (p3 : B a3 0 8) (rp0 : (h 63 0).toInt ≤ (h 63 3).toInt) : EvN mi_X10_fills [.ref 63, .int a0, .int a1, .int a2, .int a3] (G0 L b) h [(63, 35), (63, 36), (63, 37), (78, 999), (79, 999), (80, 999), (81, 999), (82, 999), (83, 999), (84, 999)] := by
  refine EvM.of2 (lo := [some (.ref 63), some (.int a0), some (.int a1), some (.int a2), some (.int a3), none, none, none, none, none, none, none]) pf_X10_fills ok_X10_fills rfl rfl ?_
  have hJ0 : JW [(63, 35), (63, 36), (63, 37), (78, 999), (79, 999), (80, 999), (81, 999), (82, 999), (83, 999), (84, 999)] h h := JW.refl hB
  obtain ⟨f1, ef1⟩ : ∃ f_, h 63 0 = f_ := ⟨_, rfl⟩
  have bf1 : B f1 0 200 := by have z_ := hJ0.1 63 0; rw [ef1] at z_; exact z_
  have zf1 := congrArg Int32.toInt ef1
  obtain ⟨f2, ef2⟩ : ∃ f_, h 63 3 = f_ := ⟨_, rfl⟩
  have bf2 : B f2 0 200 := by have z_ := hJ0.1 63 3; rw [ef2] at z_; exact z_
  have zf2 := congrArg Int32.toInt ef2
  obtain ⟨f3, ef3⟩ : ∃ f_, h 63 35 = f_ := ⟨_, rfl⟩
  have bf3 : B f3 0 4095 := by have z_ := hJ0.1 63 35; rw [ef3] at z_; exact z_
  have zf3 := congrArg Int32.toInt ef3
  refine ev_aload_n rfl rfl rfl ?_
  refine ev_getR (y := 73) rfl rfl fl_X10_51 rfl rfl rfl rfl ?_
  refine ev_iload_n rfl rfl rfl ?_
  refine ev_ialW (n := 6) (l := 0) (u := 24) hJ0.1 p0 (by decide) (by decide) (fun _ => rfl) rfl rfl rfl (fun v4 b4 e4 => ?_)
  refine ev_istore rfl rfl rfl rfl ?_
  dsimp only [List.set]
  refine ev_aload_n rfl rfl rfl ?_
  refine ev_iload_n rfl rfl rfl ?_
  refine ev_V1N hJ0 rfl rfl rfl lk_X10_304 vt_X10_prepares rfl rfl rfl rfl rfl (w_X10_prepares_63 L b h hJ0.1 a2) (fun h5 hJ5 k5  => ?_)
  refine ev_aload_n rfl rfl rfl ?_
  refine ev_iload_n rfl rfl rfl ?_
  refine ev_iload_n rfl rfl rfl ?_
  refine ev_iload rfl rfl rfl ?_
  refine ev_V3K hJ5 rfl rfl rfl lk_X10_307 vt_X10_meets rfl rfl rfl rfl rfl (w_X10_meets_63 L b h5 hJ5.1 a0 p0 a1 a3 p3) (fun h6 hJ6 k6 m6 => ?_)
  have gi7 : GI h6 h6 a0 a1 a3.toInt (h6 73 (Int32.toNatClampNeg a0)).toInt 9 0 := GI.base m6 (k6.2 63 0 rfl) (k6.2 63 2 rfl) (k6.2 63 3 rfl) (fun j_ => k6.2 73 j_ rfl) (fun j_ => k6.2 74 j_ rfl) (fun j_ => k6.2 81 j_ rfl) (fun j_ => k6.2 82 j_ rfl)
  have hg8 : B (h6 63 3) 0 200 := hJ6.1 63 3
  have z9 := congrArg Int32.toInt (rd_w k6 (rd_w k5 e4 rfl) rfl)
  have z10 := congrArg Int32.toInt (rd_w k6 (rd_w k5 ef1 rfl) rfl)
  have z11 := congrArg Int32.toInt (rd_w k6 (rd_w k5 ef2 rfl) rfl)
  have z12 := congrArg Int32.toInt (rd_w k6 (rd_w k5 ef3 rfl) rfl)
  refine ev_iconst (v := 0) rfl rfl (by decide) ?_
  refine ev_istore rfl rfl rfl rfl ?_
  dsimp only [List.set]
  have lp24_36727 : ∀ (n : Nat) (w36728 : Int32) (h36730 : Hp), B w36728 0 1809 → JW [(63, 35), (63, 36), (63, 37), (78, 999), (79, 999), (80, 999), (81, 999), (82, 999), (83, 999), (84, 999)] h h36730 → (h36730 63 0 = f1) → (h36730 63 3 = f2) → (h36730 63 35 = f3) → (h36730 73 (Int32.toNatClampNeg a0) = v4) → (FR h6 h36730) → 1809 + 1 - w36728.toInt ≤ (n : Int) → EvQ mi_X10_fills 24 [some (.ref 63), some (.int a0), some (.int a1), some (.int a2), some (.int a3), some (.int v4), some (.int w36728), none, none, none, none, none] [] (G0 L b) h36730 0 0 (QN [(63, 35), (63, 36), (63, 37), (78, 999), (79, 999), (80, 999), (81, 999), (82, 999), (83, 999), (84, 999)] (G0 L b) h) := by
    intro n
    induction n with
    | zero =>
      intro w36728 h36730 b36729 hJ36731 z36732 z36733 z36734 z36735 fr24 hm24
      exact absurd hm24 (L_zero b36729 (by decide))
    | succ n ih24 =>
      intro w36728 h36730 b36729 hJ36731 z36732 z36733 z36734 z36735 fr24 hm24
      have z36736 := congrArg Int32.toInt z36732
      have z36737 := congrArg Int32.toInt z36733
      have z36738 := congrArg Int32.toInt z36734
      refine ev_iload rfl rfl rfl ?_
      refine ev_sipush (v := 1809) rfl rfl (by decide) ?_
      refine ev_icmp_ge rfl rfl (fun c36739 => ?_) (fun c36739 => ?_)
      · have b36740 : B w36728 1809 1809 := R_leY (by decide : B 1809 1809 1809) b36729 c36739 (by decide)
        have z36741 := w_le c36739
        rw [show (1809 : Int32).toInt = 1809 from by decide] at z36741
        refine ev_iload rfl rfl rfl ?_
        refine ev_iconst (v := 1) rfl rfl (by decide) ?_
        refine ev_isubB (l := -1) (u := 23) rfl rfl b4 (by decide : B 1 1 1) (by decide) (by decide) (by decide) (by decide) (fun v36744 b36744 e36744 g36744 => ?_)
        have e36744x := e36744; rw [show (1 : Int32).toInt = 1 from by decide] at e36744x
        refine ev_istore rfl rfl rfl rfl ?_
        dsimp only [List.set]
        have lp59_45903 : ∀ (n : Nat) (w45904 : Int32) (h45906 : Hp), B w45904 (-1) 23 → JW [(63, 35), (63, 36), (63, 37), (78, 999), (79, 999), (80, 999), (81, 999), (82, 999), (83, 999), (84, 999)] h h45906 → (h45906 63 0 = f1) → (h45906 63 3 = f2) → (h45906 73 (Int32.toNatClampNeg a0) = v4) → (FR h6 h45906) → (TB h6 h45906 a0 a1 w45904.toInt 0 0) → w45904.toInt + 1 - (-1) ≤ (n : Int) → EvQ mi_X10_fills 59 [some (.ref 63), some (.int a0), some (.int a1), some (.int a2), some (.int a3), some (.int v4), some (.int w45904), none, none, none, none, none] [] (G0 L b) h45906 0 0 (QN [(63, 35), (63, 36), (63, 37), (78, 999), (79, 999), (80, 999), (81, 999), (82, 999), (83, 999), (84, 999)] (G0 L b) h) := by
          intro n
          induction n with
          | zero =>
            intro w45904 h45906 b45905 hJ45907 z45908 z45909 z45910 fr59 u59_0 hm59
            exact absurd hm59 (M_zero b45905 (by decide))
          | succ n ih59 =>
            intro w45904 h45906 b45905 hJ45907 z45908 z45909 z45910 fr59 u59_0 hm59
            obtain ⟨f45911, ef45911⟩ : ∃ f_, h45906 63 35 = f_ := ⟨_, rfl⟩
            have bf45911 : B f45911 0 4095 := by have z_ := hJ45907.1 63 35; rw [ef45911] at z_; exact z_
            have zf45911 := congrArg Int32.toInt ef45911
            have z45912 := congrArg Int32.toInt z45908
            have z45913 := congrArg Int32.toInt z45909
            refine ev_iload rfl rfl rfl ?_
            refine ev_if_lt rfl rfl (fun c45914 => ?_) (fun c45914 => ?_)
            · have b45915 : B w45904 (-1) (-1) := R_ltX b45905 (by decide : B 0 0 0) c45914 (by decide)
              have z45916 := w_lt c45914
              rw [show (0 : Int32).toInt = 0 from by decide] at z45916
              refine ev_aload_n rfl rfl rfl ?_
              have tb45919 : TB h6 h45906 a0 a1 (-1) 1 0 := (TB.to u59_0 (fun i_ p_ _ _ _ _ _ => by have z_ := w_lits; omega))
              refine ev_getV (v := f1) rfl rfl fl_X10_7 rfl rfl rfl z45908 ?_
              refine ev_istore rfl rfl rfl rfl ?_
              dsimp only [List.set]
              refine ev_iload rfl rfl rfl ?_
              refine ev_istore rfl rfl rfl rfl ?_
              dsimp only [List.set]
              refine ev_aload_n rfl rfl rfl ?_
              refine ev_iconst (v := 0) rfl rfl (by decide) ?_
              refine ev_putW (l := (-2147483648)) (u := 2147483647) hJ45907 rfl (by decide : B 0 0 0) (by decide) (by decide) rfl rfl rfl fl_X10_315 rfl rfl rfl rfl rfl (fun h45920 hJ45920 k45920 => ?_)
              refine ev_iconst (v := 0) rfl rfl (by decide) ?_
              refine ev_istore rfl rfl rfl rfl ?_
              dsimp only [List.set]
              have lp238_46463 : ∀ (n : Nat) (w46464 : Int32) (w46465 : Int32) (w46466 : Int32) (h46470 : Hp), B w46464 0 200 → B w46465 0 8 → B w46466 0 24 → JW [(63, 35), (63, 36), (63, 37), (78, 999), (79, 999), (80, 999), (81, 999), (82, 999), (83, 999), (84, 999)] h h46470 → (h46470 63 0 = f1) → (h46470 63 3 = f2) → (h46470 73 (Int32.toNatClampNeg a0) = v4) → (FR h6 h46470) → (TB h6 h46470 a0 a1 (-1) 1 0) → (met h6 w46466.toInt w46465.toInt w46464.toInt) → (w46464.toInt ≤ (h6 63 3).toInt ∧ w46465.toInt ≤ a3.toInt) → 24 + 1 - w46466.toInt ≤ (n : Int) → EvQ mi_X10_fills 238 [some (.ref 63), some (.int a0), some (.int a1), some (.int a2), some (.int a3), some (.int v4), some (.int w46464), some (.int w46465), some (.int w46466), none, none, none] [] (G0 L b) h46470 0 0 (QN [(63, 35), (63, 36), (63, 37), (78, 999), (79, 999), (80, 999), (81, 999), (82, 999), (83, 999), (84, 999)] (G0 L b) h) := by
                intro n
                induction n with
                | zero =>
                  intro w46464 w46465 w46466 h46470 b46467 b46468 b46469 hJ46471 z46472 z46473 z46474 fr238 tb238 u238_0 u238_1 hm238
                  exact absurd hm238 (L_zero b46469 (by decide))
                | succ n ih238 =>
                  intro w46464 w46465 w46466 h46470 b46467 b46468 b46469 hJ46471 z46472 z46473 z46474 fr238 tb238 u238_0 u238_1 hm238
                  obtain ⟨f46475, ef46475⟩ : ∃ f_, h46470 63 35 = f_ := ⟨_, rfl⟩
                  have bf46475 : B f46475 0 4095 := by have z_ := hJ46471.1 63 35; rw [ef46475] at z_; exact z_
                  have zf46475 := congrArg Int32.toInt ef46475
                  have z46476 := congrArg Int32.toInt z46472
                  have z46477 := congrArg Int32.toInt z46473
                  refine ev_iload rfl rfl rfl ?_
                  refine ev_iload rfl rfl rfl ?_
                  refine ev_icmp_ge rfl rfl (fun c46478 => ?_) (fun c46478 => ?_)
                  · have z46479 := w_le c46478
                    refine ev_aload_n rfl rfl rfl ?_
                    refine ev_iload rfl rfl rfl ?_
                    refine ev_putW (l := (-2147483648)) (u := 2147483647) hJ46471 rfl b46467 (by decide) (by decide) rfl rfl rfl fl_X10_318 rfl rfl rfl rfl rfl (fun h46483 hJ46483 k46483 => ?_)
                    exact ev_vret rfl rfl trivial ⟨rfl, rfl, hJ46483⟩
                  · have b46480 : B w46466 0 23 := R_ltX b46469 b4 (Int32.not_le.mp c46478) (by decide)
                    have b46481 : B v4 1 24 := R_ltY b46469 b4 (Int32.not_le.mp c46478) (by decide)
                    have z46482 := w_lt (Int32.not_le.mp c46478)
                    refine ev_aload_n rfl rfl rfl ?_
                    refine ev_aload_n rfl rfl rfl ?_
                    refine ev_iload_n rfl rfl rfl ?_
                    refine ev_iload rfl rfl rfl ?_
                    refine ev_V2P rfl rfl lk_X10_263 vt_X10_chordAt rfl rfl rfl rfl rfl (w_chordAtK L b h46470 hJ46471.1 a0 w46466 p0 b46480) (fun r46484 q46484 => ?_)
                    obtain ⟨b46484, pp46484_0⟩ := q46484
                    refine ev_iload_n rfl rfl rfl ?_
                    refine ev_V2P rfl rfl lk_X10_276 vt_X10_moved rfl rfl rfl rfl rfl (w_movedE L b h46470 r46484 a1) (fun r46485 q46485 => ?_)
                    obtain ⟨b46485, pp46485_0⟩ := q46485
                    have hc46486 : r46485 = chd h6 a0 a1 w46466.toInt := chd_of pp46485_0 pp46484_0 (fr238 74 _ rfl)
                    refine ev_istore rfl rfl rfl rfl ?_
                    dsimp only [List.set]
                    refine ev_aload_n rfl rfl rfl ?_
                    refine ev_getR (y := 80) rfl rfl fl_X10_73 rfl rfl rfl rfl ?_
                    refine ev_iload rfl rfl rfl ?_
                    refine ev_iconst (v := 0) rfl rfl (by decide) ?_
                    refine ev_iasW (n := 24) (l := (-2147483648)) (u := 2147483647) hJ46471 b46480 (by decide) (by decide) (fun _ => rfl) (by decide : B 0 0 0) (by decide) (by decide) (fun _ => rfl) rfl rfl rfl rfl (fun h46487 hJ46487 k46487 => ?_)
                    have lp267_46565 : ∀ (n : Nat) (w46566 : Int32) (w46567 : Int32) (h46570 : Hp), B w46566 0 200 → B w46567 0 8 → JW [(63, 35), (63, 36), (63, 37), (78, 999), (79, 999), (80, 999), (81, 999), (82, 999), (83, 999), (84, 999)] h h46570 → (h46570 63 0 = f1) → (h46570 63 3 = f2) → (h46570 73 (Int32.toNatClampNeg a0) = v4) → (FR h6 h46570) → (TB h6 h46570 a0 a1 (-1) 1 0) → (met h6 w46466.toInt w46567.toInt w46566.toInt) → (w46566.toInt ≤ (h6 63 3).toInt ∧ w46567.toInt ≤ a3.toInt) → w46567.toInt + 1 - 0 ≤ (n : Int) → EvQ mi_X10_fills 267 [some (.ref 63), some (.int a0), some (.int a1), some (.int a2), some (.int a3), some (.int v4), some (.int w46566), some (.int w46567), some (.int w46466), some (.int r46485), none, none] [] (G0 L b) h46570 0 0 (QN [(63, 35), (63, 36), (63, 37), (78, 999), (79, 999), (80, 999), (81, 999), (82, 999), (83, 999), (84, 999)] (G0 L b) h) := by
                      intro n
                      induction n with
                      | zero =>
                        intro w46566 w46567 h46570 b46568 b46569 hJ46571 z46572 z46573 z46574 fr267 tb267 u267_0 u267_1 hm267
                        exact absurd hm267 (M_zero b46569 (by decide))
                      | succ n ih267 =>
                        intro w46566 w46567 h46570 b46568 b46569 hJ46571 z46572 z46573 z46574 fr267 tb267 u267_0 u267_1 hm267
                        obtain ⟨f46575, ef46575⟩ : ∃ f_, h46570 63 35 = f_ := ⟨_, rfl⟩
                        have bf46575 : B f46575 0 4095 := by have z_ := hJ46571.1 63 35; rw [ef46575] at z_; exact z_
                        have zf46575 := congrArg Int32.toInt ef46575
                        have z46576 := congrArg Int32.toInt z46572
                        have z46577 := congrArg Int32.toInt z46573
                        refine ev_aload_n rfl rfl rfl ?_
                        refine ev_iload rfl rfl rfl ?_
                        refine ev_iload rfl rfl rfl ?_
                        refine ev_iload rfl rfl rfl ?_
                        refine ev_iload rfl rfl rfl ?_
                        refine ev_V4I hJ46571 rfl rfl rfl lk_X10_311 vt_X10_bestSound rfl rfl rfl rfl rfl (w_X10_bestSound_63 L b h46570 hJ46571.1 r46485 w46466 b46480 w46567 b46569 w46566 b46568) (fun r46578 h46578 q46578 hJ46578 k46578 => ?_)
                        obtain ⟨b46578, m46578_0, m46578_1, m46578_2, m46578_3⟩ := q46578
                        obtain ⟨f46579, ef46579⟩ : ∃ f_, h46578 63 35 = f_ := ⟨_, rfl⟩
                        have bf46579 : B f46579 0 4095 := by have z_ := hJ46578.1 63 35; rw [ef46579] at z_; exact z_
                        have zf46579 := congrArg Int32.toInt ef46579
                        have hE46580 : EnF (r46485 &&& h46570 81 (Int32.toNatClampNeg w46566)) (r46485 &&& h46570 81 (Int32.toNatClampNeg w46566)) f46579 := by have z_ := m46578_3; rw [ef46579] at z_; exact z_
                        refine ev_aload_n rfl rfl rfl ?_
                        refine ev_getR (y := 78) rfl rfl fl_X10_67 rfl rfl rfl rfl ?_
                        refine ev_aload_n rfl rfl rfl ?_
                        refine ev_iload rfl rfl rfl ?_
                        refine ev_iload rfl rfl rfl ?_
                        refine ev_iload rfl rfl rfl ?_
                        have z46581 := congrArg Int32.toInt (rd_w k46578 z46572 rfl)
                        have z46582 := congrArg Int32.toInt (rd_w k46578 z46573 rfl)
                        refine ev_V3P rfl rfl lk_X10_293 vt_X10_spot rfl rfl rfl rfl rfl (w_spotK L b h46578 hJ46578.1 w46466 w46567 w46566 (b46480.mono (by decide) (by decide)) b46569 b46568) (fun r46583 q46583 => ?_)
                        obtain ⟨b46583, pp46583_0⟩ := q46583
                        refine ev_ialG (n := 45225) hJ46578.1 b46583 (by decide) (by decide) rfl rfl rfl (fun v46584 b46584 e46584 => ?_)
                        have b46584z := tb_get b46584 (by have z0_ := congrArg Int32.toInt (rd_w k46578 z46572 rfl); have z1_ := congrArg Int32.toInt (rd_w k46578 z46573 rfl); have z2_ := congrArg Int32.toInt ef46579; have z_ := w_lits; have zl_ := l_lits; omega)
                        have b46584k : B v46584 0 4608 := ⟨b46584z.1, (by have z0_ := congrArg Int32.toInt (rd_w k46578 z46572 rfl); have z1_ := congrArg Int32.toInt (rd_w k46578 z46573 rfl); have z2_ := congrArg Int32.toInt ef46579; have z_ := w_lits; have zl_ := l_lits; omega)⟩
                        refine ev_icmp_eq rfl rfl (fun c46585 => ?_) (fun c46585 => ?_)
                        · have b46586 : B r46578 0 4608 := R_eqX b46578 b46584k c46585
                          have z46587 := congrArg Int32.toInt c46585
                          refine ev_aload_n rfl rfl rfl ?_
                          refine ev_getR (y := 79) rfl rfl fl_X10_70 rfl rfl rfl rfl ?_
                          refine ev_iload rfl rfl rfl ?_
                          refine ev_aload_n rfl rfl rfl ?_
                          refine ev_getV (v := f46579) rfl rfl fl_X10_301 rfl rfl rfl ef46579 ?_
                          refine ev_iasW (n := 24) (l := (-2147483648)) (u := 2147483647) hJ46578 b46480 (by decide) (by decide) (fun _ => rfl) bf46579 (by decide) (by decide) (fun _ => rfl) rfl rfl rfl rfl (fun h46589 hJ46589 k46589 => ?_)
                          refine ev_aload_n rfl rfl rfl ?_
                          refine ev_dup rfl rfl rfl ?_
                          refine ev_getW (l := (-2147483648)) (u := 2147483647) hJ46589.1 rfl rfl rfl fl_X10_315 rfl rfl rfl (fun v46590 b46590 e46590 => ?_)
                          refine ev_aload_n rfl rfl rfl ?_
                          refine ev_getR (y := 83) rfl rfl fl_X10_82 rfl rfl rfl rfl ?_
                          refine ev_aload_n rfl rfl rfl ?_
                          refine ev_getV (v := f46579) rfl rfl fl_X10_301 rfl rfl rfl (rd_a k46589 ef46579 rfl) ?_
                          refine ev_ialG (n := 4096) hJ46589.1 bf46579 (by decide) (by decide) rfl rfl rfl (fun v46591 b46591 e46591 => ?_)
                          have b46591k : B v46591 0 12 := mb_get b46591
                          refine ev_iaddA rfl rfl (fun v46592 g46592 => ?_)
                          refine ev_putW (l := (-2147483648)) (u := 2147483647) hJ46589 rfl (B.any v46592) (by decide) (by decide) rfl rfl rfl fl_X10_315 rfl rfl rfl rfl rfl (fun h46593 hJ46593 k46593 => ?_)
                          refine ev_aload_n rfl rfl rfl ?_
                          refine ev_iload rfl rfl rfl ?_
                          refine ev_aload_n rfl rfl rfl ?_
                          refine ev_getR (y := 82) rfl rfl fl_X10_79 rfl rfl rfl rfl ?_
                          refine ev_aload_n rfl rfl rfl ?_
                          refine ev_getV (v := f46579) rfl rfl fl_X10_301 rfl rfl rfl (rd_o k46593 (rd_a k46589 ef46579 rfl) rfl) ?_
                          refine ev_ialW (n := 4096) (l := (-2147483648)) (u := 2147483647) hJ46593.1 bf46579 (by decide) (by decide) (fun _ => rfl) rfl rfl rfl (fun v46594 b46594 e46594 => ?_)
                          have z46595 := congrArg Int32.toInt (rd_o k46593 (rd_a k46589 (rd_w k46578 z46572 rfl) rfl) rfl)
                          have z46596 := congrArg Int32.toInt (rd_o k46593 (rd_a k46589 (rd_w k46578 z46573 rfl) rfl) rfl)
                          have z46597 := congrArg Int32.toInt (rd_o k46593 (rd_a k46589 ef46579 rfl) rfl)
                          refine ev_V2P rfl rfl lk_X10_297 vt_X10_then rfl rfl rfl rfl rfl (w_thenK L b h46593 h6 hJ6.1 ((FR.set (FR.set (FR.call fr267 k46578 rfl) k46589 rfl) k46593 rfl) 63 2 rfl) ((FR.set (FR.set (FR.call fr267 k46578 rfl) k46589 rfl) k46593 rfl) 63 3 rfl) w46566 v46594) (fun r46598 q46598 => ?_)
                          obtain ⟨b46598, pp46598_0, pp46598_1⟩ := q46598
                          refine ev_istore rfl rfl rfl rfl ?_
                          dsimp only [List.set]
                          refine ev_iincB (y := 1) (l := 1) (u := 24) rfl rfl rfl (by decide) rfl rfl b46480 (by decide : B 1 1 1) (by decide) (by decide) (by decide) (by decide) (fun v46599 b46599 e46599 => ?_)
                          dsimp only [List.set]
                          have e46599x := e46599; rw [show (1 : Int32).toInt = 1 from by decide] at e46599x
                          refine ev_goto rfl rfl ?_
                          exact (EvQ.drop 9 (ih238 r46598 w46567 v46599 h46593 b46598 b46569 (b46599.mono (by decide) (by decide)) hJ46593 (rd_o k46593 (rd_a k46589 (rd_w k46578 z46572 rfl) rfl) rfl) (rd_o k46593 (rd_a k46589 (rd_w k46578 z46573 rfl) rfl) rfl) (rd_o k46593 (rd_a k46589 (rd_w k46578 z46574 rfl) rfl) rfl) (FR.set (FR.set (FR.call fr267 k46578 rfl) k46589 rfl) k46593 rfl) (TB.set (TB.set (TB.call tb267 hg8 k46578 (fun _ => rfl)) hg8 k46589 rfl) hg8 k46593 rfl) (met.eq (fol_sound fr267 hc46486 hE46580 gi7 u267_0 (by have z0_ := congrArg Int32.toInt (rd_o k46593 (rd_a k46589 (rd_w k46578 z46572 rfl) rfl) rfl); have z1_ := congrArg Int32.toInt (rd_o k46593 (rd_a k46589 (rd_w k46578 z46573 rfl) rfl) rfl); have z2_ := congrArg Int32.toInt (rd_o k46593 (rd_a k46589 ef46579 rfl) rfl); have z_ := w_lits; have zl_ := l_lits; omega) (by have z0_ := congrArg Int32.toInt (rd_o k46593 (rd_a k46589 (rd_w k46578 z46572 rfl) rfl) rfl); have z1_ := congrArg Int32.toInt (rd_o k46593 (rd_a k46589 (rd_w k46578 z46573 rfl) rfl) rfl); have z2_ := congrArg Int32.toInt (rd_o k46593 (rd_a k46589 ef46579 rfl) rfl); have z_ := w_lits; have zl_ := l_lits; omega) (by have z0_ := congrArg Int32.toInt (rd_o k46593 (rd_a k46589 (rd_w k46578 z46572 rfl) rfl) rfl); have z1_ := congrArg Int32.toInt (rd_o k46593 (rd_a k46589 (rd_w k46578 z46573 rfl) rfl) rfl); have z2_ := congrArg Int32.toInt (rd_o k46593 (rd_a k46589 ef46579 rfl) rfl); have z_ := w_lits; have zl_ := l_lits; omega) (by have z0_ := congrArg Int32.toInt (rd_o k46593 (rd_a k46589 (rd_w k46578 z46572 rfl) rfl) rfl); have z1_ := congrArg Int32.toInt (rd_o k46593 (rd_a k46589 (rd_w k46578 z46573 rfl) rfl) rfl); have z2_ := congrArg Int32.toInt (rd_o k46593 (rd_a k46589 ef46579 rfl) rfl); have z_ := w_lits; have zl_ := l_lits; omega) (by have z0_ := congrArg Int32.toInt (rd_o k46593 (rd_a k46589 (rd_w k46578 z46572 rfl) rfl) rfl); have z1_ := congrArg Int32.toInt (rd_o k46593 (rd_a k46589 (rd_w k46578 z46573 rfl) rfl) rfl); have z2_ := congrArg Int32.toInt (rd_o k46593 (rd_a k46589 ef46579 rfl) rfl); have z_ := w_lits; have zl_ := l_lits; omega) (by have z0_ := congrArg Int32.toInt (rd_o k46593 (rd_a k46589 (rd_w k46578 z46572 rfl) rfl) rfl); have z1_ := congrArg Int32.toInt (rd_o k46593 (rd_a k46589 (rd_w k46578 z46573 rfl) rfl) rfl); have z2_ := congrArg Int32.toInt (rd_o k46593 (rd_a k46589 ef46579 rfl) rfl); have z_ := w_lits; have zl_ := l_lits; omega) (by rw [← e46594]; exact (FR.set (FR.set (FR.call fr267 k46578 rfl) k46589 rfl) k46593 rfl) 82 _ rfl) pp46598_0) (by have z0_ := congrArg Int32.toInt (rd_o k46593 (rd_a k46589 (rd_w k46578 z46572 rfl) rfl) rfl); have z1_ := congrArg Int32.toInt (rd_o k46593 (rd_a k46589 (rd_w k46578 z46573 rfl) rfl) rfl); have z2_ := congrArg Int32.toInt (rd_o k46593 (rd_a k46589 ef46579 rfl) rfl); have z_ := w_lits; have zl_ := l_lits; omega) rfl rfl) (by have z0_ := congrArg Int32.toInt (rd_o k46593 (rd_a k46589 (rd_w k46578 z46572 rfl) rfl) rfl); have z1_ := congrArg Int32.toInt (rd_o k46593 (rd_a k46589 (rd_w k46578 z46573 rfl) rfl) rfl); have z2_ := congrArg Int32.toInt (rd_o k46593 (rd_a k46589 ef46579 rfl) rfl); have z_ := w_lits; have zl_ := l_lits; omega) (L_up hm238 (e_p1 e46599 (by decide)))))
                        · have z46588 := w_ne c46585
                          have hp46600 : 1 ≤ w46567.toInt := (Int.lt_or_le w46567.toInt 1).elim (fun z_ => absurd (fol_eq fr267 m46578_2 hc46486 k46578 (fun _ => rfl) tb267 u267_0 (by have z0_ := congrArg Int32.toInt (rd_w k46578 z46572 rfl); have z1_ := congrArg Int32.toInt (rd_w k46578 z46573 rfl); have z2_ := congrArg Int32.toInt ef46579; have z_ := w_lits; have zl_ := l_lits; omega) (by have z0_ := congrArg Int32.toInt (rd_w k46578 z46572 rfl); have z1_ := congrArg Int32.toInt (rd_w k46578 z46573 rfl); have z2_ := congrArg Int32.toInt ef46579; have z_ := w_lits; have zl_ := l_lits; omega) (by have z0_ := congrArg Int32.toInt (rd_w k46578 z46572 rfl); have z1_ := congrArg Int32.toInt (rd_w k46578 z46573 rfl); have z2_ := congrArg Int32.toInt ef46579; have z_ := w_lits; have zl_ := l_lits; omega) (by have z0_ := congrArg Int32.toInt (rd_w k46578 z46572 rfl); have z1_ := congrArg Int32.toInt (rd_w k46578 z46573 rfl); have z2_ := congrArg Int32.toInt ef46579; have z_ := w_lits; have zl_ := l_lits; omega) e46584 pp46583_0 (by have z0_ := congrArg Int32.toInt (rd_w k46578 z46572 rfl); have z1_ := congrArg Int32.toInt (rd_w k46578 z46573 rfl); have z2_ := congrArg Int32.toInt ef46579; have z_ := w_lits; have zl_ := l_lits; omega)) c46585) id
                          have b46601 : B w46567 1 8 := ⟨hp46600, b46569.2⟩
                          refine ev_aload_n rfl rfl rfl ?_
                          refine ev_iload rfl rfl rfl ?_
                          refine ev_aload_n rfl rfl rfl ?_
                          refine ev_getR (y := 82) rfl rfl fl_X10_79 rfl rfl rfl rfl ?_
                          refine ev_iconst (v := 0) rfl rfl (by decide) ?_
                          refine ev_ialK (j := 0) (n := 4096) (l := (-2147483648)) (u := 2147483647) hJ46578.1 (by decide : B 0 0 0) (by decide) (by decide) (by decide) rfl rfl rfl rfl (fun v46602 b46602 e46602 => ?_)
                          refine ev_V2P rfl rfl lk_X10_297 vt_X10_then rfl rfl rfl rfl rfl (w_thenK L b h46578 h6 hJ6.1 ((FR.call fr267 k46578 rfl) 63 2 rfl) ((FR.call fr267 k46578 rfl) 63 3 rfl) w46566 v46602) (fun r46603 q46603 => ?_)
                          obtain ⟨b46603, pp46603_0, pp46603_1⟩ := q46603
                          refine ev_istore rfl rfl rfl rfl ?_
                          dsimp only [List.set]
                          refine ev_iincB (y := (-1)) (l := 0) (u := 7) rfl rfl rfl (by decide) rfl rfl b46601 (by decide : B (-1) (-1) (-1)) (by decide) (by decide) (by decide) (by decide) (fun v46604 b46604 e46604 => ?_)
                          dsimp only [List.set]
                          have e46604x := e46604; rw [show ((-1) : Int32).toInt = (-1) from by decide] at e46604x
                          refine ev_aload_n rfl rfl rfl ?_
                          refine ev_getR (y := 80) rfl rfl fl_X10_73 rfl rfl rfl rfl ?_
                          refine ev_iload rfl rfl rfl ?_
                          refine ev_dup2 rfl rfl rfl rfl ?_
                          refine ev_ialW (n := 24) (l := (-2147483648)) (u := 2147483647) hJ46578.1 b46480 (by decide) (by decide) (fun _ => rfl) rfl rfl rfl (fun v46605 b46605 e46605 => ?_)
                          refine ev_iconst (v := 1) rfl rfl (by decide) ?_
                          refine ev_iaddA rfl rfl (fun v46606 g46606 => ?_)
                          refine ev_iasW (n := 24) (l := (-2147483648)) (u := 2147483647) hJ46578 b46480 (by decide) (by decide) (fun _ => rfl) (B.any v46606) (by decide) (by decide) (fun _ => rfl) rfl rfl rfl rfl (fun h46607 hJ46607 k46607 => ?_)
                          refine ev_goto rfl rfl ?_
                          exact (ih267 r46603 v46604 h46607 b46603 (b46604.mono (by decide) (by decide)) hJ46607 (rd_a k46607 (rd_w k46578 z46572 rfl) rfl) (rd_a k46607 (rd_w k46578 z46573 rfl) rfl) (rd_a k46607 (rd_w k46578 z46574 rfl) rfl) (FR.set (FR.call fr267 k46578 rfl) k46607 rfl) (TB.set (TB.call tb267 hg8 k46578 (fun _ => rfl)) hg8 k46607 rfl) (met.eq (fol_rest gi7 u267_0 (by have z0_ := congrArg Int32.toInt (rd_a k46607 (rd_w k46578 z46572 rfl) rfl); have z1_ := congrArg Int32.toInt (rd_a k46607 (rd_w k46578 z46573 rfl) rfl); have z2_ := congrArg Int32.toInt (rd_a k46607 ef46579 rfl); have z_ := w_lits; have zl_ := l_lits; omega) (by have z0_ := congrArg Int32.toInt (rd_a k46607 (rd_w k46578 z46572 rfl) rfl); have z1_ := congrArg Int32.toInt (rd_a k46607 (rd_w k46578 z46573 rfl) rfl); have z2_ := congrArg Int32.toInt (rd_a k46607 ef46579 rfl); have z_ := w_lits; have zl_ := l_lits; omega) (by have z0_ := congrArg Int32.toInt (rd_a k46607 (rd_w k46578 z46572 rfl) rfl); have z1_ := congrArg Int32.toInt (rd_a k46607 (rd_w k46578 z46573 rfl) rfl); have z2_ := congrArg Int32.toInt (rd_a k46607 ef46579 rfl); have z_ := w_lits; have zl_ := l_lits; omega) (by have z0_ := congrArg Int32.toInt (rd_a k46607 (rd_w k46578 z46572 rfl) rfl); have z1_ := congrArg Int32.toInt (rd_a k46607 (rd_w k46578 z46573 rfl) rfl); have z2_ := congrArg Int32.toInt (rd_a k46607 ef46579 rfl); have z_ := w_lits; have zl_ := l_lits; omega) (by have z0_ := congrArg Int32.toInt (rd_a k46607 (rd_w k46578 z46572 rfl) rfl); have z1_ := congrArg Int32.toInt (rd_a k46607 (rd_w k46578 z46573 rfl) rfl); have z2_ := congrArg Int32.toInt (rd_a k46607 ef46579 rfl); have z_ := w_lits; have zl_ := l_lits; omega) (by have z0_ := congrArg Int32.toInt (rd_a k46607 (rd_w k46578 z46572 rfl) rfl); have z1_ := congrArg Int32.toInt (rd_a k46607 (rd_w k46578 z46573 rfl) rfl); have z2_ := congrArg Int32.toInt (rd_a k46607 ef46579 rfl); have z_ := w_lits; have zl_ := l_lits; omega) (by rw [← (rd_a k46607 e46602 rfl)]; exact (FR.set (FR.call fr267 k46578 rfl) k46607 rfl) 82 0 rfl) pp46603_0) rfl (by have z0_ := congrArg Int32.toInt (rd_a k46607 (rd_w k46578 z46572 rfl) rfl); have z1_ := congrArg Int32.toInt (rd_a k46607 (rd_w k46578 z46573 rfl) rfl); have z2_ := congrArg Int32.toInt (rd_a k46607 ef46579 rfl); have z_ := w_lits; have zl_ := l_lits; omega) rfl) (by have z0_ := congrArg Int32.toInt (rd_a k46607 (rd_w k46578 z46572 rfl) rfl); have z1_ := congrArg Int32.toInt (rd_a k46607 (rd_w k46578 z46573 rfl) rfl); have z2_ := congrArg Int32.toInt (rd_a k46607 ef46579 rfl); have z_ := w_lits; have zl_ := l_lits; omega) (M_dn hm267 (e_m1 e46604 (by decide))))
                    exact (lp267_46565 9 w46464 w46465 h46487 b46467 b46468 hJ46487 (rd_a k46487 z46472 rfl) (rd_a k46487 z46473 rfl) (rd_a k46487 z46474 rfl) (FR.set fr238 k46487 rfl) (TB.set tb238 hg8 k46487 rfl) u238_0 u238_1 (M_init b46468 (by decide)))
              exact (lp238_46463 25 f1 a3 0 h45920 bf1 p3 ((by decide : B 0 0 0).mono (by decide) (by decide)) hJ45920 (rd_o k45920 z45908 rfl) (rd_o k45920 z45909 rfl) (rd_o k45920 z45910 rfl) (FR.set fr59 k45920 rfl) (TB.set tb45919 hg8 k45920 rfl) (met.eq gi7.1 (by decide) rfl (by have q_ := congrArg Int32.toInt ((rd_o k45920 z45908 rfl)); have q2_ := congrArg Int32.toInt ((FR.set fr59 k45920 rfl) 63 0 rfl); omega)) (by have q_ := congrArg Int32.toInt ((FR.set fr59 k45920 rfl) 63 3 rfl); have q2_ := congrArg Int32.toInt ((FR.set fr59 k45920 rfl) 63 0 rfl); have z0_ := congrArg Int32.toInt (rd_o k45920 z45908 rfl); have z1_ := congrArg Int32.toInt (rd_o k45920 z45909 rfl); have z2_ := congrArg Int32.toInt (rd_o k45920 ef45911 rfl); have z_ := w_lits; have zl_ := l_lits; omega) (L_init (by decide : B 0 0 0) (by decide)))
            · have b45917 : B w45904 0 23 := R_leY (by decide : B 0 0 0) b45905 (Int32.not_lt.mp c45914) (by decide)
              have z45918 := w_le (Int32.not_lt.mp c45914)
              rw [show (0 : Int32).toInt = 0 from by decide] at z45918
              refine ev_aload_n rfl rfl rfl ?_
              refine ev_aload_n rfl rfl rfl ?_
              refine ev_iload_n rfl rfl rfl ?_
              refine ev_iload rfl rfl rfl ?_
              refine ev_V2P rfl rfl lk_X10_263 vt_X10_chordAt rfl rfl rfl rfl rfl (w_chordAtK L b h45906 hJ45907.1 a0 w45904 p0 b45917) (fun r46608 q46608 => ?_)
              obtain ⟨b46608, pp46608_0⟩ := q46608
              refine ev_iload_n rfl rfl rfl ?_
              refine ev_V2P rfl rfl lk_X10_276 vt_X10_moved rfl rfl rfl rfl rfl (w_movedE L b h45906 r46608 a1) (fun r46609 q46609 => ?_)
              obtain ⟨b46609, pp46609_0⟩ := q46609
              have hc46610 : r46609 = chd h6 a0 a1 w45904.toInt := chd_of pp46609_0 pp46608_0 (fr59 74 _ rfl)
              refine ev_istore rfl rfl rfl rfl ?_
              dsimp only [List.set]
              refine ev_iconst (v := 0) rfl rfl (by decide) ?_
              refine ev_istore rfl rfl rfl rfl ?_
              dsimp only [List.set]
              have lp81_49111 : ∀ (n : Nat) (w49112 : Int32) (h49114 : Hp), B w49112 0 9 → JW [(63, 35), (63, 36), (63, 37), (78, 999), (79, 999), (80, 999), (81, 999), (82, 999), (83, 999), (84, 999)] h h49114 → (h49114 63 0 = f1) → (h49114 63 3 = f2) → (h49114 73 (Int32.toNatClampNeg a0) = v4) → (FR h6 h49114) → (TB h6 h49114 a0 a1 w45904.toInt w49112.toInt 0) → 9 + 1 - w49112.toInt ≤ (n : Int) → EvQ mi_X10_fills 81 [some (.ref 63), some (.int a0), some (.int a1), some (.int a2), some (.int a3), some (.int v4), some (.int w45904), some (.int r46609), some (.int w49112), none, none, none] [] (G0 L b) h49114 0 0 (QN [(63, 35), (63, 36), (63, 37), (78, 999), (79, 999), (80, 999), (81, 999), (82, 999), (83, 999), (84, 999)] (G0 L b) h) := by
                intro n
                induction n with
                | zero =>
                  intro w49112 h49114 b49113 hJ49115 z49116 z49117 z49118 fr81 u81_0 hm81
                  exact absurd hm81 (L_zero b49113 (by decide))
                | succ n ih81 =>
                  intro w49112 h49114 b49113 hJ49115 z49116 z49117 z49118 fr81 u81_0 hm81
                  obtain ⟨f49119, ef49119⟩ : ∃ f_, h49114 63 35 = f_ := ⟨_, rfl⟩
                  have bf49119 : B f49119 0 4095 := by have z_ := hJ49115.1 63 35; rw [ef49119] at z_; exact z_
                  have zf49119 := congrArg Int32.toInt ef49119
                  have z49120 := congrArg Int32.toInt z49116
                  have z49121 := congrArg Int32.toInt z49117
                  refine ev_iload rfl rfl rfl ?_
                  refine ev_iload rfl rfl rfl ?_
                  refine ev_icmp_gt rfl rfl (fun c49122 => ?_) (fun c49122 => ?_)
                  · have b49123 : B w49112 1 9 := R_ltY p3 b49113 c49122 (by decide)
                    have z49124 := w_lt c49122
                    refine ev_iincB (y := (-1)) (l := -1) (u := 22) rfl rfl rfl (by decide) rfl rfl b45917 (by decide : B (-1) (-1) (-1)) (by decide) (by decide) (by decide) (by decide) (fun v49127 b49127 e49127 => ?_)
                    dsimp only [List.set]
                    have e49127x := e49127; rw [show ((-1) : Int32).toInt = (-1) from by decide] at e49127x
                    refine ev_goto rfl rfl ?_
                    exact (EvQ.drop 8 (EvQ.drop 7 (ih59 v49127 h49114 (b49127.mono (by decide) (by decide)) hJ49115 z49116 z49117 z49118 fr81 (TB.to u81_0 (fun i_ p_ _ _ _ _ _ => by have z_ := w_lits; omega)) (M_dn hm59 (e_m1 e49127 (by decide))))))
                  · have b49125 : B w49112 0 8 := R_leX b49113 p3 (Int32.not_lt.mp c49122) (by decide)
                    have z49126 := w_le (Int32.not_lt.mp c49122)
                    refine ev_iconst (v := 0) rfl rfl (by decide) ?_
                    refine ev_istore rfl rfl rfl rfl ?_
                    dsimp only [List.set]
                    have lp91_49567 : ∀ (n : Nat) (w49568 : Int32) (h49570 : Hp), B w49568 0 201 → JW [(63, 35), (63, 36), (63, 37), (78, 999), (79, 999), (80, 999), (81, 999), (82, 999), (83, 999), (84, 999)] h h49570 → (h49570 63 0 = f1) → (h49570 63 3 = f2) → (h49570 73 (Int32.toNatClampNeg a0) = v4) → (FR h6 h49570) → (TB h6 h49570 a0 a1 w45904.toInt w49112.toInt w49568.toInt) → 201 + 1 - w49568.toInt ≤ (n : Int) → EvQ mi_X10_fills 91 [some (.ref 63), some (.int a0), some (.int a1), some (.int a2), some (.int a3), some (.int v4), some (.int w45904), some (.int r46609), some (.int w49112), some (.int w49568), none, none] [] (G0 L b) h49570 0 0 (QN [(63, 35), (63, 36), (63, 37), (78, 999), (79, 999), (80, 999), (81, 999), (82, 999), (83, 999), (84, 999)] (G0 L b) h) := by
                      intro n
                      induction n with
                      | zero =>
                        intro w49568 h49570 b49569 hJ49571 z49572 z49573 z49574 fr91 u91_0 hm91
                        exact absurd hm91 (L_zero b49569 (by decide))
                      | succ n ih91 =>
                        intro w49568 h49570 b49569 hJ49571 z49572 z49573 z49574 fr91 u91_0 hm91
                        obtain ⟨f49575, ef49575⟩ : ∃ f_, h49570 63 35 = f_ := ⟨_, rfl⟩
                        have bf49575 : B f49575 0 4095 := by have z_ := hJ49571.1 63 35; rw [ef49575] at z_; exact z_
                        have zf49575 := congrArg Int32.toInt ef49575
                        have z49576 := congrArg Int32.toInt z49572
                        have z49577 := congrArg Int32.toInt z49573
                        refine ev_iload rfl rfl rfl ?_
                        refine ev_aload_n rfl rfl rfl ?_
                        refine ev_getV (v := f2) rfl rfl fl_X10_19 rfl rfl rfl z49573 ?_
                        refine ev_icmp_gt rfl rfl (fun c49578 => ?_) (fun c49578 => ?_)
                        · have b49579 : B w49568 1 201 := R_ltY bf2 b49569 c49578 (by decide)
                          have z49580 := w_lt c49578
                          refine ev_iincB (y := 1) (l := 1) (u := 9) rfl rfl rfl (by decide) rfl rfl b49125 (by decide : B 1 1 1) (by decide) (by decide) (by decide) (by decide) (fun v49583 b49583 e49583 => ?_)
                          dsimp only [List.set]
                          have e49583x := e49583; rw [show (1 : Int32).toInt = 1 from by decide] at e49583x
                          refine ev_goto rfl rfl ?_
                          exact (EvQ.drop 9 (ih81 v49583 h49570 (b49583.mono (by decide) (by decide)) hJ49571 z49572 z49573 z49574 fr91 (TB.to u91_0 (fun i_ p_ _ _ _ _ _ => by have z_ := w_lits; omega)) (L_up hm81 (e_p1 e49583 (by decide)))))
                        · have b49581 : B w49568 0 200 := R_leX b49569 bf2 (Int32.not_lt.mp c49578) (by decide)
                          have z49582 := w_le (Int32.not_lt.mp c49578)
                          refine ev_aload_n rfl rfl rfl ?_
                          refine ev_getR (y := 84) rfl rfl fl_X10_85 rfl rfl rfl rfl ?_
                          refine ev_aload_n rfl rfl rfl ?_
                          refine ev_iload rfl rfl rfl ?_
                          refine ev_iload rfl rfl rfl ?_
                          refine ev_iload rfl rfl rfl ?_
                          refine ev_V3P rfl rfl lk_X10_293 vt_X10_spot rfl rfl rfl rfl rfl (w_spotK L b h49570 hJ49571.1 w45904 w49112 w49568 (b45917.mono (by decide) (by decide)) b49125 b49581) (fun r49584 q49584 => ?_)
                          obtain ⟨b49584, pp49584_0⟩ := q49584
                          refine ev_zalW (n := 45225) (l := (-2147483648)) (u := 2147483647) hJ49571.1 b49584 (by decide) (by decide) (fun _ => rfl) rfl rfl rfl (fun v49585 b49585 e49585 => ?_)
                          refine ev_if_eq rfl rfl (fun c49586 => ?_) (fun c49586 => ?_)
                          · have b49587 : B v49585 0 0 := R_eqX (B.any v49585) (by decide : B 0 0 0) c49586
                            have z49588 := congrArg Int32.toInt c49586
                            rw [show (0 : Int32).toInt = 0 from by decide] at z49588
                            refine ev_iincB (y := 1) (l := 1) (u := 201) rfl rfl rfl (by decide) rfl rfl b49581 (by decide : B 1 1 1) (by decide) (by decide) (by decide) (by decide) (fun v49590 b49590 e49590 => ?_)
                            dsimp only [List.set]
                            have e49590x := e49590; rw [show (1 : Int32).toInt = 1 from by decide] at e49590x
                            refine ev_goto rfl rfl ?_
                            exact (ih91 v49590 h49570 (b49590.mono (by decide) (by decide)) hJ49571 z49572 z49573 z49574 fr91 (TB.to (TB.add u91_0 (TB.vac fr91 e49585 c49586 pp49584_0) (by have z0_ := congrArg Int32.toInt z49572; have z1_ := congrArg Int32.toInt z49573; have z2_ := congrArg Int32.toInt ef49575; have z_ := w_lits; have zl_ := l_lits; omega)) (fun i_ p_ _ _ _ _ _ => by have z_ := w_lits; omega)) (L_up hm91 (e_p1 e49590 (by decide))))
                          · have z49589 := w_ne c49586
                            rw [show (0 : Int32).toInt = 0 from by decide] at z49589
                            refine ev_aload_n rfl rfl rfl ?_
                            refine ev_iload rfl rfl rfl ?_
                            refine ev_iload rfl rfl rfl ?_
                            refine ev_iload rfl rfl rfl ?_
                            refine ev_iload rfl rfl rfl ?_
                            refine ev_V4I hJ49571 rfl rfl rfl lk_X10_311 vt_X10_bestSound rfl rfl rfl rfl rfl (w_X10_bestSound_63 L b h49570 hJ49571.1 r46609 w45904 b45917 w49112 b49125 w49568 b49581) (fun r49591 h49591 q49591 hJ49591 k49591 => ?_)
                            obtain ⟨b49591, m49591_0, m49591_1, m49591_2, m49591_3⟩ := q49591
                            obtain ⟨f49592, ef49592⟩ : ∃ f_, h49591 63 35 = f_ := ⟨_, rfl⟩
                            have bf49592 : B f49592 0 4095 := by have z_ := hJ49591.1 63 35; rw [ef49592] at z_; exact z_
                            have zf49592 := congrArg Int32.toInt ef49592
                            refine ev_istore rfl rfl rfl rfl ?_
                            dsimp only [List.set]
                            refine ev_iload rfl rfl rfl ?_
                            refine ev_if_le rfl rfl (fun c49593 => ?_) (fun c49593 => ?_)
                            · have b49594 : B w49112 0 0 := R_leX b49125 (by decide : B 0 0 0) c49593 (by decide)
                              have z49595 := w_le c49593
                              rw [show (0 : Int32).toInt = 0 from by decide] at z49595
                              refine ev_iload rfl rfl rfl ?_
                              refine ev_istore rfl rfl rfl rfl ?_
                              dsimp only [List.set]
                              refine ev_aload_n rfl rfl rfl ?_
                              refine ev_getR (y := 78) rfl rfl fl_X10_67 rfl rfl rfl rfl ?_
                              refine ev_aload_n rfl rfl rfl ?_
                              refine ev_iload rfl rfl rfl ?_
                              refine ev_iload rfl rfl rfl ?_
                              refine ev_iload rfl rfl rfl ?_
                              have z49598 := congrArg Int32.toInt (rd_w k49591 z49572 rfl)
                              have z49599 := congrArg Int32.toInt (rd_w k49591 z49573 rfl)
                              refine ev_V3P rfl rfl lk_X10_293 vt_X10_spot rfl rfl rfl rfl rfl (w_spotK L b h49591 hJ49591.1 w45904 w49112 w49568 (b45917.mono (by decide) (by decide)) (b49594.mono (by decide) (by decide)) b49581) (fun r49600 q49600 => ?_)
                              obtain ⟨b49600, pp49600_0⟩ := q49600
                              refine ev_iload rfl rfl rfl ?_
                              refine ev_iload rfl rfl rfl ?_
                              refine ev_icmp_le rfl rfl (fun c49601 => ?_) (fun c49601 => ?_)
                              · have z49602 := w_le c49601
                                refine ev_iload rfl rfl rfl ?_
                                refine ev_iasG (n := 45225) hJ49591 b49600 (by decide) (by decide) (tb_put (by have z0_ := congrArg Int32.toInt (rd_w k49591 z49572 rfl); have z1_ := congrArg Int32.toInt (rd_w k49591 z49573 rfl); have z2_ := congrArg Int32.toInt ef49592; have z_ := w_lits; have zl_ := l_lits; omega) (by have z0_ := congrArg Int32.toInt (rd_w k49591 z49572 rfl); have z1_ := congrArg Int32.toInt (rd_w k49591 z49573 rfl); have z2_ := congrArg Int32.toInt ef49592; have z_ := w_lits; have zl_ := l_lits; omega) (by have z0_ := congrArg Int32.toInt (rd_w k49591 z49572 rfl); have z1_ := congrArg Int32.toInt (rd_w k49591 z49573 rfl); have z2_ := congrArg Int32.toInt ef49592; have z_ := w_lits; have zl_ := l_lits; omega)) (fun _ => rfl) rfl rfl rfl rfl (fun h49606 hJ49606 k49606 => ?_)
                                have tb49607 : TB h6 h49606 a0 a1 w45904.toInt w49112.toInt w49568.toInt := TB.write (TB.oth u91_0 hg8 (fun j_ => k49591.2 78 j_ rfl)) k49606 pp49600_0 hg8 (by have z0_ := congrArg Int32.toInt (rd_a k49606 (rd_w k49591 z49572 rfl) rfl); have z1_ := congrArg Int32.toInt (rd_a k49606 (rd_w k49591 z49573 rfl) rfl); have z2_ := congrArg Int32.toInt (rd_a k49606 ef49592 rfl); have z_ := w_lits; have zl_ := l_lits; omega) (by have z0_ := congrArg Int32.toInt (rd_a k49606 (rd_w k49591 z49572 rfl) rfl); have z1_ := congrArg Int32.toInt (rd_a k49606 (rd_w k49591 z49573 rfl) rfl); have z2_ := congrArg Int32.toInt (rd_a k49606 ef49592 rfl); have z_ := w_lits; have zl_ := l_lits; omega) (by have z0_ := congrArg Int32.toInt (rd_a k49606 (rd_w k49591 z49572 rfl) rfl); have z1_ := congrArg Int32.toInt (rd_a k49606 (rd_w k49591 z49573 rfl) rfl); have z2_ := congrArg Int32.toInt (rd_a k49606 ef49592 rfl); have z_ := w_lits; have zl_ := l_lits; omega) (by have z0_ := congrArg Int32.toInt (rd_a k49606 (rd_w k49591 z49572 rfl) rfl); have z1_ := congrArg Int32.toInt (rd_a k49606 (rd_w k49591 z49573 rfl) rfl); have z2_ := congrArg Int32.toInt (rd_a k49606 ef49592 rfl); have z_ := w_lits; have zl_ := l_lits; omega) (by have z0_ := congrArg Int32.toInt (rd_a k49606 (rd_w k49591 z49572 rfl) rfl); have z1_ := congrArg Int32.toInt (rd_a k49606 (rd_w k49591 z49573 rfl) rfl); have z2_ := congrArg Int32.toInt (rd_a k49606 ef49592 rfl); have z_ := w_lits; have zl_ := l_lits; omega)
                                refine ev_iincB (y := 1) (l := 1) (u := 201) rfl rfl rfl (by decide) rfl rfl b49581 (by decide : B 1 1 1) (by decide) (by decide) (by decide) (by decide) (fun v49608 b49608 e49608 => ?_)
                                dsimp only [List.set]
                                have e49608x := e49608; rw [show (1 : Int32).toInt = 1 from by decide] at e49608x
                                refine ev_goto rfl rfl ?_
                                exact (EvQ.drop 11 (EvQ.drop 10 (ih91 v49608 h49606 (b49608.mono (by decide) (by decide)) hJ49606 (rd_a k49606 (rd_w k49591 z49572 rfl) rfl) (rd_a k49606 (rd_w k49591 z49573 rfl) rfl) (rd_a k49606 (rd_w k49591 z49574 rfl) rfl) (FR.set (FR.call fr91 k49591 rfl) k49606 rfl) (TB.to (TB.add tb49607 (TB.new fr91 hg8 m49591_2 hc46610 k49591 (fun _ => rfl) k49606 (fun _ => rfl) pp49600_0 (by have z0_ := congrArg Int32.toInt (rd_a k49606 (rd_w k49591 z49572 rfl) rfl); have z1_ := congrArg Int32.toInt (rd_a k49606 (rd_w k49591 z49573 rfl) rfl); have z2_ := congrArg Int32.toInt (rd_a k49606 ef49592 rfl); have z_ := w_lits; have zl_ := l_lits; omega) (by have z0_ := congrArg Int32.toInt (rd_a k49606 (rd_w k49591 z49572 rfl) rfl); have z1_ := congrArg Int32.toInt (rd_a k49606 (rd_w k49591 z49573 rfl) rfl); have z2_ := congrArg Int32.toInt (rd_a k49606 ef49592 rfl); have z_ := w_lits; have zl_ := l_lits; omega) (by have z0_ := congrArg Int32.toInt (rd_a k49606 (rd_w k49591 z49572 rfl) rfl); have z1_ := congrArg Int32.toInt (rd_a k49606 (rd_w k49591 z49573 rfl) rfl); have z2_ := congrArg Int32.toInt (rd_a k49606 ef49592 rfl); have z_ := w_lits; have zl_ := l_lits; omega) b49581) (by have z0_ := congrArg Int32.toInt (rd_a k49606 (rd_w k49591 z49572 rfl) rfl); have z1_ := congrArg Int32.toInt (rd_a k49606 (rd_w k49591 z49573 rfl) rfl); have z2_ := congrArg Int32.toInt (rd_a k49606 ef49592 rfl); have z_ := w_lits; have zl_ := l_lits; omega)) (fun i_ p_ _ _ _ _ _ => by have z_ := w_lits; omega)) (L_up hm91 (e_p1 e49608 (by decide))))))
                              · have b49603 : B r49591 1 4800 := R_ltY b49591 b49591 (Int32.not_le.mp c49601) (by decide)
                                have b49604 : B r49591 0 4799 := R_ltX b49591 b49591 (Int32.not_le.mp c49601) (by decide)
                                have z49605 := w_lt (Int32.not_le.mp c49601)
                                refine ev_iload rfl rfl rfl ?_
                                refine ev_goto rfl rfl ?_
                                refine ev_iasG (n := 45225) hJ49591 b49600 (by decide) (by decide) (tb_put (by have z0_ := congrArg Int32.toInt (rd_w k49591 z49572 rfl); have z1_ := congrArg Int32.toInt (rd_w k49591 z49573 rfl); have z2_ := congrArg Int32.toInt ef49592; have z_ := w_lits; have zl_ := l_lits; omega) (by have z0_ := congrArg Int32.toInt (rd_w k49591 z49572 rfl); have z1_ := congrArg Int32.toInt (rd_w k49591 z49573 rfl); have z2_ := congrArg Int32.toInt ef49592; have z_ := w_lits; have zl_ := l_lits; omega) (by have z0_ := congrArg Int32.toInt (rd_w k49591 z49572 rfl); have z1_ := congrArg Int32.toInt (rd_w k49591 z49573 rfl); have z2_ := congrArg Int32.toInt ef49592; have z_ := w_lits; have zl_ := l_lits; omega)) (fun _ => rfl) rfl rfl rfl rfl (fun h49609 hJ49609 k49609 => ?_)
                                have tb49610 : TB h6 h49609 a0 a1 w45904.toInt w49112.toInt w49568.toInt := TB.write (TB.oth u91_0 hg8 (fun j_ => k49591.2 78 j_ rfl)) k49609 pp49600_0 hg8 (by have z0_ := congrArg Int32.toInt (rd_a k49609 (rd_w k49591 z49572 rfl) rfl); have z1_ := congrArg Int32.toInt (rd_a k49609 (rd_w k49591 z49573 rfl) rfl); have z2_ := congrArg Int32.toInt (rd_a k49609 ef49592 rfl); have z_ := w_lits; have zl_ := l_lits; omega) (by have z0_ := congrArg Int32.toInt (rd_a k49609 (rd_w k49591 z49572 rfl) rfl); have z1_ := congrArg Int32.toInt (rd_a k49609 (rd_w k49591 z49573 rfl) rfl); have z2_ := congrArg Int32.toInt (rd_a k49609 ef49592 rfl); have z_ := w_lits; have zl_ := l_lits; omega) (by have z0_ := congrArg Int32.toInt (rd_a k49609 (rd_w k49591 z49572 rfl) rfl); have z1_ := congrArg Int32.toInt (rd_a k49609 (rd_w k49591 z49573 rfl) rfl); have z2_ := congrArg Int32.toInt (rd_a k49609 ef49592 rfl); have z_ := w_lits; have zl_ := l_lits; omega) (by have z0_ := congrArg Int32.toInt (rd_a k49609 (rd_w k49591 z49572 rfl) rfl); have z1_ := congrArg Int32.toInt (rd_a k49609 (rd_w k49591 z49573 rfl) rfl); have z2_ := congrArg Int32.toInt (rd_a k49609 ef49592 rfl); have z_ := w_lits; have zl_ := l_lits; omega) (by have z0_ := congrArg Int32.toInt (rd_a k49609 (rd_w k49591 z49572 rfl) rfl); have z1_ := congrArg Int32.toInt (rd_a k49609 (rd_w k49591 z49573 rfl) rfl); have z2_ := congrArg Int32.toInt (rd_a k49609 ef49592 rfl); have z_ := w_lits; have zl_ := l_lits; omega)
                                refine ev_iincB (y := 1) (l := 1) (u := 201) rfl rfl rfl (by decide) rfl rfl b49581 (by decide : B 1 1 1) (by decide) (by decide) (by decide) (by decide) (fun v49611 b49611 e49611 => ?_)
                                dsimp only [List.set]
                                have e49611x := e49611; rw [show (1 : Int32).toInt = 1 from by decide] at e49611x
                                refine ev_goto rfl rfl ?_
                                exact (EvQ.drop 11 (EvQ.drop 10 (ih91 v49611 h49609 (b49611.mono (by decide) (by decide)) hJ49609 (rd_a k49609 (rd_w k49591 z49572 rfl) rfl) (rd_a k49609 (rd_w k49591 z49573 rfl) rfl) (rd_a k49609 (rd_w k49591 z49574 rfl) rfl) (FR.set (FR.call fr91 k49591 rfl) k49609 rfl) (TB.to (TB.add tb49610 (TB.new fr91 hg8 m49591_2 hc46610 k49591 (fun _ => rfl) k49609 (fun _ => rfl) pp49600_0 (by have z0_ := congrArg Int32.toInt (rd_a k49609 (rd_w k49591 z49572 rfl) rfl); have z1_ := congrArg Int32.toInt (rd_a k49609 (rd_w k49591 z49573 rfl) rfl); have z2_ := congrArg Int32.toInt (rd_a k49609 ef49592 rfl); have z_ := w_lits; have zl_ := l_lits; omega) (by have z0_ := congrArg Int32.toInt (rd_a k49609 (rd_w k49591 z49572 rfl) rfl); have z1_ := congrArg Int32.toInt (rd_a k49609 (rd_w k49591 z49573 rfl) rfl); have z2_ := congrArg Int32.toInt (rd_a k49609 ef49592 rfl); have z_ := w_lits; have zl_ := l_lits; omega) (by have z0_ := congrArg Int32.toInt (rd_a k49609 (rd_w k49591 z49572 rfl) rfl); have z1_ := congrArg Int32.toInt (rd_a k49609 (rd_w k49591 z49573 rfl) rfl); have z2_ := congrArg Int32.toInt (rd_a k49609 ef49592 rfl); have z_ := w_lits; have zl_ := l_lits; omega) b49581) (by have z0_ := congrArg Int32.toInt (rd_a k49609 (rd_w k49591 z49572 rfl) rfl); have z1_ := congrArg Int32.toInt (rd_a k49609 (rd_w k49591 z49573 rfl) rfl); have z2_ := congrArg Int32.toInt (rd_a k49609 ef49592 rfl); have z_ := w_lits; have zl_ := l_lits; omega)) (fun i_ p_ _ _ _ _ _ => by have z_ := w_lits; omega)) (L_up hm91 (e_p1 e49611 (by decide))))))
                            · have b49596 : B w49112 1 8 := R_ltY (by decide : B 0 0 0) b49125 (Int32.not_le.mp c49593) (by decide)
                              have z49597 := w_lt (Int32.not_le.mp c49593)
                              rw [show (0 : Int32).toInt = 0 from by decide] at z49597
                              refine ev_aload_n rfl rfl rfl ?_
                              refine ev_getR (y := 78) rfl rfl fl_X10_67 rfl rfl rfl rfl ?_
                              refine ev_aload_n rfl rfl rfl ?_
                              refine ev_iload rfl rfl rfl ?_
                              refine ev_iload rfl rfl rfl ?_
                              refine ev_iconst (v := 1) rfl rfl (by decide) ?_
                              refine ev_isubB (l := 0) (u := 7) rfl rfl b49596 (by decide : B 1 1 1) (by decide) (by decide) (by decide) (by decide) (fun v49612 b49612 e49612 g49612 => ?_)
                              have e49612x := e49612; rw [show (1 : Int32).toInt = 1 from by decide] at e49612x
                              refine ev_aload_n rfl rfl rfl ?_
                              refine ev_iload rfl rfl rfl ?_
                              refine ev_aload_n rfl rfl rfl ?_
                              refine ev_getR (y := 82) rfl rfl fl_X10_79 rfl rfl rfl rfl ?_
                              refine ev_iconst (v := 0) rfl rfl (by decide) ?_
                              refine ev_ialK (j := 0) (n := 4096) (l := (-2147483648)) (u := 2147483647) hJ49591.1 (by decide : B 0 0 0) (by decide) (by decide) (by decide) rfl rfl rfl rfl (fun v49613 b49613 e49613 => ?_)
                              have z49614 := congrArg Int32.toInt (rd_w k49591 z49572 rfl)
                              have z49615 := congrArg Int32.toInt (rd_w k49591 z49573 rfl)
                              refine ev_V2P rfl rfl lk_X10_297 vt_X10_then rfl rfl rfl rfl rfl (w_thenK L b h49591 h6 hJ6.1 ((FR.call fr91 k49591 rfl) 63 2 rfl) ((FR.call fr91 k49591 rfl) 63 3 rfl) w49568 v49613) (fun r49616 q49616 => ?_)
                              obtain ⟨b49616, pp49616_0, pp49616_1⟩ := q49616
                              refine ev_V3P rfl rfl lk_X10_293 vt_X10_spot rfl rfl rfl rfl rfl (w_spotK L b h49591 hJ49591.1 w45904 v49612 r49616 (b45917.mono (by decide) (by decide)) (b49612.mono (by decide) (by decide)) b49616) (fun r49617 q49617 => ?_)
                              obtain ⟨b49617, pp49617_0⟩ := q49617
                              refine ev_ialG (n := 45225) hJ49591.1 b49617 (by decide) (by decide) rfl rfl rfl (fun v49618 b49618 e49618 => ?_)
                              have b49618z := tb_get b49618 (by have z0_ := congrArg Int32.toInt (rd_w k49591 z49572 rfl); have z1_ := congrArg Int32.toInt (rd_w k49591 z49573 rfl); have z2_ := congrArg Int32.toInt ef49592; have z_ := w_lits; have zl_ := l_lits; omega)
                              have b49618k : B v49618 0 4608 := ⟨b49618z.1, (by have z0_ := congrArg Int32.toInt (rd_w k49591 z49572 rfl); have z1_ := congrArg Int32.toInt (rd_w k49591 z49573 rfl); have z2_ := congrArg Int32.toInt ef49592; have z_ := w_lits; have zl_ := l_lits; omega)⟩
                              refine ev_iconst (v := 1) rfl rfl (by decide) ?_
                              refine ev_isubB (l := -1) (u := 4607) rfl rfl b49618k (by decide : B 1 1 1) (by decide) (by decide) (by decide) (by decide) (fun v49619 b49619 e49619 g49619 => ?_)
                              have e49619x := e49619; rw [show (1 : Int32).toInt = 1 from by decide] at e49619x
                              refine ev_goto rfl rfl ?_
                              refine ev_istore rfl rfl rfl rfl ?_
                              dsimp only [List.set]
                              refine ev_aload_n rfl rfl rfl ?_
                              refine ev_getR (y := 78) rfl rfl fl_X10_67 rfl rfl rfl rfl ?_
                              refine ev_aload_n rfl rfl rfl ?_
                              refine ev_iload rfl rfl rfl ?_
                              refine ev_iload rfl rfl rfl ?_
                              refine ev_iload rfl rfl rfl ?_
                              refine ev_V3P rfl rfl lk_X10_293 vt_X10_spot rfl rfl rfl rfl rfl (w_spotK L b h49591 hJ49591.1 w45904 w49112 w49568 (b45917.mono (by decide) (by decide)) (b49596.mono (by decide) (by decide)) b49581) (fun r49620 q49620 => ?_)
                              obtain ⟨b49620, pp49620_0⟩ := q49620
                              refine ev_iload rfl rfl rfl ?_
                              refine ev_iload rfl rfl rfl ?_
                              refine ev_icmp_le rfl rfl (fun c49621 => ?_) (fun c49621 => ?_)
                              · have z49622 := w_le c49621
                                refine ev_iload rfl rfl rfl ?_
                                refine ev_iasG (n := 45225) hJ49591 b49620 (by decide) (by decide) (tb_put (by have z0_ := congrArg Int32.toInt (rd_w k49591 z49572 rfl); have z1_ := congrArg Int32.toInt (rd_w k49591 z49573 rfl); have z2_ := congrArg Int32.toInt ef49592; have z_ := w_lits; have zl_ := l_lits; omega) (by have z0_ := congrArg Int32.toInt (rd_w k49591 z49572 rfl); have z1_ := congrArg Int32.toInt (rd_w k49591 z49573 rfl); have z2_ := congrArg Int32.toInt ef49592; have z_ := w_lits; have zl_ := l_lits; omega) (by have z0_ := congrArg Int32.toInt (rd_w k49591 z49572 rfl); have z1_ := congrArg Int32.toInt (rd_w k49591 z49573 rfl); have z2_ := congrArg Int32.toInt ef49592; have z_ := w_lits; have zl_ := l_lits; omega)) (fun _ => rfl) rfl rfl rfl rfl (fun h49627 hJ49627 k49627 => ?_)
                                have tb49628 : TB h6 h49627 a0 a1 w45904.toInt w49112.toInt w49568.toInt := TB.write (TB.oth u91_0 hg8 (fun j_ => k49591.2 78 j_ rfl)) k49627 pp49620_0 hg8 (by have z0_ := congrArg Int32.toInt (rd_a k49627 (rd_w k49591 z49572 rfl) rfl); have z1_ := congrArg Int32.toInt (rd_a k49627 (rd_w k49591 z49573 rfl) rfl); have z2_ := congrArg Int32.toInt (rd_a k49627 ef49592 rfl); have z_ := w_lits; have zl_ := l_lits; omega) (by have z0_ := congrArg Int32.toInt (rd_a k49627 (rd_w k49591 z49572 rfl) rfl); have z1_ := congrArg Int32.toInt (rd_a k49627 (rd_w k49591 z49573 rfl) rfl); have z2_ := congrArg Int32.toInt (rd_a k49627 ef49592 rfl); have z_ := w_lits; have zl_ := l_lits; omega) (by have z0_ := congrArg Int32.toInt (rd_a k49627 (rd_w k49591 z49572 rfl) rfl); have z1_ := congrArg Int32.toInt (rd_a k49627 (rd_w k49591 z49573 rfl) rfl); have z2_ := congrArg Int32.toInt (rd_a k49627 ef49592 rfl); have z_ := w_lits; have zl_ := l_lits; omega) (by have z0_ := congrArg Int32.toInt (rd_a k49627 (rd_w k49591 z49572 rfl) rfl); have z1_ := congrArg Int32.toInt (rd_a k49627 (rd_w k49591 z49573 rfl) rfl); have z2_ := congrArg Int32.toInt (rd_a k49627 ef49592 rfl); have z_ := w_lits; have zl_ := l_lits; omega) (by have z0_ := congrArg Int32.toInt (rd_a k49627 (rd_w k49591 z49572 rfl) rfl); have z1_ := congrArg Int32.toInt (rd_a k49627 (rd_w k49591 z49573 rfl) rfl); have z2_ := congrArg Int32.toInt (rd_a k49627 ef49592 rfl); have z_ := w_lits; have zl_ := l_lits; omega)
                                refine ev_iincB (y := 1) (l := 1) (u := 201) rfl rfl rfl (by decide) rfl rfl b49581 (by decide : B 1 1 1) (by decide) (by decide) (by decide) (by decide) (fun v49629 b49629 e49629 => ?_)
                                dsimp only [List.set]
                                have e49629x := e49629; rw [show (1 : Int32).toInt = 1 from by decide] at e49629x
                                refine ev_goto rfl rfl ?_
                                exact (EvQ.drop 11 (EvQ.drop 10 (ih91 v49629 h49627 (b49629.mono (by decide) (by decide)) hJ49627 (rd_a k49627 (rd_w k49591 z49572 rfl) rfl) (rd_a k49627 (rd_w k49591 z49573 rfl) rfl) (rd_a k49627 (rd_w k49591 z49574 rfl) rfl) (FR.set (FR.call fr91 k49591 rfl) k49627 rfl) (TB.to (TB.add tb49628 (TB.new fr91 hg8 m49591_2 hc46610 k49591 (fun _ => rfl) k49627 (fun _ => rfl) pp49620_0 (by have z0_ := congrArg Int32.toInt (rd_a k49627 (rd_w k49591 z49572 rfl) rfl); have z1_ := congrArg Int32.toInt (rd_a k49627 (rd_w k49591 z49573 rfl) rfl); have z2_ := congrArg Int32.toInt (rd_a k49627 ef49592 rfl); have z_ := w_lits; have zl_ := l_lits; omega) (by have z0_ := congrArg Int32.toInt (rd_a k49627 (rd_w k49591 z49572 rfl) rfl); have z1_ := congrArg Int32.toInt (rd_a k49627 (rd_w k49591 z49573 rfl) rfl); have z2_ := congrArg Int32.toInt (rd_a k49627 ef49592 rfl); have z_ := w_lits; have zl_ := l_lits; omega) (by have z0_ := congrArg Int32.toInt (rd_a k49627 (rd_w k49591 z49572 rfl) rfl); have z1_ := congrArg Int32.toInt (rd_a k49627 (rd_w k49591 z49573 rfl) rfl); have z2_ := congrArg Int32.toInt (rd_a k49627 ef49592 rfl); have z_ := w_lits; have zl_ := l_lits; omega) b49581) (by have z0_ := congrArg Int32.toInt (rd_a k49627 (rd_w k49591 z49572 rfl) rfl); have z1_ := congrArg Int32.toInt (rd_a k49627 (rd_w k49591 z49573 rfl) rfl); have z2_ := congrArg Int32.toInt (rd_a k49627 ef49592 rfl); have z_ := w_lits; have zl_ := l_lits; omega)) (fun i_ p_ _ _ _ _ _ => by have z_ := w_lits; omega)) (L_up hm91 (e_p1 e49629 (by decide))))))
                              · have b49623 : B v49619 1 4607 := R_ltY b49591 b49619 (Int32.not_le.mp c49621) (by decide)
                                have b49624 : B v49618 2 4608 := (R_bks (l' := 2) (u' := 4608) e49619 b49623 (by decide : B 1 1 1) (by decide) (by decide))
                                have b49625 : B r49591 0 4606 := R_ltX b49591 b49619 (Int32.not_le.mp c49621) (by decide)
                                have z49626 := w_lt (Int32.not_le.mp c49621)
                                refine ev_iload rfl rfl rfl ?_
                                refine ev_goto rfl rfl ?_
                                refine ev_iasG (n := 45225) hJ49591 b49620 (by decide) (by decide) (tb_put (by have z0_ := congrArg Int32.toInt (rd_w k49591 z49572 rfl); have z1_ := congrArg Int32.toInt (rd_w k49591 z49573 rfl); have z2_ := congrArg Int32.toInt ef49592; have z_ := w_lits; have zl_ := l_lits; omega) (by have z0_ := congrArg Int32.toInt (rd_w k49591 z49572 rfl); have z1_ := congrArg Int32.toInt (rd_w k49591 z49573 rfl); have z2_ := congrArg Int32.toInt ef49592; have z_ := w_lits; have zl_ := l_lits; omega) (by have z0_ := congrArg Int32.toInt (rd_w k49591 z49572 rfl); have z1_ := congrArg Int32.toInt (rd_w k49591 z49573 rfl); have z2_ := congrArg Int32.toInt ef49592; have z_ := w_lits; have zl_ := l_lits; omega)) (fun _ => rfl) rfl rfl rfl rfl (fun h49630 hJ49630 k49630 => ?_)
                                have tb49631 : TB h6 h49630 a0 a1 w45904.toInt w49112.toInt w49568.toInt := TB.write (TB.oth u91_0 hg8 (fun j_ => k49591.2 78 j_ rfl)) k49630 pp49620_0 hg8 (by have z0_ := congrArg Int32.toInt (rd_a k49630 (rd_w k49591 z49572 rfl) rfl); have z1_ := congrArg Int32.toInt (rd_a k49630 (rd_w k49591 z49573 rfl) rfl); have z2_ := congrArg Int32.toInt (rd_a k49630 ef49592 rfl); have z_ := w_lits; have zl_ := l_lits; omega) (by have z0_ := congrArg Int32.toInt (rd_a k49630 (rd_w k49591 z49572 rfl) rfl); have z1_ := congrArg Int32.toInt (rd_a k49630 (rd_w k49591 z49573 rfl) rfl); have z2_ := congrArg Int32.toInt (rd_a k49630 ef49592 rfl); have z_ := w_lits; have zl_ := l_lits; omega) (by have z0_ := congrArg Int32.toInt (rd_a k49630 (rd_w k49591 z49572 rfl) rfl); have z1_ := congrArg Int32.toInt (rd_a k49630 (rd_w k49591 z49573 rfl) rfl); have z2_ := congrArg Int32.toInt (rd_a k49630 ef49592 rfl); have z_ := w_lits; have zl_ := l_lits; omega) (by have z0_ := congrArg Int32.toInt (rd_a k49630 (rd_w k49591 z49572 rfl) rfl); have z1_ := congrArg Int32.toInt (rd_a k49630 (rd_w k49591 z49573 rfl) rfl); have z2_ := congrArg Int32.toInt (rd_a k49630 ef49592 rfl); have z_ := w_lits; have zl_ := l_lits; omega) (by have z0_ := congrArg Int32.toInt (rd_a k49630 (rd_w k49591 z49572 rfl) rfl); have z1_ := congrArg Int32.toInt (rd_a k49630 (rd_w k49591 z49573 rfl) rfl); have z2_ := congrArg Int32.toInt (rd_a k49630 ef49592 rfl); have z_ := w_lits; have zl_ := l_lits; omega)
                                refine ev_iincB (y := 1) (l := 1) (u := 201) rfl rfl rfl (by decide) rfl rfl b49581 (by decide : B 1 1 1) (by decide) (by decide) (by decide) (by decide) (fun v49632 b49632 e49632 => ?_)
                                dsimp only [List.set]
                                have e49632x := e49632; rw [show (1 : Int32).toInt = 1 from by decide] at e49632x
                                refine ev_goto rfl rfl ?_
                                exact (EvQ.drop 11 (EvQ.drop 10 (ih91 v49632 h49630 (b49632.mono (by decide) (by decide)) hJ49630 (rd_a k49630 (rd_w k49591 z49572 rfl) rfl) (rd_a k49630 (rd_w k49591 z49573 rfl) rfl) (rd_a k49630 (rd_w k49591 z49574 rfl) rfl) (FR.set (FR.call fr91 k49591 rfl) k49630 rfl) (TB.to (TB.add tb49631 (TB.new fr91 hg8 m49591_2 hc46610 k49591 (fun _ => rfl) k49630 (fun q_ => absurd q_ (by have z0_ := congrArg Int32.toInt (rd_a k49630 (rd_w k49591 z49572 rfl) rfl); have z1_ := congrArg Int32.toInt (rd_a k49630 (rd_w k49591 z49573 rfl) rfl); have z2_ := congrArg Int32.toInt (rd_a k49630 ef49592 rfl); have z_ := w_lits; have zl_ := l_lits; omega)) pp49620_0 (by have z0_ := congrArg Int32.toInt (rd_a k49630 (rd_w k49591 z49572 rfl) rfl); have z1_ := congrArg Int32.toInt (rd_a k49630 (rd_w k49591 z49573 rfl) rfl); have z2_ := congrArg Int32.toInt (rd_a k49630 ef49592 rfl); have z_ := w_lits; have zl_ := l_lits; omega) (by have z0_ := congrArg Int32.toInt (rd_a k49630 (rd_w k49591 z49572 rfl) rfl); have z1_ := congrArg Int32.toInt (rd_a k49630 (rd_w k49591 z49573 rfl) rfl); have z2_ := congrArg Int32.toInt (rd_a k49630 ef49592 rfl); have z_ := w_lits; have zl_ := l_lits; omega) (by have z0_ := congrArg Int32.toInt (rd_a k49630 (rd_w k49591 z49572 rfl) rfl); have z1_ := congrArg Int32.toInt (rd_a k49630 (rd_w k49591 z49573 rfl) rfl); have z2_ := congrArg Int32.toInt (rd_a k49630 ef49592 rfl); have z_ := w_lits; have zl_ := l_lits; omega) b49581) (by have z0_ := congrArg Int32.toInt (rd_a k49630 (rd_w k49591 z49572 rfl) rfl); have z1_ := congrArg Int32.toInt (rd_a k49630 (rd_w k49591 z49573 rfl) rfl); have z2_ := congrArg Int32.toInt (rd_a k49630 ef49592 rfl); have z_ := w_lits; have zl_ := l_lits; omega)) (fun i_ p_ _ _ _ _ _ => by have z_ := w_lits; omega)) (L_up hm91 (e_p1 e49632 (by decide))))))
                    exact (lp91_49567 202 0 h49114 ((by decide : B 0 0 0).mono (by decide) (by decide)) hJ49115 z49116 z49117 z49118 fr81 (TB.to u81_0 (fun i_ p_ _ _ _ _ _ => by have z_ := w_lits; omega)) (L_init (by decide : B 0 0 0) (by decide)))
              exact (lp81_49111 10 0 h45906 ((by decide : B 0 0 0).mono (by decide) (by decide)) hJ45907 z45908 z45909 z45910 fr59 (TB.to u59_0 (fun i_ p_ _ _ _ _ _ => by have z_ := w_lits; omega)) (L_init (by decide : B 0 0 0) (by decide)))
        exact (lp59_45903 25 v36744 h36730 b36744 hJ36731 z36732 z36733 z36735 fr24 (TB.start (by have z0_ := congrArg Int32.toInt z36732; have z1_ := congrArg Int32.toInt z36733; have z2_ := congrArg Int32.toInt z36734; have z_ := w_lits; have zl_ := l_lits; omega)) (M_init b36744 (by decide)))
      · have b36742 : B w36728 0 1808 := R_ltX b36729 (by decide : B 1809 1809 1809) (Int32.not_le.mp c36739) (by decide)
        have z36743 := w_lt (Int32.not_le.mp c36739)
        rw [show (1809 : Int32).toInt = 1809 from by decide] at z36743
        refine ev_aload_n rfl rfl rfl ?_
        refine ev_getR (y := 78) rfl rfl fl_X10_67 rfl rfl rfl rfl ?_
        refine ev_sipush (v := 1809) rfl rfl (by decide) ?_
        refine ev_iload rfl rfl rfl ?_
        refine ev_imulB (l := 0) (u := 43416) rfl rfl (by decide : B 1809 1809 1809) b4 (by decide) (by decide) (by decide) (by decide) (by decide) (fun v49633 b49633 e49633 g49633 => ?_)
        rw [show (1809 : Int32).toInt = 1809 from by decide] at e49633
        refine ev_iload rfl rfl rfl ?_
        refine ev_iaddB (l := 0) (u := 45224) rfl rfl b49633 b36742 (by decide) (by decide) (by decide) (by decide) (fun v49634 b49634 e49634 g49634 => ?_)
        refine ev_iconst (v := 0) rfl rfl (by decide) ?_
        refine ev_iasG (n := 45225) hJ36731 b49634 (by decide) (by decide) (tb_put (by have z0_ := congrArg Int32.toInt z36732; have z1_ := congrArg Int32.toInt z36733; have z2_ := congrArg Int32.toInt z36734; have z_ := w_lits; have zl_ := l_lits; omega) (by have z0_ := congrArg Int32.toInt z36732; have z1_ := congrArg Int32.toInt z36733; have z2_ := congrArg Int32.toInt z36734; have z_ := w_lits; have zl_ := l_lits; omega) (by have z0_ := congrArg Int32.toInt z36732; have z1_ := congrArg Int32.toInt z36733; have z2_ := congrArg Int32.toInt z36734; have z_ := w_lits; have zl_ := l_lits; omega)) (fun _ => rfl) rfl rfl rfl rfl (fun h49635 hJ49635 k49635 => ?_)
        refine ev_iincB (y := 1) (l := 1) (u := 1809) rfl rfl rfl (by decide) rfl rfl b36742 (by decide : B 1 1 1) (by decide) (by decide) (by decide) (by decide) (fun v49636 b49636 e49636 => ?_)
        dsimp only [List.set]
        have e49636x := e49636; rw [show (1 : Int32).toInt = 1 from by decide] at e49636x
        refine ev_goto rfl rfl ?_
        exact (ih24 v49636 h49635 (b49636.mono (by decide) (by decide)) hJ49635 (rd_a k49635 z36732 rfl) (rd_a k49635 z36733 rfl) (rd_a k49635 z36734 rfl) (rd_a k49635 z36735 rfl) (FR.set fr24 k49635 rfl) (L_up hm24 (e_p1 e49636 (by decide))))
  exact (lp24_36727 1810 0 h6 ((by decide : B 0 0 0).mono (by decide) (by decide)) hJ6 (rd_w k6 (rd_w k5 ef1 rfl) rfl) (rd_w k6 (rd_w k5 ef2 rfl) rfl) (rd_w k6 (rd_w k5 ef3 rfl) rfl) (rd_w k6 (rd_w k5 e4 rfl) rfl) (FR.refl h6) (L_init (by decide : B 0 0 0) (by decide)))

set_option maxRecDepth 100000 in
set_option maxHeartbeats 4000000 in
theorem w_X10_set_63 (L : Nat) (b : Bool) (h : Hp) (hB : Bx h) (a0 : Int32) (a1 : Int32) (a2 : Int32) (a3 : Int32) (a4 : Int32) (rp0 : (h 63 0).toInt ≤ (h 63 3).toInt) : EvJ mi_X10_set [.ref 63, .int a0, .int a1, .int a2, .int a3, .int a4] (G0 L b) h (fun r : Int32 => B r (-2147483648) 2147483647) [(63, 35), (63, 36), (63, 37), (78, 999), (79, 999), (80, 999), (81, 999), (82, 999), (83, 999), (84, 999)] := by
  refine EvM.of2 (lo := [some (.ref 63), some (.int a0), some (.int a1), some (.int a2), some (.int a3), some (.int a4), none, none]) pf_X10_set ok_X10_set rfl rfl ?_
  have hJ0 : JW [(63, 35), (63, 36), (63, 37), (78, 999), (79, 999), (80, 999), (81, 999), (82, 999), (83, 999), (84, 999)] h h := JW.refl hB
  obtain ⟨f1, ef1⟩ : ∃ f_, h 63 0 = f_ := ⟨_, rfl⟩
  have bf1 : B f1 0 200 := by have z_ := hJ0.1 63 0; rw [ef1] at z_; exact z_
  have zf1 := congrArg Int32.toInt ef1
  obtain ⟨f2, ef2⟩ : ∃ f_, h 63 3 = f_ := ⟨_, rfl⟩
  have bf2 : B f2 0 200 := by have z_ := hJ0.1 63 3; rw [ef2] at z_; exact z_
  have zf2 := congrArg Int32.toInt ef2
  refine ev_aload_n rfl rfl rfl ?_
  refine ev_iload_n rfl rfl rfl ?_
  refine ev_V1P rfl rfl lk_X10_266 vt_X10_isTune rfl rfl rfl rfl rfl (w_X10_isTune_63 L b h hJ0.1 a0) (fun r3 q3 => ?_)
  obtain ⟨b3, p3_0⟩ := q3
  refine ev_if_eq rfl rfl (fun c4 => ?_) (fun c4 => ?_)
  · have b5 : B r3 0 0 := R_eqX b3 (by decide : B 0 0 0) c4
    have z6 := congrArg Int32.toInt c4
    rw [show (0 : Int32).toInt = 0 from by decide] at z6
    refine ev_iconst (v := (-1)) rfl rfl (by decide) ?_
    exact ev_iret rfl rfl rfl ⟨⟨_, rfl, ((by decide : B (-1) (-1) (-1)).mono (by decide) (by decide))⟩, rfl, hJ0⟩
  · have b7 : B r3 1 1 := R_neL b3 (by decide : B 0 0 0) c4 (by decide)
    have b8 : B a0 0 5 := p3_0 c4
    have z9 := w_ne c4
    rw [show (0 : Int32).toInt = 0 from by decide] at z9
    refine ev_iload_n rfl rfl rfl ?_
    refine ev_i2l rfl rfl ?_
    have z10 := Int32.toInt_toInt64 a1
    have z10b := B.any a1
    refine ev_ldc2 (v := (-11)) rfl rfl kc_X10_282 ?_
    refine ev_ldc2 (v := 11) rfl rfl kc_X10_284 ?_
    refine ev_S3P rfl rfl lk_X10_124 st_X10_in rfl rfl (w_inR (G0 L b) h a1 (-11) 11 (by decide : BL (-11) (-11) (-11)) (by decide : BL 11 11 11)) (fun r11 q11 => ?_)
    obtain ⟨b11, p11_0, pp11_0, pp11_1⟩ := q11
    refine ev_if_eq rfl rfl (fun c12 => ?_) (fun c12 => ?_)
    · have b13 : B r11 0 0 := R_eqX b11 (by decide : B 0 0 0) c12
      have z14 := congrArg Int32.toInt c12
      rw [show (0 : Int32).toInt = 0 from by decide] at z14
      refine ev_iconst (v := (-1)) rfl rfl (by decide) ?_
      exact ev_iret rfl rfl rfl ⟨⟨_, rfl, ((by decide : B (-1) (-1) (-1)).mono (by decide) (by decide))⟩, rfl, hJ0⟩
    · have b15 : B r11 1 1 := R_neL b11 (by decide : B 0 0 0) c12 (by decide)
      have b16 : B a1 (-11) 11 := p11_0 c12
      have z17 := w_ne c12
      rw [show (0 : Int32).toInt = 0 from by decide] at z17
      refine ev_iload_n rfl rfl rfl ?_
      refine ev_i2l rfl rfl ?_
      have z18 := Int32.toInt_toInt64 a2
      have z18b := B.any a2
      refine ev_lconst (v := 0) rfl rfl rfl ?_
      refine ev_ldc2 (v := 400) rfl rfl kc_X10_181 ?_
      refine ev_S3P rfl rfl lk_X10_124 st_X10_in rfl rfl (w_inR (G0 L b) h a2 0 400 (by decide : BL 0 0 0) (by decide : BL 400 400 400)) (fun r19 q19 => ?_)
      obtain ⟨b19, p19_0, pp19_0, pp19_1⟩ := q19
      refine ev_if_eq rfl rfl (fun c20 => ?_) (fun c20 => ?_)
      · have b21 : B r19 0 0 := R_eqX b19 (by decide : B 0 0 0) c20
        have z22 := congrArg Int32.toInt c20
        rw [show (0 : Int32).toInt = 0 from by decide] at z22
        refine ev_iconst (v := (-1)) rfl rfl (by decide) ?_
        exact ev_iret rfl rfl rfl ⟨⟨_, rfl, ((by decide : B (-1) (-1) (-1)).mono (by decide) (by decide))⟩, rfl, hJ0⟩
      · have b23 : B r19 1 1 := R_neL b19 (by decide : B 0 0 0) c20 (by decide)
        have b24 : B a2 0 400 := p19_0 c20
        have z25 := w_ne c20
        rw [show (0 : Int32).toInt = 0 from by decide] at z25
        refine ev_iload rfl rfl rfl ?_
        refine ev_i2l rfl rfl ?_
        have z26 := Int32.toInt_toInt64 a3
        have z26b := B.any a3
        refine ev_lconst (v := 0) rfl rfl rfl ?_
        refine ev_ldc2 (v := 8) rfl rfl kc_X10_321 ?_
        refine ev_S3P rfl rfl lk_X10_124 st_X10_in rfl rfl (w_inR (G0 L b) h a3 0 8 (by decide : BL 0 0 0) (by decide : BL 8 8 8)) (fun r27 q27 => ?_)
        obtain ⟨b27, p27_0, pp27_0, pp27_1⟩ := q27
        refine ev_if_eq rfl rfl (fun c28 => ?_) (fun c28 => ?_)
        · have b29 : B r27 0 0 := R_eqX b27 (by decide : B 0 0 0) c28
          have z30 := congrArg Int32.toInt c28
          rw [show (0 : Int32).toInt = 0 from by decide] at z30
          refine ev_iconst (v := (-1)) rfl rfl (by decide) ?_
          exact ev_iret rfl rfl rfl ⟨⟨_, rfl, ((by decide : B (-1) (-1) (-1)).mono (by decide) (by decide))⟩, rfl, hJ0⟩
        · have b31 : B r27 1 1 := R_neL b27 (by decide : B 0 0 0) c28 (by decide)
          have b32 : B a3 0 8 := p27_0 c28
          have z33 := w_ne c28
          rw [show (0 : Int32).toInt = 0 from by decide] at z33
          refine ev_iload rfl rfl rfl ?_
          refine ev_i2l rfl rfl ?_
          have z34 := Int32.toInt_toInt64 a4
          have z34b := B.any a4
          refine ev_lconst (v := 0) rfl rfl rfl ?_
          refine ev_ldc2 (v := 2) rfl rfl kc_X10_183 ?_
          refine ev_S3P rfl rfl lk_X10_124 st_X10_in rfl rfl (w_inR (G0 L b) h a4 0 2 (by decide : BL 0 0 0) (by decide : BL 2 2 2)) (fun r35 q35 => ?_)
          obtain ⟨b35, p35_0, pp35_0, pp35_1⟩ := q35
          refine ev_if_ne rfl rfl (fun c36 => ?_) (fun c36 => ?_)
          · have b37 : B r35 1 1 := R_neL b35 (by decide : B 0 0 0) c36 (by decide)
            have b38 : B a4 0 2 := p35_0 c36
            have z39 := w_ne c36
            rw [show (0 : Int32).toInt = 0 from by decide] at z39
            refine ev_aload_n rfl rfl rfl ?_
            refine ev_iload_n rfl rfl rfl ?_
            refine ev_iload_n rfl rfl rfl ?_
            refine ev_V2P rfl rfl lk_X10_286 vt_X10_isIn rfl rfl rfl rfl rfl (w_X10_isIn_63 L b h hJ0.1 a0 b8 a1) (fun r42 q42 => ?_)
            refine ev_if_ne rfl rfl (fun c43 => ?_) (fun c43 => ?_)
            · have b44 : B r42 1 1 := R_neL q42 (by decide : B 0 0 0) c43 (by decide)
              have z45 := w_ne c43
              rw [show (0 : Int32).toInt = 0 from by decide] at z45
              refine ev_aload_n rfl rfl rfl ?_
              refine ev_iload_n rfl rfl rfl ?_
              refine ev_iload_n rfl rfl rfl ?_
              refine ev_iload_n rfl rfl rfl ?_
              refine ev_iload rfl rfl rfl ?_
              refine ev_V4N hJ0 rfl rfl rfl lk_X10_325 vt_X10_fills rfl rfl rfl rfl rfl (w_X10_fills_63 L b h hJ0.1 a0 b8 a1 a2 a3 b32 (by have z0_ := congrArg Int32.toInt ef1; have z1_ := congrArg Int32.toInt ef2; have z_ := w_lits; have zl_ := l_lits; omega)) (fun h48 hJ48 k48  => ?_)
              refine ev_iload rfl rfl rfl ?_
              refine ev_bipush (v := 10) rfl rfl (by decide) ?_
              refine ev_icmp_lt rfl rfl (fun c49 => ?_) (fun c49 => absurd (D_lt b38 (by decide : B 10 10 10) (by decide)) c49)
              have z50 := w_lt c49
              rw [show (10 : Int32).toInt = 10 from by decide] at z50
              refine ev_iconst (v := 0) rfl rfl (by decide) ?_
              refine ev_istore rfl rfl rfl rfl ?_
              dsimp only [List.set]
              refine ev_iconst (v := 0) rfl rfl (by decide) ?_
              refine ev_istore rfl rfl rfl rfl ?_
              dsimp only [List.set]
              have lp171_191 : ∀ (n : Nat) (w192 : Int32) (w193 : Int32) (h195 : Hp), B w193 0 24 → JW [(63, 35), (63, 36), (63, 37), (78, 999), (79, 999), (80, 999), (81, 999), (82, 999), (83, 999), (84, 999)] h h195 → (h195 63 0 = f1) → (h195 63 3 = f2) → 24 + 1 - w193.toInt ≤ (n : Int) → EvQ mi_X10_set 171 [some (.ref 63), some (.int a0), some (.int a1), some (.int a2), some (.int a3), some (.int a4), some (.int w192), some (.int w193)] [] (G0 L b) h195 0 0 (QJ (fun r : Int32 => B r (-2147483648) 2147483647) [(63, 35), (63, 36), (63, 37), (78, 999), (79, 999), (80, 999), (81, 999), (82, 999), (83, 999), (84, 999)] (G0 L b) h) := by
                intro n
                induction n with
                | zero =>
                  intro w192 w193 h195 b194 hJ196 z197 z198 hm171
                  exact absurd hm171 (L_zero b194 (by decide))
                | succ n ih171 =>
                  intro w192 w193 h195 b194 hJ196 z197 z198 hm171
                  have z199 := congrArg Int32.toInt z197
                  have z200 := congrArg Int32.toInt z198
                  refine ev_iload rfl rfl rfl ?_
                  refine ev_aload_n rfl rfl rfl ?_
                  refine ev_getR (y := 73) rfl rfl fl_X10_51 rfl rfl rfl rfl ?_
                  refine ev_iload_n rfl rfl rfl ?_
                  refine ev_ialW (n := 6) (l := 0) (u := 24) hJ196.1 b8 (by decide) (by decide) (fun _ => rfl) rfl rfl rfl (fun v201 b201 e201 => ?_)
                  refine ev_icmp_ge rfl rfl (fun c202 => ?_) (fun c202 => ?_)
                  · have z203 := w_le c202
                    refine ev_iload rfl rfl rfl ?_
                    refine ev_if_ne rfl rfl (fun c207 => ?_) (fun c207 => ?_)
                    · have b208 : B a4 1 2 := R_neL b38 (by decide : B 0 0 0) c207 (by decide)
                      have z209 := w_ne c207
                      rw [show (0 : Int32).toInt = 0 from by decide] at z209
                      refine ev_iload rfl rfl rfl ?_
                      refine ev_iconst (v := 1) rfl rfl (by decide) ?_
                      refine ev_icmp_ne rfl rfl (fun c212 => ?_) (fun c212 => ?_)
                      · have b213 : B a4 2 2 := R_neL b208 (by decide : B 1 1 1) c212 (by decide)
                        have z214 := w_ne c212
                        rw [show (1 : Int32).toInt = 1 from by decide] at z214
                        refine ev_aload_n rfl rfl rfl ?_
                        refine ev_getW (l := (-2147483648)) (u := 2147483647) hJ196.1 rfl rfl rfl fl_X10_318 rfl rfl rfl (fun v217 b217 e217 => ?_)
                        exact ev_iret rfl rfl rfl ⟨⟨_, rfl, (B.any v217)⟩, rfl, hJ196⟩
                      · have b215 : B a4 1 1 := R_eqX b208 (by decide : B 1 1 1) c212
                        have z216 := congrArg Int32.toInt c212
                        rw [show (1 : Int32).toInt = 1 from by decide] at z216
                        refine ev_iload rfl rfl rfl ?_
                        refine ev_goto rfl rfl ?_
                        exact ev_iret rfl rfl rfl ⟨⟨_, rfl, (B.any w192)⟩, rfl, hJ196⟩
                    · have b210 : B a4 0 0 := R_eqX b38 (by decide : B 0 0 0) c207
                      have z211 := congrArg Int32.toInt c207
                      rw [show (0 : Int32).toInt = 0 from by decide] at z211
                      refine ev_aload_n rfl rfl rfl ?_
                      refine ev_getW (l := (-2147483648)) (u := 2147483647) hJ196.1 rfl rfl rfl fl_X10_315 rfl rfl rfl (fun v218 b218 e218 => ?_)
                      refine ev_goto rfl rfl ?_
                      exact ev_iret rfl rfl rfl ⟨⟨_, rfl, (B.any v218)⟩, rfl, hJ196⟩
                  · have b204 : B w193 0 23 := R_ltX b194 b201 (Int32.not_le.mp c202) (by decide)
                    have b205 : B v201 1 24 := R_ltY b194 b201 (Int32.not_le.mp c202) (by decide)
                    have z206 := w_lt (Int32.not_le.mp c202)
                    refine ev_iload rfl rfl rfl ?_
                    refine ev_aload_n rfl rfl rfl ?_
                    refine ev_getR (y := 80) rfl rfl fl_X10_73 rfl rfl rfl rfl ?_
                    refine ev_iload rfl rfl rfl ?_
                    refine ev_ialW (n := 24) (l := (-2147483648)) (u := 2147483647) hJ196.1 b204 (by decide) (by decide) (fun _ => rfl) rfl rfl rfl (fun v219 b219 e219 => ?_)
                    refine ev_iaddA rfl rfl (fun v220 g220 => ?_)
                    refine ev_istore rfl rfl rfl rfl ?_
                    dsimp only [List.set]
                    refine ev_iincB (y := 1) (l := 1) (u := 24) rfl rfl rfl (by decide) rfl rfl b204 (by decide : B 1 1 1) (by decide) (by decide) (by decide) (by decide) (fun v221 b221 e221 => ?_)
                    dsimp only [List.set]
                    have e221x := e221; rw [show (1 : Int32).toInt = 1 from by decide] at e221x
                    refine ev_goto rfl rfl ?_
                    exact (ih171 v220 v221 h195 (b221.mono (by decide) (by decide)) hJ196 z197 z198 (L_up hm171 (e_p1 e221 (by decide))))
              exact (lp171_191 25 0 0 h48 ((by decide : B 0 0 0).mono (by decide) (by decide)) hJ48 (rd_w k48 ef1 rfl) (rd_w k48 ef2 rfl) (L_init (by decide : B 0 0 0) (by decide)))
            · have b46 : B r42 0 0 := R_eqX q42 (by decide : B 0 0 0) c43
              have z47 := congrArg Int32.toInt c43
              rw [show (0 : Int32).toInt = 0 from by decide] at z47
              refine ev_bipush (v := (-2)) rfl rfl (by decide) ?_
              exact ev_iret rfl rfl rfl ⟨⟨_, rfl, ((by decide : B (-2) (-2) (-2)).mono (by decide) (by decide))⟩, rfl, hJ0⟩
          · have b40 : B r35 0 0 := R_eqX b35 (by decide : B 0 0 0) c36
            have z41 := congrArg Int32.toInt c36
            rw [show (0 : Int32).toInt = 0 from by decide] at z41
            refine ev_iload rfl rfl rfl ?_
            refine ev_i2l rfl rfl ?_
            have z222 := Int32.toInt_toInt64 a4
            have z222b := B.any a4
            refine ev_ldc2 (v := 10) rfl rfl kc_X10_271 ?_
            refine ev_bipush (v := 9) rfl rfl (by decide) ?_
            refine ev_aload_n rfl rfl rfl ?_
            refine ev_getR (y := 73) rfl rfl fl_X10_51 rfl rfl rfl rfl ?_
            refine ev_iload_n rfl rfl rfl ?_
            refine ev_ialW (n := 6) (l := 0) (u := 24) hJ0.1 b8 (by decide) (by decide) (fun _ => rfl) rfl rfl rfl (fun v223 b223 e223 => ?_)
            refine ev_iaddB (l := 9) (u := 33) rfl rfl (by decide : B 9 9 9) b223 (by decide) (by decide) (by decide) (by decide) (fun v224 b224 e224 g224 => ?_)
            have e224x := e224; rw [show (9 : Int32).toInt = 9 from by decide] at e224x
            refine ev_i2l rfl rfl ?_
            have z225 := Int32.toInt_toInt64 v224
            have z225b := B.any v224
            refine ev_S3P rfl rfl lk_X10_124 st_X10_in rfl rfl (w_inV (G0 L b) h a4 10 v224 (by decide : BL 10 10 10) b224) (fun r226 q226 => ?_)
            obtain ⟨b226, p226_0, pp226_0⟩ := q226
            refine ev_if_ne rfl rfl (fun c227 => ?_) (fun c227 => ?_)
            · have b228 : B r226 1 1 := R_neL b226 (by decide : B 0 0 0) c227 (by decide)
              have b229 : B a4 10 33 := p226_0 c227
              have z230 := w_ne c227
              rw [show (0 : Int32).toInt = 0 from by decide] at z230
              refine ev_aload_n rfl rfl rfl ?_
              refine ev_iload_n rfl rfl rfl ?_
              refine ev_iload_n rfl rfl rfl ?_
              refine ev_V2P rfl rfl lk_X10_286 vt_X10_isIn rfl rfl rfl rfl rfl (w_X10_isIn_63 L b h hJ0.1 a0 b8 a1) (fun r233 q233 => ?_)
              refine ev_if_ne rfl rfl (fun c234 => ?_) (fun c234 => ?_)
              · have b235 : B r233 1 1 := R_neL q233 (by decide : B 0 0 0) c234 (by decide)
                have z236 := w_ne c234
                rw [show (0 : Int32).toInt = 0 from by decide] at z236
                refine ev_aload_n rfl rfl rfl ?_
                refine ev_iload_n rfl rfl rfl ?_
                refine ev_iload_n rfl rfl rfl ?_
                refine ev_iload_n rfl rfl rfl ?_
                refine ev_iload rfl rfl rfl ?_
                refine ev_V4N hJ0 rfl rfl rfl lk_X10_325 vt_X10_fills rfl rfl rfl rfl rfl (w_X10_fills_63 L b h hJ0.1 a0 b8 a1 a2 a3 b32 (by have z0_ := congrArg Int32.toInt ef1; have z1_ := congrArg Int32.toInt ef2; have z_ := w_lits; have zl_ := l_lits; omega)) (fun h239 hJ239 k239  => ?_)
                refine ev_iload rfl rfl rfl ?_
                refine ev_bipush (v := 10) rfl rfl (by decide) ?_
                refine ev_icmp_lt rfl rfl (fun c240 => absurd c240 (D_nlt b229 (by decide : B 10 10 10) (by decide))) (fun c240 => ?_)
                have z241 := w_le (Int32.not_lt.mp c240)
                rw [show (10 : Int32).toInt = 10 from by decide] at z241
                refine ev_iload rfl rfl rfl ?_
                refine ev_bipush (v := 40) rfl rfl (by decide) ?_
                refine ev_icmp_ge rfl rfl (fun c242 => absurd c242 (D_nle (by decide : B 40 40 40) b229 (by decide))) (fun c242 => ?_)
                have z243 := w_lt (Int32.not_le.mp c242)
                rw [show (40 : Int32).toInt = 40 from by decide] at z243
                refine ev_aload_n rfl rfl rfl ?_
                refine ev_getR (y := 79) rfl rfl fl_X10_70 rfl rfl rfl rfl ?_
                refine ev_iload rfl rfl rfl ?_
                refine ev_bipush (v := 10) rfl rfl (by decide) ?_
                refine ev_isubB (l := 0) (u := 23) rfl rfl b229 (by decide : B 10 10 10) (by decide) (by decide) (by decide) (by decide) (fun v244 b244 e244 g244 => ?_)
                have e244x := e244; rw [show (10 : Int32).toInt = 10 from by decide] at e244x
                refine ev_ialW (n := 24) (l := (-2147483648)) (u := 2147483647) hJ239.1 b244 (by decide) (by decide) (fun _ => rfl) rfl rfl rfl (fun v245 b245 e245 => ?_)
                refine ev_goto rfl rfl ?_
                exact ev_iret rfl rfl rfl ⟨⟨_, rfl, (B.any v245)⟩, rfl, hJ239⟩
              · have b237 : B r233 0 0 := R_eqX q233 (by decide : B 0 0 0) c234
                have z238 := congrArg Int32.toInt c234
                rw [show (0 : Int32).toInt = 0 from by decide] at z238
                refine ev_bipush (v := (-2)) rfl rfl (by decide) ?_
                exact ev_iret rfl rfl rfl ⟨⟨_, rfl, ((by decide : B (-2) (-2) (-2)).mono (by decide) (by decide))⟩, rfl, hJ0⟩
            · have b231 : B r226 0 0 := R_eqX b226 (by decide : B 0 0 0) c227
              have z232 := congrArg Int32.toInt c227
              rw [show (0 : Int32).toInt = 0 from by decide] at z232
              refine ev_iload rfl rfl rfl ?_
              refine ev_i2l rfl rfl ?_
              have z246 := Int32.toInt_toInt64 a4
              have z246b := B.any a4
              refine ev_ldc2 (v := 40) rfl rfl kc_X10_323 ?_
              refine ev_bipush (v := 39) rfl rfl (by decide) ?_
              refine ev_aload_n rfl rfl rfl ?_
              refine ev_getR (y := 73) rfl rfl fl_X10_51 rfl rfl rfl rfl ?_
              refine ev_iload_n rfl rfl rfl ?_
              refine ev_iadV (v := v223) rfl rfl rfl (b8.vp (by decide) (by decide)) rfl e223 ?_
              refine ev_iaddB (l := 39) (u := 63) rfl rfl (by decide : B 39 39 39) b223 (by decide) (by decide) (by decide) (by decide) (fun v247 b247 e247 g247 => ?_)
              have e247x := e247; rw [show (39 : Int32).toInt = 39 from by decide] at e247x
              refine ev_i2l rfl rfl ?_
              have z248 := Int32.toInt_toInt64 v247
              have z248b := B.any v247
              refine ev_S3P rfl rfl lk_X10_124 st_X10_in rfl rfl (w_inV (G0 L b) h a4 40 v247 (by decide : BL 40 40 40) b247) (fun r249 q249 => ?_)
              obtain ⟨b249, p249_0, pp249_0⟩ := q249
              refine ev_if_ne rfl rfl (fun c250 => ?_) (fun c250 => ?_)
              · have b251 : B r249 1 1 := R_neL b249 (by decide : B 0 0 0) c250 (by decide)
                have b252 : B a4 40 63 := p249_0 c250
                have z253 := w_ne c250
                rw [show (0 : Int32).toInt = 0 from by decide] at z253
                refine ev_aload_n rfl rfl rfl ?_
                refine ev_iload_n rfl rfl rfl ?_
                refine ev_iload_n rfl rfl rfl ?_
                refine ev_V2P rfl rfl lk_X10_286 vt_X10_isIn rfl rfl rfl rfl rfl (w_X10_isIn_63 L b h hJ0.1 a0 b8 a1) (fun r256 q256 => ?_)
                refine ev_if_ne rfl rfl (fun c257 => ?_) (fun c257 => ?_)
                · have b258 : B r256 1 1 := R_neL q256 (by decide : B 0 0 0) c257 (by decide)
                  have z259 := w_ne c257
                  rw [show (0 : Int32).toInt = 0 from by decide] at z259
                  refine ev_aload_n rfl rfl rfl ?_
                  refine ev_iload_n rfl rfl rfl ?_
                  refine ev_iload_n rfl rfl rfl ?_
                  refine ev_iload_n rfl rfl rfl ?_
                  refine ev_iload rfl rfl rfl ?_
                  refine ev_V4N hJ0 rfl rfl rfl lk_X10_325 vt_X10_fills rfl rfl rfl rfl rfl (w_X10_fills_63 L b h hJ0.1 a0 b8 a1 a2 a3 b32 (by have z0_ := congrArg Int32.toInt ef1; have z1_ := congrArg Int32.toInt ef2; have z_ := w_lits; have zl_ := l_lits; omega)) (fun h262 hJ262 k262  => ?_)
                  refine ev_iload rfl rfl rfl ?_
                  refine ev_bipush (v := 10) rfl rfl (by decide) ?_
                  refine ev_icmp_lt rfl rfl (fun c263 => absurd c263 (D_nlt b252 (by decide : B 10 10 10) (by decide))) (fun c263 => ?_)
                  have z264 := w_le (Int32.not_lt.mp c263)
                  rw [show (10 : Int32).toInt = 10 from by decide] at z264
                  refine ev_iload rfl rfl rfl ?_
                  refine ev_bipush (v := 40) rfl rfl (by decide) ?_
                  refine ev_icmp_ge rfl rfl (fun c265 => ?_) (fun c265 => absurd (D_le (by decide : B 40 40 40) b252 (by decide)) c265)
                  have z266 := w_le c265
                  rw [show (40 : Int32).toInt = 40 from by decide] at z266
                  refine ev_aload_n rfl rfl rfl ?_
                  refine ev_getR (y := 80) rfl rfl fl_X10_73 rfl rfl rfl rfl ?_
                  refine ev_iload rfl rfl rfl ?_
                  refine ev_bipush (v := 40) rfl rfl (by decide) ?_
                  refine ev_isubB (l := 0) (u := 23) rfl rfl b252 (by decide : B 40 40 40) (by decide) (by decide) (by decide) (by decide) (fun v267 b267 e267 g267 => ?_)
                  have e267x := e267; rw [show (40 : Int32).toInt = 40 from by decide] at e267x
                  refine ev_ialW (n := 24) (l := (-2147483648)) (u := 2147483647) hJ262.1 b267 (by decide) (by decide) (fun _ => rfl) rfl rfl rfl (fun v268 b268 e268 => ?_)
                  exact ev_iret rfl rfl rfl ⟨⟨_, rfl, (B.any v268)⟩, rfl, hJ262⟩
                · have b260 : B r256 0 0 := R_eqX q256 (by decide : B 0 0 0) c257
                  have z261 := congrArg Int32.toInt c257
                  rw [show (0 : Int32).toInt = 0 from by decide] at z261
                  refine ev_bipush (v := (-2)) rfl rfl (by decide) ?_
                  exact ev_iret rfl rfl rfl ⟨⟨_, rfl, ((by decide : B (-2) (-2) (-2)).mono (by decide) (by decide))⟩, rfl, hJ0⟩
              · have b254 : B r249 0 0 := R_eqX b249 (by decide : B 0 0 0) c250
                have z255 := congrArg Int32.toInt c250
                rw [show (0 : Int32).toInt = 0 from by decide] at z255
                refine ev_iconst (v := (-1)) rfl rfl (by decide) ?_
                exact ev_iret rfl rfl rfl ⟨⟨_, rfl, ((by decide : B (-1) (-1) (-1)).mono (by decide) (by decide))⟩, rfl, hJ0⟩

