set_option maxRecDepth 100000 in
set_option maxHeartbeats 4000000 in
theorem w_X10_prepares_63 (L : Nat) (b : Bool) (h : Hp) (hB : Bx h) (a0 : Int32) : EvN mi_X10_prepares [.ref 63, .int a0] (G0 L b) h [(81, 999), (82, 999), (83, 999)] := by
  refine EvM.of2 (lo := [some (.ref 63), some (.int a0), none, none, none]) pf_X10_prepares ok_X10_prepares rfl rfl ?_
  have hJ0 : JW [(81, 999), (82, 999), (83, 999)] h h := JW.refl hB
  obtain ⟨f1, ef1⟩ : ∃ f_, h 63 3 = f_ := ⟨_, rfl⟩
  have bf1 : B f1 0 200 := by have z_ := hJ0.1 63 3; rw [ef1] at z_; exact z_
  have zf1 := congrArg Int32.toInt ef1
  refine ev_iconst (v := 0) rfl rfl (by decide) ?_
  refine ev_istore_n rfl rfl rfl rfl ?_
  dsimp only [List.set]
  have lp2_100051 : ∀ (n : Nat) (w100052 : Int32) (h100054 : Hp), B w100052 0 201 → JW [(81, 999), (82, 999), (83, 999)] h h100054 → (h100054 63 3 = f1) → 201 + 1 - w100052.toInt ≤ (n : Int) → EvQ mi_X10_prepares 2 [some (.ref 63), some (.int a0), some (.int w100052), none, none] [] (G0 L b) h100054 0 0 (QN [(81, 999), (82, 999), (83, 999)] (G0 L b) h) := by
    intro n
    induction n with
    | zero =>
      intro w100052 h100054 b100053 hJ100055 z100056 hm2
      exact absurd hm2 (L_zero b100053 (by decide))
    | succ n ih2 =>
      intro w100052 h100054 b100053 hJ100055 z100056 hm2
      have z100057 := congrArg Int32.toInt z100056
      refine ev_iload_n rfl rfl rfl ?_
      refine ev_aload_n rfl rfl rfl ?_
      refine ev_getV (v := f1) rfl rfl fl_X10_19 rfl rfl rfl z100056 ?_
      refine ev_icmp_gt rfl rfl (fun c100058 => ?_) (fun c100058 => ?_)
      · have b100059 : B w100052 1 201 := R_ltY bf1 b100053 c100058 (by decide)
        have z100060 := w_lt c100058
        refine ev_aload_n rfl rfl rfl ?_
        refine ev_getR (y := 82) rfl rfl fl_X10_79 rfl rfl rfl rfl ?_
        refine ev_iconst (v := 0) rfl rfl (by decide) ?_
        refine ev_aload_n rfl rfl rfl ?_
        refine ev_iconst (v := 0) rfl rfl (by decide) ?_
        refine ev_V1P rfl rfl lk_X10_145 vt_X10_drawn rfl rfl rfl rfl rfl (w_X10_drawn_63 L b h100054 hJ100055.1 0) (fun r100063 q100063 => ?_)
        refine ev_iasW (n := 4096) (l := (-2147483648)) (u := 2147483647) hJ100055 (by decide : B 0 0 0) (by decide) (by decide) (fun _ => rfl) (B.any r100063) (by decide) (by decide) (fun _ => rfl) rfl rfl rfl rfl (fun h100064 hJ100064 k100064 => ?_)
        refine ev_aload_n rfl rfl rfl ?_
        refine ev_getR (y := 83) rfl rfl fl_X10_82 rfl rfl rfl rfl ?_
        refine ev_iconst (v := 0) rfl rfl (by decide) ?_
        refine ev_iconst (v := 0) rfl rfl (by decide) ?_
        refine ev_iasG (n := 4096) hJ100064 (by decide : B 0 0 0) (by decide) (by decide) (by decide) (fun _ => rfl) rfl rfl rfl rfl (fun h100065 hJ100065 k100065 => ?_)
        refine ev_iconst (v := 0) rfl rfl (by decide) ?_
        refine ev_istore_n rfl rfl rfl rfl ?_
        dsimp only [List.set]
        have lp88_112431 : ∀ (n : Nat) (w112432 : Int32) (h112434 : Hp), B w112432 0 12 → JW [(81, 999), (82, 999), (83, 999)] h h112434 → (h112434 63 3 = f1) → 12 + 1 - w112432.toInt ≤ (n : Int) → EvQ mi_X10_prepares 88 [some (.ref 63), some (.int a0), some (.int w112432), none, none] [] (G0 L b) h112434 0 0 (QN [(81, 999), (82, 999), (83, 999)] (G0 L b) h) := by
          intro n
          induction n with
          | zero =>
            intro w112432 h112434 b112433 hJ112435 z112436 hm88
            exact absurd hm88 (L_zero b112433 (by decide))
          | succ n ih88 =>
            intro w112432 h112434 b112433 hJ112435 z112436 hm88
            have z112437 := congrArg Int32.toInt z112436
            refine ev_iload_n rfl rfl rfl ?_
            refine ev_aload_n rfl rfl rfl ?_
            refine ev_getW (l := 0) (u := 12) hJ112435.1 rfl rfl rfl fl_X10_121 rfl rfl rfl (fun v112438 b112438 e112438 => ?_)
            refine ev_icmp_ge rfl rfl (fun c112439 => ?_) (fun c112439 => ?_)
            · have z112440 := w_le c112439
              exact ev_vret rfl rfl trivial ⟨rfl, rfl, hJ112435⟩
            · have b112441 : B w112432 0 11 := R_ltX b112433 b112438 (Int32.not_le.mp c112439) (by decide)
              have b112442 : B v112438 1 12 := R_ltY b112433 b112438 (Int32.not_le.mp c112439) (by decide)
              have z112443 := w_lt (Int32.not_le.mp c112439)
              refine ev_aload_n rfl rfl rfl ?_
              refine ev_getR (y := 65) rfl rfl fl_X10_26 rfl rfl rfl rfl ?_
              refine ev_iload_n rfl rfl rfl ?_
              rcases B.c12 b112441 with rfl | rfl | rfl | rfl | rfl | rfl | rfl | rfl | rfl | rfl | rfl | rfl
              · refine ev_ialK (j := 0) (n := 12) (l := (-2147483648)) (u := 2147483647) hJ112435.1 (by decide : B 0 0 0) (by decide) (by decide) (by decide) rfl rfl rfl rfl (fun v112444 b112444 e112444 => ?_)
                refine ev_aload_n rfl rfl rfl ?_
                refine ev_getR (y := 70) rfl rfl fl_X10_42 rfl rfl rfl rfl ?_
                refine ev_iload_n rfl rfl rfl ?_
                refine ev_zalW (n := 12) (l := (-2147483648)) (u := 2147483647) hJ112435.1 (by decide : B 0 0 0) (by decide) (by decide) (fun _ => rfl) rfl rfl rfl (fun v112445 b112445 e112445 => ?_)
                refine ev_if_eq rfl rfl (fun c112446 => ?_) (fun c112446 => ?_)
                · have b112447 : B v112445 0 0 := R_eqX (B.any v112445) (by decide : B 0 0 0) c112446
                  have z112448 := congrArg Int32.toInt c112446
                  rw [show (0 : Int32).toInt = 0 from by decide] at z112448
                  refine ev_iconst (v := 0) rfl rfl (by decide) ?_
                  refine ev_isubB (l := -2147483648) (u := 2147483647) rfl rfl (B.any v112444) (by decide : B 0 0 0) (by decide) (by decide) (by decide) (by decide) (fun v112450 b112450 e112450 g112450 => ?_)
                  have e112450x := e112450; rw [show (0 : Int32).toInt = 0 from by decide] at e112450x
                  refine ev_istore_n rfl rfl rfl rfl ?_
                  dsimp only [List.set]
                  refine ev_iconst (v := 0) rfl rfl (by decide) ?_
                  refine ev_istore rfl rfl rfl rfl ?_
                  dsimp only [List.set]
                  have lp128_112521 : ∀ (n : Nat) (w112522 : Int32) (h112524 : Hp), B w112522 0 1 → JW [(81, 999), (82, 999), (83, 999)] h h112524 → (h112524 63 3 = f1) → (h112524 63 5 = v112438) → (h112524 65 0 = v112444) → 1 + 1 - w112522.toInt ≤ (n : Int) → EvQ mi_X10_prepares 128 [some (.ref 63), some (.int a0), some (.int 0), some (.int v112450), some (.int w112522)] [] (G0 L b) h112524 0 0 (QN [(81, 999), (82, 999), (83, 999)] (G0 L b) h) := by
                    intro n
                    induction n with
                    | zero =>
                      intro w112522 h112524 b112523 hJ112525 z112526 z112527 z112528 hm128
                      exact absurd hm128 (L_zero b112523 (by decide))
                    | succ n ih128 =>
                      intro w112522 h112524 b112523 hJ112525 z112526 z112527 z112528 hm128
                      have z112529 := congrArg Int32.toInt z112526
                      refine ev_iload rfl rfl rfl ?_
                      refine ev_iconst (v := 1) rfl rfl (by decide) ?_
                      refine ev_iload_n rfl rfl rfl ?_
                      refine ev_ishlL (v := 1) (by decide) rfl rfl ?_
                      refine ev_icmp_ge rfl rfl (fun c112531 => ?_) (fun c112531 => ?_)
                      · have b112532 : B w112522 1 1 := R_leY (by decide : B 1 1 1) b112523 c112531 (by decide)
                        have z112533 := w_le c112531
                        rw [show (1 : Int32).toInt = 1 from by decide] at z112533
                        refine ev_iincL (v := 1) (y := 1) rfl rfl rfl (by decide) rfl rfl (by decide) ?_
                        dsimp only [List.set]
                        refine ev_goto rfl rfl ?_
                        exact (EvQ.drop 4 (EvQ.drop 3 (ih88 1 h112524 ((by decide : B 1 1 1).mono (by decide) (by decide)) hJ112525 z112526 (L_up hm88 (by decide)))))
                      · have b112534 : B w112522 0 0 := R_ltX b112523 (by decide : B 1 1 1) (Int32.not_le.mp c112531) (by decide)
                        have z112535 := w_lt (Int32.not_le.mp c112531)
                        rw [show (1 : Int32).toInt = 1 from by decide] at z112535
                        refine ev_aload_n rfl rfl rfl ?_
                        refine ev_getR (y := 82) rfl rfl fl_X10_79 rfl rfl rfl rfl ?_
                        refine ev_iload rfl rfl rfl ?_
                        refine ev_iconst (v := 1) rfl rfl (by decide) ?_
                        refine ev_iload_n rfl rfl rfl ?_
                        refine ev_ishlL (v := 1) (by decide) rfl rfl ?_
                        refine ev_iorB 1 (u := 1) rfl rfl b112534 (by decide : B 1 1 1) (by decide) (by decide) (by decide) (by decide) (by decide) (by decide) (fun v112537 b112537 e112537 => ?_)
                        refine ev_aload_n rfl rfl rfl ?_
                        refine ev_getR (y := 82) rfl rfl fl_X10_79 rfl rfl rfl rfl ?_
                        refine ev_iload rfl rfl rfl ?_
                        refine ev_ialW (n := 4096) (l := (-2147483648)) (u := 2147483647) hJ112525.1 b112534 (by decide) (by decide) (fun _ => rfl) rfl rfl rfl (fun v112538 b112538 e112538 => ?_)
                        refine ev_iload_n rfl rfl rfl ?_
                        refine ev_iaddA rfl rfl (fun v112539 g112539 => ?_)
                        refine ev_iasW (n := 4096) (l := (-2147483648)) (u := 2147483647) hJ112525 b112537 (by decide) (by decide) (fun _ => rfl) (B.any v112539) (by decide) (by decide) (fun _ => rfl) rfl rfl rfl rfl (fun h112540 hJ112540 k112540 => ?_)
                        refine ev_aload_n rfl rfl rfl ?_
                        refine ev_getR (y := 83) rfl rfl fl_X10_82 rfl rfl rfl rfl ?_
                        refine ev_iload rfl rfl rfl ?_
                        refine ev_iconst (v := 1) rfl rfl (by decide) ?_
                        refine ev_iload_n rfl rfl rfl ?_
                        refine ev_ishlL (v := 1) (by decide) rfl rfl ?_
                        refine ev_iorB 1 (u := 1) rfl rfl b112534 (by decide : B 1 1 1) (by decide) (by decide) (by decide) (by decide) (by decide) (by decide) (fun v112542 b112542 e112542 => ?_)
                        refine ev_aload_n rfl rfl rfl ?_
                        refine ev_getR (y := 83) rfl rfl fl_X10_82 rfl rfl rfl rfl ?_
                        refine ev_iload rfl rfl rfl ?_
                        refine ev_ialG (n := 4096) hJ112540.1 b112534 (by decide) (by decide) rfl rfl rfl (fun v112543 b112543 e112543 => ?_)
                        have b112543k : B v112543 0 12 := mb_get b112543
                        refine ev_iconst (v := 1) rfl rfl (by decide) ?_
                        refine ev_iaddB (l := 1) (u := 13) rfl rfl b112543k (by decide : B 1 1 1) (by decide) (by decide) (by decide) (by decide) (fun v112544 b112544 e112544 g112544 => ?_)
                        have e112544x := e112544; rw [show (1 : Int32).toInt = 1 from by decide] at e112544x
                        refine ev_iasG (n := 4096) hJ112540 b112542 (by decide) (by decide) (mb_put (w := 0) (c := 1) (by decide) (by decide) (b112534.mono (by decide) (by decide)) (by rw [show (1 : Int32).toInt = 1 from by decide]; have z_ := b112534.2; omega) e112542 b112543 e112544x) (fun _ => rfl) rfl rfl rfl rfl (fun h112545 hJ112545 k112545 => ?_)
                        refine ev_iincB (y := 1) (l := 1) (u := 1) rfl rfl rfl (by decide) rfl rfl b112534 (by decide : B 1 1 1) (by decide) (by decide) (by decide) (by decide) (fun v112546 b112546 e112546 => ?_)
                        dsimp only [List.set]
                        have e112546x := e112546; rw [show (1 : Int32).toInt = 1 from by decide] at e112546x
                        refine ev_goto rfl rfl ?_
                        exact (ih128 v112546 h112545 (b112546.mono (by decide) (by decide)) hJ112545 (rd_a k112545 (rd_a k112540 z112526 rfl) rfl) (rd_a k112545 (rd_a k112540 z112527 rfl) rfl) (rd_a k112545 (rd_a k112540 z112528 rfl) rfl) (L_up hm128 (e_p1 e112546 (by decide))))
                  exact (lp128_112521 2 0 h112434 ((by decide : B 0 0 0).mono (by decide) (by decide)) hJ112435 z112436 e112438 e112444 (L_init (by decide : B 0 0 0) (by decide)))
                · have z112449 := w_ne c112446
                  rw [show (0 : Int32).toInt = 0 from by decide] at z112449
                  refine ev_aload_n rfl rfl rfl ?_
                  refine ev_getR (y := 65) rfl rfl fl_X10_26 rfl rfl rfl rfl ?_
                  refine ev_iload_n rfl rfl rfl ?_
                  refine ev_iadV (j := 0) (v := v112444) rfl rfl rfl (by unfold vp_in; decide) (by decide) e112444 ?_
                  refine ev_iconst (v := 2) rfl rfl (by decide) ?_
                  refine ev_idivA (by decide : B 2 2 2) (by decide) rfl rfl (fun v112547 => ?_)
                  refine ev_goto rfl rfl ?_
                  refine ev_isubA rfl rfl (fun v112548 g112548 => ?_)
                  refine ev_istore_n rfl rfl rfl rfl ?_
                  dsimp only [List.set]
                  refine ev_iconst (v := 0) rfl rfl (by decide) ?_
                  refine ev_istore rfl rfl rfl rfl ?_
                  dsimp only [List.set]
                  have lp128_112619 : ∀ (n : Nat) (w112620 : Int32) (h112622 : Hp), B w112620 0 1 → JW [(81, 999), (82, 999), (83, 999)] h h112622 → (h112622 63 3 = f1) → (h112622 63 5 = v112438) → (h112622 65 0 = v112444) → 1 + 1 - w112620.toInt ≤ (n : Int) → EvQ mi_X10_prepares 128 [some (.ref 63), some (.int a0), some (.int 0), some (.int v112548), some (.int w112620)] [] (G0 L b) h112622 0 0 (QN [(81, 999), (82, 999), (83, 999)] (G0 L b) h) := by
                    intro n
                    induction n with
                    | zero =>
                      intro w112620 h112622 b112621 hJ112623 z112624 z112625 z112626 hm128
                      exact absurd hm128 (L_zero b112621 (by decide))
                    | succ n ih128 =>
                      intro w112620 h112622 b112621 hJ112623 z112624 z112625 z112626 hm128
                      have z112627 := congrArg Int32.toInt z112624
                      refine ev_iload rfl rfl rfl ?_
                      refine ev_iconst (v := 1) rfl rfl (by decide) ?_
                      refine ev_iload_n rfl rfl rfl ?_
                      refine ev_ishlL (v := 1) (by decide) rfl rfl ?_
                      refine ev_icmp_ge rfl rfl (fun c112629 => ?_) (fun c112629 => ?_)
                      · have b112630 : B w112620 1 1 := R_leY (by decide : B 1 1 1) b112621 c112629 (by decide)
                        have z112631 := w_le c112629
                        rw [show (1 : Int32).toInt = 1 from by decide] at z112631
                        refine ev_iincL (v := 1) (y := 1) rfl rfl rfl (by decide) rfl rfl (by decide) ?_
                        dsimp only [List.set]
                        refine ev_goto rfl rfl ?_
                        exact (EvQ.drop 4 (EvQ.drop 3 (ih88 1 h112622 ((by decide : B 1 1 1).mono (by decide) (by decide)) hJ112623 z112624 (L_up hm88 (by decide)))))
                      · have b112632 : B w112620 0 0 := R_ltX b112621 (by decide : B 1 1 1) (Int32.not_le.mp c112629) (by decide)
                        have z112633 := w_lt (Int32.not_le.mp c112629)
                        rw [show (1 : Int32).toInt = 1 from by decide] at z112633
                        refine ev_aload_n rfl rfl rfl ?_
                        refine ev_getR (y := 82) rfl rfl fl_X10_79 rfl rfl rfl rfl ?_
                        refine ev_iload rfl rfl rfl ?_
                        refine ev_iconst (v := 1) rfl rfl (by decide) ?_
                        refine ev_iload_n rfl rfl rfl ?_
                        refine ev_ishlL (v := 1) (by decide) rfl rfl ?_
                        refine ev_iorB 1 (u := 1) rfl rfl b112632 (by decide : B 1 1 1) (by decide) (by decide) (by decide) (by decide) (by decide) (by decide) (fun v112635 b112635 e112635 => ?_)
                        refine ev_aload_n rfl rfl rfl ?_
                        refine ev_getR (y := 82) rfl rfl fl_X10_79 rfl rfl rfl rfl ?_
                        refine ev_iload rfl rfl rfl ?_
                        refine ev_ialW (n := 4096) (l := (-2147483648)) (u := 2147483647) hJ112623.1 b112632 (by decide) (by decide) (fun _ => rfl) rfl rfl rfl (fun v112636 b112636 e112636 => ?_)
                        refine ev_iload_n rfl rfl rfl ?_
                        refine ev_iaddA rfl rfl (fun v112637 g112637 => ?_)
                        refine ev_iasW (n := 4096) (l := (-2147483648)) (u := 2147483647) hJ112623 b112635 (by decide) (by decide) (fun _ => rfl) (B.any v112637) (by decide) (by decide) (fun _ => rfl) rfl rfl rfl rfl (fun h112638 hJ112638 k112638 => ?_)
                        refine ev_aload_n rfl rfl rfl ?_
                        refine ev_getR (y := 83) rfl rfl fl_X10_82 rfl rfl rfl rfl ?_
                        refine ev_iload rfl rfl rfl ?_
                        refine ev_iconst (v := 1) rfl rfl (by decide) ?_
                        refine ev_iload_n rfl rfl rfl ?_
                        refine ev_ishlL (v := 1) (by decide) rfl rfl ?_
                        refine ev_iorB 1 (u := 1) rfl rfl b112632 (by decide : B 1 1 1) (by decide) (by decide) (by decide) (by decide) (by decide) (by decide) (fun v112640 b112640 e112640 => ?_)
                        refine ev_aload_n rfl rfl rfl ?_
                        refine ev_getR (y := 83) rfl rfl fl_X10_82 rfl rfl rfl rfl ?_
                        refine ev_iload rfl rfl rfl ?_
                        refine ev_ialG (n := 4096) hJ112638.1 b112632 (by decide) (by decide) rfl rfl rfl (fun v112641 b112641 e112641 => ?_)
                        have b112641k : B v112641 0 12 := mb_get b112641
                        refine ev_iconst (v := 1) rfl rfl (by decide) ?_
                        refine ev_iaddB (l := 1) (u := 13) rfl rfl b112641k (by decide : B 1 1 1) (by decide) (by decide) (by decide) (by decide) (fun v112642 b112642 e112642 g112642 => ?_)
                        have e112642x := e112642; rw [show (1 : Int32).toInt = 1 from by decide] at e112642x
                        refine ev_iasG (n := 4096) hJ112638 b112640 (by decide) (by decide) (mb_put (w := 0) (c := 1) (by decide) (by decide) (b112632.mono (by decide) (by decide)) (by rw [show (1 : Int32).toInt = 1 from by decide]; have z_ := b112632.2; omega) e112640 b112641 e112642x) (fun _ => rfl) rfl rfl rfl rfl (fun h112643 hJ112643 k112643 => ?_)
                        refine ev_iincB (y := 1) (l := 1) (u := 1) rfl rfl rfl (by decide) rfl rfl b112632 (by decide : B 1 1 1) (by decide) (by decide) (by decide) (by decide) (fun v112644 b112644 e112644 => ?_)
                        dsimp only [List.set]
                        have e112644x := e112644; rw [show (1 : Int32).toInt = 1 from by decide] at e112644x
                        refine ev_goto rfl rfl ?_
                        exact (ih128 v112644 h112643 (b112644.mono (by decide) (by decide)) hJ112643 (rd_a k112643 (rd_a k112638 z112624 rfl) rfl) (rd_a k112643 (rd_a k112638 z112625 rfl) rfl) (rd_a k112643 (rd_a k112638 z112626 rfl) rfl) (L_up hm128 (e_p1 e112644 (by decide))))
                  exact (lp128_112619 2 0 h112434 ((by decide : B 0 0 0).mono (by decide) (by decide)) hJ112435 z112436 e112438 e112444 (L_init (by decide : B 0 0 0) (by decide)))
              · refine ev_ialK (j := 1) (n := 12) (l := (-2147483648)) (u := 2147483647) hJ112435.1 (by decide : B 1 1 1) (by decide) (by decide) (by decide) rfl rfl rfl rfl (fun v112645 b112645 e112645 => ?_)
                refine ev_aload_n rfl rfl rfl ?_
                refine ev_getR (y := 70) rfl rfl fl_X10_42 rfl rfl rfl rfl ?_
                refine ev_iload_n rfl rfl rfl ?_
                refine ev_zalW (n := 12) (l := (-2147483648)) (u := 2147483647) hJ112435.1 (by decide : B 1 1 1) (by decide) (by decide) (fun _ => rfl) rfl rfl rfl (fun v112646 b112646 e112646 => ?_)
                refine ev_if_eq rfl rfl (fun c112647 => ?_) (fun c112647 => ?_)
                · have b112648 : B v112646 0 0 := R_eqX (B.any v112646) (by decide : B 0 0 0) c112647
                  have z112649 := congrArg Int32.toInt c112647
                  rw [show (0 : Int32).toInt = 0 from by decide] at z112649
                  refine ev_iconst (v := 0) rfl rfl (by decide) ?_
                  refine ev_isubB (l := -2147483648) (u := 2147483647) rfl rfl (B.any v112645) (by decide : B 0 0 0) (by decide) (by decide) (by decide) (by decide) (fun v112651 b112651 e112651 g112651 => ?_)
                  have e112651x := e112651; rw [show (0 : Int32).toInt = 0 from by decide] at e112651x
                  refine ev_istore_n rfl rfl rfl rfl ?_
                  dsimp only [List.set]
                  refine ev_iconst (v := 0) rfl rfl (by decide) ?_
                  refine ev_istore rfl rfl rfl rfl ?_
                  dsimp only [List.set]
                  have lp128_112755 : ∀ (n : Nat) (w112756 : Int32) (h112758 : Hp), B w112756 0 2 → JW [(81, 999), (82, 999), (83, 999)] h h112758 → (h112758 63 3 = f1) → (h112758 63 5 = v112438) → (h112758 65 1 = v112645) → 2 + 1 - w112756.toInt ≤ (n : Int) → EvQ mi_X10_prepares 128 [some (.ref 63), some (.int a0), some (.int 1), some (.int v112651), some (.int w112756)] [] (G0 L b) h112758 0 0 (QN [(81, 999), (82, 999), (83, 999)] (G0 L b) h) := by
                    intro n
                    induction n with
                    | zero =>
                      intro w112756 h112758 b112757 hJ112759 z112760 z112761 z112762 hm128
                      exact absurd hm128 (L_zero b112757 (by decide))
                    | succ n ih128 =>
                      intro w112756 h112758 b112757 hJ112759 z112760 z112761 z112762 hm128
                      have z112763 := congrArg Int32.toInt z112760
                      refine ev_iload rfl rfl rfl ?_
                      refine ev_iconst (v := 1) rfl rfl (by decide) ?_
                      refine ev_iload_n rfl rfl rfl ?_
                      refine ev_ishlL (v := 2) (by decide) rfl rfl ?_
                      refine ev_icmp_ge rfl rfl (fun c112765 => ?_) (fun c112765 => ?_)
                      · have b112766 : B w112756 2 2 := R_leY (by decide : B 2 2 2) b112757 c112765 (by decide)
                        have z112767 := w_le c112765
                        rw [show (2 : Int32).toInt = 2 from by decide] at z112767
                        refine ev_iincL (v := 2) (y := 1) rfl rfl rfl (by decide) rfl rfl (by decide) ?_
                        dsimp only [List.set]
                        refine ev_goto rfl rfl ?_
                        exact (EvQ.drop 4 (EvQ.drop 3 (ih88 2 h112758 ((by decide : B 2 2 2).mono (by decide) (by decide)) hJ112759 z112760 (L_up hm88 (by decide)))))
                      · have b112768 : B w112756 0 1 := R_ltX b112757 (by decide : B 2 2 2) (Int32.not_le.mp c112765) (by decide)
                        have z112769 := w_lt (Int32.not_le.mp c112765)
                        rw [show (2 : Int32).toInt = 2 from by decide] at z112769
                        refine ev_aload_n rfl rfl rfl ?_
                        refine ev_getR (y := 82) rfl rfl fl_X10_79 rfl rfl rfl rfl ?_
                        refine ev_iload rfl rfl rfl ?_
                        refine ev_iconst (v := 1) rfl rfl (by decide) ?_
                        refine ev_iload_n rfl rfl rfl ?_
                        refine ev_ishlL (v := 2) (by decide) rfl rfl ?_
                        refine ev_iorB 2 (u := 3) rfl rfl b112768 (by decide : B 2 2 2) (by decide) (by decide) (by decide) (by decide) (by decide) (by decide) (fun v112771 b112771 e112771 => ?_)
                        refine ev_aload_n rfl rfl rfl ?_
                        refine ev_getR (y := 82) rfl rfl fl_X10_79 rfl rfl rfl rfl ?_
                        refine ev_iload rfl rfl rfl ?_
                        refine ev_ialW (n := 4096) (l := (-2147483648)) (u := 2147483647) hJ112759.1 b112768 (by decide) (by decide) (fun _ => rfl) rfl rfl rfl (fun v112772 b112772 e112772 => ?_)
                        refine ev_iload_n rfl rfl rfl ?_
                        refine ev_iaddA rfl rfl (fun v112773 g112773 => ?_)
                        refine ev_iasW (n := 4096) (l := (-2147483648)) (u := 2147483647) hJ112759 b112771 (by decide) (by decide) (fun _ => rfl) (B.any v112773) (by decide) (by decide) (fun _ => rfl) rfl rfl rfl rfl (fun h112774 hJ112774 k112774 => ?_)
                        refine ev_aload_n rfl rfl rfl ?_
                        refine ev_getR (y := 83) rfl rfl fl_X10_82 rfl rfl rfl rfl ?_
                        refine ev_iload rfl rfl rfl ?_
                        refine ev_iconst (v := 1) rfl rfl (by decide) ?_
                        refine ev_iload_n rfl rfl rfl ?_
                        refine ev_ishlL (v := 2) (by decide) rfl rfl ?_
                        refine ev_iorB 2 (u := 3) rfl rfl b112768 (by decide : B 2 2 2) (by decide) (by decide) (by decide) (by decide) (by decide) (by decide) (fun v112776 b112776 e112776 => ?_)
                        refine ev_aload_n rfl rfl rfl ?_
                        refine ev_getR (y := 83) rfl rfl fl_X10_82 rfl rfl rfl rfl ?_
                        refine ev_iload rfl rfl rfl ?_
                        refine ev_ialG (n := 4096) hJ112774.1 b112768 (by decide) (by decide) rfl rfl rfl (fun v112777 b112777 e112777 => ?_)
                        have b112777k : B v112777 0 12 := mb_get b112777
                        refine ev_iconst (v := 1) rfl rfl (by decide) ?_
                        refine ev_iaddB (l := 1) (u := 13) rfl rfl b112777k (by decide : B 1 1 1) (by decide) (by decide) (by decide) (by decide) (fun v112778 b112778 e112778 g112778 => ?_)
                        have e112778x := e112778; rw [show (1 : Int32).toInt = 1 from by decide] at e112778x
                        refine ev_iasG (n := 4096) hJ112774 b112776 (by decide) (by decide) (mb_put (w := 1) (c := 2) (by decide) (by decide) (b112768.mono (by decide) (by decide)) (by rw [show (2 : Int32).toInt = 2 from by decide]; have z_ := b112768.2; omega) e112776 b112777 e112778x) (fun _ => rfl) rfl rfl rfl rfl (fun h112779 hJ112779 k112779 => ?_)
                        refine ev_iincB (y := 1) (l := 1) (u := 2) rfl rfl rfl (by decide) rfl rfl b112768 (by decide : B 1 1 1) (by decide) (by decide) (by decide) (by decide) (fun v112780 b112780 e112780 => ?_)
                        dsimp only [List.set]
                        have e112780x := e112780; rw [show (1 : Int32).toInt = 1 from by decide] at e112780x
                        refine ev_goto rfl rfl ?_
                        exact (ih128 v112780 h112779 (b112780.mono (by decide) (by decide)) hJ112779 (rd_a k112779 (rd_a k112774 z112760 rfl) rfl) (rd_a k112779 (rd_a k112774 z112761 rfl) rfl) (rd_a k112779 (rd_a k112774 z112762 rfl) rfl) (L_up hm128 (e_p1 e112780 (by decide))))
                  exact (lp128_112755 3 0 h112434 ((by decide : B 0 0 0).mono (by decide) (by decide)) hJ112435 z112436 e112438 e112645 (L_init (by decide : B 0 0 0) (by decide)))
                · have z112650 := w_ne c112647
                  rw [show (0 : Int32).toInt = 0 from by decide] at z112650
                  refine ev_aload_n rfl rfl rfl ?_
                  refine ev_getR (y := 65) rfl rfl fl_X10_26 rfl rfl rfl rfl ?_
                  refine ev_iload_n rfl rfl rfl ?_
                  refine ev_iadV (j := 1) (v := v112645) rfl rfl rfl (by unfold vp_in; decide) (by decide) e112645 ?_
                  refine ev_iconst (v := 2) rfl rfl (by decide) ?_
                  refine ev_idivA (by decide : B 2 2 2) (by decide) rfl rfl (fun v112781 => ?_)
                  refine ev_goto rfl rfl ?_
                  refine ev_isubA rfl rfl (fun v112782 g112782 => ?_)
                  refine ev_istore_n rfl rfl rfl rfl ?_
                  dsimp only [List.set]
                  refine ev_iconst (v := 0) rfl rfl (by decide) ?_
                  refine ev_istore rfl rfl rfl rfl ?_
                  dsimp only [List.set]
                  have lp128_112886 : ∀ (n : Nat) (w112887 : Int32) (h112889 : Hp), B w112887 0 2 → JW [(81, 999), (82, 999), (83, 999)] h h112889 → (h112889 63 3 = f1) → (h112889 63 5 = v112438) → (h112889 65 1 = v112645) → 2 + 1 - w112887.toInt ≤ (n : Int) → EvQ mi_X10_prepares 128 [some (.ref 63), some (.int a0), some (.int 1), some (.int v112782), some (.int w112887)] [] (G0 L b) h112889 0 0 (QN [(81, 999), (82, 999), (83, 999)] (G0 L b) h) := by
                    intro n
                    induction n with
                    | zero =>
                      intro w112887 h112889 b112888 hJ112890 z112891 z112892 z112893 hm128
                      exact absurd hm128 (L_zero b112888 (by decide))
                    | succ n ih128 =>
                      intro w112887 h112889 b112888 hJ112890 z112891 z112892 z112893 hm128
                      have z112894 := congrArg Int32.toInt z112891
                      refine ev_iload rfl rfl rfl ?_
                      refine ev_iconst (v := 1) rfl rfl (by decide) ?_
                      refine ev_iload_n rfl rfl rfl ?_
                      refine ev_ishlL (v := 2) (by decide) rfl rfl ?_
                      refine ev_icmp_ge rfl rfl (fun c112896 => ?_) (fun c112896 => ?_)
                      · have b112897 : B w112887 2 2 := R_leY (by decide : B 2 2 2) b112888 c112896 (by decide)
                        have z112898 := w_le c112896
                        rw [show (2 : Int32).toInt = 2 from by decide] at z112898
                        refine ev_iincL (v := 2) (y := 1) rfl rfl rfl (by decide) rfl rfl (by decide) ?_
                        dsimp only [List.set]
                        refine ev_goto rfl rfl ?_
                        exact (EvQ.drop 4 (EvQ.drop 3 (ih88 2 h112889 ((by decide : B 2 2 2).mono (by decide) (by decide)) hJ112890 z112891 (L_up hm88 (by decide)))))
                      · have b112899 : B w112887 0 1 := R_ltX b112888 (by decide : B 2 2 2) (Int32.not_le.mp c112896) (by decide)
                        have z112900 := w_lt (Int32.not_le.mp c112896)
                        rw [show (2 : Int32).toInt = 2 from by decide] at z112900
                        refine ev_aload_n rfl rfl rfl ?_
                        refine ev_getR (y := 82) rfl rfl fl_X10_79 rfl rfl rfl rfl ?_
                        refine ev_iload rfl rfl rfl ?_
                        refine ev_iconst (v := 1) rfl rfl (by decide) ?_
                        refine ev_iload_n rfl rfl rfl ?_
                        refine ev_ishlL (v := 2) (by decide) rfl rfl ?_
                        refine ev_iorB 2 (u := 3) rfl rfl b112899 (by decide : B 2 2 2) (by decide) (by decide) (by decide) (by decide) (by decide) (by decide) (fun v112902 b112902 e112902 => ?_)
                        refine ev_aload_n rfl rfl rfl ?_
                        refine ev_getR (y := 82) rfl rfl fl_X10_79 rfl rfl rfl rfl ?_
                        refine ev_iload rfl rfl rfl ?_
                        refine ev_ialW (n := 4096) (l := (-2147483648)) (u := 2147483647) hJ112890.1 b112899 (by decide) (by decide) (fun _ => rfl) rfl rfl rfl (fun v112903 b112903 e112903 => ?_)
                        refine ev_iload_n rfl rfl rfl ?_
                        refine ev_iaddA rfl rfl (fun v112904 g112904 => ?_)
                        refine ev_iasW (n := 4096) (l := (-2147483648)) (u := 2147483647) hJ112890 b112902 (by decide) (by decide) (fun _ => rfl) (B.any v112904) (by decide) (by decide) (fun _ => rfl) rfl rfl rfl rfl (fun h112905 hJ112905 k112905 => ?_)
                        refine ev_aload_n rfl rfl rfl ?_
                        refine ev_getR (y := 83) rfl rfl fl_X10_82 rfl rfl rfl rfl ?_
                        refine ev_iload rfl rfl rfl ?_
                        refine ev_iconst (v := 1) rfl rfl (by decide) ?_
                        refine ev_iload_n rfl rfl rfl ?_
                        refine ev_ishlL (v := 2) (by decide) rfl rfl ?_
                        refine ev_iorB 2 (u := 3) rfl rfl b112899 (by decide : B 2 2 2) (by decide) (by decide) (by decide) (by decide) (by decide) (by decide) (fun v112907 b112907 e112907 => ?_)
                        refine ev_aload_n rfl rfl rfl ?_
                        refine ev_getR (y := 83) rfl rfl fl_X10_82 rfl rfl rfl rfl ?_
                        refine ev_iload rfl rfl rfl ?_
                        refine ev_ialG (n := 4096) hJ112905.1 b112899 (by decide) (by decide) rfl rfl rfl (fun v112908 b112908 e112908 => ?_)
                        have b112908k : B v112908 0 12 := mb_get b112908
                        refine ev_iconst (v := 1) rfl rfl (by decide) ?_
                        refine ev_iaddB (l := 1) (u := 13) rfl rfl b112908k (by decide : B 1 1 1) (by decide) (by decide) (by decide) (by decide) (fun v112909 b112909 e112909 g112909 => ?_)
                        have e112909x := e112909; rw [show (1 : Int32).toInt = 1 from by decide] at e112909x
                        refine ev_iasG (n := 4096) hJ112905 b112907 (by decide) (by decide) (mb_put (w := 1) (c := 2) (by decide) (by decide) (b112899.mono (by decide) (by decide)) (by rw [show (2 : Int32).toInt = 2 from by decide]; have z_ := b112899.2; omega) e112907 b112908 e112909x) (fun _ => rfl) rfl rfl rfl rfl (fun h112910 hJ112910 k112910 => ?_)
                        refine ev_iincB (y := 1) (l := 1) (u := 2) rfl rfl rfl (by decide) rfl rfl b112899 (by decide : B 1 1 1) (by decide) (by decide) (by decide) (by decide) (fun v112911 b112911 e112911 => ?_)
                        dsimp only [List.set]
                        have e112911x := e112911; rw [show (1 : Int32).toInt = 1 from by decide] at e112911x
                        refine ev_goto rfl rfl ?_
                        exact (ih128 v112911 h112910 (b112911.mono (by decide) (by decide)) hJ112910 (rd_a k112910 (rd_a k112905 z112891 rfl) rfl) (rd_a k112910 (rd_a k112905 z112892 rfl) rfl) (rd_a k112910 (rd_a k112905 z112893 rfl) rfl) (L_up hm128 (e_p1 e112911 (by decide))))
                  exact (lp128_112886 3 0 h112434 ((by decide : B 0 0 0).mono (by decide) (by decide)) hJ112435 z112436 e112438 e112645 (L_init (by decide : B 0 0 0) (by decide)))
              · refine ev_ialK (j := 2) (n := 12) (l := (-2147483648)) (u := 2147483647) hJ112435.1 (by decide : B 2 2 2) (by decide) (by decide) (by decide) rfl rfl rfl rfl (fun v112912 b112912 e112912 => ?_)
                refine ev_aload_n rfl rfl rfl ?_
                refine ev_getR (y := 70) rfl rfl fl_X10_42 rfl rfl rfl rfl ?_
                refine ev_iload_n rfl rfl rfl ?_
                refine ev_zalW (n := 12) (l := (-2147483648)) (u := 2147483647) hJ112435.1 (by decide : B 2 2 2) (by decide) (by decide) (fun _ => rfl) rfl rfl rfl (fun v112913 b112913 e112913 => ?_)
                refine ev_if_eq rfl rfl (fun c112914 => ?_) (fun c112914 => ?_)
                · have b112915 : B v112913 0 0 := R_eqX (B.any v112913) (by decide : B 0 0 0) c112914
                  have z112916 := congrArg Int32.toInt c112914
                  rw [show (0 : Int32).toInt = 0 from by decide] at z112916
                  refine ev_iconst (v := 0) rfl rfl (by decide) ?_
                  refine ev_isubB (l := -2147483648) (u := 2147483647) rfl rfl (B.any v112912) (by decide : B 0 0 0) (by decide) (by decide) (by decide) (by decide) (fun v112918 b112918 e112918 g112918 => ?_)
                  have e112918x := e112918; rw [show (0 : Int32).toInt = 0 from by decide] at e112918x
                  refine ev_istore_n rfl rfl rfl rfl ?_
                  dsimp only [List.set]
                  refine ev_iconst (v := 0) rfl rfl (by decide) ?_
                  refine ev_istore rfl rfl rfl rfl ?_
                  dsimp only [List.set]
                  have lp128_113022 : ∀ (n : Nat) (w113023 : Int32) (h113025 : Hp), B w113023 0 4 → JW [(81, 999), (82, 999), (83, 999)] h h113025 → (h113025 63 3 = f1) → (h113025 63 5 = v112438) → (h113025 65 2 = v112912) → 4 + 1 - w113023.toInt ≤ (n : Int) → EvQ mi_X10_prepares 128 [some (.ref 63), some (.int a0), some (.int 2), some (.int v112918), some (.int w113023)] [] (G0 L b) h113025 0 0 (QN [(81, 999), (82, 999), (83, 999)] (G0 L b) h) := by
                    intro n
                    induction n with
                    | zero =>
                      intro w113023 h113025 b113024 hJ113026 z113027 z113028 z113029 hm128
                      exact absurd hm128 (L_zero b113024 (by decide))
                    | succ n ih128 =>
                      intro w113023 h113025 b113024 hJ113026 z113027 z113028 z113029 hm128
                      have z113030 := congrArg Int32.toInt z113027
                      refine ev_iload rfl rfl rfl ?_
                      refine ev_iconst (v := 1) rfl rfl (by decide) ?_
                      refine ev_iload_n rfl rfl rfl ?_
                      refine ev_ishlL (v := 4) (by decide) rfl rfl ?_
                      refine ev_icmp_ge rfl rfl (fun c113032 => ?_) (fun c113032 => ?_)
                      · have b113033 : B w113023 4 4 := R_leY (by decide : B 4 4 4) b113024 c113032 (by decide)
                        have z113034 := w_le c113032
                        rw [show (4 : Int32).toInt = 4 from by decide] at z113034
                        refine ev_iincL (v := 3) (y := 1) rfl rfl rfl (by decide) rfl rfl (by decide) ?_
                        dsimp only [List.set]
                        refine ev_goto rfl rfl ?_
                        exact (EvQ.drop 4 (EvQ.drop 3 (ih88 3 h113025 ((by decide : B 3 3 3).mono (by decide) (by decide)) hJ113026 z113027 (L_up hm88 (by decide)))))
                      · have b113035 : B w113023 0 3 := R_ltX b113024 (by decide : B 4 4 4) (Int32.not_le.mp c113032) (by decide)
                        have z113036 := w_lt (Int32.not_le.mp c113032)
                        rw [show (4 : Int32).toInt = 4 from by decide] at z113036
                        refine ev_aload_n rfl rfl rfl ?_
                        refine ev_getR (y := 82) rfl rfl fl_X10_79 rfl rfl rfl rfl ?_
                        refine ev_iload rfl rfl rfl ?_
                        refine ev_iconst (v := 1) rfl rfl (by decide) ?_
                        refine ev_iload_n rfl rfl rfl ?_
                        refine ev_ishlL (v := 4) (by decide) rfl rfl ?_
                        refine ev_iorB 3 (u := 7) rfl rfl b113035 (by decide : B 4 4 4) (by decide) (by decide) (by decide) (by decide) (by decide) (by decide) (fun v113038 b113038 e113038 => ?_)
                        refine ev_aload_n rfl rfl rfl ?_
                        refine ev_getR (y := 82) rfl rfl fl_X10_79 rfl rfl rfl rfl ?_
                        refine ev_iload rfl rfl rfl ?_
                        refine ev_ialW (n := 4096) (l := (-2147483648)) (u := 2147483647) hJ113026.1 b113035 (by decide) (by decide) (fun _ => rfl) rfl rfl rfl (fun v113039 b113039 e113039 => ?_)
                        refine ev_iload_n rfl rfl rfl ?_
                        refine ev_iaddA rfl rfl (fun v113040 g113040 => ?_)
                        refine ev_iasW (n := 4096) (l := (-2147483648)) (u := 2147483647) hJ113026 b113038 (by decide) (by decide) (fun _ => rfl) (B.any v113040) (by decide) (by decide) (fun _ => rfl) rfl rfl rfl rfl (fun h113041 hJ113041 k113041 => ?_)
                        refine ev_aload_n rfl rfl rfl ?_
                        refine ev_getR (y := 83) rfl rfl fl_X10_82 rfl rfl rfl rfl ?_
                        refine ev_iload rfl rfl rfl ?_
                        refine ev_iconst (v := 1) rfl rfl (by decide) ?_
                        refine ev_iload_n rfl rfl rfl ?_
                        refine ev_ishlL (v := 4) (by decide) rfl rfl ?_
                        refine ev_iorB 3 (u := 7) rfl rfl b113035 (by decide : B 4 4 4) (by decide) (by decide) (by decide) (by decide) (by decide) (by decide) (fun v113043 b113043 e113043 => ?_)
                        refine ev_aload_n rfl rfl rfl ?_
                        refine ev_getR (y := 83) rfl rfl fl_X10_82 rfl rfl rfl rfl ?_
                        refine ev_iload rfl rfl rfl ?_
                        refine ev_ialG (n := 4096) hJ113041.1 b113035 (by decide) (by decide) rfl rfl rfl (fun v113044 b113044 e113044 => ?_)
                        have b113044k : B v113044 0 12 := mb_get b113044
                        refine ev_iconst (v := 1) rfl rfl (by decide) ?_
                        refine ev_iaddB (l := 1) (u := 13) rfl rfl b113044k (by decide : B 1 1 1) (by decide) (by decide) (by decide) (by decide) (fun v113045 b113045 e113045 g113045 => ?_)
                        have e113045x := e113045; rw [show (1 : Int32).toInt = 1 from by decide] at e113045x
                        refine ev_iasG (n := 4096) hJ113041 b113043 (by decide) (by decide) (mb_put (w := 2) (c := 4) (by decide) (by decide) (b113035.mono (by decide) (by decide)) (by rw [show (4 : Int32).toInt = 4 from by decide]; have z_ := b113035.2; omega) e113043 b113044 e113045x) (fun _ => rfl) rfl rfl rfl rfl (fun h113046 hJ113046 k113046 => ?_)
                        refine ev_iincB (y := 1) (l := 1) (u := 4) rfl rfl rfl (by decide) rfl rfl b113035 (by decide : B 1 1 1) (by decide) (by decide) (by decide) (by decide) (fun v113047 b113047 e113047 => ?_)
                        dsimp only [List.set]
                        have e113047x := e113047; rw [show (1 : Int32).toInt = 1 from by decide] at e113047x
                        refine ev_goto rfl rfl ?_
                        exact (ih128 v113047 h113046 (b113047.mono (by decide) (by decide)) hJ113046 (rd_a k113046 (rd_a k113041 z113027 rfl) rfl) (rd_a k113046 (rd_a k113041 z113028 rfl) rfl) (rd_a k113046 (rd_a k113041 z113029 rfl) rfl) (L_up hm128 (e_p1 e113047 (by decide))))
                  exact (lp128_113022 5 0 h112434 ((by decide : B 0 0 0).mono (by decide) (by decide)) hJ112435 z112436 e112438 e112912 (L_init (by decide : B 0 0 0) (by decide)))
                · have z112917 := w_ne c112914
                  rw [show (0 : Int32).toInt = 0 from by decide] at z112917
                  refine ev_aload_n rfl rfl rfl ?_
                  refine ev_getR (y := 65) rfl rfl fl_X10_26 rfl rfl rfl rfl ?_
                  refine ev_iload_n rfl rfl rfl ?_
                  refine ev_iadV (j := 2) (v := v112912) rfl rfl rfl (by unfold vp_in; decide) (by decide) e112912 ?_
                  refine ev_iconst (v := 2) rfl rfl (by decide) ?_
                  refine ev_idivA (by decide : B 2 2 2) (by decide) rfl rfl (fun v113048 => ?_)
                  refine ev_goto rfl rfl ?_
                  refine ev_isubA rfl rfl (fun v113049 g113049 => ?_)
                  refine ev_istore_n rfl rfl rfl rfl ?_
                  dsimp only [List.set]
                  refine ev_iconst (v := 0) rfl rfl (by decide) ?_
                  refine ev_istore rfl rfl rfl rfl ?_
                  dsimp only [List.set]
                  have lp128_113153 : ∀ (n : Nat) (w113154 : Int32) (h113156 : Hp), B w113154 0 4 → JW [(81, 999), (82, 999), (83, 999)] h h113156 → (h113156 63 3 = f1) → (h113156 63 5 = v112438) → (h113156 65 2 = v112912) → 4 + 1 - w113154.toInt ≤ (n : Int) → EvQ mi_X10_prepares 128 [some (.ref 63), some (.int a0), some (.int 2), some (.int v113049), some (.int w113154)] [] (G0 L b) h113156 0 0 (QN [(81, 999), (82, 999), (83, 999)] (G0 L b) h) := by
                    intro n
                    induction n with
                    | zero =>
                      intro w113154 h113156 b113155 hJ113157 z113158 z113159 z113160 hm128
                      exact absurd hm128 (L_zero b113155 (by decide))
                    | succ n ih128 =>
                      intro w113154 h113156 b113155 hJ113157 z113158 z113159 z113160 hm128
                      have z113161 := congrArg Int32.toInt z113158
                      refine ev_iload rfl rfl rfl ?_
                      refine ev_iconst (v := 1) rfl rfl (by decide) ?_
                      refine ev_iload_n rfl rfl rfl ?_
                      refine ev_ishlL (v := 4) (by decide) rfl rfl ?_
                      refine ev_icmp_ge rfl rfl (fun c113163 => ?_) (fun c113163 => ?_)
                      · have b113164 : B w113154 4 4 := R_leY (by decide : B 4 4 4) b113155 c113163 (by decide)
                        have z113165 := w_le c113163
                        rw [show (4 : Int32).toInt = 4 from by decide] at z113165
                        refine ev_iincL (v := 3) (y := 1) rfl rfl rfl (by decide) rfl rfl (by decide) ?_
                        dsimp only [List.set]
                        refine ev_goto rfl rfl ?_
                        exact (EvQ.drop 4 (EvQ.drop 3 (ih88 3 h113156 ((by decide : B 3 3 3).mono (by decide) (by decide)) hJ113157 z113158 (L_up hm88 (by decide)))))
                      · have b113166 : B w113154 0 3 := R_ltX b113155 (by decide : B 4 4 4) (Int32.not_le.mp c113163) (by decide)
                        have z113167 := w_lt (Int32.not_le.mp c113163)
                        rw [show (4 : Int32).toInt = 4 from by decide] at z113167
                        refine ev_aload_n rfl rfl rfl ?_
                        refine ev_getR (y := 82) rfl rfl fl_X10_79 rfl rfl rfl rfl ?_
                        refine ev_iload rfl rfl rfl ?_
                        refine ev_iconst (v := 1) rfl rfl (by decide) ?_
                        refine ev_iload_n rfl rfl rfl ?_
                        refine ev_ishlL (v := 4) (by decide) rfl rfl ?_
                        refine ev_iorB 3 (u := 7) rfl rfl b113166 (by decide : B 4 4 4) (by decide) (by decide) (by decide) (by decide) (by decide) (by decide) (fun v113169 b113169 e113169 => ?_)
                        refine ev_aload_n rfl rfl rfl ?_
                        refine ev_getR (y := 82) rfl rfl fl_X10_79 rfl rfl rfl rfl ?_
                        refine ev_iload rfl rfl rfl ?_
                        refine ev_ialW (n := 4096) (l := (-2147483648)) (u := 2147483647) hJ113157.1 b113166 (by decide) (by decide) (fun _ => rfl) rfl rfl rfl (fun v113170 b113170 e113170 => ?_)
                        refine ev_iload_n rfl rfl rfl ?_
                        refine ev_iaddA rfl rfl (fun v113171 g113171 => ?_)
                        refine ev_iasW (n := 4096) (l := (-2147483648)) (u := 2147483647) hJ113157 b113169 (by decide) (by decide) (fun _ => rfl) (B.any v113171) (by decide) (by decide) (fun _ => rfl) rfl rfl rfl rfl (fun h113172 hJ113172 k113172 => ?_)
                        refine ev_aload_n rfl rfl rfl ?_
                        refine ev_getR (y := 83) rfl rfl fl_X10_82 rfl rfl rfl rfl ?_
                        refine ev_iload rfl rfl rfl ?_
                        refine ev_iconst (v := 1) rfl rfl (by decide) ?_
                        refine ev_iload_n rfl rfl rfl ?_
                        refine ev_ishlL (v := 4) (by decide) rfl rfl ?_
                        refine ev_iorB 3 (u := 7) rfl rfl b113166 (by decide : B 4 4 4) (by decide) (by decide) (by decide) (by decide) (by decide) (by decide) (fun v113174 b113174 e113174 => ?_)
                        refine ev_aload_n rfl rfl rfl ?_
                        refine ev_getR (y := 83) rfl rfl fl_X10_82 rfl rfl rfl rfl ?_
                        refine ev_iload rfl rfl rfl ?_
                        refine ev_ialG (n := 4096) hJ113172.1 b113166 (by decide) (by decide) rfl rfl rfl (fun v113175 b113175 e113175 => ?_)
                        have b113175k : B v113175 0 12 := mb_get b113175
                        refine ev_iconst (v := 1) rfl rfl (by decide) ?_
                        refine ev_iaddB (l := 1) (u := 13) rfl rfl b113175k (by decide : B 1 1 1) (by decide) (by decide) (by decide) (by decide) (fun v113176 b113176 e113176 g113176 => ?_)
                        have e113176x := e113176; rw [show (1 : Int32).toInt = 1 from by decide] at e113176x
                        refine ev_iasG (n := 4096) hJ113172 b113174 (by decide) (by decide) (mb_put (w := 2) (c := 4) (by decide) (by decide) (b113166.mono (by decide) (by decide)) (by rw [show (4 : Int32).toInt = 4 from by decide]; have z_ := b113166.2; omega) e113174 b113175 e113176x) (fun _ => rfl) rfl rfl rfl rfl (fun h113177 hJ113177 k113177 => ?_)
                        refine ev_iincB (y := 1) (l := 1) (u := 4) rfl rfl rfl (by decide) rfl rfl b113166 (by decide : B 1 1 1) (by decide) (by decide) (by decide) (by decide) (fun v113178 b113178 e113178 => ?_)
                        dsimp only [List.set]
                        have e113178x := e113178; rw [show (1 : Int32).toInt = 1 from by decide] at e113178x
                        refine ev_goto rfl rfl ?_
                        exact (ih128 v113178 h113177 (b113178.mono (by decide) (by decide)) hJ113177 (rd_a k113177 (rd_a k113172 z113158 rfl) rfl) (rd_a k113177 (rd_a k113172 z113159 rfl) rfl) (rd_a k113177 (rd_a k113172 z113160 rfl) rfl) (L_up hm128 (e_p1 e113178 (by decide))))
                  exact (lp128_113153 5 0 h112434 ((by decide : B 0 0 0).mono (by decide) (by decide)) hJ112435 z112436 e112438 e112912 (L_init (by decide : B 0 0 0) (by decide)))
              · refine ev_ialK (j := 3) (n := 12) (l := (-2147483648)) (u := 2147483647) hJ112435.1 (by decide : B 3 3 3) (by decide) (by decide) (by decide) rfl rfl rfl rfl (fun v113179 b113179 e113179 => ?_)
                refine ev_aload_n rfl rfl rfl ?_
                refine ev_getR (y := 70) rfl rfl fl_X10_42 rfl rfl rfl rfl ?_
                refine ev_iload_n rfl rfl rfl ?_
                refine ev_zalW (n := 12) (l := (-2147483648)) (u := 2147483647) hJ112435.1 (by decide : B 3 3 3) (by decide) (by decide) (fun _ => rfl) rfl rfl rfl (fun v113180 b113180 e113180 => ?_)
                refine ev_if_eq rfl rfl (fun c113181 => ?_) (fun c113181 => ?_)
                · have b113182 : B v113180 0 0 := R_eqX (B.any v113180) (by decide : B 0 0 0) c113181
                  have z113183 := congrArg Int32.toInt c113181
                  rw [show (0 : Int32).toInt = 0 from by decide] at z113183
                  refine ev_iconst (v := 0) rfl rfl (by decide) ?_
                  refine ev_isubB (l := -2147483648) (u := 2147483647) rfl rfl (B.any v113179) (by decide : B 0 0 0) (by decide) (by decide) (by decide) (by decide) (fun v113185 b113185 e113185 g113185 => ?_)
                  have e113185x := e113185; rw [show (0 : Int32).toInt = 0 from by decide] at e113185x
                  refine ev_istore_n rfl rfl rfl rfl ?_
                  dsimp only [List.set]
                  refine ev_iconst (v := 0) rfl rfl (by decide) ?_
                  refine ev_istore rfl rfl rfl rfl ?_
                  dsimp only [List.set]
                  have lp128_113289 : ∀ (n : Nat) (w113290 : Int32) (h113292 : Hp), B w113290 0 8 → JW [(81, 999), (82, 999), (83, 999)] h h113292 → (h113292 63 3 = f1) → (h113292 63 5 = v112438) → (h113292 65 3 = v113179) → 8 + 1 - w113290.toInt ≤ (n : Int) → EvQ mi_X10_prepares 128 [some (.ref 63), some (.int a0), some (.int 3), some (.int v113185), some (.int w113290)] [] (G0 L b) h113292 0 0 (QN [(81, 999), (82, 999), (83, 999)] (G0 L b) h) := by
                    intro n
                    induction n with
                    | zero =>
                      intro w113290 h113292 b113291 hJ113293 z113294 z113295 z113296 hm128
                      exact absurd hm128 (L_zero b113291 (by decide))
                    | succ n ih128 =>
                      intro w113290 h113292 b113291 hJ113293 z113294 z113295 z113296 hm128
                      have z113297 := congrArg Int32.toInt z113294
                      refine ev_iload rfl rfl rfl ?_
                      refine ev_iconst (v := 1) rfl rfl (by decide) ?_
                      refine ev_iload_n rfl rfl rfl ?_
                      refine ev_ishlL (v := 8) (by decide) rfl rfl ?_
                      refine ev_icmp_ge rfl rfl (fun c113299 => ?_) (fun c113299 => ?_)
                      · have b113300 : B w113290 8 8 := R_leY (by decide : B 8 8 8) b113291 c113299 (by decide)
                        have z113301 := w_le c113299
                        rw [show (8 : Int32).toInt = 8 from by decide] at z113301
                        refine ev_iincL (v := 4) (y := 1) rfl rfl rfl (by decide) rfl rfl (by decide) ?_
                        dsimp only [List.set]
                        refine ev_goto rfl rfl ?_
                        exact (EvQ.drop 4 (EvQ.drop 3 (ih88 4 h113292 ((by decide : B 4 4 4).mono (by decide) (by decide)) hJ113293 z113294 (L_up hm88 (by decide)))))
                      · have b113302 : B w113290 0 7 := R_ltX b113291 (by decide : B 8 8 8) (Int32.not_le.mp c113299) (by decide)
                        have z113303 := w_lt (Int32.not_le.mp c113299)
                        rw [show (8 : Int32).toInt = 8 from by decide] at z113303
                        refine ev_aload_n rfl rfl rfl ?_
                        refine ev_getR (y := 82) rfl rfl fl_X10_79 rfl rfl rfl rfl ?_
                        refine ev_iload rfl rfl rfl ?_
                        refine ev_iconst (v := 1) rfl rfl (by decide) ?_
                        refine ev_iload_n rfl rfl rfl ?_
                        refine ev_ishlL (v := 8) (by decide) rfl rfl ?_
                        refine ev_iorB 4 (u := 15) rfl rfl b113302 (by decide : B 8 8 8) (by decide) (by decide) (by decide) (by decide) (by decide) (by decide) (fun v113305 b113305 e113305 => ?_)
                        refine ev_aload_n rfl rfl rfl ?_
                        refine ev_getR (y := 82) rfl rfl fl_X10_79 rfl rfl rfl rfl ?_
                        refine ev_iload rfl rfl rfl ?_
                        refine ev_ialW (n := 4096) (l := (-2147483648)) (u := 2147483647) hJ113293.1 b113302 (by decide) (by decide) (fun _ => rfl) rfl rfl rfl (fun v113306 b113306 e113306 => ?_)
                        refine ev_iload_n rfl rfl rfl ?_
                        refine ev_iaddA rfl rfl (fun v113307 g113307 => ?_)
                        refine ev_iasW (n := 4096) (l := (-2147483648)) (u := 2147483647) hJ113293 b113305 (by decide) (by decide) (fun _ => rfl) (B.any v113307) (by decide) (by decide) (fun _ => rfl) rfl rfl rfl rfl (fun h113308 hJ113308 k113308 => ?_)
                        refine ev_aload_n rfl rfl rfl ?_
                        refine ev_getR (y := 83) rfl rfl fl_X10_82 rfl rfl rfl rfl ?_
                        refine ev_iload rfl rfl rfl ?_
                        refine ev_iconst (v := 1) rfl rfl (by decide) ?_
                        refine ev_iload_n rfl rfl rfl ?_
                        refine ev_ishlL (v := 8) (by decide) rfl rfl ?_
                        refine ev_iorB 4 (u := 15) rfl rfl b113302 (by decide : B 8 8 8) (by decide) (by decide) (by decide) (by decide) (by decide) (by decide) (fun v113310 b113310 e113310 => ?_)
                        refine ev_aload_n rfl rfl rfl ?_
                        refine ev_getR (y := 83) rfl rfl fl_X10_82 rfl rfl rfl rfl ?_
                        refine ev_iload rfl rfl rfl ?_
                        refine ev_ialG (n := 4096) hJ113308.1 b113302 (by decide) (by decide) rfl rfl rfl (fun v113311 b113311 e113311 => ?_)
                        have b113311k : B v113311 0 12 := mb_get b113311
                        refine ev_iconst (v := 1) rfl rfl (by decide) ?_
                        refine ev_iaddB (l := 1) (u := 13) rfl rfl b113311k (by decide : B 1 1 1) (by decide) (by decide) (by decide) (by decide) (fun v113312 b113312 e113312 g113312 => ?_)
                        have e113312x := e113312; rw [show (1 : Int32).toInt = 1 from by decide] at e113312x
                        refine ev_iasG (n := 4096) hJ113308 b113310 (by decide) (by decide) (mb_put (w := 3) (c := 8) (by decide) (by decide) (b113302.mono (by decide) (by decide)) (by rw [show (8 : Int32).toInt = 8 from by decide]; have z_ := b113302.2; omega) e113310 b113311 e113312x) (fun _ => rfl) rfl rfl rfl rfl (fun h113313 hJ113313 k113313 => ?_)
                        refine ev_iincB (y := 1) (l := 1) (u := 8) rfl rfl rfl (by decide) rfl rfl b113302 (by decide : B 1 1 1) (by decide) (by decide) (by decide) (by decide) (fun v113314 b113314 e113314 => ?_)
                        dsimp only [List.set]
                        have e113314x := e113314; rw [show (1 : Int32).toInt = 1 from by decide] at e113314x
                        refine ev_goto rfl rfl ?_
                        exact (ih128 v113314 h113313 (b113314.mono (by decide) (by decide)) hJ113313 (rd_a k113313 (rd_a k113308 z113294 rfl) rfl) (rd_a k113313 (rd_a k113308 z113295 rfl) rfl) (rd_a k113313 (rd_a k113308 z113296 rfl) rfl) (L_up hm128 (e_p1 e113314 (by decide))))
                  exact (lp128_113289 9 0 h112434 ((by decide : B 0 0 0).mono (by decide) (by decide)) hJ112435 z112436 e112438 e113179 (L_init (by decide : B 0 0 0) (by decide)))
                · have z113184 := w_ne c113181
                  rw [show (0 : Int32).toInt = 0 from by decide] at z113184
                  refine ev_aload_n rfl rfl rfl ?_
                  refine ev_getR (y := 65) rfl rfl fl_X10_26 rfl rfl rfl rfl ?_
                  refine ev_iload_n rfl rfl rfl ?_
                  refine ev_iadV (j := 3) (v := v113179) rfl rfl rfl (by unfold vp_in; decide) (by decide) e113179 ?_
                  refine ev_iconst (v := 2) rfl rfl (by decide) ?_
                  refine ev_idivA (by decide : B 2 2 2) (by decide) rfl rfl (fun v113315 => ?_)
                  refine ev_goto rfl rfl ?_
                  refine ev_isubA rfl rfl (fun v113316 g113316 => ?_)
                  refine ev_istore_n rfl rfl rfl rfl ?_
                  dsimp only [List.set]
                  refine ev_iconst (v := 0) rfl rfl (by decide) ?_
                  refine ev_istore rfl rfl rfl rfl ?_
                  dsimp only [List.set]
                  have lp128_113420 : ∀ (n : Nat) (w113421 : Int32) (h113423 : Hp), B w113421 0 8 → JW [(81, 999), (82, 999), (83, 999)] h h113423 → (h113423 63 3 = f1) → (h113423 63 5 = v112438) → (h113423 65 3 = v113179) → 8 + 1 - w113421.toInt ≤ (n : Int) → EvQ mi_X10_prepares 128 [some (.ref 63), some (.int a0), some (.int 3), some (.int v113316), some (.int w113421)] [] (G0 L b) h113423 0 0 (QN [(81, 999), (82, 999), (83, 999)] (G0 L b) h) := by
                    intro n
                    induction n with
                    | zero =>
                      intro w113421 h113423 b113422 hJ113424 z113425 z113426 z113427 hm128
                      exact absurd hm128 (L_zero b113422 (by decide))
                    | succ n ih128 =>
                      intro w113421 h113423 b113422 hJ113424 z113425 z113426 z113427 hm128
                      have z113428 := congrArg Int32.toInt z113425
                      refine ev_iload rfl rfl rfl ?_
                      refine ev_iconst (v := 1) rfl rfl (by decide) ?_
                      refine ev_iload_n rfl rfl rfl ?_
                      refine ev_ishlL (v := 8) (by decide) rfl rfl ?_
                      refine ev_icmp_ge rfl rfl (fun c113430 => ?_) (fun c113430 => ?_)
                      · have b113431 : B w113421 8 8 := R_leY (by decide : B 8 8 8) b113422 c113430 (by decide)
                        have z113432 := w_le c113430
                        rw [show (8 : Int32).toInt = 8 from by decide] at z113432
                        refine ev_iincL (v := 4) (y := 1) rfl rfl rfl (by decide) rfl rfl (by decide) ?_
                        dsimp only [List.set]
                        refine ev_goto rfl rfl ?_
                        exact (EvQ.drop 4 (EvQ.drop 3 (ih88 4 h113423 ((by decide : B 4 4 4).mono (by decide) (by decide)) hJ113424 z113425 (L_up hm88 (by decide)))))
                      · have b113433 : B w113421 0 7 := R_ltX b113422 (by decide : B 8 8 8) (Int32.not_le.mp c113430) (by decide)
                        have z113434 := w_lt (Int32.not_le.mp c113430)
                        rw [show (8 : Int32).toInt = 8 from by decide] at z113434
                        refine ev_aload_n rfl rfl rfl ?_
                        refine ev_getR (y := 82) rfl rfl fl_X10_79 rfl rfl rfl rfl ?_
                        refine ev_iload rfl rfl rfl ?_
                        refine ev_iconst (v := 1) rfl rfl (by decide) ?_
                        refine ev_iload_n rfl rfl rfl ?_
                        refine ev_ishlL (v := 8) (by decide) rfl rfl ?_
                        refine ev_iorB 4 (u := 15) rfl rfl b113433 (by decide : B 8 8 8) (by decide) (by decide) (by decide) (by decide) (by decide) (by decide) (fun v113436 b113436 e113436 => ?_)
                        refine ev_aload_n rfl rfl rfl ?_
                        refine ev_getR (y := 82) rfl rfl fl_X10_79 rfl rfl rfl rfl ?_
                        refine ev_iload rfl rfl rfl ?_
                        refine ev_ialW (n := 4096) (l := (-2147483648)) (u := 2147483647) hJ113424.1 b113433 (by decide) (by decide) (fun _ => rfl) rfl rfl rfl (fun v113437 b113437 e113437 => ?_)
                        refine ev_iload_n rfl rfl rfl ?_
                        refine ev_iaddA rfl rfl (fun v113438 g113438 => ?_)
                        refine ev_iasW (n := 4096) (l := (-2147483648)) (u := 2147483647) hJ113424 b113436 (by decide) (by decide) (fun _ => rfl) (B.any v113438) (by decide) (by decide) (fun _ => rfl) rfl rfl rfl rfl (fun h113439 hJ113439 k113439 => ?_)
                        refine ev_aload_n rfl rfl rfl ?_
                        refine ev_getR (y := 83) rfl rfl fl_X10_82 rfl rfl rfl rfl ?_
                        refine ev_iload rfl rfl rfl ?_
                        refine ev_iconst (v := 1) rfl rfl (by decide) ?_
                        refine ev_iload_n rfl rfl rfl ?_
                        refine ev_ishlL (v := 8) (by decide) rfl rfl ?_
                        refine ev_iorB 4 (u := 15) rfl rfl b113433 (by decide : B 8 8 8) (by decide) (by decide) (by decide) (by decide) (by decide) (by decide) (fun v113441 b113441 e113441 => ?_)
                        refine ev_aload_n rfl rfl rfl ?_
                        refine ev_getR (y := 83) rfl rfl fl_X10_82 rfl rfl rfl rfl ?_
                        refine ev_iload rfl rfl rfl ?_
                        refine ev_ialG (n := 4096) hJ113439.1 b113433 (by decide) (by decide) rfl rfl rfl (fun v113442 b113442 e113442 => ?_)
                        have b113442k : B v113442 0 12 := mb_get b113442
                        refine ev_iconst (v := 1) rfl rfl (by decide) ?_
                        refine ev_iaddB (l := 1) (u := 13) rfl rfl b113442k (by decide : B 1 1 1) (by decide) (by decide) (by decide) (by decide) (fun v113443 b113443 e113443 g113443 => ?_)
                        have e113443x := e113443; rw [show (1 : Int32).toInt = 1 from by decide] at e113443x
                        refine ev_iasG (n := 4096) hJ113439 b113441 (by decide) (by decide) (mb_put (w := 3) (c := 8) (by decide) (by decide) (b113433.mono (by decide) (by decide)) (by rw [show (8 : Int32).toInt = 8 from by decide]; have z_ := b113433.2; omega) e113441 b113442 e113443x) (fun _ => rfl) rfl rfl rfl rfl (fun h113444 hJ113444 k113444 => ?_)
                        refine ev_iincB (y := 1) (l := 1) (u := 8) rfl rfl rfl (by decide) rfl rfl b113433 (by decide : B 1 1 1) (by decide) (by decide) (by decide) (by decide) (fun v113445 b113445 e113445 => ?_)
                        dsimp only [List.set]
                        have e113445x := e113445; rw [show (1 : Int32).toInt = 1 from by decide] at e113445x
                        refine ev_goto rfl rfl ?_
                        exact (ih128 v113445 h113444 (b113445.mono (by decide) (by decide)) hJ113444 (rd_a k113444 (rd_a k113439 z113425 rfl) rfl) (rd_a k113444 (rd_a k113439 z113426 rfl) rfl) (rd_a k113444 (rd_a k113439 z113427 rfl) rfl) (L_up hm128 (e_p1 e113445 (by decide))))
                  exact (lp128_113420 9 0 h112434 ((by decide : B 0 0 0).mono (by decide) (by decide)) hJ112435 z112436 e112438 e113179 (L_init (by decide : B 0 0 0) (by decide)))
              · refine ev_ialK (j := 4) (n := 12) (l := (-2147483648)) (u := 2147483647) hJ112435.1 (by decide : B 4 4 4) (by decide) (by decide) (by decide) rfl rfl rfl rfl (fun v113446 b113446 e113446 => ?_)
                refine ev_aload_n rfl rfl rfl ?_
                refine ev_getR (y := 70) rfl rfl fl_X10_42 rfl rfl rfl rfl ?_
                refine ev_iload_n rfl rfl rfl ?_
                refine ev_zalW (n := 12) (l := (-2147483648)) (u := 2147483647) hJ112435.1 (by decide : B 4 4 4) (by decide) (by decide) (fun _ => rfl) rfl rfl rfl (fun v113447 b113447 e113447 => ?_)
                refine ev_if_eq rfl rfl (fun c113448 => ?_) (fun c113448 => ?_)
                · have b113449 : B v113447 0 0 := R_eqX (B.any v113447) (by decide : B 0 0 0) c113448
                  have z113450 := congrArg Int32.toInt c113448
                  rw [show (0 : Int32).toInt = 0 from by decide] at z113450
                  refine ev_iconst (v := 0) rfl rfl (by decide) ?_
                  refine ev_isubB (l := -2147483648) (u := 2147483647) rfl rfl (B.any v113446) (by decide : B 0 0 0) (by decide) (by decide) (by decide) (by decide) (fun v113452 b113452 e113452 g113452 => ?_)
                  have e113452x := e113452; rw [show (0 : Int32).toInt = 0 from by decide] at e113452x
                  refine ev_istore_n rfl rfl rfl rfl ?_
                  dsimp only [List.set]
                  refine ev_iconst (v := 0) rfl rfl (by decide) ?_
                  refine ev_istore rfl rfl rfl rfl ?_
                  dsimp only [List.set]
                  have lp128_113571 : ∀ (n : Nat) (w113572 : Int32) (h113574 : Hp), B w113572 0 16 → JW [(81, 999), (82, 999), (83, 999)] h h113574 → (h113574 63 3 = f1) → (h113574 63 5 = v112438) → (h113574 65 4 = v113446) → 16 + 1 - w113572.toInt ≤ (n : Int) → EvQ mi_X10_prepares 128 [some (.ref 63), some (.int a0), some (.int 4), some (.int v113452), some (.int w113572)] [] (G0 L b) h113574 0 0 (QN [(81, 999), (82, 999), (83, 999)] (G0 L b) h) := by
                    intro n
                    induction n with
                    | zero =>
                      intro w113572 h113574 b113573 hJ113575 z113576 z113577 z113578 hm128
                      exact absurd hm128 (L_zero b113573 (by decide))
                    | succ n ih128 =>
                      intro w113572 h113574 b113573 hJ113575 z113576 z113577 z113578 hm128
                      have z113579 := congrArg Int32.toInt z113576
                      refine ev_iload rfl rfl rfl ?_
                      refine ev_iconst (v := 1) rfl rfl (by decide) ?_
                      refine ev_iload_n rfl rfl rfl ?_
                      refine ev_ishlL (v := 16) (by decide) rfl rfl ?_
                      refine ev_icmp_ge rfl rfl (fun c113581 => ?_) (fun c113581 => ?_)
                      · have b113582 : B w113572 16 16 := R_leY (by decide : B 16 16 16) b113573 c113581 (by decide)
                        have z113583 := w_le c113581
                        rw [show (16 : Int32).toInt = 16 from by decide] at z113583
                        refine ev_iincL (v := 5) (y := 1) rfl rfl rfl (by decide) rfl rfl (by decide) ?_
                        dsimp only [List.set]
                        refine ev_goto rfl rfl ?_
                        exact (EvQ.drop 4 (EvQ.drop 3 (ih88 5 h113574 ((by decide : B 5 5 5).mono (by decide) (by decide)) hJ113575 z113576 (L_up hm88 (by decide)))))
                      · have b113584 : B w113572 0 15 := R_ltX b113573 (by decide : B 16 16 16) (Int32.not_le.mp c113581) (by decide)
                        have z113585 := w_lt (Int32.not_le.mp c113581)
                        rw [show (16 : Int32).toInt = 16 from by decide] at z113585
                        refine ev_aload_n rfl rfl rfl ?_
                        refine ev_getR (y := 82) rfl rfl fl_X10_79 rfl rfl rfl rfl ?_
                        refine ev_iload rfl rfl rfl ?_
                        refine ev_iconst (v := 1) rfl rfl (by decide) ?_
                        refine ev_iload_n rfl rfl rfl ?_
                        refine ev_ishlL (v := 16) (by decide) rfl rfl ?_
                        refine ev_iorB 5 (u := 31) rfl rfl b113584 (by decide : B 16 16 16) (by decide) (by decide) (by decide) (by decide) (by decide) (by decide) (fun v113587 b113587 e113587 => ?_)
                        refine ev_aload_n rfl rfl rfl ?_
                        refine ev_getR (y := 82) rfl rfl fl_X10_79 rfl rfl rfl rfl ?_
                        refine ev_iload rfl rfl rfl ?_
                        refine ev_ialW (n := 4096) (l := (-2147483648)) (u := 2147483647) hJ113575.1 b113584 (by decide) (by decide) (fun _ => rfl) rfl rfl rfl (fun v113588 b113588 e113588 => ?_)
                        refine ev_iload_n rfl rfl rfl ?_
                        refine ev_iaddA rfl rfl (fun v113589 g113589 => ?_)
                        refine ev_iasW (n := 4096) (l := (-2147483648)) (u := 2147483647) hJ113575 b113587 (by decide) (by decide) (fun _ => rfl) (B.any v113589) (by decide) (by decide) (fun _ => rfl) rfl rfl rfl rfl (fun h113590 hJ113590 k113590 => ?_)
                        refine ev_aload_n rfl rfl rfl ?_
                        refine ev_getR (y := 83) rfl rfl fl_X10_82 rfl rfl rfl rfl ?_
                        refine ev_iload rfl rfl rfl ?_
                        refine ev_iconst (v := 1) rfl rfl (by decide) ?_
                        refine ev_iload_n rfl rfl rfl ?_
                        refine ev_ishlL (v := 16) (by decide) rfl rfl ?_
                        refine ev_iorB 5 (u := 31) rfl rfl b113584 (by decide : B 16 16 16) (by decide) (by decide) (by decide) (by decide) (by decide) (by decide) (fun v113592 b113592 e113592 => ?_)
                        refine ev_aload_n rfl rfl rfl ?_
                        refine ev_getR (y := 83) rfl rfl fl_X10_82 rfl rfl rfl rfl ?_
                        refine ev_iload rfl rfl rfl ?_
                        refine ev_ialG (n := 4096) hJ113590.1 b113584 (by decide) (by decide) rfl rfl rfl (fun v113593 b113593 e113593 => ?_)
                        have b113593k : B v113593 0 12 := mb_get b113593
                        refine ev_iconst (v := 1) rfl rfl (by decide) ?_
                        refine ev_iaddB (l := 1) (u := 13) rfl rfl b113593k (by decide : B 1 1 1) (by decide) (by decide) (by decide) (by decide) (fun v113594 b113594 e113594 g113594 => ?_)
                        have e113594x := e113594; rw [show (1 : Int32).toInt = 1 from by decide] at e113594x
                        refine ev_iasG (n := 4096) hJ113590 b113592 (by decide) (by decide) (mb_put (w := 4) (c := 16) (by decide) (by decide) (b113584.mono (by decide) (by decide)) (by rw [show (16 : Int32).toInt = 16 from by decide]; have z_ := b113584.2; omega) e113592 b113593 e113594x) (fun _ => rfl) rfl rfl rfl rfl (fun h113595 hJ113595 k113595 => ?_)
                        refine ev_iincB (y := 1) (l := 1) (u := 16) rfl rfl rfl (by decide) rfl rfl b113584 (by decide : B 1 1 1) (by decide) (by decide) (by decide) (by decide) (fun v113596 b113596 e113596 => ?_)
                        dsimp only [List.set]
                        have e113596x := e113596; rw [show (1 : Int32).toInt = 1 from by decide] at e113596x
                        refine ev_goto rfl rfl ?_
                        exact (ih128 v113596 h113595 (b113596.mono (by decide) (by decide)) hJ113595 (rd_a k113595 (rd_a k113590 z113576 rfl) rfl) (rd_a k113595 (rd_a k113590 z113577 rfl) rfl) (rd_a k113595 (rd_a k113590 z113578 rfl) rfl) (L_up hm128 (e_p1 e113596 (by decide))))
                  exact (lp128_113571 17 0 h112434 ((by decide : B 0 0 0).mono (by decide) (by decide)) hJ112435 z112436 e112438 e113446 (L_init (by decide : B 0 0 0) (by decide)))
                · have z113451 := w_ne c113448
                  rw [show (0 : Int32).toInt = 0 from by decide] at z113451
                  refine ev_aload_n rfl rfl rfl ?_
                  refine ev_getR (y := 65) rfl rfl fl_X10_26 rfl rfl rfl rfl ?_
                  refine ev_iload_n rfl rfl rfl ?_
                  refine ev_iadV (j := 4) (v := v113446) rfl rfl rfl (by unfold vp_in; decide) (by decide) e113446 ?_
                  refine ev_iconst (v := 2) rfl rfl (by decide) ?_
                  refine ev_idivA (by decide : B 2 2 2) (by decide) rfl rfl (fun v113597 => ?_)
                  refine ev_goto rfl rfl ?_
                  refine ev_isubA rfl rfl (fun v113598 g113598 => ?_)
                  refine ev_istore_n rfl rfl rfl rfl ?_
                  dsimp only [List.set]
                  refine ev_iconst (v := 0) rfl rfl (by decide) ?_
                  refine ev_istore rfl rfl rfl rfl ?_
                  dsimp only [List.set]
                  have lp128_113717 : ∀ (n : Nat) (w113718 : Int32) (h113720 : Hp), B w113718 0 16 → JW [(81, 999), (82, 999), (83, 999)] h h113720 → (h113720 63 3 = f1) → (h113720 63 5 = v112438) → (h113720 65 4 = v113446) → 16 + 1 - w113718.toInt ≤ (n : Int) → EvQ mi_X10_prepares 128 [some (.ref 63), some (.int a0), some (.int 4), some (.int v113598), some (.int w113718)] [] (G0 L b) h113720 0 0 (QN [(81, 999), (82, 999), (83, 999)] (G0 L b) h) := by
                    intro n
                    induction n with
                    | zero =>
                      intro w113718 h113720 b113719 hJ113721 z113722 z113723 z113724 hm128
                      exact absurd hm128 (L_zero b113719 (by decide))
                    | succ n ih128 =>
                      intro w113718 h113720 b113719 hJ113721 z113722 z113723 z113724 hm128
                      have z113725 := congrArg Int32.toInt z113722
                      refine ev_iload rfl rfl rfl ?_
                      refine ev_iconst (v := 1) rfl rfl (by decide) ?_
                      refine ev_iload_n rfl rfl rfl ?_
                      refine ev_ishlL (v := 16) (by decide) rfl rfl ?_
                      refine ev_icmp_ge rfl rfl (fun c113727 => ?_) (fun c113727 => ?_)
                      · have b113728 : B w113718 16 16 := R_leY (by decide : B 16 16 16) b113719 c113727 (by decide)
                        have z113729 := w_le c113727
                        rw [show (16 : Int32).toInt = 16 from by decide] at z113729
                        refine ev_iincL (v := 5) (y := 1) rfl rfl rfl (by decide) rfl rfl (by decide) ?_
                        dsimp only [List.set]
                        refine ev_goto rfl rfl ?_
                        exact (EvQ.drop 4 (EvQ.drop 3 (ih88 5 h113720 ((by decide : B 5 5 5).mono (by decide) (by decide)) hJ113721 z113722 (L_up hm88 (by decide)))))
                      · have b113730 : B w113718 0 15 := R_ltX b113719 (by decide : B 16 16 16) (Int32.not_le.mp c113727) (by decide)
                        have z113731 := w_lt (Int32.not_le.mp c113727)
                        rw [show (16 : Int32).toInt = 16 from by decide] at z113731
                        refine ev_aload_n rfl rfl rfl ?_
                        refine ev_getR (y := 82) rfl rfl fl_X10_79 rfl rfl rfl rfl ?_
                        refine ev_iload rfl rfl rfl ?_
                        refine ev_iconst (v := 1) rfl rfl (by decide) ?_
                        refine ev_iload_n rfl rfl rfl ?_
                        refine ev_ishlL (v := 16) (by decide) rfl rfl ?_
                        refine ev_iorB 5 (u := 31) rfl rfl b113730 (by decide : B 16 16 16) (by decide) (by decide) (by decide) (by decide) (by decide) (by decide) (fun v113733 b113733 e113733 => ?_)
                        refine ev_aload_n rfl rfl rfl ?_
                        refine ev_getR (y := 82) rfl rfl fl_X10_79 rfl rfl rfl rfl ?_
                        refine ev_iload rfl rfl rfl ?_
                        refine ev_ialW (n := 4096) (l := (-2147483648)) (u := 2147483647) hJ113721.1 b113730 (by decide) (by decide) (fun _ => rfl) rfl rfl rfl (fun v113734 b113734 e113734 => ?_)
                        refine ev_iload_n rfl rfl rfl ?_
                        refine ev_iaddA rfl rfl (fun v113735 g113735 => ?_)
                        refine ev_iasW (n := 4096) (l := (-2147483648)) (u := 2147483647) hJ113721 b113733 (by decide) (by decide) (fun _ => rfl) (B.any v113735) (by decide) (by decide) (fun _ => rfl) rfl rfl rfl rfl (fun h113736 hJ113736 k113736 => ?_)
                        refine ev_aload_n rfl rfl rfl ?_
                        refine ev_getR (y := 83) rfl rfl fl_X10_82 rfl rfl rfl rfl ?_
                        refine ev_iload rfl rfl rfl ?_
                        refine ev_iconst (v := 1) rfl rfl (by decide) ?_
                        refine ev_iload_n rfl rfl rfl ?_
                        refine ev_ishlL (v := 16) (by decide) rfl rfl ?_
                        refine ev_iorB 5 (u := 31) rfl rfl b113730 (by decide : B 16 16 16) (by decide) (by decide) (by decide) (by decide) (by decide) (by decide) (fun v113738 b113738 e113738 => ?_)
                        refine ev_aload_n rfl rfl rfl ?_
                        refine ev_getR (y := 83) rfl rfl fl_X10_82 rfl rfl rfl rfl ?_
                        refine ev_iload rfl rfl rfl ?_
                        refine ev_ialG (n := 4096) hJ113736.1 b113730 (by decide) (by decide) rfl rfl rfl (fun v113739 b113739 e113739 => ?_)
                        have b113739k : B v113739 0 12 := mb_get b113739
                        refine ev_iconst (v := 1) rfl rfl (by decide) ?_
                        refine ev_iaddB (l := 1) (u := 13) rfl rfl b113739k (by decide : B 1 1 1) (by decide) (by decide) (by decide) (by decide) (fun v113740 b113740 e113740 g113740 => ?_)
                        have e113740x := e113740; rw [show (1 : Int32).toInt = 1 from by decide] at e113740x
                        refine ev_iasG (n := 4096) hJ113736 b113738 (by decide) (by decide) (mb_put (w := 4) (c := 16) (by decide) (by decide) (b113730.mono (by decide) (by decide)) (by rw [show (16 : Int32).toInt = 16 from by decide]; have z_ := b113730.2; omega) e113738 b113739 e113740x) (fun _ => rfl) rfl rfl rfl rfl (fun h113741 hJ113741 k113741 => ?_)
                        refine ev_iincB (y := 1) (l := 1) (u := 16) rfl rfl rfl (by decide) rfl rfl b113730 (by decide : B 1 1 1) (by decide) (by decide) (by decide) (by decide) (fun v113742 b113742 e113742 => ?_)
                        dsimp only [List.set]
                        have e113742x := e113742; rw [show (1 : Int32).toInt = 1 from by decide] at e113742x
                        refine ev_goto rfl rfl ?_
                        exact (ih128 v113742 h113741 (b113742.mono (by decide) (by decide)) hJ113741 (rd_a k113741 (rd_a k113736 z113722 rfl) rfl) (rd_a k113741 (rd_a k113736 z113723 rfl) rfl) (rd_a k113741 (rd_a k113736 z113724 rfl) rfl) (L_up hm128 (e_p1 e113742 (by decide))))
                  exact (lp128_113717 17 0 h112434 ((by decide : B 0 0 0).mono (by decide) (by decide)) hJ112435 z112436 e112438 e113446 (L_init (by decide : B 0 0 0) (by decide)))
              · refine ev_ialK (j := 5) (n := 12) (l := (-2147483648)) (u := 2147483647) hJ112435.1 (by decide : B 5 5 5) (by decide) (by decide) (by decide) rfl rfl rfl rfl (fun v113743 b113743 e113743 => ?_)
                refine ev_aload_n rfl rfl rfl ?_
                refine ev_getR (y := 70) rfl rfl fl_X10_42 rfl rfl rfl rfl ?_
                refine ev_iload_n rfl rfl rfl ?_
                refine ev_zalW (n := 12) (l := (-2147483648)) (u := 2147483647) hJ112435.1 (by decide : B 5 5 5) (by decide) (by decide) (fun _ => rfl) rfl rfl rfl (fun v113744 b113744 e113744 => ?_)
                refine ev_if_eq rfl rfl (fun c113745 => ?_) (fun c113745 => ?_)
                · have b113746 : B v113744 0 0 := R_eqX (B.any v113744) (by decide : B 0 0 0) c113745
                  have z113747 := congrArg Int32.toInt c113745
                  rw [show (0 : Int32).toInt = 0 from by decide] at z113747
                  refine ev_iconst (v := 0) rfl rfl (by decide) ?_
                  refine ev_isubB (l := -2147483648) (u := 2147483647) rfl rfl (B.any v113743) (by decide : B 0 0 0) (by decide) (by decide) (by decide) (by decide) (fun v113749 b113749 e113749 g113749 => ?_)
                  have e113749x := e113749; rw [show (0 : Int32).toInt = 0 from by decide] at e113749x
                  refine ev_istore_n rfl rfl rfl rfl ?_
                  dsimp only [List.set]
                  refine ev_iconst (v := 0) rfl rfl (by decide) ?_
                  refine ev_istore rfl rfl rfl rfl ?_
                  dsimp only [List.set]
                  have lp128_113883 : ∀ (n : Nat) (w113884 : Int32) (h113886 : Hp), B w113884 0 32 → JW [(81, 999), (82, 999), (83, 999)] h h113886 → (h113886 63 3 = f1) → (h113886 63 5 = v112438) → (h113886 65 5 = v113743) → 32 + 1 - w113884.toInt ≤ (n : Int) → EvQ mi_X10_prepares 128 [some (.ref 63), some (.int a0), some (.int 5), some (.int v113749), some (.int w113884)] [] (G0 L b) h113886 0 0 (QN [(81, 999), (82, 999), (83, 999)] (G0 L b) h) := by
                    intro n
                    induction n with
                    | zero =>
                      intro w113884 h113886 b113885 hJ113887 z113888 z113889 z113890 hm128
                      exact absurd hm128 (L_zero b113885 (by decide))
                    | succ n ih128 =>
                      intro w113884 h113886 b113885 hJ113887 z113888 z113889 z113890 hm128
                      have z113891 := congrArg Int32.toInt z113888
                      refine ev_iload rfl rfl rfl ?_
                      refine ev_iconst (v := 1) rfl rfl (by decide) ?_
                      refine ev_iload_n rfl rfl rfl ?_
                      refine ev_ishlL (v := 32) (by decide) rfl rfl ?_
                      refine ev_icmp_ge rfl rfl (fun c113893 => ?_) (fun c113893 => ?_)
                      · have b113894 : B w113884 32 32 := R_leY (by decide : B 32 32 32) b113885 c113893 (by decide)
                        have z113895 := w_le c113893
                        rw [show (32 : Int32).toInt = 32 from by decide] at z113895
                        refine ev_iincL (v := 6) (y := 1) rfl rfl rfl (by decide) rfl rfl (by decide) ?_
                        dsimp only [List.set]
                        refine ev_goto rfl rfl ?_
                        exact (EvQ.drop 4 (EvQ.drop 3 (ih88 6 h113886 ((by decide : B 6 6 6).mono (by decide) (by decide)) hJ113887 z113888 (L_up hm88 (by decide)))))
                      · have b113896 : B w113884 0 31 := R_ltX b113885 (by decide : B 32 32 32) (Int32.not_le.mp c113893) (by decide)
                        have z113897 := w_lt (Int32.not_le.mp c113893)
                        rw [show (32 : Int32).toInt = 32 from by decide] at z113897
                        refine ev_aload_n rfl rfl rfl ?_
                        refine ev_getR (y := 82) rfl rfl fl_X10_79 rfl rfl rfl rfl ?_
                        refine ev_iload rfl rfl rfl ?_
                        refine ev_iconst (v := 1) rfl rfl (by decide) ?_
                        refine ev_iload_n rfl rfl rfl ?_
                        refine ev_ishlL (v := 32) (by decide) rfl rfl ?_
                        refine ev_iorB 6 (u := 63) rfl rfl b113896 (by decide : B 32 32 32) (by decide) (by decide) (by decide) (by decide) (by decide) (by decide) (fun v113899 b113899 e113899 => ?_)
                        refine ev_aload_n rfl rfl rfl ?_
                        refine ev_getR (y := 82) rfl rfl fl_X10_79 rfl rfl rfl rfl ?_
                        refine ev_iload rfl rfl rfl ?_
                        refine ev_ialW (n := 4096) (l := (-2147483648)) (u := 2147483647) hJ113887.1 b113896 (by decide) (by decide) (fun _ => rfl) rfl rfl rfl (fun v113900 b113900 e113900 => ?_)
                        refine ev_iload_n rfl rfl rfl ?_
                        refine ev_iaddA rfl rfl (fun v113901 g113901 => ?_)
                        refine ev_iasW (n := 4096) (l := (-2147483648)) (u := 2147483647) hJ113887 b113899 (by decide) (by decide) (fun _ => rfl) (B.any v113901) (by decide) (by decide) (fun _ => rfl) rfl rfl rfl rfl (fun h113902 hJ113902 k113902 => ?_)
                        refine ev_aload_n rfl rfl rfl ?_
                        refine ev_getR (y := 83) rfl rfl fl_X10_82 rfl rfl rfl rfl ?_
                        refine ev_iload rfl rfl rfl ?_
                        refine ev_iconst (v := 1) rfl rfl (by decide) ?_
                        refine ev_iload_n rfl rfl rfl ?_
                        refine ev_ishlL (v := 32) (by decide) rfl rfl ?_
                        refine ev_iorB 6 (u := 63) rfl rfl b113896 (by decide : B 32 32 32) (by decide) (by decide) (by decide) (by decide) (by decide) (by decide) (fun v113904 b113904 e113904 => ?_)
                        refine ev_aload_n rfl rfl rfl ?_
                        refine ev_getR (y := 83) rfl rfl fl_X10_82 rfl rfl rfl rfl ?_
                        refine ev_iload rfl rfl rfl ?_
                        refine ev_ialG (n := 4096) hJ113902.1 b113896 (by decide) (by decide) rfl rfl rfl (fun v113905 b113905 e113905 => ?_)
                        have b113905k : B v113905 0 12 := mb_get b113905
                        refine ev_iconst (v := 1) rfl rfl (by decide) ?_
                        refine ev_iaddB (l := 1) (u := 13) rfl rfl b113905k (by decide : B 1 1 1) (by decide) (by decide) (by decide) (by decide) (fun v113906 b113906 e113906 g113906 => ?_)
                        have e113906x := e113906; rw [show (1 : Int32).toInt = 1 from by decide] at e113906x
                        refine ev_iasG (n := 4096) hJ113902 b113904 (by decide) (by decide) (mb_put (w := 5) (c := 32) (by decide) (by decide) (b113896.mono (by decide) (by decide)) (by rw [show (32 : Int32).toInt = 32 from by decide]; have z_ := b113896.2; omega) e113904 b113905 e113906x) (fun _ => rfl) rfl rfl rfl rfl (fun h113907 hJ113907 k113907 => ?_)
                        refine ev_iincB (y := 1) (l := 1) (u := 32) rfl rfl rfl (by decide) rfl rfl b113896 (by decide : B 1 1 1) (by decide) (by decide) (by decide) (by decide) (fun v113908 b113908 e113908 => ?_)
                        dsimp only [List.set]
                        have e113908x := e113908; rw [show (1 : Int32).toInt = 1 from by decide] at e113908x
                        refine ev_goto rfl rfl ?_
                        exact (ih128 v113908 h113907 (b113908.mono (by decide) (by decide)) hJ113907 (rd_a k113907 (rd_a k113902 z113888 rfl) rfl) (rd_a k113907 (rd_a k113902 z113889 rfl) rfl) (rd_a k113907 (rd_a k113902 z113890 rfl) rfl) (L_up hm128 (e_p1 e113908 (by decide))))
                  exact (lp128_113883 33 0 h112434 ((by decide : B 0 0 0).mono (by decide) (by decide)) hJ112435 z112436 e112438 e113743 (L_init (by decide : B 0 0 0) (by decide)))
                · have z113748 := w_ne c113745
                  rw [show (0 : Int32).toInt = 0 from by decide] at z113748
                  refine ev_aload_n rfl rfl rfl ?_
                  refine ev_getR (y := 65) rfl rfl fl_X10_26 rfl rfl rfl rfl ?_
                  refine ev_iload_n rfl rfl rfl ?_
                  refine ev_iadV (j := 5) (v := v113743) rfl rfl rfl (by unfold vp_in; decide) (by decide) e113743 ?_
                  refine ev_iconst (v := 2) rfl rfl (by decide) ?_
                  refine ev_idivA (by decide : B 2 2 2) (by decide) rfl rfl (fun v113909 => ?_)
                  refine ev_goto rfl rfl ?_
                  refine ev_isubA rfl rfl (fun v113910 g113910 => ?_)
                  refine ev_istore_n rfl rfl rfl rfl ?_
                  dsimp only [List.set]
                  refine ev_iconst (v := 0) rfl rfl (by decide) ?_
                  refine ev_istore rfl rfl rfl rfl ?_
                  dsimp only [List.set]
                  have lp128_114044 : ∀ (n : Nat) (w114045 : Int32) (h114047 : Hp), B w114045 0 32 → JW [(81, 999), (82, 999), (83, 999)] h h114047 → (h114047 63 3 = f1) → (h114047 63 5 = v112438) → (h114047 65 5 = v113743) → 32 + 1 - w114045.toInt ≤ (n : Int) → EvQ mi_X10_prepares 128 [some (.ref 63), some (.int a0), some (.int 5), some (.int v113910), some (.int w114045)] [] (G0 L b) h114047 0 0 (QN [(81, 999), (82, 999), (83, 999)] (G0 L b) h) := by
                    intro n
                    induction n with
                    | zero =>
                      intro w114045 h114047 b114046 hJ114048 z114049 z114050 z114051 hm128
                      exact absurd hm128 (L_zero b114046 (by decide))
                    | succ n ih128 =>
                      intro w114045 h114047 b114046 hJ114048 z114049 z114050 z114051 hm128
                      have z114052 := congrArg Int32.toInt z114049
                      refine ev_iload rfl rfl rfl ?_
                      refine ev_iconst (v := 1) rfl rfl (by decide) ?_
                      refine ev_iload_n rfl rfl rfl ?_
                      refine ev_ishlL (v := 32) (by decide) rfl rfl ?_
                      refine ev_icmp_ge rfl rfl (fun c114054 => ?_) (fun c114054 => ?_)
                      · have b114055 : B w114045 32 32 := R_leY (by decide : B 32 32 32) b114046 c114054 (by decide)
                        have z114056 := w_le c114054
                        rw [show (32 : Int32).toInt = 32 from by decide] at z114056
                        refine ev_iincL (v := 6) (y := 1) rfl rfl rfl (by decide) rfl rfl (by decide) ?_
                        dsimp only [List.set]
                        refine ev_goto rfl rfl ?_
                        exact (EvQ.drop 4 (EvQ.drop 3 (ih88 6 h114047 ((by decide : B 6 6 6).mono (by decide) (by decide)) hJ114048 z114049 (L_up hm88 (by decide)))))
                      · have b114057 : B w114045 0 31 := R_ltX b114046 (by decide : B 32 32 32) (Int32.not_le.mp c114054) (by decide)
                        have z114058 := w_lt (Int32.not_le.mp c114054)
                        rw [show (32 : Int32).toInt = 32 from by decide] at z114058
                        refine ev_aload_n rfl rfl rfl ?_
                        refine ev_getR (y := 82) rfl rfl fl_X10_79 rfl rfl rfl rfl ?_
                        refine ev_iload rfl rfl rfl ?_
                        refine ev_iconst (v := 1) rfl rfl (by decide) ?_
                        refine ev_iload_n rfl rfl rfl ?_
                        refine ev_ishlL (v := 32) (by decide) rfl rfl ?_
                        refine ev_iorB 6 (u := 63) rfl rfl b114057 (by decide : B 32 32 32) (by decide) (by decide) (by decide) (by decide) (by decide) (by decide) (fun v114060 b114060 e114060 => ?_)
                        refine ev_aload_n rfl rfl rfl ?_
                        refine ev_getR (y := 82) rfl rfl fl_X10_79 rfl rfl rfl rfl ?_
                        refine ev_iload rfl rfl rfl ?_
                        refine ev_ialW (n := 4096) (l := (-2147483648)) (u := 2147483647) hJ114048.1 b114057 (by decide) (by decide) (fun _ => rfl) rfl rfl rfl (fun v114061 b114061 e114061 => ?_)
                        refine ev_iload_n rfl rfl rfl ?_
                        refine ev_iaddA rfl rfl (fun v114062 g114062 => ?_)
                        refine ev_iasW (n := 4096) (l := (-2147483648)) (u := 2147483647) hJ114048 b114060 (by decide) (by decide) (fun _ => rfl) (B.any v114062) (by decide) (by decide) (fun _ => rfl) rfl rfl rfl rfl (fun h114063 hJ114063 k114063 => ?_)
                        refine ev_aload_n rfl rfl rfl ?_
                        refine ev_getR (y := 83) rfl rfl fl_X10_82 rfl rfl rfl rfl ?_
                        refine ev_iload rfl rfl rfl ?_
                        refine ev_iconst (v := 1) rfl rfl (by decide) ?_
                        refine ev_iload_n rfl rfl rfl ?_
                        refine ev_ishlL (v := 32) (by decide) rfl rfl ?_
                        refine ev_iorB 6 (u := 63) rfl rfl b114057 (by decide : B 32 32 32) (by decide) (by decide) (by decide) (by decide) (by decide) (by decide) (fun v114065 b114065 e114065 => ?_)
                        refine ev_aload_n rfl rfl rfl ?_
                        refine ev_getR (y := 83) rfl rfl fl_X10_82 rfl rfl rfl rfl ?_
                        refine ev_iload rfl rfl rfl ?_
                        refine ev_ialG (n := 4096) hJ114063.1 b114057 (by decide) (by decide) rfl rfl rfl (fun v114066 b114066 e114066 => ?_)
                        have b114066k : B v114066 0 12 := mb_get b114066
                        refine ev_iconst (v := 1) rfl rfl (by decide) ?_
                        refine ev_iaddB (l := 1) (u := 13) rfl rfl b114066k (by decide : B 1 1 1) (by decide) (by decide) (by decide) (by decide) (fun v114067 b114067 e114067 g114067 => ?_)
                        have e114067x := e114067; rw [show (1 : Int32).toInt = 1 from by decide] at e114067x
                        refine ev_iasG (n := 4096) hJ114063 b114065 (by decide) (by decide) (mb_put (w := 5) (c := 32) (by decide) (by decide) (b114057.mono (by decide) (by decide)) (by rw [show (32 : Int32).toInt = 32 from by decide]; have z_ := b114057.2; omega) e114065 b114066 e114067x) (fun _ => rfl) rfl rfl rfl rfl (fun h114068 hJ114068 k114068 => ?_)
                        refine ev_iincB (y := 1) (l := 1) (u := 32) rfl rfl rfl (by decide) rfl rfl b114057 (by decide : B 1 1 1) (by decide) (by decide) (by decide) (by decide) (fun v114069 b114069 e114069 => ?_)
                        dsimp only [List.set]
                        have e114069x := e114069; rw [show (1 : Int32).toInt = 1 from by decide] at e114069x
                        refine ev_goto rfl rfl ?_
                        exact (ih128 v114069 h114068 (b114069.mono (by decide) (by decide)) hJ114068 (rd_a k114068 (rd_a k114063 z114049 rfl) rfl) (rd_a k114068 (rd_a k114063 z114050 rfl) rfl) (rd_a k114068 (rd_a k114063 z114051 rfl) rfl) (L_up hm128 (e_p1 e114069 (by decide))))
                  exact (lp128_114044 33 0 h112434 ((by decide : B 0 0 0).mono (by decide) (by decide)) hJ112435 z112436 e112438 e113743 (L_init (by decide : B 0 0 0) (by decide)))
              · refine ev_ialK (j := 6) (n := 12) (l := (-2147483648)) (u := 2147483647) hJ112435.1 (by decide : B 6 6 6) (by decide) (by decide) (by decide) rfl rfl rfl rfl (fun v114070 b114070 e114070 => ?_)
                refine ev_aload_n rfl rfl rfl ?_
                refine ev_getR (y := 70) rfl rfl fl_X10_42 rfl rfl rfl rfl ?_
                refine ev_iload_n rfl rfl rfl ?_
                refine ev_zalW (n := 12) (l := (-2147483648)) (u := 2147483647) hJ112435.1 (by decide : B 6 6 6) (by decide) (by decide) (fun _ => rfl) rfl rfl rfl (fun v114071 b114071 e114071 => ?_)
                refine ev_if_eq rfl rfl (fun c114072 => ?_) (fun c114072 => ?_)
                · have b114073 : B v114071 0 0 := R_eqX (B.any v114071) (by decide : B 0 0 0) c114072
                  have z114074 := congrArg Int32.toInt c114072
                  rw [show (0 : Int32).toInt = 0 from by decide] at z114074
                  refine ev_iconst (v := 0) rfl rfl (by decide) ?_
                  refine ev_isubB (l := -2147483648) (u := 2147483647) rfl rfl (B.any v114070) (by decide : B 0 0 0) (by decide) (by decide) (by decide) (by decide) (fun v114076 b114076 e114076 g114076 => ?_)
                  have e114076x := e114076; rw [show (0 : Int32).toInt = 0 from by decide] at e114076x
                  refine ev_istore_n rfl rfl rfl rfl ?_
                  dsimp only [List.set]
                  refine ev_iconst (v := 0) rfl rfl (by decide) ?_
                  refine ev_istore rfl rfl rfl rfl ?_
                  dsimp only [List.set]
                  have lp128_114210 : ∀ (n : Nat) (w114211 : Int32) (h114213 : Hp), B w114211 0 64 → JW [(81, 999), (82, 999), (83, 999)] h h114213 → (h114213 63 3 = f1) → (h114213 63 5 = v112438) → (h114213 65 6 = v114070) → 64 + 1 - w114211.toInt ≤ (n : Int) → EvQ mi_X10_prepares 128 [some (.ref 63), some (.int a0), some (.int 6), some (.int v114076), some (.int w114211)] [] (G0 L b) h114213 0 0 (QN [(81, 999), (82, 999), (83, 999)] (G0 L b) h) := by
                    intro n
                    induction n with
                    | zero =>
                      intro w114211 h114213 b114212 hJ114214 z114215 z114216 z114217 hm128
                      exact absurd hm128 (L_zero b114212 (by decide))
                    | succ n ih128 =>
                      intro w114211 h114213 b114212 hJ114214 z114215 z114216 z114217 hm128
                      have z114218 := congrArg Int32.toInt z114215
                      refine ev_iload rfl rfl rfl ?_
                      refine ev_iconst (v := 1) rfl rfl (by decide) ?_
                      refine ev_iload_n rfl rfl rfl ?_
                      refine ev_ishlL (v := 64) (by decide) rfl rfl ?_
                      refine ev_icmp_ge rfl rfl (fun c114220 => ?_) (fun c114220 => ?_)
                      · have b114221 : B w114211 64 64 := R_leY (by decide : B 64 64 64) b114212 c114220 (by decide)
                        have z114222 := w_le c114220
                        rw [show (64 : Int32).toInt = 64 from by decide] at z114222
                        refine ev_iincL (v := 7) (y := 1) rfl rfl rfl (by decide) rfl rfl (by decide) ?_
                        dsimp only [List.set]
                        refine ev_goto rfl rfl ?_
                        exact (EvQ.drop 4 (EvQ.drop 3 (ih88 7 h114213 ((by decide : B 7 7 7).mono (by decide) (by decide)) hJ114214 z114215 (L_up hm88 (by decide)))))
                      · have b114223 : B w114211 0 63 := R_ltX b114212 (by decide : B 64 64 64) (Int32.not_le.mp c114220) (by decide)
                        have z114224 := w_lt (Int32.not_le.mp c114220)
                        rw [show (64 : Int32).toInt = 64 from by decide] at z114224
                        refine ev_aload_n rfl rfl rfl ?_
                        refine ev_getR (y := 82) rfl rfl fl_X10_79 rfl rfl rfl rfl ?_
                        refine ev_iload rfl rfl rfl ?_
                        refine ev_iconst (v := 1) rfl rfl (by decide) ?_
                        refine ev_iload_n rfl rfl rfl ?_
                        refine ev_ishlL (v := 64) (by decide) rfl rfl ?_
                        refine ev_iorB 7 (u := 127) rfl rfl b114223 (by decide : B 64 64 64) (by decide) (by decide) (by decide) (by decide) (by decide) (by decide) (fun v114226 b114226 e114226 => ?_)
                        refine ev_aload_n rfl rfl rfl ?_
                        refine ev_getR (y := 82) rfl rfl fl_X10_79 rfl rfl rfl rfl ?_
                        refine ev_iload rfl rfl rfl ?_
                        refine ev_ialW (n := 4096) (l := (-2147483648)) (u := 2147483647) hJ114214.1 b114223 (by decide) (by decide) (fun _ => rfl) rfl rfl rfl (fun v114227 b114227 e114227 => ?_)
                        refine ev_iload_n rfl rfl rfl ?_
                        refine ev_iaddA rfl rfl (fun v114228 g114228 => ?_)
                        refine ev_iasW (n := 4096) (l := (-2147483648)) (u := 2147483647) hJ114214 b114226 (by decide) (by decide) (fun _ => rfl) (B.any v114228) (by decide) (by decide) (fun _ => rfl) rfl rfl rfl rfl (fun h114229 hJ114229 k114229 => ?_)
                        refine ev_aload_n rfl rfl rfl ?_
                        refine ev_getR (y := 83) rfl rfl fl_X10_82 rfl rfl rfl rfl ?_
                        refine ev_iload rfl rfl rfl ?_
                        refine ev_iconst (v := 1) rfl rfl (by decide) ?_
                        refine ev_iload_n rfl rfl rfl ?_
                        refine ev_ishlL (v := 64) (by decide) rfl rfl ?_
                        refine ev_iorB 7 (u := 127) rfl rfl b114223 (by decide : B 64 64 64) (by decide) (by decide) (by decide) (by decide) (by decide) (by decide) (fun v114231 b114231 e114231 => ?_)
                        refine ev_aload_n rfl rfl rfl ?_
                        refine ev_getR (y := 83) rfl rfl fl_X10_82 rfl rfl rfl rfl ?_
                        refine ev_iload rfl rfl rfl ?_
                        refine ev_ialG (n := 4096) hJ114229.1 b114223 (by decide) (by decide) rfl rfl rfl (fun v114232 b114232 e114232 => ?_)
                        have b114232k : B v114232 0 12 := mb_get b114232
                        refine ev_iconst (v := 1) rfl rfl (by decide) ?_
                        refine ev_iaddB (l := 1) (u := 13) rfl rfl b114232k (by decide : B 1 1 1) (by decide) (by decide) (by decide) (by decide) (fun v114233 b114233 e114233 g114233 => ?_)
                        have e114233x := e114233; rw [show (1 : Int32).toInt = 1 from by decide] at e114233x
                        refine ev_iasG (n := 4096) hJ114229 b114231 (by decide) (by decide) (mb_put (w := 6) (c := 64) (by decide) (by decide) (b114223.mono (by decide) (by decide)) (by rw [show (64 : Int32).toInt = 64 from by decide]; have z_ := b114223.2; omega) e114231 b114232 e114233x) (fun _ => rfl) rfl rfl rfl rfl (fun h114234 hJ114234 k114234 => ?_)
                        refine ev_iincB (y := 1) (l := 1) (u := 64) rfl rfl rfl (by decide) rfl rfl b114223 (by decide : B 1 1 1) (by decide) (by decide) (by decide) (by decide) (fun v114235 b114235 e114235 => ?_)
                        dsimp only [List.set]
                        have e114235x := e114235; rw [show (1 : Int32).toInt = 1 from by decide] at e114235x
                        refine ev_goto rfl rfl ?_
                        exact (ih128 v114235 h114234 (b114235.mono (by decide) (by decide)) hJ114234 (rd_a k114234 (rd_a k114229 z114215 rfl) rfl) (rd_a k114234 (rd_a k114229 z114216 rfl) rfl) (rd_a k114234 (rd_a k114229 z114217 rfl) rfl) (L_up hm128 (e_p1 e114235 (by decide))))
                  exact (lp128_114210 65 0 h112434 ((by decide : B 0 0 0).mono (by decide) (by decide)) hJ112435 z112436 e112438 e114070 (L_init (by decide : B 0 0 0) (by decide)))
                · have z114075 := w_ne c114072
                  rw [show (0 : Int32).toInt = 0 from by decide] at z114075
                  refine ev_aload_n rfl rfl rfl ?_
                  refine ev_getR (y := 65) rfl rfl fl_X10_26 rfl rfl rfl rfl ?_
                  refine ev_iload_n rfl rfl rfl ?_
                  refine ev_iadV (j := 6) (v := v114070) rfl rfl rfl (by unfold vp_in; decide) (by decide) e114070 ?_
                  refine ev_iconst (v := 2) rfl rfl (by decide) ?_
                  refine ev_idivA (by decide : B 2 2 2) (by decide) rfl rfl (fun v114236 => ?_)
                  refine ev_goto rfl rfl ?_
                  refine ev_isubA rfl rfl (fun v114237 g114237 => ?_)
                  refine ev_istore_n rfl rfl rfl rfl ?_
                  dsimp only [List.set]
                  refine ev_iconst (v := 0) rfl rfl (by decide) ?_
                  refine ev_istore rfl rfl rfl rfl ?_
                  dsimp only [List.set]
                  have lp128_114371 : ∀ (n : Nat) (w114372 : Int32) (h114374 : Hp), B w114372 0 64 → JW [(81, 999), (82, 999), (83, 999)] h h114374 → (h114374 63 3 = f1) → (h114374 63 5 = v112438) → (h114374 65 6 = v114070) → 64 + 1 - w114372.toInt ≤ (n : Int) → EvQ mi_X10_prepares 128 [some (.ref 63), some (.int a0), some (.int 6), some (.int v114237), some (.int w114372)] [] (G0 L b) h114374 0 0 (QN [(81, 999), (82, 999), (83, 999)] (G0 L b) h) := by
                    intro n
                    induction n with
                    | zero =>
                      intro w114372 h114374 b114373 hJ114375 z114376 z114377 z114378 hm128
                      exact absurd hm128 (L_zero b114373 (by decide))
                    | succ n ih128 =>
                      intro w114372 h114374 b114373 hJ114375 z114376 z114377 z114378 hm128
                      have z114379 := congrArg Int32.toInt z114376
                      refine ev_iload rfl rfl rfl ?_
                      refine ev_iconst (v := 1) rfl rfl (by decide) ?_
                      refine ev_iload_n rfl rfl rfl ?_
                      refine ev_ishlL (v := 64) (by decide) rfl rfl ?_
                      refine ev_icmp_ge rfl rfl (fun c114381 => ?_) (fun c114381 => ?_)
                      · have b114382 : B w114372 64 64 := R_leY (by decide : B 64 64 64) b114373 c114381 (by decide)
                        have z114383 := w_le c114381
                        rw [show (64 : Int32).toInt = 64 from by decide] at z114383
                        refine ev_iincL (v := 7) (y := 1) rfl rfl rfl (by decide) rfl rfl (by decide) ?_
                        dsimp only [List.set]
                        refine ev_goto rfl rfl ?_
                        exact (EvQ.drop 4 (EvQ.drop 3 (ih88 7 h114374 ((by decide : B 7 7 7).mono (by decide) (by decide)) hJ114375 z114376 (L_up hm88 (by decide)))))
                      · have b114384 : B w114372 0 63 := R_ltX b114373 (by decide : B 64 64 64) (Int32.not_le.mp c114381) (by decide)
                        have z114385 := w_lt (Int32.not_le.mp c114381)
                        rw [show (64 : Int32).toInt = 64 from by decide] at z114385
                        refine ev_aload_n rfl rfl rfl ?_
                        refine ev_getR (y := 82) rfl rfl fl_X10_79 rfl rfl rfl rfl ?_
                        refine ev_iload rfl rfl rfl ?_
                        refine ev_iconst (v := 1) rfl rfl (by decide) ?_
                        refine ev_iload_n rfl rfl rfl ?_
                        refine ev_ishlL (v := 64) (by decide) rfl rfl ?_
                        refine ev_iorB 7 (u := 127) rfl rfl b114384 (by decide : B 64 64 64) (by decide) (by decide) (by decide) (by decide) (by decide) (by decide) (fun v114387 b114387 e114387 => ?_)
                        refine ev_aload_n rfl rfl rfl ?_
                        refine ev_getR (y := 82) rfl rfl fl_X10_79 rfl rfl rfl rfl ?_
                        refine ev_iload rfl rfl rfl ?_
                        refine ev_ialW (n := 4096) (l := (-2147483648)) (u := 2147483647) hJ114375.1 b114384 (by decide) (by decide) (fun _ => rfl) rfl rfl rfl (fun v114388 b114388 e114388 => ?_)
                        refine ev_iload_n rfl rfl rfl ?_
                        refine ev_iaddA rfl rfl (fun v114389 g114389 => ?_)
                        refine ev_iasW (n := 4096) (l := (-2147483648)) (u := 2147483647) hJ114375 b114387 (by decide) (by decide) (fun _ => rfl) (B.any v114389) (by decide) (by decide) (fun _ => rfl) rfl rfl rfl rfl (fun h114390 hJ114390 k114390 => ?_)
                        refine ev_aload_n rfl rfl rfl ?_
                        refine ev_getR (y := 83) rfl rfl fl_X10_82 rfl rfl rfl rfl ?_
                        refine ev_iload rfl rfl rfl ?_
                        refine ev_iconst (v := 1) rfl rfl (by decide) ?_
                        refine ev_iload_n rfl rfl rfl ?_
                        refine ev_ishlL (v := 64) (by decide) rfl rfl ?_
                        refine ev_iorB 7 (u := 127) rfl rfl b114384 (by decide : B 64 64 64) (by decide) (by decide) (by decide) (by decide) (by decide) (by decide) (fun v114392 b114392 e114392 => ?_)
                        refine ev_aload_n rfl rfl rfl ?_
                        refine ev_getR (y := 83) rfl rfl fl_X10_82 rfl rfl rfl rfl ?_
                        refine ev_iload rfl rfl rfl ?_
                        refine ev_ialG (n := 4096) hJ114390.1 b114384 (by decide) (by decide) rfl rfl rfl (fun v114393 b114393 e114393 => ?_)
                        have b114393k : B v114393 0 12 := mb_get b114393
                        refine ev_iconst (v := 1) rfl rfl (by decide) ?_
                        refine ev_iaddB (l := 1) (u := 13) rfl rfl b114393k (by decide : B 1 1 1) (by decide) (by decide) (by decide) (by decide) (fun v114394 b114394 e114394 g114394 => ?_)
                        have e114394x := e114394; rw [show (1 : Int32).toInt = 1 from by decide] at e114394x
                        refine ev_iasG (n := 4096) hJ114390 b114392 (by decide) (by decide) (mb_put (w := 6) (c := 64) (by decide) (by decide) (b114384.mono (by decide) (by decide)) (by rw [show (64 : Int32).toInt = 64 from by decide]; have z_ := b114384.2; omega) e114392 b114393 e114394x) (fun _ => rfl) rfl rfl rfl rfl (fun h114395 hJ114395 k114395 => ?_)
                        refine ev_iincB (y := 1) (l := 1) (u := 64) rfl rfl rfl (by decide) rfl rfl b114384 (by decide : B 1 1 1) (by decide) (by decide) (by decide) (by decide) (fun v114396 b114396 e114396 => ?_)
                        dsimp only [List.set]
                        have e114396x := e114396; rw [show (1 : Int32).toInt = 1 from by decide] at e114396x
                        refine ev_goto rfl rfl ?_
                        exact (ih128 v114396 h114395 (b114396.mono (by decide) (by decide)) hJ114395 (rd_a k114395 (rd_a k114390 z114376 rfl) rfl) (rd_a k114395 (rd_a k114390 z114377 rfl) rfl) (rd_a k114395 (rd_a k114390 z114378 rfl) rfl) (L_up hm128 (e_p1 e114396 (by decide))))
                  exact (lp128_114371 65 0 h112434 ((by decide : B 0 0 0).mono (by decide) (by decide)) hJ112435 z112436 e112438 e114070 (L_init (by decide : B 0 0 0) (by decide)))
              · refine ev_ialK (j := 7) (n := 12) (l := (-2147483648)) (u := 2147483647) hJ112435.1 (by decide : B 7 7 7) (by decide) (by decide) (by decide) rfl rfl rfl rfl (fun v114397 b114397 e114397 => ?_)
                refine ev_aload_n rfl rfl rfl ?_
                refine ev_getR (y := 70) rfl rfl fl_X10_42 rfl rfl rfl rfl ?_
                refine ev_iload_n rfl rfl rfl ?_
                refine ev_zalW (n := 12) (l := (-2147483648)) (u := 2147483647) hJ112435.1 (by decide : B 7 7 7) (by decide) (by decide) (fun _ => rfl) rfl rfl rfl (fun v114398 b114398 e114398 => ?_)
                refine ev_if_eq rfl rfl (fun c114399 => ?_) (fun c114399 => ?_)
                · have b114400 : B v114398 0 0 := R_eqX (B.any v114398) (by decide : B 0 0 0) c114399
                  have z114401 := congrArg Int32.toInt c114399
                  rw [show (0 : Int32).toInt = 0 from by decide] at z114401
                  refine ev_iconst (v := 0) rfl rfl (by decide) ?_
                  refine ev_isubB (l := -2147483648) (u := 2147483647) rfl rfl (B.any v114397) (by decide : B 0 0 0) (by decide) (by decide) (by decide) (by decide) (fun v114403 b114403 e114403 g114403 => ?_)
                  have e114403x := e114403; rw [show (0 : Int32).toInt = 0 from by decide] at e114403x
                  refine ev_istore_n rfl rfl rfl rfl ?_
                  dsimp only [List.set]
                  refine ev_iconst (v := 0) rfl rfl (by decide) ?_
                  refine ev_istore rfl rfl rfl rfl ?_
                  dsimp only [List.set]
                  have lp128_114537 : ∀ (n : Nat) (w114538 : Int32) (h114540 : Hp), B w114538 0 128 → JW [(81, 999), (82, 999), (83, 999)] h h114540 → (h114540 63 3 = f1) → (h114540 63 5 = v112438) → (h114540 65 7 = v114397) → 128 + 1 - w114538.toInt ≤ (n : Int) → EvQ mi_X10_prepares 128 [some (.ref 63), some (.int a0), some (.int 7), some (.int v114403), some (.int w114538)] [] (G0 L b) h114540 0 0 (QN [(81, 999), (82, 999), (83, 999)] (G0 L b) h) := by
                    intro n
                    induction n with
                    | zero =>
                      intro w114538 h114540 b114539 hJ114541 z114542 z114543 z114544 hm128
                      exact absurd hm128 (L_zero b114539 (by decide))
                    | succ n ih128 =>
                      intro w114538 h114540 b114539 hJ114541 z114542 z114543 z114544 hm128
                      have z114545 := congrArg Int32.toInt z114542
                      refine ev_iload rfl rfl rfl ?_
                      refine ev_iconst (v := 1) rfl rfl (by decide) ?_
                      refine ev_iload_n rfl rfl rfl ?_
                      refine ev_ishlL (v := 128) (by decide) rfl rfl ?_
                      refine ev_icmp_ge rfl rfl (fun c114547 => ?_) (fun c114547 => ?_)
                      · have b114548 : B w114538 128 128 := R_leY (by decide : B 128 128 128) b114539 c114547 (by decide)
                        have z114549 := w_le c114547
                        rw [show (128 : Int32).toInt = 128 from by decide] at z114549
                        refine ev_iincL (v := 8) (y := 1) rfl rfl rfl (by decide) rfl rfl (by decide) ?_
                        dsimp only [List.set]
                        refine ev_goto rfl rfl ?_
                        exact (EvQ.drop 4 (EvQ.drop 3 (ih88 8 h114540 ((by decide : B 8 8 8).mono (by decide) (by decide)) hJ114541 z114542 (L_up hm88 (by decide)))))
                      · have b114550 : B w114538 0 127 := R_ltX b114539 (by decide : B 128 128 128) (Int32.not_le.mp c114547) (by decide)
                        have z114551 := w_lt (Int32.not_le.mp c114547)
                        rw [show (128 : Int32).toInt = 128 from by decide] at z114551
                        refine ev_aload_n rfl rfl rfl ?_
                        refine ev_getR (y := 82) rfl rfl fl_X10_79 rfl rfl rfl rfl ?_
                        refine ev_iload rfl rfl rfl ?_
                        refine ev_iconst (v := 1) rfl rfl (by decide) ?_
                        refine ev_iload_n rfl rfl rfl ?_
                        refine ev_ishlL (v := 128) (by decide) rfl rfl ?_
                        refine ev_iorB 8 (u := 255) rfl rfl b114550 (by decide : B 128 128 128) (by decide) (by decide) (by decide) (by decide) (by decide) (by decide) (fun v114553 b114553 e114553 => ?_)
                        refine ev_aload_n rfl rfl rfl ?_
                        refine ev_getR (y := 82) rfl rfl fl_X10_79 rfl rfl rfl rfl ?_
                        refine ev_iload rfl rfl rfl ?_
                        refine ev_ialW (n := 4096) (l := (-2147483648)) (u := 2147483647) hJ114541.1 b114550 (by decide) (by decide) (fun _ => rfl) rfl rfl rfl (fun v114554 b114554 e114554 => ?_)
                        refine ev_iload_n rfl rfl rfl ?_
                        refine ev_iaddA rfl rfl (fun v114555 g114555 => ?_)
                        refine ev_iasW (n := 4096) (l := (-2147483648)) (u := 2147483647) hJ114541 b114553 (by decide) (by decide) (fun _ => rfl) (B.any v114555) (by decide) (by decide) (fun _ => rfl) rfl rfl rfl rfl (fun h114556 hJ114556 k114556 => ?_)
                        refine ev_aload_n rfl rfl rfl ?_
                        refine ev_getR (y := 83) rfl rfl fl_X10_82 rfl rfl rfl rfl ?_
                        refine ev_iload rfl rfl rfl ?_
                        refine ev_iconst (v := 1) rfl rfl (by decide) ?_
                        refine ev_iload_n rfl rfl rfl ?_
                        refine ev_ishlL (v := 128) (by decide) rfl rfl ?_
                        refine ev_iorB 8 (u := 255) rfl rfl b114550 (by decide : B 128 128 128) (by decide) (by decide) (by decide) (by decide) (by decide) (by decide) (fun v114558 b114558 e114558 => ?_)
                        refine ev_aload_n rfl rfl rfl ?_
                        refine ev_getR (y := 83) rfl rfl fl_X10_82 rfl rfl rfl rfl ?_
                        refine ev_iload rfl rfl rfl ?_
                        refine ev_ialG (n := 4096) hJ114556.1 b114550 (by decide) (by decide) rfl rfl rfl (fun v114559 b114559 e114559 => ?_)
                        have b114559k : B v114559 0 12 := mb_get b114559
                        refine ev_iconst (v := 1) rfl rfl (by decide) ?_
                        refine ev_iaddB (l := 1) (u := 13) rfl rfl b114559k (by decide : B 1 1 1) (by decide) (by decide) (by decide) (by decide) (fun v114560 b114560 e114560 g114560 => ?_)
                        have e114560x := e114560; rw [show (1 : Int32).toInt = 1 from by decide] at e114560x
                        refine ev_iasG (n := 4096) hJ114556 b114558 (by decide) (by decide) (mb_put (w := 7) (c := 128) (by decide) (by decide) (b114550.mono (by decide) (by decide)) (by rw [show (128 : Int32).toInt = 128 from by decide]; have z_ := b114550.2; omega) e114558 b114559 e114560x) (fun _ => rfl) rfl rfl rfl rfl (fun h114561 hJ114561 k114561 => ?_)
                        refine ev_iincB (y := 1) (l := 1) (u := 128) rfl rfl rfl (by decide) rfl rfl b114550 (by decide : B 1 1 1) (by decide) (by decide) (by decide) (by decide) (fun v114562 b114562 e114562 => ?_)
                        dsimp only [List.set]
                        have e114562x := e114562; rw [show (1 : Int32).toInt = 1 from by decide] at e114562x
                        refine ev_goto rfl rfl ?_
                        exact (ih128 v114562 h114561 (b114562.mono (by decide) (by decide)) hJ114561 (rd_a k114561 (rd_a k114556 z114542 rfl) rfl) (rd_a k114561 (rd_a k114556 z114543 rfl) rfl) (rd_a k114561 (rd_a k114556 z114544 rfl) rfl) (L_up hm128 (e_p1 e114562 (by decide))))
                  exact (lp128_114537 129 0 h112434 ((by decide : B 0 0 0).mono (by decide) (by decide)) hJ112435 z112436 e112438 e114397 (L_init (by decide : B 0 0 0) (by decide)))
                · have z114402 := w_ne c114399
                  rw [show (0 : Int32).toInt = 0 from by decide] at z114402
                  refine ev_aload_n rfl rfl rfl ?_
                  refine ev_getR (y := 65) rfl rfl fl_X10_26 rfl rfl rfl rfl ?_
                  refine ev_iload_n rfl rfl rfl ?_
                  refine ev_iadV (j := 7) (v := v114397) rfl rfl rfl (by unfold vp_in; decide) (by decide) e114397 ?_
                  refine ev_iconst (v := 2) rfl rfl (by decide) ?_
                  refine ev_idivA (by decide : B 2 2 2) (by decide) rfl rfl (fun v114563 => ?_)
                  refine ev_goto rfl rfl ?_
                  refine ev_isubA rfl rfl (fun v114564 g114564 => ?_)
                  refine ev_istore_n rfl rfl rfl rfl ?_
                  dsimp only [List.set]
                  refine ev_iconst (v := 0) rfl rfl (by decide) ?_
                  refine ev_istore rfl rfl rfl rfl ?_
                  dsimp only [List.set]
                  have lp128_114698 : ∀ (n : Nat) (w114699 : Int32) (h114701 : Hp), B w114699 0 128 → JW [(81, 999), (82, 999), (83, 999)] h h114701 → (h114701 63 3 = f1) → (h114701 63 5 = v112438) → (h114701 65 7 = v114397) → 128 + 1 - w114699.toInt ≤ (n : Int) → EvQ mi_X10_prepares 128 [some (.ref 63), some (.int a0), some (.int 7), some (.int v114564), some (.int w114699)] [] (G0 L b) h114701 0 0 (QN [(81, 999), (82, 999), (83, 999)] (G0 L b) h) := by
                    intro n
                    induction n with
                    | zero =>
                      intro w114699 h114701 b114700 hJ114702 z114703 z114704 z114705 hm128
                      exact absurd hm128 (L_zero b114700 (by decide))
                    | succ n ih128 =>
                      intro w114699 h114701 b114700 hJ114702 z114703 z114704 z114705 hm128
                      have z114706 := congrArg Int32.toInt z114703
                      refine ev_iload rfl rfl rfl ?_
                      refine ev_iconst (v := 1) rfl rfl (by decide) ?_
                      refine ev_iload_n rfl rfl rfl ?_
                      refine ev_ishlL (v := 128) (by decide) rfl rfl ?_
                      refine ev_icmp_ge rfl rfl (fun c114708 => ?_) (fun c114708 => ?_)
                      · have b114709 : B w114699 128 128 := R_leY (by decide : B 128 128 128) b114700 c114708 (by decide)
                        have z114710 := w_le c114708
                        rw [show (128 : Int32).toInt = 128 from by decide] at z114710
                        refine ev_iincL (v := 8) (y := 1) rfl rfl rfl (by decide) rfl rfl (by decide) ?_
                        dsimp only [List.set]
                        refine ev_goto rfl rfl ?_
                        exact (EvQ.drop 4 (EvQ.drop 3 (ih88 8 h114701 ((by decide : B 8 8 8).mono (by decide) (by decide)) hJ114702 z114703 (L_up hm88 (by decide)))))
                      · have b114711 : B w114699 0 127 := R_ltX b114700 (by decide : B 128 128 128) (Int32.not_le.mp c114708) (by decide)
                        have z114712 := w_lt (Int32.not_le.mp c114708)
                        rw [show (128 : Int32).toInt = 128 from by decide] at z114712
                        refine ev_aload_n rfl rfl rfl ?_
                        refine ev_getR (y := 82) rfl rfl fl_X10_79 rfl rfl rfl rfl ?_
                        refine ev_iload rfl rfl rfl ?_
                        refine ev_iconst (v := 1) rfl rfl (by decide) ?_
                        refine ev_iload_n rfl rfl rfl ?_
                        refine ev_ishlL (v := 128) (by decide) rfl rfl ?_
                        refine ev_iorB 8 (u := 255) rfl rfl b114711 (by decide : B 128 128 128) (by decide) (by decide) (by decide) (by decide) (by decide) (by decide) (fun v114714 b114714 e114714 => ?_)
                        refine ev_aload_n rfl rfl rfl ?_
                        refine ev_getR (y := 82) rfl rfl fl_X10_79 rfl rfl rfl rfl ?_
                        refine ev_iload rfl rfl rfl ?_
                        refine ev_ialW (n := 4096) (l := (-2147483648)) (u := 2147483647) hJ114702.1 b114711 (by decide) (by decide) (fun _ => rfl) rfl rfl rfl (fun v114715 b114715 e114715 => ?_)
                        refine ev_iload_n rfl rfl rfl ?_
                        refine ev_iaddA rfl rfl (fun v114716 g114716 => ?_)
                        refine ev_iasW (n := 4096) (l := (-2147483648)) (u := 2147483647) hJ114702 b114714 (by decide) (by decide) (fun _ => rfl) (B.any v114716) (by decide) (by decide) (fun _ => rfl) rfl rfl rfl rfl (fun h114717 hJ114717 k114717 => ?_)
                        refine ev_aload_n rfl rfl rfl ?_
                        refine ev_getR (y := 83) rfl rfl fl_X10_82 rfl rfl rfl rfl ?_
                        refine ev_iload rfl rfl rfl ?_
                        refine ev_iconst (v := 1) rfl rfl (by decide) ?_
                        refine ev_iload_n rfl rfl rfl ?_
                        refine ev_ishlL (v := 128) (by decide) rfl rfl ?_
                        refine ev_iorB 8 (u := 255) rfl rfl b114711 (by decide : B 128 128 128) (by decide) (by decide) (by decide) (by decide) (by decide) (by decide) (fun v114719 b114719 e114719 => ?_)
                        refine ev_aload_n rfl rfl rfl ?_
                        refine ev_getR (y := 83) rfl rfl fl_X10_82 rfl rfl rfl rfl ?_
                        refine ev_iload rfl rfl rfl ?_
                        refine ev_ialG (n := 4096) hJ114717.1 b114711 (by decide) (by decide) rfl rfl rfl (fun v114720 b114720 e114720 => ?_)
                        have b114720k : B v114720 0 12 := mb_get b114720
                        refine ev_iconst (v := 1) rfl rfl (by decide) ?_
                        refine ev_iaddB (l := 1) (u := 13) rfl rfl b114720k (by decide : B 1 1 1) (by decide) (by decide) (by decide) (by decide) (fun v114721 b114721 e114721 g114721 => ?_)
                        have e114721x := e114721; rw [show (1 : Int32).toInt = 1 from by decide] at e114721x
                        refine ev_iasG (n := 4096) hJ114717 b114719 (by decide) (by decide) (mb_put (w := 7) (c := 128) (by decide) (by decide) (b114711.mono (by decide) (by decide)) (by rw [show (128 : Int32).toInt = 128 from by decide]; have z_ := b114711.2; omega) e114719 b114720 e114721x) (fun _ => rfl) rfl rfl rfl rfl (fun h114722 hJ114722 k114722 => ?_)
                        refine ev_iincB (y := 1) (l := 1) (u := 128) rfl rfl rfl (by decide) rfl rfl b114711 (by decide : B 1 1 1) (by decide) (by decide) (by decide) (by decide) (fun v114723 b114723 e114723 => ?_)
                        dsimp only [List.set]
                        have e114723x := e114723; rw [show (1 : Int32).toInt = 1 from by decide] at e114723x
                        refine ev_goto rfl rfl ?_
                        exact (ih128 v114723 h114722 (b114723.mono (by decide) (by decide)) hJ114722 (rd_a k114722 (rd_a k114717 z114703 rfl) rfl) (rd_a k114722 (rd_a k114717 z114704 rfl) rfl) (rd_a k114722 (rd_a k114717 z114705 rfl) rfl) (L_up hm128 (e_p1 e114723 (by decide))))
                  exact (lp128_114698 129 0 h112434 ((by decide : B 0 0 0).mono (by decide) (by decide)) hJ112435 z112436 e112438 e114397 (L_init (by decide : B 0 0 0) (by decide)))
              · refine ev_ialK (j := 8) (n := 12) (l := (-2147483648)) (u := 2147483647) hJ112435.1 (by decide : B 8 8 8) (by decide) (by decide) (by decide) rfl rfl rfl rfl (fun v114724 b114724 e114724 => ?_)
                refine ev_aload_n rfl rfl rfl ?_
                refine ev_getR (y := 70) rfl rfl fl_X10_42 rfl rfl rfl rfl ?_
                refine ev_iload_n rfl rfl rfl ?_
                refine ev_zalW (n := 12) (l := (-2147483648)) (u := 2147483647) hJ112435.1 (by decide : B 8 8 8) (by decide) (by decide) (fun _ => rfl) rfl rfl rfl (fun v114725 b114725 e114725 => ?_)
                refine ev_if_eq rfl rfl (fun c114726 => ?_) (fun c114726 => ?_)
                · have b114727 : B v114725 0 0 := R_eqX (B.any v114725) (by decide : B 0 0 0) c114726
                  have z114728 := congrArg Int32.toInt c114726
                  rw [show (0 : Int32).toInt = 0 from by decide] at z114728
                  refine ev_iconst (v := 0) rfl rfl (by decide) ?_
                  refine ev_isubB (l := -2147483648) (u := 2147483647) rfl rfl (B.any v114724) (by decide : B 0 0 0) (by decide) (by decide) (by decide) (by decide) (fun v114730 b114730 e114730 g114730 => ?_)
                  have e114730x := e114730; rw [show (0 : Int32).toInt = 0 from by decide] at e114730x
                  refine ev_istore_n rfl rfl rfl rfl ?_
                  dsimp only [List.set]
                  refine ev_iconst (v := 0) rfl rfl (by decide) ?_
                  refine ev_istore rfl rfl rfl rfl ?_
                  dsimp only [List.set]
                  have lp128_114879 : ∀ (n : Nat) (w114880 : Int32) (h114882 : Hp), B w114880 0 256 → JW [(81, 999), (82, 999), (83, 999)] h h114882 → (h114882 63 3 = f1) → (h114882 63 5 = v112438) → (h114882 65 8 = v114724) → 256 + 1 - w114880.toInt ≤ (n : Int) → EvQ mi_X10_prepares 128 [some (.ref 63), some (.int a0), some (.int 8), some (.int v114730), some (.int w114880)] [] (G0 L b) h114882 0 0 (QN [(81, 999), (82, 999), (83, 999)] (G0 L b) h) := by
                    intro n
                    induction n with
                    | zero =>
                      intro w114880 h114882 b114881 hJ114883 z114884 z114885 z114886 hm128
                      exact absurd hm128 (L_zero b114881 (by decide))
                    | succ n ih128 =>
                      intro w114880 h114882 b114881 hJ114883 z114884 z114885 z114886 hm128
                      have z114887 := congrArg Int32.toInt z114884
                      refine ev_iload rfl rfl rfl ?_
                      refine ev_iconst (v := 1) rfl rfl (by decide) ?_
                      refine ev_iload_n rfl rfl rfl ?_
                      refine ev_ishlL (v := 256) (by decide) rfl rfl ?_
                      refine ev_icmp_ge rfl rfl (fun c114889 => ?_) (fun c114889 => ?_)
                      · have b114890 : B w114880 256 256 := R_leY (by decide : B 256 256 256) b114881 c114889 (by decide)
                        have z114891 := w_le c114889
                        rw [show (256 : Int32).toInt = 256 from by decide] at z114891
                        refine ev_iincL (v := 9) (y := 1) rfl rfl rfl (by decide) rfl rfl (by decide) ?_
                        dsimp only [List.set]
                        refine ev_goto rfl rfl ?_
                        exact (EvQ.drop 4 (EvQ.drop 3 (ih88 9 h114882 ((by decide : B 9 9 9).mono (by decide) (by decide)) hJ114883 z114884 (L_up hm88 (by decide)))))
                      · have b114892 : B w114880 0 255 := R_ltX b114881 (by decide : B 256 256 256) (Int32.not_le.mp c114889) (by decide)
                        have z114893 := w_lt (Int32.not_le.mp c114889)
                        rw [show (256 : Int32).toInt = 256 from by decide] at z114893
                        refine ev_aload_n rfl rfl rfl ?_
                        refine ev_getR (y := 82) rfl rfl fl_X10_79 rfl rfl rfl rfl ?_
                        refine ev_iload rfl rfl rfl ?_
                        refine ev_iconst (v := 1) rfl rfl (by decide) ?_
                        refine ev_iload_n rfl rfl rfl ?_
                        refine ev_ishlL (v := 256) (by decide) rfl rfl ?_
                        refine ev_iorB 9 (u := 511) rfl rfl b114892 (by decide : B 256 256 256) (by decide) (by decide) (by decide) (by decide) (by decide) (by decide) (fun v114895 b114895 e114895 => ?_)
                        refine ev_aload_n rfl rfl rfl ?_
                        refine ev_getR (y := 82) rfl rfl fl_X10_79 rfl rfl rfl rfl ?_
                        refine ev_iload rfl rfl rfl ?_
                        refine ev_ialW (n := 4096) (l := (-2147483648)) (u := 2147483647) hJ114883.1 b114892 (by decide) (by decide) (fun _ => rfl) rfl rfl rfl (fun v114896 b114896 e114896 => ?_)
                        refine ev_iload_n rfl rfl rfl ?_
                        refine ev_iaddA rfl rfl (fun v114897 g114897 => ?_)
                        refine ev_iasW (n := 4096) (l := (-2147483648)) (u := 2147483647) hJ114883 b114895 (by decide) (by decide) (fun _ => rfl) (B.any v114897) (by decide) (by decide) (fun _ => rfl) rfl rfl rfl rfl (fun h114898 hJ114898 k114898 => ?_)
                        refine ev_aload_n rfl rfl rfl ?_
                        refine ev_getR (y := 83) rfl rfl fl_X10_82 rfl rfl rfl rfl ?_
                        refine ev_iload rfl rfl rfl ?_
                        refine ev_iconst (v := 1) rfl rfl (by decide) ?_
                        refine ev_iload_n rfl rfl rfl ?_
                        refine ev_ishlL (v := 256) (by decide) rfl rfl ?_
                        refine ev_iorB 9 (u := 511) rfl rfl b114892 (by decide : B 256 256 256) (by decide) (by decide) (by decide) (by decide) (by decide) (by decide) (fun v114900 b114900 e114900 => ?_)
                        refine ev_aload_n rfl rfl rfl ?_
                        refine ev_getR (y := 83) rfl rfl fl_X10_82 rfl rfl rfl rfl ?_
                        refine ev_iload rfl rfl rfl ?_
                        refine ev_ialG (n := 4096) hJ114898.1 b114892 (by decide) (by decide) rfl rfl rfl (fun v114901 b114901 e114901 => ?_)
                        have b114901k : B v114901 0 12 := mb_get b114901
                        refine ev_iconst (v := 1) rfl rfl (by decide) ?_
                        refine ev_iaddB (l := 1) (u := 13) rfl rfl b114901k (by decide : B 1 1 1) (by decide) (by decide) (by decide) (by decide) (fun v114902 b114902 e114902 g114902 => ?_)
                        have e114902x := e114902; rw [show (1 : Int32).toInt = 1 from by decide] at e114902x
                        refine ev_iasG (n := 4096) hJ114898 b114900 (by decide) (by decide) (mb_put (w := 8) (c := 256) (by decide) (by decide) (b114892.mono (by decide) (by decide)) (by rw [show (256 : Int32).toInt = 256 from by decide]; have z_ := b114892.2; omega) e114900 b114901 e114902x) (fun _ => rfl) rfl rfl rfl rfl (fun h114903 hJ114903 k114903 => ?_)
                        refine ev_iincB (y := 1) (l := 1) (u := 256) rfl rfl rfl (by decide) rfl rfl b114892 (by decide : B 1 1 1) (by decide) (by decide) (by decide) (by decide) (fun v114904 b114904 e114904 => ?_)
                        dsimp only [List.set]
                        have e114904x := e114904; rw [show (1 : Int32).toInt = 1 from by decide] at e114904x
                        refine ev_goto rfl rfl ?_
                        exact (ih128 v114904 h114903 (b114904.mono (by decide) (by decide)) hJ114903 (rd_a k114903 (rd_a k114898 z114884 rfl) rfl) (rd_a k114903 (rd_a k114898 z114885 rfl) rfl) (rd_a k114903 (rd_a k114898 z114886 rfl) rfl) (L_up hm128 (e_p1 e114904 (by decide))))
                  exact (lp128_114879 257 0 h112434 ((by decide : B 0 0 0).mono (by decide) (by decide)) hJ112435 z112436 e112438 e114724 (L_init (by decide : B 0 0 0) (by decide)))
                · have z114729 := w_ne c114726
                  rw [show (0 : Int32).toInt = 0 from by decide] at z114729
                  refine ev_aload_n rfl rfl rfl ?_
                  refine ev_getR (y := 65) rfl rfl fl_X10_26 rfl rfl rfl rfl ?_
                  refine ev_iload_n rfl rfl rfl ?_
                  refine ev_iadV (j := 8) (v := v114724) rfl rfl rfl (by unfold vp_in; decide) (by decide) e114724 ?_
                  refine ev_iconst (v := 2) rfl rfl (by decide) ?_
                  refine ev_idivA (by decide : B 2 2 2) (by decide) rfl rfl (fun v114905 => ?_)
                  refine ev_goto rfl rfl ?_
                  refine ev_isubA rfl rfl (fun v114906 g114906 => ?_)
                  refine ev_istore_n rfl rfl rfl rfl ?_
                  dsimp only [List.set]
                  refine ev_iconst (v := 0) rfl rfl (by decide) ?_
                  refine ev_istore rfl rfl rfl rfl ?_
                  dsimp only [List.set]
                  have lp128_115055 : ∀ (n : Nat) (w115056 : Int32) (h115058 : Hp), B w115056 0 256 → JW [(81, 999), (82, 999), (83, 999)] h h115058 → (h115058 63 3 = f1) → (h115058 63 5 = v112438) → (h115058 65 8 = v114724) → 256 + 1 - w115056.toInt ≤ (n : Int) → EvQ mi_X10_prepares 128 [some (.ref 63), some (.int a0), some (.int 8), some (.int v114906), some (.int w115056)] [] (G0 L b) h115058 0 0 (QN [(81, 999), (82, 999), (83, 999)] (G0 L b) h) := by
                    intro n
                    induction n with
                    | zero =>
                      intro w115056 h115058 b115057 hJ115059 z115060 z115061 z115062 hm128
                      exact absurd hm128 (L_zero b115057 (by decide))
                    | succ n ih128 =>
                      intro w115056 h115058 b115057 hJ115059 z115060 z115061 z115062 hm128
                      have z115063 := congrArg Int32.toInt z115060
                      refine ev_iload rfl rfl rfl ?_
                      refine ev_iconst (v := 1) rfl rfl (by decide) ?_
                      refine ev_iload_n rfl rfl rfl ?_
                      refine ev_ishlL (v := 256) (by decide) rfl rfl ?_
                      refine ev_icmp_ge rfl rfl (fun c115065 => ?_) (fun c115065 => ?_)
                      · have b115066 : B w115056 256 256 := R_leY (by decide : B 256 256 256) b115057 c115065 (by decide)
                        have z115067 := w_le c115065
                        rw [show (256 : Int32).toInt = 256 from by decide] at z115067
                        refine ev_iincL (v := 9) (y := 1) rfl rfl rfl (by decide) rfl rfl (by decide) ?_
                        dsimp only [List.set]
                        refine ev_goto rfl rfl ?_
                        exact (EvQ.drop 4 (EvQ.drop 3 (ih88 9 h115058 ((by decide : B 9 9 9).mono (by decide) (by decide)) hJ115059 z115060 (L_up hm88 (by decide)))))
                      · have b115068 : B w115056 0 255 := R_ltX b115057 (by decide : B 256 256 256) (Int32.not_le.mp c115065) (by decide)
                        have z115069 := w_lt (Int32.not_le.mp c115065)
                        rw [show (256 : Int32).toInt = 256 from by decide] at z115069
                        refine ev_aload_n rfl rfl rfl ?_
                        refine ev_getR (y := 82) rfl rfl fl_X10_79 rfl rfl rfl rfl ?_
                        refine ev_iload rfl rfl rfl ?_
                        refine ev_iconst (v := 1) rfl rfl (by decide) ?_
                        refine ev_iload_n rfl rfl rfl ?_
                        refine ev_ishlL (v := 256) (by decide) rfl rfl ?_
                        refine ev_iorB 9 (u := 511) rfl rfl b115068 (by decide : B 256 256 256) (by decide) (by decide) (by decide) (by decide) (by decide) (by decide) (fun v115071 b115071 e115071 => ?_)
                        refine ev_aload_n rfl rfl rfl ?_
                        refine ev_getR (y := 82) rfl rfl fl_X10_79 rfl rfl rfl rfl ?_
                        refine ev_iload rfl rfl rfl ?_
                        refine ev_ialW (n := 4096) (l := (-2147483648)) (u := 2147483647) hJ115059.1 b115068 (by decide) (by decide) (fun _ => rfl) rfl rfl rfl (fun v115072 b115072 e115072 => ?_)
                        refine ev_iload_n rfl rfl rfl ?_
                        refine ev_iaddA rfl rfl (fun v115073 g115073 => ?_)
                        refine ev_iasW (n := 4096) (l := (-2147483648)) (u := 2147483647) hJ115059 b115071 (by decide) (by decide) (fun _ => rfl) (B.any v115073) (by decide) (by decide) (fun _ => rfl) rfl rfl rfl rfl (fun h115074 hJ115074 k115074 => ?_)
                        refine ev_aload_n rfl rfl rfl ?_
                        refine ev_getR (y := 83) rfl rfl fl_X10_82 rfl rfl rfl rfl ?_
                        refine ev_iload rfl rfl rfl ?_
                        refine ev_iconst (v := 1) rfl rfl (by decide) ?_
                        refine ev_iload_n rfl rfl rfl ?_
                        refine ev_ishlL (v := 256) (by decide) rfl rfl ?_
                        refine ev_iorB 9 (u := 511) rfl rfl b115068 (by decide : B 256 256 256) (by decide) (by decide) (by decide) (by decide) (by decide) (by decide) (fun v115076 b115076 e115076 => ?_)
                        refine ev_aload_n rfl rfl rfl ?_
                        refine ev_getR (y := 83) rfl rfl fl_X10_82 rfl rfl rfl rfl ?_
                        refine ev_iload rfl rfl rfl ?_
                        refine ev_ialG (n := 4096) hJ115074.1 b115068 (by decide) (by decide) rfl rfl rfl (fun v115077 b115077 e115077 => ?_)
                        have b115077k : B v115077 0 12 := mb_get b115077
                        refine ev_iconst (v := 1) rfl rfl (by decide) ?_
                        refine ev_iaddB (l := 1) (u := 13) rfl rfl b115077k (by decide : B 1 1 1) (by decide) (by decide) (by decide) (by decide) (fun v115078 b115078 e115078 g115078 => ?_)
                        have e115078x := e115078; rw [show (1 : Int32).toInt = 1 from by decide] at e115078x
                        refine ev_iasG (n := 4096) hJ115074 b115076 (by decide) (by decide) (mb_put (w := 8) (c := 256) (by decide) (by decide) (b115068.mono (by decide) (by decide)) (by rw [show (256 : Int32).toInt = 256 from by decide]; have z_ := b115068.2; omega) e115076 b115077 e115078x) (fun _ => rfl) rfl rfl rfl rfl (fun h115079 hJ115079 k115079 => ?_)
                        refine ev_iincB (y := 1) (l := 1) (u := 256) rfl rfl rfl (by decide) rfl rfl b115068 (by decide : B 1 1 1) (by decide) (by decide) (by decide) (by decide) (fun v115080 b115080 e115080 => ?_)
                        dsimp only [List.set]
                        have e115080x := e115080; rw [show (1 : Int32).toInt = 1 from by decide] at e115080x
                        refine ev_goto rfl rfl ?_
                        exact (ih128 v115080 h115079 (b115080.mono (by decide) (by decide)) hJ115079 (rd_a k115079 (rd_a k115074 z115060 rfl) rfl) (rd_a k115079 (rd_a k115074 z115061 rfl) rfl) (rd_a k115079 (rd_a k115074 z115062 rfl) rfl) (L_up hm128 (e_p1 e115080 (by decide))))
                  exact (lp128_115055 257 0 h112434 ((by decide : B 0 0 0).mono (by decide) (by decide)) hJ112435 z112436 e112438 e114724 (L_init (by decide : B 0 0 0) (by decide)))
              · refine ev_ialK (j := 9) (n := 12) (l := (-2147483648)) (u := 2147483647) hJ112435.1 (by decide : B 9 9 9) (by decide) (by decide) (by decide) rfl rfl rfl rfl (fun v115081 b115081 e115081 => ?_)
                refine ev_aload_n rfl rfl rfl ?_
                refine ev_getR (y := 70) rfl rfl fl_X10_42 rfl rfl rfl rfl ?_
                refine ev_iload_n rfl rfl rfl ?_
                refine ev_zalW (n := 12) (l := (-2147483648)) (u := 2147483647) hJ112435.1 (by decide : B 9 9 9) (by decide) (by decide) (fun _ => rfl) rfl rfl rfl (fun v115082 b115082 e115082 => ?_)
                refine ev_if_eq rfl rfl (fun c115083 => ?_) (fun c115083 => ?_)
                · have b115084 : B v115082 0 0 := R_eqX (B.any v115082) (by decide : B 0 0 0) c115083
                  have z115085 := congrArg Int32.toInt c115083
                  rw [show (0 : Int32).toInt = 0 from by decide] at z115085
                  refine ev_iconst (v := 0) rfl rfl (by decide) ?_
                  refine ev_isubB (l := -2147483648) (u := 2147483647) rfl rfl (B.any v115081) (by decide : B 0 0 0) (by decide) (by decide) (by decide) (by decide) (fun v115087 b115087 e115087 g115087 => ?_)
                  have e115087x := e115087; rw [show (0 : Int32).toInt = 0 from by decide] at e115087x
                  refine ev_istore_n rfl rfl rfl rfl ?_
                  dsimp only [List.set]
                  refine ev_iconst (v := 0) rfl rfl (by decide) ?_
                  refine ev_istore rfl rfl rfl rfl ?_
                  dsimp only [List.set]
                  have lp128_115236 : ∀ (n : Nat) (w115237 : Int32) (h115239 : Hp), B w115237 0 512 → JW [(81, 999), (82, 999), (83, 999)] h h115239 → (h115239 63 3 = f1) → (h115239 63 5 = v112438) → (h115239 65 9 = v115081) → 512 + 1 - w115237.toInt ≤ (n : Int) → EvQ mi_X10_prepares 128 [some (.ref 63), some (.int a0), some (.int 9), some (.int v115087), some (.int w115237)] [] (G0 L b) h115239 0 0 (QN [(81, 999), (82, 999), (83, 999)] (G0 L b) h) := by
                    intro n
                    induction n with
                    | zero =>
                      intro w115237 h115239 b115238 hJ115240 z115241 z115242 z115243 hm128
                      exact absurd hm128 (L_zero b115238 (by decide))
                    | succ n ih128 =>
                      intro w115237 h115239 b115238 hJ115240 z115241 z115242 z115243 hm128
                      have z115244 := congrArg Int32.toInt z115241
                      refine ev_iload rfl rfl rfl ?_
                      refine ev_iconst (v := 1) rfl rfl (by decide) ?_
                      refine ev_iload_n rfl rfl rfl ?_
                      refine ev_ishlL (v := 512) (by decide) rfl rfl ?_
                      refine ev_icmp_ge rfl rfl (fun c115246 => ?_) (fun c115246 => ?_)
                      · have b115247 : B w115237 512 512 := R_leY (by decide : B 512 512 512) b115238 c115246 (by decide)
                        have z115248 := w_le c115246
                        rw [show (512 : Int32).toInt = 512 from by decide] at z115248
                        refine ev_iincL (v := 10) (y := 1) rfl rfl rfl (by decide) rfl rfl (by decide) ?_
                        dsimp only [List.set]
                        refine ev_goto rfl rfl ?_
                        exact (EvQ.drop 4 (EvQ.drop 3 (ih88 10 h115239 ((by decide : B 10 10 10).mono (by decide) (by decide)) hJ115240 z115241 (L_up hm88 (by decide)))))
                      · have b115249 : B w115237 0 511 := R_ltX b115238 (by decide : B 512 512 512) (Int32.not_le.mp c115246) (by decide)
                        have z115250 := w_lt (Int32.not_le.mp c115246)
                        rw [show (512 : Int32).toInt = 512 from by decide] at z115250
                        refine ev_aload_n rfl rfl rfl ?_
                        refine ev_getR (y := 82) rfl rfl fl_X10_79 rfl rfl rfl rfl ?_
                        refine ev_iload rfl rfl rfl ?_
                        refine ev_iconst (v := 1) rfl rfl (by decide) ?_
                        refine ev_iload_n rfl rfl rfl ?_
                        refine ev_ishlL (v := 512) (by decide) rfl rfl ?_
                        refine ev_iorB 10 (u := 1023) rfl rfl b115249 (by decide : B 512 512 512) (by decide) (by decide) (by decide) (by decide) (by decide) (by decide) (fun v115252 b115252 e115252 => ?_)
                        refine ev_aload_n rfl rfl rfl ?_
                        refine ev_getR (y := 82) rfl rfl fl_X10_79 rfl rfl rfl rfl ?_
                        refine ev_iload rfl rfl rfl ?_
                        refine ev_ialW (n := 4096) (l := (-2147483648)) (u := 2147483647) hJ115240.1 b115249 (by decide) (by decide) (fun _ => rfl) rfl rfl rfl (fun v115253 b115253 e115253 => ?_)
                        refine ev_iload_n rfl rfl rfl ?_
                        refine ev_iaddA rfl rfl (fun v115254 g115254 => ?_)
                        refine ev_iasW (n := 4096) (l := (-2147483648)) (u := 2147483647) hJ115240 b115252 (by decide) (by decide) (fun _ => rfl) (B.any v115254) (by decide) (by decide) (fun _ => rfl) rfl rfl rfl rfl (fun h115255 hJ115255 k115255 => ?_)
                        refine ev_aload_n rfl rfl rfl ?_
                        refine ev_getR (y := 83) rfl rfl fl_X10_82 rfl rfl rfl rfl ?_
                        refine ev_iload rfl rfl rfl ?_
                        refine ev_iconst (v := 1) rfl rfl (by decide) ?_
                        refine ev_iload_n rfl rfl rfl ?_
                        refine ev_ishlL (v := 512) (by decide) rfl rfl ?_
                        refine ev_iorB 10 (u := 1023) rfl rfl b115249 (by decide : B 512 512 512) (by decide) (by decide) (by decide) (by decide) (by decide) (by decide) (fun v115257 b115257 e115257 => ?_)
                        refine ev_aload_n rfl rfl rfl ?_
                        refine ev_getR (y := 83) rfl rfl fl_X10_82 rfl rfl rfl rfl ?_
                        refine ev_iload rfl rfl rfl ?_
                        refine ev_ialG (n := 4096) hJ115255.1 b115249 (by decide) (by decide) rfl rfl rfl (fun v115258 b115258 e115258 => ?_)
                        have b115258k : B v115258 0 12 := mb_get b115258
                        refine ev_iconst (v := 1) rfl rfl (by decide) ?_
                        refine ev_iaddB (l := 1) (u := 13) rfl rfl b115258k (by decide : B 1 1 1) (by decide) (by decide) (by decide) (by decide) (fun v115259 b115259 e115259 g115259 => ?_)
                        have e115259x := e115259; rw [show (1 : Int32).toInt = 1 from by decide] at e115259x
                        refine ev_iasG (n := 4096) hJ115255 b115257 (by decide) (by decide) (mb_put (w := 9) (c := 512) (by decide) (by decide) (b115249.mono (by decide) (by decide)) (by rw [show (512 : Int32).toInt = 512 from by decide]; have z_ := b115249.2; omega) e115257 b115258 e115259x) (fun _ => rfl) rfl rfl rfl rfl (fun h115260 hJ115260 k115260 => ?_)
                        refine ev_iincB (y := 1) (l := 1) (u := 512) rfl rfl rfl (by decide) rfl rfl b115249 (by decide : B 1 1 1) (by decide) (by decide) (by decide) (by decide) (fun v115261 b115261 e115261 => ?_)
                        dsimp only [List.set]
                        have e115261x := e115261; rw [show (1 : Int32).toInt = 1 from by decide] at e115261x
                        refine ev_goto rfl rfl ?_
                        exact (ih128 v115261 h115260 (b115261.mono (by decide) (by decide)) hJ115260 (rd_a k115260 (rd_a k115255 z115241 rfl) rfl) (rd_a k115260 (rd_a k115255 z115242 rfl) rfl) (rd_a k115260 (rd_a k115255 z115243 rfl) rfl) (L_up hm128 (e_p1 e115261 (by decide))))
                  exact (lp128_115236 513 0 h112434 ((by decide : B 0 0 0).mono (by decide) (by decide)) hJ112435 z112436 e112438 e115081 (L_init (by decide : B 0 0 0) (by decide)))
                · have z115086 := w_ne c115083
                  rw [show (0 : Int32).toInt = 0 from by decide] at z115086
                  refine ev_aload_n rfl rfl rfl ?_
                  refine ev_getR (y := 65) rfl rfl fl_X10_26 rfl rfl rfl rfl ?_
                  refine ev_iload_n rfl rfl rfl ?_
                  refine ev_iadV (j := 9) (v := v115081) rfl rfl rfl (by unfold vp_in; decide) (by decide) e115081 ?_
                  refine ev_iconst (v := 2) rfl rfl (by decide) ?_
                  refine ev_idivA (by decide : B 2 2 2) (by decide) rfl rfl (fun v115262 => ?_)
                  refine ev_goto rfl rfl ?_
                  refine ev_isubA rfl rfl (fun v115263 g115263 => ?_)
                  refine ev_istore_n rfl rfl rfl rfl ?_
                  dsimp only [List.set]
                  refine ev_iconst (v := 0) rfl rfl (by decide) ?_
                  refine ev_istore rfl rfl rfl rfl ?_
                  dsimp only [List.set]
                  have lp128_115412 : ∀ (n : Nat) (w115413 : Int32) (h115415 : Hp), B w115413 0 512 → JW [(81, 999), (82, 999), (83, 999)] h h115415 → (h115415 63 3 = f1) → (h115415 63 5 = v112438) → (h115415 65 9 = v115081) → 512 + 1 - w115413.toInt ≤ (n : Int) → EvQ mi_X10_prepares 128 [some (.ref 63), some (.int a0), some (.int 9), some (.int v115263), some (.int w115413)] [] (G0 L b) h115415 0 0 (QN [(81, 999), (82, 999), (83, 999)] (G0 L b) h) := by
                    intro n
                    induction n with
                    | zero =>
                      intro w115413 h115415 b115414 hJ115416 z115417 z115418 z115419 hm128
                      exact absurd hm128 (L_zero b115414 (by decide))
                    | succ n ih128 =>
                      intro w115413 h115415 b115414 hJ115416 z115417 z115418 z115419 hm128
                      have z115420 := congrArg Int32.toInt z115417
                      refine ev_iload rfl rfl rfl ?_
                      refine ev_iconst (v := 1) rfl rfl (by decide) ?_
                      refine ev_iload_n rfl rfl rfl ?_
                      refine ev_ishlL (v := 512) (by decide) rfl rfl ?_
                      refine ev_icmp_ge rfl rfl (fun c115422 => ?_) (fun c115422 => ?_)
                      · have b115423 : B w115413 512 512 := R_leY (by decide : B 512 512 512) b115414 c115422 (by decide)
                        have z115424 := w_le c115422
                        rw [show (512 : Int32).toInt = 512 from by decide] at z115424
                        refine ev_iincL (v := 10) (y := 1) rfl rfl rfl (by decide) rfl rfl (by decide) ?_
                        dsimp only [List.set]
                        refine ev_goto rfl rfl ?_
                        exact (EvQ.drop 4 (EvQ.drop 3 (ih88 10 h115415 ((by decide : B 10 10 10).mono (by decide) (by decide)) hJ115416 z115417 (L_up hm88 (by decide)))))
                      · have b115425 : B w115413 0 511 := R_ltX b115414 (by decide : B 512 512 512) (Int32.not_le.mp c115422) (by decide)
                        have z115426 := w_lt (Int32.not_le.mp c115422)
                        rw [show (512 : Int32).toInt = 512 from by decide] at z115426
                        refine ev_aload_n rfl rfl rfl ?_
                        refine ev_getR (y := 82) rfl rfl fl_X10_79 rfl rfl rfl rfl ?_
                        refine ev_iload rfl rfl rfl ?_
                        refine ev_iconst (v := 1) rfl rfl (by decide) ?_
                        refine ev_iload_n rfl rfl rfl ?_
                        refine ev_ishlL (v := 512) (by decide) rfl rfl ?_
                        refine ev_iorB 10 (u := 1023) rfl rfl b115425 (by decide : B 512 512 512) (by decide) (by decide) (by decide) (by decide) (by decide) (by decide) (fun v115428 b115428 e115428 => ?_)
                        refine ev_aload_n rfl rfl rfl ?_
                        refine ev_getR (y := 82) rfl rfl fl_X10_79 rfl rfl rfl rfl ?_
                        refine ev_iload rfl rfl rfl ?_
                        refine ev_ialW (n := 4096) (l := (-2147483648)) (u := 2147483647) hJ115416.1 b115425 (by decide) (by decide) (fun _ => rfl) rfl rfl rfl (fun v115429 b115429 e115429 => ?_)
                        refine ev_iload_n rfl rfl rfl ?_
                        refine ev_iaddA rfl rfl (fun v115430 g115430 => ?_)
                        refine ev_iasW (n := 4096) (l := (-2147483648)) (u := 2147483647) hJ115416 b115428 (by decide) (by decide) (fun _ => rfl) (B.any v115430) (by decide) (by decide) (fun _ => rfl) rfl rfl rfl rfl (fun h115431 hJ115431 k115431 => ?_)
                        refine ev_aload_n rfl rfl rfl ?_
                        refine ev_getR (y := 83) rfl rfl fl_X10_82 rfl rfl rfl rfl ?_
                        refine ev_iload rfl rfl rfl ?_
                        refine ev_iconst (v := 1) rfl rfl (by decide) ?_
                        refine ev_iload_n rfl rfl rfl ?_
                        refine ev_ishlL (v := 512) (by decide) rfl rfl ?_
                        refine ev_iorB 10 (u := 1023) rfl rfl b115425 (by decide : B 512 512 512) (by decide) (by decide) (by decide) (by decide) (by decide) (by decide) (fun v115433 b115433 e115433 => ?_)
                        refine ev_aload_n rfl rfl rfl ?_
                        refine ev_getR (y := 83) rfl rfl fl_X10_82 rfl rfl rfl rfl ?_
                        refine ev_iload rfl rfl rfl ?_
                        refine ev_ialG (n := 4096) hJ115431.1 b115425 (by decide) (by decide) rfl rfl rfl (fun v115434 b115434 e115434 => ?_)
                        have b115434k : B v115434 0 12 := mb_get b115434
                        refine ev_iconst (v := 1) rfl rfl (by decide) ?_
                        refine ev_iaddB (l := 1) (u := 13) rfl rfl b115434k (by decide : B 1 1 1) (by decide) (by decide) (by decide) (by decide) (fun v115435 b115435 e115435 g115435 => ?_)
                        have e115435x := e115435; rw [show (1 : Int32).toInt = 1 from by decide] at e115435x
                        refine ev_iasG (n := 4096) hJ115431 b115433 (by decide) (by decide) (mb_put (w := 9) (c := 512) (by decide) (by decide) (b115425.mono (by decide) (by decide)) (by rw [show (512 : Int32).toInt = 512 from by decide]; have z_ := b115425.2; omega) e115433 b115434 e115435x) (fun _ => rfl) rfl rfl rfl rfl (fun h115436 hJ115436 k115436 => ?_)
                        refine ev_iincB (y := 1) (l := 1) (u := 512) rfl rfl rfl (by decide) rfl rfl b115425 (by decide : B 1 1 1) (by decide) (by decide) (by decide) (by decide) (fun v115437 b115437 e115437 => ?_)
                        dsimp only [List.set]
                        have e115437x := e115437; rw [show (1 : Int32).toInt = 1 from by decide] at e115437x
                        refine ev_goto rfl rfl ?_
                        exact (ih128 v115437 h115436 (b115437.mono (by decide) (by decide)) hJ115436 (rd_a k115436 (rd_a k115431 z115417 rfl) rfl) (rd_a k115436 (rd_a k115431 z115418 rfl) rfl) (rd_a k115436 (rd_a k115431 z115419 rfl) rfl) (L_up hm128 (e_p1 e115437 (by decide))))
                  exact (lp128_115412 513 0 h112434 ((by decide : B 0 0 0).mono (by decide) (by decide)) hJ112435 z112436 e112438 e115081 (L_init (by decide : B 0 0 0) (by decide)))
              · refine ev_ialK (j := 10) (n := 12) (l := (-2147483648)) (u := 2147483647) hJ112435.1 (by decide : B 10 10 10) (by decide) (by decide) (by decide) rfl rfl rfl rfl (fun v115438 b115438 e115438 => ?_)
                refine ev_aload_n rfl rfl rfl ?_
                refine ev_getR (y := 70) rfl rfl fl_X10_42 rfl rfl rfl rfl ?_
                refine ev_iload_n rfl rfl rfl ?_
                refine ev_zalW (n := 12) (l := (-2147483648)) (u := 2147483647) hJ112435.1 (by decide : B 10 10 10) (by decide) (by decide) (fun _ => rfl) rfl rfl rfl (fun v115439 b115439 e115439 => ?_)
                refine ev_if_eq rfl rfl (fun c115440 => ?_) (fun c115440 => ?_)
                · have b115441 : B v115439 0 0 := R_eqX (B.any v115439) (by decide : B 0 0 0) c115440
                  have z115442 := congrArg Int32.toInt c115440
                  rw [show (0 : Int32).toInt = 0 from by decide] at z115442
                  refine ev_iconst (v := 0) rfl rfl (by decide) ?_
                  refine ev_isubB (l := -2147483648) (u := 2147483647) rfl rfl (B.any v115438) (by decide : B 0 0 0) (by decide) (by decide) (by decide) (by decide) (fun v115444 b115444 e115444 g115444 => ?_)
                  have e115444x := e115444; rw [show (0 : Int32).toInt = 0 from by decide] at e115444x
                  refine ev_istore_n rfl rfl rfl rfl ?_
                  dsimp only [List.set]
                  refine ev_iconst (v := 0) rfl rfl (by decide) ?_
                  refine ev_istore rfl rfl rfl rfl ?_
                  dsimp only [List.set]
                  have lp128_115593 : ∀ (n : Nat) (w115594 : Int32) (h115596 : Hp), B w115594 0 1024 → JW [(81, 999), (82, 999), (83, 999)] h h115596 → (h115596 63 3 = f1) → (h115596 63 5 = v112438) → (h115596 65 10 = v115438) → 1024 + 1 - w115594.toInt ≤ (n : Int) → EvQ mi_X10_prepares 128 [some (.ref 63), some (.int a0), some (.int 10), some (.int v115444), some (.int w115594)] [] (G0 L b) h115596 0 0 (QN [(81, 999), (82, 999), (83, 999)] (G0 L b) h) := by
                    intro n
                    induction n with
                    | zero =>
                      intro w115594 h115596 b115595 hJ115597 z115598 z115599 z115600 hm128
                      exact absurd hm128 (L_zero b115595 (by decide))
                    | succ n ih128 =>
                      intro w115594 h115596 b115595 hJ115597 z115598 z115599 z115600 hm128
                      have z115601 := congrArg Int32.toInt z115598
                      refine ev_iload rfl rfl rfl ?_
                      refine ev_iconst (v := 1) rfl rfl (by decide) ?_
                      refine ev_iload_n rfl rfl rfl ?_
                      refine ev_ishlL (v := 1024) (by decide) rfl rfl ?_
                      refine ev_icmp_ge rfl rfl (fun c115603 => ?_) (fun c115603 => ?_)
                      · have b115604 : B w115594 1024 1024 := R_leY (by decide : B 1024 1024 1024) b115595 c115603 (by decide)
                        have z115605 := w_le c115603
                        rw [show (1024 : Int32).toInt = 1024 from by decide] at z115605
                        refine ev_iincL (v := 11) (y := 1) rfl rfl rfl (by decide) rfl rfl (by decide) ?_
                        dsimp only [List.set]
                        refine ev_goto rfl rfl ?_
                        exact (EvQ.drop 4 (EvQ.drop 3 (ih88 11 h115596 ((by decide : B 11 11 11).mono (by decide) (by decide)) hJ115597 z115598 (L_up hm88 (by decide)))))
                      · have b115606 : B w115594 0 1023 := R_ltX b115595 (by decide : B 1024 1024 1024) (Int32.not_le.mp c115603) (by decide)
                        have z115607 := w_lt (Int32.not_le.mp c115603)
                        rw [show (1024 : Int32).toInt = 1024 from by decide] at z115607
                        refine ev_aload_n rfl rfl rfl ?_
                        refine ev_getR (y := 82) rfl rfl fl_X10_79 rfl rfl rfl rfl ?_
                        refine ev_iload rfl rfl rfl ?_
                        refine ev_iconst (v := 1) rfl rfl (by decide) ?_
                        refine ev_iload_n rfl rfl rfl ?_
                        refine ev_ishlL (v := 1024) (by decide) rfl rfl ?_
                        refine ev_iorB 11 (u := 2047) rfl rfl b115606 (by decide : B 1024 1024 1024) (by decide) (by decide) (by decide) (by decide) (by decide) (by decide) (fun v115609 b115609 e115609 => ?_)
                        refine ev_aload_n rfl rfl rfl ?_
                        refine ev_getR (y := 82) rfl rfl fl_X10_79 rfl rfl rfl rfl ?_
                        refine ev_iload rfl rfl rfl ?_
                        refine ev_ialW (n := 4096) (l := (-2147483648)) (u := 2147483647) hJ115597.1 b115606 (by decide) (by decide) (fun _ => rfl) rfl rfl rfl (fun v115610 b115610 e115610 => ?_)
                        refine ev_iload_n rfl rfl rfl ?_
                        refine ev_iaddA rfl rfl (fun v115611 g115611 => ?_)
                        refine ev_iasW (n := 4096) (l := (-2147483648)) (u := 2147483647) hJ115597 b115609 (by decide) (by decide) (fun _ => rfl) (B.any v115611) (by decide) (by decide) (fun _ => rfl) rfl rfl rfl rfl (fun h115612 hJ115612 k115612 => ?_)
                        refine ev_aload_n rfl rfl rfl ?_
                        refine ev_getR (y := 83) rfl rfl fl_X10_82 rfl rfl rfl rfl ?_
                        refine ev_iload rfl rfl rfl ?_
                        refine ev_iconst (v := 1) rfl rfl (by decide) ?_
                        refine ev_iload_n rfl rfl rfl ?_
                        refine ev_ishlL (v := 1024) (by decide) rfl rfl ?_
                        refine ev_iorB 11 (u := 2047) rfl rfl b115606 (by decide : B 1024 1024 1024) (by decide) (by decide) (by decide) (by decide) (by decide) (by decide) (fun v115614 b115614 e115614 => ?_)
                        refine ev_aload_n rfl rfl rfl ?_
                        refine ev_getR (y := 83) rfl rfl fl_X10_82 rfl rfl rfl rfl ?_
                        refine ev_iload rfl rfl rfl ?_
                        refine ev_ialG (n := 4096) hJ115612.1 b115606 (by decide) (by decide) rfl rfl rfl (fun v115615 b115615 e115615 => ?_)
                        have b115615k : B v115615 0 12 := mb_get b115615
                        refine ev_iconst (v := 1) rfl rfl (by decide) ?_
                        refine ev_iaddB (l := 1) (u := 13) rfl rfl b115615k (by decide : B 1 1 1) (by decide) (by decide) (by decide) (by decide) (fun v115616 b115616 e115616 g115616 => ?_)
                        have e115616x := e115616; rw [show (1 : Int32).toInt = 1 from by decide] at e115616x
                        refine ev_iasG (n := 4096) hJ115612 b115614 (by decide) (by decide) (mb_put (w := 10) (c := 1024) (by decide) (by decide) (b115606.mono (by decide) (by decide)) (by rw [show (1024 : Int32).toInt = 1024 from by decide]; have z_ := b115606.2; omega) e115614 b115615 e115616x) (fun _ => rfl) rfl rfl rfl rfl (fun h115617 hJ115617 k115617 => ?_)
                        refine ev_iincB (y := 1) (l := 1) (u := 1024) rfl rfl rfl (by decide) rfl rfl b115606 (by decide : B 1 1 1) (by decide) (by decide) (by decide) (by decide) (fun v115618 b115618 e115618 => ?_)
                        dsimp only [List.set]
                        have e115618x := e115618; rw [show (1 : Int32).toInt = 1 from by decide] at e115618x
                        refine ev_goto rfl rfl ?_
                        exact (ih128 v115618 h115617 (b115618.mono (by decide) (by decide)) hJ115617 (rd_a k115617 (rd_a k115612 z115598 rfl) rfl) (rd_a k115617 (rd_a k115612 z115599 rfl) rfl) (rd_a k115617 (rd_a k115612 z115600 rfl) rfl) (L_up hm128 (e_p1 e115618 (by decide))))
                  exact (lp128_115593 1025 0 h112434 ((by decide : B 0 0 0).mono (by decide) (by decide)) hJ112435 z112436 e112438 e115438 (L_init (by decide : B 0 0 0) (by decide)))
                · have z115443 := w_ne c115440
                  rw [show (0 : Int32).toInt = 0 from by decide] at z115443
                  refine ev_aload_n rfl rfl rfl ?_
                  refine ev_getR (y := 65) rfl rfl fl_X10_26 rfl rfl rfl rfl ?_
                  refine ev_iload_n rfl rfl rfl ?_
                  refine ev_iadV (j := 10) (v := v115438) rfl rfl rfl (by unfold vp_in; decide) (by decide) e115438 ?_
                  refine ev_iconst (v := 2) rfl rfl (by decide) ?_
                  refine ev_idivA (by decide : B 2 2 2) (by decide) rfl rfl (fun v115619 => ?_)
                  refine ev_goto rfl rfl ?_
                  refine ev_isubA rfl rfl (fun v115620 g115620 => ?_)
                  refine ev_istore_n rfl rfl rfl rfl ?_
                  dsimp only [List.set]
                  refine ev_iconst (v := 0) rfl rfl (by decide) ?_
                  refine ev_istore rfl rfl rfl rfl ?_
                  dsimp only [List.set]
                  have lp128_115769 : ∀ (n : Nat) (w115770 : Int32) (h115772 : Hp), B w115770 0 1024 → JW [(81, 999), (82, 999), (83, 999)] h h115772 → (h115772 63 3 = f1) → (h115772 63 5 = v112438) → (h115772 65 10 = v115438) → 1024 + 1 - w115770.toInt ≤ (n : Int) → EvQ mi_X10_prepares 128 [some (.ref 63), some (.int a0), some (.int 10), some (.int v115620), some (.int w115770)] [] (G0 L b) h115772 0 0 (QN [(81, 999), (82, 999), (83, 999)] (G0 L b) h) := by
                    intro n
                    induction n with
                    | zero =>
                      intro w115770 h115772 b115771 hJ115773 z115774 z115775 z115776 hm128
                      exact absurd hm128 (L_zero b115771 (by decide))
                    | succ n ih128 =>
                      intro w115770 h115772 b115771 hJ115773 z115774 z115775 z115776 hm128
                      have z115777 := congrArg Int32.toInt z115774
                      refine ev_iload rfl rfl rfl ?_
                      refine ev_iconst (v := 1) rfl rfl (by decide) ?_
                      refine ev_iload_n rfl rfl rfl ?_
                      refine ev_ishlL (v := 1024) (by decide) rfl rfl ?_
                      refine ev_icmp_ge rfl rfl (fun c115779 => ?_) (fun c115779 => ?_)
                      · have b115780 : B w115770 1024 1024 := R_leY (by decide : B 1024 1024 1024) b115771 c115779 (by decide)
                        have z115781 := w_le c115779
                        rw [show (1024 : Int32).toInt = 1024 from by decide] at z115781
                        refine ev_iincL (v := 11) (y := 1) rfl rfl rfl (by decide) rfl rfl (by decide) ?_
                        dsimp only [List.set]
                        refine ev_goto rfl rfl ?_
                        exact (EvQ.drop 4 (EvQ.drop 3 (ih88 11 h115772 ((by decide : B 11 11 11).mono (by decide) (by decide)) hJ115773 z115774 (L_up hm88 (by decide)))))
                      · have b115782 : B w115770 0 1023 := R_ltX b115771 (by decide : B 1024 1024 1024) (Int32.not_le.mp c115779) (by decide)
                        have z115783 := w_lt (Int32.not_le.mp c115779)
                        rw [show (1024 : Int32).toInt = 1024 from by decide] at z115783
                        refine ev_aload_n rfl rfl rfl ?_
                        refine ev_getR (y := 82) rfl rfl fl_X10_79 rfl rfl rfl rfl ?_
                        refine ev_iload rfl rfl rfl ?_
                        refine ev_iconst (v := 1) rfl rfl (by decide) ?_
                        refine ev_iload_n rfl rfl rfl ?_
                        refine ev_ishlL (v := 1024) (by decide) rfl rfl ?_
                        refine ev_iorB 11 (u := 2047) rfl rfl b115782 (by decide : B 1024 1024 1024) (by decide) (by decide) (by decide) (by decide) (by decide) (by decide) (fun v115785 b115785 e115785 => ?_)
                        refine ev_aload_n rfl rfl rfl ?_
                        refine ev_getR (y := 82) rfl rfl fl_X10_79 rfl rfl rfl rfl ?_
                        refine ev_iload rfl rfl rfl ?_
                        refine ev_ialW (n := 4096) (l := (-2147483648)) (u := 2147483647) hJ115773.1 b115782 (by decide) (by decide) (fun _ => rfl) rfl rfl rfl (fun v115786 b115786 e115786 => ?_)
                        refine ev_iload_n rfl rfl rfl ?_
                        refine ev_iaddA rfl rfl (fun v115787 g115787 => ?_)
                        refine ev_iasW (n := 4096) (l := (-2147483648)) (u := 2147483647) hJ115773 b115785 (by decide) (by decide) (fun _ => rfl) (B.any v115787) (by decide) (by decide) (fun _ => rfl) rfl rfl rfl rfl (fun h115788 hJ115788 k115788 => ?_)
                        refine ev_aload_n rfl rfl rfl ?_
                        refine ev_getR (y := 83) rfl rfl fl_X10_82 rfl rfl rfl rfl ?_
                        refine ev_iload rfl rfl rfl ?_
                        refine ev_iconst (v := 1) rfl rfl (by decide) ?_
                        refine ev_iload_n rfl rfl rfl ?_
                        refine ev_ishlL (v := 1024) (by decide) rfl rfl ?_
                        refine ev_iorB 11 (u := 2047) rfl rfl b115782 (by decide : B 1024 1024 1024) (by decide) (by decide) (by decide) (by decide) (by decide) (by decide) (fun v115790 b115790 e115790 => ?_)
                        refine ev_aload_n rfl rfl rfl ?_
                        refine ev_getR (y := 83) rfl rfl fl_X10_82 rfl rfl rfl rfl ?_
                        refine ev_iload rfl rfl rfl ?_
                        refine ev_ialG (n := 4096) hJ115788.1 b115782 (by decide) (by decide) rfl rfl rfl (fun v115791 b115791 e115791 => ?_)
                        have b115791k : B v115791 0 12 := mb_get b115791
                        refine ev_iconst (v := 1) rfl rfl (by decide) ?_
                        refine ev_iaddB (l := 1) (u := 13) rfl rfl b115791k (by decide : B 1 1 1) (by decide) (by decide) (by decide) (by decide) (fun v115792 b115792 e115792 g115792 => ?_)
                        have e115792x := e115792; rw [show (1 : Int32).toInt = 1 from by decide] at e115792x
                        refine ev_iasG (n := 4096) hJ115788 b115790 (by decide) (by decide) (mb_put (w := 10) (c := 1024) (by decide) (by decide) (b115782.mono (by decide) (by decide)) (by rw [show (1024 : Int32).toInt = 1024 from by decide]; have z_ := b115782.2; omega) e115790 b115791 e115792x) (fun _ => rfl) rfl rfl rfl rfl (fun h115793 hJ115793 k115793 => ?_)
                        refine ev_iincB (y := 1) (l := 1) (u := 1024) rfl rfl rfl (by decide) rfl rfl b115782 (by decide : B 1 1 1) (by decide) (by decide) (by decide) (by decide) (fun v115794 b115794 e115794 => ?_)
                        dsimp only [List.set]
                        have e115794x := e115794; rw [show (1 : Int32).toInt = 1 from by decide] at e115794x
                        refine ev_goto rfl rfl ?_
                        exact (ih128 v115794 h115793 (b115794.mono (by decide) (by decide)) hJ115793 (rd_a k115793 (rd_a k115788 z115774 rfl) rfl) (rd_a k115793 (rd_a k115788 z115775 rfl) rfl) (rd_a k115793 (rd_a k115788 z115776 rfl) rfl) (L_up hm128 (e_p1 e115794 (by decide))))
                  exact (lp128_115769 1025 0 h112434 ((by decide : B 0 0 0).mono (by decide) (by decide)) hJ112435 z112436 e112438 e115438 (L_init (by decide : B 0 0 0) (by decide)))
              · refine ev_ialK (j := 11) (n := 12) (l := (-2147483648)) (u := 2147483647) hJ112435.1 (by decide : B 11 11 11) (by decide) (by decide) (by decide) rfl rfl rfl rfl (fun v115795 b115795 e115795 => ?_)
                refine ev_aload_n rfl rfl rfl ?_
                refine ev_getR (y := 70) rfl rfl fl_X10_42 rfl rfl rfl rfl ?_
                refine ev_iload_n rfl rfl rfl ?_
                refine ev_zalW (n := 12) (l := (-2147483648)) (u := 2147483647) hJ112435.1 (by decide : B 11 11 11) (by decide) (by decide) (fun _ => rfl) rfl rfl rfl (fun v115796 b115796 e115796 => ?_)
                refine ev_if_eq rfl rfl (fun c115797 => ?_) (fun c115797 => ?_)
                · have b115798 : B v115796 0 0 := R_eqX (B.any v115796) (by decide : B 0 0 0) c115797
                  have z115799 := congrArg Int32.toInt c115797
                  rw [show (0 : Int32).toInt = 0 from by decide] at z115799
                  refine ev_iconst (v := 0) rfl rfl (by decide) ?_
                  refine ev_isubB (l := -2147483648) (u := 2147483647) rfl rfl (B.any v115795) (by decide : B 0 0 0) (by decide) (by decide) (by decide) (by decide) (fun v115801 b115801 e115801 g115801 => ?_)
                  have e115801x := e115801; rw [show (0 : Int32).toInt = 0 from by decide] at e115801x
                  refine ev_istore_n rfl rfl rfl rfl ?_
                  dsimp only [List.set]
                  refine ev_iconst (v := 0) rfl rfl (by decide) ?_
                  refine ev_istore rfl rfl rfl rfl ?_
                  dsimp only [List.set]
                  have lp128_115950 : ∀ (n : Nat) (w115951 : Int32) (h115953 : Hp), B w115951 0 2048 → JW [(81, 999), (82, 999), (83, 999)] h h115953 → (h115953 63 3 = f1) → (h115953 63 5 = v112438) → (h115953 65 11 = v115795) → 2048 + 1 - w115951.toInt ≤ (n : Int) → EvQ mi_X10_prepares 128 [some (.ref 63), some (.int a0), some (.int 11), some (.int v115801), some (.int w115951)] [] (G0 L b) h115953 0 0 (QN [(81, 999), (82, 999), (83, 999)] (G0 L b) h) := by
                    intro n
                    induction n with
                    | zero =>
                      intro w115951 h115953 b115952 hJ115954 z115955 z115956 z115957 hm128
                      exact absurd hm128 (L_zero b115952 (by decide))
                    | succ n ih128 =>
                      intro w115951 h115953 b115952 hJ115954 z115955 z115956 z115957 hm128
                      have z115958 := congrArg Int32.toInt z115955
                      refine ev_iload rfl rfl rfl ?_
                      refine ev_iconst (v := 1) rfl rfl (by decide) ?_
                      refine ev_iload_n rfl rfl rfl ?_
                      refine ev_ishlL (v := 2048) (by decide) rfl rfl ?_
                      refine ev_icmp_ge rfl rfl (fun c115960 => ?_) (fun c115960 => ?_)
                      · have b115961 : B w115951 2048 2048 := R_leY (by decide : B 2048 2048 2048) b115952 c115960 (by decide)
                        have z115962 := w_le c115960
                        rw [show (2048 : Int32).toInt = 2048 from by decide] at z115962
                        refine ev_iincL (v := 12) (y := 1) rfl rfl rfl (by decide) rfl rfl (by decide) ?_
                        dsimp only [List.set]
                        refine ev_goto rfl rfl ?_
                        exact (EvQ.drop 4 (EvQ.drop 3 (ih88 12 h115953 ((by decide : B 12 12 12).mono (by decide) (by decide)) hJ115954 z115955 (L_up hm88 (by decide)))))
                      · have b115963 : B w115951 0 2047 := R_ltX b115952 (by decide : B 2048 2048 2048) (Int32.not_le.mp c115960) (by decide)
                        have z115964 := w_lt (Int32.not_le.mp c115960)
                        rw [show (2048 : Int32).toInt = 2048 from by decide] at z115964
                        refine ev_aload_n rfl rfl rfl ?_
                        refine ev_getR (y := 82) rfl rfl fl_X10_79 rfl rfl rfl rfl ?_
                        refine ev_iload rfl rfl rfl ?_
                        refine ev_iconst (v := 1) rfl rfl (by decide) ?_
                        refine ev_iload_n rfl rfl rfl ?_
                        refine ev_ishlL (v := 2048) (by decide) rfl rfl ?_
                        refine ev_iorB 12 (u := 4095) rfl rfl b115963 (by decide : B 2048 2048 2048) (by decide) (by decide) (by decide) (by decide) (by decide) (by decide) (fun v115966 b115966 e115966 => ?_)
                        refine ev_aload_n rfl rfl rfl ?_
                        refine ev_getR (y := 82) rfl rfl fl_X10_79 rfl rfl rfl rfl ?_
                        refine ev_iload rfl rfl rfl ?_
                        refine ev_ialW (n := 4096) (l := (-2147483648)) (u := 2147483647) hJ115954.1 b115963 (by decide) (by decide) (fun _ => rfl) rfl rfl rfl (fun v115967 b115967 e115967 => ?_)
                        refine ev_iload_n rfl rfl rfl ?_
                        refine ev_iaddA rfl rfl (fun v115968 g115968 => ?_)
                        refine ev_iasW (n := 4096) (l := (-2147483648)) (u := 2147483647) hJ115954 b115966 (by decide) (by decide) (fun _ => rfl) (B.any v115968) (by decide) (by decide) (fun _ => rfl) rfl rfl rfl rfl (fun h115969 hJ115969 k115969 => ?_)
                        refine ev_aload_n rfl rfl rfl ?_
                        refine ev_getR (y := 83) rfl rfl fl_X10_82 rfl rfl rfl rfl ?_
                        refine ev_iload rfl rfl rfl ?_
                        refine ev_iconst (v := 1) rfl rfl (by decide) ?_
                        refine ev_iload_n rfl rfl rfl ?_
                        refine ev_ishlL (v := 2048) (by decide) rfl rfl ?_
                        refine ev_iorB 12 (u := 4095) rfl rfl b115963 (by decide : B 2048 2048 2048) (by decide) (by decide) (by decide) (by decide) (by decide) (by decide) (fun v115971 b115971 e115971 => ?_)
                        refine ev_aload_n rfl rfl rfl ?_
                        refine ev_getR (y := 83) rfl rfl fl_X10_82 rfl rfl rfl rfl ?_
                        refine ev_iload rfl rfl rfl ?_
                        refine ev_ialG (n := 4096) hJ115969.1 b115963 (by decide) (by decide) rfl rfl rfl (fun v115972 b115972 e115972 => ?_)
                        have b115972k : B v115972 0 12 := mb_get b115972
                        refine ev_iconst (v := 1) rfl rfl (by decide) ?_
                        refine ev_iaddB (l := 1) (u := 13) rfl rfl b115972k (by decide : B 1 1 1) (by decide) (by decide) (by decide) (by decide) (fun v115973 b115973 e115973 g115973 => ?_)
                        have e115973x := e115973; rw [show (1 : Int32).toInt = 1 from by decide] at e115973x
                        refine ev_iasG (n := 4096) hJ115969 b115971 (by decide) (by decide) (mb_put (w := 11) (c := 2048) (by decide) (by decide) b115963 (by rw [show (2048 : Int32).toInt = 2048 from by decide]; have z_ := b115963.2; omega) e115971 b115972 e115973x) (fun _ => rfl) rfl rfl rfl rfl (fun h115974 hJ115974 k115974 => ?_)
                        refine ev_iincB (y := 1) (l := 1) (u := 2048) rfl rfl rfl (by decide) rfl rfl b115963 (by decide : B 1 1 1) (by decide) (by decide) (by decide) (by decide) (fun v115975 b115975 e115975 => ?_)
                        dsimp only [List.set]
                        have e115975x := e115975; rw [show (1 : Int32).toInt = 1 from by decide] at e115975x
                        refine ev_goto rfl rfl ?_
                        exact (ih128 v115975 h115974 (b115975.mono (by decide) (by decide)) hJ115974 (rd_a k115974 (rd_a k115969 z115955 rfl) rfl) (rd_a k115974 (rd_a k115969 z115956 rfl) rfl) (rd_a k115974 (rd_a k115969 z115957 rfl) rfl) (L_up hm128 (e_p1 e115975 (by decide))))
                  exact (lp128_115950 2049 0 h112434 ((by decide : B 0 0 0).mono (by decide) (by decide)) hJ112435 z112436 e112438 e115795 (L_init (by decide : B 0 0 0) (by decide)))
                · have z115800 := w_ne c115797
                  rw [show (0 : Int32).toInt = 0 from by decide] at z115800
                  refine ev_aload_n rfl rfl rfl ?_
                  refine ev_getR (y := 65) rfl rfl fl_X10_26 rfl rfl rfl rfl ?_
                  refine ev_iload_n rfl rfl rfl ?_
                  refine ev_iadV (j := 11) (v := v115795) rfl rfl rfl (by unfold vp_in; decide) (by decide) e115795 ?_
                  refine ev_iconst (v := 2) rfl rfl (by decide) ?_
                  refine ev_idivA (by decide : B 2 2 2) (by decide) rfl rfl (fun v115976 => ?_)
                  refine ev_goto rfl rfl ?_
                  refine ev_isubA rfl rfl (fun v115977 g115977 => ?_)
                  refine ev_istore_n rfl rfl rfl rfl ?_
                  dsimp only [List.set]
                  refine ev_iconst (v := 0) rfl rfl (by decide) ?_
                  refine ev_istore rfl rfl rfl rfl ?_
                  dsimp only [List.set]
                  have lp128_116126 : ∀ (n : Nat) (w116127 : Int32) (h116129 : Hp), B w116127 0 2048 → JW [(81, 999), (82, 999), (83, 999)] h h116129 → (h116129 63 3 = f1) → (h116129 63 5 = v112438) → (h116129 65 11 = v115795) → 2048 + 1 - w116127.toInt ≤ (n : Int) → EvQ mi_X10_prepares 128 [some (.ref 63), some (.int a0), some (.int 11), some (.int v115977), some (.int w116127)] [] (G0 L b) h116129 0 0 (QN [(81, 999), (82, 999), (83, 999)] (G0 L b) h) := by
                    intro n
                    induction n with
                    | zero =>
                      intro w116127 h116129 b116128 hJ116130 z116131 z116132 z116133 hm128
                      exact absurd hm128 (L_zero b116128 (by decide))
                    | succ n ih128 =>
                      intro w116127 h116129 b116128 hJ116130 z116131 z116132 z116133 hm128
                      have z116134 := congrArg Int32.toInt z116131
                      refine ev_iload rfl rfl rfl ?_
                      refine ev_iconst (v := 1) rfl rfl (by decide) ?_
                      refine ev_iload_n rfl rfl rfl ?_
                      refine ev_ishlL (v := 2048) (by decide) rfl rfl ?_
                      refine ev_icmp_ge rfl rfl (fun c116136 => ?_) (fun c116136 => ?_)
                      · have b116137 : B w116127 2048 2048 := R_leY (by decide : B 2048 2048 2048) b116128 c116136 (by decide)
                        have z116138 := w_le c116136
                        rw [show (2048 : Int32).toInt = 2048 from by decide] at z116138
                        refine ev_iincL (v := 12) (y := 1) rfl rfl rfl (by decide) rfl rfl (by decide) ?_
                        dsimp only [List.set]
                        refine ev_goto rfl rfl ?_
                        exact (EvQ.drop 4 (EvQ.drop 3 (ih88 12 h116129 ((by decide : B 12 12 12).mono (by decide) (by decide)) hJ116130 z116131 (L_up hm88 (by decide)))))
                      · have b116139 : B w116127 0 2047 := R_ltX b116128 (by decide : B 2048 2048 2048) (Int32.not_le.mp c116136) (by decide)
                        have z116140 := w_lt (Int32.not_le.mp c116136)
                        rw [show (2048 : Int32).toInt = 2048 from by decide] at z116140
                        refine ev_aload_n rfl rfl rfl ?_
                        refine ev_getR (y := 82) rfl rfl fl_X10_79 rfl rfl rfl rfl ?_
                        refine ev_iload rfl rfl rfl ?_
                        refine ev_iconst (v := 1) rfl rfl (by decide) ?_
                        refine ev_iload_n rfl rfl rfl ?_
                        refine ev_ishlL (v := 2048) (by decide) rfl rfl ?_
                        refine ev_iorB 12 (u := 4095) rfl rfl b116139 (by decide : B 2048 2048 2048) (by decide) (by decide) (by decide) (by decide) (by decide) (by decide) (fun v116142 b116142 e116142 => ?_)
                        refine ev_aload_n rfl rfl rfl ?_
                        refine ev_getR (y := 82) rfl rfl fl_X10_79 rfl rfl rfl rfl ?_
                        refine ev_iload rfl rfl rfl ?_
                        refine ev_ialW (n := 4096) (l := (-2147483648)) (u := 2147483647) hJ116130.1 b116139 (by decide) (by decide) (fun _ => rfl) rfl rfl rfl (fun v116143 b116143 e116143 => ?_)
                        refine ev_iload_n rfl rfl rfl ?_
                        refine ev_iaddA rfl rfl (fun v116144 g116144 => ?_)
                        refine ev_iasW (n := 4096) (l := (-2147483648)) (u := 2147483647) hJ116130 b116142 (by decide) (by decide) (fun _ => rfl) (B.any v116144) (by decide) (by decide) (fun _ => rfl) rfl rfl rfl rfl (fun h116145 hJ116145 k116145 => ?_)
                        refine ev_aload_n rfl rfl rfl ?_
                        refine ev_getR (y := 83) rfl rfl fl_X10_82 rfl rfl rfl rfl ?_
                        refine ev_iload rfl rfl rfl ?_
                        refine ev_iconst (v := 1) rfl rfl (by decide) ?_
                        refine ev_iload_n rfl rfl rfl ?_
                        refine ev_ishlL (v := 2048) (by decide) rfl rfl ?_
                        refine ev_iorB 12 (u := 4095) rfl rfl b116139 (by decide : B 2048 2048 2048) (by decide) (by decide) (by decide) (by decide) (by decide) (by decide) (fun v116147 b116147 e116147 => ?_)
                        refine ev_aload_n rfl rfl rfl ?_
                        refine ev_getR (y := 83) rfl rfl fl_X10_82 rfl rfl rfl rfl ?_
                        refine ev_iload rfl rfl rfl ?_
                        refine ev_ialG (n := 4096) hJ116145.1 b116139 (by decide) (by decide) rfl rfl rfl (fun v116148 b116148 e116148 => ?_)
                        have b116148k : B v116148 0 12 := mb_get b116148
                        refine ev_iconst (v := 1) rfl rfl (by decide) ?_
                        refine ev_iaddB (l := 1) (u := 13) rfl rfl b116148k (by decide : B 1 1 1) (by decide) (by decide) (by decide) (by decide) (fun v116149 b116149 e116149 g116149 => ?_)
                        have e116149x := e116149; rw [show (1 : Int32).toInt = 1 from by decide] at e116149x
                        refine ev_iasG (n := 4096) hJ116145 b116147 (by decide) (by decide) (mb_put (w := 11) (c := 2048) (by decide) (by decide) b116139 (by rw [show (2048 : Int32).toInt = 2048 from by decide]; have z_ := b116139.2; omega) e116147 b116148 e116149x) (fun _ => rfl) rfl rfl rfl rfl (fun h116150 hJ116150 k116150 => ?_)
                        refine ev_iincB (y := 1) (l := 1) (u := 2048) rfl rfl rfl (by decide) rfl rfl b116139 (by decide : B 1 1 1) (by decide) (by decide) (by decide) (by decide) (fun v116151 b116151 e116151 => ?_)
                        dsimp only [List.set]
                        have e116151x := e116151; rw [show (1 : Int32).toInt = 1 from by decide] at e116151x
                        refine ev_goto rfl rfl ?_
                        exact (ih128 v116151 h116150 (b116151.mono (by decide) (by decide)) hJ116150 (rd_a k116150 (rd_a k116145 z116131 rfl) rfl) (rd_a k116150 (rd_a k116145 z116132 rfl) rfl) (rd_a k116150 (rd_a k116145 z116133 rfl) rfl) (L_up hm128 (e_p1 e116151 (by decide))))
                  exact (lp128_116126 2049 0 h112434 ((by decide : B 0 0 0).mono (by decide) (by decide)) hJ112435 z112436 e112438 e115795 (L_init (by decide : B 0 0 0) (by decide)))
        exact (lp88_112431 13 0 h100065 ((by decide : B 0 0 0).mono (by decide) (by decide)) hJ100065 (rd_a k100065 (rd_a k100064 z100056 rfl) rfl) (L_init (by decide : B 0 0 0) (by decide)))
      · have b100061 : B w100052 0 200 := R_leX b100053 bf1 (Int32.not_lt.mp c100058) (by decide)
        have z100062 := w_le (Int32.not_lt.mp c100058)
        refine ev_aload_n rfl rfl rfl ?_
        refine ev_getR (y := 81) rfl rfl fl_X10_76 rfl rfl rfl rfl ?_
        refine ev_iload_n rfl rfl rfl ?_
        refine ev_iconst (v := 0) rfl rfl (by decide) ?_
        refine ev_iasW (n := 201) (l := 0) (u := 4095) hJ100055 b100061 (by decide) (by decide) (fun _ => rfl) (by decide : B 0 0 0) (by decide) (by decide) (fun _ => rfl) rfl rfl rfl rfl (fun h116152 hJ116152 k116152 => ?_)
        refine ev_iconst (v := 0) rfl rfl (by decide) ?_
        refine ev_istore_n rfl rfl rfl rfl ?_
        dsimp only [List.set]
        have lp19_116269 : ∀ (n : Nat) (w116270 : Int32) (h116272 : Hp), B w116270 0 12 → JW [(81, 999), (82, 999), (83, 999)] h h116272 → (h116272 63 3 = f1) → 12 + 1 - w116270.toInt ≤ (n : Int) → EvQ mi_X10_prepares 19 [some (.ref 63), some (.int a0), some (.int w100052), some (.int w116270), none] [] (G0 L b) h116272 0 0 (QN [(81, 999), (82, 999), (83, 999)] (G0 L b) h) := by
          intro n
          induction n with
          | zero =>
            intro w116270 h116272 b116271 hJ116273 z116274 hm19
            exact absurd hm19 (L_zero b116271 (by decide))
          | succ n ih19 =>
            intro w116270 h116272 b116271 hJ116273 z116274 hm19
            have z116275 := congrArg Int32.toInt z116274
            refine ev_iload_n rfl rfl rfl ?_
            refine ev_aload_n rfl rfl rfl ?_
            refine ev_getW (l := 0) (u := 12) hJ116273.1 rfl rfl rfl fl_X10_121 rfl rfl rfl (fun v116276 b116276 e116276 => ?_)
            refine ev_icmp_ge rfl rfl (fun c116277 => ?_) (fun c116277 => ?_)
            · have z116278 := w_le c116277
              refine ev_iincB (y := 1) (l := 1) (u := 201) rfl rfl rfl (by decide) rfl rfl b100061 (by decide : B 1 1 1) (by decide) (by decide) (by decide) (by decide) (fun v116282 b116282 e116282 => ?_)
              dsimp only [List.set]
              have e116282x := e116282; rw [show (1 : Int32).toInt = 1 from by decide] at e116282x
              refine ev_goto rfl rfl ?_
              exact (EvQ.drop 3 (ih2 v116282 h116272 (b116282.mono (by decide) (by decide)) hJ116273 z116274 (L_up hm2 (e_p1 e116282 (by decide)))))
            · have b116279 : B w116270 0 11 := R_ltX b116271 b116276 (Int32.not_le.mp c116277) (by decide)
              have b116280 : B v116276 1 12 := R_ltY b116271 b116276 (Int32.not_le.mp c116277) (by decide)
              have z116281 := w_lt (Int32.not_le.mp c116277)
              refine ev_aload_n rfl rfl rfl ?_
              refine ev_getR (y := 81) rfl rfl fl_X10_76 rfl rfl rfl rfl ?_
              refine ev_iload_n rfl rfl rfl ?_
              refine ev_dup2 rfl rfl rfl rfl ?_
              refine ev_ialW (n := 201) (l := 0) (u := 4095) hJ116273.1 b100061 (by decide) (by decide) (fun _ => rfl) rfl rfl rfl (fun v116283 b116283 e116283 => ?_)
              refine ev_aload_n rfl rfl rfl ?_
              refine ev_iload_n rfl rfl rfl ?_
              refine ev_iload_n rfl rfl rfl ?_
              refine ev_V2P rfl rfl lk_X10_153 vt_X10_off rfl rfl rfl rfl rfl (w_X10_off_63 L b h116272 hJ116273.1 w116270 b116279 w100052) (fun r116284 q116284 => ?_)
              refine ev_S1P rfl rfl lk_X10_156 st_X10_size rfl rfl (w_any (c_size (G0 L b) h116272 r116284)) (fun r116285 q116285 => ?_)
              refine ev_iload_n rfl rfl rfl ?_
              refine ev_icmp_gt rfl rfl (fun c116286 => ?_) (fun c116286 => ?_)
              · have b116287 : B r116285 (-2147483647) 2147483647 := R_ltY (B.any a0) (B.any r116285) c116286 (by decide)
                have b116288 : B a0 (-2147483648) 2147483646 := R_ltX (B.any a0) (B.any r116285) c116286 (by decide)
                have z116289 := w_lt c116286
                refine ev_iconst (v := 0) rfl rfl (by decide) ?_
                refine ev_iorB 12 (u := 4095) rfl rfl b116283 (by decide : B 0 0 0) (by decide) (by decide) (by decide) (by decide) (by decide) (by decide) (fun v116291 b116291 e116291 => ?_)
                refine ev_iasW (n := 201) (l := 0) (u := 4095) hJ116273 b100061 (by decide) (by decide) (fun _ => rfl) b116291 (by decide) (by decide) (fun _ => rfl) rfl rfl rfl rfl (fun h116292 hJ116292 k116292 => ?_)
                refine ev_iincB (y := 1) (l := 1) (u := 12) rfl rfl rfl (by decide) rfl rfl b116279 (by decide : B 1 1 1) (by decide) (by decide) (by decide) (by decide) (fun v116293 b116293 e116293 => ?_)
                dsimp only [List.set]
                have e116293x := e116293; rw [show (1 : Int32).toInt = 1 from by decide] at e116293x
                refine ev_goto rfl rfl ?_
                exact (ih19 v116293 h116292 (b116293.mono (by decide) (by decide)) hJ116292 (rd_a k116292 z116274 rfl) (L_up hm19 (e_p1 e116293 (by decide))))
              · have z116290 := w_le (Int32.not_lt.mp c116286)
                refine ev_iconst (v := 1) rfl rfl (by decide) ?_
                refine ev_iload_n rfl rfl rfl ?_
                refine ev_ishlB rfl rfl b116279 (by decide) (by decide) (fun v116294 b116294 => ?_)
                refine ev_goto rfl rfl ?_
                refine ev_iorB 12 (u := 4095) rfl rfl b116283 b116294 (by decide) (by decide) (by decide) (by decide) (by decide) (by decide) (fun v116295 b116295 e116295 => ?_)
                refine ev_iasW (n := 201) (l := 0) (u := 4095) hJ116273 b100061 (by decide) (by decide) (fun _ => rfl) b116295 (by decide) (by decide) (fun _ => rfl) rfl rfl rfl rfl (fun h116296 hJ116296 k116296 => ?_)
                refine ev_iincB (y := 1) (l := 1) (u := 12) rfl rfl rfl (by decide) rfl rfl b116279 (by decide : B 1 1 1) (by decide) (by decide) (by decide) (by decide) (fun v116297 b116297 e116297 => ?_)
                dsimp only [List.set]
                have e116297x := e116297; rw [show (1 : Int32).toInt = 1 from by decide] at e116297x
                refine ev_goto rfl rfl ?_
                exact (ih19 v116297 h116296 (b116297.mono (by decide) (by decide)) hJ116296 (rd_a k116296 z116274 rfl) (L_up hm19 (e_p1 e116297 (by decide))))
        exact (lp19_116269 13 0 h116152 ((by decide : B 0 0 0).mono (by decide) (by decide)) hJ116152 (rd_a k116152 z100056 rfl) (L_init (by decide : B 0 0 0) (by decide)))
  exact (lp2_100051 202 0 h ((by decide : B 0 0 0).mono (by decide) (by decide)) hJ0 ef1 (L_init (by decide : B 0 0 0) (by decide)))

