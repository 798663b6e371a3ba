set_option maxRecDepth 100000 in
set_option maxHeartbeats 4000000 in
theorem w_X10_explains_63 (L : Nat) (b : Bool) (h : Hp) (hB : Bx h) (a0 : Int32) (p0 : B a0 0 5) (a1 : Int32) (p1 : B a1 (-11) 11) (a2 : Int32) (p2 : B a2 0 200) (a3 : Int32) (p3 : B a3 0 3) (a4 : Int32) (a5 : Int32) (hK : KM h a0 a1) (hI : IXP h a0 a3 a4 (h 73 (Int32.toNatClampNeg a0))) : EvJ mi_X10_explains [.ref 63, .int a0, .int a1, .int a2, .int a3, .int a4, .int a5] (G0 L b) h (fun r : Int32 => B r (-2147483648) 2147483647) [(85, 999), (86, 999)] := by
  refine EvM.of2 (lo := [some (.ref 63), some (.int a0), some (.int a1), some (.int a2), some (.int a3), some (.int a4), some (.int a5), none, none, none, none, none, none, none]) pf_X10_explains ok_X10_explains rfl rfl ?_
  have hJ0 : JW [(85, 999), (86, 999)] h h := JW.refl hB
  obtain ⟨f1, ef1⟩ : ∃ f_, h 63 3 = f_ := ⟨_, rfl⟩
  have bf1 : B f1 0 200 := by have z_ := hJ0.1 63 3; rw [ef1] at z_; exact z_
  have zf1 := congrArg Int32.toInt ef1
  refine ev_iconst (v := 0) rfl rfl (by decide) ?_
  refine ev_istore rfl rfl rfl rfl ?_
  dsimp only [List.set]
  have lp3_4185 : ∀ (n : Nat) (w4186 : Int32) (h4188 : Hp), B w4186 0 12 → JW [(85, 999), (86, 999)] h h4188 → (h4188 63 3 = f1) → 12 + 1 - w4186.toInt ≤ (n : Int) → EvQ mi_X10_explains 3 [some (.ref 63), some (.int a0), some (.int a1), some (.int a2), some (.int a3), some (.int a4), some (.int a5), some (.int w4186), none, none, none, none, none, none] [] (G0 L b) h4188 0 0 (QJ (fun r : Int32 => B r (-2147483648) 2147483647) [(85, 999), (86, 999)] (G0 L b) h) := by
    intro n
    induction n with
    | zero =>
      intro w4186 h4188 b4187 hJ4189 z4190 hm3
      exact absurd hm3 (L_zero b4187 (by decide))
    | succ n ih3 =>
      intro w4186 h4188 b4187 hJ4189 z4190 hm3
      have z4191 := congrArg Int32.toInt z4190
      refine ev_iload rfl rfl rfl ?_
      refine ev_bipush (v := 12) rfl rfl (by decide) ?_
      refine ev_icmp_ge rfl rfl (fun c4192 => ?_) (fun c4192 => ?_)
      · have b4193 : B w4186 12 12 := R_leY (by decide : B 12 12 12) b4187 c4192 (by decide)
        have z4194 := w_le c4192
        rw [show (12 : Int32).toInt = 12 from by decide] at z4194
        refine ev_iload_n rfl rfl rfl ?_
        refine ev_istore rfl rfl rfl rfl ?_
        dsimp only [List.set]
        refine ev_iconst (v := 0) rfl rfl (by decide) ?_
        refine ev_istore rfl rfl rfl rfl ?_
        dsimp only [List.set]
        have lp38_5578 : ∀ (n : Nat) (w5579 : Int32) (w5580 : Int32) (h5583 : Hp), B w5579 0 200 → B w5580 0 24 → JW [(85, 999), (86, 999)] h h5583 → (h5583 63 3 = f1) → 24 + 1 - w5580.toInt ≤ (n : Int) → EvQ mi_X10_explains 38 [some (.ref 63), some (.int a0), some (.int a1), some (.int a2), some (.int a3), some (.int a4), some (.int a5), some (.int w5579), some (.int w5580), none, none, none, none, none] [] (G0 L b) h5583 0 0 (QJ (fun r : Int32 => B r (-2147483648) 2147483647) [(85, 999), (86, 999)] (G0 L b) h) := by
          intro n
          induction n with
          | zero =>
            intro w5579 w5580 h5583 b5581 b5582 hJ5584 z5585 hm38
            exact absurd hm38 (L_zero b5582 (by decide))
          | succ n ih38 =>
            intro w5579 w5580 h5583 b5581 b5582 hJ5584 z5585 hm38
            have z5586 := congrArg Int32.toInt z5585
            refine ev_iload rfl rfl rfl ?_
            refine ev_aload_n rfl rfl rfl ?_
            refine ev_getR (y := 73) rfl rfl fl_X10_51 rfl rfl rfl rfl ?_
            refine ev_iload_n rfl rfl rfl ?_
            refine ev_ialW (n := 6) (l := 0) (u := 24) hJ5584.1 p0 (by decide) (by decide) (fun _ => rfl) rfl rfl rfl (fun v5587 b5587 e5587 => ?_)
            refine ev_icmp_ge rfl rfl (fun c5588 => ?_) (fun c5588 => ?_)
            · have z5589 := w_le c5588
              refine ev_iconst (v := 0) rfl rfl (by decide) ?_
              refine ev_istore rfl rfl rfl rfl ?_
              dsimp only [List.set]
              refine ev_iconst (v := 0) rfl rfl (by decide) ?_
              refine ev_istore rfl rfl rfl rfl ?_
              dsimp only [List.set]
              have lp237_5748 : ∀ (n : Nat) (w5749 : Int32) (w5750 : Int32) (h5752 : Hp), B w5750 0 12 → JW [(85, 999), (86, 999)] h h5752 → (h5752 63 3 = f1) → (h5752 73 (Int32.toNatClampNeg a0) = v5587) → 12 + 1 - w5750.toInt ≤ (n : Int) → EvQ mi_X10_explains 237 [some (.ref 63), some (.int a0), some (.int a1), some (.int a2), some (.int a3), some (.int a4), some (.int a5), some (.int w5579), some (.int w5749), some (.int w5750), none, none, none, none] [] (G0 L b) h5752 0 0 (QJ (fun r : Int32 => B r (-2147483648) 2147483647) [(85, 999), (86, 999)] (G0 L b) h) := by
                intro n
                induction n with
                | zero =>
                  intro w5749 w5750 h5752 b5751 hJ5753 z5754 z5755 hm237
                  exact absurd hm237 (L_zero b5751 (by decide))
                | succ n ih237 =>
                  intro w5749 w5750 h5752 b5751 hJ5753 z5754 z5755 hm237
                  have z5756 := congrArg Int32.toInt z5754
                  refine ev_iload rfl rfl rfl ?_
                  refine ev_bipush (v := 12) rfl rfl (by decide) ?_
                  refine ev_icmp_ge rfl rfl (fun c5757 => ?_) (fun c5757 => ?_)
                  · have b5758 : B w5750 12 12 := R_leY (by decide : B 12 12 12) b5751 c5757 (by decide)
                    have z5759 := w_le c5757
                    rw [show (12 : Int32).toInt = 12 from by decide] at z5759
                    refine ev_iload rfl rfl rfl ?_
                    exact ev_iret rfl rfl rfl ⟨⟨_, rfl, (B.any w5749)⟩, rfl, hJ5753⟩
                  · have b5760 : B w5750 0 11 := R_ltX b5751 (by decide : B 12 12 12) (Int32.not_le.mp c5757) (by decide)
                    have z5761 := w_lt (Int32.not_le.mp c5757)
                    rw [show (12 : Int32).toInt = 12 from by decide] at z5761
                    refine ev_iload rfl rfl rfl ?_
                    refine ev_aload_n rfl rfl rfl ?_
                    refine ev_getR (y := 85) rfl rfl fl_X10_88 rfl rfl rfl rfl ?_
                    refine ev_iload rfl rfl rfl ?_
                    refine ev_ialW (n := 12) (l := (-2147483648)) (u := 2147483647) hJ5753.1 b5760 (by decide) (by decide) (fun _ => rfl) rfl rfl rfl (fun v5762 b5762 e5762 => ?_)
                    refine ev_if_ne rfl rfl (fun c5763 => ?_) (fun c5763 => ?_)
                    · have z5764 := w_ne c5763
                      rw [show (0 : Int32).toInt = 0 from by decide] at z5764
                      refine ev_iconst (v := 1) rfl rfl (by decide) ?_
                      refine ev_iaddA rfl rfl (fun v5767 g5767 => ?_)
                      refine ev_istore rfl rfl rfl rfl ?_
                      dsimp only [List.set]
                      refine ev_iincB (y := 1) (l := 1) (u := 12) rfl rfl rfl (by decide) rfl rfl b5760 (by decide : B 1 1 1) (by decide) (by decide) (by decide) (by decide) (fun v5768 b5768 e5768 => ?_)
                      dsimp only [List.set]
                      have e5768x := e5768; rw [show (1 : Int32).toInt = 1 from by decide] at e5768x
                      refine ev_goto rfl rfl ?_
                      exact (ih237 v5767 v5768 h5752 (b5768.mono (by decide) (by decide)) hJ5753 z5754 z5755 (L_up hm237 (e_p1 e5768 (by decide))))
                    · have b5765 : B v5762 0 0 := R_eqX (B.any v5762) (by decide : B 0 0 0) c5763
                      have z5766 := congrArg Int32.toInt c5763
                      rw [show (0 : Int32).toInt = 0 from by decide] at z5766
                      refine ev_iconst (v := 0) rfl rfl (by decide) ?_
                      refine ev_goto rfl rfl ?_
                      refine ev_iaddB (l := -2147483648) (u := 2147483647) rfl rfl (B.any w5749) (by decide : B 0 0 0) (by decide) (by decide) (by decide) (by decide) (fun v5769 b5769 e5769 g5769 => ?_)
                      have e5769x := e5769; rw [show (0 : Int32).toInt = 0 from by decide] at e5769x
                      refine ev_istore rfl rfl rfl rfl ?_
                      dsimp only [List.set]
                      refine ev_iincB (y := 1) (l := 1) (u := 12) rfl rfl rfl (by decide) rfl rfl b5760 (by decide : B 1 1 1) (by decide) (by decide) (by decide) (by decide) (fun v5770 b5770 e5770 => ?_)
                      dsimp only [List.set]
                      have e5770x := e5770; rw [show (1 : Int32).toInt = 1 from by decide] at e5770x
                      refine ev_goto rfl rfl ?_
                      exact (ih237 v5769 v5770 h5752 (b5770.mono (by decide) (by decide)) hJ5753 z5754 z5755 (L_up hm237 (e_p1 e5770 (by decide))))
              exact (lp237_5748 13 0 0 h5583 ((by decide : B 0 0 0).mono (by decide) (by decide)) hJ5584 z5585 e5587 (L_init (by decide : B 0 0 0) (by decide)))
            · have b5590 : B w5580 0 23 := R_ltX b5582 b5587 (Int32.not_le.mp c5588) (by decide)
              have b5591 : B v5587 1 24 := R_ltY b5582 b5587 (Int32.not_le.mp c5588) (by decide)
              have z5592 := w_lt (Int32.not_le.mp c5588)
              refine ev_aload_n rfl rfl rfl ?_
              refine ev_aload_n rfl rfl rfl ?_
              refine ev_iload_n rfl rfl rfl ?_
              refine ev_iload rfl rfl rfl ?_
              have z5771 := congrArg Int32.toInt z5585
              refine ev_V2P rfl rfl lk_X10_263 vt_X10_chordAt rfl rfl rfl rfl rfl (w_chordAtK L b h5583 hJ5584.1 a0 w5580 p0 b5590) (fun r5772 q5772 => ?_)
              obtain ⟨b5772, pp5772_0⟩ := q5772
              refine ev_iload_n rfl rfl rfl ?_
              have z5773 := congrArg Int32.toInt z5585
              refine ev_V2P rfl rfl lk_X10_276 vt_X10_moved rfl rfl rfl rfl rfl (w_movedK L b h5583 h h5583 r5772 a1 a0 w5580 a4 a3 hK hI (hB 93 (Int32.toNatClampNeg a3)) (by have q_ := congrArg Int32.toInt e5587; have q2_ := congrArg Int32.toInt (hJ5584.2 73 (Int32.toNatClampNeg a0) rfl); omega) b5590 pp5772_0 (hJ5584.2 74 _ rfl)) (fun r5774 q5774 => ?_)
              obtain ⟨b5774, pp5774_0⟩ := q5774
              refine ev_istore rfl rfl rfl rfl ?_
              dsimp only [List.set]
              refine ev_iload rfl rfl rfl ?_
              refine ev_if_ne rfl rfl (fun c5775 => ?_) (fun c5775 => ?_)
              · have b5776 : B r5774 1 4095 := R_neL b5774 (by decide : B 0 0 0) c5775 (by decide)
                have z5777 := w_ne c5775
                rw [show (0 : Int32).toInt = 0 from by decide] at z5777
                refine ev_aload_n rfl rfl rfl ?_
                refine ev_getR (y := 94) rfl rfl fl_X10_118 rfl rfl rfl rfl ?_
                refine ev_bipush (v := 60) rfl rfl (by decide) ?_
                refine ev_iload rfl rfl rfl ?_
                refine ev_imulB (l := 0) (u := 180) rfl rfl (by decide : B 60 60 60) p3 (by decide) (by decide) (by decide) (by decide) (by decide) (fun v5780 b5780 e5780 g5780 => ?_)
                rw [show (60 : Int32).toInt = 60 from by decide] at e5780
                refine ev_iload rfl rfl rfl ?_
                have b5781 : B a4 (-23) 59 := ⟨(by have z0_ := congrArg Int32.toInt z5585; have z_ := w_lits; have zl_ := l_lits; omega), (by have z0_ := congrArg Int32.toInt z5585; have z_ := w_lits; have zl_ := l_lits; omega)⟩
                refine ev_iaddB (l := -23) (u := 239) rfl rfl b5780 b5781 (by decide) (by decide) (by decide) (by decide) (fun v5782 b5782 e5782 g5782 => ?_)
                refine ev_iload rfl rfl rfl ?_
                refine ev_iaddB (l := -23) (u := 262) rfl rfl b5782 b5590 (by decide) (by decide) (by decide) (by decide) (fun v5783 b5783 e5783 g5783 => ?_)
                have b5784 : B v5783 0 239 := ⟨(by have z0_ := congrArg Int32.toInt z5585; have z_ := w_lits; have zl_ := l_lits; omega), (by have z0_ := congrArg Int32.toInt z5585; have z_ := w_lits; have zl_ := l_lits; omega)⟩
                refine ev_ialW (n := 240) (l := (-2147483648)) (u := 2147483647) hJ5584.1 b5784 (by decide) (by decide) (fun _ => rfl) rfl rfl rfl (fun v5785 b5785 e5785 => ?_)
                refine ev_istore rfl rfl rfl rfl ?_
                dsimp only [List.set]
                refine ev_iload rfl rfl rfl ?_
                refine ev_sipush (v := (-32768)) rfl rfl (by decide) ?_
                refine ev_icmp_eq rfl rfl (fun c5786 => ?_) (fun c5786 => ?_)
                · have b5787 : B v5785 (-32768) (-32768) := R_eqX (B.any v5785) (by decide : B (-32768) (-32768) (-32768)) c5786
                  have z5788 := congrArg Int32.toInt c5786
                  rw [show ((-32768) : Int32).toInt = (-32768) from by decide] at z5788
                  refine ev_aload_n rfl rfl rfl ?_
                  refine ev_iload rfl rfl rfl ?_
                  refine ev_aload_n rfl rfl rfl ?_
                  refine ev_iload rfl rfl rfl ?_
                  refine ev_iload rfl rfl rfl ?_
                  refine ev_V2P rfl rfl lk_X10_332 vt_X10_drawnWith rfl rfl rfl rfl rfl (w_X10_drawnWith_63 L b h5583 hJ5584.1 r5774 a5) (fun r5790 q5790 => ?_)
                  refine ev_V2P rfl rfl lk_X10_297 vt_X10_then rfl rfl rfl rfl rfl (w_X10_then_63 L b h5583 hJ5584.1 w5579 r5790) (fun r5791 q5791 => ?_)
                  refine ev_istore rfl rfl rfl rfl ?_
                  dsimp only [List.set]
                  refine ev_iincB (y := 1) (l := 1) (u := 24) rfl rfl rfl (by decide) rfl rfl b5590 (by decide : B 1 1 1) (by decide) (by decide) (by decide) (by decide) (fun v5792 b5792 e5792 => ?_)
                  dsimp only [List.set]
                  have e5792x := e5792; rw [show (1 : Int32).toInt = 1 from by decide] at e5792x
                  refine ev_goto rfl rfl ?_
                  exact (EvQ.drop 10 (EvQ.drop 9 (ih38 r5791 v5792 h5583 q5791 (b5792.mono (by decide) (by decide)) hJ5584 z5585 (L_up hm38 (e_p1 e5792 (by decide))))))
                · have z5789 := w_ne c5786
                  rw [show ((-32768) : Int32).toInt = (-32768) from by decide] at z5789
                  refine ev_iload rfl rfl rfl ?_
                  refine ev_S1P rfl rfl lk_X10_329 st_X10_lowest rfl rfl (w_lowestK (G0 L b) h5583 r5774 b5776) (fun r5793 q5793 => ?_)
                  refine ev_istore rfl rfl rfl rfl ?_
                  dsimp only [List.set]
                  refine ev_iload rfl rfl rfl ?_
                  refine ev_i2l rfl rfl ?_
                  have z5794 := Int32.toInt_toInt64 v5785
                  have z5794b := B.any v5785
                  refine ev_aload_n rfl rfl rfl ?_
                  refine ev_getR (y := 64) rfl rfl fl_X10_22 rfl rfl rfl rfl ?_
                  refine ev_iload rfl rfl rfl ?_
                  refine ev_ialW (n := 12) (l := (-2147483648)) (u := 2147483647) hJ5584.1 q5793 (by decide) (by decide) (fun _ => rfl) rfl rfl rfl (fun v5795 b5795 e5795 => ?_)
                  refine ev_i2l rfl rfl ?_
                  have z5796 := Int32.toInt_toInt64 v5795
                  have z5796b := B.any v5795
                  refine ev_lsub rfl rfl ?_
                  have z5797 := l_sub (Int32.toInt64 v5785) (Int32.toInt64 v5795) (by have z_ := l_lits; omega) (by have z_ := l_lits; omega) (by have z_ := l_lits; omega) (by have z_ := l_lits; omega)
                  refine ev_aload_n rfl rfl rfl ?_
                  refine ev_getR (y := 68) rfl rfl fl_X10_36 rfl rfl rfl rfl ?_
                  refine ev_iload rfl rfl rfl ?_
                  refine ev_ialW (n := 12) (l := (-2147483648)) (u := 2147483647) hJ5584.1 q5793 (by decide) (by decide) (fun _ => rfl) rfl rfl rfl (fun v5798 b5798 e5798 => ?_)
                  refine ev_i2l rfl rfl ?_
                  have z5799 := Int32.toInt_toInt64 v5798
                  have z5799b := B.any v5798
                  refine ev_lsub rfl rfl ?_
                  have z5800 := l_sub ((Int32.toInt64 v5785) - (Int32.toInt64 v5795)) (Int32.toInt64 v5798) (by have z_ := l_lits; omega) (by have z_ := l_lits; omega) (by have z_ := l_lits; omega) (by have z_ := l_lits; omega)
                  refine ev_aload_n rfl rfl rfl ?_
                  refine ev_getR (y := 66) rfl rfl fl_X10_29 rfl rfl rfl rfl ?_
                  refine ev_iload rfl rfl rfl ?_
                  refine ev_ialW (n := 12) (l := (-2147483648)) (u := 2147483647) hJ5584.1 q5793 (by decide) (by decide) (fun _ => rfl) rfl rfl rfl (fun v5801 b5801 e5801 => ?_)
                  refine ev_iload rfl rfl rfl ?_
                  refine ev_bipush (v := 100) rfl rfl (by decide) ?_
                  refine ev_isubB (l := -100) (u := 100) rfl rfl b5581 (by decide : B 100 100 100) (by decide) (by decide) (by decide) (by decide) (fun v5802 b5802 e5802 g5802 => ?_)
                  have e5802x := e5802; rw [show (100 : Int32).toInt = 100 from by decide] at e5802x
                  refine ev_imulA rfl rfl (fun v5803 => ?_)
                  refine ev_bipush (v := 10) rfl rfl (by decide) ?_
                  refine ev_S2P rfl rfl lk_X10_149 st_X10_down rfl rfl (w_any (c_down (G0 L b) h5583 v5803 10 ((by decide : B 10 10 10).ne0 (by decide)))) (fun r5804 q5804 => ?_)
                  refine ev_i2l rfl rfl ?_
                  have z5805 := Int32.toInt_toInt64 r5804
                  have z5805b := B.any r5804
                  refine ev_lsub rfl rfl ?_
                  have z5806 := l_sub (((Int32.toInt64 v5785) - (Int32.toInt64 v5795)) - (Int32.toInt64 v5798)) (Int32.toInt64 r5804) (by have z_ := l_lits; omega) (by have z_ := l_lits; omega) (by have z_ := l_lits; omega) (by have z_ := l_lits; omega)
                  refine ev_lstore rfl rfl rfl rfl ?_
                  dsimp only [List.set]
                  refine ev_lload rfl rfl rfl ?_
                  refine ev_ldc2 (v := (-200)) rfl rfl kc_X10_179 ?_
                  refine ev_ldc2 (v := 200) rfl rfl kc_X10_143 ?_
                  refine ev_S3P rfl rfl lk_X10_124 st_X10_in rfl rfl (w_in0 (G0 L b) h5583 ((((Int32.toInt64 v5785) - (Int32.toInt64 v5795)) - (Int32.toInt64 v5798)) - (Int32.toInt64 r5804)) (-200) 200) (fun r5807 q5807 => ?_)
                  refine ev_if_eq rfl rfl (fun c5808 => ?_) (fun c5808 => ?_)
                  · have b5809 : B r5807 0 0 := R_eqX q5807 (by decide : B 0 0 0) c5808
                    have z5810 := congrArg Int32.toInt c5808
                    rw [show (0 : Int32).toInt = 0 from by decide] at z5810
                    refine ev_bipush (v := (-4)) rfl rfl (by decide) ?_
                    exact ev_iret rfl rfl rfl ⟨⟨_, rfl, ((by decide : B (-4) (-4) (-4)).mono (by decide) (by decide))⟩, rfl, hJ5584⟩
                  · have b5811 : B r5807 1 1 := R_neL q5807 (by decide : B 0 0 0) c5808 (by decide)
                    have z5812 := w_ne c5808
                    rw [show (0 : Int32).toInt = 0 from by decide] at z5812
                    refine ev_aload_n rfl rfl rfl ?_
                    refine ev_getR (y := 86) rfl rfl fl_X10_91 rfl rfl rfl rfl ?_
                    refine ev_iload rfl rfl rfl ?_
                    refine ev_zalW (n := 12) (l := (-2147483648)) (u := 2147483647) hJ5584.1 q5793 (by decide) (by decide) (fun _ => rfl) rfl rfl rfl (fun v5813 b5813 e5813 => ?_)
                    refine ev_if_eq rfl rfl (fun c5814 => ?_) (fun c5814 => ?_)
                    · have b5815 : B v5813 0 0 := R_eqX (B.any v5813) (by decide : B 0 0 0) c5814
                      have z5816 := congrArg Int32.toInt c5814
                      rw [show (0 : Int32).toInt = 0 from by decide] at z5816
                      refine ev_aload_n rfl rfl rfl ?_
                      refine ev_getR (y := 85) rfl rfl fl_X10_88 rfl rfl rfl rfl ?_
                      refine ev_iload rfl rfl rfl ?_
                      refine ev_lload rfl rfl rfl ?_
                      refine ev_l2i rfl rfl ?_
                      generalize Int64.toInt32 ((((Int32.toInt64 v5785) - (Int32.toInt64 v5795)) - (Int32.toInt64 v5798)) - (Int32.toInt64 r5804)) = v5818
                      refine ev_iasW (n := 12) (l := (-2147483648)) (u := 2147483647) hJ5584 q5793 (by decide) (by decide) (fun _ => rfl) (B.any v5818) (by decide) (by decide) (fun _ => rfl) rfl rfl rfl rfl (fun h5819 hJ5819 k5819 => ?_)
                      refine ev_aload_n rfl rfl rfl ?_
                      refine ev_getR (y := 86) rfl rfl fl_X10_91 rfl rfl rfl rfl ?_
                      refine ev_iload rfl rfl rfl ?_
                      refine ev_iconst (v := 1) rfl rfl (by decide) ?_
                      refine ev_zasW (n := 12) (l := (-2147483648)) (u := 2147483647) hJ5819 q5793 (by decide) (by decide) (fun _ => rfl) ((by decide : B 1 1 1).mono (by decide) (by decide)) (by decide) (by decide) (fun _ => rfl) rfl rfl rfl rfl (fun h5820 hJ5820 k5820 => ?_)
                      refine ev_aload_n rfl rfl rfl ?_
                      refine ev_iload rfl rfl rfl ?_
                      refine ev_aload_n rfl rfl rfl ?_
                      refine ev_iload rfl rfl rfl ?_
                      refine ev_iload rfl rfl rfl ?_
                      refine ev_V2P rfl rfl lk_X10_332 vt_X10_drawnWith rfl rfl rfl rfl rfl (w_X10_drawnWith_63 L b h5820 hJ5820.1 r5774 a5) (fun r5821 q5821 => ?_)
                      refine ev_V2P rfl rfl lk_X10_297 vt_X10_then rfl rfl rfl rfl rfl (w_X10_then_63 L b h5820 hJ5820.1 w5579 r5821) (fun r5822 q5822 => ?_)
                      refine ev_istore rfl rfl rfl rfl ?_
                      dsimp only [List.set]
                      refine ev_iincB (y := 1) (l := 1) (u := 24) rfl rfl rfl (by decide) rfl rfl b5590 (by decide : B 1 1 1) (by decide) (by decide) (by decide) (by decide) (fun v5823 b5823 e5823 => ?_)
                      dsimp only [List.set]
                      have e5823x := e5823; rw [show (1 : Int32).toInt = 1 from by decide] at e5823x
                      refine ev_goto rfl rfl ?_
                      exact (EvQ.drop 12 (EvQ.drop 11 (EvQ.drop 10 (EvQ.drop 9 (ih38 r5822 v5823 h5820 q5822 (b5823.mono (by decide) (by decide)) hJ5820 (rd_a k5820 (rd_a k5819 z5585 rfl) rfl) (L_up hm38 (e_p1 e5823 (by decide))))))))
                    · have z5817 := w_ne c5814
                      rw [show (0 : Int32).toInt = 0 from by decide] at z5817
                      refine ev_aload_n rfl rfl rfl ?_
                      refine ev_getR (y := 85) rfl rfl fl_X10_88 rfl rfl rfl rfl ?_
                      refine ev_iload rfl rfl rfl ?_
                      refine ev_ialW (n := 12) (l := (-2147483648)) (u := 2147483647) hJ5584.1 q5793 (by decide) (by decide) (fun _ => rfl) rfl rfl rfl (fun v5824 b5824 e5824 => ?_)
                      refine ev_i2l rfl rfl ?_
                      have z5825 := Int32.toInt_toInt64 v5824
                      have z5825b := B.any v5824
                      refine ev_lload rfl rfl rfl ?_
                      refine ev_lcmp rfl rfl ?_
                      have z5826 := l_cmp (Int32.toInt64 v5824) ((((Int32.toInt64 v5785) - (Int32.toInt64 v5795)) - (Int32.toInt64 v5798)) - (Int32.toInt64 r5804))
                      generalize lg_cmp (Int32.toInt64 v5824) ((((Int32.toInt64 v5785) - (Int32.toInt64 v5795)) - (Int32.toInt64 v5798)) - (Int32.toInt64 r5804)) = v5826 at z5826 ⊢
                      refine ev_if_eq rfl rfl (fun c5827 => ?_) (fun c5827 => ?_)
                      · have b5828 : B v5826 0 0 := R_eqX (B.any v5826) (by decide : B 0 0 0) c5827
                        have z5829 := congrArg Int32.toInt c5827
                        rw [show (0 : Int32).toInt = 0 from by decide] at z5829
                        refine ev_aload_n rfl rfl rfl ?_
                        refine ev_getR (y := 85) rfl rfl fl_X10_88 rfl rfl rfl rfl ?_
                        refine ev_iload rfl rfl rfl ?_
                        refine ev_lload rfl rfl rfl ?_
                        refine ev_l2i rfl rfl ?_
                        generalize Int64.toInt32 ((((Int32.toInt64 v5785) - (Int32.toInt64 v5795)) - (Int32.toInt64 v5798)) - (Int32.toInt64 r5804)) = v5831
                        refine ev_iasW (n := 12) (l := (-2147483648)) (u := 2147483647) hJ5584 q5793 (by decide) (by decide) (fun _ => rfl) (B.any v5831) (by decide) (by decide) (fun _ => rfl) rfl rfl rfl rfl (fun h5832 hJ5832 k5832 => ?_)
                        refine ev_aload_n rfl rfl rfl ?_
                        refine ev_getR (y := 86) rfl rfl fl_X10_91 rfl rfl rfl rfl ?_
                        refine ev_iload rfl rfl rfl ?_
                        refine ev_iconst (v := 1) rfl rfl (by decide) ?_
                        refine ev_zasW (n := 12) (l := (-2147483648)) (u := 2147483647) hJ5832 q5793 (by decide) (by decide) (fun _ => rfl) ((by decide : B 1 1 1).mono (by decide) (by decide)) (by decide) (by decide) (fun _ => rfl) rfl rfl rfl rfl (fun h5833 hJ5833 k5833 => ?_)
                        refine ev_aload_n rfl rfl rfl ?_
                        refine ev_iload rfl rfl rfl ?_
                        refine ev_aload_n rfl rfl rfl ?_
                        refine ev_iload rfl rfl rfl ?_
                        refine ev_iload rfl rfl rfl ?_
                        refine ev_V2P rfl rfl lk_X10_332 vt_X10_drawnWith rfl rfl rfl rfl rfl (w_X10_drawnWith_63 L b h5833 hJ5833.1 r5774 a5) (fun r5834 q5834 => ?_)
                        refine ev_V2P rfl rfl lk_X10_297 vt_X10_then rfl rfl rfl rfl rfl (w_X10_then_63 L b h5833 hJ5833.1 w5579 r5834) (fun r5835 q5835 => ?_)
                        refine ev_istore rfl rfl rfl rfl ?_
                        dsimp only [List.set]
                        refine ev_iincB (y := 1) (l := 1) (u := 24) rfl rfl rfl (by decide) rfl rfl b5590 (by decide : B 1 1 1) (by decide) (by decide) (by decide) (by decide) (fun v5836 b5836 e5836 => ?_)
                        dsimp only [List.set]
                        have e5836x := e5836; rw [show (1 : Int32).toInt = 1 from by decide] at e5836x
                        refine ev_goto rfl rfl ?_
                        exact (EvQ.drop 12 (EvQ.drop 11 (EvQ.drop 10 (EvQ.drop 9 (ih38 r5835 v5836 h5833 q5835 (b5836.mono (by decide) (by decide)) hJ5833 (rd_a k5833 (rd_a k5832 z5585 rfl) rfl) (L_up hm38 (e_p1 e5836 (by decide))))))))
                      · have z5830 := w_ne c5827
                        rw [show (0 : Int32).toInt = 0 from by decide] at z5830
                        refine ev_bipush (v := (-4)) rfl rfl (by decide) ?_
                        exact ev_iret rfl rfl rfl ⟨⟨_, rfl, ((by decide : B (-4) (-4) (-4)).mono (by decide) (by decide))⟩, rfl, hJ5584⟩
              · have b5778 : B r5774 0 0 := R_eqX b5774 (by decide : B 0 0 0) c5775
                have z5779 := congrArg Int32.toInt c5775
                rw [show (0 : Int32).toInt = 0 from by decide] at z5779
                refine ev_sipush (v := (-32768)) rfl rfl (by decide) ?_
                refine ev_goto rfl rfl ?_
                refine ev_istore rfl rfl rfl rfl ?_
                dsimp only [List.set]
                refine ev_iload rfl rfl rfl ?_
                refine ev_sipush (v := (-32768)) rfl rfl (by decide) ?_
                refine ev_icmp_eq rfl rfl (fun c5837 => ?_) (fun c5837 => absurd (D_eq (by decide : B (-32768) (-32768) (-32768)) (by decide : B (-32768) (-32768) (-32768))) c5837)
                have z5838 := congrArg Int32.toInt c5837
                rw [show ((-32768) : Int32).toInt = (-32768) from by decide] at z5838
                refine ev_aload_n rfl rfl rfl ?_
                refine ev_iload rfl rfl rfl ?_
                refine ev_aload_n rfl rfl rfl ?_
                refine ev_iload rfl rfl rfl ?_
                refine ev_iload rfl rfl rfl ?_
                refine ev_V2P rfl rfl lk_X10_332 vt_X10_drawnWith rfl rfl rfl rfl rfl (w_X10_drawnWith_63 L b h5583 hJ5584.1 r5774 a5) (fun r5839 q5839 => ?_)
                refine ev_V2P rfl rfl lk_X10_297 vt_X10_then rfl rfl rfl rfl rfl (w_X10_then_63 L b h5583 hJ5584.1 w5579 r5839) (fun r5840 q5840 => ?_)
                refine ev_istore rfl rfl rfl rfl ?_
                dsimp only [List.set]
                refine ev_iincB (y := 1) (l := 1) (u := 24) rfl rfl rfl (by decide) rfl rfl b5590 (by decide : B 1 1 1) (by decide) (by decide) (by decide) (by decide) (fun v5841 b5841 e5841 => ?_)
                dsimp only [List.set]
                have e5841x := e5841; rw [show (1 : Int32).toInt = 1 from by decide] at e5841x
                refine ev_goto rfl rfl ?_
                exact (EvQ.drop 10 (EvQ.drop 9 (ih38 r5840 v5841 h5583 q5840 (b5841.mono (by decide) (by decide)) hJ5584 z5585 (L_up hm38 (e_p1 e5841 (by decide))))))
        exact (lp38_5578 25 a2 0 h4188 p2 ((by decide : B 0 0 0).mono (by decide) (by decide)) hJ4189 z4190 (L_init (by decide : B 0 0 0) (by decide)))
      · have b4195 : B w4186 0 11 := R_ltX b4187 (by decide : B 12 12 12) (Int32.not_le.mp c4192) (by decide)
        have z4196 := w_lt (Int32.not_le.mp c4192)
        rw [show (12 : Int32).toInt = 12 from by decide] at z4196
        refine ev_aload_n rfl rfl rfl ?_
        refine ev_getR (y := 86) rfl rfl fl_X10_91 rfl rfl rfl rfl ?_
        refine ev_iload rfl rfl rfl ?_
        refine ev_iconst (v := 0) rfl rfl (by decide) ?_
        refine ev_zasW (n := 12) (l := (-2147483648)) (u := 2147483647) hJ4189 b4195 (by decide) (by decide) (fun _ => rfl) ((by decide : B 0 0 0).mono (by decide) (by decide)) (by decide) (by decide) (fun _ => rfl) rfl rfl rfl rfl (fun h5842 hJ5842 k5842 => ?_)
        refine ev_aload_n rfl rfl rfl ?_
        refine ev_getR (y := 85) rfl rfl fl_X10_88 rfl rfl rfl rfl ?_
        refine ev_iload rfl rfl rfl ?_
        refine ev_iconst (v := 0) rfl rfl (by decide) ?_
        refine ev_iasW (n := 12) (l := (-2147483648)) (u := 2147483647) hJ5842 b4195 (by decide) (by decide) (fun _ => rfl) (by decide : B 0 0 0) (by decide) (by decide) (fun _ => rfl) rfl rfl rfl rfl (fun h5843 hJ5843 k5843 => ?_)
        refine ev_iincB (y := 1) (l := 1) (u := 12) rfl rfl rfl (by decide) rfl rfl b4195 (by decide : B 1 1 1) (by decide) (by decide) (by decide) (by decide) (fun v5844 b5844 e5844 => ?_)
        dsimp only [List.set]
        have e5844x := e5844; rw [show (1 : Int32).toInt = 1 from by decide] at e5844x
        refine ev_goto rfl rfl ?_
        exact (ih3 v5844 h5843 (b5844.mono (by decide) (by decide)) hJ5843 (rd_a k5843 (rd_a k5842 z4190 rfl) rfl) (L_up hm3 (e_p1 e5844 (by decide))))
  exact (lp3_4185 13 0 h ((by decide : B 0 0 0).mono (by decide) (by decide)) hJ0 ef1 (L_init (by decide : B 0 0 0) (by decide)))

set_option maxRecDepth 100000 in
set_option maxHeartbeats 4000000 in
theorem w_X10_blame_63 (L : Nat) (b : Bool) (h : Hp) (hB : Bx h) (a0 : Int32) (a1 : Int32) (a2 : Int32) (a3 : Int32) (a4 : Int32) (a5 : Int32) (a6 : Int32) : EvJ mi_X10_blame [.ref 63, .int a0, .int a1, .int a2, .int a3, .int a4, .int a5, .int a6] (G0 L b) h (fun r : Int32 => B r (-2147483648) 2147483647) [(85, 999), (86, 999), (87, 999)] := by
  refine EvM.of2 (lo := [some (.ref 63), some (.int a0), some (.int a1), some (.int a2), some (.int a3), some (.int a4), some (.int a5), some (.int a6), none, none, none, none, none, none, none]) pf_X10_blame ok_X10_blame rfl rfl ?_
  have hJ0 : JW [(85, 999), (86, 999), (87, 999)] h h := JW.refl hB
  obtain ⟨f1, ef1⟩ : ∃ f_, h 63 3 = f_ := ⟨_, rfl⟩
  have bf1 : B f1 0 200 := by have z_ := hJ0.1 63 3; rw [ef1] at z_; exact z_
  have zf1 := congrArg Int32.toInt ef1
  refine ev_aload_n rfl rfl rfl ?_
  refine ev_iload_n rfl rfl rfl ?_
  refine ev_V1P rfl rfl lk_X10_266 vt_X10_isTune rfl rfl rfl rfl rfl (w_X10_isTune_63 L b h hJ0.1 a0) (fun r2 q2 => ?_)
  obtain ⟨b2, p2_0⟩ := q2
  refine ev_if_eq rfl rfl (fun c3 => ?_) (fun c3 => ?_)
  · have b4 : B r2 0 0 := R_eqX b2 (by decide : B 0 0 0) c3
    have z5 := congrArg Int32.toInt c3
    rw [show (0 : Int32).toInt = 0 from by decide] at z5
    refine ev_sipush (v := (-1000)) rfl rfl (by decide) ?_
    exact ev_iret rfl rfl rfl ⟨⟨_, rfl, ((by decide : B (-1000) (-1000) (-1000)).mono (by decide) (by decide))⟩, rfl, hJ0⟩
  · have b6 : B r2 1 1 := R_neL b2 (by decide : B 0 0 0) c3 (by decide)
    have b7 : B a0 0 5 := p2_0 c3
    have z8 := w_ne c3
    rw [show (0 : Int32).toInt = 0 from by decide] at z8
    refine ev_iload_n rfl rfl rfl ?_
    refine ev_i2l rfl rfl ?_
    have z9 := Int32.toInt_toInt64 a1
    have z9b := B.any a1
    refine ev_ldc2 (v := (-11)) rfl rfl kc_X10_282 ?_
    refine ev_ldc2 (v := 11) rfl rfl kc_X10_284 ?_
    have z10 := congrArg Int32.toInt ef1
    refine ev_S3P rfl rfl lk_X10_124 st_X10_in rfl rfl (w_inR (G0 L b) h a1 (-11) 11 (by decide : BL (-11) (-11) (-11)) (by decide : BL 11 11 11)) (fun r11 q11 => ?_)
    obtain ⟨b11, p11_0, pp11_0, pp11_1⟩ := q11
    refine ev_if_eq rfl rfl (fun c12 => ?_) (fun c12 => ?_)
    · have b13 : B r11 0 0 := R_eqX b11 (by decide : B 0 0 0) c12
      have z14 := congrArg Int32.toInt c12
      rw [show (0 : Int32).toInt = 0 from by decide] at z14
      refine ev_sipush (v := (-1000)) rfl rfl (by decide) ?_
      exact ev_iret rfl rfl rfl ⟨⟨_, rfl, ((by decide : B (-1000) (-1000) (-1000)).mono (by decide) (by decide))⟩, rfl, hJ0⟩
    · have b15 : B r11 1 1 := R_neL b11 (by decide : B 0 0 0) c12 (by decide)
      have b16 : B a1 (-11) 11 := p11_0 c12
      have z17 := w_ne c12
      rw [show (0 : Int32).toInt = 0 from by decide] at z17
      refine ev_iload_n rfl rfl rfl ?_
      refine ev_i2l rfl rfl ?_
      have z18 := Int32.toInt_toInt64 a2
      have z18b := B.any a2
      refine ev_lconst (v := 0) rfl rfl rfl ?_
      refine ev_aload_n rfl rfl rfl ?_
      refine ev_getV (v := f1) rfl rfl fl_X10_19 rfl rfl rfl ef1 ?_
      refine ev_i2l rfl rfl ?_
      have z19 := Int32.toInt_toInt64 f1
      have z19b := B.any f1
      have z20 := congrArg Int32.toInt ef1
      refine ev_S3P rfl rfl lk_X10_124 st_X10_in rfl rfl (w_inV (G0 L b) h a2 0 f1 (by decide : BL 0 0 0) bf1) (fun r21 q21 => ?_)
      obtain ⟨b21, p21_0, pp21_0⟩ := q21
      refine ev_if_eq rfl rfl (fun c22 => ?_) (fun c22 => ?_)
      · have b23 : B r21 0 0 := R_eqX b21 (by decide : B 0 0 0) c22
        have z24 := congrArg Int32.toInt c22
        rw [show (0 : Int32).toInt = 0 from by decide] at z24
        refine ev_sipush (v := (-1000)) rfl rfl (by decide) ?_
        exact ev_iret rfl rfl rfl ⟨⟨_, rfl, ((by decide : B (-1000) (-1000) (-1000)).mono (by decide) (by decide))⟩, rfl, hJ0⟩
      · have b25 : B r21 1 1 := R_neL b21 (by decide : B 0 0 0) c22 (by decide)
        have b26 : B a2 0 200 := p21_0 c22
        have z27 := w_ne c22
        rw [show (0 : Int32).toInt = 0 from by decide] at z27
        refine ev_iload rfl rfl rfl ?_
        refine ev_iload rfl rfl rfl ?_
        refine ev_S2P rfl rfl lk_X10_335 st_X10_isSheet rfl rfl (w_X10_isSheet L b h hJ0.1 a3 a4) (fun r28 q28 => ?_)
        obtain ⟨b28, p28_0, p28_1⟩ := q28
        refine ev_if_eq rfl rfl (fun c29 => ?_) (fun c29 => ?_)
        · have b30 : B r28 0 0 := R_eqX b28 (by decide : B 0 0 0) c29
          have z31 := congrArg Int32.toInt c29
          rw [show (0 : Int32).toInt = 0 from by decide] at z31
          refine ev_sipush (v := (-1000)) rfl rfl (by decide) ?_
          exact ev_iret rfl rfl rfl ⟨⟨_, rfl, ((by decide : B (-1000) (-1000) (-1000)).mono (by decide) (by decide))⟩, rfl, hJ0⟩
        · have b32 : B r28 1 1 := R_neL b28 (by decide : B 0 0 0) c29 (by decide)
          have b33 : B a3 0 3 := p28_0 c29
          have b34 : B a4 0 2 := p28_1 c29
          have z35 := w_ne c29
          rw [show (0 : Int32).toInt = 0 from by decide] at z35
          refine ev_iload rfl rfl rfl ?_
          refine ev_i2l rfl rfl ?_
          have z36 := Int32.toInt_toInt64 a6
          have z36b := B.any a6
          refine ev_lconst (v := 0) rfl rfl rfl ?_
          refine ev_ldc2 (v := 2) rfl rfl kc_X10_183 ?_
          have z37 := congrArg Int32.toInt ef1
          refine ev_S3P rfl rfl lk_X10_124 st_X10_in rfl rfl (w_inR (G0 L b) h a6 0 2 (by decide : BL 0 0 0) (by decide : BL 2 2 2)) (fun r38 q38 => ?_)
          obtain ⟨b38, p38_0, pp38_0, pp38_1⟩ := q38
          refine ev_if_ne rfl rfl (fun c39 => ?_) (fun c39 => ?_)
          · have b40 : B r38 1 1 := R_neL b38 (by decide : B 0 0 0) c39 (by decide)
            have b41 : B a6 0 2 := p38_0 c39
            have z42 := w_ne c39
            rw [show (0 : Int32).toInt = 0 from by decide] at z42
            refine ev_aload_n rfl rfl rfl ?_
            refine ev_iload_n rfl rfl rfl ?_
            refine ev_iload_n rfl rfl rfl ?_
            have z45 := congrArg Int32.toInt ef1
            refine ev_V2P rfl rfl lk_X10_286 vt_X10_isIn rfl rfl rfl rfl rfl (w_isInK L b h hJ0.1 a0 a1 b7) (fun r46 q46 => ?_)
            obtain ⟨b46, pp46_0⟩ := q46
            refine ev_if_ne rfl rfl (fun c47 => ?_) (fun c47 => ?_)
            · have b48 : B r46 1 1 := R_neL b46 (by decide : B 0 0 0) c47 (by decide)
              have z49 := w_ne c47
              rw [show (0 : Int32).toInt = 0 from by decide] at z49
              refine ev_aload_n rfl rfl rfl ?_
              refine ev_getR (y := 92) rfl rfl fl_X10_112 rfl rfl rfl rfl ?_
              refine ev_iload rfl rfl rfl ?_
              refine ev_ialW (n := 4) (l := (-2147483648)) (u := 2147483647) hJ0.1 b33 (by decide) (by decide) (fun _ => rfl) rfl rfl rfl (fun v52 b52 e52 => ?_)
              refine ev_iload rfl rfl rfl ?_
              refine ev_icmp_eq rfl rfl (fun c53 => ?_) (fun c53 => ?_)
              · have b54 : B v52 0 2 := R_eqX (B.any v52) b34 c53
                have z55 := congrArg Int32.toInt c53
                refine ev_iconst (v := 0) rfl rfl (by decide) ?_
                refine ev_istore rfl rfl rfl rfl ?_
                dsimp only [List.set]
                have lp133_13660 : ∀ (n : Nat) (w13661 : Int32) (h13663 : Hp), B w13661 0 24 → JW [(85, 999), (86, 999), (87, 999)] h h13663 → (h13663 63 3 = f1) → (h13663 92 (Int32.toNatClampNeg a3) = v52) → (IXP h a0 a3 a5 w13661) → 24 + 1 - w13661.toInt ≤ (n : Int) → EvQ mi_X10_blame 133 [some (.ref 63), some (.int a0), some (.int a1), some (.int a2), some (.int a3), some (.int a4), some (.int a5), some (.int a6), some (.int w13661), none, none, none, none, none, none] [] (G0 L b) h13663 0 0 (QJ (fun r : Int32 => B r (-2147483648) 2147483647) [(85, 999), (86, 999), (87, 999)] (G0 L b) h) := by
                  intro n
                  induction n with
                  | zero =>
                    intro w13661 h13663 b13662 hJ13664 z13665 z13666 u133_0 hm133
                    exact absurd hm133 (L_zero b13662 (by decide))
                  | succ n ih133 =>
                    intro w13661 h13663 b13662 hJ13664 z13665 z13666 u133_0 hm133
                    have z13667 := congrArg Int32.toInt z13665
                    refine ev_iload rfl rfl rfl ?_
                    refine ev_aload_n rfl rfl rfl ?_
                    refine ev_getR (y := 73) rfl rfl fl_X10_51 rfl rfl rfl rfl ?_
                    refine ev_iload_n rfl rfl rfl ?_
                    refine ev_ialW (n := 6) (l := 0) (u := 24) hJ13664.1 b7 (by decide) (by decide) (fun _ => rfl) rfl rfl rfl (fun v13668 b13668 e13668 => ?_)
                    refine ev_icmp_ge rfl rfl (fun c13669 => ?_) (fun c13669 => ?_)
                    · have z13670 := w_le c13669
                      refine ev_bipush (v := (-4)) rfl rfl (by decide) ?_
                      refine ev_istore rfl rfl rfl rfl ?_
                      dsimp only [List.set]
                      refine ev_bipush (v := (-4)) rfl rfl (by decide) ?_
                      refine ev_istore rfl rfl rfl rfl ?_
                      dsimp only [List.set]
                      refine ev_iconst (v := (-1)) rfl rfl (by decide) ?_
                      refine ev_istore rfl rfl rfl rfl ?_
                      dsimp only [List.set]
                      have lp199_15914 : ∀ (n : Nat) (w15915 : Int32) (w15916 : Int32) (w15917 : Int32) (h15921 : Hp), B w15915 (-4) 2147483647 → B w15916 (-4) 12 → B w15917 (-1) 12 → JW [(85, 999), (86, 999), (87, 999)] h h15921 → (h15921 63 3 = f1) → (h15921 92 (Int32.toNatClampNeg a3) = v52) → (h15921 73 (Int32.toNatClampNeg a0) = v13668) → 12 + 1 - w15917.toInt ≤ (n : Int) → EvQ mi_X10_blame 199 [some (.ref 63), some (.int a0), some (.int a1), some (.int a2), some (.int a3), some (.int a4), some (.int a5), some (.int a6), some (.int w15915), some (.int w15916), some (.int w15917), none, none, none, none] [] (G0 L b) h15921 0 0 (QJ (fun r : Int32 => B r (-2147483648) 2147483647) [(85, 999), (86, 999), (87, 999)] (G0 L b) h) := by
                        intro n
                        induction n with
                        | zero =>
                          intro w15915 w15916 w15917 h15921 b15918 b15919 b15920 hJ15922 z15923 z15924 z15925 hm199
                          exact absurd hm199 (L_zero b15920 (by decide))
                        | succ n ih199 =>
                          intro w15915 w15916 w15917 h15921 b15918 b15919 b15920 hJ15922 z15923 z15924 z15925 hm199
                          have z15926 := congrArg Int32.toInt z15923
                          refine ev_iload rfl rfl rfl ?_
                          refine ev_aload_n rfl rfl rfl ?_
                          refine ev_getW (l := 0) (u := 12) hJ15922.1 rfl rfl rfl fl_X10_121 rfl rfl rfl (fun v15927 b15927 e15927 => ?_)
                          refine ev_icmp_ge rfl rfl (fun c15928 => ?_) (fun c15928 => ?_)
                          · have b15929 : B w15917 0 12 := R_leY b15927 b15920 c15928 (by decide)
                            have z15930 := w_le c15928
                            refine ev_iload rfl rfl rfl ?_
                            refine ev_bipush (v := (-4)) rfl rfl (by decide) ?_
                            refine ev_icmp_ne rfl rfl (fun c15933 => ?_) (fun c15933 => ?_)
                            · have b15934 : B w15915 (-3) 2147483647 := R_neL b15918 (by decide : B (-4) (-4) (-4)) c15933 (by decide)
                              have z15935 := w_ne c15933
                              rw [show ((-4) : Int32).toInt = (-4) from by decide] at z15935
                              refine ev_iconst (v := 0) rfl rfl (by decide) ?_
                              refine ev_istore rfl rfl rfl rfl ?_
                              dsimp only [List.set]
                              refine ev_iconst (v := 0) rfl rfl (by decide) ?_
                              refine ev_istore rfl rfl rfl rfl ?_
                              dsimp only [List.set]
                              have lp342_16054 : ∀ (n : Nat) (w16055 : Int32) (w16056 : Int32) (h16059 : Hp), B w16055 0 4095 → B w16056 0 12 → JW [(85, 999), (86, 999), (87, 999)] h h16059 → (h16059 63 3 = f1) → (h16059 92 (Int32.toNatClampNeg a3) = v52) → (h16059 73 (Int32.toNatClampNeg a0) = v13668) → (h16059 63 5 = v15927) → 12 + 1 - w16056.toInt ≤ (n : Int) → EvQ mi_X10_blame 342 [some (.ref 63), some (.int a0), some (.int a1), some (.int a2), some (.int a3), some (.int a4), some (.int a5), some (.int a6), some (.int w15915), some (.int w15916), some (.int w16055), some (.int w16056), none, none, none] [] (G0 L b) h16059 0 0 (QJ (fun r : Int32 => B r (-2147483648) 2147483647) [(85, 999), (86, 999), (87, 999)] (G0 L b) h) := by
                                intro n
                                induction n with
                                | zero =>
                                  intro w16055 w16056 h16059 b16057 b16058 hJ16060 z16061 z16062 z16063 z16064 hm342
                                  exact absurd hm342 (L_zero b16058 (by decide))
                                | succ n ih342 =>
                                  intro w16055 w16056 h16059 b16057 b16058 hJ16060 z16061 z16062 z16063 z16064 hm342
                                  have z16065 := congrArg Int32.toInt z16061
                                  refine ev_iload rfl rfl rfl ?_
                                  refine ev_bipush (v := 12) rfl rfl (by decide) ?_
                                  refine ev_icmp_ge rfl rfl (fun c16066 => ?_) (fun c16066 => ?_)
                                  · have b16067 : B w16056 12 12 := R_leY (by decide : B 12 12 12) b16058 c16066 (by decide)
                                    have z16068 := w_le c16066
                                    rw [show (12 : Int32).toInt = 12 from by decide] at z16068
                                    refine ev_iload rfl rfl rfl ?_
                                    refine ev_if_ne rfl rfl (fun c16071 => ?_) (fun c16071 => ?_)
                                    · have b16072 : B a6 1 2 := R_neL b41 (by decide : B 0 0 0) c16071 (by decide)
                                      have z16073 := w_ne c16071
                                      rw [show (0 : Int32).toInt = 0 from by decide] at z16073
                                      refine ev_iload rfl rfl rfl ?_
                                      refine ev_iconst (v := 1) rfl rfl (by decide) ?_
                                      refine ev_icmp_ne rfl rfl (fun c16076 => ?_) (fun c16076 => ?_)
                                      · have b16077 : B a6 2 2 := R_neL b16072 (by decide : B 1 1 1) c16076 (by decide)
                                        have z16078 := w_ne c16076
                                        rw [show (1 : Int32).toInt = 1 from by decide] at z16078
                                        refine ev_iload rfl rfl rfl ?_
                                        refine ev_iconst (v := 2) rfl rfl (by decide) ?_
                                        refine ev_icmp_ne rfl rfl (fun c16081 => absurd (D_eq b16077 (by decide : B 2 2 2)) c16081) (fun c16081 => ?_)
                                        have z16082 := congrArg Int32.toInt c16081
                                        rw [show (2 : Int32).toInt = 2 from by decide] at z16082
                                        refine ev_iload rfl rfl rfl ?_
                                        refine ev_goto rfl rfl ?_
                                        exact ev_iret rfl rfl rfl ⟨⟨_, rfl, (b16057.mono (by decide) (by decide))⟩, rfl, hJ16060⟩
                                      · have b16079 : B a6 1 1 := R_eqX b16072 (by decide : B 1 1 1) c16076
                                        have z16080 := congrArg Int32.toInt c16076
                                        rw [show (1 : Int32).toInt = 1 from by decide] at z16080
                                        refine ev_iload rfl rfl rfl ?_
                                        refine ev_goto rfl rfl ?_
                                        exact ev_iret rfl rfl rfl ⟨⟨_, rfl, (b15919.mono (by decide) (by decide))⟩, rfl, hJ16060⟩
                                    · have b16074 : B a6 0 0 := R_eqX b41 (by decide : B 0 0 0) c16071
                                      have z16075 := congrArg Int32.toInt c16071
                                      rw [show (0 : Int32).toInt = 0 from by decide] at z16075
                                      refine ev_iload rfl rfl rfl ?_
                                      refine ev_goto rfl rfl ?_
                                      exact ev_iret rfl rfl rfl ⟨⟨_, rfl, (b15934.mono (by decide) (by decide))⟩, rfl, hJ16060⟩
                                  · have b16069 : B w16056 0 11 := R_ltX b16058 (by decide : B 12 12 12) (Int32.not_le.mp c16066) (by decide)
                                    have z16070 := w_lt (Int32.not_le.mp c16066)
                                    rw [show (12 : Int32).toInt = 12 from by decide] at z16070
                                    refine ev_iload rfl rfl rfl ?_
                                    refine ev_aload_n rfl rfl rfl ?_
                                    refine ev_getR (y := 87) rfl rfl fl_X10_94 rfl rfl rfl rfl ?_
                                    refine ev_iload rfl rfl rfl ?_
                                    refine ev_ialW (n := 12) (l := (-2147483648)) (u := 2147483647) hJ16060.1 b16069 (by decide) (by decide) (fun _ => rfl) rfl rfl rfl (fun v16083 b16083 e16083 => ?_)
                                    refine ev_if_ne rfl rfl (fun c16084 => ?_) (fun c16084 => ?_)
                                    · have z16085 := w_ne c16084
                                      rw [show (0 : Int32).toInt = 0 from by decide] at z16085
                                      refine ev_iconst (v := 1) rfl rfl (by decide) ?_
                                      refine ev_iload rfl rfl rfl ?_
                                      refine ev_ishlB rfl rfl b16069 (by decide) (by decide) (fun v16088 b16088 => ?_)
                                      refine ev_iorB 12 (u := 4095) rfl rfl b16057 b16088 (by decide) (by decide) (by decide) (by decide) (by decide) (by decide) (fun v16089 b16089 e16089 => ?_)
                                      refine ev_istore rfl rfl rfl rfl ?_
                                      dsimp only [List.set]
                                      refine ev_iincB (y := 1) (l := 1) (u := 12) rfl rfl rfl (by decide) rfl rfl b16069 (by decide : B 1 1 1) (by decide) (by decide) (by decide) (by decide) (fun v16090 b16090 e16090 => ?_)
                                      dsimp only [List.set]
                                      have e16090x := e16090; rw [show (1 : Int32).toInt = 1 from by decide] at e16090x
                                      refine ev_goto rfl rfl ?_
                                      exact (ih342 v16089 v16090 h16059 b16089 (b16090.mono (by decide) (by decide)) hJ16060 z16061 z16062 z16063 z16064 (L_up hm342 (e_p1 e16090 (by decide))))
                                    · have b16086 : B v16083 0 0 := R_eqX (B.any v16083) (by decide : B 0 0 0) c16084
                                      have z16087 := congrArg Int32.toInt c16084
                                      rw [show (0 : Int32).toInt = 0 from by decide] at z16087
                                      refine ev_iconst (v := 0) rfl rfl (by decide) ?_
                                      refine ev_goto rfl rfl ?_
                                      refine ev_iorB 12 (u := 4095) rfl rfl b16057 (by decide : B 0 0 0) (by decide) (by decide) (by decide) (by decide) (by decide) (by decide) (fun v16091 b16091 e16091 => ?_)
                                      refine ev_istore rfl rfl rfl rfl ?_
                                      dsimp only [List.set]
                                      refine ev_iincB (y := 1) (l := 1) (u := 12) rfl rfl rfl (by decide) rfl rfl b16069 (by decide : B 1 1 1) (by decide) (by decide) (by decide) (by decide) (fun v16092 b16092 e16092 => ?_)
                                      dsimp only [List.set]
                                      have e16092x := e16092; rw [show (1 : Int32).toInt = 1 from by decide] at e16092x
                                      refine ev_goto rfl rfl ?_
                                      exact (ih342 v16091 v16092 h16059 b16091 (b16092.mono (by decide) (by decide)) hJ16060 z16061 z16062 z16063 z16064 (L_up hm342 (e_p1 e16092 (by decide))))
                              exact (lp342_16054 13 0 0 h15921 ((by decide : B 0 0 0).mono (by decide) (by decide)) ((by decide : B 0 0 0).mono (by decide) (by decide)) hJ15922 z15923 z15924 z15925 e15927 (L_init (by decide : B 0 0 0) (by decide)))
                            · have b15936 : B w15915 (-4) (-4) := R_eqX b15918 (by decide : B (-4) (-4) (-4)) c15933
                              have z15937 := congrArg Int32.toInt c15933
                              rw [show ((-4) : Int32).toInt = (-4) from by decide] at z15937
                              refine ev_sipush (v := (-1004)) rfl rfl (by decide) ?_
                              exact ev_iret rfl rfl rfl ⟨⟨_, rfl, ((by decide : B (-1004) (-1004) (-1004)).mono (by decide) (by decide))⟩, rfl, hJ15922⟩
                          · have b15931 : B w15917 (-1) 11 := R_ltX b15920 b15927 (Int32.not_le.mp c15928) (by decide)
                            have z15932 := w_lt (Int32.not_le.mp c15928)
                            refine ev_iload rfl rfl rfl ?_
                            refine ev_if_ge rfl rfl (fun c16093 => ?_) (fun c16093 => ?_)
                            · have b16094 : B w15917 0 11 := R_leY (by decide : B 0 0 0) b15931 c16093 (by decide)
                              have z16095 := w_le c16093
                              rw [show (0 : Int32).toInt = 0 from by decide] at z16095
                              refine ev_iload rfl rfl rfl ?_
                              refine ev_istore rfl rfl rfl rfl ?_
                              dsimp only [List.set]
                              refine ev_aload_n rfl rfl rfl ?_
                              refine ev_iload_n rfl rfl rfl ?_
                              refine ev_iload_n rfl rfl rfl ?_
                              refine ev_iload_n rfl rfl rfl ?_
                              refine ev_iload rfl rfl rfl ?_
                              refine ev_iload rfl rfl rfl ?_
                              refine ev_iload rfl rfl rfl ?_
                              refine ev_V6J hJ15922 rfl rfl rfl lk_X10_338 vt_X10_explains rfl rfl rfl rfl rfl (w_X10_explains_63 L b h15921 hJ15922.1 a0 b7 a1 b16 a2 b26 a3 b33 a5 w15917 (KM.keep (pp46_0 c47 b16) hJ15922 (fun _ => rfl) (fun _ => rfl)) (IXP.keep (IXP.all u133_0 (by have q_ := congrArg Int32.toInt z15925; have q2_ := congrArg Int32.toInt (hJ15922.2 73 (Int32.toNatClampNeg a0) rfl); omega)) hJ15922 (fun _ => rfl) (fun _ => rfl) (fun _ => rfl))) (fun r16098 h16098 q16098 hJ16098 k16098 => ?_)
                              refine ev_istore rfl rfl rfl rfl ?_
                              dsimp only [List.set]
                              refine ev_iload rfl rfl rfl ?_
                              refine ev_if_ge rfl rfl (fun c16099 => ?_) (fun c16099 => ?_)
                              · have b16100 : B r16098 0 2147483647 := R_leY (by decide : B 0 0 0) (B.any r16098) c16099 (by decide)
                                have z16101 := w_le c16099
                                rw [show (0 : Int32).toInt = 0 from by decide] at z16101
                                refine ev_iload rfl rfl rfl ?_
                                refine ev_iload rfl rfl rfl ?_
                                refine ev_if_ge rfl rfl (fun c16104 => ?_) (fun c16104 => absurd (D_le (by decide : B 0 0 0) b16094 (by decide)) c16104)
                                have z16105 := w_le c16104
                                rw [show (0 : Int32).toInt = 0 from by decide] at z16105
                                refine ev_iconst (v := 1) rfl rfl (by decide) ?_
                                refine ev_iaddA rfl rfl (fun v16106 g16106 => ?_)
                                refine ev_istore rfl rfl rfl rfl ?_
                                dsimp only [List.set]
                                refine ev_iload rfl rfl rfl ?_
                                refine ev_if_lt rfl rfl (fun c16107 => ?_) (fun c16107 => ?_)
                                · have b16108 : B v16106 (-2147483648) (-1) := R_ltX (B.any v16106) (by decide : B 0 0 0) c16107 (by decide)
                                  have z16109 := w_lt c16107
                                  rw [show (0 : Int32).toInt = 0 from by decide] at z16109
                                  refine ev_iincB (y := 1) (l := 1) (u := 12) rfl rfl rfl (by decide) rfl rfl b16094 (by decide : B 1 1 1) (by decide) (by decide) (by decide) (by decide) (fun v16112 b16112 e16112 => ?_)
                                  dsimp only [List.set]
                                  have e16112x := e16112; rw [show (1 : Int32).toInt = 1 from by decide] at e16112x
                                  refine ev_goto rfl rfl ?_
                                  exact (EvQ.drop 13 (EvQ.drop 12 (EvQ.drop 11 (ih199 w15915 w15916 v16112 h16098 b15918 b15919 (b16112.mono (by decide) (by decide)) hJ16098 (rd_w k16098 z15923 rfl) (rd_w k16098 z15924 rfl) (rd_w k16098 z15925 rfl) (L_up hm199 (e_p1 e16112 (by decide)))))))
                                · have b16110 : B v16106 0 2147483647 := R_leY (by decide : B 0 0 0) (B.any v16106) (Int32.not_lt.mp c16107) (by decide)
                                  have z16111 := w_le (Int32.not_lt.mp c16107)
                                  rw [show (0 : Int32).toInt = 0 from by decide] at z16111
                                  refine ev_iload rfl rfl rfl ?_
                                  refine ev_bipush (v := (-4)) rfl rfl (by decide) ?_
                                  refine ev_icmp_eq rfl rfl (fun c16113 => ?_) (fun c16113 => ?_)
                                  · have b16114 : B w15915 (-4) (-4) := R_eqX b15918 (by decide : B (-4) (-4) (-4)) c16113
                                    have z16115 := congrArg Int32.toInt c16113
                                    rw [show ((-4) : Int32).toInt = (-4) from by decide] at z16115
                                    refine ev_iload rfl rfl rfl ?_
                                    refine ev_istore rfl rfl rfl rfl ?_
                                    dsimp only [List.set]
                                    refine ev_iload rfl rfl rfl ?_
                                    refine ev_istore rfl rfl rfl rfl ?_
                                    dsimp only [List.set]
                                    refine ev_iconst (v := 0) rfl rfl (by decide) ?_
                                    refine ev_istore rfl rfl rfl rfl ?_
                                    dsimp only [List.set]
                                    have lp292_16161 : ∀ (n : Nat) (w16162 : Int32) (h16164 : Hp), B w16162 0 12 → JW [(85, 999), (86, 999), (87, 999)] h h16164 → (h16164 63 3 = f1) → (h16164 92 (Int32.toNatClampNeg a3) = v52) → (h16164 73 (Int32.toNatClampNeg a0) = v13668) → (h16164 63 5 = v15927) → 12 + 1 - w16162.toInt ≤ (n : Int) → EvQ mi_X10_blame 292 [some (.ref 63), some (.int a0), some (.int a1), some (.int a2), some (.int a3), some (.int a4), some (.int a5), some (.int a6), some (.int v16106), some (.int w15917), some (.int w15917), some (.int w15917), some (.int r16098), some (.int v16106), some (.int w16162)] [] (G0 L b) h16164 0 0 (QJ (fun r : Int32 => B r (-2147483648) 2147483647) [(85, 999), (86, 999), (87, 999)] (G0 L b) h) := by
                                      intro n
                                      induction n with
                                      | zero =>
                                        intro w16162 h16164 b16163 hJ16165 z16166 z16167 z16168 z16169 hm292
                                        exact absurd hm292 (L_zero b16163 (by decide))
                                      | succ n ih292 =>
                                        intro w16162 h16164 b16163 hJ16165 z16166 z16167 z16168 z16169 hm292
                                        have z16170 := congrArg Int32.toInt z16166
                                        refine ev_iload rfl rfl rfl ?_
                                        refine ev_bipush (v := 12) rfl rfl (by decide) ?_
                                        refine ev_icmp_ge rfl rfl (fun c16171 => ?_) (fun c16171 => ?_)
                                        · have b16172 : B w16162 12 12 := R_leY (by decide : B 12 12 12) b16163 c16171 (by decide)
                                          have z16173 := w_le c16171
                                          rw [show (12 : Int32).toInt = 12 from by decide] at z16173
                                          refine ev_iincB (y := 1) (l := 1) (u := 12) rfl rfl rfl (by decide) rfl rfl b16094 (by decide : B 1 1 1) (by decide) (by decide) (by decide) (by decide) (fun v16176 b16176 e16176 => ?_)
                                          dsimp only [List.set]
                                          have e16176x := e16176; rw [show (1 : Int32).toInt = 1 from by decide] at e16176x
                                          refine ev_goto rfl rfl ?_
                                          exact (EvQ.drop 14 (EvQ.drop 13 (EvQ.drop 12 (EvQ.drop 11 (ih199 v16106 w15917 v16176 h16164 (b16110.mono (by decide) (by decide)) (b16094.mono (by decide) (by decide)) (b16176.mono (by decide) (by decide)) hJ16165 z16166 z16167 z16168 (L_up hm199 (e_p1 e16176 (by decide))))))))
                                        · have b16174 : B w16162 0 11 := R_ltX b16163 (by decide : B 12 12 12) (Int32.not_le.mp c16171) (by decide)
                                          have z16175 := w_lt (Int32.not_le.mp c16171)
                                          rw [show (12 : Int32).toInt = 12 from by decide] at z16175
                                          refine ev_aload_n rfl rfl rfl ?_
                                          refine ev_getR (y := 87) rfl rfl fl_X10_94 rfl rfl rfl rfl ?_
                                          refine ev_iload rfl rfl rfl ?_
                                          refine ev_aload_n rfl rfl rfl ?_
                                          refine ev_getR (y := 85) rfl rfl fl_X10_88 rfl rfl rfl rfl ?_
                                          refine ev_iload rfl rfl rfl ?_
                                          refine ev_ialW (n := 12) (l := (-2147483648)) (u := 2147483647) hJ16165.1 b16174 (by decide) (by decide) (fun _ => rfl) rfl rfl rfl (fun v16177 b16177 e16177 => ?_)
                                          refine ev_iasW (n := 12) (l := (-2147483648)) (u := 2147483647) hJ16165 b16174 (by decide) (by decide) (fun _ => rfl) (B.any v16177) (by decide) (by decide) (fun _ => rfl) rfl rfl rfl rfl (fun h16178 hJ16178 k16178 => ?_)
                                          refine ev_iincB (y := 1) (l := 1) (u := 12) rfl rfl rfl (by decide) rfl rfl b16174 (by decide : B 1 1 1) (by decide) (by decide) (by decide) (by decide) (fun v16179 b16179 e16179 => ?_)
                                          dsimp only [List.set]
                                          have e16179x := e16179; rw [show (1 : Int32).toInt = 1 from by decide] at e16179x
                                          refine ev_goto rfl rfl ?_
                                          exact (ih292 v16179 h16178 (b16179.mono (by decide) (by decide)) hJ16178 (rd_a k16178 z16166 rfl) (rd_a k16178 z16167 rfl) (rd_a k16178 z16168 rfl) (rd_a k16178 z16169 rfl) (L_up hm292 (e_p1 e16179 (by decide))))
                                    exact (lp292_16161 13 0 h16098 ((by decide : B 0 0 0).mono (by decide) (by decide)) hJ16098 (rd_w k16098 z15923 rfl) (rd_w k16098 z15924 rfl) (rd_w k16098 z15925 rfl) (rd_w k16098 e15927 rfl) (L_init (by decide : B 0 0 0) (by decide)))
                                  · have b16116 : B w15915 (-3) 2147483647 := R_neL b15918 (by decide : B (-4) (-4) (-4)) c16113 (by decide)
                                    have z16117 := w_ne c16113
                                    rw [show ((-4) : Int32).toInt = (-4) from by decide] at z16117
                                    refine ev_iload rfl rfl rfl ?_
                                    refine ev_iload rfl rfl rfl ?_
                                    refine ev_icmp_ge rfl rfl (fun c16180 => ?_) (fun c16180 => ?_)
                                    · have z16181 := w_le c16180
                                      refine ev_iincB (y := 1) (l := 1) (u := 12) rfl rfl rfl (by decide) rfl rfl b16094 (by decide : B 1 1 1) (by decide) (by decide) (by decide) (by decide) (fun v16185 b16185 e16185 => ?_)
                                      dsimp only [List.set]
                                      have e16185x := e16185; rw [show (1 : Int32).toInt = 1 from by decide] at e16185x
                                      refine ev_goto rfl rfl ?_
                                      exact (EvQ.drop 13 (EvQ.drop 12 (EvQ.drop 11 (ih199 w15915 w15916 v16185 h16098 (b16116.mono (by decide) (by decide)) b15919 (b16185.mono (by decide) (by decide)) hJ16098 (rd_w k16098 z15923 rfl) (rd_w k16098 z15924 rfl) (rd_w k16098 z15925 rfl) (L_up hm199 (e_p1 e16185 (by decide)))))))
                                    · have b16182 : B v16106 0 2147483646 := R_ltX b16110 b16116 (Int32.not_le.mp c16180) (by decide)
                                      have b16183 : B w15915 1 2147483647 := R_ltY b16110 b16116 (Int32.not_le.mp c16180) (by decide)
                                      have z16184 := w_lt (Int32.not_le.mp c16180)
                                      refine ev_iload rfl rfl rfl ?_
                                      refine ev_istore rfl rfl rfl rfl ?_
                                      dsimp only [List.set]
                                      refine ev_iload rfl rfl rfl ?_
                                      refine ev_istore rfl rfl rfl rfl ?_
                                      dsimp only [List.set]
                                      refine ev_iconst (v := 0) rfl rfl (by decide) ?_
                                      refine ev_istore rfl rfl rfl rfl ?_
                                      dsimp only [List.set]
                                      have lp292_16229 : ∀ (n : Nat) (w16230 : Int32) (h16232 : Hp), B w16230 0 12 → JW [(85, 999), (86, 999), (87, 999)] h h16232 → (h16232 63 3 = f1) → (h16232 92 (Int32.toNatClampNeg a3) = v52) → (h16232 73 (Int32.toNatClampNeg a0) = v13668) → (h16232 63 5 = v15927) → 12 + 1 - w16230.toInt ≤ (n : Int) → EvQ mi_X10_blame 292 [some (.ref 63), some (.int a0), some (.int a1), some (.int a2), some (.int a3), some (.int a4), some (.int a5), some (.int a6), some (.int v16106), some (.int w15917), some (.int w15917), some (.int w15917), some (.int r16098), some (.int v16106), some (.int w16230)] [] (G0 L b) h16232 0 0 (QJ (fun r : Int32 => B r (-2147483648) 2147483647) [(85, 999), (86, 999), (87, 999)] (G0 L b) h) := by
                                        intro n
                                        induction n with
                                        | zero =>
                                          intro w16230 h16232 b16231 hJ16233 z16234 z16235 z16236 z16237 hm292
                                          exact absurd hm292 (L_zero b16231 (by decide))
                                        | succ n ih292 =>
                                          intro w16230 h16232 b16231 hJ16233 z16234 z16235 z16236 z16237 hm292
                                          have z16238 := congrArg Int32.toInt z16234
                                          refine ev_iload rfl rfl rfl ?_
                                          refine ev_bipush (v := 12) rfl rfl (by decide) ?_
                                          refine ev_icmp_ge rfl rfl (fun c16239 => ?_) (fun c16239 => ?_)
                                          · have b16240 : B w16230 12 12 := R_leY (by decide : B 12 12 12) b16231 c16239 (by decide)
                                            have z16241 := w_le c16239
                                            rw [show (12 : Int32).toInt = 12 from by decide] at z16241
                                            refine ev_iincB (y := 1) (l := 1) (u := 12) rfl rfl rfl (by decide) rfl rfl b16094 (by decide : B 1 1 1) (by decide) (by decide) (by decide) (by decide) (fun v16244 b16244 e16244 => ?_)
                                            dsimp only [List.set]
                                            have e16244x := e16244; rw [show (1 : Int32).toInt = 1 from by decide] at e16244x
                                            refine ev_goto rfl rfl ?_
                                            exact (EvQ.drop 14 (EvQ.drop 13 (EvQ.drop 12 (EvQ.drop 11 (ih199 v16106 w15917 v16244 h16232 (b16182.mono (by decide) (by decide)) (b16094.mono (by decide) (by decide)) (b16244.mono (by decide) (by decide)) hJ16233 z16234 z16235 z16236 (L_up hm199 (e_p1 e16244 (by decide))))))))
                                          · have b16242 : B w16230 0 11 := R_ltX b16231 (by decide : B 12 12 12) (Int32.not_le.mp c16239) (by decide)
                                            have z16243 := w_lt (Int32.not_le.mp c16239)
                                            rw [show (12 : Int32).toInt = 12 from by decide] at z16243
                                            refine ev_aload_n rfl rfl rfl ?_
                                            refine ev_getR (y := 87) rfl rfl fl_X10_94 rfl rfl rfl rfl ?_
                                            refine ev_iload rfl rfl rfl ?_
                                            refine ev_aload_n rfl rfl rfl ?_
                                            refine ev_getR (y := 85) rfl rfl fl_X10_88 rfl rfl rfl rfl ?_
                                            refine ev_iload rfl rfl rfl ?_
                                            refine ev_ialW (n := 12) (l := (-2147483648)) (u := 2147483647) hJ16233.1 b16242 (by decide) (by decide) (fun _ => rfl) rfl rfl rfl (fun v16245 b16245 e16245 => ?_)
                                            refine ev_iasW (n := 12) (l := (-2147483648)) (u := 2147483647) hJ16233 b16242 (by decide) (by decide) (fun _ => rfl) (B.any v16245) (by decide) (by decide) (fun _ => rfl) rfl rfl rfl rfl (fun h16246 hJ16246 k16246 => ?_)
                                            refine ev_iincB (y := 1) (l := 1) (u := 12) rfl rfl rfl (by decide) rfl rfl b16242 (by decide : B 1 1 1) (by decide) (by decide) (by decide) (by decide) (fun v16247 b16247 e16247 => ?_)
                                            dsimp only [List.set]
                                            have e16247x := e16247; rw [show (1 : Int32).toInt = 1 from by decide] at e16247x
                                            refine ev_goto rfl rfl ?_
                                            exact (ih292 v16247 h16246 (b16247.mono (by decide) (by decide)) hJ16246 (rd_a k16246 z16234 rfl) (rd_a k16246 z16235 rfl) (rd_a k16246 z16236 rfl) (rd_a k16246 z16237 rfl) (L_up hm292 (e_p1 e16247 (by decide))))
                                      exact (lp292_16229 13 0 h16098 ((by decide : B 0 0 0).mono (by decide) (by decide)) hJ16098 (rd_w k16098 z15923 rfl) (rd_w k16098 z15924 rfl) (rd_w k16098 z15925 rfl) (rd_w k16098 e15927 rfl) (L_init (by decide : B 0 0 0) (by decide)))
                              · have b16102 : B r16098 (-2147483648) (-1) := R_ltX (B.any r16098) (by decide : B 0 0 0) (Int32.not_le.mp c16099) (by decide)
                                have z16103 := w_lt (Int32.not_le.mp c16099)
                                rw [show (0 : Int32).toInt = 0 from by decide] at z16103
                                refine ev_bipush (v := (-4)) rfl rfl (by decide) ?_
                                refine ev_goto rfl rfl ?_
                                refine ev_istore rfl rfl rfl rfl ?_
                                dsimp only [List.set]
                                refine ev_iload rfl rfl rfl ?_
                                refine ev_if_lt rfl rfl (fun c16248 => ?_) (fun c16248 => absurd (D_lt (by decide : B (-4) (-4) (-4)) (by decide : B 0 0 0) (by decide)) c16248)
                                have z16249 := w_lt c16248
                                rw [show ((-4) : Int32).toInt = (-4) from by decide] at z16249
                                rw [show (0 : Int32).toInt = 0 from by decide] at z16249
                                refine ev_iincB (y := 1) (l := 1) (u := 12) rfl rfl rfl (by decide) rfl rfl b16094 (by decide : B 1 1 1) (by decide) (by decide) (by decide) (by decide) (fun v16250 b16250 e16250 => ?_)
                                dsimp only [List.set]
                                have e16250x := e16250; rw [show (1 : Int32).toInt = 1 from by decide] at e16250x
                                refine ev_goto rfl rfl ?_
                                exact (EvQ.drop 13 (EvQ.drop 12 (EvQ.drop 11 (ih199 w15915 w15916 v16250 h16098 b15918 b15919 (b16250.mono (by decide) (by decide)) hJ16098 (rd_w k16098 z15923 rfl) (rd_w k16098 z15924 rfl) (rd_w k16098 z15925 rfl) (L_up hm199 (e_p1 e16250 (by decide)))))))
                            · have b16096 : B w15917 (-1) (-1) := R_ltX b15931 (by decide : B 0 0 0) (Int32.not_le.mp c16093) (by decide)
                              have z16097 := w_lt (Int32.not_le.mp c16093)
                              rw [show (0 : Int32).toInt = 0 from by decide] at z16097
                              refine ev_bipush (v := (-4)) rfl rfl (by decide) ?_
                              refine ev_goto rfl rfl ?_
                              refine ev_istore rfl rfl rfl rfl ?_
                              dsimp only [List.set]
                              refine ev_aload_n rfl rfl rfl ?_
                              refine ev_iload_n rfl rfl rfl ?_
                              refine ev_iload_n rfl rfl rfl ?_
                              refine ev_iload_n rfl rfl rfl ?_
                              refine ev_iload rfl rfl rfl ?_
                              refine ev_iload rfl rfl rfl ?_
                              refine ev_iload rfl rfl rfl ?_
                              refine ev_V6J hJ15922 rfl rfl rfl lk_X10_338 vt_X10_explains rfl rfl rfl rfl rfl (w_X10_explains_63 L b h15921 hJ15922.1 a0 b7 a1 b16 a2 b26 a3 b33 a5 (-4) (KM.keep (pp46_0 c47 b16) hJ15922 (fun _ => rfl) (fun _ => rfl)) (IXP.keep (IXP.all u133_0 (by have q_ := congrArg Int32.toInt z15925; have q2_ := congrArg Int32.toInt (hJ15922.2 73 (Int32.toNatClampNeg a0) rfl); omega)) hJ15922 (fun _ => rfl) (fun _ => rfl) (fun _ => rfl))) (fun r16251 h16251 q16251 hJ16251 k16251 => ?_)
                              refine ev_istore rfl rfl rfl rfl ?_
                              dsimp only [List.set]
                              refine ev_iload rfl rfl rfl ?_
                              refine ev_if_ge rfl rfl (fun c16252 => ?_) (fun c16252 => ?_)
                              · have b16253 : B r16251 0 2147483647 := R_leY (by decide : B 0 0 0) (B.any r16251) c16252 (by decide)
                                have z16254 := w_le c16252
                                rw [show (0 : Int32).toInt = 0 from by decide] at z16254
                                refine ev_iload rfl rfl rfl ?_
                                refine ev_iload rfl rfl rfl ?_
                                refine ev_if_ge rfl rfl (fun c16257 => absurd c16257 (D_nle (by decide : B 0 0 0) b16096 (by decide))) (fun c16257 => ?_)
                                have z16258 := w_lt (Int32.not_le.mp c16257)
                                rw [show (0 : Int32).toInt = 0 from by decide] at z16258
                                refine ev_iconst (v := 0) rfl rfl (by decide) ?_
                                refine ev_goto rfl rfl ?_
                                refine ev_iaddB (l := 0) (u := 2147483647) rfl rfl b16253 (by decide : B 0 0 0) (by decide) (by decide) (by decide) (by decide) (fun v16259 b16259 e16259 g16259 => ?_)
                                have e16259x := e16259; rw [show (0 : Int32).toInt = 0 from by decide] at e16259x
                                refine ev_istore rfl rfl rfl rfl ?_
                                dsimp only [List.set]
                                refine ev_iload rfl rfl rfl ?_
                                refine ev_if_lt rfl rfl (fun c16260 => absurd c16260 (D_nlt b16259 (by decide : B 0 0 0) (by decide))) (fun c16260 => ?_)
                                have z16261 := w_le (Int32.not_lt.mp c16260)
                                rw [show (0 : Int32).toInt = 0 from by decide] at z16261
                                refine ev_iload rfl rfl rfl ?_
                                refine ev_bipush (v := (-4)) rfl rfl (by decide) ?_
                                refine ev_icmp_eq rfl rfl (fun c16262 => ?_) (fun c16262 => ?_)
                                · have b16263 : B w15915 (-4) (-4) := R_eqX b15918 (by decide : B (-4) (-4) (-4)) c16262
                                  have z16264 := congrArg Int32.toInt c16262
                                  rw [show ((-4) : Int32).toInt = (-4) from by decide] at z16264
                                  refine ev_iload rfl rfl rfl ?_
                                  refine ev_istore rfl rfl rfl rfl ?_
                                  dsimp only [List.set]
                                  refine ev_iload rfl rfl rfl ?_
                                  refine ev_istore rfl rfl rfl rfl ?_
                                  dsimp only [List.set]
                                  refine ev_iconst (v := 0) rfl rfl (by decide) ?_
                                  refine ev_istore rfl rfl rfl rfl ?_
                                  dsimp only [List.set]
                                  have lp292_16310 : ∀ (n : Nat) (w16311 : Int32) (h16313 : Hp), B w16311 0 12 → JW [(85, 999), (86, 999), (87, 999)] h h16313 → (h16313 63 3 = f1) → (h16313 92 (Int32.toNatClampNeg a3) = v52) → (h16313 73 (Int32.toNatClampNeg a0) = v13668) → (h16313 63 5 = v15927) → 12 + 1 - w16311.toInt ≤ (n : Int) → EvQ mi_X10_blame 292 [some (.ref 63), some (.int a0), some (.int a1), some (.int a2), some (.int a3), some (.int a4), some (.int a5), some (.int a6), some (.int v16259), some (.int (-4)), some (.int w15917), some (.int (-4)), some (.int r16251), some (.int v16259), some (.int w16311)] [] (G0 L b) h16313 0 0 (QJ (fun r : Int32 => B r (-2147483648) 2147483647) [(85, 999), (86, 999), (87, 999)] (G0 L b) h) := by
                                    intro n
                                    induction n with
                                    | zero =>
                                      intro w16311 h16313 b16312 hJ16314 z16315 z16316 z16317 z16318 hm292
                                      exact absurd hm292 (L_zero b16312 (by decide))
                                    | succ n ih292 =>
                                      intro w16311 h16313 b16312 hJ16314 z16315 z16316 z16317 z16318 hm292
                                      have z16319 := congrArg Int32.toInt z16315
                                      refine ev_iload rfl rfl rfl ?_
                                      refine ev_bipush (v := 12) rfl rfl (by decide) ?_
                                      refine ev_icmp_ge rfl rfl (fun c16320 => ?_) (fun c16320 => ?_)
                                      · have b16321 : B w16311 12 12 := R_leY (by decide : B 12 12 12) b16312 c16320 (by decide)
                                        have z16322 := w_le c16320
                                        rw [show (12 : Int32).toInt = 12 from by decide] at z16322
                                        refine ev_iincB (y := 1) (l := 0) (u := 0) rfl rfl rfl (by decide) rfl rfl b16096 (by decide : B 1 1 1) (by decide) (by decide) (by decide) (by decide) (fun v16325 b16325 e16325 => ?_)
                                        dsimp only [List.set]
                                        have e16325x := e16325; rw [show (1 : Int32).toInt = 1 from by decide] at e16325x
                                        refine ev_goto rfl rfl ?_
                                        exact (EvQ.drop 14 (EvQ.drop 13 (EvQ.drop 12 (EvQ.drop 11 (ih199 v16259 (-4) v16325 h16313 (b16259.mono (by decide) (by decide)) ((by decide : B (-4) (-4) (-4)).mono (by decide) (by decide)) (b16325.mono (by decide) (by decide)) hJ16314 z16315 z16316 z16317 (L_up hm199 (e_p1 e16325 (by decide))))))))
                                      · have b16323 : B w16311 0 11 := R_ltX b16312 (by decide : B 12 12 12) (Int32.not_le.mp c16320) (by decide)
                                        have z16324 := w_lt (Int32.not_le.mp c16320)
                                        rw [show (12 : Int32).toInt = 12 from by decide] at z16324
                                        refine ev_aload_n rfl rfl rfl ?_
                                        refine ev_getR (y := 87) rfl rfl fl_X10_94 rfl rfl rfl rfl ?_
                                        refine ev_iload rfl rfl rfl ?_
                                        refine ev_aload_n rfl rfl rfl ?_
                                        refine ev_getR (y := 85) rfl rfl fl_X10_88 rfl rfl rfl rfl ?_
                                        refine ev_iload rfl rfl rfl ?_
                                        refine ev_ialW (n := 12) (l := (-2147483648)) (u := 2147483647) hJ16314.1 b16323 (by decide) (by decide) (fun _ => rfl) rfl rfl rfl (fun v16326 b16326 e16326 => ?_)
                                        refine ev_iasW (n := 12) (l := (-2147483648)) (u := 2147483647) hJ16314 b16323 (by decide) (by decide) (fun _ => rfl) (B.any v16326) (by decide) (by decide) (fun _ => rfl) rfl rfl rfl rfl (fun h16327 hJ16327 k16327 => ?_)
                                        refine ev_iincB (y := 1) (l := 1) (u := 12) rfl rfl rfl (by decide) rfl rfl b16323 (by decide : B 1 1 1) (by decide) (by decide) (by decide) (by decide) (fun v16328 b16328 e16328 => ?_)
                                        dsimp only [List.set]
                                        have e16328x := e16328; rw [show (1 : Int32).toInt = 1 from by decide] at e16328x
                                        refine ev_goto rfl rfl ?_
                                        exact (ih292 v16328 h16327 (b16328.mono (by decide) (by decide)) hJ16327 (rd_a k16327 z16315 rfl) (rd_a k16327 z16316 rfl) (rd_a k16327 z16317 rfl) (rd_a k16327 z16318 rfl) (L_up hm292 (e_p1 e16328 (by decide))))
                                  exact (lp292_16310 13 0 h16251 ((by decide : B 0 0 0).mono (by decide) (by decide)) hJ16251 (rd_w k16251 z15923 rfl) (rd_w k16251 z15924 rfl) (rd_w k16251 z15925 rfl) (rd_w k16251 e15927 rfl) (L_init (by decide : B 0 0 0) (by decide)))
                                · have b16265 : B w15915 (-3) 2147483647 := R_neL b15918 (by decide : B (-4) (-4) (-4)) c16262 (by decide)
                                  have z16266 := w_ne c16262
                                  rw [show ((-4) : Int32).toInt = (-4) from by decide] at z16266
                                  refine ev_iload rfl rfl rfl ?_
                                  refine ev_iload rfl rfl rfl ?_
                                  refine ev_icmp_ge rfl rfl (fun c16329 => ?_) (fun c16329 => ?_)
                                  · have z16330 := w_le c16329
                                    refine ev_iincB (y := 1) (l := 0) (u := 0) rfl rfl rfl (by decide) rfl rfl b16096 (by decide : B 1 1 1) (by decide) (by decide) (by decide) (by decide) (fun v16335 b16335 e16335 => ?_)
                                    dsimp only [List.set]
                                    have e16335x := e16335; rw [show (1 : Int32).toInt = 1 from by decide] at e16335x
                                    refine ev_goto rfl rfl ?_
                                    exact (EvQ.drop 13 (EvQ.drop 12 (EvQ.drop 11 (ih199 w15915 w15916 v16335 h16251 (b16265.mono (by decide) (by decide)) b15919 (b16335.mono (by decide) (by decide)) hJ16251 (rd_w k16251 z15923 rfl) (rd_w k16251 z15924 rfl) (rd_w k16251 z15925 rfl) (L_up hm199 (e_p1 e16335 (by decide)))))))
                                  · have b16331 : B v16259 0 2147483646 := R_ltX b16259 b16265 (Int32.not_le.mp c16329) (by decide)
                                    have b16332 : B r16251 0 2147483646 := (R_bk (l' := 0) (u' := 2147483646) e16259 b16331 (by decide : B 0 0 0) (by decide) (by decide))
                                    have b16333 : B w15915 1 2147483647 := R_ltY b16259 b16265 (Int32.not_le.mp c16329) (by decide)
                                    have z16334 := w_lt (Int32.not_le.mp c16329)
                                    refine ev_iload rfl rfl rfl ?_
                                    refine ev_istore rfl rfl rfl rfl ?_
                                    dsimp only [List.set]
                                    refine ev_iload rfl rfl rfl ?_
                                    refine ev_istore rfl rfl rfl rfl ?_
                                    dsimp only [List.set]
                                    refine ev_iconst (v := 0) rfl rfl (by decide) ?_
                                    refine ev_istore rfl rfl rfl rfl ?_
                                    dsimp only [List.set]
                                    have lp292_16379 : ∀ (n : Nat) (w16380 : Int32) (h16382 : Hp), B w16380 0 12 → JW [(85, 999), (86, 999), (87, 999)] h h16382 → (h16382 63 3 = f1) → (h16382 92 (Int32.toNatClampNeg a3) = v52) → (h16382 73 (Int32.toNatClampNeg a0) = v13668) → (h16382 63 5 = v15927) → 12 + 1 - w16380.toInt ≤ (n : Int) → EvQ mi_X10_blame 292 [some (.ref 63), some (.int a0), some (.int a1), some (.int a2), some (.int a3), some (.int a4), some (.int a5), some (.int a6), some (.int v16259), some (.int (-4)), some (.int w15917), some (.int (-4)), some (.int r16251), some (.int v16259), some (.int w16380)] [] (G0 L b) h16382 0 0 (QJ (fun r : Int32 => B r (-2147483648) 2147483647) [(85, 999), (86, 999), (87, 999)] (G0 L b) h) := by
                                      intro n
                                      induction n with
                                      | zero =>
                                        intro w16380 h16382 b16381 hJ16383 z16384 z16385 z16386 z16387 hm292
                                        exact absurd hm292 (L_zero b16381 (by decide))
                                      | succ n ih292 =>
                                        intro w16380 h16382 b16381 hJ16383 z16384 z16385 z16386 z16387 hm292
                                        have z16388 := congrArg Int32.toInt z16384
                                        refine ev_iload rfl rfl rfl ?_
                                        refine ev_bipush (v := 12) rfl rfl (by decide) ?_
                                        refine ev_icmp_ge rfl rfl (fun c16389 => ?_) (fun c16389 => ?_)
                                        · have b16390 : B w16380 12 12 := R_leY (by decide : B 12 12 12) b16381 c16389 (by decide)
                                          have z16391 := w_le c16389
                                          rw [show (12 : Int32).toInt = 12 from by decide] at z16391
                                          refine ev_iincB (y := 1) (l := 0) (u := 0) rfl rfl rfl (by decide) rfl rfl b16096 (by decide : B 1 1 1) (by decide) (by decide) (by decide) (by decide) (fun v16394 b16394 e16394 => ?_)
                                          dsimp only [List.set]
                                          have e16394x := e16394; rw [show (1 : Int32).toInt = 1 from by decide] at e16394x
                                          refine ev_goto rfl rfl ?_
                                          exact (EvQ.drop 14 (EvQ.drop 13 (EvQ.drop 12 (EvQ.drop 11 (ih199 v16259 (-4) v16394 h16382 (b16331.mono (by decide) (by decide)) ((by decide : B (-4) (-4) (-4)).mono (by decide) (by decide)) (b16394.mono (by decide) (by decide)) hJ16383 z16384 z16385 z16386 (L_up hm199 (e_p1 e16394 (by decide))))))))
                                        · have b16392 : B w16380 0 11 := R_ltX b16381 (by decide : B 12 12 12) (Int32.not_le.mp c16389) (by decide)
                                          have z16393 := w_lt (Int32.not_le.mp c16389)
                                          rw [show (12 : Int32).toInt = 12 from by decide] at z16393
                                          refine ev_aload_n rfl rfl rfl ?_
                                          refine ev_getR (y := 87) rfl rfl fl_X10_94 rfl rfl rfl rfl ?_
                                          refine ev_iload rfl rfl rfl ?_
                                          refine ev_aload_n rfl rfl rfl ?_
                                          refine ev_getR (y := 85) rfl rfl fl_X10_88 rfl rfl rfl rfl ?_
                                          refine ev_iload rfl rfl rfl ?_
                                          refine ev_ialW (n := 12) (l := (-2147483648)) (u := 2147483647) hJ16383.1 b16392 (by decide) (by decide) (fun _ => rfl) rfl rfl rfl (fun v16395 b16395 e16395 => ?_)
                                          refine ev_iasW (n := 12) (l := (-2147483648)) (u := 2147483647) hJ16383 b16392 (by decide) (by decide) (fun _ => rfl) (B.any v16395) (by decide) (by decide) (fun _ => rfl) rfl rfl rfl rfl (fun h16396 hJ16396 k16396 => ?_)
                                          refine ev_iincB (y := 1) (l := 1) (u := 12) rfl rfl rfl (by decide) rfl rfl b16392 (by decide : B 1 1 1) (by decide) (by decide) (by decide) (by decide) (fun v16397 b16397 e16397 => ?_)
                                          dsimp only [List.set]
                                          have e16397x := e16397; rw [show (1 : Int32).toInt = 1 from by decide] at e16397x
                                          refine ev_goto rfl rfl ?_
                                          exact (ih292 v16397 h16396 (b16397.mono (by decide) (by decide)) hJ16396 (rd_a k16396 z16384 rfl) (rd_a k16396 z16385 rfl) (rd_a k16396 z16386 rfl) (rd_a k16396 z16387 rfl) (L_up hm292 (e_p1 e16397 (by decide))))
                                    exact (lp292_16379 13 0 h16251 ((by decide : B 0 0 0).mono (by decide) (by decide)) hJ16251 (rd_w k16251 z15923 rfl) (rd_w k16251 z15924 rfl) (rd_w k16251 z15925 rfl) (rd_w k16251 e15927 rfl) (L_init (by decide : B 0 0 0) (by decide)))
                              · have b16255 : B r16251 (-2147483648) (-1) := R_ltX (B.any r16251) (by decide : B 0 0 0) (Int32.not_le.mp c16252) (by decide)
                                have z16256 := w_lt (Int32.not_le.mp c16252)
                                rw [show (0 : Int32).toInt = 0 from by decide] at z16256
                                refine ev_bipush (v := (-4)) rfl rfl (by decide) ?_
                                refine ev_goto rfl rfl ?_
                                refine ev_istore rfl rfl rfl rfl ?_
                                dsimp only [List.set]
                                refine ev_iload rfl rfl rfl ?_
                                refine ev_if_lt rfl rfl (fun c16398 => ?_) (fun c16398 => absurd (D_lt (by decide : B (-4) (-4) (-4)) (by decide : B 0 0 0) (by decide)) c16398)
                                have z16399 := w_lt c16398
                                rw [show ((-4) : Int32).toInt = (-4) from by decide] at z16399
                                rw [show (0 : Int32).toInt = 0 from by decide] at z16399
                                refine ev_iincB (y := 1) (l := 0) (u := 0) rfl rfl rfl (by decide) rfl rfl b16096 (by decide : B 1 1 1) (by decide) (by decide) (by decide) (by decide) (fun v16400 b16400 e16400 => ?_)
                                dsimp only [List.set]
                                have e16400x := e16400; rw [show (1 : Int32).toInt = 1 from by decide] at e16400x
                                refine ev_goto rfl rfl ?_
                                exact (EvQ.drop 13 (EvQ.drop 12 (EvQ.drop 11 (ih199 w15915 w15916 v16400 h16251 b15918 b15919 (b16400.mono (by decide) (by decide)) hJ16251 (rd_w k16251 z15923 rfl) (rd_w k16251 z15924 rfl) (rd_w k16251 z15925 rfl) (L_up hm199 (e_p1 e16400 (by decide)))))))
                      exact (lp199_15914 14 (-4) (-4) (-1) h13663 ((by decide : B (-4) (-4) (-4)).mono (by decide) (by decide)) ((by decide : B (-4) (-4) (-4)).mono (by decide) (by decide)) ((by decide : B (-1) (-1) (-1)).mono (by decide) (by decide)) hJ13664 z13665 z13666 e13668 (L_init (by decide : B (-1) (-1) (-1)) (by decide)))
                    · have b13671 : B w13661 0 23 := R_ltX b13662 b13668 (Int32.not_le.mp c13669) (by decide)
                      have b13672 : B v13668 1 24 := R_ltY b13662 b13668 (Int32.not_le.mp c13669) (by decide)
                      have z13673 := w_lt (Int32.not_le.mp c13669)
                      refine ev_aload_n rfl rfl rfl ?_
                      refine ev_iload_n rfl rfl rfl ?_
                      refine ev_iload rfl rfl rfl ?_
                      have z16401 := congrArg Int32.toInt z13665
                      refine ev_V2P rfl rfl lk_X10_263 vt_X10_chordAt rfl rfl rfl rfl rfl (w_chordAtK L b h13663 hJ13664.1 a0 w13661 b7 b13671) (fun r16402 q16402 => ?_)
                      obtain ⟨b16402, pp16402_0⟩ := q16402
                      refine ev_if_eq rfl rfl (fun c16403 => ?_) (fun c16403 => ?_)
                      · have b16404 : B r16402 0 0 := R_eqX b16402 (by decide : B 0 0 0) c16403
                        have z16405 := congrArg Int32.toInt c16403
                        rw [show (0 : Int32).toInt = 0 from by decide] at z16405
                        refine ev_iincB (y := 1) (l := 1) (u := 24) rfl rfl rfl (by decide) rfl rfl b13671 (by decide : B 1 1 1) (by decide) (by decide) (by decide) (by decide) (fun v16408 b16408 e16408 => ?_)
                        dsimp only [List.set]
                        have e16408x := e16408; rw [show (1 : Int32).toInt = 1 from by decide] at e16408x
                        refine ev_goto rfl rfl ?_
                        exact (ih133 v16408 h13663 (b16408.mono (by decide) (by decide)) hJ13664 z13665 z13666 (IXP.step u133_0 b13671 e16408x (fun q_ => absurd (by rw [← hJ13664.2 74 _ rfl, ← pp16402_0]; exact c16403) q_)) (L_up hm133 (e_p1 e16408 (by decide))))
                      · have b16406 : B r16402 1 4095 := R_neL b16402 (by decide : B 0 0 0) c16403 (by decide)
                        have z16407 := w_ne c16403
                        rw [show (0 : Int32).toInt = 0 from by decide] at z16407
                        refine ev_iload rfl rfl rfl ?_
                        refine ev_i2l rfl rfl ?_
                        have z16409 := Int32.toInt_toInt64 a5
                        have z16409b := B.any a5
                        refine ev_iload rfl rfl rfl ?_
                        refine ev_i2l rfl rfl ?_
                        have z16410 := Int32.toInt_toInt64 w13661
                        have z16410b := B.any w13661
                        refine ev_ladd rfl rfl ?_
                        have z16411 := l_add (Int32.toInt64 a5) (Int32.toInt64 w13661) (by have z_ := l_lits; omega) (by have z_ := l_lits; omega) (by have z_ := l_lits; omega) (by have z_ := l_lits; omega)
                        refine ev_lconst (v := 0) rfl rfl rfl ?_
                        refine ev_aload_n rfl rfl rfl ?_
                        refine ev_getR (y := 93) rfl rfl fl_X10_115 rfl rfl rfl rfl ?_
                        refine ev_iload rfl rfl rfl ?_
                        refine ev_ialW (n := 4) (l := 0) (u := 60) hJ13664.1 b33 (by decide) (by decide) (fun _ => rfl) rfl rfl rfl (fun v16412 b16412 e16412 => ?_)
                        refine ev_iconst (v := 1) rfl rfl (by decide) ?_
                        refine ev_isubB (l := -1) (u := 59) rfl rfl b16412 (by decide : B 1 1 1) (by decide) (by decide) (by decide) (by decide) (fun v16413 b16413 e16413 g16413 => ?_)
                        have e16413x := e16413; rw [show (1 : Int32).toInt = 1 from by decide] at e16413x
                        refine ev_i2l rfl rfl ?_
                        have z16414 := Int32.toInt_toInt64 v16413
                        have z16414b := B.any v16413
                        have z16415 := congrArg Int32.toInt z13665
                        refine ev_S3P rfl rfl lk_X10_124 st_X10_in rfl rfl (w_inIX L b h13663 a5 w13661 v16412 v16413 e16413x) (fun r16416 q16416 => ?_)
                        obtain ⟨b16416, pp16416_0⟩ := q16416
                        refine ev_if_ne rfl rfl (fun c16417 => ?_) (fun c16417 => ?_)
                        · have b16418 : B r16416 1 1 := R_neL b16416 (by decide : B 0 0 0) c16417 (by decide)
                          have z16419 := w_ne c16417
                          rw [show (0 : Int32).toInt = 0 from by decide] at z16419
                          refine ev_iincB (y := 1) (l := 1) (u := 24) rfl rfl rfl (by decide) rfl rfl b13671 (by decide : B 1 1 1) (by decide) (by decide) (by decide) (by decide) (fun v16422 b16422 e16422 => ?_)
                          dsimp only [List.set]
                          have e16422x := e16422; rw [show (1 : Int32).toInt = 1 from by decide] at e16422x
                          refine ev_goto rfl rfl ?_
                          exact (ih133 v16422 h13663 (b16422.mono (by decide) (by decide)) hJ13664 z13665 z13666 (IXP.step u133_0 b13671 e16422x (fun _ => by have q_ := pp16416_0 c16417; have q2_ := congrArg Int32.toInt e16412; have q3_ := congrArg Int32.toInt (hJ13664.2 93 (Int32.toNatClampNeg a3) rfl); omega)) (L_up hm133 (e_p1 e16422 (by decide))))
                        · have b16420 : B r16416 0 0 := R_eqX b16416 (by decide : B 0 0 0) c16417
                          have z16421 := congrArg Int32.toInt c16417
                          rw [show (0 : Int32).toInt = 0 from by decide] at z16421
                          refine ev_sipush (v := (-1012)) rfl rfl (by decide) ?_
                          exact ev_iret rfl rfl rfl ⟨⟨_, rfl, ((by decide : B (-1012) (-1012) (-1012)).mono (by decide) (by decide))⟩, rfl, hJ13664⟩
                exact (lp133_13660 25 0 h ((by decide : B 0 0 0).mono (by decide) (by decide)) hJ0 ef1 e52 (IXP.zero h a0 a3 a5) (L_init (by decide : B 0 0 0) (by decide)))
              · have z56 := w_ne c53
                refine ev_sipush (v := (-1010)) rfl rfl (by decide) ?_
                refine ev_aload_n rfl rfl rfl ?_
                refine ev_getR (y := 92) rfl rfl fl_X10_112 rfl rfl rfl rfl ?_
                refine ev_iload rfl rfl rfl ?_
                refine ev_iadV (v := v52) rfl rfl rfl (b33.vp (by decide) (by decide)) rfl e52 ?_
                refine ev_bipush (v := (-4)) rfl rfl (by decide) ?_
                refine ev_icmp_ne rfl rfl (fun c16423 => ?_) (fun c16423 => ?_)
                · have z16424 := w_ne c16423
                  rw [show ((-4) : Int32).toInt = (-4) from by decide] at z16424
                  refine ev_iconst (v := 3) rfl rfl (by decide) ?_
                  refine ev_isubB (l := -1013) (u := -1013) rfl rfl (by decide : B (-1010) (-1010) (-1010)) (by decide : B 3 3 3) (by decide) (by decide) (by decide) (by decide) (fun v16427 b16427 e16427 g16427 => ?_)
                  have e16427x := e16427; rw [show ((-1010) : Int32).toInt = (-1010) from by decide] at e16427x
                  have e16427xx := e16427x; rw [show (3 : Int32).toInt = 3 from by decide] at e16427xx
                  exact ev_iret rfl rfl rfl ⟨⟨_, rfl, (b16427.mono (by decide) (by decide))⟩, rfl, hJ0⟩
                · have b16425 : B v52 (-4) (-4) := R_eqX (B.any v52) (by decide : B (-4) (-4) (-4)) c16423
                  have z16426 := congrArg Int32.toInt c16423
                  rw [show ((-4) : Int32).toInt = (-4) from by decide] at z16426
                  refine ev_iconst (v := 1) rfl rfl (by decide) ?_
                  refine ev_goto rfl rfl ?_
                  refine ev_isubB (l := -1011) (u := -1011) rfl rfl (by decide : B (-1010) (-1010) (-1010)) (by decide : B 1 1 1) (by decide) (by decide) (by decide) (by decide) (fun v16428 b16428 e16428 g16428 => ?_)
                  have e16428x := e16428; rw [show ((-1010) : Int32).toInt = (-1010) from by decide] at e16428x
                  have e16428xx := e16428x; rw [show (1 : Int32).toInt = 1 from by decide] at e16428xx
                  exact ev_iret rfl rfl rfl ⟨⟨_, rfl, (b16428.mono (by decide) (by decide))⟩, rfl, hJ0⟩
            · have b50 : B r46 0 0 := R_eqX b46 (by decide : B 0 0 0) c47
              have z51 := congrArg Int32.toInt c47
              rw [show (0 : Int32).toInt = 0 from by decide] at z51
              refine ev_sipush (v := (-1002)) rfl rfl (by decide) ?_
              exact ev_iret rfl rfl rfl ⟨⟨_, rfl, ((by decide : B (-1002) (-1002) (-1002)).mono (by decide) (by decide))⟩, rfl, hJ0⟩
          · have b43 : B r38 0 0 := R_eqX b38 (by decide : B 0 0 0) c39
            have z44 := congrArg Int32.toInt c39
            rw [show (0 : Int32).toInt = 0 from by decide] at z44
            refine ev_iload rfl rfl rfl ?_
            refine ev_i2l rfl rfl ?_
            have z16429 := Int32.toInt_toInt64 a6
            have z16429b := B.any a6
            refine ev_ldc2 (v := 20) rfl rfl kc_X10_167 ?_
            refine ev_bipush (v := 19) rfl rfl (by decide) ?_
            refine ev_aload_n rfl rfl rfl ?_
            refine ev_getW (l := 0) (u := 12) hJ0.1 rfl rfl rfl fl_X10_121 rfl rfl rfl (fun v16430 b16430 e16430 => ?_)
            refine ev_iaddB (l := 19) (u := 31) rfl rfl (by decide : B 19 19 19) b16430 (by decide) (by decide) (by decide) (by decide) (fun v16431 b16431 e16431 g16431 => ?_)
            have e16431x := e16431; rw [show (19 : Int32).toInt = 19 from by decide] at e16431x
            refine ev_i2l rfl rfl ?_
            have z16432 := Int32.toInt_toInt64 v16431
            have z16432b := B.any v16431
            have z16433 := congrArg Int32.toInt ef1
            refine ev_S3P rfl rfl lk_X10_124 st_X10_in rfl rfl (w_inV (G0 L b) h a6 20 v16431 (by decide : BL 20 20 20) b16431) (fun r16434 q16434 => ?_)
            obtain ⟨b16434, p16434_0, pp16434_0⟩ := q16434
            refine ev_if_ne rfl rfl (fun c16435 => ?_) (fun c16435 => ?_)
            · have b16436 : B r16434 1 1 := R_neL b16434 (by decide : B 0 0 0) c16435 (by decide)
              have b16437 : B a6 20 31 := p16434_0 c16435
              have z16438 := w_ne c16435
              rw [show (0 : Int32).toInt = 0 from by decide] at z16438
              refine ev_aload_n rfl rfl rfl ?_
              refine ev_iload_n rfl rfl rfl ?_
              refine ev_iload_n rfl rfl rfl ?_
              have z16441 := congrArg Int32.toInt ef1
              refine ev_V2P rfl rfl lk_X10_286 vt_X10_isIn rfl rfl rfl rfl rfl (w_isInK L b h hJ0.1 a0 a1 b7) (fun r16442 q16442 => ?_)
              obtain ⟨b16442, pp16442_0⟩ := q16442
              refine ev_if_ne rfl rfl (fun c16443 => ?_) (fun c16443 => ?_)
              · have b16444 : B r16442 1 1 := R_neL b16442 (by decide : B 0 0 0) c16443 (by decide)
                have z16445 := w_ne c16443
                rw [show (0 : Int32).toInt = 0 from by decide] at z16445
                refine ev_aload_n rfl rfl rfl ?_
                refine ev_getR (y := 92) rfl rfl fl_X10_112 rfl rfl rfl rfl ?_
                refine ev_iload rfl rfl rfl ?_
                refine ev_ialW (n := 4) (l := (-2147483648)) (u := 2147483647) hJ0.1 b33 (by decide) (by decide) (fun _ => rfl) rfl rfl rfl (fun v16448 b16448 e16448 => ?_)
                refine ev_iload rfl rfl rfl ?_
                refine ev_icmp_eq rfl rfl (fun c16449 => ?_) (fun c16449 => ?_)
                · have b16450 : B v16448 0 2 := R_eqX (B.any v16448) b34 c16449
                  have z16451 := congrArg Int32.toInt c16449
                  refine ev_iconst (v := 0) rfl rfl (by decide) ?_
                  refine ev_istore rfl rfl rfl rfl ?_
                  dsimp only [List.set]
                  have lp133_29594 : ∀ (n : Nat) (w29595 : Int32) (h29597 : Hp), B w29595 0 24 → JW [(85, 999), (86, 999), (87, 999)] h h29597 → (h29597 63 3 = f1) → (h29597 63 5 = v16430) → (h29597 92 (Int32.toNatClampNeg a3) = v16448) → (IXP h a0 a3 a5 w29595) → 24 + 1 - w29595.toInt ≤ (n : Int) → EvQ mi_X10_blame 133 [some (.ref 63), some (.int a0), some (.int a1), some (.int a2), some (.int a3), some (.int a4), some (.int a5), some (.int a6), some (.int w29595), none, none, none, none, none, none] [] (G0 L b) h29597 0 0 (QJ (fun r : Int32 => B r (-2147483648) 2147483647) [(85, 999), (86, 999), (87, 999)] (G0 L b) h) := by
                    intro n
                    induction n with
                    | zero =>
                      intro w29595 h29597 b29596 hJ29598 z29599 z29600 z29601 u133_0 hm133
                      exact absurd hm133 (L_zero b29596 (by decide))
                    | succ n ih133 =>
                      intro w29595 h29597 b29596 hJ29598 z29599 z29600 z29601 u133_0 hm133
                      have z29602 := congrArg Int32.toInt z29599
                      refine ev_iload rfl rfl rfl ?_
                      refine ev_aload_n rfl rfl rfl ?_
                      refine ev_getR (y := 73) rfl rfl fl_X10_51 rfl rfl rfl rfl ?_
                      refine ev_iload_n rfl rfl rfl ?_
                      refine ev_ialW (n := 6) (l := 0) (u := 24) hJ29598.1 b7 (by decide) (by decide) (fun _ => rfl) rfl rfl rfl (fun v29603 b29603 e29603 => ?_)
                      refine ev_icmp_ge rfl rfl (fun c29604 => ?_) (fun c29604 => ?_)
                      · have z29605 := w_le c29604
                        refine ev_bipush (v := (-4)) rfl rfl (by decide) ?_
                        refine ev_istore rfl rfl rfl rfl ?_
                        dsimp only [List.set]
                        refine ev_bipush (v := (-4)) rfl rfl (by decide) ?_
                        refine ev_istore rfl rfl rfl rfl ?_
                        dsimp only [List.set]
                        refine ev_iconst (v := (-1)) rfl rfl (by decide) ?_
                        refine ev_istore rfl rfl rfl rfl ?_
                        dsimp only [List.set]
                        have lp199_31771 : ∀ (n : Nat) (w31772 : Int32) (w31773 : Int32) (w31774 : Int32) (h31778 : Hp), B w31772 (-4) 2147483647 → B w31773 (-4) 12 → B w31774 (-1) 12 → JW [(85, 999), (86, 999), (87, 999)] h h31778 → (h31778 63 3 = f1) → (h31778 63 5 = v16430) → (h31778 92 (Int32.toNatClampNeg a3) = v16448) → (h31778 73 (Int32.toNatClampNeg a0) = v29603) → 12 + 1 - w31774.toInt ≤ (n : Int) → EvQ mi_X10_blame 199 [some (.ref 63), some (.int a0), some (.int a1), some (.int a2), some (.int a3), some (.int a4), some (.int a5), some (.int a6), some (.int w31772), some (.int w31773), some (.int w31774), none, none, none, none] [] (G0 L b) h31778 0 0 (QJ (fun r : Int32 => B r (-2147483648) 2147483647) [(85, 999), (86, 999), (87, 999)] (G0 L b) h) := by
                          intro n
                          induction n with
                          | zero =>
                            intro w31772 w31773 w31774 h31778 b31775 b31776 b31777 hJ31779 z31780 z31781 z31782 z31783 hm199
                            exact absurd hm199 (L_zero b31777 (by decide))
                          | succ n ih199 =>
                            intro w31772 w31773 w31774 h31778 b31775 b31776 b31777 hJ31779 z31780 z31781 z31782 z31783 hm199
                            have z31784 := congrArg Int32.toInt z31780
                            refine ev_iload rfl rfl rfl ?_
                            refine ev_aload_n rfl rfl rfl ?_
                            refine ev_getV (v := v16430) rfl rfl fl_X10_121 rfl rfl rfl z31781 ?_
                            refine ev_icmp_ge rfl rfl (fun c31785 => ?_) (fun c31785 => ?_)
                            · have b31786 : B w31774 0 12 := R_leY b16430 b31777 c31785 (by decide)
                              have z31787 := w_le c31785
                              refine ev_iload rfl rfl rfl ?_
                              refine ev_bipush (v := (-4)) rfl rfl (by decide) ?_
                              refine ev_icmp_ne rfl rfl (fun c31790 => ?_) (fun c31790 => ?_)
                              · have b31791 : B w31772 (-3) 2147483647 := R_neL b31775 (by decide : B (-4) (-4) (-4)) c31790 (by decide)
                                have z31792 := w_ne c31790
                                rw [show ((-4) : Int32).toInt = (-4) from by decide] at z31792
                                refine ev_iconst (v := 0) rfl rfl (by decide) ?_
                                refine ev_istore rfl rfl rfl rfl ?_
                                dsimp only [List.set]
                                refine ev_iconst (v := 0) rfl rfl (by decide) ?_
                                refine ev_istore rfl rfl rfl rfl ?_
                                dsimp only [List.set]
                                have lp342_31899 : ∀ (n : Nat) (w31900 : Int32) (w31901 : Int32) (h31904 : Hp), B w31900 0 4095 → B w31901 0 12 → JW [(85, 999), (86, 999), (87, 999)] h h31904 → (h31904 63 3 = f1) → (h31904 63 5 = v16430) → (h31904 92 (Int32.toNatClampNeg a3) = v16448) → (h31904 73 (Int32.toNatClampNeg a0) = v29603) → 12 + 1 - w31901.toInt ≤ (n : Int) → EvQ mi_X10_blame 342 [some (.ref 63), some (.int a0), some (.int a1), some (.int a2), some (.int a3), some (.int a4), some (.int a5), some (.int a6), some (.int w31772), some (.int w31773), some (.int w31900), some (.int w31901), none, none, none] [] (G0 L b) h31904 0 0 (QJ (fun r : Int32 => B r (-2147483648) 2147483647) [(85, 999), (86, 999), (87, 999)] (G0 L b) h) := by
                                  intro n
                                  induction n with
                                  | zero =>
                                    intro w31900 w31901 h31904 b31902 b31903 hJ31905 z31906 z31907 z31908 z31909 hm342
                                    exact absurd hm342 (L_zero b31903 (by decide))
                                  | succ n ih342 =>
                                    intro w31900 w31901 h31904 b31902 b31903 hJ31905 z31906 z31907 z31908 z31909 hm342
                                    have z31910 := congrArg Int32.toInt z31906
                                    refine ev_iload rfl rfl rfl ?_
                                    refine ev_bipush (v := 12) rfl rfl (by decide) ?_
                                    refine ev_icmp_ge rfl rfl (fun c31911 => ?_) (fun c31911 => ?_)
                                    · have b31912 : B w31901 12 12 := R_leY (by decide : B 12 12 12) b31903 c31911 (by decide)
                                      have z31913 := w_le c31911
                                      rw [show (12 : Int32).toInt = 12 from by decide] at z31913
                                      refine ev_iload rfl rfl rfl ?_
                                      refine ev_if_ne rfl rfl (fun c31916 => ?_) (fun c31916 => absurd c31916 (D_ne b16437 (by decide : B 0 0 0) (by decide)))
                                      have z31917 := w_ne c31916
                                      rw [show (0 : Int32).toInt = 0 from by decide] at z31917
                                      refine ev_iload rfl rfl rfl ?_
                                      refine ev_iconst (v := 1) rfl rfl (by decide) ?_
                                      refine ev_icmp_ne rfl rfl (fun c31918 => ?_) (fun c31918 => absurd c31918 (D_ne b16437 (by decide : B 1 1 1) (by decide)))
                                      have z31919 := w_ne c31918
                                      rw [show (1 : Int32).toInt = 1 from by decide] at z31919
                                      refine ev_iload rfl rfl rfl ?_
                                      refine ev_iconst (v := 2) rfl rfl (by decide) ?_
                                      refine ev_icmp_ne rfl rfl (fun c31920 => ?_) (fun c31920 => absurd c31920 (D_ne b16437 (by decide : B 2 2 2) (by decide)))
                                      have z31921 := w_ne c31920
                                      rw [show (2 : Int32).toInt = 2 from by decide] at z31921
                                      refine ev_aload_n rfl rfl rfl ?_
                                      refine ev_getR (y := 87) rfl rfl fl_X10_94 rfl rfl rfl rfl ?_
                                      refine ev_iload rfl rfl rfl ?_
                                      refine ev_bipush (v := 20) rfl rfl (by decide) ?_
                                      refine ev_isubB (l := 0) (u := 11) rfl rfl b16437 (by decide : B 20 20 20) (by decide) (by decide) (by decide) (by decide) (fun v31922 b31922 e31922 g31922 => ?_)
                                      have e31922x := e31922; rw [show (20 : Int32).toInt = 20 from by decide] at e31922x
                                      refine ev_ialW (n := 12) (l := (-2147483648)) (u := 2147483647) hJ31905.1 b31922 (by decide) (by decide) (fun _ => rfl) rfl rfl rfl (fun v31923 b31923 e31923 => ?_)
                                      exact ev_iret rfl rfl rfl ⟨⟨_, rfl, (B.any v31923)⟩, rfl, hJ31905⟩
                                    · have b31914 : B w31901 0 11 := R_ltX b31903 (by decide : B 12 12 12) (Int32.not_le.mp c31911) (by decide)
                                      have z31915 := w_lt (Int32.not_le.mp c31911)
                                      rw [show (12 : Int32).toInt = 12 from by decide] at z31915
                                      refine ev_iload rfl rfl rfl ?_
                                      refine ev_aload_n rfl rfl rfl ?_
                                      refine ev_getR (y := 87) rfl rfl fl_X10_94 rfl rfl rfl rfl ?_
                                      refine ev_iload rfl rfl rfl ?_
                                      refine ev_ialW (n := 12) (l := (-2147483648)) (u := 2147483647) hJ31905.1 b31914 (by decide) (by decide) (fun _ => rfl) rfl rfl rfl (fun v31924 b31924 e31924 => ?_)
                                      refine ev_if_ne rfl rfl (fun c31925 => ?_) (fun c31925 => ?_)
                                      · have z31926 := w_ne c31925
                                        rw [show (0 : Int32).toInt = 0 from by decide] at z31926
                                        refine ev_iconst (v := 1) rfl rfl (by decide) ?_
                                        refine ev_iload rfl rfl rfl ?_
                                        refine ev_ishlB rfl rfl b31914 (by decide) (by decide) (fun v31929 b31929 => ?_)
                                        refine ev_iorB 12 (u := 4095) rfl rfl b31902 b31929 (by decide) (by decide) (by decide) (by decide) (by decide) (by decide) (fun v31930 b31930 e31930 => ?_)
                                        refine ev_istore rfl rfl rfl rfl ?_
                                        dsimp only [List.set]
                                        refine ev_iincB (y := 1) (l := 1) (u := 12) rfl rfl rfl (by decide) rfl rfl b31914 (by decide : B 1 1 1) (by decide) (by decide) (by decide) (by decide) (fun v31931 b31931 e31931 => ?_)
                                        dsimp only [List.set]
                                        have e31931x := e31931; rw [show (1 : Int32).toInt = 1 from by decide] at e31931x
                                        refine ev_goto rfl rfl ?_
                                        exact (ih342 v31930 v31931 h31904 b31930 (b31931.mono (by decide) (by decide)) hJ31905 z31906 z31907 z31908 z31909 (L_up hm342 (e_p1 e31931 (by decide))))
                                      · have b31927 : B v31924 0 0 := R_eqX (B.any v31924) (by decide : B 0 0 0) c31925
                                        have z31928 := congrArg Int32.toInt c31925
                                        rw [show (0 : Int32).toInt = 0 from by decide] at z31928
                                        refine ev_iconst (v := 0) rfl rfl (by decide) ?_
                                        refine ev_goto rfl rfl ?_
                                        refine ev_iorB 12 (u := 4095) rfl rfl b31902 (by decide : B 0 0 0) (by decide) (by decide) (by decide) (by decide) (by decide) (by decide) (fun v31932 b31932 e31932 => ?_)
                                        refine ev_istore rfl rfl rfl rfl ?_
                                        dsimp only [List.set]
                                        refine ev_iincB (y := 1) (l := 1) (u := 12) rfl rfl rfl (by decide) rfl rfl b31914 (by decide : B 1 1 1) (by decide) (by decide) (by decide) (by decide) (fun v31933 b31933 e31933 => ?_)
                                        dsimp only [List.set]
                                        have e31933x := e31933; rw [show (1 : Int32).toInt = 1 from by decide] at e31933x
                                        refine ev_goto rfl rfl ?_
                                        exact (ih342 v31932 v31933 h31904 b31932 (b31933.mono (by decide) (by decide)) hJ31905 z31906 z31907 z31908 z31909 (L_up hm342 (e_p1 e31933 (by decide))))
                                exact (lp342_31899 13 0 0 h31778 ((by decide : B 0 0 0).mono (by decide) (by decide)) ((by decide : B 0 0 0).mono (by decide) (by decide)) hJ31779 z31780 z31781 z31782 z31783 (L_init (by decide : B 0 0 0) (by decide)))
                              · have b31793 : B w31772 (-4) (-4) := R_eqX b31775 (by decide : B (-4) (-4) (-4)) c31790
                                have z31794 := congrArg Int32.toInt c31790
                                rw [show ((-4) : Int32).toInt = (-4) from by decide] at z31794
                                refine ev_sipush (v := (-1004)) rfl rfl (by decide) ?_
                                exact ev_iret rfl rfl rfl ⟨⟨_, rfl, ((by decide : B (-1004) (-1004) (-1004)).mono (by decide) (by decide))⟩, rfl, hJ31779⟩
                            · have b31788 : B w31774 (-1) 11 := R_ltX b31777 b16430 (Int32.not_le.mp c31785) (by decide)
                              have z31789 := w_lt (Int32.not_le.mp c31785)
                              refine ev_iload rfl rfl rfl ?_
                              refine ev_if_ge rfl rfl (fun c31934 => ?_) (fun c31934 => ?_)
                              · have b31935 : B w31774 0 11 := R_leY (by decide : B 0 0 0) b31788 c31934 (by decide)
                                have z31936 := w_le c31934
                                rw [show (0 : Int32).toInt = 0 from by decide] at z31936
                                refine ev_iload rfl rfl rfl ?_
                                refine ev_istore rfl rfl rfl rfl ?_
                                dsimp only [List.set]
                                refine ev_aload_n rfl rfl rfl ?_
                                refine ev_iload_n rfl rfl rfl ?_
                                refine ev_iload_n rfl rfl rfl ?_
                                refine ev_iload_n rfl rfl rfl ?_
                                refine ev_iload rfl rfl rfl ?_
                                refine ev_iload rfl rfl rfl ?_
                                refine ev_iload rfl rfl rfl ?_
                                refine ev_V6J hJ31779 rfl rfl rfl lk_X10_338 vt_X10_explains rfl rfl rfl rfl rfl (w_X10_explains_63 L b h31778 hJ31779.1 a0 b7 a1 b16 a2 b26 a3 b33 a5 w31774 (KM.keep (pp16442_0 c16443 b16) hJ31779 (fun _ => rfl) (fun _ => rfl)) (IXP.keep (IXP.all u133_0 (by have q_ := congrArg Int32.toInt z31783; have q2_ := congrArg Int32.toInt (hJ31779.2 73 (Int32.toNatClampNeg a0) rfl); omega)) hJ31779 (fun _ => rfl) (fun _ => rfl) (fun _ => rfl))) (fun r31939 h31939 q31939 hJ31939 k31939 => ?_)
                                refine ev_istore rfl rfl rfl rfl ?_
                                dsimp only [List.set]
                                refine ev_iload rfl rfl rfl ?_
                                refine ev_if_ge rfl rfl (fun c31940 => ?_) (fun c31940 => ?_)
                                · have b31941 : B r31939 0 2147483647 := R_leY (by decide : B 0 0 0) (B.any r31939) c31940 (by decide)
                                  have z31942 := w_le c31940
                                  rw [show (0 : Int32).toInt = 0 from by decide] at z31942
                                  refine ev_iload rfl rfl rfl ?_
                                  refine ev_iload rfl rfl rfl ?_
                                  refine ev_if_ge rfl rfl (fun c31945 => ?_) (fun c31945 => absurd (D_le (by decide : B 0 0 0) b31935 (by decide)) c31945)
                                  have z31946 := w_le c31945
                                  rw [show (0 : Int32).toInt = 0 from by decide] at z31946
                                  refine ev_iconst (v := 1) rfl rfl (by decide) ?_
                                  refine ev_iaddA rfl rfl (fun v31947 g31947 => ?_)
                                  refine ev_istore rfl rfl rfl rfl ?_
                                  dsimp only [List.set]
                                  refine ev_iload rfl rfl rfl ?_
                                  refine ev_if_lt rfl rfl (fun c31948 => ?_) (fun c31948 => ?_)
                                  · have b31949 : B v31947 (-2147483648) (-1) := R_ltX (B.any v31947) (by decide : B 0 0 0) c31948 (by decide)
                                    have z31950 := w_lt c31948
                                    rw [show (0 : Int32).toInt = 0 from by decide] at z31950
                                    refine ev_iincB (y := 1) (l := 1) (u := 12) rfl rfl rfl (by decide) rfl rfl b31935 (by decide : B 1 1 1) (by decide) (by decide) (by decide) (by decide) (fun v31953 b31953 e31953 => ?_)
                                    dsimp only [List.set]
                                    have e31953x := e31953; rw [show (1 : Int32).toInt = 1 from by decide] at e31953x
                                    refine ev_goto rfl rfl ?_
                                    exact (EvQ.drop 13 (EvQ.drop 12 (EvQ.drop 11 (ih199 w31772 w31773 v31953 h31939 b31775 b31776 (b31953.mono (by decide) (by decide)) hJ31939 (rd_w k31939 z31780 rfl) (rd_w k31939 z31781 rfl) (rd_w k31939 z31782 rfl) (rd_w k31939 z31783 rfl) (L_up hm199 (e_p1 e31953 (by decide)))))))
                                  · have b31951 : B v31947 0 2147483647 := R_leY (by decide : B 0 0 0) (B.any v31947) (Int32.not_lt.mp c31948) (by decide)
                                    have z31952 := w_le (Int32.not_lt.mp c31948)
                                    rw [show (0 : Int32).toInt = 0 from by decide] at z31952
                                    refine ev_iload rfl rfl rfl ?_
                                    refine ev_bipush (v := (-4)) rfl rfl (by decide) ?_
                                    refine ev_icmp_eq rfl rfl (fun c31954 => ?_) (fun c31954 => ?_)
                                    · have b31955 : B w31772 (-4) (-4) := R_eqX b31775 (by decide : B (-4) (-4) (-4)) c31954
                                      have z31956 := congrArg Int32.toInt c31954
                                      rw [show ((-4) : Int32).toInt = (-4) from by decide] at z31956
                                      refine ev_iload rfl rfl rfl ?_
                                      refine ev_istore rfl rfl rfl rfl ?_
                                      dsimp only [List.set]
                                      refine ev_iload rfl rfl rfl ?_
                                      refine ev_istore rfl rfl rfl rfl ?_
                                      dsimp only [List.set]
                                      refine ev_iconst (v := 0) rfl rfl (by decide) ?_
                                      refine ev_istore rfl rfl rfl rfl ?_
                                      dsimp only [List.set]
                                      have lp292_32002 : ∀ (n : Nat) (w32003 : Int32) (h32005 : Hp), B w32003 0 12 → JW [(85, 999), (86, 999), (87, 999)] h h32005 → (h32005 63 3 = f1) → (h32005 63 5 = v16430) → (h32005 92 (Int32.toNatClampNeg a3) = v16448) → (h32005 73 (Int32.toNatClampNeg a0) = v29603) → 12 + 1 - w32003.toInt ≤ (n : Int) → EvQ mi_X10_blame 292 [some (.ref 63), some (.int a0), some (.int a1), some (.int a2), some (.int a3), some (.int a4), some (.int a5), some (.int a6), some (.int v31947), some (.int w31774), some (.int w31774), some (.int w31774), some (.int r31939), some (.int v31947), some (.int w32003)] [] (G0 L b) h32005 0 0 (QJ (fun r : Int32 => B r (-2147483648) 2147483647) [(85, 999), (86, 999), (87, 999)] (G0 L b) h) := by
                                        intro n
                                        induction n with
                                        | zero =>
                                          intro w32003 h32005 b32004 hJ32006 z32007 z32008 z32009 z32010 hm292
                                          exact absurd hm292 (L_zero b32004 (by decide))
                                        | succ n ih292 =>
                                          intro w32003 h32005 b32004 hJ32006 z32007 z32008 z32009 z32010 hm292
                                          have z32011 := congrArg Int32.toInt z32007
                                          refine ev_iload rfl rfl rfl ?_
                                          refine ev_bipush (v := 12) rfl rfl (by decide) ?_
                                          refine ev_icmp_ge rfl rfl (fun c32012 => ?_) (fun c32012 => ?_)
                                          · have b32013 : B w32003 12 12 := R_leY (by decide : B 12 12 12) b32004 c32012 (by decide)
                                            have z32014 := w_le c32012
                                            rw [show (12 : Int32).toInt = 12 from by decide] at z32014
                                            refine ev_iincB (y := 1) (l := 1) (u := 12) rfl rfl rfl (by decide) rfl rfl b31935 (by decide : B 1 1 1) (by decide) (by decide) (by decide) (by decide) (fun v32017 b32017 e32017 => ?_)
                                            dsimp only [List.set]
                                            have e32017x := e32017; rw [show (1 : Int32).toInt = 1 from by decide] at e32017x
                                            refine ev_goto rfl rfl ?_
                                            exact (EvQ.drop 14 (EvQ.drop 13 (EvQ.drop 12 (EvQ.drop 11 (ih199 v31947 w31774 v32017 h32005 (b31951.mono (by decide) (by decide)) (b31935.mono (by decide) (by decide)) (b32017.mono (by decide) (by decide)) hJ32006 z32007 z32008 z32009 z32010 (L_up hm199 (e_p1 e32017 (by decide))))))))
                                          · have b32015 : B w32003 0 11 := R_ltX b32004 (by decide : B 12 12 12) (Int32.not_le.mp c32012) (by decide)
                                            have z32016 := w_lt (Int32.not_le.mp c32012)
                                            rw [show (12 : Int32).toInt = 12 from by decide] at z32016
                                            refine ev_aload_n rfl rfl rfl ?_
                                            refine ev_getR (y := 87) rfl rfl fl_X10_94 rfl rfl rfl rfl ?_
                                            refine ev_iload rfl rfl rfl ?_
                                            refine ev_aload_n rfl rfl rfl ?_
                                            refine ev_getR (y := 85) rfl rfl fl_X10_88 rfl rfl rfl rfl ?_
                                            refine ev_iload rfl rfl rfl ?_
                                            refine ev_ialW (n := 12) (l := (-2147483648)) (u := 2147483647) hJ32006.1 b32015 (by decide) (by decide) (fun _ => rfl) rfl rfl rfl (fun v32018 b32018 e32018 => ?_)
                                            refine ev_iasW (n := 12) (l := (-2147483648)) (u := 2147483647) hJ32006 b32015 (by decide) (by decide) (fun _ => rfl) (B.any v32018) (by decide) (by decide) (fun _ => rfl) rfl rfl rfl rfl (fun h32019 hJ32019 k32019 => ?_)
                                            refine ev_iincB (y := 1) (l := 1) (u := 12) rfl rfl rfl (by decide) rfl rfl b32015 (by decide : B 1 1 1) (by decide) (by decide) (by decide) (by decide) (fun v32020 b32020 e32020 => ?_)
                                            dsimp only [List.set]
                                            have e32020x := e32020; rw [show (1 : Int32).toInt = 1 from by decide] at e32020x
                                            refine ev_goto rfl rfl ?_
                                            exact (ih292 v32020 h32019 (b32020.mono (by decide) (by decide)) hJ32019 (rd_a k32019 z32007 rfl) (rd_a k32019 z32008 rfl) (rd_a k32019 z32009 rfl) (rd_a k32019 z32010 rfl) (L_up hm292 (e_p1 e32020 (by decide))))
                                      exact (lp292_32002 13 0 h31939 ((by decide : B 0 0 0).mono (by decide) (by decide)) hJ31939 (rd_w k31939 z31780 rfl) (rd_w k31939 z31781 rfl) (rd_w k31939 z31782 rfl) (rd_w k31939 z31783 rfl) (L_init (by decide : B 0 0 0) (by decide)))
                                    · have b31957 : B w31772 (-3) 2147483647 := R_neL b31775 (by decide : B (-4) (-4) (-4)) c31954 (by decide)
                                      have z31958 := w_ne c31954
                                      rw [show ((-4) : Int32).toInt = (-4) from by decide] at z31958
                                      refine ev_iload rfl rfl rfl ?_
                                      refine ev_iload rfl rfl rfl ?_
                                      refine ev_icmp_ge rfl rfl (fun c32021 => ?_) (fun c32021 => ?_)
                                      · have z32022 := w_le c32021
                                        refine ev_iincB (y := 1) (l := 1) (u := 12) rfl rfl rfl (by decide) rfl rfl b31935 (by decide : B 1 1 1) (by decide) (by decide) (by decide) (by decide) (fun v32026 b32026 e32026 => ?_)
                                        dsimp only [List.set]
                                        have e32026x := e32026; rw [show (1 : Int32).toInt = 1 from by decide] at e32026x
                                        refine ev_goto rfl rfl ?_
                                        exact (EvQ.drop 13 (EvQ.drop 12 (EvQ.drop 11 (ih199 w31772 w31773 v32026 h31939 (b31957.mono (by decide) (by decide)) b31776 (b32026.mono (by decide) (by decide)) hJ31939 (rd_w k31939 z31780 rfl) (rd_w k31939 z31781 rfl) (rd_w k31939 z31782 rfl) (rd_w k31939 z31783 rfl) (L_up hm199 (e_p1 e32026 (by decide)))))))
                                      · have b32023 : B v31947 0 2147483646 := R_ltX b31951 b31957 (Int32.not_le.mp c32021) (by decide)
                                        have b32024 : B w31772 1 2147483647 := R_ltY b31951 b31957 (Int32.not_le.mp c32021) (by decide)
                                        have z32025 := w_lt (Int32.not_le.mp c32021)
                                        refine ev_iload rfl rfl rfl ?_
                                        refine ev_istore rfl rfl rfl rfl ?_
                                        dsimp only [List.set]
                                        refine ev_iload rfl rfl rfl ?_
                                        refine ev_istore rfl rfl rfl rfl ?_
                                        dsimp only [List.set]
                                        refine ev_iconst (v := 0) rfl rfl (by decide) ?_
                                        refine ev_istore rfl rfl rfl rfl ?_
                                        dsimp only [List.set]
                                        have lp292_32070 : ∀ (n : Nat) (w32071 : Int32) (h32073 : Hp), B w32071 0 12 → JW [(85, 999), (86, 999), (87, 999)] h h32073 → (h32073 63 3 = f1) → (h32073 63 5 = v16430) → (h32073 92 (Int32.toNatClampNeg a3) = v16448) → (h32073 73 (Int32.toNatClampNeg a0) = v29603) → 12 + 1 - w32071.toInt ≤ (n : Int) → EvQ mi_X10_blame 292 [some (.ref 63), some (.int a0), some (.int a1), some (.int a2), some (.int a3), some (.int a4), some (.int a5), some (.int a6), some (.int v31947), some (.int w31774), some (.int w31774), some (.int w31774), some (.int r31939), some (.int v31947), some (.int w32071)] [] (G0 L b) h32073 0 0 (QJ (fun r : Int32 => B r (-2147483648) 2147483647) [(85, 999), (86, 999), (87, 999)] (G0 L b) h) := by
                                          intro n
                                          induction n with
                                          | zero =>
                                            intro w32071 h32073 b32072 hJ32074 z32075 z32076 z32077 z32078 hm292
                                            exact absurd hm292 (L_zero b32072 (by decide))
                                          | succ n ih292 =>
                                            intro w32071 h32073 b32072 hJ32074 z32075 z32076 z32077 z32078 hm292
                                            have z32079 := congrArg Int32.toInt z32075
                                            refine ev_iload rfl rfl rfl ?_
                                            refine ev_bipush (v := 12) rfl rfl (by decide) ?_
                                            refine ev_icmp_ge rfl rfl (fun c32080 => ?_) (fun c32080 => ?_)
                                            · have b32081 : B w32071 12 12 := R_leY (by decide : B 12 12 12) b32072 c32080 (by decide)
                                              have z32082 := w_le c32080
                                              rw [show (12 : Int32).toInt = 12 from by decide] at z32082
                                              refine ev_iincB (y := 1) (l := 1) (u := 12) rfl rfl rfl (by decide) rfl rfl b31935 (by decide : B 1 1 1) (by decide) (by decide) (by decide) (by decide) (fun v32085 b32085 e32085 => ?_)
                                              dsimp only [List.set]
                                              have e32085x := e32085; rw [show (1 : Int32).toInt = 1 from by decide] at e32085x
                                              refine ev_goto rfl rfl ?_
                                              exact (EvQ.drop 14 (EvQ.drop 13 (EvQ.drop 12 (EvQ.drop 11 (ih199 v31947 w31774 v32085 h32073 (b32023.mono (by decide) (by decide)) (b31935.mono (by decide) (by decide)) (b32085.mono (by decide) (by decide)) hJ32074 z32075 z32076 z32077 z32078 (L_up hm199 (e_p1 e32085 (by decide))))))))
                                            · have b32083 : B w32071 0 11 := R_ltX b32072 (by decide : B 12 12 12) (Int32.not_le.mp c32080) (by decide)
                                              have z32084 := w_lt (Int32.not_le.mp c32080)
                                              rw [show (12 : Int32).toInt = 12 from by decide] at z32084
                                              refine ev_aload_n rfl rfl rfl ?_
                                              refine ev_getR (y := 87) rfl rfl fl_X10_94 rfl rfl rfl rfl ?_
                                              refine ev_iload rfl rfl rfl ?_
                                              refine ev_aload_n rfl rfl rfl ?_
                                              refine ev_getR (y := 85) rfl rfl fl_X10_88 rfl rfl rfl rfl ?_
                                              refine ev_iload rfl rfl rfl ?_
                                              refine ev_ialW (n := 12) (l := (-2147483648)) (u := 2147483647) hJ32074.1 b32083 (by decide) (by decide) (fun _ => rfl) rfl rfl rfl (fun v32086 b32086 e32086 => ?_)
                                              refine ev_iasW (n := 12) (l := (-2147483648)) (u := 2147483647) hJ32074 b32083 (by decide) (by decide) (fun _ => rfl) (B.any v32086) (by decide) (by decide) (fun _ => rfl) rfl rfl rfl rfl (fun h32087 hJ32087 k32087 => ?_)
                                              refine ev_iincB (y := 1) (l := 1) (u := 12) rfl rfl rfl (by decide) rfl rfl b32083 (by decide : B 1 1 1) (by decide) (by decide) (by decide) (by decide) (fun v32088 b32088 e32088 => ?_)
                                              dsimp only [List.set]
                                              have e32088x := e32088; rw [show (1 : Int32).toInt = 1 from by decide] at e32088x
                                              refine ev_goto rfl rfl ?_
                                              exact (ih292 v32088 h32087 (b32088.mono (by decide) (by decide)) hJ32087 (rd_a k32087 z32075 rfl) (rd_a k32087 z32076 rfl) (rd_a k32087 z32077 rfl) (rd_a k32087 z32078 rfl) (L_up hm292 (e_p1 e32088 (by decide))))
                                        exact (lp292_32070 13 0 h31939 ((by decide : B 0 0 0).mono (by decide) (by decide)) hJ31939 (rd_w k31939 z31780 rfl) (rd_w k31939 z31781 rfl) (rd_w k31939 z31782 rfl) (rd_w k31939 z31783 rfl) (L_init (by decide : B 0 0 0) (by decide)))
                                · have b31943 : B r31939 (-2147483648) (-1) := R_ltX (B.any r31939) (by decide : B 0 0 0) (Int32.not_le.mp c31940) (by decide)
                                  have z31944 := w_lt (Int32.not_le.mp c31940)
                                  rw [show (0 : Int32).toInt = 0 from by decide] at z31944
                                  refine ev_bipush (v := (-4)) rfl rfl (by decide) ?_
                                  refine ev_goto rfl rfl ?_
                                  refine ev_istore rfl rfl rfl rfl ?_
                                  dsimp only [List.set]
                                  refine ev_iload rfl rfl rfl ?_
                                  refine ev_if_lt rfl rfl (fun c32089 => ?_) (fun c32089 => absurd (D_lt (by decide : B (-4) (-4) (-4)) (by decide : B 0 0 0) (by decide)) c32089)
                                  have z32090 := w_lt c32089
                                  rw [show ((-4) : Int32).toInt = (-4) from by decide] at z32090
                                  rw [show (0 : Int32).toInt = 0 from by decide] at z32090
                                  refine ev_iincB (y := 1) (l := 1) (u := 12) rfl rfl rfl (by decide) rfl rfl b31935 (by decide : B 1 1 1) (by decide) (by decide) (by decide) (by decide) (fun v32091 b32091 e32091 => ?_)
                                  dsimp only [List.set]
                                  have e32091x := e32091; rw [show (1 : Int32).toInt = 1 from by decide] at e32091x
                                  refine ev_goto rfl rfl ?_
                                  exact (EvQ.drop 13 (EvQ.drop 12 (EvQ.drop 11 (ih199 w31772 w31773 v32091 h31939 b31775 b31776 (b32091.mono (by decide) (by decide)) hJ31939 (rd_w k31939 z31780 rfl) (rd_w k31939 z31781 rfl) (rd_w k31939 z31782 rfl) (rd_w k31939 z31783 rfl) (L_up hm199 (e_p1 e32091 (by decide)))))))
                              · have b31937 : B w31774 (-1) (-1) := R_ltX b31788 (by decide : B 0 0 0) (Int32.not_le.mp c31934) (by decide)
                                have z31938 := w_lt (Int32.not_le.mp c31934)
                                rw [show (0 : Int32).toInt = 0 from by decide] at z31938
                                refine ev_bipush (v := (-4)) rfl rfl (by decide) ?_
                                refine ev_goto rfl rfl ?_
                                refine ev_istore rfl rfl rfl rfl ?_
                                dsimp only [List.set]
                                refine ev_aload_n rfl rfl rfl ?_
                                refine ev_iload_n rfl rfl rfl ?_
                                refine ev_iload_n rfl rfl rfl ?_
                                refine ev_iload_n rfl rfl rfl ?_
                                refine ev_iload rfl rfl rfl ?_
                                refine ev_iload rfl rfl rfl ?_
                                refine ev_iload rfl rfl rfl ?_
                                refine ev_V6J hJ31779 rfl rfl rfl lk_X10_338 vt_X10_explains rfl rfl rfl rfl rfl (w_X10_explains_63 L b h31778 hJ31779.1 a0 b7 a1 b16 a2 b26 a3 b33 a5 (-4) (KM.keep (pp16442_0 c16443 b16) hJ31779 (fun _ => rfl) (fun _ => rfl)) (IXP.keep (IXP.all u133_0 (by have q_ := congrArg Int32.toInt z31783; have q2_ := congrArg Int32.toInt (hJ31779.2 73 (Int32.toNatClampNeg a0) rfl); omega)) hJ31779 (fun _ => rfl) (fun _ => rfl) (fun _ => rfl))) (fun r32092 h32092 q32092 hJ32092 k32092 => ?_)
                                refine ev_istore rfl rfl rfl rfl ?_
                                dsimp only [List.set]
                                refine ev_iload rfl rfl rfl ?_
                                refine ev_if_ge rfl rfl (fun c32093 => ?_) (fun c32093 => ?_)
                                · have b32094 : B r32092 0 2147483647 := R_leY (by decide : B 0 0 0) (B.any r32092) c32093 (by decide)
                                  have z32095 := w_le c32093
                                  rw [show (0 : Int32).toInt = 0 from by decide] at z32095
                                  refine ev_iload rfl rfl rfl ?_
                                  refine ev_iload rfl rfl rfl ?_
                                  refine ev_if_ge rfl rfl (fun c32098 => absurd c32098 (D_nle (by decide : B 0 0 0) b31937 (by decide))) (fun c32098 => ?_)
                                  have z32099 := w_lt (Int32.not_le.mp c32098)
                                  rw [show (0 : Int32).toInt = 0 from by decide] at z32099
                                  refine ev_iconst (v := 0) rfl rfl (by decide) ?_
                                  refine ev_goto rfl rfl ?_
                                  refine ev_iaddB (l := 0) (u := 2147483647) rfl rfl b32094 (by decide : B 0 0 0) (by decide) (by decide) (by decide) (by decide) (fun v32100 b32100 e32100 g32100 => ?_)
                                  have e32100x := e32100; rw [show (0 : Int32).toInt = 0 from by decide] at e32100x
                                  refine ev_istore rfl rfl rfl rfl ?_
                                  dsimp only [List.set]
                                  refine ev_iload rfl rfl rfl ?_
                                  refine ev_if_lt rfl rfl (fun c32101 => absurd c32101 (D_nlt b32100 (by decide : B 0 0 0) (by decide))) (fun c32101 => ?_)
                                  have z32102 := w_le (Int32.not_lt.mp c32101)
                                  rw [show (0 : Int32).toInt = 0 from by decide] at z32102
                                  refine ev_iload rfl rfl rfl ?_
                                  refine ev_bipush (v := (-4)) rfl rfl (by decide) ?_
                                  refine ev_icmp_eq rfl rfl (fun c32103 => ?_) (fun c32103 => ?_)
                                  · have b32104 : B w31772 (-4) (-4) := R_eqX b31775 (by decide : B (-4) (-4) (-4)) c32103
                                    have z32105 := congrArg Int32.toInt c32103
                                    rw [show ((-4) : Int32).toInt = (-4) from by decide] at z32105
                                    refine ev_iload rfl rfl rfl ?_
                                    refine ev_istore rfl rfl rfl rfl ?_
                                    dsimp only [List.set]
                                    refine ev_iload rfl rfl rfl ?_
                                    refine ev_istore rfl rfl rfl rfl ?_
                                    dsimp only [List.set]
                                    refine ev_iconst (v := 0) rfl rfl (by decide) ?_
                                    refine ev_istore rfl rfl rfl rfl ?_
                                    dsimp only [List.set]
                                    have lp292_32151 : ∀ (n : Nat) (w32152 : Int32) (h32154 : Hp), B w32152 0 12 → JW [(85, 999), (86, 999), (87, 999)] h h32154 → (h32154 63 3 = f1) → (h32154 63 5 = v16430) → (h32154 92 (Int32.toNatClampNeg a3) = v16448) → (h32154 73 (Int32.toNatClampNeg a0) = v29603) → 12 + 1 - w32152.toInt ≤ (n : Int) → EvQ mi_X10_blame 292 [some (.ref 63), some (.int a0), some (.int a1), some (.int a2), some (.int a3), some (.int a4), some (.int a5), some (.int a6), some (.int v32100), some (.int (-4)), some (.int w31774), some (.int (-4)), some (.int r32092), some (.int v32100), some (.int w32152)] [] (G0 L b) h32154 0 0 (QJ (fun r : Int32 => B r (-2147483648) 2147483647) [(85, 999), (86, 999), (87, 999)] (G0 L b) h) := by
                                      intro n
                                      induction n with
                                      | zero =>
                                        intro w32152 h32154 b32153 hJ32155 z32156 z32157 z32158 z32159 hm292
                                        exact absurd hm292 (L_zero b32153 (by decide))
                                      | succ n ih292 =>
                                        intro w32152 h32154 b32153 hJ32155 z32156 z32157 z32158 z32159 hm292
                                        have z32160 := congrArg Int32.toInt z32156
                                        refine ev_iload rfl rfl rfl ?_
                                        refine ev_bipush (v := 12) rfl rfl (by decide) ?_
                                        refine ev_icmp_ge rfl rfl (fun c32161 => ?_) (fun c32161 => ?_)
                                        · have b32162 : B w32152 12 12 := R_leY (by decide : B 12 12 12) b32153 c32161 (by decide)
                                          have z32163 := w_le c32161
                                          rw [show (12 : Int32).toInt = 12 from by decide] at z32163
                                          refine ev_iincB (y := 1) (l := 0) (u := 0) rfl rfl rfl (by decide) rfl rfl b31937 (by decide : B 1 1 1) (by decide) (by decide) (by decide) (by decide) (fun v32166 b32166 e32166 => ?_)
                                          dsimp only [List.set]
                                          have e32166x := e32166; rw [show (1 : Int32).toInt = 1 from by decide] at e32166x
                                          refine ev_goto rfl rfl ?_
                                          exact (EvQ.drop 14 (EvQ.drop 13 (EvQ.drop 12 (EvQ.drop 11 (ih199 v32100 (-4) v32166 h32154 (b32100.mono (by decide) (by decide)) ((by decide : B (-4) (-4) (-4)).mono (by decide) (by decide)) (b32166.mono (by decide) (by decide)) hJ32155 z32156 z32157 z32158 z32159 (L_up hm199 (e_p1 e32166 (by decide))))))))
                                        · have b32164 : B w32152 0 11 := R_ltX b32153 (by decide : B 12 12 12) (Int32.not_le.mp c32161) (by decide)
                                          have z32165 := w_lt (Int32.not_le.mp c32161)
                                          rw [show (12 : Int32).toInt = 12 from by decide] at z32165
                                          refine ev_aload_n rfl rfl rfl ?_
                                          refine ev_getR (y := 87) rfl rfl fl_X10_94 rfl rfl rfl rfl ?_
                                          refine ev_iload rfl rfl rfl ?_
                                          refine ev_aload_n rfl rfl rfl ?_
                                          refine ev_getR (y := 85) rfl rfl fl_X10_88 rfl rfl rfl rfl ?_
                                          refine ev_iload rfl rfl rfl ?_
                                          refine ev_ialW (n := 12) (l := (-2147483648)) (u := 2147483647) hJ32155.1 b32164 (by decide) (by decide) (fun _ => rfl) rfl rfl rfl (fun v32167 b32167 e32167 => ?_)
                                          refine ev_iasW (n := 12) (l := (-2147483648)) (u := 2147483647) hJ32155 b32164 (by decide) (by decide) (fun _ => rfl) (B.any v32167) (by decide) (by decide) (fun _ => rfl) rfl rfl rfl rfl (fun h32168 hJ32168 k32168 => ?_)
                                          refine ev_iincB (y := 1) (l := 1) (u := 12) rfl rfl rfl (by decide) rfl rfl b32164 (by decide : B 1 1 1) (by decide) (by decide) (by decide) (by decide) (fun v32169 b32169 e32169 => ?_)
                                          dsimp only [List.set]
                                          have e32169x := e32169; rw [show (1 : Int32).toInt = 1 from by decide] at e32169x
                                          refine ev_goto rfl rfl ?_
                                          exact (ih292 v32169 h32168 (b32169.mono (by decide) (by decide)) hJ32168 (rd_a k32168 z32156 rfl) (rd_a k32168 z32157 rfl) (rd_a k32168 z32158 rfl) (rd_a k32168 z32159 rfl) (L_up hm292 (e_p1 e32169 (by decide))))
                                    exact (lp292_32151 13 0 h32092 ((by decide : B 0 0 0).mono (by decide) (by decide)) hJ32092 (rd_w k32092 z31780 rfl) (rd_w k32092 z31781 rfl) (rd_w k32092 z31782 rfl) (rd_w k32092 z31783 rfl) (L_init (by decide : B 0 0 0) (by decide)))
                                  · have b32106 : B w31772 (-3) 2147483647 := R_neL b31775 (by decide : B (-4) (-4) (-4)) c32103 (by decide)
                                    have z32107 := w_ne c32103
                                    rw [show ((-4) : Int32).toInt = (-4) from by decide] at z32107
                                    refine ev_iload rfl rfl rfl ?_
                                    refine ev_iload rfl rfl rfl ?_
                                    refine ev_icmp_ge rfl rfl (fun c32170 => ?_) (fun c32170 => ?_)
                                    · have z32171 := w_le c32170
                                      refine ev_iincB (y := 1) (l := 0) (u := 0) rfl rfl rfl (by decide) rfl rfl b31937 (by decide : B 1 1 1) (by decide) (by decide) (by decide) (by decide) (fun v32176 b32176 e32176 => ?_)
                                      dsimp only [List.set]
                                      have e32176x := e32176; rw [show (1 : Int32).toInt = 1 from by decide] at e32176x
                                      refine ev_goto rfl rfl ?_
                                      exact (EvQ.drop 13 (EvQ.drop 12 (EvQ.drop 11 (ih199 w31772 w31773 v32176 h32092 (b32106.mono (by decide) (by decide)) b31776 (b32176.mono (by decide) (by decide)) hJ32092 (rd_w k32092 z31780 rfl) (rd_w k32092 z31781 rfl) (rd_w k32092 z31782 rfl) (rd_w k32092 z31783 rfl) (L_up hm199 (e_p1 e32176 (by decide)))))))
                                    · have b32172 : B v32100 0 2147483646 := R_ltX b32100 b32106 (Int32.not_le.mp c32170) (by decide)
                                      have b32173 : B r32092 0 2147483646 := (R_bk (l' := 0) (u' := 2147483646) e32100 b32172 (by decide : B 0 0 0) (by decide) (by decide))
                                      have b32174 : B w31772 1 2147483647 := R_ltY b32100 b32106 (Int32.not_le.mp c32170) (by decide)
                                      have z32175 := w_lt (Int32.not_le.mp c32170)
                                      refine ev_iload rfl rfl rfl ?_
                                      refine ev_istore rfl rfl rfl rfl ?_
                                      dsimp only [List.set]
                                      refine ev_iload rfl rfl rfl ?_
                                      refine ev_istore rfl rfl rfl rfl ?_
                                      dsimp only [List.set]
                                      refine ev_iconst (v := 0) rfl rfl (by decide) ?_
                                      refine ev_istore rfl rfl rfl rfl ?_
                                      dsimp only [List.set]
                                      have lp292_32220 : ∀ (n : Nat) (w32221 : Int32) (h32223 : Hp), B w32221 0 12 → JW [(85, 999), (86, 999), (87, 999)] h h32223 → (h32223 63 3 = f1) → (h32223 63 5 = v16430) → (h32223 92 (Int32.toNatClampNeg a3) = v16448) → (h32223 73 (Int32.toNatClampNeg a0) = v29603) → 12 + 1 - w32221.toInt ≤ (n : Int) → EvQ mi_X10_blame 292 [some (.ref 63), some (.int a0), some (.int a1), some (.int a2), some (.int a3), some (.int a4), some (.int a5), some (.int a6), some (.int v32100), some (.int (-4)), some (.int w31774), some (.int (-4)), some (.int r32092), some (.int v32100), some (.int w32221)] [] (G0 L b) h32223 0 0 (QJ (fun r : Int32 => B r (-2147483648) 2147483647) [(85, 999), (86, 999), (87, 999)] (G0 L b) h) := by
                                        intro n
                                        induction n with
                                        | zero =>
                                          intro w32221 h32223 b32222 hJ32224 z32225 z32226 z32227 z32228 hm292
                                          exact absurd hm292 (L_zero b32222 (by decide))
                                        | succ n ih292 =>
                                          intro w32221 h32223 b32222 hJ32224 z32225 z32226 z32227 z32228 hm292
                                          have z32229 := congrArg Int32.toInt z32225
                                          refine ev_iload rfl rfl rfl ?_
                                          refine ev_bipush (v := 12) rfl rfl (by decide) ?_
                                          refine ev_icmp_ge rfl rfl (fun c32230 => ?_) (fun c32230 => ?_)
                                          · have b32231 : B w32221 12 12 := R_leY (by decide : B 12 12 12) b32222 c32230 (by decide)
                                            have z32232 := w_le c32230
                                            rw [show (12 : Int32).toInt = 12 from by decide] at z32232
                                            refine ev_iincB (y := 1) (l := 0) (u := 0) rfl rfl rfl (by decide) rfl rfl b31937 (by decide : B 1 1 1) (by decide) (by decide) (by decide) (by decide) (fun v32235 b32235 e32235 => ?_)
                                            dsimp only [List.set]
                                            have e32235x := e32235; rw [show (1 : Int32).toInt = 1 from by decide] at e32235x
                                            refine ev_goto rfl rfl ?_
                                            exact (EvQ.drop 14 (EvQ.drop 13 (EvQ.drop 12 (EvQ.drop 11 (ih199 v32100 (-4) v32235 h32223 (b32172.mono (by decide) (by decide)) ((by decide : B (-4) (-4) (-4)).mono (by decide) (by decide)) (b32235.mono (by decide) (by decide)) hJ32224 z32225 z32226 z32227 z32228 (L_up hm199 (e_p1 e32235 (by decide))))))))
                                          · have b32233 : B w32221 0 11 := R_ltX b32222 (by decide : B 12 12 12) (Int32.not_le.mp c32230) (by decide)
                                            have z32234 := w_lt (Int32.not_le.mp c32230)
                                            rw [show (12 : Int32).toInt = 12 from by decide] at z32234
                                            refine ev_aload_n rfl rfl rfl ?_
                                            refine ev_getR (y := 87) rfl rfl fl_X10_94 rfl rfl rfl rfl ?_
                                            refine ev_iload rfl rfl rfl ?_
                                            refine ev_aload_n rfl rfl rfl ?_
                                            refine ev_getR (y := 85) rfl rfl fl_X10_88 rfl rfl rfl rfl ?_
                                            refine ev_iload rfl rfl rfl ?_
                                            refine ev_ialW (n := 12) (l := (-2147483648)) (u := 2147483647) hJ32224.1 b32233 (by decide) (by decide) (fun _ => rfl) rfl rfl rfl (fun v32236 b32236 e32236 => ?_)
                                            refine ev_iasW (n := 12) (l := (-2147483648)) (u := 2147483647) hJ32224 b32233 (by decide) (by decide) (fun _ => rfl) (B.any v32236) (by decide) (by decide) (fun _ => rfl) rfl rfl rfl rfl (fun h32237 hJ32237 k32237 => ?_)
                                            refine ev_iincB (y := 1) (l := 1) (u := 12) rfl rfl rfl (by decide) rfl rfl b32233 (by decide : B 1 1 1) (by decide) (by decide) (by decide) (by decide) (fun v32238 b32238 e32238 => ?_)
                                            dsimp only [List.set]
                                            have e32238x := e32238; rw [show (1 : Int32).toInt = 1 from by decide] at e32238x
                                            refine ev_goto rfl rfl ?_
                                            exact (ih292 v32238 h32237 (b32238.mono (by decide) (by decide)) hJ32237 (rd_a k32237 z32225 rfl) (rd_a k32237 z32226 rfl) (rd_a k32237 z32227 rfl) (rd_a k32237 z32228 rfl) (L_up hm292 (e_p1 e32238 (by decide))))
                                      exact (lp292_32220 13 0 h32092 ((by decide : B 0 0 0).mono (by decide) (by decide)) hJ32092 (rd_w k32092 z31780 rfl) (rd_w k32092 z31781 rfl) (rd_w k32092 z31782 rfl) (rd_w k32092 z31783 rfl) (L_init (by decide : B 0 0 0) (by decide)))
                                · have b32096 : B r32092 (-2147483648) (-1) := R_ltX (B.any r32092) (by decide : B 0 0 0) (Int32.not_le.mp c32093) (by decide)
                                  have z32097 := w_lt (Int32.not_le.mp c32093)
                                  rw [show (0 : Int32).toInt = 0 from by decide] at z32097
                                  refine ev_bipush (v := (-4)) rfl rfl (by decide) ?_
                                  refine ev_goto rfl rfl ?_
                                  refine ev_istore rfl rfl rfl rfl ?_
                                  dsimp only [List.set]
                                  refine ev_iload rfl rfl rfl ?_
                                  refine ev_if_lt rfl rfl (fun c32239 => ?_) (fun c32239 => absurd (D_lt (by decide : B (-4) (-4) (-4)) (by decide : B 0 0 0) (by decide)) c32239)
                                  have z32240 := w_lt c32239
                                  rw [show ((-4) : Int32).toInt = (-4) from by decide] at z32240
                                  rw [show (0 : Int32).toInt = 0 from by decide] at z32240
                                  refine ev_iincB (y := 1) (l := 0) (u := 0) rfl rfl rfl (by decide) rfl rfl b31937 (by decide : B 1 1 1) (by decide) (by decide) (by decide) (by decide) (fun v32241 b32241 e32241 => ?_)
                                  dsimp only [List.set]
                                  have e32241x := e32241; rw [show (1 : Int32).toInt = 1 from by decide] at e32241x
                                  refine ev_goto rfl rfl ?_
                                  exact (EvQ.drop 13 (EvQ.drop 12 (EvQ.drop 11 (ih199 w31772 w31773 v32241 h32092 b31775 b31776 (b32241.mono (by decide) (by decide)) hJ32092 (rd_w k32092 z31780 rfl) (rd_w k32092 z31781 rfl) (rd_w k32092 z31782 rfl) (rd_w k32092 z31783 rfl) (L_up hm199 (e_p1 e32241 (by decide)))))))
                        exact (lp199_31771 14 (-4) (-4) (-1) h29597 ((by decide : B (-4) (-4) (-4)).mono (by decide) (by decide)) ((by decide : B (-4) (-4) (-4)).mono (by decide) (by decide)) ((by decide : B (-1) (-1) (-1)).mono (by decide) (by decide)) hJ29598 z29599 z29600 z29601 e29603 (L_init (by decide : B (-1) (-1) (-1)) (by decide)))
                      · have b29606 : B w29595 0 23 := R_ltX b29596 b29603 (Int32.not_le.mp c29604) (by decide)
                        have b29607 : B v29603 1 24 := R_ltY b29596 b29603 (Int32.not_le.mp c29604) (by decide)
                        have z29608 := w_lt (Int32.not_le.mp c29604)
                        refine ev_aload_n rfl rfl rfl ?_
                        refine ev_iload_n rfl rfl rfl ?_
                        refine ev_iload rfl rfl rfl ?_
                        have z32242 := congrArg Int32.toInt z29599
                        refine ev_V2P rfl rfl lk_X10_263 vt_X10_chordAt rfl rfl rfl rfl rfl (w_chordAtK L b h29597 hJ29598.1 a0 w29595 b7 b29606) (fun r32243 q32243 => ?_)
                        obtain ⟨b32243, pp32243_0⟩ := q32243
                        refine ev_if_eq rfl rfl (fun c32244 => ?_) (fun c32244 => ?_)
                        · have b32245 : B r32243 0 0 := R_eqX b32243 (by decide : B 0 0 0) c32244
                          have z32246 := congrArg Int32.toInt c32244
                          rw [show (0 : Int32).toInt = 0 from by decide] at z32246
                          refine ev_iincB (y := 1) (l := 1) (u := 24) rfl rfl rfl (by decide) rfl rfl b29606 (by decide : B 1 1 1) (by decide) (by decide) (by decide) (by decide) (fun v32249 b32249 e32249 => ?_)
                          dsimp only [List.set]
                          have e32249x := e32249; rw [show (1 : Int32).toInt = 1 from by decide] at e32249x
                          refine ev_goto rfl rfl ?_
                          exact (ih133 v32249 h29597 (b32249.mono (by decide) (by decide)) hJ29598 z29599 z29600 z29601 (IXP.step u133_0 b29606 e32249x (fun q_ => absurd (by rw [← hJ29598.2 74 _ rfl, ← pp32243_0]; exact c32244) q_)) (L_up hm133 (e_p1 e32249 (by decide))))
                        · have b32247 : B r32243 1 4095 := R_neL b32243 (by decide : B 0 0 0) c32244 (by decide)
                          have z32248 := w_ne c32244
                          rw [show (0 : Int32).toInt = 0 from by decide] at z32248
                          refine ev_iload rfl rfl rfl ?_
                          refine ev_i2l rfl rfl ?_
                          have z32250 := Int32.toInt_toInt64 a5
                          have z32250b := B.any a5
                          refine ev_iload rfl rfl rfl ?_
                          refine ev_i2l rfl rfl ?_
                          have z32251 := Int32.toInt_toInt64 w29595
                          have z32251b := B.any w29595
                          refine ev_ladd rfl rfl ?_
                          have z32252 := l_add (Int32.toInt64 a5) (Int32.toInt64 w29595) (by have z_ := l_lits; omega) (by have z_ := l_lits; omega) (by have z_ := l_lits; omega) (by have z_ := l_lits; omega)
                          refine ev_lconst (v := 0) rfl rfl rfl ?_
                          refine ev_aload_n rfl rfl rfl ?_
                          refine ev_getR (y := 93) rfl rfl fl_X10_115 rfl rfl rfl rfl ?_
                          refine ev_iload rfl rfl rfl ?_
                          refine ev_ialW (n := 4) (l := 0) (u := 60) hJ29598.1 b33 (by decide) (by decide) (fun _ => rfl) rfl rfl rfl (fun v32253 b32253 e32253 => ?_)
                          refine ev_iconst (v := 1) rfl rfl (by decide) ?_
                          refine ev_isubB (l := -1) (u := 59) rfl rfl b32253 (by decide : B 1 1 1) (by decide) (by decide) (by decide) (by decide) (fun v32254 b32254 e32254 g32254 => ?_)
                          have e32254x := e32254; rw [show (1 : Int32).toInt = 1 from by decide] at e32254x
                          refine ev_i2l rfl rfl ?_
                          have z32255 := Int32.toInt_toInt64 v32254
                          have z32255b := B.any v32254
                          have z32256 := congrArg Int32.toInt z29599
                          refine ev_S3P rfl rfl lk_X10_124 st_X10_in rfl rfl (w_inIX L b h29597 a5 w29595 v32253 v32254 e32254x) (fun r32257 q32257 => ?_)
                          obtain ⟨b32257, pp32257_0⟩ := q32257
                          refine ev_if_ne rfl rfl (fun c32258 => ?_) (fun c32258 => ?_)
                          · have b32259 : B r32257 1 1 := R_neL b32257 (by decide : B 0 0 0) c32258 (by decide)
                            have z32260 := w_ne c32258
                            rw [show (0 : Int32).toInt = 0 from by decide] at z32260
                            refine ev_iincB (y := 1) (l := 1) (u := 24) rfl rfl rfl (by decide) rfl rfl b29606 (by decide : B 1 1 1) (by decide) (by decide) (by decide) (by decide) (fun v32263 b32263 e32263 => ?_)
                            dsimp only [List.set]
                            have e32263x := e32263; rw [show (1 : Int32).toInt = 1 from by decide] at e32263x
                            refine ev_goto rfl rfl ?_
                            exact (ih133 v32263 h29597 (b32263.mono (by decide) (by decide)) hJ29598 z29599 z29600 z29601 (IXP.step u133_0 b29606 e32263x (fun _ => by have q_ := pp32257_0 c32258; have q2_ := congrArg Int32.toInt e32253; have q3_ := congrArg Int32.toInt (hJ29598.2 93 (Int32.toNatClampNeg a3) rfl); omega)) (L_up hm133 (e_p1 e32263 (by decide))))
                          · have b32261 : B r32257 0 0 := R_eqX b32257 (by decide : B 0 0 0) c32258
                            have z32262 := congrArg Int32.toInt c32258
                            rw [show (0 : Int32).toInt = 0 from by decide] at z32262
                            refine ev_sipush (v := (-1012)) rfl rfl (by decide) ?_
                            exact ev_iret rfl rfl rfl ⟨⟨_, rfl, ((by decide : B (-1012) (-1012) (-1012)).mono (by decide) (by decide))⟩, rfl, hJ29598⟩
                  exact (lp133_29594 25 0 h ((by decide : B 0 0 0).mono (by decide) (by decide)) hJ0 ef1 e16430 e16448 (IXP.zero h a0 a3 a5) (L_init (by decide : B 0 0 0) (by decide)))
                · have z16452 := w_ne c16449
                  refine ev_sipush (v := (-1010)) rfl rfl (by decide) ?_
                  refine ev_aload_n rfl rfl rfl ?_
                  refine ev_getR (y := 92) rfl rfl fl_X10_112 rfl rfl rfl rfl ?_
                  refine ev_iload rfl rfl rfl ?_
                  refine ev_iadV (v := v16448) rfl rfl rfl (b33.vp (by decide) (by decide)) rfl e16448 ?_
                  refine ev_bipush (v := (-4)) rfl rfl (by decide) ?_
                  refine ev_icmp_ne rfl rfl (fun c32264 => ?_) (fun c32264 => ?_)
                  · have z32265 := w_ne c32264
                    rw [show ((-4) : Int32).toInt = (-4) from by decide] at z32265
                    refine ev_iconst (v := 3) rfl rfl (by decide) ?_
                    refine ev_isubB (l := -1013) (u := -1013) rfl rfl (by decide : B (-1010) (-1010) (-1010)) (by decide : B 3 3 3) (by decide) (by decide) (by decide) (by decide) (fun v32268 b32268 e32268 g32268 => ?_)
                    have e32268x := e32268; rw [show ((-1010) : Int32).toInt = (-1010) from by decide] at e32268x
                    have e32268xx := e32268x; rw [show (3 : Int32).toInt = 3 from by decide] at e32268xx
                    exact ev_iret rfl rfl rfl ⟨⟨_, rfl, (b32268.mono (by decide) (by decide))⟩, rfl, hJ0⟩
                  · have b32266 : B v16448 (-4) (-4) := R_eqX (B.any v16448) (by decide : B (-4) (-4) (-4)) c32264
                    have z32267 := congrArg Int32.toInt c32264
                    rw [show ((-4) : Int32).toInt = (-4) from by decide] at z32267
                    refine ev_iconst (v := 1) rfl rfl (by decide) ?_
                    refine ev_goto rfl rfl ?_
                    refine ev_isubB (l := -1011) (u := -1011) rfl rfl (by decide : B (-1010) (-1010) (-1010)) (by decide : B 1 1 1) (by decide) (by decide) (by decide) (by decide) (fun v32269 b32269 e32269 g32269 => ?_)
                    have e32269x := e32269; rw [show ((-1010) : Int32).toInt = (-1010) from by decide] at e32269x
                    have e32269xx := e32269x; rw [show (1 : Int32).toInt = 1 from by decide] at e32269xx
                    exact ev_iret rfl rfl rfl ⟨⟨_, rfl, (b32269.mono (by decide) (by decide))⟩, rfl, hJ0⟩
              · have b16446 : B r16442 0 0 := R_eqX b16442 (by decide : B 0 0 0) c16443
                have z16447 := congrArg Int32.toInt c16443
                rw [show (0 : Int32).toInt = 0 from by decide] at z16447
                refine ev_sipush (v := (-1002)) rfl rfl (by decide) ?_
                exact ev_iret rfl rfl rfl ⟨⟨_, rfl, ((by decide : B (-1002) (-1002) (-1002)).mono (by decide) (by decide))⟩, rfl, hJ0⟩
            · have b16439 : B r16434 0 0 := R_eqX b16434 (by decide : B 0 0 0) c16435
              have z16440 := congrArg Int32.toInt c16435
              rw [show (0 : Int32).toInt = 0 from by decide] at z16440
              refine ev_sipush (v := (-1000)) rfl rfl (by decide) ?_
              exact ev_iret rfl rfl rfl ⟨⟨_, rfl, ((by decide : B (-1000) (-1000) (-1000)).mono (by decide) (by decide))⟩, rfl, hJ0⟩
