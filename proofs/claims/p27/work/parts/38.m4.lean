set_option maxRecDepth 100000 in
set_option maxHeartbeats 4000000 in
theorem w_X10_explains_63 (L : Nat) (b : Bool) (h : Hp) (hB : Bx h) (a0 : Int32) (p0 : B a0 0 5) (a1 : Int32) (p1 : B a1 (-11) 11) (a2 : Int32) (p2 : B a2 0 200) (a3 : Int32) (p3 : B a3 0 3) (a4 : Int32) (a5 : Int32) (hK : KM h a0 a1) (hI : IXP h a0 a3 a4 (h 73 (Int32.toNatClampNeg a0))) : EvJ mi_X10_explains [.ref 63, .int a0, .int a1, .int a2, .int a3, .int a4, .int a5] (G0 L b) h (fun r : Int32 => B r (-2147483648) 2147483647) [(85, 999), (86, 999)] := by
  refine EvM.of2 (lo := [some (.ref 63), some (.int a0), some (.int a1), some (.int a2), some (.int a3), some (.int a4), some (.int a5), none, none, none, none, none, none, none]) pf_X10_explains ok_X10_explains rfl rfl ?_
  have hJ0 : JW [(85, 999), (86, 999)] h h := JW.refl hB
  obtain ⟨f1, ef1⟩ : ∃ f_, h 63 3 = f_ := ⟨_, rfl⟩
  have bf1 : B f1 0 200 := by have z_ := hJ0.1 63 3; rw [ef1] at z_; exact z_
  have zf1 := congrArg Int32.toInt ef1
  refine ev_iconst (v := 0) rfl rfl (by decide) ?_
  refine ev_istore rfl rfl rfl rfl ?_
  dsimp only [List.set]
  have lp3_4185 : ∀ (n : Nat) (w4186 : Int32) (h4188 : Hp), B w4186 0 12 → JW [(85, 999), (86, 999)] h h4188 → (h4188 63 3 = f1) → 12 + 1 - w4186.toInt ≤ (n : Int) → EvQ mi_X10_explains 3 [some (.ref 63), some (.int a0), some (.int a1), some (.int a2), some (.int a3), some (.int a4), some (.int a5), some (.int w4186), none, none, none, none, none, none] [] (G0 L b) h4188 0 0 (QJ (fun r : Int32 => B r (-2147483648) 2147483647) [(85, 999), (86, 999)] (G0 L b) h) := by
    intro n
    induction n with
    | zero =>
      intro w4186 h4188 b4187 hJ4189 z4190 hm3
      exact absurd hm3 (L_zero b4187 (by decide))
    | succ n ih3 =>
      intro w4186 h4188 b4187 hJ4189 z4190 hm3
      have z4191 := congrArg Int32.toInt z4190
      refine ev_iload rfl rfl rfl ?_
      refine ev_bipush (v := 12) rfl rfl (by decide) ?_
      refine ev_icmp_ge rfl rfl (fun c4192 => ?_) (fun c4192 => ?_)
      · have b4193 : B w4186 12 12 := R_leY (by decide : B 12 12 12) b4187 c4192 (by decide)
        have z4194 := w_le c4192
        rw [show (12 : Int32).toInt = 12 from by decide] at z4194
        refine ev_iload_n rfl rfl rfl ?_
        refine ev_istore rfl rfl rfl rfl ?_
        dsimp only [List.set]
        refine ev_iconst (v := 0) rfl rfl (by decide) ?_
        refine ev_istore rfl rfl rfl rfl ?_
        dsimp only [List.set]
        have lp38_5578 : ∀ (n : Nat) (w5579 : Int32) (w5580 : Int32) (h5583 : Hp), B w5579 0 200 → B w5580 0 24 → JW [(85, 999), (86, 999)] h h5583 → (h5583 63 3 = f1) → 24 + 1 - w5580.toInt ≤ (n : Int) → EvQ mi_X10_explains 38 [some (.ref 63), some (.int a0), some (.int a1), some (.int a2), some (.int a3), some (.int a4), some (.int a5), some (.int w5579), some (.int w5580), none, none, none, none, none] [] (G0 L b) h5583 0 0 (QJ (fun r : Int32 => B r (-2147483648) 2147483647) [(85, 999), (86, 999)] (G0 L b) h) := by
          intro n
          induction n with
          | zero =>
            intro w5579 w5580 h5583 b5581 b5582 hJ5584 z5585 hm38
            exact absurd hm38 (L_zero b5582 (by decide))
          | succ n ih38 =>
            intro w5579 w5580 h5583 b5581 b5582 hJ5584 z5585 hm38
            have z5586 := congrArg Int32.toInt z5585
            refine ev_iload rfl rfl rfl ?_
            refine ev_aload_n rfl rfl rfl ?_
            refine ev_getR (y := 73) rfl rfl fl_X10_51 rfl rfl rfl rfl ?_
            refine ev_iload_n rfl rfl rfl ?_
            refine ev_ialW (n := 6) (l := 0) (u := 24) hJ5584.1 p0 (by decide) (by decide) (fun _ => rfl) rfl rfl rfl (fun v5587 b5587 e5587 => ?_)
            refine ev_icmp_ge rfl rfl (fun c5588 => ?_) (fun c5588 => ?_)
            · have z5589 := w_le c5588
              refine ev_iconst (v := 0) rfl rfl (by decide) ?_
              refine ev_istore rfl rfl rfl rfl ?_
              dsimp only [List.set]
              refine ev_iconst (v := 0) rfl rfl (by decide) ?_
              refine ev_istore rfl rfl rfl rfl ?_
              dsimp only [List.set]
              have lp237_5748 : ∀ (n : Nat) (w5749 : Int32) (w5750 : Int32) (h5752 : Hp), B w5750 0 12 → JW [(85, 999), (86, 999)] h h5752 → (h5752 63 3 = f1) → (h5752 73 (Int32.toNatClampNeg a0) = v5587) → 12 + 1 - w5750.toInt ≤ (n : Int) → EvQ mi_X10_explains 237 [some (.ref 63), some (.int a0), some (.int a1), some (.int a2), some (.int a3), some (.int a4), some (.int a5), some (.int w5579), some (.int w5749), some (.int w5750), none, none, none, none] [] (G0 L b) h5752 0 0 (QJ (fun r : Int32 => B r (-2147483648) 2147483647) [(85, 999), (86, 999)] (G0 L b) h) := by
                intro n
                induction n with
                | zero =>
                  intro w5749 w5750 h5752 b5751 hJ5753 z5754 z5755 hm237
                  exact absurd hm237 (L_zero b5751 (by decide))
                | succ n ih237 =>
                  intro w5749 w5750 h5752 b5751 hJ5753 z5754 z5755 hm237
                  have z5756 := congrArg Int32.toInt z5754
                  refine ev_iload rfl rfl rfl ?_
                  refine ev_bipush (v := 12) rfl rfl (by decide) ?_
                  refine ev_icmp_ge rfl rfl (fun c5757 => ?_) (fun c5757 => ?_)
                  · have b5758 : B w5750 12 12 := R_leY (by decide : B 12 12 12) b5751 c5757 (by decide)
                    have z5759 := w_le c5757
                    rw [show (12 : Int32).toInt = 12 from by decide] at z5759
                    refine ev_iload rfl rfl rfl ?_
                    exact ev_iret rfl rfl rfl ⟨⟨_, rfl, (B.any w5749)⟩, rfl, hJ5753⟩
                  · have b5760 : B w5750 0 11 := R_ltX b5751 (by decide : B 12 12 12) (Int32.not_le.mp c5757) (by decide)
                    have z5761 := w_lt (Int32.not_le.mp c5757)
                    rw [show (12 : Int32).toInt = 12 from by decide] at z5761
                    refine ev_iload rfl rfl rfl ?_
                    refine ev_aload_n rfl rfl rfl ?_
                    refine ev_getR (y := 85) rfl rfl fl_X10_88 rfl rfl rfl rfl ?_
                    refine ev_iload rfl rfl rfl ?_
                    refine ev_ialW (n := 12) (l := (-2147483648)) (u := 2147483647) hJ5753.1 b5760 (by decide) (by decide) (fun _ => rfl) rfl rfl rfl (fun v5762 b5762 e5762 => ?_)
                    refine ev_if_ne rfl rfl (fun c5763 => ?_) (fun c5763 => ?_)
                    · have z5764 := w_ne c5763
                      rw [show (0 : Int32).toInt = 0 from by decide] at z5764
                      refine ev_iconst (v := 1) rfl rfl (by decide) ?_
                      refine ev_iaddA rfl rfl (fun v5767 g5767 => ?_)
                      refine ev_istore rfl rfl rfl rfl ?_
                      dsimp only [List.set]
                      refine ev_iincB (y := 1) (l := 1) (u := 12) rfl rfl rfl (by decide) rfl rfl b5760 (by decide : B 1 1 1) (by decide) (by decide) (by decide) (by decide) (fun v5768 b5768 e5768 => ?_)
                      dsimp only [List.set]
                      have e5768x := e5768; rw [show (1 : Int32).toInt = 1 from by decide] at e5768x
                      refine ev_goto rfl rfl ?_
                      exact (ih237 v5767 v5768 h5752 (b5768.mono (by decide) (by decide)) hJ5753 z5754 z5755 (L_up hm237 (e_p1 e5768 (by decide))))
                    · have b5765 : B v5762 0 0 := R_eqX (B.any v5762) (by decide : B 0 0 0) c5763
                      have z5766 := congrArg Int32.toInt c5763
                      rw [show (0 : Int32).toInt = 0 from by decide] at z5766
                      refine ev_iconst (v := 0) rfl rfl (by decide) ?_
                      refine ev_goto rfl rfl ?_
                      refine ev_iaddB (l := -2147483648) (u := 2147483647) rfl rfl (B.any w5749) (by decide : B 0 0 0) (by decide) (by decide) (by decide) (by decide) (fun v5769 b5769 e5769 g5769 => ?_)
                      have e5769x := e5769; rw [show (0 : Int32).toInt = 0 from by decide] at e5769x
                      refine ev_istore rfl rfl rfl rfl ?_
                      dsimp only [List.set]
                      refine ev_iincB (y := 1) (l := 1) (u := 12) rfl rfl rfl (by decide) rfl rfl b5760 (by decide : B 1 1 1) (by decide) (by decide) (by decide) (by decide) (fun v5770 b5770 e5770 => ?_)
                      dsimp only [List.set]
                      have e5770x := e5770; rw [show (1 : Int32).toInt = 1 from by decide] at e5770x
                      refine ev_goto rfl rfl ?_
                      exact (ih237 v5769 v5770 h5752 (b5770.mono (by decide) (by decide)) hJ5753 z5754 z5755 (L_up hm237 (e_p1 e5770 (by decide))))
              exact (lp237_5748 13 0 0 h5583 ((by decide : B 0 0 0).mono (by decide) (by decide)) hJ5584 z5585 e5587 (L_init (by decide : B 0 0 0) (by decide)))
            · have b5590 : B w5580 0 23 := R_ltX b5582 b5587 (Int32.not_le.mp c5588) (by decide)
              have b5591 : B v5587 1 24 := R_ltY b5582 b5587 (Int32.not_le.mp c5588) (by decide)
              have z5592 := w_lt (Int32.not_le.mp c5588)
              refine ev_aload_n rfl rfl rfl ?_
              refine ev_aload_n rfl rfl rfl ?_
              refine ev_iload_n rfl rfl rfl ?_
              refine ev_iload rfl rfl rfl ?_
              have z5771 := congrArg Int32.toInt z5585
              refine ev_V2P rfl rfl lk_X10_263 vt_X10_chordAt rfl rfl rfl rfl rfl (w_chordAtK L b h5583 hJ5584.1 a0 w5580 p0 b5590) (fun r5772 q5772 => ?_)
              obtain ⟨b5772, pp5772_0⟩ := q5772
              refine ev_iload_n rfl rfl rfl ?_
              have z5773 := congrArg Int32.toInt z5585
              refine ev_V2P rfl rfl lk_X10_276 vt_X10_moved rfl rfl rfl rfl rfl (w_movedK L b h5583 h h5583 r5772 a1 a0 w5580 a4 a3 hK hI (hB 93 (Int32.toNatClampNeg a3)) (by have q_ := congrArg Int32.toInt e5587; have q2_ := congrArg Int32.toInt (hJ5584.2 73 (Int32.toNatClampNeg a0) rfl); omega) b5590 pp5772_0 (hJ5584.2 74 _ rfl)) (fun r5774 q5774 => ?_)
              obtain ⟨b5774, pp5774_0⟩ := q5774
              refine ev_istore rfl rfl rfl rfl ?_
              dsimp only [List.set]
              refine ev_iload rfl rfl rfl ?_
              refine ev_if_ne rfl rfl (fun c5775 => ?_) (fun c5775 => ?_)
              · have b5776 : B r5774 1 4095 := R_neL b5774 (by decide : B 0 0 0) c5775 (by decide)
                have z5777 := w_ne c5775
                rw [show (0 : Int32).toInt = 0 from by decide] at z5777
                refine ev_aload_n rfl rfl rfl ?_
                refine ev_getR (y := 94) rfl rfl fl_X10_118 rfl rfl rfl rfl ?_
                refine ev_bipush (v := 60) rfl rfl (by decide) ?_
                refine ev_iload rfl rfl rfl ?_
                refine ev_imulB (l := 0) (u := 180) rfl rfl (by decide : B 60 60 60) p3 (by decide) (by decide) (by decide) (by decide) (by decide) (fun v5780 b5780 e5780 g5780 => ?_)
                rw [show (60 : Int32).toInt = 60 from by decide] at e5780
                refine ev_iload rfl rfl rfl ?_
                have b5781 : B a4 (-23) 59 := ⟨(by have z0_ := congrArg Int32.toInt z5585; have z_ := w_lits; have zl_ := l_lits; omega), (by have z0_ := congrArg Int32.toInt z5585; have z_ := w_lits; have zl_ := l_lits; omega)⟩
                refine ev_iaddB (l := -23) (u := 239) rfl rfl b5780 b5781 (by decide) (by decide) (by decide) (by decide) (fun v5782 b5782 e5782 g5782 => ?_)
                refine ev_iload rfl rfl rfl ?_
                refine ev_iaddB (l := -23) (u := 262) rfl rfl b5782 b5590 (by decide) (by decide) (by decide) (by decide) (fun v5783 b5783 e5783 g5783 => ?_)
                have b5784 : B v5783 0 239 := ⟨(by have z0_ := congrArg Int32.toInt z5585; have z_ := w_lits; have zl_ := l_lits; omega), (by have z0_ := congrArg Int32.toInt z5585; have z_ := w_lits; have zl_ := l_lits; omega)⟩
                refine ev_ialW (n := 240) (l := (-2147483648)) (u := 2147483647) hJ5584.1 b5784 (by decide) (by decide) (fun _ => rfl) rfl rfl rfl (fun v5785 b5785 e5785 => ?_)
                refine ev_istore rfl rfl rfl rfl ?_
                dsimp only [List.set]
                refine ev_iload rfl rfl rfl ?_
                refine ev_sipush (v := (-32768)) rfl rfl (by decide) ?_
                refine ev_icmp_eq rfl rfl (fun c5786 => ?_) (fun c5786 => ?_)
                · have b5787 : B v5785 (-32768) (-32768) := R_eqX (B.any v5785) (by decide : B (-32768) (-32768) (-32768)) c5786
                  have z5788 := congrArg Int32.toInt c5786
                  rw [show ((-32768) : Int32).toInt = (-32768) from by decide] at z5788
                  refine ev_aload_n rfl rfl rfl ?_
                  refine ev_iload rfl rfl rfl ?_
                  refine ev_aload_n rfl rfl rfl ?_
                  refine ev_iload rfl rfl rfl ?_
                  refine ev_iload rfl rfl rfl ?_
                  refine ev_V2P rfl rfl lk_X10_332 vt_X10_drawnWith rfl rfl rfl rfl rfl (w_X10_drawnWith_63 L b h5583 hJ5584.1 r5774 a5) (fun r5790 q5790 => ?_)
                  refine ev_V2P rfl rfl lk_X10_297 vt_X10_then rfl rfl rfl rfl rfl (w_X10_then_63 L b h5583 hJ5584.1 w5579 r5790) (fun r5791 q5791 => ?_)
                  refine ev_istore rfl rfl rfl rfl ?_
                  dsimp only [List.set]
                  refine ev_iincB (y := 1) (l := 1) (u := 24) rfl rfl rfl (by decide) rfl rfl b5590 (by decide : B 1 1 1) (by decide) (by decide) (by decide) (by decide) (fun v5792 b5792 e5792 => ?_)
                  dsimp only [List.set]
                  have e5792x := e5792; rw [show (1 : Int32).toInt = 1 from by decide] at e5792x
                  refine ev_goto rfl rfl ?_
                  exact (EvQ.drop 10 (EvQ.drop 9 (ih38 r5791 v5792 h5583 q5791 (b5792.mono (by decide) (by decide)) hJ5584 z5585 (L_up hm38 (e_p1 e5792 (by decide))))))
                · have z5789 := w_ne c5786
                  rw [show ((-32768) : Int32).toInt = (-32768) from by decide] at z5789
                  refine ev_iload rfl rfl rfl ?_
                  refine ev_S1P rfl rfl lk_X10_329 st_X10_lowest rfl rfl (w_lowestK (G0 L b) h5583 r5774 b5776) (fun r5793 q5793 => ?_)
                  refine ev_istore rfl rfl rfl rfl ?_
                  dsimp only [List.set]
                  refine ev_iload rfl rfl rfl ?_
                  refine ev_i2l rfl rfl ?_
                  have z5794 := Int32.toInt_toInt64 v5785
                  have z5794b := B.any v5785
                  refine ev_aload_n rfl rfl rfl ?_
                  refine ev_getR (y := 64) rfl rfl fl_X10_22 rfl rfl rfl rfl ?_
                  refine ev_iload rfl rfl rfl ?_
                  refine ev_ialW (n := 12) (l := (-2147483648)) (u := 2147483647) hJ5584.1 q5793 (by decide) (by decide) (fun _ => rfl) rfl rfl rfl (fun v5795 b5795 e5795 => ?_)
                  refine ev_i2l rfl rfl ?_
                  have z5796 := Int32.toInt_toInt64 v5795
                  have z5796b := B.any v5795
                  refine ev_lsub rfl rfl ?_
                  have z5797 := l_sub (Int32.toInt64 v5785) (Int32.toInt64 v5795) (by have z_ := l_lits; omega) (by have z_ := l_lits; omega) (by have z_ := l_lits; omega) (by have z_ := l_lits; omega)
                  refine ev_aload_n rfl rfl rfl ?_
                  refine ev_getR (y := 68) rfl rfl fl_X10_36 rfl rfl rfl rfl ?_
                  refine ev_iload rfl rfl rfl ?_
                  refine ev_ialW (n := 12) (l := (-2147483648)) (u := 2147483647) hJ5584.1 q5793 (by decide) (by decide) (fun _ => rfl) rfl rfl rfl (fun v5798 b5798 e5798 => ?_)
                  refine ev_i2l rfl rfl ?_
                  have z5799 := Int32.toInt_toInt64 v5798
                  have z5799b := B.any v5798
                  refine ev_lsub rfl rfl ?_
                  have z5800 := l_sub ((Int32.toInt64 v5785) - (Int32.toInt64 v5795)) (Int32.toInt64 v5798) (by have z_ := l_lits; omega) (by have z_ := l_lits; omega) (by have z_ := l_lits; omega) (by have z_ := l_lits; omega)
                  refine ev_aload_n rfl rfl rfl ?_
                  refine ev_getR (y := 66) rfl rfl fl_X10_29 rfl rfl rfl rfl ?_
                  refine ev_iload rfl rfl rfl ?_
                  refine ev_ialW (n := 12) (l := (-2147483648)) (u := 2147483647) hJ5584.1 q5793 (by decide) (by decide) (fun _ => rfl) rfl rfl rfl (fun v5801 b5801 e5801 => ?_)
                  refine ev_iload rfl rfl rfl ?_
                  refine ev_bipush (v := 100) rfl rfl (by decide) ?_
                  refine ev_isubB (l := -100) (u := 100) rfl rfl b5581 (by decide : B 100 100 100) (by decide) (by decide) (by decide) (by decide) (fun v5802 b5802 e5802 g5802 => ?_)
                  have e5802x := e5802; rw [show (100 : Int32).toInt = 100 from by decide] at e5802x
                  refine ev_imulA rfl rfl (fun v5803 => ?_)
                  refine ev_bipush (v := 10) rfl rfl (by decide) ?_
                  refine ev_S2P rfl rfl lk_X10_149 st_X10_down rfl rfl (w_any (c_down (G0 L b) h5583 v5803 10 ((by decide : B 10 10 10).ne0 (by decide)))) (fun r5804 q5804 => ?_)
                  refine ev_i2l rfl rfl ?_
                  have z5805 := Int32.toInt_toInt64 r5804
                  have z5805b := B.any r5804
                  refine ev_lsub rfl rfl ?_
                  have z5806 := l_sub (((Int32.toInt64 v5785) - (Int32.toInt64 v5795)) - (Int32.toInt64 v5798)) (Int32.toInt64 r5804) (by have z_ := l_lits; omega) (by have z_ := l_lits; omega) (by have z_ := l_lits; omega) (by have z_ := l_lits; omega)
                  refine ev_lstore rfl rfl rfl rfl ?_
                  dsimp only [List.set]
                  refine ev_lload rfl rfl rfl ?_
                  refine ev_ldc2 (v := (-200)) rfl rfl kc_X10_179 ?_
                  refine ev_ldc2 (v := 200) rfl rfl kc_X10_143 ?_
                  refine ev_S3P rfl rfl lk_X10_124 st_X10_in rfl rfl (w_in0 (G0 L b) h5583 ((((Int32.toInt64 v5785) - (Int32.toInt64 v5795)) - (Int32.toInt64 v5798)) - (Int32.toInt64 r5804)) (-200) 200) (fun r5807 q5807 => ?_)
                  refine ev_if_eq rfl rfl (fun c5808 => ?_) (fun c5808 => ?_)
                  · have b5809 : B r5807 0 0 := R_eqX q5807 (by decide : B 0 0 0) c5808
                    have z5810 := congrArg Int32.toInt c5808
                    rw [show (0 : Int32).toInt = 0 from by decide] at z5810
                    refine ev_bipush (v := (-4)) rfl rfl (by decide) ?_
                    exact ev_iret rfl rfl rfl ⟨⟨_, rfl, ((by decide : B (-4) (-4) (-4)).mono (by decide) (by decide))⟩, rfl, hJ5584⟩
                  · have b5811 : B r5807 1 1 := R_neL q5807 (by decide : B 0 0 0) c5808 (by decide)
                    have z5812 := w_ne c5808
                    rw [show (0 : Int32).toInt = 0 from by decide] at z5812
                    refine ev_aload_n rfl rfl rfl ?_
                    refine ev_getR (y := 86) rfl rfl fl_X10_91 rfl rfl rfl rfl ?_
                    refine ev_iload rfl rfl rfl ?_
                    refine ev_zalW (n := 12) (l := (-2147483648)) (u := 2147483647) hJ5584.1 q5793 (by decide) (by decide) (fun _ => rfl) rfl rfl rfl (fun v5813 b5813 e5813 => ?_)
                    refine ev_if_eq rfl rfl (fun c5814 => ?_) (fun c5814 => ?_)
                    · have b5815 : B v5813 0 0 := R_eqX (B.any v5813) (by decide : B 0 0 0) c5814
                      have z5816 := congrArg Int32.toInt c5814
                      rw [show (0 : Int32).toInt = 0 from by decide] at z5816
                      refine ev_aload_n rfl rfl rfl ?_
                      refine ev_getR (y := 85) rfl rfl fl_X10_88 rfl rfl rfl rfl ?_
                      refine ev_iload rfl rfl rfl ?_
                      refine ev_lload rfl rfl rfl ?_
                      refine ev_l2i rfl rfl ?_
                      generalize Int64.toInt32 ((((Int32.toInt64 v5785) - (Int32.toInt64 v5795)) - (Int32.toInt64 v5798)) - (Int32.toInt64 r5804)) = v5818
                      refine ev_iasW (n := 12) (l := (-2147483648)) (u := 2147483647) hJ5584 q5793 (by decide) (by decide) (fun _ => rfl) (B.any v5818) (by decide) (by decide) (fun _ => rfl) rfl rfl rfl rfl (fun h5819 hJ5819 k5819 => ?_)
                      refine ev_aload_n rfl rfl rfl ?_
                      refine ev_getR (y := 86) rfl rfl fl_X10_91 rfl rfl rfl rfl ?_
                      refine ev_iload rfl rfl rfl ?_
                      refine ev_iconst (v := 1) rfl rfl (by decide) ?_
                      refine ev_zasW (n := 12) (l := (-2147483648)) (u := 2147483647) hJ5819 q5793 (by decide) (by decide) (fun _ => rfl) ((by decide : B 1 1 1).mono (by decide) (by decide)) (by decide) (by decide) (fun _ => rfl) rfl rfl rfl rfl (fun h5820 hJ5820 k5820 => ?_)
                      refine ev_aload_n rfl rfl rfl ?_
                      refine ev_iload rfl rfl rfl ?_
                      refine ev_aload_n rfl rfl rfl ?_
                      refine ev_iload rfl rfl rfl ?_
                      refine ev_iload rfl rfl rfl ?_
                      refine ev_V2P rfl rfl lk_X10_332 vt_X10_drawnWith rfl rfl rfl rfl rfl (w_X10_drawnWith_63 L b h5820 hJ5820.1 r5774 a5) (fun r5821 q5821 => ?_)
                      refine ev_V2P rfl rfl lk_X10_297 vt_X10_then rfl rfl rfl rfl rfl (w_X10_then_63 L b h5820 hJ5820.1 w5579 r5821) (fun r5822 q5822 => ?_)
                      refine ev_istore rfl rfl rfl rfl ?_
                      dsimp only [List.set]
                      refine ev_iincB (y := 1) (l := 1) (u := 24) rfl rfl rfl (by decide) rfl rfl b5590 (by decide : B 1 1 1) (by decide) (by decide) (by decide) (by decide) (fun v5823 b5823 e5823 => ?_)
                      dsimp only [List.set]
                      have e5823x := e5823; rw [show (1 : Int32).toInt = 1 from by decide] at e5823x
                      refine ev_goto rfl rfl ?_
                      exact (EvQ.drop 12 (EvQ.drop 11 (EvQ.drop 10 (EvQ.drop 9 (ih38 r5822 v5823 h5820 q5822 (b5823.mono (by decide) (by decide)) hJ5820 (rd_a k5820 (rd_a k5819 z5585 rfl) rfl) (L_up hm38 (e_p1 e5823 (by decide))))))))
                    · have z5817 := w_ne c5814
                      rw [show (0 : Int32).toInt = 0 from by decide] at z5817
                      refine ev_aload_n rfl rfl rfl ?_
                      refine ev_getR (y := 85) rfl rfl fl_X10_88 rfl rfl rfl rfl ?_
                      refine ev_iload rfl rfl rfl ?_
                      refine ev_ialW (n := 12) (l := (-2147483648)) (u := 2147483647) hJ5584.1 q5793 (by decide) (by decide) (fun _ => rfl) rfl rfl rfl (fun v5824 b5824 e5824 => ?_)
                      refine ev_i2l rfl rfl ?_
                      have z5825 := Int32.toInt_toInt64 v5824
                      have z5825b := B.any v5824
                      refine ev_lload rfl rfl rfl ?_
                      refine ev_lcmp rfl rfl ?_
                      have z5826 := l_cmp (Int32.toInt64 v5824) ((((Int32.toInt64 v5785) - (Int32.toInt64 v5795)) - (Int32.toInt64 v5798)) - (Int32.toInt64 r5804))
                      generalize lg_cmp (Int32.toInt64 v5824) ((((Int32.toInt64 v5785) - (Int32.toInt64 v5795)) - (Int32.toInt64 v5798)) - (Int32.toInt64 r5804)) = v5826 at z5826 ⊢
                      refine ev_if_eq rfl rfl (fun c5827 => ?_) (fun c5827 => ?_)
                      · have b5828 : B v5826 0 0 := R_eqX (B.any v5826) (by decide : B 0 0 0) c5827
                        have z5829 := congrArg Int32.toInt c5827
                        rw [show (0 : Int32).toInt = 0 from by decide] at z5829
                        refine ev_aload_n rfl rfl rfl ?_
                        refine ev_getR (y := 85) rfl rfl fl_X10_88 rfl rfl rfl rfl ?_
                        refine ev_iload rfl rfl rfl ?_
                        refine ev_lload rfl rfl rfl ?_
                        refine ev_l2i rfl rfl ?_
                        generalize Int64.toInt32 ((((Int32.toInt64 v5785) - (Int32.toInt64 v5795)) - (Int32.toInt64 v5798)) - (Int32.toInt64 r5804)) = v5831
                        refine ev_iasW (n := 12) (l := (-2147483648)) (u := 2147483647) hJ5584 q5793 (by decide) (by decide) (fun _ => rfl) (B.any v5831) (by decide) (by decide) (fun _ => rfl) rfl rfl rfl rfl (fun h5832 hJ5832 k5832 => ?_)
                        refine ev_aload_n rfl rfl rfl ?_
                        refine ev_getR (y := 86) rfl rfl fl_X10_91 rfl rfl rfl rfl ?_
                        refine ev_iload rfl rfl rfl ?_
                        refine ev_iconst (v := 1) rfl rfl (by decide) ?_
                        refine ev_zasW (n := 12) (l := (-2147483648)) (u := 2147483647) hJ5832 q5793 (by decide) (by decide) (fun _ => rfl) ((by decide : B 1 1 1).mono (by decide) (by decide)) (by decide) (by decide) (fun _ => rfl) rfl rfl rfl rfl (fun h5833 hJ5833 k5833 => ?_)
                        refine ev_aload_n rfl rfl rfl ?_
                        refine ev_iload rfl rfl rfl ?_
                        refine ev_aload_n rfl rfl rfl ?_
                        refine ev_iload rfl rfl rfl ?_
                        refine ev_iload rfl rfl rfl ?_
                        refine ev_V2P rfl rfl lk_X10_332 vt_X10_drawnWith rfl rfl rfl rfl rfl (w_X10_drawnWith_63 L b h5833 hJ5833.1 r5774 a5) (fun r5834 q5834 => ?_)
                        refine ev_V2P rfl rfl lk_X10_297 vt_X10_then rfl rfl rfl rfl rfl (w_X10_then_63 L b h5833 hJ5833.1 w5579 r5834) (fun r5835 q5835 => ?_)
                        refine ev_istore rfl rfl rfl rfl ?_
                        dsimp only [List.set]
                        refine ev_iincB (y := 1) (l := 1) (u := 24) rfl rfl rfl (by decide) rfl rfl b5590 (by decide : B 1 1 1) (by decide) (by decide) (by decide) (by decide) (fun v5836 b5836 e5836 => ?_)
                        dsimp only [List.set]
                        have e5836x := e5836; rw [show (1 : Int32).toInt = 1 from by decide] at e5836x
                        refine ev_goto rfl rfl ?_
                        exact (EvQ.drop 12 (EvQ.drop 11 (EvQ.drop 10 (EvQ.drop 9 (ih38 r5835 v5836 h5833 q5835 (b5836.mono (by decide) (by decide)) hJ5833 (rd_a k5833 (rd_a k5832 z5585 rfl) rfl) (L_up hm38 (e_p1 e5836 (by decide))))))))
                      · have z5830 := w_ne c5827
                        rw [show (0 : Int32).toInt = 0 from by decide] at z5830
                        refine ev_bipush (v := (-4)) rfl rfl (by decide) ?_
                        exact ev_iret rfl rfl rfl ⟨⟨_, rfl, ((by decide : B (-4) (-4) (-4)).mono (by decide) (by decide))⟩, rfl, hJ5584⟩
              · have b5778 : B r5774 0 0 := R_eqX b5774 (by decide : B 0 0 0) c5775
                have z5779 := congrArg Int32.toInt c5775
                rw [show (0 : Int32).toInt = 0 from by decide] at z5779
                refine ev_sipush (v := (-32768)) rfl rfl (by decide) ?_
                refine ev_goto rfl rfl ?_
                refine ev_istore rfl rfl rfl rfl ?_
                dsimp only [List.set]
                refine ev_iload rfl rfl rfl ?_
                refine ev_sipush (v := (-32768)) rfl rfl (by decide) ?_
                refine ev_icmp_eq rfl rfl (fun c5837 => ?_) (fun c5837 => absurd (D_eq (by decide : B (-32768) (-32768) (-32768)) (by decide : B (-32768) (-32768) (-32768))) c5837)
                have z5838 := congrArg Int32.toInt c5837
                rw [show ((-32768) : Int32).toInt = (-32768) from by decide] at z5838
                refine ev_aload_n rfl rfl rfl ?_
                refine ev_iload rfl rfl rfl ?_
                refine ev_aload_n rfl rfl rfl ?_
                refine ev_iload rfl rfl rfl ?_
                refine ev_iload rfl rfl rfl ?_
                refine ev_V2P rfl rfl lk_X10_332 vt_X10_drawnWith rfl rfl rfl rfl rfl (w_X10_drawnWith_63 L b h5583 hJ5584.1 r5774 a5) (fun r5839 q5839 => ?_)
                refine ev_V2P rfl rfl lk_X10_297 vt_X10_then rfl rfl rfl rfl rfl (w_X10_then_63 L b h5583 hJ5584.1 w5579 r5839) (fun r5840 q5840 => ?_)
                refine ev_istore rfl rfl rfl rfl ?_
                dsimp only [List.set]
                refine ev_iincB (y := 1) (l := 1) (u := 24) rfl rfl rfl (by decide) rfl rfl b5590 (by decide : B 1 1 1) (by decide) (by decide) (by decide) (by decide) (fun v5841 b5841 e5841 => ?_)
                dsimp only [List.set]
                have e5841x := e5841; rw [show (1 : Int32).toInt = 1 from by decide] at e5841x
                refine ev_goto rfl rfl ?_
                exact (EvQ.drop 10 (EvQ.drop 9 (ih38 r5840 v5841 h5583 q5840 (b5841.mono (by decide) (by decide)) hJ5584 z5585 (L_up hm38 (e_p1 e5841 (by decide))))))
        exact (lp38_5578 25 a2 0 h4188 p2 ((by decide : B 0 0 0).mono (by decide) (by decide)) hJ4189 z4190 (L_init (by decide : B 0 0 0) (by decide)))
      · have b4195 : B w4186 0 11 := R_ltX b4187 (by decide : B 12 12 12) (Int32.not_le.mp c4192) (by decide)
        have z4196 := w_lt (Int32.not_le.mp c4192)
        rw [show (12 : Int32).toInt = 12 from by decide] at z4196
        refine ev_aload_n rfl rfl rfl ?_
        refine ev_getR (y := 86) rfl rfl fl_X10_91 rfl rfl rfl rfl ?_
        refine ev_iload rfl rfl rfl ?_
        refine ev_iconst (v := 0) rfl rfl (by decide) ?_
        refine ev_zasW (n := 12) (l := (-2147483648)) (u := 2147483647) hJ4189 b4195 (by decide) (by decide) (fun _ => rfl) ((by decide : B 0 0 0).mono (by decide) (by decide)) (by decide) (by decide) (fun _ => rfl) rfl rfl rfl rfl (fun h5842 hJ5842 k5842 => ?_)
        refine ev_aload_n rfl rfl rfl ?_
        refine ev_getR (y := 85) rfl rfl fl_X10_88 rfl rfl rfl rfl ?_
        refine ev_iload rfl rfl rfl ?_
        refine ev_iconst (v := 0) rfl rfl (by decide) ?_
        refine ev_iasW (n := 12) (l := (-2147483648)) (u := 2147483647) hJ5842 b4195 (by decide) (by decide) (fun _ => rfl) (by decide : B 0 0 0) (by decide) (by decide) (fun _ => rfl) rfl rfl rfl rfl (fun h5843 hJ5843 k5843 => ?_)
        refine ev_iincB (y := 1) (l := 1) (u := 12) rfl rfl rfl (by decide) rfl rfl b4195 (by decide : B 1 1 1) (by decide) (by decide) (by decide) (by decide) (fun v5844 b5844 e5844 => ?_)
        dsimp only [List.set]
        have e5844x := e5844; rw [show (1 : Int32).toInt = 1 from by decide] at e5844x
        refine ev_goto rfl rfl ?_
        exact (ih3 v5844 h5843 (b5844.mono (by decide) (by decide)) hJ5843 (rd_a k5843 (rd_a k5842 z4190 rfl) rfl) (L_up hm3 (e_p1 e5844 (by decide))))
  exact (lp3_4185 13 0 h ((by decide : B 0 0 0).mono (by decide) (by decide)) hJ0 ef1 (L_init (by decide : B 0 0 0) (by decide)))

set_option maxRecDepth 100000 in
set_option maxHeartbeats 4000000 in
theorem w_X10_blame_63 (L : Nat) (b : Bool) (h : Hp) (hB : Bx h) (a0 : Int32) (a1 : Int32) (a2 : Int32) (a3 : Int32) (a4 : Int32) (a5 : Int32) (a6 : Int32) : EvJ mi_X10_blame [.ref 63, .int a0, .int a1, .int a2, .int a3, .int a4, .int a5, .int a6] (G0 L b) h (fun r : Int32 => B r (-2147483648) 2147483647) [(85, 999), (86, 999), (87, 999)] := by
  refine EvM.of2 (lo := [some (.ref 63), some (.int a0), some (.int a1), some (.int a2), some (.int a3), some (.int a4), some (.int a5), some (.int a6), none, none, none, none, none, none, none]) pf_X10_blame ok_X10_blame rfl rfl ?_
  have hJ0 : JW [(85, 999), (86, 999), (87, 999)] h h := JW.refl hB
  obtain ⟨f1, ef1⟩ : ∃ f_, h 63 3 = f_ := ⟨_, rfl⟩
  have bf1 : B f1 0 200 := by have z_ := hJ0.1 63 3; rw [ef1] at z_; exact z_
  have zf1 := congrArg Int32.toInt ef1
  refine ev_aload_n rfl rfl rfl ?_
  refine ev_iload_n rfl rfl rfl ?_
  refine ev_V1P rfl rfl lk_X10_266 vt_X10_isTune rfl rfl rfl rfl rfl (w_X10_isTune_63 L b h hJ0.1 a0) (fun r2 q2 => ?_)
  obtain ⟨b2, p2_0⟩ := q2
  refine ev_if_eq rfl rfl (fun c3 => ?_) (fun c3 => ?_)
  · have b4 : B r2 0 0 := R_eqX b2 (by decide : B 0 0 0) c3
    have z5 := congrArg Int32.toInt c3
    rw [show (0 : Int32).toInt = 0 from by decide] at z5
    refine ev_sipush (v := (-1000)) rfl rfl (by decide) ?_
    exact ev_iret rfl rfl rfl ⟨⟨_, rfl, ((by decide : B (-1000) (-1000) (-1000)).mono (by decide) (by decide))⟩, rfl, hJ0⟩
  · have b6 : B r2 1 1 := R_neL b2 (by decide : B 0 0 0) c3 (by decide)
    have b7 : B a0 0 5 := p2_0 c3
    have z8 := w_ne c3
    rw [show (0 : Int32).toInt = 0 from by decide] at z8
    refine ev_iload_n rfl rfl rfl ?_
    refine ev_i2l rfl rfl ?_
    have z9 := Int32.toInt_toInt64 a1
    have z9b := B.any a1
    refine ev_ldc2 (v := (-11)) rfl rfl kc_X10_282 ?_
    refine ev_ldc2 (v := 11) rfl rfl kc_X10_284 ?_
    have z10 := congrArg Int32.toInt ef1
    refine ev_S3P rfl rfl lk_X10_124 st_X10_in rfl rfl (w_inR (G0 L b) h a1 (-11) 11 (by decide : BL (-11) (-11) (-11)) (by decide : BL 11 11 11)) (fun r11 q11 => ?_)
    obtain ⟨b11, p11_0, pp11_0, pp11_1⟩ := q11
    refine ev_if_eq rfl rfl (fun c12 => ?_) (fun c12 => ?_)
    · have b13 : B r11 0 0 := R_eqX b11 (by decide : B 0 0 0) c12
      have z14 := congrArg Int32.toInt c12
      rw [show (0 : Int32).toInt = 0 from by decide] at z14
      refine ev_sipush (v := (-1000)) rfl rfl (by decide) ?_
      exact ev_iret rfl rfl rfl ⟨⟨_, rfl, ((by decide : B (-1000) (-1000) (-1000)).mono (by decide) (by decide))⟩, rfl, hJ0⟩
    · have b15 : B r11 1 1 := R_neL b11 (by decide : B 0 0 0) c12 (by decide)
      have b16 : B a1 (-11) 11 := p11_0 c12
      have z17 := w_ne c12
      rw [show (0 : Int32).toInt = 0 from by decide] at z17
      refine ev_iload_n rfl rfl rfl ?_
      refine ev_i2l rfl rfl ?_
      have z18 := Int32.toInt_toInt64 a2
      have z18b := B.any a2
      refine ev_lconst (v := 0) rfl rfl rfl ?_
      refine ev_aload_n rfl rfl rfl ?_
      refine ev_getV (v := f1) rfl rfl fl_X10_19 rfl rfl rfl ef1 ?_
      refine ev_i2l rfl rfl ?_
      have z19 := Int32.toInt_toInt64 f1
      have z19b := B.any f1
      refine ev_S3P rfl rfl lk_X10_124 st_X10_in rfl rfl (w_in (G0 L b) h a2 0 (Int32.toInt64 f1) (by decide : BL 0 0 0) (B.long bf1)) (fun r20 q20 => ?_)
      obtain ⟨b20, p20_0⟩ := q20
      refine ev_if_eq rfl rfl (fun c21 => ?_) (fun c21 => ?_)
      · have b22 : B r20 0 0 := R_eqX b20 (by decide : B 0 0 0) c21
        have z23 := congrArg Int32.toInt c21
        rw [show (0 : Int32).toInt = 0 from by decide] at z23
        refine ev_sipush (v := (-1000)) rfl rfl (by decide) ?_
        exact ev_iret rfl rfl rfl ⟨⟨_, rfl, ((by decide : B (-1000) (-1000) (-1000)).mono (by decide) (by decide))⟩, rfl, hJ0⟩
      · have b24 : B r20 1 1 := R_neL b20 (by decide : B 0 0 0) c21 (by decide)
        have b25 : B a2 0 200 := p20_0 c21
        have z26 := w_ne c21
        rw [show (0 : Int32).toInt = 0 from by decide] at z26
        refine ev_iload rfl rfl rfl ?_
        refine ev_iload rfl rfl rfl ?_
        refine ev_S2P rfl rfl lk_X10_335 st_X10_isSheet rfl rfl (w_X10_isSheet L b h hJ0.1 a3 a4) (fun r27 q27 => ?_)
        obtain ⟨b27, p27_0, p27_1⟩ := q27
        refine ev_if_eq rfl rfl (fun c28 => ?_) (fun c28 => ?_)
        · have b29 : B r27 0 0 := R_eqX b27 (by decide : B 0 0 0) c28
          have z30 := congrArg Int32.toInt c28
          rw [show (0 : Int32).toInt = 0 from by decide] at z30
          refine ev_sipush (v := (-1000)) rfl rfl (by decide) ?_
          exact ev_iret rfl rfl rfl ⟨⟨_, rfl, ((by decide : B (-1000) (-1000) (-1000)).mono (by decide) (by decide))⟩, rfl, hJ0⟩
        · have b31 : B r27 1 1 := R_neL b27 (by decide : B 0 0 0) c28 (by decide)
          have b32 : B a3 0 3 := p27_0 c28
          have b33 : B a4 0 2 := p27_1 c28
          have z34 := w_ne c28
          rw [show (0 : Int32).toInt = 0 from by decide] at z34
          refine ev_iload rfl rfl rfl ?_
          refine ev_i2l rfl rfl ?_
          have z35 := Int32.toInt_toInt64 a6
          have z35b := B.any a6
          refine ev_lconst (v := 0) rfl rfl rfl ?_
          refine ev_ldc2 (v := 2) rfl rfl kc_X10_183 ?_
          have z36 := congrArg Int32.toInt ef1
          refine ev_S3P rfl rfl lk_X10_124 st_X10_in rfl rfl (w_inR (G0 L b) h a6 0 2 (by decide : BL 0 0 0) (by decide : BL 2 2 2)) (fun r37 q37 => ?_)
          obtain ⟨b37, p37_0, pp37_0, pp37_1⟩ := q37
          refine ev_if_ne rfl rfl (fun c38 => ?_) (fun c38 => ?_)
          · have b39 : B r37 1 1 := R_neL b37 (by decide : B 0 0 0) c38 (by decide)
            have b40 : B a6 0 2 := p37_0 c38
            have z41 := w_ne c38
            rw [show (0 : Int32).toInt = 0 from by decide] at z41
            refine ev_aload_n rfl rfl rfl ?_
            refine ev_iload_n rfl rfl rfl ?_
            refine ev_iload_n rfl rfl rfl ?_
            have z44 := congrArg Int32.toInt ef1
            refine ev_V2P rfl rfl lk_X10_286 vt_X10_isIn rfl rfl rfl rfl rfl (w_isInK L b h hJ0.1 a0 a1 b7) (fun r45 q45 => ?_)
            obtain ⟨b45, pp45_0⟩ := q45
            refine ev_if_ne rfl rfl (fun c46 => ?_) (fun c46 => ?_)
            · have b47 : B r45 1 1 := R_neL b45 (by decide : B 0 0 0) c46 (by decide)
              have z48 := w_ne c46
              rw [show (0 : Int32).toInt = 0 from by decide] at z48
              refine ev_aload_n rfl rfl rfl ?_
              refine ev_getR (y := 92) rfl rfl fl_X10_112 rfl rfl rfl rfl ?_
              refine ev_iload rfl rfl rfl ?_
              refine ev_ialW (n := 4) (l := (-2147483648)) (u := 2147483647) hJ0.1 b32 (by decide) (by decide) (fun _ => rfl) rfl rfl rfl (fun v51 b51 e51 => ?_)
              refine ev_iload rfl rfl rfl ?_
              refine ev_icmp_eq rfl rfl (fun c52 => ?_) (fun c52 => ?_)
              · have b53 : B v51 0 2 := R_eqX (B.any v51) b33 c52
                have z54 := congrArg Int32.toInt c52
                refine ev_iconst (v := 0) rfl rfl (by decide) ?_
                refine ev_istore rfl rfl rfl rfl ?_
                dsimp only [List.set]
                have lp133_13659 : ∀ (n : Nat) (w13660 : Int32) (h13662 : Hp), B w13660 0 24 → JW [(85, 999), (86, 999), (87, 999)] h h13662 → (h13662 63 3 = f1) → (h13662 92 (Int32.toNatClampNeg a3) = v51) → (IXP h a0 a3 a5 w13660) → 24 + 1 - w13660.toInt ≤ (n : Int) → EvQ mi_X10_blame 133 [some (.ref 63), some (.int a0), some (.int a1), some (.int a2), some (.int a3), some (.int a4), some (.int a5), some (.int a6), some (.int w13660), none, none, none, none, none, none] [] (G0 L b) h13662 0 0 (QJ (fun r : Int32 => B r (-2147483648) 2147483647) [(85, 999), (86, 999), (87, 999)] (G0 L b) h) := by
                  intro n
                  induction n with
                  | zero =>
                    intro w13660 h13662 b13661 hJ13663 z13664 z13665 u133_0 hm133
                    exact absurd hm133 (L_zero b13661 (by decide))
                  | succ n ih133 =>
                    intro w13660 h13662 b13661 hJ13663 z13664 z13665 u133_0 hm133
                    have z13666 := congrArg Int32.toInt z13664
                    refine ev_iload rfl rfl rfl ?_
                    refine ev_aload_n rfl rfl rfl ?_
                    refine ev_getR (y := 73) rfl rfl fl_X10_51 rfl rfl rfl rfl ?_
                    refine ev_iload_n rfl rfl rfl ?_
                    refine ev_ialW (n := 6) (l := 0) (u := 24) hJ13663.1 b7 (by decide) (by decide) (fun _ => rfl) rfl rfl rfl (fun v13667 b13667 e13667 => ?_)
                    refine ev_icmp_ge rfl rfl (fun c13668 => ?_) (fun c13668 => ?_)
                    · have z13669 := w_le c13668
                      refine ev_bipush (v := (-4)) rfl rfl (by decide) ?_
                      refine ev_istore rfl rfl rfl rfl ?_
                      dsimp only [List.set]
                      refine ev_bipush (v := (-4)) rfl rfl (by decide) ?_
                      refine ev_istore rfl rfl rfl rfl ?_
                      dsimp only [List.set]
                      refine ev_iconst (v := (-1)) rfl rfl (by decide) ?_
                      refine ev_istore rfl rfl rfl rfl ?_
                      dsimp only [List.set]
                      have lp199_15913 : ∀ (n : Nat) (w15914 : Int32) (w15915 : Int32) (w15916 : Int32) (h15920 : Hp), B w15914 (-4) 2147483647 → B w15915 (-4) 12 → B w15916 (-1) 12 → JW [(85, 999), (86, 999), (87, 999)] h h15920 → (h15920 63 3 = f1) → (h15920 92 (Int32.toNatClampNeg a3) = v51) → (h15920 73 (Int32.toNatClampNeg a0) = v13667) → 12 + 1 - w15916.toInt ≤ (n : Int) → EvQ mi_X10_blame 199 [some (.ref 63), some (.int a0), some (.int a1), some (.int a2), some (.int a3), some (.int a4), some (.int a5), some (.int a6), some (.int w15914), some (.int w15915), some (.int w15916), none, none, none, none] [] (G0 L b) h15920 0 0 (QJ (fun r : Int32 => B r (-2147483648) 2147483647) [(85, 999), (86, 999), (87, 999)] (G0 L b) h) := by
                        intro n
                        induction n with
                        | zero =>
                          intro w15914 w15915 w15916 h15920 b15917 b15918 b15919 hJ15921 z15922 z15923 z15924 hm199
                          exact absurd hm199 (L_zero b15919 (by decide))
                        | succ n ih199 =>
                          intro w15914 w15915 w15916 h15920 b15917 b15918 b15919 hJ15921 z15922 z15923 z15924 hm199
                          have z15925 := congrArg Int32.toInt z15922
                          refine ev_iload rfl rfl rfl ?_
                          refine ev_aload_n rfl rfl rfl ?_
                          refine ev_getW (l := 0) (u := 12) hJ15921.1 rfl rfl rfl fl_X10_121 rfl rfl rfl (fun v15926 b15926 e15926 => ?_)
                          refine ev_icmp_ge rfl rfl (fun c15927 => ?_) (fun c15927 => ?_)
                          · have b15928 : B w15916 0 12 := R_leY b15926 b15919 c15927 (by decide)
                            have z15929 := w_le c15927
                            refine ev_iload rfl rfl rfl ?_
                            refine ev_bipush (v := (-4)) rfl rfl (by decide) ?_
                            refine ev_icmp_ne rfl rfl (fun c15932 => ?_) (fun c15932 => ?_)
                            · have b15933 : B w15914 (-3) 2147483647 := R_neL b15917 (by decide : B (-4) (-4) (-4)) c15932 (by decide)
                              have z15934 := w_ne c15932
                              rw [show ((-4) : Int32).toInt = (-4) from by decide] at z15934
                              refine ev_iconst (v := 0) rfl rfl (by decide) ?_
                              refine ev_istore rfl rfl rfl rfl ?_
                              dsimp only [List.set]
                              refine ev_iconst (v := 0) rfl rfl (by decide) ?_
                              refine ev_istore rfl rfl rfl rfl ?_
                              dsimp only [List.set]
                              have lp342_16053 : ∀ (n : Nat) (w16054 : Int32) (w16055 : Int32) (h16058 : Hp), B w16054 0 4095 → B w16055 0 12 → JW [(85, 999), (86, 999), (87, 999)] h h16058 → (h16058 63 3 = f1) → (h16058 92 (Int32.toNatClampNeg a3) = v51) → (h16058 73 (Int32.toNatClampNeg a0) = v13667) → (h16058 63 5 = v15926) → 12 + 1 - w16055.toInt ≤ (n : Int) → EvQ mi_X10_blame 342 [some (.ref 63), some (.int a0), some (.int a1), some (.int a2), some (.int a3), some (.int a4), some (.int a5), some (.int a6), some (.int w15914), some (.int w15915), some (.int w16054), some (.int w16055), none, none, none] [] (G0 L b) h16058 0 0 (QJ (fun r : Int32 => B r (-2147483648) 2147483647) [(85, 999), (86, 999), (87, 999)] (G0 L b) h) := by
                                intro n
                                induction n with
                                | zero =>
                                  intro w16054 w16055 h16058 b16056 b16057 hJ16059 z16060 z16061 z16062 z16063 hm342
                                  exact absurd hm342 (L_zero b16057 (by decide))
                                | succ n ih342 =>
                                  intro w16054 w16055 h16058 b16056 b16057 hJ16059 z16060 z16061 z16062 z16063 hm342
                                  have z16064 := congrArg Int32.toInt z16060
                                  refine ev_iload rfl rfl rfl ?_
                                  refine ev_bipush (v := 12) rfl rfl (by decide) ?_
                                  refine ev_icmp_ge rfl rfl (fun c16065 => ?_) (fun c16065 => ?_)
                                  · have b16066 : B w16055 12 12 := R_leY (by decide : B 12 12 12) b16057 c16065 (by decide)
                                    have z16067 := w_le c16065
                                    rw [show (12 : Int32).toInt = 12 from by decide] at z16067
                                    refine ev_iload rfl rfl rfl ?_
                                    refine ev_if_ne rfl rfl (fun c16070 => ?_) (fun c16070 => ?_)
                                    · have b16071 : B a6 1 2 := R_neL b40 (by decide : B 0 0 0) c16070 (by decide)
                                      have z16072 := w_ne c16070
                                      rw [show (0 : Int32).toInt = 0 from by decide] at z16072
                                      refine ev_iload rfl rfl rfl ?_
                                      refine ev_iconst (v := 1) rfl rfl (by decide) ?_
                                      refine ev_icmp_ne rfl rfl (fun c16075 => ?_) (fun c16075 => ?_)
                                      · have b16076 : B a6 2 2 := R_neL b16071 (by decide : B 1 1 1) c16075 (by decide)
                                        have z16077 := w_ne c16075
                                        rw [show (1 : Int32).toInt = 1 from by decide] at z16077
                                        refine ev_iload rfl rfl rfl ?_
                                        refine ev_iconst (v := 2) rfl rfl (by decide) ?_
                                        refine ev_icmp_ne rfl rfl (fun c16080 => absurd (D_eq b16076 (by decide : B 2 2 2)) c16080) (fun c16080 => ?_)
                                        have z16081 := congrArg Int32.toInt c16080
                                        rw [show (2 : Int32).toInt = 2 from by decide] at z16081
                                        refine ev_iload rfl rfl rfl ?_
                                        refine ev_goto rfl rfl ?_
                                        exact ev_iret rfl rfl rfl ⟨⟨_, rfl, (b16056.mono (by decide) (by decide))⟩, rfl, hJ16059⟩
                                      · have b16078 : B a6 1 1 := R_eqX b16071 (by decide : B 1 1 1) c16075
                                        have z16079 := congrArg Int32.toInt c16075
                                        rw [show (1 : Int32).toInt = 1 from by decide] at z16079
                                        refine ev_iload rfl rfl rfl ?_
                                        refine ev_goto rfl rfl ?_
                                        exact ev_iret rfl rfl rfl ⟨⟨_, rfl, (b15918.mono (by decide) (by decide))⟩, rfl, hJ16059⟩
                                    · have b16073 : B a6 0 0 := R_eqX b40 (by decide : B 0 0 0) c16070
                                      have z16074 := congrArg Int32.toInt c16070
                                      rw [show (0 : Int32).toInt = 0 from by decide] at z16074
                                      refine ev_iload rfl rfl rfl ?_
                                      refine ev_goto rfl rfl ?_
                                      exact ev_iret rfl rfl rfl ⟨⟨_, rfl, (b15933.mono (by decide) (by decide))⟩, rfl, hJ16059⟩
                                  · have b16068 : B w16055 0 11 := R_ltX b16057 (by decide : B 12 12 12) (Int32.not_le.mp c16065) (by decide)
                                    have z16069 := w_lt (Int32.not_le.mp c16065)
                                    rw [show (12 : Int32).toInt = 12 from by decide] at z16069
                                    refine ev_iload rfl rfl rfl ?_
                                    refine ev_aload_n rfl rfl rfl ?_
                                    refine ev_getR (y := 87) rfl rfl fl_X10_94 rfl rfl rfl rfl ?_
                                    refine ev_iload rfl rfl rfl ?_
                                    refine ev_ialW (n := 12) (l := (-2147483648)) (u := 2147483647) hJ16059.1 b16068 (by decide) (by decide) (fun _ => rfl) rfl rfl rfl (fun v16082 b16082 e16082 => ?_)
                                    refine ev_if_ne rfl rfl (fun c16083 => ?_) (fun c16083 => ?_)
                                    · have z16084 := w_ne c16083
                                      rw [show (0 : Int32).toInt = 0 from by decide] at z16084
                                      refine ev_iconst (v := 1) rfl rfl (by decide) ?_
                                      refine ev_iload rfl rfl rfl ?_
                                      refine ev_ishlB rfl rfl b16068 (by decide) (by decide) (fun v16087 b16087 => ?_)
                                      refine ev_iorB 12 (u := 4095) rfl rfl b16056 b16087 (by decide) (by decide) (by decide) (by decide) (by decide) (by decide) (fun v16088 b16088 e16088 => ?_)
                                      refine ev_istore rfl rfl rfl rfl ?_
                                      dsimp only [List.set]
                                      refine ev_iincB (y := 1) (l := 1) (u := 12) rfl rfl rfl (by decide) rfl rfl b16068 (by decide : B 1 1 1) (by decide) (by decide) (by decide) (by decide) (fun v16089 b16089 e16089 => ?_)
                                      dsimp only [List.set]
                                      have e16089x := e16089; rw [show (1 : Int32).toInt = 1 from by decide] at e16089x
                                      refine ev_goto rfl rfl ?_
                                      exact (ih342 v16088 v16089 h16058 b16088 (b16089.mono (by decide) (by decide)) hJ16059 z16060 z16061 z16062 z16063 (L_up hm342 (e_p1 e16089 (by decide))))
                                    · have b16085 : B v16082 0 0 := R_eqX (B.any v16082) (by decide : B 0 0 0) c16083
                                      have z16086 := congrArg Int32.toInt c16083
                                      rw [show (0 : Int32).toInt = 0 from by decide] at z16086
                                      refine ev_iconst (v := 0) rfl rfl (by decide) ?_
                                      refine ev_goto rfl rfl ?_
                                      refine ev_iorB 12 (u := 4095) rfl rfl b16056 (by decide : B 0 0 0) (by decide) (by decide) (by decide) (by decide) (by decide) (by decide) (fun v16090 b16090 e16090 => ?_)
                                      refine ev_istore rfl rfl rfl rfl ?_
                                      dsimp only [List.set]
                                      refine ev_iincB (y := 1) (l := 1) (u := 12) rfl rfl rfl (by decide) rfl rfl b16068 (by decide : B 1 1 1) (by decide) (by decide) (by decide) (by decide) (fun v16091 b16091 e16091 => ?_)
                                      dsimp only [List.set]
                                      have e16091x := e16091; rw [show (1 : Int32).toInt = 1 from by decide] at e16091x
                                      refine ev_goto rfl rfl ?_
                                      exact (ih342 v16090 v16091 h16058 b16090 (b16091.mono (by decide) (by decide)) hJ16059 z16060 z16061 z16062 z16063 (L_up hm342 (e_p1 e16091 (by decide))))
                              exact (lp342_16053 13 0 0 h15920 ((by decide : B 0 0 0).mono (by decide) (by decide)) ((by decide : B 0 0 0).mono (by decide) (by decide)) hJ15921 z15922 z15923 z15924 e15926 (L_init (by decide : B 0 0 0) (by decide)))
                            · have b15935 : B w15914 (-4) (-4) := R_eqX b15917 (by decide : B (-4) (-4) (-4)) c15932
                              have z15936 := congrArg Int32.toInt c15932
                              rw [show ((-4) : Int32).toInt = (-4) from by decide] at z15936
                              refine ev_sipush (v := (-1004)) rfl rfl (by decide) ?_
                              exact ev_iret rfl rfl rfl ⟨⟨_, rfl, ((by decide : B (-1004) (-1004) (-1004)).mono (by decide) (by decide))⟩, rfl, hJ15921⟩
                          · have b15930 : B w15916 (-1) 11 := R_ltX b15919 b15926 (Int32.not_le.mp c15927) (by decide)
                            have z15931 := w_lt (Int32.not_le.mp c15927)
                            refine ev_iload rfl rfl rfl ?_
                            refine ev_if_ge rfl rfl (fun c16092 => ?_) (fun c16092 => ?_)
                            · have b16093 : B w15916 0 11 := R_leY (by decide : B 0 0 0) b15930 c16092 (by decide)
                              have z16094 := w_le c16092
                              rw [show (0 : Int32).toInt = 0 from by decide] at z16094
                              refine ev_iload rfl rfl rfl ?_
                              refine ev_istore rfl rfl rfl rfl ?_
                              dsimp only [List.set]
                              refine ev_aload_n rfl rfl rfl ?_
                              refine ev_iload_n rfl rfl rfl ?_
                              refine ev_iload_n rfl rfl rfl ?_
                              refine ev_iload_n rfl rfl rfl ?_
                              refine ev_iload rfl rfl rfl ?_
                              refine ev_iload rfl rfl rfl ?_
                              refine ev_iload rfl rfl rfl ?_
                              refine ev_V6J hJ15921 rfl rfl rfl lk_X10_338 vt_X10_explains rfl rfl rfl rfl rfl (w_X10_explains_63 L b h15920 hJ15921.1 a0 b7 a1 b16 a2 b25 a3 b32 a5 w15916 (KM.keep (pp45_0 c46 b16) hJ15921 (fun _ => rfl) (fun _ => rfl)) (IXP.keep (IXP.all u133_0 (by have q_ := congrArg Int32.toInt z15924; have q2_ := congrArg Int32.toInt (hJ15921.2 73 (Int32.toNatClampNeg a0) rfl); omega)) hJ15921 (fun _ => rfl) (fun _ => rfl) (fun _ => rfl))) (fun r16097 h16097 q16097 hJ16097 k16097 => ?_)
                              refine ev_istore rfl rfl rfl rfl ?_
                              dsimp only [List.set]
                              refine ev_iload rfl rfl rfl ?_
                              refine ev_if_ge rfl rfl (fun c16098 => ?_) (fun c16098 => ?_)
                              · have b16099 : B r16097 0 2147483647 := R_leY (by decide : B 0 0 0) (B.any r16097) c16098 (by decide)
                                have z16100 := w_le c16098
                                rw [show (0 : Int32).toInt = 0 from by decide] at z16100
                                refine ev_iload rfl rfl rfl ?_
                                refine ev_iload rfl rfl rfl ?_
                                refine ev_if_ge rfl rfl (fun c16103 => ?_) (fun c16103 => absurd (D_le (by decide : B 0 0 0) b16093 (by decide)) c16103)
                                have z16104 := w_le c16103
                                rw [show (0 : Int32).toInt = 0 from by decide] at z16104
                                refine ev_iconst (v := 1) rfl rfl (by decide) ?_
                                refine ev_iaddA rfl rfl (fun v16105 g16105 => ?_)
                                refine ev_istore rfl rfl rfl rfl ?_
                                dsimp only [List.set]
                                refine ev_iload rfl rfl rfl ?_
                                refine ev_if_lt rfl rfl (fun c16106 => ?_) (fun c16106 => ?_)
                                · have b16107 : B v16105 (-2147483648) (-1) := R_ltX (B.any v16105) (by decide : B 0 0 0) c16106 (by decide)
                                  have z16108 := w_lt c16106
                                  rw [show (0 : Int32).toInt = 0 from by decide] at z16108
                                  refine ev_iincB (y := 1) (l := 1) (u := 12) rfl rfl rfl (by decide) rfl rfl b16093 (by decide : B 1 1 1) (by decide) (by decide) (by decide) (by decide) (fun v16111 b16111 e16111 => ?_)
                                  dsimp only [List.set]
                                  have e16111x := e16111; rw [show (1 : Int32).toInt = 1 from by decide] at e16111x
                                  refine ev_goto rfl rfl ?_
                                  exact (EvQ.drop 13 (EvQ.drop 12 (EvQ.drop 11 (ih199 w15914 w15915 v16111 h16097 b15917 b15918 (b16111.mono (by decide) (by decide)) hJ16097 (rd_w k16097 z15922 rfl) (rd_w k16097 z15923 rfl) (rd_w k16097 z15924 rfl) (L_up hm199 (e_p1 e16111 (by decide)))))))
                                · have b16109 : B v16105 0 2147483647 := R_leY (by decide : B 0 0 0) (B.any v16105) (Int32.not_lt.mp c16106) (by decide)
                                  have z16110 := w_le (Int32.not_lt.mp c16106)
                                  rw [show (0 : Int32).toInt = 0 from by decide] at z16110
                                  refine ev_iload rfl rfl rfl ?_
                                  refine ev_bipush (v := (-4)) rfl rfl (by decide) ?_
                                  refine ev_icmp_eq rfl rfl (fun c16112 => ?_) (fun c16112 => ?_)
                                  · have b16113 : B w15914 (-4) (-4) := R_eqX b15917 (by decide : B (-4) (-4) (-4)) c16112
                                    have z16114 := congrArg Int32.toInt c16112
                                    rw [show ((-4) : Int32).toInt = (-4) from by decide] at z16114
                                    refine ev_iload rfl rfl rfl ?_
                                    refine ev_istore rfl rfl rfl rfl ?_
                                    dsimp only [List.set]
                                    refine ev_iload rfl rfl rfl ?_
                                    refine ev_istore rfl rfl rfl rfl ?_
                                    dsimp only [List.set]
                                    refine ev_iconst (v := 0) rfl rfl (by decide) ?_
                                    refine ev_istore rfl rfl rfl rfl ?_
                                    dsimp only [List.set]
                                    have lp292_16160 : ∀ (n : Nat) (w16161 : Int32) (h16163 : Hp), B w16161 0 12 → JW [(85, 999), (86, 999), (87, 999)] h h16163 → (h16163 63 3 = f1) → (h16163 92 (Int32.toNatClampNeg a3) = v51) → (h16163 73 (Int32.toNatClampNeg a0) = v13667) → (h16163 63 5 = v15926) → 12 + 1 - w16161.toInt ≤ (n : Int) → EvQ mi_X10_blame 292 [some (.ref 63), some (.int a0), some (.int a1), some (.int a2), some (.int a3), some (.int a4), some (.int a5), some (.int a6), some (.int v16105), some (.int w15916), some (.int w15916), some (.int w15916), some (.int r16097), some (.int v16105), some (.int w16161)] [] (G0 L b) h16163 0 0 (QJ (fun r : Int32 => B r (-2147483648) 2147483647) [(85, 999), (86, 999), (87, 999)] (G0 L b) h) := by
                                      intro n
                                      induction n with
                                      | zero =>
                                        intro w16161 h16163 b16162 hJ16164 z16165 z16166 z16167 z16168 hm292
                                        exact absurd hm292 (L_zero b16162 (by decide))
                                      | succ n ih292 =>
                                        intro w16161 h16163 b16162 hJ16164 z16165 z16166 z16167 z16168 hm292
                                        have z16169 := congrArg Int32.toInt z16165
                                        refine ev_iload rfl rfl rfl ?_
                                        refine ev_bipush (v := 12) rfl rfl (by decide) ?_
                                        refine ev_icmp_ge rfl rfl (fun c16170 => ?_) (fun c16170 => ?_)
                                        · have b16171 : B w16161 12 12 := R_leY (by decide : B 12 12 12) b16162 c16170 (by decide)
                                          have z16172 := w_le c16170
                                          rw [show (12 : Int32).toInt = 12 from by decide] at z16172
                                          refine ev_iincB (y := 1) (l := 1) (u := 12) rfl rfl rfl (by decide) rfl rfl b16093 (by decide : B 1 1 1) (by decide) (by decide) (by decide) (by decide) (fun v16175 b16175 e16175 => ?_)
                                          dsimp only [List.set]
                                          have e16175x := e16175; rw [show (1 : Int32).toInt = 1 from by decide] at e16175x
                                          refine ev_goto rfl rfl ?_
                                          exact (EvQ.drop 14 (EvQ.drop 13 (EvQ.drop 12 (EvQ.drop 11 (ih199 v16105 w15916 v16175 h16163 (b16109.mono (by decide) (by decide)) (b16093.mono (by decide) (by decide)) (b16175.mono (by decide) (by decide)) hJ16164 z16165 z16166 z16167 (L_up hm199 (e_p1 e16175 (by decide))))))))
                                        · have b16173 : B w16161 0 11 := R_ltX b16162 (by decide : B 12 12 12) (Int32.not_le.mp c16170) (by decide)
                                          have z16174 := w_lt (Int32.not_le.mp c16170)
                                          rw [show (12 : Int32).toInt = 12 from by decide] at z16174
                                          refine ev_aload_n rfl rfl rfl ?_
                                          refine ev_getR (y := 87) rfl rfl fl_X10_94 rfl rfl rfl rfl ?_
                                          refine ev_iload rfl rfl rfl ?_
                                          refine ev_aload_n rfl rfl rfl ?_
                                          refine ev_getR (y := 85) rfl rfl fl_X10_88 rfl rfl rfl rfl ?_
                                          refine ev_iload rfl rfl rfl ?_
                                          refine ev_ialW (n := 12) (l := (-2147483648)) (u := 2147483647) hJ16164.1 b16173 (by decide) (by decide) (fun _ => rfl) rfl rfl rfl (fun v16176 b16176 e16176 => ?_)
                                          refine ev_iasW (n := 12) (l := (-2147483648)) (u := 2147483647) hJ16164 b16173 (by decide) (by decide) (fun _ => rfl) (B.any v16176) (by decide) (by decide) (fun _ => rfl) rfl rfl rfl rfl (fun h16177 hJ16177 k16177 => ?_)
                                          refine ev_iincB (y := 1) (l := 1) (u := 12) rfl rfl rfl (by decide) rfl rfl b16173 (by decide : B 1 1 1) (by decide) (by decide) (by decide) (by decide) (fun v16178 b16178 e16178 => ?_)
                                          dsimp only [List.set]
                                          have e16178x := e16178; rw [show (1 : Int32).toInt = 1 from by decide] at e16178x
                                          refine ev_goto rfl rfl ?_
                                          exact (ih292 v16178 h16177 (b16178.mono (by decide) (by decide)) hJ16177 (rd_a k16177 z16165 rfl) (rd_a k16177 z16166 rfl) (rd_a k16177 z16167 rfl) (rd_a k16177 z16168 rfl) (L_up hm292 (e_p1 e16178 (by decide))))
                                    exact (lp292_16160 13 0 h16097 ((by decide : B 0 0 0).mono (by decide) (by decide)) hJ16097 (rd_w k16097 z15922 rfl) (rd_w k16097 z15923 rfl) (rd_w k16097 z15924 rfl) (rd_w k16097 e15926 rfl) (L_init (by decide : B 0 0 0) (by decide)))
                                  · have b16115 : B w15914 (-3) 2147483647 := R_neL b15917 (by decide : B (-4) (-4) (-4)) c16112 (by decide)
                                    have z16116 := w_ne c16112
                                    rw [show ((-4) : Int32).toInt = (-4) from by decide] at z16116
                                    refine ev_iload rfl rfl rfl ?_
                                    refine ev_iload rfl rfl rfl ?_
                                    refine ev_icmp_ge rfl rfl (fun c16179 => ?_) (fun c16179 => ?_)
                                    · have z16180 := w_le c16179
                                      refine ev_iincB (y := 1) (l := 1) (u := 12) rfl rfl rfl (by decide) rfl rfl b16093 (by decide : B 1 1 1) (by decide) (by decide) (by decide) (by decide) (fun v16184 b16184 e16184 => ?_)
                                      dsimp only [List.set]
                                      have e16184x := e16184; rw [show (1 : Int32).toInt = 1 from by decide] at e16184x
                                      refine ev_goto rfl rfl ?_
                                      exact (EvQ.drop 13 (EvQ.drop 12 (EvQ.drop 11 (ih199 w15914 w15915 v16184 h16097 (b16115.mono (by decide) (by decide)) b15918 (b16184.mono (by decide) (by decide)) hJ16097 (rd_w k16097 z15922 rfl) (rd_w k16097 z15923 rfl) (rd_w k16097 z15924 rfl) (L_up hm199 (e_p1 e16184 (by decide)))))))
                                    · have b16181 : B v16105 0 2147483646 := R_ltX b16109 b16115 (Int32.not_le.mp c16179) (by decide)
                                      have b16182 : B w15914 1 2147483647 := R_ltY b16109 b16115 (Int32.not_le.mp c16179) (by decide)
                                      have z16183 := w_lt (Int32.not_le.mp c16179)
                                      refine ev_iload rfl rfl rfl ?_
                                      refine ev_istore rfl rfl rfl rfl ?_
                                      dsimp only [List.set]
                                      refine ev_iload rfl rfl rfl ?_
                                      refine ev_istore rfl rfl rfl rfl ?_
                                      dsimp only [List.set]
                                      refine ev_iconst (v := 0) rfl rfl (by decide) ?_
                                      refine ev_istore rfl rfl rfl rfl ?_
                                      dsimp only [List.set]
                                      have lp292_16228 : ∀ (n : Nat) (w16229 : Int32) (h16231 : Hp), B w16229 0 12 → JW [(85, 999), (86, 999), (87, 999)] h h16231 → (h16231 63 3 = f1) → (h16231 92 (Int32.toNatClampNeg a3) = v51) → (h16231 73 (Int32.toNatClampNeg a0) = v13667) → (h16231 63 5 = v15926) → 12 + 1 - w16229.toInt ≤ (n : Int) → EvQ mi_X10_blame 292 [some (.ref 63), some (.int a0), some (.int a1), some (.int a2), some (.int a3), some (.int a4), some (.int a5), some (.int a6), some (.int v16105), some (.int w15916), some (.int w15916), some (.int w15916), some (.int r16097), some (.int v16105), some (.int w16229)] [] (G0 L b) h16231 0 0 (QJ (fun r : Int32 => B r (-2147483648) 2147483647) [(85, 999), (86, 999), (87, 999)] (G0 L b) h) := by
                                        intro n
                                        induction n with
                                        | zero =>
                                          intro w16229 h16231 b16230 hJ16232 z16233 z16234 z16235 z16236 hm292
                                          exact absurd hm292 (L_zero b16230 (by decide))
                                        | succ n ih292 =>
                                          intro w16229 h16231 b16230 hJ16232 z16233 z16234 z16235 z16236 hm292
                                          have z16237 := congrArg Int32.toInt z16233
                                          refine ev_iload rfl rfl rfl ?_
                                          refine ev_bipush (v := 12) rfl rfl (by decide) ?_
                                          refine ev_icmp_ge rfl rfl (fun c16238 => ?_) (fun c16238 => ?_)
                                          · have b16239 : B w16229 12 12 := R_leY (by decide : B 12 12 12) b16230 c16238 (by decide)
                                            have z16240 := w_le c16238
                                            rw [show (12 : Int32).toInt = 12 from by decide] at z16240
                                            refine ev_iincB (y := 1) (l := 1) (u := 12) rfl rfl rfl (by decide) rfl rfl b16093 (by decide : B 1 1 1) (by decide) (by decide) (by decide) (by decide) (fun v16243 b16243 e16243 => ?_)
                                            dsimp only [List.set]
                                            have e16243x := e16243; rw [show (1 : Int32).toInt = 1 from by decide] at e16243x
                                            refine ev_goto rfl rfl ?_
                                            exact (EvQ.drop 14 (EvQ.drop 13 (EvQ.drop 12 (EvQ.drop 11 (ih199 v16105 w15916 v16243 h16231 (b16181.mono (by decide) (by decide)) (b16093.mono (by decide) (by decide)) (b16243.mono (by decide) (by decide)) hJ16232 z16233 z16234 z16235 (L_up hm199 (e_p1 e16243 (by decide))))))))
                                          · have b16241 : B w16229 0 11 := R_ltX b16230 (by decide : B 12 12 12) (Int32.not_le.mp c16238) (by decide)
                                            have z16242 := w_lt (Int32.not_le.mp c16238)
                                            rw [show (12 : Int32).toInt = 12 from by decide] at z16242
                                            refine ev_aload_n rfl rfl rfl ?_
                                            refine ev_getR (y := 87) rfl rfl fl_X10_94 rfl rfl rfl rfl ?_
                                            refine ev_iload rfl rfl rfl ?_
                                            refine ev_aload_n rfl rfl rfl ?_
                                            refine ev_getR (y := 85) rfl rfl fl_X10_88 rfl rfl rfl rfl ?_
                                            refine ev_iload rfl rfl rfl ?_
                                            refine ev_ialW (n := 12) (l := (-2147483648)) (u := 2147483647) hJ16232.1 b16241 (by decide) (by decide) (fun _ => rfl) rfl rfl rfl (fun v16244 b16244 e16244 => ?_)
                                            refine ev_iasW (n := 12) (l := (-2147483648)) (u := 2147483647) hJ16232 b16241 (by decide) (by decide) (fun _ => rfl) (B.any v16244) (by decide) (by decide) (fun _ => rfl) rfl rfl rfl rfl (fun h16245 hJ16245 k16245 => ?_)
                                            refine ev_iincB (y := 1) (l := 1) (u := 12) rfl rfl rfl (by decide) rfl rfl b16241 (by decide : B 1 1 1) (by decide) (by decide) (by decide) (by decide) (fun v16246 b16246 e16246 => ?_)
                                            dsimp only [List.set]
                                            have e16246x := e16246; rw [show (1 : Int32).toInt = 1 from by decide] at e16246x
                                            refine ev_goto rfl rfl ?_
                                            exact (ih292 v16246 h16245 (b16246.mono (by decide) (by decide)) hJ16245 (rd_a k16245 z16233 rfl) (rd_a k16245 z16234 rfl) (rd_a k16245 z16235 rfl) (rd_a k16245 z16236 rfl) (L_up hm292 (e_p1 e16246 (by decide))))
                                      exact (lp292_16228 13 0 h16097 ((by decide : B 0 0 0).mono (by decide) (by decide)) hJ16097 (rd_w k16097 z15922 rfl) (rd_w k16097 z15923 rfl) (rd_w k16097 z15924 rfl) (rd_w k16097 e15926 rfl) (L_init (by decide : B 0 0 0) (by decide)))
                              · have b16101 : B r16097 (-2147483648) (-1) := R_ltX (B.any r16097) (by decide : B 0 0 0) (Int32.not_le.mp c16098) (by decide)
                                have z16102 := w_lt (Int32.not_le.mp c16098)
                                rw [show (0 : Int32).toInt = 0 from by decide] at z16102
                                refine ev_bipush (v := (-4)) rfl rfl (by decide) ?_
                                refine ev_goto rfl rfl ?_
                                refine ev_istore rfl rfl rfl rfl ?_
                                dsimp only [List.set]
                                refine ev_iload rfl rfl rfl ?_
                                refine ev_if_lt rfl rfl (fun c16247 => ?_) (fun c16247 => absurd (D_lt (by decide : B (-4) (-4) (-4)) (by decide : B 0 0 0) (by decide)) c16247)
                                have z16248 := w_lt c16247
                                rw [show ((-4) : Int32).toInt = (-4) from by decide] at z16248
                                rw [show (0 : Int32).toInt = 0 from by decide] at z16248
                                refine ev_iincB (y := 1) (l := 1) (u := 12) rfl rfl rfl (by decide) rfl rfl b16093 (by decide : B 1 1 1) (by decide) (by decide) (by decide) (by decide) (fun v16249 b16249 e16249 => ?_)
                                dsimp only [List.set]
                                have e16249x := e16249; rw [show (1 : Int32).toInt = 1 from by decide] at e16249x
                                refine ev_goto rfl rfl ?_
                                exact (EvQ.drop 13 (EvQ.drop 12 (EvQ.drop 11 (ih199 w15914 w15915 v16249 h16097 b15917 b15918 (b16249.mono (by decide) (by decide)) hJ16097 (rd_w k16097 z15922 rfl) (rd_w k16097 z15923 rfl) (rd_w k16097 z15924 rfl) (L_up hm199 (e_p1 e16249 (by decide)))))))
                            · have b16095 : B w15916 (-1) (-1) := R_ltX b15930 (by decide : B 0 0 0) (Int32.not_le.mp c16092) (by decide)
                              have z16096 := w_lt (Int32.not_le.mp c16092)
                              rw [show (0 : Int32).toInt = 0 from by decide] at z16096
                              refine ev_bipush (v := (-4)) rfl rfl (by decide) ?_
                              refine ev_goto rfl rfl ?_
                              refine ev_istore rfl rfl rfl rfl ?_
                              dsimp only [List.set]
                              refine ev_aload_n rfl rfl rfl ?_
                              refine ev_iload_n rfl rfl rfl ?_
                              refine ev_iload_n rfl rfl rfl ?_
                              refine ev_iload_n rfl rfl rfl ?_
                              refine ev_iload rfl rfl rfl ?_
                              refine ev_iload rfl rfl rfl ?_
                              refine ev_iload rfl rfl rfl ?_
                              refine ev_V6J hJ15921 rfl rfl rfl lk_X10_338 vt_X10_explains rfl rfl rfl rfl rfl (w_X10_explains_63 L b h15920 hJ15921.1 a0 b7 a1 b16 a2 b25 a3 b32 a5 (-4) (KM.keep (pp45_0 c46 b16) hJ15921 (fun _ => rfl) (fun _ => rfl)) (IXP.keep (IXP.all u133_0 (by have q_ := congrArg Int32.toInt z15924; have q2_ := congrArg Int32.toInt (hJ15921.2 73 (Int32.toNatClampNeg a0) rfl); omega)) hJ15921 (fun _ => rfl) (fun _ => rfl) (fun _ => rfl))) (fun r16250 h16250 q16250 hJ16250 k16250 => ?_)
                              refine ev_istore rfl rfl rfl rfl ?_
                              dsimp only [List.set]
                              refine ev_iload rfl rfl rfl ?_
                              refine ev_if_ge rfl rfl (fun c16251 => ?_) (fun c16251 => ?_)
                              · have b16252 : B r16250 0 2147483647 := R_leY (by decide : B 0 0 0) (B.any r16250) c16251 (by decide)
                                have z16253 := w_le c16251
                                rw [show (0 : Int32).toInt = 0 from by decide] at z16253
                                refine ev_iload rfl rfl rfl ?_
                                refine ev_iload rfl rfl rfl ?_
                                refine ev_if_ge rfl rfl (fun c16256 => absurd c16256 (D_nle (by decide : B 0 0 0) b16095 (by decide))) (fun c16256 => ?_)
                                have z16257 := w_lt (Int32.not_le.mp c16256)
                                rw [show (0 : Int32).toInt = 0 from by decide] at z16257
                                refine ev_iconst (v := 0) rfl rfl (by decide) ?_
                                refine ev_goto rfl rfl ?_
                                refine ev_iaddB (l := 0) (u := 2147483647) rfl rfl b16252 (by decide : B 0 0 0) (by decide) (by decide) (by decide) (by decide) (fun v16258 b16258 e16258 g16258 => ?_)
                                have e16258x := e16258; rw [show (0 : Int32).toInt = 0 from by decide] at e16258x
                                refine ev_istore rfl rfl rfl rfl ?_
                                dsimp only [List.set]
                                refine ev_iload rfl rfl rfl ?_
                                refine ev_if_lt rfl rfl (fun c16259 => absurd c16259 (D_nlt b16258 (by decide : B 0 0 0) (by decide))) (fun c16259 => ?_)
                                have z16260 := w_le (Int32.not_lt.mp c16259)
                                rw [show (0 : Int32).toInt = 0 from by decide] at z16260
                                refine ev_iload rfl rfl rfl ?_
                                refine ev_bipush (v := (-4)) rfl rfl (by decide) ?_
                                refine ev_icmp_eq rfl rfl (fun c16261 => ?_) (fun c16261 => ?_)
                                · have b16262 : B w15914 (-4) (-4) := R_eqX b15917 (by decide : B (-4) (-4) (-4)) c16261
                                  have z16263 := congrArg Int32.toInt c16261
                                  rw [show ((-4) : Int32).toInt = (-4) from by decide] at z16263
                                  refine ev_iload rfl rfl rfl ?_
                                  refine ev_istore rfl rfl rfl rfl ?_
                                  dsimp only [List.set]
                                  refine ev_iload rfl rfl rfl ?_
                                  refine ev_istore rfl rfl rfl rfl ?_
                                  dsimp only [List.set]
                                  refine ev_iconst (v := 0) rfl rfl (by decide) ?_
                                  refine ev_istore rfl rfl rfl rfl ?_
                                  dsimp only [List.set]
                                  have lp292_16309 : ∀ (n : Nat) (w16310 : Int32) (h16312 : Hp), B w16310 0 12 → JW [(85, 999), (86, 999), (87, 999)] h h16312 → (h16312 63 3 = f1) → (h16312 92 (Int32.toNatClampNeg a3) = v51) → (h16312 73 (Int32.toNatClampNeg a0) = v13667) → (h16312 63 5 = v15926) → 12 + 1 - w16310.toInt ≤ (n : Int) → EvQ mi_X10_blame 292 [some (.ref 63), some (.int a0), some (.int a1), some (.int a2), some (.int a3), some (.int a4), some (.int a5), some (.int a6), some (.int v16258), some (.int (-4)), some (.int w15916), some (.int (-4)), some (.int r16250), some (.int v16258), some (.int w16310)] [] (G0 L b) h16312 0 0 (QJ (fun r : Int32 => B r (-2147483648) 2147483647) [(85, 999), (86, 999), (87, 999)] (G0 L b) h) := by
                                    intro n
                                    induction n with
                                    | zero =>
                                      intro w16310 h16312 b16311 hJ16313 z16314 z16315 z16316 z16317 hm292
                                      exact absurd hm292 (L_zero b16311 (by decide))
                                    | succ n ih292 =>
                                      intro w16310 h16312 b16311 hJ16313 z16314 z16315 z16316 z16317 hm292
                                      have z16318 := congrArg Int32.toInt z16314
                                      refine ev_iload rfl rfl rfl ?_
                                      refine ev_bipush (v := 12) rfl rfl (by decide) ?_
                                      refine ev_icmp_ge rfl rfl (fun c16319 => ?_) (fun c16319 => ?_)
                                      · have b16320 : B w16310 12 12 := R_leY (by decide : B 12 12 12) b16311 c16319 (by decide)
                                        have z16321 := w_le c16319
                                        rw [show (12 : Int32).toInt = 12 from by decide] at z16321
                                        refine ev_iincB (y := 1) (l := 0) (u := 0) rfl rfl rfl (by decide) rfl rfl b16095 (by decide : B 1 1 1) (by decide) (by decide) (by decide) (by decide) (fun v16324 b16324 e16324 => ?_)
                                        dsimp only [List.set]
                                        have e16324x := e16324; rw [show (1 : Int32).toInt = 1 from by decide] at e16324x
                                        refine ev_goto rfl rfl ?_
                                        exact (EvQ.drop 14 (EvQ.drop 13 (EvQ.drop 12 (EvQ.drop 11 (ih199 v16258 (-4) v16324 h16312 (b16258.mono (by decide) (by decide)) ((by decide : B (-4) (-4) (-4)).mono (by decide) (by decide)) (b16324.mono (by decide) (by decide)) hJ16313 z16314 z16315 z16316 (L_up hm199 (e_p1 e16324 (by decide))))))))
                                      · have b16322 : B w16310 0 11 := R_ltX b16311 (by decide : B 12 12 12) (Int32.not_le.mp c16319) (by decide)
                                        have z16323 := w_lt (Int32.not_le.mp c16319)
                                        rw [show (12 : Int32).toInt = 12 from by decide] at z16323
                                        refine ev_aload_n rfl rfl rfl ?_
                                        refine ev_getR (y := 87) rfl rfl fl_X10_94 rfl rfl rfl rfl ?_
                                        refine ev_iload rfl rfl rfl ?_
                                        refine ev_aload_n rfl rfl rfl ?_
                                        refine ev_getR (y := 85) rfl rfl fl_X10_88 rfl rfl rfl rfl ?_
                                        refine ev_iload rfl rfl rfl ?_
                                        refine ev_ialW (n := 12) (l := (-2147483648)) (u := 2147483647) hJ16313.1 b16322 (by decide) (by decide) (fun _ => rfl) rfl rfl rfl (fun v16325 b16325 e16325 => ?_)
                                        refine ev_iasW (n := 12) (l := (-2147483648)) (u := 2147483647) hJ16313 b16322 (by decide) (by decide) (fun _ => rfl) (B.any v16325) (by decide) (by decide) (fun _ => rfl) rfl rfl rfl rfl (fun h16326 hJ16326 k16326 => ?_)
                                        refine ev_iincB (y := 1) (l := 1) (u := 12) rfl rfl rfl (by decide) rfl rfl b16322 (by decide : B 1 1 1) (by decide) (by decide) (by decide) (by decide) (fun v16327 b16327 e16327 => ?_)
                                        dsimp only [List.set]
                                        have e16327x := e16327; rw [show (1 : Int32).toInt = 1 from by decide] at e16327x
                                        refine ev_goto rfl rfl ?_
                                        exact (ih292 v16327 h16326 (b16327.mono (by decide) (by decide)) hJ16326 (rd_a k16326 z16314 rfl) (rd_a k16326 z16315 rfl) (rd_a k16326 z16316 rfl) (rd_a k16326 z16317 rfl) (L_up hm292 (e_p1 e16327 (by decide))))
                                  exact (lp292_16309 13 0 h16250 ((by decide : B 0 0 0).mono (by decide) (by decide)) hJ16250 (rd_w k16250 z15922 rfl) (rd_w k16250 z15923 rfl) (rd_w k16250 z15924 rfl) (rd_w k16250 e15926 rfl) (L_init (by decide : B 0 0 0) (by decide)))
                                · have b16264 : B w15914 (-3) 2147483647 := R_neL b15917 (by decide : B (-4) (-4) (-4)) c16261 (by decide)
                                  have z16265 := w_ne c16261
                                  rw [show ((-4) : Int32).toInt = (-4) from by decide] at z16265
                                  refine ev_iload rfl rfl rfl ?_
                                  refine ev_iload rfl rfl rfl ?_
                                  refine ev_icmp_ge rfl rfl (fun c16328 => ?_) (fun c16328 => ?_)
                                  · have z16329 := w_le c16328
                                    refine ev_iincB (y := 1) (l := 0) (u := 0) rfl rfl rfl (by decide) rfl rfl b16095 (by decide : B 1 1 1) (by decide) (by decide) (by decide) (by decide) (fun v16334 b16334 e16334 => ?_)
                                    dsimp only [List.set]
                                    have e16334x := e16334; rw [show (1 : Int32).toInt = 1 from by decide] at e16334x
                                    refine ev_goto rfl rfl ?_
                                    exact (EvQ.drop 13 (EvQ.drop 12 (EvQ.drop 11 (ih199 w15914 w15915 v16334 h16250 (b16264.mono (by decide) (by decide)) b15918 (b16334.mono (by decide) (by decide)) hJ16250 (rd_w k16250 z15922 rfl) (rd_w k16250 z15923 rfl) (rd_w k16250 z15924 rfl) (L_up hm199 (e_p1 e16334 (by decide)))))))
                                  · have b16330 : B v16258 0 2147483646 := R_ltX b16258 b16264 (Int32.not_le.mp c16328) (by decide)
                                    have b16331 : B r16250 0 2147483646 := (R_bk (l' := 0) (u' := 2147483646) e16258 b16330 (by decide : B 0 0 0) (by decide) (by decide))
                                    have b16332 : B w15914 1 2147483647 := R_ltY b16258 b16264 (Int32.not_le.mp c16328) (by decide)
                                    have z16333 := w_lt (Int32.not_le.mp c16328)
                                    refine ev_iload rfl rfl rfl ?_
                                    refine ev_istore rfl rfl rfl rfl ?_
                                    dsimp only [List.set]
                                    refine ev_iload rfl rfl rfl ?_
                                    refine ev_istore rfl rfl rfl rfl ?_
                                    dsimp only [List.set]
                                    refine ev_iconst (v := 0) rfl rfl (by decide) ?_
                                    refine ev_istore rfl rfl rfl rfl ?_
                                    dsimp only [List.set]
                                    have lp292_16378 : ∀ (n : Nat) (w16379 : Int32) (h16381 : Hp), B w16379 0 12 → JW [(85, 999), (86, 999), (87, 999)] h h16381 → (h16381 63 3 = f1) → (h16381 92 (Int32.toNatClampNeg a3) = v51) → (h16381 73 (Int32.toNatClampNeg a0) = v13667) → (h16381 63 5 = v15926) → 12 + 1 - w16379.toInt ≤ (n : Int) → EvQ mi_X10_blame 292 [some (.ref 63), some (.int a0), some (.int a1), some (.int a2), some (.int a3), some (.int a4), some (.int a5), some (.int a6), some (.int v16258), some (.int (-4)), some (.int w15916), some (.int (-4)), some (.int r16250), some (.int v16258), some (.int w16379)] [] (G0 L b) h16381 0 0 (QJ (fun r : Int32 => B r (-2147483648) 2147483647) [(85, 999), (86, 999), (87, 999)] (G0 L b) h) := by
                                      intro n
                                      induction n with
                                      | zero =>
                                        intro w16379 h16381 b16380 hJ16382 z16383 z16384 z16385 z16386 hm292
                                        exact absurd hm292 (L_zero b16380 (by decide))
                                      | succ n ih292 =>
                                        intro w16379 h16381 b16380 hJ16382 z16383 z16384 z16385 z16386 hm292
                                        have z16387 := congrArg Int32.toInt z16383
                                        refine ev_iload rfl rfl rfl ?_
                                        refine ev_bipush (v := 12) rfl rfl (by decide) ?_
                                        refine ev_icmp_ge rfl rfl (fun c16388 => ?_) (fun c16388 => ?_)
                                        · have b16389 : B w16379 12 12 := R_leY (by decide : B 12 12 12) b16380 c16388 (by decide)
                                          have z16390 := w_le c16388
                                          rw [show (12 : Int32).toInt = 12 from by decide] at z16390
                                          refine ev_iincB (y := 1) (l := 0) (u := 0) rfl rfl rfl (by decide) rfl rfl b16095 (by decide : B 1 1 1) (by decide) (by decide) (by decide) (by decide) (fun v16393 b16393 e16393 => ?_)
                                          dsimp only [List.set]
                                          have e16393x := e16393; rw [show (1 : Int32).toInt = 1 from by decide] at e16393x
                                          refine ev_goto rfl rfl ?_
                                          exact (EvQ.drop 14 (EvQ.drop 13 (EvQ.drop 12 (EvQ.drop 11 (ih199 v16258 (-4) v16393 h16381 (b16330.mono (by decide) (by decide)) ((by decide : B (-4) (-4) (-4)).mono (by decide) (by decide)) (b16393.mono (by decide) (by decide)) hJ16382 z16383 z16384 z16385 (L_up hm199 (e_p1 e16393 (by decide))))))))
                                        · have b16391 : B w16379 0 11 := R_ltX b16380 (by decide : B 12 12 12) (Int32.not_le.mp c16388) (by decide)
                                          have z16392 := w_lt (Int32.not_le.mp c16388)
                                          rw [show (12 : Int32).toInt = 12 from by decide] at z16392
                                          refine ev_aload_n rfl rfl rfl ?_
                                          refine ev_getR (y := 87) rfl rfl fl_X10_94 rfl rfl rfl rfl ?_
                                          refine ev_iload rfl rfl rfl ?_
                                          refine ev_aload_n rfl rfl rfl ?_
                                          refine ev_getR (y := 85) rfl rfl fl_X10_88 rfl rfl rfl rfl ?_
                                          refine ev_iload rfl rfl rfl ?_
                                          refine ev_ialW (n := 12) (l := (-2147483648)) (u := 2147483647) hJ16382.1 b16391 (by decide) (by decide) (fun _ => rfl) rfl rfl rfl (fun v16394 b16394 e16394 => ?_)
                                          refine ev_iasW (n := 12) (l := (-2147483648)) (u := 2147483647) hJ16382 b16391 (by decide) (by decide) (fun _ => rfl) (B.any v16394) (by decide) (by decide) (fun _ => rfl) rfl rfl rfl rfl (fun h16395 hJ16395 k16395 => ?_)
                                          refine ev_iincB (y := 1) (l := 1) (u := 12) rfl rfl rfl (by decide) rfl rfl b16391 (by decide : B 1 1 1) (by decide) (by decide) (by decide) (by decide) (fun v16396 b16396 e16396 => ?_)
                                          dsimp only [List.set]
                                          have e16396x := e16396; rw [show (1 : Int32).toInt = 1 from by decide] at e16396x
                                          refine ev_goto rfl rfl ?_
                                          exact (ih292 v16396 h16395 (b16396.mono (by decide) (by decide)) hJ16395 (rd_a k16395 z16383 rfl) (rd_a k16395 z16384 rfl) (rd_a k16395 z16385 rfl) (rd_a k16395 z16386 rfl) (L_up hm292 (e_p1 e16396 (by decide))))
                                    exact (lp292_16378 13 0 h16250 ((by decide : B 0 0 0).mono (by decide) (by decide)) hJ16250 (rd_w k16250 z15922 rfl) (rd_w k16250 z15923 rfl) (rd_w k16250 z15924 rfl) (rd_w k16250 e15926 rfl) (L_init (by decide : B 0 0 0) (by decide)))
                              · have b16254 : B r16250 (-2147483648) (-1) := R_ltX (B.any r16250) (by decide : B 0 0 0) (Int32.not_le.mp c16251) (by decide)
                                have z16255 := w_lt (Int32.not_le.mp c16251)
                                rw [show (0 : Int32).toInt = 0 from by decide] at z16255
                                refine ev_bipush (v := (-4)) rfl rfl (by decide) ?_
                                refine ev_goto rfl rfl ?_
                                refine ev_istore rfl rfl rfl rfl ?_
                                dsimp only [List.set]
                                refine ev_iload rfl rfl rfl ?_
                                refine ev_if_lt rfl rfl (fun c16397 => ?_) (fun c16397 => absurd (D_lt (by decide : B (-4) (-4) (-4)) (by decide : B 0 0 0) (by decide)) c16397)
                                have z16398 := w_lt c16397
                                rw [show ((-4) : Int32).toInt = (-4) from by decide] at z16398
                                rw [show (0 : Int32).toInt = 0 from by decide] at z16398
                                refine ev_iincB (y := 1) (l := 0) (u := 0) rfl rfl rfl (by decide) rfl rfl b16095 (by decide : B 1 1 1) (by decide) (by decide) (by decide) (by decide) (fun v16399 b16399 e16399 => ?_)
                                dsimp only [List.set]
                                have e16399x := e16399; rw [show (1 : Int32).toInt = 1 from by decide] at e16399x
                                refine ev_goto rfl rfl ?_
                                exact (EvQ.drop 13 (EvQ.drop 12 (EvQ.drop 11 (ih199 w15914 w15915 v16399 h16250 b15917 b15918 (b16399.mono (by decide) (by decide)) hJ16250 (rd_w k16250 z15922 rfl) (rd_w k16250 z15923 rfl) (rd_w k16250 z15924 rfl) (L_up hm199 (e_p1 e16399 (by decide)))))))
                      exact (lp199_15913 14 (-4) (-4) (-1) h13662 ((by decide : B (-4) (-4) (-4)).mono (by decide) (by decide)) ((by decide : B (-4) (-4) (-4)).mono (by decide) (by decide)) ((by decide : B (-1) (-1) (-1)).mono (by decide) (by decide)) hJ13663 z13664 z13665 e13667 (L_init (by decide : B (-1) (-1) (-1)) (by decide)))
                    · have b13670 : B w13660 0 23 := R_ltX b13661 b13667 (Int32.not_le.mp c13668) (by decide)
                      have b13671 : B v13667 1 24 := R_ltY b13661 b13667 (Int32.not_le.mp c13668) (by decide)
                      have z13672 := w_lt (Int32.not_le.mp c13668)
                      refine ev_aload_n rfl rfl rfl ?_
                      refine ev_iload_n rfl rfl rfl ?_
                      refine ev_iload rfl rfl rfl ?_
                      have z16400 := congrArg Int32.toInt z13664
                      refine ev_V2P rfl rfl lk_X10_263 vt_X10_chordAt rfl rfl rfl rfl rfl (w_chordAtK L b h13662 hJ13663.1 a0 w13660 b7 b13670) (fun r16401 q16401 => ?_)
                      obtain ⟨b16401, pp16401_0⟩ := q16401
                      refine ev_if_eq rfl rfl (fun c16402 => ?_) (fun c16402 => ?_)
                      · have b16403 : B r16401 0 0 := R_eqX b16401 (by decide : B 0 0 0) c16402
                        have z16404 := congrArg Int32.toInt c16402
                        rw [show (0 : Int32).toInt = 0 from by decide] at z16404
                        refine ev_iincB (y := 1) (l := 1) (u := 24) rfl rfl rfl (by decide) rfl rfl b13670 (by decide : B 1 1 1) (by decide) (by decide) (by decide) (by decide) (fun v16407 b16407 e16407 => ?_)
                        dsimp only [List.set]
                        have e16407x := e16407; rw [show (1 : Int32).toInt = 1 from by decide] at e16407x
                        refine ev_goto rfl rfl ?_
                        exact (ih133 v16407 h13662 (b16407.mono (by decide) (by decide)) hJ13663 z13664 z13665 (IXP.step u133_0 b13670 e16407x (fun q_ => absurd (by rw [← hJ13663.2 74 _ rfl, ← pp16401_0]; exact c16402) q_)) (L_up hm133 (e_p1 e16407 (by decide))))
                      · have b16405 : B r16401 1 4095 := R_neL b16401 (by decide : B 0 0 0) c16402 (by decide)
                        have z16406 := w_ne c16402
                        rw [show (0 : Int32).toInt = 0 from by decide] at z16406
                        refine ev_iload rfl rfl rfl ?_
                        refine ev_i2l rfl rfl ?_
                        have z16408 := Int32.toInt_toInt64 a5
                        have z16408b := B.any a5
                        refine ev_iload rfl rfl rfl ?_
                        refine ev_i2l rfl rfl ?_
                        have z16409 := Int32.toInt_toInt64 w13660
                        have z16409b := B.any w13660
                        refine ev_ladd rfl rfl ?_
                        have z16410 := l_add (Int32.toInt64 a5) (Int32.toInt64 w13660) (by have z_ := l_lits; omega) (by have z_ := l_lits; omega) (by have z_ := l_lits; omega) (by have z_ := l_lits; omega)
                        refine ev_lconst (v := 0) rfl rfl rfl ?_
                        refine ev_aload_n rfl rfl rfl ?_
                        refine ev_getR (y := 93) rfl rfl fl_X10_115 rfl rfl rfl rfl ?_
                        refine ev_iload rfl rfl rfl ?_
                        refine ev_ialW (n := 4) (l := 0) (u := 60) hJ13663.1 b32 (by decide) (by decide) (fun _ => rfl) rfl rfl rfl (fun v16411 b16411 e16411 => ?_)
                        refine ev_iconst (v := 1) rfl rfl (by decide) ?_
                        refine ev_isubB (l := -1) (u := 59) rfl rfl b16411 (by decide : B 1 1 1) (by decide) (by decide) (by decide) (by decide) (fun v16412 b16412 e16412 g16412 => ?_)
                        have e16412x := e16412; rw [show (1 : Int32).toInt = 1 from by decide] at e16412x
                        refine ev_i2l rfl rfl ?_
                        have z16413 := Int32.toInt_toInt64 v16412
                        have z16413b := B.any v16412
                        have z16414 := congrArg Int32.toInt z13664
                        refine ev_S3P rfl rfl lk_X10_124 st_X10_in rfl rfl (w_inIX L b h13662 a5 w13660 v16411 v16412 e16412x) (fun r16415 q16415 => ?_)
                        obtain ⟨b16415, pp16415_0⟩ := q16415
                        refine ev_if_ne rfl rfl (fun c16416 => ?_) (fun c16416 => ?_)
                        · have b16417 : B r16415 1 1 := R_neL b16415 (by decide : B 0 0 0) c16416 (by decide)
                          have z16418 := w_ne c16416
                          rw [show (0 : Int32).toInt = 0 from by decide] at z16418
                          refine ev_iincB (y := 1) (l := 1) (u := 24) rfl rfl rfl (by decide) rfl rfl b13670 (by decide : B 1 1 1) (by decide) (by decide) (by decide) (by decide) (fun v16421 b16421 e16421 => ?_)
                          dsimp only [List.set]
                          have e16421x := e16421; rw [show (1 : Int32).toInt = 1 from by decide] at e16421x
                          refine ev_goto rfl rfl ?_
                          exact (ih133 v16421 h13662 (b16421.mono (by decide) (by decide)) hJ13663 z13664 z13665 (IXP.step u133_0 b13670 e16421x (fun _ => by have q_ := pp16415_0 c16416; have q2_ := congrArg Int32.toInt e16411; have q3_ := congrArg Int32.toInt (hJ13663.2 93 (Int32.toNatClampNeg a3) rfl); omega)) (L_up hm133 (e_p1 e16421 (by decide))))
                        · have b16419 : B r16415 0 0 := R_eqX b16415 (by decide : B 0 0 0) c16416
                          have z16420 := congrArg Int32.toInt c16416
                          rw [show (0 : Int32).toInt = 0 from by decide] at z16420
                          refine ev_sipush (v := (-1012)) rfl rfl (by decide) ?_
                          exact ev_iret rfl rfl rfl ⟨⟨_, rfl, ((by decide : B (-1012) (-1012) (-1012)).mono (by decide) (by decide))⟩, rfl, hJ13663⟩
                exact (lp133_13659 25 0 h ((by decide : B 0 0 0).mono (by decide) (by decide)) hJ0 ef1 e51 (IXP.zero h a0 a3 a5) (L_init (by decide : B 0 0 0) (by decide)))
              · have z55 := w_ne c52
                refine ev_sipush (v := (-1010)) rfl rfl (by decide) ?_
                refine ev_aload_n rfl rfl rfl ?_
                refine ev_getR (y := 92) rfl rfl fl_X10_112 rfl rfl rfl rfl ?_
                refine ev_iload rfl rfl rfl ?_
                refine ev_iadV (v := v51) rfl rfl rfl (b32.vp (by decide) (by decide)) rfl e51 ?_
                refine ev_bipush (v := (-4)) rfl rfl (by decide) ?_
                refine ev_icmp_ne rfl rfl (fun c16422 => ?_) (fun c16422 => ?_)
                · have z16423 := w_ne c16422
                  rw [show ((-4) : Int32).toInt = (-4) from by decide] at z16423
                  refine ev_iconst (v := 3) rfl rfl (by decide) ?_
                  refine ev_isubB (l := -1013) (u := -1013) rfl rfl (by decide : B (-1010) (-1010) (-1010)) (by decide : B 3 3 3) (by decide) (by decide) (by decide) (by decide) (fun v16426 b16426 e16426 g16426 => ?_)
                  have e16426x := e16426; rw [show ((-1010) : Int32).toInt = (-1010) from by decide] at e16426x
                  have e16426xx := e16426x; rw [show (3 : Int32).toInt = 3 from by decide] at e16426xx
                  exact ev_iret rfl rfl rfl ⟨⟨_, rfl, (b16426.mono (by decide) (by decide))⟩, rfl, hJ0⟩
                · have b16424 : B v51 (-4) (-4) := R_eqX (B.any v51) (by decide : B (-4) (-4) (-4)) c16422
                  have z16425 := congrArg Int32.toInt c16422
                  rw [show ((-4) : Int32).toInt = (-4) from by decide] at z16425
                  refine ev_iconst (v := 1) rfl rfl (by decide) ?_
                  refine ev_goto rfl rfl ?_
                  refine ev_isubB (l := -1011) (u := -1011) rfl rfl (by decide : B (-1010) (-1010) (-1010)) (by decide : B 1 1 1) (by decide) (by decide) (by decide) (by decide) (fun v16427 b16427 e16427 g16427 => ?_)
                  have e16427x := e16427; rw [show ((-1010) : Int32).toInt = (-1010) from by decide] at e16427x
                  have e16427xx := e16427x; rw [show (1 : Int32).toInt = 1 from by decide] at e16427xx
                  exact ev_iret rfl rfl rfl ⟨⟨_, rfl, (b16427.mono (by decide) (by decide))⟩, rfl, hJ0⟩
            · have b49 : B r45 0 0 := R_eqX b45 (by decide : B 0 0 0) c46
              have z50 := congrArg Int32.toInt c46
              rw [show (0 : Int32).toInt = 0 from by decide] at z50
              refine ev_sipush (v := (-1002)) rfl rfl (by decide) ?_
              exact ev_iret rfl rfl rfl ⟨⟨_, rfl, ((by decide : B (-1002) (-1002) (-1002)).mono (by decide) (by decide))⟩, rfl, hJ0⟩
          · have b42 : B r37 0 0 := R_eqX b37 (by decide : B 0 0 0) c38
            have z43 := congrArg Int32.toInt c38
            rw [show (0 : Int32).toInt = 0 from by decide] at z43
            refine ev_iload rfl rfl rfl ?_
            refine ev_i2l rfl rfl ?_
            have z16428 := Int32.toInt_toInt64 a6
            have z16428b := B.any a6
            refine ev_ldc2 (v := 20) rfl rfl kc_X10_167 ?_
            refine ev_bipush (v := 19) rfl rfl (by decide) ?_
            refine ev_aload_n rfl rfl rfl ?_
            refine ev_getW (l := 0) (u := 12) hJ0.1 rfl rfl rfl fl_X10_121 rfl rfl rfl (fun v16429 b16429 e16429 => ?_)
            refine ev_iaddB (l := 19) (u := 31) rfl rfl (by decide : B 19 19 19) b16429 (by decide) (by decide) (by decide) (by decide) (fun v16430 b16430 e16430 g16430 => ?_)
            have e16430x := e16430; rw [show (19 : Int32).toInt = 19 from by decide] at e16430x
            refine ev_i2l rfl rfl ?_
            have z16431 := Int32.toInt_toInt64 v16430
            have z16431b := B.any v16430
            refine ev_S3P rfl rfl lk_X10_124 st_X10_in rfl rfl (w_in (G0 L b) h a6 20 (Int32.toInt64 v16430) (by decide : BL 20 20 20) (B.long b16430)) (fun r16432 q16432 => ?_)
            obtain ⟨b16432, p16432_0⟩ := q16432
            refine ev_if_ne rfl rfl (fun c16433 => ?_) (fun c16433 => ?_)
            · have b16434 : B r16432 1 1 := R_neL b16432 (by decide : B 0 0 0) c16433 (by decide)
              have b16435 : B a6 20 31 := p16432_0 c16433
              have z16436 := w_ne c16433
              rw [show (0 : Int32).toInt = 0 from by decide] at z16436
              refine ev_aload_n rfl rfl rfl ?_
              refine ev_iload_n rfl rfl rfl ?_
              refine ev_iload_n rfl rfl rfl ?_
              have z16439 := congrArg Int32.toInt ef1
              refine ev_V2P rfl rfl lk_X10_286 vt_X10_isIn rfl rfl rfl rfl rfl (w_isInK L b h hJ0.1 a0 a1 b7) (fun r16440 q16440 => ?_)
              obtain ⟨b16440, pp16440_0⟩ := q16440
              refine ev_if_ne rfl rfl (fun c16441 => ?_) (fun c16441 => ?_)
              · have b16442 : B r16440 1 1 := R_neL b16440 (by decide : B 0 0 0) c16441 (by decide)
                have z16443 := w_ne c16441
                rw [show (0 : Int32).toInt = 0 from by decide] at z16443
                refine ev_aload_n rfl rfl rfl ?_
                refine ev_getR (y := 92) rfl rfl fl_X10_112 rfl rfl rfl rfl ?_
                refine ev_iload rfl rfl rfl ?_
                refine ev_ialW (n := 4) (l := (-2147483648)) (u := 2147483647) hJ0.1 b32 (by decide) (by decide) (fun _ => rfl) rfl rfl rfl (fun v16446 b16446 e16446 => ?_)
                refine ev_iload rfl rfl rfl ?_
                refine ev_icmp_eq rfl rfl (fun c16447 => ?_) (fun c16447 => ?_)
                · have b16448 : B v16446 0 2 := R_eqX (B.any v16446) b33 c16447
                  have z16449 := congrArg Int32.toInt c16447
                  refine ev_iconst (v := 0) rfl rfl (by decide) ?_
                  refine ev_istore rfl rfl rfl rfl ?_
                  dsimp only [List.set]
                  have lp133_29592 : ∀ (n : Nat) (w29593 : Int32) (h29595 : Hp), B w29593 0 24 → JW [(85, 999), (86, 999), (87, 999)] h h29595 → (h29595 63 3 = f1) → (h29595 63 5 = v16429) → (h29595 92 (Int32.toNatClampNeg a3) = v16446) → (IXP h a0 a3 a5 w29593) → 24 + 1 - w29593.toInt ≤ (n : Int) → EvQ mi_X10_blame 133 [some (.ref 63), some (.int a0), some (.int a1), some (.int a2), some (.int a3), some (.int a4), some (.int a5), some (.int a6), some (.int w29593), none, none, none, none, none, none] [] (G0 L b) h29595 0 0 (QJ (fun r : Int32 => B r (-2147483648) 2147483647) [(85, 999), (86, 999), (87, 999)] (G0 L b) h) := by
                    intro n
                    induction n with
                    | zero =>
                      intro w29593 h29595 b29594 hJ29596 z29597 z29598 z29599 u133_0 hm133
                      exact absurd hm133 (L_zero b29594 (by decide))
                    | succ n ih133 =>
                      intro w29593 h29595 b29594 hJ29596 z29597 z29598 z29599 u133_0 hm133
                      have z29600 := congrArg Int32.toInt z29597
                      refine ev_iload rfl rfl rfl ?_
                      refine ev_aload_n rfl rfl rfl ?_
                      refine ev_getR (y := 73) rfl rfl fl_X10_51 rfl rfl rfl rfl ?_
                      refine ev_iload_n rfl rfl rfl ?_
                      refine ev_ialW (n := 6) (l := 0) (u := 24) hJ29596.1 b7 (by decide) (by decide) (fun _ => rfl) rfl rfl rfl (fun v29601 b29601 e29601 => ?_)
                      refine ev_icmp_ge rfl rfl (fun c29602 => ?_) (fun c29602 => ?_)
                      · have z29603 := w_le c29602
                        refine ev_bipush (v := (-4)) rfl rfl (by decide) ?_
                        refine ev_istore rfl rfl rfl rfl ?_
                        dsimp only [List.set]
                        refine ev_bipush (v := (-4)) rfl rfl (by decide) ?_
                        refine ev_istore rfl rfl rfl rfl ?_
                        dsimp only [List.set]
                        refine ev_iconst (v := (-1)) rfl rfl (by decide) ?_
                        refine ev_istore rfl rfl rfl rfl ?_
                        dsimp only [List.set]
                        have lp199_31769 : ∀ (n : Nat) (w31770 : Int32) (w31771 : Int32) (w31772 : Int32) (h31776 : Hp), B w31770 (-4) 2147483647 → B w31771 (-4) 12 → B w31772 (-1) 12 → JW [(85, 999), (86, 999), (87, 999)] h h31776 → (h31776 63 3 = f1) → (h31776 63 5 = v16429) → (h31776 92 (Int32.toNatClampNeg a3) = v16446) → (h31776 73 (Int32.toNatClampNeg a0) = v29601) → 12 + 1 - w31772.toInt ≤ (n : Int) → EvQ mi_X10_blame 199 [some (.ref 63), some (.int a0), some (.int a1), some (.int a2), some (.int a3), some (.int a4), some (.int a5), some (.int a6), some (.int w31770), some (.int w31771), some (.int w31772), none, none, none, none] [] (G0 L b) h31776 0 0 (QJ (fun r : Int32 => B r (-2147483648) 2147483647) [(85, 999), (86, 999), (87, 999)] (G0 L b) h) := by
                          intro n
                          induction n with
                          | zero =>
                            intro w31770 w31771 w31772 h31776 b31773 b31774 b31775 hJ31777 z31778 z31779 z31780 z31781 hm199
                            exact absurd hm199 (L_zero b31775 (by decide))
                          | succ n ih199 =>
                            intro w31770 w31771 w31772 h31776 b31773 b31774 b31775 hJ31777 z31778 z31779 z31780 z31781 hm199
                            have z31782 := congrArg Int32.toInt z31778
                            refine ev_iload rfl rfl rfl ?_
                            refine ev_aload_n rfl rfl rfl ?_
                            refine ev_getV (v := v16429) rfl rfl fl_X10_121 rfl rfl rfl z31779 ?_
                            refine ev_icmp_ge rfl rfl (fun c31783 => ?_) (fun c31783 => ?_)
                            · have b31784 : B w31772 0 12 := R_leY b16429 b31775 c31783 (by decide)
                              have z31785 := w_le c31783
                              refine ev_iload rfl rfl rfl ?_
                              refine ev_bipush (v := (-4)) rfl rfl (by decide) ?_
                              refine ev_icmp_ne rfl rfl (fun c31788 => ?_) (fun c31788 => ?_)
                              · have b31789 : B w31770 (-3) 2147483647 := R_neL b31773 (by decide : B (-4) (-4) (-4)) c31788 (by decide)
                                have z31790 := w_ne c31788
                                rw [show ((-4) : Int32).toInt = (-4) from by decide] at z31790
                                refine ev_iconst (v := 0) rfl rfl (by decide) ?_
                                refine ev_istore rfl rfl rfl rfl ?_
                                dsimp only [List.set]
                                refine ev_iconst (v := 0) rfl rfl (by decide) ?_
                                refine ev_istore rfl rfl rfl rfl ?_
                                dsimp only [List.set]
                                have lp342_31897 : ∀ (n : Nat) (w31898 : Int32) (w31899 : Int32) (h31902 : Hp), B w31898 0 4095 → B w31899 0 12 → JW [(85, 999), (86, 999), (87, 999)] h h31902 → (h31902 63 3 = f1) → (h31902 63 5 = v16429) → (h31902 92 (Int32.toNatClampNeg a3) = v16446) → (h31902 73 (Int32.toNatClampNeg a0) = v29601) → 12 + 1 - w31899.toInt ≤ (n : Int) → EvQ mi_X10_blame 342 [some (.ref 63), some (.int a0), some (.int a1), some (.int a2), some (.int a3), some (.int a4), some (.int a5), some (.int a6), some (.int w31770), some (.int w31771), some (.int w31898), some (.int w31899), none, none, none] [] (G0 L b) h31902 0 0 (QJ (fun r : Int32 => B r (-2147483648) 2147483647) [(85, 999), (86, 999), (87, 999)] (G0 L b) h) := by
                                  intro n
                                  induction n with
                                  | zero =>
                                    intro w31898 w31899 h31902 b31900 b31901 hJ31903 z31904 z31905 z31906 z31907 hm342
                                    exact absurd hm342 (L_zero b31901 (by decide))
                                  | succ n ih342 =>
                                    intro w31898 w31899 h31902 b31900 b31901 hJ31903 z31904 z31905 z31906 z31907 hm342
                                    have z31908 := congrArg Int32.toInt z31904
                                    refine ev_iload rfl rfl rfl ?_
                                    refine ev_bipush (v := 12) rfl rfl (by decide) ?_
                                    refine ev_icmp_ge rfl rfl (fun c31909 => ?_) (fun c31909 => ?_)
                                    · have b31910 : B w31899 12 12 := R_leY (by decide : B 12 12 12) b31901 c31909 (by decide)
                                      have z31911 := w_le c31909
                                      rw [show (12 : Int32).toInt = 12 from by decide] at z31911
                                      refine ev_iload rfl rfl rfl ?_
                                      refine ev_if_ne rfl rfl (fun c31914 => ?_) (fun c31914 => absurd c31914 (D_ne b16435 (by decide : B 0 0 0) (by decide)))
                                      have z31915 := w_ne c31914
                                      rw [show (0 : Int32).toInt = 0 from by decide] at z31915
                                      refine ev_iload rfl rfl rfl ?_
                                      refine ev_iconst (v := 1) rfl rfl (by decide) ?_
                                      refine ev_icmp_ne rfl rfl (fun c31916 => ?_) (fun c31916 => absurd c31916 (D_ne b16435 (by decide : B 1 1 1) (by decide)))
                                      have z31917 := w_ne c31916
                                      rw [show (1 : Int32).toInt = 1 from by decide] at z31917
                                      refine ev_iload rfl rfl rfl ?_
                                      refine ev_iconst (v := 2) rfl rfl (by decide) ?_
                                      refine ev_icmp_ne rfl rfl (fun c31918 => ?_) (fun c31918 => absurd c31918 (D_ne b16435 (by decide : B 2 2 2) (by decide)))
                                      have z31919 := w_ne c31918
                                      rw [show (2 : Int32).toInt = 2 from by decide] at z31919
                                      refine ev_aload_n rfl rfl rfl ?_
                                      refine ev_getR (y := 87) rfl rfl fl_X10_94 rfl rfl rfl rfl ?_
                                      refine ev_iload rfl rfl rfl ?_
                                      refine ev_bipush (v := 20) rfl rfl (by decide) ?_
                                      refine ev_isubB (l := 0) (u := 11) rfl rfl b16435 (by decide : B 20 20 20) (by decide) (by decide) (by decide) (by decide) (fun v31920 b31920 e31920 g31920 => ?_)
                                      have e31920x := e31920; rw [show (20 : Int32).toInt = 20 from by decide] at e31920x
                                      refine ev_ialW (n := 12) (l := (-2147483648)) (u := 2147483647) hJ31903.1 b31920 (by decide) (by decide) (fun _ => rfl) rfl rfl rfl (fun v31921 b31921 e31921 => ?_)
                                      exact ev_iret rfl rfl rfl ⟨⟨_, rfl, (B.any v31921)⟩, rfl, hJ31903⟩
                                    · have b31912 : B w31899 0 11 := R_ltX b31901 (by decide : B 12 12 12) (Int32.not_le.mp c31909) (by decide)
                                      have z31913 := w_lt (Int32.not_le.mp c31909)
                                      rw [show (12 : Int32).toInt = 12 from by decide] at z31913
                                      refine ev_iload rfl rfl rfl ?_
                                      refine ev_aload_n rfl rfl rfl ?_
                                      refine ev_getR (y := 87) rfl rfl fl_X10_94 rfl rfl rfl rfl ?_
                                      refine ev_iload rfl rfl rfl ?_
                                      refine ev_ialW (n := 12) (l := (-2147483648)) (u := 2147483647) hJ31903.1 b31912 (by decide) (by decide) (fun _ => rfl) rfl rfl rfl (fun v31922 b31922 e31922 => ?_)
                                      refine ev_if_ne rfl rfl (fun c31923 => ?_) (fun c31923 => ?_)
                                      · have z31924 := w_ne c31923
                                        rw [show (0 : Int32).toInt = 0 from by decide] at z31924
                                        refine ev_iconst (v := 1) rfl rfl (by decide) ?_
                                        refine ev_iload rfl rfl rfl ?_
                                        refine ev_ishlB rfl rfl b31912 (by decide) (by decide) (fun v31927 b31927 => ?_)
                                        refine ev_iorB 12 (u := 4095) rfl rfl b31900 b31927 (by decide) (by decide) (by decide) (by decide) (by decide) (by decide) (fun v31928 b31928 e31928 => ?_)
                                        refine ev_istore rfl rfl rfl rfl ?_
                                        dsimp only [List.set]
                                        refine ev_iincB (y := 1) (l := 1) (u := 12) rfl rfl rfl (by decide) rfl rfl b31912 (by decide : B 1 1 1) (by decide) (by decide) (by decide) (by decide) (fun v31929 b31929 e31929 => ?_)
                                        dsimp only [List.set]
                                        have e31929x := e31929; rw [show (1 : Int32).toInt = 1 from by decide] at e31929x
                                        refine ev_goto rfl rfl ?_
                                        exact (ih342 v31928 v31929 h31902 b31928 (b31929.mono (by decide) (by decide)) hJ31903 z31904 z31905 z31906 z31907 (L_up hm342 (e_p1 e31929 (by decide))))
                                      · have b31925 : B v31922 0 0 := R_eqX (B.any v31922) (by decide : B 0 0 0) c31923
                                        have z31926 := congrArg Int32.toInt c31923
                                        rw [show (0 : Int32).toInt = 0 from by decide] at z31926
                                        refine ev_iconst (v := 0) rfl rfl (by decide) ?_
                                        refine ev_goto rfl rfl ?_
                                        refine ev_iorB 12 (u := 4095) rfl rfl b31900 (by decide : B 0 0 0) (by decide) (by decide) (by decide) (by decide) (by decide) (by decide) (fun v31930 b31930 e31930 => ?_)
                                        refine ev_istore rfl rfl rfl rfl ?_
                                        dsimp only [List.set]
                                        refine ev_iincB (y := 1) (l := 1) (u := 12) rfl rfl rfl (by decide) rfl rfl b31912 (by decide : B 1 1 1) (by decide) (by decide) (by decide) (by decide) (fun v31931 b31931 e31931 => ?_)
                                        dsimp only [List.set]
                                        have e31931x := e31931; rw [show (1 : Int32).toInt = 1 from by decide] at e31931x
                                        refine ev_goto rfl rfl ?_
                                        exact (ih342 v31930 v31931 h31902 b31930 (b31931.mono (by decide) (by decide)) hJ31903 z31904 z31905 z31906 z31907 (L_up hm342 (e_p1 e31931 (by decide))))
                                exact (lp342_31897 13 0 0 h31776 ((by decide : B 0 0 0).mono (by decide) (by decide)) ((by decide : B 0 0 0).mono (by decide) (by decide)) hJ31777 z31778 z31779 z31780 z31781 (L_init (by decide : B 0 0 0) (by decide)))
                              · have b31791 : B w31770 (-4) (-4) := R_eqX b31773 (by decide : B (-4) (-4) (-4)) c31788
                                have z31792 := congrArg Int32.toInt c31788
                                rw [show ((-4) : Int32).toInt = (-4) from by decide] at z31792
                                refine ev_sipush (v := (-1004)) rfl rfl (by decide) ?_
                                exact ev_iret rfl rfl rfl ⟨⟨_, rfl, ((by decide : B (-1004) (-1004) (-1004)).mono (by decide) (by decide))⟩, rfl, hJ31777⟩
                            · have b31786 : B w31772 (-1) 11 := R_ltX b31775 b16429 (Int32.not_le.mp c31783) (by decide)
                              have z31787 := w_lt (Int32.not_le.mp c31783)
                              refine ev_iload rfl rfl rfl ?_
                              refine ev_if_ge rfl rfl (fun c31932 => ?_) (fun c31932 => ?_)
                              · have b31933 : B w31772 0 11 := R_leY (by decide : B 0 0 0) b31786 c31932 (by decide)
                                have z31934 := w_le c31932
                                rw [show (0 : Int32).toInt = 0 from by decide] at z31934
                                refine ev_iload rfl rfl rfl ?_
                                refine ev_istore rfl rfl rfl rfl ?_
                                dsimp only [List.set]
                                refine ev_aload_n rfl rfl rfl ?_
                                refine ev_iload_n rfl rfl rfl ?_
                                refine ev_iload_n rfl rfl rfl ?_
                                refine ev_iload_n rfl rfl rfl ?_
                                refine ev_iload rfl rfl rfl ?_
                                refine ev_iload rfl rfl rfl ?_
                                refine ev_iload rfl rfl rfl ?_
                                refine ev_V6J hJ31777 rfl rfl rfl lk_X10_338 vt_X10_explains rfl rfl rfl rfl rfl (w_X10_explains_63 L b h31776 hJ31777.1 a0 b7 a1 b16 a2 b25 a3 b32 a5 w31772 (KM.keep (pp16440_0 c16441 b16) hJ31777 (fun _ => rfl) (fun _ => rfl)) (IXP.keep (IXP.all u133_0 (by have q_ := congrArg Int32.toInt z31781; have q2_ := congrArg Int32.toInt (hJ31777.2 73 (Int32.toNatClampNeg a0) rfl); omega)) hJ31777 (fun _ => rfl) (fun _ => rfl) (fun _ => rfl))) (fun r31937 h31937 q31937 hJ31937 k31937 => ?_)
                                refine ev_istore rfl rfl rfl rfl ?_
                                dsimp only [List.set]
                                refine ev_iload rfl rfl rfl ?_
                                refine ev_if_ge rfl rfl (fun c31938 => ?_) (fun c31938 => ?_)
                                · have b31939 : B r31937 0 2147483647 := R_leY (by decide : B 0 0 0) (B.any r31937) c31938 (by decide)
                                  have z31940 := w_le c31938
                                  rw [show (0 : Int32).toInt = 0 from by decide] at z31940
                                  refine ev_iload rfl rfl rfl ?_
                                  refine ev_iload rfl rfl rfl ?_
                                  refine ev_if_ge rfl rfl (fun c31943 => ?_) (fun c31943 => absurd (D_le (by decide : B 0 0 0) b31933 (by decide)) c31943)
                                  have z31944 := w_le c31943
                                  rw [show (0 : Int32).toInt = 0 from by decide] at z31944
                                  refine ev_iconst (v := 1) rfl rfl (by decide) ?_
                                  refine ev_iaddA rfl rfl (fun v31945 g31945 => ?_)
                                  refine ev_istore rfl rfl rfl rfl ?_
                                  dsimp only [List.set]
                                  refine ev_iload rfl rfl rfl ?_
                                  refine ev_if_lt rfl rfl (fun c31946 => ?_) (fun c31946 => ?_)
                                  · have b31947 : B v31945 (-2147483648) (-1) := R_ltX (B.any v31945) (by decide : B 0 0 0) c31946 (by decide)
                                    have z31948 := w_lt c31946
                                    rw [show (0 : Int32).toInt = 0 from by decide] at z31948
                                    refine ev_iincB (y := 1) (l := 1) (u := 12) rfl rfl rfl (by decide) rfl rfl b31933 (by decide : B 1 1 1) (by decide) (by decide) (by decide) (by decide) (fun v31951 b31951 e31951 => ?_)
                                    dsimp only [List.set]
                                    have e31951x := e31951; rw [show (1 : Int32).toInt = 1 from by decide] at e31951x
                                    refine ev_goto rfl rfl ?_
                                    exact (EvQ.drop 13 (EvQ.drop 12 (EvQ.drop 11 (ih199 w31770 w31771 v31951 h31937 b31773 b31774 (b31951.mono (by decide) (by decide)) hJ31937 (rd_w k31937 z31778 rfl) (rd_w k31937 z31779 rfl) (rd_w k31937 z31780 rfl) (rd_w k31937 z31781 rfl) (L_up hm199 (e_p1 e31951 (by decide)))))))
                                  · have b31949 : B v31945 0 2147483647 := R_leY (by decide : B 0 0 0) (B.any v31945) (Int32.not_lt.mp c31946) (by decide)
                                    have z31950 := w_le (Int32.not_lt.mp c31946)
                                    rw [show (0 : Int32).toInt = 0 from by decide] at z31950
                                    refine ev_iload rfl rfl rfl ?_
                                    refine ev_bipush (v := (-4)) rfl rfl (by decide) ?_
                                    refine ev_icmp_eq rfl rfl (fun c31952 => ?_) (fun c31952 => ?_)
                                    · have b31953 : B w31770 (-4) (-4) := R_eqX b31773 (by decide : B (-4) (-4) (-4)) c31952
                                      have z31954 := congrArg Int32.toInt c31952
                                      rw [show ((-4) : Int32).toInt = (-4) from by decide] at z31954
                                      refine ev_iload rfl rfl rfl ?_
                                      refine ev_istore rfl rfl rfl rfl ?_
                                      dsimp only [List.set]
                                      refine ev_iload rfl rfl rfl ?_
                                      refine ev_istore rfl rfl rfl rfl ?_
                                      dsimp only [List.set]
                                      refine ev_iconst (v := 0) rfl rfl (by decide) ?_
                                      refine ev_istore rfl rfl rfl rfl ?_
                                      dsimp only [List.set]
                                      have lp292_32000 : ∀ (n : Nat) (w32001 : Int32) (h32003 : Hp), B w32001 0 12 → JW [(85, 999), (86, 999), (87, 999)] h h32003 → (h32003 63 3 = f1) → (h32003 63 5 = v16429) → (h32003 92 (Int32.toNatClampNeg a3) = v16446) → (h32003 73 (Int32.toNatClampNeg a0) = v29601) → 12 + 1 - w32001.toInt ≤ (n : Int) → EvQ mi_X10_blame 292 [some (.ref 63), some (.int a0), some (.int a1), some (.int a2), some (.int a3), some (.int a4), some (.int a5), some (.int a6), some (.int v31945), some (.int w31772), some (.int w31772), some (.int w31772), some (.int r31937), some (.int v31945), some (.int w32001)] [] (G0 L b) h32003 0 0 (QJ (fun r : Int32 => B r (-2147483648) 2147483647) [(85, 999), (86, 999), (87, 999)] (G0 L b) h) := by
                                        intro n
                                        induction n with
                                        | zero =>
                                          intro w32001 h32003 b32002 hJ32004 z32005 z32006 z32007 z32008 hm292
                                          exact absurd hm292 (L_zero b32002 (by decide))
                                        | succ n ih292 =>
                                          intro w32001 h32003 b32002 hJ32004 z32005 z32006 z32007 z32008 hm292
                                          have z32009 := congrArg Int32.toInt z32005
                                          refine ev_iload rfl rfl rfl ?_
                                          refine ev_bipush (v := 12) rfl rfl (by decide) ?_
                                          refine ev_icmp_ge rfl rfl (fun c32010 => ?_) (fun c32010 => ?_)
                                          · have b32011 : B w32001 12 12 := R_leY (by decide : B 12 12 12) b32002 c32010 (by decide)
                                            have z32012 := w_le c32010
                                            rw [show (12 : Int32).toInt = 12 from by decide] at z32012
                                            refine ev_iincB (y := 1) (l := 1) (u := 12) rfl rfl rfl (by decide) rfl rfl b31933 (by decide : B 1 1 1) (by decide) (by decide) (by decide) (by decide) (fun v32015 b32015 e32015 => ?_)
                                            dsimp only [List.set]
                                            have e32015x := e32015; rw [show (1 : Int32).toInt = 1 from by decide] at e32015x
                                            refine ev_goto rfl rfl ?_
                                            exact (EvQ.drop 14 (EvQ.drop 13 (EvQ.drop 12 (EvQ.drop 11 (ih199 v31945 w31772 v32015 h32003 (b31949.mono (by decide) (by decide)) (b31933.mono (by decide) (by decide)) (b32015.mono (by decide) (by decide)) hJ32004 z32005 z32006 z32007 z32008 (L_up hm199 (e_p1 e32015 (by decide))))))))
                                          · have b32013 : B w32001 0 11 := R_ltX b32002 (by decide : B 12 12 12) (Int32.not_le.mp c32010) (by decide)
                                            have z32014 := w_lt (Int32.not_le.mp c32010)
                                            rw [show (12 : Int32).toInt = 12 from by decide] at z32014
                                            refine ev_aload_n rfl rfl rfl ?_
                                            refine ev_getR (y := 87) rfl rfl fl_X10_94 rfl rfl rfl rfl ?_
                                            refine ev_iload rfl rfl rfl ?_
                                            refine ev_aload_n rfl rfl rfl ?_
                                            refine ev_getR (y := 85) rfl rfl fl_X10_88 rfl rfl rfl rfl ?_
                                            refine ev_iload rfl rfl rfl ?_
                                            refine ev_ialW (n := 12) (l := (-2147483648)) (u := 2147483647) hJ32004.1 b32013 (by decide) (by decide) (fun _ => rfl) rfl rfl rfl (fun v32016 b32016 e32016 => ?_)
                                            refine ev_iasW (n := 12) (l := (-2147483648)) (u := 2147483647) hJ32004 b32013 (by decide) (by decide) (fun _ => rfl) (B.any v32016) (by decide) (by decide) (fun _ => rfl) rfl rfl rfl rfl (fun h32017 hJ32017 k32017 => ?_)
                                            refine ev_iincB (y := 1) (l := 1) (u := 12) rfl rfl rfl (by decide) rfl rfl b32013 (by decide : B 1 1 1) (by decide) (by decide) (by decide) (by decide) (fun v32018 b32018 e32018 => ?_)
                                            dsimp only [List.set]
                                            have e32018x := e32018; rw [show (1 : Int32).toInt = 1 from by decide] at e32018x
                                            refine ev_goto rfl rfl ?_
                                            exact (ih292 v32018 h32017 (b32018.mono (by decide) (by decide)) hJ32017 (rd_a k32017 z32005 rfl) (rd_a k32017 z32006 rfl) (rd_a k32017 z32007 rfl) (rd_a k32017 z32008 rfl) (L_up hm292 (e_p1 e32018 (by decide))))
                                      exact (lp292_32000 13 0 h31937 ((by decide : B 0 0 0).mono (by decide) (by decide)) hJ31937 (rd_w k31937 z31778 rfl) (rd_w k31937 z31779 rfl) (rd_w k31937 z31780 rfl) (rd_w k31937 z31781 rfl) (L_init (by decide : B 0 0 0) (by decide)))
                                    · have b31955 : B w31770 (-3) 2147483647 := R_neL b31773 (by decide : B (-4) (-4) (-4)) c31952 (by decide)
                                      have z31956 := w_ne c31952
                                      rw [show ((-4) : Int32).toInt = (-4) from by decide] at z31956
                                      refine ev_iload rfl rfl rfl ?_
                                      refine ev_iload rfl rfl rfl ?_
                                      refine ev_icmp_ge rfl rfl (fun c32019 => ?_) (fun c32019 => ?_)
                                      · have z32020 := w_le c32019
                                        refine ev_iincB (y := 1) (l := 1) (u := 12) rfl rfl rfl (by decide) rfl rfl b31933 (by decide : B 1 1 1) (by decide) (by decide) (by decide) (by decide) (fun v32024 b32024 e32024 => ?_)
                                        dsimp only [List.set]
                                        have e32024x := e32024; rw [show (1 : Int32).toInt = 1 from by decide] at e32024x
                                        refine ev_goto rfl rfl ?_
                                        exact (EvQ.drop 13 (EvQ.drop 12 (EvQ.drop 11 (ih199 w31770 w31771 v32024 h31937 (b31955.mono (by decide) (by decide)) b31774 (b32024.mono (by decide) (by decide)) hJ31937 (rd_w k31937 z31778 rfl) (rd_w k31937 z31779 rfl) (rd_w k31937 z31780 rfl) (rd_w k31937 z31781 rfl) (L_up hm199 (e_p1 e32024 (by decide)))))))
                                      · have b32021 : B v31945 0 2147483646 := R_ltX b31949 b31955 (Int32.not_le.mp c32019) (by decide)
                                        have b32022 : B w31770 1 2147483647 := R_ltY b31949 b31955 (Int32.not_le.mp c32019) (by decide)
                                        have z32023 := w_lt (Int32.not_le.mp c32019)
                                        refine ev_iload rfl rfl rfl ?_
                                        refine ev_istore rfl rfl rfl rfl ?_
                                        dsimp only [List.set]
                                        refine ev_iload rfl rfl rfl ?_
                                        refine ev_istore rfl rfl rfl rfl ?_
                                        dsimp only [List.set]
                                        refine ev_iconst (v := 0) rfl rfl (by decide) ?_
                                        refine ev_istore rfl rfl rfl rfl ?_
                                        dsimp only [List.set]
                                        have lp292_32068 : ∀ (n : Nat) (w32069 : Int32) (h32071 : Hp), B w32069 0 12 → JW [(85, 999), (86, 999), (87, 999)] h h32071 → (h32071 63 3 = f1) → (h32071 63 5 = v16429) → (h32071 92 (Int32.toNatClampNeg a3) = v16446) → (h32071 73 (Int32.toNatClampNeg a0) = v29601) → 12 + 1 - w32069.toInt ≤ (n : Int) → EvQ mi_X10_blame 292 [some (.ref 63), some (.int a0), some (.int a1), some (.int a2), some (.int a3), some (.int a4), some (.int a5), some (.int a6), some (.int v31945), some (.int w31772), some (.int w31772), some (.int w31772), some (.int r31937), some (.int v31945), some (.int w32069)] [] (G0 L b) h32071 0 0 (QJ (fun r : Int32 => B r (-2147483648) 2147483647) [(85, 999), (86, 999), (87, 999)] (G0 L b) h) := by
                                          intro n
                                          induction n with
                                          | zero =>
                                            intro w32069 h32071 b32070 hJ32072 z32073 z32074 z32075 z32076 hm292
                                            exact absurd hm292 (L_zero b32070 (by decide))
                                          | succ n ih292 =>
                                            intro w32069 h32071 b32070 hJ32072 z32073 z32074 z32075 z32076 hm292
                                            have z32077 := congrArg Int32.toInt z32073
                                            refine ev_iload rfl rfl rfl ?_
                                            refine ev_bipush (v := 12) rfl rfl (by decide) ?_
                                            refine ev_icmp_ge rfl rfl (fun c32078 => ?_) (fun c32078 => ?_)
                                            · have b32079 : B w32069 12 12 := R_leY (by decide : B 12 12 12) b32070 c32078 (by decide)
                                              have z32080 := w_le c32078
                                              rw [show (12 : Int32).toInt = 12 from by decide] at z32080
                                              refine ev_iincB (y := 1) (l := 1) (u := 12) rfl rfl rfl (by decide) rfl rfl b31933 (by decide : B 1 1 1) (by decide) (by decide) (by decide) (by decide) (fun v32083 b32083 e32083 => ?_)
                                              dsimp only [List.set]
                                              have e32083x := e32083; rw [show (1 : Int32).toInt = 1 from by decide] at e32083x
                                              refine ev_goto rfl rfl ?_
                                              exact (EvQ.drop 14 (EvQ.drop 13 (EvQ.drop 12 (EvQ.drop 11 (ih199 v31945 w31772 v32083 h32071 (b32021.mono (by decide) (by decide)) (b31933.mono (by decide) (by decide)) (b32083.mono (by decide) (by decide)) hJ32072 z32073 z32074 z32075 z32076 (L_up hm199 (e_p1 e32083 (by decide))))))))
                                            · have b32081 : B w32069 0 11 := R_ltX b32070 (by decide : B 12 12 12) (Int32.not_le.mp c32078) (by decide)
                                              have z32082 := w_lt (Int32.not_le.mp c32078)
                                              rw [show (12 : Int32).toInt = 12 from by decide] at z32082
                                              refine ev_aload_n rfl rfl rfl ?_
                                              refine ev_getR (y := 87) rfl rfl fl_X10_94 rfl rfl rfl rfl ?_
                                              refine ev_iload rfl rfl rfl ?_
                                              refine ev_aload_n rfl rfl rfl ?_
                                              refine ev_getR (y := 85) rfl rfl fl_X10_88 rfl rfl rfl rfl ?_
                                              refine ev_iload rfl rfl rfl ?_
                                              refine ev_ialW (n := 12) (l := (-2147483648)) (u := 2147483647) hJ32072.1 b32081 (by decide) (by decide) (fun _ => rfl) rfl rfl rfl (fun v32084 b32084 e32084 => ?_)
                                              refine ev_iasW (n := 12) (l := (-2147483648)) (u := 2147483647) hJ32072 b32081 (by decide) (by decide) (fun _ => rfl) (B.any v32084) (by decide) (by decide) (fun _ => rfl) rfl rfl rfl rfl (fun h32085 hJ32085 k32085 => ?_)
                                              refine ev_iincB (y := 1) (l := 1) (u := 12) rfl rfl rfl (by decide) rfl rfl b32081 (by decide : B 1 1 1) (by decide) (by decide) (by decide) (by decide) (fun v32086 b32086 e32086 => ?_)
                                              dsimp only [List.set]
                                              have e32086x := e32086; rw [show (1 : Int32).toInt = 1 from by decide] at e32086x
                                              refine ev_goto rfl rfl ?_
                                              exact (ih292 v32086 h32085 (b32086.mono (by decide) (by decide)) hJ32085 (rd_a k32085 z32073 rfl) (rd_a k32085 z32074 rfl) (rd_a k32085 z32075 rfl) (rd_a k32085 z32076 rfl) (L_up hm292 (e_p1 e32086 (by decide))))
                                        exact (lp292_32068 13 0 h31937 ((by decide : B 0 0 0).mono (by decide) (by decide)) hJ31937 (rd_w k31937 z31778 rfl) (rd_w k31937 z31779 rfl) (rd_w k31937 z31780 rfl) (rd_w k31937 z31781 rfl) (L_init (by decide : B 0 0 0) (by decide)))
                                · have b31941 : B r31937 (-2147483648) (-1) := R_ltX (B.any r31937) (by decide : B 0 0 0) (Int32.not_le.mp c31938) (by decide)
                                  have z31942 := w_lt (Int32.not_le.mp c31938)
                                  rw [show (0 : Int32).toInt = 0 from by decide] at z31942
                                  refine ev_bipush (v := (-4)) rfl rfl (by decide) ?_
                                  refine ev_goto rfl rfl ?_
                                  refine ev_istore rfl rfl rfl rfl ?_
                                  dsimp only [List.set]
                                  refine ev_iload rfl rfl rfl ?_
                                  refine ev_if_lt rfl rfl (fun c32087 => ?_) (fun c32087 => absurd (D_lt (by decide : B (-4) (-4) (-4)) (by decide : B 0 0 0) (by decide)) c32087)
                                  have z32088 := w_lt c32087
                                  rw [show ((-4) : Int32).toInt = (-4) from by decide] at z32088
                                  rw [show (0 : Int32).toInt = 0 from by decide] at z32088
                                  refine ev_iincB (y := 1) (l := 1) (u := 12) rfl rfl rfl (by decide) rfl rfl b31933 (by decide : B 1 1 1) (by decide) (by decide) (by decide) (by decide) (fun v32089 b32089 e32089 => ?_)
                                  dsimp only [List.set]
                                  have e32089x := e32089; rw [show (1 : Int32).toInt = 1 from by decide] at e32089x
                                  refine ev_goto rfl rfl ?_
                                  exact (EvQ.drop 13 (EvQ.drop 12 (EvQ.drop 11 (ih199 w31770 w31771 v32089 h31937 b31773 b31774 (b32089.mono (by decide) (by decide)) hJ31937 (rd_w k31937 z31778 rfl) (rd_w k31937 z31779 rfl) (rd_w k31937 z31780 rfl) (rd_w k31937 z31781 rfl) (L_up hm199 (e_p1 e32089 (by decide)))))))
                              · have b31935 : B w31772 (-1) (-1) := R_ltX b31786 (by decide : B 0 0 0) (Int32.not_le.mp c31932) (by decide)
                                have z31936 := w_lt (Int32.not_le.mp c31932)
                                rw [show (0 : Int32).toInt = 0 from by decide] at z31936
                                refine ev_bipush (v := (-4)) rfl rfl (by decide) ?_
                                refine ev_goto rfl rfl ?_
                                refine ev_istore rfl rfl rfl rfl ?_
                                dsimp only [List.set]
                                refine ev_aload_n rfl rfl rfl ?_
                                refine ev_iload_n rfl rfl rfl ?_
                                refine ev_iload_n rfl rfl rfl ?_
                                refine ev_iload_n rfl rfl rfl ?_
                                refine ev_iload rfl rfl rfl ?_
                                refine ev_iload rfl rfl rfl ?_
                                refine ev_iload rfl rfl rfl ?_
                                refine ev_V6J hJ31777 rfl rfl rfl lk_X10_338 vt_X10_explains rfl rfl rfl rfl rfl (w_X10_explains_63 L b h31776 hJ31777.1 a0 b7 a1 b16 a2 b25 a3 b32 a5 (-4) (KM.keep (pp16440_0 c16441 b16) hJ31777 (fun _ => rfl) (fun _ => rfl)) (IXP.keep (IXP.all u133_0 (by have q_ := congrArg Int32.toInt z31781; have q2_ := congrArg Int32.toInt (hJ31777.2 73 (Int32.toNatClampNeg a0) rfl); omega)) hJ31777 (fun _ => rfl) (fun _ => rfl) (fun _ => rfl))) (fun r32090 h32090 q32090 hJ32090 k32090 => ?_)
                                refine ev_istore rfl rfl rfl rfl ?_
                                dsimp only [List.set]
                                refine ev_iload rfl rfl rfl ?_
                                refine ev_if_ge rfl rfl (fun c32091 => ?_) (fun c32091 => ?_)
                                · have b32092 : B r32090 0 2147483647 := R_leY (by decide : B 0 0 0) (B.any r32090) c32091 (by decide)
                                  have z32093 := w_le c32091
                                  rw [show (0 : Int32).toInt = 0 from by decide] at z32093
                                  refine ev_iload rfl rfl rfl ?_
                                  refine ev_iload rfl rfl rfl ?_
                                  refine ev_if_ge rfl rfl (fun c32096 => absurd c32096 (D_nle (by decide : B 0 0 0) b31935 (by decide))) (fun c32096 => ?_)
                                  have z32097 := w_lt (Int32.not_le.mp c32096)
                                  rw [show (0 : Int32).toInt = 0 from by decide] at z32097
                                  refine ev_iconst (v := 0) rfl rfl (by decide) ?_
                                  refine ev_goto rfl rfl ?_
                                  refine ev_iaddB (l := 0) (u := 2147483647) rfl rfl b32092 (by decide : B 0 0 0) (by decide) (by decide) (by decide) (by decide) (fun v32098 b32098 e32098 g32098 => ?_)
                                  have e32098x := e32098; rw [show (0 : Int32).toInt = 0 from by decide] at e32098x
                                  refine ev_istore rfl rfl rfl rfl ?_
                                  dsimp only [List.set]
                                  refine ev_iload rfl rfl rfl ?_
                                  refine ev_if_lt rfl rfl (fun c32099 => absurd c32099 (D_nlt b32098 (by decide : B 0 0 0) (by decide))) (fun c32099 => ?_)
                                  have z32100 := w_le (Int32.not_lt.mp c32099)
                                  rw [show (0 : Int32).toInt = 0 from by decide] at z32100
                                  refine ev_iload rfl rfl rfl ?_
                                  refine ev_bipush (v := (-4)) rfl rfl (by decide) ?_
                                  refine ev_icmp_eq rfl rfl (fun c32101 => ?_) (fun c32101 => ?_)
                                  · have b32102 : B w31770 (-4) (-4) := R_eqX b31773 (by decide : B (-4) (-4) (-4)) c32101
                                    have z32103 := congrArg Int32.toInt c32101
                                    rw [show ((-4) : Int32).toInt = (-4) from by decide] at z32103
                                    refine ev_iload rfl rfl rfl ?_
                                    refine ev_istore rfl rfl rfl rfl ?_
                                    dsimp only [List.set]
                                    refine ev_iload rfl rfl rfl ?_
                                    refine ev_istore rfl rfl rfl rfl ?_
                                    dsimp only [List.set]
                                    refine ev_iconst (v := 0) rfl rfl (by decide) ?_
                                    refine ev_istore rfl rfl rfl rfl ?_
                                    dsimp only [List.set]
                                    have lp292_32149 : ∀ (n : Nat) (w32150 : Int32) (h32152 : Hp), B w32150 0 12 → JW [(85, 999), (86, 999), (87, 999)] h h32152 → (h32152 63 3 = f1) → (h32152 63 5 = v16429) → (h32152 92 (Int32.toNatClampNeg a3) = v16446) → (h32152 73 (Int32.toNatClampNeg a0) = v29601) → 12 + 1 - w32150.toInt ≤ (n : Int) → EvQ mi_X10_blame 292 [some (.ref 63), some (.int a0), some (.int a1), some (.int a2), some (.int a3), some (.int a4), some (.int a5), some (.int a6), some (.int v32098), some (.int (-4)), some (.int w31772), some (.int (-4)), some (.int r32090), some (.int v32098), some (.int w32150)] [] (G0 L b) h32152 0 0 (QJ (fun r : Int32 => B r (-2147483648) 2147483647) [(85, 999), (86, 999), (87, 999)] (G0 L b) h) := by
                                      intro n
                                      induction n with
                                      | zero =>
                                        intro w32150 h32152 b32151 hJ32153 z32154 z32155 z32156 z32157 hm292
                                        exact absurd hm292 (L_zero b32151 (by decide))
                                      | succ n ih292 =>
                                        intro w32150 h32152 b32151 hJ32153 z32154 z32155 z32156 z32157 hm292
                                        have z32158 := congrArg Int32.toInt z32154
                                        refine ev_iload rfl rfl rfl ?_
                                        refine ev_bipush (v := 12) rfl rfl (by decide) ?_
                                        refine ev_icmp_ge rfl rfl (fun c32159 => ?_) (fun c32159 => ?_)
                                        · have b32160 : B w32150 12 12 := R_leY (by decide : B 12 12 12) b32151 c32159 (by decide)
                                          have z32161 := w_le c32159
                                          rw [show (12 : Int32).toInt = 12 from by decide] at z32161
                                          refine ev_iincB (y := 1) (l := 0) (u := 0) rfl rfl rfl (by decide) rfl rfl b31935 (by decide : B 1 1 1) (by decide) (by decide) (by decide) (by decide) (fun v32164 b32164 e32164 => ?_)
                                          dsimp only [List.set]
                                          have e32164x := e32164; rw [show (1 : Int32).toInt = 1 from by decide] at e32164x
                                          refine ev_goto rfl rfl ?_
                                          exact (EvQ.drop 14 (EvQ.drop 13 (EvQ.drop 12 (EvQ.drop 11 (ih199 v32098 (-4) v32164 h32152 (b32098.mono (by decide) (by decide)) ((by decide : B (-4) (-4) (-4)).mono (by decide) (by decide)) (b32164.mono (by decide) (by decide)) hJ32153 z32154 z32155 z32156 z32157 (L_up hm199 (e_p1 e32164 (by decide))))))))
                                        · have b32162 : B w32150 0 11 := R_ltX b32151 (by decide : B 12 12 12) (Int32.not_le.mp c32159) (by decide)
                                          have z32163 := w_lt (Int32.not_le.mp c32159)
                                          rw [show (12 : Int32).toInt = 12 from by decide] at z32163
                                          refine ev_aload_n rfl rfl rfl ?_
                                          refine ev_getR (y := 87) rfl rfl fl_X10_94 rfl rfl rfl rfl ?_
                                          refine ev_iload rfl rfl rfl ?_
                                          refine ev_aload_n rfl rfl rfl ?_
                                          refine ev_getR (y := 85) rfl rfl fl_X10_88 rfl rfl rfl rfl ?_
                                          refine ev_iload rfl rfl rfl ?_
                                          refine ev_ialW (n := 12) (l := (-2147483648)) (u := 2147483647) hJ32153.1 b32162 (by decide) (by decide) (fun _ => rfl) rfl rfl rfl (fun v32165 b32165 e32165 => ?_)
                                          refine ev_iasW (n := 12) (l := (-2147483648)) (u := 2147483647) hJ32153 b32162 (by decide) (by decide) (fun _ => rfl) (B.any v32165) (by decide) (by decide) (fun _ => rfl) rfl rfl rfl rfl (fun h32166 hJ32166 k32166 => ?_)
                                          refine ev_iincB (y := 1) (l := 1) (u := 12) rfl rfl rfl (by decide) rfl rfl b32162 (by decide : B 1 1 1) (by decide) (by decide) (by decide) (by decide) (fun v32167 b32167 e32167 => ?_)
                                          dsimp only [List.set]
                                          have e32167x := e32167; rw [show (1 : Int32).toInt = 1 from by decide] at e32167x
                                          refine ev_goto rfl rfl ?_
                                          exact (ih292 v32167 h32166 (b32167.mono (by decide) (by decide)) hJ32166 (rd_a k32166 z32154 rfl) (rd_a k32166 z32155 rfl) (rd_a k32166 z32156 rfl) (rd_a k32166 z32157 rfl) (L_up hm292 (e_p1 e32167 (by decide))))
                                    exact (lp292_32149 13 0 h32090 ((by decide : B 0 0 0).mono (by decide) (by decide)) hJ32090 (rd_w k32090 z31778 rfl) (rd_w k32090 z31779 rfl) (rd_w k32090 z31780 rfl) (rd_w k32090 z31781 rfl) (L_init (by decide : B 0 0 0) (by decide)))
                                  · have b32104 : B w31770 (-3) 2147483647 := R_neL b31773 (by decide : B (-4) (-4) (-4)) c32101 (by decide)
                                    have z32105 := w_ne c32101
                                    rw [show ((-4) : Int32).toInt = (-4) from by decide] at z32105
                                    refine ev_iload rfl rfl rfl ?_
                                    refine ev_iload rfl rfl rfl ?_
                                    refine ev_icmp_ge rfl rfl (fun c32168 => ?_) (fun c32168 => ?_)
                                    · have z32169 := w_le c32168
                                      refine ev_iincB (y := 1) (l := 0) (u := 0) rfl rfl rfl (by decide) rfl rfl b31935 (by decide : B 1 1 1) (by decide) (by decide) (by decide) (by decide) (fun v32174 b32174 e32174 => ?_)
                                      dsimp only [List.set]
                                      have e32174x := e32174; rw [show (1 : Int32).toInt = 1 from by decide] at e32174x
                                      refine ev_goto rfl rfl ?_
                                      exact (EvQ.drop 13 (EvQ.drop 12 (EvQ.drop 11 (ih199 w31770 w31771 v32174 h32090 (b32104.mono (by decide) (by decide)) b31774 (b32174.mono (by decide) (by decide)) hJ32090 (rd_w k32090 z31778 rfl) (rd_w k32090 z31779 rfl) (rd_w k32090 z31780 rfl) (rd_w k32090 z31781 rfl) (L_up hm199 (e_p1 e32174 (by decide)))))))
                                    · have b32170 : B v32098 0 2147483646 := R_ltX b32098 b32104 (Int32.not_le.mp c32168) (by decide)
                                      have b32171 : B r32090 0 2147483646 := (R_bk (l' := 0) (u' := 2147483646) e32098 b32170 (by decide : B 0 0 0) (by decide) (by decide))
                                      have b32172 : B w31770 1 2147483647 := R_ltY b32098 b32104 (Int32.not_le.mp c32168) (by decide)
                                      have z32173 := w_lt (Int32.not_le.mp c32168)
                                      refine ev_iload rfl rfl rfl ?_
                                      refine ev_istore rfl rfl rfl rfl ?_
                                      dsimp only [List.set]
                                      refine ev_iload rfl rfl rfl ?_
                                      refine ev_istore rfl rfl rfl rfl ?_
                                      dsimp only [List.set]
                                      refine ev_iconst (v := 0) rfl rfl (by decide) ?_
                                      refine ev_istore rfl rfl rfl rfl ?_
                                      dsimp only [List.set]
                                      have lp292_32218 : ∀ (n : Nat) (w32219 : Int32) (h32221 : Hp), B w32219 0 12 → JW [(85, 999), (86, 999), (87, 999)] h h32221 → (h32221 63 3 = f1) → (h32221 63 5 = v16429) → (h32221 92 (Int32.toNatClampNeg a3) = v16446) → (h32221 73 (Int32.toNatClampNeg a0) = v29601) → 12 + 1 - w32219.toInt ≤ (n : Int) → EvQ mi_X10_blame 292 [some (.ref 63), some (.int a0), some (.int a1), some (.int a2), some (.int a3), some (.int a4), some (.int a5), some (.int a6), some (.int v32098), some (.int (-4)), some (.int w31772), some (.int (-4)), some (.int r32090), some (.int v32098), some (.int w32219)] [] (G0 L b) h32221 0 0 (QJ (fun r : Int32 => B r (-2147483648) 2147483647) [(85, 999), (86, 999), (87, 999)] (G0 L b) h) := by
                                        intro n
                                        induction n with
                                        | zero =>
                                          intro w32219 h32221 b32220 hJ32222 z32223 z32224 z32225 z32226 hm292
                                          exact absurd hm292 (L_zero b32220 (by decide))
                                        | succ n ih292 =>
                                          intro w32219 h32221 b32220 hJ32222 z32223 z32224 z32225 z32226 hm292
                                          have z32227 := congrArg Int32.toInt z32223
                                          refine ev_iload rfl rfl rfl ?_
                                          refine ev_bipush (v := 12) rfl rfl (by decide) ?_
                                          refine ev_icmp_ge rfl rfl (fun c32228 => ?_) (fun c32228 => ?_)
                                          · have b32229 : B w32219 12 12 := R_leY (by decide : B 12 12 12) b32220 c32228 (by decide)
                                            have z32230 := w_le c32228
                                            rw [show (12 : Int32).toInt = 12 from by decide] at z32230
                                            refine ev_iincB (y := 1) (l := 0) (u := 0) rfl rfl rfl (by decide) rfl rfl b31935 (by decide : B 1 1 1) (by decide) (by decide) (by decide) (by decide) (fun v32233 b32233 e32233 => ?_)
                                            dsimp only [List.set]
                                            have e32233x := e32233; rw [show (1 : Int32).toInt = 1 from by decide] at e32233x
                                            refine ev_goto rfl rfl ?_
                                            exact (EvQ.drop 14 (EvQ.drop 13 (EvQ.drop 12 (EvQ.drop 11 (ih199 v32098 (-4) v32233 h32221 (b32170.mono (by decide) (by decide)) ((by decide : B (-4) (-4) (-4)).mono (by decide) (by decide)) (b32233.mono (by decide) (by decide)) hJ32222 z32223 z32224 z32225 z32226 (L_up hm199 (e_p1 e32233 (by decide))))))))
                                          · have b32231 : B w32219 0 11 := R_ltX b32220 (by decide : B 12 12 12) (Int32.not_le.mp c32228) (by decide)
                                            have z32232 := w_lt (Int32.not_le.mp c32228)
                                            rw [show (12 : Int32).toInt = 12 from by decide] at z32232
                                            refine ev_aload_n rfl rfl rfl ?_
                                            refine ev_getR (y := 87) rfl rfl fl_X10_94 rfl rfl rfl rfl ?_
                                            refine ev_iload rfl rfl rfl ?_
                                            refine ev_aload_n rfl rfl rfl ?_
                                            refine ev_getR (y := 85) rfl rfl fl_X10_88 rfl rfl rfl rfl ?_
                                            refine ev_iload rfl rfl rfl ?_
                                            refine ev_ialW (n := 12) (l := (-2147483648)) (u := 2147483647) hJ32222.1 b32231 (by decide) (by decide) (fun _ => rfl) rfl rfl rfl (fun v32234 b32234 e32234 => ?_)
                                            refine ev_iasW (n := 12) (l := (-2147483648)) (u := 2147483647) hJ32222 b32231 (by decide) (by decide) (fun _ => rfl) (B.any v32234) (by decide) (by decide) (fun _ => rfl) rfl rfl rfl rfl (fun h32235 hJ32235 k32235 => ?_)
                                            refine ev_iincB (y := 1) (l := 1) (u := 12) rfl rfl rfl (by decide) rfl rfl b32231 (by decide : B 1 1 1) (by decide) (by decide) (by decide) (by decide) (fun v32236 b32236 e32236 => ?_)
                                            dsimp only [List.set]
                                            have e32236x := e32236; rw [show (1 : Int32).toInt = 1 from by decide] at e32236x
                                            refine ev_goto rfl rfl ?_
                                            exact (ih292 v32236 h32235 (b32236.mono (by decide) (by decide)) hJ32235 (rd_a k32235 z32223 rfl) (rd_a k32235 z32224 rfl) (rd_a k32235 z32225 rfl) (rd_a k32235 z32226 rfl) (L_up hm292 (e_p1 e32236 (by decide))))
                                      exact (lp292_32218 13 0 h32090 ((by decide : B 0 0 0).mono (by decide) (by decide)) hJ32090 (rd_w k32090 z31778 rfl) (rd_w k32090 z31779 rfl) (rd_w k32090 z31780 rfl) (rd_w k32090 z31781 rfl) (L_init (by decide : B 0 0 0) (by decide)))
                                · have b32094 : B r32090 (-2147483648) (-1) := R_ltX (B.any r32090) (by decide : B 0 0 0) (Int32.not_le.mp c32091) (by decide)
                                  have z32095 := w_lt (Int32.not_le.mp c32091)
                                  rw [show (0 : Int32).toInt = 0 from by decide] at z32095
                                  refine ev_bipush (v := (-4)) rfl rfl (by decide) ?_
                                  refine ev_goto rfl rfl ?_
                                  refine ev_istore rfl rfl rfl rfl ?_
                                  dsimp only [List.set]
                                  refine ev_iload rfl rfl rfl ?_
                                  refine ev_if_lt rfl rfl (fun c32237 => ?_) (fun c32237 => absurd (D_lt (by decide : B (-4) (-4) (-4)) (by decide : B 0 0 0) (by decide)) c32237)
                                  have z32238 := w_lt c32237
                                  rw [show ((-4) : Int32).toInt = (-4) from by decide] at z32238
                                  rw [show (0 : Int32).toInt = 0 from by decide] at z32238
                                  refine ev_iincB (y := 1) (l := 0) (u := 0) rfl rfl rfl (by decide) rfl rfl b31935 (by decide : B 1 1 1) (by decide) (by decide) (by decide) (by decide) (fun v32239 b32239 e32239 => ?_)
                                  dsimp only [List.set]
                                  have e32239x := e32239; rw [show (1 : Int32).toInt = 1 from by decide] at e32239x
                                  refine ev_goto rfl rfl ?_
                                  exact (EvQ.drop 13 (EvQ.drop 12 (EvQ.drop 11 (ih199 w31770 w31771 v32239 h32090 b31773 b31774 (b32239.mono (by decide) (by decide)) hJ32090 (rd_w k32090 z31778 rfl) (rd_w k32090 z31779 rfl) (rd_w k32090 z31780 rfl) (rd_w k32090 z31781 rfl) (L_up hm199 (e_p1 e32239 (by decide)))))))
                        exact (lp199_31769 14 (-4) (-4) (-1) h29595 ((by decide : B (-4) (-4) (-4)).mono (by decide) (by decide)) ((by decide : B (-4) (-4) (-4)).mono (by decide) (by decide)) ((by decide : B (-1) (-1) (-1)).mono (by decide) (by decide)) hJ29596 z29597 z29598 z29599 e29601 (L_init (by decide : B (-1) (-1) (-1)) (by decide)))
                      · have b29604 : B w29593 0 23 := R_ltX b29594 b29601 (Int32.not_le.mp c29602) (by decide)
                        have b29605 : B v29601 1 24 := R_ltY b29594 b29601 (Int32.not_le.mp c29602) (by decide)
                        have z29606 := w_lt (Int32.not_le.mp c29602)
                        refine ev_aload_n rfl rfl rfl ?_
                        refine ev_iload_n rfl rfl rfl ?_
                        refine ev_iload rfl rfl rfl ?_
                        have z32240 := congrArg Int32.toInt z29597
                        refine ev_V2P rfl rfl lk_X10_263 vt_X10_chordAt rfl rfl rfl rfl rfl (w_chordAtK L b h29595 hJ29596.1 a0 w29593 b7 b29604) (fun r32241 q32241 => ?_)
                        obtain ⟨b32241, pp32241_0⟩ := q32241
                        refine ev_if_eq rfl rfl (fun c32242 => ?_) (fun c32242 => ?_)
                        · have b32243 : B r32241 0 0 := R_eqX b32241 (by decide : B 0 0 0) c32242
                          have z32244 := congrArg Int32.toInt c32242
                          rw [show (0 : Int32).toInt = 0 from by decide] at z32244
                          refine ev_iincB (y := 1) (l := 1) (u := 24) rfl rfl rfl (by decide) rfl rfl b29604 (by decide : B 1 1 1) (by decide) (by decide) (by decide) (by decide) (fun v32247 b32247 e32247 => ?_)
                          dsimp only [List.set]
                          have e32247x := e32247; rw [show (1 : Int32).toInt = 1 from by decide] at e32247x
                          refine ev_goto rfl rfl ?_
                          exact (ih133 v32247 h29595 (b32247.mono (by decide) (by decide)) hJ29596 z29597 z29598 z29599 (IXP.step u133_0 b29604 e32247x (fun q_ => absurd (by rw [← hJ29596.2 74 _ rfl, ← pp32241_0]; exact c32242) q_)) (L_up hm133 (e_p1 e32247 (by decide))))
                        · have b32245 : B r32241 1 4095 := R_neL b32241 (by decide : B 0 0 0) c32242 (by decide)
                          have z32246 := w_ne c32242
                          rw [show (0 : Int32).toInt = 0 from by decide] at z32246
                          refine ev_iload rfl rfl rfl ?_
                          refine ev_i2l rfl rfl ?_
                          have z32248 := Int32.toInt_toInt64 a5
                          have z32248b := B.any a5
                          refine ev_iload rfl rfl rfl ?_
                          refine ev_i2l rfl rfl ?_
                          have z32249 := Int32.toInt_toInt64 w29593
                          have z32249b := B.any w29593
                          refine ev_ladd rfl rfl ?_
                          have z32250 := l_add (Int32.toInt64 a5) (Int32.toInt64 w29593) (by have z_ := l_lits; omega) (by have z_ := l_lits; omega) (by have z_ := l_lits; omega) (by have z_ := l_lits; omega)
                          refine ev_lconst (v := 0) rfl rfl rfl ?_
                          refine ev_aload_n rfl rfl rfl ?_
                          refine ev_getR (y := 93) rfl rfl fl_X10_115 rfl rfl rfl rfl ?_
                          refine ev_iload rfl rfl rfl ?_
                          refine ev_ialW (n := 4) (l := 0) (u := 60) hJ29596.1 b32 (by decide) (by decide) (fun _ => rfl) rfl rfl rfl (fun v32251 b32251 e32251 => ?_)
                          refine ev_iconst (v := 1) rfl rfl (by decide) ?_
                          refine ev_isubB (l := -1) (u := 59) rfl rfl b32251 (by decide : B 1 1 1) (by decide) (by decide) (by decide) (by decide) (fun v32252 b32252 e32252 g32252 => ?_)
                          have e32252x := e32252; rw [show (1 : Int32).toInt = 1 from by decide] at e32252x
                          refine ev_i2l rfl rfl ?_
                          have z32253 := Int32.toInt_toInt64 v32252
                          have z32253b := B.any v32252
                          have z32254 := congrArg Int32.toInt z29597
                          refine ev_S3P rfl rfl lk_X10_124 st_X10_in rfl rfl (w_inIX L b h29595 a5 w29593 v32251 v32252 e32252x) (fun r32255 q32255 => ?_)
                          obtain ⟨b32255, pp32255_0⟩ := q32255
                          refine ev_if_ne rfl rfl (fun c32256 => ?_) (fun c32256 => ?_)
                          · have b32257 : B r32255 1 1 := R_neL b32255 (by decide : B 0 0 0) c32256 (by decide)
                            have z32258 := w_ne c32256
                            rw [show (0 : Int32).toInt = 0 from by decide] at z32258
                            refine ev_iincB (y := 1) (l := 1) (u := 24) rfl rfl rfl (by decide) rfl rfl b29604 (by decide : B 1 1 1) (by decide) (by decide) (by decide) (by decide) (fun v32261 b32261 e32261 => ?_)
                            dsimp only [List.set]
                            have e32261x := e32261; rw [show (1 : Int32).toInt = 1 from by decide] at e32261x
                            refine ev_goto rfl rfl ?_
                            exact (ih133 v32261 h29595 (b32261.mono (by decide) (by decide)) hJ29596 z29597 z29598 z29599 (IXP.step u133_0 b29604 e32261x (fun _ => by have q_ := pp32255_0 c32256; have q2_ := congrArg Int32.toInt e32251; have q3_ := congrArg Int32.toInt (hJ29596.2 93 (Int32.toNatClampNeg a3) rfl); omega)) (L_up hm133 (e_p1 e32261 (by decide))))
                          · have b32259 : B r32255 0 0 := R_eqX b32255 (by decide : B 0 0 0) c32256
                            have z32260 := congrArg Int32.toInt c32256
                            rw [show (0 : Int32).toInt = 0 from by decide] at z32260
                            refine ev_sipush (v := (-1012)) rfl rfl (by decide) ?_
                            exact ev_iret rfl rfl rfl ⟨⟨_, rfl, ((by decide : B (-1012) (-1012) (-1012)).mono (by decide) (by decide))⟩, rfl, hJ29596⟩
                  exact (lp133_29592 25 0 h ((by decide : B 0 0 0).mono (by decide) (by decide)) hJ0 ef1 e16429 e16446 (IXP.zero h a0 a3 a5) (L_init (by decide : B 0 0 0) (by decide)))
                · have z16450 := w_ne c16447
                  refine ev_sipush (v := (-1010)) rfl rfl (by decide) ?_
                  refine ev_aload_n rfl rfl rfl ?_
                  refine ev_getR (y := 92) rfl rfl fl_X10_112 rfl rfl rfl rfl ?_
                  refine ev_iload rfl rfl rfl ?_
                  refine ev_iadV (v := v16446) rfl rfl rfl (b32.vp (by decide) (by decide)) rfl e16446 ?_
                  refine ev_bipush (v := (-4)) rfl rfl (by decide) ?_
                  refine ev_icmp_ne rfl rfl (fun c32262 => ?_) (fun c32262 => ?_)
                  · have z32263 := w_ne c32262
                    rw [show ((-4) : Int32).toInt = (-4) from by decide] at z32263
                    refine ev_iconst (v := 3) rfl rfl (by decide) ?_
                    refine ev_isubB (l := -1013) (u := -1013) rfl rfl (by decide : B (-1010) (-1010) (-1010)) (by decide : B 3 3 3) (by decide) (by decide) (by decide) (by decide) (fun v32266 b32266 e32266 g32266 => ?_)
                    have e32266x := e32266; rw [show ((-1010) : Int32).toInt = (-1010) from by decide] at e32266x
                    have e32266xx := e32266x; rw [show (3 : Int32).toInt = 3 from by decide] at e32266xx
                    exact ev_iret rfl rfl rfl ⟨⟨_, rfl, (b32266.mono (by decide) (by decide))⟩, rfl, hJ0⟩
                  · have b32264 : B v16446 (-4) (-4) := R_eqX (B.any v16446) (by decide : B (-4) (-4) (-4)) c32262
                    have z32265 := congrArg Int32.toInt c32262
                    rw [show ((-4) : Int32).toInt = (-4) from by decide] at z32265
                    refine ev_iconst (v := 1) rfl rfl (by decide) ?_
                    refine ev_goto rfl rfl ?_
                    refine ev_isubB (l := -1011) (u := -1011) rfl rfl (by decide : B (-1010) (-1010) (-1010)) (by decide : B 1 1 1) (by decide) (by decide) (by decide) (by decide) (fun v32267 b32267 e32267 g32267 => ?_)
                    have e32267x := e32267; rw [show ((-1010) : Int32).toInt = (-1010) from by decide] at e32267x
                    have e32267xx := e32267x; rw [show (1 : Int32).toInt = 1 from by decide] at e32267xx
                    exact ev_iret rfl rfl rfl ⟨⟨_, rfl, (b32267.mono (by decide) (by decide))⟩, rfl, hJ0⟩
              · have b16444 : B r16440 0 0 := R_eqX b16440 (by decide : B 0 0 0) c16441
                have z16445 := congrArg Int32.toInt c16441
                rw [show (0 : Int32).toInt = 0 from by decide] at z16445
                refine ev_sipush (v := (-1002)) rfl rfl (by decide) ?_
                exact ev_iret rfl rfl rfl ⟨⟨_, rfl, ((by decide : B (-1002) (-1002) (-1002)).mono (by decide) (by decide))⟩, rfl, hJ0⟩
            · have b16437 : B r16432 0 0 := R_eqX b16432 (by decide : B 0 0 0) c16433
              have z16438 := congrArg Int32.toInt c16433
              rw [show (0 : Int32).toInt = 0 from by decide] at z16438
              refine ev_sipush (v := (-1000)) rfl rfl (by decide) ?_
              exact ev_iret rfl rfl rfl ⟨⟨_, rfl, ((by decide : B (-1000) (-1000) (-1000)).mono (by decide) (by decide))⟩, rfl, hJ0⟩
