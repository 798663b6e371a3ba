set_option maxRecDepth 100000 in
set_option maxHeartbeats 4000000 in
theorem w_X10_explains_63 (L : Nat) (b : Bool) (h : Hp) (hB : Bx h) (a0 : Int32) (p0 : B a0 0 5) (a1 : Int32) (p1 : B a1 (-11) 11) (a2 : Int32) (p2 : B a2 0 200) (a3 : Int32) (p3 : B a3 0 3) (a4 : Int32) (a5 : Int32) (hK : KM h a0 a1) (hI : IXP h a0 a3 a4 (h 73 (Int32.toNatClampNeg a0))) : EvJ mi_X10_explains [.ref 63, .int a0, .int a1, .int a2, .int a3, .int a4, .int a5] (G0 L b) h (fun r : Int32 => B r (-2147483648) 2147483647) [(85, 999), (86, 999)] := by
  refine EvM.of2 (lo := [some (.ref 63), some (.int a0), some (.int a1), some (.int a2), some (.int a3), some (.int a4), some (.int a5), none, none, none, none, none, none, none]) pf_X10_explains ok_X10_explains rfl rfl ?_
  have hJ0 : JW [(85, 999), (86, 999)] h h := JW.refl hB
  obtain ⟨f1, ef1⟩ : ∃ f_, h 63 3 = f_ := ⟨_, rfl⟩
  have bf1 : B f1 0 200 := by have z_ := hJ0.1 63 3; rw [ef1] at z_; exact z_
  have zf1 := congrArg Int32.toInt ef1
  refine ev_iconst (v := 0) rfl rfl (by decide) ?_
  refine ev_istore rfl rfl rfl rfl ?_
  dsimp only [List.set]
  have lp3_4185 : ∀ (n : Nat) (w4186 : Int32) (h4188 : Hp), B w4186 0 12 → JW [(85, 999), (86, 999)] h h4188 → (h4188 63 3 = f1) → 12 + 1 - w4186.toInt ≤ (n : Int) → EvQ mi_X10_explains 3 [some (.ref 63), some (.int a0), some (.int a1), some (.int a2), some (.int a3), some (.int a4), some (.int a5), some (.int w4186), none, none, none, none, none, none] [] (G0 L b) h4188 0 0 (QJ (fun r : Int32 => B r (-2147483648) 2147483647) [(85, 999), (86, 999)] (G0 L b) h) := by
    intro n
    induction n with
    | zero =>
      intro w4186 h4188 b4187 hJ4189 z4190 hm3
      exact absurd hm3 (L_zero b4187 (by decide))
    | succ n ih3 =>
      intro w4186 h4188 b4187 hJ4189 z4190 hm3
      have z4191 := congrArg Int32.toInt z4190
      refine ev_iload rfl rfl rfl ?_
      refine ev_bipush (v := 12) rfl rfl (by decide) ?_
      refine ev_icmp_ge rfl rfl (fun c4192 => ?_) (fun c4192 => ?_)
      · have b4193 : B w4186 12 12 := R_leY (by decide : B 12 12 12) b4187 c4192 (by decide)
        have z4194 := w_le c4192
        rw [show (12 : Int32).toInt = 12 from by decide] at z4194
        refine ev_iload_n rfl rfl rfl ?_
        refine ev_istore rfl rfl rfl rfl ?_
        dsimp only [List.set]
        refine ev_iconst (v := 0) rfl rfl (by decide) ?_
        refine ev_istore rfl rfl rfl rfl ?_
        dsimp only [List.set]
        have lp38_5578 : ∀ (n : Nat) (w5579 : Int32) (w5580 : Int32) (h5583 : Hp), B w5579 0 200 → B w5580 0 24 → JW [(85, 999), (86, 999)] h h5583 → (h5583 63 3 = f1) → 24 + 1 - w5580.toInt ≤ (n : Int) → EvQ mi_X10_explains 38 [some (.ref 63), some (.int a0), some (.int a1), some (.int a2), some (.int a3), some (.int a4), some (.int a5), some (.int w5579), some (.int w5580), none, none, none, none, none] [] (G0 L b) h5583 0 0 (QJ (fun r : Int32 => B r (-2147483648) 2147483647) [(85, 999), (86, 999)] (G0 L b) h) := by
          intro n
          induction n with
          | zero =>
            intro w5579 w5580 h5583 b5581 b5582 hJ5584 z5585 hm38
            exact absurd hm38 (L_zero b5582 (by decide))
          | succ n ih38 =>
            intro w5579 w5580 h5583 b5581 b5582 hJ5584 z5585 hm38
            have z5586 := congrArg Int32.toInt z5585
            refine ev_iload rfl rfl rfl ?_
            refine ev_aload_n rfl rfl rfl ?_
            refine ev_getR (y := 73) rfl rfl fl_X10_51 rfl rfl rfl rfl ?_
            refine ev_iload_n rfl rfl rfl ?_
            refine ev_ialW (n := 6) (l := 0) (u := 24) hJ5584.1 p0 (by decide) (by decide) (fun _ => rfl) rfl rfl rfl (fun v5587 b5587 e5587 => ?_)
            refine ev_icmp_ge rfl rfl (fun c5588 => ?_) (fun c5588 => ?_)
            · have z5589 := w_le c5588
              refine ev_iconst (v := 0) rfl rfl (by decide) ?_
              refine ev_istore rfl rfl rfl rfl ?_
              dsimp only [List.set]
              refine ev_iconst (v := 0) rfl rfl (by decide) ?_
              refine ev_istore rfl rfl rfl rfl ?_
              dsimp only [List.set]
              have lp237_5748 : ∀ (n : Nat) (w5749 : Int32) (w5750 : Int32) (h5752 : Hp), B w5750 0 12 → JW [(85, 999), (86, 999)] h h5752 → (h5752 63 3 = f1) → (h5752 73 (Int32.toNatClampNeg a0) = v5587) → 12 + 1 - w5750.toInt ≤ (n : Int) → EvQ mi_X10_explains 237 [some (.ref 63), some (.int a0), some (.int a1), some (.int a2), some (.int a3), some (.int a4), some (.int a5), some (.int w5579), some (.int w5749), some (.int w5750), none, none, none, none] [] (G0 L b) h5752 0 0 (QJ (fun r : Int32 => B r (-2147483648) 2147483647) [(85, 999), (86, 999)] (G0 L b) h) := by
                intro n
                induction n with
                | zero =>
                  intro w5749 w5750 h5752 b5751 hJ5753 z5754 z5755 hm237
                  exact absurd hm237 (L_zero b5751 (by decide))
                | succ n ih237 =>
                  intro w5749 w5750 h5752 b5751 hJ5753 z5754 z5755 hm237
                  have z5756 := congrArg Int32.toInt z5754
                  refine ev_iload rfl rfl rfl ?_
                  refine ev_bipush (v := 12) rfl rfl (by decide) ?_
                  refine ev_icmp_ge rfl rfl (fun c5757 => ?_) (fun c5757 => ?_)
                  · have b5758 : B w5750 12 12 := R_leY (by decide : B 12 12 12) b5751 c5757 (by decide)
                    have z5759 := w_le c5757
                    rw [show (12 : Int32).toInt = 12 from by decide] at z5759
                    refine ev_iload rfl rfl rfl ?_
                    exact ev_iret rfl rfl rfl ⟨⟨_, rfl, (B.any w5749)⟩, rfl, hJ5753⟩
                  · have b5760 : B w5750 0 11 := R_ltX b5751 (by decide : B 12 12 12) (Int32.not_le.mp c5757) (by decide)
                    have z5761 := w_lt (Int32.not_le.mp c5757)
                    rw [show (12 : Int32).toInt = 12 from by decide] at z5761
                    refine ev_iload rfl rfl rfl ?_
                    refine ev_aload_n rfl rfl rfl ?_
                    refine ev_getR (y := 85) rfl rfl fl_X10_88 rfl rfl rfl rfl ?_
                    refine ev_iload rfl rfl rfl ?_
                    refine ev_ialW (n := 12) (l := (-2147483648)) (u := 2147483647) hJ5753.1 b5760 (by decide) (by decide) (fun _ => rfl) rfl rfl rfl (fun v5762 b5762 e5762 => ?_)
                    refine ev_if_ne rfl rfl (fun c5763 => ?_) (fun c5763 => ?_)
                    · have z5764 := w_ne c5763
                      rw [show (0 : Int32).toInt = 0 from by decide] at z5764
                      refine ev_iconst (v := 1) rfl rfl (by decide) ?_
                      refine ev_iaddA rfl rfl (fun v5767 g5767 => ?_)
                      refine ev_istore rfl rfl rfl rfl ?_
                      dsimp only [List.set]
                      refine ev_iincB (y := 1) (l := 1) (u := 12) rfl rfl rfl (by decide) rfl rfl b5760 (by decide : B 1 1 1) (by decide) (by decide) (by decide) (by decide) (fun v5768 b5768 e5768 => ?_)
                      dsimp only [List.set]
                      have e5768x := e5768; rw [show (1 : Int32).toInt = 1 from by decide] at e5768x
                      refine ev_goto rfl rfl ?_
                      exact (ih237 v5767 v5768 h5752 (b5768.mono (by decide) (by decide)) hJ5753 z5754 z5755 (L_up hm237 (e_p1 e5768 (by decide))))
                    · have b5765 : B v5762 0 0 := R_eqX (B.any v5762) (by decide : B 0 0 0) c5763
                      have z5766 := congrArg Int32.toInt c5763
                      rw [show (0 : Int32).toInt = 0 from by decide] at z5766
                      refine ev_iconst (v := 0) rfl rfl (by decide) ?_
                      refine ev_goto rfl rfl ?_
                      refine ev_iaddB (l := -2147483648) (u := 2147483647) rfl rfl (B.any w5749) (by decide : B 0 0 0) (by decide) (by decide) (by decide) (by decide) (fun v5769 b5769 e5769 g5769 => ?_)
                      have e5769x := e5769; rw [show (0 : Int32).toInt = 0 from by decide] at e5769x
                      refine ev_istore rfl rfl rfl rfl ?_
                      dsimp only [List.set]
                      refine ev_iincB (y := 1) (l := 1) (u := 12) rfl rfl rfl (by decide) rfl rfl b5760 (by decide : B 1 1 1) (by decide) (by decide) (by decide) (by decide) (fun v5770 b5770 e5770 => ?_)
                      dsimp only [List.set]
                      have e5770x := e5770; rw [show (1 : Int32).toInt = 1 from by decide] at e5770x
                      refine ev_goto rfl rfl ?_
                      exact (ih237 v5769 v5770 h5752 (b5770.mono (by decide) (by decide)) hJ5753 z5754 z5755 (L_up hm237 (e_p1 e5770 (by decide))))
              exact (lp237_5748 13 0 0 h5583 ((by decide : B 0 0 0).mono (by decide) (by decide)) hJ5584 z5585 e5587 (L_init (by decide : B 0 0 0) (by decide)))
            · have b5590 : B w5580 0 23 := R_ltX b5582 b5587 (Int32.not_le.mp c5588) (by decide)
              have b5591 : B v5587 1 24 := R_ltY b5582 b5587 (Int32.not_le.mp c5588) (by decide)
              have z5592 := w_lt (Int32.not_le.mp c5588)
              refine ev_aload_n rfl rfl rfl ?_
              refine ev_aload_n rfl rfl rfl ?_
              refine ev_iload_n rfl rfl rfl ?_
              refine ev_iload rfl rfl rfl ?_
              refine ev_V2P rfl rfl lk_X10_263 vt_X10_chordAt rfl rfl rfl rfl rfl (w_chordAtK L b h5583 hJ5584.1 a0 w5580 p0 b5590) (fun r5771 q5771 => ?_)
              obtain ⟨b5771, pp5771_0⟩ := q5771
              refine ev_iload_n rfl rfl rfl ?_
              refine ev_V2P rfl rfl lk_X10_276 vt_X10_moved rfl rfl rfl rfl rfl (w_movedK L b h5583 h h5583 r5771 a1 a0 w5580 a4 a3 hK hI (hB 93 (Int32.toNatClampNeg a3)) (by have q_ := congrArg Int32.toInt e5587; have q2_ := congrArg Int32.toInt (hJ5584.2 73 (Int32.toNatClampNeg a0) rfl); omega) b5590 pp5771_0 (hJ5584.2 74 _ rfl)) (fun r5772 q5772 => ?_)
              obtain ⟨b5772, pp5772_0⟩ := q5772
              refine ev_istore rfl rfl rfl rfl ?_
              dsimp only [List.set]
              refine ev_iload rfl rfl rfl ?_
              refine ev_if_ne rfl rfl (fun c5773 => ?_) (fun c5773 => ?_)
              · have b5774 : B r5772 1 4095 := R_neL b5772 (by decide : B 0 0 0) c5773 (by decide)
                have z5775 := w_ne c5773
                rw [show (0 : Int32).toInt = 0 from by decide] at z5775
                refine ev_aload_n rfl rfl rfl ?_
                refine ev_getR (y := 94) rfl rfl fl_X10_118 rfl rfl rfl rfl ?_
                refine ev_bipush (v := 60) rfl rfl (by decide) ?_
                refine ev_iload rfl rfl rfl ?_
                refine ev_imulB (l := 0) (u := 180) rfl rfl (by decide : B 60 60 60) p3 (by decide) (by decide) (by decide) (by decide) (by decide) (fun v5778 b5778 e5778 g5778 => ?_)
                rw [show (60 : Int32).toInt = 60 from by decide] at e5778
                refine ev_iload rfl rfl rfl ?_
                have b5779 : B a4 (-23) 59 := ⟨(by have z0_ := congrArg Int32.toInt z5585; have z_ := w_lits; have zl_ := l_lits; omega), (by have z0_ := congrArg Int32.toInt z5585; have z_ := w_lits; have zl_ := l_lits; omega)⟩
                refine ev_iaddB (l := -23) (u := 239) rfl rfl b5778 b5779 (by decide) (by decide) (by decide) (by decide) (fun v5780 b5780 e5780 g5780 => ?_)
                refine ev_iload rfl rfl rfl ?_
                refine ev_iaddB (l := -23) (u := 262) rfl rfl b5780 b5590 (by decide) (by decide) (by decide) (by decide) (fun v5781 b5781 e5781 g5781 => ?_)
                have b5782 : B v5781 0 239 := ⟨(by have z0_ := congrArg Int32.toInt z5585; have z_ := w_lits; have zl_ := l_lits; omega), (by have z0_ := congrArg Int32.toInt z5585; have z_ := w_lits; have zl_ := l_lits; omega)⟩
                refine ev_ialW (n := 240) (l := (-2147483648)) (u := 2147483647) hJ5584.1 b5782 (by decide) (by decide) (fun _ => rfl) rfl rfl rfl (fun v5783 b5783 e5783 => ?_)
                refine ev_istore rfl rfl rfl rfl ?_
                dsimp only [List.set]
                refine ev_iload rfl rfl rfl ?_
                refine ev_sipush (v := (-32768)) rfl rfl (by decide) ?_
                refine ev_icmp_eq rfl rfl (fun c5784 => ?_) (fun c5784 => ?_)
                · have b5785 : B v5783 (-32768) (-32768) := R_eqX (B.any v5783) (by decide : B (-32768) (-32768) (-32768)) c5784
                  have z5786 := congrArg Int32.toInt c5784
                  rw [show ((-32768) : Int32).toInt = (-32768) from by decide] at z5786
                  refine ev_aload_n rfl rfl rfl ?_
                  refine ev_iload rfl rfl rfl ?_
                  refine ev_aload_n rfl rfl rfl ?_
                  refine ev_iload rfl rfl rfl ?_
                  refine ev_iload rfl rfl rfl ?_
                  refine ev_V2P rfl rfl lk_X10_332 vt_X10_drawnWith rfl rfl rfl rfl rfl (w_X10_drawnWith_63 L b h5583 hJ5584.1 r5772 a5) (fun r5788 q5788 => ?_)
                  refine ev_V2P rfl rfl lk_X10_297 vt_X10_then rfl rfl rfl rfl rfl (w_X10_then_63 L b h5583 hJ5584.1 w5579 r5788) (fun r5789 q5789 => ?_)
                  refine ev_istore rfl rfl rfl rfl ?_
                  dsimp only [List.set]
                  refine ev_iincB (y := 1) (l := 1) (u := 24) rfl rfl rfl (by decide) rfl rfl b5590 (by decide : B 1 1 1) (by decide) (by decide) (by decide) (by decide) (fun v5790 b5790 e5790 => ?_)
                  dsimp only [List.set]
                  have e5790x := e5790; rw [show (1 : Int32).toInt = 1 from by decide] at e5790x
                  refine ev_goto rfl rfl ?_
                  exact (EvQ.drop 10 (EvQ.drop 9 (ih38 r5789 v5790 h5583 q5789 (b5790.mono (by decide) (by decide)) hJ5584 z5585 (L_up hm38 (e_p1 e5790 (by decide))))))
                · have z5787 := w_ne c5784
                  rw [show ((-32768) : Int32).toInt = (-32768) from by decide] at z5787
                  refine ev_iload rfl rfl rfl ?_
                  refine ev_S1P rfl rfl lk_X10_329 st_X10_lowest rfl rfl (w_lowestK (G0 L b) h5583 r5772 b5774) (fun r5791 q5791 => ?_)
                  refine ev_istore rfl rfl rfl rfl ?_
                  dsimp only [List.set]
                  refine ev_iload rfl rfl rfl ?_
                  refine ev_i2l rfl rfl ?_
                  have z5792 := Int32.toInt_toInt64 v5783
                  have z5792b := B.any v5783
                  refine ev_aload_n rfl rfl rfl ?_
                  refine ev_getR (y := 64) rfl rfl fl_X10_22 rfl rfl rfl rfl ?_
                  refine ev_iload rfl rfl rfl ?_
                  refine ev_ialW (n := 12) (l := (-2147483648)) (u := 2147483647) hJ5584.1 q5791 (by decide) (by decide) (fun _ => rfl) rfl rfl rfl (fun v5793 b5793 e5793 => ?_)
                  refine ev_i2l rfl rfl ?_
                  have z5794 := Int32.toInt_toInt64 v5793
                  have z5794b := B.any v5793
                  refine ev_lsub rfl rfl ?_
                  have z5795 := l_sub (Int32.toInt64 v5783) (Int32.toInt64 v5793) (by have z_ := l_lits; omega) (by have z_ := l_lits; omega) (by have z_ := l_lits; omega) (by have z_ := l_lits; omega)
                  refine ev_aload_n rfl rfl rfl ?_
                  refine ev_getR (y := 68) rfl rfl fl_X10_36 rfl rfl rfl rfl ?_
                  refine ev_iload rfl rfl rfl ?_
                  refine ev_ialW (n := 12) (l := (-2147483648)) (u := 2147483647) hJ5584.1 q5791 (by decide) (by decide) (fun _ => rfl) rfl rfl rfl (fun v5796 b5796 e5796 => ?_)
                  refine ev_i2l rfl rfl ?_
                  have z5797 := Int32.toInt_toInt64 v5796
                  have z5797b := B.any v5796
                  refine ev_lsub rfl rfl ?_
                  have z5798 := l_sub ((Int32.toInt64 v5783) - (Int32.toInt64 v5793)) (Int32.toInt64 v5796) (by have z_ := l_lits; omega) (by have z_ := l_lits; omega) (by have z_ := l_lits; omega) (by have z_ := l_lits; omega)
                  refine ev_aload_n rfl rfl rfl ?_
                  refine ev_getR (y := 66) rfl rfl fl_X10_29 rfl rfl rfl rfl ?_
                  refine ev_iload rfl rfl rfl ?_
                  refine ev_ialW (n := 12) (l := (-2147483648)) (u := 2147483647) hJ5584.1 q5791 (by decide) (by decide) (fun _ => rfl) rfl rfl rfl (fun v5799 b5799 e5799 => ?_)
                  refine ev_iload rfl rfl rfl ?_
                  refine ev_bipush (v := 100) rfl rfl (by decide) ?_
                  refine ev_isubB (l := -100) (u := 100) rfl rfl b5581 (by decide : B 100 100 100) (by decide) (by decide) (by decide) (by decide) (fun v5800 b5800 e5800 g5800 => ?_)
                  have e5800x := e5800; rw [show (100 : Int32).toInt = 100 from by decide] at e5800x
                  refine ev_imulA rfl rfl (fun v5801 => ?_)
                  refine ev_bipush (v := 10) rfl rfl (by decide) ?_
                  refine ev_S2P rfl rfl lk_X10_149 st_X10_down rfl rfl (w_any (c_down (G0 L b) h5583 v5801 10 ((by decide : B 10 10 10).ne0 (by decide)))) (fun r5802 q5802 => ?_)
                  refine ev_i2l rfl rfl ?_
                  have z5803 := Int32.toInt_toInt64 r5802
                  have z5803b := B.any r5802
                  refine ev_lsub rfl rfl ?_
                  have z5804 := l_sub (((Int32.toInt64 v5783) - (Int32.toInt64 v5793)) - (Int32.toInt64 v5796)) (Int32.toInt64 r5802) (by have z_ := l_lits; omega) (by have z_ := l_lits; omega) (by have z_ := l_lits; omega) (by have z_ := l_lits; omega)
                  refine ev_lstore rfl rfl rfl rfl ?_
                  dsimp only [List.set]
                  refine ev_lload rfl rfl rfl ?_
                  refine ev_ldc2 (v := (-200)) rfl rfl kc_X10_179 ?_
                  refine ev_ldc2 (v := 200) rfl rfl kc_X10_143 ?_
                  refine ev_S3P rfl rfl lk_X10_124 st_X10_in rfl rfl (w_in0 (G0 L b) h5583 ((((Int32.toInt64 v5783) - (Int32.toInt64 v5793)) - (Int32.toInt64 v5796)) - (Int32.toInt64 r5802)) (-200) 200) (fun r5805 q5805 => ?_)
                  refine ev_if_eq rfl rfl (fun c5806 => ?_) (fun c5806 => ?_)
                  · have b5807 : B r5805 0 0 := R_eqX q5805 (by decide : B 0 0 0) c5806
                    have z5808 := congrArg Int32.toInt c5806
                    rw [show (0 : Int32).toInt = 0 from by decide] at z5808
                    refine ev_bipush (v := (-4)) rfl rfl (by decide) ?_
                    exact ev_iret rfl rfl rfl ⟨⟨_, rfl, ((by decide : B (-4) (-4) (-4)).mono (by decide) (by decide))⟩, rfl, hJ5584⟩
                  · have b5809 : B r5805 1 1 := R_neL q5805 (by decide : B 0 0 0) c5806 (by decide)
                    have z5810 := w_ne c5806
                    rw [show (0 : Int32).toInt = 0 from by decide] at z5810
                    refine ev_aload_n rfl rfl rfl ?_
                    refine ev_getR (y := 86) rfl rfl fl_X10_91 rfl rfl rfl rfl ?_
                    refine ev_iload rfl rfl rfl ?_
                    refine ev_zalW (n := 12) (l := (-2147483648)) (u := 2147483647) hJ5584.1 q5791 (by decide) (by decide) (fun _ => rfl) rfl rfl rfl (fun v5811 b5811 e5811 => ?_)
                    refine ev_if_eq rfl rfl (fun c5812 => ?_) (fun c5812 => ?_)
                    · have b5813 : B v5811 0 0 := R_eqX (B.any v5811) (by decide : B 0 0 0) c5812
                      have z5814 := congrArg Int32.toInt c5812
                      rw [show (0 : Int32).toInt = 0 from by decide] at z5814
                      refine ev_aload_n rfl rfl rfl ?_
                      refine ev_getR (y := 85) rfl rfl fl_X10_88 rfl rfl rfl rfl ?_
                      refine ev_iload rfl rfl rfl ?_
                      refine ev_lload rfl rfl rfl ?_
                      refine ev_l2i rfl rfl ?_
                      generalize Int64.toInt32 ((((Int32.toInt64 v5783) - (Int32.toInt64 v5793)) - (Int32.toInt64 v5796)) - (Int32.toInt64 r5802)) = v5816
                      refine ev_iasW (n := 12) (l := (-2147483648)) (u := 2147483647) hJ5584 q5791 (by decide) (by decide) (fun _ => rfl) (B.any v5816) (by decide) (by decide) (fun _ => rfl) rfl rfl rfl rfl (fun h5817 hJ5817 k5817 => ?_)
                      refine ev_aload_n rfl rfl rfl ?_
                      refine ev_getR (y := 86) rfl rfl fl_X10_91 rfl rfl rfl rfl ?_
                      refine ev_iload rfl rfl rfl ?_
                      refine ev_iconst (v := 1) rfl rfl (by decide) ?_
                      refine ev_zasW (n := 12) (l := (-2147483648)) (u := 2147483647) hJ5817 q5791 (by decide) (by decide) (fun _ => rfl) ((by decide : B 1 1 1).mono (by decide) (by decide)) (by decide) (by decide) (fun _ => rfl) rfl rfl rfl rfl (fun h5818 hJ5818 k5818 => ?_)
                      refine ev_aload_n rfl rfl rfl ?_
                      refine ev_iload rfl rfl rfl ?_
                      refine ev_aload_n rfl rfl rfl ?_
                      refine ev_iload rfl rfl rfl ?_
                      refine ev_iload rfl rfl rfl ?_
                      refine ev_V2P rfl rfl lk_X10_332 vt_X10_drawnWith rfl rfl rfl rfl rfl (w_X10_drawnWith_63 L b h5818 hJ5818.1 r5772 a5) (fun r5819 q5819 => ?_)
                      refine ev_V2P rfl rfl lk_X10_297 vt_X10_then rfl rfl rfl rfl rfl (w_X10_then_63 L b h5818 hJ5818.1 w5579 r5819) (fun r5820 q5820 => ?_)
                      refine ev_istore rfl rfl rfl rfl ?_
                      dsimp only [List.set]
                      refine ev_iincB (y := 1) (l := 1) (u := 24) rfl rfl rfl (by decide) rfl rfl b5590 (by decide : B 1 1 1) (by decide) (by decide) (by decide) (by decide) (fun v5821 b5821 e5821 => ?_)
                      dsimp only [List.set]
                      have e5821x := e5821; rw [show (1 : Int32).toInt = 1 from by decide] at e5821x
                      refine ev_goto rfl rfl ?_
                      exact (EvQ.drop 12 (EvQ.drop 11 (EvQ.drop 10 (EvQ.drop 9 (ih38 r5820 v5821 h5818 q5820 (b5821.mono (by decide) (by decide)) hJ5818 (rd_a k5818 (rd_a k5817 z5585 rfl) rfl) (L_up hm38 (e_p1 e5821 (by decide))))))))
                    · have z5815 := w_ne c5812
                      rw [show (0 : Int32).toInt = 0 from by decide] at z5815
                      refine ev_aload_n rfl rfl rfl ?_
                      refine ev_getR (y := 85) rfl rfl fl_X10_88 rfl rfl rfl rfl ?_
                      refine ev_iload rfl rfl rfl ?_
                      refine ev_ialW (n := 12) (l := (-2147483648)) (u := 2147483647) hJ5584.1 q5791 (by decide) (by decide) (fun _ => rfl) rfl rfl rfl (fun v5822 b5822 e5822 => ?_)
                      refine ev_i2l rfl rfl ?_
                      have z5823 := Int32.toInt_toInt64 v5822
                      have z5823b := B.any v5822
                      refine ev_lload rfl rfl rfl ?_
                      refine ev_lcmp rfl rfl ?_
                      have z5824 := l_cmp (Int32.toInt64 v5822) ((((Int32.toInt64 v5783) - (Int32.toInt64 v5793)) - (Int32.toInt64 v5796)) - (Int32.toInt64 r5802))
                      generalize lg_cmp (Int32.toInt64 v5822) ((((Int32.toInt64 v5783) - (Int32.toInt64 v5793)) - (Int32.toInt64 v5796)) - (Int32.toInt64 r5802)) = v5824 at z5824 ⊢
                      refine ev_if_eq rfl rfl (fun c5825 => ?_) (fun c5825 => ?_)
                      · have b5826 : B v5824 0 0 := R_eqX (B.any v5824) (by decide : B 0 0 0) c5825
                        have z5827 := congrArg Int32.toInt c5825
                        rw [show (0 : Int32).toInt = 0 from by decide] at z5827
                        refine ev_aload_n rfl rfl rfl ?_
                        refine ev_getR (y := 85) rfl rfl fl_X10_88 rfl rfl rfl rfl ?_
                        refine ev_iload rfl rfl rfl ?_
                        refine ev_lload rfl rfl rfl ?_
                        refine ev_l2i rfl rfl ?_
                        generalize Int64.toInt32 ((((Int32.toInt64 v5783) - (Int32.toInt64 v5793)) - (Int32.toInt64 v5796)) - (Int32.toInt64 r5802)) = v5829
                        refine ev_iasW (n := 12) (l := (-2147483648)) (u := 2147483647) hJ5584 q5791 (by decide) (by decide) (fun _ => rfl) (B.any v5829) (by decide) (by decide) (fun _ => rfl) rfl rfl rfl rfl (fun h5830 hJ5830 k5830 => ?_)
                        refine ev_aload_n rfl rfl rfl ?_
                        refine ev_getR (y := 86) rfl rfl fl_X10_91 rfl rfl rfl rfl ?_
                        refine ev_iload rfl rfl rfl ?_
                        refine ev_iconst (v := 1) rfl rfl (by decide) ?_
                        refine ev_zasW (n := 12) (l := (-2147483648)) (u := 2147483647) hJ5830 q5791 (by decide) (by decide) (fun _ => rfl) ((by decide : B 1 1 1).mono (by decide) (by decide)) (by decide) (by decide) (fun _ => rfl) rfl rfl rfl rfl (fun h5831 hJ5831 k5831 => ?_)
                        refine ev_aload_n rfl rfl rfl ?_
                        refine ev_iload rfl rfl rfl ?_
                        refine ev_aload_n rfl rfl rfl ?_
                        refine ev_iload rfl rfl rfl ?_
                        refine ev_iload rfl rfl rfl ?_
                        refine ev_V2P rfl rfl lk_X10_332 vt_X10_drawnWith rfl rfl rfl rfl rfl (w_X10_drawnWith_63 L b h5831 hJ5831.1 r5772 a5) (fun r5832 q5832 => ?_)
                        refine ev_V2P rfl rfl lk_X10_297 vt_X10_then rfl rfl rfl rfl rfl (w_X10_then_63 L b h5831 hJ5831.1 w5579 r5832) (fun r5833 q5833 => ?_)
                        refine ev_istore rfl rfl rfl rfl ?_
                        dsimp only [List.set]
                        refine ev_iincB (y := 1) (l := 1) (u := 24) rfl rfl rfl (by decide) rfl rfl b5590 (by decide : B 1 1 1) (by decide) (by decide) (by decide) (by decide) (fun v5834 b5834 e5834 => ?_)
                        dsimp only [List.set]
                        have e5834x := e5834; rw [show (1 : Int32).toInt = 1 from by decide] at e5834x
                        refine ev_goto rfl rfl ?_
                        exact (EvQ.drop 12 (EvQ.drop 11 (EvQ.drop 10 (EvQ.drop 9 (ih38 r5833 v5834 h5831 q5833 (b5834.mono (by decide) (by decide)) hJ5831 (rd_a k5831 (rd_a k5830 z5585 rfl) rfl) (L_up hm38 (e_p1 e5834 (by decide))))))))
                      · have z5828 := w_ne c5825
                        rw [show (0 : Int32).toInt = 0 from by decide] at z5828
                        refine ev_bipush (v := (-4)) rfl rfl (by decide) ?_
                        exact ev_iret rfl rfl rfl ⟨⟨_, rfl, ((by decide : B (-4) (-4) (-4)).mono (by decide) (by decide))⟩, rfl, hJ5584⟩
              · have b5776 : B r5772 0 0 := R_eqX b5772 (by decide : B 0 0 0) c5773
                have z5777 := congrArg Int32.toInt c5773
                rw [show (0 : Int32).toInt = 0 from by decide] at z5777
                refine ev_sipush (v := (-32768)) rfl rfl (by decide) ?_
                refine ev_goto rfl rfl ?_
                refine ev_istore rfl rfl rfl rfl ?_
                dsimp only [List.set]
                refine ev_iload rfl rfl rfl ?_
                refine ev_sipush (v := (-32768)) rfl rfl (by decide) ?_
                refine ev_icmp_eq rfl rfl (fun c5835 => ?_) (fun c5835 => absurd (D_eq (by decide : B (-32768) (-32768) (-32768)) (by decide : B (-32768) (-32768) (-32768))) c5835)
                have z5836 := congrArg Int32.toInt c5835
                rw [show ((-32768) : Int32).toInt = (-32768) from by decide] at z5836
                refine ev_aload_n rfl rfl rfl ?_
                refine ev_iload rfl rfl rfl ?_
                refine ev_aload_n rfl rfl rfl ?_
                refine ev_iload rfl rfl rfl ?_
                refine ev_iload rfl rfl rfl ?_
                refine ev_V2P rfl rfl lk_X10_332 vt_X10_drawnWith rfl rfl rfl rfl rfl (w_X10_drawnWith_63 L b h5583 hJ5584.1 r5772 a5) (fun r5837 q5837 => ?_)
                refine ev_V2P rfl rfl lk_X10_297 vt_X10_then rfl rfl rfl rfl rfl (w_X10_then_63 L b h5583 hJ5584.1 w5579 r5837) (fun r5838 q5838 => ?_)
                refine ev_istore rfl rfl rfl rfl ?_
                dsimp only [List.set]
                refine ev_iincB (y := 1) (l := 1) (u := 24) rfl rfl rfl (by decide) rfl rfl b5590 (by decide : B 1 1 1) (by decide) (by decide) (by decide) (by decide) (fun v5839 b5839 e5839 => ?_)
                dsimp only [List.set]
                have e5839x := e5839; rw [show (1 : Int32).toInt = 1 from by decide] at e5839x
                refine ev_goto rfl rfl ?_
                exact (EvQ.drop 10 (EvQ.drop 9 (ih38 r5838 v5839 h5583 q5838 (b5839.mono (by decide) (by decide)) hJ5584 z5585 (L_up hm38 (e_p1 e5839 (by decide))))))
        exact (lp38_5578 25 a2 0 h4188 p2 ((by decide : B 0 0 0).mono (by decide) (by decide)) hJ4189 z4190 (L_init (by decide : B 0 0 0) (by decide)))
      · have b4195 : B w4186 0 11 := R_ltX b4187 (by decide : B 12 12 12) (Int32.not_le.mp c4192) (by decide)
        have z4196 := w_lt (Int32.not_le.mp c4192)
        rw [show (12 : Int32).toInt = 12 from by decide] at z4196
        refine ev_aload_n rfl rfl rfl ?_
        refine ev_getR (y := 86) rfl rfl fl_X10_91 rfl rfl rfl rfl ?_
        refine ev_iload rfl rfl rfl ?_
        refine ev_iconst (v := 0) rfl rfl (by decide) ?_
        refine ev_zasW (n := 12) (l := (-2147483648)) (u := 2147483647) hJ4189 b4195 (by decide) (by decide) (fun _ => rfl) ((by decide : B 0 0 0).mono (by decide) (by decide)) (by decide) (by decide) (fun _ => rfl) rfl rfl rfl rfl (fun h5840 hJ5840 k5840 => ?_)
        refine ev_aload_n rfl rfl rfl ?_
        refine ev_getR (y := 85) rfl rfl fl_X10_88 rfl rfl rfl rfl ?_
        refine ev_iload rfl rfl rfl ?_
        refine ev_iconst (v := 0) rfl rfl (by decide) ?_
        refine ev_iasW (n := 12) (l := (-2147483648)) (u := 2147483647) hJ5840 b4195 (by decide) (by decide) (fun _ => rfl) (by decide : B 0 0 0) (by decide) (by decide) (fun _ => rfl) rfl rfl rfl rfl (fun h5841 hJ5841 k5841 => ?_)
        refine ev_iincB (y := 1) (l := 1) (u := 12) rfl rfl rfl (by decide) rfl rfl b4195 (by decide : B 1 1 1) (by decide) (by decide) (by decide) (by decide) (fun v5842 b5842 e5842 => ?_)
        dsimp only [List.set]
        have e5842x := e5842; rw [show (1 : Int32).toInt = 1 from by decide] at e5842x
        refine ev_goto rfl rfl ?_
        exact (ih3 v5842 h5841 (b5842.mono (by decide) (by decide)) hJ5841 (rd_a k5841 (rd_a k5840 z4190 rfl) rfl) (L_up hm3 (e_p1 e5842 (by decide))))
  exact (lp3_4185 13 0 h ((by decide : B 0 0 0).mono (by decide) (by decide)) hJ0 ef1 (L_init (by decide : B 0 0 0) (by decide)))

set_option maxRecDepth 100000 in
set_option maxHeartbeats 4000000 in
theorem w_X10_blame_63 (L : Nat) (b : Bool) (h : Hp) (hB : Bx h) (a0 : Int32) (a1 : Int32) (a2 : Int32) (a3 : Int32) (a4 : Int32) (a5 : Int32) (a6 : Int32) : EvJ mi_X10_blame [.ref 63, .int a0, .int a1, .int a2, .int a3, .int a4, .int a5, .int a6] (G0 L b) h (fun r : Int32 => B r (-2147483648) 2147483647) [(85, 999), (86, 999), (87, 999)] := by
  refine EvM.of2 (lo := [some (.ref 63), some (.int a0), some (.int a1), some (.int a2), some (.int a3), some (.int a4), some (.int a5), some (.int a6), none, none, none, none, none, none, none]) pf_X10_blame ok_X10_blame rfl rfl ?_
  have hJ0 : JW [(85, 999), (86, 999), (87, 999)] h h := JW.refl hB
  obtain ⟨f1, ef1⟩ : ∃ f_, h 63 3 = f_ := ⟨_, rfl⟩
  have bf1 : B f1 0 200 := by have z_ := hJ0.1 63 3; rw [ef1] at z_; exact z_
  have zf1 := congrArg Int32.toInt ef1
  refine ev_aload_n rfl rfl rfl ?_
  refine ev_iload_n rfl rfl rfl ?_
  refine ev_V1P rfl rfl lk_X10_266 vt_X10_isTune rfl rfl rfl rfl rfl (w_X10_isTune_63 L b h hJ0.1 a0) (fun r2 q2 => ?_)
  obtain ⟨b2, p2_0⟩ := q2
  refine ev_if_eq rfl rfl (fun c3 => ?_) (fun c3 => ?_)
  · have b4 : B r2 0 0 := R_eqX b2 (by decide : B 0 0 0) c3
    have z5 := congrArg Int32.toInt c3
    rw [show (0 : Int32).toInt = 0 from by decide] at z5
    refine ev_sipush (v := (-1000)) rfl rfl (by decide) ?_
    exact ev_iret rfl rfl rfl ⟨⟨_, rfl, ((by decide : B (-1000) (-1000) (-1000)).mono (by decide) (by decide))⟩, rfl, hJ0⟩
  · have b6 : B r2 1 1 := R_neL b2 (by decide : B 0 0 0) c3 (by decide)
    have b7 : B a0 0 5 := p2_0 c3
    have z8 := w_ne c3
    rw [show (0 : Int32).toInt = 0 from by decide] at z8
    refine ev_iload_n rfl rfl rfl ?_
    refine ev_i2l rfl rfl ?_
    have z9 := Int32.toInt_toInt64 a1
    have z9b := B.any a1
    refine ev_ldc2 (v := (-11)) rfl rfl kc_X10_282 ?_
    refine ev_ldc2 (v := 11) rfl rfl kc_X10_284 ?_
    refine ev_S3P rfl rfl lk_X10_124 st_X10_in rfl rfl (w_inR (G0 L b) h a1 (-11) 11 (by decide : BL (-11) (-11) (-11)) (by decide : BL 11 11 11)) (fun r10 q10 => ?_)
    obtain ⟨b10, p10_0, pp10_0, pp10_1⟩ := q10
    refine ev_if_eq rfl rfl (fun c11 => ?_) (fun c11 => ?_)
    · have b12 : B r10 0 0 := R_eqX b10 (by decide : B 0 0 0) c11
      have z13 := congrArg Int32.toInt c11
      rw [show (0 : Int32).toInt = 0 from by decide] at z13
      refine ev_sipush (v := (-1000)) rfl rfl (by decide) ?_
      exact ev_iret rfl rfl rfl ⟨⟨_, rfl, ((by decide : B (-1000) (-1000) (-1000)).mono (by decide) (by decide))⟩, rfl, hJ0⟩
    · have b14 : B r10 1 1 := R_neL b10 (by decide : B 0 0 0) c11 (by decide)
      have b15 : B a1 (-11) 11 := p10_0 c11
      have z16 := w_ne c11
      rw [show (0 : Int32).toInt = 0 from by decide] at z16
      refine ev_iload_n rfl rfl rfl ?_
      refine ev_i2l rfl rfl ?_
      have z17 := Int32.toInt_toInt64 a2
      have z17b := B.any a2
      refine ev_lconst (v := 0) rfl rfl rfl ?_
      refine ev_aload_n rfl rfl rfl ?_
      refine ev_getV (v := f1) rfl rfl fl_X10_19 rfl rfl rfl ef1 ?_
      refine ev_i2l rfl rfl ?_
      have z18 := Int32.toInt_toInt64 f1
      have z18b := B.any f1
      refine ev_S3P rfl rfl lk_X10_124 st_X10_in rfl rfl (w_inV (G0 L b) h a2 0 f1 (by decide : BL 0 0 0) bf1) (fun r19 q19 => ?_)
      obtain ⟨b19, p19_0, pp19_0⟩ := q19
      refine ev_if_eq rfl rfl (fun c20 => ?_) (fun c20 => ?_)
      · have b21 : B r19 0 0 := R_eqX b19 (by decide : B 0 0 0) c20
        have z22 := congrArg Int32.toInt c20
        rw [show (0 : Int32).toInt = 0 from by decide] at z22
        refine ev_sipush (v := (-1000)) rfl rfl (by decide) ?_
        exact ev_iret rfl rfl rfl ⟨⟨_, rfl, ((by decide : B (-1000) (-1000) (-1000)).mono (by decide) (by decide))⟩, rfl, hJ0⟩
      · have b23 : B r19 1 1 := R_neL b19 (by decide : B 0 0 0) c20 (by decide)
        have b24 : B a2 0 200 := p19_0 c20
        have z25 := w_ne c20
        rw [show (0 : Int32).toInt = 0 from by decide] at z25
        refine ev_iload rfl rfl rfl ?_
        refine ev_iload rfl rfl rfl ?_
        refine ev_S2P rfl rfl lk_X10_335 st_X10_isSheet rfl rfl (w_X10_isSheet L b h hJ0.1 a3 a4) (fun r26 q26 => ?_)
        obtain ⟨b26, p26_0, p26_1⟩ := q26
        refine ev_if_eq rfl rfl (fun c27 => ?_) (fun c27 => ?_)
        · have b28 : B r26 0 0 := R_eqX b26 (by decide : B 0 0 0) c27
          have z29 := congrArg Int32.toInt c27
          rw [show (0 : Int32).toInt = 0 from by decide] at z29
          refine ev_sipush (v := (-1000)) rfl rfl (by decide) ?_
          exact ev_iret rfl rfl rfl ⟨⟨_, rfl, ((by decide : B (-1000) (-1000) (-1000)).mono (by decide) (by decide))⟩, rfl, hJ0⟩
        · have b30 : B r26 1 1 := R_neL b26 (by decide : B 0 0 0) c27 (by decide)
          have b31 : B a3 0 3 := p26_0 c27
          have b32 : B a4 0 2 := p26_1 c27
          have z33 := w_ne c27
          rw [show (0 : Int32).toInt = 0 from by decide] at z33
          refine ev_iload rfl rfl rfl ?_
          refine ev_i2l rfl rfl ?_
          have z34 := Int32.toInt_toInt64 a6
          have z34b := B.any a6
          refine ev_lconst (v := 0) rfl rfl rfl ?_
          refine ev_ldc2 (v := 2) rfl rfl kc_X10_183 ?_
          refine ev_S3P rfl rfl lk_X10_124 st_X10_in rfl rfl (w_inR (G0 L b) h a6 0 2 (by decide : BL 0 0 0) (by decide : BL 2 2 2)) (fun r35 q35 => ?_)
          obtain ⟨b35, p35_0, pp35_0, pp35_1⟩ := q35
          refine ev_if_ne rfl rfl (fun c36 => ?_) (fun c36 => ?_)
          · have b37 : B r35 1 1 := R_neL b35 (by decide : B 0 0 0) c36 (by decide)
            have b38 : B a6 0 2 := p35_0 c36
            have z39 := w_ne c36
            rw [show (0 : Int32).toInt = 0 from by decide] at z39
            refine ev_aload_n rfl rfl rfl ?_
            refine ev_iload_n rfl rfl rfl ?_
            refine ev_iload_n rfl rfl rfl ?_
            refine ev_V2P rfl rfl lk_X10_286 vt_X10_isIn rfl rfl rfl rfl rfl (w_isInK L b h hJ0.1 a0 a1 b7) (fun r42 q42 => ?_)
            obtain ⟨b42, pp42_0⟩ := q42
            refine ev_if_ne rfl rfl (fun c43 => ?_) (fun c43 => ?_)
            · have b44 : B r42 1 1 := R_neL b42 (by decide : B 0 0 0) c43 (by decide)
              have z45 := w_ne c43
              rw [show (0 : Int32).toInt = 0 from by decide] at z45
              refine ev_aload_n rfl rfl rfl ?_
              refine ev_getR (y := 92) rfl rfl fl_X10_112 rfl rfl rfl rfl ?_
              refine ev_iload rfl rfl rfl ?_
              refine ev_ialW (n := 4) (l := (-2147483648)) (u := 2147483647) hJ0.1 b31 (by decide) (by decide) (fun _ => rfl) rfl rfl rfl (fun v48 b48 e48 => ?_)
              refine ev_iload rfl rfl rfl ?_
              refine ev_icmp_eq rfl rfl (fun c49 => ?_) (fun c49 => ?_)
              · have b50 : B v48 0 2 := R_eqX (B.any v48) b32 c49
                have z51 := congrArg Int32.toInt c49
                refine ev_iconst (v := 0) rfl rfl (by decide) ?_
                refine ev_istore rfl rfl rfl rfl ?_
                dsimp only [List.set]
                have lp133_13656 : ∀ (n : Nat) (w13657 : Int32) (h13659 : Hp), B w13657 0 24 → JW [(85, 999), (86, 999), (87, 999)] h h13659 → (h13659 63 3 = f1) → (h13659 92 (Int32.toNatClampNeg a3) = v48) → (IXP h a0 a3 a5 w13657) → 24 + 1 - w13657.toInt ≤ (n : Int) → EvQ mi_X10_blame 133 [some (.ref 63), some (.int a0), some (.int a1), some (.int a2), some (.int a3), some (.int a4), some (.int a5), some (.int a6), some (.int w13657), none, none, none, none, none, none] [] (G0 L b) h13659 0 0 (QJ (fun r : Int32 => B r (-2147483648) 2147483647) [(85, 999), (86, 999), (87, 999)] (G0 L b) h) := by
                  intro n
                  induction n with
                  | zero =>
                    intro w13657 h13659 b13658 hJ13660 z13661 z13662 u133_0 hm133
                    exact absurd hm133 (L_zero b13658 (by decide))
                  | succ n ih133 =>
                    intro w13657 h13659 b13658 hJ13660 z13661 z13662 u133_0 hm133
                    have z13663 := congrArg Int32.toInt z13661
                    refine ev_iload rfl rfl rfl ?_
                    refine ev_aload_n rfl rfl rfl ?_
                    refine ev_getR (y := 73) rfl rfl fl_X10_51 rfl rfl rfl rfl ?_
                    refine ev_iload_n rfl rfl rfl ?_
                    refine ev_ialW (n := 6) (l := 0) (u := 24) hJ13660.1 b7 (by decide) (by decide) (fun _ => rfl) rfl rfl rfl (fun v13664 b13664 e13664 => ?_)
                    refine ev_icmp_ge rfl rfl (fun c13665 => ?_) (fun c13665 => ?_)
                    · have z13666 := w_le c13665
                      refine ev_bipush (v := (-4)) rfl rfl (by decide) ?_
                      refine ev_istore rfl rfl rfl rfl ?_
                      dsimp only [List.set]
                      refine ev_bipush (v := (-4)) rfl rfl (by decide) ?_
                      refine ev_istore rfl rfl rfl rfl ?_
                      dsimp only [List.set]
                      refine ev_iconst (v := (-1)) rfl rfl (by decide) ?_
                      refine ev_istore rfl rfl rfl rfl ?_
                      dsimp only [List.set]
                      have lp199_15910 : ∀ (n : Nat) (w15911 : Int32) (w15912 : Int32) (w15913 : Int32) (h15917 : Hp), B w15911 (-4) 2147483647 → B w15912 (-4) 12 → B w15913 (-1) 12 → JW [(85, 999), (86, 999), (87, 999)] h h15917 → (h15917 63 3 = f1) → (h15917 92 (Int32.toNatClampNeg a3) = v48) → (h15917 73 (Int32.toNatClampNeg a0) = v13664) → 12 + 1 - w15913.toInt ≤ (n : Int) → EvQ mi_X10_blame 199 [some (.ref 63), some (.int a0), some (.int a1), some (.int a2), some (.int a3), some (.int a4), some (.int a5), some (.int a6), some (.int w15911), some (.int w15912), some (.int w15913), none, none, none, none] [] (G0 L b) h15917 0 0 (QJ (fun r : Int32 => B r (-2147483648) 2147483647) [(85, 999), (86, 999), (87, 999)] (G0 L b) h) := by
                        intro n
                        induction n with
                        | zero =>
                          intro w15911 w15912 w15913 h15917 b15914 b15915 b15916 hJ15918 z15919 z15920 z15921 hm199
                          exact absurd hm199 (L_zero b15916 (by decide))
                        | succ n ih199 =>
                          intro w15911 w15912 w15913 h15917 b15914 b15915 b15916 hJ15918 z15919 z15920 z15921 hm199
                          have z15922 := congrArg Int32.toInt z15919
                          refine ev_iload rfl rfl rfl ?_
                          refine ev_aload_n rfl rfl rfl ?_
                          refine ev_getW (l := 0) (u := 12) hJ15918.1 rfl rfl rfl fl_X10_121 rfl rfl rfl (fun v15923 b15923 e15923 => ?_)
                          refine ev_icmp_ge rfl rfl (fun c15924 => ?_) (fun c15924 => ?_)
                          · have b15925 : B w15913 0 12 := R_leY b15923 b15916 c15924 (by decide)
                            have z15926 := w_le c15924
                            refine ev_iload rfl rfl rfl ?_
                            refine ev_bipush (v := (-4)) rfl rfl (by decide) ?_
                            refine ev_icmp_ne rfl rfl (fun c15929 => ?_) (fun c15929 => ?_)
                            · have b15930 : B w15911 (-3) 2147483647 := R_neL b15914 (by decide : B (-4) (-4) (-4)) c15929 (by decide)
                              have z15931 := w_ne c15929
                              rw [show ((-4) : Int32).toInt = (-4) from by decide] at z15931
                              refine ev_iconst (v := 0) rfl rfl (by decide) ?_
                              refine ev_istore rfl rfl rfl rfl ?_
                              dsimp only [List.set]
                              refine ev_iconst (v := 0) rfl rfl (by decide) ?_
                              refine ev_istore rfl rfl rfl rfl ?_
                              dsimp only [List.set]
                              have lp342_16050 : ∀ (n : Nat) (w16051 : Int32) (w16052 : Int32) (h16055 : Hp), B w16051 0 4095 → B w16052 0 12 → JW [(85, 999), (86, 999), (87, 999)] h h16055 → (h16055 63 3 = f1) → (h16055 92 (Int32.toNatClampNeg a3) = v48) → (h16055 73 (Int32.toNatClampNeg a0) = v13664) → (h16055 63 5 = v15923) → 12 + 1 - w16052.toInt ≤ (n : Int) → EvQ mi_X10_blame 342 [some (.ref 63), some (.int a0), some (.int a1), some (.int a2), some (.int a3), some (.int a4), some (.int a5), some (.int a6), some (.int w15911), some (.int w15912), some (.int w16051), some (.int w16052), none, none, none] [] (G0 L b) h16055 0 0 (QJ (fun r : Int32 => B r (-2147483648) 2147483647) [(85, 999), (86, 999), (87, 999)] (G0 L b) h) := by
                                intro n
                                induction n with
                                | zero =>
                                  intro w16051 w16052 h16055 b16053 b16054 hJ16056 z16057 z16058 z16059 z16060 hm342
                                  exact absurd hm342 (L_zero b16054 (by decide))
                                | succ n ih342 =>
                                  intro w16051 w16052 h16055 b16053 b16054 hJ16056 z16057 z16058 z16059 z16060 hm342
                                  have z16061 := congrArg Int32.toInt z16057
                                  refine ev_iload rfl rfl rfl ?_
                                  refine ev_bipush (v := 12) rfl rfl (by decide) ?_
                                  refine ev_icmp_ge rfl rfl (fun c16062 => ?_) (fun c16062 => ?_)
                                  · have b16063 : B w16052 12 12 := R_leY (by decide : B 12 12 12) b16054 c16062 (by decide)
                                    have z16064 := w_le c16062
                                    rw [show (12 : Int32).toInt = 12 from by decide] at z16064
                                    refine ev_iload rfl rfl rfl ?_
                                    refine ev_if_ne rfl rfl (fun c16067 => ?_) (fun c16067 => ?_)
                                    · have b16068 : B a6 1 2 := R_neL b38 (by decide : B 0 0 0) c16067 (by decide)
                                      have z16069 := w_ne c16067
                                      rw [show (0 : Int32).toInt = 0 from by decide] at z16069
                                      refine ev_iload rfl rfl rfl ?_
                                      refine ev_iconst (v := 1) rfl rfl (by decide) ?_
                                      refine ev_icmp_ne rfl rfl (fun c16072 => ?_) (fun c16072 => ?_)
                                      · have b16073 : B a6 2 2 := R_neL b16068 (by decide : B 1 1 1) c16072 (by decide)
                                        have z16074 := w_ne c16072
                                        rw [show (1 : Int32).toInt = 1 from by decide] at z16074
                                        refine ev_iload rfl rfl rfl ?_
                                        refine ev_iconst (v := 2) rfl rfl (by decide) ?_
                                        refine ev_icmp_ne rfl rfl (fun c16077 => absurd (D_eq b16073 (by decide : B 2 2 2)) c16077) (fun c16077 => ?_)
                                        have z16078 := congrArg Int32.toInt c16077
                                        rw [show (2 : Int32).toInt = 2 from by decide] at z16078
                                        refine ev_iload rfl rfl rfl ?_
                                        refine ev_goto rfl rfl ?_
                                        exact ev_iret rfl rfl rfl ⟨⟨_, rfl, (b16053.mono (by decide) (by decide))⟩, rfl, hJ16056⟩
                                      · have b16075 : B a6 1 1 := R_eqX b16068 (by decide : B 1 1 1) c16072
                                        have z16076 := congrArg Int32.toInt c16072
                                        rw [show (1 : Int32).toInt = 1 from by decide] at z16076
                                        refine ev_iload rfl rfl rfl ?_
                                        refine ev_goto rfl rfl ?_
                                        exact ev_iret rfl rfl rfl ⟨⟨_, rfl, (b15915.mono (by decide) (by decide))⟩, rfl, hJ16056⟩
                                    · have b16070 : B a6 0 0 := R_eqX b38 (by decide : B 0 0 0) c16067
                                      have z16071 := congrArg Int32.toInt c16067
                                      rw [show (0 : Int32).toInt = 0 from by decide] at z16071
                                      refine ev_iload rfl rfl rfl ?_
                                      refine ev_goto rfl rfl ?_
                                      exact ev_iret rfl rfl rfl ⟨⟨_, rfl, (b15930.mono (by decide) (by decide))⟩, rfl, hJ16056⟩
                                  · have b16065 : B w16052 0 11 := R_ltX b16054 (by decide : B 12 12 12) (Int32.not_le.mp c16062) (by decide)
                                    have z16066 := w_lt (Int32.not_le.mp c16062)
                                    rw [show (12 : Int32).toInt = 12 from by decide] at z16066
                                    refine ev_iload rfl rfl rfl ?_
                                    refine ev_aload_n rfl rfl rfl ?_
                                    refine ev_getR (y := 87) rfl rfl fl_X10_94 rfl rfl rfl rfl ?_
                                    refine ev_iload rfl rfl rfl ?_
                                    refine ev_ialW (n := 12) (l := (-2147483648)) (u := 2147483647) hJ16056.1 b16065 (by decide) (by decide) (fun _ => rfl) rfl rfl rfl (fun v16079 b16079 e16079 => ?_)
                                    refine ev_if_ne rfl rfl (fun c16080 => ?_) (fun c16080 => ?_)
                                    · have z16081 := w_ne c16080
                                      rw [show (0 : Int32).toInt = 0 from by decide] at z16081
                                      refine ev_iconst (v := 1) rfl rfl (by decide) ?_
                                      refine ev_iload rfl rfl rfl ?_
                                      refine ev_ishlB rfl rfl b16065 (by decide) (by decide) (fun v16084 b16084 => ?_)
                                      refine ev_iorB 12 (u := 4095) rfl rfl b16053 b16084 (by decide) (by decide) (by decide) (by decide) (by decide) (by decide) (fun v16085 b16085 e16085 => ?_)
                                      refine ev_istore rfl rfl rfl rfl ?_
                                      dsimp only [List.set]
                                      refine ev_iincB (y := 1) (l := 1) (u := 12) rfl rfl rfl (by decide) rfl rfl b16065 (by decide : B 1 1 1) (by decide) (by decide) (by decide) (by decide) (fun v16086 b16086 e16086 => ?_)
                                      dsimp only [List.set]
                                      have e16086x := e16086; rw [show (1 : Int32).toInt = 1 from by decide] at e16086x
                                      refine ev_goto rfl rfl ?_
                                      exact (ih342 v16085 v16086 h16055 b16085 (b16086.mono (by decide) (by decide)) hJ16056 z16057 z16058 z16059 z16060 (L_up hm342 (e_p1 e16086 (by decide))))
                                    · have b16082 : B v16079 0 0 := R_eqX (B.any v16079) (by decide : B 0 0 0) c16080
                                      have z16083 := congrArg Int32.toInt c16080
                                      rw [show (0 : Int32).toInt = 0 from by decide] at z16083
                                      refine ev_iconst (v := 0) rfl rfl (by decide) ?_
                                      refine ev_goto rfl rfl ?_
                                      refine ev_iorB 12 (u := 4095) rfl rfl b16053 (by decide : B 0 0 0) (by decide) (by decide) (by decide) (by decide) (by decide) (by decide) (fun v16087 b16087 e16087 => ?_)
                                      refine ev_istore rfl rfl rfl rfl ?_
                                      dsimp only [List.set]
                                      refine ev_iincB (y := 1) (l := 1) (u := 12) rfl rfl rfl (by decide) rfl rfl b16065 (by decide : B 1 1 1) (by decide) (by decide) (by decide) (by decide) (fun v16088 b16088 e16088 => ?_)
                                      dsimp only [List.set]
                                      have e16088x := e16088; rw [show (1 : Int32).toInt = 1 from by decide] at e16088x
                                      refine ev_goto rfl rfl ?_
                                      exact (ih342 v16087 v16088 h16055 b16087 (b16088.mono (by decide) (by decide)) hJ16056 z16057 z16058 z16059 z16060 (L_up hm342 (e_p1 e16088 (by decide))))
                              exact (lp342_16050 13 0 0 h15917 ((by decide : B 0 0 0).mono (by decide) (by decide)) ((by decide : B 0 0 0).mono (by decide) (by decide)) hJ15918 z15919 z15920 z15921 e15923 (L_init (by decide : B 0 0 0) (by decide)))
                            · have b15932 : B w15911 (-4) (-4) := R_eqX b15914 (by decide : B (-4) (-4) (-4)) c15929
                              have z15933 := congrArg Int32.toInt c15929
                              rw [show ((-4) : Int32).toInt = (-4) from by decide] at z15933
                              refine ev_sipush (v := (-1004)) rfl rfl (by decide) ?_
                              exact ev_iret rfl rfl rfl ⟨⟨_, rfl, ((by decide : B (-1004) (-1004) (-1004)).mono (by decide) (by decide))⟩, rfl, hJ15918⟩
                          · have b15927 : B w15913 (-1) 11 := R_ltX b15916 b15923 (Int32.not_le.mp c15924) (by decide)
                            have z15928 := w_lt (Int32.not_le.mp c15924)
                            refine ev_iload rfl rfl rfl ?_
                            refine ev_if_ge rfl rfl (fun c16089 => ?_) (fun c16089 => ?_)
                            · have b16090 : B w15913 0 11 := R_leY (by decide : B 0 0 0) b15927 c16089 (by decide)
                              have z16091 := w_le c16089
                              rw [show (0 : Int32).toInt = 0 from by decide] at z16091
                              refine ev_iload rfl rfl rfl ?_
                              refine ev_istore rfl rfl rfl rfl ?_
                              dsimp only [List.set]
                              refine ev_aload_n rfl rfl rfl ?_
                              refine ev_iload_n rfl rfl rfl ?_
                              refine ev_iload_n rfl rfl rfl ?_
                              refine ev_iload_n rfl rfl rfl ?_
                              refine ev_iload rfl rfl rfl ?_
                              refine ev_iload rfl rfl rfl ?_
                              refine ev_iload rfl rfl rfl ?_
                              refine ev_V6J hJ15918 rfl rfl rfl lk_X10_338 vt_X10_explains rfl rfl rfl rfl rfl (w_X10_explains_63 L b h15917 hJ15918.1 a0 b7 a1 b15 a2 b24 a3 b31 a5 w15913 (KM.keep (pp42_0 c43 b15) hJ15918 (fun _ => rfl) (fun _ => rfl)) (IXP.keep (IXP.all u133_0 (by have q_ := congrArg Int32.toInt z15921; have q2_ := congrArg Int32.toInt (hJ15918.2 73 (Int32.toNatClampNeg a0) rfl); omega)) hJ15918 (fun _ => rfl) (fun _ => rfl) (fun _ => rfl))) (fun r16094 h16094 q16094 hJ16094 k16094 => ?_)
                              refine ev_istore rfl rfl rfl rfl ?_
                              dsimp only [List.set]
                              refine ev_iload rfl rfl rfl ?_
                              refine ev_if_ge rfl rfl (fun c16095 => ?_) (fun c16095 => ?_)
                              · have b16096 : B r16094 0 2147483647 := R_leY (by decide : B 0 0 0) (B.any r16094) c16095 (by decide)
                                have z16097 := w_le c16095
                                rw [show (0 : Int32).toInt = 0 from by decide] at z16097
                                refine ev_iload rfl rfl rfl ?_
                                refine ev_iload rfl rfl rfl ?_
                                refine ev_if_ge rfl rfl (fun c16100 => ?_) (fun c16100 => absurd (D_le (by decide : B 0 0 0) b16090 (by decide)) c16100)
                                have z16101 := w_le c16100
                                rw [show (0 : Int32).toInt = 0 from by decide] at z16101
                                refine ev_iconst (v := 1) rfl rfl (by decide) ?_
                                refine ev_iaddA rfl rfl (fun v16102 g16102 => ?_)
                                refine ev_istore rfl rfl rfl rfl ?_
                                dsimp only [List.set]
                                refine ev_iload rfl rfl rfl ?_
                                refine ev_if_lt rfl rfl (fun c16103 => ?_) (fun c16103 => ?_)
                                · have b16104 : B v16102 (-2147483648) (-1) := R_ltX (B.any v16102) (by decide : B 0 0 0) c16103 (by decide)
                                  have z16105 := w_lt c16103
                                  rw [show (0 : Int32).toInt = 0 from by decide] at z16105
                                  refine ev_iincB (y := 1) (l := 1) (u := 12) rfl rfl rfl (by decide) rfl rfl b16090 (by decide : B 1 1 1) (by decide) (by decide) (by decide) (by decide) (fun v16108 b16108 e16108 => ?_)
                                  dsimp only [List.set]
                                  have e16108x := e16108; rw [show (1 : Int32).toInt = 1 from by decide] at e16108x
                                  refine ev_goto rfl rfl ?_
                                  exact (EvQ.drop 13 (EvQ.drop 12 (EvQ.drop 11 (ih199 w15911 w15912 v16108 h16094 b15914 b15915 (b16108.mono (by decide) (by decide)) hJ16094 (rd_w k16094 z15919 rfl) (rd_w k16094 z15920 rfl) (rd_w k16094 z15921 rfl) (L_up hm199 (e_p1 e16108 (by decide)))))))
                                · have b16106 : B v16102 0 2147483647 := R_leY (by decide : B 0 0 0) (B.any v16102) (Int32.not_lt.mp c16103) (by decide)
                                  have z16107 := w_le (Int32.not_lt.mp c16103)
                                  rw [show (0 : Int32).toInt = 0 from by decide] at z16107
                                  refine ev_iload rfl rfl rfl ?_
                                  refine ev_bipush (v := (-4)) rfl rfl (by decide) ?_
                                  refine ev_icmp_eq rfl rfl (fun c16109 => ?_) (fun c16109 => ?_)
                                  · have b16110 : B w15911 (-4) (-4) := R_eqX b15914 (by decide : B (-4) (-4) (-4)) c16109
                                    have z16111 := congrArg Int32.toInt c16109
                                    rw [show ((-4) : Int32).toInt = (-4) from by decide] at z16111
                                    refine ev_iload rfl rfl rfl ?_
                                    refine ev_istore rfl rfl rfl rfl ?_
                                    dsimp only [List.set]
                                    refine ev_iload rfl rfl rfl ?_
                                    refine ev_istore rfl rfl rfl rfl ?_
                                    dsimp only [List.set]
                                    refine ev_iconst (v := 0) rfl rfl (by decide) ?_
                                    refine ev_istore rfl rfl rfl rfl ?_
                                    dsimp only [List.set]
                                    have lp292_16157 : ∀ (n : Nat) (w16158 : Int32) (h16160 : Hp), B w16158 0 12 → JW [(85, 999), (86, 999), (87, 999)] h h16160 → (h16160 63 3 = f1) → (h16160 92 (Int32.toNatClampNeg a3) = v48) → (h16160 73 (Int32.toNatClampNeg a0) = v13664) → (h16160 63 5 = v15923) → 12 + 1 - w16158.toInt ≤ (n : Int) → EvQ mi_X10_blame 292 [some (.ref 63), some (.int a0), some (.int a1), some (.int a2), some (.int a3), some (.int a4), some (.int a5), some (.int a6), some (.int v16102), some (.int w15913), some (.int w15913), some (.int w15913), some (.int r16094), some (.int v16102), some (.int w16158)] [] (G0 L b) h16160 0 0 (QJ (fun r : Int32 => B r (-2147483648) 2147483647) [(85, 999), (86, 999), (87, 999)] (G0 L b) h) := by
                                      intro n
                                      induction n with
                                      | zero =>
                                        intro w16158 h16160 b16159 hJ16161 z16162 z16163 z16164 z16165 hm292
                                        exact absurd hm292 (L_zero b16159 (by decide))
                                      | succ n ih292 =>
                                        intro w16158 h16160 b16159 hJ16161 z16162 z16163 z16164 z16165 hm292
                                        have z16166 := congrArg Int32.toInt z16162
                                        refine ev_iload rfl rfl rfl ?_
                                        refine ev_bipush (v := 12) rfl rfl (by decide) ?_
                                        refine ev_icmp_ge rfl rfl (fun c16167 => ?_) (fun c16167 => ?_)
                                        · have b16168 : B w16158 12 12 := R_leY (by decide : B 12 12 12) b16159 c16167 (by decide)
                                          have z16169 := w_le c16167
                                          rw [show (12 : Int32).toInt = 12 from by decide] at z16169
                                          refine ev_iincB (y := 1) (l := 1) (u := 12) rfl rfl rfl (by decide) rfl rfl b16090 (by decide : B 1 1 1) (by decide) (by decide) (by decide) (by decide) (fun v16172 b16172 e16172 => ?_)
                                          dsimp only [List.set]
                                          have e16172x := e16172; rw [show (1 : Int32).toInt = 1 from by decide] at e16172x
                                          refine ev_goto rfl rfl ?_
                                          exact (EvQ.drop 14 (EvQ.drop 13 (EvQ.drop 12 (EvQ.drop 11 (ih199 v16102 w15913 v16172 h16160 (b16106.mono (by decide) (by decide)) (b16090.mono (by decide) (by decide)) (b16172.mono (by decide) (by decide)) hJ16161 z16162 z16163 z16164 (L_up hm199 (e_p1 e16172 (by decide))))))))
                                        · have b16170 : B w16158 0 11 := R_ltX b16159 (by decide : B 12 12 12) (Int32.not_le.mp c16167) (by decide)
                                          have z16171 := w_lt (Int32.not_le.mp c16167)
                                          rw [show (12 : Int32).toInt = 12 from by decide] at z16171
                                          refine ev_aload_n rfl rfl rfl ?_
                                          refine ev_getR (y := 87) rfl rfl fl_X10_94 rfl rfl rfl rfl ?_
                                          refine ev_iload rfl rfl rfl ?_
                                          refine ev_aload_n rfl rfl rfl ?_
                                          refine ev_getR (y := 85) rfl rfl fl_X10_88 rfl rfl rfl rfl ?_
                                          refine ev_iload rfl rfl rfl ?_
                                          refine ev_ialW (n := 12) (l := (-2147483648)) (u := 2147483647) hJ16161.1 b16170 (by decide) (by decide) (fun _ => rfl) rfl rfl rfl (fun v16173 b16173 e16173 => ?_)
                                          refine ev_iasW (n := 12) (l := (-2147483648)) (u := 2147483647) hJ16161 b16170 (by decide) (by decide) (fun _ => rfl) (B.any v16173) (by decide) (by decide) (fun _ => rfl) rfl rfl rfl rfl (fun h16174 hJ16174 k16174 => ?_)
                                          refine ev_iincB (y := 1) (l := 1) (u := 12) rfl rfl rfl (by decide) rfl rfl b16170 (by decide : B 1 1 1) (by decide) (by decide) (by decide) (by decide) (fun v16175 b16175 e16175 => ?_)
                                          dsimp only [List.set]
                                          have e16175x := e16175; rw [show (1 : Int32).toInt = 1 from by decide] at e16175x
                                          refine ev_goto rfl rfl ?_
                                          exact (ih292 v16175 h16174 (b16175.mono (by decide) (by decide)) hJ16174 (rd_a k16174 z16162 rfl) (rd_a k16174 z16163 rfl) (rd_a k16174 z16164 rfl) (rd_a k16174 z16165 rfl) (L_up hm292 (e_p1 e16175 (by decide))))
                                    exact (lp292_16157 13 0 h16094 ((by decide : B 0 0 0).mono (by decide) (by decide)) hJ16094 (rd_w k16094 z15919 rfl) (rd_w k16094 z15920 rfl) (rd_w k16094 z15921 rfl) (rd_w k16094 e15923 rfl) (L_init (by decide : B 0 0 0) (by decide)))
                                  · have b16112 : B w15911 (-3) 2147483647 := R_neL b15914 (by decide : B (-4) (-4) (-4)) c16109 (by decide)
                                    have z16113 := w_ne c16109
                                    rw [show ((-4) : Int32).toInt = (-4) from by decide] at z16113
                                    refine ev_iload rfl rfl rfl ?_
                                    refine ev_iload rfl rfl rfl ?_
                                    refine ev_icmp_ge rfl rfl (fun c16176 => ?_) (fun c16176 => ?_)
                                    · have z16177 := w_le c16176
                                      refine ev_iincB (y := 1) (l := 1) (u := 12) rfl rfl rfl (by decide) rfl rfl b16090 (by decide : B 1 1 1) (by decide) (by decide) (by decide) (by decide) (fun v16181 b16181 e16181 => ?_)
                                      dsimp only [List.set]
                                      have e16181x := e16181; rw [show (1 : Int32).toInt = 1 from by decide] at e16181x
                                      refine ev_goto rfl rfl ?_
                                      exact (EvQ.drop 13 (EvQ.drop 12 (EvQ.drop 11 (ih199 w15911 w15912 v16181 h16094 (b16112.mono (by decide) (by decide)) b15915 (b16181.mono (by decide) (by decide)) hJ16094 (rd_w k16094 z15919 rfl) (rd_w k16094 z15920 rfl) (rd_w k16094 z15921 rfl) (L_up hm199 (e_p1 e16181 (by decide)))))))
                                    · have b16178 : B v16102 0 2147483646 := R_ltX b16106 b16112 (Int32.not_le.mp c16176) (by decide)
                                      have b16179 : B w15911 1 2147483647 := R_ltY b16106 b16112 (Int32.not_le.mp c16176) (by decide)
                                      have z16180 := w_lt (Int32.not_le.mp c16176)
                                      refine ev_iload rfl rfl rfl ?_
                                      refine ev_istore rfl rfl rfl rfl ?_
                                      dsimp only [List.set]
                                      refine ev_iload rfl rfl rfl ?_
                                      refine ev_istore rfl rfl rfl rfl ?_
                                      dsimp only [List.set]
                                      refine ev_iconst (v := 0) rfl rfl (by decide) ?_
                                      refine ev_istore rfl rfl rfl rfl ?_
                                      dsimp only [List.set]
                                      have lp292_16225 : ∀ (n : Nat) (w16226 : Int32) (h16228 : Hp), B w16226 0 12 → JW [(85, 999), (86, 999), (87, 999)] h h16228 → (h16228 63 3 = f1) → (h16228 92 (Int32.toNatClampNeg a3) = v48) → (h16228 73 (Int32.toNatClampNeg a0) = v13664) → (h16228 63 5 = v15923) → 12 + 1 - w16226.toInt ≤ (n : Int) → EvQ mi_X10_blame 292 [some (.ref 63), some (.int a0), some (.int a1), some (.int a2), some (.int a3), some (.int a4), some (.int a5), some (.int a6), some (.int v16102), some (.int w15913), some (.int w15913), some (.int w15913), some (.int r16094), some (.int v16102), some (.int w16226)] [] (G0 L b) h16228 0 0 (QJ (fun r : Int32 => B r (-2147483648) 2147483647) [(85, 999), (86, 999), (87, 999)] (G0 L b) h) := by
                                        intro n
                                        induction n with
                                        | zero =>
                                          intro w16226 h16228 b16227 hJ16229 z16230 z16231 z16232 z16233 hm292
                                          exact absurd hm292 (L_zero b16227 (by decide))
                                        | succ n ih292 =>
                                          intro w16226 h16228 b16227 hJ16229 z16230 z16231 z16232 z16233 hm292
                                          have z16234 := congrArg Int32.toInt z16230
                                          refine ev_iload rfl rfl rfl ?_
                                          refine ev_bipush (v := 12) rfl rfl (by decide) ?_
                                          refine ev_icmp_ge rfl rfl (fun c16235 => ?_) (fun c16235 => ?_)
                                          · have b16236 : B w16226 12 12 := R_leY (by decide : B 12 12 12) b16227 c16235 (by decide)
                                            have z16237 := w_le c16235
                                            rw [show (12 : Int32).toInt = 12 from by decide] at z16237
                                            refine ev_iincB (y := 1) (l := 1) (u := 12) rfl rfl rfl (by decide) rfl rfl b16090 (by decide : B 1 1 1) (by decide) (by decide) (by decide) (by decide) (fun v16240 b16240 e16240 => ?_)
                                            dsimp only [List.set]
                                            have e16240x := e16240; rw [show (1 : Int32).toInt = 1 from by decide] at e16240x
                                            refine ev_goto rfl rfl ?_
                                            exact (EvQ.drop 14 (EvQ.drop 13 (EvQ.drop 12 (EvQ.drop 11 (ih199 v16102 w15913 v16240 h16228 (b16178.mono (by decide) (by decide)) (b16090.mono (by decide) (by decide)) (b16240.mono (by decide) (by decide)) hJ16229 z16230 z16231 z16232 (L_up hm199 (e_p1 e16240 (by decide))))))))
                                          · have b16238 : B w16226 0 11 := R_ltX b16227 (by decide : B 12 12 12) (Int32.not_le.mp c16235) (by decide)
                                            have z16239 := w_lt (Int32.not_le.mp c16235)
                                            rw [show (12 : Int32).toInt = 12 from by decide] at z16239
                                            refine ev_aload_n rfl rfl rfl ?_
                                            refine ev_getR (y := 87) rfl rfl fl_X10_94 rfl rfl rfl rfl ?_
                                            refine ev_iload rfl rfl rfl ?_
                                            refine ev_aload_n rfl rfl rfl ?_
                                            refine ev_getR (y := 85) rfl rfl fl_X10_88 rfl rfl rfl rfl ?_
                                            refine ev_iload rfl rfl rfl ?_
                                            refine ev_ialW (n := 12) (l := (-2147483648)) (u := 2147483647) hJ16229.1 b16238 (by decide) (by decide) (fun _ => rfl) rfl rfl rfl (fun v16241 b16241 e16241 => ?_)
                                            refine ev_iasW (n := 12) (l := (-2147483648)) (u := 2147483647) hJ16229 b16238 (by decide) (by decide) (fun _ => rfl) (B.any v16241) (by decide) (by decide) (fun _ => rfl) rfl rfl rfl rfl (fun h16242 hJ16242 k16242 => ?_)
                                            refine ev_iincB (y := 1) (l := 1) (u := 12) rfl rfl rfl (by decide) rfl rfl b16238 (by decide : B 1 1 1) (by decide) (by decide) (by decide) (by decide) (fun v16243 b16243 e16243 => ?_)
                                            dsimp only [List.set]
                                            have e16243x := e16243; rw [show (1 : Int32).toInt = 1 from by decide] at e16243x
                                            refine ev_goto rfl rfl ?_
                                            exact (ih292 v16243 h16242 (b16243.mono (by decide) (by decide)) hJ16242 (rd_a k16242 z16230 rfl) (rd_a k16242 z16231 rfl) (rd_a k16242 z16232 rfl) (rd_a k16242 z16233 rfl) (L_up hm292 (e_p1 e16243 (by decide))))
                                      exact (lp292_16225 13 0 h16094 ((by decide : B 0 0 0).mono (by decide) (by decide)) hJ16094 (rd_w k16094 z15919 rfl) (rd_w k16094 z15920 rfl) (rd_w k16094 z15921 rfl) (rd_w k16094 e15923 rfl) (L_init (by decide : B 0 0 0) (by decide)))
                              · have b16098 : B r16094 (-2147483648) (-1) := R_ltX (B.any r16094) (by decide : B 0 0 0) (Int32.not_le.mp c16095) (by decide)
                                have z16099 := w_lt (Int32.not_le.mp c16095)
                                rw [show (0 : Int32).toInt = 0 from by decide] at z16099
                                refine ev_bipush (v := (-4)) rfl rfl (by decide) ?_
                                refine ev_goto rfl rfl ?_
                                refine ev_istore rfl rfl rfl rfl ?_
                                dsimp only [List.set]
                                refine ev_iload rfl rfl rfl ?_
                                refine ev_if_lt rfl rfl (fun c16244 => ?_) (fun c16244 => absurd (D_lt (by decide : B (-4) (-4) (-4)) (by decide : B 0 0 0) (by decide)) c16244)
                                have z16245 := w_lt c16244
                                rw [show ((-4) : Int32).toInt = (-4) from by decide] at z16245
                                rw [show (0 : Int32).toInt = 0 from by decide] at z16245
                                refine ev_iincB (y := 1) (l := 1) (u := 12) rfl rfl rfl (by decide) rfl rfl b16090 (by decide : B 1 1 1) (by decide) (by decide) (by decide) (by decide) (fun v16246 b16246 e16246 => ?_)
                                dsimp only [List.set]
                                have e16246x := e16246; rw [show (1 : Int32).toInt = 1 from by decide] at e16246x
                                refine ev_goto rfl rfl ?_
                                exact (EvQ.drop 13 (EvQ.drop 12 (EvQ.drop 11 (ih199 w15911 w15912 v16246 h16094 b15914 b15915 (b16246.mono (by decide) (by decide)) hJ16094 (rd_w k16094 z15919 rfl) (rd_w k16094 z15920 rfl) (rd_w k16094 z15921 rfl) (L_up hm199 (e_p1 e16246 (by decide)))))))
                            · have b16092 : B w15913 (-1) (-1) := R_ltX b15927 (by decide : B 0 0 0) (Int32.not_le.mp c16089) (by decide)
                              have z16093 := w_lt (Int32.not_le.mp c16089)
                              rw [show (0 : Int32).toInt = 0 from by decide] at z16093
                              refine ev_bipush (v := (-4)) rfl rfl (by decide) ?_
                              refine ev_goto rfl rfl ?_
                              refine ev_istore rfl rfl rfl rfl ?_
                              dsimp only [List.set]
                              refine ev_aload_n rfl rfl rfl ?_
                              refine ev_iload_n rfl rfl rfl ?_
                              refine ev_iload_n rfl rfl rfl ?_
                              refine ev_iload_n rfl rfl rfl ?_
                              refine ev_iload rfl rfl rfl ?_
                              refine ev_iload rfl rfl rfl ?_
                              refine ev_iload rfl rfl rfl ?_
                              refine ev_V6J hJ15918 rfl rfl rfl lk_X10_338 vt_X10_explains rfl rfl rfl rfl rfl (w_X10_explains_63 L b h15917 hJ15918.1 a0 b7 a1 b15 a2 b24 a3 b31 a5 (-4) (KM.keep (pp42_0 c43 b15) hJ15918 (fun _ => rfl) (fun _ => rfl)) (IXP.keep (IXP.all u133_0 (by have q_ := congrArg Int32.toInt z15921; have q2_ := congrArg Int32.toInt (hJ15918.2 73 (Int32.toNatClampNeg a0) rfl); omega)) hJ15918 (fun _ => rfl) (fun _ => rfl) (fun _ => rfl))) (fun r16247 h16247 q16247 hJ16247 k16247 => ?_)
                              refine ev_istore rfl rfl rfl rfl ?_
                              dsimp only [List.set]
                              refine ev_iload rfl rfl rfl ?_
                              refine ev_if_ge rfl rfl (fun c16248 => ?_) (fun c16248 => ?_)
                              · have b16249 : B r16247 0 2147483647 := R_leY (by decide : B 0 0 0) (B.any r16247) c16248 (by decide)
                                have z16250 := w_le c16248
                                rw [show (0 : Int32).toInt = 0 from by decide] at z16250
                                refine ev_iload rfl rfl rfl ?_
                                refine ev_iload rfl rfl rfl ?_
                                refine ev_if_ge rfl rfl (fun c16253 => absurd c16253 (D_nle (by decide : B 0 0 0) b16092 (by decide))) (fun c16253 => ?_)
                                have z16254 := w_lt (Int32.not_le.mp c16253)
                                rw [show (0 : Int32).toInt = 0 from by decide] at z16254
                                refine ev_iconst (v := 0) rfl rfl (by decide) ?_
                                refine ev_goto rfl rfl ?_
                                refine ev_iaddB (l := 0) (u := 2147483647) rfl rfl b16249 (by decide : B 0 0 0) (by decide) (by decide) (by decide) (by decide) (fun v16255 b16255 e16255 g16255 => ?_)
                                have e16255x := e16255; rw [show (0 : Int32).toInt = 0 from by decide] at e16255x
                                refine ev_istore rfl rfl rfl rfl ?_
                                dsimp only [List.set]
                                refine ev_iload rfl rfl rfl ?_
                                refine ev_if_lt rfl rfl (fun c16256 => absurd c16256 (D_nlt b16255 (by decide : B 0 0 0) (by decide))) (fun c16256 => ?_)
                                have z16257 := w_le (Int32.not_lt.mp c16256)
                                rw [show (0 : Int32).toInt = 0 from by decide] at z16257
                                refine ev_iload rfl rfl rfl ?_
                                refine ev_bipush (v := (-4)) rfl rfl (by decide) ?_
                                refine ev_icmp_eq rfl rfl (fun c16258 => ?_) (fun c16258 => ?_)
                                · have b16259 : B w15911 (-4) (-4) := R_eqX b15914 (by decide : B (-4) (-4) (-4)) c16258
                                  have z16260 := congrArg Int32.toInt c16258
                                  rw [show ((-4) : Int32).toInt = (-4) from by decide] at z16260
                                  refine ev_iload rfl rfl rfl ?_
                                  refine ev_istore rfl rfl rfl rfl ?_
                                  dsimp only [List.set]
                                  refine ev_iload rfl rfl rfl ?_
                                  refine ev_istore rfl rfl rfl rfl ?_
                                  dsimp only [List.set]
                                  refine ev_iconst (v := 0) rfl rfl (by decide) ?_
                                  refine ev_istore rfl rfl rfl rfl ?_
                                  dsimp only [List.set]
                                  have lp292_16306 : ∀ (n : Nat) (w16307 : Int32) (h16309 : Hp), B w16307 0 12 → JW [(85, 999), (86, 999), (87, 999)] h h16309 → (h16309 63 3 = f1) → (h16309 92 (Int32.toNatClampNeg a3) = v48) → (h16309 73 (Int32.toNatClampNeg a0) = v13664) → (h16309 63 5 = v15923) → 12 + 1 - w16307.toInt ≤ (n : Int) → EvQ mi_X10_blame 292 [some (.ref 63), some (.int a0), some (.int a1), some (.int a2), some (.int a3), some (.int a4), some (.int a5), some (.int a6), some (.int v16255), some (.int (-4)), some (.int w15913), some (.int (-4)), some (.int r16247), some (.int v16255), some (.int w16307)] [] (G0 L b) h16309 0 0 (QJ (fun r : Int32 => B r (-2147483648) 2147483647) [(85, 999), (86, 999), (87, 999)] (G0 L b) h) := by
                                    intro n
                                    induction n with
                                    | zero =>
                                      intro w16307 h16309 b16308 hJ16310 z16311 z16312 z16313 z16314 hm292
                                      exact absurd hm292 (L_zero b16308 (by decide))
                                    | succ n ih292 =>
                                      intro w16307 h16309 b16308 hJ16310 z16311 z16312 z16313 z16314 hm292
                                      have z16315 := congrArg Int32.toInt z16311
                                      refine ev_iload rfl rfl rfl ?_
                                      refine ev_bipush (v := 12) rfl rfl (by decide) ?_
                                      refine ev_icmp_ge rfl rfl (fun c16316 => ?_) (fun c16316 => ?_)
                                      · have b16317 : B w16307 12 12 := R_leY (by decide : B 12 12 12) b16308 c16316 (by decide)
                                        have z16318 := w_le c16316
                                        rw [show (12 : Int32).toInt = 12 from by decide] at z16318
                                        refine ev_iincB (y := 1) (l := 0) (u := 0) rfl rfl rfl (by decide) rfl rfl b16092 (by decide : B 1 1 1) (by decide) (by decide) (by decide) (by decide) (fun v16321 b16321 e16321 => ?_)
                                        dsimp only [List.set]
                                        have e16321x := e16321; rw [show (1 : Int32).toInt = 1 from by decide] at e16321x
                                        refine ev_goto rfl rfl ?_
                                        exact (EvQ.drop 14 (EvQ.drop 13 (EvQ.drop 12 (EvQ.drop 11 (ih199 v16255 (-4) v16321 h16309 (b16255.mono (by decide) (by decide)) ((by decide : B (-4) (-4) (-4)).mono (by decide) (by decide)) (b16321.mono (by decide) (by decide)) hJ16310 z16311 z16312 z16313 (L_up hm199 (e_p1 e16321 (by decide))))))))
                                      · have b16319 : B w16307 0 11 := R_ltX b16308 (by decide : B 12 12 12) (Int32.not_le.mp c16316) (by decide)
                                        have z16320 := w_lt (Int32.not_le.mp c16316)
                                        rw [show (12 : Int32).toInt = 12 from by decide] at z16320
                                        refine ev_aload_n rfl rfl rfl ?_
                                        refine ev_getR (y := 87) rfl rfl fl_X10_94 rfl rfl rfl rfl ?_
                                        refine ev_iload rfl rfl rfl ?_
                                        refine ev_aload_n rfl rfl rfl ?_
                                        refine ev_getR (y := 85) rfl rfl fl_X10_88 rfl rfl rfl rfl ?_
                                        refine ev_iload rfl rfl rfl ?_
                                        refine ev_ialW (n := 12) (l := (-2147483648)) (u := 2147483647) hJ16310.1 b16319 (by decide) (by decide) (fun _ => rfl) rfl rfl rfl (fun v16322 b16322 e16322 => ?_)
                                        refine ev_iasW (n := 12) (l := (-2147483648)) (u := 2147483647) hJ16310 b16319 (by decide) (by decide) (fun _ => rfl) (B.any v16322) (by decide) (by decide) (fun _ => rfl) rfl rfl rfl rfl (fun h16323 hJ16323 k16323 => ?_)
                                        refine ev_iincB (y := 1) (l := 1) (u := 12) rfl rfl rfl (by decide) rfl rfl b16319 (by decide : B 1 1 1) (by decide) (by decide) (by decide) (by decide) (fun v16324 b16324 e16324 => ?_)
                                        dsimp only [List.set]
                                        have e16324x := e16324; rw [show (1 : Int32).toInt = 1 from by decide] at e16324x
                                        refine ev_goto rfl rfl ?_
                                        exact (ih292 v16324 h16323 (b16324.mono (by decide) (by decide)) hJ16323 (rd_a k16323 z16311 rfl) (rd_a k16323 z16312 rfl) (rd_a k16323 z16313 rfl) (rd_a k16323 z16314 rfl) (L_up hm292 (e_p1 e16324 (by decide))))
                                  exact (lp292_16306 13 0 h16247 ((by decide : B 0 0 0).mono (by decide) (by decide)) hJ16247 (rd_w k16247 z15919 rfl) (rd_w k16247 z15920 rfl) (rd_w k16247 z15921 rfl) (rd_w k16247 e15923 rfl) (L_init (by decide : B 0 0 0) (by decide)))
                                · have b16261 : B w15911 (-3) 2147483647 := R_neL b15914 (by decide : B (-4) (-4) (-4)) c16258 (by decide)
                                  have z16262 := w_ne c16258
                                  rw [show ((-4) : Int32).toInt = (-4) from by decide] at z16262
                                  refine ev_iload rfl rfl rfl ?_
                                  refine ev_iload rfl rfl rfl ?_
                                  refine ev_icmp_ge rfl rfl (fun c16325 => ?_) (fun c16325 => ?_)
                                  · have z16326 := w_le c16325
                                    refine ev_iincB (y := 1) (l := 0) (u := 0) rfl rfl rfl (by decide) rfl rfl b16092 (by decide : B 1 1 1) (by decide) (by decide) (by decide) (by decide) (fun v16331 b16331 e16331 => ?_)
                                    dsimp only [List.set]
                                    have e16331x := e16331; rw [show (1 : Int32).toInt = 1 from by decide] at e16331x
                                    refine ev_goto rfl rfl ?_
                                    exact (EvQ.drop 13 (EvQ.drop 12 (EvQ.drop 11 (ih199 w15911 w15912 v16331 h16247 (b16261.mono (by decide) (by decide)) b15915 (b16331.mono (by decide) (by decide)) hJ16247 (rd_w k16247 z15919 rfl) (rd_w k16247 z15920 rfl) (rd_w k16247 z15921 rfl) (L_up hm199 (e_p1 e16331 (by decide)))))))
                                  · have b16327 : B v16255 0 2147483646 := R_ltX b16255 b16261 (Int32.not_le.mp c16325) (by decide)
                                    have b16328 : B r16247 0 2147483646 := (R_bk (l' := 0) (u' := 2147483646) e16255 b16327 (by decide : B 0 0 0) (by decide) (by decide))
                                    have b16329 : B w15911 1 2147483647 := R_ltY b16255 b16261 (Int32.not_le.mp c16325) (by decide)
                                    have z16330 := w_lt (Int32.not_le.mp c16325)
                                    refine ev_iload rfl rfl rfl ?_
                                    refine ev_istore rfl rfl rfl rfl ?_
                                    dsimp only [List.set]
                                    refine ev_iload rfl rfl rfl ?_
                                    refine ev_istore rfl rfl rfl rfl ?_
                                    dsimp only [List.set]
                                    refine ev_iconst (v := 0) rfl rfl (by decide) ?_
                                    refine ev_istore rfl rfl rfl rfl ?_
                                    dsimp only [List.set]
                                    have lp292_16375 : ∀ (n : Nat) (w16376 : Int32) (h16378 : Hp), B w16376 0 12 → JW [(85, 999), (86, 999), (87, 999)] h h16378 → (h16378 63 3 = f1) → (h16378 92 (Int32.toNatClampNeg a3) = v48) → (h16378 73 (Int32.toNatClampNeg a0) = v13664) → (h16378 63 5 = v15923) → 12 + 1 - w16376.toInt ≤ (n : Int) → EvQ mi_X10_blame 292 [some (.ref 63), some (.int a0), some (.int a1), some (.int a2), some (.int a3), some (.int a4), some (.int a5), some (.int a6), some (.int v16255), some (.int (-4)), some (.int w15913), some (.int (-4)), some (.int r16247), some (.int v16255), some (.int w16376)] [] (G0 L b) h16378 0 0 (QJ (fun r : Int32 => B r (-2147483648) 2147483647) [(85, 999), (86, 999), (87, 999)] (G0 L b) h) := by
                                      intro n
                                      induction n with
                                      | zero =>
                                        intro w16376 h16378 b16377 hJ16379 z16380 z16381 z16382 z16383 hm292
                                        exact absurd hm292 (L_zero b16377 (by decide))
                                      | succ n ih292 =>
                                        intro w16376 h16378 b16377 hJ16379 z16380 z16381 z16382 z16383 hm292
                                        have z16384 := congrArg Int32.toInt z16380
                                        refine ev_iload rfl rfl rfl ?_
                                        refine ev_bipush (v := 12) rfl rfl (by decide) ?_
                                        refine ev_icmp_ge rfl rfl (fun c16385 => ?_) (fun c16385 => ?_)
                                        · have b16386 : B w16376 12 12 := R_leY (by decide : B 12 12 12) b16377 c16385 (by decide)
                                          have z16387 := w_le c16385
                                          rw [show (12 : Int32).toInt = 12 from by decide] at z16387
                                          refine ev_iincB (y := 1) (l := 0) (u := 0) rfl rfl rfl (by decide) rfl rfl b16092 (by decide : B 1 1 1) (by decide) (by decide) (by decide) (by decide) (fun v16390 b16390 e16390 => ?_)
                                          dsimp only [List.set]
                                          have e16390x := e16390; rw [show (1 : Int32).toInt = 1 from by decide] at e16390x
                                          refine ev_goto rfl rfl ?_
                                          exact (EvQ.drop 14 (EvQ.drop 13 (EvQ.drop 12 (EvQ.drop 11 (ih199 v16255 (-4) v16390 h16378 (b16327.mono (by decide) (by decide)) ((by decide : B (-4) (-4) (-4)).mono (by decide) (by decide)) (b16390.mono (by decide) (by decide)) hJ16379 z16380 z16381 z16382 (L_up hm199 (e_p1 e16390 (by decide))))))))
                                        · have b16388 : B w16376 0 11 := R_ltX b16377 (by decide : B 12 12 12) (Int32.not_le.mp c16385) (by decide)
                                          have z16389 := w_lt (Int32.not_le.mp c16385)
                                          rw [show (12 : Int32).toInt = 12 from by decide] at z16389
                                          refine ev_aload_n rfl rfl rfl ?_
                                          refine ev_getR (y := 87) rfl rfl fl_X10_94 rfl rfl rfl rfl ?_
                                          refine ev_iload rfl rfl rfl ?_
                                          refine ev_aload_n rfl rfl rfl ?_
                                          refine ev_getR (y := 85) rfl rfl fl_X10_88 rfl rfl rfl rfl ?_
                                          refine ev_iload rfl rfl rfl ?_
                                          refine ev_ialW (n := 12) (l := (-2147483648)) (u := 2147483647) hJ16379.1 b16388 (by decide) (by decide) (fun _ => rfl) rfl rfl rfl (fun v16391 b16391 e16391 => ?_)
                                          refine ev_iasW (n := 12) (l := (-2147483648)) (u := 2147483647) hJ16379 b16388 (by decide) (by decide) (fun _ => rfl) (B.any v16391) (by decide) (by decide) (fun _ => rfl) rfl rfl rfl rfl (fun h16392 hJ16392 k16392 => ?_)
                                          refine ev_iincB (y := 1) (l := 1) (u := 12) rfl rfl rfl (by decide) rfl rfl b16388 (by decide : B 1 1 1) (by decide) (by decide) (by decide) (by decide) (fun v16393 b16393 e16393 => ?_)
                                          dsimp only [List.set]
                                          have e16393x := e16393; rw [show (1 : Int32).toInt = 1 from by decide] at e16393x
                                          refine ev_goto rfl rfl ?_
                                          exact (ih292 v16393 h16392 (b16393.mono (by decide) (by decide)) hJ16392 (rd_a k16392 z16380 rfl) (rd_a k16392 z16381 rfl) (rd_a k16392 z16382 rfl) (rd_a k16392 z16383 rfl) (L_up hm292 (e_p1 e16393 (by decide))))
                                    exact (lp292_16375 13 0 h16247 ((by decide : B 0 0 0).mono (by decide) (by decide)) hJ16247 (rd_w k16247 z15919 rfl) (rd_w k16247 z15920 rfl) (rd_w k16247 z15921 rfl) (rd_w k16247 e15923 rfl) (L_init (by decide : B 0 0 0) (by decide)))
                              · have b16251 : B r16247 (-2147483648) (-1) := R_ltX (B.any r16247) (by decide : B 0 0 0) (Int32.not_le.mp c16248) (by decide)
                                have z16252 := w_lt (Int32.not_le.mp c16248)
                                rw [show (0 : Int32).toInt = 0 from by decide] at z16252
                                refine ev_bipush (v := (-4)) rfl rfl (by decide) ?_
                                refine ev_goto rfl rfl ?_
                                refine ev_istore rfl rfl rfl rfl ?_
                                dsimp only [List.set]
                                refine ev_iload rfl rfl rfl ?_
                                refine ev_if_lt rfl rfl (fun c16394 => ?_) (fun c16394 => absurd (D_lt (by decide : B (-4) (-4) (-4)) (by decide : B 0 0 0) (by decide)) c16394)
                                have z16395 := w_lt c16394
                                rw [show ((-4) : Int32).toInt = (-4) from by decide] at z16395
                                rw [show (0 : Int32).toInt = 0 from by decide] at z16395
                                refine ev_iincB (y := 1) (l := 0) (u := 0) rfl rfl rfl (by decide) rfl rfl b16092 (by decide : B 1 1 1) (by decide) (by decide) (by decide) (by decide) (fun v16396 b16396 e16396 => ?_)
                                dsimp only [List.set]
                                have e16396x := e16396; rw [show (1 : Int32).toInt = 1 from by decide] at e16396x
                                refine ev_goto rfl rfl ?_
                                exact (EvQ.drop 13 (EvQ.drop 12 (EvQ.drop 11 (ih199 w15911 w15912 v16396 h16247 b15914 b15915 (b16396.mono (by decide) (by decide)) hJ16247 (rd_w k16247 z15919 rfl) (rd_w k16247 z15920 rfl) (rd_w k16247 z15921 rfl) (L_up hm199 (e_p1 e16396 (by decide)))))))
                      exact (lp199_15910 14 (-4) (-4) (-1) h13659 ((by decide : B (-4) (-4) (-4)).mono (by decide) (by decide)) ((by decide : B (-4) (-4) (-4)).mono (by decide) (by decide)) ((by decide : B (-1) (-1) (-1)).mono (by decide) (by decide)) hJ13660 z13661 z13662 e13664 (L_init (by decide : B (-1) (-1) (-1)) (by decide)))
                    · have b13667 : B w13657 0 23 := R_ltX b13658 b13664 (Int32.not_le.mp c13665) (by decide)
                      have b13668 : B v13664 1 24 := R_ltY b13658 b13664 (Int32.not_le.mp c13665) (by decide)
                      have z13669 := w_lt (Int32.not_le.mp c13665)
                      refine ev_aload_n rfl rfl rfl ?_
                      refine ev_iload_n rfl rfl rfl ?_
                      refine ev_iload rfl rfl rfl ?_
                      refine ev_V2P rfl rfl lk_X10_263 vt_X10_chordAt rfl rfl rfl rfl rfl (w_chordAtK L b h13659 hJ13660.1 a0 w13657 b7 b13667) (fun r16397 q16397 => ?_)
                      obtain ⟨b16397, pp16397_0⟩ := q16397
                      refine ev_if_eq rfl rfl (fun c16398 => ?_) (fun c16398 => ?_)
                      · have b16399 : B r16397 0 0 := R_eqX b16397 (by decide : B 0 0 0) c16398
                        have z16400 := congrArg Int32.toInt c16398
                        rw [show (0 : Int32).toInt = 0 from by decide] at z16400
                        refine ev_iincB (y := 1) (l := 1) (u := 24) rfl rfl rfl (by decide) rfl rfl b13667 (by decide : B 1 1 1) (by decide) (by decide) (by decide) (by decide) (fun v16403 b16403 e16403 => ?_)
                        dsimp only [List.set]
                        have e16403x := e16403; rw [show (1 : Int32).toInt = 1 from by decide] at e16403x
                        refine ev_goto rfl rfl ?_
                        exact (ih133 v16403 h13659 (b16403.mono (by decide) (by decide)) hJ13660 z13661 z13662 (IXP.step u133_0 b13667 e16403x (fun q_ => absurd (by rw [← hJ13660.2 74 _ rfl, ← pp16397_0]; exact c16398) q_)) (L_up hm133 (e_p1 e16403 (by decide))))
                      · have b16401 : B r16397 1 4095 := R_neL b16397 (by decide : B 0 0 0) c16398 (by decide)
                        have z16402 := w_ne c16398
                        rw [show (0 : Int32).toInt = 0 from by decide] at z16402
                        refine ev_iload rfl rfl rfl ?_
                        refine ev_i2l rfl rfl ?_
                        have z16404 := Int32.toInt_toInt64 a5
                        have z16404b := B.any a5
                        refine ev_iload rfl rfl rfl ?_
                        refine ev_i2l rfl rfl ?_
                        have z16405 := Int32.toInt_toInt64 w13657
                        have z16405b := B.any w13657
                        refine ev_ladd rfl rfl ?_
                        have z16406 := l_add (Int32.toInt64 a5) (Int32.toInt64 w13657) (by have z_ := l_lits; omega) (by have z_ := l_lits; omega) (by have z_ := l_lits; omega) (by have z_ := l_lits; omega)
                        refine ev_lconst (v := 0) rfl rfl rfl ?_
                        refine ev_aload_n rfl rfl rfl ?_
                        refine ev_getR (y := 93) rfl rfl fl_X10_115 rfl rfl rfl rfl ?_
                        refine ev_iload rfl rfl rfl ?_
                        refine ev_ialW (n := 4) (l := 0) (u := 60) hJ13660.1 b31 (by decide) (by decide) (fun _ => rfl) rfl rfl rfl (fun v16407 b16407 e16407 => ?_)
                        refine ev_iconst (v := 1) rfl rfl (by decide) ?_
                        refine ev_isubB (l := -1) (u := 59) rfl rfl b16407 (by decide : B 1 1 1) (by decide) (by decide) (by decide) (by decide) (fun v16408 b16408 e16408 g16408 => ?_)
                        have e16408x := e16408; rw [show (1 : Int32).toInt = 1 from by decide] at e16408x
                        refine ev_i2l rfl rfl ?_
                        have z16409 := Int32.toInt_toInt64 v16408
                        have z16409b := B.any v16408
                        refine ev_S3P rfl rfl lk_X10_124 st_X10_in rfl rfl (w_inIX L b h13659 a5 w13657 v16407 v16408 e16408x) (fun r16410 q16410 => ?_)
                        obtain ⟨b16410, pp16410_0⟩ := q16410
                        refine ev_if_ne rfl rfl (fun c16411 => ?_) (fun c16411 => ?_)
                        · have b16412 : B r16410 1 1 := R_neL b16410 (by decide : B 0 0 0) c16411 (by decide)
                          have z16413 := w_ne c16411
                          rw [show (0 : Int32).toInt = 0 from by decide] at z16413
                          refine ev_iincB (y := 1) (l := 1) (u := 24) rfl rfl rfl (by decide) rfl rfl b13667 (by decide : B 1 1 1) (by decide) (by decide) (by decide) (by decide) (fun v16416 b16416 e16416 => ?_)
                          dsimp only [List.set]
                          have e16416x := e16416; rw [show (1 : Int32).toInt = 1 from by decide] at e16416x
                          refine ev_goto rfl rfl ?_
                          exact (ih133 v16416 h13659 (b16416.mono (by decide) (by decide)) hJ13660 z13661 z13662 (IXP.step u133_0 b13667 e16416x (fun _ => by have q_ := pp16410_0 c16411; have q2_ := congrArg Int32.toInt e16407; have q3_ := congrArg Int32.toInt (hJ13660.2 93 (Int32.toNatClampNeg a3) rfl); omega)) (L_up hm133 (e_p1 e16416 (by decide))))
                        · have b16414 : B r16410 0 0 := R_eqX b16410 (by decide : B 0 0 0) c16411
                          have z16415 := congrArg Int32.toInt c16411
                          rw [show (0 : Int32).toInt = 0 from by decide] at z16415
                          refine ev_sipush (v := (-1012)) rfl rfl (by decide) ?_
                          exact ev_iret rfl rfl rfl ⟨⟨_, rfl, ((by decide : B (-1012) (-1012) (-1012)).mono (by decide) (by decide))⟩, rfl, hJ13660⟩
                exact (lp133_13656 25 0 h ((by decide : B 0 0 0).mono (by decide) (by decide)) hJ0 ef1 e48 (IXP.zero h a0 a3 a5) (L_init (by decide : B 0 0 0) (by decide)))
              · have z52 := w_ne c49
                refine ev_sipush (v := (-1010)) rfl rfl (by decide) ?_
                refine ev_aload_n rfl rfl rfl ?_
                refine ev_getR (y := 92) rfl rfl fl_X10_112 rfl rfl rfl rfl ?_
                refine ev_iload rfl rfl rfl ?_
                refine ev_iadV (v := v48) rfl rfl rfl (b31.vp (by decide) (by decide)) rfl e48 ?_
                refine ev_bipush (v := (-4)) rfl rfl (by decide) ?_
                refine ev_icmp_ne rfl rfl (fun c16417 => ?_) (fun c16417 => ?_)
                · have z16418 := w_ne c16417
                  rw [show ((-4) : Int32).toInt = (-4) from by decide] at z16418
                  refine ev_iconst (v := 3) rfl rfl (by decide) ?_
                  refine ev_isubB (l := -1013) (u := -1013) rfl rfl (by decide : B (-1010) (-1010) (-1010)) (by decide : B 3 3 3) (by decide) (by decide) (by decide) (by decide) (fun v16421 b16421 e16421 g16421 => ?_)
                  have e16421x := e16421; rw [show ((-1010) : Int32).toInt = (-1010) from by decide] at e16421x
                  have e16421xx := e16421x; rw [show (3 : Int32).toInt = 3 from by decide] at e16421xx
                  exact ev_iret rfl rfl rfl ⟨⟨_, rfl, (b16421.mono (by decide) (by decide))⟩, rfl, hJ0⟩
                · have b16419 : B v48 (-4) (-4) := R_eqX (B.any v48) (by decide : B (-4) (-4) (-4)) c16417
                  have z16420 := congrArg Int32.toInt c16417
                  rw [show ((-4) : Int32).toInt = (-4) from by decide] at z16420
                  refine ev_iconst (v := 1) rfl rfl (by decide) ?_
                  refine ev_goto rfl rfl ?_
                  refine ev_isubB (l := -1011) (u := -1011) rfl rfl (by decide : B (-1010) (-1010) (-1010)) (by decide : B 1 1 1) (by decide) (by decide) (by decide) (by decide) (fun v16422 b16422 e16422 g16422 => ?_)
                  have e16422x := e16422; rw [show ((-1010) : Int32).toInt = (-1010) from by decide] at e16422x
                  have e16422xx := e16422x; rw [show (1 : Int32).toInt = 1 from by decide] at e16422xx
                  exact ev_iret rfl rfl rfl ⟨⟨_, rfl, (b16422.mono (by decide) (by decide))⟩, rfl, hJ0⟩
            · have b46 : B r42 0 0 := R_eqX b42 (by decide : B 0 0 0) c43
              have z47 := congrArg Int32.toInt c43
              rw [show (0 : Int32).toInt = 0 from by decide] at z47
              refine ev_sipush (v := (-1002)) rfl rfl (by decide) ?_
              exact ev_iret rfl rfl rfl ⟨⟨_, rfl, ((by decide : B (-1002) (-1002) (-1002)).mono (by decide) (by decide))⟩, rfl, hJ0⟩
          · have b40 : B r35 0 0 := R_eqX b35 (by decide : B 0 0 0) c36
            have z41 := congrArg Int32.toInt c36
            rw [show (0 : Int32).toInt = 0 from by decide] at z41
            refine ev_iload rfl rfl rfl ?_
            refine ev_i2l rfl rfl ?_
            have z16423 := Int32.toInt_toInt64 a6
            have z16423b := B.any a6
            refine ev_ldc2 (v := 20) rfl rfl kc_X10_167 ?_
            refine ev_bipush (v := 19) rfl rfl (by decide) ?_
            refine ev_aload_n rfl rfl rfl ?_
            refine ev_getW (l := 0) (u := 12) hJ0.1 rfl rfl rfl fl_X10_121 rfl rfl rfl (fun v16424 b16424 e16424 => ?_)
            refine ev_iaddB (l := 19) (u := 31) rfl rfl (by decide : B 19 19 19) b16424 (by decide) (by decide) (by decide) (by decide) (fun v16425 b16425 e16425 g16425 => ?_)
            have e16425x := e16425; rw [show (19 : Int32).toInt = 19 from by decide] at e16425x
            refine ev_i2l rfl rfl ?_
            have z16426 := Int32.toInt_toInt64 v16425
            have z16426b := B.any v16425
            refine ev_S3P rfl rfl lk_X10_124 st_X10_in rfl rfl (w_inV (G0 L b) h a6 20 v16425 (by decide : BL 20 20 20) b16425) (fun r16427 q16427 => ?_)
            obtain ⟨b16427, p16427_0, pp16427_0⟩ := q16427
            refine ev_if_ne rfl rfl (fun c16428 => ?_) (fun c16428 => ?_)
            · have b16429 : B r16427 1 1 := R_neL b16427 (by decide : B 0 0 0) c16428 (by decide)
              have b16430 : B a6 20 31 := p16427_0 c16428
              have z16431 := w_ne c16428
              rw [show (0 : Int32).toInt = 0 from by decide] at z16431
              refine ev_aload_n rfl rfl rfl ?_
              refine ev_iload_n rfl rfl rfl ?_
              refine ev_iload_n rfl rfl rfl ?_
              refine ev_V2P rfl rfl lk_X10_286 vt_X10_isIn rfl rfl rfl rfl rfl (w_isInK L b h hJ0.1 a0 a1 b7) (fun r16434 q16434 => ?_)
              obtain ⟨b16434, pp16434_0⟩ := q16434
              refine ev_if_ne rfl rfl (fun c16435 => ?_) (fun c16435 => ?_)
              · have b16436 : B r16434 1 1 := R_neL b16434 (by decide : B 0 0 0) c16435 (by decide)
                have z16437 := w_ne c16435
                rw [show (0 : Int32).toInt = 0 from by decide] at z16437
                refine ev_aload_n rfl rfl rfl ?_
                refine ev_getR (y := 92) rfl rfl fl_X10_112 rfl rfl rfl rfl ?_
                refine ev_iload rfl rfl rfl ?_
                refine ev_ialW (n := 4) (l := (-2147483648)) (u := 2147483647) hJ0.1 b31 (by decide) (by decide) (fun _ => rfl) rfl rfl rfl (fun v16440 b16440 e16440 => ?_)
                refine ev_iload rfl rfl rfl ?_
                refine ev_icmp_eq rfl rfl (fun c16441 => ?_) (fun c16441 => ?_)
                · have b16442 : B v16440 0 2 := R_eqX (B.any v16440) b32 c16441
                  have z16443 := congrArg Int32.toInt c16441
                  refine ev_iconst (v := 0) rfl rfl (by decide) ?_
                  refine ev_istore rfl rfl rfl rfl ?_
                  dsimp only [List.set]
                  have lp133_29586 : ∀ (n : Nat) (w29587 : Int32) (h29589 : Hp), B w29587 0 24 → JW [(85, 999), (86, 999), (87, 999)] h h29589 → (h29589 63 3 = f1) → (h29589 63 5 = v16424) → (h29589 92 (Int32.toNatClampNeg a3) = v16440) → (IXP h a0 a3 a5 w29587) → 24 + 1 - w29587.toInt ≤ (n : Int) → EvQ mi_X10_blame 133 [some (.ref 63), some (.int a0), some (.int a1), some (.int a2), some (.int a3), some (.int a4), some (.int a5), some (.int a6), some (.int w29587), none, none, none, none, none, none] [] (G0 L b) h29589 0 0 (QJ (fun r : Int32 => B r (-2147483648) 2147483647) [(85, 999), (86, 999), (87, 999)] (G0 L b) h) := by
                    intro n
                    induction n with
                    | zero =>
                      intro w29587 h29589 b29588 hJ29590 z29591 z29592 z29593 u133_0 hm133
                      exact absurd hm133 (L_zero b29588 (by decide))
                    | succ n ih133 =>
                      intro w29587 h29589 b29588 hJ29590 z29591 z29592 z29593 u133_0 hm133
                      have z29594 := congrArg Int32.toInt z29591
                      refine ev_iload rfl rfl rfl ?_
                      refine ev_aload_n rfl rfl rfl ?_
                      refine ev_getR (y := 73) rfl rfl fl_X10_51 rfl rfl rfl rfl ?_
                      refine ev_iload_n rfl rfl rfl ?_
                      refine ev_ialW (n := 6) (l := 0) (u := 24) hJ29590.1 b7 (by decide) (by decide) (fun _ => rfl) rfl rfl rfl (fun v29595 b29595 e29595 => ?_)
                      refine ev_icmp_ge rfl rfl (fun c29596 => ?_) (fun c29596 => ?_)
                      · have z29597 := w_le c29596
                        refine ev_bipush (v := (-4)) rfl rfl (by decide) ?_
                        refine ev_istore rfl rfl rfl rfl ?_
                        dsimp only [List.set]
                        refine ev_bipush (v := (-4)) rfl rfl (by decide) ?_
                        refine ev_istore rfl rfl rfl rfl ?_
                        dsimp only [List.set]
                        refine ev_iconst (v := (-1)) rfl rfl (by decide) ?_
                        refine ev_istore rfl rfl rfl rfl ?_
                        dsimp only [List.set]
                        have lp199_31763 : ∀ (n : Nat) (w31764 : Int32) (w31765 : Int32) (w31766 : Int32) (h31770 : Hp), B w31764 (-4) 2147483647 → B w31765 (-4) 12 → B w31766 (-1) 12 → JW [(85, 999), (86, 999), (87, 999)] h h31770 → (h31770 63 3 = f1) → (h31770 63 5 = v16424) → (h31770 92 (Int32.toNatClampNeg a3) = v16440) → (h31770 73 (Int32.toNatClampNeg a0) = v29595) → 12 + 1 - w31766.toInt ≤ (n : Int) → EvQ mi_X10_blame 199 [some (.ref 63), some (.int a0), some (.int a1), some (.int a2), some (.int a3), some (.int a4), some (.int a5), some (.int a6), some (.int w31764), some (.int w31765), some (.int w31766), none, none, none, none] [] (G0 L b) h31770 0 0 (QJ (fun r : Int32 => B r (-2147483648) 2147483647) [(85, 999), (86, 999), (87, 999)] (G0 L b) h) := by
                          intro n
                          induction n with
                          | zero =>
                            intro w31764 w31765 w31766 h31770 b31767 b31768 b31769 hJ31771 z31772 z31773 z31774 z31775 hm199
                            exact absurd hm199 (L_zero b31769 (by decide))
                          | succ n ih199 =>
                            intro w31764 w31765 w31766 h31770 b31767 b31768 b31769 hJ31771 z31772 z31773 z31774 z31775 hm199
                            have z31776 := congrArg Int32.toInt z31772
                            refine ev_iload rfl rfl rfl ?_
                            refine ev_aload_n rfl rfl rfl ?_
                            refine ev_getV (v := v16424) rfl rfl fl_X10_121 rfl rfl rfl z31773 ?_
                            refine ev_icmp_ge rfl rfl (fun c31777 => ?_) (fun c31777 => ?_)
                            · have b31778 : B w31766 0 12 := R_leY b16424 b31769 c31777 (by decide)
                              have z31779 := w_le c31777
                              refine ev_iload rfl rfl rfl ?_
                              refine ev_bipush (v := (-4)) rfl rfl (by decide) ?_
                              refine ev_icmp_ne rfl rfl (fun c31782 => ?_) (fun c31782 => ?_)
                              · have b31783 : B w31764 (-3) 2147483647 := R_neL b31767 (by decide : B (-4) (-4) (-4)) c31782 (by decide)
                                have z31784 := w_ne c31782
                                rw [show ((-4) : Int32).toInt = (-4) from by decide] at z31784
                                refine ev_iconst (v := 0) rfl rfl (by decide) ?_
                                refine ev_istore rfl rfl rfl rfl ?_
                                dsimp only [List.set]
                                refine ev_iconst (v := 0) rfl rfl (by decide) ?_
                                refine ev_istore rfl rfl rfl rfl ?_
                                dsimp only [List.set]
                                have lp342_31891 : ∀ (n : Nat) (w31892 : Int32) (w31893 : Int32) (h31896 : Hp), B w31892 0 4095 → B w31893 0 12 → JW [(85, 999), (86, 999), (87, 999)] h h31896 → (h31896 63 3 = f1) → (h31896 63 5 = v16424) → (h31896 92 (Int32.toNatClampNeg a3) = v16440) → (h31896 73 (Int32.toNatClampNeg a0) = v29595) → 12 + 1 - w31893.toInt ≤ (n : Int) → EvQ mi_X10_blame 342 [some (.ref 63), some (.int a0), some (.int a1), some (.int a2), some (.int a3), some (.int a4), some (.int a5), some (.int a6), some (.int w31764), some (.int w31765), some (.int w31892), some (.int w31893), none, none, none] [] (G0 L b) h31896 0 0 (QJ (fun r : Int32 => B r (-2147483648) 2147483647) [(85, 999), (86, 999), (87, 999)] (G0 L b) h) := by
                                  intro n
                                  induction n with
                                  | zero =>
                                    intro w31892 w31893 h31896 b31894 b31895 hJ31897 z31898 z31899 z31900 z31901 hm342
                                    exact absurd hm342 (L_zero b31895 (by decide))
                                  | succ n ih342 =>
                                    intro w31892 w31893 h31896 b31894 b31895 hJ31897 z31898 z31899 z31900 z31901 hm342
                                    have z31902 := congrArg Int32.toInt z31898
                                    refine ev_iload rfl rfl rfl ?_
                                    refine ev_bipush (v := 12) rfl rfl (by decide) ?_
                                    refine ev_icmp_ge rfl rfl (fun c31903 => ?_) (fun c31903 => ?_)
                                    · have b31904 : B w31893 12 12 := R_leY (by decide : B 12 12 12) b31895 c31903 (by decide)
                                      have z31905 := w_le c31903
                                      rw [show (12 : Int32).toInt = 12 from by decide] at z31905
                                      refine ev_iload rfl rfl rfl ?_
                                      refine ev_if_ne rfl rfl (fun c31908 => ?_) (fun c31908 => absurd c31908 (D_ne b16430 (by decide : B 0 0 0) (by decide)))
                                      have z31909 := w_ne c31908
                                      rw [show (0 : Int32).toInt = 0 from by decide] at z31909
                                      refine ev_iload rfl rfl rfl ?_
                                      refine ev_iconst (v := 1) rfl rfl (by decide) ?_
                                      refine ev_icmp_ne rfl rfl (fun c31910 => ?_) (fun c31910 => absurd c31910 (D_ne b16430 (by decide : B 1 1 1) (by decide)))
                                      have z31911 := w_ne c31910
                                      rw [show (1 : Int32).toInt = 1 from by decide] at z31911
                                      refine ev_iload rfl rfl rfl ?_
                                      refine ev_iconst (v := 2) rfl rfl (by decide) ?_
                                      refine ev_icmp_ne rfl rfl (fun c31912 => ?_) (fun c31912 => absurd c31912 (D_ne b16430 (by decide : B 2 2 2) (by decide)))
                                      have z31913 := w_ne c31912
                                      rw [show (2 : Int32).toInt = 2 from by decide] at z31913
                                      refine ev_aload_n rfl rfl rfl ?_
                                      refine ev_getR (y := 87) rfl rfl fl_X10_94 rfl rfl rfl rfl ?_
                                      refine ev_iload rfl rfl rfl ?_
                                      refine ev_bipush (v := 20) rfl rfl (by decide) ?_
                                      refine ev_isubB (l := 0) (u := 11) rfl rfl b16430 (by decide : B 20 20 20) (by decide) (by decide) (by decide) (by decide) (fun v31914 b31914 e31914 g31914 => ?_)
                                      have e31914x := e31914; rw [show (20 : Int32).toInt = 20 from by decide] at e31914x
                                      refine ev_ialW (n := 12) (l := (-2147483648)) (u := 2147483647) hJ31897.1 b31914 (by decide) (by decide) (fun _ => rfl) rfl rfl rfl (fun v31915 b31915 e31915 => ?_)
                                      exact ev_iret rfl rfl rfl ⟨⟨_, rfl, (B.any v31915)⟩, rfl, hJ31897⟩
                                    · have b31906 : B w31893 0 11 := R_ltX b31895 (by decide : B 12 12 12) (Int32.not_le.mp c31903) (by decide)
                                      have z31907 := w_lt (Int32.not_le.mp c31903)
                                      rw [show (12 : Int32).toInt = 12 from by decide] at z31907
                                      refine ev_iload rfl rfl rfl ?_
                                      refine ev_aload_n rfl rfl rfl ?_
                                      refine ev_getR (y := 87) rfl rfl fl_X10_94 rfl rfl rfl rfl ?_
                                      refine ev_iload rfl rfl rfl ?_
                                      refine ev_ialW (n := 12) (l := (-2147483648)) (u := 2147483647) hJ31897.1 b31906 (by decide) (by decide) (fun _ => rfl) rfl rfl rfl (fun v31916 b31916 e31916 => ?_)
                                      refine ev_if_ne rfl rfl (fun c31917 => ?_) (fun c31917 => ?_)
                                      · have z31918 := w_ne c31917
                                        rw [show (0 : Int32).toInt = 0 from by decide] at z31918
                                        refine ev_iconst (v := 1) rfl rfl (by decide) ?_
                                        refine ev_iload rfl rfl rfl ?_
                                        refine ev_ishlB rfl rfl b31906 (by decide) (by decide) (fun v31921 b31921 => ?_)
                                        refine ev_iorB 12 (u := 4095) rfl rfl b31894 b31921 (by decide) (by decide) (by decide) (by decide) (by decide) (by decide) (fun v31922 b31922 e31922 => ?_)
                                        refine ev_istore rfl rfl rfl rfl ?_
                                        dsimp only [List.set]
                                        refine ev_iincB (y := 1) (l := 1) (u := 12) rfl rfl rfl (by decide) rfl rfl b31906 (by decide : B 1 1 1) (by decide) (by decide) (by decide) (by decide) (fun v31923 b31923 e31923 => ?_)
                                        dsimp only [List.set]
                                        have e31923x := e31923; rw [show (1 : Int32).toInt = 1 from by decide] at e31923x
                                        refine ev_goto rfl rfl ?_
                                        exact (ih342 v31922 v31923 h31896 b31922 (b31923.mono (by decide) (by decide)) hJ31897 z31898 z31899 z31900 z31901 (L_up hm342 (e_p1 e31923 (by decide))))
                                      · have b31919 : B v31916 0 0 := R_eqX (B.any v31916) (by decide : B 0 0 0) c31917
                                        have z31920 := congrArg Int32.toInt c31917
                                        rw [show (0 : Int32).toInt = 0 from by decide] at z31920
                                        refine ev_iconst (v := 0) rfl rfl (by decide) ?_
                                        refine ev_goto rfl rfl ?_
                                        refine ev_iorB 12 (u := 4095) rfl rfl b31894 (by decide : B 0 0 0) (by decide) (by decide) (by decide) (by decide) (by decide) (by decide) (fun v31924 b31924 e31924 => ?_)
                                        refine ev_istore rfl rfl rfl rfl ?_
                                        dsimp only [List.set]
                                        refine ev_iincB (y := 1) (l := 1) (u := 12) rfl rfl rfl (by decide) rfl rfl b31906 (by decide : B 1 1 1) (by decide) (by decide) (by decide) (by decide) (fun v31925 b31925 e31925 => ?_)
                                        dsimp only [List.set]
                                        have e31925x := e31925; rw [show (1 : Int32).toInt = 1 from by decide] at e31925x
                                        refine ev_goto rfl rfl ?_
                                        exact (ih342 v31924 v31925 h31896 b31924 (b31925.mono (by decide) (by decide)) hJ31897 z31898 z31899 z31900 z31901 (L_up hm342 (e_p1 e31925 (by decide))))
                                exact (lp342_31891 13 0 0 h31770 ((by decide : B 0 0 0).mono (by decide) (by decide)) ((by decide : B 0 0 0).mono (by decide) (by decide)) hJ31771 z31772 z31773 z31774 z31775 (L_init (by decide : B 0 0 0) (by decide)))
                              · have b31785 : B w31764 (-4) (-4) := R_eqX b31767 (by decide : B (-4) (-4) (-4)) c31782
                                have z31786 := congrArg Int32.toInt c31782
                                rw [show ((-4) : Int32).toInt = (-4) from by decide] at z31786
                                refine ev_sipush (v := (-1004)) rfl rfl (by decide) ?_
                                exact ev_iret rfl rfl rfl ⟨⟨_, rfl, ((by decide : B (-1004) (-1004) (-1004)).mono (by decide) (by decide))⟩, rfl, hJ31771⟩
                            · have b31780 : B w31766 (-1) 11 := R_ltX b31769 b16424 (Int32.not_le.mp c31777) (by decide)
                              have z31781 := w_lt (Int32.not_le.mp c31777)
                              refine ev_iload rfl rfl rfl ?_
                              refine ev_if_ge rfl rfl (fun c31926 => ?_) (fun c31926 => ?_)
                              · have b31927 : B w31766 0 11 := R_leY (by decide : B 0 0 0) b31780 c31926 (by decide)
                                have z31928 := w_le c31926
                                rw [show (0 : Int32).toInt = 0 from by decide] at z31928
                                refine ev_iload rfl rfl rfl ?_
                                refine ev_istore rfl rfl rfl rfl ?_
                                dsimp only [List.set]
                                refine ev_aload_n rfl rfl rfl ?_
                                refine ev_iload_n rfl rfl rfl ?_
                                refine ev_iload_n rfl rfl rfl ?_
                                refine ev_iload_n rfl rfl rfl ?_
                                refine ev_iload rfl rfl rfl ?_
                                refine ev_iload rfl rfl rfl ?_
                                refine ev_iload rfl rfl rfl ?_
                                refine ev_V6J hJ31771 rfl rfl rfl lk_X10_338 vt_X10_explains rfl rfl rfl rfl rfl (w_X10_explains_63 L b h31770 hJ31771.1 a0 b7 a1 b15 a2 b24 a3 b31 a5 w31766 (KM.keep (pp16434_0 c16435 b15) hJ31771 (fun _ => rfl) (fun _ => rfl)) (IXP.keep (IXP.all u133_0 (by have q_ := congrArg Int32.toInt z31775; have q2_ := congrArg Int32.toInt (hJ31771.2 73 (Int32.toNatClampNeg a0) rfl); omega)) hJ31771 (fun _ => rfl) (fun _ => rfl) (fun _ => rfl))) (fun r31931 h31931 q31931 hJ31931 k31931 => ?_)
                                refine ev_istore rfl rfl rfl rfl ?_
                                dsimp only [List.set]
                                refine ev_iload rfl rfl rfl ?_
                                refine ev_if_ge rfl rfl (fun c31932 => ?_) (fun c31932 => ?_)
                                · have b31933 : B r31931 0 2147483647 := R_leY (by decide : B 0 0 0) (B.any r31931) c31932 (by decide)
                                  have z31934 := w_le c31932
                                  rw [show (0 : Int32).toInt = 0 from by decide] at z31934
                                  refine ev_iload rfl rfl rfl ?_
                                  refine ev_iload rfl rfl rfl ?_
                                  refine ev_if_ge rfl rfl (fun c31937 => ?_) (fun c31937 => absurd (D_le (by decide : B 0 0 0) b31927 (by decide)) c31937)
                                  have z31938 := w_le c31937
                                  rw [show (0 : Int32).toInt = 0 from by decide] at z31938
                                  refine ev_iconst (v := 1) rfl rfl (by decide) ?_
                                  refine ev_iaddA rfl rfl (fun v31939 g31939 => ?_)
                                  refine ev_istore rfl rfl rfl rfl ?_
                                  dsimp only [List.set]
                                  refine ev_iload rfl rfl rfl ?_
                                  refine ev_if_lt rfl rfl (fun c31940 => ?_) (fun c31940 => ?_)
                                  · have b31941 : B v31939 (-2147483648) (-1) := R_ltX (B.any v31939) (by decide : B 0 0 0) c31940 (by decide)
                                    have z31942 := w_lt c31940
                                    rw [show (0 : Int32).toInt = 0 from by decide] at z31942
                                    refine ev_iincB (y := 1) (l := 1) (u := 12) rfl rfl rfl (by decide) rfl rfl b31927 (by decide : B 1 1 1) (by decide) (by decide) (by decide) (by decide) (fun v31945 b31945 e31945 => ?_)
                                    dsimp only [List.set]
                                    have e31945x := e31945; rw [show (1 : Int32).toInt = 1 from by decide] at e31945x
                                    refine ev_goto rfl rfl ?_
                                    exact (EvQ.drop 13 (EvQ.drop 12 (EvQ.drop 11 (ih199 w31764 w31765 v31945 h31931 b31767 b31768 (b31945.mono (by decide) (by decide)) hJ31931 (rd_w k31931 z31772 rfl) (rd_w k31931 z31773 rfl) (rd_w k31931 z31774 rfl) (rd_w k31931 z31775 rfl) (L_up hm199 (e_p1 e31945 (by decide)))))))
                                  · have b31943 : B v31939 0 2147483647 := R_leY (by decide : B 0 0 0) (B.any v31939) (Int32.not_lt.mp c31940) (by decide)
                                    have z31944 := w_le (Int32.not_lt.mp c31940)
                                    rw [show (0 : Int32).toInt = 0 from by decide] at z31944
                                    refine ev_iload rfl rfl rfl ?_
                                    refine ev_bipush (v := (-4)) rfl rfl (by decide) ?_
                                    refine ev_icmp_eq rfl rfl (fun c31946 => ?_) (fun c31946 => ?_)
                                    · have b31947 : B w31764 (-4) (-4) := R_eqX b31767 (by decide : B (-4) (-4) (-4)) c31946
                                      have z31948 := congrArg Int32.toInt c31946
                                      rw [show ((-4) : Int32).toInt = (-4) from by decide] at z31948
                                      refine ev_iload rfl rfl rfl ?_
                                      refine ev_istore rfl rfl rfl rfl ?_
                                      dsimp only [List.set]
                                      refine ev_iload rfl rfl rfl ?_
                                      refine ev_istore rfl rfl rfl rfl ?_
                                      dsimp only [List.set]
                                      refine ev_iconst (v := 0) rfl rfl (by decide) ?_
                                      refine ev_istore rfl rfl rfl rfl ?_
                                      dsimp only [List.set]
                                      have lp292_31994 : ∀ (n : Nat) (w31995 : Int32) (h31997 : Hp), B w31995 0 12 → JW [(85, 999), (86, 999), (87, 999)] h h31997 → (h31997 63 3 = f1) → (h31997 63 5 = v16424) → (h31997 92 (Int32.toNatClampNeg a3) = v16440) → (h31997 73 (Int32.toNatClampNeg a0) = v29595) → 12 + 1 - w31995.toInt ≤ (n : Int) → EvQ mi_X10_blame 292 [some (.ref 63), some (.int a0), some (.int a1), some (.int a2), some (.int a3), some (.int a4), some (.int a5), some (.int a6), some (.int v31939), some (.int w31766), some (.int w31766), some (.int w31766), some (.int r31931), some (.int v31939), some (.int w31995)] [] (G0 L b) h31997 0 0 (QJ (fun r : Int32 => B r (-2147483648) 2147483647) [(85, 999), (86, 999), (87, 999)] (G0 L b) h) := by
                                        intro n
                                        induction n with
                                        | zero =>
                                          intro w31995 h31997 b31996 hJ31998 z31999 z32000 z32001 z32002 hm292
                                          exact absurd hm292 (L_zero b31996 (by decide))
                                        | succ n ih292 =>
                                          intro w31995 h31997 b31996 hJ31998 z31999 z32000 z32001 z32002 hm292
                                          have z32003 := congrArg Int32.toInt z31999
                                          refine ev_iload rfl rfl rfl ?_
                                          refine ev_bipush (v := 12) rfl rfl (by decide) ?_
                                          refine ev_icmp_ge rfl rfl (fun c32004 => ?_) (fun c32004 => ?_)
                                          · have b32005 : B w31995 12 12 := R_leY (by decide : B 12 12 12) b31996 c32004 (by decide)
                                            have z32006 := w_le c32004
                                            rw [show (12 : Int32).toInt = 12 from by decide] at z32006
                                            refine ev_iincB (y := 1) (l := 1) (u := 12) rfl rfl rfl (by decide) rfl rfl b31927 (by decide : B 1 1 1) (by decide) (by decide) (by decide) (by decide) (fun v32009 b32009 e32009 => ?_)
                                            dsimp only [List.set]
                                            have e32009x := e32009; rw [show (1 : Int32).toInt = 1 from by decide] at e32009x
                                            refine ev_goto rfl rfl ?_
                                            exact (EvQ.drop 14 (EvQ.drop 13 (EvQ.drop 12 (EvQ.drop 11 (ih199 v31939 w31766 v32009 h31997 (b31943.mono (by decide) (by decide)) (b31927.mono (by decide) (by decide)) (b32009.mono (by decide) (by decide)) hJ31998 z31999 z32000 z32001 z32002 (L_up hm199 (e_p1 e32009 (by decide))))))))
                                          · have b32007 : B w31995 0 11 := R_ltX b31996 (by decide : B 12 12 12) (Int32.not_le.mp c32004) (by decide)
                                            have z32008 := w_lt (Int32.not_le.mp c32004)
                                            rw [show (12 : Int32).toInt = 12 from by decide] at z32008
                                            refine ev_aload_n rfl rfl rfl ?_
                                            refine ev_getR (y := 87) rfl rfl fl_X10_94 rfl rfl rfl rfl ?_
                                            refine ev_iload rfl rfl rfl ?_
                                            refine ev_aload_n rfl rfl rfl ?_
                                            refine ev_getR (y := 85) rfl rfl fl_X10_88 rfl rfl rfl rfl ?_
                                            refine ev_iload rfl rfl rfl ?_
                                            refine ev_ialW (n := 12) (l := (-2147483648)) (u := 2147483647) hJ31998.1 b32007 (by decide) (by decide) (fun _ => rfl) rfl rfl rfl (fun v32010 b32010 e32010 => ?_)
                                            refine ev_iasW (n := 12) (l := (-2147483648)) (u := 2147483647) hJ31998 b32007 (by decide) (by decide) (fun _ => rfl) (B.any v32010) (by decide) (by decide) (fun _ => rfl) rfl rfl rfl rfl (fun h32011 hJ32011 k32011 => ?_)
                                            refine ev_iincB (y := 1) (l := 1) (u := 12) rfl rfl rfl (by decide) rfl rfl b32007 (by decide : B 1 1 1) (by decide) (by decide) (by decide) (by decide) (fun v32012 b32012 e32012 => ?_)
                                            dsimp only [List.set]
                                            have e32012x := e32012; rw [show (1 : Int32).toInt = 1 from by decide] at e32012x
                                            refine ev_goto rfl rfl ?_
                                            exact (ih292 v32012 h32011 (b32012.mono (by decide) (by decide)) hJ32011 (rd_a k32011 z31999 rfl) (rd_a k32011 z32000 rfl) (rd_a k32011 z32001 rfl) (rd_a k32011 z32002 rfl) (L_up hm292 (e_p1 e32012 (by decide))))
                                      exact (lp292_31994 13 0 h31931 ((by decide : B 0 0 0).mono (by decide) (by decide)) hJ31931 (rd_w k31931 z31772 rfl) (rd_w k31931 z31773 rfl) (rd_w k31931 z31774 rfl) (rd_w k31931 z31775 rfl) (L_init (by decide : B 0 0 0) (by decide)))
                                    · have b31949 : B w31764 (-3) 2147483647 := R_neL b31767 (by decide : B (-4) (-4) (-4)) c31946 (by decide)
                                      have z31950 := w_ne c31946
                                      rw [show ((-4) : Int32).toInt = (-4) from by decide] at z31950
                                      refine ev_iload rfl rfl rfl ?_
                                      refine ev_iload rfl rfl rfl ?_
                                      refine ev_icmp_ge rfl rfl (fun c32013 => ?_) (fun c32013 => ?_)
                                      · have z32014 := w_le c32013
                                        refine ev_iincB (y := 1) (l := 1) (u := 12) rfl rfl rfl (by decide) rfl rfl b31927 (by decide : B 1 1 1) (by decide) (by decide) (by decide) (by decide) (fun v32018 b32018 e32018 => ?_)
                                        dsimp only [List.set]
                                        have e32018x := e32018; rw [show (1 : Int32).toInt = 1 from by decide] at e32018x
                                        refine ev_goto rfl rfl ?_
                                        exact (EvQ.drop 13 (EvQ.drop 12 (EvQ.drop 11 (ih199 w31764 w31765 v32018 h31931 (b31949.mono (by decide) (by decide)) b31768 (b32018.mono (by decide) (by decide)) hJ31931 (rd_w k31931 z31772 rfl) (rd_w k31931 z31773 rfl) (rd_w k31931 z31774 rfl) (rd_w k31931 z31775 rfl) (L_up hm199 (e_p1 e32018 (by decide)))))))
                                      · have b32015 : B v31939 0 2147483646 := R_ltX b31943 b31949 (Int32.not_le.mp c32013) (by decide)
                                        have b32016 : B w31764 1 2147483647 := R_ltY b31943 b31949 (Int32.not_le.mp c32013) (by decide)
                                        have z32017 := w_lt (Int32.not_le.mp c32013)
                                        refine ev_iload rfl rfl rfl ?_
                                        refine ev_istore rfl rfl rfl rfl ?_
                                        dsimp only [List.set]
                                        refine ev_iload rfl rfl rfl ?_
                                        refine ev_istore rfl rfl rfl rfl ?_
                                        dsimp only [List.set]
                                        refine ev_iconst (v := 0) rfl rfl (by decide) ?_
                                        refine ev_istore rfl rfl rfl rfl ?_
                                        dsimp only [List.set]
                                        have lp292_32062 : ∀ (n : Nat) (w32063 : Int32) (h32065 : Hp), B w32063 0 12 → JW [(85, 999), (86, 999), (87, 999)] h h32065 → (h32065 63 3 = f1) → (h32065 63 5 = v16424) → (h32065 92 (Int32.toNatClampNeg a3) = v16440) → (h32065 73 (Int32.toNatClampNeg a0) = v29595) → 12 + 1 - w32063.toInt ≤ (n : Int) → EvQ mi_X10_blame 292 [some (.ref 63), some (.int a0), some (.int a1), some (.int a2), some (.int a3), some (.int a4), some (.int a5), some (.int a6), some (.int v31939), some (.int w31766), some (.int w31766), some (.int w31766), some (.int r31931), some (.int v31939), some (.int w32063)] [] (G0 L b) h32065 0 0 (QJ (fun r : Int32 => B r (-2147483648) 2147483647) [(85, 999), (86, 999), (87, 999)] (G0 L b) h) := by
                                          intro n
                                          induction n with
                                          | zero =>
                                            intro w32063 h32065 b32064 hJ32066 z32067 z32068 z32069 z32070 hm292
                                            exact absurd hm292 (L_zero b32064 (by decide))
                                          | succ n ih292 =>
                                            intro w32063 h32065 b32064 hJ32066 z32067 z32068 z32069 z32070 hm292
                                            have z32071 := congrArg Int32.toInt z32067
                                            refine ev_iload rfl rfl rfl ?_
                                            refine ev_bipush (v := 12) rfl rfl (by decide) ?_
                                            refine ev_icmp_ge rfl rfl (fun c32072 => ?_) (fun c32072 => ?_)
                                            · have b32073 : B w32063 12 12 := R_leY (by decide : B 12 12 12) b32064 c32072 (by decide)
                                              have z32074 := w_le c32072
                                              rw [show (12 : Int32).toInt = 12 from by decide] at z32074
                                              refine ev_iincB (y := 1) (l := 1) (u := 12) rfl rfl rfl (by decide) rfl rfl b31927 (by decide : B 1 1 1) (by decide) (by decide) (by decide) (by decide) (fun v32077 b32077 e32077 => ?_)
                                              dsimp only [List.set]
                                              have e32077x := e32077; rw [show (1 : Int32).toInt = 1 from by decide] at e32077x
                                              refine ev_goto rfl rfl ?_
                                              exact (EvQ.drop 14 (EvQ.drop 13 (EvQ.drop 12 (EvQ.drop 11 (ih199 v31939 w31766 v32077 h32065 (b32015.mono (by decide) (by decide)) (b31927.mono (by decide) (by decide)) (b32077.mono (by decide) (by decide)) hJ32066 z32067 z32068 z32069 z32070 (L_up hm199 (e_p1 e32077 (by decide))))))))
                                            · have b32075 : B w32063 0 11 := R_ltX b32064 (by decide : B 12 12 12) (Int32.not_le.mp c32072) (by decide)
                                              have z32076 := w_lt (Int32.not_le.mp c32072)
                                              rw [show (12 : Int32).toInt = 12 from by decide] at z32076
                                              refine ev_aload_n rfl rfl rfl ?_
                                              refine ev_getR (y := 87) rfl rfl fl_X10_94 rfl rfl rfl rfl ?_
                                              refine ev_iload rfl rfl rfl ?_
                                              refine ev_aload_n rfl rfl rfl ?_
                                              refine ev_getR (y := 85) rfl rfl fl_X10_88 rfl rfl rfl rfl ?_
                                              refine ev_iload rfl rfl rfl ?_
                                              refine ev_ialW (n := 12) (l := (-2147483648)) (u := 2147483647) hJ32066.1 b32075 (by decide) (by decide) (fun _ => rfl) rfl rfl rfl (fun v32078 b32078 e32078 => ?_)
                                              refine ev_iasW (n := 12) (l := (-2147483648)) (u := 2147483647) hJ32066 b32075 (by decide) (by decide) (fun _ => rfl) (B.any v32078) (by decide) (by decide) (fun _ => rfl) rfl rfl rfl rfl (fun h32079 hJ32079 k32079 => ?_)
                                              refine ev_iincB (y := 1) (l := 1) (u := 12) rfl rfl rfl (by decide) rfl rfl b32075 (by decide : B 1 1 1) (by decide) (by decide) (by decide) (by decide) (fun v32080 b32080 e32080 => ?_)
                                              dsimp only [List.set]
                                              have e32080x := e32080; rw [show (1 : Int32).toInt = 1 from by decide] at e32080x
                                              refine ev_goto rfl rfl ?_
                                              exact (ih292 v32080 h32079 (b32080.mono (by decide) (by decide)) hJ32079 (rd_a k32079 z32067 rfl) (rd_a k32079 z32068 rfl) (rd_a k32079 z32069 rfl) (rd_a k32079 z32070 rfl) (L_up hm292 (e_p1 e32080 (by decide))))
                                        exact (lp292_32062 13 0 h31931 ((by decide : B 0 0 0).mono (by decide) (by decide)) hJ31931 (rd_w k31931 z31772 rfl) (rd_w k31931 z31773 rfl) (rd_w k31931 z31774 rfl) (rd_w k31931 z31775 rfl) (L_init (by decide : B 0 0 0) (by decide)))
                                · have b31935 : B r31931 (-2147483648) (-1) := R_ltX (B.any r31931) (by decide : B 0 0 0) (Int32.not_le.mp c31932) (by decide)
                                  have z31936 := w_lt (Int32.not_le.mp c31932)
                                  rw [show (0 : Int32).toInt = 0 from by decide] at z31936
                                  refine ev_bipush (v := (-4)) rfl rfl (by decide) ?_
                                  refine ev_goto rfl rfl ?_
                                  refine ev_istore rfl rfl rfl rfl ?_
                                  dsimp only [List.set]
                                  refine ev_iload rfl rfl rfl ?_
                                  refine ev_if_lt rfl rfl (fun c32081 => ?_) (fun c32081 => absurd (D_lt (by decide : B (-4) (-4) (-4)) (by decide : B 0 0 0) (by decide)) c32081)
                                  have z32082 := w_lt c32081
                                  rw [show ((-4) : Int32).toInt = (-4) from by decide] at z32082
                                  rw [show (0 : Int32).toInt = 0 from by decide] at z32082
                                  refine ev_iincB (y := 1) (l := 1) (u := 12) rfl rfl rfl (by decide) rfl rfl b31927 (by decide : B 1 1 1) (by decide) (by decide) (by decide) (by decide) (fun v32083 b32083 e32083 => ?_)
                                  dsimp only [List.set]
                                  have e32083x := e32083; rw [show (1 : Int32).toInt = 1 from by decide] at e32083x
                                  refine ev_goto rfl rfl ?_
                                  exact (EvQ.drop 13 (EvQ.drop 12 (EvQ.drop 11 (ih199 w31764 w31765 v32083 h31931 b31767 b31768 (b32083.mono (by decide) (by decide)) hJ31931 (rd_w k31931 z31772 rfl) (rd_w k31931 z31773 rfl) (rd_w k31931 z31774 rfl) (rd_w k31931 z31775 rfl) (L_up hm199 (e_p1 e32083 (by decide)))))))
                              · have b31929 : B w31766 (-1) (-1) := R_ltX b31780 (by decide : B 0 0 0) (Int32.not_le.mp c31926) (by decide)
                                have z31930 := w_lt (Int32.not_le.mp c31926)
                                rw [show (0 : Int32).toInt = 0 from by decide] at z31930
                                refine ev_bipush (v := (-4)) rfl rfl (by decide) ?_
                                refine ev_goto rfl rfl ?_
                                refine ev_istore rfl rfl rfl rfl ?_
                                dsimp only [List.set]
                                refine ev_aload_n rfl rfl rfl ?_
                                refine ev_iload_n rfl rfl rfl ?_
                                refine ev_iload_n rfl rfl rfl ?_
                                refine ev_iload_n rfl rfl rfl ?_
                                refine ev_iload rfl rfl rfl ?_
                                refine ev_iload rfl rfl rfl ?_
                                refine ev_iload rfl rfl rfl ?_
                                refine ev_V6J hJ31771 rfl rfl rfl lk_X10_338 vt_X10_explains rfl rfl rfl rfl rfl (w_X10_explains_63 L b h31770 hJ31771.1 a0 b7 a1 b15 a2 b24 a3 b31 a5 (-4) (KM.keep (pp16434_0 c16435 b15) hJ31771 (fun _ => rfl) (fun _ => rfl)) (IXP.keep (IXP.all u133_0 (by have q_ := congrArg Int32.toInt z31775; have q2_ := congrArg Int32.toInt (hJ31771.2 73 (Int32.toNatClampNeg a0) rfl); omega)) hJ31771 (fun _ => rfl) (fun _ => rfl) (fun _ => rfl))) (fun r32084 h32084 q32084 hJ32084 k32084 => ?_)
                                refine ev_istore rfl rfl rfl rfl ?_
                                dsimp only [List.set]
                                refine ev_iload rfl rfl rfl ?_
                                refine ev_if_ge rfl rfl (fun c32085 => ?_) (fun c32085 => ?_)
                                · have b32086 : B r32084 0 2147483647 := R_leY (by decide : B 0 0 0) (B.any r32084) c32085 (by decide)
                                  have z32087 := w_le c32085
                                  rw [show (0 : Int32).toInt = 0 from by decide] at z32087
                                  refine ev_iload rfl rfl rfl ?_
                                  refine ev_iload rfl rfl rfl ?_
                                  refine ev_if_ge rfl rfl (fun c32090 => absurd c32090 (D_nle (by decide : B 0 0 0) b31929 (by decide))) (fun c32090 => ?_)
                                  have z32091 := w_lt (Int32.not_le.mp c32090)
                                  rw [show (0 : Int32).toInt = 0 from by decide] at z32091
                                  refine ev_iconst (v := 0) rfl rfl (by decide) ?_
                                  refine ev_goto rfl rfl ?_
                                  refine ev_iaddB (l := 0) (u := 2147483647) rfl rfl b32086 (by decide : B 0 0 0) (by decide) (by decide) (by decide) (by decide) (fun v32092 b32092 e32092 g32092 => ?_)
                                  have e32092x := e32092; rw [show (0 : Int32).toInt = 0 from by decide] at e32092x
                                  refine ev_istore rfl rfl rfl rfl ?_
                                  dsimp only [List.set]
                                  refine ev_iload rfl rfl rfl ?_
                                  refine ev_if_lt rfl rfl (fun c32093 => absurd c32093 (D_nlt b32092 (by decide : B 0 0 0) (by decide))) (fun c32093 => ?_)
                                  have z32094 := w_le (Int32.not_lt.mp c32093)
                                  rw [show (0 : Int32).toInt = 0 from by decide] at z32094
                                  refine ev_iload rfl rfl rfl ?_
                                  refine ev_bipush (v := (-4)) rfl rfl (by decide) ?_
                                  refine ev_icmp_eq rfl rfl (fun c32095 => ?_) (fun c32095 => ?_)
                                  · have b32096 : B w31764 (-4) (-4) := R_eqX b31767 (by decide : B (-4) (-4) (-4)) c32095
                                    have z32097 := congrArg Int32.toInt c32095
                                    rw [show ((-4) : Int32).toInt = (-4) from by decide] at z32097
                                    refine ev_iload rfl rfl rfl ?_
                                    refine ev_istore rfl rfl rfl rfl ?_
                                    dsimp only [List.set]
                                    refine ev_iload rfl rfl rfl ?_
                                    refine ev_istore rfl rfl rfl rfl ?_
                                    dsimp only [List.set]
                                    refine ev_iconst (v := 0) rfl rfl (by decide) ?_
                                    refine ev_istore rfl rfl rfl rfl ?_
                                    dsimp only [List.set]
                                    have lp292_32143 : ∀ (n : Nat) (w32144 : Int32) (h32146 : Hp), B w32144 0 12 → JW [(85, 999), (86, 999), (87, 999)] h h32146 → (h32146 63 3 = f1) → (h32146 63 5 = v16424) → (h32146 92 (Int32.toNatClampNeg a3) = v16440) → (h32146 73 (Int32.toNatClampNeg a0) = v29595) → 12 + 1 - w32144.toInt ≤ (n : Int) → EvQ mi_X10_blame 292 [some (.ref 63), some (.int a0), some (.int a1), some (.int a2), some (.int a3), some (.int a4), some (.int a5), some (.int a6), some (.int v32092), some (.int (-4)), some (.int w31766), some (.int (-4)), some (.int r32084), some (.int v32092), some (.int w32144)] [] (G0 L b) h32146 0 0 (QJ (fun r : Int32 => B r (-2147483648) 2147483647) [(85, 999), (86, 999), (87, 999)] (G0 L b) h) := by
                                      intro n
                                      induction n with
                                      | zero =>
                                        intro w32144 h32146 b32145 hJ32147 z32148 z32149 z32150 z32151 hm292
                                        exact absurd hm292 (L_zero b32145 (by decide))
                                      | succ n ih292 =>
                                        intro w32144 h32146 b32145 hJ32147 z32148 z32149 z32150 z32151 hm292
                                        have z32152 := congrArg Int32.toInt z32148
                                        refine ev_iload rfl rfl rfl ?_
                                        refine ev_bipush (v := 12) rfl rfl (by decide) ?_
                                        refine ev_icmp_ge rfl rfl (fun c32153 => ?_) (fun c32153 => ?_)
                                        · have b32154 : B w32144 12 12 := R_leY (by decide : B 12 12 12) b32145 c32153 (by decide)
                                          have z32155 := w_le c32153
                                          rw [show (12 : Int32).toInt = 12 from by decide] at z32155
                                          refine ev_iincB (y := 1) (l := 0) (u := 0) rfl rfl rfl (by decide) rfl rfl b31929 (by decide : B 1 1 1) (by decide) (by decide) (by decide) (by decide) (fun v32158 b32158 e32158 => ?_)
                                          dsimp only [List.set]
                                          have e32158x := e32158; rw [show (1 : Int32).toInt = 1 from by decide] at e32158x
                                          refine ev_goto rfl rfl ?_
                                          exact (EvQ.drop 14 (EvQ.drop 13 (EvQ.drop 12 (EvQ.drop 11 (ih199 v32092 (-4) v32158 h32146 (b32092.mono (by decide) (by decide)) ((by decide : B (-4) (-4) (-4)).mono (by decide) (by decide)) (b32158.mono (by decide) (by decide)) hJ32147 z32148 z32149 z32150 z32151 (L_up hm199 (e_p1 e32158 (by decide))))))))
                                        · have b32156 : B w32144 0 11 := R_ltX b32145 (by decide : B 12 12 12) (Int32.not_le.mp c32153) (by decide)
                                          have z32157 := w_lt (Int32.not_le.mp c32153)
                                          rw [show (12 : Int32).toInt = 12 from by decide] at z32157
                                          refine ev_aload_n rfl rfl rfl ?_
                                          refine ev_getR (y := 87) rfl rfl fl_X10_94 rfl rfl rfl rfl ?_
                                          refine ev_iload rfl rfl rfl ?_
                                          refine ev_aload_n rfl rfl rfl ?_
                                          refine ev_getR (y := 85) rfl rfl fl_X10_88 rfl rfl rfl rfl ?_
                                          refine ev_iload rfl rfl rfl ?_
                                          refine ev_ialW (n := 12) (l := (-2147483648)) (u := 2147483647) hJ32147.1 b32156 (by decide) (by decide) (fun _ => rfl) rfl rfl rfl (fun v32159 b32159 e32159 => ?_)
                                          refine ev_iasW (n := 12) (l := (-2147483648)) (u := 2147483647) hJ32147 b32156 (by decide) (by decide) (fun _ => rfl) (B.any v32159) (by decide) (by decide) (fun _ => rfl) rfl rfl rfl rfl (fun h32160 hJ32160 k32160 => ?_)
                                          refine ev_iincB (y := 1) (l := 1) (u := 12) rfl rfl rfl (by decide) rfl rfl b32156 (by decide : B 1 1 1) (by decide) (by decide) (by decide) (by decide) (fun v32161 b32161 e32161 => ?_)
                                          dsimp only [List.set]
                                          have e32161x := e32161; rw [show (1 : Int32).toInt = 1 from by decide] at e32161x
                                          refine ev_goto rfl rfl ?_
                                          exact (ih292 v32161 h32160 (b32161.mono (by decide) (by decide)) hJ32160 (rd_a k32160 z32148 rfl) (rd_a k32160 z32149 rfl) (rd_a k32160 z32150 rfl) (rd_a k32160 z32151 rfl) (L_up hm292 (e_p1 e32161 (by decide))))
                                    exact (lp292_32143 13 0 h32084 ((by decide : B 0 0 0).mono (by decide) (by decide)) hJ32084 (rd_w k32084 z31772 rfl) (rd_w k32084 z31773 rfl) (rd_w k32084 z31774 rfl) (rd_w k32084 z31775 rfl) (L_init (by decide : B 0 0 0) (by decide)))
                                  · have b32098 : B w31764 (-3) 2147483647 := R_neL b31767 (by decide : B (-4) (-4) (-4)) c32095 (by decide)
                                    have z32099 := w_ne c32095
                                    rw [show ((-4) : Int32).toInt = (-4) from by decide] at z32099
                                    refine ev_iload rfl rfl rfl ?_
                                    refine ev_iload rfl rfl rfl ?_
                                    refine ev_icmp_ge rfl rfl (fun c32162 => ?_) (fun c32162 => ?_)
                                    · have z32163 := w_le c32162
                                      refine ev_iincB (y := 1) (l := 0) (u := 0) rfl rfl rfl (by decide) rfl rfl b31929 (by decide : B 1 1 1) (by decide) (by decide) (by decide) (by decide) (fun v32168 b32168 e32168 => ?_)
                                      dsimp only [List.set]
                                      have e32168x := e32168; rw [show (1 : Int32).toInt = 1 from by decide] at e32168x
                                      refine ev_goto rfl rfl ?_
                                      exact (EvQ.drop 13 (EvQ.drop 12 (EvQ.drop 11 (ih199 w31764 w31765 v32168 h32084 (b32098.mono (by decide) (by decide)) b31768 (b32168.mono (by decide) (by decide)) hJ32084 (rd_w k32084 z31772 rfl) (rd_w k32084 z31773 rfl) (rd_w k32084 z31774 rfl) (rd_w k32084 z31775 rfl) (L_up hm199 (e_p1 e32168 (by decide)))))))
                                    · have b32164 : B v32092 0 2147483646 := R_ltX b32092 b32098 (Int32.not_le.mp c32162) (by decide)
                                      have b32165 : B r32084 0 2147483646 := (R_bk (l' := 0) (u' := 2147483646) e32092 b32164 (by decide : B 0 0 0) (by decide) (by decide))
                                      have b32166 : B w31764 1 2147483647 := R_ltY b32092 b32098 (Int32.not_le.mp c32162) (by decide)
                                      have z32167 := w_lt (Int32.not_le.mp c32162)
                                      refine ev_iload rfl rfl rfl ?_
                                      refine ev_istore rfl rfl rfl rfl ?_
                                      dsimp only [List.set]
                                      refine ev_iload rfl rfl rfl ?_
                                      refine ev_istore rfl rfl rfl rfl ?_
                                      dsimp only [List.set]
                                      refine ev_iconst (v := 0) rfl rfl (by decide) ?_
                                      refine ev_istore rfl rfl rfl rfl ?_
                                      dsimp only [List.set]
                                      have lp292_32212 : ∀ (n : Nat) (w32213 : Int32) (h32215 : Hp), B w32213 0 12 → JW [(85, 999), (86, 999), (87, 999)] h h32215 → (h32215 63 3 = f1) → (h32215 63 5 = v16424) → (h32215 92 (Int32.toNatClampNeg a3) = v16440) → (h32215 73 (Int32.toNatClampNeg a0) = v29595) → 12 + 1 - w32213.toInt ≤ (n : Int) → EvQ mi_X10_blame 292 [some (.ref 63), some (.int a0), some (.int a1), some (.int a2), some (.int a3), some (.int a4), some (.int a5), some (.int a6), some (.int v32092), some (.int (-4)), some (.int w31766), some (.int (-4)), some (.int r32084), some (.int v32092), some (.int w32213)] [] (G0 L b) h32215 0 0 (QJ (fun r : Int32 => B r (-2147483648) 2147483647) [(85, 999), (86, 999), (87, 999)] (G0 L b) h) := by
                                        intro n
                                        induction n with
                                        | zero =>
                                          intro w32213 h32215 b32214 hJ32216 z32217 z32218 z32219 z32220 hm292
                                          exact absurd hm292 (L_zero b32214 (by decide))
                                        | succ n ih292 =>
                                          intro w32213 h32215 b32214 hJ32216 z32217 z32218 z32219 z32220 hm292
                                          have z32221 := congrArg Int32.toInt z32217
                                          refine ev_iload rfl rfl rfl ?_
                                          refine ev_bipush (v := 12) rfl rfl (by decide) ?_
                                          refine ev_icmp_ge rfl rfl (fun c32222 => ?_) (fun c32222 => ?_)
                                          · have b32223 : B w32213 12 12 := R_leY (by decide : B 12 12 12) b32214 c32222 (by decide)
                                            have z32224 := w_le c32222
                                            rw [show (12 : Int32).toInt = 12 from by decide] at z32224
                                            refine ev_iincB (y := 1) (l := 0) (u := 0) rfl rfl rfl (by decide) rfl rfl b31929 (by decide : B 1 1 1) (by decide) (by decide) (by decide) (by decide) (fun v32227 b32227 e32227 => ?_)
                                            dsimp only [List.set]
                                            have e32227x := e32227; rw [show (1 : Int32).toInt = 1 from by decide] at e32227x
                                            refine ev_goto rfl rfl ?_
                                            exact (EvQ.drop 14 (EvQ.drop 13 (EvQ.drop 12 (EvQ.drop 11 (ih199 v32092 (-4) v32227 h32215 (b32164.mono (by decide) (by decide)) ((by decide : B (-4) (-4) (-4)).mono (by decide) (by decide)) (b32227.mono (by decide) (by decide)) hJ32216 z32217 z32218 z32219 z32220 (L_up hm199 (e_p1 e32227 (by decide))))))))
                                          · have b32225 : B w32213 0 11 := R_ltX b32214 (by decide : B 12 12 12) (Int32.not_le.mp c32222) (by decide)
                                            have z32226 := w_lt (Int32.not_le.mp c32222)
                                            rw [show (12 : Int32).toInt = 12 from by decide] at z32226
                                            refine ev_aload_n rfl rfl rfl ?_
                                            refine ev_getR (y := 87) rfl rfl fl_X10_94 rfl rfl rfl rfl ?_
                                            refine ev_iload rfl rfl rfl ?_
                                            refine ev_aload_n rfl rfl rfl ?_
                                            refine ev_getR (y := 85) rfl rfl fl_X10_88 rfl rfl rfl rfl ?_
                                            refine ev_iload rfl rfl rfl ?_
                                            refine ev_ialW (n := 12) (l := (-2147483648)) (u := 2147483647) hJ32216.1 b32225 (by decide) (by decide) (fun _ => rfl) rfl rfl rfl (fun v32228 b32228 e32228 => ?_)
                                            refine ev_iasW (n := 12) (l := (-2147483648)) (u := 2147483647) hJ32216 b32225 (by decide) (by decide) (fun _ => rfl) (B.any v32228) (by decide) (by decide) (fun _ => rfl) rfl rfl rfl rfl (fun h32229 hJ32229 k32229 => ?_)
                                            refine ev_iincB (y := 1) (l := 1) (u := 12) rfl rfl rfl (by decide) rfl rfl b32225 (by decide : B 1 1 1) (by decide) (by decide) (by decide) (by decide) (fun v32230 b32230 e32230 => ?_)
                                            dsimp only [List.set]
                                            have e32230x := e32230; rw [show (1 : Int32).toInt = 1 from by decide] at e32230x
                                            refine ev_goto rfl rfl ?_
                                            exact (ih292 v32230 h32229 (b32230.mono (by decide) (by decide)) hJ32229 (rd_a k32229 z32217 rfl) (rd_a k32229 z32218 rfl) (rd_a k32229 z32219 rfl) (rd_a k32229 z32220 rfl) (L_up hm292 (e_p1 e32230 (by decide))))
                                      exact (lp292_32212 13 0 h32084 ((by decide : B 0 0 0).mono (by decide) (by decide)) hJ32084 (rd_w k32084 z31772 rfl) (rd_w k32084 z31773 rfl) (rd_w k32084 z31774 rfl) (rd_w k32084 z31775 rfl) (L_init (by decide : B 0 0 0) (by decide)))
                                · have b32088 : B r32084 (-2147483648) (-1) := R_ltX (B.any r32084) (by decide : B 0 0 0) (Int32.not_le.mp c32085) (by decide)
                                  have z32089 := w_lt (Int32.not_le.mp c32085)
                                  rw [show (0 : Int32).toInt = 0 from by decide] at z32089
                                  refine ev_bipush (v := (-4)) rfl rfl (by decide) ?_
                                  refine ev_goto rfl rfl ?_
                                  refine ev_istore rfl rfl rfl rfl ?_
                                  dsimp only [List.set]
                                  refine ev_iload rfl rfl rfl ?_
                                  refine ev_if_lt rfl rfl (fun c32231 => ?_) (fun c32231 => absurd (D_lt (by decide : B (-4) (-4) (-4)) (by decide : B 0 0 0) (by decide)) c32231)
                                  have z32232 := w_lt c32231
                                  rw [show ((-4) : Int32).toInt = (-4) from by decide] at z32232
                                  rw [show (0 : Int32).toInt = 0 from by decide] at z32232
                                  refine ev_iincB (y := 1) (l := 0) (u := 0) rfl rfl rfl (by decide) rfl rfl b31929 (by decide : B 1 1 1) (by decide) (by decide) (by decide) (by decide) (fun v32233 b32233 e32233 => ?_)
                                  dsimp only [List.set]
                                  have e32233x := e32233; rw [show (1 : Int32).toInt = 1 from by decide] at e32233x
                                  refine ev_goto rfl rfl ?_
                                  exact (EvQ.drop 13 (EvQ.drop 12 (EvQ.drop 11 (ih199 w31764 w31765 v32233 h32084 b31767 b31768 (b32233.mono (by decide) (by decide)) hJ32084 (rd_w k32084 z31772 rfl) (rd_w k32084 z31773 rfl) (rd_w k32084 z31774 rfl) (rd_w k32084 z31775 rfl) (L_up hm199 (e_p1 e32233 (by decide)))))))
                        exact (lp199_31763 14 (-4) (-4) (-1) h29589 ((by decide : B (-4) (-4) (-4)).mono (by decide) (by decide)) ((by decide : B (-4) (-4) (-4)).mono (by decide) (by decide)) ((by decide : B (-1) (-1) (-1)).mono (by decide) (by decide)) hJ29590 z29591 z29592 z29593 e29595 (L_init (by decide : B (-1) (-1) (-1)) (by decide)))
                      · have b29598 : B w29587 0 23 := R_ltX b29588 b29595 (Int32.not_le.mp c29596) (by decide)
                        have b29599 : B v29595 1 24 := R_ltY b29588 b29595 (Int32.not_le.mp c29596) (by decide)
                        have z29600 := w_lt (Int32.not_le.mp c29596)
                        refine ev_aload_n rfl rfl rfl ?_
                        refine ev_iload_n rfl rfl rfl ?_
                        refine ev_iload rfl rfl rfl ?_
                        refine ev_V2P rfl rfl lk_X10_263 vt_X10_chordAt rfl rfl rfl rfl rfl (w_chordAtK L b h29589 hJ29590.1 a0 w29587 b7 b29598) (fun r32234 q32234 => ?_)
                        obtain ⟨b32234, pp32234_0⟩ := q32234
                        refine ev_if_eq rfl rfl (fun c32235 => ?_) (fun c32235 => ?_)
                        · have b32236 : B r32234 0 0 := R_eqX b32234 (by decide : B 0 0 0) c32235
                          have z32237 := congrArg Int32.toInt c32235
                          rw [show (0 : Int32).toInt = 0 from by decide] at z32237
                          refine ev_iincB (y := 1) (l := 1) (u := 24) rfl rfl rfl (by decide) rfl rfl b29598 (by decide : B 1 1 1) (by decide) (by decide) (by decide) (by decide) (fun v32240 b32240 e32240 => ?_)
                          dsimp only [List.set]
                          have e32240x := e32240; rw [show (1 : Int32).toInt = 1 from by decide] at e32240x
                          refine ev_goto rfl rfl ?_
                          exact (ih133 v32240 h29589 (b32240.mono (by decide) (by decide)) hJ29590 z29591 z29592 z29593 (IXP.step u133_0 b29598 e32240x (fun q_ => absurd (by rw [← hJ29590.2 74 _ rfl, ← pp32234_0]; exact c32235) q_)) (L_up hm133 (e_p1 e32240 (by decide))))
                        · have b32238 : B r32234 1 4095 := R_neL b32234 (by decide : B 0 0 0) c32235 (by decide)
                          have z32239 := w_ne c32235
                          rw [show (0 : Int32).toInt = 0 from by decide] at z32239
                          refine ev_iload rfl rfl rfl ?_
                          refine ev_i2l rfl rfl ?_
                          have z32241 := Int32.toInt_toInt64 a5
                          have z32241b := B.any a5
                          refine ev_iload rfl rfl rfl ?_
                          refine ev_i2l rfl rfl ?_
                          have z32242 := Int32.toInt_toInt64 w29587
                          have z32242b := B.any w29587
                          refine ev_ladd rfl rfl ?_
                          have z32243 := l_add (Int32.toInt64 a5) (Int32.toInt64 w29587) (by have z_ := l_lits; omega) (by have z_ := l_lits; omega) (by have z_ := l_lits; omega) (by have z_ := l_lits; omega)
                          refine ev_lconst (v := 0) rfl rfl rfl ?_
                          refine ev_aload_n rfl rfl rfl ?_
                          refine ev_getR (y := 93) rfl rfl fl_X10_115 rfl rfl rfl rfl ?_
                          refine ev_iload rfl rfl rfl ?_
                          refine ev_ialW (n := 4) (l := 0) (u := 60) hJ29590.1 b31 (by decide) (by decide) (fun _ => rfl) rfl rfl rfl (fun v32244 b32244 e32244 => ?_)
                          refine ev_iconst (v := 1) rfl rfl (by decide) ?_
                          refine ev_isubB (l := -1) (u := 59) rfl rfl b32244 (by decide : B 1 1 1) (by decide) (by decide) (by decide) (by decide) (fun v32245 b32245 e32245 g32245 => ?_)
                          have e32245x := e32245; rw [show (1 : Int32).toInt = 1 from by decide] at e32245x
                          refine ev_i2l rfl rfl ?_
                          have z32246 := Int32.toInt_toInt64 v32245
                          have z32246b := B.any v32245
                          refine ev_S3P rfl rfl lk_X10_124 st_X10_in rfl rfl (w_inIX L b h29589 a5 w29587 v32244 v32245 e32245x) (fun r32247 q32247 => ?_)
                          obtain ⟨b32247, pp32247_0⟩ := q32247
                          refine ev_if_ne rfl rfl (fun c32248 => ?_) (fun c32248 => ?_)
                          · have b32249 : B r32247 1 1 := R_neL b32247 (by decide : B 0 0 0) c32248 (by decide)
                            have z32250 := w_ne c32248
                            rw [show (0 : Int32).toInt = 0 from by decide] at z32250
                            refine ev_iincB (y := 1) (l := 1) (u := 24) rfl rfl rfl (by decide) rfl rfl b29598 (by decide : B 1 1 1) (by decide) (by decide) (by decide) (by decide) (fun v32253 b32253 e32253 => ?_)
                            dsimp only [List.set]
                            have e32253x := e32253; rw [show (1 : Int32).toInt = 1 from by decide] at e32253x
                            refine ev_goto rfl rfl ?_
                            exact (ih133 v32253 h29589 (b32253.mono (by decide) (by decide)) hJ29590 z29591 z29592 z29593 (IXP.step u133_0 b29598 e32253x (fun _ => by have q_ := pp32247_0 c32248; have q2_ := congrArg Int32.toInt e32244; have q3_ := congrArg Int32.toInt (hJ29590.2 93 (Int32.toNatClampNeg a3) rfl); omega)) (L_up hm133 (e_p1 e32253 (by decide))))
                          · have b32251 : B r32247 0 0 := R_eqX b32247 (by decide : B 0 0 0) c32248
                            have z32252 := congrArg Int32.toInt c32248
                            rw [show (0 : Int32).toInt = 0 from by decide] at z32252
                            refine ev_sipush (v := (-1012)) rfl rfl (by decide) ?_
                            exact ev_iret rfl rfl rfl ⟨⟨_, rfl, ((by decide : B (-1012) (-1012) (-1012)).mono (by decide) (by decide))⟩, rfl, hJ29590⟩
                  exact (lp133_29586 25 0 h ((by decide : B 0 0 0).mono (by decide) (by decide)) hJ0 ef1 e16424 e16440 (IXP.zero h a0 a3 a5) (L_init (by decide : B 0 0 0) (by decide)))
                · have z16444 := w_ne c16441
                  refine ev_sipush (v := (-1010)) rfl rfl (by decide) ?_
                  refine ev_aload_n rfl rfl rfl ?_
                  refine ev_getR (y := 92) rfl rfl fl_X10_112 rfl rfl rfl rfl ?_
                  refine ev_iload rfl rfl rfl ?_
                  refine ev_iadV (v := v16440) rfl rfl rfl (b31.vp (by decide) (by decide)) rfl e16440 ?_
                  refine ev_bipush (v := (-4)) rfl rfl (by decide) ?_
                  refine ev_icmp_ne rfl rfl (fun c32254 => ?_) (fun c32254 => ?_)
                  · have z32255 := w_ne c32254
                    rw [show ((-4) : Int32).toInt = (-4) from by decide] at z32255
                    refine ev_iconst (v := 3) rfl rfl (by decide) ?_
                    refine ev_isubB (l := -1013) (u := -1013) rfl rfl (by decide : B (-1010) (-1010) (-1010)) (by decide : B 3 3 3) (by decide) (by decide) (by decide) (by decide) (fun v32258 b32258 e32258 g32258 => ?_)
                    have e32258x := e32258; rw [show ((-1010) : Int32).toInt = (-1010) from by decide] at e32258x
                    have e32258xx := e32258x; rw [show (3 : Int32).toInt = 3 from by decide] at e32258xx
                    exact ev_iret rfl rfl rfl ⟨⟨_, rfl, (b32258.mono (by decide) (by decide))⟩, rfl, hJ0⟩
                  · have b32256 : B v16440 (-4) (-4) := R_eqX (B.any v16440) (by decide : B (-4) (-4) (-4)) c32254
                    have z32257 := congrArg Int32.toInt c32254
                    rw [show ((-4) : Int32).toInt = (-4) from by decide] at z32257
                    refine ev_iconst (v := 1) rfl rfl (by decide) ?_
                    refine ev_goto rfl rfl ?_
                    refine ev_isubB (l := -1011) (u := -1011) rfl rfl (by decide : B (-1010) (-1010) (-1010)) (by decide : B 1 1 1) (by decide) (by decide) (by decide) (by decide) (fun v32259 b32259 e32259 g32259 => ?_)
                    have e32259x := e32259; rw [show ((-1010) : Int32).toInt = (-1010) from by decide] at e32259x
                    have e32259xx := e32259x; rw [show (1 : Int32).toInt = 1 from by decide] at e32259xx
                    exact ev_iret rfl rfl rfl ⟨⟨_, rfl, (b32259.mono (by decide) (by decide))⟩, rfl, hJ0⟩
              · have b16438 : B r16434 0 0 := R_eqX b16434 (by decide : B 0 0 0) c16435
                have z16439 := congrArg Int32.toInt c16435
                rw [show (0 : Int32).toInt = 0 from by decide] at z16439
                refine ev_sipush (v := (-1002)) rfl rfl (by decide) ?_
                exact ev_iret rfl rfl rfl ⟨⟨_, rfl, ((by decide : B (-1002) (-1002) (-1002)).mono (by decide) (by decide))⟩, rfl, hJ0⟩
            · have b16432 : B r16427 0 0 := R_eqX b16427 (by decide : B 0 0 0) c16428
              have z16433 := congrArg Int32.toInt c16428
              rw [show (0 : Int32).toInt = 0 from by decide] at z16433
              refine ev_sipush (v := (-1000)) rfl rfl (by decide) ?_
              exact ev_iret rfl rfl rfl ⟨⟨_, rfl, ((by decide : B (-1000) (-1000) (-1000)).mono (by decide) (by decide))⟩, rfl, hJ0⟩

