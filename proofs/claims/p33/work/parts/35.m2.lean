set_option maxRecDepth 100000 in
set_option maxHeartbeats 4000000 in
theorem w_X10_isIn_63 (L : Nat) (b : Bool) (h : Hp) (hB : Bx h) (a0 : Int32) (p0 : B a0 0 5) (a1 : Int32) : EvP mi_X10_isIn [.ref 63, .int a0, .int a1] (G0 L b) h (fun r : Int32 => B r 0 1) := by
  refine EvM.of2 (lo := [some (.ref 63), some (.int a0), some (.int a1), none, none, none]) pf_X10_isIn ok_X10_isIn rfl rfl ?_
  refine ev_aload_n rfl rfl rfl ?_
  refine ev_iload_n rfl rfl rfl ?_
  refine ev_V1P rfl rfl lk_X10_273 vt_X10_allOf rfl rfl rfl rfl rfl (w_X10_allOf_63 L b h hB a0 p0) (fun r1 q1 => ?_)
  refine ev_istore_n rfl rfl rfl rfl ?_
  dsimp only [List.set]
  refine ev_iconst (v := 1) rfl rfl (by decide) ?_
  refine ev_istore rfl rfl rfl rfl ?_
  dsimp only [List.set]
  refine ev_iconst (v := 0) rfl rfl (by decide) ?_
  refine ev_istore rfl rfl rfl rfl ?_
  dsimp only [List.set]
  have lp12_110 : ∀ (n : Nat) (w111 : Int32) (w112 : Int32), B w111 0 1 → B w112 0 12 → 12 + 1 - w112.toInt ≤ (n : Int) → EvQ mi_X10_isIn 12 [some (.ref 63), some (.int a0), some (.int a1), some (.int r1), some (.int w111), some (.int w112)] [] (G0 L b) h 0 0 (QP (fun r : Int32 => B r 0 1) (G0 L b) h) := by
    intro n
    induction n with
    | zero =>
      intro w111 w112 b113 b114 hm12
      exact absurd hm12 (L_zero b114 (by decide))
    | succ n ih12 =>
      intro w111 w112 b113 b114 hm12
      refine ev_iload rfl rfl rfl ?_
      refine ev_bipush (v := 12) rfl rfl (by decide) ?_
      refine ev_icmp_ge rfl rfl (fun c115 => ?_) (fun c115 => ?_)
      · have b116 : B w112 12 12 := R_leY (by decide : B 12 12 12) b114 c115 (by decide)
        refine ev_iload rfl rfl rfl ?_
        exact ev_iret rfl rfl (ev_rtB b113) ⟨⟨_, rfl, b113⟩, rfl, rfl⟩
      · have b117 : B w112 0 11 := R_ltX b114 (by decide : B 12 12 12) (Int32.not_le.mp c115) (by decide)
        refine ev_iload rfl rfl rfl ?_
        refine ev_if_eq rfl rfl (fun c118 => ?_) (fun c118 => ?_)
        · have b119 : B w111 0 0 := R_eqX b113 (by decide : B 0 0 0) c118
          refine ev_iconst (v := 0) rfl rfl (by decide) ?_
          refine ev_istore rfl rfl rfl rfl ?_
          dsimp only [List.set]
          refine ev_iincB (y := 1) (l := 1) (u := 12) rfl rfl rfl (by decide) rfl rfl b117 (by decide : B 1 1 1) (by decide) (by decide) (by decide) (by decide) (fun v121 b121 e121 => ?_)
          dsimp only [List.set]
          refine ev_goto rfl rfl ?_
          exact (ih12 0 v121 ((by decide : B 0 0 0).mono (by decide) (by decide)) (b121.mono (by decide) (by decide)) (L_up hm12 (e_p1 e121 (by decide))))
        · have b120 : B w111 1 1 := R_neL b113 (by decide : B 0 0 0) c118 (by decide)
          refine ev_iload_n rfl rfl rfl ?_
          refine ev_iload rfl rfl rfl ?_
          refine ev_ishrA rfl rfl (fun v122 => ?_)
          refine ev_iconst (v := 1) rfl rfl (by decide) ?_
          refine ev_iandB rfl rfl (by decide : B 1 1 1) (by decide) (fun v123 b123 e123 => ?_)
          refine ev_if_eq rfl rfl (fun c124 => ?_) (fun c124 => ?_)
          · have b125 : B v123 0 0 := R_eqX b123 (by decide : B 0 0 0) c124
            refine ev_iconst (v := 1) rfl rfl (by decide) ?_
            refine ev_goto rfl rfl ?_
            refine ev_istore rfl rfl rfl rfl ?_
            dsimp only [List.set]
            refine ev_iincB (y := 1) (l := 1) (u := 12) rfl rfl rfl (by decide) rfl rfl b117 (by decide : B 1 1 1) (by decide) (by decide) (by decide) (by decide) (fun v127 b127 e127 => ?_)
            dsimp only [List.set]
            refine ev_goto rfl rfl ?_
            exact (ih12 1 v127 ((by decide : B 1 1 1).mono (by decide) (by decide)) (b127.mono (by decide) (by decide)) (L_up hm12 (e_p1 e127 (by decide))))
          · have b126 : B v123 1 1 := R_neL b123 (by decide : B 0 0 0) c124 (by decide)
            refine ev_aload_n rfl rfl rfl ?_
            refine ev_iload rfl rfl rfl ?_
            refine ev_iload_n rfl rfl rfl ?_
            refine ev_iaddA rfl rfl (fun v128 g128 => ?_)
            refine ev_V1P rfl rfl lk_X10_169 vt_X10_isWhistle rfl rfl rfl rfl rfl (w_X10_isWhistle_63 L b h hB v128) (fun r129 q129 => ?_)
            obtain ⟨b129, p129_0⟩ := q129
            refine ev_if_eq rfl rfl (fun c130 => ?_) (fun c130 => ?_)
            · have b131 : B r129 0 0 := R_eqX b129 (by decide : B 0 0 0) c130
              refine ev_iconst (v := 0) rfl rfl (by decide) ?_
              refine ev_istore rfl rfl rfl rfl ?_
              dsimp only [List.set]
              refine ev_iincB (y := 1) (l := 1) (u := 12) rfl rfl rfl (by decide) rfl rfl b117 (by decide : B 1 1 1) (by decide) (by decide) (by decide) (by decide) (fun v134 b134 e134 => ?_)
              dsimp only [List.set]
              refine ev_goto rfl rfl ?_
              exact (ih12 0 v134 ((by decide : B 0 0 0).mono (by decide) (by decide)) (b134.mono (by decide) (by decide)) (L_up hm12 (e_p1 e134 (by decide))))
            · have b132 : B r129 1 1 := R_neL b129 (by decide : B 0 0 0) c130 (by decide)
              have b133 : B v128 0 11 := p129_0 c130
              refine ev_iconst (v := 1) rfl rfl (by decide) ?_
              refine ev_goto rfl rfl ?_
              refine ev_istore rfl rfl rfl rfl ?_
              dsimp only [List.set]
              refine ev_iincB (y := 1) (l := 1) (u := 12) rfl rfl rfl (by decide) rfl rfl b117 (by decide : B 1 1 1) (by decide) (by decide) (by decide) (by decide) (fun v135 b135 e135 => ?_)
              dsimp only [List.set]
              refine ev_goto rfl rfl ?_
              exact (ih12 1 v135 ((by decide : B 1 1 1).mono (by decide) (by decide)) (b135.mono (by decide) (by decide)) (L_up hm12 (e_p1 e135 (by decide))))
  exact (lp12_110 13 1 0 ((by decide : B 1 1 1).mono (by decide) (by decide)) ((by decide : B 0 0 0).mono (by decide) (by decide)) (L_init (by decide : B 0 0 0) (by decide)))

