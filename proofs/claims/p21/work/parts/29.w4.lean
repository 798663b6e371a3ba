set_option maxRecDepth 100000 in
set_option maxHeartbeats 4000000 in
theorem w_X4_takeTune_37_28 (L : Nat) (b : Bool) (h : Hp) (hB : Bx h) (a0 : Int32) (p0 : B a0 0 5) (a1 : Int32) : EvN mi_X4_takeTune [.ref 37, .ref 28, .int a0, .int a1] (G0 L b) h [(37, 3), (39, 999)] := by
  refine EvM.of2 (lo := [some (.ref 37), some (.ref 28), some (.int a0), some (.int a1), none]) pf_X4_takeTune ok_X4_takeTune rfl rfl ?_
  have hJ0 : JW [(37, 3), (39, 999)] h h := JW.refl hB
  refine ev_aload_n rfl rfl rfl ?_
  refine ev_aload_n rfl rfl rfl ?_
  refine ev_getR (y := 36) rfl rfl fl_X4_62 rfl rfl rfl rfl ?_
  refine ev_iload_n rfl rfl rfl ?_
  refine ev_ialW (n := 6) (l := 0) (u := 24) hJ0.1 p0 (by decide) (by decide) (fun _ => rfl) rfl rfl rfl (fun v1 b1 e1 => ?_)
  refine ev_putW (l := 0) (u := 24) hJ0 rfl b1 (by decide) (by decide) rfl rfl rfl fl_X4_21 rfl rfl rfl rfl rfl (fun h2 hJ2 k2 => ?_)
  refine ev_iconst (v := 0) rfl rfl (by decide) ?_
  refine ev_istore rfl rfl rfl rfl ?_
  dsimp only [List.set]
  have lp13_46 : ∀ (n : Nat) (w47 : Int32) (h49 : Hp), B w47 0 24 → JW [(37, 3), (39, 999)] h h49 → (h49 36 (Int32.toNatClampNeg a0) = v1) → (h49 37 3 = v1) → 24 + 1 - w47.toInt ≤ (n : Int) → EvQ mi_X4_takeTune 13 [some (.ref 37), some (.ref 28), some (.int a0), some (.int a1), some (.int w47)] [] (G0 L b) h49 0 0 (QN [(37, 3), (39, 999)] (G0 L b) h) := by
    intro n
    induction n with
    | zero =>
      intro w47 h49 b48 hJ50 z51 z52 hm13
      exact absurd hm13 (L_zero b48 (by decide))
    | succ n ih13 =>
      intro w47 h49 b48 hJ50 z51 z52 hm13
      refine ev_iload rfl rfl rfl ?_
      refine ev_aload_n rfl rfl rfl ?_
      refine ev_getV (v := v1) rfl rfl fl_X4_21 rfl rfl rfl z52 ?_
      refine ev_icmp_ge rfl rfl (fun c53 => ?_) (fun c53 => ?_)
      · exact ev_vret rfl rfl trivial ⟨rfl, rfl, hJ50⟩
      · have b54 : B w47 0 23 := R_ltX b48 b1 (Int32.not_le.mp c53) (by decide)
        have b55 : B v1 1 24 := R_ltY b48 b1 (Int32.not_le.mp c53) (by decide)
        refine ev_aload_n rfl rfl rfl ?_
        refine ev_getR (y := 39) rfl rfl fl_X4_18 rfl rfl rfl rfl ?_
        refine ev_iload rfl rfl rfl ?_
        refine ev_aload_n rfl rfl rfl ?_
        refine ev_iload_n rfl rfl rfl ?_
        refine ev_iload rfl rfl rfl ?_
        refine ev_iload_n rfl rfl rfl ?_
        refine ev_V3P rfl rfl lk_X4_66 vt_X7_chordIn rfl rfl rfl rfl rfl (w_X7_chordIn_28 L b h49 hJ50.1 a0 p0 w47 b54 a1) (fun r56 q56 => ?_)
        refine ev_iasW (n := 24) (l := (-2147483648)) (u := 2147483647) hJ50 b54 (by decide) (by decide) (fun _ => rfl) (B.any r56) (by decide) (by decide) (fun _ => rfl) rfl rfl rfl rfl (fun h57 hJ57 k57 => ?_)
        refine ev_iincB (y := 1) (l := 1) (u := 24) rfl rfl rfl (by decide) rfl rfl b54 (by decide : B 1 1 1) (by decide) (by decide) (by decide) (by decide) (fun v58 b58 e58 => ?_)
        dsimp only [List.set]
        refine ev_goto rfl rfl ?_
        exact (ih13 v58 h57 (b58.mono (by decide) (by decide)) hJ57 (rd_a k57 z51 rfl) (rd_a k57 z52 rfl) (L_up hm13 (e_p1 e58 (by decide))))
  exact (lp13_46 25 0 h2 ((by decide : B 0 0 0).mono (by decide) (by decide)) hJ2 (rd_o k2 e1 rfl) (rd_s k2) (L_init (by decide : B 0 0 0) (by decide)))

set_option maxRecDepth 100000 in
set_option maxHeartbeats 4000000 in
theorem w_X4_isFor_37 (L : Nat) (b : Bool) (h : Hp) (hB : Bx h) (a0 : Int32) (a1 : Int32) (a2 : Int32) (a3 : Int32) (a4 : Int32) : EvP mi_X4_isFor [.ref 37, .int a0, .int a1, .int a2, .int a3, .int a4] (G0 L b) h (fun r : Int32 => B r 0 1) := by
  refine EvM.of2 (lo := [some (.ref 37), some (.int a0), some (.int a1), some (.int a2), some (.int a3), some (.int a4)]) pf_X4_isFor ok_X4_isFor rfl rfl ?_
  refine ev_aload_n rfl rfl rfl ?_
  refine ev_getW (l := (-2147483648)) (u := 2147483647) hB rfl rfl rfl fl_X4_58 rfl rfl rfl (fun v1 b1 e1 => ?_)
  refine ev_if_eq rfl rfl (fun c2 => ?_) (fun c2 => ?_)
  · have b3 : B v1 0 0 := R_eqX (B.any v1) (by decide : B 0 0 0) c2
    refine ev_iconst (v := 0) rfl rfl (by decide) ?_
    exact ev_iret rfl rfl rfl ⟨⟨_, rfl, ((by decide : B 0 0 0).mono (by decide) (by decide))⟩, rfl, rfl⟩
  · refine ev_aload_n rfl rfl rfl ?_
    refine ev_getR (y := 44) rfl rfl fl_X4_55 rfl rfl rfl rfl ?_
    refine ev_iconst (v := 0) rfl rfl (by decide) ?_
    refine ev_ialK (j := 0) (n := 5) (l := (-2147483648)) (u := 2147483647) hB (by decide : B 0 0 0) (by decide) (by decide) (by decide) rfl rfl rfl rfl (fun v4 b4 e4 => ?_)
    refine ev_iload_n rfl rfl rfl ?_
    refine ev_icmp_ne rfl rfl (fun c5 => ?_) (fun c5 => ?_)
    · refine ev_iconst (v := 0) rfl rfl (by decide) ?_
      exact ev_iret rfl rfl rfl ⟨⟨_, rfl, ((by decide : B 0 0 0).mono (by decide) (by decide))⟩, rfl, rfl⟩
    · refine ev_aload_n rfl rfl rfl ?_
      refine ev_getR (y := 44) rfl rfl fl_X4_55 rfl rfl rfl rfl ?_
      refine ev_iconst (v := 1) rfl rfl (by decide) ?_
      refine ev_ialK (j := 1) (n := 5) (l := (-2147483648)) (u := 2147483647) hB (by decide : B 1 1 1) (by decide) (by decide) (by decide) rfl rfl rfl rfl (fun v6 b6 e6 => ?_)
      refine ev_iload_n rfl rfl rfl ?_
      refine ev_icmp_ne rfl rfl (fun c7 => ?_) (fun c7 => ?_)
      · refine ev_iconst (v := 0) rfl rfl (by decide) ?_
        exact ev_iret rfl rfl rfl ⟨⟨_, rfl, ((by decide : B 0 0 0).mono (by decide) (by decide))⟩, rfl, rfl⟩
      · refine ev_aload_n rfl rfl rfl ?_
        refine ev_getR (y := 44) rfl rfl fl_X4_55 rfl rfl rfl rfl ?_
        refine ev_iconst (v := 2) rfl rfl (by decide) ?_
        refine ev_ialK (j := 2) (n := 5) (l := (-2147483648)) (u := 2147483647) hB (by decide : B 2 2 2) (by decide) (by decide) (by decide) rfl rfl rfl rfl (fun v8 b8 e8 => ?_)
        refine ev_iload_n rfl rfl rfl ?_
        refine ev_icmp_ne rfl rfl (fun c9 => ?_) (fun c9 => ?_)
        · refine ev_iconst (v := 0) rfl rfl (by decide) ?_
          exact ev_iret rfl rfl rfl ⟨⟨_, rfl, ((by decide : B 0 0 0).mono (by decide) (by decide))⟩, rfl, rfl⟩
        · refine ev_aload_n rfl rfl rfl ?_
          refine ev_getR (y := 44) rfl rfl fl_X4_55 rfl rfl rfl rfl ?_
          refine ev_iconst (v := 3) rfl rfl (by decide) ?_
          refine ev_ialK (j := 3) (n := 5) (l := (-2147483648)) (u := 2147483647) hB (by decide : B 3 3 3) (by decide) (by decide) (by decide) rfl rfl rfl rfl (fun v10 b10 e10 => ?_)
          refine ev_iload rfl rfl rfl ?_
          refine ev_icmp_ne rfl rfl (fun c11 => ?_) (fun c11 => ?_)
          · refine ev_iconst (v := 0) rfl rfl (by decide) ?_
            exact ev_iret rfl rfl rfl ⟨⟨_, rfl, ((by decide : B 0 0 0).mono (by decide) (by decide))⟩, rfl, rfl⟩
          · refine ev_aload_n rfl rfl rfl ?_
            refine ev_getR (y := 44) rfl rfl fl_X4_55 rfl rfl rfl rfl ?_
            refine ev_iconst (v := 4) rfl rfl (by decide) ?_
            refine ev_ialK (j := 4) (n := 5) (l := (-2147483648)) (u := 2147483647) hB (by decide : B 4 4 4) (by decide) (by decide) (by decide) rfl rfl rfl rfl (fun v12 b12 e12 => ?_)
            refine ev_iload rfl rfl rfl ?_
            refine ev_icmp_ne rfl rfl (fun c13 => ?_) (fun c13 => ?_)
            · refine ev_iconst (v := 0) rfl rfl (by decide) ?_
              exact ev_iret rfl rfl rfl ⟨⟨_, rfl, ((by decide : B 0 0 0).mono (by decide) (by decide))⟩, rfl, rfl⟩
            · refine ev_iconst (v := 1) rfl rfl (by decide) ?_
              refine ev_goto rfl rfl ?_
              exact ev_iret rfl rfl rfl ⟨⟨_, rfl, ((by decide : B 1 1 1).mono (by decide) (by decide))⟩, rfl, rfl⟩

set_option maxRecDepth 100000 in
set_option maxHeartbeats 4000000 in
theorem w_X4_remember_37 (L : Nat) (b : Bool) (h : Hp) (hB : Bx h) (a0 : Int32) (a1 : Int32) (a2 : Int32) (a3 : Int32) (a4 : Int32) : EvN mi_X4_remember [.ref 37, .int a0, .int a1, .int a2, .int a3, .int a4] (G0 L b) h [(37, 15), (44, 999)] := by
  refine EvM.of2 (lo := [some (.ref 37), some (.int a0), some (.int a1), some (.int a2), some (.int a3), some (.int a4)]) pf_X4_remember ok_X4_remember rfl rfl ?_
  have hJ0 : JW [(37, 15), (44, 999)] h h := JW.refl hB
  refine ev_aload_n rfl rfl rfl ?_
  refine ev_getR (y := 44) rfl rfl fl_X4_55 rfl rfl rfl rfl ?_
  refine ev_iconst (v := 0) rfl rfl (by decide) ?_
  refine ev_iload_n rfl rfl rfl ?_
  refine ev_iasW (n := 5) (l := (-2147483648)) (u := 2147483647) hJ0 (by decide : B 0 0 0) (by decide) (by decide) (fun _ => rfl) (B.any a0) (by decide) (by decide) (fun _ => rfl) rfl rfl rfl rfl (fun h1 hJ1 k1 => ?_)
  refine ev_aload_n rfl rfl rfl ?_
  refine ev_getR (y := 44) rfl rfl fl_X4_55 rfl rfl rfl rfl ?_
  refine ev_iconst (v := 1) rfl rfl (by decide) ?_
  refine ev_iload_n rfl rfl rfl ?_
  refine ev_iasW (n := 5) (l := (-2147483648)) (u := 2147483647) hJ1 (by decide : B 1 1 1) (by decide) (by decide) (fun _ => rfl) (B.any a1) (by decide) (by decide) (fun _ => rfl) rfl rfl rfl rfl (fun h2 hJ2 k2 => ?_)
  refine ev_aload_n rfl rfl rfl ?_
  refine ev_getR (y := 44) rfl rfl fl_X4_55 rfl rfl rfl rfl ?_
  refine ev_iconst (v := 2) rfl rfl (by decide) ?_
  refine ev_iload_n rfl rfl rfl ?_
  refine ev_iasW (n := 5) (l := (-2147483648)) (u := 2147483647) hJ2 (by decide : B 2 2 2) (by decide) (by decide) (fun _ => rfl) (B.any a2) (by decide) (by decide) (fun _ => rfl) rfl rfl rfl rfl (fun h3 hJ3 k3 => ?_)
  refine ev_aload_n rfl rfl rfl ?_
  refine ev_getR (y := 44) rfl rfl fl_X4_55 rfl rfl rfl rfl ?_
  refine ev_iconst (v := 3) rfl rfl (by decide) ?_
  refine ev_iload rfl rfl rfl ?_
  refine ev_iasW (n := 5) (l := (-2147483648)) (u := 2147483647) hJ3 (by decide : B 3 3 3) (by decide) (by decide) (fun _ => rfl) (B.any a3) (by decide) (by decide) (fun _ => rfl) rfl rfl rfl rfl (fun h4 hJ4 k4 => ?_)
  refine ev_aload_n rfl rfl rfl ?_
  refine ev_getR (y := 44) rfl rfl fl_X4_55 rfl rfl rfl rfl ?_
  refine ev_iconst (v := 4) rfl rfl (by decide) ?_
  refine ev_iload rfl rfl rfl ?_
  refine ev_iasW (n := 5) (l := (-2147483648)) (u := 2147483647) hJ4 (by decide : B 4 4 4) (by decide) (by decide) (fun _ => rfl) (B.any a4) (by decide) (by decide) (fun _ => rfl) rfl rfl rfl rfl (fun h5 hJ5 k5 => ?_)
  refine ev_aload_n rfl rfl rfl ?_
  refine ev_iconst (v := 1) rfl rfl (by decide) ?_
  refine ev_puzW (l := (-2147483648)) (u := 2147483647) hJ5 rfl ((by decide : B 1 1 1).mono (by decide) (by decide)) (by decide) (by decide) rfl rfl rfl fl_X4_58 rfl rfl rfl rfl rfl (fun h6 hJ6 k6 => ?_)
  exact ev_vret rfl rfl trivial ⟨rfl, rfl, hJ6⟩

set_option maxRecDepth 100000 in
set_option maxHeartbeats 4000000 in
theorem w_X4_markNear_37_4 (L : Nat) (b : Bool) (h : Hp) (hB : Bx h) (a0 : Int32) : EvN mi_X4_markNear [.ref 37, .ref 4, .int a0] (G0 L b) h [(38, 999)] := by
  refine EvM.of2 (lo := [some (.ref 37), some (.ref 4), some (.int a0), none, none]) pf_X4_markNear ok_X4_markNear rfl rfl ?_
  have hJ0 : JW [(38, 999)] h h := JW.refl hB
  refine ev_iconst (v := 0) rfl rfl (by decide) ?_
  refine ev_istore_n rfl rfl rfl rfl ?_
  dsimp only [List.set]
  have lp2_846 : ∀ (n : Nat) (w847 : Int32) (h849 : Hp), B w847 0 201 → JW [(38, 999)] h h849 → 201 + 1 - w847.toInt ≤ (n : Int) → EvQ mi_X4_markNear 2 [some (.ref 37), some (.ref 4), some (.int a0), some (.int w847), none] [] (G0 L b) h849 0 0 (QN [(38, 999)] (G0 L b) h) := by
    intro n
    induction n with
    | zero =>
      intro w847 h849 b848 hJ850 hm2
      exact absurd hm2 (L_zero b848 (by decide))
    | succ n ih2 =>
      intro w847 h849 b848 hJ850 hm2
      refine ev_iload_n rfl rfl rfl ?_
      refine ev_sipush (v := 201) rfl rfl (by decide) ?_
      refine ev_icmp_ge rfl rfl (fun c851 => ?_) (fun c851 => ?_)
      · have b852 : B w847 201 201 := R_leY (by decide : B 201 201 201) b848 c851 (by decide)
        exact ev_vret rfl rfl trivial ⟨rfl, rfl, hJ850⟩
      · have b853 : B w847 0 200 := R_ltX b848 (by decide : B 201 201 201) (Int32.not_le.mp c851) (by decide)
        refine ev_aload_n rfl rfl rfl ?_
        refine ev_getR (y := 38) rfl rfl fl_X4_15 rfl rfl rfl rfl ?_
        refine ev_iload_n rfl rfl rfl ?_
        refine ev_iconst (v := 0) rfl rfl (by decide) ?_
        refine ev_iasW (n := 201) (l := (-2147483648)) (u := 2147483647) hJ850 b853 (by decide) (by decide) (fun _ => rfl) (by decide : B 0 0 0) (by decide) (by decide) (fun _ => rfl) rfl rfl rfl rfl (fun h854 hJ854 k854 => ?_)
        refine ev_iconst (v := 0) rfl rfl (by decide) ?_
        refine ev_istore rfl rfl rfl rfl ?_
        dsimp only [List.set]
        have lp19_945 : ∀ (n : Nat) (w946 : Int32) (h948 : Hp), B w946 0 12 → JW [(38, 999)] h h948 → 12 + 1 - w946.toInt ≤ (n : Int) → EvQ mi_X4_markNear 19 [some (.ref 37), some (.ref 4), some (.int a0), some (.int w847), some (.int w946)] [] (G0 L b) h948 0 0 (QN [(38, 999)] (G0 L b) h) := by
          intro n
          induction n with
          | zero =>
            intro w946 h948 b947 hJ949 hm19
            exact absurd hm19 (L_zero b947 (by decide))
          | succ n ih19 =>
            intro w946 h948 b947 hJ949 hm19
            refine ev_iload rfl rfl rfl ?_
            refine ev_aload_n rfl rfl rfl ?_
            refine ev_getW (l := 0) (u := 12) hJ949.1 rfl rfl rfl fl_X4_107 rfl rfl rfl (fun v950 b950 e950 => ?_)
            refine ev_icmp_ge rfl rfl (fun c951 => ?_) (fun c951 => ?_)
            · refine ev_iincB (y := 1) (l := 1) (u := 201) rfl rfl rfl (by decide) rfl rfl b853 (by decide : B 1 1 1) (by decide) (by decide) (by decide) (by decide) (fun v954 b954 e954 => ?_)
              dsimp only [List.set]
              refine ev_goto rfl rfl ?_
              exact (EvQ.drop 4 (ih2 v954 h948 (b954.mono (by decide) (by decide)) hJ949 (L_up hm2 (e_p1 e954 (by decide)))))
            · have b952 : B w946 0 11 := R_ltX b947 b950 (Int32.not_le.mp c951) (by decide)
              have b953 : B v950 1 12 := R_ltY b947 b950 (Int32.not_le.mp c951) (by decide)
              refine ev_aload_n rfl rfl rfl ?_
              refine ev_getR (y := 38) rfl rfl fl_X4_15 rfl rfl rfl rfl ?_
              refine ev_iload_n rfl rfl rfl ?_
              refine ev_dup2 rfl rfl rfl rfl ?_
              refine ev_ialW (n := 201) (l := (-2147483648)) (u := 2147483647) hJ949.1 b853 (by decide) (by decide) (fun _ => rfl) rfl rfl rfl (fun v955 b955 e955 => ?_)
              refine ev_aload_n rfl rfl rfl ?_
              refine ev_iload rfl rfl rfl ?_
              refine ev_iload_n rfl rfl rfl ?_
              refine ev_iload_n rfl rfl rfl ?_
              refine ev_V3P rfl rfl lk_X4_110 vt_X8_isNear rfl rfl rfl rfl rfl (w_X8_isNear_4 L b h948 hJ949.1 w946 b952 w847 a0) (fun r956 q956 => ?_)
              refine ev_if_eq rfl rfl (fun c957 => ?_) (fun c957 => ?_)
              · have b958 : B r956 0 0 := R_eqX q956 (by decide : B 0 0 0) c957
                refine ev_iconst (v := 0) rfl rfl (by decide) ?_
                refine ev_iorA rfl rfl (fun v960 => ?_)
                refine ev_iasW (n := 201) (l := (-2147483648)) (u := 2147483647) hJ949 b853 (by decide) (by decide) (fun _ => rfl) (B.any v960) (by decide) (by decide) (fun _ => rfl) rfl rfl rfl rfl (fun h961 hJ961 k961 => ?_)
                refine ev_iincB (y := 1) (l := 1) (u := 12) rfl rfl rfl (by decide) rfl rfl b952 (by decide : B 1 1 1) (by decide) (by decide) (by decide) (by decide) (fun v962 b962 e962 => ?_)
                dsimp only [List.set]
                refine ev_goto rfl rfl ?_
                exact (ih19 v962 h961 (b962.mono (by decide) (by decide)) hJ961 (L_up hm19 (e_p1 e962 (by decide))))
              · have b959 : B r956 1 1 := R_neL q956 (by decide : B 0 0 0) c957 (by decide)
                refine ev_iconst (v := 1) rfl rfl (by decide) ?_
                refine ev_iload rfl rfl rfl ?_
                refine ev_ishlB rfl rfl b952 (by decide) (by decide) (fun v963 b963 => ?_)
                refine ev_goto rfl rfl ?_
                refine ev_iorA rfl rfl (fun v964 => ?_)
                refine ev_iasW (n := 201) (l := (-2147483648)) (u := 2147483647) hJ949 b853 (by decide) (by decide) (fun _ => rfl) (B.any v964) (by decide) (by decide) (fun _ => rfl) rfl rfl rfl rfl (fun h965 hJ965 k965 => ?_)
                refine ev_iincB (y := 1) (l := 1) (u := 12) rfl rfl rfl (by decide) rfl rfl b952 (by decide : B 1 1 1) (by decide) (by decide) (by decide) (by decide) (fun v966 b966 e966 => ?_)
                dsimp only [List.set]
                refine ev_goto rfl rfl ?_
                exact (ih19 v966 h965 (b966.mono (by decide) (by decide)) hJ965 (L_up hm19 (e_p1 e966 (by decide))))
        exact (lp19_945 13 0 h854 ((by decide : B 0 0 0).mono (by decide) (by decide)) hJ854 (L_init (by decide : B 0 0 0) (by decide)))
  exact (lp2_846 202 0 h ((by decide : B 0 0 0).mono (by decide) (by decide)) hJ0 (L_init (by decide : B 0 0 0) (by decide)))

set_option maxRecDepth 100000 in
set_option maxHeartbeats 4000000 in
theorem w_X4_listOptions_37_4 (L : Nat) (b : Bool) (h : Hp) (hB : Bx h) (a0 : Int32) : EvK mi_X4_listOptions [.ref 37, .ref 4, .int a0] (G0 L b) h (fun z : Hp => B (z 37 7) 1 32) [(37, 7), (40, 999), (41, 999)] := by
  refine EvM.of2 (lo := [some (.ref 37), some (.ref 4), some (.int a0), none, none]) pf_X4_listOptions ok_X4_listOptions rfl rfl ?_
  have hJ0 : JW [(37, 7), (40, 999), (41, 999)] h h := JW.refl hB
  refine ev_aload_n rfl rfl rfl ?_
  refine ev_iconst (v := 0) rfl rfl (by decide) ?_
  refine ev_putW (l := 0) (u := 32) hJ0 rfl (by decide : B 0 0 0) (by decide) (by decide) rfl rfl rfl fl_X4_34 rfl rfl rfl rfl rfl (fun h1 hJ1 k1 => ?_)
  refine ev_iload_n rfl rfl rfl ?_
  refine ev_istore_n rfl rfl rfl rfl ?_
  dsimp only [List.set]
  refine ev_iconst (v := 0) rfl rfl (by decide) ?_
  refine ev_istore rfl rfl rfl rfl ?_
  dsimp only [List.set]
  refine ev_aload_n rfl rfl rfl ?_
  refine ev_getV (v := 0) rfl rfl fl_X4_34 rfl rfl rfl (rd_s k1) ?_
  refine ev_bipush (v := 32) rfl rfl (by decide) ?_
  refine ev_icmp_ge rfl rfl (fun c2 => absurd c2 (D_nle (by decide : B 32 32 32) (by decide : B 0 0 0) (by decide))) (fun c2 => ?_)
  refine ev_iload rfl rfl rfl ?_
  refine ev_if_ne rfl rfl (fun c3 => absurd (D_eq (by decide : B 0 0 0) (by decide : B 0 0 0)) c3) (fun c3 => ?_)
  refine ev_aload_n rfl rfl rfl ?_
  refine ev_getR (y := 40) rfl rfl fl_X4_28 rfl rfl rfl rfl ?_
  refine ev_aload_n rfl rfl rfl ?_
  refine ev_getV (v := 0) rfl rfl fl_X4_34 rfl rfl rfl (rd_s k1) ?_
  refine ev_iload_n rfl rfl rfl ?_
  refine ev_iasW (n := 32) (l := (-2147483648)) (u := 2147483647) hJ1 (by decide : B 0 0 0) (by decide) (by decide) (fun _ => rfl) (B.any a0) (by decide) (by decide) (fun _ => rfl) rfl rfl rfl rfl (fun h4 hJ4 k4 => ?_)
  refine ev_aload_n rfl rfl rfl ?_
  refine ev_getR (y := 41) rfl rfl fl_X4_31 rfl rfl rfl rfl ?_
  refine ev_aload_n rfl rfl rfl ?_
  refine ev_getV (v := 0) rfl rfl fl_X4_34 rfl rfl rfl (rd_a k4 (rd_s k1) rfl) ?_
  refine ev_aload_n rfl rfl rfl ?_
  refine ev_iload_n rfl rfl rfl ?_
  refine ev_aload_n rfl rfl rfl ?_
  refine ev_getW (l := (-2147483648)) (u := 2147483647) hJ4.1 rfl rfl rfl fl_X4_71 rfl rfl rfl (fun v5 b5 e5 => ?_)
  refine ev_V2P rfl rfl lk_X4_76 vt_X8_drawnBy rfl rfl rfl rfl rfl (w_X8_drawnBy_4 L b h4 hJ4.1 a0 v5) (fun r6 q6 => ?_)
  refine ev_iasW (n := 32) (l := (-2147483648)) (u := 2147483647) hJ4 (by decide : B 0 0 0) (by decide) (by decide) (fun _ => rfl) (B.any r6) (by decide) (by decide) (fun _ => rfl) rfl rfl rfl rfl (fun h7 hJ7 k7 => ?_)
  refine ev_aload_n rfl rfl rfl ?_
  refine ev_dup rfl rfl rfl ?_
  refine ev_getV (v := 0) rfl rfl fl_X4_34 rfl rfl rfl (rd_a k7 (rd_a k4 (rd_s k1) rfl) rfl) ?_
  refine ev_iconst (v := 1) rfl rfl (by decide) ?_
  refine ev_iaddB (l := 1) (u := 1) rfl rfl (by decide : B 0 0 0) (by decide : B 1 1 1) (by decide) (by decide) (by decide) (by decide) (fun v8 b8 e8 g8 => ?_)
  refine ev_putW (l := 0) (u := 32) hJ7 rfl b8 (by decide) (by decide) rfl rfl rfl fl_X4_34 rfl rfl rfl rfl rfl (fun h9 hJ9 k9 => ?_)
  refine ev_iload_n rfl rfl rfl ?_
  refine ev_if_ne rfl rfl (fun c10 => ?_) (fun c10 => ?_)
  · refine ev_iconst (v := 0) rfl rfl (by decide) ?_
    refine ev_istore rfl rfl rfl rfl ?_
    dsimp only [List.set]
    refine ev_iload_n rfl rfl rfl ?_
    refine ev_iconst (v := 1) rfl rfl (by decide) ?_
    refine ev_isubA rfl rfl (fun v12 g12 => ?_)
    refine ev_iload_n rfl rfl rfl ?_
    refine ev_iandA rfl rfl (fun v13 => ?_)
    refine ev_istore_n rfl rfl rfl rfl ?_
    dsimp only [List.set]
    refine ev_goto rfl rfl ?_
    have lp10_93 : ∀ (n : Nat) (w94 : Int32) (w95 : Int32) (h97 : Hp), B w95 0 1 → JW [(37, 7), (40, 999), (41, 999)] h h97 → (h97 4 6 = v5) → (B (h97 37 7) 1 32) → 32 + 1 - (h97 37 7).toInt ≤ (n : Int) → EvQ mi_X4_listOptions 10 [some (.ref 37), some (.ref 4), some (.int a0), some (.int w94), some (.int w95)] [] (G0 L b) h97 0 0 (QK (fun z : Hp => B (z 37 7) 1 32) [(37, 7), (40, 999), (41, 999)] (G0 L b) h) := by
      intro n
      induction n with
      | zero =>
        intro w94 w95 h97 b96 hJ98 z99 x10_f hm10
        obtain ⟨f100, ef100⟩ : ∃ f_, h97 37 7 = f_ := ⟨_, rfl⟩
        have bf100 : B f100 1 32 := by
          have z_ := x10_f
          rw [ef100] at z_
          exact z_
        rw [ef100] at hm10
        exact absurd hm10 (L_zero bf100 (by decide))
      | succ n ih10 =>
        intro w94 w95 h97 b96 hJ98 z99 x10_f hm10
        obtain ⟨f100, ef100⟩ : ∃ f_, h97 37 7 = f_ := ⟨_, rfl⟩
        have bf100 : B f100 1 32 := by
          have z_ := x10_f
          rw [ef100] at z_
          exact z_
        rw [ef100] at hm10
        refine ev_aload_n rfl rfl rfl ?_
        refine ev_getV (v := f100) rfl rfl fl_X4_34 rfl rfl rfl ef100 ?_
        refine ev_bipush (v := 32) rfl rfl (by decide) ?_
        refine ev_icmp_ge rfl rfl (fun c101 => ?_) (fun c101 => ?_)
        · have b102 : B f100 32 32 := R_leY (by decide : B 32 32 32) bf100 c101 (by decide)
          exact ev_vret rfl rfl trivial ⟨rfl, rfl, hJ98, B.at ef100 (b102.mono (by decide) (by decide))⟩
        · have b103 : B f100 1 31 := R_ltX bf100 (by decide : B 32 32 32) (Int32.not_le.mp c101) (by decide)
          refine ev_iload rfl rfl rfl ?_
          refine ev_if_ne rfl rfl (fun c104 => ?_) (fun c104 => ?_)
          · have b105 : B w95 1 1 := R_neL b96 (by decide : B 0 0 0) c104 (by decide)
            exact ev_vret rfl rfl trivial ⟨rfl, rfl, hJ98, B.at ef100 (b103.mono (by decide) (by decide))⟩
          · have b106 : B w95 0 0 := R_eqX b96 (by decide : B 0 0 0) c104
            refine ev_aload_n rfl rfl rfl ?_
            refine ev_getR (y := 40) rfl rfl fl_X4_28 rfl rfl rfl rfl ?_
            refine ev_aload_n rfl rfl rfl ?_
            refine ev_getV (v := f100) rfl rfl fl_X4_34 rfl rfl rfl ef100 ?_
            refine ev_iload_n rfl rfl rfl ?_
            refine ev_iasW (n := 32) (l := (-2147483648)) (u := 2147483647) hJ98 b103 (by decide) (by decide) (fun _ => rfl) (B.any w94) (by decide) (by decide) (fun _ => rfl) rfl rfl rfl rfl (fun h107 hJ107 k107 => ?_)
            refine ev_aload_n rfl rfl rfl ?_
            refine ev_getR (y := 41) rfl rfl fl_X4_31 rfl rfl rfl rfl ?_
            refine ev_aload_n rfl rfl rfl ?_
            refine ev_getV (v := f100) rfl rfl fl_X4_34 rfl rfl rfl (rd_a k107 ef100 rfl) ?_
            refine ev_aload_n rfl rfl rfl ?_
            refine ev_iload_n rfl rfl rfl ?_
            refine ev_aload_n rfl rfl rfl ?_
            refine ev_getV (v := v5) rfl rfl fl_X4_71 rfl rfl rfl (rd_a k107 z99 rfl) ?_
            refine ev_V2P rfl rfl lk_X4_76 vt_X8_drawnBy rfl rfl rfl rfl rfl (w_X8_drawnBy_4 L b h107 hJ107.1 w94 v5) (fun r108 q108 => ?_)
            refine ev_iasW (n := 32) (l := (-2147483648)) (u := 2147483647) hJ107 b103 (by decide) (by decide) (fun _ => rfl) (B.any r108) (by decide) (by decide) (fun _ => rfl) rfl rfl rfl rfl (fun h109 hJ109 k109 => ?_)
            refine ev_aload_n rfl rfl rfl ?_
            refine ev_dup rfl rfl rfl ?_
            refine ev_getV (v := f100) rfl rfl fl_X4_34 rfl rfl rfl (rd_a k109 (rd_a k107 ef100 rfl) rfl) ?_
            refine ev_iconst (v := 1) rfl rfl (by decide) ?_
            refine ev_iaddB (l := 2) (u := 32) rfl rfl b103 (by decide : B 1 1 1) (by decide) (by decide) (by decide) (by decide) (fun v110 b110 e110 g110 => ?_)
            refine ev_putW (l := 0) (u := 32) hJ109 rfl b110 (by decide) (by decide) rfl rfl rfl fl_X4_34 rfl rfl rfl rfl rfl (fun h111 hJ111 k111 => ?_)
            refine ev_iload_n rfl rfl rfl ?_
            refine ev_if_ne rfl rfl (fun c112 => ?_) (fun c112 => ?_)
            · refine ev_iconst (v := 0) rfl rfl (by decide) ?_
              refine ev_istore rfl rfl rfl rfl ?_
              dsimp only [List.set]
              refine ev_iload_n rfl rfl rfl ?_
              refine ev_iconst (v := 1) rfl rfl (by decide) ?_
              refine ev_isubA rfl rfl (fun v114 g114 => ?_)
              refine ev_iload_n rfl rfl rfl ?_
              refine ev_iandA rfl rfl (fun v115 => ?_)
              refine ev_istore_n rfl rfl rfl rfl ?_
              dsimp only [List.set]
              refine ev_goto rfl rfl ?_
              exact (ih10 v115 0 h111 ((by decide : B 0 0 0).mono (by decide) (by decide)) hJ111 (rd_o k111 (rd_a k109 (rd_a k107 z99 rfl) rfl) rfl) (B.at (rd_s k111) (b110.mono (by decide) (by decide))) (by rw [(rd_s k111)]; exact L_up hm10 (e_p1 e110 (by decide))))
            · have b113 : B w94 0 0 := R_eqX (B.any w94) (by decide : B 0 0 0) c112
              refine ev_iconst (v := 1) rfl rfl (by decide) ?_
              refine ev_goto rfl rfl ?_
              refine ev_istore rfl rfl rfl rfl ?_
              dsimp only [List.set]
              refine ev_iload_n rfl rfl rfl ?_
              refine ev_iconst (v := 1) rfl rfl (by decide) ?_
              refine ev_isubB (l := -1) (u := -1) rfl rfl b113 (by decide : B 1 1 1) (by decide) (by decide) (by decide) (by decide) (fun v116 b116 e116 g116 => ?_)
              refine ev_iload_n rfl rfl rfl ?_
              refine ev_iandA rfl rfl (fun v117 => ?_)
              refine ev_istore_n rfl rfl rfl rfl ?_
              dsimp only [List.set]
              refine ev_goto rfl rfl ?_
              exact (ih10 v117 1 h111 ((by decide : B 1 1 1).mono (by decide) (by decide)) hJ111 (rd_o k111 (rd_a k109 (rd_a k107 z99 rfl) rfl) rfl) (B.at (rd_s k111) (b110.mono (by decide) (by decide))) (by rw [(rd_s k111)]; exact L_up hm10 (e_p1 e110 (by decide))))
    exact (lp10_93 32 v13 0 h9 ((by decide : B 0 0 0).mono (by decide) (by decide)) hJ9 (rd_o k9 (rd_a k7 e5 rfl) rfl) (B.at (rd_s k9) (b8.mono (by decide) (by decide))) (by rw [(rd_s k9)]; exact L_init b8 (by decide)))
  · have b11 : B a0 0 0 := R_eqX (B.any a0) (by decide : B 0 0 0) c10
    refine ev_iconst (v := 1) rfl rfl (by decide) ?_
    refine ev_goto rfl rfl ?_
    refine ev_istore rfl rfl rfl rfl ?_
    dsimp only [List.set]
    refine ev_iload_n rfl rfl rfl ?_
    refine ev_iconst (v := 1) rfl rfl (by decide) ?_
    refine ev_isubB (l := -1) (u := -1) rfl rfl b11 (by decide : B 1 1 1) (by decide) (by decide) (by decide) (by decide) (fun v118 b118 e118 g118 => ?_)
    refine ev_iload_n rfl rfl rfl ?_
    refine ev_iandB rfl rfl b11 (by decide) (fun v119 b119 e119 => ?_)
    refine ev_istore_n rfl rfl rfl rfl ?_
    dsimp only [List.set]
    refine ev_goto rfl rfl ?_
    have lp10_141 : ∀ (n : Nat) (w142 : Int32) (w143 : Int32) (h146 : Hp), B w142 0 0 → B w143 1 1 → JW [(37, 7), (40, 999), (41, 999)] h h146 → (h146 4 6 = v5) → (B (h146 37 7) 1 32) → 32 + 1 - (h146 37 7).toInt ≤ (n : Int) → EvQ mi_X4_listOptions 10 [some (.ref 37), some (.ref 4), some (.int a0), some (.int w142), some (.int w143)] [] (G0 L b) h146 0 0 (QK (fun z : Hp => B (z 37 7) 1 32) [(37, 7), (40, 999), (41, 999)] (G0 L b) h) := by
      intro n
      induction n with
      | zero =>
        intro w142 w143 h146 b144 b145 hJ147 z148 x10_f hm10
        obtain ⟨f149, ef149⟩ : ∃ f_, h146 37 7 = f_ := ⟨_, rfl⟩
        have bf149 : B f149 1 32 := by
          have z_ := x10_f
          rw [ef149] at z_
          exact z_
        rw [ef149] at hm10
        exact absurd hm10 (L_zero bf149 (by decide))
      | succ n ih10 =>
        intro w142 w143 h146 b144 b145 hJ147 z148 x10_f hm10
        obtain ⟨f149, ef149⟩ : ∃ f_, h146 37 7 = f_ := ⟨_, rfl⟩
        have bf149 : B f149 1 32 := by
          have z_ := x10_f
          rw [ef149] at z_
          exact z_
        rw [ef149] at hm10
        refine ev_aload_n rfl rfl rfl ?_
        refine ev_getV (v := f149) rfl rfl fl_X4_34 rfl rfl rfl ef149 ?_
        refine ev_bipush (v := 32) rfl rfl (by decide) ?_
        refine ev_icmp_ge rfl rfl (fun c150 => ?_) (fun c150 => ?_)
        · have b151 : B f149 32 32 := R_leY (by decide : B 32 32 32) bf149 c150 (by decide)
          exact ev_vret rfl rfl trivial ⟨rfl, rfl, hJ147, B.at ef149 (b151.mono (by decide) (by decide))⟩
        · have b152 : B f149 1 31 := R_ltX bf149 (by decide : B 32 32 32) (Int32.not_le.mp c150) (by decide)
          refine ev_iload rfl rfl rfl ?_
          refine ev_if_ne rfl rfl (fun c153 => ?_) (fun c153 => absurd c153 (D_ne b145 (by decide : B 0 0 0) (by decide)))
          exact ev_vret rfl rfl trivial ⟨rfl, rfl, hJ147, B.at ef149 (b152.mono (by decide) (by decide))⟩
    exact (lp10_141 32 v119 1 h9 b119 (by decide : B 1 1 1) hJ9 (rd_o k9 (rd_a k7 e5 rfl) rfl) (B.at (rd_s k9) (b8.mono (by decide) (by decide))) (by rw [(rd_s k9)]; exact L_init b8 (by decide)))

set_option maxRecDepth 100000 in
set_option maxHeartbeats 4000000 in
theorem w_X4_isOpen_37 (L : Nat) (b : Bool) (h : Hp) (hB : Bx h) (a0 : Int32) (p0 : B a0 0 31) (a1 : Int32) (p1 : B a1 0 200) : EvP mi_X4_isOpen [.ref 37, .int a0, .int a1] (G0 L b) h (fun r : Int32 => B r 0 1) := by
  refine EvM.of2 (lo := [some (.ref 37), some (.int a0), some (.int a1)]) pf_X4_isOpen ok_X4_isOpen rfl rfl ?_
  refine ev_aload_n rfl rfl rfl ?_
  refine ev_getR (y := 40) rfl rfl fl_X4_28 rfl rfl rfl rfl ?_
  refine ev_iload_n rfl rfl rfl ?_
  refine ev_ialW (n := 32) (l := (-2147483648)) (u := 2147483647) hB p0 (by decide) (by decide) (fun _ => rfl) rfl rfl rfl (fun v1 b1 e1 => ?_)
  refine ev_aload_n rfl rfl rfl ?_
  refine ev_getR (y := 38) rfl rfl fl_X4_15 rfl rfl rfl rfl ?_
  refine ev_iload_n rfl rfl rfl ?_
  refine ev_ialW (n := 201) (l := (-2147483648)) (u := 2147483647) hB p1 (by decide) (by decide) (fun _ => rfl) rfl rfl rfl (fun v2 b2 e2 => ?_)
  refine ev_iconst (v := (-1)) rfl rfl (by decide) ?_
  refine ev_ixorA rfl rfl (fun v3 => ?_)
  refine ev_iandA rfl rfl (fun v4 => ?_)
  refine ev_if_ne rfl rfl (fun c5 => ?_) (fun c5 => ?_)
  · refine ev_iconst (v := 0) rfl rfl (by decide) ?_
    exact ev_iret rfl rfl rfl ⟨⟨_, rfl, ((by decide : B 0 0 0).mono (by decide) (by decide))⟩, rfl, rfl⟩
  · have b6 : B v4 0 0 := R_eqX (B.any v4) (by decide : B 0 0 0) c5
    refine ev_iconst (v := 1) rfl rfl (by decide) ?_
    refine ev_goto rfl rfl ?_
    exact ev_iret rfl rfl rfl ⟨⟨_, rfl, ((by decide : B 1 1 1).mono (by decide) (by decide))⟩, rfl, rfl⟩

set_option maxRecDepth 100000 in
set_option maxHeartbeats 4000000 in
theorem w_X4_raise_37 (L : Nat) (h : Hp) (hB : Bx h) (a0 : Int32) (p0 : B a0 0 45216) (a1 : Int32) (p1 : B a1 0 45216) (a2 : Int32) : EvN mi_X4_raise [.ref 37, .int a0, .int a1, .int a2] (G0 L true) h [(95, 999)] := by
  refine EvM.of2 (lo := [some (.ref 37), some (.int a0), some (.int a1), some (.int a2), none, none]) pf_X4_raise ok_X4_raise rfl rfl ?_
  have hJ0 : JW [(95, 999)] h h := JW.refl hB
  refine ev_iconst (v := 0) rfl rfl (by decide) ?_
  refine ev_istore rfl rfl rfl rfl ?_
  dsimp only [List.set]
  have lp3_97 : ∀ (n : Nat) (w98 : Int32) (h100 : Hp), B w98 0 9 → JW [(95, 999)] h h100 → 9 + 1 - w98.toInt ≤ (n : Int) → EvQ mi_X4_raise 3 [some (.ref 37), some (.int a0), some (.int a1), some (.int a2), some (.int w98), none] [] (G0 L true) h100 0 0 (QN [(95, 999)] (G0 L true) h) := by
    intro n
    induction n with
    | zero =>
      intro w98 h100 b99 hJ101 hm3
      exact absurd hm3 (L_zero b99 (by decide))
    | succ n ih3 =>
      intro w98 h100 b99 hJ101 hm3
      refine ev_iload rfl rfl rfl ?_
      refine ev_aload_n rfl rfl rfl ?_
      refine ev_getW (l := 0) (u := 9) hJ101.1 rfl rfl rfl fl_X4_25 rfl rfl rfl (fun v102 b102 e102 => ?_)
      refine ev_icmp_ge rfl rfl (fun c103 => ?_) (fun c103 => ?_)
      · exact ev_vret rfl rfl trivial ⟨rfl, rfl, hJ101⟩
      · have b104 : B w98 0 8 := R_ltX b99 b102 (Int32.not_le.mp c103) (by decide)
        have b105 : B v102 1 9 := R_ltY b99 b102 (Int32.not_le.mp c103) (by decide)
        refine ev_iload_n rfl rfl rfl ?_
        refine ev_aload_n rfl rfl rfl ?_
        refine ev_getR (y := 95) rfl rfl fl_X4_9 rfl rfl rfl rfl ?_
        refine ev_iload_n rfl rfl rfl ?_
        refine ev_iload rfl rfl rfl ?_
        refine ev_iaddB (l := 0) (u := 45224) rfl rfl p1 b104 (by decide) (by decide) (by decide) (by decide) (fun v106 b106 e106 g106 => ?_)
        refine ev_ialW (n := 45225) (l := (-2147483648)) (u := 2147483647) hJ101.1 b106 (by decide) (by decide) (fun _ => rfl) rfl rfl rfl (fun v107 b107 e107 => ?_)
        refine ev_iaddA rfl rfl (fun v108 g108 => ?_)
        refine ev_istore rfl rfl rfl rfl ?_
        dsimp only [List.set]
        refine ev_iload rfl rfl rfl ?_
        refine ev_aload_n rfl rfl rfl ?_
        refine ev_getR (y := 95) rfl rfl fl_X4_9 rfl rfl rfl rfl ?_
        refine ev_iload_n rfl rfl rfl ?_
        refine ev_iload rfl rfl rfl ?_
        refine ev_iaddB (l := 0) (u := 45224) rfl rfl p0 b104 (by decide) (by decide) (by decide) (by decide) (fun v109 b109 e109 g109 => ?_)
        refine ev_ialW (n := 45225) (l := (-2147483648)) (u := 2147483647) hJ101.1 b109 (by decide) (by decide) (fun _ => rfl) rfl rfl rfl (fun v110 b110 e110 => ?_)
        refine ev_icmp_le rfl rfl (fun c111 => ?_) (fun c111 => ?_)
        · refine ev_iincB (y := 1) (l := 1) (u := 9) rfl rfl rfl (by decide) rfl rfl b104 (by decide : B 1 1 1) (by decide) (by decide) (by decide) (by decide) (fun v114 b114 e114 => ?_)
          dsimp only [List.set]
          refine ev_goto rfl rfl ?_
          exact (EvQ.drop 5 (ih3 v114 h100 (b114.mono (by decide) (by decide)) hJ101 (L_up hm3 (e_p1 e114 (by decide)))))
        · have b112 : B v108 (-2147483647) 2147483647 := R_ltY (B.any v110) (B.any v108) (Int32.not_le.mp c111) (by decide)
          have b113 : B v110 (-2147483648) 2147483646 := R_ltX (B.any v110) (B.any v108) (Int32.not_le.mp c111) (by decide)
          refine ev_aload_n rfl rfl rfl ?_
          refine ev_getR (y := 95) rfl rfl fl_X4_9 rfl rfl rfl rfl ?_
          refine ev_iload_n rfl rfl rfl ?_
          refine ev_iload rfl rfl rfl ?_
          refine ev_iaddV g109 rfl rfl ?_
          refine ev_iload rfl rfl rfl ?_
          refine ev_iasW (n := 45225) (l := (-2147483648)) (u := 2147483647) hJ101 b109 (by decide) (by decide) (fun _ => rfl) b112 (by decide) (by decide) (fun _ => rfl) rfl rfl rfl rfl (fun h115 hJ115 k115 => ?_)
          refine ev_iincB (y := 1) (l := 1) (u := 9) rfl rfl rfl (by decide) rfl rfl b104 (by decide : B 1 1 1) (by decide) (by decide) (by decide) (by decide) (fun v116 b116 e116 => ?_)
          dsimp only [List.set]
          refine ev_goto rfl rfl ?_
          exact (EvQ.drop 5 (ih3 v116 h115 (b116.mono (by decide) (by decide)) hJ115 (L_up hm3 (e_p1 e116 (by decide)))))
  exact (lp3_97 10 0 h ((by decide : B 0 0 0).mono (by decide) (by decide)) hJ0 (L_init (by decide : B 0 0 0) (by decide)))

set_option maxRecDepth 100000 in
set_option maxHeartbeats 4000000 in
theorem w_X4_cell_v0_24_v0_200 (L : Nat) (b : Bool) (h : Hp) (hB : Bx h) (a0 : Int32) (p0 : B a0 0 24) (a1 : Int32) (p1 : B a1 0 200) : EvP mi_X4_cell [.int a0, .int a1] (G0 L b) h (fun r : Int32 => B r 0 45216 ∧ (r.toInt = (a0.toInt * 201 + a1.toInt) * 9)) := by
  refine EvM.of2 (lo := [some (.int a0), some (.int a1)]) pf_X4_cell ok_X4_cell rfl rfl ?_
  obtain ⟨f1, ef1⟩ : ∃ f_, h 2 3 = f_ := ⟨_, rfl⟩
  have bf1 : B f1 0 200 := by have z_ := hB 2 3; rw [ef1] at z_; exact z_
  have zf1 := congrArg Int32.toInt ef1
  refine ev_iload_n rfl rfl rfl ?_
  refine ev_sipush (v := 201) rfl rfl (by decide) ?_
  refine ev_imulB (l := 0) (u := 4824) rfl rfl p0 (by decide : B 201 201 201) (by decide) (by decide) (by decide) (by decide) (by decide) (fun v2 b2 e2 g2 => ?_)
  rw [show (201 : Int32).toInt = 201 from by decide] at e2
  refine ev_iload_n rfl rfl rfl ?_
  refine ev_iaddB (l := 0) (u := 5024) rfl rfl b2 p1 (by decide) (by decide) (by decide) (by decide) (fun v3 b3 e3 g3 => ?_)
  refine ev_bipush (v := 9) rfl rfl (by decide) ?_
  refine ev_imulB (l := 0) (u := 45216) rfl rfl b3 (by decide : B 9 9 9) (by decide) (by decide) (by decide) (by decide) (by decide) (fun v4 b4 e4 g4 => ?_)
  rw [show (9 : Int32).toInt = 9 from by decide] at e4
  exact ev_iret rfl rfl rfl ⟨⟨_, rfl, ⟨b4, (by have z0_ := congrArg Int32.toInt ef1; have z_ := w_lits; have zl_ := l_lits; omega)⟩⟩, rfl, rfl⟩

set_option maxRecDepth 100000 in
set_option maxHeartbeats 4000000 in
theorem w_X4_worthOf_37_2 (L : Nat) (h : Hp) (hB : Bx h) (a0 : Int32) (p0 : B a0 0 23) (a1 : Int32) (p1 : B a1 0 200) (a2 : Int32) (p2 : B a2 0 8) (a3 : Int32) (p3 : B a3 0 31) : EvP mi_X4_worthOf [.ref 37, .ref 2, .int a0, .int a1, .int a2, .int a3] (G0 L true) h (fun r : Int32 => B r (-2147483648) 2147483647) := by
  refine EvM.of2 (lo := [some (.ref 37), some (.ref 2), some (.int a0), some (.int a1), some (.int a2), some (.int a3)]) pf_X4_worthOf ok_X4_worthOf rfl rfl ?_
  refine ev_bipush (v := 9) rfl rfl (by decide) ?_
  refine ev_aload_n rfl rfl rfl ?_
  refine ev_getR (y := 40) rfl rfl fl_X4_28 rfl rfl rfl rfl ?_
  refine ev_iload rfl rfl rfl ?_
  refine ev_ialW (n := 32) (l := (-2147483648)) (u := 2147483647) hB p3 (by decide) (by decide) (fun _ => rfl) rfl rfl rfl (fun v1 b1 e1 => ?_)
  refine ev_S1P rfl rfl lk_X4_123 st_J6_bitCount_0f7a4 rfl rfl (w_any (c_bitCount (G0 L true) h v1)) (fun r2 q2 => ?_)
  refine ev_imulA rfl rfl (fun v3 => ?_)
  refine ev_aload_n rfl rfl rfl ?_
  refine ev_getR (y := 95) rfl rfl fl_X4_9 rfl rfl rfl rfl ?_
  refine ev_iload_n rfl rfl rfl ?_
  refine ev_iconst (v := 1) rfl rfl (by decide) ?_
  refine ev_iaddB (l := 1) (u := 24) rfl rfl p0 (by decide : B 1 1 1) (by decide) (by decide) (by decide) (by decide) (fun v4 b4 e4 g4 => ?_)
  refine ev_aload_n rfl rfl rfl ?_
  refine ev_iload_n rfl rfl rfl ?_
  refine ev_aload_n rfl rfl rfl ?_
  refine ev_getR (y := 41) rfl rfl fl_X4_31 rfl rfl rfl rfl ?_
  refine ev_iload rfl rfl rfl ?_
  refine ev_ialW (n := 32) (l := (-2147483648)) (u := 2147483647) hB p3 (by decide) (by decide) (fun _ => rfl) rfl rfl rfl (fun v5 b5 e5 => ?_)
  refine ev_V2P rfl rfl lk_X4_129 vt_X1_after rfl rfl rfl rfl rfl (w_X1_after_2 L true h hB a1 v5) (fun r6 q6 => ?_)
  refine ev_S2P rfl rfl lk_X4_84 st_X4_cell rfl rfl (w_X4_cell_v0_24_v0_200 L true h hB v4 (b4.mono (by decide) (by decide)) r6 q6) (fun r7 q7 => ?_)
  obtain ⟨b7, pp7_0⟩ := q7
  refine ev_iload rfl rfl rfl ?_
  refine ev_iaddB (l := 0) (u := 45224) rfl rfl b7 p2 (by decide) (by decide) (by decide) (by decide) (fun v8 b8 e8 g8 => ?_)
  refine ev_ialW (n := 45225) (l := (-2147483648)) (u := 2147483647) hB b8 (by decide) (by decide) (fun _ => rfl) rfl rfl rfl (fun v9 b9 e9 => ?_)
  refine ev_iaddA rfl rfl (fun v10 g10 => ?_)
  exact ev_iret rfl rfl rfl ⟨⟨_, rfl, (B.any v10)⟩, rfl, rfl⟩

set_option maxRecDepth 100000 in
set_option maxHeartbeats 4000000 in
theorem w_X4_bestOption_37_2 (L : Nat) (h : Hp) (hB : Bx h) (a0 : Int32) (p0 : B a0 0 23) (a1 : Int32) (p1 : B a1 0 200) (a2 : Int32) (p2 : B a2 0 8) (q0 : B (h 37 7) 1 32) : EvP mi_X4_bestOption [.ref 37, .ref 2, .int a0, .int a1, .int a2] (G0 L true) h (fun r : Int32 => B r 0 31) := by
  refine EvM.of2 (lo := [some (.ref 37), some (.ref 2), some (.int a0), some (.int a1), some (.int a2), none, none, none, none]) pf_X4_bestOption ok_X4_bestOption rfl rfl ?_
  obtain ⟨f0, ef0⟩ : ∃ f_, h 37 7 = f_ := ⟨_, rfl⟩
  rw [ef0] at q0
  refine ev_aload_n rfl rfl rfl ?_
  refine ev_getV (v := f0) rfl rfl fl_X4_34 rfl rfl rfl ef0 ?_
  refine ev_iconst (v := 1) rfl rfl (by decide) ?_
  refine ev_isubB (l := 0) (u := 31) rfl rfl q0 (by decide : B 1 1 1) (by decide) (by decide) (by decide) (by decide) (fun v1 b1 e1 g1 => ?_)
  refine ev_istore rfl rfl rfl rfl ?_
  dsimp only [List.set]
  refine ev_iconst (v := (-1)) rfl rfl (by decide) ?_
  refine ev_istore rfl rfl rfl rfl ?_
  dsimp only [List.set]
  refine ev_iconst (v := 0) rfl rfl (by decide) ?_
  refine ev_istore rfl rfl rfl rfl ?_
  dsimp only [List.set]
  have lp14_139 : ∀ (n : Nat) (w140 : Int32) (w141 : Int32) (w142 : Int32), B w140 0 31 → B w141 (-1) 2147483647 → B w142 0 32 → 32 + 1 - w142.toInt ≤ (n : Int) → EvQ mi_X4_bestOption 14 [some (.ref 37), some (.ref 2), some (.int a0), some (.int a1), some (.int a2), some (.int w140), some (.int w141), some (.int w142), none] [] (G0 L true) h 0 0 (QP (fun r : Int32 => B r 0 31) (G0 L true) h) := by
    intro n
    induction n with
    | zero =>
      intro w140 w141 w142 b143 b144 b145 hm14
      exact absurd hm14 (L_zero b145 (by decide))
    | succ n ih14 =>
      intro w140 w141 w142 b143 b144 b145 hm14
      refine ev_iload rfl rfl rfl ?_
      refine ev_aload_n rfl rfl rfl ?_
      refine ev_getV (v := f0) rfl rfl fl_X4_34 rfl rfl rfl ef0 ?_
      refine ev_icmp_ge rfl rfl (fun c146 => ?_) (fun c146 => ?_)
      · have b147 : B w142 1 32 := R_leY q0 b145 c146 (by decide)
        refine ev_iload rfl rfl rfl ?_
        exact ev_iret rfl rfl rfl ⟨⟨_, rfl, b143⟩, rfl, rfl⟩
      · have b148 : B w142 0 31 := R_ltX b145 q0 (Int32.not_le.mp c146) (by decide)
        refine ev_aload_n rfl rfl rfl ?_
        refine ev_iload rfl rfl rfl ?_
        refine ev_iload_n rfl rfl rfl ?_
        refine ev_V2P rfl rfl lk_X4_119 vt_X4_isOpen rfl rfl rfl rfl rfl (w_X4_isOpen_37 L true h hB w142 b148 a1 p1) (fun r149 q149 => ?_)
        refine ev_if_eq rfl rfl (fun c150 => ?_) (fun c150 => ?_)
        · have b151 : B r149 0 0 := R_eqX q149 (by decide : B 0 0 0) c150
          refine ev_iincB (y := 1) (l := 1) (u := 32) rfl rfl rfl (by decide) rfl rfl b148 (by decide : B 1 1 1) (by decide) (by decide) (by decide) (by decide) (fun v153 b153 e153 => ?_)
          dsimp only [List.set]
          refine ev_goto rfl rfl ?_
          exact (ih14 w140 w141 v153 b143 b144 (b153.mono (by decide) (by decide)) (L_up hm14 (e_p1 e153 (by decide))))
        · have b152 : B r149 1 1 := R_neL q149 (by decide : B 0 0 0) c150 (by decide)
          refine ev_aload_n rfl rfl rfl ?_
          refine ev_aload_n rfl rfl rfl ?_
          refine ev_iload_n rfl rfl rfl ?_
          refine ev_iload_n rfl rfl rfl ?_
          refine ev_iload rfl rfl rfl ?_
          refine ev_iload rfl rfl rfl ?_
          refine ev_V5P rfl rfl lk_X4_148 vt_X4_worthOf rfl rfl rfl rfl rfl (w_X4_worthOf_37_2 L h hB a0 p0 a1 p1 a2 p2 w142 b148) (fun r154 q154 => ?_)
          refine ev_istore rfl rfl rfl rfl ?_
          dsimp only [List.set]
          refine ev_iload rfl rfl rfl ?_
          refine ev_iload rfl rfl rfl ?_
          refine ev_icmp_le rfl rfl (fun c155 => ?_) (fun c155 => ?_)
          · refine ev_iincB (y := 1) (l := 1) (u := 32) rfl rfl rfl (by decide) rfl rfl b148 (by decide : B 1 1 1) (by decide) (by decide) (by decide) (by decide) (fun v158 b158 e158 => ?_)
            dsimp only [List.set]
            refine ev_goto rfl rfl ?_
            exact (EvQ.drop 8 (ih14 w140 w141 v158 b143 b144 (b158.mono (by decide) (by decide)) (L_up hm14 (e_p1 e158 (by decide)))))
          · have b156 : B r154 0 2147483647 := R_ltY b144 (B.any r154) (Int32.not_le.mp c155) (by decide)
            have b157 : B w141 (-1) 2147483646 := R_ltX b144 (B.any r154) (Int32.not_le.mp c155) (by decide)
            refine ev_iload rfl rfl rfl ?_
            refine ev_istore rfl rfl rfl rfl ?_
            dsimp only [List.set]
            refine ev_iload rfl rfl rfl ?_
            refine ev_istore rfl rfl rfl rfl ?_
            dsimp only [List.set]
            refine ev_iincB (y := 1) (l := 1) (u := 32) rfl rfl rfl (by decide) rfl rfl b148 (by decide : B 1 1 1) (by decide) (by decide) (by decide) (by decide) (fun v159 b159 e159 => ?_)
            dsimp only [List.set]
            refine ev_goto rfl rfl ?_
            exact (EvQ.drop 8 (ih14 w142 r154 v159 b148 (b156.mono (by decide) (by decide)) (b159.mono (by decide) (by decide)) (L_up hm14 (e_p1 e159 (by decide)))))
  exact (lp14_139 33 v1 (-1) 0 b1 ((by decide : B (-1) (-1) (-1)).mono (by decide) (by decide)) ((by decide : B 0 0 0).mono (by decide) (by decide)) (L_init (by decide : B 0 0 0) (by decide)))

set_option maxRecDepth 100000 in
set_option maxHeartbeats 4000000 in
theorem w_X4_cell_v0_24_v0_0 (L : Nat) (b : Bool) (h : Hp) (hB : Bx h) (a0 : Int32) (p0 : B a0 0 24) (a1 : Int32) (p1 : B a1 0 0) : EvP mi_X4_cell [.int a0, .int a1] (G0 L b) h (fun r : Int32 => B r 0 43416 ∧ (r.toInt = (a0.toInt * 201 + a1.toInt) * 9)) := by
  refine EvM.of2 (lo := [some (.int a0), some (.int a1)]) pf_X4_cell ok_X4_cell rfl rfl ?_
  obtain ⟨f1, ef1⟩ : ∃ f_, h 2 3 = f_ := ⟨_, rfl⟩
  have bf1 : B f1 0 200 := by have z_ := hB 2 3; rw [ef1] at z_; exact z_
  have zf1 := congrArg Int32.toInt ef1
  refine ev_iload_n rfl rfl rfl ?_
  refine ev_sipush (v := 201) rfl rfl (by decide) ?_
  refine ev_imulB (l := 0) (u := 4824) rfl rfl p0 (by decide : B 201 201 201) (by decide) (by decide) (by decide) (by decide) (by decide) (fun v2 b2 e2 g2 => ?_)
  rw [show (201 : Int32).toInt = 201 from by decide] at e2
  refine ev_iload_n rfl rfl rfl ?_
  refine ev_iaddB (l := 0) (u := 4824) rfl rfl b2 p1 (by decide) (by decide) (by decide) (by decide) (fun v3 b3 e3 g3 => ?_)
  refine ev_bipush (v := 9) rfl rfl (by decide) ?_
  refine ev_imulB (l := 0) (u := 43416) rfl rfl b3 (by decide : B 9 9 9) (by decide) (by decide) (by decide) (by decide) (by decide) (fun v4 b4 e4 g4 => ?_)
  rw [show (9 : Int32).toInt = 9 from by decide] at e4
  exact ev_iret rfl rfl rfl ⟨⟨_, rfl, ⟨b4, (by have z0_ := congrArg Int32.toInt ef1; have z_ := w_lits; have zl_ := l_lits; omega)⟩⟩, rfl, rfl⟩

set_option maxRecDepth 100000 in
set_option maxHeartbeats 4000000 in
theorem w_X4_fillSounding_37_2 (L : Nat) (h : Hp) (hB : Bx h) (a0 : Int32) (p0 : B a0 0 23) : EvN mi_X4_fillSounding [.ref 37, .ref 2, .int a0] (G0 L true) h [(95, 999)] := by
  refine EvM.of2 (lo := [some (.ref 37), some (.ref 2), some (.int a0), none, none, none, none]) pf_X4_fillSounding ok_X4_fillSounding rfl rfl ?_
  have hJ0 : JW [(95, 999)] h h := JW.refl hB
  refine ev_iconst (v := 0) rfl rfl (by decide) ?_
  refine ev_istore_n rfl rfl rfl rfl ?_
  dsimp only [List.set]
  have lp2_9125 : ∀ (n : Nat) (w9126 : Int32) (h9128 : Hp), B w9126 0 201 → JW [(95, 999)] h h9128 → 201 + 1 - w9126.toInt ≤ (n : Int) → EvQ mi_X4_fillSounding 2 [some (.ref 37), some (.ref 2), some (.int a0), some (.int w9126), none, none, none] [] (G0 L true) h9128 0 0 (QN [(95, 999)] (G0 L true) h) := by
    intro n
    induction n with
    | zero =>
      intro w9126 h9128 b9127 hJ9129 hm2
      exact absurd hm2 (L_zero b9127 (by decide))
    | succ n ih2 =>
      intro w9126 h9128 b9127 hJ9129 hm2
      refine ev_iload_n rfl rfl rfl ?_
      refine ev_aload_n rfl rfl rfl ?_
      refine ev_getW (l := 0) (u := 200) hJ9129.1 rfl rfl rfl fl_X4_114 rfl rfl rfl (fun v9130 b9130 e9130 => ?_)
      refine ev_icmp_gt rfl rfl (fun c9131 => ?_) (fun c9131 => ?_)
      · have b9132 : B w9126 1 201 := R_ltY b9130 b9127 c9131 (by decide)
        exact ev_vret rfl rfl trivial ⟨rfl, rfl, hJ9129⟩
      · have b9133 : B w9126 0 200 := R_leX b9127 b9130 (Int32.not_lt.mp c9131) (by decide)
        refine ev_iload_n rfl rfl rfl ?_
        refine ev_iload_n rfl rfl rfl ?_
        refine ev_S2P rfl rfl lk_X4_84 st_X4_cell rfl rfl (w_X4_cell_v0_24_v0_200 L true h9128 hJ9129.1 a0 (p0.mono (by decide) (by decide)) w9126 b9133) (fun r9134 q9134 => ?_)
        obtain ⟨b9134, pp9134_0⟩ := q9134
        refine ev_istore rfl rfl rfl rfl ?_
        dsimp only [List.set]
        refine ev_iconst (v := 0) rfl rfl (by decide) ?_
        refine ev_istore rfl rfl rfl rfl ?_
        dsimp only [List.set]
        have lp20_10143 : ∀ (n : Nat) (w10144 : Int32) (h10146 : Hp), B w10144 0 9 → JW [(95, 999)] h h10146 → (h10146 2 3 = v9130) → 9 + 1 - w10144.toInt ≤ (n : Int) → EvQ mi_X4_fillSounding 20 [some (.ref 37), some (.ref 2), some (.int a0), some (.int w9126), some (.int r9134), some (.int w10144), none] [] (G0 L true) h10146 0 0 (QN [(95, 999)] (G0 L true) h) := by
          intro n
          induction n with
          | zero =>
            intro w10144 h10146 b10145 hJ10147 z10148 hm20
            exact absurd hm20 (L_zero b10145 (by decide))
          | succ n ih20 =>
            intro w10144 h10146 b10145 hJ10147 z10148 hm20
            refine ev_iload rfl rfl rfl ?_
            refine ev_aload_n rfl rfl rfl ?_
            refine ev_getW (l := 0) (u := 9) hJ10147.1 rfl rfl rfl fl_X4_25 rfl rfl rfl (fun v10149 b10149 e10149 => ?_)
            refine ev_icmp_ge rfl rfl (fun c10150 => ?_) (fun c10150 => ?_)
            · refine ev_iconst (v := 0) rfl rfl (by decide) ?_
              refine ev_istore rfl rfl rfl rfl ?_
              dsimp only [List.set]
              have lp49_10313 : ∀ (n : Nat) (w10314 : Int32) (h10316 : Hp), B w10314 0 32 → JW [(95, 999)] h h10316 → (h10316 2 3 = v9130) → (h10316 37 4 = v10149) → 32 + 1 - w10314.toInt ≤ (n : Int) → EvQ mi_X4_fillSounding 49 [some (.ref 37), some (.ref 2), some (.int a0), some (.int w9126), some (.int r9134), some (.int w10314), none] [] (G0 L true) h10316 0 0 (QN [(95, 999)] (G0 L true) h) := by
                intro n
                induction n with
                | zero =>
                  intro w10314 h10316 b10315 hJ10317 z10318 z10319 hm49
                  exact absurd hm49 (L_zero b10315 (by decide))
                | succ n ih49 =>
                  intro w10314 h10316 b10315 hJ10317 z10318 z10319 hm49
                  refine ev_iload rfl rfl rfl ?_
                  refine ev_aload_n rfl rfl rfl ?_
                  refine ev_getW (l := 0) (u := 32) hJ10317.1 rfl rfl rfl fl_X4_34 rfl rfl rfl (fun v10320 b10320 e10320 => ?_)
                  refine ev_icmp_ge rfl rfl (fun c10321 => ?_) (fun c10321 => ?_)
                  · refine ev_iincB (y := 1) (l := 1) (u := 201) rfl rfl rfl (by decide) rfl rfl b9133 (by decide : B 1 1 1) (by decide) (by decide) (by decide) (by decide) (fun v10324 b10324 e10324 => ?_)
                    dsimp only [List.set]
                    refine ev_goto rfl rfl ?_
                    exact (EvQ.drop 5 (EvQ.drop 4 (ih2 v10324 h10316 (b10324.mono (by decide) (by decide)) hJ10317 (L_up hm2 (e_p1 e10324 (by decide))))))
                  · have b10322 : B w10314 0 31 := R_ltX b10315 b10320 (Int32.not_le.mp c10321) (by decide)
                    have b10323 : B v10320 1 32 := R_ltY b10315 b10320 (Int32.not_le.mp c10321) (by decide)
                    refine ev_aload_n rfl rfl rfl ?_
                    refine ev_iload rfl rfl rfl ?_
                    refine ev_iload_n rfl rfl rfl ?_
                    refine ev_V2P rfl rfl lk_X4_119 vt_X4_isOpen rfl rfl rfl rfl rfl (w_X4_isOpen_37 L true h10316 hJ10317.1 w10314 b10322 w9126 b9133) (fun r10325 q10325 => ?_)
                    refine ev_if_eq rfl rfl (fun c10326 => ?_) (fun c10326 => ?_)
                    · have b10327 : B r10325 0 0 := R_eqX q10325 (by decide : B 0 0 0) c10326
                      refine ev_iincB (y := 1) (l := 1) (u := 32) rfl rfl rfl (by decide) rfl rfl b10322 (by decide : B 1 1 1) (by decide) (by decide) (by decide) (by decide) (fun v10329 b10329 e10329 => ?_)
                      dsimp only [List.set]
                      refine ev_goto rfl rfl ?_
                      exact (ih49 v10329 h10316 (b10329.mono (by decide) (by decide)) hJ10317 z10318 z10319 (L_up hm49 (e_p1 e10329 (by decide))))
                    · have b10328 : B r10325 1 1 := R_neL q10325 (by decide : B 0 0 0) c10326 (by decide)
                      refine ev_bipush (v := 9) rfl rfl (by decide) ?_
                      refine ev_aload_n rfl rfl rfl ?_
                      refine ev_getR (y := 40) rfl rfl fl_X4_28 rfl rfl rfl rfl ?_
                      refine ev_iload rfl rfl rfl ?_
                      refine ev_ialW (n := 32) (l := (-2147483648)) (u := 2147483647) hJ10317.1 b10322 (by decide) (by decide) (fun _ => rfl) rfl rfl rfl (fun v10330 b10330 e10330 => ?_)
                      refine ev_S1P rfl rfl lk_X4_123 st_J6_bitCount_0f7a4 rfl rfl (w_any (c_bitCount (G0 L true) h10316 v10330)) (fun r10331 q10331 => ?_)
                      refine ev_imulA rfl rfl (fun v10332 => ?_)
                      refine ev_istore rfl rfl rfl rfl ?_
                      dsimp only [List.set]
                      refine ev_aload_n rfl rfl rfl ?_
                      refine ev_iload rfl rfl rfl ?_
                      refine ev_iload_n rfl rfl rfl ?_
                      refine ev_iconst (v := 1) rfl rfl (by decide) ?_
                      refine ev_iaddB (l := 1) (u := 24) rfl rfl p0 (by decide : B 1 1 1) (by decide) (by decide) (by decide) (by decide) (fun v10333 b10333 e10333 g10333 => ?_)
                      refine ev_aload_n rfl rfl rfl ?_
                      refine ev_iload_n rfl rfl rfl ?_
                      refine ev_aload_n rfl rfl rfl ?_
                      refine ev_getR (y := 41) rfl rfl fl_X4_31 rfl rfl rfl rfl ?_
                      refine ev_iload rfl rfl rfl ?_
                      refine ev_ialW (n := 32) (l := (-2147483648)) (u := 2147483647) hJ10317.1 b10322 (by decide) (by decide) (fun _ => rfl) rfl rfl rfl (fun v10334 b10334 e10334 => ?_)
                      refine ev_V2P rfl rfl lk_X4_129 vt_X1_after rfl rfl rfl rfl rfl (w_X1_after_2 L true h10316 hJ10317.1 w9126 v10334) (fun r10335 q10335 => ?_)
                      refine ev_S2P rfl rfl lk_X4_84 st_X4_cell rfl rfl (w_X4_cell_v0_24_v0_200 L true h10316 hJ10317.1 v10333 (b10333.mono (by decide) (by decide)) r10335 q10335) (fun r10336 q10336 => ?_)
                      obtain ⟨b10336, pp10336_0⟩ := q10336
                      refine ev_iload rfl rfl rfl ?_
                      refine ev_V3N hJ10317 rfl rfl rfl lk_X4_132 vt_X4_raise rfl rfl rfl rfl rfl (w_X4_raise_37 L h10316 hJ10317.1 r9134 b9134 r10336 b10336 v10332) (fun h10337 hJ10337 k10337  => ?_)
                      refine ev_iincB (y := 1) (l := 1) (u := 32) rfl rfl rfl (by decide) rfl rfl b10322 (by decide : B 1 1 1) (by decide) (by decide) (by decide) (by decide) (fun v10338 b10338 e10338 => ?_)
                      dsimp only [List.set]
                      refine ev_goto rfl rfl ?_
                      exact (EvQ.drop 6 (ih49 v10338 h10337 (b10338.mono (by decide) (by decide)) hJ10337 (rd_w k10337 z10318 rfl) (rd_w k10337 z10319 rfl) (L_up hm49 (e_p1 e10338 (by decide)))))
              exact (lp49_10313 33 0 h10146 ((by decide : B 0 0 0).mono (by decide) (by decide)) hJ10147 z10148 e10149 (L_init (by decide : B 0 0 0) (by decide)))
            · have b10151 : B w10144 0 8 := R_ltX b10145 b10149 (Int32.not_le.mp c10150) (by decide)
              have b10152 : B v10149 1 9 := R_ltY b10145 b10149 (Int32.not_le.mp c10150) (by decide)
              refine ev_aload_n rfl rfl rfl ?_
              refine ev_getR (y := 95) rfl rfl fl_X4_9 rfl rfl rfl rfl ?_
              refine ev_iload rfl rfl rfl ?_
              refine ev_iload rfl rfl rfl ?_
              refine ev_iaddB (l := 0) (u := 45224) rfl rfl b9134 b10151 (by decide) (by decide) (by decide) (by decide) (fun v10339 b10339 e10339 g10339 => ?_)
              refine ev_iconst (v := 0) rfl rfl (by decide) ?_
              refine ev_iasW (n := 45225) (l := (-2147483648)) (u := 2147483647) hJ10147 b10339 (by decide) (by decide) (fun _ => rfl) (by decide : B 0 0 0) (by decide) (by decide) (fun _ => rfl) rfl rfl rfl rfl (fun h10340 hJ10340 k10340 => ?_)
              refine ev_iincB (y := 1) (l := 1) (u := 9) rfl rfl rfl (by decide) rfl rfl b10151 (by decide : B 1 1 1) (by decide) (by decide) (by decide) (by decide) (fun v10341 b10341 e10341 => ?_)
              dsimp only [List.set]
              refine ev_goto rfl rfl ?_
              exact (ih20 v10341 h10340 (b10341.mono (by decide) (by decide)) hJ10340 (rd_a k10340 z10148 rfl) (L_up hm20 (e_p1 e10341 (by decide))))
        exact (lp20_10143 10 0 h9128 ((by decide : B 0 0 0).mono (by decide) (by decide)) hJ9129 e9130 (L_init (by decide : B 0 0 0) (by decide)))
  exact (lp2_9125 202 0 h ((by decide : B 0 0 0).mono (by decide) (by decide)) hJ0 (L_init (by decide : B 0 0 0) (by decide)))

set_option maxRecDepth 100000 in
set_option maxHeartbeats 4000000 in
theorem w_X4_fillResting_37_2 (L : Nat) (h : Hp) (hB : Bx h) (a0 : Int32) (p0 : B a0 0 23) : EvN mi_X4_fillResting [.ref 37, .ref 2, .int a0] (G0 L true) h [(95, 999)] := by
  refine EvM.of2 (lo := [some (.ref 37), some (.ref 2), some (.int a0), none, none, none, none]) pf_X4_fillResting ok_X4_fillResting rfl rfl ?_
  have hJ0 : JW [(95, 999)] h h := JW.refl hB
  refine ev_iconst (v := 1) rfl rfl (by decide) ?_
  refine ev_istore_n rfl rfl rfl rfl ?_
  dsimp only [List.set]
  have lp2_866 : ∀ (n : Nat) (w867 : Int32) (h869 : Hp), B w867 1 9 → JW [(95, 999)] h h869 → 9 + 1 - w867.toInt ≤ (n : Int) → EvQ mi_X4_fillResting 2 [some (.ref 37), some (.ref 2), some (.int a0), some (.int w867), none, none, none] [] (G0 L true) h869 0 0 (QN [(95, 999)] (G0 L true) h) := by
    intro n
    induction n with
    | zero =>
      intro w867 h869 b868 hJ870 hm2
      exact absurd hm2 (L_zero b868 (by decide))
    | succ n ih2 =>
      intro w867 h869 b868 hJ870 hm2
      refine ev_iload_n rfl rfl rfl ?_
      refine ev_aload_n rfl rfl rfl ?_
      refine ev_getW (l := 0) (u := 9) hJ870.1 rfl rfl rfl fl_X4_25 rfl rfl rfl (fun v871 b871 e871 => ?_)
      refine ev_icmp_ge rfl rfl (fun c872 => ?_) (fun c872 => ?_)
      · exact ev_vret rfl rfl trivial ⟨rfl, rfl, hJ870⟩
      · have b873 : B w867 1 8 := R_ltX b868 b871 (Int32.not_le.mp c872) (by decide)
        have b874 : B v871 2 9 := R_ltY b868 b871 (Int32.not_le.mp c872) (by decide)
        refine ev_iconst (v := 0) rfl rfl (by decide) ?_
        refine ev_istore rfl rfl rfl rfl ?_
        dsimp only [List.set]
        have lp13_1043 : ∀ (n : Nat) (w1044 : Int32) (h1046 : Hp), B w1044 0 201 → JW [(95, 999)] h h1046 → (h1046 37 4 = v871) → 201 + 1 - w1044.toInt ≤ (n : Int) → EvQ mi_X4_fillResting 13 [some (.ref 37), some (.ref 2), some (.int a0), some (.int w867), some (.int w1044), none, none] [] (G0 L true) h1046 0 0 (QN [(95, 999)] (G0 L true) h) := by
          intro n
          induction n with
          | zero =>
            intro w1044 h1046 b1045 hJ1047 z1048 hm13
            exact absurd hm13 (L_zero b1045 (by decide))
          | succ n ih13 =>
            intro w1044 h1046 b1045 hJ1047 z1048 hm13
            refine ev_iload rfl rfl rfl ?_
            refine ev_aload_n rfl rfl rfl ?_
            refine ev_getW (l := 0) (u := 200) hJ1047.1 rfl rfl rfl fl_X4_114 rfl rfl rfl (fun v1049 b1049 e1049 => ?_)
            refine ev_icmp_gt rfl rfl (fun c1050 => ?_) (fun c1050 => ?_)
            · have b1051 : B w1044 1 201 := R_ltY b1049 b1045 c1050 (by decide)
              refine ev_iincB (y := 1) (l := 2) (u := 9) rfl rfl rfl (by decide) rfl rfl b873 (by decide : B 1 1 1) (by decide) (by decide) (by decide) (by decide) (fun v1053 b1053 e1053 => ?_)
              dsimp only [List.set]
              refine ev_goto rfl rfl ?_
              exact (EvQ.drop 4 (ih2 v1053 h1046 (b1053.mono (by decide) (by decide)) hJ1047 (L_up hm2 (e_p1 e1053 (by decide)))))
            · have b1052 : B w1044 0 200 := R_leX b1045 b1049 (Int32.not_lt.mp c1050) (by decide)
              refine ev_aload_n rfl rfl rfl ?_
              refine ev_getR (y := 95) rfl rfl fl_X4_9 rfl rfl rfl rfl ?_
              refine ev_iload_n rfl rfl rfl ?_
              refine ev_aload_n rfl rfl rfl ?_
              refine ev_iload rfl rfl rfl ?_
              refine ev_aload_n rfl rfl rfl ?_
              refine ev_getW (l := (-2147483648)) (u := 2147483647) hJ1047.1 rfl rfl rfl fl_X4_37 rfl rfl rfl (fun v1054 b1054 e1054 => ?_)
              refine ev_V2P rfl rfl lk_X4_129 vt_X1_after rfl rfl rfl rfl rfl (w_X1_after_2 L true h1046 hJ1047.1 w1044 v1054) (fun r1055 q1055 => ?_)
              refine ev_S2P rfl rfl lk_X4_84 st_X4_cell rfl rfl (w_X4_cell_v0_24_v0_200 L true h1046 hJ1047.1 a0 (p0.mono (by decide) (by decide)) r1055 q1055) (fun r1056 q1056 => ?_)
              obtain ⟨b1056, pp1056_0⟩ := q1056
              refine ev_iload_n rfl rfl rfl ?_
              refine ev_iaddB (l := 1) (u := 45224) rfl rfl b1056 b873 (by decide) (by decide) (by decide) (by decide) (fun v1057 b1057 e1057 g1057 => ?_)
              refine ev_iconst (v := 1) rfl rfl (by decide) ?_
              refine ev_isubB (l := 0) (u := 45223) rfl rfl b1057 (by decide : B 1 1 1) (by decide) (by decide) (by decide) (by decide) (fun v1058 b1058 e1058 g1058 => ?_)
              refine ev_ialW (n := 45225) (l := (-2147483648)) (u := 2147483647) hJ1047.1 b1058 (by decide) (by decide) (fun _ => rfl) rfl rfl rfl (fun v1059 b1059 e1059 => ?_)
              refine ev_iconst (v := 1) rfl rfl (by decide) ?_
              refine ev_isubA rfl rfl (fun v1060 g1060 => ?_)
              refine ev_istore rfl rfl rfl rfl ?_
              dsimp only [List.set]
              refine ev_iload_n rfl rfl rfl ?_
              refine ev_iload rfl rfl rfl ?_
              refine ev_S2P rfl rfl lk_X4_84 st_X4_cell rfl rfl (w_X4_cell_v0_24_v0_200 L true h1046 hJ1047.1 a0 (p0.mono (by decide) (by decide)) w1044 b1052) (fun r1061 q1061 => ?_)
              obtain ⟨b1061, pp1061_0⟩ := q1061
              refine ev_iload_n rfl rfl rfl ?_
              refine ev_iaddB (l := 1) (u := 45224) rfl rfl b1061 b873 (by decide) (by decide) (by decide) (by decide) (fun v1062 b1062 e1062 g1062 => ?_)
              refine ev_istore rfl rfl rfl rfl ?_
              dsimp only [List.set]
              refine ev_aload_n rfl rfl rfl ?_
              refine ev_getR (y := 95) rfl rfl fl_X4_9 rfl rfl rfl rfl ?_
              refine ev_iload rfl rfl rfl ?_
              refine ev_aload_n rfl rfl rfl ?_
              refine ev_getR (y := 95) rfl rfl fl_X4_9 rfl rfl rfl rfl ?_
              refine ev_iload rfl rfl rfl ?_
              refine ev_ialW (n := 45225) (l := (-2147483648)) (u := 2147483647) hJ1047.1 b1062 (by decide) (by decide) (fun _ => rfl) rfl rfl rfl (fun v1063 b1063 e1063 => ?_)
              refine ev_iload rfl rfl rfl ?_
              refine ev_S2P rfl rfl lk_X4_136 st_J9_max_7cf53 rfl rfl (w_max (l := (-2147483648)) (u := 2147483647) (G0 L true) h1046 v1063 v1060 (B.any v1063) (B.any v1060) (Or.inl (by decide)) (by decide) (by decide)) (fun r1064 q1064 => ?_)
              refine ev_iasW (n := 45225) (l := (-2147483648)) (u := 2147483647) hJ1047 b1062 (by decide) (by decide) (fun _ => rfl) (B.any r1064) (by decide) (by decide) (fun _ => rfl) rfl rfl rfl rfl (fun h1065 hJ1065 k1065 => ?_)
              refine ev_iincB (y := 1) (l := 1) (u := 201) rfl rfl rfl (by decide) rfl rfl b1052 (by decide : B 1 1 1) (by decide) (by decide) (by decide) (by decide) (fun v1066 b1066 e1066 => ?_)
              dsimp only [List.set]
              refine ev_goto rfl rfl ?_
              exact (EvQ.drop 6 (EvQ.drop 5 (ih13 v1066 h1065 (b1066.mono (by decide) (by decide)) hJ1065 (rd_a k1065 z1048 rfl) (L_up hm13 (e_p1 e1066 (by decide))))))
        exact (lp13_1043 202 0 h869 ((by decide : B 0 0 0).mono (by decide) (by decide)) hJ870 e871 (L_init (by decide : B 0 0 0) (by decide)))
  exact (lp2_866 9 1 h ((by decide : B 1 1 1).mono (by decide) (by decide)) hJ0 (L_init (by decide : B 1 1 1) (by decide)))

set_option maxRecDepth 100000 in
set_option maxHeartbeats 4000000 in
theorem w_X4_follow_37_2_4 (L : Nat) (h : Hp) (hB : Bx h) (a0 : Int32) (p0 : B a0 0 8) : EvN mi_X4_follow [.ref 37, .ref 2, .ref 4, .int a0] (G0 L true) h [(37, 7), (37, 11), (37, 12), (37, 13), (40, 999), (41, 999), (42, 999), (43, 999)] := by
  refine EvM.of2 (lo := [some (.ref 37), some (.ref 2), some (.ref 4), some (.int a0), none, none, none, none]) pf_X4_follow ok_X4_follow rfl rfl ?_
  have hJ0 : JW [(37, 7), (37, 11), (37, 12), (37, 13), (40, 999), (41, 999), (42, 999), (43, 999)] h h := JW.refl hB
  refine ev_aload_n rfl rfl rfl ?_
  refine ev_getW (l := 0) (u := 200) hJ0.1 rfl rfl rfl fl_X4_141 rfl rfl rfl (fun v1 b1 e1 => ?_)
  refine ev_istore rfl rfl rfl rfl ?_
  dsimp only [List.set]
  refine ev_iload_n rfl rfl rfl ?_
  refine ev_istore rfl rfl rfl rfl ?_
  dsimp only [List.set]
  refine ev_aload_n rfl rfl rfl ?_
  refine ev_iconst (v := 0) rfl rfl (by decide) ?_
  refine ev_putW (l := (-2147483648)) (u := 2147483647) hJ0 rfl (by decide : B 0 0 0) (by decide) (by decide) rfl rfl rfl fl_X4_46 rfl rfl rfl rfl rfl (fun h2 hJ2 k2 => ?_)
  refine ev_iconst (v := 0) rfl rfl (by decide) ?_
  refine ev_istore rfl rfl rfl rfl ?_
  dsimp only [List.set]
  have lp17_777 : ∀ (n : Nat) (w778 : Int32) (w779 : Int32) (w780 : Int32) (h784 : Hp), B w778 0 200 → B w779 0 8 → B w780 0 24 → JW [(37, 7), (37, 11), (37, 12), (37, 13), (40, 999), (41, 999), (42, 999), (43, 999)] h h784 → (h784 2 0 = v1) → 24 + 1 - w780.toInt ≤ (n : Int) → EvQ mi_X4_follow 17 [some (.ref 37), some (.ref 2), some (.ref 4), some (.int a0), some (.int w778), some (.int w779), some (.int w780), none] [] (G0 L true) h784 0 0 (QN [(37, 7), (37, 11), (37, 12), (37, 13), (40, 999), (41, 999), (42, 999), (43, 999)] (G0 L true) h) := by
    intro n
    induction n with
    | zero =>
      intro w778 w779 w780 h784 b781 b782 b783 hJ785 z786 hm17
      exact absurd hm17 (L_zero b783 (by decide))
    | succ n ih17 =>
      intro w778 w779 w780 h784 b781 b782 b783 hJ785 z786 hm17
      refine ev_iload rfl rfl rfl ?_
      refine ev_aload_n rfl rfl rfl ?_
      refine ev_getW (l := 0) (u := 24) hJ785.1 rfl rfl rfl fl_X4_21 rfl rfl rfl (fun v787 b787 e787 => ?_)
      refine ev_icmp_ge rfl rfl (fun c788 => ?_) (fun c788 => ?_)
      · refine ev_aload_n rfl rfl rfl ?_
        refine ev_iload_n rfl rfl rfl ?_
        refine ev_iload rfl rfl rfl ?_
        refine ev_isubB (l := -8) (u := 8) rfl rfl p0 b782 (by decide) (by decide) (by decide) (by decide) (fun v791 b791 e791 g791 => ?_)
        refine ev_putW (l := (-2147483648)) (u := 2147483647) hJ785 rfl b791 (by decide) (by decide) rfl rfl rfl fl_X4_49 rfl rfl rfl rfl rfl (fun h792 hJ792 k792 => ?_)
        refine ev_aload_n rfl rfl rfl ?_
        refine ev_iload rfl rfl rfl ?_
        refine ev_putW (l := (-2147483648)) (u := 2147483647) hJ792 rfl b781 (by decide) (by decide) rfl rfl rfl fl_X4_52 rfl rfl rfl rfl rfl (fun h793 hJ793 k793 => ?_)
        exact ev_vret rfl rfl trivial ⟨rfl, rfl, hJ793⟩
      · have b789 : B w780 0 23 := R_ltX b783 b787 (Int32.not_le.mp c788) (by decide)
        have b790 : B v787 1 24 := R_ltY b783 b787 (Int32.not_le.mp c788) (by decide)
        refine ev_aload_n rfl rfl rfl ?_
        refine ev_aload_n rfl rfl rfl ?_
        refine ev_aload_n rfl rfl rfl ?_
        refine ev_getR (y := 39) rfl rfl fl_X4_18 rfl rfl rfl rfl ?_
        refine ev_iload rfl rfl rfl ?_
        refine ev_ialW (n := 24) (l := (-2147483648)) (u := 2147483647) hJ785.1 b789 (by decide) (by decide) (fun _ => rfl) rfl rfl rfl (fun v794 b794 e794 => ?_)
        refine ev_V2K hJ785 rfl rfl rfl lk_X4_93 vt_X4_listOptions rfl rfl rfl rfl rfl (w_X4_listOptions_37_4 L true h784 hJ785.1 v794) (fun h795 hJ795 k795 m795 => ?_)
        obtain ⟨f796, ef796⟩ : ∃ f_, h795 37 7 = f_ := ⟨_, rfl⟩
        rw [ef796] at m795
        refine ev_aload_n rfl rfl rfl ?_
        refine ev_getR (y := 43) rfl rfl fl_X4_43 rfl rfl rfl rfl ?_
        refine ev_iload rfl rfl rfl ?_
        refine ev_iconst (v := 0) rfl rfl (by decide) ?_
        refine ev_iasW (n := 24) (l := (-2147483648)) (u := 2147483647) hJ795 b789 (by decide) (by decide) (fun _ => rfl) (by decide : B 0 0 0) (by decide) (by decide) (fun _ => rfl) rfl rfl rfl rfl (fun h797 hJ797 k797 => ?_)
        refine ev_aload_n rfl rfl rfl ?_
        refine ev_aload_n rfl rfl rfl ?_
        refine ev_iload rfl rfl rfl ?_
        refine ev_iload rfl rfl rfl ?_
        refine ev_iload rfl rfl rfl ?_
        refine ev_V4P rfl rfl lk_X4_144 vt_X4_bestOption rfl rfl rfl rfl rfl (w_X4_bestOption_37_2 L h797 hJ797.1 w780 b789 w778 b781 w779 b782 (B.at (rd_a k797 ef796 rfl) m795)) (fun r798 q798 => ?_)
        refine ev_istore rfl rfl rfl rfl ?_
        dsimp only [List.set]
        have lp59_913 : ∀ (n : Nat) (w914 : Int32) (w915 : Int32) (w916 : Int32) (h920 : Hp), B w914 0 200 → B w915 0 8 → B w916 0 31 → JW [(37, 7), (37, 11), (37, 12), (37, 13), (40, 999), (41, 999), (42, 999), (43, 999)] h h920 → (h920 2 0 = v1) → (h920 37 3 = v787) → (h920 39 (Int32.toNatClampNeg w780) = v794) → (h920 37 7 = f796) → w915.toInt + 1 - 0 ≤ (n : Int) → EvQ mi_X4_follow 59 [some (.ref 37), some (.ref 2), some (.ref 4), some (.int a0), some (.int w914), some (.int w915), some (.int w780), some (.int w916)] [] (G0 L true) h920 0 0 (QN [(37, 7), (37, 11), (37, 12), (37, 13), (40, 999), (41, 999), (42, 999), (43, 999)] (G0 L true) h) := by
          intro n
          induction n with
          | zero =>
            intro w914 w915 w916 h920 b917 b918 b919 hJ921 z922 z923 z924 z925 hm59
            exact absurd hm59 (M_zero b918 (by decide))
          | succ n ih59 =>
            intro w914 w915 w916 h920 b917 b918 b919 hJ921 z922 z923 z924 z925 hm59
            refine ev_iload rfl rfl rfl ?_
            refine ev_if_le rfl rfl (fun c926 => ?_) (fun c926 => ?_)
            · have b927 : B w915 0 0 := R_leX b918 (by decide : B 0 0 0) c926 (by decide)
              refine ev_aload_n rfl rfl rfl ?_
              refine ev_getR (y := 42) rfl rfl fl_X4_40 rfl rfl rfl rfl ?_
              refine ev_iload rfl rfl rfl ?_
              refine ev_aload_n rfl rfl rfl ?_
              refine ev_getR (y := 40) rfl rfl fl_X4_28 rfl rfl rfl rfl ?_
              refine ev_iload rfl rfl rfl ?_
              refine ev_ialW (n := 32) (l := (-2147483648)) (u := 2147483647) hJ921.1 b919 (by decide) (by decide) (fun _ => rfl) rfl rfl rfl (fun v929 b929 e929 => ?_)
              refine ev_iasW (n := 24) (l := (-2147483648)) (u := 2147483647) hJ921 b789 (by decide) (by decide) (fun _ => rfl) (B.any v929) (by decide) (by decide) (fun _ => rfl) rfl rfl rfl rfl (fun h930 hJ930 k930 => ?_)
              refine ev_aload_n rfl rfl rfl ?_
              refine ev_dup rfl rfl rfl ?_
              refine ev_getW (l := (-2147483648)) (u := 2147483647) hJ930.1 rfl rfl rfl fl_X4_46 rfl rfl rfl (fun v931 b931 e931 => ?_)
              refine ev_aload_n rfl rfl rfl ?_
              refine ev_getR (y := 40) rfl rfl fl_X4_28 rfl rfl rfl rfl ?_
              refine ev_iload rfl rfl rfl ?_
              refine ev_iadV (v := v929) rfl rfl rfl (b919.vp (by decide) (by decide)) rfl (rd_a k930 e929 rfl) ?_
              refine ev_S1P rfl rfl lk_X4_123 st_J6_bitCount_0f7a4 rfl rfl (w_any (c_bitCount (G0 L true) h930 v929)) (fun r932 q932 => ?_)
              refine ev_iaddA rfl rfl (fun v933 g933 => ?_)
              refine ev_putW (l := (-2147483648)) (u := 2147483647) hJ930 rfl (B.any v933) (by decide) (by decide) rfl rfl rfl fl_X4_46 rfl rfl rfl rfl rfl (fun h934 hJ934 k934 => ?_)
              refine ev_aload_n rfl rfl rfl ?_
              refine ev_iload rfl rfl rfl ?_
              refine ev_aload_n rfl rfl rfl ?_
              refine ev_getR (y := 41) rfl rfl fl_X4_31 rfl rfl rfl rfl ?_
              refine ev_iload rfl rfl rfl ?_
              refine ev_ialW (n := 32) (l := (-2147483648)) (u := 2147483647) hJ934.1 b919 (by decide) (by decide) (fun _ => rfl) rfl rfl rfl (fun v935 b935 e935 => ?_)
              refine ev_V2P rfl rfl lk_X4_129 vt_X1_after rfl rfl rfl rfl rfl (w_X1_after_2 L true h934 hJ934.1 w914 v935) (fun r936 q936 => ?_)
              refine ev_istore rfl rfl rfl rfl ?_
              dsimp only [List.set]
              refine ev_iincB (y := 1) (l := 1) (u := 24) rfl rfl rfl (by decide) rfl rfl b789 (by decide : B 1 1 1) (by decide) (by decide) (by decide) (by decide) (fun v937 b937 e937 => ?_)
              dsimp only [List.set]
              refine ev_goto rfl rfl ?_
              exact (EvQ.drop 7 (ih17 r936 w915 v937 h934 q936 (b927.mono (by decide) (by decide)) (b937.mono (by decide) (by decide)) hJ934 (rd_o k934 (rd_a k930 z922 rfl) rfl) (L_up hm17 (e_p1 e937 (by decide)))))
            · have b928 : B w915 1 8 := R_ltY (by decide : B 0 0 0) b918 (Int32.not_le.mp c926) (by decide)
              refine ev_aload_n rfl rfl rfl ?_
              refine ev_aload_n rfl rfl rfl ?_
              refine ev_iload rfl rfl rfl ?_
              refine ev_iload rfl rfl rfl ?_
              refine ev_iload rfl rfl rfl ?_
              refine ev_iload rfl rfl rfl ?_
              refine ev_V5P rfl rfl lk_X4_148 vt_X4_worthOf rfl rfl rfl rfl rfl (w_X4_worthOf_37_2 L h920 hJ921.1 w780 b789 w914 b917 w915 (b928.mono (by decide) (by decide)) w916 b919) (fun r938 q938 => ?_)
              refine ev_aload_n rfl rfl rfl ?_
              refine ev_getR (y := 95) rfl rfl fl_X4_9 rfl rfl rfl rfl ?_
              refine ev_iload rfl rfl rfl ?_
              refine ev_iload rfl rfl rfl ?_
              refine ev_S2P rfl rfl lk_X4_84 st_X4_cell rfl rfl (w_X4_cell_v0_24_v0_200 L true h920 hJ921.1 w780 (b789.mono (by decide) (by decide)) w914 b917) (fun r939 q939 => ?_)
              obtain ⟨b939, pp939_0⟩ := q939
              refine ev_iload rfl rfl rfl ?_
              refine ev_iaddB (l := 1) (u := 45224) rfl rfl b939 b928 (by decide) (by decide) (by decide) (by decide) (fun v940 b940 e940 g940 => ?_)
              refine ev_ialW (n := 45225) (l := (-2147483648)) (u := 2147483647) hJ921.1 b940 (by decide) (by decide) (fun _ => rfl) rfl rfl rfl (fun v941 b941 e941 => ?_)
              refine ev_icmp_ge rfl rfl (fun c942 => ?_) (fun c942 => ?_)
              · refine ev_aload_n rfl rfl rfl ?_
                refine ev_getR (y := 42) rfl rfl fl_X4_40 rfl rfl rfl rfl ?_
                refine ev_iload rfl rfl rfl ?_
                refine ev_aload_n rfl rfl rfl ?_
                refine ev_getR (y := 40) rfl rfl fl_X4_28 rfl rfl rfl rfl ?_
                refine ev_iload rfl rfl rfl ?_
                refine ev_ialW (n := 32) (l := (-2147483648)) (u := 2147483647) hJ921.1 b919 (by decide) (by decide) (fun _ => rfl) rfl rfl rfl (fun v945 b945 e945 => ?_)
                refine ev_iasW (n := 24) (l := (-2147483648)) (u := 2147483647) hJ921 b789 (by decide) (by decide) (fun _ => rfl) (B.any v945) (by decide) (by decide) (fun _ => rfl) rfl rfl rfl rfl (fun h946 hJ946 k946 => ?_)
                refine ev_aload_n rfl rfl rfl ?_
                refine ev_dup rfl rfl rfl ?_
                refine ev_getW (l := (-2147483648)) (u := 2147483647) hJ946.1 rfl rfl rfl fl_X4_46 rfl rfl rfl (fun v947 b947 e947 => ?_)
                refine ev_aload_n rfl rfl rfl ?_
                refine ev_getR (y := 40) rfl rfl fl_X4_28 rfl rfl rfl rfl ?_
                refine ev_iload rfl rfl rfl ?_
                refine ev_iadV (v := v945) rfl rfl rfl (b919.vp (by decide) (by decide)) rfl (rd_a k946 e945 rfl) ?_
                refine ev_S1P rfl rfl lk_X4_123 st_J6_bitCount_0f7a4 rfl rfl (w_any (c_bitCount (G0 L true) h946 v945)) (fun r948 q948 => ?_)
                refine ev_iaddA rfl rfl (fun v949 g949 => ?_)
                refine ev_putW (l := (-2147483648)) (u := 2147483647) hJ946 rfl (B.any v949) (by decide) (by decide) rfl rfl rfl fl_X4_46 rfl rfl rfl rfl rfl (fun h950 hJ950 k950 => ?_)
                refine ev_aload_n rfl rfl rfl ?_
                refine ev_iload rfl rfl rfl ?_
                refine ev_aload_n rfl rfl rfl ?_
                refine ev_getR (y := 41) rfl rfl fl_X4_31 rfl rfl rfl rfl ?_
                refine ev_iload rfl rfl rfl ?_
                refine ev_ialW (n := 32) (l := (-2147483648)) (u := 2147483647) hJ950.1 b919 (by decide) (by decide) (fun _ => rfl) rfl rfl rfl (fun v951 b951 e951 => ?_)
                refine ev_V2P rfl rfl lk_X4_129 vt_X1_after rfl rfl rfl rfl rfl (w_X1_after_2 L true h950 hJ950.1 w914 v951) (fun r952 q952 => ?_)
                refine ev_istore rfl rfl rfl rfl ?_
                dsimp only [List.set]
                refine ev_iincB (y := 1) (l := 1) (u := 24) rfl rfl rfl (by decide) rfl rfl b789 (by decide : B 1 1 1) (by decide) (by decide) (by decide) (by decide) (fun v953 b953 e953 => ?_)
                dsimp only [List.set]
                refine ev_goto rfl rfl ?_
                exact (EvQ.drop 7 (ih17 r952 w915 v953 h950 q952 (b928.mono (by decide) (by decide)) (b953.mono (by decide) (by decide)) hJ950 (rd_o k950 (rd_a k946 z922 rfl) rfl) (L_up hm17 (e_p1 e953 (by decide)))))
              · have b943 : B r938 (-2147483648) 2147483646 := R_ltX (B.any r938) (B.any v941) (Int32.not_le.mp c942) (by decide)
                have b944 : B v941 (-2147483647) 2147483647 := R_ltY (B.any r938) (B.any v941) (Int32.not_le.mp c942) (by decide)
                refine ev_aload_n rfl rfl rfl ?_
                refine ev_iload rfl rfl rfl ?_
                refine ev_aload_n rfl rfl rfl ?_
                refine ev_getW (l := (-2147483648)) (u := 2147483647) hJ921.1 rfl rfl rfl fl_X4_37 rfl rfl rfl (fun v954 b954 e954 => ?_)
                refine ev_V2P rfl rfl lk_X4_129 vt_X1_after rfl rfl rfl rfl rfl (w_X1_after_2 L true h920 hJ921.1 w914 v954) (fun r955 q955 => ?_)
                refine ev_istore rfl rfl rfl rfl ?_
                dsimp only [List.set]
                refine ev_iincB (y := (-1)) (l := 0) (u := 7) rfl rfl rfl (by decide) rfl rfl b928 (by decide : B (-1) (-1) (-1)) (by decide) (by decide) (by decide) (by decide) (fun v956 b956 e956 => ?_)
                dsimp only [List.set]
                refine ev_aload_n rfl rfl rfl ?_
                refine ev_getR (y := 43) rfl rfl fl_X4_43 rfl rfl rfl rfl ?_
                refine ev_iload rfl rfl rfl ?_
                refine ev_dup2 rfl rfl rfl rfl ?_
                refine ev_ialW (n := 24) (l := (-2147483648)) (u := 2147483647) hJ921.1 b789 (by decide) (by decide) (fun _ => rfl) rfl rfl rfl (fun v957 b957 e957 => ?_)
                refine ev_iconst (v := 1) rfl rfl (by decide) ?_
                refine ev_iaddA rfl rfl (fun v958 g958 => ?_)
                refine ev_iasW (n := 24) (l := (-2147483648)) (u := 2147483647) hJ921 b789 (by decide) (by decide) (fun _ => rfl) (B.any v958) (by decide) (by decide) (fun _ => rfl) rfl rfl rfl rfl (fun h959 hJ959 k959 => ?_)
                refine ev_aload_n rfl rfl rfl ?_
                refine ev_aload_n rfl rfl rfl ?_
                refine ev_iload rfl rfl rfl ?_
                refine ev_iload rfl rfl rfl ?_
                refine ev_iload rfl rfl rfl ?_
                refine ev_V4P rfl rfl lk_X4_144 vt_X4_bestOption rfl rfl rfl rfl rfl (w_X4_bestOption_37_2 L h959 hJ959.1 w780 b789 r955 q955 v956 (b956.mono (by decide) (by decide)) (B.at (rd_a k959 z925 rfl) m795)) (fun r960 q960 => ?_)
                refine ev_istore rfl rfl rfl rfl ?_
                dsimp only [List.set]
                refine ev_goto rfl rfl ?_
                exact (ih59 r955 v956 r960 h959 q955 (b956.mono (by decide) (by decide)) q960 hJ959 (rd_a k959 z922 rfl) (rd_a k959 z923 rfl) (rd_a k959 z924 rfl) (rd_a k959 z925 rfl) (M_dn hm59 (e_m1 e956 (by decide))))
        exact (lp59_913 9 w778 w779 r798 h797 b781 b782 q798 hJ797 (rd_a k797 (rd_w k795 z786 rfl) rfl) (rd_a k797 (rd_w k795 e787 rfl) rfl) (rd_a k797 (rd_w k795 e794 rfl) rfl) (rd_a k797 ef796 rfl) (M_init b782 (by decide)))
  exact (lp17_777 25 v1 a0 0 h2 b1 p0 ((by decide : B 0 0 0).mono (by decide) (by decide)) hJ2 (rd_o k2 e1 rfl) (L_init (by decide : B 0 0 0) (by decide)))

