set_option maxRecDepth 100000 in
set_option maxHeartbeats 4000000 in
theorem w_J7_fill_53178_48 (L : Nat) (b : Bool) (h : Hp) (hB : Bx h) (a0 : Int32) : EvN mi_J7_fill_53178 [.ref 48, .int a0] (G0 L b) h [(48, 999)] := by
  refine EvM.of2 (lo := [some (.ref 48), some (.int a0), none, none]) pf_J7_fill_53178 ok_J7_fill_53178 rfl rfl ?_
  have hJ0 : JW [(48, 999)] h h := JW.refl hB
  refine ev_iconst (v := 0) rfl rfl (by decide) ?_
  refine ev_istore_n rfl rfl rfl rfl ?_
  dsimp only [List.set]
  refine ev_aload_n rfl rfl rfl ?_
  refine ev_alen (n := 12) rfl rfl rfl ?_
  rw [show nI 12 = 12 from rfl]
  refine ev_istore_n rfl rfl rfl rfl ?_
  dsimp only [List.set]
  have lp5_27 : ∀ (n : Nat) (w28 : Int32) (h30 : Hp), B w28 0 12 → JW [(48, 999)] h h30 → 12 + 1 - w28.toInt ≤ (n : Int) → EvQ mi_J7_fill_53178 5 [some (.ref 48), some (.int a0), some (.int w28), some (.int 12)] [] (G0 L b) h30 0 0 (QN [(48, 999)] (G0 L b) h) := by
    intro n
    induction n with
    | zero =>
      intro w28 h30 b29 hJ31 hm5
      exact absurd hm5 (L_zero b29 (by decide))
    | succ n ih5 =>
      intro w28 h30 b29 hJ31 hm5
      refine ev_iload_n rfl rfl rfl ?_
      refine ev_iload_n rfl rfl rfl ?_
      refine ev_icmp_ge rfl rfl (fun c32 => ?_) (fun c32 => ?_)
      · have b33 : B w28 12 12 := R_leY (by decide : B 12 12 12) b29 c32 (by decide)
        exact ev_vret rfl rfl trivial ⟨rfl, rfl, hJ31⟩
      · have b34 : B w28 0 11 := R_ltX b29 (by decide : B 12 12 12) (Int32.not_le.mp c32) (by decide)
        refine ev_aload_n rfl rfl rfl ?_
        refine ev_iload_n rfl rfl rfl ?_
        refine ev_iload_n rfl rfl rfl ?_
        refine ev_iasW (n := 12) (l := (-2147483648)) (u := 2147483647) hJ31 b34 (by decide) (by decide) (fun _ => rfl) (B.any a0) (by decide) (by decide) (fun _ => rfl) rfl rfl rfl rfl (fun h35 hJ35 k35 => ?_)
        refine ev_iincB (y := 1) (l := 1) (u := 12) rfl rfl rfl (by decide) rfl rfl b34 (by decide : B 1 1 1) (by decide) (by decide) (by decide) (by decide) (fun v36 b36 e36 => ?_)
        dsimp only [List.set]
        refine ev_goto rfl rfl ?_
        exact (ih5 v36 h35 (b36.mono (by decide) (by decide)) hJ35 (L_up hm5 (e_p1 e36 (by decide))))
  exact (lp5_27 13 0 h ((by decide : B 0 0 0).mono (by decide) (by decide)) hJ0 (L_init (by decide : B 0 0 0) (by decide)))

set_option maxRecDepth 100000 in
set_option maxHeartbeats 4000000 in
theorem w_X6_agrees_45_4 (L : Nat) (b : Bool) (h : Hp) (hB : Bx h) (a0 : Int32) (p0 : B a0 0 11) (a1 : Int32) (a2 : Int32) : EvJ mi_X6_agrees [.ref 45, .ref 4, .int a0, .int a1, .int a2] (G0 L b) h (fun r : Int32 => B r 0 1) [(45, 4), (48, 999)] := by
  refine EvM.of2 (lo := [some (.ref 45), some (.ref 4), some (.int a0), some (.int a1), some (.int a2), none, none]) pf_X6_agrees ok_X6_agrees rfl rfl ?_
  have hJ0 : JW [(45, 4), (48, 999)] h h := JW.refl hB
  refine ev_iload rfl rfl rfl ?_
  refine ev_aload_n rfl rfl rfl ?_
  refine ev_getR (y := 5) rfl rfl fl_X6_79 rfl rfl rfl rfl ?_
  refine ev_iload_n rfl rfl rfl ?_
  refine ev_ialW (n := 12) (l := (-2147483648)) (u := 2147483647) hJ0.1 p0 (by decide) (by decide) (fun _ => rfl) rfl rfl rfl (fun v1 b1 e1 => ?_)
  refine ev_aload_n rfl rfl rfl ?_
  refine ev_getR (y := 9) rfl rfl fl_X6_82 rfl rfl rfl rfl ?_
  refine ev_iload_n rfl rfl rfl ?_
  refine ev_ialW (n := 12) (l := (-2147483648)) (u := 2147483647) hJ0.1 p0 (by decide) (by decide) (fun _ => rfl) rfl rfl rfl (fun v2 b2 e2 => ?_)
  refine ev_iaddA rfl rfl (fun v3 g3 => ?_)
  refine ev_aload_n rfl rfl rfl ?_
  refine ev_iload_n rfl rfl rfl ?_
  refine ev_iload_n rfl rfl rfl ?_
  refine ev_V2P rfl rfl lk_X6_85 vt_X8_bentAt rfl rfl rfl rfl rfl (w_X8_bentAt_4 L b h hJ0.1 a0 p0 a1) (fun r4 q4 => ?_)
  refine ev_iaddA rfl rfl (fun v5 g5 => ?_)
  refine ev_isubA rfl rfl (fun v6 g6 => ?_)
  refine ev_istore rfl rfl rfl rfl ?_
  dsimp only [List.set]
  refine ev_aload_n rfl rfl rfl ?_
  refine ev_getW (l := (-2147483648)) (u := 2147483647) hJ0.1 rfl rfl rfl fl_X6_25 rfl rfl rfl (fun v7 b7 e7 => ?_)
  refine ev_iload_n rfl rfl rfl ?_
  refine ev_ishrA rfl rfl (fun v8 => ?_)
  refine ev_iconst (v := 1) rfl rfl (by decide) ?_
  refine ev_iandB rfl rfl (by decide : B 1 1 1) (by decide) (fun v9 b9 e9 => ?_)
  refine ev_if_eq rfl rfl (fun c10 => ?_) (fun c10 => ?_)
  · have b11 : B v9 0 0 := R_eqX b9 (by decide : B 0 0 0) c10
    refine ev_iconst (v := 0) rfl rfl (by decide) ?_
    refine ev_istore rfl rfl rfl rfl ?_
    dsimp only [List.set]
    refine ev_iload rfl rfl rfl ?_
    refine ev_if_eq rfl rfl (fun c13 => ?_) (fun c13 => absurd (D_eq (by decide : B 0 0 0) (by decide : B 0 0 0)) c13)
    refine ev_aload_n rfl rfl rfl ?_
    refine ev_dup rfl rfl rfl ?_
    refine ev_getV (v := v7) rfl rfl fl_X6_25 rfl rfl rfl e7 ?_
    refine ev_iconst (v := 1) rfl rfl (by decide) ?_
    refine ev_iload_n rfl rfl rfl ?_
    refine ev_ishlB rfl rfl p0 (by decide) (by decide) (fun v14 b14 => ?_)
    refine ev_iorA rfl rfl (fun v15 => ?_)
    refine ev_putW (l := (-2147483648)) (u := 2147483647) hJ0 rfl (B.any v15) (by decide) (by decide) rfl rfl rfl fl_X6_25 rfl rfl rfl rfl rfl (fun h16 hJ16 k16 => ?_)
    refine ev_aload_n rfl rfl rfl ?_
    refine ev_getR (y := 48) rfl rfl fl_X6_22 rfl rfl rfl rfl ?_
    refine ev_iload_n rfl rfl rfl ?_
    refine ev_iload rfl rfl rfl ?_
    refine ev_iasW (n := 12) (l := (-2147483648)) (u := 2147483647) hJ16 p0 (by decide) (by decide) (fun _ => rfl) (B.any v6) (by decide) (by decide) (fun _ => rfl) rfl rfl rfl rfl (fun h17 hJ17 k17 => ?_)
    refine ev_iload rfl rfl rfl ?_
    refine ev_sipush (v := (-200)) rfl rfl (by decide) ?_
    refine ev_sipush (v := 200) rfl rfl (by decide) ?_
    refine ev_SN3P rfl rfl lk_X6_88 st_X9_isWithin rfl rfl (w_isWithin (G0 L b) h17 v6 (-200) 200 (by decide : B (-200) (-200) (-200)) (by decide : B 200 200 200)) (fun r18 q18 => ?_)
    obtain ⟨b18, p18_0⟩ := q18
    exact ev_iret rfl rfl (ev_rtB b18) ⟨⟨_, rfl, b18⟩, rfl, hJ17⟩
  · have b12 : B v9 1 1 := R_neL b9 (by decide : B 0 0 0) c10 (by decide)
    refine ev_iconst (v := 1) rfl rfl (by decide) ?_
    refine ev_goto rfl rfl ?_
    refine ev_istore rfl rfl rfl rfl ?_
    dsimp only [List.set]
    refine ev_iload rfl rfl rfl ?_
    refine ev_if_eq rfl rfl (fun c19 => absurd c19 (D_ne (by decide : B 1 1 1) (by decide : B 0 0 0) (by decide))) (fun c19 => ?_)
    refine ev_aload_n rfl rfl rfl ?_
    refine ev_getR (y := 48) rfl rfl fl_X6_22 rfl rfl rfl rfl ?_
    refine ev_iload_n rfl rfl rfl ?_
    refine ev_ialW (n := 12) (l := (-2147483648)) (u := 2147483647) hJ0.1 p0 (by decide) (by decide) (fun _ => rfl) rfl rfl rfl (fun v20 b20 e20 => ?_)
    refine ev_iload rfl rfl rfl ?_
    refine ev_icmp_ne rfl rfl (fun c21 => ?_) (fun c21 => ?_)
    · refine ev_iconst (v := 0) rfl rfl (by decide) ?_
      exact ev_iret rfl rfl rfl ⟨⟨_, rfl, ((by decide : B 0 0 0).mono (by decide) (by decide))⟩, rfl, hJ0⟩
    · refine ev_iconst (v := 1) rfl rfl (by decide) ?_
      refine ev_goto rfl rfl ?_
      exact ev_iret rfl rfl rfl ⟨⟨_, rfl, ((by decide : B 1 1 1).mono (by decide) (by decide))⟩, rfl, hJ0⟩

set_option maxRecDepth 100000 in
set_option maxHeartbeats 4000000 in
theorem w_X6_explains_45_2_4 (L : Nat) (b : Bool) (h : Hp) (hB : Bx h) (a0 : Int32) (p0 : B a0 0 200) (a1 : Int32) : EvJ mi_X6_explains [.ref 45, .ref 2, .ref 4, .int a0, .int a1] (G0 L b) h (fun r : Int32 => B r 0 1) [(45, 4), (48, 999)] := by
  refine EvM.of2 (lo := [some (.ref 45), some (.ref 2), some (.ref 4), some (.int a0), some (.int a1), none, none, none]) pf_X6_explains ok_X6_explains rfl rfl ?_
  have hJ0 : JW [(45, 4), (48, 999)] h h := JW.refl hB
  refine ev_aload_n rfl rfl rfl ?_
  refine ev_getR (y := 48) rfl rfl fl_X6_22 rfl rfl rfl rfl ?_
  refine ev_iconst (v := 0) rfl rfl (by decide) ?_
  refine ev_S2N hJ0 rfl rfl rfl lk_X6_56 st_J7_fill_53178 rfl rfl (w_J7_fill_53178_48 L b h hJ0.1 0) (fun h1 hJ1 k1  => ?_)
  refine ev_aload_n rfl rfl rfl ?_
  refine ev_iconst (v := 0) rfl rfl (by decide) ?_
  refine ev_putW (l := (-2147483648)) (u := 2147483647) hJ1 rfl (by decide : B 0 0 0) (by decide) (by decide) rfl rfl rfl fl_X6_25 rfl rfl rfl rfl rfl (fun h2 hJ2 k2 => ?_)
  refine ev_iload rfl rfl rfl ?_
  refine ev_iconst (v := (-1)) rfl rfl (by decide) ?_
  refine ev_icmp_ne rfl rfl (fun c3 => ?_) (fun c3 => ?_)
  · refine ev_iconst (v := 1) rfl rfl (by decide) ?_
    refine ev_iload rfl rfl rfl ?_
    refine ev_ishlA rfl rfl (fun v5 => ?_)
    refine ev_istore rfl rfl rfl rfl ?_
    dsimp only [List.set]
    refine ev_iload_n rfl rfl rfl ?_
    refine ev_istore rfl rfl rfl rfl ?_
    dsimp only [List.set]
    refine ev_iconst (v := 0) rfl rfl (by decide) ?_
    refine ev_istore rfl rfl rfl rfl ?_
    dsimp only [List.set]
    have lp35_168 : ∀ (n : Nat) (w169 : Int32) (w170 : Int32) (h173 : Hp), B w169 0 200 → B w170 0 24 → JW [(45, 4), (48, 999)] h h173 → 24 + 1 - w170.toInt ≤ (n : Int) → EvQ mi_X6_explains 35 [some (.ref 45), some (.ref 2), some (.ref 4), some (.int a0), some (.int a1), some (.int v5), some (.int w169), some (.int w170)] [] (G0 L b) h173 0 0 (QJ (fun r : Int32 => B r 0 1) [(45, 4), (48, 999)] (G0 L b) h) := by
      intro n
      induction n with
      | zero =>
        intro w169 w170 h173 b171 b172 hJ174 hm35
        exact absurd hm35 (L_zero b172 (by decide))
      | succ n ih35 =>
        intro w169 w170 h173 b171 b172 hJ174 hm35
        refine ev_iload rfl rfl rfl ?_
        refine ev_aload_n rfl rfl rfl ?_
        refine ev_getW (l := 0) (u := 24) hJ174.1 rfl rfl rfl fl_X6_18 rfl rfl rfl (fun v175 b175 e175 => ?_)
        refine ev_icmp_ge rfl rfl (fun c176 => ?_) (fun c176 => ?_)
        · refine ev_iconst (v := 1) rfl rfl (by decide) ?_
          exact ev_iret rfl rfl rfl ⟨⟨_, rfl, ((by decide : B 1 1 1).mono (by decide) (by decide))⟩, rfl, hJ174⟩
        · have b177 : B w170 0 23 := R_ltX b172 b175 (Int32.not_le.mp c176) (by decide)
          have b178 : B v175 1 24 := R_ltY b172 b175 (Int32.not_le.mp c176) (by decide)
          refine ev_aload_n rfl rfl rfl ?_
          refine ev_getR (y := 46) rfl rfl fl_X6_9 rfl rfl rfl rfl ?_
          refine ev_iload rfl rfl rfl ?_
          refine ev_ialW (n := 24) (l := 0) (u := 4095) hJ174.1 b177 (by decide) (by decide) (fun _ => rfl) rfl rfl rfl (fun v179 b179 e179 => ?_)
          refine ev_if_eq rfl rfl (fun c180 => ?_) (fun c180 => ?_)
          · have b181 : B v179 0 0 := R_eqX b179 (by decide : B 0 0 0) c180
            refine ev_aload_n rfl rfl rfl ?_
            refine ev_iload rfl rfl rfl ?_
            refine ev_aload_n rfl rfl rfl ?_
            refine ev_aload_n rfl rfl rfl ?_
            refine ev_getR (y := 46) rfl rfl fl_X6_9 rfl rfl rfl rfl ?_
            refine ev_iload rfl rfl rfl ?_
            refine ev_iadV (v := v179) rfl rfl rfl (b177.vp (by decide) (by decide)) rfl e179 ?_
            refine ev_iload rfl rfl rfl ?_
            refine ev_V2P rfl rfl lk_X6_70 vt_X8_drawnBy rfl rfl rfl rfl rfl (w_X8_drawnBy_4 L b h173 hJ174.1 v179 v5) (fun r183 q183 => ?_)
            refine ev_V2P rfl rfl lk_X6_74 vt_X1_after rfl rfl rfl rfl rfl (w_X1_after_2 L b h173 hJ174.1 w169 r183) (fun r184 q184 => ?_)
            refine ev_istore rfl rfl rfl rfl ?_
            dsimp only [List.set]
            refine ev_iincB (y := 1) (l := 1) (u := 24) rfl rfl rfl (by decide) rfl rfl b177 (by decide : B 1 1 1) (by decide) (by decide) (by decide) (by decide) (fun v185 b185 e185 => ?_)
            dsimp only [List.set]
            refine ev_goto rfl rfl ?_
            exact (ih35 r184 v185 h173 q184 (b185.mono (by decide) (by decide)) hJ174 (L_up hm35 (e_p1 e185 (by decide))))
          · have b182 : B v179 1 4095 := R_neL b179 (by decide : B 0 0 0) c180 (by decide)
            refine ev_aload_n rfl rfl rfl ?_
            refine ev_getR (y := 47) rfl rfl fl_X6_15 rfl rfl rfl rfl ?_
            refine ev_iload rfl rfl rfl ?_
            refine ev_ialW (n := 24) (l := (-2147483648)) (u := 2147483647) hJ174.1 b177 (by decide) (by decide) (fun _ => rfl) rfl rfl rfl (fun v186 b186 e186 => ?_)
            refine ev_sipush (v := (-32768)) rfl rfl (by decide) ?_
            refine ev_icmp_eq rfl rfl (fun c187 => ?_) (fun c187 => ?_)
            · have b188 : B v186 (-32768) (-32768) := R_eqX (B.any v186) (by decide : B (-32768) (-32768) (-32768)) c187
              refine ev_aload_n rfl rfl rfl ?_
              refine ev_iload rfl rfl rfl ?_
              refine ev_aload_n rfl rfl rfl ?_
              refine ev_aload_n rfl rfl rfl ?_
              refine ev_getR (y := 46) rfl rfl fl_X6_9 rfl rfl rfl rfl ?_
              refine ev_iload rfl rfl rfl ?_
              refine ev_iadV (v := v179) rfl rfl rfl (b177.vp (by decide) (by decide)) rfl e179 ?_
              refine ev_iload rfl rfl rfl ?_
              refine ev_V2P rfl rfl lk_X6_70 vt_X8_drawnBy rfl rfl rfl rfl rfl (w_X8_drawnBy_4 L b h173 hJ174.1 v179 v5) (fun r189 q189 => ?_)
              refine ev_V2P rfl rfl lk_X6_74 vt_X1_after rfl rfl rfl rfl rfl (w_X1_after_2 L b h173 hJ174.1 w169 r189) (fun r190 q190 => ?_)
              refine ev_istore rfl rfl rfl rfl ?_
              dsimp only [List.set]
              refine ev_iincB (y := 1) (l := 1) (u := 24) rfl rfl rfl (by decide) rfl rfl b177 (by decide : B 1 1 1) (by decide) (by decide) (by decide) (by decide) (fun v191 b191 e191 => ?_)
              dsimp only [List.set]
              refine ev_goto rfl rfl ?_
              exact (ih35 r190 v191 h173 q190 (b191.mono (by decide) (by decide)) hJ174 (L_up hm35 (e_p1 e191 (by decide))))
            · refine ev_aload_n rfl rfl rfl ?_
              refine ev_aload_n rfl rfl rfl ?_
              refine ev_aload_n rfl rfl rfl ?_
              refine ev_getR (y := 46) rfl rfl fl_X6_9 rfl rfl rfl rfl ?_
              refine ev_iload rfl rfl rfl ?_
              refine ev_iadV (v := v179) rfl rfl rfl (b177.vp (by decide) (by decide)) rfl e179 ?_
              refine ev_SN1P rfl rfl lk_X6_62 st_X9_leastOf rfl rfl (w_leastOfK (G0 L b) h173 v179 b182) (fun r192 q192 => ?_)
              refine ev_iload rfl rfl rfl ?_
              refine ev_aload_n rfl rfl rfl ?_
              refine ev_getR (y := 47) rfl rfl fl_X6_15 rfl rfl rfl rfl ?_
              refine ev_iload rfl rfl rfl ?_
              refine ev_iadV (v := v186) rfl rfl rfl (b177.vp (by decide) (by decide)) rfl e186 ?_
              refine ev_V4J hJ174 rfl rfl rfl lk_X6_66 vt_X6_agrees rfl rfl rfl rfl rfl (w_X6_agrees_45_4 L b h173 hJ174.1 r192 q192 w169 v186) (fun r193 h193 q193 hJ193 k193 => ?_)
              refine ev_if_ne rfl rfl (fun c194 => ?_) (fun c194 => ?_)
              · have b195 : B r193 1 1 := R_neL q193 (by decide : B 0 0 0) c194 (by decide)
                refine ev_aload_n rfl rfl rfl ?_
                refine ev_iload rfl rfl rfl ?_
                refine ev_aload_n rfl rfl rfl ?_
                refine ev_aload_n rfl rfl rfl ?_
                refine ev_getR (y := 46) rfl rfl fl_X6_9 rfl rfl rfl rfl ?_
                refine ev_iload rfl rfl rfl ?_
                refine ev_iadV (v := v179) rfl rfl rfl (b177.vp (by decide) (by decide)) rfl (rd_w k193 e179 rfl) ?_
                refine ev_iload rfl rfl rfl ?_
                refine ev_V2P rfl rfl lk_X6_70 vt_X8_drawnBy rfl rfl rfl rfl rfl (w_X8_drawnBy_4 L b h193 hJ193.1 v179 v5) (fun r197 q197 => ?_)
                refine ev_V2P rfl rfl lk_X6_74 vt_X1_after rfl rfl rfl rfl rfl (w_X1_after_2 L b h193 hJ193.1 w169 r197) (fun r198 q198 => ?_)
                refine ev_istore rfl rfl rfl rfl ?_
                dsimp only [List.set]
                refine ev_iincB (y := 1) (l := 1) (u := 24) rfl rfl rfl (by decide) rfl rfl b177 (by decide : B 1 1 1) (by decide) (by decide) (by decide) (by decide) (fun v199 b199 e199 => ?_)
                dsimp only [List.set]
                refine ev_goto rfl rfl ?_
                exact (ih35 r198 v199 h193 q198 (b199.mono (by decide) (by decide)) hJ193 (L_up hm35 (e_p1 e199 (by decide))))
              · have b196 : B r193 0 0 := R_eqX q193 (by decide : B 0 0 0) c194
                refine ev_iconst (v := 0) rfl rfl (by decide) ?_
                exact ev_iret rfl rfl rfl ⟨⟨_, rfl, ((by decide : B 0 0 0).mono (by decide) (by decide))⟩, rfl, hJ193⟩
    exact (lp35_168 25 a0 0 h2 p0 ((by decide : B 0 0 0).mono (by decide) (by decide)) hJ2 (L_init (by decide : B 0 0 0) (by decide)))
  · have b4 : B a1 (-1) (-1) := R_eqX (B.any a1) (by decide : B (-1) (-1) (-1)) c3
    refine ev_iconst (v := 0) rfl rfl (by decide) ?_
    refine ev_goto rfl rfl ?_
    refine ev_istore rfl rfl rfl rfl ?_
    dsimp only [List.set]
    refine ev_iload_n rfl rfl rfl ?_
    refine ev_istore rfl rfl rfl rfl ?_
    dsimp only [List.set]
    refine ev_iconst (v := 0) rfl rfl (by decide) ?_
    refine ev_istore rfl rfl rfl rfl ?_
    dsimp only [List.set]
    have lp35_362 : ∀ (n : Nat) (w363 : Int32) (w364 : Int32) (h367 : Hp), B w363 0 200 → B w364 0 24 → JW [(45, 4), (48, 999)] h h367 → 24 + 1 - w364.toInt ≤ (n : Int) → EvQ mi_X6_explains 35 [some (.ref 45), some (.ref 2), some (.ref 4), some (.int a0), some (.int a1), some (.int 0), some (.int w363), some (.int w364)] [] (G0 L b) h367 0 0 (QJ (fun r : Int32 => B r 0 1) [(45, 4), (48, 999)] (G0 L b) h) := by
      intro n
      induction n with
      | zero =>
        intro w363 w364 h367 b365 b366 hJ368 hm35
        exact absurd hm35 (L_zero b366 (by decide))
      | succ n ih35 =>
        intro w363 w364 h367 b365 b366 hJ368 hm35
        refine ev_iload rfl rfl rfl ?_
        refine ev_aload_n rfl rfl rfl ?_
        refine ev_getW (l := 0) (u := 24) hJ368.1 rfl rfl rfl fl_X6_18 rfl rfl rfl (fun v369 b369 e369 => ?_)
        refine ev_icmp_ge rfl rfl (fun c370 => ?_) (fun c370 => ?_)
        · refine ev_iconst (v := 1) rfl rfl (by decide) ?_
          exact ev_iret rfl rfl rfl ⟨⟨_, rfl, ((by decide : B 1 1 1).mono (by decide) (by decide))⟩, rfl, hJ368⟩
        · have b371 : B w364 0 23 := R_ltX b366 b369 (Int32.not_le.mp c370) (by decide)
          have b372 : B v369 1 24 := R_ltY b366 b369 (Int32.not_le.mp c370) (by decide)
          refine ev_aload_n rfl rfl rfl ?_
          refine ev_getR (y := 46) rfl rfl fl_X6_9 rfl rfl rfl rfl ?_
          refine ev_iload rfl rfl rfl ?_
          refine ev_ialW (n := 24) (l := 0) (u := 4095) hJ368.1 b371 (by decide) (by decide) (fun _ => rfl) rfl rfl rfl (fun v373 b373 e373 => ?_)
          refine ev_if_eq rfl rfl (fun c374 => ?_) (fun c374 => ?_)
          · have b375 : B v373 0 0 := R_eqX b373 (by decide : B 0 0 0) c374
            refine ev_aload_n rfl rfl rfl ?_
            refine ev_iload rfl rfl rfl ?_
            refine ev_aload_n rfl rfl rfl ?_
            refine ev_aload_n rfl rfl rfl ?_
            refine ev_getR (y := 46) rfl rfl fl_X6_9 rfl rfl rfl rfl ?_
            refine ev_iload rfl rfl rfl ?_
            refine ev_iadV (v := v373) rfl rfl rfl (b371.vp (by decide) (by decide)) rfl e373 ?_
            refine ev_iload rfl rfl rfl ?_
            refine ev_V2P rfl rfl lk_X6_70 vt_X8_drawnBy rfl rfl rfl rfl rfl (w_X8_drawnBy_4 L b h367 hJ368.1 v373 0) (fun r377 q377 => ?_)
            refine ev_V2P rfl rfl lk_X6_74 vt_X1_after rfl rfl rfl rfl rfl (w_X1_after_2 L b h367 hJ368.1 w363 r377) (fun r378 q378 => ?_)
            refine ev_istore rfl rfl rfl rfl ?_
            dsimp only [List.set]
            refine ev_iincB (y := 1) (l := 1) (u := 24) rfl rfl rfl (by decide) rfl rfl b371 (by decide : B 1 1 1) (by decide) (by decide) (by decide) (by decide) (fun v379 b379 e379 => ?_)
            dsimp only [List.set]
            refine ev_goto rfl rfl ?_
            exact (ih35 r378 v379 h367 q378 (b379.mono (by decide) (by decide)) hJ368 (L_up hm35 (e_p1 e379 (by decide))))
          · have b376 : B v373 1 4095 := R_neL b373 (by decide : B 0 0 0) c374 (by decide)
            refine ev_aload_n rfl rfl rfl ?_
            refine ev_getR (y := 47) rfl rfl fl_X6_15 rfl rfl rfl rfl ?_
            refine ev_iload rfl rfl rfl ?_
            refine ev_ialW (n := 24) (l := (-2147483648)) (u := 2147483647) hJ368.1 b371 (by decide) (by decide) (fun _ => rfl) rfl rfl rfl (fun v380 b380 e380 => ?_)
            refine ev_sipush (v := (-32768)) rfl rfl (by decide) ?_
            refine ev_icmp_eq rfl rfl (fun c381 => ?_) (fun c381 => ?_)
            · have b382 : B v380 (-32768) (-32768) := R_eqX (B.any v380) (by decide : B (-32768) (-32768) (-32768)) c381
              refine ev_aload_n rfl rfl rfl ?_
              refine ev_iload rfl rfl rfl ?_
              refine ev_aload_n rfl rfl rfl ?_
              refine ev_aload_n rfl rfl rfl ?_
              refine ev_getR (y := 46) rfl rfl fl_X6_9 rfl rfl rfl rfl ?_
              refine ev_iload rfl rfl rfl ?_
              refine ev_iadV (v := v373) rfl rfl rfl (b371.vp (by decide) (by decide)) rfl e373 ?_
              refine ev_iload rfl rfl rfl ?_
              refine ev_V2P rfl rfl lk_X6_70 vt_X8_drawnBy rfl rfl rfl rfl rfl (w_X8_drawnBy_4 L b h367 hJ368.1 v373 0) (fun r383 q383 => ?_)
              refine ev_V2P rfl rfl lk_X6_74 vt_X1_after rfl rfl rfl rfl rfl (w_X1_after_2 L b h367 hJ368.1 w363 r383) (fun r384 q384 => ?_)
              refine ev_istore rfl rfl rfl rfl ?_
              dsimp only [List.set]
              refine ev_iincB (y := 1) (l := 1) (u := 24) rfl rfl rfl (by decide) rfl rfl b371 (by decide : B 1 1 1) (by decide) (by decide) (by decide) (by decide) (fun v385 b385 e385 => ?_)
              dsimp only [List.set]
              refine ev_goto rfl rfl ?_
              exact (ih35 r384 v385 h367 q384 (b385.mono (by decide) (by decide)) hJ368 (L_up hm35 (e_p1 e385 (by decide))))
            · refine ev_aload_n rfl rfl rfl ?_
              refine ev_aload_n rfl rfl rfl ?_
              refine ev_aload_n rfl rfl rfl ?_
              refine ev_getR (y := 46) rfl rfl fl_X6_9 rfl rfl rfl rfl ?_
              refine ev_iload rfl rfl rfl ?_
              refine ev_iadV (v := v373) rfl rfl rfl (b371.vp (by decide) (by decide)) rfl e373 ?_
              refine ev_SN1P rfl rfl lk_X6_62 st_X9_leastOf rfl rfl (w_leastOfK (G0 L b) h367 v373 b376) (fun r386 q386 => ?_)
              refine ev_iload rfl rfl rfl ?_
              refine ev_aload_n rfl rfl rfl ?_
              refine ev_getR (y := 47) rfl rfl fl_X6_15 rfl rfl rfl rfl ?_
              refine ev_iload rfl rfl rfl ?_
              refine ev_iadV (v := v380) rfl rfl rfl (b371.vp (by decide) (by decide)) rfl e380 ?_
              refine ev_V4J hJ368 rfl rfl rfl lk_X6_66 vt_X6_agrees rfl rfl rfl rfl rfl (w_X6_agrees_45_4 L b h367 hJ368.1 r386 q386 w363 v380) (fun r387 h387 q387 hJ387 k387 => ?_)
              refine ev_if_ne rfl rfl (fun c388 => ?_) (fun c388 => ?_)
              · have b389 : B r387 1 1 := R_neL q387 (by decide : B 0 0 0) c388 (by decide)
                refine ev_aload_n rfl rfl rfl ?_
                refine ev_iload rfl rfl rfl ?_
                refine ev_aload_n rfl rfl rfl ?_
                refine ev_aload_n rfl rfl rfl ?_
                refine ev_getR (y := 46) rfl rfl fl_X6_9 rfl rfl rfl rfl ?_
                refine ev_iload rfl rfl rfl ?_
                refine ev_iadV (v := v373) rfl rfl rfl (b371.vp (by decide) (by decide)) rfl (rd_w k387 e373 rfl) ?_
                refine ev_iload rfl rfl rfl ?_
                refine ev_V2P rfl rfl lk_X6_70 vt_X8_drawnBy rfl rfl rfl rfl rfl (w_X8_drawnBy_4 L b h387 hJ387.1 v373 0) (fun r391 q391 => ?_)
                refine ev_V2P rfl rfl lk_X6_74 vt_X1_after rfl rfl rfl rfl rfl (w_X1_after_2 L b h387 hJ387.1 w363 r391) (fun r392 q392 => ?_)
                refine ev_istore rfl rfl rfl rfl ?_
                dsimp only [List.set]
                refine ev_iincB (y := 1) (l := 1) (u := 24) rfl rfl rfl (by decide) rfl rfl b371 (by decide : B 1 1 1) (by decide) (by decide) (by decide) (by decide) (fun v393 b393 e393 => ?_)
                dsimp only [List.set]
                refine ev_goto rfl rfl ?_
                exact (ih35 r392 v393 h387 q392 (b393.mono (by decide) (by decide)) hJ387 (L_up hm35 (e_p1 e393 (by decide))))
              · have b390 : B r387 0 0 := R_eqX q387 (by decide : B 0 0 0) c388
                refine ev_iconst (v := 0) rfl rfl (by decide) ?_
                exact ev_iret rfl rfl rfl ⟨⟨_, rfl, ((by decide : B 0 0 0).mono (by decide) (by decide))⟩, rfl, hJ387⟩
    exact (lp35_362 25 a0 0 h2 p0 ((by decide : B 0 0 0).mono (by decide) (by decide)) hJ2 (L_init (by decide : B 0 0 0) (by decide)))

set_option maxRecDepth 100000 in
set_option maxHeartbeats 4000000 in
theorem w_X6_triedCracks_45 (L : Nat) (b : Bool) (h : Hp) (hB : Bx h)  : EvP mi_X6_triedCracks [.ref 45] (G0 L b) h (fun r : Int32 => B r (-2147483648) 2147483647) := by
  refine EvM.of2 (lo := [some (.ref 45), none, none]) pf_X6_triedCracks ok_X6_triedCracks rfl rfl ?_
  refine ev_iconst (v := 0) rfl rfl (by decide) ?_
  refine ev_istore_n rfl rfl rfl rfl ?_
  dsimp only [List.set]
  refine ev_iconst (v := 0) rfl rfl (by decide) ?_
  refine ev_istore_n rfl rfl rfl rfl ?_
  dsimp only [List.set]
  have lp4_117 : ∀ (n : Nat) (w118 : Int32) (w119 : Int32), B w119 0 12 → 12 + 1 - w119.toInt ≤ (n : Int) → EvQ mi_X6_triedCracks 4 [some (.ref 45), some (.int w118), some (.int w119)] [] (G0 L b) h 0 0 (QP (fun r : Int32 => B r (-2147483648) 2147483647) (G0 L b) h) := by
    intro n
    induction n with
    | zero =>
      intro w118 w119 b120 hm4
      exact absurd hm4 (L_zero b120 (by decide))
    | succ n ih4 =>
      intro w118 w119 b120 hm4
      refine ev_iload_n rfl rfl rfl ?_
      refine ev_bipush (v := 12) rfl rfl (by decide) ?_
      refine ev_icmp_ge rfl rfl (fun c121 => ?_) (fun c121 => ?_)
      · have b122 : B w119 12 12 := R_leY (by decide : B 12 12 12) b120 c121 (by decide)
        refine ev_iload_n rfl rfl rfl ?_
        exact ev_iret rfl rfl rfl ⟨⟨_, rfl, (B.any w118)⟩, rfl, rfl⟩
      · have b123 : B w119 0 11 := R_ltX b120 (by decide : B 12 12 12) (Int32.not_le.mp c121) (by decide)
        refine ev_iload_n rfl rfl rfl ?_
        refine ev_aload_n rfl rfl rfl ?_
        refine ev_getR (y := 48) rfl rfl fl_X6_22 rfl rfl rfl rfl ?_
        refine ev_iload_n rfl rfl rfl ?_
        refine ev_ialW (n := 12) (l := (-2147483648)) (u := 2147483647) hB b123 (by decide) (by decide) (fun _ => rfl) rfl rfl rfl (fun v124 b124 e124 => ?_)
        refine ev_if_eq rfl rfl (fun c125 => ?_) (fun c125 => ?_)
        · have b126 : B v124 0 0 := R_eqX (B.any v124) (by decide : B 0 0 0) c125
          refine ev_iconst (v := 0) rfl rfl (by decide) ?_
          refine ev_iaddB (l := -2147483648) (u := 2147483647) rfl rfl (B.any w118) (by decide : B 0 0 0) (by decide) (by decide) (by decide) (by decide) (fun v127 b127 e127 g127 => ?_)
          refine ev_istore_n rfl rfl rfl rfl ?_
          dsimp only [List.set]
          refine ev_iincB (y := 1) (l := 1) (u := 12) rfl rfl rfl (by decide) rfl rfl b123 (by decide : B 1 1 1) (by decide) (by decide) (by decide) (by decide) (fun v128 b128 e128 => ?_)
          dsimp only [List.set]
          refine ev_goto rfl rfl ?_
          exact (ih4 v127 v128 (b128.mono (by decide) (by decide)) (L_up hm4 (e_p1 e128 (by decide))))
        · refine ev_iconst (v := 1) rfl rfl (by decide) ?_
          refine ev_goto rfl rfl ?_
          refine ev_iaddA rfl rfl (fun v129 g129 => ?_)
          refine ev_istore_n rfl rfl rfl rfl ?_
          dsimp only [List.set]
          refine ev_iincB (y := 1) (l := 1) (u := 12) rfl rfl rfl (by decide) rfl rfl b123 (by decide : B 1 1 1) (by decide) (by decide) (by decide) (by decide) (fun v130 b130 e130 => ?_)
          dsimp only [List.set]
          refine ev_goto rfl rfl ?_
          exact (ih4 v129 v130 (b130.mono (by decide) (by decide)) (L_up hm4 (e_p1 e130 (by decide))))
  exact (lp4_117 13 0 0 ((by decide : B 0 0 0).mono (by decide) (by decide)) (L_init (by decide : B 0 0 0) (by decide)))

set_option maxRecDepth 100000 in
set_option maxHeartbeats 4000000 in
theorem w_X6_find_45_2_4 (L : Nat) (b : Bool) (h : Hp) (hB : Bx h) (a0 : Int32) (p0 : B a0 0 200) : EvJ mi_X6_find [.ref 45, .ref 2, .ref 4, .int a0] (G0 L b) h (fun r : Int32 => B r 0 1) [(45, 4), (45, 6), (45, 7), (48, 999), (49, 999)] := by
  refine EvM.of2 (lo := [some (.ref 45), some (.ref 2), some (.ref 4), some (.int a0), none, none, none]) pf_X6_find ok_X6_find rfl rfl ?_
  have hJ0 : JW [(45, 4), (45, 6), (45, 7), (48, 999), (49, 999)] h h := JW.refl hB
  refine ev_iconst (v := 0) rfl rfl (by decide) ?_
  refine ev_istore rfl rfl rfl rfl ?_
  dsimp only [List.set]
  refine ev_iconst (v := (-1)) rfl rfl (by decide) ?_
  refine ev_istore rfl rfl rfl rfl ?_
  dsimp only [List.set]
  have lp6_268 : ∀ (n : Nat) (w269 : Int32) (w270 : Int32) (h273 : Hp), B w269 0 1 → B w270 (-1) 12 → JW [(45, 4), (45, 6), (45, 7), (48, 999), (49, 999)] h h273 → 12 + 1 - w270.toInt ≤ (n : Int) → EvQ mi_X6_find 6 [some (.ref 45), some (.ref 2), some (.ref 4), some (.int a0), some (.int w269), some (.int w270), none] [] (G0 L b) h273 0 0 (QJ (fun r : Int32 => B r 0 1) [(45, 4), (45, 6), (45, 7), (48, 999), (49, 999)] (G0 L b) h) := by
    intro n
    induction n with
    | zero =>
      intro w269 w270 h273 b271 b272 hJ274 hm6
      exact absurd hm6 (L_zero b272 (by decide))
    | succ n ih6 =>
      intro w269 w270 h273 b271 b272 hJ274 hm6
      refine ev_iload rfl rfl rfl ?_
      refine ev_aload_n rfl rfl rfl ?_
      refine ev_getW (l := 0) (u := 12) hJ274.1 rfl rfl rfl fl_X6_37 rfl rfl rfl (fun v275 b275 e275 => ?_)
      refine ev_icmp_ge rfl rfl (fun c276 => ?_) (fun c276 => ?_)
      · have b277 : B w270 0 12 := R_leY b275 b272 c276 (by decide)
        refine ev_iload rfl rfl rfl ?_
        exact ev_iret rfl rfl (ev_rtB b271) ⟨⟨_, rfl, b271⟩, rfl, hJ274⟩
      · have b278 : B w270 (-1) 11 := R_ltX b272 b275 (Int32.not_le.mp c276) (by decide)
        refine ev_aload_n rfl rfl rfl ?_
        refine ev_aload_n rfl rfl rfl ?_
        refine ev_aload_n rfl rfl rfl ?_
        refine ev_iload_n rfl rfl rfl ?_
        refine ev_iload rfl rfl rfl ?_
        refine ev_V4J hJ274 rfl rfl rfl lk_X6_42 vt_X6_explains rfl rfl rfl rfl rfl (w_X6_explains_45_2_4 L b h273 hJ274.1 a0 p0 w270) (fun r279 h279 q279 hJ279 k279 => ?_)
        refine ev_if_eq rfl rfl (fun c280 => ?_) (fun c280 => ?_)
        · have b281 : B r279 0 0 := R_eqX q279 (by decide : B 0 0 0) c280
          refine ev_iincB (y := 1) (l := 0) (u := 12) rfl rfl rfl (by decide) rfl rfl b278 (by decide : B 1 1 1) (by decide) (by decide) (by decide) (by decide) (fun v283 b283 e283 => ?_)
          dsimp only [List.set]
          refine ev_goto rfl rfl ?_
          exact (ih6 w269 v283 h279 b271 (b283.mono (by decide) (by decide)) hJ279 (L_up hm6 (e_p1 e283 (by decide))))
        · have b282 : B r279 1 1 := R_neL q279 (by decide : B 0 0 0) c280 (by decide)
          refine ev_aload_n rfl rfl rfl ?_
          refine ev_V0P rfl rfl lk_X6_46 vt_X6_triedCracks rfl rfl rfl rfl rfl (w_X6_triedCracks_45 L b h279 hJ279.1 ) (fun r284 q284 => ?_)
          refine ev_iload rfl rfl rfl ?_
          refine ev_iconst (v := (-1)) rfl rfl (by decide) ?_
          refine ev_icmp_ne rfl rfl (fun c285 => ?_) (fun c285 => ?_)
          · have b286 : B w270 0 11 := R_neL b278 (by decide : B (-1) (-1) (-1)) c285 (by decide)
            refine ev_iconst (v := 1) rfl rfl (by decide) ?_
            refine ev_iaddA rfl rfl (fun v288 g288 => ?_)
            refine ev_istore rfl rfl rfl rfl ?_
            dsimp only [List.set]
            refine ev_iload rfl rfl rfl ?_
            refine ev_if_eq rfl rfl (fun c289 => ?_) (fun c289 => ?_)
            · have b290 : B w269 0 0 := R_eqX b271 (by decide : B 0 0 0) c289
              refine ev_iconst (v := 1) rfl rfl (by decide) ?_
              refine ev_istore rfl rfl rfl rfl ?_
              dsimp only [List.set]
              refine ev_aload_n rfl rfl rfl ?_
              refine ev_iload rfl rfl rfl ?_
              refine ev_putW (l := (-2147483648)) (u := 2147483647) hJ279 rfl (B.any v288) (by decide) (by decide) rfl rfl rfl fl_X6_31 rfl rfl rfl rfl rfl (fun h292 hJ292 k292 => ?_)
              refine ev_aload_n rfl rfl rfl ?_
              refine ev_iload rfl rfl rfl ?_
              refine ev_putW (l := (-2147483648)) (u := 2147483647) hJ292 rfl b286 (by decide) (by decide) rfl rfl rfl fl_X6_34 rfl rfl rfl rfl rfl (fun h293 hJ293 k293 => ?_)
              refine ev_aload_n rfl rfl rfl ?_
              refine ev_getR (y := 48) rfl rfl fl_X6_22 rfl rfl rfl rfl ?_
              refine ev_iconst (v := 0) rfl rfl (by decide) ?_
              refine ev_aload_n rfl rfl rfl ?_
              refine ev_getR (y := 49) rfl rfl fl_X6_28 rfl rfl rfl rfl ?_
              refine ev_iconst (v := 0) rfl rfl (by decide) ?_
              refine ev_bipush (v := 12) rfl rfl (by decide) ?_
              refine ev_cpyW (sN := 0) (dN := 0) (n0 := 12) (n1 := 12) (l := (-2147483648)) (u := 2147483647) (l' := (-2147483648)) (u' := 2147483647) hJ293 (fun _ => rfl) (fun _ => rfl) (by decide) (by decide) (fun _ => rfl) (by decide : B 12 12 12) (by decide) (by decide) (by decide) (by decide) (by decide) (by decide) (by decide) rfl rfl cp_X6_50 rfl rfl rfl rfl rfl rfl (by decide) (fun h294 hJ294 k294 => ?_)
              refine ev_iincB (y := 1) (l := 1) (u := 12) rfl rfl rfl (by decide) rfl rfl b286 (by decide : B 1 1 1) (by decide) (by decide) (by decide) (by decide) (fun v295 b295 e295 => ?_)
              dsimp only [List.set]
              refine ev_goto rfl rfl ?_
              exact (EvQ.drop 6 (ih6 1 v295 h294 ((by decide : B 1 1 1).mono (by decide) (by decide)) (b295.mono (by decide) (by decide)) hJ294 (L_up hm6 (e_p1 e295 (by decide)))))
            · have b291 : B w269 1 1 := R_neL b271 (by decide : B 0 0 0) c289 (by decide)
              refine ev_iload rfl rfl rfl ?_
              refine ev_aload_n rfl rfl rfl ?_
              refine ev_getW (l := (-2147483648)) (u := 2147483647) hJ279.1 rfl rfl rfl fl_X6_31 rfl rfl rfl (fun v296 b296 e296 => ?_)
              refine ev_icmp_ge rfl rfl (fun c297 => ?_) (fun c297 => ?_)
              · refine ev_iincB (y := 1) (l := 1) (u := 12) rfl rfl rfl (by decide) rfl rfl b286 (by decide : B 1 1 1) (by decide) (by decide) (by decide) (by decide) (fun v300 b300 e300 => ?_)
                dsimp only [List.set]
                refine ev_goto rfl rfl ?_
                exact (EvQ.drop 6 (ih6 w269 v300 h279 (b291.mono (by decide) (by decide)) (b300.mono (by decide) (by decide)) hJ279 (L_up hm6 (e_p1 e300 (by decide)))))
              · have b298 : B v288 (-2147483648) 2147483646 := R_ltX (B.any v288) (B.any v296) (Int32.not_le.mp c297) (by decide)
                have b299 : B v296 (-2147483647) 2147483647 := R_ltY (B.any v288) (B.any v296) (Int32.not_le.mp c297) (by decide)
                refine ev_iconst (v := 1) rfl rfl (by decide) ?_
                refine ev_istore rfl rfl rfl rfl ?_
                dsimp only [List.set]
                refine ev_aload_n rfl rfl rfl ?_
                refine ev_iload rfl rfl rfl ?_
                refine ev_putW (l := (-2147483648)) (u := 2147483647) hJ279 rfl b298 (by decide) (by decide) rfl rfl rfl fl_X6_31 rfl rfl rfl rfl rfl (fun h301 hJ301 k301 => ?_)
                refine ev_aload_n rfl rfl rfl ?_
                refine ev_iload rfl rfl rfl ?_
                refine ev_putW (l := (-2147483648)) (u := 2147483647) hJ301 rfl b286 (by decide) (by decide) rfl rfl rfl fl_X6_34 rfl rfl rfl rfl rfl (fun h302 hJ302 k302 => ?_)
                refine ev_aload_n rfl rfl rfl ?_
                refine ev_getR (y := 48) rfl rfl fl_X6_22 rfl rfl rfl rfl ?_
                refine ev_iconst (v := 0) rfl rfl (by decide) ?_
                refine ev_aload_n rfl rfl rfl ?_
                refine ev_getR (y := 49) rfl rfl fl_X6_28 rfl rfl rfl rfl ?_
                refine ev_iconst (v := 0) rfl rfl (by decide) ?_
                refine ev_bipush (v := 12) rfl rfl (by decide) ?_
                refine ev_cpyW (sN := 0) (dN := 0) (n0 := 12) (n1 := 12) (l := (-2147483648)) (u := 2147483647) (l' := (-2147483648)) (u' := 2147483647) hJ302 (fun _ => rfl) (fun _ => rfl) (by decide) (by decide) (fun _ => rfl) (by decide : B 12 12 12) (by decide) (by decide) (by decide) (by decide) (by decide) (by decide) (by decide) rfl rfl cp_X6_50 rfl rfl rfl rfl rfl rfl (by decide) (fun h303 hJ303 k303 => ?_)
                refine ev_iincB (y := 1) (l := 1) (u := 12) rfl rfl rfl (by decide) rfl rfl b286 (by decide : B 1 1 1) (by decide) (by decide) (by decide) (by decide) (fun v304 b304 e304 => ?_)
                dsimp only [List.set]
                refine ev_goto rfl rfl ?_
                exact (EvQ.drop 6 (ih6 1 v304 h303 ((by decide : B 1 1 1).mono (by decide) (by decide)) (b304.mono (by decide) (by decide)) hJ303 (L_up hm6 (e_p1 e304 (by decide)))))
          · have b287 : B w270 (-1) (-1) := R_eqX b278 (by decide : B (-1) (-1) (-1)) c285
            refine ev_iconst (v := 0) rfl rfl (by decide) ?_
            refine ev_goto rfl rfl ?_
            refine ev_iaddB (l := -2147483648) (u := 2147483647) rfl rfl (B.any r284) (by decide : B 0 0 0) (by decide) (by decide) (by decide) (by decide) (fun v305 b305 e305 g305 => ?_)
            refine ev_istore rfl rfl rfl rfl ?_
            dsimp only [List.set]
            refine ev_iload rfl rfl rfl ?_
            refine ev_if_eq rfl rfl (fun c306 => ?_) (fun c306 => ?_)
            · have b307 : B w269 0 0 := R_eqX b271 (by decide : B 0 0 0) c306
              refine ev_iconst (v := 1) rfl rfl (by decide) ?_
              refine ev_istore rfl rfl rfl rfl ?_
              dsimp only [List.set]
              refine ev_aload_n rfl rfl rfl ?_
              refine ev_iload rfl rfl rfl ?_
              refine ev_putW (l := (-2147483648)) (u := 2147483647) hJ279 rfl b305 (by decide) (by decide) rfl rfl rfl fl_X6_31 rfl rfl rfl rfl rfl (fun h309 hJ309 k309 => ?_)
              refine ev_aload_n rfl rfl rfl ?_
              refine ev_iload rfl rfl rfl ?_
              refine ev_putW (l := (-2147483648)) (u := 2147483647) hJ309 rfl b287 (by decide) (by decide) rfl rfl rfl fl_X6_34 rfl rfl rfl rfl rfl (fun h310 hJ310 k310 => ?_)
              refine ev_aload_n rfl rfl rfl ?_
              refine ev_getR (y := 48) rfl rfl fl_X6_22 rfl rfl rfl rfl ?_
              refine ev_iconst (v := 0) rfl rfl (by decide) ?_
              refine ev_aload_n rfl rfl rfl ?_
              refine ev_getR (y := 49) rfl rfl fl_X6_28 rfl rfl rfl rfl ?_
              refine ev_iconst (v := 0) rfl rfl (by decide) ?_
              refine ev_bipush (v := 12) rfl rfl (by decide) ?_
              refine ev_cpyW (sN := 0) (dN := 0) (n0 := 12) (n1 := 12) (l := (-2147483648)) (u := 2147483647) (l' := (-2147483648)) (u' := 2147483647) hJ310 (fun _ => rfl) (fun _ => rfl) (by decide) (by decide) (fun _ => rfl) (by decide : B 12 12 12) (by decide) (by decide) (by decide) (by decide) (by decide) (by decide) (by decide) rfl rfl cp_X6_50 rfl rfl rfl rfl rfl rfl (by decide) (fun h311 hJ311 k311 => ?_)
              refine ev_iincB (y := 1) (l := 0) (u := 0) rfl rfl rfl (by decide) rfl rfl b287 (by decide : B 1 1 1) (by decide) (by decide) (by decide) (by decide) (fun v312 b312 e312 => ?_)
              dsimp only [List.set]
              refine ev_goto rfl rfl ?_
              exact (EvQ.drop 6 (ih6 1 v312 h311 ((by decide : B 1 1 1).mono (by decide) (by decide)) (b312.mono (by decide) (by decide)) hJ311 (L_up hm6 (e_p1 e312 (by decide)))))
            · have b308 : B w269 1 1 := R_neL b271 (by decide : B 0 0 0) c306 (by decide)
              refine ev_iload rfl rfl rfl ?_
              refine ev_aload_n rfl rfl rfl ?_
              refine ev_getW (l := (-2147483648)) (u := 2147483647) hJ279.1 rfl rfl rfl fl_X6_31 rfl rfl rfl (fun v313 b313 e313 => ?_)
              refine ev_icmp_ge rfl rfl (fun c314 => ?_) (fun c314 => ?_)
              · refine ev_iincB (y := 1) (l := 0) (u := 0) rfl rfl rfl (by decide) rfl rfl b287 (by decide : B 1 1 1) (by decide) (by decide) (by decide) (by decide) (fun v318 b318 e318 => ?_)
                dsimp only [List.set]
                refine ev_goto rfl rfl ?_
                exact (EvQ.drop 6 (ih6 w269 v318 h279 (b308.mono (by decide) (by decide)) (b318.mono (by decide) (by decide)) hJ279 (L_up hm6 (e_p1 e318 (by decide)))))
              · have b315 : B v305 (-2147483648) 2147483646 := R_ltX b305 (B.any v313) (Int32.not_le.mp c314) (by decide)
                have b316 : B r284 (-2147483648) 2147483646 := (R_bk (l' := (-2147483648)) (u' := 2147483646) e305 b315 (by decide : B 0 0 0) (by decide) (by decide))
                have b317 : B v313 (-2147483647) 2147483647 := R_ltY b305 (B.any v313) (Int32.not_le.mp c314) (by decide)
                refine ev_iconst (v := 1) rfl rfl (by decide) ?_
                refine ev_istore rfl rfl rfl rfl ?_
                dsimp only [List.set]
                refine ev_aload_n rfl rfl rfl ?_
                refine ev_iload rfl rfl rfl ?_
                refine ev_putW (l := (-2147483648)) (u := 2147483647) hJ279 rfl b315 (by decide) (by decide) rfl rfl rfl fl_X6_31 rfl rfl rfl rfl rfl (fun h319 hJ319 k319 => ?_)
                refine ev_aload_n rfl rfl rfl ?_
                refine ev_iload rfl rfl rfl ?_
                refine ev_putW (l := (-2147483648)) (u := 2147483647) hJ319 rfl b287 (by decide) (by decide) rfl rfl rfl fl_X6_34 rfl rfl rfl rfl rfl (fun h320 hJ320 k320 => ?_)
                refine ev_aload_n rfl rfl rfl ?_
                refine ev_getR (y := 48) rfl rfl fl_X6_22 rfl rfl rfl rfl ?_
                refine ev_iconst (v := 0) rfl rfl (by decide) ?_
                refine ev_aload_n rfl rfl rfl ?_
                refine ev_getR (y := 49) rfl rfl fl_X6_28 rfl rfl rfl rfl ?_
                refine ev_iconst (v := 0) rfl rfl (by decide) ?_
                refine ev_bipush (v := 12) rfl rfl (by decide) ?_
                refine ev_cpyW (sN := 0) (dN := 0) (n0 := 12) (n1 := 12) (l := (-2147483648)) (u := 2147483647) (l' := (-2147483648)) (u' := 2147483647) hJ320 (fun _ => rfl) (fun _ => rfl) (by decide) (by decide) (fun _ => rfl) (by decide : B 12 12 12) (by decide) (by decide) (by decide) (by decide) (by decide) (by decide) (by decide) rfl rfl cp_X6_50 rfl rfl rfl rfl rfl rfl (by decide) (fun h321 hJ321 k321 => ?_)
                refine ev_iincB (y := 1) (l := 0) (u := 0) rfl rfl rfl (by decide) rfl rfl b287 (by decide : B 1 1 1) (by decide) (by decide) (by decide) (by decide) (fun v322 b322 e322 => ?_)
                dsimp only [List.set]
                refine ev_goto rfl rfl ?_
                exact (EvQ.drop 6 (ih6 1 v322 h321 ((by decide : B 1 1 1).mono (by decide) (by decide)) (b322.mono (by decide) (by decide)) hJ321 (L_up hm6 (e_p1 e322 (by decide)))))
  exact (lp6_268 14 0 (-1) h ((by decide : B 0 0 0).mono (by decide) (by decide)) ((by decide : B (-1) (-1) (-1)).mono (by decide) (by decide)) hJ0 (L_init (by decide : B (-1) (-1) (-1)) (by decide)))

set_option maxRecDepth 100000 in
set_option maxHeartbeats 4000000 in
theorem w_X6_forget_45 (L : Nat) (b : Bool) (h : Hp) (hB : Bx h)  : EvN mi_X6_forget [.ref 45] (G0 L b) h [(45, 2)] := by
  refine EvM.of2 (lo := [some (.ref 45)]) pf_X6_forget ok_X6_forget rfl rfl ?_
  have hJ0 : JW [(45, 2)] h h := JW.refl hB
  refine ev_aload_n rfl rfl rfl ?_
  refine ev_iconst (v := 0) rfl rfl (by decide) ?_
  refine ev_putW (l := 0) (u := 24) hJ0 rfl (by decide : B 0 0 0) (by decide) (by decide) rfl rfl rfl fl_X6_18 rfl rfl rfl rfl rfl (fun h1 hJ1 k1 => ?_)
  exact ev_vret rfl rfl trivial ⟨rfl, rfl, hJ1⟩

set_option maxRecDepth 100000 in
set_option maxHeartbeats 4000000 in
theorem w_X6_addBeat_45 (L : Nat) (b : Bool) (h : Hp) (hB : Bx h) (a0 : Int32) (p0 : B a0 0 4095) (a1 : Int32) : EvN mi_X6_addBeat [.ref 45, .int a0, .int a1] (G0 L b) h [(45, 2), (46, 999), (47, 999)] := by
  refine EvM.of2 (lo := [some (.ref 45), some (.int a0), some (.int a1)]) pf_X6_addBeat ok_X6_addBeat rfl rfl ?_
  have hJ0 : JW [(45, 2), (46, 999), (47, 999)] h h := JW.refl hB
  refine ev_aload_n rfl rfl rfl ?_
  refine ev_getW (l := 0) (u := 24) hJ0.1 rfl rfl rfl fl_X6_18 rfl rfl rfl (fun v1 b1 e1 => ?_)
  refine ev_bipush (v := 24) rfl rfl (by decide) ?_
  refine ev_icmp_ge rfl rfl (fun c2 => ?_) (fun c2 => ?_)
  · have b3 : B v1 24 24 := R_leY (by decide : B 24 24 24) b1 c2 (by decide)
    exact ev_vret rfl rfl trivial ⟨rfl, rfl, hJ0⟩
  · have b4 : B v1 0 23 := R_ltX b1 (by decide : B 24 24 24) (Int32.not_le.mp c2) (by decide)
    refine ev_aload_n rfl rfl rfl ?_
    refine ev_getR (y := 46) rfl rfl fl_X6_9 rfl rfl rfl rfl ?_
    refine ev_aload_n rfl rfl rfl ?_
    refine ev_getV (v := v1) rfl rfl fl_X6_18 rfl rfl rfl e1 ?_
    refine ev_iload_n rfl rfl rfl ?_
    refine ev_iasW (n := 24) (l := 0) (u := 4095) hJ0 b4 (by decide) (by decide) (fun _ => rfl) p0 (by decide) (by decide) (fun _ => rfl) rfl rfl rfl rfl (fun h5 hJ5 k5 => ?_)
    refine ev_aload_n rfl rfl rfl ?_
    refine ev_getR (y := 47) rfl rfl fl_X6_15 rfl rfl rfl rfl ?_
    refine ev_aload_n rfl rfl rfl ?_
    refine ev_getV (v := v1) rfl rfl fl_X6_18 rfl rfl rfl (rd_a k5 e1 rfl) ?_
    refine ev_iload_n rfl rfl rfl ?_
    refine ev_iasW (n := 24) (l := (-2147483648)) (u := 2147483647) hJ5 b4 (by decide) (by decide) (fun _ => rfl) (B.any a1) (by decide) (by decide) (fun _ => rfl) rfl rfl rfl rfl (fun h6 hJ6 k6 => ?_)
    refine ev_aload_n rfl rfl rfl ?_
    refine ev_dup rfl rfl rfl ?_
    refine ev_getV (v := v1) rfl rfl fl_X6_18 rfl rfl rfl (rd_a k6 (rd_a k5 e1 rfl) rfl) ?_
    refine ev_iconst (v := 1) rfl rfl (by decide) ?_
    refine ev_iaddB (l := 1) (u := 24) rfl rfl b4 (by decide : B 1 1 1) (by decide) (by decide) (by decide) (by decide) (fun v7 b7 e7 g7 => ?_)
    refine ev_putW (l := 0) (u := 24) hJ6 rfl b7 (by decide) (by decide) rfl rfl rfl fl_X6_18 rfl rfl rfl rfl rfl (fun h8 hJ8 k8 => ?_)
    exact ev_vret rfl rfl trivial ⟨rfl, rfl, hJ8⟩

set_option maxRecDepth 100000 in
set_option maxHeartbeats 4000000 in
theorem w_X9_takeHeard_1 (L : Nat) (b : Bool) (h : Hp) (hB : Bx h) (a0 : Int32) (p0 : B a0 0 5) (a1 : Int32) (p1 : B a1 (-11) 11) (a2 : Int32) (p2 : B a2 0 3) (a3 : Int32) (hK : KO h a0 a1) : EvJ mi_X9_takeHeard [.ref 1, .int a0, .int a1, .int a2, .int a3] (G0 L b) h (fun r : Int32 => B r 0 2) [(45, 2), (46, 999), (47, 999)] := by
  refine EvM.of2 (lo := [some (.ref 1), some (.int a0), some (.int a1), some (.int a2), some (.int a3), none, none, none]) pf_X9_takeHeard ok_X9_takeHeard rfl rfl ?_
  have hJ0 : JW [(45, 2), (46, 999), (47, 999)] h h := JW.refl hB
  obtain ⟨f1, ef1⟩ : ∃ f_, h 2 3 = f_ := ⟨_, rfl⟩
  have bf1 : B f1 0 200 := by have z_ := hJ0.1 2 3; rw [ef1] at z_; exact z_
  have zf1 := congrArg Int32.toInt ef1
  refine ev_aload_n rfl rfl rfl ?_
  refine ev_getR (y := 45) rfl rfl fl_X9_57 rfl rfl rfl rfl ?_
  refine ev_V0N hJ0 rfl rfl rfl lk_X9_359 vt_X6_forget rfl rfl rfl rfl rfl (w_X6_forget_45 L b h hJ0.1 ) (fun h2 hJ2 k2  => ?_)
  refine ev_iconst (v := 0) rfl rfl (by decide) ?_
  refine ev_istore rfl rfl rfl rfl ?_
  dsimp only [List.set]
  have lp10_214 : ∀ (n : Nat) (w215 : Int32) (h217 : Hp), B w215 0 24 → JW [(45, 2), (46, 999), (47, 999)] h h217 → (h217 2 3 = f1) → 24 + 1 - w215.toInt ≤ (n : Int) → EvQ mi_X9_takeHeard 10 [some (.ref 1), some (.int a0), some (.int a1), some (.int a2), some (.int a3), some (.int w215), none, none] [] (G0 L b) h217 0 0 (QJ (fun r : Int32 => B r 0 2) [(45, 2), (46, 999), (47, 999)] (G0 L b) h) := by
    intro n
    induction n with
    | zero =>
      intro w215 h217 b216 hJ218 z219 hm10
      exact absurd hm10 (L_zero b216 (by decide))
    | succ n ih10 =>
      intro w215 h217 b216 hJ218 z219 hm10
      have z220 := congrArg Int32.toInt z219
      refine ev_iload rfl rfl rfl ?_
      refine ev_aload_n rfl rfl rfl ?_
      refine ev_getR (y := 28) rfl rfl fl_X9_43 rfl rfl rfl rfl ?_
      refine ev_getR (y := 36) rfl rfl fl_X9_196 rfl rfl rfl rfl ?_
      refine ev_iload_n rfl rfl rfl ?_
      refine ev_ialW (n := 6) (l := 0) (u := 24) hJ218.1 p0 (by decide) (by decide) (fun _ => rfl) rfl rfl rfl (fun v221 b221 e221 => ?_)
      refine ev_icmp_ge rfl rfl (fun c222 => ?_) (fun c222 => ?_)
      · have z223 := w_le c222
        refine ev_iconst (v := 0) rfl rfl (by decide) ?_
        exact ev_iret rfl rfl rfl ⟨⟨_, rfl, ((by decide : B 0 0 0).mono (by decide) (by decide))⟩, rfl, hJ218⟩
      · have b224 : B w215 0 23 := R_ltX b216 b221 (Int32.not_le.mp c222) (by decide)
        have b225 : B v221 1 24 := R_ltY b216 b221 (Int32.not_le.mp c222) (by decide)
        have z226 := w_lt (Int32.not_le.mp c222)
        refine ev_aload_n rfl rfl rfl ?_
        refine ev_getR (y := 28) rfl rfl fl_X9_43 rfl rfl rfl rfl ?_
        refine ev_iload_n rfl rfl rfl ?_
        refine ev_iload rfl rfl rfl ?_
        refine ev_iload_n rfl rfl rfl ?_
        refine ev_V3P rfl rfl lk_X9_352 vt_X7_chordIn rfl rfl rfl rfl rfl (w_chordInK L b h217 hJ218.1 a0 w215 a1 p0 b224 (KO.keep hK hJ218 p0 (fun _ => rfl) (fun n_ j_ hn_ => wm_tun (by decide) n_ j_ hn_)) (by have q_ := congrArg Int32.toInt e221; omega)) (fun r227 q227 => ?_)
        refine ev_istore rfl rfl rfl rfl ?_
        dsimp only [List.set]
        refine ev_sipush (v := (-32768)) rfl rfl (by decide) ?_
        refine ev_istore rfl rfl rfl rfl ?_
        dsimp only [List.set]
        refine ev_iload rfl rfl rfl ?_
        refine ev_if_eq rfl rfl (fun c228 => ?_) (fun c228 => ?_)
        · have b229 : B r227 0 0 := R_eqX q227 (by decide : B 0 0 0) c228
          have z230 := congrArg Int32.toInt c228
          rw [show (0 : Int32).toInt = 0 from by decide] at z230
          refine ev_aload_n rfl rfl rfl ?_
          refine ev_getR (y := 45) rfl rfl fl_X9_57 rfl rfl rfl rfl ?_
          refine ev_iload rfl rfl rfl ?_
          refine ev_iload rfl rfl rfl ?_
          refine ev_V2N hJ218 rfl rfl rfl lk_X9_365 vt_X6_addBeat rfl rfl rfl rfl rfl (w_X6_addBeat_45 L b h217 hJ218.1 r227 (b229.mono (by decide) (by decide)) (-32768)) (fun h233 hJ233 k233  => ?_)
          refine ev_iincB (y := 1) (l := 1) (u := 24) rfl rfl rfl (by decide) rfl rfl b224 (by decide : B 1 1 1) (by decide) (by decide) (by decide) (by decide) (fun v234 b234 e234 => ?_)
          dsimp only [List.set]
          have e234x := e234; rw [show (1 : Int32).toInt = 1 from by decide] at e234x
          refine ev_goto rfl rfl ?_
          exact (EvQ.drop 7 (EvQ.drop 6 (ih10 v234 h233 (b234.mono (by decide) (by decide)) hJ233 (rd_w k233 z219 rfl) (L_up hm10 (e_p1 e234 (by decide))))))
        · have b231 : B r227 1 4095 := R_neL q227 (by decide : B 0 0 0) c228 (by decide)
          have z232 := w_ne c228
          rw [show (0 : Int32).toInt = 0 from by decide] at z232
          refine ev_aload_n rfl rfl rfl ?_
          refine ev_getR (y := 55) rfl rfl fl_X9_71 rfl rfl rfl rfl ?_
          refine ev_iload_n rfl rfl rfl ?_
          refine ev_iload rfl rfl rfl ?_
          refine ev_iload rfl rfl rfl ?_
          refine ev_iaddA rfl rfl (fun v235 g235 => ?_)
          refine ev_V2P rfl rfl lk_X9_325 vt_X5_hasCell rfl rfl rfl rfl rfl (w_X5_hasCell_55 L b h217 hJ218.1 a2 p2 v235) (fun r236 q236 => ?_)
          obtain ⟨b236, p236_0⟩ := q236
          refine ev_if_ne rfl rfl (fun c237 => ?_) (fun c237 => ?_)
          · have b238 : B r236 1 1 := R_neL b236 (by decide : B 0 0 0) c237 (by decide)
            have b239 : B v235 0 59 := p236_0 c237
            have z240 := w_ne c237
            rw [show (0 : Int32).toInt = 0 from by decide] at z240
            refine ev_aload_n rfl rfl rfl ?_
            refine ev_getR (y := 55) rfl rfl fl_X9_71 rfl rfl rfl rfl ?_
            refine ev_getR (y := 56) rfl rfl fl_X9_362 rfl rfl rfl rfl ?_
            refine ev_iload_n rfl rfl rfl ?_
            rcases B.c4 p2 with rfl | rfl | rfl | rfl
            · refine ev_aald (y := 57) (j := 0) rfl rfl rfl rfl (by unfold vp_in; decide) (by decide) rfl ?_
              refine ev_iload rfl rfl rfl ?_
              refine ev_iload rfl rfl rfl ?_
              refine ev_iaddV g235 rfl rfl ?_
              refine ev_ialW (n := 60) (l := (-2147483648)) (u := 2147483647) hJ218.1 b239 (by decide) (by decide) (fun _ => rfl) rfl rfl rfl (fun v243 b243 e243 => ?_)
              refine ev_istore rfl rfl rfl rfl ?_
              dsimp only [List.set]
              refine ev_aload_n rfl rfl rfl ?_
              refine ev_getR (y := 45) rfl rfl fl_X9_57 rfl rfl rfl rfl ?_
              refine ev_iload rfl rfl rfl ?_
              refine ev_iload rfl rfl rfl ?_
              refine ev_V2N hJ218 rfl rfl rfl lk_X9_365 vt_X6_addBeat rfl rfl rfl rfl rfl (w_X6_addBeat_45 L b h217 hJ218.1 r227 (b231.mono (by decide) (by decide)) v243) (fun h244 hJ244 k244  => ?_)
              refine ev_iincB (y := 1) (l := 1) (u := 24) rfl rfl rfl (by decide) rfl rfl b224 (by decide : B 1 1 1) (by decide) (by decide) (by decide) (by decide) (fun v245 b245 e245 => ?_)
              dsimp only [List.set]
              have e245x := e245; rw [show (1 : Int32).toInt = 1 from by decide] at e245x
              refine ev_goto rfl rfl ?_
              exact (EvQ.drop 7 (EvQ.drop 6 (ih10 v245 h244 (b245.mono (by decide) (by decide)) hJ244 (rd_w k244 z219 rfl) (L_up hm10 (e_p1 e245 (by decide))))))
            · refine ev_aald (y := 58) (j := 1) rfl rfl rfl rfl (by unfold vp_in; decide) (by decide) rfl ?_
              refine ev_iload rfl rfl rfl ?_
              refine ev_iload rfl rfl rfl ?_
              refine ev_iaddV g235 rfl rfl ?_
              refine ev_ialW (n := 60) (l := (-2147483648)) (u := 2147483647) hJ218.1 b239 (by decide) (by decide) (fun _ => rfl) rfl rfl rfl (fun v246 b246 e246 => ?_)
              refine ev_istore rfl rfl rfl rfl ?_
              dsimp only [List.set]
              refine ev_aload_n rfl rfl rfl ?_
              refine ev_getR (y := 45) rfl rfl fl_X9_57 rfl rfl rfl rfl ?_
              refine ev_iload rfl rfl rfl ?_
              refine ev_iload rfl rfl rfl ?_
              refine ev_V2N hJ218 rfl rfl rfl lk_X9_365 vt_X6_addBeat rfl rfl rfl rfl rfl (w_X6_addBeat_45 L b h217 hJ218.1 r227 (b231.mono (by decide) (by decide)) v246) (fun h247 hJ247 k247  => ?_)
              refine ev_iincB (y := 1) (l := 1) (u := 24) rfl rfl rfl (by decide) rfl rfl b224 (by decide : B 1 1 1) (by decide) (by decide) (by decide) (by decide) (fun v248 b248 e248 => ?_)
              dsimp only [List.set]
              have e248x := e248; rw [show (1 : Int32).toInt = 1 from by decide] at e248x
              refine ev_goto rfl rfl ?_
              exact (EvQ.drop 7 (EvQ.drop 6 (ih10 v248 h247 (b248.mono (by decide) (by decide)) hJ247 (rd_w k247 z219 rfl) (L_up hm10 (e_p1 e248 (by decide))))))
            · refine ev_aald (y := 59) (j := 2) rfl rfl rfl rfl (by unfold vp_in; decide) (by decide) rfl ?_
              refine ev_iload rfl rfl rfl ?_
              refine ev_iload rfl rfl rfl ?_
              refine ev_iaddV g235 rfl rfl ?_
              refine ev_ialW (n := 60) (l := (-2147483648)) (u := 2147483647) hJ218.1 b239 (by decide) (by decide) (fun _ => rfl) rfl rfl rfl (fun v249 b249 e249 => ?_)
              refine ev_istore rfl rfl rfl rfl ?_
              dsimp only [List.set]
              refine ev_aload_n rfl rfl rfl ?_
              refine ev_getR (y := 45) rfl rfl fl_X9_57 rfl rfl rfl rfl ?_
              refine ev_iload rfl rfl rfl ?_
              refine ev_iload rfl rfl rfl ?_
              refine ev_V2N hJ218 rfl rfl rfl lk_X9_365 vt_X6_addBeat rfl rfl rfl rfl rfl (w_X6_addBeat_45 L b h217 hJ218.1 r227 (b231.mono (by decide) (by decide)) v249) (fun h250 hJ250 k250  => ?_)
              refine ev_iincB (y := 1) (l := 1) (u := 24) rfl rfl rfl (by decide) rfl rfl b224 (by decide : B 1 1 1) (by decide) (by decide) (by decide) (by decide) (fun v251 b251 e251 => ?_)
              dsimp only [List.set]
              have e251x := e251; rw [show (1 : Int32).toInt = 1 from by decide] at e251x
              refine ev_goto rfl rfl ?_
              exact (EvQ.drop 7 (EvQ.drop 6 (ih10 v251 h250 (b251.mono (by decide) (by decide)) hJ250 (rd_w k250 z219 rfl) (L_up hm10 (e_p1 e251 (by decide))))))
            · refine ev_aald (y := 60) (j := 3) rfl rfl rfl rfl (by unfold vp_in; decide) (by decide) rfl ?_
              refine ev_iload rfl rfl rfl ?_
              refine ev_iload rfl rfl rfl ?_
              refine ev_iaddV g235 rfl rfl ?_
              refine ev_ialW (n := 60) (l := (-2147483648)) (u := 2147483647) hJ218.1 b239 (by decide) (by decide) (fun _ => rfl) rfl rfl rfl (fun v252 b252 e252 => ?_)
              refine ev_istore rfl rfl rfl rfl ?_
              dsimp only [List.set]
              refine ev_aload_n rfl rfl rfl ?_
              refine ev_getR (y := 45) rfl rfl fl_X9_57 rfl rfl rfl rfl ?_
              refine ev_iload rfl rfl rfl ?_
              refine ev_iload rfl rfl rfl ?_
              refine ev_V2N hJ218 rfl rfl rfl lk_X9_365 vt_X6_addBeat rfl rfl rfl rfl rfl (w_X6_addBeat_45 L b h217 hJ218.1 r227 (b231.mono (by decide) (by decide)) v252) (fun h253 hJ253 k253  => ?_)
              refine ev_iincB (y := 1) (l := 1) (u := 24) rfl rfl rfl (by decide) rfl rfl b224 (by decide : B 1 1 1) (by decide) (by decide) (by decide) (by decide) (fun v254 b254 e254 => ?_)
              dsimp only [List.set]
              have e254x := e254; rw [show (1 : Int32).toInt = 1 from by decide] at e254x
              refine ev_goto rfl rfl ?_
              exact (EvQ.drop 7 (EvQ.drop 6 (ih10 v254 h253 (b254.mono (by decide) (by decide)) hJ253 (rd_w k253 z219 rfl) (L_up hm10 (e_p1 e254 (by decide))))))
          · have b241 : B r236 0 0 := R_eqX b236 (by decide : B 0 0 0) c237
            have z242 := congrArg Int32.toInt c237
            rw [show (0 : Int32).toInt = 0 from by decide] at z242
            refine ev_iconst (v := 2) rfl rfl (by decide) ?_
            exact ev_iret rfl rfl rfl ⟨⟨_, rfl, ((by decide : B 2 2 2).mono (by decide) (by decide))⟩, rfl, hJ218⟩
  exact (lp10_214 25 0 h2 ((by decide : B 0 0 0).mono (by decide) (by decide)) hJ2 (rd_w k2 ef1 rfl) (L_init (by decide : B 0 0 0) (by decide)))

set_option maxRecDepth 100000 in
set_option maxHeartbeats 4000000 in
theorem w_X6_crackedBits_45 (L : Nat) (b : Bool) (h : Hp) (hB : Bx h)  : EvP mi_X6_crackedBits [.ref 45] (G0 L b) h (fun r : Int32 => B r 0 4095) := by
  refine EvM.of2 (lo := [some (.ref 45), none, none]) pf_X6_crackedBits ok_X6_crackedBits rfl rfl ?_
  refine ev_iconst (v := 0) rfl rfl (by decide) ?_
  refine ev_istore_n rfl rfl rfl rfl ?_
  dsimp only [List.set]
  refine ev_iconst (v := 0) rfl rfl (by decide) ?_
  refine ev_istore_n rfl rfl rfl rfl ?_
  dsimp only [List.set]
  have lp4_62 : ∀ (n : Nat) (w63 : Int32) (w64 : Int32), B w63 0 4095 → B w64 0 12 → 12 + 1 - w64.toInt ≤ (n : Int) → EvQ mi_X6_crackedBits 4 [some (.ref 45), some (.int w63), some (.int w64)] [] (G0 L b) h 0 0 (QP (fun r : Int32 => B r 0 4095) (G0 L b) h) := by
    intro n
    induction n with
    | zero =>
      intro w63 w64 b65 b66 hm4
      exact absurd hm4 (L_zero b66 (by decide))
    | succ n ih4 =>
      intro w63 w64 b65 b66 hm4
      refine ev_iload_n rfl rfl rfl ?_
      refine ev_bipush (v := 12) rfl rfl (by decide) ?_
      refine ev_icmp_ge rfl rfl (fun c67 => ?_) (fun c67 => ?_)
      · have b68 : B w64 12 12 := R_leY (by decide : B 12 12 12) b66 c67 (by decide)
        refine ev_iload_n rfl rfl rfl ?_
        exact ev_iret rfl rfl rfl ⟨⟨_, rfl, b65⟩, rfl, rfl⟩
      · have b69 : B w64 0 11 := R_ltX b66 (by decide : B 12 12 12) (Int32.not_le.mp c67) (by decide)
        refine ev_iload_n rfl rfl rfl ?_
        refine ev_aload_n rfl rfl rfl ?_
        refine ev_getR (y := 49) rfl rfl fl_X6_28 rfl rfl rfl rfl ?_
        refine ev_iload_n rfl rfl rfl ?_
        refine ev_ialW (n := 12) (l := (-2147483648)) (u := 2147483647) hB b69 (by decide) (by decide) (fun _ => rfl) rfl rfl rfl (fun v70 b70 e70 => ?_)
        refine ev_if_eq rfl rfl (fun c71 => ?_) (fun c71 => ?_)
        · have b72 : B v70 0 0 := R_eqX (B.any v70) (by decide : B 0 0 0) c71
          refine ev_iconst (v := 0) rfl rfl (by decide) ?_
          refine ev_iorB 12 (u := 4095) rfl rfl b65 (by decide : B 0 0 0) (by decide) (by decide) (by decide) (by decide) (by decide) (by decide) (fun v73 b73 e73 => ?_)
          refine ev_istore_n rfl rfl rfl rfl ?_
          dsimp only [List.set]
          refine ev_iincB (y := 1) (l := 1) (u := 12) rfl rfl rfl (by decide) rfl rfl b69 (by decide : B 1 1 1) (by decide) (by decide) (by decide) (by decide) (fun v74 b74 e74 => ?_)
          dsimp only [List.set]
          refine ev_goto rfl rfl ?_
          exact (ih4 v73 v74 b73 (b74.mono (by decide) (by decide)) (L_up hm4 (e_p1 e74 (by decide))))
        · refine ev_iconst (v := 1) rfl rfl (by decide) ?_
          refine ev_iload_n rfl rfl rfl ?_
          refine ev_ishlB rfl rfl b69 (by decide) (by decide) (fun v75 b75 => ?_)
          refine ev_goto rfl rfl ?_
          refine ev_iorB 12 (u := 4095) rfl rfl b65 b75 (by decide) (by decide) (by decide) (by decide) (by decide) (by decide) (fun v76 b76 e76 => ?_)
          refine ev_istore_n rfl rfl rfl rfl ?_
          dsimp only [List.set]
          refine ev_iincB (y := 1) (l := 1) (u := 12) rfl rfl rfl (by decide) rfl rfl b69 (by decide : B 1 1 1) (by decide) (by decide) (by decide) (by decide) (fun v77 b77 e77 => ?_)
          dsimp only [List.set]
          refine ev_goto rfl rfl ?_
          exact (ih4 v76 v77 b76 (b77.mono (by decide) (by decide)) (L_up hm4 (e_p1 e77 (by decide))))
  exact (lp4_62 13 0 0 ((by decide : B 0 0 0).mono (by decide) (by decide)) ((by decide : B 0 0 0).mono (by decide) (by decide)) (L_init (by decide : B 0 0 0) (by decide)))

set_option maxRecDepth 100000 in
set_option maxHeartbeats 4000000 in
theorem w_X6_answer_45_v0_2 (L : Nat) (b : Bool) (h : Hp) (hB : Bx h) (a0 : Int32) (p0 : B a0 0 2) : EvP mi_X6_answer [.ref 45, .int a0] (G0 L b) h (fun r : Int32 => B r (-2147483648) 2147483647) := by
  refine EvM.of2 (lo := [some (.ref 45), some (.int a0)]) pf_X6_answer ok_X6_answer rfl rfl ?_
  refine ev_iload_n rfl rfl rfl ?_
  refine ev_if_ne rfl rfl (fun c1 => ?_) (fun c1 => ?_)
  · have b2 : B a0 1 2 := R_neL p0 (by decide : B 0 0 0) c1 (by decide)
    refine ev_iload_n rfl rfl rfl ?_
    refine ev_iconst (v := 1) rfl rfl (by decide) ?_
    refine ev_icmp_ne rfl rfl (fun c4 => ?_) (fun c4 => ?_)
    · have b5 : B a0 2 2 := R_neL b2 (by decide : B 1 1 1) c4 (by decide)
      refine ev_iload_n rfl rfl rfl ?_
      refine ev_iconst (v := 2) rfl rfl (by decide) ?_
      refine ev_icmp_ne rfl rfl (fun c7 => absurd (D_eq b5 (by decide : B 2 2 2)) c7) (fun c7 => ?_)
      refine ev_aload_n rfl rfl rfl ?_
      refine ev_V0P rfl rfl lk_X6_92 vt_X6_crackedBits rfl rfl rfl rfl rfl (w_X6_crackedBits_45 L b h hB ) (fun r8 q8 => ?_)
      refine ev_goto rfl rfl ?_
      exact ev_iret rfl rfl rfl ⟨⟨_, rfl, (q8.mono (by decide) (by decide))⟩, rfl, rfl⟩
    · have b6 : B a0 1 1 := R_eqX b2 (by decide : B 1 1 1) c4
      refine ev_aload_n rfl rfl rfl ?_
      refine ev_getW (l := (-2147483648)) (u := 2147483647) hB rfl rfl rfl fl_X6_34 rfl rfl rfl (fun v9 b9 e9 => ?_)
      refine ev_iconst (v := (-1)) rfl rfl (by decide) ?_
      refine ev_icmp_ne rfl rfl (fun c10 => ?_) (fun c10 => ?_)
      · refine ev_aload_n rfl rfl rfl ?_
        refine ev_getV (v := v9) rfl rfl fl_X6_34 rfl rfl rfl e9 ?_
        exact ev_iret rfl rfl rfl ⟨⟨_, rfl, (B.any v9)⟩, rfl, rfl⟩
      · have b11 : B v9 (-1) (-1) := R_eqX (B.any v9) (by decide : B (-1) (-1) (-1)) c10
        refine ev_bipush (v := (-4)) rfl rfl (by decide) ?_
        refine ev_goto rfl rfl ?_
        exact ev_iret rfl rfl rfl ⟨⟨_, rfl, ((by decide : B (-4) (-4) (-4)).mono (by decide) (by decide))⟩, rfl, rfl⟩
  · have b3 : B a0 0 0 := R_eqX p0 (by decide : B 0 0 0) c1
    refine ev_aload_n rfl rfl rfl ?_
    refine ev_getW (l := (-2147483648)) (u := 2147483647) hB rfl rfl rfl fl_X6_31 rfl rfl rfl (fun v12 b12 e12 => ?_)
    exact ev_iret rfl rfl rfl ⟨⟨_, rfl, (B.any v12)⟩, rfl, rfl⟩

set_option maxRecDepth 100000 in
set_option maxHeartbeats 4000000 in
theorem w_X6_answer_45_v20_31 (L : Nat) (b : Bool) (h : Hp) (hB : Bx h) (a0 : Int32) (p0 : B a0 20 31) : EvP mi_X6_answer [.ref 45, .int a0] (G0 L b) h (fun r : Int32 => B r (-2147483648) 2147483647) := by
  refine EvM.of2 (lo := [some (.ref 45), some (.int a0)]) pf_X6_answer ok_X6_answer rfl rfl ?_
  refine ev_iload_n rfl rfl rfl ?_
  refine ev_if_ne rfl rfl (fun c1 => ?_) (fun c1 => absurd c1 (D_ne p0 (by decide : B 0 0 0) (by decide)))
  refine ev_iload_n rfl rfl rfl ?_
  refine ev_iconst (v := 1) rfl rfl (by decide) ?_
  refine ev_icmp_ne rfl rfl (fun c2 => ?_) (fun c2 => absurd c2 (D_ne p0 (by decide : B 1 1 1) (by decide)))
  refine ev_iload_n rfl rfl rfl ?_
  refine ev_iconst (v := 2) rfl rfl (by decide) ?_
  refine ev_icmp_ne rfl rfl (fun c3 => ?_) (fun c3 => absurd c3 (D_ne p0 (by decide : B 2 2 2) (by decide)))
  refine ev_aload_n rfl rfl rfl ?_
  refine ev_getR (y := 49) rfl rfl fl_X6_28 rfl rfl rfl rfl ?_
  refine ev_iload_n rfl rfl rfl ?_
  refine ev_bipush (v := 20) rfl rfl (by decide) ?_
  refine ev_isubB (l := 0) (u := 11) rfl rfl p0 (by decide : B 20 20 20) (by decide) (by decide) (by decide) (by decide) (fun v4 b4 e4 g4 => ?_)
  refine ev_ialW (n := 12) (l := (-2147483648)) (u := 2147483647) hB b4 (by decide) (by decide) (fun _ => rfl) rfl rfl rfl (fun v5 b5 e5 => ?_)
  exact ev_iret rfl rfl rfl ⟨⟨_, rfl, (B.any v5)⟩, rfl, rfl⟩

set_option maxRecDepth 100000 in
set_option maxHeartbeats 4000000 in
theorem w_X9_blame_1 (L : Nat) (b : Bool) (h : Hp) (hB : Bx h) (a0 : Int32) (a1 : Int32) (a2 : Int32) (a3 : Int32) (a4 : Int32) (a5 : Int32) (a6 : Int32) : EvJ mi_X9_blame [.ref 1, .int a0, .int a1, .int a2, .int a3, .int a4, .int a5, .int a6] (G0 L b) h (fun r : Int32 => B r (-2147483648) 2147483647) [(45, 2), (45, 4), (45, 6), (45, 7), (46, 999), (47, 999), (48, 999), (49, 999)] := by
  refine EvM.of2 (lo := [some (.ref 1), some (.int a0), some (.int a1), some (.int a2), some (.int a3), some (.int a4), some (.int a5), some (.int a6), none, none]) pf_X9_blame ok_X9_blame rfl rfl ?_
  have hJ0 : JW [(45, 2), (45, 4), (45, 6), (45, 7), (46, 999), (47, 999), (48, 999), (49, 999)] h h := JW.refl hB
  refine ev_iload rfl rfl rfl ?_
  refine ev_iconst (v := 0) rfl rfl (by decide) ?_
  refine ev_iconst (v := 2) rfl rfl (by decide) ?_
  refine ev_S3P rfl rfl lk_X9_75 st_X9_isWithin rfl rfl (w_isWithin (G0 L b) h a6 0 2 (by decide : B 0 0 0) (by decide : B 2 2 2)) (fun r1 q1 => ?_)
  obtain ⟨b1, p1_0⟩ := q1
  refine ev_if_ne rfl rfl (fun c2 => ?_) (fun c2 => ?_)
  · have b3 : B r1 1 1 := R_neL b1 (by decide : B 0 0 0) c2 (by decide)
    have b4 : B a6 0 2 := p1_0 c2
    refine ev_iconst (v := 1) rfl rfl (by decide) ?_
    refine ev_goto rfl rfl ?_
    refine ev_istore rfl rfl rfl rfl ?_
    dsimp only [List.set]
    refine ev_aload_n rfl rfl rfl ?_
    refine ev_getR (y := 28) rfl rfl fl_X9_43 rfl rfl rfl rfl ?_
    refine ev_iload_n rfl rfl rfl ?_
    refine ev_V1P rfl rfl lk_X9_195 vt_X7_has rfl rfl rfl rfl rfl (w_X7_has_28 L b h hJ0.1 a0) (fun r6 q6 => ?_)
    obtain ⟨b6, p6_0⟩ := q6
    refine ev_if_eq rfl rfl (fun c7 => ?_) (fun c7 => ?_)
    · have b8 : B r6 0 0 := R_eqX b6 (by decide : B 0 0 0) c7
      refine ev_sipush (v := (-1000)) rfl rfl (by decide) ?_
      exact ev_iret rfl rfl rfl ⟨⟨_, rfl, ((by decide : B (-1000) (-1000) (-1000)).mono (by decide) (by decide))⟩, rfl, hJ0⟩
    · have b9 : B r6 1 1 := R_neL b6 (by decide : B 0 0 0) c7 (by decide)
      have b10 : B a0 0 5 := p6_0 c7
      refine ev_iload_n rfl rfl rfl ?_
      refine ev_S1P rfl rfl lk_X9_227 st_X9_isKey rfl rfl (w_X9_isKey L b h hJ0.1 a1) (fun r11 q11 => ?_)
      obtain ⟨b11, p11_0⟩ := q11
      refine ev_if_eq rfl rfl (fun c12 => ?_) (fun c12 => ?_)
      · have b13 : B r11 0 0 := R_eqX b11 (by decide : B 0 0 0) c12
        refine ev_sipush (v := (-1000)) rfl rfl (by decide) ?_
        exact ev_iret rfl rfl rfl ⟨⟨_, rfl, ((by decide : B (-1000) (-1000) (-1000)).mono (by decide) (by decide))⟩, rfl, hJ0⟩
      · have b14 : B r11 1 1 := R_neL b11 (by decide : B 0 0 0) c12 (by decide)
        have b15 : B a1 (-11) 11 := p11_0 c12
        refine ev_iload_n rfl rfl rfl ?_
        refine ev_iconst (v := 0) rfl rfl (by decide) ?_
        refine ev_aload_n rfl rfl rfl ?_
        refine ev_getR (y := 2) rfl rfl fl_X9_10 rfl rfl rfl rfl ?_
        refine ev_getW (l := 0) (u := 200) hJ0.1 rfl rfl rfl fl_X9_96 rfl rfl rfl (fun v16 b16 e16 => ?_)
        refine ev_S3P rfl rfl lk_X9_75 st_X9_isWithin rfl rfl (w_isWithin (G0 L b) h a2 0 v16 (by decide : B 0 0 0) b16) (fun r17 q17 => ?_)
        obtain ⟨b17, p17_0⟩ := q17
        refine ev_if_eq rfl rfl (fun c18 => ?_) (fun c18 => ?_)
        · have b19 : B r17 0 0 := R_eqX b17 (by decide : B 0 0 0) c18
          refine ev_sipush (v := (-1000)) rfl rfl (by decide) ?_
          exact ev_iret rfl rfl rfl ⟨⟨_, rfl, ((by decide : B (-1000) (-1000) (-1000)).mono (by decide) (by decide))⟩, rfl, hJ0⟩
        · have b20 : B r17 1 1 := R_neL b17 (by decide : B 0 0 0) c18 (by decide)
          have b21 : B a2 0 200 := p17_0 c18
          refine ev_iload rfl rfl rfl ?_
          refine ev_if_ne rfl rfl (fun c22 => ?_) (fun c22 => absurd c22 (D_ne (by decide : B 1 1 1) (by decide : B 0 0 0) (by decide)))
          refine ev_aload_n rfl rfl rfl ?_
          refine ev_getR (y := 55) rfl rfl fl_X9_71 rfl rfl rfl rfl ?_
          refine ev_iload rfl rfl rfl ?_
          refine ev_V1P rfl rfl lk_X9_255 vt_X5_has rfl rfl rfl rfl rfl (w_X5_has_55 L b h hJ0.1 a3) (fun r23 q23 => ?_)
          obtain ⟨b23, p23_0⟩ := q23
          refine ev_if_eq rfl rfl (fun c24 => ?_) (fun c24 => ?_)
          · have b25 : B r23 0 0 := R_eqX b23 (by decide : B 0 0 0) c24
            refine ev_sipush (v := (-1000)) rfl rfl (by decide) ?_
            exact ev_iret rfl rfl rfl ⟨⟨_, rfl, ((by decide : B (-1000) (-1000) (-1000)).mono (by decide) (by decide))⟩, rfl, hJ0⟩
          · have b26 : B r23 1 1 := R_neL b23 (by decide : B 0 0 0) c24 (by decide)
            have b27 : B a3 0 3 := p23_0 c24
            refine ev_aload_n rfl rfl rfl ?_
            refine ev_getR (y := 55) rfl rfl fl_X9_71 rfl rfl rfl rfl ?_
            refine ev_iload rfl rfl rfl ?_
            refine ev_V1P rfl rfl lk_X9_256 vt_X5_isLane rfl rfl rfl rfl rfl (w_X5_isLane_55 L b h hJ0.1 a4) (fun r28 q28 => ?_)
            obtain ⟨b28, p28_0⟩ := q28
            refine ev_if_ne rfl rfl (fun c29 => ?_) (fun c29 => ?_)
            · have b30 : B r28 1 1 := R_neL b28 (by decide : B 0 0 0) c29 (by decide)
              have b31 : B a4 0 2 := p28_0 c29
              refine ev_aload_n rfl rfl rfl ?_
              refine ev_getR (y := 28) rfl rfl fl_X9_43 rfl rfl rfl rfl ?_
              refine ev_iload_n rfl rfl rfl ?_
              refine ev_iload_n rfl rfl rfl ?_
              refine ev_aload_n rfl rfl rfl ?_
              refine ev_getR (y := 4) rfl rfl fl_X9_22 rfl rfl rfl rfl ?_
              refine ev_getW (l := 0) (u := 12) hJ0.1 rfl rfl rfl fl_X9_158 rfl rfl rfl (fun v33 b33 e33 => ?_)
              refine ev_V3P rfl rfl lk_X9_230 vt_X7_goes rfl rfl rfl rfl rfl (w_goesK L b h hJ0.1 a0 a1 v33 b10 b15 b33) (fun r34 q34 => ?_)
              obtain ⟨b34, pp34_0⟩ := q34
              refine ev_if_ne rfl rfl (fun c35 => ?_) (fun c35 => ?_)
              · have b36 : B r34 1 1 := R_neL b34 (by decide : B 0 0 0) c35 (by decide)
                refine ev_aload_n rfl rfl rfl ?_
                refine ev_getR (y := 55) rfl rfl fl_X9_71 rfl rfl rfl rfl ?_
                refine ev_iload rfl rfl rfl ?_
                refine ev_iload rfl rfl rfl ?_
                refine ev_V2P rfl rfl lk_X9_259 vt_X5_faultAs rfl rfl rfl rfl rfl (w_X5_faultAs_55 L b h hJ0.1 a3 b27 a4) (fun r38 q38 => ?_)
                refine ev_istore rfl rfl rfl rfl ?_
                dsimp only [List.set]
                refine ev_iload rfl rfl rfl ?_
                refine ev_if_ne rfl rfl (fun c39 => ?_) (fun c39 => ?_)
                · have b40 : B r38 1 3 := R_neL q38 (by decide : B 0 0 0) c39 (by decide)
                  refine ev_iload rfl rfl rfl ?_
                  refine ev_if_eq rfl rfl (fun c42 => absurd c42 (D_ne b40 (by decide : B 0 0 0) (by decide))) (fun c42 => ?_)
                  refine ev_sipush (v := (-1010)) rfl rfl (by decide) ?_
                  refine ev_iload rfl rfl rfl ?_
                  refine ev_isubB (l := -1013) (u := -1011) rfl rfl (by decide : B (-1010) (-1010) (-1010)) b40 (by decide) (by decide) (by decide) (by decide) (fun v43 b43 e43 g43 => ?_)
                  exact ev_iret rfl rfl rfl ⟨⟨_, rfl, (b43.mono (by decide) (by decide))⟩, rfl, hJ0⟩
                · have b41 : B r38 0 0 := R_eqX q38 (by decide : B 0 0 0) c39
                  refine ev_aload_n rfl rfl rfl ?_
                  refine ev_iload_n rfl rfl rfl ?_
                  refine ev_iload_n rfl rfl rfl ?_
                  refine ev_iload rfl rfl rfl ?_
                  refine ev_iload rfl rfl rfl ?_
                  refine ev_V4J hJ0 rfl rfl rfl lk_X9_262 vt_X9_takeHeard rfl rfl rfl rfl rfl (w_X9_takeHeard_1 L b h hJ0.1 a0 b10 a1 b15 a3 b27 a5 (pp34_0 c35)) (fun r44 h44 q44 hJ44 k44 => ?_)
                  refine ev_istore rfl rfl rfl rfl ?_
                  dsimp only [List.set]
                  refine ev_iload rfl rfl rfl ?_
                  refine ev_if_eq rfl rfl (fun c45 => ?_) (fun c45 => ?_)
                  · have b46 : B r44 0 0 := R_eqX q44 (by decide : B 0 0 0) c45
                    refine ev_aload_n rfl rfl rfl ?_
                    refine ev_getR (y := 45) rfl rfl fl_X9_57 rfl rfl rfl rfl ?_
                    refine ev_aload_n rfl rfl rfl ?_
                    refine ev_getR (y := 2) rfl rfl fl_X9_10 rfl rfl rfl rfl ?_
                    refine ev_aload_n rfl rfl rfl ?_
                    refine ev_getR (y := 4) rfl rfl fl_X9_22 rfl rfl rfl rfl ?_
                    refine ev_iload_n rfl rfl rfl ?_
                    refine ev_V3J hJ44 rfl rfl rfl lk_X9_266 vt_X6_find rfl rfl rfl rfl rfl (w_X6_find_45_2_4 L b h44 hJ44.1 a2 b21) (fun r48 h48 q48 hJ48 k48 => ?_)
                    refine ev_if_eq rfl rfl (fun c49 => ?_) (fun c49 => ?_)
                    · have b50 : B r48 0 0 := R_eqX q48 (by decide : B 0 0 0) c49
                      refine ev_sipush (v := (-1004)) rfl rfl (by decide) ?_
                      exact ev_iret rfl rfl rfl ⟨⟨_, rfl, ((by decide : B (-1004) (-1004) (-1004)).mono (by decide) (by decide))⟩, rfl, hJ48⟩
                    · have b51 : B r48 1 1 := R_neL q48 (by decide : B 0 0 0) c49 (by decide)
                      refine ev_aload_n rfl rfl rfl ?_
                      refine ev_getR (y := 45) rfl rfl fl_X9_57 rfl rfl rfl rfl ?_
                      refine ev_iload rfl rfl rfl ?_
                      refine ev_V1P rfl rfl lk_X9_270 vt_X6_answer rfl rfl rfl rfl rfl (w_X6_answer_45_v0_2 L b h48 hJ48.1 a6 b4) (fun r52 q52 => ?_)
                      refine ev_goto rfl rfl ?_
                      exact ev_iret rfl rfl rfl ⟨⟨_, rfl, (B.any r52)⟩, rfl, hJ48⟩
                  · have b47 : B r44 1 2 := R_neL q44 (by decide : B 0 0 0) c45 (by decide)
                    refine ev_sipush (v := (-1010)) rfl rfl (by decide) ?_
                    refine ev_iload rfl rfl rfl ?_
                    refine ev_isubB (l := -1012) (u := -1011) rfl rfl (by decide : B (-1010) (-1010) (-1010)) b47 (by decide) (by decide) (by decide) (by decide) (fun v53 b53 e53 g53 => ?_)
                    exact ev_iret rfl rfl rfl ⟨⟨_, rfl, (b53.mono (by decide) (by decide))⟩, rfl, hJ44⟩
              · have b37 : B r34 0 0 := R_eqX b34 (by decide : B 0 0 0) c35
                refine ev_sipush (v := (-1002)) rfl rfl (by decide) ?_
                exact ev_iret rfl rfl rfl ⟨⟨_, rfl, ((by decide : B (-1002) (-1002) (-1002)).mono (by decide) (by decide))⟩, rfl, hJ0⟩
            · have b32 : B r28 0 0 := R_eqX b28 (by decide : B 0 0 0) c29
              refine ev_sipush (v := (-1000)) rfl rfl (by decide) ?_
              exact ev_iret rfl rfl rfl ⟨⟨_, rfl, ((by decide : B (-1000) (-1000) (-1000)).mono (by decide) (by decide))⟩, rfl, hJ0⟩
  · have b5 : B r1 0 0 := R_eqX b1 (by decide : B 0 0 0) c2
    refine ev_iload rfl rfl rfl ?_
    refine ev_bipush (v := 20) rfl rfl (by decide) ?_
    refine ev_icmp_lt rfl rfl (fun c54 => ?_) (fun c54 => ?_)
    · have b55 : B a6 (-2147483648) 19 := R_ltX (B.any a6) (by decide : B 20 20 20) c54 (by decide)
      refine ev_iconst (v := 0) rfl rfl (by decide) ?_
      refine ev_istore rfl rfl rfl rfl ?_
      dsimp only [List.set]
      refine ev_aload_n rfl rfl rfl ?_
      refine ev_getR (y := 28) rfl rfl fl_X9_43 rfl rfl rfl rfl ?_
      refine ev_iload_n rfl rfl rfl ?_
      refine ev_V1P rfl rfl lk_X9_195 vt_X7_has rfl rfl rfl rfl rfl (w_X7_has_28 L b h hJ0.1 a0) (fun r57 q57 => ?_)
      obtain ⟨b57, p57_0⟩ := q57
      refine ev_if_eq rfl rfl (fun c58 => ?_) (fun c58 => ?_)
      · have b59 : B r57 0 0 := R_eqX b57 (by decide : B 0 0 0) c58
        refine ev_sipush (v := (-1000)) rfl rfl (by decide) ?_
        exact ev_iret rfl rfl rfl ⟨⟨_, rfl, ((by decide : B (-1000) (-1000) (-1000)).mono (by decide) (by decide))⟩, rfl, hJ0⟩
      · have b60 : B r57 1 1 := R_neL b57 (by decide : B 0 0 0) c58 (by decide)
        have b61 : B a0 0 5 := p57_0 c58
        refine ev_iload_n rfl rfl rfl ?_
        refine ev_S1P rfl rfl lk_X9_227 st_X9_isKey rfl rfl (w_X9_isKey L b h hJ0.1 a1) (fun r62 q62 => ?_)
        obtain ⟨b62, p62_0⟩ := q62
        refine ev_if_eq rfl rfl (fun c63 => ?_) (fun c63 => ?_)
        · have b64 : B r62 0 0 := R_eqX b62 (by decide : B 0 0 0) c63
          refine ev_sipush (v := (-1000)) rfl rfl (by decide) ?_
          exact ev_iret rfl rfl rfl ⟨⟨_, rfl, ((by decide : B (-1000) (-1000) (-1000)).mono (by decide) (by decide))⟩, rfl, hJ0⟩
        · have b65 : B r62 1 1 := R_neL b62 (by decide : B 0 0 0) c63 (by decide)
          have b66 : B a1 (-11) 11 := p62_0 c63
          refine ev_iload_n rfl rfl rfl ?_
          refine ev_iconst (v := 0) rfl rfl (by decide) ?_
          refine ev_aload_n rfl rfl rfl ?_
          refine ev_getR (y := 2) rfl rfl fl_X9_10 rfl rfl rfl rfl ?_
          refine ev_getW (l := 0) (u := 200) hJ0.1 rfl rfl rfl fl_X9_96 rfl rfl rfl (fun v67 b67 e67 => ?_)
          refine ev_S3P rfl rfl lk_X9_75 st_X9_isWithin rfl rfl (w_isWithin (G0 L b) h a2 0 v67 (by decide : B 0 0 0) b67) (fun r68 q68 => ?_)
          obtain ⟨b68, p68_0⟩ := q68
          refine ev_if_eq rfl rfl (fun c69 => ?_) (fun c69 => ?_)
          · have b70 : B r68 0 0 := R_eqX b68 (by decide : B 0 0 0) c69
            refine ev_sipush (v := (-1000)) rfl rfl (by decide) ?_
            exact ev_iret rfl rfl rfl ⟨⟨_, rfl, ((by decide : B (-1000) (-1000) (-1000)).mono (by decide) (by decide))⟩, rfl, hJ0⟩
          · have b71 : B r68 1 1 := R_neL b68 (by decide : B 0 0 0) c69 (by decide)
            have b72 : B a2 0 200 := p68_0 c69
            refine ev_iload rfl rfl rfl ?_
            refine ev_if_ne rfl rfl (fun c73 => absurd (D_eq (by decide : B 0 0 0) (by decide : B 0 0 0)) c73) (fun c73 => ?_)
            refine ev_sipush (v := (-1000)) rfl rfl (by decide) ?_
            exact ev_iret rfl rfl rfl ⟨⟨_, rfl, ((by decide : B (-1000) (-1000) (-1000)).mono (by decide) (by decide))⟩, rfl, hJ0⟩
    · have b56 : B a6 20 2147483647 := R_leY (by decide : B 20 20 20) (B.any a6) (Int32.not_lt.mp c54) (by decide)
      refine ev_aload_n rfl rfl rfl ?_
      refine ev_getR (y := 4) rfl rfl fl_X9_22 rfl rfl rfl rfl ?_
      refine ev_iload rfl rfl rfl ?_
      refine ev_bipush (v := 20) rfl rfl (by decide) ?_
      refine ev_isubB (l := 0) (u := 2147483627) rfl rfl b56 (by decide : B 20 20 20) (by decide) (by decide) (by decide) (by decide) (fun v74 b74 e74 g74 => ?_)
      refine ev_V1P rfl rfl lk_X9_126 vt_X8_has rfl rfl rfl rfl rfl (w_X8_has_4 L b h hJ0.1 v74) (fun r75 q75 => ?_)
      obtain ⟨b75, p75_0⟩ := q75
      refine ev_if_eq rfl rfl (fun c76 => ?_) (fun c76 => ?_)
      · have b77 : B r75 0 0 := R_eqX b75 (by decide : B 0 0 0) c76
        refine ev_iconst (v := 0) rfl rfl (by decide) ?_
        refine ev_istore rfl rfl rfl rfl ?_
        dsimp only [List.set]
        refine ev_aload_n rfl rfl rfl ?_
        refine ev_getR (y := 28) rfl rfl fl_X9_43 rfl rfl rfl rfl ?_
        refine ev_iload_n rfl rfl rfl ?_
        refine ev_V1P rfl rfl lk_X9_195 vt_X7_has rfl rfl rfl rfl rfl (w_X7_has_28 L b h hJ0.1 a0) (fun r81 q81 => ?_)
        obtain ⟨b81, p81_0⟩ := q81
        refine ev_if_eq rfl rfl (fun c82 => ?_) (fun c82 => ?_)
        · have b83 : B r81 0 0 := R_eqX b81 (by decide : B 0 0 0) c82
          refine ev_sipush (v := (-1000)) rfl rfl (by decide) ?_
          exact ev_iret rfl rfl rfl ⟨⟨_, rfl, ((by decide : B (-1000) (-1000) (-1000)).mono (by decide) (by decide))⟩, rfl, hJ0⟩
        · have b84 : B r81 1 1 := R_neL b81 (by decide : B 0 0 0) c82 (by decide)
          have b85 : B a0 0 5 := p81_0 c82
          refine ev_iload_n rfl rfl rfl ?_
          refine ev_S1P rfl rfl lk_X9_227 st_X9_isKey rfl rfl (w_X9_isKey L b h hJ0.1 a1) (fun r86 q86 => ?_)
          obtain ⟨b86, p86_0⟩ := q86
          refine ev_if_eq rfl rfl (fun c87 => ?_) (fun c87 => ?_)
          · have b88 : B r86 0 0 := R_eqX b86 (by decide : B 0 0 0) c87
            refine ev_sipush (v := (-1000)) rfl rfl (by decide) ?_
            exact ev_iret rfl rfl rfl ⟨⟨_, rfl, ((by decide : B (-1000) (-1000) (-1000)).mono (by decide) (by decide))⟩, rfl, hJ0⟩
          · have b89 : B r86 1 1 := R_neL b86 (by decide : B 0 0 0) c87 (by decide)
            have b90 : B a1 (-11) 11 := p86_0 c87
            refine ev_iload_n rfl rfl rfl ?_
            refine ev_iconst (v := 0) rfl rfl (by decide) ?_
            refine ev_aload_n rfl rfl rfl ?_
            refine ev_getR (y := 2) rfl rfl fl_X9_10 rfl rfl rfl rfl ?_
            refine ev_getW (l := 0) (u := 200) hJ0.1 rfl rfl rfl fl_X9_96 rfl rfl rfl (fun v91 b91 e91 => ?_)
            refine ev_S3P rfl rfl lk_X9_75 st_X9_isWithin rfl rfl (w_isWithin (G0 L b) h a2 0 v91 (by decide : B 0 0 0) b91) (fun r92 q92 => ?_)
            obtain ⟨b92, p92_0⟩ := q92
            refine ev_if_eq rfl rfl (fun c93 => ?_) (fun c93 => ?_)
            · have b94 : B r92 0 0 := R_eqX b92 (by decide : B 0 0 0) c93
              refine ev_sipush (v := (-1000)) rfl rfl (by decide) ?_
              exact ev_iret rfl rfl rfl ⟨⟨_, rfl, ((by decide : B (-1000) (-1000) (-1000)).mono (by decide) (by decide))⟩, rfl, hJ0⟩
            · have b95 : B r92 1 1 := R_neL b92 (by decide : B 0 0 0) c93 (by decide)
              have b96 : B a2 0 200 := p92_0 c93
              refine ev_iload rfl rfl rfl ?_
              refine ev_if_ne rfl rfl (fun c97 => absurd (D_eq (by decide : B 0 0 0) (by decide : B 0 0 0)) c97) (fun c97 => ?_)
              refine ev_sipush (v := (-1000)) rfl rfl (by decide) ?_
              exact ev_iret rfl rfl rfl ⟨⟨_, rfl, ((by decide : B (-1000) (-1000) (-1000)).mono (by decide) (by decide))⟩, rfl, hJ0⟩
      · have b78 : B r75 1 1 := R_neL b75 (by decide : B 0 0 0) c76 (by decide)
        have b79 : B v74 0 11 := p75_0 c76
        have b80 : B a6 20 31 := (R_bks (l' := 20) (u' := 31) e74 b79 (by decide : B 20 20 20) (by decide) (by decide))
        refine ev_iconst (v := 1) rfl rfl (by decide) ?_
        refine ev_goto rfl rfl ?_
        refine ev_istore rfl rfl rfl rfl ?_
        dsimp only [List.set]
        refine ev_aload_n rfl rfl rfl ?_
        refine ev_getR (y := 28) rfl rfl fl_X9_43 rfl rfl rfl rfl ?_
        refine ev_iload_n rfl rfl rfl ?_
        refine ev_V1P rfl rfl lk_X9_195 vt_X7_has rfl rfl rfl rfl rfl (w_X7_has_28 L b h hJ0.1 a0) (fun r98 q98 => ?_)
        obtain ⟨b98, p98_0⟩ := q98
        refine ev_if_eq rfl rfl (fun c99 => ?_) (fun c99 => ?_)
        · have b100 : B r98 0 0 := R_eqX b98 (by decide : B 0 0 0) c99
          refine ev_sipush (v := (-1000)) rfl rfl (by decide) ?_
          exact ev_iret rfl rfl rfl ⟨⟨_, rfl, ((by decide : B (-1000) (-1000) (-1000)).mono (by decide) (by decide))⟩, rfl, hJ0⟩
        · have b101 : B r98 1 1 := R_neL b98 (by decide : B 0 0 0) c99 (by decide)
          have b102 : B a0 0 5 := p98_0 c99
          refine ev_iload_n rfl rfl rfl ?_
          refine ev_S1P rfl rfl lk_X9_227 st_X9_isKey rfl rfl (w_X9_isKey L b h hJ0.1 a1) (fun r103 q103 => ?_)
          obtain ⟨b103, p103_0⟩ := q103
          refine ev_if_eq rfl rfl (fun c104 => ?_) (fun c104 => ?_)
          · have b105 : B r103 0 0 := R_eqX b103 (by decide : B 0 0 0) c104
            refine ev_sipush (v := (-1000)) rfl rfl (by decide) ?_
            exact ev_iret rfl rfl rfl ⟨⟨_, rfl, ((by decide : B (-1000) (-1000) (-1000)).mono (by decide) (by decide))⟩, rfl, hJ0⟩
          · have b106 : B r103 1 1 := R_neL b103 (by decide : B 0 0 0) c104 (by decide)
            have b107 : B a1 (-11) 11 := p103_0 c104
            refine ev_iload_n rfl rfl rfl ?_
            refine ev_iconst (v := 0) rfl rfl (by decide) ?_
            refine ev_aload_n rfl rfl rfl ?_
            refine ev_getR (y := 2) rfl rfl fl_X9_10 rfl rfl rfl rfl ?_
            refine ev_getW (l := 0) (u := 200) hJ0.1 rfl rfl rfl fl_X9_96 rfl rfl rfl (fun v108 b108 e108 => ?_)
            refine ev_S3P rfl rfl lk_X9_75 st_X9_isWithin rfl rfl (w_isWithin (G0 L b) h a2 0 v108 (by decide : B 0 0 0) b108) (fun r109 q109 => ?_)
            obtain ⟨b109, p109_0⟩ := q109
            refine ev_if_eq rfl rfl (fun c110 => ?_) (fun c110 => ?_)
            · have b111 : B r109 0 0 := R_eqX b109 (by decide : B 0 0 0) c110
              refine ev_sipush (v := (-1000)) rfl rfl (by decide) ?_
              exact ev_iret rfl rfl rfl ⟨⟨_, rfl, ((by decide : B (-1000) (-1000) (-1000)).mono (by decide) (by decide))⟩, rfl, hJ0⟩
            · have b112 : B r109 1 1 := R_neL b109 (by decide : B 0 0 0) c110 (by decide)
              have b113 : B a2 0 200 := p109_0 c110
              refine ev_iload rfl rfl rfl ?_
              refine ev_if_ne rfl rfl (fun c114 => ?_) (fun c114 => absurd c114 (D_ne (by decide : B 1 1 1) (by decide : B 0 0 0) (by decide)))
              refine ev_aload_n rfl rfl rfl ?_
              refine ev_getR (y := 55) rfl rfl fl_X9_71 rfl rfl rfl rfl ?_
              refine ev_iload rfl rfl rfl ?_
              refine ev_V1P rfl rfl lk_X9_255 vt_X5_has rfl rfl rfl rfl rfl (w_X5_has_55 L b h hJ0.1 a3) (fun r115 q115 => ?_)
              obtain ⟨b115, p115_0⟩ := q115
              refine ev_if_eq rfl rfl (fun c116 => ?_) (fun c116 => ?_)
              · have b117 : B r115 0 0 := R_eqX b115 (by decide : B 0 0 0) c116
                refine ev_sipush (v := (-1000)) rfl rfl (by decide) ?_
                exact ev_iret rfl rfl rfl ⟨⟨_, rfl, ((by decide : B (-1000) (-1000) (-1000)).mono (by decide) (by decide))⟩, rfl, hJ0⟩
              · have b118 : B r115 1 1 := R_neL b115 (by decide : B 0 0 0) c116 (by decide)
                have b119 : B a3 0 3 := p115_0 c116
                refine ev_aload_n rfl rfl rfl ?_
                refine ev_getR (y := 55) rfl rfl fl_X9_71 rfl rfl rfl rfl ?_
                refine ev_iload rfl rfl rfl ?_
                refine ev_V1P rfl rfl lk_X9_256 vt_X5_isLane rfl rfl rfl rfl rfl (w_X5_isLane_55 L b h hJ0.1 a4) (fun r120 q120 => ?_)
                obtain ⟨b120, p120_0⟩ := q120
                refine ev_if_ne rfl rfl (fun c121 => ?_) (fun c121 => ?_)
                · have b122 : B r120 1 1 := R_neL b120 (by decide : B 0 0 0) c121 (by decide)
                  have b123 : B a4 0 2 := p120_0 c121
                  refine ev_aload_n rfl rfl rfl ?_
                  refine ev_getR (y := 28) rfl rfl fl_X9_43 rfl rfl rfl rfl ?_
                  refine ev_iload_n rfl rfl rfl ?_
                  refine ev_iload_n rfl rfl rfl ?_
                  refine ev_aload_n rfl rfl rfl ?_
                  refine ev_getR (y := 4) rfl rfl fl_X9_22 rfl rfl rfl rfl ?_
                  refine ev_getW (l := 0) (u := 12) hJ0.1 rfl rfl rfl fl_X9_158 rfl rfl rfl (fun v125 b125 e125 => ?_)
                  refine ev_V3P rfl rfl lk_X9_230 vt_X7_goes rfl rfl rfl rfl rfl (w_goesK L b h hJ0.1 a0 a1 v125 b102 b107 b125) (fun r126 q126 => ?_)
                  obtain ⟨b126, pp126_0⟩ := q126
                  refine ev_if_ne rfl rfl (fun c127 => ?_) (fun c127 => ?_)
                  · have b128 : B r126 1 1 := R_neL b126 (by decide : B 0 0 0) c127 (by decide)
                    refine ev_aload_n rfl rfl rfl ?_
                    refine ev_getR (y := 55) rfl rfl fl_X9_71 rfl rfl rfl rfl ?_
                    refine ev_iload rfl rfl rfl ?_
                    refine ev_iload rfl rfl rfl ?_
                    refine ev_V2P rfl rfl lk_X9_259 vt_X5_faultAs rfl rfl rfl rfl rfl (w_X5_faultAs_55 L b h hJ0.1 a3 b119 a4) (fun r130 q130 => ?_)
                    refine ev_istore rfl rfl rfl rfl ?_
                    dsimp only [List.set]
                    refine ev_iload rfl rfl rfl ?_
                    refine ev_if_ne rfl rfl (fun c131 => ?_) (fun c131 => ?_)
                    · have b132 : B r130 1 3 := R_neL q130 (by decide : B 0 0 0) c131 (by decide)
                      refine ev_iload rfl rfl rfl ?_
                      refine ev_if_eq rfl rfl (fun c134 => absurd c134 (D_ne b132 (by decide : B 0 0 0) (by decide))) (fun c134 => ?_)
                      refine ev_sipush (v := (-1010)) rfl rfl (by decide) ?_
                      refine ev_iload rfl rfl rfl ?_
                      refine ev_isubB (l := -1013) (u := -1011) rfl rfl (by decide : B (-1010) (-1010) (-1010)) b132 (by decide) (by decide) (by decide) (by decide) (fun v135 b135 e135 g135 => ?_)
                      exact ev_iret rfl rfl rfl ⟨⟨_, rfl, (b135.mono (by decide) (by decide))⟩, rfl, hJ0⟩
                    · have b133 : B r130 0 0 := R_eqX q130 (by decide : B 0 0 0) c131
                      refine ev_aload_n rfl rfl rfl ?_
                      refine ev_iload_n rfl rfl rfl ?_
                      refine ev_iload_n rfl rfl rfl ?_
                      refine ev_iload rfl rfl rfl ?_
                      refine ev_iload rfl rfl rfl ?_
                      refine ev_V4J hJ0 rfl rfl rfl lk_X9_262 vt_X9_takeHeard rfl rfl rfl rfl rfl (w_X9_takeHeard_1 L b h hJ0.1 a0 b102 a1 b107 a3 b119 a5 (pp126_0 c127)) (fun r136 h136 q136 hJ136 k136 => ?_)
                      refine ev_istore rfl rfl rfl rfl ?_
                      dsimp only [List.set]
                      refine ev_iload rfl rfl rfl ?_
                      refine ev_if_eq rfl rfl (fun c137 => ?_) (fun c137 => ?_)
                      · have b138 : B r136 0 0 := R_eqX q136 (by decide : B 0 0 0) c137
                        refine ev_aload_n rfl rfl rfl ?_
                        refine ev_getR (y := 45) rfl rfl fl_X9_57 rfl rfl rfl rfl ?_
                        refine ev_aload_n rfl rfl rfl ?_
                        refine ev_getR (y := 2) rfl rfl fl_X9_10 rfl rfl rfl rfl ?_
                        refine ev_aload_n rfl rfl rfl ?_
                        refine ev_getR (y := 4) rfl rfl fl_X9_22 rfl rfl rfl rfl ?_
                        refine ev_iload_n rfl rfl rfl ?_
                        refine ev_V3J hJ136 rfl rfl rfl lk_X9_266 vt_X6_find rfl rfl rfl rfl rfl (w_X6_find_45_2_4 L b h136 hJ136.1 a2 b113) (fun r140 h140 q140 hJ140 k140 => ?_)
                        refine ev_if_eq rfl rfl (fun c141 => ?_) (fun c141 => ?_)
                        · have b142 : B r140 0 0 := R_eqX q140 (by decide : B 0 0 0) c141
                          refine ev_sipush (v := (-1004)) rfl rfl (by decide) ?_
                          exact ev_iret rfl rfl rfl ⟨⟨_, rfl, ((by decide : B (-1004) (-1004) (-1004)).mono (by decide) (by decide))⟩, rfl, hJ140⟩
                        · have b143 : B r140 1 1 := R_neL q140 (by decide : B 0 0 0) c141 (by decide)
                          refine ev_aload_n rfl rfl rfl ?_
                          refine ev_getR (y := 45) rfl rfl fl_X9_57 rfl rfl rfl rfl ?_
                          refine ev_iload rfl rfl rfl ?_
                          refine ev_V1P rfl rfl lk_X9_270 vt_X6_answer rfl rfl rfl rfl rfl (w_X6_answer_45_v20_31 L b h140 hJ140.1 a6 b80) (fun r144 q144 => ?_)
                          refine ev_goto rfl rfl ?_
                          exact ev_iret rfl rfl rfl ⟨⟨_, rfl, (B.any r144)⟩, rfl, hJ140⟩
                      · have b139 : B r136 1 2 := R_neL q136 (by decide : B 0 0 0) c137 (by decide)
                        refine ev_sipush (v := (-1010)) rfl rfl (by decide) ?_
                        refine ev_iload rfl rfl rfl ?_
                        refine ev_isubB (l := -1012) (u := -1011) rfl rfl (by decide : B (-1010) (-1010) (-1010)) b139 (by decide) (by decide) (by decide) (by decide) (fun v145 b145 e145 g145 => ?_)
                        exact ev_iret rfl rfl rfl ⟨⟨_, rfl, (b145.mono (by decide) (by decide))⟩, rfl, hJ136⟩
                  · have b129 : B r126 0 0 := R_eqX b126 (by decide : B 0 0 0) c127
                    refine ev_sipush (v := (-1002)) rfl rfl (by decide) ?_
                    exact ev_iret rfl rfl rfl ⟨⟨_, rfl, ((by decide : B (-1002) (-1002) (-1002)).mono (by decide) (by decide))⟩, rfl, hJ0⟩
                · have b124 : B r120 0 0 := R_eqX b120 (by decide : B 0 0 0) c121
                  refine ev_sipush (v := (-1000)) rfl rfl (by decide) ?_
                  exact ev_iret rfl rfl rfl ⟨⟨_, rfl, ((by decide : B (-1000) (-1000) (-1000)).mono (by decide) (by decide))⟩, rfl, hJ0⟩

