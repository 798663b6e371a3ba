set_option maxRecDepth 100000 in
set_option maxHeartbeats 4000000 in
theorem w_X9_set_d_1 (L : Nat) (h : Hp) (hB : Bx h) (a0 : Int32) (a1 : Int32) (a2 : Int32) (a3 : Int32) (a4 : Int32) (hz : ∀ j, h 95 j = 0) (hs : h 37 15 = 0) : EvM mi_X9_set [.ref 1, .int a0, .int a1, .int a2, .int a3, .int a4] (G0 L false) h 0 0 (fun v G' h' => (∃ r, v = some (.int r)) ∧ G' = G0 L false ∧ h' = h) ∨ EvM mi_X9_set [.ref 1, .int a0, .int a1, .int a2, .int a3, .int a4] (G0 L false) h 1 45225 (fun v G' h' => (∃ r, v = some (.int r)) ∧ G' = G0 L true ∧ JW [(37, 3), (37, 4), (37, 7), (37, 8), (37, 11), (37, 12), (37, 13), (37, 15), (38, 999), (39, 999), (40, 999), (41, 999), (42, 999), (43, 999), (44, 999), (95, 999)] h h') := by
  refine Or.imp (EvM.of2 (lo := [some (.ref 1), some (.int a0), some (.int a1), some (.int a2), some (.int a3), some (.int a4), none]) pf_X9_set ok_X9_set rfl rfl) (EvM.of2 (lo := [some (.ref 1), some (.int a0), some (.int a1), some (.int a2), some (.int a3), some (.int a4), none]) pf_X9_set ok_X9_set rfl rfl) ?_
  have hJ0 : JW [(37, 3), (37, 4), (37, 7), (37, 8), (37, 11), (37, 12), (37, 13), (37, 15), (38, 999), (39, 999), (40, 999), (41, 999), (42, 999), (43, 999), (44, 999), (95, 999)] h h := JW.refl hB
  refine Or.imp (fun z_ => ev_iload rfl rfl rfl z_) (fun z_ => ev_iload rfl rfl rfl z_) ?_
  refine Or.imp (fun z_ => ev_iconst (v := 0) rfl rfl (by decide) z_) (fun z_ => ev_iconst (v := 0) rfl rfl (by decide) z_) ?_
  refine Or.imp (fun z_ => ev_iconst (v := 2) rfl rfl (by decide) z_) (fun z_ => ev_iconst (v := 2) rfl rfl (by decide) z_) ?_
  refine Or.imp (fun z_ => ev_S3D rfl rfl lk_X9_75 st_X9_isWithin rfl rfl (c_isWithin _ _ a4 0 2) z_) (fun z_ => ev_S3D rfl rfl lk_X9_75 st_X9_isWithin rfl rfl (c_isWithin _ _ a4 0 2) z_) ?_
  by_cases c1 : (z_wi a4 0 2) = 0
  · refine Or.imp (fun z_ => ev_if_ne rfl rfl (fun n_ => absurd c1 n_) (fun _ => z_)) (fun z_ => ev_if_ne rfl rfl (fun n_ => absurd c1 n_) (fun _ => z_)) ?_
    have b4 : B (z_wi a4 0 2) 0 0 := R_eqX (z_wi_01 a4 0 2) (by decide : B 0 0 0) c1
    refine Or.imp (fun z_ => ev_aload_n rfl rfl rfl z_) (fun z_ => ev_aload_n rfl rfl rfl z_) ?_
    refine Or.imp (fun z_ => ev_iload_n rfl rfl rfl z_) (fun z_ => ev_iload_n rfl rfl rfl z_) ?_
    refine Or.imp (fun z_ => ev_iload rfl rfl rfl z_) (fun z_ => ev_iload rfl rfl rfl z_) ?_
    refine Or.imp (fun z_ => ev_bipush (v := 10) rfl rfl (by decide) z_) (fun z_ => ev_bipush (v := 10) rfl rfl (by decide) z_) ?_
    refine Or.imp (fun z_ => ev_V3D rfl rfl lk_X9_210 vt_X9_isBeat rfl rfl rfl rfl rfl (c_isBeatE L false h hB a0 a4 10) z_) (fun z_ => ev_V3D rfl rfl lk_X9_210 vt_X9_isBeat rfl rfl rfl rfl rfl (c_isBeatE L false h hB a0 a4 10) z_) ?_
    by_cases c29 : (z_isBeat h a0 a4 10) = 0
    · refine Or.imp (fun z_ => ev_if_ne rfl rfl (fun n_ => absurd c29 n_) (fun _ => z_)) (fun z_ => ev_if_ne rfl rfl (fun n_ => absurd c29 n_) (fun _ => z_)) ?_
      have b31 : B (z_isBeat h a0 a4 10) 0 0 := R_eqX (B.any (z_isBeat h a0 a4 10)) (by decide : B 0 0 0) c29
      refine Or.imp (fun z_ => ev_aload_n rfl rfl rfl z_) (fun z_ => ev_aload_n rfl rfl rfl z_) ?_
      refine Or.imp (fun z_ => ev_iload_n rfl rfl rfl z_) (fun z_ => ev_iload_n rfl rfl rfl z_) ?_
      refine Or.imp (fun z_ => ev_iload rfl rfl rfl z_) (fun z_ => ev_iload rfl rfl rfl z_) ?_
      refine Or.imp (fun z_ => ev_bipush (v := 40) rfl rfl (by decide) z_) (fun z_ => ev_bipush (v := 40) rfl rfl (by decide) z_) ?_
      refine Or.imp (fun z_ => ev_V3D rfl rfl lk_X9_210 vt_X9_isBeat rfl rfl rfl rfl rfl (c_isBeatE L false h hB a0 a4 40) z_) (fun z_ => ev_V3D rfl rfl lk_X9_210 vt_X9_isBeat rfl rfl rfl rfl rfl (c_isBeatE L false h hB a0 a4 40) z_) ?_
      by_cases c56 : (z_isBeat h a0 a4 40) = 0
      · refine Or.imp (fun z_ => ev_if_eq rfl rfl (fun _ => z_) (fun n_ => absurd c56 n_)) (fun z_ => ev_if_eq rfl rfl (fun _ => z_) (fun n_ => absurd c56 n_)) ?_
        have b57 : B (z_isBeat h a0 a4 40) 0 0 := R_eqX (B.any (z_isBeat h a0 a4 40)) (by decide : B 0 0 0) c56
        refine Or.imp (fun z_ => ev_iconst (v := 0) rfl rfl (by decide) z_) (fun z_ => ev_iconst (v := 0) rfl rfl (by decide) z_) ?_
        refine Or.imp (fun z_ => ev_istore rfl rfl rfl rfl z_) (fun z_ => ev_istore rfl rfl rfl rfl z_) ?_
        dsimp only [List.set]
        refine Or.imp (fun z_ => ev_aload_n rfl rfl rfl z_) (fun z_ => ev_aload_n rfl rfl rfl z_) ?_
        refine Or.imp (fun z_ => ev_getR (y := 28) rfl rfl fl_X9_43 rfl rfl rfl rfl z_) (fun z_ => ev_getR (y := 28) rfl rfl fl_X9_43 rfl rfl rfl rfl z_) ?_
        refine Or.imp (fun z_ => ev_iload_n rfl rfl rfl z_) (fun z_ => ev_iload_n rfl rfl rfl z_) ?_
        refine Or.imp (fun z_ => ev_V1D rfl rfl lk_X9_195 vt_X7_has rfl rfl rfl rfl rfl (c_X7_hasE L false h a0) z_) (fun z_ => ev_V1D rfl rfl lk_X9_195 vt_X7_has rfl rfl rfl rfl rfl (c_X7_hasE L false h a0) z_) ?_
        by_cases c59 : (z_has a0 (h 28 2)) = 0
        · refine Or.imp (fun z_ => ev_if_eq rfl rfl (fun _ => z_) (fun n_ => absurd c59 n_)) (fun z_ => ev_if_eq rfl rfl (fun _ => z_) (fun n_ => absurd c59 n_)) ?_
          have b60 : B (z_has a0 (h 28 2)) 0 0 := R_eqX (B.any (z_has a0 (h 28 2))) (by decide : B 0 0 0) c59
          refine Or.imp (fun z_ => ev_iconst (v := (-1)) rfl rfl (by decide) z_) (fun z_ => ev_iconst (v := (-1)) rfl rfl (by decide) z_) ?_
          exact Or.inl (ev_iret rfl rfl rfl ⟨⟨_, rfl⟩, rfl, rfl⟩)
        · refine Or.imp (fun z_ => ev_if_eq rfl rfl (fun e_ => absurd e_ c59) (fun _ => z_)) (fun z_ => ev_if_eq rfl rfl (fun e_ => absurd e_ c59) (fun _ => z_)) ?_
          have b61 : B a0 0 5 := (z_has_B5 hB) c59
          refine Or.imp (fun z_ => ev_iload_n rfl rfl rfl z_) (fun z_ => ev_iload_n rfl rfl rfl z_) ?_
          refine Or.imp (fun z_ => ev_S1D rfl rfl lk_X9_227 st_X9_isKey rfl rfl (c_isKey _ _ a1) z_) (fun z_ => ev_S1D rfl rfl lk_X9_227 st_X9_isKey rfl rfl (c_isKey _ _ a1) z_) ?_
          by_cases c62 : (z_wi a1 (-11) 11) = 0
          · refine Or.imp (fun z_ => ev_if_eq rfl rfl (fun _ => z_) (fun n_ => absurd c62 n_)) (fun z_ => ev_if_eq rfl rfl (fun _ => z_) (fun n_ => absurd c62 n_)) ?_
            have b63 : B (z_wi a1 (-11) 11) 0 0 := R_eqX (z_wi_01 a1 (-11) 11) (by decide : B 0 0 0) c62
            refine Or.imp (fun z_ => ev_iconst (v := (-1)) rfl rfl (by decide) z_) (fun z_ => ev_iconst (v := (-1)) rfl rfl (by decide) z_) ?_
            exact Or.inl (ev_iret rfl rfl rfl ⟨⟨_, rfl⟩, rfl, rfl⟩)
          · refine Or.imp (fun z_ => ev_if_eq rfl rfl (fun e_ => absurd e_ c62) (fun _ => z_)) (fun z_ => ev_if_eq rfl rfl (fun e_ => absurd e_ c62) (fun _ => z_)) ?_
            have b64 : B (z_wi a1 (-11) 11) 1 1 := R_neL (z_wi_01 a1 (-11) 11) (by decide : B 0 0 0) c62 (by decide)
            have b65 : B a1 (-11) 11 := (z_wi_B (by decide : B (-11) (-11) (-11)) (by decide : B 11 11 11)) c62
            refine Or.imp (fun z_ => ev_iload rfl rfl rfl z_) (fun z_ => ev_iload rfl rfl rfl z_) ?_
            refine Or.imp (fun z_ => ev_if_ne rfl rfl (fun n_ => absurd (by decide) n_) (fun _ => z_)) (fun z_ => ev_if_ne rfl rfl (fun n_ => absurd (by decide) n_) (fun _ => z_)) ?_
            refine Or.imp (fun z_ => ev_iconst (v := (-1)) rfl rfl (by decide) z_) (fun z_ => ev_iconst (v := (-1)) rfl rfl (by decide) z_) ?_
            exact Or.inl (ev_iret rfl rfl rfl ⟨⟨_, rfl⟩, rfl, rfl⟩)
      · refine Or.imp (fun z_ => ev_if_eq rfl rfl (fun e_ => absurd e_ c56) (fun _ => z_)) (fun z_ => ev_if_eq rfl rfl (fun e_ => absurd e_ c56) (fun _ => z_)) ?_
        have b58 : B a4 40 63 := (z_isBeat_B hB (by decide : B 40 40 40) (by decide)) c56
        refine Or.imp (fun z_ => ev_iconst (v := 1) rfl rfl (by decide) z_) (fun z_ => ev_iconst (v := 1) rfl rfl (by decide) z_) ?_
        refine Or.imp (fun z_ => ev_goto rfl rfl z_) (fun z_ => ev_goto rfl rfl z_) ?_
        refine Or.imp (fun z_ => ev_istore rfl rfl rfl rfl z_) (fun z_ => ev_istore rfl rfl rfl rfl z_) ?_
        dsimp only [List.set]
        refine Or.imp (fun z_ => ev_aload_n rfl rfl rfl z_) (fun z_ => ev_aload_n rfl rfl rfl z_) ?_
        refine Or.imp (fun z_ => ev_getR (y := 28) rfl rfl fl_X9_43 rfl rfl rfl rfl z_) (fun z_ => ev_getR (y := 28) rfl rfl fl_X9_43 rfl rfl rfl rfl z_) ?_
        refine Or.imp (fun z_ => ev_iload_n rfl rfl rfl z_) (fun z_ => ev_iload_n rfl rfl rfl z_) ?_
        refine Or.imp (fun z_ => ev_V1D rfl rfl lk_X9_195 vt_X7_has rfl rfl rfl rfl rfl (c_X7_hasE L false h a0) z_) (fun z_ => ev_V1D rfl rfl lk_X9_195 vt_X7_has rfl rfl rfl rfl rfl (c_X7_hasE L false h a0) z_) ?_
        by_cases c67 : (z_has a0 (h 28 2)) = 0
        · refine Or.imp (fun z_ => ev_if_eq rfl rfl (fun _ => z_) (fun n_ => absurd c67 n_)) (fun z_ => ev_if_eq rfl rfl (fun _ => z_) (fun n_ => absurd c67 n_)) ?_
          have b68 : B (z_has a0 (h 28 2)) 0 0 := R_eqX (B.any (z_has a0 (h 28 2))) (by decide : B 0 0 0) c67
          refine Or.imp (fun z_ => ev_iconst (v := (-1)) rfl rfl (by decide) z_) (fun z_ => ev_iconst (v := (-1)) rfl rfl (by decide) z_) ?_
          exact Or.inl (ev_iret rfl rfl rfl ⟨⟨_, rfl⟩, rfl, rfl⟩)
        · refine Or.imp (fun z_ => ev_if_eq rfl rfl (fun e_ => absurd e_ c67) (fun _ => z_)) (fun z_ => ev_if_eq rfl rfl (fun e_ => absurd e_ c67) (fun _ => z_)) ?_
          have b69 : B a0 0 5 := (z_has_B5 hB) c67
          refine Or.imp (fun z_ => ev_iload_n rfl rfl rfl z_) (fun z_ => ev_iload_n rfl rfl rfl z_) ?_
          refine Or.imp (fun z_ => ev_S1D rfl rfl lk_X9_227 st_X9_isKey rfl rfl (c_isKey _ _ a1) z_) (fun z_ => ev_S1D rfl rfl lk_X9_227 st_X9_isKey rfl rfl (c_isKey _ _ a1) z_) ?_
          by_cases c70 : (z_wi a1 (-11) 11) = 0
          · refine Or.imp (fun z_ => ev_if_eq rfl rfl (fun _ => z_) (fun n_ => absurd c70 n_)) (fun z_ => ev_if_eq rfl rfl (fun _ => z_) (fun n_ => absurd c70 n_)) ?_
            have b71 : B (z_wi a1 (-11) 11) 0 0 := R_eqX (z_wi_01 a1 (-11) 11) (by decide : B 0 0 0) c70
            refine Or.imp (fun z_ => ev_iconst (v := (-1)) rfl rfl (by decide) z_) (fun z_ => ev_iconst (v := (-1)) rfl rfl (by decide) z_) ?_
            exact Or.inl (ev_iret rfl rfl rfl ⟨⟨_, rfl⟩, rfl, rfl⟩)
          · refine Or.imp (fun z_ => ev_if_eq rfl rfl (fun e_ => absurd e_ c70) (fun _ => z_)) (fun z_ => ev_if_eq rfl rfl (fun e_ => absurd e_ c70) (fun _ => z_)) ?_
            have b72 : B (z_wi a1 (-11) 11) 1 1 := R_neL (z_wi_01 a1 (-11) 11) (by decide : B 0 0 0) c70 (by decide)
            have b73 : B a1 (-11) 11 := (z_wi_B (by decide : B (-11) (-11) (-11)) (by decide : B 11 11 11)) c70
            refine Or.imp (fun z_ => ev_iload rfl rfl rfl z_) (fun z_ => ev_iload rfl rfl rfl z_) ?_
            refine Or.imp (fun z_ => ev_if_ne rfl rfl (fun _ => z_) (fun e_ => absurd e_ (by decide))) (fun z_ => ev_if_ne rfl rfl (fun _ => z_) (fun e_ => absurd e_ (by decide))) ?_
            refine Or.imp (fun z_ => ev_iload_n rfl rfl rfl z_) (fun z_ => ev_iload_n rfl rfl rfl z_) ?_
            refine Or.imp (fun z_ => ev_iconst (v := 0) rfl rfl (by decide) z_) (fun z_ => ev_iconst (v := 0) rfl rfl (by decide) z_) ?_
            refine Or.imp (fun z_ => ev_sipush (v := 400) rfl rfl (by decide) z_) (fun z_ => ev_sipush (v := 400) rfl rfl (by decide) z_) ?_
            refine Or.imp (fun z_ => ev_S3D rfl rfl lk_X9_75 st_X9_isWithin rfl rfl (c_isWithin _ _ a2 0 400) z_) (fun z_ => ev_S3D rfl rfl lk_X9_75 st_X9_isWithin rfl rfl (c_isWithin _ _ a2 0 400) z_) ?_
            by_cases c75 : (z_wi a2 0 400) = 0
            · refine Or.imp (fun z_ => ev_if_eq rfl rfl (fun _ => z_) (fun n_ => absurd c75 n_)) (fun z_ => ev_if_eq rfl rfl (fun _ => z_) (fun n_ => absurd c75 n_)) ?_
              have b76 : B (z_wi a2 0 400) 0 0 := R_eqX (z_wi_01 a2 0 400) (by decide : B 0 0 0) c75
              refine Or.imp (fun z_ => ev_iconst (v := (-1)) rfl rfl (by decide) z_) (fun z_ => ev_iconst (v := (-1)) rfl rfl (by decide) z_) ?_
              exact Or.inl (ev_iret rfl rfl rfl ⟨⟨_, rfl⟩, rfl, rfl⟩)
            · refine Or.imp (fun z_ => ev_if_eq rfl rfl (fun e_ => absurd e_ c75) (fun _ => z_)) (fun z_ => ev_if_eq rfl rfl (fun e_ => absurd e_ c75) (fun _ => z_)) ?_
              have b77 : B (z_wi a2 0 400) 1 1 := R_neL (z_wi_01 a2 0 400) (by decide : B 0 0 0) c75 (by decide)
              have b78 : B a2 0 400 := (z_wi_B (by decide : B 0 0 0) (by decide : B 400 400 400)) c75
              refine Or.imp (fun z_ => ev_iload rfl rfl rfl z_) (fun z_ => ev_iload rfl rfl rfl z_) ?_
              refine Or.imp (fun z_ => ev_iconst (v := 0) rfl rfl (by decide) z_) (fun z_ => ev_iconst (v := 0) rfl rfl (by decide) z_) ?_
              refine Or.imp (fun z_ => ev_bipush (v := 8) rfl rfl (by decide) z_) (fun z_ => ev_bipush (v := 8) rfl rfl (by decide) z_) ?_
              refine Or.imp (fun z_ => ev_S3D rfl rfl lk_X9_75 st_X9_isWithin rfl rfl (c_isWithin _ _ a3 0 8) z_) (fun z_ => ev_S3D rfl rfl lk_X9_75 st_X9_isWithin rfl rfl (c_isWithin _ _ a3 0 8) z_) ?_
              by_cases c79 : (z_wi a3 0 8) = 0
              · refine Or.imp (fun z_ => ev_if_ne rfl rfl (fun n_ => absurd c79 n_) (fun _ => z_)) (fun z_ => ev_if_ne rfl rfl (fun n_ => absurd c79 n_) (fun _ => z_)) ?_
                have b82 : B (z_wi a3 0 8) 0 0 := R_eqX (z_wi_01 a3 0 8) (by decide : B 0 0 0) c79
                refine Or.imp (fun z_ => ev_iconst (v := (-1)) rfl rfl (by decide) z_) (fun z_ => ev_iconst (v := (-1)) rfl rfl (by decide) z_) ?_
                exact Or.inl (ev_iret rfl rfl rfl ⟨⟨_, rfl⟩, rfl, rfl⟩)
              · refine Or.imp (fun z_ => ev_if_ne rfl rfl (fun _ => z_) (fun e_ => absurd e_ c79)) (fun z_ => ev_if_ne rfl rfl (fun _ => z_) (fun e_ => absurd e_ c79)) ?_
                have b80 : B (z_wi a3 0 8) 1 1 := R_neL (z_wi_01 a3 0 8) (by decide : B 0 0 0) c79 (by decide)
                have b81 : B a3 0 8 := (z_wi_B (by decide : B 0 0 0) (by decide : B 8 8 8)) c79
                refine Or.imp (fun z_ => ev_aload_n rfl rfl rfl z_) (fun z_ => ev_aload_n rfl rfl rfl z_) ?_
                refine Or.imp (fun z_ => ev_getR (y := 28) rfl rfl fl_X9_43 rfl rfl rfl rfl z_) (fun z_ => ev_getR (y := 28) rfl rfl fl_X9_43 rfl rfl rfl rfl z_) ?_
                refine Or.imp (fun z_ => ev_iload_n rfl rfl rfl z_) (fun z_ => ev_iload_n rfl rfl rfl z_) ?_
                refine Or.imp (fun z_ => ev_iload_n rfl rfl rfl z_) (fun z_ => ev_iload_n rfl rfl rfl z_) ?_
                refine Or.imp (fun z_ => ev_aload_n rfl rfl rfl z_) (fun z_ => ev_aload_n rfl rfl rfl z_) ?_
                refine Or.imp (fun z_ => ev_getR (y := 4) rfl rfl fl_X9_22 rfl rfl rfl rfl z_) (fun z_ => ev_getR (y := 4) rfl rfl fl_X9_22 rfl rfl rfl rfl z_) ?_
                refine Or.imp (fun z_ => ev_getI rfl rfl fl_X9_158 rfl rfl rfl z_) (fun z_ => ev_getI rfl rfl fl_X9_158 rfl rfl rfl z_) ?_
                refine Or.imp (fun z_ => ev_V3D rfl rfl lk_X9_230 vt_X7_goes rfl rfl rfl rfl rfl (c_goesE L false h hB a0 a1 (h 4 7) b69) z_) (fun z_ => ev_V3D rfl rfl lk_X9_230 vt_X7_goes rfl rfl rfl rfl rfl (c_goesE L false h hB a0 a1 (h 4 7) b69) z_) ?_
                by_cases c83 : (z_goes (s_or h (30 + Int32.toNatClampNeg a0) (Int32.toNatClampNeg (h 36 (Int32.toNatClampNeg a0)))) a1 (h 4 7)) = 0
                · refine Or.imp (fun z_ => ev_if_ne rfl rfl (fun n_ => absurd c83 n_) (fun _ => z_)) (fun z_ => ev_if_ne rfl rfl (fun n_ => absurd c83 n_) (fun _ => z_)) ?_
                  have b84 : B (z_goes (s_or h (30 + Int32.toNatClampNeg a0) (Int32.toNatClampNeg (h 36 (Int32.toNatClampNeg a0)))) a1 (h 4 7)) 0 0 := R_eqX (B.any (z_goes (s_or h (30 + Int32.toNatClampNeg a0) (Int32.toNatClampNeg (h 36 (Int32.toNatClampNeg a0)))) a1 (h 4 7))) (by decide : B 0 0 0) c83
                  refine Or.imp (fun z_ => ev_bipush (v := (-2)) rfl rfl (by decide) z_) (fun z_ => ev_bipush (v := (-2)) rfl rfl (by decide) z_) ?_
                  exact Or.inl (ev_iret rfl rfl rfl ⟨⟨_, rfl⟩, rfl, rfl⟩)
                · refine Or.imp (fun z_ => ev_if_ne rfl rfl (fun _ => z_) (fun e_ => absurd e_ c83)) (fun z_ => ev_if_ne rfl rfl (fun _ => z_) (fun e_ => absurd e_ c83)) ?_
                  refine Or.imp (fun z_ => ev_aload_n rfl rfl rfl z_) (fun z_ => ev_aload_n rfl rfl rfl z_) ?_
                  refine Or.imp (fun z_ => ev_getR (y := 37) rfl rfl fl_X9_50 rfl rfl rfl rfl z_) (fun z_ => ev_getR (y := 37) rfl rfl fl_X9_50 rfl rfl rfl rfl z_) ?_
                  refine Or.imp (fun z_ => ev_iload_n rfl rfl rfl z_) (fun z_ => ev_iload_n rfl rfl rfl z_) ?_
                  refine Or.imp (fun z_ => ev_iload_n rfl rfl rfl z_) (fun z_ => ev_iload_n rfl rfl rfl z_) ?_
                  refine Or.imp (fun z_ => ev_iload_n rfl rfl rfl z_) (fun z_ => ev_iload_n rfl rfl rfl z_) ?_
                  refine Or.imp (fun z_ => ev_iload rfl rfl rfl z_) (fun z_ => ev_iload rfl rfl rfl z_) ?_
                  refine Or.imp (fun z_ => ev_aload_n rfl rfl rfl z_) (fun z_ => ev_aload_n rfl rfl rfl z_) ?_
                  refine Or.imp (fun z_ => ev_getR (y := 11) rfl rfl fl_X9_29 rfl rfl rfl rfl z_) (fun z_ => ev_getR (y := 11) rfl rfl fl_X9_29 rfl rfl rfl rfl z_) ?_
                  refine Or.imp (fun z_ => ev_getI rfl rfl fl_X9_233 rfl rfl rfl z_) (fun z_ => ev_getI rfl rfl fl_X9_233 rfl rfl rfl z_) ?_
                  refine Or.imp (fun z_ => ev_V5D rfl rfl lk_X9_236 vt_X4_isFor rfl rfl rfl rfl rfl (c_isForE L false h hs a0 a1 a2 a3 (h 11 3)) z_) (fun z_ => ev_V5D rfl rfl lk_X9_236 vt_X4_isFor rfl rfl rfl rfl rfl (c_isForE L false h hs a0 a1 a2 a3 (h 11 3)) z_) ?_
                  refine Or.imp (fun z_ => ev_if_ne rfl rfl (fun n_ => absurd (by decide) n_) (fun _ => z_)) (fun z_ => ev_if_ne rfl rfl (fun n_ => absurd (by decide) n_) (fun _ => z_)) ?_
                  refine Or.inr ?_
                  refine ev_aload_n rfl rfl rfl ?_
                  refine ev_getR (y := 37) rfl rfl fl_X9_50 rfl rfl rfl rfl ?_
                  refine ev_aload_n rfl rfl rfl ?_
                  refine ev_getR (y := 28) rfl rfl fl_X9_43 rfl rfl rfl rfl ?_
                  refine ev_iload_n rfl rfl rfl ?_
                  refine ev_iload_n rfl rfl rfl ?_
                  refine ev_V3N hJ0 rfl rfl rfl lk_X9_240 vt_X4_takeTune rfl rfl rfl rfl rfl (w_X4_takeTune_37_28 L false h hJ0.1 a0 b69 a1) (fun h86 hJ86 k86  => ?_)
                  refine ev_aload_n rfl rfl rfl ?_
                  refine ev_getR (y := 37) rfl rfl fl_X9_50 rfl rfl rfl rfl ?_
                  refine ev_aload_n rfl rfl rfl ?_
                  refine ev_getR (y := 2) rfl rfl fl_X9_10 rfl rfl rfl rfl ?_
                  refine ev_aload_n rfl rfl rfl ?_
                  refine ev_getR (y := 4) rfl rfl fl_X9_22 rfl rfl rfl rfl ?_
                  refine ev_iload_n rfl rfl rfl ?_
                  refine ev_iload rfl rfl rfl ?_
                  refine EvQ.cs (1 + 0) (45225 + 0) rfl rfl ?_
                  refine ev_invV0 (As := [.ref 2, .ref 4, .int a2, .int a3]) rfl rfl lk_X9_244 vt_X4_solve rfl rfl rfl rfl rfl (by decide) (w_X4_solve_f L h86 hJ86.1 (fun j => ((k86.2 95 j rfl).trans (hz j))) a2 a3 b81) (fun v_ G_ h87 hq_ _ => ?_)
                  obtain ⟨rfl, rfl, hq_⟩ := hq_
                  have hJ87 := JW.call hJ86 hq_ rfl
                  refine ev_aload_n rfl rfl rfl ?_
                  refine ev_getR (y := 37) rfl rfl fl_X9_50 rfl rfl rfl rfl ?_
                  refine ev_iload_n rfl rfl rfl ?_
                  refine ev_iload_n rfl rfl rfl ?_
                  refine ev_iload_n rfl rfl rfl ?_
                  refine ev_iload rfl rfl rfl ?_
                  refine ev_aload_n rfl rfl rfl ?_
                  refine ev_getR (y := 11) rfl rfl fl_X9_29 rfl rfl rfl rfl ?_
                  refine ev_getW (l := (-2147483648)) (u := 2147483647) hJ87.1 rfl rfl rfl fl_X9_233 rfl rfl rfl (fun v88 b88 e88 => ?_)
                  refine ev_V5N hJ87 rfl rfl rfl lk_X9_248 vt_X4_remember rfl rfl rfl rfl rfl (w_X4_remember_37 L true h87 hJ87.1 a0 a1 a2 a3 v88) (fun h89 hJ89 k89  => ?_)
                  refine ev_aload_n rfl rfl rfl ?_
                  refine ev_getR (y := 37) rfl rfl fl_X9_50 rfl rfl rfl rfl ?_
                  refine ev_iload rfl rfl rfl ?_
                  refine ev_V1P rfl rfl lk_X9_252 vt_X4_answer rfl rfl rfl rfl rfl (w_X4_answer_37_v40_63 L true h89 hJ89.1 a4 b58) (fun r90 q90 => ?_)
                  exact ev_iret rfl rfl rfl ⟨⟨_, rfl⟩, rfl, hJ89⟩
    · refine Or.imp (fun z_ => ev_if_ne rfl rfl (fun _ => z_) (fun e_ => absurd e_ c29)) (fun z_ => ev_if_ne rfl rfl (fun _ => z_) (fun e_ => absurd e_ c29)) ?_
      have b30 : B a4 10 33 := (z_isBeat_B hB (by decide : B 10 10 10) (by decide)) c29
      refine Or.imp (fun z_ => ev_iconst (v := 1) rfl rfl (by decide) z_) (fun z_ => ev_iconst (v := 1) rfl rfl (by decide) z_) ?_
      refine Or.imp (fun z_ => ev_goto rfl rfl z_) (fun z_ => ev_goto rfl rfl z_) ?_
      refine Or.imp (fun z_ => ev_istore rfl rfl rfl rfl z_) (fun z_ => ev_istore rfl rfl rfl rfl z_) ?_
      dsimp only [List.set]
      refine Or.imp (fun z_ => ev_aload_n rfl rfl rfl z_) (fun z_ => ev_aload_n rfl rfl rfl z_) ?_
      refine Or.imp (fun z_ => ev_getR (y := 28) rfl rfl fl_X9_43 rfl rfl rfl rfl z_) (fun z_ => ev_getR (y := 28) rfl rfl fl_X9_43 rfl rfl rfl rfl z_) ?_
      refine Or.imp (fun z_ => ev_iload_n rfl rfl rfl z_) (fun z_ => ev_iload_n rfl rfl rfl z_) ?_
      refine Or.imp (fun z_ => ev_V1D rfl rfl lk_X9_195 vt_X7_has rfl rfl rfl rfl rfl (c_X7_hasE L false h a0) z_) (fun z_ => ev_V1D rfl rfl lk_X9_195 vt_X7_has rfl rfl rfl rfl rfl (c_X7_hasE L false h a0) z_) ?_
      by_cases c32 : (z_has a0 (h 28 2)) = 0
      · refine Or.imp (fun z_ => ev_if_eq rfl rfl (fun _ => z_) (fun n_ => absurd c32 n_)) (fun z_ => ev_if_eq rfl rfl (fun _ => z_) (fun n_ => absurd c32 n_)) ?_
        have b33 : B (z_has a0 (h 28 2)) 0 0 := R_eqX (B.any (z_has a0 (h 28 2))) (by decide : B 0 0 0) c32
        refine Or.imp (fun z_ => ev_iconst (v := (-1)) rfl rfl (by decide) z_) (fun z_ => ev_iconst (v := (-1)) rfl rfl (by decide) z_) ?_
        exact Or.inl (ev_iret rfl rfl rfl ⟨⟨_, rfl⟩, rfl, rfl⟩)
      · refine Or.imp (fun z_ => ev_if_eq rfl rfl (fun e_ => absurd e_ c32) (fun _ => z_)) (fun z_ => ev_if_eq rfl rfl (fun e_ => absurd e_ c32) (fun _ => z_)) ?_
        have b34 : B a0 0 5 := (z_has_B5 hB) c32
        refine Or.imp (fun z_ => ev_iload_n rfl rfl rfl z_) (fun z_ => ev_iload_n rfl rfl rfl z_) ?_
        refine Or.imp (fun z_ => ev_S1D rfl rfl lk_X9_227 st_X9_isKey rfl rfl (c_isKey _ _ a1) z_) (fun z_ => ev_S1D rfl rfl lk_X9_227 st_X9_isKey rfl rfl (c_isKey _ _ a1) z_) ?_
        by_cases c35 : (z_wi a1 (-11) 11) = 0
        · refine Or.imp (fun z_ => ev_if_eq rfl rfl (fun _ => z_) (fun n_ => absurd c35 n_)) (fun z_ => ev_if_eq rfl rfl (fun _ => z_) (fun n_ => absurd c35 n_)) ?_
          have b36 : B (z_wi a1 (-11) 11) 0 0 := R_eqX (z_wi_01 a1 (-11) 11) (by decide : B 0 0 0) c35
          refine Or.imp (fun z_ => ev_iconst (v := (-1)) rfl rfl (by decide) z_) (fun z_ => ev_iconst (v := (-1)) rfl rfl (by decide) z_) ?_
          exact Or.inl (ev_iret rfl rfl rfl ⟨⟨_, rfl⟩, rfl, rfl⟩)
        · refine Or.imp (fun z_ => ev_if_eq rfl rfl (fun e_ => absurd e_ c35) (fun _ => z_)) (fun z_ => ev_if_eq rfl rfl (fun e_ => absurd e_ c35) (fun _ => z_)) ?_
          have b37 : B (z_wi a1 (-11) 11) 1 1 := R_neL (z_wi_01 a1 (-11) 11) (by decide : B 0 0 0) c35 (by decide)
          have b38 : B a1 (-11) 11 := (z_wi_B (by decide : B (-11) (-11) (-11)) (by decide : B 11 11 11)) c35
          refine Or.imp (fun z_ => ev_iload rfl rfl rfl z_) (fun z_ => ev_iload rfl rfl rfl z_) ?_
          refine Or.imp (fun z_ => ev_if_ne rfl rfl (fun _ => z_) (fun e_ => absurd e_ (by decide))) (fun z_ => ev_if_ne rfl rfl (fun _ => z_) (fun e_ => absurd e_ (by decide))) ?_
          refine Or.imp (fun z_ => ev_iload_n rfl rfl rfl z_) (fun z_ => ev_iload_n rfl rfl rfl z_) ?_
          refine Or.imp (fun z_ => ev_iconst (v := 0) rfl rfl (by decide) z_) (fun z_ => ev_iconst (v := 0) rfl rfl (by decide) z_) ?_
          refine Or.imp (fun z_ => ev_sipush (v := 400) rfl rfl (by decide) z_) (fun z_ => ev_sipush (v := 400) rfl rfl (by decide) z_) ?_
          refine Or.imp (fun z_ => ev_S3D rfl rfl lk_X9_75 st_X9_isWithin rfl rfl (c_isWithin _ _ a2 0 400) z_) (fun z_ => ev_S3D rfl rfl lk_X9_75 st_X9_isWithin rfl rfl (c_isWithin _ _ a2 0 400) z_) ?_
          by_cases c40 : (z_wi a2 0 400) = 0
          · refine Or.imp (fun z_ => ev_if_eq rfl rfl (fun _ => z_) (fun n_ => absurd c40 n_)) (fun z_ => ev_if_eq rfl rfl (fun _ => z_) (fun n_ => absurd c40 n_)) ?_
            have b41 : B (z_wi a2 0 400) 0 0 := R_eqX (z_wi_01 a2 0 400) (by decide : B 0 0 0) c40
            refine Or.imp (fun z_ => ev_iconst (v := (-1)) rfl rfl (by decide) z_) (fun z_ => ev_iconst (v := (-1)) rfl rfl (by decide) z_) ?_
            exact Or.inl (ev_iret rfl rfl rfl ⟨⟨_, rfl⟩, rfl, rfl⟩)
          · refine Or.imp (fun z_ => ev_if_eq rfl rfl (fun e_ => absurd e_ c40) (fun _ => z_)) (fun z_ => ev_if_eq rfl rfl (fun e_ => absurd e_ c40) (fun _ => z_)) ?_
            have b42 : B (z_wi a2 0 400) 1 1 := R_neL (z_wi_01 a2 0 400) (by decide : B 0 0 0) c40 (by decide)
            have b43 : B a2 0 400 := (z_wi_B (by decide : B 0 0 0) (by decide : B 400 400 400)) c40
            refine Or.imp (fun z_ => ev_iload rfl rfl rfl z_) (fun z_ => ev_iload rfl rfl rfl z_) ?_
            refine Or.imp (fun z_ => ev_iconst (v := 0) rfl rfl (by decide) z_) (fun z_ => ev_iconst (v := 0) rfl rfl (by decide) z_) ?_
            refine Or.imp (fun z_ => ev_bipush (v := 8) rfl rfl (by decide) z_) (fun z_ => ev_bipush (v := 8) rfl rfl (by decide) z_) ?_
            refine Or.imp (fun z_ => ev_S3D rfl rfl lk_X9_75 st_X9_isWithin rfl rfl (c_isWithin _ _ a3 0 8) z_) (fun z_ => ev_S3D rfl rfl lk_X9_75 st_X9_isWithin rfl rfl (c_isWithin _ _ a3 0 8) z_) ?_
            by_cases c44 : (z_wi a3 0 8) = 0
            · refine Or.imp (fun z_ => ev_if_ne rfl rfl (fun n_ => absurd c44 n_) (fun _ => z_)) (fun z_ => ev_if_ne rfl rfl (fun n_ => absurd c44 n_) (fun _ => z_)) ?_
              have b47 : B (z_wi a3 0 8) 0 0 := R_eqX (z_wi_01 a3 0 8) (by decide : B 0 0 0) c44
              refine Or.imp (fun z_ => ev_iconst (v := (-1)) rfl rfl (by decide) z_) (fun z_ => ev_iconst (v := (-1)) rfl rfl (by decide) z_) ?_
              exact Or.inl (ev_iret rfl rfl rfl ⟨⟨_, rfl⟩, rfl, rfl⟩)
            · refine Or.imp (fun z_ => ev_if_ne rfl rfl (fun _ => z_) (fun e_ => absurd e_ c44)) (fun z_ => ev_if_ne rfl rfl (fun _ => z_) (fun e_ => absurd e_ c44)) ?_
              have b45 : B (z_wi a3 0 8) 1 1 := R_neL (z_wi_01 a3 0 8) (by decide : B 0 0 0) c44 (by decide)
              have b46 : B a3 0 8 := (z_wi_B (by decide : B 0 0 0) (by decide : B 8 8 8)) c44
              refine Or.imp (fun z_ => ev_aload_n rfl rfl rfl z_) (fun z_ => ev_aload_n rfl rfl rfl z_) ?_
              refine Or.imp (fun z_ => ev_getR (y := 28) rfl rfl fl_X9_43 rfl rfl rfl rfl z_) (fun z_ => ev_getR (y := 28) rfl rfl fl_X9_43 rfl rfl rfl rfl z_) ?_
              refine Or.imp (fun z_ => ev_iload_n rfl rfl rfl z_) (fun z_ => ev_iload_n rfl rfl rfl z_) ?_
              refine Or.imp (fun z_ => ev_iload_n rfl rfl rfl z_) (fun z_ => ev_iload_n rfl rfl rfl z_) ?_
              refine Or.imp (fun z_ => ev_aload_n rfl rfl rfl z_) (fun z_ => ev_aload_n rfl rfl rfl z_) ?_
              refine Or.imp (fun z_ => ev_getR (y := 4) rfl rfl fl_X9_22 rfl rfl rfl rfl z_) (fun z_ => ev_getR (y := 4) rfl rfl fl_X9_22 rfl rfl rfl rfl z_) ?_
              refine Or.imp (fun z_ => ev_getI rfl rfl fl_X9_158 rfl rfl rfl z_) (fun z_ => ev_getI rfl rfl fl_X9_158 rfl rfl rfl z_) ?_
              refine Or.imp (fun z_ => ev_V3D rfl rfl lk_X9_230 vt_X7_goes rfl rfl rfl rfl rfl (c_goesE L false h hB a0 a1 (h 4 7) b34) z_) (fun z_ => ev_V3D rfl rfl lk_X9_230 vt_X7_goes rfl rfl rfl rfl rfl (c_goesE L false h hB a0 a1 (h 4 7) b34) z_) ?_
              by_cases c48 : (z_goes (s_or h (30 + Int32.toNatClampNeg a0) (Int32.toNatClampNeg (h 36 (Int32.toNatClampNeg a0)))) a1 (h 4 7)) = 0
              · refine Or.imp (fun z_ => ev_if_ne rfl rfl (fun n_ => absurd c48 n_) (fun _ => z_)) (fun z_ => ev_if_ne rfl rfl (fun n_ => absurd c48 n_) (fun _ => z_)) ?_
                have b49 : B (z_goes (s_or h (30 + Int32.toNatClampNeg a0) (Int32.toNatClampNeg (h 36 (Int32.toNatClampNeg a0)))) a1 (h 4 7)) 0 0 := R_eqX (B.any (z_goes (s_or h (30 + Int32.toNatClampNeg a0) (Int32.toNatClampNeg (h 36 (Int32.toNatClampNeg a0)))) a1 (h 4 7))) (by decide : B 0 0 0) c48
                refine Or.imp (fun z_ => ev_bipush (v := (-2)) rfl rfl (by decide) z_) (fun z_ => ev_bipush (v := (-2)) rfl rfl (by decide) z_) ?_
                exact Or.inl (ev_iret rfl rfl rfl ⟨⟨_, rfl⟩, rfl, rfl⟩)
              · refine Or.imp (fun z_ => ev_if_ne rfl rfl (fun _ => z_) (fun e_ => absurd e_ c48)) (fun z_ => ev_if_ne rfl rfl (fun _ => z_) (fun e_ => absurd e_ c48)) ?_
                refine Or.imp (fun z_ => ev_aload_n rfl rfl rfl z_) (fun z_ => ev_aload_n rfl rfl rfl z_) ?_
                refine Or.imp (fun z_ => ev_getR (y := 37) rfl rfl fl_X9_50 rfl rfl rfl rfl z_) (fun z_ => ev_getR (y := 37) rfl rfl fl_X9_50 rfl rfl rfl rfl z_) ?_
                refine Or.imp (fun z_ => ev_iload_n rfl rfl rfl z_) (fun z_ => ev_iload_n rfl rfl rfl z_) ?_
                refine Or.imp (fun z_ => ev_iload_n rfl rfl rfl z_) (fun z_ => ev_iload_n rfl rfl rfl z_) ?_
                refine Or.imp (fun z_ => ev_iload_n rfl rfl rfl z_) (fun z_ => ev_iload_n rfl rfl rfl z_) ?_
                refine Or.imp (fun z_ => ev_iload rfl rfl rfl z_) (fun z_ => ev_iload rfl rfl rfl z_) ?_
                refine Or.imp (fun z_ => ev_aload_n rfl rfl rfl z_) (fun z_ => ev_aload_n rfl rfl rfl z_) ?_
                refine Or.imp (fun z_ => ev_getR (y := 11) rfl rfl fl_X9_29 rfl rfl rfl rfl z_) (fun z_ => ev_getR (y := 11) rfl rfl fl_X9_29 rfl rfl rfl rfl z_) ?_
                refine Or.imp (fun z_ => ev_getI rfl rfl fl_X9_233 rfl rfl rfl z_) (fun z_ => ev_getI rfl rfl fl_X9_233 rfl rfl rfl z_) ?_
                refine Or.imp (fun z_ => ev_V5D rfl rfl lk_X9_236 vt_X4_isFor rfl rfl rfl rfl rfl (c_isForE L false h hs a0 a1 a2 a3 (h 11 3)) z_) (fun z_ => ev_V5D rfl rfl lk_X9_236 vt_X4_isFor rfl rfl rfl rfl rfl (c_isForE L false h hs a0 a1 a2 a3 (h 11 3)) z_) ?_
                refine Or.imp (fun z_ => ev_if_ne rfl rfl (fun n_ => absurd (by decide) n_) (fun _ => z_)) (fun z_ => ev_if_ne rfl rfl (fun n_ => absurd (by decide) n_) (fun _ => z_)) ?_
                refine Or.inr ?_
                refine ev_aload_n rfl rfl rfl ?_
                refine ev_getR (y := 37) rfl rfl fl_X9_50 rfl rfl rfl rfl ?_
                refine ev_aload_n rfl rfl rfl ?_
                refine ev_getR (y := 28) rfl rfl fl_X9_43 rfl rfl rfl rfl ?_
                refine ev_iload_n rfl rfl rfl ?_
                refine ev_iload_n rfl rfl rfl ?_
                refine ev_V3N hJ0 rfl rfl rfl lk_X9_240 vt_X4_takeTune rfl rfl rfl rfl rfl (w_X4_takeTune_37_28 L false h hJ0.1 a0 b34 a1) (fun h51 hJ51 k51  => ?_)
                refine ev_aload_n rfl rfl rfl ?_
                refine ev_getR (y := 37) rfl rfl fl_X9_50 rfl rfl rfl rfl ?_
                refine ev_aload_n rfl rfl rfl ?_
                refine ev_getR (y := 2) rfl rfl fl_X9_10 rfl rfl rfl rfl ?_
                refine ev_aload_n rfl rfl rfl ?_
                refine ev_getR (y := 4) rfl rfl fl_X9_22 rfl rfl rfl rfl ?_
                refine ev_iload_n rfl rfl rfl ?_
                refine ev_iload rfl rfl rfl ?_
                refine EvQ.cs (1 + 0) (45225 + 0) rfl rfl ?_
                refine ev_invV0 (As := [.ref 2, .ref 4, .int a2, .int a3]) rfl rfl lk_X9_244 vt_X4_solve rfl rfl rfl rfl rfl (by decide) (w_X4_solve_f L h51 hJ51.1 (fun j => ((k51.2 95 j rfl).trans (hz j))) a2 a3 b46) (fun v_ G_ h52 hq_ _ => ?_)
                obtain ⟨rfl, rfl, hq_⟩ := hq_
                have hJ52 := JW.call hJ51 hq_ rfl
                refine ev_aload_n rfl rfl rfl ?_
                refine ev_getR (y := 37) rfl rfl fl_X9_50 rfl rfl rfl rfl ?_
                refine ev_iload_n rfl rfl rfl ?_
                refine ev_iload_n rfl rfl rfl ?_
                refine ev_iload_n rfl rfl rfl ?_
                refine ev_iload rfl rfl rfl ?_
                refine ev_aload_n rfl rfl rfl ?_
                refine ev_getR (y := 11) rfl rfl fl_X9_29 rfl rfl rfl rfl ?_
                refine ev_getW (l := (-2147483648)) (u := 2147483647) hJ52.1 rfl rfl rfl fl_X9_233 rfl rfl rfl (fun v53 b53 e53 => ?_)
                refine ev_V5N hJ52 rfl rfl rfl lk_X9_248 vt_X4_remember rfl rfl rfl rfl rfl (w_X4_remember_37 L true h52 hJ52.1 a0 a1 a2 a3 v53) (fun h54 hJ54 k54  => ?_)
                refine ev_aload_n rfl rfl rfl ?_
                refine ev_getR (y := 37) rfl rfl fl_X9_50 rfl rfl rfl rfl ?_
                refine ev_iload rfl rfl rfl ?_
                refine ev_V1P rfl rfl lk_X9_252 vt_X4_answer rfl rfl rfl rfl rfl (w_X4_answer_37_v10_33 L true h54 hJ54.1 a4 b30) (fun r55 q55 => ?_)
                exact ev_iret rfl rfl rfl ⟨⟨_, rfl⟩, rfl, hJ54⟩
  · refine Or.imp (fun z_ => ev_if_ne rfl rfl (fun _ => z_) (fun e_ => absurd e_ c1)) (fun z_ => ev_if_ne rfl rfl (fun _ => z_) (fun e_ => absurd e_ c1)) ?_
    have b2 : B (z_wi a4 0 2) 1 1 := R_neL (z_wi_01 a4 0 2) (by decide : B 0 0 0) c1 (by decide)
    have b3 : B a4 0 2 := (z_wi_B (by decide : B 0 0 0) (by decide : B 2 2 2)) c1
    refine Or.imp (fun z_ => ev_iconst (v := 1) rfl rfl (by decide) z_) (fun z_ => ev_iconst (v := 1) rfl rfl (by decide) z_) ?_
    refine Or.imp (fun z_ => ev_goto rfl rfl z_) (fun z_ => ev_goto rfl rfl z_) ?_
    refine Or.imp (fun z_ => ev_istore rfl rfl rfl rfl z_) (fun z_ => ev_istore rfl rfl rfl rfl z_) ?_
    dsimp only [List.set]
    refine Or.imp (fun z_ => ev_aload_n rfl rfl rfl z_) (fun z_ => ev_aload_n rfl rfl rfl z_) ?_
    refine Or.imp (fun z_ => ev_getR (y := 28) rfl rfl fl_X9_43 rfl rfl rfl rfl z_) (fun z_ => ev_getR (y := 28) rfl rfl fl_X9_43 rfl rfl rfl rfl z_) ?_
    refine Or.imp (fun z_ => ev_iload_n rfl rfl rfl z_) (fun z_ => ev_iload_n rfl rfl rfl z_) ?_
    refine Or.imp (fun z_ => ev_V1D rfl rfl lk_X9_195 vt_X7_has rfl rfl rfl rfl rfl (c_X7_hasE L false h a0) z_) (fun z_ => ev_V1D rfl rfl lk_X9_195 vt_X7_has rfl rfl rfl rfl rfl (c_X7_hasE L false h a0) z_) ?_
    by_cases c5 : (z_has a0 (h 28 2)) = 0
    · refine Or.imp (fun z_ => ev_if_eq rfl rfl (fun _ => z_) (fun n_ => absurd c5 n_)) (fun z_ => ev_if_eq rfl rfl (fun _ => z_) (fun n_ => absurd c5 n_)) ?_
      have b6 : B (z_has a0 (h 28 2)) 0 0 := R_eqX (B.any (z_has a0 (h 28 2))) (by decide : B 0 0 0) c5
      refine Or.imp (fun z_ => ev_iconst (v := (-1)) rfl rfl (by decide) z_) (fun z_ => ev_iconst (v := (-1)) rfl rfl (by decide) z_) ?_
      exact Or.inl (ev_iret rfl rfl rfl ⟨⟨_, rfl⟩, rfl, rfl⟩)
    · refine Or.imp (fun z_ => ev_if_eq rfl rfl (fun e_ => absurd e_ c5) (fun _ => z_)) (fun z_ => ev_if_eq rfl rfl (fun e_ => absurd e_ c5) (fun _ => z_)) ?_
      have b7 : B a0 0 5 := (z_has_B5 hB) c5
      refine Or.imp (fun z_ => ev_iload_n rfl rfl rfl z_) (fun z_ => ev_iload_n rfl rfl rfl z_) ?_
      refine Or.imp (fun z_ => ev_S1D rfl rfl lk_X9_227 st_X9_isKey rfl rfl (c_isKey _ _ a1) z_) (fun z_ => ev_S1D rfl rfl lk_X9_227 st_X9_isKey rfl rfl (c_isKey _ _ a1) z_) ?_
      by_cases c8 : (z_wi a1 (-11) 11) = 0
      · refine Or.imp (fun z_ => ev_if_eq rfl rfl (fun _ => z_) (fun n_ => absurd c8 n_)) (fun z_ => ev_if_eq rfl rfl (fun _ => z_) (fun n_ => absurd c8 n_)) ?_
        have b9 : B (z_wi a1 (-11) 11) 0 0 := R_eqX (z_wi_01 a1 (-11) 11) (by decide : B 0 0 0) c8
        refine Or.imp (fun z_ => ev_iconst (v := (-1)) rfl rfl (by decide) z_) (fun z_ => ev_iconst (v := (-1)) rfl rfl (by decide) z_) ?_
        exact Or.inl (ev_iret rfl rfl rfl ⟨⟨_, rfl⟩, rfl, rfl⟩)
      · refine Or.imp (fun z_ => ev_if_eq rfl rfl (fun e_ => absurd e_ c8) (fun _ => z_)) (fun z_ => ev_if_eq rfl rfl (fun e_ => absurd e_ c8) (fun _ => z_)) ?_
        have b10 : B (z_wi a1 (-11) 11) 1 1 := R_neL (z_wi_01 a1 (-11) 11) (by decide : B 0 0 0) c8 (by decide)
        have b11 : B a1 (-11) 11 := (z_wi_B (by decide : B (-11) (-11) (-11)) (by decide : B 11 11 11)) c8
        refine Or.imp (fun z_ => ev_iload rfl rfl rfl z_) (fun z_ => ev_iload rfl rfl rfl z_) ?_
        refine Or.imp (fun z_ => ev_if_ne rfl rfl (fun _ => z_) (fun e_ => absurd e_ (by decide))) (fun z_ => ev_if_ne rfl rfl (fun _ => z_) (fun e_ => absurd e_ (by decide))) ?_
        refine Or.imp (fun z_ => ev_iload_n rfl rfl rfl z_) (fun z_ => ev_iload_n rfl rfl rfl z_) ?_
        refine Or.imp (fun z_ => ev_iconst (v := 0) rfl rfl (by decide) z_) (fun z_ => ev_iconst (v := 0) rfl rfl (by decide) z_) ?_
        refine Or.imp (fun z_ => ev_sipush (v := 400) rfl rfl (by decide) z_) (fun z_ => ev_sipush (v := 400) rfl rfl (by decide) z_) ?_
        refine Or.imp (fun z_ => ev_S3D rfl rfl lk_X9_75 st_X9_isWithin rfl rfl (c_isWithin _ _ a2 0 400) z_) (fun z_ => ev_S3D rfl rfl lk_X9_75 st_X9_isWithin rfl rfl (c_isWithin _ _ a2 0 400) z_) ?_
        by_cases c13 : (z_wi a2 0 400) = 0
        · refine Or.imp (fun z_ => ev_if_eq rfl rfl (fun _ => z_) (fun n_ => absurd c13 n_)) (fun z_ => ev_if_eq rfl rfl (fun _ => z_) (fun n_ => absurd c13 n_)) ?_
          have b14 : B (z_wi a2 0 400) 0 0 := R_eqX (z_wi_01 a2 0 400) (by decide : B 0 0 0) c13
          refine Or.imp (fun z_ => ev_iconst (v := (-1)) rfl rfl (by decide) z_) (fun z_ => ev_iconst (v := (-1)) rfl rfl (by decide) z_) ?_
          exact Or.inl (ev_iret rfl rfl rfl ⟨⟨_, rfl⟩, rfl, rfl⟩)
        · refine Or.imp (fun z_ => ev_if_eq rfl rfl (fun e_ => absurd e_ c13) (fun _ => z_)) (fun z_ => ev_if_eq rfl rfl (fun e_ => absurd e_ c13) (fun _ => z_)) ?_
          have b15 : B (z_wi a2 0 400) 1 1 := R_neL (z_wi_01 a2 0 400) (by decide : B 0 0 0) c13 (by decide)
          have b16 : B a2 0 400 := (z_wi_B (by decide : B 0 0 0) (by decide : B 400 400 400)) c13
          refine Or.imp (fun z_ => ev_iload rfl rfl rfl z_) (fun z_ => ev_iload rfl rfl rfl z_) ?_
          refine Or.imp (fun z_ => ev_iconst (v := 0) rfl rfl (by decide) z_) (fun z_ => ev_iconst (v := 0) rfl rfl (by decide) z_) ?_
          refine Or.imp (fun z_ => ev_bipush (v := 8) rfl rfl (by decide) z_) (fun z_ => ev_bipush (v := 8) rfl rfl (by decide) z_) ?_
          refine Or.imp (fun z_ => ev_S3D rfl rfl lk_X9_75 st_X9_isWithin rfl rfl (c_isWithin _ _ a3 0 8) z_) (fun z_ => ev_S3D rfl rfl lk_X9_75 st_X9_isWithin rfl rfl (c_isWithin _ _ a3 0 8) z_) ?_
          by_cases c17 : (z_wi a3 0 8) = 0
          · refine Or.imp (fun z_ => ev_if_ne rfl rfl (fun n_ => absurd c17 n_) (fun _ => z_)) (fun z_ => ev_if_ne rfl rfl (fun n_ => absurd c17 n_) (fun _ => z_)) ?_
            have b20 : B (z_wi a3 0 8) 0 0 := R_eqX (z_wi_01 a3 0 8) (by decide : B 0 0 0) c17
            refine Or.imp (fun z_ => ev_iconst (v := (-1)) rfl rfl (by decide) z_) (fun z_ => ev_iconst (v := (-1)) rfl rfl (by decide) z_) ?_
            exact Or.inl (ev_iret rfl rfl rfl ⟨⟨_, rfl⟩, rfl, rfl⟩)
          · refine Or.imp (fun z_ => ev_if_ne rfl rfl (fun _ => z_) (fun e_ => absurd e_ c17)) (fun z_ => ev_if_ne rfl rfl (fun _ => z_) (fun e_ => absurd e_ c17)) ?_
            have b18 : B (z_wi a3 0 8) 1 1 := R_neL (z_wi_01 a3 0 8) (by decide : B 0 0 0) c17 (by decide)
            have b19 : B a3 0 8 := (z_wi_B (by decide : B 0 0 0) (by decide : B 8 8 8)) c17
            refine Or.imp (fun z_ => ev_aload_n rfl rfl rfl z_) (fun z_ => ev_aload_n rfl rfl rfl z_) ?_
            refine Or.imp (fun z_ => ev_getR (y := 28) rfl rfl fl_X9_43 rfl rfl rfl rfl z_) (fun z_ => ev_getR (y := 28) rfl rfl fl_X9_43 rfl rfl rfl rfl z_) ?_
            refine Or.imp (fun z_ => ev_iload_n rfl rfl rfl z_) (fun z_ => ev_iload_n rfl rfl rfl z_) ?_
            refine Or.imp (fun z_ => ev_iload_n rfl rfl rfl z_) (fun z_ => ev_iload_n rfl rfl rfl z_) ?_
            refine Or.imp (fun z_ => ev_aload_n rfl rfl rfl z_) (fun z_ => ev_aload_n rfl rfl rfl z_) ?_
            refine Or.imp (fun z_ => ev_getR (y := 4) rfl rfl fl_X9_22 rfl rfl rfl rfl z_) (fun z_ => ev_getR (y := 4) rfl rfl fl_X9_22 rfl rfl rfl rfl z_) ?_
            refine Or.imp (fun z_ => ev_getI rfl rfl fl_X9_158 rfl rfl rfl z_) (fun z_ => ev_getI rfl rfl fl_X9_158 rfl rfl rfl z_) ?_
            refine Or.imp (fun z_ => ev_V3D rfl rfl lk_X9_230 vt_X7_goes rfl rfl rfl rfl rfl (c_goesE L false h hB a0 a1 (h 4 7) b7) z_) (fun z_ => ev_V3D rfl rfl lk_X9_230 vt_X7_goes rfl rfl rfl rfl rfl (c_goesE L false h hB a0 a1 (h 4 7) b7) z_) ?_
            by_cases c21 : (z_goes (s_or h (30 + Int32.toNatClampNeg a0) (Int32.toNatClampNeg (h 36 (Int32.toNatClampNeg a0)))) a1 (h 4 7)) = 0
            · refine Or.imp (fun z_ => ev_if_ne rfl rfl (fun n_ => absurd c21 n_) (fun _ => z_)) (fun z_ => ev_if_ne rfl rfl (fun n_ => absurd c21 n_) (fun _ => z_)) ?_
              have b22 : B (z_goes (s_or h (30 + Int32.toNatClampNeg a0) (Int32.toNatClampNeg (h 36 (Int32.toNatClampNeg a0)))) a1 (h 4 7)) 0 0 := R_eqX (B.any (z_goes (s_or h (30 + Int32.toNatClampNeg a0) (Int32.toNatClampNeg (h 36 (Int32.toNatClampNeg a0)))) a1 (h 4 7))) (by decide : B 0 0 0) c21
              refine Or.imp (fun z_ => ev_bipush (v := (-2)) rfl rfl (by decide) z_) (fun z_ => ev_bipush (v := (-2)) rfl rfl (by decide) z_) ?_
              exact Or.inl (ev_iret rfl rfl rfl ⟨⟨_, rfl⟩, rfl, rfl⟩)
            · refine Or.imp (fun z_ => ev_if_ne rfl rfl (fun _ => z_) (fun e_ => absurd e_ c21)) (fun z_ => ev_if_ne rfl rfl (fun _ => z_) (fun e_ => absurd e_ c21)) ?_
              refine Or.imp (fun z_ => ev_aload_n rfl rfl rfl z_) (fun z_ => ev_aload_n rfl rfl rfl z_) ?_
              refine Or.imp (fun z_ => ev_getR (y := 37) rfl rfl fl_X9_50 rfl rfl rfl rfl z_) (fun z_ => ev_getR (y := 37) rfl rfl fl_X9_50 rfl rfl rfl rfl z_) ?_
              refine Or.imp (fun z_ => ev_iload_n rfl rfl rfl z_) (fun z_ => ev_iload_n rfl rfl rfl z_) ?_
              refine Or.imp (fun z_ => ev_iload_n rfl rfl rfl z_) (fun z_ => ev_iload_n rfl rfl rfl z_) ?_
              refine Or.imp (fun z_ => ev_iload_n rfl rfl rfl z_) (fun z_ => ev_iload_n rfl rfl rfl z_) ?_
              refine Or.imp (fun z_ => ev_iload rfl rfl rfl z_) (fun z_ => ev_iload rfl rfl rfl z_) ?_
              refine Or.imp (fun z_ => ev_aload_n rfl rfl rfl z_) (fun z_ => ev_aload_n rfl rfl rfl z_) ?_
              refine Or.imp (fun z_ => ev_getR (y := 11) rfl rfl fl_X9_29 rfl rfl rfl rfl z_) (fun z_ => ev_getR (y := 11) rfl rfl fl_X9_29 rfl rfl rfl rfl z_) ?_
              refine Or.imp (fun z_ => ev_getI rfl rfl fl_X9_233 rfl rfl rfl z_) (fun z_ => ev_getI rfl rfl fl_X9_233 rfl rfl rfl z_) ?_
              refine Or.imp (fun z_ => ev_V5D rfl rfl lk_X9_236 vt_X4_isFor rfl rfl rfl rfl rfl (c_isForE L false h hs a0 a1 a2 a3 (h 11 3)) z_) (fun z_ => ev_V5D rfl rfl lk_X9_236 vt_X4_isFor rfl rfl rfl rfl rfl (c_isForE L false h hs a0 a1 a2 a3 (h 11 3)) z_) ?_
              refine Or.imp (fun z_ => ev_if_ne rfl rfl (fun n_ => absurd (by decide) n_) (fun _ => z_)) (fun z_ => ev_if_ne rfl rfl (fun n_ => absurd (by decide) n_) (fun _ => z_)) ?_
              refine Or.inr ?_
              refine ev_aload_n rfl rfl rfl ?_
              refine ev_getR (y := 37) rfl rfl fl_X9_50 rfl rfl rfl rfl ?_
              refine ev_aload_n rfl rfl rfl ?_
              refine ev_getR (y := 28) rfl rfl fl_X9_43 rfl rfl rfl rfl ?_
              refine ev_iload_n rfl rfl rfl ?_
              refine ev_iload_n rfl rfl rfl ?_
              refine ev_V3N hJ0 rfl rfl rfl lk_X9_240 vt_X4_takeTune rfl rfl rfl rfl rfl (w_X4_takeTune_37_28 L false h hJ0.1 a0 b7 a1) (fun h24 hJ24 k24  => ?_)
              refine ev_aload_n rfl rfl rfl ?_
              refine ev_getR (y := 37) rfl rfl fl_X9_50 rfl rfl rfl rfl ?_
              refine ev_aload_n rfl rfl rfl ?_
              refine ev_getR (y := 2) rfl rfl fl_X9_10 rfl rfl rfl rfl ?_
              refine ev_aload_n rfl rfl rfl ?_
              refine ev_getR (y := 4) rfl rfl fl_X9_22 rfl rfl rfl rfl ?_
              refine ev_iload_n rfl rfl rfl ?_
              refine ev_iload rfl rfl rfl ?_
              refine EvQ.cs (1 + 0) (45225 + 0) rfl rfl ?_
              refine ev_invV0 (As := [.ref 2, .ref 4, .int a2, .int a3]) rfl rfl lk_X9_244 vt_X4_solve rfl rfl rfl rfl rfl (by decide) (w_X4_solve_f L h24 hJ24.1 (fun j => ((k24.2 95 j rfl).trans (hz j))) a2 a3 b19) (fun v_ G_ h25 hq_ _ => ?_)
              obtain ⟨rfl, rfl, hq_⟩ := hq_
              have hJ25 := JW.call hJ24 hq_ rfl
              refine ev_aload_n rfl rfl rfl ?_
              refine ev_getR (y := 37) rfl rfl fl_X9_50 rfl rfl rfl rfl ?_
              refine ev_iload_n rfl rfl rfl ?_
              refine ev_iload_n rfl rfl rfl ?_
              refine ev_iload_n rfl rfl rfl ?_
              refine ev_iload rfl rfl rfl ?_
              refine ev_aload_n rfl rfl rfl ?_
              refine ev_getR (y := 11) rfl rfl fl_X9_29 rfl rfl rfl rfl ?_
              refine ev_getW (l := (-2147483648)) (u := 2147483647) hJ25.1 rfl rfl rfl fl_X9_233 rfl rfl rfl (fun v26 b26 e26 => ?_)
              refine ev_V5N hJ25 rfl rfl rfl lk_X9_248 vt_X4_remember rfl rfl rfl rfl rfl (w_X4_remember_37 L true h25 hJ25.1 a0 a1 a2 a3 v26) (fun h27 hJ27 k27  => ?_)
              refine ev_aload_n rfl rfl rfl ?_
              refine ev_getR (y := 37) rfl rfl fl_X9_50 rfl rfl rfl rfl ?_
              refine ev_iload rfl rfl rfl ?_
              refine ev_V1P rfl rfl lk_X9_252 vt_X4_answer rfl rfl rfl rfl rfl (w_X4_answer_37_v0_2 L true h27 hJ27.1 a4 b3) (fun r28 q28 => ?_)
              exact ev_iret rfl rfl rfl ⟨⟨_, rfl⟩, rfl, hJ27⟩

